set_option maxRecDepth 100000 in
set_option maxHeartbeats 4000000 in
/-- SilentTableModel.manyOf -/
theorem rf_c222 {d : Nat} {h : pm_H} {Q : Option Value → pm_H → Prop} {a0 : Int64}   (K : ∀ (r : Int32), Q (some (.int r)) h) : pm_R (d + 1) 222 0 [.long a0, pm_no, pm_no, pm_no] [] h Q := by
  refine pm_R_op pm_M222 (pc' := 1) (st' := [.int 0]) rfl rfl rfl ?_
  refine pm_R_lo pm_M222 (pc' := 2) (ls' := [.long a0, pm_no, .int 0, pm_no]) (st' := []) rfl rfl rfl ?_
  refine pm_R_op pm_M222 (pc' := 3) (st' := [.int 0]) rfl rfl rfl ?_
  refine pm_R_lo pm_M222 (pc' := 4) (ls' := [.long a0, pm_no, .int 0, .int 0]) (st' := []) rfl rfl rfl ?_
  have L_118 : ∀ (N : Nat) (x2_118 : Int32) (x3_118 : Int32), sf_B (-2147483648) 2147483647 x2_118 → sf_B 0 50 x3_118 → (50 - x3_118.toInt).toNat = N → pm_R (d + 1) 222 4 [.long a0, pm_no, .int x2_118, .int x3_118] [] h Q := by
    intro N
    induction N using Nat.strongRecOn with
    | ind N ih_118 =>
      intro x2_118 x3_118 Bx2_118 Bx3_118 hN_118
      refine pm_R_lo pm_M222 (pc' := 5) rfl rfl rfl ?_
      refine pm_R_op pm_M222 (pc' := 7) (st' := [.int 50, .int x3_118]) rfl rfl rfl ?_
      refine pm_R_icmp pm_M222 (t := 32) (pc' := 10) rfl rfl rfl (fun c119 => ?_) (fun c119 => ?_)
      · have B120 : sf_B 50 50 x3_118 := sf_leR c119 sf_k50 Bx3_118
        refine pm_R_lo pm_M222 (pc' := 33) rfl rfl rfl ?_
        exact pm_R_ret pm_M222 (r := some (.int x2_118)) rfl (pm_ret_i _) (K x2_118)
      · have B121 : sf_B 0 49 x3_118 := sf_ltL (Int32.not_le.mp c119) Bx3_118 sf_k50
        refine pm_R_lo pm_M222 (pc' := 11) rfl rfl rfl ?_
        refine pm_R_lo pm_M222 (pc' := 12) rfl rfl rfl ?_
        refine pm_R_lo pm_M222 (pc' := 13) rfl rfl rfl ?_
        refine pm_R_cs pm_M222 (pc' := 16) (ra := [.int x3_118, .long a0]) (rest := [.int x2_118]) (ls' := [.long a0, pm_no, .int x3_118]) rfl rfl (Or.inl rfl) pm_M206 rfl rfl (Nat.le_of_ble_eq_true rfl) rfl rfl ?_
        refine pm_R_lo pm_M206 (pc' := 1) rfl rfl rfl ?_
        refine pm_R_lo pm_M206 (pc' := 2) rfl rfl rfl ?_
        refine sf_R_lany pm_M206 (pc' := 3) (st := []) rfl rfl rfl (fun z122 => ?_)
        refine pm_R_op pm_M206 (pc' := 4) (st' := [.long 1, .long z122]) rfl rfl rfl ?_
        refine sf_R_lany pm_M206 (pc' := 5) (st := []) rfl rfl rfl (fun z123 => ?_)
        refine pm_R_op pm_M206 (pc' := 6) (st' := [.long 1, .long z123]) rfl rfl rfl ?_
        refine sf_R_lcmp pm_M206 (pc' := 7) rfl rfl (fun z124 e125 => ?_)
        refine pm_R_ifc pm_M206 (t := 14) (pc' := 10) rfl rfl rfl (fun c126 => ?_) (fun c126 => ?_)
        · have k127 := sf_lneC e125 c126
          refine pm_R_op pm_M206 (pc' := 15) (st' := [.int 0]) rfl rfl rfl ?_
          refine pm_R_ret pm_M206 (r := some (.int 0)) rfl rfl ?_
          show pm_R _ 222 16 [.long a0, pm_no, .int x2_118, .int x3_118] [.int 0, .int x2_118] _ _
          refine pm_R_br pm_M222 (pc' := 23) (st' := [.int x2_118]) rfl rfl ?_
          refine pm_R_op pm_M222 (pc' := 24) (st' := [.int 0, .int x2_118]) rfl rfl rfl ?_
          refine sf_R_iadd pm_M222 (pc' := 25) rfl rfl Bx2_118 sf_k0 (by decide) (by decide) (fun z128 e129 B130 => ?_)
          refine pm_R_lo pm_M222 (pc' := 26) (ls' := [.long a0, pm_no, .int z128, .int x3_118]) (st' := []) rfl rfl rfl ?_
          refine sf_R_iinc pm_M222 (pc' := 29) (ls' := fun z => [.long a0, pm_no, .int z128, .int z]) rfl B121 rfl (by decide) (by decide) (by decide) (fun _ => rfl) rfl (fun z131 e132 B133 => ?_)
          show pm_R _ 222 29 [.long a0, pm_no, .int z128, .int z131] [] _ _
          refine pm_R_br pm_M222 (pc' := 4) rfl rfl ?_
          exact ih_118 _ (sf_up hN_118 e132 B121 (by decide) (by decide)) z128 z131 B130 (sf_weak B133 (by decide) (by decide)) rfl
        · have B134 : sf_B 0 0 z124 := sf_eqL (Classical.not_not.mp c126) sf_k0
          refine pm_R_op pm_M206 (pc' := 11) (st' := [.int 1]) rfl rfl rfl ?_
          refine pm_R_br pm_M206 (pc' := 15) rfl rfl ?_
          refine pm_R_ret pm_M206 (r := some (.int 1)) rfl rfl ?_
          show pm_R _ 222 16 [.long a0, pm_no, .int x2_118, .int x3_118] [.int 1, .int x2_118] _ _
          refine pm_R_br pm_M222 (pc' := 19) (st' := [.int x2_118]) rfl rfl ?_
          refine pm_R_op pm_M222 (pc' := 20) (st' := [.int 1, .int x2_118]) rfl rfl rfl ?_
          refine pm_R_br pm_M222 (pc' := 24) rfl rfl ?_
          refine sf_R_iany pm_M222 (pc' := 25) (st := []) rfl rfl rfl (fun z138 => ?_)
          refine pm_R_lo pm_M222 (pc' := 26) (ls' := [.long a0, pm_no, .int z138, .int x3_118]) (st' := []) rfl rfl rfl ?_
          refine sf_R_iinc pm_M222 (pc' := 29) (ls' := fun z => [.long a0, pm_no, .int z138, .int z]) rfl B121 rfl (by decide) (by decide) (by decide) (fun _ => rfl) rfl (fun z139 e140 B141 => ?_)
          show pm_R _ 222 29 [.long a0, pm_no, .int z138, .int z139] [] _ _
          refine pm_R_br pm_M222 (pc' := 4) rfl rfl ?_
          exact ih_118 _ (sf_up hN_118 e140 B121 (by decide) (by decide)) z138 z139 (sf_any z138) (sf_weak B141 (by decide) (by decide)) rfl
  exact L_118 _ 0 0 (sf_weak sf_k0 (by decide) (by decide)) (sf_weak sf_k0 (by decide) (by decide)) rfl

set_option maxRecDepth 100000 in
set_option maxHeartbeats 4000000 in
/-- SilentTableModel.turned -/
theorem rf_c219 {d : Nat} {h : pm_H} {Q : Option Value → pm_H → Prop} {a0 : Int64}   (K : ∀ (r : Int64), Q (some (.long r)) h) : pm_R (d + 1) 219 0 [.long a0, pm_no, pm_no, pm_no, pm_no] [] h Q := by
  refine pm_R_op pm_M219 (pc' := 1) (st' := [.long 0]) rfl rfl rfl ?_
  refine pm_R_lo pm_M219 (pc' := 2) (ls' := [.long a0, pm_no, .long 0, pm_no, pm_no]) (st' := []) rfl rfl rfl ?_
  refine pm_R_op pm_M219 (pc' := 3) (st' := [.int 0]) rfl rfl rfl ?_
  refine pm_R_lo pm_M219 (pc' := 5) (ls' := [.long a0, pm_no, .long 0, pm_no, .int 0]) (st' := []) rfl rfl rfl ?_
  have L_115 : ∀ (N : Nat) (x4_115 : Int32) (y2_115 : Int64), sf_B 0 50 x4_115 → (50 - x4_115.toInt).toNat = N → pm_R (d + 1) 219 5 [.long a0, pm_no, .long y2_115, pm_no, .int x4_115] [] h Q := by
    intro N
    induction N using Nat.strongRecOn with
    | ind N ih_115 =>
      intro x4_115 y2_115 Bx4_115 hN_115
      refine pm_R_lo pm_M219 (pc' := 7) rfl rfl rfl ?_
      refine pm_R_op pm_M219 (pc' := 9) (st' := [.int 50, .int x4_115]) rfl rfl rfl ?_
      refine pm_R_icmp pm_M219 (t := 41) (pc' := 12) rfl rfl rfl (fun c116 => ?_) (fun c116 => ?_)
      · have B117 : sf_B 50 50 x4_115 := sf_leR c116 sf_k50 Bx4_115
        refine pm_R_lo pm_M219 (pc' := 42) rfl rfl rfl ?_
        exact pm_R_ret pm_M219 (r := some (.long y2_115)) rfl rfl (K y2_115)
      · have B118 : sf_B 0 49 x4_115 := sf_ltL (Int32.not_le.mp c116) Bx4_115 sf_k50
        refine pm_R_lo pm_M219 (pc' := 13) rfl rfl rfl ?_
        refine pm_R_lo pm_M219 (pc' := 14) rfl rfl rfl ?_
        refine pm_R_lo pm_M219 (pc' := 16) rfl rfl rfl ?_
        refine pm_R_cs pm_M219 (pc' := 19) (ra := [.int x4_115, .long a0]) (rest := [.long y2_115]) (ls' := [.long a0, pm_no, .int x4_115]) rfl rfl (Or.inl rfl) pm_M206 rfl rfl (Nat.le_of_ble_eq_true rfl) rfl rfl ?_
        refine pm_R_lo pm_M206 (pc' := 1) rfl rfl rfl ?_
        refine pm_R_lo pm_M206 (pc' := 2) rfl rfl rfl ?_
        refine sf_R_lany pm_M206 (pc' := 3) (st := []) rfl rfl rfl (fun z119 => ?_)
        refine pm_R_op pm_M206 (pc' := 4) (st' := [.long 1, .long z119]) rfl rfl rfl ?_
        refine sf_R_lany pm_M206 (pc' := 5) (st := []) rfl rfl rfl (fun z120 => ?_)
        refine pm_R_op pm_M206 (pc' := 6) (st' := [.long 1, .long z120]) rfl rfl rfl ?_
        refine sf_R_lcmp pm_M206 (pc' := 7) rfl rfl (fun z121 e122 => ?_)
        refine pm_R_ifc pm_M206 (t := 14) (pc' := 10) rfl rfl rfl (fun c123 => ?_) (fun c123 => ?_)
        · have k124 := sf_lneC e122 c123
          refine pm_R_op pm_M206 (pc' := 15) (st' := [.int 0]) rfl rfl rfl ?_
          refine pm_R_ret pm_M206 (r := some (.int 0)) rfl rfl ?_
          show pm_R _ 219 19 [.long a0, pm_no, .long y2_115, pm_no, .int x4_115] [.int 0, .long y2_115] _ _
          refine pm_R_br pm_M219 (pc' := 32) (st' := [.long y2_115]) rfl rfl ?_
          refine pm_R_op pm_M219 (pc' := 33) (st' := [.long 0, .long y2_115]) rfl rfl rfl ?_
          refine sf_R_lany pm_M219 (pc' := 34) (st := []) rfl rfl rfl (fun z125 => ?_)
          refine pm_R_lo pm_M219 (pc' := 35) (ls' := [.long a0, pm_no, .long z125, pm_no, .int x4_115]) (st' := []) rfl rfl rfl ?_
          refine sf_R_iinc pm_M219 (pc' := 38) (ls' := fun z => [.long a0, pm_no, .long z125, pm_no, .int z]) rfl B118 rfl (by decide) (by decide) (by decide) (fun _ => rfl) rfl (fun z126 e127 B128 => ?_)
          show pm_R _ 219 38 [.long a0, pm_no, .long z125, pm_no, .int z126] [] _ _
          refine pm_R_br pm_M219 (pc' := 5) rfl rfl ?_
          exact ih_115 _ (sf_up hN_115 e127 B118 (by decide) (by decide)) z126 z125 (sf_weak B128 (by decide) (by decide)) rfl
        · have B129 : sf_B 0 0 z121 := sf_eqL (Classical.not_not.mp c123) sf_k0
          refine pm_R_op pm_M206 (pc' := 11) (st' := [.int 1]) rfl rfl rfl ?_
          refine pm_R_br pm_M206 (pc' := 15) rfl rfl ?_
          refine pm_R_ret pm_M206 (r := some (.int 1)) rfl rfl ?_
          show pm_R _ 219 19 [.long a0, pm_no, .long y2_115, pm_no, .int x4_115] [.int 1, .long y2_115] _ _
          refine pm_R_br pm_M219 (pc' := 22) (st' := [.long y2_115]) rfl rfl ?_
          refine pm_R_op pm_M219 (pc' := 23) (st' := [.long 1, .long y2_115]) rfl rfl rfl ?_
          refine pm_R_op pm_M219 (pc' := 25) (st' := [.int 49, .long 1, .long y2_115]) rfl rfl rfl ?_
          refine pm_R_lo pm_M219 (pc' := 27) rfl rfl rfl ?_
          refine sf_R_isub pm_M219 (pc' := 28) rfl rfl sf_k49 B118 (by decide) (by decide) (fun z130 e131 B132 => ?_)
          refine sf_R_lany pm_M219 (pc' := 29) (st := [.long y2_115]) rfl rfl rfl (fun z133 => ?_)
          refine pm_R_br pm_M219 (pc' := 33) rfl rfl ?_
          refine sf_R_lany pm_M219 (pc' := 34) (st := []) rfl rfl rfl (fun z134 => ?_)
          refine pm_R_lo pm_M219 (pc' := 35) (ls' := [.long a0, pm_no, .long z134, pm_no, .int x4_115]) (st' := []) rfl rfl rfl ?_
          refine sf_R_iinc pm_M219 (pc' := 38) (ls' := fun z => [.long a0, pm_no, .long z134, pm_no, .int z]) rfl B118 rfl (by decide) (by decide) (by decide) (fun _ => rfl) rfl (fun z135 e136 B137 => ?_)
          show pm_R _ 219 38 [.long a0, pm_no, .long z134, pm_no, .int z135] [] _ _
          refine pm_R_br pm_M219 (pc' := 5) rfl rfl ?_
          exact ih_115 _ (sf_up hN_115 e136 B118 (by decide) (by decide)) z135 z134 (sf_weak B137 (by decide) (by decide)) rfl
  exact L_115 _ 0 0 (sf_weak sf_k0 (by decide) (by decide)) rfl

set_option maxRecDepth 100000 in
set_option maxHeartbeats 4000000 in
/-- SilentTableModel.made -/
theorem rf_c218 {d : Nat} {h : pm_H} {Q : Option Value → pm_H → Prop} {a0 : Int32} {a1 : Int64} {a2 : Int64}   (K : ∀ (r : Int64), Q (some (.long r)) h) : pm_R (d + 2) 218 0 [.int a0, .long a1, pm_no, .long a2, pm_no, pm_no, pm_no, pm_no] [] h Q := by
  refine pm_R_lo pm_M218 (pc' := 1) rfl rfl rfl ?_
  refine pm_R_op pm_M218 (pc' := 2) (st' := [.long 0, .long a1]) rfl rfl rfl ?_
  refine sf_R_lcmp pm_M218 (pc' := 3) rfl rfl (fun z1 e2 => ?_)
  refine pm_R_ifc pm_M218 (t := 12) (pc' := 6) rfl rfl rfl (fun c3 => ?_) (fun c3 => ?_)
  · have B4 : sf_B 0 0 z1 := sf_eqL c3 sf_k0
    refine pm_R_op pm_M218 (pc' := 13) (st' := [.long 0]) rfl rfl rfl ?_
    exact pm_R_ret pm_M218 (r := some (.long 0)) rfl rfl (K 0)
  · have k5 := sf_lneC e2 c3
    refine pm_R_lo pm_M218 (pc' := 7) rfl rfl rfl ?_
    refine pm_R_op pm_M218 (pc' := 8) (st' := [.long 0, .long a2]) rfl rfl rfl ?_
    refine sf_R_lcmp pm_M218 (pc' := 9) rfl rfl (fun z6 e7 => ?_)
    refine pm_R_ifc pm_M218 (t := 14) (pc' := 12) rfl rfl rfl (fun c8 => ?_) (fun c8 => ?_)
    · have k9 := sf_lneC e7 c8
      refine pm_R_lo pm_M218 (pc' := 15) rfl rfl rfl ?_
      refine pm_R_ifc pm_M218 (t := 23) (pc' := 18) rfl rfl rfl (fun c10 => ?_) (fun c10 => ?_)
      · have B11 : sf_B 0 0 a0 := sf_eqL c10 sf_k0
        refine pm_R_lo pm_M218 (pc' := 24) rfl rfl rfl ?_
        refine pm_R_ifc pm_M218 (t := 31) (pc' := 27) rfl rfl rfl (fun c12 => absurd (sf_pt2 B11 sf_k0) c12) (fun c12 => ?_)
        refine pm_R_lo pm_M218 (pc' := 28) rfl rfl rfl ?_
        refine pm_R_br pm_M218 (pc' := 32) rfl rfl ?_
        exact pm_R_ret pm_M218 (r := some (.long a1)) rfl rfl (K a1)
      · skip
        refine pm_R_lo pm_M218 (pc' := 19) rfl rfl rfl ?_
        refine pm_R_op pm_M218 (pc' := 20) (st' := [.int 1, .int a0]) rfl rfl rfl ?_
        refine pm_R_icmp pm_M218 (t := 33) (pc' := 23) rfl rfl rfl (fun c13 => ?_) (fun c13 => ?_)
        · skip
          refine pm_R_lo pm_M218 (pc' := 34) rfl rfl rfl ?_
          refine pm_R_op pm_M218 (pc' := 35) (st' := [.int 4, .int a0]) rfl rfl rfl ?_
          refine pm_R_icmp pm_M218 (t := 43) (pc' := 38) rfl rfl rfl (fun c14 => ?_) (fun c14 => ?_)
          · skip
            refine pm_R_op pm_M218 (pc' := 44) (st' := [.long 0]) rfl rfl rfl ?_
            refine pm_R_lo pm_M218 (pc' := 46) (ls' := [.int a0, .long a1, pm_no, .long a2, pm_no, .long 0, pm_no, pm_no]) (st' := []) rfl rfl rfl ?_
            refine pm_R_op pm_M218 (pc' := 47) (st' := [.int 0]) rfl rfl rfl ?_
            refine pm_R_lo pm_M218 (pc' := 49) (ls' := [.int a0, .long a1, pm_no, .long a2, pm_no, .long 0, pm_no, .int 0]) (st' := []) rfl rfl rfl ?_
            have L_278 : ∀ (N : Nat) (x7_278 : Int32) (y5_278 : Int64), sf_B 0 50 x7_278 → (50 - x7_278.toInt).toNat = N → pm_R (d + 2) 218 49 [.int a0, .long a1, pm_no, .long a2, pm_no, .long y5_278, pm_no, .int x7_278] [] h Q := by
              intro N
              induction N using Nat.strongRecOn with
              | ind N ih_278 =>
                intro x7_278 y5_278 Bx7_278 hN_278
                refine pm_R_lo pm_M218 (pc' := 51) rfl rfl rfl ?_
                refine pm_R_op pm_M218 (pc' := 53) (st' := [.int 50, .int x7_278]) rfl rfl rfl ?_
                refine pm_R_icmp pm_M218 (t := 104) (pc' := 56) rfl rfl rfl (fun c279 => ?_) (fun c279 => ?_)
                · have B280 : sf_B 50 50 x7_278 := sf_leR c279 sf_k50 Bx7_278
                  refine pm_R_lo pm_M218 (pc' := 106) rfl rfl rfl ?_
                  exact pm_R_ret pm_M218 (r := some (.long y5_278)) rfl rfl (K y5_278)
                · have B281 : sf_B 0 49 x7_278 := sf_ltL (Int32.not_le.mp c279) Bx7_278 sf_k50
                  refine pm_R_lo pm_M218 (pc' := 58) rfl rfl rfl ?_
                  refine pm_R_lo pm_M218 (pc' := 59) rfl rfl rfl ?_
                  refine pm_R_lo pm_M218 (pc' := 61) rfl rfl rfl ?_
                  refine pm_R_cs pm_M218 (pc' := 64) (ra := [.int x7_278, .long a2]) (rest := [.long y5_278]) (ls' := [.long a2, pm_no, .int x7_278]) rfl rfl (Or.inl rfl) pm_M206 rfl rfl (Nat.le_of_ble_eq_true rfl) rfl rfl ?_
                  refine pm_R_lo pm_M206 (pc' := 1) rfl rfl rfl ?_
                  refine pm_R_lo pm_M206 (pc' := 2) rfl rfl rfl ?_
                  refine sf_R_lany pm_M206 (pc' := 3) (st := []) rfl rfl rfl (fun z282 => ?_)
                  refine pm_R_op pm_M206 (pc' := 4) (st' := [.long 1, .long z282]) rfl rfl rfl ?_
                  refine sf_R_lany pm_M206 (pc' := 5) (st := []) rfl rfl rfl (fun z283 => ?_)
                  refine pm_R_op pm_M206 (pc' := 6) (st' := [.long 1, .long z283]) rfl rfl rfl ?_
                  refine sf_R_lcmp pm_M206 (pc' := 7) rfl rfl (fun z284 e285 => ?_)
                  refine pm_R_ifc pm_M206 (t := 14) (pc' := 10) rfl rfl rfl (fun c286 => ?_) (fun c286 => ?_)
                  · have k287 := sf_lneC e285 c286
                    refine pm_R_op pm_M206 (pc' := 15) (st' := [.int 0]) rfl rfl rfl ?_
                    refine pm_R_ret pm_M206 (r := some (.int 0)) rfl rfl ?_
                    show pm_R _ 218 64 [.int a0, .long a1, pm_no, .long a2, pm_no, .long y5_278, pm_no, .int x7_278] [.int 0, .long y5_278] _ _
                    refine pm_R_br pm_M218 (pc' := 94) (st' := [.long y5_278]) rfl rfl ?_
                    refine pm_R_op pm_M218 (pc' := 95) (st' := [.long 0, .long y5_278]) rfl rfl rfl ?_
                    refine sf_R_lany pm_M218 (pc' := 96) (st := []) rfl rfl rfl (fun z288 => ?_)
                    refine pm_R_lo pm_M218 (pc' := 98) (ls' := [.int a0, .long a1, pm_no, .long a2, pm_no, .long z288, pm_no, .int x7_278]) (st' := []) rfl rfl rfl ?_
                    refine sf_R_iinc pm_M218 (pc' := 101) (ls' := fun z => [.int a0, .long a1, pm_no, .long a2, pm_no, .long z288, pm_no, .int z]) rfl B281 rfl (by decide) (by decide) (by decide) (fun _ => rfl) rfl (fun z289 e290 B291 => ?_)
                    show pm_R _ 218 101 [.int a0, .long a1, pm_no, .long a2, pm_no, .long z288, pm_no, .int z289] [] _ _
                    refine pm_R_br pm_M218 (pc' := 49) rfl rfl ?_
                    exact ih_278 _ (sf_up hN_278 e290 B281 (by decide) (by decide)) z289 z288 (sf_weak B291 (by decide) (by decide)) rfl
                  · have B292 : sf_B 0 0 z284 := sf_eqL (Classical.not_not.mp c286) sf_k0
                    refine pm_R_op pm_M206 (pc' := 11) (st' := [.int 1]) rfl rfl rfl ?_
                    refine pm_R_br pm_M206 (pc' := 15) rfl rfl ?_
                    refine pm_R_ret pm_M206 (r := some (.int 1)) rfl rfl ?_
                    show pm_R _ 218 64 [.int a0, .long a1, pm_no, .long a2, pm_no, .long y5_278, pm_no, .int x7_278] [.int 1, .long y5_278] _ _
                    refine pm_R_br pm_M218 (pc' := 67) (st' := [.long y5_278]) rfl rfl ?_
                    refine pm_R_lo pm_M218 (pc' := 68) rfl rfl rfl ?_
                    refine pm_R_lo pm_M218 (pc' := 69) rfl rfl rfl ?_
                    refine pm_R_op pm_M218 (pc' := 70) (st' := [.int 2, .int a0, .long a1, .long y5_278]) rfl rfl rfl ?_
                    refine pm_R_icmp pm_M218 (t := 78) (pc' := 73) rfl rfl rfl (fun c293 => ?_) (fun c293 => ?_)
                    · have B294 : sf_B 2 2 a0 := sf_eqL c293 sf_k2
                      refine pm_R_lo pm_M218 (pc' := 80) rfl rfl rfl ?_
                      refine pm_R_br pm_M218 (pc' := 88) rfl rfl ?_
                      refine pm_R_cs pm_M218 (pc' := 91) (ra := [.int x7_278, .long a1]) (rest := [.long y5_278]) (ls' := [.long a1, pm_no, .int x7_278]) rfl rfl (Or.inl rfl) pm_M220 rfl rfl (Nat.le_of_ble_eq_true rfl) rfl rfl ?_
                      refine pm_R_lo pm_M220 (pc' := 1) rfl rfl rfl ?_
                      refine pm_R_lo pm_M220 (pc' := 2) rfl rfl rfl ?_
                      refine sf_R_lany pm_M220 (pc' := 3) (st := []) rfl rfl rfl (fun z295 => ?_)
                      refine pm_R_lo pm_M220 (pc' := 4) rfl rfl rfl ?_
                      refine pm_R_op pm_M220 (pc' := 6) (st' := [.int 50, .long a1, .long z295]) rfl rfl rfl ?_
                      refine pm_R_lo pm_M220 (pc' := 7) rfl rfl rfl ?_
                      refine sf_R_isub pm_M220 (pc' := 8) rfl rfl sf_k50 B281 (by decide) (by decide) (fun z296 e297 B298 => ?_)
                      refine sf_R_lany pm_M220 (pc' := 9) (st := [.long z295]) rfl rfl rfl (fun z299 => ?_)
                      refine sf_R_lany pm_M220 (pc' := 10) (st := []) rfl rfl rfl (fun z300 => ?_)
                      refine pm_R_ldc2 pm_M220 (pc' := 13) rfl rfl rfl ?_
                      refine sf_R_lany pm_M220 (pc' := 14) (st := []) rfl rfl rfl (fun z301 => ?_)
                      refine pm_R_ret pm_M220 (r := some (.long z301)) rfl rfl ?_
                      show pm_R _ 218 91 [.int a0, .long a1, pm_no, .long a2, pm_no, .long y5_278, pm_no, .int x7_278] [.long z301, .long y5_278] _ _
                      refine pm_R_br pm_M218 (pc' := 95) rfl rfl ?_
                      refine sf_R_lany pm_M218 (pc' := 96) (st := []) rfl rfl rfl (fun z302 => ?_)
                      refine pm_R_lo pm_M218 (pc' := 98) (ls' := [.int a0, .long a1, pm_no, .long a2, pm_no, .long z302, pm_no, .int x7_278]) (st' := []) rfl rfl rfl ?_
                      refine sf_R_iinc pm_M218 (pc' := 101) (ls' := fun z => [.int a0, .long a1, pm_no, .long a2, pm_no, .long z302, pm_no, .int z]) rfl B281 rfl (by decide) (by decide) (by decide) (fun _ => rfl) rfl (fun z303 e304 B305 => ?_)
                      show pm_R _ 218 101 [.int a0, .long a1, pm_no, .long a2, pm_no, .long z302, pm_no, .int z303] [] _ _
                      refine pm_R_br pm_M218 (pc' := 49) rfl rfl ?_
                      exact ih_278 _ (sf_up hN_278 e304 B281 (by decide) (by decide)) z303 z302 (sf_weak B305 (by decide) (by decide)) rfl
                    · skip
                      refine pm_R_lo pm_M218 (pc' := 75) rfl rfl rfl ?_
                      refine pm_R_ifc pm_M218 (t := 83) (pc' := 78) rfl rfl rfl (fun c306 => ?_) (fun c306 => ?_)
                      · have B307 : sf_B 1 49 x7_278 := sf_neL0 c306 sf_k0 B281
                        refine pm_R_op pm_M218 (pc' := 85) (st' := [.int 50, .long a1, .long y5_278]) rfl rfl rfl ?_
                        refine pm_R_lo pm_M218 (pc' := 87) rfl rfl rfl ?_
                        refine sf_R_isub pm_M218 (pc' := 88) rfl rfl sf_k50 B307 (by decide) (by decide) (fun z308 e309 B310 => ?_)
                        refine pm_R_cs pm_M218 (pc' := 91) (ra := [.int z308, .long a1]) (rest := [.long y5_278]) (ls' := [.long a1, pm_no, .int z308]) rfl rfl (Or.inl rfl) pm_M220 rfl rfl (Nat.le_of_ble_eq_true rfl) rfl rfl ?_
                        refine pm_R_lo pm_M220 (pc' := 1) rfl rfl rfl ?_
                        refine pm_R_lo pm_M220 (pc' := 2) rfl rfl rfl ?_
                        refine sf_R_lany pm_M220 (pc' := 3) (st := []) rfl rfl rfl (fun z311 => ?_)
                        refine pm_R_lo pm_M220 (pc' := 4) rfl rfl rfl ?_
                        refine pm_R_op pm_M220 (pc' := 6) (st' := [.int 50, .long a1, .long z311]) rfl rfl rfl ?_
                        refine pm_R_lo pm_M220 (pc' := 7) rfl rfl rfl ?_
                        refine sf_R_isub pm_M220 (pc' := 8) rfl rfl sf_k50 B310 (by decide) (by decide) (fun z312 e313 B314 => ?_)
                        refine sf_R_lany pm_M220 (pc' := 9) (st := [.long z311]) rfl rfl rfl (fun z315 => ?_)
                        refine sf_R_lany pm_M220 (pc' := 10) (st := []) rfl rfl rfl (fun z316 => ?_)
                        refine pm_R_ldc2 pm_M220 (pc' := 13) rfl rfl rfl ?_
                        refine sf_R_lany pm_M220 (pc' := 14) (st := []) rfl rfl rfl (fun z317 => ?_)
                        refine pm_R_ret pm_M220 (r := some (.long z317)) rfl rfl ?_
                        show pm_R _ 218 91 [.int a0, .long a1, pm_no, .long a2, pm_no, .long y5_278, pm_no, .int x7_278] [.long z317, .long y5_278] _ _
                        refine pm_R_br pm_M218 (pc' := 95) rfl rfl ?_
                        refine sf_R_lany pm_M218 (pc' := 96) (st := []) rfl rfl rfl (fun z318 => ?_)
                        refine pm_R_lo pm_M218 (pc' := 98) (ls' := [.int a0, .long a1, pm_no, .long a2, pm_no, .long z318, pm_no, .int x7_278]) (st' := []) rfl rfl rfl ?_
                        refine sf_R_iinc pm_M218 (pc' := 101) (ls' := fun z => [.int a0, .long a1, pm_no, .long a2, pm_no, .long z318, pm_no, .int z]) rfl B307 rfl (by decide) (by decide) (by decide) (fun _ => rfl) rfl (fun z319 e320 B321 => ?_)
                        show pm_R _ 218 101 [.int a0, .long a1, pm_no, .long a2, pm_no, .long z318, pm_no, .int z319] [] _ _
                        refine pm_R_br pm_M218 (pc' := 49) rfl rfl ?_
                        exact ih_278 _ (sf_up hN_278 e320 B307 (by decide) (by decide)) z319 z318 (sf_weak B321 (by decide) (by decide)) rfl
                      · have B322 : sf_B 0 0 x7_278 := sf_eqL (Classical.not_not.mp c306) sf_k0
                        refine pm_R_lo pm_M218 (pc' := 80) rfl rfl rfl ?_
                        refine pm_R_br pm_M218 (pc' := 88) rfl rfl ?_
                        refine pm_R_cs pm_M218 (pc' := 91) (ra := [.int x7_278, .long a1]) (rest := [.long y5_278]) (ls' := [.long a1, pm_no, .int x7_278]) rfl rfl (Or.inl rfl) pm_M220 rfl rfl (Nat.le_of_ble_eq_true rfl) rfl rfl ?_
                        refine pm_R_lo pm_M220 (pc' := 1) rfl rfl rfl ?_
                        refine pm_R_lo pm_M220 (pc' := 2) rfl rfl rfl ?_
                        refine sf_R_lany pm_M220 (pc' := 3) (st := []) rfl rfl rfl (fun z323 => ?_)
                        refine pm_R_lo pm_M220 (pc' := 4) rfl rfl rfl ?_
                        refine pm_R_op pm_M220 (pc' := 6) (st' := [.int 50, .long a1, .long z323]) rfl rfl rfl ?_
                        refine pm_R_lo pm_M220 (pc' := 7) rfl rfl rfl ?_
                        refine sf_R_isub pm_M220 (pc' := 8) rfl rfl sf_k50 B322 (by decide) (by decide) (fun z324 e325 B326 => ?_)
                        refine sf_R_lany pm_M220 (pc' := 9) (st := [.long z323]) rfl rfl rfl (fun z327 => ?_)
                        refine sf_R_lany pm_M220 (pc' := 10) (st := []) rfl rfl rfl (fun z328 => ?_)
                        refine pm_R_ldc2 pm_M220 (pc' := 13) rfl rfl rfl ?_
                        refine sf_R_lany pm_M220 (pc' := 14) (st := []) rfl rfl rfl (fun z329 => ?_)
                        refine pm_R_ret pm_M220 (r := some (.long z329)) rfl rfl ?_
                        show pm_R _ 218 91 [.int a0, .long a1, pm_no, .long a2, pm_no, .long y5_278, pm_no, .int x7_278] [.long z329, .long y5_278] _ _
                        refine pm_R_br pm_M218 (pc' := 95) rfl rfl ?_
                        refine sf_R_lany pm_M218 (pc' := 96) (st := []) rfl rfl rfl (fun z330 => ?_)
                        refine pm_R_lo pm_M218 (pc' := 98) (ls' := [.int a0, .long a1, pm_no, .long a2, pm_no, .long z330, pm_no, .int x7_278]) (st' := []) rfl rfl rfl ?_
                        refine sf_R_iinc pm_M218 (pc' := 101) (ls' := fun z => [.int a0, .long a1, pm_no, .long a2, pm_no, .long z330, pm_no, .int z]) rfl B322 rfl (by decide) (by decide) (by decide) (fun _ => rfl) rfl (fun z331 e332 B333 => ?_)
                        show pm_R _ 218 101 [.int a0, .long a1, pm_no, .long a2, pm_no, .long z330, pm_no, .int z331] [] _ _
                        refine pm_R_br pm_M218 (pc' := 49) rfl rfl ?_
                        exact ih_278 _ (sf_up hN_278 e332 B322 (by decide) (by decide)) z331 z330 (sf_weak B333 (by decide) (by decide)) rfl
            exact L_278 _ 0 0 (sf_weak sf_k0 (by decide) (by decide)) rfl
          · have B334 : sf_B 4 4 a0 := sf_eqL (Classical.not_not.mp c14) sf_k4
            refine pm_R_lo pm_M218 (pc' := 39) rfl rfl rfl ?_
            refine pm_R_cs pm_M218 (pc' := 42) (ra := [.long a2]) (rest := []) (ls' := [.long a2, pm_no, pm_no, pm_no, pm_no]) rfl rfl (Or.inl rfl) pm_M219 rfl rfl (Nat.le_of_ble_eq_true rfl) rfl rfl ?_
            refine rf_c219 (d := d + 0)  (fun r335 => ?_)
            show pm_R _ 218 42 [.int a0, .long a1, pm_no, .long a2, pm_no, pm_no, pm_no, pm_no] [.long r335] _ _
            exact pm_R_ret pm_M218 (r := some (.long r335)) rfl rfl (K r335)
        · have B343 : sf_B 1 1 a0 := sf_eqL (Classical.not_not.mp c13) sf_k1
          refine pm_R_lo pm_M218 (pc' := 24) rfl rfl rfl ?_
          refine pm_R_ifc pm_M218 (t := 31) (pc' := 27) rfl rfl rfl (fun c344 => ?_) (fun c344 => absurd (Classical.not_not.mp c344) (sf_neq1 B343 sf_k0 (by decide)))
          skip
          refine pm_R_lo pm_M218 (pc' := 32) rfl rfl rfl ?_
          exact pm_R_ret pm_M218 (r := some (.long a2)) rfl rfl (K a2)
    · have B345 : sf_B 0 0 z6 := sf_eqL (Classical.not_not.mp c8) sf_k0
      refine pm_R_op pm_M218 (pc' := 13) (st' := [.long 0]) rfl rfl rfl ?_
      exact pm_R_ret pm_M218 (r := some (.long 0)) rfl rfl (K 0)

set_option maxRecDepth 100000 in
set_option maxHeartbeats 4000000 in
/-- SilentTableModel.tell -/
theorem rf_c221 {d : Nat} {h : pm_H} {Q : Option Value → pm_H → Prop} {a0 : Int64} {a1 : Int32}   (K : ∀ (r : Int32), Q (some (.int r)) h) : pm_R (d + 2) 221 0 [.long a0, pm_no, .int a1, pm_no, pm_no] [] h Q := by
  refine pm_R_lo pm_M221 (pc' := 1) rfl rfl rfl ?_
  refine pm_R_op pm_M221 (pc' := 2) (st' := [.int (-1), .int a1]) rfl rfl rfl ?_
  refine pm_R_icmp pm_M221 (t := 10) (pc' := 5) rfl rfl rfl (fun c1 => ?_) (fun c1 => ?_)
  · skip
    refine pm_R_lo pm_M221 (pc' := 11) rfl rfl rfl ?_
    refine pm_R_lo pm_M221 (pc' := 12) (ls' := [.long a0, pm_no, .int a1, .int a1, pm_no]) (st' := []) rfl rfl rfl ?_
    refine pm_R_op pm_M221 (pc' := 13) (st' := [.int 0]) rfl rfl rfl ?_
    refine pm_R_lo pm_M221 (pc' := 15) (ls' := [.long a0, pm_no, .int a1, .int a1, .int 0]) (st' := []) rfl rfl rfl ?_
    have L_116 : ∀ (N : Nat) (x3_116 : Int32) (x4_116 : Int32), sf_B (-2147483648) 2147483647 x3_116 → sf_B 0 50 x4_116 → (50 - x4_116.toInt).toNat = N → pm_R (d + 2) 221 15 [.long a0, pm_no, .int a1, .int x3_116, .int x4_116] [] h Q := by
      intro N
      induction N using Nat.strongRecOn with
      | ind N ih_116 =>
        intro x3_116 x4_116 Bx3_116 Bx4_116 hN_116
        refine pm_R_lo pm_M221 (pc' := 17) rfl rfl rfl ?_
        refine pm_R_op pm_M221 (pc' := 19) (st' := [.int 50, .int x4_116]) rfl rfl rfl ?_
        refine pm_R_icmp pm_M221 (t := 51) (pc' := 22) rfl rfl rfl (fun c117 => ?_) (fun c117 => ?_)
        · have B118 : sf_B 50 50 x4_116 := sf_leR c117 sf_k50 Bx4_116
          refine pm_R_op pm_M221 (pc' := 53) (st' := [.int (-2)]) rfl rfl rfl ?_
          exact pm_R_ret pm_M221 (r := some (.int (-2))) rfl rfl (K (-2))
        · have B119 : sf_B 0 49 x4_116 := sf_ltL (Int32.not_le.mp c117) Bx4_116 sf_k50
          refine pm_R_lo pm_M221 (pc' := 23) rfl rfl rfl ?_
          refine pm_R_ifc pm_M221 (t := 51) (pc' := 26) rfl rfl rfl (fun c120 => ?_) (fun c120 => ?_)
          · have B121 : sf_B (-2147483648) (-1) a1 := sf_ltL c120 (sf_any a1) sf_k0
            refine pm_R_op pm_M221 (pc' := 53) (st' := [.int (-2)]) rfl rfl rfl ?_
            exact pm_R_ret pm_M221 (r := some (.int (-2))) rfl rfl (K (-2))
          · have B122 : sf_B 0 2147483647 a1 := sf_leR (Int32.not_lt.mp c120) sf_k0 (sf_any a1)
            refine pm_R_lo pm_M221 (pc' := 27) rfl rfl rfl ?_
            refine pm_R_lo pm_M221 (pc' := 29) rfl rfl rfl ?_
            refine pm_R_cs pm_M221 (pc' := 32) (ra := [.int x4_116, .long a0]) (rest := []) (ls' := [.long a0, pm_no, .int x4_116]) rfl rfl (Or.inl rfl) pm_M206 rfl rfl (Nat.le_of_ble_eq_true rfl) rfl rfl ?_
            refine pm_R_lo pm_M206 (pc' := 1) rfl rfl rfl ?_
            refine pm_R_lo pm_M206 (pc' := 2) rfl rfl rfl ?_
            refine sf_R_lany pm_M206 (pc' := 3) (st := []) rfl rfl rfl (fun z123 => ?_)
            refine pm_R_op pm_M206 (pc' := 4) (st' := [.long 1, .long z123]) rfl rfl rfl ?_
            refine sf_R_lany pm_M206 (pc' := 5) (st := []) rfl rfl rfl (fun z124 => ?_)
            refine pm_R_op pm_M206 (pc' := 6) (st' := [.long 1, .long z124]) rfl rfl rfl ?_
            refine sf_R_lcmp pm_M206 (pc' := 7) rfl rfl (fun z125 e126 => ?_)
            refine pm_R_ifc pm_M206 (t := 14) (pc' := 10) rfl rfl rfl (fun c127 => ?_) (fun c127 => ?_)
            · have k128 := sf_lneC e126 c127
              refine pm_R_op pm_M206 (pc' := 15) (st' := [.int 0]) rfl rfl rfl ?_
              refine pm_R_ret pm_M206 (r := some (.int 0)) rfl rfl ?_
              show pm_R _ 221 32 [.long a0, pm_no, .int a1, .int x3_116, .int x4_116] [.int 0] _ _
              refine pm_R_br pm_M221 (pc' := 45) (st' := []) rfl rfl ?_
              refine sf_R_iinc pm_M221 (pc' := 48) (ls' := fun z => [.long a0, pm_no, .int a1, .int x3_116, .int z]) rfl B119 rfl (by decide) (by decide) (by decide) (fun _ => rfl) rfl (fun z129 e130 B131 => ?_)
              show pm_R _ 221 48 [.long a0, pm_no, .int a1, .int x3_116, .int z129] [] _ _
              refine pm_R_br pm_M221 (pc' := 15) rfl rfl ?_
              exact ih_116 _ (sf_up hN_116 e130 B119 (by decide) (by decide)) x3_116 z129 Bx3_116 (sf_weak B131 (by decide) (by decide)) rfl
            · have B132 : sf_B 0 0 z125 := sf_eqL (Classical.not_not.mp c127) sf_k0
              refine pm_R_op pm_M206 (pc' := 11) (st' := [.int 1]) rfl rfl rfl ?_
              refine pm_R_br pm_M206 (pc' := 15) rfl rfl ?_
              refine pm_R_ret pm_M206 (r := some (.int 1)) rfl rfl ?_
              show pm_R _ 221 32 [.long a0, pm_no, .int a1, .int x3_116, .int x4_116] [.int 1] _ _
              refine pm_R_br pm_M221 (pc' := 35) (st' := []) rfl rfl ?_
              refine pm_R_lo pm_M221 (pc' := 36) rfl rfl rfl ?_
              refine pm_R_ifc pm_M221 (t := 42) (pc' := 39) rfl rfl rfl (fun c133 => ?_) (fun c133 => ?_)
              · skip
                refine sf_R_iincA pm_M221 (pc' := 45) (ls' := fun z => [.long a0, pm_no, .int a1, .int z, .int x4_116]) rfl rfl (fun _ => rfl) rfl (fun z134 => ?_)
                show pm_R _ 221 45 [.long a0, pm_no, .int a1, .int z134, .int x4_116] [] _ _
                refine sf_R_iinc pm_M221 (pc' := 48) (ls' := fun z => [.long a0, pm_no, .int a1, .int z134, .int z]) rfl B119 rfl (by decide) (by decide) (by decide) (fun _ => rfl) rfl (fun z135 e136 B137 => ?_)
                show pm_R _ 221 48 [.long a0, pm_no, .int a1, .int z134, .int z135] [] _ _
                refine pm_R_br pm_M221 (pc' := 15) rfl rfl ?_
                exact ih_116 _ (sf_up hN_116 e136 B119 (by decide) (by decide)) z134 z135 (sf_any z134) (sf_weak B137 (by decide) (by decide)) rfl
              · have B138 : sf_B 0 0 x3_116 := sf_eqL (Classical.not_not.mp c133) sf_k0
                refine pm_R_lo pm_M221 (pc' := 41) rfl rfl rfl ?_
                exact pm_R_ret pm_M221 (r := some (.int x4_116)) rfl (pm_ret_i _) (K x4_116)
    exact L_116 _ a1 0 (sf_any a1) (sf_weak sf_k0 (by decide) (by decide)) rfl
  · have B139 : sf_B (-1) (-1) a1 := sf_eqL (Classical.not_not.mp c1) sf_kn1
    refine pm_R_lo pm_M221 (pc' := 6) rfl rfl rfl ?_
    refine pm_R_cs pm_M221 (pc' := 9) (ra := [.long a0]) (rest := []) (ls' := [.long a0, pm_no, pm_no, pm_no]) rfl rfl (Or.inl rfl) pm_M222 rfl rfl (Nat.le_of_ble_eq_true rfl) rfl rfl ?_
    refine rf_c222 (d := d + 0)  (fun r140 => ?_)
    show pm_R _ 221 9 [.long a0, pm_no, .int a1, pm_no, pm_no] [.int r140] _ _
    exact pm_R_ret pm_M221 (r := some (.int r140)) rfl (pm_ret_i _) (K r140)

set_option maxRecDepth 100000 in
set_option maxHeartbeats 4000000 in
/-- SilentTableModel.rowsOf -/
theorem rf_c242 {d : Nat} {h : pm_H} {Q : Option Value → pm_H → Prop} {a0 : Int32}  (Ba0 : sf_B 0 4 a0) (K : ∀ (r : Int32), Q (some (.int r)) h) : pm_R (d + 0) 242 0 [.int a0, pm_no, pm_no] [] h Q := by
  refine pm_R_op pm_M242 (pc' := 1) (st' := [.int 1]) rfl rfl rfl ?_
  refine pm_R_lo pm_M242 (pc' := 2) (ls' := [.int a0, .int 1, pm_no]) (st' := []) rfl rfl rfl ?_
  refine pm_R_op pm_M242 (pc' := 3) (st' := [.int 0]) rfl rfl rfl ?_
  refine pm_R_lo pm_M242 (pc' := 4) (ls' := [.int a0, .int 1, .int 0]) (st' := []) rfl rfl rfl ?_
  have L_59 : ∀ (N : Nat) (x1_59 : Int32) (x2_59 : Int32), sf_B (-2147483648) 2147483647 x1_59 → sf_B 0 4 x2_59 → (4 - x2_59.toInt).toNat = N → pm_R (d + 0) 242 4 [.int a0, .int x1_59, .int x2_59] [] h Q := by
    intro N
    induction N using Nat.strongRecOn with
    | ind N ih_59 =>
      intro x1_59 x2_59 Bx1_59 Bx2_59 hN_59
      refine pm_R_lo pm_M242 (pc' := 5) rfl rfl rfl ?_
      refine pm_R_lo pm_M242 (pc' := 6) rfl rfl rfl ?_
      refine pm_R_icmp pm_M242 (t := 20) (pc' := 9) rfl rfl rfl (fun c60 => ?_) (fun c60 => ?_)
      · skip
        refine pm_R_lo pm_M242 (pc' := 21) rfl rfl rfl ?_
        exact pm_R_ret pm_M242 (r := some (.int x1_59)) rfl (pm_ret_i _) (K x1_59)
      · have B61 : sf_B 0 3 x2_59 := sf_ltL (Int32.not_le.mp c60) Bx2_59 Ba0
        have B62 : sf_B 1 4 a0 := sf_ltR (Int32.not_le.mp c60) Bx2_59 Ba0
        refine pm_R_lo pm_M242 (pc' := 10) rfl rfl rfl ?_
        refine pm_R_op pm_M242 (pc' := 12) (st' := [.int 10, .int x1_59]) rfl rfl rfl ?_
        refine sf_R_iany pm_M242 (pc' := 13) (st := []) rfl rfl rfl (fun z66 => ?_)
        refine pm_R_lo pm_M242 (pc' := 14) (ls' := [.int a0, .int z66, .int x2_59]) (st' := []) rfl rfl rfl ?_
        refine sf_R_iinc pm_M242 (pc' := 17) (ls' := fun z => [.int a0, .int z66, .int z]) rfl B61 rfl (by decide) (by decide) (by decide) (fun _ => rfl) rfl (fun z67 e68 B69 => ?_)
        show pm_R _ 242 17 [.int a0, .int z66, .int z67] [] _ _
        refine pm_R_br pm_M242 (pc' := 4) rfl rfl ?_
        exact ih_59 _ (sf_up hN_59 e68 B61 (by decide) (by decide)) z66 z67 (sf_any z66) (sf_weak B69 (by decide) (by decide)) rfl
  exact L_59 _ 1 0 (sf_weak sf_k1 (by decide) (by decide)) (sf_weak sf_k0 (by decide) (by decide)) rfl

set_option maxRecDepth 100000 in
set_option maxHeartbeats 4000000 in
/-- SilentTableModel.valuesOf -/
theorem rf_c217 {d : Nat} {m : Nat → Int32} {w : Int64} {h : pm_H} {Q : Option Value → pm_H → Prop} {a0 : Int32} {a1 : Int32} {a2 : Int32} (T : rf_T m w h) (Ba0 : sf_B 0 5 a0) (Ba1 : sf_B 0 11 a1) (Ba2 : sf_B 0 11 a2) (K : ∀ (r : Int64), Q (some (.long r)) h) : pm_R (d + 3) 217 0 [.ref 41, .int a0, .int a1, .int a2, pm_no, pm_no, pm_no, pm_no] [] h Q := by
  refine pm_R_op pm_M217 (pc' := 1) (st' := [.long 0]) rfl rfl rfl ?_
  refine pm_R_lo pm_M217 (pc' := 3) (ls' := [.ref 41, .int a0, .int a1, .int a2, .long 0, pm_no, pm_no, pm_no]) (st' := []) rfl rfl rfl ?_
  refine pm_R_op pm_M217 (pc' := 4) (st' := [.int 0]) rfl rfl rfl ?_
  refine pm_R_lo pm_M217 (pc' := 6) (ls' := [.ref 41, .int a0, .int a1, .int a2, .long 0, pm_no, .int 0, pm_no]) (st' := []) rfl rfl rfl ?_
  have L_1426 : ∀ (N : Nat) (x6_1426 : Int32) (y4_1426 : Int64) (g7_1426 : Value), sf_B 0 10 x6_1426 → g7_1426.category = 1 → (10 - x6_1426.toInt).toNat = N → pm_R (d + 3) 217 6 [.ref 41, .int a0, .int a1, .int a2, .long y4_1426, pm_no, .int x6_1426, g7_1426] [] h Q := by
    intro N
    induction N using Nat.strongRecOn with
    | ind N ih_1426 =>
      intro x6_1426 y4_1426 g7_1426 Bx6_1426 Cg7_1426 hN_1426
      refine pm_R_lo pm_M217 (pc' := 8) rfl rfl rfl ?_
      refine pm_R_lo pm_M217 (pc' := 9) rfl rfl rfl ?_
      refine pm_R_cv pm_M217 (pc' := 12) (a := 41) (ra := []) (rest := [.int x6_1426]) (ls' := [.ref 41]) rfl rfl (Or.inl rfl) pm_M209 T.2.1 rfl (by decide) (Nat.lt_of_lt_of_le (by decide) T.1) rfl rfl (Nat.le_of_ble_eq_true rfl) rfl rfl ?_
      refine pm_R_lo pm_M209 (pc' := 1) rfl rfl rfl ?_
      refine rf_R_get pm_M209 T (pc' := 4) (v := .ref 47) rfl rfl rfl rfl ?_
      refine pm_R_op pm_M209 (pc' := 6) (st' := [.int 100, .ref 47]) rfl rfl rfl ?_
      refine pm_R_lo pm_M209 (pc' := 7) rfl rfl rfl ?_
      have B1427 : sf_B 0 1 (m 23) := T.2.2.1 23
      refine rf_R_get pm_M209 T (pc' := 10) (v := .int (m 23)) rfl rfl rfl rfl ?_
      refine sf_R_imul pm_M209 (pc' := 11) rfl rfl sf_k100 B1427 (by decide) (by decide) (by decide) (fun z1428 e1429 B1430 => ?_)
      obtain ⟨f1431, e1432, b1433⟩ := T.2.2.2.1 47 (by decide) (by decide)
      refine rf_R_ild pm_M209 T (pc' := 12) rfl e1432 (by decide) (sf_in B1430 (by decide) (by decide)) rfl (fun z1434 ez1435 => ?_)
      have e1436 : (z1428).toInt = 100 * ((m 23)).toInt + 0 := by
        have q0 := e1429
        simp only [(show (100 : Int32).toInt = 100 from rfl)] at q0
        omega
      have B1437 : sf_B 0 10 z1434 := ez1435 ▸ rf_p47a b1433 e1436 B1427 (by decide)
      refine pm_R_ret pm_M209 (r := some (.int z1434)) rfl (pm_ret_i _) ?_
      show pm_R _ 217 12 [.ref 41, .int a0, .int a1, .int a2, .long y4_1426, pm_no, .int x6_1426, g7_1426] [.int z1434, .int x6_1426] _ _
      refine pm_R_icmp pm_M217 (t := 100) (pc' := 15) rfl rfl rfl (fun c1438 => ?_) (fun c1438 => ?_)
      · skip
        refine pm_R_lo pm_M217 (pc' := 102) rfl rfl rfl ?_
        exact pm_R_ret pm_M217 (r := some (.long y4_1426)) rfl rfl (K y4_1426)
      · have B1439 : sf_B 0 9 x6_1426 := sf_ltL (Int32.not_le.mp c1438) Bx6_1426 B1437
        have B1440 : sf_B 1 10 z1434 := sf_ltR (Int32.not_le.mp c1438) Bx6_1426 B1437
        refine pm_R_lo pm_M217 (pc' := 16) rfl rfl rfl ?_
        refine pm_R_lo pm_M217 (pc' := 18) (ls' := [.ref 41, .int a0, .int a1, .int a2, .long y4_1426, pm_no, .int x6_1426, .int a1]) (st' := []) rfl rfl rfl ?_
        have L_1709 : ∀ (N : Nat) (x7_1709 : Int32) (y4_1709 : Int64), sf_B 0 11 x7_1709 → (11 - x7_1709.toInt).toNat = N → pm_R (d + 3) 217 18 [.ref 41, .int a0, .int a1, .int a2, .long y4_1709, pm_no, .int x6_1426, .int x7_1709] [] h Q := by
          intro N
          induction N using Nat.strongRecOn with
          | ind N ih_1709 =>
            intro x7_1709 y4_1709 Bx7_1709 hN_1709
            refine pm_R_lo pm_M217 (pc' := 20) rfl rfl rfl ?_
            refine pm_R_lo pm_M217 (pc' := 21) rfl rfl rfl ?_
            refine pm_R_icmp pm_M217 (t := 94) (pc' := 24) rfl rfl rfl (fun c1710 => ?_) (fun c1710 => ?_)
            · skip
              refine sf_R_iinc pm_M217 (pc' := 97) (ls' := fun z => [.ref 41, .int a0, .int a1, .int a2, .long y4_1709, pm_no, .int z, .int x7_1709]) rfl B1439 rfl (by decide) (by decide) (by decide) (fun _ => rfl) rfl (fun z1711 e1712 B1713 => ?_)
              show pm_R _ 217 97 [.ref 41, .int a0, .int a1, .int a2, .long y4_1709, pm_no, .int z1711, .int x7_1709] [] _ _
              refine pm_R_br pm_M217 (pc' := 6) rfl rfl ?_
              exact ih_1426 _ (sf_up hN_1426 e1712 B1439 (by decide) (by decide)) z1711 y4_1709 (.int x7_1709) (sf_weak B1713 (by decide) (by decide)) rfl rfl
            · have B1714 : sf_B 0 10 x7_1709 := sf_ltL (Int32.not_le.mp c1710) Bx7_1709 Ba2
              have B1715 : sf_B 1 11 a2 := sf_ltR (Int32.not_le.mp c1710) Bx7_1709 Ba2
              refine pm_R_lo pm_M217 (pc' := 25) rfl rfl rfl ?_
              refine pm_R_lo pm_M217 (pc' := 27) rfl rfl rfl ?_
              refine pm_R_op pm_M217 (pc' := 28) (st' := [.int 0, .int x6_1426, .ref 41]) rfl rfl rfl ?_
              refine pm_R_cv pm_M217 (pc' := 31) (a := 41) (ra := [.int 0, .int x6_1426]) (rest := []) (ls' := [.ref 41, .int x6_1426, .int 0]) rfl rfl (Or.inl rfl) pm_M210 T.2.1 rfl (by decide) (Nat.lt_of_lt_of_le (by decide) T.1) rfl rfl (Nat.le_of_ble_eq_true rfl) rfl rfl ?_
              refine pm_R_lo pm_M210 (pc' := 1) rfl rfl rfl ?_
              refine rf_R_get pm_M210 T (pc' := 4) (v := .ref 47) rfl rfl rfl rfl ?_
              refine pm_R_op pm_M210 (pc' := 6) (st' := [.int 100, .ref 47]) rfl rfl rfl ?_
              refine pm_R_lo pm_M210 (pc' := 7) rfl rfl rfl ?_
              refine rf_R_get pm_M210 T (pc' := 10) (v := .int (m 23)) rfl rfl rfl rfl ?_
              refine sf_R_imul pm_M210 (pc' := 11) rfl rfl sf_k100 B1427 (by decide) (by decide) (by decide) (fun z1716 e1717 B1718 => ?_)
              refine pm_R_op pm_M210 (pc' := 12) (st' := [.int 2, .int z1716, .ref 47]) rfl rfl rfl ?_
              refine sf_R_iadd pm_M210 (pc' := 13) rfl rfl B1718 sf_k2 (by decide) (by decide) (fun z1719 e1720 B1721 => ?_)
              refine pm_R_op pm_M210 (pc' := 14) (st' := [.int 4, .int z1719, .ref 47]) rfl rfl rfl ?_
              refine pm_R_lo pm_M210 (pc' := 15) rfl rfl rfl ?_
              refine sf_R_imul pm_M210 (pc' := 16) rfl rfl sf_k4 B1439 (by decide) (by decide) (by decide) (fun z1722 e1723 B1724 => ?_)
              refine sf_R_iadd pm_M210 (pc' := 17) rfl rfl B1721 B1724 (by decide) (by decide) (fun z1725 e1726 B1727 => ?_)
              refine pm_R_lo pm_M210 (pc' := 18) rfl rfl rfl ?_
              refine sf_R_iadd pm_M210 (pc' := 19) rfl rfl B1727 sf_k0 (by decide) (by decide) (fun z1728 e1729 B1730 => ?_)
              refine rf_R_ild pm_M210 T (pc' := 20) rfl e1432 (by decide) (sf_in B1730 (by decide) (by decide)) rfl (fun z1731 ez1732 => ?_)
              have e1733 : (z1728).toInt = 100 * ((m 23)).toInt + 4 * (x6_1426).toInt + 2 := by
                have q0 := e1717
                have q1 := e1720
                have q2 := e1723
                have q3 := e1726
                have q4 := e1729
                simp only [(show (0 : Int32).toInt = 0 from rfl), (show (2 : Int32).toInt = 2 from rfl), (show (4 : Int32).toInt = 4 from rfl), (show (100 : Int32).toInt = 100 from rfl)] at q0 q1 q2 q3 q4
                omega
              have B1734 : sf_B 0 5 z1731 := ez1732 ▸ rf_p47r b1433 e1733 B1427 B1439 (by decide) (by decide) (by decide)
              refine pm_R_ret pm_M210 (r := some (.int z1731)) rfl (pm_ret_i _) ?_
              show pm_R _ 217 31 [.ref 41, .int a0, .int a1, .int a2, .long y4_1709, pm_no, .int x6_1426, .int x7_1709] [.int z1731] _ _
              refine pm_R_lo pm_M217 (pc' := 32) rfl rfl rfl ?_
              refine pm_R_icmp pm_M217 (t := 94) (pc' := 35) rfl rfl rfl (fun c1735 => ?_) (fun c1735 => ?_)
              · skip
                refine sf_R_iinc pm_M217 (pc' := 97) (ls' := fun z => [.ref 41, .int a0, .int a1, .int a2, .long y4_1709, pm_no, .int z, .int x7_1709]) rfl B1439 rfl (by decide) (by decide) (by decide) (fun _ => rfl) rfl (fun z1736 e1737 B1738 => ?_)
                show pm_R _ 217 97 [.ref 41, .int a0, .int a1, .int a2, .long y4_1709, pm_no, .int z1736, .int x7_1709] [] _ _
                refine pm_R_br pm_M217 (pc' := 6) rfl rfl ?_
                exact ih_1426 _ (sf_up hN_1426 e1737 B1439 (by decide) (by decide)) z1736 y4_1709 (.int x7_1709) (sf_weak B1738 (by decide) (by decide)) rfl rfl
              · refine pm_R_lo pm_M217 (pc' := 37) rfl rfl rfl ?_
                refine pm_R_lo pm_M217 (pc' := 38) rfl rfl rfl ?_
                refine pm_R_lo pm_M217 (pc' := 40) rfl rfl rfl ?_
                refine pm_R_op pm_M217 (pc' := 41) (st' := [.int 3, .int x6_1426, .ref 41, .long y4_1709]) rfl rfl rfl ?_
                refine pm_R_cv pm_M217 (pc' := 44) (a := 41) (ra := [.int 3, .int x6_1426]) (rest := [.long y4_1709]) (ls' := [.ref 41, .int x6_1426, .int 3]) rfl rfl (Or.inl rfl) pm_M210 T.2.1 rfl (by decide) (Nat.lt_of_lt_of_le (by decide) T.1) rfl rfl (Nat.le_of_ble_eq_true rfl) rfl rfl ?_
                refine pm_R_lo pm_M210 (pc' := 1) rfl rfl rfl ?_
                refine rf_R_get pm_M210 T (pc' := 4) (v := .ref 47) rfl rfl rfl rfl ?_
                refine pm_R_op pm_M210 (pc' := 6) (st' := [.int 100, .ref 47]) rfl rfl rfl ?_
                refine pm_R_lo pm_M210 (pc' := 7) rfl rfl rfl ?_
                refine rf_R_get pm_M210 T (pc' := 10) (v := .int (m 23)) rfl rfl rfl rfl ?_
                refine sf_R_imul pm_M210 (pc' := 11) rfl rfl sf_k100 B1427 (by decide) (by decide) (by decide) (fun z1739 e1740 B1741 => ?_)
                refine pm_R_op pm_M210 (pc' := 12) (st' := [.int 2, .int z1739, .ref 47]) rfl rfl rfl ?_
                refine sf_R_iadd pm_M210 (pc' := 13) rfl rfl B1741 sf_k2 (by decide) (by decide) (fun z1742 e1743 B1744 => ?_)
                refine pm_R_op pm_M210 (pc' := 14) (st' := [.int 4, .int z1742, .ref 47]) rfl rfl rfl ?_
                refine pm_R_lo pm_M210 (pc' := 15) rfl rfl rfl ?_
                refine sf_R_imul pm_M210 (pc' := 16) rfl rfl sf_k4 B1439 (by decide) (by decide) (by decide) (fun z1745 e1746 B1747 => ?_)
                refine sf_R_iadd pm_M210 (pc' := 17) rfl rfl B1744 B1747 (by decide) (by decide) (fun z1748 e1749 B1750 => ?_)
                refine pm_R_lo pm_M210 (pc' := 18) rfl rfl rfl ?_
                refine sf_R_iadd pm_M210 (pc' := 19) rfl rfl B1750 sf_k3 (by decide) (by decide) (fun z1751 e1752 B1753 => ?_)
                refine rf_R_ild pm_M210 T (pc' := 20) rfl e1432 (by decide) (sf_in B1753 (by decide) (by decide)) rfl (fun z1754 ez1755 => ?_)
                have e1756 : (z1751).toInt = 100 * ((m 23)).toInt + 4 * (x6_1426).toInt + 5 := by
                  have q0 := e1740
                  have q1 := e1743
                  have q2 := e1746
                  have q3 := e1749
                  have q4 := e1752
                  simp only [(show (2 : Int32).toInt = 2 from rfl), (show (3 : Int32).toInt = 3 from rfl), (show (4 : Int32).toInt = 4 from rfl), (show (100 : Int32).toInt = 100 from rfl)] at q0 q1 q2 q3 q4
                  omega
                have B1757 : sf_B 0 4 z1754 := ez1755 ▸ rf_p47t b1433 e1756 B1427 B1439 (by decide) (by decide) (by decide)
                refine pm_R_ret pm_M210 (r := some (.int z1754)) rfl (pm_ret_i _) ?_
                show pm_R _ 217 44 [.ref 41, .int a0, .int a1, .int a2, .long y4_1709, pm_no, .int x6_1426, .int x7_1709] [.int z1754, .long y4_1709] _ _
                refine pm_R_lo pm_M217 (pc' := 45) rfl rfl rfl ?_
                refine rf_R_get pm_M217 T (pc' := 48) (v := .ref 54) rfl rfl rfl rfl ?_
                refine pm_R_lo pm_M217 (pc' := 49) rfl rfl rfl ?_
                refine pm_R_lo pm_M217 (pc' := 51) rfl rfl rfl ?_
                refine pm_R_op pm_M217 (pc' := 52) (st' := [.int 1, .int x6_1426, .ref 41, .ref 54, .int z1754, .long y4_1709]) rfl rfl rfl ?_
                refine pm_R_cv pm_M217 (pc' := 55) (a := 41) (ra := [.int 1, .int x6_1426]) (rest := [.ref 54, .int z1754, .long y4_1709]) (ls' := [.ref 41, .int x6_1426, .int 1]) rfl rfl (Or.inl rfl) pm_M210 T.2.1 rfl (by decide) (Nat.lt_of_lt_of_le (by decide) T.1) rfl rfl (Nat.le_of_ble_eq_true rfl) rfl rfl ?_
                refine pm_R_lo pm_M210 (pc' := 1) rfl rfl rfl ?_
                refine rf_R_get pm_M210 T (pc' := 4) (v := .ref 47) rfl rfl rfl rfl ?_
                refine pm_R_op pm_M210 (pc' := 6) (st' := [.int 100, .ref 47]) rfl rfl rfl ?_
                refine pm_R_lo pm_M210 (pc' := 7) rfl rfl rfl ?_
                refine rf_R_get pm_M210 T (pc' := 10) (v := .int (m 23)) rfl rfl rfl rfl ?_
                refine sf_R_imul pm_M210 (pc' := 11) rfl rfl sf_k100 B1427 (by decide) (by decide) (by decide) (fun z1758 e1759 B1760 => ?_)
                refine pm_R_op pm_M210 (pc' := 12) (st' := [.int 2, .int z1758, .ref 47]) rfl rfl rfl ?_
                refine sf_R_iadd pm_M210 (pc' := 13) rfl rfl B1760 sf_k2 (by decide) (by decide) (fun z1761 e1762 B1763 => ?_)
                refine pm_R_op pm_M210 (pc' := 14) (st' := [.int 4, .int z1761, .ref 47]) rfl rfl rfl ?_
                refine pm_R_lo pm_M210 (pc' := 15) rfl rfl rfl ?_
                refine sf_R_imul pm_M210 (pc' := 16) rfl rfl sf_k4 B1439 (by decide) (by decide) (by decide) (fun z1764 e1765 B1766 => ?_)
                refine sf_R_iadd pm_M210 (pc' := 17) rfl rfl B1763 B1766 (by decide) (by decide) (fun z1767 e1768 B1769 => ?_)
                refine pm_R_lo pm_M210 (pc' := 18) rfl rfl rfl ?_
                refine sf_R_iadd pm_M210 (pc' := 19) rfl rfl B1769 sf_k1 (by decide) (by decide) (fun z1770 e1771 B1772 => ?_)
                refine rf_R_ild pm_M210 T (pc' := 20) rfl e1432 (by decide) (sf_in B1772 (by decide) (by decide)) rfl (fun z1773 ez1774 => ?_)
                have e1775 : (z1770).toInt = 100 * ((m 23)).toInt + 4 * (x6_1426).toInt + 3 := by
                  have q0 := e1759
                  have q1 := e1762
                  have q2 := e1765
                  have q3 := e1768
                  have q4 := e1771
                  simp only [(show (1 : Int32).toInt = 1 from rfl), (show (2 : Int32).toInt = 2 from rfl), (show (4 : Int32).toInt = 4 from rfl), (show (100 : Int32).toInt = 100 from rfl)] at q0 q1 q2 q3 q4
                  omega
                have B1776 : sf_B 0 5 z1773 := ez1774 ▸ rf_p47r b1433 e1775 B1427 B1439 (by decide) (by decide) (by decide)
                refine pm_R_ret pm_M210 (r := some (.int z1773)) rfl (pm_ret_i _) ?_
                show pm_R _ 217 55 [.ref 41, .int a0, .int a1, .int a2, .long y4_1709, pm_no, .int x6_1426, .int x7_1709] [.int z1773, .ref 54, .int z1754, .long y4_1709] _ _
                refine pm_R_lo pm_M217 (pc' := 56) rfl rfl rfl ?_
                refine pm_R_lo pm_M217 (pc' := 58) rfl rfl rfl ?_
                refine pm_R_cs pm_M217 (pc' := 61) (ra := [.int x7_1709, .int a1, .int z1773]) (rest := [.ref 54, .int z1754, .long y4_1709]) (ls' := [.int z1773, .int a1, .int x7_1709]) rfl rfl (Or.inl rfl) pm_M207 rfl rfl (Nat.le_of_ble_eq_true rfl) rfl rfl ?_
                refine pm_R_op pm_M207 (pc' := 3) (st' := [.int 144]) rfl rfl rfl ?_
                refine pm_R_lo pm_M207 (pc' := 4) rfl rfl rfl ?_
                refine sf_R_imul pm_M207 (pc' := 5) rfl rfl sf_k144 B1776 (by decide) (by decide) (by decide) (fun z1777 e1778 B1779 => ?_)
                refine pm_R_op pm_M207 (pc' := 7) (st' := [.int 12, .int z1777]) rfl rfl rfl ?_
                refine pm_R_lo pm_M207 (pc' := 8) rfl rfl rfl ?_
                refine sf_R_imul pm_M207 (pc' := 9) rfl rfl sf_k12 Ba1 (by decide) (by decide) (by decide) (fun z1780 e1781 B1782 => ?_)
                refine sf_R_iadd pm_M207 (pc' := 10) rfl rfl B1779 B1782 (by decide) (by decide) (fun z1783 e1784 B1785 => ?_)
                refine pm_R_lo pm_M207 (pc' := 11) rfl rfl rfl ?_
                refine sf_R_iadd pm_M207 (pc' := 12) rfl rfl B1785 B1714 (by decide) (by decide) (fun z1786 e1787 B1788 => ?_)
                refine pm_R_ret pm_M207 (r := some (.int z1786)) rfl (pm_ret_i _) ?_
                show pm_R _ 217 61 [.ref 41, .int a0, .int a1, .int a2, .long y4_1709, pm_no, .int x6_1426, .int x7_1709] [.int z1786, .ref 54, .int z1754, .long y4_1709] _ _
                obtain ⟨f1789, e1790⟩ := T.2.2.2.1 54 (by decide) (by decide)
                refine rf_R_lld pm_M217 T (pc' := 62) rfl e1790 (by decide) (by decide) (sf_in B1788 (by decide) (by decide)) rfl (fun z1792 ez1793 => ?_)
                refine pm_R_lo pm_M217 (pc' := 63) rfl rfl rfl ?_
                refine rf_R_get pm_M217 T (pc' := 66) (v := .ref 54) rfl rfl rfl rfl ?_
                refine pm_R_lo pm_M217 (pc' := 67) rfl rfl rfl ?_
                refine pm_R_lo pm_M217 (pc' := 69) rfl rfl rfl ?_
                refine pm_R_op pm_M217 (pc' := 70) (st' := [.int 2, .int x6_1426, .ref 41, .ref 54, .long z1792, .int z1754, .long y4_1709]) rfl rfl rfl ?_
                refine pm_R_cv pm_M217 (pc' := 73) (a := 41) (ra := [.int 2, .int x6_1426]) (rest := [.ref 54, .long z1792, .int z1754, .long y4_1709]) (ls' := [.ref 41, .int x6_1426, .int 2]) rfl rfl (Or.inl rfl) pm_M210 T.2.1 rfl (by decide) (Nat.lt_of_lt_of_le (by decide) T.1) rfl rfl (Nat.le_of_ble_eq_true rfl) rfl rfl ?_
                refine pm_R_lo pm_M210 (pc' := 1) rfl rfl rfl ?_
                refine rf_R_get pm_M210 T (pc' := 4) (v := .ref 47) rfl rfl rfl rfl ?_
                refine pm_R_op pm_M210 (pc' := 6) (st' := [.int 100, .ref 47]) rfl rfl rfl ?_
                refine pm_R_lo pm_M210 (pc' := 7) rfl rfl rfl ?_
                refine rf_R_get pm_M210 T (pc' := 10) (v := .int (m 23)) rfl rfl rfl rfl ?_
                refine sf_R_imul pm_M210 (pc' := 11) rfl rfl sf_k100 B1427 (by decide) (by decide) (by decide) (fun z1794 e1795 B1796 => ?_)
                refine pm_R_op pm_M210 (pc' := 12) (st' := [.int 2, .int z1794, .ref 47]) rfl rfl rfl ?_
                refine sf_R_iadd pm_M210 (pc' := 13) rfl rfl B1796 sf_k2 (by decide) (by decide) (fun z1797 e1798 B1799 => ?_)
                refine pm_R_op pm_M210 (pc' := 14) (st' := [.int 4, .int z1797, .ref 47]) rfl rfl rfl ?_
                refine pm_R_lo pm_M210 (pc' := 15) rfl rfl rfl ?_
                refine sf_R_imul pm_M210 (pc' := 16) rfl rfl sf_k4 B1439 (by decide) (by decide) (by decide) (fun z1800 e1801 B1802 => ?_)
                refine sf_R_iadd pm_M210 (pc' := 17) rfl rfl B1799 B1802 (by decide) (by decide) (fun z1803 e1804 B1805 => ?_)
                refine pm_R_lo pm_M210 (pc' := 18) rfl rfl rfl ?_
                refine sf_R_iadd pm_M210 (pc' := 19) rfl rfl B1805 sf_k2 (by decide) (by decide) (fun z1806 e1807 B1808 => ?_)
                refine rf_R_ild pm_M210 T (pc' := 20) rfl e1432 (by decide) (sf_in B1808 (by decide) (by decide)) rfl (fun z1809 ez1810 => ?_)
                have e1811 : (z1806).toInt = 100 * ((m 23)).toInt + 4 * (x6_1426).toInt + 4 := by
                  have q0 := e1795
                  have q1 := e1798
                  have q2 := e1801
                  have q3 := e1804
                  have q4 := e1807
                  simp only [(show (2 : Int32).toInt = 2 from rfl), (show (4 : Int32).toInt = 4 from rfl), (show (100 : Int32).toInt = 100 from rfl)] at q0 q1 q2 q3 q4
                  omega
                have B1812 : sf_B 0 5 z1809 := ez1810 ▸ rf_p47r b1433 e1811 B1427 B1439 (by decide) (by decide) (by decide)
                refine pm_R_ret pm_M210 (r := some (.int z1809)) rfl (pm_ret_i _) ?_
                show pm_R _ 217 73 [.ref 41, .int a0, .int a1, .int a2, .long y4_1709, pm_no, .int x6_1426, .int x7_1709] [.int z1809, .ref 54, .long z1792, .int z1754, .long y4_1709] _ _
                refine pm_R_lo pm_M217 (pc' := 75) rfl rfl rfl ?_
                refine pm_R_op pm_M217 (pc' := 76) (st' := [.int 1, .int x7_1709, .int z1809, .ref 54, .long z1792, .int z1754, .long y4_1709]) rfl rfl rfl ?_
                refine sf_R_iadd pm_M217 (pc' := 77) rfl rfl B1714 sf_k1 (by decide) (by decide) (fun z1813 e1814 B1815 => ?_)
                refine pm_R_lo pm_M217 (pc' := 78) rfl rfl rfl ?_
                refine pm_R_cs pm_M217 (pc' := 81) (ra := [.int a2, .int z1813, .int z1809]) (rest := [.ref 54, .long z1792, .int z1754, .long y4_1709]) (ls' := [.int z1809, .int z1813, .int a2]) rfl rfl (Or.inl rfl) pm_M207 rfl rfl (Nat.le_of_ble_eq_true rfl) rfl rfl ?_
                refine pm_R_op pm_M207 (pc' := 3) (st' := [.int 144]) rfl rfl rfl ?_
                refine pm_R_lo pm_M207 (pc' := 4) rfl rfl rfl ?_
                refine sf_R_imul pm_M207 (pc' := 5) rfl rfl sf_k144 B1812 (by decide) (by decide) (by decide) (fun z1816 e1817 B1818 => ?_)
                refine pm_R_op pm_M207 (pc' := 7) (st' := [.int 12, .int z1816]) rfl rfl rfl ?_
                refine pm_R_lo pm_M207 (pc' := 8) rfl rfl rfl ?_
                refine sf_R_imul pm_M207 (pc' := 9) rfl rfl sf_k12 B1815 (by decide) (by decide) (by decide) (fun z1819 e1820 B1821 => ?_)
                refine sf_R_iadd pm_M207 (pc' := 10) rfl rfl B1818 B1821 (by decide) (by decide) (fun z1822 e1823 B1824 => ?_)
                refine pm_R_lo pm_M207 (pc' := 11) rfl rfl rfl ?_
                refine sf_R_iadd pm_M207 (pc' := 12) rfl rfl B1824 B1715 (by decide) (by decide) (fun z1825 e1826 B1827 => ?_)
                refine pm_R_ret pm_M207 (r := some (.int z1825)) rfl (pm_ret_i _) ?_
                show pm_R _ 217 81 [.ref 41, .int a0, .int a1, .int a2, .long y4_1709, pm_no, .int x6_1426, .int x7_1709] [.int z1825, .ref 54, .long z1792, .int z1754, .long y4_1709] _ _
                refine rf_R_lld pm_M217 T (pc' := 82) rfl e1790 (by decide) (by decide) (sf_in B1827 (by decide) (by decide)) rfl (fun z1828 ez1829 => ?_)
                refine pm_R_cs pm_M217 (pc' := 85) (ra := [.long z1828, .long z1792, .int z1754]) (rest := [.long y4_1709]) (ls' := [.int z1754, .long z1792, pm_no, .long z1828, pm_no, pm_no, pm_no, pm_no]) rfl rfl (Or.inl rfl) pm_M218 rfl rfl (Nat.le_of_ble_eq_true rfl) rfl rfl ?_
                refine rf_c218 (d := d + 0)  (fun r1830 => ?_)
                show pm_R _ 217 85 [.ref 41, .int a0, .int a1, .int a2, .long y4_1709, pm_no, .int x6_1426, .int x7_1709] [.long r1830, .long y4_1709] _ _
                refine sf_R_lany pm_M217 (pc' := 86) (st := []) rfl rfl rfl (fun z1838 => ?_)
                refine pm_R_lo pm_M217 (pc' := 88) (ls' := [.ref 41, .int a0, .int a1, .int a2, .long z1838, pm_no, .int x6_1426, .int x7_1709]) (st' := []) rfl rfl rfl ?_
                refine sf_R_iinc pm_M217 (pc' := 91) (ls' := fun z => [.ref 41, .int a0, .int a1, .int a2, .long z1838, pm_no, .int x6_1426, .int z]) rfl B1714 rfl (by decide) (by decide) (by decide) (fun _ => rfl) rfl (fun z1839 e1840 B1841 => ?_)
                show pm_R _ 217 91 [.ref 41, .int a0, .int a1, .int a2, .long z1838, pm_no, .int x6_1426, .int z1839] [] _ _
                refine pm_R_br pm_M217 (pc' := 18) rfl rfl ?_
                exact ih_1709 _ (sf_up hN_1709 e1840 B1714 (by decide) (by decide)) z1839 z1838 (sf_weak B1841 (by decide) (by decide)) rfl
        exact L_1709 _ a1 y4_1426 Ba1 rfl
  exact L_1426 _ 0 0 (pm_no) (sf_weak sf_k0 (by decide) (by decide)) rfl rfl

set_option maxRecDepth 100000 in
set_option maxHeartbeats 4000000 in
/-- SilentTableModel.countsOf -/
theorem rf_c208 {d : Nat} {m : Nat → Int32} {w : Int64} {h : pm_H} {Q : Option Value → pm_H → Prop} {a0 : Int32} {a1 : Int32} {a2 : Int32} (T : rf_T m w h) (Ba0 : sf_B 0 5 a0) (Ba1 : sf_B 0 11 a1) (Ba2 : sf_B 0 11 a2) (K : ∀ (r : Int64), Q (some (.long r)) h) : pm_R (d + 3) 208 0 [.ref 41, .int a0, .int a1, .int a2, pm_no, pm_no, pm_no, pm_no] [] h Q := by
  refine pm_R_op pm_M208 (pc' := 1) (st' := [.long 0]) rfl rfl rfl ?_
  refine pm_R_lo pm_M208 (pc' := 3) (ls' := [.ref 41, .int a0, .int a1, .int a2, .long 0, pm_no, pm_no, pm_no]) (st' := []) rfl rfl rfl ?_
  refine pm_R_op pm_M208 (pc' := 4) (st' := [.int 0]) rfl rfl rfl ?_
  refine pm_R_lo pm_M208 (pc' := 6) (ls' := [.ref 41, .int a0, .int a1, .int a2, .long 0, pm_no, .int 0, pm_no]) (st' := []) rfl rfl rfl ?_
  have L_2126 : ∀ (N : Nat) (x6_2126 : Int32) (y4_2126 : Int64) (g7_2126 : Value), sf_B 0 10 x6_2126 → g7_2126.category = 1 → (10 - x6_2126.toInt).toNat = N → pm_R (d + 3) 208 6 [.ref 41, .int a0, .int a1, .int a2, .long y4_2126, pm_no, .int x6_2126, g7_2126] [] h Q := by
    intro N
    induction N using Nat.strongRecOn with
    | ind N ih_2126 =>
      intro x6_2126 y4_2126 g7_2126 Bx6_2126 Cg7_2126 hN_2126
      refine pm_R_lo pm_M208 (pc' := 8) rfl rfl rfl ?_
      refine pm_R_lo pm_M208 (pc' := 9) rfl rfl rfl ?_
      refine pm_R_cv pm_M208 (pc' := 12) (a := 41) (ra := []) (rest := [.int x6_2126]) (ls' := [.ref 41]) rfl rfl (Or.inl rfl) pm_M209 T.2.1 rfl (by decide) (Nat.lt_of_lt_of_le (by decide) T.1) rfl rfl (Nat.le_of_ble_eq_true rfl) rfl rfl ?_
      refine pm_R_lo pm_M209 (pc' := 1) rfl rfl rfl ?_
      refine rf_R_get pm_M209 T (pc' := 4) (v := .ref 47) rfl rfl rfl rfl ?_
      refine pm_R_op pm_M209 (pc' := 6) (st' := [.int 100, .ref 47]) rfl rfl rfl ?_
      refine pm_R_lo pm_M209 (pc' := 7) rfl rfl rfl ?_
      have B2127 : sf_B 0 1 (m 23) := T.2.2.1 23
      refine rf_R_get pm_M209 T (pc' := 10) (v := .int (m 23)) rfl rfl rfl rfl ?_
      refine sf_R_imul pm_M209 (pc' := 11) rfl rfl sf_k100 B2127 (by decide) (by decide) (by decide) (fun z2128 e2129 B2130 => ?_)
      obtain ⟨f2131, e2132, b2133⟩ := T.2.2.2.1 47 (by decide) (by decide)
      refine rf_R_ild pm_M209 T (pc' := 12) rfl e2132 (by decide) (sf_in B2130 (by decide) (by decide)) rfl (fun z2134 ez2135 => ?_)
      have e2136 : (z2128).toInt = 100 * ((m 23)).toInt + 0 := by
        have q0 := e2129
        simp only [(show (100 : Int32).toInt = 100 from rfl)] at q0
        omega
      have B2137 : sf_B 0 10 z2134 := ez2135 ▸ rf_p47a b2133 e2136 B2127 (by decide)
      refine pm_R_ret pm_M209 (r := some (.int z2134)) rfl (pm_ret_i _) ?_
      show pm_R _ 208 12 [.ref 41, .int a0, .int a1, .int a2, .long y4_2126, pm_no, .int x6_2126, g7_2126] [.int z2134, .int x6_2126] _ _
      refine pm_R_icmp pm_M208 (t := 64) (pc' := 15) rfl rfl rfl (fun c2138 => ?_) (fun c2138 => ?_)
      · skip
        refine pm_R_lo pm_M208 (pc' := 66) rfl rfl rfl ?_
        exact pm_R_ret pm_M208 (r := some (.long y4_2126)) rfl rfl (K y4_2126)
      · have B2139 : sf_B 0 9 x6_2126 := sf_ltL (Int32.not_le.mp c2138) Bx6_2126 B2137
        have B2140 : sf_B 1 10 z2134 := sf_ltR (Int32.not_le.mp c2138) Bx6_2126 B2137
        refine pm_R_lo pm_M208 (pc' := 16) rfl rfl rfl ?_
        refine pm_R_lo pm_M208 (pc' := 18) (ls' := [.ref 41, .int a0, .int a1, .int a2, .long y4_2126, pm_no, .int x6_2126, .int a1]) (st' := []) rfl rfl rfl ?_
        have L_2549 : ∀ (N : Nat) (x7_2549 : Int32) (y4_2549 : Int64), sf_B 0 11 x7_2549 → (11 - x7_2549.toInt).toNat = N → pm_R (d + 3) 208 18 [.ref 41, .int a0, .int a1, .int a2, .long y4_2549, pm_no, .int x6_2126, .int x7_2549] [] h Q := by
          intro N
          induction N using Nat.strongRecOn with
          | ind N ih_2549 =>
            intro x7_2549 y4_2549 Bx7_2549 hN_2549
            refine pm_R_lo pm_M208 (pc' := 20) rfl rfl rfl ?_
            refine pm_R_lo pm_M208 (pc' := 21) rfl rfl rfl ?_
            refine pm_R_icmp pm_M208 (t := 58) (pc' := 24) rfl rfl rfl (fun c2550 => ?_) (fun c2550 => ?_)
            · skip
              refine sf_R_iinc pm_M208 (pc' := 61) (ls' := fun z => [.ref 41, .int a0, .int a1, .int a2, .long y4_2549, pm_no, .int z, .int x7_2549]) rfl B2139 rfl (by decide) (by decide) (by decide) (fun _ => rfl) rfl (fun z2551 e2552 B2553 => ?_)
              show pm_R _ 208 61 [.ref 41, .int a0, .int a1, .int a2, .long y4_2549, pm_no, .int z2551, .int x7_2549] [] _ _
              refine pm_R_br pm_M208 (pc' := 6) rfl rfl ?_
              exact ih_2126 _ (sf_up hN_2126 e2552 B2139 (by decide) (by decide)) z2551 y4_2549 (.int x7_2549) (sf_weak B2553 (by decide) (by decide)) rfl rfl
            · have B2554 : sf_B 0 10 x7_2549 := sf_ltL (Int32.not_le.mp c2550) Bx7_2549 Ba2
              have B2555 : sf_B 1 11 a2 := sf_ltR (Int32.not_le.mp c2550) Bx7_2549 Ba2
              refine pm_R_lo pm_M208 (pc' := 25) rfl rfl rfl ?_
              refine pm_R_lo pm_M208 (pc' := 27) rfl rfl rfl ?_
              refine pm_R_op pm_M208 (pc' := 28) (st' := [.int 0, .int x6_2126, .ref 41]) rfl rfl rfl ?_
              refine pm_R_cv pm_M208 (pc' := 31) (a := 41) (ra := [.int 0, .int x6_2126]) (rest := []) (ls' := [.ref 41, .int x6_2126, .int 0]) rfl rfl (Or.inl rfl) pm_M210 T.2.1 rfl (by decide) (Nat.lt_of_lt_of_le (by decide) T.1) rfl rfl (Nat.le_of_ble_eq_true rfl) rfl rfl ?_
              refine pm_R_lo pm_M210 (pc' := 1) rfl rfl rfl ?_
              refine rf_R_get pm_M210 T (pc' := 4) (v := .ref 47) rfl rfl rfl rfl ?_
              refine pm_R_op pm_M210 (pc' := 6) (st' := [.int 100, .ref 47]) rfl rfl rfl ?_
              refine pm_R_lo pm_M210 (pc' := 7) rfl rfl rfl ?_
              refine rf_R_get pm_M210 T (pc' := 10) (v := .int (m 23)) rfl rfl rfl rfl ?_
              refine sf_R_imul pm_M210 (pc' := 11) rfl rfl sf_k100 B2127 (by decide) (by decide) (by decide) (fun z2556 e2557 B2558 => ?_)
              refine pm_R_op pm_M210 (pc' := 12) (st' := [.int 2, .int z2556, .ref 47]) rfl rfl rfl ?_
              refine sf_R_iadd pm_M210 (pc' := 13) rfl rfl B2558 sf_k2 (by decide) (by decide) (fun z2559 e2560 B2561 => ?_)
              refine pm_R_op pm_M210 (pc' := 14) (st' := [.int 4, .int z2559, .ref 47]) rfl rfl rfl ?_
              refine pm_R_lo pm_M210 (pc' := 15) rfl rfl rfl ?_
              refine sf_R_imul pm_M210 (pc' := 16) rfl rfl sf_k4 B2139 (by decide) (by decide) (by decide) (fun z2562 e2563 B2564 => ?_)
              refine sf_R_iadd pm_M210 (pc' := 17) rfl rfl B2561 B2564 (by decide) (by decide) (fun z2565 e2566 B2567 => ?_)
              refine pm_R_lo pm_M210 (pc' := 18) rfl rfl rfl ?_
              refine sf_R_iadd pm_M210 (pc' := 19) rfl rfl B2567 sf_k0 (by decide) (by decide) (fun z2568 e2569 B2570 => ?_)
              refine rf_R_ild pm_M210 T (pc' := 20) rfl e2132 (by decide) (sf_in B2570 (by decide) (by decide)) rfl (fun z2571 ez2572 => ?_)
              have e2573 : (z2568).toInt = 100 * ((m 23)).toInt + 4 * (x6_2126).toInt + 2 := by
                have q0 := e2557
                have q1 := e2560
                have q2 := e2563
                have q3 := e2566
                have q4 := e2569
                simp only [(show (0 : Int32).toInt = 0 from rfl), (show (2 : Int32).toInt = 2 from rfl), (show (4 : Int32).toInt = 4 from rfl), (show (100 : Int32).toInt = 100 from rfl)] at q0 q1 q2 q3 q4
                omega
              have B2574 : sf_B 0 5 z2571 := ez2572 ▸ rf_p47r b2133 e2573 B2127 B2139 (by decide) (by decide) (by decide)
              refine pm_R_ret pm_M210 (r := some (.int z2571)) rfl (pm_ret_i _) ?_
              show pm_R _ 208 31 [.ref 41, .int a0, .int a1, .int a2, .long y4_2549, pm_no, .int x6_2126, .int x7_2549] [.int z2571] _ _
              refine pm_R_lo pm_M208 (pc' := 32) rfl rfl rfl ?_
              refine pm_R_icmp pm_M208 (t := 58) (pc' := 35) rfl rfl rfl (fun c2575 => ?_) (fun c2575 => ?_)
              · skip
                refine sf_R_iinc pm_M208 (pc' := 61) (ls' := fun z => [.ref 41, .int a0, .int a1, .int a2, .long y4_2549, pm_no, .int z, .int x7_2549]) rfl B2139 rfl (by decide) (by decide) (by decide) (fun _ => rfl) rfl (fun z2576 e2577 B2578 => ?_)
                show pm_R _ 208 61 [.ref 41, .int a0, .int a1, .int a2, .long y4_2549, pm_no, .int z2576, .int x7_2549] [] _ _
                refine pm_R_br pm_M208 (pc' := 6) rfl rfl ?_
                exact ih_2126 _ (sf_up hN_2126 e2577 B2139 (by decide) (by decide)) z2576 y4_2549 (.int x7_2549) (sf_weak B2578 (by decide) (by decide)) rfl rfl
              · refine pm_R_lo pm_M208 (pc' := 37) rfl rfl rfl ?_
                refine pm_R_lo pm_M208 (pc' := 38) rfl rfl rfl ?_
                refine pm_R_lo pm_M208 (pc' := 40) rfl rfl rfl ?_
                refine pm_R_lo pm_M208 (pc' := 41) rfl rfl rfl ?_
                refine pm_R_lo pm_M208 (pc' := 43) rfl rfl rfl ?_
                refine pm_R_lo pm_M208 (pc' := 44) rfl rfl rfl ?_
                refine pm_R_cv pm_M208 (pc' := 47) (a := 41) (ra := [.int a2, .int x7_2549, .int a1, .int x6_2126]) (rest := [.long y4_2549]) (ls' := [.ref 41, .int x6_2126, .int a1, .int x7_2549, .int a2]) rfl rfl (Or.inl rfl) pm_M211 T.2.1 rfl (by decide) (Nat.lt_of_lt_of_le (by decide) T.1) rfl rfl (Nat.le_of_ble_eq_true rfl) rfl rfl ?_
                refine pm_R_lo pm_M211 (pc' := 1) rfl rfl rfl ?_
                refine rf_R_get pm_M211 T (pc' := 4) (v := .ref 55) rfl rfl rfl rfl ?_
                refine pm_R_lo pm_M211 (pc' := 5) rfl rfl rfl ?_
                refine pm_R_lo pm_M211 (pc' := 6) rfl rfl rfl ?_
                refine pm_R_op pm_M211 (pc' := 7) (st' := [.int 1, .int x6_2126, .ref 41, .ref 55]) rfl rfl rfl ?_
                refine pm_R_cv pm_M211 (pc' := 10) (a := 41) (ra := [.int 1, .int x6_2126]) (rest := [.ref 55]) (ls' := [.ref 41, .int x6_2126, .int 1]) rfl rfl (Or.inl rfl) pm_M210 T.2.1 rfl (by decide) (Nat.lt_of_lt_of_le (by decide) T.1) rfl rfl (Nat.le_of_ble_eq_true rfl) rfl rfl ?_
                refine pm_R_lo pm_M210 (pc' := 1) rfl rfl rfl ?_
                refine rf_R_get pm_M210 T (pc' := 4) (v := .ref 47) rfl rfl rfl rfl ?_
                refine pm_R_op pm_M210 (pc' := 6) (st' := [.int 100, .ref 47]) rfl rfl rfl ?_
                refine pm_R_lo pm_M210 (pc' := 7) rfl rfl rfl ?_
                refine rf_R_get pm_M210 T (pc' := 10) (v := .int (m 23)) rfl rfl rfl rfl ?_
                refine sf_R_imul pm_M210 (pc' := 11) rfl rfl sf_k100 B2127 (by decide) (by decide) (by decide) (fun z2579 e2580 B2581 => ?_)
                refine pm_R_op pm_M210 (pc' := 12) (st' := [.int 2, .int z2579, .ref 47]) rfl rfl rfl ?_
                refine sf_R_iadd pm_M210 (pc' := 13) rfl rfl B2581 sf_k2 (by decide) (by decide) (fun z2582 e2583 B2584 => ?_)
                refine pm_R_op pm_M210 (pc' := 14) (st' := [.int 4, .int z2582, .ref 47]) rfl rfl rfl ?_
                refine pm_R_lo pm_M210 (pc' := 15) rfl rfl rfl ?_
                refine sf_R_imul pm_M210 (pc' := 16) rfl rfl sf_k4 B2139 (by decide) (by decide) (by decide) (fun z2585 e2586 B2587 => ?_)
                refine sf_R_iadd pm_M210 (pc' := 17) rfl rfl B2584 B2587 (by decide) (by decide) (fun z2588 e2589 B2590 => ?_)
                refine pm_R_lo pm_M210 (pc' := 18) rfl rfl rfl ?_
                refine sf_R_iadd pm_M210 (pc' := 19) rfl rfl B2590 sf_k1 (by decide) (by decide) (fun z2591 e2592 B2593 => ?_)
                refine rf_R_ild pm_M210 T (pc' := 20) rfl e2132 (by decide) (sf_in B2593 (by decide) (by decide)) rfl (fun z2594 ez2595 => ?_)
                have e2596 : (z2591).toInt = 100 * ((m 23)).toInt + 4 * (x6_2126).toInt + 3 := by
                  have q0 := e2580
                  have q1 := e2583
                  have q2 := e2586
                  have q3 := e2589
                  have q4 := e2592
                  simp only [(show (1 : Int32).toInt = 1 from rfl), (show (2 : Int32).toInt = 2 from rfl), (show (4 : Int32).toInt = 4 from rfl), (show (100 : Int32).toInt = 100 from rfl)] at q0 q1 q2 q3 q4
                  omega
                have B2597 : sf_B 0 5 z2594 := ez2595 ▸ rf_p47r b2133 e2596 B2127 B2139 (by decide) (by decide) (by decide)
                refine pm_R_ret pm_M210 (r := some (.int z2594)) rfl (pm_ret_i _) ?_
                show pm_R _ 211 10 [.ref 41, .int x6_2126, .int a1, .int x7_2549, .int a2] [.int z2594, .ref 55] _ _
                refine pm_R_lo pm_M211 (pc' := 11) rfl rfl rfl ?_
                refine pm_R_lo pm_M211 (pc' := 12) rfl rfl rfl ?_
                refine pm_R_cs pm_M211 (pc' := 15) (ra := [.int x7_2549, .int a1, .int z2594]) (rest := [.ref 55]) (ls' := [.int z2594, .int a1, .int x7_2549]) rfl rfl (Or.inl rfl) pm_M207 rfl rfl (Nat.le_of_ble_eq_true rfl) rfl rfl ?_
                refine pm_R_op pm_M207 (pc' := 3) (st' := [.int 144]) rfl rfl rfl ?_
                refine pm_R_lo pm_M207 (pc' := 4) rfl rfl rfl ?_
                refine sf_R_imul pm_M207 (pc' := 5) rfl rfl sf_k144 B2597 (by decide) (by decide) (by decide) (fun z2598 e2599 B2600 => ?_)
                refine pm_R_op pm_M207 (pc' := 7) (st' := [.int 12, .int z2598]) rfl rfl rfl ?_
                refine pm_R_lo pm_M207 (pc' := 8) rfl rfl rfl ?_
                refine sf_R_imul pm_M207 (pc' := 9) rfl rfl sf_k12 Ba1 (by decide) (by decide) (by decide) (fun z2601 e2602 B2603 => ?_)
                refine sf_R_iadd pm_M207 (pc' := 10) rfl rfl B2600 B2603 (by decide) (by decide) (fun z2604 e2605 B2606 => ?_)
                refine pm_R_lo pm_M207 (pc' := 11) rfl rfl rfl ?_
                refine sf_R_iadd pm_M207 (pc' := 12) rfl rfl B2606 B2554 (by decide) (by decide) (fun z2607 e2608 B2609 => ?_)
                refine pm_R_ret pm_M207 (r := some (.int z2607)) rfl (pm_ret_i _) ?_
                show pm_R _ 211 15 [.ref 41, .int x6_2126, .int a1, .int x7_2549, .int a2] [.int z2607, .ref 55] _ _
                obtain ⟨f2610, e2611⟩ := T.2.2.2.1 55 (by decide) (by decide)
                refine rf_R_lld pm_M211 T (pc' := 16) rfl e2611 (by decide) (by decide) (sf_in B2609 (by decide) (by decide)) rfl (fun z2613 ez2614 => ?_)
                refine pm_R_lo pm_M211 (pc' := 17) rfl rfl rfl ?_
                refine rf_R_get pm_M211 T (pc' := 20) (v := .ref 55) rfl rfl rfl rfl ?_
                refine pm_R_lo pm_M211 (pc' := 21) rfl rfl rfl ?_
                refine pm_R_lo pm_M211 (pc' := 22) rfl rfl rfl ?_
                refine pm_R_op pm_M211 (pc' := 23) (st' := [.int 2, .int x6_2126, .ref 41, .ref 55, .long z2613]) rfl rfl rfl ?_
                refine pm_R_cv pm_M211 (pc' := 26) (a := 41) (ra := [.int 2, .int x6_2126]) (rest := [.ref 55, .long z2613]) (ls' := [.ref 41, .int x6_2126, .int 2]) rfl rfl (Or.inl rfl) pm_M210 T.2.1 rfl (by decide) (Nat.lt_of_lt_of_le (by decide) T.1) rfl rfl (Nat.le_of_ble_eq_true rfl) rfl rfl ?_
                refine pm_R_lo pm_M210 (pc' := 1) rfl rfl rfl ?_
                refine rf_R_get pm_M210 T (pc' := 4) (v := .ref 47) rfl rfl rfl rfl ?_
                refine pm_R_op pm_M210 (pc' := 6) (st' := [.int 100, .ref 47]) rfl rfl rfl ?_
                refine pm_R_lo pm_M210 (pc' := 7) rfl rfl rfl ?_
                refine rf_R_get pm_M210 T (pc' := 10) (v := .int (m 23)) rfl rfl rfl rfl ?_
                refine sf_R_imul pm_M210 (pc' := 11) rfl rfl sf_k100 B2127 (by decide) (by decide) (by decide) (fun z2615 e2616 B2617 => ?_)
                refine pm_R_op pm_M210 (pc' := 12) (st' := [.int 2, .int z2615, .ref 47]) rfl rfl rfl ?_
                refine sf_R_iadd pm_M210 (pc' := 13) rfl rfl B2617 sf_k2 (by decide) (by decide) (fun z2618 e2619 B2620 => ?_)
                refine pm_R_op pm_M210 (pc' := 14) (st' := [.int 4, .int z2618, .ref 47]) rfl rfl rfl ?_
                refine pm_R_lo pm_M210 (pc' := 15) rfl rfl rfl ?_
                refine sf_R_imul pm_M210 (pc' := 16) rfl rfl sf_k4 B2139 (by decide) (by decide) (by decide) (fun z2621 e2622 B2623 => ?_)
                refine sf_R_iadd pm_M210 (pc' := 17) rfl rfl B2620 B2623 (by decide) (by decide) (fun z2624 e2625 B2626 => ?_)
                refine pm_R_lo pm_M210 (pc' := 18) rfl rfl rfl ?_
                refine sf_R_iadd pm_M210 (pc' := 19) rfl rfl B2626 sf_k2 (by decide) (by decide) (fun z2627 e2628 B2629 => ?_)
                refine rf_R_ild pm_M210 T (pc' := 20) rfl e2132 (by decide) (sf_in B2629 (by decide) (by decide)) rfl (fun z2630 ez2631 => ?_)
                have e2632 : (z2627).toInt = 100 * ((m 23)).toInt + 4 * (x6_2126).toInt + 4 := by
                  have q0 := e2616
                  have q1 := e2619
                  have q2 := e2622
                  have q3 := e2625
                  have q4 := e2628
                  simp only [(show (2 : Int32).toInt = 2 from rfl), (show (4 : Int32).toInt = 4 from rfl), (show (100 : Int32).toInt = 100 from rfl)] at q0 q1 q2 q3 q4
                  omega
                have B2633 : sf_B 0 5 z2630 := ez2631 ▸ rf_p47r b2133 e2632 B2127 B2139 (by decide) (by decide) (by decide)
                refine pm_R_ret pm_M210 (r := some (.int z2630)) rfl (pm_ret_i _) ?_
                show pm_R _ 211 26 [.ref 41, .int x6_2126, .int a1, .int x7_2549, .int a2] [.int z2630, .ref 55, .long z2613] _ _
                refine pm_R_lo pm_M211 (pc' := 27) rfl rfl rfl ?_
                refine pm_R_op pm_M211 (pc' := 28) (st' := [.int 1, .int x7_2549, .int z2630, .ref 55, .long z2613]) rfl rfl rfl ?_
                refine sf_R_iadd pm_M211 (pc' := 29) rfl rfl B2554 sf_k1 (by decide) (by decide) (fun z2634 e2635 B2636 => ?_)
                refine pm_R_lo pm_M211 (pc' := 31) rfl rfl rfl ?_
                refine pm_R_cs pm_M211 (pc' := 34) (ra := [.int a2, .int z2634, .int z2630]) (rest := [.ref 55, .long z2613]) (ls' := [.int z2630, .int z2634, .int a2]) rfl rfl (Or.inl rfl) pm_M207 rfl rfl (Nat.le_of_ble_eq_true rfl) rfl rfl ?_
                refine pm_R_op pm_M207 (pc' := 3) (st' := [.int 144]) rfl rfl rfl ?_
                refine pm_R_lo pm_M207 (pc' := 4) rfl rfl rfl ?_
                refine sf_R_imul pm_M207 (pc' := 5) rfl rfl sf_k144 B2633 (by decide) (by decide) (by decide) (fun z2637 e2638 B2639 => ?_)
                refine pm_R_op pm_M207 (pc' := 7) (st' := [.int 12, .int z2637]) rfl rfl rfl ?_
                refine pm_R_lo pm_M207 (pc' := 8) rfl rfl rfl ?_
                refine sf_R_imul pm_M207 (pc' := 9) rfl rfl sf_k12 B2636 (by decide) (by decide) (by decide) (fun z2640 e2641 B2642 => ?_)
                refine sf_R_iadd pm_M207 (pc' := 10) rfl rfl B2639 B2642 (by decide) (by decide) (fun z2643 e2644 B2645 => ?_)
                refine pm_R_lo pm_M207 (pc' := 11) rfl rfl rfl ?_
                refine sf_R_iadd pm_M207 (pc' := 12) rfl rfl B2645 B2555 (by decide) (by decide) (fun z2646 e2647 B2648 => ?_)
                refine pm_R_ret pm_M207 (r := some (.int z2646)) rfl (pm_ret_i _) ?_
                show pm_R _ 211 34 [.ref 41, .int x6_2126, .int a1, .int x7_2549, .int a2] [.int z2646, .ref 55, .long z2613] _ _
                refine rf_R_lld pm_M211 T (pc' := 35) rfl e2611 (by decide) (by decide) (sf_in B2648 (by decide) (by decide)) rfl (fun z2649 ez2650 => ?_)
                refine pm_R_cs pm_M211 (pc' := 38) (ra := [.long z2649, .long z2613]) (rest := []) (ls' := [.long z2613, pm_no, .long z2649, pm_no]) rfl rfl (Or.inl rfl) pm_M212 rfl rfl (Nat.le_of_ble_eq_true rfl) rfl rfl ?_
                refine pm_R_lo pm_M212 (pc' := 1) rfl rfl rfl ?_
                refine pm_R_op pm_M212 (pc' := 2) (st' := [.long 0, .long z2649]) rfl rfl rfl ?_
                refine sf_R_lcmp pm_M212 (pc' := 3) rfl rfl (fun z2651 e2652 => ?_)
                refine pm_R_ifc pm_M212 (t := 22) (pc' := 6) rfl rfl rfl (fun c2653 => ?_) (fun c2653 => ?_)
                · have B2654 : sf_B (-2147483648) 0 z2651 := sf_leL c2653 (sf_any z2651) sf_k0
                  refine pm_R_lo pm_M212 (pc' := 23) rfl rfl rfl ?_
                  refine pm_R_lo pm_M212 (pc' := 24) rfl rfl rfl ?_
                  refine sf_R_lany pm_M212 (pc' := 25) (st := []) rfl rfl rfl (fun z2655 => ?_)
                  refine pm_R_op pm_M212 (pc' := 26) (st' := [.long 0, .long z2655]) rfl rfl rfl ?_
                  refine pm_R_cs pm_M212 (pc' := 29) (ra := [.long 0, .long z2655]) (rest := []) (ls' := [.long z2655, pm_no, .long 0, pm_no]) rfl rfl (Or.inl rfl) pm_M213 rfl rfl (Nat.le_of_ble_eq_true rfl) rfl rfl ?_
                  refine pm_R_lo pm_M213 (pc' := 1) rfl rfl rfl ?_
                  refine pm_R_lo pm_M213 (pc' := 2) rfl rfl rfl ?_
                  refine sf_R_lany pm_M213 (pc' := 3) (st := []) rfl rfl rfl (fun z2656 => ?_)
                  refine pm_R_ldc2 pm_M213 (pc' := 6) rfl rfl rfl ?_
                  refine sf_R_lcmp pm_M213 (pc' := 7) rfl rfl (fun z2657 e2658 => ?_)
                  refine pm_R_ifc pm_M213 (t := 16) (pc' := 10) rfl rfl rfl (fun c2659 => ?_) (fun c2659 => ?_)
                  · have B2660 : sf_B 0 2147483647 z2657 := sf_leR c2659 sf_k0 (sf_any z2657)
                    refine pm_R_ldc2 pm_M213 (pc' := 19) rfl rfl rfl ?_
                    refine pm_R_ret pm_M213 (r := some (.long 1000000000000)) rfl rfl ?_
                    show pm_R _ 212 29 [.long z2613, pm_no, .long z2649, pm_no] [.long 1000000000000] _ _
                    refine pm_R_ret pm_M212 (r := some (.long 1000000000000)) rfl rfl ?_
                    show pm_R _ 211 38 [.ref 41, .int x6_2126, .int a1, .int x7_2549, .int a2] [.long 1000000000000] _ _
                    refine pm_R_ret pm_M211 (r := some (.long 1000000000000)) rfl rfl ?_
                    show pm_R _ 208 47 [.ref 41, .int a0, .int a1, .int a2, .long y4_2549, pm_no, .int x6_2126, .int x7_2549] [.long 1000000000000, .long y4_2549] _ _
                    refine pm_R_cs pm_M208 (pc' := 50) (ra := [.long 1000000000000, .long y4_2549]) (rest := []) (ls' := [.long y4_2549, pm_no, .long 1000000000000, pm_no]) rfl rfl (Or.inl rfl) pm_M213 rfl rfl (Nat.le_of_ble_eq_true rfl) rfl rfl ?_
                    refine pm_R_lo pm_M213 (pc' := 1) rfl rfl rfl ?_
                    refine pm_R_lo pm_M213 (pc' := 2) rfl rfl rfl ?_
                    refine sf_R_lany pm_M213 (pc' := 3) (st := []) rfl rfl rfl (fun z2661 => ?_)
                    refine pm_R_ldc2 pm_M213 (pc' := 6) rfl rfl rfl ?_
                    refine sf_R_lcmp pm_M213 (pc' := 7) rfl rfl (fun z2662 e2663 => ?_)
                    refine pm_R_ifc pm_M213 (t := 16) (pc' := 10) rfl rfl rfl (fun c2664 => ?_) (fun c2664 => ?_)
                    · have B2665 : sf_B 0 2147483647 z2662 := sf_leR c2664 sf_k0 (sf_any z2662)
                      refine pm_R_ldc2 pm_M213 (pc' := 19) rfl rfl rfl ?_
                      refine pm_R_ret pm_M213 (r := some (.long 1000000000000)) rfl rfl ?_
                      show pm_R _ 208 50 [.ref 41, .int a0, .int a1, .int a2, .long y4_2549, pm_no, .int x6_2126, .int x7_2549] [.long 1000000000000] _ _
                      refine pm_R_lo pm_M208 (pc' := 52) (ls' := [.ref 41, .int a0, .int a1, .int a2, .long 1000000000000, pm_no, .int x6_2126, .int x7_2549]) (st' := []) rfl rfl rfl ?_
                      refine sf_R_iinc pm_M208 (pc' := 55) (ls' := fun z => [.ref 41, .int a0, .int a1, .int a2, .long 1000000000000, pm_no, .int x6_2126, .int z]) rfl B2554 rfl (by decide) (by decide) (by decide) (fun _ => rfl) rfl (fun z2666 e2667 B2668 => ?_)
                      show pm_R _ 208 55 [.ref 41, .int a0, .int a1, .int a2, .long 1000000000000, pm_no, .int x6_2126, .int z2666] [] _ _
                      refine pm_R_br pm_M208 (pc' := 18) rfl rfl ?_
                      exact ih_2549 _ (sf_up hN_2549 e2667 B2554 (by decide) (by decide)) z2666 1000000000000 (sf_weak B2668 (by decide) (by decide)) rfl
                    · have B2669 : sf_B (-2147483648) (-1) z2662 := sf_ltL (Int32.not_le.mp c2664) (sf_any z2662) sf_k0
                      have k2670 := sf_lneB e2663 B2669 (by decide)
                      refine pm_R_lo pm_M213 (pc' := 11) rfl rfl rfl ?_
                      refine pm_R_lo pm_M213 (pc' := 12) rfl rfl rfl ?_
                      refine sf_R_lany pm_M213 (pc' := 13) (st := []) rfl rfl rfl (fun z2671 => ?_)
                      refine pm_R_br pm_M213 (pc' := 19) rfl rfl ?_
                      refine pm_R_ret pm_M213 (r := some (.long z2671)) rfl rfl ?_
                      show pm_R _ 208 50 [.ref 41, .int a0, .int a1, .int a2, .long y4_2549, pm_no, .int x6_2126, .int x7_2549] [.long z2671] _ _
                      refine pm_R_lo pm_M208 (pc' := 52) (ls' := [.ref 41, .int a0, .int a1, .int a2, .long z2671, pm_no, .int x6_2126, .int x7_2549]) (st' := []) rfl rfl rfl ?_
                      refine sf_R_iinc pm_M208 (pc' := 55) (ls' := fun z => [.ref 41, .int a0, .int a1, .int a2, .long z2671, pm_no, .int x6_2126, .int z]) rfl B2554 rfl (by decide) (by decide) (by decide) (fun _ => rfl) rfl (fun z2672 e2673 B2674 => ?_)
                      show pm_R _ 208 55 [.ref 41, .int a0, .int a1, .int a2, .long z2671, pm_no, .int x6_2126, .int z2672] [] _ _
                      refine pm_R_br pm_M208 (pc' := 18) rfl rfl ?_
                      exact ih_2549 _ (sf_up hN_2549 e2673 B2554 (by decide) (by decide)) z2672 z2671 (sf_weak B2674 (by decide) (by decide)) rfl
                  · have B2675 : sf_B (-2147483648) (-1) z2657 := sf_ltL (Int32.not_le.mp c2659) (sf_any z2657) sf_k0
                    have k2676 := sf_lneB e2658 B2675 (by decide)
                    refine pm_R_lo pm_M213 (pc' := 11) rfl rfl rfl ?_
                    refine pm_R_lo pm_M213 (pc' := 12) rfl rfl rfl ?_
                    refine sf_R_lany pm_M213 (pc' := 13) (st := []) rfl rfl rfl (fun z2677 => ?_)
                    refine pm_R_br pm_M213 (pc' := 19) rfl rfl ?_
                    refine pm_R_ret pm_M213 (r := some (.long z2677)) rfl rfl ?_
                    show pm_R _ 212 29 [.long z2613, pm_no, .long z2649, pm_no] [.long z2677] _ _
                    refine pm_R_ret pm_M212 (r := some (.long z2677)) rfl rfl ?_
                    show pm_R _ 211 38 [.ref 41, .int x6_2126, .int a1, .int x7_2549, .int a2] [.long z2677] _ _
                    refine pm_R_ret pm_M211 (r := some (.long z2677)) rfl rfl ?_
                    show pm_R _ 208 47 [.ref 41, .int a0, .int a1, .int a2, .long y4_2549, pm_no, .int x6_2126, .int x7_2549] [.long z2677, .long y4_2549] _ _
                    refine pm_R_cs pm_M208 (pc' := 50) (ra := [.long z2677, .long y4_2549]) (rest := []) (ls' := [.long y4_2549, pm_no, .long z2677, pm_no]) rfl rfl (Or.inl rfl) pm_M213 rfl rfl (Nat.le_of_ble_eq_true rfl) rfl rfl ?_
                    refine pm_R_lo pm_M213 (pc' := 1) rfl rfl rfl ?_
                    refine pm_R_lo pm_M213 (pc' := 2) rfl rfl rfl ?_
                    refine sf_R_lany pm_M213 (pc' := 3) (st := []) rfl rfl rfl (fun z2678 => ?_)
                    refine pm_R_ldc2 pm_M213 (pc' := 6) rfl rfl rfl ?_
                    refine sf_R_lcmp pm_M213 (pc' := 7) rfl rfl (fun z2679 e2680 => ?_)
                    refine pm_R_ifc pm_M213 (t := 16) (pc' := 10) rfl rfl rfl (fun c2681 => ?_) (fun c2681 => ?_)
                    · have B2682 : sf_B 0 2147483647 z2679 := sf_leR c2681 sf_k0 (sf_any z2679)
                      refine pm_R_ldc2 pm_M213 (pc' := 19) rfl rfl rfl ?_
                      refine pm_R_ret pm_M213 (r := some (.long 1000000000000)) rfl rfl ?_
                      show pm_R _ 208 50 [.ref 41, .int a0, .int a1, .int a2, .long y4_2549, pm_no, .int x6_2126, .int x7_2549] [.long 1000000000000] _ _
                      refine pm_R_lo pm_M208 (pc' := 52) (ls' := [.ref 41, .int a0, .int a1, .int a2, .long 1000000000000, pm_no, .int x6_2126, .int x7_2549]) (st' := []) rfl rfl rfl ?_
                      refine sf_R_iinc pm_M208 (pc' := 55) (ls' := fun z => [.ref 41, .int a0, .int a1, .int a2, .long 1000000000000, pm_no, .int x6_2126, .int z]) rfl B2554 rfl (by decide) (by decide) (by decide) (fun _ => rfl) rfl (fun z2683 e2684 B2685 => ?_)
                      show pm_R _ 208 55 [.ref 41, .int a0, .int a1, .int a2, .long 1000000000000, pm_no, .int x6_2126, .int z2683] [] _ _
                      refine pm_R_br pm_M208 (pc' := 18) rfl rfl ?_
                      exact ih_2549 _ (sf_up hN_2549 e2684 B2554 (by decide) (by decide)) z2683 1000000000000 (sf_weak B2685 (by decide) (by decide)) rfl
                    · have B2686 : sf_B (-2147483648) (-1) z2679 := sf_ltL (Int32.not_le.mp c2681) (sf_any z2679) sf_k0
                      have k2687 := sf_lneB e2680 B2686 (by decide)
                      refine pm_R_lo pm_M213 (pc' := 11) rfl rfl rfl ?_
                      refine pm_R_lo pm_M213 (pc' := 12) rfl rfl rfl ?_
                      refine sf_R_lany pm_M213 (pc' := 13) (st := []) rfl rfl rfl (fun z2688 => ?_)
                      refine pm_R_br pm_M213 (pc' := 19) rfl rfl ?_
                      refine pm_R_ret pm_M213 (r := some (.long z2688)) rfl rfl ?_
                      show pm_R _ 208 50 [.ref 41, .int a0, .int a1, .int a2, .long y4_2549, pm_no, .int x6_2126, .int x7_2549] [.long z2688] _ _
                      refine pm_R_lo pm_M208 (pc' := 52) (ls' := [.ref 41, .int a0, .int a1, .int a2, .long z2688, pm_no, .int x6_2126, .int x7_2549]) (st' := []) rfl rfl rfl ?_
                      refine sf_R_iinc pm_M208 (pc' := 55) (ls' := fun z => [.ref 41, .int a0, .int a1, .int a2, .long z2688, pm_no, .int x6_2126, .int z]) rfl B2554 rfl (by decide) (by decide) (by decide) (fun _ => rfl) rfl (fun z2689 e2690 B2691 => ?_)
                      show pm_R _ 208 55 [.ref 41, .int a0, .int a1, .int a2, .long z2688, pm_no, .int x6_2126, .int z2689] [] _ _
                      refine pm_R_br pm_M208 (pc' := 18) rfl rfl ?_
                      exact ih_2549 _ (sf_up hN_2549 e2690 B2554 (by decide) (by decide)) z2689 z2688 (sf_weak B2691 (by decide) (by decide)) rfl
                · have B2692 : sf_B 1 2147483647 z2651 := sf_ltR (Int32.not_le.mp c2653) sf_k0 (sf_any z2651)
                  have k2693 := sf_lneA e2652 B2692 (by decide)
                  refine pm_R_lo pm_M212 (pc' := 7) rfl rfl rfl ?_
                  refine pm_R_ldc2 pm_M212 (pc' := 10) rfl rfl rfl ?_
                  refine pm_R_lo pm_M212 (pc' := 11) rfl rfl rfl ?_
                  refine sf_R_ldivA pm_M212 (pc' := 12) rfl rfl k2693 (fun z2694 => ?_)
                  refine sf_R_lcmp pm_M212 (pc' := 13) rfl rfl (fun z2695 e2696 => ?_)
                  refine pm_R_ifc pm_M212 (t := 22) (pc' := 16) rfl rfl rfl (fun c2697 => ?_) (fun c2697 => ?_)
                  · have B2698 : sf_B (-2147483648) 0 z2695 := sf_leL c2697 (sf_any z2695) sf_k0
                    refine pm_R_lo pm_M212 (pc' := 23) rfl rfl rfl ?_
                    refine pm_R_lo pm_M212 (pc' := 24) rfl rfl rfl ?_
                    refine sf_R_lany pm_M212 (pc' := 25) (st := []) rfl rfl rfl (fun z2699 => ?_)
                    refine pm_R_op pm_M212 (pc' := 26) (st' := [.long 0, .long z2699]) rfl rfl rfl ?_
                    refine pm_R_cs pm_M212 (pc' := 29) (ra := [.long 0, .long z2699]) (rest := []) (ls' := [.long z2699, pm_no, .long 0, pm_no]) rfl rfl (Or.inl rfl) pm_M213 rfl rfl (Nat.le_of_ble_eq_true rfl) rfl rfl ?_
                    refine pm_R_lo pm_M213 (pc' := 1) rfl rfl rfl ?_
                    refine pm_R_lo pm_M213 (pc' := 2) rfl rfl rfl ?_
                    refine sf_R_lany pm_M213 (pc' := 3) (st := []) rfl rfl rfl (fun z2700 => ?_)
                    refine pm_R_ldc2 pm_M213 (pc' := 6) rfl rfl rfl ?_
                    refine sf_R_lcmp pm_M213 (pc' := 7) rfl rfl (fun z2701 e2702 => ?_)
                    refine pm_R_ifc pm_M213 (t := 16) (pc' := 10) rfl rfl rfl (fun c2703 => ?_) (fun c2703 => ?_)
                    · have B2704 : sf_B 0 2147483647 z2701 := sf_leR c2703 sf_k0 (sf_any z2701)
                      refine pm_R_ldc2 pm_M213 (pc' := 19) rfl rfl rfl ?_
                      refine pm_R_ret pm_M213 (r := some (.long 1000000000000)) rfl rfl ?_
                      show pm_R _ 212 29 [.long z2613, pm_no, .long z2649, pm_no] [.long 1000000000000] _ _
                      refine pm_R_ret pm_M212 (r := some (.long 1000000000000)) rfl rfl ?_
                      show pm_R _ 211 38 [.ref 41, .int x6_2126, .int a1, .int x7_2549, .int a2] [.long 1000000000000] _ _
                      refine pm_R_ret pm_M211 (r := some (.long 1000000000000)) rfl rfl ?_
                      show pm_R _ 208 47 [.ref 41, .int a0, .int a1, .int a2, .long y4_2549, pm_no, .int x6_2126, .int x7_2549] [.long 1000000000000, .long y4_2549] _ _
                      refine pm_R_cs pm_M208 (pc' := 50) (ra := [.long 1000000000000, .long y4_2549]) (rest := []) (ls' := [.long y4_2549, pm_no, .long 1000000000000, pm_no]) rfl rfl (Or.inl rfl) pm_M213 rfl rfl (Nat.le_of_ble_eq_true rfl) rfl rfl ?_
                      refine pm_R_lo pm_M213 (pc' := 1) rfl rfl rfl ?_
                      refine pm_R_lo pm_M213 (pc' := 2) rfl rfl rfl ?_
                      refine sf_R_lany pm_M213 (pc' := 3) (st := []) rfl rfl rfl (fun z2705 => ?_)
                      refine pm_R_ldc2 pm_M213 (pc' := 6) rfl rfl rfl ?_
                      refine sf_R_lcmp pm_M213 (pc' := 7) rfl rfl (fun z2706 e2707 => ?_)
                      refine pm_R_ifc pm_M213 (t := 16) (pc' := 10) rfl rfl rfl (fun c2708 => ?_) (fun c2708 => ?_)
                      · have B2709 : sf_B 0 2147483647 z2706 := sf_leR c2708 sf_k0 (sf_any z2706)
                        refine pm_R_ldc2 pm_M213 (pc' := 19) rfl rfl rfl ?_
                        refine pm_R_ret pm_M213 (r := some (.long 1000000000000)) rfl rfl ?_
                        show pm_R _ 208 50 [.ref 41, .int a0, .int a1, .int a2, .long y4_2549, pm_no, .int x6_2126, .int x7_2549] [.long 1000000000000] _ _
                        refine pm_R_lo pm_M208 (pc' := 52) (ls' := [.ref 41, .int a0, .int a1, .int a2, .long 1000000000000, pm_no, .int x6_2126, .int x7_2549]) (st' := []) rfl rfl rfl ?_
                        refine sf_R_iinc pm_M208 (pc' := 55) (ls' := fun z => [.ref 41, .int a0, .int a1, .int a2, .long 1000000000000, pm_no, .int x6_2126, .int z]) rfl B2554 rfl (by decide) (by decide) (by decide) (fun _ => rfl) rfl (fun z2710 e2711 B2712 => ?_)
                        show pm_R _ 208 55 [.ref 41, .int a0, .int a1, .int a2, .long 1000000000000, pm_no, .int x6_2126, .int z2710] [] _ _
                        refine pm_R_br pm_M208 (pc' := 18) rfl rfl ?_
                        exact ih_2549 _ (sf_up hN_2549 e2711 B2554 (by decide) (by decide)) z2710 1000000000000 (sf_weak B2712 (by decide) (by decide)) rfl
                      · have B2713 : sf_B (-2147483648) (-1) z2706 := sf_ltL (Int32.not_le.mp c2708) (sf_any z2706) sf_k0
                        have k2714 := sf_lneB e2707 B2713 (by decide)
                        refine pm_R_lo pm_M213 (pc' := 11) rfl rfl rfl ?_
                        refine pm_R_lo pm_M213 (pc' := 12) rfl rfl rfl ?_
                        refine sf_R_lany pm_M213 (pc' := 13) (st := []) rfl rfl rfl (fun z2715 => ?_)
                        refine pm_R_br pm_M213 (pc' := 19) rfl rfl ?_
                        refine pm_R_ret pm_M213 (r := some (.long z2715)) rfl rfl ?_
                        show pm_R _ 208 50 [.ref 41, .int a0, .int a1, .int a2, .long y4_2549, pm_no, .int x6_2126, .int x7_2549] [.long z2715] _ _
                        refine pm_R_lo pm_M208 (pc' := 52) (ls' := [.ref 41, .int a0, .int a1, .int a2, .long z2715, pm_no, .int x6_2126, .int x7_2549]) (st' := []) rfl rfl rfl ?_
                        refine sf_R_iinc pm_M208 (pc' := 55) (ls' := fun z => [.ref 41, .int a0, .int a1, .int a2, .long z2715, pm_no, .int x6_2126, .int z]) rfl B2554 rfl (by decide) (by decide) (by decide) (fun _ => rfl) rfl (fun z2716 e2717 B2718 => ?_)
                        show pm_R _ 208 55 [.ref 41, .int a0, .int a1, .int a2, .long z2715, pm_no, .int x6_2126, .int z2716] [] _ _
                        refine pm_R_br pm_M208 (pc' := 18) rfl rfl ?_
                        exact ih_2549 _ (sf_up hN_2549 e2717 B2554 (by decide) (by decide)) z2716 z2715 (sf_weak B2718 (by decide) (by decide)) rfl
                    · have B2719 : sf_B (-2147483648) (-1) z2701 := sf_ltL (Int32.not_le.mp c2703) (sf_any z2701) sf_k0
                      have k2720 := sf_lneB e2702 B2719 (by decide)
                      refine pm_R_lo pm_M213 (pc' := 11) rfl rfl rfl ?_
                      refine pm_R_lo pm_M213 (pc' := 12) rfl rfl rfl ?_
                      refine sf_R_lany pm_M213 (pc' := 13) (st := []) rfl rfl rfl (fun z2721 => ?_)
                      refine pm_R_br pm_M213 (pc' := 19) rfl rfl ?_
                      refine pm_R_ret pm_M213 (r := some (.long z2721)) rfl rfl ?_
                      show pm_R _ 212 29 [.long z2613, pm_no, .long z2649, pm_no] [.long z2721] _ _
                      refine pm_R_ret pm_M212 (r := some (.long z2721)) rfl rfl ?_
                      show pm_R _ 211 38 [.ref 41, .int x6_2126, .int a1, .int x7_2549, .int a2] [.long z2721] _ _
                      refine pm_R_ret pm_M211 (r := some (.long z2721)) rfl rfl ?_
                      show pm_R _ 208 47 [.ref 41, .int a0, .int a1, .int a2, .long y4_2549, pm_no, .int x6_2126, .int x7_2549] [.long z2721, .long y4_2549] _ _
                      refine pm_R_cs pm_M208 (pc' := 50) (ra := [.long z2721, .long y4_2549]) (rest := []) (ls' := [.long y4_2549, pm_no, .long z2721, pm_no]) rfl rfl (Or.inl rfl) pm_M213 rfl rfl (Nat.le_of_ble_eq_true rfl) rfl rfl ?_
                      refine pm_R_lo pm_M213 (pc' := 1) rfl rfl rfl ?_
                      refine pm_R_lo pm_M213 (pc' := 2) rfl rfl rfl ?_
                      refine sf_R_lany pm_M213 (pc' := 3) (st := []) rfl rfl rfl (fun z2722 => ?_)
                      refine pm_R_ldc2 pm_M213 (pc' := 6) rfl rfl rfl ?_
                      refine sf_R_lcmp pm_M213 (pc' := 7) rfl rfl (fun z2723 e2724 => ?_)
                      refine pm_R_ifc pm_M213 (t := 16) (pc' := 10) rfl rfl rfl (fun c2725 => ?_) (fun c2725 => ?_)
                      · have B2726 : sf_B 0 2147483647 z2723 := sf_leR c2725 sf_k0 (sf_any z2723)
                        refine pm_R_ldc2 pm_M213 (pc' := 19) rfl rfl rfl ?_
                        refine pm_R_ret pm_M213 (r := some (.long 1000000000000)) rfl rfl ?_
                        show pm_R _ 208 50 [.ref 41, .int a0, .int a1, .int a2, .long y4_2549, pm_no, .int x6_2126, .int x7_2549] [.long 1000000000000] _ _
                        refine pm_R_lo pm_M208 (pc' := 52) (ls' := [.ref 41, .int a0, .int a1, .int a2, .long 1000000000000, pm_no, .int x6_2126, .int x7_2549]) (st' := []) rfl rfl rfl ?_
                        refine sf_R_iinc pm_M208 (pc' := 55) (ls' := fun z => [.ref 41, .int a0, .int a1, .int a2, .long 1000000000000, pm_no, .int x6_2126, .int z]) rfl B2554 rfl (by decide) (by decide) (by decide) (fun _ => rfl) rfl (fun z2727 e2728 B2729 => ?_)
                        show pm_R _ 208 55 [.ref 41, .int a0, .int a1, .int a2, .long 1000000000000, pm_no, .int x6_2126, .int z2727] [] _ _
                        refine pm_R_br pm_M208 (pc' := 18) rfl rfl ?_
                        exact ih_2549 _ (sf_up hN_2549 e2728 B2554 (by decide) (by decide)) z2727 1000000000000 (sf_weak B2729 (by decide) (by decide)) rfl
                      · have B2730 : sf_B (-2147483648) (-1) z2723 := sf_ltL (Int32.not_le.mp c2725) (sf_any z2723) sf_k0
                        have k2731 := sf_lneB e2724 B2730 (by decide)
                        refine pm_R_lo pm_M213 (pc' := 11) rfl rfl rfl ?_
                        refine pm_R_lo pm_M213 (pc' := 12) rfl rfl rfl ?_
                        refine sf_R_lany pm_M213 (pc' := 13) (st := []) rfl rfl rfl (fun z2732 => ?_)
                        refine pm_R_br pm_M213 (pc' := 19) rfl rfl ?_
                        refine pm_R_ret pm_M213 (r := some (.long z2732)) rfl rfl ?_
                        show pm_R _ 208 50 [.ref 41, .int a0, .int a1, .int a2, .long y4_2549, pm_no, .int x6_2126, .int x7_2549] [.long z2732] _ _
                        refine pm_R_lo pm_M208 (pc' := 52) (ls' := [.ref 41, .int a0, .int a1, .int a2, .long z2732, pm_no, .int x6_2126, .int x7_2549]) (st' := []) rfl rfl rfl ?_
                        refine sf_R_iinc pm_M208 (pc' := 55) (ls' := fun z => [.ref 41, .int a0, .int a1, .int a2, .long z2732, pm_no, .int x6_2126, .int z]) rfl B2554 rfl (by decide) (by decide) (by decide) (fun _ => rfl) rfl (fun z2733 e2734 B2735 => ?_)
                        show pm_R _ 208 55 [.ref 41, .int a0, .int a1, .int a2, .long z2732, pm_no, .int x6_2126, .int z2733] [] _ _
                        refine pm_R_br pm_M208 (pc' := 18) rfl rfl ?_
                        exact ih_2549 _ (sf_up hN_2549 e2734 B2554 (by decide) (by decide)) z2733 z2732 (sf_weak B2735 (by decide) (by decide)) rfl
                  · have B2736 : sf_B 1 2147483647 z2695 := sf_ltR (Int32.not_le.mp c2697) sf_k0 (sf_any z2695)
                    have k2737 := sf_lneA e2696 B2736 (by decide)
                    refine pm_R_ldc2 pm_M212 (pc' := 19) rfl rfl rfl ?_
                    refine pm_R_br pm_M212 (pc' := 29) rfl rfl ?_
                    refine pm_R_ret pm_M212 (r := some (.long 1000000000000)) rfl rfl ?_
                    show pm_R _ 211 38 [.ref 41, .int x6_2126, .int a1, .int x7_2549, .int a2] [.long 1000000000000] _ _
                    refine pm_R_ret pm_M211 (r := some (.long 1000000000000)) rfl rfl ?_
                    show pm_R _ 208 47 [.ref 41, .int a0, .int a1, .int a2, .long y4_2549, pm_no, .int x6_2126, .int x7_2549] [.long 1000000000000, .long y4_2549] _ _
                    refine pm_R_cs pm_M208 (pc' := 50) (ra := [.long 1000000000000, .long y4_2549]) (rest := []) (ls' := [.long y4_2549, pm_no, .long 1000000000000, pm_no]) rfl rfl (Or.inl rfl) pm_M213 rfl rfl (Nat.le_of_ble_eq_true rfl) rfl rfl ?_
                    refine pm_R_lo pm_M213 (pc' := 1) rfl rfl rfl ?_
                    refine pm_R_lo pm_M213 (pc' := 2) rfl rfl rfl ?_
                    refine sf_R_lany pm_M213 (pc' := 3) (st := []) rfl rfl rfl (fun z2738 => ?_)
                    refine pm_R_ldc2 pm_M213 (pc' := 6) rfl rfl rfl ?_
                    refine sf_R_lcmp pm_M213 (pc' := 7) rfl rfl (fun z2739 e2740 => ?_)
                    refine pm_R_ifc pm_M213 (t := 16) (pc' := 10) rfl rfl rfl (fun c2741 => ?_) (fun c2741 => ?_)
                    · have B2742 : sf_B 0 2147483647 z2739 := sf_leR c2741 sf_k0 (sf_any z2739)
                      refine pm_R_ldc2 pm_M213 (pc' := 19) rfl rfl rfl ?_
                      refine pm_R_ret pm_M213 (r := some (.long 1000000000000)) rfl rfl ?_
                      show pm_R _ 208 50 [.ref 41, .int a0, .int a1, .int a2, .long y4_2549, pm_no, .int x6_2126, .int x7_2549] [.long 1000000000000] _ _
                      refine pm_R_lo pm_M208 (pc' := 52) (ls' := [.ref 41, .int a0, .int a1, .int a2, .long 1000000000000, pm_no, .int x6_2126, .int x7_2549]) (st' := []) rfl rfl rfl ?_
                      refine sf_R_iinc pm_M208 (pc' := 55) (ls' := fun z => [.ref 41, .int a0, .int a1, .int a2, .long 1000000000000, pm_no, .int x6_2126, .int z]) rfl B2554 rfl (by decide) (by decide) (by decide) (fun _ => rfl) rfl (fun z2743 e2744 B2745 => ?_)
                      show pm_R _ 208 55 [.ref 41, .int a0, .int a1, .int a2, .long 1000000000000, pm_no, .int x6_2126, .int z2743] [] _ _
                      refine pm_R_br pm_M208 (pc' := 18) rfl rfl ?_
                      exact ih_2549 _ (sf_up hN_2549 e2744 B2554 (by decide) (by decide)) z2743 1000000000000 (sf_weak B2745 (by decide) (by decide)) rfl
                    · have B2746 : sf_B (-2147483648) (-1) z2739 := sf_ltL (Int32.not_le.mp c2741) (sf_any z2739) sf_k0
                      have k2747 := sf_lneB e2740 B2746 (by decide)
                      refine pm_R_lo pm_M213 (pc' := 11) rfl rfl rfl ?_
                      refine pm_R_lo pm_M213 (pc' := 12) rfl rfl rfl ?_
                      refine sf_R_lany pm_M213 (pc' := 13) (st := []) rfl rfl rfl (fun z2748 => ?_)
                      refine pm_R_br pm_M213 (pc' := 19) rfl rfl ?_
                      refine pm_R_ret pm_M213 (r := some (.long z2748)) rfl rfl ?_
                      show pm_R _ 208 50 [.ref 41, .int a0, .int a1, .int a2, .long y4_2549, pm_no, .int x6_2126, .int x7_2549] [.long z2748] _ _
                      refine pm_R_lo pm_M208 (pc' := 52) (ls' := [.ref 41, .int a0, .int a1, .int a2, .long z2748, pm_no, .int x6_2126, .int x7_2549]) (st' := []) rfl rfl rfl ?_
                      refine sf_R_iinc pm_M208 (pc' := 55) (ls' := fun z => [.ref 41, .int a0, .int a1, .int a2, .long z2748, pm_no, .int x6_2126, .int z]) rfl B2554 rfl (by decide) (by decide) (by decide) (fun _ => rfl) rfl (fun z2749 e2750 B2751 => ?_)
                      show pm_R _ 208 55 [.ref 41, .int a0, .int a1, .int a2, .long z2748, pm_no, .int x6_2126, .int z2749] [] _ _
                      refine pm_R_br pm_M208 (pc' := 18) rfl rfl ?_
                      exact ih_2549 _ (sf_up hN_2549 e2750 B2554 (by decide) (by decide)) z2749 z2748 (sf_weak B2751 (by decide) (by decide)) rfl
        exact L_2549 _ a1 y4_2126 Ba1 rfl
  exact L_2126 _ 0 0 (pm_no) (sf_weak sf_k0 (by decide) (by decide)) rfl rfl

set_option maxRecDepth 100000 in
set_option maxHeartbeats 4000000 in
/-- SilentTableModel.findValues -/
theorem rf_c216 {d : Nat} {m : Nat → Int32} {w : Int64} {h : pm_H} {Q : Option Value → pm_H → Prop}  (T : rf_T m w h)  (K : ∀ (m' : Nat → Int32) (w' : Int64) (h' : pm_H), rf_T m' w' h' → rf_F h h' → rf_W [] m m' → Q none h') : pm_R (d + 4) 216 0 [.ref 41, pm_no, pm_no, pm_no, pm_no, pm_no] [] h Q := by
  refine pm_R_op pm_M216 (pc' := 1) (st' := [.int 0]) rfl rfl rfl ?_
  refine pm_R_lo pm_M216 (pc' := 2) (ls' := [.ref 41, .int 0, pm_no, pm_no, pm_no, pm_no]) (st' := []) rfl rfl rfl ?_
  have L_51679 : ∀ (N : Nat) (h_51679 : pm_H) (m_51679 : Nat → Int32) (w_51679 : Int64) (x1_51679 : Int32) (g2_51679 : Value) (g3_51679 : Value) (g4_51679 : Value) (g5_51679 : Value), rf_T m_51679 w_51679 h_51679 → rf_F h h_51679 → rf_W [] m m_51679 → sf_B 0 6 x1_51679 → g2_51679.category = 1 → g4_51679.category = 1 → g5_51679.category = 1 → (6 - x1_51679.toInt).toNat = N → pm_R (d + 4) 216 2 [.ref 41, .int x1_51679, g2_51679, g3_51679, g4_51679, g5_51679] [] h_51679 Q := by
    intro N
    induction N using Nat.strongRecOn with
    | ind N ih_51679 =>
      intro h_51679 m_51679 w_51679 x1_51679 g2_51679 g3_51679 g4_51679 g5_51679 T_51679 F_51679 W_51679 Bx1_51679 Cg2_51679 Cg4_51679 Cg5_51679 hN_51679
      have W51681 : rf_W [] m m_51679 := (rf_W.refl [] m).trans W_51679 (by decide)
      refine pm_R_lo pm_M216 (pc' := 3) rfl rfl rfl ?_
      refine pm_R_op pm_M216 (pc' := 5) (st' := [.int 6, .int x1_51679]) rfl rfl rfl ?_
      refine pm_R_icmp pm_M216 (t := 99) (pc' := 8) rfl rfl rfl (fun c51682 => ?_) (fun c51682 => ?_)
      · have B51683 : sf_B 6 6 x1_51679 := sf_leR c51682 sf_k6 Bx1_51679
        refine pm_R_op pm_M216 (pc' := 100) (st' := [.int 1]) rfl rfl rfl ?_
        refine pm_R_lo pm_M216 (pc' := 101) (ls' := [.ref 41, .int 1, g2_51679, g3_51679, g4_51679, g5_51679]) (st' := []) rfl rfl rfl ?_
        have L_57304 : ∀ (N : Nat) (h_57304 : pm_H) (m_57304 : Nat → Int32) (w_57304 : Int64) (x1_57304 : Int32) (g2_57304 : Value) (g3_57304 : Value), rf_T m_57304 w_57304 h_57304 → rf_F h h_57304 → rf_W [] m_51679 m_57304 → sf_B 1 12 x1_57304 → g2_57304.category = 1 → (12 - x1_57304.toInt).toNat = N → pm_R (d + 4) 216 101 [.ref 41, .int x1_57304, g2_57304, g3_57304, g4_51679, g5_51679] [] h_57304 Q := by
          intro N
          induction N using Nat.strongRecOn with
          | ind N ih_57304 =>
            intro h_57304 m_57304 w_57304 x1_57304 g2_57304 g3_57304 T_57304 F_57304 W_57304 Bx1_57304 Cg2_57304 hN_57304
            have W57306 : rf_W [] m m_57304 := W51681.trans W_57304 (by decide)
            have W57307 : rf_W [] m m_57304 := W_51679.trans W_57304 (by decide)
            refine pm_R_lo pm_M216 (pc' := 102) rfl rfl rfl ?_
            refine pm_R_lo pm_M216 (pc' := 103) rfl rfl rfl ?_
            have B57308 : sf_B 0 12 (m_57304 24) := T_57304.2.2.1 24
            refine rf_R_get pm_M216 T_57304 (pc' := 106) (v := .int (m_57304 24)) rfl rfl rfl rfl ?_
            refine pm_R_icmp pm_M216 (t := 169) (pc' := 109) (pm_q216_1 (Nat.le_of_ble_eq_true rfl)) rfl rfl (fun c57309 => ?_) (fun c57309 => ?_)
            · skip
              exact pm_R_ret pm_M216 (r := none) (pm_q216_1 (Nat.le_of_ble_eq_true rfl)) rfl (K m_57304 w_57304 h_57304 T_57304 F_57304 W57306)
            · have B57310 : sf_B 1 11 x1_57304 := sf_ltL (Int32.not_le.mp c57309) Bx1_57304 B57308
              have B57311 : sf_B 2 12 (m_57304 24) := sf_ltR (Int32.not_le.mp c57309) Bx1_57304 B57308
              refine pm_R_op pm_M216 (pc' := 110) (st' := [.int 0]) (pm_q216_1 (Nat.le_of_ble_eq_true rfl)) rfl rfl ?_
              refine pm_R_lo pm_M216 (pc' := 111) (ls' := [.ref 41, .int x1_57304, .int 0, g3_57304, g4_51679, g5_51679]) (st' := []) (pm_q216_1 (Nat.le_of_ble_eq_true rfl)) rfl rfl ?_
              have L_58439 : ∀ (N : Nat) (h_58439 : pm_H) (m_58439 : Nat → Int32) (w_58439 : Int64) (x2_58439 : Int32) (g3_58439 : Value), rf_T m_58439 w_58439 h_58439 → rf_F h h_58439 → rf_W [] m_57304 m_58439 → sf_B 0 11 x2_58439 → (11 - x2_58439.toInt).toNat = N → pm_R (d + 4) 216 111 [.ref 41, .int x1_57304, .int x2_58439, g3_58439, g4_51679, g5_51679] [] h_58439 Q := by
                intro N
                induction N using Nat.strongRecOn with
                | ind N ih_58439 =>
                  intro h_58439 m_58439 w_58439 x2_58439 g3_58439 T_58439 F_58439 W_58439 Bx2_58439 hN_58439
                  have B58441 : sf_B 2 12 (m_58439 24) := by rw [W_58439 24 (by decide)]; exact B57311
                  have W58442 : rf_W [] m m_58439 := W57306.trans W_58439 (by decide)
                  have W58443 : rf_W [] m m_58439 := W57307.trans W_58439 (by decide)
                  have W58444 : rf_W [] m_51679 m_58439 := W_57304.trans W_58439 (by decide)
                  refine pm_R_lo pm_M216 (pc' := 112) (pm_q216_1 (Nat.le_of_ble_eq_true rfl)) rfl rfl ?_
                  refine pm_R_lo pm_M216 (pc' := 113) (pm_q216_1 (Nat.le_of_ble_eq_true rfl)) rfl rfl ?_
                  refine sf_R_iadd pm_M216 (pc' := 114) (pm_q216_1 (Nat.le_of_ble_eq_true rfl)) rfl Bx2_58439 B57310 (by decide) (by decide) (fun z58445 e58446 B58447 => ?_)
                  refine pm_R_lo pm_M216 (pc' := 115) (pm_q216_1 (Nat.le_of_ble_eq_true rfl)) rfl rfl ?_
                  refine rf_R_get pm_M216 T_58439 (pc' := 118) (v := .int (m_58439 24)) (pm_q216_1 (Nat.le_of_ble_eq_true rfl)) rfl rfl rfl ?_
                  refine pm_R_icmp pm_M216 (t := 163) (pc' := 121) (pm_q216_1 (Nat.le_of_ble_eq_true rfl)) rfl rfl (fun c58448 => ?_) (fun c58448 => ?_)
                  · have B58449 : sf_B 2 22 z58445 := sf_leR c58448 B58441 B58447
                    refine sf_R_iinc pm_M216 (pc' := 166) (ls' := fun z => [.ref 41, .int z, .int x2_58439, g3_58439, g4_51679, g5_51679]) (pm_q216_1 (Nat.le_of_ble_eq_true rfl)) B57310 rfl (by decide) (by decide) (by decide) (fun _ => rfl) rfl (fun z58450 e58451 B58452 => ?_)
                    show pm_R _ 216 166 [.ref 41, .int z58450, .int x2_58439, g3_58439, g4_51679, g5_51679] [] _ _
                    refine pm_R_br pm_M216 (pc' := 101) (pm_q216_1 (Nat.le_of_ble_eq_true rfl)) rfl ?_
                    exact ih_57304 _ (sf_up hN_57304 e58451 B57310 (by decide) (by decide)) h_58439 m_58439 w_58439 z58450 (.int x2_58439) (g3_58439) T_58439 F_58439 W58444 (sf_weak B58452 (by decide) (by decide)) rfl rfl
                  · have B58453 : sf_B 1 11 z58445 := sf_ltL (Int32.not_le.mp c58448) B58447 B58441
                    have B58454 : sf_B 0 10 x2_58439 := sf_addL e58446 B58453 B57310 Bx2_58439
                    refine pm_R_op pm_M216 (pc' := 122) (st' := [.int 0]) (pm_q216_1 (Nat.le_of_ble_eq_true rfl)) rfl rfl ?_
                    refine pm_R_lo pm_M216 (pc' := 123) (ls' := [.ref 41, .int x1_57304, .int x2_58439, .int 0, g4_51679, g5_51679]) (st' := []) (pm_q216_1 (Nat.le_of_ble_eq_true rfl)) rfl rfl ?_
                    have L_58670 : ∀ (N : Nat) (h_58670 : pm_H) (m_58670 : Nat → Int32) (w_58670 : Int64) (x3_58670 : Int32), rf_T m_58670 w_58670 h_58670 → rf_F h h_58670 → rf_W [] m_58439 m_58670 → sf_B 0 6 x3_58670 → (6 - x3_58670.toInt).toNat = N → pm_R (d + 4) 216 123 [.ref 41, .int x1_57304, .int x2_58439, .int x3_58670, g4_51679, g5_51679] [] h_58670 Q := by
                      intro N
                      induction N using Nat.strongRecOn with
                      | ind N ih_58670 =>
                        intro h_58670 m_58670 w_58670 x3_58670 T_58670 F_58670 W_58670 Bx3_58670 hN_58670
                        have B58672 : sf_B 2 12 (m_58670 24) := by rw [W_58670 24 (by decide)]; exact B58441
                        have W58673 : rf_W [] m m_58670 := W58442.trans W_58670 (by decide)
                        have W58674 : rf_W [] m m_58670 := W58443.trans W_58670 (by decide)
                        have W58675 : rf_W [] m_51679 m_58670 := W58444.trans W_58670 (by decide)
                        have W58676 : rf_W [] m_57304 m_58670 := W_58439.trans W_58670 (by decide)
                        refine pm_R_lo pm_M216 (pc' := 124) (pm_q216_1 (Nat.le_of_ble_eq_true rfl)) rfl rfl ?_
                        refine pm_R_op pm_M216 (pc' := 126) (st' := [.int 6, .int x3_58670]) (pm_q216_1 (Nat.le_of_ble_eq_true rfl)) rfl rfl ?_
                        refine pm_R_icmp pm_M216 (t := 157) (pc' := 129) (pm_q216_1 (Nat.le_of_ble_eq_true rfl)) rfl rfl (fun c58677 => ?_) (fun c58677 => ?_)
                        · have B58678 : sf_B 6 6 x3_58670 := sf_leR c58677 sf_k6 Bx3_58670
                          refine sf_R_iinc pm_M216 (pc' := 160) (ls' := fun z => [.ref 41, .int x1_57304, .int z, .int x3_58670, g4_51679, g5_51679]) (pm_q216_1 (Nat.le_of_ble_eq_true rfl)) B58454 rfl (by decide) (by decide) (by decide) (fun _ => rfl) rfl (fun z58679 e58680 B58681 => ?_)
                          show pm_R _ 216 160 [.ref 41, .int x1_57304, .int z58679, .int x3_58670, g4_51679, g5_51679] [] _ _
                          refine pm_R_br pm_M216 (pc' := 111) (pm_q216_1 (Nat.le_of_ble_eq_true rfl)) rfl ?_
                          exact ih_58439 _ (sf_up hN_58439 e58680 B58454 (by decide) (by decide)) h_58670 m_58670 w_58670 z58679 (.int x3_58670) T_58670 F_58670 W58676 (sf_weak B58681 (by decide) (by decide)) rfl
                        · have B58682 : sf_B 0 5 x3_58670 := sf_ltL (Int32.not_le.mp c58677) Bx3_58670 sf_k6
                          refine pm_R_lo pm_M216 (pc' := 130) (pm_q216_1 (Nat.le_of_ble_eq_true rfl)) rfl rfl ?_
                          refine rf_R_get pm_M216 T_58670 (pc' := 133) (v := .ref 54) (pm_q216_1 (Nat.le_of_ble_eq_true rfl)) rfl rfl rfl ?_
                          refine pm_R_lo pm_M216 (pc' := 134) (pm_q216_1 (Nat.le_of_ble_eq_true rfl)) rfl rfl ?_
                          refine pm_R_lo pm_M216 (pc' := 135) (pm_q216_1 (Nat.le_of_ble_eq_true rfl)) rfl rfl ?_
                          refine pm_R_lo pm_M216 (pc' := 136) (pm_q216_1 (Nat.le_of_ble_eq_true rfl)) rfl rfl ?_
                          refine pm_R_lo pm_M216 (pc' := 137) (pm_q216_1 (Nat.le_of_ble_eq_true rfl)) rfl rfl ?_
                          refine sf_R_iadd pm_M216 (pc' := 138) (pm_q216_1 (Nat.le_of_ble_eq_true rfl)) rfl B58454 B57310 (by decide) (by decide) (fun z58683 e58684 B58685 => ?_)
                          have B58686 : sf_B 1 11 z58683 := sf_same e58446 e58684 B58453
                          refine pm_R_cs pm_M216 (pc' := 141) (ra := [.int z58683, .int x2_58439, .int x3_58670]) (rest := [.ref 54]) (ls' := [.int x3_58670, .int x2_58439, .int z58683]) (pm_q216_1 (Nat.le_of_ble_eq_true rfl)) rfl (Or.inl rfl) pm_M207 rfl rfl (Nat.le_of_ble_eq_true rfl) rfl rfl ?_
                          refine pm_R_op pm_M207 (pc' := 3) (st' := [.int 144]) rfl rfl rfl ?_
                          refine pm_R_lo pm_M207 (pc' := 4) rfl rfl rfl ?_
                          refine sf_R_imul pm_M207 (pc' := 5) rfl rfl sf_k144 B58682 (by decide) (by decide) (by decide) (fun z58687 e58688 B58689 => ?_)
                          refine pm_R_op pm_M207 (pc' := 7) (st' := [.int 12, .int z58687]) rfl rfl rfl ?_
                          refine pm_R_lo pm_M207 (pc' := 8) rfl rfl rfl ?_
                          refine sf_R_imul pm_M207 (pc' := 9) rfl rfl sf_k12 B58454 (by decide) (by decide) (by decide) (fun z58690 e58691 B58692 => ?_)
                          refine sf_R_iadd pm_M207 (pc' := 10) rfl rfl B58689 B58692 (by decide) (by decide) (fun z58693 e58694 B58695 => ?_)
                          refine pm_R_lo pm_M207 (pc' := 11) rfl rfl rfl ?_
                          refine sf_R_iadd pm_M207 (pc' := 12) rfl rfl B58695 B58686 (by decide) (by decide) (fun z58696 e58697 B58698 => ?_)
                          refine pm_R_ret pm_M207 (r := some (.int z58696)) rfl (pm_ret_i _) ?_
                          show pm_R _ 216 141 [.ref 41, .int x1_57304, .int x2_58439, .int x3_58670, g4_51679, g5_51679] [.int z58696, .ref 54] _ _
                          refine pm_R_lo pm_M216 (pc' := 142) (pm_q216_1 (Nat.le_of_ble_eq_true rfl)) rfl rfl ?_
                          refine pm_R_lo pm_M216 (pc' := 143) (pm_q216_1 (Nat.le_of_ble_eq_true rfl)) rfl rfl ?_
                          refine pm_R_lo pm_M216 (pc' := 144) (pm_q216_1 (Nat.le_of_ble_eq_true rfl)) rfl rfl ?_
                          refine pm_R_lo pm_M216 (pc' := 145) (pm_q216_1 (Nat.le_of_ble_eq_true rfl)) rfl rfl ?_
                          refine pm_R_lo pm_M216 (pc' := 146) (pm_q216_1 (Nat.le_of_ble_eq_true rfl)) rfl rfl ?_
                          refine sf_R_iadd pm_M216 (pc' := 147) (pm_q216_1 (Nat.le_of_ble_eq_true rfl)) rfl B58454 B57310 (by decide) (by decide) (fun z58699 e58700 B58701 => ?_)
                          have B58702 : sf_B 1 11 z58699 := sf_same e58684 e58700 B58686
                          refine pm_R_cv pm_M216 (pc' := 150) (a := 41) (ra := [.int z58699, .int x2_58439, .int x3_58670]) (rest := [.int z58696, .ref 54]) (ls' := [.ref 41, .int x3_58670, .int x2_58439, .int z58699, pm_no, pm_no, pm_no, pm_no]) (pm_q216_1 (Nat.le_of_ble_eq_true rfl)) rfl (Or.inl rfl) pm_M217 T_58670.2.1 rfl (by decide) (Nat.lt_of_lt_of_le (by decide) T_58670.1) rfl rfl (Nat.le_of_ble_eq_true rfl) rfl rfl ?_
                          refine rf_c217 (d := d + 0) T_58670 B58682 (sf_weak B58454 (by decide) (by decide)) (sf_weak B58702 (by decide) (by decide)) (fun r58703 => ?_)
                          show pm_R _ 216 150 [.ref 41, .int x1_57304, .int x2_58439, .int x3_58670, g4_51679, g5_51679] [.long r58703, .int z58696, .ref 54] _ _
                          obtain ⟨f58711, e58712⟩ := T_58670.2.2.2.1 54 (by decide) (by decide)
                          refine rf_R_lst pm_M216 T_58670 (pc' := 151) (pm_q216_1 (Nat.le_of_ble_eq_true rfl)) e58712 (by decide) (by decide) (sf_in B58698 (by decide) (by decide)) ⟨_, rfl⟩ rfl (fun h58714 T58715 F58716 => ?_)
                          have F58717 := F_58670.trans F58716
                          refine sf_R_iinc pm_M216 (pc' := 154) (ls' := fun z => [.ref 41, .int x1_57304, .int x2_58439, .int z, g4_51679, g5_51679]) (pm_q216_1 (Nat.le_of_ble_eq_true rfl)) B58682 rfl (by decide) (by decide) (by decide) (fun _ => rfl) rfl (fun z58718 e58719 B58720 => ?_)
                          show pm_R _ 216 154 [.ref 41, .int x1_57304, .int x2_58439, .int z58718, g4_51679, g5_51679] [] _ _
                          refine pm_R_br pm_M216 (pc' := 123) (pm_q216_1 (Nat.le_of_ble_eq_true rfl)) rfl ?_
                          exact ih_58670 _ (sf_up hN_58670 e58719 B58682 (by decide) (by decide)) h58714 m_58670 w_58670 z58718 T58715 F58717 W_58670 (sf_weak B58720 (by decide) (by decide)) rfl
                    exact L_58670 _ h_58439 m_58439 w_58439 0 T_58439 F_58439 (rf_W.refl _ _) (sf_weak sf_k0 (by decide) (by decide)) rfl
              exact L_58439 _ h_57304 m_57304 w_57304 0 (g3_57304) T_57304 F_57304 (rf_W.refl _ _) (sf_weak sf_k0 (by decide) (by decide)) rfl
        exact L_57304 _ h_51679 m_51679 w_51679 1 (g2_51679) (g3_51679) T_51679 F_51679 (rf_W.refl _ _) (sf_weak sf_k1 (by decide) (by decide)) Cg2_51679 rfl
      · have B58721 : sf_B 0 5 x1_51679 := sf_ltL (Int32.not_le.mp c51682) Bx1_51679 sf_k6
        refine pm_R_op pm_M216 (pc' := 9) (st' := [.int 0]) rfl rfl rfl ?_
        refine pm_R_lo pm_M216 (pc' := 10) (ls' := [.ref 41, .int x1_51679, .int 0, g3_51679, g4_51679, g5_51679]) (st' := []) rfl rfl rfl ?_
        have L_65406 : ∀ (N : Nat) (h_65406 : pm_H) (m_65406 : Nat → Int32) (w_65406 : Int64) (x2_65406 : Int32) (g3_65406 : Value) (g4_65406 : Value) (g5_65406 : Value), rf_T m_65406 w_65406 h_65406 → rf_F h h_65406 → rf_W [] m_51679 m_65406 → sf_B 0 12 x2_65406 → g4_65406.category = 1 → g5_65406.category = 1 → (12 - x2_65406.toInt).toNat = N → pm_R (d + 4) 216 10 [.ref 41, .int x1_51679, .int x2_65406, g3_65406, g4_65406, g5_65406] [] h_65406 Q := by
          intro N
          induction N using Nat.strongRecOn with
          | ind N ih_65406 =>
            intro h_65406 m_65406 w_65406 x2_65406 g3_65406 g4_65406 g5_65406 T_65406 F_65406 W_65406 Bx2_65406 Cg4_65406 Cg5_65406 hN_65406
            have W65408 : rf_W [] m m_65406 := W51681.trans W_65406 (by decide)
            have W65409 : rf_W [] m m_65406 := W_51679.trans W_65406 (by decide)
            refine pm_R_lo pm_M216 (pc' := 11) rfl rfl rfl ?_
            refine pm_R_lo pm_M216 (pc' := 12) rfl rfl rfl ?_
            have B65410 : sf_B 0 12 (m_65406 24) := T_65406.2.2.1 24
            refine rf_R_get pm_M216 T_65406 (pc' := 15) (v := .int (m_65406 24)) rfl rfl rfl rfl ?_
            refine pm_R_icmp pm_M216 (t := 93) (pc' := 18) rfl rfl rfl (fun c65411 => ?_) (fun c65411 => ?_)
            · skip
              refine sf_R_iinc pm_M216 (pc' := 96) (ls' := fun z => [.ref 41, .int z, .int x2_65406, g3_65406, g4_65406, g5_65406]) rfl B58721 rfl (by decide) (by decide) (by decide) (fun _ => rfl) rfl (fun z65412 e65413 B65414 => ?_)
              show pm_R _ 216 96 [.ref 41, .int z65412, .int x2_65406, g3_65406, g4_65406, g5_65406] [] _ _
              refine pm_R_br pm_M216 (pc' := 2) rfl rfl ?_
              exact ih_51679 _ (sf_up hN_51679 e65413 B58721 (by decide) (by decide)) h_65406 m_65406 w_65406 z65412 (.int x2_65406) (g3_65406) (g4_65406) (g5_65406) T_65406 F_65406 W65409 (sf_weak B65414 (by decide) (by decide)) rfl Cg4_65406 Cg5_65406 rfl
            · have B65415 : sf_B 0 11 x2_65406 := sf_ltL (Int32.not_le.mp c65411) Bx2_65406 B65410
              have B65416 : sf_B 1 12 (m_65406 24) := sf_ltR (Int32.not_le.mp c65411) Bx2_65406 B65410
              refine pm_R_op pm_M216 (pc' := 19) (st' := [.long 0]) rfl rfl rfl ?_
              refine pm_R_lo pm_M216 (pc' := 20) (ls' := [.ref 41, .int x1_51679, .int x2_65406, .long 0, pm_no, g5_65406]) (st' := []) rfl rfl rfl ?_
              refine pm_R_op pm_M216 (pc' := 21) (st' := [.int 0]) rfl rfl rfl ?_
              refine pm_R_lo pm_M216 (pc' := 23) (ls' := [.ref 41, .int x1_51679, .int x2_65406, .long 0, pm_no, .int 0]) (st' := []) rfl rfl rfl ?_
              have L_66519 : ∀ (N : Nat) (h_66519 : pm_H) (m_66519 : Nat → Int32) (w_66519 : Int64) (x5_66519 : Int32) (y3_66519 : Int64), rf_T m_66519 w_66519 h_66519 → rf_F h h_66519 → rf_W [] m_65406 m_66519 → sf_B 0 16 x5_66519 → (16 - x5_66519.toInt).toNat = N → pm_R (d + 4) 216 23 [.ref 41, .int x1_51679, .int x2_65406, .long y3_66519, pm_no, .int x5_66519] [] h_66519 Q := by
                intro N
                induction N using Nat.strongRecOn with
                | ind N ih_66519 =>
                  intro h_66519 m_66519 w_66519 x5_66519 y3_66519 T_66519 F_66519 W_66519 Bx5_66519 hN_66519
                  have B66521 : sf_B 1 12 (m_66519 24) := by rw [W_66519 24 (by decide)]; exact B65416
                  have W66522 : rf_W [] m m_66519 := W65408.trans W_66519 (by decide)
                  have W66523 : rf_W [] m m_66519 := W65409.trans W_66519 (by decide)
                  have W66524 : rf_W [] m_51679 m_66519 := W_65406.trans W_66519 (by decide)
                  refine pm_R_lo pm_M216 (pc' := 25) rfl rfl rfl ?_
                  refine pm_R_lo pm_M216 (pc' := 26) rfl rfl rfl ?_
                  refine pm_R_cv pm_M216 (pc' := 29) (a := 41) (ra := []) (rest := [.int x5_66519]) (ls' := [.ref 41]) rfl rfl (Or.inl rfl) pm_M203 T_66519.2.1 rfl (by decide) (Nat.lt_of_lt_of_le (by decide) T_66519.1) rfl rfl (Nat.le_of_ble_eq_true rfl) rfl rfl ?_
                  refine pm_R_lo pm_M203 (pc' := 1) rfl rfl rfl ?_
                  refine rf_R_get pm_M203 T_66519 (pc' := 4) (v := .ref 47) rfl rfl rfl rfl ?_
                  refine pm_R_op pm_M203 (pc' := 6) (st' := [.int 100, .ref 47]) rfl rfl rfl ?_
                  refine pm_R_lo pm_M203 (pc' := 7) rfl rfl rfl ?_
                  have B66525 : sf_B 0 1 (m_66519 23) := T_66519.2.2.1 23
                  refine rf_R_get pm_M203 T_66519 (pc' := 10) (v := .int (m_66519 23)) rfl rfl rfl rfl ?_
                  refine sf_R_imul pm_M203 (pc' := 11) rfl rfl sf_k100 B66525 (by decide) (by decide) (by decide) (fun z66526 e66527 B66528 => ?_)
                  refine pm_R_op pm_M203 (pc' := 12) (st' := [.int 1, .int z66526, .ref 47]) rfl rfl rfl ?_
                  refine sf_R_iadd pm_M203 (pc' := 13) rfl rfl B66528 sf_k1 (by decide) (by decide) (fun z66529 e66530 B66531 => ?_)
                  obtain ⟨f66532, e66533, b66534⟩ := T_66519.2.2.2.1 47 (by decide) (by decide)
                  refine rf_R_ild pm_M203 T_66519 (pc' := 14) rfl e66533 (by decide) (sf_in B66531 (by decide) (by decide)) rfl (fun z66535 ez66536 => ?_)
                  have e66537 : (z66529).toInt = 100 * ((m_66519 23)).toInt + 1 := by
                    have q0 := e66527
                    have q1 := e66530
                    simp only [(show (1 : Int32).toInt = 1 from rfl), (show (100 : Int32).toInt = 100 from rfl)] at q0 q1
                    omega
                  have B66538 : sf_B 0 16 z66535 := ez66536 ▸ rf_p47b b66534 e66537 B66525 (by decide)
                  refine pm_R_ret pm_M203 (r := some (.int z66535)) rfl (pm_ret_i _) ?_
                  show pm_R _ 216 29 [.ref 41, .int x1_51679, .int x2_65406, .long y3_66519, pm_no, .int x5_66519] [.int z66535, .int x5_66519] _ _
                  refine pm_R_icmp pm_M216 (t := 75) (pc' := 32) rfl rfl rfl (fun c66539 => ?_) (fun c66539 => ?_)
                  · skip
                    refine pm_R_lo pm_M216 (pc' := 76) rfl rfl rfl ?_
                    refine rf_R_get pm_M216 T_66519 (pc' := 79) (v := .ref 54) rfl rfl rfl rfl ?_
                    refine pm_R_lo pm_M216 (pc' := 80) rfl rfl rfl ?_
                    refine pm_R_lo pm_M216 (pc' := 81) rfl rfl rfl ?_
                    refine pm_R_lo pm_M216 (pc' := 82) rfl rfl rfl ?_
                    refine pm_R_cs pm_M216 (pc' := 85) (ra := [.int x2_65406, .int x2_65406, .int x1_51679]) (rest := [.ref 54]) (ls' := [.int x1_51679, .int x2_65406, .int x2_65406]) rfl rfl (Or.inl rfl) pm_M207 rfl rfl (Nat.le_of_ble_eq_true rfl) rfl rfl ?_
                    refine pm_R_op pm_M207 (pc' := 3) (st' := [.int 144]) rfl rfl rfl ?_
                    refine pm_R_lo pm_M207 (pc' := 4) rfl rfl rfl ?_
                    refine sf_R_imul pm_M207 (pc' := 5) rfl rfl sf_k144 B58721 (by decide) (by decide) (by decide) (fun z66540 e66541 B66542 => ?_)
                    refine pm_R_op pm_M207 (pc' := 7) (st' := [.int 12, .int z66540]) rfl rfl rfl ?_
                    refine pm_R_lo pm_M207 (pc' := 8) rfl rfl rfl ?_
                    refine sf_R_imul pm_M207 (pc' := 9) rfl rfl sf_k12 B65415 (by decide) (by decide) (by decide) (fun z66543 e66544 B66545 => ?_)
                    refine sf_R_iadd pm_M207 (pc' := 10) rfl rfl B66542 B66545 (by decide) (by decide) (fun z66546 e66547 B66548 => ?_)
                    refine pm_R_lo pm_M207 (pc' := 11) rfl rfl rfl ?_
                    refine sf_R_iadd pm_M207 (pc' := 12) rfl rfl B66548 B65415 (by decide) (by decide) (fun z66549 e66550 B66551 => ?_)
                    refine pm_R_ret pm_M207 (r := some (.int z66549)) rfl (pm_ret_i _) ?_
                    show pm_R _ 216 85 [.ref 41, .int x1_51679, .int x2_65406, .long y3_66519, pm_no, .int x5_66519] [.int z66549, .ref 54] _ _
                    refine pm_R_lo pm_M216 (pc' := 86) rfl rfl rfl ?_
                    obtain ⟨f66552, e66553⟩ := T_66519.2.2.2.1 54 (by decide) (by decide)
                    refine rf_R_lst pm_M216 T_66519 (pc' := 87) rfl e66553 (by decide) (by decide) (sf_in B66551 (by decide) (by decide)) ⟨_, rfl⟩ rfl (fun h66555 T66556 F66557 => ?_)
                    have F66558 := F_66519.trans F66557
                    refine sf_R_iinc pm_M216 (pc' := 90) (ls' := fun z => [.ref 41, .int x1_51679, .int z, .long y3_66519, pm_no, .int x5_66519]) rfl B65415 rfl (by decide) (by decide) (by decide) (fun _ => rfl) rfl (fun z66559 e66560 B66561 => ?_)
                    show pm_R _ 216 90 [.ref 41, .int x1_51679, .int z66559, .long y3_66519, pm_no, .int x5_66519] [] _ _
                    refine pm_R_br pm_M216 (pc' := 10) rfl rfl ?_
                    exact ih_65406 _ (sf_up hN_65406 e66560 B65415 (by decide) (by decide)) h66555 m_66519 w_66519 z66559 (.long y3_66519) (pm_no) (.int x5_66519) T66556 F66558 W66524 (sf_weak B66561 (by decide) (by decide)) rfl rfl rfl
                  · have B66562 : sf_B 0 15 x5_66519 := sf_ltL (Int32.not_le.mp c66539) Bx5_66519 B66538
                    have B66563 : sf_B 1 16 z66535 := sf_ltR (Int32.not_le.mp c66539) Bx5_66519 B66538
                    refine pm_R_lo pm_M216 (pc' := 33) rfl rfl rfl ?_
                    refine pm_R_lo pm_M216 (pc' := 34) rfl rfl rfl ?_
                    refine pm_R_lo pm_M216 (pc' := 36) rfl rfl rfl ?_
                    refine pm_R_lo pm_M216 (pc' := 37) rfl rfl rfl ?_
                    refine pm_R_cv pm_M216 (pc' := 40) (a := 41) (ra := [.int x2_65406, .int x5_66519]) (rest := [.long y3_66519]) (ls' := [.ref 41, .int x5_66519, .int x2_65406]) rfl rfl (Or.inl rfl) pm_M204 T_66519.2.1 rfl (by decide) (Nat.lt_of_lt_of_le (by decide) T_66519.1) rfl rfl (Nat.le_of_ble_eq_true rfl) rfl rfl ?_
                    refine pm_R_lo pm_M204 (pc' := 1) rfl rfl rfl ?_
                    refine rf_R_get pm_M204 T_66519 (pc' := 4) (v := .ref 53) rfl rfl rfl rfl ?_
                    refine pm_R_lo pm_M204 (pc' := 5) rfl rfl rfl ?_
                    obtain ⟨f66564, e66565⟩ := T_66519.2.2.2.1 53 (by decide) (by decide)
                    refine rf_R_ild pm_M204 T_66519 (pc' := 6) rfl e66565 (by decide) (sf_in B65415 (by decide) (by decide)) rfl (fun z66567 ez66568 => ?_)
                    refine sf_R_lany pm_M204 (pc' := 7) (st := []) rfl rfl rfl (fun z66569 => ?_)
                    refine pm_R_lo pm_M204 (pc' := 8) rfl rfl rfl ?_
                    refine pm_R_lo pm_M204 (pc' := 9) rfl rfl rfl ?_
                    refine pm_R_op pm_M204 (pc' := 10) (st' := [.int 0, .int x5_66519, .ref 41, .long z66569]) rfl rfl rfl ?_
                    refine pm_R_cv pm_M204 (pc' := 13) (a := 41) (ra := [.int 0, .int x5_66519]) (rest := [.long z66569]) (ls' := [.ref 41, .int x5_66519, .int 0]) rfl rfl (Or.inl rfl) pm_M205 T_66519.2.1 rfl (by decide) (Nat.lt_of_lt_of_le (by decide) T_66519.1) rfl rfl (Nat.le_of_ble_eq_true rfl) rfl rfl ?_
                    refine pm_R_lo pm_M205 (pc' := 1) rfl rfl rfl ?_
                    refine rf_R_get pm_M205 T_66519 (pc' := 4) (v := .ref 47) rfl rfl rfl rfl ?_
                    refine pm_R_op pm_M205 (pc' := 6) (st' := [.int 100, .ref 47]) rfl rfl rfl ?_
                    refine pm_R_lo pm_M205 (pc' := 7) rfl rfl rfl ?_
                    refine rf_R_get pm_M205 T_66519 (pc' := 10) (v := .int (m_66519 23)) rfl rfl rfl rfl ?_
                    refine sf_R_imul pm_M205 (pc' := 11) rfl rfl sf_k100 B66525 (by decide) (by decide) (by decide) (fun z66570 e66571 B66572 => ?_)
                    refine pm_R_op pm_M205 (pc' := 13) (st' := [.int 42, .int z66570, .ref 47]) rfl rfl rfl ?_
                    refine sf_R_iadd pm_M205 (pc' := 14) rfl rfl B66572 sf_k42 (by decide) (by decide) (fun z66573 e66574 B66575 => ?_)
                    refine pm_R_op pm_M205 (pc' := 15) (st' := [.int 3, .int z66573, .ref 47]) rfl rfl rfl ?_
                    refine pm_R_lo pm_M205 (pc' := 16) rfl rfl rfl ?_
                    refine sf_R_imul pm_M205 (pc' := 17) rfl rfl sf_k3 B66562 (by decide) (by decide) (by decide) (fun z66576 e66577 B66578 => ?_)
                    refine sf_R_iadd pm_M205 (pc' := 18) rfl rfl B66575 B66578 (by decide) (by decide) (fun z66579 e66580 B66581 => ?_)
                    refine pm_R_lo pm_M205 (pc' := 19) rfl rfl rfl ?_
                    refine sf_R_iadd pm_M205 (pc' := 20) rfl rfl B66581 sf_k0 (by decide) (by decide) (fun z66582 e66583 B66584 => ?_)
                    refine rf_R_ild pm_M205 T_66519 (pc' := 21) rfl e66533 (by decide) (sf_in B66584 (by decide) (by decide)) rfl (fun z66585 ez66586 => ?_)
                    have e66587 : (z66582).toInt = 100 * ((m_66519 23)).toInt + 3 * (x5_66519).toInt + 42 := by
                      have q0 := e66571
                      have q1 := e66574
                      have q2 := e66577
                      have q3 := e66580
                      have q4 := e66583
                      simp only [(show (0 : Int32).toInt = 0 from rfl), (show (3 : Int32).toInt = 3 from rfl), (show (42 : Int32).toInt = 42 from rfl), (show (100 : Int32).toInt = 100 from rfl)] at q0 q1 q2 q3 q4
                      omega
                    have B66588 : sf_B 0 9 z66585 := ez66586 ▸ rf_p47s b66534 e66587 B66525 B66562 (by decide) (by decide) (by decide)
                    refine pm_R_ret pm_M205 (r := some (.int z66585)) rfl (pm_ret_i _) ?_
                    show pm_R _ 204 13 [.ref 41, .int x5_66519, .int x2_65406] [.int z66585, .long z66569] _ _
                    refine pm_R_cs pm_M204 (pc' := 16) (ra := [.int z66585, .long z66569]) (rest := []) (ls' := [.long z66569, pm_no, .int z66585]) rfl rfl (Or.inl rfl) pm_M206 rfl rfl (Nat.le_of_ble_eq_true rfl) rfl rfl ?_
                    refine pm_R_lo pm_M206 (pc' := 1) rfl rfl rfl ?_
                    refine pm_R_lo pm_M206 (pc' := 2) rfl rfl rfl ?_
                    refine sf_R_lany pm_M206 (pc' := 3) (st := []) rfl rfl rfl (fun z66589 => ?_)
                    refine pm_R_op pm_M206 (pc' := 4) (st' := [.long 1, .long z66589]) rfl rfl rfl ?_
                    refine sf_R_lany pm_M206 (pc' := 5) (st := []) rfl rfl rfl (fun z66590 => ?_)
                    refine pm_R_op pm_M206 (pc' := 6) (st' := [.long 1, .long z66590]) rfl rfl rfl ?_
                    refine sf_R_lcmp pm_M206 (pc' := 7) rfl rfl (fun z66591 e66592 => ?_)
                    refine pm_R_ifc pm_M206 (t := 14) (pc' := 10) rfl rfl rfl (fun c66593 => ?_) (fun c66593 => ?_)
                    · have k66594 := sf_lneC e66592 c66593
                      refine pm_R_op pm_M206 (pc' := 15) (st' := [.int 0]) rfl rfl rfl ?_
                      refine pm_R_ret pm_M206 (r := some (.int 0)) rfl rfl ?_
                      show pm_R _ 204 16 [.ref 41, .int x5_66519, .int x2_65406] [.int 0] _ _
                      refine pm_R_br pm_M204 (pc' := 39) (st' := []) rfl rfl ?_
                      refine pm_R_op pm_M204 (pc' := 40) (st' := [.int 0]) rfl rfl rfl ?_
                      refine pm_R_ret pm_M204 (r := some (.int 0)) rfl rfl ?_
                      show pm_R _ 216 40 [.ref 41, .int x1_51679, .int x2_65406, .long y3_66519, pm_no, .int x5_66519] [.int 0, .long y3_66519] _ _
                      refine pm_R_br pm_M216 (pc' := 66) (st' := [.long y3_66519]) rfl rfl ?_
                      refine pm_R_op pm_M216 (pc' := 67) (st' := [.long 0, .long y3_66519]) rfl rfl rfl ?_
                      refine sf_R_lany pm_M216 (pc' := 68) (st := []) rfl rfl rfl (fun z66595 => ?_)
                      refine pm_R_lo pm_M216 (pc' := 69) (ls' := [.ref 41, .int x1_51679, .int x2_65406, .long z66595, pm_no, .int x5_66519]) (st' := []) rfl rfl rfl ?_
                      refine sf_R_iinc pm_M216 (pc' := 72) (ls' := fun z => [.ref 41, .int x1_51679, .int x2_65406, .long z66595, pm_no, .int z]) rfl B66562 rfl (by decide) (by decide) (by decide) (fun _ => rfl) rfl (fun z66596 e66597 B66598 => ?_)
                      show pm_R _ 216 72 [.ref 41, .int x1_51679, .int x2_65406, .long z66595, pm_no, .int z66596] [] _ _
                      refine pm_R_br pm_M216 (pc' := 23) rfl rfl ?_
                      exact ih_66519 _ (sf_up hN_66519 e66597 B66562 (by decide) (by decide)) h_66519 m_66519 w_66519 z66596 z66595 T_66519 F_66519 W_66519 (sf_weak B66598 (by decide) (by decide)) rfl
                    · have B66599 : sf_B 0 0 z66591 := sf_eqL (Classical.not_not.mp c66593) sf_k0
                      refine pm_R_op pm_M206 (pc' := 11) (st' := [.int 1]) rfl rfl rfl ?_
                      refine pm_R_br pm_M206 (pc' := 15) rfl rfl ?_
                      refine pm_R_ret pm_M206 (r := some (.int 1)) rfl rfl ?_
                      show pm_R _ 204 16 [.ref 41, .int x5_66519, .int x2_65406] [.int 1] _ _
                      refine pm_R_br pm_M204 (pc' := 19) (st' := []) rfl rfl ?_
                      refine pm_R_lo pm_M204 (pc' := 20) rfl rfl rfl ?_
                      have B66600 : sf_B (-1) 11 (m_66519 26) := T_66519.2.2.1 26
                      refine rf_R_get pm_M204 T_66519 (pc' := 23) (v := .int (m_66519 26)) rfl rfl rfl rfl ?_
                      refine pm_R_lo pm_M204 (pc' := 24) rfl rfl rfl ?_
                      refine pm_R_icmp pm_M204 (t := 35) (pc' := 27) rfl rfl rfl (fun c66601 => ?_) (fun c66601 => ?_)
                      · skip
                        refine pm_R_op pm_M204 (pc' := 36) (st' := [.int 1]) rfl rfl rfl ?_
                        refine pm_R_br pm_M204 (pc' := 40) rfl rfl ?_
                        refine pm_R_ret pm_M204 (r := some (.int 1)) rfl rfl ?_
                        show pm_R _ 216 40 [.ref 41, .int x1_51679, .int x2_65406, .long y3_66519, pm_no, .int x5_66519] [.int 1, .long y3_66519] _ _
                        refine pm_R_br pm_M216 (pc' := 43) (st' := [.long y3_66519]) rfl rfl ?_
                        refine pm_R_lo pm_M216 (pc' := 44) rfl rfl rfl ?_
                        refine pm_R_lo pm_M216 (pc' := 46) rfl rfl rfl ?_
                        refine pm_R_op pm_M216 (pc' := 47) (st' := [.int 1, .int x5_66519, .ref 41, .long y3_66519]) rfl rfl rfl ?_
                        refine pm_R_cv pm_M216 (pc' := 50) (a := 41) (ra := [.int 1, .int x5_66519]) (rest := [.long y3_66519]) (ls' := [.ref 41, .int x5_66519, .int 1]) rfl rfl (Or.inl rfl) pm_M205 T_66519.2.1 rfl (by decide) (Nat.lt_of_lt_of_le (by decide) T_66519.1) rfl rfl (Nat.le_of_ble_eq_true rfl) rfl rfl ?_
                        refine pm_R_lo pm_M205 (pc' := 1) rfl rfl rfl ?_
                        refine rf_R_get pm_M205 T_66519 (pc' := 4) (v := .ref 47) rfl rfl rfl rfl ?_
                        refine pm_R_op pm_M205 (pc' := 6) (st' := [.int 100, .ref 47]) rfl rfl rfl ?_
                        refine pm_R_lo pm_M205 (pc' := 7) rfl rfl rfl ?_
                        refine rf_R_get pm_M205 T_66519 (pc' := 10) (v := .int (m_66519 23)) rfl rfl rfl rfl ?_
                        refine sf_R_imul pm_M205 (pc' := 11) rfl rfl sf_k100 B66525 (by decide) (by decide) (by decide) (fun z66602 e66603 B66604 => ?_)
                        refine pm_R_op pm_M205 (pc' := 13) (st' := [.int 42, .int z66602, .ref 47]) rfl rfl rfl ?_
                        refine sf_R_iadd pm_M205 (pc' := 14) rfl rfl B66604 sf_k42 (by decide) (by decide) (fun z66605 e66606 B66607 => ?_)
                        refine pm_R_op pm_M205 (pc' := 15) (st' := [.int 3, .int z66605, .ref 47]) rfl rfl rfl ?_
                        refine pm_R_lo pm_M205 (pc' := 16) rfl rfl rfl ?_
                        refine sf_R_imul pm_M205 (pc' := 17) rfl rfl sf_k3 B66562 (by decide) (by decide) (by decide) (fun z66608 e66609 B66610 => ?_)
                        refine sf_R_iadd pm_M205 (pc' := 18) rfl rfl B66607 B66610 (by decide) (by decide) (fun z66611 e66612 B66613 => ?_)
                        refine pm_R_lo pm_M205 (pc' := 19) rfl rfl rfl ?_
                        refine sf_R_iadd pm_M205 (pc' := 20) rfl rfl B66613 sf_k1 (by decide) (by decide) (fun z66614 e66615 B66616 => ?_)
                        refine rf_R_ild pm_M205 T_66519 (pc' := 21) rfl e66533 (by decide) (sf_in B66616 (by decide) (by decide)) rfl (fun z66617 ez66618 => ?_)
                        have e66619 : (z66614).toInt = 100 * ((m_66519 23)).toInt + 3 * (x5_66519).toInt + 43 := by
                          have q0 := e66603
                          have q1 := e66606
                          have q2 := e66609
                          have q3 := e66612
                          have q4 := e66615
                          simp only [(show (1 : Int32).toInt = 1 from rfl), (show (3 : Int32).toInt = 3 from rfl), (show (42 : Int32).toInt = 42 from rfl), (show (100 : Int32).toInt = 100 from rfl)] at q0 q1 q2 q3 q4
                          omega
                        have B66620 : sf_B 0 5 z66617 := ez66618 ▸ rf_p47k b66534 e66619 B66525 B66562 (by decide) (by decide) (by decide)
                        refine pm_R_ret pm_M205 (r := some (.int z66617)) rfl (pm_ret_i _) ?_
                        show pm_R _ 216 50 [.ref 41, .int x1_51679, .int x2_65406, .long y3_66519, pm_no, .int x5_66519] [.int z66617, .long y3_66519] _ _
                        refine pm_R_lo pm_M216 (pc' := 51) rfl rfl rfl ?_
                        refine pm_R_icmp pm_M216 (t := 66) (pc' := 54) rfl rfl rfl (fun c66621 => ?_) (fun c66621 => ?_)
                        · skip
                          refine pm_R_op pm_M216 (pc' := 67) (st' := [.long 0, .long y3_66519]) rfl rfl rfl ?_
                          refine sf_R_lany pm_M216 (pc' := 68) (st := []) rfl rfl rfl (fun z66622 => ?_)
                          refine pm_R_lo pm_M216 (pc' := 69) (ls' := [.ref 41, .int x1_51679, .int x2_65406, .long z66622, pm_no, .int x5_66519]) (st' := []) rfl rfl rfl ?_
                          refine sf_R_iinc pm_M216 (pc' := 72) (ls' := fun z => [.ref 41, .int x1_51679, .int x2_65406, .long z66622, pm_no, .int z]) rfl B66562 rfl (by decide) (by decide) (by decide) (fun _ => rfl) rfl (fun z66623 e66624 B66625 => ?_)
                          show pm_R _ 216 72 [.ref 41, .int x1_51679, .int x2_65406, .long z66622, pm_no, .int z66623] [] _ _
                          refine pm_R_br pm_M216 (pc' := 23) rfl rfl ?_
                          exact ih_66519 _ (sf_up hN_66519 e66624 B66562 (by decide) (by decide)) h_66519 m_66519 w_66519 z66623 z66622 T_66519 F_66519 W_66519 (sf_weak B66625 (by decide) (by decide)) rfl
                        · refine pm_R_op pm_M216 (pc' := 55) (st' := [.long 1, .long y3_66519]) rfl rfl rfl ?_
                          refine pm_R_lo pm_M216 (pc' := 56) rfl rfl rfl ?_
                          refine pm_R_lo pm_M216 (pc' := 58) rfl rfl rfl ?_
                          refine pm_R_op pm_M216 (pc' := 59) (st' := [.int 2, .int x5_66519, .ref 41, .long 1, .long y3_66519]) rfl rfl rfl ?_
                          refine pm_R_cv pm_M216 (pc' := 62) (a := 41) (ra := [.int 2, .int x5_66519]) (rest := [.long 1, .long y3_66519]) (ls' := [.ref 41, .int x5_66519, .int 2]) rfl rfl (Or.inl rfl) pm_M205 T_66519.2.1 rfl (by decide) (Nat.lt_of_lt_of_le (by decide) T_66519.1) rfl rfl (Nat.le_of_ble_eq_true rfl) rfl rfl ?_
                          refine pm_R_lo pm_M205 (pc' := 1) rfl rfl rfl ?_
                          refine rf_R_get pm_M205 T_66519 (pc' := 4) (v := .ref 47) rfl rfl rfl rfl ?_
                          refine pm_R_op pm_M205 (pc' := 6) (st' := [.int 100, .ref 47]) rfl rfl rfl ?_
                          refine pm_R_lo pm_M205 (pc' := 7) rfl rfl rfl ?_
                          refine rf_R_get pm_M205 T_66519 (pc' := 10) (v := .int (m_66519 23)) rfl rfl rfl rfl ?_
                          refine sf_R_imul pm_M205 (pc' := 11) rfl rfl sf_k100 B66525 (by decide) (by decide) (by decide) (fun z66626 e66627 B66628 => ?_)
                          refine pm_R_op pm_M205 (pc' := 13) (st' := [.int 42, .int z66626, .ref 47]) rfl rfl rfl ?_
                          refine sf_R_iadd pm_M205 (pc' := 14) rfl rfl B66628 sf_k42 (by decide) (by decide) (fun z66629 e66630 B66631 => ?_)
                          refine pm_R_op pm_M205 (pc' := 15) (st' := [.int 3, .int z66629, .ref 47]) rfl rfl rfl ?_
                          refine pm_R_lo pm_M205 (pc' := 16) rfl rfl rfl ?_
                          refine sf_R_imul pm_M205 (pc' := 17) rfl rfl sf_k3 B66562 (by decide) (by decide) (by decide) (fun z66632 e66633 B66634 => ?_)
                          refine sf_R_iadd pm_M205 (pc' := 18) rfl rfl B66631 B66634 (by decide) (by decide) (fun z66635 e66636 B66637 => ?_)
                          refine pm_R_lo pm_M205 (pc' := 19) rfl rfl rfl ?_
                          refine sf_R_iadd pm_M205 (pc' := 20) rfl rfl B66637 sf_k2 (by decide) (by decide) (fun z66638 e66639 B66640 => ?_)
                          refine rf_R_ild pm_M205 T_66519 (pc' := 21) rfl e66533 (by decide) (sf_in B66640 (by decide) (by decide)) rfl (fun z66641 ez66642 => ?_)
                          have e66643 : (z66638).toInt = 100 * ((m_66519 23)).toInt + 3 * (x5_66519).toInt + 44 := by
                            have q0 := e66627
                            have q1 := e66630
                            have q2 := e66633
                            have q3 := e66636
                            have q4 := e66639
                            simp only [(show (2 : Int32).toInt = 2 from rfl), (show (3 : Int32).toInt = 3 from rfl), (show (42 : Int32).toInt = 42 from rfl), (show (100 : Int32).toInt = 100 from rfl)] at q0 q1 q2 q3 q4
                            omega
                          have B66644 : sf_B 0 49 z66641 := ez66642 ▸ rf_p47v b66534 e66643 B66525 B66562 (by decide) (by decide) (by decide)
                          refine pm_R_ret pm_M205 (r := some (.int z66641)) rfl (pm_ret_i _) ?_
                          show pm_R _ 216 62 [.ref 41, .int x1_51679, .int x2_65406, .long y3_66519, pm_no, .int x5_66519] [.int z66641, .long 1, .long y3_66519] _ _
                          refine sf_R_lany pm_M216 (pc' := 63) (st := [.long y3_66519]) rfl rfl rfl (fun z66645 => ?_)
                          refine pm_R_br pm_M216 (pc' := 67) rfl rfl ?_
                          refine sf_R_lany pm_M216 (pc' := 68) (st := []) rfl rfl rfl (fun z66646 => ?_)
                          refine pm_R_lo pm_M216 (pc' := 69) (ls' := [.ref 41, .int x1_51679, .int x2_65406, .long z66646, pm_no, .int x5_66519]) (st' := []) rfl rfl rfl ?_
                          refine sf_R_iinc pm_M216 (pc' := 72) (ls' := fun z => [.ref 41, .int x1_51679, .int x2_65406, .long z66646, pm_no, .int z]) rfl B66562 rfl (by decide) (by decide) (by decide) (fun _ => rfl) rfl (fun z66647 e66648 B66649 => ?_)
                          show pm_R _ 216 72 [.ref 41, .int x1_51679, .int x2_65406, .long z66646, pm_no, .int z66647] [] _ _
                          refine pm_R_br pm_M216 (pc' := 23) rfl rfl ?_
                          exact ih_66519 _ (sf_up hN_66519 e66648 B66562 (by decide) (by decide)) h_66519 m_66519 w_66519 z66647 z66646 T_66519 F_66519 W_66519 (sf_weak B66649 (by decide) (by decide)) rfl
                      · have B66650 : sf_B 0 11 (m_66519 26) := sf_eqL (Classical.not_not.mp c66601) B65415
                        refine pm_R_lo pm_M204 (pc' := 28) rfl rfl rfl ?_
                        have B66651 : sf_B 0 15 (m_66519 27) := T_66519.2.2.1 27
                        refine rf_R_get pm_M204 T_66519 (pc' := 31) (v := .int (m_66519 27)) rfl rfl rfl rfl ?_
                        refine pm_R_lo pm_M204 (pc' := 32) rfl rfl rfl ?_
                        refine pm_R_icmp pm_M204 (t := 39) (pc' := 35) rfl rfl rfl (fun c66652 => ?_) (fun c66652 => ?_)
                        · skip
                          refine pm_R_op pm_M204 (pc' := 40) (st' := [.int 0]) rfl rfl rfl ?_
                          refine pm_R_ret pm_M204 (r := some (.int 0)) rfl rfl ?_
                          show pm_R _ 216 40 [.ref 41, .int x1_51679, .int x2_65406, .long y3_66519, pm_no, .int x5_66519] [.int 0, .long y3_66519] _ _
                          refine pm_R_br pm_M216 (pc' := 66) (st' := [.long y3_66519]) rfl rfl ?_
                          refine pm_R_op pm_M216 (pc' := 67) (st' := [.long 0, .long y3_66519]) rfl rfl rfl ?_
                          refine sf_R_lany pm_M216 (pc' := 68) (st := []) rfl rfl rfl (fun z66653 => ?_)
                          refine pm_R_lo pm_M216 (pc' := 69) (ls' := [.ref 41, .int x1_51679, .int x2_65406, .long z66653, pm_no, .int x5_66519]) (st' := []) rfl rfl rfl ?_
                          refine sf_R_iinc pm_M216 (pc' := 72) (ls' := fun z => [.ref 41, .int x1_51679, .int x2_65406, .long z66653, pm_no, .int z]) rfl B66562 rfl (by decide) (by decide) (by decide) (fun _ => rfl) rfl (fun z66654 e66655 B66656 => ?_)
                          show pm_R _ 216 72 [.ref 41, .int x1_51679, .int x2_65406, .long z66653, pm_no, .int z66654] [] _ _
                          refine pm_R_br pm_M216 (pc' := 23) rfl rfl ?_
                          exact ih_66519 _ (sf_up hN_66519 e66655 B66562 (by decide) (by decide)) h_66519 m_66519 w_66519 z66654 z66653 T_66519 F_66519 W_66519 (sf_weak B66656 (by decide) (by decide)) rfl
                        · refine pm_R_op pm_M204 (pc' := 36) (st' := [.int 1]) rfl rfl rfl ?_
                          refine pm_R_br pm_M204 (pc' := 40) rfl rfl ?_
                          refine pm_R_ret pm_M204 (r := some (.int 1)) rfl rfl ?_
                          show pm_R _ 216 40 [.ref 41, .int x1_51679, .int x2_65406, .long y3_66519, pm_no, .int x5_66519] [.int 1, .long y3_66519] _ _
                          refine pm_R_br pm_M216 (pc' := 43) (st' := [.long y3_66519]) rfl rfl ?_
                          refine pm_R_lo pm_M216 (pc' := 44) rfl rfl rfl ?_
                          refine pm_R_lo pm_M216 (pc' := 46) rfl rfl rfl ?_
                          refine pm_R_op pm_M216 (pc' := 47) (st' := [.int 1, .int x5_66519, .ref 41, .long y3_66519]) rfl rfl rfl ?_
                          refine pm_R_cv pm_M216 (pc' := 50) (a := 41) (ra := [.int 1, .int x5_66519]) (rest := [.long y3_66519]) (ls' := [.ref 41, .int x5_66519, .int 1]) rfl rfl (Or.inl rfl) pm_M205 T_66519.2.1 rfl (by decide) (Nat.lt_of_lt_of_le (by decide) T_66519.1) rfl rfl (Nat.le_of_ble_eq_true rfl) rfl rfl ?_
                          refine pm_R_lo pm_M205 (pc' := 1) rfl rfl rfl ?_
                          refine rf_R_get pm_M205 T_66519 (pc' := 4) (v := .ref 47) rfl rfl rfl rfl ?_
                          refine pm_R_op pm_M205 (pc' := 6) (st' := [.int 100, .ref 47]) rfl rfl rfl ?_
                          refine pm_R_lo pm_M205 (pc' := 7) rfl rfl rfl ?_
                          refine rf_R_get pm_M205 T_66519 (pc' := 10) (v := .int (m_66519 23)) rfl rfl rfl rfl ?_
                          refine sf_R_imul pm_M205 (pc' := 11) rfl rfl sf_k100 B66525 (by decide) (by decide) (by decide) (fun z66657 e66658 B66659 => ?_)
                          refine pm_R_op pm_M205 (pc' := 13) (st' := [.int 42, .int z66657, .ref 47]) rfl rfl rfl ?_
                          refine sf_R_iadd pm_M205 (pc' := 14) rfl rfl B66659 sf_k42 (by decide) (by decide) (fun z66660 e66661 B66662 => ?_)
                          refine pm_R_op pm_M205 (pc' := 15) (st' := [.int 3, .int z66660, .ref 47]) rfl rfl rfl ?_
                          refine pm_R_lo pm_M205 (pc' := 16) rfl rfl rfl ?_
                          refine sf_R_imul pm_M205 (pc' := 17) rfl rfl sf_k3 B66562 (by decide) (by decide) (by decide) (fun z66663 e66664 B66665 => ?_)
                          refine sf_R_iadd pm_M205 (pc' := 18) rfl rfl B66662 B66665 (by decide) (by decide) (fun z66666 e66667 B66668 => ?_)
                          refine pm_R_lo pm_M205 (pc' := 19) rfl rfl rfl ?_
                          refine sf_R_iadd pm_M205 (pc' := 20) rfl rfl B66668 sf_k1 (by decide) (by decide) (fun z66669 e66670 B66671 => ?_)
                          refine rf_R_ild pm_M205 T_66519 (pc' := 21) rfl e66533 (by decide) (sf_in B66671 (by decide) (by decide)) rfl (fun z66672 ez66673 => ?_)
                          have e66674 : (z66669).toInt = 100 * ((m_66519 23)).toInt + 3 * (x5_66519).toInt + 43 := by
                            have q0 := e66658
                            have q1 := e66661
                            have q2 := e66664
                            have q3 := e66667
                            have q4 := e66670
                            simp only [(show (1 : Int32).toInt = 1 from rfl), (show (3 : Int32).toInt = 3 from rfl), (show (42 : Int32).toInt = 42 from rfl), (show (100 : Int32).toInt = 100 from rfl)] at q0 q1 q2 q3 q4
                            omega
                          have B66675 : sf_B 0 5 z66672 := ez66673 ▸ rf_p47k b66534 e66674 B66525 B66562 (by decide) (by decide) (by decide)
                          refine pm_R_ret pm_M205 (r := some (.int z66672)) rfl (pm_ret_i _) ?_
                          show pm_R _ 216 50 [.ref 41, .int x1_51679, .int x2_65406, .long y3_66519, pm_no, .int x5_66519] [.int z66672, .long y3_66519] _ _
                          refine pm_R_lo pm_M216 (pc' := 51) rfl rfl rfl ?_
                          refine pm_R_icmp pm_M216 (t := 66) (pc' := 54) rfl rfl rfl (fun c66676 => ?_) (fun c66676 => ?_)
                          · skip
                            refine pm_R_op pm_M216 (pc' := 67) (st' := [.long 0, .long y3_66519]) rfl rfl rfl ?_
                            refine sf_R_lany pm_M216 (pc' := 68) (st := []) rfl rfl rfl (fun z66677 => ?_)
                            refine pm_R_lo pm_M216 (pc' := 69) (ls' := [.ref 41, .int x1_51679, .int x2_65406, .long z66677, pm_no, .int x5_66519]) (st' := []) rfl rfl rfl ?_
                            refine sf_R_iinc pm_M216 (pc' := 72) (ls' := fun z => [.ref 41, .int x1_51679, .int x2_65406, .long z66677, pm_no, .int z]) rfl B66562 rfl (by decide) (by decide) (by decide) (fun _ => rfl) rfl (fun z66678 e66679 B66680 => ?_)
                            show pm_R _ 216 72 [.ref 41, .int x1_51679, .int x2_65406, .long z66677, pm_no, .int z66678] [] _ _
                            refine pm_R_br pm_M216 (pc' := 23) rfl rfl ?_
                            exact ih_66519 _ (sf_up hN_66519 e66679 B66562 (by decide) (by decide)) h_66519 m_66519 w_66519 z66678 z66677 T_66519 F_66519 W_66519 (sf_weak B66680 (by decide) (by decide)) rfl
                          · refine pm_R_op pm_M216 (pc' := 55) (st' := [.long 1, .long y3_66519]) rfl rfl rfl ?_
                            refine pm_R_lo pm_M216 (pc' := 56) rfl rfl rfl ?_
                            refine pm_R_lo pm_M216 (pc' := 58) rfl rfl rfl ?_
                            refine pm_R_op pm_M216 (pc' := 59) (st' := [.int 2, .int x5_66519, .ref 41, .long 1, .long y3_66519]) rfl rfl rfl ?_
                            refine pm_R_cv pm_M216 (pc' := 62) (a := 41) (ra := [.int 2, .int x5_66519]) (rest := [.long 1, .long y3_66519]) (ls' := [.ref 41, .int x5_66519, .int 2]) rfl rfl (Or.inl rfl) pm_M205 T_66519.2.1 rfl (by decide) (Nat.lt_of_lt_of_le (by decide) T_66519.1) rfl rfl (Nat.le_of_ble_eq_true rfl) rfl rfl ?_
                            refine pm_R_lo pm_M205 (pc' := 1) rfl rfl rfl ?_
                            refine rf_R_get pm_M205 T_66519 (pc' := 4) (v := .ref 47) rfl rfl rfl rfl ?_
                            refine pm_R_op pm_M205 (pc' := 6) (st' := [.int 100, .ref 47]) rfl rfl rfl ?_
                            refine pm_R_lo pm_M205 (pc' := 7) rfl rfl rfl ?_
                            refine rf_R_get pm_M205 T_66519 (pc' := 10) (v := .int (m_66519 23)) rfl rfl rfl rfl ?_
                            refine sf_R_imul pm_M205 (pc' := 11) rfl rfl sf_k100 B66525 (by decide) (by decide) (by decide) (fun z66681 e66682 B66683 => ?_)
                            refine pm_R_op pm_M205 (pc' := 13) (st' := [.int 42, .int z66681, .ref 47]) rfl rfl rfl ?_
                            refine sf_R_iadd pm_M205 (pc' := 14) rfl rfl B66683 sf_k42 (by decide) (by decide) (fun z66684 e66685 B66686 => ?_)
                            refine pm_R_op pm_M205 (pc' := 15) (st' := [.int 3, .int z66684, .ref 47]) rfl rfl rfl ?_
                            refine pm_R_lo pm_M205 (pc' := 16) rfl rfl rfl ?_
                            refine sf_R_imul pm_M205 (pc' := 17) rfl rfl sf_k3 B66562 (by decide) (by decide) (by decide) (fun z66687 e66688 B66689 => ?_)
                            refine sf_R_iadd pm_M205 (pc' := 18) rfl rfl B66686 B66689 (by decide) (by decide) (fun z66690 e66691 B66692 => ?_)
                            refine pm_R_lo pm_M205 (pc' := 19) rfl rfl rfl ?_
                            refine sf_R_iadd pm_M205 (pc' := 20) rfl rfl B66692 sf_k2 (by decide) (by decide) (fun z66693 e66694 B66695 => ?_)
                            refine rf_R_ild pm_M205 T_66519 (pc' := 21) rfl e66533 (by decide) (sf_in B66695 (by decide) (by decide)) rfl (fun z66696 ez66697 => ?_)
                            have e66698 : (z66693).toInt = 100 * ((m_66519 23)).toInt + 3 * (x5_66519).toInt + 44 := by
                              have q0 := e66682
                              have q1 := e66685
                              have q2 := e66688
                              have q3 := e66691
                              have q4 := e66694
                              simp only [(show (2 : Int32).toInt = 2 from rfl), (show (3 : Int32).toInt = 3 from rfl), (show (42 : Int32).toInt = 42 from rfl), (show (100 : Int32).toInt = 100 from rfl)] at q0 q1 q2 q3 q4
                              omega
                            have B66699 : sf_B 0 49 z66696 := ez66697 ▸ rf_p47v b66534 e66698 B66525 B66562 (by decide) (by decide) (by decide)
                            refine pm_R_ret pm_M205 (r := some (.int z66696)) rfl (pm_ret_i _) ?_
                            show pm_R _ 216 62 [.ref 41, .int x1_51679, .int x2_65406, .long y3_66519, pm_no, .int x5_66519] [.int z66696, .long 1, .long y3_66519] _ _
                            refine sf_R_lany pm_M216 (pc' := 63) (st := [.long y3_66519]) rfl rfl rfl (fun z66700 => ?_)
                            refine pm_R_br pm_M216 (pc' := 67) rfl rfl ?_
                            refine sf_R_lany pm_M216 (pc' := 68) (st := []) rfl rfl rfl (fun z66701 => ?_)
                            refine pm_R_lo pm_M216 (pc' := 69) (ls' := [.ref 41, .int x1_51679, .int x2_65406, .long z66701, pm_no, .int x5_66519]) (st' := []) rfl rfl rfl ?_
                            refine sf_R_iinc pm_M216 (pc' := 72) (ls' := fun z => [.ref 41, .int x1_51679, .int x2_65406, .long z66701, pm_no, .int z]) rfl B66562 rfl (by decide) (by decide) (by decide) (fun _ => rfl) rfl (fun z66702 e66703 B66704 => ?_)
                            show pm_R _ 216 72 [.ref 41, .int x1_51679, .int x2_65406, .long z66701, pm_no, .int z66702] [] _ _
                            refine pm_R_br pm_M216 (pc' := 23) rfl rfl ?_
                            exact ih_66519 _ (sf_up hN_66519 e66703 B66562 (by decide) (by decide)) h_66519 m_66519 w_66519 z66702 z66701 T_66519 F_66519 W_66519 (sf_weak B66704 (by decide) (by decide)) rfl
              exact L_66519 _ h_65406 m_65406 w_65406 0 0 T_65406 F_65406 (rf_W.refl _ _) (sf_weak sf_k0 (by decide) (by decide)) rfl
        exact L_65406 _ h_51679 m_51679 w_51679 0 (g3_51679) (g4_51679) (g5_51679) T_51679 F_51679 (rf_W.refl _ _) (sf_weak sf_k0 (by decide) (by decide)) Cg4_51679 Cg5_51679 rfl
  exact L_51679 _ h m w 0 (pm_no) (pm_no) (pm_no) (pm_no) T (rf_F.refl h) (rf_W.refl _ _) (sf_weak sf_k0 (by decide) (by decide)) rfl rfl rfl rfl

set_option maxRecDepth 100000 in
set_option maxHeartbeats 4000000 in
/-- SilentTableModel.findCounts -/
theorem rf_c202 {d : Nat} {m : Nat → Int32} {w : Int64} {h : pm_H} {Q : Option Value → pm_H → Prop}  (T : rf_T m w h)  (K : ∀ (m' : Nat → Int32) (w' : Int64) (h' : pm_H), rf_T m' w' h' → rf_F h h' → rf_W [] m m' → Q none h') : pm_R (d + 4) 202 0 [.ref 41, pm_no, pm_no, pm_no, pm_no, pm_no] [] h Q := by
  refine pm_R_op pm_M202 (pc' := 1) (st' := [.int 0]) rfl rfl rfl ?_
  refine pm_R_lo pm_M202 (pc' := 2) (ls' := [.ref 41, .int 0, pm_no, pm_no, pm_no, pm_no]) (st' := []) rfl rfl rfl ?_
  have L_43039 : ∀ (N : Nat) (h_43039 : pm_H) (m_43039 : Nat → Int32) (w_43039 : Int64) (x1_43039 : Int32) (g2_43039 : Value) (g3_43039 : Value) (g4_43039 : Value) (g5_43039 : Value), rf_T m_43039 w_43039 h_43039 → rf_F h h_43039 → rf_W [] m m_43039 → sf_B 0 6 x1_43039 → g2_43039.category = 1 → g4_43039.category = 1 → g5_43039.category = 1 → (6 - x1_43039.toInt).toNat = N → pm_R (d + 4) 202 2 [.ref 41, .int x1_43039, g2_43039, g3_43039, g4_43039, g5_43039] [] h_43039 Q := by
    intro N
    induction N using Nat.strongRecOn with
    | ind N ih_43039 =>
      intro h_43039 m_43039 w_43039 x1_43039 g2_43039 g3_43039 g4_43039 g5_43039 T_43039 F_43039 W_43039 Bx1_43039 Cg2_43039 Cg4_43039 Cg5_43039 hN_43039
      have W43041 : rf_W [] m m_43039 := (rf_W.refl [] m).trans W_43039 (by decide)
      refine pm_R_lo pm_M202 (pc' := 3) rfl rfl rfl ?_
      refine pm_R_op pm_M202 (pc' := 5) (st' := [.int 6, .int x1_43039]) rfl rfl rfl ?_
      refine pm_R_icmp pm_M202 (t := 91) (pc' := 8) rfl rfl rfl (fun c43042 => ?_) (fun c43042 => ?_)
      · have B43043 : sf_B 6 6 x1_43039 := sf_leR c43042 sf_k6 Bx1_43039
        refine pm_R_op pm_M202 (pc' := 92) (st' := [.int 1]) rfl rfl rfl ?_
        refine pm_R_lo pm_M202 (pc' := 93) (ls' := [.ref 41, .int 1, g2_43039, g3_43039, g4_43039, g5_43039]) (st' := []) rfl rfl rfl ?_
        have L_48664 : ∀ (N : Nat) (h_48664 : pm_H) (m_48664 : Nat → Int32) (w_48664 : Int64) (x1_48664 : Int32) (g2_48664 : Value) (g3_48664 : Value), rf_T m_48664 w_48664 h_48664 → rf_F h h_48664 → rf_W [] m_43039 m_48664 → sf_B 1 12 x1_48664 → g2_48664.category = 1 → (12 - x1_48664.toInt).toNat = N → pm_R (d + 4) 202 93 [.ref 41, .int x1_48664, g2_48664, g3_48664, g4_43039, g5_43039] [] h_48664 Q := by
          intro N
          induction N using Nat.strongRecOn with
          | ind N ih_48664 =>
            intro h_48664 m_48664 w_48664 x1_48664 g2_48664 g3_48664 T_48664 F_48664 W_48664 Bx1_48664 Cg2_48664 hN_48664
            have W48666 : rf_W [] m m_48664 := W43041.trans W_48664 (by decide)
            have W48667 : rf_W [] m m_48664 := W_43039.trans W_48664 (by decide)
            refine pm_R_lo pm_M202 (pc' := 94) rfl rfl rfl ?_
            refine pm_R_lo pm_M202 (pc' := 95) rfl rfl rfl ?_
            have B48668 : sf_B 0 12 (m_48664 24) := T_48664.2.2.1 24
            refine rf_R_get pm_M202 T_48664 (pc' := 98) (v := .int (m_48664 24)) rfl rfl rfl rfl ?_
            refine pm_R_icmp pm_M202 (t := 161) (pc' := 101) rfl rfl rfl (fun c48669 => ?_) (fun c48669 => ?_)
            · skip
              exact pm_R_ret pm_M202 (r := none) (pm_q202_1 (Nat.le_of_ble_eq_true rfl)) rfl (K m_48664 w_48664 h_48664 T_48664 F_48664 W48666)
            · have B48670 : sf_B 1 11 x1_48664 := sf_ltL (Int32.not_le.mp c48669) Bx1_48664 B48668
              have B48671 : sf_B 2 12 (m_48664 24) := sf_ltR (Int32.not_le.mp c48669) Bx1_48664 B48668
              refine pm_R_op pm_M202 (pc' := 102) (st' := [.int 0]) rfl rfl rfl ?_
              refine pm_R_lo pm_M202 (pc' := 103) (ls' := [.ref 41, .int x1_48664, .int 0, g3_48664, g4_43039, g5_43039]) (st' := []) rfl rfl rfl ?_
              have L_49799 : ∀ (N : Nat) (h_49799 : pm_H) (m_49799 : Nat → Int32) (w_49799 : Int64) (x2_49799 : Int32) (g3_49799 : Value), rf_T m_49799 w_49799 h_49799 → rf_F h h_49799 → rf_W [] m_48664 m_49799 → sf_B 0 11 x2_49799 → (11 - x2_49799.toInt).toNat = N → pm_R (d + 4) 202 103 [.ref 41, .int x1_48664, .int x2_49799, g3_49799, g4_43039, g5_43039] [] h_49799 Q := by
                intro N
                induction N using Nat.strongRecOn with
                | ind N ih_49799 =>
                  intro h_49799 m_49799 w_49799 x2_49799 g3_49799 T_49799 F_49799 W_49799 Bx2_49799 hN_49799
                  have B49801 : sf_B 2 12 (m_49799 24) := by rw [W_49799 24 (by decide)]; exact B48671
                  have W49802 : rf_W [] m m_49799 := W48666.trans W_49799 (by decide)
                  have W49803 : rf_W [] m m_49799 := W48667.trans W_49799 (by decide)
                  have W49804 : rf_W [] m_43039 m_49799 := W_48664.trans W_49799 (by decide)
                  refine pm_R_lo pm_M202 (pc' := 104) rfl rfl rfl ?_
                  refine pm_R_lo pm_M202 (pc' := 105) rfl rfl rfl ?_
                  refine sf_R_iadd pm_M202 (pc' := 106) (pm_q202_1 (Nat.le_of_ble_eq_true rfl)) rfl Bx2_49799 B48670 (by decide) (by decide) (fun z49805 e49806 B49807 => ?_)
                  refine pm_R_lo pm_M202 (pc' := 107) (pm_q202_1 (Nat.le_of_ble_eq_true rfl)) rfl rfl ?_
                  refine rf_R_get pm_M202 T_49799 (pc' := 110) (v := .int (m_49799 24)) (pm_q202_1 (Nat.le_of_ble_eq_true rfl)) rfl rfl rfl ?_
                  refine pm_R_icmp pm_M202 (t := 155) (pc' := 113) (pm_q202_1 (Nat.le_of_ble_eq_true rfl)) rfl rfl (fun c49808 => ?_) (fun c49808 => ?_)
                  · have B49809 : sf_B 2 22 z49805 := sf_leR c49808 B49801 B49807
                    refine sf_R_iinc pm_M202 (pc' := 158) (ls' := fun z => [.ref 41, .int z, .int x2_49799, g3_49799, g4_43039, g5_43039]) (pm_q202_1 (Nat.le_of_ble_eq_true rfl)) B48670 rfl (by decide) (by decide) (by decide) (fun _ => rfl) rfl (fun z49810 e49811 B49812 => ?_)
                    show pm_R _ 202 158 [.ref 41, .int z49810, .int x2_49799, g3_49799, g4_43039, g5_43039] [] _ _
                    refine pm_R_br pm_M202 (pc' := 93) (pm_q202_1 (Nat.le_of_ble_eq_true rfl)) rfl ?_
                    exact ih_48664 _ (sf_up hN_48664 e49811 B48670 (by decide) (by decide)) h_49799 m_49799 w_49799 z49810 (.int x2_49799) (g3_49799) T_49799 F_49799 W49804 (sf_weak B49812 (by decide) (by decide)) rfl rfl
                  · have B49813 : sf_B 1 11 z49805 := sf_ltL (Int32.not_le.mp c49808) B49807 B49801
                    have B49814 : sf_B 0 10 x2_49799 := sf_addL e49806 B49813 B48670 Bx2_49799
                    refine pm_R_op pm_M202 (pc' := 114) (st' := [.int 0]) (pm_q202_1 (Nat.le_of_ble_eq_true rfl)) rfl rfl ?_
                    refine pm_R_lo pm_M202 (pc' := 115) (ls' := [.ref 41, .int x1_48664, .int x2_49799, .int 0, g4_43039, g5_43039]) (st' := []) (pm_q202_1 (Nat.le_of_ble_eq_true rfl)) rfl rfl ?_
                    have L_50030 : ∀ (N : Nat) (h_50030 : pm_H) (m_50030 : Nat → Int32) (w_50030 : Int64) (x3_50030 : Int32), rf_T m_50030 w_50030 h_50030 → rf_F h h_50030 → rf_W [] m_49799 m_50030 → sf_B 0 6 x3_50030 → (6 - x3_50030.toInt).toNat = N → pm_R (d + 4) 202 115 [.ref 41, .int x1_48664, .int x2_49799, .int x3_50030, g4_43039, g5_43039] [] h_50030 Q := by
                      intro N
                      induction N using Nat.strongRecOn with
                      | ind N ih_50030 =>
                        intro h_50030 m_50030 w_50030 x3_50030 T_50030 F_50030 W_50030 Bx3_50030 hN_50030
                        have B50032 : sf_B 2 12 (m_50030 24) := by rw [W_50030 24 (by decide)]; exact B49801
                        have W50033 : rf_W [] m m_50030 := W49802.trans W_50030 (by decide)
                        have W50034 : rf_W [] m m_50030 := W49803.trans W_50030 (by decide)
                        have W50035 : rf_W [] m_43039 m_50030 := W49804.trans W_50030 (by decide)
                        have W50036 : rf_W [] m_48664 m_50030 := W_49799.trans W_50030 (by decide)
                        refine pm_R_lo pm_M202 (pc' := 116) (pm_q202_1 (Nat.le_of_ble_eq_true rfl)) rfl rfl ?_
                        refine pm_R_op pm_M202 (pc' := 118) (st' := [.int 6, .int x3_50030]) (pm_q202_1 (Nat.le_of_ble_eq_true rfl)) rfl rfl ?_
                        refine pm_R_icmp pm_M202 (t := 149) (pc' := 121) (pm_q202_1 (Nat.le_of_ble_eq_true rfl)) rfl rfl (fun c50037 => ?_) (fun c50037 => ?_)
                        · have B50038 : sf_B 6 6 x3_50030 := sf_leR c50037 sf_k6 Bx3_50030
                          refine sf_R_iinc pm_M202 (pc' := 152) (ls' := fun z => [.ref 41, .int x1_48664, .int z, .int x3_50030, g4_43039, g5_43039]) (pm_q202_1 (Nat.le_of_ble_eq_true rfl)) B49814 rfl (by decide) (by decide) (by decide) (fun _ => rfl) rfl (fun z50039 e50040 B50041 => ?_)
                          show pm_R _ 202 152 [.ref 41, .int x1_48664, .int z50039, .int x3_50030, g4_43039, g5_43039] [] _ _
                          refine pm_R_br pm_M202 (pc' := 103) (pm_q202_1 (Nat.le_of_ble_eq_true rfl)) rfl ?_
                          exact ih_49799 _ (sf_up hN_49799 e50040 B49814 (by decide) (by decide)) h_50030 m_50030 w_50030 z50039 (.int x3_50030) T_50030 F_50030 W50036 (sf_weak B50041 (by decide) (by decide)) rfl
                        · have B50042 : sf_B 0 5 x3_50030 := sf_ltL (Int32.not_le.mp c50037) Bx3_50030 sf_k6
                          refine pm_R_lo pm_M202 (pc' := 122) (pm_q202_1 (Nat.le_of_ble_eq_true rfl)) rfl rfl ?_
                          refine rf_R_get pm_M202 T_50030 (pc' := 125) (v := .ref 55) (pm_q202_1 (Nat.le_of_ble_eq_true rfl)) rfl rfl rfl ?_
                          refine pm_R_lo pm_M202 (pc' := 126) (pm_q202_1 (Nat.le_of_ble_eq_true rfl)) rfl rfl ?_
                          refine pm_R_lo pm_M202 (pc' := 127) (pm_q202_1 (Nat.le_of_ble_eq_true rfl)) rfl rfl ?_
                          refine pm_R_lo pm_M202 (pc' := 128) (pm_q202_1 (Nat.le_of_ble_eq_true rfl)) rfl rfl ?_
                          refine pm_R_lo pm_M202 (pc' := 129) (pm_q202_1 (Nat.le_of_ble_eq_true rfl)) rfl rfl ?_
                          refine sf_R_iadd pm_M202 (pc' := 130) (pm_q202_1 (Nat.le_of_ble_eq_true rfl)) rfl B49814 B48670 (by decide) (by decide) (fun z50043 e50044 B50045 => ?_)
                          have B50046 : sf_B 1 11 z50043 := sf_same e49806 e50044 B49813
                          refine pm_R_cs pm_M202 (pc' := 133) (ra := [.int z50043, .int x2_49799, .int x3_50030]) (rest := [.ref 55]) (ls' := [.int x3_50030, .int x2_49799, .int z50043]) (pm_q202_1 (Nat.le_of_ble_eq_true rfl)) rfl (Or.inl rfl) pm_M207 rfl rfl (Nat.le_of_ble_eq_true rfl) rfl rfl ?_
                          refine pm_R_op pm_M207 (pc' := 3) (st' := [.int 144]) rfl rfl rfl ?_
                          refine pm_R_lo pm_M207 (pc' := 4) rfl rfl rfl ?_
                          refine sf_R_imul pm_M207 (pc' := 5) rfl rfl sf_k144 B50042 (by decide) (by decide) (by decide) (fun z50047 e50048 B50049 => ?_)
                          refine pm_R_op pm_M207 (pc' := 7) (st' := [.int 12, .int z50047]) rfl rfl rfl ?_
                          refine pm_R_lo pm_M207 (pc' := 8) rfl rfl rfl ?_
                          refine sf_R_imul pm_M207 (pc' := 9) rfl rfl sf_k12 B49814 (by decide) (by decide) (by decide) (fun z50050 e50051 B50052 => ?_)
                          refine sf_R_iadd pm_M207 (pc' := 10) rfl rfl B50049 B50052 (by decide) (by decide) (fun z50053 e50054 B50055 => ?_)
                          refine pm_R_lo pm_M207 (pc' := 11) rfl rfl rfl ?_
                          refine sf_R_iadd pm_M207 (pc' := 12) rfl rfl B50055 B50046 (by decide) (by decide) (fun z50056 e50057 B50058 => ?_)
                          refine pm_R_ret pm_M207 (r := some (.int z50056)) rfl (pm_ret_i _) ?_
                          show pm_R _ 202 133 [.ref 41, .int x1_48664, .int x2_49799, .int x3_50030, g4_43039, g5_43039] [.int z50056, .ref 55] _ _
                          refine pm_R_lo pm_M202 (pc' := 134) (pm_q202_1 (Nat.le_of_ble_eq_true rfl)) rfl rfl ?_
                          refine pm_R_lo pm_M202 (pc' := 135) (pm_q202_1 (Nat.le_of_ble_eq_true rfl)) rfl rfl ?_
                          refine pm_R_lo pm_M202 (pc' := 136) (pm_q202_1 (Nat.le_of_ble_eq_true rfl)) rfl rfl ?_
                          refine pm_R_lo pm_M202 (pc' := 137) (pm_q202_1 (Nat.le_of_ble_eq_true rfl)) rfl rfl ?_
                          refine pm_R_lo pm_M202 (pc' := 138) (pm_q202_1 (Nat.le_of_ble_eq_true rfl)) rfl rfl ?_
                          refine sf_R_iadd pm_M202 (pc' := 139) (pm_q202_1 (Nat.le_of_ble_eq_true rfl)) rfl B49814 B48670 (by decide) (by decide) (fun z50059 e50060 B50061 => ?_)
                          have B50062 : sf_B 1 11 z50059 := sf_same e50044 e50060 B50046
                          refine pm_R_cv pm_M202 (pc' := 142) (a := 41) (ra := [.int z50059, .int x2_49799, .int x3_50030]) (rest := [.int z50056, .ref 55]) (ls' := [.ref 41, .int x3_50030, .int x2_49799, .int z50059, pm_no, pm_no, pm_no, pm_no]) (pm_q202_1 (Nat.le_of_ble_eq_true rfl)) rfl (Or.inl rfl) pm_M208 T_50030.2.1 rfl (by decide) (Nat.lt_of_lt_of_le (by decide) T_50030.1) rfl rfl (Nat.le_of_ble_eq_true rfl) rfl rfl ?_
                          refine rf_c208 (d := d + 0) T_50030 B50042 (sf_weak B49814 (by decide) (by decide)) (sf_weak B50062 (by decide) (by decide)) (fun r50063 => ?_)
                          show pm_R _ 202 142 [.ref 41, .int x1_48664, .int x2_49799, .int x3_50030, g4_43039, g5_43039] [.long r50063, .int z50056, .ref 55] _ _
                          obtain ⟨f50071, e50072⟩ := T_50030.2.2.2.1 55 (by decide) (by decide)
                          refine rf_R_lst pm_M202 T_50030 (pc' := 143) (pm_q202_1 (Nat.le_of_ble_eq_true rfl)) e50072 (by decide) (by decide) (sf_in B50058 (by decide) (by decide)) ⟨_, rfl⟩ rfl (fun h50074 T50075 F50076 => ?_)
                          have F50077 := F_50030.trans F50076
                          refine sf_R_iinc pm_M202 (pc' := 146) (ls' := fun z => [.ref 41, .int x1_48664, .int x2_49799, .int z, g4_43039, g5_43039]) (pm_q202_1 (Nat.le_of_ble_eq_true rfl)) B50042 rfl (by decide) (by decide) (by decide) (fun _ => rfl) rfl (fun z50078 e50079 B50080 => ?_)
                          show pm_R _ 202 146 [.ref 41, .int x1_48664, .int x2_49799, .int z50078, g4_43039, g5_43039] [] _ _
                          refine pm_R_br pm_M202 (pc' := 115) (pm_q202_1 (Nat.le_of_ble_eq_true rfl)) rfl ?_
                          exact ih_50030 _ (sf_up hN_50030 e50079 B50042 (by decide) (by decide)) h50074 m_50030 w_50030 z50078 T50075 F50077 W_50030 (sf_weak B50080 (by decide) (by decide)) rfl
                    exact L_50030 _ h_49799 m_49799 w_49799 0 T_49799 F_49799 (rf_W.refl _ _) (sf_weak sf_k0 (by decide) (by decide)) rfl
              exact L_49799 _ h_48664 m_48664 w_48664 0 (g3_48664) T_48664 F_48664 (rf_W.refl _ _) (sf_weak sf_k0 (by decide) (by decide)) rfl
        exact L_48664 _ h_43039 m_43039 w_43039 1 (g2_43039) (g3_43039) T_43039 F_43039 (rf_W.refl _ _) (sf_weak sf_k1 (by decide) (by decide)) Cg2_43039 rfl
      · have B50081 : sf_B 0 5 x1_43039 := sf_ltL (Int32.not_le.mp c43042) Bx1_43039 sf_k6
        refine pm_R_op pm_M202 (pc' := 9) (st' := [.int 0]) rfl rfl rfl ?_
        refine pm_R_lo pm_M202 (pc' := 10) (ls' := [.ref 41, .int x1_43039, .int 0, g3_43039, g4_43039, g5_43039]) (st' := []) rfl rfl rfl ?_
        have L_55326 : ∀ (N : Nat) (h_55326 : pm_H) (m_55326 : Nat → Int32) (w_55326 : Int64) (x2_55326 : Int32) (g3_55326 : Value) (g4_55326 : Value) (g5_55326 : Value), rf_T m_55326 w_55326 h_55326 → rf_F h h_55326 → rf_W [] m_43039 m_55326 → sf_B 0 12 x2_55326 → g4_55326.category = 1 → g5_55326.category = 1 → (12 - x2_55326.toInt).toNat = N → pm_R (d + 4) 202 10 [.ref 41, .int x1_43039, .int x2_55326, g3_55326, g4_55326, g5_55326] [] h_55326 Q := by
          intro N
          induction N using Nat.strongRecOn with
          | ind N ih_55326 =>
            intro h_55326 m_55326 w_55326 x2_55326 g3_55326 g4_55326 g5_55326 T_55326 F_55326 W_55326 Bx2_55326 Cg4_55326 Cg5_55326 hN_55326
            have W55328 : rf_W [] m m_55326 := W43041.trans W_55326 (by decide)
            have W55329 : rf_W [] m m_55326 := W_43039.trans W_55326 (by decide)
            refine pm_R_lo pm_M202 (pc' := 11) rfl rfl rfl ?_
            refine pm_R_lo pm_M202 (pc' := 12) rfl rfl rfl ?_
            have B55330 : sf_B 0 12 (m_55326 24) := T_55326.2.2.1 24
            refine rf_R_get pm_M202 T_55326 (pc' := 15) (v := .int (m_55326 24)) rfl rfl rfl rfl ?_
            refine pm_R_icmp pm_M202 (t := 85) (pc' := 18) rfl rfl rfl (fun c55331 => ?_) (fun c55331 => ?_)
            · skip
              refine sf_R_iinc pm_M202 (pc' := 88) (ls' := fun z => [.ref 41, .int z, .int x2_55326, g3_55326, g4_55326, g5_55326]) rfl B50081 rfl (by decide) (by decide) (by decide) (fun _ => rfl) rfl (fun z55332 e55333 B55334 => ?_)
              show pm_R _ 202 88 [.ref 41, .int z55332, .int x2_55326, g3_55326, g4_55326, g5_55326] [] _ _
              refine pm_R_br pm_M202 (pc' := 2) rfl rfl ?_
              exact ih_43039 _ (sf_up hN_43039 e55333 B50081 (by decide) (by decide)) h_55326 m_55326 w_55326 z55332 (.int x2_55326) (g3_55326) (g4_55326) (g5_55326) T_55326 F_55326 W55329 (sf_weak B55334 (by decide) (by decide)) rfl Cg4_55326 Cg5_55326 rfl
            · have B55335 : sf_B 0 11 x2_55326 := sf_ltL (Int32.not_le.mp c55331) Bx2_55326 B55330
              have B55336 : sf_B 1 12 (m_55326 24) := sf_ltR (Int32.not_le.mp c55331) Bx2_55326 B55330
              refine pm_R_op pm_M202 (pc' := 19) (st' := [.long 0]) rfl rfl rfl ?_
              refine pm_R_lo pm_M202 (pc' := 20) (ls' := [.ref 41, .int x1_43039, .int x2_55326, .long 0, pm_no, g5_55326]) (st' := []) rfl rfl rfl ?_
              refine pm_R_op pm_M202 (pc' := 21) (st' := [.int 0]) rfl rfl rfl ?_
              refine pm_R_lo pm_M202 (pc' := 23) (ls' := [.ref 41, .int x1_43039, .int x2_55326, .long 0, pm_no, .int 0]) (st' := []) rfl rfl rfl ?_
              have L_56199 : ∀ (N : Nat) (h_56199 : pm_H) (m_56199 : Nat → Int32) (w_56199 : Int64) (x5_56199 : Int32) (y3_56199 : Int64), rf_T m_56199 w_56199 h_56199 → rf_F h h_56199 → rf_W [] m_55326 m_56199 → sf_B 0 16 x5_56199 → (16 - x5_56199.toInt).toNat = N → pm_R (d + 4) 202 23 [.ref 41, .int x1_43039, .int x2_55326, .long y3_56199, pm_no, .int x5_56199] [] h_56199 Q := by
                intro N
                induction N using Nat.strongRecOn with
                | ind N ih_56199 =>
                  intro h_56199 m_56199 w_56199 x5_56199 y3_56199 T_56199 F_56199 W_56199 Bx5_56199 hN_56199
                  have B56201 : sf_B 1 12 (m_56199 24) := by rw [W_56199 24 (by decide)]; exact B55336
                  have W56202 : rf_W [] m m_56199 := W55328.trans W_56199 (by decide)
                  have W56203 : rf_W [] m m_56199 := W55329.trans W_56199 (by decide)
                  have W56204 : rf_W [] m_43039 m_56199 := W_55326.trans W_56199 (by decide)
                  refine pm_R_lo pm_M202 (pc' := 25) rfl rfl rfl ?_
                  refine pm_R_lo pm_M202 (pc' := 26) rfl rfl rfl ?_
                  refine pm_R_cv pm_M202 (pc' := 29) (a := 41) (ra := []) (rest := [.int x5_56199]) (ls' := [.ref 41]) rfl rfl (Or.inl rfl) pm_M203 T_56199.2.1 rfl (by decide) (Nat.lt_of_lt_of_le (by decide) T_56199.1) rfl rfl (Nat.le_of_ble_eq_true rfl) rfl rfl ?_
                  refine pm_R_lo pm_M203 (pc' := 1) rfl rfl rfl ?_
                  refine rf_R_get pm_M203 T_56199 (pc' := 4) (v := .ref 47) rfl rfl rfl rfl ?_
                  refine pm_R_op pm_M203 (pc' := 6) (st' := [.int 100, .ref 47]) rfl rfl rfl ?_
                  refine pm_R_lo pm_M203 (pc' := 7) rfl rfl rfl ?_
                  have B56205 : sf_B 0 1 (m_56199 23) := T_56199.2.2.1 23
                  refine rf_R_get pm_M203 T_56199 (pc' := 10) (v := .int (m_56199 23)) rfl rfl rfl rfl ?_
                  refine sf_R_imul pm_M203 (pc' := 11) rfl rfl sf_k100 B56205 (by decide) (by decide) (by decide) (fun z56206 e56207 B56208 => ?_)
                  refine pm_R_op pm_M203 (pc' := 12) (st' := [.int 1, .int z56206, .ref 47]) rfl rfl rfl ?_
                  refine sf_R_iadd pm_M203 (pc' := 13) rfl rfl B56208 sf_k1 (by decide) (by decide) (fun z56209 e56210 B56211 => ?_)
                  obtain ⟨f56212, e56213, b56214⟩ := T_56199.2.2.2.1 47 (by decide) (by decide)
                  refine rf_R_ild pm_M203 T_56199 (pc' := 14) rfl e56213 (by decide) (sf_in B56211 (by decide) (by decide)) rfl (fun z56215 ez56216 => ?_)
                  have e56217 : (z56209).toInt = 100 * ((m_56199 23)).toInt + 1 := by
                    have q0 := e56207
                    have q1 := e56210
                    simp only [(show (1 : Int32).toInt = 1 from rfl), (show (100 : Int32).toInt = 100 from rfl)] at q0 q1
                    omega
                  have B56218 : sf_B 0 16 z56215 := ez56216 ▸ rf_p47b b56214 e56217 B56205 (by decide)
                  refine pm_R_ret pm_M203 (r := some (.int z56215)) rfl (pm_ret_i _) ?_
                  show pm_R _ 202 29 [.ref 41, .int x1_43039, .int x2_55326, .long y3_56199, pm_no, .int x5_56199] [.int z56215, .int x5_56199] _ _
                  refine pm_R_icmp pm_M202 (t := 67) (pc' := 32) rfl rfl rfl (fun c56219 => ?_) (fun c56219 => ?_)
                  · skip
                    refine pm_R_lo pm_M202 (pc' := 68) rfl rfl rfl ?_
                    refine rf_R_get pm_M202 T_56199 (pc' := 71) (v := .ref 55) rfl rfl rfl rfl ?_
                    refine pm_R_lo pm_M202 (pc' := 72) rfl rfl rfl ?_
                    refine pm_R_lo pm_M202 (pc' := 73) rfl rfl rfl ?_
                    refine pm_R_lo pm_M202 (pc' := 74) rfl rfl rfl ?_
                    refine pm_R_cs pm_M202 (pc' := 77) (ra := [.int x2_55326, .int x2_55326, .int x1_43039]) (rest := [.ref 55]) (ls' := [.int x1_43039, .int x2_55326, .int x2_55326]) rfl rfl (Or.inl rfl) pm_M207 rfl rfl (Nat.le_of_ble_eq_true rfl) rfl rfl ?_
                    refine pm_R_op pm_M207 (pc' := 3) (st' := [.int 144]) rfl rfl rfl ?_
                    refine pm_R_lo pm_M207 (pc' := 4) rfl rfl rfl ?_
                    refine sf_R_imul pm_M207 (pc' := 5) rfl rfl sf_k144 B50081 (by decide) (by decide) (by decide) (fun z56220 e56221 B56222 => ?_)
                    refine pm_R_op pm_M207 (pc' := 7) (st' := [.int 12, .int z56220]) rfl rfl rfl ?_
                    refine pm_R_lo pm_M207 (pc' := 8) rfl rfl rfl ?_
                    refine sf_R_imul pm_M207 (pc' := 9) rfl rfl sf_k12 B55335 (by decide) (by decide) (by decide) (fun z56223 e56224 B56225 => ?_)
                    refine sf_R_iadd pm_M207 (pc' := 10) rfl rfl B56222 B56225 (by decide) (by decide) (fun z56226 e56227 B56228 => ?_)
                    refine pm_R_lo pm_M207 (pc' := 11) rfl rfl rfl ?_
                    refine sf_R_iadd pm_M207 (pc' := 12) rfl rfl B56228 B55335 (by decide) (by decide) (fun z56229 e56230 B56231 => ?_)
                    refine pm_R_ret pm_M207 (r := some (.int z56229)) rfl (pm_ret_i _) ?_
                    show pm_R _ 202 77 [.ref 41, .int x1_43039, .int x2_55326, .long y3_56199, pm_no, .int x5_56199] [.int z56229, .ref 55] _ _
                    refine pm_R_lo pm_M202 (pc' := 78) rfl rfl rfl ?_
                    obtain ⟨f56232, e56233⟩ := T_56199.2.2.2.1 55 (by decide) (by decide)
                    refine rf_R_lst pm_M202 T_56199 (pc' := 79) rfl e56233 (by decide) (by decide) (sf_in B56231 (by decide) (by decide)) ⟨_, rfl⟩ rfl (fun h56235 T56236 F56237 => ?_)
                    have F56238 := F_56199.trans F56237
                    refine sf_R_iinc pm_M202 (pc' := 82) (ls' := fun z => [.ref 41, .int x1_43039, .int z, .long y3_56199, pm_no, .int x5_56199]) rfl B55335 rfl (by decide) (by decide) (by decide) (fun _ => rfl) rfl (fun z56239 e56240 B56241 => ?_)
                    show pm_R _ 202 82 [.ref 41, .int x1_43039, .int z56239, .long y3_56199, pm_no, .int x5_56199] [] _ _
                    refine pm_R_br pm_M202 (pc' := 10) rfl rfl ?_
                    exact ih_55326 _ (sf_up hN_55326 e56240 B55335 (by decide) (by decide)) h56235 m_56199 w_56199 z56239 (.long y3_56199) (pm_no) (.int x5_56199) T56236 F56238 W56204 (sf_weak B56241 (by decide) (by decide)) rfl rfl rfl
                  · have B56242 : sf_B 0 15 x5_56199 := sf_ltL (Int32.not_le.mp c56219) Bx5_56199 B56218
                    have B56243 : sf_B 1 16 z56215 := sf_ltR (Int32.not_le.mp c56219) Bx5_56199 B56218
                    refine pm_R_lo pm_M202 (pc' := 33) rfl rfl rfl ?_
                    refine pm_R_lo pm_M202 (pc' := 34) rfl rfl rfl ?_
                    refine pm_R_lo pm_M202 (pc' := 36) rfl rfl rfl ?_
                    refine pm_R_lo pm_M202 (pc' := 37) rfl rfl rfl ?_
                    refine pm_R_cv pm_M202 (pc' := 40) (a := 41) (ra := [.int x2_55326, .int x5_56199]) (rest := [.long y3_56199]) (ls' := [.ref 41, .int x5_56199, .int x2_55326]) rfl rfl (Or.inl rfl) pm_M204 T_56199.2.1 rfl (by decide) (Nat.lt_of_lt_of_le (by decide) T_56199.1) rfl rfl (Nat.le_of_ble_eq_true rfl) rfl rfl ?_
                    refine pm_R_lo pm_M204 (pc' := 1) rfl rfl rfl ?_
                    refine rf_R_get pm_M204 T_56199 (pc' := 4) (v := .ref 53) rfl rfl rfl rfl ?_
                    refine pm_R_lo pm_M204 (pc' := 5) rfl rfl rfl ?_
                    obtain ⟨f56244, e56245⟩ := T_56199.2.2.2.1 53 (by decide) (by decide)
                    refine rf_R_ild pm_M204 T_56199 (pc' := 6) rfl e56245 (by decide) (sf_in B55335 (by decide) (by decide)) rfl (fun z56247 ez56248 => ?_)
                    refine sf_R_lany pm_M204 (pc' := 7) (st := []) rfl rfl rfl (fun z56249 => ?_)
                    refine pm_R_lo pm_M204 (pc' := 8) rfl rfl rfl ?_
                    refine pm_R_lo pm_M204 (pc' := 9) rfl rfl rfl ?_
                    refine pm_R_op pm_M204 (pc' := 10) (st' := [.int 0, .int x5_56199, .ref 41, .long z56249]) rfl rfl rfl ?_
                    refine pm_R_cv pm_M204 (pc' := 13) (a := 41) (ra := [.int 0, .int x5_56199]) (rest := [.long z56249]) (ls' := [.ref 41, .int x5_56199, .int 0]) rfl rfl (Or.inl rfl) pm_M205 T_56199.2.1 rfl (by decide) (Nat.lt_of_lt_of_le (by decide) T_56199.1) rfl rfl (Nat.le_of_ble_eq_true rfl) rfl rfl ?_
                    refine pm_R_lo pm_M205 (pc' := 1) rfl rfl rfl ?_
                    refine rf_R_get pm_M205 T_56199 (pc' := 4) (v := .ref 47) rfl rfl rfl rfl ?_
                    refine pm_R_op pm_M205 (pc' := 6) (st' := [.int 100, .ref 47]) rfl rfl rfl ?_
                    refine pm_R_lo pm_M205 (pc' := 7) rfl rfl rfl ?_
                    refine rf_R_get pm_M205 T_56199 (pc' := 10) (v := .int (m_56199 23)) rfl rfl rfl rfl ?_
                    refine sf_R_imul pm_M205 (pc' := 11) rfl rfl sf_k100 B56205 (by decide) (by decide) (by decide) (fun z56250 e56251 B56252 => ?_)
                    refine pm_R_op pm_M205 (pc' := 13) (st' := [.int 42, .int z56250, .ref 47]) rfl rfl rfl ?_
                    refine sf_R_iadd pm_M205 (pc' := 14) rfl rfl B56252 sf_k42 (by decide) (by decide) (fun z56253 e56254 B56255 => ?_)
                    refine pm_R_op pm_M205 (pc' := 15) (st' := [.int 3, .int z56253, .ref 47]) rfl rfl rfl ?_
                    refine pm_R_lo pm_M205 (pc' := 16) rfl rfl rfl ?_
                    refine sf_R_imul pm_M205 (pc' := 17) rfl rfl sf_k3 B56242 (by decide) (by decide) (by decide) (fun z56256 e56257 B56258 => ?_)
                    refine sf_R_iadd pm_M205 (pc' := 18) rfl rfl B56255 B56258 (by decide) (by decide) (fun z56259 e56260 B56261 => ?_)
                    refine pm_R_lo pm_M205 (pc' := 19) rfl rfl rfl ?_
                    refine sf_R_iadd pm_M205 (pc' := 20) rfl rfl B56261 sf_k0 (by decide) (by decide) (fun z56262 e56263 B56264 => ?_)
                    refine rf_R_ild pm_M205 T_56199 (pc' := 21) rfl e56213 (by decide) (sf_in B56264 (by decide) (by decide)) rfl (fun z56265 ez56266 => ?_)
                    have e56267 : (z56262).toInt = 100 * ((m_56199 23)).toInt + 3 * (x5_56199).toInt + 42 := by
                      have q0 := e56251
                      have q1 := e56254
                      have q2 := e56257
                      have q3 := e56260
                      have q4 := e56263
                      simp only [(show (0 : Int32).toInt = 0 from rfl), (show (3 : Int32).toInt = 3 from rfl), (show (42 : Int32).toInt = 42 from rfl), (show (100 : Int32).toInt = 100 from rfl)] at q0 q1 q2 q3 q4
                      omega
                    have B56268 : sf_B 0 9 z56265 := ez56266 ▸ rf_p47s b56214 e56267 B56205 B56242 (by decide) (by decide) (by decide)
                    refine pm_R_ret pm_M205 (r := some (.int z56265)) rfl (pm_ret_i _) ?_
                    show pm_R _ 204 13 [.ref 41, .int x5_56199, .int x2_55326] [.int z56265, .long z56249] _ _
                    refine pm_R_cs pm_M204 (pc' := 16) (ra := [.int z56265, .long z56249]) (rest := []) (ls' := [.long z56249, pm_no, .int z56265]) rfl rfl (Or.inl rfl) pm_M206 rfl rfl (Nat.le_of_ble_eq_true rfl) rfl rfl ?_
                    refine pm_R_lo pm_M206 (pc' := 1) rfl rfl rfl ?_
                    refine pm_R_lo pm_M206 (pc' := 2) rfl rfl rfl ?_
                    refine sf_R_lany pm_M206 (pc' := 3) (st := []) rfl rfl rfl (fun z56269 => ?_)
                    refine pm_R_op pm_M206 (pc' := 4) (st' := [.long 1, .long z56269]) rfl rfl rfl ?_
                    refine sf_R_lany pm_M206 (pc' := 5) (st := []) rfl rfl rfl (fun z56270 => ?_)
                    refine pm_R_op pm_M206 (pc' := 6) (st' := [.long 1, .long z56270]) rfl rfl rfl ?_
                    refine sf_R_lcmp pm_M206 (pc' := 7) rfl rfl (fun z56271 e56272 => ?_)
                    refine pm_R_ifc pm_M206 (t := 14) (pc' := 10) rfl rfl rfl (fun c56273 => ?_) (fun c56273 => ?_)
                    · have k56274 := sf_lneC e56272 c56273
                      refine pm_R_op pm_M206 (pc' := 15) (st' := [.int 0]) rfl rfl rfl ?_
                      refine pm_R_ret pm_M206 (r := some (.int 0)) rfl rfl ?_
                      show pm_R _ 204 16 [.ref 41, .int x5_56199, .int x2_55326] [.int 0] _ _
                      refine pm_R_br pm_M204 (pc' := 39) (st' := []) rfl rfl ?_
                      refine pm_R_op pm_M204 (pc' := 40) (st' := [.int 0]) rfl rfl rfl ?_
                      refine pm_R_ret pm_M204 (r := some (.int 0)) rfl rfl ?_
                      show pm_R _ 202 40 [.ref 41, .int x1_43039, .int x2_55326, .long y3_56199, pm_no, .int x5_56199] [.int 0, .long y3_56199] _ _
                      refine pm_R_br pm_M202 (pc' := 58) (st' := [.long y3_56199]) rfl rfl ?_
                      refine pm_R_op pm_M202 (pc' := 59) (st' := [.long 0, .long y3_56199]) rfl rfl rfl ?_
                      refine sf_R_lany pm_M202 (pc' := 60) (st := []) rfl rfl rfl (fun z56275 => ?_)
                      refine pm_R_lo pm_M202 (pc' := 61) (ls' := [.ref 41, .int x1_43039, .int x2_55326, .long z56275, pm_no, .int x5_56199]) (st' := []) rfl rfl rfl ?_
                      refine sf_R_iinc pm_M202 (pc' := 64) (ls' := fun z => [.ref 41, .int x1_43039, .int x2_55326, .long z56275, pm_no, .int z]) rfl B56242 rfl (by decide) (by decide) (by decide) (fun _ => rfl) rfl (fun z56276 e56277 B56278 => ?_)
                      show pm_R _ 202 64 [.ref 41, .int x1_43039, .int x2_55326, .long z56275, pm_no, .int z56276] [] _ _
                      refine pm_R_br pm_M202 (pc' := 23) rfl rfl ?_
                      exact ih_56199 _ (sf_up hN_56199 e56277 B56242 (by decide) (by decide)) h_56199 m_56199 w_56199 z56276 z56275 T_56199 F_56199 W_56199 (sf_weak B56278 (by decide) (by decide)) rfl
                    · have B56279 : sf_B 0 0 z56271 := sf_eqL (Classical.not_not.mp c56273) sf_k0
                      refine pm_R_op pm_M206 (pc' := 11) (st' := [.int 1]) rfl rfl rfl ?_
                      refine pm_R_br pm_M206 (pc' := 15) rfl rfl ?_
                      refine pm_R_ret pm_M206 (r := some (.int 1)) rfl rfl ?_
                      show pm_R _ 204 16 [.ref 41, .int x5_56199, .int x2_55326] [.int 1] _ _
                      refine pm_R_br pm_M204 (pc' := 19) (st' := []) rfl rfl ?_
                      refine pm_R_lo pm_M204 (pc' := 20) rfl rfl rfl ?_
                      have B56280 : sf_B (-1) 11 (m_56199 26) := T_56199.2.2.1 26
                      refine rf_R_get pm_M204 T_56199 (pc' := 23) (v := .int (m_56199 26)) rfl rfl rfl rfl ?_
                      refine pm_R_lo pm_M204 (pc' := 24) rfl rfl rfl ?_
                      refine pm_R_icmp pm_M204 (t := 35) (pc' := 27) rfl rfl rfl (fun c56281 => ?_) (fun c56281 => ?_)
                      · skip
                        refine pm_R_op pm_M204 (pc' := 36) (st' := [.int 1]) rfl rfl rfl ?_
                        refine pm_R_br pm_M204 (pc' := 40) rfl rfl ?_
                        refine pm_R_ret pm_M204 (r := some (.int 1)) rfl rfl ?_
                        show pm_R _ 202 40 [.ref 41, .int x1_43039, .int x2_55326, .long y3_56199, pm_no, .int x5_56199] [.int 1, .long y3_56199] _ _
                        refine pm_R_br pm_M202 (pc' := 43) (st' := [.long y3_56199]) rfl rfl ?_
                        refine pm_R_lo pm_M202 (pc' := 44) rfl rfl rfl ?_
                        refine pm_R_lo pm_M202 (pc' := 46) rfl rfl rfl ?_
                        refine pm_R_op pm_M202 (pc' := 47) (st' := [.int 1, .int x5_56199, .ref 41, .long y3_56199]) rfl rfl rfl ?_
                        refine pm_R_cv pm_M202 (pc' := 50) (a := 41) (ra := [.int 1, .int x5_56199]) (rest := [.long y3_56199]) (ls' := [.ref 41, .int x5_56199, .int 1]) rfl rfl (Or.inl rfl) pm_M205 T_56199.2.1 rfl (by decide) (Nat.lt_of_lt_of_le (by decide) T_56199.1) rfl rfl (Nat.le_of_ble_eq_true rfl) rfl rfl ?_
                        refine pm_R_lo pm_M205 (pc' := 1) rfl rfl rfl ?_
                        refine rf_R_get pm_M205 T_56199 (pc' := 4) (v := .ref 47) rfl rfl rfl rfl ?_
                        refine pm_R_op pm_M205 (pc' := 6) (st' := [.int 100, .ref 47]) rfl rfl rfl ?_
                        refine pm_R_lo pm_M205 (pc' := 7) rfl rfl rfl ?_
                        refine rf_R_get pm_M205 T_56199 (pc' := 10) (v := .int (m_56199 23)) rfl rfl rfl rfl ?_
                        refine sf_R_imul pm_M205 (pc' := 11) rfl rfl sf_k100 B56205 (by decide) (by decide) (by decide) (fun z56282 e56283 B56284 => ?_)
                        refine pm_R_op pm_M205 (pc' := 13) (st' := [.int 42, .int z56282, .ref 47]) rfl rfl rfl ?_
                        refine sf_R_iadd pm_M205 (pc' := 14) rfl rfl B56284 sf_k42 (by decide) (by decide) (fun z56285 e56286 B56287 => ?_)
                        refine pm_R_op pm_M205 (pc' := 15) (st' := [.int 3, .int z56285, .ref 47]) rfl rfl rfl ?_
                        refine pm_R_lo pm_M205 (pc' := 16) rfl rfl rfl ?_
                        refine sf_R_imul pm_M205 (pc' := 17) rfl rfl sf_k3 B56242 (by decide) (by decide) (by decide) (fun z56288 e56289 B56290 => ?_)
                        refine sf_R_iadd pm_M205 (pc' := 18) rfl rfl B56287 B56290 (by decide) (by decide) (fun z56291 e56292 B56293 => ?_)
                        refine pm_R_lo pm_M205 (pc' := 19) rfl rfl rfl ?_
                        refine sf_R_iadd pm_M205 (pc' := 20) rfl rfl B56293 sf_k1 (by decide) (by decide) (fun z56294 e56295 B56296 => ?_)
                        refine rf_R_ild pm_M205 T_56199 (pc' := 21) rfl e56213 (by decide) (sf_in B56296 (by decide) (by decide)) rfl (fun z56297 ez56298 => ?_)
                        have e56299 : (z56294).toInt = 100 * ((m_56199 23)).toInt + 3 * (x5_56199).toInt + 43 := by
                          have q0 := e56283
                          have q1 := e56286
                          have q2 := e56289
                          have q3 := e56292
                          have q4 := e56295
                          simp only [(show (1 : Int32).toInt = 1 from rfl), (show (3 : Int32).toInt = 3 from rfl), (show (42 : Int32).toInt = 42 from rfl), (show (100 : Int32).toInt = 100 from rfl)] at q0 q1 q2 q3 q4
                          omega
                        have B56300 : sf_B 0 5 z56297 := ez56298 ▸ rf_p47k b56214 e56299 B56205 B56242 (by decide) (by decide) (by decide)
                        refine pm_R_ret pm_M205 (r := some (.int z56297)) rfl (pm_ret_i _) ?_
                        show pm_R _ 202 50 [.ref 41, .int x1_43039, .int x2_55326, .long y3_56199, pm_no, .int x5_56199] [.int z56297, .long y3_56199] _ _
                        refine pm_R_lo pm_M202 (pc' := 51) rfl rfl rfl ?_
                        refine pm_R_icmp pm_M202 (t := 58) (pc' := 54) rfl rfl rfl (fun c56301 => ?_) (fun c56301 => ?_)
                        · skip
                          refine pm_R_op pm_M202 (pc' := 59) (st' := [.long 0, .long y3_56199]) rfl rfl rfl ?_
                          refine sf_R_lany pm_M202 (pc' := 60) (st := []) rfl rfl rfl (fun z56302 => ?_)
                          refine pm_R_lo pm_M202 (pc' := 61) (ls' := [.ref 41, .int x1_43039, .int x2_55326, .long z56302, pm_no, .int x5_56199]) (st' := []) rfl rfl rfl ?_
                          refine sf_R_iinc pm_M202 (pc' := 64) (ls' := fun z => [.ref 41, .int x1_43039, .int x2_55326, .long z56302, pm_no, .int z]) rfl B56242 rfl (by decide) (by decide) (by decide) (fun _ => rfl) rfl (fun z56303 e56304 B56305 => ?_)
                          show pm_R _ 202 64 [.ref 41, .int x1_43039, .int x2_55326, .long z56302, pm_no, .int z56303] [] _ _
                          refine pm_R_br pm_M202 (pc' := 23) rfl rfl ?_
                          exact ih_56199 _ (sf_up hN_56199 e56304 B56242 (by decide) (by decide)) h_56199 m_56199 w_56199 z56303 z56302 T_56199 F_56199 W_56199 (sf_weak B56305 (by decide) (by decide)) rfl
                        · refine pm_R_op pm_M202 (pc' := 55) (st' := [.long 1, .long y3_56199]) rfl rfl rfl ?_
                          refine pm_R_br pm_M202 (pc' := 59) rfl rfl ?_
                          refine sf_R_lany pm_M202 (pc' := 60) (st := []) rfl rfl rfl (fun z56306 => ?_)
                          refine pm_R_lo pm_M202 (pc' := 61) (ls' := [.ref 41, .int x1_43039, .int x2_55326, .long z56306, pm_no, .int x5_56199]) (st' := []) rfl rfl rfl ?_
                          refine sf_R_iinc pm_M202 (pc' := 64) (ls' := fun z => [.ref 41, .int x1_43039, .int x2_55326, .long z56306, pm_no, .int z]) rfl B56242 rfl (by decide) (by decide) (by decide) (fun _ => rfl) rfl (fun z56307 e56308 B56309 => ?_)
                          show pm_R _ 202 64 [.ref 41, .int x1_43039, .int x2_55326, .long z56306, pm_no, .int z56307] [] _ _
                          refine pm_R_br pm_M202 (pc' := 23) rfl rfl ?_
                          exact ih_56199 _ (sf_up hN_56199 e56308 B56242 (by decide) (by decide)) h_56199 m_56199 w_56199 z56307 z56306 T_56199 F_56199 W_56199 (sf_weak B56309 (by decide) (by decide)) rfl
                      · have B56310 : sf_B 0 11 (m_56199 26) := sf_eqL (Classical.not_not.mp c56281) B55335
                        refine pm_R_lo pm_M204 (pc' := 28) rfl rfl rfl ?_
                        have B56311 : sf_B 0 15 (m_56199 27) := T_56199.2.2.1 27
                        refine rf_R_get pm_M204 T_56199 (pc' := 31) (v := .int (m_56199 27)) rfl rfl rfl rfl ?_
                        refine pm_R_lo pm_M204 (pc' := 32) rfl rfl rfl ?_
                        refine pm_R_icmp pm_M204 (t := 39) (pc' := 35) rfl rfl rfl (fun c56312 => ?_) (fun c56312 => ?_)
                        · skip
                          refine pm_R_op pm_M204 (pc' := 40) (st' := [.int 0]) rfl rfl rfl ?_
                          refine pm_R_ret pm_M204 (r := some (.int 0)) rfl rfl ?_
                          show pm_R _ 202 40 [.ref 41, .int x1_43039, .int x2_55326, .long y3_56199, pm_no, .int x5_56199] [.int 0, .long y3_56199] _ _
                          refine pm_R_br pm_M202 (pc' := 58) (st' := [.long y3_56199]) rfl rfl ?_
                          refine pm_R_op pm_M202 (pc' := 59) (st' := [.long 0, .long y3_56199]) rfl rfl rfl ?_
                          refine sf_R_lany pm_M202 (pc' := 60) (st := []) rfl rfl rfl (fun z56313 => ?_)
                          refine pm_R_lo pm_M202 (pc' := 61) (ls' := [.ref 41, .int x1_43039, .int x2_55326, .long z56313, pm_no, .int x5_56199]) (st' := []) rfl rfl rfl ?_
                          refine sf_R_iinc pm_M202 (pc' := 64) (ls' := fun z => [.ref 41, .int x1_43039, .int x2_55326, .long z56313, pm_no, .int z]) rfl B56242 rfl (by decide) (by decide) (by decide) (fun _ => rfl) rfl (fun z56314 e56315 B56316 => ?_)
                          show pm_R _ 202 64 [.ref 41, .int x1_43039, .int x2_55326, .long z56313, pm_no, .int z56314] [] _ _
                          refine pm_R_br pm_M202 (pc' := 23) rfl rfl ?_
                          exact ih_56199 _ (sf_up hN_56199 e56315 B56242 (by decide) (by decide)) h_56199 m_56199 w_56199 z56314 z56313 T_56199 F_56199 W_56199 (sf_weak B56316 (by decide) (by decide)) rfl
                        · refine pm_R_op pm_M204 (pc' := 36) (st' := [.int 1]) rfl rfl rfl ?_
                          refine pm_R_br pm_M204 (pc' := 40) rfl rfl ?_
                          refine pm_R_ret pm_M204 (r := some (.int 1)) rfl rfl ?_
                          show pm_R _ 202 40 [.ref 41, .int x1_43039, .int x2_55326, .long y3_56199, pm_no, .int x5_56199] [.int 1, .long y3_56199] _ _
                          refine pm_R_br pm_M202 (pc' := 43) (st' := [.long y3_56199]) rfl rfl ?_
                          refine pm_R_lo pm_M202 (pc' := 44) rfl rfl rfl ?_
                          refine pm_R_lo pm_M202 (pc' := 46) rfl rfl rfl ?_
                          refine pm_R_op pm_M202 (pc' := 47) (st' := [.int 1, .int x5_56199, .ref 41, .long y3_56199]) rfl rfl rfl ?_
                          refine pm_R_cv pm_M202 (pc' := 50) (a := 41) (ra := [.int 1, .int x5_56199]) (rest := [.long y3_56199]) (ls' := [.ref 41, .int x5_56199, .int 1]) rfl rfl (Or.inl rfl) pm_M205 T_56199.2.1 rfl (by decide) (Nat.lt_of_lt_of_le (by decide) T_56199.1) rfl rfl (Nat.le_of_ble_eq_true rfl) rfl rfl ?_
                          refine pm_R_lo pm_M205 (pc' := 1) rfl rfl rfl ?_
                          refine rf_R_get pm_M205 T_56199 (pc' := 4) (v := .ref 47) rfl rfl rfl rfl ?_
                          refine pm_R_op pm_M205 (pc' := 6) (st' := [.int 100, .ref 47]) rfl rfl rfl ?_
                          refine pm_R_lo pm_M205 (pc' := 7) rfl rfl rfl ?_
                          refine rf_R_get pm_M205 T_56199 (pc' := 10) (v := .int (m_56199 23)) rfl rfl rfl rfl ?_
                          refine sf_R_imul pm_M205 (pc' := 11) rfl rfl sf_k100 B56205 (by decide) (by decide) (by decide) (fun z56317 e56318 B56319 => ?_)
                          refine pm_R_op pm_M205 (pc' := 13) (st' := [.int 42, .int z56317, .ref 47]) rfl rfl rfl ?_
                          refine sf_R_iadd pm_M205 (pc' := 14) rfl rfl B56319 sf_k42 (by decide) (by decide) (fun z56320 e56321 B56322 => ?_)
                          refine pm_R_op pm_M205 (pc' := 15) (st' := [.int 3, .int z56320, .ref 47]) rfl rfl rfl ?_
                          refine pm_R_lo pm_M205 (pc' := 16) rfl rfl rfl ?_
                          refine sf_R_imul pm_M205 (pc' := 17) rfl rfl sf_k3 B56242 (by decide) (by decide) (by decide) (fun z56323 e56324 B56325 => ?_)
                          refine sf_R_iadd pm_M205 (pc' := 18) rfl rfl B56322 B56325 (by decide) (by decide) (fun z56326 e56327 B56328 => ?_)
                          refine pm_R_lo pm_M205 (pc' := 19) rfl rfl rfl ?_
                          refine sf_R_iadd pm_M205 (pc' := 20) rfl rfl B56328 sf_k1 (by decide) (by decide) (fun z56329 e56330 B56331 => ?_)
                          refine rf_R_ild pm_M205 T_56199 (pc' := 21) rfl e56213 (by decide) (sf_in B56331 (by decide) (by decide)) rfl (fun z56332 ez56333 => ?_)
                          have e56334 : (z56329).toInt = 100 * ((m_56199 23)).toInt + 3 * (x5_56199).toInt + 43 := by
                            have q0 := e56318
                            have q1 := e56321
                            have q2 := e56324
                            have q3 := e56327
                            have q4 := e56330
                            simp only [(show (1 : Int32).toInt = 1 from rfl), (show (3 : Int32).toInt = 3 from rfl), (show (42 : Int32).toInt = 42 from rfl), (show (100 : Int32).toInt = 100 from rfl)] at q0 q1 q2 q3 q4
                            omega
                          have B56335 : sf_B 0 5 z56332 := ez56333 ▸ rf_p47k b56214 e56334 B56205 B56242 (by decide) (by decide) (by decide)
                          refine pm_R_ret pm_M205 (r := some (.int z56332)) rfl (pm_ret_i _) ?_
                          show pm_R _ 202 50 [.ref 41, .int x1_43039, .int x2_55326, .long y3_56199, pm_no, .int x5_56199] [.int z56332, .long y3_56199] _ _
                          refine pm_R_lo pm_M202 (pc' := 51) rfl rfl rfl ?_
                          refine pm_R_icmp pm_M202 (t := 58) (pc' := 54) rfl rfl rfl (fun c56336 => ?_) (fun c56336 => ?_)
                          · skip
                            refine pm_R_op pm_M202 (pc' := 59) (st' := [.long 0, .long y3_56199]) rfl rfl rfl ?_
                            refine sf_R_lany pm_M202 (pc' := 60) (st := []) rfl rfl rfl (fun z56337 => ?_)
                            refine pm_R_lo pm_M202 (pc' := 61) (ls' := [.ref 41, .int x1_43039, .int x2_55326, .long z56337, pm_no, .int x5_56199]) (st' := []) rfl rfl rfl ?_
                            refine sf_R_iinc pm_M202 (pc' := 64) (ls' := fun z => [.ref 41, .int x1_43039, .int x2_55326, .long z56337, pm_no, .int z]) rfl B56242 rfl (by decide) (by decide) (by decide) (fun _ => rfl) rfl (fun z56338 e56339 B56340 => ?_)
                            show pm_R _ 202 64 [.ref 41, .int x1_43039, .int x2_55326, .long z56337, pm_no, .int z56338] [] _ _
                            refine pm_R_br pm_M202 (pc' := 23) rfl rfl ?_
                            exact ih_56199 _ (sf_up hN_56199 e56339 B56242 (by decide) (by decide)) h_56199 m_56199 w_56199 z56338 z56337 T_56199 F_56199 W_56199 (sf_weak B56340 (by decide) (by decide)) rfl
                          · refine pm_R_op pm_M202 (pc' := 55) (st' := [.long 1, .long y3_56199]) rfl rfl rfl ?_
                            refine pm_R_br pm_M202 (pc' := 59) rfl rfl ?_
                            refine sf_R_lany pm_M202 (pc' := 60) (st := []) rfl rfl rfl (fun z56341 => ?_)
                            refine pm_R_lo pm_M202 (pc' := 61) (ls' := [.ref 41, .int x1_43039, .int x2_55326, .long z56341, pm_no, .int x5_56199]) (st' := []) rfl rfl rfl ?_
                            refine sf_R_iinc pm_M202 (pc' := 64) (ls' := fun z => [.ref 41, .int x1_43039, .int x2_55326, .long z56341, pm_no, .int z]) rfl B56242 rfl (by decide) (by decide) (by decide) (fun _ => rfl) rfl (fun z56342 e56343 B56344 => ?_)
                            show pm_R _ 202 64 [.ref 41, .int x1_43039, .int x2_55326, .long z56341, pm_no, .int z56342] [] _ _
                            refine pm_R_br pm_M202 (pc' := 23) rfl rfl ?_
                            exact ih_56199 _ (sf_up hN_56199 e56343 B56242 (by decide) (by decide)) h_56199 m_56199 w_56199 z56342 z56341 T_56199 F_56199 W_56199 (sf_weak B56344 (by decide) (by decide)) rfl
              exact L_56199 _ h_55326 m_55326 w_55326 0 0 T_55326 F_55326 (rf_W.refl _ _) (sf_weak sf_k0 (by decide) (by decide)) rfl
        exact L_55326 _ h_43039 m_43039 w_43039 0 (g3_43039) (g4_43039) (g5_43039) T_43039 F_43039 (rf_W.refl _ _) (sf_weak sf_k0 (by decide) (by decide)) Cg4_43039 Cg5_43039 rfl
  exact L_43039 _ h m w 0 (pm_no) (pm_no) (pm_no) (pm_no) T (rf_F.refl h) (rf_W.refl _ _) (sf_weak sf_k0 (by decide) (by decide)) rfl rfl rfl rfl
