theorem sf_aux0 (v0 v1 v2 v3 : Int) (q0 : v0 = v1 + 0) (q1 : v2 = v3 + 1) (q2 : 0 ≤ v1) (q3 : v1 ≤ 49) (q4 : 0 ≤ v3) (q5 : v3 ≤ 49) (q6 : v1 ≤ v3) : v0 ≤ v2 := by omega
theorem sf_aux1 (v0 v1 v2 v3 : Int) (q0 : v0 = v1 + 1) (q1 : v2 = v3 + 1) (q2 : 0 ≤ v1) (q3 : v1 ≤ 49) (q4 : 0 ≤ v3) (q5 : v3 ≤ 49) (q6 : v1 ≤ v3) : v0 ≤ v2 := by omega
set_option maxRecDepth 100000 in
set_option maxHeartbeats 4000000 in
/-- SilentTableModel.manyOf -/
theorem rf_c222 {d : Nat} {h : pm_H} {Q : Option Value → pm_H → Prop} {a0 : Int64}   (K : ∀ (r : Int32), sf_B 0 50 r → Q (some (.int r)) h) : pm_R (d + 1) 222 0 [.long a0, pm_no, pm_no, pm_no] [] h Q := by
  refine pm_R_op pm_M222 (pc_q := 1) (st_q := [.int 0]) rfl rfl rfl ?_
  refine pm_R_lo pm_M222 (pc_q := 2) (ls_q := [.long a0, pm_no, .int 0, pm_no]) (st_q := []) rfl rfl rfl ?_
  refine pm_R_op pm_M222 (pc_q := 3) (st_q := [.int 0]) rfl rfl rfl ?_
  refine pm_R_lo pm_M222 (pc_q := 4) (ls_q := [.long a0, pm_no, .int 0, .int 0]) (st_q := []) rfl rfl rfl ?_
  have L_122 : ∀ (N : Nat) (x2_122 : Int32) (x3_122 : Int32), sf_B 0 50 x2_122 → sf_B 0 50 x3_122 → x2_122.toInt ≤ x3_122.toInt → (50 - x3_122.toInt).toNat = N → pm_R (d + 1) 222 4 [.long a0, pm_no, .int x2_122, .int x3_122] [] h Q := by
    intro N
    induction N using Nat.strongRecOn with
    | ind N ih_122 =>
      intro x2_122 x3_122 Bx2_122 Bx3_122 R0_122 hN_122
      refine pm_R_lo pm_M222 (pc_q := 5) rfl rfl rfl ?_
      refine pm_R_op pm_M222 (pc_q := 7) (st_q := [.int 50, .int x3_122]) rfl rfl rfl ?_
      refine pm_R_icmp pm_M222 (t := 32) (pc_q := 10) rfl rfl rfl (fun c123 => ?_) (fun c123 => ?_)
      · have B124 : sf_B 50 50 x3_122 := sf_leR c123 sf_k50 Bx3_122
        refine pm_R_lo pm_M222 (pc_q := 33) rfl rfl rfl ?_
        exact pm_R_ret pm_M222 (r := some (.int x2_122)) rfl (pm_ret_i _) (K x2_122 Bx2_122)
      · have B125 : sf_B 0 49 x3_122 := sf_ltL (Int32.not_le.mp c123) Bx3_122 sf_k50
        have B126 : sf_B 0 49 x2_122 := sf_leT R0_122 Bx2_122 B125
        refine pm_R_lo pm_M222 (pc_q := 11) rfl rfl rfl ?_
        refine pm_R_lo pm_M222 (pc_q := 12) rfl rfl rfl ?_
        refine pm_R_lo pm_M222 (pc_q := 13) rfl rfl rfl ?_
        refine pm_R_cs pm_M222 (pc_q := 16) (ra := [.int x3_122, .long a0]) (rest := [.int x2_122]) (ls_q := [.long a0, pm_no, .int x3_122]) rfl rfl (Or.inl rfl) pm_M206 rfl rfl (Nat.le_of_ble_eq_true rfl) rfl rfl ?_
        refine pm_R_lo pm_M206 (pc_q := 1) rfl rfl rfl ?_
        refine pm_R_lo pm_M206 (pc_q := 2) rfl rfl rfl ?_
        refine sf_R_lany pm_M206 (pc_q := 3) (st := []) rfl rfl rfl (fun z127 => ?_)
        refine pm_R_op pm_M206 (pc_q := 4) (st_q := [.long 1, .long z127]) rfl rfl rfl ?_
        refine sf_R_lany pm_M206 (pc_q := 5) (st := []) rfl rfl rfl (fun z128 => ?_)
        refine pm_R_op pm_M206 (pc_q := 6) (st_q := [.long 1, .long z128]) rfl rfl rfl ?_
        refine sf_R_lcmp pm_M206 (pc_q := 7) rfl rfl (fun z129 e130 => ?_)
        refine pm_R_ifc pm_M206 (t := 14) (pc_q := 10) rfl rfl rfl (fun c131 => ?_) (fun c131 => ?_)
        · have k132 := sf_lneC e130 c131
          refine pm_R_op pm_M206 (pc_q := 15) (st_q := [.int 0]) rfl rfl rfl ?_
          refine pm_R_ret pm_M206 (r := some (.int 0)) rfl rfl ?_
          show pm_R _ 222 16 [.long a0, pm_no, .int x2_122, .int x3_122] [.int 0, .int x2_122] _ _
          refine pm_R_br pm_M222 (pc_q := 23) (st_q := [.int x2_122]) rfl rfl ?_
          refine pm_R_op pm_M222 (pc_q := 24) (st_q := [.int 0, .int x2_122]) rfl rfl rfl ?_
          refine sf_R_iadd pm_M222 (pc_q := 25) rfl rfl B126 sf_k0 (by decide) (by decide) (fun z133 e134 B135 => ?_)
          refine pm_R_lo pm_M222 (pc_q := 26) (ls_q := [.long a0, pm_no, .int z133, .int x3_122]) (st_q := []) rfl rfl rfl ?_
          refine sf_R_iinc pm_M222 (pc_q := 29) (ls_q := fun z => [.long a0, pm_no, .int z133, .int z]) rfl B125 rfl (by decide) (by decide) (by decide) (fun _ => rfl) rfl (fun z136 e137 B138 => ?_)
          show pm_R _ 222 29 [.long a0, pm_no, .int z133, .int z136] [] _ _
          refine pm_R_br pm_M222 (pc_q := 4) rfl rfl ?_
          exact ih_122 _ (sf_up hN_122 e137 B125 (by decide) (by decide)) z133 z136 (sf_weak B135 (by decide) (by decide)) (sf_weak B138 (by decide) (by decide)) (sf_aux0 _ _ _ _ e134 e137 B126.1 B126.2 B125.1 B125.2 R0_122) rfl
        · have B139 : sf_B 0 0 z129 := sf_eqL (Classical.not_not.mp c131) sf_k0
          have B140 : lf_B 1 1 z128 := lf_eqB e130 B139 (⟨by decide, by decide⟩ : lf_B 1 1 1)
          refine pm_R_op pm_M206 (pc_q := 11) (st_q := [.int 1]) rfl rfl rfl ?_
          refine pm_R_br pm_M206 (pc_q := 15) rfl rfl ?_
          refine pm_R_ret pm_M206 (r := some (.int 1)) rfl rfl ?_
          show pm_R _ 222 16 [.long a0, pm_no, .int x2_122, .int x3_122] [.int 1, .int x2_122] _ _
          refine pm_R_br pm_M222 (pc_q := 19) (st_q := [.int x2_122]) rfl rfl ?_
          refine pm_R_op pm_M222 (pc_q := 20) (st_q := [.int 1, .int x2_122]) rfl rfl rfl ?_
          refine pm_R_br pm_M222 (pc_q := 24) rfl rfl ?_
          refine sf_R_iadd pm_M222 (pc_q := 25) rfl rfl B126 sf_k1 (by decide) (by decide) (fun z141 e142 B143 => ?_)
          refine pm_R_lo pm_M222 (pc_q := 26) (ls_q := [.long a0, pm_no, .int z141, .int x3_122]) (st_q := []) rfl rfl rfl ?_
          refine sf_R_iinc pm_M222 (pc_q := 29) (ls_q := fun z => [.long a0, pm_no, .int z141, .int z]) rfl B125 rfl (by decide) (by decide) (by decide) (fun _ => rfl) rfl (fun z144 e145 B146 => ?_)
          show pm_R _ 222 29 [.long a0, pm_no, .int z141, .int z144] [] _ _
          refine pm_R_br pm_M222 (pc_q := 4) rfl rfl ?_
          exact ih_122 _ (sf_up hN_122 e145 B125 (by decide) (by decide)) z141 z144 (sf_weak B143 (by decide) (by decide)) (sf_weak B146 (by decide) (by decide)) (sf_aux1 _ _ _ _ e142 e145 B126.1 B126.2 B125.1 B125.2 R0_122) rfl
  exact L_122 _ 0 0 (sf_weak sf_k0 (by decide) (by decide)) (sf_weak sf_k0 (by decide) (by decide)) (by decide) rfl

set_option maxRecDepth 100000 in
set_option maxHeartbeats 4000000 in
/-- SilentTableModel.turned -/
theorem rf_c219 {d : Nat} {h : pm_H} {Q : Option Value → pm_H → Prop} {a0 : Int64}   (K : ∀ (r : Int64), Q (some (.long r)) h) : pm_R (d + 1) 219 0 [.long a0, pm_no, pm_no, pm_no, pm_no] [] h Q := by
  refine pm_R_op pm_M219 (pc_q := 1) (st_q := [.long 0]) rfl rfl rfl ?_
  refine pm_R_lo pm_M219 (pc_q := 2) (ls_q := [.long a0, pm_no, .long 0, pm_no, pm_no]) (st_q := []) rfl rfl rfl ?_
  refine pm_R_op pm_M219 (pc_q := 3) (st_q := [.int 0]) rfl rfl rfl ?_
  refine pm_R_lo pm_M219 (pc_q := 5) (ls_q := [.long a0, pm_no, .long 0, pm_no, .int 0]) (st_q := []) rfl rfl rfl ?_
  have L_120 : ∀ (N : Nat) (x4_120 : Int32) (y2_120 : Int64), sf_B 0 50 x4_120 → (50 - x4_120.toInt).toNat = N → pm_R (d + 1) 219 5 [.long a0, pm_no, .long y2_120, pm_no, .int x4_120] [] h Q := by
    intro N
    induction N using Nat.strongRecOn with
    | ind N ih_120 =>
      intro x4_120 y2_120 Bx4_120 hN_120
      refine pm_R_lo pm_M219 (pc_q := 7) rfl rfl rfl ?_
      refine pm_R_op pm_M219 (pc_q := 9) (st_q := [.int 50, .int x4_120]) rfl rfl rfl ?_
      refine pm_R_icmp pm_M219 (t := 41) (pc_q := 12) rfl rfl rfl (fun c121 => ?_) (fun c121 => ?_)
      · have B122 : sf_B 50 50 x4_120 := sf_leR c121 sf_k50 Bx4_120
        refine pm_R_lo pm_M219 (pc_q := 42) rfl rfl rfl ?_
        exact pm_R_ret pm_M219 (r := some (.long y2_120)) rfl rfl (K y2_120)
      · have B123 : sf_B 0 49 x4_120 := sf_ltL (Int32.not_le.mp c121) Bx4_120 sf_k50
        refine pm_R_lo pm_M219 (pc_q := 13) rfl rfl rfl ?_
        refine pm_R_lo pm_M219 (pc_q := 14) rfl rfl rfl ?_
        refine pm_R_lo pm_M219 (pc_q := 16) rfl rfl rfl ?_
        refine pm_R_cs pm_M219 (pc_q := 19) (ra := [.int x4_120, .long a0]) (rest := [.long y2_120]) (ls_q := [.long a0, pm_no, .int x4_120]) rfl rfl (Or.inl rfl) pm_M206 rfl rfl (Nat.le_of_ble_eq_true rfl) rfl rfl ?_
        refine pm_R_lo pm_M206 (pc_q := 1) rfl rfl rfl ?_
        refine pm_R_lo pm_M206 (pc_q := 2) rfl rfl rfl ?_
        refine sf_R_lany pm_M206 (pc_q := 3) (st := []) rfl rfl rfl (fun z124 => ?_)
        refine pm_R_op pm_M206 (pc_q := 4) (st_q := [.long 1, .long z124]) rfl rfl rfl ?_
        refine sf_R_lany pm_M206 (pc_q := 5) (st := []) rfl rfl rfl (fun z125 => ?_)
        refine pm_R_op pm_M206 (pc_q := 6) (st_q := [.long 1, .long z125]) rfl rfl rfl ?_
        refine sf_R_lcmp pm_M206 (pc_q := 7) rfl rfl (fun z126 e127 => ?_)
        refine pm_R_ifc pm_M206 (t := 14) (pc_q := 10) rfl rfl rfl (fun c128 => ?_) (fun c128 => ?_)
        · have k129 := sf_lneC e127 c128
          refine pm_R_op pm_M206 (pc_q := 15) (st_q := [.int 0]) rfl rfl rfl ?_
          refine pm_R_ret pm_M206 (r := some (.int 0)) rfl rfl ?_
          show pm_R _ 219 19 [.long a0, pm_no, .long y2_120, pm_no, .int x4_120] [.int 0, .long y2_120] _ _
          refine pm_R_br pm_M219 (pc_q := 32) (st_q := [.long y2_120]) rfl rfl ?_
          refine pm_R_op pm_M219 (pc_q := 33) (st_q := [.long 0, .long y2_120]) rfl rfl rfl ?_
          refine sf_R_lany pm_M219 (pc_q := 34) (st := []) rfl rfl rfl (fun z130 => ?_)
          refine pm_R_lo pm_M219 (pc_q := 35) (ls_q := [.long a0, pm_no, .long z130, pm_no, .int x4_120]) (st_q := []) rfl rfl rfl ?_
          refine sf_R_iinc pm_M219 (pc_q := 38) (ls_q := fun z => [.long a0, pm_no, .long z130, pm_no, .int z]) rfl B123 rfl (by decide) (by decide) (by decide) (fun _ => rfl) rfl (fun z131 e132 B133 => ?_)
          show pm_R _ 219 38 [.long a0, pm_no, .long z130, pm_no, .int z131] [] _ _
          refine pm_R_br pm_M219 (pc_q := 5) rfl rfl ?_
          exact ih_120 _ (sf_up hN_120 e132 B123 (by decide) (by decide)) z131 z130 (sf_weak B133 (by decide) (by decide)) rfl
        · have B134 : sf_B 0 0 z126 := sf_eqL (Classical.not_not.mp c128) sf_k0
          have B135 : lf_B 1 1 z125 := lf_eqB e127 B134 (⟨by decide, by decide⟩ : lf_B 1 1 1)
          refine pm_R_op pm_M206 (pc_q := 11) (st_q := [.int 1]) rfl rfl rfl ?_
          refine pm_R_br pm_M206 (pc_q := 15) rfl rfl ?_
          refine pm_R_ret pm_M206 (r := some (.int 1)) rfl rfl ?_
          show pm_R _ 219 19 [.long a0, pm_no, .long y2_120, pm_no, .int x4_120] [.int 1, .long y2_120] _ _
          refine pm_R_br pm_M219 (pc_q := 22) (st_q := [.long y2_120]) rfl rfl ?_
          refine pm_R_op pm_M219 (pc_q := 23) (st_q := [.long 1, .long y2_120]) rfl rfl rfl ?_
          refine pm_R_op pm_M219 (pc_q := 25) (st_q := [.int 49, .long 1, .long y2_120]) rfl rfl rfl ?_
          refine pm_R_lo pm_M219 (pc_q := 27) rfl rfl rfl ?_
          refine sf_R_isub pm_M219 (pc_q := 28) rfl rfl sf_k49 B123 (by decide) (by decide) (fun z136 e137 B138 => ?_)
          refine sf_R_lany pm_M219 (pc_q := 29) (st := [.long y2_120]) rfl rfl rfl (fun z139 => ?_)
          refine pm_R_br pm_M219 (pc_q := 33) rfl rfl ?_
          refine sf_R_lany pm_M219 (pc_q := 34) (st := []) rfl rfl rfl (fun z140 => ?_)
          refine pm_R_lo pm_M219 (pc_q := 35) (ls_q := [.long a0, pm_no, .long z140, pm_no, .int x4_120]) (st_q := []) rfl rfl rfl ?_
          refine sf_R_iinc pm_M219 (pc_q := 38) (ls_q := fun z => [.long a0, pm_no, .long z140, pm_no, .int z]) rfl B123 rfl (by decide) (by decide) (by decide) (fun _ => rfl) rfl (fun z141 e142 B143 => ?_)
          show pm_R _ 219 38 [.long a0, pm_no, .long z140, pm_no, .int z141] [] _ _
          refine pm_R_br pm_M219 (pc_q := 5) rfl rfl ?_
          exact ih_120 _ (sf_up hN_120 e142 B123 (by decide) (by decide)) z141 z140 (sf_weak B143 (by decide) (by decide)) rfl
  exact L_120 _ 0 0 (sf_weak sf_k0 (by decide) (by decide)) rfl

set_option maxRecDepth 100000 in
set_option maxHeartbeats 4000000 in
/-- SilentTableModel.made -/
theorem rf_c218 {d : Nat} {h : pm_H} {Q : Option Value → pm_H → Prop} {a0 : Int32} {a1 : Int64} {a2 : Int64}   (K : ∀ (r : Int64), Q (some (.long r)) h) : pm_R (d + 2) 218 0 [.int a0, .long a1, pm_no, .long a2, pm_no, pm_no, pm_no, pm_no] [] h Q := by
  refine pm_R_lo pm_M218 (pc_q := 1) rfl rfl rfl ?_
  refine pm_R_op pm_M218 (pc_q := 2) (st_q := [.long 0, .long a1]) rfl rfl rfl ?_
  refine sf_R_lcmp pm_M218 (pc_q := 3) rfl rfl (fun z1 e2 => ?_)
  refine pm_R_ifc pm_M218 (t := 12) (pc_q := 6) rfl rfl rfl (fun c3 => ?_) (fun c3 => ?_)
  · have B4 : sf_B 0 0 z1 := sf_eqL c3 sf_k0
    have B5 : lf_B 0 0 a1 := lf_eqB e2 B4 (⟨by decide, by decide⟩ : lf_B 0 0 0)
    refine pm_R_op pm_M218 (pc_q := 13) (st_q := [.long 0]) rfl rfl rfl ?_
    exact pm_R_ret pm_M218 (r := some (.long 0)) rfl rfl (K 0)
  · have k6 := sf_lneC e2 c3
    refine pm_R_lo pm_M218 (pc_q := 7) rfl rfl rfl ?_
    refine pm_R_op pm_M218 (pc_q := 8) (st_q := [.long 0, .long a2]) rfl rfl rfl ?_
    refine sf_R_lcmp pm_M218 (pc_q := 9) rfl rfl (fun z7 e8 => ?_)
    refine pm_R_ifc pm_M218 (t := 14) (pc_q := 12) rfl rfl rfl (fun c9 => ?_) (fun c9 => ?_)
    · have k10 := sf_lneC e8 c9
      refine pm_R_lo pm_M218 (pc_q := 15) rfl rfl rfl ?_
      refine pm_R_ifc pm_M218 (t := 23) (pc_q := 18) rfl rfl rfl (fun c11 => ?_) (fun c11 => ?_)
      · have B12 : sf_B 0 0 a0 := sf_eqL c11 sf_k0
        refine pm_R_lo pm_M218 (pc_q := 24) rfl rfl rfl ?_
        refine pm_R_ifc pm_M218 (t := 31) (pc_q := 27) rfl rfl rfl (fun c13 => absurd (sf_pt2 B12 sf_k0) c13) (fun c13 => ?_)
        refine pm_R_lo pm_M218 (pc_q := 28) rfl rfl rfl ?_
        refine pm_R_br pm_M218 (pc_q := 32) rfl rfl ?_
        exact pm_R_ret pm_M218 (r := some (.long a1)) rfl rfl (K a1)
      · skip
        refine pm_R_lo pm_M218 (pc_q := 19) rfl rfl rfl ?_
        refine pm_R_op pm_M218 (pc_q := 20) (st_q := [.int 1, .int a0]) rfl rfl rfl ?_
        refine pm_R_icmp pm_M218 (t := 33) (pc_q := 23) rfl rfl rfl (fun c14 => ?_) (fun c14 => ?_)
        · skip
          refine pm_R_lo pm_M218 (pc_q := 34) rfl rfl rfl ?_
          refine pm_R_op pm_M218 (pc_q := 35) (st_q := [.int 4, .int a0]) rfl rfl rfl ?_
          refine pm_R_icmp pm_M218 (t := 43) (pc_q := 38) rfl rfl rfl (fun c15 => ?_) (fun c15 => ?_)
          · skip
            refine pm_R_op pm_M218 (pc_q := 44) (st_q := [.long 0]) rfl rfl rfl ?_
            refine pm_R_lo pm_M218 (pc_q := 46) (ls_q := [.int a0, .long a1, pm_no, .long a2, pm_no, .long 0, pm_no, pm_no]) (st_q := []) rfl rfl rfl ?_
            refine pm_R_op pm_M218 (pc_q := 47) (st_q := [.int 0]) rfl rfl rfl ?_
            refine pm_R_lo pm_M218 (pc_q := 49) (ls_q := [.int a0, .long a1, pm_no, .long a2, pm_no, .long 0, pm_no, .int 0]) (st_q := []) rfl rfl rfl ?_
            have L_284 : ∀ (N : Nat) (x7_284 : Int32) (y5_284 : Int64), sf_B 0 50 x7_284 → (50 - x7_284.toInt).toNat = N → pm_R (d + 2) 218 49 [.int a0, .long a1, pm_no, .long a2, pm_no, .long y5_284, pm_no, .int x7_284] [] h Q := by
              intro N
              induction N using Nat.strongRecOn with
              | ind N ih_284 =>
                intro x7_284 y5_284 Bx7_284 hN_284
                refine pm_R_lo pm_M218 (pc_q := 51) rfl rfl rfl ?_
                refine pm_R_op pm_M218 (pc_q := 53) (st_q := [.int 50, .int x7_284]) rfl rfl rfl ?_
                refine pm_R_icmp pm_M218 (t := 104) (pc_q := 56) rfl rfl rfl (fun c285 => ?_) (fun c285 => ?_)
                · have B286 : sf_B 50 50 x7_284 := sf_leR c285 sf_k50 Bx7_284
                  refine pm_R_lo pm_M218 (pc_q := 106) rfl rfl rfl ?_
                  exact pm_R_ret pm_M218 (r := some (.long y5_284)) rfl rfl (K y5_284)
                · have B287 : sf_B 0 49 x7_284 := sf_ltL (Int32.not_le.mp c285) Bx7_284 sf_k50
                  refine pm_R_lo pm_M218 (pc_q := 58) rfl rfl rfl ?_
                  refine pm_R_lo pm_M218 (pc_q := 59) rfl rfl rfl ?_
                  refine pm_R_lo pm_M218 (pc_q := 61) rfl rfl rfl ?_
                  refine pm_R_cs pm_M218 (pc_q := 64) (ra := [.int x7_284, .long a2]) (rest := [.long y5_284]) (ls_q := [.long a2, pm_no, .int x7_284]) rfl rfl (Or.inl rfl) pm_M206 rfl rfl (Nat.le_of_ble_eq_true rfl) rfl rfl ?_
                  refine pm_R_lo pm_M206 (pc_q := 1) rfl rfl rfl ?_
                  refine pm_R_lo pm_M206 (pc_q := 2) rfl rfl rfl ?_
                  refine sf_R_lany pm_M206 (pc_q := 3) (st := []) rfl rfl rfl (fun z288 => ?_)
                  refine pm_R_op pm_M206 (pc_q := 4) (st_q := [.long 1, .long z288]) rfl rfl rfl ?_
                  refine sf_R_lany pm_M206 (pc_q := 5) (st := []) rfl rfl rfl (fun z289 => ?_)
                  refine pm_R_op pm_M206 (pc_q := 6) (st_q := [.long 1, .long z289]) rfl rfl rfl ?_
                  refine sf_R_lcmp pm_M206 (pc_q := 7) rfl rfl (fun z290 e291 => ?_)
                  refine pm_R_ifc pm_M206 (t := 14) (pc_q := 10) rfl rfl rfl (fun c292 => ?_) (fun c292 => ?_)
                  · have k293 := sf_lneC e291 c292
                    refine pm_R_op pm_M206 (pc_q := 15) (st_q := [.int 0]) rfl rfl rfl ?_
                    refine pm_R_ret pm_M206 (r := some (.int 0)) rfl rfl ?_
                    show pm_R _ 218 64 [.int a0, .long a1, pm_no, .long a2, pm_no, .long y5_284, pm_no, .int x7_284] [.int 0, .long y5_284] _ _
                    refine pm_R_br pm_M218 (pc_q := 94) (st_q := [.long y5_284]) rfl rfl ?_
                    refine pm_R_op pm_M218 (pc_q := 95) (st_q := [.long 0, .long y5_284]) rfl rfl rfl ?_
                    refine sf_R_lany pm_M218 (pc_q := 96) (st := []) rfl rfl rfl (fun z294 => ?_)
                    refine pm_R_lo pm_M218 (pc_q := 98) (ls_q := [.int a0, .long a1, pm_no, .long a2, pm_no, .long z294, pm_no, .int x7_284]) (st_q := []) rfl rfl rfl ?_
                    refine sf_R_iinc pm_M218 (pc_q := 101) (ls_q := fun z => [.int a0, .long a1, pm_no, .long a2, pm_no, .long z294, pm_no, .int z]) rfl B287 rfl (by decide) (by decide) (by decide) (fun _ => rfl) rfl (fun z295 e296 B297 => ?_)
                    show pm_R _ 218 101 [.int a0, .long a1, pm_no, .long a2, pm_no, .long z294, pm_no, .int z295] [] _ _
                    refine pm_R_br pm_M218 (pc_q := 49) rfl rfl ?_
                    exact ih_284 _ (sf_up hN_284 e296 B287 (by decide) (by decide)) z295 z294 (sf_weak B297 (by decide) (by decide)) rfl
                  · have B298 : sf_B 0 0 z290 := sf_eqL (Classical.not_not.mp c292) sf_k0
                    have B299 : lf_B 1 1 z289 := lf_eqB e291 B298 (⟨by decide, by decide⟩ : lf_B 1 1 1)
                    refine pm_R_op pm_M206 (pc_q := 11) (st_q := [.int 1]) rfl rfl rfl ?_
                    refine pm_R_br pm_M206 (pc_q := 15) rfl rfl ?_
                    refine pm_R_ret pm_M206 (r := some (.int 1)) rfl rfl ?_
                    show pm_R _ 218 64 [.int a0, .long a1, pm_no, .long a2, pm_no, .long y5_284, pm_no, .int x7_284] [.int 1, .long y5_284] _ _
                    refine pm_R_br pm_M218 (pc_q := 67) (st_q := [.long y5_284]) rfl rfl ?_
                    refine pm_R_lo pm_M218 (pc_q := 68) rfl rfl rfl ?_
                    refine pm_R_lo pm_M218 (pc_q := 69) rfl rfl rfl ?_
                    refine pm_R_op pm_M218 (pc_q := 70) (st_q := [.int 2, .int a0, .long a1, .long y5_284]) rfl rfl rfl ?_
                    refine pm_R_icmp pm_M218 (t := 78) (pc_q := 73) rfl rfl rfl (fun c300 => ?_) (fun c300 => ?_)
                    · have B301 : sf_B 2 2 a0 := sf_eqL c300 sf_k2
                      refine pm_R_lo pm_M218 (pc_q := 80) rfl rfl rfl ?_
                      refine pm_R_br pm_M218 (pc_q := 88) rfl rfl ?_
                      refine pm_R_cs pm_M218 (pc_q := 91) (ra := [.int x7_284, .long a1]) (rest := [.long y5_284]) (ls_q := [.long a1, pm_no, .int x7_284]) rfl rfl (Or.inl rfl) pm_M220 rfl rfl (Nat.le_of_ble_eq_true rfl) rfl rfl ?_
                      refine pm_R_lo pm_M220 (pc_q := 1) rfl rfl rfl ?_
                      refine pm_R_lo pm_M220 (pc_q := 2) rfl rfl rfl ?_
                      refine sf_R_lany pm_M220 (pc_q := 3) (st := []) rfl rfl rfl (fun z302 => ?_)
                      refine pm_R_lo pm_M220 (pc_q := 4) rfl rfl rfl ?_
                      refine pm_R_op pm_M220 (pc_q := 6) (st_q := [.int 50, .long a1, .long z302]) rfl rfl rfl ?_
                      refine pm_R_lo pm_M220 (pc_q := 7) rfl rfl rfl ?_
                      refine sf_R_isub pm_M220 (pc_q := 8) rfl rfl sf_k50 B287 (by decide) (by decide) (fun z303 e304 B305 => ?_)
                      refine sf_R_lany pm_M220 (pc_q := 9) (st := [.long z302]) rfl rfl rfl (fun z306 => ?_)
                      refine sf_R_lany pm_M220 (pc_q := 10) (st := []) rfl rfl rfl (fun z307 => ?_)
                      refine pm_R_ldc2 pm_M220 (pc_q := 13) rfl rfl rfl ?_
                      refine sf_R_lany pm_M220 (pc_q := 14) (st := []) rfl rfl rfl (fun z308 => ?_)
                      refine pm_R_ret pm_M220 (r := some (.long z308)) rfl rfl ?_
                      show pm_R _ 218 91 [.int a0, .long a1, pm_no, .long a2, pm_no, .long y5_284, pm_no, .int x7_284] [.long z308, .long y5_284] _ _
                      refine pm_R_br pm_M218 (pc_q := 95) rfl rfl ?_
                      refine sf_R_lany pm_M218 (pc_q := 96) (st := []) rfl rfl rfl (fun z309 => ?_)
                      refine pm_R_lo pm_M218 (pc_q := 98) (ls_q := [.int a0, .long a1, pm_no, .long a2, pm_no, .long z309, pm_no, .int x7_284]) (st_q := []) rfl rfl rfl ?_
                      refine sf_R_iinc pm_M218 (pc_q := 101) (ls_q := fun z => [.int a0, .long a1, pm_no, .long a2, pm_no, .long z309, pm_no, .int z]) rfl B287 rfl (by decide) (by decide) (by decide) (fun _ => rfl) rfl (fun z310 e311 B312 => ?_)
                      show pm_R _ 218 101 [.int a0, .long a1, pm_no, .long a2, pm_no, .long z309, pm_no, .int z310] [] _ _
                      refine pm_R_br pm_M218 (pc_q := 49) rfl rfl ?_
                      exact ih_284 _ (sf_up hN_284 e311 B287 (by decide) (by decide)) z310 z309 (sf_weak B312 (by decide) (by decide)) rfl
                    · skip
                      refine pm_R_lo pm_M218 (pc_q := 75) rfl rfl rfl ?_
                      refine pm_R_ifc pm_M218 (t := 83) (pc_q := 78) rfl rfl rfl (fun c313 => ?_) (fun c313 => ?_)
                      · have B314 : sf_B 1 49 x7_284 := sf_neL0 c313 sf_k0 B287
                        refine pm_R_op pm_M218 (pc_q := 85) (st_q := [.int 50, .long a1, .long y5_284]) rfl rfl rfl ?_
                        refine pm_R_lo pm_M218 (pc_q := 87) rfl rfl rfl ?_
                        refine sf_R_isub pm_M218 (pc_q := 88) rfl rfl sf_k50 B314 (by decide) (by decide) (fun z315 e316 B317 => ?_)
                        refine pm_R_cs pm_M218 (pc_q := 91) (ra := [.int z315, .long a1]) (rest := [.long y5_284]) (ls_q := [.long a1, pm_no, .int z315]) rfl rfl (Or.inl rfl) pm_M220 rfl rfl (Nat.le_of_ble_eq_true rfl) rfl rfl ?_
                        refine pm_R_lo pm_M220 (pc_q := 1) rfl rfl rfl ?_
                        refine pm_R_lo pm_M220 (pc_q := 2) rfl rfl rfl ?_
                        refine sf_R_lany pm_M220 (pc_q := 3) (st := []) rfl rfl rfl (fun z318 => ?_)
                        refine pm_R_lo pm_M220 (pc_q := 4) rfl rfl rfl ?_
                        refine pm_R_op pm_M220 (pc_q := 6) (st_q := [.int 50, .long a1, .long z318]) rfl rfl rfl ?_
                        refine pm_R_lo pm_M220 (pc_q := 7) rfl rfl rfl ?_
                        refine sf_R_isub pm_M220 (pc_q := 8) rfl rfl sf_k50 B317 (by decide) (by decide) (fun z319 e320 B321 => ?_)
                        refine sf_R_lany pm_M220 (pc_q := 9) (st := [.long z318]) rfl rfl rfl (fun z322 => ?_)
                        refine sf_R_lany pm_M220 (pc_q := 10) (st := []) rfl rfl rfl (fun z323 => ?_)
                        refine pm_R_ldc2 pm_M220 (pc_q := 13) rfl rfl rfl ?_
                        refine sf_R_lany pm_M220 (pc_q := 14) (st := []) rfl rfl rfl (fun z324 => ?_)
                        refine pm_R_ret pm_M220 (r := some (.long z324)) rfl rfl ?_
                        show pm_R _ 218 91 [.int a0, .long a1, pm_no, .long a2, pm_no, .long y5_284, pm_no, .int x7_284] [.long z324, .long y5_284] _ _
                        refine pm_R_br pm_M218 (pc_q := 95) rfl rfl ?_
                        refine sf_R_lany pm_M218 (pc_q := 96) (st := []) rfl rfl rfl (fun z325 => ?_)
                        refine pm_R_lo pm_M218 (pc_q := 98) (ls_q := [.int a0, .long a1, pm_no, .long a2, pm_no, .long z325, pm_no, .int x7_284]) (st_q := []) rfl rfl rfl ?_
                        refine sf_R_iinc pm_M218 (pc_q := 101) (ls_q := fun z => [.int a0, .long a1, pm_no, .long a2, pm_no, .long z325, pm_no, .int z]) rfl B314 rfl (by decide) (by decide) (by decide) (fun _ => rfl) rfl (fun z326 e327 B328 => ?_)
                        show pm_R _ 218 101 [.int a0, .long a1, pm_no, .long a2, pm_no, .long z325, pm_no, .int z326] [] _ _
                        refine pm_R_br pm_M218 (pc_q := 49) rfl rfl ?_
                        exact ih_284 _ (sf_up hN_284 e327 B314 (by decide) (by decide)) z326 z325 (sf_weak B328 (by decide) (by decide)) rfl
                      · have B329 : sf_B 0 0 x7_284 := sf_eqL (Classical.not_not.mp c313) sf_k0
                        refine pm_R_lo pm_M218 (pc_q := 80) rfl rfl rfl ?_
                        refine pm_R_br pm_M218 (pc_q := 88) rfl rfl ?_
                        refine pm_R_cs pm_M218 (pc_q := 91) (ra := [.int x7_284, .long a1]) (rest := [.long y5_284]) (ls_q := [.long a1, pm_no, .int x7_284]) rfl rfl (Or.inl rfl) pm_M220 rfl rfl (Nat.le_of_ble_eq_true rfl) rfl rfl ?_
                        refine pm_R_lo pm_M220 (pc_q := 1) rfl rfl rfl ?_
                        refine pm_R_lo pm_M220 (pc_q := 2) rfl rfl rfl ?_
                        refine sf_R_lany pm_M220 (pc_q := 3) (st := []) rfl rfl rfl (fun z330 => ?_)
                        refine pm_R_lo pm_M220 (pc_q := 4) rfl rfl rfl ?_
                        refine pm_R_op pm_M220 (pc_q := 6) (st_q := [.int 50, .long a1, .long z330]) rfl rfl rfl ?_
                        refine pm_R_lo pm_M220 (pc_q := 7) rfl rfl rfl ?_
                        refine sf_R_isub pm_M220 (pc_q := 8) rfl rfl sf_k50 B329 (by decide) (by decide) (fun z331 e332 B333 => ?_)
                        refine sf_R_lany pm_M220 (pc_q := 9) (st := [.long z330]) rfl rfl rfl (fun z334 => ?_)
                        refine sf_R_lany pm_M220 (pc_q := 10) (st := []) rfl rfl rfl (fun z335 => ?_)
                        refine pm_R_ldc2 pm_M220 (pc_q := 13) rfl rfl rfl ?_
                        refine sf_R_lany pm_M220 (pc_q := 14) (st := []) rfl rfl rfl (fun z336 => ?_)
                        refine pm_R_ret pm_M220 (r := some (.long z336)) rfl rfl ?_
                        show pm_R _ 218 91 [.int a0, .long a1, pm_no, .long a2, pm_no, .long y5_284, pm_no, .int x7_284] [.long z336, .long y5_284] _ _
                        refine pm_R_br pm_M218 (pc_q := 95) rfl rfl ?_
                        refine sf_R_lany pm_M218 (pc_q := 96) (st := []) rfl rfl rfl (fun z337 => ?_)
                        refine pm_R_lo pm_M218 (pc_q := 98) (ls_q := [.int a0, .long a1, pm_no, .long a2, pm_no, .long z337, pm_no, .int x7_284]) (st_q := []) rfl rfl rfl ?_
                        refine sf_R_iinc pm_M218 (pc_q := 101) (ls_q := fun z => [.int a0, .long a1, pm_no, .long a2, pm_no, .long z337, pm_no, .int z]) rfl B329 rfl (by decide) (by decide) (by decide) (fun _ => rfl) rfl (fun z338 e339 B340 => ?_)
                        show pm_R _ 218 101 [.int a0, .long a1, pm_no, .long a2, pm_no, .long z337, pm_no, .int z338] [] _ _
                        refine pm_R_br pm_M218 (pc_q := 49) rfl rfl ?_
                        exact ih_284 _ (sf_up hN_284 e339 B329 (by decide) (by decide)) z338 z337 (sf_weak B340 (by decide) (by decide)) rfl
            exact L_284 _ 0 0 (sf_weak sf_k0 (by decide) (by decide)) rfl
          · have B341 : sf_B 4 4 a0 := sf_eqL (Classical.not_not.mp c15) sf_k4
            refine pm_R_lo pm_M218 (pc_q := 39) rfl rfl rfl ?_
            refine pm_R_cs pm_M218 (pc_q := 42) (ra := [.long a2]) (rest := []) (ls_q := [.long a2, pm_no, pm_no, pm_no, pm_no]) rfl rfl (Or.inl rfl) pm_M219 rfl rfl (Nat.le_of_ble_eq_true rfl) rfl rfl ?_
            refine rf_c219 (d := d + 0)  (fun r342 => ?_)
            show pm_R _ 218 42 [.int a0, .long a1, pm_no, .long a2, pm_no, pm_no, pm_no, pm_no] [.long r342] _ _
            exact pm_R_ret pm_M218 (r := some (.long r342)) rfl rfl (K r342)
        · have B350 : sf_B 1 1 a0 := sf_eqL (Classical.not_not.mp c14) sf_k1
          refine pm_R_lo pm_M218 (pc_q := 24) rfl rfl rfl ?_
          refine pm_R_ifc pm_M218 (t := 31) (pc_q := 27) rfl rfl rfl (fun c351 => ?_) (fun c351 => absurd (Classical.not_not.mp c351) (sf_neq1 B350 sf_k0 (by decide)))
          skip
          refine pm_R_lo pm_M218 (pc_q := 32) rfl rfl rfl ?_
          exact pm_R_ret pm_M218 (r := some (.long a2)) rfl rfl (K a2)
    · have B352 : sf_B 0 0 z7 := sf_eqL (Classical.not_not.mp c9) sf_k0
      have B353 : lf_B 0 0 a2 := lf_eqB e8 B352 (⟨by decide, by decide⟩ : lf_B 0 0 0)
      refine pm_R_op pm_M218 (pc_q := 13) (st_q := [.long 0]) rfl rfl rfl ?_
      exact pm_R_ret pm_M218 (r := some (.long 0)) rfl rfl (K 0)

set_option maxRecDepth 100000 in
set_option maxHeartbeats 4000000 in
/-- SilentTableModel.tell -/
theorem rf_c221 {d : Nat} {h : pm_H} {Q : Option Value → pm_H → Prop} {a0 : Int64} {a1 : Int32}   (K : ∀ (r : Int32), sf_B (-2) 50 r → Q (some (.int r)) h) : pm_R (d + 2) 221 0 [.long a0, pm_no, .int a1, pm_no, pm_no] [] h Q := by
  refine pm_R_lo pm_M221 (pc_q := 1) rfl rfl rfl ?_
  refine pm_R_op pm_M221 (pc_q := 2) (st_q := [.int (-1), .int a1]) rfl rfl rfl ?_
  refine pm_R_icmp pm_M221 (t := 10) (pc_q := 5) rfl rfl rfl (fun c1 => ?_) (fun c1 => ?_)
  · skip
    refine pm_R_lo pm_M221 (pc_q := 11) rfl rfl rfl ?_
    refine pm_R_lo pm_M221 (pc_q := 12) (ls_q := [.long a0, pm_no, .int a1, .int a1, pm_no]) (st_q := []) rfl rfl rfl ?_
    refine pm_R_op pm_M221 (pc_q := 13) (st_q := [.int 0]) rfl rfl rfl ?_
    refine pm_R_lo pm_M221 (pc_q := 15) (ls_q := [.long a0, pm_no, .int a1, .int a1, .int 0]) (st_q := []) rfl rfl rfl ?_
    have L_121 : ∀ (N : Nat) (x3_121 : Int32) (x4_121 : Int32), sf_B (-2147483648) 2147483647 x3_121 → sf_B 0 50 x4_121 → (50 - x4_121.toInt).toNat = N → pm_R (d + 2) 221 15 [.long a0, pm_no, .int a1, .int x3_121, .int x4_121] [] h Q := by
      intro N
      induction N using Nat.strongRecOn with
      | ind N ih_121 =>
        intro x3_121 x4_121 Bx3_121 Bx4_121 hN_121
        refine pm_R_lo pm_M221 (pc_q := 17) rfl rfl rfl ?_
        refine pm_R_op pm_M221 (pc_q := 19) (st_q := [.int 50, .int x4_121]) rfl rfl rfl ?_
        refine pm_R_icmp pm_M221 (t := 51) (pc_q := 22) rfl rfl rfl (fun c122 => ?_) (fun c122 => ?_)
        · have B123 : sf_B 50 50 x4_121 := sf_leR c122 sf_k50 Bx4_121
          refine pm_R_op pm_M221 (pc_q := 53) (st_q := [.int (-2)]) rfl rfl rfl ?_
          exact pm_R_ret pm_M221 (r := some (.int (-2))) rfl rfl (K (-2) (sf_weak sf_kn2 (by decide) (by decide)))
        · have B124 : sf_B 0 49 x4_121 := sf_ltL (Int32.not_le.mp c122) Bx4_121 sf_k50
          refine pm_R_lo pm_M221 (pc_q := 23) rfl rfl rfl ?_
          refine pm_R_ifc pm_M221 (t := 51) (pc_q := 26) rfl rfl rfl (fun c125 => ?_) (fun c125 => ?_)
          · have B126 : sf_B (-2147483648) (-1) a1 := sf_ltL c125 (sf_any a1) sf_k0
            refine pm_R_op pm_M221 (pc_q := 53) (st_q := [.int (-2)]) rfl rfl rfl ?_
            exact pm_R_ret pm_M221 (r := some (.int (-2))) rfl rfl (K (-2) (sf_weak sf_kn2 (by decide) (by decide)))
          · have B127 : sf_B 0 2147483647 a1 := sf_leR (Int32.not_lt.mp c125) sf_k0 (sf_any a1)
            refine pm_R_lo pm_M221 (pc_q := 27) rfl rfl rfl ?_
            refine pm_R_lo pm_M221 (pc_q := 29) rfl rfl rfl ?_
            refine pm_R_cs pm_M221 (pc_q := 32) (ra := [.int x4_121, .long a0]) (rest := []) (ls_q := [.long a0, pm_no, .int x4_121]) rfl rfl (Or.inl rfl) pm_M206 rfl rfl (Nat.le_of_ble_eq_true rfl) rfl rfl ?_
            refine pm_R_lo pm_M206 (pc_q := 1) rfl rfl rfl ?_
            refine pm_R_lo pm_M206 (pc_q := 2) rfl rfl rfl ?_
            refine sf_R_lany pm_M206 (pc_q := 3) (st := []) rfl rfl rfl (fun z128 => ?_)
            refine pm_R_op pm_M206 (pc_q := 4) (st_q := [.long 1, .long z128]) rfl rfl rfl ?_
            refine sf_R_lany pm_M206 (pc_q := 5) (st := []) rfl rfl rfl (fun z129 => ?_)
            refine pm_R_op pm_M206 (pc_q := 6) (st_q := [.long 1, .long z129]) rfl rfl rfl ?_
            refine sf_R_lcmp pm_M206 (pc_q := 7) rfl rfl (fun z130 e131 => ?_)
            refine pm_R_ifc pm_M206 (t := 14) (pc_q := 10) rfl rfl rfl (fun c132 => ?_) (fun c132 => ?_)
            · have k133 := sf_lneC e131 c132
              refine pm_R_op pm_M206 (pc_q := 15) (st_q := [.int 0]) rfl rfl rfl ?_
              refine pm_R_ret pm_M206 (r := some (.int 0)) rfl rfl ?_
              show pm_R _ 221 32 [.long a0, pm_no, .int a1, .int x3_121, .int x4_121] [.int 0] _ _
              refine pm_R_br pm_M221 (pc_q := 45) (st_q := []) rfl rfl ?_
              refine sf_R_iinc pm_M221 (pc_q := 48) (ls_q := fun z => [.long a0, pm_no, .int a1, .int x3_121, .int z]) rfl B124 rfl (by decide) (by decide) (by decide) (fun _ => rfl) rfl (fun z134 e135 B136 => ?_)
              show pm_R _ 221 48 [.long a0, pm_no, .int a1, .int x3_121, .int z134] [] _ _
              refine pm_R_br pm_M221 (pc_q := 15) rfl rfl ?_
              exact ih_121 _ (sf_up hN_121 e135 B124 (by decide) (by decide)) x3_121 z134 Bx3_121 (sf_weak B136 (by decide) (by decide)) rfl
            · have B137 : sf_B 0 0 z130 := sf_eqL (Classical.not_not.mp c132) sf_k0
              have B138 : lf_B 1 1 z129 := lf_eqB e131 B137 (⟨by decide, by decide⟩ : lf_B 1 1 1)
              refine pm_R_op pm_M206 (pc_q := 11) (st_q := [.int 1]) rfl rfl rfl ?_
              refine pm_R_br pm_M206 (pc_q := 15) rfl rfl ?_
              refine pm_R_ret pm_M206 (r := some (.int 1)) rfl rfl ?_
              show pm_R _ 221 32 [.long a0, pm_no, .int a1, .int x3_121, .int x4_121] [.int 1] _ _
              refine pm_R_br pm_M221 (pc_q := 35) (st_q := []) rfl rfl ?_
              refine pm_R_lo pm_M221 (pc_q := 36) rfl rfl rfl ?_
              refine pm_R_ifc pm_M221 (t := 42) (pc_q := 39) rfl rfl rfl (fun c139 => ?_) (fun c139 => ?_)
              · skip
                refine sf_R_iincA pm_M221 (pc_q := 45) (ls_q := fun z => [.long a0, pm_no, .int a1, .int z, .int x4_121]) rfl rfl (fun _ => rfl) rfl (fun z140 => ?_)
                show pm_R _ 221 45 [.long a0, pm_no, .int a1, .int z140, .int x4_121] [] _ _
                refine sf_R_iinc pm_M221 (pc_q := 48) (ls_q := fun z => [.long a0, pm_no, .int a1, .int z140, .int z]) rfl B124 rfl (by decide) (by decide) (by decide) (fun _ => rfl) rfl (fun z141 e142 B143 => ?_)
                show pm_R _ 221 48 [.long a0, pm_no, .int a1, .int z140, .int z141] [] _ _
                refine pm_R_br pm_M221 (pc_q := 15) rfl rfl ?_
                exact ih_121 _ (sf_up hN_121 e142 B124 (by decide) (by decide)) z140 z141 (sf_any z140) (sf_weak B143 (by decide) (by decide)) rfl
              · have B144 : sf_B 0 0 x3_121 := sf_eqL (Classical.not_not.mp c139) sf_k0
                refine pm_R_lo pm_M221 (pc_q := 41) rfl rfl rfl ?_
                exact pm_R_ret pm_M221 (r := some (.int x4_121)) rfl (pm_ret_i _) (K x4_121 (sf_weak B124 (by decide) (by decide)))
    exact L_121 _ a1 0 (sf_any a1) (sf_weak sf_k0 (by decide) (by decide)) rfl
  · have B145 : sf_B (-1) (-1) a1 := sf_eqL (Classical.not_not.mp c1) sf_kn1
    refine pm_R_lo pm_M221 (pc_q := 6) rfl rfl rfl ?_
    refine pm_R_cs pm_M221 (pc_q := 9) (ra := [.long a0]) (rest := []) (ls_q := [.long a0, pm_no, pm_no, pm_no]) rfl rfl (Or.inl rfl) pm_M222 rfl rfl (Nat.le_of_ble_eq_true rfl) rfl rfl ?_
    refine rf_c222 (d := d + 0)  (fun r146 B147 => ?_)
    show pm_R _ 221 9 [.long a0, pm_no, .int a1, pm_no, pm_no] [.int r146] _ _
    exact pm_R_ret pm_M221 (r := some (.int r146)) rfl (pm_ret_i _) (K r146 (sf_weak B147 (by decide) (by decide)))

set_option maxRecDepth 100000 in
set_option maxHeartbeats 4000000 in
/-- SilentTableModel.rowsOf -/
theorem rf_c242 {d : Nat} {h : pm_H} {Q : Option Value → pm_H → Prop} {a0 : Int32}  (Ba0 : sf_B 0 4 a0) (K : ∀ (r : Int32), Q (some (.int r)) h) : pm_R (d + 0) 242 0 [.int a0, pm_no, pm_no] [] h Q := by
  refine pm_R_op pm_M242 (pc_q := 1) (st_q := [.int 1]) rfl rfl rfl ?_
  refine pm_R_lo pm_M242 (pc_q := 2) (ls_q := [.int a0, .int 1, pm_no]) (st_q := []) rfl rfl rfl ?_
  refine pm_R_op pm_M242 (pc_q := 3) (st_q := [.int 0]) rfl rfl rfl ?_
  refine pm_R_lo pm_M242 (pc_q := 4) (ls_q := [.int a0, .int 1, .int 0]) (st_q := []) rfl rfl rfl ?_
  have L_59 : ∀ (N : Nat) (x1_59 : Int32) (x2_59 : Int32), sf_B (-2147483648) 2147483647 x1_59 → sf_B 0 4 x2_59 → (4 - x2_59.toInt).toNat = N → pm_R (d + 0) 242 4 [.int a0, .int x1_59, .int x2_59] [] h Q := by
    intro N
    induction N using Nat.strongRecOn with
    | ind N ih_59 =>
      intro x1_59 x2_59 Bx1_59 Bx2_59 hN_59
      refine pm_R_lo pm_M242 (pc_q := 5) rfl rfl rfl ?_
      refine pm_R_lo pm_M242 (pc_q := 6) rfl rfl rfl ?_
      refine pm_R_icmp pm_M242 (t := 20) (pc_q := 9) rfl rfl rfl (fun c60 => ?_) (fun c60 => ?_)
      · skip
        refine pm_R_lo pm_M242 (pc_q := 21) rfl rfl rfl ?_
        exact pm_R_ret pm_M242 (r := some (.int x1_59)) rfl (pm_ret_i _) (K x1_59)
      · have B61 : sf_B 0 3 x2_59 := sf_ltL (Int32.not_le.mp c60) Bx2_59 Ba0
        have B62 : sf_B 1 4 a0 := sf_ltR (Int32.not_le.mp c60) Bx2_59 Ba0
        refine pm_R_lo pm_M242 (pc_q := 10) rfl rfl rfl ?_
        refine pm_R_op pm_M242 (pc_q := 12) (st_q := [.int 10, .int x1_59]) rfl rfl rfl ?_
        refine sf_R_iany pm_M242 (pc_q := 13) (st := []) rfl rfl rfl (fun z66 => ?_)
        refine pm_R_lo pm_M242 (pc_q := 14) (ls_q := [.int a0, .int z66, .int x2_59]) (st_q := []) rfl rfl rfl ?_
        refine sf_R_iinc pm_M242 (pc_q := 17) (ls_q := fun z => [.int a0, .int z66, .int z]) rfl B61 rfl (by decide) (by decide) (by decide) (fun _ => rfl) rfl (fun z67 e68 B69 => ?_)
        show pm_R _ 242 17 [.int a0, .int z66, .int z67] [] _ _
        refine pm_R_br pm_M242 (pc_q := 4) rfl rfl ?_
        exact ih_59 _ (sf_up hN_59 e68 B61 (by decide) (by decide)) z66 z67 (sf_any z66) (sf_weak B69 (by decide) (by decide)) rfl
  exact L_59 _ 1 0 (sf_weak sf_k1 (by decide) (by decide)) (sf_weak sf_k0 (by decide) (by decide)) rfl

theorem sf_aux2 (v0 v1 : Int) (q0 : v0 = 100 * v1) : v0 = 100 * v1 + 0 := by omega
theorem sf_aux3 (v0 v1 v2 v3 v4 v5 v6 : Int) (q0 : v0 = 100 * v1) (q1 : v2 = v0 + 2) (q2 : v3 = 4 * v4) (q3 : v5 = v2 + v3) (q4 : v6 = v5 + 0) : v6 = 100 * v1 + 4 * v4 + 2 := by omega
theorem sf_aux4 (v0 v1 v2 v3 v4 v5 v6 : Int) (q0 : v0 = 100 * v1) (q1 : v2 = v0 + 2) (q2 : v3 = 4 * v4) (q3 : v5 = v2 + v3) (q4 : v6 = v5 + 3) : v6 = 100 * v1 + 4 * v4 + 5 := by omega
theorem sf_aux5 (v0 v1 v2 v3 v4 v5 v6 : Int) (q0 : v0 = 100 * v1) (q1 : v2 = v0 + 2) (q2 : v3 = 4 * v4) (q3 : v5 = v2 + v3) (q4 : v6 = v5 + 1) : v6 = 100 * v1 + 4 * v4 + 3 := by omega
theorem sf_aux6 (v0 v1 v2 v3 v4 v5 v6 : Int) (q0 : v0 = 100 * v1) (q1 : v2 = v0 + 2) (q2 : v3 = 4 * v4) (q3 : v5 = v2 + v3) (q4 : v6 = v5 + 2) : v6 = 100 * v1 + 4 * v4 + 4 := by omega
set_option maxRecDepth 100000 in
set_option maxHeartbeats 4000000 in
/-- SilentTableModel.valuesOf -/
theorem rf_c217 {d : Nat} {m : Nat → Int32} {w : Int64} {h : pm_H} {Q : Option Value → pm_H → Prop} {a0 : Int32} {a1 : Int32} {a2 : Int32} (T : rf_T m w h) (Ba0 : sf_B 0 5 a0) (Ba1 : sf_B 0 11 a1) (Ba2 : sf_B 0 11 a2) (K : ∀ (r : Int64), Q (some (.long r)) h) : pm_R (d + 3) 217 0 [.ref 41, .int a0, .int a1, .int a2, pm_no, pm_no, pm_no, pm_no] [] h Q := by
  refine pm_R_op pm_M217 (pc_q := 1) (st_q := [.long 0]) rfl rfl rfl ?_
  refine pm_R_lo pm_M217 (pc_q := 3) (ls_q := [.ref 41, .int a0, .int a1, .int a2, .long 0, pm_no, pm_no, pm_no]) (st_q := []) rfl rfl rfl ?_
  refine pm_R_op pm_M217 (pc_q := 4) (st_q := [.int 0]) rfl rfl rfl ?_
  refine pm_R_lo pm_M217 (pc_q := 6) (ls_q := [.ref 41, .int a0, .int a1, .int a2, .long 0, pm_no, .int 0, pm_no]) (st_q := []) rfl rfl rfl ?_
  have L_1131 : ∀ (N : Nat) (x6_1131 : Int32) (y4_1131 : Int64) (g7_1131 : Value), sf_B 0 10 x6_1131 → g7_1131.category = 1 → (10 - x6_1131.toInt).toNat = N → pm_R (d + 3) 217 6 [.ref 41, .int a0, .int a1, .int a2, .long y4_1131, pm_no, .int x6_1131, g7_1131] [] h Q := by
    intro N
    induction N using Nat.strongRecOn with
    | ind N ih_1131 =>
      intro x6_1131 y4_1131 g7_1131 Bx6_1131 Cg7_1131 hN_1131
      refine pm_R_lo pm_M217 (pc_q := 8) rfl rfl rfl ?_
      refine pm_R_lo pm_M217 (pc_q := 9) rfl rfl rfl ?_
      refine pm_R_cv pm_M217 (pc_q := 12) (a := 41) (ra := []) (rest := [.int x6_1131]) (ls_q := [.ref 41]) rfl rfl (Or.inl rfl) pm_M209 T.2.1 rfl (by decide) (Nat.lt_of_lt_of_le (by decide) T.1) rfl rfl (Nat.le_of_ble_eq_true rfl) rfl rfl ?_
      refine pm_R_lo pm_M209 (pc_q := 1) rfl rfl rfl ?_
      refine rf_R_get pm_M209 T (pc_q := 4) (v := .ref 47) rfl rfl rfl rfl ?_
      refine pm_R_op pm_M209 (pc_q := 6) (st_q := [.int 100, .ref 47]) rfl rfl rfl ?_
      refine pm_R_lo pm_M209 (pc_q := 7) rfl rfl rfl ?_
      have B1132 : sf_B 0 1 (m 23) := T.2.2.1 23
      refine rf_R_get pm_M209 T (pc_q := 10) (v := .int (m 23)) rfl rfl rfl rfl ?_
      refine sf_R_imul pm_M209 (pc_q := 11) rfl rfl sf_k100 B1132 (by decide) (by decide) (by decide) (fun z1133 e1134 B1135 => ?_)
      obtain ⟨f1136, e1137, b1138⟩ := T.2.2.2.1 47 (by decide) (by decide)
      refine rf_R_ild pm_M209 T (pc_q := 12) rfl e1137 (by decide) (sf_in B1135 (by decide) (by decide)) rfl (fun z1139 ez1140 => ?_)
      have e1141 : (z1133).toInt = 100 * ((m 23)).toInt + 0 := (sf_aux2 _ _ e1134)
      have B1142 : sf_B 0 10 z1139 := ez1140 ▸ rf_p47a b1138 e1141 B1132 (by decide)
      refine pm_R_ret pm_M209 (r := some (.int z1139)) rfl (pm_ret_i _) ?_
      show pm_R _ 217 12 [.ref 41, .int a0, .int a1, .int a2, .long y4_1131, pm_no, .int x6_1131, g7_1131] [.int z1139, .int x6_1131] _ _
      refine pm_R_icmp pm_M217 (t := 100) (pc_q := 15) rfl rfl rfl (fun c1143 => ?_) (fun c1143 => ?_)
      · skip
        refine pm_R_lo pm_M217 (pc_q := 102) rfl rfl rfl ?_
        exact pm_R_ret pm_M217 (r := some (.long y4_1131)) rfl rfl (K y4_1131)
      · have B1144 : sf_B 0 9 x6_1131 := sf_ltL (Int32.not_le.mp c1143) Bx6_1131 B1142
        have B1145 : sf_B 1 10 z1139 := sf_ltR (Int32.not_le.mp c1143) Bx6_1131 B1142
        refine pm_R_lo pm_M217 (pc_q := 16) rfl rfl rfl ?_
        refine pm_R_lo pm_M217 (pc_q := 18) (ls_q := [.ref 41, .int a0, .int a1, .int a2, .long y4_1131, pm_no, .int x6_1131, .int a1]) (st_q := []) rfl rfl rfl ?_
        have L_1336 : ∀ (N : Nat) (x7_1336 : Int32) (y4_1336 : Int64), sf_B 0 11 x7_1336 → (11 - x7_1336.toInt).toNat = N → pm_R (d + 3) 217 18 [.ref 41, .int a0, .int a1, .int a2, .long y4_1336, pm_no, .int x6_1131, .int x7_1336] [] h Q := by
          intro N
          induction N using Nat.strongRecOn with
          | ind N ih_1336 =>
            intro x7_1336 y4_1336 Bx7_1336 hN_1336
            refine pm_R_lo pm_M217 (pc_q := 20) rfl rfl rfl ?_
            refine pm_R_lo pm_M217 (pc_q := 21) rfl rfl rfl ?_
            refine pm_R_icmp pm_M217 (t := 94) (pc_q := 24) rfl rfl rfl (fun c1337 => ?_) (fun c1337 => ?_)
            · skip
              refine sf_R_iinc pm_M217 (pc_q := 97) (ls_q := fun z => [.ref 41, .int a0, .int a1, .int a2, .long y4_1336, pm_no, .int z, .int x7_1336]) rfl B1144 rfl (by decide) (by decide) (by decide) (fun _ => rfl) rfl (fun z1338 e1339 B1340 => ?_)
              show pm_R _ 217 97 [.ref 41, .int a0, .int a1, .int a2, .long y4_1336, pm_no, .int z1338, .int x7_1336] [] _ _
              refine pm_R_br pm_M217 (pc_q := 6) rfl rfl ?_
              exact ih_1131 _ (sf_up hN_1131 e1339 B1144 (by decide) (by decide)) z1338 y4_1336 (.int x7_1336) (sf_weak B1340 (by decide) (by decide)) rfl rfl
            · have B1341 : sf_B 0 10 x7_1336 := sf_ltL (Int32.not_le.mp c1337) Bx7_1336 Ba2
              have B1342 : sf_B 1 11 a2 := sf_ltR (Int32.not_le.mp c1337) Bx7_1336 Ba2
              refine pm_R_lo pm_M217 (pc_q := 25) rfl rfl rfl ?_
              refine pm_R_lo pm_M217 (pc_q := 27) rfl rfl rfl ?_
              refine pm_R_op pm_M217 (pc_q := 28) (st_q := [.int 0, .int x6_1131, .ref 41]) rfl rfl rfl ?_
              refine pm_R_cv pm_M217 (pc_q := 31) (a := 41) (ra := [.int 0, .int x6_1131]) (rest := []) (ls_q := [.ref 41, .int x6_1131, .int 0]) rfl rfl (Or.inl rfl) pm_M210 T.2.1 rfl (by decide) (Nat.lt_of_lt_of_le (by decide) T.1) rfl rfl (Nat.le_of_ble_eq_true rfl) rfl rfl ?_
              refine pm_R_lo pm_M210 (pc_q := 1) rfl rfl rfl ?_
              refine rf_R_get pm_M210 T (pc_q := 4) (v := .ref 47) rfl rfl rfl rfl ?_
              refine pm_R_op pm_M210 (pc_q := 6) (st_q := [.int 100, .ref 47]) rfl rfl rfl ?_
              refine pm_R_lo pm_M210 (pc_q := 7) rfl rfl rfl ?_
              refine rf_R_get pm_M210 T (pc_q := 10) (v := .int (m 23)) rfl rfl rfl rfl ?_
              refine sf_R_imulV pm_M210 (pc_q := 11) rfl rfl sf_k100 B1132 (by decide) (by decide) (by decide) e1134 ?_
              refine pm_R_op pm_M210 (pc_q := 12) (st_q := [.int 2, .int z1133, .ref 47]) rfl rfl rfl ?_
              refine sf_R_iadd pm_M210 (pc_q := 13) rfl rfl B1135 sf_k2 (by decide) (by decide) (fun z1343 e1344 B1345 => ?_)
              refine pm_R_op pm_M210 (pc_q := 14) (st_q := [.int 4, .int z1343, .ref 47]) rfl rfl rfl ?_
              refine pm_R_lo pm_M210 (pc_q := 15) rfl rfl rfl ?_
              refine sf_R_imul pm_M210 (pc_q := 16) rfl rfl sf_k4 B1144 (by decide) (by decide) (by decide) (fun z1346 e1347 B1348 => ?_)
              refine sf_R_iadd pm_M210 (pc_q := 17) rfl rfl B1345 B1348 (by decide) (by decide) (fun z1349 e1350 B1351 => ?_)
              refine pm_R_lo pm_M210 (pc_q := 18) rfl rfl rfl ?_
              refine sf_R_iadd pm_M210 (pc_q := 19) rfl rfl B1351 sf_k0 (by decide) (by decide) (fun z1352 e1353 B1354 => ?_)
              refine rf_R_ild pm_M210 T (pc_q := 20) rfl e1137 (by decide) (sf_in B1354 (by decide) (by decide)) rfl (fun z1355 ez1356 => ?_)
              have e1357 : (z1352).toInt = 100 * ((m 23)).toInt + 4 * (x6_1131).toInt + 2 := (sf_aux3 _ _ _ _ _ _ _ e1134 e1344 e1347 e1350 e1353)
              have B1358 : sf_B 0 5 z1355 := ez1356 ▸ rf_p47r b1138 e1357 B1132 B1144 (by decide) (by decide) (by decide)
              refine pm_R_ret pm_M210 (r := some (.int z1355)) rfl (pm_ret_i _) ?_
              show pm_R _ 217 31 [.ref 41, .int a0, .int a1, .int a2, .long y4_1336, pm_no, .int x6_1131, .int x7_1336] [.int z1355] _ _
              refine pm_R_lo pm_M217 (pc_q := 32) rfl rfl rfl ?_
              refine pm_R_icmp pm_M217 (t := 94) (pc_q := 35) rfl rfl rfl (fun c1359 => ?_) (fun c1359 => ?_)
              · skip
                refine sf_R_iinc pm_M217 (pc_q := 97) (ls_q := fun z => [.ref 41, .int a0, .int a1, .int a2, .long y4_1336, pm_no, .int z, .int x7_1336]) rfl B1144 rfl (by decide) (by decide) (by decide) (fun _ => rfl) rfl (fun z1360 e1361 B1362 => ?_)
                show pm_R _ 217 97 [.ref 41, .int a0, .int a1, .int a2, .long y4_1336, pm_no, .int z1360, .int x7_1336] [] _ _
                refine pm_R_br pm_M217 (pc_q := 6) rfl rfl ?_
                exact ih_1131 _ (sf_up hN_1131 e1361 B1144 (by decide) (by decide)) z1360 y4_1336 (.int x7_1336) (sf_weak B1362 (by decide) (by decide)) rfl rfl
              · refine pm_R_lo pm_M217 (pc_q := 37) rfl rfl rfl ?_
                refine pm_R_lo pm_M217 (pc_q := 38) rfl rfl rfl ?_
                refine pm_R_lo pm_M217 (pc_q := 40) rfl rfl rfl ?_
                refine pm_R_op pm_M217 (pc_q := 41) (st_q := [.int 3, .int x6_1131, .ref 41, .long y4_1336]) rfl rfl rfl ?_
                refine pm_R_cv pm_M217 (pc_q := 44) (a := 41) (ra := [.int 3, .int x6_1131]) (rest := [.long y4_1336]) (ls_q := [.ref 41, .int x6_1131, .int 3]) rfl rfl (Or.inl rfl) pm_M210 T.2.1 rfl (by decide) (Nat.lt_of_lt_of_le (by decide) T.1) rfl rfl (Nat.le_of_ble_eq_true rfl) rfl rfl ?_
                refine pm_R_lo pm_M210 (pc_q := 1) rfl rfl rfl ?_
                refine rf_R_get pm_M210 T (pc_q := 4) (v := .ref 47) rfl rfl rfl rfl ?_
                refine pm_R_op pm_M210 (pc_q := 6) (st_q := [.int 100, .ref 47]) rfl rfl rfl ?_
                refine pm_R_lo pm_M210 (pc_q := 7) rfl rfl rfl ?_
                refine rf_R_get pm_M210 T (pc_q := 10) (v := .int (m 23)) rfl rfl rfl rfl ?_
                refine sf_R_imulV pm_M210 (pc_q := 11) rfl rfl sf_k100 B1132 (by decide) (by decide) (by decide) e1134 ?_
                refine pm_R_op pm_M210 (pc_q := 12) (st_q := [.int 2, .int z1133, .ref 47]) rfl rfl rfl ?_
                refine sf_R_iaddV pm_M210 (pc_q := 13) rfl rfl B1135 sf_k2 (by decide) (by decide) e1344 ?_
                refine pm_R_op pm_M210 (pc_q := 14) (st_q := [.int 4, .int z1343, .ref 47]) rfl rfl rfl ?_
                refine pm_R_lo pm_M210 (pc_q := 15) rfl rfl rfl ?_
                refine sf_R_imulV pm_M210 (pc_q := 16) rfl rfl sf_k4 B1144 (by decide) (by decide) (by decide) e1347 ?_
                refine sf_R_iaddV pm_M210 (pc_q := 17) rfl rfl B1345 B1348 (by decide) (by decide) e1350 ?_
                refine pm_R_lo pm_M210 (pc_q := 18) rfl rfl rfl ?_
                refine sf_R_iadd pm_M210 (pc_q := 19) rfl rfl B1351 sf_k3 (by decide) (by decide) (fun z1363 e1364 B1365 => ?_)
                refine rf_R_ild pm_M210 T (pc_q := 20) rfl e1137 (by decide) (sf_in B1365 (by decide) (by decide)) rfl (fun z1366 ez1367 => ?_)
                have e1368 : (z1363).toInt = 100 * ((m 23)).toInt + 4 * (x6_1131).toInt + 5 := (sf_aux4 _ _ _ _ _ _ _ e1134 e1344 e1347 e1350 e1364)
                have B1369 : sf_B 0 4 z1366 := ez1367 ▸ rf_p47t b1138 e1368 B1132 B1144 (by decide) (by decide) (by decide)
                refine pm_R_ret pm_M210 (r := some (.int z1366)) rfl (pm_ret_i _) ?_
                show pm_R _ 217 44 [.ref 41, .int a0, .int a1, .int a2, .long y4_1336, pm_no, .int x6_1131, .int x7_1336] [.int z1366, .long y4_1336] _ _
                refine pm_R_lo pm_M217 (pc_q := 45) rfl rfl rfl ?_
                refine rf_R_get pm_M217 T (pc_q := 48) (v := .ref 54) rfl rfl rfl rfl ?_
                refine pm_R_lo pm_M217 (pc_q := 49) rfl rfl rfl ?_
                refine pm_R_lo pm_M217 (pc_q := 51) rfl rfl rfl ?_
                refine pm_R_op pm_M217 (pc_q := 52) (st_q := [.int 1, .int x6_1131, .ref 41, .ref 54, .int z1366, .long y4_1336]) rfl rfl rfl ?_
                refine pm_R_cv pm_M217 (pc_q := 55) (a := 41) (ra := [.int 1, .int x6_1131]) (rest := [.ref 54, .int z1366, .long y4_1336]) (ls_q := [.ref 41, .int x6_1131, .int 1]) rfl rfl (Or.inl rfl) pm_M210 T.2.1 rfl (by decide) (Nat.lt_of_lt_of_le (by decide) T.1) rfl rfl (Nat.le_of_ble_eq_true rfl) rfl rfl ?_
                refine pm_R_lo pm_M210 (pc_q := 1) rfl rfl rfl ?_
                refine rf_R_get pm_M210 T (pc_q := 4) (v := .ref 47) rfl rfl rfl rfl ?_
                refine pm_R_op pm_M210 (pc_q := 6) (st_q := [.int 100, .ref 47]) rfl rfl rfl ?_
                refine pm_R_lo pm_M210 (pc_q := 7) rfl rfl rfl ?_
                refine rf_R_get pm_M210 T (pc_q := 10) (v := .int (m 23)) rfl rfl rfl rfl ?_
                refine sf_R_imulV pm_M210 (pc_q := 11) rfl rfl sf_k100 B1132 (by decide) (by decide) (by decide) e1134 ?_
                refine pm_R_op pm_M210 (pc_q := 12) (st_q := [.int 2, .int z1133, .ref 47]) rfl rfl rfl ?_
                refine sf_R_iaddV pm_M210 (pc_q := 13) rfl rfl B1135 sf_k2 (by decide) (by decide) e1344 ?_
                refine pm_R_op pm_M210 (pc_q := 14) (st_q := [.int 4, .int z1343, .ref 47]) rfl rfl rfl ?_
                refine pm_R_lo pm_M210 (pc_q := 15) rfl rfl rfl ?_
                refine sf_R_imulV pm_M210 (pc_q := 16) rfl rfl sf_k4 B1144 (by decide) (by decide) (by decide) e1347 ?_
                refine sf_R_iaddV pm_M210 (pc_q := 17) rfl rfl B1345 B1348 (by decide) (by decide) e1350 ?_
                refine pm_R_lo pm_M210 (pc_q := 18) rfl rfl rfl ?_
                refine sf_R_iadd pm_M210 (pc_q := 19) rfl rfl B1351 sf_k1 (by decide) (by decide) (fun z1370 e1371 B1372 => ?_)
                refine rf_R_ild pm_M210 T (pc_q := 20) rfl e1137 (by decide) (sf_in B1372 (by decide) (by decide)) rfl (fun z1373 ez1374 => ?_)
                have e1375 : (z1370).toInt = 100 * ((m 23)).toInt + 4 * (x6_1131).toInt + 3 := (sf_aux5 _ _ _ _ _ _ _ e1134 e1344 e1347 e1350 e1371)
                have B1376 : sf_B 0 5 z1373 := ez1374 ▸ rf_p47r b1138 e1375 B1132 B1144 (by decide) (by decide) (by decide)
                refine pm_R_ret pm_M210 (r := some (.int z1373)) rfl (pm_ret_i _) ?_
                show pm_R _ 217 55 [.ref 41, .int a0, .int a1, .int a2, .long y4_1336, pm_no, .int x6_1131, .int x7_1336] [.int z1373, .ref 54, .int z1366, .long y4_1336] _ _
                refine pm_R_lo pm_M217 (pc_q := 56) rfl rfl rfl ?_
                refine pm_R_lo pm_M217 (pc_q := 58) rfl rfl rfl ?_
                refine pm_R_cs pm_M217 (pc_q := 61) (ra := [.int x7_1336, .int a1, .int z1373]) (rest := [.ref 54, .int z1366, .long y4_1336]) (ls_q := [.int z1373, .int a1, .int x7_1336]) rfl rfl (Or.inl rfl) pm_M207 rfl rfl (Nat.le_of_ble_eq_true rfl) rfl rfl ?_
                refine pm_R_op pm_M207 (pc_q := 3) (st_q := [.int 144]) rfl rfl rfl ?_
                refine pm_R_lo pm_M207 (pc_q := 4) rfl rfl rfl ?_
                refine sf_R_imul pm_M207 (pc_q := 5) rfl rfl sf_k144 B1376 (by decide) (by decide) (by decide) (fun z1377 e1378 B1379 => ?_)
                refine pm_R_op pm_M207 (pc_q := 7) (st_q := [.int 12, .int z1377]) rfl rfl rfl ?_
                refine pm_R_lo pm_M207 (pc_q := 8) rfl rfl rfl ?_
                refine sf_R_imul pm_M207 (pc_q := 9) rfl rfl sf_k12 Ba1 (by decide) (by decide) (by decide) (fun z1380 e1381 B1382 => ?_)
                refine sf_R_iadd pm_M207 (pc_q := 10) rfl rfl B1379 B1382 (by decide) (by decide) (fun z1383 e1384 B1385 => ?_)
                refine pm_R_lo pm_M207 (pc_q := 11) rfl rfl rfl ?_
                refine sf_R_iadd pm_M207 (pc_q := 12) rfl rfl B1385 B1341 (by decide) (by decide) (fun z1386 e1387 B1388 => ?_)
                refine pm_R_ret pm_M207 (r := some (.int z1386)) rfl (pm_ret_i _) ?_
                show pm_R _ 217 61 [.ref 41, .int a0, .int a1, .int a2, .long y4_1336, pm_no, .int x6_1131, .int x7_1336] [.int z1386, .ref 54, .int z1366, .long y4_1336] _ _
                obtain ⟨f1389, e1390⟩ := T.2.2.2.1 54 (by decide) (by decide)
                refine rf_R_lld pm_M217 T (pc_q := 62) rfl e1390 (by decide) (by decide) (sf_in B1388 (by decide) (by decide)) rfl (fun z1392 ez1393 => ?_)
                refine pm_R_lo pm_M217 (pc_q := 63) rfl rfl rfl ?_
                refine rf_R_get pm_M217 T (pc_q := 66) (v := .ref 54) rfl rfl rfl rfl ?_
                refine pm_R_lo pm_M217 (pc_q := 67) rfl rfl rfl ?_
                refine pm_R_lo pm_M217 (pc_q := 69) rfl rfl rfl ?_
                refine pm_R_op pm_M217 (pc_q := 70) (st_q := [.int 2, .int x6_1131, .ref 41, .ref 54, .long z1392, .int z1366, .long y4_1336]) rfl rfl rfl ?_
                refine pm_R_cv pm_M217 (pc_q := 73) (a := 41) (ra := [.int 2, .int x6_1131]) (rest := [.ref 54, .long z1392, .int z1366, .long y4_1336]) (ls_q := [.ref 41, .int x6_1131, .int 2]) rfl rfl (Or.inl rfl) pm_M210 T.2.1 rfl (by decide) (Nat.lt_of_lt_of_le (by decide) T.1) rfl rfl (Nat.le_of_ble_eq_true rfl) rfl rfl ?_
                refine pm_R_lo pm_M210 (pc_q := 1) rfl rfl rfl ?_
                refine rf_R_get pm_M210 T (pc_q := 4) (v := .ref 47) rfl rfl rfl rfl ?_
                refine pm_R_op pm_M210 (pc_q := 6) (st_q := [.int 100, .ref 47]) rfl rfl rfl ?_
                refine pm_R_lo pm_M210 (pc_q := 7) rfl rfl rfl ?_
                refine rf_R_get pm_M210 T (pc_q := 10) (v := .int (m 23)) rfl rfl rfl rfl ?_
                refine sf_R_imulV pm_M210 (pc_q := 11) rfl rfl sf_k100 B1132 (by decide) (by decide) (by decide) e1134 ?_
                refine pm_R_op pm_M210 (pc_q := 12) (st_q := [.int 2, .int z1133, .ref 47]) rfl rfl rfl ?_
                refine sf_R_iaddV pm_M210 (pc_q := 13) rfl rfl B1135 sf_k2 (by decide) (by decide) e1344 ?_
                refine pm_R_op pm_M210 (pc_q := 14) (st_q := [.int 4, .int z1343, .ref 47]) rfl rfl rfl ?_
                refine pm_R_lo pm_M210 (pc_q := 15) rfl rfl rfl ?_
                refine sf_R_imulV pm_M210 (pc_q := 16) rfl rfl sf_k4 B1144 (by decide) (by decide) (by decide) e1347 ?_
                refine sf_R_iaddV pm_M210 (pc_q := 17) rfl rfl B1345 B1348 (by decide) (by decide) e1350 ?_
                refine pm_R_lo pm_M210 (pc_q := 18) rfl rfl rfl ?_
                refine sf_R_iadd pm_M210 (pc_q := 19) rfl rfl B1351 sf_k2 (by decide) (by decide) (fun z1394 e1395 B1396 => ?_)
                refine rf_R_ild pm_M210 T (pc_q := 20) rfl e1137 (by decide) (sf_in B1396 (by decide) (by decide)) rfl (fun z1397 ez1398 => ?_)
                have e1399 : (z1394).toInt = 100 * ((m 23)).toInt + 4 * (x6_1131).toInt + 4 := (sf_aux6 _ _ _ _ _ _ _ e1134 e1344 e1347 e1350 e1395)
                have B1400 : sf_B 0 5 z1397 := ez1398 ▸ rf_p47r b1138 e1399 B1132 B1144 (by decide) (by decide) (by decide)
                refine pm_R_ret pm_M210 (r := some (.int z1397)) rfl (pm_ret_i _) ?_
                show pm_R _ 217 73 [.ref 41, .int a0, .int a1, .int a2, .long y4_1336, pm_no, .int x6_1131, .int x7_1336] [.int z1397, .ref 54, .long z1392, .int z1366, .long y4_1336] _ _
                refine pm_R_lo pm_M217 (pc_q := 75) rfl rfl rfl ?_
                refine pm_R_op pm_M217 (pc_q := 76) (st_q := [.int 1, .int x7_1336, .int z1397, .ref 54, .long z1392, .int z1366, .long y4_1336]) rfl rfl rfl ?_
                refine sf_R_iadd pm_M217 (pc_q := 77) rfl rfl B1341 sf_k1 (by decide) (by decide) (fun z1401 e1402 B1403 => ?_)
                refine pm_R_lo pm_M217 (pc_q := 78) rfl rfl rfl ?_
                refine pm_R_cs pm_M217 (pc_q := 81) (ra := [.int a2, .int z1401, .int z1397]) (rest := [.ref 54, .long z1392, .int z1366, .long y4_1336]) (ls_q := [.int z1397, .int z1401, .int a2]) rfl rfl (Or.inl rfl) pm_M207 rfl rfl (Nat.le_of_ble_eq_true rfl) rfl rfl ?_
                refine pm_R_op pm_M207 (pc_q := 3) (st_q := [.int 144]) rfl rfl rfl ?_
                refine pm_R_lo pm_M207 (pc_q := 4) rfl rfl rfl ?_
                refine sf_R_imul pm_M207 (pc_q := 5) rfl rfl sf_k144 B1400 (by decide) (by decide) (by decide) (fun z1404 e1405 B1406 => ?_)
                refine pm_R_op pm_M207 (pc_q := 7) (st_q := [.int 12, .int z1404]) rfl rfl rfl ?_
                refine pm_R_lo pm_M207 (pc_q := 8) rfl rfl rfl ?_
                refine sf_R_imul pm_M207 (pc_q := 9) rfl rfl sf_k12 B1403 (by decide) (by decide) (by decide) (fun z1407 e1408 B1409 => ?_)
                refine sf_R_iadd pm_M207 (pc_q := 10) rfl rfl B1406 B1409 (by decide) (by decide) (fun z1410 e1411 B1412 => ?_)
                refine pm_R_lo pm_M207 (pc_q := 11) rfl rfl rfl ?_
                refine sf_R_iadd pm_M207 (pc_q := 12) rfl rfl B1412 B1342 (by decide) (by decide) (fun z1413 e1414 B1415 => ?_)
                refine pm_R_ret pm_M207 (r := some (.int z1413)) rfl (pm_ret_i _) ?_
                show pm_R _ 217 81 [.ref 41, .int a0, .int a1, .int a2, .long y4_1336, pm_no, .int x6_1131, .int x7_1336] [.int z1413, .ref 54, .long z1392, .int z1366, .long y4_1336] _ _
                refine rf_R_lld pm_M217 T (pc_q := 82) rfl e1390 (by decide) (by decide) (sf_in B1415 (by decide) (by decide)) rfl (fun z1416 ez1417 => ?_)
                refine pm_R_cs pm_M217 (pc_q := 85) (ra := [.long z1416, .long z1392, .int z1366]) (rest := [.long y4_1336]) (ls_q := [.int z1366, .long z1392, pm_no, .long z1416, pm_no, pm_no, pm_no, pm_no]) rfl rfl (Or.inl rfl) pm_M218 rfl rfl (Nat.le_of_ble_eq_true rfl) rfl rfl ?_
                refine rf_c218 (d := d + 0)  (fun r1418 => ?_)
                show pm_R _ 217 85 [.ref 41, .int a0, .int a1, .int a2, .long y4_1336, pm_no, .int x6_1131, .int x7_1336] [.long r1418, .long y4_1336] _ _
                refine sf_R_lany pm_M217 (pc_q := 86) (st := []) rfl rfl rfl (fun z1426 => ?_)
                refine pm_R_lo pm_M217 (pc_q := 88) (ls_q := [.ref 41, .int a0, .int a1, .int a2, .long z1426, pm_no, .int x6_1131, .int x7_1336]) (st_q := []) rfl rfl rfl ?_
                refine sf_R_iinc pm_M217 (pc_q := 91) (ls_q := fun z => [.ref 41, .int a0, .int a1, .int a2, .long z1426, pm_no, .int x6_1131, .int z]) rfl B1341 rfl (by decide) (by decide) (by decide) (fun _ => rfl) rfl (fun z1427 e1428 B1429 => ?_)
                show pm_R _ 217 91 [.ref 41, .int a0, .int a1, .int a2, .long z1426, pm_no, .int x6_1131, .int z1427] [] _ _
                refine pm_R_br pm_M217 (pc_q := 18) rfl rfl ?_
                exact ih_1336 _ (sf_up hN_1336 e1428 B1341 (by decide) (by decide)) z1427 z1426 (sf_weak B1429 (by decide) (by decide)) rfl
        exact L_1336 _ a1 y4_1131 Ba1 rfl
  exact L_1131 _ 0 0 (pm_no) (sf_weak sf_k0 (by decide) (by decide)) rfl rfl

set_option maxRecDepth 100000 in
set_option maxHeartbeats 4000000 in
/-- SilentTableModel.countsOf -/
theorem rf_c208 {d : Nat} {m : Nat → Int32} {w : Int64} {h : pm_H} {Q : Option Value → pm_H → Prop} {a0 : Int32} {a1 : Int32} {a2 : Int32} (T : rf_T m w h) (Ba0 : sf_B 0 5 a0) (Ba1 : sf_B 0 11 a1) (Ba2 : sf_B 0 11 a2) (K : ∀ (r : Int64), lf_B 0 1000000000000 r → Q (some (.long r)) h) : pm_R (d + 3) 208 0 [.ref 41, .int a0, .int a1, .int a2, pm_no, pm_no, pm_no, pm_no] [] h Q := by
  refine pm_R_op pm_M208 (pc_q := 1) (st_q := [.long 0]) rfl rfl rfl ?_
  refine pm_R_lo pm_M208 (pc_q := 3) (ls_q := [.ref 41, .int a0, .int a1, .int a2, .long 0, pm_no, pm_no, pm_no]) (st_q := []) rfl rfl rfl ?_
  refine pm_R_op pm_M208 (pc_q := 4) (st_q := [.int 0]) rfl rfl rfl ?_
  refine pm_R_lo pm_M208 (pc_q := 6) (ls_q := [.ref 41, .int a0, .int a1, .int a2, .long 0, pm_no, .int 0, pm_no]) (st_q := []) rfl rfl rfl ?_
  have L_1164 : ∀ (N : Nat) (x6_1164 : Int32) (y4_1164 : Int64) (g7_1164 : Value), sf_B 0 10 x6_1164 → lf_B 0 1000000000000 y4_1164 → g7_1164.category = 1 → (10 - x6_1164.toInt).toNat = N → pm_R (d + 3) 208 6 [.ref 41, .int a0, .int a1, .int a2, .long y4_1164, pm_no, .int x6_1164, g7_1164] [] h Q := by
    intro N
    induction N using Nat.strongRecOn with
    | ind N ih_1164 =>
      intro x6_1164 y4_1164 g7_1164 Bx6_1164 By4_1164 Cg7_1164 hN_1164
      refine pm_R_lo pm_M208 (pc_q := 8) rfl rfl rfl ?_
      refine pm_R_lo pm_M208 (pc_q := 9) rfl rfl rfl ?_
      refine pm_R_cv pm_M208 (pc_q := 12) (a := 41) (ra := []) (rest := [.int x6_1164]) (ls_q := [.ref 41]) rfl rfl (Or.inl rfl) pm_M209 T.2.1 rfl (by decide) (Nat.lt_of_lt_of_le (by decide) T.1) rfl rfl (Nat.le_of_ble_eq_true rfl) rfl rfl ?_
      refine pm_R_lo pm_M209 (pc_q := 1) rfl rfl rfl ?_
      refine rf_R_get pm_M209 T (pc_q := 4) (v := .ref 47) rfl rfl rfl rfl ?_
      refine pm_R_op pm_M209 (pc_q := 6) (st_q := [.int 100, .ref 47]) rfl rfl rfl ?_
      refine pm_R_lo pm_M209 (pc_q := 7) rfl rfl rfl ?_
      have B1165 : sf_B 0 1 (m 23) := T.2.2.1 23
      refine rf_R_get pm_M209 T (pc_q := 10) (v := .int (m 23)) rfl rfl rfl rfl ?_
      refine sf_R_imul pm_M209 (pc_q := 11) rfl rfl sf_k100 B1165 (by decide) (by decide) (by decide) (fun z1166 e1167 B1168 => ?_)
      obtain ⟨f1169, e1170, b1171⟩ := T.2.2.2.1 47 (by decide) (by decide)
      refine rf_R_ild pm_M209 T (pc_q := 12) rfl e1170 (by decide) (sf_in B1168 (by decide) (by decide)) rfl (fun z1172 ez1173 => ?_)
      have e1174 : (z1166).toInt = 100 * ((m 23)).toInt + 0 := (sf_aux2 _ _ e1167)
      have B1175 : sf_B 0 10 z1172 := ez1173 ▸ rf_p47a b1171 e1174 B1165 (by decide)
      refine pm_R_ret pm_M209 (r := some (.int z1172)) rfl (pm_ret_i _) ?_
      show pm_R _ 208 12 [.ref 41, .int a0, .int a1, .int a2, .long y4_1164, pm_no, .int x6_1164, g7_1164] [.int z1172, .int x6_1164] _ _
      refine pm_R_icmp pm_M208 (t := 64) (pc_q := 15) rfl rfl rfl (fun c1176 => ?_) (fun c1176 => ?_)
      · skip
        refine pm_R_lo pm_M208 (pc_q := 66) rfl rfl rfl ?_
        exact pm_R_ret pm_M208 (r := some (.long y4_1164)) rfl rfl (K y4_1164 By4_1164)
      · have B1177 : sf_B 0 9 x6_1164 := sf_ltL (Int32.not_le.mp c1176) Bx6_1164 B1175
        have B1178 : sf_B 1 10 z1172 := sf_ltR (Int32.not_le.mp c1176) Bx6_1164 B1175
        refine pm_R_lo pm_M208 (pc_q := 16) rfl rfl rfl ?_
        refine pm_R_lo pm_M208 (pc_q := 18) (ls_q := [.ref 41, .int a0, .int a1, .int a2, .long y4_1164, pm_no, .int x6_1164, .int a1]) (st_q := []) rfl rfl rfl ?_
        have L_1375 : ∀ (N : Nat) (x7_1375 : Int32) (y4_1375 : Int64), sf_B 0 11 x7_1375 → lf_B 0 1000000000000 y4_1375 → (11 - x7_1375.toInt).toNat = N → pm_R (d + 3) 208 18 [.ref 41, .int a0, .int a1, .int a2, .long y4_1375, pm_no, .int x6_1164, .int x7_1375] [] h Q := by
          intro N
          induction N using Nat.strongRecOn with
          | ind N ih_1375 =>
            intro x7_1375 y4_1375 Bx7_1375 By4_1375 hN_1375
            refine pm_R_lo pm_M208 (pc_q := 20) rfl rfl rfl ?_
            refine pm_R_lo pm_M208 (pc_q := 21) rfl rfl rfl ?_
            refine pm_R_icmp pm_M208 (t := 58) (pc_q := 24) rfl rfl rfl (fun c1376 => ?_) (fun c1376 => ?_)
            · skip
              refine sf_R_iinc pm_M208 (pc_q := 61) (ls_q := fun z => [.ref 41, .int a0, .int a1, .int a2, .long y4_1375, pm_no, .int z, .int x7_1375]) rfl B1177 rfl (by decide) (by decide) (by decide) (fun _ => rfl) rfl (fun z1377 e1378 B1379 => ?_)
              show pm_R _ 208 61 [.ref 41, .int a0, .int a1, .int a2, .long y4_1375, pm_no, .int z1377, .int x7_1375] [] _ _
              refine pm_R_br pm_M208 (pc_q := 6) rfl rfl ?_
              exact ih_1164 _ (sf_up hN_1164 e1378 B1177 (by decide) (by decide)) z1377 y4_1375 (.int x7_1375) (sf_weak B1379 (by decide) (by decide)) By4_1375 rfl rfl
            · have B1380 : sf_B 0 10 x7_1375 := sf_ltL (Int32.not_le.mp c1376) Bx7_1375 Ba2
              have B1381 : sf_B 1 11 a2 := sf_ltR (Int32.not_le.mp c1376) Bx7_1375 Ba2
              refine pm_R_lo pm_M208 (pc_q := 25) rfl rfl rfl ?_
              refine pm_R_lo pm_M208 (pc_q := 27) rfl rfl rfl ?_
              refine pm_R_op pm_M208 (pc_q := 28) (st_q := [.int 0, .int x6_1164, .ref 41]) rfl rfl rfl ?_
              refine pm_R_cv pm_M208 (pc_q := 31) (a := 41) (ra := [.int 0, .int x6_1164]) (rest := []) (ls_q := [.ref 41, .int x6_1164, .int 0]) rfl rfl (Or.inl rfl) pm_M210 T.2.1 rfl (by decide) (Nat.lt_of_lt_of_le (by decide) T.1) rfl rfl (Nat.le_of_ble_eq_true rfl) rfl rfl ?_
              refine pm_R_lo pm_M210 (pc_q := 1) rfl rfl rfl ?_
              refine rf_R_get pm_M210 T (pc_q := 4) (v := .ref 47) rfl rfl rfl rfl ?_
              refine pm_R_op pm_M210 (pc_q := 6) (st_q := [.int 100, .ref 47]) rfl rfl rfl ?_
              refine pm_R_lo pm_M210 (pc_q := 7) rfl rfl rfl ?_
              refine rf_R_get pm_M210 T (pc_q := 10) (v := .int (m 23)) rfl rfl rfl rfl ?_
              refine sf_R_imulV pm_M210 (pc_q := 11) rfl rfl sf_k100 B1165 (by decide) (by decide) (by decide) e1167 ?_
              refine pm_R_op pm_M210 (pc_q := 12) (st_q := [.int 2, .int z1166, .ref 47]) rfl rfl rfl ?_
              refine sf_R_iadd pm_M210 (pc_q := 13) rfl rfl B1168 sf_k2 (by decide) (by decide) (fun z1382 e1383 B1384 => ?_)
              refine pm_R_op pm_M210 (pc_q := 14) (st_q := [.int 4, .int z1382, .ref 47]) rfl rfl rfl ?_
              refine pm_R_lo pm_M210 (pc_q := 15) rfl rfl rfl ?_
              refine sf_R_imul pm_M210 (pc_q := 16) rfl rfl sf_k4 B1177 (by decide) (by decide) (by decide) (fun z1385 e1386 B1387 => ?_)
              refine sf_R_iadd pm_M210 (pc_q := 17) rfl rfl B1384 B1387 (by decide) (by decide) (fun z1388 e1389 B1390 => ?_)
              refine pm_R_lo pm_M210 (pc_q := 18) rfl rfl rfl ?_
              refine sf_R_iadd pm_M210 (pc_q := 19) rfl rfl B1390 sf_k0 (by decide) (by decide) (fun z1391 e1392 B1393 => ?_)
              refine rf_R_ild pm_M210 T (pc_q := 20) rfl e1170 (by decide) (sf_in B1393 (by decide) (by decide)) rfl (fun z1394 ez1395 => ?_)
              have e1396 : (z1391).toInt = 100 * ((m 23)).toInt + 4 * (x6_1164).toInt + 2 := (sf_aux3 _ _ _ _ _ _ _ e1167 e1383 e1386 e1389 e1392)
              have B1397 : sf_B 0 5 z1394 := ez1395 ▸ rf_p47r b1171 e1396 B1165 B1177 (by decide) (by decide) (by decide)
              refine pm_R_ret pm_M210 (r := some (.int z1394)) rfl (pm_ret_i _) ?_
              show pm_R _ 208 31 [.ref 41, .int a0, .int a1, .int a2, .long y4_1375, pm_no, .int x6_1164, .int x7_1375] [.int z1394] _ _
              refine pm_R_lo pm_M208 (pc_q := 32) rfl rfl rfl ?_
              refine pm_R_icmp pm_M208 (t := 58) (pc_q := 35) rfl rfl rfl (fun c1398 => ?_) (fun c1398 => ?_)
              · skip
                refine sf_R_iinc pm_M208 (pc_q := 61) (ls_q := fun z => [.ref 41, .int a0, .int a1, .int a2, .long y4_1375, pm_no, .int z, .int x7_1375]) rfl B1177 rfl (by decide) (by decide) (by decide) (fun _ => rfl) rfl (fun z1399 e1400 B1401 => ?_)
                show pm_R _ 208 61 [.ref 41, .int a0, .int a1, .int a2, .long y4_1375, pm_no, .int z1399, .int x7_1375] [] _ _
                refine pm_R_br pm_M208 (pc_q := 6) rfl rfl ?_
                exact ih_1164 _ (sf_up hN_1164 e1400 B1177 (by decide) (by decide)) z1399 y4_1375 (.int x7_1375) (sf_weak B1401 (by decide) (by decide)) By4_1375 rfl rfl
              · refine pm_R_lo pm_M208 (pc_q := 37) rfl rfl rfl ?_
                refine pm_R_lo pm_M208 (pc_q := 38) rfl rfl rfl ?_
                refine pm_R_lo pm_M208 (pc_q := 40) rfl rfl rfl ?_
                refine pm_R_lo pm_M208 (pc_q := 41) rfl rfl rfl ?_
                refine pm_R_lo pm_M208 (pc_q := 43) rfl rfl rfl ?_
                refine pm_R_lo pm_M208 (pc_q := 44) rfl rfl rfl ?_
                refine pm_R_cv pm_M208 (pc_q := 47) (a := 41) (ra := [.int a2, .int x7_1375, .int a1, .int x6_1164]) (rest := [.long y4_1375]) (ls_q := [.ref 41, .int x6_1164, .int a1, .int x7_1375, .int a2]) rfl rfl (Or.inl rfl) pm_M211 T.2.1 rfl (by decide) (Nat.lt_of_lt_of_le (by decide) T.1) rfl rfl (Nat.le_of_ble_eq_true rfl) rfl rfl ?_
                refine pm_R_lo pm_M211 (pc_q := 1) rfl rfl rfl ?_
                refine rf_R_get pm_M211 T (pc_q := 4) (v := .ref 55) rfl rfl rfl rfl ?_
                refine pm_R_lo pm_M211 (pc_q := 5) rfl rfl rfl ?_
                refine pm_R_lo pm_M211 (pc_q := 6) rfl rfl rfl ?_
                refine pm_R_op pm_M211 (pc_q := 7) (st_q := [.int 1, .int x6_1164, .ref 41, .ref 55]) rfl rfl rfl ?_
                refine pm_R_cv pm_M211 (pc_q := 10) (a := 41) (ra := [.int 1, .int x6_1164]) (rest := [.ref 55]) (ls_q := [.ref 41, .int x6_1164, .int 1]) rfl rfl (Or.inl rfl) pm_M210 T.2.1 rfl (by decide) (Nat.lt_of_lt_of_le (by decide) T.1) rfl rfl (Nat.le_of_ble_eq_true rfl) rfl rfl ?_
                refine pm_R_lo pm_M210 (pc_q := 1) rfl rfl rfl ?_
                refine rf_R_get pm_M210 T (pc_q := 4) (v := .ref 47) rfl rfl rfl rfl ?_
                refine pm_R_op pm_M210 (pc_q := 6) (st_q := [.int 100, .ref 47]) rfl rfl rfl ?_
                refine pm_R_lo pm_M210 (pc_q := 7) rfl rfl rfl ?_
                refine rf_R_get pm_M210 T (pc_q := 10) (v := .int (m 23)) rfl rfl rfl rfl ?_
                refine sf_R_imulV pm_M210 (pc_q := 11) rfl rfl sf_k100 B1165 (by decide) (by decide) (by decide) e1167 ?_
                refine pm_R_op pm_M210 (pc_q := 12) (st_q := [.int 2, .int z1166, .ref 47]) rfl rfl rfl ?_
                refine sf_R_iaddV pm_M210 (pc_q := 13) rfl rfl B1168 sf_k2 (by decide) (by decide) e1383 ?_
                refine pm_R_op pm_M210 (pc_q := 14) (st_q := [.int 4, .int z1382, .ref 47]) rfl rfl rfl ?_
                refine pm_R_lo pm_M210 (pc_q := 15) rfl rfl rfl ?_
                refine sf_R_imulV pm_M210 (pc_q := 16) rfl rfl sf_k4 B1177 (by decide) (by decide) (by decide) e1386 ?_
                refine sf_R_iaddV pm_M210 (pc_q := 17) rfl rfl B1384 B1387 (by decide) (by decide) e1389 ?_
                refine pm_R_lo pm_M210 (pc_q := 18) rfl rfl rfl ?_
                refine sf_R_iadd pm_M210 (pc_q := 19) rfl rfl B1390 sf_k1 (by decide) (by decide) (fun z1402 e1403 B1404 => ?_)
                refine rf_R_ild pm_M210 T (pc_q := 20) rfl e1170 (by decide) (sf_in B1404 (by decide) (by decide)) rfl (fun z1405 ez1406 => ?_)
                have e1407 : (z1402).toInt = 100 * ((m 23)).toInt + 4 * (x6_1164).toInt + 3 := (sf_aux5 _ _ _ _ _ _ _ e1167 e1383 e1386 e1389 e1403)
                have B1408 : sf_B 0 5 z1405 := ez1406 ▸ rf_p47r b1171 e1407 B1165 B1177 (by decide) (by decide) (by decide)
                refine pm_R_ret pm_M210 (r := some (.int z1405)) rfl (pm_ret_i _) ?_
                show pm_R _ 211 10 [.ref 41, .int x6_1164, .int a1, .int x7_1375, .int a2] [.int z1405, .ref 55] _ _
                refine pm_R_lo pm_M211 (pc_q := 11) rfl rfl rfl ?_
                refine pm_R_lo pm_M211 (pc_q := 12) rfl rfl rfl ?_
                refine pm_R_cs pm_M211 (pc_q := 15) (ra := [.int x7_1375, .int a1, .int z1405]) (rest := [.ref 55]) (ls_q := [.int z1405, .int a1, .int x7_1375]) rfl rfl (Or.inl rfl) pm_M207 rfl rfl (Nat.le_of_ble_eq_true rfl) rfl rfl ?_
                refine pm_R_op pm_M207 (pc_q := 3) (st_q := [.int 144]) rfl rfl rfl ?_
                refine pm_R_lo pm_M207 (pc_q := 4) rfl rfl rfl ?_
                refine sf_R_imul pm_M207 (pc_q := 5) rfl rfl sf_k144 B1408 (by decide) (by decide) (by decide) (fun z1409 e1410 B1411 => ?_)
                refine pm_R_op pm_M207 (pc_q := 7) (st_q := [.int 12, .int z1409]) rfl rfl rfl ?_
                refine pm_R_lo pm_M207 (pc_q := 8) rfl rfl rfl ?_
                refine sf_R_imul pm_M207 (pc_q := 9) rfl rfl sf_k12 Ba1 (by decide) (by decide) (by decide) (fun z1412 e1413 B1414 => ?_)
                refine sf_R_iadd pm_M207 (pc_q := 10) rfl rfl B1411 B1414 (by decide) (by decide) (fun z1415 e1416 B1417 => ?_)
                refine pm_R_lo pm_M207 (pc_q := 11) rfl rfl rfl ?_
                refine sf_R_iadd pm_M207 (pc_q := 12) rfl rfl B1417 B1380 (by decide) (by decide) (fun z1418 e1419 B1420 => ?_)
                refine pm_R_ret pm_M207 (r := some (.int z1418)) rfl (pm_ret_i _) ?_
                show pm_R _ 211 15 [.ref 41, .int x6_1164, .int a1, .int x7_1375, .int a2] [.int z1418, .ref 55] _ _
                obtain ⟨f1421, e1422, b1423⟩ := T.2.2.2.1 55 (by decide) (by decide)
                refine rf_R_lld pm_M211 T (pc_q := 16) rfl e1422 (by decide) (by decide) (sf_in B1420 (by decide) (by decide)) rfl (fun z1424 ez1425 => ?_)
                have B1426 : lf_B 0 1000000000000 z1424 := ez1425 ▸ b1423 _
                refine pm_R_lo pm_M211 (pc_q := 17) rfl rfl rfl ?_
                refine rf_R_get pm_M211 T (pc_q := 20) (v := .ref 55) rfl rfl rfl rfl ?_
                refine pm_R_lo pm_M211 (pc_q := 21) rfl rfl rfl ?_
                refine pm_R_lo pm_M211 (pc_q := 22) rfl rfl rfl ?_
                refine pm_R_op pm_M211 (pc_q := 23) (st_q := [.int 2, .int x6_1164, .ref 41, .ref 55, .long z1424]) rfl rfl rfl ?_
                refine pm_R_cv pm_M211 (pc_q := 26) (a := 41) (ra := [.int 2, .int x6_1164]) (rest := [.ref 55, .long z1424]) (ls_q := [.ref 41, .int x6_1164, .int 2]) rfl rfl (Or.inl rfl) pm_M210 T.2.1 rfl (by decide) (Nat.lt_of_lt_of_le (by decide) T.1) rfl rfl (Nat.le_of_ble_eq_true rfl) rfl rfl ?_
                refine pm_R_lo pm_M210 (pc_q := 1) rfl rfl rfl ?_
                refine rf_R_get pm_M210 T (pc_q := 4) (v := .ref 47) rfl rfl rfl rfl ?_
                refine pm_R_op pm_M210 (pc_q := 6) (st_q := [.int 100, .ref 47]) rfl rfl rfl ?_
                refine pm_R_lo pm_M210 (pc_q := 7) rfl rfl rfl ?_
                refine rf_R_get pm_M210 T (pc_q := 10) (v := .int (m 23)) rfl rfl rfl rfl ?_
                refine sf_R_imulV pm_M210 (pc_q := 11) rfl rfl sf_k100 B1165 (by decide) (by decide) (by decide) e1167 ?_
                refine pm_R_op pm_M210 (pc_q := 12) (st_q := [.int 2, .int z1166, .ref 47]) rfl rfl rfl ?_
                refine sf_R_iaddV pm_M210 (pc_q := 13) rfl rfl B1168 sf_k2 (by decide) (by decide) e1383 ?_
                refine pm_R_op pm_M210 (pc_q := 14) (st_q := [.int 4, .int z1382, .ref 47]) rfl rfl rfl ?_
                refine pm_R_lo pm_M210 (pc_q := 15) rfl rfl rfl ?_
                refine sf_R_imulV pm_M210 (pc_q := 16) rfl rfl sf_k4 B1177 (by decide) (by decide) (by decide) e1386 ?_
                refine sf_R_iaddV pm_M210 (pc_q := 17) rfl rfl B1384 B1387 (by decide) (by decide) e1389 ?_
                refine pm_R_lo pm_M210 (pc_q := 18) rfl rfl rfl ?_
                refine sf_R_iadd pm_M210 (pc_q := 19) rfl rfl B1390 sf_k2 (by decide) (by decide) (fun z1427 e1428 B1429 => ?_)
                refine rf_R_ild pm_M210 T (pc_q := 20) rfl e1170 (by decide) (sf_in B1429 (by decide) (by decide)) rfl (fun z1430 ez1431 => ?_)
                have e1432 : (z1427).toInt = 100 * ((m 23)).toInt + 4 * (x6_1164).toInt + 4 := (sf_aux6 _ _ _ _ _ _ _ e1167 e1383 e1386 e1389 e1428)
                have B1433 : sf_B 0 5 z1430 := ez1431 ▸ rf_p47r b1171 e1432 B1165 B1177 (by decide) (by decide) (by decide)
                refine pm_R_ret pm_M210 (r := some (.int z1430)) rfl (pm_ret_i _) ?_
                show pm_R _ 211 26 [.ref 41, .int x6_1164, .int a1, .int x7_1375, .int a2] [.int z1430, .ref 55, .long z1424] _ _
                refine pm_R_lo pm_M211 (pc_q := 27) rfl rfl rfl ?_
                refine pm_R_op pm_M211 (pc_q := 28) (st_q := [.int 1, .int x7_1375, .int z1430, .ref 55, .long z1424]) rfl rfl rfl ?_
                refine sf_R_iadd pm_M211 (pc_q := 29) rfl rfl B1380 sf_k1 (by decide) (by decide) (fun z1434 e1435 B1436 => ?_)
                refine pm_R_lo pm_M211 (pc_q := 31) rfl rfl rfl ?_
                refine pm_R_cs pm_M211 (pc_q := 34) (ra := [.int a2, .int z1434, .int z1430]) (rest := [.ref 55, .long z1424]) (ls_q := [.int z1430, .int z1434, .int a2]) rfl rfl (Or.inl rfl) pm_M207 rfl rfl (Nat.le_of_ble_eq_true rfl) rfl rfl ?_
                refine pm_R_op pm_M207 (pc_q := 3) (st_q := [.int 144]) rfl rfl rfl ?_
                refine pm_R_lo pm_M207 (pc_q := 4) rfl rfl rfl ?_
                refine sf_R_imul pm_M207 (pc_q := 5) rfl rfl sf_k144 B1433 (by decide) (by decide) (by decide) (fun z1437 e1438 B1439 => ?_)
                refine pm_R_op pm_M207 (pc_q := 7) (st_q := [.int 12, .int z1437]) rfl rfl rfl ?_
                refine pm_R_lo pm_M207 (pc_q := 8) rfl rfl rfl ?_
                refine sf_R_imul pm_M207 (pc_q := 9) rfl rfl sf_k12 B1436 (by decide) (by decide) (by decide) (fun z1440 e1441 B1442 => ?_)
                refine sf_R_iadd pm_M207 (pc_q := 10) rfl rfl B1439 B1442 (by decide) (by decide) (fun z1443 e1444 B1445 => ?_)
                refine pm_R_lo pm_M207 (pc_q := 11) rfl rfl rfl ?_
                refine sf_R_iadd pm_M207 (pc_q := 12) rfl rfl B1445 B1381 (by decide) (by decide) (fun z1446 e1447 B1448 => ?_)
                refine pm_R_ret pm_M207 (r := some (.int z1446)) rfl (pm_ret_i _) ?_
                show pm_R _ 211 34 [.ref 41, .int x6_1164, .int a1, .int x7_1375, .int a2] [.int z1446, .ref 55, .long z1424] _ _
                refine rf_R_lld pm_M211 T (pc_q := 35) rfl e1422 (by decide) (by decide) (sf_in B1448 (by decide) (by decide)) rfl (fun z1449 ez1450 => ?_)
                have B1451 : lf_B 0 1000000000000 z1449 := ez1450 ▸ b1423 _
                refine pm_R_cs pm_M211 (pc_q := 38) (ra := [.long z1449, .long z1424]) (rest := []) (ls_q := [.long z1424, pm_no, .long z1449, pm_no]) rfl rfl (Or.inl rfl) pm_M212 rfl rfl (Nat.le_of_ble_eq_true rfl) rfl rfl ?_
                refine rf_c212 (d := d + 0) B1426 B1451 (fun r1452 X1460 B1453 => ?_)
                show pm_R _ 211 38 [.ref 41, .int x6_1164, .int a1, .int x7_1375, .int a2] [.long r1452] _ _
                refine pm_R_ret pm_M211 (r := some (.long r1452)) rfl rfl ?_
                show pm_R _ 208 47 [.ref 41, .int a0, .int a1, .int a2, .long y4_1375, pm_no, .int x6_1164, .int x7_1375] [.long r1452, .long y4_1375] _ _
                refine pm_R_cs pm_M208 (pc_q := 50) (ra := [.long r1452, .long y4_1375]) (rest := []) (ls_q := [.long y4_1375, pm_no, .long r1452, pm_no]) rfl rfl (Or.inl rfl) pm_M213 rfl rfl (Nat.le_of_ble_eq_true rfl) rfl rfl ?_
                refine rf_c213 (d := d + 2) By4_1375 B1453 (fun r1461 B1462 => ?_)
                show pm_R _ 208 50 [.ref 41, .int a0, .int a1, .int a2, .long y4_1375, pm_no, .int x6_1164, .int x7_1375] [.long r1461] _ _
                refine pm_R_lo pm_M208 (pc_q := 52) (ls_q := [.ref 41, .int a0, .int a1, .int a2, .long r1461, pm_no, .int x6_1164, .int x7_1375]) (st_q := []) rfl rfl rfl ?_
                refine sf_R_iinc pm_M208 (pc_q := 55) (ls_q := fun z => [.ref 41, .int a0, .int a1, .int a2, .long r1461, pm_no, .int x6_1164, .int z]) rfl B1380 rfl (by decide) (by decide) (by decide) (fun _ => rfl) rfl (fun z1469 e1470 B1471 => ?_)
                show pm_R _ 208 55 [.ref 41, .int a0, .int a1, .int a2, .long r1461, pm_no, .int x6_1164, .int z1469] [] _ _
                refine pm_R_br pm_M208 (pc_q := 18) rfl rfl ?_
                exact ih_1375 _ (sf_up hN_1375 e1470 B1380 (by decide) (by decide)) z1469 r1461 (sf_weak B1471 (by decide) (by decide)) B1462 rfl
        exact L_1375 _ a1 y4_1164 Ba1 By4_1164 rfl
  exact L_1164 _ 0 0 (pm_no) (sf_weak sf_k0 (by decide) (by decide)) (lf_weak (⟨by decide, by decide⟩ : lf_B 0 0 0) (by decide) (by decide)) rfl rfl

theorem sf_aux7 (v0 v1 v2 : Int) (q0 : v0 = 100 * v1) (q1 : v2 = v0 + 1) : v2 = 100 * v1 + 1 := by omega
theorem sf_aux8 (v0 v1 v2 v3 v4 v5 v6 : Int) (q0 : v0 = 100 * v1) (q1 : v2 = v0 + 42) (q2 : v3 = 3 * v4) (q3 : v5 = v2 + v3) (q4 : v6 = v5 + 0) : v6 = 100 * v1 + 3 * v4 + 42 := by omega
theorem sf_aux9 (v0 v1 v2 v3 v4 v5 v6 : Int) (q0 : v0 = 100 * v1) (q1 : v2 = v0 + 42) (q2 : v3 = 3 * v4) (q3 : v5 = v2 + v3) (q4 : v6 = v5 + 1) : v6 = 100 * v1 + 3 * v4 + 43 := by omega
theorem sf_aux10 (v0 v1 v2 v3 v4 v5 v6 : Int) (q0 : v0 = 100 * v1) (q1 : v2 = v0 + 42) (q2 : v3 = 3 * v4) (q3 : v5 = v2 + v3) (q4 : v6 = v5 + 2) : v6 = 100 * v1 + 3 * v4 + 44 := by omega
set_option maxRecDepth 100000 in
set_option maxHeartbeats 4000000 in
/-- SilentTableModel.findValues -/
theorem rf_c216 {d : Nat} {m : Nat → Int32} {w : Int64} {h : pm_H} {Q : Option Value → pm_H → Prop}  (T : rf_T m w h)  (K : ∀ (m_q : Nat → Int32) (w_q : Int64) (h_q : pm_H), rf_T m_q w_q h_q → rf_G [54] h h_q → rf_W [] m m_q → Q none h_q) : pm_R (d + 4) 216 0 [.ref 41, pm_no, pm_no, pm_no, pm_no, pm_no] [] h Q := by
  refine pm_R_op pm_M216 (pc_q := 1) (st_q := [.int 0]) rfl rfl rfl ?_
  refine pm_R_lo pm_M216 (pc_q := 2) (ls_q := [.ref 41, .int 0, pm_no, pm_no, pm_no, pm_no]) (st_q := []) rfl rfl rfl ?_
  have L_40508 : ∀ (N : Nat) (h_40508 : pm_H) (m_40508 : Nat → Int32) (w_40508 : Int64) (x1_40508 : Int32) (g2_40508 : Value) (g3_40508 : Value) (g4_40508 : Value) (g5_40508 : Value), rf_T m_40508 w_40508 h_40508 → rf_G [54] h h_40508 → rf_W [] m m_40508 → sf_B 0 6 x1_40508 → g2_40508.category = 1 → g4_40508.category = 1 → g5_40508.category = 1 → (6 - x1_40508.toInt).toNat = N → pm_R (d + 4) 216 2 [.ref 41, .int x1_40508, g2_40508, g3_40508, g4_40508, g5_40508] [] h_40508 Q := by
    intro N
    induction N using Nat.strongRecOn with
    | ind N ih_40508 =>
      intro h_40508 m_40508 w_40508 x1_40508 g2_40508 g3_40508 g4_40508 g5_40508 T_40508 F_40508 W_40508 Bx1_40508 Cg2_40508 Cg4_40508 Cg5_40508 hN_40508
      have W40511 : rf_W [] m m_40508 := (rf_W.refl [] m).trans W_40508 (by decide)
      refine pm_R_lo pm_M216 (pc_q := 3) rfl rfl rfl ?_
      refine pm_R_op pm_M216 (pc_q := 5) (st_q := [.int 6, .int x1_40508]) rfl rfl rfl ?_
      refine pm_R_icmp pm_M216 (t := 99) (pc_q := 8) rfl rfl rfl (fun c40512 => ?_) (fun c40512 => ?_)
      · have B40513 : sf_B 6 6 x1_40508 := sf_leR c40512 sf_k6 Bx1_40508
        refine pm_R_op pm_M216 (pc_q := 100) (st_q := [.int 1]) rfl rfl rfl ?_
        refine pm_R_lo pm_M216 (pc_q := 101) (ls_q := [.ref 41, .int 1, g2_40508, g3_40508, g4_40508, g5_40508]) (st_q := []) rfl rfl rfl ?_
        have L_45514 : ∀ (N : Nat) (h_45514 : pm_H) (m_45514 : Nat → Int32) (w_45514 : Int64) (x1_45514 : Int32) (g2_45514 : Value) (g3_45514 : Value), rf_T m_45514 w_45514 h_45514 → rf_G [54] h h_45514 → rf_W [] m_40508 m_45514 → sf_B 1 12 x1_45514 → g2_45514.category = 1 → (12 - x1_45514.toInt).toNat = N → pm_R (d + 4) 216 101 [.ref 41, .int x1_45514, g2_45514, g3_45514, g4_40508, g5_40508] [] h_45514 Q := by
          intro N
          induction N using Nat.strongRecOn with
          | ind N ih_45514 =>
            intro h_45514 m_45514 w_45514 x1_45514 g2_45514 g3_45514 T_45514 F_45514 W_45514 Bx1_45514 Cg2_45514 hN_45514
            have W45517 : rf_W [] m m_45514 := W40511.trans W_45514 (by decide)
            have W45518 : rf_W [] m m_45514 := W_40508.trans W_45514 (by decide)
            refine pm_R_lo pm_M216 (pc_q := 102) rfl rfl rfl ?_
            refine pm_R_lo pm_M216 (pc_q := 103) rfl rfl rfl ?_
            have B45519 : sf_B 0 12 (m_45514 24) := T_45514.2.2.1 24
            refine rf_R_get pm_M216 T_45514 (pc_q := 106) (v := .int (m_45514 24)) rfl rfl rfl rfl ?_
            refine pm_R_icmp pm_M216 (t := 169) (pc_q := 109) (pm_q216_1 (Nat.le_of_ble_eq_true rfl)) rfl rfl (fun c45520 => ?_) (fun c45520 => ?_)
            · skip
              exact pm_R_ret pm_M216 (r := none) (pm_q216_1 (Nat.le_of_ble_eq_true rfl)) rfl (K m_45514 w_45514 h_45514 T_45514 F_45514 W45517)
            · have B45521 : sf_B 1 11 x1_45514 := sf_ltL (Int32.not_le.mp c45520) Bx1_45514 B45519
              have B45522 : sf_B 2 12 (m_45514 24) := sf_ltR (Int32.not_le.mp c45520) Bx1_45514 B45519
              refine pm_R_op pm_M216 (pc_q := 110) (st_q := [.int 0]) (pm_q216_1 (Nat.le_of_ble_eq_true rfl)) rfl rfl ?_
              refine pm_R_lo pm_M216 (pc_q := 111) (ls_q := [.ref 41, .int x1_45514, .int 0, g3_45514, g4_40508, g5_40508]) (st_q := []) (pm_q216_1 (Nat.le_of_ble_eq_true rfl)) rfl rfl ?_
              have L_46515 : ∀ (N : Nat) (h_46515 : pm_H) (m_46515 : Nat → Int32) (w_46515 : Int64) (x2_46515 : Int32) (g3_46515 : Value), rf_T m_46515 w_46515 h_46515 → rf_G [54] h h_46515 → rf_W [] m_45514 m_46515 → sf_B 0 11 x2_46515 → (11 - x2_46515.toInt).toNat = N → pm_R (d + 4) 216 111 [.ref 41, .int x1_45514, .int x2_46515, g3_46515, g4_40508, g5_40508] [] h_46515 Q := by
                intro N
                induction N using Nat.strongRecOn with
                | ind N ih_46515 =>
                  intro h_46515 m_46515 w_46515 x2_46515 g3_46515 T_46515 F_46515 W_46515 Bx2_46515 hN_46515
                  have B46518 : sf_B 2 12 (m_46515 24) := by rw [W_46515 24 (by decide)]; exact B45522
                  have W46519 : rf_W [] m m_46515 := W45517.trans W_46515 (by decide)
                  have W46520 : rf_W [] m m_46515 := W45518.trans W_46515 (by decide)
                  have W46521 : rf_W [] m_40508 m_46515 := W_45514.trans W_46515 (by decide)
                  refine pm_R_lo pm_M216 (pc_q := 112) (pm_q216_1 (Nat.le_of_ble_eq_true rfl)) rfl rfl ?_
                  refine pm_R_lo pm_M216 (pc_q := 113) (pm_q216_1 (Nat.le_of_ble_eq_true rfl)) rfl rfl ?_
                  refine sf_R_iadd pm_M216 (pc_q := 114) (pm_q216_1 (Nat.le_of_ble_eq_true rfl)) rfl Bx2_46515 B45521 (by decide) (by decide) (fun z46522 e46523 B46524 => ?_)
                  refine pm_R_lo pm_M216 (pc_q := 115) (pm_q216_1 (Nat.le_of_ble_eq_true rfl)) rfl rfl ?_
                  refine rf_R_get pm_M216 T_46515 (pc_q := 118) (v := .int (m_46515 24)) (pm_q216_1 (Nat.le_of_ble_eq_true rfl)) rfl rfl rfl ?_
                  refine pm_R_icmp pm_M216 (t := 163) (pc_q := 121) (pm_q216_1 (Nat.le_of_ble_eq_true rfl)) rfl rfl (fun c46525 => ?_) (fun c46525 => ?_)
                  · have B46526 : sf_B 2 22 z46522 := sf_leR c46525 B46518 B46524
                    refine sf_R_iinc pm_M216 (pc_q := 166) (ls_q := fun z => [.ref 41, .int z, .int x2_46515, g3_46515, g4_40508, g5_40508]) (pm_q216_1 (Nat.le_of_ble_eq_true rfl)) B45521 rfl (by decide) (by decide) (by decide) (fun _ => rfl) rfl (fun z46527 e46528 B46529 => ?_)
                    show pm_R _ 216 166 [.ref 41, .int z46527, .int x2_46515, g3_46515, g4_40508, g5_40508] [] _ _
                    refine pm_R_br pm_M216 (pc_q := 101) (pm_q216_1 (Nat.le_of_ble_eq_true rfl)) rfl ?_
                    exact ih_45514 _ (sf_up hN_45514 e46528 B45521 (by decide) (by decide)) h_46515 m_46515 w_46515 z46527 (.int x2_46515) (g3_46515) T_46515 F_46515 W46521 (sf_weak B46529 (by decide) (by decide)) rfl rfl
                  · have B46530 : sf_B 1 11 z46522 := sf_ltL (Int32.not_le.mp c46525) B46524 B46518
                    have B46531 : sf_B 0 10 x2_46515 := sf_addL e46523 B46530 B45521 Bx2_46515
                    refine pm_R_op pm_M216 (pc_q := 122) (st_q := [.int 0]) (pm_q216_1 (Nat.le_of_ble_eq_true rfl)) rfl rfl ?_
                    refine pm_R_lo pm_M216 (pc_q := 123) (ls_q := [.ref 41, .int x1_45514, .int x2_46515, .int 0, g4_40508, g5_40508]) (st_q := []) (pm_q216_1 (Nat.le_of_ble_eq_true rfl)) rfl rfl ?_
                    have L_46717 : ∀ (N : Nat) (h_46717 : pm_H) (m_46717 : Nat → Int32) (w_46717 : Int64) (x3_46717 : Int32), rf_T m_46717 w_46717 h_46717 → rf_G [54] h h_46717 → rf_W [] m_46515 m_46717 → sf_B 0 6 x3_46717 → (6 - x3_46717.toInt).toNat = N → pm_R (d + 4) 216 123 [.ref 41, .int x1_45514, .int x2_46515, .int x3_46717, g4_40508, g5_40508] [] h_46717 Q := by
                      intro N
                      induction N using Nat.strongRecOn with
                      | ind N ih_46717 =>
                        intro h_46717 m_46717 w_46717 x3_46717 T_46717 F_46717 W_46717 Bx3_46717 hN_46717
                        have B46720 : sf_B 2 12 (m_46717 24) := by rw [W_46717 24 (by decide)]; exact B46518
                        have W46721 : rf_W [] m m_46717 := W46519.trans W_46717 (by decide)
                        have W46722 : rf_W [] m m_46717 := W46520.trans W_46717 (by decide)
                        have W46723 : rf_W [] m_40508 m_46717 := W46521.trans W_46717 (by decide)
                        have W46724 : rf_W [] m_45514 m_46717 := W_46515.trans W_46717 (by decide)
                        refine pm_R_lo pm_M216 (pc_q := 124) (pm_q216_1 (Nat.le_of_ble_eq_true rfl)) rfl rfl ?_
                        refine pm_R_op pm_M216 (pc_q := 126) (st_q := [.int 6, .int x3_46717]) (pm_q216_1 (Nat.le_of_ble_eq_true rfl)) rfl rfl ?_
                        refine pm_R_icmp pm_M216 (t := 157) (pc_q := 129) (pm_q216_1 (Nat.le_of_ble_eq_true rfl)) rfl rfl (fun c46725 => ?_) (fun c46725 => ?_)
                        · have B46726 : sf_B 6 6 x3_46717 := sf_leR c46725 sf_k6 Bx3_46717
                          refine sf_R_iinc pm_M216 (pc_q := 160) (ls_q := fun z => [.ref 41, .int x1_45514, .int z, .int x3_46717, g4_40508, g5_40508]) (pm_q216_1 (Nat.le_of_ble_eq_true rfl)) B46531 rfl (by decide) (by decide) (by decide) (fun _ => rfl) rfl (fun z46727 e46728 B46729 => ?_)
                          show pm_R _ 216 160 [.ref 41, .int x1_45514, .int z46727, .int x3_46717, g4_40508, g5_40508] [] _ _
                          refine pm_R_br pm_M216 (pc_q := 111) (pm_q216_1 (Nat.le_of_ble_eq_true rfl)) rfl ?_
                          exact ih_46515 _ (sf_up hN_46515 e46728 B46531 (by decide) (by decide)) h_46717 m_46717 w_46717 z46727 (.int x3_46717) T_46717 F_46717 W46724 (sf_weak B46729 (by decide) (by decide)) rfl
                        · have B46730 : sf_B 0 5 x3_46717 := sf_ltL (Int32.not_le.mp c46725) Bx3_46717 sf_k6
                          refine pm_R_lo pm_M216 (pc_q := 130) (pm_q216_1 (Nat.le_of_ble_eq_true rfl)) rfl rfl ?_
                          refine rf_R_get pm_M216 T_46717 (pc_q := 133) (v := .ref 54) (pm_q216_1 (Nat.le_of_ble_eq_true rfl)) rfl rfl rfl ?_
                          refine pm_R_lo pm_M216 (pc_q := 134) (pm_q216_1 (Nat.le_of_ble_eq_true rfl)) rfl rfl ?_
                          refine pm_R_lo pm_M216 (pc_q := 135) (pm_q216_1 (Nat.le_of_ble_eq_true rfl)) rfl rfl ?_
                          refine pm_R_lo pm_M216 (pc_q := 136) (pm_q216_1 (Nat.le_of_ble_eq_true rfl)) rfl rfl ?_
                          refine pm_R_lo pm_M216 (pc_q := 137) (pm_q216_1 (Nat.le_of_ble_eq_true rfl)) rfl rfl ?_
                          refine sf_R_iaddV pm_M216 (pc_q := 138) (pm_q216_1 (Nat.le_of_ble_eq_true rfl)) rfl Bx2_46515 B45521 (by decide) (by decide) e46523 ?_
                          refine pm_R_cs pm_M216 (pc_q := 141) (ra := [.int z46522, .int x2_46515, .int x3_46717]) (rest := [.ref 54]) (ls_q := [.int x3_46717, .int x2_46515, .int z46522]) (pm_q216_1 (Nat.le_of_ble_eq_true rfl)) rfl (Or.inl rfl) pm_M207 rfl rfl (Nat.le_of_ble_eq_true rfl) rfl rfl ?_
                          refine pm_R_op pm_M207 (pc_q := 3) (st_q := [.int 144]) rfl rfl rfl ?_
                          refine pm_R_lo pm_M207 (pc_q := 4) rfl rfl rfl ?_
                          refine sf_R_imul pm_M207 (pc_q := 5) rfl rfl sf_k144 B46730 (by decide) (by decide) (by decide) (fun z46731 e46732 B46733 => ?_)
                          refine pm_R_op pm_M207 (pc_q := 7) (st_q := [.int 12, .int z46731]) rfl rfl rfl ?_
                          refine pm_R_lo pm_M207 (pc_q := 8) rfl rfl rfl ?_
                          refine sf_R_imul pm_M207 (pc_q := 9) rfl rfl sf_k12 B46531 (by decide) (by decide) (by decide) (fun z46734 e46735 B46736 => ?_)
                          refine sf_R_iadd pm_M207 (pc_q := 10) rfl rfl B46733 B46736 (by decide) (by decide) (fun z46737 e46738 B46739 => ?_)
                          refine pm_R_lo pm_M207 (pc_q := 11) rfl rfl rfl ?_
                          refine sf_R_iadd pm_M207 (pc_q := 12) rfl rfl B46739 B46530 (by decide) (by decide) (fun z46740 e46741 B46742 => ?_)
                          refine pm_R_ret pm_M207 (r := some (.int z46740)) rfl (pm_ret_i _) ?_
                          show pm_R _ 216 141 [.ref 41, .int x1_45514, .int x2_46515, .int x3_46717, g4_40508, g5_40508] [.int z46740, .ref 54] _ _
                          refine pm_R_lo pm_M216 (pc_q := 142) (pm_q216_1 (Nat.le_of_ble_eq_true rfl)) rfl rfl ?_
                          refine pm_R_lo pm_M216 (pc_q := 143) (pm_q216_1 (Nat.le_of_ble_eq_true rfl)) rfl rfl ?_
                          refine pm_R_lo pm_M216 (pc_q := 144) (pm_q216_1 (Nat.le_of_ble_eq_true rfl)) rfl rfl ?_
                          refine pm_R_lo pm_M216 (pc_q := 145) (pm_q216_1 (Nat.le_of_ble_eq_true rfl)) rfl rfl ?_
                          refine pm_R_lo pm_M216 (pc_q := 146) (pm_q216_1 (Nat.le_of_ble_eq_true rfl)) rfl rfl ?_
                          refine sf_R_iaddV pm_M216 (pc_q := 147) (pm_q216_1 (Nat.le_of_ble_eq_true rfl)) rfl Bx2_46515 B45521 (by decide) (by decide) e46523 ?_
                          refine pm_R_cv pm_M216 (pc_q := 150) (a := 41) (ra := [.int z46522, .int x2_46515, .int x3_46717]) (rest := [.int z46740, .ref 54]) (ls_q := [.ref 41, .int x3_46717, .int x2_46515, .int z46522, pm_no, pm_no, pm_no, pm_no]) (pm_q216_1 (Nat.le_of_ble_eq_true rfl)) rfl (Or.inl rfl) pm_M217 T_46717.2.1 rfl (by decide) (Nat.lt_of_lt_of_le (by decide) T_46717.1) rfl rfl (Nat.le_of_ble_eq_true rfl) rfl rfl ?_
                          refine rf_c217 (d := d + 0) T_46717 B46730 (sf_weak B46531 (by decide) (by decide)) (sf_weak B46530 (by decide) (by decide)) (fun r46743 => ?_)
                          show pm_R _ 216 150 [.ref 41, .int x1_45514, .int x2_46515, .int x3_46717, g4_40508, g5_40508] [.long r46743, .int z46740, .ref 54] _ _
                          obtain ⟨f46751, e46752⟩ := T_46717.2.2.2.1 54 (by decide) (by decide)
                          refine rf_R_lst pm_M216 T_46717 (pc_q := 151) (pm_q216_1 (Nat.le_of_ble_eq_true rfl)) e46752 (by decide) (by decide) (sf_in B46742 (by decide) (by decide)) ⟨_, rfl⟩ rfl (fun h46754 T46755 F46756 e46757 => ?_)
                          have F46758 := F_46717.trans F46756 (by decide)
                          refine sf_R_iinc pm_M216 (pc_q := 154) (ls_q := fun z => [.ref 41, .int x1_45514, .int x2_46515, .int z, g4_40508, g5_40508]) (pm_q216_1 (Nat.le_of_ble_eq_true rfl)) B46730 rfl (by decide) (by decide) (by decide) (fun _ => rfl) rfl (fun z46759 e46760 B46761 => ?_)
                          show pm_R _ 216 154 [.ref 41, .int x1_45514, .int x2_46515, .int z46759, g4_40508, g5_40508] [] _ _
                          refine pm_R_br pm_M216 (pc_q := 123) (pm_q216_1 (Nat.le_of_ble_eq_true rfl)) rfl ?_
                          exact ih_46717 _ (sf_up hN_46717 e46760 B46730 (by decide) (by decide)) h46754 m_46717 w_46717 z46759 T46755 F46758 W_46717 (sf_weak B46761 (by decide) (by decide)) rfl
                    exact L_46717 _ h_46515 m_46515 w_46515 0 T_46515 F_46515 (rf_W.refl _ _) (sf_weak sf_k0 (by decide) (by decide)) rfl
              exact L_46515 _ h_45514 m_45514 w_45514 0 (g3_45514) T_45514 F_45514 (rf_W.refl _ _) (sf_weak sf_k0 (by decide) (by decide)) rfl
        exact L_45514 _ h_40508 m_40508 w_40508 1 (g2_40508) (g3_40508) T_40508 F_40508 (rf_W.refl _ _) (sf_weak sf_k1 (by decide) (by decide)) Cg2_40508 rfl
      · have B46762 : sf_B 0 5 x1_40508 := sf_ltL (Int32.not_le.mp c40512) Bx1_40508 sf_k6
        refine pm_R_op pm_M216 (pc_q := 9) (st_q := [.int 0]) rfl rfl rfl ?_
        refine pm_R_lo pm_M216 (pc_q := 10) (ls_q := [.ref 41, .int x1_40508, .int 0, g3_40508, g4_40508, g5_40508]) (st_q := []) rfl rfl rfl ?_
        have L_51653 : ∀ (N : Nat) (h_51653 : pm_H) (m_51653 : Nat → Int32) (w_51653 : Int64) (x2_51653 : Int32) (g3_51653 : Value) (g4_51653 : Value) (g5_51653 : Value), rf_T m_51653 w_51653 h_51653 → rf_G [54] h h_51653 → rf_W [] m_40508 m_51653 → sf_B 0 12 x2_51653 → g4_51653.category = 1 → g5_51653.category = 1 → (12 - x2_51653.toInt).toNat = N → pm_R (d + 4) 216 10 [.ref 41, .int x1_40508, .int x2_51653, g3_51653, g4_51653, g5_51653] [] h_51653 Q := by
          intro N
          induction N using Nat.strongRecOn with
          | ind N ih_51653 =>
            intro h_51653 m_51653 w_51653 x2_51653 g3_51653 g4_51653 g5_51653 T_51653 F_51653 W_51653 Bx2_51653 Cg4_51653 Cg5_51653 hN_51653
            have W51656 : rf_W [] m m_51653 := W40511.trans W_51653 (by decide)
            have W51657 : rf_W [] m m_51653 := W_40508.trans W_51653 (by decide)
            refine pm_R_lo pm_M216 (pc_q := 11) rfl rfl rfl ?_
            refine pm_R_lo pm_M216 (pc_q := 12) rfl rfl rfl ?_
            have B51658 : sf_B 0 12 (m_51653 24) := T_51653.2.2.1 24
            refine rf_R_get pm_M216 T_51653 (pc_q := 15) (v := .int (m_51653 24)) rfl rfl rfl rfl ?_
            refine pm_R_icmp pm_M216 (t := 93) (pc_q := 18) rfl rfl rfl (fun c51659 => ?_) (fun c51659 => ?_)
            · skip
              refine sf_R_iinc pm_M216 (pc_q := 96) (ls_q := fun z => [.ref 41, .int z, .int x2_51653, g3_51653, g4_51653, g5_51653]) rfl B46762 rfl (by decide) (by decide) (by decide) (fun _ => rfl) rfl (fun z51660 e51661 B51662 => ?_)
              show pm_R _ 216 96 [.ref 41, .int z51660, .int x2_51653, g3_51653, g4_51653, g5_51653] [] _ _
              refine pm_R_br pm_M216 (pc_q := 2) rfl rfl ?_
              exact ih_40508 _ (sf_up hN_40508 e51661 B46762 (by decide) (by decide)) h_51653 m_51653 w_51653 z51660 (.int x2_51653) (g3_51653) (g4_51653) (g5_51653) T_51653 F_51653 W51657 (sf_weak B51662 (by decide) (by decide)) rfl Cg4_51653 Cg5_51653 rfl
            · have B51663 : sf_B 0 11 x2_51653 := sf_ltL (Int32.not_le.mp c51659) Bx2_51653 B51658
              have B51664 : sf_B 1 12 (m_51653 24) := sf_ltR (Int32.not_le.mp c51659) Bx2_51653 B51658
              refine pm_R_op pm_M216 (pc_q := 19) (st_q := [.long 0]) rfl rfl rfl ?_
              refine pm_R_lo pm_M216 (pc_q := 20) (ls_q := [.ref 41, .int x1_40508, .int x2_51653, .long 0, pm_no, g5_51653]) (st_q := []) rfl rfl rfl ?_
              refine pm_R_op pm_M216 (pc_q := 21) (st_q := [.int 0]) rfl rfl rfl ?_
              refine pm_R_lo pm_M216 (pc_q := 23) (ls_q := [.ref 41, .int x1_40508, .int x2_51653, .long 0, pm_no, .int 0]) (st_q := []) rfl rfl rfl ?_
              have L_52467 : ∀ (N : Nat) (x5_52467 : Int32) (y3_52467 : Int64), sf_B 0 16 x5_52467 → (16 - x5_52467.toInt).toNat = N → pm_R (d + 4) 216 23 [.ref 41, .int x1_40508, .int x2_51653, .long y3_52467, pm_no, .int x5_52467] [] h_51653 Q := by
                intro N
                induction N using Nat.strongRecOn with
                | ind N ih_52467 =>
                  intro x5_52467 y3_52467 Bx5_52467 hN_52467
                  refine pm_R_lo pm_M216 (pc_q := 25) rfl rfl rfl ?_
                  refine pm_R_lo pm_M216 (pc_q := 26) rfl rfl rfl ?_
                  refine pm_R_cv pm_M216 (pc_q := 29) (a := 41) (ra := []) (rest := [.int x5_52467]) (ls_q := [.ref 41]) rfl rfl (Or.inl rfl) pm_M203 T_51653.2.1 rfl (by decide) (Nat.lt_of_lt_of_le (by decide) T_51653.1) rfl rfl (Nat.le_of_ble_eq_true rfl) rfl rfl ?_
                  refine pm_R_lo pm_M203 (pc_q := 1) rfl rfl rfl ?_
                  refine rf_R_get pm_M203 T_51653 (pc_q := 4) (v := .ref 47) rfl rfl rfl rfl ?_
                  refine pm_R_op pm_M203 (pc_q := 6) (st_q := [.int 100, .ref 47]) rfl rfl rfl ?_
                  refine pm_R_lo pm_M203 (pc_q := 7) rfl rfl rfl ?_
                  have B52468 : sf_B 0 1 (m_51653 23) := T_51653.2.2.1 23
                  refine rf_R_get pm_M203 T_51653 (pc_q := 10) (v := .int (m_51653 23)) rfl rfl rfl rfl ?_
                  refine sf_R_imul pm_M203 (pc_q := 11) rfl rfl sf_k100 B52468 (by decide) (by decide) (by decide) (fun z52469 e52470 B52471 => ?_)
                  refine pm_R_op pm_M203 (pc_q := 12) (st_q := [.int 1, .int z52469, .ref 47]) rfl rfl rfl ?_
                  refine sf_R_iadd pm_M203 (pc_q := 13) rfl rfl B52471 sf_k1 (by decide) (by decide) (fun z52472 e52473 B52474 => ?_)
                  obtain ⟨f52475, e52476, b52477⟩ := T_51653.2.2.2.1 47 (by decide) (by decide)
                  refine rf_R_ild pm_M203 T_51653 (pc_q := 14) rfl e52476 (by decide) (sf_in B52474 (by decide) (by decide)) rfl (fun z52478 ez52479 => ?_)
                  have e52480 : (z52472).toInt = 100 * ((m_51653 23)).toInt + 1 := (sf_aux7 _ _ _ e52470 e52473)
                  have B52481 : sf_B 0 16 z52478 := ez52479 ▸ rf_p47b b52477 e52480 B52468 (by decide)
                  refine pm_R_ret pm_M203 (r := some (.int z52478)) rfl (pm_ret_i _) ?_
                  show pm_R _ 216 29 [.ref 41, .int x1_40508, .int x2_51653, .long y3_52467, pm_no, .int x5_52467] [.int z52478, .int x5_52467] _ _
                  refine pm_R_icmp pm_M216 (t := 75) (pc_q := 32) rfl rfl rfl (fun c52482 => ?_) (fun c52482 => ?_)
                  · skip
                    refine pm_R_lo pm_M216 (pc_q := 76) rfl rfl rfl ?_
                    refine rf_R_get pm_M216 T_51653 (pc_q := 79) (v := .ref 54) rfl rfl rfl rfl ?_
                    refine pm_R_lo pm_M216 (pc_q := 80) rfl rfl rfl ?_
                    refine pm_R_lo pm_M216 (pc_q := 81) rfl rfl rfl ?_
                    refine pm_R_lo pm_M216 (pc_q := 82) rfl rfl rfl ?_
                    refine pm_R_cs pm_M216 (pc_q := 85) (ra := [.int x2_51653, .int x2_51653, .int x1_40508]) (rest := [.ref 54]) (ls_q := [.int x1_40508, .int x2_51653, .int x2_51653]) rfl rfl (Or.inl rfl) pm_M207 rfl rfl (Nat.le_of_ble_eq_true rfl) rfl rfl ?_
                    refine pm_R_op pm_M207 (pc_q := 3) (st_q := [.int 144]) rfl rfl rfl ?_
                    refine pm_R_lo pm_M207 (pc_q := 4) rfl rfl rfl ?_
                    refine sf_R_imul pm_M207 (pc_q := 5) rfl rfl sf_k144 B46762 (by decide) (by decide) (by decide) (fun z52483 e52484 B52485 => ?_)
                    refine pm_R_op pm_M207 (pc_q := 7) (st_q := [.int 12, .int z52483]) rfl rfl rfl ?_
                    refine pm_R_lo pm_M207 (pc_q := 8) rfl rfl rfl ?_
                    refine sf_R_imul pm_M207 (pc_q := 9) rfl rfl sf_k12 B51663 (by decide) (by decide) (by decide) (fun z52486 e52487 B52488 => ?_)
                    refine sf_R_iadd pm_M207 (pc_q := 10) rfl rfl B52485 B52488 (by decide) (by decide) (fun z52489 e52490 B52491 => ?_)
                    refine pm_R_lo pm_M207 (pc_q := 11) rfl rfl rfl ?_
                    refine sf_R_iadd pm_M207 (pc_q := 12) rfl rfl B52491 B51663 (by decide) (by decide) (fun z52492 e52493 B52494 => ?_)
                    refine pm_R_ret pm_M207 (r := some (.int z52492)) rfl (pm_ret_i _) ?_
                    show pm_R _ 216 85 [.ref 41, .int x1_40508, .int x2_51653, .long y3_52467, pm_no, .int x5_52467] [.int z52492, .ref 54] _ _
                    refine pm_R_lo pm_M216 (pc_q := 86) rfl rfl rfl ?_
                    obtain ⟨f52495, e52496⟩ := T_51653.2.2.2.1 54 (by decide) (by decide)
                    refine rf_R_lst pm_M216 T_51653 (pc_q := 87) rfl e52496 (by decide) (by decide) (sf_in B52494 (by decide) (by decide)) ⟨_, rfl⟩ rfl (fun h52498 T52499 F52500 e52501 => ?_)
                    have F52502 := F_51653.trans F52500 (by decide)
                    refine sf_R_iinc pm_M216 (pc_q := 90) (ls_q := fun z => [.ref 41, .int x1_40508, .int z, .long y3_52467, pm_no, .int x5_52467]) rfl B51663 rfl (by decide) (by decide) (by decide) (fun _ => rfl) rfl (fun z52503 e52504 B52505 => ?_)
                    show pm_R _ 216 90 [.ref 41, .int x1_40508, .int z52503, .long y3_52467, pm_no, .int x5_52467] [] _ _
                    refine pm_R_br pm_M216 (pc_q := 10) rfl rfl ?_
                    exact ih_51653 _ (sf_up hN_51653 e52504 B51663 (by decide) (by decide)) h52498 m_51653 w_51653 z52503 (.long y3_52467) (pm_no) (.int x5_52467) T52499 F52502 W_51653 (sf_weak B52505 (by decide) (by decide)) rfl rfl rfl
                  · have B52506 : sf_B 0 15 x5_52467 := sf_ltL (Int32.not_le.mp c52482) Bx5_52467 B52481
                    have B52507 : sf_B 1 16 z52478 := sf_ltR (Int32.not_le.mp c52482) Bx5_52467 B52481
                    refine pm_R_lo pm_M216 (pc_q := 33) rfl rfl rfl ?_
                    refine pm_R_lo pm_M216 (pc_q := 34) rfl rfl rfl ?_
                    refine pm_R_lo pm_M216 (pc_q := 36) rfl rfl rfl ?_
                    refine pm_R_lo pm_M216 (pc_q := 37) rfl rfl rfl ?_
                    refine pm_R_cv pm_M216 (pc_q := 40) (a := 41) (ra := [.int x2_51653, .int x5_52467]) (rest := [.long y3_52467]) (ls_q := [.ref 41, .int x5_52467, .int x2_51653]) rfl rfl (Or.inl rfl) pm_M204 T_51653.2.1 rfl (by decide) (Nat.lt_of_lt_of_le (by decide) T_51653.1) rfl rfl (Nat.le_of_ble_eq_true rfl) rfl rfl ?_
                    refine pm_R_lo pm_M204 (pc_q := 1) rfl rfl rfl ?_
                    refine rf_R_get pm_M204 T_51653 (pc_q := 4) (v := .ref 53) rfl rfl rfl rfl ?_
                    refine pm_R_lo pm_M204 (pc_q := 5) rfl rfl rfl ?_
                    obtain ⟨f52508, e52509⟩ := T_51653.2.2.2.1 53 (by decide) (by decide)
                    refine rf_R_ild pm_M204 T_51653 (pc_q := 6) rfl e52509 (by decide) (sf_in B51663 (by decide) (by decide)) rfl (fun z52511 ez52512 => ?_)
                    refine sf_R_lany pm_M204 (pc_q := 7) (st := []) rfl rfl rfl (fun z52513 => ?_)
                    refine pm_R_lo pm_M204 (pc_q := 8) rfl rfl rfl ?_
                    refine pm_R_lo pm_M204 (pc_q := 9) rfl rfl rfl ?_
                    refine pm_R_op pm_M204 (pc_q := 10) (st_q := [.int 0, .int x5_52467, .ref 41, .long z52513]) rfl rfl rfl ?_
                    refine pm_R_cv pm_M204 (pc_q := 13) (a := 41) (ra := [.int 0, .int x5_52467]) (rest := [.long z52513]) (ls_q := [.ref 41, .int x5_52467, .int 0]) rfl rfl (Or.inl rfl) pm_M205 T_51653.2.1 rfl (by decide) (Nat.lt_of_lt_of_le (by decide) T_51653.1) rfl rfl (Nat.le_of_ble_eq_true rfl) rfl rfl ?_
                    refine pm_R_lo pm_M205 (pc_q := 1) rfl rfl rfl ?_
                    refine rf_R_get pm_M205 T_51653 (pc_q := 4) (v := .ref 47) rfl rfl rfl rfl ?_
                    refine pm_R_op pm_M205 (pc_q := 6) (st_q := [.int 100, .ref 47]) rfl rfl rfl ?_
                    refine pm_R_lo pm_M205 (pc_q := 7) rfl rfl rfl ?_
                    refine rf_R_get pm_M205 T_51653 (pc_q := 10) (v := .int (m_51653 23)) rfl rfl rfl rfl ?_
                    refine sf_R_imulV pm_M205 (pc_q := 11) rfl rfl sf_k100 B52468 (by decide) (by decide) (by decide) e52470 ?_
                    refine pm_R_op pm_M205 (pc_q := 13) (st_q := [.int 42, .int z52469, .ref 47]) rfl rfl rfl ?_
                    refine sf_R_iadd pm_M205 (pc_q := 14) rfl rfl B52471 sf_k42 (by decide) (by decide) (fun z52514 e52515 B52516 => ?_)
                    refine pm_R_op pm_M205 (pc_q := 15) (st_q := [.int 3, .int z52514, .ref 47]) rfl rfl rfl ?_
                    refine pm_R_lo pm_M205 (pc_q := 16) rfl rfl rfl ?_
                    refine sf_R_imul pm_M205 (pc_q := 17) rfl rfl sf_k3 B52506 (by decide) (by decide) (by decide) (fun z52517 e52518 B52519 => ?_)
                    refine sf_R_iadd pm_M205 (pc_q := 18) rfl rfl B52516 B52519 (by decide) (by decide) (fun z52520 e52521 B52522 => ?_)
                    refine pm_R_lo pm_M205 (pc_q := 19) rfl rfl rfl ?_
                    refine sf_R_iadd pm_M205 (pc_q := 20) rfl rfl B52522 sf_k0 (by decide) (by decide) (fun z52523 e52524 B52525 => ?_)
                    refine rf_R_ild pm_M205 T_51653 (pc_q := 21) rfl e52476 (by decide) (sf_in B52525 (by decide) (by decide)) rfl (fun z52526 ez52527 => ?_)
                    have e52528 : (z52523).toInt = 100 * ((m_51653 23)).toInt + 3 * (x5_52467).toInt + 42 := (sf_aux8 _ _ _ _ _ _ _ e52470 e52515 e52518 e52521 e52524)
                    have B52529 : sf_B 0 9 z52526 := ez52527 ▸ rf_p47s b52477 e52528 B52468 B52506 (by decide) (by decide) (by decide)
                    refine pm_R_ret pm_M205 (r := some (.int z52526)) rfl (pm_ret_i _) ?_
                    show pm_R _ 204 13 [.ref 41, .int x5_52467, .int x2_51653] [.int z52526, .long z52513] _ _
                    refine pm_R_cs pm_M204 (pc_q := 16) (ra := [.int z52526, .long z52513]) (rest := []) (ls_q := [.long z52513, pm_no, .int z52526]) rfl rfl (Or.inl rfl) pm_M206 rfl rfl (Nat.le_of_ble_eq_true rfl) rfl rfl ?_
                    refine pm_R_lo pm_M206 (pc_q := 1) rfl rfl rfl ?_
                    refine pm_R_lo pm_M206 (pc_q := 2) rfl rfl rfl ?_
                    refine sf_R_lany pm_M206 (pc_q := 3) (st := []) rfl rfl rfl (fun z52530 => ?_)
                    refine pm_R_op pm_M206 (pc_q := 4) (st_q := [.long 1, .long z52530]) rfl rfl rfl ?_
                    refine sf_R_lany pm_M206 (pc_q := 5) (st := []) rfl rfl rfl (fun z52531 => ?_)
                    refine pm_R_op pm_M206 (pc_q := 6) (st_q := [.long 1, .long z52531]) rfl rfl rfl ?_
                    refine sf_R_lcmp pm_M206 (pc_q := 7) rfl rfl (fun z52532 e52533 => ?_)
                    refine pm_R_ifc pm_M206 (t := 14) (pc_q := 10) rfl rfl rfl (fun c52534 => ?_) (fun c52534 => ?_)
                    · have k52535 := sf_lneC e52533 c52534
                      refine pm_R_op pm_M206 (pc_q := 15) (st_q := [.int 0]) rfl rfl rfl ?_
                      refine pm_R_ret pm_M206 (r := some (.int 0)) rfl rfl ?_
                      show pm_R _ 204 16 [.ref 41, .int x5_52467, .int x2_51653] [.int 0] _ _
                      refine pm_R_br pm_M204 (pc_q := 39) (st_q := []) rfl rfl ?_
                      refine pm_R_op pm_M204 (pc_q := 40) (st_q := [.int 0]) rfl rfl rfl ?_
                      refine pm_R_ret pm_M204 (r := some (.int 0)) rfl rfl ?_
                      show pm_R _ 216 40 [.ref 41, .int x1_40508, .int x2_51653, .long y3_52467, pm_no, .int x5_52467] [.int 0, .long y3_52467] _ _
                      refine pm_R_br pm_M216 (pc_q := 66) (st_q := [.long y3_52467]) rfl rfl ?_
                      refine pm_R_op pm_M216 (pc_q := 67) (st_q := [.long 0, .long y3_52467]) rfl rfl rfl ?_
                      refine sf_R_lany pm_M216 (pc_q := 68) (st := []) rfl rfl rfl (fun z52536 => ?_)
                      refine pm_R_lo pm_M216 (pc_q := 69) (ls_q := [.ref 41, .int x1_40508, .int x2_51653, .long z52536, pm_no, .int x5_52467]) (st_q := []) rfl rfl rfl ?_
                      refine sf_R_iinc pm_M216 (pc_q := 72) (ls_q := fun z => [.ref 41, .int x1_40508, .int x2_51653, .long z52536, pm_no, .int z]) rfl B52506 rfl (by decide) (by decide) (by decide) (fun _ => rfl) rfl (fun z52537 e52538 B52539 => ?_)
                      show pm_R _ 216 72 [.ref 41, .int x1_40508, .int x2_51653, .long z52536, pm_no, .int z52537] [] _ _
                      refine pm_R_br pm_M216 (pc_q := 23) rfl rfl ?_
                      exact ih_52467 _ (sf_up hN_52467 e52538 B52506 (by decide) (by decide)) z52537 z52536 (sf_weak B52539 (by decide) (by decide)) rfl
                    · have B52540 : sf_B 0 0 z52532 := sf_eqL (Classical.not_not.mp c52534) sf_k0
                      have B52541 : lf_B 1 1 z52531 := lf_eqB e52533 B52540 (⟨by decide, by decide⟩ : lf_B 1 1 1)
                      refine pm_R_op pm_M206 (pc_q := 11) (st_q := [.int 1]) rfl rfl rfl ?_
                      refine pm_R_br pm_M206 (pc_q := 15) rfl rfl ?_
                      refine pm_R_ret pm_M206 (r := some (.int 1)) rfl rfl ?_
                      show pm_R _ 204 16 [.ref 41, .int x5_52467, .int x2_51653] [.int 1] _ _
                      refine pm_R_br pm_M204 (pc_q := 19) (st_q := []) rfl rfl ?_
                      refine pm_R_lo pm_M204 (pc_q := 20) rfl rfl rfl ?_
                      have B52542 : sf_B (-1) 11 (m_51653 26) := T_51653.2.2.1 26
                      refine rf_R_get pm_M204 T_51653 (pc_q := 23) (v := .int (m_51653 26)) rfl rfl rfl rfl ?_
                      refine pm_R_lo pm_M204 (pc_q := 24) rfl rfl rfl ?_
                      refine pm_R_icmp pm_M204 (t := 35) (pc_q := 27) rfl rfl rfl (fun c52543 => ?_) (fun c52543 => ?_)
                      · skip
                        refine pm_R_op pm_M204 (pc_q := 36) (st_q := [.int 1]) rfl rfl rfl ?_
                        refine pm_R_br pm_M204 (pc_q := 40) rfl rfl ?_
                        refine pm_R_ret pm_M204 (r := some (.int 1)) rfl rfl ?_
                        show pm_R _ 216 40 [.ref 41, .int x1_40508, .int x2_51653, .long y3_52467, pm_no, .int x5_52467] [.int 1, .long y3_52467] _ _
                        refine pm_R_br pm_M216 (pc_q := 43) (st_q := [.long y3_52467]) rfl rfl ?_
                        refine pm_R_lo pm_M216 (pc_q := 44) rfl rfl rfl ?_
                        refine pm_R_lo pm_M216 (pc_q := 46) rfl rfl rfl ?_
                        refine pm_R_op pm_M216 (pc_q := 47) (st_q := [.int 1, .int x5_52467, .ref 41, .long y3_52467]) rfl rfl rfl ?_
                        refine pm_R_cv pm_M216 (pc_q := 50) (a := 41) (ra := [.int 1, .int x5_52467]) (rest := [.long y3_52467]) (ls_q := [.ref 41, .int x5_52467, .int 1]) rfl rfl (Or.inl rfl) pm_M205 T_51653.2.1 rfl (by decide) (Nat.lt_of_lt_of_le (by decide) T_51653.1) rfl rfl (Nat.le_of_ble_eq_true rfl) rfl rfl ?_
                        refine pm_R_lo pm_M205 (pc_q := 1) rfl rfl rfl ?_
                        refine rf_R_get pm_M205 T_51653 (pc_q := 4) (v := .ref 47) rfl rfl rfl rfl ?_
                        refine pm_R_op pm_M205 (pc_q := 6) (st_q := [.int 100, .ref 47]) rfl rfl rfl ?_
                        refine pm_R_lo pm_M205 (pc_q := 7) rfl rfl rfl ?_
                        refine rf_R_get pm_M205 T_51653 (pc_q := 10) (v := .int (m_51653 23)) rfl rfl rfl rfl ?_
                        refine sf_R_imulV pm_M205 (pc_q := 11) rfl rfl sf_k100 B52468 (by decide) (by decide) (by decide) e52470 ?_
                        refine pm_R_op pm_M205 (pc_q := 13) (st_q := [.int 42, .int z52469, .ref 47]) rfl rfl rfl ?_
                        refine sf_R_iaddV pm_M205 (pc_q := 14) rfl rfl B52471 sf_k42 (by decide) (by decide) e52515 ?_
                        refine pm_R_op pm_M205 (pc_q := 15) (st_q := [.int 3, .int z52514, .ref 47]) rfl rfl rfl ?_
                        refine pm_R_lo pm_M205 (pc_q := 16) rfl rfl rfl ?_
                        refine sf_R_imulV pm_M205 (pc_q := 17) rfl rfl sf_k3 B52506 (by decide) (by decide) (by decide) e52518 ?_
                        refine sf_R_iaddV pm_M205 (pc_q := 18) rfl rfl B52516 B52519 (by decide) (by decide) e52521 ?_
                        refine pm_R_lo pm_M205 (pc_q := 19) rfl rfl rfl ?_
                        refine sf_R_iadd pm_M205 (pc_q := 20) rfl rfl B52522 sf_k1 (by decide) (by decide) (fun z52544 e52545 B52546 => ?_)
                        refine rf_R_ild pm_M205 T_51653 (pc_q := 21) rfl e52476 (by decide) (sf_in B52546 (by decide) (by decide)) rfl (fun z52547 ez52548 => ?_)
                        have e52549 : (z52544).toInt = 100 * ((m_51653 23)).toInt + 3 * (x5_52467).toInt + 43 := (sf_aux9 _ _ _ _ _ _ _ e52470 e52515 e52518 e52521 e52545)
                        have B52550 : sf_B 0 5 z52547 := ez52548 ▸ rf_p47k b52477 e52549 B52468 B52506 (by decide) (by decide) (by decide)
                        refine pm_R_ret pm_M205 (r := some (.int z52547)) rfl (pm_ret_i _) ?_
                        show pm_R _ 216 50 [.ref 41, .int x1_40508, .int x2_51653, .long y3_52467, pm_no, .int x5_52467] [.int z52547, .long y3_52467] _ _
                        refine pm_R_lo pm_M216 (pc_q := 51) rfl rfl rfl ?_
                        refine pm_R_icmp pm_M216 (t := 66) (pc_q := 54) rfl rfl rfl (fun c52551 => ?_) (fun c52551 => ?_)
                        · skip
                          refine pm_R_op pm_M216 (pc_q := 67) (st_q := [.long 0, .long y3_52467]) rfl rfl rfl ?_
                          refine sf_R_lany pm_M216 (pc_q := 68) (st := []) rfl rfl rfl (fun z52552 => ?_)
                          refine pm_R_lo pm_M216 (pc_q := 69) (ls_q := [.ref 41, .int x1_40508, .int x2_51653, .long z52552, pm_no, .int x5_52467]) (st_q := []) rfl rfl rfl ?_
                          refine sf_R_iinc pm_M216 (pc_q := 72) (ls_q := fun z => [.ref 41, .int x1_40508, .int x2_51653, .long z52552, pm_no, .int z]) rfl B52506 rfl (by decide) (by decide) (by decide) (fun _ => rfl) rfl (fun z52553 e52554 B52555 => ?_)
                          show pm_R _ 216 72 [.ref 41, .int x1_40508, .int x2_51653, .long z52552, pm_no, .int z52553] [] _ _
                          refine pm_R_br pm_M216 (pc_q := 23) rfl rfl ?_
                          exact ih_52467 _ (sf_up hN_52467 e52554 B52506 (by decide) (by decide)) z52553 z52552 (sf_weak B52555 (by decide) (by decide)) rfl
                        · refine pm_R_op pm_M216 (pc_q := 55) (st_q := [.long 1, .long y3_52467]) rfl rfl rfl ?_
                          refine pm_R_lo pm_M216 (pc_q := 56) rfl rfl rfl ?_
                          refine pm_R_lo pm_M216 (pc_q := 58) rfl rfl rfl ?_
                          refine pm_R_op pm_M216 (pc_q := 59) (st_q := [.int 2, .int x5_52467, .ref 41, .long 1, .long y3_52467]) rfl rfl rfl ?_
                          refine pm_R_cv pm_M216 (pc_q := 62) (a := 41) (ra := [.int 2, .int x5_52467]) (rest := [.long 1, .long y3_52467]) (ls_q := [.ref 41, .int x5_52467, .int 2]) rfl rfl (Or.inl rfl) pm_M205 T_51653.2.1 rfl (by decide) (Nat.lt_of_lt_of_le (by decide) T_51653.1) rfl rfl (Nat.le_of_ble_eq_true rfl) rfl rfl ?_
                          refine pm_R_lo pm_M205 (pc_q := 1) rfl rfl rfl ?_
                          refine rf_R_get pm_M205 T_51653 (pc_q := 4) (v := .ref 47) rfl rfl rfl rfl ?_
                          refine pm_R_op pm_M205 (pc_q := 6) (st_q := [.int 100, .ref 47]) rfl rfl rfl ?_
                          refine pm_R_lo pm_M205 (pc_q := 7) rfl rfl rfl ?_
                          refine rf_R_get pm_M205 T_51653 (pc_q := 10) (v := .int (m_51653 23)) rfl rfl rfl rfl ?_
                          refine sf_R_imulV pm_M205 (pc_q := 11) rfl rfl sf_k100 B52468 (by decide) (by decide) (by decide) e52470 ?_
                          refine pm_R_op pm_M205 (pc_q := 13) (st_q := [.int 42, .int z52469, .ref 47]) rfl rfl rfl ?_
                          refine sf_R_iaddV pm_M205 (pc_q := 14) rfl rfl B52471 sf_k42 (by decide) (by decide) e52515 ?_
                          refine pm_R_op pm_M205 (pc_q := 15) (st_q := [.int 3, .int z52514, .ref 47]) rfl rfl rfl ?_
                          refine pm_R_lo pm_M205 (pc_q := 16) rfl rfl rfl ?_
                          refine sf_R_imulV pm_M205 (pc_q := 17) rfl rfl sf_k3 B52506 (by decide) (by decide) (by decide) e52518 ?_
                          refine sf_R_iaddV pm_M205 (pc_q := 18) rfl rfl B52516 B52519 (by decide) (by decide) e52521 ?_
                          refine pm_R_lo pm_M205 (pc_q := 19) rfl rfl rfl ?_
                          refine sf_R_iadd pm_M205 (pc_q := 20) rfl rfl B52522 sf_k2 (by decide) (by decide) (fun z52556 e52557 B52558 => ?_)
                          refine rf_R_ild pm_M205 T_51653 (pc_q := 21) rfl e52476 (by decide) (sf_in B52558 (by decide) (by decide)) rfl (fun z52559 ez52560 => ?_)
                          have e52561 : (z52556).toInt = 100 * ((m_51653 23)).toInt + 3 * (x5_52467).toInt + 44 := (sf_aux10 _ _ _ _ _ _ _ e52470 e52515 e52518 e52521 e52557)
                          have B52562 : sf_B 0 49 z52559 := ez52560 ▸ rf_p47v b52477 e52561 B52468 B52506 (by decide) (by decide) (by decide)
                          refine pm_R_ret pm_M205 (r := some (.int z52559)) rfl (pm_ret_i _) ?_
                          show pm_R _ 216 62 [.ref 41, .int x1_40508, .int x2_51653, .long y3_52467, pm_no, .int x5_52467] [.int z52559, .long 1, .long y3_52467] _ _
                          refine sf_R_lany pm_M216 (pc_q := 63) (st := [.long y3_52467]) rfl rfl rfl (fun z52563 => ?_)
                          refine pm_R_br pm_M216 (pc_q := 67) rfl rfl ?_
                          refine sf_R_lany pm_M216 (pc_q := 68) (st := []) rfl rfl rfl (fun z52564 => ?_)
                          refine pm_R_lo pm_M216 (pc_q := 69) (ls_q := [.ref 41, .int x1_40508, .int x2_51653, .long z52564, pm_no, .int x5_52467]) (st_q := []) rfl rfl rfl ?_
                          refine sf_R_iinc pm_M216 (pc_q := 72) (ls_q := fun z => [.ref 41, .int x1_40508, .int x2_51653, .long z52564, pm_no, .int z]) rfl B52506 rfl (by decide) (by decide) (by decide) (fun _ => rfl) rfl (fun z52565 e52566 B52567 => ?_)
                          show pm_R _ 216 72 [.ref 41, .int x1_40508, .int x2_51653, .long z52564, pm_no, .int z52565] [] _ _
                          refine pm_R_br pm_M216 (pc_q := 23) rfl rfl ?_
                          exact ih_52467 _ (sf_up hN_52467 e52566 B52506 (by decide) (by decide)) z52565 z52564 (sf_weak B52567 (by decide) (by decide)) rfl
                      · have B52568 : sf_B 0 11 (m_51653 26) := sf_eqL (Classical.not_not.mp c52543) B51663
                        refine pm_R_lo pm_M204 (pc_q := 28) rfl rfl rfl ?_
                        have B52569 : sf_B 0 15 (m_51653 27) := T_51653.2.2.1 27
                        refine rf_R_get pm_M204 T_51653 (pc_q := 31) (v := .int (m_51653 27)) rfl rfl rfl rfl ?_
                        refine pm_R_lo pm_M204 (pc_q := 32) rfl rfl rfl ?_
                        refine pm_R_icmp pm_M204 (t := 39) (pc_q := 35) rfl rfl rfl (fun c52570 => ?_) (fun c52570 => ?_)
                        · skip
                          refine pm_R_op pm_M204 (pc_q := 40) (st_q := [.int 0]) rfl rfl rfl ?_
                          refine pm_R_ret pm_M204 (r := some (.int 0)) rfl rfl ?_
                          show pm_R _ 216 40 [.ref 41, .int x1_40508, .int x2_51653, .long y3_52467, pm_no, .int x5_52467] [.int 0, .long y3_52467] _ _
                          refine pm_R_br pm_M216 (pc_q := 66) (st_q := [.long y3_52467]) rfl rfl ?_
                          refine pm_R_op pm_M216 (pc_q := 67) (st_q := [.long 0, .long y3_52467]) rfl rfl rfl ?_
                          refine sf_R_lany pm_M216 (pc_q := 68) (st := []) rfl rfl rfl (fun z52571 => ?_)
                          refine pm_R_lo pm_M216 (pc_q := 69) (ls_q := [.ref 41, .int x1_40508, .int x2_51653, .long z52571, pm_no, .int x5_52467]) (st_q := []) rfl rfl rfl ?_
                          refine sf_R_iinc pm_M216 (pc_q := 72) (ls_q := fun z => [.ref 41, .int x1_40508, .int x2_51653, .long z52571, pm_no, .int z]) rfl B52506 rfl (by decide) (by decide) (by decide) (fun _ => rfl) rfl (fun z52572 e52573 B52574 => ?_)
                          show pm_R _ 216 72 [.ref 41, .int x1_40508, .int x2_51653, .long z52571, pm_no, .int z52572] [] _ _
                          refine pm_R_br pm_M216 (pc_q := 23) rfl rfl ?_
                          exact ih_52467 _ (sf_up hN_52467 e52573 B52506 (by decide) (by decide)) z52572 z52571 (sf_weak B52574 (by decide) (by decide)) rfl
                        · refine pm_R_op pm_M204 (pc_q := 36) (st_q := [.int 1]) rfl rfl rfl ?_
                          refine pm_R_br pm_M204 (pc_q := 40) rfl rfl ?_
                          refine pm_R_ret pm_M204 (r := some (.int 1)) rfl rfl ?_
                          show pm_R _ 216 40 [.ref 41, .int x1_40508, .int x2_51653, .long y3_52467, pm_no, .int x5_52467] [.int 1, .long y3_52467] _ _
                          refine pm_R_br pm_M216 (pc_q := 43) (st_q := [.long y3_52467]) rfl rfl ?_
                          refine pm_R_lo pm_M216 (pc_q := 44) rfl rfl rfl ?_
                          refine pm_R_lo pm_M216 (pc_q := 46) rfl rfl rfl ?_
                          refine pm_R_op pm_M216 (pc_q := 47) (st_q := [.int 1, .int x5_52467, .ref 41, .long y3_52467]) rfl rfl rfl ?_
                          refine pm_R_cv pm_M216 (pc_q := 50) (a := 41) (ra := [.int 1, .int x5_52467]) (rest := [.long y3_52467]) (ls_q := [.ref 41, .int x5_52467, .int 1]) rfl rfl (Or.inl rfl) pm_M205 T_51653.2.1 rfl (by decide) (Nat.lt_of_lt_of_le (by decide) T_51653.1) rfl rfl (Nat.le_of_ble_eq_true rfl) rfl rfl ?_
                          refine pm_R_lo pm_M205 (pc_q := 1) rfl rfl rfl ?_
                          refine rf_R_get pm_M205 T_51653 (pc_q := 4) (v := .ref 47) rfl rfl rfl rfl ?_
                          refine pm_R_op pm_M205 (pc_q := 6) (st_q := [.int 100, .ref 47]) rfl rfl rfl ?_
                          refine pm_R_lo pm_M205 (pc_q := 7) rfl rfl rfl ?_
                          refine rf_R_get pm_M205 T_51653 (pc_q := 10) (v := .int (m_51653 23)) rfl rfl rfl rfl ?_
                          refine sf_R_imulV pm_M205 (pc_q := 11) rfl rfl sf_k100 B52468 (by decide) (by decide) (by decide) e52470 ?_
                          refine pm_R_op pm_M205 (pc_q := 13) (st_q := [.int 42, .int z52469, .ref 47]) rfl rfl rfl ?_
                          refine sf_R_iaddV pm_M205 (pc_q := 14) rfl rfl B52471 sf_k42 (by decide) (by decide) e52515 ?_
                          refine pm_R_op pm_M205 (pc_q := 15) (st_q := [.int 3, .int z52514, .ref 47]) rfl rfl rfl ?_
                          refine pm_R_lo pm_M205 (pc_q := 16) rfl rfl rfl ?_
                          refine sf_R_imulV pm_M205 (pc_q := 17) rfl rfl sf_k3 B52506 (by decide) (by decide) (by decide) e52518 ?_
                          refine sf_R_iaddV pm_M205 (pc_q := 18) rfl rfl B52516 B52519 (by decide) (by decide) e52521 ?_
                          refine pm_R_lo pm_M205 (pc_q := 19) rfl rfl rfl ?_
                          refine sf_R_iadd pm_M205 (pc_q := 20) rfl rfl B52522 sf_k1 (by decide) (by decide) (fun z52575 e52576 B52577 => ?_)
                          refine rf_R_ild pm_M205 T_51653 (pc_q := 21) rfl e52476 (by decide) (sf_in B52577 (by decide) (by decide)) rfl (fun z52578 ez52579 => ?_)
                          have e52580 : (z52575).toInt = 100 * ((m_51653 23)).toInt + 3 * (x5_52467).toInt + 43 := (sf_aux9 _ _ _ _ _ _ _ e52470 e52515 e52518 e52521 e52576)
                          have B52581 : sf_B 0 5 z52578 := ez52579 ▸ rf_p47k b52477 e52580 B52468 B52506 (by decide) (by decide) (by decide)
                          refine pm_R_ret pm_M205 (r := some (.int z52578)) rfl (pm_ret_i _) ?_
                          show pm_R _ 216 50 [.ref 41, .int x1_40508, .int x2_51653, .long y3_52467, pm_no, .int x5_52467] [.int z52578, .long y3_52467] _ _
                          refine pm_R_lo pm_M216 (pc_q := 51) rfl rfl rfl ?_
                          refine pm_R_icmp pm_M216 (t := 66) (pc_q := 54) rfl rfl rfl (fun c52582 => ?_) (fun c52582 => ?_)
                          · skip
                            refine pm_R_op pm_M216 (pc_q := 67) (st_q := [.long 0, .long y3_52467]) rfl rfl rfl ?_
                            refine sf_R_lany pm_M216 (pc_q := 68) (st := []) rfl rfl rfl (fun z52583 => ?_)
                            refine pm_R_lo pm_M216 (pc_q := 69) (ls_q := [.ref 41, .int x1_40508, .int x2_51653, .long z52583, pm_no, .int x5_52467]) (st_q := []) rfl rfl rfl ?_
                            refine sf_R_iinc pm_M216 (pc_q := 72) (ls_q := fun z => [.ref 41, .int x1_40508, .int x2_51653, .long z52583, pm_no, .int z]) rfl B52506 rfl (by decide) (by decide) (by decide) (fun _ => rfl) rfl (fun z52584 e52585 B52586 => ?_)
                            show pm_R _ 216 72 [.ref 41, .int x1_40508, .int x2_51653, .long z52583, pm_no, .int z52584] [] _ _
                            refine pm_R_br pm_M216 (pc_q := 23) rfl rfl ?_
                            exact ih_52467 _ (sf_up hN_52467 e52585 B52506 (by decide) (by decide)) z52584 z52583 (sf_weak B52586 (by decide) (by decide)) rfl
                          · refine pm_R_op pm_M216 (pc_q := 55) (st_q := [.long 1, .long y3_52467]) rfl rfl rfl ?_
                            refine pm_R_lo pm_M216 (pc_q := 56) rfl rfl rfl ?_
                            refine pm_R_lo pm_M216 (pc_q := 58) rfl rfl rfl ?_
                            refine pm_R_op pm_M216 (pc_q := 59) (st_q := [.int 2, .int x5_52467, .ref 41, .long 1, .long y3_52467]) rfl rfl rfl ?_
                            refine pm_R_cv pm_M216 (pc_q := 62) (a := 41) (ra := [.int 2, .int x5_52467]) (rest := [.long 1, .long y3_52467]) (ls_q := [.ref 41, .int x5_52467, .int 2]) rfl rfl (Or.inl rfl) pm_M205 T_51653.2.1 rfl (by decide) (Nat.lt_of_lt_of_le (by decide) T_51653.1) rfl rfl (Nat.le_of_ble_eq_true rfl) rfl rfl ?_
                            refine pm_R_lo pm_M205 (pc_q := 1) rfl rfl rfl ?_
                            refine rf_R_get pm_M205 T_51653 (pc_q := 4) (v := .ref 47) rfl rfl rfl rfl ?_
                            refine pm_R_op pm_M205 (pc_q := 6) (st_q := [.int 100, .ref 47]) rfl rfl rfl ?_
                            refine pm_R_lo pm_M205 (pc_q := 7) rfl rfl rfl ?_
                            refine rf_R_get pm_M205 T_51653 (pc_q := 10) (v := .int (m_51653 23)) rfl rfl rfl rfl ?_
                            refine sf_R_imulV pm_M205 (pc_q := 11) rfl rfl sf_k100 B52468 (by decide) (by decide) (by decide) e52470 ?_
                            refine pm_R_op pm_M205 (pc_q := 13) (st_q := [.int 42, .int z52469, .ref 47]) rfl rfl rfl ?_
                            refine sf_R_iaddV pm_M205 (pc_q := 14) rfl rfl B52471 sf_k42 (by decide) (by decide) e52515 ?_
                            refine pm_R_op pm_M205 (pc_q := 15) (st_q := [.int 3, .int z52514, .ref 47]) rfl rfl rfl ?_
                            refine pm_R_lo pm_M205 (pc_q := 16) rfl rfl rfl ?_
                            refine sf_R_imulV pm_M205 (pc_q := 17) rfl rfl sf_k3 B52506 (by decide) (by decide) (by decide) e52518 ?_
                            refine sf_R_iaddV pm_M205 (pc_q := 18) rfl rfl B52516 B52519 (by decide) (by decide) e52521 ?_
                            refine pm_R_lo pm_M205 (pc_q := 19) rfl rfl rfl ?_
                            refine sf_R_iadd pm_M205 (pc_q := 20) rfl rfl B52522 sf_k2 (by decide) (by decide) (fun z52587 e52588 B52589 => ?_)
                            refine rf_R_ild pm_M205 T_51653 (pc_q := 21) rfl e52476 (by decide) (sf_in B52589 (by decide) (by decide)) rfl (fun z52590 ez52591 => ?_)
                            have e52592 : (z52587).toInt = 100 * ((m_51653 23)).toInt + 3 * (x5_52467).toInt + 44 := (sf_aux10 _ _ _ _ _ _ _ e52470 e52515 e52518 e52521 e52588)
                            have B52593 : sf_B 0 49 z52590 := ez52591 ▸ rf_p47v b52477 e52592 B52468 B52506 (by decide) (by decide) (by decide)
                            refine pm_R_ret pm_M205 (r := some (.int z52590)) rfl (pm_ret_i _) ?_
                            show pm_R _ 216 62 [.ref 41, .int x1_40508, .int x2_51653, .long y3_52467, pm_no, .int x5_52467] [.int z52590, .long 1, .long y3_52467] _ _
                            refine sf_R_lany pm_M216 (pc_q := 63) (st := [.long y3_52467]) rfl rfl rfl (fun z52594 => ?_)
                            refine pm_R_br pm_M216 (pc_q := 67) rfl rfl ?_
                            refine sf_R_lany pm_M216 (pc_q := 68) (st := []) rfl rfl rfl (fun z52595 => ?_)
                            refine pm_R_lo pm_M216 (pc_q := 69) (ls_q := [.ref 41, .int x1_40508, .int x2_51653, .long z52595, pm_no, .int x5_52467]) (st_q := []) rfl rfl rfl ?_
                            refine sf_R_iinc pm_M216 (pc_q := 72) (ls_q := fun z => [.ref 41, .int x1_40508, .int x2_51653, .long z52595, pm_no, .int z]) rfl B52506 rfl (by decide) (by decide) (by decide) (fun _ => rfl) rfl (fun z52596 e52597 B52598 => ?_)
                            show pm_R _ 216 72 [.ref 41, .int x1_40508, .int x2_51653, .long z52595, pm_no, .int z52596] [] _ _
                            refine pm_R_br pm_M216 (pc_q := 23) rfl rfl ?_
                            exact ih_52467 _ (sf_up hN_52467 e52597 B52506 (by decide) (by decide)) z52596 z52595 (sf_weak B52598 (by decide) (by decide)) rfl
              exact L_52467 _ 0 0 (sf_weak sf_k0 (by decide) (by decide)) rfl
        exact L_51653 _ h_40508 m_40508 w_40508 0 (g3_40508) (g4_40508) (g5_40508) T_40508 F_40508 (rf_W.refl _ _) (sf_weak sf_k0 (by decide) (by decide)) Cg4_40508 Cg5_40508 rfl
  exact L_40508 _ h m w 0 (pm_no) (pm_no) (pm_no) (pm_no) T (rf_G.refl [54] h) (rf_W.refl _ _) (sf_weak sf_k0 (by decide) (by decide)) rfl rfl rfl rfl

theorem sf_aux11 (v0 v1 v2 v3 : Int) (q0 : v0 = v1 + 0) (q1 : v2 = v3 + 1) (q2 : 0 ≤ v1) (q3 : v1 ≤ 15) (q4 : 0 ≤ v3) (q5 : v3 ≤ 15) (q6 : v1 ≤ v3) : v0 ≤ v2 := by omega
theorem sf_aux12 (v0 v1 v2 v3 : Int) (q0 : v0 = v1 + 1) (q1 : v2 = v3 + 1) (q2 : 0 ≤ v1) (q3 : v1 ≤ 15) (q4 : 0 ≤ v3) (q5 : v3 ≤ 15) (q6 : v1 ≤ v3) : v0 ≤ v2 := by omega
set_option maxRecDepth 100000 in
set_option maxHeartbeats 4000000 in
/-- SilentTableModel.findCounts -/
theorem rf_c202 {d : Nat} {m : Nat → Int32} {w : Int64} {h : pm_H} {Q : Option Value → pm_H → Prop}  (T : rf_T m w h)  (K : ∀ (m_q : Nat → Int32) (w_q : Int64) (h_q : pm_H), rf_T m_q w_q h_q → rf_G [55] h h_q → rf_W [] m m_q → Q none h_q) : pm_R (d + 4) 202 0 [.ref 41, pm_no, pm_no, pm_no, pm_no, pm_no] [] h Q := by
  refine pm_R_op pm_M202 (pc_q := 1) (st_q := [.int 0]) rfl rfl rfl ?_
  refine pm_R_lo pm_M202 (pc_q := 2) (ls_q := [.ref 41, .int 0, pm_no, pm_no, pm_no, pm_no]) (st_q := []) rfl rfl rfl ?_
  have L_43581 : ∀ (N : Nat) (h_43581 : pm_H) (m_43581 : Nat → Int32) (w_43581 : Int64) (x1_43581 : Int32) (g2_43581 : Value) (g3_43581 : Value) (g4_43581 : Value) (g5_43581 : Value), rf_T m_43581 w_43581 h_43581 → rf_G [55] h h_43581 → rf_W [] m m_43581 → sf_B 0 6 x1_43581 → g2_43581.category = 1 → g4_43581.category = 1 → g5_43581.category = 1 → (6 - x1_43581.toInt).toNat = N → pm_R (d + 4) 202 2 [.ref 41, .int x1_43581, g2_43581, g3_43581, g4_43581, g5_43581] [] h_43581 Q := by
    intro N
    induction N using Nat.strongRecOn with
    | ind N ih_43581 =>
      intro h_43581 m_43581 w_43581 x1_43581 g2_43581 g3_43581 g4_43581 g5_43581 T_43581 F_43581 W_43581 Bx1_43581 Cg2_43581 Cg4_43581 Cg5_43581 hN_43581
      have W43584 : rf_W [] m m_43581 := (rf_W.refl [] m).trans W_43581 (by decide)
      refine pm_R_lo pm_M202 (pc_q := 3) rfl rfl rfl ?_
      refine pm_R_op pm_M202 (pc_q := 5) (st_q := [.int 6, .int x1_43581]) rfl rfl rfl ?_
      refine pm_R_icmp pm_M202 (t := 91) (pc_q := 8) rfl rfl rfl (fun c43585 => ?_) (fun c43585 => ?_)
      · have B43586 : sf_B 6 6 x1_43581 := sf_leR c43585 sf_k6 Bx1_43581
        refine pm_R_op pm_M202 (pc_q := 92) (st_q := [.int 1]) rfl rfl rfl ?_
        refine pm_R_lo pm_M202 (pc_q := 93) (ls_q := [.ref 41, .int 1, g2_43581, g3_43581, g4_43581, g5_43581]) (st_q := []) rfl rfl rfl ?_
        have L_48587 : ∀ (N : Nat) (h_48587 : pm_H) (m_48587 : Nat → Int32) (w_48587 : Int64) (x1_48587 : Int32) (g2_48587 : Value) (g3_48587 : Value), rf_T m_48587 w_48587 h_48587 → rf_G [55] h h_48587 → rf_W [] m_43581 m_48587 → sf_B 1 12 x1_48587 → g2_48587.category = 1 → (12 - x1_48587.toInt).toNat = N → pm_R (d + 4) 202 93 [.ref 41, .int x1_48587, g2_48587, g3_48587, g4_43581, g5_43581] [] h_48587 Q := by
          intro N
          induction N using Nat.strongRecOn with
          | ind N ih_48587 =>
            intro h_48587 m_48587 w_48587 x1_48587 g2_48587 g3_48587 T_48587 F_48587 W_48587 Bx1_48587 Cg2_48587 hN_48587
            have W48590 : rf_W [] m m_48587 := W43584.trans W_48587 (by decide)
            have W48591 : rf_W [] m m_48587 := W_43581.trans W_48587 (by decide)
            refine pm_R_lo pm_M202 (pc_q := 94) rfl rfl rfl ?_
            refine pm_R_lo pm_M202 (pc_q := 95) rfl rfl rfl ?_
            have B48592 : sf_B 0 12 (m_48587 24) := T_48587.2.2.1 24
            refine rf_R_get pm_M202 T_48587 (pc_q := 98) (v := .int (m_48587 24)) rfl rfl rfl rfl ?_
            refine pm_R_icmp pm_M202 (t := 161) (pc_q := 101) rfl rfl rfl (fun c48593 => ?_) (fun c48593 => ?_)
            · skip
              exact pm_R_ret pm_M202 (r := none) (pm_q202_1 (Nat.le_of_ble_eq_true rfl)) rfl (K m_48587 w_48587 h_48587 T_48587 F_48587 W48590)
            · have B48594 : sf_B 1 11 x1_48587 := sf_ltL (Int32.not_le.mp c48593) Bx1_48587 B48592
              have B48595 : sf_B 2 12 (m_48587 24) := sf_ltR (Int32.not_le.mp c48593) Bx1_48587 B48592
              refine pm_R_op pm_M202 (pc_q := 102) (st_q := [.int 0]) rfl rfl rfl ?_
              refine pm_R_lo pm_M202 (pc_q := 103) (ls_q := [.ref 41, .int x1_48587, .int 0, g3_48587, g4_43581, g5_43581]) (st_q := []) rfl rfl rfl ?_
              have L_49588 : ∀ (N : Nat) (h_49588 : pm_H) (m_49588 : Nat → Int32) (w_49588 : Int64) (x2_49588 : Int32) (g3_49588 : Value), rf_T m_49588 w_49588 h_49588 → rf_G [55] h h_49588 → rf_W [] m_48587 m_49588 → sf_B 0 11 x2_49588 → (11 - x2_49588.toInt).toNat = N → pm_R (d + 4) 202 103 [.ref 41, .int x1_48587, .int x2_49588, g3_49588, g4_43581, g5_43581] [] h_49588 Q := by
                intro N
                induction N using Nat.strongRecOn with
                | ind N ih_49588 =>
                  intro h_49588 m_49588 w_49588 x2_49588 g3_49588 T_49588 F_49588 W_49588 Bx2_49588 hN_49588
                  have B49591 : sf_B 2 12 (m_49588 24) := by rw [W_49588 24 (by decide)]; exact B48595
                  have W49592 : rf_W [] m m_49588 := W48590.trans W_49588 (by decide)
                  have W49593 : rf_W [] m m_49588 := W48591.trans W_49588 (by decide)
                  have W49594 : rf_W [] m_43581 m_49588 := W_48587.trans W_49588 (by decide)
                  refine pm_R_lo pm_M202 (pc_q := 104) rfl rfl rfl ?_
                  refine pm_R_lo pm_M202 (pc_q := 105) rfl rfl rfl ?_
                  refine sf_R_iadd pm_M202 (pc_q := 106) (pm_q202_1 (Nat.le_of_ble_eq_true rfl)) rfl Bx2_49588 B48594 (by decide) (by decide) (fun z49595 e49596 B49597 => ?_)
                  refine pm_R_lo pm_M202 (pc_q := 107) (pm_q202_1 (Nat.le_of_ble_eq_true rfl)) rfl rfl ?_
                  refine rf_R_get pm_M202 T_49588 (pc_q := 110) (v := .int (m_49588 24)) (pm_q202_1 (Nat.le_of_ble_eq_true rfl)) rfl rfl rfl ?_
                  refine pm_R_icmp pm_M202 (t := 155) (pc_q := 113) (pm_q202_1 (Nat.le_of_ble_eq_true rfl)) rfl rfl (fun c49598 => ?_) (fun c49598 => ?_)
                  · have B49599 : sf_B 2 22 z49595 := sf_leR c49598 B49591 B49597
                    refine sf_R_iinc pm_M202 (pc_q := 158) (ls_q := fun z => [.ref 41, .int z, .int x2_49588, g3_49588, g4_43581, g5_43581]) (pm_q202_1 (Nat.le_of_ble_eq_true rfl)) B48594 rfl (by decide) (by decide) (by decide) (fun _ => rfl) rfl (fun z49600 e49601 B49602 => ?_)
                    show pm_R _ 202 158 [.ref 41, .int z49600, .int x2_49588, g3_49588, g4_43581, g5_43581] [] _ _
                    refine pm_R_br pm_M202 (pc_q := 93) (pm_q202_1 (Nat.le_of_ble_eq_true rfl)) rfl ?_
                    exact ih_48587 _ (sf_up hN_48587 e49601 B48594 (by decide) (by decide)) h_49588 m_49588 w_49588 z49600 (.int x2_49588) (g3_49588) T_49588 F_49588 W49594 (sf_weak B49602 (by decide) (by decide)) rfl rfl
                  · have B49603 : sf_B 1 11 z49595 := sf_ltL (Int32.not_le.mp c49598) B49597 B49591
                    have B49604 : sf_B 0 10 x2_49588 := sf_addL e49596 B49603 B48594 Bx2_49588
                    refine pm_R_op pm_M202 (pc_q := 114) (st_q := [.int 0]) (pm_q202_1 (Nat.le_of_ble_eq_true rfl)) rfl rfl ?_
                    refine pm_R_lo pm_M202 (pc_q := 115) (ls_q := [.ref 41, .int x1_48587, .int x2_49588, .int 0, g4_43581, g5_43581]) (st_q := []) (pm_q202_1 (Nat.le_of_ble_eq_true rfl)) rfl rfl ?_
                    have L_49790 : ∀ (N : Nat) (h_49790 : pm_H) (m_49790 : Nat → Int32) (w_49790 : Int64) (x3_49790 : Int32), rf_T m_49790 w_49790 h_49790 → rf_G [55] h h_49790 → rf_W [] m_49588 m_49790 → sf_B 0 6 x3_49790 → (6 - x3_49790.toInt).toNat = N → pm_R (d + 4) 202 115 [.ref 41, .int x1_48587, .int x2_49588, .int x3_49790, g4_43581, g5_43581] [] h_49790 Q := by
                      intro N
                      induction N using Nat.strongRecOn with
                      | ind N ih_49790 =>
                        intro h_49790 m_49790 w_49790 x3_49790 T_49790 F_49790 W_49790 Bx3_49790 hN_49790
                        have B49793 : sf_B 2 12 (m_49790 24) := by rw [W_49790 24 (by decide)]; exact B49591
                        have W49794 : rf_W [] m m_49790 := W49592.trans W_49790 (by decide)
                        have W49795 : rf_W [] m m_49790 := W49593.trans W_49790 (by decide)
                        have W49796 : rf_W [] m_43581 m_49790 := W49594.trans W_49790 (by decide)
                        have W49797 : rf_W [] m_48587 m_49790 := W_49588.trans W_49790 (by decide)
                        refine pm_R_lo pm_M202 (pc_q := 116) (pm_q202_1 (Nat.le_of_ble_eq_true rfl)) rfl rfl ?_
                        refine pm_R_op pm_M202 (pc_q := 118) (st_q := [.int 6, .int x3_49790]) (pm_q202_1 (Nat.le_of_ble_eq_true rfl)) rfl rfl ?_
                        refine pm_R_icmp pm_M202 (t := 149) (pc_q := 121) (pm_q202_1 (Nat.le_of_ble_eq_true rfl)) rfl rfl (fun c49798 => ?_) (fun c49798 => ?_)
                        · have B49799 : sf_B 6 6 x3_49790 := sf_leR c49798 sf_k6 Bx3_49790
                          refine sf_R_iinc pm_M202 (pc_q := 152) (ls_q := fun z => [.ref 41, .int x1_48587, .int z, .int x3_49790, g4_43581, g5_43581]) (pm_q202_1 (Nat.le_of_ble_eq_true rfl)) B49604 rfl (by decide) (by decide) (by decide) (fun _ => rfl) rfl (fun z49800 e49801 B49802 => ?_)
                          show pm_R _ 202 152 [.ref 41, .int x1_48587, .int z49800, .int x3_49790, g4_43581, g5_43581] [] _ _
                          refine pm_R_br pm_M202 (pc_q := 103) (pm_q202_1 (Nat.le_of_ble_eq_true rfl)) rfl ?_
                          exact ih_49588 _ (sf_up hN_49588 e49801 B49604 (by decide) (by decide)) h_49790 m_49790 w_49790 z49800 (.int x3_49790) T_49790 F_49790 W49797 (sf_weak B49802 (by decide) (by decide)) rfl
                        · have B49803 : sf_B 0 5 x3_49790 := sf_ltL (Int32.not_le.mp c49798) Bx3_49790 sf_k6
                          refine pm_R_lo pm_M202 (pc_q := 122) (pm_q202_1 (Nat.le_of_ble_eq_true rfl)) rfl rfl ?_
                          refine rf_R_get pm_M202 T_49790 (pc_q := 125) (v := .ref 55) (pm_q202_1 (Nat.le_of_ble_eq_true rfl)) rfl rfl rfl ?_
                          refine pm_R_lo pm_M202 (pc_q := 126) (pm_q202_1 (Nat.le_of_ble_eq_true rfl)) rfl rfl ?_
                          refine pm_R_lo pm_M202 (pc_q := 127) (pm_q202_1 (Nat.le_of_ble_eq_true rfl)) rfl rfl ?_
                          refine pm_R_lo pm_M202 (pc_q := 128) (pm_q202_1 (Nat.le_of_ble_eq_true rfl)) rfl rfl ?_
                          refine pm_R_lo pm_M202 (pc_q := 129) (pm_q202_1 (Nat.le_of_ble_eq_true rfl)) rfl rfl ?_
                          refine sf_R_iaddV pm_M202 (pc_q := 130) (pm_q202_1 (Nat.le_of_ble_eq_true rfl)) rfl Bx2_49588 B48594 (by decide) (by decide) e49596 ?_
                          refine pm_R_cs pm_M202 (pc_q := 133) (ra := [.int z49595, .int x2_49588, .int x3_49790]) (rest := [.ref 55]) (ls_q := [.int x3_49790, .int x2_49588, .int z49595]) (pm_q202_1 (Nat.le_of_ble_eq_true rfl)) rfl (Or.inl rfl) pm_M207 rfl rfl (Nat.le_of_ble_eq_true rfl) rfl rfl ?_
                          refine pm_R_op pm_M207 (pc_q := 3) (st_q := [.int 144]) rfl rfl rfl ?_
                          refine pm_R_lo pm_M207 (pc_q := 4) rfl rfl rfl ?_
                          refine sf_R_imul pm_M207 (pc_q := 5) rfl rfl sf_k144 B49803 (by decide) (by decide) (by decide) (fun z49804 e49805 B49806 => ?_)
                          refine pm_R_op pm_M207 (pc_q := 7) (st_q := [.int 12, .int z49804]) rfl rfl rfl ?_
                          refine pm_R_lo pm_M207 (pc_q := 8) rfl rfl rfl ?_
                          refine sf_R_imul pm_M207 (pc_q := 9) rfl rfl sf_k12 B49604 (by decide) (by decide) (by decide) (fun z49807 e49808 B49809 => ?_)
                          refine sf_R_iadd pm_M207 (pc_q := 10) rfl rfl B49806 B49809 (by decide) (by decide) (fun z49810 e49811 B49812 => ?_)
                          refine pm_R_lo pm_M207 (pc_q := 11) rfl rfl rfl ?_
                          refine sf_R_iadd pm_M207 (pc_q := 12) rfl rfl B49812 B49603 (by decide) (by decide) (fun z49813 e49814 B49815 => ?_)
                          refine pm_R_ret pm_M207 (r := some (.int z49813)) rfl (pm_ret_i _) ?_
                          show pm_R _ 202 133 [.ref 41, .int x1_48587, .int x2_49588, .int x3_49790, g4_43581, g5_43581] [.int z49813, .ref 55] _ _
                          refine pm_R_lo pm_M202 (pc_q := 134) (pm_q202_1 (Nat.le_of_ble_eq_true rfl)) rfl rfl ?_
                          refine pm_R_lo pm_M202 (pc_q := 135) (pm_q202_1 (Nat.le_of_ble_eq_true rfl)) rfl rfl ?_
                          refine pm_R_lo pm_M202 (pc_q := 136) (pm_q202_1 (Nat.le_of_ble_eq_true rfl)) rfl rfl ?_
                          refine pm_R_lo pm_M202 (pc_q := 137) (pm_q202_1 (Nat.le_of_ble_eq_true rfl)) rfl rfl ?_
                          refine pm_R_lo pm_M202 (pc_q := 138) (pm_q202_1 (Nat.le_of_ble_eq_true rfl)) rfl rfl ?_
                          refine sf_R_iaddV pm_M202 (pc_q := 139) (pm_q202_1 (Nat.le_of_ble_eq_true rfl)) rfl Bx2_49588 B48594 (by decide) (by decide) e49596 ?_
                          refine pm_R_cv pm_M202 (pc_q := 142) (a := 41) (ra := [.int z49595, .int x2_49588, .int x3_49790]) (rest := [.int z49813, .ref 55]) (ls_q := [.ref 41, .int x3_49790, .int x2_49588, .int z49595, pm_no, pm_no, pm_no, pm_no]) (pm_q202_1 (Nat.le_of_ble_eq_true rfl)) rfl (Or.inl rfl) pm_M208 T_49790.2.1 rfl (by decide) (Nat.lt_of_lt_of_le (by decide) T_49790.1) rfl rfl (Nat.le_of_ble_eq_true rfl) rfl rfl ?_
                          refine rf_c208 (d := d + 0) T_49790 B49803 (sf_weak B49604 (by decide) (by decide)) (sf_weak B49603 (by decide) (by decide)) (fun r49816 B49817 => ?_)
                          show pm_R _ 202 142 [.ref 41, .int x1_48587, .int x2_49588, .int x3_49790, g4_43581, g5_43581] [.long r49816, .int z49813, .ref 55] _ _
                          obtain ⟨f49824, e49825, b49826⟩ := T_49790.2.2.2.1 55 (by decide) (by decide)
                          refine rf_R_lst pm_M202 T_49790 (pc_q := 143) (pm_q202_1 (Nat.le_of_ble_eq_true rfl)) e49825 (by decide) (by decide) (sf_in B49815 (by decide) (by decide)) ⟨_, rfl, lf_upd b49826 B49817 _⟩ rfl (fun h49827 T49828 F49829 e49830 => ?_)
                          have F49831 := F_49790.trans F49829 (by decide)
                          refine sf_R_iinc pm_M202 (pc_q := 146) (ls_q := fun z => [.ref 41, .int x1_48587, .int x2_49588, .int z, g4_43581, g5_43581]) (pm_q202_1 (Nat.le_of_ble_eq_true rfl)) B49803 rfl (by decide) (by decide) (by decide) (fun _ => rfl) rfl (fun z49832 e49833 B49834 => ?_)
                          show pm_R _ 202 146 [.ref 41, .int x1_48587, .int x2_49588, .int z49832, g4_43581, g5_43581] [] _ _
                          refine pm_R_br pm_M202 (pc_q := 115) (pm_q202_1 (Nat.le_of_ble_eq_true rfl)) rfl ?_
                          exact ih_49790 _ (sf_up hN_49790 e49833 B49803 (by decide) (by decide)) h49827 m_49790 w_49790 z49832 T49828 F49831 W_49790 (sf_weak B49834 (by decide) (by decide)) rfl
                    exact L_49790 _ h_49588 m_49588 w_49588 0 T_49588 F_49588 (rf_W.refl _ _) (sf_weak sf_k0 (by decide) (by decide)) rfl
              exact L_49588 _ h_48587 m_48587 w_48587 0 (g3_48587) T_48587 F_48587 (rf_W.refl _ _) (sf_weak sf_k0 (by decide) (by decide)) rfl
        exact L_48587 _ h_43581 m_43581 w_43581 1 (g2_43581) (g3_43581) T_43581 F_43581 (rf_W.refl _ _) (sf_weak sf_k1 (by decide) (by decide)) Cg2_43581 rfl
      · have B49835 : sf_B 0 5 x1_43581 := sf_ltL (Int32.not_le.mp c43585) Bx1_43581 sf_k6
        refine pm_R_op pm_M202 (pc_q := 9) (st_q := [.int 0]) rfl rfl rfl ?_
        refine pm_R_lo pm_M202 (pc_q := 10) (ls_q := [.ref 41, .int x1_43581, .int 0, g3_43581, g4_43581, g5_43581]) (st_q := []) rfl rfl rfl ?_
        have L_55368 : ∀ (N : Nat) (h_55368 : pm_H) (m_55368 : Nat → Int32) (w_55368 : Int64) (x2_55368 : Int32) (g3_55368 : Value) (g4_55368 : Value) (g5_55368 : Value), rf_T m_55368 w_55368 h_55368 → rf_G [55] h h_55368 → rf_W [] m_43581 m_55368 → sf_B 0 12 x2_55368 → g4_55368.category = 1 → g5_55368.category = 1 → (12 - x2_55368.toInt).toNat = N → pm_R (d + 4) 202 10 [.ref 41, .int x1_43581, .int x2_55368, g3_55368, g4_55368, g5_55368] [] h_55368 Q := by
          intro N
          induction N using Nat.strongRecOn with
          | ind N ih_55368 =>
            intro h_55368 m_55368 w_55368 x2_55368 g3_55368 g4_55368 g5_55368 T_55368 F_55368 W_55368 Bx2_55368 Cg4_55368 Cg5_55368 hN_55368
            have W55371 : rf_W [] m m_55368 := W43584.trans W_55368 (by decide)
            have W55372 : rf_W [] m m_55368 := W_43581.trans W_55368 (by decide)
            refine pm_R_lo pm_M202 (pc_q := 11) rfl rfl rfl ?_
            refine pm_R_lo pm_M202 (pc_q := 12) rfl rfl rfl ?_
            have B55373 : sf_B 0 12 (m_55368 24) := T_55368.2.2.1 24
            refine rf_R_get pm_M202 T_55368 (pc_q := 15) (v := .int (m_55368 24)) rfl rfl rfl rfl ?_
            refine pm_R_icmp pm_M202 (t := 85) (pc_q := 18) rfl rfl rfl (fun c55374 => ?_) (fun c55374 => ?_)
            · skip
              refine sf_R_iinc pm_M202 (pc_q := 88) (ls_q := fun z => [.ref 41, .int z, .int x2_55368, g3_55368, g4_55368, g5_55368]) rfl B49835 rfl (by decide) (by decide) (by decide) (fun _ => rfl) rfl (fun z55375 e55376 B55377 => ?_)
              show pm_R _ 202 88 [.ref 41, .int z55375, .int x2_55368, g3_55368, g4_55368, g5_55368] [] _ _
              refine pm_R_br pm_M202 (pc_q := 2) rfl rfl ?_
              exact ih_43581 _ (sf_up hN_43581 e55376 B49835 (by decide) (by decide)) h_55368 m_55368 w_55368 z55375 (.int x2_55368) (g3_55368) (g4_55368) (g5_55368) T_55368 F_55368 W55372 (sf_weak B55377 (by decide) (by decide)) rfl Cg4_55368 Cg5_55368 rfl
            · have B55378 : sf_B 0 11 x2_55368 := sf_ltL (Int32.not_le.mp c55374) Bx2_55368 B55373
              have B55379 : sf_B 1 12 (m_55368 24) := sf_ltR (Int32.not_le.mp c55374) Bx2_55368 B55373
              refine pm_R_op pm_M202 (pc_q := 19) (st_q := [.long 0]) rfl rfl rfl ?_
              refine pm_R_lo pm_M202 (pc_q := 20) (ls_q := [.ref 41, .int x1_43581, .int x2_55368, .long 0, pm_no, g5_55368]) (st_q := []) rfl rfl rfl ?_
              refine pm_R_op pm_M202 (pc_q := 21) (st_q := [.int 0]) rfl rfl rfl ?_
              refine pm_R_lo pm_M202 (pc_q := 23) (ls_q := [.ref 41, .int x1_43581, .int x2_55368, .long 0, pm_no, .int 0]) (st_q := []) rfl rfl rfl ?_
              have L_56289 : ∀ (N : Nat) (x5_56289 : Int32) (y3_56289 : Int64), sf_B 0 16 x5_56289 → lf_B 0 16 y3_56289 → y3_56289.toInt ≤ x5_56289.toInt → (16 - x5_56289.toInt).toNat = N → pm_R (d + 4) 202 23 [.ref 41, .int x1_43581, .int x2_55368, .long y3_56289, pm_no, .int x5_56289] [] h_55368 Q := by
                intro N
                induction N using Nat.strongRecOn with
                | ind N ih_56289 =>
                  intro x5_56289 y3_56289 Bx5_56289 By3_56289 R0_56289 hN_56289
                  refine pm_R_lo pm_M202 (pc_q := 25) rfl rfl rfl ?_
                  refine pm_R_lo pm_M202 (pc_q := 26) rfl rfl rfl ?_
                  refine pm_R_cv pm_M202 (pc_q := 29) (a := 41) (ra := []) (rest := [.int x5_56289]) (ls_q := [.ref 41]) rfl rfl (Or.inl rfl) pm_M203 T_55368.2.1 rfl (by decide) (Nat.lt_of_lt_of_le (by decide) T_55368.1) rfl rfl (Nat.le_of_ble_eq_true rfl) rfl rfl ?_
                  refine pm_R_lo pm_M203 (pc_q := 1) rfl rfl rfl ?_
                  refine rf_R_get pm_M203 T_55368 (pc_q := 4) (v := .ref 47) rfl rfl rfl rfl ?_
                  refine pm_R_op pm_M203 (pc_q := 6) (st_q := [.int 100, .ref 47]) rfl rfl rfl ?_
                  refine pm_R_lo pm_M203 (pc_q := 7) rfl rfl rfl ?_
                  have B56290 : sf_B 0 1 (m_55368 23) := T_55368.2.2.1 23
                  refine rf_R_get pm_M203 T_55368 (pc_q := 10) (v := .int (m_55368 23)) rfl rfl rfl rfl ?_
                  refine sf_R_imul pm_M203 (pc_q := 11) rfl rfl sf_k100 B56290 (by decide) (by decide) (by decide) (fun z56291 e56292 B56293 => ?_)
                  refine pm_R_op pm_M203 (pc_q := 12) (st_q := [.int 1, .int z56291, .ref 47]) rfl rfl rfl ?_
                  refine sf_R_iadd pm_M203 (pc_q := 13) rfl rfl B56293 sf_k1 (by decide) (by decide) (fun z56294 e56295 B56296 => ?_)
                  obtain ⟨f56297, e56298, b56299⟩ := T_55368.2.2.2.1 47 (by decide) (by decide)
                  refine rf_R_ild pm_M203 T_55368 (pc_q := 14) rfl e56298 (by decide) (sf_in B56296 (by decide) (by decide)) rfl (fun z56300 ez56301 => ?_)
                  have e56302 : (z56294).toInt = 100 * ((m_55368 23)).toInt + 1 := (sf_aux7 _ _ _ e56292 e56295)
                  have B56303 : sf_B 0 16 z56300 := ez56301 ▸ rf_p47b b56299 e56302 B56290 (by decide)
                  refine pm_R_ret pm_M203 (r := some (.int z56300)) rfl (pm_ret_i _) ?_
                  show pm_R _ 202 29 [.ref 41, .int x1_43581, .int x2_55368, .long y3_56289, pm_no, .int x5_56289] [.int z56300, .int x5_56289] _ _
                  refine pm_R_icmp pm_M202 (t := 67) (pc_q := 32) rfl rfl rfl (fun c56304 => ?_) (fun c56304 => ?_)
                  · skip
                    refine pm_R_lo pm_M202 (pc_q := 68) rfl rfl rfl ?_
                    refine rf_R_get pm_M202 T_55368 (pc_q := 71) (v := .ref 55) rfl rfl rfl rfl ?_
                    refine pm_R_lo pm_M202 (pc_q := 72) rfl rfl rfl ?_
                    refine pm_R_lo pm_M202 (pc_q := 73) rfl rfl rfl ?_
                    refine pm_R_lo pm_M202 (pc_q := 74) rfl rfl rfl ?_
                    refine pm_R_cs pm_M202 (pc_q := 77) (ra := [.int x2_55368, .int x2_55368, .int x1_43581]) (rest := [.ref 55]) (ls_q := [.int x1_43581, .int x2_55368, .int x2_55368]) rfl rfl (Or.inl rfl) pm_M207 rfl rfl (Nat.le_of_ble_eq_true rfl) rfl rfl ?_
                    refine pm_R_op pm_M207 (pc_q := 3) (st_q := [.int 144]) rfl rfl rfl ?_
                    refine pm_R_lo pm_M207 (pc_q := 4) rfl rfl rfl ?_
                    refine sf_R_imul pm_M207 (pc_q := 5) rfl rfl sf_k144 B49835 (by decide) (by decide) (by decide) (fun z56305 e56306 B56307 => ?_)
                    refine pm_R_op pm_M207 (pc_q := 7) (st_q := [.int 12, .int z56305]) rfl rfl rfl ?_
                    refine pm_R_lo pm_M207 (pc_q := 8) rfl rfl rfl ?_
                    refine sf_R_imul pm_M207 (pc_q := 9) rfl rfl sf_k12 B55378 (by decide) (by decide) (by decide) (fun z56308 e56309 B56310 => ?_)
                    refine sf_R_iadd pm_M207 (pc_q := 10) rfl rfl B56307 B56310 (by decide) (by decide) (fun z56311 e56312 B56313 => ?_)
                    refine pm_R_lo pm_M207 (pc_q := 11) rfl rfl rfl ?_
                    refine sf_R_iadd pm_M207 (pc_q := 12) rfl rfl B56313 B55378 (by decide) (by decide) (fun z56314 e56315 B56316 => ?_)
                    refine pm_R_ret pm_M207 (r := some (.int z56314)) rfl (pm_ret_i _) ?_
                    show pm_R _ 202 77 [.ref 41, .int x1_43581, .int x2_55368, .long y3_56289, pm_no, .int x5_56289] [.int z56314, .ref 55] _ _
                    refine pm_R_lo pm_M202 (pc_q := 78) rfl rfl rfl ?_
                    obtain ⟨f56317, e56318, b56319⟩ := T_55368.2.2.2.1 55 (by decide) (by decide)
                    refine rf_R_lst pm_M202 T_55368 (pc_q := 79) rfl e56318 (by decide) (by decide) (sf_in B56316 (by decide) (by decide)) ⟨_, rfl, lf_upd b56319 (lf_weak By3_56289 (by decide) (by decide)) _⟩ rfl (fun h56320 T56321 F56322 e56323 => ?_)
                    have F56324 := F_55368.trans F56322 (by decide)
                    refine sf_R_iinc pm_M202 (pc_q := 82) (ls_q := fun z => [.ref 41, .int x1_43581, .int z, .long y3_56289, pm_no, .int x5_56289]) rfl B55378 rfl (by decide) (by decide) (by decide) (fun _ => rfl) rfl (fun z56325 e56326 B56327 => ?_)
                    show pm_R _ 202 82 [.ref 41, .int x1_43581, .int z56325, .long y3_56289, pm_no, .int x5_56289] [] _ _
                    refine pm_R_br pm_M202 (pc_q := 10) rfl rfl ?_
                    exact ih_55368 _ (sf_up hN_55368 e56326 B55378 (by decide) (by decide)) h56320 m_55368 w_55368 z56325 (.long y3_56289) (pm_no) (.int x5_56289) T56321 F56324 W_55368 (sf_weak B56327 (by decide) (by decide)) rfl rfl rfl
                  · have B56328 : sf_B 0 15 x5_56289 := sf_ltL (Int32.not_le.mp c56304) Bx5_56289 B56303
                    have B56329 : lf_B 0 15 y3_56289 := lf_leT R0_56289 By3_56289 B56328
                    have B56330 : sf_B 1 16 z56300 := sf_ltR (Int32.not_le.mp c56304) Bx5_56289 B56303
                    refine pm_R_lo pm_M202 (pc_q := 33) rfl rfl rfl ?_
                    refine pm_R_lo pm_M202 (pc_q := 34) rfl rfl rfl ?_
                    refine pm_R_lo pm_M202 (pc_q := 36) rfl rfl rfl ?_
                    refine pm_R_lo pm_M202 (pc_q := 37) rfl rfl rfl ?_
                    refine pm_R_cv pm_M202 (pc_q := 40) (a := 41) (ra := [.int x2_55368, .int x5_56289]) (rest := [.long y3_56289]) (ls_q := [.ref 41, .int x5_56289, .int x2_55368]) rfl rfl (Or.inl rfl) pm_M204 T_55368.2.1 rfl (by decide) (Nat.lt_of_lt_of_le (by decide) T_55368.1) rfl rfl (Nat.le_of_ble_eq_true rfl) rfl rfl ?_
                    refine pm_R_lo pm_M204 (pc_q := 1) rfl rfl rfl ?_
                    refine rf_R_get pm_M204 T_55368 (pc_q := 4) (v := .ref 53) rfl rfl rfl rfl ?_
                    refine pm_R_lo pm_M204 (pc_q := 5) rfl rfl rfl ?_
                    obtain ⟨f56331, e56332⟩ := T_55368.2.2.2.1 53 (by decide) (by decide)
                    refine rf_R_ild pm_M204 T_55368 (pc_q := 6) rfl e56332 (by decide) (sf_in B55378 (by decide) (by decide)) rfl (fun z56334 ez56335 => ?_)
                    refine sf_R_lany pm_M204 (pc_q := 7) (st := []) rfl rfl rfl (fun z56336 => ?_)
                    refine pm_R_lo pm_M204 (pc_q := 8) rfl rfl rfl ?_
                    refine pm_R_lo pm_M204 (pc_q := 9) rfl rfl rfl ?_
                    refine pm_R_op pm_M204 (pc_q := 10) (st_q := [.int 0, .int x5_56289, .ref 41, .long z56336]) rfl rfl rfl ?_
                    refine pm_R_cv pm_M204 (pc_q := 13) (a := 41) (ra := [.int 0, .int x5_56289]) (rest := [.long z56336]) (ls_q := [.ref 41, .int x5_56289, .int 0]) rfl rfl (Or.inl rfl) pm_M205 T_55368.2.1 rfl (by decide) (Nat.lt_of_lt_of_le (by decide) T_55368.1) rfl rfl (Nat.le_of_ble_eq_true rfl) rfl rfl ?_
                    refine pm_R_lo pm_M205 (pc_q := 1) rfl rfl rfl ?_
                    refine rf_R_get pm_M205 T_55368 (pc_q := 4) (v := .ref 47) rfl rfl rfl rfl ?_
                    refine pm_R_op pm_M205 (pc_q := 6) (st_q := [.int 100, .ref 47]) rfl rfl rfl ?_
                    refine pm_R_lo pm_M205 (pc_q := 7) rfl rfl rfl ?_
                    refine rf_R_get pm_M205 T_55368 (pc_q := 10) (v := .int (m_55368 23)) rfl rfl rfl rfl ?_
                    refine sf_R_imulV pm_M205 (pc_q := 11) rfl rfl sf_k100 B56290 (by decide) (by decide) (by decide) e56292 ?_
                    refine pm_R_op pm_M205 (pc_q := 13) (st_q := [.int 42, .int z56291, .ref 47]) rfl rfl rfl ?_
                    refine sf_R_iadd pm_M205 (pc_q := 14) rfl rfl B56293 sf_k42 (by decide) (by decide) (fun z56337 e56338 B56339 => ?_)
                    refine pm_R_op pm_M205 (pc_q := 15) (st_q := [.int 3, .int z56337, .ref 47]) rfl rfl rfl ?_
                    refine pm_R_lo pm_M205 (pc_q := 16) rfl rfl rfl ?_
                    refine sf_R_imul pm_M205 (pc_q := 17) rfl rfl sf_k3 B56328 (by decide) (by decide) (by decide) (fun z56340 e56341 B56342 => ?_)
                    refine sf_R_iadd pm_M205 (pc_q := 18) rfl rfl B56339 B56342 (by decide) (by decide) (fun z56343 e56344 B56345 => ?_)
                    refine pm_R_lo pm_M205 (pc_q := 19) rfl rfl rfl ?_
                    refine sf_R_iadd pm_M205 (pc_q := 20) rfl rfl B56345 sf_k0 (by decide) (by decide) (fun z56346 e56347 B56348 => ?_)
                    refine rf_R_ild pm_M205 T_55368 (pc_q := 21) rfl e56298 (by decide) (sf_in B56348 (by decide) (by decide)) rfl (fun z56349 ez56350 => ?_)
                    have e56351 : (z56346).toInt = 100 * ((m_55368 23)).toInt + 3 * (x5_56289).toInt + 42 := (sf_aux8 _ _ _ _ _ _ _ e56292 e56338 e56341 e56344 e56347)
                    have B56352 : sf_B 0 9 z56349 := ez56350 ▸ rf_p47s b56299 e56351 B56290 B56328 (by decide) (by decide) (by decide)
                    refine pm_R_ret pm_M205 (r := some (.int z56349)) rfl (pm_ret_i _) ?_
                    show pm_R _ 204 13 [.ref 41, .int x5_56289, .int x2_55368] [.int z56349, .long z56336] _ _
                    refine pm_R_cs pm_M204 (pc_q := 16) (ra := [.int z56349, .long z56336]) (rest := []) (ls_q := [.long z56336, pm_no, .int z56349]) rfl rfl (Or.inl rfl) pm_M206 rfl rfl (Nat.le_of_ble_eq_true rfl) rfl rfl ?_
                    refine pm_R_lo pm_M206 (pc_q := 1) rfl rfl rfl ?_
                    refine pm_R_lo pm_M206 (pc_q := 2) rfl rfl rfl ?_
                    refine sf_R_lany pm_M206 (pc_q := 3) (st := []) rfl rfl rfl (fun z56353 => ?_)
                    refine pm_R_op pm_M206 (pc_q := 4) (st_q := [.long 1, .long z56353]) rfl rfl rfl ?_
                    refine sf_R_lany pm_M206 (pc_q := 5) (st := []) rfl rfl rfl (fun z56354 => ?_)
                    refine pm_R_op pm_M206 (pc_q := 6) (st_q := [.long 1, .long z56354]) rfl rfl rfl ?_
                    refine sf_R_lcmp pm_M206 (pc_q := 7) rfl rfl (fun z56355 e56356 => ?_)
                    refine pm_R_ifc pm_M206 (t := 14) (pc_q := 10) rfl rfl rfl (fun c56357 => ?_) (fun c56357 => ?_)
                    · have k56358 := sf_lneC e56356 c56357
                      refine pm_R_op pm_M206 (pc_q := 15) (st_q := [.int 0]) rfl rfl rfl ?_
                      refine pm_R_ret pm_M206 (r := some (.int 0)) rfl rfl ?_
                      show pm_R _ 204 16 [.ref 41, .int x5_56289, .int x2_55368] [.int 0] _ _
                      refine pm_R_br pm_M204 (pc_q := 39) (st_q := []) rfl rfl ?_
                      refine pm_R_op pm_M204 (pc_q := 40) (st_q := [.int 0]) rfl rfl rfl ?_
                      refine pm_R_ret pm_M204 (r := some (.int 0)) rfl rfl ?_
                      show pm_R _ 202 40 [.ref 41, .int x1_43581, .int x2_55368, .long y3_56289, pm_no, .int x5_56289] [.int 0, .long y3_56289] _ _
                      refine pm_R_br pm_M202 (pc_q := 58) (st_q := [.long y3_56289]) rfl rfl ?_
                      refine pm_R_op pm_M202 (pc_q := 59) (st_q := [.long 0, .long y3_56289]) rfl rfl rfl ?_
                      refine sf_R_ladd pm_M202 (pc_q := 60) rfl rfl B56329 (⟨by decide, by decide⟩ : lf_B 0 0 0) (by decide) (by decide) (fun z56359 e56360 B56361 => ?_)
                      refine pm_R_lo pm_M202 (pc_q := 61) (ls_q := [.ref 41, .int x1_43581, .int x2_55368, .long z56359, pm_no, .int x5_56289]) (st_q := []) rfl rfl rfl ?_
                      refine sf_R_iinc pm_M202 (pc_q := 64) (ls_q := fun z => [.ref 41, .int x1_43581, .int x2_55368, .long z56359, pm_no, .int z]) rfl B56328 rfl (by decide) (by decide) (by decide) (fun _ => rfl) rfl (fun z56362 e56363 B56364 => ?_)
                      show pm_R _ 202 64 [.ref 41, .int x1_43581, .int x2_55368, .long z56359, pm_no, .int z56362] [] _ _
                      refine pm_R_br pm_M202 (pc_q := 23) rfl rfl ?_
                      exact ih_56289 _ (sf_up hN_56289 e56363 B56328 (by decide) (by decide)) z56362 z56359 (sf_weak B56364 (by decide) (by decide)) (lf_weak B56361 (by decide) (by decide)) (sf_aux11 _ _ _ _ e56360 e56363 B56329.1 B56329.2 B56328.1 B56328.2 R0_56289) rfl
                    · have B56365 : sf_B 0 0 z56355 := sf_eqL (Classical.not_not.mp c56357) sf_k0
                      have B56366 : lf_B 1 1 z56354 := lf_eqB e56356 B56365 (⟨by decide, by decide⟩ : lf_B 1 1 1)
                      refine pm_R_op pm_M206 (pc_q := 11) (st_q := [.int 1]) rfl rfl rfl ?_
                      refine pm_R_br pm_M206 (pc_q := 15) rfl rfl ?_
                      refine pm_R_ret pm_M206 (r := some (.int 1)) rfl rfl ?_
                      show pm_R _ 204 16 [.ref 41, .int x5_56289, .int x2_55368] [.int 1] _ _
                      refine pm_R_br pm_M204 (pc_q := 19) (st_q := []) rfl rfl ?_
                      refine pm_R_lo pm_M204 (pc_q := 20) rfl rfl rfl ?_
                      have B56367 : sf_B (-1) 11 (m_55368 26) := T_55368.2.2.1 26
                      refine rf_R_get pm_M204 T_55368 (pc_q := 23) (v := .int (m_55368 26)) rfl rfl rfl rfl ?_
                      refine pm_R_lo pm_M204 (pc_q := 24) rfl rfl rfl ?_
                      refine pm_R_icmp pm_M204 (t := 35) (pc_q := 27) rfl rfl rfl (fun c56368 => ?_) (fun c56368 => ?_)
                      · skip
                        refine pm_R_op pm_M204 (pc_q := 36) (st_q := [.int 1]) rfl rfl rfl ?_
                        refine pm_R_br pm_M204 (pc_q := 40) rfl rfl ?_
                        refine pm_R_ret pm_M204 (r := some (.int 1)) rfl rfl ?_
                        show pm_R _ 202 40 [.ref 41, .int x1_43581, .int x2_55368, .long y3_56289, pm_no, .int x5_56289] [.int 1, .long y3_56289] _ _
                        refine pm_R_br pm_M202 (pc_q := 43) (st_q := [.long y3_56289]) rfl rfl ?_
                        refine pm_R_lo pm_M202 (pc_q := 44) rfl rfl rfl ?_
                        refine pm_R_lo pm_M202 (pc_q := 46) rfl rfl rfl ?_
                        refine pm_R_op pm_M202 (pc_q := 47) (st_q := [.int 1, .int x5_56289, .ref 41, .long y3_56289]) rfl rfl rfl ?_
                        refine pm_R_cv pm_M202 (pc_q := 50) (a := 41) (ra := [.int 1, .int x5_56289]) (rest := [.long y3_56289]) (ls_q := [.ref 41, .int x5_56289, .int 1]) rfl rfl (Or.inl rfl) pm_M205 T_55368.2.1 rfl (by decide) (Nat.lt_of_lt_of_le (by decide) T_55368.1) rfl rfl (Nat.le_of_ble_eq_true rfl) rfl rfl ?_
                        refine pm_R_lo pm_M205 (pc_q := 1) rfl rfl rfl ?_
                        refine rf_R_get pm_M205 T_55368 (pc_q := 4) (v := .ref 47) rfl rfl rfl rfl ?_
                        refine pm_R_op pm_M205 (pc_q := 6) (st_q := [.int 100, .ref 47]) rfl rfl rfl ?_
                        refine pm_R_lo pm_M205 (pc_q := 7) rfl rfl rfl ?_
                        refine rf_R_get pm_M205 T_55368 (pc_q := 10) (v := .int (m_55368 23)) rfl rfl rfl rfl ?_
                        refine sf_R_imulV pm_M205 (pc_q := 11) rfl rfl sf_k100 B56290 (by decide) (by decide) (by decide) e56292 ?_
                        refine pm_R_op pm_M205 (pc_q := 13) (st_q := [.int 42, .int z56291, .ref 47]) rfl rfl rfl ?_
                        refine sf_R_iaddV pm_M205 (pc_q := 14) rfl rfl B56293 sf_k42 (by decide) (by decide) e56338 ?_
                        refine pm_R_op pm_M205 (pc_q := 15) (st_q := [.int 3, .int z56337, .ref 47]) rfl rfl rfl ?_
                        refine pm_R_lo pm_M205 (pc_q := 16) rfl rfl rfl ?_
                        refine sf_R_imulV pm_M205 (pc_q := 17) rfl rfl sf_k3 B56328 (by decide) (by decide) (by decide) e56341 ?_
                        refine sf_R_iaddV pm_M205 (pc_q := 18) rfl rfl B56339 B56342 (by decide) (by decide) e56344 ?_
                        refine pm_R_lo pm_M205 (pc_q := 19) rfl rfl rfl ?_
                        refine sf_R_iadd pm_M205 (pc_q := 20) rfl rfl B56345 sf_k1 (by decide) (by decide) (fun z56369 e56370 B56371 => ?_)
                        refine rf_R_ild pm_M205 T_55368 (pc_q := 21) rfl e56298 (by decide) (sf_in B56371 (by decide) (by decide)) rfl (fun z56372 ez56373 => ?_)
                        have e56374 : (z56369).toInt = 100 * ((m_55368 23)).toInt + 3 * (x5_56289).toInt + 43 := (sf_aux9 _ _ _ _ _ _ _ e56292 e56338 e56341 e56344 e56370)
                        have B56375 : sf_B 0 5 z56372 := ez56373 ▸ rf_p47k b56299 e56374 B56290 B56328 (by decide) (by decide) (by decide)
                        refine pm_R_ret pm_M205 (r := some (.int z56372)) rfl (pm_ret_i _) ?_
                        show pm_R _ 202 50 [.ref 41, .int x1_43581, .int x2_55368, .long y3_56289, pm_no, .int x5_56289] [.int z56372, .long y3_56289] _ _
                        refine pm_R_lo pm_M202 (pc_q := 51) rfl rfl rfl ?_
                        refine pm_R_icmp pm_M202 (t := 58) (pc_q := 54) rfl rfl rfl (fun c56376 => ?_) (fun c56376 => ?_)
                        · skip
                          refine pm_R_op pm_M202 (pc_q := 59) (st_q := [.long 0, .long y3_56289]) rfl rfl rfl ?_
                          refine sf_R_ladd pm_M202 (pc_q := 60) rfl rfl B56329 (⟨by decide, by decide⟩ : lf_B 0 0 0) (by decide) (by decide) (fun z56377 e56378 B56379 => ?_)
                          refine pm_R_lo pm_M202 (pc_q := 61) (ls_q := [.ref 41, .int x1_43581, .int x2_55368, .long z56377, pm_no, .int x5_56289]) (st_q := []) rfl rfl rfl ?_
                          refine sf_R_iinc pm_M202 (pc_q := 64) (ls_q := fun z => [.ref 41, .int x1_43581, .int x2_55368, .long z56377, pm_no, .int z]) rfl B56328 rfl (by decide) (by decide) (by decide) (fun _ => rfl) rfl (fun z56380 e56381 B56382 => ?_)
                          show pm_R _ 202 64 [.ref 41, .int x1_43581, .int x2_55368, .long z56377, pm_no, .int z56380] [] _ _
                          refine pm_R_br pm_M202 (pc_q := 23) rfl rfl ?_
                          exact ih_56289 _ (sf_up hN_56289 e56381 B56328 (by decide) (by decide)) z56380 z56377 (sf_weak B56382 (by decide) (by decide)) (lf_weak B56379 (by decide) (by decide)) (sf_aux11 _ _ _ _ e56378 e56381 B56329.1 B56329.2 B56328.1 B56328.2 R0_56289) rfl
                        · refine pm_R_op pm_M202 (pc_q := 55) (st_q := [.long 1, .long y3_56289]) rfl rfl rfl ?_
                          refine pm_R_br pm_M202 (pc_q := 59) rfl rfl ?_
                          refine sf_R_ladd pm_M202 (pc_q := 60) rfl rfl B56329 (⟨by decide, by decide⟩ : lf_B 1 1 1) (by decide) (by decide) (fun z56383 e56384 B56385 => ?_)
                          refine pm_R_lo pm_M202 (pc_q := 61) (ls_q := [.ref 41, .int x1_43581, .int x2_55368, .long z56383, pm_no, .int x5_56289]) (st_q := []) rfl rfl rfl ?_
                          refine sf_R_iinc pm_M202 (pc_q := 64) (ls_q := fun z => [.ref 41, .int x1_43581, .int x2_55368, .long z56383, pm_no, .int z]) rfl B56328 rfl (by decide) (by decide) (by decide) (fun _ => rfl) rfl (fun z56386 e56387 B56388 => ?_)
                          show pm_R _ 202 64 [.ref 41, .int x1_43581, .int x2_55368, .long z56383, pm_no, .int z56386] [] _ _
                          refine pm_R_br pm_M202 (pc_q := 23) rfl rfl ?_
                          exact ih_56289 _ (sf_up hN_56289 e56387 B56328 (by decide) (by decide)) z56386 z56383 (sf_weak B56388 (by decide) (by decide)) (lf_weak B56385 (by decide) (by decide)) (sf_aux12 _ _ _ _ e56384 e56387 B56329.1 B56329.2 B56328.1 B56328.2 R0_56289) rfl
                      · have B56389 : sf_B 0 11 (m_55368 26) := sf_eqL (Classical.not_not.mp c56368) B55378
                        refine pm_R_lo pm_M204 (pc_q := 28) rfl rfl rfl ?_
                        have B56390 : sf_B 0 15 (m_55368 27) := T_55368.2.2.1 27
                        refine rf_R_get pm_M204 T_55368 (pc_q := 31) (v := .int (m_55368 27)) rfl rfl rfl rfl ?_
                        refine pm_R_lo pm_M204 (pc_q := 32) rfl rfl rfl ?_
                        refine pm_R_icmp pm_M204 (t := 39) (pc_q := 35) rfl rfl rfl (fun c56391 => ?_) (fun c56391 => ?_)
                        · skip
                          refine pm_R_op pm_M204 (pc_q := 40) (st_q := [.int 0]) rfl rfl rfl ?_
                          refine pm_R_ret pm_M204 (r := some (.int 0)) rfl rfl ?_
                          show pm_R _ 202 40 [.ref 41, .int x1_43581, .int x2_55368, .long y3_56289, pm_no, .int x5_56289] [.int 0, .long y3_56289] _ _
                          refine pm_R_br pm_M202 (pc_q := 58) (st_q := [.long y3_56289]) rfl rfl ?_
                          refine pm_R_op pm_M202 (pc_q := 59) (st_q := [.long 0, .long y3_56289]) rfl rfl rfl ?_
                          refine sf_R_ladd pm_M202 (pc_q := 60) rfl rfl B56329 (⟨by decide, by decide⟩ : lf_B 0 0 0) (by decide) (by decide) (fun z56392 e56393 B56394 => ?_)
                          refine pm_R_lo pm_M202 (pc_q := 61) (ls_q := [.ref 41, .int x1_43581, .int x2_55368, .long z56392, pm_no, .int x5_56289]) (st_q := []) rfl rfl rfl ?_
                          refine sf_R_iinc pm_M202 (pc_q := 64) (ls_q := fun z => [.ref 41, .int x1_43581, .int x2_55368, .long z56392, pm_no, .int z]) rfl B56328 rfl (by decide) (by decide) (by decide) (fun _ => rfl) rfl (fun z56395 e56396 B56397 => ?_)
                          show pm_R _ 202 64 [.ref 41, .int x1_43581, .int x2_55368, .long z56392, pm_no, .int z56395] [] _ _
                          refine pm_R_br pm_M202 (pc_q := 23) rfl rfl ?_
                          exact ih_56289 _ (sf_up hN_56289 e56396 B56328 (by decide) (by decide)) z56395 z56392 (sf_weak B56397 (by decide) (by decide)) (lf_weak B56394 (by decide) (by decide)) (sf_aux11 _ _ _ _ e56393 e56396 B56329.1 B56329.2 B56328.1 B56328.2 R0_56289) rfl
                        · refine pm_R_op pm_M204 (pc_q := 36) (st_q := [.int 1]) rfl rfl rfl ?_
                          refine pm_R_br pm_M204 (pc_q := 40) rfl rfl ?_
                          refine pm_R_ret pm_M204 (r := some (.int 1)) rfl rfl ?_
                          show pm_R _ 202 40 [.ref 41, .int x1_43581, .int x2_55368, .long y3_56289, pm_no, .int x5_56289] [.int 1, .long y3_56289] _ _
                          refine pm_R_br pm_M202 (pc_q := 43) (st_q := [.long y3_56289]) rfl rfl ?_
                          refine pm_R_lo pm_M202 (pc_q := 44) rfl rfl rfl ?_
                          refine pm_R_lo pm_M202 (pc_q := 46) rfl rfl rfl ?_
                          refine pm_R_op pm_M202 (pc_q := 47) (st_q := [.int 1, .int x5_56289, .ref 41, .long y3_56289]) rfl rfl rfl ?_
                          refine pm_R_cv pm_M202 (pc_q := 50) (a := 41) (ra := [.int 1, .int x5_56289]) (rest := [.long y3_56289]) (ls_q := [.ref 41, .int x5_56289, .int 1]) rfl rfl (Or.inl rfl) pm_M205 T_55368.2.1 rfl (by decide) (Nat.lt_of_lt_of_le (by decide) T_55368.1) rfl rfl (Nat.le_of_ble_eq_true rfl) rfl rfl ?_
                          refine pm_R_lo pm_M205 (pc_q := 1) rfl rfl rfl ?_
                          refine rf_R_get pm_M205 T_55368 (pc_q := 4) (v := .ref 47) rfl rfl rfl rfl ?_
                          refine pm_R_op pm_M205 (pc_q := 6) (st_q := [.int 100, .ref 47]) rfl rfl rfl ?_
                          refine pm_R_lo pm_M205 (pc_q := 7) rfl rfl rfl ?_
                          refine rf_R_get pm_M205 T_55368 (pc_q := 10) (v := .int (m_55368 23)) rfl rfl rfl rfl ?_
                          refine sf_R_imulV pm_M205 (pc_q := 11) rfl rfl sf_k100 B56290 (by decide) (by decide) (by decide) e56292 ?_
                          refine pm_R_op pm_M205 (pc_q := 13) (st_q := [.int 42, .int z56291, .ref 47]) rfl rfl rfl ?_
                          refine sf_R_iaddV pm_M205 (pc_q := 14) rfl rfl B56293 sf_k42 (by decide) (by decide) e56338 ?_
                          refine pm_R_op pm_M205 (pc_q := 15) (st_q := [.int 3, .int z56337, .ref 47]) rfl rfl rfl ?_
                          refine pm_R_lo pm_M205 (pc_q := 16) rfl rfl rfl ?_
                          refine sf_R_imulV pm_M205 (pc_q := 17) rfl rfl sf_k3 B56328 (by decide) (by decide) (by decide) e56341 ?_
                          refine sf_R_iaddV pm_M205 (pc_q := 18) rfl rfl B56339 B56342 (by decide) (by decide) e56344 ?_
                          refine pm_R_lo pm_M205 (pc_q := 19) rfl rfl rfl ?_
                          refine sf_R_iadd pm_M205 (pc_q := 20) rfl rfl B56345 sf_k1 (by decide) (by decide) (fun z56398 e56399 B56400 => ?_)
                          refine rf_R_ild pm_M205 T_55368 (pc_q := 21) rfl e56298 (by decide) (sf_in B56400 (by decide) (by decide)) rfl (fun z56401 ez56402 => ?_)
                          have e56403 : (z56398).toInt = 100 * ((m_55368 23)).toInt + 3 * (x5_56289).toInt + 43 := (sf_aux9 _ _ _ _ _ _ _ e56292 e56338 e56341 e56344 e56399)
                          have B56404 : sf_B 0 5 z56401 := ez56402 ▸ rf_p47k b56299 e56403 B56290 B56328 (by decide) (by decide) (by decide)
                          refine pm_R_ret pm_M205 (r := some (.int z56401)) rfl (pm_ret_i _) ?_
                          show pm_R _ 202 50 [.ref 41, .int x1_43581, .int x2_55368, .long y3_56289, pm_no, .int x5_56289] [.int z56401, .long y3_56289] _ _
                          refine pm_R_lo pm_M202 (pc_q := 51) rfl rfl rfl ?_
                          refine pm_R_icmp pm_M202 (t := 58) (pc_q := 54) rfl rfl rfl (fun c56405 => ?_) (fun c56405 => ?_)
                          · skip
                            refine pm_R_op pm_M202 (pc_q := 59) (st_q := [.long 0, .long y3_56289]) rfl rfl rfl ?_
                            refine sf_R_ladd pm_M202 (pc_q := 60) rfl rfl B56329 (⟨by decide, by decide⟩ : lf_B 0 0 0) (by decide) (by decide) (fun z56406 e56407 B56408 => ?_)
                            refine pm_R_lo pm_M202 (pc_q := 61) (ls_q := [.ref 41, .int x1_43581, .int x2_55368, .long z56406, pm_no, .int x5_56289]) (st_q := []) rfl rfl rfl ?_
                            refine sf_R_iinc pm_M202 (pc_q := 64) (ls_q := fun z => [.ref 41, .int x1_43581, .int x2_55368, .long z56406, pm_no, .int z]) rfl B56328 rfl (by decide) (by decide) (by decide) (fun _ => rfl) rfl (fun z56409 e56410 B56411 => ?_)
                            show pm_R _ 202 64 [.ref 41, .int x1_43581, .int x2_55368, .long z56406, pm_no, .int z56409] [] _ _
                            refine pm_R_br pm_M202 (pc_q := 23) rfl rfl ?_
                            exact ih_56289 _ (sf_up hN_56289 e56410 B56328 (by decide) (by decide)) z56409 z56406 (sf_weak B56411 (by decide) (by decide)) (lf_weak B56408 (by decide) (by decide)) (sf_aux11 _ _ _ _ e56407 e56410 B56329.1 B56329.2 B56328.1 B56328.2 R0_56289) rfl
                          · refine pm_R_op pm_M202 (pc_q := 55) (st_q := [.long 1, .long y3_56289]) rfl rfl rfl ?_
                            refine pm_R_br pm_M202 (pc_q := 59) rfl rfl ?_
                            refine sf_R_ladd pm_M202 (pc_q := 60) rfl rfl B56329 (⟨by decide, by decide⟩ : lf_B 1 1 1) (by decide) (by decide) (fun z56412 e56413 B56414 => ?_)
                            refine pm_R_lo pm_M202 (pc_q := 61) (ls_q := [.ref 41, .int x1_43581, .int x2_55368, .long z56412, pm_no, .int x5_56289]) (st_q := []) rfl rfl rfl ?_
                            refine sf_R_iinc pm_M202 (pc_q := 64) (ls_q := fun z => [.ref 41, .int x1_43581, .int x2_55368, .long z56412, pm_no, .int z]) rfl B56328 rfl (by decide) (by decide) (by decide) (fun _ => rfl) rfl (fun z56415 e56416 B56417 => ?_)
                            show pm_R _ 202 64 [.ref 41, .int x1_43581, .int x2_55368, .long z56412, pm_no, .int z56415] [] _ _
                            refine pm_R_br pm_M202 (pc_q := 23) rfl rfl ?_
                            exact ih_56289 _ (sf_up hN_56289 e56416 B56328 (by decide) (by decide)) z56415 z56412 (sf_weak B56417 (by decide) (by decide)) (lf_weak B56414 (by decide) (by decide)) (sf_aux12 _ _ _ _ e56413 e56416 B56329.1 B56329.2 B56328.1 B56328.2 R0_56289) rfl
              exact L_56289 _ 0 0 (sf_weak sf_k0 (by decide) (by decide)) (lf_weak (⟨by decide, by decide⟩ : lf_B 0 0 0) (by decide) (by decide)) (by decide) rfl
        exact L_55368 _ h_43581 m_43581 w_43581 0 (g3_43581) (g4_43581) (g5_43581) T_43581 F_43581 (rf_W.refl _ _) (sf_weak sf_k0 (by decide) (by decide)) Cg4_43581 Cg5_43581 rfl
  exact L_43581 _ h m w 0 (pm_no) (pm_no) (pm_no) (pm_no) T (rf_G.refl [55] h) (rf_W.refl _ _) (sf_weak sf_k0 (by decide) (by decide)) rfl rfl rfl rfl

set_option maxRecDepth 100000 in
set_option maxHeartbeats 4000000 in
/-- SilentTableModel.addByValue -/
theorem rf_c226 {d : Nat} {m : Nat → Int32} {w : Int64} {h : pm_H} {Q : Option Value → pm_H → Prop} {a0 : Int32} {a1 : Int32} {a2 : Int32} {a3 : Int32} (T : rf_T m w h) (Ba0 : sf_B 0 9 a0) (Ba1 : sf_B 0 11 a1) (Ba2 : sf_B 0 10 a2) (Ba3 : sf_B 0 11 a3) (K : ∀ (m_q : Nat → Int32) (w_q : Int64) (h_q : pm_H), rf_T m_q w_q h_q → rf_G [56] h h_q → rf_W [] m m_q → Q none h_q) : pm_R (d + 2) 226 0 [.ref 41, .int a0, .int a1, .int a2, .int a3, pm_no, pm_no, pm_no, pm_no, pm_no, pm_no, pm_no] [] h Q := by
  refine pm_R_op pm_M226 (pc_q := 1) (st_q := [.int 0]) rfl rfl rfl ?_
  refine pm_R_lo pm_M226 (pc_q := 3) (ls_q := [.ref 41, .int a0, .int a1, .int a2, .int a3, .int 0, pm_no, pm_no, pm_no, pm_no, pm_no, pm_no]) (st_q := []) rfl rfl rfl ?_
  have L_10135 : ∀ (N : Nat) (h_10135 : pm_H) (m_10135 : Nat → Int32) (w_10135 : Int64) (x5_10135 : Int32) (g6_10135 : Value) (g7_10135 : Value) (g8_10135 : Value) (g9_10135 : Value) (g10_10135 : Value) (g11_10135 : Value), rf_T m_10135 w_10135 h_10135 → rf_G [56] h h_10135 → rf_W [] m m_10135 → sf_B 0 50 x5_10135 → g7_10135.category = 1 → g8_10135.category = 1 → g10_10135.category = 1 → g11_10135.category = 1 → (50 - x5_10135.toInt).toNat = N → pm_R (d + 2) 226 3 [.ref 41, .int a0, .int a1, .int a2, .int a3, .int x5_10135, g6_10135, g7_10135, g8_10135, g9_10135, g10_10135, g11_10135] [] h_10135 Q := by
    intro N
    induction N using Nat.strongRecOn with
    | ind N ih_10135 =>
      intro h_10135 m_10135 w_10135 x5_10135 g6_10135 g7_10135 g8_10135 g9_10135 g10_10135 g11_10135 T_10135 F_10135 W_10135 Bx5_10135 Cg7_10135 Cg8_10135 Cg10_10135 Cg11_10135 hN_10135
      have W10138 : rf_W [] m m_10135 := (rf_W.refl [] m).trans W_10135 (by decide)
      refine pm_R_lo pm_M226 (pc_q := 5) rfl rfl rfl ?_
      refine pm_R_op pm_M226 (pc_q := 7) (st_q := [.int 50, .int x5_10135]) rfl rfl rfl ?_
      refine pm_R_icmp pm_M226 (t := 150) (pc_q := 10) rfl rfl rfl (fun c10139 => ?_) (fun c10139 => ?_)
      · have B10140 : sf_B 50 50 x5_10135 := sf_leR c10139 sf_k50 Bx5_10135
        exact pm_R_ret pm_M226 (r := none) (pm_q226_1 (Nat.le_of_ble_eq_true rfl)) rfl (K m_10135 w_10135 h_10135 T_10135 F_10135 W10138)
      · have B10141 : sf_B 0 49 x5_10135 := sf_ltL (Int32.not_le.mp c10139) Bx5_10135 sf_k50
        refine pm_R_lo pm_M226 (pc_q := 11) rfl rfl rfl ?_
        refine rf_R_get pm_M226 T_10135 (pc_q := 14) (v := .ref 56) rfl rfl rfl rfl ?_
        refine pm_R_lo pm_M226 (pc_q := 15) rfl rfl rfl ?_
        refine pm_R_lo pm_M226 (pc_q := 16) rfl rfl rfl ?_
        refine pm_R_op pm_M226 (pc_q := 17) (st_q := [.int 1, .int a0, .ref 41, .ref 56]) rfl rfl rfl ?_
        refine pm_R_cv pm_M226 (pc_q := 20) (a := 41) (ra := [.int 1, .int a0]) (rest := [.ref 56]) (ls_q := [.ref 41, .int a0, .int 1]) rfl rfl (Or.inl rfl) pm_M210 T_10135.2.1 rfl (by decide) (Nat.lt_of_lt_of_le (by decide) T_10135.1) rfl rfl (Nat.le_of_ble_eq_true rfl) rfl rfl ?_
        refine pm_R_lo pm_M210 (pc_q := 1) rfl rfl rfl ?_
        refine rf_R_get pm_M210 T_10135 (pc_q := 4) (v := .ref 47) rfl rfl rfl rfl ?_
        refine pm_R_op pm_M210 (pc_q := 6) (st_q := [.int 100, .ref 47]) rfl rfl rfl ?_
        refine pm_R_lo pm_M210 (pc_q := 7) rfl rfl rfl ?_
        have B10142 : sf_B 0 1 (m_10135 23) := T_10135.2.2.1 23
        refine rf_R_get pm_M210 T_10135 (pc_q := 10) (v := .int (m_10135 23)) rfl rfl rfl rfl ?_
        refine sf_R_imul pm_M210 (pc_q := 11) rfl rfl sf_k100 B10142 (by decide) (by decide) (by decide) (fun z10143 e10144 B10145 => ?_)
        refine pm_R_op pm_M210 (pc_q := 12) (st_q := [.int 2, .int z10143, .ref 47]) rfl rfl rfl ?_
        refine sf_R_iadd pm_M210 (pc_q := 13) rfl rfl B10145 sf_k2 (by decide) (by decide) (fun z10146 e10147 B10148 => ?_)
        refine pm_R_op pm_M210 (pc_q := 14) (st_q := [.int 4, .int z10146, .ref 47]) rfl rfl rfl ?_
        refine pm_R_lo pm_M210 (pc_q := 15) rfl rfl rfl ?_
        refine sf_R_imul pm_M210 (pc_q := 16) rfl rfl sf_k4 Ba0 (by decide) (by decide) (by decide) (fun z10149 e10150 B10151 => ?_)
        refine sf_R_iadd pm_M210 (pc_q := 17) rfl rfl B10148 B10151 (by decide) (by decide) (fun z10152 e10153 B10154 => ?_)
        refine pm_R_lo pm_M210 (pc_q := 18) rfl rfl rfl ?_
        refine sf_R_iadd pm_M210 (pc_q := 19) rfl rfl B10154 sf_k1 (by decide) (by decide) (fun z10155 e10156 B10157 => ?_)
        obtain ⟨f10158, e10159, b10160⟩ := T_10135.2.2.2.1 47 (by decide) (by decide)
        refine rf_R_ild pm_M210 T_10135 (pc_q := 20) rfl e10159 (by decide) (sf_in B10157 (by decide) (by decide)) rfl (fun z10161 ez10162 => ?_)
        have e10163 : (z10155).toInt = 100 * ((m_10135 23)).toInt + 4 * (a0).toInt + 3 := (sf_aux5 _ _ _ _ _ _ _ e10144 e10147 e10150 e10153 e10156)
        have B10164 : sf_B 0 5 z10161 := ez10162 ▸ rf_p47r b10160 e10163 B10142 Ba0 (by decide) (by decide) (by decide)
        refine pm_R_ret pm_M210 (r := some (.int z10161)) rfl (pm_ret_i _) ?_
        show pm_R _ 226 20 [.ref 41, .int a0, .int a1, .int a2, .int a3, .int x5_10135, g6_10135, g7_10135, g8_10135, g9_10135, g10_10135, g11_10135] [.int z10161, .ref 56] _ _
        refine pm_R_lo pm_M226 (pc_q := 21) rfl rfl rfl ?_
        refine pm_R_lo pm_M226 (pc_q := 22) rfl rfl rfl ?_
        refine pm_R_lo pm_M226 (pc_q := 24) rfl rfl rfl ?_
        refine pm_R_cs pm_M226 (pc_q := 27) (ra := [.int x5_10135, .int a2, .int a1, .int z10161]) (rest := [.ref 56]) (ls_q := [.int z10161, .int a1, .int a2, .int x5_10135]) rfl rfl (Or.inl rfl) pm_M225 rfl rfl (Nat.le_of_ble_eq_true rfl) rfl rfl ?_
        refine pm_R_op pm_M225 (pc_q := 2) (st_q := [.int 50]) rfl rfl rfl ?_
        refine pm_R_lo pm_M225 (pc_q := 3) rfl rfl rfl ?_
        refine pm_R_lo pm_M225 (pc_q := 4) rfl rfl rfl ?_
        refine pm_R_lo pm_M225 (pc_q := 5) rfl rfl rfl ?_
        refine pm_R_cs pm_M225 (pc_q := 8) (ra := [.int a2, .int a1, .int z10161]) (rest := [.int 50]) (ls_q := [.int z10161, .int a1, .int a2]) rfl rfl (Or.inl rfl) pm_M207 rfl rfl (Nat.le_of_ble_eq_true rfl) rfl rfl ?_
        refine pm_R_op pm_M207 (pc_q := 3) (st_q := [.int 144]) rfl rfl rfl ?_
        refine pm_R_lo pm_M207 (pc_q := 4) rfl rfl rfl ?_
        refine sf_R_imul pm_M207 (pc_q := 5) rfl rfl sf_k144 B10164 (by decide) (by decide) (by decide) (fun z10165 e10166 B10167 => ?_)
        refine pm_R_op pm_M207 (pc_q := 7) (st_q := [.int 12, .int z10165]) rfl rfl rfl ?_
        refine pm_R_lo pm_M207 (pc_q := 8) rfl rfl rfl ?_
        refine sf_R_imul pm_M207 (pc_q := 9) rfl rfl sf_k12 Ba1 (by decide) (by decide) (by decide) (fun z10168 e10169 B10170 => ?_)
        refine sf_R_iadd pm_M207 (pc_q := 10) rfl rfl B10167 B10170 (by decide) (by decide) (fun z10171 e10172 B10173 => ?_)
        refine pm_R_lo pm_M207 (pc_q := 11) rfl rfl rfl ?_
        refine sf_R_iadd pm_M207 (pc_q := 12) rfl rfl B10173 Ba2 (by decide) (by decide) (fun z10174 e10175 B10176 => ?_)
        refine pm_R_ret pm_M207 (r := some (.int z10174)) rfl (pm_ret_i _) ?_
        show pm_R _ 225 8 [.int z10161, .int a1, .int a2, .int x5_10135] [.int z10174, .int 50] _ _
        refine sf_R_imul pm_M225 (pc_q := 9) rfl rfl sf_k50 B10176 (by decide) (by decide) (by decide) (fun z10177 e10178 B10179 => ?_)
        refine pm_R_lo pm_M225 (pc_q := 10) rfl rfl rfl ?_
        refine sf_R_iadd pm_M225 (pc_q := 11) rfl rfl B10179 B10141 (by decide) (by decide) (fun z10180 e10181 B10182 => ?_)
        refine pm_R_ret pm_M225 (r := some (.int z10180)) rfl (pm_ret_i _) ?_
        show pm_R _ 226 27 [.ref 41, .int a0, .int a1, .int a2, .int a3, .int x5_10135, g6_10135, g7_10135, g8_10135, g9_10135, g10_10135, g11_10135] [.int z10180, .ref 56] _ _
        obtain ⟨f10183, e10184⟩ := T_10135.2.2.2.1 56 (by decide) (by decide)
        refine rf_R_lld pm_M226 T_10135 (pc_q := 28) rfl e10184 (by decide) (by decide) (sf_in B10182 (by decide) (by decide)) rfl (fun z10186 ez10187 => ?_)
        refine pm_R_lo pm_M226 (pc_q := 30) (ls_q := [.ref 41, .int a0, .int a1, .int a2, .int a3, .int x5_10135, .long z10186, pm_no, g8_10135, g9_10135, g10_10135, g11_10135]) (st_q := []) rfl rfl rfl ?_
        refine pm_R_op pm_M226 (pc_q := 31) (st_q := [.int 0]) rfl rfl rfl ?_
        refine pm_R_lo pm_M226 (pc_q := 33) (ls_q := [.ref 41, .int a0, .int a1, .int a2, .int a3, .int x5_10135, .long z10186, pm_no, .int 0, g9_10135, g10_10135, g11_10135]) (st_q := []) rfl rfl rfl ?_
        have L_12158 : ∀ (N : Nat) (h_12158 : pm_H) (m_12158 : Nat → Int32) (w_12158 : Int64) (x8_12158 : Int32) (g9_12158 : Value) (g10_12158 : Value) (g11_12158 : Value), rf_T m_12158 w_12158 h_12158 → rf_G [56] h h_12158 → rf_W [] m_10135 m_12158 → sf_B 0 50 x8_12158 → g10_12158.category = 1 → g11_12158.category = 1 → (50 - x8_12158.toInt).toNat = N → pm_R (d + 2) 226 33 [.ref 41, .int a0, .int a1, .int a2, .int a3, .int x5_10135, .long z10186, pm_no, .int x8_12158, g9_12158, g10_12158, g11_12158] [] h_12158 Q := by
          intro N
          induction N using Nat.strongRecOn with
          | ind N ih_12158 =>
            intro h_12158 m_12158 w_12158 x8_12158 g9_12158 g10_12158 g11_12158 T_12158 F_12158 W_12158 Bx8_12158 Cg10_12158 Cg11_12158 hN_12158
            have W12161 : rf_W [] m m_12158 := W10138.trans W_12158 (by decide)
            have W12162 : rf_W [] m m_12158 := W_10135.trans W_12158 (by decide)
            refine pm_R_lo pm_M226 (pc_q := 35) rfl rfl rfl ?_
            refine pm_R_op pm_M226 (pc_q := 37) (st_q := [.int 50, .int x8_12158]) rfl rfl rfl ?_
            refine pm_R_icmp pm_M226 (t := 144) (pc_q := 40) rfl rfl rfl (fun c12163 => ?_) (fun c12163 => ?_)
            · have B12164 : sf_B 50 50 x8_12158 := sf_leR c12163 sf_k50 Bx8_12158
              refine sf_R_iinc pm_M226 (pc_q := 147) (ls_q := fun z => [.ref 41, .int a0, .int a1, .int a2, .int a3, .int z, .long z10186, pm_no, .int x8_12158, g9_12158, g10_12158, g11_12158]) (pm_q226_1 (Nat.le_of_ble_eq_true rfl)) B10141 rfl (by decide) (by decide) (by decide) (fun _ => rfl) rfl (fun z12165 e12166 B12167 => ?_)
              show pm_R _ 226 147 [.ref 41, .int a0, .int a1, .int a2, .int a3, .int z12165, .long z10186, pm_no, .int x8_12158, g9_12158, g10_12158, g11_12158] [] _ _
              refine pm_R_br pm_M226 (pc_q := 3) (pm_q226_1 (Nat.le_of_ble_eq_true rfl)) rfl ?_
              exact ih_10135 _ (sf_up hN_10135 e12166 B10141 (by decide) (by decide)) h_12158 m_12158 w_12158 z12165 (.long z10186) (pm_no) (.int x8_12158) (g9_12158) (g10_12158) (g11_12158) T_12158 F_12158 W12162 (sf_weak B12167 (by decide) (by decide)) rfl rfl Cg10_12158 Cg11_12158 rfl
            · have B12168 : sf_B 0 49 x8_12158 := sf_ltL (Int32.not_le.mp c12163) Bx8_12158 sf_k50
              refine pm_R_lo pm_M226 (pc_q := 42) rfl rfl rfl ?_
              refine pm_R_op pm_M226 (pc_q := 43) (st_q := [.long 0, .long z10186]) rfl rfl rfl ?_
              refine sf_R_lcmp pm_M226 (pc_q := 44) rfl rfl (fun z12169 e12170 => ?_)
              refine pm_R_ifc pm_M226 (t := 144) (pc_q := 47) rfl rfl rfl (fun c12171 => ?_) (fun c12171 => ?_)
              · have B12172 : sf_B (-2147483648) 0 z12169 := sf_leL c12171 (sf_any z12169) sf_k0
                refine sf_R_iinc pm_M226 (pc_q := 147) (ls_q := fun z => [.ref 41, .int a0, .int a1, .int a2, .int a3, .int z, .long z10186, pm_no, .int x8_12158, g9_12158, g10_12158, g11_12158]) (pm_q226_1 (Nat.le_of_ble_eq_true rfl)) B10141 rfl (by decide) (by decide) (by decide) (fun _ => rfl) rfl (fun z12173 e12174 B12175 => ?_)
                show pm_R _ 226 147 [.ref 41, .int a0, .int a1, .int a2, .int a3, .int z12173, .long z10186, pm_no, .int x8_12158, g9_12158, g10_12158, g11_12158] [] _ _
                refine pm_R_br pm_M226 (pc_q := 3) (pm_q226_1 (Nat.le_of_ble_eq_true rfl)) rfl ?_
                exact ih_10135 _ (sf_up hN_10135 e12174 B10141 (by decide) (by decide)) h_12158 m_12158 w_12158 z12173 (.long z10186) (pm_no) (.int x8_12158) (g9_12158) (g10_12158) (g11_12158) T_12158 F_12158 W12162 (sf_weak B12175 (by decide) (by decide)) rfl rfl Cg10_12158 Cg11_12158 rfl
              · have B12176 : sf_B 1 2147483647 z12169 := sf_ltR (Int32.not_le.mp c12171) sf_k0 (sf_any z12169)
                have k12177 := lf_ge e12170 B12176 (by decide)
                have B12178 : lf_B 0 9223372036854775807 z10186 := lf_geB k12177 (⟨by decide, by decide⟩ : lf_B 0 0 0) (lf_any _)
                have k12179 := sf_lneA e12170 B12176 (by decide)
                refine pm_R_lo pm_M226 (pc_q := 48) rfl rfl rfl ?_
                refine rf_R_get pm_M226 T_12158 (pc_q := 51) (v := .ref 56) rfl rfl rfl rfl ?_
                refine pm_R_lo pm_M226 (pc_q := 52) rfl rfl rfl ?_
                refine pm_R_lo pm_M226 (pc_q := 53) rfl rfl rfl ?_
                refine pm_R_op pm_M226 (pc_q := 54) (st_q := [.int 2, .int a0, .ref 41, .ref 56]) rfl rfl rfl ?_
                refine pm_R_cv pm_M226 (pc_q := 57) (a := 41) (ra := [.int 2, .int a0]) (rest := [.ref 56]) (ls_q := [.ref 41, .int a0, .int 2]) rfl rfl (Or.inl rfl) pm_M210 T_12158.2.1 rfl (by decide) (Nat.lt_of_lt_of_le (by decide) T_12158.1) rfl rfl (Nat.le_of_ble_eq_true rfl) rfl rfl ?_
                refine pm_R_lo pm_M210 (pc_q := 1) rfl rfl rfl ?_
                refine rf_R_get pm_M210 T_12158 (pc_q := 4) (v := .ref 47) rfl rfl rfl rfl ?_
                refine pm_R_op pm_M210 (pc_q := 6) (st_q := [.int 100, .ref 47]) rfl rfl rfl ?_
                refine pm_R_lo pm_M210 (pc_q := 7) rfl rfl rfl ?_
                have B12180 : sf_B 0 1 (m_12158 23) := T_12158.2.2.1 23
                refine rf_R_get pm_M210 T_12158 (pc_q := 10) (v := .int (m_12158 23)) rfl rfl rfl rfl ?_
                refine sf_R_imul pm_M210 (pc_q := 11) rfl rfl sf_k100 B12180 (by decide) (by decide) (by decide) (fun z12181 e12182 B12183 => ?_)
                refine pm_R_op pm_M210 (pc_q := 12) (st_q := [.int 2, .int z12181, .ref 47]) rfl rfl rfl ?_
                refine sf_R_iadd pm_M210 (pc_q := 13) rfl rfl B12183 sf_k2 (by decide) (by decide) (fun z12184 e12185 B12186 => ?_)
                refine pm_R_op pm_M210 (pc_q := 14) (st_q := [.int 4, .int z12184, .ref 47]) rfl rfl rfl ?_
                refine pm_R_lo pm_M210 (pc_q := 15) rfl rfl rfl ?_
                refine sf_R_imulV pm_M210 (pc_q := 16) rfl rfl sf_k4 Ba0 (by decide) (by decide) (by decide) e10150 ?_
                refine sf_R_iadd pm_M210 (pc_q := 17) rfl rfl B12186 B10151 (by decide) (by decide) (fun z12187 e12188 B12189 => ?_)
                refine pm_R_lo pm_M210 (pc_q := 18) rfl rfl rfl ?_
                refine sf_R_iadd pm_M210 (pc_q := 19) rfl rfl B12189 sf_k2 (by decide) (by decide) (fun z12190 e12191 B12192 => ?_)
                obtain ⟨f12193, e12194, b12195⟩ := T_12158.2.2.2.1 47 (by decide) (by decide)
                refine rf_R_ild pm_M210 T_12158 (pc_q := 20) rfl e12194 (by decide) (sf_in B12192 (by decide) (by decide)) rfl (fun z12196 ez12197 => ?_)
                have e12198 : (z12190).toInt = 100 * ((m_12158 23)).toInt + 4 * (a0).toInt + 4 := (sf_aux6 _ _ _ _ _ _ _ e12182 e12185 e10150 e12188 e12191)
                have B12199 : sf_B 0 5 z12196 := ez12197 ▸ rf_p47r b12195 e12198 B12180 Ba0 (by decide) (by decide) (by decide)
                refine pm_R_ret pm_M210 (r := some (.int z12196)) rfl (pm_ret_i _) ?_
                show pm_R _ 226 57 [.ref 41, .int a0, .int a1, .int a2, .int a3, .int x5_10135, .long z10186, pm_no, .int x8_12158, g9_12158, g10_12158, g11_12158] [.int z12196, .ref 56] _ _
                refine pm_R_lo pm_M226 (pc_q := 58) rfl rfl rfl ?_
                refine pm_R_op pm_M226 (pc_q := 59) (st_q := [.int 1, .int a2, .int z12196, .ref 56]) rfl rfl rfl ?_
                refine sf_R_iadd pm_M226 (pc_q := 60) rfl rfl Ba2 sf_k1 (by decide) (by decide) (fun z12200 e12201 B12202 => ?_)
                refine pm_R_lo pm_M226 (pc_q := 62) rfl rfl rfl ?_
                refine pm_R_lo pm_M226 (pc_q := 64) rfl rfl rfl ?_
                refine pm_R_cs pm_M226 (pc_q := 67) (ra := [.int x8_12158, .int a3, .int z12200, .int z12196]) (rest := [.ref 56]) (ls_q := [.int z12196, .int z12200, .int a3, .int x8_12158]) rfl rfl (Or.inl rfl) pm_M225 rfl rfl (Nat.le_of_ble_eq_true rfl) rfl rfl ?_
                refine pm_R_op pm_M225 (pc_q := 2) (st_q := [.int 50]) rfl rfl rfl ?_
                refine pm_R_lo pm_M225 (pc_q := 3) rfl rfl rfl ?_
                refine pm_R_lo pm_M225 (pc_q := 4) rfl rfl rfl ?_
                refine pm_R_lo pm_M225 (pc_q := 5) rfl rfl rfl ?_
                refine pm_R_cs pm_M225 (pc_q := 8) (ra := [.int a3, .int z12200, .int z12196]) (rest := [.int 50]) (ls_q := [.int z12196, .int z12200, .int a3]) rfl rfl (Or.inl rfl) pm_M207 rfl rfl (Nat.le_of_ble_eq_true rfl) rfl rfl ?_
                refine pm_R_op pm_M207 (pc_q := 3) (st_q := [.int 144]) rfl rfl rfl ?_
                refine pm_R_lo pm_M207 (pc_q := 4) rfl rfl rfl ?_
                refine sf_R_imul pm_M207 (pc_q := 5) rfl rfl sf_k144 B12199 (by decide) (by decide) (by decide) (fun z12203 e12204 B12205 => ?_)
                refine pm_R_op pm_M207 (pc_q := 7) (st_q := [.int 12, .int z12203]) rfl rfl rfl ?_
                refine pm_R_lo pm_M207 (pc_q := 8) rfl rfl rfl ?_
                refine sf_R_imul pm_M207 (pc_q := 9) rfl rfl sf_k12 B12202 (by decide) (by decide) (by decide) (fun z12206 e12207 B12208 => ?_)
                refine sf_R_iadd pm_M207 (pc_q := 10) rfl rfl B12205 B12208 (by decide) (by decide) (fun z12209 e12210 B12211 => ?_)
                refine pm_R_lo pm_M207 (pc_q := 11) rfl rfl rfl ?_
                refine sf_R_iadd pm_M207 (pc_q := 12) rfl rfl B12211 Ba3 (by decide) (by decide) (fun z12212 e12213 B12214 => ?_)
                refine pm_R_ret pm_M207 (r := some (.int z12212)) rfl (pm_ret_i _) ?_
                show pm_R _ 225 8 [.int z12196, .int z12200, .int a3, .int x8_12158] [.int z12212, .int 50] _ _
                refine sf_R_imul pm_M225 (pc_q := 9) rfl rfl sf_k50 B12214 (by decide) (by decide) (by decide) (fun z12215 e12216 B12217 => ?_)
                refine pm_R_lo pm_M225 (pc_q := 10) rfl rfl rfl ?_
                refine sf_R_iadd pm_M225 (pc_q := 11) rfl rfl B12217 B12168 (by decide) (by decide) (fun z12218 e12219 B12220 => ?_)
                refine pm_R_ret pm_M225 (r := some (.int z12218)) rfl (pm_ret_i _) ?_
                show pm_R _ 226 67 [.ref 41, .int a0, .int a1, .int a2, .int a3, .int x5_10135, .long z10186, pm_no, .int x8_12158, g9_12158, g10_12158, g11_12158] [.int z12218, .ref 56] _ _
                obtain ⟨f12221, e12222⟩ := T_12158.2.2.2.1 56 (by decide) (by decide)
                refine rf_R_lld pm_M226 T_12158 (pc_q := 68) rfl e12222 (by decide) (by decide) (sf_in B12220 (by decide) (by decide)) rfl (fun z12224 ez12225 => ?_)
                refine pm_R_lo pm_M226 (pc_q := 70) (ls_q := [.ref 41, .int a0, .int a1, .int a2, .int a3, .int x5_10135, .long z10186, pm_no, .int x8_12158, .long z12224, pm_no, g11_12158]) (st_q := []) rfl rfl rfl ?_
                refine pm_R_lo pm_M226 (pc_q := 71) rfl rfl rfl ?_
                refine pm_R_lo pm_M226 (pc_q := 72) rfl rfl rfl ?_
                refine pm_R_op pm_M226 (pc_q := 73) (st_q := [.int 0, .int a0, .ref 41]) rfl rfl rfl ?_
                refine pm_R_cv pm_M226 (pc_q := 76) (a := 41) (ra := [.int 0, .int a0]) (rest := []) (ls_q := [.ref 41, .int a0, .int 0]) rfl rfl (Or.inl rfl) pm_M210 T_12158.2.1 rfl (by decide) (Nat.lt_of_lt_of_le (by decide) T_12158.1) rfl rfl (Nat.le_of_ble_eq_true rfl) rfl rfl ?_
                refine pm_R_lo pm_M210 (pc_q := 1) rfl rfl rfl ?_
                refine rf_R_get pm_M210 T_12158 (pc_q := 4) (v := .ref 47) rfl rfl rfl rfl ?_
                refine pm_R_op pm_M210 (pc_q := 6) (st_q := [.int 100, .ref 47]) rfl rfl rfl ?_
                refine pm_R_lo pm_M210 (pc_q := 7) rfl rfl rfl ?_
                refine rf_R_get pm_M210 T_12158 (pc_q := 10) (v := .int (m_12158 23)) rfl rfl rfl rfl ?_
                refine sf_R_imulV pm_M210 (pc_q := 11) rfl rfl sf_k100 B12180 (by decide) (by decide) (by decide) e12182 ?_
                refine pm_R_op pm_M210 (pc_q := 12) (st_q := [.int 2, .int z12181, .ref 47]) rfl rfl rfl ?_
                refine sf_R_iaddV pm_M210 (pc_q := 13) rfl rfl B12183 sf_k2 (by decide) (by decide) e12185 ?_
                refine pm_R_op pm_M210 (pc_q := 14) (st_q := [.int 4, .int z12184, .ref 47]) rfl rfl rfl ?_
                refine pm_R_lo pm_M210 (pc_q := 15) rfl rfl rfl ?_
                refine sf_R_imulV pm_M210 (pc_q := 16) rfl rfl sf_k4 Ba0 (by decide) (by decide) (by decide) e10150 ?_
                refine sf_R_iaddV pm_M210 (pc_q := 17) rfl rfl B12186 B10151 (by decide) (by decide) e12188 ?_
                refine pm_R_lo pm_M210 (pc_q := 18) rfl rfl rfl ?_
                refine sf_R_iadd pm_M210 (pc_q := 19) rfl rfl B12189 sf_k0 (by decide) (by decide) (fun z12226 e12227 B12228 => ?_)
                refine rf_R_ild pm_M210 T_12158 (pc_q := 20) rfl e12194 (by decide) (sf_in B12228 (by decide) (by decide)) rfl (fun z12229 ez12230 => ?_)
                have e12231 : (z12226).toInt = 100 * ((m_12158 23)).toInt + 4 * (a0).toInt + 2 := (sf_aux3 _ _ _ _ _ _ _ e12182 e12185 e10150 e12188 e12227)
                have B12232 : sf_B 0 5 z12229 := ez12230 ▸ rf_p47r b12195 e12231 B12180 Ba0 (by decide) (by decide) (by decide)
                refine pm_R_ret pm_M210 (r := some (.int z12229)) rfl (pm_ret_i _) ?_
                show pm_R _ 226 76 [.ref 41, .int a0, .int a1, .int a2, .int a3, .int x5_10135, .long z10186, pm_no, .int x8_12158, .long z12224, pm_no, g11_12158] [.int z12229] _ _
                refine pm_R_lo pm_M226 (pc_q := 77) rfl rfl rfl ?_
                refine pm_R_lo pm_M226 (pc_q := 79) rfl rfl rfl ?_
                refine pm_R_lo pm_M226 (pc_q := 80) rfl rfl rfl ?_
                refine pm_R_lo pm_M226 (pc_q := 81) rfl rfl rfl ?_
                refine pm_R_op pm_M226 (pc_q := 82) (st_q := [.int 3, .int a0, .ref 41, .int a3, .int a1, .int z12229]) rfl rfl rfl ?_
                refine pm_R_cv pm_M226 (pc_q := 85) (a := 41) (ra := [.int 3, .int a0]) (rest := [.int a3, .int a1, .int z12229]) (ls_q := [.ref 41, .int a0, .int 3]) rfl rfl (Or.inl rfl) pm_M210 T_12158.2.1 rfl (by decide) (Nat.lt_of_lt_of_le (by decide) T_12158.1) rfl rfl (Nat.le_of_ble_eq_true rfl) rfl rfl ?_
                refine pm_R_lo pm_M210 (pc_q := 1) rfl rfl rfl ?_
                refine rf_R_get pm_M210 T_12158 (pc_q := 4) (v := .ref 47) rfl rfl rfl rfl ?_
                refine pm_R_op pm_M210 (pc_q := 6) (st_q := [.int 100, .ref 47]) rfl rfl rfl ?_
                refine pm_R_lo pm_M210 (pc_q := 7) rfl rfl rfl ?_
                refine rf_R_get pm_M210 T_12158 (pc_q := 10) (v := .int (m_12158 23)) rfl rfl rfl rfl ?_
                refine sf_R_imulV pm_M210 (pc_q := 11) rfl rfl sf_k100 B12180 (by decide) (by decide) (by decide) e12182 ?_
                refine pm_R_op pm_M210 (pc_q := 12) (st_q := [.int 2, .int z12181, .ref 47]) rfl rfl rfl ?_
                refine sf_R_iaddV pm_M210 (pc_q := 13) rfl rfl B12183 sf_k2 (by decide) (by decide) e12185 ?_
                refine pm_R_op pm_M210 (pc_q := 14) (st_q := [.int 4, .int z12184, .ref 47]) rfl rfl rfl ?_
                refine pm_R_lo pm_M210 (pc_q := 15) rfl rfl rfl ?_
                refine sf_R_imulV pm_M210 (pc_q := 16) rfl rfl sf_k4 Ba0 (by decide) (by decide) (by decide) e10150 ?_
                refine sf_R_iaddV pm_M210 (pc_q := 17) rfl rfl B12186 B10151 (by decide) (by decide) e12188 ?_
                refine pm_R_lo pm_M210 (pc_q := 18) rfl rfl rfl ?_
                refine sf_R_iadd pm_M210 (pc_q := 19) rfl rfl B12189 sf_k3 (by decide) (by decide) (fun z12233 e12234 B12235 => ?_)
                refine rf_R_ild pm_M210 T_12158 (pc_q := 20) rfl e12194 (by decide) (sf_in B12235 (by decide) (by decide)) rfl (fun z12236 ez12237 => ?_)
                have e12238 : (z12233).toInt = 100 * ((m_12158 23)).toInt + 4 * (a0).toInt + 5 := (sf_aux4 _ _ _ _ _ _ _ e12182 e12185 e10150 e12188 e12234)
                have B12239 : sf_B 0 4 z12236 := ez12237 ▸ rf_p47t b12195 e12238 B12180 Ba0 (by decide) (by decide) (by decide)
                refine pm_R_ret pm_M210 (r := some (.int z12236)) rfl (pm_ret_i _) ?_
                show pm_R _ 226 85 [.ref 41, .int a0, .int a1, .int a2, .int a3, .int x5_10135, .long z10186, pm_no, .int x8_12158, .long z12224, pm_no, g11_12158] [.int z12236, .int a3, .int a1, .int z12229] _ _
                refine pm_R_lo pm_M226 (pc_q := 87) rfl rfl rfl ?_
                refine pm_R_lo pm_M226 (pc_q := 89) rfl rfl rfl ?_
                refine pm_R_cs pm_M226 (pc_q := 92) (ra := [.int x8_12158, .int x5_10135, .int z12236]) (rest := [.int a3, .int a1, .int z12229]) (ls_q := [.int z12236, .int x5_10135, .int x8_12158]) rfl rfl (Or.inl rfl) pm_M227 rfl rfl (Nat.le_of_ble_eq_true rfl) rfl rfl ?_
                refine pm_R_lo pm_M227 (pc_q := 1) rfl rfl rfl ?_
                refine pm_R_ifc pm_M227 (t := 8) (pc_q := 4) rfl rfl rfl (fun c12240 => ?_) (fun c12240 => ?_)
                · have B12241 : sf_B 1 4 z12236 := sf_neL0 c12240 sf_k0 B12239
                  refine pm_R_lo pm_M227 (pc_q := 9) rfl rfl rfl ?_
                  refine pm_R_op pm_M227 (pc_q := 10) (st_q := [.int 1, .int z12236]) rfl rfl rfl ?_
                  refine pm_R_icmp pm_M227 (t := 17) (pc_q := 13) rfl rfl rfl (fun c12242 => ?_) (fun c12242 => ?_)
                  · have B12243 : sf_B 2 4 z12236 := sf_neL0 c12242 sf_k1 B12241
                    refine pm_R_lo pm_M227 (pc_q := 18) rfl rfl rfl ?_
                    refine pm_R_op pm_M227 (pc_q := 19) (st_q := [.int 2, .int z12236]) rfl rfl rfl ?_
                    refine pm_R_icmp pm_M227 (t := 31) (pc_q := 22) rfl rfl rfl (fun c12244 => ?_) (fun c12244 => ?_)
                    · have B12245 : sf_B 3 4 z12236 := sf_neL0 c12244 sf_k2 B12243
                      refine pm_R_lo pm_M227 (pc_q := 32) rfl rfl rfl ?_
                      refine pm_R_op pm_M227 (pc_q := 33) (st_q := [.int 3, .int z12236]) rfl rfl rfl ?_
                      refine pm_R_icmp pm_M227 (t := 48) (pc_q := 36) rfl rfl rfl (fun c12246 => ?_) (fun c12246 => ?_)
                      · have B12247 : sf_B 4 4 z12236 := sf_neL0 c12246 sf_k3 B12245
                        refine pm_R_op pm_M227 (pc_q := 50) (st_q := [.int 49]) rfl rfl rfl ?_
                        refine pm_R_lo pm_M227 (pc_q := 51) rfl rfl rfl ?_
                        refine sf_R_isub pm_M227 (pc_q := 52) rfl rfl sf_k49 B12168 (by decide) (by decide) (fun z12248 e12249 B12250 => ?_)
                        refine pm_R_ret pm_M227 (r := some (.int z12248)) rfl (pm_ret_i _) ?_
                        show pm_R _ 226 92 [.ref 41, .int a0, .int a1, .int a2, .int a3, .int x5_10135, .long z10186, pm_no, .int x8_12158, .long z12224, pm_no, g11_12158] [.int z12248, .int a3, .int a1, .int z12229] _ _
                        refine pm_R_cs pm_M226 (pc_q := 95) (ra := [.int z12248, .int a3, .int a1, .int z12229]) (rest := []) (ls_q := [.int z12229, .int a1, .int a3, .int z12248]) rfl rfl (Or.inl rfl) pm_M225 rfl rfl (Nat.le_of_ble_eq_true rfl) rfl rfl ?_
                        refine pm_R_op pm_M225 (pc_q := 2) (st_q := [.int 50]) rfl rfl rfl ?_
                        refine pm_R_lo pm_M225 (pc_q := 3) rfl rfl rfl ?_
                        refine pm_R_lo pm_M225 (pc_q := 4) rfl rfl rfl ?_
                        refine pm_R_lo pm_M225 (pc_q := 5) rfl rfl rfl ?_
                        refine pm_R_cs pm_M225 (pc_q := 8) (ra := [.int a3, .int a1, .int z12229]) (rest := [.int 50]) (ls_q := [.int z12229, .int a1, .int a3]) rfl rfl (Or.inl rfl) pm_M207 rfl rfl (Nat.le_of_ble_eq_true rfl) rfl rfl ?_
                        refine pm_R_op pm_M207 (pc_q := 3) (st_q := [.int 144]) rfl rfl rfl ?_
                        refine pm_R_lo pm_M207 (pc_q := 4) rfl rfl rfl ?_
                        refine sf_R_imul pm_M207 (pc_q := 5) rfl rfl sf_k144 B12232 (by decide) (by decide) (by decide) (fun z12251 e12252 B12253 => ?_)
                        refine pm_R_op pm_M207 (pc_q := 7) (st_q := [.int 12, .int z12251]) rfl rfl rfl ?_
                        refine pm_R_lo pm_M207 (pc_q := 8) rfl rfl rfl ?_
                        refine sf_R_imulV pm_M207 (pc_q := 9) rfl rfl sf_k12 Ba1 (by decide) (by decide) (by decide) e10169 ?_
                        refine sf_R_iadd pm_M207 (pc_q := 10) rfl rfl B12253 B10170 (by decide) (by decide) (fun z12254 e12255 B12256 => ?_)
                        refine pm_R_lo pm_M207 (pc_q := 11) rfl rfl rfl ?_
                        refine sf_R_iadd pm_M207 (pc_q := 12) rfl rfl B12256 Ba3 (by decide) (by decide) (fun z12257 e12258 B12259 => ?_)
                        refine pm_R_ret pm_M207 (r := some (.int z12257)) rfl (pm_ret_i _) ?_
                        show pm_R _ 225 8 [.int z12229, .int a1, .int a3, .int z12248] [.int z12257, .int 50] _ _
                        refine sf_R_imul pm_M225 (pc_q := 9) rfl rfl sf_k50 B12259 (by decide) (by decide) (by decide) (fun z12260 e12261 B12262 => ?_)
                        refine pm_R_lo pm_M225 (pc_q := 10) rfl rfl rfl ?_
                        refine sf_R_iadd pm_M225 (pc_q := 11) rfl rfl B12262 B12250 (by decide) (by decide) (fun z12263 e12264 B12265 => ?_)
                        refine pm_R_ret pm_M225 (r := some (.int z12263)) rfl (pm_ret_i _) ?_
                        show pm_R _ 226 95 [.ref 41, .int a0, .int a1, .int a2, .int a3, .int x5_10135, .long z10186, pm_no, .int x8_12158, .long z12224, pm_no, g11_12158] [.int z12263] _ _
                        refine pm_R_lo pm_M226 (pc_q := 97) (ls_q := [.ref 41, .int a0, .int a1, .int a2, .int a3, .int x5_10135, .long z10186, pm_no, .int x8_12158, .long z12224, pm_no, .int z12263]) (st_q := []) rfl rfl rfl ?_
                        refine pm_R_lo pm_M226 (pc_q := 98) rfl rfl rfl ?_
                        refine rf_R_get pm_M226 T_12158 (pc_q := 101) (v := .ref 56) rfl rfl rfl rfl ?_
                        refine pm_R_lo pm_M226 (pc_q := 103) rfl rfl rfl ?_
                        refine pm_R_lo pm_M226 (pc_q := 105) rfl rfl rfl ?_
                        refine pm_R_op pm_M226 (pc_q := 106) (st_q := [.long 0, .long z12224, .int z12263, .ref 56]) rfl rfl rfl ?_
                        refine sf_R_lcmp pm_M226 (pc_q := 107) (pm_q226_1 (Nat.le_of_ble_eq_true rfl)) rfl (fun z12266 e12267 => ?_)
                        refine pm_R_ifc pm_M226 (t := 120) (pc_q := 110) (pm_q226_1 (Nat.le_of_ble_eq_true rfl)) rfl rfl (fun c12268 => ?_) (fun c12268 => ?_)
                        · have k12269 := sf_lneC e12267 c12268
                          refine pm_R_lo pm_M226 (pc_q := 121) (pm_q226_1 (Nat.le_of_ble_eq_true rfl)) rfl rfl ?_
                          refine rf_R_get pm_M226 T_12158 (pc_q := 124) (v := .ref 56) (pm_q226_1 (Nat.le_of_ble_eq_true rfl)) rfl rfl rfl ?_
                          refine pm_R_lo pm_M226 (pc_q := 126) (pm_q226_1 (Nat.le_of_ble_eq_true rfl)) rfl rfl ?_
                          refine rf_R_lld pm_M226 T_12158 (pc_q := 127) (pm_q226_1 (Nat.le_of_ble_eq_true rfl)) e12222 (by decide) (by decide) (sf_in B12265 (by decide) (by decide)) rfl (fun z12270 ez12271 => ?_)
                          refine pm_R_lo pm_M226 (pc_q := 129) (pm_q226_1 (Nat.le_of_ble_eq_true rfl)) rfl rfl ?_
                          refine pm_R_lo pm_M226 (pc_q := 131) (pm_q226_1 (Nat.le_of_ble_eq_true rfl)) rfl rfl ?_
                          refine pm_R_cs pm_M226 (pc_q := 134) (ra := [.long z12224, .long z10186]) (rest := [.long z12270, .int z12263, .ref 56]) (ls_q := [.long z10186, pm_no, .long z12224, pm_no]) (pm_q226_1 (Nat.le_of_ble_eq_true rfl)) rfl (Or.inl rfl) pm_M212 rfl rfl (Nat.le_of_ble_eq_true rfl) rfl rfl ?_
                          refine rf_u212 (d := d + 0)  (fun r12272 => ?_)
                          show pm_R _ 226 134 [.ref 41, .int a0, .int a1, .int a2, .int a3, .int x5_10135, .long z10186, pm_no, .int x8_12158, .long z12224, pm_no, .int z12263] [.long r12272, .long z12270, .int z12263, .ref 56] _ _
                          refine pm_R_cs pm_M226 (pc_q := 137) (ra := [.long r12272, .long z12270]) (rest := [.int z12263, .ref 56]) (ls_q := [.long z12270, pm_no, .long r12272, pm_no]) (pm_q226_1 (Nat.le_of_ble_eq_true rfl)) rfl (Or.inl rfl) pm_M213 rfl rfl (Nat.le_of_ble_eq_true rfl) rfl rfl ?_
                          refine rf_u213 (d := d + 1)  (fun r12280 => ?_)
                          show pm_R _ 226 137 [.ref 41, .int a0, .int a1, .int a2, .int a3, .int x5_10135, .long z10186, pm_no, .int x8_12158, .long z12224, pm_no, .int z12263] [.long r12280, .int z12263, .ref 56] _ _
                          refine rf_R_lst pm_M226 T_12158 (pc_q := 138) (pm_q226_1 (Nat.le_of_ble_eq_true rfl)) e12222 (by decide) (by decide) (sf_in B12265 (by decide) (by decide)) ⟨_, rfl⟩ rfl (fun h12288 T12289 F12290 e12291 => ?_)
                          have F12292 := F_12158.trans F12290 (by decide)
                          refine sf_R_iinc pm_M226 (pc_q := 141) (ls_q := fun z => [.ref 41, .int a0, .int a1, .int a2, .int a3, .int x5_10135, .long z10186, pm_no, .int z, .long z12224, pm_no, .int z12263]) (pm_q226_1 (Nat.le_of_ble_eq_true rfl)) B12168 rfl (by decide) (by decide) (by decide) (fun _ => rfl) rfl (fun z12293 e12294 B12295 => ?_)
                          show pm_R _ 226 141 [.ref 41, .int a0, .int a1, .int a2, .int a3, .int x5_10135, .long z10186, pm_no, .int z12293, .long z12224, pm_no, .int z12263] [] _ _
                          refine pm_R_br pm_M226 (pc_q := 33) (pm_q226_1 (Nat.le_of_ble_eq_true rfl)) rfl ?_
                          exact ih_12158 _ (sf_up hN_12158 e12294 B12168 (by decide) (by decide)) h12288 m_12158 w_12158 z12293 (.long z12224) (pm_no) (.int z12263) T12289 F12292 W_12158 (sf_weak B12295 (by decide) (by decide)) rfl rfl rfl
                        · have B12296 : sf_B 0 0 z12266 := sf_eqL (Classical.not_not.mp c12268) sf_k0
                          have B12297 : lf_B 0 0 z12224 := lf_eqB e12267 B12296 (⟨by decide, by decide⟩ : lf_B 0 0 0)
                          refine pm_R_lo pm_M226 (pc_q := 111) (pm_q226_1 (Nat.le_of_ble_eq_true rfl)) rfl rfl ?_
                          refine rf_R_get pm_M226 T_12158 (pc_q := 114) (v := .ref 56) (pm_q226_1 (Nat.le_of_ble_eq_true rfl)) rfl rfl rfl ?_
                          refine pm_R_lo pm_M226 (pc_q := 116) (pm_q226_1 (Nat.le_of_ble_eq_true rfl)) rfl rfl ?_
                          refine rf_R_lld pm_M226 T_12158 (pc_q := 117) (pm_q226_1 (Nat.le_of_ble_eq_true rfl)) e12222 (by decide) (by decide) (sf_in B12265 (by decide) (by decide)) rfl (fun z12298 ez12299 => ?_)
                          refine pm_R_br pm_M226 (pc_q := 137) (pm_q226_1 (Nat.le_of_ble_eq_true rfl)) rfl ?_
                          refine rf_R_lst pm_M226 T_12158 (pc_q := 138) (pm_q226_1 (Nat.le_of_ble_eq_true rfl)) e12222 (by decide) (by decide) (sf_in B12265 (by decide) (by decide)) ⟨_, rfl⟩ rfl (fun h12300 T12301 F12302 e12303 => ?_)
                          have F12304 := F_12158.trans F12302 (by decide)
                          refine sf_R_iinc pm_M226 (pc_q := 141) (ls_q := fun z => [.ref 41, .int a0, .int a1, .int a2, .int a3, .int x5_10135, .long z10186, pm_no, .int z, .long z12224, pm_no, .int z12263]) (pm_q226_1 (Nat.le_of_ble_eq_true rfl)) B12168 rfl (by decide) (by decide) (by decide) (fun _ => rfl) rfl (fun z12305 e12306 B12307 => ?_)
                          show pm_R _ 226 141 [.ref 41, .int a0, .int a1, .int a2, .int a3, .int x5_10135, .long z10186, pm_no, .int z12305, .long z12224, pm_no, .int z12263] [] _ _
                          refine pm_R_br pm_M226 (pc_q := 33) (pm_q226_1 (Nat.le_of_ble_eq_true rfl)) rfl ?_
                          exact ih_12158 _ (sf_up hN_12158 e12306 B12168 (by decide) (by decide)) h12300 m_12158 w_12158 z12305 (.long z12224) (pm_no) (.int z12263) T12301 F12304 W_12158 (sf_weak B12307 (by decide) (by decide)) rfl rfl rfl
                      · have B12308 : sf_B 3 3 z12236 := sf_eqL (Classical.not_not.mp c12246) sf_k3
                        refine pm_R_lo pm_M227 (pc_q := 37) rfl rfl rfl ?_
                        refine pm_R_lo pm_M227 (pc_q := 38) rfl rfl rfl ?_
                        refine sf_R_isub pm_M227 (pc_q := 39) rfl rfl B10141 B12168 (by decide) (by decide) (fun z12309 e12310 B12311 => ?_)
                        refine pm_R_op pm_M227 (pc_q := 41) (st_q := [.int 50, .int z12309]) rfl rfl rfl ?_
                        refine sf_R_iadd pm_M227 (pc_q := 42) rfl rfl B12311 sf_k50 (by decide) (by decide) (fun z12312 e12313 B12314 => ?_)
                        refine pm_R_op pm_M227 (pc_q := 44) (st_q := [.int 50, .int z12312]) rfl rfl rfl ?_
                        refine sf_R_irem pm_M227 (pc_q := 45) rfl rfl B12314 sf_k50 (by decide) (by decide) (fun z12315 e12316 B12317 => ?_)
                        refine pm_R_br pm_M227 (pc_q := 52) rfl rfl ?_
                        refine pm_R_ret pm_M227 (r := some (.int z12315)) rfl (pm_ret_i _) ?_
                        show pm_R _ 226 92 [.ref 41, .int a0, .int a1, .int a2, .int a3, .int x5_10135, .long z10186, pm_no, .int x8_12158, .long z12224, pm_no, g11_12158] [.int z12315, .int a3, .int a1, .int z12229] _ _
                        refine pm_R_cs pm_M226 (pc_q := 95) (ra := [.int z12315, .int a3, .int a1, .int z12229]) (rest := []) (ls_q := [.int z12229, .int a1, .int a3, .int z12315]) rfl rfl (Or.inl rfl) pm_M225 rfl rfl (Nat.le_of_ble_eq_true rfl) rfl rfl ?_
                        refine pm_R_op pm_M225 (pc_q := 2) (st_q := [.int 50]) rfl rfl rfl ?_
                        refine pm_R_lo pm_M225 (pc_q := 3) rfl rfl rfl ?_
                        refine pm_R_lo pm_M225 (pc_q := 4) rfl rfl rfl ?_
                        refine pm_R_lo pm_M225 (pc_q := 5) rfl rfl rfl ?_
                        refine pm_R_cs pm_M225 (pc_q := 8) (ra := [.int a3, .int a1, .int z12229]) (rest := [.int 50]) (ls_q := [.int z12229, .int a1, .int a3]) rfl rfl (Or.inl rfl) pm_M207 rfl rfl (Nat.le_of_ble_eq_true rfl) rfl rfl ?_
                        refine pm_R_op pm_M207 (pc_q := 3) (st_q := [.int 144]) rfl rfl rfl ?_
                        refine pm_R_lo pm_M207 (pc_q := 4) rfl rfl rfl ?_
                        refine sf_R_imul pm_M207 (pc_q := 5) rfl rfl sf_k144 B12232 (by decide) (by decide) (by decide) (fun z12318 e12319 B12320 => ?_)
                        refine pm_R_op pm_M207 (pc_q := 7) (st_q := [.int 12, .int z12318]) rfl rfl rfl ?_
                        refine pm_R_lo pm_M207 (pc_q := 8) rfl rfl rfl ?_
                        refine sf_R_imulV pm_M207 (pc_q := 9) rfl rfl sf_k12 Ba1 (by decide) (by decide) (by decide) e10169 ?_
                        refine sf_R_iadd pm_M207 (pc_q := 10) rfl rfl B12320 B10170 (by decide) (by decide) (fun z12321 e12322 B12323 => ?_)
                        refine pm_R_lo pm_M207 (pc_q := 11) rfl rfl rfl ?_
                        refine sf_R_iadd pm_M207 (pc_q := 12) rfl rfl B12323 Ba3 (by decide) (by decide) (fun z12324 e12325 B12326 => ?_)
                        refine pm_R_ret pm_M207 (r := some (.int z12324)) rfl (pm_ret_i _) ?_
                        show pm_R _ 225 8 [.int z12229, .int a1, .int a3, .int z12315] [.int z12324, .int 50] _ _
                        refine sf_R_imul pm_M225 (pc_q := 9) rfl rfl sf_k50 B12326 (by decide) (by decide) (by decide) (fun z12327 e12328 B12329 => ?_)
                        refine pm_R_lo pm_M225 (pc_q := 10) rfl rfl rfl ?_
                        refine sf_R_iadd pm_M225 (pc_q := 11) rfl rfl B12329 B12317 (by decide) (by decide) (fun z12330 e12331 B12332 => ?_)
                        refine pm_R_ret pm_M225 (r := some (.int z12330)) rfl (pm_ret_i _) ?_
                        show pm_R _ 226 95 [.ref 41, .int a0, .int a1, .int a2, .int a3, .int x5_10135, .long z10186, pm_no, .int x8_12158, .long z12224, pm_no, g11_12158] [.int z12330] _ _
                        refine pm_R_lo pm_M226 (pc_q := 97) (ls_q := [.ref 41, .int a0, .int a1, .int a2, .int a3, .int x5_10135, .long z10186, pm_no, .int x8_12158, .long z12224, pm_no, .int z12330]) (st_q := []) rfl rfl rfl ?_
                        refine pm_R_lo pm_M226 (pc_q := 98) rfl rfl rfl ?_
                        refine rf_R_get pm_M226 T_12158 (pc_q := 101) (v := .ref 56) rfl rfl rfl rfl ?_
                        refine pm_R_lo pm_M226 (pc_q := 103) rfl rfl rfl ?_
                        refine pm_R_lo pm_M226 (pc_q := 105) rfl rfl rfl ?_
                        refine pm_R_op pm_M226 (pc_q := 106) (st_q := [.long 0, .long z12224, .int z12330, .ref 56]) rfl rfl rfl ?_
                        refine sf_R_lcmp pm_M226 (pc_q := 107) (pm_q226_1 (Nat.le_of_ble_eq_true rfl)) rfl (fun z12333 e12334 => ?_)
                        refine pm_R_ifc pm_M226 (t := 120) (pc_q := 110) (pm_q226_1 (Nat.le_of_ble_eq_true rfl)) rfl rfl (fun c12335 => ?_) (fun c12335 => ?_)
                        · have k12336 := sf_lneC e12334 c12335
                          refine pm_R_lo pm_M226 (pc_q := 121) (pm_q226_1 (Nat.le_of_ble_eq_true rfl)) rfl rfl ?_
                          refine rf_R_get pm_M226 T_12158 (pc_q := 124) (v := .ref 56) (pm_q226_1 (Nat.le_of_ble_eq_true rfl)) rfl rfl rfl ?_
                          refine pm_R_lo pm_M226 (pc_q := 126) (pm_q226_1 (Nat.le_of_ble_eq_true rfl)) rfl rfl ?_
                          refine rf_R_lld pm_M226 T_12158 (pc_q := 127) (pm_q226_1 (Nat.le_of_ble_eq_true rfl)) e12222 (by decide) (by decide) (sf_in B12332 (by decide) (by decide)) rfl (fun z12337 ez12338 => ?_)
                          refine pm_R_lo pm_M226 (pc_q := 129) (pm_q226_1 (Nat.le_of_ble_eq_true rfl)) rfl rfl ?_
                          refine pm_R_lo pm_M226 (pc_q := 131) (pm_q226_1 (Nat.le_of_ble_eq_true rfl)) rfl rfl ?_
                          refine pm_R_cs pm_M226 (pc_q := 134) (ra := [.long z12224, .long z10186]) (rest := [.long z12337, .int z12330, .ref 56]) (ls_q := [.long z10186, pm_no, .long z12224, pm_no]) (pm_q226_1 (Nat.le_of_ble_eq_true rfl)) rfl (Or.inl rfl) pm_M212 rfl rfl (Nat.le_of_ble_eq_true rfl) rfl rfl ?_
                          refine rf_u212 (d := d + 0)  (fun r12339 => ?_)
                          show pm_R _ 226 134 [.ref 41, .int a0, .int a1, .int a2, .int a3, .int x5_10135, .long z10186, pm_no, .int x8_12158, .long z12224, pm_no, .int z12330] [.long r12339, .long z12337, .int z12330, .ref 56] _ _
                          refine pm_R_cs pm_M226 (pc_q := 137) (ra := [.long r12339, .long z12337]) (rest := [.int z12330, .ref 56]) (ls_q := [.long z12337, pm_no, .long r12339, pm_no]) (pm_q226_1 (Nat.le_of_ble_eq_true rfl)) rfl (Or.inl rfl) pm_M213 rfl rfl (Nat.le_of_ble_eq_true rfl) rfl rfl ?_
                          refine rf_u213 (d := d + 1)  (fun r12347 => ?_)
                          show pm_R _ 226 137 [.ref 41, .int a0, .int a1, .int a2, .int a3, .int x5_10135, .long z10186, pm_no, .int x8_12158, .long z12224, pm_no, .int z12330] [.long r12347, .int z12330, .ref 56] _ _
                          refine rf_R_lst pm_M226 T_12158 (pc_q := 138) (pm_q226_1 (Nat.le_of_ble_eq_true rfl)) e12222 (by decide) (by decide) (sf_in B12332 (by decide) (by decide)) ⟨_, rfl⟩ rfl (fun h12355 T12356 F12357 e12358 => ?_)
                          have F12359 := F_12158.trans F12357 (by decide)
                          refine sf_R_iinc pm_M226 (pc_q := 141) (ls_q := fun z => [.ref 41, .int a0, .int a1, .int a2, .int a3, .int x5_10135, .long z10186, pm_no, .int z, .long z12224, pm_no, .int z12330]) (pm_q226_1 (Nat.le_of_ble_eq_true rfl)) B12168 rfl (by decide) (by decide) (by decide) (fun _ => rfl) rfl (fun z12360 e12361 B12362 => ?_)
                          show pm_R _ 226 141 [.ref 41, .int a0, .int a1, .int a2, .int a3, .int x5_10135, .long z10186, pm_no, .int z12360, .long z12224, pm_no, .int z12330] [] _ _
                          refine pm_R_br pm_M226 (pc_q := 33) (pm_q226_1 (Nat.le_of_ble_eq_true rfl)) rfl ?_
                          exact ih_12158 _ (sf_up hN_12158 e12361 B12168 (by decide) (by decide)) h12355 m_12158 w_12158 z12360 (.long z12224) (pm_no) (.int z12330) T12356 F12359 W_12158 (sf_weak B12362 (by decide) (by decide)) rfl rfl rfl
                        · have B12363 : sf_B 0 0 z12333 := sf_eqL (Classical.not_not.mp c12335) sf_k0
                          have B12364 : lf_B 0 0 z12224 := lf_eqB e12334 B12363 (⟨by decide, by decide⟩ : lf_B 0 0 0)
                          refine pm_R_lo pm_M226 (pc_q := 111) (pm_q226_1 (Nat.le_of_ble_eq_true rfl)) rfl rfl ?_
                          refine rf_R_get pm_M226 T_12158 (pc_q := 114) (v := .ref 56) (pm_q226_1 (Nat.le_of_ble_eq_true rfl)) rfl rfl rfl ?_
                          refine pm_R_lo pm_M226 (pc_q := 116) (pm_q226_1 (Nat.le_of_ble_eq_true rfl)) rfl rfl ?_
                          refine rf_R_lld pm_M226 T_12158 (pc_q := 117) (pm_q226_1 (Nat.le_of_ble_eq_true rfl)) e12222 (by decide) (by decide) (sf_in B12332 (by decide) (by decide)) rfl (fun z12365 ez12366 => ?_)
                          refine pm_R_br pm_M226 (pc_q := 137) (pm_q226_1 (Nat.le_of_ble_eq_true rfl)) rfl ?_
                          refine rf_R_lst pm_M226 T_12158 (pc_q := 138) (pm_q226_1 (Nat.le_of_ble_eq_true rfl)) e12222 (by decide) (by decide) (sf_in B12332 (by decide) (by decide)) ⟨_, rfl⟩ rfl (fun h12367 T12368 F12369 e12370 => ?_)
                          have F12371 := F_12158.trans F12369 (by decide)
                          refine sf_R_iinc pm_M226 (pc_q := 141) (ls_q := fun z => [.ref 41, .int a0, .int a1, .int a2, .int a3, .int x5_10135, .long z10186, pm_no, .int z, .long z12224, pm_no, .int z12330]) (pm_q226_1 (Nat.le_of_ble_eq_true rfl)) B12168 rfl (by decide) (by decide) (by decide) (fun _ => rfl) rfl (fun z12372 e12373 B12374 => ?_)
                          show pm_R _ 226 141 [.ref 41, .int a0, .int a1, .int a2, .int a3, .int x5_10135, .long z10186, pm_no, .int z12372, .long z12224, pm_no, .int z12330] [] _ _
                          refine pm_R_br pm_M226 (pc_q := 33) (pm_q226_1 (Nat.le_of_ble_eq_true rfl)) rfl ?_
                          exact ih_12158 _ (sf_up hN_12158 e12373 B12168 (by decide) (by decide)) h12367 m_12158 w_12158 z12372 (.long z12224) (pm_no) (.int z12330) T12368 F12371 W_12158 (sf_weak B12374 (by decide) (by decide)) rfl rfl rfl
                    · have B12375 : sf_B 2 2 z12236 := sf_eqL (Classical.not_not.mp c12244) sf_k2
                      refine pm_R_lo pm_M227 (pc_q := 23) rfl rfl rfl ?_
                      refine pm_R_lo pm_M227 (pc_q := 24) rfl rfl rfl ?_
                      refine sf_R_iadd pm_M227 (pc_q := 25) rfl rfl B10141 B12168 (by decide) (by decide) (fun z12376 e12377 B12378 => ?_)
                      refine pm_R_op pm_M227 (pc_q := 27) (st_q := [.int 50, .int z12376]) rfl rfl rfl ?_
                      refine sf_R_irem pm_M227 (pc_q := 28) rfl rfl B12378 sf_k50 (by decide) (by decide) (fun z12379 e12380 B12381 => ?_)
                      refine pm_R_br pm_M227 (pc_q := 52) rfl rfl ?_
                      refine pm_R_ret pm_M227 (r := some (.int z12379)) rfl (pm_ret_i _) ?_
                      show pm_R _ 226 92 [.ref 41, .int a0, .int a1, .int a2, .int a3, .int x5_10135, .long z10186, pm_no, .int x8_12158, .long z12224, pm_no, g11_12158] [.int z12379, .int a3, .int a1, .int z12229] _ _
                      refine pm_R_cs pm_M226 (pc_q := 95) (ra := [.int z12379, .int a3, .int a1, .int z12229]) (rest := []) (ls_q := [.int z12229, .int a1, .int a3, .int z12379]) rfl rfl (Or.inl rfl) pm_M225 rfl rfl (Nat.le_of_ble_eq_true rfl) rfl rfl ?_
                      refine pm_R_op pm_M225 (pc_q := 2) (st_q := [.int 50]) rfl rfl rfl ?_
                      refine pm_R_lo pm_M225 (pc_q := 3) rfl rfl rfl ?_
                      refine pm_R_lo pm_M225 (pc_q := 4) rfl rfl rfl ?_
                      refine pm_R_lo pm_M225 (pc_q := 5) rfl rfl rfl ?_
                      refine pm_R_cs pm_M225 (pc_q := 8) (ra := [.int a3, .int a1, .int z12229]) (rest := [.int 50]) (ls_q := [.int z12229, .int a1, .int a3]) rfl rfl (Or.inl rfl) pm_M207 rfl rfl (Nat.le_of_ble_eq_true rfl) rfl rfl ?_
                      refine pm_R_op pm_M207 (pc_q := 3) (st_q := [.int 144]) rfl rfl rfl ?_
                      refine pm_R_lo pm_M207 (pc_q := 4) rfl rfl rfl ?_
                      refine sf_R_imul pm_M207 (pc_q := 5) rfl rfl sf_k144 B12232 (by decide) (by decide) (by decide) (fun z12382 e12383 B12384 => ?_)
                      refine pm_R_op pm_M207 (pc_q := 7) (st_q := [.int 12, .int z12382]) rfl rfl rfl ?_
                      refine pm_R_lo pm_M207 (pc_q := 8) rfl rfl rfl ?_
                      refine sf_R_imulV pm_M207 (pc_q := 9) rfl rfl sf_k12 Ba1 (by decide) (by decide) (by decide) e10169 ?_
                      refine sf_R_iadd pm_M207 (pc_q := 10) rfl rfl B12384 B10170 (by decide) (by decide) (fun z12385 e12386 B12387 => ?_)
                      refine pm_R_lo pm_M207 (pc_q := 11) rfl rfl rfl ?_
                      refine sf_R_iadd pm_M207 (pc_q := 12) rfl rfl B12387 Ba3 (by decide) (by decide) (fun z12388 e12389 B12390 => ?_)
                      refine pm_R_ret pm_M207 (r := some (.int z12388)) rfl (pm_ret_i _) ?_
                      show pm_R _ 225 8 [.int z12229, .int a1, .int a3, .int z12379] [.int z12388, .int 50] _ _
                      refine sf_R_imul pm_M225 (pc_q := 9) rfl rfl sf_k50 B12390 (by decide) (by decide) (by decide) (fun z12391 e12392 B12393 => ?_)
                      refine pm_R_lo pm_M225 (pc_q := 10) rfl rfl rfl ?_
                      refine sf_R_iadd pm_M225 (pc_q := 11) rfl rfl B12393 B12381 (by decide) (by decide) (fun z12394 e12395 B12396 => ?_)
                      refine pm_R_ret pm_M225 (r := some (.int z12394)) rfl (pm_ret_i _) ?_
                      show pm_R _ 226 95 [.ref 41, .int a0, .int a1, .int a2, .int a3, .int x5_10135, .long z10186, pm_no, .int x8_12158, .long z12224, pm_no, g11_12158] [.int z12394] _ _
                      refine pm_R_lo pm_M226 (pc_q := 97) (ls_q := [.ref 41, .int a0, .int a1, .int a2, .int a3, .int x5_10135, .long z10186, pm_no, .int x8_12158, .long z12224, pm_no, .int z12394]) (st_q := []) rfl rfl rfl ?_
                      refine pm_R_lo pm_M226 (pc_q := 98) rfl rfl rfl ?_
                      refine rf_R_get pm_M226 T_12158 (pc_q := 101) (v := .ref 56) rfl rfl rfl rfl ?_
                      refine pm_R_lo pm_M226 (pc_q := 103) rfl rfl rfl ?_
                      refine pm_R_lo pm_M226 (pc_q := 105) rfl rfl rfl ?_
                      refine pm_R_op pm_M226 (pc_q := 106) (st_q := [.long 0, .long z12224, .int z12394, .ref 56]) rfl rfl rfl ?_
                      refine sf_R_lcmp pm_M226 (pc_q := 107) (pm_q226_1 (Nat.le_of_ble_eq_true rfl)) rfl (fun z12397 e12398 => ?_)
                      refine pm_R_ifc pm_M226 (t := 120) (pc_q := 110) (pm_q226_1 (Nat.le_of_ble_eq_true rfl)) rfl rfl (fun c12399 => ?_) (fun c12399 => ?_)
                      · have k12400 := sf_lneC e12398 c12399
                        refine pm_R_lo pm_M226 (pc_q := 121) (pm_q226_1 (Nat.le_of_ble_eq_true rfl)) rfl rfl ?_
                        refine rf_R_get pm_M226 T_12158 (pc_q := 124) (v := .ref 56) (pm_q226_1 (Nat.le_of_ble_eq_true rfl)) rfl rfl rfl ?_
                        refine pm_R_lo pm_M226 (pc_q := 126) (pm_q226_1 (Nat.le_of_ble_eq_true rfl)) rfl rfl ?_
                        refine rf_R_lld pm_M226 T_12158 (pc_q := 127) (pm_q226_1 (Nat.le_of_ble_eq_true rfl)) e12222 (by decide) (by decide) (sf_in B12396 (by decide) (by decide)) rfl (fun z12401 ez12402 => ?_)
                        refine pm_R_lo pm_M226 (pc_q := 129) (pm_q226_1 (Nat.le_of_ble_eq_true rfl)) rfl rfl ?_
                        refine pm_R_lo pm_M226 (pc_q := 131) (pm_q226_1 (Nat.le_of_ble_eq_true rfl)) rfl rfl ?_
                        refine pm_R_cs pm_M226 (pc_q := 134) (ra := [.long z12224, .long z10186]) (rest := [.long z12401, .int z12394, .ref 56]) (ls_q := [.long z10186, pm_no, .long z12224, pm_no]) (pm_q226_1 (Nat.le_of_ble_eq_true rfl)) rfl (Or.inl rfl) pm_M212 rfl rfl (Nat.le_of_ble_eq_true rfl) rfl rfl ?_
                        refine rf_u212 (d := d + 0)  (fun r12403 => ?_)
                        show pm_R _ 226 134 [.ref 41, .int a0, .int a1, .int a2, .int a3, .int x5_10135, .long z10186, pm_no, .int x8_12158, .long z12224, pm_no, .int z12394] [.long r12403, .long z12401, .int z12394, .ref 56] _ _
                        refine pm_R_cs pm_M226 (pc_q := 137) (ra := [.long r12403, .long z12401]) (rest := [.int z12394, .ref 56]) (ls_q := [.long z12401, pm_no, .long r12403, pm_no]) (pm_q226_1 (Nat.le_of_ble_eq_true rfl)) rfl (Or.inl rfl) pm_M213 rfl rfl (Nat.le_of_ble_eq_true rfl) rfl rfl ?_
                        refine rf_u213 (d := d + 1)  (fun r12411 => ?_)
                        show pm_R _ 226 137 [.ref 41, .int a0, .int a1, .int a2, .int a3, .int x5_10135, .long z10186, pm_no, .int x8_12158, .long z12224, pm_no, .int z12394] [.long r12411, .int z12394, .ref 56] _ _
                        refine rf_R_lst pm_M226 T_12158 (pc_q := 138) (pm_q226_1 (Nat.le_of_ble_eq_true rfl)) e12222 (by decide) (by decide) (sf_in B12396 (by decide) (by decide)) ⟨_, rfl⟩ rfl (fun h12419 T12420 F12421 e12422 => ?_)
                        have F12423 := F_12158.trans F12421 (by decide)
                        refine sf_R_iinc pm_M226 (pc_q := 141) (ls_q := fun z => [.ref 41, .int a0, .int a1, .int a2, .int a3, .int x5_10135, .long z10186, pm_no, .int z, .long z12224, pm_no, .int z12394]) (pm_q226_1 (Nat.le_of_ble_eq_true rfl)) B12168 rfl (by decide) (by decide) (by decide) (fun _ => rfl) rfl (fun z12424 e12425 B12426 => ?_)
                        show pm_R _ 226 141 [.ref 41, .int a0, .int a1, .int a2, .int a3, .int x5_10135, .long z10186, pm_no, .int z12424, .long z12224, pm_no, .int z12394] [] _ _
                        refine pm_R_br pm_M226 (pc_q := 33) (pm_q226_1 (Nat.le_of_ble_eq_true rfl)) rfl ?_
                        exact ih_12158 _ (sf_up hN_12158 e12425 B12168 (by decide) (by decide)) h12419 m_12158 w_12158 z12424 (.long z12224) (pm_no) (.int z12394) T12420 F12423 W_12158 (sf_weak B12426 (by decide) (by decide)) rfl rfl rfl
                      · have B12427 : sf_B 0 0 z12397 := sf_eqL (Classical.not_not.mp c12399) sf_k0
                        have B12428 : lf_B 0 0 z12224 := lf_eqB e12398 B12427 (⟨by decide, by decide⟩ : lf_B 0 0 0)
                        refine pm_R_lo pm_M226 (pc_q := 111) (pm_q226_1 (Nat.le_of_ble_eq_true rfl)) rfl rfl ?_
                        refine rf_R_get pm_M226 T_12158 (pc_q := 114) (v := .ref 56) (pm_q226_1 (Nat.le_of_ble_eq_true rfl)) rfl rfl rfl ?_
                        refine pm_R_lo pm_M226 (pc_q := 116) (pm_q226_1 (Nat.le_of_ble_eq_true rfl)) rfl rfl ?_
                        refine rf_R_lld pm_M226 T_12158 (pc_q := 117) (pm_q226_1 (Nat.le_of_ble_eq_true rfl)) e12222 (by decide) (by decide) (sf_in B12396 (by decide) (by decide)) rfl (fun z12429 ez12430 => ?_)
                        refine pm_R_br pm_M226 (pc_q := 137) (pm_q226_1 (Nat.le_of_ble_eq_true rfl)) rfl ?_
                        refine rf_R_lst pm_M226 T_12158 (pc_q := 138) (pm_q226_1 (Nat.le_of_ble_eq_true rfl)) e12222 (by decide) (by decide) (sf_in B12396 (by decide) (by decide)) ⟨_, rfl⟩ rfl (fun h12431 T12432 F12433 e12434 => ?_)
                        have F12435 := F_12158.trans F12433 (by decide)
                        refine sf_R_iinc pm_M226 (pc_q := 141) (ls_q := fun z => [.ref 41, .int a0, .int a1, .int a2, .int a3, .int x5_10135, .long z10186, pm_no, .int z, .long z12224, pm_no, .int z12394]) (pm_q226_1 (Nat.le_of_ble_eq_true rfl)) B12168 rfl (by decide) (by decide) (by decide) (fun _ => rfl) rfl (fun z12436 e12437 B12438 => ?_)
                        show pm_R _ 226 141 [.ref 41, .int a0, .int a1, .int a2, .int a3, .int x5_10135, .long z10186, pm_no, .int z12436, .long z12224, pm_no, .int z12394] [] _ _
                        refine pm_R_br pm_M226 (pc_q := 33) (pm_q226_1 (Nat.le_of_ble_eq_true rfl)) rfl ?_
                        exact ih_12158 _ (sf_up hN_12158 e12437 B12168 (by decide) (by decide)) h12431 m_12158 w_12158 z12436 (.long z12224) (pm_no) (.int z12394) T12432 F12435 W_12158 (sf_weak B12438 (by decide) (by decide)) rfl rfl rfl
                  · have B12439 : sf_B 1 1 z12236 := sf_eqL (Classical.not_not.mp c12242) sf_k1
                    refine pm_R_lo pm_M227 (pc_q := 14) rfl rfl rfl ?_
                    refine pm_R_br pm_M227 (pc_q := 52) rfl rfl ?_
                    refine pm_R_ret pm_M227 (r := some (.int x8_12158)) rfl (pm_ret_i _) ?_
                    show pm_R _ 226 92 [.ref 41, .int a0, .int a1, .int a2, .int a3, .int x5_10135, .long z10186, pm_no, .int x8_12158, .long z12224, pm_no, g11_12158] [.int x8_12158, .int a3, .int a1, .int z12229] _ _
                    refine pm_R_cs pm_M226 (pc_q := 95) (ra := [.int x8_12158, .int a3, .int a1, .int z12229]) (rest := []) (ls_q := [.int z12229, .int a1, .int a3, .int x8_12158]) rfl rfl (Or.inl rfl) pm_M225 rfl rfl (Nat.le_of_ble_eq_true rfl) rfl rfl ?_
                    refine pm_R_op pm_M225 (pc_q := 2) (st_q := [.int 50]) rfl rfl rfl ?_
                    refine pm_R_lo pm_M225 (pc_q := 3) rfl rfl rfl ?_
                    refine pm_R_lo pm_M225 (pc_q := 4) rfl rfl rfl ?_
                    refine pm_R_lo pm_M225 (pc_q := 5) rfl rfl rfl ?_
                    refine pm_R_cs pm_M225 (pc_q := 8) (ra := [.int a3, .int a1, .int z12229]) (rest := [.int 50]) (ls_q := [.int z12229, .int a1, .int a3]) rfl rfl (Or.inl rfl) pm_M207 rfl rfl (Nat.le_of_ble_eq_true rfl) rfl rfl ?_
                    refine pm_R_op pm_M207 (pc_q := 3) (st_q := [.int 144]) rfl rfl rfl ?_
                    refine pm_R_lo pm_M207 (pc_q := 4) rfl rfl rfl ?_
                    refine sf_R_imul pm_M207 (pc_q := 5) rfl rfl sf_k144 B12232 (by decide) (by decide) (by decide) (fun z12440 e12441 B12442 => ?_)
                    refine pm_R_op pm_M207 (pc_q := 7) (st_q := [.int 12, .int z12440]) rfl rfl rfl ?_
                    refine pm_R_lo pm_M207 (pc_q := 8) rfl rfl rfl ?_
                    refine sf_R_imulV pm_M207 (pc_q := 9) rfl rfl sf_k12 Ba1 (by decide) (by decide) (by decide) e10169 ?_
                    refine sf_R_iadd pm_M207 (pc_q := 10) rfl rfl B12442 B10170 (by decide) (by decide) (fun z12443 e12444 B12445 => ?_)
                    refine pm_R_lo pm_M207 (pc_q := 11) rfl rfl rfl ?_
                    refine sf_R_iadd pm_M207 (pc_q := 12) rfl rfl B12445 Ba3 (by decide) (by decide) (fun z12446 e12447 B12448 => ?_)
                    refine pm_R_ret pm_M207 (r := some (.int z12446)) rfl (pm_ret_i _) ?_
                    show pm_R _ 225 8 [.int z12229, .int a1, .int a3, .int x8_12158] [.int z12446, .int 50] _ _
                    refine sf_R_imul pm_M225 (pc_q := 9) rfl rfl sf_k50 B12448 (by decide) (by decide) (by decide) (fun z12449 e12450 B12451 => ?_)
                    refine pm_R_lo pm_M225 (pc_q := 10) rfl rfl rfl ?_
                    refine sf_R_iadd pm_M225 (pc_q := 11) rfl rfl B12451 B12168 (by decide) (by decide) (fun z12452 e12453 B12454 => ?_)
                    refine pm_R_ret pm_M225 (r := some (.int z12452)) rfl (pm_ret_i _) ?_
                    show pm_R _ 226 95 [.ref 41, .int a0, .int a1, .int a2, .int a3, .int x5_10135, .long z10186, pm_no, .int x8_12158, .long z12224, pm_no, g11_12158] [.int z12452] _ _
                    refine pm_R_lo pm_M226 (pc_q := 97) (ls_q := [.ref 41, .int a0, .int a1, .int a2, .int a3, .int x5_10135, .long z10186, pm_no, .int x8_12158, .long z12224, pm_no, .int z12452]) (st_q := []) rfl rfl rfl ?_
                    refine pm_R_lo pm_M226 (pc_q := 98) rfl rfl rfl ?_
                    refine rf_R_get pm_M226 T_12158 (pc_q := 101) (v := .ref 56) rfl rfl rfl rfl ?_
                    refine pm_R_lo pm_M226 (pc_q := 103) rfl rfl rfl ?_
                    refine pm_R_lo pm_M226 (pc_q := 105) rfl rfl rfl ?_
                    refine pm_R_op pm_M226 (pc_q := 106) (st_q := [.long 0, .long z12224, .int z12452, .ref 56]) rfl rfl rfl ?_
                    refine sf_R_lcmp pm_M226 (pc_q := 107) (pm_q226_1 (Nat.le_of_ble_eq_true rfl)) rfl (fun z12455 e12456 => ?_)
                    refine pm_R_ifc pm_M226 (t := 120) (pc_q := 110) (pm_q226_1 (Nat.le_of_ble_eq_true rfl)) rfl rfl (fun c12457 => ?_) (fun c12457 => ?_)
                    · have k12458 := sf_lneC e12456 c12457
                      refine pm_R_lo pm_M226 (pc_q := 121) (pm_q226_1 (Nat.le_of_ble_eq_true rfl)) rfl rfl ?_
                      refine rf_R_get pm_M226 T_12158 (pc_q := 124) (v := .ref 56) (pm_q226_1 (Nat.le_of_ble_eq_true rfl)) rfl rfl rfl ?_
                      refine pm_R_lo pm_M226 (pc_q := 126) (pm_q226_1 (Nat.le_of_ble_eq_true rfl)) rfl rfl ?_
                      refine rf_R_lld pm_M226 T_12158 (pc_q := 127) (pm_q226_1 (Nat.le_of_ble_eq_true rfl)) e12222 (by decide) (by decide) (sf_in B12454 (by decide) (by decide)) rfl (fun z12459 ez12460 => ?_)
                      refine pm_R_lo pm_M226 (pc_q := 129) (pm_q226_1 (Nat.le_of_ble_eq_true rfl)) rfl rfl ?_
                      refine pm_R_lo pm_M226 (pc_q := 131) (pm_q226_1 (Nat.le_of_ble_eq_true rfl)) rfl rfl ?_
                      refine pm_R_cs pm_M226 (pc_q := 134) (ra := [.long z12224, .long z10186]) (rest := [.long z12459, .int z12452, .ref 56]) (ls_q := [.long z10186, pm_no, .long z12224, pm_no]) (pm_q226_1 (Nat.le_of_ble_eq_true rfl)) rfl (Or.inl rfl) pm_M212 rfl rfl (Nat.le_of_ble_eq_true rfl) rfl rfl ?_
                      refine rf_u212 (d := d + 0)  (fun r12461 => ?_)
                      show pm_R _ 226 134 [.ref 41, .int a0, .int a1, .int a2, .int a3, .int x5_10135, .long z10186, pm_no, .int x8_12158, .long z12224, pm_no, .int z12452] [.long r12461, .long z12459, .int z12452, .ref 56] _ _
                      refine pm_R_cs pm_M226 (pc_q := 137) (ra := [.long r12461, .long z12459]) (rest := [.int z12452, .ref 56]) (ls_q := [.long z12459, pm_no, .long r12461, pm_no]) (pm_q226_1 (Nat.le_of_ble_eq_true rfl)) rfl (Or.inl rfl) pm_M213 rfl rfl (Nat.le_of_ble_eq_true rfl) rfl rfl ?_
                      refine rf_u213 (d := d + 1)  (fun r12469 => ?_)
                      show pm_R _ 226 137 [.ref 41, .int a0, .int a1, .int a2, .int a3, .int x5_10135, .long z10186, pm_no, .int x8_12158, .long z12224, pm_no, .int z12452] [.long r12469, .int z12452, .ref 56] _ _
                      refine rf_R_lst pm_M226 T_12158 (pc_q := 138) (pm_q226_1 (Nat.le_of_ble_eq_true rfl)) e12222 (by decide) (by decide) (sf_in B12454 (by decide) (by decide)) ⟨_, rfl⟩ rfl (fun h12477 T12478 F12479 e12480 => ?_)
                      have F12481 := F_12158.trans F12479 (by decide)
                      refine sf_R_iinc pm_M226 (pc_q := 141) (ls_q := fun z => [.ref 41, .int a0, .int a1, .int a2, .int a3, .int x5_10135, .long z10186, pm_no, .int z, .long z12224, pm_no, .int z12452]) (pm_q226_1 (Nat.le_of_ble_eq_true rfl)) B12168 rfl (by decide) (by decide) (by decide) (fun _ => rfl) rfl (fun z12482 e12483 B12484 => ?_)
                      show pm_R _ 226 141 [.ref 41, .int a0, .int a1, .int a2, .int a3, .int x5_10135, .long z10186, pm_no, .int z12482, .long z12224, pm_no, .int z12452] [] _ _
                      refine pm_R_br pm_M226 (pc_q := 33) (pm_q226_1 (Nat.le_of_ble_eq_true rfl)) rfl ?_
                      exact ih_12158 _ (sf_up hN_12158 e12483 B12168 (by decide) (by decide)) h12477 m_12158 w_12158 z12482 (.long z12224) (pm_no) (.int z12452) T12478 F12481 W_12158 (sf_weak B12484 (by decide) (by decide)) rfl rfl rfl
                    · have B12485 : sf_B 0 0 z12455 := sf_eqL (Classical.not_not.mp c12457) sf_k0
                      have B12486 : lf_B 0 0 z12224 := lf_eqB e12456 B12485 (⟨by decide, by decide⟩ : lf_B 0 0 0)
                      refine pm_R_lo pm_M226 (pc_q := 111) (pm_q226_1 (Nat.le_of_ble_eq_true rfl)) rfl rfl ?_
                      refine rf_R_get pm_M226 T_12158 (pc_q := 114) (v := .ref 56) (pm_q226_1 (Nat.le_of_ble_eq_true rfl)) rfl rfl rfl ?_
                      refine pm_R_lo pm_M226 (pc_q := 116) (pm_q226_1 (Nat.le_of_ble_eq_true rfl)) rfl rfl ?_
                      refine rf_R_lld pm_M226 T_12158 (pc_q := 117) (pm_q226_1 (Nat.le_of_ble_eq_true rfl)) e12222 (by decide) (by decide) (sf_in B12454 (by decide) (by decide)) rfl (fun z12487 ez12488 => ?_)
                      refine pm_R_br pm_M226 (pc_q := 137) (pm_q226_1 (Nat.le_of_ble_eq_true rfl)) rfl ?_
                      refine rf_R_lst pm_M226 T_12158 (pc_q := 138) (pm_q226_1 (Nat.le_of_ble_eq_true rfl)) e12222 (by decide) (by decide) (sf_in B12454 (by decide) (by decide)) ⟨_, rfl⟩ rfl (fun h12489 T12490 F12491 e12492 => ?_)
                      have F12493 := F_12158.trans F12491 (by decide)
                      refine sf_R_iinc pm_M226 (pc_q := 141) (ls_q := fun z => [.ref 41, .int a0, .int a1, .int a2, .int a3, .int x5_10135, .long z10186, pm_no, .int z, .long z12224, pm_no, .int z12452]) (pm_q226_1 (Nat.le_of_ble_eq_true rfl)) B12168 rfl (by decide) (by decide) (by decide) (fun _ => rfl) rfl (fun z12494 e12495 B12496 => ?_)
                      show pm_R _ 226 141 [.ref 41, .int a0, .int a1, .int a2, .int a3, .int x5_10135, .long z10186, pm_no, .int z12494, .long z12224, pm_no, .int z12452] [] _ _
                      refine pm_R_br pm_M226 (pc_q := 33) (pm_q226_1 (Nat.le_of_ble_eq_true rfl)) rfl ?_
                      exact ih_12158 _ (sf_up hN_12158 e12495 B12168 (by decide) (by decide)) h12489 m_12158 w_12158 z12494 (.long z12224) (pm_no) (.int z12452) T12490 F12493 W_12158 (sf_weak B12496 (by decide) (by decide)) rfl rfl rfl
                · have B12497 : sf_B 0 0 z12236 := sf_eqL (Classical.not_not.mp c12240) sf_k0
                  refine pm_R_lo pm_M227 (pc_q := 5) rfl rfl rfl ?_
                  refine pm_R_br pm_M227 (pc_q := 52) rfl rfl ?_
                  refine pm_R_ret pm_M227 (r := some (.int x5_10135)) rfl (pm_ret_i _) ?_
                  show pm_R _ 226 92 [.ref 41, .int a0, .int a1, .int a2, .int a3, .int x5_10135, .long z10186, pm_no, .int x8_12158, .long z12224, pm_no, g11_12158] [.int x5_10135, .int a3, .int a1, .int z12229] _ _
                  refine pm_R_cs pm_M226 (pc_q := 95) (ra := [.int x5_10135, .int a3, .int a1, .int z12229]) (rest := []) (ls_q := [.int z12229, .int a1, .int a3, .int x5_10135]) rfl rfl (Or.inl rfl) pm_M225 rfl rfl (Nat.le_of_ble_eq_true rfl) rfl rfl ?_
                  refine pm_R_op pm_M225 (pc_q := 2) (st_q := [.int 50]) rfl rfl rfl ?_
                  refine pm_R_lo pm_M225 (pc_q := 3) rfl rfl rfl ?_
                  refine pm_R_lo pm_M225 (pc_q := 4) rfl rfl rfl ?_
                  refine pm_R_lo pm_M225 (pc_q := 5) rfl rfl rfl ?_
                  refine pm_R_cs pm_M225 (pc_q := 8) (ra := [.int a3, .int a1, .int z12229]) (rest := [.int 50]) (ls_q := [.int z12229, .int a1, .int a3]) rfl rfl (Or.inl rfl) pm_M207 rfl rfl (Nat.le_of_ble_eq_true rfl) rfl rfl ?_
                  refine pm_R_op pm_M207 (pc_q := 3) (st_q := [.int 144]) rfl rfl rfl ?_
                  refine pm_R_lo pm_M207 (pc_q := 4) rfl rfl rfl ?_
                  refine sf_R_imul pm_M207 (pc_q := 5) rfl rfl sf_k144 B12232 (by decide) (by decide) (by decide) (fun z12498 e12499 B12500 => ?_)
                  refine pm_R_op pm_M207 (pc_q := 7) (st_q := [.int 12, .int z12498]) rfl rfl rfl ?_
                  refine pm_R_lo pm_M207 (pc_q := 8) rfl rfl rfl ?_
                  refine sf_R_imulV pm_M207 (pc_q := 9) rfl rfl sf_k12 Ba1 (by decide) (by decide) (by decide) e10169 ?_
                  refine sf_R_iadd pm_M207 (pc_q := 10) rfl rfl B12500 B10170 (by decide) (by decide) (fun z12501 e12502 B12503 => ?_)
                  refine pm_R_lo pm_M207 (pc_q := 11) rfl rfl rfl ?_
                  refine sf_R_iadd pm_M207 (pc_q := 12) rfl rfl B12503 Ba3 (by decide) (by decide) (fun z12504 e12505 B12506 => ?_)
                  refine pm_R_ret pm_M207 (r := some (.int z12504)) rfl (pm_ret_i _) ?_
                  show pm_R _ 225 8 [.int z12229, .int a1, .int a3, .int x5_10135] [.int z12504, .int 50] _ _
                  refine sf_R_imul pm_M225 (pc_q := 9) rfl rfl sf_k50 B12506 (by decide) (by decide) (by decide) (fun z12507 e12508 B12509 => ?_)
                  refine pm_R_lo pm_M225 (pc_q := 10) rfl rfl rfl ?_
                  refine sf_R_iadd pm_M225 (pc_q := 11) rfl rfl B12509 B10141 (by decide) (by decide) (fun z12510 e12511 B12512 => ?_)
                  refine pm_R_ret pm_M225 (r := some (.int z12510)) rfl (pm_ret_i _) ?_
                  show pm_R _ 226 95 [.ref 41, .int a0, .int a1, .int a2, .int a3, .int x5_10135, .long z10186, pm_no, .int x8_12158, .long z12224, pm_no, g11_12158] [.int z12510] _ _
                  refine pm_R_lo pm_M226 (pc_q := 97) (ls_q := [.ref 41, .int a0, .int a1, .int a2, .int a3, .int x5_10135, .long z10186, pm_no, .int x8_12158, .long z12224, pm_no, .int z12510]) (st_q := []) rfl rfl rfl ?_
                  refine pm_R_lo pm_M226 (pc_q := 98) rfl rfl rfl ?_
                  refine rf_R_get pm_M226 T_12158 (pc_q := 101) (v := .ref 56) rfl rfl rfl rfl ?_
                  refine pm_R_lo pm_M226 (pc_q := 103) rfl rfl rfl ?_
                  refine pm_R_lo pm_M226 (pc_q := 105) rfl rfl rfl ?_
                  refine pm_R_op pm_M226 (pc_q := 106) (st_q := [.long 0, .long z12224, .int z12510, .ref 56]) rfl rfl rfl ?_
                  refine sf_R_lcmp pm_M226 (pc_q := 107) (pm_q226_1 (Nat.le_of_ble_eq_true rfl)) rfl (fun z12513 e12514 => ?_)
                  refine pm_R_ifc pm_M226 (t := 120) (pc_q := 110) (pm_q226_1 (Nat.le_of_ble_eq_true rfl)) rfl rfl (fun c12515 => ?_) (fun c12515 => ?_)
                  · have k12516 := sf_lneC e12514 c12515
                    refine pm_R_lo pm_M226 (pc_q := 121) (pm_q226_1 (Nat.le_of_ble_eq_true rfl)) rfl rfl ?_
                    refine rf_R_get pm_M226 T_12158 (pc_q := 124) (v := .ref 56) (pm_q226_1 (Nat.le_of_ble_eq_true rfl)) rfl rfl rfl ?_
                    refine pm_R_lo pm_M226 (pc_q := 126) (pm_q226_1 (Nat.le_of_ble_eq_true rfl)) rfl rfl ?_
                    refine rf_R_lld pm_M226 T_12158 (pc_q := 127) (pm_q226_1 (Nat.le_of_ble_eq_true rfl)) e12222 (by decide) (by decide) (sf_in B12512 (by decide) (by decide)) rfl (fun z12517 ez12518 => ?_)
                    refine pm_R_lo pm_M226 (pc_q := 129) (pm_q226_1 (Nat.le_of_ble_eq_true rfl)) rfl rfl ?_
                    refine pm_R_lo pm_M226 (pc_q := 131) (pm_q226_1 (Nat.le_of_ble_eq_true rfl)) rfl rfl ?_
                    refine pm_R_cs pm_M226 (pc_q := 134) (ra := [.long z12224, .long z10186]) (rest := [.long z12517, .int z12510, .ref 56]) (ls_q := [.long z10186, pm_no, .long z12224, pm_no]) (pm_q226_1 (Nat.le_of_ble_eq_true rfl)) rfl (Or.inl rfl) pm_M212 rfl rfl (Nat.le_of_ble_eq_true rfl) rfl rfl ?_
                    refine rf_u212 (d := d + 0)  (fun r12519 => ?_)
                    show pm_R _ 226 134 [.ref 41, .int a0, .int a1, .int a2, .int a3, .int x5_10135, .long z10186, pm_no, .int x8_12158, .long z12224, pm_no, .int z12510] [.long r12519, .long z12517, .int z12510, .ref 56] _ _
                    refine pm_R_cs pm_M226 (pc_q := 137) (ra := [.long r12519, .long z12517]) (rest := [.int z12510, .ref 56]) (ls_q := [.long z12517, pm_no, .long r12519, pm_no]) (pm_q226_1 (Nat.le_of_ble_eq_true rfl)) rfl (Or.inl rfl) pm_M213 rfl rfl (Nat.le_of_ble_eq_true rfl) rfl rfl ?_
                    refine rf_u213 (d := d + 1)  (fun r12527 => ?_)
                    show pm_R _ 226 137 [.ref 41, .int a0, .int a1, .int a2, .int a3, .int x5_10135, .long z10186, pm_no, .int x8_12158, .long z12224, pm_no, .int z12510] [.long r12527, .int z12510, .ref 56] _ _
                    refine rf_R_lst pm_M226 T_12158 (pc_q := 138) (pm_q226_1 (Nat.le_of_ble_eq_true rfl)) e12222 (by decide) (by decide) (sf_in B12512 (by decide) (by decide)) ⟨_, rfl⟩ rfl (fun h12535 T12536 F12537 e12538 => ?_)
                    have F12539 := F_12158.trans F12537 (by decide)
                    refine sf_R_iinc pm_M226 (pc_q := 141) (ls_q := fun z => [.ref 41, .int a0, .int a1, .int a2, .int a3, .int x5_10135, .long z10186, pm_no, .int z, .long z12224, pm_no, .int z12510]) (pm_q226_1 (Nat.le_of_ble_eq_true rfl)) B12168 rfl (by decide) (by decide) (by decide) (fun _ => rfl) rfl (fun z12540 e12541 B12542 => ?_)
                    show pm_R _ 226 141 [.ref 41, .int a0, .int a1, .int a2, .int a3, .int x5_10135, .long z10186, pm_no, .int z12540, .long z12224, pm_no, .int z12510] [] _ _
                    refine pm_R_br pm_M226 (pc_q := 33) (pm_q226_1 (Nat.le_of_ble_eq_true rfl)) rfl ?_
                    exact ih_12158 _ (sf_up hN_12158 e12541 B12168 (by decide) (by decide)) h12535 m_12158 w_12158 z12540 (.long z12224) (pm_no) (.int z12510) T12536 F12539 W_12158 (sf_weak B12542 (by decide) (by decide)) rfl rfl rfl
                  · have B12543 : sf_B 0 0 z12513 := sf_eqL (Classical.not_not.mp c12515) sf_k0
                    have B12544 : lf_B 0 0 z12224 := lf_eqB e12514 B12543 (⟨by decide, by decide⟩ : lf_B 0 0 0)
                    refine pm_R_lo pm_M226 (pc_q := 111) (pm_q226_1 (Nat.le_of_ble_eq_true rfl)) rfl rfl ?_
                    refine rf_R_get pm_M226 T_12158 (pc_q := 114) (v := .ref 56) (pm_q226_1 (Nat.le_of_ble_eq_true rfl)) rfl rfl rfl ?_
                    refine pm_R_lo pm_M226 (pc_q := 116) (pm_q226_1 (Nat.le_of_ble_eq_true rfl)) rfl rfl ?_
                    refine rf_R_lld pm_M226 T_12158 (pc_q := 117) (pm_q226_1 (Nat.le_of_ble_eq_true rfl)) e12222 (by decide) (by decide) (sf_in B12512 (by decide) (by decide)) rfl (fun z12545 ez12546 => ?_)
                    refine pm_R_br pm_M226 (pc_q := 137) (pm_q226_1 (Nat.le_of_ble_eq_true rfl)) rfl ?_
                    refine rf_R_lst pm_M226 T_12158 (pc_q := 138) (pm_q226_1 (Nat.le_of_ble_eq_true rfl)) e12222 (by decide) (by decide) (sf_in B12512 (by decide) (by decide)) ⟨_, rfl⟩ rfl (fun h12547 T12548 F12549 e12550 => ?_)
                    have F12551 := F_12158.trans F12549 (by decide)
                    refine sf_R_iinc pm_M226 (pc_q := 141) (ls_q := fun z => [.ref 41, .int a0, .int a1, .int a2, .int a3, .int x5_10135, .long z10186, pm_no, .int z, .long z12224, pm_no, .int z12510]) (pm_q226_1 (Nat.le_of_ble_eq_true rfl)) B12168 rfl (by decide) (by decide) (by decide) (fun _ => rfl) rfl (fun z12552 e12553 B12554 => ?_)
                    show pm_R _ 226 141 [.ref 41, .int a0, .int a1, .int a2, .int a3, .int x5_10135, .long z10186, pm_no, .int z12552, .long z12224, pm_no, .int z12510] [] _ _
                    refine pm_R_br pm_M226 (pc_q := 33) (pm_q226_1 (Nat.le_of_ble_eq_true rfl)) rfl ?_
                    exact ih_12158 _ (sf_up hN_12158 e12553 B12168 (by decide) (by decide)) h12547 m_12158 w_12158 z12552 (.long z12224) (pm_no) (.int z12510) T12548 F12551 W_12158 (sf_weak B12554 (by decide) (by decide)) rfl rfl rfl
        exact L_12158 _ h_10135 m_10135 w_10135 0 (g9_10135) (g10_10135) (g11_10135) T_10135 F_10135 (rf_W.refl _ _) (sf_weak sf_k0 (by decide) (by decide)) Cg10_10135 Cg11_10135 rfl
  exact L_10135 _ h m w 0 (pm_no) (pm_no) (pm_no) (pm_no) (pm_no) (pm_no) T (rf_G.refl [56] h) (rf_W.refl _ _) (sf_weak sf_k0 (by decide) (by decide)) rfl rfl rfl rfl rfl
