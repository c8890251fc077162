set_option maxRecDepth 100000 in
set_option maxHeartbeats 4000000 in
/-- SilentTable.sums -/
theorem cl_c105 {d : Nat} {h : pm_H} {Q : Option Value → pm_H → Prop} {a0 : Int64} {a1 : Int64}   (K : ∀ (r : Int64), Q (some (.long r)) h) : pm_R (d + 0) 105 0 [.long a0, pm_no, .long a1, pm_no, pm_no, pm_no, pm_no] [] h Q := by
  refine pm_R_op pm_M105 (pc_q := 1) (st_q := [.long 0]) rfl rfl rfl ?_
  refine pm_R_lo pm_M105 (pc_q := 3) (ls_q := [.long a0, pm_no, .long a1, pm_no, .long 0, pm_no, pm_no]) (st_q := []) rfl rfl rfl ?_
  refine pm_R_op pm_M105 (pc_q := 4) (st_q := [.int 0]) rfl rfl rfl ?_
  refine pm_R_lo pm_M105 (pc_q := 6) (ls_q := [.long a0, pm_no, .long a1, pm_no, .long 0, pm_no, .int 0]) (st_q := []) rfl rfl rfl ?_
  have L_167 : ∀ (N : Nat) (x6_167 : Int32) (y4_167 : Int64), sf_B 0 50 x6_167 → (50 - x6_167.toInt).toNat = N → pm_R (d + 0) 105 6 [.long a0, pm_no, .long a1, pm_no, .long y4_167, pm_no, .int x6_167] [] h Q := by
    intro N
    induction N using Nat.strongRecOn with
    | ind N ih_167 =>
      intro x6_167 y4_167 Bx6_167 hN_167
      refine pm_R_lo pm_M105 (pc_q := 8) rfl rfl rfl ?_
      refine pm_R_op pm_M105 (pc_q := 10) (st_q := [.int 50, .int x6_167]) rfl rfl rfl ?_
      refine pm_R_icmp pm_M105 (t := 56) (pc_q := 13) rfl rfl rfl (fun c168 => ?_) (fun c168 => ?_)
      · have B169 : sf_B 50 50 x6_167 := sf_leR c168 sf_k50 Bx6_167
        refine pm_R_lo pm_M105 (pc_q := 58) rfl rfl rfl ?_
        refine pm_R_ldc2 pm_M105 (pc_q := 61) rfl rfl rfl ?_
        refine sf_R_lany pm_M105 (pc_q := 62) (st := []) rfl rfl rfl (fun z170 => ?_)
        exact pm_R_ret pm_M105 (r := some (.long z170)) rfl rfl (K z170)
      · have B171 : sf_B 0 49 x6_167 := sf_ltL (Int32.not_le.mp c168) Bx6_167 sf_k50
        refine pm_R_lo pm_M105 (pc_q := 14) rfl rfl rfl ?_
        refine pm_R_lo pm_M105 (pc_q := 16) rfl rfl rfl ?_
        refine sf_R_lany pm_M105 (pc_q := 17) (st := []) rfl rfl rfl (fun z172 => ?_)
        refine pm_R_op pm_M105 (pc_q := 18) (st_q := [.long 0, .long z172]) rfl rfl rfl ?_
        refine sf_R_lcmp pm_M105 (pc_q := 19) rfl rfl (fun z173 e174 => ?_)
        refine pm_R_ifc pm_M105 (t := 56) (pc_q := 22) rfl rfl rfl (fun c175 => ?_) (fun c175 => ?_)
        · have B176 : sf_B 0 0 z173 := sf_eqL c175 sf_k0
          have B177 : lf_B 0 0 z172 := lf_eqB e174 B176 (⟨by decide, by decide⟩ : lf_B 0 0 0)
          refine pm_R_lo pm_M105 (pc_q := 58) rfl rfl rfl ?_
          refine pm_R_ldc2 pm_M105 (pc_q := 61) rfl rfl rfl ?_
          refine sf_R_lany pm_M105 (pc_q := 62) (st := []) rfl rfl rfl (fun z178 => ?_)
          exact pm_R_ret pm_M105 (r := some (.long z178)) rfl rfl (K z178)
        · have k179 := sf_lneC e174 c175
          refine pm_R_lo pm_M105 (pc_q := 23) rfl rfl rfl ?_
          refine pm_R_lo pm_M105 (pc_q := 25) rfl rfl rfl ?_
          refine sf_R_lany pm_M105 (pc_q := 26) (st := []) rfl rfl rfl (fun z180 => ?_)
          refine pm_R_op pm_M105 (pc_q := 27) (st_q := [.long 1, .long z180]) rfl rfl rfl ?_
          refine sf_R_lany pm_M105 (pc_q := 28) (st := []) rfl rfl rfl (fun z181 => ?_)
          refine pm_R_op pm_M105 (pc_q := 29) (st_q := [.long 0, .long z181]) rfl rfl rfl ?_
          refine sf_R_lcmp pm_M105 (pc_q := 30) rfl rfl (fun z182 e183 => ?_)
          refine pm_R_ifc pm_M105 (t := 50) (pc_q := 33) rfl rfl rfl (fun c184 => ?_) (fun c184 => ?_)
          · have B185 : sf_B 0 0 z182 := sf_eqL c184 sf_k0
            have B186 : lf_B 0 0 z181 := lf_eqB e183 B185 (⟨by decide, by decide⟩ : lf_B 0 0 0)
            refine sf_R_iinc pm_M105 (pc_q := 53) (ls_q := fun z => [.long a0, pm_no, .long a1, pm_no, .long y4_167, pm_no, .int z]) rfl B171 rfl (by decide) (by decide) (by decide) (fun _ => rfl) rfl (fun z187 e188 B189 => ?_)
            show pm_R _ 105 53 [.long a0, pm_no, .long a1, pm_no, .long y4_167, pm_no, .int z187] [] _ _
            refine pm_R_br pm_M105 (pc_q := 6) rfl rfl ?_
            exact ih_167 _ (sf_up hN_167 e188 B171 (by decide) (by decide)) z187 y4_167 (sf_weak B189 (by decide) (by decide)) rfl
          · have k190 := sf_lneC e183 c184
            refine pm_R_lo pm_M105 (pc_q := 35) rfl rfl rfl ?_
            refine pm_R_lo pm_M105 (pc_q := 36) rfl rfl rfl ?_
            refine pm_R_lo pm_M105 (pc_q := 38) rfl rfl rfl ?_
            refine sf_R_lany pm_M105 (pc_q := 39) (st := [.long y4_167]) rfl rfl rfl (fun z191 => ?_)
            refine pm_R_lo pm_M105 (pc_q := 40) rfl rfl rfl ?_
            refine pm_R_op pm_M105 (pc_q := 42) (st_q := [.int 50, .long a1, .long z191, .long y4_167]) rfl rfl rfl ?_
            refine pm_R_lo pm_M105 (pc_q := 44) rfl rfl rfl ?_
            refine sf_R_isub pm_M105 (pc_q := 45) rfl rfl sf_k50 B171 (by decide) (by decide) (fun z192 e193 B194 => ?_)
            refine sf_R_lany pm_M105 (pc_q := 46) (st := [.long z191, .long y4_167]) rfl rfl rfl (fun z195 => ?_)
            refine sf_R_lany pm_M105 (pc_q := 47) (st := [.long y4_167]) rfl rfl rfl (fun z196 => ?_)
            refine sf_R_lany pm_M105 (pc_q := 48) (st := []) rfl rfl rfl (fun z197 => ?_)
            refine pm_R_lo pm_M105 (pc_q := 50) (ls_q := [.long a0, pm_no, .long a1, pm_no, .long z197, pm_no, .int x6_167]) (st_q := []) rfl rfl rfl ?_
            refine sf_R_iinc pm_M105 (pc_q := 53) (ls_q := fun z => [.long a0, pm_no, .long a1, pm_no, .long z197, pm_no, .int z]) rfl B171 rfl (by decide) (by decide) (by decide) (fun _ => rfl) rfl (fun z198 e199 B200 => ?_)
            show pm_R _ 105 53 [.long a0, pm_no, .long a1, pm_no, .long z197, pm_no, .int z198] [] _ _
            refine pm_R_br pm_M105 (pc_q := 6) rfl rfl ?_
            exact ih_167 _ (sf_up hN_167 e199 B171 (by decide) (by decide)) z198 z197 (sf_weak B200 (by decide) (by decide)) rfl
  exact L_167 _ 0 0 (sf_weak sf_k0 (by decide) (by decide)) rfl

set_option maxRecDepth 100000 in
set_option maxHeartbeats 4000000 in
/-- SilentTable.mirrored -/
theorem cl_c106 {d : Nat} {h : pm_H} {Q : Option Value → pm_H → Prop} {a0 : Int64}   (K : ∀ (r : Int64), Q (some (.long r)) h) : pm_R (d + 0) 106 0 [.long a0, pm_no, pm_no, pm_no, pm_no] [] h Q := by
  refine pm_R_op pm_M106 (pc_q := 1) (st_q := [.long 0]) rfl rfl rfl ?_
  refine pm_R_lo pm_M106 (pc_q := 2) (ls_q := [.long a0, pm_no, .long 0, pm_no, pm_no]) (st_q := []) rfl rfl rfl ?_
  refine pm_R_op pm_M106 (pc_q := 3) (st_q := [.int 0]) rfl rfl rfl ?_
  refine pm_R_lo pm_M106 (pc_q := 5) (ls_q := [.long a0, pm_no, .long 0, pm_no, .int 0]) (st_q := []) rfl rfl rfl ?_
  have L_55 : ∀ (N : Nat) (x4_55 : Int32) (y2_55 : Int64), sf_B 0 50 x4_55 → (50 - x4_55.toInt).toNat = N → pm_R (d + 0) 106 5 [.long a0, pm_no, .long y2_55, pm_no, .int x4_55] [] h Q := by
    intro N
    induction N using Nat.strongRecOn with
    | ind N ih_55 =>
      intro x4_55 y2_55 Bx4_55 hN_55
      refine pm_R_lo pm_M106 (pc_q := 7) rfl rfl rfl ?_
      refine pm_R_op pm_M106 (pc_q := 9) (st_q := [.int 50, .int x4_55]) rfl rfl rfl ?_
      refine pm_R_icmp pm_M106 (t := 29) (pc_q := 12) rfl rfl rfl (fun c56 => ?_) (fun c56 => ?_)
      · have B57 : sf_B 50 50 x4_55 := sf_leR c56 sf_k50 Bx4_55
        refine pm_R_lo pm_M106 (pc_q := 30) rfl rfl rfl ?_
        exact pm_R_ret pm_M106 (r := some (.long y2_55)) rfl rfl (K y2_55)
      · have B58 : sf_B 0 49 x4_55 := sf_ltL (Int32.not_le.mp c56) Bx4_55 sf_k50
        refine pm_R_lo pm_M106 (pc_q := 13) rfl rfl rfl ?_
        refine pm_R_op pm_M106 (pc_q := 14) (st_q := [.int 1, .long y2_55]) rfl rfl rfl ?_
        refine sf_R_lany pm_M106 (pc_q := 15) (st := []) rfl rfl rfl (fun z59 => ?_)
        refine pm_R_lo pm_M106 (pc_q := 16) rfl rfl rfl ?_
        refine pm_R_lo pm_M106 (pc_q := 18) rfl rfl rfl ?_
        refine sf_R_lany pm_M106 (pc_q := 19) (st := [.long z59]) rfl rfl rfl (fun z60 => ?_)
        refine pm_R_op pm_M106 (pc_q := 20) (st_q := [.long 1, .long z60, .long z59]) rfl rfl rfl ?_
        refine sf_R_lany pm_M106 (pc_q := 21) (st := [.long z59]) rfl rfl rfl (fun z61 => ?_)
        refine sf_R_lany pm_M106 (pc_q := 22) (st := []) rfl rfl rfl (fun z62 => ?_)
        refine pm_R_lo pm_M106 (pc_q := 23) (ls_q := [.long a0, pm_no, .long z62, pm_no, .int x4_55]) (st_q := []) rfl rfl rfl ?_
        refine sf_R_iinc pm_M106 (pc_q := 26) (ls_q := fun z => [.long a0, pm_no, .long z62, pm_no, .int z]) rfl B58 rfl (by decide) (by decide) (by decide) (fun _ => rfl) rfl (fun z63 e64 B65 => ?_)
        show pm_R _ 106 26 [.long a0, pm_no, .long z62, pm_no, .int z63] [] _ _
        refine pm_R_br pm_M106 (pc_q := 5) rfl rfl ?_
        exact ih_55 _ (sf_up hN_55 e64 B58 (by decide) (by decide)) z63 z62 (sf_weak B65 (by decide) (by decide)) rfl
  exact L_55 _ 0 0 (sf_weak sf_k0 (by decide) (by decide)) rfl

set_option maxRecDepth 100000 in
set_option maxHeartbeats 4000000 in
/-- SilentTable.countOrOne -/
theorem cl_c107 {d : Nat} {h : pm_H} {Q : Option Value → pm_H → Prop} {a0 : Int64} {a1 : Int32}   (K : ∀ (r : Int32), sf_B (-2) 127 r → Q (some (.int r)) h) : pm_R (d + 1) 107 0 [.long a0, pm_no, .int a1, pm_no, pm_no, pm_no] [] h Q := by
  refine pm_R_lo pm_M107 (pc_q := 1) rfl rfl rfl ?_
  refine pm_R_cs pm_M107 (pc_q := 4) (ra := [.long a0]) (rest := []) (ls_q := [.long a0, pm_no]) rfl rfl (Or.inl rfl) pm_M108 rfl rfl (Nat.le_of_ble_eq_true rfl) rfl rfl ?_
  refine pm_R_lo pm_M108 (pc_q := 1) rfl rfl rfl ?_
  refine pm_R_lo pm_M108 (pc_q := 2) rfl rfl rfl ?_
  refine pm_R_op pm_M108 (pc_q := 3) (st_q := [.int 1, .long a0, .long a0]) rfl rfl rfl ?_
  refine sf_R_lany pm_M108 (pc_q := 4) (st := [.long a0]) rfl rfl rfl (fun z1 => ?_)
  refine pm_R_ldc2 pm_M108 (pc_q := 7) rfl rfl rfl ?_
  refine sf_R_lany pm_M108 (pc_q := 8) (st := [.long a0]) rfl rfl rfl (fun z2 => ?_)
  refine sf_R_lany pm_M108 (pc_q := 9) (st := []) rfl rfl rfl (fun z3 => ?_)
  refine pm_R_lo pm_M108 (pc_q := 10) (ls_q := [.long z3, pm_no]) (st_q := []) rfl rfl rfl ?_
  refine pm_R_lo pm_M108 (pc_q := 11) rfl rfl rfl ?_
  refine pm_R_ldc2 pm_M108 (pc_q := 14) rfl rfl rfl ?_
  refine sf_R_lany pm_M108 (pc_q := 15) (st := []) rfl rfl rfl (fun z4 => ?_)
  refine pm_R_lo pm_M108 (pc_q := 16) rfl rfl rfl ?_
  refine pm_R_op pm_M108 (pc_q := 17) (st_q := [.int 2, .long z3, .long z4]) rfl rfl rfl ?_
  refine sf_R_lany pm_M108 (pc_q := 18) (st := [.long z4]) rfl rfl rfl (fun z5 => ?_)
  refine pm_R_ldc2 pm_M108 (pc_q := 21) rfl rfl rfl ?_
  refine sf_R_lany pm_M108 (pc_q := 22) (st := [.long z4]) rfl rfl rfl (fun z6 => ?_)
  refine sf_R_lany pm_M108 (pc_q := 23) (st := []) rfl rfl rfl (fun z7 => ?_)
  refine pm_R_lo pm_M108 (pc_q := 24) (ls_q := [.long z7, pm_no]) (st_q := []) rfl rfl rfl ?_
  refine pm_R_lo pm_M108 (pc_q := 25) rfl rfl rfl ?_
  refine pm_R_lo pm_M108 (pc_q := 26) rfl rfl rfl ?_
  refine pm_R_op pm_M108 (pc_q := 27) (st_q := [.int 4, .long z7, .long z7]) rfl rfl rfl ?_
  refine sf_R_lany pm_M108 (pc_q := 28) (st := [.long z7]) rfl rfl rfl (fun z8 => ?_)
  refine sf_R_lany pm_M108 (pc_q := 29) (st := []) rfl rfl rfl (fun z9 => ?_)
  refine pm_R_ldc2 pm_M108 (pc_q := 32) rfl rfl rfl ?_
  refine sf_R_lany pm_M108 (pc_q := 33) (st := []) rfl rfl rfl (fun z10 => ?_)
  refine pm_R_lo pm_M108 (pc_q := 34) (ls_q := [.long z10, pm_no]) (st_q := []) rfl rfl rfl ?_
  refine pm_R_lo pm_M108 (pc_q := 35) rfl rfl rfl ?_
  refine pm_R_lo pm_M108 (pc_q := 36) rfl rfl rfl ?_
  refine pm_R_op pm_M108 (pc_q := 38) (st_q := [.int 8, .long z10, .long z10]) rfl rfl rfl ?_
  refine sf_R_lany pm_M108 (pc_q := 39) (st := [.long z10]) rfl rfl rfl (fun z11 => ?_)
  refine sf_R_lany pm_M108 (pc_q := 40) (st := []) rfl rfl rfl (fun z12 => ?_)
  refine pm_R_lo pm_M108 (pc_q := 41) (ls_q := [.long z12, pm_no]) (st_q := []) rfl rfl rfl ?_
  refine pm_R_lo pm_M108 (pc_q := 42) rfl rfl rfl ?_
  refine pm_R_lo pm_M108 (pc_q := 43) rfl rfl rfl ?_
  refine pm_R_op pm_M108 (pc_q := 45) (st_q := [.int 16, .long z12, .long z12]) rfl rfl rfl ?_
  refine sf_R_lany pm_M108 (pc_q := 46) (st := [.long z12]) rfl rfl rfl (fun z13 => ?_)
  refine sf_R_lany pm_M108 (pc_q := 47) (st := []) rfl rfl rfl (fun z14 => ?_)
  refine pm_R_lo pm_M108 (pc_q := 48) (ls_q := [.long z14, pm_no]) (st_q := []) rfl rfl rfl ?_
  refine pm_R_lo pm_M108 (pc_q := 49) rfl rfl rfl ?_
  refine pm_R_lo pm_M108 (pc_q := 50) rfl rfl rfl ?_
  refine pm_R_op pm_M108 (pc_q := 52) (st_q := [.int 32, .long z14, .long z14]) rfl rfl rfl ?_
  refine sf_R_lany pm_M108 (pc_q := 53) (st := [.long z14]) rfl rfl rfl (fun z15 => ?_)
  refine sf_R_lany pm_M108 (pc_q := 54) (st := []) rfl rfl rfl (fun z16 => ?_)
  refine pm_R_lo pm_M108 (pc_q := 55) (ls_q := [.long z16, pm_no]) (st_q := []) rfl rfl rfl ?_
  refine pm_R_lo pm_M108 (pc_q := 56) rfl rfl rfl ?_
  refine sf_R_iany pm_M108 (pc_q := 57) (st := []) rfl rfl rfl (fun z17 => ?_)
  refine pm_R_op pm_M108 (pc_q := 59) (st_q := [.int 127, .int z17]) rfl rfl rfl ?_
  refine sf_R_iandE pm_M108 (pc_q := 60) rfl rfl sf_k127 (by decide) (fun z18 e19 B20 => ?_)
  refine pm_R_ret pm_M108 (r := some (.int z18)) rfl (pm_ret_i _) ?_
  show pm_R _ 107 4 [.long a0, pm_no, .int a1, pm_no, pm_no, pm_no] [.int z18] _ _
  refine pm_R_lo pm_M107 (pc_q := 5) (ls_q := [.long a0, pm_no, .int a1, .int z18, pm_no, pm_no]) (st_q := []) rfl rfl rfl ?_
  refine pm_R_lo pm_M107 (pc_q := 6) rfl rfl rfl ?_
  refine pm_R_op pm_M107 (pc_q := 7) (st_q := [.int (-1), .int a1]) rfl rfl rfl ?_
  refine pm_R_icmp pm_M107 (t := 12) (pc_q := 10) rfl rfl rfl (fun c21 => ?_) (fun c21 => ?_)
  · skip
    refine pm_R_lo pm_M107 (pc_q := 13) rfl rfl rfl ?_
    refine pm_R_ifc pm_M107 (t := 21) (pc_q := 16) rfl rfl rfl (fun c22 => ?_) (fun c22 => ?_)
    · have B23 : sf_B (-2147483648) (-1) a1 := sf_ltL c22 (sf_any a1) sf_k0
      refine pm_R_op pm_M107 (pc_q := 23) (st_q := [.int (-2)]) rfl rfl rfl ?_
      exact pm_R_ret pm_M107 (r := some (.int (-2))) rfl rfl (K (-2) (sf_weak sf_kn2 (by decide) (by decide)))
    · have B24 : sf_B 0 2147483647 a1 := sf_leR (Int32.not_lt.mp c22) sf_k0 (sf_any a1)
      refine pm_R_lo pm_M107 (pc_q := 17) rfl rfl rfl ?_
      refine pm_R_lo pm_M107 (pc_q := 18) rfl rfl rfl ?_
      refine pm_R_icmp pm_M107 (t := 24) (pc_q := 21) rfl rfl rfl (fun c25 => ?_) (fun c25 => ?_)
      · have B26 : sf_B 0 126 a1 := sf_ltL c25 B24 B20
        have B27 : sf_B 1 127 z18 := sf_ltR c25 B24 B20
        refine pm_R_op pm_M107 (pc_q := 25) (st_q := [.int 0]) rfl rfl rfl ?_
        refine pm_R_lo pm_M107 (pc_q := 27) (ls_q := [.long a0, pm_no, .int a1, .int z18, .int 0, pm_no]) (st_q := []) rfl rfl rfl ?_
        refine pm_R_op pm_M107 (pc_q := 28) (st_q := [.int 0]) rfl rfl rfl ?_
        refine pm_R_lo pm_M107 (pc_q := 30) (ls_q := [.long a0, pm_no, .int a1, .int z18, .int 0, .int 0]) (st_q := []) rfl rfl rfl ?_
        have L_207 : ∀ (N : Nat) (x4_207 : Int32) (x5_207 : Int32), sf_B (-2147483648) 2147483647 x4_207 → sf_B 0 50 x5_207 → (50 - x5_207.toInt).toNat = N → pm_R (d + 1) 107 30 [.long a0, pm_no, .int a1, .int z18, .int x4_207, .int x5_207] [] h Q := by
          intro N
          induction N using Nat.strongRecOn with
          | ind N ih_207 =>
            intro x4_207 x5_207 Bx4_207 Bx5_207 hN_207
            refine pm_R_lo pm_M107 (pc_q := 32) rfl rfl rfl ?_
            refine pm_R_op pm_M107 (pc_q := 34) (st_q := [.int 50, .int x5_207]) rfl rfl rfl ?_
            refine pm_R_icmp pm_M107 (t := 66) (pc_q := 37) rfl rfl rfl (fun c208 => ?_) (fun c208 => ?_)
            · have B209 : sf_B 50 50 x5_207 := sf_leR c208 sf_k50 Bx5_207
              refine pm_R_op pm_M107 (pc_q := 68) (st_q := [.int (-2)]) rfl rfl rfl ?_
              exact pm_R_ret pm_M107 (r := some (.int (-2))) rfl rfl (K (-2) (sf_weak sf_kn2 (by decide) (by decide)))
            · have B210 : sf_B 0 49 x5_207 := sf_ltL (Int32.not_le.mp c208) Bx5_207 sf_k50
              refine pm_R_lo pm_M107 (pc_q := 38) rfl rfl rfl ?_
              refine pm_R_lo pm_M107 (pc_q := 40) rfl rfl rfl ?_
              refine sf_R_lany pm_M107 (pc_q := 41) (st := []) rfl rfl rfl (fun z211 => ?_)
              refine pm_R_op pm_M107 (pc_q := 42) (st_q := [.long 1, .long z211]) rfl rfl rfl ?_
              refine sf_R_lany pm_M107 (pc_q := 43) (st := []) rfl rfl rfl (fun z212 => ?_)
              refine pm_R_op pm_M107 (pc_q := 44) (st_q := [.long 0, .long z212]) rfl rfl rfl ?_
              refine sf_R_lcmp pm_M107 (pc_q := 45) rfl rfl (fun z213 e214 => ?_)
              refine pm_R_ifc pm_M107 (t := 60) (pc_q := 48) rfl rfl rfl (fun c215 => ?_) (fun c215 => ?_)
              · have B216 : sf_B 0 0 z213 := sf_eqL c215 sf_k0
                have B217 : lf_B 0 0 z212 := lf_eqB e214 B216 (⟨by decide, by decide⟩ : lf_B 0 0 0)
                refine sf_R_iinc pm_M107 (pc_q := 63) (ls_q := fun z => [.long a0, pm_no, .int a1, .int z18, .int x4_207, .int z]) rfl B210 rfl (by decide) (by decide) (by decide) (fun _ => rfl) rfl (fun z218 e219 B220 => ?_)
                show pm_R _ 107 63 [.long a0, pm_no, .int a1, .int z18, .int x4_207, .int z218] [] _ _
                refine pm_R_br pm_M107 (pc_q := 30) rfl rfl ?_
                exact ih_207 _ (sf_up hN_207 e219 B210 (by decide) (by decide)) x4_207 z218 Bx4_207 (sf_weak B220 (by decide) (by decide)) rfl
              · have k221 := sf_lneC e214 c215
                refine pm_R_lo pm_M107 (pc_q := 50) rfl rfl rfl ?_
                refine pm_R_lo pm_M107 (pc_q := 51) rfl rfl rfl ?_
                refine pm_R_icmp pm_M107 (t := 57) (pc_q := 54) rfl rfl rfl (fun c222 => ?_) (fun c222 => ?_)
                · skip
                  refine sf_R_iincA pm_M107 (pc_q := 60) (ls_q := fun z => [.long a0, pm_no, .int a1, .int z18, .int z, .int x5_207]) rfl rfl (fun _ => rfl) rfl (fun z223 => ?_)
                  show pm_R _ 107 60 [.long a0, pm_no, .int a1, .int z18, .int z223, .int x5_207] [] _ _
                  refine sf_R_iinc pm_M107 (pc_q := 63) (ls_q := fun z => [.long a0, pm_no, .int a1, .int z18, .int z223, .int z]) rfl B210 rfl (by decide) (by decide) (by decide) (fun _ => rfl) rfl (fun z224 e225 B226 => ?_)
                  show pm_R _ 107 63 [.long a0, pm_no, .int a1, .int z18, .int z223, .int z224] [] _ _
                  refine pm_R_br pm_M107 (pc_q := 30) rfl rfl ?_
                  exact ih_207 _ (sf_up hN_207 e225 B210 (by decide) (by decide)) z223 z224 (sf_any z223) (sf_weak B226 (by decide) (by decide)) rfl
                · have B227 : sf_B 0 126 x4_207 := sf_eqL (Classical.not_not.mp c222) B26
                  refine pm_R_lo pm_M107 (pc_q := 56) rfl rfl rfl ?_
                  exact pm_R_ret pm_M107 (r := some (.int x5_207)) rfl (pm_ret_i _) (K x5_207 (sf_weak B210 (by decide) (by decide)))
        exact L_207 _ 0 0 (sf_weak sf_k0 (by decide) (by decide)) (sf_weak sf_k0 (by decide) (by decide)) rfl
      · skip
        refine pm_R_op pm_M107 (pc_q := 23) (st_q := [.int (-2)]) rfl rfl rfl ?_
        exact pm_R_ret pm_M107 (r := some (.int (-2))) rfl rfl (K (-2) (sf_weak sf_kn2 (by decide) (by decide)))
  · have B228 : sf_B (-1) (-1) a1 := sf_eqL (Classical.not_not.mp c21) sf_kn1
    refine pm_R_lo pm_M107 (pc_q := 11) rfl rfl rfl ?_
    exact pm_R_ret pm_M107 (r := some (.int z18)) rfl (pm_ret_i _) (K z18 (sf_weak B20 (by decide) (by decide)))

set_option maxRecDepth 100000 in
set_option maxHeartbeats 4000000 in
/-- SilentTable.times -/
theorem cl_c77 {d : Nat} {h : pm_H} {Q : Option Value → pm_H → Prop} {a0 : Int64} {a1 : Int64}   (K : ∀ (r : Int64), Q (some (.long r)) h) : pm_R (d + 0) 77 0 [.long a0, pm_no, .long a1, pm_no] [] h Q := by
  refine pm_R_lo pm_M77 (pc_q := 1) rfl rfl rfl ?_
  refine pm_R_op pm_M77 (pc_q := 2) (st_q := [.long 0, .long a0]) rfl rfl rfl ?_
  refine sf_R_lcmp pm_M77 (pc_q := 3) rfl rfl (fun z1 e2 => ?_)
  refine pm_R_ifc pm_M77 (t := 12) (pc_q := 6) rfl rfl rfl (fun c3 => ?_) (fun c3 => ?_)
  · have B4 : sf_B 0 0 z1 := sf_eqL c3 sf_k0
    have B5 : lf_B 0 0 a0 := lf_eqB e2 B4 (⟨by decide, by decide⟩ : lf_B 0 0 0)
    refine pm_R_op pm_M77 (pc_q := 13) (st_q := [.long 0]) rfl rfl rfl ?_
    exact pm_R_ret pm_M77 (r := some (.long 0)) rfl rfl (K 0)
  · have k6 := sf_lneC e2 c3
    refine pm_R_lo pm_M77 (pc_q := 7) rfl rfl rfl ?_
    refine pm_R_op pm_M77 (pc_q := 8) (st_q := [.long 0, .long a1]) rfl rfl rfl ?_
    refine sf_R_lcmp pm_M77 (pc_q := 9) rfl rfl (fun z7 e8 => ?_)
    refine pm_R_ifc pm_M77 (t := 14) (pc_q := 12) rfl rfl rfl (fun c9 => ?_) (fun c9 => ?_)
    · have k10 := sf_lneC e8 c9
      refine pm_R_lo pm_M77 (pc_q := 15) rfl rfl rfl ?_
      refine pm_R_ldc2 pm_M77 (pc_q := 18) rfl rfl rfl ?_
      refine sf_R_lcmp pm_M77 (pc_q := 19) rfl rfl (fun z11 e12 => ?_)
      refine pm_R_ifc pm_M77 (t := 40) (pc_q := 22) rfl rfl rfl (fun c13 => ?_) (fun c13 => ?_)
      · have B14 : sf_B 0 0 z11 := sf_eqL c13 sf_k0
        have B15 : lf_B (-1) (-1) a0 := lf_eqB e12 B14 (⟨by decide, by decide⟩ : lf_B (-1) (-1) (-1))
        refine pm_R_ldc2 pm_M77 (pc_q := 43) rfl rfl rfl ?_
        exact pm_R_ret pm_M77 (r := some (.long (-1))) rfl rfl (K (-1))
      · have k16 := sf_lneC e12 c13
        refine pm_R_lo pm_M77 (pc_q := 23) rfl rfl rfl ?_
        refine pm_R_ldc2 pm_M77 (pc_q := 26) rfl rfl rfl ?_
        refine sf_R_lcmp pm_M77 (pc_q := 27) rfl rfl (fun z17 e18 => ?_)
        refine pm_R_ifc pm_M77 (t := 40) (pc_q := 30) rfl rfl rfl (fun c19 => ?_) (fun c19 => ?_)
        · have B20 : sf_B 0 0 z17 := sf_eqL c19 sf_k0
          have B21 : lf_B (-1) (-1) a1 := lf_eqB e18 B20 (⟨by decide, by decide⟩ : lf_B (-1) (-1) (-1))
          refine pm_R_ldc2 pm_M77 (pc_q := 43) rfl rfl rfl ?_
          exact pm_R_ret pm_M77 (r := some (.long (-1))) rfl rfl (K (-1))
        · have k22 := sf_lneC e18 c19
          refine pm_R_lo pm_M77 (pc_q := 31) rfl rfl rfl ?_
          refine pm_R_ldc2 pm_M77 (pc_q := 34) rfl rfl rfl ?_
          refine pm_R_lo pm_M77 (pc_q := 35) rfl rfl rfl ?_
          refine sf_R_ldivA pm_M77 (pc_q := 36) rfl rfl k10 (fun z23 => ?_)
          refine sf_R_lcmp pm_M77 (pc_q := 37) rfl rfl (fun z24 e25 => ?_)
          refine pm_R_ifc pm_M77 (t := 44) (pc_q := 40) rfl rfl rfl (fun c26 => ?_) (fun c26 => ?_)
          · have B27 : sf_B (-2147483648) 0 z24 := sf_leL c26 (sf_any z24) sf_k0
            refine pm_R_lo pm_M77 (pc_q := 45) rfl rfl rfl ?_
            refine pm_R_lo pm_M77 (pc_q := 46) rfl rfl rfl ?_
            refine sf_R_lany pm_M77 (pc_q := 47) (st := []) rfl rfl rfl (fun z28 => ?_)
            exact pm_R_ret pm_M77 (r := some (.long z28)) rfl rfl (K z28)
          · have B29 : sf_B 1 2147483647 z24 := sf_ltR (Int32.not_le.mp c26) sf_k0 (sf_any z24)
            have k30 := lf_ge e25 B29 (by decide)
            have k31 := sf_lneA e25 B29 (by decide)
            refine pm_R_ldc2 pm_M77 (pc_q := 43) rfl rfl rfl ?_
            exact pm_R_ret pm_M77 (r := some (.long (-1))) rfl rfl (K (-1))
    · have B32 : sf_B 0 0 z7 := sf_eqL (Classical.not_not.mp c9) sf_k0
      have B33 : lf_B 0 0 a1 := lf_eqB e8 B32 (⟨by decide, by decide⟩ : lf_B 0 0 0)
      refine pm_R_op pm_M77 (pc_q := 13) (st_q := [.long 0]) rfl rfl rfl ?_
      exact pm_R_ret pm_M77 (r := some (.long 0)) rfl rfl (K 0)

set_option maxRecDepth 100000 in
set_option maxHeartbeats 4000000 in
/-- SilentTable.plus -/
theorem cl_c78 {d : Nat} {h : pm_H} {Q : Option Value → pm_H → Prop} {a0 : Int64} {a1 : Int64}   (K : ∀ (r : Int64), Q (some (.long r)) h) : pm_R (d + 0) 78 0 [.long a0, pm_no, .long a1, pm_no] [] h Q := by
  refine pm_R_lo pm_M78 (pc_q := 1) rfl rfl rfl ?_
  refine pm_R_ldc2 pm_M78 (pc_q := 4) rfl rfl rfl ?_
  refine sf_R_lcmp pm_M78 (pc_q := 5) rfl rfl (fun z1 e2 => ?_)
  refine pm_R_ifc pm_M78 (t := 26) (pc_q := 8) rfl rfl rfl (fun c3 => ?_) (fun c3 => ?_)
  · have B4 : sf_B 0 0 z1 := sf_eqL c3 sf_k0
    have B5 : lf_B (-1) (-1) a0 := lf_eqB e2 B4 (⟨by decide, by decide⟩ : lf_B (-1) (-1) (-1))
    refine pm_R_ldc2 pm_M78 (pc_q := 29) rfl rfl rfl ?_
    exact pm_R_ret pm_M78 (r := some (.long (-1))) rfl rfl (K (-1))
  · have k6 := sf_lneC e2 c3
    refine pm_R_lo pm_M78 (pc_q := 9) rfl rfl rfl ?_
    refine pm_R_ldc2 pm_M78 (pc_q := 12) rfl rfl rfl ?_
    refine sf_R_lcmp pm_M78 (pc_q := 13) rfl rfl (fun z7 e8 => ?_)
    refine pm_R_ifc pm_M78 (t := 26) (pc_q := 16) rfl rfl rfl (fun c9 => ?_) (fun c9 => ?_)
    · have B10 : sf_B 0 0 z7 := sf_eqL c9 sf_k0
      have B11 : lf_B (-1) (-1) a1 := lf_eqB e8 B10 (⟨by decide, by decide⟩ : lf_B (-1) (-1) (-1))
      refine pm_R_ldc2 pm_M78 (pc_q := 29) rfl rfl rfl ?_
      exact pm_R_ret pm_M78 (r := some (.long (-1))) rfl rfl (K (-1))
    · have k12 := sf_lneC e8 c9
      refine pm_R_lo pm_M78 (pc_q := 17) rfl rfl rfl ?_
      refine pm_R_ldc2 pm_M78 (pc_q := 20) rfl rfl rfl ?_
      refine pm_R_lo pm_M78 (pc_q := 21) rfl rfl rfl ?_
      refine sf_R_lany pm_M78 (pc_q := 22) (st := [.long a0]) rfl rfl rfl (fun z13 => ?_)
      refine sf_R_lcmp pm_M78 (pc_q := 23) rfl rfl (fun z14 e15 => ?_)
      refine pm_R_ifc pm_M78 (t := 30) (pc_q := 26) rfl rfl rfl (fun c16 => ?_) (fun c16 => ?_)
      · have B17 : sf_B (-2147483648) 0 z14 := sf_leL c16 (sf_any z14) sf_k0
        refine pm_R_lo pm_M78 (pc_q := 31) rfl rfl rfl ?_
        refine pm_R_lo pm_M78 (pc_q := 32) rfl rfl rfl ?_
        refine sf_R_lany pm_M78 (pc_q := 33) (st := []) rfl rfl rfl (fun z18 => ?_)
        exact pm_R_ret pm_M78 (r := some (.long z18)) rfl rfl (K z18)
      · have B19 : sf_B 1 2147483647 z14 := sf_ltR (Int32.not_le.mp c16) sf_k0 (sf_any z14)
        have k20 := lf_ge e15 B19 (by decide)
        have k21 := sf_lneA e15 B19 (by decide)
        refine pm_R_ldc2 pm_M78 (pc_q := 29) rfl rfl rfl ?_
        exact pm_R_ret pm_M78 (r := some (.long (-1))) rfl rfl (K (-1))

set_option maxRecDepth 100000 in
set_option maxHeartbeats 4000000 in
/-- SilentTable.valueOf -/
theorem cl_c88_b {d : Nat} {h : pm_H} {Q : Option Value → pm_H → Prop} {a0 : Int32} {a1 : Int32} {a2 : Int32}  (Ba1 : sf_B 0 49 a1) (Ba2 : sf_B 0 49 a2) (K : ∀ (r : Int32), sf_B 0 49 r → Q (some (.int r)) h) : pm_R (d + 0) 88 0 [.int a0, .int a1, .int a2] [] h Q := by
  refine pm_R_lo pm_M88 (pc_q := 1) rfl rfl rfl ?_
  by_cases c1 : a0 < 0
  · refine pm_R_tswD pm_M88 (pc_q := 61) rfl (Or.inl (Int32.lt_iff_toInt_lt.mp c1)) rfl ?_
    have B2 : sf_B (-2147483648) (-1) a0 := sf_ltL c1 (sf_any a0) sf_k0
    refine pm_R_op pm_M88 (pc_q := 63) (st_q := [.int 49]) rfl rfl rfl ?_
    refine pm_R_lo pm_M88 (pc_q := 64) rfl rfl rfl ?_
    refine sf_R_isub pm_M88 (pc_q := 65) rfl rfl sf_k49 Ba2 (by decide) (by decide) (fun z3 e4 B5 => ?_)
    exact pm_R_ret pm_M88 (r := some (.int z3)) rfl (pm_ret_i _) (K z3 B5)
  have B6 : sf_B 0 2147483647 a0 := sf_leR (Int32.not_lt.mp c1) sf_k0 (sf_any a0)
  by_cases c7 : 3 < a0
  · refine pm_R_tswD pm_M88 (pc_q := 61) rfl (Or.inr (Int32.lt_iff_toInt_lt.mp c7)) rfl ?_
    have B8 : sf_B 4 2147483647 a0 := sf_ltR c7 sf_k3 (sf_any a0)
    refine pm_R_op pm_M88 (pc_q := 63) (st_q := [.int 49]) rfl rfl rfl ?_
    refine pm_R_lo pm_M88 (pc_q := 64) rfl rfl rfl ?_
    refine sf_R_isub pm_M88 (pc_q := 65) rfl rfl sf_k49 Ba2 (by decide) (by decide) (fun z9 e10 B11 => ?_)
    exact pm_R_ret pm_M88 (r := some (.int z9)) rfl (pm_ret_i _) (K z9 B11)
  have B12 : sf_B (-2147483648) 3 a0 := sf_leL (Int32.not_lt.mp c7) (sf_any a0) sf_k3
  by_cases c13 : a0 < 0
  · refine pm_R_tswD pm_M88 (pc_q := 61) rfl (Or.inl (Int32.lt_iff_toInt_lt.mp c13)) rfl ?_
    have B14 : sf_B (-2147483648) (-1) a0 := sf_ltL c13 B12 sf_k0
    refine pm_R_op pm_M88 (pc_q := 63) (st_q := [.int 49]) rfl rfl rfl ?_
    refine pm_R_lo pm_M88 (pc_q := 64) rfl rfl rfl ?_
    refine sf_R_isub pm_M88 (pc_q := 65) rfl rfl sf_k49 Ba2 (by decide) (by decide) (fun z15 e16 B17 => ?_)
    exact pm_R_ret pm_M88 (r := some (.int z15)) rfl (pm_ret_i _) (K z15 B17)
  have B18 : sf_B 0 3 a0 := sf_leR (Int32.not_lt.mp c13) sf_k0 B12
  by_cases c19 : 3 < a0
  · refine pm_R_tswD pm_M88 (pc_q := 61) rfl (Or.inr (Int32.lt_iff_toInt_lt.mp c19)) rfl ?_
    have B20 : sf_B 4 3 a0 := sf_ltR c19 sf_k3 B12
    refine pm_R_op pm_M88 (pc_q := 63) (st_q := [.int 49]) rfl rfl rfl ?_
    refine pm_R_lo pm_M88 (pc_q := 64) rfl rfl rfl ?_
    refine sf_R_isub pm_M88 (pc_q := 65) rfl rfl sf_k49 Ba2 (by decide) (by decide) (fun z21 e22 B23 => ?_)
    exact pm_R_ret pm_M88 (r := some (.int z21)) rfl (pm_ret_i _) (K z21 B23)
  skip
  by_cases c24 : a0 = 0
  · rw [c24]
    refine pm_R_br pm_M88 (pc_q := 32) (st_q := []) rfl rfl ?_
    refine pm_R_lo pm_M88 (pc_q := 33) rfl rfl rfl ?_
    exact pm_R_ret pm_M88 (r := some (.int a1)) rfl (pm_ret_i _) (K a1 Ba1)
  have B25 : sf_B 1 3 a0 := sf_neL0 c24 sf_k0 B18
  by_cases c26 : a0 = 1
  · rw [c26]
    refine pm_R_br pm_M88 (pc_q := 34) (st_q := []) rfl rfl ?_
    refine pm_R_lo pm_M88 (pc_q := 35) rfl rfl rfl ?_
    exact pm_R_ret pm_M88 (r := some (.int a2)) rfl (pm_ret_i _) (K a2 Ba2)
  have B27 : sf_B 2 3 a0 := sf_neL0 c26 sf_k1 B25
  by_cases c28 : a0 = 2
  · rw [c28]
    refine pm_R_br pm_M88 (pc_q := 36) (st_q := []) rfl rfl ?_
    refine pm_R_lo pm_M88 (pc_q := 37) rfl rfl rfl ?_
    refine pm_R_lo pm_M88 (pc_q := 38) rfl rfl rfl ?_
    refine sf_R_iadd pm_M88 (pc_q := 39) rfl rfl Ba1 Ba2 (by decide) (by decide) (fun z29 e30 B31 => ?_)
    refine pm_R_op pm_M88 (pc_q := 41) (st_q := [.int 50, .int z29]) rfl rfl rfl ?_
    refine sf_R_irem pm_M88 (pc_q := 42) rfl rfl B31 sf_k50 (by decide) (by decide) (fun z32 e33 B34 => ?_)
    exact pm_R_ret pm_M88 (r := some (.int z32)) rfl (pm_ret_i _) (K z32 B34)
  have B35 : sf_B 3 3 a0 := sf_neL0 c28 sf_k2 B27
  rw [sf_pt2 B35 sf_k3]
  refine pm_R_br pm_M88 (pc_q := 43) (st_q := []) rfl rfl ?_
  refine pm_R_lo pm_M88 (pc_q := 44) rfl rfl rfl ?_
  refine pm_R_lo pm_M88 (pc_q := 45) rfl rfl rfl ?_
  refine pm_R_icmp pm_M88 (t := 57) (pc_q := 48) rfl rfl rfl (fun c36 => ?_) (fun c36 => ?_)
  · skip
    refine pm_R_lo pm_M88 (pc_q := 58) rfl rfl rfl ?_
    refine pm_R_lo pm_M88 (pc_q := 59) rfl rfl rfl ?_
    refine sf_R_isub pm_M88 (pc_q := 60) rfl rfl Ba1 Ba2 (by decide) (by decide) (fun z37 e38 B39 => ?_)
    have B40 : sf_B 0 49 z37 := sf_subP e38 c36 B39
    exact pm_R_ret pm_M88 (r := some (.int z37)) rfl (pm_ret_i _) (K z37 B40)
  · have B41 : sf_B 0 48 a1 := sf_ltL (Int32.not_le.mp c36) Ba1 Ba2
    have B42 : sf_B 1 49 a2 := sf_ltR (Int32.not_le.mp c36) Ba1 Ba2
    refine pm_R_lo pm_M88 (pc_q := 49) rfl rfl rfl ?_
    refine pm_R_lo pm_M88 (pc_q := 50) rfl rfl rfl ?_
    refine sf_R_isub pm_M88 (pc_q := 51) rfl rfl B41 B42 (by decide) (by decide) (fun z43 e44 B45 => ?_)
    have B46 : sf_B (-49) (-1) z43 := sf_subN e44 (Int32.not_le.mp c36) B45
    refine pm_R_op pm_M88 (pc_q := 53) (st_q := [.int 50, .int z43]) rfl rfl rfl ?_
    refine sf_R_iadd pm_M88 (pc_q := 54) rfl rfl B46 sf_k50 (by decide) (by decide) (fun z47 e48 B49 => ?_)
    refine pm_R_br pm_M88 (pc_q := 60) rfl rfl ?_
    exact pm_R_ret pm_M88 (r := some (.int z47)) rfl (pm_ret_i _) (K z47 (sf_weak B49 (by decide) (by decide)))

set_option maxRecDepth 100000 in
set_option maxHeartbeats 4000000 in
/-- SilentTable.valueOf -/
theorem cl_c88_u {d : Nat} {h : pm_H} {Q : Option Value → pm_H → Prop} {a0 : Int32} {a1 : Int32} {a2 : Int32}   (K : ∀ (r : Int32), Q (some (.int r)) h) : pm_R (d + 0) 88 0 [.int a0, .int a1, .int a2] [] h Q := by
  refine pm_R_lo pm_M88 (pc_q := 1) rfl rfl rfl ?_
  by_cases c1 : a0 < 0
  · refine pm_R_tswD pm_M88 (pc_q := 61) rfl (Or.inl (Int32.lt_iff_toInt_lt.mp c1)) rfl ?_
    have B2 : sf_B (-2147483648) (-1) a0 := sf_ltL c1 (sf_any a0) sf_k0
    refine pm_R_op pm_M88 (pc_q := 63) (st_q := [.int 49]) rfl rfl rfl ?_
    refine pm_R_lo pm_M88 (pc_q := 64) rfl rfl rfl ?_
    refine sf_R_iany pm_M88 (pc_q := 65) (st := []) rfl rfl rfl (fun z6 => ?_)
    exact pm_R_ret pm_M88 (r := some (.int z6)) rfl (pm_ret_i _) (K z6)
  have B7 : sf_B 0 2147483647 a0 := sf_leR (Int32.not_lt.mp c1) sf_k0 (sf_any a0)
  by_cases c8 : 3 < a0
  · refine pm_R_tswD pm_M88 (pc_q := 61) rfl (Or.inr (Int32.lt_iff_toInt_lt.mp c8)) rfl ?_
    have B9 : sf_B 4 2147483647 a0 := sf_ltR c8 sf_k3 (sf_any a0)
    refine pm_R_op pm_M88 (pc_q := 63) (st_q := [.int 49]) rfl rfl rfl ?_
    refine pm_R_lo pm_M88 (pc_q := 64) rfl rfl rfl ?_
    refine sf_R_iany pm_M88 (pc_q := 65) (st := []) rfl rfl rfl (fun z13 => ?_)
    exact pm_R_ret pm_M88 (r := some (.int z13)) rfl (pm_ret_i _) (K z13)
  have B14 : sf_B (-2147483648) 3 a0 := sf_leL (Int32.not_lt.mp c8) (sf_any a0) sf_k3
  by_cases c15 : a0 < 0
  · refine pm_R_tswD pm_M88 (pc_q := 61) rfl (Or.inl (Int32.lt_iff_toInt_lt.mp c15)) rfl ?_
    have B16 : sf_B (-2147483648) (-1) a0 := sf_ltL c15 B14 sf_k0
    refine pm_R_op pm_M88 (pc_q := 63) (st_q := [.int 49]) rfl rfl rfl ?_
    refine pm_R_lo pm_M88 (pc_q := 64) rfl rfl rfl ?_
    refine sf_R_iany pm_M88 (pc_q := 65) (st := []) rfl rfl rfl (fun z20 => ?_)
    exact pm_R_ret pm_M88 (r := some (.int z20)) rfl (pm_ret_i _) (K z20)
  have B21 : sf_B 0 3 a0 := sf_leR (Int32.not_lt.mp c15) sf_k0 B14
  by_cases c22 : 3 < a0
  · refine pm_R_tswD pm_M88 (pc_q := 61) rfl (Or.inr (Int32.lt_iff_toInt_lt.mp c22)) rfl ?_
    have B23 : sf_B 4 3 a0 := sf_ltR c22 sf_k3 B14
    refine pm_R_op pm_M88 (pc_q := 63) (st_q := [.int 49]) rfl rfl rfl ?_
    refine pm_R_lo pm_M88 (pc_q := 64) rfl rfl rfl ?_
    refine sf_R_iany pm_M88 (pc_q := 65) (st := []) rfl rfl rfl (fun z27 => ?_)
    exact pm_R_ret pm_M88 (r := some (.int z27)) rfl (pm_ret_i _) (K z27)
  skip
  by_cases c28 : a0 = 0
  · rw [c28]
    refine pm_R_br pm_M88 (pc_q := 32) (st_q := []) rfl rfl ?_
    refine pm_R_lo pm_M88 (pc_q := 33) rfl rfl rfl ?_
    exact pm_R_ret pm_M88 (r := some (.int a1)) rfl (pm_ret_i _) (K a1)
  have B29 : sf_B 1 3 a0 := sf_neL0 c28 sf_k0 B21
  by_cases c30 : a0 = 1
  · rw [c30]
    refine pm_R_br pm_M88 (pc_q := 34) (st_q := []) rfl rfl ?_
    refine pm_R_lo pm_M88 (pc_q := 35) rfl rfl rfl ?_
    exact pm_R_ret pm_M88 (r := some (.int a2)) rfl (pm_ret_i _) (K a2)
  have B31 : sf_B 2 3 a0 := sf_neL0 c30 sf_k1 B29
  by_cases c32 : a0 = 2
  · rw [c32]
    refine pm_R_br pm_M88 (pc_q := 36) (st_q := []) rfl rfl ?_
    refine pm_R_lo pm_M88 (pc_q := 37) rfl rfl rfl ?_
    refine pm_R_lo pm_M88 (pc_q := 38) rfl rfl rfl ?_
    refine sf_R_iany pm_M88 (pc_q := 39) (st := []) rfl rfl rfl (fun z36 => ?_)
    refine pm_R_op pm_M88 (pc_q := 41) (st_q := [.int 50, .int z36]) rfl rfl rfl ?_
    refine sf_R_iremA pm_M88 (pc_q := 42) rfl rfl (sf_neq1 sf_k50 sf_k0 (by decide)) (fun z37 => ?_)
    exact pm_R_ret pm_M88 (r := some (.int z37)) rfl (pm_ret_i _) (K z37)
  have B40 : sf_B 3 3 a0 := sf_neL0 c32 sf_k2 B31
  rw [sf_pt2 B40 sf_k3]
  refine pm_R_br pm_M88 (pc_q := 43) (st_q := []) rfl rfl ?_
  refine pm_R_lo pm_M88 (pc_q := 44) rfl rfl rfl ?_
  refine pm_R_lo pm_M88 (pc_q := 45) rfl rfl rfl ?_
  refine pm_R_icmp pm_M88 (t := 57) (pc_q := 48) rfl rfl rfl (fun c41 => ?_) (fun c41 => ?_)
  · skip
    refine pm_R_lo pm_M88 (pc_q := 58) rfl rfl rfl ?_
    refine pm_R_lo pm_M88 (pc_q := 59) rfl rfl rfl ?_
    refine sf_R_iany pm_M88 (pc_q := 60) (st := []) rfl rfl rfl (fun z45 => ?_)
    exact pm_R_ret pm_M88 (r := some (.int z45)) rfl (pm_ret_i _) (K z45)
  · have B46 : sf_B (-2147483648) 2147483646 a1 := sf_ltL (Int32.not_le.mp c41) (sf_any a1) (sf_any a2)
    have B47 : sf_B (-2147483647) 2147483647 a2 := sf_ltR (Int32.not_le.mp c41) (sf_any a1) (sf_any a2)
    refine pm_R_lo pm_M88 (pc_q := 49) rfl rfl rfl ?_
    refine pm_R_lo pm_M88 (pc_q := 50) rfl rfl rfl ?_
    refine sf_R_iany pm_M88 (pc_q := 51) (st := []) rfl rfl rfl (fun z51 => ?_)
    refine pm_R_op pm_M88 (pc_q := 53) (st_q := [.int 50, .int z51]) rfl rfl rfl ?_
    refine sf_R_iany pm_M88 (pc_q := 54) (st := []) rfl rfl rfl (fun z55 => ?_)
    refine pm_R_br pm_M88 (pc_q := 60) rfl rfl ?_
    exact pm_R_ret pm_M88 (r := some (.int z55)) rfl (pm_ret_i _) (K z55)

set_option maxRecDepth 100000 in
set_option maxHeartbeats 4000000 in
/-- SilentTable.shortSize -/
theorem cl_c134 {d : Nat} {ck : cl_K} {E : Nat → pm_E} {m : Nat → Int32} {o : Nat → Option Nat} {h : pm_H} {Q : Option Value → pm_H → Prop} {a0 : Int32} (G : cl_G ck E) (T : cl_T ck E m o h) (Ba0 : sf_B 0 11109 a0) (K : ∀ (r : Int32), sf_B 1 4 r → Q (some (.int r)) h) : pm_R (d + 0) 134 0 [.int a0, pm_no] [] h Q := by
  refine pm_R_op pm_M134 (pc_q := 1) (st_q := [.int 1]) rfl rfl rfl ?_
  refine pm_R_lo pm_M134 (pc_q := 2) (ls_q := [.int a0, .int 1]) (st_q := []) rfl rfl rfl ?_
  have L_75 : ∀ (N : Nat) (x1_75 : Int32), sf_B 1 4 x1_75 → (4 - x1_75.toInt).toNat = N → pm_R (d + 0) 134 2 [.int a0, .int x1_75] [] h Q := by
    intro N
    induction N using Nat.strongRecOn with
    | ind N ih_75 =>
      intro x1_75 Bx1_75 hN_75
      refine pm_R_lo pm_M134 (pc_q := 3) rfl rfl rfl ?_
      refine pm_R_op pm_M134 (pc_q := 4) (st_q := [.int 4, .int x1_75]) rfl rfl rfl ?_
      refine pm_R_icmp pm_M134 (t := 24) (pc_q := 7) rfl rfl rfl (fun c76 => ?_) (fun c76 => ?_)
      · have B77 : sf_B 4 4 x1_75 := sf_leR c76 sf_k4 Bx1_75
        refine pm_R_lo pm_M134 (pc_q := 25) rfl rfl rfl ?_
        exact pm_R_ret pm_M134 (r := some (.int x1_75)) rfl (pm_ret_i _) (K x1_75 (sf_weak B77 (by decide) (by decide)))
      · have B78 : sf_B 1 3 x1_75 := sf_ltL (Int32.not_le.mp c76) Bx1_75 sf_k4
        refine pm_R_lo pm_M134 (pc_q := 8) rfl rfl rfl ?_
        refine pm_R_stat pm_M134 (pc_q := 11) rfl rfl rfl ?_
        refine pm_R_lo pm_M134 (pc_q := 12) rfl rfl rfl ?_
        refine pm_R_op pm_M134 (pc_q := 13) (st_q := [.int 1, .int x1_75, .ref 6, .int a0]) rfl rfl rfl ?_
        refine sf_R_iadd pm_M134 (pc_q := 14) rfl rfl B78 sf_k1 (by decide) (by decide) (fun z79 e80 B81 => ?_)
        obtain ⟨z82, ez83⟩ : ∃ y, pm_sv6.getD (Int32.toNatClampNeg z79) 0 = y := ⟨_, rfl⟩
        have B84 : sf_B 0 1110 z82 := ez83 ▸ cl_sv6 _
        refine pm_R_iald pm_M134 (pc_q := 15) (v := z82) rfl ((T.old (by decide)).trans G.tb6) (T.lt (by decide)) (sf_in B81 (by decide) (by decide)) ez83 rfl ?_
        refine pm_R_icmp pm_M134 (t := 24) (pc_q := 18) rfl rfl rfl (fun c85 => ?_) (fun c85 => ?_)
        · have B86 : sf_B 0 1109 a0 := sf_ltL c85 Ba0 B84
          have B87 : sf_B 1 1110 z82 := sf_ltR c85 Ba0 B84
          refine pm_R_lo pm_M134 (pc_q := 25) rfl rfl rfl ?_
          exact pm_R_ret pm_M134 (r := some (.int x1_75)) rfl (pm_ret_i _) (K x1_75 (sf_weak B78 (by decide) (by decide)))
        · skip
          refine sf_R_iinc pm_M134 (pc_q := 21) (ls_q := fun z => [.int a0, .int z]) rfl B78 rfl (by decide) (by decide) (by decide) (fun _ => rfl) rfl (fun z88 e89 B90 => ?_)
          show pm_R _ 134 21 [.int a0, .int z88] [] _ _
          refine pm_R_br pm_M134 (pc_q := 2) rfl rfl ?_
          exact ih_75 _ (sf_up hN_75 e89 B78 (by decide) (by decide)) z88 (sf_weak B90 (by decide) (by decide)) rfl
  exact L_75 _ 1 (sf_weak sf_k1 (by decide) (by decide)) rfl

theorem cl_aux0 (v0 v1 : Int) (q0 : v0 = v1 + 20) (q1 : v0 ≤ 600) : v1 ≤ 580 := by omega
theorem cl_aux1 (v0 v1 v2 v3 v4 v5 v6 v7 v8 v9 v10 v11 v12 v13 v14 v15 v16 v17 v18 v19 v20 v21 v22 v23 v24 v25 v26 v27 v28 v29 v30 v31 v32 v33 v34 v35 v36 v37 v38 v39 v40 : Int) (q0 : v0 = v1 + 1) (q1 : v2 = v0) (q2 : v3 = v2 + 1) (q3 : v4 = v3) (q4 : v5 = v4 + 1) (q5 : v6 = v5) (q6 : v7 = v6 + 1) (q7 : v8 = v7) (q8 : v9 = v8 + 1) (q9 : v10 = v9) (q10 : v11 = v10 + 1) (q11 : v12 = v11) (q12 : v13 = v12 + 1) (q13 : v14 = v13) (q14 : v15 = v14 + 1) (q15 : v16 = v15) (q16 : v17 = v16 + 1) (q17 : v18 = v17) (q18 : v19 = v18 + 1) (q19 : v20 = v19) (q20 : v21 = v20 + 1) (q21 : v22 = v21) (q22 : v23 = v22 + 1) (q23 : v24 = v23) (q24 : v25 = v24 + 1) (q25 : v26 = v25) (q26 : v27 = v26 + 1) (q27 : v28 = v27) (q28 : v29 = v28 + 1) (q29 : v30 = v29) (q30 : v31 = v30 + 1) (q31 : v32 = v31) (q32 : v33 = v32 + 1) (q33 : v34 = v33) (q34 : v35 = v34 + 1) (q35 : v36 = v35) (q36 : v37 = v36 + 1) (q37 : v38 = v37) (q38 : v39 = v38 + 1) (q39 : v40 = v39) : v40 = v1 + 20 := by omega
theorem cl_aux2 (v0 v1 : Int) (q0 : v0 = v1 + 20) (q1 : 600 < v0) : 580 < v1 := by omega
set_option maxRecDepth 100000 in
set_option maxHeartbeats 4000000 in
/-- SilentTable.feed -/
theorem cl_c7 {d : Nat} {ck : cl_K} {E : Nat → pm_E} {m : Nat → Int32} {o : Nat → Option Nat} {h : pm_H} {Q : Option Value → pm_H → Prop} {a0 : Int32} {a1 : Int32} {a2 : Int32} {a3 : Int32} {a4 : Int32} (G : cl_G ck E) (T : cl_T ck E m o h)  (K : ∀ (r : Int32) (m_q : Nat → Int32) (h_q : pm_H), cl_T ck E m_q o h_q → cl_F ck [17, 18] 0 0 h h_q → rf_W [0] m m_q → ((580 < (m 0).toInt ∧ r.toInt = -1 ∧ m_q 0 = m 0) ∨ ((m 0).toInt ≤ 580 ∧ r.toInt = (m 0).toInt + 20 ∧ (m_q 0).toInt = (m 0).toInt + 20)) → sf_B (-1) 600 r → Q (some (.int r)) h_q) : pm_R (d + 1) 7 0 [.ref 16, .int a0, .int a1, .int a2, .int a3, .int a4] [] h Q := by
  have B1 : sf_B 0 600 (m 0) := T.B 0
  refine pm_R_lo pm_M7 (pc_q := 1) rfl rfl rfl ?_
  refine pm_R_get pm_M7 (pc_q := 4) (v := .ref 17) rfl rfl T.e16 (by decide) (T.lt (by decide)) rfl rfl ?_
  refine pm_R_get pm_M7 (pc_q := 7) (v := .int (m 0)) rfl rfl T.e17 (by decide) (T.lt (by decide)) rfl rfl ?_
  refine pm_R_op pm_M7 (pc_q := 9) (st_q := [.int 20, .int (m 0)]) rfl rfl rfl ?_
  refine sf_R_iadd pm_M7 (pc_q := 10) rfl rfl B1 sf_k20 (by decide) (by decide) (fun z2 e3 B4 => ?_)
  refine pm_R_op pm_M7 (pc_q := 13) (st_q := [.int 600, .int z2]) rfl rfl rfl ?_
  refine pm_R_icmp pm_M7 (t := 18) (pc_q := 16) rfl rfl rfl (fun c5 => ?_) (fun c5 => ?_)
  · have B6 : sf_B 20 600 z2 := sf_leL c5 B4 sf_k600
    have B7 : sf_B 0 580 (m 0) := sf_addL e3 B6 sf_k20 B1
    refine pm_R_lo pm_M7 (pc_q := 19) rfl rfl rfl ?_
    refine pm_R_get pm_M7 (pc_q := 22) (v := .ref 17) rfl rfl T.e16 (by decide) (T.lt (by decide)) rfl rfl ?_
    refine pm_R_lo pm_M7 (pc_q := 23) rfl rfl rfl ?_
    refine pm_R_cv pm_M7 (pc_q := 26) (a := 17) (ra := [.int a0]) (rest := []) (ls_q := [.ref 17, .int a0, pm_no]) rfl rfl (Or.inl rfl) pm_M8 T.e17 rfl (by decide) (T.lt (by decide)) rfl rfl (Nat.le_of_ble_eq_true rfl) rfl rfl ?_
    refine pm_R_op pm_M8 (pc_q := 2) (st_q := [.int 24]) rfl rfl rfl ?_
    refine pm_R_lo pm_M8 (pc_q := 3) (ls_q := [.ref 17, .int a0, .int 24]) (st_q := []) rfl rfl rfl ?_
    refine pm_R_lo pm_M8 (pc_q := 4) rfl rfl rfl ?_
    refine pm_R_br pm_M8 (pc_q := 7) (st_q := []) rfl rfl ?_
    refine pm_R_lo pm_M8 (pc_q := 8) rfl rfl rfl ?_
    refine pm_R_get pm_M8 (pc_q := 11) (v := .int (m 0)) rfl rfl T.e17 (by decide) (T.lt (by decide)) rfl rfl ?_
    refine pm_R_op pm_M8 (pc_q := 14) (st_q := [.int 600, .int (m 0)]) rfl rfl rfl ?_
    refine pm_R_icmp pm_M8 (t := 40) (pc_q := 17) rfl rfl rfl (fun c8 => absurd c8 (sf_nle sf_k600 B7 (by decide))) (fun c8 => ?_)
    skip
    refine pm_R_lo pm_M8 (pc_q := 18) rfl rfl rfl ?_
    refine pm_R_get pm_M8 (pc_q := 21) (v := .ref 18) rfl rfl T.e17 (by decide) (T.lt (by decide)) rfl rfl ?_
    refine pm_R_lo pm_M8 (pc_q := 22) rfl rfl rfl ?_
    refine pm_R_get pm_M8 (pc_q := 25) (v := .int (m 0)) rfl rfl T.e17 (by decide) (T.lt (by decide)) rfl rfl ?_
    refine pm_R_lo pm_M8 (pc_q := 26) rfl rfl rfl ?_
    refine pm_R_lo pm_M8 (pc_q := 27) rfl rfl rfl ?_
    refine sf_R_iany pm_M8 (pc_q := 28) (st := [.int (m 0), .ref 18]) rfl rfl rfl (fun z12 => ?_)
    refine sf_R_iany pm_M8 (pc_q := 29) (st := [.int (m 0), .ref 18]) rfl rfl rfl (fun z13 => ?_)
    obtain ⟨f14, e15⟩ := T.C 18 (by decide) (by decide)
    refine cl_R_bst G pm_M8 T (pc_q := 30) rfl e15 (by decide) ⟨_, rfl⟩ (sf_in B7 (by decide) (by decide)) rfl (fun h17 T18 F19 e20 => ?_)
    have F21 := F19.cl (ck := ck) T.1
    have F22 := (cl_F.refl (ck := ck) (A := [17, 18]) (n := 0) (s := 0) T.1).trans (N := 0) (S := 0) F21 (by decide) (by decide) (by decide)
    refine pm_R_lo pm_M8 (pc_q := 31) rfl rfl rfl ?_
    refine pm_R_op pm_M8 (pc_q := 32) (st_q := [.ref 17, .ref 17]) rfl rfl rfl ?_
    refine pm_R_get pm_M8 (pc_q := 35) (v := .int (m 0)) rfl rfl T18.e17 (by decide) (T18.lt (by decide)) rfl rfl ?_
    refine pm_R_op pm_M8 (pc_q := 36) (st_q := [.int 1, .int (m 0), .ref 17]) rfl rfl rfl ?_
    refine sf_R_iadd pm_M8 (pc_q := 37) rfl rfl B7 sf_k1 (by decide) (by decide) (fun z23 e24 B25 => ?_)
    refine cl_R_put17 G pm_M8 T18 (k := 0) (pc_q := 40) rfl rfl rfl (by decide) rfl rfl (sf_weak B25 (by decide) (by decide)) rfl rfl rfl rfl rfl (fun h26 m29 em30 T27 F28 => ?_)
    have F31 := F28.cl (ck := ck) T18.1
    have F32 := F22.trans (N := 0) (S := 0) F31 (by decide) (by decide) (by decide)
    have B33 : sf_B 1 581 (m29 0) := by rw [em30]; exact B25
    have ek34 : (m29 0).toInt = (z23).toInt := by rw [em30]; rfl
    have W35 : rf_W [0] m m29 := by rw [em30]; exact (rf_W.refl [0] m).put (by decide)
    refine pm_R_lo pm_M8 (pc_q := 43) (ls_q := [.ref 17, .int a0, .int 16]) (st_q := []) rfl rfl rfl ?_
    refine pm_R_br pm_M8 (pc_q := 3) rfl rfl ?_
    refine pm_R_lo pm_M8 (pc_q := 4) rfl rfl rfl ?_
    refine pm_R_br pm_M8 (pc_q := 7) (st_q := []) rfl rfl ?_
    refine pm_R_lo pm_M8 (pc_q := 8) rfl rfl rfl ?_
    refine pm_R_get pm_M8 (pc_q := 11) (v := .int (m29 0)) rfl rfl T27.e17 (by decide) (T27.lt (by decide)) rfl rfl ?_
    refine pm_R_op pm_M8 (pc_q := 14) (st_q := [.int 600, .int (m29 0)]) rfl rfl rfl ?_
    refine pm_R_icmp pm_M8 (t := 40) (pc_q := 17) rfl rfl rfl (fun c36 => absurd c36 (sf_nle sf_k600 B33 (by decide))) (fun c36 => ?_)
    skip
    refine pm_R_lo pm_M8 (pc_q := 18) rfl rfl rfl ?_
    refine pm_R_get pm_M8 (pc_q := 21) (v := .ref 18) rfl rfl T27.e17 (by decide) (T27.lt (by decide)) rfl rfl ?_
    refine pm_R_lo pm_M8 (pc_q := 22) rfl rfl rfl ?_
    refine pm_R_get pm_M8 (pc_q := 25) (v := .int (m29 0)) rfl rfl T27.e17 (by decide) (T27.lt (by decide)) rfl rfl ?_
    refine pm_R_lo pm_M8 (pc_q := 26) rfl rfl rfl ?_
    refine pm_R_lo pm_M8 (pc_q := 27) rfl rfl rfl ?_
    refine sf_R_iany pm_M8 (pc_q := 28) (st := [.int (m29 0), .ref 18]) rfl rfl rfl (fun z40 => ?_)
    refine sf_R_iany pm_M8 (pc_q := 29) (st := [.int (m29 0), .ref 18]) rfl rfl rfl (fun z41 => ?_)
    have e42 := (F31.cell G (by decide) (by decide) e20)
    refine cl_R_bst G pm_M8 T27 (pc_q := 30) rfl e42 (by decide) ⟨_, rfl⟩ (sf_in B33 (by decide) (by decide)) rfl (fun h43 T44 F45 e46 => ?_)
    have F47 := F45.cl (ck := ck) T27.1
    have F48 := F32.trans (N := 0) (S := 0) F47 (by decide) (by decide) (by decide)
    refine pm_R_lo pm_M8 (pc_q := 31) rfl rfl rfl ?_
    refine pm_R_op pm_M8 (pc_q := 32) (st_q := [.ref 17, .ref 17]) rfl rfl rfl ?_
    refine pm_R_get pm_M8 (pc_q := 35) (v := .int (m29 0)) rfl rfl T44.e17 (by decide) (T44.lt (by decide)) rfl rfl ?_
    refine pm_R_op pm_M8 (pc_q := 36) (st_q := [.int 1, .int (m29 0), .ref 17]) rfl rfl rfl ?_
    refine sf_R_iadd pm_M8 (pc_q := 37) rfl rfl B33 sf_k1 (by decide) (by decide) (fun z49 e50 B51 => ?_)
    refine cl_R_put17 G pm_M8 T44 (k := 0) (pc_q := 40) rfl rfl rfl (by decide) rfl rfl (sf_weak B51 (by decide) (by decide)) rfl rfl rfl rfl rfl (fun h52 m55 em56 T53 F54 => ?_)
    have F57 := F54.cl (ck := ck) T44.1
    have F58 := F48.trans (N := 0) (S := 0) F57 (by decide) (by decide) (by decide)
    have B59 : sf_B 2 582 (m55 0) := by rw [em56]; exact B51
    have ek60 : (m55 0).toInt = (z49).toInt := by rw [em56]; rfl
    have W61 : rf_W [0] m m55 := by rw [em56]; exact W35.put (by decide)
    refine pm_R_lo pm_M8 (pc_q := 43) (ls_q := [.ref 17, .int a0, .int 8]) (st_q := []) rfl rfl rfl ?_
    refine pm_R_br pm_M8 (pc_q := 3) rfl rfl ?_
    refine pm_R_lo pm_M8 (pc_q := 4) rfl rfl rfl ?_
    refine pm_R_br pm_M8 (pc_q := 7) (st_q := []) rfl rfl ?_
    refine pm_R_lo pm_M8 (pc_q := 8) rfl rfl rfl ?_
    refine pm_R_get pm_M8 (pc_q := 11) (v := .int (m55 0)) rfl rfl T53.e17 (by decide) (T53.lt (by decide)) rfl rfl ?_
    refine pm_R_op pm_M8 (pc_q := 14) (st_q := [.int 600, .int (m55 0)]) rfl rfl rfl ?_
    refine pm_R_icmp pm_M8 (t := 40) (pc_q := 17) rfl rfl rfl (fun c62 => absurd c62 (sf_nle sf_k600 B59 (by decide))) (fun c62 => ?_)
    skip
    refine pm_R_lo pm_M8 (pc_q := 18) rfl rfl rfl ?_
    refine pm_R_get pm_M8 (pc_q := 21) (v := .ref 18) rfl rfl T53.e17 (by decide) (T53.lt (by decide)) rfl rfl ?_
    refine pm_R_lo pm_M8 (pc_q := 22) rfl rfl rfl ?_
    refine pm_R_get pm_M8 (pc_q := 25) (v := .int (m55 0)) rfl rfl T53.e17 (by decide) (T53.lt (by decide)) rfl rfl ?_
    refine pm_R_lo pm_M8 (pc_q := 26) rfl rfl rfl ?_
    refine pm_R_lo pm_M8 (pc_q := 27) rfl rfl rfl ?_
    refine sf_R_iany pm_M8 (pc_q := 28) (st := [.int (m55 0), .ref 18]) rfl rfl rfl (fun z66 => ?_)
    refine sf_R_iany pm_M8 (pc_q := 29) (st := [.int (m55 0), .ref 18]) rfl rfl rfl (fun z67 => ?_)
    have e68 := (F57.cell G (by decide) (by decide) e46)
    refine cl_R_bst G pm_M8 T53 (pc_q := 30) rfl e68 (by decide) ⟨_, rfl⟩ (sf_in B59 (by decide) (by decide)) rfl (fun h69 T70 F71 e72 => ?_)
    have F73 := F71.cl (ck := ck) T53.1
    have F74 := F58.trans (N := 0) (S := 0) F73 (by decide) (by decide) (by decide)
    refine pm_R_lo pm_M8 (pc_q := 31) rfl rfl rfl ?_
    refine pm_R_op pm_M8 (pc_q := 32) (st_q := [.ref 17, .ref 17]) rfl rfl rfl ?_
    refine pm_R_get pm_M8 (pc_q := 35) (v := .int (m55 0)) rfl rfl T70.e17 (by decide) (T70.lt (by decide)) rfl rfl ?_
    refine pm_R_op pm_M8 (pc_q := 36) (st_q := [.int 1, .int (m55 0), .ref 17]) rfl rfl rfl ?_
    refine sf_R_iadd pm_M8 (pc_q := 37) rfl rfl B59 sf_k1 (by decide) (by decide) (fun z75 e76 B77 => ?_)
    refine cl_R_put17 G pm_M8 T70 (k := 0) (pc_q := 40) rfl rfl rfl (by decide) rfl rfl (sf_weak B77 (by decide) (by decide)) rfl rfl rfl rfl rfl (fun h78 m81 em82 T79 F80 => ?_)
    have F83 := F80.cl (ck := ck) T70.1
    have F84 := F74.trans (N := 0) (S := 0) F83 (by decide) (by decide) (by decide)
    have B85 : sf_B 3 583 (m81 0) := by rw [em82]; exact B77
    have ek86 : (m81 0).toInt = (z75).toInt := by rw [em82]; rfl
    have W87 : rf_W [0] m m81 := by rw [em82]; exact W61.put (by decide)
    refine pm_R_lo pm_M8 (pc_q := 43) (ls_q := [.ref 17, .int a0, .int 0]) (st_q := []) rfl rfl rfl ?_
    refine pm_R_br pm_M8 (pc_q := 3) rfl rfl ?_
    refine pm_R_lo pm_M8 (pc_q := 4) rfl rfl rfl ?_
    refine pm_R_br pm_M8 (pc_q := 7) (st_q := []) rfl rfl ?_
    refine pm_R_lo pm_M8 (pc_q := 8) rfl rfl rfl ?_
    refine pm_R_get pm_M8 (pc_q := 11) (v := .int (m81 0)) rfl rfl T79.e17 (by decide) (T79.lt (by decide)) rfl rfl ?_
    refine pm_R_op pm_M8 (pc_q := 14) (st_q := [.int 600, .int (m81 0)]) rfl rfl rfl ?_
    refine pm_R_icmp pm_M8 (t := 40) (pc_q := 17) rfl rfl rfl (fun c88 => absurd c88 (sf_nle sf_k600 B85 (by decide))) (fun c88 => ?_)
    skip
    refine pm_R_lo pm_M8 (pc_q := 18) rfl rfl rfl ?_
    refine pm_R_get pm_M8 (pc_q := 21) (v := .ref 18) rfl rfl T79.e17 (by decide) (T79.lt (by decide)) rfl rfl ?_
    refine pm_R_lo pm_M8 (pc_q := 22) rfl rfl rfl ?_
    refine pm_R_get pm_M8 (pc_q := 25) (v := .int (m81 0)) rfl rfl T79.e17 (by decide) (T79.lt (by decide)) rfl rfl ?_
    refine pm_R_lo pm_M8 (pc_q := 26) rfl rfl rfl ?_
    refine pm_R_lo pm_M8 (pc_q := 27) rfl rfl rfl ?_
    refine sf_R_iany pm_M8 (pc_q := 28) (st := [.int (m81 0), .ref 18]) rfl rfl rfl (fun z92 => ?_)
    refine sf_R_iany pm_M8 (pc_q := 29) (st := [.int (m81 0), .ref 18]) rfl rfl rfl (fun z93 => ?_)
    have e94 := (F83.cell G (by decide) (by decide) e72)
    refine cl_R_bst G pm_M8 T79 (pc_q := 30) rfl e94 (by decide) ⟨_, rfl⟩ (sf_in B85 (by decide) (by decide)) rfl (fun h95 T96 F97 e98 => ?_)
    have F99 := F97.cl (ck := ck) T79.1
    have F100 := F84.trans (N := 0) (S := 0) F99 (by decide) (by decide) (by decide)
    refine pm_R_lo pm_M8 (pc_q := 31) rfl rfl rfl ?_
    refine pm_R_op pm_M8 (pc_q := 32) (st_q := [.ref 17, .ref 17]) rfl rfl rfl ?_
    refine pm_R_get pm_M8 (pc_q := 35) (v := .int (m81 0)) rfl rfl T96.e17 (by decide) (T96.lt (by decide)) rfl rfl ?_
    refine pm_R_op pm_M8 (pc_q := 36) (st_q := [.int 1, .int (m81 0), .ref 17]) rfl rfl rfl ?_
    refine sf_R_iadd pm_M8 (pc_q := 37) rfl rfl B85 sf_k1 (by decide) (by decide) (fun z101 e102 B103 => ?_)
    refine cl_R_put17 G pm_M8 T96 (k := 0) (pc_q := 40) rfl rfl rfl (by decide) rfl rfl (sf_weak B103 (by decide) (by decide)) rfl rfl rfl rfl rfl (fun h104 m107 em108 T105 F106 => ?_)
    have F109 := F106.cl (ck := ck) T96.1
    have F110 := F100.trans (N := 0) (S := 0) F109 (by decide) (by decide) (by decide)
    have B111 : sf_B 4 584 (m107 0) := by rw [em108]; exact B103
    have ek112 : (m107 0).toInt = (z101).toInt := by rw [em108]; rfl
    have W113 : rf_W [0] m m107 := by rw [em108]; exact W87.put (by decide)
    refine pm_R_lo pm_M8 (pc_q := 43) (ls_q := [.ref 17, .int a0, .int (-8)]) (st_q := []) rfl rfl rfl ?_
    refine pm_R_br pm_M8 (pc_q := 3) rfl rfl ?_
    refine pm_R_lo pm_M8 (pc_q := 4) rfl rfl rfl ?_
    refine pm_R_br pm_M8 (pc_q := 46) (st_q := []) rfl rfl ?_
    refine pm_R_ret pm_M8 (r := none) rfl rfl ?_
    show pm_R _ 7 26 [.ref 16, .int a0, .int a1, .int a2, .int a3, .int a4] [] _ _
    refine pm_R_lo pm_M7 (pc_q := 27) rfl rfl rfl ?_
    refine pm_R_get pm_M7 (pc_q := 30) (v := .ref 17) rfl rfl T105.e16 (by decide) (T105.lt (by decide)) rfl rfl ?_
    refine pm_R_lo pm_M7 (pc_q := 31) rfl rfl rfl ?_
    refine pm_R_cv pm_M7 (pc_q := 34) (a := 17) (ra := [.int a1]) (rest := []) (ls_q := [.ref 17, .int a1, pm_no]) rfl rfl (Or.inl rfl) pm_M8 T105.e17 rfl (by decide) (T105.lt (by decide)) rfl rfl (Nat.le_of_ble_eq_true rfl) rfl rfl ?_
    refine pm_R_op pm_M8 (pc_q := 2) (st_q := [.int 24]) rfl rfl rfl ?_
    refine pm_R_lo pm_M8 (pc_q := 3) (ls_q := [.ref 17, .int a1, .int 24]) (st_q := []) rfl rfl rfl ?_
    refine pm_R_lo pm_M8 (pc_q := 4) rfl rfl rfl ?_
    refine pm_R_br pm_M8 (pc_q := 7) (st_q := []) rfl rfl ?_
    refine pm_R_lo pm_M8 (pc_q := 8) rfl rfl rfl ?_
    refine pm_R_get pm_M8 (pc_q := 11) (v := .int (m107 0)) rfl rfl T105.e17 (by decide) (T105.lt (by decide)) rfl rfl ?_
    refine pm_R_op pm_M8 (pc_q := 14) (st_q := [.int 600, .int (m107 0)]) rfl rfl rfl ?_
    refine pm_R_icmp pm_M8 (t := 40) (pc_q := 17) rfl rfl rfl (fun c114 => absurd c114 (sf_nle sf_k600 B111 (by decide))) (fun c114 => ?_)
    skip
    refine pm_R_lo pm_M8 (pc_q := 18) rfl rfl rfl ?_
    refine pm_R_get pm_M8 (pc_q := 21) (v := .ref 18) rfl rfl T105.e17 (by decide) (T105.lt (by decide)) rfl rfl ?_
    refine pm_R_lo pm_M8 (pc_q := 22) rfl rfl rfl ?_
    refine pm_R_get pm_M8 (pc_q := 25) (v := .int (m107 0)) rfl rfl T105.e17 (by decide) (T105.lt (by decide)) rfl rfl ?_
    refine pm_R_lo pm_M8 (pc_q := 26) rfl rfl rfl ?_
    refine pm_R_lo pm_M8 (pc_q := 27) rfl rfl rfl ?_
    refine sf_R_iany pm_M8 (pc_q := 28) (st := [.int (m107 0), .ref 18]) rfl rfl rfl (fun z118 => ?_)
    refine sf_R_iany pm_M8 (pc_q := 29) (st := [.int (m107 0), .ref 18]) rfl rfl rfl (fun z119 => ?_)
    have e120 := (F109.cell G (by decide) (by decide) e98)
    refine cl_R_bst G pm_M8 T105 (pc_q := 30) rfl e120 (by decide) ⟨_, rfl⟩ (sf_in B111 (by decide) (by decide)) rfl (fun h121 T122 F123 e124 => ?_)
    have F125 := F123.cl (ck := ck) T105.1
    have F126 := F110.trans (N := 0) (S := 0) F125 (by decide) (by decide) (by decide)
    refine pm_R_lo pm_M8 (pc_q := 31) rfl rfl rfl ?_
    refine pm_R_op pm_M8 (pc_q := 32) (st_q := [.ref 17, .ref 17]) rfl rfl rfl ?_
    refine pm_R_get pm_M8 (pc_q := 35) (v := .int (m107 0)) rfl rfl T122.e17 (by decide) (T122.lt (by decide)) rfl rfl ?_
    refine pm_R_op pm_M8 (pc_q := 36) (st_q := [.int 1, .int (m107 0), .ref 17]) rfl rfl rfl ?_
    refine sf_R_iadd pm_M8 (pc_q := 37) rfl rfl B111 sf_k1 (by decide) (by decide) (fun z127 e128 B129 => ?_)
    refine cl_R_put17 G pm_M8 T122 (k := 0) (pc_q := 40) rfl rfl rfl (by decide) rfl rfl (sf_weak B129 (by decide) (by decide)) rfl rfl rfl rfl rfl (fun h130 m133 em134 T131 F132 => ?_)
    have F135 := F132.cl (ck := ck) T122.1
    have F136 := F126.trans (N := 0) (S := 0) F135 (by decide) (by decide) (by decide)
    have B137 : sf_B 5 585 (m133 0) := by rw [em134]; exact B129
    have ek138 : (m133 0).toInt = (z127).toInt := by rw [em134]; rfl
    have W139 : rf_W [0] m m133 := by rw [em134]; exact W113.put (by decide)
    refine pm_R_lo pm_M8 (pc_q := 43) (ls_q := [.ref 17, .int a1, .int 16]) (st_q := []) rfl rfl rfl ?_
    refine pm_R_br pm_M8 (pc_q := 3) rfl rfl ?_
    refine pm_R_lo pm_M8 (pc_q := 4) rfl rfl rfl ?_
    refine pm_R_br pm_M8 (pc_q := 7) (st_q := []) rfl rfl ?_
    refine pm_R_lo pm_M8 (pc_q := 8) rfl rfl rfl ?_
    refine pm_R_get pm_M8 (pc_q := 11) (v := .int (m133 0)) rfl rfl T131.e17 (by decide) (T131.lt (by decide)) rfl rfl ?_
    refine pm_R_op pm_M8 (pc_q := 14) (st_q := [.int 600, .int (m133 0)]) rfl rfl rfl ?_
    refine pm_R_icmp pm_M8 (t := 40) (pc_q := 17) rfl rfl rfl (fun c140 => absurd c140 (sf_nle sf_k600 B137 (by decide))) (fun c140 => ?_)
    skip
    refine pm_R_lo pm_M8 (pc_q := 18) rfl rfl rfl ?_
    refine pm_R_get pm_M8 (pc_q := 21) (v := .ref 18) rfl rfl T131.e17 (by decide) (T131.lt (by decide)) rfl rfl ?_
    refine pm_R_lo pm_M8 (pc_q := 22) rfl rfl rfl ?_
    refine pm_R_get pm_M8 (pc_q := 25) (v := .int (m133 0)) rfl rfl T131.e17 (by decide) (T131.lt (by decide)) rfl rfl ?_
    refine pm_R_lo pm_M8 (pc_q := 26) rfl rfl rfl ?_
    refine pm_R_lo pm_M8 (pc_q := 27) rfl rfl rfl ?_
    refine sf_R_iany pm_M8 (pc_q := 28) (st := [.int (m133 0), .ref 18]) rfl rfl rfl (fun z144 => ?_)
    refine sf_R_iany pm_M8 (pc_q := 29) (st := [.int (m133 0), .ref 18]) rfl rfl rfl (fun z145 => ?_)
    have e146 := (F135.cell G (by decide) (by decide) e124)
    refine cl_R_bst G pm_M8 T131 (pc_q := 30) rfl e146 (by decide) ⟨_, rfl⟩ (sf_in B137 (by decide) (by decide)) rfl (fun h147 T148 F149 e150 => ?_)
    have F151 := F149.cl (ck := ck) T131.1
    have F152 := F136.trans (N := 0) (S := 0) F151 (by decide) (by decide) (by decide)
    refine pm_R_lo pm_M8 (pc_q := 31) rfl rfl rfl ?_
    refine pm_R_op pm_M8 (pc_q := 32) (st_q := [.ref 17, .ref 17]) rfl rfl rfl ?_
    refine pm_R_get pm_M8 (pc_q := 35) (v := .int (m133 0)) rfl rfl T148.e17 (by decide) (T148.lt (by decide)) rfl rfl ?_
    refine pm_R_op pm_M8 (pc_q := 36) (st_q := [.int 1, .int (m133 0), .ref 17]) rfl rfl rfl ?_
    refine sf_R_iadd pm_M8 (pc_q := 37) rfl rfl B137 sf_k1 (by decide) (by decide) (fun z153 e154 B155 => ?_)
    refine cl_R_put17 G pm_M8 T148 (k := 0) (pc_q := 40) rfl rfl rfl (by decide) rfl rfl (sf_weak B155 (by decide) (by decide)) rfl rfl rfl rfl rfl (fun h156 m159 em160 T157 F158 => ?_)
    have F161 := F158.cl (ck := ck) T148.1
    have F162 := F152.trans (N := 0) (S := 0) F161 (by decide) (by decide) (by decide)
    have B163 : sf_B 6 586 (m159 0) := by rw [em160]; exact B155
    have ek164 : (m159 0).toInt = (z153).toInt := by rw [em160]; rfl
    have W165 : rf_W [0] m m159 := by rw [em160]; exact W139.put (by decide)
    refine pm_R_lo pm_M8 (pc_q := 43) (ls_q := [.ref 17, .int a1, .int 8]) (st_q := []) rfl rfl rfl ?_
    refine pm_R_br pm_M8 (pc_q := 3) rfl rfl ?_
    refine pm_R_lo pm_M8 (pc_q := 4) rfl rfl rfl ?_
    refine pm_R_br pm_M8 (pc_q := 7) (st_q := []) rfl rfl ?_
    refine pm_R_lo pm_M8 (pc_q := 8) rfl rfl rfl ?_
    refine pm_R_get pm_M8 (pc_q := 11) (v := .int (m159 0)) rfl rfl T157.e17 (by decide) (T157.lt (by decide)) rfl rfl ?_
    refine pm_R_op pm_M8 (pc_q := 14) (st_q := [.int 600, .int (m159 0)]) rfl rfl rfl ?_
    refine pm_R_icmp pm_M8 (t := 40) (pc_q := 17) rfl rfl rfl (fun c166 => absurd c166 (sf_nle sf_k600 B163 (by decide))) (fun c166 => ?_)
    skip
    refine pm_R_lo pm_M8 (pc_q := 18) rfl rfl rfl ?_
    refine pm_R_get pm_M8 (pc_q := 21) (v := .ref 18) rfl rfl T157.e17 (by decide) (T157.lt (by decide)) rfl rfl ?_
    refine pm_R_lo pm_M8 (pc_q := 22) rfl rfl rfl ?_
    refine pm_R_get pm_M8 (pc_q := 25) (v := .int (m159 0)) rfl rfl T157.e17 (by decide) (T157.lt (by decide)) rfl rfl ?_
    refine pm_R_lo pm_M8 (pc_q := 26) rfl rfl rfl ?_
    refine pm_R_lo pm_M8 (pc_q := 27) rfl rfl rfl ?_
    refine sf_R_iany pm_M8 (pc_q := 28) (st := [.int (m159 0), .ref 18]) rfl rfl rfl (fun z170 => ?_)
    refine sf_R_iany pm_M8 (pc_q := 29) (st := [.int (m159 0), .ref 18]) rfl rfl rfl (fun z171 => ?_)
    have e172 := (F161.cell G (by decide) (by decide) e150)
    refine cl_R_bst G pm_M8 T157 (pc_q := 30) rfl e172 (by decide) ⟨_, rfl⟩ (sf_in B163 (by decide) (by decide)) rfl (fun h173 T174 F175 e176 => ?_)
    have F177 := F175.cl (ck := ck) T157.1
    have F178 := F162.trans (N := 0) (S := 0) F177 (by decide) (by decide) (by decide)
    refine pm_R_lo pm_M8 (pc_q := 31) rfl rfl rfl ?_
    refine pm_R_op pm_M8 (pc_q := 32) (st_q := [.ref 17, .ref 17]) rfl rfl rfl ?_
    refine pm_R_get pm_M8 (pc_q := 35) (v := .int (m159 0)) rfl rfl T174.e17 (by decide) (T174.lt (by decide)) rfl rfl ?_
    refine pm_R_op pm_M8 (pc_q := 36) (st_q := [.int 1, .int (m159 0), .ref 17]) rfl rfl rfl ?_
    refine sf_R_iadd pm_M8 (pc_q := 37) rfl rfl B163 sf_k1 (by decide) (by decide) (fun z179 e180 B181 => ?_)
    refine cl_R_put17 G pm_M8 T174 (k := 0) (pc_q := 40) rfl rfl rfl (by decide) rfl rfl (sf_weak B181 (by decide) (by decide)) rfl rfl rfl rfl rfl (fun h182 m185 em186 T183 F184 => ?_)
    have F187 := F184.cl (ck := ck) T174.1
    have F188 := F178.trans (N := 0) (S := 0) F187 (by decide) (by decide) (by decide)
    have B189 : sf_B 7 587 (m185 0) := by rw [em186]; exact B181
    have ek190 : (m185 0).toInt = (z179).toInt := by rw [em186]; rfl
    have W191 : rf_W [0] m m185 := by rw [em186]; exact W165.put (by decide)
    refine pm_R_lo pm_M8 (pc_q := 43) (ls_q := [.ref 17, .int a1, .int 0]) (st_q := []) rfl rfl rfl ?_
    refine pm_R_br pm_M8 (pc_q := 3) rfl rfl ?_
    refine pm_R_lo pm_M8 (pc_q := 4) rfl rfl rfl ?_
    refine pm_R_br pm_M8 (pc_q := 7) (st_q := []) rfl rfl ?_
    refine pm_R_lo pm_M8 (pc_q := 8) rfl rfl rfl ?_
    refine pm_R_get pm_M8 (pc_q := 11) (v := .int (m185 0)) rfl rfl T183.e17 (by decide) (T183.lt (by decide)) rfl rfl ?_
    refine pm_R_op pm_M8 (pc_q := 14) (st_q := [.int 600, .int (m185 0)]) rfl rfl rfl ?_
    refine pm_R_icmp pm_M8 (t := 40) (pc_q := 17) rfl rfl rfl (fun c192 => absurd c192 (sf_nle sf_k600 B189 (by decide))) (fun c192 => ?_)
    skip
    refine pm_R_lo pm_M8 (pc_q := 18) rfl rfl rfl ?_
    refine pm_R_get pm_M8 (pc_q := 21) (v := .ref 18) rfl rfl T183.e17 (by decide) (T183.lt (by decide)) rfl rfl ?_
    refine pm_R_lo pm_M8 (pc_q := 22) rfl rfl rfl ?_
    refine pm_R_get pm_M8 (pc_q := 25) (v := .int (m185 0)) rfl rfl T183.e17 (by decide) (T183.lt (by decide)) rfl rfl ?_
    refine pm_R_lo pm_M8 (pc_q := 26) rfl rfl rfl ?_
    refine pm_R_lo pm_M8 (pc_q := 27) rfl rfl rfl ?_
    refine sf_R_iany pm_M8 (pc_q := 28) (st := [.int (m185 0), .ref 18]) rfl rfl rfl (fun z196 => ?_)
    refine sf_R_iany pm_M8 (pc_q := 29) (st := [.int (m185 0), .ref 18]) rfl rfl rfl (fun z197 => ?_)
    have e198 := (F187.cell G (by decide) (by decide) e176)
    refine cl_R_bst G pm_M8 T183 (pc_q := 30) rfl e198 (by decide) ⟨_, rfl⟩ (sf_in B189 (by decide) (by decide)) rfl (fun h199 T200 F201 e202 => ?_)
    have F203 := F201.cl (ck := ck) T183.1
    have F204 := F188.trans (N := 0) (S := 0) F203 (by decide) (by decide) (by decide)
    refine pm_R_lo pm_M8 (pc_q := 31) rfl rfl rfl ?_
    refine pm_R_op pm_M8 (pc_q := 32) (st_q := [.ref 17, .ref 17]) rfl rfl rfl ?_
    refine pm_R_get pm_M8 (pc_q := 35) (v := .int (m185 0)) rfl rfl T200.e17 (by decide) (T200.lt (by decide)) rfl rfl ?_
    refine pm_R_op pm_M8 (pc_q := 36) (st_q := [.int 1, .int (m185 0), .ref 17]) rfl rfl rfl ?_
    refine sf_R_iadd pm_M8 (pc_q := 37) rfl rfl B189 sf_k1 (by decide) (by decide) (fun z205 e206 B207 => ?_)
    refine cl_R_put17 G pm_M8 T200 (k := 0) (pc_q := 40) rfl rfl rfl (by decide) rfl rfl (sf_weak B207 (by decide) (by decide)) rfl rfl rfl rfl rfl (fun h208 m211 em212 T209 F210 => ?_)
    have F213 := F210.cl (ck := ck) T200.1
    have F214 := F204.trans (N := 0) (S := 0) F213 (by decide) (by decide) (by decide)
    have B215 : sf_B 8 588 (m211 0) := by rw [em212]; exact B207
    have ek216 : (m211 0).toInt = (z205).toInt := by rw [em212]; rfl
    have W217 : rf_W [0] m m211 := by rw [em212]; exact W191.put (by decide)
    refine pm_R_lo pm_M8 (pc_q := 43) (ls_q := [.ref 17, .int a1, .int (-8)]) (st_q := []) rfl rfl rfl ?_
    refine pm_R_br pm_M8 (pc_q := 3) rfl rfl ?_
    refine pm_R_lo pm_M8 (pc_q := 4) rfl rfl rfl ?_
    refine pm_R_br pm_M8 (pc_q := 46) (st_q := []) rfl rfl ?_
    refine pm_R_ret pm_M8 (r := none) rfl rfl ?_
    show pm_R _ 7 34 [.ref 16, .int a0, .int a1, .int a2, .int a3, .int a4] [] _ _
    refine pm_R_lo pm_M7 (pc_q := 35) rfl rfl rfl ?_
    refine pm_R_get pm_M7 (pc_q := 38) (v := .ref 17) rfl rfl T209.e16 (by decide) (T209.lt (by decide)) rfl rfl ?_
    refine pm_R_lo pm_M7 (pc_q := 39) rfl rfl rfl ?_
    refine pm_R_cv pm_M7 (pc_q := 42) (a := 17) (ra := [.int a2]) (rest := []) (ls_q := [.ref 17, .int a2, pm_no]) rfl rfl (Or.inl rfl) pm_M8 T209.e17 rfl (by decide) (T209.lt (by decide)) rfl rfl (Nat.le_of_ble_eq_true rfl) rfl rfl ?_
    refine pm_R_op pm_M8 (pc_q := 2) (st_q := [.int 24]) rfl rfl rfl ?_
    refine pm_R_lo pm_M8 (pc_q := 3) (ls_q := [.ref 17, .int a2, .int 24]) (st_q := []) rfl rfl rfl ?_
    refine pm_R_lo pm_M8 (pc_q := 4) rfl rfl rfl ?_
    refine pm_R_br pm_M8 (pc_q := 7) (st_q := []) rfl rfl ?_
    refine pm_R_lo pm_M8 (pc_q := 8) rfl rfl rfl ?_
    refine pm_R_get pm_M8 (pc_q := 11) (v := .int (m211 0)) rfl rfl T209.e17 (by decide) (T209.lt (by decide)) rfl rfl ?_
    refine pm_R_op pm_M8 (pc_q := 14) (st_q := [.int 600, .int (m211 0)]) rfl rfl rfl ?_
    refine pm_R_icmp pm_M8 (t := 40) (pc_q := 17) rfl rfl rfl (fun c218 => absurd c218 (sf_nle sf_k600 B215 (by decide))) (fun c218 => ?_)
    skip
    refine pm_R_lo pm_M8 (pc_q := 18) rfl rfl rfl ?_
    refine pm_R_get pm_M8 (pc_q := 21) (v := .ref 18) rfl rfl T209.e17 (by decide) (T209.lt (by decide)) rfl rfl ?_
    refine pm_R_lo pm_M8 (pc_q := 22) rfl rfl rfl ?_
    refine pm_R_get pm_M8 (pc_q := 25) (v := .int (m211 0)) rfl rfl T209.e17 (by decide) (T209.lt (by decide)) rfl rfl ?_
    refine pm_R_lo pm_M8 (pc_q := 26) rfl rfl rfl ?_
    refine pm_R_lo pm_M8 (pc_q := 27) rfl rfl rfl ?_
    refine sf_R_iany pm_M8 (pc_q := 28) (st := [.int (m211 0), .ref 18]) rfl rfl rfl (fun z222 => ?_)
    refine sf_R_iany pm_M8 (pc_q := 29) (st := [.int (m211 0), .ref 18]) rfl rfl rfl (fun z223 => ?_)
    have e224 := (F213.cell G (by decide) (by decide) e202)
    refine cl_R_bst G pm_M8 T209 (pc_q := 30) rfl e224 (by decide) ⟨_, rfl⟩ (sf_in B215 (by decide) (by decide)) rfl (fun h225 T226 F227 e228 => ?_)
    have F229 := F227.cl (ck := ck) T209.1
    have F230 := F214.trans (N := 0) (S := 0) F229 (by decide) (by decide) (by decide)
    refine pm_R_lo pm_M8 (pc_q := 31) rfl rfl rfl ?_
    refine pm_R_op pm_M8 (pc_q := 32) (st_q := [.ref 17, .ref 17]) rfl rfl rfl ?_
    refine pm_R_get pm_M8 (pc_q := 35) (v := .int (m211 0)) rfl rfl T226.e17 (by decide) (T226.lt (by decide)) rfl rfl ?_
    refine pm_R_op pm_M8 (pc_q := 36) (st_q := [.int 1, .int (m211 0), .ref 17]) rfl rfl rfl ?_
    refine sf_R_iadd pm_M8 (pc_q := 37) rfl rfl B215 sf_k1 (by decide) (by decide) (fun z231 e232 B233 => ?_)
    refine cl_R_put17 G pm_M8 T226 (k := 0) (pc_q := 40) rfl rfl rfl (by decide) rfl rfl (sf_weak B233 (by decide) (by decide)) rfl rfl rfl rfl rfl (fun h234 m237 em238 T235 F236 => ?_)
    have F239 := F236.cl (ck := ck) T226.1
    have F240 := F230.trans (N := 0) (S := 0) F239 (by decide) (by decide) (by decide)
    have B241 : sf_B 9 589 (m237 0) := by rw [em238]; exact B233
    have ek242 : (m237 0).toInt = (z231).toInt := by rw [em238]; rfl
    have W243 : rf_W [0] m m237 := by rw [em238]; exact W217.put (by decide)
    refine pm_R_lo pm_M8 (pc_q := 43) (ls_q := [.ref 17, .int a2, .int 16]) (st_q := []) rfl rfl rfl ?_
    refine pm_R_br pm_M8 (pc_q := 3) rfl rfl ?_
    refine pm_R_lo pm_M8 (pc_q := 4) rfl rfl rfl ?_
    refine pm_R_br pm_M8 (pc_q := 7) (st_q := []) rfl rfl ?_
    refine pm_R_lo pm_M8 (pc_q := 8) rfl rfl rfl ?_
    refine pm_R_get pm_M8 (pc_q := 11) (v := .int (m237 0)) rfl rfl T235.e17 (by decide) (T235.lt (by decide)) rfl rfl ?_
    refine pm_R_op pm_M8 (pc_q := 14) (st_q := [.int 600, .int (m237 0)]) rfl rfl rfl ?_
    refine pm_R_icmp pm_M8 (t := 40) (pc_q := 17) rfl rfl rfl (fun c244 => absurd c244 (sf_nle sf_k600 B241 (by decide))) (fun c244 => ?_)
    skip
    refine pm_R_lo pm_M8 (pc_q := 18) rfl rfl rfl ?_
    refine pm_R_get pm_M8 (pc_q := 21) (v := .ref 18) rfl rfl T235.e17 (by decide) (T235.lt (by decide)) rfl rfl ?_
    refine pm_R_lo pm_M8 (pc_q := 22) rfl rfl rfl ?_
    refine pm_R_get pm_M8 (pc_q := 25) (v := .int (m237 0)) rfl rfl T235.e17 (by decide) (T235.lt (by decide)) rfl rfl ?_
    refine pm_R_lo pm_M8 (pc_q := 26) rfl rfl rfl ?_
    refine pm_R_lo pm_M8 (pc_q := 27) rfl rfl rfl ?_
    refine sf_R_iany pm_M8 (pc_q := 28) (st := [.int (m237 0), .ref 18]) rfl rfl rfl (fun z248 => ?_)
    refine sf_R_iany pm_M8 (pc_q := 29) (st := [.int (m237 0), .ref 18]) rfl rfl rfl (fun z249 => ?_)
    have e250 := (F239.cell G (by decide) (by decide) e228)
    refine cl_R_bst G pm_M8 T235 (pc_q := 30) rfl e250 (by decide) ⟨_, rfl⟩ (sf_in B241 (by decide) (by decide)) rfl (fun h251 T252 F253 e254 => ?_)
    have F255 := F253.cl (ck := ck) T235.1
    have F256 := F240.trans (N := 0) (S := 0) F255 (by decide) (by decide) (by decide)
    refine pm_R_lo pm_M8 (pc_q := 31) rfl rfl rfl ?_
    refine pm_R_op pm_M8 (pc_q := 32) (st_q := [.ref 17, .ref 17]) rfl rfl rfl ?_
    refine pm_R_get pm_M8 (pc_q := 35) (v := .int (m237 0)) rfl rfl T252.e17 (by decide) (T252.lt (by decide)) rfl rfl ?_
    refine pm_R_op pm_M8 (pc_q := 36) (st_q := [.int 1, .int (m237 0), .ref 17]) rfl rfl rfl ?_
    refine sf_R_iadd pm_M8 (pc_q := 37) rfl rfl B241 sf_k1 (by decide) (by decide) (fun z257 e258 B259 => ?_)
    refine cl_R_put17 G pm_M8 T252 (k := 0) (pc_q := 40) rfl rfl rfl (by decide) rfl rfl (sf_weak B259 (by decide) (by decide)) rfl rfl rfl rfl rfl (fun h260 m263 em264 T261 F262 => ?_)
    have F265 := F262.cl (ck := ck) T252.1
    have F266 := F256.trans (N := 0) (S := 0) F265 (by decide) (by decide) (by decide)
    have B267 : sf_B 10 590 (m263 0) := by rw [em264]; exact B259
    have ek268 : (m263 0).toInt = (z257).toInt := by rw [em264]; rfl
    have W269 : rf_W [0] m m263 := by rw [em264]; exact W243.put (by decide)
    refine pm_R_lo pm_M8 (pc_q := 43) (ls_q := [.ref 17, .int a2, .int 8]) (st_q := []) rfl rfl rfl ?_
    refine pm_R_br pm_M8 (pc_q := 3) rfl rfl ?_
    refine pm_R_lo pm_M8 (pc_q := 4) rfl rfl rfl ?_
    refine pm_R_br pm_M8 (pc_q := 7) (st_q := []) rfl rfl ?_
    refine pm_R_lo pm_M8 (pc_q := 8) rfl rfl rfl ?_
    refine pm_R_get pm_M8 (pc_q := 11) (v := .int (m263 0)) rfl rfl T261.e17 (by decide) (T261.lt (by decide)) rfl rfl ?_
    refine pm_R_op pm_M8 (pc_q := 14) (st_q := [.int 600, .int (m263 0)]) rfl rfl rfl ?_
    refine pm_R_icmp pm_M8 (t := 40) (pc_q := 17) rfl rfl rfl (fun c270 => absurd c270 (sf_nle sf_k600 B267 (by decide))) (fun c270 => ?_)
    skip
    refine pm_R_lo pm_M8 (pc_q := 18) rfl rfl rfl ?_
    refine pm_R_get pm_M8 (pc_q := 21) (v := .ref 18) rfl rfl T261.e17 (by decide) (T261.lt (by decide)) rfl rfl ?_
    refine pm_R_lo pm_M8 (pc_q := 22) rfl rfl rfl ?_
    refine pm_R_get pm_M8 (pc_q := 25) (v := .int (m263 0)) rfl rfl T261.e17 (by decide) (T261.lt (by decide)) rfl rfl ?_
    refine pm_R_lo pm_M8 (pc_q := 26) rfl rfl rfl ?_
    refine pm_R_lo pm_M8 (pc_q := 27) rfl rfl rfl ?_
    refine sf_R_iany pm_M8 (pc_q := 28) (st := [.int (m263 0), .ref 18]) rfl rfl rfl (fun z274 => ?_)
    refine sf_R_iany pm_M8 (pc_q := 29) (st := [.int (m263 0), .ref 18]) rfl rfl rfl (fun z275 => ?_)
    have e276 := (F265.cell G (by decide) (by decide) e254)
    refine cl_R_bst G pm_M8 T261 (pc_q := 30) rfl e276 (by decide) ⟨_, rfl⟩ (sf_in B267 (by decide) (by decide)) rfl (fun h277 T278 F279 e280 => ?_)
    have F281 := F279.cl (ck := ck) T261.1
    have F282 := F266.trans (N := 0) (S := 0) F281 (by decide) (by decide) (by decide)
    refine pm_R_lo pm_M8 (pc_q := 31) rfl rfl rfl ?_
    refine pm_R_op pm_M8 (pc_q := 32) (st_q := [.ref 17, .ref 17]) rfl rfl rfl ?_
    refine pm_R_get pm_M8 (pc_q := 35) (v := .int (m263 0)) rfl rfl T278.e17 (by decide) (T278.lt (by decide)) rfl rfl ?_
    refine pm_R_op pm_M8 (pc_q := 36) (st_q := [.int 1, .int (m263 0), .ref 17]) rfl rfl rfl ?_
    refine sf_R_iadd pm_M8 (pc_q := 37) rfl rfl B267 sf_k1 (by decide) (by decide) (fun z283 e284 B285 => ?_)
    refine cl_R_put17 G pm_M8 T278 (k := 0) (pc_q := 40) rfl rfl rfl (by decide) rfl rfl (sf_weak B285 (by decide) (by decide)) rfl rfl rfl rfl rfl (fun h286 m289 em290 T287 F288 => ?_)
    have F291 := F288.cl (ck := ck) T278.1
    have F292 := F282.trans (N := 0) (S := 0) F291 (by decide) (by decide) (by decide)
    have B293 : sf_B 11 591 (m289 0) := by rw [em290]; exact B285
    have ek294 : (m289 0).toInt = (z283).toInt := by rw [em290]; rfl
    have W295 : rf_W [0] m m289 := by rw [em290]; exact W269.put (by decide)
    refine pm_R_lo pm_M8 (pc_q := 43) (ls_q := [.ref 17, .int a2, .int 0]) (st_q := []) rfl rfl rfl ?_
    refine pm_R_br pm_M8 (pc_q := 3) rfl rfl ?_
    refine pm_R_lo pm_M8 (pc_q := 4) rfl rfl rfl ?_
    refine pm_R_br pm_M8 (pc_q := 7) (st_q := []) rfl rfl ?_
    refine pm_R_lo pm_M8 (pc_q := 8) rfl rfl rfl ?_
    refine pm_R_get pm_M8 (pc_q := 11) (v := .int (m289 0)) rfl rfl T287.e17 (by decide) (T287.lt (by decide)) rfl rfl ?_
    refine pm_R_op pm_M8 (pc_q := 14) (st_q := [.int 600, .int (m289 0)]) rfl rfl rfl ?_
    refine pm_R_icmp pm_M8 (t := 40) (pc_q := 17) rfl rfl rfl (fun c296 => absurd c296 (sf_nle sf_k600 B293 (by decide))) (fun c296 => ?_)
    skip
    refine pm_R_lo pm_M8 (pc_q := 18) rfl rfl rfl ?_
    refine pm_R_get pm_M8 (pc_q := 21) (v := .ref 18) rfl rfl T287.e17 (by decide) (T287.lt (by decide)) rfl rfl ?_
    refine pm_R_lo pm_M8 (pc_q := 22) rfl rfl rfl ?_
    refine pm_R_get pm_M8 (pc_q := 25) (v := .int (m289 0)) rfl rfl T287.e17 (by decide) (T287.lt (by decide)) rfl rfl ?_
    refine pm_R_lo pm_M8 (pc_q := 26) rfl rfl rfl ?_
    refine pm_R_lo pm_M8 (pc_q := 27) rfl rfl rfl ?_
    refine sf_R_iany pm_M8 (pc_q := 28) (st := [.int (m289 0), .ref 18]) rfl rfl rfl (fun z300 => ?_)
    refine sf_R_iany pm_M8 (pc_q := 29) (st := [.int (m289 0), .ref 18]) rfl rfl rfl (fun z301 => ?_)
    have e302 := (F291.cell G (by decide) (by decide) e280)
    refine cl_R_bst G pm_M8 T287 (pc_q := 30) rfl e302 (by decide) ⟨_, rfl⟩ (sf_in B293 (by decide) (by decide)) rfl (fun h303 T304 F305 e306 => ?_)
    have F307 := F305.cl (ck := ck) T287.1
    have F308 := F292.trans (N := 0) (S := 0) F307 (by decide) (by decide) (by decide)
    refine pm_R_lo pm_M8 (pc_q := 31) rfl rfl rfl ?_
    refine pm_R_op pm_M8 (pc_q := 32) (st_q := [.ref 17, .ref 17]) rfl rfl rfl ?_
    refine pm_R_get pm_M8 (pc_q := 35) (v := .int (m289 0)) rfl rfl T304.e17 (by decide) (T304.lt (by decide)) rfl rfl ?_
    refine pm_R_op pm_M8 (pc_q := 36) (st_q := [.int 1, .int (m289 0), .ref 17]) rfl rfl rfl ?_
    refine sf_R_iadd pm_M8 (pc_q := 37) rfl rfl B293 sf_k1 (by decide) (by decide) (fun z309 e310 B311 => ?_)
    refine cl_R_put17 G pm_M8 T304 (k := 0) (pc_q := 40) rfl rfl rfl (by decide) rfl rfl (sf_weak B311 (by decide) (by decide)) rfl rfl rfl rfl rfl (fun h312 m315 em316 T313 F314 => ?_)
    have F317 := F314.cl (ck := ck) T304.1
    have F318 := F308.trans (N := 0) (S := 0) F317 (by decide) (by decide) (by decide)
    have B319 : sf_B 12 592 (m315 0) := by rw [em316]; exact B311
    have ek320 : (m315 0).toInt = (z309).toInt := by rw [em316]; rfl
    have W321 : rf_W [0] m m315 := by rw [em316]; exact W295.put (by decide)
    refine pm_R_lo pm_M8 (pc_q := 43) (ls_q := [.ref 17, .int a2, .int (-8)]) (st_q := []) rfl rfl rfl ?_
    refine pm_R_br pm_M8 (pc_q := 3) rfl rfl ?_
    refine pm_R_lo pm_M8 (pc_q := 4) rfl rfl rfl ?_
    refine pm_R_br pm_M8 (pc_q := 46) (st_q := []) rfl rfl ?_
    refine pm_R_ret pm_M8 (r := none) rfl rfl ?_
    show pm_R _ 7 42 [.ref 16, .int a0, .int a1, .int a2, .int a3, .int a4] [] _ _
    refine pm_R_lo pm_M7 (pc_q := 43) rfl rfl rfl ?_
    refine pm_R_get pm_M7 (pc_q := 46) (v := .ref 17) rfl rfl T313.e16 (by decide) (T313.lt (by decide)) rfl rfl ?_
    refine pm_R_lo pm_M7 (pc_q := 48) rfl rfl rfl ?_
    refine pm_R_cv pm_M7 (pc_q := 51) (a := 17) (ra := [.int a3]) (rest := []) (ls_q := [.ref 17, .int a3, pm_no]) rfl rfl (Or.inl rfl) pm_M8 T313.e17 rfl (by decide) (T313.lt (by decide)) rfl rfl (Nat.le_of_ble_eq_true rfl) rfl rfl ?_
    refine pm_R_op pm_M8 (pc_q := 2) (st_q := [.int 24]) rfl rfl rfl ?_
    refine pm_R_lo pm_M8 (pc_q := 3) (ls_q := [.ref 17, .int a3, .int 24]) (st_q := []) rfl rfl rfl ?_
    refine pm_R_lo pm_M8 (pc_q := 4) rfl rfl rfl ?_
    refine pm_R_br pm_M8 (pc_q := 7) (st_q := []) rfl rfl ?_
    refine pm_R_lo pm_M8 (pc_q := 8) rfl rfl rfl ?_
    refine pm_R_get pm_M8 (pc_q := 11) (v := .int (m315 0)) rfl rfl T313.e17 (by decide) (T313.lt (by decide)) rfl rfl ?_
    refine pm_R_op pm_M8 (pc_q := 14) (st_q := [.int 600, .int (m315 0)]) rfl rfl rfl ?_
    refine pm_R_icmp pm_M8 (t := 40) (pc_q := 17) rfl rfl rfl (fun c322 => absurd c322 (sf_nle sf_k600 B319 (by decide))) (fun c322 => ?_)
    skip
    refine pm_R_lo pm_M8 (pc_q := 18) rfl rfl rfl ?_
    refine pm_R_get pm_M8 (pc_q := 21) (v := .ref 18) rfl rfl T313.e17 (by decide) (T313.lt (by decide)) rfl rfl ?_
    refine pm_R_lo pm_M8 (pc_q := 22) rfl rfl rfl ?_
    refine pm_R_get pm_M8 (pc_q := 25) (v := .int (m315 0)) rfl rfl T313.e17 (by decide) (T313.lt (by decide)) rfl rfl ?_
    refine pm_R_lo pm_M8 (pc_q := 26) rfl rfl rfl ?_
    refine pm_R_lo pm_M8 (pc_q := 27) rfl rfl rfl ?_
    refine sf_R_iany pm_M8 (pc_q := 28) (st := [.int (m315 0), .ref 18]) rfl rfl rfl (fun z326 => ?_)
    refine sf_R_iany pm_M8 (pc_q := 29) (st := [.int (m315 0), .ref 18]) rfl rfl rfl (fun z327 => ?_)
    have e328 := (F317.cell G (by decide) (by decide) e306)
    refine cl_R_bst G pm_M8 T313 (pc_q := 30) rfl e328 (by decide) ⟨_, rfl⟩ (sf_in B319 (by decide) (by decide)) rfl (fun h329 T330 F331 e332 => ?_)
    have F333 := F331.cl (ck := ck) T313.1
    have F334 := F318.trans (N := 0) (S := 0) F333 (by decide) (by decide) (by decide)
    refine pm_R_lo pm_M8 (pc_q := 31) rfl rfl rfl ?_
    refine pm_R_op pm_M8 (pc_q := 32) (st_q := [.ref 17, .ref 17]) rfl rfl rfl ?_
    refine pm_R_get pm_M8 (pc_q := 35) (v := .int (m315 0)) rfl rfl T330.e17 (by decide) (T330.lt (by decide)) rfl rfl ?_
    refine pm_R_op pm_M8 (pc_q := 36) (st_q := [.int 1, .int (m315 0), .ref 17]) rfl rfl rfl ?_
    refine sf_R_iadd pm_M8 (pc_q := 37) rfl rfl B319 sf_k1 (by decide) (by decide) (fun z335 e336 B337 => ?_)
    refine cl_R_put17 G pm_M8 T330 (k := 0) (pc_q := 40) rfl rfl rfl (by decide) rfl rfl (sf_weak B337 (by decide) (by decide)) rfl rfl rfl rfl rfl (fun h338 m341 em342 T339 F340 => ?_)
    have F343 := F340.cl (ck := ck) T330.1
    have F344 := F334.trans (N := 0) (S := 0) F343 (by decide) (by decide) (by decide)
    have B345 : sf_B 13 593 (m341 0) := by rw [em342]; exact B337
    have ek346 : (m341 0).toInt = (z335).toInt := by rw [em342]; rfl
    have W347 : rf_W [0] m m341 := by rw [em342]; exact W321.put (by decide)
    refine pm_R_lo pm_M8 (pc_q := 43) (ls_q := [.ref 17, .int a3, .int 16]) (st_q := []) rfl rfl rfl ?_
    refine pm_R_br pm_M8 (pc_q := 3) rfl rfl ?_
    refine pm_R_lo pm_M8 (pc_q := 4) rfl rfl rfl ?_
    refine pm_R_br pm_M8 (pc_q := 7) (st_q := []) rfl rfl ?_
    refine pm_R_lo pm_M8 (pc_q := 8) rfl rfl rfl ?_
    refine pm_R_get pm_M8 (pc_q := 11) (v := .int (m341 0)) rfl rfl T339.e17 (by decide) (T339.lt (by decide)) rfl rfl ?_
    refine pm_R_op pm_M8 (pc_q := 14) (st_q := [.int 600, .int (m341 0)]) rfl rfl rfl ?_
    refine pm_R_icmp pm_M8 (t := 40) (pc_q := 17) rfl rfl rfl (fun c348 => absurd c348 (sf_nle sf_k600 B345 (by decide))) (fun c348 => ?_)
    skip
    refine pm_R_lo pm_M8 (pc_q := 18) rfl rfl rfl ?_
    refine pm_R_get pm_M8 (pc_q := 21) (v := .ref 18) rfl rfl T339.e17 (by decide) (T339.lt (by decide)) rfl rfl ?_
    refine pm_R_lo pm_M8 (pc_q := 22) rfl rfl rfl ?_
    refine pm_R_get pm_M8 (pc_q := 25) (v := .int (m341 0)) rfl rfl T339.e17 (by decide) (T339.lt (by decide)) rfl rfl ?_
    refine pm_R_lo pm_M8 (pc_q := 26) rfl rfl rfl ?_
    refine pm_R_lo pm_M8 (pc_q := 27) rfl rfl rfl ?_
    refine sf_R_iany pm_M8 (pc_q := 28) (st := [.int (m341 0), .ref 18]) rfl rfl rfl (fun z352 => ?_)
    refine sf_R_iany pm_M8 (pc_q := 29) (st := [.int (m341 0), .ref 18]) rfl rfl rfl (fun z353 => ?_)
    have e354 := (F343.cell G (by decide) (by decide) e332)
    refine cl_R_bst G pm_M8 T339 (pc_q := 30) rfl e354 (by decide) ⟨_, rfl⟩ (sf_in B345 (by decide) (by decide)) rfl (fun h355 T356 F357 e358 => ?_)
    have F359 := F357.cl (ck := ck) T339.1
    have F360 := F344.trans (N := 0) (S := 0) F359 (by decide) (by decide) (by decide)
    refine pm_R_lo pm_M8 (pc_q := 31) rfl rfl rfl ?_
    refine pm_R_op pm_M8 (pc_q := 32) (st_q := [.ref 17, .ref 17]) rfl rfl rfl ?_
    refine pm_R_get pm_M8 (pc_q := 35) (v := .int (m341 0)) rfl rfl T356.e17 (by decide) (T356.lt (by decide)) rfl rfl ?_
    refine pm_R_op pm_M8 (pc_q := 36) (st_q := [.int 1, .int (m341 0), .ref 17]) rfl rfl rfl ?_
    refine sf_R_iadd pm_M8 (pc_q := 37) rfl rfl B345 sf_k1 (by decide) (by decide) (fun z361 e362 B363 => ?_)
    refine cl_R_put17 G pm_M8 T356 (k := 0) (pc_q := 40) rfl rfl rfl (by decide) rfl rfl (sf_weak B363 (by decide) (by decide)) rfl rfl rfl rfl rfl (fun h364 m367 em368 T365 F366 => ?_)
    have F369 := F366.cl (ck := ck) T356.1
    have F370 := F360.trans (N := 0) (S := 0) F369 (by decide) (by decide) (by decide)
    have B371 : sf_B 14 594 (m367 0) := by rw [em368]; exact B363
    have ek372 : (m367 0).toInt = (z361).toInt := by rw [em368]; rfl
    have W373 : rf_W [0] m m367 := by rw [em368]; exact W347.put (by decide)
    refine pm_R_lo pm_M8 (pc_q := 43) (ls_q := [.ref 17, .int a3, .int 8]) (st_q := []) rfl rfl rfl ?_
    refine pm_R_br pm_M8 (pc_q := 3) rfl rfl ?_
    refine pm_R_lo pm_M8 (pc_q := 4) rfl rfl rfl ?_
    refine pm_R_br pm_M8 (pc_q := 7) (st_q := []) rfl rfl ?_
    refine pm_R_lo pm_M8 (pc_q := 8) rfl rfl rfl ?_
    refine pm_R_get pm_M8 (pc_q := 11) (v := .int (m367 0)) rfl rfl T365.e17 (by decide) (T365.lt (by decide)) rfl rfl ?_
    refine pm_R_op pm_M8 (pc_q := 14) (st_q := [.int 600, .int (m367 0)]) rfl rfl rfl ?_
    refine pm_R_icmp pm_M8 (t := 40) (pc_q := 17) rfl rfl rfl (fun c374 => absurd c374 (sf_nle sf_k600 B371 (by decide))) (fun c374 => ?_)
    skip
    refine pm_R_lo pm_M8 (pc_q := 18) rfl rfl rfl ?_
    refine pm_R_get pm_M8 (pc_q := 21) (v := .ref 18) rfl rfl T365.e17 (by decide) (T365.lt (by decide)) rfl rfl ?_
    refine pm_R_lo pm_M8 (pc_q := 22) rfl rfl rfl ?_
    refine pm_R_get pm_M8 (pc_q := 25) (v := .int (m367 0)) rfl rfl T365.e17 (by decide) (T365.lt (by decide)) rfl rfl ?_
    refine pm_R_lo pm_M8 (pc_q := 26) rfl rfl rfl ?_
    refine pm_R_lo pm_M8 (pc_q := 27) rfl rfl rfl ?_
    refine sf_R_iany pm_M8 (pc_q := 28) (st := [.int (m367 0), .ref 18]) rfl rfl rfl (fun z378 => ?_)
    refine sf_R_iany pm_M8 (pc_q := 29) (st := [.int (m367 0), .ref 18]) rfl rfl rfl (fun z379 => ?_)
    have e380 := (F369.cell G (by decide) (by decide) e358)
    refine cl_R_bst G pm_M8 T365 (pc_q := 30) rfl e380 (by decide) ⟨_, rfl⟩ (sf_in B371 (by decide) (by decide)) rfl (fun h381 T382 F383 e384 => ?_)
    have F385 := F383.cl (ck := ck) T365.1
    have F386 := F370.trans (N := 0) (S := 0) F385 (by decide) (by decide) (by decide)
    refine pm_R_lo pm_M8 (pc_q := 31) rfl rfl rfl ?_
    refine pm_R_op pm_M8 (pc_q := 32) (st_q := [.ref 17, .ref 17]) rfl rfl rfl ?_
    refine pm_R_get pm_M8 (pc_q := 35) (v := .int (m367 0)) rfl rfl T382.e17 (by decide) (T382.lt (by decide)) rfl rfl ?_
    refine pm_R_op pm_M8 (pc_q := 36) (st_q := [.int 1, .int (m367 0), .ref 17]) rfl rfl rfl ?_
    refine sf_R_iadd pm_M8 (pc_q := 37) rfl rfl B371 sf_k1 (by decide) (by decide) (fun z387 e388 B389 => ?_)
    refine cl_R_put17 G pm_M8 T382 (k := 0) (pc_q := 40) rfl rfl rfl (by decide) rfl rfl (sf_weak B389 (by decide) (by decide)) rfl rfl rfl rfl rfl (fun h390 m393 em394 T391 F392 => ?_)
    have F395 := F392.cl (ck := ck) T382.1
    have F396 := F386.trans (N := 0) (S := 0) F395 (by decide) (by decide) (by decide)
    have B397 : sf_B 15 595 (m393 0) := by rw [em394]; exact B389
    have ek398 : (m393 0).toInt = (z387).toInt := by rw [em394]; rfl
    have W399 : rf_W [0] m m393 := by rw [em394]; exact W373.put (by decide)
    refine pm_R_lo pm_M8 (pc_q := 43) (ls_q := [.ref 17, .int a3, .int 0]) (st_q := []) rfl rfl rfl ?_
    refine pm_R_br pm_M8 (pc_q := 3) rfl rfl ?_
    refine pm_R_lo pm_M8 (pc_q := 4) rfl rfl rfl ?_
    refine pm_R_br pm_M8 (pc_q := 7) (st_q := []) rfl rfl ?_
    refine pm_R_lo pm_M8 (pc_q := 8) rfl rfl rfl ?_
    refine pm_R_get pm_M8 (pc_q := 11) (v := .int (m393 0)) rfl rfl T391.e17 (by decide) (T391.lt (by decide)) rfl rfl ?_
    refine pm_R_op pm_M8 (pc_q := 14) (st_q := [.int 600, .int (m393 0)]) rfl rfl rfl ?_
    refine pm_R_icmp pm_M8 (t := 40) (pc_q := 17) rfl rfl rfl (fun c400 => absurd c400 (sf_nle sf_k600 B397 (by decide))) (fun c400 => ?_)
    skip
    refine pm_R_lo pm_M8 (pc_q := 18) rfl rfl rfl ?_
    refine pm_R_get pm_M8 (pc_q := 21) (v := .ref 18) rfl rfl T391.e17 (by decide) (T391.lt (by decide)) rfl rfl ?_
    refine pm_R_lo pm_M8 (pc_q := 22) rfl rfl rfl ?_
    refine pm_R_get pm_M8 (pc_q := 25) (v := .int (m393 0)) rfl rfl T391.e17 (by decide) (T391.lt (by decide)) rfl rfl ?_
    refine pm_R_lo pm_M8 (pc_q := 26) rfl rfl rfl ?_
    refine pm_R_lo pm_M8 (pc_q := 27) rfl rfl rfl ?_
    refine sf_R_iany pm_M8 (pc_q := 28) (st := [.int (m393 0), .ref 18]) rfl rfl rfl (fun z404 => ?_)
    refine sf_R_iany pm_M8 (pc_q := 29) (st := [.int (m393 0), .ref 18]) rfl rfl rfl (fun z405 => ?_)
    have e406 := (F395.cell G (by decide) (by decide) e384)
    refine cl_R_bst G pm_M8 T391 (pc_q := 30) rfl e406 (by decide) ⟨_, rfl⟩ (sf_in B397 (by decide) (by decide)) rfl (fun h407 T408 F409 e410 => ?_)
    have F411 := F409.cl (ck := ck) T391.1
    have F412 := F396.trans (N := 0) (S := 0) F411 (by decide) (by decide) (by decide)
    refine pm_R_lo pm_M8 (pc_q := 31) rfl rfl rfl ?_
    refine pm_R_op pm_M8 (pc_q := 32) (st_q := [.ref 17, .ref 17]) rfl rfl rfl ?_
    refine pm_R_get pm_M8 (pc_q := 35) (v := .int (m393 0)) rfl rfl T408.e17 (by decide) (T408.lt (by decide)) rfl rfl ?_
    refine pm_R_op pm_M8 (pc_q := 36) (st_q := [.int 1, .int (m393 0), .ref 17]) rfl rfl rfl ?_
    refine sf_R_iadd pm_M8 (pc_q := 37) rfl rfl B397 sf_k1 (by decide) (by decide) (fun z413 e414 B415 => ?_)
    refine cl_R_put17 G pm_M8 T408 (k := 0) (pc_q := 40) rfl rfl rfl (by decide) rfl rfl (sf_weak B415 (by decide) (by decide)) rfl rfl rfl rfl rfl (fun h416 m419 em420 T417 F418 => ?_)
    have F421 := F418.cl (ck := ck) T408.1
    have F422 := F412.trans (N := 0) (S := 0) F421 (by decide) (by decide) (by decide)
    have B423 : sf_B 16 596 (m419 0) := by rw [em420]; exact B415
    have ek424 : (m419 0).toInt = (z413).toInt := by rw [em420]; rfl
    have W425 : rf_W [0] m m419 := by rw [em420]; exact W399.put (by decide)
    refine pm_R_lo pm_M8 (pc_q := 43) (ls_q := [.ref 17, .int a3, .int (-8)]) (st_q := []) rfl rfl rfl ?_
    refine pm_R_br pm_M8 (pc_q := 3) rfl rfl ?_
    refine pm_R_lo pm_M8 (pc_q := 4) rfl rfl rfl ?_
    refine pm_R_br pm_M8 (pc_q := 46) (st_q := []) rfl rfl ?_
    refine pm_R_ret pm_M8 (r := none) rfl rfl ?_
    show pm_R _ 7 51 [.ref 16, .int a0, .int a1, .int a2, .int a3, .int a4] [] _ _
    refine pm_R_lo pm_M7 (pc_q := 52) rfl rfl rfl ?_
    refine pm_R_get pm_M7 (pc_q := 55) (v := .ref 17) rfl rfl T417.e16 (by decide) (T417.lt (by decide)) rfl rfl ?_
    refine pm_R_lo pm_M7 (pc_q := 57) rfl rfl rfl ?_
    refine pm_R_cv pm_M7 (pc_q := 60) (a := 17) (ra := [.int a4]) (rest := []) (ls_q := [.ref 17, .int a4, pm_no]) rfl rfl (Or.inl rfl) pm_M8 T417.e17 rfl (by decide) (T417.lt (by decide)) rfl rfl (Nat.le_of_ble_eq_true rfl) rfl rfl ?_
    refine pm_R_op pm_M8 (pc_q := 2) (st_q := [.int 24]) rfl rfl rfl ?_
    refine pm_R_lo pm_M8 (pc_q := 3) (ls_q := [.ref 17, .int a4, .int 24]) (st_q := []) rfl rfl rfl ?_
    refine pm_R_lo pm_M8 (pc_q := 4) rfl rfl rfl ?_
    refine pm_R_br pm_M8 (pc_q := 7) (st_q := []) rfl rfl ?_
    refine pm_R_lo pm_M8 (pc_q := 8) rfl rfl rfl ?_
    refine pm_R_get pm_M8 (pc_q := 11) (v := .int (m419 0)) rfl rfl T417.e17 (by decide) (T417.lt (by decide)) rfl rfl ?_
    refine pm_R_op pm_M8 (pc_q := 14) (st_q := [.int 600, .int (m419 0)]) rfl rfl rfl ?_
    refine pm_R_icmp pm_M8 (t := 40) (pc_q := 17) rfl rfl rfl (fun c426 => absurd c426 (sf_nle sf_k600 B423 (by decide))) (fun c426 => ?_)
    skip
    refine pm_R_lo pm_M8 (pc_q := 18) rfl rfl rfl ?_
    refine pm_R_get pm_M8 (pc_q := 21) (v := .ref 18) rfl rfl T417.e17 (by decide) (T417.lt (by decide)) rfl rfl ?_
    refine pm_R_lo pm_M8 (pc_q := 22) rfl rfl rfl ?_
    refine pm_R_get pm_M8 (pc_q := 25) (v := .int (m419 0)) rfl rfl T417.e17 (by decide) (T417.lt (by decide)) rfl rfl ?_
    refine pm_R_lo pm_M8 (pc_q := 26) rfl rfl rfl ?_
    refine pm_R_lo pm_M8 (pc_q := 27) rfl rfl rfl ?_
    refine sf_R_iany pm_M8 (pc_q := 28) (st := [.int (m419 0), .ref 18]) rfl rfl rfl (fun z430 => ?_)
    refine sf_R_iany pm_M8 (pc_q := 29) (st := [.int (m419 0), .ref 18]) rfl rfl rfl (fun z431 => ?_)
    have e432 := (F421.cell G (by decide) (by decide) e410)
    refine cl_R_bst G pm_M8 T417 (pc_q := 30) rfl e432 (by decide) ⟨_, rfl⟩ (sf_in B423 (by decide) (by decide)) rfl (fun h433 T434 F435 e436 => ?_)
    have F437 := F435.cl (ck := ck) T417.1
    have F438 := F422.trans (N := 0) (S := 0) F437 (by decide) (by decide) (by decide)
    refine pm_R_lo pm_M8 (pc_q := 31) rfl rfl rfl ?_
    refine pm_R_op pm_M8 (pc_q := 32) (st_q := [.ref 17, .ref 17]) rfl rfl rfl ?_
    refine pm_R_get pm_M8 (pc_q := 35) (v := .int (m419 0)) rfl rfl T434.e17 (by decide) (T434.lt (by decide)) rfl rfl ?_
    refine pm_R_op pm_M8 (pc_q := 36) (st_q := [.int 1, .int (m419 0), .ref 17]) rfl rfl rfl ?_
    refine sf_R_iadd pm_M8 (pc_q := 37) rfl rfl B423 sf_k1 (by decide) (by decide) (fun z439 e440 B441 => ?_)
    refine cl_R_put17 G pm_M8 T434 (k := 0) (pc_q := 40) rfl rfl rfl (by decide) rfl rfl (sf_weak B441 (by decide) (by decide)) rfl rfl rfl rfl rfl (fun h442 m445 em446 T443 F444 => ?_)
    have F447 := F444.cl (ck := ck) T434.1
    have F448 := F438.trans (N := 0) (S := 0) F447 (by decide) (by decide) (by decide)
    have B449 : sf_B 17 597 (m445 0) := by rw [em446]; exact B441
    have ek450 : (m445 0).toInt = (z439).toInt := by rw [em446]; rfl
    have W451 : rf_W [0] m m445 := by rw [em446]; exact W425.put (by decide)
    refine pm_R_lo pm_M8 (pc_q := 43) (ls_q := [.ref 17, .int a4, .int 16]) (st_q := []) rfl rfl rfl ?_
    refine pm_R_br pm_M8 (pc_q := 3) rfl rfl ?_
    refine pm_R_lo pm_M8 (pc_q := 4) rfl rfl rfl ?_
    refine pm_R_br pm_M8 (pc_q := 7) (st_q := []) rfl rfl ?_
    refine pm_R_lo pm_M8 (pc_q := 8) rfl rfl rfl ?_
    refine pm_R_get pm_M8 (pc_q := 11) (v := .int (m445 0)) rfl rfl T443.e17 (by decide) (T443.lt (by decide)) rfl rfl ?_
    refine pm_R_op pm_M8 (pc_q := 14) (st_q := [.int 600, .int (m445 0)]) rfl rfl rfl ?_
    refine pm_R_icmp pm_M8 (t := 40) (pc_q := 17) rfl rfl rfl (fun c452 => absurd c452 (sf_nle sf_k600 B449 (by decide))) (fun c452 => ?_)
    skip
    refine pm_R_lo pm_M8 (pc_q := 18) rfl rfl rfl ?_
    refine pm_R_get pm_M8 (pc_q := 21) (v := .ref 18) rfl rfl T443.e17 (by decide) (T443.lt (by decide)) rfl rfl ?_
    refine pm_R_lo pm_M8 (pc_q := 22) rfl rfl rfl ?_
    refine pm_R_get pm_M8 (pc_q := 25) (v := .int (m445 0)) rfl rfl T443.e17 (by decide) (T443.lt (by decide)) rfl rfl ?_
    refine pm_R_lo pm_M8 (pc_q := 26) rfl rfl rfl ?_
    refine pm_R_lo pm_M8 (pc_q := 27) rfl rfl rfl ?_
    refine sf_R_iany pm_M8 (pc_q := 28) (st := [.int (m445 0), .ref 18]) rfl rfl rfl (fun z456 => ?_)
    refine sf_R_iany pm_M8 (pc_q := 29) (st := [.int (m445 0), .ref 18]) rfl rfl rfl (fun z457 => ?_)
    have e458 := (F447.cell G (by decide) (by decide) e436)
    refine cl_R_bst G pm_M8 T443 (pc_q := 30) rfl e458 (by decide) ⟨_, rfl⟩ (sf_in B449 (by decide) (by decide)) rfl (fun h459 T460 F461 e462 => ?_)
    have F463 := F461.cl (ck := ck) T443.1
    have F464 := F448.trans (N := 0) (S := 0) F463 (by decide) (by decide) (by decide)
    refine pm_R_lo pm_M8 (pc_q := 31) rfl rfl rfl ?_
    refine pm_R_op pm_M8 (pc_q := 32) (st_q := [.ref 17, .ref 17]) rfl rfl rfl ?_
    refine pm_R_get pm_M8 (pc_q := 35) (v := .int (m445 0)) rfl rfl T460.e17 (by decide) (T460.lt (by decide)) rfl rfl ?_
    refine pm_R_op pm_M8 (pc_q := 36) (st_q := [.int 1, .int (m445 0), .ref 17]) rfl rfl rfl ?_
    refine sf_R_iadd pm_M8 (pc_q := 37) rfl rfl B449 sf_k1 (by decide) (by decide) (fun z465 e466 B467 => ?_)
    refine cl_R_put17 G pm_M8 T460 (k := 0) (pc_q := 40) rfl rfl rfl (by decide) rfl rfl (sf_weak B467 (by decide) (by decide)) rfl rfl rfl rfl rfl (fun h468 m471 em472 T469 F470 => ?_)
    have F473 := F470.cl (ck := ck) T460.1
    have F474 := F464.trans (N := 0) (S := 0) F473 (by decide) (by decide) (by decide)
    have B475 : sf_B 18 598 (m471 0) := by rw [em472]; exact B467
    have ek476 : (m471 0).toInt = (z465).toInt := by rw [em472]; rfl
    have W477 : rf_W [0] m m471 := by rw [em472]; exact W451.put (by decide)
    refine pm_R_lo pm_M8 (pc_q := 43) (ls_q := [.ref 17, .int a4, .int 8]) (st_q := []) rfl rfl rfl ?_
    refine pm_R_br pm_M8 (pc_q := 3) rfl rfl ?_
    refine pm_R_lo pm_M8 (pc_q := 4) rfl rfl rfl ?_
    refine pm_R_br pm_M8 (pc_q := 7) (st_q := []) rfl rfl ?_
    refine pm_R_lo pm_M8 (pc_q := 8) rfl rfl rfl ?_
    refine pm_R_get pm_M8 (pc_q := 11) (v := .int (m471 0)) rfl rfl T469.e17 (by decide) (T469.lt (by decide)) rfl rfl ?_
    refine pm_R_op pm_M8 (pc_q := 14) (st_q := [.int 600, .int (m471 0)]) rfl rfl rfl ?_
    refine pm_R_icmp pm_M8 (t := 40) (pc_q := 17) rfl rfl rfl (fun c478 => absurd c478 (sf_nle sf_k600 B475 (by decide))) (fun c478 => ?_)
    skip
    refine pm_R_lo pm_M8 (pc_q := 18) rfl rfl rfl ?_
    refine pm_R_get pm_M8 (pc_q := 21) (v := .ref 18) rfl rfl T469.e17 (by decide) (T469.lt (by decide)) rfl rfl ?_
    refine pm_R_lo pm_M8 (pc_q := 22) rfl rfl rfl ?_
    refine pm_R_get pm_M8 (pc_q := 25) (v := .int (m471 0)) rfl rfl T469.e17 (by decide) (T469.lt (by decide)) rfl rfl ?_
    refine pm_R_lo pm_M8 (pc_q := 26) rfl rfl rfl ?_
    refine pm_R_lo pm_M8 (pc_q := 27) rfl rfl rfl ?_
    refine sf_R_iany pm_M8 (pc_q := 28) (st := [.int (m471 0), .ref 18]) rfl rfl rfl (fun z482 => ?_)
    refine sf_R_iany pm_M8 (pc_q := 29) (st := [.int (m471 0), .ref 18]) rfl rfl rfl (fun z483 => ?_)
    have e484 := (F473.cell G (by decide) (by decide) e462)
    refine cl_R_bst G pm_M8 T469 (pc_q := 30) rfl e484 (by decide) ⟨_, rfl⟩ (sf_in B475 (by decide) (by decide)) rfl (fun h485 T486 F487 e488 => ?_)
    have F489 := F487.cl (ck := ck) T469.1
    have F490 := F474.trans (N := 0) (S := 0) F489 (by decide) (by decide) (by decide)
    refine pm_R_lo pm_M8 (pc_q := 31) rfl rfl rfl ?_
    refine pm_R_op pm_M8 (pc_q := 32) (st_q := [.ref 17, .ref 17]) rfl rfl rfl ?_
    refine pm_R_get pm_M8 (pc_q := 35) (v := .int (m471 0)) rfl rfl T486.e17 (by decide) (T486.lt (by decide)) rfl rfl ?_
    refine pm_R_op pm_M8 (pc_q := 36) (st_q := [.int 1, .int (m471 0), .ref 17]) rfl rfl rfl ?_
    refine sf_R_iadd pm_M8 (pc_q := 37) rfl rfl B475 sf_k1 (by decide) (by decide) (fun z491 e492 B493 => ?_)
    refine cl_R_put17 G pm_M8 T486 (k := 0) (pc_q := 40) rfl rfl rfl (by decide) rfl rfl (sf_weak B493 (by decide) (by decide)) rfl rfl rfl rfl rfl (fun h494 m497 em498 T495 F496 => ?_)
    have F499 := F496.cl (ck := ck) T486.1
    have F500 := F490.trans (N := 0) (S := 0) F499 (by decide) (by decide) (by decide)
    have B501 : sf_B 19 599 (m497 0) := by rw [em498]; exact B493
    have ek502 : (m497 0).toInt = (z491).toInt := by rw [em498]; rfl
    have W503 : rf_W [0] m m497 := by rw [em498]; exact W477.put (by decide)
    refine pm_R_lo pm_M8 (pc_q := 43) (ls_q := [.ref 17, .int a4, .int 0]) (st_q := []) rfl rfl rfl ?_
    refine pm_R_br pm_M8 (pc_q := 3) rfl rfl ?_
    refine pm_R_lo pm_M8 (pc_q := 4) rfl rfl rfl ?_
    refine pm_R_br pm_M8 (pc_q := 7) (st_q := []) rfl rfl ?_
    refine pm_R_lo pm_M8 (pc_q := 8) rfl rfl rfl ?_
    refine pm_R_get pm_M8 (pc_q := 11) (v := .int (m497 0)) rfl rfl T495.e17 (by decide) (T495.lt (by decide)) rfl rfl ?_
    refine pm_R_op pm_M8 (pc_q := 14) (st_q := [.int 600, .int (m497 0)]) rfl rfl rfl ?_
    refine pm_R_icmp pm_M8 (t := 40) (pc_q := 17) rfl rfl rfl (fun c504 => absurd c504 (sf_nle sf_k600 B501 (by decide))) (fun c504 => ?_)
    skip
    refine pm_R_lo pm_M8 (pc_q := 18) rfl rfl rfl ?_
    refine pm_R_get pm_M8 (pc_q := 21) (v := .ref 18) rfl rfl T495.e17 (by decide) (T495.lt (by decide)) rfl rfl ?_
    refine pm_R_lo pm_M8 (pc_q := 22) rfl rfl rfl ?_
    refine pm_R_get pm_M8 (pc_q := 25) (v := .int (m497 0)) rfl rfl T495.e17 (by decide) (T495.lt (by decide)) rfl rfl ?_
    refine pm_R_lo pm_M8 (pc_q := 26) rfl rfl rfl ?_
    refine pm_R_lo pm_M8 (pc_q := 27) rfl rfl rfl ?_
    refine sf_R_iany pm_M8 (pc_q := 28) (st := [.int (m497 0), .ref 18]) rfl rfl rfl (fun z508 => ?_)
    refine sf_R_iany pm_M8 (pc_q := 29) (st := [.int (m497 0), .ref 18]) rfl rfl rfl (fun z509 => ?_)
    have e510 := (F499.cell G (by decide) (by decide) e488)
    refine cl_R_bst G pm_M8 T495 (pc_q := 30) rfl e510 (by decide) ⟨_, rfl⟩ (sf_in B501 (by decide) (by decide)) rfl (fun h511 T512 F513 e514 => ?_)
    have F515 := F513.cl (ck := ck) T495.1
    have F516 := F500.trans (N := 0) (S := 0) F515 (by decide) (by decide) (by decide)
    refine pm_R_lo pm_M8 (pc_q := 31) rfl rfl rfl ?_
    refine pm_R_op pm_M8 (pc_q := 32) (st_q := [.ref 17, .ref 17]) rfl rfl rfl ?_
    refine pm_R_get pm_M8 (pc_q := 35) (v := .int (m497 0)) rfl rfl T512.e17 (by decide) (T512.lt (by decide)) rfl rfl ?_
    refine pm_R_op pm_M8 (pc_q := 36) (st_q := [.int 1, .int (m497 0), .ref 17]) rfl rfl rfl ?_
    refine sf_R_iadd pm_M8 (pc_q := 37) rfl rfl B501 sf_k1 (by decide) (by decide) (fun z517 e518 B519 => ?_)
    refine cl_R_put17 G pm_M8 T512 (k := 0) (pc_q := 40) rfl rfl rfl (by decide) rfl rfl (sf_weak B519 (by decide) (by decide)) rfl rfl rfl rfl rfl (fun h520 m523 em524 T521 F522 => ?_)
    have F525 := F522.cl (ck := ck) T512.1
    have F526 := F516.trans (N := 0) (S := 0) F525 (by decide) (by decide) (by decide)
    have B527 : sf_B 20 600 (m523 0) := by rw [em524]; exact B519
    have ek528 : (m523 0).toInt = (z517).toInt := by rw [em524]; rfl
    have W529 : rf_W [0] m m523 := by rw [em524]; exact W503.put (by decide)
    refine pm_R_lo pm_M8 (pc_q := 43) (ls_q := [.ref 17, .int a4, .int (-8)]) (st_q := []) rfl rfl rfl ?_
    refine pm_R_br pm_M8 (pc_q := 3) rfl rfl ?_
    refine pm_R_lo pm_M8 (pc_q := 4) rfl rfl rfl ?_
    refine pm_R_br pm_M8 (pc_q := 46) (st_q := []) rfl rfl ?_
    refine pm_R_ret pm_M8 (r := none) rfl rfl ?_
    show pm_R _ 7 60 [.ref 16, .int a0, .int a1, .int a2, .int a3, .int a4] [] _ _
    refine pm_R_lo pm_M7 (pc_q := 61) rfl rfl rfl ?_
    refine pm_R_get pm_M7 (pc_q := 64) (v := .ref 17) rfl rfl T521.e16 (by decide) (T521.lt (by decide)) rfl rfl ?_
    refine pm_R_get pm_M7 (pc_q := 67) (v := .int (m523 0)) rfl rfl T521.e17 (by decide) (T521.lt (by decide)) rfl rfl ?_
    exact pm_R_ret pm_M7 (r := some (.int (m523 0))) rfl (pm_ret_i _) (K (m523 0) m523 h520 T521 F526 W529 (Or.inr ⟨(cl_aux0 _ _ e3 (Int32.le_iff_toInt_le.mp c5)), (cl_aux1 _ _ _ _ _ _ _ _ _ _ _ _ _ _ _ _ _ _ _ _ _ _ _ _ _ _ _ _ _ _ _ _ _ _ _ _ _ _ _ _ _ e24 ek34 e50 ek60 e76 ek86 e102 ek112 e128 ek138 e154 ek164 e180 ek190 e206 ek216 e232 ek242 e258 ek268 e284 ek294 e310 ek320 e336 ek346 e362 ek372 e388 ek398 e414 ek424 e440 ek450 e466 ek476 e492 ek502 e518 ek528), (cl_aux1 _ _ _ _ _ _ _ _ _ _ _ _ _ _ _ _ _ _ _ _ _ _ _ _ _ _ _ _ _ _ _ _ _ _ _ _ _ _ _ _ _ e24 ek34 e50 ek60 e76 ek86 e102 ek112 e128 ek138 e154 ek164 e180 ek190 e206 ek216 e232 ek242 e258 ek268 e284 ek294 e310 ek320 e336 ek346 e362 ek372 e388 ek398 e414 ek424 e440 ek450 e466 ek476 e492 ek502 e518 ek528)⟩) (sf_weak B527 (by decide) (by decide)))
  · have B530 : sf_B 601 620 z2 := sf_ltR (Int32.not_le.mp c5) sf_k600 B4
    refine pm_R_op pm_M7 (pc_q := 17) (st_q := [.int (-1)]) rfl rfl rfl ?_
    exact pm_R_ret pm_M7 (r := some (.int (-1))) rfl rfl (K (-1) m h T (cl_F.refl (ck := ck) (A := [17, 18]) (n := 0) (s := 0) T.1) (rf_W.refl [0] m) (Or.inl ⟨(cl_aux2 _ _ e3 (Int32.lt_iff_toInt_lt.mp (Int32.not_le.mp c5))), rfl, rfl⟩) (sf_weak sf_kn1 (by decide) (by decide)))

theorem cl_aux3 (v0 v1 : Int) (q0 : v0 = v1) : v0 = v1 := by omega
set_option maxRecDepth 100000 in
set_option maxHeartbeats 4000000 in
/-- SilentTable.end -/
theorem cl_c9 {d : Nat} {ck : cl_K} {E : Nat → pm_E} {m : Nat → Int32} {o : Nat → Option Nat} {h : pm_H} {Q : Option Value → pm_H → Prop} {a0 : Int32} (G : cl_G ck E) (T : cl_T ck E m o h)  (K : ∀ (r : Int32) (m_q : Nat → Int32) (h_q : pm_H), cl_T ck E m_q o h_q → cl_F ck [17] 0 0 h h_q → rf_W [0] m m_q → ((r.toInt = -1 ∧ (a0.toInt < 0 ∨ (m 0).toInt < a0.toInt) ∧ m_q 0 = m 0) ∨ (0 ≤ a0.toInt ∧ a0.toInt ≤ (m 0).toInt ∧ r = a0 ∧ m_q 0 = a0)) → sf_B (-1) 600 r → Q (some (.int r)) h_q) : pm_R (d + 0) 9 0 [.ref 16, .int a0] [] h Q := by
  have B1 : sf_B 0 600 (m 0) := T.B 0
  refine pm_R_lo pm_M9 (pc_q := 1) rfl rfl rfl ?_
  refine pm_R_ifc pm_M9 (t := 15) (pc_q := 4) rfl rfl rfl (fun c2 => ?_) (fun c2 => ?_)
  · have B3 : sf_B (-2147483648) (-1) a0 := sf_ltL c2 (sf_any a0) sf_k0
    refine pm_R_op pm_M9 (pc_q := 16) (st_q := [.int (-1)]) rfl rfl rfl ?_
    exact pm_R_ret pm_M9 (r := some (.int (-1))) rfl rfl (K (-1) m h T (cl_F.refl (ck := ck) (A := [17]) (n := 0) (s := 0) T.1) (rf_W.refl [0] m) (Or.inl ⟨rfl, Or.inl (Int32.lt_iff_toInt_lt.mp c2), rfl⟩) (sf_weak sf_kn1 (by decide) (by decide)))
  · have B4 : sf_B 0 2147483647 a0 := sf_leR (Int32.not_lt.mp c2) sf_k0 (sf_any a0)
    refine pm_R_lo pm_M9 (pc_q := 5) rfl rfl rfl ?_
    refine pm_R_lo pm_M9 (pc_q := 6) rfl rfl rfl ?_
    refine pm_R_get pm_M9 (pc_q := 9) (v := .ref 17) rfl rfl T.e16 (by decide) (T.lt (by decide)) rfl rfl ?_
    refine pm_R_get pm_M9 (pc_q := 12) (v := .int (m 0)) rfl rfl T.e17 (by decide) (T.lt (by decide)) rfl rfl ?_
    refine pm_R_icmp pm_M9 (t := 17) (pc_q := 15) rfl rfl rfl (fun c5 => ?_) (fun c5 => ?_)
    · have B6 : sf_B 0 600 a0 := sf_leL c5 B4 B1
      refine pm_R_lo pm_M9 (pc_q := 18) rfl rfl rfl ?_
      refine pm_R_get pm_M9 (pc_q := 21) (v := .ref 17) rfl rfl T.e16 (by decide) (T.lt (by decide)) rfl rfl ?_
      refine pm_R_lo pm_M9 (pc_q := 22) rfl rfl rfl ?_
      refine cl_R_put17 G pm_M9 T (k := 0) (pc_q := 25) rfl rfl rfl (by decide) rfl rfl B6 rfl rfl rfl rfl rfl (fun h7 m10 em11 T8 F9 => ?_)
      have F12 := F9.cl (ck := ck) T.1
      have F13 := (cl_F.refl (ck := ck) (A := [17]) (n := 0) (s := 0) T.1).trans (N := 0) (S := 0) F12 (by decide) (by decide) (by decide)
      have B14 : sf_B 0 600 (m10 0) := by rw [em11]; exact B6
      have ek15 : (m10 0).toInt = (a0).toInt := by rw [em11]; rfl
      have W16 : rf_W [0] m m10 := by rw [em11]; exact (rf_W.refl [0] m).put (by decide)
      refine pm_R_lo pm_M9 (pc_q := 26) rfl rfl rfl ?_
      exact pm_R_ret pm_M9 (r := some (.int a0)) rfl (pm_ret_i _) (K a0 m10 h7 T8 F13 W16 (Or.inr ⟨B6.1, Int32.le_iff_toInt_le.mp c5, rfl, Int32.toInt_inj.mp (cl_aux3 _ _ ek15)⟩) (sf_weak B6 (by decide) (by decide)))
    · have B17 : sf_B 1 2147483647 a0 := sf_ltR (Int32.not_le.mp c5) B1 B4
      refine pm_R_op pm_M9 (pc_q := 16) (st_q := [.int (-1)]) rfl rfl rfl ?_
      exact pm_R_ret pm_M9 (r := some (.int (-1))) rfl rfl (K (-1) m h T (cl_F.refl (ck := ck) (A := [17]) (n := 0) (s := 0) T.1) (rf_W.refl [0] m) (Or.inl ⟨rfl, Or.inr (Int32.lt_iff_toInt_lt.mp (Int32.not_le.mp c5)), rfl⟩) (sf_weak sf_kn1 (by decide) (by decide)))

set_option maxRecDepth 100000 in
set_option maxHeartbeats 4000000 in
/-- SilentTable.fault -/
theorem cl_c55 {d : Nat} {ck : cl_K} {E : Nat → pm_E} {m : Nat → Int32} {o : Nat → Option Nat} {h : pm_H} {Q : Option Value → pm_H → Prop} {a0 : Int32} (G : cl_G ck E) (T : cl_T ck E m o h)  (K : ∀ (r : Int32), sf_B (-1) 600 r → Q (some (.int r)) h) : pm_R (d + 0) 55 0 [.ref 16, .int a0] [] h Q := by
  refine pm_R_lo pm_M55 (pc_q := 1) rfl rfl rfl ?_
  refine pm_R_ifc pm_M55 (t := 12) (pc_q := 4) rfl rfl rfl (fun c1 => ?_) (fun c1 => ?_)
  · skip
    refine pm_R_lo pm_M55 (pc_q := 13) rfl rfl rfl ?_
    refine pm_R_op pm_M55 (pc_q := 14) (st_q := [.int 1, .int a0]) rfl rfl rfl ?_
    refine pm_R_icmp pm_M55 (t := 27) (pc_q := 17) rfl rfl rfl (fun c2 => ?_) (fun c2 => ?_)
    · skip
      refine pm_R_op pm_M55 (pc_q := 28) (st_q := [.int (-1)]) rfl rfl rfl ?_
      exact pm_R_ret pm_M55 (r := some (.int (-1))) rfl rfl (K (-1) (sf_weak sf_kn1 (by decide) (by decide)))
    · have B3 : sf_B 1 1 a0 := sf_eqL (Classical.not_not.mp c2) sf_k1
      refine pm_R_lo pm_M55 (pc_q := 18) rfl rfl rfl ?_
      refine pm_R_get pm_M55 (pc_q := 21) (v := .ref 17) rfl rfl T.e16 (by decide) (T.lt (by decide)) rfl rfl ?_
      have B4 : sf_B (-1) 600 (m 2) := T.B 2
      refine pm_R_get pm_M55 (pc_q := 24) (v := .int (m 2)) rfl rfl T.e17 (by decide) (T.lt (by decide)) rfl rfl ?_
      refine pm_R_br pm_M55 (pc_q := 28) rfl rfl ?_
      exact pm_R_ret pm_M55 (r := some (.int (m 2))) rfl (pm_ret_i _) (K (m 2) B4)
  · have B5 : sf_B 0 0 a0 := sf_eqL (Classical.not_not.mp c1) sf_k0
    refine pm_R_lo pm_M55 (pc_q := 5) rfl rfl rfl ?_
    refine pm_R_get pm_M55 (pc_q := 8) (v := .ref 17) rfl rfl T.e16 (by decide) (T.lt (by decide)) rfl rfl ?_
    have B6 : sf_B 0 4 (m 1) := T.B 1
    refine pm_R_get pm_M55 (pc_q := 11) (v := .int (m 1)) rfl rfl T.e17 (by decide) (T.lt (by decide)) rfl rfl ?_
    exact pm_R_ret pm_M55 (r := some (.int (m 1))) rfl (pm_ret_i _) (K (m 1) (sf_weak B6 (by decide) (by decide)))

set_option maxRecDepth 100000 in
set_option maxHeartbeats 4000000 in
/-- SilentTable.count -/
theorem cl_c56 {d : Nat} {ck : cl_K} {E : Nat → pm_E} {m : Nat → Int32} {o : Nat → Option Nat} {h : pm_H} {Q : Option Value → pm_H → Prop} {a0 : Int32} (G : cl_G ck E) (T : cl_T ck E m o h)  (K : ∀ (r : Int32), sf_B (-2) 3 r → Q (some (.int r)) h) : pm_R (d + 0) 56 0 [.ref 16, .int a0] [] h Q := by
  refine pm_R_lo pm_M56 (pc_q := 1) rfl rfl rfl ?_
  refine pm_R_ifc pm_M56 (t := 9) (pc_q := 4) rfl rfl rfl (fun c1 => ?_) (fun c1 => ?_)
  · have B2 : sf_B (-2147483648) (-1) a0 := sf_ltL c1 (sf_any a0) sf_k0
    refine pm_R_op pm_M56 (pc_q := 11) (st_q := [.int (-2)]) rfl rfl rfl ?_
    refine pm_R_br pm_M56 (pc_q := 23) rfl rfl ?_
    exact pm_R_ret pm_M56 (r := some (.int (-2))) rfl rfl (K (-2) (sf_weak sf_kn2 (by decide) (by decide)))
  · have B3 : sf_B 0 2147483647 a0 := sf_leR (Int32.not_lt.mp c1) sf_k0 (sf_any a0)
    refine pm_R_lo pm_M56 (pc_q := 5) rfl rfl rfl ?_
    refine pm_R_op pm_M56 (pc_q := 6) (st_q := [.int 4, .int a0]) rfl rfl rfl ?_
    refine pm_R_icmp pm_M56 (t := 14) (pc_q := 9) rfl rfl rfl (fun c4 => ?_) (fun c4 => ?_)
    · have B5 : sf_B 0 3 a0 := sf_ltL c4 B3 sf_k4
      refine pm_R_lo pm_M56 (pc_q := 15) rfl rfl rfl ?_
      refine pm_R_get pm_M56 (pc_q := 18) (v := .ref 17) rfl rfl T.e16 (by decide) (T.lt (by decide)) rfl rfl ?_
      refine pm_R_get pm_M56 (pc_q := 21) (v := .ref 23) rfl rfl T.e17 (by decide) (T.lt (by decide)) rfl rfl ?_
      refine pm_R_lo pm_M56 (pc_q := 22) rfl rfl rfl ?_
      obtain ⟨f9, e10, b11⟩ := T.C 23 (by decide) (by decide)
      obtain ⟨z6, ez7⟩ : ∃ y, f9 (Int32.toNatClampNeg a0) = y := ⟨_, rfl⟩
      have B8 : sf_B 0 3 z6 := ez7 ▸ cl_c3 b11 _
      refine pm_R_iald pm_M56 (pc_q := 23) (v := z6) rfl e10 (T.lt (by decide)) (sf_in B5 (by decide) (by decide)) ez7 rfl ?_
      exact pm_R_ret pm_M56 (r := some (.int z6)) rfl (pm_ret_i _) (K z6 (sf_weak B8 (by decide) (by decide)))
    · have B12 : sf_B 4 2147483647 a0 := sf_leR (Int32.not_lt.mp c4) sf_k4 B3
      refine pm_R_op pm_M56 (pc_q := 11) (st_q := [.int (-2)]) rfl rfl rfl ?_
      refine pm_R_br pm_M56 (pc_q := 23) rfl rfl ?_
      exact pm_R_ret pm_M56 (r := some (.int (-2))) rfl rfl (K (-2) (sf_weak sf_kn2 (by decide) (by decide)))

set_option maxRecDepth 100000 in
set_option maxHeartbeats 4000000 in
/-- SilentTable.list -/
theorem cl_c61 {d : Nat} {ck : cl_K} {E : Nat → pm_E} {m : Nat → Int32} {o : Nat → Option Nat} {h : pm_H} {Q : Option Value → pm_H → Prop} {a0 : Int32} {a1 : Int32} (G : cl_G ck E) (T : cl_T ck E m o h)  (K : ∀ (r : Int32), sf_B (-1) 1023 r → Q (some (.int r)) h) : pm_R (d + 1) 61 0 [.ref 16, .int a0, .int a1, pm_no] [] h Q := by
  refine pm_R_lo pm_M61 (pc_q := 1) rfl rfl rfl ?_
  refine pm_R_lo pm_M61 (pc_q := 2) rfl rfl rfl ?_
  refine pm_R_cv pm_M61 (pc_q := 5) (a := 16) (ra := [.int a0]) (rest := []) (ls_q := [.ref 16, .int a0]) rfl rfl (Or.inl rfl) pm_M62 T.e16 rfl (by decide) (T.lt (by decide)) rfl rfl (Nat.le_of_ble_eq_true rfl) rfl rfl ?_
  refine pm_R_lo pm_M62 (pc_q := 1) rfl rfl rfl ?_
  refine pm_R_ifc pm_M62 (t := 17) (pc_q := 4) rfl rfl rfl (fun c1 => ?_) (fun c1 => ?_)
  · have B2 : sf_B (-2147483648) (-1) a0 := sf_ltL c1 (sf_any a0) sf_k0
    refine pm_R_op pm_M62 (pc_q := 18) (st_q := [.null]) rfl rfl rfl ?_
    refine pm_R_br pm_M62 (pc_q := 30) rfl rfl ?_
    refine pm_R_ret pm_M62 (r := some (.null)) rfl rfl ?_
    show pm_R _ 61 5 [.ref 16, .int a0, .int a1, pm_no] [.null] _ _
    refine pm_R_lo pm_M61 (pc_q := 6) (ls_q := [.ref 16, .int a0, .int a1, .null]) (st_q := []) rfl rfl rfl ?_
    refine pm_R_lo pm_M61 (pc_q := 7) rfl rfl rfl ?_
    refine pm_R_br pm_M61 (pc_q := 10) rfl rfl ?_
    refine pm_R_op pm_M61 (pc_q := 11) (st_q := [.int (-1)]) rfl rfl rfl ?_
    exact pm_R_ret pm_M61 (r := some (.int (-1))) rfl rfl (K (-1) (sf_weak sf_kn1 (by decide) (by decide)))
  · have B3 : sf_B 0 2147483647 a0 := sf_leR (Int32.not_lt.mp c1) sf_k0 (sf_any a0)
    refine pm_R_lo pm_M62 (pc_q := 5) rfl rfl rfl ?_
    refine pm_R_lo pm_M62 (pc_q := 6) rfl rfl rfl ?_
    refine pm_R_get pm_M62 (pc_q := 9) (v := .ref 17) rfl rfl T.e16 (by decide) (T.lt (by decide)) rfl rfl ?_
    refine pm_R_get pm_M62 (pc_q := 12) (v := .ref 23) rfl rfl T.e17 (by decide) (T.lt (by decide)) rfl rfl ?_
    refine pm_R_op pm_M62 (pc_q := 13) (st_q := [.int 0, .ref 23, .int a0]) rfl rfl rfl ?_
    obtain ⟨f7, e8, b9⟩ := T.C 23 (by decide) (by decide)
    obtain ⟨z4, ez5⟩ : ∃ y, f7 (Int32.toNatClampNeg 0) = y := ⟨_, rfl⟩
    have B6 : sf_B 0 2 z4 := ez5 ▸ (b9 0)
    refine pm_R_iald pm_M62 (pc_q := 14) (v := z4) rfl e8 (T.lt (by decide)) rfl ez5 rfl ?_
    refine pm_R_icmp pm_M62 (t := 21) (pc_q := 17) rfl rfl rfl (fun c10 => ?_) (fun c10 => ?_)
    · have B11 : sf_B 0 1 a0 := sf_ltL c10 B3 B6
      have B12 : sf_B 1 2 z4 := sf_ltR c10 B3 B6
      refine pm_R_lo pm_M62 (pc_q := 22) rfl rfl rfl ?_
      refine pm_R_get pm_M62 (pc_q := 25) (v := .ref 17) rfl rfl T.e16 (by decide) (T.lt (by decide)) rfl rfl ?_
      refine pm_R_get pm_M62 (pc_q := 28) (v := .ref 19) rfl rfl T.e17 (by decide) (T.lt (by decide)) rfl rfl ?_
      refine pm_R_lo pm_M62 (pc_q := 29) rfl rfl rfl ?_
      obtain ⟨f13, e14, b15⟩ := T.C 19 (by decide) (by decide)
      obtain ⟨l16, hx17⟩ := cl_there0 T e8 e14 ez5 c10 B11 (by decide)
      have hk18 := b15 _ _ hx17
      refine pm_R_aald pm_M62 (pc_q := 30) (v := .ref l16) rfl e14 (by decide) (by decide) (by decide) (T.lt (by decide)) (sf_in B11 (by decide) (by decide)) (by rw [hx17]; rfl) rfl ?_
      refine pm_R_ret pm_M62 (r := some (.ref l16)) rfl rfl ?_
      show pm_R _ 61 5 [.ref 16, .int a0, .int a1, pm_no] [.ref l16] _ _
      refine pm_R_lo pm_M61 (pc_q := 6) (ls_q := [.ref 16, .int a0, .int a1, .ref l16]) (st_q := []) rfl rfl rfl ?_
      refine pm_R_lo pm_M61 (pc_q := 7) rfl rfl rfl ?_
      refine pm_R_br pm_M61 (pc_q := 12) rfl rfl ?_
      refine pm_R_lo pm_M61 (pc_q := 13) rfl rfl rfl ?_
      refine pm_R_ifc pm_M61 (t := 21) (pc_q := 16) rfl rfl rfl (fun c19 => ?_) (fun c19 => ?_)
      · skip
        refine pm_R_lo pm_M61 (pc_q := 22) rfl rfl rfl ?_
        refine pm_R_op pm_M61 (pc_q := 23) (st_q := [.int 1, .int a1]) rfl rfl rfl ?_
        refine pm_R_icmp pm_M61 (t := 31) (pc_q := 26) rfl rfl rfl (fun c20 => ?_) (fun c20 => ?_)
        · skip
          refine pm_R_lo pm_M61 (pc_q := 32) rfl rfl rfl ?_
          refine pm_R_op pm_M61 (pc_q := 34) (st_q := [.int 10, .int a1]) rfl rfl rfl ?_
          refine pm_R_icmp pm_M61 (t := 55) (pc_q := 37) rfl rfl rfl (fun c21 => ?_) (fun c21 => ?_)
          · have B22 : sf_B (-2147483648) 9 a1 := sf_ltL c21 (sf_any a1) sf_k10
            refine pm_R_op pm_M61 (pc_q := 56) (st_q := [.int (-1)]) rfl rfl rfl ?_
            exact pm_R_ret pm_M61 (r := some (.int (-1))) rfl rfl (K (-1) (sf_weak sf_kn1 (by decide) (by decide)))
          · have B23 : sf_B 10 2147483647 a1 := sf_leR (Int32.not_lt.mp c21) sf_k10 (sf_any a1)
            refine pm_R_lo pm_M61 (pc_q := 38) rfl rfl rfl ?_
            refine pm_R_op pm_M61 (pc_q := 40) (st_q := [.int 20, .int a1]) rfl rfl rfl ?_
            refine pm_R_icmp pm_M61 (t := 55) (pc_q := 43) rfl rfl rfl (fun c24 => ?_) (fun c24 => ?_)
            · have B25 : sf_B 20 2147483647 a1 := sf_leR c24 sf_k20 B23
              refine pm_R_op pm_M61 (pc_q := 56) (st_q := [.int (-1)]) rfl rfl rfl ?_
              exact pm_R_ret pm_M61 (r := some (.int (-1))) rfl rfl (K (-1) (sf_weak sf_kn1 (by decide) (by decide)))
            · have B26 : sf_B 10 19 a1 := sf_ltL (Int32.not_le.mp c24) B23 sf_k20
              refine pm_R_lo pm_M61 (pc_q := 44) rfl rfl rfl ?_
              obtain ⟨rc27, tc28, rs29, fv30, fw31, fr32, ft33, fn34, h35, h36, B37, eE38, eE39, eE40, eE41, eE42, eE43, b44, b45, b46⟩ := (G.2.1 l16 hk18).2.2.2.2.2
              have kq47 := G.2.1 l16 hk18
              refine pm_R_get pm_M61 (pc_q := 47) (v := .ref (l16 + 5)) rfl rfl (T.im hk18 (by decide) (by decide) eE38) (G.ge hk18 (by decide)) (T.al hk18 (by decide)) rfl rfl ?_
              refine pm_R_lo pm_M61 (pc_q := 48) rfl rfl rfl ?_
              refine pm_R_op pm_M61 (pc_q := 50) (st_q := [.int 10, .int a1, .ref (l16 + 5)]) rfl rfl rfl ?_
              refine sf_R_isub pm_M61 (pc_q := 51) rfl rfl B26 sf_k10 (by decide) (by decide) (fun z48 e49 B50 => ?_)
              obtain ⟨z51, ez52⟩ : ∃ y, fn34 (Int32.toNatClampNeg z48) = y := ⟨_, rfl⟩
              have B53 : sf_B 0 1023 z51 := ez52 ▸ b46 _
              refine pm_R_iald pm_M61 (pc_q := 52) (v := z51) rfl (T.im kq47.2.2.2.2.1 (by decide) (by decide) eE43) (T.al kq47.2.2.2.2.1 (by decide)) (sf_in B50 (by decide) (by decide)) ez52 rfl ?_
              refine pm_R_br pm_M61 (pc_q := 56) rfl rfl ?_
              exact pm_R_ret pm_M61 (r := some (.int z51)) rfl (pm_ret_i _) (K z51 (sf_weak B53 (by decide) (by decide)))
        · have B54 : sf_B 1 1 a1 := sf_eqL (Classical.not_not.mp c20) sf_k1
          refine pm_R_lo pm_M61 (pc_q := 27) rfl rfl rfl ?_
          obtain ⟨rc55, tc56, rs57, fv58, fw59, fr60, ft61, fn62, h63, h64, B65, eE66, eE67, eE68, eE69, eE70, eE71, b72, b73, b74⟩ := (G.2.1 l16 hk18).2.2.2.2.2
          have kq75 := G.2.1 l16 hk18
          refine pm_R_get pm_M61 (pc_q := 30) (v := .int (Int32.ofNat tc56)) rfl rfl (T.im hk18 (by decide) (by decide) eE66) (G.ge hk18 (by decide)) (T.al hk18 (by decide)) rfl rfl ?_
          exact pm_R_ret pm_M61 (r := some (.int (Int32.ofNat tc56))) rfl (pm_ret_i _) (K (Int32.ofNat tc56) (sf_weak (sf_ofB h64 (by decide)) (by decide) (by decide)))
      · have B76 : sf_B 0 0 a1 := sf_eqL (Classical.not_not.mp c19) sf_k0
        refine pm_R_lo pm_M61 (pc_q := 17) rfl rfl rfl ?_
        obtain ⟨rc77, tc78, rs79, fv80, fw81, fr82, ft83, fn84, h85, h86, B87, eE88, eE89, eE90, eE91, eE92, eE93, b94, b95, b96⟩ := (G.2.1 l16 hk18).2.2.2.2.2
        have kq97 := G.2.1 l16 hk18
        refine pm_R_get pm_M61 (pc_q := 20) (v := .int (Int32.ofNat rc77)) rfl rfl (T.im hk18 (by decide) (by decide) eE88) (G.ge hk18 (by decide)) (T.al hk18 (by decide)) rfl rfl ?_
        exact pm_R_ret pm_M61 (r := some (.int (Int32.ofNat rc77))) rfl (pm_ret_i _) (K (Int32.ofNat rc77) (sf_weak (sf_ofB h85 (by decide)) (by decide) (by decide)))
    · skip
      refine pm_R_op pm_M62 (pc_q := 18) (st_q := [.null]) rfl rfl rfl ?_
      refine pm_R_br pm_M62 (pc_q := 30) rfl rfl ?_
      refine pm_R_ret pm_M62 (r := some (.null)) rfl rfl ?_
      show pm_R _ 61 5 [.ref 16, .int a0, .int a1, pm_no] [.null] _ _
      refine pm_R_lo pm_M61 (pc_q := 6) (ls_q := [.ref 16, .int a0, .int a1, .null]) (st_q := []) rfl rfl rfl ?_
      refine pm_R_lo pm_M61 (pc_q := 7) rfl rfl rfl ?_
      refine pm_R_br pm_M61 (pc_q := 10) rfl rfl ?_
      refine pm_R_op pm_M61 (pc_q := 11) (st_q := [.int (-1)]) rfl rfl rfl ?_
      exact pm_R_ret pm_M61 (r := some (.int (-1))) rfl rfl (K (-1) (sf_weak sf_kn1 (by decide) (by decide)))

theorem cl_aux4 (v0 v1 v2 v3 : Int) (q0 : v0 = v1 * 4) (q1 : v2 = v0 + v3) : v2 = 4 * v1 + v3 := by omega
set_option maxRecDepth 100000 in
set_option maxHeartbeats 4000000 in
/-- SilentTable.rule -/
theorem cl_c63 {d : Nat} {ck : cl_K} {E : Nat → pm_E} {m : Nat → Int32} {o : Nat → Option Nat} {h : pm_H} {Q : Option Value → pm_H → Prop} {a0 : Int32} {a1 : Int32} {a2 : Int32} (G : cl_G ck E) (T : cl_T ck E m o h)  (K : ∀ (r : Int32), Q (some (.int r)) h) : pm_R (d + 1) 63 0 [.ref 16, .int a0, .int a1, .int a2, pm_no] [] h Q := by
  refine pm_R_lo pm_M63 (pc_q := 1) rfl rfl rfl ?_
  refine pm_R_lo pm_M63 (pc_q := 2) rfl rfl rfl ?_
  refine pm_R_cv pm_M63 (pc_q := 5) (a := 16) (ra := [.int a0]) (rest := []) (ls_q := [.ref 16, .int a0]) rfl rfl (Or.inl rfl) pm_M62 T.e16 rfl (by decide) (T.lt (by decide)) rfl rfl (Nat.le_of_ble_eq_true rfl) rfl rfl ?_
  refine pm_R_lo pm_M62 (pc_q := 1) rfl rfl rfl ?_
  refine pm_R_ifc pm_M62 (t := 17) (pc_q := 4) rfl rfl rfl (fun c1 => ?_) (fun c1 => ?_)
  · have B2 : sf_B (-2147483648) (-1) a0 := sf_ltL c1 (sf_any a0) sf_k0
    refine pm_R_op pm_M62 (pc_q := 18) (st_q := [.null]) rfl rfl rfl ?_
    refine pm_R_br pm_M62 (pc_q := 30) rfl rfl ?_
    refine pm_R_ret pm_M62 (r := some (.null)) rfl rfl ?_
    show pm_R _ 63 5 [.ref 16, .int a0, .int a1, .int a2, pm_no] [.null] _ _
    refine pm_R_lo pm_M63 (pc_q := 7) (ls_q := [.ref 16, .int a0, .int a1, .int a2, .null]) (st_q := []) rfl rfl rfl ?_
    refine pm_R_lo pm_M63 (pc_q := 9) rfl rfl rfl ?_
    refine pm_R_br pm_M63 (pc_q := 34) rfl rfl ?_
    refine pm_R_op pm_M63 (pc_q := 35) (st_q := [.int (-1)]) rfl rfl rfl ?_
    exact pm_R_ret pm_M63 (r := some (.int (-1))) rfl rfl (K (-1))
  · have B3 : sf_B 0 2147483647 a0 := sf_leR (Int32.not_lt.mp c1) sf_k0 (sf_any a0)
    refine pm_R_lo pm_M62 (pc_q := 5) rfl rfl rfl ?_
    refine pm_R_lo pm_M62 (pc_q := 6) rfl rfl rfl ?_
    refine pm_R_get pm_M62 (pc_q := 9) (v := .ref 17) rfl rfl T.e16 (by decide) (T.lt (by decide)) rfl rfl ?_
    refine pm_R_get pm_M62 (pc_q := 12) (v := .ref 23) rfl rfl T.e17 (by decide) (T.lt (by decide)) rfl rfl ?_
    refine pm_R_op pm_M62 (pc_q := 13) (st_q := [.int 0, .ref 23, .int a0]) rfl rfl rfl ?_
    obtain ⟨f7, e8, b9⟩ := T.C 23 (by decide) (by decide)
    obtain ⟨z4, ez5⟩ : ∃ y, f7 (Int32.toNatClampNeg 0) = y := ⟨_, rfl⟩
    have B6 : sf_B 0 2 z4 := ez5 ▸ (b9 0)
    refine pm_R_iald pm_M62 (pc_q := 14) (v := z4) rfl e8 (T.lt (by decide)) rfl ez5 rfl ?_
    refine pm_R_icmp pm_M62 (t := 21) (pc_q := 17) rfl rfl rfl (fun c10 => ?_) (fun c10 => ?_)
    · have B11 : sf_B 0 1 a0 := sf_ltL c10 B3 B6
      have B12 : sf_B 1 2 z4 := sf_ltR c10 B3 B6
      refine pm_R_lo pm_M62 (pc_q := 22) rfl rfl rfl ?_
      refine pm_R_get pm_M62 (pc_q := 25) (v := .ref 17) rfl rfl T.e16 (by decide) (T.lt (by decide)) rfl rfl ?_
      refine pm_R_get pm_M62 (pc_q := 28) (v := .ref 19) rfl rfl T.e17 (by decide) (T.lt (by decide)) rfl rfl ?_
      refine pm_R_lo pm_M62 (pc_q := 29) rfl rfl rfl ?_
      obtain ⟨f13, e14, b15⟩ := T.C 19 (by decide) (by decide)
      obtain ⟨l16, hx17⟩ := cl_there0 T e8 e14 ez5 c10 B11 (by decide)
      have hk18 := b15 _ _ hx17
      refine pm_R_aald pm_M62 (pc_q := 30) (v := .ref l16) rfl e14 (by decide) (by decide) (by decide) (T.lt (by decide)) (sf_in B11 (by decide) (by decide)) (by rw [hx17]; rfl) rfl ?_
      refine pm_R_ret pm_M62 (r := some (.ref l16)) rfl rfl ?_
      show pm_R _ 63 5 [.ref 16, .int a0, .int a1, .int a2, pm_no] [.ref l16] _ _
      refine pm_R_lo pm_M63 (pc_q := 7) (ls_q := [.ref 16, .int a0, .int a1, .int a2, .ref l16]) (st_q := []) rfl rfl rfl ?_
      refine pm_R_lo pm_M63 (pc_q := 9) rfl rfl rfl ?_
      refine pm_R_br pm_M63 (pc_q := 12) rfl rfl ?_
      refine pm_R_lo pm_M63 (pc_q := 13) rfl rfl rfl ?_
      refine pm_R_ifc pm_M63 (t := 34) (pc_q := 16) rfl rfl rfl (fun c19 => ?_) (fun c19 => ?_)
      · have B20 : sf_B (-2147483648) (-1) a1 := sf_ltL c19 (sf_any a1) sf_k0
        refine pm_R_op pm_M63 (pc_q := 35) (st_q := [.int (-1)]) rfl rfl rfl ?_
        exact pm_R_ret pm_M63 (r := some (.int (-1))) rfl rfl (K (-1))
      · have B21 : sf_B 0 2147483647 a1 := sf_leR (Int32.not_lt.mp c19) sf_k0 (sf_any a1)
        refine pm_R_lo pm_M63 (pc_q := 17) rfl rfl rfl ?_
        refine pm_R_lo pm_M63 (pc_q := 19) rfl rfl rfl ?_
        obtain ⟨rc22, tc23, rs24, fv25, fw26, fr27, ft28, fn29, h30, h31, B32, eE33, eE34, eE35, eE36, eE37, eE38, b39, b40, b41⟩ := (G.2.1 l16 hk18).2.2.2.2.2
        have kq42 := G.2.1 l16 hk18
        refine pm_R_get pm_M63 (pc_q := 22) (v := .int (Int32.ofNat rc22)) rfl rfl (T.im hk18 (by decide) (by decide) eE33) (G.ge hk18 (by decide)) (T.al hk18 (by decide)) rfl rfl ?_
        refine pm_R_icmp pm_M63 (t := 34) (pc_q := 25) rfl rfl rfl (fun c43 => ?_) (fun c43 => ?_)
        · skip
          refine pm_R_op pm_M63 (pc_q := 35) (st_q := [.int (-1)]) rfl rfl rfl ?_
          exact pm_R_ret pm_M63 (r := some (.int (-1))) rfl rfl (K (-1))
        · have B44 : sf_B 0 9 a1 := sf_ltL (Int32.not_le.mp c43) B21 (sf_ofB h30 (by decide))
          have B45 : sf_B 1 10 (Int32.ofNat rc22) := sf_ltR (Int32.not_le.mp c43) B21 (sf_ofB h30 (by decide))
          refine pm_R_lo pm_M63 (pc_q := 26) rfl rfl rfl ?_
          refine pm_R_ifc pm_M63 (t := 34) (pc_q := 29) rfl rfl rfl (fun c46 => ?_) (fun c46 => ?_)
          · have B47 : sf_B (-2147483648) (-1) a2 := sf_ltL c46 (sf_any a2) sf_k0
            refine pm_R_op pm_M63 (pc_q := 35) (st_q := [.int (-1)]) rfl rfl rfl ?_
            exact pm_R_ret pm_M63 (r := some (.int (-1))) rfl rfl (K (-1))
          · have B48 : sf_B 0 2147483647 a2 := sf_leR (Int32.not_lt.mp c46) sf_k0 (sf_any a2)
            refine pm_R_lo pm_M63 (pc_q := 30) rfl rfl rfl ?_
            refine pm_R_op pm_M63 (pc_q := 31) (st_q := [.int 3, .int a2]) rfl rfl rfl ?_
            refine pm_R_icmp pm_M63 (t := 36) (pc_q := 34) rfl rfl rfl (fun c49 => ?_) (fun c49 => ?_)
            · have B50 : sf_B 0 3 a2 := sf_leL c49 B48 sf_k3
              refine pm_R_lo pm_M63 (pc_q := 38) rfl rfl rfl ?_
              refine pm_R_get pm_M63 (pc_q := 41) (v := .ref (l16 + 3)) rfl rfl (T.im hk18 (by decide) (by decide) eE33) (G.ge hk18 (by decide)) (T.al hk18 (by decide)) rfl rfl ?_
              refine pm_R_lo pm_M63 (pc_q := 42) rfl rfl rfl ?_
              refine pm_R_op pm_M63 (pc_q := 43) (st_q := [.int 4, .int a1, .ref (l16 + 3)]) rfl rfl rfl ?_
              refine sf_R_imul pm_M63 (pc_q := 44) rfl rfl B44 sf_k4 (by decide) (by decide) (by decide) (fun z51 e52 B53 => ?_)
              refine pm_R_lo pm_M63 (pc_q := 45) rfl rfl rfl ?_
              refine sf_R_iadd pm_M63 (pc_q := 46) rfl rfl B53 B50 (by decide) (by decide) (fun z54 e55 B56 => ?_)
              have q60 := cl_in4 (n := rc22) (Nat.le_trans h30 (by decide)) (Int32.not_le.mp c43) (cl_aux4 _ _ _ _ e52 e55) B44 (by decide) (cl_c03 B50 (by decide) (by decide))
              obtain ⟨z57, ez58⟩ : ∃ y, fr27 (Int32.toNatClampNeg z54) = y := ⟨_, rfl⟩
              refine pm_R_iald pm_M63 (pc_q := 47) (v := z57) rfl (T.im kq42.2.2.1 (by decide) (by decide) eE36) (T.al kq42.2.2.1 (by decide)) q60.1 ez58 rfl ?_
              exact pm_R_ret pm_M63 (r := some (.int z57)) rfl (pm_ret_i _) (K z57)
            · have B61 : sf_B 4 2147483647 a2 := sf_ltR (Int32.not_le.mp c49) sf_k3 B48
              refine pm_R_op pm_M63 (pc_q := 35) (st_q := [.int (-1)]) rfl rfl rfl ?_
              exact pm_R_ret pm_M63 (r := some (.int (-1))) rfl rfl (K (-1))
    · skip
      refine pm_R_op pm_M62 (pc_q := 18) (st_q := [.null]) rfl rfl rfl ?_
      refine pm_R_br pm_M62 (pc_q := 30) rfl rfl ?_
      refine pm_R_ret pm_M62 (r := some (.null)) rfl rfl ?_
      show pm_R _ 63 5 [.ref 16, .int a0, .int a1, .int a2, pm_no] [.null] _ _
      refine pm_R_lo pm_M63 (pc_q := 7) (ls_q := [.ref 16, .int a0, .int a1, .int a2, .null]) (st_q := []) rfl rfl rfl ?_
      refine pm_R_lo pm_M63 (pc_q := 9) rfl rfl rfl ?_
      refine pm_R_br pm_M63 (pc_q := 34) rfl rfl ?_
      refine pm_R_op pm_M63 (pc_q := 35) (st_q := [.int (-1)]) rfl rfl rfl ?_
      exact pm_R_ret pm_M63 (r := some (.int (-1))) rfl rfl (K (-1))
