set_option maxRecDepth 100000 in
set_option maxHeartbeats 4000000 in
/-- SilentTableModel.before -/
theorem rf_c278 {d : Nat} {m : Nat → Int32} {w : Int64} {h : pm_H} {Q : Option Value → pm_H → Prop} {a0 : Int32} {a1 : Int32} (T : rf_T m w h) (Ba0 : sf_B 0 50 a0) (K : ∀ (r : Int32), Q (some (.int r)) h) : pm_R (d + 2) 278 0 [.ref 41, .int a0, .int a1, pm_no, pm_no] [] h Q := by
  refine pm_R_op pm_M278 (pc_q := 1) (st_q := [.int 0]) rfl rfl rfl ?_
  refine pm_R_lo pm_M278 (pc_q := 2) (ls_q := [.ref 41, .int a0, .int a1, .int 0, pm_no]) (st_q := []) rfl rfl rfl ?_
  refine pm_R_op pm_M278 (pc_q := 3) (st_q := [.int 0]) rfl rfl rfl ?_
  refine pm_R_lo pm_M278 (pc_q := 5) (ls_q := [.ref 41, .int a0, .int a1, .int 0, .int 0]) (st_q := []) rfl rfl rfl ?_
  have L_294 : ∀ (N : Nat) (x3_294 : Int32) (x4_294 : Int32), sf_B (-2147483648) 2147483647 x3_294 → sf_B 0 50 x4_294 → (50 - x4_294.toInt).toNat = N → pm_R (d + 2) 278 5 [.ref 41, .int a0, .int a1, .int x3_294, .int x4_294] [] h Q := by
    intro N
    induction N using Nat.strongRecOn with
    | ind N ih_294 =>
      intro x3_294 x4_294 Bx3_294 Bx4_294 hN_294
      refine pm_R_lo pm_M278 (pc_q := 7) rfl rfl rfl ?_
      refine pm_R_lo pm_M278 (pc_q := 8) rfl rfl rfl ?_
      refine pm_R_icmp pm_M278 (t := 45) (pc_q := 11) rfl rfl rfl (fun c295 => ?_) (fun c295 => ?_)
      · skip
        refine pm_R_lo pm_M278 (pc_q := 46) rfl rfl rfl ?_
        exact pm_R_ret pm_M278 (r := some (.int x3_294)) rfl (pm_ret_i _) (K x3_294)
      · have B296 : sf_B 0 49 x4_294 := sf_ltL (Int32.not_le.mp c295) Bx4_294 Ba0
        have B297 : sf_B 1 50 a0 := sf_ltR (Int32.not_le.mp c295) Bx4_294 Ba0
        refine pm_R_lo pm_M278 (pc_q := 12) rfl rfl rfl ?_
        refine pm_R_lo pm_M278 (pc_q := 13) rfl rfl rfl ?_
        refine pm_R_lo pm_M278 (pc_q := 15) rfl rfl rfl ?_
        refine pm_R_cv pm_M278 (pc_q := 18) (a := 41) (ra := [.int x4_294]) (rest := [.int x3_294]) (ls_q := [.ref 41, .int x4_294]) rfl rfl (Or.inl rfl) pm_M256 T.2.1 rfl (by decide) (Nat.lt_of_lt_of_le (by decide) T.1) rfl rfl (Nat.le_of_ble_eq_true rfl) rfl rfl ?_
        refine pm_R_lo pm_M256 (pc_q := 1) rfl rfl rfl ?_
        refine pm_R_lo pm_M256 (pc_q := 2) rfl rfl rfl ?_
        refine pm_R_op pm_M256 (pc_q := 3) (st_q := [.int 0, .int x4_294, .ref 41]) rfl rfl rfl ?_
        refine pm_R_cv pm_M256 (pc_q := 6) (a := 41) (ra := [.int 0, .int x4_294]) (rest := []) (ls_q := [.ref 41, .int x4_294, .int 0]) rfl rfl (Or.inl rfl) pm_M255 T.2.1 rfl (by decide) (Nat.lt_of_lt_of_le (by decide) T.1) rfl rfl (Nat.le_of_ble_eq_true rfl) rfl rfl ?_
        refine pm_R_lo pm_M255 (pc_q := 1) rfl rfl rfl ?_
        refine rf_R_get pm_M255 T (pc_q := 4) (v := .ref 49) rfl rfl rfl rfl ?_
        refine pm_R_op pm_M255 (pc_q := 7) (st_q := [.int 152, .ref 49]) rfl rfl rfl ?_
        refine pm_R_lo pm_M255 (pc_q := 8) rfl rfl rfl ?_
        have B298 : sf_B 0 1 (m 44) := T.2.2.1 44
        refine rf_R_get pm_M255 T (pc_q := 11) (v := .int (m 44)) rfl rfl rfl rfl ?_
        refine sf_R_imul pm_M255 (pc_q := 12) rfl rfl sf_k152 B298 (by decide) (by decide) (by decide) (fun z299 e300 B301 => ?_)
        refine pm_R_op pm_M255 (pc_q := 13) (st_q := [.int 2, .int z299, .ref 49]) rfl rfl rfl ?_
        refine sf_R_iadd pm_M255 (pc_q := 14) rfl rfl B301 sf_k2 (by decide) (by decide) (fun z302 e303 B304 => ?_)
        refine pm_R_op pm_M255 (pc_q := 15) (st_q := [.int 3, .int z302, .ref 49]) rfl rfl rfl ?_
        refine pm_R_lo pm_M255 (pc_q := 16) rfl rfl rfl ?_
        refine sf_R_imul pm_M255 (pc_q := 17) rfl rfl sf_k3 B296 (by decide) (by decide) (by decide) (fun z305 e306 B307 => ?_)
        refine sf_R_iadd pm_M255 (pc_q := 18) rfl rfl B304 B307 (by decide) (by decide) (fun z308 e309 B310 => ?_)
        refine pm_R_lo pm_M255 (pc_q := 19) rfl rfl rfl ?_
        refine sf_R_iadd pm_M255 (pc_q := 20) rfl rfl B310 sf_k0 (by decide) (by decide) (fun z311 e312 B313 => ?_)
        obtain ⟨f314, e315, b316⟩ := T.2.2.2.1 49 (by decide) (by decide)
        refine rf_R_ild pm_M255 T (pc_q := 21) rfl e315 (by decide) (sf_in B313 (by decide) (by decide)) rfl (fun z317 ez318 => ?_)
        have e319 : (z311).toInt = 152 * ((m 44)).toInt + 3 * (x4_294).toInt + 2 := (sf_aux18 _ _ _ _ _ _ _ e300 e303 e306 e309 e312)
        have B320 : sf_B 0 2 z317 := ez318 ▸ rf_p49s b316 e319 B298 B296 (by decide) (by decide) (by decide)
        refine pm_R_ret pm_M255 (r := some (.int z317)) rfl (pm_ret_i _) ?_
        show pm_R _ 256 6 [.ref 41, .int x4_294] [.int z317] _ _
        refine pm_R_op pm_M256 (pc_q := 7) (st_q := [.int 2, .int z317]) rfl rfl rfl ?_
        refine pm_R_icmp pm_M256 (t := 14) (pc_q := 10) rfl rfl rfl (fun c321 => ?_) (fun c321 => ?_)
        · have B322 : sf_B 0 1 z317 := sf_neH0 c321 sf_k2 B320
          refine pm_R_op pm_M256 (pc_q := 15) (st_q := [.int 0]) rfl rfl rfl ?_
          refine pm_R_ret pm_M256 (r := some (.int 0)) rfl rfl ?_
          show pm_R _ 278 18 [.ref 41, .int a0, .int a1, .int x3_294, .int x4_294] [.int 0, .int x3_294] _ _
          refine pm_R_br pm_M278 (pc_q := 36) (st_q := [.int x3_294]) rfl rfl ?_
          refine pm_R_op pm_M278 (pc_q := 37) (st_q := [.int 0, .int x3_294]) rfl rfl rfl ?_
          refine sf_R_iadd pm_M278 (pc_q := 38) rfl rfl Bx3_294 sf_k0 (by decide) (by decide) (fun z323 e324 B325 => ?_)
          refine pm_R_lo pm_M278 (pc_q := 39) (ls_q := [.ref 41, .int a0, .int a1, .int z323, .int x4_294]) (st_q := []) rfl rfl rfl ?_
          refine sf_R_iinc pm_M278 (pc_q := 42) (ls_q := fun z => [.ref 41, .int a0, .int a1, .int z323, .int z]) rfl B296 rfl (by decide) (by decide) (by decide) (fun _ => rfl) rfl (fun z326 e327 B328 => ?_)
          show pm_R _ 278 42 [.ref 41, .int a0, .int a1, .int z323, .int z326] [] _ _
          refine pm_R_br pm_M278 (pc_q := 5) rfl rfl ?_
          exact ih_294 _ (sf_up hN_294 e327 B296 (by decide) (by decide)) z323 z326 B325 (sf_weak B328 (by decide) (by decide)) rfl
        · have B329 : sf_B 2 2 z317 := sf_eqL (Classical.not_not.mp c321) sf_k2
          refine pm_R_op pm_M256 (pc_q := 11) (st_q := [.int 1]) rfl rfl rfl ?_
          refine pm_R_br pm_M256 (pc_q := 15) rfl rfl ?_
          refine pm_R_ret pm_M256 (r := some (.int 1)) rfl rfl ?_
          show pm_R _ 278 18 [.ref 41, .int a0, .int a1, .int x3_294, .int x4_294] [.int 1, .int x3_294] _ _
          refine pm_R_br pm_M278 (pc_q := 21) (st_q := [.int x3_294]) rfl rfl ?_
          refine pm_R_lo pm_M278 (pc_q := 22) rfl rfl rfl ?_
          refine pm_R_lo pm_M278 (pc_q := 24) rfl rfl rfl ?_
          refine pm_R_op pm_M278 (pc_q := 25) (st_q := [.int 2, .int x4_294, .ref 41, .int x3_294]) rfl rfl rfl ?_
          refine pm_R_cv pm_M278 (pc_q := 28) (a := 41) (ra := [.int 2, .int x4_294]) (rest := [.int x3_294]) (ls_q := [.ref 41, .int x4_294, .int 2]) rfl rfl (Or.inl rfl) pm_M255 T.2.1 rfl (by decide) (Nat.lt_of_lt_of_le (by decide) T.1) rfl rfl (Nat.le_of_ble_eq_true rfl) rfl rfl ?_
          refine pm_R_lo pm_M255 (pc_q := 1) rfl rfl rfl ?_
          refine rf_R_get pm_M255 T (pc_q := 4) (v := .ref 49) rfl rfl rfl rfl ?_
          refine pm_R_op pm_M255 (pc_q := 7) (st_q := [.int 152, .ref 49]) rfl rfl rfl ?_
          refine pm_R_lo pm_M255 (pc_q := 8) rfl rfl rfl ?_
          refine rf_R_get pm_M255 T (pc_q := 11) (v := .int (m 44)) rfl rfl rfl rfl ?_
          refine sf_R_imulV pm_M255 (pc_q := 12) rfl rfl sf_k152 B298 (by decide) (by decide) (by decide) e300 ?_
          refine pm_R_op pm_M255 (pc_q := 13) (st_q := [.int 2, .int z299, .ref 49]) rfl rfl rfl ?_
          refine sf_R_iaddV pm_M255 (pc_q := 14) rfl rfl B301 sf_k2 (by decide) (by decide) e303 ?_
          refine pm_R_op pm_M255 (pc_q := 15) (st_q := [.int 3, .int z302, .ref 49]) rfl rfl rfl ?_
          refine pm_R_lo pm_M255 (pc_q := 16) rfl rfl rfl ?_
          refine sf_R_imulV pm_M255 (pc_q := 17) rfl rfl sf_k3 B296 (by decide) (by decide) (by decide) e306 ?_
          refine sf_R_iaddV pm_M255 (pc_q := 18) rfl rfl B304 B307 (by decide) (by decide) e309 ?_
          refine pm_R_lo pm_M255 (pc_q := 19) rfl rfl rfl ?_
          refine sf_R_iadd pm_M255 (pc_q := 20) rfl rfl B310 sf_k2 (by decide) (by decide) (fun z330 e331 B332 => ?_)
          refine rf_R_ild pm_M255 T (pc_q := 21) rfl e315 (by decide) (sf_in B332 (by decide) (by decide)) rfl (fun z333 ez334 => ?_)
          have e335 : (z330).toInt = 152 * ((m 44)).toInt + 3 * (x4_294).toInt + 4 := (sf_aux19 _ _ _ _ _ _ _ e300 e303 e306 e309 e331)
          have B336 : sf_B (-1) 9 z333 := ez334 ▸ rf_p49o b316 e335 B298 B296 (by decide) (by decide) (by decide)
          refine pm_R_ret pm_M255 (r := some (.int z333)) rfl (pm_ret_i _) ?_
          show pm_R _ 278 28 [.ref 41, .int a0, .int a1, .int x3_294, .int x4_294] [.int z333, .int x3_294] _ _
          refine pm_R_lo pm_M278 (pc_q := 29) rfl rfl rfl ?_
          refine pm_R_icmp pm_M278 (t := 36) (pc_q := 32) rfl rfl rfl (fun c337 => ?_) (fun c337 => ?_)
          · skip
            refine pm_R_op pm_M278 (pc_q := 37) (st_q := [.int 0, .int x3_294]) rfl rfl rfl ?_
            refine sf_R_iadd pm_M278 (pc_q := 38) rfl rfl Bx3_294 sf_k0 (by decide) (by decide) (fun z338 e339 B340 => ?_)
            refine pm_R_lo pm_M278 (pc_q := 39) (ls_q := [.ref 41, .int a0, .int a1, .int z338, .int x4_294]) (st_q := []) rfl rfl rfl ?_
            refine sf_R_iinc pm_M278 (pc_q := 42) (ls_q := fun z => [.ref 41, .int a0, .int a1, .int z338, .int z]) rfl B296 rfl (by decide) (by decide) (by decide) (fun _ => rfl) rfl (fun z341 e342 B343 => ?_)
            show pm_R _ 278 42 [.ref 41, .int a0, .int a1, .int z338, .int z341] [] _ _
            refine pm_R_br pm_M278 (pc_q := 5) rfl rfl ?_
            exact ih_294 _ (sf_up hN_294 e342 B296 (by decide) (by decide)) z338 z341 B340 (sf_weak B343 (by decide) (by decide)) rfl
          · have B344 : sf_B (-1) 9 a1 := sf_eqR (Classical.not_not.mp c337) B336
            refine pm_R_op pm_M278 (pc_q := 33) (st_q := [.int 1, .int x3_294]) rfl rfl rfl ?_
            refine pm_R_br pm_M278 (pc_q := 37) rfl rfl ?_
            refine sf_R_iany pm_M278 (pc_q := 38) (st := []) rfl rfl rfl (fun z348 => ?_)
            refine pm_R_lo pm_M278 (pc_q := 39) (ls_q := [.ref 41, .int a0, .int a1, .int z348, .int x4_294]) (st_q := []) rfl rfl rfl ?_
            refine sf_R_iinc pm_M278 (pc_q := 42) (ls_q := fun z => [.ref 41, .int a0, .int a1, .int z348, .int z]) rfl B296 rfl (by decide) (by decide) (by decide) (fun _ => rfl) rfl (fun z349 e350 B351 => ?_)
            show pm_R _ 278 42 [.ref 41, .int a0, .int a1, .int z348, .int z349] [] _ _
            refine pm_R_br pm_M278 (pc_q := 5) rfl rfl ?_
            exact ih_294 _ (sf_up hN_294 e350 B296 (by decide) (by decide)) z348 z349 (sf_any z348) (sf_weak B351 (by decide) (by decide)) rfl
  exact L_294 _ 0 0 (sf_weak sf_k0 (by decide) (by decide)) (sf_weak sf_k0 (by decide) (by decide)) rfl

set_option maxRecDepth 100000 in
set_option maxHeartbeats 4000000 in
/-- SilentTableModel.ownLast -/
theorem rf_c279 {d : Nat} {m : Nat → Int32} {w : Int64} {h : pm_H} {Q : Option Value → pm_H → Prop} {a0 : Int32} (T : rf_T m w h) (Ba0 : sf_B 0 49 a0) (K : ∀ (r : Int32), sf_B (-1) 9 r → Q (some (.int r)) h) : pm_R (d + 2) 279 0 [.ref 41, .int a0, pm_no] [] h Q := by
  refine pm_R_lo pm_M279 (pc_q := 1) rfl rfl rfl ?_
  refine pm_R_op pm_M279 (pc_q := 2) (st_q := [.int 1, .int a0]) rfl rfl rfl ?_
  refine sf_R_isub pm_M279 (pc_q := 3) rfl rfl Ba0 sf_k1 (by decide) (by decide) (fun z1 e2 B3 => ?_)
  refine pm_R_lo pm_M279 (pc_q := 4) (ls_q := [.ref 41, .int a0, .int z1]) (st_q := []) rfl rfl rfl ?_
  have L_132 : ∀ (N : Nat) (x2_132 : Int32), sf_B (-1) 48 x2_132 → (x2_132.toInt - (-1)).toNat = N → pm_R (d + 2) 279 4 [.ref 41, .int a0, .int x2_132] [] h Q := by
    intro N
    induction N using Nat.strongRecOn with
    | ind N ih_132 =>
      intro x2_132 Bx2_132 hN_132
      refine pm_R_lo pm_M279 (pc_q := 5) rfl rfl rfl ?_
      refine pm_R_ifc pm_M279 (t := 44) (pc_q := 8) rfl rfl rfl (fun c133 => ?_) (fun c133 => ?_)
      · have B134 : sf_B (-1) (-1) x2_132 := sf_ltL c133 Bx2_132 sf_k0
        refine pm_R_op pm_M279 (pc_q := 45) (st_q := [.int (-1)]) rfl rfl rfl ?_
        exact pm_R_ret pm_M279 (r := some (.int (-1))) rfl rfl (K (-1) (sf_weak sf_kn1 (by decide) (by decide)))
      · have B135 : sf_B 0 48 x2_132 := sf_leR (Int32.not_lt.mp c133) sf_k0 Bx2_132
        refine pm_R_lo pm_M279 (pc_q := 9) rfl rfl rfl ?_
        refine pm_R_lo pm_M279 (pc_q := 10) rfl rfl rfl ?_
        refine pm_R_cv pm_M279 (pc_q := 13) (a := 41) (ra := [.int x2_132]) (rest := []) (ls_q := [.ref 41, .int x2_132]) rfl rfl (Or.inl rfl) pm_M256 T.2.1 rfl (by decide) (Nat.lt_of_lt_of_le (by decide) T.1) rfl rfl (Nat.le_of_ble_eq_true rfl) rfl rfl ?_
        refine pm_R_lo pm_M256 (pc_q := 1) rfl rfl rfl ?_
        refine pm_R_lo pm_M256 (pc_q := 2) rfl rfl rfl ?_
        refine pm_R_op pm_M256 (pc_q := 3) (st_q := [.int 0, .int x2_132, .ref 41]) rfl rfl rfl ?_
        refine pm_R_cv pm_M256 (pc_q := 6) (a := 41) (ra := [.int 0, .int x2_132]) (rest := []) (ls_q := [.ref 41, .int x2_132, .int 0]) rfl rfl (Or.inl rfl) pm_M255 T.2.1 rfl (by decide) (Nat.lt_of_lt_of_le (by decide) T.1) rfl rfl (Nat.le_of_ble_eq_true rfl) rfl rfl ?_
        refine pm_R_lo pm_M255 (pc_q := 1) rfl rfl rfl ?_
        refine rf_R_get pm_M255 T (pc_q := 4) (v := .ref 49) rfl rfl rfl rfl ?_
        refine pm_R_op pm_M255 (pc_q := 7) (st_q := [.int 152, .ref 49]) rfl rfl rfl ?_
        refine pm_R_lo pm_M255 (pc_q := 8) rfl rfl rfl ?_
        have B136 : sf_B 0 1 (m 44) := T.2.2.1 44
        refine rf_R_get pm_M255 T (pc_q := 11) (v := .int (m 44)) rfl rfl rfl rfl ?_
        refine sf_R_imul pm_M255 (pc_q := 12) rfl rfl sf_k152 B136 (by decide) (by decide) (by decide) (fun z137 e138 B139 => ?_)
        refine pm_R_op pm_M255 (pc_q := 13) (st_q := [.int 2, .int z137, .ref 49]) rfl rfl rfl ?_
        refine sf_R_iadd pm_M255 (pc_q := 14) rfl rfl B139 sf_k2 (by decide) (by decide) (fun z140 e141 B142 => ?_)
        refine pm_R_op pm_M255 (pc_q := 15) (st_q := [.int 3, .int z140, .ref 49]) rfl rfl rfl ?_
        refine pm_R_lo pm_M255 (pc_q := 16) rfl rfl rfl ?_
        refine sf_R_imul pm_M255 (pc_q := 17) rfl rfl sf_k3 B135 (by decide) (by decide) (by decide) (fun z143 e144 B145 => ?_)
        refine sf_R_iadd pm_M255 (pc_q := 18) rfl rfl B142 B145 (by decide) (by decide) (fun z146 e147 B148 => ?_)
        refine pm_R_lo pm_M255 (pc_q := 19) rfl rfl rfl ?_
        refine sf_R_iadd pm_M255 (pc_q := 20) rfl rfl B148 sf_k0 (by decide) (by decide) (fun z149 e150 B151 => ?_)
        obtain ⟨f152, e153, b154⟩ := T.2.2.2.1 49 (by decide) (by decide)
        refine rf_R_ild pm_M255 T (pc_q := 21) rfl e153 (by decide) (sf_in B151 (by decide) (by decide)) rfl (fun z155 ez156 => ?_)
        have e157 : (z149).toInt = 152 * ((m 44)).toInt + 3 * (x2_132).toInt + 2 := (sf_aux18 _ _ _ _ _ _ _ e138 e141 e144 e147 e150)
        have B158 : sf_B 0 2 z155 := ez156 ▸ rf_p49s b154 e157 B136 B135 (by decide) (by decide) (by decide)
        refine pm_R_ret pm_M255 (r := some (.int z155)) rfl (pm_ret_i _) ?_
        show pm_R _ 256 6 [.ref 41, .int x2_132] [.int z155] _ _
        refine pm_R_op pm_M256 (pc_q := 7) (st_q := [.int 2, .int z155]) rfl rfl rfl ?_
        refine pm_R_icmp pm_M256 (t := 14) (pc_q := 10) rfl rfl rfl (fun c159 => ?_) (fun c159 => ?_)
        · have B160 : sf_B 0 1 z155 := sf_neH0 c159 sf_k2 B158
          refine pm_R_op pm_M256 (pc_q := 15) (st_q := [.int 0]) rfl rfl rfl ?_
          refine pm_R_ret pm_M256 (r := some (.int 0)) rfl rfl ?_
          show pm_R _ 279 13 [.ref 41, .int a0, .int x2_132] [.int 0] _ _
          refine pm_R_br pm_M279 (pc_q := 38) (st_q := []) rfl rfl ?_
          refine sf_R_iinc pm_M279 (pc_q := 41) (ls_q := fun z => [.ref 41, .int a0, .int z]) rfl B135 rfl (by decide) (by decide) (by decide) (fun _ => rfl) rfl (fun z161 e162 B163 => ?_)
          show pm_R _ 279 41 [.ref 41, .int a0, .int z161] [] _ _
          refine pm_R_br pm_M279 (pc_q := 4) rfl rfl ?_
          exact ih_132 _ (sf_dn hN_132 e162 B135 (by decide) (by decide)) z161 (sf_weak B163 (by decide) (by decide)) rfl
        · have B164 : sf_B 2 2 z155 := sf_eqL (Classical.not_not.mp c159) sf_k2
          refine pm_R_op pm_M256 (pc_q := 11) (st_q := [.int 1]) rfl rfl rfl ?_
          refine pm_R_br pm_M256 (pc_q := 15) rfl rfl ?_
          refine pm_R_ret pm_M256 (r := some (.int 1)) rfl rfl ?_
          show pm_R _ 279 13 [.ref 41, .int a0, .int x2_132] [.int 1] _ _
          refine pm_R_br pm_M279 (pc_q := 16) (st_q := []) rfl rfl ?_
          refine pm_R_lo pm_M279 (pc_q := 17) rfl rfl rfl ?_
          refine pm_R_lo pm_M279 (pc_q := 18) rfl rfl rfl ?_
          refine pm_R_op pm_M279 (pc_q := 19) (st_q := [.int 1, .int x2_132, .ref 41]) rfl rfl rfl ?_
          refine pm_R_cv pm_M279 (pc_q := 22) (a := 41) (ra := [.int 1, .int x2_132]) (rest := []) (ls_q := [.ref 41, .int x2_132, .int 1]) rfl rfl (Or.inl rfl) pm_M255 T.2.1 rfl (by decide) (Nat.lt_of_lt_of_le (by decide) T.1) rfl rfl (Nat.le_of_ble_eq_true rfl) rfl rfl ?_
          refine pm_R_lo pm_M255 (pc_q := 1) rfl rfl rfl ?_
          refine rf_R_get pm_M255 T (pc_q := 4) (v := .ref 49) rfl rfl rfl rfl ?_
          refine pm_R_op pm_M255 (pc_q := 7) (st_q := [.int 152, .ref 49]) rfl rfl rfl ?_
          refine pm_R_lo pm_M255 (pc_q := 8) rfl rfl rfl ?_
          refine rf_R_get pm_M255 T (pc_q := 11) (v := .int (m 44)) rfl rfl rfl rfl ?_
          refine sf_R_imulV pm_M255 (pc_q := 12) rfl rfl sf_k152 B136 (by decide) (by decide) (by decide) e138 ?_
          refine pm_R_op pm_M255 (pc_q := 13) (st_q := [.int 2, .int z137, .ref 49]) rfl rfl rfl ?_
          refine sf_R_iaddV pm_M255 (pc_q := 14) rfl rfl B139 sf_k2 (by decide) (by decide) e141 ?_
          refine pm_R_op pm_M255 (pc_q := 15) (st_q := [.int 3, .int z140, .ref 49]) rfl rfl rfl ?_
          refine pm_R_lo pm_M255 (pc_q := 16) rfl rfl rfl ?_
          refine sf_R_imulV pm_M255 (pc_q := 17) rfl rfl sf_k3 B135 (by decide) (by decide) (by decide) e144 ?_
          refine sf_R_iaddV pm_M255 (pc_q := 18) rfl rfl B142 B145 (by decide) (by decide) e147 ?_
          refine pm_R_lo pm_M255 (pc_q := 19) rfl rfl rfl ?_
          refine sf_R_iadd pm_M255 (pc_q := 20) rfl rfl B148 sf_k1 (by decide) (by decide) (fun z165 e166 B167 => ?_)
          refine rf_R_ild pm_M255 T (pc_q := 21) rfl e153 (by decide) (sf_in B167 (by decide) (by decide)) rfl (fun z168 ez169 => ?_)
          have e170 : (z165).toInt = 152 * ((m 44)).toInt + 3 * (x2_132).toInt + 3 := (sf_aux17 _ _ _ _ _ _ _ e138 e141 e144 e147 e166)
          have B171 : sf_B 0 5 z168 := ez169 ▸ rf_p49w b154 e170 B136 B135 (by decide) (by decide) (by decide)
          refine pm_R_ret pm_M255 (r := some (.int z168)) rfl (pm_ret_i _) ?_
          show pm_R _ 279 22 [.ref 41, .int a0, .int x2_132] [.int z168] _ _
          refine pm_R_lo pm_M279 (pc_q := 23) rfl rfl rfl ?_
          refine pm_R_lo pm_M279 (pc_q := 24) rfl rfl rfl ?_
          refine pm_R_op pm_M279 (pc_q := 25) (st_q := [.int 1, .int a0, .ref 41, .int z168]) rfl rfl rfl ?_
          refine pm_R_cv pm_M279 (pc_q := 28) (a := 41) (ra := [.int 1, .int a0]) (rest := [.int z168]) (ls_q := [.ref 41, .int a0, .int 1]) rfl rfl (Or.inl rfl) pm_M255 T.2.1 rfl (by decide) (Nat.lt_of_lt_of_le (by decide) T.1) rfl rfl (Nat.le_of_ble_eq_true rfl) rfl rfl ?_
          refine pm_R_lo pm_M255 (pc_q := 1) rfl rfl rfl ?_
          refine rf_R_get pm_M255 T (pc_q := 4) (v := .ref 49) rfl rfl rfl rfl ?_
          refine pm_R_op pm_M255 (pc_q := 7) (st_q := [.int 152, .ref 49]) rfl rfl rfl ?_
          refine pm_R_lo pm_M255 (pc_q := 8) rfl rfl rfl ?_
          refine rf_R_get pm_M255 T (pc_q := 11) (v := .int (m 44)) rfl rfl rfl rfl ?_
          refine sf_R_imulV pm_M255 (pc_q := 12) rfl rfl sf_k152 B136 (by decide) (by decide) (by decide) e138 ?_
          refine pm_R_op pm_M255 (pc_q := 13) (st_q := [.int 2, .int z137, .ref 49]) rfl rfl rfl ?_
          refine sf_R_iaddV pm_M255 (pc_q := 14) rfl rfl B139 sf_k2 (by decide) (by decide) e141 ?_
          refine pm_R_op pm_M255 (pc_q := 15) (st_q := [.int 3, .int z140, .ref 49]) rfl rfl rfl ?_
          refine pm_R_lo pm_M255 (pc_q := 16) rfl rfl rfl ?_
          refine sf_R_imul pm_M255 (pc_q := 17) rfl rfl sf_k3 Ba0 (by decide) (by decide) (by decide) (fun z172 e173 B174 => ?_)
          refine sf_R_iadd pm_M255 (pc_q := 18) rfl rfl B142 B174 (by decide) (by decide) (fun z175 e176 B177 => ?_)
          refine pm_R_lo pm_M255 (pc_q := 19) rfl rfl rfl ?_
          refine sf_R_iadd pm_M255 (pc_q := 20) rfl rfl B177 sf_k1 (by decide) (by decide) (fun z178 e179 B180 => ?_)
          refine rf_R_ild pm_M255 T (pc_q := 21) rfl e153 (by decide) (sf_in B180 (by decide) (by decide)) rfl (fun z181 ez182 => ?_)
          have e183 : (z178).toInt = 152 * ((m 44)).toInt + 3 * (a0).toInt + 3 := (sf_aux17 _ _ _ _ _ _ _ e138 e141 e173 e176 e179)
          have B184 : sf_B 0 5 z181 := ez182 ▸ rf_p49w b154 e183 B136 Ba0 (by decide) (by decide) (by decide)
          refine pm_R_ret pm_M255 (r := some (.int z181)) rfl (pm_ret_i _) ?_
          show pm_R _ 279 28 [.ref 41, .int a0, .int x2_132] [.int z181, .int z168] _ _
          refine pm_R_icmp pm_M279 (t := 38) (pc_q := 31) rfl rfl rfl (fun c185 => ?_) (fun c185 => ?_)
          · skip
            refine sf_R_iinc pm_M279 (pc_q := 41) (ls_q := fun z => [.ref 41, .int a0, .int z]) rfl B135 rfl (by decide) (by decide) (by decide) (fun _ => rfl) rfl (fun z186 e187 B188 => ?_)
            show pm_R _ 279 41 [.ref 41, .int a0, .int z186] [] _ _
            refine pm_R_br pm_M279 (pc_q := 4) rfl rfl ?_
            exact ih_132 _ (sf_dn hN_132 e187 B135 (by decide) (by decide)) z186 (sf_weak B188 (by decide) (by decide)) rfl
          · refine pm_R_lo pm_M279 (pc_q := 32) rfl rfl rfl ?_
            refine pm_R_lo pm_M279 (pc_q := 33) rfl rfl rfl ?_
            refine pm_R_op pm_M279 (pc_q := 34) (st_q := [.int 2, .int x2_132, .ref 41]) rfl rfl rfl ?_
            refine pm_R_cv pm_M279 (pc_q := 37) (a := 41) (ra := [.int 2, .int x2_132]) (rest := []) (ls_q := [.ref 41, .int x2_132, .int 2]) rfl rfl (Or.inl rfl) pm_M255 T.2.1 rfl (by decide) (Nat.lt_of_lt_of_le (by decide) T.1) rfl rfl (Nat.le_of_ble_eq_true rfl) rfl rfl ?_
            refine pm_R_lo pm_M255 (pc_q := 1) rfl rfl rfl ?_
            refine rf_R_get pm_M255 T (pc_q := 4) (v := .ref 49) rfl rfl rfl rfl ?_
            refine pm_R_op pm_M255 (pc_q := 7) (st_q := [.int 152, .ref 49]) rfl rfl rfl ?_
            refine pm_R_lo pm_M255 (pc_q := 8) rfl rfl rfl ?_
            refine rf_R_get pm_M255 T (pc_q := 11) (v := .int (m 44)) rfl rfl rfl rfl ?_
            refine sf_R_imulV pm_M255 (pc_q := 12) rfl rfl sf_k152 B136 (by decide) (by decide) (by decide) e138 ?_
            refine pm_R_op pm_M255 (pc_q := 13) (st_q := [.int 2, .int z137, .ref 49]) rfl rfl rfl ?_
            refine sf_R_iaddV pm_M255 (pc_q := 14) rfl rfl B139 sf_k2 (by decide) (by decide) e141 ?_
            refine pm_R_op pm_M255 (pc_q := 15) (st_q := [.int 3, .int z140, .ref 49]) rfl rfl rfl ?_
            refine pm_R_lo pm_M255 (pc_q := 16) rfl rfl rfl ?_
            refine sf_R_imulV pm_M255 (pc_q := 17) rfl rfl sf_k3 B135 (by decide) (by decide) (by decide) e144 ?_
            refine sf_R_iaddV pm_M255 (pc_q := 18) rfl rfl B142 B145 (by decide) (by decide) e147 ?_
            refine pm_R_lo pm_M255 (pc_q := 19) rfl rfl rfl ?_
            refine sf_R_iadd pm_M255 (pc_q := 20) rfl rfl B148 sf_k2 (by decide) (by decide) (fun z189 e190 B191 => ?_)
            refine rf_R_ild pm_M255 T (pc_q := 21) rfl e153 (by decide) (sf_in B191 (by decide) (by decide)) rfl (fun z192 ez193 => ?_)
            have e194 : (z189).toInt = 152 * ((m 44)).toInt + 3 * (x2_132).toInt + 4 := (sf_aux19 _ _ _ _ _ _ _ e138 e141 e144 e147 e190)
            have B195 : sf_B (-1) 9 z192 := ez193 ▸ rf_p49o b154 e194 B136 B135 (by decide) (by decide) (by decide)
            refine pm_R_ret pm_M255 (r := some (.int z192)) rfl (pm_ret_i _) ?_
            show pm_R _ 279 37 [.ref 41, .int a0, .int x2_132] [.int z192] _ _
            exact pm_R_ret pm_M279 (r := some (.int z192)) rfl (pm_ret_i _) (K z192 B195)
  exact L_132 _ z1 B3 rfl

theorem sf_aux20 (v0 v1 : Int) (q0 : v0 = 25 * v1) : v0 = 25 * v1 + 0 := by omega
theorem sf_aux21 (v0 v1 v2 v3 v4 v5 v6 : Int) (q0 : v0 = 25 * v1) (q1 : v2 = v0 + 1) (q2 : v3 = 3 * v4) (q3 : v5 = v2 + v3) (q4 : v6 = v5 + 1) : v6 = 25 * v1 + 3 * v4 + 2 := by omega
theorem sf_aux22 (v0 v1 v2 v3 v4 v5 v6 : Int) (q0 : v0 = 25 * v1) (q1 : v2 = v0 + 1) (q2 : v3 = 3 * v4) (q3 : v5 = v2 + v3) (q4 : v6 = v5 + 2) : v6 = 25 * v1 + 3 * v4 + 3 := by omega
theorem sf_aux23 (v0 v1 v2 v3 v4 v5 v6 : Int) (q0 : v0 = 25 * v1) (q1 : v2 = v0 + 1) (q2 : v3 = 3 * v4) (q3 : v5 = v2 + v3) (q4 : v6 = v5 + 0) : v6 = 25 * v1 + 3 * v4 + 1 := by omega
set_option maxRecDepth 100000 in
set_option maxHeartbeats 4000000 in
/-- SilentTableModel.broken -/
theorem rf_c276 {d : Nat} {m : Nat → Int32} {w : Int64} {h : pm_H} {Q : Option Value → pm_H → Prop} {a0 : Int32} {a1 : Int32} (T : rf_T m w h) (Ba0 : sf_B 0 49 a0) (K : ∀ (r : Int32), sf_B (-1) 7 r → Q (some (.int r)) h) : pm_R (d + 4) 276 0 [.ref 41, .int a0, .int a1, pm_no] [] h Q := by
  refine pm_R_op pm_M276 (pc_q := 1) (st_q := [.int 0]) rfl rfl rfl ?_
  refine pm_R_lo pm_M276 (pc_q := 2) (ls_q := [.ref 41, .int a0, .int a1, .int 0]) (st_q := []) rfl rfl rfl ?_
  have L_956 : ∀ (N : Nat) (x3_956 : Int32), sf_B 0 8 x3_956 → (8 - x3_956.toInt).toNat = N → pm_R (d + 4) 276 2 [.ref 41, .int a0, .int a1, .int x3_956] [] h Q := by
    intro N
    induction N using Nat.strongRecOn with
    | ind N ih_956 =>
      intro x3_956 Bx3_956 hN_956
      refine pm_R_lo pm_M276 (pc_q := 3) rfl rfl rfl ?_
      refine pm_R_lo pm_M276 (pc_q := 4) rfl rfl rfl ?_
      refine pm_R_cv pm_M276 (pc_q := 7) (a := 41) (ra := []) (rest := [.int x3_956]) (ls_q := [.ref 41]) rfl rfl (Or.inl rfl) pm_M272 T.2.1 rfl (by decide) (Nat.lt_of_lt_of_le (by decide) T.1) rfl rfl (Nat.le_of_ble_eq_true rfl) rfl rfl ?_
      refine pm_R_lo pm_M272 (pc_q := 1) rfl rfl rfl ?_
      refine rf_R_get pm_M272 T (pc_q := 4) (v := .ref 50) rfl rfl rfl rfl ?_
      refine pm_R_op pm_M272 (pc_q := 6) (st_q := [.int 25, .ref 50]) rfl rfl rfl ?_
      refine pm_R_lo pm_M272 (pc_q := 7) rfl rfl rfl ?_
      have B957 : sf_B 0 1 (m 49) := T.2.2.1 49
      refine rf_R_get pm_M272 T (pc_q := 10) (v := .int (m 49)) rfl rfl rfl rfl ?_
      refine sf_R_imul pm_M272 (pc_q := 11) rfl rfl sf_k25 B957 (by decide) (by decide) (by decide) (fun z958 e959 B960 => ?_)
      obtain ⟨f961, e962, b963⟩ := T.2.2.2.1 50 (by decide) (by decide)
      refine rf_R_ild pm_M272 T (pc_q := 12) rfl e962 (by decide) (sf_in B960 (by decide) (by decide)) rfl (fun z964 ez965 => ?_)
      have e966 : (z958).toInt = 25 * ((m 49)).toInt + 0 := (sf_aux20 _ _ e959)
      have B967 : sf_B 0 8 z964 := ez965 ▸ rf_p50a b963 e966 B957 (by decide)
      refine pm_R_ret pm_M272 (r := some (.int z964)) rfl (pm_ret_i _) ?_
      show pm_R _ 276 7 [.ref 41, .int a0, .int a1, .int x3_956] [.int z964, .int x3_956] _ _
      refine pm_R_icmp pm_M276 (t := 32) (pc_q := 10) rfl rfl rfl (fun c968 => ?_) (fun c968 => ?_)
      · skip
        refine pm_R_op pm_M276 (pc_q := 33) (st_q := [.int (-1)]) rfl rfl rfl ?_
        exact pm_R_ret pm_M276 (r := some (.int (-1))) rfl rfl (K (-1) (sf_weak sf_kn1 (by decide) (by decide)))
      · have B969 : sf_B 0 7 x3_956 := sf_ltL (Int32.not_le.mp c968) Bx3_956 B967
        have B970 : sf_B 1 8 z964 := sf_ltR (Int32.not_le.mp c968) Bx3_956 B967
        refine pm_R_lo pm_M276 (pc_q := 11) rfl rfl rfl ?_
        refine pm_R_lo pm_M276 (pc_q := 12) rfl rfl rfl ?_
        refine pm_R_icmp pm_M276 (t := 26) (pc_q := 15) rfl rfl rfl (fun c971 => ?_) (fun c971 => ?_)
        · have B972 : sf_B 0 7 a1 := sf_eqR c971 B969
          refine sf_R_iinc pm_M276 (pc_q := 29) (ls_q := fun z => [.ref 41, .int a0, .int a1, .int z]) rfl B969 rfl (by decide) (by decide) (by decide) (fun _ => rfl) rfl (fun z973 e974 B975 => ?_)
          show pm_R _ 276 29 [.ref 41, .int a0, .int a1, .int z973] [] _ _
          refine pm_R_br pm_M276 (pc_q := 2) rfl rfl ?_
          exact ih_956 _ (sf_up hN_956 e974 B969 (by decide) (by decide)) z973 (sf_weak B975 (by decide) (by decide)) rfl
        · skip
          refine pm_R_lo pm_M276 (pc_q := 16) rfl rfl rfl ?_
          refine pm_R_lo pm_M276 (pc_q := 17) rfl rfl rfl ?_
          refine pm_R_lo pm_M276 (pc_q := 18) rfl rfl rfl ?_
          refine pm_R_cv pm_M276 (pc_q := 21) (a := 41) (ra := [.int x3_956, .int a0]) (rest := []) (ls_q := [.ref 41, .int a0, .int x3_956, pm_no, pm_no, pm_no]) rfl rfl (Or.inl rfl) pm_M277 T.2.1 rfl (by decide) (Nat.lt_of_lt_of_le (by decide) T.1) rfl rfl (Nat.le_of_ble_eq_true rfl) rfl rfl ?_
          refine pm_R_lo pm_M277 (pc_q := 1) rfl rfl rfl ?_
          refine pm_R_lo pm_M277 (pc_q := 2) rfl rfl rfl ?_
          refine pm_R_cv pm_M277 (pc_q := 5) (a := 41) (ra := [.int a0]) (rest := []) (ls_q := [.ref 41, .int a0]) rfl rfl (Or.inl rfl) pm_M256 T.2.1 rfl (by decide) (Nat.lt_of_lt_of_le (by decide) T.1) rfl rfl (Nat.le_of_ble_eq_true rfl) rfl rfl ?_
          refine pm_R_lo pm_M256 (pc_q := 1) rfl rfl rfl ?_
          refine pm_R_lo pm_M256 (pc_q := 2) rfl rfl rfl ?_
          refine pm_R_op pm_M256 (pc_q := 3) (st_q := [.int 0, .int a0, .ref 41]) rfl rfl rfl ?_
          refine pm_R_cv pm_M256 (pc_q := 6) (a := 41) (ra := [.int 0, .int a0]) (rest := []) (ls_q := [.ref 41, .int a0, .int 0]) rfl rfl (Or.inl rfl) pm_M255 T.2.1 rfl (by decide) (Nat.lt_of_lt_of_le (by decide) T.1) rfl rfl (Nat.le_of_ble_eq_true rfl) rfl rfl ?_
          refine pm_R_lo pm_M255 (pc_q := 1) rfl rfl rfl ?_
          refine rf_R_get pm_M255 T (pc_q := 4) (v := .ref 49) rfl rfl rfl rfl ?_
          refine pm_R_op pm_M255 (pc_q := 7) (st_q := [.int 152, .ref 49]) rfl rfl rfl ?_
          refine pm_R_lo pm_M255 (pc_q := 8) rfl rfl rfl ?_
          have B976 : sf_B 0 1 (m 44) := T.2.2.1 44
          refine rf_R_get pm_M255 T (pc_q := 11) (v := .int (m 44)) rfl rfl rfl rfl ?_
          refine sf_R_imul pm_M255 (pc_q := 12) rfl rfl sf_k152 B976 (by decide) (by decide) (by decide) (fun z977 e978 B979 => ?_)
          refine pm_R_op pm_M255 (pc_q := 13) (st_q := [.int 2, .int z977, .ref 49]) rfl rfl rfl ?_
          refine sf_R_iadd pm_M255 (pc_q := 14) rfl rfl B979 sf_k2 (by decide) (by decide) (fun z980 e981 B982 => ?_)
          refine pm_R_op pm_M255 (pc_q := 15) (st_q := [.int 3, .int z980, .ref 49]) rfl rfl rfl ?_
          refine pm_R_lo pm_M255 (pc_q := 16) rfl rfl rfl ?_
          refine sf_R_imul pm_M255 (pc_q := 17) rfl rfl sf_k3 Ba0 (by decide) (by decide) (by decide) (fun z983 e984 B985 => ?_)
          refine sf_R_iadd pm_M255 (pc_q := 18) rfl rfl B982 B985 (by decide) (by decide) (fun z986 e987 B988 => ?_)
          refine pm_R_lo pm_M255 (pc_q := 19) rfl rfl rfl ?_
          refine sf_R_iadd pm_M255 (pc_q := 20) rfl rfl B988 sf_k0 (by decide) (by decide) (fun z989 e990 B991 => ?_)
          obtain ⟨f992, e993, b994⟩ := T.2.2.2.1 49 (by decide) (by decide)
          refine rf_R_ild pm_M255 T (pc_q := 21) rfl e993 (by decide) (sf_in B991 (by decide) (by decide)) rfl (fun z995 ez996 => ?_)
          have e997 : (z989).toInt = 152 * ((m 44)).toInt + 3 * (a0).toInt + 2 := (sf_aux18 _ _ _ _ _ _ _ e978 e981 e984 e987 e990)
          have B998 : sf_B 0 2 z995 := ez996 ▸ rf_p49s b994 e997 B976 Ba0 (by decide) (by decide) (by decide)
          refine pm_R_ret pm_M255 (r := some (.int z995)) rfl (pm_ret_i _) ?_
          show pm_R _ 256 6 [.ref 41, .int a0] [.int z995] _ _
          refine pm_R_op pm_M256 (pc_q := 7) (st_q := [.int 2, .int z995]) rfl rfl rfl ?_
          refine pm_R_icmp pm_M256 (t := 14) (pc_q := 10) rfl rfl rfl (fun c999 => ?_) (fun c999 => ?_)
          · have B1000 : sf_B 0 1 z995 := sf_neH0 c999 sf_k2 B998
            refine pm_R_op pm_M256 (pc_q := 15) (st_q := [.int 0]) rfl rfl rfl ?_
            refine pm_R_ret pm_M256 (r := some (.int 0)) rfl rfl ?_
            show pm_R _ 277 5 [.ref 41, .int a0, .int x3_956, pm_no, pm_no, pm_no] [.int 0] _ _
            refine pm_R_br pm_M277 (pc_q := 8) (st_q := []) rfl rfl ?_
            refine pm_R_op pm_M277 (pc_q := 9) (st_q := [.int 0]) rfl rfl rfl ?_
            refine pm_R_ret pm_M277 (r := some (.int 0)) rfl rfl ?_
            show pm_R _ 276 21 [.ref 41, .int a0, .int a1, .int x3_956] [.int 0] _ _
            refine pm_R_br pm_M276 (pc_q := 26) (st_q := []) rfl rfl ?_
            refine sf_R_iinc pm_M276 (pc_q := 29) (ls_q := fun z => [.ref 41, .int a0, .int a1, .int z]) rfl B969 rfl (by decide) (by decide) (by decide) (fun _ => rfl) rfl (fun z1001 e1002 B1003 => ?_)
            show pm_R _ 276 29 [.ref 41, .int a0, .int a1, .int z1001] [] _ _
            refine pm_R_br pm_M276 (pc_q := 2) rfl rfl ?_
            exact ih_956 _ (sf_up hN_956 e1002 B969 (by decide) (by decide)) z1001 (sf_weak B1003 (by decide) (by decide)) rfl
          · have B1004 : sf_B 2 2 z995 := sf_eqL (Classical.not_not.mp c999) sf_k2
            refine pm_R_op pm_M256 (pc_q := 11) (st_q := [.int 1]) rfl rfl rfl ?_
            refine pm_R_br pm_M256 (pc_q := 15) rfl rfl ?_
            refine pm_R_ret pm_M256 (r := some (.int 1)) rfl rfl ?_
            show pm_R _ 277 5 [.ref 41, .int a0, .int x3_956, pm_no, pm_no, pm_no] [.int 1] _ _
            refine pm_R_br pm_M277 (pc_q := 10) (st_q := []) rfl rfl ?_
            refine pm_R_lo pm_M277 (pc_q := 11) rfl rfl rfl ?_
            refine pm_R_lo pm_M277 (pc_q := 12) rfl rfl rfl ?_
            refine pm_R_op pm_M277 (pc_q := 13) (st_q := [.int 2, .int a0, .ref 41]) rfl rfl rfl ?_
            refine pm_R_cv pm_M277 (pc_q := 16) (a := 41) (ra := [.int 2, .int a0]) (rest := []) (ls_q := [.ref 41, .int a0, .int 2]) rfl rfl (Or.inl rfl) pm_M255 T.2.1 rfl (by decide) (Nat.lt_of_lt_of_le (by decide) T.1) rfl rfl (Nat.le_of_ble_eq_true rfl) rfl rfl ?_
            refine pm_R_lo pm_M255 (pc_q := 1) rfl rfl rfl ?_
            refine rf_R_get pm_M255 T (pc_q := 4) (v := .ref 49) rfl rfl rfl rfl ?_
            refine pm_R_op pm_M255 (pc_q := 7) (st_q := [.int 152, .ref 49]) rfl rfl rfl ?_
            refine pm_R_lo pm_M255 (pc_q := 8) rfl rfl rfl ?_
            refine rf_R_get pm_M255 T (pc_q := 11) (v := .int (m 44)) rfl rfl rfl rfl ?_
            refine sf_R_imulV pm_M255 (pc_q := 12) rfl rfl sf_k152 B976 (by decide) (by decide) (by decide) e978 ?_
            refine pm_R_op pm_M255 (pc_q := 13) (st_q := [.int 2, .int z977, .ref 49]) rfl rfl rfl ?_
            refine sf_R_iaddV pm_M255 (pc_q := 14) rfl rfl B979 sf_k2 (by decide) (by decide) e981 ?_
            refine pm_R_op pm_M255 (pc_q := 15) (st_q := [.int 3, .int z980, .ref 49]) rfl rfl rfl ?_
            refine pm_R_lo pm_M255 (pc_q := 16) rfl rfl rfl ?_
            refine sf_R_imulV pm_M255 (pc_q := 17) rfl rfl sf_k3 Ba0 (by decide) (by decide) (by decide) e984 ?_
            refine sf_R_iaddV pm_M255 (pc_q := 18) rfl rfl B982 B985 (by decide) (by decide) e987 ?_
            refine pm_R_lo pm_M255 (pc_q := 19) rfl rfl rfl ?_
            refine sf_R_iadd pm_M255 (pc_q := 20) rfl rfl B988 sf_k2 (by decide) (by decide) (fun z1005 e1006 B1007 => ?_)
            refine rf_R_ild pm_M255 T (pc_q := 21) rfl e993 (by decide) (sf_in B1007 (by decide) (by decide)) rfl (fun z1008 ez1009 => ?_)
            have e1010 : (z1005).toInt = 152 * ((m 44)).toInt + 3 * (a0).toInt + 4 := (sf_aux19 _ _ _ _ _ _ _ e978 e981 e984 e987 e1006)
            have B1011 : sf_B (-1) 9 z1008 := ez1009 ▸ rf_p49o b994 e1010 B976 Ba0 (by decide) (by decide) (by decide)
            refine pm_R_ret pm_M255 (r := some (.int z1008)) rfl (pm_ret_i _) ?_
            show pm_R _ 277 16 [.ref 41, .int a0, .int x3_956, pm_no, pm_no, pm_no] [.int z1008] _ _
            refine pm_R_lo pm_M277 (pc_q := 17) (ls_q := [.ref 41, .int a0, .int x3_956, .int z1008, pm_no, pm_no]) (st_q := []) rfl rfl rfl ?_
            refine pm_R_lo pm_M277 (pc_q := 18) rfl rfl rfl ?_
            refine pm_R_lo pm_M277 (pc_q := 19) rfl rfl rfl ?_
            refine pm_R_op pm_M277 (pc_q := 20) (st_q := [.int 1, .int x3_956, .ref 41]) rfl rfl rfl ?_
            refine pm_R_cv pm_M277 (pc_q := 23) (a := 41) (ra := [.int 1, .int x3_956]) (rest := []) (ls_q := [.ref 41, .int x3_956, .int 1]) rfl rfl (Or.inl rfl) pm_M273 T.2.1 rfl (by decide) (Nat.lt_of_lt_of_le (by decide) T.1) rfl rfl (Nat.le_of_ble_eq_true rfl) rfl rfl ?_
            refine pm_R_lo pm_M273 (pc_q := 1) rfl rfl rfl ?_
            refine rf_R_get pm_M273 T (pc_q := 4) (v := .ref 50) rfl rfl rfl rfl ?_
            refine pm_R_op pm_M273 (pc_q := 6) (st_q := [.int 25, .ref 50]) rfl rfl rfl ?_
            refine pm_R_lo pm_M273 (pc_q := 7) rfl rfl rfl ?_
            refine rf_R_get pm_M273 T (pc_q := 10) (v := .int (m 49)) rfl rfl rfl rfl ?_
            refine sf_R_imulV pm_M273 (pc_q := 11) rfl rfl sf_k25 B957 (by decide) (by decide) (by decide) e959 ?_
            refine pm_R_op pm_M273 (pc_q := 12) (st_q := [.int 1, .int z958, .ref 50]) rfl rfl rfl ?_
            refine sf_R_iadd pm_M273 (pc_q := 13) rfl rfl B960 sf_k1 (by decide) (by decide) (fun z1012 e1013 B1014 => ?_)
            refine pm_R_op pm_M273 (pc_q := 14) (st_q := [.int 3, .int z1012, .ref 50]) rfl rfl rfl ?_
            refine pm_R_lo pm_M273 (pc_q := 15) rfl rfl rfl ?_
            refine sf_R_imul pm_M273 (pc_q := 16) rfl rfl sf_k3 B969 (by decide) (by decide) (by decide) (fun z1015 e1016 B1017 => ?_)
            refine sf_R_iadd pm_M273 (pc_q := 17) rfl rfl B1014 B1017 (by decide) (by decide) (fun z1018 e1019 B1020 => ?_)
            refine pm_R_lo pm_M273 (pc_q := 18) rfl rfl rfl ?_
            refine sf_R_iadd pm_M273 (pc_q := 19) rfl rfl B1020 sf_k1 (by decide) (by decide) (fun z1021 e1022 B1023 => ?_)
            refine rf_R_ild pm_M273 T (pc_q := 20) rfl e962 (by decide) (sf_in B1023 (by decide) (by decide)) rfl (fun z1024 ez1025 => ?_)
            have e1026 : (z1021).toInt = 25 * ((m 49)).toInt + 3 * (x3_956).toInt + 2 := (sf_aux21 _ _ _ _ _ _ _ e959 e1013 e1016 e1019 e1022)
            have B1027 : sf_B 0 9 z1024 := ez1025 ▸ rf_p50f b963 e1026 B957 B969 (by decide) (by decide) (by decide)
            refine pm_R_ret pm_M273 (r := some (.int z1024)) rfl (pm_ret_i _) ?_
            show pm_R _ 277 23 [.ref 41, .int a0, .int x3_956, .int z1008, pm_no, pm_no] [.int z1024] _ _
            refine pm_R_lo pm_M277 (pc_q := 25) (ls_q := [.ref 41, .int a0, .int x3_956, .int z1008, .int z1024, pm_no]) (st_q := []) rfl rfl rfl ?_
            refine pm_R_lo pm_M277 (pc_q := 26) rfl rfl rfl ?_
            refine pm_R_lo pm_M277 (pc_q := 27) rfl rfl rfl ?_
            refine pm_R_op pm_M277 (pc_q := 28) (st_q := [.int 2, .int x3_956, .ref 41]) rfl rfl rfl ?_
            refine pm_R_cv pm_M277 (pc_q := 31) (a := 41) (ra := [.int 2, .int x3_956]) (rest := []) (ls_q := [.ref 41, .int x3_956, .int 2]) rfl rfl (Or.inl rfl) pm_M273 T.2.1 rfl (by decide) (Nat.lt_of_lt_of_le (by decide) T.1) rfl rfl (Nat.le_of_ble_eq_true rfl) rfl rfl ?_
            refine pm_R_lo pm_M273 (pc_q := 1) rfl rfl rfl ?_
            refine rf_R_get pm_M273 T (pc_q := 4) (v := .ref 50) rfl rfl rfl rfl ?_
            refine pm_R_op pm_M273 (pc_q := 6) (st_q := [.int 25, .ref 50]) rfl rfl rfl ?_
            refine pm_R_lo pm_M273 (pc_q := 7) rfl rfl rfl ?_
            refine rf_R_get pm_M273 T (pc_q := 10) (v := .int (m 49)) rfl rfl rfl rfl ?_
            refine sf_R_imulV pm_M273 (pc_q := 11) rfl rfl sf_k25 B957 (by decide) (by decide) (by decide) e959 ?_
            refine pm_R_op pm_M273 (pc_q := 12) (st_q := [.int 1, .int z958, .ref 50]) rfl rfl rfl ?_
            refine sf_R_iaddV pm_M273 (pc_q := 13) rfl rfl B960 sf_k1 (by decide) (by decide) e1013 ?_
            refine pm_R_op pm_M273 (pc_q := 14) (st_q := [.int 3, .int z1012, .ref 50]) rfl rfl rfl ?_
            refine pm_R_lo pm_M273 (pc_q := 15) rfl rfl rfl ?_
            refine sf_R_imulV pm_M273 (pc_q := 16) rfl rfl sf_k3 B969 (by decide) (by decide) (by decide) e1016 ?_
            refine sf_R_iaddV pm_M273 (pc_q := 17) rfl rfl B1014 B1017 (by decide) (by decide) e1019 ?_
            refine pm_R_lo pm_M273 (pc_q := 18) rfl rfl rfl ?_
            refine sf_R_iadd pm_M273 (pc_q := 19) rfl rfl B1020 sf_k2 (by decide) (by decide) (fun z1028 e1029 B1030 => ?_)
            refine rf_R_ild pm_M273 T (pc_q := 20) rfl e962 (by decide) (sf_in B1030 (by decide) (by decide)) rfl (fun z1031 ez1032 => ?_)
            have e1033 : (z1028).toInt = 25 * ((m 49)).toInt + 3 * (x3_956).toInt + 3 := (sf_aux22 _ _ _ _ _ _ _ e959 e1013 e1016 e1019 e1029)
            have B1034 : sf_B (-1) 9 z1031 := ez1032 ▸ rf_p50o b963 e1033 B957 B969 (by decide) (by decide) (by decide)
            refine pm_R_ret pm_M273 (r := some (.int z1031)) rfl (pm_ret_i _) ?_
            show pm_R _ 277 31 [.ref 41, .int a0, .int x3_956, .int z1008, .int z1024, pm_no] [.int z1031] _ _
            refine pm_R_lo pm_M277 (pc_q := 33) (ls_q := [.ref 41, .int a0, .int x3_956, .int z1008, .int z1024, .int z1031]) (st_q := []) rfl rfl rfl ?_
            refine pm_R_lo pm_M277 (pc_q := 34) rfl rfl rfl ?_
            refine pm_R_lo pm_M277 (pc_q := 35) rfl rfl rfl ?_
            refine pm_R_op pm_M277 (pc_q := 36) (st_q := [.int 0, .int x3_956, .ref 41]) rfl rfl rfl ?_
            refine pm_R_cv pm_M277 (pc_q := 39) (a := 41) (ra := [.int 0, .int x3_956]) (rest := []) (ls_q := [.ref 41, .int x3_956, .int 0]) rfl rfl (Or.inl rfl) pm_M273 T.2.1 rfl (by decide) (Nat.lt_of_lt_of_le (by decide) T.1) rfl rfl (Nat.le_of_ble_eq_true rfl) rfl rfl ?_
            refine pm_R_lo pm_M273 (pc_q := 1) rfl rfl rfl ?_
            refine rf_R_get pm_M273 T (pc_q := 4) (v := .ref 50) rfl rfl rfl rfl ?_
            refine pm_R_op pm_M273 (pc_q := 6) (st_q := [.int 25, .ref 50]) rfl rfl rfl ?_
            refine pm_R_lo pm_M273 (pc_q := 7) rfl rfl rfl ?_
            refine rf_R_get pm_M273 T (pc_q := 10) (v := .int (m 49)) rfl rfl rfl rfl ?_
            refine sf_R_imulV pm_M273 (pc_q := 11) rfl rfl sf_k25 B957 (by decide) (by decide) (by decide) e959 ?_
            refine pm_R_op pm_M273 (pc_q := 12) (st_q := [.int 1, .int z958, .ref 50]) rfl rfl rfl ?_
            refine sf_R_iaddV pm_M273 (pc_q := 13) rfl rfl B960 sf_k1 (by decide) (by decide) e1013 ?_
            refine pm_R_op pm_M273 (pc_q := 14) (st_q := [.int 3, .int z1012, .ref 50]) rfl rfl rfl ?_
            refine pm_R_lo pm_M273 (pc_q := 15) rfl rfl rfl ?_
            refine sf_R_imulV pm_M273 (pc_q := 16) rfl rfl sf_k3 B969 (by decide) (by decide) (by decide) e1016 ?_
            refine sf_R_iaddV pm_M273 (pc_q := 17) rfl rfl B1014 B1017 (by decide) (by decide) e1019 ?_
            refine pm_R_lo pm_M273 (pc_q := 18) rfl rfl rfl ?_
            refine sf_R_iadd pm_M273 (pc_q := 19) rfl rfl B1020 sf_k0 (by decide) (by decide) (fun z1035 e1036 B1037 => ?_)
            refine rf_R_ild pm_M273 T (pc_q := 20) rfl e962 (by decide) (sf_in B1037 (by decide) (by decide)) rfl (fun z1038 ez1039 => ?_)
            have e1040 : (z1035).toInt = 25 * ((m 49)).toInt + 3 * (x3_956).toInt + 1 := (sf_aux23 _ _ _ _ _ _ _ e959 e1013 e1016 e1019 e1036)
            have B1041 : sf_B 0 5 z1038 := ez1039 ▸ rf_p50s b963 e1040 B957 B969 (by decide) (by decide) (by decide)
            refine pm_R_ret pm_M273 (r := some (.int z1038)) rfl (pm_ret_i _) ?_
            show pm_R _ 277 39 [.ref 41, .int a0, .int x3_956, .int z1008, .int z1024, .int z1031] [.int z1038] _ _
            by_cases c1042 : z1038 = 0
            · rw [c1042]
              refine pm_R_br pm_M277 (pc_q := 72) (st_q := []) rfl rfl ?_
              refine pm_R_lo pm_M277 (pc_q := 73) rfl rfl rfl ?_
              refine pm_R_lo pm_M277 (pc_q := 75) rfl rfl rfl ?_
              refine pm_R_icmp pm_M277 (t := 82) (pc_q := 78) rfl rfl rfl (fun c1043 => ?_) (fun c1043 => ?_)
              · skip
                refine pm_R_op pm_M277 (pc_q := 83) (st_q := [.int 0]) rfl rfl rfl ?_
                refine pm_R_ret pm_M277 (r := some (.int 0)) rfl rfl ?_
                show pm_R _ 276 21 [.ref 41, .int a0, .int a1, .int x3_956] [.int 0] _ _
                refine pm_R_br pm_M276 (pc_q := 26) (st_q := []) rfl rfl ?_
                refine sf_R_iinc pm_M276 (pc_q := 29) (ls_q := fun z => [.ref 41, .int a0, .int a1, .int z]) rfl B969 rfl (by decide) (by decide) (by decide) (fun _ => rfl) rfl (fun z1044 e1045 B1046 => ?_)
                show pm_R _ 276 29 [.ref 41, .int a0, .int a1, .int z1044] [] _ _
                refine pm_R_br pm_M276 (pc_q := 2) rfl rfl ?_
                exact ih_956 _ (sf_up hN_956 e1045 B969 (by decide) (by decide)) z1044 (sf_weak B1046 (by decide) (by decide)) rfl
              · have B1047 : sf_B 0 9 z1008 := sf_eqL (Classical.not_not.mp c1043) B1027
                refine pm_R_op pm_M277 (pc_q := 79) (st_q := [.int 1]) rfl rfl rfl ?_
                refine pm_R_br pm_M277 (pc_q := 83) rfl rfl ?_
                refine pm_R_ret pm_M277 (r := some (.int 1)) rfl rfl ?_
                show pm_R _ 276 21 [.ref 41, .int a0, .int a1, .int x3_956] [.int 1] _ _
                refine pm_R_br pm_M276 (pc_q := 24) (st_q := []) rfl rfl ?_
                refine pm_R_lo pm_M276 (pc_q := 25) rfl rfl rfl ?_
                exact pm_R_ret pm_M276 (r := some (.int x3_956)) rfl (pm_ret_i _) (K x3_956 (sf_weak B969 (by decide) (by decide)))
            have B1048 : sf_B 1 5 z1038 := sf_neL0 c1042 sf_k0 B1041
            by_cases c1049 : z1038 = 1
            · rw [c1049]
              refine pm_R_br pm_M277 (pc_q := 84) (st_q := []) rfl rfl ?_
              refine pm_R_lo pm_M277 (pc_q := 85) rfl rfl rfl ?_
              refine pm_R_lo pm_M277 (pc_q := 87) rfl rfl rfl ?_
              refine pm_R_icmp pm_M277 (t := 105) (pc_q := 90) rfl rfl rfl (fun c1050 => ?_) (fun c1050 => ?_)
              · skip
                refine pm_R_op pm_M277 (pc_q := 106) (st_q := [.int 0]) rfl rfl rfl ?_
                refine pm_R_ret pm_M277 (r := some (.int 0)) rfl rfl ?_
                show pm_R _ 276 21 [.ref 41, .int a0, .int a1, .int x3_956] [.int 0] _ _
                refine pm_R_br pm_M276 (pc_q := 26) (st_q := []) rfl rfl ?_
                refine sf_R_iinc pm_M276 (pc_q := 29) (ls_q := fun z => [.ref 41, .int a0, .int a1, .int z]) rfl B969 rfl (by decide) (by decide) (by decide) (fun _ => rfl) rfl (fun z1051 e1052 B1053 => ?_)
                show pm_R _ 276 29 [.ref 41, .int a0, .int a1, .int z1051] [] _ _
                refine pm_R_br pm_M276 (pc_q := 2) rfl rfl ?_
                exact ih_956 _ (sf_up hN_956 e1052 B969 (by decide) (by decide)) z1051 (sf_weak B1053 (by decide) (by decide)) rfl
              · have B1054 : sf_B 0 9 z1008 := sf_eqL (Classical.not_not.mp c1050) B1027
                refine pm_R_lo pm_M277 (pc_q := 91) rfl rfl rfl ?_
                refine pm_R_lo pm_M277 (pc_q := 92) rfl rfl rfl ?_
                refine pm_R_lo pm_M277 (pc_q := 93) rfl rfl rfl ?_
                refine pm_R_cv pm_M277 (pc_q := 96) (a := 41) (ra := [.int z1008, .int a0]) (rest := []) (ls_q := [.ref 41, .int a0, .int z1008, pm_no, pm_no]) rfl rfl (Or.inl rfl) pm_M278 T.2.1 rfl (by decide) (Nat.lt_of_lt_of_le (by decide) T.1) rfl rfl (Nat.le_of_ble_eq_true rfl) rfl rfl ?_
                refine rf_c278 (d := d + 0) T (sf_weak Ba0 (by decide) (by decide)) (fun r1055 => ?_)
                show pm_R _ 277 96 [.ref 41, .int a0, .int x3_956, .int z1008, .int z1024, .int z1031] [.int r1055] _ _
                refine pm_R_lo pm_M277 (pc_q := 98) rfl rfl rfl ?_
                refine pm_R_icmp pm_M277 (t := 105) (pc_q := 101) rfl rfl rfl (fun c1063 => ?_) (fun c1063 => ?_)
                · have B1064 : sf_B (-2147483648) 8 r1055 := sf_ltL c1063 (sf_any r1055) B1034
                  refine pm_R_op pm_M277 (pc_q := 106) (st_q := [.int 0]) rfl rfl rfl ?_
                  refine pm_R_ret pm_M277 (r := some (.int 0)) rfl rfl ?_
                  show pm_R _ 276 21 [.ref 41, .int a0, .int a1, .int x3_956] [.int 0] _ _
                  refine pm_R_br pm_M276 (pc_q := 26) (st_q := []) rfl rfl ?_
                  refine sf_R_iinc pm_M276 (pc_q := 29) (ls_q := fun z => [.ref 41, .int a0, .int a1, .int z]) rfl B969 rfl (by decide) (by decide) (by decide) (fun _ => rfl) rfl (fun z1065 e1066 B1067 => ?_)
                  show pm_R _ 276 29 [.ref 41, .int a0, .int a1, .int z1065] [] _ _
                  refine pm_R_br pm_M276 (pc_q := 2) rfl rfl ?_
                  exact ih_956 _ (sf_up hN_956 e1066 B969 (by decide) (by decide)) z1065 (sf_weak B1067 (by decide) (by decide)) rfl
                · have B1068 : sf_B (-1) 2147483647 r1055 := sf_leR (Int32.not_lt.mp c1063) B1034 (sf_any r1055)
                  refine pm_R_op pm_M277 (pc_q := 102) (st_q := [.int 1]) rfl rfl rfl ?_
                  refine pm_R_br pm_M277 (pc_q := 106) rfl rfl ?_
                  refine pm_R_ret pm_M277 (r := some (.int 1)) rfl rfl ?_
                  show pm_R _ 276 21 [.ref 41, .int a0, .int a1, .int x3_956] [.int 1] _ _
                  refine pm_R_br pm_M276 (pc_q := 24) (st_q := []) rfl rfl ?_
                  refine pm_R_lo pm_M276 (pc_q := 25) rfl rfl rfl ?_
                  exact pm_R_ret pm_M276 (r := some (.int x3_956)) rfl (pm_ret_i _) (K x3_956 (sf_weak B969 (by decide) (by decide)))
            have B1069 : sf_B 2 5 z1038 := sf_neL0 c1049 sf_k1 B1048
            by_cases c1070 : z1038 = 2
            · rw [c1070]
              refine pm_R_br pm_M277 (pc_q := 107) (st_q := []) rfl rfl ?_
              refine pm_R_lo pm_M277 (pc_q := 108) rfl rfl rfl ?_
              refine pm_R_lo pm_M277 (pc_q := 110) rfl rfl rfl ?_
              refine pm_R_icmp pm_M277 (t := 127) (pc_q := 113) rfl rfl rfl (fun c1071 => ?_) (fun c1071 => ?_)
              · skip
                refine pm_R_op pm_M277 (pc_q := 128) (st_q := [.int 0]) rfl rfl rfl ?_
                refine pm_R_ret pm_M277 (r := some (.int 0)) rfl rfl ?_
                show pm_R _ 276 21 [.ref 41, .int a0, .int a1, .int x3_956] [.int 0] _ _
                refine pm_R_br pm_M276 (pc_q := 26) (st_q := []) rfl rfl ?_
                refine sf_R_iinc pm_M276 (pc_q := 29) (ls_q := fun z => [.ref 41, .int a0, .int a1, .int z]) rfl B969 rfl (by decide) (by decide) (by decide) (fun _ => rfl) rfl (fun z1072 e1073 B1074 => ?_)
                show pm_R _ 276 29 [.ref 41, .int a0, .int a1, .int z1072] [] _ _
                refine pm_R_br pm_M276 (pc_q := 2) rfl rfl ?_
                exact ih_956 _ (sf_up hN_956 e1073 B969 (by decide) (by decide)) z1072 (sf_weak B1074 (by decide) (by decide)) rfl
              · refine pm_R_lo pm_M277 (pc_q := 114) rfl rfl rfl ?_
                refine pm_R_lo pm_M277 (pc_q := 115) rfl rfl rfl ?_
                refine pm_R_lo pm_M277 (pc_q := 117) rfl rfl rfl ?_
                refine pm_R_cv pm_M277 (pc_q := 120) (a := 41) (ra := [.int z1024, .int a0]) (rest := []) (ls_q := [.ref 41, .int a0, .int z1024, pm_no, pm_no]) rfl rfl (Or.inl rfl) pm_M278 T.2.1 rfl (by decide) (Nat.lt_of_lt_of_le (by decide) T.1) rfl rfl (Nat.le_of_ble_eq_true rfl) rfl rfl ?_
                refine rf_c278 (d := d + 0) T (sf_weak Ba0 (by decide) (by decide)) (fun r1075 => ?_)
                show pm_R _ 277 120 [.ref 41, .int a0, .int x3_956, .int z1008, .int z1024, .int z1031] [.int r1075] _ _
                refine pm_R_ifc pm_M277 (t := 127) (pc_q := 123) rfl rfl rfl (fun c1083 => ?_) (fun c1083 => ?_)
                · skip
                  refine pm_R_op pm_M277 (pc_q := 128) (st_q := [.int 0]) rfl rfl rfl ?_
                  refine pm_R_ret pm_M277 (r := some (.int 0)) rfl rfl ?_
                  show pm_R _ 276 21 [.ref 41, .int a0, .int a1, .int x3_956] [.int 0] _ _
                  refine pm_R_br pm_M276 (pc_q := 26) (st_q := []) rfl rfl ?_
                  refine sf_R_iinc pm_M276 (pc_q := 29) (ls_q := fun z => [.ref 41, .int a0, .int a1, .int z]) rfl B969 rfl (by decide) (by decide) (by decide) (fun _ => rfl) rfl (fun z1084 e1085 B1086 => ?_)
                  show pm_R _ 276 29 [.ref 41, .int a0, .int a1, .int z1084] [] _ _
                  refine pm_R_br pm_M276 (pc_q := 2) rfl rfl ?_
                  exact ih_956 _ (sf_up hN_956 e1085 B969 (by decide) (by decide)) z1084 (sf_weak B1086 (by decide) (by decide)) rfl
                · have B1087 : sf_B 0 0 r1075 := sf_eqL (Classical.not_not.mp c1083) sf_k0
                  refine pm_R_op pm_M277 (pc_q := 124) (st_q := [.int 1]) rfl rfl rfl ?_
                  refine pm_R_br pm_M277 (pc_q := 128) rfl rfl ?_
                  refine pm_R_ret pm_M277 (r := some (.int 1)) rfl rfl ?_
                  show pm_R _ 276 21 [.ref 41, .int a0, .int a1, .int x3_956] [.int 1] _ _
                  refine pm_R_br pm_M276 (pc_q := 24) (st_q := []) rfl rfl ?_
                  refine pm_R_lo pm_M276 (pc_q := 25) rfl rfl rfl ?_
                  exact pm_R_ret pm_M276 (r := some (.int x3_956)) rfl (pm_ret_i _) (K x3_956 (sf_weak B969 (by decide) (by decide)))
            have B1088 : sf_B 3 5 z1038 := sf_neL0 c1070 sf_k2 B1069
            by_cases c1089 : z1038 = 3
            · rw [c1089]
              refine pm_R_br pm_M277 (pc_q := 129) (st_q := []) rfl rfl ?_
              refine pm_R_lo pm_M277 (pc_q := 130) rfl rfl rfl ?_
              refine pm_R_lo pm_M277 (pc_q := 132) rfl rfl rfl ?_
              refine pm_R_icmp pm_M277 (t := 149) (pc_q := 135) (pm_q277_1 (Nat.le_of_ble_eq_true rfl)) rfl rfl (fun c1090 => ?_) (fun c1090 => ?_)
              · skip
                refine pm_R_op pm_M277 (pc_q := 150) (st_q := [.int 0]) (pm_q277_1 (Nat.le_of_ble_eq_true rfl)) rfl rfl ?_
                refine pm_R_ret pm_M277 (r := some (.int 0)) (pm_q277_1 (Nat.le_of_ble_eq_true rfl)) rfl ?_
                show pm_R _ 276 21 [.ref 41, .int a0, .int a1, .int x3_956] [.int 0] _ _
                refine pm_R_br pm_M276 (pc_q := 26) (st_q := []) rfl rfl ?_
                refine sf_R_iinc pm_M276 (pc_q := 29) (ls_q := fun z => [.ref 41, .int a0, .int a1, .int z]) rfl B969 rfl (by decide) (by decide) (by decide) (fun _ => rfl) rfl (fun z1091 e1092 B1093 => ?_)
                show pm_R _ 276 29 [.ref 41, .int a0, .int a1, .int z1091] [] _ _
                refine pm_R_br pm_M276 (pc_q := 2) rfl rfl ?_
                exact ih_956 _ (sf_up hN_956 e1092 B969 (by decide) (by decide)) z1091 (sf_weak B1093 (by decide) (by decide)) rfl
              · refine pm_R_lo pm_M277 (pc_q := 136) (pm_q277_1 (Nat.le_of_ble_eq_true rfl)) rfl rfl ?_
                refine pm_R_lo pm_M277 (pc_q := 137) (pm_q277_1 (Nat.le_of_ble_eq_true rfl)) rfl rfl ?_
                refine pm_R_cv pm_M277 (pc_q := 140) (a := 41) (ra := [.int a0]) (rest := []) (ls_q := [.ref 41, .int a0, pm_no]) (pm_q277_1 (Nat.le_of_ble_eq_true rfl)) rfl (Or.inl rfl) pm_M279 T.2.1 rfl (by decide) (Nat.lt_of_lt_of_le (by decide) T.1) rfl rfl (Nat.le_of_ble_eq_true rfl) rfl rfl ?_
                refine rf_c279 (d := d + 0) T Ba0 (fun r1094 B1095 => ?_)
                show pm_R _ 277 140 [.ref 41, .int a0, .int x3_956, .int z1008, .int z1024, .int z1031] [.int r1094] _ _
                refine pm_R_lo pm_M277 (pc_q := 142) (pm_q277_1 (Nat.le_of_ble_eq_true rfl)) rfl rfl ?_
                refine pm_R_icmp pm_M277 (t := 149) (pc_q := 145) (pm_q277_1 (Nat.le_of_ble_eq_true rfl)) rfl rfl (fun c1102 => ?_) (fun c1102 => ?_)
                · skip
                  refine pm_R_op pm_M277 (pc_q := 150) (st_q := [.int 0]) (pm_q277_1 (Nat.le_of_ble_eq_true rfl)) rfl rfl ?_
                  refine pm_R_ret pm_M277 (r := some (.int 0)) (pm_q277_1 (Nat.le_of_ble_eq_true rfl)) rfl ?_
                  show pm_R _ 276 21 [.ref 41, .int a0, .int a1, .int x3_956] [.int 0] _ _
                  refine pm_R_br pm_M276 (pc_q := 26) (st_q := []) rfl rfl ?_
                  refine sf_R_iinc pm_M276 (pc_q := 29) (ls_q := fun z => [.ref 41, .int a0, .int a1, .int z]) rfl B969 rfl (by decide) (by decide) (by decide) (fun _ => rfl) rfl (fun z1103 e1104 B1105 => ?_)
                  show pm_R _ 276 29 [.ref 41, .int a0, .int a1, .int z1103] [] _ _
                  refine pm_R_br pm_M276 (pc_q := 2) rfl rfl ?_
                  exact ih_956 _ (sf_up hN_956 e1104 B969 (by decide) (by decide)) z1103 (sf_weak B1105 (by decide) (by decide)) rfl
                · have B1106 : sf_B 0 9 r1094 := sf_eqL (Classical.not_not.mp c1102) B1027
                  refine pm_R_op pm_M277 (pc_q := 146) (st_q := [.int 1]) (pm_q277_1 (Nat.le_of_ble_eq_true rfl)) rfl rfl ?_
                  refine pm_R_br pm_M277 (pc_q := 150) (pm_q277_1 (Nat.le_of_ble_eq_true rfl)) rfl ?_
                  refine pm_R_ret pm_M277 (r := some (.int 1)) (pm_q277_1 (Nat.le_of_ble_eq_true rfl)) rfl ?_
                  show pm_R _ 276 21 [.ref 41, .int a0, .int a1, .int x3_956] [.int 1] _ _
                  refine pm_R_br pm_M276 (pc_q := 24) (st_q := []) rfl rfl ?_
                  refine pm_R_lo pm_M276 (pc_q := 25) rfl rfl rfl ?_
                  exact pm_R_ret pm_M276 (r := some (.int x3_956)) rfl (pm_ret_i _) (K x3_956 (sf_weak B969 (by decide) (by decide)))
            have B1107 : sf_B 4 5 z1038 := sf_neL0 c1089 sf_k3 B1088
            by_cases c1108 : z1038 = 4
            · rw [c1108]
              refine pm_R_br pm_M277 (pc_q := 151) (st_q := []) rfl rfl ?_
              refine pm_R_lo pm_M277 (pc_q := 152) (pm_q277_1 (Nat.le_of_ble_eq_true rfl)) rfl rfl ?_
              refine pm_R_lo pm_M277 (pc_q := 154) (pm_q277_1 (Nat.le_of_ble_eq_true rfl)) rfl rfl ?_
              refine pm_R_icmp pm_M277 (t := 175) (pc_q := 157) (pm_q277_1 (Nat.le_of_ble_eq_true rfl)) rfl rfl (fun c1109 => ?_) (fun c1109 => ?_)
              · skip
                refine pm_R_op pm_M277 (pc_q := 176) (st_q := [.int 0]) (pm_q277_1 (Nat.le_of_ble_eq_true rfl)) rfl rfl ?_
                refine pm_R_ret pm_M277 (r := some (.int 0)) (pm_q277_1 (Nat.le_of_ble_eq_true rfl)) rfl ?_
                show pm_R _ 276 21 [.ref 41, .int a0, .int a1, .int x3_956] [.int 0] _ _
                refine pm_R_br pm_M276 (pc_q := 26) (st_q := []) rfl rfl ?_
                refine sf_R_iinc pm_M276 (pc_q := 29) (ls_q := fun z => [.ref 41, .int a0, .int a1, .int z]) rfl B969 rfl (by decide) (by decide) (by decide) (fun _ => rfl) rfl (fun z1110 e1111 B1112 => ?_)
                show pm_R _ 276 29 [.ref 41, .int a0, .int a1, .int z1110] [] _ _
                refine pm_R_br pm_M276 (pc_q := 2) rfl rfl ?_
                exact ih_956 _ (sf_up hN_956 e1111 B969 (by decide) (by decide)) z1110 (sf_weak B1112 (by decide) (by decide)) rfl
              · have B1113 : sf_B 0 9 z1008 := sf_eqL (Classical.not_not.mp c1109) B1027
                refine pm_R_lo pm_M277 (pc_q := 158) (pm_q277_1 (Nat.le_of_ble_eq_true rfl)) rfl rfl ?_
                refine rf_R_get pm_M277 T (pc_q := 161) (v := .ref 68) (pm_q277_1 (Nat.le_of_ble_eq_true rfl)) rfl rfl rfl ?_
                refine pm_R_lo pm_M277 (pc_q := 162) (pm_q277_1 (Nat.le_of_ble_eq_true rfl)) rfl rfl ?_
                obtain ⟨f1114, e1115⟩ := T.2.2.2.1 68 (by decide) (by decide)
                refine rf_R_ild pm_M277 T (pc_q := 163) (pm_q277_1 (Nat.le_of_ble_eq_true rfl)) e1115 (by decide) (sf_in Ba0 (by decide) (by decide)) rfl (fun z1117 ez1118 => ?_)
                refine sf_R_lany pm_M277 (pc_q := 164) (st := []) (pm_q277_1 (Nat.le_of_ble_eq_true rfl)) rfl rfl (fun z1119 => ?_)
                refine pm_R_op pm_M277 (pc_q := 165) (st_q := [.int 0, .long z1119]) (pm_q277_1 (Nat.le_of_ble_eq_true rfl)) rfl rfl ?_
                refine pm_R_cs pm_M277 (pc_q := 168) (ra := [.int 0, .long z1119]) (rest := []) (ls_q := [.long z1119, pm_no, .int 0]) (pm_q277_1 (Nat.le_of_ble_eq_true rfl)) rfl (Or.inl rfl) pm_M206 rfl rfl (Nat.le_of_ble_eq_true rfl) rfl rfl ?_
                refine pm_R_lo pm_M206 (pc_q := 1) rfl rfl rfl ?_
                refine pm_R_lo pm_M206 (pc_q := 2) rfl rfl rfl ?_
                refine sf_R_lany pm_M206 (pc_q := 3) (st := []) rfl rfl rfl (fun z1120 => ?_)
                refine pm_R_op pm_M206 (pc_q := 4) (st_q := [.long 1, .long z1120]) rfl rfl rfl ?_
                refine sf_R_lany pm_M206 (pc_q := 5) (st := []) rfl rfl rfl (fun z1121 => ?_)
                refine pm_R_op pm_M206 (pc_q := 6) (st_q := [.long 1, .long z1121]) rfl rfl rfl ?_
                refine sf_R_lcmp pm_M206 (pc_q := 7) rfl rfl (fun z1122 e1123 => ?_)
                refine pm_R_ifc pm_M206 (t := 14) (pc_q := 10) rfl rfl rfl (fun c1124 => ?_) (fun c1124 => ?_)
                · have k1125 := sf_lneC e1123 c1124
                  refine pm_R_op pm_M206 (pc_q := 15) (st_q := [.int 0]) rfl rfl rfl ?_
                  refine pm_R_ret pm_M206 (r := some (.int 0)) rfl rfl ?_
                  show pm_R _ 277 168 [.ref 41, .int a0, .int x3_956, .int z1008, .int z1024, .int z1031] [.int 0] _ _
                  refine pm_R_br pm_M277 (pc_q := 175) (st_q := []) (pm_q277_1 (Nat.le_of_ble_eq_true rfl)) rfl ?_
                  refine pm_R_op pm_M277 (pc_q := 176) (st_q := [.int 0]) (pm_q277_1 (Nat.le_of_ble_eq_true rfl)) rfl rfl ?_
                  refine pm_R_ret pm_M277 (r := some (.int 0)) (pm_q277_1 (Nat.le_of_ble_eq_true rfl)) rfl ?_
                  show pm_R _ 276 21 [.ref 41, .int a0, .int a1, .int x3_956] [.int 0] _ _
                  refine pm_R_br pm_M276 (pc_q := 26) (st_q := []) rfl rfl ?_
                  refine sf_R_iinc pm_M276 (pc_q := 29) (ls_q := fun z => [.ref 41, .int a0, .int a1, .int z]) rfl B969 rfl (by decide) (by decide) (by decide) (fun _ => rfl) rfl (fun z1126 e1127 B1128 => ?_)
                  show pm_R _ 276 29 [.ref 41, .int a0, .int a1, .int z1126] [] _ _
                  refine pm_R_br pm_M276 (pc_q := 2) rfl rfl ?_
                  exact ih_956 _ (sf_up hN_956 e1127 B969 (by decide) (by decide)) z1126 (sf_weak B1128 (by decide) (by decide)) rfl
                · have B1129 : sf_B 0 0 z1122 := sf_eqL (Classical.not_not.mp c1124) sf_k0
                  have B1130 : lf_B 1 1 z1121 := lf_eqB e1123 B1129 (⟨by decide, by decide⟩ : lf_B 1 1 1)
                  refine pm_R_op pm_M206 (pc_q := 11) (st_q := [.int 1]) rfl rfl rfl ?_
                  refine pm_R_br pm_M206 (pc_q := 15) rfl rfl ?_
                  refine pm_R_ret pm_M206 (r := some (.int 1)) rfl rfl ?_
                  show pm_R _ 277 168 [.ref 41, .int a0, .int x3_956, .int z1008, .int z1024, .int z1031] [.int 1] _ _
                  refine pm_R_br pm_M277 (pc_q := 171) (st_q := []) (pm_q277_1 (Nat.le_of_ble_eq_true rfl)) rfl ?_
                  refine pm_R_op pm_M277 (pc_q := 172) (st_q := [.int 1]) (pm_q277_1 (Nat.le_of_ble_eq_true rfl)) rfl rfl ?_
                  refine pm_R_br pm_M277 (pc_q := 176) (pm_q277_1 (Nat.le_of_ble_eq_true rfl)) rfl ?_
                  refine pm_R_ret pm_M277 (r := some (.int 1)) (pm_q277_1 (Nat.le_of_ble_eq_true rfl)) rfl ?_
                  show pm_R _ 276 21 [.ref 41, .int a0, .int a1, .int x3_956] [.int 1] _ _
                  refine pm_R_br pm_M276 (pc_q := 24) (st_q := []) rfl rfl ?_
                  refine pm_R_lo pm_M276 (pc_q := 25) rfl rfl rfl ?_
                  exact pm_R_ret pm_M276 (r := some (.int x3_956)) rfl (pm_ret_i _) (K x3_956 (sf_weak B969 (by decide) (by decide)))
            have B1131 : sf_B 5 5 z1038 := sf_neL0 c1108 sf_k4 B1107
            rw [sf_pt2 B1131 sf_k5]
            refine pm_R_br pm_M277 (pc_q := 177) (st_q := []) rfl rfl ?_
            refine pm_R_lo pm_M277 (pc_q := 178) (pm_q277_1 (Nat.le_of_ble_eq_true rfl)) rfl rfl ?_
            refine pm_R_lo pm_M277 (pc_q := 180) (pm_q277_1 (Nat.le_of_ble_eq_true rfl)) rfl rfl ?_
            refine pm_R_icmp pm_M277 (t := 196) (pc_q := 183) (pm_q277_1 (Nat.le_of_ble_eq_true rfl)) rfl rfl (fun c1132 => ?_) (fun c1132 => ?_)
            · skip
              refine pm_R_op pm_M277 (pc_q := 197) (st_q := [.int 0]) (pm_q277_1 (Nat.le_of_ble_eq_true rfl)) rfl rfl ?_
              refine pm_R_ret pm_M277 (r := some (.int 0)) (pm_q277_1 (Nat.le_of_ble_eq_true rfl)) rfl ?_
              show pm_R _ 276 21 [.ref 41, .int a0, .int a1, .int x3_956] [.int 0] _ _
              refine pm_R_br pm_M276 (pc_q := 26) (st_q := []) rfl rfl ?_
              refine sf_R_iinc pm_M276 (pc_q := 29) (ls_q := fun z => [.ref 41, .int a0, .int a1, .int z]) rfl B969 rfl (by decide) (by decide) (by decide) (fun _ => rfl) rfl (fun z1133 e1134 B1135 => ?_)
              show pm_R _ 276 29 [.ref 41, .int a0, .int a1, .int z1133] [] _ _
              refine pm_R_br pm_M276 (pc_q := 2) rfl rfl ?_
              exact ih_956 _ (sf_up hN_956 e1134 B969 (by decide) (by decide)) z1133 (sf_weak B1135 (by decide) (by decide)) rfl
            · have B1136 : sf_B 0 9 z1008 := sf_eqL (Classical.not_not.mp c1132) B1027
              refine pm_R_lo pm_M277 (pc_q := 184) (pm_q277_1 (Nat.le_of_ble_eq_true rfl)) rfl rfl ?_
              refine rf_R_get pm_M277 T (pc_q := 187) (v := .ref 68) (pm_q277_1 (Nat.le_of_ble_eq_true rfl)) rfl rfl rfl ?_
              refine pm_R_lo pm_M277 (pc_q := 188) (pm_q277_1 (Nat.le_of_ble_eq_true rfl)) rfl rfl ?_
              obtain ⟨f1137, e1138⟩ := T.2.2.2.1 68 (by decide) (by decide)
              refine rf_R_ild pm_M277 T (pc_q := 189) (pm_q277_1 (Nat.le_of_ble_eq_true rfl)) e1138 (by decide) (sf_in Ba0 (by decide) (by decide)) rfl (fun z1140 ez1141 => ?_)
              refine pm_R_ifc pm_M277 (t := 196) (pc_q := 192) (pm_q277_1 (Nat.le_of_ble_eq_true rfl)) rfl rfl (fun c1142 => ?_) (fun c1142 => ?_)
              · skip
                refine pm_R_op pm_M277 (pc_q := 197) (st_q := [.int 0]) (pm_q277_1 (Nat.le_of_ble_eq_true rfl)) rfl rfl ?_
                refine pm_R_ret pm_M277 (r := some (.int 0)) (pm_q277_1 (Nat.le_of_ble_eq_true rfl)) rfl ?_
                show pm_R _ 276 21 [.ref 41, .int a0, .int a1, .int x3_956] [.int 0] _ _
                refine pm_R_br pm_M276 (pc_q := 26) (st_q := []) rfl rfl ?_
                refine sf_R_iinc pm_M276 (pc_q := 29) (ls_q := fun z => [.ref 41, .int a0, .int a1, .int z]) rfl B969 rfl (by decide) (by decide) (by decide) (fun _ => rfl) rfl (fun z1143 e1144 B1145 => ?_)
                show pm_R _ 276 29 [.ref 41, .int a0, .int a1, .int z1143] [] _ _
                refine pm_R_br pm_M276 (pc_q := 2) rfl rfl ?_
                exact ih_956 _ (sf_up hN_956 e1144 B969 (by decide) (by decide)) z1143 (sf_weak B1145 (by decide) (by decide)) rfl
              · have B1146 : sf_B 0 0 z1140 := sf_eqL (Classical.not_not.mp c1142) sf_k0
                refine pm_R_op pm_M277 (pc_q := 193) (st_q := [.int 1]) (pm_q277_1 (Nat.le_of_ble_eq_true rfl)) rfl rfl ?_
                refine pm_R_br pm_M277 (pc_q := 197) (pm_q277_1 (Nat.le_of_ble_eq_true rfl)) rfl ?_
                refine pm_R_ret pm_M277 (r := some (.int 1)) (pm_q277_1 (Nat.le_of_ble_eq_true rfl)) rfl ?_
                show pm_R _ 276 21 [.ref 41, .int a0, .int a1, .int x3_956] [.int 1] _ _
                refine pm_R_br pm_M276 (pc_q := 24) (st_q := []) rfl rfl ?_
                refine pm_R_lo pm_M276 (pc_q := 25) rfl rfl rfl ?_
                exact pm_R_ret pm_M276 (r := some (.int x3_956)) rfl (pm_ret_i _) (K x3_956 (sf_weak B969 (by decide) (by decide)))
  exact L_956 _ 0 (sf_weak sf_k0 (by decide) (by decide)) rfl

set_option maxRecDepth 100000 in
set_option maxHeartbeats 4000000 in
/-- SilentTableModel.sinsBut -/
theorem rf_c281 {d : Nat} {m : Nat → Int32} {w : Int64} {h : pm_H} {Q : Option Value → pm_H → Prop} {a0 : Int32} {a1 : Int32} (T : rf_T m w h)  (K : ∀ (r : Int32), Q (some (.int r)) h) : pm_R (d + 5) 281 0 [.ref 41, .int a0, .int a1, pm_no, pm_no] [] h Q := by
  refine pm_R_op pm_M281 (pc_q := 1) (st_q := [.int 0]) rfl rfl rfl ?_
  refine pm_R_lo pm_M281 (pc_q := 2) (ls_q := [.ref 41, .int a0, .int a1, .int 0, pm_no]) (st_q := []) rfl rfl rfl ?_
  refine pm_R_op pm_M281 (pc_q := 3) (st_q := [.int 0]) rfl rfl rfl ?_
  refine pm_R_lo pm_M281 (pc_q := 5) (ls_q := [.ref 41, .int a0, .int a1, .int 0, .int 0]) (st_q := []) rfl rfl rfl ?_
  have L_432 : ∀ (N : Nat) (x3_432 : Int32) (x4_432 : Int32), sf_B (-2147483648) 2147483647 x3_432 → sf_B 0 50 x4_432 → (50 - x4_432.toInt).toNat = N → pm_R (d + 5) 281 5 [.ref 41, .int a0, .int a1, .int x3_432, .int x4_432] [] h Q := by
    intro N
    induction N using Nat.strongRecOn with
    | ind N ih_432 =>
      intro x3_432 x4_432 Bx3_432 Bx4_432 hN_432
      refine pm_R_lo pm_M281 (pc_q := 7) rfl rfl rfl ?_
      refine pm_R_lo pm_M281 (pc_q := 8) rfl rfl rfl ?_
      have B433 : sf_B 0 50 (m 43) := T.2.2.1 43
      refine rf_R_get pm_M281 T (pc_q := 11) (v := .int (m 43)) rfl rfl rfl rfl ?_
      refine pm_R_icmp pm_M281 (t := 55) (pc_q := 14) rfl rfl rfl (fun c434 => ?_) (fun c434 => ?_)
      · skip
        refine pm_R_lo pm_M281 (pc_q := 56) rfl rfl rfl ?_
        exact pm_R_ret pm_M281 (r := some (.int x3_432)) rfl (pm_ret_i _) (K x3_432)
      · have B435 : sf_B 0 49 x4_432 := sf_ltL (Int32.not_le.mp c434) Bx4_432 B433
        have B436 : sf_B 1 50 (m 43) := sf_ltR (Int32.not_le.mp c434) Bx4_432 B433
        refine pm_R_lo pm_M281 (pc_q := 15) rfl rfl rfl ?_
        refine pm_R_lo pm_M281 (pc_q := 16) rfl rfl rfl ?_
        refine pm_R_op pm_M281 (pc_q := 17) (st_q := [.int (-1), .int a0, .int x3_432]) rfl rfl rfl ?_
        refine pm_R_icmp pm_M281 (t := 31) (pc_q := 20) rfl rfl rfl (fun c437 => ?_) (fun c437 => ?_)
        · have B438 : sf_B (-1) (-1) a0 := sf_eqL c437 sf_kn1
          refine pm_R_lo pm_M281 (pc_q := 32) rfl rfl rfl ?_
          refine pm_R_lo pm_M281 (pc_q := 34) rfl rfl rfl ?_
          refine pm_R_lo pm_M281 (pc_q := 35) rfl rfl rfl ?_
          refine pm_R_cv pm_M281 (pc_q := 38) (a := 41) (ra := [.int a1, .int x4_432]) (rest := [.int x3_432]) (ls_q := [.ref 41, .int x4_432, .int a1, pm_no]) rfl rfl (Or.inl rfl) pm_M276 T.2.1 rfl (by decide) (Nat.lt_of_lt_of_le (by decide) T.1) rfl rfl (Nat.le_of_ble_eq_true rfl) rfl rfl ?_
          refine rf_c276 (d := d + 0) T B435 (fun r439 B440 => ?_)
          show pm_R _ 281 38 [.ref 41, .int a0, .int a1, .int x3_432, .int x4_432] [.int r439, .int x3_432] _ _
          refine pm_R_op pm_M281 (pc_q := 39) (st_q := [.int (-1), .int r439, .int x3_432]) rfl rfl rfl ?_
          refine pm_R_icmp pm_M281 (t := 46) (pc_q := 42) rfl rfl rfl (fun c447 => ?_) (fun c447 => ?_)
          · have B448 : sf_B (-1) (-1) r439 := sf_eqL c447 sf_kn1
            refine pm_R_op pm_M281 (pc_q := 47) (st_q := [.int 0, .int x3_432]) rfl rfl rfl ?_
            refine sf_R_iadd pm_M281 (pc_q := 48) rfl rfl Bx3_432 sf_k0 (by decide) (by decide) (fun z449 e450 B451 => ?_)
            refine pm_R_lo pm_M281 (pc_q := 49) (ls_q := [.ref 41, .int a0, .int a1, .int z449, .int x4_432]) (st_q := []) rfl rfl rfl ?_
            refine sf_R_iinc pm_M281 (pc_q := 52) (ls_q := fun z => [.ref 41, .int a0, .int a1, .int z449, .int z]) rfl B435 rfl (by decide) (by decide) (by decide) (fun _ => rfl) rfl (fun z452 e453 B454 => ?_)
            show pm_R _ 281 52 [.ref 41, .int a0, .int a1, .int z449, .int z452] [] _ _
            refine pm_R_br pm_M281 (pc_q := 5) rfl rfl ?_
            exact ih_432 _ (sf_up hN_432 e453 B435 (by decide) (by decide)) z449 z452 B451 (sf_weak B454 (by decide) (by decide)) rfl
          · have B455 : sf_B 0 7 r439 := sf_neL0 c447 sf_kn1 B440
            refine pm_R_op pm_M281 (pc_q := 43) (st_q := [.int 1, .int x3_432]) rfl rfl rfl ?_
            refine pm_R_br pm_M281 (pc_q := 47) rfl rfl ?_
            refine sf_R_iany pm_M281 (pc_q := 48) (st := []) rfl rfl rfl (fun z459 => ?_)
            refine pm_R_lo pm_M281 (pc_q := 49) (ls_q := [.ref 41, .int a0, .int a1, .int z459, .int x4_432]) (st_q := []) rfl rfl rfl ?_
            refine sf_R_iinc pm_M281 (pc_q := 52) (ls_q := fun z => [.ref 41, .int a0, .int a1, .int z459, .int z]) rfl B435 rfl (by decide) (by decide) (by decide) (fun _ => rfl) rfl (fun z460 e461 B462 => ?_)
            show pm_R _ 281 52 [.ref 41, .int a0, .int a1, .int z459, .int z460] [] _ _
            refine pm_R_br pm_M281 (pc_q := 5) rfl rfl ?_
            exact ih_432 _ (sf_up hN_432 e461 B435 (by decide) (by decide)) z459 z460 (sf_any z459) (sf_weak B462 (by decide) (by decide)) rfl
        · skip
          refine pm_R_lo pm_M281 (pc_q := 21) rfl rfl rfl ?_
          refine pm_R_lo pm_M281 (pc_q := 23) rfl rfl rfl ?_
          refine pm_R_op pm_M281 (pc_q := 24) (st_q := [.int 1, .int x4_432, .ref 41, .int x3_432]) rfl rfl rfl ?_
          refine pm_R_cv pm_M281 (pc_q := 27) (a := 41) (ra := [.int 1, .int x4_432]) (rest := [.int x3_432]) (ls_q := [.ref 41, .int x4_432, .int 1]) rfl rfl (Or.inl rfl) pm_M255 T.2.1 rfl (by decide) (Nat.lt_of_lt_of_le (by decide) T.1) rfl rfl (Nat.le_of_ble_eq_true rfl) rfl rfl ?_
          refine pm_R_lo pm_M255 (pc_q := 1) rfl rfl rfl ?_
          refine rf_R_get pm_M255 T (pc_q := 4) (v := .ref 49) rfl rfl rfl rfl ?_
          refine pm_R_op pm_M255 (pc_q := 7) (st_q := [.int 152, .ref 49]) rfl rfl rfl ?_
          refine pm_R_lo pm_M255 (pc_q := 8) rfl rfl rfl ?_
          have B463 : sf_B 0 1 (m 44) := T.2.2.1 44
          refine rf_R_get pm_M255 T (pc_q := 11) (v := .int (m 44)) rfl rfl rfl rfl ?_
          refine sf_R_imul pm_M255 (pc_q := 12) rfl rfl sf_k152 B463 (by decide) (by decide) (by decide) (fun z464 e465 B466 => ?_)
          refine pm_R_op pm_M255 (pc_q := 13) (st_q := [.int 2, .int z464, .ref 49]) rfl rfl rfl ?_
          refine sf_R_iadd pm_M255 (pc_q := 14) rfl rfl B466 sf_k2 (by decide) (by decide) (fun z467 e468 B469 => ?_)
          refine pm_R_op pm_M255 (pc_q := 15) (st_q := [.int 3, .int z467, .ref 49]) rfl rfl rfl ?_
          refine pm_R_lo pm_M255 (pc_q := 16) rfl rfl rfl ?_
          refine sf_R_imul pm_M255 (pc_q := 17) rfl rfl sf_k3 B435 (by decide) (by decide) (by decide) (fun z470 e471 B472 => ?_)
          refine sf_R_iadd pm_M255 (pc_q := 18) rfl rfl B469 B472 (by decide) (by decide) (fun z473 e474 B475 => ?_)
          refine pm_R_lo pm_M255 (pc_q := 19) rfl rfl rfl ?_
          refine sf_R_iadd pm_M255 (pc_q := 20) rfl rfl B475 sf_k1 (by decide) (by decide) (fun z476 e477 B478 => ?_)
          obtain ⟨f479, e480, b481⟩ := T.2.2.2.1 49 (by decide) (by decide)
          refine rf_R_ild pm_M255 T (pc_q := 21) rfl e480 (by decide) (sf_in B478 (by decide) (by decide)) rfl (fun z482 ez483 => ?_)
          have e484 : (z476).toInt = 152 * ((m 44)).toInt + 3 * (x4_432).toInt + 3 := (sf_aux17 _ _ _ _ _ _ _ e465 e468 e471 e474 e477)
          have B485 : sf_B 0 5 z482 := ez483 ▸ rf_p49w b481 e484 B463 B435 (by decide) (by decide) (by decide)
          refine pm_R_ret pm_M255 (r := some (.int z482)) rfl (pm_ret_i _) ?_
          show pm_R _ 281 27 [.ref 41, .int a0, .int a1, .int x3_432, .int x4_432] [.int z482, .int x3_432] _ _
          refine pm_R_lo pm_M281 (pc_q := 28) rfl rfl rfl ?_
          refine pm_R_icmp pm_M281 (t := 46) (pc_q := 31) rfl rfl rfl (fun c486 => ?_) (fun c486 => ?_)
          · skip
            refine pm_R_op pm_M281 (pc_q := 47) (st_q := [.int 0, .int x3_432]) rfl rfl rfl ?_
            refine sf_R_iadd pm_M281 (pc_q := 48) rfl rfl Bx3_432 sf_k0 (by decide) (by decide) (fun z487 e488 B489 => ?_)
            refine pm_R_lo pm_M281 (pc_q := 49) (ls_q := [.ref 41, .int a0, .int a1, .int z487, .int x4_432]) (st_q := []) rfl rfl rfl ?_
            refine sf_R_iinc pm_M281 (pc_q := 52) (ls_q := fun z => [.ref 41, .int a0, .int a1, .int z487, .int z]) rfl B435 rfl (by decide) (by decide) (by decide) (fun _ => rfl) rfl (fun z490 e491 B492 => ?_)
            show pm_R _ 281 52 [.ref 41, .int a0, .int a1, .int z487, .int z490] [] _ _
            refine pm_R_br pm_M281 (pc_q := 5) rfl rfl ?_
            exact ih_432 _ (sf_up hN_432 e491 B435 (by decide) (by decide)) z487 z490 B489 (sf_weak B492 (by decide) (by decide)) rfl
          · have B493 : sf_B 0 5 a0 := sf_eqR (Classical.not_not.mp c486) B485
            refine pm_R_lo pm_M281 (pc_q := 32) rfl rfl rfl ?_
            refine pm_R_lo pm_M281 (pc_q := 34) rfl rfl rfl ?_
            refine pm_R_lo pm_M281 (pc_q := 35) rfl rfl rfl ?_
            refine pm_R_cv pm_M281 (pc_q := 38) (a := 41) (ra := [.int a1, .int x4_432]) (rest := [.int x3_432]) (ls_q := [.ref 41, .int x4_432, .int a1, pm_no]) rfl rfl (Or.inl rfl) pm_M276 T.2.1 rfl (by decide) (Nat.lt_of_lt_of_le (by decide) T.1) rfl rfl (Nat.le_of_ble_eq_true rfl) rfl rfl ?_
            refine rf_c276 (d := d + 0) T B435 (fun r494 B495 => ?_)
            show pm_R _ 281 38 [.ref 41, .int a0, .int a1, .int x3_432, .int x4_432] [.int r494, .int x3_432] _ _
            refine pm_R_op pm_M281 (pc_q := 39) (st_q := [.int (-1), .int r494, .int x3_432]) rfl rfl rfl ?_
            refine pm_R_icmp pm_M281 (t := 46) (pc_q := 42) rfl rfl rfl (fun c502 => ?_) (fun c502 => ?_)
            · have B503 : sf_B (-1) (-1) r494 := sf_eqL c502 sf_kn1
              refine pm_R_op pm_M281 (pc_q := 47) (st_q := [.int 0, .int x3_432]) rfl rfl rfl ?_
              refine sf_R_iadd pm_M281 (pc_q := 48) rfl rfl Bx3_432 sf_k0 (by decide) (by decide) (fun z504 e505 B506 => ?_)
              refine pm_R_lo pm_M281 (pc_q := 49) (ls_q := [.ref 41, .int a0, .int a1, .int z504, .int x4_432]) (st_q := []) rfl rfl rfl ?_
              refine sf_R_iinc pm_M281 (pc_q := 52) (ls_q := fun z => [.ref 41, .int a0, .int a1, .int z504, .int z]) rfl B435 rfl (by decide) (by decide) (by decide) (fun _ => rfl) rfl (fun z507 e508 B509 => ?_)
              show pm_R _ 281 52 [.ref 41, .int a0, .int a1, .int z504, .int z507] [] _ _
              refine pm_R_br pm_M281 (pc_q := 5) rfl rfl ?_
              exact ih_432 _ (sf_up hN_432 e508 B435 (by decide) (by decide)) z504 z507 B506 (sf_weak B509 (by decide) (by decide)) rfl
            · have B510 : sf_B 0 7 r494 := sf_neL0 c502 sf_kn1 B495
              refine pm_R_op pm_M281 (pc_q := 43) (st_q := [.int 1, .int x3_432]) rfl rfl rfl ?_
              refine pm_R_br pm_M281 (pc_q := 47) rfl rfl ?_
              refine sf_R_iany pm_M281 (pc_q := 48) (st := []) rfl rfl rfl (fun z514 => ?_)
              refine pm_R_lo pm_M281 (pc_q := 49) (ls_q := [.ref 41, .int a0, .int a1, .int z514, .int x4_432]) (st_q := []) rfl rfl rfl ?_
              refine sf_R_iinc pm_M281 (pc_q := 52) (ls_q := fun z => [.ref 41, .int a0, .int a1, .int z514, .int z]) rfl B435 rfl (by decide) (by decide) (by decide) (fun _ => rfl) rfl (fun z515 e516 B517 => ?_)
              show pm_R _ 281 52 [.ref 41, .int a0, .int a1, .int z514, .int z515] [] _ _
              refine pm_R_br pm_M281 (pc_q := 5) rfl rfl ?_
              exact ih_432 _ (sf_up hN_432 e516 B435 (by decide) (by decide)) z514 z515 (sf_any z514) (sf_weak B517 (by decide) (by decide)) rfl
  exact L_432 _ 0 0 (sf_weak sf_k0 (by decide) (by decide)) (sf_weak sf_k0 (by decide) (by decide)) rfl

set_option maxRecDepth 100000 in
set_option maxHeartbeats 4000000 in
/-- SilentTableModel.loudest -/
theorem rf_c292 {d : Nat} {m : Nat → Int32} {w : Int64} {h : pm_H} {Q : Option Value → pm_H → Prop}  (T : rf_T m w h)  (K : ∀ (r : Int32), sf_B (-1) 2147483647 r → Q (some (.int r)) h) : pm_R (d + 3) 292 0 [.ref 41, pm_no, pm_no, pm_no, pm_no] [] h Q := by
  refine pm_R_op pm_M292 (pc_q := 1) (st_q := [.int (-1)]) rfl rfl rfl ?_
  refine pm_R_lo pm_M292 (pc_q := 2) (ls_q := [.ref 41, .int (-1), pm_no, pm_no, pm_no]) (st_q := []) rfl rfl rfl ?_
  refine pm_R_op pm_M292 (pc_q := 3) (st_q := [.int 0]) rfl rfl rfl ?_
  refine pm_R_lo pm_M292 (pc_q := 4) (ls_q := [.ref 41, .int (-1), .int 0, pm_no, pm_no]) (st_q := []) rfl rfl rfl ?_
  refine pm_R_op pm_M292 (pc_q := 5) (st_q := [.int 0]) rfl rfl rfl ?_
  refine pm_R_lo pm_M292 (pc_q := 6) (ls_q := [.ref 41, .int (-1), .int 0, .int 0, pm_no]) (st_q := []) rfl rfl rfl ?_
  have L_130 : ∀ (N : Nat) (x1_130 : Int32) (x2_130 : Int32) (x3_130 : Int32) (g4_130 : Value), sf_B (-1) 2147483647 x1_130 → sf_B 0 2147483647 x2_130 → sf_B 0 10 x3_130 → g4_130.category = 1 → (10 - x3_130.toInt).toNat = N → pm_R (d + 3) 292 6 [.ref 41, .int x1_130, .int x2_130, .int x3_130, g4_130] [] h Q := by
    intro N
    induction N using Nat.strongRecOn with
    | ind N ih_130 =>
      intro x1_130 x2_130 x3_130 g4_130 Bx1_130 Bx2_130 Bx3_130 Cg4_130 hN_130
      refine pm_R_lo pm_M292 (pc_q := 7) rfl rfl rfl ?_
      refine pm_R_op pm_M292 (pc_q := 9) (st_q := [.int 10, .int x3_130]) rfl rfl rfl ?_
      refine pm_R_icmp pm_M292 (t := 54) (pc_q := 12) rfl rfl rfl (fun c131 => ?_) (fun c131 => ?_)
      · have B132 : sf_B 10 10 x3_130 := sf_leR c131 sf_k10 Bx3_130
        refine pm_R_lo pm_M292 (pc_q := 55) rfl rfl rfl ?_
        exact pm_R_ret pm_M292 (r := some (.int x1_130)) rfl (pm_ret_i _) (K x1_130 Bx1_130)
      · have B133 : sf_B 0 9 x3_130 := sf_ltL (Int32.not_le.mp c131) Bx3_130 sf_k10
        refine pm_R_lo pm_M292 (pc_q := 13) rfl rfl rfl ?_
        refine pm_R_lo pm_M292 (pc_q := 14) rfl rfl rfl ?_
        have B134 : sf_B 0 50 (m 43) := T.2.2.1 43
        refine rf_R_get pm_M292 T (pc_q := 17) (v := .int (m 43)) rfl rfl rfl rfl ?_
        refine pm_R_lo pm_M292 (pc_q := 18) rfl rfl rfl ?_
        refine pm_R_cv pm_M292 (pc_q := 21) (a := 41) (ra := [.int x3_130, .int (m 43)]) (rest := []) (ls_q := [.ref 41, .int (m 43), .int x3_130, pm_no, pm_no]) rfl rfl (Or.inl rfl) pm_M278 T.2.1 rfl (by decide) (Nat.lt_of_lt_of_le (by decide) T.1) rfl rfl (Nat.le_of_ble_eq_true rfl) rfl rfl ?_
        refine rf_c278 (d := d + 0) T B134 (fun r135 => ?_)
        show pm_R _ 292 21 [.ref 41, .int x1_130, .int x2_130, .int x3_130, g4_130] [.int r135] _ _
        refine pm_R_lo pm_M292 (pc_q := 23) (ls_q := [.ref 41, .int x1_130, .int x2_130, .int x3_130, .int r135]) (st_q := []) rfl rfl rfl ?_
        refine pm_R_lo pm_M292 (pc_q := 25) rfl rfl rfl ?_
        refine pm_R_lo pm_M292 (pc_q := 26) rfl rfl rfl ?_
        refine pm_R_icmp pm_M292 (t := 33) (pc_q := 29) rfl rfl rfl (fun c143 => ?_) (fun c143 => ?_)
        · skip
          refine pm_R_lo pm_M292 (pc_q := 34) rfl rfl rfl ?_
          refine pm_R_lo pm_M292 (pc_q := 35) (ls_q := [.ref 41, .int x1_130, .int x2_130, .int x3_130, .int r135]) (st_q := []) rfl rfl rfl ?_
          refine pm_R_lo pm_M292 (pc_q := 37) rfl rfl rfl ?_
          refine pm_R_lo pm_M292 (pc_q := 38) rfl rfl rfl ?_
          refine pm_R_icmp pm_M292 (t := 46) (pc_q := 41) rfl rfl rfl (fun c144 => ?_) (fun c144 => absurd (Int32.not_le.mp c144) (Int32.not_lt.mpr c143))
          skip
          refine pm_R_lo pm_M292 (pc_q := 47) rfl rfl rfl ?_
          refine pm_R_lo pm_M292 (pc_q := 48) (ls_q := [.ref 41, .int x1_130, .int x2_130, .int x3_130, .int r135]) (st_q := []) rfl rfl rfl ?_
          refine sf_R_iinc pm_M292 (pc_q := 51) (ls_q := fun z => [.ref 41, .int x1_130, .int x2_130, .int z, .int r135]) rfl B133 rfl (by decide) (by decide) (by decide) (fun _ => rfl) rfl (fun z145 e146 B147 => ?_)
          show pm_R _ 292 51 [.ref 41, .int x1_130, .int x2_130, .int z145, .int r135] [] _ _
          refine pm_R_br pm_M292 (pc_q := 6) rfl rfl ?_
          exact ih_130 _ (sf_up hN_130 e146 B133 (by decide) (by decide)) x1_130 x2_130 z145 (.int r135) Bx1_130 Bx2_130 (sf_weak B147 (by decide) (by decide)) rfl rfl
        · have B148 : sf_B 0 2147483646 x2_130 := sf_ltL (Int32.not_le.mp c143) Bx2_130 (sf_any r135)
          have B149 : sf_B 1 2147483647 r135 := sf_ltR (Int32.not_le.mp c143) Bx2_130 (sf_any r135)
          refine pm_R_lo pm_M292 (pc_q := 30) rfl rfl rfl ?_
          refine pm_R_br pm_M292 (pc_q := 34) rfl rfl ?_
          refine pm_R_lo pm_M292 (pc_q := 35) (ls_q := [.ref 41, .int x3_130, .int x2_130, .int x3_130, .int r135]) (st_q := []) rfl rfl rfl ?_
          refine pm_R_lo pm_M292 (pc_q := 37) rfl rfl rfl ?_
          refine pm_R_lo pm_M292 (pc_q := 38) rfl rfl rfl ?_
          refine pm_R_icmp pm_M292 (t := 46) (pc_q := 41) rfl rfl rfl (fun c150 => absurd c150 (Int32.not_le.mpr (Int32.not_le.mp c143))) (fun c150 => ?_)
          skip
          refine pm_R_lo pm_M292 (pc_q := 43) rfl rfl rfl ?_
          refine pm_R_br pm_M292 (pc_q := 47) rfl rfl ?_
          refine pm_R_lo pm_M292 (pc_q := 48) (ls_q := [.ref 41, .int x3_130, .int r135, .int x3_130, .int r135]) (st_q := []) rfl rfl rfl ?_
          refine sf_R_iinc pm_M292 (pc_q := 51) (ls_q := fun z => [.ref 41, .int x3_130, .int r135, .int z, .int r135]) rfl B133 rfl (by decide) (by decide) (by decide) (fun _ => rfl) rfl (fun z151 e152 B153 => ?_)
          show pm_R _ 292 51 [.ref 41, .int x3_130, .int r135, .int z151, .int r135] [] _ _
          refine pm_R_br pm_M292 (pc_q := 6) rfl rfl ?_
          exact ih_130 _ (sf_up hN_130 e152 B133 (by decide) (by decide)) x3_130 r135 z151 (.int r135) (sf_weak B133 (by decide) (by decide)) (sf_weak B149 (by decide) (by decide)) (sf_weak B153 (by decide) (by decide)) rfl rfl
  exact L_130 _ (-1) 0 0 (pm_no) (sf_weak sf_kn1 (by decide) (by decide)) (sf_weak sf_k0 (by decide) (by decide)) (sf_weak sf_k0 (by decide) (by decide)) rfl rfl

set_option maxRecDepth 100000 in
set_option maxHeartbeats 4000000 in
/-- SilentTableModel.nearAt -/
theorem rf_c286 {d : Nat} {m : Nat → Int32} {w : Int64} {h : pm_H} {Q : Option Value → pm_H → Prop} {a0 : Int32} {a1 : Int32} (T : rf_T m w h) (Ba0 : sf_B 0 9 a0) (K : ∀ (r : Int32), sf_B 0 9 r → Q (some (.int r)) h) : pm_R (d + 1) 286 0 [.ref 41, .int a0, .int a1, pm_no, pm_no] [] h Q := by
  refine pm_R_lo pm_M286 (pc_q := 1) rfl rfl rfl ?_
  refine pm_R_lo pm_M286 (pc_q := 2) (ls_q := [.ref 41, .int a0, .int a1, .int a1, pm_no]) (st_q := []) rfl rfl rfl ?_
  refine pm_R_op pm_M286 (pc_q := 3) (st_q := [.int 0]) rfl rfl rfl ?_
  refine pm_R_lo pm_M286 (pc_q := 5) (ls_q := [.ref 41, .int a0, .int a1, .int a1, .int 0]) (st_q := []) rfl rfl rfl ?_
  have L_185 : ∀ (N : Nat) (x3_185 : Int32) (x4_185 : Int32), sf_B (-2147483648) 2147483647 x3_185 → sf_B 0 10 x4_185 → (10 - x4_185.toInt).toNat = N → pm_R (d + 1) 286 5 [.ref 41, .int a0, .int a1, .int x3_185, .int x4_185] [] h Q := by
    intro N
    induction N using Nat.strongRecOn with
    | ind N ih_185 =>
      intro x3_185 x4_185 Bx3_185 Bx4_185 hN_185
      refine pm_R_lo pm_M286 (pc_q := 7) rfl rfl rfl ?_
      refine pm_R_op pm_M286 (pc_q := 9) (st_q := [.int 10, .int x4_185]) rfl rfl rfl ?_
      refine pm_R_icmp pm_M286 (t := 42) (pc_q := 12) rfl rfl rfl (fun c186 => ?_) (fun c186 => ?_)
      · have B187 : sf_B 10 10 x4_185 := sf_leR c186 sf_k10 Bx4_185
        refine pm_R_lo pm_M286 (pc_q := 43) rfl rfl rfl ?_
        exact pm_R_ret pm_M286 (r := some (.int a0)) rfl (pm_ret_i _) (K a0 Ba0)
      · have B188 : sf_B 0 9 x4_185 := sf_ltL (Int32.not_le.mp c186) Bx4_185 sf_k10
        refine pm_R_lo pm_M286 (pc_q := 13) rfl rfl rfl ?_
        refine pm_R_lo pm_M286 (pc_q := 14) rfl rfl rfl ?_
        refine pm_R_cv pm_M286 (pc_q := 17) (a := 41) (ra := [.int a0]) (rest := []) (ls_q := [.ref 41, .int a0]) rfl rfl (Or.inl rfl) pm_M236 T.2.1 rfl (by decide) (Nat.lt_of_lt_of_le (by decide) T.1) rfl rfl (Nat.le_of_ble_eq_true rfl) rfl rfl ?_
        refine pm_R_lo pm_M236 (pc_q := 1) rfl rfl rfl ?_
        refine rf_R_get pm_M236 T (pc_q := 4) (v := .ref 47) rfl rfl rfl rfl ?_
        refine pm_R_op pm_M236 (pc_q := 6) (st_q := [.int 100, .ref 47]) rfl rfl rfl ?_
        refine pm_R_lo pm_M236 (pc_q := 7) rfl rfl rfl ?_
        have B189 : sf_B 0 1 (m 23) := T.2.2.1 23
        refine rf_R_get pm_M236 T (pc_q := 10) (v := .int (m 23)) rfl rfl rfl rfl ?_
        refine sf_R_imul pm_M236 (pc_q := 11) rfl rfl sf_k100 B189 (by decide) (by decide) (by decide) (fun z190 e191 B192 => ?_)
        refine pm_R_op pm_M236 (pc_q := 13) (st_q := [.int 90, .int z190, .ref 47]) rfl rfl rfl ?_
        refine sf_R_iadd pm_M236 (pc_q := 14) rfl rfl B192 sf_k90 (by decide) (by decide) (fun z193 e194 B195 => ?_)
        refine pm_R_lo pm_M236 (pc_q := 15) rfl rfl rfl ?_
        refine sf_R_iadd pm_M236 (pc_q := 16) rfl rfl B195 Ba0 (by decide) (by decide) (fun z196 e197 B198 => ?_)
        obtain ⟨f199, e200, b201⟩ := T.2.2.2.1 47 (by decide) (by decide)
        refine rf_R_ild pm_M236 T (pc_q := 17) rfl e200 (by decide) (sf_in B198 (by decide) (by decide)) rfl (fun z202 ez203 => ?_)
        refine pm_R_ret pm_M236 (r := some (.int z202)) rfl (pm_ret_i _) ?_
        show pm_R _ 286 17 [.ref 41, .int a0, .int a1, .int x3_185, .int x4_185] [.int z202] _ _
        refine sf_R_lany pm_M286 (pc_q := 18) (st := []) rfl rfl rfl (fun z204 => ?_)
        refine pm_R_lo pm_M286 (pc_q := 20) rfl rfl rfl ?_
        refine pm_R_cs pm_M286 (pc_q := 23) (ra := [.int x4_185, .long z204]) (rest := []) (ls_q := [.long z204, pm_no, .int x4_185]) rfl rfl (Or.inl rfl) pm_M206 rfl rfl (Nat.le_of_ble_eq_true rfl) rfl rfl ?_
        refine pm_R_lo pm_M206 (pc_q := 1) rfl rfl rfl ?_
        refine pm_R_lo pm_M206 (pc_q := 2) rfl rfl rfl ?_
        refine sf_R_lany pm_M206 (pc_q := 3) (st := []) rfl rfl rfl (fun z205 => ?_)
        refine pm_R_op pm_M206 (pc_q := 4) (st_q := [.long 1, .long z205]) rfl rfl rfl ?_
        refine sf_R_lany pm_M206 (pc_q := 5) (st := []) rfl rfl rfl (fun z206 => ?_)
        refine pm_R_op pm_M206 (pc_q := 6) (st_q := [.long 1, .long z206]) rfl rfl rfl ?_
        refine sf_R_lcmp pm_M206 (pc_q := 7) rfl rfl (fun z207 e208 => ?_)
        refine pm_R_ifc pm_M206 (t := 14) (pc_q := 10) rfl rfl rfl (fun c209 => ?_) (fun c209 => ?_)
        · have k210 := sf_lneC e208 c209
          refine pm_R_op pm_M206 (pc_q := 15) (st_q := [.int 0]) rfl rfl rfl ?_
          refine pm_R_ret pm_M206 (r := some (.int 0)) rfl rfl ?_
          show pm_R _ 286 23 [.ref 41, .int a0, .int a1, .int x3_185, .int x4_185] [.int 0] _ _
          refine pm_R_br pm_M286 (pc_q := 36) (st_q := []) rfl rfl ?_
          refine sf_R_iinc pm_M286 (pc_q := 39) (ls_q := fun z => [.ref 41, .int a0, .int a1, .int x3_185, .int z]) rfl B188 rfl (by decide) (by decide) (by decide) (fun _ => rfl) rfl (fun z211 e212 B213 => ?_)
          show pm_R _ 286 39 [.ref 41, .int a0, .int a1, .int x3_185, .int z211] [] _ _
          refine pm_R_br pm_M286 (pc_q := 5) rfl rfl ?_
          exact ih_185 _ (sf_up hN_185 e212 B188 (by decide) (by decide)) x3_185 z211 Bx3_185 (sf_weak B213 (by decide) (by decide)) rfl
        · have B214 : sf_B 0 0 z207 := sf_eqL (Classical.not_not.mp c209) sf_k0
          have B215 : lf_B 1 1 z206 := lf_eqB e208 B214 (⟨by decide, by decide⟩ : lf_B 1 1 1)
          refine pm_R_op pm_M206 (pc_q := 11) (st_q := [.int 1]) rfl rfl rfl ?_
          refine pm_R_br pm_M206 (pc_q := 15) rfl rfl ?_
          refine pm_R_ret pm_M206 (r := some (.int 1)) rfl rfl ?_
          show pm_R _ 286 23 [.ref 41, .int a0, .int a1, .int x3_185, .int x4_185] [.int 1] _ _
          refine pm_R_br pm_M286 (pc_q := 26) (st_q := []) rfl rfl ?_
          refine sf_R_iincA pm_M286 (pc_q := 29) (ls_q := fun z => [.ref 41, .int a0, .int a1, .int z, .int x4_185]) rfl rfl (fun _ => rfl) rfl (fun z216 => ?_)
          show pm_R _ 286 29 [.ref 41, .int a0, .int a1, .int z216, .int x4_185] [] _ _
          refine pm_R_lo pm_M286 (pc_q := 30) rfl rfl rfl ?_
          refine pm_R_ifc pm_M286 (t := 36) (pc_q := 33) rfl rfl rfl (fun c217 => ?_) (fun c217 => ?_)
          · skip
            refine sf_R_iinc pm_M286 (pc_q := 39) (ls_q := fun z => [.ref 41, .int a0, .int a1, .int z216, .int z]) rfl B188 rfl (by decide) (by decide) (by decide) (fun _ => rfl) rfl (fun z218 e219 B220 => ?_)
            show pm_R _ 286 39 [.ref 41, .int a0, .int a1, .int z216, .int z218] [] _ _
            refine pm_R_br pm_M286 (pc_q := 5) rfl rfl ?_
            exact ih_185 _ (sf_up hN_185 e219 B188 (by decide) (by decide)) z216 z218 (sf_any z216) (sf_weak B220 (by decide) (by decide)) rfl
          · have B221 : sf_B 0 0 z216 := sf_eqL (Classical.not_not.mp c217) sf_k0
            refine pm_R_lo pm_M286 (pc_q := 35) rfl rfl rfl ?_
            exact pm_R_ret pm_M286 (r := some (.int x4_185)) rfl (pm_ret_i _) (K x4_185 B188)
  exact L_185 _ a1 0 (sf_any a1) (sf_weak sf_k0 (by decide) (by decide)) rfl

set_option maxRecDepth 100000 in
set_option maxHeartbeats 4000000 in
/-- SilentTableModel.known -/
theorem rf_c263 {d : Nat} {m : Nat → Int32} {w : Int64} {h : pm_H} {Q : Option Value → pm_H → Prop} {a0 : Int32} (T : rf_T m w h) (Ba0 : sf_B 0 1 a0) (K : ∀ (r : Int64) (m_q : Nat → Int32) (w_q : Int64) (h_q : pm_H), rf_T m_q w_q h_q → rf_G [41, 53, 54] h h_q → rf_W [23, 24, 26] m m_q → Q (some (.long r)) h_q) : pm_R (d + 6) 263 0 [.ref 41, .int a0, pm_no] [] h Q := by
  refine pm_R_lo pm_M263 (pc_q := 1) rfl rfl rfl ?_
  have B1 : sf_B 0 50 (m 47) := T.2.2.1 47
  refine rf_R_get pm_M263 T (pc_q := 4) (v := .int (m 47)) rfl rfl rfl rfl ?_
  refine pm_R_op pm_M263 (pc_q := 5) (st_q := [.int 1, .int (m 47)]) rfl rfl rfl ?_
  refine pm_R_op pm_M263 (pc_q := 7) (st_q := [.int 12, .int 1, .int (m 47)]) rfl rfl rfl ?_
  refine pm_R_cs pm_M263 (pc_q := 10) (ra := [.int 12, .int 1, .int (m 47)]) (rest := []) (ls_q := [.int (m 47), .int 1, .int 12]) rfl rfl (Or.inl rfl) pm_M174 rfl rfl (Nat.le_of_ble_eq_true rfl) rfl rfl ?_
  refine pm_R_lo pm_M174 (pc_q := 1) rfl rfl rfl ?_
  refine pm_R_lo pm_M174 (pc_q := 2) rfl rfl rfl ?_
  refine pm_R_icmp pm_M174 (t := 14) (pc_q := 5) rfl rfl rfl (fun c2 => ?_) (fun c2 => ?_)
  · have B3 : sf_B 0 0 (m 47) := sf_ltL c2 B1 sf_k1
    refine pm_R_op pm_M174 (pc_q := 15) (st_q := [.int 0]) rfl rfl rfl ?_
    refine pm_R_ret pm_M174 (r := some (.int 0)) rfl rfl ?_
    show pm_R _ 263 10 [.ref 41, .int a0, pm_no] [.int 0] _ _
    refine pm_R_br pm_M263 (pc_q := 13) (st_q := []) rfl rfl ?_
    refine pm_R_op pm_M263 (pc_q := 14) (st_q := [.long 0]) rfl rfl rfl ?_
    exact pm_R_ret pm_M263 (r := some (.long 0)) rfl rfl (K 0 m w h T (rf_G.refl [41, 53, 54] h) (rf_W.refl [23, 24, 26] m))
  · have B4 : sf_B 1 50 (m 47) := sf_leR (Int32.not_lt.mp c2) sf_k1 B1
    refine pm_R_lo pm_M174 (pc_q := 6) rfl rfl rfl ?_
    refine pm_R_lo pm_M174 (pc_q := 7) rfl rfl rfl ?_
    refine pm_R_icmp pm_M174 (t := 14) (pc_q := 10) rfl rfl rfl (fun c5 => ?_) (fun c5 => ?_)
    · have B6 : sf_B 13 50 (m 47) := sf_ltR c5 sf_k12 B4
      refine pm_R_op pm_M174 (pc_q := 15) (st_q := [.int 0]) rfl rfl rfl ?_
      refine pm_R_ret pm_M174 (r := some (.int 0)) rfl rfl ?_
      show pm_R _ 263 10 [.ref 41, .int a0, pm_no] [.int 0] _ _
      refine pm_R_br pm_M263 (pc_q := 13) (st_q := []) rfl rfl ?_
      refine pm_R_op pm_M263 (pc_q := 14) (st_q := [.long 0]) rfl rfl rfl ?_
      exact pm_R_ret pm_M263 (r := some (.long 0)) rfl rfl (K 0 m w h T (rf_G.refl [41, 53, 54] h) (rf_W.refl [23, 24, 26] m))
    · have B7 : sf_B 1 12 (m 47) := sf_leL (Int32.not_lt.mp c5) B4 sf_k12
      refine pm_R_op pm_M174 (pc_q := 11) (st_q := [.int 1]) rfl rfl rfl ?_
      refine pm_R_br pm_M174 (pc_q := 15) rfl rfl ?_
      refine pm_R_ret pm_M174 (r := some (.int 1)) rfl rfl ?_
      show pm_R _ 263 10 [.ref 41, .int a0, pm_no] [.int 1] _ _
      refine pm_R_br pm_M263 (pc_q := 15) (st_q := []) rfl rfl ?_
      refine pm_R_lo pm_M263 (pc_q := 16) rfl rfl rfl ?_
      refine pm_R_lo pm_M263 (pc_q := 17) rfl rfl rfl ?_
      refine rf_R_put pm_M263 T (pc_q := 20) rfl rfl rfl (by decide) rfl rfl Ba0 rfl rfl (fun h8 m11 em12 T9 F10 => ?_)
      have F13 := (rf_G.refl [41, 53, 54] h).trans F10 (by decide)
      have B14 : sf_B 1 12 (m11 47) := by rw [em12]; exact B7
      have B15 : sf_B 0 1 (m11 23) := by rw [em12]; exact Ba0
      have ek16 : (m11 23).toInt = (a0).toInt := by rw [em12]; rfl
      have W17 : rf_W [23, 24, 26] m m11 := by rw [em12]; exact (rf_W.refl [23, 24, 26] m).put (by decide)
      refine pm_R_lo pm_M263 (pc_q := 21) rfl rfl rfl ?_
      refine pm_R_lo pm_M263 (pc_q := 22) rfl rfl rfl ?_
      refine rf_R_get pm_M263 T9 (pc_q := 25) (v := .int (m11 47)) rfl rfl rfl rfl ?_
      refine rf_R_put pm_M263 T9 (pc_q := 28) rfl rfl rfl (by decide) rfl rfl (sf_weak B14 (by decide) (by decide)) rfl rfl (fun h18 m21 em22 T19 F20 => ?_)
      have F23 := F13.trans F20 (by decide)
      have B24 : sf_B 1 12 (m21 47) := by rw [em22]; exact B14
      have B25 : sf_B 1 12 (m21 24) := by rw [em22]; exact B14
      have ek26 : (m21 24).toInt = ((m11 47)).toInt := by rw [em22]; rfl
      have W27 : rf_W [23, 24, 26] m m21 := by rw [em22]; exact W17.put (by decide)
      refine pm_R_lo pm_M263 (pc_q := 29) rfl rfl rfl ?_
      refine pm_R_op pm_M263 (pc_q := 30) (st_q := [.int (-1), .ref 41]) rfl rfl rfl ?_
      refine rf_R_put pm_M263 T19 (pc_q := 33) rfl rfl rfl (by decide) rfl rfl (sf_weak sf_kn1 (by decide) (by decide)) rfl rfl (fun h28 m31 em32 T29 F30 => ?_)
      have F33 := F23.trans F30 (by decide)
      have B34 : sf_B 1 12 (m31 47) := by rw [em32]; exact B24
      have B35 : sf_B 1 12 (m31 24) := by rw [em32]; exact B25
      have ek36 : (m31 24).toInt = ((m11 47)).toInt := by rw [em32]; exact ek26
      have B37 : sf_B (-1) (-1) (m31 26) := by rw [em32]; exact sf_kn1
      have W39 : rf_W [23, 24, 26] m m31 := by rw [em32]; exact W27.put (by decide)
      refine pm_R_op pm_M263 (pc_q := 34) (st_q := [.int 0]) rfl rfl rfl ?_
      refine pm_R_lo pm_M263 (pc_q := 35) (ls_q := [.ref 41, .int a0, .int 0]) (st_q := []) rfl rfl rfl ?_
      have L_264 : ∀ (N : Nat) (h_264 : pm_H) (m_264 : Nat → Int32) (w_264 : Int64) (x2_264 : Int32), rf_T m_264 w_264 h_264 → rf_G [41, 53, 54] h h_264 → rf_W [] m31 m_264 → sf_B 0 12 x2_264 → (12 - x2_264.toInt).toNat = N → pm_R (d + 6) 263 35 [.ref 41, .int a0, .int x2_264] [] h_264 Q := by
        intro N
        induction N using Nat.strongRecOn with
        | ind N ih_264 =>
          intro h_264 m_264 w_264 x2_264 T_264 F_264 W_264 Bx2_264 hN_264
          have B267 : sf_B 1 12 (m_264 47) := by rw [W_264 47 (by decide)]; exact B34
          have B268 : sf_B 1 12 (m_264 24) := by rw [W_264 24 (by decide)]; exact B35
          have ek269 : (m_264 24).toInt = ((m11 47)).toInt := by rw [W_264 24 (by decide)]; exact ek36
          have B270 : sf_B (-1) (-1) (m_264 26) := by rw [W_264 26 (by decide)]; exact B37
          have W271 : rf_W [23, 24, 26] m m_264 := W39.trans W_264 (by decide)
          refine pm_R_lo pm_M263 (pc_q := 36) rfl rfl rfl ?_
          refine pm_R_lo pm_M263 (pc_q := 37) rfl rfl rfl ?_
          refine rf_R_get pm_M263 T_264 (pc_q := 40) (v := .int (m_264 24)) rfl rfl rfl rfl ?_
          refine pm_R_icmp pm_M263 (t := 63) (pc_q := 43) rfl rfl rfl (fun c272 => ?_) (fun c272 => ?_)
          · have B273 : sf_B 1 12 x2_264 := sf_leR c272 B268 Bx2_264
            refine pm_R_lo pm_M263 (pc_q := 64) rfl rfl rfl ?_
            refine pm_R_cv pm_M263 (pc_q := 67) (a := 41) (ra := []) (rest := []) (ls_q := [.ref 41]) rfl rfl (Or.inl rfl) pm_M215 T_264.2.1 rfl (by decide) (Nat.lt_of_lt_of_le (by decide) T_264.1) rfl rfl (Nat.le_of_ble_eq_true rfl) rfl rfl ?_
            refine rf_c215 (d := d + 0) T_264 B268 (fun r274 m276 w277 h278 T279 F280 W281 => ?_)
            have F282 := F_264.trans F280 (by decide)
            have B283 : sf_B 1 12 (m276 47) := by rw [W281 47 (by decide)]; exact B267
            have B284 : sf_B 1 12 (m276 24) := by rw [W281 24 (by decide)]; exact B268
            have ek285 : (m276 24).toInt = ((m11 47)).toInt := by rw [W281 24 (by decide)]; exact ek269
            have B286 : sf_B (-1) (-1) (m276 26) := by rw [W281 26 (by decide)]; exact B270
            have W287 : rf_W [23, 24, 26] m m276 := W271.trans W281 (by decide)
            have W288 : rf_W [] m31 m276 := W_264.trans W281 (by decide)
            show pm_R _ 263 67 [.ref 41, .int a0, .int x2_264] [.long r274] _ _
            exact pm_R_ret pm_M263 (r := some (.long r274)) rfl rfl (K r274 m276 w277 h278 T279 F282 W287)
          · have B289 : sf_B 0 11 x2_264 := sf_ltL (Int32.not_le.mp c272) Bx2_264 B268
            refine pm_R_lo pm_M263 (pc_q := 44) rfl rfl rfl ?_
            refine rf_R_get pm_M263 T_264 (pc_q := 47) (v := .ref 53) rfl rfl rfl rfl ?_
            refine pm_R_lo pm_M263 (pc_q := 48) rfl rfl rfl ?_
            refine pm_R_op pm_M263 (pc_q := 49) (st_q := [.int 1, .int x2_264, .ref 53]) rfl rfl rfl ?_
            refine pm_R_lo pm_M263 (pc_q := 50) rfl rfl rfl ?_
            refine rf_R_get pm_M263 T_264 (pc_q := 53) (v := .ref 69) rfl rfl rfl rfl ?_
            refine pm_R_lo pm_M263 (pc_q := 54) rfl rfl rfl ?_
            obtain ⟨f290, e291⟩ := T_264.2.2.2.1 69 (by decide) (by decide)
            refine rf_R_ild pm_M263 T_264 (pc_q := 55) rfl e291 (by decide) (sf_in B289 (by decide) (by decide)) rfl (fun z293 ez294 => ?_)
            refine sf_R_iany pm_M263 (pc_q := 56) (st := [.int x2_264, .ref 53]) rfl rfl rfl (fun z298 => ?_)
            obtain ⟨f299, e300⟩ := T_264.2.2.2.1 53 (by decide) (by decide)
            refine rf_R_ist pm_M263 T_264 (pc_q := 57) rfl e300 (by decide) (by decide) (sf_in B289 (by decide) (by decide)) ⟨_, rfl⟩ rfl (fun h302 T303 F304 e305 => ?_)
            have F306 := F_264.trans F304 (by decide)
            refine sf_R_iinc pm_M263 (pc_q := 60) (ls_q := fun z => [.ref 41, .int a0, .int z]) rfl B289 rfl (by decide) (by decide) (by decide) (fun _ => rfl) rfl (fun z307 e308 B309 => ?_)
            show pm_R _ 263 60 [.ref 41, .int a0, .int z307] [] _ _
            refine pm_R_br pm_M263 (pc_q := 35) rfl rfl ?_
            exact ih_264 _ (sf_up hN_264 e308 B289 (by decide) (by decide)) h302 m_264 w_264 z307 T303 F306 W_264 (sf_weak B309 (by decide) (by decide)) rfl
      exact L_264 _ h28 m31 w 0 T29 F33 (rf_W.refl _ _) (sf_weak sf_k0 (by decide) (by decide)) rfl

theorem sf_aux24 (v0 v1 v2 : Int) (q0 : v0 = v1 + 1) (q1 : 0 ≤ v2) (q2 : v2 ≤ 49) (q3 : 0 ≤ v1) (q4 : v1 ≤ 49) (q5 : v2 ≤ v1) : v2 ≤ v0 := by omega
theorem sf_aux25 (v0 v1 v2 v3 v4 : Int) (q0 : v0 = v1 + 1) (q1 : v2 = v0) (q2 : v3 = v4 + 1) (q3 : 0 ≤ v1) (q4 : v1 ≤ 49) (q5 : 0 ≤ v4) (q6 : v4 ≤ 49) (q7 : v1 ≤ v4) : v2 ≤ v3 := by omega
theorem sf_aux26 (v0 : Int) (q0 : 0 ≤ v0) (q1 : v0 ≤ 0) : v0 ≤ 0 := by omega
set_option maxRecDepth 100000 in
set_option maxHeartbeats 4000000 in
/-- SilentTableModel.findCaught -/
theorem rf_c261 {d : Nat} {m : Nat → Int32} {w : Int64} {h : pm_H} {Q : Option Value → pm_H → Prop} {a0 : Int32} {a1 : Int32} {a2 : Int32} (T : rf_T m w h)  (K : ∀ (r : Int32) (m_q : Nat → Int32) (w_q : Int64) (h_q : pm_H), rf_T m_q w_q h_q → rf_G [41, 67, 68, 69] h h_q → rf_W [42, 43, 44, 47] m m_q → sf_B 0 1 r → Q (some (.int r)) h_q) : pm_R (d + 3) 261 0 [.ref 41, .int a0, .int a1, .int a2, pm_no] [] h Q := by
  refine pm_R_lo pm_M261 (pc_q := 1) rfl rfl rfl ?_
  refine pm_R_lo pm_M261 (pc_q := 2) rfl rfl rfl ?_
  refine pm_R_cv pm_M261 (pc_q := 5) (a := 41) (ra := [.int a0]) (rest := []) (ls_q := [.ref 41, .int a0, pm_no, pm_no, pm_no, pm_no]) rfl rfl (Or.inl rfl) pm_M254 T.2.1 rfl (by decide) (Nat.lt_of_lt_of_le (by decide) T.1) rfl rfl (Nat.le_of_ble_eq_true rfl) rfl rfl ?_
  refine rf_c254 (d := d + 0) T  (fun r1 m3 w4 h5 T6 F7 W8 B2 => ?_)
  have F9 := (rf_G.refl [41, 67, 68, 69] h).trans F7 (by decide)
  have W10 : rf_W [42, 43, 44, 47] m m3 := (rf_W.refl [42, 43, 44, 47] m).trans W8 (by decide)
  show pm_R _ 261 5 [.ref 41, .int a0, .int a1, .int a2, pm_no] [.int r1] _ _
  refine pm_R_ifc pm_M261 (t := 34) (pc_q := 8) rfl rfl rfl (fun c11 => ?_) (fun c11 => ?_)
  · have B12 : sf_B 0 0 r1 := sf_eqL c11 sf_k0
    refine pm_R_op pm_M261 (pc_q := 35) (st_q := [.int 0]) rfl rfl rfl ?_
    exact pm_R_ret pm_M261 (r := some (.int 0)) rfl rfl (K 0 m3 w4 h5 T6 F9 W10 (sf_weak sf_k0 (by decide) (by decide)))
  · have B13 : sf_B 1 1 r1 := sf_neL0 c11 sf_k0 B2
    refine pm_R_lo pm_M261 (pc_q := 9) rfl rfl rfl ?_
    refine pm_R_lo pm_M261 (pc_q := 10) rfl rfl rfl ?_
    refine pm_R_cv pm_M261 (pc_q := 13) (a := 41) (ra := [.int a2]) (rest := []) (ls_q := [.ref 41, .int a2]) rfl rfl (Or.inl rfl) pm_M259 T6.2.1 rfl (by decide) (Nat.lt_of_lt_of_le (by decide) T6.1) rfl rfl (Nat.le_of_ble_eq_true rfl) rfl rfl ?_
    refine pm_R_lo pm_M259 (pc_q := 1) rfl rfl rfl ?_
    refine pm_R_op pm_M259 (pc_q := 2) (st_q := [.int 0, .int a2]) rfl rfl rfl ?_
    refine pm_R_lo pm_M259 (pc_q := 3) rfl rfl rfl ?_
    have B14 : sf_B 0 6 (m3 42) := T6.2.2.1 42
    refine rf_R_get pm_M259 T6 (pc_q := 6) (v := .int (m3 42)) rfl rfl rfl rfl ?_
    refine pm_R_op pm_M259 (pc_q := 7) (st_q := [.int 1, .int (m3 42), .int 0, .int a2]) rfl rfl rfl ?_
    refine sf_R_isub pm_M259 (pc_q := 8) rfl rfl B14 sf_k1 (by decide) (by decide) (fun z15 e16 B17 => ?_)
    refine pm_R_cs pm_M259 (pc_q := 11) (ra := [.int z15, .int 0, .int a2]) (rest := []) (ls_q := [.int a2, .int 0, .int z15]) rfl rfl (Or.inl rfl) pm_M174 rfl rfl (Nat.le_of_ble_eq_true rfl) rfl rfl ?_
    refine pm_R_lo pm_M174 (pc_q := 1) rfl rfl rfl ?_
    refine pm_R_lo pm_M174 (pc_q := 2) rfl rfl rfl ?_
    refine pm_R_icmp pm_M174 (t := 14) (pc_q := 5) rfl rfl rfl (fun c18 => ?_) (fun c18 => ?_)
    · have B19 : sf_B (-2147483648) (-1) a2 := sf_ltL c18 (sf_any a2) sf_k0
      refine pm_R_op pm_M174 (pc_q := 15) (st_q := [.int 0]) rfl rfl rfl ?_
      refine pm_R_ret pm_M174 (r := some (.int 0)) rfl rfl ?_
      show pm_R _ 259 11 [.ref 41, .int a2] [.int 0] _ _
      refine pm_R_ret pm_M259 (r := some (.int 0)) rfl rfl ?_
      show pm_R _ 261 13 [.ref 41, .int a0, .int a1, .int a2, pm_no] [.int 0] _ _
      refine pm_R_br pm_M261 (pc_q := 34) (st_q := []) rfl rfl ?_
      refine pm_R_op pm_M261 (pc_q := 35) (st_q := [.int 0]) rfl rfl rfl ?_
      exact pm_R_ret pm_M261 (r := some (.int 0)) rfl rfl (K 0 m3 w4 h5 T6 F9 W10 (sf_weak sf_k0 (by decide) (by decide)))
    · have B20 : sf_B 0 2147483647 a2 := sf_leR (Int32.not_lt.mp c18) sf_k0 (sf_any a2)
      refine pm_R_lo pm_M174 (pc_q := 6) rfl rfl rfl ?_
      refine pm_R_lo pm_M174 (pc_q := 7) rfl rfl rfl ?_
      refine pm_R_icmp pm_M174 (t := 14) (pc_q := 10) rfl rfl rfl (fun c21 => ?_) (fun c21 => ?_)
      · skip
        refine pm_R_op pm_M174 (pc_q := 15) (st_q := [.int 0]) rfl rfl rfl ?_
        refine pm_R_ret pm_M174 (r := some (.int 0)) rfl rfl ?_
        show pm_R _ 259 11 [.ref 41, .int a2] [.int 0] _ _
        refine pm_R_ret pm_M259 (r := some (.int 0)) rfl rfl ?_
        show pm_R _ 261 13 [.ref 41, .int a0, .int a1, .int a2, pm_no] [.int 0] _ _
        refine pm_R_br pm_M261 (pc_q := 34) (st_q := []) rfl rfl ?_
        refine pm_R_op pm_M261 (pc_q := 35) (st_q := [.int 0]) rfl rfl rfl ?_
        exact pm_R_ret pm_M261 (r := some (.int 0)) rfl rfl (K 0 m3 w4 h5 T6 F9 W10 (sf_weak sf_k0 (by decide) (by decide)))
      · have B22 : sf_B 0 5 a2 := sf_leL (Int32.not_lt.mp c21) B20 B17
        have B23 : sf_B 0 5 z15 := sf_leR (Int32.not_lt.mp c21) B20 B17
        refine pm_R_op pm_M174 (pc_q := 11) (st_q := [.int 1]) rfl rfl rfl ?_
        refine pm_R_br pm_M174 (pc_q := 15) rfl rfl ?_
        refine pm_R_ret pm_M174 (r := some (.int 1)) rfl rfl ?_
        show pm_R _ 259 11 [.ref 41, .int a2] [.int 1] _ _
        refine pm_R_ret pm_M259 (r := some (.int 1)) rfl rfl ?_
        show pm_R _ 261 13 [.ref 41, .int a0, .int a1, .int a2, pm_no] [.int 1] _ _
        refine pm_R_br pm_M261 (pc_q := 16) (st_q := []) rfl rfl ?_
        refine pm_R_lo pm_M261 (pc_q := 17) rfl rfl rfl ?_
        refine pm_R_op pm_M261 (pc_q := 18) (st_q := [.int (-1), .int a1]) rfl rfl rfl ?_
        refine pm_R_icmp pm_M261 (t := 29) (pc_q := 21) rfl rfl rfl (fun c24 => ?_) (fun c24 => ?_)
        · have B25 : sf_B (-1) (-1) a1 := sf_eqL c24 sf_kn1
          refine pm_R_lo pm_M261 (pc_q := 30) rfl rfl rfl ?_
          refine pm_R_lo pm_M261 (pc_q := 31) rfl rfl rfl ?_
          refine pm_R_icmp pm_M261 (t := 36) (pc_q := 34) rfl rfl rfl (fun c26 => ?_) (fun c26 => absurd (Classical.not_not.mp c26) (sf_neq2 B25 B22 (by decide)))
          skip
          refine pm_R_lo pm_M261 (pc_q := 37) rfl rfl rfl ?_
          refine pm_R_op pm_M261 (pc_q := 38) (st_q := [.int 0, .ref 41]) rfl rfl rfl ?_
          refine rf_R_put pm_M261 T6 (pc_q := 41) rfl rfl rfl (by decide) rfl rfl (sf_weak sf_k0 (by decide) (by decide)) rfl rfl (fun h27 m30 em31 T28 F29 => ?_)
          have F32 := F9.trans F29 (by decide)
          have B33 : sf_B 0 0 (m30 47) := by rw [em31]; exact sf_k0
          have W35 : rf_W [42, 43, 44, 47] m m30 := by rw [em31]; exact W10.put (by decide)
          refine pm_R_op pm_M261 (pc_q := 42) (st_q := [.int 0]) rfl rfl rfl ?_
          refine pm_R_lo pm_M261 (pc_q := 44) (ls_q := [.ref 41, .int a0, .int a1, .int a2, .int 0]) (st_q := []) rfl rfl rfl ?_
          have L_438 : ∀ (N : Nat) (h_438 : pm_H) (m_438 : Nat → Int32) (w_438 : Int64) (x4_438 : Int32), rf_T m_438 w_438 h_438 → rf_G [41, 67, 68, 69] h h_438 → rf_W [47] m30 m_438 → sf_B 0 50 x4_438 → (m_438 47).toInt ≤ x4_438.toInt → (50 - x4_438.toInt).toNat = N → pm_R (d + 3) 261 44 [.ref 41, .int a0, .int a1, .int a2, .int x4_438] [] h_438 Q := by
            intro N
            induction N using Nat.strongRecOn with
            | ind N ih_438 =>
              intro h_438 m_438 w_438 x4_438 T_438 F_438 W_438 Bx4_438 R0_438 hN_438
              have W442 : rf_W [42, 43, 44, 47] m m_438 := W35.trans W_438 (by decide)
              have B443 : sf_B 0 50 (m_438 47) := T_438.2.2.1 47
              refine pm_R_lo pm_M261 (pc_q := 46) rfl rfl rfl ?_
              refine pm_R_lo pm_M261 (pc_q := 47) rfl rfl rfl ?_
              have B444 : sf_B 0 50 (m_438 43) := T_438.2.2.1 43
              refine rf_R_get pm_M261 T_438 (pc_q := 50) (v := .int (m_438 43)) rfl rfl rfl rfl ?_
              refine pm_R_icmp pm_M261 (t := 125) (pc_q := 53) rfl rfl rfl (fun c445 => ?_) (fun c445 => ?_)
              · skip
                refine pm_R_op pm_M261 (pc_q := 126) (st_q := [.int 1]) (pm_q261_1 (Nat.le_of_ble_eq_true rfl)) rfl rfl ?_
                exact pm_R_ret pm_M261 (r := some (.int 1)) (pm_q261_1 (Nat.le_of_ble_eq_true rfl)) rfl (K 1 m_438 w_438 h_438 T_438 F_438 W442 (sf_weak sf_k1 (by decide) (by decide)))
              · have B446 : sf_B 0 49 x4_438 := sf_ltL (Int32.not_le.mp c445) Bx4_438 B444
                have B447 : sf_B 0 49 (m_438 47) := sf_leT R0_438 B443 B446
                have B448 : sf_B 1 50 (m_438 43) := sf_ltR (Int32.not_le.mp c445) Bx4_438 B444
                refine pm_R_lo pm_M261 (pc_q := 54) rfl rfl rfl ?_
                refine pm_R_lo pm_M261 (pc_q := 56) rfl rfl rfl ?_
                refine pm_R_cv pm_M261 (pc_q := 59) (a := 41) (ra := [.int x4_438]) (rest := []) (ls_q := [.ref 41, .int x4_438]) rfl rfl (Or.inl rfl) pm_M256 T_438.2.1 rfl (by decide) (Nat.lt_of_lt_of_le (by decide) T_438.1) rfl rfl (Nat.le_of_ble_eq_true rfl) rfl rfl ?_
                refine pm_R_lo pm_M256 (pc_q := 1) rfl rfl rfl ?_
                refine pm_R_lo pm_M256 (pc_q := 2) rfl rfl rfl ?_
                refine pm_R_op pm_M256 (pc_q := 3) (st_q := [.int 0, .int x4_438, .ref 41]) rfl rfl rfl ?_
                refine pm_R_cv pm_M256 (pc_q := 6) (a := 41) (ra := [.int 0, .int x4_438]) (rest := []) (ls_q := [.ref 41, .int x4_438, .int 0]) rfl rfl (Or.inl rfl) pm_M255 T_438.2.1 rfl (by decide) (Nat.lt_of_lt_of_le (by decide) T_438.1) rfl rfl (Nat.le_of_ble_eq_true rfl) rfl rfl ?_
                refine pm_R_lo pm_M255 (pc_q := 1) rfl rfl rfl ?_
                refine rf_R_get pm_M255 T_438 (pc_q := 4) (v := .ref 49) rfl rfl rfl rfl ?_
                refine pm_R_op pm_M255 (pc_q := 7) (st_q := [.int 152, .ref 49]) rfl rfl rfl ?_
                refine pm_R_lo pm_M255 (pc_q := 8) rfl rfl rfl ?_
                have B449 : sf_B 0 1 (m_438 44) := T_438.2.2.1 44
                refine rf_R_get pm_M255 T_438 (pc_q := 11) (v := .int (m_438 44)) rfl rfl rfl rfl ?_
                refine sf_R_imul pm_M255 (pc_q := 12) rfl rfl sf_k152 B449 (by decide) (by decide) (by decide) (fun z450 e451 B452 => ?_)
                refine pm_R_op pm_M255 (pc_q := 13) (st_q := [.int 2, .int z450, .ref 49]) rfl rfl rfl ?_
                refine sf_R_iadd pm_M255 (pc_q := 14) rfl rfl B452 sf_k2 (by decide) (by decide) (fun z453 e454 B455 => ?_)
                refine pm_R_op pm_M255 (pc_q := 15) (st_q := [.int 3, .int z453, .ref 49]) rfl rfl rfl ?_
                refine pm_R_lo pm_M255 (pc_q := 16) rfl rfl rfl ?_
                refine sf_R_imul pm_M255 (pc_q := 17) rfl rfl sf_k3 B446 (by decide) (by decide) (by decide) (fun z456 e457 B458 => ?_)
                refine sf_R_iadd pm_M255 (pc_q := 18) rfl rfl B455 B458 (by decide) (by decide) (fun z459 e460 B461 => ?_)
                refine pm_R_lo pm_M255 (pc_q := 19) rfl rfl rfl ?_
                refine sf_R_iadd pm_M255 (pc_q := 20) rfl rfl B461 sf_k0 (by decide) (by decide) (fun z462 e463 B464 => ?_)
                obtain ⟨f465, e466, b467⟩ := T_438.2.2.2.1 49 (by decide) (by decide)
                refine rf_R_ild pm_M255 T_438 (pc_q := 21) rfl e466 (by decide) (sf_in B464 (by decide) (by decide)) rfl (fun z468 ez469 => ?_)
                have e470 : (z462).toInt = 152 * ((m_438 44)).toInt + 3 * (x4_438).toInt + 2 := (sf_aux18 _ _ _ _ _ _ _ e451 e454 e457 e460 e463)
                have B471 : sf_B 0 2 z468 := ez469 ▸ rf_p49s b467 e470 B449 B446 (by decide) (by decide) (by decide)
                refine pm_R_ret pm_M255 (r := some (.int z468)) rfl (pm_ret_i _) ?_
                show pm_R _ 256 6 [.ref 41, .int x4_438] [.int z468] _ _
                refine pm_R_op pm_M256 (pc_q := 7) (st_q := [.int 2, .int z468]) rfl rfl rfl ?_
                refine pm_R_icmp pm_M256 (t := 14) (pc_q := 10) rfl rfl rfl (fun c472 => ?_) (fun c472 => ?_)
                · have B473 : sf_B 0 1 z468 := sf_neH0 c472 sf_k2 B471
                  refine pm_R_op pm_M256 (pc_q := 15) (st_q := [.int 0]) rfl rfl rfl ?_
                  refine pm_R_ret pm_M256 (r := some (.int 0)) rfl rfl ?_
                  show pm_R _ 261 59 [.ref 41, .int a0, .int a1, .int a2, .int x4_438] [.int 0] _ _
                  refine pm_R_br pm_M261 (pc_q := 119) (st_q := []) rfl rfl ?_
                  refine sf_R_iinc pm_M261 (pc_q := 122) (ls_q := fun z => [.ref 41, .int a0, .int a1, .int a2, .int z]) (pm_q261_1 (Nat.le_of_ble_eq_true rfl)) B446 rfl (by decide) (by decide) (by decide) (fun _ => rfl) rfl (fun z474 e475 B476 => ?_)
                  show pm_R _ 261 122 [.ref 41, .int a0, .int a1, .int a2, .int z474] [] _ _
                  refine pm_R_br pm_M261 (pc_q := 44) (pm_q261_1 (Nat.le_of_ble_eq_true rfl)) rfl ?_
                  exact ih_438 _ (sf_up hN_438 e475 B446 (by decide) (by decide)) h_438 m_438 w_438 z474 T_438 F_438 W_438 (sf_weak B476 (by decide) (by decide)) (sf_aux24 _ _ _ e475 B447.1 B447.2 B446.1 B446.2 R0_438) rfl
                · have B477 : sf_B 2 2 z468 := sf_eqL (Classical.not_not.mp c472) sf_k2
                  refine pm_R_op pm_M256 (pc_q := 11) (st_q := [.int 1]) rfl rfl rfl ?_
                  refine pm_R_br pm_M256 (pc_q := 15) rfl rfl ?_
                  refine pm_R_ret pm_M256 (r := some (.int 1)) rfl rfl ?_
                  show pm_R _ 261 59 [.ref 41, .int a0, .int a1, .int a2, .int x4_438] [.int 1] _ _
                  refine pm_R_br pm_M261 (pc_q := 62) (st_q := []) rfl rfl ?_
                  refine pm_R_lo pm_M261 (pc_q := 63) rfl rfl rfl ?_
                  refine pm_R_lo pm_M261 (pc_q := 65) rfl rfl rfl ?_
                  refine pm_R_op pm_M261 (pc_q := 66) (st_q := [.int 1, .int x4_438, .ref 41]) rfl rfl rfl ?_
                  refine pm_R_cv pm_M261 (pc_q := 69) (a := 41) (ra := [.int 1, .int x4_438]) (rest := []) (ls_q := [.ref 41, .int x4_438, .int 1]) rfl rfl (Or.inl rfl) pm_M255 T_438.2.1 rfl (by decide) (Nat.lt_of_lt_of_le (by decide) T_438.1) rfl rfl (Nat.le_of_ble_eq_true rfl) rfl rfl ?_
                  refine pm_R_lo pm_M255 (pc_q := 1) rfl rfl rfl ?_
                  refine rf_R_get pm_M255 T_438 (pc_q := 4) (v := .ref 49) rfl rfl rfl rfl ?_
                  refine pm_R_op pm_M255 (pc_q := 7) (st_q := [.int 152, .ref 49]) rfl rfl rfl ?_
                  refine pm_R_lo pm_M255 (pc_q := 8) rfl rfl rfl ?_
                  refine rf_R_get pm_M255 T_438 (pc_q := 11) (v := .int (m_438 44)) rfl rfl rfl rfl ?_
                  refine sf_R_imulV pm_M255 (pc_q := 12) rfl rfl sf_k152 B449 (by decide) (by decide) (by decide) e451 ?_
                  refine pm_R_op pm_M255 (pc_q := 13) (st_q := [.int 2, .int z450, .ref 49]) rfl rfl rfl ?_
                  refine sf_R_iaddV pm_M255 (pc_q := 14) rfl rfl B452 sf_k2 (by decide) (by decide) e454 ?_
                  refine pm_R_op pm_M255 (pc_q := 15) (st_q := [.int 3, .int z453, .ref 49]) rfl rfl rfl ?_
                  refine pm_R_lo pm_M255 (pc_q := 16) rfl rfl rfl ?_
                  refine sf_R_imulV pm_M255 (pc_q := 17) rfl rfl sf_k3 B446 (by decide) (by decide) (by decide) e457 ?_
                  refine sf_R_iaddV pm_M255 (pc_q := 18) rfl rfl B455 B458 (by decide) (by decide) e460 ?_
                  refine pm_R_lo pm_M255 (pc_q := 19) rfl rfl rfl ?_
                  refine sf_R_iadd pm_M255 (pc_q := 20) rfl rfl B461 sf_k1 (by decide) (by decide) (fun z478 e479 B480 => ?_)
                  refine rf_R_ild pm_M255 T_438 (pc_q := 21) rfl e466 (by decide) (sf_in B480 (by decide) (by decide)) rfl (fun z481 ez482 => ?_)
                  have e483 : (z478).toInt = 152 * ((m_438 44)).toInt + 3 * (x4_438).toInt + 3 := (sf_aux17 _ _ _ _ _ _ _ e451 e454 e457 e460 e479)
                  have B484 : sf_B 0 5 z481 := ez482 ▸ rf_p49w b467 e483 B449 B446 (by decide) (by decide) (by decide)
                  refine pm_R_ret pm_M255 (r := some (.int z481)) rfl (pm_ret_i _) ?_
                  show pm_R _ 261 69 [.ref 41, .int a0, .int a1, .int a2, .int x4_438] [.int z481] _ _
                  refine pm_R_lo pm_M261 (pc_q := 70) rfl rfl rfl ?_
                  refine pm_R_icmp pm_M261 (t := 119) (pc_q := 73) rfl rfl rfl (fun c485 => ?_) (fun c485 => ?_)
                  · skip
                    refine sf_R_iinc pm_M261 (pc_q := 122) (ls_q := fun z => [.ref 41, .int a0, .int a1, .int a2, .int z]) (pm_q261_1 (Nat.le_of_ble_eq_true rfl)) B446 rfl (by decide) (by decide) (by decide) (fun _ => rfl) rfl (fun z486 e487 B488 => ?_)
                    show pm_R _ 261 122 [.ref 41, .int a0, .int a1, .int a2, .int z486] [] _ _
                    refine pm_R_br pm_M261 (pc_q := 44) (pm_q261_1 (Nat.le_of_ble_eq_true rfl)) rfl ?_
                    exact ih_438 _ (sf_up hN_438 e487 B446 (by decide) (by decide)) h_438 m_438 w_438 z486 T_438 F_438 W_438 (sf_weak B488 (by decide) (by decide)) (sf_aux24 _ _ _ e487 B447.1 B447.2 B446.1 B446.2 R0_438) rfl
                  · refine pm_R_lo pm_M261 (pc_q := 74) rfl rfl rfl ?_
                    refine pm_R_op pm_M261 (pc_q := 75) (st_q := [.int (-1), .int a1]) rfl rfl rfl ?_
                    refine pm_R_icmp pm_M261 (t := 93) (pc_q := 78) rfl rfl rfl (fun c489 => ?_) (fun c489 => absurd (sf_pt2 B25 sf_kn1) c489)
                    refine pm_R_lo pm_M261 (pc_q := 94) rfl rfl rfl ?_
                    refine rf_R_get pm_M261 T_438 (pc_q := 97) (v := .ref 69) rfl rfl rfl rfl ?_
                    refine pm_R_lo pm_M261 (pc_q := 98) rfl rfl rfl ?_
                    refine rf_R_get pm_M261 T_438 (pc_q := 101) (v := .int (m_438 47)) rfl rfl rfl rfl ?_
                    refine pm_R_lo pm_M261 (pc_q := 102) rfl rfl rfl ?_
                    refine pm_R_lo pm_M261 (pc_q := 104) rfl rfl rfl ?_
                    refine pm_R_op pm_M261 (pc_q := 105) (st_q := [.int 2, .int x4_438, .ref 41, .int (m_438 47), .ref 69]) rfl rfl rfl ?_
                    refine pm_R_cv pm_M261 (pc_q := 108) (a := 41) (ra := [.int 2, .int x4_438]) (rest := [.int (m_438 47), .ref 69]) (ls_q := [.ref 41, .int x4_438, .int 2]) rfl rfl (Or.inl rfl) pm_M255 T_438.2.1 rfl (by decide) (Nat.lt_of_lt_of_le (by decide) T_438.1) rfl rfl (Nat.le_of_ble_eq_true rfl) rfl rfl ?_
                    refine pm_R_lo pm_M255 (pc_q := 1) rfl rfl rfl ?_
                    refine rf_R_get pm_M255 T_438 (pc_q := 4) (v := .ref 49) rfl rfl rfl rfl ?_
                    refine pm_R_op pm_M255 (pc_q := 7) (st_q := [.int 152, .ref 49]) rfl rfl rfl ?_
                    refine pm_R_lo pm_M255 (pc_q := 8) rfl rfl rfl ?_
                    refine rf_R_get pm_M255 T_438 (pc_q := 11) (v := .int (m_438 44)) rfl rfl rfl rfl ?_
                    refine sf_R_imulV pm_M255 (pc_q := 12) rfl rfl sf_k152 B449 (by decide) (by decide) (by decide) e451 ?_
                    refine pm_R_op pm_M255 (pc_q := 13) (st_q := [.int 2, .int z450, .ref 49]) rfl rfl rfl ?_
                    refine sf_R_iaddV pm_M255 (pc_q := 14) rfl rfl B452 sf_k2 (by decide) (by decide) e454 ?_
                    refine pm_R_op pm_M255 (pc_q := 15) (st_q := [.int 3, .int z453, .ref 49]) rfl rfl rfl ?_
                    refine pm_R_lo pm_M255 (pc_q := 16) rfl rfl rfl ?_
                    refine sf_R_imulV pm_M255 (pc_q := 17) rfl rfl sf_k3 B446 (by decide) (by decide) (by decide) e457 ?_
                    refine sf_R_iaddV pm_M255 (pc_q := 18) rfl rfl B455 B458 (by decide) (by decide) e460 ?_
                    refine pm_R_lo pm_M255 (pc_q := 19) rfl rfl rfl ?_
                    refine sf_R_iadd pm_M255 (pc_q := 20) rfl rfl B461 sf_k2 (by decide) (by decide) (fun z490 e491 B492 => ?_)
                    refine rf_R_ild pm_M255 T_438 (pc_q := 21) rfl e466 (by decide) (sf_in B492 (by decide) (by decide)) rfl (fun z493 ez494 => ?_)
                    have e495 : (z490).toInt = 152 * ((m_438 44)).toInt + 3 * (x4_438).toInt + 4 := (sf_aux19 _ _ _ _ _ _ _ e451 e454 e457 e460 e491)
                    have B496 : sf_B (-1) 9 z493 := ez494 ▸ rf_p49o b467 e495 B449 B446 (by decide) (by decide) (by decide)
                    refine pm_R_ret pm_M255 (r := some (.int z493)) rfl (pm_ret_i _) ?_
                    show pm_R _ 261 108 [.ref 41, .int a0, .int a1, .int a2, .int x4_438] [.int z493, .int (m_438 47), .ref 69] _ _
                    obtain ⟨f497, e498⟩ := T_438.2.2.2.1 69 (by decide) (by decide)
                    refine rf_R_ist pm_M261 T_438 (pc_q := 109) rfl e498 (by decide) (by decide) (sf_in B447 (by decide) (by decide)) ⟨_, rfl⟩ rfl (fun h500 T501 F502 e503 => ?_)
                    have F504 := F_438.trans F502 (by decide)
                    refine pm_R_lo pm_M261 (pc_q := 110) rfl rfl rfl ?_
                    refine pm_R_op pm_M261 (pc_q := 111) (st_q := [.ref 41, .ref 41]) (pm_q261_1 (Nat.le_of_ble_eq_true rfl)) rfl rfl ?_
                    refine rf_R_get pm_M261 T501 (pc_q := 114) (v := .int (m_438 47)) (pm_q261_1 (Nat.le_of_ble_eq_true rfl)) rfl rfl rfl ?_
                    refine pm_R_op pm_M261 (pc_q := 115) (st_q := [.int 1, .int (m_438 47), .ref 41]) (pm_q261_1 (Nat.le_of_ble_eq_true rfl)) rfl rfl ?_
                    refine sf_R_iadd pm_M261 (pc_q := 116) (pm_q261_1 (Nat.le_of_ble_eq_true rfl)) rfl B447 sf_k1 (by decide) (by decide) (fun z505 e506 B507 => ?_)
                    refine rf_R_put pm_M261 T501 (pc_q := 119) (pm_q261_1 (Nat.le_of_ble_eq_true rfl)) rfl rfl (by decide) rfl rfl (sf_weak B507 (by decide) (by decide)) rfl rfl (fun h508 m511 em512 T509 F510 => ?_)
                    have F513 := F504.trans F510 (by decide)
                    have B514 : sf_B 1 50 (m511 43) := by rw [em512]; exact B448
                    have B515 : sf_B 1 50 (m511 47) := by rw [em512]; exact B507
                    have ek516 : (m511 47).toInt = (z505).toInt := by rw [em512]; rfl
                    have W517 : rf_W [42, 43, 44, 47] m m511 := by rw [em512]; exact W442.put (by decide)
                    have W518 : rf_W [47] m30 m511 := by rw [em512]; exact W_438.put (by decide)
                    refine sf_R_iinc pm_M261 (pc_q := 122) (ls_q := fun z => [.ref 41, .int a0, .int a1, .int a2, .int z]) (pm_q261_1 (Nat.le_of_ble_eq_true rfl)) B446 rfl (by decide) (by decide) (by decide) (fun _ => rfl) rfl (fun z519 e520 B521 => ?_)
                    show pm_R _ 261 122 [.ref 41, .int a0, .int a1, .int a2, .int z519] [] _ _
                    refine pm_R_br pm_M261 (pc_q := 44) (pm_q261_1 (Nat.le_of_ble_eq_true rfl)) rfl ?_
                    exact ih_438 _ (sf_up hN_438 e520 B446 (by decide) (by decide)) h508 m511 w_438 z519 T509 F513 W518 (sf_weak B521 (by decide) (by decide)) (sf_aux25 _ _ _ _ _ e506 ek516 e520 B447.1 B447.2 B446.1 B446.2 R0_438) rfl
          exact L_438 _ h27 m30 w4 0 T28 F32 (rf_W.refl _ _) (sf_weak sf_k0 (by decide) (by decide)) (sf_aux26 _ B33.1 B33.2) rfl
        · skip
          refine pm_R_lo pm_M261 (pc_q := 22) rfl rfl rfl ?_
          refine pm_R_lo pm_M261 (pc_q := 23) rfl rfl rfl ?_
          refine pm_R_cv pm_M261 (pc_q := 26) (a := 41) (ra := [.int a1]) (rest := []) (ls_q := [.ref 41, .int a1]) rfl rfl (Or.inl rfl) pm_M259 T6.2.1 rfl (by decide) (Nat.lt_of_lt_of_le (by decide) T6.1) rfl rfl (Nat.le_of_ble_eq_true rfl) rfl rfl ?_
          refine pm_R_lo pm_M259 (pc_q := 1) rfl rfl rfl ?_
          refine pm_R_op pm_M259 (pc_q := 2) (st_q := [.int 0, .int a1]) rfl rfl rfl ?_
          refine pm_R_lo pm_M259 (pc_q := 3) rfl rfl rfl ?_
          refine rf_R_get pm_M259 T6 (pc_q := 6) (v := .int (m3 42)) rfl rfl rfl rfl ?_
          refine pm_R_op pm_M259 (pc_q := 7) (st_q := [.int 1, .int (m3 42), .int 0, .int a1]) rfl rfl rfl ?_
          refine sf_R_isubV pm_M259 (pc_q := 8) rfl rfl B14 sf_k1 (by decide) (by decide) e16 ?_
          refine pm_R_cs pm_M259 (pc_q := 11) (ra := [.int z15, .int 0, .int a1]) (rest := []) (ls_q := [.int a1, .int 0, .int z15]) rfl rfl (Or.inl rfl) pm_M174 rfl rfl (Nat.le_of_ble_eq_true rfl) rfl rfl ?_
          refine pm_R_lo pm_M174 (pc_q := 1) rfl rfl rfl ?_
          refine pm_R_lo pm_M174 (pc_q := 2) rfl rfl rfl ?_
          refine pm_R_icmp pm_M174 (t := 14) (pc_q := 5) rfl rfl rfl (fun c522 => ?_) (fun c522 => ?_)
          · have B523 : sf_B (-2147483648) (-1) a1 := sf_ltL c522 (sf_any a1) sf_k0
            refine pm_R_op pm_M174 (pc_q := 15) (st_q := [.int 0]) rfl rfl rfl ?_
            refine pm_R_ret pm_M174 (r := some (.int 0)) rfl rfl ?_
            show pm_R _ 259 11 [.ref 41, .int a1] [.int 0] _ _
            refine pm_R_ret pm_M259 (r := some (.int 0)) rfl rfl ?_
            show pm_R _ 261 26 [.ref 41, .int a0, .int a1, .int a2, pm_no] [.int 0] _ _
            refine pm_R_br pm_M261 (pc_q := 34) (st_q := []) rfl rfl ?_
            refine pm_R_op pm_M261 (pc_q := 35) (st_q := [.int 0]) rfl rfl rfl ?_
            exact pm_R_ret pm_M261 (r := some (.int 0)) rfl rfl (K 0 m3 w4 h5 T6 F9 W10 (sf_weak sf_k0 (by decide) (by decide)))
          · have B524 : sf_B 0 2147483647 a1 := sf_leR (Int32.not_lt.mp c522) sf_k0 (sf_any a1)
            refine pm_R_lo pm_M174 (pc_q := 6) rfl rfl rfl ?_
            refine pm_R_lo pm_M174 (pc_q := 7) rfl rfl rfl ?_
            refine pm_R_icmp pm_M174 (t := 14) (pc_q := 10) rfl rfl rfl (fun c525 => ?_) (fun c525 => ?_)
            · have B526 : sf_B 1 2147483647 a1 := sf_ltR c525 B23 B524
              refine pm_R_op pm_M174 (pc_q := 15) (st_q := [.int 0]) rfl rfl rfl ?_
              refine pm_R_ret pm_M174 (r := some (.int 0)) rfl rfl ?_
              show pm_R _ 259 11 [.ref 41, .int a1] [.int 0] _ _
              refine pm_R_ret pm_M259 (r := some (.int 0)) rfl rfl ?_
              show pm_R _ 261 26 [.ref 41, .int a0, .int a1, .int a2, pm_no] [.int 0] _ _
              refine pm_R_br pm_M261 (pc_q := 34) (st_q := []) rfl rfl ?_
              refine pm_R_op pm_M261 (pc_q := 35) (st_q := [.int 0]) rfl rfl rfl ?_
              exact pm_R_ret pm_M261 (r := some (.int 0)) rfl rfl (K 0 m3 w4 h5 T6 F9 W10 (sf_weak sf_k0 (by decide) (by decide)))
            · have B527 : sf_B 0 5 a1 := sf_leL (Int32.not_lt.mp c525) B524 B23
              refine pm_R_op pm_M174 (pc_q := 11) (st_q := [.int 1]) rfl rfl rfl ?_
              refine pm_R_br pm_M174 (pc_q := 15) rfl rfl ?_
              refine pm_R_ret pm_M174 (r := some (.int 1)) rfl rfl ?_
              show pm_R _ 259 11 [.ref 41, .int a1] [.int 1] _ _
              refine pm_R_ret pm_M259 (r := some (.int 1)) rfl rfl ?_
              show pm_R _ 261 26 [.ref 41, .int a0, .int a1, .int a2, pm_no] [.int 1] _ _
              refine pm_R_br pm_M261 (pc_q := 29) (st_q := []) rfl rfl ?_
              refine pm_R_lo pm_M261 (pc_q := 30) rfl rfl rfl ?_
              refine pm_R_lo pm_M261 (pc_q := 31) rfl rfl rfl ?_
              refine pm_R_icmp pm_M261 (t := 36) (pc_q := 34) rfl rfl rfl (fun c528 => ?_) (fun c528 => ?_)
              · skip
                refine pm_R_lo pm_M261 (pc_q := 37) rfl rfl rfl ?_
                refine pm_R_op pm_M261 (pc_q := 38) (st_q := [.int 0, .ref 41]) rfl rfl rfl ?_
                refine rf_R_put pm_M261 T6 (pc_q := 41) rfl rfl rfl (by decide) rfl rfl (sf_weak sf_k0 (by decide) (by decide)) rfl rfl (fun h529 m532 em533 T530 F531 => ?_)
                have F534 := F9.trans F531 (by decide)
                have B535 : sf_B 0 0 (m532 47) := by rw [em533]; exact sf_k0
                have W537 : rf_W [42, 43, 44, 47] m m532 := by rw [em533]; exact W10.put (by decide)
                refine pm_R_op pm_M261 (pc_q := 42) (st_q := [.int 0]) rfl rfl rfl ?_
                refine pm_R_lo pm_M261 (pc_q := 44) (ls_q := [.ref 41, .int a0, .int a1, .int a2, .int 0]) (st_q := []) rfl rfl rfl ?_
                have L_1025 : ∀ (N : Nat) (h_1025 : pm_H) (m_1025 : Nat → Int32) (w_1025 : Int64) (x4_1025 : Int32), rf_T m_1025 w_1025 h_1025 → rf_G [41, 67, 68, 69] h h_1025 → rf_W [47] m532 m_1025 → sf_B 0 50 x4_1025 → (m_1025 47).toInt ≤ x4_1025.toInt → (50 - x4_1025.toInt).toNat = N → pm_R (d + 3) 261 44 [.ref 41, .int a0, .int a1, .int a2, .int x4_1025] [] h_1025 Q := by
                  intro N
                  induction N using Nat.strongRecOn with
                  | ind N ih_1025 =>
                    intro h_1025 m_1025 w_1025 x4_1025 T_1025 F_1025 W_1025 Bx4_1025 R0_1025 hN_1025
                    have W1029 : rf_W [42, 43, 44, 47] m m_1025 := W537.trans W_1025 (by decide)
                    have B1030 : sf_B 0 50 (m_1025 47) := T_1025.2.2.1 47
                    refine pm_R_lo pm_M261 (pc_q := 46) rfl rfl rfl ?_
                    refine pm_R_lo pm_M261 (pc_q := 47) rfl rfl rfl ?_
                    have B1031 : sf_B 0 50 (m_1025 43) := T_1025.2.2.1 43
                    refine rf_R_get pm_M261 T_1025 (pc_q := 50) (v := .int (m_1025 43)) rfl rfl rfl rfl ?_
                    refine pm_R_icmp pm_M261 (t := 125) (pc_q := 53) rfl rfl rfl (fun c1032 => ?_) (fun c1032 => ?_)
                    · skip
                      refine pm_R_op pm_M261 (pc_q := 126) (st_q := [.int 1]) (pm_q261_1 (Nat.le_of_ble_eq_true rfl)) rfl rfl ?_
                      exact pm_R_ret pm_M261 (r := some (.int 1)) (pm_q261_1 (Nat.le_of_ble_eq_true rfl)) rfl (K 1 m_1025 w_1025 h_1025 T_1025 F_1025 W1029 (sf_weak sf_k1 (by decide) (by decide)))
                    · have B1033 : sf_B 0 49 x4_1025 := sf_ltL (Int32.not_le.mp c1032) Bx4_1025 B1031
                      have B1034 : sf_B 0 49 (m_1025 47) := sf_leT R0_1025 B1030 B1033
                      have B1035 : sf_B 1 50 (m_1025 43) := sf_ltR (Int32.not_le.mp c1032) Bx4_1025 B1031
                      refine pm_R_lo pm_M261 (pc_q := 54) rfl rfl rfl ?_
                      refine pm_R_lo pm_M261 (pc_q := 56) rfl rfl rfl ?_
                      refine pm_R_cv pm_M261 (pc_q := 59) (a := 41) (ra := [.int x4_1025]) (rest := []) (ls_q := [.ref 41, .int x4_1025]) rfl rfl (Or.inl rfl) pm_M256 T_1025.2.1 rfl (by decide) (Nat.lt_of_lt_of_le (by decide) T_1025.1) rfl rfl (Nat.le_of_ble_eq_true rfl) rfl rfl ?_
                      refine pm_R_lo pm_M256 (pc_q := 1) rfl rfl rfl ?_
                      refine pm_R_lo pm_M256 (pc_q := 2) rfl rfl rfl ?_
                      refine pm_R_op pm_M256 (pc_q := 3) (st_q := [.int 0, .int x4_1025, .ref 41]) rfl rfl rfl ?_
                      refine pm_R_cv pm_M256 (pc_q := 6) (a := 41) (ra := [.int 0, .int x4_1025]) (rest := []) (ls_q := [.ref 41, .int x4_1025, .int 0]) rfl rfl (Or.inl rfl) pm_M255 T_1025.2.1 rfl (by decide) (Nat.lt_of_lt_of_le (by decide) T_1025.1) rfl rfl (Nat.le_of_ble_eq_true rfl) rfl rfl ?_
                      refine pm_R_lo pm_M255 (pc_q := 1) rfl rfl rfl ?_
                      refine rf_R_get pm_M255 T_1025 (pc_q := 4) (v := .ref 49) rfl rfl rfl rfl ?_
                      refine pm_R_op pm_M255 (pc_q := 7) (st_q := [.int 152, .ref 49]) rfl rfl rfl ?_
                      refine pm_R_lo pm_M255 (pc_q := 8) rfl rfl rfl ?_
                      have B1036 : sf_B 0 1 (m_1025 44) := T_1025.2.2.1 44
                      refine rf_R_get pm_M255 T_1025 (pc_q := 11) (v := .int (m_1025 44)) rfl rfl rfl rfl ?_
                      refine sf_R_imul pm_M255 (pc_q := 12) rfl rfl sf_k152 B1036 (by decide) (by decide) (by decide) (fun z1037 e1038 B1039 => ?_)
                      refine pm_R_op pm_M255 (pc_q := 13) (st_q := [.int 2, .int z1037, .ref 49]) rfl rfl rfl ?_
                      refine sf_R_iadd pm_M255 (pc_q := 14) rfl rfl B1039 sf_k2 (by decide) (by decide) (fun z1040 e1041 B1042 => ?_)
                      refine pm_R_op pm_M255 (pc_q := 15) (st_q := [.int 3, .int z1040, .ref 49]) rfl rfl rfl ?_
                      refine pm_R_lo pm_M255 (pc_q := 16) rfl rfl rfl ?_
                      refine sf_R_imul pm_M255 (pc_q := 17) rfl rfl sf_k3 B1033 (by decide) (by decide) (by decide) (fun z1043 e1044 B1045 => ?_)
                      refine sf_R_iadd pm_M255 (pc_q := 18) rfl rfl B1042 B1045 (by decide) (by decide) (fun z1046 e1047 B1048 => ?_)
                      refine pm_R_lo pm_M255 (pc_q := 19) rfl rfl rfl ?_
                      refine sf_R_iadd pm_M255 (pc_q := 20) rfl rfl B1048 sf_k0 (by decide) (by decide) (fun z1049 e1050 B1051 => ?_)
                      obtain ⟨f1052, e1053, b1054⟩ := T_1025.2.2.2.1 49 (by decide) (by decide)
                      refine rf_R_ild pm_M255 T_1025 (pc_q := 21) rfl e1053 (by decide) (sf_in B1051 (by decide) (by decide)) rfl (fun z1055 ez1056 => ?_)
                      have e1057 : (z1049).toInt = 152 * ((m_1025 44)).toInt + 3 * (x4_1025).toInt + 2 := (sf_aux18 _ _ _ _ _ _ _ e1038 e1041 e1044 e1047 e1050)
                      have B1058 : sf_B 0 2 z1055 := ez1056 ▸ rf_p49s b1054 e1057 B1036 B1033 (by decide) (by decide) (by decide)
                      refine pm_R_ret pm_M255 (r := some (.int z1055)) rfl (pm_ret_i _) ?_
                      show pm_R _ 256 6 [.ref 41, .int x4_1025] [.int z1055] _ _
                      refine pm_R_op pm_M256 (pc_q := 7) (st_q := [.int 2, .int z1055]) rfl rfl rfl ?_
                      refine pm_R_icmp pm_M256 (t := 14) (pc_q := 10) rfl rfl rfl (fun c1059 => ?_) (fun c1059 => ?_)
                      · have B1060 : sf_B 0 1 z1055 := sf_neH0 c1059 sf_k2 B1058
                        refine pm_R_op pm_M256 (pc_q := 15) (st_q := [.int 0]) rfl rfl rfl ?_
                        refine pm_R_ret pm_M256 (r := some (.int 0)) rfl rfl ?_
                        show pm_R _ 261 59 [.ref 41, .int a0, .int a1, .int a2, .int x4_1025] [.int 0] _ _
                        refine pm_R_br pm_M261 (pc_q := 119) (st_q := []) rfl rfl ?_
                        refine sf_R_iinc pm_M261 (pc_q := 122) (ls_q := fun z => [.ref 41, .int a0, .int a1, .int a2, .int z]) (pm_q261_1 (Nat.le_of_ble_eq_true rfl)) B1033 rfl (by decide) (by decide) (by decide) (fun _ => rfl) rfl (fun z1061 e1062 B1063 => ?_)
                        show pm_R _ 261 122 [.ref 41, .int a0, .int a1, .int a2, .int z1061] [] _ _
                        refine pm_R_br pm_M261 (pc_q := 44) (pm_q261_1 (Nat.le_of_ble_eq_true rfl)) rfl ?_
                        exact ih_1025 _ (sf_up hN_1025 e1062 B1033 (by decide) (by decide)) h_1025 m_1025 w_1025 z1061 T_1025 F_1025 W_1025 (sf_weak B1063 (by decide) (by decide)) (sf_aux24 _ _ _ e1062 B1034.1 B1034.2 B1033.1 B1033.2 R0_1025) rfl
                      · have B1064 : sf_B 2 2 z1055 := sf_eqL (Classical.not_not.mp c1059) sf_k2
                        refine pm_R_op pm_M256 (pc_q := 11) (st_q := [.int 1]) rfl rfl rfl ?_
                        refine pm_R_br pm_M256 (pc_q := 15) rfl rfl ?_
                        refine pm_R_ret pm_M256 (r := some (.int 1)) rfl rfl ?_
                        show pm_R _ 261 59 [.ref 41, .int a0, .int a1, .int a2, .int x4_1025] [.int 1] _ _
                        refine pm_R_br pm_M261 (pc_q := 62) (st_q := []) rfl rfl ?_
                        refine pm_R_lo pm_M261 (pc_q := 63) rfl rfl rfl ?_
                        refine pm_R_lo pm_M261 (pc_q := 65) rfl rfl rfl ?_
                        refine pm_R_op pm_M261 (pc_q := 66) (st_q := [.int 1, .int x4_1025, .ref 41]) rfl rfl rfl ?_
                        refine pm_R_cv pm_M261 (pc_q := 69) (a := 41) (ra := [.int 1, .int x4_1025]) (rest := []) (ls_q := [.ref 41, .int x4_1025, .int 1]) rfl rfl (Or.inl rfl) pm_M255 T_1025.2.1 rfl (by decide) (Nat.lt_of_lt_of_le (by decide) T_1025.1) rfl rfl (Nat.le_of_ble_eq_true rfl) rfl rfl ?_
                        refine pm_R_lo pm_M255 (pc_q := 1) rfl rfl rfl ?_
                        refine rf_R_get pm_M255 T_1025 (pc_q := 4) (v := .ref 49) rfl rfl rfl rfl ?_
                        refine pm_R_op pm_M255 (pc_q := 7) (st_q := [.int 152, .ref 49]) rfl rfl rfl ?_
                        refine pm_R_lo pm_M255 (pc_q := 8) rfl rfl rfl ?_
                        refine rf_R_get pm_M255 T_1025 (pc_q := 11) (v := .int (m_1025 44)) rfl rfl rfl rfl ?_
                        refine sf_R_imulV pm_M255 (pc_q := 12) rfl rfl sf_k152 B1036 (by decide) (by decide) (by decide) e1038 ?_
                        refine pm_R_op pm_M255 (pc_q := 13) (st_q := [.int 2, .int z1037, .ref 49]) rfl rfl rfl ?_
                        refine sf_R_iaddV pm_M255 (pc_q := 14) rfl rfl B1039 sf_k2 (by decide) (by decide) e1041 ?_
                        refine pm_R_op pm_M255 (pc_q := 15) (st_q := [.int 3, .int z1040, .ref 49]) rfl rfl rfl ?_
                        refine pm_R_lo pm_M255 (pc_q := 16) rfl rfl rfl ?_
                        refine sf_R_imulV pm_M255 (pc_q := 17) rfl rfl sf_k3 B1033 (by decide) (by decide) (by decide) e1044 ?_
                        refine sf_R_iaddV pm_M255 (pc_q := 18) rfl rfl B1042 B1045 (by decide) (by decide) e1047 ?_
                        refine pm_R_lo pm_M255 (pc_q := 19) rfl rfl rfl ?_
                        refine sf_R_iadd pm_M255 (pc_q := 20) rfl rfl B1048 sf_k1 (by decide) (by decide) (fun z1065 e1066 B1067 => ?_)
                        refine rf_R_ild pm_M255 T_1025 (pc_q := 21) rfl e1053 (by decide) (sf_in B1067 (by decide) (by decide)) rfl (fun z1068 ez1069 => ?_)
                        have e1070 : (z1065).toInt = 152 * ((m_1025 44)).toInt + 3 * (x4_1025).toInt + 3 := (sf_aux17 _ _ _ _ _ _ _ e1038 e1041 e1044 e1047 e1066)
                        have B1071 : sf_B 0 5 z1068 := ez1069 ▸ rf_p49w b1054 e1070 B1036 B1033 (by decide) (by decide) (by decide)
                        refine pm_R_ret pm_M255 (r := some (.int z1068)) rfl (pm_ret_i _) ?_
                        show pm_R _ 261 69 [.ref 41, .int a0, .int a1, .int a2, .int x4_1025] [.int z1068] _ _
                        refine pm_R_lo pm_M261 (pc_q := 70) rfl rfl rfl ?_
                        refine pm_R_icmp pm_M261 (t := 119) (pc_q := 73) rfl rfl rfl (fun c1072 => ?_) (fun c1072 => ?_)
                        · skip
                          refine sf_R_iinc pm_M261 (pc_q := 122) (ls_q := fun z => [.ref 41, .int a0, .int a1, .int a2, .int z]) (pm_q261_1 (Nat.le_of_ble_eq_true rfl)) B1033 rfl (by decide) (by decide) (by decide) (fun _ => rfl) rfl (fun z1073 e1074 B1075 => ?_)
                          show pm_R _ 261 122 [.ref 41, .int a0, .int a1, .int a2, .int z1073] [] _ _
                          refine pm_R_br pm_M261 (pc_q := 44) (pm_q261_1 (Nat.le_of_ble_eq_true rfl)) rfl ?_
                          exact ih_1025 _ (sf_up hN_1025 e1074 B1033 (by decide) (by decide)) h_1025 m_1025 w_1025 z1073 T_1025 F_1025 W_1025 (sf_weak B1075 (by decide) (by decide)) (sf_aux24 _ _ _ e1074 B1034.1 B1034.2 B1033.1 B1033.2 R0_1025) rfl
                        · refine pm_R_lo pm_M261 (pc_q := 74) rfl rfl rfl ?_
                          refine pm_R_op pm_M261 (pc_q := 75) (st_q := [.int (-1), .int a1]) rfl rfl rfl ?_
                          refine pm_R_icmp pm_M261 (t := 93) (pc_q := 78) rfl rfl rfl (fun c1076 => absurd c1076 (sf_neq1 B527 sf_kn1 (by decide))) (fun c1076 => ?_)
                          skip
                          refine pm_R_lo pm_M261 (pc_q := 79) rfl rfl rfl ?_
                          refine rf_R_get pm_M261 T_1025 (pc_q := 82) (v := .ref 68) rfl rfl rfl rfl ?_
                          refine pm_R_lo pm_M261 (pc_q := 84) rfl rfl rfl ?_
                          obtain ⟨f1077, e1078⟩ := T_1025.2.2.2.1 68 (by decide) (by decide)
                          refine rf_R_ild pm_M261 T_1025 (pc_q := 85) rfl e1078 (by decide) (sf_in B1033 (by decide) (by decide)) rfl (fun z1080 ez1081 => ?_)
                          refine sf_R_lany pm_M261 (pc_q := 86) (st := []) rfl rfl rfl (fun z1082 => ?_)
                          refine pm_R_lo pm_M261 (pc_q := 87) rfl rfl rfl ?_
                          refine pm_R_cs pm_M261 (pc_q := 90) (ra := [.int a1, .long z1082]) (rest := []) (ls_q := [.long z1082, pm_no, .int a1]) rfl rfl (Or.inl rfl) pm_M206 rfl rfl (Nat.le_of_ble_eq_true rfl) rfl rfl ?_
                          refine pm_R_lo pm_M206 (pc_q := 1) rfl rfl rfl ?_
                          refine pm_R_lo pm_M206 (pc_q := 2) rfl rfl rfl ?_
                          refine sf_R_lany pm_M206 (pc_q := 3) (st := []) rfl rfl rfl (fun z1083 => ?_)
                          refine pm_R_op pm_M206 (pc_q := 4) (st_q := [.long 1, .long z1083]) rfl rfl rfl ?_
                          refine sf_R_lany pm_M206 (pc_q := 5) (st := []) rfl rfl rfl (fun z1084 => ?_)
                          refine pm_R_op pm_M206 (pc_q := 6) (st_q := [.long 1, .long z1084]) rfl rfl rfl ?_
                          refine sf_R_lcmp pm_M206 (pc_q := 7) rfl rfl (fun z1085 e1086 => ?_)
                          refine pm_R_ifc pm_M206 (t := 14) (pc_q := 10) rfl rfl rfl (fun c1087 => ?_) (fun c1087 => ?_)
                          · have k1088 := sf_lneC e1086 c1087
                            refine pm_R_op pm_M206 (pc_q := 15) (st_q := [.int 0]) rfl rfl rfl ?_
                            refine pm_R_ret pm_M206 (r := some (.int 0)) rfl rfl ?_
                            show pm_R _ 261 90 [.ref 41, .int a0, .int a1, .int a2, .int x4_1025] [.int 0] _ _
                            refine pm_R_br pm_M261 (pc_q := 119) (st_q := []) rfl rfl ?_
                            refine sf_R_iinc pm_M261 (pc_q := 122) (ls_q := fun z => [.ref 41, .int a0, .int a1, .int a2, .int z]) (pm_q261_1 (Nat.le_of_ble_eq_true rfl)) B1033 rfl (by decide) (by decide) (by decide) (fun _ => rfl) rfl (fun z1089 e1090 B1091 => ?_)
                            show pm_R _ 261 122 [.ref 41, .int a0, .int a1, .int a2, .int z1089] [] _ _
                            refine pm_R_br pm_M261 (pc_q := 44) (pm_q261_1 (Nat.le_of_ble_eq_true rfl)) rfl ?_
                            exact ih_1025 _ (sf_up hN_1025 e1090 B1033 (by decide) (by decide)) h_1025 m_1025 w_1025 z1089 T_1025 F_1025 W_1025 (sf_weak B1091 (by decide) (by decide)) (sf_aux24 _ _ _ e1090 B1034.1 B1034.2 B1033.1 B1033.2 R0_1025) rfl
                          · have B1092 : sf_B 0 0 z1085 := sf_eqL (Classical.not_not.mp c1087) sf_k0
                            have B1093 : lf_B 1 1 z1084 := lf_eqB e1086 B1092 (⟨by decide, by decide⟩ : lf_B 1 1 1)
                            refine pm_R_op pm_M206 (pc_q := 11) (st_q := [.int 1]) rfl rfl rfl ?_
                            refine pm_R_br pm_M206 (pc_q := 15) rfl rfl ?_
                            refine pm_R_ret pm_M206 (r := some (.int 1)) rfl rfl ?_
                            show pm_R _ 261 90 [.ref 41, .int a0, .int a1, .int a2, .int x4_1025] [.int 1] _ _
                            refine pm_R_br pm_M261 (pc_q := 93) (st_q := []) rfl rfl ?_
                            refine pm_R_lo pm_M261 (pc_q := 94) rfl rfl rfl ?_
                            refine rf_R_get pm_M261 T_1025 (pc_q := 97) (v := .ref 69) rfl rfl rfl rfl ?_
                            refine pm_R_lo pm_M261 (pc_q := 98) rfl rfl rfl ?_
                            refine rf_R_get pm_M261 T_1025 (pc_q := 101) (v := .int (m_1025 47)) rfl rfl rfl rfl ?_
                            refine pm_R_lo pm_M261 (pc_q := 102) rfl rfl rfl ?_
                            refine pm_R_lo pm_M261 (pc_q := 104) rfl rfl rfl ?_
                            refine pm_R_op pm_M261 (pc_q := 105) (st_q := [.int 2, .int x4_1025, .ref 41, .int (m_1025 47), .ref 69]) rfl rfl rfl ?_
                            refine pm_R_cv pm_M261 (pc_q := 108) (a := 41) (ra := [.int 2, .int x4_1025]) (rest := [.int (m_1025 47), .ref 69]) (ls_q := [.ref 41, .int x4_1025, .int 2]) rfl rfl (Or.inl rfl) pm_M255 T_1025.2.1 rfl (by decide) (Nat.lt_of_lt_of_le (by decide) T_1025.1) rfl rfl (Nat.le_of_ble_eq_true rfl) rfl rfl ?_
                            refine pm_R_lo pm_M255 (pc_q := 1) rfl rfl rfl ?_
                            refine rf_R_get pm_M255 T_1025 (pc_q := 4) (v := .ref 49) rfl rfl rfl rfl ?_
                            refine pm_R_op pm_M255 (pc_q := 7) (st_q := [.int 152, .ref 49]) rfl rfl rfl ?_
                            refine pm_R_lo pm_M255 (pc_q := 8) rfl rfl rfl ?_
                            refine rf_R_get pm_M255 T_1025 (pc_q := 11) (v := .int (m_1025 44)) rfl rfl rfl rfl ?_
                            refine sf_R_imulV pm_M255 (pc_q := 12) rfl rfl sf_k152 B1036 (by decide) (by decide) (by decide) e1038 ?_
                            refine pm_R_op pm_M255 (pc_q := 13) (st_q := [.int 2, .int z1037, .ref 49]) rfl rfl rfl ?_
                            refine sf_R_iaddV pm_M255 (pc_q := 14) rfl rfl B1039 sf_k2 (by decide) (by decide) e1041 ?_
                            refine pm_R_op pm_M255 (pc_q := 15) (st_q := [.int 3, .int z1040, .ref 49]) rfl rfl rfl ?_
                            refine pm_R_lo pm_M255 (pc_q := 16) rfl rfl rfl ?_
                            refine sf_R_imulV pm_M255 (pc_q := 17) rfl rfl sf_k3 B1033 (by decide) (by decide) (by decide) e1044 ?_
                            refine sf_R_iaddV pm_M255 (pc_q := 18) rfl rfl B1042 B1045 (by decide) (by decide) e1047 ?_
                            refine pm_R_lo pm_M255 (pc_q := 19) rfl rfl rfl ?_
                            refine sf_R_iadd pm_M255 (pc_q := 20) rfl rfl B1048 sf_k2 (by decide) (by decide) (fun z1094 e1095 B1096 => ?_)
                            refine rf_R_ild pm_M255 T_1025 (pc_q := 21) rfl e1053 (by decide) (sf_in B1096 (by decide) (by decide)) rfl (fun z1097 ez1098 => ?_)
                            have e1099 : (z1094).toInt = 152 * ((m_1025 44)).toInt + 3 * (x4_1025).toInt + 4 := (sf_aux19 _ _ _ _ _ _ _ e1038 e1041 e1044 e1047 e1095)
                            have B1100 : sf_B (-1) 9 z1097 := ez1098 ▸ rf_p49o b1054 e1099 B1036 B1033 (by decide) (by decide) (by decide)
                            refine pm_R_ret pm_M255 (r := some (.int z1097)) rfl (pm_ret_i _) ?_
                            show pm_R _ 261 108 [.ref 41, .int a0, .int a1, .int a2, .int x4_1025] [.int z1097, .int (m_1025 47), .ref 69] _ _
                            obtain ⟨f1101, e1102⟩ := T_1025.2.2.2.1 69 (by decide) (by decide)
                            refine rf_R_ist pm_M261 T_1025 (pc_q := 109) rfl e1102 (by decide) (by decide) (sf_in B1034 (by decide) (by decide)) ⟨_, rfl⟩ rfl (fun h1104 T1105 F1106 e1107 => ?_)
                            have F1108 := F_1025.trans F1106 (by decide)
                            refine pm_R_lo pm_M261 (pc_q := 110) rfl rfl rfl ?_
                            refine pm_R_op pm_M261 (pc_q := 111) (st_q := [.ref 41, .ref 41]) (pm_q261_1 (Nat.le_of_ble_eq_true rfl)) rfl rfl ?_
                            refine rf_R_get pm_M261 T1105 (pc_q := 114) (v := .int (m_1025 47)) (pm_q261_1 (Nat.le_of_ble_eq_true rfl)) rfl rfl rfl ?_
                            refine pm_R_op pm_M261 (pc_q := 115) (st_q := [.int 1, .int (m_1025 47), .ref 41]) (pm_q261_1 (Nat.le_of_ble_eq_true rfl)) rfl rfl ?_
                            refine sf_R_iadd pm_M261 (pc_q := 116) (pm_q261_1 (Nat.le_of_ble_eq_true rfl)) rfl B1034 sf_k1 (by decide) (by decide) (fun z1109 e1110 B1111 => ?_)
                            refine rf_R_put pm_M261 T1105 (pc_q := 119) (pm_q261_1 (Nat.le_of_ble_eq_true rfl)) rfl rfl (by decide) rfl rfl (sf_weak B1111 (by decide) (by decide)) rfl rfl (fun h1112 m1115 em1116 T1113 F1114 => ?_)
                            have F1117 := F1108.trans F1114 (by decide)
                            have B1118 : sf_B 1 50 (m1115 43) := by rw [em1116]; exact B1035
                            have B1119 : sf_B 1 50 (m1115 47) := by rw [em1116]; exact B1111
                            have ek1120 : (m1115 47).toInt = (z1109).toInt := by rw [em1116]; rfl
                            have W1121 : rf_W [42, 43, 44, 47] m m1115 := by rw [em1116]; exact W1029.put (by decide)
                            have W1122 : rf_W [47] m532 m1115 := by rw [em1116]; exact W_1025.put (by decide)
                            refine sf_R_iinc pm_M261 (pc_q := 122) (ls_q := fun z => [.ref 41, .int a0, .int a1, .int a2, .int z]) (pm_q261_1 (Nat.le_of_ble_eq_true rfl)) B1033 rfl (by decide) (by decide) (by decide) (fun _ => rfl) rfl (fun z1123 e1124 B1125 => ?_)
                            show pm_R _ 261 122 [.ref 41, .int a0, .int a1, .int a2, .int z1123] [] _ _
                            refine pm_R_br pm_M261 (pc_q := 44) (pm_q261_1 (Nat.le_of_ble_eq_true rfl)) rfl ?_
                            exact ih_1025 _ (sf_up hN_1025 e1124 B1033 (by decide) (by decide)) h1112 m1115 w_1025 z1123 T1113 F1117 W1122 (sf_weak B1125 (by decide) (by decide)) (sf_aux25 _ _ _ _ _ e1110 ek1120 e1124 B1034.1 B1034.2 B1033.1 B1033.2 R0_1025) rfl
                exact L_1025 _ h529 m532 w4 0 T530 F534 (rf_W.refl _ _) (sf_weak sf_k0 (by decide) (by decide)) (sf_aux26 _ B535.1 B535.2) rfl
              · refine pm_R_op pm_M261 (pc_q := 35) (st_q := [.int 0]) rfl rfl rfl ?_
                exact pm_R_ret pm_M261 (r := some (.int 0)) rfl rfl (K 0 m3 w4 h5 T6 F9 W10 (sf_weak sf_k0 (by decide) (by decide)))

set_option maxRecDepth 100000 in
set_option maxHeartbeats 4000000 in
/-- SilentTableModel.meal -/
theorem rf_c253 {d : Nat} {m : Nat → Int32} {w : Int64} {h : pm_H} {Q : Option Value → pm_H → Prop} {a0 : Int32} {a1 : Int32} (T : rf_T m w h)  (K : ∀ (r : Int32) (m_q : Nat → Int32) (w_q : Int64) (h_q : pm_H), rf_T m_q w_q h_q → rf_G [41, 67, 68] h h_q → rf_W [0, 42, 43, 44] m m_q → Q (some (.int r)) h_q) : pm_R (d + 3) 253 0 [.ref 41, .int a0, .int a1, pm_no, pm_no, pm_no] [] h Q := by
  refine pm_R_lo pm_M253 (pc_q := 1) rfl rfl rfl ?_
  refine pm_R_op pm_M253 (pc_q := 2) (st_q := [.int 0, .ref 41]) rfl rfl rfl ?_
  refine rf_R_put pm_M253 T (pc_q := 5) rfl rfl rfl (by decide) rfl rfl sf_k0 rfl rfl (fun h1 m4 em5 T2 F3 => ?_)
  have F6 := (rf_G.refl [41, 67, 68] h).trans F3 (by decide)
  have B7 : sf_B 0 0 (m4 0) := by rw [em5]; exact sf_k0
  have W9 : rf_W [0, 42, 43, 44] m m4 := by rw [em5]; exact (rf_W.refl [0, 42, 43, 44] m).put (by decide)
  refine pm_R_lo pm_M253 (pc_q := 6) rfl rfl rfl ?_
  refine pm_R_lo pm_M253 (pc_q := 7) rfl rfl rfl ?_
  refine pm_R_cv pm_M253 (pc_q := 10) (a := 41) (ra := [.int a0]) (rest := []) (ls_q := [.ref 41, .int a0, pm_no, pm_no, pm_no, pm_no]) rfl rfl (Or.inl rfl) pm_M254 T2.2.1 rfl (by decide) (Nat.lt_of_lt_of_le (by decide) T2.1) rfl rfl (Nat.le_of_ble_eq_true rfl) rfl rfl ?_
  refine rf_c254 (d := d + 0) T2  (fun r10 m12 w13 h14 T15 F16 W17 B11 => ?_)
  have F18 := F6.trans F16 (by decide)
  have W19 : rf_W [0, 42, 43, 44] m m12 := W9.trans W17 (by decide)
  show pm_R _ 253 10 [.ref 41, .int a0, .int a1, pm_no, pm_no, pm_no] [.int r10] _ _
  refine pm_R_ifc pm_M253 (t := 22) (pc_q := 13) rfl rfl rfl (fun c20 => ?_) (fun c20 => ?_)
  · have B21 : sf_B 0 0 r10 := sf_eqL c20 sf_k0
    refine pm_R_op pm_M253 (pc_q := 23) (st_q := [.int (-1)]) rfl rfl rfl ?_
    exact pm_R_ret pm_M253 (r := some (.int (-1))) rfl rfl (K (-1) m12 w13 h14 T15 F18 W19)
  · have B22 : sf_B 1 1 r10 := sf_neL0 c20 sf_k0 B11
    refine pm_R_lo pm_M253 (pc_q := 14) rfl rfl rfl ?_
    refine pm_R_op pm_M253 (pc_q := 15) (st_q := [.int 0, .int a1]) rfl rfl rfl ?_
    refine pm_R_op pm_M253 (pc_q := 16) (st_q := [.int 3, .int 0, .int a1]) rfl rfl rfl ?_
    refine pm_R_cs pm_M253 (pc_q := 19) (ra := [.int 3, .int 0, .int a1]) (rest := []) (ls_q := [.int a1, .int 0, .int 3]) rfl rfl (Or.inl rfl) pm_M174 rfl rfl (Nat.le_of_ble_eq_true rfl) rfl rfl ?_
    refine pm_R_lo pm_M174 (pc_q := 1) rfl rfl rfl ?_
    refine pm_R_lo pm_M174 (pc_q := 2) rfl rfl rfl ?_
    refine pm_R_icmp pm_M174 (t := 14) (pc_q := 5) rfl rfl rfl (fun c23 => ?_) (fun c23 => ?_)
    · have B24 : sf_B (-2147483648) (-1) a1 := sf_ltL c23 (sf_any a1) sf_k0
      refine pm_R_op pm_M174 (pc_q := 15) (st_q := [.int 0]) rfl rfl rfl ?_
      refine pm_R_ret pm_M174 (r := some (.int 0)) rfl rfl ?_
      show pm_R _ 253 19 [.ref 41, .int a0, .int a1, pm_no, pm_no, pm_no] [.int 0] _ _
      refine pm_R_br pm_M253 (pc_q := 22) (st_q := []) rfl rfl ?_
      refine pm_R_op pm_M253 (pc_q := 23) (st_q := [.int (-1)]) rfl rfl rfl ?_
      exact pm_R_ret pm_M253 (r := some (.int (-1))) rfl rfl (K (-1) m12 w13 h14 T15 F18 W19)
    · have B25 : sf_B 0 2147483647 a1 := sf_leR (Int32.not_lt.mp c23) sf_k0 (sf_any a1)
      refine pm_R_lo pm_M174 (pc_q := 6) rfl rfl rfl ?_
      refine pm_R_lo pm_M174 (pc_q := 7) rfl rfl rfl ?_
      refine pm_R_icmp pm_M174 (t := 14) (pc_q := 10) rfl rfl rfl (fun c26 => ?_) (fun c26 => ?_)
      · have B27 : sf_B 4 2147483647 a1 := sf_ltR c26 sf_k3 B25
        refine pm_R_op pm_M174 (pc_q := 15) (st_q := [.int 0]) rfl rfl rfl ?_
        refine pm_R_ret pm_M174 (r := some (.int 0)) rfl rfl ?_
        show pm_R _ 253 19 [.ref 41, .int a0, .int a1, pm_no, pm_no, pm_no] [.int 0] _ _
        refine pm_R_br pm_M253 (pc_q := 22) (st_q := []) rfl rfl ?_
        refine pm_R_op pm_M253 (pc_q := 23) (st_q := [.int (-1)]) rfl rfl rfl ?_
        exact pm_R_ret pm_M253 (r := some (.int (-1))) rfl rfl (K (-1) m12 w13 h14 T15 F18 W19)
      · have B28 : sf_B 0 3 a1 := sf_leL (Int32.not_lt.mp c26) B25 sf_k3
        refine pm_R_op pm_M174 (pc_q := 11) (st_q := [.int 1]) rfl rfl rfl ?_
        refine pm_R_br pm_M174 (pc_q := 15) rfl rfl ?_
        refine pm_R_ret pm_M174 (r := some (.int 1)) rfl rfl ?_
        show pm_R _ 253 19 [.ref 41, .int a0, .int a1, pm_no, pm_no, pm_no] [.int 1] _ _
        refine pm_R_br pm_M253 (pc_q := 24) (st_q := []) rfl rfl ?_
        refine pm_R_op pm_M253 (pc_q := 25) (st_q := [.int 0]) rfl rfl rfl ?_
        refine pm_R_lo pm_M253 (pc_q := 26) (ls_q := [.ref 41, .int a0, .int a1, .int 0, pm_no, pm_no]) (st_q := []) rfl rfl rfl ?_
        refine pm_R_op pm_M253 (pc_q := 27) (st_q := [.int 0]) rfl rfl rfl ?_
        refine pm_R_lo pm_M253 (pc_q := 29) (ls_q := [.ref 41, .int a0, .int a1, .int 0, .int 0, pm_no]) (st_q := []) rfl rfl rfl ?_
        refine pm_R_op pm_M253 (pc_q := 30) (st_q := [.int 0]) rfl rfl rfl ?_
        refine pm_R_lo pm_M253 (pc_q := 32) (ls_q := [.ref 41, .int a0, .int a1, .int 0, .int 0, .int 0]) (st_q := []) rfl rfl rfl ?_
        have L_435 : ∀ (N : Nat) (x3_435 : Int32) (x4_435 : Int32) (x5_435 : Int32), sf_B (-2147483648) 2147483647 x3_435 → sf_B (-2147483648) 2147483647 x4_435 → sf_B 0 50 x5_435 → (50 - x5_435.toInt).toNat = N → pm_R (d + 3) 253 32 [.ref 41, .int a0, .int a1, .int x3_435, .int x4_435, .int x5_435] [] h14 Q := by
          intro N
          induction N using Nat.strongRecOn with
          | ind N ih_435 =>
            intro x3_435 x4_435 x5_435 Bx3_435 Bx4_435 Bx5_435 hN_435
            refine pm_R_lo pm_M253 (pc_q := 34) rfl rfl rfl ?_
            refine pm_R_lo pm_M253 (pc_q := 35) rfl rfl rfl ?_
            have B436 : sf_B 0 50 (m12 43) := T15.2.2.1 43
            refine rf_R_get pm_M253 T15 (pc_q := 38) (v := .int (m12 43)) rfl rfl rfl rfl ?_
            refine pm_R_icmp pm_M253 (t := 93) (pc_q := 41) rfl rfl rfl (fun c437 => ?_) (fun c437 => ?_)
            · skip
              refine pm_R_lo pm_M253 (pc_q := 94) rfl rfl rfl ?_
              refine pm_R_ifc pm_M253 (t := 104) (pc_q := 97) rfl rfl rfl (fun c438 => ?_) (fun c438 => ?_)
              · have B439 : sf_B 1 3 a1 := sf_neL0 c438 sf_k0 B28
                refine pm_R_lo pm_M253 (pc_q := 105) rfl rfl rfl ?_
                refine pm_R_op pm_M253 (pc_q := 106) (st_q := [.int 1, .int a1]) rfl rfl rfl ?_
                refine pm_R_icmp pm_M253 (t := 116) (pc_q := 109) rfl rfl rfl (fun c440 => ?_) (fun c440 => ?_)
                · have B441 : sf_B 2 3 a1 := sf_neL0 c440 sf_k1 B439
                  refine pm_R_lo pm_M253 (pc_q := 117) (pm_q253_1 (Nat.le_of_ble_eq_true rfl)) rfl rfl ?_
                  refine pm_R_op pm_M253 (pc_q := 118) (st_q := [.int 2, .int a1]) (pm_q253_1 (Nat.le_of_ble_eq_true rfl)) rfl rfl ?_
                  refine pm_R_icmp pm_M253 (t := 125) (pc_q := 121) (pm_q253_1 (Nat.le_of_ble_eq_true rfl)) rfl rfl (fun c442 => ?_) (fun c442 => ?_)
                  · have B443 : sf_B 3 3 a1 := sf_neL0 c442 sf_k2 B441
                    refine pm_R_lo pm_M253 (pc_q := 127) (pm_q253_1 (Nat.le_of_ble_eq_true rfl)) rfl rfl ?_
                    exact pm_R_ret pm_M253 (r := some (.int x4_435)) (pm_q253_1 (Nat.le_of_ble_eq_true rfl)) (pm_ret_i _) (K x4_435 m12 w13 h14 T15 F18 W19)
                  · have B444 : sf_B 2 2 a1 := sf_eqL (Classical.not_not.mp c442) sf_k2
                    refine pm_R_lo pm_M253 (pc_q := 122) (pm_q253_1 (Nat.le_of_ble_eq_true rfl)) rfl rfl ?_
                    refine pm_R_br pm_M253 (pc_q := 127) (pm_q253_1 (Nat.le_of_ble_eq_true rfl)) rfl ?_
                    exact pm_R_ret pm_M253 (r := some (.int x3_435)) (pm_q253_1 (Nat.le_of_ble_eq_true rfl)) (pm_ret_i _) (K x3_435 m12 w13 h14 T15 F18 W19)
                · have B445 : sf_B 1 1 a1 := sf_eqL (Classical.not_not.mp c440) sf_k1
                  refine pm_R_lo pm_M253 (pc_q := 110) rfl rfl rfl ?_
                  refine rf_R_get pm_M253 T15 (pc_q := 113) (v := .int (m12 43)) (pm_q253_1 (Nat.le_of_ble_eq_true rfl)) rfl rfl rfl ?_
                  refine pm_R_br pm_M253 (pc_q := 127) (pm_q253_1 (Nat.le_of_ble_eq_true rfl)) rfl ?_
                  exact pm_R_ret pm_M253 (r := some (.int (m12 43))) (pm_q253_1 (Nat.le_of_ble_eq_true rfl)) (pm_ret_i _) (K (m12 43) m12 w13 h14 T15 F18 W19)
              · have B446 : sf_B 0 0 a1 := sf_eqL (Classical.not_not.mp c438) sf_k0
                refine pm_R_lo pm_M253 (pc_q := 98) rfl rfl rfl ?_
                have B447 : sf_B 0 6 (m12 42) := T15.2.2.1 42
                refine rf_R_get pm_M253 T15 (pc_q := 101) (v := .int (m12 42)) rfl rfl rfl rfl ?_
                refine pm_R_br pm_M253 (pc_q := 127) rfl rfl ?_
                exact pm_R_ret pm_M253 (r := some (.int (m12 42))) (pm_q253_1 (Nat.le_of_ble_eq_true rfl)) (pm_ret_i _) (K (m12 42) m12 w13 h14 T15 F18 W19)
            · have B448 : sf_B 0 49 x5_435 := sf_ltL (Int32.not_le.mp c437) Bx5_435 B436
              have B449 : sf_B 1 50 (m12 43) := sf_ltR (Int32.not_le.mp c437) Bx5_435 B436
              refine pm_R_lo pm_M253 (pc_q := 42) rfl rfl rfl ?_
              refine pm_R_lo pm_M253 (pc_q := 43) rfl rfl rfl ?_
              refine pm_R_lo pm_M253 (pc_q := 45) rfl rfl rfl ?_
              refine pm_R_cv pm_M253 (pc_q := 48) (a := 41) (ra := [.int x5_435]) (rest := [.int x3_435]) (ls_q := [.ref 41, .int x5_435]) rfl rfl (Or.inl rfl) pm_M256 T15.2.1 rfl (by decide) (Nat.lt_of_lt_of_le (by decide) T15.1) rfl rfl (Nat.le_of_ble_eq_true rfl) rfl rfl ?_
              refine pm_R_lo pm_M256 (pc_q := 1) rfl rfl rfl ?_
              refine pm_R_lo pm_M256 (pc_q := 2) rfl rfl rfl ?_
              refine pm_R_op pm_M256 (pc_q := 3) (st_q := [.int 0, .int x5_435, .ref 41]) rfl rfl rfl ?_
              refine pm_R_cv pm_M256 (pc_q := 6) (a := 41) (ra := [.int 0, .int x5_435]) (rest := []) (ls_q := [.ref 41, .int x5_435, .int 0]) rfl rfl (Or.inl rfl) pm_M255 T15.2.1 rfl (by decide) (Nat.lt_of_lt_of_le (by decide) T15.1) rfl rfl (Nat.le_of_ble_eq_true rfl) rfl rfl ?_
              refine pm_R_lo pm_M255 (pc_q := 1) rfl rfl rfl ?_
              refine rf_R_get pm_M255 T15 (pc_q := 4) (v := .ref 49) rfl rfl rfl rfl ?_
              refine pm_R_op pm_M255 (pc_q := 7) (st_q := [.int 152, .ref 49]) rfl rfl rfl ?_
              refine pm_R_lo pm_M255 (pc_q := 8) rfl rfl rfl ?_
              have B450 : sf_B 0 1 (m12 44) := T15.2.2.1 44
              refine rf_R_get pm_M255 T15 (pc_q := 11) (v := .int (m12 44)) rfl rfl rfl rfl ?_
              refine sf_R_imul pm_M255 (pc_q := 12) rfl rfl sf_k152 B450 (by decide) (by decide) (by decide) (fun z451 e452 B453 => ?_)
              refine pm_R_op pm_M255 (pc_q := 13) (st_q := [.int 2, .int z451, .ref 49]) rfl rfl rfl ?_
              refine sf_R_iadd pm_M255 (pc_q := 14) rfl rfl B453 sf_k2 (by decide) (by decide) (fun z454 e455 B456 => ?_)
              refine pm_R_op pm_M255 (pc_q := 15) (st_q := [.int 3, .int z454, .ref 49]) rfl rfl rfl ?_
              refine pm_R_lo pm_M255 (pc_q := 16) rfl rfl rfl ?_
              refine sf_R_imul pm_M255 (pc_q := 17) rfl rfl sf_k3 B448 (by decide) (by decide) (by decide) (fun z457 e458 B459 => ?_)
              refine sf_R_iadd pm_M255 (pc_q := 18) rfl rfl B456 B459 (by decide) (by decide) (fun z460 e461 B462 => ?_)
              refine pm_R_lo pm_M255 (pc_q := 19) rfl rfl rfl ?_
              refine sf_R_iadd pm_M255 (pc_q := 20) rfl rfl B462 sf_k0 (by decide) (by decide) (fun z463 e464 B465 => ?_)
              obtain ⟨f466, e467, b468⟩ := T15.2.2.2.1 49 (by decide) (by decide)
              refine rf_R_ild pm_M255 T15 (pc_q := 21) rfl e467 (by decide) (sf_in B465 (by decide) (by decide)) rfl (fun z469 ez470 => ?_)
              have e471 : (z463).toInt = 152 * ((m12 44)).toInt + 3 * (x5_435).toInt + 2 := (sf_aux18 _ _ _ _ _ _ _ e452 e455 e458 e461 e464)
              have B472 : sf_B 0 2 z469 := ez470 ▸ rf_p49s b468 e471 B450 B448 (by decide) (by decide) (by decide)
              refine pm_R_ret pm_M255 (r := some (.int z469)) rfl (pm_ret_i _) ?_
              show pm_R _ 256 6 [.ref 41, .int x5_435] [.int z469] _ _
              refine pm_R_op pm_M256 (pc_q := 7) (st_q := [.int 2, .int z469]) rfl rfl rfl ?_
              refine pm_R_icmp pm_M256 (t := 14) (pc_q := 10) rfl rfl rfl (fun c473 => ?_) (fun c473 => ?_)
              · have B474 : sf_B 0 1 z469 := sf_neH0 c473 sf_k2 B472
                refine pm_R_op pm_M256 (pc_q := 15) (st_q := [.int 0]) rfl rfl rfl ?_
                refine pm_R_ret pm_M256 (r := some (.int 0)) rfl rfl ?_
                show pm_R _ 253 48 [.ref 41, .int a0, .int a1, .int x3_435, .int x4_435, .int x5_435] [.int 0, .int x3_435] _ _
                refine pm_R_br pm_M253 (pc_q := 55) (st_q := [.int x3_435]) rfl rfl ?_
                refine pm_R_op pm_M253 (pc_q := 56) (st_q := [.int 0, .int x3_435]) rfl rfl rfl ?_
                refine sf_R_iadd pm_M253 (pc_q := 57) rfl rfl Bx3_435 sf_k0 (by decide) (by decide) (fun z475 e476 B477 => ?_)
                refine pm_R_lo pm_M253 (pc_q := 58) (ls_q := [.ref 41, .int a0, .int a1, .int z475, .int x4_435, .int x5_435]) (st_q := []) rfl rfl rfl ?_
                refine pm_R_lo pm_M253 (pc_q := 60) rfl rfl rfl ?_
                refine pm_R_lo pm_M253 (pc_q := 61) rfl rfl rfl ?_
                refine pm_R_lo pm_M253 (pc_q := 63) rfl rfl rfl ?_
                refine pm_R_cv pm_M253 (pc_q := 66) (a := 41) (ra := [.int x5_435]) (rest := [.int x4_435]) (ls_q := [.ref 41, .int x5_435]) rfl rfl (Or.inl rfl) pm_M256 T15.2.1 rfl (by decide) (Nat.lt_of_lt_of_le (by decide) T15.1) rfl rfl (Nat.le_of_ble_eq_true rfl) rfl rfl ?_
                refine pm_R_lo pm_M256 (pc_q := 1) rfl rfl rfl ?_
                refine pm_R_lo pm_M256 (pc_q := 2) rfl rfl rfl ?_
                refine pm_R_op pm_M256 (pc_q := 3) (st_q := [.int 0, .int x5_435, .ref 41]) rfl rfl rfl ?_
                refine pm_R_cv pm_M256 (pc_q := 6) (a := 41) (ra := [.int 0, .int x5_435]) (rest := []) (ls_q := [.ref 41, .int x5_435, .int 0]) rfl rfl (Or.inl rfl) pm_M255 T15.2.1 rfl (by decide) (Nat.lt_of_lt_of_le (by decide) T15.1) rfl rfl (Nat.le_of_ble_eq_true rfl) rfl rfl ?_
                refine pm_R_lo pm_M255 (pc_q := 1) rfl rfl rfl ?_
                refine rf_R_get pm_M255 T15 (pc_q := 4) (v := .ref 49) rfl rfl rfl rfl ?_
                refine pm_R_op pm_M255 (pc_q := 7) (st_q := [.int 152, .ref 49]) rfl rfl rfl ?_
                refine pm_R_lo pm_M255 (pc_q := 8) rfl rfl rfl ?_
                refine rf_R_get pm_M255 T15 (pc_q := 11) (v := .int (m12 44)) rfl rfl rfl rfl ?_
                refine sf_R_imulV pm_M255 (pc_q := 12) rfl rfl sf_k152 B450 (by decide) (by decide) (by decide) e452 ?_
                refine pm_R_op pm_M255 (pc_q := 13) (st_q := [.int 2, .int z451, .ref 49]) rfl rfl rfl ?_
                refine sf_R_iaddV pm_M255 (pc_q := 14) rfl rfl B453 sf_k2 (by decide) (by decide) e455 ?_
                refine pm_R_op pm_M255 (pc_q := 15) (st_q := [.int 3, .int z454, .ref 49]) rfl rfl rfl ?_
                refine pm_R_lo pm_M255 (pc_q := 16) rfl rfl rfl ?_
                refine sf_R_imulV pm_M255 (pc_q := 17) rfl rfl sf_k3 B448 (by decide) (by decide) (by decide) e458 ?_
                refine sf_R_iaddV pm_M255 (pc_q := 18) rfl rfl B456 B459 (by decide) (by decide) e461 ?_
                refine pm_R_lo pm_M255 (pc_q := 19) rfl rfl rfl ?_
                refine sf_R_iaddV pm_M255 (pc_q := 20) rfl rfl B462 sf_k0 (by decide) (by decide) e464 ?_
                refine pm_R_iald pm_M255 (pc_q := 21) (v := z469) rfl e467 (Nat.lt_of_lt_of_le (by decide) T15.1) (sf_in B465 (by decide) (by decide)) ez470 rfl ?_
                refine pm_R_ret pm_M255 (r := some (.int z469)) rfl (pm_ret_i _) ?_
                show pm_R _ 256 6 [.ref 41, .int x5_435] [.int z469] _ _
                refine pm_R_op pm_M256 (pc_q := 7) (st_q := [.int 2, .int z469]) rfl rfl rfl ?_
                refine pm_R_icmp pm_M256 (t := 14) (pc_q := 10) rfl rfl rfl (fun c480 => ?_) (fun c480 => absurd (Classical.not_not.mp c480) (sf_neq2 B474 sf_k2 (by decide)))
                skip
                refine pm_R_op pm_M256 (pc_q := 15) (st_q := [.int 0]) rfl rfl rfl ?_
                refine pm_R_ret pm_M256 (r := some (.int 0)) rfl rfl ?_
                show pm_R _ 253 66 [.ref 41, .int a0, .int a1, .int z475, .int x4_435, .int x5_435] [.int 0, .int x4_435] _ _
                refine pm_R_br pm_M253 (pc_q := 83) (st_q := [.int x4_435]) rfl rfl ?_
                refine pm_R_op pm_M253 (pc_q := 84) (st_q := [.int 0, .int x4_435]) rfl rfl rfl ?_
                refine sf_R_iadd pm_M253 (pc_q := 85) rfl rfl Bx4_435 sf_k0 (by decide) (by decide) (fun z481 e482 B483 => ?_)
                refine pm_R_lo pm_M253 (pc_q := 87) (ls_q := [.ref 41, .int a0, .int a1, .int z475, .int z481, .int x5_435]) (st_q := []) rfl rfl rfl ?_
                refine sf_R_iinc pm_M253 (pc_q := 90) (ls_q := fun z => [.ref 41, .int a0, .int a1, .int z475, .int z481, .int z]) rfl B448 rfl (by decide) (by decide) (by decide) (fun _ => rfl) rfl (fun z484 e485 B486 => ?_)
                show pm_R _ 253 90 [.ref 41, .int a0, .int a1, .int z475, .int z481, .int z484] [] _ _
                refine pm_R_br pm_M253 (pc_q := 32) rfl rfl ?_
                exact ih_435 _ (sf_up hN_435 e485 B448 (by decide) (by decide)) z475 z481 z484 B477 B483 (sf_weak B486 (by decide) (by decide)) rfl
              · have B487 : sf_B 2 2 z469 := sf_eqL (Classical.not_not.mp c473) sf_k2
                refine pm_R_op pm_M256 (pc_q := 11) (st_q := [.int 1]) rfl rfl rfl ?_
                refine pm_R_br pm_M256 (pc_q := 15) rfl rfl ?_
                refine pm_R_ret pm_M256 (r := some (.int 1)) rfl rfl ?_
                show pm_R _ 253 48 [.ref 41, .int a0, .int a1, .int x3_435, .int x4_435, .int x5_435] [.int 1, .int x3_435] _ _
                refine pm_R_br pm_M253 (pc_q := 51) (st_q := [.int x3_435]) rfl rfl ?_
                refine pm_R_op pm_M253 (pc_q := 52) (st_q := [.int 1, .int x3_435]) rfl rfl rfl ?_
                refine pm_R_br pm_M253 (pc_q := 56) rfl rfl ?_
                refine sf_R_iany pm_M253 (pc_q := 57) (st := []) rfl rfl rfl (fun z491 => ?_)
                refine pm_R_lo pm_M253 (pc_q := 58) (ls_q := [.ref 41, .int a0, .int a1, .int z491, .int x4_435, .int x5_435]) (st_q := []) rfl rfl rfl ?_
                refine pm_R_lo pm_M253 (pc_q := 60) rfl rfl rfl ?_
                refine pm_R_lo pm_M253 (pc_q := 61) rfl rfl rfl ?_
                refine pm_R_lo pm_M253 (pc_q := 63) rfl rfl rfl ?_
                refine pm_R_cv pm_M253 (pc_q := 66) (a := 41) (ra := [.int x5_435]) (rest := [.int x4_435]) (ls_q := [.ref 41, .int x5_435]) rfl rfl (Or.inl rfl) pm_M256 T15.2.1 rfl (by decide) (Nat.lt_of_lt_of_le (by decide) T15.1) rfl rfl (Nat.le_of_ble_eq_true rfl) rfl rfl ?_
                refine pm_R_lo pm_M256 (pc_q := 1) rfl rfl rfl ?_
                refine pm_R_lo pm_M256 (pc_q := 2) rfl rfl rfl ?_
                refine pm_R_op pm_M256 (pc_q := 3) (st_q := [.int 0, .int x5_435, .ref 41]) rfl rfl rfl ?_
                refine pm_R_cv pm_M256 (pc_q := 6) (a := 41) (ra := [.int 0, .int x5_435]) (rest := []) (ls_q := [.ref 41, .int x5_435, .int 0]) rfl rfl (Or.inl rfl) pm_M255 T15.2.1 rfl (by decide) (Nat.lt_of_lt_of_le (by decide) T15.1) rfl rfl (Nat.le_of_ble_eq_true rfl) rfl rfl ?_
                refine pm_R_lo pm_M255 (pc_q := 1) rfl rfl rfl ?_
                refine rf_R_get pm_M255 T15 (pc_q := 4) (v := .ref 49) rfl rfl rfl rfl ?_
                refine pm_R_op pm_M255 (pc_q := 7) (st_q := [.int 152, .ref 49]) rfl rfl rfl ?_
                refine pm_R_lo pm_M255 (pc_q := 8) rfl rfl rfl ?_
                refine rf_R_get pm_M255 T15 (pc_q := 11) (v := .int (m12 44)) rfl rfl rfl rfl ?_
                refine sf_R_imulV pm_M255 (pc_q := 12) rfl rfl sf_k152 B450 (by decide) (by decide) (by decide) e452 ?_
                refine pm_R_op pm_M255 (pc_q := 13) (st_q := [.int 2, .int z451, .ref 49]) rfl rfl rfl ?_
                refine sf_R_iaddV pm_M255 (pc_q := 14) rfl rfl B453 sf_k2 (by decide) (by decide) e455 ?_
                refine pm_R_op pm_M255 (pc_q := 15) (st_q := [.int 3, .int z454, .ref 49]) rfl rfl rfl ?_
                refine pm_R_lo pm_M255 (pc_q := 16) rfl rfl rfl ?_
                refine sf_R_imulV pm_M255 (pc_q := 17) rfl rfl sf_k3 B448 (by decide) (by decide) (by decide) e458 ?_
                refine sf_R_iaddV pm_M255 (pc_q := 18) rfl rfl B456 B459 (by decide) (by decide) e461 ?_
                refine pm_R_lo pm_M255 (pc_q := 19) rfl rfl rfl ?_
                refine sf_R_iaddV pm_M255 (pc_q := 20) rfl rfl B462 sf_k0 (by decide) (by decide) e464 ?_
                refine pm_R_iald pm_M255 (pc_q := 21) (v := z469) rfl e467 (Nat.lt_of_lt_of_le (by decide) T15.1) (sf_in B465 (by decide) (by decide)) ez470 rfl ?_
                refine pm_R_ret pm_M255 (r := some (.int z469)) rfl (pm_ret_i _) ?_
                show pm_R _ 256 6 [.ref 41, .int x5_435] [.int z469] _ _
                refine pm_R_op pm_M256 (pc_q := 7) (st_q := [.int 2, .int z469]) rfl rfl rfl ?_
                refine pm_R_icmp pm_M256 (t := 14) (pc_q := 10) rfl rfl rfl (fun c494 => absurd (sf_pt2 B487 sf_k2) c494) (fun c494 => ?_)
                refine pm_R_op pm_M256 (pc_q := 11) (st_q := [.int 1]) rfl rfl rfl ?_
                refine pm_R_br pm_M256 (pc_q := 15) rfl rfl ?_
                refine pm_R_ret pm_M256 (r := some (.int 1)) rfl rfl ?_
                show pm_R _ 253 66 [.ref 41, .int a0, .int a1, .int z491, .int x4_435, .int x5_435] [.int 1, .int x4_435] _ _
                refine pm_R_br pm_M253 (pc_q := 69) (st_q := [.int x4_435]) rfl rfl ?_
                refine pm_R_lo pm_M253 (pc_q := 70) rfl rfl rfl ?_
                refine rf_R_get pm_M253 T15 (pc_q := 73) (v := .ref 68) rfl rfl rfl rfl ?_
                refine pm_R_lo pm_M253 (pc_q := 75) rfl rfl rfl ?_
                obtain ⟨f495, e496⟩ := T15.2.2.2.1 68 (by decide) (by decide)
                refine rf_R_ild pm_M253 T15 (pc_q := 76) rfl e496 (by decide) (sf_in B448 (by decide) (by decide)) rfl (fun z498 ez499 => ?_)
                refine pm_R_ifc pm_M253 (t := 83) (pc_q := 79) rfl rfl rfl (fun c500 => ?_) (fun c500 => ?_)
                · skip
                  refine pm_R_op pm_M253 (pc_q := 84) (st_q := [.int 0, .int x4_435]) rfl rfl rfl ?_
                  refine sf_R_iadd pm_M253 (pc_q := 85) rfl rfl Bx4_435 sf_k0 (by decide) (by decide) (fun z501 e502 B503 => ?_)
                  refine pm_R_lo pm_M253 (pc_q := 87) (ls_q := [.ref 41, .int a0, .int a1, .int z491, .int z501, .int x5_435]) (st_q := []) rfl rfl rfl ?_
                  refine sf_R_iinc pm_M253 (pc_q := 90) (ls_q := fun z => [.ref 41, .int a0, .int a1, .int z491, .int z501, .int z]) rfl B448 rfl (by decide) (by decide) (by decide) (fun _ => rfl) rfl (fun z504 e505 B506 => ?_)
                  show pm_R _ 253 90 [.ref 41, .int a0, .int a1, .int z491, .int z501, .int z504] [] _ _
                  refine pm_R_br pm_M253 (pc_q := 32) rfl rfl ?_
                  exact ih_435 _ (sf_up hN_435 e505 B448 (by decide) (by decide)) z491 z501 z504 (sf_any z491) B503 (sf_weak B506 (by decide) (by decide)) rfl
                · have B507 : sf_B 0 0 z498 := sf_eqL (Classical.not_not.mp c500) sf_k0
                  refine pm_R_op pm_M253 (pc_q := 80) (st_q := [.int 1, .int x4_435]) rfl rfl rfl ?_
                  refine pm_R_br pm_M253 (pc_q := 84) rfl rfl ?_
                  refine sf_R_iany pm_M253 (pc_q := 85) (st := []) rfl rfl rfl (fun z511 => ?_)
                  refine pm_R_lo pm_M253 (pc_q := 87) (ls_q := [.ref 41, .int a0, .int a1, .int z491, .int z511, .int x5_435]) (st_q := []) rfl rfl rfl ?_
                  refine sf_R_iinc pm_M253 (pc_q := 90) (ls_q := fun z => [.ref 41, .int a0, .int a1, .int z491, .int z511, .int z]) rfl B448 rfl (by decide) (by decide) (by decide) (fun _ => rfl) rfl (fun z512 e513 B514 => ?_)
                  show pm_R _ 253 90 [.ref 41, .int a0, .int a1, .int z491, .int z511, .int z512] [] _ _
                  refine pm_R_br pm_M253 (pc_q := 32) rfl rfl ?_
                  exact ih_435 _ (sf_up hN_435 e513 B448 (by decide) (by decide)) z491 z511 z512 (sf_any z491) (sf_any z511) (sf_weak B514 (by decide) (by decide)) rfl
        exact L_435 _ 0 0 0 (sf_weak sf_k0 (by decide) (by decide)) (sf_weak sf_k0 (by decide) (by decide)) (sf_weak sf_k0 (by decide) (by decide)) rfl

set_option maxRecDepth 100000 in
set_option maxHeartbeats 4000000 in
/-- SilentTableModel.deed -/
theorem rf_c257 {d : Nat} {m : Nat → Int32} {w : Int64} {h : pm_H} {Q : Option Value → pm_H → Prop} {a0 : Int32} {a1 : Int32} {a2 : Int32} (T : rf_T m w h)  (K : ∀ (r : Int32) (m_q : Nat → Int32) (w_q : Int64) (h_q : pm_H), rf_T m_q w_q h_q → rf_G [41, 67, 68] h h_q → rf_W [0, 42, 43, 44] m m_q → Q (some (.int r)) h_q) : pm_R (d + 3) 257 0 [.ref 41, .int a0, .int a1, .int a2] [] h Q := by
  refine pm_R_lo pm_M257 (pc_q := 1) rfl rfl rfl ?_
  refine pm_R_op pm_M257 (pc_q := 2) (st_q := [.int 0, .ref 41]) rfl rfl rfl ?_
  refine rf_R_put pm_M257 T (pc_q := 5) rfl rfl rfl (by decide) rfl rfl sf_k0 rfl rfl (fun h1 m4 em5 T2 F3 => ?_)
  have F6 := (rf_G.refl [41, 67, 68] h).trans F3 (by decide)
  have B7 : sf_B 0 0 (m4 0) := by rw [em5]; exact sf_k0
  have W9 : rf_W [0, 42, 43, 44] m m4 := by rw [em5]; exact (rf_W.refl [0, 42, 43, 44] m).put (by decide)
  refine pm_R_lo pm_M257 (pc_q := 6) rfl rfl rfl ?_
  refine pm_R_lo pm_M257 (pc_q := 7) rfl rfl rfl ?_
  refine pm_R_cv pm_M257 (pc_q := 10) (a := 41) (ra := [.int a0]) (rest := []) (ls_q := [.ref 41, .int a0, pm_no, pm_no, pm_no, pm_no]) rfl rfl (Or.inl rfl) pm_M254 T2.2.1 rfl (by decide) (Nat.lt_of_lt_of_le (by decide) T2.1) rfl rfl (Nat.le_of_ble_eq_true rfl) rfl rfl ?_
  refine rf_c254 (d := d + 0) T2  (fun r10 m12 w13 h14 T15 F16 W17 B11 => ?_)
  have F18 := F6.trans F16 (by decide)
  have W19 : rf_W [0, 42, 43, 44] m m12 := W9.trans W17 (by decide)
  show pm_R _ 257 10 [.ref 41, .int a0, .int a1, .int a2] [.int r10] _ _
  refine pm_R_ifc pm_M257 (t := 36) (pc_q := 13) rfl rfl rfl (fun c20 => ?_) (fun c20 => ?_)
  · have B21 : sf_B 0 0 r10 := sf_eqL c20 sf_k0
    refine pm_R_op pm_M257 (pc_q := 38) (st_q := [.int (-2)]) rfl rfl rfl ?_
    exact pm_R_ret pm_M257 (r := some (.int (-2))) rfl rfl (K (-2) m12 w13 h14 T15 F18 W19)
  · have B22 : sf_B 1 1 r10 := sf_neL0 c20 sf_k0 B11
    refine pm_R_lo pm_M257 (pc_q := 14) rfl rfl rfl ?_
    refine pm_R_op pm_M257 (pc_q := 15) (st_q := [.int 0, .int a1]) rfl rfl rfl ?_
    refine pm_R_lo pm_M257 (pc_q := 16) rfl rfl rfl ?_
    have B23 : sf_B 0 50 (m12 43) := T15.2.2.1 43
    refine rf_R_get pm_M257 T15 (pc_q := 19) (v := .int (m12 43)) rfl rfl rfl rfl ?_
    refine pm_R_op pm_M257 (pc_q := 20) (st_q := [.int 1, .int (m12 43), .int 0, .int a1]) rfl rfl rfl ?_
    refine sf_R_isub pm_M257 (pc_q := 21) rfl rfl B23 sf_k1 (by decide) (by decide) (fun z24 e25 B26 => ?_)
    refine pm_R_cs pm_M257 (pc_q := 24) (ra := [.int z24, .int 0, .int a1]) (rest := []) (ls_q := [.int a1, .int 0, .int z24]) rfl rfl (Or.inl rfl) pm_M174 rfl rfl (Nat.le_of_ble_eq_true rfl) rfl rfl ?_
    refine pm_R_lo pm_M174 (pc_q := 1) rfl rfl rfl ?_
    refine pm_R_lo pm_M174 (pc_q := 2) rfl rfl rfl ?_
    refine pm_R_icmp pm_M174 (t := 14) (pc_q := 5) rfl rfl rfl (fun c27 => ?_) (fun c27 => ?_)
    · have B28 : sf_B (-2147483648) (-1) a1 := sf_ltL c27 (sf_any a1) sf_k0
      refine pm_R_op pm_M174 (pc_q := 15) (st_q := [.int 0]) rfl rfl rfl ?_
      refine pm_R_ret pm_M174 (r := some (.int 0)) rfl rfl ?_
      show pm_R _ 257 24 [.ref 41, .int a0, .int a1, .int a2] [.int 0] _ _
      refine pm_R_br pm_M257 (pc_q := 36) (st_q := []) rfl rfl ?_
      refine pm_R_op pm_M257 (pc_q := 38) (st_q := [.int (-2)]) rfl rfl rfl ?_
      exact pm_R_ret pm_M257 (r := some (.int (-2))) rfl rfl (K (-2) m12 w13 h14 T15 F18 W19)
    · have B29 : sf_B 0 2147483647 a1 := sf_leR (Int32.not_lt.mp c27) sf_k0 (sf_any a1)
      refine pm_R_lo pm_M174 (pc_q := 6) rfl rfl rfl ?_
      refine pm_R_lo pm_M174 (pc_q := 7) rfl rfl rfl ?_
      refine pm_R_icmp pm_M174 (t := 14) (pc_q := 10) rfl rfl rfl (fun c30 => ?_) (fun c30 => ?_)
      · skip
        refine pm_R_op pm_M174 (pc_q := 15) (st_q := [.int 0]) rfl rfl rfl ?_
        refine pm_R_ret pm_M174 (r := some (.int 0)) rfl rfl ?_
        show pm_R _ 257 24 [.ref 41, .int a0, .int a1, .int a2] [.int 0] _ _
        refine pm_R_br pm_M257 (pc_q := 36) (st_q := []) rfl rfl ?_
        refine pm_R_op pm_M257 (pc_q := 38) (st_q := [.int (-2)]) rfl rfl rfl ?_
        exact pm_R_ret pm_M257 (r := some (.int (-2))) rfl rfl (K (-2) m12 w13 h14 T15 F18 W19)
      · have B31 : sf_B 0 49 a1 := sf_leL (Int32.not_lt.mp c30) B29 B26
        have B32 : sf_B 0 49 z24 := sf_leR (Int32.not_lt.mp c30) B29 B26
        refine pm_R_op pm_M174 (pc_q := 11) (st_q := [.int 1]) rfl rfl rfl ?_
        refine pm_R_br pm_M174 (pc_q := 15) rfl rfl ?_
        refine pm_R_ret pm_M174 (r := some (.int 1)) rfl rfl ?_
        show pm_R _ 257 24 [.ref 41, .int a0, .int a1, .int a2] [.int 1] _ _
        refine pm_R_br pm_M257 (pc_q := 27) (st_q := []) rfl rfl ?_
        refine pm_R_lo pm_M257 (pc_q := 28) rfl rfl rfl ?_
        refine pm_R_op pm_M257 (pc_q := 29) (st_q := [.int 0, .int a2]) rfl rfl rfl ?_
        refine pm_R_op pm_M257 (pc_q := 30) (st_q := [.int 3, .int 0, .int a2]) rfl rfl rfl ?_
        refine pm_R_cs pm_M257 (pc_q := 33) (ra := [.int 3, .int 0, .int a2]) (rest := []) (ls_q := [.int a2, .int 0, .int 3]) rfl rfl (Or.inl rfl) pm_M174 rfl rfl (Nat.le_of_ble_eq_true rfl) rfl rfl ?_
        refine pm_R_lo pm_M174 (pc_q := 1) rfl rfl rfl ?_
        refine pm_R_lo pm_M174 (pc_q := 2) rfl rfl rfl ?_
        refine pm_R_icmp pm_M174 (t := 14) (pc_q := 5) rfl rfl rfl (fun c33 => ?_) (fun c33 => ?_)
        · have B34 : sf_B (-2147483648) (-1) a2 := sf_ltL c33 (sf_any a2) sf_k0
          refine pm_R_op pm_M174 (pc_q := 15) (st_q := [.int 0]) rfl rfl rfl ?_
          refine pm_R_ret pm_M174 (r := some (.int 0)) rfl rfl ?_
          show pm_R _ 257 33 [.ref 41, .int a0, .int a1, .int a2] [.int 0] _ _
          refine pm_R_br pm_M257 (pc_q := 36) (st_q := []) rfl rfl ?_
          refine pm_R_op pm_M257 (pc_q := 38) (st_q := [.int (-2)]) rfl rfl rfl ?_
          exact pm_R_ret pm_M257 (r := some (.int (-2))) rfl rfl (K (-2) m12 w13 h14 T15 F18 W19)
        · have B35 : sf_B 0 2147483647 a2 := sf_leR (Int32.not_lt.mp c33) sf_k0 (sf_any a2)
          refine pm_R_lo pm_M174 (pc_q := 6) rfl rfl rfl ?_
          refine pm_R_lo pm_M174 (pc_q := 7) rfl rfl rfl ?_
          refine pm_R_icmp pm_M174 (t := 14) (pc_q := 10) rfl rfl rfl (fun c36 => ?_) (fun c36 => ?_)
          · have B37 : sf_B 4 2147483647 a2 := sf_ltR c36 sf_k3 B35
            refine pm_R_op pm_M174 (pc_q := 15) (st_q := [.int 0]) rfl rfl rfl ?_
            refine pm_R_ret pm_M174 (r := some (.int 0)) rfl rfl ?_
            show pm_R _ 257 33 [.ref 41, .int a0, .int a1, .int a2] [.int 0] _ _
            refine pm_R_br pm_M257 (pc_q := 36) (st_q := []) rfl rfl ?_
            refine pm_R_op pm_M257 (pc_q := 38) (st_q := [.int (-2)]) rfl rfl rfl ?_
            exact pm_R_ret pm_M257 (r := some (.int (-2))) rfl rfl (K (-2) m12 w13 h14 T15 F18 W19)
          · have B38 : sf_B 0 3 a2 := sf_leL (Int32.not_lt.mp c36) B35 sf_k3
            refine pm_R_op pm_M174 (pc_q := 11) (st_q := [.int 1]) rfl rfl rfl ?_
            refine pm_R_br pm_M174 (pc_q := 15) rfl rfl ?_
            refine pm_R_ret pm_M174 (r := some (.int 1)) rfl rfl ?_
            show pm_R _ 257 33 [.ref 41, .int a0, .int a1, .int a2] [.int 1] _ _
            refine pm_R_br pm_M257 (pc_q := 39) (st_q := []) rfl rfl ?_
            refine pm_R_lo pm_M257 (pc_q := 40) rfl rfl rfl ?_
            refine pm_R_op pm_M257 (pc_q := 41) (st_q := [.int 3, .int a2]) rfl rfl rfl ?_
            refine pm_R_icmp pm_M257 (t := 53) (pc_q := 44) rfl rfl rfl (fun c39 => ?_) (fun c39 => ?_)
            · have B40 : sf_B 0 2 a2 := sf_neH0 c39 sf_k3 B38
              refine pm_R_lo pm_M257 (pc_q := 54) rfl rfl rfl ?_
              refine pm_R_lo pm_M257 (pc_q := 55) rfl rfl rfl ?_
              refine pm_R_lo pm_M257 (pc_q := 56) rfl rfl rfl ?_
              refine pm_R_cv pm_M257 (pc_q := 59) (a := 41) (ra := [.int a2, .int a1]) (rest := []) (ls_q := [.ref 41, .int a1, .int a2]) rfl rfl (Or.inl rfl) pm_M255 T15.2.1 rfl (by decide) (Nat.lt_of_lt_of_le (by decide) T15.1) rfl rfl (Nat.le_of_ble_eq_true rfl) rfl rfl ?_
              refine pm_R_lo pm_M255 (pc_q := 1) rfl rfl rfl ?_
              refine rf_R_get pm_M255 T15 (pc_q := 4) (v := .ref 49) rfl rfl rfl rfl ?_
              refine pm_R_op pm_M255 (pc_q := 7) (st_q := [.int 152, .ref 49]) rfl rfl rfl ?_
              refine pm_R_lo pm_M255 (pc_q := 8) rfl rfl rfl ?_
              have B41 : sf_B 0 1 (m12 44) := T15.2.2.1 44
              refine rf_R_get pm_M255 T15 (pc_q := 11) (v := .int (m12 44)) rfl rfl rfl rfl ?_
              refine sf_R_imul pm_M255 (pc_q := 12) rfl rfl sf_k152 B41 (by decide) (by decide) (by decide) (fun z42 e43 B44 => ?_)
              refine pm_R_op pm_M255 (pc_q := 13) (st_q := [.int 2, .int z42, .ref 49]) rfl rfl rfl ?_
              refine sf_R_iadd pm_M255 (pc_q := 14) rfl rfl B44 sf_k2 (by decide) (by decide) (fun z45 e46 B47 => ?_)
              refine pm_R_op pm_M255 (pc_q := 15) (st_q := [.int 3, .int z45, .ref 49]) rfl rfl rfl ?_
              refine pm_R_lo pm_M255 (pc_q := 16) rfl rfl rfl ?_
              refine sf_R_imul pm_M255 (pc_q := 17) rfl rfl sf_k3 B31 (by decide) (by decide) (by decide) (fun z48 e49 B50 => ?_)
              refine sf_R_iadd pm_M255 (pc_q := 18) rfl rfl B47 B50 (by decide) (by decide) (fun z51 e52 B53 => ?_)
              refine pm_R_lo pm_M255 (pc_q := 19) rfl rfl rfl ?_
              refine sf_R_iadd pm_M255 (pc_q := 20) rfl rfl B53 B40 (by decide) (by decide) (fun z54 e55 B56 => ?_)
              obtain ⟨f57, e58, b59⟩ := T15.2.2.2.1 49 (by decide) (by decide)
              refine rf_R_ild pm_M255 T15 (pc_q := 21) rfl e58 (by decide) (sf_in B56 (by decide) (by decide)) rfl (fun z60 ez61 => ?_)
              refine pm_R_ret pm_M255 (r := some (.int z60)) rfl (pm_ret_i _) ?_
              show pm_R _ 257 59 [.ref 41, .int a0, .int a1, .int a2] [.int z60] _ _
              exact pm_R_ret pm_M257 (r := some (.int z60)) rfl (pm_ret_i _) (K z60 m12 w13 h14 T15 F18 W19)
            · have B62 : sf_B 3 3 a2 := sf_eqL (Classical.not_not.mp c39) sf_k3
              refine pm_R_lo pm_M257 (pc_q := 45) rfl rfl rfl ?_
              refine rf_R_get pm_M257 T15 (pc_q := 48) (v := .ref 68) rfl rfl rfl rfl ?_
              refine pm_R_lo pm_M257 (pc_q := 49) rfl rfl rfl ?_
              obtain ⟨f63, e64⟩ := T15.2.2.2.1 68 (by decide) (by decide)
              refine rf_R_ild pm_M257 T15 (pc_q := 50) rfl e64 (by decide) (sf_in B31 (by decide) (by decide)) rfl (fun z66 ez67 => ?_)
              refine pm_R_br pm_M257 (pc_q := 59) rfl rfl ?_
              exact pm_R_ret pm_M257 (r := some (.int z66)) rfl (pm_ret_i _) (K z66 m12 w13 h14 T15 F18 W19)
