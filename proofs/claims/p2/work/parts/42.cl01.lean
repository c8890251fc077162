set_option maxRecDepth 100000 in
set_option maxHeartbeats 4000000 in
/-- SilentTable$Meal.fewestHands -/
theorem cl_c153 {d : Nat} {ck : cl_K} {E : Nat → pm_E} {m : Nat → Int32} {o : Nat → Option Nat} {h : pm_H} {Q : Option Value → pm_H → Prop} {a : Nat} {a0 : Int32} {a1 : Int32} (G : cl_G ck E) (T : cl_T ck E m o h) (hk : ck a = 9) (Ba0 : sf_B 0 5 a0) (Ba1 : sf_B 0 5 a1) (K : ∀ (r : Int32), (r = -1 ∨ 1 ≤ r.toInt) → sf_B (-1) 5 r → Q (some (.int r)) h) : pm_R (d + 2) 153 0 [.ref a, .int a0, .int a1, pm_no, pm_no] [] h Q := by
  refine pm_R_op pm_M153 (pc' := 1) (st' := [.int 1]) rfl rfl rfl ?_
  refine pm_R_lo pm_M153 (pc' := 2) rfl rfl rfl ?_
  refine sf_R_iany pm_M153 (pc' := 3) (st := []) rfl rfl rfl (fun z4 => ?_)
  refine pm_R_lo pm_M153 (pc' := 4) (ls' := [.ref a, .int a0, .int a1, .int z4, pm_no]) (st' := []) rfl rfl rfl ?_
  refine pm_R_op pm_M153 (pc' := 5) (st' := [.int 1]) rfl rfl rfl ?_
  refine pm_R_lo pm_M153 (pc' := 7) (ls' := [.ref a, .int a0, .int a1, .int z4, .int 1]) (st' := []) rfl rfl rfl ?_
  have L_194 : ∀ (N : Nat) (x3_194 : Int32) (x4_194 : Int32), sf_B (-2147483648) 2147483647 x3_194 → sf_B 1 6 x4_194 → (6 - x4_194.toInt).toNat = N → pm_R (d + 2) 153 7 [.ref a, .int a0, .int a1, .int x3_194, .int x4_194] [] h Q := by
    intro N
    induction N using Nat.strongRecOn with
    | ind N ih_194 =>
      intro x3_194 x4_194 Bx3_194 Bx4_194 hN_194
      refine pm_R_lo pm_M153 (pc' := 9) rfl rfl rfl ?_
      refine pm_R_op pm_M153 (pc' := 11) (st' := [.int 6, .int x4_194]) rfl rfl rfl ?_
      refine pm_R_icmp pm_M153 (t := 37) (pc' := 14) rfl rfl rfl (fun c195 => ?_) (fun c195 => ?_)
      · have B196 : sf_B 6 6 x4_194 := sf_leR c195 sf_k6 Bx4_194
        refine pm_R_op pm_M153 (pc' := 38) (st' := [.int (-1)]) rfl rfl rfl ?_
        exact pm_R_ret pm_M153 (r := some (.int (-1))) rfl rfl (K (-1) (Or.inl rfl) (sf_weak sf_kn1 (by decide) (by decide)))
      · have B197 : sf_B 1 5 x4_194 := sf_ltL (Int32.not_le.mp c195) Bx4_194 sf_k6
        refine pm_R_lo pm_M153 (pc' := 15) rfl rfl rfl ?_
        refine pm_R_lo pm_M153 (pc' := 16) rfl rfl rfl ?_
        obtain ⟨s198, n199, fd200, fg201, fs202, h203, h204, h205, eE206, eE207, eE208, eE209, b210⟩ := (G.2.2.2.1 a hk).2.2.2
        have kq211 := G.2.2.2.1 a hk
        refine pm_R_cv pm_M153 (pc' := 19) (a := a) (ra := [.int x3_194]) (rest := []) (ls' := [.ref a, .int x3_194, pm_no, pm_no]) rfl rfl (Or.inl rfl) pm_M154 (T.im hk (by decide) (by decide) eE206) rfl (G.ge hk (by decide)) (T.al hk (by decide)) rfl rfl (Nat.le_of_ble_eq_true rfl) rfl rfl ?_
        refine cl_c154 (d := d + 0) G T hk (fun r212 => ?_)
        show pm_R _ 153 19 [.ref a, .int a0, .int a1, .int x3_194, .int x4_194] [.int r212] _ _
        refine pm_R_lo pm_M153 (pc' := 20) (ls' := [.ref a, .int a0, .int a1, .int r212, .int x4_194]) (st' := []) rfl rfl rfl ?_
        refine pm_R_lo pm_M153 (pc' := 21) rfl rfl rfl ?_
        refine pm_R_lo pm_M153 (pc' := 22) rfl rfl rfl ?_
        refine sf_R_iany pm_M153 (pc' := 23) (st := []) rfl rfl rfl (fun z222 => ?_)
        refine pm_R_op pm_M153 (pc' := 24) (st' := [.int 1, .int z222]) rfl rfl rfl ?_
        refine sf_R_iandE pm_M153 (pc' := 25) rfl rfl sf_k1 (by decide) (fun z223 e224 B225 => ?_)
        refine pm_R_ifc pm_M153 (t := 31) (pc' := 28) rfl rfl rfl (fun c226 => ?_) (fun c226 => ?_)
        · have B227 : sf_B 0 0 z223 := sf_eqL c226 sf_k0
          refine sf_R_iinc pm_M153 (pc' := 34) (ls' := fun z => [.ref a, .int a0, .int a1, .int r212, .int z]) rfl B197 rfl (by decide) (by decide) (by decide) (fun _ => rfl) rfl (fun z228 e229 B230 => ?_)
          show pm_R _ 153 34 [.ref a, .int a0, .int a1, .int r212, .int z228] [] _ _
          refine pm_R_br pm_M153 (pc' := 7) rfl rfl ?_
          exact ih_194 _ (sf_up hN_194 e229 B197 (by decide) (by decide)) r212 z228 (sf_any r212) (sf_weak B230 (by decide) (by decide)) rfl
        · have B231 : sf_B 1 1 z223 := sf_neL0 c226 sf_k0 B225
          refine pm_R_lo pm_M153 (pc' := 30) rfl rfl rfl ?_
          exact pm_R_ret pm_M153 (r := some (.int x4_194)) rfl (pm_ret_i _) (K x4_194 (Or.inr B197.1) (sf_weak B197 (by decide) (by decide)))
  exact L_194 _ z4 1 (sf_any z4) (sf_weak sf_k1 (by decide) (by decide)) rfl

set_option maxRecDepth 100000 in
set_option maxHeartbeats 4000000 in
/-- SilentTable$SignList.handsTo -/
theorem cl_c119 {d : Nat} {ck : cl_K} {E : Nat → pm_E} {m : Nat → Int32} {o : Nat → Option Nat} {h : pm_H} {Q : Option Value → pm_H → Prop} {a : Nat} {a0 : Int32} {a1 : Int32} (G : cl_G ck E) (T : cl_T ck E m o h) (hk : ck a = 1) (Ba0 : sf_B 0 9 a0) (Ba1 : sf_B 0 9 a1) (K : ∀ (r : Int32), sf_B (-1) 9 r → Q (some (.int r)) h) : pm_R (d + 0) 119 0 [.ref a, .int a0, .int a1, pm_no] [] h Q := by
  refine pm_R_op pm_M119 (pc' := 1) (st' := [.int 0]) rfl rfl rfl ?_
  refine pm_R_lo pm_M119 (pc' := 2) (ls' := [.ref a, .int a0, .int a1, .int 0]) (st' := []) rfl rfl rfl ?_
  have L_275 : ∀ (N : Nat) (x3_275 : Int32), sf_B 0 10 x3_275 → (10 - x3_275.toInt).toNat = N → pm_R (d + 0) 119 2 [.ref a, .int a0, .int a1, .int x3_275] [] h Q := by
    intro N
    induction N using Nat.strongRecOn with
    | ind N ih_275 =>
      intro x3_275 Bx3_275 hN_275
      refine pm_R_lo pm_M119 (pc' := 3) rfl rfl rfl ?_
      refine pm_R_op pm_M119 (pc' := 5) (st' := [.int 9, .int x3_275]) rfl rfl rfl ?_
      refine pm_R_icmp pm_M119 (t := 34) (pc' := 8) rfl rfl rfl (fun c276 => ?_) (fun c276 => ?_)
      · have B277 : sf_B 10 10 x3_275 := sf_ltR c276 sf_k9 Bx3_275
        refine pm_R_op pm_M119 (pc' := 35) (st' := [.int (-1)]) rfl rfl rfl ?_
        exact pm_R_ret pm_M119 (r := some (.int (-1))) rfl rfl (K (-1) (sf_weak sf_kn1 (by decide) (by decide)))
      · have B278 : sf_B 0 9 x3_275 := sf_leL (Int32.not_lt.mp c276) Bx3_275 sf_k9
        refine pm_R_lo pm_M119 (pc' := 9) rfl rfl rfl ?_
        obtain ⟨rc279, tc280, rs281, fv282, fw283, fr284, ft285, fn286, h287, h288, B289, eE290, eE291, eE292, eE293, eE294, eE295, b296, b297, b298⟩ := (G.2.1 a hk).2.2.2.2.2
        have kq299 := G.2.1 a hk
        refine pm_R_get pm_M119 (pc' := 12) (v := .ref (a + 2)) rfl rfl (T.im hk (by decide) (by decide) eE290) (G.ge hk (by decide)) (T.al hk (by decide)) rfl rfl ?_
        refine pm_R_lo pm_M119 (pc' := 13) rfl rfl rfl ?_
        refine pm_R_op pm_M119 (pc' := 15) (st' := [.int 10, .int x3_275, .ref (a + 2)]) rfl rfl rfl ?_
        refine sf_R_imul pm_M119 (pc' := 16) rfl rfl B278 sf_k10 (by decide) (by decide) (by decide) (fun z300 e301 B302 => ?_)
        refine pm_R_lo pm_M119 (pc' := 17) rfl rfl rfl ?_
        refine sf_R_iadd pm_M119 (pc' := 18) rfl rfl B302 Ba0 (by decide) (by decide) (fun z303 e304 B305 => ?_)
        obtain ⟨z306, ez307⟩ : ∃ y, fw283 (Int32.toNatClampNeg z303) = y := ⟨_, rfl⟩
        refine pm_R_iald pm_M119 (pc' := 19) (v := z306) rfl (T.im kq299.2.1 (by decide) (by decide) eE292) (T.al kq299.2.1 (by decide)) (sf_in B305 (by decide) (by decide)) ez307 rfl ?_
        refine pm_R_lo pm_M119 (pc' := 20) rfl rfl rfl ?_
        refine sf_R_iany pm_M119 (pc' := 21) (st := []) rfl rfl rfl (fun z312 => ?_)
        refine pm_R_op pm_M119 (pc' := 22) (st' := [.int 1, .int z312]) rfl rfl rfl ?_
        refine sf_R_iandE pm_M119 (pc' := 23) rfl rfl sf_k1 (by decide) (fun z313 e314 B315 => ?_)
        refine pm_R_ifc pm_M119 (t := 28) (pc' := 26) rfl rfl rfl (fun c316 => ?_) (fun c316 => ?_)
        · have B317 : sf_B 0 0 z313 := sf_eqL c316 sf_k0
          refine sf_R_iinc pm_M119 (pc' := 31) (ls' := fun z => [.ref a, .int a0, .int a1, .int z]) rfl B278 rfl (by decide) (by decide) (by decide) (fun _ => rfl) rfl (fun z318 e319 B320 => ?_)
          show pm_R _ 119 31 [.ref a, .int a0, .int a1, .int z318] [] _ _
          refine pm_R_br pm_M119 (pc' := 2) rfl rfl ?_
          exact ih_275 _ (sf_up hN_275 e319 B278 (by decide) (by decide)) z318 (sf_weak B320 (by decide) (by decide)) rfl
        · have B321 : sf_B 1 1 z313 := sf_neL0 c316 sf_k0 B315
          refine pm_R_lo pm_M119 (pc' := 27) rfl rfl rfl ?_
          exact pm_R_ret pm_M119 (r := some (.int x3_275)) rfl (pm_ret_i _) (K x3_275 (sf_weak B278 (by decide) (by decide)))
  exact L_275 _ 0 (sf_weak sf_k0 (by decide) (by decide)) rfl

set_option maxRecDepth 100000 in
set_option maxHeartbeats 4000000 in
/-- SilentTable$Meal.loudest -/
theorem cl_c159 {d : Nat} {ck : cl_K} {E : Nat → pm_E} {m : Nat → Int32} {o : Nat → Option Nat} {h : pm_H} {Q : Option Value → pm_H → Prop} {a : Nat} (G : cl_G ck E) (T : cl_T ck E m o h) (hk : ck a = 9) (K : ∀ (r : Int32), sf_B (-1) 2147483647 r → Q (some (.int r)) h) : pm_R (d + 1) 159 0 [.ref a, pm_no, pm_no, pm_no, pm_no, pm_no] [] h Q := by
  refine pm_R_op pm_M159 (pc' := 1) (st' := [.int (-1)]) rfl rfl rfl ?_
  refine pm_R_lo pm_M159 (pc' := 2) (ls' := [.ref a, .int (-1), pm_no, pm_no, pm_no, pm_no]) (st' := []) rfl rfl rfl ?_
  refine pm_R_op pm_M159 (pc' := 3) (st' := [.int 0]) rfl rfl rfl ?_
  refine pm_R_lo pm_M159 (pc' := 4) (ls' := [.ref a, .int (-1), .int 0, pm_no, pm_no, pm_no]) (st' := []) rfl rfl rfl ?_
  refine pm_R_op pm_M159 (pc' := 5) (st' := [.int 0]) rfl rfl rfl ?_
  refine pm_R_lo pm_M159 (pc' := 6) (ls' := [.ref a, .int (-1), .int 0, .int 0, pm_no, pm_no]) (st' := []) rfl rfl rfl ?_
  have L_2062 : ∀ (N : Nat) (x1_2062 : Int32) (x2_2062 : Int32) (x3_2062 : Int32) (g4_2062 : Value) (g5_2062 : Value), sf_B (-1) 2147483647 x1_2062 → sf_B 0 2147483647 x2_2062 → sf_B 0 10 x3_2062 → g4_2062.category = 1 → g5_2062.category = 1 → (10 - x3_2062.toInt).toNat = N → pm_R (d + 1) 159 6 [.ref a, .int x1_2062, .int x2_2062, .int x3_2062, g4_2062, g5_2062] [] h Q := by
    intro N
    induction N using Nat.strongRecOn with
    | ind N ih_2062 =>
      intro x1_2062 x2_2062 x3_2062 g4_2062 g5_2062 Bx1_2062 Bx2_2062 Bx3_2062 Cg4_2062 Cg5_2062 hN_2062
      refine pm_R_lo pm_M159 (pc' := 7) rfl rfl rfl ?_
      refine pm_R_op pm_M159 (pc' := 9) (st' := [.int 10, .int x3_2062]) rfl rfl rfl ?_
      refine pm_R_icmp pm_M159 (t := 72) (pc' := 12) rfl rfl rfl (fun c2063 => ?_) (fun c2063 => ?_)
      · have B2064 : sf_B 10 10 x3_2062 := sf_leR c2063 sf_k10 Bx3_2062
        refine pm_R_lo pm_M159 (pc' := 73) rfl rfl rfl ?_
        exact pm_R_ret pm_M159 (r := some (.int x1_2062)) rfl (pm_ret_i _) (K x1_2062 Bx1_2062)
      · have B2065 : sf_B 0 9 x3_2062 := sf_ltL (Int32.not_le.mp c2063) Bx3_2062 sf_k10
        refine pm_R_op pm_M159 (pc' := 13) (st' := [.int 0]) rfl rfl rfl ?_
        refine pm_R_lo pm_M159 (pc' := 15) (ls' := [.ref a, .int x1_2062, .int x2_2062, .int x3_2062, .int 0, g5_2062]) (st' := []) rfl rfl rfl ?_
        refine pm_R_op pm_M159 (pc' := 16) (st' := [.int 0]) rfl rfl rfl ?_
        refine pm_R_lo pm_M159 (pc' := 18) (ls' := [.ref a, .int x1_2062, .int x2_2062, .int x3_2062, .int 0, .int 0]) (st' := []) rfl rfl rfl ?_
        have L_2409 : ∀ (N : Nat) (x4_2409 : Int32) (x5_2409 : Int32), sf_B (-2147483648) 2147483647 x4_2409 → sf_B 0 50 x5_2409 → (50 - x5_2409.toInt).toNat = N → pm_R (d + 1) 159 18 [.ref a, .int x1_2062, .int x2_2062, .int x3_2062, .int x4_2409, .int x5_2409] [] h Q := by
          intro N
          induction N using Nat.strongRecOn with
          | ind N ih_2409 =>
            intro x4_2409 x5_2409 Bx4_2409 Bx5_2409 hN_2409
            refine pm_R_lo pm_M159 (pc' := 20) rfl rfl rfl ?_
            refine pm_R_lo pm_M159 (pc' := 21) rfl rfl rfl ?_
            obtain ⟨s2410, n2411, fd2412, fg2413, fs2414, h2415, h2416, h2417, eE2418, eE2419, eE2420, eE2421, b2422⟩ := (G.2.2.2.1 a hk).2.2.2
            have kq2423 := G.2.2.2.1 a hk
            refine pm_R_get pm_M159 (pc' := 24) (v := .int (Int32.ofNat n2411)) rfl rfl (T.im hk (by decide) (by decide) eE2418) (G.ge hk (by decide)) (T.al hk (by decide)) rfl rfl ?_
            refine pm_R_icmp pm_M159 (t := 55) (pc' := 27) rfl rfl rfl (fun c2424 => ?_) (fun c2424 => ?_)
            · skip
              refine pm_R_lo pm_M159 (pc' := 57) rfl rfl rfl ?_
              refine pm_R_lo pm_M159 (pc' := 58) rfl rfl rfl ?_
              refine pm_R_icmp pm_M159 (t := 66) (pc' := 61) rfl rfl rfl (fun c2425 => ?_) (fun c2425 => ?_)
              · skip
                refine sf_R_iinc pm_M159 (pc' := 69) (ls' := fun z => [.ref a, .int x1_2062, .int x2_2062, .int z, .int x4_2409, .int x5_2409]) rfl B2065 rfl (by decide) (by decide) (by decide) (fun _ => rfl) rfl (fun z2426 e2427 B2428 => ?_)
                show pm_R _ 159 69 [.ref a, .int x1_2062, .int x2_2062, .int z2426, .int x4_2409, .int x5_2409] [] _ _
                refine pm_R_br pm_M159 (pc' := 6) rfl rfl ?_
                exact ih_2062 _ (sf_up hN_2062 e2427 B2065 (by decide) (by decide)) x1_2062 x2_2062 z2426 (.int x4_2409) (.int x5_2409) Bx1_2062 Bx2_2062 (sf_weak B2428 (by decide) (by decide)) rfl rfl rfl
              · have B2429 : sf_B 0 2147483646 x2_2062 := sf_ltL (Int32.not_le.mp c2425) Bx2_2062 Bx4_2409
                have B2430 : sf_B 1 2147483647 x4_2409 := sf_ltR (Int32.not_le.mp c2425) Bx2_2062 Bx4_2409
                refine pm_R_lo pm_M159 (pc' := 62) rfl rfl rfl ?_
                refine pm_R_lo pm_M159 (pc' := 63) (ls' := [.ref a, .int x3_2062, .int x2_2062, .int x3_2062, .int x4_2409, .int x5_2409]) (st' := []) rfl rfl rfl ?_
                refine pm_R_lo pm_M159 (pc' := 65) rfl rfl rfl ?_
                refine pm_R_lo pm_M159 (pc' := 66) (ls' := [.ref a, .int x3_2062, .int x4_2409, .int x3_2062, .int x4_2409, .int x5_2409]) (st' := []) rfl rfl rfl ?_
                refine sf_R_iinc pm_M159 (pc' := 69) (ls' := fun z => [.ref a, .int x3_2062, .int x4_2409, .int z, .int x4_2409, .int x5_2409]) rfl B2065 rfl (by decide) (by decide) (by decide) (fun _ => rfl) rfl (fun z2431 e2432 B2433 => ?_)
                show pm_R _ 159 69 [.ref a, .int x3_2062, .int x4_2409, .int z2431, .int x4_2409, .int x5_2409] [] _ _
                refine pm_R_br pm_M159 (pc' := 6) rfl rfl ?_
                exact ih_2062 _ (sf_up hN_2062 e2432 B2065 (by decide) (by decide)) x3_2062 x4_2409 z2431 (.int x4_2409) (.int x5_2409) (sf_weak B2065 (by decide) (by decide)) (sf_weak B2430 (by decide) (by decide)) (sf_weak B2433 (by decide) (by decide)) rfl rfl rfl
            · have B2434 : sf_B 0 49 x5_2409 := sf_ltL (Int32.not_le.mp c2424) Bx5_2409 (sf_ofB h2417 (by decide))
              have B2435 : sf_B 1 50 (Int32.ofNat n2411) := sf_ltR (Int32.not_le.mp c2424) Bx5_2409 (sf_ofB h2417 (by decide))
              refine pm_R_lo pm_M159 (pc' := 28) rfl rfl rfl ?_
              refine pm_R_lo pm_M159 (pc' := 30) rfl rfl rfl ?_
              refine pm_R_cv pm_M159 (pc' := 33) (a := a) (ra := [.int x5_2409]) (rest := []) (ls' := [.ref a, .int x5_2409]) rfl rfl (Or.inl rfl) pm_M51 (T.im hk (by decide) (by decide) eE2418) rfl (G.ge hk (by decide)) (T.al hk (by decide)) rfl rfl (Nat.le_of_ble_eq_true rfl) rfl rfl ?_
              refine pm_R_lo pm_M51 (pc' := 1) rfl rfl rfl ?_
              refine pm_R_get pm_M51 (pc' := 4) (v := .ref (a + 1)) rfl rfl (T.im hk (by decide) (by decide) eE2418) (G.ge hk (by decide)) (T.al hk (by decide)) rfl rfl ?_
              refine pm_R_lo pm_M51 (pc' := 5) rfl rfl rfl ?_
              refine pm_R_op pm_M51 (pc' := 6) (st' := [.int 4, .int x5_2409, .ref (a + 1)]) rfl rfl rfl ?_
              refine sf_R_imul pm_M51 (pc' := 7) rfl rfl B2434 sf_k4 (by decide) (by decide) (by decide) (fun z2436 e2437 B2438 => ?_)
              have q2442 := cl_in4 (n := n2411) (Nat.le_trans h2417 (by decide)) (Int32.not_le.mp c2424) (cl_aux5 _ _ e2437) B2434 (by decide) (by decide)
              obtain ⟨z2439, ez2440⟩ : ∃ y, fd2412 (Int32.toNatClampNeg z2436) = y := ⟨_, rfl⟩
              have B2441 : sf_B 0 2 z2439 := ez2440 ▸ q2442.2.2 ▸ (b2422 _ q2442.2.1).1
              refine pm_R_iald pm_M51 (pc' := 8) (v := z2439) rfl (T.im kq2423.1 (by decide) (by decide) eE2419) (T.al kq2423.1 (by decide)) q2442.1 ez2440 rfl ?_
              refine pm_R_op pm_M51 (pc' := 9) (st' := [.int 2, .int z2439]) rfl rfl rfl ?_
              refine pm_R_icmp pm_M51 (t := 16) (pc' := 12) rfl rfl rfl (fun c2443 => ?_) (fun c2443 => ?_)
              · have B2444 : sf_B 0 1 z2439 := sf_neH0 c2443 sf_k2 B2441
                refine pm_R_op pm_M51 (pc' := 17) (st' := [.int 0]) rfl rfl rfl ?_
                refine pm_R_ret pm_M51 (r := some (.int 0)) rfl rfl ?_
                show pm_R _ 159 33 [.ref a, .int x1_2062, .int x2_2062, .int x3_2062, .int x4_2409, .int x5_2409] [.int 0] _ _
                refine pm_R_br pm_M159 (pc' := 49) (st' := []) rfl rfl ?_
                refine sf_R_iinc pm_M159 (pc' := 52) (ls' := fun z => [.ref a, .int x1_2062, .int x2_2062, .int x3_2062, .int x4_2409, .int z]) rfl B2434 rfl (by decide) (by decide) (by decide) (fun _ => rfl) rfl (fun z2445 e2446 B2447 => ?_)
                show pm_R _ 159 52 [.ref a, .int x1_2062, .int x2_2062, .int x3_2062, .int x4_2409, .int z2445] [] _ _
                refine pm_R_br pm_M159 (pc' := 18) rfl rfl ?_
                exact ih_2409 _ (sf_up hN_2409 e2446 B2434 (by decide) (by decide)) x4_2409 z2445 Bx4_2409 (sf_weak B2447 (by decide) (by decide)) rfl
              · have B2448 : sf_B 2 2 z2439 := sf_eqL (Classical.not_not.mp c2443) sf_k2
                refine pm_R_op pm_M51 (pc' := 13) (st' := [.int 1]) rfl rfl rfl ?_
                refine pm_R_br pm_M51 (pc' := 17) rfl rfl ?_
                refine pm_R_ret pm_M51 (r := some (.int 1)) rfl rfl ?_
                show pm_R _ 159 33 [.ref a, .int x1_2062, .int x2_2062, .int x3_2062, .int x4_2409, .int x5_2409] [.int 1] _ _
                refine pm_R_br pm_M159 (pc' := 36) (st' := []) rfl rfl ?_
                refine pm_R_lo pm_M159 (pc' := 37) rfl rfl rfl ?_
                refine pm_R_lo pm_M159 (pc' := 39) rfl rfl rfl ?_
                refine pm_R_cv pm_M159 (pc' := 42) (a := a) (ra := [.int x5_2409]) (rest := []) (ls' := [.ref a, .int x5_2409]) rfl rfl (Or.inl rfl) pm_M147 (T.im hk (by decide) (by decide) eE2418) rfl (G.ge hk (by decide)) (T.al hk (by decide)) rfl rfl (Nat.le_of_ble_eq_true rfl) rfl rfl ?_
                refine pm_R_lo pm_M147 (pc' := 1) rfl rfl rfl ?_
                refine pm_R_get pm_M147 (pc' := 4) (v := .ref (a + 1)) rfl rfl (T.im hk (by decide) (by decide) eE2418) (G.ge hk (by decide)) (T.al hk (by decide)) rfl rfl ?_
                refine pm_R_lo pm_M147 (pc' := 5) rfl rfl rfl ?_
                refine pm_R_op pm_M147 (pc' := 6) (st' := [.int 4, .int x5_2409, .ref (a + 1)]) rfl rfl rfl ?_
                refine sf_R_imulV pm_M147 (pc' := 7) rfl rfl B2434 sf_k4 (by decide) (by decide) (by decide) e2437 ?_
                refine pm_R_op pm_M147 (pc' := 8) (st' := [.int 2, .int z2436, .ref (a + 1)]) rfl rfl rfl ?_
                refine sf_R_iadd pm_M147 (pc' := 9) rfl rfl B2438 sf_k2 (by decide) (by decide) (fun z2449 e2450 B2451 => ?_)
                have q2455 := cl_in4 (n := n2411) (Nat.le_trans h2417 (by decide)) (Int32.not_le.mp c2424) (cl_aux6 _ _ _ e2437 e2450) B2434 (by decide) (by decide)
                obtain ⟨z2452, ez2453⟩ : ∃ y, fd2412 (Int32.toNatClampNeg z2449) = y := ⟨_, rfl⟩
                have B2454 : sf_B (-1) 9 z2452 := ez2453 ▸ q2455.2.2 ▸ (b2422 _ q2455.2.1).2.2.1
                have B2456 : sf_B 0 9 z2452 := cl_sign (b2422 _ q2455.2.1).2.2.2 q2442.2.2 ez2440 (Classical.not_not.mp c2443) q2455.2.2 ez2453 B2454 (by decide)
                refine pm_R_iald pm_M147 (pc' := 10) (v := z2452) rfl (T.im kq2423.1 (by decide) (by decide) eE2419) (T.al kq2423.1 (by decide)) q2455.1 ez2453 rfl ?_
                refine pm_R_ret pm_M147 (r := some (.int z2452)) rfl (pm_ret_i _) ?_
                show pm_R _ 159 42 [.ref a, .int x1_2062, .int x2_2062, .int x3_2062, .int x4_2409, .int x5_2409] [.int z2452] _ _
                refine pm_R_lo pm_M159 (pc' := 43) rfl rfl rfl ?_
                refine pm_R_icmp pm_M159 (t := 49) (pc' := 46) rfl rfl rfl (fun c2457 => ?_) (fun c2457 => ?_)
                · skip
                  refine sf_R_iinc pm_M159 (pc' := 52) (ls' := fun z => [.ref a, .int x1_2062, .int x2_2062, .int x3_2062, .int x4_2409, .int z]) rfl B2434 rfl (by decide) (by decide) (by decide) (fun _ => rfl) rfl (fun z2458 e2459 B2460 => ?_)
                  show pm_R _ 159 52 [.ref a, .int x1_2062, .int x2_2062, .int x3_2062, .int x4_2409, .int z2458] [] _ _
                  refine pm_R_br pm_M159 (pc' := 18) rfl rfl ?_
                  exact ih_2409 _ (sf_up hN_2409 e2459 B2434 (by decide) (by decide)) x4_2409 z2458 Bx4_2409 (sf_weak B2460 (by decide) (by decide)) rfl
                · refine sf_R_iincA pm_M159 (pc' := 49) (ls' := fun z => [.ref a, .int x1_2062, .int x2_2062, .int x3_2062, .int z, .int x5_2409]) rfl rfl (fun _ => rfl) rfl (fun z2461 => ?_)
                  show pm_R _ 159 49 [.ref a, .int x1_2062, .int x2_2062, .int x3_2062, .int z2461, .int x5_2409] [] _ _
                  refine sf_R_iinc pm_M159 (pc' := 52) (ls' := fun z => [.ref a, .int x1_2062, .int x2_2062, .int x3_2062, .int z2461, .int z]) rfl B2434 rfl (by decide) (by decide) (by decide) (fun _ => rfl) rfl (fun z2462 e2463 B2464 => ?_)
                  show pm_R _ 159 52 [.ref a, .int x1_2062, .int x2_2062, .int x3_2062, .int z2461, .int z2462] [] _ _
                  refine pm_R_br pm_M159 (pc' := 18) rfl rfl ?_
                  exact ih_2409 _ (sf_up hN_2409 e2463 B2434 (by decide) (by decide)) z2461 z2462 (sf_any z2461) (sf_weak B2464 (by decide) (by decide)) rfl
        exact L_2409 _ 0 0 (sf_weak sf_k0 (by decide) (by decide)) (sf_weak sf_k0 (by decide) (by decide)) rfl
  exact L_2062 _ (-1) 0 0 (pm_no) (pm_no) (sf_weak sf_kn1 (by decide) (by decide)) (sf_weak sf_k0 (by decide) (by decide)) (sf_weak sf_k0 (by decide) (by decide)) rfl rfl rfl

set_option maxRecDepth 100000 in
set_option maxHeartbeats 4000000 in
/-- SilentTable$Meal.eyesOf -/
theorem cl_c161 {d : Nat} {ck : cl_K} {E : Nat → pm_E} {m : Nat → Int32} {o : Nat → Option Nat} {h : pm_H} {Q : Option Value → pm_H → Prop} {a : Nat} {a0 : Int32} (G : cl_G ck E) (T : cl_T ck E m o h) (hk : ck a = 9) (Ba0 : sf_B 0 5 a0) (K : ∀ (r : Int32), Q (some (.int r)) h) : pm_R (d + 0) 161 0 [.ref a, .int a0, pm_no, pm_no] [] h Q := by
  refine pm_R_op pm_M161 (pc' := 1) (st' := [.int 0]) rfl rfl rfl ?_
  refine pm_R_lo pm_M161 (pc' := 2) (ls' := [.ref a, .int a0, .int 0, pm_no]) (st' := []) rfl rfl rfl ?_
  refine pm_R_op pm_M161 (pc' := 3) (st' := [.int 0]) rfl rfl rfl ?_
  refine pm_R_lo pm_M161 (pc' := 4) (ls' := [.ref a, .int a0, .int 0, .int 0]) (st' := []) rfl rfl rfl ?_
  have L_184 : ∀ (N : Nat) (x2_184 : Int32) (x3_184 : Int32), sf_B (-2147483648) 2147483647 x2_184 → sf_B 0 50 x3_184 → (50 - x3_184.toInt).toNat = N → pm_R (d + 0) 161 4 [.ref a, .int a0, .int x2_184, .int x3_184] [] h Q := by
    intro N
    induction N using Nat.strongRecOn with
    | ind N ih_184 =>
      intro x2_184 x3_184 Bx2_184 Bx3_184 hN_184
      refine pm_R_lo pm_M161 (pc' := 5) rfl rfl rfl ?_
      refine pm_R_lo pm_M161 (pc' := 6) rfl rfl rfl ?_
      obtain ⟨s185, n186, fd187, fg188, fs189, h190, h191, h192, eE193, eE194, eE195, eE196, b197⟩ := (G.2.2.2.1 a hk).2.2.2
      have kq198 := G.2.2.2.1 a hk
      refine pm_R_get pm_M161 (pc' := 9) (v := .int (Int32.ofNat n186)) rfl rfl (T.im hk (by decide) (by decide) eE193) (G.ge hk (by decide)) (T.al hk (by decide)) rfl rfl ?_
      refine pm_R_icmp pm_M161 (t := 31) (pc' := 12) rfl rfl rfl (fun c199 => ?_) (fun c199 => ?_)
      · skip
        refine pm_R_lo pm_M161 (pc' := 32) rfl rfl rfl ?_
        exact pm_R_ret pm_M161 (r := some (.int x2_184)) rfl (pm_ret_i _) (K x2_184)
      · have B200 : sf_B 0 49 x3_184 := sf_ltL (Int32.not_le.mp c199) Bx3_184 (sf_ofB h192 (by decide))
        have B201 : sf_B 1 50 (Int32.ofNat n186) := sf_ltR (Int32.not_le.mp c199) Bx3_184 (sf_ofB h192 (by decide))
        refine pm_R_lo pm_M161 (pc' := 13) rfl rfl rfl ?_
        refine pm_R_lo pm_M161 (pc' := 14) rfl rfl rfl ?_
        refine pm_R_get pm_M161 (pc' := 17) (v := .ref (a + 3)) rfl rfl (T.im hk (by decide) (by decide) eE193) (G.ge hk (by decide)) (T.al hk (by decide)) rfl rfl ?_
        refine pm_R_lo pm_M161 (pc' := 18) rfl rfl rfl ?_
        have q205 := cl_in1 (n := n186) (Nat.le_trans h192 (by decide)) (Int32.not_le.mp c199) B200 (by decide)
        obtain ⟨z202, ez203⟩ : ∃ y, fs189 (Int32.toNatClampNeg x3_184) = y := ⟨_, rfl⟩
        refine pm_R_iald pm_M161 (pc' := 19) (v := z202) rfl (T.im kq198.2.2.1 (by decide) (by decide) eE196) (T.al kq198.2.2.1 (by decide)) q205.1 ez203 rfl ?_
        refine pm_R_lo pm_M161 (pc' := 20) rfl rfl rfl ?_
        refine sf_R_iany pm_M161 (pc' := 21) (st := [.int x2_184]) rfl rfl rfl (fun z209 => ?_)
        refine pm_R_op pm_M161 (pc' := 22) (st' := [.int 1, .int z209, .int x2_184]) rfl rfl rfl ?_
        refine sf_R_iandE pm_M161 (pc' := 23) rfl rfl sf_k1 (by decide) (fun z210 e211 B212 => ?_)
        refine sf_R_iany pm_M161 (pc' := 24) (st := []) rfl rfl rfl (fun z216 => ?_)
        refine pm_R_lo pm_M161 (pc' := 25) (ls' := [.ref a, .int a0, .int z216, .int x3_184]) (st' := []) rfl rfl rfl ?_
        refine sf_R_iinc pm_M161 (pc' := 28) (ls' := fun z => [.ref a, .int a0, .int z216, .int z]) rfl B200 rfl (by decide) (by decide) (by decide) (fun _ => rfl) rfl (fun z217 e218 B219 => ?_)
        show pm_R _ 161 28 [.ref a, .int a0, .int z216, .int z217] [] _ _
        refine pm_R_br pm_M161 (pc' := 4) rfl rfl ?_
        exact ih_184 _ (sf_up hN_184 e218 B200 (by decide) (by decide)) z216 z217 (sf_any z216) (sf_weak B219 (by decide) (by decide)) rfl
  exact L_184 _ 0 0 (sf_weak sf_k0 (by decide) (by decide)) (sf_weak sf_k0 (by decide) (by decide)) rfl

set_option maxRecDepth 100000 in
set_option maxHeartbeats 4000000 in
/-- SilentTable$Meal.blindSigns -/
theorem cl_c160 {d : Nat} {ck : cl_K} {E : Nat → pm_E} {m : Nat → Int32} {o : Nat → Option Nat} {h : pm_H} {Q : Option Value → pm_H → Prop} {a : Nat} (G : cl_G ck E) (T : cl_T ck E m o h) (hk : ck a = 9) (K : ∀ (r : Int32), Q (some (.int r)) h) : pm_R (d + 1) 160 0 [.ref a, pm_no, pm_no] [] h Q := by
  refine pm_R_op pm_M160 (pc' := 1) (st' := [.int 0]) rfl rfl rfl ?_
  refine pm_R_lo pm_M160 (pc' := 2) (ls' := [.ref a, .int 0, pm_no]) (st' := []) rfl rfl rfl ?_
  refine pm_R_op pm_M160 (pc' := 3) (st' := [.int 0]) rfl rfl rfl ?_
  refine pm_R_lo pm_M160 (pc' := 4) (ls' := [.ref a, .int 0, .int 0]) (st' := []) rfl rfl rfl ?_
  have L_300 : ∀ (N : Nat) (x1_300 : Int32) (x2_300 : Int32), sf_B (-2147483648) 2147483647 x1_300 → sf_B 0 50 x2_300 → (50 - x2_300.toInt).toNat = N → pm_R (d + 1) 160 4 [.ref a, .int x1_300, .int x2_300] [] h Q := by
    intro N
    induction N using Nat.strongRecOn with
    | ind N ih_300 =>
      intro x1_300 x2_300 Bx1_300 Bx2_300 hN_300
      refine pm_R_lo pm_M160 (pc' := 5) rfl rfl rfl ?_
      refine pm_R_lo pm_M160 (pc' := 6) rfl rfl rfl ?_
      obtain ⟨s301, n302, fd303, fg304, fs305, h306, h307, h308, eE309, eE310, eE311, eE312, b313⟩ := (G.2.2.2.1 a hk).2.2.2
      have kq314 := G.2.2.2.1 a hk
      refine pm_R_get pm_M160 (pc' := 9) (v := .int (Int32.ofNat n302)) rfl rfl (T.im hk (by decide) (by decide) eE309) (G.ge hk (by decide)) (T.al hk (by decide)) rfl rfl ?_
      refine pm_R_icmp pm_M160 (t := 50) (pc' := 12) rfl rfl rfl (fun c315 => ?_) (fun c315 => ?_)
      · skip
        refine pm_R_lo pm_M160 (pc' := 51) rfl rfl rfl ?_
        exact pm_R_ret pm_M160 (r := some (.int x1_300)) rfl (pm_ret_i _) (K x1_300)
      · have B316 : sf_B 0 49 x2_300 := sf_ltL (Int32.not_le.mp c315) Bx2_300 (sf_ofB h308 (by decide))
        have B317 : sf_B 1 50 (Int32.ofNat n302) := sf_ltR (Int32.not_le.mp c315) Bx2_300 (sf_ofB h308 (by decide))
        refine pm_R_lo pm_M160 (pc' := 13) rfl rfl rfl ?_
        refine pm_R_lo pm_M160 (pc' := 14) rfl rfl rfl ?_
        refine pm_R_cv pm_M160 (pc' := 17) (a := a) (ra := [.int x2_300]) (rest := []) (ls' := [.ref a, .int x2_300]) rfl rfl (Or.inl rfl) pm_M51 (T.im hk (by decide) (by decide) eE309) rfl (G.ge hk (by decide)) (T.al hk (by decide)) rfl rfl (Nat.le_of_ble_eq_true rfl) rfl rfl ?_
        refine pm_R_lo pm_M51 (pc' := 1) rfl rfl rfl ?_
        refine pm_R_get pm_M51 (pc' := 4) (v := .ref (a + 1)) rfl rfl (T.im hk (by decide) (by decide) eE309) (G.ge hk (by decide)) (T.al hk (by decide)) rfl rfl ?_
        refine pm_R_lo pm_M51 (pc' := 5) rfl rfl rfl ?_
        refine pm_R_op pm_M51 (pc' := 6) (st' := [.int 4, .int x2_300, .ref (a + 1)]) rfl rfl rfl ?_
        refine sf_R_imul pm_M51 (pc' := 7) rfl rfl B316 sf_k4 (by decide) (by decide) (by decide) (fun z318 e319 B320 => ?_)
        have q324 := cl_in4 (n := n302) (Nat.le_trans h308 (by decide)) (Int32.not_le.mp c315) (cl_aux5 _ _ e319) B316 (by decide) (by decide)
        obtain ⟨z321, ez322⟩ : ∃ y, fd303 (Int32.toNatClampNeg z318) = y := ⟨_, rfl⟩
        have B323 : sf_B 0 2 z321 := ez322 ▸ q324.2.2 ▸ (b313 _ q324.2.1).1
        refine pm_R_iald pm_M51 (pc' := 8) (v := z321) rfl (T.im kq314.1 (by decide) (by decide) eE310) (T.al kq314.1 (by decide)) q324.1 ez322 rfl ?_
        refine pm_R_op pm_M51 (pc' := 9) (st' := [.int 2, .int z321]) rfl rfl rfl ?_
        refine pm_R_icmp pm_M51 (t := 16) (pc' := 12) rfl rfl rfl (fun c325 => ?_) (fun c325 => ?_)
        · have B326 : sf_B 0 1 z321 := sf_neH0 c325 sf_k2 B323
          refine pm_R_op pm_M51 (pc' := 17) (st' := [.int 0]) rfl rfl rfl ?_
          refine pm_R_ret pm_M51 (r := some (.int 0)) rfl rfl ?_
          show pm_R _ 160 17 [.ref a, .int x1_300, .int x2_300] [.int 0] _ _
          refine pm_R_br pm_M160 (pc' := 44) (st' := []) rfl rfl ?_
          refine sf_R_iinc pm_M160 (pc' := 47) (ls' := fun z => [.ref a, .int x1_300, .int z]) rfl B316 rfl (by decide) (by decide) (by decide) (fun _ => rfl) rfl (fun z327 e328 B329 => ?_)
          show pm_R _ 160 47 [.ref a, .int x1_300, .int z327] [] _ _
          refine pm_R_br pm_M160 (pc' := 4) rfl rfl ?_
          exact ih_300 _ (sf_up hN_300 e328 B316 (by decide) (by decide)) x1_300 z327 Bx1_300 (sf_weak B329 (by decide) (by decide)) rfl
        · have B330 : sf_B 2 2 z321 := sf_eqL (Classical.not_not.mp c325) sf_k2
          refine pm_R_op pm_M51 (pc' := 13) (st' := [.int 1]) rfl rfl rfl ?_
          refine pm_R_br pm_M51 (pc' := 17) rfl rfl ?_
          refine pm_R_ret pm_M51 (r := some (.int 1)) rfl rfl ?_
          show pm_R _ 160 17 [.ref a, .int x1_300, .int x2_300] [.int 1] _ _
          refine pm_R_br pm_M160 (pc' := 20) (st' := []) rfl rfl ?_
          refine pm_R_lo pm_M160 (pc' := 21) rfl rfl rfl ?_
          refine pm_R_get pm_M160 (pc' := 24) (v := .ref (a + 2)) rfl rfl (T.im hk (by decide) (by decide) eE309) (G.ge hk (by decide)) (T.al hk (by decide)) rfl rfl ?_
          refine pm_R_lo pm_M160 (pc' := 25) rfl rfl rfl ?_
          refine pm_R_lo pm_M160 (pc' := 26) rfl rfl rfl ?_
          refine pm_R_get pm_M160 (pc' := 29) (v := .int (Int32.ofNat s301)) rfl rfl (T.im hk (by decide) (by decide) eE309) (G.ge hk (by decide)) (T.al hk (by decide)) rfl rfl ?_
          refine sf_R_imul pm_M160 (pc' := 30) rfl rfl B316 (sf_ofB1 h307 h306 (by decide)) (by decide) (by decide) (by decide) (fun z331 e332 B333 => ?_)
          refine pm_R_lo pm_M160 (pc' := 31) rfl rfl rfl ?_
          refine pm_R_lo pm_M160 (pc' := 32) rfl rfl rfl ?_
          refine pm_R_cv pm_M160 (pc' := 35) (a := a) (ra := [.int x2_300]) (rest := [.int z331, .ref (a + 2)]) (ls' := [.ref a, .int x2_300]) rfl rfl (Or.inl rfl) pm_M52 (T.im hk (by decide) (by decide) eE309) rfl (G.ge hk (by decide)) (T.al hk (by decide)) rfl rfl (Nat.le_of_ble_eq_true rfl) rfl rfl ?_
          refine pm_R_lo pm_M52 (pc' := 1) rfl rfl rfl ?_
          refine pm_R_get pm_M52 (pc' := 4) (v := .ref (a + 1)) rfl rfl (T.im hk (by decide) (by decide) eE309) (G.ge hk (by decide)) (T.al hk (by decide)) rfl rfl ?_
          refine pm_R_lo pm_M52 (pc' := 5) rfl rfl rfl ?_
          refine pm_R_op pm_M52 (pc' := 6) (st' := [.int 4, .int x2_300, .ref (a + 1)]) rfl rfl rfl ?_
          refine sf_R_imulV pm_M52 (pc' := 7) rfl rfl B316 sf_k4 (by decide) (by decide) (by decide) e319 ?_
          refine pm_R_op pm_M52 (pc' := 8) (st' := [.int 1, .int z318, .ref (a + 1)]) rfl rfl rfl ?_
          refine sf_R_iadd pm_M52 (pc' := 9) rfl rfl B320 sf_k1 (by decide) (by decide) (fun z334 e335 B336 => ?_)
          have q340 := cl_in4 (n := n302) (Nat.le_trans h308 (by decide)) (Int32.not_le.mp c315) (cl_aux7 _ _ _ e319 e335) B316 (by decide) (by decide)
          obtain ⟨z337, ez338⟩ : ∃ y, fd303 (Int32.toNatClampNeg z334) = y := ⟨_, rfl⟩
          have B339 : sf_B 0 5 z337 := ez338 ▸ q340.2.2 ▸ (cl_seat (b313 _ q340.2.1).2.1 h307)
          refine pm_R_iald pm_M52 (pc' := 10) (v := z337) rfl (T.im kq314.1 (by decide) (by decide) eE310) (T.al kq314.1 (by decide)) q340.1 ez338 rfl ?_
          refine pm_R_ret pm_M52 (r := some (.int z337)) rfl (pm_ret_i _) ?_
          show pm_R _ 160 35 [.ref a, .int x1_300, .int x2_300] [.int z337, .int z331, .ref (a + 2)] _ _
          refine sf_R_iadd pm_M160 (pc' := 36) rfl rfl B333 B339 (by decide) (by decide) (fun z341 e342 B343 => ?_)
          obtain ⟨z347, ez348⟩ : ∃ y, fg304 (Int32.toNatClampNeg z341) = y := ⟨_, rfl⟩
          refine pm_R_iald pm_M160 (pc' := 37) (v := z347) rfl (T.im kq314.2.1 (by decide) (by decide) eE311) (T.al kq314.2.1 (by decide)) (cl_inG (s := s301) (n := n302) h307 h308 e342 e332 (Int32.le_of_lt (Int32.not_le.mp c315)) (ez338 ▸ q340.2.2 ▸ (b313 _ q340.2.1).2.1.2) B316 B339 (by decide) (by decide)) ez348 rfl ?_
          refine pm_R_op pm_M160 (pc' := 38) (st' := [.int (-1), .int z347]) rfl rfl rfl ?_
          refine pm_R_icmp pm_M160 (t := 44) (pc' := 41) rfl rfl rfl (fun c349 => ?_) (fun c349 => ?_)
          · skip
            refine sf_R_iinc pm_M160 (pc' := 47) (ls' := fun z => [.ref a, .int x1_300, .int z]) rfl B316 rfl (by decide) (by decide) (by decide) (fun _ => rfl) rfl (fun z350 e351 B352 => ?_)
            show pm_R _ 160 47 [.ref a, .int x1_300, .int z350] [] _ _
            refine pm_R_br pm_M160 (pc' := 4) rfl rfl ?_
            exact ih_300 _ (sf_up hN_300 e351 B316 (by decide) (by decide)) x1_300 z350 Bx1_300 (sf_weak B352 (by decide) (by decide)) rfl
          · have B353 : sf_B (-1) (-1) z347 := sf_eqL (Classical.not_not.mp c349) sf_kn1
            refine sf_R_iincA pm_M160 (pc' := 44) (ls' := fun z => [.ref a, .int z, .int x2_300]) rfl rfl (fun _ => rfl) rfl (fun z354 => ?_)
            show pm_R _ 160 44 [.ref a, .int z354, .int x2_300] [] _ _
            refine sf_R_iinc pm_M160 (pc' := 47) (ls' := fun z => [.ref a, .int z354, .int z]) rfl B316 rfl (by decide) (by decide) (by decide) (fun _ => rfl) rfl (fun z355 e356 B357 => ?_)
            show pm_R _ 160 47 [.ref a, .int z354, .int z355] [] _ _
            refine pm_R_br pm_M160 (pc' := 4) rfl rfl ?_
            exact ih_300 _ (sf_up hN_300 e356 B316 (by decide) (by decide)) z354 z355 (sf_any z354) (sf_weak B357 (by decide) (by decide)) rfl
  exact L_300 _ 0 0 (sf_weak sf_k0 (by decide) (by decide)) (sf_weak sf_k0 (by decide) (by decide)) rfl

set_option maxRecDepth 100000 in
set_option maxHeartbeats 4000000 in
/-- SilentTable.meal -/
theorem cl_c138 {d : Nat} {ck : cl_K} {E : Nat → pm_E} {m : Nat → Int32} {o : Nat → Option Nat} {h : pm_H} {Q : Option Value → pm_H → Prop} {a0 : Int32} {a1 : Int32} (G : cl_G ck E) (T : cl_T ck E m o h)  (K : ∀ (r : Int32), Q (some (.int r)) h) : pm_R (d + 2) 138 0 [.ref 16, .int a0, .int a1, pm_no] [] h Q := by
  refine pm_R_lo pm_M138 (pc' := 1) rfl rfl rfl ?_
  refine pm_R_lo pm_M138 (pc' := 2) rfl rfl rfl ?_
  refine pm_R_cv pm_M138 (pc' := 5) (a := 16) (ra := [.int a0]) (rest := []) (ls' := [.ref 16, .int a0]) rfl rfl (Or.inl rfl) pm_M139 T.e16 rfl (by decide) (T.lt (by decide)) rfl rfl (Nat.le_of_ble_eq_true rfl) rfl rfl ?_
  refine pm_R_lo pm_M139 (pc' := 1) rfl rfl rfl ?_
  refine pm_R_ifc pm_M139 (t := 17) (pc' := 4) rfl rfl rfl (fun c1 => ?_) (fun c1 => ?_)
  · have B2 : sf_B (-2147483648) (-1) a0 := sf_ltL c1 (sf_any a0) sf_k0
    refine pm_R_op pm_M139 (pc' := 18) (st' := [.null]) rfl rfl rfl ?_
    refine pm_R_br pm_M139 (pc' := 30) rfl rfl ?_
    refine pm_R_ret pm_M139 (r := some (.null)) rfl rfl ?_
    show pm_R _ 138 5 [.ref 16, .int a0, .int a1, pm_no] [.null] _ _
    refine pm_R_lo pm_M138 (pc' := 6) (ls' := [.ref 16, .int a0, .int a1, .null]) (st' := []) rfl rfl rfl ?_
    refine pm_R_lo pm_M138 (pc' := 7) rfl rfl rfl ?_
    refine pm_R_br pm_M138 (pc' := 10) rfl rfl ?_
    refine pm_R_op pm_M138 (pc' := 11) (st' := [.int (-1)]) rfl rfl rfl ?_
    exact pm_R_ret pm_M138 (r := some (.int (-1))) rfl rfl (K (-1))
  · have B3 : sf_B 0 2147483647 a0 := sf_leR (Int32.not_lt.mp c1) sf_k0 (sf_any a0)
    refine pm_R_lo pm_M139 (pc' := 5) rfl rfl rfl ?_
    refine pm_R_lo pm_M139 (pc' := 6) rfl rfl rfl ?_
    refine pm_R_get pm_M139 (pc' := 9) (v := .ref 17) rfl rfl T.e16 (by decide) (T.lt (by decide)) rfl rfl ?_
    refine pm_R_get pm_M139 (pc' := 12) (v := .ref 23) rfl rfl T.e17 (by decide) (T.lt (by decide)) rfl rfl ?_
    refine pm_R_op pm_M139 (pc' := 13) (st' := [.int 2, .ref 23, .int a0]) rfl rfl rfl ?_
    obtain ⟨f7, e8, b9⟩ := T.C 23 (by decide) (by decide)
    obtain ⟨z4, ez5⟩ : ∃ y, f7 (Int32.toNatClampNeg 2) = y := ⟨_, rfl⟩
    have B6 : sf_B 0 2 z4 := ez5 ▸ (b9 2)
    refine pm_R_iald pm_M139 (pc' := 14) (v := z4) rfl e8 (T.lt (by decide)) rfl ez5 rfl ?_
    refine pm_R_icmp pm_M139 (t := 21) (pc' := 17) rfl rfl rfl (fun c10 => ?_) (fun c10 => ?_)
    · have B11 : sf_B 0 1 a0 := sf_ltL c10 B3 B6
      have B12 : sf_B 1 2 z4 := sf_ltR c10 B3 B6
      refine pm_R_lo pm_M139 (pc' := 22) rfl rfl rfl ?_
      refine pm_R_get pm_M139 (pc' := 25) (v := .ref 17) rfl rfl T.e16 (by decide) (T.lt (by decide)) rfl rfl ?_
      refine pm_R_get pm_M139 (pc' := 28) (v := .ref 21) rfl rfl T.e17 (by decide) (T.lt (by decide)) rfl rfl ?_
      refine pm_R_lo pm_M139 (pc' := 29) rfl rfl rfl ?_
      obtain ⟨f13, e14, b15⟩ := T.C 21 (by decide) (by decide)
      obtain ⟨l16, hx17⟩ := cl_there2 T e8 e14 ez5 c10 B11 (by decide)
      have hk18 := b15 _ _ hx17
      refine pm_R_aald pm_M139 (pc' := 30) (v := .ref l16) rfl e14 (by decide) (by decide) (by decide) (T.lt (by decide)) (sf_in B11 (by decide) (by decide)) (by rw [hx17]; rfl) rfl ?_
      refine pm_R_ret pm_M139 (r := some (.ref l16)) rfl rfl ?_
      show pm_R _ 138 5 [.ref 16, .int a0, .int a1, pm_no] [.ref l16] _ _
      refine pm_R_lo pm_M138 (pc' := 6) (ls' := [.ref 16, .int a0, .int a1, .ref l16]) (st' := []) rfl rfl rfl ?_
      refine pm_R_lo pm_M138 (pc' := 7) rfl rfl rfl ?_
      refine pm_R_br pm_M138 (pc' := 12) rfl rfl ?_
      refine pm_R_lo pm_M138 (pc' := 13) rfl rfl rfl ?_
      by_cases c19 : a1 < 0
      · refine pm_R_tswD pm_M138 (pc' := 66) rfl (Or.inl (Int32.lt_iff_toInt_lt.mp c19)) rfl ?_
        have B20 : sf_B (-2147483648) (-1) a1 := sf_ltL c19 (sf_any a1) sf_k0
        refine pm_R_op pm_M138 (pc' := 67) (st' := [.int (-1)]) rfl rfl rfl ?_
        exact pm_R_ret pm_M138 (r := some (.int (-1))) rfl rfl (K (-1))
      have B21 : sf_B 0 2147483647 a1 := sf_leR (Int32.not_lt.mp c19) sf_k0 (sf_any a1)
      by_cases c22 : 3 < a1
      · refine pm_R_tswD pm_M138 (pc' := 66) rfl (Or.inr (Int32.lt_iff_toInt_lt.mp c22)) rfl ?_
        have B23 : sf_B 4 2147483647 a1 := sf_ltR c22 sf_k3 (sf_any a1)
        refine pm_R_op pm_M138 (pc' := 67) (st' := [.int (-1)]) rfl rfl rfl ?_
        exact pm_R_ret pm_M138 (r := some (.int (-1))) rfl rfl (K (-1))
      have B24 : sf_B (-2147483648) 3 a1 := sf_leL (Int32.not_lt.mp c22) (sf_any a1) sf_k3
      by_cases c25 : a1 < 0
      · refine pm_R_tswD pm_M138 (pc' := 66) rfl (Or.inl (Int32.lt_iff_toInt_lt.mp c25)) rfl ?_
        have B26 : sf_B (-2147483648) (-1) a1 := sf_ltL c25 B24 sf_k0
        refine pm_R_op pm_M138 (pc' := 67) (st' := [.int (-1)]) rfl rfl rfl ?_
        exact pm_R_ret pm_M138 (r := some (.int (-1))) rfl rfl (K (-1))
      have B27 : sf_B 0 3 a1 := sf_leR (Int32.not_lt.mp c25) sf_k0 B24
      by_cases c28 : 3 < a1
      · refine pm_R_tswD pm_M138 (pc' := 66) rfl (Or.inr (Int32.lt_iff_toInt_lt.mp c28)) rfl ?_
        have B29 : sf_B 4 3 a1 := sf_ltR c28 sf_k3 B24
        refine pm_R_op pm_M138 (pc' := 67) (st' := [.int (-1)]) rfl rfl rfl ?_
        exact pm_R_ret pm_M138 (r := some (.int (-1))) rfl rfl (K (-1))
      skip
      by_cases c30 : a1 = 0
      · rw [c30]
        refine pm_R_br pm_M138 (pc' := 44) (st' := []) rfl rfl ?_
        refine pm_R_lo pm_M138 (pc' := 45) rfl rfl rfl ?_
        obtain ⟨s31, n32, fd33, fg34, fs35, h36, h37, h38, eE39, eE40, eE41, eE42, b43⟩ := (G.2.2.2.1 l16 hk18).2.2.2
        have kq44 := G.2.2.2.1 l16 hk18
        refine pm_R_get pm_M138 (pc' := 48) (v := .int (Int32.ofNat s31)) rfl rfl (T.im hk18 (by decide) (by decide) eE39) (G.ge hk18 (by decide)) (T.al hk18 (by decide)) rfl rfl ?_
        exact pm_R_ret pm_M138 (r := some (.int (Int32.ofNat s31))) rfl (pm_ret_i _) (K (Int32.ofNat s31))
      have B45 : sf_B 1 3 a1 := sf_neL0 c30 sf_k0 B27
      by_cases c46 : a1 = 1
      · rw [c46]
        refine pm_R_br pm_M138 (pc' := 49) (st' := []) rfl rfl ?_
        refine pm_R_lo pm_M138 (pc' := 50) rfl rfl rfl ?_
        obtain ⟨s47, n48, fd49, fg50, fs51, h52, h53, h54, eE55, eE56, eE57, eE58, b59⟩ := (G.2.2.2.1 l16 hk18).2.2.2
        have kq60 := G.2.2.2.1 l16 hk18
        refine pm_R_get pm_M138 (pc' := 53) (v := .int (Int32.ofNat n48)) rfl rfl (T.im hk18 (by decide) (by decide) eE55) (G.ge hk18 (by decide)) (T.al hk18 (by decide)) rfl rfl ?_
        exact pm_R_ret pm_M138 (r := some (.int (Int32.ofNat n48))) rfl (pm_ret_i _) (K (Int32.ofNat n48))
      have B61 : sf_B 2 3 a1 := sf_neL0 c46 sf_k1 B45
      by_cases c62 : a1 = 2
      · rw [c62]
        refine pm_R_br pm_M138 (pc' := 54) (st' := []) rfl rfl ?_
        refine pm_R_lo pm_M138 (pc' := 55) rfl rfl rfl ?_
        refine pm_R_op pm_M138 (pc' := 56) (st' := [.int 0, .ref l16]) rfl rfl rfl ?_
        obtain ⟨s63, n64, fd65, fg66, fs67, h68, h69, h70, eE71, eE72, eE73, eE74, b75⟩ := (G.2.2.2.1 l16 hk18).2.2.2
        have kq76 := G.2.2.2.1 l16 hk18
        refine pm_R_cv pm_M138 (pc' := 59) (a := l16) (ra := [.int 0]) (rest := []) (ls' := [.ref l16, .int 0, pm_no, pm_no]) rfl rfl (Or.inl rfl) pm_M140 (T.im hk18 (by decide) (by decide) eE71) rfl (G.ge hk18 (by decide)) (T.al hk18 (by decide)) rfl rfl (Nat.le_of_ble_eq_true rfl) rfl rfl ?_
        refine cl_c140 (d := d + 0) G T hk18 (sf_weak sf_k0 (by decide) (by decide)) (fun r77 => ?_)
        show pm_R _ 138 59 [.ref 16, .int a0, .int 2, .ref l16] [.int r77] _ _
        exact pm_R_ret pm_M138 (r := some (.int r77)) rfl (pm_ret_i _) (K r77)
      have B84 : sf_B 3 3 a1 := sf_neL0 c62 sf_k2 B61
      rw [sf_pt2 B84 sf_k3]
      refine pm_R_br pm_M138 (pc' := 60) (st' := []) rfl rfl ?_
      refine pm_R_lo pm_M138 (pc' := 61) rfl rfl rfl ?_
      refine pm_R_op pm_M138 (pc' := 62) (st' := [.int 1, .ref l16]) rfl rfl rfl ?_
      obtain ⟨s85, n86, fd87, fg88, fs89, h90, h91, h92, eE93, eE94, eE95, eE96, b97⟩ := (G.2.2.2.1 l16 hk18).2.2.2
      have kq98 := G.2.2.2.1 l16 hk18
      refine pm_R_cv pm_M138 (pc' := 65) (a := l16) (ra := [.int 1]) (rest := []) (ls' := [.ref l16, .int 1, pm_no, pm_no]) rfl rfl (Or.inl rfl) pm_M140 (T.im hk18 (by decide) (by decide) eE93) rfl (G.ge hk18 (by decide)) (T.al hk18 (by decide)) rfl rfl (Nat.le_of_ble_eq_true rfl) rfl rfl ?_
      refine cl_c140 (d := d + 0) G T hk18 (sf_weak sf_k1 (by decide) (by decide)) (fun r99 => ?_)
      show pm_R _ 138 65 [.ref 16, .int a0, .int 3, .ref l16] [.int r99] _ _
      exact pm_R_ret pm_M138 (r := some (.int r99)) rfl (pm_ret_i _) (K r99)
    · skip
      refine pm_R_op pm_M139 (pc' := 18) (st' := [.null]) rfl rfl rfl ?_
      refine pm_R_br pm_M139 (pc' := 30) rfl rfl ?_
      refine pm_R_ret pm_M139 (r := some (.null)) rfl rfl ?_
      show pm_R _ 138 5 [.ref 16, .int a0, .int a1, pm_no] [.null] _ _
      refine pm_R_lo pm_M138 (pc' := 6) (ls' := [.ref 16, .int a0, .int a1, .null]) (st' := []) rfl rfl rfl ?_
      refine pm_R_lo pm_M138 (pc' := 7) rfl rfl rfl ?_
      refine pm_R_br pm_M138 (pc' := 10) rfl rfl ?_
      refine pm_R_op pm_M138 (pc' := 11) (st' := [.int (-1)]) rfl rfl rfl ?_
      exact pm_R_ret pm_M138 (r := some (.int (-1))) rfl rfl (K (-1))

set_option maxRecDepth 100000 in
set_option maxHeartbeats 4000000 in
/-- SilentTable.deed -/
theorem cl_c141 {d : Nat} {ck : cl_K} {E : Nat → pm_E} {m : Nat → Int32} {o : Nat → Option Nat} {h : pm_H} {Q : Option Value → pm_H → Prop} {a0 : Int32} {a1 : Int32} {a2 : Int32} (G : cl_G ck E) (T : cl_T ck E m o h)  (K : ∀ (r : Int32), Q (some (.int r)) h) : pm_R (d + 1) 141 0 [.ref 16, .int a0, .int a1, .int a2, pm_no] [] h Q := by
  refine pm_R_lo pm_M141 (pc' := 1) rfl rfl rfl ?_
  refine pm_R_lo pm_M141 (pc' := 2) rfl rfl rfl ?_
  refine pm_R_cv pm_M141 (pc' := 5) (a := 16) (ra := [.int a0]) (rest := []) (ls' := [.ref 16, .int a0]) rfl rfl (Or.inl rfl) pm_M139 T.e16 rfl (by decide) (T.lt (by decide)) rfl rfl (Nat.le_of_ble_eq_true rfl) rfl rfl ?_
  refine pm_R_lo pm_M139 (pc' := 1) rfl rfl rfl ?_
  refine pm_R_ifc pm_M139 (t := 17) (pc' := 4) rfl rfl rfl (fun c1 => ?_) (fun c1 => ?_)
  · have B2 : sf_B (-2147483648) (-1) a0 := sf_ltL c1 (sf_any a0) sf_k0
    refine pm_R_op pm_M139 (pc' := 18) (st' := [.null]) rfl rfl rfl ?_
    refine pm_R_br pm_M139 (pc' := 30) rfl rfl ?_
    refine pm_R_ret pm_M139 (r := some (.null)) rfl rfl ?_
    show pm_R _ 141 5 [.ref 16, .int a0, .int a1, .int a2, pm_no] [.null] _ _
    refine pm_R_lo pm_M141 (pc' := 7) (ls' := [.ref 16, .int a0, .int a1, .int a2, .null]) (st' := []) rfl rfl rfl ?_
    refine pm_R_lo pm_M141 (pc' := 9) rfl rfl rfl ?_
    refine pm_R_br pm_M141 (pc' := 34) rfl rfl ?_
    refine pm_R_op pm_M141 (pc' := 36) (st' := [.int (-2)]) rfl rfl rfl ?_
    exact pm_R_ret pm_M141 (r := some (.int (-2))) rfl rfl (K (-2))
  · have B3 : sf_B 0 2147483647 a0 := sf_leR (Int32.not_lt.mp c1) sf_k0 (sf_any a0)
    refine pm_R_lo pm_M139 (pc' := 5) rfl rfl rfl ?_
    refine pm_R_lo pm_M139 (pc' := 6) rfl rfl rfl ?_
    refine pm_R_get pm_M139 (pc' := 9) (v := .ref 17) rfl rfl T.e16 (by decide) (T.lt (by decide)) rfl rfl ?_
    refine pm_R_get pm_M139 (pc' := 12) (v := .ref 23) rfl rfl T.e17 (by decide) (T.lt (by decide)) rfl rfl ?_
    refine pm_R_op pm_M139 (pc' := 13) (st' := [.int 2, .ref 23, .int a0]) rfl rfl rfl ?_
    obtain ⟨f7, e8, b9⟩ := T.C 23 (by decide) (by decide)
    obtain ⟨z4, ez5⟩ : ∃ y, f7 (Int32.toNatClampNeg 2) = y := ⟨_, rfl⟩
    have B6 : sf_B 0 2 z4 := ez5 ▸ (b9 2)
    refine pm_R_iald pm_M139 (pc' := 14) (v := z4) rfl e8 (T.lt (by decide)) rfl ez5 rfl ?_
    refine pm_R_icmp pm_M139 (t := 21) (pc' := 17) rfl rfl rfl (fun c10 => ?_) (fun c10 => ?_)
    · have B11 : sf_B 0 1 a0 := sf_ltL c10 B3 B6
      have B12 : sf_B 1 2 z4 := sf_ltR c10 B3 B6
      refine pm_R_lo pm_M139 (pc' := 22) rfl rfl rfl ?_
      refine pm_R_get pm_M139 (pc' := 25) (v := .ref 17) rfl rfl T.e16 (by decide) (T.lt (by decide)) rfl rfl ?_
      refine pm_R_get pm_M139 (pc' := 28) (v := .ref 21) rfl rfl T.e17 (by decide) (T.lt (by decide)) rfl rfl ?_
      refine pm_R_lo pm_M139 (pc' := 29) rfl rfl rfl ?_
      obtain ⟨f13, e14, b15⟩ := T.C 21 (by decide) (by decide)
      obtain ⟨l16, hx17⟩ := cl_there2 T e8 e14 ez5 c10 B11 (by decide)
      have hk18 := b15 _ _ hx17
      refine pm_R_aald pm_M139 (pc' := 30) (v := .ref l16) rfl e14 (by decide) (by decide) (by decide) (T.lt (by decide)) (sf_in B11 (by decide) (by decide)) (by rw [hx17]; rfl) rfl ?_
      refine pm_R_ret pm_M139 (r := some (.ref l16)) rfl rfl ?_
      show pm_R _ 141 5 [.ref 16, .int a0, .int a1, .int a2, pm_no] [.ref l16] _ _
      refine pm_R_lo pm_M141 (pc' := 7) (ls' := [.ref 16, .int a0, .int a1, .int a2, .ref l16]) (st' := []) rfl rfl rfl ?_
      refine pm_R_lo pm_M141 (pc' := 9) rfl rfl rfl ?_
      refine pm_R_br pm_M141 (pc' := 12) rfl rfl ?_
      refine pm_R_lo pm_M141 (pc' := 13) rfl rfl rfl ?_
      refine pm_R_ifc pm_M141 (t := 34) (pc' := 16) rfl rfl rfl (fun c19 => ?_) (fun c19 => ?_)
      · have B20 : sf_B (-2147483648) (-1) a1 := sf_ltL c19 (sf_any a1) sf_k0
        refine pm_R_op pm_M141 (pc' := 36) (st' := [.int (-2)]) rfl rfl rfl ?_
        exact pm_R_ret pm_M141 (r := some (.int (-2))) rfl rfl (K (-2))
      · have B21 : sf_B 0 2147483647 a1 := sf_leR (Int32.not_lt.mp c19) sf_k0 (sf_any a1)
        refine pm_R_lo pm_M141 (pc' := 17) rfl rfl rfl ?_
        refine pm_R_lo pm_M141 (pc' := 19) rfl rfl rfl ?_
        obtain ⟨s22, n23, fd24, fg25, fs26, h27, h28, h29, eE30, eE31, eE32, eE33, b34⟩ := (G.2.2.2.1 l16 hk18).2.2.2
        have kq35 := G.2.2.2.1 l16 hk18
        refine pm_R_get pm_M141 (pc' := 22) (v := .int (Int32.ofNat n23)) rfl rfl (T.im hk18 (by decide) (by decide) eE30) (G.ge hk18 (by decide)) (T.al hk18 (by decide)) rfl rfl ?_
        refine pm_R_icmp pm_M141 (t := 34) (pc' := 25) rfl rfl rfl (fun c36 => ?_) (fun c36 => ?_)
        · skip
          refine pm_R_op pm_M141 (pc' := 36) (st' := [.int (-2)]) rfl rfl rfl ?_
          exact pm_R_ret pm_M141 (r := some (.int (-2))) rfl rfl (K (-2))
        · have B37 : sf_B 0 49 a1 := sf_ltL (Int32.not_le.mp c36) B21 (sf_ofB h29 (by decide))
          have B38 : sf_B 1 50 (Int32.ofNat n23) := sf_ltR (Int32.not_le.mp c36) B21 (sf_ofB h29 (by decide))
          refine pm_R_lo pm_M141 (pc' := 26) rfl rfl rfl ?_
          refine pm_R_ifc pm_M141 (t := 34) (pc' := 29) rfl rfl rfl (fun c39 => ?_) (fun c39 => ?_)
          · have B40 : sf_B (-2147483648) (-1) a2 := sf_ltL c39 (sf_any a2) sf_k0
            refine pm_R_op pm_M141 (pc' := 36) (st' := [.int (-2)]) rfl rfl rfl ?_
            exact pm_R_ret pm_M141 (r := some (.int (-2))) rfl rfl (K (-2))
          · have B41 : sf_B 0 2147483647 a2 := sf_leR (Int32.not_lt.mp c39) sf_k0 (sf_any a2)
            refine pm_R_lo pm_M141 (pc' := 30) rfl rfl rfl ?_
            refine pm_R_op pm_M141 (pc' := 31) (st' := [.int 3, .int a2]) rfl rfl rfl ?_
            refine pm_R_icmp pm_M141 (t := 37) (pc' := 34) rfl rfl rfl (fun c42 => ?_) (fun c42 => ?_)
            · have B43 : sf_B 0 3 a2 := sf_leL c42 B41 sf_k3
              refine pm_R_lo pm_M141 (pc' := 38) rfl rfl rfl ?_
              refine pm_R_op pm_M141 (pc' := 39) (st' := [.int 3, .int a2]) rfl rfl rfl ?_
              refine pm_R_icmp pm_M141 (t := 52) (pc' := 42) rfl rfl rfl (fun c44 => ?_) (fun c44 => ?_)
              · have B45 : sf_B 0 2 a2 := sf_neH0 c44 sf_k3 B43
                refine pm_R_lo pm_M141 (pc' := 54) rfl rfl rfl ?_
                refine pm_R_get pm_M141 (pc' := 57) (v := .ref (l16 + 1)) rfl rfl (T.im hk18 (by decide) (by decide) eE30) (G.ge hk18 (by decide)) (T.al hk18 (by decide)) rfl rfl ?_
                refine pm_R_lo pm_M141 (pc' := 58) rfl rfl rfl ?_
                refine pm_R_op pm_M141 (pc' := 59) (st' := [.int 4, .int a1, .ref (l16 + 1)]) rfl rfl rfl ?_
                refine sf_R_imul pm_M141 (pc' := 60) rfl rfl B37 sf_k4 (by decide) (by decide) (by decide) (fun z46 e47 B48 => ?_)
                refine pm_R_lo pm_M141 (pc' := 61) rfl rfl rfl ?_
                refine sf_R_iadd pm_M141 (pc' := 62) rfl rfl B48 B45 (by decide) (by decide) (fun z49 e50 B51 => ?_)
                have q55 := cl_in4 (n := n23) (Nat.le_trans h29 (by decide)) (Int32.not_le.mp c36) (cl_aux4 _ _ _ _ e47 e50) B37 (by decide) (cl_c03 B45 (by decide) (by decide))
                obtain ⟨z52, ez53⟩ : ∃ y, fd24 (Int32.toNatClampNeg z49) = y := ⟨_, rfl⟩
                refine pm_R_iald pm_M141 (pc' := 63) (v := z52) rfl (T.im kq35.1 (by decide) (by decide) eE31) (T.al kq35.1 (by decide)) q55.1 ez53 rfl ?_
                exact pm_R_ret pm_M141 (r := some (.int z52)) rfl (pm_ret_i _) (K z52)
              · have B56 : sf_B 3 3 a2 := sf_eqL (Classical.not_not.mp c44) sf_k3
                refine pm_R_lo pm_M141 (pc' := 44) rfl rfl rfl ?_
                refine pm_R_get pm_M141 (pc' := 47) (v := .ref (l16 + 3)) rfl rfl (T.im hk18 (by decide) (by decide) eE30) (G.ge hk18 (by decide)) (T.al hk18 (by decide)) rfl rfl ?_
                refine pm_R_lo pm_M141 (pc' := 48) rfl rfl rfl ?_
                have q60 := cl_in1 (n := n23) (Nat.le_trans h29 (by decide)) (Int32.not_le.mp c36) B37 (by decide)
                obtain ⟨z57, ez58⟩ : ∃ y, fs26 (Int32.toNatClampNeg a1) = y := ⟨_, rfl⟩
                refine pm_R_iald pm_M141 (pc' := 49) (v := z57) rfl (T.im kq35.2.2.1 (by decide) (by decide) eE33) (T.al kq35.2.2.1 (by decide)) q60.1 ez58 rfl ?_
                refine pm_R_br pm_M141 (pc' := 63) rfl rfl ?_
                exact pm_R_ret pm_M141 (r := some (.int z57)) rfl (pm_ret_i _) (K z57)
            · have B61 : sf_B 4 2147483647 a2 := sf_ltR (Int32.not_le.mp c42) sf_k3 B41
              refine pm_R_op pm_M141 (pc' := 36) (st' := [.int (-2)]) rfl rfl rfl ?_
              exact pm_R_ret pm_M141 (r := some (.int (-2))) rfl rfl (K (-2))
    · skip
      refine pm_R_op pm_M139 (pc' := 18) (st' := [.null]) rfl rfl rfl ?_
      refine pm_R_br pm_M139 (pc' := 30) rfl rfl ?_
      refine pm_R_ret pm_M139 (r := some (.null)) rfl rfl ?_
      show pm_R _ 141 5 [.ref 16, .int a0, .int a1, .int a2, pm_no] [.null] _ _
      refine pm_R_lo pm_M141 (pc' := 7) (ls' := [.ref 16, .int a0, .int a1, .int a2, .null]) (st' := []) rfl rfl rfl ?_
      refine pm_R_lo pm_M141 (pc' := 9) rfl rfl rfl ?_
      refine pm_R_br pm_M141 (pc' := 34) rfl rfl ?_
      refine pm_R_op pm_M141 (pc' := 36) (st' := [.int (-2)]) rfl rfl rfl ?_
      exact pm_R_ret pm_M141 (r := some (.int (-2))) rfl rfl (K (-2))

set_option maxRecDepth 100000 in
set_option maxHeartbeats 4000000 in
/-- SilentTable.looks -/
theorem cl_c142 {d : Nat} {ck : cl_K} {E : Nat → pm_E} {m : Nat → Int32} {o : Nat → Option Nat} {h : pm_H} {Q : Option Value → pm_H → Prop} {a0 : Int32} {a1 : Int32} {a2 : Int32} (G : cl_G ck E) (T : cl_T ck E m o h)  (K : ∀ (r : Int32), Q (some (.int r)) h) : pm_R (d + 1) 142 0 [.ref 16, .int a0, .int a1, .int a2, pm_no] [] h Q := by
  refine pm_R_lo pm_M142 (pc' := 1) rfl rfl rfl ?_
  refine pm_R_lo pm_M142 (pc' := 2) rfl rfl rfl ?_
  refine pm_R_cv pm_M142 (pc' := 5) (a := 16) (ra := [.int a0]) (rest := []) (ls' := [.ref 16, .int a0]) rfl rfl (Or.inl rfl) pm_M139 T.e16 rfl (by decide) (T.lt (by decide)) rfl rfl (Nat.le_of_ble_eq_true rfl) rfl rfl ?_
  refine pm_R_lo pm_M139 (pc' := 1) rfl rfl rfl ?_
  refine pm_R_ifc pm_M139 (t := 17) (pc' := 4) rfl rfl rfl (fun c1 => ?_) (fun c1 => ?_)
  · have B2 : sf_B (-2147483648) (-1) a0 := sf_ltL c1 (sf_any a0) sf_k0
    refine pm_R_op pm_M139 (pc' := 18) (st' := [.null]) rfl rfl rfl ?_
    refine pm_R_br pm_M139 (pc' := 30) rfl rfl ?_
    refine pm_R_ret pm_M139 (r := some (.null)) rfl rfl ?_
    show pm_R _ 142 5 [.ref 16, .int a0, .int a1, .int a2, pm_no] [.null] _ _
    refine pm_R_lo pm_M142 (pc' := 7) (ls' := [.ref 16, .int a0, .int a1, .int a2, .null]) (st' := []) rfl rfl rfl ?_
    refine pm_R_lo pm_M142 (pc' := 9) rfl rfl rfl ?_
    refine pm_R_br pm_M142 (pc' := 34) rfl rfl ?_
    refine pm_R_op pm_M142 (pc' := 36) (st' := [.int (-2)]) rfl rfl rfl ?_
    exact pm_R_ret pm_M142 (r := some (.int (-2))) rfl rfl (K (-2))
  · have B3 : sf_B 0 2147483647 a0 := sf_leR (Int32.not_lt.mp c1) sf_k0 (sf_any a0)
    refine pm_R_lo pm_M139 (pc' := 5) rfl rfl rfl ?_
    refine pm_R_lo pm_M139 (pc' := 6) rfl rfl rfl ?_
    refine pm_R_get pm_M139 (pc' := 9) (v := .ref 17) rfl rfl T.e16 (by decide) (T.lt (by decide)) rfl rfl ?_
    refine pm_R_get pm_M139 (pc' := 12) (v := .ref 23) rfl rfl T.e17 (by decide) (T.lt (by decide)) rfl rfl ?_
    refine pm_R_op pm_M139 (pc' := 13) (st' := [.int 2, .ref 23, .int a0]) rfl rfl rfl ?_
    obtain ⟨f7, e8, b9⟩ := T.C 23 (by decide) (by decide)
    obtain ⟨z4, ez5⟩ : ∃ y, f7 (Int32.toNatClampNeg 2) = y := ⟨_, rfl⟩
    have B6 : sf_B 0 2 z4 := ez5 ▸ (b9 2)
    refine pm_R_iald pm_M139 (pc' := 14) (v := z4) rfl e8 (T.lt (by decide)) rfl ez5 rfl ?_
    refine pm_R_icmp pm_M139 (t := 21) (pc' := 17) rfl rfl rfl (fun c10 => ?_) (fun c10 => ?_)
    · have B11 : sf_B 0 1 a0 := sf_ltL c10 B3 B6
      have B12 : sf_B 1 2 z4 := sf_ltR c10 B3 B6
      refine pm_R_lo pm_M139 (pc' := 22) rfl rfl rfl ?_
      refine pm_R_get pm_M139 (pc' := 25) (v := .ref 17) rfl rfl T.e16 (by decide) (T.lt (by decide)) rfl rfl ?_
      refine pm_R_get pm_M139 (pc' := 28) (v := .ref 21) rfl rfl T.e17 (by decide) (T.lt (by decide)) rfl rfl ?_
      refine pm_R_lo pm_M139 (pc' := 29) rfl rfl rfl ?_
      obtain ⟨f13, e14, b15⟩ := T.C 21 (by decide) (by decide)
      obtain ⟨l16, hx17⟩ := cl_there2 T e8 e14 ez5 c10 B11 (by decide)
      have hk18 := b15 _ _ hx17
      refine pm_R_aald pm_M139 (pc' := 30) (v := .ref l16) rfl e14 (by decide) (by decide) (by decide) (T.lt (by decide)) (sf_in B11 (by decide) (by decide)) (by rw [hx17]; rfl) rfl ?_
      refine pm_R_ret pm_M139 (r := some (.ref l16)) rfl rfl ?_
      show pm_R _ 142 5 [.ref 16, .int a0, .int a1, .int a2, pm_no] [.ref l16] _ _
      refine pm_R_lo pm_M142 (pc' := 7) (ls' := [.ref 16, .int a0, .int a1, .int a2, .ref l16]) (st' := []) rfl rfl rfl ?_
      refine pm_R_lo pm_M142 (pc' := 9) rfl rfl rfl ?_
      refine pm_R_br pm_M142 (pc' := 12) rfl rfl ?_
      refine pm_R_lo pm_M142 (pc' := 13) rfl rfl rfl ?_
      refine pm_R_ifc pm_M142 (t := 34) (pc' := 16) rfl rfl rfl (fun c19 => ?_) (fun c19 => ?_)
      · have B20 : sf_B (-2147483648) (-1) a1 := sf_ltL c19 (sf_any a1) sf_k0
        refine pm_R_op pm_M142 (pc' := 36) (st' := [.int (-2)]) rfl rfl rfl ?_
        exact pm_R_ret pm_M142 (r := some (.int (-2))) rfl rfl (K (-2))
      · have B21 : sf_B 0 2147483647 a1 := sf_leR (Int32.not_lt.mp c19) sf_k0 (sf_any a1)
        refine pm_R_lo pm_M142 (pc' := 17) rfl rfl rfl ?_
        refine pm_R_lo pm_M142 (pc' := 19) rfl rfl rfl ?_
        obtain ⟨s22, n23, fd24, fg25, fs26, h27, h28, h29, eE30, eE31, eE32, eE33, b34⟩ := (G.2.2.2.1 l16 hk18).2.2.2
        have kq35 := G.2.2.2.1 l16 hk18
        refine pm_R_get pm_M142 (pc' := 22) (v := .int (Int32.ofNat n23)) rfl rfl (T.im hk18 (by decide) (by decide) eE30) (G.ge hk18 (by decide)) (T.al hk18 (by decide)) rfl rfl ?_
        refine pm_R_icmp pm_M142 (t := 34) (pc' := 25) rfl rfl rfl (fun c36 => ?_) (fun c36 => ?_)
        · have B37 : sf_B 1 2147483647 a1 := sf_ltR c36 (sf_ofB h29 (by decide)) B21
          refine pm_R_op pm_M142 (pc' := 36) (st' := [.int (-2)]) rfl rfl rfl ?_
          exact pm_R_ret pm_M142 (r := some (.int (-2))) rfl rfl (K (-2))
        · have B38 : sf_B 0 50 a1 := sf_leL (Int32.not_lt.mp c36) B21 (sf_ofB h29 (by decide))
          refine pm_R_lo pm_M142 (pc' := 27) rfl rfl rfl ?_
          refine pm_R_lo pm_M142 (pc' := 28) rfl rfl rfl ?_
          refine pm_R_cv pm_M142 (pc' := 31) (a := l16) (ra := [.int a2]) (rest := []) (ls' := [.ref l16, .int a2]) rfl rfl (Or.inl rfl) pm_M143 (T.im hk18 (by decide) (by decide) eE30) rfl (G.ge hk18 (by decide)) (T.al hk18 (by decide)) rfl rfl (Nat.le_of_ble_eq_true rfl) rfl rfl ?_
          refine pm_R_lo pm_M143 (pc' := 1) rfl rfl rfl ?_
          refine pm_R_ifc pm_M143 (t := 16) (pc' := 4) rfl rfl rfl (fun c39 => ?_) (fun c39 => ?_)
          · have B40 : sf_B (-2147483648) (-1) a2 := sf_ltL c39 (sf_any a2) sf_k0
            refine pm_R_op pm_M143 (pc' := 17) (st' := [.int 0]) rfl rfl rfl ?_
            refine pm_R_ret pm_M143 (r := some (.int 0)) rfl rfl ?_
            show pm_R _ 142 31 [.ref 16, .int a0, .int a1, .int a2, .ref l16] [.int 0] _ _
            refine pm_R_br pm_M142 (pc' := 34) (st' := []) rfl rfl ?_
            refine pm_R_op pm_M142 (pc' := 36) (st' := [.int (-2)]) rfl rfl rfl ?_
            exact pm_R_ret pm_M142 (r := some (.int (-2))) rfl rfl (K (-2))
          · have B41 : sf_B 0 2147483647 a2 := sf_leR (Int32.not_lt.mp c39) sf_k0 (sf_any a2)
            refine pm_R_lo pm_M143 (pc' := 5) rfl rfl rfl ?_
            refine pm_R_lo pm_M143 (pc' := 6) rfl rfl rfl ?_
            refine pm_R_get pm_M143 (pc' := 9) (v := .int (Int32.ofNat s22)) rfl rfl (T.im hk18 (by decide) (by decide) eE30) (G.ge hk18 (by decide)) (T.al hk18 (by decide)) rfl rfl ?_
            refine pm_R_icmp pm_M143 (t := 16) (pc' := 12) rfl rfl rfl (fun c42 => ?_) (fun c42 => ?_)
            · have B43 : sf_B 1 2147483647 a2 := sf_leR c42 (sf_ofB1 h28 h27 (by decide)) B41
              refine pm_R_op pm_M143 (pc' := 17) (st' := [.int 0]) rfl rfl rfl ?_
              refine pm_R_ret pm_M143 (r := some (.int 0)) rfl rfl ?_
              show pm_R _ 142 31 [.ref 16, .int a0, .int a1, .int a2, .ref l16] [.int 0] _ _
              refine pm_R_br pm_M142 (pc' := 34) (st' := []) rfl rfl ?_
              refine pm_R_op pm_M142 (pc' := 36) (st' := [.int (-2)]) rfl rfl rfl ?_
              exact pm_R_ret pm_M142 (r := some (.int (-2))) rfl rfl (K (-2))
            · have B44 : sf_B 0 5 a2 := sf_ltL (Int32.not_le.mp c42) B41 (sf_ofB1 h28 h27 (by decide))
              refine pm_R_op pm_M143 (pc' := 13) (st' := [.int 1]) rfl rfl rfl ?_
              refine pm_R_br pm_M143 (pc' := 17) rfl rfl ?_
              refine pm_R_ret pm_M143 (r := some (.int 1)) rfl rfl ?_
              show pm_R _ 142 31 [.ref 16, .int a0, .int a1, .int a2, .ref l16] [.int 1] _ _
              refine pm_R_br pm_M142 (pc' := 37) (st' := []) rfl rfl ?_
              refine pm_R_lo pm_M142 (pc' := 39) rfl rfl rfl ?_
              refine pm_R_get pm_M142 (pc' := 42) (v := .ref (l16 + 2)) rfl rfl (T.im hk18 (by decide) (by decide) eE30) (G.ge hk18 (by decide)) (T.al hk18 (by decide)) rfl rfl ?_
              refine pm_R_lo pm_M142 (pc' := 43) rfl rfl rfl ?_
              refine pm_R_lo pm_M142 (pc' := 45) rfl rfl rfl ?_
              refine pm_R_get pm_M142 (pc' := 48) (v := .int (Int32.ofNat s22)) rfl rfl (T.im hk18 (by decide) (by decide) eE30) (G.ge hk18 (by decide)) (T.al hk18 (by decide)) rfl rfl ?_
              refine sf_R_imul pm_M142 (pc' := 49) rfl rfl B38 (sf_ofB1 h28 h27 (by decide)) (by decide) (by decide) (by decide) (fun z45 e46 B47 => ?_)
              refine pm_R_lo pm_M142 (pc' := 50) rfl rfl rfl ?_
              refine sf_R_iadd pm_M142 (pc' := 51) rfl rfl B47 B44 (by decide) (by decide) (fun z48 e49 B50 => ?_)
              obtain ⟨z54, ez55⟩ : ∃ y, fg25 (Int32.toNatClampNeg z48) = y := ⟨_, rfl⟩
              refine pm_R_iald pm_M142 (pc' := 52) (v := z54) rfl (T.im kq35.2.1 (by decide) (by decide) eE32) (T.al kq35.2.1 (by decide)) (cl_inG (s := s22) (n := n23) h28 h29 e49 e46 (Int32.not_lt.mp c36) (cl_ltN h28 (Int32.not_le.mp c42)) B38 B44 (by decide) (by decide)) ez55 rfl ?_
              exact pm_R_ret pm_M142 (r := some (.int z54)) rfl (pm_ret_i _) (K z54)
    · skip
      refine pm_R_op pm_M139 (pc' := 18) (st' := [.null]) rfl rfl rfl ?_
      refine pm_R_br pm_M139 (pc' := 30) rfl rfl ?_
      refine pm_R_ret pm_M139 (r := some (.null)) rfl rfl ?_
      show pm_R _ 142 5 [.ref 16, .int a0, .int a1, .int a2, pm_no] [.null] _ _
      refine pm_R_lo pm_M142 (pc' := 7) (ls' := [.ref 16, .int a0, .int a1, .int a2, .null]) (st' := []) rfl rfl rfl ?_
      refine pm_R_lo pm_M142 (pc' := 9) rfl rfl rfl ?_
      refine pm_R_br pm_M142 (pc' := 34) rfl rfl ?_
      refine pm_R_op pm_M142 (pc' := 36) (st' := [.int (-2)]) rfl rfl rfl ?_
      exact pm_R_ret pm_M142 (r := some (.int (-2))) rfl rfl (K (-2))

set_option maxRecDepth 100000 in
set_option maxHeartbeats 4000000 in
/-- SilentTable.law -/
theorem cl_c162 {d : Nat} {ck : cl_K} {E : Nat → pm_E} {m : Nat → Int32} {o : Nat → Option Nat} {h : pm_H} {Q : Option Value → pm_H → Prop} {a0 : Int32} {a1 : Int32} {a2 : Int32} (G : cl_G ck E) (T : cl_T ck E m o h)  (K : ∀ (r : Int32), Q (some (.int r)) h) : pm_R (d + 1) 162 0 [.ref 16, .int a0, .int a1, .int a2, pm_no] [] h Q := by
  refine pm_R_lo pm_M162 (pc' := 1) rfl rfl rfl ?_
  refine pm_R_lo pm_M162 (pc' := 2) rfl rfl rfl ?_
  refine pm_R_cv pm_M162 (pc' := 5) (a := 16) (ra := [.int a0]) (rest := []) (ls' := [.ref 16, .int a0]) rfl rfl (Or.inl rfl) pm_M163 T.e16 rfl (by decide) (T.lt (by decide)) rfl rfl (Nat.le_of_ble_eq_true rfl) rfl rfl ?_
  refine pm_R_lo pm_M163 (pc' := 1) rfl rfl rfl ?_
  refine pm_R_ifc pm_M163 (t := 17) (pc' := 4) rfl rfl rfl (fun c1 => ?_) (fun c1 => ?_)
  · have B2 : sf_B (-2147483648) (-1) a0 := sf_ltL c1 (sf_any a0) sf_k0
    refine pm_R_op pm_M163 (pc' := 18) (st' := [.null]) rfl rfl rfl ?_
    refine pm_R_br pm_M163 (pc' := 30) rfl rfl ?_
    refine pm_R_ret pm_M163 (r := some (.null)) rfl rfl ?_
    show pm_R _ 162 5 [.ref 16, .int a0, .int a1, .int a2, pm_no] [.null] _ _
    refine pm_R_lo pm_M162 (pc' := 7) (ls' := [.ref 16, .int a0, .int a1, .int a2, .null]) (st' := []) rfl rfl rfl ?_
    refine pm_R_lo pm_M162 (pc' := 9) rfl rfl rfl ?_
    refine pm_R_br pm_M162 (pc' := 21) rfl rfl ?_
    refine pm_R_op pm_M162 (pc' := 23) (st' := [.int (-2)]) rfl rfl rfl ?_
    exact pm_R_ret pm_M162 (r := some (.int (-2))) rfl rfl (K (-2))
  · have B3 : sf_B 0 2147483647 a0 := sf_leR (Int32.not_lt.mp c1) sf_k0 (sf_any a0)
    refine pm_R_lo pm_M163 (pc' := 5) rfl rfl rfl ?_
    refine pm_R_lo pm_M163 (pc' := 6) rfl rfl rfl ?_
    refine pm_R_get pm_M163 (pc' := 9) (v := .ref 17) rfl rfl T.e16 (by decide) (T.lt (by decide)) rfl rfl ?_
    refine pm_R_get pm_M163 (pc' := 12) (v := .ref 23) rfl rfl T.e17 (by decide) (T.lt (by decide)) rfl rfl ?_
    refine pm_R_op pm_M163 (pc' := 13) (st' := [.int 3, .ref 23, .int a0]) rfl rfl rfl ?_
    obtain ⟨f7, e8, b9⟩ := T.C 23 (by decide) (by decide)
    obtain ⟨z4, ez5⟩ : ∃ y, f7 (Int32.toNatClampNeg 3) = y := ⟨_, rfl⟩
    have B6 : sf_B 0 2 z4 := ez5 ▸ (b9 3)
    refine pm_R_iald pm_M163 (pc' := 14) (v := z4) rfl e8 (T.lt (by decide)) rfl ez5 rfl ?_
    refine pm_R_icmp pm_M163 (t := 21) (pc' := 17) rfl rfl rfl (fun c10 => ?_) (fun c10 => ?_)
    · have B11 : sf_B 0 1 a0 := sf_ltL c10 B3 B6
      have B12 : sf_B 1 2 z4 := sf_ltR c10 B3 B6
      refine pm_R_lo pm_M163 (pc' := 22) rfl rfl rfl ?_
      refine pm_R_get pm_M163 (pc' := 25) (v := .ref 17) rfl rfl T.e16 (by decide) (T.lt (by decide)) rfl rfl ?_
      refine pm_R_get pm_M163 (pc' := 28) (v := .ref 22) rfl rfl T.e17 (by decide) (T.lt (by decide)) rfl rfl ?_
      refine pm_R_lo pm_M163 (pc' := 29) rfl rfl rfl ?_
      obtain ⟨f13, e14, b15⟩ := T.C 22 (by decide) (by decide)
      obtain ⟨l16, hx17⟩ := cl_there3 T e8 e14 ez5 c10 B11 (by decide)
      have hk18 := b15 _ _ hx17
      refine pm_R_aald pm_M163 (pc' := 30) (v := .ref l16) rfl e14 (by decide) (by decide) (by decide) (T.lt (by decide)) (sf_in B11 (by decide) (by decide)) (by rw [hx17]; rfl) rfl ?_
      refine pm_R_ret pm_M163 (r := some (.ref l16)) rfl rfl ?_
      show pm_R _ 162 5 [.ref 16, .int a0, .int a1, .int a2, pm_no] [.ref l16] _ _
      refine pm_R_lo pm_M162 (pc' := 7) (ls' := [.ref 16, .int a0, .int a1, .int a2, .ref l16]) (st' := []) rfl rfl rfl ?_
      refine pm_R_lo pm_M162 (pc' := 9) rfl rfl rfl ?_
      refine pm_R_br pm_M162 (pc' := 12) rfl rfl ?_
      refine pm_R_lo pm_M162 (pc' := 13) rfl rfl rfl ?_
      refine pm_R_ifc pm_M162 (t := 21) (pc' := 16) rfl rfl rfl (fun c19 => ?_) (fun c19 => ?_)
      · have B20 : sf_B (-2147483648) (-1) a2 := sf_ltL c19 (sf_any a2) sf_k0
        refine pm_R_op pm_M162 (pc' := 23) (st' := [.int (-2)]) rfl rfl rfl ?_
        exact pm_R_ret pm_M162 (r := some (.int (-2))) rfl rfl (K (-2))
      · have B21 : sf_B 0 2147483647 a2 := sf_leR (Int32.not_lt.mp c19) sf_k0 (sf_any a2)
        refine pm_R_lo pm_M162 (pc' := 17) rfl rfl rfl ?_
        refine pm_R_op pm_M162 (pc' := 18) (st' := [.int 2, .int a2]) rfl rfl rfl ?_
        refine pm_R_icmp pm_M162 (t := 24) (pc' := 21) rfl rfl rfl (fun c22 => ?_) (fun c22 => ?_)
        · have B23 : sf_B 0 2 a2 := sf_leL c22 B21 sf_k2
          refine pm_R_lo pm_M162 (pc' := 25) rfl rfl rfl ?_
          refine pm_R_op pm_M162 (pc' := 26) (st' := [.int (-1), .int a1]) rfl rfl rfl ?_
          refine pm_R_icmp pm_M162 (t := 44) (pc' := 29) rfl rfl rfl (fun c24 => ?_) (fun c24 => ?_)
          · skip
            refine pm_R_lo pm_M162 (pc' := 45) rfl rfl rfl ?_
            refine pm_R_ifc pm_M162 (t := 57) (pc' := 48) rfl rfl rfl (fun c25 => ?_) (fun c25 => ?_)
            · have B26 : sf_B (-2147483648) (-1) a1 := sf_ltL c25 (sf_any a1) sf_k0
              refine pm_R_op pm_M162 (pc' := 59) (st' := [.int (-2)]) rfl rfl rfl ?_
              refine pm_R_br pm_M162 (pc' := 73) rfl rfl ?_
              exact pm_R_ret pm_M162 (r := some (.int (-2))) rfl rfl (K (-2))
            · have B27 : sf_B 0 2147483647 a1 := sf_leR (Int32.not_lt.mp c25) sf_k0 (sf_any a1)
              refine pm_R_lo pm_M162 (pc' := 49) rfl rfl rfl ?_
              refine pm_R_lo pm_M162 (pc' := 51) rfl rfl rfl ?_
              obtain ⟨n28, f29, h30, eE31, eE32, b33⟩ := (G.2.2.2.2.1 l16 hk18).2
              have kq34 := (G.2.2.2.2.1 l16 hk18).1
              refine pm_R_get pm_M162 (pc' := 54) (v := .int (Int32.ofNat n28)) rfl rfl (T.im hk18 (by decide) (by decide) eE31) (G.ge hk18 (by decide)) (T.al hk18 (by decide)) rfl rfl ?_
              refine pm_R_icmp pm_M162 (t := 62) (pc' := 57) rfl rfl rfl (fun c35 => ?_) (fun c35 => ?_)
              · have B36 : sf_B 0 7 a1 := sf_ltL c35 B27 (sf_ofB h30 (by decide))
                have B37 : sf_B 1 8 (Int32.ofNat n28) := sf_ltR c35 B27 (sf_ofB h30 (by decide))
                refine pm_R_lo pm_M162 (pc' := 64) rfl rfl rfl ?_
                refine pm_R_get pm_M162 (pc' := 67) (v := .ref (l16 + 1)) rfl rfl (T.im hk18 (by decide) (by decide) eE31) (G.ge hk18 (by decide)) (T.al hk18 (by decide)) rfl rfl ?_
                refine pm_R_lo pm_M162 (pc' := 68) rfl rfl rfl ?_
                refine pm_R_op pm_M162 (pc' := 69) (st' := [.int 4, .int a1, .ref (l16 + 1)]) rfl rfl rfl ?_
                refine sf_R_imul pm_M162 (pc' := 70) rfl rfl B36 sf_k4 (by decide) (by decide) (by decide) (fun z38 e39 B40 => ?_)
                refine pm_R_lo pm_M162 (pc' := 71) rfl rfl rfl ?_
                refine sf_R_iadd pm_M162 (pc' := 72) rfl rfl B40 B23 (by decide) (by decide) (fun z41 e42 B43 => ?_)
                have q47 := cl_in4 (n := n28) (Nat.le_trans h30 (by decide)) c35 (cl_aux4 _ _ _ _ e39 e42) B36 (by decide) (cl_c03 B23 (by decide) (by decide))
                obtain ⟨z44, ez45⟩ : ∃ y, f29 (Int32.toNatClampNeg z41) = y := ⟨_, rfl⟩
                refine pm_R_iald pm_M162 (pc' := 73) (v := z44) rfl (T.im kq34 (by decide) (by decide) eE32) (T.al kq34 (by decide)) q47.1 ez45 rfl ?_
                exact pm_R_ret pm_M162 (r := some (.int z44)) rfl (pm_ret_i _) (K z44)
              · skip
                refine pm_R_op pm_M162 (pc' := 59) (st' := [.int (-2)]) rfl rfl rfl ?_
                refine pm_R_br pm_M162 (pc' := 73) rfl rfl ?_
                exact pm_R_ret pm_M162 (r := some (.int (-2))) rfl rfl (K (-2))
          · have B48 : sf_B (-1) (-1) a1 := sf_eqL (Classical.not_not.mp c24) sf_kn1
            refine pm_R_lo pm_M162 (pc' := 30) rfl rfl rfl ?_
            refine pm_R_ifc pm_M162 (t := 41) (pc' := 33) rfl rfl rfl (fun c49 => ?_) (fun c49 => ?_)
            · have B50 : sf_B 1 2 a2 := sf_neL0 c49 sf_k0 B23
              refine pm_R_op pm_M162 (pc' := 43) (st' := [.int (-2)]) rfl rfl rfl ?_
              exact pm_R_ret pm_M162 (r := some (.int (-2))) rfl rfl (K (-2))
            · have B51 : sf_B 0 0 a2 := sf_eqL (Classical.not_not.mp c49) sf_k0
              refine pm_R_lo pm_M162 (pc' := 35) rfl rfl rfl ?_
              obtain ⟨n52, f53, h54, eE55, eE56, b57⟩ := (G.2.2.2.2.1 l16 hk18).2
              have kq58 := (G.2.2.2.2.1 l16 hk18).1
              refine pm_R_get pm_M162 (pc' := 38) (v := .int (Int32.ofNat n52)) rfl rfl (T.im hk18 (by decide) (by decide) eE55) (G.ge hk18 (by decide)) (T.al hk18 (by decide)) rfl rfl ?_
              refine pm_R_br pm_M162 (pc' := 43) rfl rfl ?_
              exact pm_R_ret pm_M162 (r := some (.int (Int32.ofNat n52))) rfl (pm_ret_i _) (K (Int32.ofNat n52))
        · have B59 : sf_B 3 2147483647 a2 := sf_ltR (Int32.not_le.mp c22) sf_k2 B21
          refine pm_R_op pm_M162 (pc' := 23) (st' := [.int (-2)]) rfl rfl rfl ?_
          exact pm_R_ret pm_M162 (r := some (.int (-2))) rfl rfl (K (-2))
    · skip
      refine pm_R_op pm_M163 (pc' := 18) (st' := [.null]) rfl rfl rfl ?_
      refine pm_R_br pm_M163 (pc' := 30) rfl rfl ?_
      refine pm_R_ret pm_M163 (r := some (.null)) rfl rfl ?_
      show pm_R _ 162 5 [.ref 16, .int a0, .int a1, .int a2, pm_no] [.null] _ _
      refine pm_R_lo pm_M162 (pc' := 7) (ls' := [.ref 16, .int a0, .int a1, .int a2, .null]) (st' := []) rfl rfl rfl ?_
      refine pm_R_lo pm_M162 (pc' := 9) rfl rfl rfl ?_
      refine pm_R_br pm_M162 (pc' := 21) rfl rfl ?_
      refine pm_R_op pm_M162 (pc' := 23) (st' := [.int (-2)]) rfl rfl rfl ?_
      exact pm_R_ret pm_M162 (r := some (.int (-2))) rfl rfl (K (-2))

set_option maxRecDepth 100000 in
set_option maxHeartbeats 4000000 in
/-- SilentTable.hears -/
theorem cl_c158 {d : Nat} {ck : cl_K} {E : Nat → pm_E} {m : Nat → Int32} {o : Nat → Option Nat} {h : pm_H} {Q : Option Value → pm_H → Prop} {a0 : Int32} {a1 : Int32} (G : cl_G ck E) (T : cl_T ck E m o h)  (K : ∀ (r : Int32), Q (some (.int r)) h) : pm_R (d + 2) 158 0 [.ref 16, .int a0, .int a1, pm_no] [] h Q := by
  refine pm_R_lo pm_M158 (pc' := 1) rfl rfl rfl ?_
  refine pm_R_lo pm_M158 (pc' := 2) rfl rfl rfl ?_
  refine pm_R_cv pm_M158 (pc' := 5) (a := 16) (ra := [.int a0]) (rest := []) (ls' := [.ref 16, .int a0]) rfl rfl (Or.inl rfl) pm_M139 T.e16 rfl (by decide) (T.lt (by decide)) rfl rfl (Nat.le_of_ble_eq_true rfl) rfl rfl ?_
  refine pm_R_lo pm_M139 (pc' := 1) rfl rfl rfl ?_
  refine pm_R_ifc pm_M139 (t := 17) (pc' := 4) rfl rfl rfl (fun c1 => ?_) (fun c1 => ?_)
  · have B2 : sf_B (-2147483648) (-1) a0 := sf_ltL c1 (sf_any a0) sf_k0
    refine pm_R_op pm_M139 (pc' := 18) (st' := [.null]) rfl rfl rfl ?_
    refine pm_R_br pm_M139 (pc' := 30) rfl rfl ?_
    refine pm_R_ret pm_M139 (r := some (.null)) rfl rfl ?_
    show pm_R _ 158 5 [.ref 16, .int a0, .int a1, pm_no] [.null] _ _
    refine pm_R_lo pm_M158 (pc' := 6) (ls' := [.ref 16, .int a0, .int a1, .null]) (st' := []) rfl rfl rfl ?_
    refine pm_R_lo pm_M158 (pc' := 7) rfl rfl rfl ?_
    refine pm_R_br pm_M158 (pc' := 10) rfl rfl ?_
    refine pm_R_op pm_M158 (pc' := 12) (st' := [.int (-2)]) rfl rfl rfl ?_
    exact pm_R_ret pm_M158 (r := some (.int (-2))) rfl rfl (K (-2))
  · have B3 : sf_B 0 2147483647 a0 := sf_leR (Int32.not_lt.mp c1) sf_k0 (sf_any a0)
    refine pm_R_lo pm_M139 (pc' := 5) rfl rfl rfl ?_
    refine pm_R_lo pm_M139 (pc' := 6) rfl rfl rfl ?_
    refine pm_R_get pm_M139 (pc' := 9) (v := .ref 17) rfl rfl T.e16 (by decide) (T.lt (by decide)) rfl rfl ?_
    refine pm_R_get pm_M139 (pc' := 12) (v := .ref 23) rfl rfl T.e17 (by decide) (T.lt (by decide)) rfl rfl ?_
    refine pm_R_op pm_M139 (pc' := 13) (st' := [.int 2, .ref 23, .int a0]) rfl rfl rfl ?_
    obtain ⟨f7, e8, b9⟩ := T.C 23 (by decide) (by decide)
    obtain ⟨z4, ez5⟩ : ∃ y, f7 (Int32.toNatClampNeg 2) = y := ⟨_, rfl⟩
    have B6 : sf_B 0 2 z4 := ez5 ▸ (b9 2)
    refine pm_R_iald pm_M139 (pc' := 14) (v := z4) rfl e8 (T.lt (by decide)) rfl ez5 rfl ?_
    refine pm_R_icmp pm_M139 (t := 21) (pc' := 17) rfl rfl rfl (fun c10 => ?_) (fun c10 => ?_)
    · have B11 : sf_B 0 1 a0 := sf_ltL c10 B3 B6
      have B12 : sf_B 1 2 z4 := sf_ltR c10 B3 B6
      refine pm_R_lo pm_M139 (pc' := 22) rfl rfl rfl ?_
      refine pm_R_get pm_M139 (pc' := 25) (v := .ref 17) rfl rfl T.e16 (by decide) (T.lt (by decide)) rfl rfl ?_
      refine pm_R_get pm_M139 (pc' := 28) (v := .ref 21) rfl rfl T.e17 (by decide) (T.lt (by decide)) rfl rfl ?_
      refine pm_R_lo pm_M139 (pc' := 29) rfl rfl rfl ?_
      obtain ⟨f13, e14, b15⟩ := T.C 21 (by decide) (by decide)
      obtain ⟨l16, hx17⟩ := cl_there2 T e8 e14 ez5 c10 B11 (by decide)
      have hk18 := b15 _ _ hx17
      refine pm_R_aald pm_M139 (pc' := 30) (v := .ref l16) rfl e14 (by decide) (by decide) (by decide) (T.lt (by decide)) (sf_in B11 (by decide) (by decide)) (by rw [hx17]; rfl) rfl ?_
      refine pm_R_ret pm_M139 (r := some (.ref l16)) rfl rfl ?_
      show pm_R _ 158 5 [.ref 16, .int a0, .int a1, pm_no] [.ref l16] _ _
      refine pm_R_lo pm_M158 (pc' := 6) (ls' := [.ref 16, .int a0, .int a1, .ref l16]) (st' := []) rfl rfl rfl ?_
      refine pm_R_lo pm_M158 (pc' := 7) rfl rfl rfl ?_
      refine pm_R_br pm_M158 (pc' := 13) rfl rfl ?_
      refine pm_R_lo pm_M158 (pc' := 14) rfl rfl rfl ?_
      refine pm_R_ifc pm_M158 (t := 22) (pc' := 17) rfl rfl rfl (fun c19 => ?_) (fun c19 => ?_)
      · skip
        refine pm_R_lo pm_M158 (pc' := 23) rfl rfl rfl ?_
        refine pm_R_op pm_M158 (pc' := 24) (st' := [.int 1, .int a1]) rfl rfl rfl ?_
        refine pm_R_icmp pm_M158 (t := 32) (pc' := 27) rfl rfl rfl (fun c20 => ?_) (fun c20 => ?_)
        · skip
          refine pm_R_lo pm_M158 (pc' := 33) rfl rfl rfl ?_
          refine pm_R_op pm_M158 (pc' := 35) (st' := [.int 10, .int a1]) rfl rfl rfl ?_
          refine pm_R_icmp pm_M158 (t := 60) (pc' := 38) rfl rfl rfl (fun c21 => ?_) (fun c21 => ?_)
          · have B22 : sf_B (-2147483648) 9 a1 := sf_ltL c21 (sf_any a1) sf_k10
            refine pm_R_op pm_M158 (pc' := 62) (st' := [.int (-2)]) rfl rfl rfl ?_
            exact pm_R_ret pm_M158 (r := some (.int (-2))) rfl rfl (K (-2))
          · have B23 : sf_B 10 2147483647 a1 := sf_leR (Int32.not_lt.mp c21) sf_k10 (sf_any a1)
            refine pm_R_lo pm_M158 (pc' := 39) rfl rfl rfl ?_
            refine pm_R_lo pm_M158 (pc' := 40) rfl rfl rfl ?_
            refine pm_R_op pm_M158 (pc' := 42) (st' := [.int 10, .int a1, .ref l16]) rfl rfl rfl ?_
            refine sf_R_isub pm_M158 (pc' := 43) rfl rfl B23 sf_k10 (by decide) (by decide) (fun z24 e25 B26 => ?_)
            obtain ⟨s27, n28, fd29, fg30, fs31, h32, h33, h34, eE35, eE36, eE37, eE38, b39⟩ := (G.2.2.2.1 l16 hk18).2.2.2
            have kq40 := G.2.2.2.1 l16 hk18
            refine pm_R_cv pm_M158 (pc' := 46) (a := l16) (ra := [.int z24]) (rest := []) (ls' := [.ref l16, .int z24]) rfl rfl (Or.inl rfl) pm_M143 (T.im hk18 (by decide) (by decide) eE35) rfl (G.ge hk18 (by decide)) (T.al hk18 (by decide)) rfl rfl (Nat.le_of_ble_eq_true rfl) rfl rfl ?_
            refine pm_R_lo pm_M143 (pc' := 1) rfl rfl rfl ?_
            refine pm_R_ifc pm_M143 (t := 16) (pc' := 4) rfl rfl rfl (fun c41 => absurd c41 (sf_nlt B26 sf_k0 (by decide))) (fun c41 => ?_)
            skip
            refine pm_R_lo pm_M143 (pc' := 5) rfl rfl rfl ?_
            refine pm_R_lo pm_M143 (pc' := 6) rfl rfl rfl ?_
            refine pm_R_get pm_M143 (pc' := 9) (v := .int (Int32.ofNat s27)) rfl rfl (T.im hk18 (by decide) (by decide) eE35) (G.ge hk18 (by decide)) (T.al hk18 (by decide)) rfl rfl ?_
            refine pm_R_icmp pm_M143 (t := 16) (pc' := 12) rfl rfl rfl (fun c42 => ?_) (fun c42 => ?_)
            · have B43 : sf_B 1 2147483637 z24 := sf_leR c42 (sf_ofB1 h33 h32 (by decide)) B26
              refine pm_R_op pm_M143 (pc' := 17) (st' := [.int 0]) rfl rfl rfl ?_
              refine pm_R_ret pm_M143 (r := some (.int 0)) rfl rfl ?_
              show pm_R _ 158 46 [.ref 16, .int a0, .int a1, .ref l16] [.int 0] _ _
              refine pm_R_br pm_M158 (pc' := 60) (st' := []) rfl rfl ?_
              refine pm_R_op pm_M158 (pc' := 62) (st' := [.int (-2)]) rfl rfl rfl ?_
              exact pm_R_ret pm_M158 (r := some (.int (-2))) rfl rfl (K (-2))
            · have B44 : sf_B 0 5 z24 := sf_ltL (Int32.not_le.mp c42) B26 (sf_ofB1 h33 h32 (by decide))
              refine pm_R_op pm_M143 (pc' := 13) (st' := [.int 1]) rfl rfl rfl ?_
              refine pm_R_br pm_M143 (pc' := 17) rfl rfl ?_
              refine pm_R_ret pm_M143 (r := some (.int 1)) rfl rfl ?_
              show pm_R _ 158 46 [.ref 16, .int a0, .int a1, .ref l16] [.int 1] _ _
              refine pm_R_br pm_M158 (pc' := 49) (st' := []) rfl rfl ?_
              refine pm_R_lo pm_M158 (pc' := 50) rfl rfl rfl ?_
              refine pm_R_lo pm_M158 (pc' := 51) rfl rfl rfl ?_
              refine pm_R_op pm_M158 (pc' := 53) (st' := [.int 10, .int a1, .ref l16]) rfl rfl rfl ?_
              refine sf_R_isubV pm_M158 (pc' := 54) rfl rfl B23 sf_k10 (by decide) (by decide) e25 ?_
              refine pm_R_cv pm_M158 (pc' := 57) (a := l16) (ra := [.int z24]) (rest := []) (ls' := [.ref l16, .int z24, pm_no, pm_no]) rfl rfl (Or.inl rfl) pm_M161 (T.im hk18 (by decide) (by decide) eE35) rfl (G.ge hk18 (by decide)) (T.al hk18 (by decide)) rfl rfl (Nat.le_of_ble_eq_true rfl) rfl rfl ?_
              refine cl_c161 (d := d + 1) G T hk18 B44 (fun r45 => ?_)
              show pm_R _ 158 57 [.ref 16, .int a0, .int a1, .ref l16] [.int r45] _ _
              refine pm_R_br pm_M158 (pc' := 62) rfl rfl ?_
              exact pm_R_ret pm_M158 (r := some (.int r45)) rfl (pm_ret_i _) (K r45)
        · have B52 : sf_B 1 1 a1 := sf_eqL (Classical.not_not.mp c20) sf_k1
          refine pm_R_lo pm_M158 (pc' := 28) rfl rfl rfl ?_
          obtain ⟨s53, n54, fd55, fg56, fs57, h58, h59, h60, eE61, eE62, eE63, eE64, b65⟩ := (G.2.2.2.1 l16 hk18).2.2.2
          have kq66 := G.2.2.2.1 l16 hk18
          refine pm_R_cv pm_M158 (pc' := 31) (a := l16) (ra := []) (rest := []) (ls' := [.ref l16, pm_no, pm_no]) rfl rfl (Or.inl rfl) pm_M160 (T.im hk18 (by decide) (by decide) eE61) rfl (G.ge hk18 (by decide)) (T.al hk18 (by decide)) rfl rfl (Nat.le_of_ble_eq_true rfl) rfl rfl ?_
          refine cl_c160 (d := d + 0) G T hk18 (fun r67 => ?_)
          show pm_R _ 158 31 [.ref 16, .int a0, .int a1, .ref l16] [.int r67] _ _
          exact pm_R_ret pm_M158 (r := some (.int r67)) rfl (pm_ret_i _) (K r67)
      · have B74 : sf_B 0 0 a1 := sf_eqL (Classical.not_not.mp c19) sf_k0
        refine pm_R_lo pm_M158 (pc' := 18) rfl rfl rfl ?_
        obtain ⟨s75, n76, fd77, fg78, fs79, h80, h81, h82, eE83, eE84, eE85, eE86, b87⟩ := (G.2.2.2.1 l16 hk18).2.2.2
        have kq88 := G.2.2.2.1 l16 hk18
        refine pm_R_cv pm_M158 (pc' := 21) (a := l16) (ra := []) (rest := []) (ls' := [.ref l16, pm_no, pm_no, pm_no, pm_no, pm_no]) rfl rfl (Or.inl rfl) pm_M159 (T.im hk18 (by decide) (by decide) eE83) rfl (G.ge hk18 (by decide)) (T.al hk18 (by decide)) rfl rfl (Nat.le_of_ble_eq_true rfl) rfl rfl ?_
        refine cl_c159 (d := d + 0) G T hk18 (fun r89 B90 => ?_)
        show pm_R _ 158 21 [.ref 16, .int a0, .int a1, .ref l16] [.int r89] _ _
        exact pm_R_ret pm_M158 (r := some (.int r89)) rfl (pm_ret_i _) (K r89)
    · skip
      refine pm_R_op pm_M139 (pc' := 18) (st' := [.null]) rfl rfl rfl ?_
      refine pm_R_br pm_M139 (pc' := 30) rfl rfl ?_
      refine pm_R_ret pm_M139 (r := some (.null)) rfl rfl ?_
      show pm_R _ 158 5 [.ref 16, .int a0, .int a1, pm_no] [.null] _ _
      refine pm_R_lo pm_M158 (pc' := 6) (ls' := [.ref 16, .int a0, .int a1, .null]) (st' := []) rfl rfl rfl ?_
      refine pm_R_lo pm_M158 (pc' := 7) rfl rfl rfl ?_
      refine pm_R_br pm_M158 (pc' := 10) rfl rfl ?_
      refine pm_R_op pm_M158 (pc' := 12) (st' := [.int (-2)]) rfl rfl rfl ?_
      exact pm_R_ret pm_M158 (r := some (.int (-2))) rfl rfl (K (-2))

set_option maxRecDepth 100000 in
set_option maxHeartbeats 4000000 in
/-- SilentTable.passed -/
theorem cl_c151 {d : Nat} {ck : cl_K} {E : Nat → pm_E} {m : Nat → Int32} {o : Nat → Option Nat} {h : pm_H} {Q : Option Value → pm_H → Prop} {a0 : Int32} {a1 : Int32} {a2 : Int32} (G : cl_G ck E) (T : cl_T ck E m o h)  (K : ∀ (r : Int32), sf_B (-1) 5 r → Q (some (.int r)) h) : pm_R (d + 4) 151 0 [.ref 16, .int a0, .int a1, .int a2] [] h Q := by
  refine pm_R_lo pm_M151 (pc' := 1) rfl rfl rfl ?_
  refine pm_R_lo pm_M151 (pc' := 2) rfl rfl rfl ?_
  refine pm_R_lo pm_M151 (pc' := 3) rfl rfl rfl ?_
  refine pm_R_lo pm_M151 (pc' := 4) rfl rfl rfl ?_
  refine pm_R_cv pm_M151 (pc' := 7) (a := 16) (ra := [.int a2, .int a1, .int a0]) (rest := []) (ls' := [.ref 16, .int a0, .int a1, .int a2, pm_no]) rfl rfl (Or.inl rfl) pm_M152 T.e16 rfl (by decide) (T.lt (by decide)) rfl rfl (Nat.le_of_ble_eq_true rfl) rfl rfl ?_
  refine pm_R_lo pm_M152 (pc' := 1) rfl rfl rfl ?_
  refine pm_R_lo pm_M152 (pc' := 2) rfl rfl rfl ?_
  refine pm_R_cv pm_M152 (pc' := 5) (a := 16) (ra := [.int a0]) (rest := []) (ls' := [.ref 16, .int a0]) rfl rfl (Or.inl rfl) pm_M139 T.e16 rfl (by decide) (T.lt (by decide)) rfl rfl (Nat.le_of_ble_eq_true rfl) rfl rfl ?_
  refine pm_R_lo pm_M139 (pc' := 1) rfl rfl rfl ?_
  refine pm_R_ifc pm_M139 (t := 17) (pc' := 4) rfl rfl rfl (fun c1 => ?_) (fun c1 => ?_)
  · have B2 : sf_B (-2147483648) (-1) a0 := sf_ltL c1 (sf_any a0) sf_k0
    refine pm_R_op pm_M139 (pc' := 18) (st' := [.null]) rfl rfl rfl ?_
    refine pm_R_br pm_M139 (pc' := 30) rfl rfl ?_
    refine pm_R_ret pm_M139 (r := some (.null)) rfl rfl ?_
    show pm_R _ 152 5 [.ref 16, .int a0, .int a1, .int a2, pm_no] [.null] _ _
    refine pm_R_lo pm_M152 (pc' := 7) (ls' := [.ref 16, .int a0, .int a1, .int a2, .null]) (st' := []) rfl rfl rfl ?_
    refine pm_R_lo pm_M152 (pc' := 9) rfl rfl rfl ?_
    refine pm_R_br pm_M152 (pc' := 35) rfl rfl ?_
    refine pm_R_op pm_M152 (pc' := 36) (st' := [.int (-1)]) rfl rfl rfl ?_
    refine pm_R_ret pm_M152 (r := some (.int (-1))) rfl rfl ?_
    show pm_R _ 151 7 [.ref 16, .int a0, .int a1, .int a2] [.int (-1)] _ _
    exact pm_R_ret pm_M151 (r := some (.int (-1))) rfl rfl (K (-1) (sf_weak sf_kn1 (by decide) (by decide)))
  · have B3 : sf_B 0 2147483647 a0 := sf_leR (Int32.not_lt.mp c1) sf_k0 (sf_any a0)
    refine pm_R_lo pm_M139 (pc' := 5) rfl rfl rfl ?_
    refine pm_R_lo pm_M139 (pc' := 6) rfl rfl rfl ?_
    refine pm_R_get pm_M139 (pc' := 9) (v := .ref 17) rfl rfl T.e16 (by decide) (T.lt (by decide)) rfl rfl ?_
    refine pm_R_get pm_M139 (pc' := 12) (v := .ref 23) rfl rfl T.e17 (by decide) (T.lt (by decide)) rfl rfl ?_
    refine pm_R_op pm_M139 (pc' := 13) (st' := [.int 2, .ref 23, .int a0]) rfl rfl rfl ?_
    obtain ⟨f7, e8, b9⟩ := T.C 23 (by decide) (by decide)
    obtain ⟨z4, ez5⟩ : ∃ y, f7 (Int32.toNatClampNeg 2) = y := ⟨_, rfl⟩
    have B6 : sf_B 0 2 z4 := ez5 ▸ (b9 2)
    refine pm_R_iald pm_M139 (pc' := 14) (v := z4) rfl e8 (T.lt (by decide)) rfl ez5 rfl ?_
    refine pm_R_icmp pm_M139 (t := 21) (pc' := 17) rfl rfl rfl (fun c10 => ?_) (fun c10 => ?_)
    · have B11 : sf_B 0 1 a0 := sf_ltL c10 B3 B6
      have B12 : sf_B 1 2 z4 := sf_ltR c10 B3 B6
      refine pm_R_lo pm_M139 (pc' := 22) rfl rfl rfl ?_
      refine pm_R_get pm_M139 (pc' := 25) (v := .ref 17) rfl rfl T.e16 (by decide) (T.lt (by decide)) rfl rfl ?_
      refine pm_R_get pm_M139 (pc' := 28) (v := .ref 21) rfl rfl T.e17 (by decide) (T.lt (by decide)) rfl rfl ?_
      refine pm_R_lo pm_M139 (pc' := 29) rfl rfl rfl ?_
      obtain ⟨f13, e14, b15⟩ := T.C 21 (by decide) (by decide)
      obtain ⟨l16, hx17⟩ := cl_there2 T e8 e14 ez5 c10 B11 (by decide)
      have hk18 := b15 _ _ hx17
      refine pm_R_aald pm_M139 (pc' := 30) (v := .ref l16) rfl e14 (by decide) (by decide) (by decide) (T.lt (by decide)) (sf_in B11 (by decide) (by decide)) (by rw [hx17]; rfl) rfl ?_
      refine pm_R_ret pm_M139 (r := some (.ref l16)) rfl rfl ?_
      show pm_R _ 152 5 [.ref 16, .int a0, .int a1, .int a2, pm_no] [.ref l16] _ _
      refine pm_R_lo pm_M152 (pc' := 7) (ls' := [.ref 16, .int a0, .int a1, .int a2, .ref l16]) (st' := []) rfl rfl rfl ?_
      refine pm_R_lo pm_M152 (pc' := 9) rfl rfl rfl ?_
      refine pm_R_br pm_M152 (pc' := 12) rfl rfl ?_
      refine pm_R_lo pm_M152 (pc' := 13) rfl rfl rfl ?_
      refine pm_R_lo pm_M152 (pc' := 14) rfl rfl rfl ?_
      refine pm_R_icmp pm_M152 (t := 35) (pc' := 17) rfl rfl rfl (fun c19 => ?_) (fun c19 => ?_)
      · refine pm_R_op pm_M152 (pc' := 36) (st' := [.int (-1)]) rfl rfl rfl ?_
        refine pm_R_ret pm_M152 (r := some (.int (-1))) rfl rfl ?_
        show pm_R _ 151 7 [.ref 16, .int a0, .int a1, .int a2] [.int (-1)] _ _
        exact pm_R_ret pm_M151 (r := some (.int (-1))) rfl rfl (K (-1) (sf_weak sf_kn1 (by decide) (by decide)))
      · skip
        refine pm_R_lo pm_M152 (pc' := 19) rfl rfl rfl ?_
        refine pm_R_lo pm_M152 (pc' := 20) rfl rfl rfl ?_
        obtain ⟨s20, n21, fd22, fg23, fs24, h25, h26, h27, eE28, eE29, eE30, eE31, b32⟩ := (G.2.2.2.1 l16 hk18).2.2.2
        have kq33 := G.2.2.2.1 l16 hk18
        refine pm_R_cv pm_M152 (pc' := 23) (a := l16) (ra := [.int a1]) (rest := []) (ls' := [.ref l16, .int a1]) rfl rfl (Or.inl rfl) pm_M143 (T.im hk18 (by decide) (by decide) eE28) rfl (G.ge hk18 (by decide)) (T.al hk18 (by decide)) rfl rfl (Nat.le_of_ble_eq_true rfl) rfl rfl ?_
        refine pm_R_lo pm_M143 (pc' := 1) rfl rfl rfl ?_
        refine pm_R_ifc pm_M143 (t := 16) (pc' := 4) rfl rfl rfl (fun c34 => ?_) (fun c34 => ?_)
        · have B35 : sf_B (-2147483648) (-1) a1 := sf_ltL c34 (sf_any a1) sf_k0
          refine pm_R_op pm_M143 (pc' := 17) (st' := [.int 0]) rfl rfl rfl ?_
          refine pm_R_ret pm_M143 (r := some (.int 0)) rfl rfl ?_
          show pm_R _ 152 23 [.ref 16, .int a0, .int a1, .int a2, .ref l16] [.int 0] _ _
          refine pm_R_br pm_M152 (pc' := 35) (st' := []) rfl rfl ?_
          refine pm_R_op pm_M152 (pc' := 36) (st' := [.int (-1)]) rfl rfl rfl ?_
          refine pm_R_ret pm_M152 (r := some (.int (-1))) rfl rfl ?_
          show pm_R _ 151 7 [.ref 16, .int a0, .int a1, .int a2] [.int (-1)] _ _
          exact pm_R_ret pm_M151 (r := some (.int (-1))) rfl rfl (K (-1) (sf_weak sf_kn1 (by decide) (by decide)))
        · have B36 : sf_B 0 2147483647 a1 := sf_leR (Int32.not_lt.mp c34) sf_k0 (sf_any a1)
          refine pm_R_lo pm_M143 (pc' := 5) rfl rfl rfl ?_
          refine pm_R_lo pm_M143 (pc' := 6) rfl rfl rfl ?_
          refine pm_R_get pm_M143 (pc' := 9) (v := .int (Int32.ofNat s20)) rfl rfl (T.im hk18 (by decide) (by decide) eE28) (G.ge hk18 (by decide)) (T.al hk18 (by decide)) rfl rfl ?_
          refine pm_R_icmp pm_M143 (t := 16) (pc' := 12) rfl rfl rfl (fun c37 => ?_) (fun c37 => ?_)
          · have B38 : sf_B 1 2147483647 a1 := sf_leR c37 (sf_ofB1 h26 h25 (by decide)) B36
            refine pm_R_op pm_M143 (pc' := 17) (st' := [.int 0]) rfl rfl rfl ?_
            refine pm_R_ret pm_M143 (r := some (.int 0)) rfl rfl ?_
            show pm_R _ 152 23 [.ref 16, .int a0, .int a1, .int a2, .ref l16] [.int 0] _ _
            refine pm_R_br pm_M152 (pc' := 35) (st' := []) rfl rfl ?_
            refine pm_R_op pm_M152 (pc' := 36) (st' := [.int (-1)]) rfl rfl rfl ?_
            refine pm_R_ret pm_M152 (r := some (.int (-1))) rfl rfl ?_
            show pm_R _ 151 7 [.ref 16, .int a0, .int a1, .int a2] [.int (-1)] _ _
            exact pm_R_ret pm_M151 (r := some (.int (-1))) rfl rfl (K (-1) (sf_weak sf_kn1 (by decide) (by decide)))
          · have B39 : sf_B 0 5 a1 := sf_ltL (Int32.not_le.mp c37) B36 (sf_ofB1 h26 h25 (by decide))
            refine pm_R_op pm_M143 (pc' := 13) (st' := [.int 1]) rfl rfl rfl ?_
            refine pm_R_br pm_M143 (pc' := 17) rfl rfl ?_
            refine pm_R_ret pm_M143 (r := some (.int 1)) rfl rfl ?_
            show pm_R _ 152 23 [.ref 16, .int a0, .int a1, .int a2, .ref l16] [.int 1] _ _
            refine pm_R_br pm_M152 (pc' := 26) (st' := []) rfl rfl ?_
            refine pm_R_lo pm_M152 (pc' := 28) rfl rfl rfl ?_
            refine pm_R_lo pm_M152 (pc' := 29) rfl rfl rfl ?_
            refine pm_R_cv pm_M152 (pc' := 32) (a := l16) (ra := [.int a2]) (rest := []) (ls' := [.ref l16, .int a2]) rfl rfl (Or.inl rfl) pm_M143 (T.im hk18 (by decide) (by decide) eE28) rfl (G.ge hk18 (by decide)) (T.al hk18 (by decide)) rfl rfl (Nat.le_of_ble_eq_true rfl) rfl rfl ?_
            refine pm_R_lo pm_M143 (pc' := 1) rfl rfl rfl ?_
            refine pm_R_ifc pm_M143 (t := 16) (pc' := 4) rfl rfl rfl (fun c40 => ?_) (fun c40 => ?_)
            · have B41 : sf_B (-2147483648) (-1) a2 := sf_ltL c40 (sf_any a2) sf_k0
              refine pm_R_op pm_M143 (pc' := 17) (st' := [.int 0]) rfl rfl rfl ?_
              refine pm_R_ret pm_M143 (r := some (.int 0)) rfl rfl ?_
              show pm_R _ 152 32 [.ref 16, .int a0, .int a1, .int a2, .ref l16] [.int 0] _ _
              refine pm_R_br pm_M152 (pc' := 35) (st' := []) rfl rfl ?_
              refine pm_R_op pm_M152 (pc' := 36) (st' := [.int (-1)]) rfl rfl rfl ?_
              refine pm_R_ret pm_M152 (r := some (.int (-1))) rfl rfl ?_
              show pm_R _ 151 7 [.ref 16, .int a0, .int a1, .int a2] [.int (-1)] _ _
              exact pm_R_ret pm_M151 (r := some (.int (-1))) rfl rfl (K (-1) (sf_weak sf_kn1 (by decide) (by decide)))
            · have B42 : sf_B 0 2147483647 a2 := sf_leR (Int32.not_lt.mp c40) sf_k0 (sf_any a2)
              refine pm_R_lo pm_M143 (pc' := 5) rfl rfl rfl ?_
              refine pm_R_lo pm_M143 (pc' := 6) rfl rfl rfl ?_
              refine pm_R_get pm_M143 (pc' := 9) (v := .int (Int32.ofNat s20)) rfl rfl (T.im hk18 (by decide) (by decide) eE28) (G.ge hk18 (by decide)) (T.al hk18 (by decide)) rfl rfl ?_
              refine pm_R_icmp pm_M143 (t := 16) (pc' := 12) rfl rfl rfl (fun c43 => ?_) (fun c43 => ?_)
              · have B44 : sf_B 1 2147483647 a2 := sf_leR c43 (sf_ofB1 h26 h25 (by decide)) B42
                refine pm_R_op pm_M143 (pc' := 17) (st' := [.int 0]) rfl rfl rfl ?_
                refine pm_R_ret pm_M143 (r := some (.int 0)) rfl rfl ?_
                show pm_R _ 152 32 [.ref 16, .int a0, .int a1, .int a2, .ref l16] [.int 0] _ _
                refine pm_R_br pm_M152 (pc' := 35) (st' := []) rfl rfl ?_
                refine pm_R_op pm_M152 (pc' := 36) (st' := [.int (-1)]) rfl rfl rfl ?_
                refine pm_R_ret pm_M152 (r := some (.int (-1))) rfl rfl ?_
                show pm_R _ 151 7 [.ref 16, .int a0, .int a1, .int a2] [.int (-1)] _ _
                exact pm_R_ret pm_M151 (r := some (.int (-1))) rfl rfl (K (-1) (sf_weak sf_kn1 (by decide) (by decide)))
              · have B45 : sf_B 0 5 a2 := sf_ltL (Int32.not_le.mp c43) B42 (sf_ofB1 h26 h25 (by decide))
                refine pm_R_op pm_M143 (pc' := 13) (st' := [.int 1]) rfl rfl rfl ?_
                refine pm_R_br pm_M143 (pc' := 17) rfl rfl ?_
                refine pm_R_ret pm_M143 (r := some (.int 1)) rfl rfl ?_
                show pm_R _ 152 32 [.ref 16, .int a0, .int a1, .int a2, .ref l16] [.int 1] _ _
                refine pm_R_br pm_M152 (pc' := 37) (st' := []) rfl rfl ?_
                refine pm_R_lo pm_M152 (pc' := 39) rfl rfl rfl ?_
                refine pm_R_lo pm_M152 (pc' := 40) rfl rfl rfl ?_
                refine pm_R_lo pm_M152 (pc' := 41) rfl rfl rfl ?_
                refine pm_R_cv pm_M152 (pc' := 44) (a := l16) (ra := [.int a2, .int a1]) (rest := []) (ls' := [.ref l16, .int a1, .int a2, pm_no, pm_no]) rfl rfl (Or.inl rfl) pm_M153 (T.im hk18 (by decide) (by decide) eE28) rfl (G.ge hk18 (by decide)) (T.al hk18 (by decide)) rfl rfl (Nat.le_of_ble_eq_true rfl) rfl rfl ?_
                refine cl_c153 (d := d + 0) G T hk18 B39 B45 (fun r46 X53 B47 => ?_)
                show pm_R _ 152 44 [.ref 16, .int a0, .int a1, .int a2, .ref l16] [.int r46] _ _
                refine pm_R_ret pm_M152 (r := some (.int r46)) rfl (pm_ret_i _) ?_
                show pm_R _ 151 7 [.ref 16, .int a0, .int a1, .int a2] [.int r46] _ _
                exact pm_R_ret pm_M151 (r := some (.int r46)) rfl (pm_ret_i _) (K r46 B47)
    · skip
      refine pm_R_op pm_M139 (pc' := 18) (st' := [.null]) rfl rfl rfl ?_
      refine pm_R_br pm_M139 (pc' := 30) rfl rfl ?_
      refine pm_R_ret pm_M139 (r := some (.null)) rfl rfl ?_
      show pm_R _ 152 5 [.ref 16, .int a0, .int a1, .int a2, pm_no] [.null] _ _
      refine pm_R_lo pm_M152 (pc' := 7) (ls' := [.ref 16, .int a0, .int a1, .int a2, .null]) (st' := []) rfl rfl rfl ?_
      refine pm_R_lo pm_M152 (pc' := 9) rfl rfl rfl ?_
      refine pm_R_br pm_M152 (pc' := 35) rfl rfl ?_
      refine pm_R_op pm_M152 (pc' := 36) (st' := [.int (-1)]) rfl rfl rfl ?_
      refine pm_R_ret pm_M152 (r := some (.int (-1))) rfl rfl ?_
      show pm_R _ 151 7 [.ref 16, .int a0, .int a1, .int a2] [.int (-1)] _ _
      exact pm_R_ret pm_M151 (r := some (.int (-1))) rfl rfl (K (-1) (sf_weak sf_kn1 (by decide) (by decide)))

set_option maxRecDepth 100000 in
set_option maxHeartbeats 4000000 in
/-- java/util/Arrays.fill -/
theorem cl_c102_32 {d : Nat} {ck : cl_K} {E : Nat → pm_E} {m : Nat → Int32} {o : Nat → Option Nat} {h : pm_H} {Q : Option Value → pm_H → Prop} {a1 : Int32} {a2 : Int32} {a3 : Int64} (G : cl_G ck E) (T : cl_T ck E m o h) (Ba1 : sf_B 0 468 a1) (Ba2 : sf_B 0 468 a2) (R : a1 ≤ a2) (K : ∀ (m' : Nat → Int32) (h' : pm_H), cl_T ck E m' o h' → cl_F ck [32] 0 0 h h' → rf_W [] m m' → Q none h') : pm_R (d + 1) 102 0 [.ref 32, .int a1, .int a2, .long a3, pm_no, pm_no] [] h Q := by
  refine pm_R_lo pm_M102 (pc' := 1) rfl rfl rfl ?_
  obtain ⟨f1, e2⟩ := T.C 32 (by decide) (by decide)
  refine pm_R_alen pm_M102 (pc' := 2) (v := 468) rfl e2 (by decide) (T.lt (by decide)) (by decide) rfl rfl ?_
  refine pm_R_lo pm_M102 (pc' := 3) rfl rfl rfl ?_
  refine pm_R_lo pm_M102 (pc' := 4) rfl rfl rfl ?_
  refine pm_R_cs pm_M102 (pc' := 7) (ra := [.int a2, .int a1, .int 468]) (rest := []) (ls' := [.int 468, .int a1, .int a2]) rfl rfl (Or.inl rfl) pm_M50 rfl rfl (Nat.le_of_ble_eq_true rfl) rfl rfl ?_
  refine pm_R_lo pm_M50 (pc' := 1) rfl rfl rfl ?_
  refine pm_R_lo pm_M50 (pc' := 2) rfl rfl rfl ?_
  refine pm_R_icmp pm_M50 (t := 46) (pc' := 5) rfl rfl rfl (fun c4 => ?_) (fun c4 => absurd (Int32.not_le.mp c4) (Int32.not_lt.mpr R))
  skip
  refine pm_R_lo pm_M50 (pc' := 47) rfl rfl rfl ?_
  refine pm_R_ifc pm_M50 (t := 59) (pc' := 50) rfl rfl rfl (fun c5 => ?_) (fun c5 => absurd (Int32.not_le.mp c5) (sf_nlt Ba1 sf_k0 (by decide)))
  skip
  refine pm_R_lo pm_M50 (pc' := 60) rfl rfl rfl ?_
  refine pm_R_lo pm_M50 (pc' := 61) rfl rfl rfl ?_
  refine pm_R_icmp pm_M50 (t := 73) (pc' := 64) rfl rfl rfl (fun c6 => ?_) (fun c6 => absurd (Int32.not_le.mp c6) (sf_nlt sf_k468 Ba2 (by decide)))
  skip
  refine pm_R_ret pm_M50 (r := none) rfl rfl ?_
  show pm_R _ 102 7 [.ref 32, .int a1, .int a2, .long a3, pm_no, pm_no] [] _ _
  refine pm_R_lo pm_M102 (pc' := 8) rfl rfl rfl ?_
  refine pm_R_lo pm_M102 (pc' := 10) (ls' := [.ref 32, .int a1, .int a2, .long a3, pm_no, .int a1]) (st' := []) rfl rfl rfl ?_
  have L_43 : ∀ (N : Nat) (h_43 : pm_H) (m_43 : Nat → Int32) (x5_43 : Int32), cl_T ck E m_43 o h_43 → cl_F ck [32] 0 0 h h_43 → rf_W [] m m_43 → sf_B 0 468 x5_43 → (468 - x5_43.toInt).toNat = N → pm_R (d + 1) 102 10 [.ref 32, .int a1, .int a2, .long a3, pm_no, .int x5_43] [] h_43 Q := by
    intro N
    induction N using Nat.strongRecOn with
    | ind N ih_43 =>
      intro h_43 m_43 x5_43 T_43 F_43 W_43 Bx5_43 hN_43
      have W46 : rf_W [] m m_43 := (rf_W.refl [] m).trans W_43 (by decide)
      refine pm_R_lo pm_M102 (pc' := 12) rfl rfl rfl ?_
      refine pm_R_lo pm_M102 (pc' := 13) rfl rfl rfl ?_
      refine pm_R_icmp pm_M102 (t := 27) (pc' := 16) rfl rfl rfl (fun c47 => ?_) (fun c47 => ?_)
      · skip
        exact pm_R_ret pm_M102 (r := none) rfl rfl (K m_43 h_43 T_43 F_43 W46)
      · have B48 : sf_B 0 467 x5_43 := sf_ltL (Int32.not_le.mp c47) Bx5_43 Ba2
        have B49 : sf_B 1 468 a2 := sf_ltR (Int32.not_le.mp c47) Bx5_43 Ba2
        refine pm_R_lo pm_M102 (pc' := 17) rfl rfl rfl ?_
        refine pm_R_lo pm_M102 (pc' := 19) rfl rfl rfl ?_
        refine pm_R_lo pm_M102 (pc' := 20) rfl rfl rfl ?_
        obtain ⟨f50, e51⟩ := T_43.C 32 (by decide) (by decide)
        refine cl_R_lst G pm_M102 T_43 (pc' := 21) rfl e51 (by decide) ⟨_, rfl⟩ (sf_in B48 (by decide) (by decide)) rfl (fun h53 T54 F55 e56 => ?_)
        have F57 := F55.cl (ck := ck) T_43.1
        have F58 := F_43.trans (N := 0) (S := 0) F57 (by decide) (by decide) (by decide)
        refine sf_R_iinc pm_M102 (pc' := 24) (ls' := fun z => [.ref 32, .int a1, .int a2, .long a3, pm_no, .int z]) rfl B48 rfl (by decide) (by decide) (by decide) (fun _ => rfl) rfl (fun z59 e60 B61 => ?_)
        show pm_R _ 102 24 [.ref 32, .int a1, .int a2, .long a3, pm_no, .int z59] [] _ _
        refine pm_R_br pm_M102 (pc' := 10) rfl rfl ?_
        exact ih_43 _ (sf_up hN_43 e60 B48 (by decide) (by decide)) h53 m_43 z59 T54 F58 W_43 (sf_weak B61 (by decide) (by decide)) rfl
  exact L_43 _ h m a1 T (cl_F.refl (ck := ck) (A := [32]) (n := 0) (s := 0) T.1) (rf_W.refl _ _) Ba1 rfl

set_option maxRecDepth 100000 in
set_option maxHeartbeats 4000000 in
/-- java/util/Arrays.fill -/
theorem cl_c71_34 {d : Nat} {ck : cl_K} {E : Nat → pm_E} {m : Nat → Int32} {o : Nat → Option Nat} {h : pm_H} {Q : Option Value → pm_H → Prop} {a1 : Int64} (G : cl_G ck E) (T : cl_T ck E m o h)  (K : ∀ (m' : Nat → Int32) (h' : pm_H), cl_T ck E m' o h' → cl_F ck [34] 0 0 h h' → rf_W [] m m' → Q none h') : pm_R (d + 0) 71 0 [.ref 34, .long a1, pm_no, pm_no, pm_no] [] h Q := by
  refine pm_R_op pm_M71 (pc' := 1) (st' := [.int 0]) rfl rfl rfl ?_
  refine pm_R_lo pm_M71 (pc' := 2) (ls' := [.ref 34, .long a1, pm_no, .int 0, pm_no]) (st' := []) rfl rfl rfl ?_
  refine pm_R_lo pm_M71 (pc' := 3) rfl rfl rfl ?_
  obtain ⟨f1, e2⟩ := T.C 34 (by decide) (by decide)
  refine pm_R_alen pm_M71 (pc' := 4) (v := 468) rfl e2 (by decide) (T.lt (by decide)) (by decide) rfl rfl ?_
  refine pm_R_lo pm_M71 (pc' := 6) (ls' := [.ref 34, .long a1, pm_no, .int 0, .int 468]) (st' := []) rfl rfl rfl ?_
  have L_88 : ∀ (N : Nat) (h_88 : pm_H) (m_88 : Nat → Int32) (x3_88 : Int32), cl_T ck E m_88 o h_88 → cl_F ck [34] 0 0 h h_88 → rf_W [] m m_88 → sf_B 0 468 x3_88 → (468 - x3_88.toInt).toNat = N → pm_R (d + 0) 71 6 [.ref 34, .long a1, pm_no, .int x3_88, .int 468] [] h_88 Q := by
    intro N
    induction N using Nat.strongRecOn with
    | ind N ih_88 =>
      intro h_88 m_88 x3_88 T_88 F_88 W_88 Bx3_88 hN_88
      have W91 : rf_W [] m m_88 := (rf_W.refl [] m).trans W_88 (by decide)
      refine pm_R_lo pm_M71 (pc' := 7) rfl rfl rfl ?_
      refine pm_R_lo pm_M71 (pc' := 9) rfl rfl rfl ?_
      refine pm_R_icmp pm_M71 (t := 22) (pc' := 12) rfl rfl rfl (fun c92 => ?_) (fun c92 => ?_)
      · have B93 : sf_B 468 468 x3_88 := sf_leR c92 sf_k468 Bx3_88
        exact pm_R_ret pm_M71 (r := none) rfl rfl (K m_88 h_88 T_88 F_88 W91)
      · have B94 : sf_B 0 467 x3_88 := sf_ltL (Int32.not_le.mp c92) Bx3_88 sf_k468
        refine pm_R_lo pm_M71 (pc' := 13) rfl rfl rfl ?_
        refine pm_R_lo pm_M71 (pc' := 14) rfl rfl rfl ?_
        refine pm_R_lo pm_M71 (pc' := 15) rfl rfl rfl ?_
        obtain ⟨f95, e96⟩ := T_88.C 34 (by decide) (by decide)
        refine cl_R_lst G pm_M71 T_88 (pc' := 16) rfl e96 (by decide) ⟨_, rfl⟩ (sf_in B94 (by decide) (by decide)) rfl (fun h98 T99 F100 e101 => ?_)
        have F102 := F100.cl (ck := ck) T_88.1
        have F103 := F_88.trans (N := 0) (S := 0) F102 (by decide) (by decide) (by decide)
        refine sf_R_iinc pm_M71 (pc' := 19) (ls' := fun z => [.ref 34, .long a1, pm_no, .int z, .int 468]) rfl B94 rfl (by decide) (by decide) (by decide) (fun _ => rfl) rfl (fun z104 e105 B106 => ?_)
        show pm_R _ 71 19 [.ref 34, .long a1, pm_no, .int z104, .int 468] [] _ _
        refine pm_R_br pm_M71 (pc' := 6) rfl rfl ?_
        exact ih_88 _ (sf_up hN_88 e105 B94 (by decide) (by decide)) h98 m_88 z104 T99 F103 W_88 (sf_weak B106 (by decide) (by decide)) rfl
  exact L_88 _ h m 0 T (cl_F.refl (ck := ck) (A := [34]) (n := 0) (s := 0) T.1) (rf_W.refl _ _) (sf_weak sf_k0 (by decide) (by decide)) rfl

set_option maxRecDepth 100000 in
set_option maxHeartbeats 4000000 in
/-- java/util/Arrays.fill -/
theorem cl_c13_36 {d : Nat} {ck : cl_K} {E : Nat → pm_E} {m : Nat → Int32} {o : Nat → Option Nat} {h : pm_H} {Q : Option Value → pm_H → Prop} {a1 : Int32} (G : cl_G ck E) (T : cl_T ck E m o h)  (K : ∀ (m' : Nat → Int32) (h' : pm_H), cl_T ck E m' o h' → cl_F ck [36] 0 0 h h' → rf_W [] m m' → Q none h') : pm_R (d + 0) 13 0 [.ref 36, .int a1, pm_no, pm_no] [] h Q := by
  refine pm_R_op pm_M13 (pc' := 1) (st' := [.int 0]) rfl rfl rfl ?_
  refine pm_R_lo pm_M13 (pc' := 2) (ls' := [.ref 36, .int a1, .int 0, pm_no]) (st' := []) rfl rfl rfl ?_
  refine pm_R_lo pm_M13 (pc' := 3) rfl rfl rfl ?_
  obtain ⟨f1, e2⟩ := T.C 36 (by decide) (by decide)
  refine pm_R_alen pm_M13 (pc' := 4) (v := 78) rfl e2 (by decide) (T.lt (by decide)) (by decide) rfl rfl ?_
  refine pm_R_lo pm_M13 (pc' := 5) (ls' := [.ref 36, .int a1, .int 0, .int 78]) (st' := []) rfl rfl rfl ?_
  have L_88 : ∀ (N : Nat) (h_88 : pm_H) (m_88 : Nat → Int32) (x2_88 : Int32), cl_T ck E m_88 o h_88 → cl_F ck [36] 0 0 h h_88 → rf_W [] m m_88 → sf_B 0 78 x2_88 → (78 - x2_88.toInt).toNat = N → pm_R (d + 0) 13 5 [.ref 36, .int a1, .int x2_88, .int 78] [] h_88 Q := by
    intro N
    induction N using Nat.strongRecOn with
    | ind N ih_88 =>
      intro h_88 m_88 x2_88 T_88 F_88 W_88 Bx2_88 hN_88
      have W91 : rf_W [] m m_88 := (rf_W.refl [] m).trans W_88 (by decide)
      refine pm_R_lo pm_M13 (pc' := 6) rfl rfl rfl ?_
      refine pm_R_lo pm_M13 (pc' := 7) rfl rfl rfl ?_
      refine pm_R_icmp pm_M13 (t := 20) (pc' := 10) rfl rfl rfl (fun c92 => ?_) (fun c92 => ?_)
      · have B93 : sf_B 78 78 x2_88 := sf_leR c92 sf_k78 Bx2_88
        exact pm_R_ret pm_M13 (r := none) rfl rfl (K m_88 h_88 T_88 F_88 W91)
      · have B94 : sf_B 0 77 x2_88 := sf_ltL (Int32.not_le.mp c92) Bx2_88 sf_k78
        refine pm_R_lo pm_M13 (pc' := 11) rfl rfl rfl ?_
        refine pm_R_lo pm_M13 (pc' := 12) rfl rfl rfl ?_
        refine pm_R_lo pm_M13 (pc' := 13) rfl rfl rfl ?_
        obtain ⟨f95, e96⟩ := T_88.C 36 (by decide) (by decide)
        refine cl_R_ist G pm_M13 T_88 (pc' := 14) rfl e96 (by decide) ⟨_, rfl⟩ (sf_in B94 (by decide) (by decide)) rfl (fun h98 T99 F100 e101 => ?_)
        have F102 := F100.cl (ck := ck) T_88.1
        have F103 := F_88.trans (N := 0) (S := 0) F102 (by decide) (by decide) (by decide)
        refine sf_R_iinc pm_M13 (pc' := 17) (ls' := fun z => [.ref 36, .int a1, .int z, .int 78]) rfl B94 rfl (by decide) (by decide) (by decide) (fun _ => rfl) rfl (fun z104 e105 B106 => ?_)
        show pm_R _ 13 17 [.ref 36, .int a1, .int z104, .int 78] [] _ _
        refine pm_R_br pm_M13 (pc' := 5) rfl rfl ?_
        exact ih_88 _ (sf_up hN_88 e105 B94 (by decide) (by decide)) h98 m_88 z104 T99 F103 W_88 (sf_weak B106 (by decide) (by decide)) rfl
  exact L_88 _ h m 0 T (cl_F.refl (ck := ck) (A := [36]) (n := 0) (s := 0) T.1) (rf_W.refl _ _) (sf_weak sf_k0 (by decide) (by decide)) rfl

theorem cl_aux8 (v0 v1 v2 v3 v4 : Int) (q0 : v0 = v1 + v2) (q1 : v3 = v0 * 6) (q2 : v4 = v3 + 6) (q3 : 0 ≤ v1) (q4 : v1 ≤ 66) (q5 : 0 ≤ v2) (q6 : v2 ≤ 11) : v3 ≤ v4 := by omega
set_option maxRecDepth 100000 in
set_option maxHeartbeats 4000000 in
/-- SilentTable$MeaningChart.fillSign -/
theorem cl_c101 {d : Nat} {ck : cl_K} {E : Nat → pm_E} {m : Nat → Int32} {o : Nat → Option Nat} {h : pm_H} {Q : Option Value → pm_H → Prop} {a0 : Nat} {a1 : Int32} {a2 : Int32} (G : cl_G ck E) (T : cl_T ck E m o h) (hk0 : ck a0 = 1) (Ba2 : sf_B 0 11 a2) (K : ∀ (m' : Nat → Int32) (h' : pm_H), cl_T ck E m' o h' → cl_F ck [32] 0 0 h h' → rf_W [] m m' → Q none h') : pm_R (d + 2) 101 0 [.ref 31, .ref a0, .int a1, .int a2, pm_no, pm_no, pm_no] [] h Q := by
  refine pm_R_lo pm_M101 (pc' := 1) rfl rfl rfl ?_
  refine pm_R_lo pm_M101 (pc' := 2) rfl rfl rfl ?_
  refine pm_R_cs pm_M101 (pc' := 5) (ra := [.int a2, .int a2]) (rest := []) (ls' := [.int a2, .int a2]) rfl rfl (Or.inr rfl) pm_M73 rfl rfl (Nat.le_of_ble_eq_true rfl) rfl rfl ?_
  refine pm_R_lo pm_M73 (pc' := 1) rfl rfl rfl ?_
  refine pm_R_lo pm_M73 (pc' := 2) rfl rfl rfl ?_
  refine pm_R_op pm_M73 (pc' := 3) (st' := [.int 1, .int a2, .int a2]) rfl rfl rfl ?_
  refine sf_R_iadd pm_M73 (pc' := 4) rfl rfl Ba2 sf_k1 (by decide) (by decide) (fun z1 e2 B3 => ?_)
  refine sf_R_imul pm_M73 (pc' := 5) rfl rfl Ba2 B3 (by decide) (by decide) (by decide) (fun z4 e5 B6 => ?_)
  refine pm_R_op pm_M73 (pc' := 6) (st' := [.int 2, .int z4]) rfl rfl rfl ?_
  refine sf_R_idiv pm_M73 (pc' := 7) rfl rfl B6 sf_k2 (by decide) (by decide) (fun z7 e8 B9 => ?_)
  refine pm_R_lo pm_M73 (pc' := 8) rfl rfl rfl ?_
  refine sf_R_iadd pm_M73 (pc' := 9) rfl rfl B9 Ba2 (by decide) (by decide) (fun z10 e11 B12 => ?_)
  refine pm_R_ret pm_M73 (r := some (.int z10)) rfl (pm_ret_i _) ?_
  show pm_R _ 101 5 [.ref 31, .ref a0, .int a1, .int a2, pm_no, pm_no, pm_no] [.int z10] _ _
  refine pm_R_op pm_M101 (pc' := 7) (st' := [.int 6, .int z10]) rfl rfl rfl ?_
  refine sf_R_imul pm_M101 (pc' := 8) rfl rfl B12 sf_k6 (by decide) (by decide) (by decide) (fun z13 e14 B15 => ?_)
  refine pm_R_lo pm_M101 (pc' := 10) (ls' := [.ref 31, .ref a0, .int a1, .int a2, .int z13, pm_no, pm_no]) (st' := []) rfl rfl rfl ?_
  refine pm_R_lo pm_M101 (pc' := 11) rfl rfl rfl ?_
  refine pm_R_get pm_M101 (pc' := 14) (v := .ref 32) rfl rfl T.e31 (by decide) (T.lt (by decide)) rfl rfl ?_
  refine pm_R_lo pm_M101 (pc' := 16) rfl rfl rfl ?_
  refine pm_R_lo pm_M101 (pc' := 18) rfl rfl rfl ?_
  refine pm_R_op pm_M101 (pc' := 20) (st' := [.int 6, .int z13, .int z13, .ref 32]) rfl rfl rfl ?_
  refine sf_R_iadd pm_M101 (pc' := 21) rfl rfl B15 sf_k6 (by decide) (by decide) (fun z16 e17 B18 => ?_)
  refine pm_R_op pm_M101 (pc' := 22) (st' := [.long 0, .int z16, .int z13, .ref 32]) rfl rfl rfl ?_
  refine pm_R_cs pm_M101 (pc' := 25) (ra := [.long 0, .int z16, .int z13, .ref 32]) (rest := []) (ls' := [.ref 32, .int z13, .int z16, .long 0, pm_no, pm_no]) rfl rfl (Or.inl rfl) pm_M102 rfl rfl (Nat.le_of_ble_eq_true rfl) rfl rfl ?_
  refine cl_c102_32 (d := d + 0) G T (sf_weak B15 (by decide) (by decide)) (sf_weak B18 (by decide) (by decide)) (Int32.le_iff_toInt_le.mpr (cl_aux8 _ _ _ _ _ e11 e14 e17 B9.1 B9.2 Ba2.1 Ba2.2)) (fun m21 h22 T23 F24 W25 => ?_)
  have F26 := (cl_F.refl (ck := ck) (A := [32]) (n := 0) (s := 0) T.1).trans (N := 0) (S := 0) F24 (by decide) (by decide) (by decide)
  have W27 : rf_W [] m m21 := (rf_W.refl [] m).trans W25 (by decide)
  show pm_R _ 101 25 [.ref 31, .ref a0, .int a1, .int a2, .int z13, pm_no, pm_no] [] _ _
  refine pm_R_op pm_M101 (pc' := 26) (st' := [.int 0]) rfl rfl rfl ?_
  refine pm_R_lo pm_M101 (pc' := 28) (ls' := [.ref 31, .ref a0, .int a1, .int a2, .int z13, .int 0, pm_no]) (st' := []) rfl rfl rfl ?_
  have L_1497 : ∀ (N : Nat) (h_1497 : pm_H) (m_1497 : Nat → Int32) (x5_1497 : Int32) (g6_1497 : Value), cl_T ck E m_1497 o h_1497 → cl_F ck [32] 0 0 h h_1497 → rf_W [] m21 m_1497 → sf_B 0 10 x5_1497 → g6_1497.category = 1 → (10 - x5_1497.toInt).toNat = N → pm_R (d + 2) 101 28 [.ref 31, .ref a0, .int a1, .int a2, .int z13, .int x5_1497, g6_1497] [] h_1497 Q := by
    intro N
    induction N using Nat.strongRecOn with
    | ind N ih_1497 =>
      intro h_1497 m_1497 x5_1497 g6_1497 T_1497 F_1497 W_1497 Bx5_1497 Cg6_1497 hN_1497
      have W1500 : rf_W [] m m_1497 := W27.trans W_1497 (by decide)
      refine pm_R_lo pm_M101 (pc' := 30) rfl rfl rfl ?_
      refine pm_R_op pm_M101 (pc' := 32) (st' := [.int 10, .int x5_1497]) rfl rfl rfl ?_
      refine pm_R_icmp pm_M101 (t := 92) (pc' := 35) rfl rfl rfl (fun c1501 => ?_) (fun c1501 => ?_)
      · have B1502 : sf_B 10 10 x5_1497 := sf_leR c1501 sf_k10 Bx5_1497
        exact pm_R_ret pm_M101 (r := none) rfl rfl (K m_1497 h_1497 T_1497 F_1497 W1500)
      · have B1503 : sf_B 0 9 x5_1497 := sf_ltL (Int32.not_le.mp c1501) Bx5_1497 sf_k10
        refine pm_R_lo pm_M101 (pc' := 36) rfl rfl rfl ?_
        refine pm_R_lo pm_M101 (pc' := 38) rfl rfl rfl ?_
        refine sf_R_iany pm_M101 (pc' := 39) (st := []) rfl rfl rfl (fun z1507 => ?_)
        refine pm_R_op pm_M101 (pc' := 40) (st' := [.int 1, .int z1507]) rfl rfl rfl ?_
        refine sf_R_iandE pm_M101 (pc' := 41) rfl rfl sf_k1 (by decide) (fun z1508 e1509 B1510 => ?_)
        refine pm_R_ifc pm_M101 (t := 86) (pc' := 44) rfl rfl rfl (fun c1511 => ?_) (fun c1511 => ?_)
        · have B1512 : sf_B 0 0 z1508 := sf_eqL c1511 sf_k0
          refine sf_R_iinc pm_M101 (pc' := 89) (ls' := fun z => [.ref 31, .ref a0, .int a1, .int a2, .int z13, .int z, g6_1497]) rfl B1503 rfl (by decide) (by decide) (by decide) (fun _ => rfl) rfl (fun z1513 e1514 B1515 => ?_)
          show pm_R _ 101 89 [.ref 31, .ref a0, .int a1, .int a2, .int z13, .int z1513, g6_1497] [] _ _
          refine pm_R_br pm_M101 (pc' := 28) rfl rfl ?_
          exact ih_1497 _ (sf_up hN_1497 e1514 B1503 (by decide) (by decide)) h_1497 m_1497 z1513 (g6_1497) T_1497 F_1497 W_1497 (sf_weak B1515 (by decide) (by decide)) Cg6_1497 rfl
        · have B1516 : sf_B 1 1 z1508 := sf_neL0 c1511 sf_k0 B1510
          refine pm_R_op pm_M101 (pc' := 45) (st' := [.int 0]) rfl rfl rfl ?_
          refine pm_R_lo pm_M101 (pc' := 47) (ls' := [.ref 31, .ref a0, .int a1, .int a2, .int z13, .int x5_1497, .int 0]) (st' := []) rfl rfl rfl ?_
          have L_1792 : ∀ (N : Nat) (h_1792 : pm_H) (m_1792 : Nat → Int32) (x6_1792 : Int32), cl_T ck E m_1792 o h_1792 → cl_F ck [32] 0 0 h h_1792 → rf_W [] m_1497 m_1792 → sf_B 0 6 x6_1792 → (6 - x6_1792.toInt).toNat = N → pm_R (d + 2) 101 47 [.ref 31, .ref a0, .int a1, .int a2, .int z13, .int x5_1497, .int x6_1792] [] h_1792 Q := by
            intro N
            induction N using Nat.strongRecOn with
            | ind N ih_1792 =>
              intro h_1792 m_1792 x6_1792 T_1792 F_1792 W_1792 Bx6_1792 hN_1792
              have W1795 : rf_W [] m m_1792 := W1500.trans W_1792 (by decide)
              have W1796 : rf_W [] m21 m_1792 := W_1497.trans W_1792 (by decide)
              refine pm_R_lo pm_M101 (pc' := 49) rfl rfl rfl ?_
              refine pm_R_op pm_M101 (pc' := 51) (st' := [.int 6, .int x6_1792]) rfl rfl rfl ?_
              refine pm_R_icmp pm_M101 (t := 86) (pc' := 54) rfl rfl rfl (fun c1797 => ?_) (fun c1797 => ?_)
              · have B1798 : sf_B 6 6 x6_1792 := sf_leR c1797 sf_k6 Bx6_1792
                refine sf_R_iinc pm_M101 (pc' := 89) (ls' := fun z => [.ref 31, .ref a0, .int a1, .int a2, .int z13, .int z, .int x6_1792]) rfl B1503 rfl (by decide) (by decide) (by decide) (fun _ => rfl) rfl (fun z1799 e1800 B1801 => ?_)
                show pm_R _ 101 89 [.ref 31, .ref a0, .int a1, .int a2, .int z13, .int z1799, .int x6_1792] [] _ _
                refine pm_R_br pm_M101 (pc' := 28) rfl rfl ?_
                exact ih_1497 _ (sf_up hN_1497 e1800 B1503 (by decide) (by decide)) h_1792 m_1792 z1799 (.int x6_1792) T_1792 F_1792 W1796 (sf_weak B1801 (by decide) (by decide)) rfl rfl
              · have B1802 : sf_B 0 5 x6_1792 := sf_ltL (Int32.not_le.mp c1797) Bx6_1792 sf_k6
                refine pm_R_lo pm_M101 (pc' := 55) rfl rfl rfl ?_
                refine pm_R_get pm_M101 (pc' := 58) (v := .ref 32) rfl rfl T_1792.e31 (by decide) (T_1792.lt (by decide)) rfl rfl ?_
                refine pm_R_lo pm_M101 (pc' := 60) rfl rfl rfl ?_
                refine pm_R_lo pm_M101 (pc' := 62) rfl rfl rfl ?_
                refine sf_R_iadd pm_M101 (pc' := 63) rfl rfl B15 B1802 (by decide) (by decide) (fun z1803 e1804 B1805 => ?_)
                refine pm_R_op pm_M101 (pc' := 64) (st' := [.int z1803, .ref 32, .int z1803, .ref 32]) rfl rfl rfl ?_
                obtain ⟨f1809, e1810⟩ := T_1792.C 32 (by decide) (by decide)
                obtain ⟨z1806, ez1807⟩ : ∃ y, f1809 (Int32.toNatClampNeg z1803) = y := ⟨_, rfl⟩
                refine pm_R_lald pm_M101 (pc' := 65) (v := z1806) rfl e1810 (by decide) (T_1792.lt (by decide)) (sf_in B1805 (by decide) (by decide)) ez1807 rfl ?_
                refine pm_R_lo pm_M101 (pc' := 66) rfl rfl rfl ?_
                obtain ⟨rc1812, tc1813, rs1814, fv1815, fw1816, fr1817, ft1818, fn1819, h1820, h1821, B1822, eE1823, eE1824, eE1825, eE1826, eE1827, eE1828, b1829, b1830, b1831⟩ := (G.2.1 a0 hk0).2.2.2.2.2
                have kq1832 := G.2.1 a0 hk0
                refine pm_R_get pm_M101 (pc' := 69) (v := .ref (a0 + 1)) rfl rfl (T_1792.im hk0 (by decide) (by decide) eE1823) (G.ge hk0 (by decide)) (T_1792.al hk0 (by decide)) rfl rfl ?_
                refine pm_R_lo pm_M101 (pc' := 71) rfl rfl rfl ?_
                refine pm_R_op pm_M101 (pc' := 73) (st' := [.int 6, .int x5_1497, .ref (a0 + 1), .long z1806, .int z1803, .ref 32]) rfl rfl rfl ?_
                refine sf_R_imul pm_M101 (pc' := 74) rfl rfl B1503 sf_k6 (by decide) (by decide) (by decide) (fun z1833 e1834 B1835 => ?_)
                refine pm_R_lo pm_M101 (pc' := 76) rfl rfl rfl ?_
                refine sf_R_iadd pm_M101 (pc' := 77) rfl rfl B1835 B1802 (by decide) (by decide) (fun z1836 e1837 B1838 => ?_)
                obtain ⟨z1839, ez1840⟩ : ∃ y, fv1815 (Int32.toNatClampNeg z1836) = y := ⟨_, rfl⟩
                refine pm_R_lald pm_M101 (pc' := 78) (v := z1839) rfl (T_1792.im kq1832.1 (by decide) (by decide) eE1824) (G.ge kq1832.1 (by decide)) (T_1792.al kq1832.1 (by decide)) (sf_in B1838 (by decide) (by decide)) ez1840 rfl ?_
                refine sf_R_lany pm_M101 (pc' := 79) (st := [.int z1803, .ref 32]) rfl rfl rfl (fun z1842 => ?_)
                refine cl_R_lst G pm_M101 T_1792 (pc' := 80) rfl e1810 (by decide) ⟨_, rfl⟩ (sf_in B1805 (by decide) (by decide)) rfl (fun h1843 T1844 F1845 e1846 => ?_)
                have F1847 := F1845.cl (ck := ck) T_1792.1
                have F1848 := F_1792.trans (N := 0) (S := 0) F1847 (by decide) (by decide) (by decide)
                refine sf_R_iinc pm_M101 (pc' := 83) (ls' := fun z => [.ref 31, .ref a0, .int a1, .int a2, .int z13, .int x5_1497, .int z]) rfl B1802 rfl (by decide) (by decide) (by decide) (fun _ => rfl) rfl (fun z1849 e1850 B1851 => ?_)
                show pm_R _ 101 83 [.ref 31, .ref a0, .int a1, .int a2, .int z13, .int x5_1497, .int z1849] [] _ _
                refine pm_R_br pm_M101 (pc' := 47) rfl rfl ?_
                exact ih_1792 _ (sf_up hN_1792 e1850 B1802 (by decide) (by decide)) h1843 m_1792 z1849 T1844 F1848 W_1792 (sf_weak B1851 (by decide) (by decide)) rfl
          exact L_1792 _ h_1497 m_1497 0 T_1497 F_1497 (rf_W.refl _ _) (sf_weak sf_k0 (by decide) (by decide)) rfl
  exact L_1497 _ h22 m21 0 (pm_no) T23 F26 (rf_W.refl _ _) (sf_weak sf_k0 (by decide) (by decide)) rfl rfl

theorem cl_aux9 (v0 v1 v2 : Int) (q0 : v0 = v1 * 4) (q1 : v2 = v0 + 3) : v2 = 4 * v1 + 3 := by omega
set_option maxRecDepth 100000 in
set_option maxHeartbeats 4000000 in
/-- SilentTable$MeaningChart.fillPart -/
theorem cl_c103 {d : Nat} {ck : cl_K} {E : Nat → pm_E} {m : Nat → Int32} {o : Nat → Option Nat} {h : pm_H} {Q : Option Value → pm_H → Prop} {a0 : Nat} {a1 : Int32} {a2 : Int32} (G : cl_G ck E) (T : cl_T ck E m o h) (hk0 : ck a0 = 1) (Ba1 : sf_B 0 11 a1) (Ba2 : sf_B 0 11 a2) (K : ∀ (m' : Nat → Int32) (h' : pm_H), cl_T ck E m' o h' → cl_F ck [32] 0 0 h h' → rf_W [] m m' → Q none h') : pm_R (d + 2) 103 0 [.ref 31, .ref a0, .int a1, .int a2, pm_no, pm_no, pm_no, pm_no, pm_no, pm_no, pm_no, pm_no, pm_no, pm_no] [] h Q := by
  refine pm_R_lo pm_M103 (pc' := 1) rfl rfl rfl ?_
  refine pm_R_lo pm_M103 (pc' := 2) rfl rfl rfl ?_
  refine pm_R_cs pm_M103 (pc' := 5) (ra := [.int a2, .int a1]) (rest := []) (ls' := [.int a1, .int a2]) rfl rfl (Or.inr rfl) pm_M73 rfl rfl (Nat.le_of_ble_eq_true rfl) rfl rfl ?_
  refine pm_R_lo pm_M73 (pc' := 1) rfl rfl rfl ?_
  refine pm_R_lo pm_M73 (pc' := 2) rfl rfl rfl ?_
  refine pm_R_op pm_M73 (pc' := 3) (st' := [.int 1, .int a2, .int a2]) rfl rfl rfl ?_
  refine sf_R_iadd pm_M73 (pc' := 4) rfl rfl Ba2 sf_k1 (by decide) (by decide) (fun z1 e2 B3 => ?_)
  refine sf_R_imul pm_M73 (pc' := 5) rfl rfl Ba2 B3 (by decide) (by decide) (by decide) (fun z4 e5 B6 => ?_)
  refine pm_R_op pm_M73 (pc' := 6) (st' := [.int 2, .int z4]) rfl rfl rfl ?_
  refine sf_R_idiv pm_M73 (pc' := 7) rfl rfl B6 sf_k2 (by decide) (by decide) (fun z7 e8 B9 => ?_)
  refine pm_R_lo pm_M73 (pc' := 8) rfl rfl rfl ?_
  refine sf_R_iadd pm_M73 (pc' := 9) rfl rfl B9 Ba1 (by decide) (by decide) (fun z10 e11 B12 => ?_)
  refine pm_R_ret pm_M73 (r := some (.int z10)) rfl (pm_ret_i _) ?_
  show pm_R _ 103 5 [.ref 31, .ref a0, .int a1, .int a2, pm_no, pm_no, pm_no, pm_no, pm_no, pm_no, pm_no, pm_no, pm_no, pm_no] [.int z10] _ _
  refine pm_R_op pm_M103 (pc' := 7) (st' := [.int 6, .int z10]) rfl rfl rfl ?_
  refine sf_R_imul pm_M103 (pc' := 8) rfl rfl B12 sf_k6 (by decide) (by decide) (by decide) (fun z13 e14 B15 => ?_)
  refine pm_R_lo pm_M103 (pc' := 10) (ls' := [.ref 31, .ref a0, .int a1, .int a2, .int z13, pm_no, pm_no, pm_no, pm_no, pm_no, pm_no, pm_no, pm_no, pm_no]) (st' := []) rfl rfl rfl ?_
  refine pm_R_lo pm_M103 (pc' := 11) rfl rfl rfl ?_
  refine pm_R_get pm_M103 (pc' := 14) (v := .ref 32) rfl rfl T.e31 (by decide) (T.lt (by decide)) rfl rfl ?_
  refine pm_R_lo pm_M103 (pc' := 16) rfl rfl rfl ?_
  refine pm_R_lo pm_M103 (pc' := 18) rfl rfl rfl ?_
  refine pm_R_op pm_M103 (pc' := 20) (st' := [.int 6, .int z13, .int z13, .ref 32]) rfl rfl rfl ?_
  refine sf_R_iadd pm_M103 (pc' := 21) rfl rfl B15 sf_k6 (by decide) (by decide) (fun z16 e17 B18 => ?_)
  refine pm_R_op pm_M103 (pc' := 22) (st' := [.long 0, .int z16, .int z13, .ref 32]) rfl rfl rfl ?_
  refine pm_R_cs pm_M103 (pc' := 25) (ra := [.long 0, .int z16, .int z13, .ref 32]) (rest := []) (ls' := [.ref 32, .int z13, .int z16, .long 0, pm_no, pm_no]) rfl rfl (Or.inl rfl) pm_M102 rfl rfl (Nat.le_of_ble_eq_true rfl) rfl rfl ?_
  refine cl_c102_32 (d := d + 0) G T (sf_weak B15 (by decide) (by decide)) (sf_weak B18 (by decide) (by decide)) (Int32.le_iff_toInt_le.mpr (cl_aux8 _ _ _ _ _ e11 e14 e17 B9.1 B9.2 Ba1.1 Ba1.2)) (fun m21 h22 T23 F24 W25 => ?_)
  have F26 := (cl_F.refl (ck := ck) (A := [32]) (n := 0) (s := 0) T.1).trans (N := 0) (S := 0) F24 (by decide) (by decide) (by decide)
  have W27 : rf_W [] m m21 := (rf_W.refl [] m).trans W25 (by decide)
  show pm_R _ 103 25 [.ref 31, .ref a0, .int a1, .int a2, .int z13, pm_no, pm_no, pm_no, pm_no, pm_no, pm_no, pm_no, pm_no, pm_no] [] _ _
  refine pm_R_lo pm_M103 (pc' := 26) rfl rfl rfl ?_
  refine pm_R_lo pm_M103 (pc' := 28) (ls' := [.ref 31, .ref a0, .int a1, .int a2, .int z13, .int a1, pm_no, pm_no, pm_no, pm_no, pm_no, pm_no, pm_no, pm_no]) (st' := []) rfl rfl rfl ?_
  have L_2774 : ∀ (N : Nat) (h_2774 : pm_H) (m_2774 : Nat → Int32) (x5_2774 : Int32) (g6_2774 : Value) (g7_2774 : Value) (g8_2774 : Value) (g9_2774 : Value) (g10_2774 : Value) (g11_2774 : Value) (g12_2774 : Value) (g13_2774 : Value), cl_T ck E m_2774 o h_2774 → cl_F ck [32] 0 0 h h_2774 → rf_W [] m21 m_2774 → sf_B 0 11 x5_2774 → g6_2774.category = 1 → g7_2774.category = 1 → g8_2774.category = 1 → g10_2774.category = 1 → g12_2774.category = 1 → g13_2774.category = 1 → (11 - x5_2774.toInt).toNat = N → pm_R (d + 2) 103 28 [.ref 31, .ref a0, .int a1, .int a2, .int z13, .int x5_2774, g6_2774, g7_2774, g8_2774, g9_2774, g10_2774, g11_2774, g12_2774, g13_2774] [] h_2774 Q := by
    intro N
    induction N using Nat.strongRecOn with
    | ind N ih_2774 =>
      intro h_2774 m_2774 x5_2774 g6_2774 g7_2774 g8_2774 g9_2774 g10_2774 g11_2774 g12_2774 g13_2774 T_2774 F_2774 W_2774 Bx5_2774 Cg6_2774 Cg7_2774 Cg8_2774 Cg10_2774 Cg12_2774 Cg13_2774 hN_2774
      have W2777 : rf_W [] m m_2774 := W27.trans W_2774 (by decide)
      refine pm_R_lo pm_M103 (pc' := 30) rfl rfl rfl ?_
      refine pm_R_lo pm_M103 (pc' := 31) rfl rfl rfl ?_
      refine pm_R_icmp pm_M103 (t := 194) (pc' := 34) rfl rfl rfl (fun c2778 => ?_) (fun c2778 => ?_)
      · skip
        exact pm_R_ret pm_M103 (r := none) (pm_q103_1 (Nat.le_of_ble_eq_true rfl)) rfl (K m_2774 h_2774 T_2774 F_2774 W2777)
      · have B2779 : sf_B 0 10 x5_2774 := sf_ltL (Int32.not_le.mp c2778) Bx5_2774 Ba2
        have B2780 : sf_B 1 11 a2 := sf_ltR (Int32.not_le.mp c2778) Bx5_2774 Ba2
        refine pm_R_lo pm_M103 (pc' := 35) rfl rfl rfl ?_
        refine pm_R_lo pm_M103 (pc' := 37) rfl rfl rfl ?_
        refine pm_R_cs pm_M103 (pc' := 40) (ra := [.int x5_2774, .int a1]) (rest := []) (ls' := [.int a1, .int x5_2774]) rfl rfl (Or.inr rfl) pm_M73 rfl rfl (Nat.le_of_ble_eq_true rfl) rfl rfl ?_
        refine pm_R_lo pm_M73 (pc' := 1) rfl rfl rfl ?_
        refine pm_R_lo pm_M73 (pc' := 2) rfl rfl rfl ?_
        refine pm_R_op pm_M73 (pc' := 3) (st' := [.int 1, .int x5_2774, .int x5_2774]) rfl rfl rfl ?_
        refine sf_R_iadd pm_M73 (pc' := 4) rfl rfl B2779 sf_k1 (by decide) (by decide) (fun z2781 e2782 B2783 => ?_)
        refine sf_R_imul pm_M73 (pc' := 5) rfl rfl B2779 B2783 (by decide) (by decide) (by decide) (fun z2784 e2785 B2786 => ?_)
        refine pm_R_op pm_M73 (pc' := 6) (st' := [.int 2, .int z2784]) rfl rfl rfl ?_
        refine sf_R_idiv pm_M73 (pc' := 7) rfl rfl B2786 sf_k2 (by decide) (by decide) (fun z2787 e2788 B2789 => ?_)
        refine pm_R_lo pm_M73 (pc' := 8) rfl rfl rfl ?_
        refine sf_R_iadd pm_M73 (pc' := 9) rfl rfl B2789 Ba1 (by decide) (by decide) (fun z2790 e2791 B2792 => ?_)
        refine pm_R_ret pm_M73 (r := some (.int z2790)) rfl (pm_ret_i _) ?_
        show pm_R _ 103 40 [.ref 31, .ref a0, .int a1, .int a2, .int z13, .int x5_2774, g6_2774, g7_2774, g8_2774, g9_2774, g10_2774, g11_2774, g12_2774, g13_2774] [.int z2790] _ _
        refine pm_R_op pm_M103 (pc' := 42) (st' := [.int 6, .int z2790]) rfl rfl rfl ?_
        refine sf_R_imul pm_M103 (pc' := 43) rfl rfl B2792 sf_k6 (by decide) (by decide) (by decide) (fun z2793 e2794 B2795 => ?_)
        refine pm_R_lo pm_M103 (pc' := 45) (ls' := [.ref 31, .ref a0, .int a1, .int a2, .int z13, .int x5_2774, .int z2793, g7_2774, g8_2774, g9_2774, g10_2774, g11_2774, g12_2774, g13_2774]) (st' := []) rfl rfl rfl ?_
        refine pm_R_lo pm_M103 (pc' := 47) rfl rfl rfl ?_
        refine pm_R_op pm_M103 (pc' := 48) (st' := [.int 1, .int x5_2774]) rfl rfl rfl ?_
        refine sf_R_iaddV pm_M103 (pc' := 49) rfl rfl B2779 sf_k1 (by decide) (by decide) e2782 ?_
        refine pm_R_lo pm_M103 (pc' := 50) rfl rfl rfl ?_
        refine pm_R_cs pm_M103 (pc' := 53) (ra := [.int a2, .int z2781]) (rest := []) (ls' := [.int z2781, .int a2]) rfl rfl (Or.inr rfl) pm_M73 rfl rfl (Nat.le_of_ble_eq_true rfl) rfl rfl ?_
        refine pm_R_lo pm_M73 (pc' := 1) rfl rfl rfl ?_
        refine pm_R_lo pm_M73 (pc' := 2) rfl rfl rfl ?_
        refine pm_R_op pm_M73 (pc' := 3) (st' := [.int 1, .int a2, .int a2]) rfl rfl rfl ?_
        refine sf_R_iaddV pm_M73 (pc' := 4) rfl rfl Ba2 sf_k1 (by decide) (by decide) e2 ?_
        refine sf_R_imulV pm_M73 (pc' := 5) rfl rfl Ba2 B3 (by decide) (by decide) (by decide) e5 ?_
        refine pm_R_op pm_M73 (pc' := 6) (st' := [.int 2, .int z4]) rfl rfl rfl ?_
        refine sf_R_idiv pm_M73 (pc' := 7) rfl rfl B6 sf_k2 (by decide) (by decide) (fun z2796 e2797 B2798 => ?_)
        refine pm_R_lo pm_M73 (pc' := 8) rfl rfl rfl ?_
        refine sf_R_iadd pm_M73 (pc' := 9) rfl rfl B2798 B2783 (by decide) (by decide) (fun z2799 e2800 B2801 => ?_)
        refine pm_R_ret pm_M73 (r := some (.int z2799)) rfl (pm_ret_i _) ?_
        show pm_R _ 103 53 [.ref 31, .ref a0, .int a1, .int a2, .int z13, .int x5_2774, .int z2793, g7_2774, g8_2774, g9_2774, g10_2774, g11_2774, g12_2774, g13_2774] [.int z2799] _ _
        refine pm_R_op pm_M103 (pc' := 55) (st' := [.int 6, .int z2799]) rfl rfl rfl ?_
        refine sf_R_imul pm_M103 (pc' := 56) rfl rfl B2801 sf_k6 (by decide) (by decide) (by decide) (fun z2802 e2803 B2804 => ?_)
        refine pm_R_lo pm_M103 (pc' := 58) (ls' := [.ref 31, .ref a0, .int a1, .int a2, .int z13, .int x5_2774, .int z2793, .int z2802, g8_2774, g9_2774, g10_2774, g11_2774, g12_2774, g13_2774]) (st' := []) rfl rfl rfl ?_
        refine pm_R_op pm_M103 (pc' := 59) (st' := [.int 0]) rfl rfl rfl ?_
        refine pm_R_lo pm_M103 (pc' := 61) (ls' := [.ref 31, .ref a0, .int a1, .int a2, .int z13, .int x5_2774, .int z2793, .int z2802, .int 0, g9_2774, g10_2774, g11_2774, g12_2774, g13_2774]) (st' := []) rfl rfl rfl ?_
        have L_4140 : ∀ (N : Nat) (h_4140 : pm_H) (m_4140 : Nat → Int32) (x8_4140 : Int32) (g9_4140 : Value) (g10_4140 : Value) (g11_4140 : Value) (g12_4140 : Value) (g13_4140 : Value), cl_T ck E m_4140 o h_4140 → cl_F ck [32] 0 0 h h_4140 → rf_W [] m_2774 m_4140 → sf_B 0 10 x8_4140 → g10_4140.category = 1 → g12_4140.category = 1 → g13_4140.category = 1 → (10 - x8_4140.toInt).toNat = N → pm_R (d + 2) 103 61 [.ref 31, .ref a0, .int a1, .int a2, .int z13, .int x5_2774, .int z2793, .int z2802, .int x8_4140, g9_4140, g10_4140, g11_4140, g12_4140, g13_4140] [] h_4140 Q := by
          intro N
          induction N using Nat.strongRecOn with
          | ind N ih_4140 =>
            intro h_4140 m_4140 x8_4140 g9_4140 g10_4140 g11_4140 g12_4140 g13_4140 T_4140 F_4140 W_4140 Bx8_4140 Cg10_4140 Cg12_4140 Cg13_4140 hN_4140
            have W4143 : rf_W [] m m_4140 := W2777.trans W_4140 (by decide)
            have W4144 : rf_W [] m21 m_4140 := W_2774.trans W_4140 (by decide)
            refine pm_R_lo pm_M103 (pc' := 63) rfl rfl rfl ?_
            refine pm_R_lo pm_M103 (pc' := 64) rfl rfl rfl ?_
            obtain ⟨rc4145, tc4146, rs4147, fv4148, fw4149, fr4150, ft4151, fn4152, h4153, h4154, B4155, eE4156, eE4157, eE4158, eE4159, eE4160, eE4161, b4162, b4163, b4164⟩ := (G.2.1 a0 hk0).2.2.2.2.2
            have kq4165 := G.2.1 a0 hk0
            refine pm_R_get pm_M103 (pc' := 67) (v := .int (Int32.ofNat rc4145)) rfl rfl (T_4140.im hk0 (by decide) (by decide) eE4156) (G.ge hk0 (by decide)) (T_4140.al hk0 (by decide)) rfl rfl ?_
            refine pm_R_icmp pm_M103 (t := 188) (pc' := 70) rfl rfl rfl (fun c4166 => ?_) (fun c4166 => ?_)
            · skip
              refine sf_R_iinc pm_M103 (pc' := 191) (ls' := fun z => [.ref 31, .ref a0, .int a1, .int a2, .int z13, .int z, .int z2793, .int z2802, .int x8_4140, g9_4140, g10_4140, g11_4140, g12_4140, g13_4140]) (pm_q103_1 (Nat.le_of_ble_eq_true rfl)) B2779 rfl (by decide) (by decide) (by decide) (fun _ => rfl) rfl (fun z4167 e4168 B4169 => ?_)
              show pm_R _ 103 191 [.ref 31, .ref a0, .int a1, .int a2, .int z13, .int z4167, .int z2793, .int z2802, .int x8_4140, g9_4140, g10_4140, g11_4140, g12_4140, g13_4140] [] _ _
              refine pm_R_br pm_M103 (pc' := 28) (pm_q103_1 (Nat.le_of_ble_eq_true rfl)) rfl ?_
              exact ih_2774 _ (sf_up hN_2774 e4168 B2779 (by decide) (by decide)) h_4140 m_4140 z4167 (.int z2793) (.int z2802) (.int x8_4140) (g9_4140) (g10_4140) (g11_4140) (g12_4140) (g13_4140) T_4140 F_4140 W4144 (sf_weak B4169 (by decide) (by decide)) rfl rfl rfl Cg10_4140 Cg12_4140 Cg13_4140 rfl
            · have B4170 : sf_B 0 9 x8_4140 := sf_ltL (Int32.not_le.mp c4166) Bx8_4140 (sf_ofB h4153 (by decide))
              have B4171 : sf_B 1 10 (Int32.ofNat rc4145) := sf_ltR (Int32.not_le.mp c4166) Bx8_4140 (sf_ofB h4153 (by decide))
              refine pm_R_lo pm_M103 (pc' := 71) rfl rfl rfl ?_
              refine pm_R_get pm_M103 (pc' := 74) (v := .ref 32) rfl rfl T_4140.e31 (by decide) (T_4140.lt (by decide)) rfl rfl ?_
              refine pm_R_lo pm_M103 (pc' := 76) rfl rfl rfl ?_
              refine pm_R_lo pm_M103 (pc' := 77) rfl rfl rfl ?_
              refine pm_R_get pm_M103 (pc' := 80) (v := .ref (a0 + 3)) rfl rfl (T_4140.im hk0 (by decide) (by decide) eE4156) (G.ge hk0 (by decide)) (T_4140.al hk0 (by decide)) rfl rfl ?_
              refine pm_R_lo pm_M103 (pc' := 82) rfl rfl rfl ?_
              refine pm_R_op pm_M103 (pc' := 83) (st' := [.int 4, .int x8_4140, .ref (a0 + 3), .int z2793, .ref 32]) rfl rfl rfl ?_
              refine sf_R_imul pm_M103 (pc' := 84) rfl rfl B4170 sf_k4 (by decide) (by decide) (by decide) (fun z4172 e4173 B4174 => ?_)
              refine pm_R_op pm_M103 (pc' := 85) (st' := [.int 1, .int z4172, .ref (a0 + 3), .int z2793, .ref 32]) rfl rfl rfl ?_
              refine sf_R_iadd pm_M103 (pc' := 86) rfl rfl B4174 sf_k1 (by decide) (by decide) (fun z4175 e4176 B4177 => ?_)
              have q4181 := cl_in4 (n := rc4145) (Nat.le_trans h4153 (by decide)) (Int32.not_le.mp c4166) (cl_aux7 _ _ _ e4173 e4176) B4170 (by decide) (by decide)
              obtain ⟨z4178, ez4179⟩ : ∃ y, fr4150 (Int32.toNatClampNeg z4175) = y := ⟨_, rfl⟩
              have B4180 : sf_B 0 5 z4178 := ez4179 ▸ q4181.2.2 ▸ (b4162 _ q4181.2.1).2.1
              refine pm_R_iald pm_M103 (pc' := 87) (v := z4178) rfl (T_4140.im kq4165.2.2.1 (by decide) (by decide) eE4159) (T_4140.al kq4165.2.2.1 (by decide)) q4181.1 ez4179 rfl ?_
              refine sf_R_iadd pm_M103 (pc' := 88) rfl rfl B2795 B4180 (by decide) (by decide) (fun z4182 e4183 B4184 => ?_)
              obtain ⟨f4188, e4189⟩ := T_4140.C 32 (by decide) (by decide)
              obtain ⟨z4185, ez4186⟩ : ∃ y, f4188 (Int32.toNatClampNeg z4182) = y := ⟨_, rfl⟩
              refine pm_R_lald pm_M103 (pc' := 89) (v := z4185) rfl e4189 (by decide) (T_4140.lt (by decide)) (sf_in B4184 (by decide) (by decide)) ez4186 rfl ?_
              refine pm_R_lo pm_M103 (pc' := 91) (ls' := [.ref 31, .ref a0, .int a1, .int a2, .int z13, .int x5_2774, .int z2793, .int z2802, .int x8_4140, .long z4185, pm_no, g11_4140, g12_4140, g13_4140]) (st' := []) rfl rfl rfl ?_
              refine pm_R_lo pm_M103 (pc' := 92) rfl rfl rfl ?_
              refine pm_R_get pm_M103 (pc' := 95) (v := .ref 32) rfl rfl T_4140.e31 (by decide) (T_4140.lt (by decide)) rfl rfl ?_
              refine pm_R_lo pm_M103 (pc' := 97) rfl rfl rfl ?_
              refine pm_R_lo pm_M103 (pc' := 98) rfl rfl rfl ?_
              refine pm_R_get pm_M103 (pc' := 101) (v := .ref (a0 + 3)) rfl rfl (T_4140.im hk0 (by decide) (by decide) eE4156) (G.ge hk0 (by decide)) (T_4140.al hk0 (by decide)) rfl rfl ?_
              refine pm_R_lo pm_M103 (pc' := 103) rfl rfl rfl ?_
              refine pm_R_op pm_M103 (pc' := 104) (st' := [.int 4, .int x8_4140, .ref (a0 + 3), .int z2802, .ref 32]) rfl rfl rfl ?_
              refine sf_R_imulV pm_M103 (pc' := 105) (pm_q103_1 (Nat.le_of_ble_eq_true rfl)) rfl B4170 sf_k4 (by decide) (by decide) (by decide) e4173 ?_
              refine pm_R_op pm_M103 (pc' := 106) (st' := [.int 2, .int z4172, .ref (a0 + 3), .int z2802, .ref 32]) (pm_q103_1 (Nat.le_of_ble_eq_true rfl)) rfl rfl ?_
              refine sf_R_iadd pm_M103 (pc' := 107) (pm_q103_1 (Nat.le_of_ble_eq_true rfl)) rfl B4174 sf_k2 (by decide) (by decide) (fun z4191 e4192 B4193 => ?_)
              have q4197 := cl_in4 (n := rc4145) (Nat.le_trans h4153 (by decide)) (Int32.not_le.mp c4166) (cl_aux6 _ _ _ e4173 e4192) B4170 (by decide) (by decide)
              obtain ⟨z4194, ez4195⟩ : ∃ y, fr4150 (Int32.toNatClampNeg z4191) = y := ⟨_, rfl⟩
              have B4196 : sf_B 0 5 z4194 := ez4195 ▸ q4197.2.2 ▸ (b4162 _ q4197.2.1).2.2
              refine pm_R_iald pm_M103 (pc' := 108) (v := z4194) (pm_q103_1 (Nat.le_of_ble_eq_true rfl)) (T_4140.im kq4165.2.2.1 (by decide) (by decide) eE4159) (T_4140.al kq4165.2.2.1 (by decide)) q4197.1 ez4195 rfl ?_
              refine sf_R_iadd pm_M103 (pc' := 109) (pm_q103_1 (Nat.le_of_ble_eq_true rfl)) rfl B2804 B4196 (by decide) (by decide) (fun z4198 e4199 B4200 => ?_)
              obtain ⟨z4201, ez4202⟩ : ∃ y, f4188 (Int32.toNatClampNeg z4198) = y := ⟨_, rfl⟩
              refine pm_R_lald pm_M103 (pc' := 110) (v := z4201) (pm_q103_1 (Nat.le_of_ble_eq_true rfl)) e4189 (by decide) (T_4140.lt (by decide)) (sf_in B4200 (by decide) (by decide)) ez4202 rfl ?_
              refine pm_R_lo pm_M103 (pc' := 112) (ls' := [.ref 31, .ref a0, .int a1, .int a2, .int z13, .int x5_2774, .int z2793, .int z2802, .int x8_4140, .long z4185, pm_no, .long z4201, pm_no, g13_4140]) (st' := []) (pm_q103_1 (Nat.le_of_ble_eq_true rfl)) rfl rfl ?_
              refine pm_R_lo pm_M103 (pc' := 114) (pm_q103_1 (Nat.le_of_ble_eq_true rfl)) rfl rfl ?_
              refine pm_R_lo pm_M103 (pc' := 115) (pm_q103_1 (Nat.le_of_ble_eq_true rfl)) rfl rfl ?_
              refine pm_R_get pm_M103 (pc' := 118) (v := .ref (a0 + 3)) (pm_q103_1 (Nat.le_of_ble_eq_true rfl)) rfl (T_4140.im hk0 (by decide) (by decide) eE4156) (G.ge hk0 (by decide)) (T_4140.al hk0 (by decide)) rfl rfl ?_
              refine pm_R_lo pm_M103 (pc' := 120) (pm_q103_1 (Nat.le_of_ble_eq_true rfl)) rfl rfl ?_
              refine pm_R_op pm_M103 (pc' := 121) (st' := [.int 4, .int x8_4140, .ref (a0 + 3), .int z13]) (pm_q103_1 (Nat.le_of_ble_eq_true rfl)) rfl rfl ?_
              refine sf_R_imulV pm_M103 (pc' := 122) (pm_q103_1 (Nat.le_of_ble_eq_true rfl)) rfl B4170 sf_k4 (by decide) (by decide) (by decide) e4173 ?_
              have q4207 := cl_in4 (n := rc4145) (Nat.le_trans h4153 (by decide)) (Int32.not_le.mp c4166) (cl_aux5 _ _ e4173) B4170 (by decide) (by decide)
              obtain ⟨z4204, ez4205⟩ : ∃ y, fr4150 (Int32.toNatClampNeg z4172) = y := ⟨_, rfl⟩
              have B4206 : sf_B 0 5 z4204 := ez4205 ▸ q4207.2.2 ▸ (b4162 _ q4207.2.1).1
              refine pm_R_iald pm_M103 (pc' := 123) (v := z4204) (pm_q103_1 (Nat.le_of_ble_eq_true rfl)) (T_4140.im kq4165.2.2.1 (by decide) (by decide) eE4159) (T_4140.al kq4165.2.2.1 (by decide)) q4207.1 ez4205 rfl ?_
              refine sf_R_iadd pm_M103 (pc' := 124) (pm_q103_1 (Nat.le_of_ble_eq_true rfl)) rfl B15 B4206 (by decide) (by decide) (fun z4208 e4209 B4210 => ?_)
              refine pm_R_lo pm_M103 (pc' := 126) (ls' := [.ref 31, .ref a0, .int a1, .int a2, .int z13, .int x5_2774, .int z2793, .int z2802, .int x8_4140, .long z4185, pm_no, .long z4201, pm_no, .int z4208]) (st' := []) (pm_q103_1 (Nat.le_of_ble_eq_true rfl)) rfl rfl ?_
              refine pm_R_lo pm_M103 (pc' := 128) (pm_q103_1 (Nat.le_of_ble_eq_true rfl)) rfl rfl ?_
              refine pm_R_op pm_M103 (pc' := 129) (st' := [.long 0, .long z4185]) (pm_q103_1 (Nat.le_of_ble_eq_true rfl)) rfl rfl ?_
              refine sf_R_lcmp pm_M103 (pc' := 130) (pm_q103_1 (Nat.le_of_ble_eq_true rfl)) rfl (fun z4211 e4212 => ?_)
              refine pm_R_ifc pm_M103 (t := 182) (pc' := 133) (pm_q103_1 (Nat.le_of_ble_eq_true rfl)) rfl rfl (fun c4213 => ?_) (fun c4213 => ?_)
              · have B4214 : sf_B 0 0 z4211 := sf_eqL c4213 sf_k0
                have B4215 : lf_B 0 0 z4185 := lf_eqB e4212 B4214 (⟨by decide, by decide⟩ : lf_B 0 0 0)
                refine sf_R_iinc pm_M103 (pc' := 185) (ls' := fun z => [.ref 31, .ref a0, .int a1, .int a2, .int z13, .int x5_2774, .int z2793, .int z2802, .int z, .long z4185, pm_no, .long z4201, pm_no, .int z4208]) (pm_q103_1 (Nat.le_of_ble_eq_true rfl)) B4170 rfl (by decide) (by decide) (by decide) (fun _ => rfl) rfl (fun z4216 e4217 B4218 => ?_)
                show pm_R _ 103 185 [.ref 31, .ref a0, .int a1, .int a2, .int z13, .int x5_2774, .int z2793, .int z2802, .int z4216, .long z4185, pm_no, .long z4201, pm_no, .int z4208] [] _ _
                refine pm_R_br pm_M103 (pc' := 61) (pm_q103_1 (Nat.le_of_ble_eq_true rfl)) rfl ?_
                exact ih_4140 _ (sf_up hN_4140 e4217 B4170 (by decide) (by decide)) h_4140 m_4140 z4216 (.long z4185) (pm_no) (.long z4201) (pm_no) (.int z4208) T_4140 F_4140 W_4140 (sf_weak B4218 (by decide) (by decide)) rfl rfl rfl rfl
              · have k4219 := sf_lneC e4212 c4213
                refine pm_R_lo pm_M103 (pc' := 135) (pm_q103_1 (Nat.le_of_ble_eq_true rfl)) rfl rfl ?_
                refine pm_R_op pm_M103 (pc' := 136) (st' := [.long 0, .long z4201]) (pm_q103_1 (Nat.le_of_ble_eq_true rfl)) rfl rfl ?_
                refine sf_R_lcmp pm_M103 (pc' := 137) (pm_q103_1 (Nat.le_of_ble_eq_true rfl)) rfl (fun z4220 e4221 => ?_)
                refine pm_R_ifc pm_M103 (t := 182) (pc' := 140) (pm_q103_1 (Nat.le_of_ble_eq_true rfl)) rfl rfl (fun c4222 => ?_) (fun c4222 => ?_)
                · have B4223 : sf_B 0 0 z4220 := sf_eqL c4222 sf_k0
                  have B4224 : lf_B 0 0 z4201 := lf_eqB e4221 B4223 (⟨by decide, by decide⟩ : lf_B 0 0 0)
                  refine sf_R_iinc pm_M103 (pc' := 185) (ls' := fun z => [.ref 31, .ref a0, .int a1, .int a2, .int z13, .int x5_2774, .int z2793, .int z2802, .int z, .long z4185, pm_no, .long z4201, pm_no, .int z4208]) (pm_q103_1 (Nat.le_of_ble_eq_true rfl)) B4170 rfl (by decide) (by decide) (by decide) (fun _ => rfl) rfl (fun z4225 e4226 B4227 => ?_)
                  show pm_R _ 103 185 [.ref 31, .ref a0, .int a1, .int a2, .int z13, .int x5_2774, .int z2793, .int z2802, .int z4225, .long z4185, pm_no, .long z4201, pm_no, .int z4208] [] _ _
                  refine pm_R_br pm_M103 (pc' := 61) (pm_q103_1 (Nat.le_of_ble_eq_true rfl)) rfl ?_
                  exact ih_4140 _ (sf_up hN_4140 e4226 B4170 (by decide) (by decide)) h_4140 m_4140 z4225 (.long z4185) (pm_no) (.long z4201) (pm_no) (.int z4208) T_4140 F_4140 W_4140 (sf_weak B4227 (by decide) (by decide)) rfl rfl rfl rfl
                · have k4228 := sf_lneC e4221 c4222
                  refine pm_R_lo pm_M103 (pc' := 141) (pm_q103_1 (Nat.le_of_ble_eq_true rfl)) rfl rfl ?_
                  refine pm_R_get pm_M103 (pc' := 144) (v := .ref 32) (pm_q103_1 (Nat.le_of_ble_eq_true rfl)) rfl T_4140.e31 (by decide) (T_4140.lt (by decide)) rfl rfl ?_
                  refine pm_R_lo pm_M103 (pc' := 146) (pm_q103_1 (Nat.le_of_ble_eq_true rfl)) rfl rfl ?_
                  obtain ⟨z4229, ez4230⟩ : ∃ y, f4188 (Int32.toNatClampNeg z4208) = y := ⟨_, rfl⟩
                  refine pm_R_lald pm_M103 (pc' := 147) (v := z4229) (pm_q103_1 (Nat.le_of_ble_eq_true rfl)) e4189 (by decide) (T_4140.lt (by decide)) (sf_in B4210 (by decide) (by decide)) ez4230 rfl ?_
                  refine pm_R_ldc2 pm_M103 (pc' := 150) (pm_q103_1 (Nat.le_of_ble_eq_true rfl)) rfl rfl ?_
                  refine sf_R_lcmp pm_M103 (pc' := 151) (pm_q103_1 (Nat.le_of_ble_eq_true rfl)) rfl (fun z4232 e4233 => ?_)
                  refine pm_R_ifc pm_M103 (t := 182) (pc' := 154) (pm_q103_1 (Nat.le_of_ble_eq_true rfl)) rfl rfl (fun c4234 => ?_) (fun c4234 => ?_)
                  · have B4235 : sf_B 0 0 z4232 := sf_eqL c4234 sf_k0
                    have B4236 : lf_B 1125899906842623 1125899906842623 z4229 := lf_eqB e4233 B4235 (⟨by decide, by decide⟩ : lf_B 1125899906842623 1125899906842623 1125899906842623)
                    refine sf_R_iinc pm_M103 (pc' := 185) (ls' := fun z => [.ref 31, .ref a0, .int a1, .int a2, .int z13, .int x5_2774, .int z2793, .int z2802, .int z, .long z4185, pm_no, .long z4201, pm_no, .int z4208]) (pm_q103_1 (Nat.le_of_ble_eq_true rfl)) B4170 rfl (by decide) (by decide) (by decide) (fun _ => rfl) rfl (fun z4237 e4238 B4239 => ?_)
                    show pm_R _ 103 185 [.ref 31, .ref a0, .int a1, .int a2, .int z13, .int x5_2774, .int z2793, .int z2802, .int z4237, .long z4185, pm_no, .long z4201, pm_no, .int z4208] [] _ _
                    refine pm_R_br pm_M103 (pc' := 61) (pm_q103_1 (Nat.le_of_ble_eq_true rfl)) rfl ?_
                    exact ih_4140 _ (sf_up hN_4140 e4238 B4170 (by decide) (by decide)) h_4140 m_4140 z4237 (.long z4185) (pm_no) (.long z4201) (pm_no) (.int z4208) T_4140 F_4140 W_4140 (sf_weak B4239 (by decide) (by decide)) rfl rfl rfl rfl
                  · have k4240 := sf_lneC e4233 c4234
                    refine pm_R_lo pm_M103 (pc' := 155) (pm_q103_1 (Nat.le_of_ble_eq_true rfl)) rfl rfl ?_
                    refine pm_R_get pm_M103 (pc' := 158) (v := .ref 32) (pm_q103_1 (Nat.le_of_ble_eq_true rfl)) rfl T_4140.e31 (by decide) (T_4140.lt (by decide)) rfl rfl ?_
                    refine pm_R_lo pm_M103 (pc' := 160) (pm_q103_1 (Nat.le_of_ble_eq_true rfl)) rfl rfl ?_
                    refine pm_R_op pm_M103 (pc' := 161) (st' := [.int z4208, .ref 32, .int z4208, .ref 32]) (pm_q103_1 (Nat.le_of_ble_eq_true rfl)) rfl rfl ?_
                    refine pm_R_lald pm_M103 (pc' := 162) (v := z4229) (pm_q103_1 (Nat.le_of_ble_eq_true rfl)) e4189 (by decide) (T_4140.lt (by decide)) (sf_in B4210 (by decide) (by decide)) ez4230 rfl ?_
                    refine pm_R_lo pm_M103 (pc' := 163) (pm_q103_1 (Nat.le_of_ble_eq_true rfl)) rfl rfl ?_
                    refine pm_R_get pm_M103 (pc' := 166) (v := .ref (a0 + 3)) (pm_q103_1 (Nat.le_of_ble_eq_true rfl)) rfl (T_4140.im hk0 (by decide) (by decide) eE4156) (G.ge hk0 (by decide)) (T_4140.al hk0 (by decide)) rfl rfl ?_
                    refine pm_R_lo pm_M103 (pc' := 168) (pm_q103_1 (Nat.le_of_ble_eq_true rfl)) rfl rfl ?_
                    refine pm_R_op pm_M103 (pc' := 169) (st' := [.int 4, .int x8_4140, .ref (a0 + 3), .long z4229, .int z4208, .ref 32]) (pm_q103_1 (Nat.le_of_ble_eq_true rfl)) rfl rfl ?_
                    refine sf_R_imulV pm_M103 (pc' := 170) (pm_q103_1 (Nat.le_of_ble_eq_true rfl)) rfl B4170 sf_k4 (by decide) (by decide) (by decide) e4173 ?_
                    refine pm_R_op pm_M103 (pc' := 171) (st' := [.int 3, .int z4172, .ref (a0 + 3), .long z4229, .int z4208, .ref 32]) (pm_q103_1 (Nat.le_of_ble_eq_true rfl)) rfl rfl ?_
                    refine sf_R_iadd pm_M103 (pc' := 172) (pm_q103_1 (Nat.le_of_ble_eq_true rfl)) rfl B4174 sf_k3 (by decide) (by decide) (fun z4244 e4245 B4246 => ?_)
                    have q4250 := cl_in4 (n := rc4145) (Nat.le_trans h4153 (by decide)) (Int32.not_le.mp c4166) (cl_aux9 _ _ _ e4173 e4245) B4170 (by decide) (by decide)
                    obtain ⟨z4247, ez4248⟩ : ∃ y, fr4150 (Int32.toNatClampNeg z4244) = y := ⟨_, rfl⟩
                    refine pm_R_iald pm_M103 (pc' := 173) (v := z4247) (pm_q103_1 (Nat.le_of_ble_eq_true rfl)) (T_4140.im kq4165.2.2.1 (by decide) (by decide) eE4159) (T_4140.al kq4165.2.2.1 (by decide)) q4250.1 ez4248 rfl ?_
                    refine pm_R_lo pm_M103 (pc' := 175) (pm_q103_1 (Nat.le_of_ble_eq_true rfl)) rfl rfl ?_
                    refine pm_R_lo pm_M103 (pc' := 177) (pm_q103_1 (Nat.le_of_ble_eq_true rfl)) rfl rfl ?_
                    refine pm_R_cs pm_M103 (pc' := 180) (ra := [.long z4201, .long z4185, .int z4247]) (rest := [.long z4229, .int z4208, .ref 32]) (ls' := [.int z4247, .long z4185, pm_no, .long z4201, pm_no]) (pm_q103_1 (Nat.le_of_ble_eq_true rfl)) rfl (Or.inr rfl) pm_M104 rfl rfl (Nat.le_of_ble_eq_true rfl) rfl rfl ?_
                    refine pm_R_lo pm_M104 (pc' := 1) rfl rfl rfl ?_
                    by_cases c4251 : z4247 < 0
                    · refine pm_R_tswD pm_M104 (pc' := 57) rfl (Or.inl (Int32.lt_iff_toInt_lt.mp c4251)) rfl ?_
                      have B4252 : sf_B (-2147483648) (-1) z4247 := sf_ltL c4251 (sf_any z4247) sf_k0
                      refine pm_R_lo pm_M104 (pc' := 58) rfl rfl rfl ?_
                      refine pm_R_cs pm_M104 (pc' := 61) (ra := [.long z4201]) (rest := []) (ls' := [.long z4201, pm_no, pm_no, pm_no, pm_no]) rfl rfl (Or.inl rfl) pm_M106 rfl rfl (Nat.le_of_ble_eq_true rfl) rfl rfl ?_
                      refine cl_c106 (d := d + 0)  (fun r4253 => ?_)
                      show pm_R _ 104 61 [.int z4247, .long z4185, pm_no, .long z4201, pm_no] [.long r4253] _ _
                      refine pm_R_ret pm_M104 (r := some (.long r4253)) rfl rfl ?_
                      show pm_R _ 103 180 [.ref 31, .ref a0, .int a1, .int a2, .int z13, .int x5_2774, .int z2793, .int z2802, .int x8_4140, .long z4185, pm_no, .long z4201, pm_no, .int z4208] [.long r4253, .long z4229, .int z4208, .ref 32] _ _
                      refine sf_R_lany pm_M103 (pc' := 181) (st := [.int z4208, .ref 32]) (pm_q103_1 (Nat.le_of_ble_eq_true rfl)) rfl rfl (fun z4260 => ?_)
                      refine cl_R_lst G pm_M103 T_4140 (pc' := 182) (pm_q103_1 (Nat.le_of_ble_eq_true rfl)) e4189 (by decide) ⟨_, rfl⟩ (sf_in B4210 (by decide) (by decide)) rfl (fun h4261 T4262 F4263 e4264 => ?_)
                      have F4265 := F4263.cl (ck := ck) T_4140.1
                      have F4266 := F_4140.trans (N := 0) (S := 0) F4265 (by decide) (by decide) (by decide)
                      refine sf_R_iinc pm_M103 (pc' := 185) (ls' := fun z => [.ref 31, .ref a0, .int a1, .int a2, .int z13, .int x5_2774, .int z2793, .int z2802, .int z, .long z4185, pm_no, .long z4201, pm_no, .int z4208]) (pm_q103_1 (Nat.le_of_ble_eq_true rfl)) B4170 rfl (by decide) (by decide) (by decide) (fun _ => rfl) rfl (fun z4267 e4268 B4269 => ?_)
                      show pm_R _ 103 185 [.ref 31, .ref a0, .int a1, .int a2, .int z13, .int x5_2774, .int z2793, .int z2802, .int z4267, .long z4185, pm_no, .long z4201, pm_no, .int z4208] [] _ _
                      refine pm_R_br pm_M103 (pc' := 61) (pm_q103_1 (Nat.le_of_ble_eq_true rfl)) rfl ?_
                      exact ih_4140 _ (sf_up hN_4140 e4268 B4170 (by decide) (by decide)) h4261 m_4140 z4267 (.long z4185) (pm_no) (.long z4201) (pm_no) (.int z4208) T4262 F4266 W_4140 (sf_weak B4269 (by decide) (by decide)) rfl rfl rfl rfl
                    have B4270 : sf_B 0 2147483647 z4247 := sf_leR (Int32.not_lt.mp c4251) sf_k0 (sf_any z4247)
                    by_cases c4271 : 3 < z4247
                    · refine pm_R_tswD pm_M104 (pc' := 57) rfl (Or.inr (Int32.lt_iff_toInt_lt.mp c4271)) rfl ?_
                      have B4272 : sf_B 4 2147483647 z4247 := sf_ltR c4271 sf_k3 (sf_any z4247)
                      refine pm_R_lo pm_M104 (pc' := 58) rfl rfl rfl ?_
                      refine pm_R_cs pm_M104 (pc' := 61) (ra := [.long z4201]) (rest := []) (ls' := [.long z4201, pm_no, pm_no, pm_no, pm_no]) rfl rfl (Or.inl rfl) pm_M106 rfl rfl (Nat.le_of_ble_eq_true rfl) rfl rfl ?_
                      refine cl_c106 (d := d + 0)  (fun r4273 => ?_)
                      show pm_R _ 104 61 [.int z4247, .long z4185, pm_no, .long z4201, pm_no] [.long r4273] _ _
                      refine pm_R_ret pm_M104 (r := some (.long r4273)) rfl rfl ?_
                      show pm_R _ 103 180 [.ref 31, .ref a0, .int a1, .int a2, .int z13, .int x5_2774, .int z2793, .int z2802, .int x8_4140, .long z4185, pm_no, .long z4201, pm_no, .int z4208] [.long r4273, .long z4229, .int z4208, .ref 32] _ _
                      refine sf_R_lany pm_M103 (pc' := 181) (st := [.int z4208, .ref 32]) (pm_q103_1 (Nat.le_of_ble_eq_true rfl)) rfl rfl (fun z4280 => ?_)
                      refine cl_R_lst G pm_M103 T_4140 (pc' := 182) (pm_q103_1 (Nat.le_of_ble_eq_true rfl)) e4189 (by decide) ⟨_, rfl⟩ (sf_in B4210 (by decide) (by decide)) rfl (fun h4281 T4282 F4283 e4284 => ?_)
                      have F4285 := F4283.cl (ck := ck) T_4140.1
                      have F4286 := F_4140.trans (N := 0) (S := 0) F4285 (by decide) (by decide) (by decide)
                      refine sf_R_iinc pm_M103 (pc' := 185) (ls' := fun z => [.ref 31, .ref a0, .int a1, .int a2, .int z13, .int x5_2774, .int z2793, .int z2802, .int z, .long z4185, pm_no, .long z4201, pm_no, .int z4208]) (pm_q103_1 (Nat.le_of_ble_eq_true rfl)) B4170 rfl (by decide) (by decide) (by decide) (fun _ => rfl) rfl (fun z4287 e4288 B4289 => ?_)
                      show pm_R _ 103 185 [.ref 31, .ref a0, .int a1, .int a2, .int z13, .int x5_2774, .int z2793, .int z2802, .int z4287, .long z4185, pm_no, .long z4201, pm_no, .int z4208] [] _ _
                      refine pm_R_br pm_M103 (pc' := 61) (pm_q103_1 (Nat.le_of_ble_eq_true rfl)) rfl ?_
                      exact ih_4140 _ (sf_up hN_4140 e4288 B4170 (by decide) (by decide)) h4281 m_4140 z4287 (.long z4185) (pm_no) (.long z4201) (pm_no) (.int z4208) T4282 F4286 W_4140 (sf_weak B4289 (by decide) (by decide)) rfl rfl rfl rfl
                    have B4290 : sf_B (-2147483648) 3 z4247 := sf_leL (Int32.not_lt.mp c4271) (sf_any z4247) sf_k3
                    by_cases c4291 : z4247 < 0
                    · refine pm_R_tswD pm_M104 (pc' := 57) rfl (Or.inl (Int32.lt_iff_toInt_lt.mp c4291)) rfl ?_
                      have B4292 : sf_B (-2147483648) (-1) z4247 := sf_ltL c4291 B4290 sf_k0
                      refine pm_R_lo pm_M104 (pc' := 58) rfl rfl rfl ?_
                      refine pm_R_cs pm_M104 (pc' := 61) (ra := [.long z4201]) (rest := []) (ls' := [.long z4201, pm_no, pm_no, pm_no, pm_no]) rfl rfl (Or.inl rfl) pm_M106 rfl rfl (Nat.le_of_ble_eq_true rfl) rfl rfl ?_
                      refine cl_c106 (d := d + 0)  (fun r4293 => ?_)
                      show pm_R _ 104 61 [.int z4247, .long z4185, pm_no, .long z4201, pm_no] [.long r4293] _ _
                      refine pm_R_ret pm_M104 (r := some (.long r4293)) rfl rfl ?_
                      show pm_R _ 103 180 [.ref 31, .ref a0, .int a1, .int a2, .int z13, .int x5_2774, .int z2793, .int z2802, .int x8_4140, .long z4185, pm_no, .long z4201, pm_no, .int z4208] [.long r4293, .long z4229, .int z4208, .ref 32] _ _
                      refine sf_R_lany pm_M103 (pc' := 181) (st := [.int z4208, .ref 32]) (pm_q103_1 (Nat.le_of_ble_eq_true rfl)) rfl rfl (fun z4300 => ?_)
                      refine cl_R_lst G pm_M103 T_4140 (pc' := 182) (pm_q103_1 (Nat.le_of_ble_eq_true rfl)) e4189 (by decide) ⟨_, rfl⟩ (sf_in B4210 (by decide) (by decide)) rfl (fun h4301 T4302 F4303 e4304 => ?_)
                      have F4305 := F4303.cl (ck := ck) T_4140.1
                      have F4306 := F_4140.trans (N := 0) (S := 0) F4305 (by decide) (by decide) (by decide)
                      refine sf_R_iinc pm_M103 (pc' := 185) (ls' := fun z => [.ref 31, .ref a0, .int a1, .int a2, .int z13, .int x5_2774, .int z2793, .int z2802, .int z, .long z4185, pm_no, .long z4201, pm_no, .int z4208]) (pm_q103_1 (Nat.le_of_ble_eq_true rfl)) B4170 rfl (by decide) (by decide) (by decide) (fun _ => rfl) rfl (fun z4307 e4308 B4309 => ?_)
                      show pm_R _ 103 185 [.ref 31, .ref a0, .int a1, .int a2, .int z13, .int x5_2774, .int z2793, .int z2802, .int z4307, .long z4185, pm_no, .long z4201, pm_no, .int z4208] [] _ _
                      refine pm_R_br pm_M103 (pc' := 61) (pm_q103_1 (Nat.le_of_ble_eq_true rfl)) rfl ?_
                      exact ih_4140 _ (sf_up hN_4140 e4308 B4170 (by decide) (by decide)) h4301 m_4140 z4307 (.long z4185) (pm_no) (.long z4201) (pm_no) (.int z4208) T4302 F4306 W_4140 (sf_weak B4309 (by decide) (by decide)) rfl rfl rfl rfl
                    have B4310 : sf_B 0 3 z4247 := sf_leR (Int32.not_lt.mp c4291) sf_k0 B4290
                    by_cases c4311 : 3 < z4247
                    · refine pm_R_tswD pm_M104 (pc' := 57) rfl (Or.inr (Int32.lt_iff_toInt_lt.mp c4311)) rfl ?_
                      have B4312 : sf_B 4 3 z4247 := sf_ltR c4311 sf_k3 B4290
                      refine pm_R_lo pm_M104 (pc' := 58) rfl rfl rfl ?_
                      refine pm_R_cs pm_M104 (pc' := 61) (ra := [.long z4201]) (rest := []) (ls' := [.long z4201, pm_no, pm_no, pm_no, pm_no]) rfl rfl (Or.inl rfl) pm_M106 rfl rfl (Nat.le_of_ble_eq_true rfl) rfl rfl ?_
                      refine cl_c106 (d := d + 0)  (fun r4313 => ?_)
                      show pm_R _ 104 61 [.int z4247, .long z4185, pm_no, .long z4201, pm_no] [.long r4313] _ _
                      refine pm_R_ret pm_M104 (r := some (.long r4313)) rfl rfl ?_
                      show pm_R _ 103 180 [.ref 31, .ref a0, .int a1, .int a2, .int z13, .int x5_2774, .int z2793, .int z2802, .int x8_4140, .long z4185, pm_no, .long z4201, pm_no, .int z4208] [.long r4313, .long z4229, .int z4208, .ref 32] _ _
                      refine sf_R_lany pm_M103 (pc' := 181) (st := [.int z4208, .ref 32]) (pm_q103_1 (Nat.le_of_ble_eq_true rfl)) rfl rfl (fun z4320 => ?_)
                      refine cl_R_lst G pm_M103 T_4140 (pc' := 182) (pm_q103_1 (Nat.le_of_ble_eq_true rfl)) e4189 (by decide) ⟨_, rfl⟩ (sf_in B4210 (by decide) (by decide)) rfl (fun h4321 T4322 F4323 e4324 => ?_)
                      have F4325 := F4323.cl (ck := ck) T_4140.1
                      have F4326 := F_4140.trans (N := 0) (S := 0) F4325 (by decide) (by decide) (by decide)
                      refine sf_R_iinc pm_M103 (pc' := 185) (ls' := fun z => [.ref 31, .ref a0, .int a1, .int a2, .int z13, .int x5_2774, .int z2793, .int z2802, .int z, .long z4185, pm_no, .long z4201, pm_no, .int z4208]) (pm_q103_1 (Nat.le_of_ble_eq_true rfl)) B4170 rfl (by decide) (by decide) (by decide) (fun _ => rfl) rfl (fun z4327 e4328 B4329 => ?_)
                      show pm_R _ 103 185 [.ref 31, .ref a0, .int a1, .int a2, .int z13, .int x5_2774, .int z2793, .int z2802, .int z4327, .long z4185, pm_no, .long z4201, pm_no, .int z4208] [] _ _
                      refine pm_R_br pm_M103 (pc' := 61) (pm_q103_1 (Nat.le_of_ble_eq_true rfl)) rfl ?_
                      exact ih_4140 _ (sf_up hN_4140 e4328 B4170 (by decide) (by decide)) h4321 m_4140 z4327 (.long z4185) (pm_no) (.long z4201) (pm_no) (.int z4208) T4322 F4326 W_4140 (sf_weak B4329 (by decide) (by decide)) rfl rfl rfl rfl
                    skip
                    by_cases c4330 : z4247 = 0
                    · rw [c4330]
                      refine pm_R_br pm_M104 (pc' := 32) (st' := []) rfl rfl ?_
                      refine pm_R_lo pm_M104 (pc' := 33) rfl rfl rfl ?_
                      refine pm_R_ret pm_M104 (r := some (.long z4185)) rfl rfl ?_
                      show pm_R _ 103 180 [.ref 31, .ref a0, .int a1, .int a2, .int z13, .int x5_2774, .int z2793, .int z2802, .int x8_4140, .long z4185, pm_no, .long z4201, pm_no, .int z4208] [.long z4185, .long z4229, .int z4208, .ref 32] _ _
                      refine sf_R_lany pm_M103 (pc' := 181) (st := [.int z4208, .ref 32]) (pm_q103_1 (Nat.le_of_ble_eq_true rfl)) rfl rfl (fun z4331 => ?_)
                      refine cl_R_lst G pm_M103 T_4140 (pc' := 182) (pm_q103_1 (Nat.le_of_ble_eq_true rfl)) e4189 (by decide) ⟨_, rfl⟩ (sf_in B4210 (by decide) (by decide)) rfl (fun h4332 T4333 F4334 e4335 => ?_)
                      have F4336 := F4334.cl (ck := ck) T_4140.1
                      have F4337 := F_4140.trans (N := 0) (S := 0) F4336 (by decide) (by decide) (by decide)
                      refine sf_R_iinc pm_M103 (pc' := 185) (ls' := fun z => [.ref 31, .ref a0, .int a1, .int a2, .int z13, .int x5_2774, .int z2793, .int z2802, .int z, .long z4185, pm_no, .long z4201, pm_no, .int z4208]) (pm_q103_1 (Nat.le_of_ble_eq_true rfl)) B4170 rfl (by decide) (by decide) (by decide) (fun _ => rfl) rfl (fun z4338 e4339 B4340 => ?_)
                      show pm_R _ 103 185 [.ref 31, .ref a0, .int a1, .int a2, .int z13, .int x5_2774, .int z2793, .int z2802, .int z4338, .long z4185, pm_no, .long z4201, pm_no, .int z4208] [] _ _
                      refine pm_R_br pm_M103 (pc' := 61) (pm_q103_1 (Nat.le_of_ble_eq_true rfl)) rfl ?_
                      exact ih_4140 _ (sf_up hN_4140 e4339 B4170 (by decide) (by decide)) h4332 m_4140 z4338 (.long z4185) (pm_no) (.long z4201) (pm_no) (.int z4208) T4333 F4337 W_4140 (sf_weak B4340 (by decide) (by decide)) rfl rfl rfl rfl
                    have B4341 : sf_B 1 3 z4247 := sf_neL0 c4330 sf_k0 B4310
                    by_cases c4342 : z4247 = 1
                    · rw [c4342]
                      refine pm_R_br pm_M104 (pc' := 34) (st' := []) rfl rfl ?_
                      refine pm_R_lo pm_M104 (pc' := 35) rfl rfl rfl ?_
                      refine pm_R_ret pm_M104 (r := some (.long z4201)) rfl rfl ?_
                      show pm_R _ 103 180 [.ref 31, .ref a0, .int a1, .int a2, .int z13, .int x5_2774, .int z2793, .int z2802, .int x8_4140, .long z4185, pm_no, .long z4201, pm_no, .int z4208] [.long z4201, .long z4229, .int z4208, .ref 32] _ _
                      refine sf_R_lany pm_M103 (pc' := 181) (st := [.int z4208, .ref 32]) (pm_q103_1 (Nat.le_of_ble_eq_true rfl)) rfl rfl (fun z4343 => ?_)
                      refine cl_R_lst G pm_M103 T_4140 (pc' := 182) (pm_q103_1 (Nat.le_of_ble_eq_true rfl)) e4189 (by decide) ⟨_, rfl⟩ (sf_in B4210 (by decide) (by decide)) rfl (fun h4344 T4345 F4346 e4347 => ?_)
                      have F4348 := F4346.cl (ck := ck) T_4140.1
                      have F4349 := F_4140.trans (N := 0) (S := 0) F4348 (by decide) (by decide) (by decide)
                      refine sf_R_iinc pm_M103 (pc' := 185) (ls' := fun z => [.ref 31, .ref a0, .int a1, .int a2, .int z13, .int x5_2774, .int z2793, .int z2802, .int z, .long z4185, pm_no, .long z4201, pm_no, .int z4208]) (pm_q103_1 (Nat.le_of_ble_eq_true rfl)) B4170 rfl (by decide) (by decide) (by decide) (fun _ => rfl) rfl (fun z4350 e4351 B4352 => ?_)
                      show pm_R _ 103 185 [.ref 31, .ref a0, .int a1, .int a2, .int z13, .int x5_2774, .int z2793, .int z2802, .int z4350, .long z4185, pm_no, .long z4201, pm_no, .int z4208] [] _ _
                      refine pm_R_br pm_M103 (pc' := 61) (pm_q103_1 (Nat.le_of_ble_eq_true rfl)) rfl ?_
                      exact ih_4140 _ (sf_up hN_4140 e4351 B4170 (by decide) (by decide)) h4344 m_4140 z4350 (.long z4185) (pm_no) (.long z4201) (pm_no) (.int z4208) T4345 F4349 W_4140 (sf_weak B4352 (by decide) (by decide)) rfl rfl rfl rfl
                    have B4353 : sf_B 2 3 z4247 := sf_neL0 c4342 sf_k1 B4341
                    by_cases c4354 : z4247 = 2
                    · rw [c4354]
                      refine pm_R_br pm_M104 (pc' := 36) (st' := []) rfl rfl ?_
                      refine pm_R_lo pm_M104 (pc' := 37) rfl rfl rfl ?_
                      refine pm_R_lo pm_M104 (pc' := 38) rfl rfl rfl ?_
                      refine pm_R_cs pm_M104 (pc' := 41) (ra := [.long z4201, .long z4185]) (rest := []) (ls' := [.long z4185, pm_no, .long z4201, pm_no, pm_no, pm_no, pm_no]) rfl rfl (Or.inl rfl) pm_M105 rfl rfl (Nat.le_of_ble_eq_true rfl) rfl rfl ?_
                      refine cl_c105 (d := d + 0)  (fun r4355 => ?_)
                      show pm_R _ 104 41 [.int 2, .long z4185, pm_no, .long z4201, pm_no] [.long r4355] _ _
                      refine pm_R_ret pm_M104 (r := some (.long r4355)) rfl rfl ?_
                      show pm_R _ 103 180 [.ref 31, .ref a0, .int a1, .int a2, .int z13, .int x5_2774, .int z2793, .int z2802, .int x8_4140, .long z4185, pm_no, .long z4201, pm_no, .int z4208] [.long r4355, .long z4229, .int z4208, .ref 32] _ _
                      refine sf_R_lany pm_M103 (pc' := 181) (st := [.int z4208, .ref 32]) (pm_q103_1 (Nat.le_of_ble_eq_true rfl)) rfl rfl (fun z4362 => ?_)
                      refine cl_R_lst G pm_M103 T_4140 (pc' := 182) (pm_q103_1 (Nat.le_of_ble_eq_true rfl)) e4189 (by decide) ⟨_, rfl⟩ (sf_in B4210 (by decide) (by decide)) rfl (fun h4363 T4364 F4365 e4366 => ?_)
                      have F4367 := F4365.cl (ck := ck) T_4140.1
                      have F4368 := F_4140.trans (N := 0) (S := 0) F4367 (by decide) (by decide) (by decide)
                      refine sf_R_iinc pm_M103 (pc' := 185) (ls' := fun z => [.ref 31, .ref a0, .int a1, .int a2, .int z13, .int x5_2774, .int z2793, .int z2802, .int z, .long z4185, pm_no, .long z4201, pm_no, .int z4208]) (pm_q103_1 (Nat.le_of_ble_eq_true rfl)) B4170 rfl (by decide) (by decide) (by decide) (fun _ => rfl) rfl (fun z4369 e4370 B4371 => ?_)
                      show pm_R _ 103 185 [.ref 31, .ref a0, .int a1, .int a2, .int z13, .int x5_2774, .int z2793, .int z2802, .int z4369, .long z4185, pm_no, .long z4201, pm_no, .int z4208] [] _ _
                      refine pm_R_br pm_M103 (pc' := 61) (pm_q103_1 (Nat.le_of_ble_eq_true rfl)) rfl ?_
                      exact ih_4140 _ (sf_up hN_4140 e4370 B4170 (by decide) (by decide)) h4363 m_4140 z4369 (.long z4185) (pm_no) (.long z4201) (pm_no) (.int z4208) T4364 F4368 W_4140 (sf_weak B4371 (by decide) (by decide)) rfl rfl rfl rfl
                    have B4372 : sf_B 3 3 z4247 := sf_neL0 c4354 sf_k2 B4353
                    rw [sf_pt2 B4372 sf_k3]
                    refine pm_R_br pm_M104 (pc' := 42) (st' := []) rfl rfl ?_
                    refine pm_R_lo pm_M104 (pc' := 43) rfl rfl rfl ?_
                    refine pm_R_ldc2 pm_M104 (pc' := 46) rfl rfl rfl ?_
                    refine pm_R_cs pm_M104 (pc' := 49) (ra := [.long 2, .long z4185]) (rest := []) (ls' := [.long z4185, pm_no, .long 2, pm_no, pm_no, pm_no, pm_no]) rfl rfl (Or.inl rfl) pm_M105 rfl rfl (Nat.le_of_ble_eq_true rfl) rfl rfl ?_
                    refine cl_c105 (d := d + 0)  (fun r4373 => ?_)
                    show pm_R _ 104 49 [.int 3, .long z4185, pm_no, .long z4201, pm_no] [.long r4373] _ _
                    refine pm_R_lo pm_M104 (pc' := 50) rfl rfl rfl ?_
                    refine pm_R_cs pm_M104 (pc' := 53) (ra := [.long z4201]) (rest := [.long r4373]) (ls' := [.long z4201, pm_no, pm_no, pm_no, pm_no]) rfl rfl (Or.inl rfl) pm_M106 rfl rfl (Nat.le_of_ble_eq_true rfl) rfl rfl ?_
                    refine cl_c106 (d := d + 0)  (fun r4380 => ?_)
                    show pm_R _ 104 53 [.int 3, .long z4185, pm_no, .long z4201, pm_no] [.long r4380, .long r4373] _ _
                    refine pm_R_cs pm_M104 (pc' := 56) (ra := [.long r4380, .long r4373]) (rest := []) (ls' := [.long r4373, pm_no, .long r4380, pm_no, pm_no, pm_no, pm_no]) rfl rfl (Or.inl rfl) pm_M105 rfl rfl (Nat.le_of_ble_eq_true rfl) rfl rfl ?_
                    refine cl_c105 (d := d + 0)  (fun r4387 => ?_)
                    show pm_R _ 104 56 [.int 3, .long z4185, pm_no, .long z4201, pm_no] [.long r4387] _ _
                    refine pm_R_ret pm_M104 (r := some (.long r4387)) rfl rfl ?_
                    show pm_R _ 103 180 [.ref 31, .ref a0, .int a1, .int a2, .int z13, .int x5_2774, .int z2793, .int z2802, .int x8_4140, .long z4185, pm_no, .long z4201, pm_no, .int z4208] [.long r4387, .long z4229, .int z4208, .ref 32] _ _
                    refine sf_R_lany pm_M103 (pc' := 181) (st := [.int z4208, .ref 32]) (pm_q103_1 (Nat.le_of_ble_eq_true rfl)) rfl rfl (fun z4394 => ?_)
                    refine cl_R_lst G pm_M103 T_4140 (pc' := 182) (pm_q103_1 (Nat.le_of_ble_eq_true rfl)) e4189 (by decide) ⟨_, rfl⟩ (sf_in B4210 (by decide) (by decide)) rfl (fun h4395 T4396 F4397 e4398 => ?_)
                    have F4399 := F4397.cl (ck := ck) T_4140.1
                    have F4400 := F_4140.trans (N := 0) (S := 0) F4399 (by decide) (by decide) (by decide)
                    refine sf_R_iinc pm_M103 (pc' := 185) (ls' := fun z => [.ref 31, .ref a0, .int a1, .int a2, .int z13, .int x5_2774, .int z2793, .int z2802, .int z, .long z4185, pm_no, .long z4201, pm_no, .int z4208]) (pm_q103_1 (Nat.le_of_ble_eq_true rfl)) B4170 rfl (by decide) (by decide) (by decide) (fun _ => rfl) rfl (fun z4401 e4402 B4403 => ?_)
                    show pm_R _ 103 185 [.ref 31, .ref a0, .int a1, .int a2, .int z13, .int x5_2774, .int z2793, .int z2802, .int z4401, .long z4185, pm_no, .long z4201, pm_no, .int z4208] [] _ _
                    refine pm_R_br pm_M103 (pc' := 61) (pm_q103_1 (Nat.le_of_ble_eq_true rfl)) rfl ?_
                    exact ih_4140 _ (sf_up hN_4140 e4402 B4170 (by decide) (by decide)) h4395 m_4140 z4401 (.long z4185) (pm_no) (.long z4201) (pm_no) (.int z4208) T4396 F4400 W_4140 (sf_weak B4403 (by decide) (by decide)) rfl rfl rfl rfl
        exact L_4140 _ h_2774 m_2774 0 (g9_2774) (g10_2774) (g11_2774) (g12_2774) (g13_2774) T_2774 F_2774 (rf_W.refl _ _) (sf_weak sf_k0 (by decide) (by decide)) Cg10_2774 Cg12_2774 Cg13_2774 rfl
  exact L_2774 _ h22 m21 a1 (pm_no) (pm_no) (pm_no) (pm_no) (pm_no) (pm_no) (pm_no) (pm_no) T23 F26 (rf_W.refl _ _) Ba1 rfl rfl rfl rfl rfl rfl rfl

set_option maxRecDepth 100000 in
set_option maxHeartbeats 4000000 in
/-- SilentTable$MeaningChart.meaningsOf -/
theorem cl_c100 {d : Nat} {ck : cl_K} {E : Nat → pm_E} {m : Nat → Int32} {o : Nat → Option Nat} {h : pm_H} {Q : Option Value → pm_H → Prop} {a0 : Nat} {a2 : Int32} (G : cl_G ck E) (T : cl_T ck E m o h) (hk0 : ck a0 = 1) (K : ∀ (r : Int64) (m' : Nat → Int32) (h' : pm_H), cl_T ck E m' o h' → cl_F ck [32] 0 0 h h' → rf_W [] m m' → Q (some (.long r)) h') : pm_R (d + 3) 100 0 [.ref 31, .ref a0, .ref 38, .int a2, pm_no, pm_no] [] h Q := by
  refine pm_R_lo pm_M100 (pc' := 1) rfl rfl rfl ?_
  refine pm_R_op pm_M100 (pc' := 2) (st' := [.int 1, .int a2]) rfl rfl rfl ?_
  refine pm_R_icmp pm_M100 (t := 11) (pc' := 5) rfl rfl rfl (fun c1 => ?_) (fun c1 => ?_)
  · have B2 : sf_B (-2147483648) 0 a2 := sf_ltL c1 (sf_any a2) sf_k1
    refine pm_R_op pm_M100 (pc' := 12) (st' := [.long 0]) rfl rfl rfl ?_
    exact pm_R_ret pm_M100 (r := some (.long 0)) rfl rfl (K 0 m h T (cl_F.refl (ck := ck) (A := [32]) (n := 0) (s := 0) T.1) (rf_W.refl [] m))
  · have B3 : sf_B 1 2147483647 a2 := sf_leR (Int32.not_lt.mp c1) sf_k1 (sf_any a2)
    refine pm_R_lo pm_M100 (pc' := 6) rfl rfl rfl ?_
    refine pm_R_op pm_M100 (pc' := 8) (st' := [.int 12, .int a2]) rfl rfl rfl ?_
    refine pm_R_icmp pm_M100 (t := 13) (pc' := 11) rfl rfl rfl (fun c4 => ?_) (fun c4 => ?_)
    · have B5 : sf_B 1 12 a2 := sf_leL c4 B3 sf_k12
      refine pm_R_op pm_M100 (pc' := 14) (st' := [.int 0]) rfl rfl rfl ?_
      refine pm_R_lo pm_M100 (pc' := 16) (ls' := [.ref 31, .ref a0, .ref 38, .int a2, .int 0, pm_no]) (st' := []) rfl rfl rfl ?_
      have L_498 : ∀ (N : Nat) (h_498 : pm_H) (m_498 : Nat → Int32) (x4_498 : Int32) (g5_498 : Value), cl_T ck E m_498 o h_498 → cl_F ck [32] 0 0 h h_498 → rf_W [] m m_498 → sf_B 0 12 x4_498 → g5_498.category = 1 → (12 - x4_498.toInt).toNat = N → pm_R (d + 3) 100 16 [.ref 31, .ref a0, .ref 38, .int a2, .int x4_498, g5_498] [] h_498 Q := by
        intro N
        induction N using Nat.strongRecOn with
        | ind N ih_498 =>
          intro h_498 m_498 x4_498 g5_498 T_498 F_498 W_498 Bx4_498 Cg5_498 hN_498
          have W501 : rf_W [] m m_498 := (rf_W.refl [] m).trans W_498 (by decide)
          refine pm_R_lo pm_M100 (pc' := 18) rfl rfl rfl ?_
          refine pm_R_lo pm_M100 (pc' := 19) rfl rfl rfl ?_
          refine pm_R_icmp pm_M100 (t := 65) (pc' := 22) rfl rfl rfl (fun c502 => ?_) (fun c502 => ?_)
          · have B503 : sf_B 1 12 x4_498 := sf_leR c502 B5 Bx4_498
            refine pm_R_lo pm_M100 (pc' := 66) rfl rfl rfl ?_
            refine pm_R_get pm_M100 (pc' := 69) (v := .ref 32) rfl rfl T_498.e31 (by decide) (T_498.lt (by decide)) rfl rfl ?_
            refine pm_R_op pm_M100 (pc' := 70) (st' := [.int 0, .ref 32]) rfl rfl rfl ?_
            refine pm_R_lo pm_M100 (pc' := 71) rfl rfl rfl ?_
            refine pm_R_op pm_M100 (pc' := 72) (st' := [.int 1, .int a2, .int 0, .ref 32]) rfl rfl rfl ?_
            refine sf_R_isub pm_M100 (pc' := 73) rfl rfl B5 sf_k1 (by decide) (by decide) (fun z504 e505 B506 => ?_)
            refine pm_R_cs pm_M100 (pc' := 76) (ra := [.int z504, .int 0]) (rest := [.ref 32]) (ls' := [.int 0, .int z504]) rfl rfl (Or.inr rfl) pm_M73 rfl rfl (Nat.le_of_ble_eq_true rfl) rfl rfl ?_
            refine pm_R_lo pm_M73 (pc' := 1) rfl rfl rfl ?_
            refine pm_R_lo pm_M73 (pc' := 2) rfl rfl rfl ?_
            refine pm_R_op pm_M73 (pc' := 3) (st' := [.int 1, .int z504, .int z504]) rfl rfl rfl ?_
            refine sf_R_iadd pm_M73 (pc' := 4) rfl rfl B506 sf_k1 (by decide) (by decide) (fun z507 e508 B509 => ?_)
            refine sf_R_imul pm_M73 (pc' := 5) rfl rfl B506 B509 (by decide) (by decide) (by decide) (fun z510 e511 B512 => ?_)
            refine pm_R_op pm_M73 (pc' := 6) (st' := [.int 2, .int z510]) rfl rfl rfl ?_
            refine sf_R_idiv pm_M73 (pc' := 7) rfl rfl B512 sf_k2 (by decide) (by decide) (fun z513 e514 B515 => ?_)
            refine pm_R_lo pm_M73 (pc' := 8) rfl rfl rfl ?_
            refine sf_R_iadd pm_M73 (pc' := 9) rfl rfl B515 sf_k0 (by decide) (by decide) (fun z516 e517 B518 => ?_)
            refine pm_R_ret pm_M73 (r := some (.int z516)) rfl (pm_ret_i _) ?_
            show pm_R _ 100 76 [.ref 31, .ref a0, .ref 38, .int a2, .int x4_498, g5_498] [.int z516, .ref 32] _ _
            refine pm_R_op pm_M100 (pc' := 78) (st' := [.int 6, .int z516, .ref 32]) rfl rfl rfl ?_
            refine sf_R_imul pm_M100 (pc' := 79) rfl rfl B518 sf_k6 (by decide) (by decide) (by decide) (fun z519 e520 B521 => ?_)
            obtain ⟨f525, e526⟩ := T_498.C 32 (by decide) (by decide)
            obtain ⟨z522, ez523⟩ : ∃ y, f525 (Int32.toNatClampNeg z519) = y := ⟨_, rfl⟩
            refine pm_R_lald pm_M100 (pc' := 80) (v := z522) rfl e526 (by decide) (T_498.lt (by decide)) (sf_in B521 (by decide) (by decide)) ez523 rfl ?_
            exact pm_R_ret pm_M100 (r := some (.long z522)) rfl rfl (K z522 m_498 h_498 T_498 F_498 W501)
          · have B528 : sf_B 0 11 x4_498 := sf_ltL (Int32.not_le.mp c502) Bx4_498 B5
            refine pm_R_lo pm_M100 (pc' := 23) rfl rfl rfl ?_
            refine pm_R_lo pm_M100 (pc' := 24) rfl rfl rfl ?_
            refine pm_R_lo pm_M100 (pc' := 25) rfl rfl rfl ?_
            refine pm_R_lo pm_M100 (pc' := 27) rfl rfl rfl ?_
            obtain ⟨f532, e533⟩ := T_498.C 38 (by decide) (by decide)
            obtain ⟨z529, ez530⟩ : ∃ y, f532 (Int32.toNatClampNeg x4_498) = y := ⟨_, rfl⟩
            refine pm_R_iald pm_M100 (pc' := 28) (v := z529) rfl e533 (T_498.lt (by decide)) (sf_in B528 (by decide) (by decide)) ez530 rfl ?_
            refine pm_R_lo pm_M100 (pc' := 30) rfl rfl rfl ?_
            refine pm_R_cv pm_M100 (pc' := 33) (a := 31) (ra := [.int x4_498, .int z529, .ref a0]) (rest := []) (ls' := [.ref 31, .ref a0, .int z529, .int x4_498, pm_no, pm_no, pm_no]) rfl rfl (Or.inl rfl) pm_M101 T_498.e31 rfl (by decide) (T_498.lt (by decide)) rfl rfl (Nat.le_of_ble_eq_true rfl) rfl rfl ?_
            refine cl_c101 (d := d + 0) G T_498 hk0 B528 (fun m537 h538 T539 F540 W541 => ?_)
            have F542 := F_498.trans (N := 0) (S := 0) F540 (by decide) (by decide) (by decide)
            have W543 : rf_W [] m m537 := W501.trans W541 (by decide)
            have W544 : rf_W [] m m537 := W_498.trans W541 (by decide)
            show pm_R _ 100 33 [.ref 31, .ref a0, .ref 38, .int a2, .int x4_498, g5_498] [] _ _
            refine pm_R_lo pm_M100 (pc' := 35) rfl rfl rfl ?_
            refine pm_R_op pm_M100 (pc' := 36) (st' := [.int 1, .int x4_498]) rfl rfl rfl ?_
            refine sf_R_isub pm_M100 (pc' := 37) rfl rfl B528 sf_k1 (by decide) (by decide) (fun z545 e546 B547 => ?_)
            refine pm_R_lo pm_M100 (pc' := 39) (ls' := [.ref 31, .ref a0, .ref 38, .int a2, .int x4_498, .int z545]) (st' := []) rfl rfl rfl ?_
            have L_592 : ∀ (N : Nat) (h_592 : pm_H) (m_592 : Nat → Int32) (x5_592 : Int32), cl_T ck E m_592 o h_592 → cl_F ck [32] 0 0 h h_592 → rf_W [] m537 m_592 → sf_B (-1) 10 x5_592 → (x5_592.toInt - (-1)).toNat = N → pm_R (d + 3) 100 39 [.ref 31, .ref a0, .ref 38, .int a2, .int x4_498, .int x5_592] [] h_592 Q := by
              intro N
              induction N using Nat.strongRecOn with
              | ind N ih_592 =>
                intro h_592 m_592 x5_592 T_592 F_592 W_592 Bx5_592 hN_592
                have W595 : rf_W [] m m_592 := W543.trans W_592 (by decide)
                have W596 : rf_W [] m m_592 := W544.trans W_592 (by decide)
                refine pm_R_lo pm_M100 (pc' := 41) rfl rfl rfl ?_
                refine pm_R_ifc pm_M100 (t := 59) (pc' := 44) rfl rfl rfl (fun c597 => ?_) (fun c597 => ?_)
                · have B598 : sf_B (-1) (-1) x5_592 := sf_ltL c597 Bx5_592 sf_k0
                  refine sf_R_iinc pm_M100 (pc' := 62) (ls' := fun z => [.ref 31, .ref a0, .ref 38, .int a2, .int z, .int x5_592]) rfl B528 rfl (by decide) (by decide) (by decide) (fun _ => rfl) rfl (fun z599 e600 B601 => ?_)
                  show pm_R _ 100 62 [.ref 31, .ref a0, .ref 38, .int a2, .int z599, .int x5_592] [] _ _
                  refine pm_R_br pm_M100 (pc' := 16) rfl rfl ?_
                  exact ih_498 _ (sf_up hN_498 e600 B528 (by decide) (by decide)) h_592 m_592 z599 (.int x5_592) T_592 F_592 W596 (sf_weak B601 (by decide) (by decide)) rfl rfl
                · have B602 : sf_B 0 10 x5_592 := sf_leR (Int32.not_lt.mp c597) sf_k0 Bx5_592
                  refine pm_R_lo pm_M100 (pc' := 45) rfl rfl rfl ?_
                  refine pm_R_lo pm_M100 (pc' := 46) rfl rfl rfl ?_
                  refine pm_R_lo pm_M100 (pc' := 48) rfl rfl rfl ?_
                  refine pm_R_lo pm_M100 (pc' := 50) rfl rfl rfl ?_
                  refine pm_R_cv pm_M100 (pc' := 53) (a := 31) (ra := [.int x4_498, .int x5_592, .ref a0]) (rest := []) (ls' := [.ref 31, .ref a0, .int x5_592, .int x4_498, pm_no, pm_no, pm_no, pm_no, pm_no, pm_no, pm_no, pm_no, pm_no, pm_no]) rfl rfl (Or.inl rfl) pm_M103 T_592.e31 rfl (by decide) (T_592.lt (by decide)) rfl rfl (Nat.le_of_ble_eq_true rfl) rfl rfl ?_
                  refine cl_c103 (d := d + 0) G T_592 hk0 (sf_weak B602 (by decide) (by decide)) B528 (fun m605 h606 T607 F608 W609 => ?_)
                  have F610 := F_592.trans (N := 0) (S := 0) F608 (by decide) (by decide) (by decide)
                  have W611 : rf_W [] m m605 := W595.trans W609 (by decide)
                  have W612 : rf_W [] m m605 := W596.trans W609 (by decide)
                  have W613 : rf_W [] m537 m605 := W_592.trans W609 (by decide)
                  show pm_R _ 100 53 [.ref 31, .ref a0, .ref 38, .int a2, .int x4_498, .int x5_592] [] _ _
                  refine sf_R_iinc pm_M100 (pc' := 56) (ls' := fun z => [.ref 31, .ref a0, .ref 38, .int a2, .int x4_498, .int z]) rfl B602 rfl (by decide) (by decide) (by decide) (fun _ => rfl) rfl (fun z614 e615 B616 => ?_)
                  show pm_R _ 100 56 [.ref 31, .ref a0, .ref 38, .int a2, .int x4_498, .int z614] [] _ _
                  refine pm_R_br pm_M100 (pc' := 39) rfl rfl ?_
                  exact ih_592 _ (sf_dn hN_592 e615 B602 (by decide) (by decide)) h606 m605 z614 T607 F610 W613 (sf_weak B616 (by decide) (by decide)) rfl
            exact L_592 _ h538 m537 z545 T539 F542 (rf_W.refl _ _) B547 rfl
      exact L_498 _ h m 0 (pm_no) T (cl_F.refl (ck := ck) (A := [32]) (n := 0) (s := 0) T.1) (rf_W.refl _ _) (sf_weak sf_k0 (by decide) (by decide)) rfl rfl
    · have B617 : sf_B 13 2147483647 a2 := sf_ltR (Int32.not_le.mp c4) sf_k12 B3
      refine pm_R_op pm_M100 (pc' := 12) (st' := [.long 0]) rfl rfl rfl ?_
      exact pm_R_ret pm_M100 (r := some (.long 0)) rfl rfl (K 0 m h T (cl_F.refl (ck := ck) (A := [32]) (n := 0) (s := 0) T.1) (rf_W.refl [] m))

set_option maxRecDepth 100000 in
set_option maxHeartbeats 4000000 in
/-- SilentTable.setWorn -/
theorem cl_c99 {d : Nat} {ck : cl_K} {E : Nat → pm_E} {m : Nat → Int32} {o : Nat → Option Nat} {h : pm_H} {Q : Option Value → pm_H → Prop} {a0 : Nat} {a1 : Nat} {a2 : Int32} (G : cl_G ck E) (T : cl_T ck E m o h) (hk0 : ck a0 = 1) (hk1 : ck a1 = 7) (Ba2 : sf_B 0 9 a2) (K : ∀ (m' : Nat → Int32) (h' : pm_H), cl_T ck E m' o h' → cl_F ck [38] 0 0 h h' → rf_W [] m m' → Q none h') : pm_R (d + 0) 99 0 [.ref 16, .ref a0, .ref a1, .int a2, pm_no] [] h Q := by
  refine pm_R_op pm_M99 (pc' := 1) (st' := [.int 0]) rfl rfl rfl ?_
  refine pm_R_lo pm_M99 (pc' := 3) (ls' := [.ref 16, .ref a0, .ref a1, .int a2, .int 0]) (st' := []) rfl rfl rfl ?_
  have L_359 : ∀ (N : Nat) (h_359 : pm_H) (m_359 : Nat → Int32) (x4_359 : Int32), cl_T ck E m_359 o h_359 → cl_F ck [38] 0 0 h h_359 → rf_W [] m m_359 → sf_B 0 12 x4_359 → (12 - x4_359.toInt).toNat = N → pm_R (d + 0) 99 3 [.ref 16, .ref a0, .ref a1, .int a2, .int x4_359] [] h_359 Q := by
    intro N
    induction N using Nat.strongRecOn with
    | ind N ih_359 =>
      intro h_359 m_359 x4_359 T_359 F_359 W_359 Bx4_359 hN_359
      have W362 : rf_W [] m m_359 := (rf_W.refl [] m).trans W_359 (by decide)
      refine pm_R_lo pm_M99 (pc' := 5) rfl rfl rfl ?_
      refine pm_R_lo pm_M99 (pc' := 6) rfl rfl rfl ?_
      obtain ⟨n363, f364, h365, h366, eE367, eE368, b369⟩ := (G.2.2.1 a1 hk1).2
      have kq370 := (G.2.2.1 a1 hk1).1
      refine pm_R_get pm_M99 (pc' := 9) (v := .int (Int32.ofNat n363)) rfl rfl (T_359.im hk1 (by decide) (by decide) eE367) (G.ge hk1 (by decide)) (T_359.al hk1 (by decide)) rfl rfl ?_
      refine pm_R_icmp pm_M99 (t := 42) (pc' := 12) rfl rfl rfl (fun c371 => ?_) (fun c371 => ?_)
      · have B372 : sf_B 1 12 x4_359 := sf_leR c371 (sf_ofB1 h366 h365 (by decide)) Bx4_359
        exact pm_R_ret pm_M99 (r := none) rfl rfl (K m_359 h_359 T_359 F_359 W362)
      · have B373 : sf_B 0 11 x4_359 := sf_ltL (Int32.not_le.mp c371) Bx4_359 (sf_ofB1 h366 h365 (by decide))
        refine pm_R_lo pm_M99 (pc' := 13) rfl rfl rfl ?_
        refine pm_R_get pm_M99 (pc' := 16) (v := .ref 38) rfl rfl T_359.e16 (by decide) (T_359.lt (by decide)) rfl rfl ?_
        refine pm_R_lo pm_M99 (pc' := 18) rfl rfl rfl ?_
        refine pm_R_lo pm_M99 (pc' := 19) rfl rfl rfl ?_
        obtain ⟨rc374, tc375, rs376, fv377, fw378, fr379, ft380, fn381, h382, h383, B384, eE385, eE386, eE387, eE388, eE389, eE390, b391, b392, b393⟩ := (G.2.1 a0 hk0).2.2.2.2.2
        have kq394 := G.2.1 a0 hk0
        refine pm_R_get pm_M99 (pc' := 22) (v := .ref (a0 + 2)) rfl rfl (T_359.im hk0 (by decide) (by decide) eE385) (G.ge hk0 (by decide)) (T_359.al hk0 (by decide)) rfl rfl ?_
        refine pm_R_lo pm_M99 (pc' := 23) rfl rfl rfl ?_
        refine pm_R_op pm_M99 (pc' := 25) (st' := [.int 10, .int a2, .ref (a0 + 2), .int x4_359, .ref 38]) rfl rfl rfl ?_
        refine sf_R_imul pm_M99 (pc' := 26) rfl rfl Ba2 sf_k10 (by decide) (by decide) (by decide) (fun z395 e396 B397 => ?_)
        refine pm_R_lo pm_M99 (pc' := 27) rfl rfl rfl ?_
        refine pm_R_get pm_M99 (pc' := 30) (v := .ref (a1 + 1)) rfl rfl (T_359.im hk1 (by decide) (by decide) eE367) (G.ge hk1 (by decide)) (T_359.al hk1 (by decide)) rfl rfl ?_
        refine pm_R_lo pm_M99 (pc' := 32) rfl rfl rfl ?_
        have q401 := cl_in1 (n := n363) (Nat.le_trans h366 (by decide)) (Int32.not_le.mp c371) B373 (by decide)
        obtain ⟨z398, ez399⟩ : ∃ y, f364 (Int32.toNatClampNeg x4_359) = y := ⟨_, rfl⟩
        have B400 : sf_B 0 9 z398 := ez399 ▸ b369 _
        refine pm_R_iald pm_M99 (pc' := 33) (v := z398) rfl (T_359.im kq370 (by decide) (by decide) eE368) (T_359.al kq370 (by decide)) q401.1 ez399 rfl ?_
        refine sf_R_iadd pm_M99 (pc' := 34) rfl rfl B397 B400 (by decide) (by decide) (fun z402 e403 B404 => ?_)
        obtain ⟨z405, ez406⟩ : ∃ y, fw378 (Int32.toNatClampNeg z402) = y := ⟨_, rfl⟩
        refine pm_R_iald pm_M99 (pc' := 35) (v := z405) rfl (T_359.im kq394.2.1 (by decide) (by decide) eE387) (T_359.al kq394.2.1 (by decide)) (sf_in B404 (by decide) (by decide)) ez406 rfl ?_
        obtain ⟨f408, e409⟩ := T_359.C 38 (by decide) (by decide)
        refine cl_R_ist G pm_M99 T_359 (pc' := 36) rfl e409 (by decide) ⟨_, rfl⟩ (sf_in B373 (by decide) (by decide)) rfl (fun h411 T412 F413 e414 => ?_)
        have F415 := F413.cl (ck := ck) T_359.1
        have F416 := F_359.trans (N := 0) (S := 0) F415 (by decide) (by decide) (by decide)
        refine sf_R_iinc pm_M99 (pc' := 39) (ls' := fun z => [.ref 16, .ref a0, .ref a1, .int a2, .int z]) rfl B373 rfl (by decide) (by decide) (by decide) (fun _ => rfl) rfl (fun z417 e418 B419 => ?_)
        show pm_R _ 99 39 [.ref 16, .ref a0, .ref a1, .int a2, .int z417] [] _ _
        refine pm_R_br pm_M99 (pc' := 3) rfl rfl ?_
        exact ih_359 _ (sf_up hN_359 e418 B373 (by decide) (by decide)) h411 m_359 z417 T412 F416 W_359 (sf_weak B419 (by decide) (by decide)) rfl
  exact L_359 _ h m 0 T (cl_F.refl (ck := ck) (A := [38]) (n := 0) (s := 0) T.1) (rf_W.refl _ _) (sf_weak sf_k0 (by decide) (by decide)) rfl
