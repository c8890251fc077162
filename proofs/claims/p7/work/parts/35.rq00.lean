theorem sf_aux89 (v0 v1 : Int) (q0 : v0 = v1 + 20) (q1 : v0 ≤ 600) : v1 ≤ 580 := by omega
theorem sf_aux90 (v0 v1 v2 v3 v4 v5 v6 v7 v8 v9 v10 v11 v12 v13 v14 v15 v16 v17 v18 v19 v20 : Int) (q0 : v0 = v1 + 1) (q1 : v2 = v0 + 1) (q2 : v3 = v2 + 1) (q3 : v4 = v3 + 1) (q4 : v5 = v4 + 1) (q5 : v6 = v5 + 1) (q6 : v7 = v6 + 1) (q7 : v8 = v7 + 1) (q8 : v9 = v8 + 1) (q9 : v10 = v9 + 1) (q10 : v11 = v10 + 1) (q11 : v12 = v11 + 1) (q12 : v13 = v12 + 1) (q13 : v14 = v13 + 1) (q14 : v15 = v14 + 1) (q15 : v16 = v15 + 1) (q16 : v17 = v16 + 1) (q17 : v18 = v17 + 1) (q18 : v19 = v18 + 1) (q19 : v20 = v19 + 1) : v20 = v1 + 20 := by omega
theorem sf_aux91 (v0 v1 : Int) (q0 : v0 = v1 + 20) (q1 : 600 < v0) : 580 < v1 := by omega
set_option maxRecDepth 100000 in
set_option maxHeartbeats 4000000 in
/-- SilentTableModel.feed -/
theorem rf_c171 {d : Nat} {m : Nat → Int32} {w : Int64} {h : pm_H} {Q : Option Value → pm_H → Prop} {a0 : Int32} {a1 : Int32} {a2 : Int32} {a3 : Int32} {a4 : Int32} (T : rf_T m w h)  (K : ∀ (r : Int32) (m_q : Nat → Int32) (w_q : Int64) (h_q : pm_H), rf_T m_q w_q h_q → rf_G [41, 42, 43] h h_q → rf_W [0] m m_q → (∀ g : Nat → Int32, h.2.2 43 = .inl (0, 4, .inl g) → ((580 < (g 0).toInt ∧ r.toInt = -1 ∧ h_q.2.2 43 = .inl (0, 4, .inl g)) ∨ ((g 0).toInt ≤ 580 ∧ r.toInt = (g 0).toInt + 20 ∧ ∃ g_q : Nat → Int32, h_q.2.2 43 = .inl (0, 4, .inl g_q) ∧ (g_q 0).toInt = (g 0).toInt + 20 ∧ ∀ j, j ≠ 0 → g_q j = g j))) → sf_B (-1) 600 r → Q (some (.int r)) h_q) : pm_R (d + 1) 171 0 [.ref 41, .int a0, .int a1, .int a2, .int a3, .int a4] [] h Q := by
  obtain ⟨f1, e2, b3⟩ := T.2.2.2.1 43 (by decide) (by decide)
  refine pm_R_lo pm_M171 (pc_q := 1) rfl rfl rfl ?_
  refine pm_R_op pm_M171 (pc_q := 2) (st_q := [.int 0, .ref 41]) rfl rfl rfl ?_
  refine rf_R_put pm_M171 T (pc_q := 5) rfl rfl rfl (by decide) rfl rfl sf_k0 rfl rfl (fun h4 m7 em8 T5 F6 => ?_)
  have F9 := (rf_G.refl [41, 42, 43] h).trans F6 (by decide)
  have B10 : sf_B 0 0 (m7 0) := by rw [em8]; exact sf_k0
  have W12 : rf_W [0] m m7 := by rw [em8]; exact (rf_W.refl [0] m).put (by decide)
  refine pm_R_lo pm_M171 (pc_q := 6) rfl rfl rfl ?_
  refine rf_R_get pm_M171 T5 (pc_q := 9) (v := .ref 43) rfl rfl rfl rfl ?_
  refine pm_R_op pm_M171 (pc_q := 10) (st_q := [.int 0, .ref 43]) rfl rfl rfl ?_
  have e13 := (F6.cell (by decide) e2)
  refine pm_R_iald pm_M171 (pc_q := 11) (v := (f1 0)) rfl e13 (Nat.lt_of_lt_of_le (by decide) T5.1) rfl rfl rfl ?_
  refine pm_R_op pm_M171 (pc_q := 13) (st_q := [.int 20, .int (f1 0)]) rfl rfl rfl ?_
  refine sf_R_iadd pm_M171 (pc_q := 14) rfl rfl (b3 0) sf_k20 (by decide) (by decide) (fun z16 e17 B18 => ?_)
  refine pm_R_op pm_M171 (pc_q := 17) (st_q := [.int 600, .int z16]) rfl rfl rfl ?_
  refine pm_R_icmp pm_M171 (t := 22) (pc_q := 20) rfl rfl rfl (fun c19 => ?_) (fun c19 => ?_)
  · have B20 : sf_B 20 600 z16 := sf_leL c19 B18 sf_k600
    have B21 : sf_B 0 580 (f1 0) := sf_addL e17 B20 sf_k20 (b3 0)
    refine pm_R_lo pm_M171 (pc_q := 23) rfl rfl rfl ?_
    refine pm_R_lo pm_M171 (pc_q := 24) rfl rfl rfl ?_
    refine pm_R_cv pm_M171 (pc_q := 27) (a := 41) (ra := [.int a0]) (rest := []) (ls_q := [.ref 41, .int a0, pm_no]) rfl rfl (Or.inl rfl) pm_M172 T5.2.1 rfl (by decide) (Nat.lt_of_lt_of_le (by decide) T5.1) rfl rfl (Nat.le_of_ble_eq_true rfl) rfl rfl ?_
    refine pm_R_op pm_M172 (pc_q := 2) (st_q := [.int 24]) rfl rfl rfl ?_
    refine pm_R_lo pm_M172 (pc_q := 3) (ls_q := [.ref 41, .int a0, .int 24]) (st_q := []) rfl rfl rfl ?_
    refine pm_R_lo pm_M172 (pc_q := 4) rfl rfl rfl ?_
    refine pm_R_br pm_M172 (pc_q := 7) (st_q := []) rfl rfl ?_
    refine pm_R_lo pm_M172 (pc_q := 8) rfl rfl rfl ?_
    refine rf_R_get pm_M172 T5 (pc_q := 11) (v := .ref 42) rfl rfl rfl rfl ?_
    refine pm_R_lo pm_M172 (pc_q := 12) rfl rfl rfl ?_
    refine rf_R_get pm_M172 T5 (pc_q := 15) (v := .ref 43) rfl rfl rfl rfl ?_
    refine pm_R_op pm_M172 (pc_q := 16) (st_q := [.int 0, .ref 43, .ref 42]) rfl rfl rfl ?_
    refine pm_R_iald pm_M172 (pc_q := 17) (v := (f1 0)) rfl e13 (Nat.lt_of_lt_of_le (by decide) T5.1) rfl rfl rfl ?_
    refine pm_R_lo pm_M172 (pc_q := 18) rfl rfl rfl ?_
    refine pm_R_lo pm_M172 (pc_q := 19) rfl rfl rfl ?_
    refine sf_R_iany pm_M172 (pc_q := 20) (st := [.int (f1 0), .ref 42]) rfl rfl rfl (fun z27 => ?_)
    refine sf_R_iany pm_M172 (pc_q := 21) (st := [.int (f1 0), .ref 42]) rfl rfl rfl (fun z28 => ?_)
    obtain ⟨f29, e30⟩ := T5.2.2.2.1 42 (by decide) (by decide)
    refine rf_R_bst pm_M172 T5 (pc_q := 22) rfl e30 (sf_in B21 (by decide) (by decide)) rfl (fun h32 T33 F34 e35 => ?_)
    have F36 := F9.trans F34 (by decide)
    refine pm_R_lo pm_M172 (pc_q := 23) rfl rfl rfl ?_
    refine rf_R_get pm_M172 T33 (pc_q := 26) (v := .ref 43) rfl rfl rfl rfl ?_
    refine pm_R_op pm_M172 (pc_q := 27) (st_q := [.int 0, .ref 43]) rfl rfl rfl ?_
    refine pm_R_op pm_M172 (pc_q := 28) (st_q := [.int 0, .ref 43, .int 0, .ref 43]) rfl rfl rfl ?_
    have e37 := (F34.cell (by decide) e13)
    refine pm_R_iald pm_M172 (pc_q := 29) (v := (f1 0)) rfl e37 (Nat.lt_of_lt_of_le (by decide) T33.1) rfl rfl rfl ?_
    refine pm_R_op pm_M172 (pc_q := 30) (st_q := [.int 1, .int (f1 0), .int 0, .ref 43]) rfl rfl rfl ?_
    refine sf_R_iadd pm_M172 (pc_q := 31) rfl rfl B21 sf_k1 (by decide) (by decide) (fun z40 e41 B42 => ?_)
    refine rf_R_ist2 pm_M172 T33 (pc_q := 32) rfl e37 (by decide) (by decide) rfl ⟨_, rfl, sf_upd b3 (sf_weak B42 (by decide) (by decide)) _⟩ rfl (fun h43 T44 F45 e46 => ?_)
    have F47 := F36.trans F45 (by decide)
    refine pm_R_lo pm_M172 (pc_q := 35) (ls_q := [.ref 41, .int a0, .int 16]) (st_q := []) rfl rfl rfl ?_
    refine pm_R_br pm_M172 (pc_q := 3) rfl rfl ?_
    refine pm_R_lo pm_M172 (pc_q := 4) rfl rfl rfl ?_
    refine pm_R_br pm_M172 (pc_q := 7) (st_q := []) rfl rfl ?_
    refine pm_R_lo pm_M172 (pc_q := 8) rfl rfl rfl ?_
    refine rf_R_get pm_M172 T44 (pc_q := 11) (v := .ref 42) rfl rfl rfl rfl ?_
    refine pm_R_lo pm_M172 (pc_q := 12) rfl rfl rfl ?_
    refine rf_R_get pm_M172 T44 (pc_q := 15) (v := .ref 43) rfl rfl rfl rfl ?_
    refine pm_R_op pm_M172 (pc_q := 16) (st_q := [.int 0, .ref 43, .ref 42]) rfl rfl rfl ?_
    refine pm_R_iald pm_M172 (pc_q := 17) (v := z40) rfl e46 (Nat.lt_of_lt_of_le (by decide) T44.1) rfl sf_upd_eq rfl ?_
    refine pm_R_lo pm_M172 (pc_q := 18) rfl rfl rfl ?_
    refine pm_R_lo pm_M172 (pc_q := 19) rfl rfl rfl ?_
    refine sf_R_iany pm_M172 (pc_q := 20) (st := [.int z40, .ref 42]) rfl rfl rfl (fun z53 => ?_)
    refine sf_R_iany pm_M172 (pc_q := 21) (st := [.int z40, .ref 42]) rfl rfl rfl (fun z54 => ?_)
    have e55 := (F45.cell (by decide) e35)
    refine rf_R_bst pm_M172 T44 (pc_q := 22) rfl e55 (sf_in B42 (by decide) (by decide)) rfl (fun h56 T57 F58 e59 => ?_)
    have F60 := F47.trans F58 (by decide)
    refine pm_R_lo pm_M172 (pc_q := 23) rfl rfl rfl ?_
    refine rf_R_get pm_M172 T57 (pc_q := 26) (v := .ref 43) rfl rfl rfl rfl ?_
    refine pm_R_op pm_M172 (pc_q := 27) (st_q := [.int 0, .ref 43]) rfl rfl rfl ?_
    refine pm_R_op pm_M172 (pc_q := 28) (st_q := [.int 0, .ref 43, .int 0, .ref 43]) rfl rfl rfl ?_
    have e61 := (F58.cell (by decide) e46)
    refine pm_R_iald pm_M172 (pc_q := 29) (v := z40) rfl e61 (Nat.lt_of_lt_of_le (by decide) T57.1) rfl sf_upd_eq rfl ?_
    refine pm_R_op pm_M172 (pc_q := 30) (st_q := [.int 1, .int z40, .int 0, .ref 43]) rfl rfl rfl ?_
    refine sf_R_iadd pm_M172 (pc_q := 31) rfl rfl B42 sf_k1 (by decide) (by decide) (fun z64 e65 B66 => ?_)
    refine rf_R_ist2 pm_M172 T57 (pc_q := 32) rfl e61 (by decide) (by decide) rfl ⟨_, rfl, sf_upd (sf_upd b3 (sf_weak B42 (by decide) (by decide)) _) (sf_weak B66 (by decide) (by decide)) _⟩ rfl (fun h67 T68 F69 e70 => ?_)
    have F71 := F60.trans F69 (by decide)
    refine pm_R_lo pm_M172 (pc_q := 35) (ls_q := [.ref 41, .int a0, .int 8]) (st_q := []) rfl rfl rfl ?_
    refine pm_R_br pm_M172 (pc_q := 3) rfl rfl ?_
    refine pm_R_lo pm_M172 (pc_q := 4) rfl rfl rfl ?_
    refine pm_R_br pm_M172 (pc_q := 7) (st_q := []) rfl rfl ?_
    refine pm_R_lo pm_M172 (pc_q := 8) rfl rfl rfl ?_
    refine rf_R_get pm_M172 T68 (pc_q := 11) (v := .ref 42) rfl rfl rfl rfl ?_
    refine pm_R_lo pm_M172 (pc_q := 12) rfl rfl rfl ?_
    refine rf_R_get pm_M172 T68 (pc_q := 15) (v := .ref 43) rfl rfl rfl rfl ?_
    refine pm_R_op pm_M172 (pc_q := 16) (st_q := [.int 0, .ref 43, .ref 42]) rfl rfl rfl ?_
    refine pm_R_iald pm_M172 (pc_q := 17) (v := z64) rfl e70 (Nat.lt_of_lt_of_le (by decide) T68.1) rfl sf_upd_eq rfl ?_
    refine pm_R_lo pm_M172 (pc_q := 18) rfl rfl rfl ?_
    refine pm_R_lo pm_M172 (pc_q := 19) rfl rfl rfl ?_
    refine sf_R_iany pm_M172 (pc_q := 20) (st := [.int z64, .ref 42]) rfl rfl rfl (fun z77 => ?_)
    refine sf_R_iany pm_M172 (pc_q := 21) (st := [.int z64, .ref 42]) rfl rfl rfl (fun z78 => ?_)
    have e79 := (F69.cell (by decide) e59)
    refine rf_R_bst pm_M172 T68 (pc_q := 22) rfl e79 (sf_in B66 (by decide) (by decide)) rfl (fun h80 T81 F82 e83 => ?_)
    have F84 := F71.trans F82 (by decide)
    refine pm_R_lo pm_M172 (pc_q := 23) rfl rfl rfl ?_
    refine rf_R_get pm_M172 T81 (pc_q := 26) (v := .ref 43) rfl rfl rfl rfl ?_
    refine pm_R_op pm_M172 (pc_q := 27) (st_q := [.int 0, .ref 43]) rfl rfl rfl ?_
    refine pm_R_op pm_M172 (pc_q := 28) (st_q := [.int 0, .ref 43, .int 0, .ref 43]) rfl rfl rfl ?_
    have e85 := (F82.cell (by decide) e70)
    refine pm_R_iald pm_M172 (pc_q := 29) (v := z64) rfl e85 (Nat.lt_of_lt_of_le (by decide) T81.1) rfl sf_upd_eq rfl ?_
    refine pm_R_op pm_M172 (pc_q := 30) (st_q := [.int 1, .int z64, .int 0, .ref 43]) rfl rfl rfl ?_
    refine sf_R_iadd pm_M172 (pc_q := 31) rfl rfl B66 sf_k1 (by decide) (by decide) (fun z88 e89 B90 => ?_)
    refine rf_R_ist2 pm_M172 T81 (pc_q := 32) rfl e85 (by decide) (by decide) rfl ⟨_, rfl, sf_upd (sf_upd (sf_upd b3 (sf_weak B42 (by decide) (by decide)) _) (sf_weak B66 (by decide) (by decide)) _) (sf_weak B90 (by decide) (by decide)) _⟩ rfl (fun h91 T92 F93 e94 => ?_)
    have F95 := F84.trans F93 (by decide)
    refine pm_R_lo pm_M172 (pc_q := 35) (ls_q := [.ref 41, .int a0, .int 0]) (st_q := []) rfl rfl rfl ?_
    refine pm_R_br pm_M172 (pc_q := 3) rfl rfl ?_
    refine pm_R_lo pm_M172 (pc_q := 4) rfl rfl rfl ?_
    refine pm_R_br pm_M172 (pc_q := 7) (st_q := []) rfl rfl ?_
    refine pm_R_lo pm_M172 (pc_q := 8) rfl rfl rfl ?_
    refine rf_R_get pm_M172 T92 (pc_q := 11) (v := .ref 42) rfl rfl rfl rfl ?_
    refine pm_R_lo pm_M172 (pc_q := 12) rfl rfl rfl ?_
    refine rf_R_get pm_M172 T92 (pc_q := 15) (v := .ref 43) rfl rfl rfl rfl ?_
    refine pm_R_op pm_M172 (pc_q := 16) (st_q := [.int 0, .ref 43, .ref 42]) rfl rfl rfl ?_
    refine pm_R_iald pm_M172 (pc_q := 17) (v := z88) rfl e94 (Nat.lt_of_lt_of_le (by decide) T92.1) rfl sf_upd_eq rfl ?_
    refine pm_R_lo pm_M172 (pc_q := 18) rfl rfl rfl ?_
    refine pm_R_lo pm_M172 (pc_q := 19) rfl rfl rfl ?_
    refine sf_R_iany pm_M172 (pc_q := 20) (st := [.int z88, .ref 42]) rfl rfl rfl (fun z101 => ?_)
    refine sf_R_iany pm_M172 (pc_q := 21) (st := [.int z88, .ref 42]) rfl rfl rfl (fun z102 => ?_)
    have e103 := (F93.cell (by decide) e83)
    refine rf_R_bst pm_M172 T92 (pc_q := 22) rfl e103 (sf_in B90 (by decide) (by decide)) rfl (fun h104 T105 F106 e107 => ?_)
    have F108 := F95.trans F106 (by decide)
    refine pm_R_lo pm_M172 (pc_q := 23) rfl rfl rfl ?_
    refine rf_R_get pm_M172 T105 (pc_q := 26) (v := .ref 43) rfl rfl rfl rfl ?_
    refine pm_R_op pm_M172 (pc_q := 27) (st_q := [.int 0, .ref 43]) rfl rfl rfl ?_
    refine pm_R_op pm_M172 (pc_q := 28) (st_q := [.int 0, .ref 43, .int 0, .ref 43]) rfl rfl rfl ?_
    have e109 := (F106.cell (by decide) e94)
    refine pm_R_iald pm_M172 (pc_q := 29) (v := z88) rfl e109 (Nat.lt_of_lt_of_le (by decide) T105.1) rfl sf_upd_eq rfl ?_
    refine pm_R_op pm_M172 (pc_q := 30) (st_q := [.int 1, .int z88, .int 0, .ref 43]) rfl rfl rfl ?_
    refine sf_R_iadd pm_M172 (pc_q := 31) rfl rfl B90 sf_k1 (by decide) (by decide) (fun z112 e113 B114 => ?_)
    refine rf_R_ist2 pm_M172 T105 (pc_q := 32) rfl e109 (by decide) (by decide) rfl ⟨_, rfl, sf_upd (sf_upd (sf_upd (sf_upd b3 (sf_weak B42 (by decide) (by decide)) _) (sf_weak B66 (by decide) (by decide)) _) (sf_weak B90 (by decide) (by decide)) _) (sf_weak B114 (by decide) (by decide)) _⟩ rfl (fun h115 T116 F117 e118 => ?_)
    have F119 := F108.trans F117 (by decide)
    refine pm_R_lo pm_M172 (pc_q := 35) (ls_q := [.ref 41, .int a0, .int (-8)]) (st_q := []) rfl rfl rfl ?_
    refine pm_R_br pm_M172 (pc_q := 3) rfl rfl ?_
    refine pm_R_lo pm_M172 (pc_q := 4) rfl rfl rfl ?_
    refine pm_R_br pm_M172 (pc_q := 38) (st_q := []) rfl rfl ?_
    refine pm_R_ret pm_M172 (r := none) rfl rfl ?_
    show pm_R _ 171 27 [.ref 41, .int a0, .int a1, .int a2, .int a3, .int a4] [] _ _
    refine pm_R_lo pm_M171 (pc_q := 28) rfl rfl rfl ?_
    refine pm_R_lo pm_M171 (pc_q := 29) rfl rfl rfl ?_
    refine pm_R_cv pm_M171 (pc_q := 32) (a := 41) (ra := [.int a1]) (rest := []) (ls_q := [.ref 41, .int a1, pm_no]) rfl rfl (Or.inl rfl) pm_M172 T116.2.1 rfl (by decide) (Nat.lt_of_lt_of_le (by decide) T116.1) rfl rfl (Nat.le_of_ble_eq_true rfl) rfl rfl ?_
    refine pm_R_op pm_M172 (pc_q := 2) (st_q := [.int 24]) rfl rfl rfl ?_
    refine pm_R_lo pm_M172 (pc_q := 3) (ls_q := [.ref 41, .int a1, .int 24]) (st_q := []) rfl rfl rfl ?_
    refine pm_R_lo pm_M172 (pc_q := 4) rfl rfl rfl ?_
    refine pm_R_br pm_M172 (pc_q := 7) (st_q := []) rfl rfl ?_
    refine pm_R_lo pm_M172 (pc_q := 8) rfl rfl rfl ?_
    refine rf_R_get pm_M172 T116 (pc_q := 11) (v := .ref 42) rfl rfl rfl rfl ?_
    refine pm_R_lo pm_M172 (pc_q := 12) rfl rfl rfl ?_
    refine rf_R_get pm_M172 T116 (pc_q := 15) (v := .ref 43) rfl rfl rfl rfl ?_
    refine pm_R_op pm_M172 (pc_q := 16) (st_q := [.int 0, .ref 43, .ref 42]) rfl rfl rfl ?_
    refine pm_R_iald pm_M172 (pc_q := 17) (v := z112) rfl e118 (Nat.lt_of_lt_of_le (by decide) T116.1) rfl sf_upd_eq rfl ?_
    refine pm_R_lo pm_M172 (pc_q := 18) rfl rfl rfl ?_
    refine pm_R_lo pm_M172 (pc_q := 19) rfl rfl rfl ?_
    refine sf_R_iany pm_M172 (pc_q := 20) (st := [.int z112, .ref 42]) rfl rfl rfl (fun z125 => ?_)
    refine sf_R_iany pm_M172 (pc_q := 21) (st := [.int z112, .ref 42]) rfl rfl rfl (fun z126 => ?_)
    have e127 := (F117.cell (by decide) e107)
    refine rf_R_bst pm_M172 T116 (pc_q := 22) rfl e127 (sf_in B114 (by decide) (by decide)) rfl (fun h128 T129 F130 e131 => ?_)
    have F132 := F119.trans F130 (by decide)
    refine pm_R_lo pm_M172 (pc_q := 23) rfl rfl rfl ?_
    refine rf_R_get pm_M172 T129 (pc_q := 26) (v := .ref 43) rfl rfl rfl rfl ?_
    refine pm_R_op pm_M172 (pc_q := 27) (st_q := [.int 0, .ref 43]) rfl rfl rfl ?_
    refine pm_R_op pm_M172 (pc_q := 28) (st_q := [.int 0, .ref 43, .int 0, .ref 43]) rfl rfl rfl ?_
    have e133 := (F130.cell (by decide) e118)
    refine pm_R_iald pm_M172 (pc_q := 29) (v := z112) rfl e133 (Nat.lt_of_lt_of_le (by decide) T129.1) rfl sf_upd_eq rfl ?_
    refine pm_R_op pm_M172 (pc_q := 30) (st_q := [.int 1, .int z112, .int 0, .ref 43]) rfl rfl rfl ?_
    refine sf_R_iadd pm_M172 (pc_q := 31) rfl rfl B114 sf_k1 (by decide) (by decide) (fun z136 e137 B138 => ?_)
    refine rf_R_ist2 pm_M172 T129 (pc_q := 32) rfl e133 (by decide) (by decide) rfl ⟨_, rfl, sf_upd (sf_upd (sf_upd (sf_upd (sf_upd b3 (sf_weak B42 (by decide) (by decide)) _) (sf_weak B66 (by decide) (by decide)) _) (sf_weak B90 (by decide) (by decide)) _) (sf_weak B114 (by decide) (by decide)) _) (sf_weak B138 (by decide) (by decide)) _⟩ rfl (fun h139 T140 F141 e142 => ?_)
    have F143 := F132.trans F141 (by decide)
    refine pm_R_lo pm_M172 (pc_q := 35) (ls_q := [.ref 41, .int a1, .int 16]) (st_q := []) rfl rfl rfl ?_
    refine pm_R_br pm_M172 (pc_q := 3) rfl rfl ?_
    refine pm_R_lo pm_M172 (pc_q := 4) rfl rfl rfl ?_
    refine pm_R_br pm_M172 (pc_q := 7) (st_q := []) rfl rfl ?_
    refine pm_R_lo pm_M172 (pc_q := 8) rfl rfl rfl ?_
    refine rf_R_get pm_M172 T140 (pc_q := 11) (v := .ref 42) rfl rfl rfl rfl ?_
    refine pm_R_lo pm_M172 (pc_q := 12) rfl rfl rfl ?_
    refine rf_R_get pm_M172 T140 (pc_q := 15) (v := .ref 43) rfl rfl rfl rfl ?_
    refine pm_R_op pm_M172 (pc_q := 16) (st_q := [.int 0, .ref 43, .ref 42]) rfl rfl rfl ?_
    refine pm_R_iald pm_M172 (pc_q := 17) (v := z136) rfl e142 (Nat.lt_of_lt_of_le (by decide) T140.1) rfl sf_upd_eq rfl ?_
    refine pm_R_lo pm_M172 (pc_q := 18) rfl rfl rfl ?_
    refine pm_R_lo pm_M172 (pc_q := 19) rfl rfl rfl ?_
    refine sf_R_iany pm_M172 (pc_q := 20) (st := [.int z136, .ref 42]) rfl rfl rfl (fun z149 => ?_)
    refine sf_R_iany pm_M172 (pc_q := 21) (st := [.int z136, .ref 42]) rfl rfl rfl (fun z150 => ?_)
    have e151 := (F141.cell (by decide) e131)
    refine rf_R_bst pm_M172 T140 (pc_q := 22) rfl e151 (sf_in B138 (by decide) (by decide)) rfl (fun h152 T153 F154 e155 => ?_)
    have F156 := F143.trans F154 (by decide)
    refine pm_R_lo pm_M172 (pc_q := 23) rfl rfl rfl ?_
    refine rf_R_get pm_M172 T153 (pc_q := 26) (v := .ref 43) rfl rfl rfl rfl ?_
    refine pm_R_op pm_M172 (pc_q := 27) (st_q := [.int 0, .ref 43]) rfl rfl rfl ?_
    refine pm_R_op pm_M172 (pc_q := 28) (st_q := [.int 0, .ref 43, .int 0, .ref 43]) rfl rfl rfl ?_
    have e157 := (F154.cell (by decide) e142)
    refine pm_R_iald pm_M172 (pc_q := 29) (v := z136) rfl e157 (Nat.lt_of_lt_of_le (by decide) T153.1) rfl sf_upd_eq rfl ?_
    refine pm_R_op pm_M172 (pc_q := 30) (st_q := [.int 1, .int z136, .int 0, .ref 43]) rfl rfl rfl ?_
    refine sf_R_iadd pm_M172 (pc_q := 31) rfl rfl B138 sf_k1 (by decide) (by decide) (fun z160 e161 B162 => ?_)
    refine rf_R_ist2 pm_M172 T153 (pc_q := 32) rfl e157 (by decide) (by decide) rfl ⟨_, rfl, sf_upd (sf_upd (sf_upd (sf_upd (sf_upd (sf_upd b3 (sf_weak B42 (by decide) (by decide)) _) (sf_weak B66 (by decide) (by decide)) _) (sf_weak B90 (by decide) (by decide)) _) (sf_weak B114 (by decide) (by decide)) _) (sf_weak B138 (by decide) (by decide)) _) (sf_weak B162 (by decide) (by decide)) _⟩ rfl (fun h163 T164 F165 e166 => ?_)
    have F167 := F156.trans F165 (by decide)
    refine pm_R_lo pm_M172 (pc_q := 35) (ls_q := [.ref 41, .int a1, .int 8]) (st_q := []) rfl rfl rfl ?_
    refine pm_R_br pm_M172 (pc_q := 3) rfl rfl ?_
    refine pm_R_lo pm_M172 (pc_q := 4) rfl rfl rfl ?_
    refine pm_R_br pm_M172 (pc_q := 7) (st_q := []) rfl rfl ?_
    refine pm_R_lo pm_M172 (pc_q := 8) rfl rfl rfl ?_
    refine rf_R_get pm_M172 T164 (pc_q := 11) (v := .ref 42) rfl rfl rfl rfl ?_
    refine pm_R_lo pm_M172 (pc_q := 12) rfl rfl rfl ?_
    refine rf_R_get pm_M172 T164 (pc_q := 15) (v := .ref 43) rfl rfl rfl rfl ?_
    refine pm_R_op pm_M172 (pc_q := 16) (st_q := [.int 0, .ref 43, .ref 42]) rfl rfl rfl ?_
    refine pm_R_iald pm_M172 (pc_q := 17) (v := z160) rfl e166 (Nat.lt_of_lt_of_le (by decide) T164.1) rfl sf_upd_eq rfl ?_
    refine pm_R_lo pm_M172 (pc_q := 18) rfl rfl rfl ?_
    refine pm_R_lo pm_M172 (pc_q := 19) rfl rfl rfl ?_
    refine sf_R_iany pm_M172 (pc_q := 20) (st := [.int z160, .ref 42]) rfl rfl rfl (fun z173 => ?_)
    refine sf_R_iany pm_M172 (pc_q := 21) (st := [.int z160, .ref 42]) rfl rfl rfl (fun z174 => ?_)
    have e175 := (F165.cell (by decide) e155)
    refine rf_R_bst pm_M172 T164 (pc_q := 22) rfl e175 (sf_in B162 (by decide) (by decide)) rfl (fun h176 T177 F178 e179 => ?_)
    have F180 := F167.trans F178 (by decide)
    refine pm_R_lo pm_M172 (pc_q := 23) rfl rfl rfl ?_
    refine rf_R_get pm_M172 T177 (pc_q := 26) (v := .ref 43) rfl rfl rfl rfl ?_
    refine pm_R_op pm_M172 (pc_q := 27) (st_q := [.int 0, .ref 43]) rfl rfl rfl ?_
    refine pm_R_op pm_M172 (pc_q := 28) (st_q := [.int 0, .ref 43, .int 0, .ref 43]) rfl rfl rfl ?_
    have e181 := (F178.cell (by decide) e166)
    refine pm_R_iald pm_M172 (pc_q := 29) (v := z160) rfl e181 (Nat.lt_of_lt_of_le (by decide) T177.1) rfl sf_upd_eq rfl ?_
    refine pm_R_op pm_M172 (pc_q := 30) (st_q := [.int 1, .int z160, .int 0, .ref 43]) rfl rfl rfl ?_
    refine sf_R_iadd pm_M172 (pc_q := 31) rfl rfl B162 sf_k1 (by decide) (by decide) (fun z184 e185 B186 => ?_)
    refine rf_R_ist2 pm_M172 T177 (pc_q := 32) rfl e181 (by decide) (by decide) rfl ⟨_, rfl, sf_upd (sf_upd (sf_upd (sf_upd (sf_upd (sf_upd (sf_upd b3 (sf_weak B42 (by decide) (by decide)) _) (sf_weak B66 (by decide) (by decide)) _) (sf_weak B90 (by decide) (by decide)) _) (sf_weak B114 (by decide) (by decide)) _) (sf_weak B138 (by decide) (by decide)) _) (sf_weak B162 (by decide) (by decide)) _) (sf_weak B186 (by decide) (by decide)) _⟩ rfl (fun h187 T188 F189 e190 => ?_)
    have F191 := F180.trans F189 (by decide)
    refine pm_R_lo pm_M172 (pc_q := 35) (ls_q := [.ref 41, .int a1, .int 0]) (st_q := []) rfl rfl rfl ?_
    refine pm_R_br pm_M172 (pc_q := 3) rfl rfl ?_
    refine pm_R_lo pm_M172 (pc_q := 4) rfl rfl rfl ?_
    refine pm_R_br pm_M172 (pc_q := 7) (st_q := []) rfl rfl ?_
    refine pm_R_lo pm_M172 (pc_q := 8) rfl rfl rfl ?_
    refine rf_R_get pm_M172 T188 (pc_q := 11) (v := .ref 42) rfl rfl rfl rfl ?_
    refine pm_R_lo pm_M172 (pc_q := 12) rfl rfl rfl ?_
    refine rf_R_get pm_M172 T188 (pc_q := 15) (v := .ref 43) rfl rfl rfl rfl ?_
    refine pm_R_op pm_M172 (pc_q := 16) (st_q := [.int 0, .ref 43, .ref 42]) rfl rfl rfl ?_
    refine pm_R_iald pm_M172 (pc_q := 17) (v := z184) rfl e190 (Nat.lt_of_lt_of_le (by decide) T188.1) rfl sf_upd_eq rfl ?_
    refine pm_R_lo pm_M172 (pc_q := 18) rfl rfl rfl ?_
    refine pm_R_lo pm_M172 (pc_q := 19) rfl rfl rfl ?_
    refine sf_R_iany pm_M172 (pc_q := 20) (st := [.int z184, .ref 42]) rfl rfl rfl (fun z197 => ?_)
    refine sf_R_iany pm_M172 (pc_q := 21) (st := [.int z184, .ref 42]) rfl rfl rfl (fun z198 => ?_)
    have e199 := (F189.cell (by decide) e179)
    refine rf_R_bst pm_M172 T188 (pc_q := 22) rfl e199 (sf_in B186 (by decide) (by decide)) rfl (fun h200 T201 F202 e203 => ?_)
    have F204 := F191.trans F202 (by decide)
    refine pm_R_lo pm_M172 (pc_q := 23) rfl rfl rfl ?_
    refine rf_R_get pm_M172 T201 (pc_q := 26) (v := .ref 43) rfl rfl rfl rfl ?_
    refine pm_R_op pm_M172 (pc_q := 27) (st_q := [.int 0, .ref 43]) rfl rfl rfl ?_
    refine pm_R_op pm_M172 (pc_q := 28) (st_q := [.int 0, .ref 43, .int 0, .ref 43]) rfl rfl rfl ?_
    have e205 := (F202.cell (by decide) e190)
    refine pm_R_iald pm_M172 (pc_q := 29) (v := z184) rfl e205 (Nat.lt_of_lt_of_le (by decide) T201.1) rfl sf_upd_eq rfl ?_
    refine pm_R_op pm_M172 (pc_q := 30) (st_q := [.int 1, .int z184, .int 0, .ref 43]) rfl rfl rfl ?_
    refine sf_R_iadd pm_M172 (pc_q := 31) rfl rfl B186 sf_k1 (by decide) (by decide) (fun z208 e209 B210 => ?_)
    refine rf_R_ist2 pm_M172 T201 (pc_q := 32) rfl e205 (by decide) (by decide) rfl ⟨_, rfl, sf_upd (sf_upd (sf_upd (sf_upd (sf_upd (sf_upd (sf_upd (sf_upd b3 (sf_weak B42 (by decide) (by decide)) _) (sf_weak B66 (by decide) (by decide)) _) (sf_weak B90 (by decide) (by decide)) _) (sf_weak B114 (by decide) (by decide)) _) (sf_weak B138 (by decide) (by decide)) _) (sf_weak B162 (by decide) (by decide)) _) (sf_weak B186 (by decide) (by decide)) _) (sf_weak B210 (by decide) (by decide)) _⟩ rfl (fun h211 T212 F213 e214 => ?_)
    have F215 := F204.trans F213 (by decide)
    refine pm_R_lo pm_M172 (pc_q := 35) (ls_q := [.ref 41, .int a1, .int (-8)]) (st_q := []) rfl rfl rfl ?_
    refine pm_R_br pm_M172 (pc_q := 3) rfl rfl ?_
    refine pm_R_lo pm_M172 (pc_q := 4) rfl rfl rfl ?_
    refine pm_R_br pm_M172 (pc_q := 38) (st_q := []) rfl rfl ?_
    refine pm_R_ret pm_M172 (r := none) rfl rfl ?_
    show pm_R _ 171 32 [.ref 41, .int a0, .int a1, .int a2, .int a3, .int a4] [] _ _
    refine pm_R_lo pm_M171 (pc_q := 33) rfl rfl rfl ?_
    refine pm_R_lo pm_M171 (pc_q := 34) rfl rfl rfl ?_
    refine pm_R_cv pm_M171 (pc_q := 37) (a := 41) (ra := [.int a2]) (rest := []) (ls_q := [.ref 41, .int a2, pm_no]) rfl rfl (Or.inl rfl) pm_M172 T212.2.1 rfl (by decide) (Nat.lt_of_lt_of_le (by decide) T212.1) rfl rfl (Nat.le_of_ble_eq_true rfl) rfl rfl ?_
    refine pm_R_op pm_M172 (pc_q := 2) (st_q := [.int 24]) rfl rfl rfl ?_
    refine pm_R_lo pm_M172 (pc_q := 3) (ls_q := [.ref 41, .int a2, .int 24]) (st_q := []) rfl rfl rfl ?_
    refine pm_R_lo pm_M172 (pc_q := 4) rfl rfl rfl ?_
    refine pm_R_br pm_M172 (pc_q := 7) (st_q := []) rfl rfl ?_
    refine pm_R_lo pm_M172 (pc_q := 8) rfl rfl rfl ?_
    refine rf_R_get pm_M172 T212 (pc_q := 11) (v := .ref 42) rfl rfl rfl rfl ?_
    refine pm_R_lo pm_M172 (pc_q := 12) rfl rfl rfl ?_
    refine rf_R_get pm_M172 T212 (pc_q := 15) (v := .ref 43) rfl rfl rfl rfl ?_
    refine pm_R_op pm_M172 (pc_q := 16) (st_q := [.int 0, .ref 43, .ref 42]) rfl rfl rfl ?_
    refine pm_R_iald pm_M172 (pc_q := 17) (v := z208) rfl e214 (Nat.lt_of_lt_of_le (by decide) T212.1) rfl sf_upd_eq rfl ?_
    refine pm_R_lo pm_M172 (pc_q := 18) rfl rfl rfl ?_
    refine pm_R_lo pm_M172 (pc_q := 19) rfl rfl rfl ?_
    refine sf_R_iany pm_M172 (pc_q := 20) (st := [.int z208, .ref 42]) rfl rfl rfl (fun z221 => ?_)
    refine sf_R_iany pm_M172 (pc_q := 21) (st := [.int z208, .ref 42]) rfl rfl rfl (fun z222 => ?_)
    have e223 := (F213.cell (by decide) e203)
    refine rf_R_bst pm_M172 T212 (pc_q := 22) rfl e223 (sf_in B210 (by decide) (by decide)) rfl (fun h224 T225 F226 e227 => ?_)
    have F228 := F215.trans F226 (by decide)
    refine pm_R_lo pm_M172 (pc_q := 23) rfl rfl rfl ?_
    refine rf_R_get pm_M172 T225 (pc_q := 26) (v := .ref 43) rfl rfl rfl rfl ?_
    refine pm_R_op pm_M172 (pc_q := 27) (st_q := [.int 0, .ref 43]) rfl rfl rfl ?_
    refine pm_R_op pm_M172 (pc_q := 28) (st_q := [.int 0, .ref 43, .int 0, .ref 43]) rfl rfl rfl ?_
    have e229 := (F226.cell (by decide) e214)
    refine pm_R_iald pm_M172 (pc_q := 29) (v := z208) rfl e229 (Nat.lt_of_lt_of_le (by decide) T225.1) rfl sf_upd_eq rfl ?_
    refine pm_R_op pm_M172 (pc_q := 30) (st_q := [.int 1, .int z208, .int 0, .ref 43]) rfl rfl rfl ?_
    refine sf_R_iadd pm_M172 (pc_q := 31) rfl rfl B210 sf_k1 (by decide) (by decide) (fun z232 e233 B234 => ?_)
    refine rf_R_ist2 pm_M172 T225 (pc_q := 32) rfl e229 (by decide) (by decide) rfl ⟨_, rfl, sf_upd (sf_upd (sf_upd (sf_upd (sf_upd (sf_upd (sf_upd (sf_upd (sf_upd b3 (sf_weak B42 (by decide) (by decide)) _) (sf_weak B66 (by decide) (by decide)) _) (sf_weak B90 (by decide) (by decide)) _) (sf_weak B114 (by decide) (by decide)) _) (sf_weak B138 (by decide) (by decide)) _) (sf_weak B162 (by decide) (by decide)) _) (sf_weak B186 (by decide) (by decide)) _) (sf_weak B210 (by decide) (by decide)) _) (sf_weak B234 (by decide) (by decide)) _⟩ rfl (fun h235 T236 F237 e238 => ?_)
    have F239 := F228.trans F237 (by decide)
    refine pm_R_lo pm_M172 (pc_q := 35) (ls_q := [.ref 41, .int a2, .int 16]) (st_q := []) rfl rfl rfl ?_
    refine pm_R_br pm_M172 (pc_q := 3) rfl rfl ?_
    refine pm_R_lo pm_M172 (pc_q := 4) rfl rfl rfl ?_
    refine pm_R_br pm_M172 (pc_q := 7) (st_q := []) rfl rfl ?_
    refine pm_R_lo pm_M172 (pc_q := 8) rfl rfl rfl ?_
    refine rf_R_get pm_M172 T236 (pc_q := 11) (v := .ref 42) rfl rfl rfl rfl ?_
    refine pm_R_lo pm_M172 (pc_q := 12) rfl rfl rfl ?_
    refine rf_R_get pm_M172 T236 (pc_q := 15) (v := .ref 43) rfl rfl rfl rfl ?_
    refine pm_R_op pm_M172 (pc_q := 16) (st_q := [.int 0, .ref 43, .ref 42]) rfl rfl rfl ?_
    refine pm_R_iald pm_M172 (pc_q := 17) (v := z232) rfl e238 (Nat.lt_of_lt_of_le (by decide) T236.1) rfl sf_upd_eq rfl ?_
    refine pm_R_lo pm_M172 (pc_q := 18) rfl rfl rfl ?_
    refine pm_R_lo pm_M172 (pc_q := 19) rfl rfl rfl ?_
    refine sf_R_iany pm_M172 (pc_q := 20) (st := [.int z232, .ref 42]) rfl rfl rfl (fun z245 => ?_)
    refine sf_R_iany pm_M172 (pc_q := 21) (st := [.int z232, .ref 42]) rfl rfl rfl (fun z246 => ?_)
    have e247 := (F237.cell (by decide) e227)
    refine rf_R_bst pm_M172 T236 (pc_q := 22) rfl e247 (sf_in B234 (by decide) (by decide)) rfl (fun h248 T249 F250 e251 => ?_)
    have F252 := F239.trans F250 (by decide)
    refine pm_R_lo pm_M172 (pc_q := 23) rfl rfl rfl ?_
    refine rf_R_get pm_M172 T249 (pc_q := 26) (v := .ref 43) rfl rfl rfl rfl ?_
    refine pm_R_op pm_M172 (pc_q := 27) (st_q := [.int 0, .ref 43]) rfl rfl rfl ?_
    refine pm_R_op pm_M172 (pc_q := 28) (st_q := [.int 0, .ref 43, .int 0, .ref 43]) rfl rfl rfl ?_
    have e253 := (F250.cell (by decide) e238)
    refine pm_R_iald pm_M172 (pc_q := 29) (v := z232) rfl e253 (Nat.lt_of_lt_of_le (by decide) T249.1) rfl sf_upd_eq rfl ?_
    refine pm_R_op pm_M172 (pc_q := 30) (st_q := [.int 1, .int z232, .int 0, .ref 43]) rfl rfl rfl ?_
    refine sf_R_iadd pm_M172 (pc_q := 31) rfl rfl B234 sf_k1 (by decide) (by decide) (fun z256 e257 B258 => ?_)
    refine rf_R_ist2 pm_M172 T249 (pc_q := 32) rfl e253 (by decide) (by decide) rfl ⟨_, rfl, sf_upd (sf_upd (sf_upd (sf_upd (sf_upd (sf_upd (sf_upd (sf_upd (sf_upd (sf_upd b3 (sf_weak B42 (by decide) (by decide)) _) (sf_weak B66 (by decide) (by decide)) _) (sf_weak B90 (by decide) (by decide)) _) (sf_weak B114 (by decide) (by decide)) _) (sf_weak B138 (by decide) (by decide)) _) (sf_weak B162 (by decide) (by decide)) _) (sf_weak B186 (by decide) (by decide)) _) (sf_weak B210 (by decide) (by decide)) _) (sf_weak B234 (by decide) (by decide)) _) (sf_weak B258 (by decide) (by decide)) _⟩ rfl (fun h259 T260 F261 e262 => ?_)
    have F263 := F252.trans F261 (by decide)
    refine pm_R_lo pm_M172 (pc_q := 35) (ls_q := [.ref 41, .int a2, .int 8]) (st_q := []) rfl rfl rfl ?_
    refine pm_R_br pm_M172 (pc_q := 3) rfl rfl ?_
    refine pm_R_lo pm_M172 (pc_q := 4) rfl rfl rfl ?_
    refine pm_R_br pm_M172 (pc_q := 7) (st_q := []) rfl rfl ?_
    refine pm_R_lo pm_M172 (pc_q := 8) rfl rfl rfl ?_
    refine rf_R_get pm_M172 T260 (pc_q := 11) (v := .ref 42) rfl rfl rfl rfl ?_
    refine pm_R_lo pm_M172 (pc_q := 12) rfl rfl rfl ?_
    refine rf_R_get pm_M172 T260 (pc_q := 15) (v := .ref 43) rfl rfl rfl rfl ?_
    refine pm_R_op pm_M172 (pc_q := 16) (st_q := [.int 0, .ref 43, .ref 42]) rfl rfl rfl ?_
    refine pm_R_iald pm_M172 (pc_q := 17) (v := z256) rfl e262 (Nat.lt_of_lt_of_le (by decide) T260.1) rfl sf_upd_eq rfl ?_
    refine pm_R_lo pm_M172 (pc_q := 18) rfl rfl rfl ?_
    refine pm_R_lo pm_M172 (pc_q := 19) rfl rfl rfl ?_
    refine sf_R_iany pm_M172 (pc_q := 20) (st := [.int z256, .ref 42]) rfl rfl rfl (fun z269 => ?_)
    refine sf_R_iany pm_M172 (pc_q := 21) (st := [.int z256, .ref 42]) rfl rfl rfl (fun z270 => ?_)
    have e271 := (F261.cell (by decide) e251)
    refine rf_R_bst pm_M172 T260 (pc_q := 22) rfl e271 (sf_in B258 (by decide) (by decide)) rfl (fun h272 T273 F274 e275 => ?_)
    have F276 := F263.trans F274 (by decide)
    refine pm_R_lo pm_M172 (pc_q := 23) rfl rfl rfl ?_
    refine rf_R_get pm_M172 T273 (pc_q := 26) (v := .ref 43) rfl rfl rfl rfl ?_
    refine pm_R_op pm_M172 (pc_q := 27) (st_q := [.int 0, .ref 43]) rfl rfl rfl ?_
    refine pm_R_op pm_M172 (pc_q := 28) (st_q := [.int 0, .ref 43, .int 0, .ref 43]) rfl rfl rfl ?_
    have e277 := (F274.cell (by decide) e262)
    refine pm_R_iald pm_M172 (pc_q := 29) (v := z256) rfl e277 (Nat.lt_of_lt_of_le (by decide) T273.1) rfl sf_upd_eq rfl ?_
    refine pm_R_op pm_M172 (pc_q := 30) (st_q := [.int 1, .int z256, .int 0, .ref 43]) rfl rfl rfl ?_
    refine sf_R_iadd pm_M172 (pc_q := 31) rfl rfl B258 sf_k1 (by decide) (by decide) (fun z280 e281 B282 => ?_)
    refine rf_R_ist2 pm_M172 T273 (pc_q := 32) rfl e277 (by decide) (by decide) rfl ⟨_, rfl, sf_upd (sf_upd (sf_upd (sf_upd (sf_upd (sf_upd (sf_upd (sf_upd (sf_upd (sf_upd (sf_upd b3 (sf_weak B42 (by decide) (by decide)) _) (sf_weak B66 (by decide) (by decide)) _) (sf_weak B90 (by decide) (by decide)) _) (sf_weak B114 (by decide) (by decide)) _) (sf_weak B138 (by decide) (by decide)) _) (sf_weak B162 (by decide) (by decide)) _) (sf_weak B186 (by decide) (by decide)) _) (sf_weak B210 (by decide) (by decide)) _) (sf_weak B234 (by decide) (by decide)) _) (sf_weak B258 (by decide) (by decide)) _) (sf_weak B282 (by decide) (by decide)) _⟩ rfl (fun h283 T284 F285 e286 => ?_)
    have F287 := F276.trans F285 (by decide)
    refine pm_R_lo pm_M172 (pc_q := 35) (ls_q := [.ref 41, .int a2, .int 0]) (st_q := []) rfl rfl rfl ?_
    refine pm_R_br pm_M172 (pc_q := 3) rfl rfl ?_
    refine pm_R_lo pm_M172 (pc_q := 4) rfl rfl rfl ?_
    refine pm_R_br pm_M172 (pc_q := 7) (st_q := []) rfl rfl ?_
    refine pm_R_lo pm_M172 (pc_q := 8) rfl rfl rfl ?_
    refine rf_R_get pm_M172 T284 (pc_q := 11) (v := .ref 42) rfl rfl rfl rfl ?_
    refine pm_R_lo pm_M172 (pc_q := 12) rfl rfl rfl ?_
    refine rf_R_get pm_M172 T284 (pc_q := 15) (v := .ref 43) rfl rfl rfl rfl ?_
    refine pm_R_op pm_M172 (pc_q := 16) (st_q := [.int 0, .ref 43, .ref 42]) rfl rfl rfl ?_
    refine pm_R_iald pm_M172 (pc_q := 17) (v := z280) rfl e286 (Nat.lt_of_lt_of_le (by decide) T284.1) rfl sf_upd_eq rfl ?_
    refine pm_R_lo pm_M172 (pc_q := 18) rfl rfl rfl ?_
    refine pm_R_lo pm_M172 (pc_q := 19) rfl rfl rfl ?_
    refine sf_R_iany pm_M172 (pc_q := 20) (st := [.int z280, .ref 42]) rfl rfl rfl (fun z293 => ?_)
    refine sf_R_iany pm_M172 (pc_q := 21) (st := [.int z280, .ref 42]) rfl rfl rfl (fun z294 => ?_)
    have e295 := (F285.cell (by decide) e275)
    refine rf_R_bst pm_M172 T284 (pc_q := 22) rfl e295 (sf_in B282 (by decide) (by decide)) rfl (fun h296 T297 F298 e299 => ?_)
    have F300 := F287.trans F298 (by decide)
    refine pm_R_lo pm_M172 (pc_q := 23) rfl rfl rfl ?_
    refine rf_R_get pm_M172 T297 (pc_q := 26) (v := .ref 43) rfl rfl rfl rfl ?_
    refine pm_R_op pm_M172 (pc_q := 27) (st_q := [.int 0, .ref 43]) rfl rfl rfl ?_
    refine pm_R_op pm_M172 (pc_q := 28) (st_q := [.int 0, .ref 43, .int 0, .ref 43]) rfl rfl rfl ?_
    have e301 := (F298.cell (by decide) e286)
    refine pm_R_iald pm_M172 (pc_q := 29) (v := z280) rfl e301 (Nat.lt_of_lt_of_le (by decide) T297.1) rfl sf_upd_eq rfl ?_
    refine pm_R_op pm_M172 (pc_q := 30) (st_q := [.int 1, .int z280, .int 0, .ref 43]) rfl rfl rfl ?_
    refine sf_R_iadd pm_M172 (pc_q := 31) rfl rfl B282 sf_k1 (by decide) (by decide) (fun z304 e305 B306 => ?_)
    refine rf_R_ist2 pm_M172 T297 (pc_q := 32) rfl e301 (by decide) (by decide) rfl ⟨_, rfl, sf_upd (sf_upd (sf_upd (sf_upd (sf_upd (sf_upd (sf_upd (sf_upd (sf_upd (sf_upd (sf_upd (sf_upd b3 (sf_weak B42 (by decide) (by decide)) _) (sf_weak B66 (by decide) (by decide)) _) (sf_weak B90 (by decide) (by decide)) _) (sf_weak B114 (by decide) (by decide)) _) (sf_weak B138 (by decide) (by decide)) _) (sf_weak B162 (by decide) (by decide)) _) (sf_weak B186 (by decide) (by decide)) _) (sf_weak B210 (by decide) (by decide)) _) (sf_weak B234 (by decide) (by decide)) _) (sf_weak B258 (by decide) (by decide)) _) (sf_weak B282 (by decide) (by decide)) _) (sf_weak B306 (by decide) (by decide)) _⟩ rfl (fun h307 T308 F309 e310 => ?_)
    have F311 := F300.trans F309 (by decide)
    refine pm_R_lo pm_M172 (pc_q := 35) (ls_q := [.ref 41, .int a2, .int (-8)]) (st_q := []) rfl rfl rfl ?_
    refine pm_R_br pm_M172 (pc_q := 3) rfl rfl ?_
    refine pm_R_lo pm_M172 (pc_q := 4) rfl rfl rfl ?_
    refine pm_R_br pm_M172 (pc_q := 38) (st_q := []) rfl rfl ?_
    refine pm_R_ret pm_M172 (r := none) rfl rfl ?_
    show pm_R _ 171 37 [.ref 41, .int a0, .int a1, .int a2, .int a3, .int a4] [] _ _
    refine pm_R_lo pm_M171 (pc_q := 38) rfl rfl rfl ?_
    refine pm_R_lo pm_M171 (pc_q := 40) rfl rfl rfl ?_
    refine pm_R_cv pm_M171 (pc_q := 43) (a := 41) (ra := [.int a3]) (rest := []) (ls_q := [.ref 41, .int a3, pm_no]) rfl rfl (Or.inl rfl) pm_M172 T308.2.1 rfl (by decide) (Nat.lt_of_lt_of_le (by decide) T308.1) rfl rfl (Nat.le_of_ble_eq_true rfl) rfl rfl ?_
    refine pm_R_op pm_M172 (pc_q := 2) (st_q := [.int 24]) rfl rfl rfl ?_
    refine pm_R_lo pm_M172 (pc_q := 3) (ls_q := [.ref 41, .int a3, .int 24]) (st_q := []) rfl rfl rfl ?_
    refine pm_R_lo pm_M172 (pc_q := 4) rfl rfl rfl ?_
    refine pm_R_br pm_M172 (pc_q := 7) (st_q := []) rfl rfl ?_
    refine pm_R_lo pm_M172 (pc_q := 8) rfl rfl rfl ?_
    refine rf_R_get pm_M172 T308 (pc_q := 11) (v := .ref 42) rfl rfl rfl rfl ?_
    refine pm_R_lo pm_M172 (pc_q := 12) rfl rfl rfl ?_
    refine rf_R_get pm_M172 T308 (pc_q := 15) (v := .ref 43) rfl rfl rfl rfl ?_
    refine pm_R_op pm_M172 (pc_q := 16) (st_q := [.int 0, .ref 43, .ref 42]) rfl rfl rfl ?_
    refine pm_R_iald pm_M172 (pc_q := 17) (v := z304) rfl e310 (Nat.lt_of_lt_of_le (by decide) T308.1) rfl sf_upd_eq rfl ?_
    refine pm_R_lo pm_M172 (pc_q := 18) rfl rfl rfl ?_
    refine pm_R_lo pm_M172 (pc_q := 19) rfl rfl rfl ?_
    refine sf_R_iany pm_M172 (pc_q := 20) (st := [.int z304, .ref 42]) rfl rfl rfl (fun z317 => ?_)
    refine sf_R_iany pm_M172 (pc_q := 21) (st := [.int z304, .ref 42]) rfl rfl rfl (fun z318 => ?_)
    have e319 := (F309.cell (by decide) e299)
    refine rf_R_bst pm_M172 T308 (pc_q := 22) rfl e319 (sf_in B306 (by decide) (by decide)) rfl (fun h320 T321 F322 e323 => ?_)
    have F324 := F311.trans F322 (by decide)
    refine pm_R_lo pm_M172 (pc_q := 23) rfl rfl rfl ?_
    refine rf_R_get pm_M172 T321 (pc_q := 26) (v := .ref 43) rfl rfl rfl rfl ?_
    refine pm_R_op pm_M172 (pc_q := 27) (st_q := [.int 0, .ref 43]) rfl rfl rfl ?_
    refine pm_R_op pm_M172 (pc_q := 28) (st_q := [.int 0, .ref 43, .int 0, .ref 43]) rfl rfl rfl ?_
    have e325 := (F322.cell (by decide) e310)
    refine pm_R_iald pm_M172 (pc_q := 29) (v := z304) rfl e325 (Nat.lt_of_lt_of_le (by decide) T321.1) rfl sf_upd_eq rfl ?_
    refine pm_R_op pm_M172 (pc_q := 30) (st_q := [.int 1, .int z304, .int 0, .ref 43]) rfl rfl rfl ?_
    refine sf_R_iadd pm_M172 (pc_q := 31) rfl rfl B306 sf_k1 (by decide) (by decide) (fun z328 e329 B330 => ?_)
    refine rf_R_ist2 pm_M172 T321 (pc_q := 32) rfl e325 (by decide) (by decide) rfl ⟨_, rfl, sf_upd (sf_upd (sf_upd (sf_upd (sf_upd (sf_upd (sf_upd (sf_upd (sf_upd (sf_upd (sf_upd (sf_upd (sf_upd b3 (sf_weak B42 (by decide) (by decide)) _) (sf_weak B66 (by decide) (by decide)) _) (sf_weak B90 (by decide) (by decide)) _) (sf_weak B114 (by decide) (by decide)) _) (sf_weak B138 (by decide) (by decide)) _) (sf_weak B162 (by decide) (by decide)) _) (sf_weak B186 (by decide) (by decide)) _) (sf_weak B210 (by decide) (by decide)) _) (sf_weak B234 (by decide) (by decide)) _) (sf_weak B258 (by decide) (by decide)) _) (sf_weak B282 (by decide) (by decide)) _) (sf_weak B306 (by decide) (by decide)) _) (sf_weak B330 (by decide) (by decide)) _⟩ rfl (fun h331 T332 F333 e334 => ?_)
    have F335 := F324.trans F333 (by decide)
    refine pm_R_lo pm_M172 (pc_q := 35) (ls_q := [.ref 41, .int a3, .int 16]) (st_q := []) rfl rfl rfl ?_
    refine pm_R_br pm_M172 (pc_q := 3) rfl rfl ?_
    refine pm_R_lo pm_M172 (pc_q := 4) rfl rfl rfl ?_
    refine pm_R_br pm_M172 (pc_q := 7) (st_q := []) rfl rfl ?_
    refine pm_R_lo pm_M172 (pc_q := 8) rfl rfl rfl ?_
    refine rf_R_get pm_M172 T332 (pc_q := 11) (v := .ref 42) rfl rfl rfl rfl ?_
    refine pm_R_lo pm_M172 (pc_q := 12) rfl rfl rfl ?_
    refine rf_R_get pm_M172 T332 (pc_q := 15) (v := .ref 43) rfl rfl rfl rfl ?_
    refine pm_R_op pm_M172 (pc_q := 16) (st_q := [.int 0, .ref 43, .ref 42]) rfl rfl rfl ?_
    refine pm_R_iald pm_M172 (pc_q := 17) (v := z328) rfl e334 (Nat.lt_of_lt_of_le (by decide) T332.1) rfl sf_upd_eq rfl ?_
    refine pm_R_lo pm_M172 (pc_q := 18) rfl rfl rfl ?_
    refine pm_R_lo pm_M172 (pc_q := 19) rfl rfl rfl ?_
    refine sf_R_iany pm_M172 (pc_q := 20) (st := [.int z328, .ref 42]) rfl rfl rfl (fun z341 => ?_)
    refine sf_R_iany pm_M172 (pc_q := 21) (st := [.int z328, .ref 42]) rfl rfl rfl (fun z342 => ?_)
    have e343 := (F333.cell (by decide) e323)
    refine rf_R_bst pm_M172 T332 (pc_q := 22) rfl e343 (sf_in B330 (by decide) (by decide)) rfl (fun h344 T345 F346 e347 => ?_)
    have F348 := F335.trans F346 (by decide)
    refine pm_R_lo pm_M172 (pc_q := 23) rfl rfl rfl ?_
    refine rf_R_get pm_M172 T345 (pc_q := 26) (v := .ref 43) rfl rfl rfl rfl ?_
    refine pm_R_op pm_M172 (pc_q := 27) (st_q := [.int 0, .ref 43]) rfl rfl rfl ?_
    refine pm_R_op pm_M172 (pc_q := 28) (st_q := [.int 0, .ref 43, .int 0, .ref 43]) rfl rfl rfl ?_
    have e349 := (F346.cell (by decide) e334)
    refine pm_R_iald pm_M172 (pc_q := 29) (v := z328) rfl e349 (Nat.lt_of_lt_of_le (by decide) T345.1) rfl sf_upd_eq rfl ?_
    refine pm_R_op pm_M172 (pc_q := 30) (st_q := [.int 1, .int z328, .int 0, .ref 43]) rfl rfl rfl ?_
    refine sf_R_iadd pm_M172 (pc_q := 31) rfl rfl B330 sf_k1 (by decide) (by decide) (fun z352 e353 B354 => ?_)
    refine rf_R_ist2 pm_M172 T345 (pc_q := 32) rfl e349 (by decide) (by decide) rfl ⟨_, rfl, sf_upd (sf_upd (sf_upd (sf_upd (sf_upd (sf_upd (sf_upd (sf_upd (sf_upd (sf_upd (sf_upd (sf_upd (sf_upd (sf_upd b3 (sf_weak B42 (by decide) (by decide)) _) (sf_weak B66 (by decide) (by decide)) _) (sf_weak B90 (by decide) (by decide)) _) (sf_weak B114 (by decide) (by decide)) _) (sf_weak B138 (by decide) (by decide)) _) (sf_weak B162 (by decide) (by decide)) _) (sf_weak B186 (by decide) (by decide)) _) (sf_weak B210 (by decide) (by decide)) _) (sf_weak B234 (by decide) (by decide)) _) (sf_weak B258 (by decide) (by decide)) _) (sf_weak B282 (by decide) (by decide)) _) (sf_weak B306 (by decide) (by decide)) _) (sf_weak B330 (by decide) (by decide)) _) (sf_weak B354 (by decide) (by decide)) _⟩ rfl (fun h355 T356 F357 e358 => ?_)
    have F359 := F348.trans F357 (by decide)
    refine pm_R_lo pm_M172 (pc_q := 35) (ls_q := [.ref 41, .int a3, .int 8]) (st_q := []) rfl rfl rfl ?_
    refine pm_R_br pm_M172 (pc_q := 3) rfl rfl ?_
    refine pm_R_lo pm_M172 (pc_q := 4) rfl rfl rfl ?_
    refine pm_R_br pm_M172 (pc_q := 7) (st_q := []) rfl rfl ?_
    refine pm_R_lo pm_M172 (pc_q := 8) rfl rfl rfl ?_
    refine rf_R_get pm_M172 T356 (pc_q := 11) (v := .ref 42) rfl rfl rfl rfl ?_
    refine pm_R_lo pm_M172 (pc_q := 12) rfl rfl rfl ?_
    refine rf_R_get pm_M172 T356 (pc_q := 15) (v := .ref 43) rfl rfl rfl rfl ?_
    refine pm_R_op pm_M172 (pc_q := 16) (st_q := [.int 0, .ref 43, .ref 42]) rfl rfl rfl ?_
    refine pm_R_iald pm_M172 (pc_q := 17) (v := z352) rfl e358 (Nat.lt_of_lt_of_le (by decide) T356.1) rfl sf_upd_eq rfl ?_
    refine pm_R_lo pm_M172 (pc_q := 18) rfl rfl rfl ?_
    refine pm_R_lo pm_M172 (pc_q := 19) rfl rfl rfl ?_
    refine sf_R_iany pm_M172 (pc_q := 20) (st := [.int z352, .ref 42]) rfl rfl rfl (fun z365 => ?_)
    refine sf_R_iany pm_M172 (pc_q := 21) (st := [.int z352, .ref 42]) rfl rfl rfl (fun z366 => ?_)
    have e367 := (F357.cell (by decide) e347)
    refine rf_R_bst pm_M172 T356 (pc_q := 22) rfl e367 (sf_in B354 (by decide) (by decide)) rfl (fun h368 T369 F370 e371 => ?_)
    have F372 := F359.trans F370 (by decide)
    refine pm_R_lo pm_M172 (pc_q := 23) rfl rfl rfl ?_
    refine rf_R_get pm_M172 T369 (pc_q := 26) (v := .ref 43) rfl rfl rfl rfl ?_
    refine pm_R_op pm_M172 (pc_q := 27) (st_q := [.int 0, .ref 43]) rfl rfl rfl ?_
    refine pm_R_op pm_M172 (pc_q := 28) (st_q := [.int 0, .ref 43, .int 0, .ref 43]) rfl rfl rfl ?_
    have e373 := (F370.cell (by decide) e358)
    refine pm_R_iald pm_M172 (pc_q := 29) (v := z352) rfl e373 (Nat.lt_of_lt_of_le (by decide) T369.1) rfl sf_upd_eq rfl ?_
    refine pm_R_op pm_M172 (pc_q := 30) (st_q := [.int 1, .int z352, .int 0, .ref 43]) rfl rfl rfl ?_
    refine sf_R_iadd pm_M172 (pc_q := 31) rfl rfl B354 sf_k1 (by decide) (by decide) (fun z376 e377 B378 => ?_)
    refine rf_R_ist2 pm_M172 T369 (pc_q := 32) rfl e373 (by decide) (by decide) rfl ⟨_, rfl, sf_upd (sf_upd (sf_upd (sf_upd (sf_upd (sf_upd (sf_upd (sf_upd (sf_upd (sf_upd (sf_upd (sf_upd (sf_upd (sf_upd (sf_upd b3 (sf_weak B42 (by decide) (by decide)) _) (sf_weak B66 (by decide) (by decide)) _) (sf_weak B90 (by decide) (by decide)) _) (sf_weak B114 (by decide) (by decide)) _) (sf_weak B138 (by decide) (by decide)) _) (sf_weak B162 (by decide) (by decide)) _) (sf_weak B186 (by decide) (by decide)) _) (sf_weak B210 (by decide) (by decide)) _) (sf_weak B234 (by decide) (by decide)) _) (sf_weak B258 (by decide) (by decide)) _) (sf_weak B282 (by decide) (by decide)) _) (sf_weak B306 (by decide) (by decide)) _) (sf_weak B330 (by decide) (by decide)) _) (sf_weak B354 (by decide) (by decide)) _) (sf_weak B378 (by decide) (by decide)) _⟩ rfl (fun h379 T380 F381 e382 => ?_)
    have F383 := F372.trans F381 (by decide)
    refine pm_R_lo pm_M172 (pc_q := 35) (ls_q := [.ref 41, .int a3, .int 0]) (st_q := []) rfl rfl rfl ?_
    refine pm_R_br pm_M172 (pc_q := 3) rfl rfl ?_
    refine pm_R_lo pm_M172 (pc_q := 4) rfl rfl rfl ?_
    refine pm_R_br pm_M172 (pc_q := 7) (st_q := []) rfl rfl ?_
    refine pm_R_lo pm_M172 (pc_q := 8) rfl rfl rfl ?_
    refine rf_R_get pm_M172 T380 (pc_q := 11) (v := .ref 42) rfl rfl rfl rfl ?_
    refine pm_R_lo pm_M172 (pc_q := 12) rfl rfl rfl ?_
    refine rf_R_get pm_M172 T380 (pc_q := 15) (v := .ref 43) rfl rfl rfl rfl ?_
    refine pm_R_op pm_M172 (pc_q := 16) (st_q := [.int 0, .ref 43, .ref 42]) rfl rfl rfl ?_
    refine pm_R_iald pm_M172 (pc_q := 17) (v := z376) rfl e382 (Nat.lt_of_lt_of_le (by decide) T380.1) rfl sf_upd_eq rfl ?_
    refine pm_R_lo pm_M172 (pc_q := 18) rfl rfl rfl ?_
    refine pm_R_lo pm_M172 (pc_q := 19) rfl rfl rfl ?_
    refine sf_R_iany pm_M172 (pc_q := 20) (st := [.int z376, .ref 42]) rfl rfl rfl (fun z389 => ?_)
    refine sf_R_iany pm_M172 (pc_q := 21) (st := [.int z376, .ref 42]) rfl rfl rfl (fun z390 => ?_)
    have e391 := (F381.cell (by decide) e371)
    refine rf_R_bst pm_M172 T380 (pc_q := 22) rfl e391 (sf_in B378 (by decide) (by decide)) rfl (fun h392 T393 F394 e395 => ?_)
    have F396 := F383.trans F394 (by decide)
    refine pm_R_lo pm_M172 (pc_q := 23) rfl rfl rfl ?_
    refine rf_R_get pm_M172 T393 (pc_q := 26) (v := .ref 43) rfl rfl rfl rfl ?_
    refine pm_R_op pm_M172 (pc_q := 27) (st_q := [.int 0, .ref 43]) rfl rfl rfl ?_
    refine pm_R_op pm_M172 (pc_q := 28) (st_q := [.int 0, .ref 43, .int 0, .ref 43]) rfl rfl rfl ?_
    have e397 := (F394.cell (by decide) e382)
    refine pm_R_iald pm_M172 (pc_q := 29) (v := z376) rfl e397 (Nat.lt_of_lt_of_le (by decide) T393.1) rfl sf_upd_eq rfl ?_
    refine pm_R_op pm_M172 (pc_q := 30) (st_q := [.int 1, .int z376, .int 0, .ref 43]) rfl rfl rfl ?_
    refine sf_R_iadd pm_M172 (pc_q := 31) rfl rfl B378 sf_k1 (by decide) (by decide) (fun z400 e401 B402 => ?_)
    refine rf_R_ist2 pm_M172 T393 (pc_q := 32) rfl e397 (by decide) (by decide) rfl ⟨_, rfl, sf_upd (sf_upd (sf_upd (sf_upd (sf_upd (sf_upd (sf_upd (sf_upd (sf_upd (sf_upd (sf_upd (sf_upd (sf_upd (sf_upd (sf_upd (sf_upd b3 (sf_weak B42 (by decide) (by decide)) _) (sf_weak B66 (by decide) (by decide)) _) (sf_weak B90 (by decide) (by decide)) _) (sf_weak B114 (by decide) (by decide)) _) (sf_weak B138 (by decide) (by decide)) _) (sf_weak B162 (by decide) (by decide)) _) (sf_weak B186 (by decide) (by decide)) _) (sf_weak B210 (by decide) (by decide)) _) (sf_weak B234 (by decide) (by decide)) _) (sf_weak B258 (by decide) (by decide)) _) (sf_weak B282 (by decide) (by decide)) _) (sf_weak B306 (by decide) (by decide)) _) (sf_weak B330 (by decide) (by decide)) _) (sf_weak B354 (by decide) (by decide)) _) (sf_weak B378 (by decide) (by decide)) _) (sf_weak B402 (by decide) (by decide)) _⟩ rfl (fun h403 T404 F405 e406 => ?_)
    have F407 := F396.trans F405 (by decide)
    refine pm_R_lo pm_M172 (pc_q := 35) (ls_q := [.ref 41, .int a3, .int (-8)]) (st_q := []) rfl rfl rfl ?_
    refine pm_R_br pm_M172 (pc_q := 3) rfl rfl ?_
    refine pm_R_lo pm_M172 (pc_q := 4) rfl rfl rfl ?_
    refine pm_R_br pm_M172 (pc_q := 38) (st_q := []) rfl rfl ?_
    refine pm_R_ret pm_M172 (r := none) rfl rfl ?_
    show pm_R _ 171 43 [.ref 41, .int a0, .int a1, .int a2, .int a3, .int a4] [] _ _
    refine pm_R_lo pm_M171 (pc_q := 44) rfl rfl rfl ?_
    refine pm_R_lo pm_M171 (pc_q := 46) rfl rfl rfl ?_
    refine pm_R_cv pm_M171 (pc_q := 49) (a := 41) (ra := [.int a4]) (rest := []) (ls_q := [.ref 41, .int a4, pm_no]) rfl rfl (Or.inl rfl) pm_M172 T404.2.1 rfl (by decide) (Nat.lt_of_lt_of_le (by decide) T404.1) rfl rfl (Nat.le_of_ble_eq_true rfl) rfl rfl ?_
    refine pm_R_op pm_M172 (pc_q := 2) (st_q := [.int 24]) rfl rfl rfl ?_
    refine pm_R_lo pm_M172 (pc_q := 3) (ls_q := [.ref 41, .int a4, .int 24]) (st_q := []) rfl rfl rfl ?_
    refine pm_R_lo pm_M172 (pc_q := 4) rfl rfl rfl ?_
    refine pm_R_br pm_M172 (pc_q := 7) (st_q := []) rfl rfl ?_
    refine pm_R_lo pm_M172 (pc_q := 8) rfl rfl rfl ?_
    refine rf_R_get pm_M172 T404 (pc_q := 11) (v := .ref 42) rfl rfl rfl rfl ?_
    refine pm_R_lo pm_M172 (pc_q := 12) rfl rfl rfl ?_
    refine rf_R_get pm_M172 T404 (pc_q := 15) (v := .ref 43) rfl rfl rfl rfl ?_
    refine pm_R_op pm_M172 (pc_q := 16) (st_q := [.int 0, .ref 43, .ref 42]) rfl rfl rfl ?_
    refine pm_R_iald pm_M172 (pc_q := 17) (v := z400) rfl e406 (Nat.lt_of_lt_of_le (by decide) T404.1) rfl sf_upd_eq rfl ?_
    refine pm_R_lo pm_M172 (pc_q := 18) rfl rfl rfl ?_
    refine pm_R_lo pm_M172 (pc_q := 19) rfl rfl rfl ?_
    refine sf_R_iany pm_M172 (pc_q := 20) (st := [.int z400, .ref 42]) rfl rfl rfl (fun z413 => ?_)
    refine sf_R_iany pm_M172 (pc_q := 21) (st := [.int z400, .ref 42]) rfl rfl rfl (fun z414 => ?_)
    have e415 := (F405.cell (by decide) e395)
    refine rf_R_bst pm_M172 T404 (pc_q := 22) rfl e415 (sf_in B402 (by decide) (by decide)) rfl (fun h416 T417 F418 e419 => ?_)
    have F420 := F407.trans F418 (by decide)
    refine pm_R_lo pm_M172 (pc_q := 23) rfl rfl rfl ?_
    refine rf_R_get pm_M172 T417 (pc_q := 26) (v := .ref 43) rfl rfl rfl rfl ?_
    refine pm_R_op pm_M172 (pc_q := 27) (st_q := [.int 0, .ref 43]) rfl rfl rfl ?_
    refine pm_R_op pm_M172 (pc_q := 28) (st_q := [.int 0, .ref 43, .int 0, .ref 43]) rfl rfl rfl ?_
    have e421 := (F418.cell (by decide) e406)
    refine pm_R_iald pm_M172 (pc_q := 29) (v := z400) rfl e421 (Nat.lt_of_lt_of_le (by decide) T417.1) rfl sf_upd_eq rfl ?_
    refine pm_R_op pm_M172 (pc_q := 30) (st_q := [.int 1, .int z400, .int 0, .ref 43]) rfl rfl rfl ?_
    refine sf_R_iadd pm_M172 (pc_q := 31) rfl rfl B402 sf_k1 (by decide) (by decide) (fun z424 e425 B426 => ?_)
    refine rf_R_ist2 pm_M172 T417 (pc_q := 32) rfl e421 (by decide) (by decide) rfl ⟨_, rfl, sf_upd (sf_upd (sf_upd (sf_upd (sf_upd (sf_upd (sf_upd (sf_upd (sf_upd (sf_upd (sf_upd (sf_upd (sf_upd (sf_upd (sf_upd (sf_upd (sf_upd b3 (sf_weak B42 (by decide) (by decide)) _) (sf_weak B66 (by decide) (by decide)) _) (sf_weak B90 (by decide) (by decide)) _) (sf_weak B114 (by decide) (by decide)) _) (sf_weak B138 (by decide) (by decide)) _) (sf_weak B162 (by decide) (by decide)) _) (sf_weak B186 (by decide) (by decide)) _) (sf_weak B210 (by decide) (by decide)) _) (sf_weak B234 (by decide) (by decide)) _) (sf_weak B258 (by decide) (by decide)) _) (sf_weak B282 (by decide) (by decide)) _) (sf_weak B306 (by decide) (by decide)) _) (sf_weak B330 (by decide) (by decide)) _) (sf_weak B354 (by decide) (by decide)) _) (sf_weak B378 (by decide) (by decide)) _) (sf_weak B402 (by decide) (by decide)) _) (sf_weak B426 (by decide) (by decide)) _⟩ rfl (fun h427 T428 F429 e430 => ?_)
    have F431 := F420.trans F429 (by decide)
    refine pm_R_lo pm_M172 (pc_q := 35) (ls_q := [.ref 41, .int a4, .int 16]) (st_q := []) rfl rfl rfl ?_
    refine pm_R_br pm_M172 (pc_q := 3) rfl rfl ?_
    refine pm_R_lo pm_M172 (pc_q := 4) rfl rfl rfl ?_
    refine pm_R_br pm_M172 (pc_q := 7) (st_q := []) rfl rfl ?_
    refine pm_R_lo pm_M172 (pc_q := 8) rfl rfl rfl ?_
    refine rf_R_get pm_M172 T428 (pc_q := 11) (v := .ref 42) rfl rfl rfl rfl ?_
    refine pm_R_lo pm_M172 (pc_q := 12) rfl rfl rfl ?_
    refine rf_R_get pm_M172 T428 (pc_q := 15) (v := .ref 43) rfl rfl rfl rfl ?_
    refine pm_R_op pm_M172 (pc_q := 16) (st_q := [.int 0, .ref 43, .ref 42]) rfl rfl rfl ?_
    refine pm_R_iald pm_M172 (pc_q := 17) (v := z424) rfl e430 (Nat.lt_of_lt_of_le (by decide) T428.1) rfl sf_upd_eq rfl ?_
    refine pm_R_lo pm_M172 (pc_q := 18) rfl rfl rfl ?_
    refine pm_R_lo pm_M172 (pc_q := 19) rfl rfl rfl ?_
    refine sf_R_iany pm_M172 (pc_q := 20) (st := [.int z424, .ref 42]) rfl rfl rfl (fun z437 => ?_)
    refine sf_R_iany pm_M172 (pc_q := 21) (st := [.int z424, .ref 42]) rfl rfl rfl (fun z438 => ?_)
    have e439 := (F429.cell (by decide) e419)
    refine rf_R_bst pm_M172 T428 (pc_q := 22) rfl e439 (sf_in B426 (by decide) (by decide)) rfl (fun h440 T441 F442 e443 => ?_)
    have F444 := F431.trans F442 (by decide)
    refine pm_R_lo pm_M172 (pc_q := 23) rfl rfl rfl ?_
    refine rf_R_get pm_M172 T441 (pc_q := 26) (v := .ref 43) rfl rfl rfl rfl ?_
    refine pm_R_op pm_M172 (pc_q := 27) (st_q := [.int 0, .ref 43]) rfl rfl rfl ?_
    refine pm_R_op pm_M172 (pc_q := 28) (st_q := [.int 0, .ref 43, .int 0, .ref 43]) rfl rfl rfl ?_
    have e445 := (F442.cell (by decide) e430)
    refine pm_R_iald pm_M172 (pc_q := 29) (v := z424) rfl e445 (Nat.lt_of_lt_of_le (by decide) T441.1) rfl sf_upd_eq rfl ?_
    refine pm_R_op pm_M172 (pc_q := 30) (st_q := [.int 1, .int z424, .int 0, .ref 43]) rfl rfl rfl ?_
    refine sf_R_iadd pm_M172 (pc_q := 31) rfl rfl B426 sf_k1 (by decide) (by decide) (fun z448 e449 B450 => ?_)
    refine rf_R_ist2 pm_M172 T441 (pc_q := 32) rfl e445 (by decide) (by decide) rfl ⟨_, rfl, sf_upd (sf_upd (sf_upd (sf_upd (sf_upd (sf_upd (sf_upd (sf_upd (sf_upd (sf_upd (sf_upd (sf_upd (sf_upd (sf_upd (sf_upd (sf_upd (sf_upd (sf_upd b3 (sf_weak B42 (by decide) (by decide)) _) (sf_weak B66 (by decide) (by decide)) _) (sf_weak B90 (by decide) (by decide)) _) (sf_weak B114 (by decide) (by decide)) _) (sf_weak B138 (by decide) (by decide)) _) (sf_weak B162 (by decide) (by decide)) _) (sf_weak B186 (by decide) (by decide)) _) (sf_weak B210 (by decide) (by decide)) _) (sf_weak B234 (by decide) (by decide)) _) (sf_weak B258 (by decide) (by decide)) _) (sf_weak B282 (by decide) (by decide)) _) (sf_weak B306 (by decide) (by decide)) _) (sf_weak B330 (by decide) (by decide)) _) (sf_weak B354 (by decide) (by decide)) _) (sf_weak B378 (by decide) (by decide)) _) (sf_weak B402 (by decide) (by decide)) _) (sf_weak B426 (by decide) (by decide)) _) (sf_weak B450 (by decide) (by decide)) _⟩ rfl (fun h451 T452 F453 e454 => ?_)
    have F455 := F444.trans F453 (by decide)
    refine pm_R_lo pm_M172 (pc_q := 35) (ls_q := [.ref 41, .int a4, .int 8]) (st_q := []) rfl rfl rfl ?_
    refine pm_R_br pm_M172 (pc_q := 3) rfl rfl ?_
    refine pm_R_lo pm_M172 (pc_q := 4) rfl rfl rfl ?_
    refine pm_R_br pm_M172 (pc_q := 7) (st_q := []) rfl rfl ?_
    refine pm_R_lo pm_M172 (pc_q := 8) rfl rfl rfl ?_
    refine rf_R_get pm_M172 T452 (pc_q := 11) (v := .ref 42) rfl rfl rfl rfl ?_
    refine pm_R_lo pm_M172 (pc_q := 12) rfl rfl rfl ?_
    refine rf_R_get pm_M172 T452 (pc_q := 15) (v := .ref 43) rfl rfl rfl rfl ?_
    refine pm_R_op pm_M172 (pc_q := 16) (st_q := [.int 0, .ref 43, .ref 42]) rfl rfl rfl ?_
    refine pm_R_iald pm_M172 (pc_q := 17) (v := z448) rfl e454 (Nat.lt_of_lt_of_le (by decide) T452.1) rfl sf_upd_eq rfl ?_
    refine pm_R_lo pm_M172 (pc_q := 18) rfl rfl rfl ?_
    refine pm_R_lo pm_M172 (pc_q := 19) rfl rfl rfl ?_
    refine sf_R_iany pm_M172 (pc_q := 20) (st := [.int z448, .ref 42]) rfl rfl rfl (fun z461 => ?_)
    refine sf_R_iany pm_M172 (pc_q := 21) (st := [.int z448, .ref 42]) rfl rfl rfl (fun z462 => ?_)
    have e463 := (F453.cell (by decide) e443)
    refine rf_R_bst pm_M172 T452 (pc_q := 22) rfl e463 (sf_in B450 (by decide) (by decide)) rfl (fun h464 T465 F466 e467 => ?_)
    have F468 := F455.trans F466 (by decide)
    refine pm_R_lo pm_M172 (pc_q := 23) rfl rfl rfl ?_
    refine rf_R_get pm_M172 T465 (pc_q := 26) (v := .ref 43) rfl rfl rfl rfl ?_
    refine pm_R_op pm_M172 (pc_q := 27) (st_q := [.int 0, .ref 43]) rfl rfl rfl ?_
    refine pm_R_op pm_M172 (pc_q := 28) (st_q := [.int 0, .ref 43, .int 0, .ref 43]) rfl rfl rfl ?_
    have e469 := (F466.cell (by decide) e454)
    refine pm_R_iald pm_M172 (pc_q := 29) (v := z448) rfl e469 (Nat.lt_of_lt_of_le (by decide) T465.1) rfl sf_upd_eq rfl ?_
    refine pm_R_op pm_M172 (pc_q := 30) (st_q := [.int 1, .int z448, .int 0, .ref 43]) rfl rfl rfl ?_
    refine sf_R_iadd pm_M172 (pc_q := 31) rfl rfl B450 sf_k1 (by decide) (by decide) (fun z472 e473 B474 => ?_)
    refine rf_R_ist2 pm_M172 T465 (pc_q := 32) rfl e469 (by decide) (by decide) rfl ⟨_, rfl, sf_upd (sf_upd (sf_upd (sf_upd (sf_upd (sf_upd (sf_upd (sf_upd (sf_upd (sf_upd (sf_upd (sf_upd (sf_upd (sf_upd (sf_upd (sf_upd (sf_upd (sf_upd (sf_upd b3 (sf_weak B42 (by decide) (by decide)) _) (sf_weak B66 (by decide) (by decide)) _) (sf_weak B90 (by decide) (by decide)) _) (sf_weak B114 (by decide) (by decide)) _) (sf_weak B138 (by decide) (by decide)) _) (sf_weak B162 (by decide) (by decide)) _) (sf_weak B186 (by decide) (by decide)) _) (sf_weak B210 (by decide) (by decide)) _) (sf_weak B234 (by decide) (by decide)) _) (sf_weak B258 (by decide) (by decide)) _) (sf_weak B282 (by decide) (by decide)) _) (sf_weak B306 (by decide) (by decide)) _) (sf_weak B330 (by decide) (by decide)) _) (sf_weak B354 (by decide) (by decide)) _) (sf_weak B378 (by decide) (by decide)) _) (sf_weak B402 (by decide) (by decide)) _) (sf_weak B426 (by decide) (by decide)) _) (sf_weak B450 (by decide) (by decide)) _) (sf_weak B474 (by decide) (by decide)) _⟩ rfl (fun h475 T476 F477 e478 => ?_)
    have F479 := F468.trans F477 (by decide)
    refine pm_R_lo pm_M172 (pc_q := 35) (ls_q := [.ref 41, .int a4, .int 0]) (st_q := []) rfl rfl rfl ?_
    refine pm_R_br pm_M172 (pc_q := 3) rfl rfl ?_
    refine pm_R_lo pm_M172 (pc_q := 4) rfl rfl rfl ?_
    refine pm_R_br pm_M172 (pc_q := 7) (st_q := []) rfl rfl ?_
    refine pm_R_lo pm_M172 (pc_q := 8) rfl rfl rfl ?_
    refine rf_R_get pm_M172 T476 (pc_q := 11) (v := .ref 42) rfl rfl rfl rfl ?_
    refine pm_R_lo pm_M172 (pc_q := 12) rfl rfl rfl ?_
    refine rf_R_get pm_M172 T476 (pc_q := 15) (v := .ref 43) rfl rfl rfl rfl ?_
    refine pm_R_op pm_M172 (pc_q := 16) (st_q := [.int 0, .ref 43, .ref 42]) rfl rfl rfl ?_
    refine pm_R_iald pm_M172 (pc_q := 17) (v := z472) rfl e478 (Nat.lt_of_lt_of_le (by decide) T476.1) rfl sf_upd_eq rfl ?_
    refine pm_R_lo pm_M172 (pc_q := 18) rfl rfl rfl ?_
    refine pm_R_lo pm_M172 (pc_q := 19) rfl rfl rfl ?_
    refine sf_R_iany pm_M172 (pc_q := 20) (st := [.int z472, .ref 42]) rfl rfl rfl (fun z485 => ?_)
    refine sf_R_iany pm_M172 (pc_q := 21) (st := [.int z472, .ref 42]) rfl rfl rfl (fun z486 => ?_)
    have e487 := (F477.cell (by decide) e467)
    refine rf_R_bst pm_M172 T476 (pc_q := 22) rfl e487 (sf_in B474 (by decide) (by decide)) rfl (fun h488 T489 F490 e491 => ?_)
    have F492 := F479.trans F490 (by decide)
    refine pm_R_lo pm_M172 (pc_q := 23) rfl rfl rfl ?_
    refine rf_R_get pm_M172 T489 (pc_q := 26) (v := .ref 43) rfl rfl rfl rfl ?_
    refine pm_R_op pm_M172 (pc_q := 27) (st_q := [.int 0, .ref 43]) rfl rfl rfl ?_
    refine pm_R_op pm_M172 (pc_q := 28) (st_q := [.int 0, .ref 43, .int 0, .ref 43]) rfl rfl rfl ?_
    have e493 := (F490.cell (by decide) e478)
    refine pm_R_iald pm_M172 (pc_q := 29) (v := z472) rfl e493 (Nat.lt_of_lt_of_le (by decide) T489.1) rfl sf_upd_eq rfl ?_
    refine pm_R_op pm_M172 (pc_q := 30) (st_q := [.int 1, .int z472, .int 0, .ref 43]) rfl rfl rfl ?_
    refine sf_R_iadd pm_M172 (pc_q := 31) rfl rfl B474 sf_k1 (by decide) (by decide) (fun z496 e497 B498 => ?_)
    refine rf_R_ist2 pm_M172 T489 (pc_q := 32) rfl e493 (by decide) (by decide) rfl ⟨_, rfl, sf_upd (sf_upd (sf_upd (sf_upd (sf_upd (sf_upd (sf_upd (sf_upd (sf_upd (sf_upd (sf_upd (sf_upd (sf_upd (sf_upd (sf_upd (sf_upd (sf_upd (sf_upd (sf_upd (sf_upd b3 (sf_weak B42 (by decide) (by decide)) _) (sf_weak B66 (by decide) (by decide)) _) (sf_weak B90 (by decide) (by decide)) _) (sf_weak B114 (by decide) (by decide)) _) (sf_weak B138 (by decide) (by decide)) _) (sf_weak B162 (by decide) (by decide)) _) (sf_weak B186 (by decide) (by decide)) _) (sf_weak B210 (by decide) (by decide)) _) (sf_weak B234 (by decide) (by decide)) _) (sf_weak B258 (by decide) (by decide)) _) (sf_weak B282 (by decide) (by decide)) _) (sf_weak B306 (by decide) (by decide)) _) (sf_weak B330 (by decide) (by decide)) _) (sf_weak B354 (by decide) (by decide)) _) (sf_weak B378 (by decide) (by decide)) _) (sf_weak B402 (by decide) (by decide)) _) (sf_weak B426 (by decide) (by decide)) _) (sf_weak B450 (by decide) (by decide)) _) (sf_weak B474 (by decide) (by decide)) _) (sf_weak B498 (by decide) (by decide)) _⟩ rfl (fun h499 T500 F501 e502 => ?_)
    have F503 := F492.trans F501 (by decide)
    refine pm_R_lo pm_M172 (pc_q := 35) (ls_q := [.ref 41, .int a4, .int (-8)]) (st_q := []) rfl rfl rfl ?_
    refine pm_R_br pm_M172 (pc_q := 3) rfl rfl ?_
    refine pm_R_lo pm_M172 (pc_q := 4) rfl rfl rfl ?_
    refine pm_R_br pm_M172 (pc_q := 38) (st_q := []) rfl rfl ?_
    refine pm_R_ret pm_M172 (r := none) rfl rfl ?_
    show pm_R _ 171 49 [.ref 41, .int a0, .int a1, .int a2, .int a3, .int a4] [] _ _
    refine pm_R_lo pm_M171 (pc_q := 50) rfl rfl rfl ?_
    refine rf_R_get pm_M171 T500 (pc_q := 53) (v := .ref 43) rfl rfl rfl rfl ?_
    refine pm_R_op pm_M171 (pc_q := 54) (st_q := [.int 0, .ref 43]) rfl rfl rfl ?_
    refine pm_R_iald pm_M171 (pc_q := 55) (v := z496) rfl e502 (Nat.lt_of_lt_of_le (by decide) T500.1) rfl sf_upd_eq rfl ?_
    exact pm_R_ret pm_M171 (r := some (.int z496)) rfl (pm_ret_i _) (K z496 m7 w h499 T500 F503 W12 (fun g eg => by rw [e2] at eg; cases eg; exact Or.inr ⟨(sf_aux89 _ _ e17 (Int32.le_iff_toInt_le.mp c19)), (sf_aux90 _ _ _ _ _ _ _ _ _ _ _ _ _ _ _ _ _ _ _ _ _ e41 e65 e89 e113 e137 e161 e185 e209 e233 e257 e281 e305 e329 e353 e377 e401 e425 e449 e473 e497), _, e502, (congrArg Int32.toInt sf_upd_eq).trans (sf_aux90 _ _ _ _ _ _ _ _ _ _ _ _ _ _ _ _ _ _ _ _ _ e41 e65 e89 e113 e137 e161 e185 e209 e233 e257 e281 e305 e329 e353 e377 e401 e425 e449 e473 e497), fun j hj => by simp only [upd, sf_n0, if_neg hj]⟩) (sf_weak B498 (by decide) (by decide)))
  · have B506 : sf_B 601 620 z16 := sf_ltR (Int32.not_le.mp c19) sf_k600 B18
    refine pm_R_op pm_M171 (pc_q := 21) (st_q := [.int (-1)]) rfl rfl rfl ?_
    exact pm_R_ret pm_M171 (r := some (.int (-1))) rfl rfl (K (-1) m7 w h4 T5 F9 W12 (fun g eg => by rw [e2] at eg; cases eg; exact Or.inl ⟨(sf_aux91 _ _ e17 (Int32.lt_iff_toInt_lt.mp (Int32.not_le.mp c19))), rfl, e13⟩) (sf_weak sf_kn1 (by decide) (by decide)))

set_option maxRecDepth 100000 in
set_option maxHeartbeats 4000000 in
/-- SilentTableModel.end -/
theorem rf_c173 {d : Nat} {m : Nat → Int32} {w : Int64} {h : pm_H} {Q : Option Value → pm_H → Prop} {a0 : Int32} (T : rf_T m w h)  (K : ∀ (r : Int32) (m_q : Nat → Int32) (w_q : Int64) (h_q : pm_H), rf_T m_q w_q h_q → rf_G [41, 43] h h_q → rf_W [0] m m_q → (∀ g : Nat → Int32, h.2.2 43 = .inl (0, 4, .inl g) → ((r.toInt = -1 ∧ (a0.toInt < 0 ∨ (g 0).toInt < a0.toInt) ∧ h_q.2.2 43 = .inl (0, 4, .inl g)) ∨ (0 ≤ a0.toInt ∧ a0.toInt ≤ (g 0).toInt ∧ r = a0 ∧ h_q.2.2 43 = .inl (0, 4, .inl (upd g (Int32.toNatClampNeg 0) a0))))) → sf_B (-1) 600 r → Q (some (.int r)) h_q) : pm_R (d + 1) 173 0 [.ref 41, .int a0] [] h Q := by
  obtain ⟨f1, e2, b3⟩ := T.2.2.2.1 43 (by decide) (by decide)
  refine pm_R_lo pm_M173 (pc_q := 1) rfl rfl rfl ?_
  refine pm_R_op pm_M173 (pc_q := 2) (st_q := [.int 0, .ref 41]) rfl rfl rfl ?_
  refine rf_R_put pm_M173 T (pc_q := 5) rfl rfl rfl (by decide) rfl rfl sf_k0 rfl rfl (fun h4 m7 em8 T5 F6 => ?_)
  have F9 := (rf_G.refl [41, 43] h).trans F6 (by decide)
  have B10 : sf_B 0 0 (m7 0) := by rw [em8]; exact sf_k0
  have W12 : rf_W [0] m m7 := by rw [em8]; exact (rf_W.refl [0] m).put (by decide)
  refine pm_R_lo pm_M173 (pc_q := 6) rfl rfl rfl ?_
  refine pm_R_op pm_M173 (pc_q := 7) (st_q := [.int 0, .int a0]) rfl rfl rfl ?_
  refine pm_R_lo pm_M173 (pc_q := 8) rfl rfl rfl ?_
  refine rf_R_get pm_M173 T5 (pc_q := 11) (v := .ref 43) rfl rfl rfl rfl ?_
  refine pm_R_op pm_M173 (pc_q := 12) (st_q := [.int 0, .ref 43, .int 0, .int a0]) rfl rfl rfl ?_
  have e13 := (F6.cell (by decide) e2)
  refine pm_R_iald pm_M173 (pc_q := 13) (v := (f1 0)) rfl e13 (Nat.lt_of_lt_of_le (by decide) T5.1) rfl rfl rfl ?_
  refine pm_R_cs pm_M173 (pc_q := 16) (ra := [.int (f1 0), .int 0, .int a0]) (rest := []) (ls_q := [.int a0, .int 0, .int (f1 0)]) rfl rfl (Or.inl rfl) pm_M174 rfl rfl (Nat.le_of_ble_eq_true rfl) rfl rfl ?_
  refine pm_R_lo pm_M174 (pc_q := 1) rfl rfl rfl ?_
  refine pm_R_lo pm_M174 (pc_q := 2) rfl rfl rfl ?_
  refine pm_R_icmp pm_M174 (t := 14) (pc_q := 5) rfl rfl rfl (fun c16 => ?_) (fun c16 => ?_)
  · have B17 : sf_B (-2147483648) (-1) a0 := sf_ltL c16 (sf_any a0) sf_k0
    refine pm_R_op pm_M174 (pc_q := 15) (st_q := [.int 0]) rfl rfl rfl ?_
    refine pm_R_ret pm_M174 (r := some (.int 0)) rfl rfl ?_
    show pm_R _ 173 16 [.ref 41, .int a0] [.int 0] _ _
    refine pm_R_br pm_M173 (pc_q := 19) (st_q := []) rfl rfl ?_
    refine pm_R_op pm_M173 (pc_q := 20) (st_q := [.int (-1)]) rfl rfl rfl ?_
    exact pm_R_ret pm_M173 (r := some (.int (-1))) rfl rfl (K (-1) m7 w h4 T5 F9 W12 (fun g eg => by rw [e2] at eg; cases eg; exact Or.inl ⟨rfl, Or.inl (Int32.lt_iff_toInt_lt.mp c16), e13⟩) (sf_weak sf_kn1 (by decide) (by decide)))
  · have B18 : sf_B 0 2147483647 a0 := sf_leR (Int32.not_lt.mp c16) sf_k0 (sf_any a0)
    refine pm_R_lo pm_M174 (pc_q := 6) rfl rfl rfl ?_
    refine pm_R_lo pm_M174 (pc_q := 7) rfl rfl rfl ?_
    refine pm_R_icmp pm_M174 (t := 14) (pc_q := 10) rfl rfl rfl (fun c19 => ?_) (fun c19 => ?_)
    · have B20 : sf_B 1 2147483647 a0 := sf_ltR c19 (b3 0) B18
      refine pm_R_op pm_M174 (pc_q := 15) (st_q := [.int 0]) rfl rfl rfl ?_
      refine pm_R_ret pm_M174 (r := some (.int 0)) rfl rfl ?_
      show pm_R _ 173 16 [.ref 41, .int a0] [.int 0] _ _
      refine pm_R_br pm_M173 (pc_q := 19) (st_q := []) rfl rfl ?_
      refine pm_R_op pm_M173 (pc_q := 20) (st_q := [.int (-1)]) rfl rfl rfl ?_
      exact pm_R_ret pm_M173 (r := some (.int (-1))) rfl rfl (K (-1) m7 w h4 T5 F9 W12 (fun g eg => by rw [e2] at eg; cases eg; exact Or.inl ⟨rfl, Or.inr (Int32.lt_iff_toInt_lt.mp c19), e13⟩) (sf_weak sf_kn1 (by decide) (by decide)))
    · have B21 : sf_B 0 600 a0 := sf_leL (Int32.not_lt.mp c19) B18 (b3 0)
      refine pm_R_op pm_M174 (pc_q := 11) (st_q := [.int 1]) rfl rfl rfl ?_
      refine pm_R_br pm_M174 (pc_q := 15) rfl rfl ?_
      refine pm_R_ret pm_M174 (r := some (.int 1)) rfl rfl ?_
      show pm_R _ 173 16 [.ref 41, .int a0] [.int 1] _ _
      refine pm_R_br pm_M173 (pc_q := 21) (st_q := []) rfl rfl ?_
      refine pm_R_lo pm_M173 (pc_q := 22) rfl rfl rfl ?_
      refine rf_R_get pm_M173 T5 (pc_q := 25) (v := .ref 43) rfl rfl rfl rfl ?_
      refine pm_R_op pm_M173 (pc_q := 26) (st_q := [.int 0, .ref 43]) rfl rfl rfl ?_
      refine pm_R_lo pm_M173 (pc_q := 27) rfl rfl rfl ?_
      refine rf_R_ist2 pm_M173 T5 (pc_q := 28) rfl e13 (by decide) (by decide) rfl ⟨_, rfl, sf_upd b3 B21 _⟩ rfl (fun h22 T23 F24 e25 => ?_)
      have F26 := F9.trans F24 (by decide)
      refine pm_R_lo pm_M173 (pc_q := 29) rfl rfl rfl ?_
      exact pm_R_ret pm_M173 (r := some (.int a0)) rfl (pm_ret_i _) (K a0 m7 w h22 T23 F26 W12 (fun g eg => by rw [e2] at eg; cases eg; exact Or.inr ⟨B21.1, Int32.le_iff_toInt_le.mp (Int32.not_lt.mp c19), rfl, e25⟩) (sf_weak B21 (by decide) (by decide)))

set_option maxRecDepth 100000 in
set_option maxHeartbeats 4000000 in
/-- SilentTableModel.text -/
theorem rf_c175_0 {d : Nat} {m : Nat → Int32} {w : Int64} {h : pm_H} {Q : Option Value → pm_H → Prop} {a1 : Int32} (T : rf_T m w h)  (K : ∀ (r : Int32) (m_q : Nat → Int32) (w_q : Int64) (h_q : pm_H), rf_T m_q w_q h_q → rf_G [41, 43, 44, 45, 46, 47, 51, 52] h h_q → rf_W [0, 10, 11, 12, 13, 14, 16, 17, 18, 21, 22] m m_q → (∀ g : Nat → Int32, h.2.2 43 = .inl (0, 4, .inl g) → h_q.2.2 43 = .inl (0, 4, .inl (upd g (Int32.toNatClampNeg 0) 0))) → sf_B (-2) 1 r → Q (some (.int r)) h_q) : pm_R (d + 7) 175 0 [.ref 41, .int 0, .int a1, pm_no] [] h Q := by
  obtain ⟨f1, e2, b3⟩ := T.2.2.2.1 43 (by decide) (by decide)
  refine pm_R_lo pm_M175 (pc_q := 1) rfl rfl rfl ?_
  refine pm_R_op pm_M175 (pc_q := 2) (st_q := [.int 0, .ref 41]) rfl rfl rfl ?_
  refine rf_R_put pm_M175 T (pc_q := 5) rfl rfl rfl (by decide) rfl rfl sf_k0 rfl rfl (fun h4 m7 em8 T5 F6 => ?_)
  have F9 := (rf_G.refl [41, 43, 44, 45, 46, 47, 51, 52] h).trans F6 (by decide)
  have B10 : sf_B 0 0 (m7 0) := by rw [em8]; exact sf_k0
  have W12 : rf_W [0, 10, 11, 12, 13, 14, 16, 17, 18, 21, 22] m m7 := by rw [em8]; exact (rf_W.refl [0, 10, 11, 12, 13, 14, 16, 17, 18, 21, 22] m).put (by decide)
  refine pm_R_lo pm_M175 (pc_q := 6) rfl rfl rfl ?_
  refine pm_R_lo pm_M175 (pc_q := 7) rfl rfl rfl ?_
  refine rf_R_get pm_M175 T5 (pc_q := 10) (v := .ref 43) rfl rfl rfl rfl ?_
  refine pm_R_op pm_M175 (pc_q := 11) (st_q := [.int 0, .ref 43, .ref 41]) rfl rfl rfl ?_
  have e13 := (F6.cell (by decide) e2)
  refine pm_R_iald pm_M175 (pc_q := 12) (v := (f1 0)) rfl e13 (Nat.lt_of_lt_of_le (by decide) T5.1) rfl rfl rfl ?_
  refine rf_R_put pm_M175 T5 (pc_q := 15) rfl rfl rfl (by decide) rfl rfl (b3 0) rfl rfl (fun h16 m19 em20 T17 F18 => ?_)
  have F21 := F9.trans F18 (by decide)
  have B22 : sf_B 0 600 (m19 11) := by rw [em20]; exact (b3 0)
  have ek23 : (m19 11).toInt = ((f1 0)).toInt := by rw [em20]; rfl
  have W24 : rf_W [0, 10, 11, 12, 13, 14, 16, 17, 18, 21, 22] m m19 := by rw [em20]; exact W12.put (by decide)
  refine pm_R_lo pm_M175 (pc_q := 16) rfl rfl rfl ?_
  refine rf_R_get pm_M175 T17 (pc_q := 19) (v := .ref 43) rfl rfl rfl rfl ?_
  refine pm_R_op pm_M175 (pc_q := 20) (st_q := [.int 0, .ref 43]) rfl rfl rfl ?_
  refine pm_R_op pm_M175 (pc_q := 21) (st_q := [.int 0, .int 0, .ref 43]) rfl rfl rfl ?_
  have e25 := (F18.cell (by decide) e13)
  refine rf_R_ist2 pm_M175 T17 (pc_q := 22) rfl e25 (by decide) (by decide) rfl ⟨_, rfl, sf_upd b3 (sf_weak sf_k0 (by decide) (by decide)) _⟩ rfl (fun h26 T27 F28 e29 => ?_)
  have F30 := F21.trans F28 (by decide)
  refine pm_R_lo pm_M175 (pc_q := 23) rfl rfl rfl ?_
  refine rf_R_get pm_M175 T27 (pc_q := 26) (v := .ref 44) rfl rfl rfl rfl ?_
  refine pm_R_op pm_M175 (pc_q := 27) (st_q := [.int 0, .ref 44]) rfl rfl rfl ?_
  refine pm_R_op pm_M175 (pc_q := 28) (st_q := [.int 0, .int 0, .ref 44]) rfl rfl rfl ?_
  obtain ⟨f31, e32, b33⟩ := T27.2.2.2.1 44 (by decide) (by decide)
  refine rf_R_ist2 pm_M175 T27 (pc_q := 29) rfl e32 (by decide) (by decide) rfl ⟨_, rfl, sf_upd b33 (sf_weak sf_k0 (by decide) (by decide)) _⟩ rfl (fun h34 T35 F36 e37 => ?_)
  have F38 := F30.trans F36 (by decide)
  refine pm_R_lo pm_M175 (pc_q := 30) rfl rfl rfl ?_
  refine rf_R_get pm_M175 T35 (pc_q := 33) (v := .ref 45) rfl rfl rfl rfl ?_
  refine pm_R_op pm_M175 (pc_q := 34) (st_q := [.int 0, .ref 45]) rfl rfl rfl ?_
  refine pm_R_op pm_M175 (pc_q := 35) (st_q := [.int (-1), .int 0, .ref 45]) rfl rfl rfl ?_
  obtain ⟨f39, e40, b41⟩ := T35.2.2.2.1 45 (by decide) (by decide)
  refine rf_R_ist2 pm_M175 T35 (pc_q := 36) rfl e40 (by decide) (by decide) rfl ⟨_, rfl, sf_upd b41 (sf_weak sf_kn1 (by decide) (by decide)) _⟩ rfl (fun h42 T43 F44 e45 => ?_)
  have F46 := F38.trans F44 (by decide)
  refine pm_R_lo pm_M175 (pc_q := 37) rfl rfl rfl ?_
  refine pm_R_op pm_M175 (pc_q := 38) (st_q := [.int 0, .int 0]) rfl rfl rfl ?_
  refine pm_R_op pm_M175 (pc_q := 39) (st_q := [.int 3, .int 0, .int 0]) rfl rfl rfl ?_
  refine pm_R_cs pm_M175 (pc_q := 42) (ra := [.int 3, .int 0, .int 0]) (rest := []) (ls_q := [.int 0, .int 0, .int 3]) rfl rfl (Or.inl rfl) pm_M174 rfl rfl (Nat.le_of_ble_eq_true rfl) rfl rfl ?_
  refine pm_R_lo pm_M174 (pc_q := 1) rfl rfl rfl ?_
  refine pm_R_lo pm_M174 (pc_q := 2) rfl rfl rfl ?_
  refine pm_R_br pm_M174 (pc_q := 5) (st_q := []) rfl rfl ?_
  refine pm_R_lo pm_M174 (pc_q := 6) rfl rfl rfl ?_
  refine pm_R_lo pm_M174 (pc_q := 7) rfl rfl rfl ?_
  refine pm_R_br pm_M174 (pc_q := 10) (st_q := []) rfl rfl ?_
  refine pm_R_op pm_M174 (pc_q := 11) (st_q := [.int 1]) rfl rfl rfl ?_
  refine pm_R_br pm_M174 (pc_q := 15) rfl rfl ?_
  refine pm_R_ret pm_M174 (r := some (.int 1)) rfl rfl ?_
  show pm_R _ 175 42 [.ref 41, .int 0, .int a1, pm_no] [.int 1] _ _
  refine pm_R_br pm_M175 (pc_q := 45) (st_q := []) rfl rfl ?_
  refine pm_R_lo pm_M175 (pc_q := 46) rfl rfl rfl ?_
  refine pm_R_op pm_M175 (pc_q := 47) (st_q := [.int (-1), .int a1]) rfl rfl rfl ?_
  refine pm_R_icmp pm_M175 (t := 66) (pc_q := 50) rfl rfl rfl (fun c47 => ?_) (fun c47 => ?_)
  · skip
    refine pm_R_lo pm_M175 (pc_q := 67) rfl rfl rfl ?_
    refine pm_R_lo pm_M175 (pc_q := 68) rfl rfl rfl ?_
    refine pm_R_lo pm_M175 (pc_q := 69) rfl rfl rfl ?_
    refine pm_R_cv pm_M175 (pc_q := 72) (a := 41) (ra := [.int a1, .int 0]) (rest := []) (ls_q := [.ref 41, .int 0, .int a1]) rfl rfl (Or.inl rfl) pm_M177 T43.2.1 rfl (by decide) (Nat.lt_of_lt_of_le (by decide) T43.1) rfl rfl (Nat.le_of_ble_eq_true rfl) rfl rfl ?_
    refine pm_R_lo pm_M177 (pc_q := 1) rfl rfl rfl ?_
    refine pm_R_op pm_M177 (pc_q := 2) (st_q := [.int 0, .int a1]) rfl rfl rfl ?_
    refine pm_R_lo pm_M177 (pc_q := 3) rfl rfl rfl ?_
    refine rf_R_get pm_M177 T43 (pc_q := 6) (v := .ref 46) rfl rfl rfl rfl ?_
    refine pm_R_lo pm_M177 (pc_q := 7) rfl rfl rfl ?_
    obtain ⟨f48, e49, b50⟩ := T43.2.2.2.1 46 (by decide) (by decide)
    refine rf_R_ild pm_M177 T43 (pc_q := 8) rfl e49 (by decide) rfl rfl (fun z51 ez52 => ?_)
    have B53 : sf_B 0 2 z51 := ez52 ▸ (b50 0)
    refine pm_R_op pm_M177 (pc_q := 9) (st_q := [.int 1, .int z51, .int 0, .int a1]) rfl rfl rfl ?_
    refine sf_R_isub pm_M177 (pc_q := 10) rfl rfl B53 sf_k1 (by decide) (by decide) (fun z54 e55 B56 => ?_)
    refine pm_R_cs pm_M177 (pc_q := 13) (ra := [.int z54, .int 0, .int a1]) (rest := []) (ls_q := [.int a1, .int 0, .int z54]) rfl rfl (Or.inl rfl) pm_M174 rfl rfl (Nat.le_of_ble_eq_true rfl) rfl rfl ?_
    refine pm_R_lo pm_M174 (pc_q := 1) rfl rfl rfl ?_
    refine pm_R_lo pm_M174 (pc_q := 2) rfl rfl rfl ?_
    refine pm_R_icmp pm_M174 (t := 14) (pc_q := 5) rfl rfl rfl (fun c57 => ?_) (fun c57 => ?_)
    · have B58 : sf_B (-2147483648) (-1) a1 := sf_ltL c57 (sf_any a1) sf_k0
      refine pm_R_op pm_M174 (pc_q := 15) (st_q := [.int 0]) rfl rfl rfl ?_
      refine pm_R_ret pm_M174 (r := some (.int 0)) rfl rfl ?_
      show pm_R _ 177 13 [.ref 41, .int 0, .int a1] [.int 0] _ _
      refine pm_R_ret pm_M177 (r := some (.int 0)) rfl rfl ?_
      show pm_R _ 175 72 [.ref 41, .int 0, .int a1, pm_no] [.int 0] _ _
      refine pm_R_br pm_M175 (pc_q := 75) (st_q := []) rfl rfl ?_
      refine pm_R_op pm_M175 (pc_q := 77) (st_q := [.int (-2)]) rfl rfl rfl ?_
      have e59 := (F44.cell (by decide) (F36.cell (by decide) e29))
      exact pm_R_ret pm_M175 (r := some (.int (-2))) rfl rfl (K (-2) m19 w h42 T43 F46 W24 (fun g eg => by rw [e2] at eg; cases eg; exact e59) (sf_weak sf_kn2 (by decide) (by decide)))
    · have B60 : sf_B 0 2147483647 a1 := sf_leR (Int32.not_lt.mp c57) sf_k0 (sf_any a1)
      refine pm_R_lo pm_M174 (pc_q := 6) rfl rfl rfl ?_
      refine pm_R_lo pm_M174 (pc_q := 7) rfl rfl rfl ?_
      refine pm_R_icmp pm_M174 (t := 14) (pc_q := 10) rfl rfl rfl (fun c61 => ?_) (fun c61 => ?_)
      · skip
        refine pm_R_op pm_M174 (pc_q := 15) (st_q := [.int 0]) rfl rfl rfl ?_
        refine pm_R_ret pm_M174 (r := some (.int 0)) rfl rfl ?_
        show pm_R _ 177 13 [.ref 41, .int 0, .int a1] [.int 0] _ _
        refine pm_R_ret pm_M177 (r := some (.int 0)) rfl rfl ?_
        show pm_R _ 175 72 [.ref 41, .int 0, .int a1, pm_no] [.int 0] _ _
        refine pm_R_br pm_M175 (pc_q := 75) (st_q := []) rfl rfl ?_
        refine pm_R_op pm_M175 (pc_q := 77) (st_q := [.int (-2)]) rfl rfl rfl ?_
        have e62 := (F44.cell (by decide) (F36.cell (by decide) e29))
        exact pm_R_ret pm_M175 (r := some (.int (-2))) rfl rfl (K (-2) m19 w h42 T43 F46 W24 (fun g eg => by rw [e2] at eg; cases eg; exact e62) (sf_weak sf_kn2 (by decide) (by decide)))
      · have B63 : sf_B 0 1 a1 := sf_leL (Int32.not_lt.mp c61) B60 B56
        have B64 : sf_B 0 1 z54 := sf_leR (Int32.not_lt.mp c61) B60 B56
        refine pm_R_op pm_M174 (pc_q := 11) (st_q := [.int 1]) rfl rfl rfl ?_
        refine pm_R_br pm_M174 (pc_q := 15) rfl rfl ?_
        refine pm_R_ret pm_M174 (r := some (.int 1)) rfl rfl ?_
        show pm_R _ 177 13 [.ref 41, .int 0, .int a1] [.int 1] _ _
        refine pm_R_ret pm_M177 (r := some (.int 1)) rfl rfl ?_
        show pm_R _ 175 72 [.ref 41, .int 0, .int a1, pm_no] [.int 1] _ _
        refine pm_R_br pm_M175 (pc_q := 78) (st_q := []) rfl rfl ?_
        refine pm_R_lo pm_M175 (pc_q := 79) rfl rfl rfl ?_
        refine pm_R_lo pm_M175 (pc_q := 80) rfl rfl rfl ?_
        refine pm_R_cv pm_M175 (pc_q := 83) (a := 41) (ra := [.int 0]) (rest := []) (ls_q := [.ref 41, .int 0, pm_no, pm_no]) rfl rfl (Or.inl rfl) pm_M178 T43.2.1 rfl (by decide) (Nat.lt_of_lt_of_le (by decide) T43.1) rfl rfl (Nat.le_of_ble_eq_true rfl) rfl rfl ?_
        refine rf_c178_0 (d := d + 0) T43  (fun m67 w68 h69 T70 F71 W72 => ?_) (fun m75 w76 h77 T78 F79 W80 X81 => ?_)
        · have F82 := F46.trans F71 (by decide)
          have W83 : rf_W [0, 10, 11, 12, 13, 14, 16, 17, 18, 21, 22] m m67 := W24.trans W72 (by decide)
          show pm_R _ 175 83 [.ref 41, .int 0, .int a1, pm_no] [.int 0] _ _
          refine pm_R_br pm_M175 (pc_q := 86) (st_q := []) rfl rfl ?_
          refine pm_R_op pm_M175 (pc_q := 87) (st_q := [.int (-1)]) rfl rfl rfl ?_
          have e84 := (F71.cell (by decide) (F44.cell (by decide) (F36.cell (by decide) e29)))
          exact pm_R_ret pm_M175 (r := some (.int (-1))) rfl rfl (K (-1) m67 w68 h69 T70 F82 W83 (fun g eg => by rw [e2] at eg; cases eg; exact e84) (sf_weak sf_kn1 (by decide) (by decide)))
        · have F85 := F46.trans F79 (by decide)
          have W86 : rf_W [0, 10, 11, 12, 13, 14, 16, 17, 18, 21, 22] m m75 := W24.trans W80 (by decide)
          show pm_R _ 175 83 [.ref 41, .int 0, .int a1, pm_no] [.int 1] _ _
          refine pm_R_br pm_M175 (pc_q := 88) (st_q := []) rfl rfl ?_
          refine pm_R_lo pm_M175 (pc_q := 89) rfl rfl rfl ?_
          refine pm_R_op pm_M175 (pc_q := 90) (st_q := [.int (-1), .int a1]) rfl rfl rfl ?_
          refine pm_R_icmp pm_M175 (t := 102) (pc_q := 93) rfl rfl rfl (fun c87 => ?_) (fun c87 => absurd (Classical.not_not.mp c87) (sf_neq1 B63 sf_kn1 (by decide)))
          skip
          refine pm_R_lo pm_M175 (pc_q := 103) (pm_q175_1 (Nat.le_of_ble_eq_true rfl)) rfl rfl ?_
          refine pm_R_lo pm_M175 (pc_q := 104) (ls_q := [.ref 41, .int 0, .int a1, .int a1]) (st_q := []) (pm_q175_1 (Nat.le_of_ble_eq_true rfl)) rfl rfl ?_
          refine pm_R_lo pm_M175 (pc_q := 105) (pm_q175_1 (Nat.le_of_ble_eq_true rfl)) rfl rfl ?_
          refine rf_R_get pm_M175 T78 (pc_q := 108) (v := .ref 46) (pm_q175_1 (Nat.le_of_ble_eq_true rfl)) rfl rfl rfl ?_
          refine pm_R_lo pm_M175 (pc_q := 109) (pm_q175_1 (Nat.le_of_ble_eq_true rfl)) rfl rfl ?_
          refine pm_R_op pm_M175 (pc_q := 110) (st_q := [.int 0, .ref 46, .int 0, .ref 46]) (pm_q175_1 (Nat.le_of_ble_eq_true rfl)) rfl rfl ?_
          have e88 := (F79.cell (by decide) e49)
          refine pm_R_iald pm_M175 (pc_q := 111) (v := z51) (pm_q175_1 (Nat.le_of_ble_eq_true rfl)) e88 (Nat.lt_of_lt_of_le (by decide) T78.1) rfl ez52 rfl ?_
          refine pm_R_lo pm_M175 (pc_q := 112) (pm_q175_1 (Nat.le_of_ble_eq_true rfl)) rfl rfl ?_
          refine pm_R_op pm_M175 (pc_q := 113) (st_q := [.int (-1), .int a1, .int z51, .int 0, .ref 46]) (pm_q175_1 (Nat.le_of_ble_eq_true rfl)) rfl rfl ?_
          refine pm_R_icmp pm_M175 (t := 120) (pc_q := 116) (pm_q175_1 (Nat.le_of_ble_eq_true rfl)) rfl rfl (fun c91 => ?_) (fun c91 => absurd (Classical.not_not.mp c91) (sf_neq1 B63 sf_kn1 (by decide)))
          skip
          refine pm_R_op pm_M175 (pc_q := 121) (st_q := [.int 0, .int z51, .int 0, .ref 46]) (pm_q175_1 (Nat.le_of_ble_eq_true rfl)) rfl rfl ?_
          refine sf_R_iadd pm_M175 (pc_q := 122) (pm_q175_1 (Nat.le_of_ble_eq_true rfl)) rfl B53 sf_k0 (by decide) (by decide) (fun z92 e93 B94 => ?_)
          obtain ⟨f95, e96, hf97⟩ := X81
          refine rf_tail0 (d := d + 6) T78 e88 e96 hf97 B94 B63  (fun h99 T100 G101 d102 d103 => ?_)
          have F104 := F85.trans G101 (by decide)
          have e105 := (G101.cell (by decide) (F79.cell (by decide) (F44.cell (by decide) (F36.cell (by decide) e29))))
          exact K a1 m75 w76 h99 T100 F104 W86 (fun g eg => by rw [e2] at eg; cases eg; exact e105) (sf_weak B63 (by decide) (by decide))
  · have B106 : sf_B (-1) (-1) a1 := sf_eqL (Classical.not_not.mp c47) sf_kn1
    refine pm_R_lo pm_M175 (pc_q := 51) rfl rfl rfl ?_
    refine rf_R_get pm_M175 T43 (pc_q := 54) (v := .ref 46) rfl rfl rfl rfl ?_
    refine pm_R_lo pm_M175 (pc_q := 55) rfl rfl rfl ?_
    obtain ⟨f107, e108, b109⟩ := T43.2.2.2.1 46 (by decide) (by decide)
    refine rf_R_ild pm_M175 T43 (pc_q := 56) rfl e108 (by decide) rfl rfl (fun z110 ez111 => ?_)
    have B112 : sf_B 0 2 z110 := ez111 ▸ (b109 0)
    refine pm_R_lo pm_M175 (pc_q := 57) rfl rfl rfl ?_
    refine pm_R_cs pm_M175 (pc_q := 60) (ra := [.int 0]) (rest := [.int z110]) (ls_q := [.int 0]) rfl rfl (Or.inl rfl) pm_M176 rfl rfl (Nat.le_of_ble_eq_true rfl) rfl rfl ?_
    refine pm_R_lo pm_M176 (pc_q := 1) rfl rfl rfl ?_
    refine pm_R_op pm_M176 (pc_q := 2) (st_q := [.int 1, .int 0]) rfl rfl rfl ?_
    refine pm_R_br pm_M176 (pc_q := 9) (st_q := []) rfl rfl ?_
    refine pm_R_op pm_M176 (pc_q := 10) (st_q := [.int 2]) rfl rfl rfl ?_
    refine pm_R_ret pm_M176 (r := some (.int 2)) rfl rfl ?_
    show pm_R _ 175 60 [.ref 41, .int 0, .int a1, pm_no] [.int 2, .int z110] _ _
    refine pm_R_icmp pm_M175 (t := 78) (pc_q := 63) rfl rfl rfl (fun c113 => ?_) (fun c113 => ?_)
    · have B114 : sf_B 0 1 z110 := sf_neH0 c113 sf_k2 B112
      refine pm_R_lo pm_M175 (pc_q := 79) rfl rfl rfl ?_
      refine pm_R_lo pm_M175 (pc_q := 80) rfl rfl rfl ?_
      refine pm_R_cv pm_M175 (pc_q := 83) (a := 41) (ra := [.int 0]) (rest := []) (ls_q := [.ref 41, .int 0, pm_no, pm_no]) rfl rfl (Or.inl rfl) pm_M178 T43.2.1 rfl (by decide) (Nat.lt_of_lt_of_le (by decide) T43.1) rfl rfl (Nat.le_of_ble_eq_true rfl) rfl rfl ?_
      refine rf_c178_0 (d := d + 0) T43  (fun m117 w118 h119 T120 F121 W122 => ?_) (fun m125 w126 h127 T128 F129 W130 X131 => ?_)
      · have F132 := F46.trans F121 (by decide)
        have W133 : rf_W [0, 10, 11, 12, 13, 14, 16, 17, 18, 21, 22] m m117 := W24.trans W122 (by decide)
        show pm_R _ 175 83 [.ref 41, .int 0, .int a1, pm_no] [.int 0] _ _
        refine pm_R_br pm_M175 (pc_q := 86) (st_q := []) rfl rfl ?_
        refine pm_R_op pm_M175 (pc_q := 87) (st_q := [.int (-1)]) rfl rfl rfl ?_
        have e134 := (F121.cell (by decide) (F44.cell (by decide) (F36.cell (by decide) e29)))
        exact pm_R_ret pm_M175 (r := some (.int (-1))) rfl rfl (K (-1) m117 w118 h119 T120 F132 W133 (fun g eg => by rw [e2] at eg; cases eg; exact e134) (sf_weak sf_kn1 (by decide) (by decide)))
      · have F135 := F46.trans F129 (by decide)
        have W136 : rf_W [0, 10, 11, 12, 13, 14, 16, 17, 18, 21, 22] m m125 := W24.trans W130 (by decide)
        show pm_R _ 175 83 [.ref 41, .int 0, .int a1, pm_no] [.int 1] _ _
        refine pm_R_br pm_M175 (pc_q := 88) (st_q := []) rfl rfl ?_
        refine pm_R_lo pm_M175 (pc_q := 89) rfl rfl rfl ?_
        refine pm_R_op pm_M175 (pc_q := 90) (st_q := [.int (-1), .int a1]) rfl rfl rfl ?_
        refine pm_R_icmp pm_M175 (t := 102) (pc_q := 93) rfl rfl rfl (fun c137 => absurd (sf_pt2 B106 sf_kn1) c137) (fun c137 => ?_)
        refine pm_R_lo pm_M175 (pc_q := 94) rfl rfl rfl ?_
        refine rf_R_get pm_M175 T128 (pc_q := 97) (v := .ref 46) rfl rfl rfl rfl ?_
        refine pm_R_lo pm_M175 (pc_q := 98) rfl rfl rfl ?_
        have e138 := (F129.cell (by decide) e108)
        refine pm_R_iald pm_M175 (pc_q := 99) (v := z110) rfl e138 (Nat.lt_of_lt_of_le (by decide) T128.1) rfl ez111 rfl ?_
        refine pm_R_br pm_M175 (pc_q := 103) (pm_q175_1 (Nat.le_of_ble_eq_true rfl)) rfl ?_
        refine pm_R_lo pm_M175 (pc_q := 104) (ls_q := [.ref 41, .int 0, .int a1, .int z110]) (st_q := []) (pm_q175_1 (Nat.le_of_ble_eq_true rfl)) rfl rfl ?_
        refine pm_R_lo pm_M175 (pc_q := 105) (pm_q175_1 (Nat.le_of_ble_eq_true rfl)) rfl rfl ?_
        refine rf_R_get pm_M175 T128 (pc_q := 108) (v := .ref 46) (pm_q175_1 (Nat.le_of_ble_eq_true rfl)) rfl rfl rfl ?_
        refine pm_R_lo pm_M175 (pc_q := 109) (pm_q175_1 (Nat.le_of_ble_eq_true rfl)) rfl rfl ?_
        refine pm_R_op pm_M175 (pc_q := 110) (st_q := [.int 0, .ref 46, .int 0, .ref 46]) (pm_q175_1 (Nat.le_of_ble_eq_true rfl)) rfl rfl ?_
        refine pm_R_iald pm_M175 (pc_q := 111) (v := z110) (pm_q175_1 (Nat.le_of_ble_eq_true rfl)) e138 (Nat.lt_of_lt_of_le (by decide) T128.1) rfl ez111 rfl ?_
        refine pm_R_lo pm_M175 (pc_q := 112) (pm_q175_1 (Nat.le_of_ble_eq_true rfl)) rfl rfl ?_
        refine pm_R_op pm_M175 (pc_q := 113) (st_q := [.int (-1), .int a1, .int z110, .int 0, .ref 46]) (pm_q175_1 (Nat.le_of_ble_eq_true rfl)) rfl rfl ?_
        refine pm_R_icmp pm_M175 (t := 120) (pc_q := 116) (pm_q175_1 (Nat.le_of_ble_eq_true rfl)) rfl rfl (fun c143 => absurd (sf_pt2 B106 sf_kn1) c143) (fun c143 => ?_)
        refine pm_R_op pm_M175 (pc_q := 117) (st_q := [.int 1, .int z110, .int 0, .ref 46]) (pm_q175_1 (Nat.le_of_ble_eq_true rfl)) rfl rfl ?_
        refine pm_R_br pm_M175 (pc_q := 121) (pm_q175_1 (Nat.le_of_ble_eq_true rfl)) rfl ?_
        refine sf_R_iadd pm_M175 (pc_q := 122) (pm_q175_1 (Nat.le_of_ble_eq_true rfl)) rfl B114 sf_k1 (by decide) (by decide) (fun z144 e145 B146 => ?_)
        obtain ⟨f147, e148, hf149⟩ := X131
        refine rf_tail0 (d := d + 6) T128 e138 e148 hf149 (sf_weak B146 (by decide) (by decide)) B114  (fun h151 T152 G153 d154 d155 => ?_)
        have F156 := F135.trans G153 (by decide)
        have e157 := (G153.cell (by decide) (F129.cell (by decide) (F44.cell (by decide) (F36.cell (by decide) e29))))
        exact K z110 m125 w126 h151 T152 F156 W136 (fun g eg => by rw [e2] at eg; cases eg; exact e157) (sf_weak B114 (by decide) (by decide))
    · have B158 : sf_B 2 2 z110 := sf_eqL (Classical.not_not.mp c113) sf_k2
      refine pm_R_br pm_M175 (pc_q := 75) rfl rfl ?_
      refine pm_R_op pm_M175 (pc_q := 77) (st_q := [.int (-2)]) rfl rfl rfl ?_
      have e159 := (F44.cell (by decide) (F36.cell (by decide) e29))
      exact pm_R_ret pm_M175 (r := some (.int (-2))) rfl rfl (K (-2) m19 w h42 T43 F46 W24 (fun g eg => by rw [e2] at eg; cases eg; exact e159) (sf_weak sf_kn2 (by decide) (by decide)))

theorem sf_aux92 (v0 v1 : Int) (q0 : v0 = v1 + 0) : v0 = v1 := by omega
set_option maxRecDepth 100000 in
set_option maxHeartbeats 4000000 in
/-- SilentTableModel.text -/
theorem rf_c175_1 {d : Nat} {m : Nat → Int32} {w : Int64} {h : pm_H} {Q : Option Value → pm_H → Prop} {a1 : Int32} (T : rf_T m w h)  (K : ∀ (r : Int32) (m_q : Nat → Int32) (w_q : Int64) (h_q : pm_H), rf_T m_q w_q h_q → rf_G [41, 43, 44, 45, 46, 48, 51, 52] h h_q → rf_W [0, 10, 11, 12, 13, 14, 16, 17, 18, 21, 22] m m_q → (∀ g : Nat → Int32, h.2.2 43 = .inl (0, 4, .inl g) → h_q.2.2 43 = .inl (0, 4, .inl (upd g (Int32.toNatClampNeg 0) 0))) → sf_B (-2) 2 r → Q (some (.int r)) h_q) : pm_R (d + 7) 175 0 [.ref 41, .int 1, .int a1, pm_no] [] h Q := by
  obtain ⟨f1, e2, b3⟩ := T.2.2.2.1 43 (by decide) (by decide)
  refine pm_R_lo pm_M175 (pc_q := 1) rfl rfl rfl ?_
  refine pm_R_op pm_M175 (pc_q := 2) (st_q := [.int 0, .ref 41]) rfl rfl rfl ?_
  refine rf_R_put pm_M175 T (pc_q := 5) rfl rfl rfl (by decide) rfl rfl sf_k0 rfl rfl (fun h4 m7 em8 T5 F6 => ?_)
  have F9 := (rf_G.refl [41, 43, 44, 45, 46, 48, 51, 52] h).trans F6 (by decide)
  have B10 : sf_B 0 0 (m7 0) := by rw [em8]; exact sf_k0
  have W12 : rf_W [0, 10, 11, 12, 13, 14, 16, 17, 18, 21, 22] m m7 := by rw [em8]; exact (rf_W.refl [0, 10, 11, 12, 13, 14, 16, 17, 18, 21, 22] m).put (by decide)
  refine pm_R_lo pm_M175 (pc_q := 6) rfl rfl rfl ?_
  refine pm_R_lo pm_M175 (pc_q := 7) rfl rfl rfl ?_
  refine rf_R_get pm_M175 T5 (pc_q := 10) (v := .ref 43) rfl rfl rfl rfl ?_
  refine pm_R_op pm_M175 (pc_q := 11) (st_q := [.int 0, .ref 43, .ref 41]) rfl rfl rfl ?_
  have e13 := (F6.cell (by decide) e2)
  refine pm_R_iald pm_M175 (pc_q := 12) (v := (f1 0)) rfl e13 (Nat.lt_of_lt_of_le (by decide) T5.1) rfl rfl rfl ?_
  refine rf_R_put pm_M175 T5 (pc_q := 15) rfl rfl rfl (by decide) rfl rfl (b3 0) rfl rfl (fun h16 m19 em20 T17 F18 => ?_)
  have F21 := F9.trans F18 (by decide)
  have B22 : sf_B 0 600 (m19 11) := by rw [em20]; exact (b3 0)
  have ek23 : (m19 11).toInt = ((f1 0)).toInt := by rw [em20]; rfl
  have W24 : rf_W [0, 10, 11, 12, 13, 14, 16, 17, 18, 21, 22] m m19 := by rw [em20]; exact W12.put (by decide)
  refine pm_R_lo pm_M175 (pc_q := 16) rfl rfl rfl ?_
  refine rf_R_get pm_M175 T17 (pc_q := 19) (v := .ref 43) rfl rfl rfl rfl ?_
  refine pm_R_op pm_M175 (pc_q := 20) (st_q := [.int 0, .ref 43]) rfl rfl rfl ?_
  refine pm_R_op pm_M175 (pc_q := 21) (st_q := [.int 0, .int 0, .ref 43]) rfl rfl rfl ?_
  have e25 := (F18.cell (by decide) e13)
  refine rf_R_ist2 pm_M175 T17 (pc_q := 22) rfl e25 (by decide) (by decide) rfl ⟨_, rfl, sf_upd b3 (sf_weak sf_k0 (by decide) (by decide)) _⟩ rfl (fun h26 T27 F28 e29 => ?_)
  have F30 := F21.trans F28 (by decide)
  refine pm_R_lo pm_M175 (pc_q := 23) rfl rfl rfl ?_
  refine rf_R_get pm_M175 T27 (pc_q := 26) (v := .ref 44) rfl rfl rfl rfl ?_
  refine pm_R_op pm_M175 (pc_q := 27) (st_q := [.int 0, .ref 44]) rfl rfl rfl ?_
  refine pm_R_op pm_M175 (pc_q := 28) (st_q := [.int 0, .int 0, .ref 44]) rfl rfl rfl ?_
  obtain ⟨f31, e32, b33⟩ := T27.2.2.2.1 44 (by decide) (by decide)
  refine rf_R_ist2 pm_M175 T27 (pc_q := 29) rfl e32 (by decide) (by decide) rfl ⟨_, rfl, sf_upd b33 (sf_weak sf_k0 (by decide) (by decide)) _⟩ rfl (fun h34 T35 F36 e37 => ?_)
  have F38 := F30.trans F36 (by decide)
  refine pm_R_lo pm_M175 (pc_q := 30) rfl rfl rfl ?_
  refine rf_R_get pm_M175 T35 (pc_q := 33) (v := .ref 45) rfl rfl rfl rfl ?_
  refine pm_R_op pm_M175 (pc_q := 34) (st_q := [.int 0, .ref 45]) rfl rfl rfl ?_
  refine pm_R_op pm_M175 (pc_q := 35) (st_q := [.int (-1), .int 0, .ref 45]) rfl rfl rfl ?_
  obtain ⟨f39, e40, b41⟩ := T35.2.2.2.1 45 (by decide) (by decide)
  refine rf_R_ist2 pm_M175 T35 (pc_q := 36) rfl e40 (by decide) (by decide) rfl ⟨_, rfl, sf_upd b41 (sf_weak sf_kn1 (by decide) (by decide)) _⟩ rfl (fun h42 T43 F44 e45 => ?_)
  have F46 := F38.trans F44 (by decide)
  refine pm_R_lo pm_M175 (pc_q := 37) rfl rfl rfl ?_
  refine pm_R_op pm_M175 (pc_q := 38) (st_q := [.int 0, .int 1]) rfl rfl rfl ?_
  refine pm_R_op pm_M175 (pc_q := 39) (st_q := [.int 3, .int 0, .int 1]) rfl rfl rfl ?_
  refine pm_R_cs pm_M175 (pc_q := 42) (ra := [.int 3, .int 0, .int 1]) (rest := []) (ls_q := [.int 1, .int 0, .int 3]) rfl rfl (Or.inl rfl) pm_M174 rfl rfl (Nat.le_of_ble_eq_true rfl) rfl rfl ?_
  refine pm_R_lo pm_M174 (pc_q := 1) rfl rfl rfl ?_
  refine pm_R_lo pm_M174 (pc_q := 2) rfl rfl rfl ?_
  refine pm_R_br pm_M174 (pc_q := 5) (st_q := []) rfl rfl ?_
  refine pm_R_lo pm_M174 (pc_q := 6) rfl rfl rfl ?_
  refine pm_R_lo pm_M174 (pc_q := 7) rfl rfl rfl ?_
  refine pm_R_br pm_M174 (pc_q := 10) (st_q := []) rfl rfl ?_
  refine pm_R_op pm_M174 (pc_q := 11) (st_q := [.int 1]) rfl rfl rfl ?_
  refine pm_R_br pm_M174 (pc_q := 15) rfl rfl ?_
  refine pm_R_ret pm_M174 (r := some (.int 1)) rfl rfl ?_
  show pm_R _ 175 42 [.ref 41, .int 1, .int a1, pm_no] [.int 1] _ _
  refine pm_R_br pm_M175 (pc_q := 45) (st_q := []) rfl rfl ?_
  refine pm_R_lo pm_M175 (pc_q := 46) rfl rfl rfl ?_
  refine pm_R_op pm_M175 (pc_q := 47) (st_q := [.int (-1), .int a1]) rfl rfl rfl ?_
  refine pm_R_icmp pm_M175 (t := 66) (pc_q := 50) rfl rfl rfl (fun c47 => ?_) (fun c47 => ?_)
  · skip
    refine pm_R_lo pm_M175 (pc_q := 67) rfl rfl rfl ?_
    refine pm_R_lo pm_M175 (pc_q := 68) rfl rfl rfl ?_
    refine pm_R_lo pm_M175 (pc_q := 69) rfl rfl rfl ?_
    refine pm_R_cv pm_M175 (pc_q := 72) (a := 41) (ra := [.int a1, .int 1]) (rest := []) (ls_q := [.ref 41, .int 1, .int a1]) rfl rfl (Or.inl rfl) pm_M177 T43.2.1 rfl (by decide) (Nat.lt_of_lt_of_le (by decide) T43.1) rfl rfl (Nat.le_of_ble_eq_true rfl) rfl rfl ?_
    refine pm_R_lo pm_M177 (pc_q := 1) rfl rfl rfl ?_
    refine pm_R_op pm_M177 (pc_q := 2) (st_q := [.int 0, .int a1]) rfl rfl rfl ?_
    refine pm_R_lo pm_M177 (pc_q := 3) rfl rfl rfl ?_
    refine rf_R_get pm_M177 T43 (pc_q := 6) (v := .ref 46) rfl rfl rfl rfl ?_
    refine pm_R_lo pm_M177 (pc_q := 7) rfl rfl rfl ?_
    obtain ⟨f48, e49, b50⟩ := T43.2.2.2.1 46 (by decide) (by decide)
    refine rf_R_ild pm_M177 T43 (pc_q := 8) rfl e49 (by decide) rfl rfl (fun z51 ez52 => ?_)
    have B53 : sf_B 0 3 z51 := ez52 ▸ (b50 1)
    refine pm_R_op pm_M177 (pc_q := 9) (st_q := [.int 1, .int z51, .int 0, .int a1]) rfl rfl rfl ?_
    refine sf_R_isub pm_M177 (pc_q := 10) rfl rfl B53 sf_k1 (by decide) (by decide) (fun z54 e55 B56 => ?_)
    refine pm_R_cs pm_M177 (pc_q := 13) (ra := [.int z54, .int 0, .int a1]) (rest := []) (ls_q := [.int a1, .int 0, .int z54]) rfl rfl (Or.inl rfl) pm_M174 rfl rfl (Nat.le_of_ble_eq_true rfl) rfl rfl ?_
    refine pm_R_lo pm_M174 (pc_q := 1) rfl rfl rfl ?_
    refine pm_R_lo pm_M174 (pc_q := 2) rfl rfl rfl ?_
    refine pm_R_icmp pm_M174 (t := 14) (pc_q := 5) rfl rfl rfl (fun c57 => ?_) (fun c57 => ?_)
    · have B58 : sf_B (-2147483648) (-1) a1 := sf_ltL c57 (sf_any a1) sf_k0
      refine pm_R_op pm_M174 (pc_q := 15) (st_q := [.int 0]) rfl rfl rfl ?_
      refine pm_R_ret pm_M174 (r := some (.int 0)) rfl rfl ?_
      show pm_R _ 177 13 [.ref 41, .int 1, .int a1] [.int 0] _ _
      refine pm_R_ret pm_M177 (r := some (.int 0)) rfl rfl ?_
      show pm_R _ 175 72 [.ref 41, .int 1, .int a1, pm_no] [.int 0] _ _
      refine pm_R_br pm_M175 (pc_q := 75) (st_q := []) rfl rfl ?_
      refine pm_R_op pm_M175 (pc_q := 77) (st_q := [.int (-2)]) rfl rfl rfl ?_
      have e59 := (F44.cell (by decide) (F36.cell (by decide) e29))
      exact pm_R_ret pm_M175 (r := some (.int (-2))) rfl rfl (K (-2) m19 w h42 T43 F46 W24 (fun g eg => by rw [e2] at eg; cases eg; exact e59) (sf_weak sf_kn2 (by decide) (by decide)))
    · have B60 : sf_B 0 2147483647 a1 := sf_leR (Int32.not_lt.mp c57) sf_k0 (sf_any a1)
      refine pm_R_lo pm_M174 (pc_q := 6) rfl rfl rfl ?_
      refine pm_R_lo pm_M174 (pc_q := 7) rfl rfl rfl ?_
      refine pm_R_icmp pm_M174 (t := 14) (pc_q := 10) rfl rfl rfl (fun c61 => ?_) (fun c61 => ?_)
      · skip
        refine pm_R_op pm_M174 (pc_q := 15) (st_q := [.int 0]) rfl rfl rfl ?_
        refine pm_R_ret pm_M174 (r := some (.int 0)) rfl rfl ?_
        show pm_R _ 177 13 [.ref 41, .int 1, .int a1] [.int 0] _ _
        refine pm_R_ret pm_M177 (r := some (.int 0)) rfl rfl ?_
        show pm_R _ 175 72 [.ref 41, .int 1, .int a1, pm_no] [.int 0] _ _
        refine pm_R_br pm_M175 (pc_q := 75) (st_q := []) rfl rfl ?_
        refine pm_R_op pm_M175 (pc_q := 77) (st_q := [.int (-2)]) rfl rfl rfl ?_
        have e62 := (F44.cell (by decide) (F36.cell (by decide) e29))
        exact pm_R_ret pm_M175 (r := some (.int (-2))) rfl rfl (K (-2) m19 w h42 T43 F46 W24 (fun g eg => by rw [e2] at eg; cases eg; exact e62) (sf_weak sf_kn2 (by decide) (by decide)))
      · have B63 : sf_B 0 2 a1 := sf_leL (Int32.not_lt.mp c61) B60 B56
        have B64 : sf_B 0 2 z54 := sf_leR (Int32.not_lt.mp c61) B60 B56
        refine pm_R_op pm_M174 (pc_q := 11) (st_q := [.int 1]) rfl rfl rfl ?_
        refine pm_R_br pm_M174 (pc_q := 15) rfl rfl ?_
        refine pm_R_ret pm_M174 (r := some (.int 1)) rfl rfl ?_
        show pm_R _ 177 13 [.ref 41, .int 1, .int a1] [.int 1] _ _
        refine pm_R_ret pm_M177 (r := some (.int 1)) rfl rfl ?_
        show pm_R _ 175 72 [.ref 41, .int 1, .int a1, pm_no] [.int 1] _ _
        refine pm_R_br pm_M175 (pc_q := 78) (st_q := []) rfl rfl ?_
        refine pm_R_lo pm_M175 (pc_q := 79) rfl rfl rfl ?_
        refine pm_R_lo pm_M175 (pc_q := 80) rfl rfl rfl ?_
        refine pm_R_cv pm_M175 (pc_q := 83) (a := 41) (ra := [.int 1]) (rest := []) (ls_q := [.ref 41, .int 1, pm_no, pm_no]) rfl rfl (Or.inl rfl) pm_M178 T43.2.1 rfl (by decide) (Nat.lt_of_lt_of_le (by decide) T43.1) rfl rfl (Nat.le_of_ble_eq_true rfl) rfl rfl ?_
        refine rf_c178_1 (d := d + 0) T43  (fun m67 w68 h69 T70 F71 W72 => ?_) (fun m75 w76 h77 T78 F79 W80 X81 => ?_)
        · have F82 := F46.trans F71 (by decide)
          have W83 : rf_W [0, 10, 11, 12, 13, 14, 16, 17, 18, 21, 22] m m67 := W24.trans W72 (by decide)
          show pm_R _ 175 83 [.ref 41, .int 1, .int a1, pm_no] [.int 0] _ _
          refine pm_R_br pm_M175 (pc_q := 86) (st_q := []) rfl rfl ?_
          refine pm_R_op pm_M175 (pc_q := 87) (st_q := [.int (-1)]) rfl rfl rfl ?_
          have e84 := (F71.cell (by decide) (F44.cell (by decide) (F36.cell (by decide) e29)))
          exact pm_R_ret pm_M175 (r := some (.int (-1))) rfl rfl (K (-1) m67 w68 h69 T70 F82 W83 (fun g eg => by rw [e2] at eg; cases eg; exact e84) (sf_weak sf_kn1 (by decide) (by decide)))
        · have F85 := F46.trans F79 (by decide)
          have W86 : rf_W [0, 10, 11, 12, 13, 14, 16, 17, 18, 21, 22] m m75 := W24.trans W80 (by decide)
          show pm_R _ 175 83 [.ref 41, .int 1, .int a1, pm_no] [.int 1] _ _
          refine pm_R_br pm_M175 (pc_q := 88) (st_q := []) rfl rfl ?_
          refine pm_R_lo pm_M175 (pc_q := 89) rfl rfl rfl ?_
          refine pm_R_op pm_M175 (pc_q := 90) (st_q := [.int (-1), .int a1]) rfl rfl rfl ?_
          refine pm_R_icmp pm_M175 (t := 102) (pc_q := 93) rfl rfl rfl (fun c87 => ?_) (fun c87 => absurd (Classical.not_not.mp c87) (sf_neq1 B63 sf_kn1 (by decide)))
          skip
          refine pm_R_lo pm_M175 (pc_q := 103) (pm_q175_1 (Nat.le_of_ble_eq_true rfl)) rfl rfl ?_
          refine pm_R_lo pm_M175 (pc_q := 104) (ls_q := [.ref 41, .int 1, .int a1, .int a1]) (st_q := []) (pm_q175_1 (Nat.le_of_ble_eq_true rfl)) rfl rfl ?_
          refine pm_R_lo pm_M175 (pc_q := 105) (pm_q175_1 (Nat.le_of_ble_eq_true rfl)) rfl rfl ?_
          refine rf_R_get pm_M175 T78 (pc_q := 108) (v := .ref 46) (pm_q175_1 (Nat.le_of_ble_eq_true rfl)) rfl rfl rfl ?_
          refine pm_R_lo pm_M175 (pc_q := 109) (pm_q175_1 (Nat.le_of_ble_eq_true rfl)) rfl rfl ?_
          refine pm_R_op pm_M175 (pc_q := 110) (st_q := [.int 1, .ref 46, .int 1, .ref 46]) (pm_q175_1 (Nat.le_of_ble_eq_true rfl)) rfl rfl ?_
          have e88 := (F79.cell (by decide) e49)
          refine pm_R_iald pm_M175 (pc_q := 111) (v := z51) (pm_q175_1 (Nat.le_of_ble_eq_true rfl)) e88 (Nat.lt_of_lt_of_le (by decide) T78.1) rfl ez52 rfl ?_
          refine pm_R_lo pm_M175 (pc_q := 112) (pm_q175_1 (Nat.le_of_ble_eq_true rfl)) rfl rfl ?_
          refine pm_R_op pm_M175 (pc_q := 113) (st_q := [.int (-1), .int a1, .int z51, .int 1, .ref 46]) (pm_q175_1 (Nat.le_of_ble_eq_true rfl)) rfl rfl ?_
          refine pm_R_icmp pm_M175 (t := 120) (pc_q := 116) (pm_q175_1 (Nat.le_of_ble_eq_true rfl)) rfl rfl (fun c91 => ?_) (fun c91 => absurd (Classical.not_not.mp c91) (sf_neq1 B63 sf_kn1 (by decide)))
          skip
          refine pm_R_op pm_M175 (pc_q := 121) (st_q := [.int 0, .int z51, .int 1, .ref 46]) (pm_q175_1 (Nat.le_of_ble_eq_true rfl)) rfl rfl ?_
          refine sf_R_iadd pm_M175 (pc_q := 122) (pm_q175_1 (Nat.le_of_ble_eq_true rfl)) rfl B53 sf_k0 (by decide) (by decide) (fun z92 e93 B94 => ?_)
          obtain ⟨f95, e96, hf97, hf98⟩ := X81
          refine rf_tail1 (d := d + 6) T78 e88 e96 hf97 B94 B63 hf98 (Or.inr ((sf_aux92 _ _ e93).trans (congrArg Int32.toInt ez52).symm)) (fun h99 T100 G101 d102 d103 => ?_)
          have F104 := F85.trans G101 (by decide)
          have e105 := (G101.cell (by decide) (F79.cell (by decide) (F44.cell (by decide) (F36.cell (by decide) e29))))
          exact K a1 m75 w76 h99 T100 F104 W86 (fun g eg => by rw [e2] at eg; cases eg; exact e105) (sf_weak B63 (by decide) (by decide))
  · have B106 : sf_B (-1) (-1) a1 := sf_eqL (Classical.not_not.mp c47) sf_kn1
    refine pm_R_lo pm_M175 (pc_q := 51) rfl rfl rfl ?_
    refine rf_R_get pm_M175 T43 (pc_q := 54) (v := .ref 46) rfl rfl rfl rfl ?_
    refine pm_R_lo pm_M175 (pc_q := 55) rfl rfl rfl ?_
    obtain ⟨f107, e108, b109⟩ := T43.2.2.2.1 46 (by decide) (by decide)
    refine rf_R_ild pm_M175 T43 (pc_q := 56) rfl e108 (by decide) rfl rfl (fun z110 ez111 => ?_)
    have B112 : sf_B 0 3 z110 := ez111 ▸ (b109 1)
    refine pm_R_lo pm_M175 (pc_q := 57) rfl rfl rfl ?_
    refine pm_R_cs pm_M175 (pc_q := 60) (ra := [.int 1]) (rest := [.int z110]) (ls_q := [.int 1]) rfl rfl (Or.inl rfl) pm_M176 rfl rfl (Nat.le_of_ble_eq_true rfl) rfl rfl ?_
    refine pm_R_lo pm_M176 (pc_q := 1) rfl rfl rfl ?_
    refine pm_R_op pm_M176 (pc_q := 2) (st_q := [.int 1, .int 1]) rfl rfl rfl ?_
    refine pm_R_br pm_M176 (pc_q := 5) (st_q := []) rfl rfl ?_
    refine pm_R_op pm_M176 (pc_q := 6) (st_q := [.int 3]) rfl rfl rfl ?_
    refine pm_R_br pm_M176 (pc_q := 10) rfl rfl ?_
    refine pm_R_ret pm_M176 (r := some (.int 3)) rfl rfl ?_
    show pm_R _ 175 60 [.ref 41, .int 1, .int a1, pm_no] [.int 3, .int z110] _ _
    refine pm_R_icmp pm_M175 (t := 78) (pc_q := 63) rfl rfl rfl (fun c113 => ?_) (fun c113 => ?_)
    · have B114 : sf_B 0 2 z110 := sf_neH0 c113 sf_k3 B112
      refine pm_R_lo pm_M175 (pc_q := 79) rfl rfl rfl ?_
      refine pm_R_lo pm_M175 (pc_q := 80) rfl rfl rfl ?_
      refine pm_R_cv pm_M175 (pc_q := 83) (a := 41) (ra := [.int 1]) (rest := []) (ls_q := [.ref 41, .int 1, pm_no, pm_no]) rfl rfl (Or.inl rfl) pm_M178 T43.2.1 rfl (by decide) (Nat.lt_of_lt_of_le (by decide) T43.1) rfl rfl (Nat.le_of_ble_eq_true rfl) rfl rfl ?_
      refine rf_c178_1 (d := d + 0) T43  (fun m117 w118 h119 T120 F121 W122 => ?_) (fun m125 w126 h127 T128 F129 W130 X131 => ?_)
      · have F132 := F46.trans F121 (by decide)
        have W133 : rf_W [0, 10, 11, 12, 13, 14, 16, 17, 18, 21, 22] m m117 := W24.trans W122 (by decide)
        show pm_R _ 175 83 [.ref 41, .int 1, .int a1, pm_no] [.int 0] _ _
        refine pm_R_br pm_M175 (pc_q := 86) (st_q := []) rfl rfl ?_
        refine pm_R_op pm_M175 (pc_q := 87) (st_q := [.int (-1)]) rfl rfl rfl ?_
        have e134 := (F121.cell (by decide) (F44.cell (by decide) (F36.cell (by decide) e29)))
        exact pm_R_ret pm_M175 (r := some (.int (-1))) rfl rfl (K (-1) m117 w118 h119 T120 F132 W133 (fun g eg => by rw [e2] at eg; cases eg; exact e134) (sf_weak sf_kn1 (by decide) (by decide)))
      · have F135 := F46.trans F129 (by decide)
        have W136 : rf_W [0, 10, 11, 12, 13, 14, 16, 17, 18, 21, 22] m m125 := W24.trans W130 (by decide)
        show pm_R _ 175 83 [.ref 41, .int 1, .int a1, pm_no] [.int 1] _ _
        refine pm_R_br pm_M175 (pc_q := 88) (st_q := []) rfl rfl ?_
        refine pm_R_lo pm_M175 (pc_q := 89) rfl rfl rfl ?_
        refine pm_R_op pm_M175 (pc_q := 90) (st_q := [.int (-1), .int a1]) rfl rfl rfl ?_
        refine pm_R_icmp pm_M175 (t := 102) (pc_q := 93) rfl rfl rfl (fun c137 => absurd (sf_pt2 B106 sf_kn1) c137) (fun c137 => ?_)
        refine pm_R_lo pm_M175 (pc_q := 94) rfl rfl rfl ?_
        refine rf_R_get pm_M175 T128 (pc_q := 97) (v := .ref 46) rfl rfl rfl rfl ?_
        refine pm_R_lo pm_M175 (pc_q := 98) rfl rfl rfl ?_
        have e138 := (F129.cell (by decide) e108)
        refine pm_R_iald pm_M175 (pc_q := 99) (v := z110) rfl e138 (Nat.lt_of_lt_of_le (by decide) T128.1) rfl ez111 rfl ?_
        refine pm_R_br pm_M175 (pc_q := 103) (pm_q175_1 (Nat.le_of_ble_eq_true rfl)) rfl ?_
        refine pm_R_lo pm_M175 (pc_q := 104) (ls_q := [.ref 41, .int 1, .int a1, .int z110]) (st_q := []) (pm_q175_1 (Nat.le_of_ble_eq_true rfl)) rfl rfl ?_
        refine pm_R_lo pm_M175 (pc_q := 105) (pm_q175_1 (Nat.le_of_ble_eq_true rfl)) rfl rfl ?_
        refine rf_R_get pm_M175 T128 (pc_q := 108) (v := .ref 46) (pm_q175_1 (Nat.le_of_ble_eq_true rfl)) rfl rfl rfl ?_
        refine pm_R_lo pm_M175 (pc_q := 109) (pm_q175_1 (Nat.le_of_ble_eq_true rfl)) rfl rfl ?_
        refine pm_R_op pm_M175 (pc_q := 110) (st_q := [.int 1, .ref 46, .int 1, .ref 46]) (pm_q175_1 (Nat.le_of_ble_eq_true rfl)) rfl rfl ?_
        refine pm_R_iald pm_M175 (pc_q := 111) (v := z110) (pm_q175_1 (Nat.le_of_ble_eq_true rfl)) e138 (Nat.lt_of_lt_of_le (by decide) T128.1) rfl ez111 rfl ?_
        refine pm_R_lo pm_M175 (pc_q := 112) (pm_q175_1 (Nat.le_of_ble_eq_true rfl)) rfl rfl ?_
        refine pm_R_op pm_M175 (pc_q := 113) (st_q := [.int (-1), .int a1, .int z110, .int 1, .ref 46]) (pm_q175_1 (Nat.le_of_ble_eq_true rfl)) rfl rfl ?_
        refine pm_R_icmp pm_M175 (t := 120) (pc_q := 116) (pm_q175_1 (Nat.le_of_ble_eq_true rfl)) rfl rfl (fun c143 => absurd (sf_pt2 B106 sf_kn1) c143) (fun c143 => ?_)
        refine pm_R_op pm_M175 (pc_q := 117) (st_q := [.int 1, .int z110, .int 1, .ref 46]) (pm_q175_1 (Nat.le_of_ble_eq_true rfl)) rfl rfl ?_
        refine pm_R_br pm_M175 (pc_q := 121) (pm_q175_1 (Nat.le_of_ble_eq_true rfl)) rfl ?_
        refine sf_R_iadd pm_M175 (pc_q := 122) (pm_q175_1 (Nat.le_of_ble_eq_true rfl)) rfl B114 sf_k1 (by decide) (by decide) (fun z144 e145 B146 => ?_)
        obtain ⟨f147, e148, hf149, hf150⟩ := X131
        refine rf_tail1 (d := d + 6) T128 e138 e148 hf149 (sf_weak B146 (by decide) (by decide)) B114 hf150 (Or.inl ⟨congrArg Int32.toInt ez111, (sf_aux30 _ _ e145)⟩) (fun h151 T152 G153 d154 d155 => ?_)
        have F156 := F135.trans G153 (by decide)
        have e157 := (G153.cell (by decide) (F129.cell (by decide) (F44.cell (by decide) (F36.cell (by decide) e29))))
        exact K z110 m125 w126 h151 T152 F156 W136 (fun g eg => by rw [e2] at eg; cases eg; exact e157) (sf_weak B114 (by decide) (by decide))
    · have B158 : sf_B 3 3 z110 := sf_eqL (Classical.not_not.mp c113) sf_k3
      refine pm_R_br pm_M175 (pc_q := 75) rfl rfl ?_
      refine pm_R_op pm_M175 (pc_q := 77) (st_q := [.int (-2)]) rfl rfl rfl ?_
      have e159 := (F44.cell (by decide) (F36.cell (by decide) e29))
      exact pm_R_ret pm_M175 (r := some (.int (-2))) rfl rfl (K (-2) m19 w h42 T43 F46 W24 (fun g eg => by rw [e2] at eg; cases eg; exact e159) (sf_weak sf_kn2 (by decide) (by decide)))

set_option maxRecDepth 100000 in
set_option maxHeartbeats 4000000 in
/-- SilentTableModel.text -/
theorem rf_c175_2 {d : Nat} {m : Nat → Int32} {w : Int64} {h : pm_H} {Q : Option Value → pm_H → Prop} {a1 : Int32} (T : rf_T m w h)  (K : ∀ (r : Int32) (m_q : Nat → Int32) (w_q : Int64) (h_q : pm_H), rf_T m_q w_q h_q → rf_G [41, 43, 44, 45, 46, 49, 51, 52] h h_q → rf_W [0, 10, 11, 12, 13, 14, 16, 17, 18, 21, 22] m m_q → (∀ g : Nat → Int32, h.2.2 43 = .inl (0, 4, .inl g) → h_q.2.2 43 = .inl (0, 4, .inl (upd g (Int32.toNatClampNeg 0) 0))) → sf_B (-2) 1 r → Q (some (.int r)) h_q) : pm_R (d + 7) 175 0 [.ref 41, .int 2, .int a1, pm_no] [] h Q := by
  obtain ⟨f1, e2, b3⟩ := T.2.2.2.1 43 (by decide) (by decide)
  refine pm_R_lo pm_M175 (pc_q := 1) rfl rfl rfl ?_
  refine pm_R_op pm_M175 (pc_q := 2) (st_q := [.int 0, .ref 41]) rfl rfl rfl ?_
  refine rf_R_put pm_M175 T (pc_q := 5) rfl rfl rfl (by decide) rfl rfl sf_k0 rfl rfl (fun h4 m7 em8 T5 F6 => ?_)
  have F9 := (rf_G.refl [41, 43, 44, 45, 46, 49, 51, 52] h).trans F6 (by decide)
  have B10 : sf_B 0 0 (m7 0) := by rw [em8]; exact sf_k0
  have W12 : rf_W [0, 10, 11, 12, 13, 14, 16, 17, 18, 21, 22] m m7 := by rw [em8]; exact (rf_W.refl [0, 10, 11, 12, 13, 14, 16, 17, 18, 21, 22] m).put (by decide)
  refine pm_R_lo pm_M175 (pc_q := 6) rfl rfl rfl ?_
  refine pm_R_lo pm_M175 (pc_q := 7) rfl rfl rfl ?_
  refine rf_R_get pm_M175 T5 (pc_q := 10) (v := .ref 43) rfl rfl rfl rfl ?_
  refine pm_R_op pm_M175 (pc_q := 11) (st_q := [.int 0, .ref 43, .ref 41]) rfl rfl rfl ?_
  have e13 := (F6.cell (by decide) e2)
  refine pm_R_iald pm_M175 (pc_q := 12) (v := (f1 0)) rfl e13 (Nat.lt_of_lt_of_le (by decide) T5.1) rfl rfl rfl ?_
  refine rf_R_put pm_M175 T5 (pc_q := 15) rfl rfl rfl (by decide) rfl rfl (b3 0) rfl rfl (fun h16 m19 em20 T17 F18 => ?_)
  have F21 := F9.trans F18 (by decide)
  have B22 : sf_B 0 600 (m19 11) := by rw [em20]; exact (b3 0)
  have ek23 : (m19 11).toInt = ((f1 0)).toInt := by rw [em20]; rfl
  have W24 : rf_W [0, 10, 11, 12, 13, 14, 16, 17, 18, 21, 22] m m19 := by rw [em20]; exact W12.put (by decide)
  refine pm_R_lo pm_M175 (pc_q := 16) rfl rfl rfl ?_
  refine rf_R_get pm_M175 T17 (pc_q := 19) (v := .ref 43) rfl rfl rfl rfl ?_
  refine pm_R_op pm_M175 (pc_q := 20) (st_q := [.int 0, .ref 43]) rfl rfl rfl ?_
  refine pm_R_op pm_M175 (pc_q := 21) (st_q := [.int 0, .int 0, .ref 43]) rfl rfl rfl ?_
  have e25 := (F18.cell (by decide) e13)
  refine rf_R_ist2 pm_M175 T17 (pc_q := 22) rfl e25 (by decide) (by decide) rfl ⟨_, rfl, sf_upd b3 (sf_weak sf_k0 (by decide) (by decide)) _⟩ rfl (fun h26 T27 F28 e29 => ?_)
  have F30 := F21.trans F28 (by decide)
  refine pm_R_lo pm_M175 (pc_q := 23) rfl rfl rfl ?_
  refine rf_R_get pm_M175 T27 (pc_q := 26) (v := .ref 44) rfl rfl rfl rfl ?_
  refine pm_R_op pm_M175 (pc_q := 27) (st_q := [.int 0, .ref 44]) rfl rfl rfl ?_
  refine pm_R_op pm_M175 (pc_q := 28) (st_q := [.int 0, .int 0, .ref 44]) rfl rfl rfl ?_
  obtain ⟨f31, e32, b33⟩ := T27.2.2.2.1 44 (by decide) (by decide)
  refine rf_R_ist2 pm_M175 T27 (pc_q := 29) rfl e32 (by decide) (by decide) rfl ⟨_, rfl, sf_upd b33 (sf_weak sf_k0 (by decide) (by decide)) _⟩ rfl (fun h34 T35 F36 e37 => ?_)
  have F38 := F30.trans F36 (by decide)
  refine pm_R_lo pm_M175 (pc_q := 30) rfl rfl rfl ?_
  refine rf_R_get pm_M175 T35 (pc_q := 33) (v := .ref 45) rfl rfl rfl rfl ?_
  refine pm_R_op pm_M175 (pc_q := 34) (st_q := [.int 0, .ref 45]) rfl rfl rfl ?_
  refine pm_R_op pm_M175 (pc_q := 35) (st_q := [.int (-1), .int 0, .ref 45]) rfl rfl rfl ?_
  obtain ⟨f39, e40, b41⟩ := T35.2.2.2.1 45 (by decide) (by decide)
  refine rf_R_ist2 pm_M175 T35 (pc_q := 36) rfl e40 (by decide) (by decide) rfl ⟨_, rfl, sf_upd b41 (sf_weak sf_kn1 (by decide) (by decide)) _⟩ rfl (fun h42 T43 F44 e45 => ?_)
  have F46 := F38.trans F44 (by decide)
  refine pm_R_lo pm_M175 (pc_q := 37) rfl rfl rfl ?_
  refine pm_R_op pm_M175 (pc_q := 38) (st_q := [.int 0, .int 2]) rfl rfl rfl ?_
  refine pm_R_op pm_M175 (pc_q := 39) (st_q := [.int 3, .int 0, .int 2]) rfl rfl rfl ?_
  refine pm_R_cs pm_M175 (pc_q := 42) (ra := [.int 3, .int 0, .int 2]) (rest := []) (ls_q := [.int 2, .int 0, .int 3]) rfl rfl (Or.inl rfl) pm_M174 rfl rfl (Nat.le_of_ble_eq_true rfl) rfl rfl ?_
  refine pm_R_lo pm_M174 (pc_q := 1) rfl rfl rfl ?_
  refine pm_R_lo pm_M174 (pc_q := 2) rfl rfl rfl ?_
  refine pm_R_br pm_M174 (pc_q := 5) (st_q := []) rfl rfl ?_
  refine pm_R_lo pm_M174 (pc_q := 6) rfl rfl rfl ?_
  refine pm_R_lo pm_M174 (pc_q := 7) rfl rfl rfl ?_
  refine pm_R_br pm_M174 (pc_q := 10) (st_q := []) rfl rfl ?_
  refine pm_R_op pm_M174 (pc_q := 11) (st_q := [.int 1]) rfl rfl rfl ?_
  refine pm_R_br pm_M174 (pc_q := 15) rfl rfl ?_
  refine pm_R_ret pm_M174 (r := some (.int 1)) rfl rfl ?_
  show pm_R _ 175 42 [.ref 41, .int 2, .int a1, pm_no] [.int 1] _ _
  refine pm_R_br pm_M175 (pc_q := 45) (st_q := []) rfl rfl ?_
  refine pm_R_lo pm_M175 (pc_q := 46) rfl rfl rfl ?_
  refine pm_R_op pm_M175 (pc_q := 47) (st_q := [.int (-1), .int a1]) rfl rfl rfl ?_
  refine pm_R_icmp pm_M175 (t := 66) (pc_q := 50) rfl rfl rfl (fun c47 => ?_) (fun c47 => ?_)
  · skip
    refine pm_R_lo pm_M175 (pc_q := 67) rfl rfl rfl ?_
    refine pm_R_lo pm_M175 (pc_q := 68) rfl rfl rfl ?_
    refine pm_R_lo pm_M175 (pc_q := 69) rfl rfl rfl ?_
    refine pm_R_cv pm_M175 (pc_q := 72) (a := 41) (ra := [.int a1, .int 2]) (rest := []) (ls_q := [.ref 41, .int 2, .int a1]) rfl rfl (Or.inl rfl) pm_M177 T43.2.1 rfl (by decide) (Nat.lt_of_lt_of_le (by decide) T43.1) rfl rfl (Nat.le_of_ble_eq_true rfl) rfl rfl ?_
    refine pm_R_lo pm_M177 (pc_q := 1) rfl rfl rfl ?_
    refine pm_R_op pm_M177 (pc_q := 2) (st_q := [.int 0, .int a1]) rfl rfl rfl ?_
    refine pm_R_lo pm_M177 (pc_q := 3) rfl rfl rfl ?_
    refine rf_R_get pm_M177 T43 (pc_q := 6) (v := .ref 46) rfl rfl rfl rfl ?_
    refine pm_R_lo pm_M177 (pc_q := 7) rfl rfl rfl ?_
    obtain ⟨f48, e49, b50⟩ := T43.2.2.2.1 46 (by decide) (by decide)
    refine rf_R_ild pm_M177 T43 (pc_q := 8) rfl e49 (by decide) rfl rfl (fun z51 ez52 => ?_)
    have B53 : sf_B 0 2 z51 := ez52 ▸ (b50 2)
    refine pm_R_op pm_M177 (pc_q := 9) (st_q := [.int 1, .int z51, .int 0, .int a1]) rfl rfl rfl ?_
    refine sf_R_isub pm_M177 (pc_q := 10) rfl rfl B53 sf_k1 (by decide) (by decide) (fun z54 e55 B56 => ?_)
    refine pm_R_cs pm_M177 (pc_q := 13) (ra := [.int z54, .int 0, .int a1]) (rest := []) (ls_q := [.int a1, .int 0, .int z54]) rfl rfl (Or.inl rfl) pm_M174 rfl rfl (Nat.le_of_ble_eq_true rfl) rfl rfl ?_
    refine pm_R_lo pm_M174 (pc_q := 1) rfl rfl rfl ?_
    refine pm_R_lo pm_M174 (pc_q := 2) rfl rfl rfl ?_
    refine pm_R_icmp pm_M174 (t := 14) (pc_q := 5) rfl rfl rfl (fun c57 => ?_) (fun c57 => ?_)
    · have B58 : sf_B (-2147483648) (-1) a1 := sf_ltL c57 (sf_any a1) sf_k0
      refine pm_R_op pm_M174 (pc_q := 15) (st_q := [.int 0]) rfl rfl rfl ?_
      refine pm_R_ret pm_M174 (r := some (.int 0)) rfl rfl ?_
      show pm_R _ 177 13 [.ref 41, .int 2, .int a1] [.int 0] _ _
      refine pm_R_ret pm_M177 (r := some (.int 0)) rfl rfl ?_
      show pm_R _ 175 72 [.ref 41, .int 2, .int a1, pm_no] [.int 0] _ _
      refine pm_R_br pm_M175 (pc_q := 75) (st_q := []) rfl rfl ?_
      refine pm_R_op pm_M175 (pc_q := 77) (st_q := [.int (-2)]) rfl rfl rfl ?_
      have e59 := (F44.cell (by decide) (F36.cell (by decide) e29))
      exact pm_R_ret pm_M175 (r := some (.int (-2))) rfl rfl (K (-2) m19 w h42 T43 F46 W24 (fun g eg => by rw [e2] at eg; cases eg; exact e59) (sf_weak sf_kn2 (by decide) (by decide)))
    · have B60 : sf_B 0 2147483647 a1 := sf_leR (Int32.not_lt.mp c57) sf_k0 (sf_any a1)
      refine pm_R_lo pm_M174 (pc_q := 6) rfl rfl rfl ?_
      refine pm_R_lo pm_M174 (pc_q := 7) rfl rfl rfl ?_
      refine pm_R_icmp pm_M174 (t := 14) (pc_q := 10) rfl rfl rfl (fun c61 => ?_) (fun c61 => ?_)
      · skip
        refine pm_R_op pm_M174 (pc_q := 15) (st_q := [.int 0]) rfl rfl rfl ?_
        refine pm_R_ret pm_M174 (r := some (.int 0)) rfl rfl ?_
        show pm_R _ 177 13 [.ref 41, .int 2, .int a1] [.int 0] _ _
        refine pm_R_ret pm_M177 (r := some (.int 0)) rfl rfl ?_
        show pm_R _ 175 72 [.ref 41, .int 2, .int a1, pm_no] [.int 0] _ _
        refine pm_R_br pm_M175 (pc_q := 75) (st_q := []) rfl rfl ?_
        refine pm_R_op pm_M175 (pc_q := 77) (st_q := [.int (-2)]) rfl rfl rfl ?_
        have e62 := (F44.cell (by decide) (F36.cell (by decide) e29))
        exact pm_R_ret pm_M175 (r := some (.int (-2))) rfl rfl (K (-2) m19 w h42 T43 F46 W24 (fun g eg => by rw [e2] at eg; cases eg; exact e62) (sf_weak sf_kn2 (by decide) (by decide)))
      · have B63 : sf_B 0 1 a1 := sf_leL (Int32.not_lt.mp c61) B60 B56
        have B64 : sf_B 0 1 z54 := sf_leR (Int32.not_lt.mp c61) B60 B56
        refine pm_R_op pm_M174 (pc_q := 11) (st_q := [.int 1]) rfl rfl rfl ?_
        refine pm_R_br pm_M174 (pc_q := 15) rfl rfl ?_
        refine pm_R_ret pm_M174 (r := some (.int 1)) rfl rfl ?_
        show pm_R _ 177 13 [.ref 41, .int 2, .int a1] [.int 1] _ _
        refine pm_R_ret pm_M177 (r := some (.int 1)) rfl rfl ?_
        show pm_R _ 175 72 [.ref 41, .int 2, .int a1, pm_no] [.int 1] _ _
        refine pm_R_br pm_M175 (pc_q := 78) (st_q := []) rfl rfl ?_
        refine pm_R_lo pm_M175 (pc_q := 79) rfl rfl rfl ?_
        refine pm_R_lo pm_M175 (pc_q := 80) rfl rfl rfl ?_
        refine pm_R_cv pm_M175 (pc_q := 83) (a := 41) (ra := [.int 2]) (rest := []) (ls_q := [.ref 41, .int 2, pm_no, pm_no]) rfl rfl (Or.inl rfl) pm_M178 T43.2.1 rfl (by decide) (Nat.lt_of_lt_of_le (by decide) T43.1) rfl rfl (Nat.le_of_ble_eq_true rfl) rfl rfl ?_
        refine rf_c178_2 (d := d + 0) T43  (fun m67 w68 h69 T70 F71 W72 => ?_) (fun m75 w76 h77 T78 F79 W80 X81 => ?_)
        · have F82 := F46.trans F71 (by decide)
          have W83 : rf_W [0, 10, 11, 12, 13, 14, 16, 17, 18, 21, 22] m m67 := W24.trans W72 (by decide)
          show pm_R _ 175 83 [.ref 41, .int 2, .int a1, pm_no] [.int 0] _ _
          refine pm_R_br pm_M175 (pc_q := 86) (st_q := []) rfl rfl ?_
          refine pm_R_op pm_M175 (pc_q := 87) (st_q := [.int (-1)]) rfl rfl rfl ?_
          have e84 := (F71.cell (by decide) (F44.cell (by decide) (F36.cell (by decide) e29)))
          exact pm_R_ret pm_M175 (r := some (.int (-1))) rfl rfl (K (-1) m67 w68 h69 T70 F82 W83 (fun g eg => by rw [e2] at eg; cases eg; exact e84) (sf_weak sf_kn1 (by decide) (by decide)))
        · have F85 := F46.trans F79 (by decide)
          have W86 : rf_W [0, 10, 11, 12, 13, 14, 16, 17, 18, 21, 22] m m75 := W24.trans W80 (by decide)
          show pm_R _ 175 83 [.ref 41, .int 2, .int a1, pm_no] [.int 1] _ _
          refine pm_R_br pm_M175 (pc_q := 88) (st_q := []) rfl rfl ?_
          refine pm_R_lo pm_M175 (pc_q := 89) rfl rfl rfl ?_
          refine pm_R_op pm_M175 (pc_q := 90) (st_q := [.int (-1), .int a1]) rfl rfl rfl ?_
          refine pm_R_icmp pm_M175 (t := 102) (pc_q := 93) rfl rfl rfl (fun c87 => ?_) (fun c87 => absurd (Classical.not_not.mp c87) (sf_neq1 B63 sf_kn1 (by decide)))
          skip
          refine pm_R_lo pm_M175 (pc_q := 103) (pm_q175_1 (Nat.le_of_ble_eq_true rfl)) rfl rfl ?_
          refine pm_R_lo pm_M175 (pc_q := 104) (ls_q := [.ref 41, .int 2, .int a1, .int a1]) (st_q := []) (pm_q175_1 (Nat.le_of_ble_eq_true rfl)) rfl rfl ?_
          refine pm_R_lo pm_M175 (pc_q := 105) (pm_q175_1 (Nat.le_of_ble_eq_true rfl)) rfl rfl ?_
          refine rf_R_get pm_M175 T78 (pc_q := 108) (v := .ref 46) (pm_q175_1 (Nat.le_of_ble_eq_true rfl)) rfl rfl rfl ?_
          refine pm_R_lo pm_M175 (pc_q := 109) (pm_q175_1 (Nat.le_of_ble_eq_true rfl)) rfl rfl ?_
          refine pm_R_op pm_M175 (pc_q := 110) (st_q := [.int 2, .ref 46, .int 2, .ref 46]) (pm_q175_1 (Nat.le_of_ble_eq_true rfl)) rfl rfl ?_
          have e88 := (F79.cell (by decide) e49)
          refine pm_R_iald pm_M175 (pc_q := 111) (v := z51) (pm_q175_1 (Nat.le_of_ble_eq_true rfl)) e88 (Nat.lt_of_lt_of_le (by decide) T78.1) rfl ez52 rfl ?_
          refine pm_R_lo pm_M175 (pc_q := 112) (pm_q175_1 (Nat.le_of_ble_eq_true rfl)) rfl rfl ?_
          refine pm_R_op pm_M175 (pc_q := 113) (st_q := [.int (-1), .int a1, .int z51, .int 2, .ref 46]) (pm_q175_1 (Nat.le_of_ble_eq_true rfl)) rfl rfl ?_
          refine pm_R_icmp pm_M175 (t := 120) (pc_q := 116) (pm_q175_1 (Nat.le_of_ble_eq_true rfl)) rfl rfl (fun c91 => ?_) (fun c91 => absurd (Classical.not_not.mp c91) (sf_neq1 B63 sf_kn1 (by decide)))
          skip
          refine pm_R_op pm_M175 (pc_q := 121) (st_q := [.int 0, .int z51, .int 2, .ref 46]) (pm_q175_1 (Nat.le_of_ble_eq_true rfl)) rfl rfl ?_
          refine sf_R_iadd pm_M175 (pc_q := 122) (pm_q175_1 (Nat.le_of_ble_eq_true rfl)) rfl B53 sf_k0 (by decide) (by decide) (fun z92 e93 B94 => ?_)
          obtain ⟨f95, e96, hf97⟩ := X81
          refine rf_tail2 (d := d + 6) T78 e88 e96 hf97 B94 B63  (fun h99 T100 G101 d102 d103 => ?_)
          have F104 := F85.trans G101 (by decide)
          have e105 := (G101.cell (by decide) (F79.cell (by decide) (F44.cell (by decide) (F36.cell (by decide) e29))))
          exact K a1 m75 w76 h99 T100 F104 W86 (fun g eg => by rw [e2] at eg; cases eg; exact e105) (sf_weak B63 (by decide) (by decide))
  · have B106 : sf_B (-1) (-1) a1 := sf_eqL (Classical.not_not.mp c47) sf_kn1
    refine pm_R_lo pm_M175 (pc_q := 51) rfl rfl rfl ?_
    refine rf_R_get pm_M175 T43 (pc_q := 54) (v := .ref 46) rfl rfl rfl rfl ?_
    refine pm_R_lo pm_M175 (pc_q := 55) rfl rfl rfl ?_
    obtain ⟨f107, e108, b109⟩ := T43.2.2.2.1 46 (by decide) (by decide)
    refine rf_R_ild pm_M175 T43 (pc_q := 56) rfl e108 (by decide) rfl rfl (fun z110 ez111 => ?_)
    have B112 : sf_B 0 2 z110 := ez111 ▸ (b109 2)
    refine pm_R_lo pm_M175 (pc_q := 57) rfl rfl rfl ?_
    refine pm_R_cs pm_M175 (pc_q := 60) (ra := [.int 2]) (rest := [.int z110]) (ls_q := [.int 2]) rfl rfl (Or.inl rfl) pm_M176 rfl rfl (Nat.le_of_ble_eq_true rfl) rfl rfl ?_
    refine pm_R_lo pm_M176 (pc_q := 1) rfl rfl rfl ?_
    refine pm_R_op pm_M176 (pc_q := 2) (st_q := [.int 1, .int 2]) rfl rfl rfl ?_
    refine pm_R_br pm_M176 (pc_q := 9) (st_q := []) rfl rfl ?_
    refine pm_R_op pm_M176 (pc_q := 10) (st_q := [.int 2]) rfl rfl rfl ?_
    refine pm_R_ret pm_M176 (r := some (.int 2)) rfl rfl ?_
    show pm_R _ 175 60 [.ref 41, .int 2, .int a1, pm_no] [.int 2, .int z110] _ _
    refine pm_R_icmp pm_M175 (t := 78) (pc_q := 63) rfl rfl rfl (fun c113 => ?_) (fun c113 => ?_)
    · have B114 : sf_B 0 1 z110 := sf_neH0 c113 sf_k2 B112
      refine pm_R_lo pm_M175 (pc_q := 79) rfl rfl rfl ?_
      refine pm_R_lo pm_M175 (pc_q := 80) rfl rfl rfl ?_
      refine pm_R_cv pm_M175 (pc_q := 83) (a := 41) (ra := [.int 2]) (rest := []) (ls_q := [.ref 41, .int 2, pm_no, pm_no]) rfl rfl (Or.inl rfl) pm_M178 T43.2.1 rfl (by decide) (Nat.lt_of_lt_of_le (by decide) T43.1) rfl rfl (Nat.le_of_ble_eq_true rfl) rfl rfl ?_
      refine rf_c178_2 (d := d + 0) T43  (fun m117 w118 h119 T120 F121 W122 => ?_) (fun m125 w126 h127 T128 F129 W130 X131 => ?_)
      · have F132 := F46.trans F121 (by decide)
        have W133 : rf_W [0, 10, 11, 12, 13, 14, 16, 17, 18, 21, 22] m m117 := W24.trans W122 (by decide)
        show pm_R _ 175 83 [.ref 41, .int 2, .int a1, pm_no] [.int 0] _ _
        refine pm_R_br pm_M175 (pc_q := 86) (st_q := []) rfl rfl ?_
        refine pm_R_op pm_M175 (pc_q := 87) (st_q := [.int (-1)]) rfl rfl rfl ?_
        have e134 := (F121.cell (by decide) (F44.cell (by decide) (F36.cell (by decide) e29)))
        exact pm_R_ret pm_M175 (r := some (.int (-1))) rfl rfl (K (-1) m117 w118 h119 T120 F132 W133 (fun g eg => by rw [e2] at eg; cases eg; exact e134) (sf_weak sf_kn1 (by decide) (by decide)))
      · have F135 := F46.trans F129 (by decide)
        have W136 : rf_W [0, 10, 11, 12, 13, 14, 16, 17, 18, 21, 22] m m125 := W24.trans W130 (by decide)
        show pm_R _ 175 83 [.ref 41, .int 2, .int a1, pm_no] [.int 1] _ _
        refine pm_R_br pm_M175 (pc_q := 88) (st_q := []) rfl rfl ?_
        refine pm_R_lo pm_M175 (pc_q := 89) rfl rfl rfl ?_
        refine pm_R_op pm_M175 (pc_q := 90) (st_q := [.int (-1), .int a1]) rfl rfl rfl ?_
        refine pm_R_icmp pm_M175 (t := 102) (pc_q := 93) rfl rfl rfl (fun c137 => absurd (sf_pt2 B106 sf_kn1) c137) (fun c137 => ?_)
        refine pm_R_lo pm_M175 (pc_q := 94) rfl rfl rfl ?_
        refine rf_R_get pm_M175 T128 (pc_q := 97) (v := .ref 46) rfl rfl rfl rfl ?_
        refine pm_R_lo pm_M175 (pc_q := 98) rfl rfl rfl ?_
        have e138 := (F129.cell (by decide) e108)
        refine pm_R_iald pm_M175 (pc_q := 99) (v := z110) rfl e138 (Nat.lt_of_lt_of_le (by decide) T128.1) rfl ez111 rfl ?_
        refine pm_R_br pm_M175 (pc_q := 103) (pm_q175_1 (Nat.le_of_ble_eq_true rfl)) rfl ?_
        refine pm_R_lo pm_M175 (pc_q := 104) (ls_q := [.ref 41, .int 2, .int a1, .int z110]) (st_q := []) (pm_q175_1 (Nat.le_of_ble_eq_true rfl)) rfl rfl ?_
        refine pm_R_lo pm_M175 (pc_q := 105) (pm_q175_1 (Nat.le_of_ble_eq_true rfl)) rfl rfl ?_
        refine rf_R_get pm_M175 T128 (pc_q := 108) (v := .ref 46) (pm_q175_1 (Nat.le_of_ble_eq_true rfl)) rfl rfl rfl ?_
        refine pm_R_lo pm_M175 (pc_q := 109) (pm_q175_1 (Nat.le_of_ble_eq_true rfl)) rfl rfl ?_
        refine pm_R_op pm_M175 (pc_q := 110) (st_q := [.int 2, .ref 46, .int 2, .ref 46]) (pm_q175_1 (Nat.le_of_ble_eq_true rfl)) rfl rfl ?_
        refine pm_R_iald pm_M175 (pc_q := 111) (v := z110) (pm_q175_1 (Nat.le_of_ble_eq_true rfl)) e138 (Nat.lt_of_lt_of_le (by decide) T128.1) rfl ez111 rfl ?_
        refine pm_R_lo pm_M175 (pc_q := 112) (pm_q175_1 (Nat.le_of_ble_eq_true rfl)) rfl rfl ?_
        refine pm_R_op pm_M175 (pc_q := 113) (st_q := [.int (-1), .int a1, .int z110, .int 2, .ref 46]) (pm_q175_1 (Nat.le_of_ble_eq_true rfl)) rfl rfl ?_
        refine pm_R_icmp pm_M175 (t := 120) (pc_q := 116) (pm_q175_1 (Nat.le_of_ble_eq_true rfl)) rfl rfl (fun c143 => absurd (sf_pt2 B106 sf_kn1) c143) (fun c143 => ?_)
        refine pm_R_op pm_M175 (pc_q := 117) (st_q := [.int 1, .int z110, .int 2, .ref 46]) (pm_q175_1 (Nat.le_of_ble_eq_true rfl)) rfl rfl ?_
        refine pm_R_br pm_M175 (pc_q := 121) (pm_q175_1 (Nat.le_of_ble_eq_true rfl)) rfl ?_
        refine sf_R_iadd pm_M175 (pc_q := 122) (pm_q175_1 (Nat.le_of_ble_eq_true rfl)) rfl B114 sf_k1 (by decide) (by decide) (fun z144 e145 B146 => ?_)
        obtain ⟨f147, e148, hf149⟩ := X131
        refine rf_tail2 (d := d + 6) T128 e138 e148 hf149 (sf_weak B146 (by decide) (by decide)) B114  (fun h151 T152 G153 d154 d155 => ?_)
        have F156 := F135.trans G153 (by decide)
        have e157 := (G153.cell (by decide) (F129.cell (by decide) (F44.cell (by decide) (F36.cell (by decide) e29))))
        exact K z110 m125 w126 h151 T152 F156 W136 (fun g eg => by rw [e2] at eg; cases eg; exact e157) (sf_weak B114 (by decide) (by decide))
    · have B158 : sf_B 2 2 z110 := sf_eqL (Classical.not_not.mp c113) sf_k2
      refine pm_R_br pm_M175 (pc_q := 75) rfl rfl ?_
      refine pm_R_op pm_M175 (pc_q := 77) (st_q := [.int (-2)]) rfl rfl rfl ?_
      have e159 := (F44.cell (by decide) (F36.cell (by decide) e29))
      exact pm_R_ret pm_M175 (r := some (.int (-2))) rfl rfl (K (-2) m19 w h42 T43 F46 W24 (fun g eg => by rw [e2] at eg; cases eg; exact e159) (sf_weak sf_kn2 (by decide) (by decide)))

set_option maxRecDepth 100000 in
set_option maxHeartbeats 4000000 in
/-- SilentTableModel.text -/
theorem rf_c175_3 {d : Nat} {m : Nat → Int32} {w : Int64} {h : pm_H} {Q : Option Value → pm_H → Prop} {a1 : Int32} (T : rf_T m w h)  (K : ∀ (r : Int32) (m_q : Nat → Int32) (w_q : Int64) (h_q : pm_H), rf_T m_q w_q h_q → rf_G [41, 43, 44, 45, 46, 50, 51, 52] h h_q → rf_W [0, 10, 11, 12, 13, 14, 16, 17, 18, 21, 22] m m_q → (∀ g : Nat → Int32, h.2.2 43 = .inl (0, 4, .inl g) → h_q.2.2 43 = .inl (0, 4, .inl (upd g (Int32.toNatClampNeg 0) 0))) → sf_B (-2) 1 r → Q (some (.int r)) h_q) : pm_R (d + 7) 175 0 [.ref 41, .int 3, .int a1, pm_no] [] h Q := by
  obtain ⟨f1, e2, b3⟩ := T.2.2.2.1 43 (by decide) (by decide)
  refine pm_R_lo pm_M175 (pc_q := 1) rfl rfl rfl ?_
  refine pm_R_op pm_M175 (pc_q := 2) (st_q := [.int 0, .ref 41]) rfl rfl rfl ?_
  refine rf_R_put pm_M175 T (pc_q := 5) rfl rfl rfl (by decide) rfl rfl sf_k0 rfl rfl (fun h4 m7 em8 T5 F6 => ?_)
  have F9 := (rf_G.refl [41, 43, 44, 45, 46, 50, 51, 52] h).trans F6 (by decide)
  have B10 : sf_B 0 0 (m7 0) := by rw [em8]; exact sf_k0
  have W12 : rf_W [0, 10, 11, 12, 13, 14, 16, 17, 18, 21, 22] m m7 := by rw [em8]; exact (rf_W.refl [0, 10, 11, 12, 13, 14, 16, 17, 18, 21, 22] m).put (by decide)
  refine pm_R_lo pm_M175 (pc_q := 6) rfl rfl rfl ?_
  refine pm_R_lo pm_M175 (pc_q := 7) rfl rfl rfl ?_
  refine rf_R_get pm_M175 T5 (pc_q := 10) (v := .ref 43) rfl rfl rfl rfl ?_
  refine pm_R_op pm_M175 (pc_q := 11) (st_q := [.int 0, .ref 43, .ref 41]) rfl rfl rfl ?_
  have e13 := (F6.cell (by decide) e2)
  refine pm_R_iald pm_M175 (pc_q := 12) (v := (f1 0)) rfl e13 (Nat.lt_of_lt_of_le (by decide) T5.1) rfl rfl rfl ?_
  refine rf_R_put pm_M175 T5 (pc_q := 15) rfl rfl rfl (by decide) rfl rfl (b3 0) rfl rfl (fun h16 m19 em20 T17 F18 => ?_)
  have F21 := F9.trans F18 (by decide)
  have B22 : sf_B 0 600 (m19 11) := by rw [em20]; exact (b3 0)
  have ek23 : (m19 11).toInt = ((f1 0)).toInt := by rw [em20]; rfl
  have W24 : rf_W [0, 10, 11, 12, 13, 14, 16, 17, 18, 21, 22] m m19 := by rw [em20]; exact W12.put (by decide)
  refine pm_R_lo pm_M175 (pc_q := 16) rfl rfl rfl ?_
  refine rf_R_get pm_M175 T17 (pc_q := 19) (v := .ref 43) rfl rfl rfl rfl ?_
  refine pm_R_op pm_M175 (pc_q := 20) (st_q := [.int 0, .ref 43]) rfl rfl rfl ?_
  refine pm_R_op pm_M175 (pc_q := 21) (st_q := [.int 0, .int 0, .ref 43]) rfl rfl rfl ?_
  have e25 := (F18.cell (by decide) e13)
  refine rf_R_ist2 pm_M175 T17 (pc_q := 22) rfl e25 (by decide) (by decide) rfl ⟨_, rfl, sf_upd b3 (sf_weak sf_k0 (by decide) (by decide)) _⟩ rfl (fun h26 T27 F28 e29 => ?_)
  have F30 := F21.trans F28 (by decide)
  refine pm_R_lo pm_M175 (pc_q := 23) rfl rfl rfl ?_
  refine rf_R_get pm_M175 T27 (pc_q := 26) (v := .ref 44) rfl rfl rfl rfl ?_
  refine pm_R_op pm_M175 (pc_q := 27) (st_q := [.int 0, .ref 44]) rfl rfl rfl ?_
  refine pm_R_op pm_M175 (pc_q := 28) (st_q := [.int 0, .int 0, .ref 44]) rfl rfl rfl ?_
  obtain ⟨f31, e32, b33⟩ := T27.2.2.2.1 44 (by decide) (by decide)
  refine rf_R_ist2 pm_M175 T27 (pc_q := 29) rfl e32 (by decide) (by decide) rfl ⟨_, rfl, sf_upd b33 (sf_weak sf_k0 (by decide) (by decide)) _⟩ rfl (fun h34 T35 F36 e37 => ?_)
  have F38 := F30.trans F36 (by decide)
  refine pm_R_lo pm_M175 (pc_q := 30) rfl rfl rfl ?_
  refine rf_R_get pm_M175 T35 (pc_q := 33) (v := .ref 45) rfl rfl rfl rfl ?_
  refine pm_R_op pm_M175 (pc_q := 34) (st_q := [.int 0, .ref 45]) rfl rfl rfl ?_
  refine pm_R_op pm_M175 (pc_q := 35) (st_q := [.int (-1), .int 0, .ref 45]) rfl rfl rfl ?_
  obtain ⟨f39, e40, b41⟩ := T35.2.2.2.1 45 (by decide) (by decide)
  refine rf_R_ist2 pm_M175 T35 (pc_q := 36) rfl e40 (by decide) (by decide) rfl ⟨_, rfl, sf_upd b41 (sf_weak sf_kn1 (by decide) (by decide)) _⟩ rfl (fun h42 T43 F44 e45 => ?_)
  have F46 := F38.trans F44 (by decide)
  refine pm_R_lo pm_M175 (pc_q := 37) rfl rfl rfl ?_
  refine pm_R_op pm_M175 (pc_q := 38) (st_q := [.int 0, .int 3]) rfl rfl rfl ?_
  refine pm_R_op pm_M175 (pc_q := 39) (st_q := [.int 3, .int 0, .int 3]) rfl rfl rfl ?_
  refine pm_R_cs pm_M175 (pc_q := 42) (ra := [.int 3, .int 0, .int 3]) (rest := []) (ls_q := [.int 3, .int 0, .int 3]) rfl rfl (Or.inl rfl) pm_M174 rfl rfl (Nat.le_of_ble_eq_true rfl) rfl rfl ?_
  refine pm_R_lo pm_M174 (pc_q := 1) rfl rfl rfl ?_
  refine pm_R_lo pm_M174 (pc_q := 2) rfl rfl rfl ?_
  refine pm_R_br pm_M174 (pc_q := 5) (st_q := []) rfl rfl ?_
  refine pm_R_lo pm_M174 (pc_q := 6) rfl rfl rfl ?_
  refine pm_R_lo pm_M174 (pc_q := 7) rfl rfl rfl ?_
  refine pm_R_br pm_M174 (pc_q := 10) (st_q := []) rfl rfl ?_
  refine pm_R_op pm_M174 (pc_q := 11) (st_q := [.int 1]) rfl rfl rfl ?_
  refine pm_R_br pm_M174 (pc_q := 15) rfl rfl ?_
  refine pm_R_ret pm_M174 (r := some (.int 1)) rfl rfl ?_
  show pm_R _ 175 42 [.ref 41, .int 3, .int a1, pm_no] [.int 1] _ _
  refine pm_R_br pm_M175 (pc_q := 45) (st_q := []) rfl rfl ?_
  refine pm_R_lo pm_M175 (pc_q := 46) rfl rfl rfl ?_
  refine pm_R_op pm_M175 (pc_q := 47) (st_q := [.int (-1), .int a1]) rfl rfl rfl ?_
  refine pm_R_icmp pm_M175 (t := 66) (pc_q := 50) rfl rfl rfl (fun c47 => ?_) (fun c47 => ?_)
  · skip
    refine pm_R_lo pm_M175 (pc_q := 67) rfl rfl rfl ?_
    refine pm_R_lo pm_M175 (pc_q := 68) rfl rfl rfl ?_
    refine pm_R_lo pm_M175 (pc_q := 69) rfl rfl rfl ?_
    refine pm_R_cv pm_M175 (pc_q := 72) (a := 41) (ra := [.int a1, .int 3]) (rest := []) (ls_q := [.ref 41, .int 3, .int a1]) rfl rfl (Or.inl rfl) pm_M177 T43.2.1 rfl (by decide) (Nat.lt_of_lt_of_le (by decide) T43.1) rfl rfl (Nat.le_of_ble_eq_true rfl) rfl rfl ?_
    refine pm_R_lo pm_M177 (pc_q := 1) rfl rfl rfl ?_
    refine pm_R_op pm_M177 (pc_q := 2) (st_q := [.int 0, .int a1]) rfl rfl rfl ?_
    refine pm_R_lo pm_M177 (pc_q := 3) rfl rfl rfl ?_
    refine rf_R_get pm_M177 T43 (pc_q := 6) (v := .ref 46) rfl rfl rfl rfl ?_
    refine pm_R_lo pm_M177 (pc_q := 7) rfl rfl rfl ?_
    obtain ⟨f48, e49, b50⟩ := T43.2.2.2.1 46 (by decide) (by decide)
    refine rf_R_ild pm_M177 T43 (pc_q := 8) rfl e49 (by decide) rfl rfl (fun z51 ez52 => ?_)
    have B53 : sf_B 0 2 z51 := ez52 ▸ (b50 3)
    refine pm_R_op pm_M177 (pc_q := 9) (st_q := [.int 1, .int z51, .int 0, .int a1]) rfl rfl rfl ?_
    refine sf_R_isub pm_M177 (pc_q := 10) rfl rfl B53 sf_k1 (by decide) (by decide) (fun z54 e55 B56 => ?_)
    refine pm_R_cs pm_M177 (pc_q := 13) (ra := [.int z54, .int 0, .int a1]) (rest := []) (ls_q := [.int a1, .int 0, .int z54]) rfl rfl (Or.inl rfl) pm_M174 rfl rfl (Nat.le_of_ble_eq_true rfl) rfl rfl ?_
    refine pm_R_lo pm_M174 (pc_q := 1) rfl rfl rfl ?_
    refine pm_R_lo pm_M174 (pc_q := 2) rfl rfl rfl ?_
    refine pm_R_icmp pm_M174 (t := 14) (pc_q := 5) rfl rfl rfl (fun c57 => ?_) (fun c57 => ?_)
    · have B58 : sf_B (-2147483648) (-1) a1 := sf_ltL c57 (sf_any a1) sf_k0
      refine pm_R_op pm_M174 (pc_q := 15) (st_q := [.int 0]) rfl rfl rfl ?_
      refine pm_R_ret pm_M174 (r := some (.int 0)) rfl rfl ?_
      show pm_R _ 177 13 [.ref 41, .int 3, .int a1] [.int 0] _ _
      refine pm_R_ret pm_M177 (r := some (.int 0)) rfl rfl ?_
      show pm_R _ 175 72 [.ref 41, .int 3, .int a1, pm_no] [.int 0] _ _
      refine pm_R_br pm_M175 (pc_q := 75) (st_q := []) rfl rfl ?_
      refine pm_R_op pm_M175 (pc_q := 77) (st_q := [.int (-2)]) rfl rfl rfl ?_
      have e59 := (F44.cell (by decide) (F36.cell (by decide) e29))
      exact pm_R_ret pm_M175 (r := some (.int (-2))) rfl rfl (K (-2) m19 w h42 T43 F46 W24 (fun g eg => by rw [e2] at eg; cases eg; exact e59) (sf_weak sf_kn2 (by decide) (by decide)))
    · have B60 : sf_B 0 2147483647 a1 := sf_leR (Int32.not_lt.mp c57) sf_k0 (sf_any a1)
      refine pm_R_lo pm_M174 (pc_q := 6) rfl rfl rfl ?_
      refine pm_R_lo pm_M174 (pc_q := 7) rfl rfl rfl ?_
      refine pm_R_icmp pm_M174 (t := 14) (pc_q := 10) rfl rfl rfl (fun c61 => ?_) (fun c61 => ?_)
      · skip
        refine pm_R_op pm_M174 (pc_q := 15) (st_q := [.int 0]) rfl rfl rfl ?_
        refine pm_R_ret pm_M174 (r := some (.int 0)) rfl rfl ?_
        show pm_R _ 177 13 [.ref 41, .int 3, .int a1] [.int 0] _ _
        refine pm_R_ret pm_M177 (r := some (.int 0)) rfl rfl ?_
        show pm_R _ 175 72 [.ref 41, .int 3, .int a1, pm_no] [.int 0] _ _
        refine pm_R_br pm_M175 (pc_q := 75) (st_q := []) rfl rfl ?_
        refine pm_R_op pm_M175 (pc_q := 77) (st_q := [.int (-2)]) rfl rfl rfl ?_
        have e62 := (F44.cell (by decide) (F36.cell (by decide) e29))
        exact pm_R_ret pm_M175 (r := some (.int (-2))) rfl rfl (K (-2) m19 w h42 T43 F46 W24 (fun g eg => by rw [e2] at eg; cases eg; exact e62) (sf_weak sf_kn2 (by decide) (by decide)))
      · have B63 : sf_B 0 1 a1 := sf_leL (Int32.not_lt.mp c61) B60 B56
        have B64 : sf_B 0 1 z54 := sf_leR (Int32.not_lt.mp c61) B60 B56
        refine pm_R_op pm_M174 (pc_q := 11) (st_q := [.int 1]) rfl rfl rfl ?_
        refine pm_R_br pm_M174 (pc_q := 15) rfl rfl ?_
        refine pm_R_ret pm_M174 (r := some (.int 1)) rfl rfl ?_
        show pm_R _ 177 13 [.ref 41, .int 3, .int a1] [.int 1] _ _
        refine pm_R_ret pm_M177 (r := some (.int 1)) rfl rfl ?_
        show pm_R _ 175 72 [.ref 41, .int 3, .int a1, pm_no] [.int 1] _ _
        refine pm_R_br pm_M175 (pc_q := 78) (st_q := []) rfl rfl ?_
        refine pm_R_lo pm_M175 (pc_q := 79) rfl rfl rfl ?_
        refine pm_R_lo pm_M175 (pc_q := 80) rfl rfl rfl ?_
        refine pm_R_cv pm_M175 (pc_q := 83) (a := 41) (ra := [.int 3]) (rest := []) (ls_q := [.ref 41, .int 3, pm_no, pm_no]) rfl rfl (Or.inl rfl) pm_M178 T43.2.1 rfl (by decide) (Nat.lt_of_lt_of_le (by decide) T43.1) rfl rfl (Nat.le_of_ble_eq_true rfl) rfl rfl ?_
        refine rf_c178_3 (d := d + 0) T43  (fun m67 w68 h69 T70 F71 W72 => ?_) (fun m75 w76 h77 T78 F79 W80 X81 => ?_)
        · have F82 := F46.trans F71 (by decide)
          have W83 : rf_W [0, 10, 11, 12, 13, 14, 16, 17, 18, 21, 22] m m67 := W24.trans W72 (by decide)
          show pm_R _ 175 83 [.ref 41, .int 3, .int a1, pm_no] [.int 0] _ _
          refine pm_R_br pm_M175 (pc_q := 86) (st_q := []) rfl rfl ?_
          refine pm_R_op pm_M175 (pc_q := 87) (st_q := [.int (-1)]) rfl rfl rfl ?_
          have e84 := (F71.cell (by decide) (F44.cell (by decide) (F36.cell (by decide) e29)))
          exact pm_R_ret pm_M175 (r := some (.int (-1))) rfl rfl (K (-1) m67 w68 h69 T70 F82 W83 (fun g eg => by rw [e2] at eg; cases eg; exact e84) (sf_weak sf_kn1 (by decide) (by decide)))
        · have F85 := F46.trans F79 (by decide)
          have W86 : rf_W [0, 10, 11, 12, 13, 14, 16, 17, 18, 21, 22] m m75 := W24.trans W80 (by decide)
          show pm_R _ 175 83 [.ref 41, .int 3, .int a1, pm_no] [.int 1] _ _
          refine pm_R_br pm_M175 (pc_q := 88) (st_q := []) rfl rfl ?_
          refine pm_R_lo pm_M175 (pc_q := 89) rfl rfl rfl ?_
          refine pm_R_op pm_M175 (pc_q := 90) (st_q := [.int (-1), .int a1]) rfl rfl rfl ?_
          refine pm_R_icmp pm_M175 (t := 102) (pc_q := 93) rfl rfl rfl (fun c87 => ?_) (fun c87 => absurd (Classical.not_not.mp c87) (sf_neq1 B63 sf_kn1 (by decide)))
          skip
          refine pm_R_lo pm_M175 (pc_q := 103) (pm_q175_1 (Nat.le_of_ble_eq_true rfl)) rfl rfl ?_
          refine pm_R_lo pm_M175 (pc_q := 104) (ls_q := [.ref 41, .int 3, .int a1, .int a1]) (st_q := []) (pm_q175_1 (Nat.le_of_ble_eq_true rfl)) rfl rfl ?_
          refine pm_R_lo pm_M175 (pc_q := 105) (pm_q175_1 (Nat.le_of_ble_eq_true rfl)) rfl rfl ?_
          refine rf_R_get pm_M175 T78 (pc_q := 108) (v := .ref 46) (pm_q175_1 (Nat.le_of_ble_eq_true rfl)) rfl rfl rfl ?_
          refine pm_R_lo pm_M175 (pc_q := 109) (pm_q175_1 (Nat.le_of_ble_eq_true rfl)) rfl rfl ?_
          refine pm_R_op pm_M175 (pc_q := 110) (st_q := [.int 3, .ref 46, .int 3, .ref 46]) (pm_q175_1 (Nat.le_of_ble_eq_true rfl)) rfl rfl ?_
          have e88 := (F79.cell (by decide) e49)
          refine pm_R_iald pm_M175 (pc_q := 111) (v := z51) (pm_q175_1 (Nat.le_of_ble_eq_true rfl)) e88 (Nat.lt_of_lt_of_le (by decide) T78.1) rfl ez52 rfl ?_
          refine pm_R_lo pm_M175 (pc_q := 112) (pm_q175_1 (Nat.le_of_ble_eq_true rfl)) rfl rfl ?_
          refine pm_R_op pm_M175 (pc_q := 113) (st_q := [.int (-1), .int a1, .int z51, .int 3, .ref 46]) (pm_q175_1 (Nat.le_of_ble_eq_true rfl)) rfl rfl ?_
          refine pm_R_icmp pm_M175 (t := 120) (pc_q := 116) (pm_q175_1 (Nat.le_of_ble_eq_true rfl)) rfl rfl (fun c91 => ?_) (fun c91 => absurd (Classical.not_not.mp c91) (sf_neq1 B63 sf_kn1 (by decide)))
          skip
          refine pm_R_op pm_M175 (pc_q := 121) (st_q := [.int 0, .int z51, .int 3, .ref 46]) (pm_q175_1 (Nat.le_of_ble_eq_true rfl)) rfl rfl ?_
          refine sf_R_iadd pm_M175 (pc_q := 122) (pm_q175_1 (Nat.le_of_ble_eq_true rfl)) rfl B53 sf_k0 (by decide) (by decide) (fun z92 e93 B94 => ?_)
          obtain ⟨f95, e96, hf97⟩ := X81
          refine rf_tail3 (d := d + 6) T78 e88 e96 hf97 B94 B63  (fun h99 T100 G101 d102 d103 => ?_)
          have F104 := F85.trans G101 (by decide)
          have e105 := (G101.cell (by decide) (F79.cell (by decide) (F44.cell (by decide) (F36.cell (by decide) e29))))
          exact K a1 m75 w76 h99 T100 F104 W86 (fun g eg => by rw [e2] at eg; cases eg; exact e105) (sf_weak B63 (by decide) (by decide))
  · have B106 : sf_B (-1) (-1) a1 := sf_eqL (Classical.not_not.mp c47) sf_kn1
    refine pm_R_lo pm_M175 (pc_q := 51) rfl rfl rfl ?_
    refine rf_R_get pm_M175 T43 (pc_q := 54) (v := .ref 46) rfl rfl rfl rfl ?_
    refine pm_R_lo pm_M175 (pc_q := 55) rfl rfl rfl ?_
    obtain ⟨f107, e108, b109⟩ := T43.2.2.2.1 46 (by decide) (by decide)
    refine rf_R_ild pm_M175 T43 (pc_q := 56) rfl e108 (by decide) rfl rfl (fun z110 ez111 => ?_)
    have B112 : sf_B 0 2 z110 := ez111 ▸ (b109 3)
    refine pm_R_lo pm_M175 (pc_q := 57) rfl rfl rfl ?_
    refine pm_R_cs pm_M175 (pc_q := 60) (ra := [.int 3]) (rest := [.int z110]) (ls_q := [.int 3]) rfl rfl (Or.inl rfl) pm_M176 rfl rfl (Nat.le_of_ble_eq_true rfl) rfl rfl ?_
    refine pm_R_lo pm_M176 (pc_q := 1) rfl rfl rfl ?_
    refine pm_R_op pm_M176 (pc_q := 2) (st_q := [.int 1, .int 3]) rfl rfl rfl ?_
    refine pm_R_br pm_M176 (pc_q := 9) (st_q := []) rfl rfl ?_
    refine pm_R_op pm_M176 (pc_q := 10) (st_q := [.int 2]) rfl rfl rfl ?_
    refine pm_R_ret pm_M176 (r := some (.int 2)) rfl rfl ?_
    show pm_R _ 175 60 [.ref 41, .int 3, .int a1, pm_no] [.int 2, .int z110] _ _
    refine pm_R_icmp pm_M175 (t := 78) (pc_q := 63) rfl rfl rfl (fun c113 => ?_) (fun c113 => ?_)
    · have B114 : sf_B 0 1 z110 := sf_neH0 c113 sf_k2 B112
      refine pm_R_lo pm_M175 (pc_q := 79) rfl rfl rfl ?_
      refine pm_R_lo pm_M175 (pc_q := 80) rfl rfl rfl ?_
      refine pm_R_cv pm_M175 (pc_q := 83) (a := 41) (ra := [.int 3]) (rest := []) (ls_q := [.ref 41, .int 3, pm_no, pm_no]) rfl rfl (Or.inl rfl) pm_M178 T43.2.1 rfl (by decide) (Nat.lt_of_lt_of_le (by decide) T43.1) rfl rfl (Nat.le_of_ble_eq_true rfl) rfl rfl ?_
      refine rf_c178_3 (d := d + 0) T43  (fun m117 w118 h119 T120 F121 W122 => ?_) (fun m125 w126 h127 T128 F129 W130 X131 => ?_)
      · have F132 := F46.trans F121 (by decide)
        have W133 : rf_W [0, 10, 11, 12, 13, 14, 16, 17, 18, 21, 22] m m117 := W24.trans W122 (by decide)
        show pm_R _ 175 83 [.ref 41, .int 3, .int a1, pm_no] [.int 0] _ _
        refine pm_R_br pm_M175 (pc_q := 86) (st_q := []) rfl rfl ?_
        refine pm_R_op pm_M175 (pc_q := 87) (st_q := [.int (-1)]) rfl rfl rfl ?_
        have e134 := (F121.cell (by decide) (F44.cell (by decide) (F36.cell (by decide) e29)))
        exact pm_R_ret pm_M175 (r := some (.int (-1))) rfl rfl (K (-1) m117 w118 h119 T120 F132 W133 (fun g eg => by rw [e2] at eg; cases eg; exact e134) (sf_weak sf_kn1 (by decide) (by decide)))
      · have F135 := F46.trans F129 (by decide)
        have W136 : rf_W [0, 10, 11, 12, 13, 14, 16, 17, 18, 21, 22] m m125 := W24.trans W130 (by decide)
        show pm_R _ 175 83 [.ref 41, .int 3, .int a1, pm_no] [.int 1] _ _
        refine pm_R_br pm_M175 (pc_q := 88) (st_q := []) rfl rfl ?_
        refine pm_R_lo pm_M175 (pc_q := 89) rfl rfl rfl ?_
        refine pm_R_op pm_M175 (pc_q := 90) (st_q := [.int (-1), .int a1]) rfl rfl rfl ?_
        refine pm_R_icmp pm_M175 (t := 102) (pc_q := 93) rfl rfl rfl (fun c137 => absurd (sf_pt2 B106 sf_kn1) c137) (fun c137 => ?_)
        refine pm_R_lo pm_M175 (pc_q := 94) rfl rfl rfl ?_
        refine rf_R_get pm_M175 T128 (pc_q := 97) (v := .ref 46) rfl rfl rfl rfl ?_
        refine pm_R_lo pm_M175 (pc_q := 98) rfl rfl rfl ?_
        have e138 := (F129.cell (by decide) e108)
        refine pm_R_iald pm_M175 (pc_q := 99) (v := z110) rfl e138 (Nat.lt_of_lt_of_le (by decide) T128.1) rfl ez111 rfl ?_
        refine pm_R_br pm_M175 (pc_q := 103) (pm_q175_1 (Nat.le_of_ble_eq_true rfl)) rfl ?_
        refine pm_R_lo pm_M175 (pc_q := 104) (ls_q := [.ref 41, .int 3, .int a1, .int z110]) (st_q := []) (pm_q175_1 (Nat.le_of_ble_eq_true rfl)) rfl rfl ?_
        refine pm_R_lo pm_M175 (pc_q := 105) (pm_q175_1 (Nat.le_of_ble_eq_true rfl)) rfl rfl ?_
        refine rf_R_get pm_M175 T128 (pc_q := 108) (v := .ref 46) (pm_q175_1 (Nat.le_of_ble_eq_true rfl)) rfl rfl rfl ?_
        refine pm_R_lo pm_M175 (pc_q := 109) (pm_q175_1 (Nat.le_of_ble_eq_true rfl)) rfl rfl ?_
        refine pm_R_op pm_M175 (pc_q := 110) (st_q := [.int 3, .ref 46, .int 3, .ref 46]) (pm_q175_1 (Nat.le_of_ble_eq_true rfl)) rfl rfl ?_
        refine pm_R_iald pm_M175 (pc_q := 111) (v := z110) (pm_q175_1 (Nat.le_of_ble_eq_true rfl)) e138 (Nat.lt_of_lt_of_le (by decide) T128.1) rfl ez111 rfl ?_
        refine pm_R_lo pm_M175 (pc_q := 112) (pm_q175_1 (Nat.le_of_ble_eq_true rfl)) rfl rfl ?_
        refine pm_R_op pm_M175 (pc_q := 113) (st_q := [.int (-1), .int a1, .int z110, .int 3, .ref 46]) (pm_q175_1 (Nat.le_of_ble_eq_true rfl)) rfl rfl ?_
        refine pm_R_icmp pm_M175 (t := 120) (pc_q := 116) (pm_q175_1 (Nat.le_of_ble_eq_true rfl)) rfl rfl (fun c143 => absurd (sf_pt2 B106 sf_kn1) c143) (fun c143 => ?_)
        refine pm_R_op pm_M175 (pc_q := 117) (st_q := [.int 1, .int z110, .int 3, .ref 46]) (pm_q175_1 (Nat.le_of_ble_eq_true rfl)) rfl rfl ?_
        refine pm_R_br pm_M175 (pc_q := 121) (pm_q175_1 (Nat.le_of_ble_eq_true rfl)) rfl ?_
        refine sf_R_iadd pm_M175 (pc_q := 122) (pm_q175_1 (Nat.le_of_ble_eq_true rfl)) rfl B114 sf_k1 (by decide) (by decide) (fun z144 e145 B146 => ?_)
        obtain ⟨f147, e148, hf149⟩ := X131
        refine rf_tail3 (d := d + 6) T128 e138 e148 hf149 (sf_weak B146 (by decide) (by decide)) B114  (fun h151 T152 G153 d154 d155 => ?_)
        have F156 := F135.trans G153 (by decide)
        have e157 := (G153.cell (by decide) (F129.cell (by decide) (F44.cell (by decide) (F36.cell (by decide) e29))))
        exact K z110 m125 w126 h151 T152 F156 W136 (fun g eg => by rw [e2] at eg; cases eg; exact e157) (sf_weak B114 (by decide) (by decide))
    · have B158 : sf_B 2 2 z110 := sf_eqL (Classical.not_not.mp c113) sf_k2
      refine pm_R_br pm_M175 (pc_q := 75) rfl rfl ?_
      refine pm_R_op pm_M175 (pc_q := 77) (st_q := [.int (-2)]) rfl rfl rfl ?_
      have e159 := (F44.cell (by decide) (F36.cell (by decide) e29))
      exact pm_R_ret pm_M175 (r := some (.int (-2))) rfl rfl (K (-2) m19 w h42 T43 F46 W24 (fun g eg => by rw [e2] at eg; cases eg; exact e159) (sf_weak sf_kn2 (by decide) (by decide)))

set_option maxRecDepth 100000 in
set_option maxHeartbeats 4000000 in
/-- SilentTableModel.text -/
theorem rf_c175_n {d : Nat} {m : Nat → Int32} {w : Int64} {h : pm_H} {Q : Option Value → pm_H → Prop} {a0 : Int32} {a1 : Int32} (T : rf_T m w h) (Ba0 : sf_B (-2147483648) (-1) a0) (K : ∀ (r : Int32) (m_q : Nat → Int32) (w_q : Int64) (h_q : pm_H), rf_T m_q w_q h_q → rf_G [41, 43, 44, 45] h h_q → rf_W [0, 10, 11, 12, 13, 14, 16, 17, 18, 21, 22] m m_q → (∀ g : Nat → Int32, h.2.2 43 = .inl (0, 4, .inl g) → h_q.2.2 43 = .inl (0, 4, .inl (upd g (Int32.toNatClampNeg 0) 0))) → sf_B (-2) (-2) r → Q (some (.int r)) h_q) : pm_R (d + 7) 175 0 [.ref 41, .int a0, .int a1, pm_no] [] h Q := by
  obtain ⟨f1, e2, b3⟩ := T.2.2.2.1 43 (by decide) (by decide)
  refine pm_R_lo pm_M175 (pc_q := 1) rfl rfl rfl ?_
  refine pm_R_op pm_M175 (pc_q := 2) (st_q := [.int 0, .ref 41]) rfl rfl rfl ?_
  refine rf_R_put pm_M175 T (pc_q := 5) rfl rfl rfl (by decide) rfl rfl sf_k0 rfl rfl (fun h4 m7 em8 T5 F6 => ?_)
  have F9 := (rf_G.refl [41, 43, 44, 45] h).trans F6 (by decide)
  have B10 : sf_B 0 0 (m7 0) := by rw [em8]; exact sf_k0
  have W12 : rf_W [0, 10, 11, 12, 13, 14, 16, 17, 18, 21, 22] m m7 := by rw [em8]; exact (rf_W.refl [0, 10, 11, 12, 13, 14, 16, 17, 18, 21, 22] m).put (by decide)
  refine pm_R_lo pm_M175 (pc_q := 6) rfl rfl rfl ?_
  refine pm_R_lo pm_M175 (pc_q := 7) rfl rfl rfl ?_
  refine rf_R_get pm_M175 T5 (pc_q := 10) (v := .ref 43) rfl rfl rfl rfl ?_
  refine pm_R_op pm_M175 (pc_q := 11) (st_q := [.int 0, .ref 43, .ref 41]) rfl rfl rfl ?_
  have e13 := (F6.cell (by decide) e2)
  refine pm_R_iald pm_M175 (pc_q := 12) (v := (f1 0)) rfl e13 (Nat.lt_of_lt_of_le (by decide) T5.1) rfl rfl rfl ?_
  refine rf_R_put pm_M175 T5 (pc_q := 15) rfl rfl rfl (by decide) rfl rfl (b3 0) rfl rfl (fun h16 m19 em20 T17 F18 => ?_)
  have F21 := F9.trans F18 (by decide)
  have B22 : sf_B 0 600 (m19 11) := by rw [em20]; exact (b3 0)
  have ek23 : (m19 11).toInt = ((f1 0)).toInt := by rw [em20]; rfl
  have W24 : rf_W [0, 10, 11, 12, 13, 14, 16, 17, 18, 21, 22] m m19 := by rw [em20]; exact W12.put (by decide)
  refine pm_R_lo pm_M175 (pc_q := 16) rfl rfl rfl ?_
  refine rf_R_get pm_M175 T17 (pc_q := 19) (v := .ref 43) rfl rfl rfl rfl ?_
  refine pm_R_op pm_M175 (pc_q := 20) (st_q := [.int 0, .ref 43]) rfl rfl rfl ?_
  refine pm_R_op pm_M175 (pc_q := 21) (st_q := [.int 0, .int 0, .ref 43]) rfl rfl rfl ?_
  have e25 := (F18.cell (by decide) e13)
  refine rf_R_ist2 pm_M175 T17 (pc_q := 22) rfl e25 (by decide) (by decide) rfl ⟨_, rfl, sf_upd b3 (sf_weak sf_k0 (by decide) (by decide)) _⟩ rfl (fun h26 T27 F28 e29 => ?_)
  have F30 := F21.trans F28 (by decide)
  refine pm_R_lo pm_M175 (pc_q := 23) rfl rfl rfl ?_
  refine rf_R_get pm_M175 T27 (pc_q := 26) (v := .ref 44) rfl rfl rfl rfl ?_
  refine pm_R_op pm_M175 (pc_q := 27) (st_q := [.int 0, .ref 44]) rfl rfl rfl ?_
  refine pm_R_op pm_M175 (pc_q := 28) (st_q := [.int 0, .int 0, .ref 44]) rfl rfl rfl ?_
  obtain ⟨f31, e32, b33⟩ := T27.2.2.2.1 44 (by decide) (by decide)
  refine rf_R_ist2 pm_M175 T27 (pc_q := 29) rfl e32 (by decide) (by decide) rfl ⟨_, rfl, sf_upd b33 (sf_weak sf_k0 (by decide) (by decide)) _⟩ rfl (fun h34 T35 F36 e37 => ?_)
  have F38 := F30.trans F36 (by decide)
  refine pm_R_lo pm_M175 (pc_q := 30) rfl rfl rfl ?_
  refine rf_R_get pm_M175 T35 (pc_q := 33) (v := .ref 45) rfl rfl rfl rfl ?_
  refine pm_R_op pm_M175 (pc_q := 34) (st_q := [.int 0, .ref 45]) rfl rfl rfl ?_
  refine pm_R_op pm_M175 (pc_q := 35) (st_q := [.int (-1), .int 0, .ref 45]) rfl rfl rfl ?_
  obtain ⟨f39, e40, b41⟩ := T35.2.2.2.1 45 (by decide) (by decide)
  refine rf_R_ist2 pm_M175 T35 (pc_q := 36) rfl e40 (by decide) (by decide) rfl ⟨_, rfl, sf_upd b41 (sf_weak sf_kn1 (by decide) (by decide)) _⟩ rfl (fun h42 T43 F44 e45 => ?_)
  have F46 := F38.trans F44 (by decide)
  refine pm_R_lo pm_M175 (pc_q := 37) rfl rfl rfl ?_
  refine pm_R_op pm_M175 (pc_q := 38) (st_q := [.int 0, .int a0]) rfl rfl rfl ?_
  refine pm_R_op pm_M175 (pc_q := 39) (st_q := [.int 3, .int 0, .int a0]) rfl rfl rfl ?_
  refine pm_R_cs pm_M175 (pc_q := 42) (ra := [.int 3, .int 0, .int a0]) (rest := []) (ls_q := [.int a0, .int 0, .int 3]) rfl rfl (Or.inl rfl) pm_M174 rfl rfl (Nat.le_of_ble_eq_true rfl) rfl rfl ?_
  refine pm_R_lo pm_M174 (pc_q := 1) rfl rfl rfl ?_
  refine pm_R_lo pm_M174 (pc_q := 2) rfl rfl rfl ?_
  refine pm_R_icmp pm_M174 (t := 14) (pc_q := 5) rfl rfl rfl (fun c47 => ?_) (fun c47 => absurd (Int32.not_lt.mp c47) (sf_nle sf_k0 Ba0 (by decide)))
  skip
  refine pm_R_op pm_M174 (pc_q := 15) (st_q := [.int 0]) rfl rfl rfl ?_
  refine pm_R_ret pm_M174 (r := some (.int 0)) rfl rfl ?_
  show pm_R _ 175 42 [.ref 41, .int a0, .int a1, pm_no] [.int 0] _ _
  refine pm_R_br pm_M175 (pc_q := 75) (st_q := []) rfl rfl ?_
  refine pm_R_op pm_M175 (pc_q := 77) (st_q := [.int (-2)]) rfl rfl rfl ?_
  have e48 := (F44.cell (by decide) (F36.cell (by decide) e29))
  exact pm_R_ret pm_M175 (r := some (.int (-2))) rfl rfl (K (-2) m19 w h42 T43 F46 W24 (fun g eg => by rw [e2] at eg; cases eg; exact e48) sf_kn2)

set_option maxRecDepth 100000 in
set_option maxHeartbeats 4000000 in
/-- SilentTableModel.text -/
theorem rf_c175_p {d : Nat} {m : Nat → Int32} {w : Int64} {h : pm_H} {Q : Option Value → pm_H → Prop} {a0 : Int32} {a1 : Int32} (T : rf_T m w h) (Ba0 : sf_B 4 2147483647 a0) (K : ∀ (r : Int32) (m_q : Nat → Int32) (w_q : Int64) (h_q : pm_H), rf_T m_q w_q h_q → rf_G [41, 43, 44, 45] h h_q → rf_W [0, 10, 11, 12, 13, 14, 16, 17, 18, 21, 22] m m_q → (∀ g : Nat → Int32, h.2.2 43 = .inl (0, 4, .inl g) → h_q.2.2 43 = .inl (0, 4, .inl (upd g (Int32.toNatClampNeg 0) 0))) → sf_B (-2) (-2) r → Q (some (.int r)) h_q) : pm_R (d + 7) 175 0 [.ref 41, .int a0, .int a1, pm_no] [] h Q := by
  obtain ⟨f1, e2, b3⟩ := T.2.2.2.1 43 (by decide) (by decide)
  refine pm_R_lo pm_M175 (pc_q := 1) rfl rfl rfl ?_
  refine pm_R_op pm_M175 (pc_q := 2) (st_q := [.int 0, .ref 41]) rfl rfl rfl ?_
  refine rf_R_put pm_M175 T (pc_q := 5) rfl rfl rfl (by decide) rfl rfl sf_k0 rfl rfl (fun h4 m7 em8 T5 F6 => ?_)
  have F9 := (rf_G.refl [41, 43, 44, 45] h).trans F6 (by decide)
  have B10 : sf_B 0 0 (m7 0) := by rw [em8]; exact sf_k0
  have W12 : rf_W [0, 10, 11, 12, 13, 14, 16, 17, 18, 21, 22] m m7 := by rw [em8]; exact (rf_W.refl [0, 10, 11, 12, 13, 14, 16, 17, 18, 21, 22] m).put (by decide)
  refine pm_R_lo pm_M175 (pc_q := 6) rfl rfl rfl ?_
  refine pm_R_lo pm_M175 (pc_q := 7) rfl rfl rfl ?_
  refine rf_R_get pm_M175 T5 (pc_q := 10) (v := .ref 43) rfl rfl rfl rfl ?_
  refine pm_R_op pm_M175 (pc_q := 11) (st_q := [.int 0, .ref 43, .ref 41]) rfl rfl rfl ?_
  have e13 := (F6.cell (by decide) e2)
  refine pm_R_iald pm_M175 (pc_q := 12) (v := (f1 0)) rfl e13 (Nat.lt_of_lt_of_le (by decide) T5.1) rfl rfl rfl ?_
  refine rf_R_put pm_M175 T5 (pc_q := 15) rfl rfl rfl (by decide) rfl rfl (b3 0) rfl rfl (fun h16 m19 em20 T17 F18 => ?_)
  have F21 := F9.trans F18 (by decide)
  have B22 : sf_B 0 600 (m19 11) := by rw [em20]; exact (b3 0)
  have ek23 : (m19 11).toInt = ((f1 0)).toInt := by rw [em20]; rfl
  have W24 : rf_W [0, 10, 11, 12, 13, 14, 16, 17, 18, 21, 22] m m19 := by rw [em20]; exact W12.put (by decide)
  refine pm_R_lo pm_M175 (pc_q := 16) rfl rfl rfl ?_
  refine rf_R_get pm_M175 T17 (pc_q := 19) (v := .ref 43) rfl rfl rfl rfl ?_
  refine pm_R_op pm_M175 (pc_q := 20) (st_q := [.int 0, .ref 43]) rfl rfl rfl ?_
  refine pm_R_op pm_M175 (pc_q := 21) (st_q := [.int 0, .int 0, .ref 43]) rfl rfl rfl ?_
  have e25 := (F18.cell (by decide) e13)
  refine rf_R_ist2 pm_M175 T17 (pc_q := 22) rfl e25 (by decide) (by decide) rfl ⟨_, rfl, sf_upd b3 (sf_weak sf_k0 (by decide) (by decide)) _⟩ rfl (fun h26 T27 F28 e29 => ?_)
  have F30 := F21.trans F28 (by decide)
  refine pm_R_lo pm_M175 (pc_q := 23) rfl rfl rfl ?_
  refine rf_R_get pm_M175 T27 (pc_q := 26) (v := .ref 44) rfl rfl rfl rfl ?_
  refine pm_R_op pm_M175 (pc_q := 27) (st_q := [.int 0, .ref 44]) rfl rfl rfl ?_
  refine pm_R_op pm_M175 (pc_q := 28) (st_q := [.int 0, .int 0, .ref 44]) rfl rfl rfl ?_
  obtain ⟨f31, e32, b33⟩ := T27.2.2.2.1 44 (by decide) (by decide)
  refine rf_R_ist2 pm_M175 T27 (pc_q := 29) rfl e32 (by decide) (by decide) rfl ⟨_, rfl, sf_upd b33 (sf_weak sf_k0 (by decide) (by decide)) _⟩ rfl (fun h34 T35 F36 e37 => ?_)
  have F38 := F30.trans F36 (by decide)
  refine pm_R_lo pm_M175 (pc_q := 30) rfl rfl rfl ?_
  refine rf_R_get pm_M175 T35 (pc_q := 33) (v := .ref 45) rfl rfl rfl rfl ?_
  refine pm_R_op pm_M175 (pc_q := 34) (st_q := [.int 0, .ref 45]) rfl rfl rfl ?_
  refine pm_R_op pm_M175 (pc_q := 35) (st_q := [.int (-1), .int 0, .ref 45]) rfl rfl rfl ?_
  obtain ⟨f39, e40, b41⟩ := T35.2.2.2.1 45 (by decide) (by decide)
  refine rf_R_ist2 pm_M175 T35 (pc_q := 36) rfl e40 (by decide) (by decide) rfl ⟨_, rfl, sf_upd b41 (sf_weak sf_kn1 (by decide) (by decide)) _⟩ rfl (fun h42 T43 F44 e45 => ?_)
  have F46 := F38.trans F44 (by decide)
  refine pm_R_lo pm_M175 (pc_q := 37) rfl rfl rfl ?_
  refine pm_R_op pm_M175 (pc_q := 38) (st_q := [.int 0, .int a0]) rfl rfl rfl ?_
  refine pm_R_op pm_M175 (pc_q := 39) (st_q := [.int 3, .int 0, .int a0]) rfl rfl rfl ?_
  refine pm_R_cs pm_M175 (pc_q := 42) (ra := [.int 3, .int 0, .int a0]) (rest := []) (ls_q := [.int a0, .int 0, .int 3]) rfl rfl (Or.inl rfl) pm_M174 rfl rfl (Nat.le_of_ble_eq_true rfl) rfl rfl ?_
  refine pm_R_lo pm_M174 (pc_q := 1) rfl rfl rfl ?_
  refine pm_R_lo pm_M174 (pc_q := 2) rfl rfl rfl ?_
  refine pm_R_icmp pm_M174 (t := 14) (pc_q := 5) rfl rfl rfl (fun c47 => absurd c47 (sf_nlt Ba0 sf_k0 (by decide))) (fun c47 => ?_)
  skip
  refine pm_R_lo pm_M174 (pc_q := 6) rfl rfl rfl ?_
  refine pm_R_lo pm_M174 (pc_q := 7) rfl rfl rfl ?_
  refine pm_R_icmp pm_M174 (t := 14) (pc_q := 10) rfl rfl rfl (fun c48 => ?_) (fun c48 => absurd (Int32.not_lt.mp c48) (sf_nle Ba0 sf_k3 (by decide)))
  skip
  refine pm_R_op pm_M174 (pc_q := 15) (st_q := [.int 0]) rfl rfl rfl ?_
  refine pm_R_ret pm_M174 (r := some (.int 0)) rfl rfl ?_
  show pm_R _ 175 42 [.ref 41, .int a0, .int a1, pm_no] [.int 0] _ _
  refine pm_R_br pm_M175 (pc_q := 75) (st_q := []) rfl rfl ?_
  refine pm_R_op pm_M175 (pc_q := 77) (st_q := [.int (-2)]) rfl rfl rfl ?_
  have e49 := (F44.cell (by decide) (F36.cell (by decide) e29))
  exact pm_R_ret pm_M175 (r := some (.int (-2))) rfl rfl (K (-2) m19 w h42 T43 F46 W24 (fun g eg => by rw [e2] at eg; cases eg; exact e49) sf_kn2)

set_option maxRecDepth 100000 in
set_option maxHeartbeats 4000000 in
/-- SilentTableModel.image -/
theorem rf_c295 {d : Nat} {m : Nat → Int32} {w : Int64} {h : pm_H} {Q : Option Value → pm_H → Prop} {a0 : Int32} (T : rf_T m w h)  (K : ∀ (r : Int32) (m_q : Nat → Int32) (w_q : Int64) (h_q : pm_H), rf_T m_q w_q h_q → rf_G [41, 42, 43, 44, 45, 46, 47, 48, 49, 50, 71] h h_q → rf_W [0] m m_q → (∀ g q : Nat → Int32, h.2.2 43 = .inl (0, 4, .inl g) → h.2.2 71 = .inl (3, 3, .inl q) → ((r.toInt = 0 ∧ (a0.toInt < 0 ∨ 2 < a0.toInt) ∧ h_q.2.2 43 = .inl (0, 4, .inl g) ∧ h_q.2.2 71 = .inl (3, 3, .inl q)) ∨ (r.toInt = 1 ∧ 0 ≤ a0.toInt ∧ a0.toInt ≤ 2 ∧ ∃ z : Int32, z.toInt = a0.toInt + 1 ∧ h_q.2.2 43 = .inl (0, 4, .inl (upd g (Int32.toNatClampNeg z) (g (Int32.toNatClampNeg 0)))) ∧ h_q.2.2 71 = .inl (3, 3, .inl (upd q (Int32.toNatClampNeg a0) (1 &&& 1)))))) → sf_B 0 1 r → Q (some (.int r)) h_q) : pm_R (d + 2) 295 0 [.ref 41, .int a0] [] h Q := by
  obtain ⟨f1, e2, b3⟩ := T.2.2.2.1 43 (by decide) (by decide)
  obtain ⟨f4, e5⟩ := T.2.2.2.1 71 (by decide) (by decide)
  refine pm_R_lo pm_M295 (pc_q := 1) rfl rfl rfl ?_
  refine pm_R_op pm_M295 (pc_q := 2) (st_q := [.int 0, .ref 41]) rfl rfl rfl ?_
  refine rf_R_put pm_M295 T (pc_q := 5) rfl rfl rfl (by decide) rfl rfl sf_k0 rfl rfl (fun h7 m10 em11 T8 F9 => ?_)
  have F12 := (rf_G.refl [41, 42, 43, 44, 45, 46, 47, 48, 49, 50, 71] h).trans F9 (by decide)
  have B13 : sf_B 0 0 (m10 0) := by rw [em11]; exact sf_k0
  have W15 : rf_W [0] m m10 := by rw [em11]; exact (rf_W.refl [0] m).put (by decide)
  refine pm_R_lo pm_M295 (pc_q := 6) rfl rfl rfl ?_
  refine pm_R_op pm_M295 (pc_q := 7) (st_q := [.int 0, .int a0]) rfl rfl rfl ?_
  refine pm_R_op pm_M295 (pc_q := 8) (st_q := [.int 2, .int 0, .int a0]) rfl rfl rfl ?_
  refine pm_R_cs pm_M295 (pc_q := 11) (ra := [.int 2, .int 0, .int a0]) (rest := []) (ls_q := [.int a0, .int 0, .int 2]) rfl rfl (Or.inl rfl) pm_M174 rfl rfl (Nat.le_of_ble_eq_true rfl) rfl rfl ?_
  refine pm_R_lo pm_M174 (pc_q := 1) rfl rfl rfl ?_
  refine pm_R_lo pm_M174 (pc_q := 2) rfl rfl rfl ?_
  refine pm_R_icmp pm_M174 (t := 14) (pc_q := 5) rfl rfl rfl (fun c16 => ?_) (fun c16 => ?_)
  · have B17 : sf_B (-2147483648) (-1) a0 := sf_ltL c16 (sf_any a0) sf_k0
    refine pm_R_op pm_M174 (pc_q := 15) (st_q := [.int 0]) rfl rfl rfl ?_
    refine pm_R_ret pm_M174 (r := some (.int 0)) rfl rfl ?_
    show pm_R _ 295 11 [.ref 41, .int a0] [.int 0] _ _
    refine pm_R_br pm_M295 (pc_q := 14) (st_q := []) rfl rfl ?_
    refine pm_R_op pm_M295 (pc_q := 15) (st_q := [.int 0]) rfl rfl rfl ?_
    have e18 := (F9.cell (by decide) e2)
    have e19 := (F9.cell (by decide) e5)
    exact pm_R_ret pm_M295 (r := some (.int 0)) rfl rfl (K 0 m10 w h7 T8 F12 W15 (fun g q eg eq => by rw [e2] at eg; rw [e5] at eq; cases eg; cases eq; exact Or.inl ⟨rfl, Or.inl (Int32.lt_iff_toInt_lt.mp c16), e18, e19⟩) (sf_weak sf_k0 (by decide) (by decide)))
  · have B20 : sf_B 0 2147483647 a0 := sf_leR (Int32.not_lt.mp c16) sf_k0 (sf_any a0)
    refine pm_R_lo pm_M174 (pc_q := 6) rfl rfl rfl ?_
    refine pm_R_lo pm_M174 (pc_q := 7) rfl rfl rfl ?_
    refine pm_R_icmp pm_M174 (t := 14) (pc_q := 10) rfl rfl rfl (fun c21 => ?_) (fun c21 => ?_)
    · have B22 : sf_B 3 2147483647 a0 := sf_ltR c21 sf_k2 B20
      refine pm_R_op pm_M174 (pc_q := 15) (st_q := [.int 0]) rfl rfl rfl ?_
      refine pm_R_ret pm_M174 (r := some (.int 0)) rfl rfl ?_
      show pm_R _ 295 11 [.ref 41, .int a0] [.int 0] _ _
      refine pm_R_br pm_M295 (pc_q := 14) (st_q := []) rfl rfl ?_
      refine pm_R_op pm_M295 (pc_q := 15) (st_q := [.int 0]) rfl rfl rfl ?_
      have e23 := (F9.cell (by decide) e2)
      have e24 := (F9.cell (by decide) e5)
      exact pm_R_ret pm_M295 (r := some (.int 0)) rfl rfl (K 0 m10 w h7 T8 F12 W15 (fun g q eg eq => by rw [e2] at eg; rw [e5] at eq; cases eg; cases eq; exact Or.inl ⟨rfl, Or.inr (Int32.lt_iff_toInt_lt.mp c21), e23, e24⟩) (sf_weak sf_k0 (by decide) (by decide)))
    · have B25 : sf_B 0 2 a0 := sf_leL (Int32.not_lt.mp c21) B20 sf_k2
      refine pm_R_op pm_M174 (pc_q := 11) (st_q := [.int 1]) rfl rfl rfl ?_
      refine pm_R_br pm_M174 (pc_q := 15) rfl rfl ?_
      refine pm_R_ret pm_M174 (r := some (.int 1)) rfl rfl ?_
      show pm_R _ 295 11 [.ref 41, .int a0] [.int 1] _ _
      refine pm_R_br pm_M295 (pc_q := 16) (st_q := []) rfl rfl ?_
      refine pm_R_lo pm_M295 (pc_q := 17) rfl rfl rfl ?_
      refine pm_R_op pm_M295 (pc_q := 18) (st_q := [.int 0, .ref 41]) rfl rfl rfl ?_
      refine pm_R_lo pm_M295 (pc_q := 19) rfl rfl rfl ?_
      refine pm_R_op pm_M295 (pc_q := 20) (st_q := [.int 1, .int a0, .int 0, .ref 41]) rfl rfl rfl ?_
      refine sf_R_iadd pm_M295 (pc_q := 21) rfl rfl B25 sf_k1 (by decide) (by decide) (fun z26 e27 B28 => ?_)
      refine pm_R_cv pm_M295 (pc_q := 24) (a := 41) (ra := [.int z26, .int 0]) (rest := []) (ls_q := [.ref 41, .int 0, .int z26, pm_no]) rfl rfl (Or.inl rfl) pm_M296 T8.2.1 rfl (by decide) (Nat.lt_of_lt_of_le (by decide) T8.1) rfl rfl (Nat.le_of_ble_eq_true rfl) rfl rfl ?_
      have e29 := (F9.cell (by decide) e2)
      have e30 := (F9.cell (by decide) e5)
      refine rf_c296 (d := d + 0) T8 (sf_weak sf_k0 (by decide) (by decide)) (sf_weak B28 (by decide) (by decide)) (sf_neT sf_k0 B28 (by decide)) (fun m33 w34 h35 T36 F37 W38 X39 => ?_)
      have F40 := F12.trans F37 (by decide)
      have W41 : rf_W [0] m m33 := W15.trans W38 (by decide)
      show pm_R _ 295 24 [.ref 41, .int a0] [] _ _
      have e42 := X39 _ e29
      refine pm_R_lo pm_M295 (pc_q := 25) rfl rfl rfl ?_
      refine rf_R_get pm_M295 T36 (pc_q := 28) (v := .ref 71) rfl rfl rfl rfl ?_
      refine pm_R_lo pm_M295 (pc_q := 29) rfl rfl rfl ?_
      refine pm_R_op pm_M295 (pc_q := 30) (st_q := [.int 1, .int a0, .ref 71]) rfl rfl rfl ?_
      have e43 := (F37.cell (by decide) e30)
      refine rf_R_zst pm_M295 T36 (pc_q := 31) rfl e43 (sf_in B25 (by decide) (by decide)) rfl (fun h44 T45 F46 e47 => ?_)
      have F48 := F40.trans F46 (by decide)
      refine pm_R_op pm_M295 (pc_q := 32) (st_q := [.int 1]) rfl rfl rfl ?_
      have e49 := (F46.cell (by decide) e42)
      exact pm_R_ret pm_M295 (r := some (.int 1)) rfl rfl (K 1 m33 w34 h44 T45 F48 W41 (fun g q eg eq => by rw [e2] at eg; rw [e5] at eq; cases eg; cases eq; exact Or.inr ⟨rfl, B25.1, B25.2, z26, (sf_aux30 _ _ e27), e49, e47⟩) (sf_weak sf_k1 (by decide) (by decide)))

set_option maxRecDepth 100000 in
set_option maxHeartbeats 4000000 in
/-- SilentTableModel.again -/
theorem rf_c298 {d : Nat} {m : Nat → Int32} {w : Int64} {h : pm_H} {Q : Option Value → pm_H → Prop} {a0 : Int32} (T : rf_T m w h)  (K : ∀ (r : Int32) (m_q : Nat → Int32) (w_q : Int64) (h_q : pm_H), rf_T m_q w_q h_q → rf_G [41, 42, 43, 44, 45, 46, 47, 48, 49, 50] h h_q → rf_W [0] m m_q → (∀ g q : Nat → Int32, h.2.2 43 = .inl (0, 4, .inl g) → h.2.2 71 = .inl (3, 3, .inl q) → ((r.toInt = 0 ∧ (a0.toInt < 0 ∨ 2 < a0.toInt ∨ q (Int32.toNatClampNeg a0) = 0) ∧ h_q.2.2 43 = .inl (0, 4, .inl g) ∧ h_q.2.2 71 = .inl (3, 3, .inl q)) ∨ (r.toInt = 1 ∧ 0 ≤ a0.toInt ∧ a0.toInt ≤ 2 ∧ ¬ q (Int32.toNatClampNeg a0) = 0 ∧ ∃ z : Int32, z.toInt = a0.toInt + 1 ∧ h_q.2.2 43 = .inl (0, 4, .inl (upd g (Int32.toNatClampNeg 0) (g (Int32.toNatClampNeg z)))) ∧ h_q.2.2 71 = .inl (3, 3, .inl q)))) → sf_B 0 1 r → Q (some (.int r)) h_q) : pm_R (d + 2) 298 0 [.ref 41, .int a0] [] h Q := by
  obtain ⟨f1, e2, b3⟩ := T.2.2.2.1 43 (by decide) (by decide)
  obtain ⟨f4, e5⟩ := T.2.2.2.1 71 (by decide) (by decide)
  refine pm_R_lo pm_M298 (pc_q := 1) rfl rfl rfl ?_
  refine pm_R_op pm_M298 (pc_q := 2) (st_q := [.int 0, .ref 41]) rfl rfl rfl ?_
  refine rf_R_put pm_M298 T (pc_q := 5) rfl rfl rfl (by decide) rfl rfl sf_k0 rfl rfl (fun h7 m10 em11 T8 F9 => ?_)
  have F12 := (rf_G.refl [41, 42, 43, 44, 45, 46, 47, 48, 49, 50] h).trans F9 (by decide)
  have B13 : sf_B 0 0 (m10 0) := by rw [em11]; exact sf_k0
  have W15 : rf_W [0] m m10 := by rw [em11]; exact (rf_W.refl [0] m).put (by decide)
  refine pm_R_lo pm_M298 (pc_q := 6) rfl rfl rfl ?_
  refine pm_R_op pm_M298 (pc_q := 7) (st_q := [.int 0, .int a0]) rfl rfl rfl ?_
  refine pm_R_op pm_M298 (pc_q := 8) (st_q := [.int 2, .int 0, .int a0]) rfl rfl rfl ?_
  refine pm_R_cs pm_M298 (pc_q := 11) (ra := [.int 2, .int 0, .int a0]) (rest := []) (ls_q := [.int a0, .int 0, .int 2]) rfl rfl (Or.inl rfl) pm_M174 rfl rfl (Nat.le_of_ble_eq_true rfl) rfl rfl ?_
  refine pm_R_lo pm_M174 (pc_q := 1) rfl rfl rfl ?_
  refine pm_R_lo pm_M174 (pc_q := 2) rfl rfl rfl ?_
  refine pm_R_icmp pm_M174 (t := 14) (pc_q := 5) rfl rfl rfl (fun c16 => ?_) (fun c16 => ?_)
  · have B17 : sf_B (-2147483648) (-1) a0 := sf_ltL c16 (sf_any a0) sf_k0
    refine pm_R_op pm_M174 (pc_q := 15) (st_q := [.int 0]) rfl rfl rfl ?_
    refine pm_R_ret pm_M174 (r := some (.int 0)) rfl rfl ?_
    show pm_R _ 298 11 [.ref 41, .int a0] [.int 0] _ _
    refine pm_R_br pm_M298 (pc_q := 23) (st_q := []) rfl rfl ?_
    refine pm_R_op pm_M298 (pc_q := 24) (st_q := [.int 0]) rfl rfl rfl ?_
    have e18 := (F9.cell (by decide) e2)
    have e19 := (F9.cell (by decide) e5)
    exact pm_R_ret pm_M298 (r := some (.int 0)) rfl rfl (K 0 m10 w h7 T8 F12 W15 (fun g q eg eq => by rw [e2] at eg; rw [e5] at eq; cases eg; cases eq; exact Or.inl ⟨rfl, Or.inl (Int32.lt_iff_toInt_lt.mp c16), e18, e19⟩) (sf_weak sf_k0 (by decide) (by decide)))
  · have B20 : sf_B 0 2147483647 a0 := sf_leR (Int32.not_lt.mp c16) sf_k0 (sf_any a0)
    refine pm_R_lo pm_M174 (pc_q := 6) rfl rfl rfl ?_
    refine pm_R_lo pm_M174 (pc_q := 7) rfl rfl rfl ?_
    refine pm_R_icmp pm_M174 (t := 14) (pc_q := 10) rfl rfl rfl (fun c21 => ?_) (fun c21 => ?_)
    · have B22 : sf_B 3 2147483647 a0 := sf_ltR c21 sf_k2 B20
      refine pm_R_op pm_M174 (pc_q := 15) (st_q := [.int 0]) rfl rfl rfl ?_
      refine pm_R_ret pm_M174 (r := some (.int 0)) rfl rfl ?_
      show pm_R _ 298 11 [.ref 41, .int a0] [.int 0] _ _
      refine pm_R_br pm_M298 (pc_q := 23) (st_q := []) rfl rfl ?_
      refine pm_R_op pm_M298 (pc_q := 24) (st_q := [.int 0]) rfl rfl rfl ?_
      have e23 := (F9.cell (by decide) e2)
      have e24 := (F9.cell (by decide) e5)
      exact pm_R_ret pm_M298 (r := some (.int 0)) rfl rfl (K 0 m10 w h7 T8 F12 W15 (fun g q eg eq => by rw [e2] at eg; rw [e5] at eq; cases eg; cases eq; exact Or.inl ⟨rfl, Or.inr (Or.inl (Int32.lt_iff_toInt_lt.mp c21)), e23, e24⟩) (sf_weak sf_k0 (by decide) (by decide)))
    · have B25 : sf_B 0 2 a0 := sf_leL (Int32.not_lt.mp c21) B20 sf_k2
      refine pm_R_op pm_M174 (pc_q := 11) (st_q := [.int 1]) rfl rfl rfl ?_
      refine pm_R_br pm_M174 (pc_q := 15) rfl rfl ?_
      refine pm_R_ret pm_M174 (r := some (.int 1)) rfl rfl ?_
      show pm_R _ 298 11 [.ref 41, .int a0] [.int 1] _ _
      refine pm_R_br pm_M298 (pc_q := 14) (st_q := []) rfl rfl ?_
      refine pm_R_lo pm_M298 (pc_q := 15) rfl rfl rfl ?_
      refine rf_R_get pm_M298 T8 (pc_q := 18) (v := .ref 71) rfl rfl rfl rfl ?_
      refine pm_R_lo pm_M298 (pc_q := 19) rfl rfl rfl ?_
      have e26 := (F9.cell (by decide) e5)
      refine rf_R_bld pm_M298 T8 (pc_q := 20) rfl e26 (Or.inr rfl) (by decide) (by decide) (sf_in B25 (by decide) (by decide)) rfl (fun z27 ez28 => ?_)
      refine pm_R_ifc pm_M298 (t := 25) (pc_q := 23) rfl rfl rfl (fun c29 => ?_) (fun c29 => ?_)
      · skip
        refine pm_R_lo pm_M298 (pc_q := 26) rfl rfl rfl ?_
        refine pm_R_lo pm_M298 (pc_q := 27) rfl rfl rfl ?_
        refine pm_R_op pm_M298 (pc_q := 28) (st_q := [.int 1, .int a0, .ref 41]) rfl rfl rfl ?_
        refine sf_R_iadd pm_M298 (pc_q := 29) rfl rfl B25 sf_k1 (by decide) (by decide) (fun z30 e31 B32 => ?_)
        refine pm_R_op pm_M298 (pc_q := 30) (st_q := [.int 0, .int z30, .ref 41]) rfl rfl rfl ?_
        refine pm_R_cv pm_M298 (pc_q := 33) (a := 41) (ra := [.int 0, .int z30]) (rest := []) (ls_q := [.ref 41, .int z30, .int 0, pm_no]) rfl rfl (Or.inl rfl) pm_M296 T8.2.1 rfl (by decide) (Nat.lt_of_lt_of_le (by decide) T8.1) rfl rfl (Nat.le_of_ble_eq_true rfl) rfl rfl ?_
        have e33 := (F9.cell (by decide) e2)
        refine rf_c296 (d := d + 0) T8 (sf_weak B32 (by decide) (by decide)) (sf_weak sf_k0 (by decide) (by decide)) (sf_neT B32 sf_k0 (by decide)) (fun m36 w37 h38 T39 F40 W41 X42 => ?_)
        have F43 := F12.trans F40 (by decide)
        have W44 : rf_W [0] m m36 := W15.trans W41 (by decide)
        show pm_R _ 298 33 [.ref 41, .int a0] [] _ _
        have e45 := X42 _ e33
        refine pm_R_op pm_M298 (pc_q := 34) (st_q := [.int 1]) rfl rfl rfl ?_
        have e46 := (F40.cell (by decide) e26)
        exact pm_R_ret pm_M298 (r := some (.int 1)) rfl rfl (K 1 m36 w37 h38 T39 F43 W44 (fun g q eg eq => by rw [e2] at eg; rw [e5] at eq; cases eg; cases eq; exact Or.inr ⟨rfl, B25.1, B25.2, (fun z => c29 (ez28.symm.trans z)), z30, (sf_aux30 _ _ e31), e45, e46⟩) (sf_weak sf_k1 (by decide) (by decide)))
      · have B47 : sf_B 0 0 z27 := sf_eqL (Classical.not_not.mp c29) sf_k0
        refine pm_R_op pm_M298 (pc_q := 24) (st_q := [.int 0]) rfl rfl rfl ?_
        have e48 := (F9.cell (by decide) e2)
        exact pm_R_ret pm_M298 (r := some (.int 0)) rfl rfl (K 0 m10 w h7 T8 F12 W15 (fun g q eg eq => by rw [e2] at eg; rw [e5] at eq; cases eg; cases eq; exact Or.inl ⟨rfl, Or.inr (Or.inr (ez28.trans (Classical.not_not.mp c29))), e48, e26⟩) (sf_weak sf_k0 (by decide) (by decide)))
