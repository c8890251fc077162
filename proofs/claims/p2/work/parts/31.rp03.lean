theorem sf_aux126 (v0 v1 v2 v3 : Int) (q0 : v0 = 1 * v1) (q1 : v2 = 1 + v0) (q2 : v3 = v2 + 0) : v3 = 1 + 1 * v1 + 0 := by omega
theorem sf_aux127 (v0 v1 v2 v3 : Int) (q0 : v0 = v1) (q1 : v2 ≤ v1) (q2 : v0 ≤ v3) : v1 ≤ v0 := by omega
theorem sf_aux128 (v0 v1 v2 : Int) (q0 : v0 ≤ v1) (q1 : v1 ≤ v2) : v1 ≤ v1 := by omega
set_option maxRecDepth 100000 in
set_option maxHeartbeats 4000000 in
/-- SilentTableModel.rowText -/
theorem rf_c181 {d : Nat} {m : Nat → Int32} {w : Int64} {h : pm_H} {Q : Option Value → pm_H → Prop}  (T : rf_T m w h) (X : rf_I 1 (m 17) h) (K0 : ∀ (m' : Nat → Int32) (w' : Int64) (h' : pm_H), rf_T m' w' h' → rf_G [41, 51, 52] h h' → rf_W [10, 12, 13, 14, 16, 17, 18, 22] m m' → (m 10).toInt ≤ (m' 10).toInt → Q (some (.int 0)) h') (K1 : ∀ (m' : Nat → Int32) (w' : Int64) (h' : pm_H), rf_T m' w' h' → rf_G [41, 51, 52] h h' → rf_W [10, 12, 13, 14, 16, 17, 18, 22] m m' → rf_I 1 (m' 17) h' → (m 10).toInt ≤ (m' 10).toInt → Q (some (.int 1)) h') : pm_R (d + 3) 181 0 [.ref 41] [] h Q := by
  have B1 : sf_B 0 600 (m 10) := T.2.2.1 10
  obtain ⟨f2, e3, ct4, bd5⟩ := X
  have B6 : sf_B 0 4 (m 17) := T.2.2.1 17
  have L_284 : ∀ (N : Nat) (h_284 : pm_H) (m_284 : Nat → Int32) (w_284 : Int64), rf_T m_284 w_284 h_284 → rf_G [41, 51, 52] h h_284 → rf_W [10, 12, 13, 14, 16, 17, 18, 22] m m_284 → rf_I 1 (m_284 17) h_284 ∧ (m 10).toInt ≤ (m_284 10).toInt → ((600 - (m_284 10).toInt).toNat + (if (m_284 13).toInt = 0 then 0 else 1)) = N → pm_R (d + 3) 181 0 [.ref 41] [] h_284 Q := by
    intro N
    induction N using Nat.strongRecOn with
    | ind N ih_284 =>
      intro h_284 m_284 w_284 T_284 F_284 W_284 X_284 hN_284
      have W287 : rf_W [10, 12, 13, 14, 16, 17, 18, 22] m m_284 := (rf_W.refl [10, 12, 13, 14, 16, 17, 18, 22] m).trans W_284 (by decide)
      obtain ⟨f288, e289, ct290, bd291⟩ := X_284.1
      have B292 : sf_B 0 4 (m_284 17) := T_284.2.2.1 17
      have B293 : sf_B 0 600 (m_284 10) := T_284.2.2.1 10
      refine pm_R_lo pm_M181 (pc' := 1) rfl rfl rfl ?_
      have B294 : sf_B 0 4 (m_284 13) := T_284.2.2.1 13
      refine rf_R_get pm_M181 T_284 (pc' := 4) (v := .int (m_284 13)) rfl rfl rfl rfl ?_
      refine pm_R_ifc pm_M181 (t := 61) (pc' := 7) rfl rfl rfl (fun c295 => ?_) (fun c295 => ?_)
      · have B296 : sf_B 0 0 (m_284 13) := sf_eqL c295 sf_k0
        refine pm_R_op pm_M181 (pc' := 62) (st' := [.int 1]) rfl rfl rfl ?_
        exact pm_R_ret pm_M181 (r := some (.int 1)) rfl rfl (K1 m_284 w_284 h_284 T_284 F_284 W287 (⟨f288, e289, ct290, fun z => (bd291 z)⟩) (sf_aux52 _ _ X_284.2))
      · have B297 : sf_B 1 4 (m_284 13) := sf_neL0 c295 sf_k0 B294
        refine pm_R_lo pm_M181 (pc' := 8) rfl rfl rfl ?_
        refine rf_R_get pm_M181 T_284 (pc' := 11) (v := .int (m_284 13)) rfl rfl rfl rfl ?_
        refine pm_R_op pm_M181 (pc' := 12) (st' := [.int 3, .int (m_284 13)]) rfl rfl rfl ?_
        refine pm_R_icmp pm_M181 (t := 35) (pc' := 15) rfl rfl rfl (fun c298 => ?_) (fun c298 => ?_)
        · skip
          refine pm_R_lo pm_M181 (pc' := 36) rfl rfl rfl ?_
          refine pm_R_op pm_M181 (pc' := 37) (st' := [.int 0, .ref 41]) rfl rfl rfl ?_
          refine pm_R_op pm_M181 (pc' := 39) (st' := [.int 9, .int 0, .ref 41]) rfl rfl rfl ?_
          refine pm_R_op pm_M181 (pc' := 40) (st' := [.int (-1), .int 9, .int 0, .ref 41]) rfl rfl rfl ?_
          refine pm_R_cv pm_M181 (pc' := 43) (a := 41) (ra := [.int (-1), .int 9, .int 0]) (rest := []) (ls' := [.ref 41, .int 0, .int 9, .int (-1)]) rfl rfl (Or.inl rfl) pm_M183 T_284.2.1 rfl (by decide) (Nat.lt_of_lt_of_le (by decide) T_284.1) rfl rfl (Nat.le_of_ble_eq_true rfl) rfl rfl ?_
          refine pm_R_lo pm_M183 (pc' := 1) rfl rfl rfl ?_
          refine rf_R_get pm_M183 T_284 (pc' := 4) (v := .int (m_284 13)) rfl rfl rfl rfl ?_
          refine pm_R_op pm_M183 (pc' := 5) (st' := [.int 3, .int (m_284 13)]) rfl rfl rfl ?_
          refine pm_R_icmp pm_M183 (t := 13) (pc' := 8) rfl rfl rfl (fun c299 => absurd c299 c298) (fun c299 => ?_)
          skip
          refine pm_R_lo pm_M183 (pc' := 9) rfl rfl rfl ?_
          refine pm_R_cv pm_M183 (pc' := 12) (a := 41) (ra := []) (rest := []) (ls' := [.ref 41]) rfl rfl (Or.inl rfl) pm_M184 T_284.2.1 rfl (by decide) (Nat.lt_of_lt_of_le (by decide) T_284.1) rfl rfl (Nat.le_of_ble_eq_true rfl) rfl rfl ?_
          refine pm_R_lo pm_M184 (pc' := 1) rfl rfl rfl ?_
          refine pm_R_lo pm_M184 (pc' := 2) rfl rfl rfl ?_
          have B300 : sf_B 0 600 (m_284 12) := T_284.2.2.1 12
          refine rf_R_get pm_M184 T_284 (pc' := 5) (v := .int (m_284 12)) rfl rfl rfl rfl ?_
          refine rf_R_put pm_M184 T_284 (pc' := 8) rfl rfl rfl (by decide) rfl rfl B300 rfl rfl (fun h301 m304 em305 T302 F303 => ?_)
          have F306 := F_284.trans F303 (by decide)
          have B307 : sf_B 0 4 (m304 17) := by rw [em305]; exact B292
          have ek308 : (m304 17).toInt = ((m_284 17)).toInt := by rw [em305]; rfl
          have B309 : sf_B 0 600 (m304 10) := by rw [em305]; exact B293
          have ek310 : (m304 10).toInt = ((m_284 10)).toInt := by rw [em305]; rfl
          have B311 : sf_B 1 4 (m304 13) := by rw [em305]; exact B297
          have B312 : sf_B 0 600 (m304 16) := by rw [em305]; exact B300
          have ek313 : (m304 16).toInt = ((m_284 12)).toInt := by rw [em305]; rfl
          have W314 : rf_W [10, 12, 13, 14, 16, 17, 18, 22] m m304 := by rw [em305]; exact W287.put (by decide)
          have W315 : rf_W [10, 12, 13, 14, 16, 17, 18, 22] m m304 := by rw [em305]; exact W_284.put (by decide)
          refine pm_R_op pm_M184 (pc' := 9) (st' := [.int 0]) rfl rfl rfl ?_
          refine pm_R_ret pm_M184 (r := some (.int 0)) rfl rfl ?_
          show pm_R _ 183 12 [.ref 41, .int 0, .int 9, .int (-1)] [.int 0] _ _
          refine pm_R_ret pm_M183 (r := some (.int 0)) rfl rfl ?_
          show pm_R _ 181 43 [.ref 41] [.int 0] _ _
          refine pm_R_br pm_M181 (pc' := 46) (st' := []) rfl rfl ?_
          refine pm_R_op pm_M181 (pc' := 47) (st' := [.int 0]) rfl rfl rfl ?_
          exact pm_R_ret pm_M181 (r := some (.int 0)) rfl rfl (K0 m304 w_284 h301 T302 F306 W314 (sf_aux39 _ _ _ ek310 X_284.2))
        · have B316 : sf_B 3 3 (m_284 13) := sf_eqL (Classical.not_not.mp c298) sf_k3
          refine pm_R_lo pm_M181 (pc' := 16) rfl rfl rfl ?_
          refine rf_R_get pm_M181 T_284 (pc' := 19) (v := .ref 51) rfl rfl rfl rfl ?_
          refine pm_R_op pm_M181 (pc' := 20) (st' := [.int 0, .ref 51]) rfl rfl rfl ?_
          refine pm_R_iald pm_M181 (pc' := 21) (v := (f288 0)) rfl e289 (Nat.lt_of_lt_of_le (by decide) T_284.1) rfl rfl rfl ?_
          refine pm_R_op pm_M181 (pc' := 23) (st' := [.int 12, .int (f288 0)]) rfl rfl rfl ?_
          refine pm_R_icmp pm_M181 (t := 35) (pc' := 26) rfl rfl rfl (fun c319 => ?_) (fun c319 => ?_)
          · have B320 : sf_B 0 11 (f288 0) := sf_neH0 c319 sf_k12 ct290
            refine pm_R_lo pm_M181 (pc' := 36) rfl rfl rfl ?_
            refine pm_R_op pm_M181 (pc' := 37) (st' := [.int 0, .ref 41]) rfl rfl rfl ?_
            refine pm_R_op pm_M181 (pc' := 39) (st' := [.int 9, .int 0, .ref 41]) rfl rfl rfl ?_
            refine pm_R_op pm_M181 (pc' := 40) (st' := [.int (-1), .int 9, .int 0, .ref 41]) rfl rfl rfl ?_
            refine pm_R_cv pm_M181 (pc' := 43) (a := 41) (ra := [.int (-1), .int 9, .int 0]) (rest := []) (ls' := [.ref 41, .int 0, .int 9, .int (-1)]) rfl rfl (Or.inl rfl) pm_M183 T_284.2.1 rfl (by decide) (Nat.lt_of_lt_of_le (by decide) T_284.1) rfl rfl (Nat.le_of_ble_eq_true rfl) rfl rfl ?_
            refine pm_R_lo pm_M183 (pc' := 1) rfl rfl rfl ?_
            refine rf_R_get pm_M183 T_284 (pc' := 4) (v := .int (m_284 13)) rfl rfl rfl rfl ?_
            refine pm_R_op pm_M183 (pc' := 5) (st' := [.int 3, .int (m_284 13)]) rfl rfl rfl ?_
            refine pm_R_icmp pm_M183 (t := 13) (pc' := 8) rfl rfl rfl (fun c321 => ?_) (fun c321 => absurd (sf_pt2 B316 sf_k3) c321)
            refine pm_R_lo pm_M183 (pc' := 14) rfl rfl rfl ?_
            refine rf_R_get pm_M183 T_284 (pc' := 17) (v := .ref 52) rfl rfl rfl rfl ?_
            refine pm_R_lo pm_M183 (pc' := 18) rfl rfl rfl ?_
            refine pm_R_lo pm_M183 (pc' := 19) rfl rfl rfl ?_
            have B322 : sf_B 0 99 (m_284 14) := T_284.2.2.1 14
            refine rf_R_get pm_M183 T_284 (pc' := 22) (v := .int (m_284 14)) rfl rfl rfl rfl ?_
            obtain ⟨f323, e324, b325⟩ := T_284.2.2.2.1 52 (by decide) (by decide)
            refine rf_R_ist pm_M183 T_284 (pc' := 23) rfl e324 (by decide) (by decide) rfl ⟨_, rfl, sf_upd b325 (sf_weak B322 (by decide) (by decide)) _⟩ rfl (fun h326 T327 F328 e329 => ?_)
            have F330 := F_284.trans F328 (by decide)
            refine pm_R_lo pm_M183 (pc' := 24) rfl rfl rfl ?_
            refine rf_R_get pm_M183 T327 (pc' := 27) (v := .int (m_284 14)) rfl rfl rfl rfl ?_
            refine pm_R_lo pm_M183 (pc' := 28) rfl rfl rfl ?_
            refine pm_R_icmp pm_M183 (t := 39) (pc' := 31) rfl rfl rfl (fun c331 => ?_) (fun c331 => ?_)
            · have B332 : sf_B 10 99 (m_284 14) := sf_ltR c331 sf_k9 B322
              refine pm_R_lo pm_M183 (pc' := 40) rfl rfl rfl ?_
              refine pm_R_op pm_M183 (pc' := 41) (st' := [.int 2, .ref 41]) rfl rfl rfl ?_
              refine pm_R_lo pm_M183 (pc' := 42) rfl rfl rfl ?_
              have B333 : sf_B 0 600 (m_284 12) := T327.2.2.1 12
              refine rf_R_get pm_M183 T327 (pc' := 45) (v := .int (m_284 12)) rfl rfl rfl rfl ?_
              refine pm_R_cv pm_M183 (pc' := 48) (a := 41) (ra := [.int (m_284 12), .int 2]) (rest := []) (ls' := [.ref 41, .int 2, .int (m_284 12)]) rfl rfl (Or.inl rfl) pm_M182 T327.2.1 rfl (by decide) (Nat.lt_of_lt_of_le (by decide) T327.1) rfl rfl (Nat.le_of_ble_eq_true rfl) rfl rfl ?_
              refine rf_c182 (d := d + 1) T327 (sf_weak sf_k2 (by decide) (by decide)) B333 (fun m336 w337 h338 T339 F340 W341 B342 => ?_)
              have F343 := F330.trans F340 (by decide)
              have B344 : sf_B 0 600 (m336 10) := by rw [W341 10 (by decide)]; exact B293
              have ek345 : (m336 10).toInt = ((m_284 10)).toInt := by rw [W341 10 (by decide)]
              have B346 : sf_B 3 3 (m336 13) := by rw [W341 13 (by decide)]; exact B316
              have B347 : sf_B 10 99 (m336 14) := by rw [W341 14 (by decide)]; exact B332
              have W348 : rf_W [10, 12, 13, 14, 16, 17, 18, 22] m m336 := W287.trans W341 (by decide)
              have W349 : rf_W [10, 12, 13, 14, 16, 17, 18, 22] m m336 := W_284.trans W341 (by decide)
              show pm_R _ 183 48 [.ref 41, .int 0, .int 9, .int (-1)] [] _ _
              refine pm_R_lo pm_M183 (pc' := 49) rfl rfl rfl ?_
              refine pm_R_op pm_M183 (pc' := 50) (st' := [.int 0, .ref 41]) rfl rfl rfl ?_
              refine rf_R_put pm_M183 T339 (pc' := 53) rfl rfl rfl (by decide) rfl rfl (sf_weak sf_k0 (by decide) (by decide)) rfl rfl (fun h350 m353 em354 T351 F352 => ?_)
              have F355 := F343.trans F352 (by decide)
              have B356 : sf_B 0 600 (m353 10) := by rw [em354]; exact B344
              have ek357 : (m353 10).toInt = ((m_284 10)).toInt := by rw [em354]; exact ek345
              have B358 : sf_B 3 3 (m353 13) := by rw [em354]; exact B346
              have B359 : sf_B 10 99 (m353 14) := by rw [em354]; exact B347
              have B360 : sf_B 1 4 (m353 17) := by rw [em354]; exact B342
              have ek361 : (m353 17).toInt = ((m336 17)).toInt := by rw [em354]; rfl
              have B362 : sf_B 0 0 (m353 22) := by rw [em354]; exact sf_k0
              have W364 : rf_W [10, 12, 13, 14, 16, 17, 18, 22] m m353 := by rw [em354]; exact W348.put (by decide)
              have W365 : rf_W [10, 12, 13, 14, 16, 17, 18, 22] m m353 := by rw [em354]; exact W349.put (by decide)
              refine pm_R_lo pm_M183 (pc' := 54) rfl rfl rfl ?_
              refine pm_R_cv pm_M183 (pc' := 57) (a := 41) (ra := []) (rest := []) (ls' := [.ref 41, pm_no, pm_no]) rfl rfl (Or.inl rfl) pm_M179 T351.2.1 rfl (by decide) (Nat.lt_of_lt_of_le (by decide) T351.1) rfl rfl (Nat.le_of_ble_eq_true rfl) rfl rfl ?_
              refine rf_c179 (d := d + 0) T351  (fun m368 w369 h370 T371 F372 W373 X374 X375 => ?_)
              have F376 := F355.trans F372 (by decide)
              have B377 : sf_B 1 4 (m368 17) := by rw [W373 17 (by decide)]; exact B360
              have ek378 : (m368 17).toInt = ((m336 17)).toInt := by rw [W373 17 (by decide)]; exact ek361
              have B379 : sf_B 0 0 (m368 22) := by rw [W373 22 (by decide)]; exact B362
              have W380 : rf_W [10, 12, 13, 14, 16, 17, 18, 22] m m368 := W364.trans W373 (by decide)
              have W381 : rf_W [10, 12, 13, 14, 16, 17, 18, 22] m m368 := W365.trans W373 (by decide)
              show pm_R _ 183 57 [.ref 41, .int 0, .int 9, .int (-1)] [] _ _
              refine pm_R_op pm_M183 (pc' := 58) (st' := [.int 1]) rfl rfl rfl ?_
              refine pm_R_ret pm_M183 (r := some (.int 1)) rfl rfl ?_
              show pm_R _ 181 43 [.ref 41] [.int 1] _ _
              refine pm_R_br pm_M181 (pc' := 48) (st' := []) rfl rfl ?_
              refine pm_R_lo pm_M181 (pc' := 49) rfl rfl rfl ?_
              refine pm_R_op pm_M181 (pc' := 50) (st' := [.int 0, .ref 41]) rfl rfl rfl ?_
              refine pm_R_op pm_M181 (pc' := 51) (st' := [.int 1, .int 0, .ref 41]) rfl rfl rfl ?_
              refine pm_R_op pm_M181 (pc' := 52) (st' := [.int 1, .int 1, .int 0, .ref 41]) rfl rfl rfl ?_
              refine pm_R_op pm_M181 (pc' := 54) (st' := [.int 12, .int 1, .int 1, .int 0, .ref 41]) rfl rfl rfl ?_
              refine pm_R_op pm_M181 (pc' := 55) (st' := [.int 0, .int 12, .int 1, .int 1, .int 0, .ref 41]) rfl rfl rfl ?_
              refine pm_R_cv pm_M181 (pc' := 58) (a := 41) (ra := [.int 0, .int 12, .int 1, .int 1, .int 0]) (rest := []) (ls' := [.ref 41, .int 0, .int 1, .int 1, .int 12, .int 0, pm_no, pm_no]) rfl rfl (Or.inl rfl) pm_M185 T371.2.1 rfl (by decide) (Nat.lt_of_lt_of_le (by decide) T371.1) rfl rfl (Nat.le_of_ble_eq_true rfl) rfl rfl ?_
              refine pm_R_lo pm_M185 (pc' := 1) rfl rfl rfl ?_
              refine rf_R_get pm_M185 T371 (pc' := 4) (v := .ref 51) rfl rfl rfl rfl ?_
              refine pm_R_lo pm_M185 (pc' := 5) rfl rfl rfl ?_
              have e382 := (F372.cell (by decide) (F352.cell (by decide) (F340.cell (by decide) (F328.cell (by decide) e289))))
              refine pm_R_iald pm_M185 (pc' := 6) (v := (f288 0)) rfl e382 (Nat.lt_of_lt_of_le (by decide) T371.1) rfl rfl rfl ?_
              refine pm_R_lo pm_M185 (pc' := 8) (ls' := [.ref 41, .int 0, .int 1, .int 1, .int 12, .int 0, .int (f288 0), pm_no]) (st' := []) rfl rfl rfl ?_
              refine pm_R_lo pm_M185 (pc' := 10) rfl rfl rfl ?_
              refine pm_R_lo pm_M185 (pc' := 12) rfl rfl rfl ?_
              refine pm_R_icmp pm_M185 (t := 16) (pc' := 15) rfl rfl rfl (fun c385 => ?_) (fun c385 => absurd (Classical.not_not.mp c385) (sf_neq2 B320 sf_k12 (by decide)))
              skip
              refine pm_R_op pm_M185 (pc' := 17) (st' := [.int 0]) rfl rfl rfl ?_
              refine pm_R_lo pm_M185 (pc' := 19) (ls' := [.ref 41, .int 0, .int 1, .int 1, .int 12, .int 0, .int (f288 0), .int 0]) (st' := []) rfl rfl rfl ?_
              refine pm_R_lo pm_M185 (pc' := 21) rfl rfl rfl ?_
              refine pm_R_lo pm_M185 (pc' := 22) rfl rfl rfl ?_
              refine pm_R_br pm_M185 (pc' := 25) (st' := []) rfl rfl ?_
              refine pm_R_lo pm_M185 (pc' := 26) rfl rfl rfl ?_
              refine rf_R_get pm_M185 T371 (pc' := 29) (v := .ref 51) rfl rfl rfl rfl ?_
              refine pm_R_lo pm_M185 (pc' := 30) rfl rfl rfl ?_
              refine pm_R_lo pm_M185 (pc' := 31) rfl rfl rfl ?_
              refine pm_R_lo pm_M185 (pc' := 33) rfl rfl rfl ?_
              refine sf_R_imul pm_M185 (pc' := 34) rfl rfl sf_k1 B320 (by decide) (by decide) (by decide) (fun z386 e387 B388 => ?_)
              refine sf_R_iadd pm_M185 (pc' := 35) rfl rfl sf_k1 B388 (by decide) (by decide) (fun z389 e390 B391 => ?_)
              refine pm_R_lo pm_M185 (pc' := 37) rfl rfl rfl ?_
              refine sf_R_iadd pm_M185 (pc' := 38) rfl rfl B391 sf_k0 (by decide) (by decide) (fun z392 e393 B394 => ?_)
              refine pm_R_lo pm_M185 (pc' := 39) rfl rfl rfl ?_
              refine rf_R_get pm_M185 T371 (pc' := 42) (v := .ref 52) rfl rfl rfl rfl ?_
              refine pm_R_lo pm_M185 (pc' := 44) rfl rfl rfl ?_
              refine pm_R_lo pm_M185 (pc' := 46) rfl rfl rfl ?_
              refine pm_R_op pm_M185 (pc' := 47) (st' := [.int 0, .ref 52, .int z392, .ref 51]) rfl rfl rfl ?_
              have e395 := (F372.cell (by decide) (F352.cell (by decide) (F340.cell (by decide) e329)))
              refine pm_R_iald pm_M185 (pc' := 48) (v := (m_284 14)) rfl e395 (Nat.lt_of_lt_of_le (by decide) T371.1) rfl rfl rfl ?_
              refine rf_R_ist pm_M185 T371 (pc' := 49) rfl e382 (by decide) (by decide) (sf_in B394 (by decide) (by decide)) ⟨_, rfl⟩ rfl (fun h398 T399 F400 e401 => ?_)
              have F402 := F376.trans F400 (by decide)
              have ct403 : rf_ct 1 (upd f288 (Int32.toNatClampNeg z392) (m_284 14)) := (sf_eqL (Eq.trans (sf_upd_ne (j := Int32.toNatClampNeg 0) B394 (by decide) (by decide)) rfl) (sf_weak B320 (by decide) (by decide)))
              have bd404 : (m368 17).toInt = 0 → rf_bd 1 (upd f288 (Int32.toNatClampNeg z392) (m_284 14)) := fun z => (sf_pos B377 (by decide) z)
              refine pm_R_lo pm_M185 (pc' := 52) (ls' := [.ref 41, .int 0, .int 1, .int 1, .int 12, .int 0, .int (f288 0), .int 1]) (st' := []) rfl rfl rfl ?_
              refine pm_R_br pm_M185 (pc' := 19) rfl rfl ?_
              refine pm_R_lo pm_M185 (pc' := 21) rfl rfl rfl ?_
              refine pm_R_lo pm_M185 (pc' := 22) rfl rfl rfl ?_
              refine pm_R_br pm_M185 (pc' := 55) (st' := []) rfl rfl ?_
              refine pm_R_lo pm_M185 (pc' := 56) rfl rfl rfl ?_
              refine rf_R_get pm_M185 T399 (pc' := 59) (v := .ref 51) rfl rfl rfl rfl ?_
              refine pm_R_lo pm_M185 (pc' := 60) rfl rfl rfl ?_
              refine pm_R_op pm_M185 (pc' := 61) (st' := [.int 0, .ref 51, .int 0, .ref 51]) rfl rfl rfl ?_
              refine pm_R_iald pm_M185 (pc' := 62) (v := (f288 0)) rfl e401 (Nat.lt_of_lt_of_le (by decide) T399.1) rfl (Eq.trans (sf_upd_ne (j := Int32.toNatClampNeg 0) B394 (by decide) (by decide)) rfl) rfl ?_
              refine pm_R_op pm_M185 (pc' := 63) (st' := [.int 1, .int (f288 0), .int 0, .ref 51]) rfl rfl rfl ?_
              refine sf_R_iadd pm_M185 (pc' := 64) rfl rfl B320 sf_k1 (by decide) (by decide) (fun z407 e408 B409 => ?_)
              refine rf_R_ist pm_M185 T399 (pc' := 65) rfl e401 (by decide) (by decide) rfl ⟨_, rfl⟩ rfl (fun h410 T411 F412 e413 => ?_)
              have F414 := F402.trans F412 (by decide)
              have ct415 : rf_ct 1 (upd (upd f288 (Int32.toNatClampNeg z392) (m_284 14)) (Int32.toNatClampNeg 0) z407) := (sf_eqL rfl (sf_weak B409 (by decide) (by decide)))
              have bd416 : (m368 17).toInt = 0 → rf_bd 1 (upd (upd f288 (Int32.toNatClampNeg z392) (m_284 14)) (Int32.toNatClampNeg 0) z407) := fun z => (sf_pos B377 (by decide) z)
              refine pm_R_ret pm_M185 (r := none) rfl rfl ?_
              show pm_R _ 181 58 [.ref 41] [] _ _
              refine pm_R_br pm_M181 (pc' := 0) rfl rfl ?_
              have B417 : sf_B 0 600 (m368 10) := T411.2.2.1 10
              have B418 : sf_B 0 4 (m368 13) := T411.2.2.1 13
              exact ih_284 _ (rf_mu hN_284 (sf_ne0 c295) (sf_aux127 _ _ _ _ ek357 X_284.2 X374) X374 X375 B417.2) h410 m368 w369  T411 F414 W381  ⟨⟨(upd (upd f288 (Int32.toNatClampNeg z392) (m_284 14)) (Int32.toNatClampNeg 0) z407), e413, ct415, fun z => (sf_pos B377 (by decide) z)⟩, (sf_aux115 _ _ _ _ X_284.2 X374)⟩ rfl
            · have B419 : sf_B 0 9 (m_284 14) := sf_leL (Int32.not_lt.mp c331) B322 sf_k9
              refine pm_R_lo pm_M183 (pc' := 32) rfl rfl rfl ?_
              refine rf_R_get pm_M183 T327 (pc' := 35) (v := .int (m_284 14)) rfl rfl rfl rfl ?_
              refine pm_R_lo pm_M183 (pc' := 36) rfl rfl rfl ?_
              refine pm_R_icmp pm_M183 (t := 53) (pc' := 39) rfl rfl rfl (fun c420 => ?_) (fun c420 => absurd (Classical.not_not.mp c420) (sf_neq1 B419 sf_kn1 (by decide)))
              skip
              refine pm_R_lo pm_M183 (pc' := 54) rfl rfl rfl ?_
              refine pm_R_cv pm_M183 (pc' := 57) (a := 41) (ra := []) (rest := []) (ls' := [.ref 41, pm_no, pm_no]) rfl rfl (Or.inl rfl) pm_M179 T327.2.1 rfl (by decide) (Nat.lt_of_lt_of_le (by decide) T327.1) rfl rfl (Nat.le_of_ble_eq_true rfl) rfl rfl ?_
              refine rf_c179 (d := d + 0) T327  (fun m423 w424 h425 T426 F427 W428 X429 X430 => ?_)
              have F431 := F330.trans F427 (by decide)
              have B432 : sf_B 0 4 (m423 17) := by rw [W428 17 (by decide)]; exact B292
              have ek433 : (m423 17).toInt = ((m_284 17)).toInt := by rw [W428 17 (by decide)]
              have W434 : rf_W [10, 12, 13, 14, 16, 17, 18, 22] m m423 := W287.trans W428 (by decide)
              have W435 : rf_W [10, 12, 13, 14, 16, 17, 18, 22] m m423 := W_284.trans W428 (by decide)
              show pm_R _ 183 57 [.ref 41, .int 0, .int 9, .int (-1)] [] _ _
              refine pm_R_op pm_M183 (pc' := 58) (st' := [.int 1]) rfl rfl rfl ?_
              refine pm_R_ret pm_M183 (r := some (.int 1)) rfl rfl ?_
              show pm_R _ 181 43 [.ref 41] [.int 1] _ _
              refine pm_R_br pm_M181 (pc' := 48) (st' := []) rfl rfl ?_
              refine pm_R_lo pm_M181 (pc' := 49) rfl rfl rfl ?_
              refine pm_R_op pm_M181 (pc' := 50) (st' := [.int 0, .ref 41]) rfl rfl rfl ?_
              refine pm_R_op pm_M181 (pc' := 51) (st' := [.int 1, .int 0, .ref 41]) rfl rfl rfl ?_
              refine pm_R_op pm_M181 (pc' := 52) (st' := [.int 1, .int 1, .int 0, .ref 41]) rfl rfl rfl ?_
              refine pm_R_op pm_M181 (pc' := 54) (st' := [.int 12, .int 1, .int 1, .int 0, .ref 41]) rfl rfl rfl ?_
              refine pm_R_op pm_M181 (pc' := 55) (st' := [.int 0, .int 12, .int 1, .int 1, .int 0, .ref 41]) rfl rfl rfl ?_
              refine pm_R_cv pm_M181 (pc' := 58) (a := 41) (ra := [.int 0, .int 12, .int 1, .int 1, .int 0]) (rest := []) (ls' := [.ref 41, .int 0, .int 1, .int 1, .int 12, .int 0, pm_no, pm_no]) rfl rfl (Or.inl rfl) pm_M185 T426.2.1 rfl (by decide) (Nat.lt_of_lt_of_le (by decide) T426.1) rfl rfl (Nat.le_of_ble_eq_true rfl) rfl rfl ?_
              refine pm_R_lo pm_M185 (pc' := 1) rfl rfl rfl ?_
              refine rf_R_get pm_M185 T426 (pc' := 4) (v := .ref 51) rfl rfl rfl rfl ?_
              refine pm_R_lo pm_M185 (pc' := 5) rfl rfl rfl ?_
              have e436 := (F427.cell (by decide) (F328.cell (by decide) e289))
              refine pm_R_iald pm_M185 (pc' := 6) (v := (f288 0)) rfl e436 (Nat.lt_of_lt_of_le (by decide) T426.1) rfl rfl rfl ?_
              refine pm_R_lo pm_M185 (pc' := 8) (ls' := [.ref 41, .int 0, .int 1, .int 1, .int 12, .int 0, .int (f288 0), pm_no]) (st' := []) rfl rfl rfl ?_
              refine pm_R_lo pm_M185 (pc' := 10) rfl rfl rfl ?_
              refine pm_R_lo pm_M185 (pc' := 12) rfl rfl rfl ?_
              refine pm_R_icmp pm_M185 (t := 16) (pc' := 15) rfl rfl rfl (fun c439 => ?_) (fun c439 => absurd (Classical.not_not.mp c439) (sf_neq2 B320 sf_k12 (by decide)))
              skip
              refine pm_R_op pm_M185 (pc' := 17) (st' := [.int 0]) rfl rfl rfl ?_
              refine pm_R_lo pm_M185 (pc' := 19) (ls' := [.ref 41, .int 0, .int 1, .int 1, .int 12, .int 0, .int (f288 0), .int 0]) (st' := []) rfl rfl rfl ?_
              refine pm_R_lo pm_M185 (pc' := 21) rfl rfl rfl ?_
              refine pm_R_lo pm_M185 (pc' := 22) rfl rfl rfl ?_
              refine pm_R_br pm_M185 (pc' := 25) (st' := []) rfl rfl ?_
              refine pm_R_lo pm_M185 (pc' := 26) rfl rfl rfl ?_
              refine rf_R_get pm_M185 T426 (pc' := 29) (v := .ref 51) rfl rfl rfl rfl ?_
              refine pm_R_lo pm_M185 (pc' := 30) rfl rfl rfl ?_
              refine pm_R_lo pm_M185 (pc' := 31) rfl rfl rfl ?_
              refine pm_R_lo pm_M185 (pc' := 33) rfl rfl rfl ?_
              refine sf_R_imul pm_M185 (pc' := 34) rfl rfl sf_k1 B320 (by decide) (by decide) (by decide) (fun z440 e441 B442 => ?_)
              refine sf_R_iadd pm_M185 (pc' := 35) rfl rfl sf_k1 B442 (by decide) (by decide) (fun z443 e444 B445 => ?_)
              refine pm_R_lo pm_M185 (pc' := 37) rfl rfl rfl ?_
              refine sf_R_iadd pm_M185 (pc' := 38) rfl rfl B445 sf_k0 (by decide) (by decide) (fun z446 e447 B448 => ?_)
              refine pm_R_lo pm_M185 (pc' := 39) rfl rfl rfl ?_
              refine rf_R_get pm_M185 T426 (pc' := 42) (v := .ref 52) rfl rfl rfl rfl ?_
              refine pm_R_lo pm_M185 (pc' := 44) rfl rfl rfl ?_
              refine pm_R_lo pm_M185 (pc' := 46) rfl rfl rfl ?_
              refine pm_R_op pm_M185 (pc' := 47) (st' := [.int 0, .ref 52, .int z446, .ref 51]) rfl rfl rfl ?_
              have e449 := (F427.cell (by decide) e329)
              refine pm_R_iald pm_M185 (pc' := 48) (v := (m_284 14)) rfl e449 (Nat.lt_of_lt_of_le (by decide) T426.1) rfl rfl rfl ?_
              refine rf_R_ist pm_M185 T426 (pc' := 49) rfl e436 (by decide) (by decide) (sf_in B448 (by decide) (by decide)) ⟨_, rfl⟩ rfl (fun h452 T453 F454 e455 => ?_)
              have F456 := F431.trans F454 (by decide)
              have w457 := rf_w1 (sf_aux126 _ _ _ _ e441 e444 e447) B320
              have ct458 : rf_ct 1 (upd f288 (Int32.toNatClampNeg z446) (m_284 14)) := (sf_eqL (Eq.trans (sf_upd_ne (j := Int32.toNatClampNeg 0) B448 (by decide) (by decide)) rfl) (sf_weak B320 (by decide) (by decide)))
              have bd459 : (m423 17).toInt = 0 → rf_bd 1 (upd f288 (Int32.toNatClampNeg z446) (m_284 14)) := fun z => ((bd291 (sf_aux53 _ _ ek433 z)).set (k := z446) B419 w457.1 w457.2)
              refine pm_R_lo pm_M185 (pc' := 52) (ls' := [.ref 41, .int 0, .int 1, .int 1, .int 12, .int 0, .int (f288 0), .int 1]) (st' := []) rfl rfl rfl ?_
              refine pm_R_br pm_M185 (pc' := 19) rfl rfl ?_
              refine pm_R_lo pm_M185 (pc' := 21) rfl rfl rfl ?_
              refine pm_R_lo pm_M185 (pc' := 22) rfl rfl rfl ?_
              refine pm_R_br pm_M185 (pc' := 55) (st' := []) rfl rfl ?_
              refine pm_R_lo pm_M185 (pc' := 56) rfl rfl rfl ?_
              refine rf_R_get pm_M185 T453 (pc' := 59) (v := .ref 51) rfl rfl rfl rfl ?_
              refine pm_R_lo pm_M185 (pc' := 60) rfl rfl rfl ?_
              refine pm_R_op pm_M185 (pc' := 61) (st' := [.int 0, .ref 51, .int 0, .ref 51]) rfl rfl rfl ?_
              refine pm_R_iald pm_M185 (pc' := 62) (v := (f288 0)) rfl e455 (Nat.lt_of_lt_of_le (by decide) T453.1) rfl (Eq.trans (sf_upd_ne (j := Int32.toNatClampNeg 0) B448 (by decide) (by decide)) rfl) rfl ?_
              refine pm_R_op pm_M185 (pc' := 63) (st' := [.int 1, .int (f288 0), .int 0, .ref 51]) rfl rfl rfl ?_
              refine sf_R_iadd pm_M185 (pc' := 64) rfl rfl B320 sf_k1 (by decide) (by decide) (fun z462 e463 B464 => ?_)
              refine rf_R_ist pm_M185 T453 (pc' := 65) rfl e455 (by decide) (by decide) rfl ⟨_, rfl⟩ rfl (fun h465 T466 F467 e468 => ?_)
              have F469 := F456.trans F467 (by decide)
              have ct470 : rf_ct 1 (upd (upd f288 (Int32.toNatClampNeg z446) (m_284 14)) (Int32.toNatClampNeg 0) z462) := (sf_eqL rfl (sf_weak B464 (by decide) (by decide)))
              have bd471 : (m423 17).toInt = 0 → rf_bd 1 (upd (upd f288 (Int32.toNatClampNeg z446) (m_284 14)) (Int32.toNatClampNeg 0) z462) := fun z => ((bd459 z).set (k := 0) B464 (by decide) (by decide))
              refine pm_R_ret pm_M185 (r := none) rfl rfl ?_
              show pm_R _ 181 58 [.ref 41] [] _ _
              refine pm_R_br pm_M181 (pc' := 0) rfl rfl ?_
              have B472 : sf_B 0 600 (m423 10) := T466.2.2.1 10
              have B473 : sf_B 0 4 (m423 13) := T466.2.2.1 13
              exact ih_284 _ (rf_mu hN_284 (sf_ne0 c295) (sf_aux128 _ _ _ X_284.2 X429) X429 X430 B472.2) h465 m423 w424  T466 F469 W435  ⟨⟨(upd (upd f288 (Int32.toNatClampNeg z446) (m_284 14)) (Int32.toNatClampNeg 0) z462), e468, ct470, fun z => (bd471 z)⟩, (sf_aux116 _ _ _ X_284.2 X429)⟩ rfl
          · have B474 : sf_B 12 12 (f288 0) := sf_eqL (Classical.not_not.mp c319) sf_k12
            refine pm_R_lo pm_M181 (pc' := 27) rfl rfl rfl ?_
            refine pm_R_op pm_M181 (pc' := 28) (st' := [.int 3, .ref 41]) rfl rfl rfl ?_
            refine pm_R_lo pm_M181 (pc' := 29) rfl rfl rfl ?_
            have B475 : sf_B 0 600 (m_284 12) := T_284.2.2.1 12
            refine rf_R_get pm_M181 T_284 (pc' := 32) (v := .int (m_284 12)) rfl rfl rfl rfl ?_
            refine pm_R_cv pm_M181 (pc' := 35) (a := 41) (ra := [.int (m_284 12), .int 3]) (rest := []) (ls' := [.ref 41, .int 3, .int (m_284 12)]) rfl rfl (Or.inl rfl) pm_M182 T_284.2.1 rfl (by decide) (Nat.lt_of_lt_of_le (by decide) T_284.1) rfl rfl (Nat.le_of_ble_eq_true rfl) rfl rfl ?_
            refine rf_c182 (d := d + 2) T_284 (sf_weak sf_k3 (by decide) (by decide)) B475 (fun m478 w479 h480 T481 F482 W483 B484 => ?_)
            have F485 := F_284.trans F482 (by decide)
            have B486 : sf_B 0 600 (m478 10) := by rw [W483 10 (by decide)]; exact B293
            have ek487 : (m478 10).toInt = ((m_284 10)).toInt := by rw [W483 10 (by decide)]
            have B488 : sf_B 3 3 (m478 13) := by rw [W483 13 (by decide)]; exact B316
            have W489 : rf_W [10, 12, 13, 14, 16, 17, 18, 22] m m478 := W287.trans W483 (by decide)
            have W490 : rf_W [10, 12, 13, 14, 16, 17, 18, 22] m m478 := W_284.trans W483 (by decide)
            show pm_R _ 181 35 [.ref 41] [] _ _
            refine pm_R_lo pm_M181 (pc' := 36) rfl rfl rfl ?_
            refine pm_R_op pm_M181 (pc' := 37) (st' := [.int 0, .ref 41]) rfl rfl rfl ?_
            refine pm_R_op pm_M181 (pc' := 39) (st' := [.int 9, .int 0, .ref 41]) rfl rfl rfl ?_
            refine pm_R_op pm_M181 (pc' := 40) (st' := [.int (-1), .int 9, .int 0, .ref 41]) rfl rfl rfl ?_
            refine pm_R_cv pm_M181 (pc' := 43) (a := 41) (ra := [.int (-1), .int 9, .int 0]) (rest := []) (ls' := [.ref 41, .int 0, .int 9, .int (-1)]) rfl rfl (Or.inl rfl) pm_M183 T481.2.1 rfl (by decide) (Nat.lt_of_lt_of_le (by decide) T481.1) rfl rfl (Nat.le_of_ble_eq_true rfl) rfl rfl ?_
            refine pm_R_lo pm_M183 (pc' := 1) rfl rfl rfl ?_
            refine rf_R_get pm_M183 T481 (pc' := 4) (v := .int (m478 13)) rfl rfl rfl rfl ?_
            refine pm_R_op pm_M183 (pc' := 5) (st' := [.int 3, .int (m478 13)]) rfl rfl rfl ?_
            refine pm_R_icmp pm_M183 (t := 13) (pc' := 8) rfl rfl rfl (fun c491 => ?_) (fun c491 => absurd (sf_pt2 B488 sf_k3) c491)
            refine pm_R_lo pm_M183 (pc' := 14) rfl rfl rfl ?_
            refine rf_R_get pm_M183 T481 (pc' := 17) (v := .ref 52) rfl rfl rfl rfl ?_
            refine pm_R_lo pm_M183 (pc' := 18) rfl rfl rfl ?_
            refine pm_R_lo pm_M183 (pc' := 19) rfl rfl rfl ?_
            have B492 : sf_B 0 99 (m478 14) := T481.2.2.1 14
            refine rf_R_get pm_M183 T481 (pc' := 22) (v := .int (m478 14)) rfl rfl rfl rfl ?_
            obtain ⟨f493, e494, b495⟩ := T481.2.2.2.1 52 (by decide) (by decide)
            refine rf_R_ist pm_M183 T481 (pc' := 23) rfl e494 (by decide) (by decide) rfl ⟨_, rfl, sf_upd b495 (sf_weak B492 (by decide) (by decide)) _⟩ rfl (fun h496 T497 F498 e499 => ?_)
            have F500 := F485.trans F498 (by decide)
            refine pm_R_lo pm_M183 (pc' := 24) rfl rfl rfl ?_
            refine rf_R_get pm_M183 T497 (pc' := 27) (v := .int (m478 14)) rfl rfl rfl rfl ?_
            refine pm_R_lo pm_M183 (pc' := 28) rfl rfl rfl ?_
            refine pm_R_icmp pm_M183 (t := 39) (pc' := 31) rfl rfl rfl (fun c501 => ?_) (fun c501 => ?_)
            · have B502 : sf_B 10 99 (m478 14) := sf_ltR c501 sf_k9 B492
              refine pm_R_lo pm_M183 (pc' := 40) rfl rfl rfl ?_
              refine pm_R_op pm_M183 (pc' := 41) (st' := [.int 2, .ref 41]) rfl rfl rfl ?_
              refine pm_R_lo pm_M183 (pc' := 42) rfl rfl rfl ?_
              have B503 : sf_B 0 600 (m478 12) := T497.2.2.1 12
              refine rf_R_get pm_M183 T497 (pc' := 45) (v := .int (m478 12)) rfl rfl rfl rfl ?_
              refine pm_R_cv pm_M183 (pc' := 48) (a := 41) (ra := [.int (m478 12), .int 2]) (rest := []) (ls' := [.ref 41, .int 2, .int (m478 12)]) rfl rfl (Or.inl rfl) pm_M182 T497.2.1 rfl (by decide) (Nat.lt_of_lt_of_le (by decide) T497.1) rfl rfl (Nat.le_of_ble_eq_true rfl) rfl rfl ?_
              refine rf_c182 (d := d + 1) T497 (sf_weak sf_k2 (by decide) (by decide)) B503 (fun m506 w507 h508 T509 F510 W511 B512 => ?_)
              have F513 := F500.trans F510 (by decide)
              have B514 : sf_B 0 600 (m506 10) := by rw [W511 10 (by decide)]; exact B486
              have ek515 : (m506 10).toInt = ((m_284 10)).toInt := by rw [W511 10 (by decide)]; exact ek487
              have B516 : sf_B 3 3 (m506 13) := by rw [W511 13 (by decide)]; exact B488
              have B517 : sf_B 10 99 (m506 14) := by rw [W511 14 (by decide)]; exact B502
              have W518 : rf_W [10, 12, 13, 14, 16, 17, 18, 22] m m506 := W489.trans W511 (by decide)
              have W519 : rf_W [10, 12, 13, 14, 16, 17, 18, 22] m m506 := W490.trans W511 (by decide)
              show pm_R _ 183 48 [.ref 41, .int 0, .int 9, .int (-1)] [] _ _
              refine pm_R_lo pm_M183 (pc' := 49) rfl rfl rfl ?_
              refine pm_R_op pm_M183 (pc' := 50) (st' := [.int 0, .ref 41]) rfl rfl rfl ?_
              refine rf_R_put pm_M183 T509 (pc' := 53) rfl rfl rfl (by decide) rfl rfl (sf_weak sf_k0 (by decide) (by decide)) rfl rfl (fun h520 m523 em524 T521 F522 => ?_)
              have F525 := F513.trans F522 (by decide)
              have B526 : sf_B 0 600 (m523 10) := by rw [em524]; exact B514
              have ek527 : (m523 10).toInt = ((m_284 10)).toInt := by rw [em524]; exact ek515
              have B528 : sf_B 3 3 (m523 13) := by rw [em524]; exact B516
              have B529 : sf_B 10 99 (m523 14) := by rw [em524]; exact B517
              have B530 : sf_B 1 4 (m523 17) := by rw [em524]; exact B512
              have ek531 : (m523 17).toInt = ((m506 17)).toInt := by rw [em524]; rfl
              have B532 : sf_B 0 0 (m523 22) := by rw [em524]; exact sf_k0
              have W534 : rf_W [10, 12, 13, 14, 16, 17, 18, 22] m m523 := by rw [em524]; exact W518.put (by decide)
              have W535 : rf_W [10, 12, 13, 14, 16, 17, 18, 22] m m523 := by rw [em524]; exact W519.put (by decide)
              refine pm_R_lo pm_M183 (pc' := 54) rfl rfl rfl ?_
              refine pm_R_cv pm_M183 (pc' := 57) (a := 41) (ra := []) (rest := []) (ls' := [.ref 41, pm_no, pm_no]) rfl rfl (Or.inl rfl) pm_M179 T521.2.1 rfl (by decide) (Nat.lt_of_lt_of_le (by decide) T521.1) rfl rfl (Nat.le_of_ble_eq_true rfl) rfl rfl ?_
              refine rf_c179 (d := d + 0) T521  (fun m538 w539 h540 T541 F542 W543 X544 X545 => ?_)
              have F546 := F525.trans F542 (by decide)
              have B547 : sf_B 1 4 (m538 17) := by rw [W543 17 (by decide)]; exact B530
              have ek548 : (m538 17).toInt = ((m506 17)).toInt := by rw [W543 17 (by decide)]; exact ek531
              have B549 : sf_B 0 0 (m538 22) := by rw [W543 22 (by decide)]; exact B532
              have W550 : rf_W [10, 12, 13, 14, 16, 17, 18, 22] m m538 := W534.trans W543 (by decide)
              have W551 : rf_W [10, 12, 13, 14, 16, 17, 18, 22] m m538 := W535.trans W543 (by decide)
              show pm_R _ 183 57 [.ref 41, .int 0, .int 9, .int (-1)] [] _ _
              refine pm_R_op pm_M183 (pc' := 58) (st' := [.int 1]) rfl rfl rfl ?_
              refine pm_R_ret pm_M183 (r := some (.int 1)) rfl rfl ?_
              show pm_R _ 181 43 [.ref 41] [.int 1] _ _
              refine pm_R_br pm_M181 (pc' := 48) (st' := []) rfl rfl ?_
              refine pm_R_lo pm_M181 (pc' := 49) rfl rfl rfl ?_
              refine pm_R_op pm_M181 (pc' := 50) (st' := [.int 0, .ref 41]) rfl rfl rfl ?_
              refine pm_R_op pm_M181 (pc' := 51) (st' := [.int 1, .int 0, .ref 41]) rfl rfl rfl ?_
              refine pm_R_op pm_M181 (pc' := 52) (st' := [.int 1, .int 1, .int 0, .ref 41]) rfl rfl rfl ?_
              refine pm_R_op pm_M181 (pc' := 54) (st' := [.int 12, .int 1, .int 1, .int 0, .ref 41]) rfl rfl rfl ?_
              refine pm_R_op pm_M181 (pc' := 55) (st' := [.int 0, .int 12, .int 1, .int 1, .int 0, .ref 41]) rfl rfl rfl ?_
              refine pm_R_cv pm_M181 (pc' := 58) (a := 41) (ra := [.int 0, .int 12, .int 1, .int 1, .int 0]) (rest := []) (ls' := [.ref 41, .int 0, .int 1, .int 1, .int 12, .int 0, pm_no, pm_no]) rfl rfl (Or.inl rfl) pm_M185 T541.2.1 rfl (by decide) (Nat.lt_of_lt_of_le (by decide) T541.1) rfl rfl (Nat.le_of_ble_eq_true rfl) rfl rfl ?_
              refine pm_R_lo pm_M185 (pc' := 1) rfl rfl rfl ?_
              refine rf_R_get pm_M185 T541 (pc' := 4) (v := .ref 51) rfl rfl rfl rfl ?_
              refine pm_R_lo pm_M185 (pc' := 5) rfl rfl rfl ?_
              have e552 := (F542.cell (by decide) (F522.cell (by decide) (F510.cell (by decide) (F498.cell (by decide) (F482.cell (by decide) e289)))))
              refine pm_R_iald pm_M185 (pc' := 6) (v := (f288 0)) rfl e552 (Nat.lt_of_lt_of_le (by decide) T541.1) rfl rfl rfl ?_
              refine pm_R_lo pm_M185 (pc' := 8) (ls' := [.ref 41, .int 0, .int 1, .int 1, .int 12, .int 0, .int (f288 0), pm_no]) (st' := []) rfl rfl rfl ?_
              refine pm_R_lo pm_M185 (pc' := 10) rfl rfl rfl ?_
              refine pm_R_lo pm_M185 (pc' := 12) rfl rfl rfl ?_
              refine pm_R_icmp pm_M185 (t := 16) (pc' := 15) rfl rfl rfl (fun c555 => absurd (sf_pt2 B474 sf_k12) c555) (fun c555 => ?_)
              refine pm_R_ret pm_M185 (r := none) rfl rfl ?_
              show pm_R _ 181 58 [.ref 41] [] _ _
              refine pm_R_br pm_M181 (pc' := 0) rfl rfl ?_
              have B556 : sf_B 0 600 (m538 10) := T541.2.2.1 10
              have B557 : sf_B 0 4 (m538 13) := T541.2.2.1 13
              exact ih_284 _ (rf_mu hN_284 (sf_ne0 c295) (sf_aux127 _ _ _ _ ek527 X_284.2 X544) X544 X545 B556.2) h540 m538 w539  T541 F546 W551  ⟨⟨f288, e552, ct290, fun z => (sf_pos B547 (by decide) z)⟩, (sf_aux115 _ _ _ _ X_284.2 X544)⟩ rfl
            · have B558 : sf_B 0 9 (m478 14) := sf_leL (Int32.not_lt.mp c501) B492 sf_k9
              refine pm_R_lo pm_M183 (pc' := 32) rfl rfl rfl ?_
              refine rf_R_get pm_M183 T497 (pc' := 35) (v := .int (m478 14)) rfl rfl rfl rfl ?_
              refine pm_R_lo pm_M183 (pc' := 36) rfl rfl rfl ?_
              refine pm_R_icmp pm_M183 (t := 53) (pc' := 39) rfl rfl rfl (fun c559 => ?_) (fun c559 => absurd (Classical.not_not.mp c559) (sf_neq1 B558 sf_kn1 (by decide)))
              skip
              refine pm_R_lo pm_M183 (pc' := 54) rfl rfl rfl ?_
              refine pm_R_cv pm_M183 (pc' := 57) (a := 41) (ra := []) (rest := []) (ls' := [.ref 41, pm_no, pm_no]) rfl rfl (Or.inl rfl) pm_M179 T497.2.1 rfl (by decide) (Nat.lt_of_lt_of_le (by decide) T497.1) rfl rfl (Nat.le_of_ble_eq_true rfl) rfl rfl ?_
              refine rf_c179 (d := d + 0) T497  (fun m562 w563 h564 T565 F566 W567 X568 X569 => ?_)
              have F570 := F500.trans F566 (by decide)
              have B571 : sf_B 1 4 (m562 17) := by rw [W567 17 (by decide)]; exact B484
              have ek572 : (m562 17).toInt = ((m478 17)).toInt := by rw [W567 17 (by decide)]
              have W573 : rf_W [10, 12, 13, 14, 16, 17, 18, 22] m m562 := W489.trans W567 (by decide)
              have W574 : rf_W [10, 12, 13, 14, 16, 17, 18, 22] m m562 := W490.trans W567 (by decide)
              show pm_R _ 183 57 [.ref 41, .int 0, .int 9, .int (-1)] [] _ _
              refine pm_R_op pm_M183 (pc' := 58) (st' := [.int 1]) rfl rfl rfl ?_
              refine pm_R_ret pm_M183 (r := some (.int 1)) rfl rfl ?_
              show pm_R _ 181 43 [.ref 41] [.int 1] _ _
              refine pm_R_br pm_M181 (pc' := 48) (st' := []) rfl rfl ?_
              refine pm_R_lo pm_M181 (pc' := 49) rfl rfl rfl ?_
              refine pm_R_op pm_M181 (pc' := 50) (st' := [.int 0, .ref 41]) rfl rfl rfl ?_
              refine pm_R_op pm_M181 (pc' := 51) (st' := [.int 1, .int 0, .ref 41]) rfl rfl rfl ?_
              refine pm_R_op pm_M181 (pc' := 52) (st' := [.int 1, .int 1, .int 0, .ref 41]) rfl rfl rfl ?_
              refine pm_R_op pm_M181 (pc' := 54) (st' := [.int 12, .int 1, .int 1, .int 0, .ref 41]) rfl rfl rfl ?_
              refine pm_R_op pm_M181 (pc' := 55) (st' := [.int 0, .int 12, .int 1, .int 1, .int 0, .ref 41]) rfl rfl rfl ?_
              refine pm_R_cv pm_M181 (pc' := 58) (a := 41) (ra := [.int 0, .int 12, .int 1, .int 1, .int 0]) (rest := []) (ls' := [.ref 41, .int 0, .int 1, .int 1, .int 12, .int 0, pm_no, pm_no]) rfl rfl (Or.inl rfl) pm_M185 T565.2.1 rfl (by decide) (Nat.lt_of_lt_of_le (by decide) T565.1) rfl rfl (Nat.le_of_ble_eq_true rfl) rfl rfl ?_
              refine pm_R_lo pm_M185 (pc' := 1) rfl rfl rfl ?_
              refine rf_R_get pm_M185 T565 (pc' := 4) (v := .ref 51) rfl rfl rfl rfl ?_
              refine pm_R_lo pm_M185 (pc' := 5) rfl rfl rfl ?_
              have e575 := (F566.cell (by decide) (F498.cell (by decide) (F482.cell (by decide) e289)))
              refine pm_R_iald pm_M185 (pc' := 6) (v := (f288 0)) rfl e575 (Nat.lt_of_lt_of_le (by decide) T565.1) rfl rfl rfl ?_
              refine pm_R_lo pm_M185 (pc' := 8) (ls' := [.ref 41, .int 0, .int 1, .int 1, .int 12, .int 0, .int (f288 0), pm_no]) (st' := []) rfl rfl rfl ?_
              refine pm_R_lo pm_M185 (pc' := 10) rfl rfl rfl ?_
              refine pm_R_lo pm_M185 (pc' := 12) rfl rfl rfl ?_
              refine pm_R_icmp pm_M185 (t := 16) (pc' := 15) rfl rfl rfl (fun c578 => absurd (sf_pt2 B474 sf_k12) c578) (fun c578 => ?_)
              refine pm_R_ret pm_M185 (r := none) rfl rfl ?_
              show pm_R _ 181 58 [.ref 41] [] _ _
              refine pm_R_br pm_M181 (pc' := 0) rfl rfl ?_
              have B579 : sf_B 0 600 (m562 10) := T565.2.2.1 10
              have B580 : sf_B 0 4 (m562 13) := T565.2.2.1 13
              exact ih_284 _ (rf_mu hN_284 (sf_ne0 c295) (sf_aux127 _ _ _ _ ek487 X_284.2 X568) X568 X569 B579.2) h564 m562 w563  T565 F570 W574  ⟨⟨f288, e575, ct290, fun z => (sf_pos B571 (by decide) z)⟩, (sf_aux115 _ _ _ _ X_284.2 X568)⟩ rfl
  exact L_284 _ h m w  T (rf_G.refl [41, 51, 52] h) (rf_W.refl _ _)  ⟨⟨f2, e3, ct4, fun z => (bd5 z)⟩, (sf_aux50 _ )⟩ rfl

theorem sf_aux129 (v0 v1 v2 v3 v4 : Int) (q0 : v0 ≤ v1) (q1 : v2 ≤ v3) (q2 : v3 ≤ v4) : v1 ≤ v3 := by omega
set_option maxRecDepth 100000 in
set_option maxHeartbeats 4000000 in
/-- SilentTableModel.lines -/
theorem rf_c186_0 {d : Nat} {m : Nat → Int32} {w : Int64} {h : pm_H} {Q : Option Value → pm_H → Prop}  (T : rf_T m w h) (X : rf_I 0 (m 17) h) (K0 : ∀ (m' : Nat → Int32) (w' : Int64) (h' : pm_H), rf_T m' w' h' → rf_G [41, 51, 52] h h' → rf_W [10, 12, 13, 14, 16, 17, 18, 21, 22] m m' → (m 10).toInt ≤ (m' 10).toInt → Q (some (.int 0)) h') (K1 : ∀ (m' : Nat → Int32) (w' : Int64) (h' : pm_H), rf_T m' w' h' → rf_G [41, 51, 52] h h' → rf_W [10, 12, 13, 14, 16, 17, 18, 21, 22] m m' → rf_I 0 (m' 17) h' → (m 10).toInt ≤ (m' 10).toInt → Q (some (.int 1)) h') : pm_R (d + 5) 186 0 [.ref 41, .int 0, pm_no, pm_no, pm_no, pm_no] [] h Q := by
  have B1 : sf_B 0 600 (m 10) := T.2.2.1 10
  obtain ⟨f2, e3, ct4, bd5⟩ := X
  have B6 : sf_B 0 4 (m 17) := T.2.2.1 17
  refine pm_R_op pm_M186 (pc' := 1) (st' := [.int 1]) rfl rfl rfl ?_
  refine pm_R_lo pm_M186 (pc' := 2) (ls' := [.ref 41, .int 0, .int 1, pm_no, pm_no, pm_no]) (st' := []) rfl rfl rfl ?_
  have L_177 : ∀ (N : Nat) (h_177 : pm_H) (m_177 : Nat → Int32) (w_177 : Int64) (x2_177 : Int32) (g3_177 : Value) (g4_177 : Value) (g5_177 : Value), rf_T m_177 w_177 h_177 → rf_G [41, 51, 52] h h_177 → rf_W [10, 12, 13, 14, 16, 17, 18, 21, 22] m m_177 → sf_B 1 1 x2_177 → g3_177.category = 1 → g5_177.category = 1 → rf_I 0 (m_177 17) h_177 ∧ (m 10).toInt ≤ (m_177 10).toInt → ((600 - (m_177 10).toInt).toNat + (if (m_177 13).toInt = 0 then 0 else 1)) = N → pm_R (d + 5) 186 2 [.ref 41, .int 0, .int x2_177, g3_177, g4_177, g5_177] [] h_177 Q := by
    intro N
    induction N using Nat.strongRecOn with
    | ind N ih_177 =>
      intro h_177 m_177 w_177 x2_177 g3_177 g4_177 g5_177 T_177 F_177 W_177 Bx2_177 Cg3_177 Cg5_177 X_177 hN_177
      have W180 : rf_W [10, 12, 13, 14, 16, 17, 18, 21, 22] m m_177 := (rf_W.refl [10, 12, 13, 14, 16, 17, 18, 21, 22] m).trans W_177 (by decide)
      obtain ⟨f181, e182, ct183, bd184⟩ := X_177.1
      have B185 : sf_B 0 4 (m_177 17) := T_177.2.2.1 17
      have B186 : sf_B 0 600 (m_177 10) := T_177.2.2.1 10
      refine pm_R_lo pm_M186 (pc' := 3) rfl rfl rfl ?_
      refine pm_R_ifc pm_M186 (t := 106) (pc' := 6) rfl rfl rfl (fun c187 => absurd c187 (sf_neq1 Bx2_177 sf_k0 (by decide))) (fun c187 => ?_)
      skip
      refine pm_R_lo pm_M186 (pc' := 7) rfl rfl rfl ?_
      have B188 : sf_B 0 4 (m_177 13) := T_177.2.2.1 13
      refine rf_R_get pm_M186 T_177 (pc' := 10) (v := .int (m_177 13)) rfl rfl rfl rfl ?_
      refine pm_R_ifc pm_M186 (t := 106) (pc' := 13) rfl rfl rfl (fun c189 => ?_) (fun c189 => ?_)
      · have B190 : sf_B 0 0 (m_177 13) := sf_eqL c189 sf_k0
        refine pm_R_lo pm_M186 (pc' := 107) rfl rfl rfl ?_
        rw [sf_pt2 Bx2_177 sf_k1]
        exact pm_R_ret pm_M186 (r := some (.int 1)) rfl rfl (K1 m_177 w_177 h_177 T_177 F_177 W180 (⟨f181, e182, ct183, fun z => (bd184 z)⟩) (sf_aux52 _ _ X_177.2))
      · have B191 : sf_B 1 4 (m_177 13) := sf_neL0 c189 sf_k0 B188
        refine pm_R_lo pm_M186 (pc' := 14) rfl rfl rfl ?_
        have B192 : sf_B 0 600 (m_177 12) := T_177.2.2.1 12
        refine rf_R_get pm_M186 T_177 (pc' := 17) (v := .int (m_177 12)) rfl rfl rfl rfl ?_
        refine pm_R_lo pm_M186 (pc' := 18) (ls' := [.ref 41, .int 0, .int x2_177, .int (m_177 12), g4_177, g5_177]) (st' := []) rfl rfl rfl ?_
        refine pm_R_lo pm_M186 (pc' := 19) rfl rfl rfl ?_
        refine rf_R_get pm_M186 T_177 (pc' := 22) (v := .int (m_177 13)) rfl rfl rfl rfl ?_
        refine pm_R_op pm_M186 (pc' := 23) (st' := [.int 2, .int (m_177 13)]) rfl rfl rfl ?_
        refine pm_R_icmp pm_M186 (t := 33) (pc' := 26) rfl rfl rfl (fun c193 => ?_) (fun c193 => ?_)
        · skip
          refine pm_R_op pm_M186 (pc' := 34) (st' := [.long 0]) rfl rfl rfl ?_
          refine pm_R_lo pm_M186 (pc' := 36) (ls' := [.ref 41, .int 0, .int x2_177, .int (m_177 12), .long 0, pm_no]) (st' := []) rfl rfl rfl ?_
          refine pm_R_lo pm_M186 (pc' := 37) rfl rfl rfl ?_
          refine pm_R_op pm_M186 (pc' := 38) (st' := [.int 1, .ref 41]) rfl rfl rfl ?_
          refine rf_R_put pm_M186 T_177 (pc' := 41) rfl rfl rfl (by decide) rfl rfl (sf_weak sf_k1 (by decide) (by decide)) rfl rfl (fun h194 m197 em198 T195 F196 => ?_)
          have F199 := F_177.trans F196 (by decide)
          have B200 : sf_B 0 4 (m197 17) := by rw [em198]; exact B185
          have ek201 : (m197 17).toInt = ((m_177 17)).toInt := by rw [em198]; rfl
          have B202 : sf_B 0 600 (m197 10) := by rw [em198]; exact B186
          have ek203 : (m197 10).toInt = ((m_177 10)).toInt := by rw [em198]; rfl
          have B204 : sf_B 1 4 (m197 13) := by rw [em198]; exact B191
          have B205 : sf_B 1 1 (m197 22) := by rw [em198]; exact sf_k1
          have W207 : rf_W [10, 12, 13, 14, 16, 17, 18, 21, 22] m m197 := by rw [em198]; exact W180.put (by decide)
          have W208 : rf_W [10, 12, 13, 14, 16, 17, 18, 21, 22] m m197 := by rw [em198]; exact W_177.put (by decide)
          refine pm_R_lo pm_M186 (pc' := 42) rfl rfl rfl ?_
          refine pm_R_br pm_M186 (pc' := 45) (st' := []) rfl rfl ?_
          refine pm_R_lo pm_M186 (pc' := 46) rfl rfl rfl ?_
          refine pm_R_lo pm_M186 (pc' := 48) rfl rfl rfl ?_
          refine pm_R_lo pm_M186 (pc' := 49) rfl rfl rfl ?_
          refine pm_R_cv pm_M186 (pc' := 52) (a := 41) (ra := [.int (m_177 12), .long 0]) (rest := []) (ls' := [.ref 41, .long 0, pm_no, .int (m_177 12)]) rfl rfl (Or.inl rfl) pm_M187 T195.2.1 rfl (by decide) (Nat.lt_of_lt_of_le (by decide) T195.1) rfl rfl (Nat.le_of_ble_eq_true rfl) rfl rfl ?_
          have e209 := (F196.cell (by decide) e182)
          refine rf_c187 (d := d + 1) T195 B192 (⟨f181, e209, ct183, fun z => (bd184 (sf_aux53 _ _ ek201 z))⟩) (fun m212 w213 h214 T215 F216 W217 X218 => ?_) (fun m221 w222 h223 T224 F225 W226 X227 X228 => ?_)
          · have F229 := F199.trans F216 (by decide)
            have W230 : rf_W [10, 12, 13, 14, 16, 17, 18, 21, 22] m m212 := W207.trans W217 (by decide)
            have W231 : rf_W [10, 12, 13, 14, 16, 17, 18, 21, 22] m m212 := W208.trans W217 (by decide)
            show pm_R _ 186 52 [.ref 41, .int 0, .int x2_177, .int (m_177 12), .long 0, pm_no] [.int 0] _ _
            refine pm_R_br pm_M186 (pc' := 77) rfl rfl ?_
            refine pm_R_lo pm_M186 (pc' := 78) (ls' := [.ref 41, .int 0, .int 0, .int (m_177 12), .long 0, pm_no]) (st' := []) rfl rfl rfl ?_
            refine pm_R_lo pm_M186 (pc' := 79) rfl rfl rfl ?_
            refine pm_R_br pm_M186 (pc' := 95) (st' := []) rfl rfl ?_
            refine pm_R_lo pm_M186 (pc' := 96) rfl rfl rfl ?_
            refine pm_R_br pm_M186 (pc' := 103) (st' := []) rfl rfl ?_
            refine pm_R_br pm_M186 (pc' := 2) rfl rfl ?_
            refine pm_R_lo pm_M186 (pc' := 3) rfl rfl rfl ?_
            refine pm_R_br pm_M186 (pc' := 106) (st' := []) rfl rfl ?_
            refine pm_R_lo pm_M186 (pc' := 107) rfl rfl rfl ?_
            have B232 : sf_B 0 600 (m212 10) := T215.2.2.1 10
            exact pm_R_ret pm_M186 (r := some (.int 0)) rfl rfl (K0 m212 w213 h214 T215 F229 W230 (sf_aux115 _ _ _ _ X_177.2 X218))
          · have F233 := F199.trans F225 (by decide)
            have W234 : rf_W [10, 12, 13, 14, 16, 17, 18, 21, 22] m m221 := W207.trans W226 (by decide)
            have W235 : rf_W [10, 12, 13, 14, 16, 17, 18, 21, 22] m m221 := W208.trans W226 (by decide)
            show pm_R _ 186 52 [.ref 41, .int 0, .int x2_177, .int (m_177 12), .long 0, pm_no] [.int 1] _ _
            obtain ⟨f236, e237, ct238, bd239⟩ := X227
            have B240 : sf_B 0 4 (m221 17) := T224.2.2.1 17
            refine pm_R_br pm_M186 (pc' := 77) rfl rfl ?_
            refine pm_R_lo pm_M186 (pc' := 78) (ls' := [.ref 41, .int 0, .int 1, .int (m_177 12), .long 0, pm_no]) (st' := []) rfl rfl rfl ?_
            refine pm_R_lo pm_M186 (pc' := 79) rfl rfl rfl ?_
            refine pm_R_br pm_M186 (pc' := 82) (st' := []) rfl rfl ?_
            refine pm_R_lo pm_M186 (pc' := 83) rfl rfl rfl ?_
            have B241 : sf_B 0 4 (m221 13) := T224.2.2.1 13
            refine rf_R_get pm_M186 T224 (pc' := 86) (v := .int (m221 13)) rfl rfl rfl rfl ?_
            refine pm_R_op pm_M186 (pc' := 87) (st' := [.int 4, .int (m221 13)]) rfl rfl rfl ?_
            refine pm_R_icmp pm_M186 (t := 95) (pc' := 90) rfl rfl rfl (fun c242 => ?_) (fun c242 => ?_)
            · have B243 : sf_B 4 4 (m221 13) := sf_eqL c242 sf_k4
              refine pm_R_lo pm_M186 (pc' := 96) rfl rfl rfl ?_
              refine pm_R_br pm_M186 (pc' := 99) (st' := []) rfl rfl ?_
              refine pm_R_lo pm_M186 (pc' := 100) rfl rfl rfl ?_
              refine pm_R_cv pm_M186 (pc' := 103) (a := 41) (ra := []) (rest := []) (ls' := [.ref 41, pm_no, pm_no]) rfl rfl (Or.inl rfl) pm_M179 T224.2.1 rfl (by decide) (Nat.lt_of_lt_of_le (by decide) T224.1) rfl rfl (Nat.le_of_ble_eq_true rfl) rfl rfl ?_
              have B244 : sf_B 0 600 (m221 10) := T224.2.2.1 10
              refine rf_c179 (d := d + 3) T224  (fun m247 w248 h249 T250 F251 W252 X253 X254 => ?_)
              have F255 := F233.trans F251 (by decide)
              have B256 : sf_B 0 4 (m247 17) := by rw [W252 17 (by decide)]; exact B240
              have ek257 : (m247 17).toInt = ((m221 17)).toInt := by rw [W252 17 (by decide)]
              have W258 : rf_W [10, 12, 13, 14, 16, 17, 18, 21, 22] m m247 := W234.trans W252 (by decide)
              have W259 : rf_W [10, 12, 13, 14, 16, 17, 18, 21, 22] m m247 := W235.trans W252 (by decide)
              show pm_R _ 186 103 [.ref 41, .int 0, .int 1, .int (m_177 12), .long 0, pm_no] [] _ _
              refine pm_R_br pm_M186 (pc' := 2) rfl rfl ?_
              have B260 : sf_B 0 600 (m247 10) := T250.2.2.1 10
              have B261 : sf_B 0 4 (m247 13) := T250.2.2.1 13
              have e262 := (F251.cell (by decide) e237)
              exact ih_177 _ (rf_mu hN_177 (sf_ne0 c189) (sf_aux129 _ _ _ _ _ X_177.2 X228 X253) X253 X254 B260.2) h249 m247 w248 1 (.int (m_177 12)) (.long 0) (pm_no) T250 F255 W259 sf_k1 rfl rfl ⟨⟨f236, e262, ct238, fun z => (bd239 (sf_aux53 _ _ ek257 z))⟩, (sf_aux109 _ _ _ _ _ X_177.2 X228 X253)⟩ rfl
            · have B263 : sf_B 0 3 (m221 13) := sf_neH0 c242 sf_k4 B241
              refine pm_R_lo pm_M186 (pc' := 91) rfl rfl rfl ?_
              refine pm_R_cv pm_M186 (pc' := 94) (a := 41) (ra := []) (rest := []) (ls' := [.ref 41]) rfl rfl (Or.inl rfl) pm_M184 T224.2.1 rfl (by decide) (Nat.lt_of_lt_of_le (by decide) T224.1) rfl rfl (Nat.le_of_ble_eq_true rfl) rfl rfl ?_
              refine pm_R_lo pm_M184 (pc' := 1) rfl rfl rfl ?_
              refine pm_R_lo pm_M184 (pc' := 2) rfl rfl rfl ?_
              have B264 : sf_B 0 600 (m221 12) := T224.2.2.1 12
              refine rf_R_get pm_M184 T224 (pc' := 5) (v := .int (m221 12)) rfl rfl rfl rfl ?_
              refine rf_R_put pm_M184 T224 (pc' := 8) rfl rfl rfl (by decide) rfl rfl B264 rfl rfl (fun h265 m268 em269 T266 F267 => ?_)
              have F270 := F233.trans F267 (by decide)
              have B271 : sf_B 0 4 (m268 17) := by rw [em269]; exact B240
              have ek272 : (m268 17).toInt = ((m221 17)).toInt := by rw [em269]; rfl
              have B273 : sf_B 0 3 (m268 13) := by rw [em269]; exact B263
              have B274 : sf_B 0 600 (m268 16) := by rw [em269]; exact B264
              have ek275 : (m268 16).toInt = ((m221 12)).toInt := by rw [em269]; rfl
              have W276 : rf_W [10, 12, 13, 14, 16, 17, 18, 21, 22] m m268 := by rw [em269]; exact W234.put (by decide)
              have W277 : rf_W [10, 12, 13, 14, 16, 17, 18, 21, 22] m m268 := by rw [em269]; exact W235.put (by decide)
              refine pm_R_op pm_M184 (pc' := 9) (st' := [.int 0]) rfl rfl rfl ?_
              refine pm_R_ret pm_M184 (r := some (.int 0)) rfl rfl ?_
              show pm_R _ 186 94 [.ref 41, .int 0, .int 1, .int (m_177 12), .long 0, pm_no] [.int 0] _ _
              refine pm_R_lo pm_M186 (pc' := 95) (ls' := [.ref 41, .int 0, .int 0, .int (m_177 12), .long 0, pm_no]) (st' := []) rfl rfl rfl ?_
              refine pm_R_lo pm_M186 (pc' := 96) rfl rfl rfl ?_
              refine pm_R_br pm_M186 (pc' := 103) (st' := []) rfl rfl ?_
              refine pm_R_br pm_M186 (pc' := 2) rfl rfl ?_
              refine pm_R_lo pm_M186 (pc' := 3) rfl rfl rfl ?_
              refine pm_R_br pm_M186 (pc' := 106) (st' := []) rfl rfl ?_
              refine pm_R_lo pm_M186 (pc' := 107) rfl rfl rfl ?_
              have B278 : sf_B 0 600 (m268 10) := T266.2.2.1 10
              exact pm_R_ret pm_M186 (r := some (.int 0)) rfl rfl (K0 m268 w222 h265 T266 F270 W276 (sf_aux83 _ _ _ _ _ X_177.2 X228))
        · have B279 : sf_B 2 2 (m_177 13) := sf_eqL (Classical.not_not.mp c193) sf_k2
          refine pm_R_lo pm_M186 (pc' := 27) rfl rfl rfl ?_
          refine rf_R_get pm_M186 T_177 (pc' := 30) (v := .long w_177) rfl rfl rfl rfl ?_
          refine pm_R_br pm_M186 (pc' := 34) rfl rfl ?_
          refine pm_R_lo pm_M186 (pc' := 36) (ls' := [.ref 41, .int 0, .int x2_177, .int (m_177 12), .long w_177, pm_no]) (st' := []) rfl rfl rfl ?_
          refine pm_R_lo pm_M186 (pc' := 37) rfl rfl rfl ?_
          refine pm_R_op pm_M186 (pc' := 38) (st' := [.int 1, .ref 41]) rfl rfl rfl ?_
          refine rf_R_put pm_M186 T_177 (pc' := 41) rfl rfl rfl (by decide) rfl rfl (sf_weak sf_k1 (by decide) (by decide)) rfl rfl (fun h280 m283 em284 T281 F282 => ?_)
          have F285 := F_177.trans F282 (by decide)
          have B286 : sf_B 0 4 (m283 17) := by rw [em284]; exact B185
          have ek287 : (m283 17).toInt = ((m_177 17)).toInt := by rw [em284]; rfl
          have B288 : sf_B 0 600 (m283 10) := by rw [em284]; exact B186
          have ek289 : (m283 10).toInt = ((m_177 10)).toInt := by rw [em284]; rfl
          have B290 : sf_B 2 2 (m283 13) := by rw [em284]; exact B279
          have B291 : sf_B 1 1 (m283 22) := by rw [em284]; exact sf_k1
          have W293 : rf_W [10, 12, 13, 14, 16, 17, 18, 21, 22] m m283 := by rw [em284]; exact W180.put (by decide)
          have W294 : rf_W [10, 12, 13, 14, 16, 17, 18, 21, 22] m m283 := by rw [em284]; exact W_177.put (by decide)
          refine pm_R_lo pm_M186 (pc' := 42) rfl rfl rfl ?_
          refine pm_R_br pm_M186 (pc' := 45) (st' := []) rfl rfl ?_
          refine pm_R_lo pm_M186 (pc' := 46) rfl rfl rfl ?_
          refine pm_R_lo pm_M186 (pc' := 48) rfl rfl rfl ?_
          refine pm_R_lo pm_M186 (pc' := 49) rfl rfl rfl ?_
          refine pm_R_cv pm_M186 (pc' := 52) (a := 41) (ra := [.int (m_177 12), .long w_177]) (rest := []) (ls' := [.ref 41, .long w_177, pm_no, .int (m_177 12)]) rfl rfl (Or.inl rfl) pm_M187 T281.2.1 rfl (by decide) (Nat.lt_of_lt_of_le (by decide) T281.1) rfl rfl (Nat.le_of_ble_eq_true rfl) rfl rfl ?_
          have e295 := (F282.cell (by decide) e182)
          refine rf_c187 (d := d + 1) T281 B192 (⟨f181, e295, ct183, fun z => (bd184 (sf_aux53 _ _ ek287 z))⟩) (fun m298 w299 h300 T301 F302 W303 X304 => ?_) (fun m307 w308 h309 T310 F311 W312 X313 X314 => ?_)
          · have F315 := F285.trans F302 (by decide)
            have W316 : rf_W [10, 12, 13, 14, 16, 17, 18, 21, 22] m m298 := W293.trans W303 (by decide)
            have W317 : rf_W [10, 12, 13, 14, 16, 17, 18, 21, 22] m m298 := W294.trans W303 (by decide)
            show pm_R _ 186 52 [.ref 41, .int 0, .int x2_177, .int (m_177 12), .long w_177, pm_no] [.int 0] _ _
            refine pm_R_br pm_M186 (pc' := 77) rfl rfl ?_
            refine pm_R_lo pm_M186 (pc' := 78) (ls' := [.ref 41, .int 0, .int 0, .int (m_177 12), .long w_177, pm_no]) (st' := []) rfl rfl rfl ?_
            refine pm_R_lo pm_M186 (pc' := 79) rfl rfl rfl ?_
            refine pm_R_br pm_M186 (pc' := 95) (st' := []) rfl rfl ?_
            refine pm_R_lo pm_M186 (pc' := 96) rfl rfl rfl ?_
            refine pm_R_br pm_M186 (pc' := 103) (st' := []) rfl rfl ?_
            refine pm_R_br pm_M186 (pc' := 2) rfl rfl ?_
            refine pm_R_lo pm_M186 (pc' := 3) rfl rfl rfl ?_
            refine pm_R_br pm_M186 (pc' := 106) (st' := []) rfl rfl ?_
            refine pm_R_lo pm_M186 (pc' := 107) rfl rfl rfl ?_
            have B318 : sf_B 0 600 (m298 10) := T301.2.2.1 10
            exact pm_R_ret pm_M186 (r := some (.int 0)) rfl rfl (K0 m298 w299 h300 T301 F315 W316 (sf_aux115 _ _ _ _ X_177.2 X304))
          · have F319 := F285.trans F311 (by decide)
            have W320 : rf_W [10, 12, 13, 14, 16, 17, 18, 21, 22] m m307 := W293.trans W312 (by decide)
            have W321 : rf_W [10, 12, 13, 14, 16, 17, 18, 21, 22] m m307 := W294.trans W312 (by decide)
            show pm_R _ 186 52 [.ref 41, .int 0, .int x2_177, .int (m_177 12), .long w_177, pm_no] [.int 1] _ _
            obtain ⟨f322, e323, ct324, bd325⟩ := X313
            have B326 : sf_B 0 4 (m307 17) := T310.2.2.1 17
            refine pm_R_br pm_M186 (pc' := 77) rfl rfl ?_
            refine pm_R_lo pm_M186 (pc' := 78) (ls' := [.ref 41, .int 0, .int 1, .int (m_177 12), .long w_177, pm_no]) (st' := []) rfl rfl rfl ?_
            refine pm_R_lo pm_M186 (pc' := 79) rfl rfl rfl ?_
            refine pm_R_br pm_M186 (pc' := 82) (st' := []) rfl rfl ?_
            refine pm_R_lo pm_M186 (pc' := 83) rfl rfl rfl ?_
            have B327 : sf_B 0 4 (m307 13) := T310.2.2.1 13
            refine rf_R_get pm_M186 T310 (pc' := 86) (v := .int (m307 13)) rfl rfl rfl rfl ?_
            refine pm_R_op pm_M186 (pc' := 87) (st' := [.int 4, .int (m307 13)]) rfl rfl rfl ?_
            refine pm_R_icmp pm_M186 (t := 95) (pc' := 90) rfl rfl rfl (fun c328 => ?_) (fun c328 => ?_)
            · have B329 : sf_B 4 4 (m307 13) := sf_eqL c328 sf_k4
              refine pm_R_lo pm_M186 (pc' := 96) rfl rfl rfl ?_
              refine pm_R_br pm_M186 (pc' := 99) (st' := []) rfl rfl ?_
              refine pm_R_lo pm_M186 (pc' := 100) rfl rfl rfl ?_
              refine pm_R_cv pm_M186 (pc' := 103) (a := 41) (ra := []) (rest := []) (ls' := [.ref 41, pm_no, pm_no]) rfl rfl (Or.inl rfl) pm_M179 T310.2.1 rfl (by decide) (Nat.lt_of_lt_of_le (by decide) T310.1) rfl rfl (Nat.le_of_ble_eq_true rfl) rfl rfl ?_
              have B330 : sf_B 0 600 (m307 10) := T310.2.2.1 10
              refine rf_c179 (d := d + 3) T310  (fun m333 w334 h335 T336 F337 W338 X339 X340 => ?_)
              have F341 := F319.trans F337 (by decide)
              have B342 : sf_B 0 4 (m333 17) := by rw [W338 17 (by decide)]; exact B326
              have ek343 : (m333 17).toInt = ((m307 17)).toInt := by rw [W338 17 (by decide)]
              have W344 : rf_W [10, 12, 13, 14, 16, 17, 18, 21, 22] m m333 := W320.trans W338 (by decide)
              have W345 : rf_W [10, 12, 13, 14, 16, 17, 18, 21, 22] m m333 := W321.trans W338 (by decide)
              show pm_R _ 186 103 [.ref 41, .int 0, .int 1, .int (m_177 12), .long w_177, pm_no] [] _ _
              refine pm_R_br pm_M186 (pc' := 2) rfl rfl ?_
              have B346 : sf_B 0 600 (m333 10) := T336.2.2.1 10
              have B347 : sf_B 0 4 (m333 13) := T336.2.2.1 13
              have e348 := (F337.cell (by decide) e323)
              exact ih_177 _ (rf_mu hN_177 (sf_ne0 c189) (sf_aux129 _ _ _ _ _ X_177.2 X314 X339) X339 X340 B346.2) h335 m333 w334 1 (.int (m_177 12)) (.long w_177) (pm_no) T336 F341 W345 sf_k1 rfl rfl ⟨⟨f322, e348, ct324, fun z => (bd325 (sf_aux53 _ _ ek343 z))⟩, (sf_aux109 _ _ _ _ _ X_177.2 X314 X339)⟩ rfl
            · have B349 : sf_B 0 3 (m307 13) := sf_neH0 c328 sf_k4 B327
              refine pm_R_lo pm_M186 (pc' := 91) rfl rfl rfl ?_
              refine pm_R_cv pm_M186 (pc' := 94) (a := 41) (ra := []) (rest := []) (ls' := [.ref 41]) rfl rfl (Or.inl rfl) pm_M184 T310.2.1 rfl (by decide) (Nat.lt_of_lt_of_le (by decide) T310.1) rfl rfl (Nat.le_of_ble_eq_true rfl) rfl rfl ?_
              refine pm_R_lo pm_M184 (pc' := 1) rfl rfl rfl ?_
              refine pm_R_lo pm_M184 (pc' := 2) rfl rfl rfl ?_
              have B350 : sf_B 0 600 (m307 12) := T310.2.2.1 12
              refine rf_R_get pm_M184 T310 (pc' := 5) (v := .int (m307 12)) rfl rfl rfl rfl ?_
              refine rf_R_put pm_M184 T310 (pc' := 8) rfl rfl rfl (by decide) rfl rfl B350 rfl rfl (fun h351 m354 em355 T352 F353 => ?_)
              have F356 := F319.trans F353 (by decide)
              have B357 : sf_B 0 4 (m354 17) := by rw [em355]; exact B326
              have ek358 : (m354 17).toInt = ((m307 17)).toInt := by rw [em355]; rfl
              have B359 : sf_B 0 3 (m354 13) := by rw [em355]; exact B349
              have B360 : sf_B 0 600 (m354 16) := by rw [em355]; exact B350
              have ek361 : (m354 16).toInt = ((m307 12)).toInt := by rw [em355]; rfl
              have W362 : rf_W [10, 12, 13, 14, 16, 17, 18, 21, 22] m m354 := by rw [em355]; exact W320.put (by decide)
              have W363 : rf_W [10, 12, 13, 14, 16, 17, 18, 21, 22] m m354 := by rw [em355]; exact W321.put (by decide)
              refine pm_R_op pm_M184 (pc' := 9) (st' := [.int 0]) rfl rfl rfl ?_
              refine pm_R_ret pm_M184 (r := some (.int 0)) rfl rfl ?_
              show pm_R _ 186 94 [.ref 41, .int 0, .int 1, .int (m_177 12), .long w_177, pm_no] [.int 0] _ _
              refine pm_R_lo pm_M186 (pc' := 95) (ls' := [.ref 41, .int 0, .int 0, .int (m_177 12), .long w_177, pm_no]) (st' := []) rfl rfl rfl ?_
              refine pm_R_lo pm_M186 (pc' := 96) rfl rfl rfl ?_
              refine pm_R_br pm_M186 (pc' := 103) (st' := []) rfl rfl ?_
              refine pm_R_br pm_M186 (pc' := 2) rfl rfl ?_
              refine pm_R_lo pm_M186 (pc' := 3) rfl rfl rfl ?_
              refine pm_R_br pm_M186 (pc' := 106) (st' := []) rfl rfl ?_
              refine pm_R_lo pm_M186 (pc' := 107) rfl rfl rfl ?_
              have B364 : sf_B 0 600 (m354 10) := T352.2.2.1 10
              exact pm_R_ret pm_M186 (r := some (.int 0)) rfl rfl (K0 m354 w308 h351 T352 F356 W362 (sf_aux83 _ _ _ _ _ X_177.2 X314))
  exact L_177 _ h m w 1 (pm_no) (pm_no) (pm_no) T (rf_G.refl [41, 51, 52] h) (rf_W.refl _ _) sf_k1 rfl rfl ⟨⟨f2, e3, ct4, fun z => (bd5 z)⟩, (sf_aux50 _ )⟩ rfl

set_option maxRecDepth 100000 in
set_option maxHeartbeats 4000000 in
/-- SilentTableModel.lines -/
theorem rf_c186_2 {d : Nat} {m : Nat → Int32} {w : Int64} {h : pm_H} {Q : Option Value → pm_H → Prop}  (T : rf_T m w h) (X : rf_I 2 (m 17) h) (K0 : ∀ (m' : Nat → Int32) (w' : Int64) (h' : pm_H), rf_T m' w' h' → rf_G [41, 51, 52] h h' → rf_W [10, 12, 13, 14, 16, 17, 18, 21, 22] m m' → (m 10).toInt ≤ (m' 10).toInt → Q (some (.int 0)) h') (K1 : ∀ (m' : Nat → Int32) (w' : Int64) (h' : pm_H), rf_T m' w' h' → rf_G [41, 51, 52] h h' → rf_W [10, 12, 13, 14, 16, 17, 18, 21, 22] m m' → rf_I 2 (m' 17) h' → (m 10).toInt ≤ (m' 10).toInt → Q (some (.int 1)) h') : pm_R (d + 5) 186 0 [.ref 41, .int 2, pm_no, pm_no, pm_no, pm_no] [] h Q := by
  have B1 : sf_B 0 600 (m 10) := T.2.2.1 10
  obtain ⟨f2, e3, ct4, bd5⟩ := X
  have B6 : sf_B 0 4 (m 17) := T.2.2.1 17
  refine pm_R_op pm_M186 (pc' := 1) (st' := [.int 1]) rfl rfl rfl ?_
  refine pm_R_lo pm_M186 (pc' := 2) (ls' := [.ref 41, .int 2, .int 1, pm_no, pm_no, pm_no]) (st' := []) rfl rfl rfl ?_
  have L_177 : ∀ (N : Nat) (h_177 : pm_H) (m_177 : Nat → Int32) (w_177 : Int64) (x2_177 : Int32) (g3_177 : Value) (g4_177 : Value) (g5_177 : Value), rf_T m_177 w_177 h_177 → rf_G [41, 51, 52] h h_177 → rf_W [10, 12, 13, 14, 16, 17, 18, 21, 22] m m_177 → sf_B 1 1 x2_177 → g3_177.category = 1 → g5_177.category = 1 → rf_I 2 (m_177 17) h_177 ∧ (m 10).toInt ≤ (m_177 10).toInt → ((600 - (m_177 10).toInt).toNat + (if (m_177 13).toInt = 0 then 0 else 1)) = N → pm_R (d + 5) 186 2 [.ref 41, .int 2, .int x2_177, g3_177, g4_177, g5_177] [] h_177 Q := by
    intro N
    induction N using Nat.strongRecOn with
    | ind N ih_177 =>
      intro h_177 m_177 w_177 x2_177 g3_177 g4_177 g5_177 T_177 F_177 W_177 Bx2_177 Cg3_177 Cg5_177 X_177 hN_177
      have W180 : rf_W [10, 12, 13, 14, 16, 17, 18, 21, 22] m m_177 := (rf_W.refl [10, 12, 13, 14, 16, 17, 18, 21, 22] m).trans W_177 (by decide)
      obtain ⟨f181, e182, ct183, bd184⟩ := X_177.1
      have B185 : sf_B 0 4 (m_177 17) := T_177.2.2.1 17
      have B186 : sf_B 0 600 (m_177 10) := T_177.2.2.1 10
      refine pm_R_lo pm_M186 (pc' := 3) rfl rfl rfl ?_
      refine pm_R_ifc pm_M186 (t := 106) (pc' := 6) rfl rfl rfl (fun c187 => absurd c187 (sf_neq1 Bx2_177 sf_k0 (by decide))) (fun c187 => ?_)
      skip
      refine pm_R_lo pm_M186 (pc' := 7) rfl rfl rfl ?_
      have B188 : sf_B 0 4 (m_177 13) := T_177.2.2.1 13
      refine rf_R_get pm_M186 T_177 (pc' := 10) (v := .int (m_177 13)) rfl rfl rfl rfl ?_
      refine pm_R_ifc pm_M186 (t := 106) (pc' := 13) rfl rfl rfl (fun c189 => ?_) (fun c189 => ?_)
      · have B190 : sf_B 0 0 (m_177 13) := sf_eqL c189 sf_k0
        refine pm_R_lo pm_M186 (pc' := 107) rfl rfl rfl ?_
        rw [sf_pt2 Bx2_177 sf_k1]
        exact pm_R_ret pm_M186 (r := some (.int 1)) rfl rfl (K1 m_177 w_177 h_177 T_177 F_177 W180 (⟨f181, e182, ct183, fun z => (bd184 z)⟩) (sf_aux52 _ _ X_177.2))
      · have B191 : sf_B 1 4 (m_177 13) := sf_neL0 c189 sf_k0 B188
        refine pm_R_lo pm_M186 (pc' := 14) rfl rfl rfl ?_
        have B192 : sf_B 0 600 (m_177 12) := T_177.2.2.1 12
        refine rf_R_get pm_M186 T_177 (pc' := 17) (v := .int (m_177 12)) rfl rfl rfl rfl ?_
        refine pm_R_lo pm_M186 (pc' := 18) (ls' := [.ref 41, .int 2, .int x2_177, .int (m_177 12), g4_177, g5_177]) (st' := []) rfl rfl rfl ?_
        refine pm_R_lo pm_M186 (pc' := 19) rfl rfl rfl ?_
        refine rf_R_get pm_M186 T_177 (pc' := 22) (v := .int (m_177 13)) rfl rfl rfl rfl ?_
        refine pm_R_op pm_M186 (pc' := 23) (st' := [.int 2, .int (m_177 13)]) rfl rfl rfl ?_
        refine pm_R_icmp pm_M186 (t := 33) (pc' := 26) rfl rfl rfl (fun c193 => ?_) (fun c193 => ?_)
        · skip
          refine pm_R_op pm_M186 (pc' := 34) (st' := [.long 0]) rfl rfl rfl ?_
          refine pm_R_lo pm_M186 (pc' := 36) (ls' := [.ref 41, .int 2, .int x2_177, .int (m_177 12), .long 0, pm_no]) (st' := []) rfl rfl rfl ?_
          refine pm_R_lo pm_M186 (pc' := 37) rfl rfl rfl ?_
          refine pm_R_op pm_M186 (pc' := 38) (st' := [.int 1, .ref 41]) rfl rfl rfl ?_
          refine rf_R_put pm_M186 T_177 (pc' := 41) rfl rfl rfl (by decide) rfl rfl (sf_weak sf_k1 (by decide) (by decide)) rfl rfl (fun h194 m197 em198 T195 F196 => ?_)
          have F199 := F_177.trans F196 (by decide)
          have B200 : sf_B 0 4 (m197 17) := by rw [em198]; exact B185
          have ek201 : (m197 17).toInt = ((m_177 17)).toInt := by rw [em198]; rfl
          have B202 : sf_B 0 600 (m197 10) := by rw [em198]; exact B186
          have ek203 : (m197 10).toInt = ((m_177 10)).toInt := by rw [em198]; rfl
          have B204 : sf_B 1 4 (m197 13) := by rw [em198]; exact B191
          have B205 : sf_B 1 1 (m197 22) := by rw [em198]; exact sf_k1
          have W207 : rf_W [10, 12, 13, 14, 16, 17, 18, 21, 22] m m197 := by rw [em198]; exact W180.put (by decide)
          have W208 : rf_W [10, 12, 13, 14, 16, 17, 18, 21, 22] m m197 := by rw [em198]; exact W_177.put (by decide)
          refine pm_R_lo pm_M186 (pc' := 42) rfl rfl rfl ?_
          refine pm_R_br pm_M186 (pc' := 55) (st' := []) rfl rfl ?_
          refine pm_R_lo pm_M186 (pc' := 56) rfl rfl rfl ?_
          refine pm_R_op pm_M186 (pc' := 57) (st' := [.int 2, .int 2]) rfl rfl rfl ?_
          refine pm_R_br pm_M186 (pc' := 60) (st' := []) rfl rfl ?_
          refine pm_R_lo pm_M186 (pc' := 61) rfl rfl rfl ?_
          refine pm_R_lo pm_M186 (pc' := 63) rfl rfl rfl ?_
          refine pm_R_lo pm_M186 (pc' := 64) rfl rfl rfl ?_
          refine pm_R_cv pm_M186 (pc' := 67) (a := 41) (ra := [.int (m_177 12), .long 0]) (rest := []) (ls' := [.ref 41, .long 0, pm_no, .int (m_177 12), pm_no]) rfl rfl (Or.inl rfl) pm_M189 T195.2.1 rfl (by decide) (Nat.lt_of_lt_of_le (by decide) T195.1) rfl rfl (Nat.le_of_ble_eq_true rfl) rfl rfl ?_
          have e209 := (F196.cell (by decide) e182)
          refine rf_c189 (d := d + 0) T195 B192 (⟨f181, e209, ct183, fun z => (bd184 (sf_aux53 _ _ ek201 z))⟩) (fun m212 w213 h214 T215 F216 W217 X218 => ?_) (fun m221 w222 h223 T224 F225 W226 X227 X228 => ?_)
          · have F229 := F199.trans F216 (by decide)
            have W230 : rf_W [10, 12, 13, 14, 16, 17, 18, 21, 22] m m212 := W207.trans W217 (by decide)
            have W231 : rf_W [10, 12, 13, 14, 16, 17, 18, 21, 22] m m212 := W208.trans W217 (by decide)
            show pm_R _ 186 67 [.ref 41, .int 2, .int x2_177, .int (m_177 12), .long 0, pm_no] [.int 0] _ _
            refine pm_R_br pm_M186 (pc' := 77) rfl rfl ?_
            refine pm_R_lo pm_M186 (pc' := 78) (ls' := [.ref 41, .int 2, .int 0, .int (m_177 12), .long 0, pm_no]) (st' := []) rfl rfl rfl ?_
            refine pm_R_lo pm_M186 (pc' := 79) rfl rfl rfl ?_
            refine pm_R_br pm_M186 (pc' := 95) (st' := []) rfl rfl ?_
            refine pm_R_lo pm_M186 (pc' := 96) rfl rfl rfl ?_
            refine pm_R_br pm_M186 (pc' := 103) (st' := []) rfl rfl ?_
            refine pm_R_br pm_M186 (pc' := 2) rfl rfl ?_
            refine pm_R_lo pm_M186 (pc' := 3) rfl rfl rfl ?_
            refine pm_R_br pm_M186 (pc' := 106) (st' := []) rfl rfl ?_
            refine pm_R_lo pm_M186 (pc' := 107) rfl rfl rfl ?_
            have B232 : sf_B 0 600 (m212 10) := T215.2.2.1 10
            exact pm_R_ret pm_M186 (r := some (.int 0)) rfl rfl (K0 m212 w213 h214 T215 F229 W230 (sf_aux115 _ _ _ _ X_177.2 X218))
          · have F233 := F199.trans F225 (by decide)
            have W234 : rf_W [10, 12, 13, 14, 16, 17, 18, 21, 22] m m221 := W207.trans W226 (by decide)
            have W235 : rf_W [10, 12, 13, 14, 16, 17, 18, 21, 22] m m221 := W208.trans W226 (by decide)
            show pm_R _ 186 67 [.ref 41, .int 2, .int x2_177, .int (m_177 12), .long 0, pm_no] [.int 1] _ _
            obtain ⟨f236, e237, ct238, bd239⟩ := X227
            have B240 : sf_B 0 4 (m221 17) := T224.2.2.1 17
            refine pm_R_br pm_M186 (pc' := 77) rfl rfl ?_
            refine pm_R_lo pm_M186 (pc' := 78) (ls' := [.ref 41, .int 2, .int 1, .int (m_177 12), .long 0, pm_no]) (st' := []) rfl rfl rfl ?_
            refine pm_R_lo pm_M186 (pc' := 79) rfl rfl rfl ?_
            refine pm_R_br pm_M186 (pc' := 82) (st' := []) rfl rfl ?_
            refine pm_R_lo pm_M186 (pc' := 83) rfl rfl rfl ?_
            have B241 : sf_B 0 4 (m221 13) := T224.2.2.1 13
            refine rf_R_get pm_M186 T224 (pc' := 86) (v := .int (m221 13)) rfl rfl rfl rfl ?_
            refine pm_R_op pm_M186 (pc' := 87) (st' := [.int 4, .int (m221 13)]) rfl rfl rfl ?_
            refine pm_R_icmp pm_M186 (t := 95) (pc' := 90) rfl rfl rfl (fun c242 => ?_) (fun c242 => ?_)
            · have B243 : sf_B 4 4 (m221 13) := sf_eqL c242 sf_k4
              refine pm_R_lo pm_M186 (pc' := 96) rfl rfl rfl ?_
              refine pm_R_br pm_M186 (pc' := 99) (st' := []) rfl rfl ?_
              refine pm_R_lo pm_M186 (pc' := 100) rfl rfl rfl ?_
              refine pm_R_cv pm_M186 (pc' := 103) (a := 41) (ra := []) (rest := []) (ls' := [.ref 41, pm_no, pm_no]) rfl rfl (Or.inl rfl) pm_M179 T224.2.1 rfl (by decide) (Nat.lt_of_lt_of_le (by decide) T224.1) rfl rfl (Nat.le_of_ble_eq_true rfl) rfl rfl ?_
              have B244 : sf_B 0 600 (m221 10) := T224.2.2.1 10
              refine rf_c179 (d := d + 3) T224  (fun m247 w248 h249 T250 F251 W252 X253 X254 => ?_)
              have F255 := F233.trans F251 (by decide)
              have B256 : sf_B 0 4 (m247 17) := by rw [W252 17 (by decide)]; exact B240
              have ek257 : (m247 17).toInt = ((m221 17)).toInt := by rw [W252 17 (by decide)]
              have W258 : rf_W [10, 12, 13, 14, 16, 17, 18, 21, 22] m m247 := W234.trans W252 (by decide)
              have W259 : rf_W [10, 12, 13, 14, 16, 17, 18, 21, 22] m m247 := W235.trans W252 (by decide)
              show pm_R _ 186 103 [.ref 41, .int 2, .int 1, .int (m_177 12), .long 0, pm_no] [] _ _
              refine pm_R_br pm_M186 (pc' := 2) rfl rfl ?_
              have B260 : sf_B 0 600 (m247 10) := T250.2.2.1 10
              have B261 : sf_B 0 4 (m247 13) := T250.2.2.1 13
              have e262 := (F251.cell (by decide) e237)
              exact ih_177 _ (rf_mu hN_177 (sf_ne0 c189) (sf_aux129 _ _ _ _ _ X_177.2 X228 X253) X253 X254 B260.2) h249 m247 w248 1 (.int (m_177 12)) (.long 0) (pm_no) T250 F255 W259 sf_k1 rfl rfl ⟨⟨f236, e262, ct238, fun z => (bd239 (sf_aux53 _ _ ek257 z))⟩, (sf_aux109 _ _ _ _ _ X_177.2 X228 X253)⟩ rfl
            · have B263 : sf_B 0 3 (m221 13) := sf_neH0 c242 sf_k4 B241
              refine pm_R_lo pm_M186 (pc' := 91) rfl rfl rfl ?_
              refine pm_R_cv pm_M186 (pc' := 94) (a := 41) (ra := []) (rest := []) (ls' := [.ref 41]) rfl rfl (Or.inl rfl) pm_M184 T224.2.1 rfl (by decide) (Nat.lt_of_lt_of_le (by decide) T224.1) rfl rfl (Nat.le_of_ble_eq_true rfl) rfl rfl ?_
              refine pm_R_lo pm_M184 (pc' := 1) rfl rfl rfl ?_
              refine pm_R_lo pm_M184 (pc' := 2) rfl rfl rfl ?_
              have B264 : sf_B 0 600 (m221 12) := T224.2.2.1 12
              refine rf_R_get pm_M184 T224 (pc' := 5) (v := .int (m221 12)) rfl rfl rfl rfl ?_
              refine rf_R_put pm_M184 T224 (pc' := 8) rfl rfl rfl (by decide) rfl rfl B264 rfl rfl (fun h265 m268 em269 T266 F267 => ?_)
              have F270 := F233.trans F267 (by decide)
              have B271 : sf_B 0 4 (m268 17) := by rw [em269]; exact B240
              have ek272 : (m268 17).toInt = ((m221 17)).toInt := by rw [em269]; rfl
              have B273 : sf_B 0 3 (m268 13) := by rw [em269]; exact B263
              have B274 : sf_B 0 600 (m268 16) := by rw [em269]; exact B264
              have ek275 : (m268 16).toInt = ((m221 12)).toInt := by rw [em269]; rfl
              have W276 : rf_W [10, 12, 13, 14, 16, 17, 18, 21, 22] m m268 := by rw [em269]; exact W234.put (by decide)
              have W277 : rf_W [10, 12, 13, 14, 16, 17, 18, 21, 22] m m268 := by rw [em269]; exact W235.put (by decide)
              refine pm_R_op pm_M184 (pc' := 9) (st' := [.int 0]) rfl rfl rfl ?_
              refine pm_R_ret pm_M184 (r := some (.int 0)) rfl rfl ?_
              show pm_R _ 186 94 [.ref 41, .int 2, .int 1, .int (m_177 12), .long 0, pm_no] [.int 0] _ _
              refine pm_R_lo pm_M186 (pc' := 95) (ls' := [.ref 41, .int 2, .int 0, .int (m_177 12), .long 0, pm_no]) (st' := []) rfl rfl rfl ?_
              refine pm_R_lo pm_M186 (pc' := 96) rfl rfl rfl ?_
              refine pm_R_br pm_M186 (pc' := 103) (st' := []) rfl rfl ?_
              refine pm_R_br pm_M186 (pc' := 2) rfl rfl ?_
              refine pm_R_lo pm_M186 (pc' := 3) rfl rfl rfl ?_
              refine pm_R_br pm_M186 (pc' := 106) (st' := []) rfl rfl ?_
              refine pm_R_lo pm_M186 (pc' := 107) rfl rfl rfl ?_
              have B278 : sf_B 0 600 (m268 10) := T266.2.2.1 10
              exact pm_R_ret pm_M186 (r := some (.int 0)) rfl rfl (K0 m268 w222 h265 T266 F270 W276 (sf_aux83 _ _ _ _ _ X_177.2 X228))
        · have B279 : sf_B 2 2 (m_177 13) := sf_eqL (Classical.not_not.mp c193) sf_k2
          refine pm_R_lo pm_M186 (pc' := 27) rfl rfl rfl ?_
          refine rf_R_get pm_M186 T_177 (pc' := 30) (v := .long w_177) rfl rfl rfl rfl ?_
          refine pm_R_br pm_M186 (pc' := 34) rfl rfl ?_
          refine pm_R_lo pm_M186 (pc' := 36) (ls' := [.ref 41, .int 2, .int x2_177, .int (m_177 12), .long w_177, pm_no]) (st' := []) rfl rfl rfl ?_
          refine pm_R_lo pm_M186 (pc' := 37) rfl rfl rfl ?_
          refine pm_R_op pm_M186 (pc' := 38) (st' := [.int 1, .ref 41]) rfl rfl rfl ?_
          refine rf_R_put pm_M186 T_177 (pc' := 41) rfl rfl rfl (by decide) rfl rfl (sf_weak sf_k1 (by decide) (by decide)) rfl rfl (fun h280 m283 em284 T281 F282 => ?_)
          have F285 := F_177.trans F282 (by decide)
          have B286 : sf_B 0 4 (m283 17) := by rw [em284]; exact B185
          have ek287 : (m283 17).toInt = ((m_177 17)).toInt := by rw [em284]; rfl
          have B288 : sf_B 0 600 (m283 10) := by rw [em284]; exact B186
          have ek289 : (m283 10).toInt = ((m_177 10)).toInt := by rw [em284]; rfl
          have B290 : sf_B 2 2 (m283 13) := by rw [em284]; exact B279
          have B291 : sf_B 1 1 (m283 22) := by rw [em284]; exact sf_k1
          have W293 : rf_W [10, 12, 13, 14, 16, 17, 18, 21, 22] m m283 := by rw [em284]; exact W180.put (by decide)
          have W294 : rf_W [10, 12, 13, 14, 16, 17, 18, 21, 22] m m283 := by rw [em284]; exact W_177.put (by decide)
          refine pm_R_lo pm_M186 (pc' := 42) rfl rfl rfl ?_
          refine pm_R_br pm_M186 (pc' := 55) (st' := []) rfl rfl ?_
          refine pm_R_lo pm_M186 (pc' := 56) rfl rfl rfl ?_
          refine pm_R_op pm_M186 (pc' := 57) (st' := [.int 2, .int 2]) rfl rfl rfl ?_
          refine pm_R_br pm_M186 (pc' := 60) (st' := []) rfl rfl ?_
          refine pm_R_lo pm_M186 (pc' := 61) rfl rfl rfl ?_
          refine pm_R_lo pm_M186 (pc' := 63) rfl rfl rfl ?_
          refine pm_R_lo pm_M186 (pc' := 64) rfl rfl rfl ?_
          refine pm_R_cv pm_M186 (pc' := 67) (a := 41) (ra := [.int (m_177 12), .long w_177]) (rest := []) (ls' := [.ref 41, .long w_177, pm_no, .int (m_177 12), pm_no]) rfl rfl (Or.inl rfl) pm_M189 T281.2.1 rfl (by decide) (Nat.lt_of_lt_of_le (by decide) T281.1) rfl rfl (Nat.le_of_ble_eq_true rfl) rfl rfl ?_
          have e295 := (F282.cell (by decide) e182)
          refine rf_c189 (d := d + 0) T281 B192 (⟨f181, e295, ct183, fun z => (bd184 (sf_aux53 _ _ ek287 z))⟩) (fun m298 w299 h300 T301 F302 W303 X304 => ?_) (fun m307 w308 h309 T310 F311 W312 X313 X314 => ?_)
          · have F315 := F285.trans F302 (by decide)
            have W316 : rf_W [10, 12, 13, 14, 16, 17, 18, 21, 22] m m298 := W293.trans W303 (by decide)
            have W317 : rf_W [10, 12, 13, 14, 16, 17, 18, 21, 22] m m298 := W294.trans W303 (by decide)
            show pm_R _ 186 67 [.ref 41, .int 2, .int x2_177, .int (m_177 12), .long w_177, pm_no] [.int 0] _ _
            refine pm_R_br pm_M186 (pc' := 77) rfl rfl ?_
            refine pm_R_lo pm_M186 (pc' := 78) (ls' := [.ref 41, .int 2, .int 0, .int (m_177 12), .long w_177, pm_no]) (st' := []) rfl rfl rfl ?_
            refine pm_R_lo pm_M186 (pc' := 79) rfl rfl rfl ?_
            refine pm_R_br pm_M186 (pc' := 95) (st' := []) rfl rfl ?_
            refine pm_R_lo pm_M186 (pc' := 96) rfl rfl rfl ?_
            refine pm_R_br pm_M186 (pc' := 103) (st' := []) rfl rfl ?_
            refine pm_R_br pm_M186 (pc' := 2) rfl rfl ?_
            refine pm_R_lo pm_M186 (pc' := 3) rfl rfl rfl ?_
            refine pm_R_br pm_M186 (pc' := 106) (st' := []) rfl rfl ?_
            refine pm_R_lo pm_M186 (pc' := 107) rfl rfl rfl ?_
            have B318 : sf_B 0 600 (m298 10) := T301.2.2.1 10
            exact pm_R_ret pm_M186 (r := some (.int 0)) rfl rfl (K0 m298 w299 h300 T301 F315 W316 (sf_aux115 _ _ _ _ X_177.2 X304))
          · have F319 := F285.trans F311 (by decide)
            have W320 : rf_W [10, 12, 13, 14, 16, 17, 18, 21, 22] m m307 := W293.trans W312 (by decide)
            have W321 : rf_W [10, 12, 13, 14, 16, 17, 18, 21, 22] m m307 := W294.trans W312 (by decide)
            show pm_R _ 186 67 [.ref 41, .int 2, .int x2_177, .int (m_177 12), .long w_177, pm_no] [.int 1] _ _
            obtain ⟨f322, e323, ct324, bd325⟩ := X313
            have B326 : sf_B 0 4 (m307 17) := T310.2.2.1 17
            refine pm_R_br pm_M186 (pc' := 77) rfl rfl ?_
            refine pm_R_lo pm_M186 (pc' := 78) (ls' := [.ref 41, .int 2, .int 1, .int (m_177 12), .long w_177, pm_no]) (st' := []) rfl rfl rfl ?_
            refine pm_R_lo pm_M186 (pc' := 79) rfl rfl rfl ?_
            refine pm_R_br pm_M186 (pc' := 82) (st' := []) rfl rfl ?_
            refine pm_R_lo pm_M186 (pc' := 83) rfl rfl rfl ?_
            have B327 : sf_B 0 4 (m307 13) := T310.2.2.1 13
            refine rf_R_get pm_M186 T310 (pc' := 86) (v := .int (m307 13)) rfl rfl rfl rfl ?_
            refine pm_R_op pm_M186 (pc' := 87) (st' := [.int 4, .int (m307 13)]) rfl rfl rfl ?_
            refine pm_R_icmp pm_M186 (t := 95) (pc' := 90) rfl rfl rfl (fun c328 => ?_) (fun c328 => ?_)
            · have B329 : sf_B 4 4 (m307 13) := sf_eqL c328 sf_k4
              refine pm_R_lo pm_M186 (pc' := 96) rfl rfl rfl ?_
              refine pm_R_br pm_M186 (pc' := 99) (st' := []) rfl rfl ?_
              refine pm_R_lo pm_M186 (pc' := 100) rfl rfl rfl ?_
              refine pm_R_cv pm_M186 (pc' := 103) (a := 41) (ra := []) (rest := []) (ls' := [.ref 41, pm_no, pm_no]) rfl rfl (Or.inl rfl) pm_M179 T310.2.1 rfl (by decide) (Nat.lt_of_lt_of_le (by decide) T310.1) rfl rfl (Nat.le_of_ble_eq_true rfl) rfl rfl ?_
              have B330 : sf_B 0 600 (m307 10) := T310.2.2.1 10
              refine rf_c179 (d := d + 3) T310  (fun m333 w334 h335 T336 F337 W338 X339 X340 => ?_)
              have F341 := F319.trans F337 (by decide)
              have B342 : sf_B 0 4 (m333 17) := by rw [W338 17 (by decide)]; exact B326
              have ek343 : (m333 17).toInt = ((m307 17)).toInt := by rw [W338 17 (by decide)]
              have W344 : rf_W [10, 12, 13, 14, 16, 17, 18, 21, 22] m m333 := W320.trans W338 (by decide)
              have W345 : rf_W [10, 12, 13, 14, 16, 17, 18, 21, 22] m m333 := W321.trans W338 (by decide)
              show pm_R _ 186 103 [.ref 41, .int 2, .int 1, .int (m_177 12), .long w_177, pm_no] [] _ _
              refine pm_R_br pm_M186 (pc' := 2) rfl rfl ?_
              have B346 : sf_B 0 600 (m333 10) := T336.2.2.1 10
              have B347 : sf_B 0 4 (m333 13) := T336.2.2.1 13
              have e348 := (F337.cell (by decide) e323)
              exact ih_177 _ (rf_mu hN_177 (sf_ne0 c189) (sf_aux129 _ _ _ _ _ X_177.2 X314 X339) X339 X340 B346.2) h335 m333 w334 1 (.int (m_177 12)) (.long w_177) (pm_no) T336 F341 W345 sf_k1 rfl rfl ⟨⟨f322, e348, ct324, fun z => (bd325 (sf_aux53 _ _ ek343 z))⟩, (sf_aux109 _ _ _ _ _ X_177.2 X314 X339)⟩ rfl
            · have B349 : sf_B 0 3 (m307 13) := sf_neH0 c328 sf_k4 B327
              refine pm_R_lo pm_M186 (pc' := 91) rfl rfl rfl ?_
              refine pm_R_cv pm_M186 (pc' := 94) (a := 41) (ra := []) (rest := []) (ls' := [.ref 41]) rfl rfl (Or.inl rfl) pm_M184 T310.2.1 rfl (by decide) (Nat.lt_of_lt_of_le (by decide) T310.1) rfl rfl (Nat.le_of_ble_eq_true rfl) rfl rfl ?_
              refine pm_R_lo pm_M184 (pc' := 1) rfl rfl rfl ?_
              refine pm_R_lo pm_M184 (pc' := 2) rfl rfl rfl ?_
              have B350 : sf_B 0 600 (m307 12) := T310.2.2.1 12
              refine rf_R_get pm_M184 T310 (pc' := 5) (v := .int (m307 12)) rfl rfl rfl rfl ?_
              refine rf_R_put pm_M184 T310 (pc' := 8) rfl rfl rfl (by decide) rfl rfl B350 rfl rfl (fun h351 m354 em355 T352 F353 => ?_)
              have F356 := F319.trans F353 (by decide)
              have B357 : sf_B 0 4 (m354 17) := by rw [em355]; exact B326
              have ek358 : (m354 17).toInt = ((m307 17)).toInt := by rw [em355]; rfl
              have B359 : sf_B 0 3 (m354 13) := by rw [em355]; exact B349
              have B360 : sf_B 0 600 (m354 16) := by rw [em355]; exact B350
              have ek361 : (m354 16).toInt = ((m307 12)).toInt := by rw [em355]; rfl
              have W362 : rf_W [10, 12, 13, 14, 16, 17, 18, 21, 22] m m354 := by rw [em355]; exact W320.put (by decide)
              have W363 : rf_W [10, 12, 13, 14, 16, 17, 18, 21, 22] m m354 := by rw [em355]; exact W321.put (by decide)
              refine pm_R_op pm_M184 (pc' := 9) (st' := [.int 0]) rfl rfl rfl ?_
              refine pm_R_ret pm_M184 (r := some (.int 0)) rfl rfl ?_
              show pm_R _ 186 94 [.ref 41, .int 2, .int 1, .int (m_177 12), .long w_177, pm_no] [.int 0] _ _
              refine pm_R_lo pm_M186 (pc' := 95) (ls' := [.ref 41, .int 2, .int 0, .int (m_177 12), .long w_177, pm_no]) (st' := []) rfl rfl rfl ?_
              refine pm_R_lo pm_M186 (pc' := 96) rfl rfl rfl ?_
              refine pm_R_br pm_M186 (pc' := 103) (st' := []) rfl rfl ?_
              refine pm_R_br pm_M186 (pc' := 2) rfl rfl ?_
              refine pm_R_lo pm_M186 (pc' := 3) rfl rfl rfl ?_
              refine pm_R_br pm_M186 (pc' := 106) (st' := []) rfl rfl ?_
              refine pm_R_lo pm_M186 (pc' := 107) rfl rfl rfl ?_
              have B364 : sf_B 0 600 (m354 10) := T352.2.2.1 10
              exact pm_R_ret pm_M186 (r := some (.int 0)) rfl rfl (K0 m354 w308 h351 T352 F356 W362 (sf_aux83 _ _ _ _ _ X_177.2 X314))
  exact L_177 _ h m w 1 (pm_no) (pm_no) (pm_no) T (rf_G.refl [41, 51, 52] h) (rf_W.refl _ _) sf_k1 rfl rfl ⟨⟨f2, e3, ct4, fun z => (bd5 z)⟩, (sf_aux50 _ )⟩ rfl

set_option maxRecDepth 100000 in
set_option maxHeartbeats 4000000 in
/-- SilentTableModel.lines -/
theorem rf_c186_3 {d : Nat} {m : Nat → Int32} {w : Int64} {h : pm_H} {Q : Option Value → pm_H → Prop}  (T : rf_T m w h) (X : rf_I 3 (m 17) h) (K0 : ∀ (m' : Nat → Int32) (w' : Int64) (h' : pm_H), rf_T m' w' h' → rf_G [41, 51, 52] h h' → rf_W [10, 12, 13, 14, 16, 17, 18, 21, 22] m m' → (m 10).toInt ≤ (m' 10).toInt → Q (some (.int 0)) h') (K1 : ∀ (m' : Nat → Int32) (w' : Int64) (h' : pm_H), rf_T m' w' h' → rf_G [41, 51, 52] h h' → rf_W [10, 12, 13, 14, 16, 17, 18, 21, 22] m m' → rf_I 3 (m' 17) h' → (m 10).toInt ≤ (m' 10).toInt → Q (some (.int 1)) h') : pm_R (d + 5) 186 0 [.ref 41, .int 3, pm_no, pm_no, pm_no, pm_no] [] h Q := by
  have B1 : sf_B 0 600 (m 10) := T.2.2.1 10
  obtain ⟨f2, e3, ct4, bd5⟩ := X
  have B6 : sf_B 0 4 (m 17) := T.2.2.1 17
  refine pm_R_op pm_M186 (pc' := 1) (st' := [.int 1]) rfl rfl rfl ?_
  refine pm_R_lo pm_M186 (pc' := 2) (ls' := [.ref 41, .int 3, .int 1, pm_no, pm_no, pm_no]) (st' := []) rfl rfl rfl ?_
  have L_177 : ∀ (N : Nat) (h_177 : pm_H) (m_177 : Nat → Int32) (w_177 : Int64) (x2_177 : Int32) (g3_177 : Value) (g4_177 : Value) (g5_177 : Value), rf_T m_177 w_177 h_177 → rf_G [41, 51, 52] h h_177 → rf_W [10, 12, 13, 14, 16, 17, 18, 21, 22] m m_177 → sf_B 1 1 x2_177 → g3_177.category = 1 → g5_177.category = 1 → rf_I 3 (m_177 17) h_177 ∧ (m 10).toInt ≤ (m_177 10).toInt → ((600 - (m_177 10).toInt).toNat + (if (m_177 13).toInt = 0 then 0 else 1)) = N → pm_R (d + 5) 186 2 [.ref 41, .int 3, .int x2_177, g3_177, g4_177, g5_177] [] h_177 Q := by
    intro N
    induction N using Nat.strongRecOn with
    | ind N ih_177 =>
      intro h_177 m_177 w_177 x2_177 g3_177 g4_177 g5_177 T_177 F_177 W_177 Bx2_177 Cg3_177 Cg5_177 X_177 hN_177
      have W180 : rf_W [10, 12, 13, 14, 16, 17, 18, 21, 22] m m_177 := (rf_W.refl [10, 12, 13, 14, 16, 17, 18, 21, 22] m).trans W_177 (by decide)
      obtain ⟨f181, e182, ct183, bd184⟩ := X_177.1
      have B185 : sf_B 0 4 (m_177 17) := T_177.2.2.1 17
      have B186 : sf_B 0 600 (m_177 10) := T_177.2.2.1 10
      refine pm_R_lo pm_M186 (pc' := 3) rfl rfl rfl ?_
      refine pm_R_ifc pm_M186 (t := 106) (pc' := 6) rfl rfl rfl (fun c187 => absurd c187 (sf_neq1 Bx2_177 sf_k0 (by decide))) (fun c187 => ?_)
      skip
      refine pm_R_lo pm_M186 (pc' := 7) rfl rfl rfl ?_
      have B188 : sf_B 0 4 (m_177 13) := T_177.2.2.1 13
      refine rf_R_get pm_M186 T_177 (pc' := 10) (v := .int (m_177 13)) rfl rfl rfl rfl ?_
      refine pm_R_ifc pm_M186 (t := 106) (pc' := 13) rfl rfl rfl (fun c189 => ?_) (fun c189 => ?_)
      · have B190 : sf_B 0 0 (m_177 13) := sf_eqL c189 sf_k0
        refine pm_R_lo pm_M186 (pc' := 107) rfl rfl rfl ?_
        rw [sf_pt2 Bx2_177 sf_k1]
        exact pm_R_ret pm_M186 (r := some (.int 1)) rfl rfl (K1 m_177 w_177 h_177 T_177 F_177 W180 (⟨f181, e182, ct183, fun z => (bd184 z)⟩) (sf_aux52 _ _ X_177.2))
      · have B191 : sf_B 1 4 (m_177 13) := sf_neL0 c189 sf_k0 B188
        refine pm_R_lo pm_M186 (pc' := 14) rfl rfl rfl ?_
        have B192 : sf_B 0 600 (m_177 12) := T_177.2.2.1 12
        refine rf_R_get pm_M186 T_177 (pc' := 17) (v := .int (m_177 12)) rfl rfl rfl rfl ?_
        refine pm_R_lo pm_M186 (pc' := 18) (ls' := [.ref 41, .int 3, .int x2_177, .int (m_177 12), g4_177, g5_177]) (st' := []) rfl rfl rfl ?_
        refine pm_R_lo pm_M186 (pc' := 19) rfl rfl rfl ?_
        refine rf_R_get pm_M186 T_177 (pc' := 22) (v := .int (m_177 13)) rfl rfl rfl rfl ?_
        refine pm_R_op pm_M186 (pc' := 23) (st' := [.int 2, .int (m_177 13)]) rfl rfl rfl ?_
        refine pm_R_icmp pm_M186 (t := 33) (pc' := 26) rfl rfl rfl (fun c193 => ?_) (fun c193 => ?_)
        · skip
          refine pm_R_op pm_M186 (pc' := 34) (st' := [.long 0]) rfl rfl rfl ?_
          refine pm_R_lo pm_M186 (pc' := 36) (ls' := [.ref 41, .int 3, .int x2_177, .int (m_177 12), .long 0, pm_no]) (st' := []) rfl rfl rfl ?_
          refine pm_R_lo pm_M186 (pc' := 37) rfl rfl rfl ?_
          refine pm_R_op pm_M186 (pc' := 38) (st' := [.int 1, .ref 41]) rfl rfl rfl ?_
          refine rf_R_put pm_M186 T_177 (pc' := 41) rfl rfl rfl (by decide) rfl rfl (sf_weak sf_k1 (by decide) (by decide)) rfl rfl (fun h194 m197 em198 T195 F196 => ?_)
          have F199 := F_177.trans F196 (by decide)
          have B200 : sf_B 0 4 (m197 17) := by rw [em198]; exact B185
          have ek201 : (m197 17).toInt = ((m_177 17)).toInt := by rw [em198]; rfl
          have B202 : sf_B 0 600 (m197 10) := by rw [em198]; exact B186
          have ek203 : (m197 10).toInt = ((m_177 10)).toInt := by rw [em198]; rfl
          have B204 : sf_B 1 4 (m197 13) := by rw [em198]; exact B191
          have B205 : sf_B 1 1 (m197 22) := by rw [em198]; exact sf_k1
          have W207 : rf_W [10, 12, 13, 14, 16, 17, 18, 21, 22] m m197 := by rw [em198]; exact W180.put (by decide)
          have W208 : rf_W [10, 12, 13, 14, 16, 17, 18, 21, 22] m m197 := by rw [em198]; exact W_177.put (by decide)
          refine pm_R_lo pm_M186 (pc' := 42) rfl rfl rfl ?_
          refine pm_R_br pm_M186 (pc' := 55) (st' := []) rfl rfl ?_
          refine pm_R_lo pm_M186 (pc' := 56) rfl rfl rfl ?_
          refine pm_R_op pm_M186 (pc' := 57) (st' := [.int 2, .int 3]) rfl rfl rfl ?_
          refine pm_R_br pm_M186 (pc' := 70) (st' := []) rfl rfl ?_
          refine pm_R_lo pm_M186 (pc' := 71) rfl rfl rfl ?_
          refine pm_R_lo pm_M186 (pc' := 73) rfl rfl rfl ?_
          refine pm_R_lo pm_M186 (pc' := 74) rfl rfl rfl ?_
          refine pm_R_cv pm_M186 (pc' := 77) (a := 41) (ra := [.int (m_177 12), .long 0]) (rest := []) (ls' := [.ref 41, .long 0, pm_no, .int (m_177 12), pm_no]) rfl rfl (Or.inl rfl) pm_M192 T195.2.1 rfl (by decide) (Nat.lt_of_lt_of_le (by decide) T195.1) rfl rfl (Nat.le_of_ble_eq_true rfl) rfl rfl ?_
          have e209 := (F196.cell (by decide) e182)
          refine rf_c192 (d := d + 1) T195 B192 (⟨f181, e209, ct183, fun z => (bd184 (sf_aux53 _ _ ek201 z))⟩) (fun m212 w213 h214 T215 F216 W217 X218 => ?_) (fun m221 w222 h223 T224 F225 W226 X227 X228 => ?_)
          · have F229 := F199.trans F216 (by decide)
            have W230 : rf_W [10, 12, 13, 14, 16, 17, 18, 21, 22] m m212 := W207.trans W217 (by decide)
            have W231 : rf_W [10, 12, 13, 14, 16, 17, 18, 21, 22] m m212 := W208.trans W217 (by decide)
            show pm_R _ 186 77 [.ref 41, .int 3, .int x2_177, .int (m_177 12), .long 0, pm_no] [.int 0] _ _
            refine pm_R_lo pm_M186 (pc' := 78) (ls' := [.ref 41, .int 3, .int 0, .int (m_177 12), .long 0, pm_no]) (st' := []) rfl rfl rfl ?_
            refine pm_R_lo pm_M186 (pc' := 79) rfl rfl rfl ?_
            refine pm_R_br pm_M186 (pc' := 95) (st' := []) rfl rfl ?_
            refine pm_R_lo pm_M186 (pc' := 96) rfl rfl rfl ?_
            refine pm_R_br pm_M186 (pc' := 103) (st' := []) rfl rfl ?_
            refine pm_R_br pm_M186 (pc' := 2) rfl rfl ?_
            refine pm_R_lo pm_M186 (pc' := 3) rfl rfl rfl ?_
            refine pm_R_br pm_M186 (pc' := 106) (st' := []) rfl rfl ?_
            refine pm_R_lo pm_M186 (pc' := 107) rfl rfl rfl ?_
            have B232 : sf_B 0 600 (m212 10) := T215.2.2.1 10
            exact pm_R_ret pm_M186 (r := some (.int 0)) rfl rfl (K0 m212 w213 h214 T215 F229 W230 (sf_aux115 _ _ _ _ X_177.2 X218))
          · have F233 := F199.trans F225 (by decide)
            have W234 : rf_W [10, 12, 13, 14, 16, 17, 18, 21, 22] m m221 := W207.trans W226 (by decide)
            have W235 : rf_W [10, 12, 13, 14, 16, 17, 18, 21, 22] m m221 := W208.trans W226 (by decide)
            show pm_R _ 186 77 [.ref 41, .int 3, .int x2_177, .int (m_177 12), .long 0, pm_no] [.int 1] _ _
            obtain ⟨f236, e237, ct238, bd239⟩ := X227
            have B240 : sf_B 0 4 (m221 17) := T224.2.2.1 17
            refine pm_R_lo pm_M186 (pc' := 78) (ls' := [.ref 41, .int 3, .int 1, .int (m_177 12), .long 0, pm_no]) (st' := []) rfl rfl rfl ?_
            refine pm_R_lo pm_M186 (pc' := 79) rfl rfl rfl ?_
            refine pm_R_br pm_M186 (pc' := 82) (st' := []) rfl rfl ?_
            refine pm_R_lo pm_M186 (pc' := 83) rfl rfl rfl ?_
            have B241 : sf_B 0 4 (m221 13) := T224.2.2.1 13
            refine rf_R_get pm_M186 T224 (pc' := 86) (v := .int (m221 13)) rfl rfl rfl rfl ?_
            refine pm_R_op pm_M186 (pc' := 87) (st' := [.int 4, .int (m221 13)]) rfl rfl rfl ?_
            refine pm_R_icmp pm_M186 (t := 95) (pc' := 90) rfl rfl rfl (fun c242 => ?_) (fun c242 => ?_)
            · have B243 : sf_B 4 4 (m221 13) := sf_eqL c242 sf_k4
              refine pm_R_lo pm_M186 (pc' := 96) rfl rfl rfl ?_
              refine pm_R_br pm_M186 (pc' := 99) (st' := []) rfl rfl ?_
              refine pm_R_lo pm_M186 (pc' := 100) rfl rfl rfl ?_
              refine pm_R_cv pm_M186 (pc' := 103) (a := 41) (ra := []) (rest := []) (ls' := [.ref 41, pm_no, pm_no]) rfl rfl (Or.inl rfl) pm_M179 T224.2.1 rfl (by decide) (Nat.lt_of_lt_of_le (by decide) T224.1) rfl rfl (Nat.le_of_ble_eq_true rfl) rfl rfl ?_
              have B244 : sf_B 0 600 (m221 10) := T224.2.2.1 10
              refine rf_c179 (d := d + 3) T224  (fun m247 w248 h249 T250 F251 W252 X253 X254 => ?_)
              have F255 := F233.trans F251 (by decide)
              have B256 : sf_B 0 4 (m247 17) := by rw [W252 17 (by decide)]; exact B240
              have ek257 : (m247 17).toInt = ((m221 17)).toInt := by rw [W252 17 (by decide)]
              have W258 : rf_W [10, 12, 13, 14, 16, 17, 18, 21, 22] m m247 := W234.trans W252 (by decide)
              have W259 : rf_W [10, 12, 13, 14, 16, 17, 18, 21, 22] m m247 := W235.trans W252 (by decide)
              show pm_R _ 186 103 [.ref 41, .int 3, .int 1, .int (m_177 12), .long 0, pm_no] [] _ _
              refine pm_R_br pm_M186 (pc' := 2) rfl rfl ?_
              have B260 : sf_B 0 600 (m247 10) := T250.2.2.1 10
              have B261 : sf_B 0 4 (m247 13) := T250.2.2.1 13
              have e262 := (F251.cell (by decide) e237)
              exact ih_177 _ (rf_mu hN_177 (sf_ne0 c189) (sf_aux129 _ _ _ _ _ X_177.2 X228 X253) X253 X254 B260.2) h249 m247 w248 1 (.int (m_177 12)) (.long 0) (pm_no) T250 F255 W259 sf_k1 rfl rfl ⟨⟨f236, e262, ct238, fun z => (bd239 (sf_aux53 _ _ ek257 z))⟩, (sf_aux109 _ _ _ _ _ X_177.2 X228 X253)⟩ rfl
            · have B263 : sf_B 0 3 (m221 13) := sf_neH0 c242 sf_k4 B241
              refine pm_R_lo pm_M186 (pc' := 91) rfl rfl rfl ?_
              refine pm_R_cv pm_M186 (pc' := 94) (a := 41) (ra := []) (rest := []) (ls' := [.ref 41]) rfl rfl (Or.inl rfl) pm_M184 T224.2.1 rfl (by decide) (Nat.lt_of_lt_of_le (by decide) T224.1) rfl rfl (Nat.le_of_ble_eq_true rfl) rfl rfl ?_
              refine pm_R_lo pm_M184 (pc' := 1) rfl rfl rfl ?_
              refine pm_R_lo pm_M184 (pc' := 2) rfl rfl rfl ?_
              have B264 : sf_B 0 600 (m221 12) := T224.2.2.1 12
              refine rf_R_get pm_M184 T224 (pc' := 5) (v := .int (m221 12)) rfl rfl rfl rfl ?_
              refine rf_R_put pm_M184 T224 (pc' := 8) rfl rfl rfl (by decide) rfl rfl B264 rfl rfl (fun h265 m268 em269 T266 F267 => ?_)
              have F270 := F233.trans F267 (by decide)
              have B271 : sf_B 0 4 (m268 17) := by rw [em269]; exact B240
              have ek272 : (m268 17).toInt = ((m221 17)).toInt := by rw [em269]; rfl
              have B273 : sf_B 0 3 (m268 13) := by rw [em269]; exact B263
              have B274 : sf_B 0 600 (m268 16) := by rw [em269]; exact B264
              have ek275 : (m268 16).toInt = ((m221 12)).toInt := by rw [em269]; rfl
              have W276 : rf_W [10, 12, 13, 14, 16, 17, 18, 21, 22] m m268 := by rw [em269]; exact W234.put (by decide)
              have W277 : rf_W [10, 12, 13, 14, 16, 17, 18, 21, 22] m m268 := by rw [em269]; exact W235.put (by decide)
              refine pm_R_op pm_M184 (pc' := 9) (st' := [.int 0]) rfl rfl rfl ?_
              refine pm_R_ret pm_M184 (r := some (.int 0)) rfl rfl ?_
              show pm_R _ 186 94 [.ref 41, .int 3, .int 1, .int (m_177 12), .long 0, pm_no] [.int 0] _ _
              refine pm_R_lo pm_M186 (pc' := 95) (ls' := [.ref 41, .int 3, .int 0, .int (m_177 12), .long 0, pm_no]) (st' := []) rfl rfl rfl ?_
              refine pm_R_lo pm_M186 (pc' := 96) rfl rfl rfl ?_
              refine pm_R_br pm_M186 (pc' := 103) (st' := []) rfl rfl ?_
              refine pm_R_br pm_M186 (pc' := 2) rfl rfl ?_
              refine pm_R_lo pm_M186 (pc' := 3) rfl rfl rfl ?_
              refine pm_R_br pm_M186 (pc' := 106) (st' := []) rfl rfl ?_
              refine pm_R_lo pm_M186 (pc' := 107) rfl rfl rfl ?_
              have B278 : sf_B 0 600 (m268 10) := T266.2.2.1 10
              exact pm_R_ret pm_M186 (r := some (.int 0)) rfl rfl (K0 m268 w222 h265 T266 F270 W276 (sf_aux83 _ _ _ _ _ X_177.2 X228))
        · have B279 : sf_B 2 2 (m_177 13) := sf_eqL (Classical.not_not.mp c193) sf_k2
          refine pm_R_lo pm_M186 (pc' := 27) rfl rfl rfl ?_
          refine rf_R_get pm_M186 T_177 (pc' := 30) (v := .long w_177) rfl rfl rfl rfl ?_
          refine pm_R_br pm_M186 (pc' := 34) rfl rfl ?_
          refine pm_R_lo pm_M186 (pc' := 36) (ls' := [.ref 41, .int 3, .int x2_177, .int (m_177 12), .long w_177, pm_no]) (st' := []) rfl rfl rfl ?_
          refine pm_R_lo pm_M186 (pc' := 37) rfl rfl rfl ?_
          refine pm_R_op pm_M186 (pc' := 38) (st' := [.int 1, .ref 41]) rfl rfl rfl ?_
          refine rf_R_put pm_M186 T_177 (pc' := 41) rfl rfl rfl (by decide) rfl rfl (sf_weak sf_k1 (by decide) (by decide)) rfl rfl (fun h280 m283 em284 T281 F282 => ?_)
          have F285 := F_177.trans F282 (by decide)
          have B286 : sf_B 0 4 (m283 17) := by rw [em284]; exact B185
          have ek287 : (m283 17).toInt = ((m_177 17)).toInt := by rw [em284]; rfl
          have B288 : sf_B 0 600 (m283 10) := by rw [em284]; exact B186
          have ek289 : (m283 10).toInt = ((m_177 10)).toInt := by rw [em284]; rfl
          have B290 : sf_B 2 2 (m283 13) := by rw [em284]; exact B279
          have B291 : sf_B 1 1 (m283 22) := by rw [em284]; exact sf_k1
          have W293 : rf_W [10, 12, 13, 14, 16, 17, 18, 21, 22] m m283 := by rw [em284]; exact W180.put (by decide)
          have W294 : rf_W [10, 12, 13, 14, 16, 17, 18, 21, 22] m m283 := by rw [em284]; exact W_177.put (by decide)
          refine pm_R_lo pm_M186 (pc' := 42) rfl rfl rfl ?_
          refine pm_R_br pm_M186 (pc' := 55) (st' := []) rfl rfl ?_
          refine pm_R_lo pm_M186 (pc' := 56) rfl rfl rfl ?_
          refine pm_R_op pm_M186 (pc' := 57) (st' := [.int 2, .int 3]) rfl rfl rfl ?_
          refine pm_R_br pm_M186 (pc' := 70) (st' := []) rfl rfl ?_
          refine pm_R_lo pm_M186 (pc' := 71) rfl rfl rfl ?_
          refine pm_R_lo pm_M186 (pc' := 73) rfl rfl rfl ?_
          refine pm_R_lo pm_M186 (pc' := 74) rfl rfl rfl ?_
          refine pm_R_cv pm_M186 (pc' := 77) (a := 41) (ra := [.int (m_177 12), .long w_177]) (rest := []) (ls' := [.ref 41, .long w_177, pm_no, .int (m_177 12), pm_no]) rfl rfl (Or.inl rfl) pm_M192 T281.2.1 rfl (by decide) (Nat.lt_of_lt_of_le (by decide) T281.1) rfl rfl (Nat.le_of_ble_eq_true rfl) rfl rfl ?_
          have e295 := (F282.cell (by decide) e182)
          refine rf_c192 (d := d + 1) T281 B192 (⟨f181, e295, ct183, fun z => (bd184 (sf_aux53 _ _ ek287 z))⟩) (fun m298 w299 h300 T301 F302 W303 X304 => ?_) (fun m307 w308 h309 T310 F311 W312 X313 X314 => ?_)
          · have F315 := F285.trans F302 (by decide)
            have W316 : rf_W [10, 12, 13, 14, 16, 17, 18, 21, 22] m m298 := W293.trans W303 (by decide)
            have W317 : rf_W [10, 12, 13, 14, 16, 17, 18, 21, 22] m m298 := W294.trans W303 (by decide)
            show pm_R _ 186 77 [.ref 41, .int 3, .int x2_177, .int (m_177 12), .long w_177, pm_no] [.int 0] _ _
            refine pm_R_lo pm_M186 (pc' := 78) (ls' := [.ref 41, .int 3, .int 0, .int (m_177 12), .long w_177, pm_no]) (st' := []) rfl rfl rfl ?_
            refine pm_R_lo pm_M186 (pc' := 79) rfl rfl rfl ?_
            refine pm_R_br pm_M186 (pc' := 95) (st' := []) rfl rfl ?_
            refine pm_R_lo pm_M186 (pc' := 96) rfl rfl rfl ?_
            refine pm_R_br pm_M186 (pc' := 103) (st' := []) rfl rfl ?_
            refine pm_R_br pm_M186 (pc' := 2) rfl rfl ?_
            refine pm_R_lo pm_M186 (pc' := 3) rfl rfl rfl ?_
            refine pm_R_br pm_M186 (pc' := 106) (st' := []) rfl rfl ?_
            refine pm_R_lo pm_M186 (pc' := 107) rfl rfl rfl ?_
            have B318 : sf_B 0 600 (m298 10) := T301.2.2.1 10
            exact pm_R_ret pm_M186 (r := some (.int 0)) rfl rfl (K0 m298 w299 h300 T301 F315 W316 (sf_aux115 _ _ _ _ X_177.2 X304))
          · have F319 := F285.trans F311 (by decide)
            have W320 : rf_W [10, 12, 13, 14, 16, 17, 18, 21, 22] m m307 := W293.trans W312 (by decide)
            have W321 : rf_W [10, 12, 13, 14, 16, 17, 18, 21, 22] m m307 := W294.trans W312 (by decide)
            show pm_R _ 186 77 [.ref 41, .int 3, .int x2_177, .int (m_177 12), .long w_177, pm_no] [.int 1] _ _
            obtain ⟨f322, e323, ct324, bd325⟩ := X313
            have B326 : sf_B 0 4 (m307 17) := T310.2.2.1 17
            refine pm_R_lo pm_M186 (pc' := 78) (ls' := [.ref 41, .int 3, .int 1, .int (m_177 12), .long w_177, pm_no]) (st' := []) rfl rfl rfl ?_
            refine pm_R_lo pm_M186 (pc' := 79) rfl rfl rfl ?_
            refine pm_R_br pm_M186 (pc' := 82) (st' := []) rfl rfl ?_
            refine pm_R_lo pm_M186 (pc' := 83) rfl rfl rfl ?_
            have B327 : sf_B 0 4 (m307 13) := T310.2.2.1 13
            refine rf_R_get pm_M186 T310 (pc' := 86) (v := .int (m307 13)) rfl rfl rfl rfl ?_
            refine pm_R_op pm_M186 (pc' := 87) (st' := [.int 4, .int (m307 13)]) rfl rfl rfl ?_
            refine pm_R_icmp pm_M186 (t := 95) (pc' := 90) rfl rfl rfl (fun c328 => ?_) (fun c328 => ?_)
            · have B329 : sf_B 4 4 (m307 13) := sf_eqL c328 sf_k4
              refine pm_R_lo pm_M186 (pc' := 96) rfl rfl rfl ?_
              refine pm_R_br pm_M186 (pc' := 99) (st' := []) rfl rfl ?_
              refine pm_R_lo pm_M186 (pc' := 100) rfl rfl rfl ?_
              refine pm_R_cv pm_M186 (pc' := 103) (a := 41) (ra := []) (rest := []) (ls' := [.ref 41, pm_no, pm_no]) rfl rfl (Or.inl rfl) pm_M179 T310.2.1 rfl (by decide) (Nat.lt_of_lt_of_le (by decide) T310.1) rfl rfl (Nat.le_of_ble_eq_true rfl) rfl rfl ?_
              have B330 : sf_B 0 600 (m307 10) := T310.2.2.1 10
              refine rf_c179 (d := d + 3) T310  (fun m333 w334 h335 T336 F337 W338 X339 X340 => ?_)
              have F341 := F319.trans F337 (by decide)
              have B342 : sf_B 0 4 (m333 17) := by rw [W338 17 (by decide)]; exact B326
              have ek343 : (m333 17).toInt = ((m307 17)).toInt := by rw [W338 17 (by decide)]
              have W344 : rf_W [10, 12, 13, 14, 16, 17, 18, 21, 22] m m333 := W320.trans W338 (by decide)
              have W345 : rf_W [10, 12, 13, 14, 16, 17, 18, 21, 22] m m333 := W321.trans W338 (by decide)
              show pm_R _ 186 103 [.ref 41, .int 3, .int 1, .int (m_177 12), .long w_177, pm_no] [] _ _
              refine pm_R_br pm_M186 (pc' := 2) rfl rfl ?_
              have B346 : sf_B 0 600 (m333 10) := T336.2.2.1 10
              have B347 : sf_B 0 4 (m333 13) := T336.2.2.1 13
              have e348 := (F337.cell (by decide) e323)
              exact ih_177 _ (rf_mu hN_177 (sf_ne0 c189) (sf_aux129 _ _ _ _ _ X_177.2 X314 X339) X339 X340 B346.2) h335 m333 w334 1 (.int (m_177 12)) (.long w_177) (pm_no) T336 F341 W345 sf_k1 rfl rfl ⟨⟨f322, e348, ct324, fun z => (bd325 (sf_aux53 _ _ ek343 z))⟩, (sf_aux109 _ _ _ _ _ X_177.2 X314 X339)⟩ rfl
            · have B349 : sf_B 0 3 (m307 13) := sf_neH0 c328 sf_k4 B327
              refine pm_R_lo pm_M186 (pc' := 91) rfl rfl rfl ?_
              refine pm_R_cv pm_M186 (pc' := 94) (a := 41) (ra := []) (rest := []) (ls' := [.ref 41]) rfl rfl (Or.inl rfl) pm_M184 T310.2.1 rfl (by decide) (Nat.lt_of_lt_of_le (by decide) T310.1) rfl rfl (Nat.le_of_ble_eq_true rfl) rfl rfl ?_
              refine pm_R_lo pm_M184 (pc' := 1) rfl rfl rfl ?_
              refine pm_R_lo pm_M184 (pc' := 2) rfl rfl rfl ?_
              have B350 : sf_B 0 600 (m307 12) := T310.2.2.1 12
              refine rf_R_get pm_M184 T310 (pc' := 5) (v := .int (m307 12)) rfl rfl rfl rfl ?_
              refine rf_R_put pm_M184 T310 (pc' := 8) rfl rfl rfl (by decide) rfl rfl B350 rfl rfl (fun h351 m354 em355 T352 F353 => ?_)
              have F356 := F319.trans F353 (by decide)
              have B357 : sf_B 0 4 (m354 17) := by rw [em355]; exact B326
              have ek358 : (m354 17).toInt = ((m307 17)).toInt := by rw [em355]; rfl
              have B359 : sf_B 0 3 (m354 13) := by rw [em355]; exact B349
              have B360 : sf_B 0 600 (m354 16) := by rw [em355]; exact B350
              have ek361 : (m354 16).toInt = ((m307 12)).toInt := by rw [em355]; rfl
              have W362 : rf_W [10, 12, 13, 14, 16, 17, 18, 21, 22] m m354 := by rw [em355]; exact W320.put (by decide)
              have W363 : rf_W [10, 12, 13, 14, 16, 17, 18, 21, 22] m m354 := by rw [em355]; exact W321.put (by decide)
              refine pm_R_op pm_M184 (pc' := 9) (st' := [.int 0]) rfl rfl rfl ?_
              refine pm_R_ret pm_M184 (r := some (.int 0)) rfl rfl ?_
              show pm_R _ 186 94 [.ref 41, .int 3, .int 1, .int (m_177 12), .long w_177, pm_no] [.int 0] _ _
              refine pm_R_lo pm_M186 (pc' := 95) (ls' := [.ref 41, .int 3, .int 0, .int (m_177 12), .long w_177, pm_no]) (st' := []) rfl rfl rfl ?_
              refine pm_R_lo pm_M186 (pc' := 96) rfl rfl rfl ?_
              refine pm_R_br pm_M186 (pc' := 103) (st' := []) rfl rfl ?_
              refine pm_R_br pm_M186 (pc' := 2) rfl rfl ?_
              refine pm_R_lo pm_M186 (pc' := 3) rfl rfl rfl ?_
              refine pm_R_br pm_M186 (pc' := 106) (st' := []) rfl rfl ?_
              refine pm_R_lo pm_M186 (pc' := 107) rfl rfl rfl ?_
              have B364 : sf_B 0 600 (m354 10) := T352.2.2.1 10
              exact pm_R_ret pm_M186 (r := some (.int 0)) rfl rfl (K0 m354 w308 h351 T352 F356 W362 (sf_aux83 _ _ _ _ _ X_177.2 X314))
  exact L_177 _ h m w 1 (pm_no) (pm_no) (pm_no) T (rf_G.refl [41, 51, 52] h) (rf_W.refl _ _) sf_k1 rfl rfl ⟨⟨f2, e3, ct4, fun z => (bd5 z)⟩, (sf_aux50 _ )⟩ rfl

set_option maxRecDepth 100000 in
set_option maxHeartbeats 4000000 in
/-- SilentTableModel.readText -/
theorem rf_c178_0 {d : Nat} {m : Nat → Int32} {w : Int64} {h : pm_H} {Q : Option Value → pm_H → Prop}  (T : rf_T m w h)  (K0 : ∀ (m' : Nat → Int32) (w' : Int64) (h' : pm_H), rf_T m' w' h' → rf_G [41, 44, 45, 51, 52] h h' → rf_W [10, 12, 13, 14, 16, 17, 18, 21, 22] m m' → Q (some (.int 0)) h') (K1 : ∀ (m' : Nat → Int32) (w' : Int64) (h' : pm_H), rf_T m' w' h' → rf_G [41, 44, 45, 51, 52] h h' → rf_W [10, 12, 13, 14, 16, 17, 18, 21, 22] m m' → (∃ f : Nat → Int32, h'.2.2 51 = .inl (0, 152, .inl f) ∧ rf_bd 0 f) → Q (some (.int 1)) h') : pm_R (d + 6) 178 0 [.ref 41, .int 0, pm_no, pm_no] [] h Q := by
  refine pm_R_op pm_M178 (pc' := 1) (st' := [.int 0]) rfl rfl rfl ?_
  refine pm_R_lo pm_M178 (pc' := 2) (ls' := [.ref 41, .int 0, .int 0, pm_no]) (st' := []) rfl rfl rfl ?_
  have L_376 : ∀ (N : Nat) (h_376 : pm_H) (m_376 : Nat → Int32) (w_376 : Int64) (x2_376 : Int32), rf_T m_376 w_376 h_376 → rf_G [41, 44, 45, 51, 52] h h_376 → rf_W [] m m_376 → sf_B 0 152 x2_376 → (∃ f : Nat → Int32, h_376.2.2 51 = .inl (0, 152, .inl f) ∧ ∀ j : Nat, (j : Int) < x2_376.toInt → f j = 0) → (152 - x2_376.toInt).toNat = N → pm_R (d + 6) 178 2 [.ref 41, .int 0, .int x2_376, pm_no] [] h_376 Q := by
    intro N
    induction N using Nat.strongRecOn with
    | ind N ih_376 =>
      intro h_376 m_376 w_376 x2_376 T_376 F_376 W_376 Bx2_376 X_376 hN_376
      have W379 : rf_W [10, 12, 13, 14, 16, 17, 18, 21, 22] m m_376 := (rf_W.refl [10, 12, 13, 14, 16, 17, 18, 21, 22] m).trans W_376 (by decide)
      obtain ⟨f380, e381, zz382⟩ := X_376
      refine pm_R_lo pm_M178 (pc' := 3) rfl rfl rfl ?_
      refine pm_R_op pm_M178 (pc' := 6) (st' := [.int 152, .int x2_376]) rfl rfl rfl ?_
      refine pm_R_icmp pm_M178 (t := 22) (pc' := 9) rfl rfl rfl (fun c383 => ?_) (fun c383 => ?_)
      · have B384 : sf_B 152 152 x2_376 := sf_leR c383 sf_k152 Bx2_376
        refine pm_R_lo pm_M178 (pc' := 23) rfl rfl rfl ?_
        refine rf_R_get pm_M178 T_376 (pc' := 26) (v := .ref 51) rfl rfl rfl rfl ?_
        refine pm_R_op pm_M178 (pc' := 27) (st' := [.int 0, .ref 51]) rfl rfl rfl ?_
        refine pm_R_lo pm_M178 (pc' := 28) rfl rfl rfl ?_
        refine pm_R_op pm_M178 (pc' := 29) (st' := [.int 2, .int 0, .int 0, .ref 51]) rfl rfl rfl ?_
        refine pm_R_br pm_M178 (pc' := 36) (st' := [.int 0, .ref 51]) rfl rfl ?_
        refine pm_R_op pm_M178 (pc' := 37) (st' := [.int 0, .int 0, .ref 51]) rfl rfl rfl ?_
        refine rf_R_ist pm_M178 T_376 (pc' := 38) rfl e381 (by decide) (by decide) rfl ⟨_, rfl⟩ rfl (fun h385 T386 F387 e388 => ?_)
        have F389 := F_376.trans F387 (by decide)
        have ct390 : rf_ct 0 (upd f380 (Int32.toNatClampNeg 0) 0) ∧ rf_bd 0 (upd f380 (Int32.toNatClampNeg 0) 0) := rf_all0_0 (fun j hj => zz382 j (by have := Int32.le_iff_toInt_le.mp c383; have e0 : (152 : Int32).toInt = 152 := rfl; omega))
        refine pm_R_lo pm_M178 (pc' := 39) rfl rfl rfl ?_
        refine pm_R_op pm_M178 (pc' := 40) (st' := [.int (-1), .ref 41]) rfl rfl rfl ?_
        refine rf_R_put pm_M178 T386 (pc' := 43) rfl rfl rfl (by decide) rfl rfl (sf_weak sf_kn1 (by decide) (by decide)) rfl rfl (fun h392 m395 em396 T393 F394 => ?_)
        have F397 := F389.trans F394 (by decide)
        have B398 : sf_B (-1) (-1) (m395 21) := by rw [em396]; exact sf_kn1
        have W400 : rf_W [10, 12, 13, 14, 16, 17, 18, 21, 22] m m395 := by rw [em396]; exact W379.put (by decide)
        refine pm_R_lo pm_M178 (pc' := 44) rfl rfl rfl ?_
        refine pm_R_op pm_M178 (pc' := 45) (st' := [.int 0, .ref 41]) rfl rfl rfl ?_
        refine rf_R_put pm_M178 T393 (pc' := 48) rfl rfl rfl (by decide) rfl rfl (sf_weak sf_k0 (by decide) (by decide)) rfl rfl (fun h401 m404 em405 T402 F403 => ?_)
        have F406 := F397.trans F403 (by decide)
        have B407 : sf_B (-1) (-1) (m404 21) := by rw [em405]; exact B398
        have B408 : sf_B 0 0 (m404 10) := by rw [em405]; exact sf_k0
        have W410 : rf_W [10, 12, 13, 14, 16, 17, 18, 21, 22] m m404 := by rw [em405]; exact W400.put (by decide)
        refine pm_R_lo pm_M178 (pc' := 49) rfl rfl rfl ?_
        refine pm_R_op pm_M178 (pc' := 50) (st' := [.int 0, .ref 41]) rfl rfl rfl ?_
        refine rf_R_put pm_M178 T402 (pc' := 53) rfl rfl rfl (by decide) rfl rfl (sf_weak sf_k0 (by decide) (by decide)) rfl rfl (fun h411 m414 em415 T412 F413 => ?_)
        have F416 := F406.trans F413 (by decide)
        have B417 : sf_B (-1) (-1) (m414 21) := by rw [em415]; exact B407
        have B418 : sf_B 0 0 (m414 10) := by rw [em415]; exact B408
        have ek419 : (m414 10).toInt = ((m404 10)).toInt := by rw [em415]; rfl
        have B420 : sf_B 0 0 (m414 17) := by rw [em415]; exact sf_k0
        have W422 : rf_W [10, 12, 13, 14, 16, 17, 18, 21, 22] m m414 := by rw [em415]; exact W410.put (by decide)
        refine pm_R_lo pm_M178 (pc' := 54) rfl rfl rfl ?_
        refine pm_R_cv pm_M178 (pc' := 57) (a := 41) (ra := []) (rest := []) (ls' := [.ref 41, pm_no, pm_no]) rfl rfl (Or.inl rfl) pm_M179 T412.2.1 rfl (by decide) (Nat.lt_of_lt_of_le (by decide) T412.1) rfl rfl (Nat.le_of_ble_eq_true rfl) rfl rfl ?_
        refine rf_c179 (d := d + 4) T412  (fun m425 w426 h427 T428 F429 W430 X431 X432 => ?_)
        have F433 := F416.trans F429 (by decide)
        have B434 : sf_B (-1) (-1) (m425 21) := by rw [W430 21 (by decide)]; exact B417
        have B435 : sf_B 0 0 (m425 17) := by rw [W430 17 (by decide)]; exact B420
        have ek436 : (m425 17).toInt = ((m414 17)).toInt := by rw [W430 17 (by decide)]
        have W437 : rf_W [10, 12, 13, 14, 16, 17, 18, 21, 22] m m425 := W422.trans W430 (by decide)
        show pm_R _ 178 57 [.ref 41, .int 0, .int x2_376, pm_no] [] _ _
        refine pm_R_lo pm_M178 (pc' := 58) rfl rfl rfl ?_
        refine pm_R_op pm_M178 (pc' := 59) (st' := [.int 1, .int 0]) rfl rfl rfl ?_
        refine pm_R_br pm_M178 (pc' := 69) (st' := []) rfl rfl ?_
        refine pm_R_lo pm_M178 (pc' := 70) rfl rfl rfl ?_
        refine pm_R_lo pm_M178 (pc' := 71) rfl rfl rfl ?_
        refine pm_R_cv pm_M178 (pc' := 74) (a := 41) (ra := [.int 0]) (rest := []) (ls' := [.ref 41, .int 0, pm_no, pm_no, pm_no, pm_no]) rfl rfl (Or.inl rfl) pm_M186 T428.2.1 rfl (by decide) (Nat.lt_of_lt_of_le (by decide) T428.1) rfl rfl (Nat.le_of_ble_eq_true rfl) rfl rfl ?_
        have e438 := (F429.cell (by decide) (F413.cell (by decide) (F403.cell (by decide) (F394.cell (by decide) e388))))
        refine rf_c186_0 (d := d + 0) T428 (⟨(upd f380 (Int32.toNatClampNeg 0) 0), e438, ct390.1, fun z => ct390.2⟩) (fun m441 w442 h443 T444 F445 W446 X447 => ?_) (fun m450 w451 h452 T453 F454 W455 X456 X457 => ?_)
        · have F458 := F433.trans F445 (by decide)
          have W459 : rf_W [10, 12, 13, 14, 16, 17, 18, 21, 22] m m441 := W437.trans W446 (by decide)
          show pm_R _ 178 74 [.ref 41, .int 0, .int x2_376, pm_no] [.int 0] _ _
          refine pm_R_lo pm_M178 (pc' := 75) (ls' := [.ref 41, .int 0, .int 0, pm_no]) (st' := []) rfl rfl rfl ?_
          refine pm_R_lo pm_M178 (pc' := 76) rfl rfl rfl ?_
          refine pm_R_op pm_M178 (pc' := 77) (st' := [.int 1, .int 0]) rfl rfl rfl ?_
          refine pm_R_br pm_M178 (pc' := 97) (st' := []) rfl rfl ?_
          refine pm_R_lo pm_M178 (pc' := 98) rfl rfl rfl ?_
          refine pm_R_op pm_M178 (pc' := 99) (st' := [.int 2, .int 0]) rfl rfl rfl ?_
          refine pm_R_br pm_M178 (pc' := 119) (st' := []) rfl rfl ?_
          refine pm_R_op pm_M178 (pc' := 120) (st' := [.int 0]) (pm_q178_1 (Nat.le_of_ble_eq_true rfl)) rfl rfl ?_
          refine pm_R_lo pm_M178 (pc' := 121) (ls' := [.ref 41, .int 0, .int 0, .int 0]) (st' := []) (pm_q178_1 (Nat.le_of_ble_eq_true rfl)) rfl rfl ?_
          refine pm_R_lo pm_M178 (pc' := 122) (pm_q178_1 (Nat.le_of_ble_eq_true rfl)) rfl rfl ?_
          refine pm_R_br pm_M178 (pc' := 145) (st' := []) (pm_q178_1 (Nat.le_of_ble_eq_true rfl)) rfl ?_
          refine pm_R_lo pm_M178 (pc' := 146) (pm_q178_1 (Nat.le_of_ble_eq_true rfl)) rfl rfl ?_
          refine rf_R_get pm_M178 T444 (pc' := 149) (v := .ref 44) (pm_q178_1 (Nat.le_of_ble_eq_true rfl)) rfl rfl rfl ?_
          refine pm_R_op pm_M178 (pc' := 150) (st' := [.int 0, .ref 44]) (pm_q178_1 (Nat.le_of_ble_eq_true rfl)) rfl rfl ?_
          refine pm_R_lo pm_M178 (pc' := 151) (pm_q178_1 (Nat.le_of_ble_eq_true rfl)) rfl rfl ?_
          refine pm_R_br pm_M178 (pc' := 161) (st' := [.int 0, .ref 44]) (pm_q178_1 (Nat.le_of_ble_eq_true rfl)) rfl ?_
          refine pm_R_op pm_M178 (pc' := 162) (st' := [.int 1, .int 0, .ref 44]) (pm_q178_1 (Nat.le_of_ble_eq_true rfl)) rfl rfl ?_
          obtain ⟨f460, e461, b462⟩ := T444.2.2.2.1 44 (by decide) (by decide)
          refine rf_R_ist2 pm_M178 T444 (pc' := 163) (pm_q178_1 (Nat.le_of_ble_eq_true rfl)) e461 (by decide) (by decide) rfl ⟨_, rfl, sf_upd b462 (sf_weak sf_k1 (by decide) (by decide)) _⟩ rfl (fun h463 T464 F465 e466 => ?_)
          have F467 := F458.trans F465 (by decide)
          refine pm_R_lo pm_M178 (pc' := 164) (pm_q178_1 (Nat.le_of_ble_eq_true rfl)) rfl rfl ?_
          refine rf_R_get pm_M178 T464 (pc' := 167) (v := .ref 45) (pm_q178_1 (Nat.le_of_ble_eq_true rfl)) rfl rfl rfl ?_
          refine pm_R_op pm_M178 (pc' := 168) (st' := [.int 0, .ref 45]) (pm_q178_1 (Nat.le_of_ble_eq_true rfl)) rfl rfl ?_
          refine pm_R_lo pm_M178 (pc' := 169) (pm_q178_1 (Nat.le_of_ble_eq_true rfl)) rfl rfl ?_
          refine pm_R_br pm_M178 (pc' := 172) (st' := [.int 0, .ref 45]) (pm_q178_1 (Nat.le_of_ble_eq_true rfl)) rfl ?_
          refine pm_R_lo pm_M178 (pc' := 173) (pm_q178_1 (Nat.le_of_ble_eq_true rfl)) rfl rfl ?_
          have B468 : sf_B 0 600 (m441 16) := T464.2.2.1 16
          refine rf_R_get pm_M178 T464 (pc' := 176) (v := .int (m441 16)) (pm_q178_1 (Nat.le_of_ble_eq_true rfl)) rfl rfl rfl ?_
          refine pm_R_br pm_M178 (pc' := 194) (pm_q178_1 (Nat.le_of_ble_eq_true rfl)) rfl ?_
          obtain ⟨f469, e470, b471⟩ := T464.2.2.2.1 45 (by decide) (by decide)
          refine rf_R_ist2 pm_M178 T464 (pc' := 195) (pm_q178_1 (Nat.le_of_ble_eq_true rfl)) e470 (by decide) (by decide) rfl ⟨_, rfl, sf_upd b471 (sf_weak B468 (by decide) (by decide)) _⟩ rfl (fun h472 T473 F474 e475 => ?_)
          have F476 := F467.trans F474 (by decide)
          refine pm_R_lo pm_M178 (pc' := 196) (pm_q178_1 (Nat.le_of_ble_eq_true rfl)) rfl rfl ?_
          refine rf_R_get pm_M178 T473 (pc' := 199) (v := .ref 44) (pm_q178_1 (Nat.le_of_ble_eq_true rfl)) rfl rfl rfl ?_
          refine pm_R_op pm_M178 (pc' := 200) (st' := [.int 0, .ref 44]) (pm_q178_1 (Nat.le_of_ble_eq_true rfl)) rfl rfl ?_
          have e477 := (F474.cell (by decide) e466)
          refine pm_R_iald pm_M178 (pc' := 201) (v := 1) (pm_q178_1 (Nat.le_of_ble_eq_true rfl)) e477 (Nat.lt_of_lt_of_le (by decide) T473.1) rfl rfl rfl ?_
          refine pm_R_br pm_M178 (pc' := 208) (st' := []) (pm_q178_1 (Nat.le_of_ble_eq_true rfl)) rfl ?_
          refine pm_R_op pm_M178 (pc' := 209) (st' := [.int 0]) (pm_q178_1 (Nat.le_of_ble_eq_true rfl)) rfl rfl ?_
          exact pm_R_ret pm_M178 (r := some (.int 0)) (pm_q178_1 (Nat.le_of_ble_eq_true rfl)) rfl (K0 m441 w442 h472 T473 F476 W459)
        · have F480 := F433.trans F454 (by decide)
          have W481 : rf_W [10, 12, 13, 14, 16, 17, 18, 21, 22] m m450 := W437.trans W455 (by decide)
          show pm_R _ 178 74 [.ref 41, .int 0, .int x2_376, pm_no] [.int 1] _ _
          obtain ⟨f482, e483, ct484, bd485⟩ := X456
          have B486 : sf_B 0 4 (m450 17) := T453.2.2.1 17
          refine pm_R_lo pm_M178 (pc' := 75) (ls' := [.ref 41, .int 0, .int 1, pm_no]) (st' := []) rfl rfl rfl ?_
          refine pm_R_lo pm_M178 (pc' := 76) rfl rfl rfl ?_
          refine pm_R_op pm_M178 (pc' := 77) (st' := [.int 1, .int 0]) rfl rfl rfl ?_
          refine pm_R_br pm_M178 (pc' := 97) (st' := []) rfl rfl ?_
          refine pm_R_lo pm_M178 (pc' := 98) rfl rfl rfl ?_
          refine pm_R_op pm_M178 (pc' := 99) (st' := [.int 2, .int 0]) rfl rfl rfl ?_
          refine pm_R_br pm_M178 (pc' := 119) (st' := []) rfl rfl ?_
          refine pm_R_op pm_M178 (pc' := 120) (st' := [.int 0]) (pm_q178_1 (Nat.le_of_ble_eq_true rfl)) rfl rfl ?_
          refine pm_R_lo pm_M178 (pc' := 121) (ls' := [.ref 41, .int 0, .int 1, .int 0]) (st' := []) (pm_q178_1 (Nat.le_of_ble_eq_true rfl)) rfl rfl ?_
          refine pm_R_lo pm_M178 (pc' := 122) (pm_q178_1 (Nat.le_of_ble_eq_true rfl)) rfl rfl ?_
          refine pm_R_br pm_M178 (pc' := 125) (st' := []) (pm_q178_1 (Nat.le_of_ble_eq_true rfl)) rfl ?_
          refine pm_R_lo pm_M178 (pc' := 126) (pm_q178_1 (Nat.le_of_ble_eq_true rfl)) rfl rfl ?_
          refine rf_R_get pm_M178 T453 (pc' := 129) (v := .int (m450 17)) (pm_q178_1 (Nat.le_of_ble_eq_true rfl)) rfl rfl rfl ?_
          refine pm_R_ifc pm_M178 (t := 145) (pc' := 132) (pm_q178_1 (Nat.le_of_ble_eq_true rfl)) rfl rfl (fun c487 => ?_) (fun c487 => ?_)
          · have B488 : sf_B 1 4 (m450 17) := sf_neL0 c487 sf_k0 B486
            refine pm_R_lo pm_M178 (pc' := 146) (pm_q178_1 (Nat.le_of_ble_eq_true rfl)) rfl rfl ?_
            refine rf_R_get pm_M178 T453 (pc' := 149) (v := .ref 44) (pm_q178_1 (Nat.le_of_ble_eq_true rfl)) rfl rfl rfl ?_
            refine pm_R_op pm_M178 (pc' := 150) (st' := [.int 0, .ref 44]) (pm_q178_1 (Nat.le_of_ble_eq_true rfl)) rfl rfl ?_
            refine pm_R_lo pm_M178 (pc' := 151) (pm_q178_1 (Nat.le_of_ble_eq_true rfl)) rfl rfl ?_
            refine pm_R_br pm_M178 (pc' := 154) (st' := [.int 0, .ref 44]) (pm_q178_1 (Nat.le_of_ble_eq_true rfl)) rfl ?_
            refine pm_R_lo pm_M178 (pc' := 155) (pm_q178_1 (Nat.le_of_ble_eq_true rfl)) rfl rfl ?_
            refine rf_R_get pm_M178 T453 (pc' := 158) (v := .int (m450 17)) (pm_q178_1 (Nat.le_of_ble_eq_true rfl)) rfl rfl rfl ?_
            refine pm_R_br pm_M178 (pc' := 162) (pm_q178_1 (Nat.le_of_ble_eq_true rfl)) rfl ?_
            obtain ⟨f489, e490, b491⟩ := T453.2.2.2.1 44 (by decide) (by decide)
            refine rf_R_ist2 pm_M178 T453 (pc' := 163) (pm_q178_1 (Nat.le_of_ble_eq_true rfl)) e490 (by decide) (by decide) rfl ⟨_, rfl, sf_upd b491 (sf_weak B488 (by decide) (by decide)) _⟩ rfl (fun h492 T493 F494 e495 => ?_)
            have F496 := F480.trans F494 (by decide)
            refine pm_R_lo pm_M178 (pc' := 164) (pm_q178_1 (Nat.le_of_ble_eq_true rfl)) rfl rfl ?_
            refine rf_R_get pm_M178 T493 (pc' := 167) (v := .ref 45) (pm_q178_1 (Nat.le_of_ble_eq_true rfl)) rfl rfl rfl ?_
            refine pm_R_op pm_M178 (pc' := 168) (st' := [.int 0, .ref 45]) (pm_q178_1 (Nat.le_of_ble_eq_true rfl)) rfl rfl ?_
            refine pm_R_lo pm_M178 (pc' := 169) (pm_q178_1 (Nat.le_of_ble_eq_true rfl)) rfl rfl ?_
            refine pm_R_br pm_M178 (pc' := 179) (st' := [.int 0, .ref 45]) (pm_q178_1 (Nat.le_of_ble_eq_true rfl)) rfl ?_
            refine pm_R_lo pm_M178 (pc' := 180) (pm_q178_1 (Nat.le_of_ble_eq_true rfl)) rfl rfl ?_
            refine rf_R_get pm_M178 T493 (pc' := 183) (v := .int (m450 17)) (pm_q178_1 (Nat.le_of_ble_eq_true rfl)) rfl rfl rfl ?_
            refine pm_R_ifc pm_M178 (t := 193) (pc' := 186) (pm_q178_1 (Nat.le_of_ble_eq_true rfl)) rfl rfl (fun c497 => absurd c497 (sf_nle B488 sf_k0 (by decide))) (fun c497 => ?_)
            skip
            refine pm_R_lo pm_M178 (pc' := 187) (pm_q178_1 (Nat.le_of_ble_eq_true rfl)) rfl rfl ?_
            have B498 : sf_B 0 600 (m450 18) := T493.2.2.1 18
            refine rf_R_get pm_M178 T493 (pc' := 190) (v := .int (m450 18)) (pm_q178_1 (Nat.le_of_ble_eq_true rfl)) rfl rfl rfl ?_
            refine pm_R_br pm_M178 (pc' := 194) (pm_q178_1 (Nat.le_of_ble_eq_true rfl)) rfl ?_
            obtain ⟨f499, e500, b501⟩ := T493.2.2.2.1 45 (by decide) (by decide)
            refine rf_R_ist2 pm_M178 T493 (pc' := 195) (pm_q178_1 (Nat.le_of_ble_eq_true rfl)) e500 (by decide) (by decide) rfl ⟨_, rfl, sf_upd b501 (sf_weak B498 (by decide) (by decide)) _⟩ rfl (fun h502 T503 F504 e505 => ?_)
            have F506 := F496.trans F504 (by decide)
            refine pm_R_lo pm_M178 (pc' := 196) (pm_q178_1 (Nat.le_of_ble_eq_true rfl)) rfl rfl ?_
            refine rf_R_get pm_M178 T503 (pc' := 199) (v := .ref 44) (pm_q178_1 (Nat.le_of_ble_eq_true rfl)) rfl rfl rfl ?_
            refine pm_R_op pm_M178 (pc' := 200) (st' := [.int 0, .ref 44]) (pm_q178_1 (Nat.le_of_ble_eq_true rfl)) rfl rfl ?_
            have e507 := (F504.cell (by decide) e495)
            refine pm_R_iald pm_M178 (pc' := 201) (v := (m450 17)) (pm_q178_1 (Nat.le_of_ble_eq_true rfl)) e507 (Nat.lt_of_lt_of_le (by decide) T503.1) rfl rfl rfl ?_
            refine pm_R_ifc pm_M178 (t := 208) (pc' := 204) (pm_q178_1 (Nat.le_of_ble_eq_true rfl)) rfl rfl (fun c510 => ?_) (fun c510 => absurd (Classical.not_not.mp c510) (sf_neq1 B488 sf_k0 (by decide)))
            skip
            refine pm_R_op pm_M178 (pc' := 209) (st' := [.int 0]) (pm_q178_1 (Nat.le_of_ble_eq_true rfl)) rfl rfl ?_
            exact pm_R_ret pm_M178 (r := some (.int 0)) (pm_q178_1 (Nat.le_of_ble_eq_true rfl)) rfl (K0 m450 w451 h502 T503 F506 W481)
          · have B511 : sf_B 0 0 (m450 17) := sf_eqL (Classical.not_not.mp c487) sf_k0
            refine pm_R_lo pm_M178 (pc' := 133) (pm_q178_1 (Nat.le_of_ble_eq_true rfl)) rfl rfl ?_
            refine pm_R_br pm_M178 (pc' := 145) (st' := []) (pm_q178_1 (Nat.le_of_ble_eq_true rfl)) rfl ?_
            refine pm_R_lo pm_M178 (pc' := 146) (pm_q178_1 (Nat.le_of_ble_eq_true rfl)) rfl rfl ?_
            refine rf_R_get pm_M178 T453 (pc' := 149) (v := .ref 44) (pm_q178_1 (Nat.le_of_ble_eq_true rfl)) rfl rfl rfl ?_
            refine pm_R_op pm_M178 (pc' := 150) (st' := [.int 0, .ref 44]) (pm_q178_1 (Nat.le_of_ble_eq_true rfl)) rfl rfl ?_
            refine pm_R_lo pm_M178 (pc' := 151) (pm_q178_1 (Nat.le_of_ble_eq_true rfl)) rfl rfl ?_
            refine pm_R_br pm_M178 (pc' := 154) (st' := [.int 0, .ref 44]) (pm_q178_1 (Nat.le_of_ble_eq_true rfl)) rfl ?_
            refine pm_R_lo pm_M178 (pc' := 155) (pm_q178_1 (Nat.le_of_ble_eq_true rfl)) rfl rfl ?_
            refine rf_R_get pm_M178 T453 (pc' := 158) (v := .int (m450 17)) (pm_q178_1 (Nat.le_of_ble_eq_true rfl)) rfl rfl rfl ?_
            refine pm_R_br pm_M178 (pc' := 162) (pm_q178_1 (Nat.le_of_ble_eq_true rfl)) rfl ?_
            obtain ⟨f512, e513, b514⟩ := T453.2.2.2.1 44 (by decide) (by decide)
            refine rf_R_ist2 pm_M178 T453 (pc' := 163) (pm_q178_1 (Nat.le_of_ble_eq_true rfl)) e513 (by decide) (by decide) rfl ⟨_, rfl, sf_upd b514 (sf_weak B511 (by decide) (by decide)) _⟩ rfl (fun h515 T516 F517 e518 => ?_)
            have F519 := F480.trans F517 (by decide)
            refine pm_R_lo pm_M178 (pc' := 164) (pm_q178_1 (Nat.le_of_ble_eq_true rfl)) rfl rfl ?_
            refine rf_R_get pm_M178 T516 (pc' := 167) (v := .ref 45) (pm_q178_1 (Nat.le_of_ble_eq_true rfl)) rfl rfl rfl ?_
            refine pm_R_op pm_M178 (pc' := 168) (st' := [.int 0, .ref 45]) (pm_q178_1 (Nat.le_of_ble_eq_true rfl)) rfl rfl ?_
            refine pm_R_lo pm_M178 (pc' := 169) (pm_q178_1 (Nat.le_of_ble_eq_true rfl)) rfl rfl ?_
            refine pm_R_br pm_M178 (pc' := 179) (st' := [.int 0, .ref 45]) (pm_q178_1 (Nat.le_of_ble_eq_true rfl)) rfl ?_
            refine pm_R_lo pm_M178 (pc' := 180) (pm_q178_1 (Nat.le_of_ble_eq_true rfl)) rfl rfl ?_
            refine rf_R_get pm_M178 T516 (pc' := 183) (v := .int (m450 17)) (pm_q178_1 (Nat.le_of_ble_eq_true rfl)) rfl rfl rfl ?_
            refine pm_R_ifc pm_M178 (t := 193) (pc' := 186) (pm_q178_1 (Nat.le_of_ble_eq_true rfl)) rfl rfl (fun c520 => ?_) (fun c520 => absurd (Int32.not_le.mp c520) (sf_nlt sf_k0 B511 (by decide)))
            skip
            refine pm_R_op pm_M178 (pc' := 194) (st' := [.int (-1), .int 0, .ref 45]) (pm_q178_1 (Nat.le_of_ble_eq_true rfl)) rfl rfl ?_
            obtain ⟨f521, e522, b523⟩ := T516.2.2.2.1 45 (by decide) (by decide)
            refine rf_R_ist2 pm_M178 T516 (pc' := 195) (pm_q178_1 (Nat.le_of_ble_eq_true rfl)) e522 (by decide) (by decide) rfl ⟨_, rfl, sf_upd b523 (sf_weak sf_kn1 (by decide) (by decide)) _⟩ rfl (fun h524 T525 F526 e527 => ?_)
            have F528 := F519.trans F526 (by decide)
            refine pm_R_lo pm_M178 (pc' := 196) (pm_q178_1 (Nat.le_of_ble_eq_true rfl)) rfl rfl ?_
            refine rf_R_get pm_M178 T525 (pc' := 199) (v := .ref 44) (pm_q178_1 (Nat.le_of_ble_eq_true rfl)) rfl rfl rfl ?_
            refine pm_R_op pm_M178 (pc' := 200) (st' := [.int 0, .ref 44]) (pm_q178_1 (Nat.le_of_ble_eq_true rfl)) rfl rfl ?_
            have e529 := (F526.cell (by decide) e518)
            refine pm_R_iald pm_M178 (pc' := 201) (v := (m450 17)) (pm_q178_1 (Nat.le_of_ble_eq_true rfl)) e529 (Nat.lt_of_lt_of_le (by decide) T525.1) rfl rfl rfl ?_
            refine pm_R_ifc pm_M178 (t := 208) (pc' := 204) (pm_q178_1 (Nat.le_of_ble_eq_true rfl)) rfl rfl (fun c532 => absurd (sf_pt2 B511 sf_k0) c532) (fun c532 => ?_)
            refine pm_R_op pm_M178 (pc' := 205) (st' := [.int 1]) (pm_q178_1 (Nat.le_of_ble_eq_true rfl)) rfl rfl ?_
            refine pm_R_br pm_M178 (pc' := 209) (pm_q178_1 (Nat.le_of_ble_eq_true rfl)) rfl ?_
            have e533 := (F526.cell (by decide) (F517.cell (by decide) e483))
            exact pm_R_ret pm_M178 (r := some (.int 1)) (pm_q178_1 (Nat.le_of_ble_eq_true rfl)) rfl (K1 m450 w451 h524 T525 F528 W481 ⟨f482, e533, (by have z : ((m450 17)).toInt = 0 := (sf_aux35 _ B511.1 B511.2); exact (bd485 z))⟩)
      · have B534 : sf_B 0 151 x2_376 := sf_ltL (Int32.not_le.mp c383) Bx2_376 sf_k152
        refine pm_R_lo pm_M178 (pc' := 10) rfl rfl rfl ?_
        refine rf_R_get pm_M178 T_376 (pc' := 13) (v := .ref 51) rfl rfl rfl rfl ?_
        refine pm_R_lo pm_M178 (pc' := 14) rfl rfl rfl ?_
        refine pm_R_op pm_M178 (pc' := 15) (st' := [.int 0, .int x2_376, .ref 51]) rfl rfl rfl ?_
        refine rf_R_ist pm_M178 T_376 (pc' := 16) rfl e381 (by decide) (by decide) (sf_in B534 (by decide) (by decide)) ⟨_, rfl⟩ rfl (fun h535 T536 F537 e538 => ?_)
        have F539 := F_376.trans F537 (by decide)
        refine sf_R_iinc pm_M178 (pc' := 19) (ls' := fun z => [.ref 41, .int 0, .int z, pm_no]) rfl B534 rfl (by decide) (by decide) (by decide) (fun _ => rfl) rfl (fun z540 e541 B542 => ?_)
        show pm_R _ 178 19 [.ref 41, .int 0, .int z540, pm_no] [] _ _
        refine pm_R_br pm_M178 (pc' := 2) rfl rfl ?_
        exact ih_376 _ (sf_up hN_376 e541 B534 (by decide) (by decide)) h535 m_376 w_376 z540 T536 F539 W_376 (sf_weak B542 (by decide) (by decide)) ⟨(upd f380 (Int32.toNatClampNeg x2_376) 0), e538, rf_zero zz382 e541 B534 (by decide)⟩ rfl
  obtain ⟨f543, e544⟩ := T.2.2.2.1 51 (by decide) (by decide)
  exact L_376 _ h m w 0 T (rf_G.refl [41, 44, 45, 51, 52] h) (rf_W.refl _ _) (sf_weak sf_k0 (by decide) (by decide)) ⟨f543, e544, fun j hj => absurd hj (by show ¬ (j : Int) < 0; omega)⟩ rfl

set_option maxRecDepth 100000 in
set_option maxHeartbeats 4000000 in
/-- SilentTableModel.readText -/
theorem rf_c178_1 {d : Nat} {m : Nat → Int32} {w : Int64} {h : pm_H} {Q : Option Value → pm_H → Prop}  (T : rf_T m w h)  (K0 : ∀ (m' : Nat → Int32) (w' : Int64) (h' : pm_H), rf_T m' w' h' → rf_G [41, 44, 45, 51, 52] h h' → rf_W [10, 12, 13, 14, 16, 17, 18, 21, 22] m m' → Q (some (.int 0)) h') (K1 : ∀ (m' : Nat → Int32) (w' : Int64) (h' : pm_H), rf_T m' w' h' → rf_G [41, 44, 45, 51, 52] h h' → rf_W [10, 12, 13, 14, 16, 17, 18, 21, 22] m m' → (∃ f : Nat → Int32, h'.2.2 51 = .inl (0, 152, .inl f) ∧ rf_bd 1 f ∧ 1 ≤ (f 0).toInt) → Q (some (.int 1)) h') : pm_R (d + 6) 178 0 [.ref 41, .int 1, pm_no, pm_no] [] h Q := by
  refine pm_R_op pm_M178 (pc' := 1) (st' := [.int 0]) rfl rfl rfl ?_
  refine pm_R_lo pm_M178 (pc' := 2) (ls' := [.ref 41, .int 1, .int 0, pm_no]) (st' := []) rfl rfl rfl ?_
  have L_564 : ∀ (N : Nat) (h_564 : pm_H) (m_564 : Nat → Int32) (w_564 : Int64) (x2_564 : Int32), rf_T m_564 w_564 h_564 → rf_G [41, 44, 45, 51, 52] h h_564 → rf_W [] m m_564 → sf_B 0 152 x2_564 → (∃ f : Nat → Int32, h_564.2.2 51 = .inl (0, 152, .inl f) ∧ ∀ j : Nat, (j : Int) < x2_564.toInt → f j = 0) → (152 - x2_564.toInt).toNat = N → pm_R (d + 6) 178 2 [.ref 41, .int 1, .int x2_564, pm_no] [] h_564 Q := by
    intro N
    induction N using Nat.strongRecOn with
    | ind N ih_564 =>
      intro h_564 m_564 w_564 x2_564 T_564 F_564 W_564 Bx2_564 X_564 hN_564
      have W567 : rf_W [10, 12, 13, 14, 16, 17, 18, 21, 22] m m_564 := (rf_W.refl [10, 12, 13, 14, 16, 17, 18, 21, 22] m).trans W_564 (by decide)
      obtain ⟨f568, e569, zz570⟩ := X_564
      refine pm_R_lo pm_M178 (pc' := 3) rfl rfl rfl ?_
      refine pm_R_op pm_M178 (pc' := 6) (st' := [.int 152, .int x2_564]) rfl rfl rfl ?_
      refine pm_R_icmp pm_M178 (t := 22) (pc' := 9) rfl rfl rfl (fun c571 => ?_) (fun c571 => ?_)
      · have B572 : sf_B 152 152 x2_564 := sf_leR c571 sf_k152 Bx2_564
        refine pm_R_lo pm_M178 (pc' := 23) rfl rfl rfl ?_
        refine rf_R_get pm_M178 T_564 (pc' := 26) (v := .ref 51) rfl rfl rfl rfl ?_
        refine pm_R_op pm_M178 (pc' := 27) (st' := [.int 0, .ref 51]) rfl rfl rfl ?_
        refine pm_R_lo pm_M178 (pc' := 28) rfl rfl rfl ?_
        refine pm_R_op pm_M178 (pc' := 29) (st' := [.int 2, .int 1, .int 0, .ref 51]) rfl rfl rfl ?_
        refine pm_R_br pm_M178 (pc' := 36) (st' := [.int 0, .ref 51]) rfl rfl ?_
        refine pm_R_op pm_M178 (pc' := 37) (st' := [.int 0, .int 0, .ref 51]) rfl rfl rfl ?_
        refine rf_R_ist pm_M178 T_564 (pc' := 38) rfl e569 (by decide) (by decide) rfl ⟨_, rfl⟩ rfl (fun h573 T574 F575 e576 => ?_)
        have F577 := F_564.trans F575 (by decide)
        have ct578 : rf_ct 1 (upd f568 (Int32.toNatClampNeg 0) 0) ∧ rf_bd 1 (upd f568 (Int32.toNatClampNeg 0) 0) := rf_all0_1 (fun j hj => zz570 j (by have := Int32.le_iff_toInt_le.mp c571; have e0 : (152 : Int32).toInt = 152 := rfl; omega))
        refine pm_R_lo pm_M178 (pc' := 39) rfl rfl rfl ?_
        refine pm_R_op pm_M178 (pc' := 40) (st' := [.int (-1), .ref 41]) rfl rfl rfl ?_
        refine rf_R_put pm_M178 T574 (pc' := 43) rfl rfl rfl (by decide) rfl rfl (sf_weak sf_kn1 (by decide) (by decide)) rfl rfl (fun h580 m583 em584 T581 F582 => ?_)
        have F585 := F577.trans F582 (by decide)
        have B586 : sf_B (-1) (-1) (m583 21) := by rw [em584]; exact sf_kn1
        have W588 : rf_W [10, 12, 13, 14, 16, 17, 18, 21, 22] m m583 := by rw [em584]; exact W567.put (by decide)
        refine pm_R_lo pm_M178 (pc' := 44) rfl rfl rfl ?_
        refine pm_R_op pm_M178 (pc' := 45) (st' := [.int 0, .ref 41]) rfl rfl rfl ?_
        refine rf_R_put pm_M178 T581 (pc' := 48) rfl rfl rfl (by decide) rfl rfl (sf_weak sf_k0 (by decide) (by decide)) rfl rfl (fun h589 m592 em593 T590 F591 => ?_)
        have F594 := F585.trans F591 (by decide)
        have B595 : sf_B (-1) (-1) (m592 21) := by rw [em593]; exact B586
        have B596 : sf_B 0 0 (m592 10) := by rw [em593]; exact sf_k0
        have W598 : rf_W [10, 12, 13, 14, 16, 17, 18, 21, 22] m m592 := by rw [em593]; exact W588.put (by decide)
        refine pm_R_lo pm_M178 (pc' := 49) rfl rfl rfl ?_
        refine pm_R_op pm_M178 (pc' := 50) (st' := [.int 0, .ref 41]) rfl rfl rfl ?_
        refine rf_R_put pm_M178 T590 (pc' := 53) rfl rfl rfl (by decide) rfl rfl (sf_weak sf_k0 (by decide) (by decide)) rfl rfl (fun h599 m602 em603 T600 F601 => ?_)
        have F604 := F594.trans F601 (by decide)
        have B605 : sf_B (-1) (-1) (m602 21) := by rw [em603]; exact B595
        have B606 : sf_B 0 0 (m602 10) := by rw [em603]; exact B596
        have ek607 : (m602 10).toInt = ((m592 10)).toInt := by rw [em603]; rfl
        have B608 : sf_B 0 0 (m602 17) := by rw [em603]; exact sf_k0
        have W610 : rf_W [10, 12, 13, 14, 16, 17, 18, 21, 22] m m602 := by rw [em603]; exact W598.put (by decide)
        refine pm_R_lo pm_M178 (pc' := 54) rfl rfl rfl ?_
        refine pm_R_cv pm_M178 (pc' := 57) (a := 41) (ra := []) (rest := []) (ls' := [.ref 41, pm_no, pm_no]) rfl rfl (Or.inl rfl) pm_M179 T600.2.1 rfl (by decide) (Nat.lt_of_lt_of_le (by decide) T600.1) rfl rfl (Nat.le_of_ble_eq_true rfl) rfl rfl ?_
        refine rf_c179 (d := d + 4) T600  (fun m613 w614 h615 T616 F617 W618 X619 X620 => ?_)
        have F621 := F604.trans F617 (by decide)
        have B622 : sf_B (-1) (-1) (m613 21) := by rw [W618 21 (by decide)]; exact B605
        have B623 : sf_B 0 0 (m613 17) := by rw [W618 17 (by decide)]; exact B608
        have ek624 : (m613 17).toInt = ((m602 17)).toInt := by rw [W618 17 (by decide)]
        have W625 : rf_W [10, 12, 13, 14, 16, 17, 18, 21, 22] m m613 := W610.trans W618 (by decide)
        show pm_R _ 178 57 [.ref 41, .int 1, .int x2_564, pm_no] [] _ _
        refine pm_R_lo pm_M178 (pc' := 58) rfl rfl rfl ?_
        refine pm_R_op pm_M178 (pc' := 59) (st' := [.int 1, .int 1]) rfl rfl rfl ?_
        refine pm_R_br pm_M178 (pc' := 62) (st' := []) rfl rfl ?_
        refine pm_R_lo pm_M178 (pc' := 63) rfl rfl rfl ?_
        refine pm_R_cv pm_M178 (pc' := 66) (a := 41) (ra := []) (rest := []) (ls' := [.ref 41]) rfl rfl (Or.inl rfl) pm_M181 T616.2.1 rfl (by decide) (Nat.lt_of_lt_of_le (by decide) T616.1) rfl rfl (Nat.le_of_ble_eq_true rfl) rfl rfl ?_
        have e626 := (F617.cell (by decide) (F601.cell (by decide) (F591.cell (by decide) (F582.cell (by decide) e576))))
        refine rf_c181 (d := d + 2) T616 (⟨(upd f568 (Int32.toNatClampNeg 0) 0), e626, ct578.1, fun z => ct578.2⟩) (fun m629 w630 h631 T632 F633 W634 X635 => ?_) (fun m638 w639 h640 T641 F642 W643 X644 X645 => ?_)
        · have F646 := F621.trans F633 (by decide)
          have B647 : sf_B (-1) (-1) (m629 21) := by rw [W634 21 (by decide)]; exact B622
          have W648 : rf_W [10, 12, 13, 14, 16, 17, 18, 21, 22] m m629 := W625.trans W634 (by decide)
          show pm_R _ 178 66 [.ref 41, .int 1, .int x2_564, pm_no] [.int 0] _ _
          refine pm_R_br pm_M178 (pc' := 74) rfl rfl ?_
          refine pm_R_lo pm_M178 (pc' := 75) (ls' := [.ref 41, .int 1, .int 0, pm_no]) (st' := []) rfl rfl rfl ?_
          refine pm_R_lo pm_M178 (pc' := 76) rfl rfl rfl ?_
          refine pm_R_op pm_M178 (pc' := 77) (st' := [.int 1, .int 1]) rfl rfl rfl ?_
          refine pm_R_br pm_M178 (pc' := 80) (st' := []) rfl rfl ?_
          refine pm_R_lo pm_M178 (pc' := 81) rfl rfl rfl ?_
          refine rf_R_get pm_M178 T632 (pc' := 84) (v := .ref 51) rfl rfl rfl rfl ?_
          refine pm_R_op pm_M178 (pc' := 85) (st' := [.int 0, .ref 51]) rfl rfl rfl ?_
          obtain ⟨f649, e650⟩ := T632.2.2.2.1 51 (by decide) (by decide)
          refine rf_R_ild pm_M178 T632 (pc' := 86) rfl e650 (by decide) rfl rfl (fun z652 ez653 => ?_)
          refine pm_R_ifc pm_M178 (t := 93) (pc' := 89) rfl rfl rfl (fun c654 => ?_) (fun c654 => ?_)
          · skip
            refine pm_R_op pm_M178 (pc' := 94) (st' := [.int 0]) rfl rfl rfl ?_
            refine pm_R_br pm_M178 (pc' := 120) rfl rfl ?_
            refine pm_R_lo pm_M178 (pc' := 121) (ls' := [.ref 41, .int 1, .int 0, .int 0]) (st' := []) (pm_q178_1 (Nat.le_of_ble_eq_true rfl)) rfl rfl ?_
            refine pm_R_lo pm_M178 (pc' := 122) (pm_q178_1 (Nat.le_of_ble_eq_true rfl)) rfl rfl ?_
            refine pm_R_br pm_M178 (pc' := 145) (st' := []) (pm_q178_1 (Nat.le_of_ble_eq_true rfl)) rfl ?_
            refine pm_R_lo pm_M178 (pc' := 146) (pm_q178_1 (Nat.le_of_ble_eq_true rfl)) rfl rfl ?_
            refine rf_R_get pm_M178 T632 (pc' := 149) (v := .ref 44) (pm_q178_1 (Nat.le_of_ble_eq_true rfl)) rfl rfl rfl ?_
            refine pm_R_op pm_M178 (pc' := 150) (st' := [.int 0, .ref 44]) (pm_q178_1 (Nat.le_of_ble_eq_true rfl)) rfl rfl ?_
            refine pm_R_lo pm_M178 (pc' := 151) (pm_q178_1 (Nat.le_of_ble_eq_true rfl)) rfl rfl ?_
            refine pm_R_br pm_M178 (pc' := 161) (st' := [.int 0, .ref 44]) (pm_q178_1 (Nat.le_of_ble_eq_true rfl)) rfl ?_
            refine pm_R_op pm_M178 (pc' := 162) (st' := [.int 1, .int 0, .ref 44]) (pm_q178_1 (Nat.le_of_ble_eq_true rfl)) rfl rfl ?_
            obtain ⟨f655, e656, b657⟩ := T632.2.2.2.1 44 (by decide) (by decide)
            refine rf_R_ist2 pm_M178 T632 (pc' := 163) (pm_q178_1 (Nat.le_of_ble_eq_true rfl)) e656 (by decide) (by decide) rfl ⟨_, rfl, sf_upd b657 (sf_weak sf_k1 (by decide) (by decide)) _⟩ rfl (fun h658 T659 F660 e661 => ?_)
            have F662 := F646.trans F660 (by decide)
            refine pm_R_lo pm_M178 (pc' := 164) (pm_q178_1 (Nat.le_of_ble_eq_true rfl)) rfl rfl ?_
            refine rf_R_get pm_M178 T659 (pc' := 167) (v := .ref 45) (pm_q178_1 (Nat.le_of_ble_eq_true rfl)) rfl rfl rfl ?_
            refine pm_R_op pm_M178 (pc' := 168) (st' := [.int 0, .ref 45]) (pm_q178_1 (Nat.le_of_ble_eq_true rfl)) rfl rfl ?_
            refine pm_R_lo pm_M178 (pc' := 169) (pm_q178_1 (Nat.le_of_ble_eq_true rfl)) rfl rfl ?_
            refine pm_R_br pm_M178 (pc' := 172) (st' := [.int 0, .ref 45]) (pm_q178_1 (Nat.le_of_ble_eq_true rfl)) rfl ?_
            refine pm_R_lo pm_M178 (pc' := 173) (pm_q178_1 (Nat.le_of_ble_eq_true rfl)) rfl rfl ?_
            have B663 : sf_B 0 600 (m629 16) := T659.2.2.1 16
            refine rf_R_get pm_M178 T659 (pc' := 176) (v := .int (m629 16)) (pm_q178_1 (Nat.le_of_ble_eq_true rfl)) rfl rfl rfl ?_
            refine pm_R_br pm_M178 (pc' := 194) (pm_q178_1 (Nat.le_of_ble_eq_true rfl)) rfl ?_
            obtain ⟨f664, e665, b666⟩ := T659.2.2.2.1 45 (by decide) (by decide)
            refine rf_R_ist2 pm_M178 T659 (pc' := 195) (pm_q178_1 (Nat.le_of_ble_eq_true rfl)) e665 (by decide) (by decide) rfl ⟨_, rfl, sf_upd b666 (sf_weak B663 (by decide) (by decide)) _⟩ rfl (fun h667 T668 F669 e670 => ?_)
            have F671 := F662.trans F669 (by decide)
            refine pm_R_lo pm_M178 (pc' := 196) (pm_q178_1 (Nat.le_of_ble_eq_true rfl)) rfl rfl ?_
            refine rf_R_get pm_M178 T668 (pc' := 199) (v := .ref 44) (pm_q178_1 (Nat.le_of_ble_eq_true rfl)) rfl rfl rfl ?_
            refine pm_R_op pm_M178 (pc' := 200) (st' := [.int 0, .ref 44]) (pm_q178_1 (Nat.le_of_ble_eq_true rfl)) rfl rfl ?_
            have e672 := (F669.cell (by decide) e661)
            refine pm_R_iald pm_M178 (pc' := 201) (v := 1) (pm_q178_1 (Nat.le_of_ble_eq_true rfl)) e672 (Nat.lt_of_lt_of_le (by decide) T668.1) rfl rfl rfl ?_
            refine pm_R_br pm_M178 (pc' := 208) (st' := []) (pm_q178_1 (Nat.le_of_ble_eq_true rfl)) rfl ?_
            refine pm_R_op pm_M178 (pc' := 209) (st' := [.int 0]) (pm_q178_1 (Nat.le_of_ble_eq_true rfl)) rfl rfl ?_
            exact pm_R_ret pm_M178 (r := some (.int 0)) (pm_q178_1 (Nat.le_of_ble_eq_true rfl)) rfl (K0 m629 w630 h667 T668 F671 W648)
          · have B675 : sf_B 0 0 z652 := sf_eqL (Classical.not_not.mp c654) sf_k0
            refine pm_R_op pm_M178 (pc' := 90) (st' := [.int 1]) rfl rfl rfl ?_
            refine pm_R_br pm_M178 (pc' := 120) rfl rfl ?_
            refine pm_R_lo pm_M178 (pc' := 121) (ls' := [.ref 41, .int 1, .int 0, .int 1]) (st' := []) (pm_q178_1 (Nat.le_of_ble_eq_true rfl)) rfl rfl ?_
            refine pm_R_lo pm_M178 (pc' := 122) (pm_q178_1 (Nat.le_of_ble_eq_true rfl)) rfl rfl ?_
            refine pm_R_br pm_M178 (pc' := 145) (st' := []) (pm_q178_1 (Nat.le_of_ble_eq_true rfl)) rfl ?_
            refine pm_R_lo pm_M178 (pc' := 146) (pm_q178_1 (Nat.le_of_ble_eq_true rfl)) rfl rfl ?_
            refine rf_R_get pm_M178 T632 (pc' := 149) (v := .ref 44) (pm_q178_1 (Nat.le_of_ble_eq_true rfl)) rfl rfl rfl ?_
            refine pm_R_op pm_M178 (pc' := 150) (st' := [.int 0, .ref 44]) (pm_q178_1 (Nat.le_of_ble_eq_true rfl)) rfl rfl ?_
            refine pm_R_lo pm_M178 (pc' := 151) (pm_q178_1 (Nat.le_of_ble_eq_true rfl)) rfl rfl ?_
            refine pm_R_br pm_M178 (pc' := 161) (st' := [.int 0, .ref 44]) (pm_q178_1 (Nat.le_of_ble_eq_true rfl)) rfl ?_
            refine pm_R_op pm_M178 (pc' := 162) (st' := [.int 1, .int 0, .ref 44]) (pm_q178_1 (Nat.le_of_ble_eq_true rfl)) rfl rfl ?_
            obtain ⟨f676, e677, b678⟩ := T632.2.2.2.1 44 (by decide) (by decide)
            refine rf_R_ist2 pm_M178 T632 (pc' := 163) (pm_q178_1 (Nat.le_of_ble_eq_true rfl)) e677 (by decide) (by decide) rfl ⟨_, rfl, sf_upd b678 (sf_weak sf_k1 (by decide) (by decide)) _⟩ rfl (fun h679 T680 F681 e682 => ?_)
            have F683 := F646.trans F681 (by decide)
            refine pm_R_lo pm_M178 (pc' := 164) (pm_q178_1 (Nat.le_of_ble_eq_true rfl)) rfl rfl ?_
            refine rf_R_get pm_M178 T680 (pc' := 167) (v := .ref 45) (pm_q178_1 (Nat.le_of_ble_eq_true rfl)) rfl rfl rfl ?_
            refine pm_R_op pm_M178 (pc' := 168) (st' := [.int 0, .ref 45]) (pm_q178_1 (Nat.le_of_ble_eq_true rfl)) rfl rfl ?_
            refine pm_R_lo pm_M178 (pc' := 169) (pm_q178_1 (Nat.le_of_ble_eq_true rfl)) rfl rfl ?_
            refine pm_R_br pm_M178 (pc' := 172) (st' := [.int 0, .ref 45]) (pm_q178_1 (Nat.le_of_ble_eq_true rfl)) rfl ?_
            refine pm_R_lo pm_M178 (pc' := 173) (pm_q178_1 (Nat.le_of_ble_eq_true rfl)) rfl rfl ?_
            have B684 : sf_B 0 600 (m629 16) := T680.2.2.1 16
            refine rf_R_get pm_M178 T680 (pc' := 176) (v := .int (m629 16)) (pm_q178_1 (Nat.le_of_ble_eq_true rfl)) rfl rfl rfl ?_
            refine pm_R_br pm_M178 (pc' := 194) (pm_q178_1 (Nat.le_of_ble_eq_true rfl)) rfl ?_
            obtain ⟨f685, e686, b687⟩ := T680.2.2.2.1 45 (by decide) (by decide)
            refine rf_R_ist2 pm_M178 T680 (pc' := 195) (pm_q178_1 (Nat.le_of_ble_eq_true rfl)) e686 (by decide) (by decide) rfl ⟨_, rfl, sf_upd b687 (sf_weak B684 (by decide) (by decide)) _⟩ rfl (fun h688 T689 F690 e691 => ?_)
            have F692 := F683.trans F690 (by decide)
            refine pm_R_lo pm_M178 (pc' := 196) (pm_q178_1 (Nat.le_of_ble_eq_true rfl)) rfl rfl ?_
            refine rf_R_get pm_M178 T689 (pc' := 199) (v := .ref 44) (pm_q178_1 (Nat.le_of_ble_eq_true rfl)) rfl rfl rfl ?_
            refine pm_R_op pm_M178 (pc' := 200) (st' := [.int 0, .ref 44]) (pm_q178_1 (Nat.le_of_ble_eq_true rfl)) rfl rfl ?_
            have e693 := (F690.cell (by decide) e682)
            refine pm_R_iald pm_M178 (pc' := 201) (v := 1) (pm_q178_1 (Nat.le_of_ble_eq_true rfl)) e693 (Nat.lt_of_lt_of_le (by decide) T689.1) rfl rfl rfl ?_
            refine pm_R_br pm_M178 (pc' := 208) (st' := []) (pm_q178_1 (Nat.le_of_ble_eq_true rfl)) rfl ?_
            refine pm_R_op pm_M178 (pc' := 209) (st' := [.int 0]) (pm_q178_1 (Nat.le_of_ble_eq_true rfl)) rfl rfl ?_
            exact pm_R_ret pm_M178 (r := some (.int 0)) (pm_q178_1 (Nat.le_of_ble_eq_true rfl)) rfl (K0 m629 w630 h688 T689 F692 W648)
        · have F696 := F621.trans F642 (by decide)
          have B697 : sf_B (-1) (-1) (m638 21) := by rw [W643 21 (by decide)]; exact B622
          have W698 : rf_W [10, 12, 13, 14, 16, 17, 18, 21, 22] m m638 := W625.trans W643 (by decide)
          show pm_R _ 178 66 [.ref 41, .int 1, .int x2_564, pm_no] [.int 1] _ _
          obtain ⟨f699, e700, ct701, bd702⟩ := X644
          have B703 : sf_B 0 4 (m638 17) := T641.2.2.1 17
          refine pm_R_br pm_M178 (pc' := 74) rfl rfl ?_
          refine pm_R_lo pm_M178 (pc' := 75) (ls' := [.ref 41, .int 1, .int 1, pm_no]) (st' := []) rfl rfl rfl ?_
          refine pm_R_lo pm_M178 (pc' := 76) rfl rfl rfl ?_
          refine pm_R_op pm_M178 (pc' := 77) (st' := [.int 1, .int 1]) rfl rfl rfl ?_
          refine pm_R_br pm_M178 (pc' := 80) (st' := []) rfl rfl ?_
          refine pm_R_lo pm_M178 (pc' := 81) rfl rfl rfl ?_
          refine rf_R_get pm_M178 T641 (pc' := 84) (v := .ref 51) rfl rfl rfl rfl ?_
          refine pm_R_op pm_M178 (pc' := 85) (st' := [.int 0, .ref 51]) rfl rfl rfl ?_
          refine pm_R_iald pm_M178 (pc' := 86) (v := (f699 0)) rfl e700 (Nat.lt_of_lt_of_le (by decide) T641.1) rfl rfl rfl ?_
          refine pm_R_ifc pm_M178 (t := 93) (pc' := 89) rfl rfl rfl (fun c706 => ?_) (fun c706 => ?_)
          · have B707 : sf_B 1 12 (f699 0) := sf_neL0 c706 sf_k0 ct701
            refine pm_R_op pm_M178 (pc' := 94) (st' := [.int 0]) rfl rfl rfl ?_
            refine pm_R_br pm_M178 (pc' := 120) rfl rfl ?_
            refine pm_R_lo pm_M178 (pc' := 121) (ls' := [.ref 41, .int 1, .int 1, .int 0]) (st' := []) (pm_q178_1 (Nat.le_of_ble_eq_true rfl)) rfl rfl ?_
            refine pm_R_lo pm_M178 (pc' := 122) (pm_q178_1 (Nat.le_of_ble_eq_true rfl)) rfl rfl ?_
            refine pm_R_br pm_M178 (pc' := 125) (st' := []) (pm_q178_1 (Nat.le_of_ble_eq_true rfl)) rfl ?_
            refine pm_R_lo pm_M178 (pc' := 126) (pm_q178_1 (Nat.le_of_ble_eq_true rfl)) rfl rfl ?_
            refine rf_R_get pm_M178 T641 (pc' := 129) (v := .int (m638 17)) (pm_q178_1 (Nat.le_of_ble_eq_true rfl)) rfl rfl rfl ?_
            refine pm_R_ifc pm_M178 (t := 145) (pc' := 132) (pm_q178_1 (Nat.le_of_ble_eq_true rfl)) rfl rfl (fun c708 => ?_) (fun c708 => ?_)
            · have B709 : sf_B 1 4 (m638 17) := sf_neL0 c708 sf_k0 B703
              refine pm_R_lo pm_M178 (pc' := 146) (pm_q178_1 (Nat.le_of_ble_eq_true rfl)) rfl rfl ?_
              refine rf_R_get pm_M178 T641 (pc' := 149) (v := .ref 44) (pm_q178_1 (Nat.le_of_ble_eq_true rfl)) rfl rfl rfl ?_
              refine pm_R_op pm_M178 (pc' := 150) (st' := [.int 0, .ref 44]) (pm_q178_1 (Nat.le_of_ble_eq_true rfl)) rfl rfl ?_
              refine pm_R_lo pm_M178 (pc' := 151) (pm_q178_1 (Nat.le_of_ble_eq_true rfl)) rfl rfl ?_
              refine pm_R_br pm_M178 (pc' := 154) (st' := [.int 0, .ref 44]) (pm_q178_1 (Nat.le_of_ble_eq_true rfl)) rfl ?_
              refine pm_R_lo pm_M178 (pc' := 155) (pm_q178_1 (Nat.le_of_ble_eq_true rfl)) rfl rfl ?_
              refine rf_R_get pm_M178 T641 (pc' := 158) (v := .int (m638 17)) (pm_q178_1 (Nat.le_of_ble_eq_true rfl)) rfl rfl rfl ?_
              refine pm_R_br pm_M178 (pc' := 162) (pm_q178_1 (Nat.le_of_ble_eq_true rfl)) rfl ?_
              obtain ⟨f710, e711, b712⟩ := T641.2.2.2.1 44 (by decide) (by decide)
              refine rf_R_ist2 pm_M178 T641 (pc' := 163) (pm_q178_1 (Nat.le_of_ble_eq_true rfl)) e711 (by decide) (by decide) rfl ⟨_, rfl, sf_upd b712 (sf_weak B709 (by decide) (by decide)) _⟩ rfl (fun h713 T714 F715 e716 => ?_)
              have F717 := F696.trans F715 (by decide)
              refine pm_R_lo pm_M178 (pc' := 164) (pm_q178_1 (Nat.le_of_ble_eq_true rfl)) rfl rfl ?_
              refine rf_R_get pm_M178 T714 (pc' := 167) (v := .ref 45) (pm_q178_1 (Nat.le_of_ble_eq_true rfl)) rfl rfl rfl ?_
              refine pm_R_op pm_M178 (pc' := 168) (st' := [.int 0, .ref 45]) (pm_q178_1 (Nat.le_of_ble_eq_true rfl)) rfl rfl ?_
              refine pm_R_lo pm_M178 (pc' := 169) (pm_q178_1 (Nat.le_of_ble_eq_true rfl)) rfl rfl ?_
              refine pm_R_br pm_M178 (pc' := 179) (st' := [.int 0, .ref 45]) (pm_q178_1 (Nat.le_of_ble_eq_true rfl)) rfl ?_
              refine pm_R_lo pm_M178 (pc' := 180) (pm_q178_1 (Nat.le_of_ble_eq_true rfl)) rfl rfl ?_
              refine rf_R_get pm_M178 T714 (pc' := 183) (v := .int (m638 17)) (pm_q178_1 (Nat.le_of_ble_eq_true rfl)) rfl rfl rfl ?_
              refine pm_R_ifc pm_M178 (t := 193) (pc' := 186) (pm_q178_1 (Nat.le_of_ble_eq_true rfl)) rfl rfl (fun c718 => absurd c718 (sf_nle B709 sf_k0 (by decide))) (fun c718 => ?_)
              skip
              refine pm_R_lo pm_M178 (pc' := 187) (pm_q178_1 (Nat.le_of_ble_eq_true rfl)) rfl rfl ?_
              have B719 : sf_B 0 600 (m638 18) := T714.2.2.1 18
              refine rf_R_get pm_M178 T714 (pc' := 190) (v := .int (m638 18)) (pm_q178_1 (Nat.le_of_ble_eq_true rfl)) rfl rfl rfl ?_
              refine pm_R_br pm_M178 (pc' := 194) (pm_q178_1 (Nat.le_of_ble_eq_true rfl)) rfl ?_
              obtain ⟨f720, e721, b722⟩ := T714.2.2.2.1 45 (by decide) (by decide)
              refine rf_R_ist2 pm_M178 T714 (pc' := 195) (pm_q178_1 (Nat.le_of_ble_eq_true rfl)) e721 (by decide) (by decide) rfl ⟨_, rfl, sf_upd b722 (sf_weak B719 (by decide) (by decide)) _⟩ rfl (fun h723 T724 F725 e726 => ?_)
              have F727 := F717.trans F725 (by decide)
              refine pm_R_lo pm_M178 (pc' := 196) (pm_q178_1 (Nat.le_of_ble_eq_true rfl)) rfl rfl ?_
              refine rf_R_get pm_M178 T724 (pc' := 199) (v := .ref 44) (pm_q178_1 (Nat.le_of_ble_eq_true rfl)) rfl rfl rfl ?_
              refine pm_R_op pm_M178 (pc' := 200) (st' := [.int 0, .ref 44]) (pm_q178_1 (Nat.le_of_ble_eq_true rfl)) rfl rfl ?_
              have e728 := (F725.cell (by decide) e716)
              refine pm_R_iald pm_M178 (pc' := 201) (v := (m638 17)) (pm_q178_1 (Nat.le_of_ble_eq_true rfl)) e728 (Nat.lt_of_lt_of_le (by decide) T724.1) rfl rfl rfl ?_
              refine pm_R_ifc pm_M178 (t := 208) (pc' := 204) (pm_q178_1 (Nat.le_of_ble_eq_true rfl)) rfl rfl (fun c731 => ?_) (fun c731 => absurd (Classical.not_not.mp c731) (sf_neq1 B709 sf_k0 (by decide)))
              skip
              refine pm_R_op pm_M178 (pc' := 209) (st' := [.int 0]) (pm_q178_1 (Nat.le_of_ble_eq_true rfl)) rfl rfl ?_
              exact pm_R_ret pm_M178 (r := some (.int 0)) (pm_q178_1 (Nat.le_of_ble_eq_true rfl)) rfl (K0 m638 w639 h723 T724 F727 W698)
            · have B732 : sf_B 0 0 (m638 17) := sf_eqL (Classical.not_not.mp c708) sf_k0
              refine pm_R_lo pm_M178 (pc' := 133) (pm_q178_1 (Nat.le_of_ble_eq_true rfl)) rfl rfl ?_
              refine pm_R_br pm_M178 (pc' := 145) (st' := []) (pm_q178_1 (Nat.le_of_ble_eq_true rfl)) rfl ?_
              refine pm_R_lo pm_M178 (pc' := 146) (pm_q178_1 (Nat.le_of_ble_eq_true rfl)) rfl rfl ?_
              refine rf_R_get pm_M178 T641 (pc' := 149) (v := .ref 44) (pm_q178_1 (Nat.le_of_ble_eq_true rfl)) rfl rfl rfl ?_
              refine pm_R_op pm_M178 (pc' := 150) (st' := [.int 0, .ref 44]) (pm_q178_1 (Nat.le_of_ble_eq_true rfl)) rfl rfl ?_
              refine pm_R_lo pm_M178 (pc' := 151) (pm_q178_1 (Nat.le_of_ble_eq_true rfl)) rfl rfl ?_
              refine pm_R_br pm_M178 (pc' := 154) (st' := [.int 0, .ref 44]) (pm_q178_1 (Nat.le_of_ble_eq_true rfl)) rfl ?_
              refine pm_R_lo pm_M178 (pc' := 155) (pm_q178_1 (Nat.le_of_ble_eq_true rfl)) rfl rfl ?_
              refine rf_R_get pm_M178 T641 (pc' := 158) (v := .int (m638 17)) (pm_q178_1 (Nat.le_of_ble_eq_true rfl)) rfl rfl rfl ?_
              refine pm_R_br pm_M178 (pc' := 162) (pm_q178_1 (Nat.le_of_ble_eq_true rfl)) rfl ?_
              obtain ⟨f733, e734, b735⟩ := T641.2.2.2.1 44 (by decide) (by decide)
              refine rf_R_ist2 pm_M178 T641 (pc' := 163) (pm_q178_1 (Nat.le_of_ble_eq_true rfl)) e734 (by decide) (by decide) rfl ⟨_, rfl, sf_upd b735 (sf_weak B732 (by decide) (by decide)) _⟩ rfl (fun h736 T737 F738 e739 => ?_)
              have F740 := F696.trans F738 (by decide)
              refine pm_R_lo pm_M178 (pc' := 164) (pm_q178_1 (Nat.le_of_ble_eq_true rfl)) rfl rfl ?_
              refine rf_R_get pm_M178 T737 (pc' := 167) (v := .ref 45) (pm_q178_1 (Nat.le_of_ble_eq_true rfl)) rfl rfl rfl ?_
              refine pm_R_op pm_M178 (pc' := 168) (st' := [.int 0, .ref 45]) (pm_q178_1 (Nat.le_of_ble_eq_true rfl)) rfl rfl ?_
              refine pm_R_lo pm_M178 (pc' := 169) (pm_q178_1 (Nat.le_of_ble_eq_true rfl)) rfl rfl ?_
              refine pm_R_br pm_M178 (pc' := 179) (st' := [.int 0, .ref 45]) (pm_q178_1 (Nat.le_of_ble_eq_true rfl)) rfl ?_
              refine pm_R_lo pm_M178 (pc' := 180) (pm_q178_1 (Nat.le_of_ble_eq_true rfl)) rfl rfl ?_
              refine rf_R_get pm_M178 T737 (pc' := 183) (v := .int (m638 17)) (pm_q178_1 (Nat.le_of_ble_eq_true rfl)) rfl rfl rfl ?_
              refine pm_R_ifc pm_M178 (t := 193) (pc' := 186) (pm_q178_1 (Nat.le_of_ble_eq_true rfl)) rfl rfl (fun c741 => ?_) (fun c741 => absurd (Int32.not_le.mp c741) (sf_nlt sf_k0 B732 (by decide)))
              skip
              refine pm_R_op pm_M178 (pc' := 194) (st' := [.int (-1), .int 0, .ref 45]) (pm_q178_1 (Nat.le_of_ble_eq_true rfl)) rfl rfl ?_
              obtain ⟨f742, e743, b744⟩ := T737.2.2.2.1 45 (by decide) (by decide)
              refine rf_R_ist2 pm_M178 T737 (pc' := 195) (pm_q178_1 (Nat.le_of_ble_eq_true rfl)) e743 (by decide) (by decide) rfl ⟨_, rfl, sf_upd b744 (sf_weak sf_kn1 (by decide) (by decide)) _⟩ rfl (fun h745 T746 F747 e748 => ?_)
              have F749 := F740.trans F747 (by decide)
              refine pm_R_lo pm_M178 (pc' := 196) (pm_q178_1 (Nat.le_of_ble_eq_true rfl)) rfl rfl ?_
              refine rf_R_get pm_M178 T746 (pc' := 199) (v := .ref 44) (pm_q178_1 (Nat.le_of_ble_eq_true rfl)) rfl rfl rfl ?_
              refine pm_R_op pm_M178 (pc' := 200) (st' := [.int 0, .ref 44]) (pm_q178_1 (Nat.le_of_ble_eq_true rfl)) rfl rfl ?_
              have e750 := (F747.cell (by decide) e739)
              refine pm_R_iald pm_M178 (pc' := 201) (v := (m638 17)) (pm_q178_1 (Nat.le_of_ble_eq_true rfl)) e750 (Nat.lt_of_lt_of_le (by decide) T746.1) rfl rfl rfl ?_
              refine pm_R_ifc pm_M178 (t := 208) (pc' := 204) (pm_q178_1 (Nat.le_of_ble_eq_true rfl)) rfl rfl (fun c753 => absurd (sf_pt2 B732 sf_k0) c753) (fun c753 => ?_)
              refine pm_R_op pm_M178 (pc' := 205) (st' := [.int 1]) (pm_q178_1 (Nat.le_of_ble_eq_true rfl)) rfl rfl ?_
              refine pm_R_br pm_M178 (pc' := 209) (pm_q178_1 (Nat.le_of_ble_eq_true rfl)) rfl ?_
              have e754 := (F747.cell (by decide) (F738.cell (by decide) e700))
              exact pm_R_ret pm_M178 (r := some (.int 1)) (pm_q178_1 (Nat.le_of_ble_eq_true rfl)) rfl (K1 m638 w639 h745 T746 F749 W698 ⟨f699, e754, (by have z : ((m638 17)).toInt = 0 := (sf_aux35 _ B732.1 B732.2); exact (bd702 z)), (sf_eqL rfl B707).1⟩)
          · have B755 : sf_B 0 0 (f699 0) := sf_eqL (Classical.not_not.mp c706) sf_k0
            refine pm_R_op pm_M178 (pc' := 90) (st' := [.int 1]) rfl rfl rfl ?_
            refine pm_R_br pm_M178 (pc' := 120) rfl rfl ?_
            refine pm_R_lo pm_M178 (pc' := 121) (ls' := [.ref 41, .int 1, .int 1, .int 1]) (st' := []) (pm_q178_1 (Nat.le_of_ble_eq_true rfl)) rfl rfl ?_
            refine pm_R_lo pm_M178 (pc' := 122) (pm_q178_1 (Nat.le_of_ble_eq_true rfl)) rfl rfl ?_
            refine pm_R_br pm_M178 (pc' := 125) (st' := []) (pm_q178_1 (Nat.le_of_ble_eq_true rfl)) rfl ?_
            refine pm_R_lo pm_M178 (pc' := 126) (pm_q178_1 (Nat.le_of_ble_eq_true rfl)) rfl rfl ?_
            refine rf_R_get pm_M178 T641 (pc' := 129) (v := .int (m638 17)) (pm_q178_1 (Nat.le_of_ble_eq_true rfl)) rfl rfl rfl ?_
            refine pm_R_ifc pm_M178 (t := 145) (pc' := 132) (pm_q178_1 (Nat.le_of_ble_eq_true rfl)) rfl rfl (fun c756 => ?_) (fun c756 => ?_)
            · have B757 : sf_B 1 4 (m638 17) := sf_neL0 c756 sf_k0 B703
              refine pm_R_lo pm_M178 (pc' := 146) (pm_q178_1 (Nat.le_of_ble_eq_true rfl)) rfl rfl ?_
              refine rf_R_get pm_M178 T641 (pc' := 149) (v := .ref 44) (pm_q178_1 (Nat.le_of_ble_eq_true rfl)) rfl rfl rfl ?_
              refine pm_R_op pm_M178 (pc' := 150) (st' := [.int 0, .ref 44]) (pm_q178_1 (Nat.le_of_ble_eq_true rfl)) rfl rfl ?_
              refine pm_R_lo pm_M178 (pc' := 151) (pm_q178_1 (Nat.le_of_ble_eq_true rfl)) rfl rfl ?_
              refine pm_R_br pm_M178 (pc' := 154) (st' := [.int 0, .ref 44]) (pm_q178_1 (Nat.le_of_ble_eq_true rfl)) rfl ?_
              refine pm_R_lo pm_M178 (pc' := 155) (pm_q178_1 (Nat.le_of_ble_eq_true rfl)) rfl rfl ?_
              refine rf_R_get pm_M178 T641 (pc' := 158) (v := .int (m638 17)) (pm_q178_1 (Nat.le_of_ble_eq_true rfl)) rfl rfl rfl ?_
              refine pm_R_br pm_M178 (pc' := 162) (pm_q178_1 (Nat.le_of_ble_eq_true rfl)) rfl ?_
              obtain ⟨f758, e759, b760⟩ := T641.2.2.2.1 44 (by decide) (by decide)
              refine rf_R_ist2 pm_M178 T641 (pc' := 163) (pm_q178_1 (Nat.le_of_ble_eq_true rfl)) e759 (by decide) (by decide) rfl ⟨_, rfl, sf_upd b760 (sf_weak B757 (by decide) (by decide)) _⟩ rfl (fun h761 T762 F763 e764 => ?_)
              have F765 := F696.trans F763 (by decide)
              refine pm_R_lo pm_M178 (pc' := 164) (pm_q178_1 (Nat.le_of_ble_eq_true rfl)) rfl rfl ?_
              refine rf_R_get pm_M178 T762 (pc' := 167) (v := .ref 45) (pm_q178_1 (Nat.le_of_ble_eq_true rfl)) rfl rfl rfl ?_
              refine pm_R_op pm_M178 (pc' := 168) (st' := [.int 0, .ref 45]) (pm_q178_1 (Nat.le_of_ble_eq_true rfl)) rfl rfl ?_
              refine pm_R_lo pm_M178 (pc' := 169) (pm_q178_1 (Nat.le_of_ble_eq_true rfl)) rfl rfl ?_
              refine pm_R_br pm_M178 (pc' := 179) (st' := [.int 0, .ref 45]) (pm_q178_1 (Nat.le_of_ble_eq_true rfl)) rfl ?_
              refine pm_R_lo pm_M178 (pc' := 180) (pm_q178_1 (Nat.le_of_ble_eq_true rfl)) rfl rfl ?_
              refine rf_R_get pm_M178 T762 (pc' := 183) (v := .int (m638 17)) (pm_q178_1 (Nat.le_of_ble_eq_true rfl)) rfl rfl rfl ?_
              refine pm_R_ifc pm_M178 (t := 193) (pc' := 186) (pm_q178_1 (Nat.le_of_ble_eq_true rfl)) rfl rfl (fun c766 => absurd c766 (sf_nle B757 sf_k0 (by decide))) (fun c766 => ?_)
              skip
              refine pm_R_lo pm_M178 (pc' := 187) (pm_q178_1 (Nat.le_of_ble_eq_true rfl)) rfl rfl ?_
              have B767 : sf_B 0 600 (m638 18) := T762.2.2.1 18
              refine rf_R_get pm_M178 T762 (pc' := 190) (v := .int (m638 18)) (pm_q178_1 (Nat.le_of_ble_eq_true rfl)) rfl rfl rfl ?_
              refine pm_R_br pm_M178 (pc' := 194) (pm_q178_1 (Nat.le_of_ble_eq_true rfl)) rfl ?_
              obtain ⟨f768, e769, b770⟩ := T762.2.2.2.1 45 (by decide) (by decide)
              refine rf_R_ist2 pm_M178 T762 (pc' := 195) (pm_q178_1 (Nat.le_of_ble_eq_true rfl)) e769 (by decide) (by decide) rfl ⟨_, rfl, sf_upd b770 (sf_weak B767 (by decide) (by decide)) _⟩ rfl (fun h771 T772 F773 e774 => ?_)
              have F775 := F765.trans F773 (by decide)
              refine pm_R_lo pm_M178 (pc' := 196) (pm_q178_1 (Nat.le_of_ble_eq_true rfl)) rfl rfl ?_
              refine rf_R_get pm_M178 T772 (pc' := 199) (v := .ref 44) (pm_q178_1 (Nat.le_of_ble_eq_true rfl)) rfl rfl rfl ?_
              refine pm_R_op pm_M178 (pc' := 200) (st' := [.int 0, .ref 44]) (pm_q178_1 (Nat.le_of_ble_eq_true rfl)) rfl rfl ?_
              have e776 := (F773.cell (by decide) e764)
              refine pm_R_iald pm_M178 (pc' := 201) (v := (m638 17)) (pm_q178_1 (Nat.le_of_ble_eq_true rfl)) e776 (Nat.lt_of_lt_of_le (by decide) T772.1) rfl rfl rfl ?_
              refine pm_R_ifc pm_M178 (t := 208) (pc' := 204) (pm_q178_1 (Nat.le_of_ble_eq_true rfl)) rfl rfl (fun c779 => ?_) (fun c779 => absurd (Classical.not_not.mp c779) (sf_neq1 B757 sf_k0 (by decide)))
              skip
              refine pm_R_op pm_M178 (pc' := 209) (st' := [.int 0]) (pm_q178_1 (Nat.le_of_ble_eq_true rfl)) rfl rfl ?_
              exact pm_R_ret pm_M178 (r := some (.int 0)) (pm_q178_1 (Nat.le_of_ble_eq_true rfl)) rfl (K0 m638 w639 h771 T772 F775 W698)
            · have B780 : sf_B 0 0 (m638 17) := sf_eqL (Classical.not_not.mp c756) sf_k0
              refine pm_R_lo pm_M178 (pc' := 133) (pm_q178_1 (Nat.le_of_ble_eq_true rfl)) rfl rfl ?_
              refine pm_R_br pm_M178 (pc' := 136) (st' := []) (pm_q178_1 (Nat.le_of_ble_eq_true rfl)) rfl ?_
              refine pm_R_lo pm_M178 (pc' := 137) (pm_q178_1 (Nat.le_of_ble_eq_true rfl)) rfl rfl ?_
              refine pm_R_op pm_M178 (pc' := 138) (st' := [.int 4, .ref 41]) (pm_q178_1 (Nat.le_of_ble_eq_true rfl)) rfl rfl ?_
              refine pm_R_lo pm_M178 (pc' := 139) (pm_q178_1 (Nat.le_of_ble_eq_true rfl)) rfl rfl ?_
              have B781 : sf_B 0 600 (m638 12) := T641.2.2.1 12
              refine rf_R_get pm_M178 T641 (pc' := 142) (v := .int (m638 12)) (pm_q178_1 (Nat.le_of_ble_eq_true rfl)) rfl rfl rfl ?_
              refine pm_R_cv pm_M178 (pc' := 145) (a := 41) (ra := [.int (m638 12), .int 4]) (rest := []) (ls' := [.ref 41, .int 4, .int (m638 12)]) (pm_q178_1 (Nat.le_of_ble_eq_true rfl)) rfl (Or.inl rfl) pm_M182 T641.2.1 rfl (by decide) (Nat.lt_of_lt_of_le (by decide) T641.1) rfl rfl (Nat.le_of_ble_eq_true rfl) rfl rfl ?_
              refine rf_c182 (d := d + 5) T641 (sf_weak sf_k4 (by decide) (by decide)) B781 (fun m784 w785 h786 T787 F788 W789 B790 => ?_)
              have F791 := F696.trans F788 (by decide)
              have B792 : sf_B (-1) (-1) (m784 21) := by rw [W789 21 (by decide)]; exact B697
              have W793 : rf_W [10, 12, 13, 14, 16, 17, 18, 21, 22] m m784 := W698.trans W789 (by decide)
              show pm_R _ 178 145 [.ref 41, .int 1, .int 1, .int 1] [] _ _
              refine pm_R_lo pm_M178 (pc' := 146) (pm_q178_1 (Nat.le_of_ble_eq_true rfl)) rfl rfl ?_
              refine rf_R_get pm_M178 T787 (pc' := 149) (v := .ref 44) (pm_q178_1 (Nat.le_of_ble_eq_true rfl)) rfl rfl rfl ?_
              refine pm_R_op pm_M178 (pc' := 150) (st' := [.int 0, .ref 44]) (pm_q178_1 (Nat.le_of_ble_eq_true rfl)) rfl rfl ?_
              refine pm_R_lo pm_M178 (pc' := 151) (pm_q178_1 (Nat.le_of_ble_eq_true rfl)) rfl rfl ?_
              refine pm_R_br pm_M178 (pc' := 154) (st' := [.int 0, .ref 44]) (pm_q178_1 (Nat.le_of_ble_eq_true rfl)) rfl ?_
              refine pm_R_lo pm_M178 (pc' := 155) (pm_q178_1 (Nat.le_of_ble_eq_true rfl)) rfl rfl ?_
              refine rf_R_get pm_M178 T787 (pc' := 158) (v := .int (m784 17)) (pm_q178_1 (Nat.le_of_ble_eq_true rfl)) rfl rfl rfl ?_
              refine pm_R_br pm_M178 (pc' := 162) (pm_q178_1 (Nat.le_of_ble_eq_true rfl)) rfl ?_
              obtain ⟨f794, e795, b796⟩ := T787.2.2.2.1 44 (by decide) (by decide)
              refine rf_R_ist2 pm_M178 T787 (pc' := 163) (pm_q178_1 (Nat.le_of_ble_eq_true rfl)) e795 (by decide) (by decide) rfl ⟨_, rfl, sf_upd b796 (sf_weak B790 (by decide) (by decide)) _⟩ rfl (fun h797 T798 F799 e800 => ?_)
              have F801 := F791.trans F799 (by decide)
              refine pm_R_lo pm_M178 (pc' := 164) (pm_q178_1 (Nat.le_of_ble_eq_true rfl)) rfl rfl ?_
              refine rf_R_get pm_M178 T798 (pc' := 167) (v := .ref 45) (pm_q178_1 (Nat.le_of_ble_eq_true rfl)) rfl rfl rfl ?_
              refine pm_R_op pm_M178 (pc' := 168) (st' := [.int 0, .ref 45]) (pm_q178_1 (Nat.le_of_ble_eq_true rfl)) rfl rfl ?_
              refine pm_R_lo pm_M178 (pc' := 169) (pm_q178_1 (Nat.le_of_ble_eq_true rfl)) rfl rfl ?_
              refine pm_R_br pm_M178 (pc' := 179) (st' := [.int 0, .ref 45]) (pm_q178_1 (Nat.le_of_ble_eq_true rfl)) rfl ?_
              refine pm_R_lo pm_M178 (pc' := 180) (pm_q178_1 (Nat.le_of_ble_eq_true rfl)) rfl rfl ?_
              refine rf_R_get pm_M178 T798 (pc' := 183) (v := .int (m784 17)) (pm_q178_1 (Nat.le_of_ble_eq_true rfl)) rfl rfl rfl ?_
              refine pm_R_ifc pm_M178 (t := 193) (pc' := 186) (pm_q178_1 (Nat.le_of_ble_eq_true rfl)) rfl rfl (fun c802 => absurd c802 (sf_nle B790 sf_k0 (by decide))) (fun c802 => ?_)
              skip
              refine pm_R_lo pm_M178 (pc' := 187) (pm_q178_1 (Nat.le_of_ble_eq_true rfl)) rfl rfl ?_
              have B803 : sf_B 0 600 (m784 18) := T798.2.2.1 18
              refine rf_R_get pm_M178 T798 (pc' := 190) (v := .int (m784 18)) (pm_q178_1 (Nat.le_of_ble_eq_true rfl)) rfl rfl rfl ?_
              refine pm_R_br pm_M178 (pc' := 194) (pm_q178_1 (Nat.le_of_ble_eq_true rfl)) rfl ?_
              obtain ⟨f804, e805, b806⟩ := T798.2.2.2.1 45 (by decide) (by decide)
              refine rf_R_ist2 pm_M178 T798 (pc' := 195) (pm_q178_1 (Nat.le_of_ble_eq_true rfl)) e805 (by decide) (by decide) rfl ⟨_, rfl, sf_upd b806 (sf_weak B803 (by decide) (by decide)) _⟩ rfl (fun h807 T808 F809 e810 => ?_)
              have F811 := F801.trans F809 (by decide)
              refine pm_R_lo pm_M178 (pc' := 196) (pm_q178_1 (Nat.le_of_ble_eq_true rfl)) rfl rfl ?_
              refine rf_R_get pm_M178 T808 (pc' := 199) (v := .ref 44) (pm_q178_1 (Nat.le_of_ble_eq_true rfl)) rfl rfl rfl ?_
              refine pm_R_op pm_M178 (pc' := 200) (st' := [.int 0, .ref 44]) (pm_q178_1 (Nat.le_of_ble_eq_true rfl)) rfl rfl ?_
              have e812 := (F809.cell (by decide) e800)
              refine pm_R_iald pm_M178 (pc' := 201) (v := (m784 17)) (pm_q178_1 (Nat.le_of_ble_eq_true rfl)) e812 (Nat.lt_of_lt_of_le (by decide) T808.1) rfl rfl rfl ?_
              refine pm_R_ifc pm_M178 (t := 208) (pc' := 204) (pm_q178_1 (Nat.le_of_ble_eq_true rfl)) rfl rfl (fun c815 => ?_) (fun c815 => absurd (Classical.not_not.mp c815) (sf_neq1 B790 sf_k0 (by decide)))
              skip
              refine pm_R_op pm_M178 (pc' := 209) (st' := [.int 0]) (pm_q178_1 (Nat.le_of_ble_eq_true rfl)) rfl rfl ?_
              exact pm_R_ret pm_M178 (r := some (.int 0)) (pm_q178_1 (Nat.le_of_ble_eq_true rfl)) rfl (K0 m784 w785 h807 T808 F811 W793)
      · have B816 : sf_B 0 151 x2_564 := sf_ltL (Int32.not_le.mp c571) Bx2_564 sf_k152
        refine pm_R_lo pm_M178 (pc' := 10) rfl rfl rfl ?_
        refine rf_R_get pm_M178 T_564 (pc' := 13) (v := .ref 51) rfl rfl rfl rfl ?_
        refine pm_R_lo pm_M178 (pc' := 14) rfl rfl rfl ?_
        refine pm_R_op pm_M178 (pc' := 15) (st' := [.int 0, .int x2_564, .ref 51]) rfl rfl rfl ?_
        refine rf_R_ist pm_M178 T_564 (pc' := 16) rfl e569 (by decide) (by decide) (sf_in B816 (by decide) (by decide)) ⟨_, rfl⟩ rfl (fun h817 T818 F819 e820 => ?_)
        have F821 := F_564.trans F819 (by decide)
        refine sf_R_iinc pm_M178 (pc' := 19) (ls' := fun z => [.ref 41, .int 1, .int z, pm_no]) rfl B816 rfl (by decide) (by decide) (by decide) (fun _ => rfl) rfl (fun z822 e823 B824 => ?_)
        show pm_R _ 178 19 [.ref 41, .int 1, .int z822, pm_no] [] _ _
        refine pm_R_br pm_M178 (pc' := 2) rfl rfl ?_
        exact ih_564 _ (sf_up hN_564 e823 B816 (by decide) (by decide)) h817 m_564 w_564 z822 T818 F821 W_564 (sf_weak B824 (by decide) (by decide)) ⟨(upd f568 (Int32.toNatClampNeg x2_564) 0), e820, rf_zero zz570 e823 B816 (by decide)⟩ rfl
  obtain ⟨f825, e826⟩ := T.2.2.2.1 51 (by decide) (by decide)
  exact L_564 _ h m w 0 T (rf_G.refl [41, 44, 45, 51, 52] h) (rf_W.refl _ _) (sf_weak sf_k0 (by decide) (by decide)) ⟨f825, e826, fun j hj => absurd hj (by show ¬ (j : Int) < 0; omega)⟩ rfl

set_option maxRecDepth 100000 in
set_option maxHeartbeats 4000000 in
/-- SilentTableModel.readText -/
theorem rf_c178_2 {d : Nat} {m : Nat → Int32} {w : Int64} {h : pm_H} {Q : Option Value → pm_H → Prop}  (T : rf_T m w h)  (K0 : ∀ (m' : Nat → Int32) (w' : Int64) (h' : pm_H), rf_T m' w' h' → rf_G [41, 44, 45, 51, 52] h h' → rf_W [10, 12, 13, 14, 16, 17, 18, 21, 22] m m' → Q (some (.int 0)) h') (K1 : ∀ (m' : Nat → Int32) (w' : Int64) (h' : pm_H), rf_T m' w' h' → rf_G [41, 44, 45, 51, 52] h h' → rf_W [10, 12, 13, 14, 16, 17, 18, 21, 22] m m' → (∃ f : Nat → Int32, h'.2.2 51 = .inl (0, 152, .inl f) ∧ rf_bd 2 f) → Q (some (.int 1)) h') : pm_R (d + 6) 178 0 [.ref 41, .int 2, pm_no, pm_no] [] h Q := by
  refine pm_R_op pm_M178 (pc' := 1) (st' := [.int 0]) rfl rfl rfl ?_
  refine pm_R_lo pm_M178 (pc' := 2) (ls' := [.ref 41, .int 2, .int 0, pm_no]) (st' := []) rfl rfl rfl ?_
  have L_564 : ∀ (N : Nat) (h_564 : pm_H) (m_564 : Nat → Int32) (w_564 : Int64) (x2_564 : Int32), rf_T m_564 w_564 h_564 → rf_G [41, 44, 45, 51, 52] h h_564 → rf_W [] m m_564 → sf_B 0 152 x2_564 → (∃ f : Nat → Int32, h_564.2.2 51 = .inl (0, 152, .inl f) ∧ ∀ j : Nat, (j : Int) < x2_564.toInt → f j = 0) → (152 - x2_564.toInt).toNat = N → pm_R (d + 6) 178 2 [.ref 41, .int 2, .int x2_564, pm_no] [] h_564 Q := by
    intro N
    induction N using Nat.strongRecOn with
    | ind N ih_564 =>
      intro h_564 m_564 w_564 x2_564 T_564 F_564 W_564 Bx2_564 X_564 hN_564
      have W567 : rf_W [10, 12, 13, 14, 16, 17, 18, 21, 22] m m_564 := (rf_W.refl [10, 12, 13, 14, 16, 17, 18, 21, 22] m).trans W_564 (by decide)
      obtain ⟨f568, e569, zz570⟩ := X_564
      refine pm_R_lo pm_M178 (pc' := 3) rfl rfl rfl ?_
      refine pm_R_op pm_M178 (pc' := 6) (st' := [.int 152, .int x2_564]) rfl rfl rfl ?_
      refine pm_R_icmp pm_M178 (t := 22) (pc' := 9) rfl rfl rfl (fun c571 => ?_) (fun c571 => ?_)
      · have B572 : sf_B 152 152 x2_564 := sf_leR c571 sf_k152 Bx2_564
        refine pm_R_lo pm_M178 (pc' := 23) rfl rfl rfl ?_
        refine rf_R_get pm_M178 T_564 (pc' := 26) (v := .ref 51) rfl rfl rfl rfl ?_
        refine pm_R_op pm_M178 (pc' := 27) (st' := [.int 0, .ref 51]) rfl rfl rfl ?_
        refine pm_R_lo pm_M178 (pc' := 28) rfl rfl rfl ?_
        refine pm_R_op pm_M178 (pc' := 29) (st' := [.int 2, .int 2, .int 0, .ref 51]) rfl rfl rfl ?_
        refine pm_R_br pm_M178 (pc' := 32) (st' := [.int 0, .ref 51]) rfl rfl ?_
        refine pm_R_op pm_M178 (pc' := 33) (st' := [.int 4, .int 0, .ref 51]) rfl rfl rfl ?_
        refine pm_R_br pm_M178 (pc' := 37) rfl rfl ?_
        refine rf_R_ist pm_M178 T_564 (pc' := 38) rfl e569 (by decide) (by decide) rfl ⟨_, rfl⟩ rfl (fun h573 T574 F575 e576 => ?_)
        have F577 := F_564.trans F575 (by decide)
        have ct578 : rf_ct 2 (upd f568 (Int32.toNatClampNeg 0) 4) ∧ rf_bd 2 (upd f568 (Int32.toNatClampNeg 0) 4) := rf_all0_2 (fun j hj => zz570 j (by have := Int32.le_iff_toInt_le.mp c571; have e0 : (152 : Int32).toInt = 152 := rfl; omega))
        refine pm_R_lo pm_M178 (pc' := 39) rfl rfl rfl ?_
        refine pm_R_op pm_M178 (pc' := 40) (st' := [.int (-1), .ref 41]) rfl rfl rfl ?_
        refine rf_R_put pm_M178 T574 (pc' := 43) rfl rfl rfl (by decide) rfl rfl (sf_weak sf_kn1 (by decide) (by decide)) rfl rfl (fun h580 m583 em584 T581 F582 => ?_)
        have F585 := F577.trans F582 (by decide)
        have B586 : sf_B (-1) (-1) (m583 21) := by rw [em584]; exact sf_kn1
        have W588 : rf_W [10, 12, 13, 14, 16, 17, 18, 21, 22] m m583 := by rw [em584]; exact W567.put (by decide)
        refine pm_R_lo pm_M178 (pc' := 44) rfl rfl rfl ?_
        refine pm_R_op pm_M178 (pc' := 45) (st' := [.int 0, .ref 41]) rfl rfl rfl ?_
        refine rf_R_put pm_M178 T581 (pc' := 48) rfl rfl rfl (by decide) rfl rfl (sf_weak sf_k0 (by decide) (by decide)) rfl rfl (fun h589 m592 em593 T590 F591 => ?_)
        have F594 := F585.trans F591 (by decide)
        have B595 : sf_B (-1) (-1) (m592 21) := by rw [em593]; exact B586
        have B596 : sf_B 0 0 (m592 10) := by rw [em593]; exact sf_k0
        have W598 : rf_W [10, 12, 13, 14, 16, 17, 18, 21, 22] m m592 := by rw [em593]; exact W588.put (by decide)
        refine pm_R_lo pm_M178 (pc' := 49) rfl rfl rfl ?_
        refine pm_R_op pm_M178 (pc' := 50) (st' := [.int 0, .ref 41]) rfl rfl rfl ?_
        refine rf_R_put pm_M178 T590 (pc' := 53) rfl rfl rfl (by decide) rfl rfl (sf_weak sf_k0 (by decide) (by decide)) rfl rfl (fun h599 m602 em603 T600 F601 => ?_)
        have F604 := F594.trans F601 (by decide)
        have B605 : sf_B (-1) (-1) (m602 21) := by rw [em603]; exact B595
        have B606 : sf_B 0 0 (m602 10) := by rw [em603]; exact B596
        have ek607 : (m602 10).toInt = ((m592 10)).toInt := by rw [em603]; rfl
        have B608 : sf_B 0 0 (m602 17) := by rw [em603]; exact sf_k0
        have W610 : rf_W [10, 12, 13, 14, 16, 17, 18, 21, 22] m m602 := by rw [em603]; exact W598.put (by decide)
        refine pm_R_lo pm_M178 (pc' := 54) rfl rfl rfl ?_
        refine pm_R_cv pm_M178 (pc' := 57) (a := 41) (ra := []) (rest := []) (ls' := [.ref 41, pm_no, pm_no]) rfl rfl (Or.inl rfl) pm_M179 T600.2.1 rfl (by decide) (Nat.lt_of_lt_of_le (by decide) T600.1) rfl rfl (Nat.le_of_ble_eq_true rfl) rfl rfl ?_
        refine rf_c179 (d := d + 4) T600  (fun m613 w614 h615 T616 F617 W618 X619 X620 => ?_)
        have F621 := F604.trans F617 (by decide)
        have B622 : sf_B (-1) (-1) (m613 21) := by rw [W618 21 (by decide)]; exact B605
        have B623 : sf_B 0 0 (m613 17) := by rw [W618 17 (by decide)]; exact B608
        have ek624 : (m613 17).toInt = ((m602 17)).toInt := by rw [W618 17 (by decide)]
        have W625 : rf_W [10, 12, 13, 14, 16, 17, 18, 21, 22] m m613 := W610.trans W618 (by decide)
        show pm_R _ 178 57 [.ref 41, .int 2, .int x2_564, pm_no] [] _ _
        refine pm_R_lo pm_M178 (pc' := 58) rfl rfl rfl ?_
        refine pm_R_op pm_M178 (pc' := 59) (st' := [.int 1, .int 2]) rfl rfl rfl ?_
        refine pm_R_br pm_M178 (pc' := 69) (st' := []) rfl rfl ?_
        refine pm_R_lo pm_M178 (pc' := 70) rfl rfl rfl ?_
        refine pm_R_lo pm_M178 (pc' := 71) rfl rfl rfl ?_
        refine pm_R_cv pm_M178 (pc' := 74) (a := 41) (ra := [.int 2]) (rest := []) (ls' := [.ref 41, .int 2, pm_no, pm_no, pm_no, pm_no]) rfl rfl (Or.inl rfl) pm_M186 T616.2.1 rfl (by decide) (Nat.lt_of_lt_of_le (by decide) T616.1) rfl rfl (Nat.le_of_ble_eq_true rfl) rfl rfl ?_
        have e626 := (F617.cell (by decide) (F601.cell (by decide) (F591.cell (by decide) (F582.cell (by decide) e576))))
        refine rf_c186_2 (d := d + 0) T616 (⟨(upd f568 (Int32.toNatClampNeg 0) 4), e626, ct578.1, fun z => ct578.2⟩) (fun m629 w630 h631 T632 F633 W634 X635 => ?_) (fun m638 w639 h640 T641 F642 W643 X644 X645 => ?_)
        · have F646 := F621.trans F633 (by decide)
          have W647 : rf_W [10, 12, 13, 14, 16, 17, 18, 21, 22] m m629 := W625.trans W634 (by decide)
          show pm_R _ 178 74 [.ref 41, .int 2, .int x2_564, pm_no] [.int 0] _ _
          refine pm_R_lo pm_M178 (pc' := 75) (ls' := [.ref 41, .int 2, .int 0, pm_no]) (st' := []) rfl rfl rfl ?_
          refine pm_R_lo pm_M178 (pc' := 76) rfl rfl rfl ?_
          refine pm_R_op pm_M178 (pc' := 77) (st' := [.int 1, .int 2]) rfl rfl rfl ?_
          refine pm_R_br pm_M178 (pc' := 97) (st' := []) rfl rfl ?_
          refine pm_R_lo pm_M178 (pc' := 98) rfl rfl rfl ?_
          refine pm_R_op pm_M178 (pc' := 99) (st' := [.int 2, .int 2]) rfl rfl rfl ?_
          refine pm_R_br pm_M178 (pc' := 102) (st' := []) rfl rfl ?_
          refine pm_R_lo pm_M178 (pc' := 103) rfl rfl rfl ?_
          have B648 : sf_B (-1) 99 (m629 21) := T632.2.2.1 21
          refine rf_R_get pm_M178 T632 (pc' := 106) (v := .int (m629 21)) rfl rfl rfl rfl ?_
          refine pm_R_lo pm_M178 (pc' := 107) (pm_q178_1 (Nat.le_of_ble_eq_true rfl)) rfl rfl ?_
          refine rf_R_get pm_M178 T632 (pc' := 110) (v := .ref 51) (pm_q178_1 (Nat.le_of_ble_eq_true rfl)) rfl rfl rfl ?_
          refine pm_R_op pm_M178 (pc' := 111) (st' := [.int 0, .ref 51, .int (m629 21)]) (pm_q178_1 (Nat.le_of_ble_eq_true rfl)) rfl rfl ?_
          obtain ⟨f649, e650⟩ := T632.2.2.2.1 51 (by decide) (by decide)
          refine rf_R_ild pm_M178 T632 (pc' := 112) (pm_q178_1 (Nat.le_of_ble_eq_true rfl)) e650 (by decide) rfl rfl (fun z652 ez653 => ?_)
          refine pm_R_icmp pm_M178 (t := 119) (pc' := 115) (pm_q178_1 (Nat.le_of_ble_eq_true rfl)) rfl rfl (fun c654 => ?_) (fun c654 => ?_)
          · have B655 : sf_B 0 2147483647 z652 := sf_ltR c654 B648 (sf_any z652)
            refine pm_R_op pm_M178 (pc' := 120) (st' := [.int 0]) (pm_q178_1 (Nat.le_of_ble_eq_true rfl)) rfl rfl ?_
            refine pm_R_lo pm_M178 (pc' := 121) (ls' := [.ref 41, .int 2, .int 0, .int 0]) (st' := []) (pm_q178_1 (Nat.le_of_ble_eq_true rfl)) rfl rfl ?_
            refine pm_R_lo pm_M178 (pc' := 122) (pm_q178_1 (Nat.le_of_ble_eq_true rfl)) rfl rfl ?_
            refine pm_R_br pm_M178 (pc' := 145) (st' := []) (pm_q178_1 (Nat.le_of_ble_eq_true rfl)) rfl ?_
            refine pm_R_lo pm_M178 (pc' := 146) (pm_q178_1 (Nat.le_of_ble_eq_true rfl)) rfl rfl ?_
            refine rf_R_get pm_M178 T632 (pc' := 149) (v := .ref 44) (pm_q178_1 (Nat.le_of_ble_eq_true rfl)) rfl rfl rfl ?_
            refine pm_R_op pm_M178 (pc' := 150) (st' := [.int 0, .ref 44]) (pm_q178_1 (Nat.le_of_ble_eq_true rfl)) rfl rfl ?_
            refine pm_R_lo pm_M178 (pc' := 151) (pm_q178_1 (Nat.le_of_ble_eq_true rfl)) rfl rfl ?_
            refine pm_R_br pm_M178 (pc' := 161) (st' := [.int 0, .ref 44]) (pm_q178_1 (Nat.le_of_ble_eq_true rfl)) rfl ?_
            refine pm_R_op pm_M178 (pc' := 162) (st' := [.int 1, .int 0, .ref 44]) (pm_q178_1 (Nat.le_of_ble_eq_true rfl)) rfl rfl ?_
            obtain ⟨f656, e657, b658⟩ := T632.2.2.2.1 44 (by decide) (by decide)
            refine rf_R_ist2 pm_M178 T632 (pc' := 163) (pm_q178_1 (Nat.le_of_ble_eq_true rfl)) e657 (by decide) (by decide) rfl ⟨_, rfl, sf_upd b658 (sf_weak sf_k1 (by decide) (by decide)) _⟩ rfl (fun h659 T660 F661 e662 => ?_)
            have F663 := F646.trans F661 (by decide)
            refine pm_R_lo pm_M178 (pc' := 164) (pm_q178_1 (Nat.le_of_ble_eq_true rfl)) rfl rfl ?_
            refine rf_R_get pm_M178 T660 (pc' := 167) (v := .ref 45) (pm_q178_1 (Nat.le_of_ble_eq_true rfl)) rfl rfl rfl ?_
            refine pm_R_op pm_M178 (pc' := 168) (st' := [.int 0, .ref 45]) (pm_q178_1 (Nat.le_of_ble_eq_true rfl)) rfl rfl ?_
            refine pm_R_lo pm_M178 (pc' := 169) (pm_q178_1 (Nat.le_of_ble_eq_true rfl)) rfl rfl ?_
            refine pm_R_br pm_M178 (pc' := 172) (st' := [.int 0, .ref 45]) (pm_q178_1 (Nat.le_of_ble_eq_true rfl)) rfl ?_
            refine pm_R_lo pm_M178 (pc' := 173) (pm_q178_1 (Nat.le_of_ble_eq_true rfl)) rfl rfl ?_
            have B664 : sf_B 0 600 (m629 16) := T660.2.2.1 16
            refine rf_R_get pm_M178 T660 (pc' := 176) (v := .int (m629 16)) (pm_q178_1 (Nat.le_of_ble_eq_true rfl)) rfl rfl rfl ?_
            refine pm_R_br pm_M178 (pc' := 194) (pm_q178_1 (Nat.le_of_ble_eq_true rfl)) rfl ?_
            obtain ⟨f665, e666, b667⟩ := T660.2.2.2.1 45 (by decide) (by decide)
            refine rf_R_ist2 pm_M178 T660 (pc' := 195) (pm_q178_1 (Nat.le_of_ble_eq_true rfl)) e666 (by decide) (by decide) rfl ⟨_, rfl, sf_upd b667 (sf_weak B664 (by decide) (by decide)) _⟩ rfl (fun h668 T669 F670 e671 => ?_)
            have F672 := F663.trans F670 (by decide)
            refine pm_R_lo pm_M178 (pc' := 196) (pm_q178_1 (Nat.le_of_ble_eq_true rfl)) rfl rfl ?_
            refine rf_R_get pm_M178 T669 (pc' := 199) (v := .ref 44) (pm_q178_1 (Nat.le_of_ble_eq_true rfl)) rfl rfl rfl ?_
            refine pm_R_op pm_M178 (pc' := 200) (st' := [.int 0, .ref 44]) (pm_q178_1 (Nat.le_of_ble_eq_true rfl)) rfl rfl ?_
            have e673 := (F670.cell (by decide) e662)
            refine pm_R_iald pm_M178 (pc' := 201) (v := 1) (pm_q178_1 (Nat.le_of_ble_eq_true rfl)) e673 (Nat.lt_of_lt_of_le (by decide) T669.1) rfl rfl rfl ?_
            refine pm_R_br pm_M178 (pc' := 208) (st' := []) (pm_q178_1 (Nat.le_of_ble_eq_true rfl)) rfl ?_
            refine pm_R_op pm_M178 (pc' := 209) (st' := [.int 0]) (pm_q178_1 (Nat.le_of_ble_eq_true rfl)) rfl rfl ?_
            exact pm_R_ret pm_M178 (r := some (.int 0)) (pm_q178_1 (Nat.le_of_ble_eq_true rfl)) rfl (K0 m629 w630 h668 T669 F672 W647)
          · have B676 : sf_B (-2147483648) 99 z652 := sf_leL (Int32.not_lt.mp c654) (sf_any z652) B648
            refine pm_R_op pm_M178 (pc' := 116) (st' := [.int 1]) (pm_q178_1 (Nat.le_of_ble_eq_true rfl)) rfl rfl ?_
            refine pm_R_br pm_M178 (pc' := 120) (pm_q178_1 (Nat.le_of_ble_eq_true rfl)) rfl ?_
            refine pm_R_lo pm_M178 (pc' := 121) (ls' := [.ref 41, .int 2, .int 0, .int 1]) (st' := []) (pm_q178_1 (Nat.le_of_ble_eq_true rfl)) rfl rfl ?_
            refine pm_R_lo pm_M178 (pc' := 122) (pm_q178_1 (Nat.le_of_ble_eq_true rfl)) rfl rfl ?_
            refine pm_R_br pm_M178 (pc' := 145) (st' := []) (pm_q178_1 (Nat.le_of_ble_eq_true rfl)) rfl ?_
            refine pm_R_lo pm_M178 (pc' := 146) (pm_q178_1 (Nat.le_of_ble_eq_true rfl)) rfl rfl ?_
            refine rf_R_get pm_M178 T632 (pc' := 149) (v := .ref 44) (pm_q178_1 (Nat.le_of_ble_eq_true rfl)) rfl rfl rfl ?_
            refine pm_R_op pm_M178 (pc' := 150) (st' := [.int 0, .ref 44]) (pm_q178_1 (Nat.le_of_ble_eq_true rfl)) rfl rfl ?_
            refine pm_R_lo pm_M178 (pc' := 151) (pm_q178_1 (Nat.le_of_ble_eq_true rfl)) rfl rfl ?_
            refine pm_R_br pm_M178 (pc' := 161) (st' := [.int 0, .ref 44]) (pm_q178_1 (Nat.le_of_ble_eq_true rfl)) rfl ?_
            refine pm_R_op pm_M178 (pc' := 162) (st' := [.int 1, .int 0, .ref 44]) (pm_q178_1 (Nat.le_of_ble_eq_true rfl)) rfl rfl ?_
            obtain ⟨f677, e678, b679⟩ := T632.2.2.2.1 44 (by decide) (by decide)
            refine rf_R_ist2 pm_M178 T632 (pc' := 163) (pm_q178_1 (Nat.le_of_ble_eq_true rfl)) e678 (by decide) (by decide) rfl ⟨_, rfl, sf_upd b679 (sf_weak sf_k1 (by decide) (by decide)) _⟩ rfl (fun h680 T681 F682 e683 => ?_)
            have F684 := F646.trans F682 (by decide)
            refine pm_R_lo pm_M178 (pc' := 164) (pm_q178_1 (Nat.le_of_ble_eq_true rfl)) rfl rfl ?_
            refine rf_R_get pm_M178 T681 (pc' := 167) (v := .ref 45) (pm_q178_1 (Nat.le_of_ble_eq_true rfl)) rfl rfl rfl ?_
            refine pm_R_op pm_M178 (pc' := 168) (st' := [.int 0, .ref 45]) (pm_q178_1 (Nat.le_of_ble_eq_true rfl)) rfl rfl ?_
            refine pm_R_lo pm_M178 (pc' := 169) (pm_q178_1 (Nat.le_of_ble_eq_true rfl)) rfl rfl ?_
            refine pm_R_br pm_M178 (pc' := 172) (st' := [.int 0, .ref 45]) (pm_q178_1 (Nat.le_of_ble_eq_true rfl)) rfl ?_
            refine pm_R_lo pm_M178 (pc' := 173) (pm_q178_1 (Nat.le_of_ble_eq_true rfl)) rfl rfl ?_
            have B685 : sf_B 0 600 (m629 16) := T681.2.2.1 16
            refine rf_R_get pm_M178 T681 (pc' := 176) (v := .int (m629 16)) (pm_q178_1 (Nat.le_of_ble_eq_true rfl)) rfl rfl rfl ?_
            refine pm_R_br pm_M178 (pc' := 194) (pm_q178_1 (Nat.le_of_ble_eq_true rfl)) rfl ?_
            obtain ⟨f686, e687, b688⟩ := T681.2.2.2.1 45 (by decide) (by decide)
            refine rf_R_ist2 pm_M178 T681 (pc' := 195) (pm_q178_1 (Nat.le_of_ble_eq_true rfl)) e687 (by decide) (by decide) rfl ⟨_, rfl, sf_upd b688 (sf_weak B685 (by decide) (by decide)) _⟩ rfl (fun h689 T690 F691 e692 => ?_)
            have F693 := F684.trans F691 (by decide)
            refine pm_R_lo pm_M178 (pc' := 196) (pm_q178_1 (Nat.le_of_ble_eq_true rfl)) rfl rfl ?_
            refine rf_R_get pm_M178 T690 (pc' := 199) (v := .ref 44) (pm_q178_1 (Nat.le_of_ble_eq_true rfl)) rfl rfl rfl ?_
            refine pm_R_op pm_M178 (pc' := 200) (st' := [.int 0, .ref 44]) (pm_q178_1 (Nat.le_of_ble_eq_true rfl)) rfl rfl ?_
            have e694 := (F691.cell (by decide) e683)
            refine pm_R_iald pm_M178 (pc' := 201) (v := 1) (pm_q178_1 (Nat.le_of_ble_eq_true rfl)) e694 (Nat.lt_of_lt_of_le (by decide) T690.1) rfl rfl rfl ?_
            refine pm_R_br pm_M178 (pc' := 208) (st' := []) (pm_q178_1 (Nat.le_of_ble_eq_true rfl)) rfl ?_
            refine pm_R_op pm_M178 (pc' := 209) (st' := [.int 0]) (pm_q178_1 (Nat.le_of_ble_eq_true rfl)) rfl rfl ?_
            exact pm_R_ret pm_M178 (r := some (.int 0)) (pm_q178_1 (Nat.le_of_ble_eq_true rfl)) rfl (K0 m629 w630 h689 T690 F693 W647)
        · have F697 := F621.trans F642 (by decide)
          have W698 : rf_W [10, 12, 13, 14, 16, 17, 18, 21, 22] m m638 := W625.trans W643 (by decide)
          show pm_R _ 178 74 [.ref 41, .int 2, .int x2_564, pm_no] [.int 1] _ _
          obtain ⟨f699, e700, ct701, bd702⟩ := X644
          have B703 : sf_B 0 4 (m638 17) := T641.2.2.1 17
          refine pm_R_lo pm_M178 (pc' := 75) (ls' := [.ref 41, .int 2, .int 1, pm_no]) (st' := []) rfl rfl rfl ?_
          refine pm_R_lo pm_M178 (pc' := 76) rfl rfl rfl ?_
          refine pm_R_op pm_M178 (pc' := 77) (st' := [.int 1, .int 2]) rfl rfl rfl ?_
          refine pm_R_br pm_M178 (pc' := 97) (st' := []) rfl rfl ?_
          refine pm_R_lo pm_M178 (pc' := 98) rfl rfl rfl ?_
          refine pm_R_op pm_M178 (pc' := 99) (st' := [.int 2, .int 2]) rfl rfl rfl ?_
          refine pm_R_br pm_M178 (pc' := 102) (st' := []) rfl rfl ?_
          refine pm_R_lo pm_M178 (pc' := 103) rfl rfl rfl ?_
          have B704 : sf_B (-1) 99 (m638 21) := T641.2.2.1 21
          refine rf_R_get pm_M178 T641 (pc' := 106) (v := .int (m638 21)) rfl rfl rfl rfl ?_
          refine pm_R_lo pm_M178 (pc' := 107) (pm_q178_1 (Nat.le_of_ble_eq_true rfl)) rfl rfl ?_
          refine rf_R_get pm_M178 T641 (pc' := 110) (v := .ref 51) (pm_q178_1 (Nat.le_of_ble_eq_true rfl)) rfl rfl rfl ?_
          refine pm_R_op pm_M178 (pc' := 111) (st' := [.int 0, .ref 51, .int (m638 21)]) (pm_q178_1 (Nat.le_of_ble_eq_true rfl)) rfl rfl ?_
          refine rf_R_ild pm_M178 T641 (pc' := 112) (pm_q178_1 (Nat.le_of_ble_eq_true rfl)) e700 (by decide) rfl rfl (fun z705 ez706 => ?_)
          refine pm_R_icmp pm_M178 (t := 119) (pc' := 115) (pm_q178_1 (Nat.le_of_ble_eq_true rfl)) rfl rfl (fun c707 => ?_) (fun c707 => ?_)
          · have B708 : sf_B 0 2147483647 z705 := sf_ltR c707 B704 (sf_any z705)
            refine pm_R_op pm_M178 (pc' := 120) (st' := [.int 0]) (pm_q178_1 (Nat.le_of_ble_eq_true rfl)) rfl rfl ?_
            refine pm_R_lo pm_M178 (pc' := 121) (ls' := [.ref 41, .int 2, .int 1, .int 0]) (st' := []) (pm_q178_1 (Nat.le_of_ble_eq_true rfl)) rfl rfl ?_
            refine pm_R_lo pm_M178 (pc' := 122) (pm_q178_1 (Nat.le_of_ble_eq_true rfl)) rfl rfl ?_
            refine pm_R_br pm_M178 (pc' := 125) (st' := []) (pm_q178_1 (Nat.le_of_ble_eq_true rfl)) rfl ?_
            refine pm_R_lo pm_M178 (pc' := 126) (pm_q178_1 (Nat.le_of_ble_eq_true rfl)) rfl rfl ?_
            refine rf_R_get pm_M178 T641 (pc' := 129) (v := .int (m638 17)) (pm_q178_1 (Nat.le_of_ble_eq_true rfl)) rfl rfl rfl ?_
            refine pm_R_ifc pm_M178 (t := 145) (pc' := 132) (pm_q178_1 (Nat.le_of_ble_eq_true rfl)) rfl rfl (fun c709 => ?_) (fun c709 => ?_)
            · have B710 : sf_B 1 4 (m638 17) := sf_neL0 c709 sf_k0 B703
              refine pm_R_lo pm_M178 (pc' := 146) (pm_q178_1 (Nat.le_of_ble_eq_true rfl)) rfl rfl ?_
              refine rf_R_get pm_M178 T641 (pc' := 149) (v := .ref 44) (pm_q178_1 (Nat.le_of_ble_eq_true rfl)) rfl rfl rfl ?_
              refine pm_R_op pm_M178 (pc' := 150) (st' := [.int 0, .ref 44]) (pm_q178_1 (Nat.le_of_ble_eq_true rfl)) rfl rfl ?_
              refine pm_R_lo pm_M178 (pc' := 151) (pm_q178_1 (Nat.le_of_ble_eq_true rfl)) rfl rfl ?_
              refine pm_R_br pm_M178 (pc' := 154) (st' := [.int 0, .ref 44]) (pm_q178_1 (Nat.le_of_ble_eq_true rfl)) rfl ?_
              refine pm_R_lo pm_M178 (pc' := 155) (pm_q178_1 (Nat.le_of_ble_eq_true rfl)) rfl rfl ?_
              refine rf_R_get pm_M178 T641 (pc' := 158) (v := .int (m638 17)) (pm_q178_1 (Nat.le_of_ble_eq_true rfl)) rfl rfl rfl ?_
              refine pm_R_br pm_M178 (pc' := 162) (pm_q178_1 (Nat.le_of_ble_eq_true rfl)) rfl ?_
              obtain ⟨f711, e712, b713⟩ := T641.2.2.2.1 44 (by decide) (by decide)
              refine rf_R_ist2 pm_M178 T641 (pc' := 163) (pm_q178_1 (Nat.le_of_ble_eq_true rfl)) e712 (by decide) (by decide) rfl ⟨_, rfl, sf_upd b713 (sf_weak B710 (by decide) (by decide)) _⟩ rfl (fun h714 T715 F716 e717 => ?_)
              have F718 := F697.trans F716 (by decide)
              refine pm_R_lo pm_M178 (pc' := 164) (pm_q178_1 (Nat.le_of_ble_eq_true rfl)) rfl rfl ?_
              refine rf_R_get pm_M178 T715 (pc' := 167) (v := .ref 45) (pm_q178_1 (Nat.le_of_ble_eq_true rfl)) rfl rfl rfl ?_
              refine pm_R_op pm_M178 (pc' := 168) (st' := [.int 0, .ref 45]) (pm_q178_1 (Nat.le_of_ble_eq_true rfl)) rfl rfl ?_
              refine pm_R_lo pm_M178 (pc' := 169) (pm_q178_1 (Nat.le_of_ble_eq_true rfl)) rfl rfl ?_
              refine pm_R_br pm_M178 (pc' := 179) (st' := [.int 0, .ref 45]) (pm_q178_1 (Nat.le_of_ble_eq_true rfl)) rfl ?_
              refine pm_R_lo pm_M178 (pc' := 180) (pm_q178_1 (Nat.le_of_ble_eq_true rfl)) rfl rfl ?_
              refine rf_R_get pm_M178 T715 (pc' := 183) (v := .int (m638 17)) (pm_q178_1 (Nat.le_of_ble_eq_true rfl)) rfl rfl rfl ?_
              refine pm_R_ifc pm_M178 (t := 193) (pc' := 186) (pm_q178_1 (Nat.le_of_ble_eq_true rfl)) rfl rfl (fun c719 => absurd c719 (sf_nle B710 sf_k0 (by decide))) (fun c719 => ?_)
              skip
              refine pm_R_lo pm_M178 (pc' := 187) (pm_q178_1 (Nat.le_of_ble_eq_true rfl)) rfl rfl ?_
              have B720 : sf_B 0 600 (m638 18) := T715.2.2.1 18
              refine rf_R_get pm_M178 T715 (pc' := 190) (v := .int (m638 18)) (pm_q178_1 (Nat.le_of_ble_eq_true rfl)) rfl rfl rfl ?_
              refine pm_R_br pm_M178 (pc' := 194) (pm_q178_1 (Nat.le_of_ble_eq_true rfl)) rfl ?_
              obtain ⟨f721, e722, b723⟩ := T715.2.2.2.1 45 (by decide) (by decide)
              refine rf_R_ist2 pm_M178 T715 (pc' := 195) (pm_q178_1 (Nat.le_of_ble_eq_true rfl)) e722 (by decide) (by decide) rfl ⟨_, rfl, sf_upd b723 (sf_weak B720 (by decide) (by decide)) _⟩ rfl (fun h724 T725 F726 e727 => ?_)
              have F728 := F718.trans F726 (by decide)
              refine pm_R_lo pm_M178 (pc' := 196) (pm_q178_1 (Nat.le_of_ble_eq_true rfl)) rfl rfl ?_
              refine rf_R_get pm_M178 T725 (pc' := 199) (v := .ref 44) (pm_q178_1 (Nat.le_of_ble_eq_true rfl)) rfl rfl rfl ?_
              refine pm_R_op pm_M178 (pc' := 200) (st' := [.int 0, .ref 44]) (pm_q178_1 (Nat.le_of_ble_eq_true rfl)) rfl rfl ?_
              have e729 := (F726.cell (by decide) e717)
              refine pm_R_iald pm_M178 (pc' := 201) (v := (m638 17)) (pm_q178_1 (Nat.le_of_ble_eq_true rfl)) e729 (Nat.lt_of_lt_of_le (by decide) T725.1) rfl rfl rfl ?_
              refine pm_R_ifc pm_M178 (t := 208) (pc' := 204) (pm_q178_1 (Nat.le_of_ble_eq_true rfl)) rfl rfl (fun c732 => ?_) (fun c732 => absurd (Classical.not_not.mp c732) (sf_neq1 B710 sf_k0 (by decide)))
              skip
              refine pm_R_op pm_M178 (pc' := 209) (st' := [.int 0]) (pm_q178_1 (Nat.le_of_ble_eq_true rfl)) rfl rfl ?_
              exact pm_R_ret pm_M178 (r := some (.int 0)) (pm_q178_1 (Nat.le_of_ble_eq_true rfl)) rfl (K0 m638 w639 h724 T725 F728 W698)
            · have B733 : sf_B 0 0 (m638 17) := sf_eqL (Classical.not_not.mp c709) sf_k0
              refine pm_R_lo pm_M178 (pc' := 133) (pm_q178_1 (Nat.le_of_ble_eq_true rfl)) rfl rfl ?_
              refine pm_R_br pm_M178 (pc' := 145) (st' := []) (pm_q178_1 (Nat.le_of_ble_eq_true rfl)) rfl ?_
              refine pm_R_lo pm_M178 (pc' := 146) (pm_q178_1 (Nat.le_of_ble_eq_true rfl)) rfl rfl ?_
              refine rf_R_get pm_M178 T641 (pc' := 149) (v := .ref 44) (pm_q178_1 (Nat.le_of_ble_eq_true rfl)) rfl rfl rfl ?_
              refine pm_R_op pm_M178 (pc' := 150) (st' := [.int 0, .ref 44]) (pm_q178_1 (Nat.le_of_ble_eq_true rfl)) rfl rfl ?_
              refine pm_R_lo pm_M178 (pc' := 151) (pm_q178_1 (Nat.le_of_ble_eq_true rfl)) rfl rfl ?_
              refine pm_R_br pm_M178 (pc' := 154) (st' := [.int 0, .ref 44]) (pm_q178_1 (Nat.le_of_ble_eq_true rfl)) rfl ?_
              refine pm_R_lo pm_M178 (pc' := 155) (pm_q178_1 (Nat.le_of_ble_eq_true rfl)) rfl rfl ?_
              refine rf_R_get pm_M178 T641 (pc' := 158) (v := .int (m638 17)) (pm_q178_1 (Nat.le_of_ble_eq_true rfl)) rfl rfl rfl ?_
              refine pm_R_br pm_M178 (pc' := 162) (pm_q178_1 (Nat.le_of_ble_eq_true rfl)) rfl ?_
              obtain ⟨f734, e735, b736⟩ := T641.2.2.2.1 44 (by decide) (by decide)
              refine rf_R_ist2 pm_M178 T641 (pc' := 163) (pm_q178_1 (Nat.le_of_ble_eq_true rfl)) e735 (by decide) (by decide) rfl ⟨_, rfl, sf_upd b736 (sf_weak B733 (by decide) (by decide)) _⟩ rfl (fun h737 T738 F739 e740 => ?_)
              have F741 := F697.trans F739 (by decide)
              refine pm_R_lo pm_M178 (pc' := 164) (pm_q178_1 (Nat.le_of_ble_eq_true rfl)) rfl rfl ?_
              refine rf_R_get pm_M178 T738 (pc' := 167) (v := .ref 45) (pm_q178_1 (Nat.le_of_ble_eq_true rfl)) rfl rfl rfl ?_
              refine pm_R_op pm_M178 (pc' := 168) (st' := [.int 0, .ref 45]) (pm_q178_1 (Nat.le_of_ble_eq_true rfl)) rfl rfl ?_
              refine pm_R_lo pm_M178 (pc' := 169) (pm_q178_1 (Nat.le_of_ble_eq_true rfl)) rfl rfl ?_
              refine pm_R_br pm_M178 (pc' := 179) (st' := [.int 0, .ref 45]) (pm_q178_1 (Nat.le_of_ble_eq_true rfl)) rfl ?_
              refine pm_R_lo pm_M178 (pc' := 180) (pm_q178_1 (Nat.le_of_ble_eq_true rfl)) rfl rfl ?_
              refine rf_R_get pm_M178 T738 (pc' := 183) (v := .int (m638 17)) (pm_q178_1 (Nat.le_of_ble_eq_true rfl)) rfl rfl rfl ?_
              refine pm_R_ifc pm_M178 (t := 193) (pc' := 186) (pm_q178_1 (Nat.le_of_ble_eq_true rfl)) rfl rfl (fun c742 => ?_) (fun c742 => absurd (Int32.not_le.mp c742) (sf_nlt sf_k0 B733 (by decide)))
              skip
              refine pm_R_op pm_M178 (pc' := 194) (st' := [.int (-1), .int 0, .ref 45]) (pm_q178_1 (Nat.le_of_ble_eq_true rfl)) rfl rfl ?_
              obtain ⟨f743, e744, b745⟩ := T738.2.2.2.1 45 (by decide) (by decide)
              refine rf_R_ist2 pm_M178 T738 (pc' := 195) (pm_q178_1 (Nat.le_of_ble_eq_true rfl)) e744 (by decide) (by decide) rfl ⟨_, rfl, sf_upd b745 (sf_weak sf_kn1 (by decide) (by decide)) _⟩ rfl (fun h746 T747 F748 e749 => ?_)
              have F750 := F741.trans F748 (by decide)
              refine pm_R_lo pm_M178 (pc' := 196) (pm_q178_1 (Nat.le_of_ble_eq_true rfl)) rfl rfl ?_
              refine rf_R_get pm_M178 T747 (pc' := 199) (v := .ref 44) (pm_q178_1 (Nat.le_of_ble_eq_true rfl)) rfl rfl rfl ?_
              refine pm_R_op pm_M178 (pc' := 200) (st' := [.int 0, .ref 44]) (pm_q178_1 (Nat.le_of_ble_eq_true rfl)) rfl rfl ?_
              have e751 := (F748.cell (by decide) e740)
              refine pm_R_iald pm_M178 (pc' := 201) (v := (m638 17)) (pm_q178_1 (Nat.le_of_ble_eq_true rfl)) e751 (Nat.lt_of_lt_of_le (by decide) T747.1) rfl rfl rfl ?_
              refine pm_R_ifc pm_M178 (t := 208) (pc' := 204) (pm_q178_1 (Nat.le_of_ble_eq_true rfl)) rfl rfl (fun c754 => absurd (sf_pt2 B733 sf_k0) c754) (fun c754 => ?_)
              refine pm_R_op pm_M178 (pc' := 205) (st' := [.int 1]) (pm_q178_1 (Nat.le_of_ble_eq_true rfl)) rfl rfl ?_
              refine pm_R_br pm_M178 (pc' := 209) (pm_q178_1 (Nat.le_of_ble_eq_true rfl)) rfl ?_
              have e755 := (F748.cell (by decide) (F739.cell (by decide) e700))
              exact pm_R_ret pm_M178 (r := some (.int 1)) (pm_q178_1 (Nat.le_of_ble_eq_true rfl)) rfl (K1 m638 w639 h746 T747 F750 W698 ⟨f699, e755, (by have z : ((m638 17)).toInt = 0 := (sf_aux35 _ B733.1 B733.2); exact (bd702 z))⟩)
          · have B756 : sf_B (-2147483648) 99 z705 := sf_leL (Int32.not_lt.mp c707) (sf_any z705) B704
            refine pm_R_op pm_M178 (pc' := 116) (st' := [.int 1]) (pm_q178_1 (Nat.le_of_ble_eq_true rfl)) rfl rfl ?_
            refine pm_R_br pm_M178 (pc' := 120) (pm_q178_1 (Nat.le_of_ble_eq_true rfl)) rfl ?_
            refine pm_R_lo pm_M178 (pc' := 121) (ls' := [.ref 41, .int 2, .int 1, .int 1]) (st' := []) (pm_q178_1 (Nat.le_of_ble_eq_true rfl)) rfl rfl ?_
            refine pm_R_lo pm_M178 (pc' := 122) (pm_q178_1 (Nat.le_of_ble_eq_true rfl)) rfl rfl ?_
            refine pm_R_br pm_M178 (pc' := 125) (st' := []) (pm_q178_1 (Nat.le_of_ble_eq_true rfl)) rfl ?_
            refine pm_R_lo pm_M178 (pc' := 126) (pm_q178_1 (Nat.le_of_ble_eq_true rfl)) rfl rfl ?_
            refine rf_R_get pm_M178 T641 (pc' := 129) (v := .int (m638 17)) (pm_q178_1 (Nat.le_of_ble_eq_true rfl)) rfl rfl rfl ?_
            refine pm_R_ifc pm_M178 (t := 145) (pc' := 132) (pm_q178_1 (Nat.le_of_ble_eq_true rfl)) rfl rfl (fun c757 => ?_) (fun c757 => ?_)
            · have B758 : sf_B 1 4 (m638 17) := sf_neL0 c757 sf_k0 B703
              refine pm_R_lo pm_M178 (pc' := 146) (pm_q178_1 (Nat.le_of_ble_eq_true rfl)) rfl rfl ?_
              refine rf_R_get pm_M178 T641 (pc' := 149) (v := .ref 44) (pm_q178_1 (Nat.le_of_ble_eq_true rfl)) rfl rfl rfl ?_
              refine pm_R_op pm_M178 (pc' := 150) (st' := [.int 0, .ref 44]) (pm_q178_1 (Nat.le_of_ble_eq_true rfl)) rfl rfl ?_
              refine pm_R_lo pm_M178 (pc' := 151) (pm_q178_1 (Nat.le_of_ble_eq_true rfl)) rfl rfl ?_
              refine pm_R_br pm_M178 (pc' := 154) (st' := [.int 0, .ref 44]) (pm_q178_1 (Nat.le_of_ble_eq_true rfl)) rfl ?_
              refine pm_R_lo pm_M178 (pc' := 155) (pm_q178_1 (Nat.le_of_ble_eq_true rfl)) rfl rfl ?_
              refine rf_R_get pm_M178 T641 (pc' := 158) (v := .int (m638 17)) (pm_q178_1 (Nat.le_of_ble_eq_true rfl)) rfl rfl rfl ?_
              refine pm_R_br pm_M178 (pc' := 162) (pm_q178_1 (Nat.le_of_ble_eq_true rfl)) rfl ?_
              obtain ⟨f759, e760, b761⟩ := T641.2.2.2.1 44 (by decide) (by decide)
              refine rf_R_ist2 pm_M178 T641 (pc' := 163) (pm_q178_1 (Nat.le_of_ble_eq_true rfl)) e760 (by decide) (by decide) rfl ⟨_, rfl, sf_upd b761 (sf_weak B758 (by decide) (by decide)) _⟩ rfl (fun h762 T763 F764 e765 => ?_)
              have F766 := F697.trans F764 (by decide)
              refine pm_R_lo pm_M178 (pc' := 164) (pm_q178_1 (Nat.le_of_ble_eq_true rfl)) rfl rfl ?_
              refine rf_R_get pm_M178 T763 (pc' := 167) (v := .ref 45) (pm_q178_1 (Nat.le_of_ble_eq_true rfl)) rfl rfl rfl ?_
              refine pm_R_op pm_M178 (pc' := 168) (st' := [.int 0, .ref 45]) (pm_q178_1 (Nat.le_of_ble_eq_true rfl)) rfl rfl ?_
              refine pm_R_lo pm_M178 (pc' := 169) (pm_q178_1 (Nat.le_of_ble_eq_true rfl)) rfl rfl ?_
              refine pm_R_br pm_M178 (pc' := 179) (st' := [.int 0, .ref 45]) (pm_q178_1 (Nat.le_of_ble_eq_true rfl)) rfl ?_
              refine pm_R_lo pm_M178 (pc' := 180) (pm_q178_1 (Nat.le_of_ble_eq_true rfl)) rfl rfl ?_
              refine rf_R_get pm_M178 T763 (pc' := 183) (v := .int (m638 17)) (pm_q178_1 (Nat.le_of_ble_eq_true rfl)) rfl rfl rfl ?_
              refine pm_R_ifc pm_M178 (t := 193) (pc' := 186) (pm_q178_1 (Nat.le_of_ble_eq_true rfl)) rfl rfl (fun c767 => absurd c767 (sf_nle B758 sf_k0 (by decide))) (fun c767 => ?_)
              skip
              refine pm_R_lo pm_M178 (pc' := 187) (pm_q178_1 (Nat.le_of_ble_eq_true rfl)) rfl rfl ?_
              have B768 : sf_B 0 600 (m638 18) := T763.2.2.1 18
              refine rf_R_get pm_M178 T763 (pc' := 190) (v := .int (m638 18)) (pm_q178_1 (Nat.le_of_ble_eq_true rfl)) rfl rfl rfl ?_
              refine pm_R_br pm_M178 (pc' := 194) (pm_q178_1 (Nat.le_of_ble_eq_true rfl)) rfl ?_
              obtain ⟨f769, e770, b771⟩ := T763.2.2.2.1 45 (by decide) (by decide)
              refine rf_R_ist2 pm_M178 T763 (pc' := 195) (pm_q178_1 (Nat.le_of_ble_eq_true rfl)) e770 (by decide) (by decide) rfl ⟨_, rfl, sf_upd b771 (sf_weak B768 (by decide) (by decide)) _⟩ rfl (fun h772 T773 F774 e775 => ?_)
              have F776 := F766.trans F774 (by decide)
              refine pm_R_lo pm_M178 (pc' := 196) (pm_q178_1 (Nat.le_of_ble_eq_true rfl)) rfl rfl ?_
              refine rf_R_get pm_M178 T773 (pc' := 199) (v := .ref 44) (pm_q178_1 (Nat.le_of_ble_eq_true rfl)) rfl rfl rfl ?_
              refine pm_R_op pm_M178 (pc' := 200) (st' := [.int 0, .ref 44]) (pm_q178_1 (Nat.le_of_ble_eq_true rfl)) rfl rfl ?_
              have e777 := (F774.cell (by decide) e765)
              refine pm_R_iald pm_M178 (pc' := 201) (v := (m638 17)) (pm_q178_1 (Nat.le_of_ble_eq_true rfl)) e777 (Nat.lt_of_lt_of_le (by decide) T773.1) rfl rfl rfl ?_
              refine pm_R_ifc pm_M178 (t := 208) (pc' := 204) (pm_q178_1 (Nat.le_of_ble_eq_true rfl)) rfl rfl (fun c780 => ?_) (fun c780 => absurd (Classical.not_not.mp c780) (sf_neq1 B758 sf_k0 (by decide)))
              skip
              refine pm_R_op pm_M178 (pc' := 209) (st' := [.int 0]) (pm_q178_1 (Nat.le_of_ble_eq_true rfl)) rfl rfl ?_
              exact pm_R_ret pm_M178 (r := some (.int 0)) (pm_q178_1 (Nat.le_of_ble_eq_true rfl)) rfl (K0 m638 w639 h772 T773 F776 W698)
            · have B781 : sf_B 0 0 (m638 17) := sf_eqL (Classical.not_not.mp c757) sf_k0
              refine pm_R_lo pm_M178 (pc' := 133) (pm_q178_1 (Nat.le_of_ble_eq_true rfl)) rfl rfl ?_
              refine pm_R_br pm_M178 (pc' := 136) (st' := []) (pm_q178_1 (Nat.le_of_ble_eq_true rfl)) rfl ?_
              refine pm_R_lo pm_M178 (pc' := 137) (pm_q178_1 (Nat.le_of_ble_eq_true rfl)) rfl rfl ?_
              refine pm_R_op pm_M178 (pc' := 138) (st' := [.int 4, .ref 41]) (pm_q178_1 (Nat.le_of_ble_eq_true rfl)) rfl rfl ?_
              refine pm_R_lo pm_M178 (pc' := 139) (pm_q178_1 (Nat.le_of_ble_eq_true rfl)) rfl rfl ?_
              have B782 : sf_B 0 600 (m638 12) := T641.2.2.1 12
              refine rf_R_get pm_M178 T641 (pc' := 142) (v := .int (m638 12)) (pm_q178_1 (Nat.le_of_ble_eq_true rfl)) rfl rfl rfl ?_
              refine pm_R_cv pm_M178 (pc' := 145) (a := 41) (ra := [.int (m638 12), .int 4]) (rest := []) (ls' := [.ref 41, .int 4, .int (m638 12)]) (pm_q178_1 (Nat.le_of_ble_eq_true rfl)) rfl (Or.inl rfl) pm_M182 T641.2.1 rfl (by decide) (Nat.lt_of_lt_of_le (by decide) T641.1) rfl rfl (Nat.le_of_ble_eq_true rfl) rfl rfl ?_
              refine rf_c182 (d := d + 5) T641 (sf_weak sf_k4 (by decide) (by decide)) B782 (fun m785 w786 h787 T788 F789 W790 B791 => ?_)
              have F792 := F697.trans F789 (by decide)
              have W793 : rf_W [10, 12, 13, 14, 16, 17, 18, 21, 22] m m785 := W698.trans W790 (by decide)
              show pm_R _ 178 145 [.ref 41, .int 2, .int 1, .int 1] [] _ _
              refine pm_R_lo pm_M178 (pc' := 146) (pm_q178_1 (Nat.le_of_ble_eq_true rfl)) rfl rfl ?_
              refine rf_R_get pm_M178 T788 (pc' := 149) (v := .ref 44) (pm_q178_1 (Nat.le_of_ble_eq_true rfl)) rfl rfl rfl ?_
              refine pm_R_op pm_M178 (pc' := 150) (st' := [.int 0, .ref 44]) (pm_q178_1 (Nat.le_of_ble_eq_true rfl)) rfl rfl ?_
              refine pm_R_lo pm_M178 (pc' := 151) (pm_q178_1 (Nat.le_of_ble_eq_true rfl)) rfl rfl ?_
              refine pm_R_br pm_M178 (pc' := 154) (st' := [.int 0, .ref 44]) (pm_q178_1 (Nat.le_of_ble_eq_true rfl)) rfl ?_
              refine pm_R_lo pm_M178 (pc' := 155) (pm_q178_1 (Nat.le_of_ble_eq_true rfl)) rfl rfl ?_
              refine rf_R_get pm_M178 T788 (pc' := 158) (v := .int (m785 17)) (pm_q178_1 (Nat.le_of_ble_eq_true rfl)) rfl rfl rfl ?_
              refine pm_R_br pm_M178 (pc' := 162) (pm_q178_1 (Nat.le_of_ble_eq_true rfl)) rfl ?_
              obtain ⟨f794, e795, b796⟩ := T788.2.2.2.1 44 (by decide) (by decide)
              refine rf_R_ist2 pm_M178 T788 (pc' := 163) (pm_q178_1 (Nat.le_of_ble_eq_true rfl)) e795 (by decide) (by decide) rfl ⟨_, rfl, sf_upd b796 (sf_weak B791 (by decide) (by decide)) _⟩ rfl (fun h797 T798 F799 e800 => ?_)
              have F801 := F792.trans F799 (by decide)
              refine pm_R_lo pm_M178 (pc' := 164) (pm_q178_1 (Nat.le_of_ble_eq_true rfl)) rfl rfl ?_
              refine rf_R_get pm_M178 T798 (pc' := 167) (v := .ref 45) (pm_q178_1 (Nat.le_of_ble_eq_true rfl)) rfl rfl rfl ?_
              refine pm_R_op pm_M178 (pc' := 168) (st' := [.int 0, .ref 45]) (pm_q178_1 (Nat.le_of_ble_eq_true rfl)) rfl rfl ?_
              refine pm_R_lo pm_M178 (pc' := 169) (pm_q178_1 (Nat.le_of_ble_eq_true rfl)) rfl rfl ?_
              refine pm_R_br pm_M178 (pc' := 179) (st' := [.int 0, .ref 45]) (pm_q178_1 (Nat.le_of_ble_eq_true rfl)) rfl ?_
              refine pm_R_lo pm_M178 (pc' := 180) (pm_q178_1 (Nat.le_of_ble_eq_true rfl)) rfl rfl ?_
              refine rf_R_get pm_M178 T798 (pc' := 183) (v := .int (m785 17)) (pm_q178_1 (Nat.le_of_ble_eq_true rfl)) rfl rfl rfl ?_
              refine pm_R_ifc pm_M178 (t := 193) (pc' := 186) (pm_q178_1 (Nat.le_of_ble_eq_true rfl)) rfl rfl (fun c802 => absurd c802 (sf_nle B791 sf_k0 (by decide))) (fun c802 => ?_)
              skip
              refine pm_R_lo pm_M178 (pc' := 187) (pm_q178_1 (Nat.le_of_ble_eq_true rfl)) rfl rfl ?_
              have B803 : sf_B 0 600 (m785 18) := T798.2.2.1 18
              refine rf_R_get pm_M178 T798 (pc' := 190) (v := .int (m785 18)) (pm_q178_1 (Nat.le_of_ble_eq_true rfl)) rfl rfl rfl ?_
              refine pm_R_br pm_M178 (pc' := 194) (pm_q178_1 (Nat.le_of_ble_eq_true rfl)) rfl ?_
              obtain ⟨f804, e805, b806⟩ := T798.2.2.2.1 45 (by decide) (by decide)
              refine rf_R_ist2 pm_M178 T798 (pc' := 195) (pm_q178_1 (Nat.le_of_ble_eq_true rfl)) e805 (by decide) (by decide) rfl ⟨_, rfl, sf_upd b806 (sf_weak B803 (by decide) (by decide)) _⟩ rfl (fun h807 T808 F809 e810 => ?_)
              have F811 := F801.trans F809 (by decide)
              refine pm_R_lo pm_M178 (pc' := 196) (pm_q178_1 (Nat.le_of_ble_eq_true rfl)) rfl rfl ?_
              refine rf_R_get pm_M178 T808 (pc' := 199) (v := .ref 44) (pm_q178_1 (Nat.le_of_ble_eq_true rfl)) rfl rfl rfl ?_
              refine pm_R_op pm_M178 (pc' := 200) (st' := [.int 0, .ref 44]) (pm_q178_1 (Nat.le_of_ble_eq_true rfl)) rfl rfl ?_
              have e812 := (F809.cell (by decide) e800)
              refine pm_R_iald pm_M178 (pc' := 201) (v := (m785 17)) (pm_q178_1 (Nat.le_of_ble_eq_true rfl)) e812 (Nat.lt_of_lt_of_le (by decide) T808.1) rfl rfl rfl ?_
              refine pm_R_ifc pm_M178 (t := 208) (pc' := 204) (pm_q178_1 (Nat.le_of_ble_eq_true rfl)) rfl rfl (fun c815 => ?_) (fun c815 => absurd (Classical.not_not.mp c815) (sf_neq1 B791 sf_k0 (by decide)))
              skip
              refine pm_R_op pm_M178 (pc' := 209) (st' := [.int 0]) (pm_q178_1 (Nat.le_of_ble_eq_true rfl)) rfl rfl ?_
              exact pm_R_ret pm_M178 (r := some (.int 0)) (pm_q178_1 (Nat.le_of_ble_eq_true rfl)) rfl (K0 m785 w786 h807 T808 F811 W793)
      · have B816 : sf_B 0 151 x2_564 := sf_ltL (Int32.not_le.mp c571) Bx2_564 sf_k152
        refine pm_R_lo pm_M178 (pc' := 10) rfl rfl rfl ?_
        refine rf_R_get pm_M178 T_564 (pc' := 13) (v := .ref 51) rfl rfl rfl rfl ?_
        refine pm_R_lo pm_M178 (pc' := 14) rfl rfl rfl ?_
        refine pm_R_op pm_M178 (pc' := 15) (st' := [.int 0, .int x2_564, .ref 51]) rfl rfl rfl ?_
        refine rf_R_ist pm_M178 T_564 (pc' := 16) rfl e569 (by decide) (by decide) (sf_in B816 (by decide) (by decide)) ⟨_, rfl⟩ rfl (fun h817 T818 F819 e820 => ?_)
        have F821 := F_564.trans F819 (by decide)
        refine sf_R_iinc pm_M178 (pc' := 19) (ls' := fun z => [.ref 41, .int 2, .int z, pm_no]) rfl B816 rfl (by decide) (by decide) (by decide) (fun _ => rfl) rfl (fun z822 e823 B824 => ?_)
        show pm_R _ 178 19 [.ref 41, .int 2, .int z822, pm_no] [] _ _
        refine pm_R_br pm_M178 (pc' := 2) rfl rfl ?_
        exact ih_564 _ (sf_up hN_564 e823 B816 (by decide) (by decide)) h817 m_564 w_564 z822 T818 F821 W_564 (sf_weak B824 (by decide) (by decide)) ⟨(upd f568 (Int32.toNatClampNeg x2_564) 0), e820, rf_zero zz570 e823 B816 (by decide)⟩ rfl
  obtain ⟨f825, e826⟩ := T.2.2.2.1 51 (by decide) (by decide)
  exact L_564 _ h m w 0 T (rf_G.refl [41, 44, 45, 51, 52] h) (rf_W.refl _ _) (sf_weak sf_k0 (by decide) (by decide)) ⟨f825, e826, fun j hj => absurd hj (by show ¬ (j : Int) < 0; omega)⟩ rfl
