set_option maxRecDepth 100000 in
set_option maxHeartbeats 4000000 in
/-- SilentTableModel.breaks -/
theorem rf_c274 {d : Nat} {m : Nat → Int32} {w : Int64} {h : pm_H} {Q : Option Value → pm_H → Prop} {a0 : Int32} {a1 : Int32} {a2 : Int32} (T : rf_T m w h)  (K : ∀ (r : Int32) (m' : Nat → Int32) (w' : Int64) (h' : pm_H), rf_T m' w' h' → rf_F h h' → rf_W [0, 42, 43, 44, 49] m m' → sf_B (-1) 49 r → Q (some (.int r)) h') : pm_R (d + 5) 274 0 [.ref 41, .int a0, .int a1, .int a2, pm_no, pm_no] [] h Q := by
  refine pm_R_lo pm_M274 (pc' := 1) rfl rfl rfl ?_
  refine pm_R_op pm_M274 (pc' := 2) (st' := [.int 0, .ref 41]) rfl rfl rfl ?_
  refine rf_R_put pm_M274 T (pc' := 5) rfl rfl rfl (by decide) rfl rfl sf_k0 rfl rfl (fun h1 m4 em5 T2 F3 => ?_)
  have F6 := (rf_F.refl h).trans F3
  have B7 : sf_B 0 0 (m4 0) := by rw [em5]; exact sf_k0
  have W8 : rf_W [0, 42, 43, 44, 49] m m4 := by rw [em5]; exact (rf_W.refl [0, 42, 43, 44, 49] m).put (by decide)
  refine pm_R_lo pm_M274 (pc' := 6) rfl rfl rfl ?_
  refine pm_R_lo pm_M274 (pc' := 7) rfl rfl rfl ?_
  refine pm_R_lo pm_M274 (pc' := 8) rfl rfl rfl ?_
  refine pm_R_cv pm_M274 (pc' := 11) (a := 41) (ra := [.int a1, .int a0]) (rest := []) (ls' := [.ref 41, .int a0, .int a1]) rfl rfl (Or.inl rfl) pm_M275 T2.2.1 rfl (by decide) (Nat.lt_of_lt_of_le (by decide) T2.1) rfl rfl (Nat.le_of_ble_eq_true rfl) rfl rfl ?_
  refine pm_R_lo pm_M275 (pc' := 1) rfl rfl rfl ?_
  refine pm_R_op pm_M275 (pc' := 2) (st' := [.int 3, .ref 41]) rfl rfl rfl ?_
  refine pm_R_lo pm_M275 (pc' := 3) rfl rfl rfl ?_
  refine pm_R_cv pm_M275 (pc' := 6) (a := 41) (ra := [.int a0, .int 3]) (rest := []) (ls' := [.ref 41, .int 3, .int a0]) rfl rfl (Or.inl rfl) pm_M177 T2.2.1 rfl (by decide) (Nat.lt_of_lt_of_le (by decide) T2.1) rfl rfl (Nat.le_of_ble_eq_true rfl) rfl rfl ?_
  refine pm_R_lo pm_M177 (pc' := 1) rfl rfl rfl ?_
  refine pm_R_op pm_M177 (pc' := 2) (st' := [.int 0, .int a0]) rfl rfl rfl ?_
  refine pm_R_lo pm_M177 (pc' := 3) rfl rfl rfl ?_
  refine rf_R_get pm_M177 T2 (pc' := 6) (v := .ref 46) rfl rfl rfl rfl ?_
  refine pm_R_lo pm_M177 (pc' := 7) rfl rfl rfl ?_
  obtain ⟨f9, e10, b11⟩ := T2.2.2.2.1 46 (by decide) (by decide)
  refine rf_R_ild pm_M177 T2 (pc' := 8) rfl e10 (by decide) rfl rfl (fun z12 ez13 => ?_)
  have B14 : sf_B 0 2 z12 := ez13 ▸ (b11 3)
  refine pm_R_op pm_M177 (pc' := 9) (st' := [.int 1, .int z12, .int 0, .int a0]) rfl rfl rfl ?_
  refine sf_R_isub pm_M177 (pc' := 10) rfl rfl B14 sf_k1 (by decide) (by decide) (fun z15 e16 B17 => ?_)
  refine pm_R_cs pm_M177 (pc' := 13) (ra := [.int z15, .int 0, .int a0]) (rest := []) (ls' := [.int a0, .int 0, .int z15]) rfl rfl (Or.inl rfl) pm_M174 rfl rfl (Nat.le_of_ble_eq_true rfl) rfl rfl ?_
  refine pm_R_lo pm_M174 (pc' := 1) rfl rfl rfl ?_
  refine pm_R_lo pm_M174 (pc' := 2) rfl rfl rfl ?_
  refine pm_R_icmp pm_M174 (t := 14) (pc' := 5) rfl rfl rfl (fun c18 => ?_) (fun c18 => ?_)
  · have B19 : sf_B (-2147483648) (-1) a0 := sf_ltL c18 (sf_any a0) sf_k0
    refine pm_R_op pm_M174 (pc' := 15) (st' := [.int 0]) rfl rfl rfl ?_
    refine pm_R_ret pm_M174 (r := some (.int 0)) rfl rfl ?_
    show pm_R _ 177 13 [.ref 41, .int 3, .int a0] [.int 0] _ _
    refine pm_R_ret pm_M177 (r := some (.int 0)) rfl rfl ?_
    show pm_R _ 275 6 [.ref 41, .int a0, .int a1] [.int 0] _ _
    refine pm_R_br pm_M275 (pc' := 17) (st' := []) rfl rfl ?_
    refine pm_R_op pm_M275 (pc' := 18) (st' := [.int 0]) rfl rfl rfl ?_
    refine pm_R_ret pm_M275 (r := some (.int 0)) rfl rfl ?_
    show pm_R _ 274 11 [.ref 41, .int a0, .int a1, .int a2, pm_no, pm_no] [.int 0] _ _
    refine pm_R_br pm_M274 (pc' := 23) (st' := []) rfl rfl ?_
    refine pm_R_op pm_M274 (pc' := 24) (st' := [.int (-1)]) rfl rfl rfl ?_
    exact pm_R_ret pm_M274 (r := some (.int (-1))) rfl rfl (K (-1) m4 w h1 T2 F6 W8 (sf_weak sf_kn1 (by decide) (by decide)))
  · have B20 : sf_B 0 2147483647 a0 := sf_leR (Int32.not_lt.mp c18) sf_k0 (sf_any a0)
    refine pm_R_lo pm_M174 (pc' := 6) rfl rfl rfl ?_
    refine pm_R_lo pm_M174 (pc' := 7) rfl rfl rfl ?_
    refine pm_R_icmp pm_M174 (t := 14) (pc' := 10) rfl rfl rfl (fun c21 => ?_) (fun c21 => ?_)
    · skip
      refine pm_R_op pm_M174 (pc' := 15) (st' := [.int 0]) rfl rfl rfl ?_
      refine pm_R_ret pm_M174 (r := some (.int 0)) rfl rfl ?_
      show pm_R _ 177 13 [.ref 41, .int 3, .int a0] [.int 0] _ _
      refine pm_R_ret pm_M177 (r := some (.int 0)) rfl rfl ?_
      show pm_R _ 275 6 [.ref 41, .int a0, .int a1] [.int 0] _ _
      refine pm_R_br pm_M275 (pc' := 17) (st' := []) rfl rfl ?_
      refine pm_R_op pm_M275 (pc' := 18) (st' := [.int 0]) rfl rfl rfl ?_
      refine pm_R_ret pm_M275 (r := some (.int 0)) rfl rfl ?_
      show pm_R _ 274 11 [.ref 41, .int a0, .int a1, .int a2, pm_no, pm_no] [.int 0] _ _
      refine pm_R_br pm_M274 (pc' := 23) (st' := []) rfl rfl ?_
      refine pm_R_op pm_M274 (pc' := 24) (st' := [.int (-1)]) rfl rfl rfl ?_
      exact pm_R_ret pm_M274 (r := some (.int (-1))) rfl rfl (K (-1) m4 w h1 T2 F6 W8 (sf_weak sf_kn1 (by decide) (by decide)))
    · have B22 : sf_B 0 1 a0 := sf_leL (Int32.not_lt.mp c21) B20 B17
      have B23 : sf_B 0 1 z15 := sf_leR (Int32.not_lt.mp c21) B20 B17
      refine pm_R_op pm_M174 (pc' := 11) (st' := [.int 1]) rfl rfl rfl ?_
      refine pm_R_br pm_M174 (pc' := 15) rfl rfl ?_
      refine pm_R_ret pm_M174 (r := some (.int 1)) rfl rfl ?_
      show pm_R _ 177 13 [.ref 41, .int 3, .int a0] [.int 1] _ _
      refine pm_R_ret pm_M177 (r := some (.int 1)) rfl rfl ?_
      show pm_R _ 275 6 [.ref 41, .int a0, .int a1] [.int 1] _ _
      refine pm_R_br pm_M275 (pc' := 9) (st' := []) rfl rfl ?_
      refine pm_R_lo pm_M275 (pc' := 10) rfl rfl rfl ?_
      refine pm_R_lo pm_M275 (pc' := 11) rfl rfl rfl ?_
      refine pm_R_cv pm_M275 (pc' := 14) (a := 41) (ra := [.int a1]) (rest := []) (ls' := [.ref 41, .int a1, pm_no, pm_no, pm_no, pm_no]) rfl rfl (Or.inl rfl) pm_M254 T2.2.1 rfl (by decide) (Nat.lt_of_lt_of_le (by decide) T2.1) rfl rfl (Nat.le_of_ble_eq_true rfl) rfl rfl ?_
      refine rf_c254 (d := d + 1) T2  (fun r24 m26 w27 h28 T29 F30 W31 B25 => ?_)
      have F32 := F6.trans F30
      have W33 : rf_W [0, 42, 43, 44, 49] m m26 := W8.trans W31 (by decide)
      show pm_R _ 275 14 [.ref 41, .int a0, .int a1] [.int r24] _ _
      refine pm_R_ifc pm_M275 (t := 19) (pc' := 17) rfl rfl rfl (fun c34 => ?_) (fun c34 => ?_)
      · have B35 : sf_B 1 1 r24 := sf_neL0 c34 sf_k0 B25
        refine pm_R_lo pm_M275 (pc' := 20) rfl rfl rfl ?_
        refine pm_R_lo pm_M275 (pc' := 21) rfl rfl rfl ?_
        refine rf_R_put pm_M275 T29 (pc' := 24) rfl rfl rfl (by decide) rfl rfl B22 rfl rfl (fun h36 m39 em40 T37 F38 => ?_)
        have F41 := F32.trans F38
        have B42 : sf_B 0 1 (m39 49) := by rw [em40]; exact B22
        have W43 : rf_W [0, 42, 43, 44, 49] m m39 := by rw [em40]; exact W33.put (by decide)
        refine pm_R_op pm_M275 (pc' := 25) (st' := [.int 1]) rfl rfl rfl ?_
        refine pm_R_ret pm_M275 (r := some (.int 1)) rfl rfl ?_
        show pm_R _ 274 11 [.ref 41, .int a0, .int a1, .int a2, pm_no, pm_no] [.int 1] _ _
        refine pm_R_br pm_M274 (pc' := 14) (st' := []) rfl rfl ?_
        refine pm_R_lo pm_M274 (pc' := 15) rfl rfl rfl ?_
        refine pm_R_op pm_M274 (pc' := 16) (st' := [.int 0, .int a2]) rfl rfl rfl ?_
        refine pm_R_op pm_M274 (pc' := 17) (st' := [.int 2, .int 0, .int a2]) rfl rfl rfl ?_
        refine pm_R_cs pm_M274 (pc' := 20) (ra := [.int 2, .int 0, .int a2]) (rest := []) (ls' := [.int a2, .int 0, .int 2]) rfl rfl (Or.inl rfl) pm_M174 rfl rfl (Nat.le_of_ble_eq_true rfl) rfl rfl ?_
        refine pm_R_lo pm_M174 (pc' := 1) rfl rfl rfl ?_
        refine pm_R_lo pm_M174 (pc' := 2) rfl rfl rfl ?_
        refine pm_R_icmp pm_M174 (t := 14) (pc' := 5) rfl rfl rfl (fun c44 => ?_) (fun c44 => ?_)
        · have B45 : sf_B (-2147483648) (-1) a2 := sf_ltL c44 (sf_any a2) sf_k0
          refine pm_R_op pm_M174 (pc' := 15) (st' := [.int 0]) rfl rfl rfl ?_
          refine pm_R_ret pm_M174 (r := some (.int 0)) rfl rfl ?_
          show pm_R _ 274 20 [.ref 41, .int a0, .int a1, .int a2, pm_no, pm_no] [.int 0] _ _
          refine pm_R_br pm_M274 (pc' := 23) (st' := []) rfl rfl ?_
          refine pm_R_op pm_M274 (pc' := 24) (st' := [.int (-1)]) rfl rfl rfl ?_
          exact pm_R_ret pm_M274 (r := some (.int (-1))) rfl rfl (K (-1) m39 w27 h36 T37 F41 W43 (sf_weak sf_kn1 (by decide) (by decide)))
        · have B46 : sf_B 0 2147483647 a2 := sf_leR (Int32.not_lt.mp c44) sf_k0 (sf_any a2)
          refine pm_R_lo pm_M174 (pc' := 6) rfl rfl rfl ?_
          refine pm_R_lo pm_M174 (pc' := 7) rfl rfl rfl ?_
          refine pm_R_icmp pm_M174 (t := 14) (pc' := 10) rfl rfl rfl (fun c47 => ?_) (fun c47 => ?_)
          · have B48 : sf_B 3 2147483647 a2 := sf_ltR c47 sf_k2 B46
            refine pm_R_op pm_M174 (pc' := 15) (st' := [.int 0]) rfl rfl rfl ?_
            refine pm_R_ret pm_M174 (r := some (.int 0)) rfl rfl ?_
            show pm_R _ 274 20 [.ref 41, .int a0, .int a1, .int a2, pm_no, pm_no] [.int 0] _ _
            refine pm_R_br pm_M274 (pc' := 23) (st' := []) rfl rfl ?_
            refine pm_R_op pm_M274 (pc' := 24) (st' := [.int (-1)]) rfl rfl rfl ?_
            exact pm_R_ret pm_M274 (r := some (.int (-1))) rfl rfl (K (-1) m39 w27 h36 T37 F41 W43 (sf_weak sf_kn1 (by decide) (by decide)))
          · have B49 : sf_B 0 2 a2 := sf_leL (Int32.not_lt.mp c47) B46 sf_k2
            refine pm_R_op pm_M174 (pc' := 11) (st' := [.int 1]) rfl rfl rfl ?_
            refine pm_R_br pm_M174 (pc' := 15) rfl rfl ?_
            refine pm_R_ret pm_M174 (r := some (.int 1)) rfl rfl ?_
            show pm_R _ 274 20 [.ref 41, .int a0, .int a1, .int a2, pm_no, pm_no] [.int 1] _ _
            refine pm_R_br pm_M274 (pc' := 25) (st' := []) rfl rfl ?_
            refine pm_R_op pm_M274 (pc' := 26) (st' := [.int 0]) rfl rfl rfl ?_
            refine pm_R_lo pm_M274 (pc' := 28) (ls' := [.ref 41, .int a0, .int a1, .int a2, .int 0, pm_no]) (st' := []) rfl rfl rfl ?_
            have L_300 : ∀ (N : Nat) (h_300 : pm_H) (m_300 : Nat → Int32) (w_300 : Int64) (x4_300 : Int32) (g5_300 : Value), rf_T m_300 w_300 h_300 → rf_F h h_300 → rf_W [] m39 m_300 → sf_B 0 50 x4_300 → g5_300.category = 1 → (50 - x4_300.toInt).toNat = N → pm_R (d + 5) 274 28 [.ref 41, .int a0, .int a1, .int a2, .int x4_300, g5_300] [] h_300 Q := by
              intro N
              induction N using Nat.strongRecOn with
              | ind N ih_300 =>
                intro h_300 m_300 w_300 x4_300 g5_300 T_300 F_300 W_300 Bx4_300 Cg5_300 hN_300
                have W302 : rf_W [0, 42, 43, 44, 49] m m_300 := W43.trans W_300 (by decide)
                refine pm_R_lo pm_M274 (pc' := 30) rfl rfl rfl ?_
                refine pm_R_lo pm_M274 (pc' := 31) rfl rfl rfl ?_
                have B303 : sf_B 0 50 (m_300 43) := T_300.2.2.1 43
                refine rf_R_get pm_M274 T_300 (pc' := 34) (v := .int (m_300 43)) rfl rfl rfl rfl ?_
                refine pm_R_icmp pm_M274 (t := 85) (pc' := 37) rfl rfl rfl (fun c304 => ?_) (fun c304 => ?_)
                · skip
                  refine pm_R_op pm_M274 (pc' := 86) (st' := [.int (-1)]) rfl rfl rfl ?_
                  exact pm_R_ret pm_M274 (r := some (.int (-1))) rfl rfl (K (-1) m_300 w_300 h_300 T_300 F_300 W302 (sf_weak sf_kn1 (by decide) (by decide)))
                · have B305 : sf_B 0 49 x4_300 := sf_ltL (Int32.not_le.mp c304) Bx4_300 B303
                  have B306 : sf_B 1 50 (m_300 43) := sf_ltR (Int32.not_le.mp c304) Bx4_300 B303
                  refine pm_R_lo pm_M274 (pc' := 38) rfl rfl rfl ?_
                  refine pm_R_lo pm_M274 (pc' := 40) rfl rfl rfl ?_
                  refine pm_R_op pm_M274 (pc' := 41) (st' := [.int (-1), .int x4_300, .ref 41]) rfl rfl rfl ?_
                  refine pm_R_cv pm_M274 (pc' := 44) (a := 41) (ra := [.int (-1), .int x4_300]) (rest := []) (ls' := [.ref 41, .int x4_300, .int (-1), pm_no]) rfl rfl (Or.inl rfl) pm_M276 T_300.2.1 rfl (by decide) (Nat.lt_of_lt_of_le (by decide) T_300.1) rfl rfl (Nat.le_of_ble_eq_true rfl) rfl rfl ?_
                  refine rf_c276 (d := d + 0) T_300 B305 (fun r307 B308 => ?_)
                  show pm_R _ 274 44 [.ref 41, .int a0, .int a1, .int a2, .int x4_300, g5_300] [.int r307] _ _
                  refine pm_R_lo pm_M274 (pc' := 46) (ls' := [.ref 41, .int a0, .int a1, .int a2, .int x4_300, .int r307]) (st' := []) rfl rfl rfl ?_
                  refine pm_R_lo pm_M274 (pc' := 48) rfl rfl rfl ?_
                  refine pm_R_op pm_M274 (pc' := 49) (st' := [.int (-1), .int r307]) rfl rfl rfl ?_
                  refine pm_R_icmp pm_M274 (t := 79) (pc' := 52) rfl rfl rfl (fun c315 => ?_) (fun c315 => ?_)
                  · have B316 : sf_B (-1) (-1) r307 := sf_eqL c315 sf_kn1
                    refine sf_R_iinc pm_M274 (pc' := 82) (ls' := fun z => [.ref 41, .int a0, .int a1, .int a2, .int z, .int r307]) rfl B305 rfl (by decide) (by decide) (by decide) (fun _ => rfl) rfl (fun z317 e318 B319 => ?_)
                    show pm_R _ 274 82 [.ref 41, .int a0, .int a1, .int a2, .int z317, .int r307] [] _ _
                    refine pm_R_br pm_M274 (pc' := 28) rfl rfl ?_
                    exact ih_300 _ (sf_up hN_300 e318 B305 (by decide) (by decide)) h_300 m_300 w_300 z317 (.int r307) T_300 F_300 W_300 (sf_weak B319 (by decide) (by decide)) rfl rfl
                  · have B320 : sf_B 0 7 r307 := sf_neL0 c315 sf_kn1 B308
                    refine pm_R_lo pm_M274 (pc' := 53) rfl rfl rfl ?_
                    refine pm_R_ifc pm_M274 (t := 61) (pc' := 56) rfl rfl rfl (fun c321 => ?_) (fun c321 => ?_)
                    · have B322 : sf_B 1 2 a2 := sf_neL0 c321 sf_k0 B49
                      refine pm_R_lo pm_M274 (pc' := 62) rfl rfl rfl ?_
                      refine pm_R_op pm_M274 (pc' := 63) (st' := [.int 1, .int a2]) rfl rfl rfl ?_
                      refine pm_R_icmp pm_M274 (t := 71) (pc' := 66) rfl rfl rfl (fun c323 => ?_) (fun c323 => ?_)
                      · have B324 : sf_B 2 2 a2 := sf_neL0 c323 sf_k1 B322
                        refine pm_R_lo pm_M274 (pc' := 72) rfl rfl rfl ?_
                        refine pm_R_lo pm_M274 (pc' := 74) rfl rfl rfl ?_
                        refine pm_R_op pm_M274 (pc' := 75) (st' := [.int 1, .int x4_300, .ref 41]) rfl rfl rfl ?_
                        refine pm_R_cv pm_M274 (pc' := 78) (a := 41) (ra := [.int 1, .int x4_300]) (rest := []) (ls' := [.ref 41, .int x4_300, .int 1]) rfl rfl (Or.inl rfl) pm_M255 T_300.2.1 rfl (by decide) (Nat.lt_of_lt_of_le (by decide) T_300.1) rfl rfl (Nat.le_of_ble_eq_true rfl) rfl rfl ?_
                        refine pm_R_lo pm_M255 (pc' := 1) rfl rfl rfl ?_
                        refine rf_R_get pm_M255 T_300 (pc' := 4) (v := .ref 49) rfl rfl rfl rfl ?_
                        refine pm_R_op pm_M255 (pc' := 7) (st' := [.int 152, .ref 49]) rfl rfl rfl ?_
                        refine pm_R_lo pm_M255 (pc' := 8) rfl rfl rfl ?_
                        have B325 : sf_B 0 1 (m_300 44) := T_300.2.2.1 44
                        refine rf_R_get pm_M255 T_300 (pc' := 11) (v := .int (m_300 44)) rfl rfl rfl rfl ?_
                        refine sf_R_imul pm_M255 (pc' := 12) rfl rfl sf_k152 B325 (by decide) (by decide) (by decide) (fun z326 e327 B328 => ?_)
                        refine pm_R_op pm_M255 (pc' := 13) (st' := [.int 2, .int z326, .ref 49]) rfl rfl rfl ?_
                        refine sf_R_iadd pm_M255 (pc' := 14) rfl rfl B328 sf_k2 (by decide) (by decide) (fun z329 e330 B331 => ?_)
                        refine pm_R_op pm_M255 (pc' := 15) (st' := [.int 3, .int z329, .ref 49]) rfl rfl rfl ?_
                        refine pm_R_lo pm_M255 (pc' := 16) rfl rfl rfl ?_
                        refine sf_R_imul pm_M255 (pc' := 17) rfl rfl sf_k3 B305 (by decide) (by decide) (by decide) (fun z332 e333 B334 => ?_)
                        refine sf_R_iadd pm_M255 (pc' := 18) rfl rfl B331 B334 (by decide) (by decide) (fun z335 e336 B337 => ?_)
                        refine pm_R_lo pm_M255 (pc' := 19) rfl rfl rfl ?_
                        refine sf_R_iadd pm_M255 (pc' := 20) rfl rfl B337 sf_k1 (by decide) (by decide) (fun z338 e339 B340 => ?_)
                        obtain ⟨f341, e342, b343⟩ := T_300.2.2.2.1 49 (by decide) (by decide)
                        refine rf_R_ild pm_M255 T_300 (pc' := 21) rfl e342 (by decide) (sf_in B340 (by decide) (by decide)) rfl (fun z344 ez345 => ?_)
                        have e346 : (z338).toInt = 152 * ((m_300 44)).toInt + 3 * (x4_300).toInt + 3 := by
                          have q0 := e327
                          have q1 := e330
                          have q2 := e333
                          have q3 := e336
                          have q4 := e339
                          simp only [(show (1 : Int32).toInt = 1 from rfl), (show (2 : Int32).toInt = 2 from rfl), (show (3 : Int32).toInt = 3 from rfl), (show (152 : Int32).toInt = 152 from rfl)] at q0 q1 q2 q3 q4
                          omega
                        have B347 : sf_B 0 5 z344 := ez345 ▸ rf_p49w b343 e346 B325 B305 (by decide) (by decide) (by decide)
                        refine pm_R_ret pm_M255 (r := some (.int z344)) rfl (pm_ret_i _) ?_
                        show pm_R _ 274 78 [.ref 41, .int a0, .int a1, .int a2, .int x4_300, .int r307] [.int z344] _ _
                        exact pm_R_ret pm_M274 (r := some (.int z344)) rfl (pm_ret_i _) (K z344 m_300 w_300 h_300 T_300 F_300 W302 (sf_weak B347 (by decide) (by decide)))
                      · have B348 : sf_B 1 1 a2 := sf_eqL (Classical.not_not.mp c323) sf_k1
                        refine pm_R_lo pm_M274 (pc' := 68) rfl rfl rfl ?_
                        refine pm_R_br pm_M274 (pc' := 78) rfl rfl ?_
                        exact pm_R_ret pm_M274 (r := some (.int r307)) rfl (pm_ret_i _) (K r307 m_300 w_300 h_300 T_300 F_300 W302 (sf_weak B320 (by decide) (by decide)))
                    · have B349 : sf_B 0 0 a2 := sf_eqL (Classical.not_not.mp c321) sf_k0
                      refine pm_R_lo pm_M274 (pc' := 58) rfl rfl rfl ?_
                      refine pm_R_br pm_M274 (pc' := 78) rfl rfl ?_
                      exact pm_R_ret pm_M274 (r := some (.int x4_300)) rfl (pm_ret_i _) (K x4_300 m_300 w_300 h_300 T_300 F_300 W302 (sf_weak B305 (by decide) (by decide)))
            exact L_300 _ h36 m39 w27 0 (pm_no) T37 F41 (rf_W.refl _ _) (sf_weak sf_k0 (by decide) (by decide)) rfl rfl
      · have B350 : sf_B 0 0 r24 := sf_eqL (Classical.not_not.mp c34) sf_k0
        refine pm_R_op pm_M275 (pc' := 18) (st' := [.int 0]) rfl rfl rfl ?_
        refine pm_R_ret pm_M275 (r := some (.int 0)) rfl rfl ?_
        show pm_R _ 274 11 [.ref 41, .int a0, .int a1, .int a2, pm_no, pm_no] [.int 0] _ _
        refine pm_R_br pm_M274 (pc' := 23) (st' := []) rfl rfl ?_
        refine pm_R_op pm_M274 (pc' := 24) (st' := [.int (-1)]) rfl rfl rfl ?_
        exact pm_R_ret pm_M274 (r := some (.int (-1))) rfl rfl (K (-1) m26 w27 h28 T29 F32 W33 (sf_weak sf_kn1 (by decide) (by decide)))

set_option maxRecDepth 100000 in
set_option maxHeartbeats 4000000 in
/-- SilentTableModel.sins -/
theorem rf_c280 {d : Nat} {m : Nat → Int32} {w : Int64} {h : pm_H} {Q : Option Value → pm_H → Prop} {a0 : Int32} {a1 : Int32} {a2 : Int32} (T : rf_T m w h)  (K : ∀ (r : Int32) (m' : Nat → Int32) (w' : Int64) (h' : pm_H), rf_T m' w' h' → rf_F h h' → rf_W [0, 42, 43, 44, 49] m m' → Q (some (.int r)) h') : pm_R (d + 6) 280 0 [.ref 41, .int a0, .int a1, .int a2] [] h Q := by
  refine pm_R_lo pm_M280 (pc' := 1) rfl rfl rfl ?_
  refine pm_R_op pm_M280 (pc' := 2) (st' := [.int 0, .ref 41]) rfl rfl rfl ?_
  refine rf_R_put pm_M280 T (pc' := 5) rfl rfl rfl (by decide) rfl rfl sf_k0 rfl rfl (fun h1 m4 em5 T2 F3 => ?_)
  have F6 := (rf_F.refl h).trans F3
  have B7 : sf_B 0 0 (m4 0) := by rw [em5]; exact sf_k0
  have W8 : rf_W [0, 42, 43, 44, 49] m m4 := by rw [em5]; exact (rf_W.refl [0, 42, 43, 44, 49] m).put (by decide)
  refine pm_R_lo pm_M280 (pc' := 6) rfl rfl rfl ?_
  refine pm_R_lo pm_M280 (pc' := 7) rfl rfl rfl ?_
  refine pm_R_lo pm_M280 (pc' := 8) rfl rfl rfl ?_
  refine pm_R_cv pm_M280 (pc' := 11) (a := 41) (ra := [.int a1, .int a0]) (rest := []) (ls' := [.ref 41, .int a0, .int a1]) rfl rfl (Or.inl rfl) pm_M275 T2.2.1 rfl (by decide) (Nat.lt_of_lt_of_le (by decide) T2.1) rfl rfl (Nat.le_of_ble_eq_true rfl) rfl rfl ?_
  refine pm_R_lo pm_M275 (pc' := 1) rfl rfl rfl ?_
  refine pm_R_op pm_M275 (pc' := 2) (st' := [.int 3, .ref 41]) rfl rfl rfl ?_
  refine pm_R_lo pm_M275 (pc' := 3) rfl rfl rfl ?_
  refine pm_R_cv pm_M275 (pc' := 6) (a := 41) (ra := [.int a0, .int 3]) (rest := []) (ls' := [.ref 41, .int 3, .int a0]) rfl rfl (Or.inl rfl) pm_M177 T2.2.1 rfl (by decide) (Nat.lt_of_lt_of_le (by decide) T2.1) rfl rfl (Nat.le_of_ble_eq_true rfl) rfl rfl ?_
  refine pm_R_lo pm_M177 (pc' := 1) rfl rfl rfl ?_
  refine pm_R_op pm_M177 (pc' := 2) (st' := [.int 0, .int a0]) rfl rfl rfl ?_
  refine pm_R_lo pm_M177 (pc' := 3) rfl rfl rfl ?_
  refine rf_R_get pm_M177 T2 (pc' := 6) (v := .ref 46) rfl rfl rfl rfl ?_
  refine pm_R_lo pm_M177 (pc' := 7) rfl rfl rfl ?_
  obtain ⟨f9, e10, b11⟩ := T2.2.2.2.1 46 (by decide) (by decide)
  refine rf_R_ild pm_M177 T2 (pc' := 8) rfl e10 (by decide) rfl rfl (fun z12 ez13 => ?_)
  have B14 : sf_B 0 2 z12 := ez13 ▸ (b11 3)
  refine pm_R_op pm_M177 (pc' := 9) (st' := [.int 1, .int z12, .int 0, .int a0]) rfl rfl rfl ?_
  refine sf_R_isub pm_M177 (pc' := 10) rfl rfl B14 sf_k1 (by decide) (by decide) (fun z15 e16 B17 => ?_)
  refine pm_R_cs pm_M177 (pc' := 13) (ra := [.int z15, .int 0, .int a0]) (rest := []) (ls' := [.int a0, .int 0, .int z15]) rfl rfl (Or.inl rfl) pm_M174 rfl rfl (Nat.le_of_ble_eq_true rfl) rfl rfl ?_
  refine pm_R_lo pm_M174 (pc' := 1) rfl rfl rfl ?_
  refine pm_R_lo pm_M174 (pc' := 2) rfl rfl rfl ?_
  refine pm_R_icmp pm_M174 (t := 14) (pc' := 5) rfl rfl rfl (fun c18 => ?_) (fun c18 => ?_)
  · have B19 : sf_B (-2147483648) (-1) a0 := sf_ltL c18 (sf_any a0) sf_k0
    refine pm_R_op pm_M174 (pc' := 15) (st' := [.int 0]) rfl rfl rfl ?_
    refine pm_R_ret pm_M174 (r := some (.int 0)) rfl rfl ?_
    show pm_R _ 177 13 [.ref 41, .int 3, .int a0] [.int 0] _ _
    refine pm_R_ret pm_M177 (r := some (.int 0)) rfl rfl ?_
    show pm_R _ 275 6 [.ref 41, .int a0, .int a1] [.int 0] _ _
    refine pm_R_br pm_M275 (pc' := 17) (st' := []) rfl rfl ?_
    refine pm_R_op pm_M275 (pc' := 18) (st' := [.int 0]) rfl rfl rfl ?_
    refine pm_R_ret pm_M275 (r := some (.int 0)) rfl rfl ?_
    show pm_R _ 280 11 [.ref 41, .int a0, .int a1, .int a2] [.int 0] _ _
    refine pm_R_br pm_M280 (pc' := 36) (st' := []) rfl rfl ?_
    refine pm_R_op pm_M280 (pc' := 37) (st' := [.int (-1)]) rfl rfl rfl ?_
    exact pm_R_ret pm_M280 (r := some (.int (-1))) rfl rfl (K (-1) m4 w h1 T2 F6 W8)
  · have B20 : sf_B 0 2147483647 a0 := sf_leR (Int32.not_lt.mp c18) sf_k0 (sf_any a0)
    refine pm_R_lo pm_M174 (pc' := 6) rfl rfl rfl ?_
    refine pm_R_lo pm_M174 (pc' := 7) rfl rfl rfl ?_
    refine pm_R_icmp pm_M174 (t := 14) (pc' := 10) rfl rfl rfl (fun c21 => ?_) (fun c21 => ?_)
    · skip
      refine pm_R_op pm_M174 (pc' := 15) (st' := [.int 0]) rfl rfl rfl ?_
      refine pm_R_ret pm_M174 (r := some (.int 0)) rfl rfl ?_
      show pm_R _ 177 13 [.ref 41, .int 3, .int a0] [.int 0] _ _
      refine pm_R_ret pm_M177 (r := some (.int 0)) rfl rfl ?_
      show pm_R _ 275 6 [.ref 41, .int a0, .int a1] [.int 0] _ _
      refine pm_R_br pm_M275 (pc' := 17) (st' := []) rfl rfl ?_
      refine pm_R_op pm_M275 (pc' := 18) (st' := [.int 0]) rfl rfl rfl ?_
      refine pm_R_ret pm_M275 (r := some (.int 0)) rfl rfl ?_
      show pm_R _ 280 11 [.ref 41, .int a0, .int a1, .int a2] [.int 0] _ _
      refine pm_R_br pm_M280 (pc' := 36) (st' := []) rfl rfl ?_
      refine pm_R_op pm_M280 (pc' := 37) (st' := [.int (-1)]) rfl rfl rfl ?_
      exact pm_R_ret pm_M280 (r := some (.int (-1))) rfl rfl (K (-1) m4 w h1 T2 F6 W8)
    · have B22 : sf_B 0 1 a0 := sf_leL (Int32.not_lt.mp c21) B20 B17
      have B23 : sf_B 0 1 z15 := sf_leR (Int32.not_lt.mp c21) B20 B17
      refine pm_R_op pm_M174 (pc' := 11) (st' := [.int 1]) rfl rfl rfl ?_
      refine pm_R_br pm_M174 (pc' := 15) rfl rfl ?_
      refine pm_R_ret pm_M174 (r := some (.int 1)) rfl rfl ?_
      show pm_R _ 177 13 [.ref 41, .int 3, .int a0] [.int 1] _ _
      refine pm_R_ret pm_M177 (r := some (.int 1)) rfl rfl ?_
      show pm_R _ 275 6 [.ref 41, .int a0, .int a1] [.int 1] _ _
      refine pm_R_br pm_M275 (pc' := 9) (st' := []) rfl rfl ?_
      refine pm_R_lo pm_M275 (pc' := 10) rfl rfl rfl ?_
      refine pm_R_lo pm_M275 (pc' := 11) rfl rfl rfl ?_
      refine pm_R_cv pm_M275 (pc' := 14) (a := 41) (ra := [.int a1]) (rest := []) (ls' := [.ref 41, .int a1, pm_no, pm_no, pm_no, pm_no]) rfl rfl (Or.inl rfl) pm_M254 T2.2.1 rfl (by decide) (Nat.lt_of_lt_of_le (by decide) T2.1) rfl rfl (Nat.le_of_ble_eq_true rfl) rfl rfl ?_
      refine rf_c254 (d := d + 2) T2  (fun r24 m26 w27 h28 T29 F30 W31 B25 => ?_)
      have F32 := F6.trans F30
      have W33 : rf_W [0, 42, 43, 44, 49] m m26 := W8.trans W31 (by decide)
      show pm_R _ 275 14 [.ref 41, .int a0, .int a1] [.int r24] _ _
      refine pm_R_ifc pm_M275 (t := 19) (pc' := 17) rfl rfl rfl (fun c34 => ?_) (fun c34 => ?_)
      · have B35 : sf_B 1 1 r24 := sf_neL0 c34 sf_k0 B25
        refine pm_R_lo pm_M275 (pc' := 20) rfl rfl rfl ?_
        refine pm_R_lo pm_M275 (pc' := 21) rfl rfl rfl ?_
        refine rf_R_put pm_M275 T29 (pc' := 24) rfl rfl rfl (by decide) rfl rfl B22 rfl rfl (fun h36 m39 em40 T37 F38 => ?_)
        have F41 := F32.trans F38
        have B42 : sf_B 0 1 (m39 49) := by rw [em40]; exact B22
        have W43 : rf_W [0, 42, 43, 44, 49] m m39 := by rw [em40]; exact W33.put (by decide)
        refine pm_R_op pm_M275 (pc' := 25) (st' := [.int 1]) rfl rfl rfl ?_
        refine pm_R_ret pm_M275 (r := some (.int 1)) rfl rfl ?_
        show pm_R _ 280 11 [.ref 41, .int a0, .int a1, .int a2] [.int 1] _ _
        refine pm_R_br pm_M280 (pc' := 14) (st' := []) rfl rfl ?_
        refine pm_R_lo pm_M280 (pc' := 15) rfl rfl rfl ?_
        refine pm_R_op pm_M280 (pc' := 16) (st' := [.int (-1), .int a2]) rfl rfl rfl ?_
        refine pm_R_icmp pm_M280 (t := 27) (pc' := 19) rfl rfl rfl (fun c44 => ?_) (fun c44 => ?_)
        · have B45 : sf_B (-1) (-1) a2 := sf_eqL c44 sf_kn1
          refine pm_R_lo pm_M280 (pc' := 28) rfl rfl rfl ?_
          refine pm_R_lo pm_M280 (pc' := 29) rfl rfl rfl ?_
          refine pm_R_op pm_M280 (pc' := 30) (st' := [.int (-1), .int a2, .ref 41]) rfl rfl rfl ?_
          refine pm_R_cv pm_M280 (pc' := 33) (a := 41) (ra := [.int (-1), .int a2]) (rest := []) (ls' := [.ref 41, .int a2, .int (-1), pm_no, pm_no]) rfl rfl (Or.inl rfl) pm_M281 T37.2.1 rfl (by decide) (Nat.lt_of_lt_of_le (by decide) T37.1) rfl rfl (Nat.le_of_ble_eq_true rfl) rfl rfl ?_
          refine rf_c281 (d := d + 0) T37  (fun r46 => ?_)
          show pm_R _ 280 33 [.ref 41, .int a0, .int a1, .int a2] [.int r46] _ _
          refine pm_R_br pm_M280 (pc' := 37) rfl rfl ?_
          exact pm_R_ret pm_M280 (r := some (.int r46)) rfl (pm_ret_i _) (K r46 m39 w27 h36 T37 F41 W43)
        · skip
          refine pm_R_lo pm_M280 (pc' := 20) rfl rfl rfl ?_
          refine pm_R_lo pm_M280 (pc' := 21) rfl rfl rfl ?_
          refine pm_R_cv pm_M280 (pc' := 24) (a := 41) (ra := [.int a2]) (rest := []) (ls' := [.ref 41, .int a2]) rfl rfl (Or.inl rfl) pm_M259 T37.2.1 rfl (by decide) (Nat.lt_of_lt_of_le (by decide) T37.1) rfl rfl (Nat.le_of_ble_eq_true rfl) rfl rfl ?_
          refine pm_R_lo pm_M259 (pc' := 1) rfl rfl rfl ?_
          refine pm_R_op pm_M259 (pc' := 2) (st' := [.int 0, .int a2]) rfl rfl rfl ?_
          refine pm_R_lo pm_M259 (pc' := 3) rfl rfl rfl ?_
          have B54 : sf_B 0 6 (m39 42) := T37.2.2.1 42
          refine rf_R_get pm_M259 T37 (pc' := 6) (v := .int (m39 42)) rfl rfl rfl rfl ?_
          refine pm_R_op pm_M259 (pc' := 7) (st' := [.int 1, .int (m39 42), .int 0, .int a2]) rfl rfl rfl ?_
          refine sf_R_isub pm_M259 (pc' := 8) rfl rfl B54 sf_k1 (by decide) (by decide) (fun z55 e56 B57 => ?_)
          refine pm_R_cs pm_M259 (pc' := 11) (ra := [.int z55, .int 0, .int a2]) (rest := []) (ls' := [.int a2, .int 0, .int z55]) rfl rfl (Or.inl rfl) pm_M174 rfl rfl (Nat.le_of_ble_eq_true rfl) rfl rfl ?_
          refine pm_R_lo pm_M174 (pc' := 1) rfl rfl rfl ?_
          refine pm_R_lo pm_M174 (pc' := 2) rfl rfl rfl ?_
          refine pm_R_icmp pm_M174 (t := 14) (pc' := 5) rfl rfl rfl (fun c58 => ?_) (fun c58 => ?_)
          · have B59 : sf_B (-2147483648) (-1) a2 := sf_ltL c58 (sf_any a2) sf_k0
            refine pm_R_op pm_M174 (pc' := 15) (st' := [.int 0]) rfl rfl rfl ?_
            refine pm_R_ret pm_M174 (r := some (.int 0)) rfl rfl ?_
            show pm_R _ 259 11 [.ref 41, .int a2] [.int 0] _ _
            refine pm_R_ret pm_M259 (r := some (.int 0)) rfl rfl ?_
            show pm_R _ 280 24 [.ref 41, .int a0, .int a1, .int a2] [.int 0] _ _
            refine pm_R_br pm_M280 (pc' := 36) (st' := []) rfl rfl ?_
            refine pm_R_op pm_M280 (pc' := 37) (st' := [.int (-1)]) rfl rfl rfl ?_
            exact pm_R_ret pm_M280 (r := some (.int (-1))) rfl rfl (K (-1) m39 w27 h36 T37 F41 W43)
          · have B60 : sf_B 0 2147483647 a2 := sf_leR (Int32.not_lt.mp c58) sf_k0 (sf_any a2)
            refine pm_R_lo pm_M174 (pc' := 6) rfl rfl rfl ?_
            refine pm_R_lo pm_M174 (pc' := 7) rfl rfl rfl ?_
            refine pm_R_icmp pm_M174 (t := 14) (pc' := 10) rfl rfl rfl (fun c61 => ?_) (fun c61 => ?_)
            · skip
              refine pm_R_op pm_M174 (pc' := 15) (st' := [.int 0]) rfl rfl rfl ?_
              refine pm_R_ret pm_M174 (r := some (.int 0)) rfl rfl ?_
              show pm_R _ 259 11 [.ref 41, .int a2] [.int 0] _ _
              refine pm_R_ret pm_M259 (r := some (.int 0)) rfl rfl ?_
              show pm_R _ 280 24 [.ref 41, .int a0, .int a1, .int a2] [.int 0] _ _
              refine pm_R_br pm_M280 (pc' := 36) (st' := []) rfl rfl ?_
              refine pm_R_op pm_M280 (pc' := 37) (st' := [.int (-1)]) rfl rfl rfl ?_
              exact pm_R_ret pm_M280 (r := some (.int (-1))) rfl rfl (K (-1) m39 w27 h36 T37 F41 W43)
            · have B62 : sf_B 0 5 a2 := sf_leL (Int32.not_lt.mp c61) B60 B57
              have B63 : sf_B 0 5 z55 := sf_leR (Int32.not_lt.mp c61) B60 B57
              refine pm_R_op pm_M174 (pc' := 11) (st' := [.int 1]) rfl rfl rfl ?_
              refine pm_R_br pm_M174 (pc' := 15) rfl rfl ?_
              refine pm_R_ret pm_M174 (r := some (.int 1)) rfl rfl ?_
              show pm_R _ 259 11 [.ref 41, .int a2] [.int 1] _ _
              refine pm_R_ret pm_M259 (r := some (.int 1)) rfl rfl ?_
              show pm_R _ 280 24 [.ref 41, .int a0, .int a1, .int a2] [.int 1] _ _
              refine pm_R_br pm_M280 (pc' := 27) (st' := []) rfl rfl ?_
              refine pm_R_lo pm_M280 (pc' := 28) rfl rfl rfl ?_
              refine pm_R_lo pm_M280 (pc' := 29) rfl rfl rfl ?_
              refine pm_R_op pm_M280 (pc' := 30) (st' := [.int (-1), .int a2, .ref 41]) rfl rfl rfl ?_
              refine pm_R_cv pm_M280 (pc' := 33) (a := 41) (ra := [.int (-1), .int a2]) (rest := []) (ls' := [.ref 41, .int a2, .int (-1), pm_no, pm_no]) rfl rfl (Or.inl rfl) pm_M281 T37.2.1 rfl (by decide) (Nat.lt_of_lt_of_le (by decide) T37.1) rfl rfl (Nat.le_of_ble_eq_true rfl) rfl rfl ?_
              refine rf_c281 (d := d + 0) T37  (fun r64 => ?_)
              show pm_R _ 280 33 [.ref 41, .int a0, .int a1, .int a2] [.int r64] _ _
              refine pm_R_br pm_M280 (pc' := 37) rfl rfl ?_
              exact pm_R_ret pm_M280 (r := some (.int r64)) rfl (pm_ret_i _) (K r64 m39 w27 h36 T37 F41 W43)
      · have B72 : sf_B 0 0 r24 := sf_eqL (Classical.not_not.mp c34) sf_k0
        refine pm_R_op pm_M275 (pc' := 18) (st' := [.int 0]) rfl rfl rfl ?_
        refine pm_R_ret pm_M275 (r := some (.int 0)) rfl rfl ?_
        show pm_R _ 280 11 [.ref 41, .int a0, .int a1, .int a2] [.int 0] _ _
        refine pm_R_br pm_M280 (pc' := 36) (st' := []) rfl rfl ?_
        refine pm_R_op pm_M280 (pc' := 37) (st' := [.int (-1)]) rfl rfl rfl ?_
        exact pm_R_ret pm_M280 (r := some (.int (-1))) rfl rfl (K (-1) m26 w27 h28 T29 F32 W33)

set_option maxRecDepth 100000 in
set_option maxHeartbeats 4000000 in
/-- SilentTableModel.mildest -/
theorem rf_c282 {d : Nat} {m : Nat → Int32} {w : Int64} {h : pm_H} {Q : Option Value → pm_H → Prop} {a0 : Int32} {a1 : Int32} (T : rf_T m w h)  (K : ∀ (r : Int32) (m' : Nat → Int32) (w' : Int64) (h' : pm_H), rf_T m' w' h' → rf_F h h' → rf_W [0, 42, 43, 44, 49] m m' → sf_B (-1) 2147483647 r → Q (some (.int r)) h') : pm_R (d + 6) 282 0 [.ref 41, .int a0, .int a1, pm_no, pm_no, pm_no, pm_no] [] h Q := by
  refine pm_R_lo pm_M282 (pc' := 1) rfl rfl rfl ?_
  refine pm_R_op pm_M282 (pc' := 2) (st' := [.int 0, .ref 41]) rfl rfl rfl ?_
  refine rf_R_put pm_M282 T (pc' := 5) rfl rfl rfl (by decide) rfl rfl sf_k0 rfl rfl (fun h1 m4 em5 T2 F3 => ?_)
  have F6 := (rf_F.refl h).trans F3
  have B7 : sf_B 0 0 (m4 0) := by rw [em5]; exact sf_k0
  have W8 : rf_W [0, 42, 43, 44, 49] m m4 := by rw [em5]; exact (rf_W.refl [0, 42, 43, 44, 49] m).put (by decide)
  refine pm_R_lo pm_M282 (pc' := 6) rfl rfl rfl ?_
  refine pm_R_lo pm_M282 (pc' := 7) rfl rfl rfl ?_
  refine pm_R_lo pm_M282 (pc' := 8) rfl rfl rfl ?_
  refine pm_R_cv pm_M282 (pc' := 11) (a := 41) (ra := [.int a1, .int a0]) (rest := []) (ls' := [.ref 41, .int a0, .int a1]) rfl rfl (Or.inl rfl) pm_M275 T2.2.1 rfl (by decide) (Nat.lt_of_lt_of_le (by decide) T2.1) rfl rfl (Nat.le_of_ble_eq_true rfl) rfl rfl ?_
  refine pm_R_lo pm_M275 (pc' := 1) rfl rfl rfl ?_
  refine pm_R_op pm_M275 (pc' := 2) (st' := [.int 3, .ref 41]) rfl rfl rfl ?_
  refine pm_R_lo pm_M275 (pc' := 3) rfl rfl rfl ?_
  refine pm_R_cv pm_M275 (pc' := 6) (a := 41) (ra := [.int a0, .int 3]) (rest := []) (ls' := [.ref 41, .int 3, .int a0]) rfl rfl (Or.inl rfl) pm_M177 T2.2.1 rfl (by decide) (Nat.lt_of_lt_of_le (by decide) T2.1) rfl rfl (Nat.le_of_ble_eq_true rfl) rfl rfl ?_
  refine pm_R_lo pm_M177 (pc' := 1) rfl rfl rfl ?_
  refine pm_R_op pm_M177 (pc' := 2) (st' := [.int 0, .int a0]) rfl rfl rfl ?_
  refine pm_R_lo pm_M177 (pc' := 3) rfl rfl rfl ?_
  refine rf_R_get pm_M177 T2 (pc' := 6) (v := .ref 46) rfl rfl rfl rfl ?_
  refine pm_R_lo pm_M177 (pc' := 7) rfl rfl rfl ?_
  obtain ⟨f9, e10, b11⟩ := T2.2.2.2.1 46 (by decide) (by decide)
  refine rf_R_ild pm_M177 T2 (pc' := 8) rfl e10 (by decide) rfl rfl (fun z12 ez13 => ?_)
  have B14 : sf_B 0 2 z12 := ez13 ▸ (b11 3)
  refine pm_R_op pm_M177 (pc' := 9) (st' := [.int 1, .int z12, .int 0, .int a0]) rfl rfl rfl ?_
  refine sf_R_isub pm_M177 (pc' := 10) rfl rfl B14 sf_k1 (by decide) (by decide) (fun z15 e16 B17 => ?_)
  refine pm_R_cs pm_M177 (pc' := 13) (ra := [.int z15, .int 0, .int a0]) (rest := []) (ls' := [.int a0, .int 0, .int z15]) rfl rfl (Or.inl rfl) pm_M174 rfl rfl (Nat.le_of_ble_eq_true rfl) rfl rfl ?_
  refine pm_R_lo pm_M174 (pc' := 1) rfl rfl rfl ?_
  refine pm_R_lo pm_M174 (pc' := 2) rfl rfl rfl ?_
  refine pm_R_icmp pm_M174 (t := 14) (pc' := 5) rfl rfl rfl (fun c18 => ?_) (fun c18 => ?_)
  · have B19 : sf_B (-2147483648) (-1) a0 := sf_ltL c18 (sf_any a0) sf_k0
    refine pm_R_op pm_M174 (pc' := 15) (st' := [.int 0]) rfl rfl rfl ?_
    refine pm_R_ret pm_M174 (r := some (.int 0)) rfl rfl ?_
    show pm_R _ 177 13 [.ref 41, .int 3, .int a0] [.int 0] _ _
    refine pm_R_ret pm_M177 (r := some (.int 0)) rfl rfl ?_
    show pm_R _ 275 6 [.ref 41, .int a0, .int a1] [.int 0] _ _
    refine pm_R_br pm_M275 (pc' := 17) (st' := []) rfl rfl ?_
    refine pm_R_op pm_M275 (pc' := 18) (st' := [.int 0]) rfl rfl rfl ?_
    refine pm_R_ret pm_M275 (r := some (.int 0)) rfl rfl ?_
    show pm_R _ 282 11 [.ref 41, .int a0, .int a1, pm_no, pm_no, pm_no, pm_no] [.int 0] _ _
    refine pm_R_br pm_M282 (pc' := 14) (st' := []) rfl rfl ?_
    refine pm_R_op pm_M282 (pc' := 15) (st' := [.int (-1)]) rfl rfl rfl ?_
    exact pm_R_ret pm_M282 (r := some (.int (-1))) rfl rfl (K (-1) m4 w h1 T2 F6 W8 (sf_weak sf_kn1 (by decide) (by decide)))
  · have B20 : sf_B 0 2147483647 a0 := sf_leR (Int32.not_lt.mp c18) sf_k0 (sf_any a0)
    refine pm_R_lo pm_M174 (pc' := 6) rfl rfl rfl ?_
    refine pm_R_lo pm_M174 (pc' := 7) rfl rfl rfl ?_
    refine pm_R_icmp pm_M174 (t := 14) (pc' := 10) rfl rfl rfl (fun c21 => ?_) (fun c21 => ?_)
    · skip
      refine pm_R_op pm_M174 (pc' := 15) (st' := [.int 0]) rfl rfl rfl ?_
      refine pm_R_ret pm_M174 (r := some (.int 0)) rfl rfl ?_
      show pm_R _ 177 13 [.ref 41, .int 3, .int a0] [.int 0] _ _
      refine pm_R_ret pm_M177 (r := some (.int 0)) rfl rfl ?_
      show pm_R _ 275 6 [.ref 41, .int a0, .int a1] [.int 0] _ _
      refine pm_R_br pm_M275 (pc' := 17) (st' := []) rfl rfl ?_
      refine pm_R_op pm_M275 (pc' := 18) (st' := [.int 0]) rfl rfl rfl ?_
      refine pm_R_ret pm_M275 (r := some (.int 0)) rfl rfl ?_
      show pm_R _ 282 11 [.ref 41, .int a0, .int a1, pm_no, pm_no, pm_no, pm_no] [.int 0] _ _
      refine pm_R_br pm_M282 (pc' := 14) (st' := []) rfl rfl ?_
      refine pm_R_op pm_M282 (pc' := 15) (st' := [.int (-1)]) rfl rfl rfl ?_
      exact pm_R_ret pm_M282 (r := some (.int (-1))) rfl rfl (K (-1) m4 w h1 T2 F6 W8 (sf_weak sf_kn1 (by decide) (by decide)))
    · have B22 : sf_B 0 1 a0 := sf_leL (Int32.not_lt.mp c21) B20 B17
      have B23 : sf_B 0 1 z15 := sf_leR (Int32.not_lt.mp c21) B20 B17
      refine pm_R_op pm_M174 (pc' := 11) (st' := [.int 1]) rfl rfl rfl ?_
      refine pm_R_br pm_M174 (pc' := 15) rfl rfl ?_
      refine pm_R_ret pm_M174 (r := some (.int 1)) rfl rfl ?_
      show pm_R _ 177 13 [.ref 41, .int 3, .int a0] [.int 1] _ _
      refine pm_R_ret pm_M177 (r := some (.int 1)) rfl rfl ?_
      show pm_R _ 275 6 [.ref 41, .int a0, .int a1] [.int 1] _ _
      refine pm_R_br pm_M275 (pc' := 9) (st' := []) rfl rfl ?_
      refine pm_R_lo pm_M275 (pc' := 10) rfl rfl rfl ?_
      refine pm_R_lo pm_M275 (pc' := 11) rfl rfl rfl ?_
      refine pm_R_cv pm_M275 (pc' := 14) (a := 41) (ra := [.int a1]) (rest := []) (ls' := [.ref 41, .int a1, pm_no, pm_no, pm_no, pm_no]) rfl rfl (Or.inl rfl) pm_M254 T2.2.1 rfl (by decide) (Nat.lt_of_lt_of_le (by decide) T2.1) rfl rfl (Nat.le_of_ble_eq_true rfl) rfl rfl ?_
      refine rf_c254 (d := d + 2) T2  (fun r24 m26 w27 h28 T29 F30 W31 B25 => ?_)
      have F32 := F6.trans F30
      have W33 : rf_W [0, 42, 43, 44, 49] m m26 := W8.trans W31 (by decide)
      show pm_R _ 275 14 [.ref 41, .int a0, .int a1] [.int r24] _ _
      refine pm_R_ifc pm_M275 (t := 19) (pc' := 17) rfl rfl rfl (fun c34 => ?_) (fun c34 => ?_)
      · have B35 : sf_B 1 1 r24 := sf_neL0 c34 sf_k0 B25
        refine pm_R_lo pm_M275 (pc' := 20) rfl rfl rfl ?_
        refine pm_R_lo pm_M275 (pc' := 21) rfl rfl rfl ?_
        refine rf_R_put pm_M275 T29 (pc' := 24) rfl rfl rfl (by decide) rfl rfl B22 rfl rfl (fun h36 m39 em40 T37 F38 => ?_)
        have F41 := F32.trans F38
        have B42 : sf_B 0 1 (m39 49) := by rw [em40]; exact B22
        have W43 : rf_W [0, 42, 43, 44, 49] m m39 := by rw [em40]; exact W33.put (by decide)
        refine pm_R_op pm_M275 (pc' := 25) (st' := [.int 1]) rfl rfl rfl ?_
        refine pm_R_ret pm_M275 (r := some (.int 1)) rfl rfl ?_
        show pm_R _ 282 11 [.ref 41, .int a0, .int a1, pm_no, pm_no, pm_no, pm_no] [.int 1] _ _
        refine pm_R_br pm_M282 (pc' := 16) (st' := []) rfl rfl ?_
        refine pm_R_op pm_M282 (pc' := 17) (st' := [.int (-1)]) rfl rfl rfl ?_
        refine pm_R_lo pm_M282 (pc' := 18) (ls' := [.ref 41, .int a0, .int a1, .int (-1), pm_no, pm_no, pm_no]) (st' := []) rfl rfl rfl ?_
        refine pm_R_op pm_M282 (pc' := 20) (st' := [.int 51]) rfl rfl rfl ?_
        refine pm_R_lo pm_M282 (pc' := 22) (ls' := [.ref 41, .int a0, .int a1, .int (-1), .int 51, pm_no, pm_no]) (st' := []) rfl rfl rfl ?_
        refine pm_R_op pm_M282 (pc' := 23) (st' := [.int 0]) rfl rfl rfl ?_
        refine pm_R_lo pm_M282 (pc' := 25) (ls' := [.ref 41, .int a0, .int a1, .int (-1), .int 51, .int 0, pm_no]) (st' := []) rfl rfl rfl ?_
        have L_269 : ∀ (N : Nat) (h_269 : pm_H) (m_269 : Nat → Int32) (w_269 : Int64) (x3_269 : Int32) (x4_269 : Int32) (x5_269 : Int32) (g6_269 : Value), rf_T m_269 w_269 h_269 → rf_F h h_269 → rf_W [] m39 m_269 → sf_B (-1) 2147483647 x3_269 → sf_B (-2147483648) 51 x4_269 → sf_B 0 8 x5_269 → g6_269.category = 1 → (8 - x5_269.toInt).toNat = N → pm_R (d + 6) 282 25 [.ref 41, .int a0, .int a1, .int x3_269, .int x4_269, .int x5_269, g6_269] [] h_269 Q := by
          intro N
          induction N using Nat.strongRecOn with
          | ind N ih_269 =>
            intro h_269 m_269 w_269 x3_269 x4_269 x5_269 g6_269 T_269 F_269 W_269 Bx3_269 Bx4_269 Bx5_269 Cg6_269 hN_269
            have W271 : rf_W [0, 42, 43, 44, 49] m m_269 := W43.trans W_269 (by decide)
            refine pm_R_lo pm_M282 (pc' := 27) rfl rfl rfl ?_
            refine pm_R_lo pm_M282 (pc' := 28) rfl rfl rfl ?_
            refine pm_R_cv pm_M282 (pc' := 31) (a := 41) (ra := []) (rest := [.int x5_269]) (ls' := [.ref 41]) rfl rfl (Or.inl rfl) pm_M272 T_269.2.1 rfl (by decide) (Nat.lt_of_lt_of_le (by decide) T_269.1) rfl rfl (Nat.le_of_ble_eq_true rfl) rfl rfl ?_
            refine pm_R_lo pm_M272 (pc' := 1) rfl rfl rfl ?_
            refine rf_R_get pm_M272 T_269 (pc' := 4) (v := .ref 50) rfl rfl rfl rfl ?_
            refine pm_R_op pm_M272 (pc' := 6) (st' := [.int 25, .ref 50]) rfl rfl rfl ?_
            refine pm_R_lo pm_M272 (pc' := 7) rfl rfl rfl ?_
            have B272 : sf_B 0 1 (m_269 49) := T_269.2.2.1 49
            refine rf_R_get pm_M272 T_269 (pc' := 10) (v := .int (m_269 49)) rfl rfl rfl rfl ?_
            refine sf_R_imul pm_M272 (pc' := 11) rfl rfl sf_k25 B272 (by decide) (by decide) (by decide) (fun z273 e274 B275 => ?_)
            obtain ⟨f276, e277, b278⟩ := T_269.2.2.2.1 50 (by decide) (by decide)
            refine rf_R_ild pm_M272 T_269 (pc' := 12) rfl e277 (by decide) (sf_in B275 (by decide) (by decide)) rfl (fun z279 ez280 => ?_)
            have e281 : (z273).toInt = 25 * ((m_269 49)).toInt + 0 := by
              have q0 := e274
              simp only [(show (25 : Int32).toInt = 25 from rfl)] at q0
              omega
            have B282 : sf_B 0 8 z279 := ez280 ▸ rf_p50a b278 e281 B272 (by decide)
            refine pm_R_ret pm_M272 (r := some (.int z279)) rfl (pm_ret_i _) ?_
            show pm_R _ 282 31 [.ref 41, .int a0, .int a1, .int x3_269, .int x4_269, .int x5_269, g6_269] [.int z279, .int x5_269] _ _
            refine pm_R_icmp pm_M282 (t := 72) (pc' := 34) rfl rfl rfl (fun c283 => ?_) (fun c283 => ?_)
            · skip
              refine pm_R_lo pm_M282 (pc' := 73) rfl rfl rfl ?_
              exact pm_R_ret pm_M282 (r := some (.int x3_269)) rfl (pm_ret_i _) (K x3_269 m_269 w_269 h_269 T_269 F_269 W271 Bx3_269)
            · have B284 : sf_B 0 7 x5_269 := sf_ltL (Int32.not_le.mp c283) Bx5_269 B282
              have B285 : sf_B 1 8 z279 := sf_ltR (Int32.not_le.mp c283) Bx5_269 B282
              refine pm_R_lo pm_M282 (pc' := 35) rfl rfl rfl ?_
              refine pm_R_op pm_M282 (pc' := 36) (st' := [.int (-1), .ref 41]) rfl rfl rfl ?_
              refine pm_R_lo pm_M282 (pc' := 38) rfl rfl rfl ?_
              refine pm_R_cv pm_M282 (pc' := 41) (a := 41) (ra := [.int x5_269, .int (-1)]) (rest := []) (ls' := [.ref 41, .int (-1), .int x5_269, pm_no, pm_no]) rfl rfl (Or.inl rfl) pm_M281 T_269.2.1 rfl (by decide) (Nat.lt_of_lt_of_le (by decide) T_269.1) rfl rfl (Nat.le_of_ble_eq_true rfl) rfl rfl ?_
              refine rf_c281 (d := d + 0) T_269  (fun r286 => ?_)
              show pm_R _ 282 41 [.ref 41, .int a0, .int a1, .int x3_269, .int x4_269, .int x5_269, g6_269] [.int r286] _ _
              refine pm_R_lo pm_M282 (pc' := 43) (ls' := [.ref 41, .int a0, .int a1, .int x3_269, .int x4_269, .int x5_269, .int r286]) (st' := []) rfl rfl rfl ?_
              refine pm_R_lo pm_M282 (pc' := 45) rfl rfl rfl ?_
              refine pm_R_lo pm_M282 (pc' := 47) rfl rfl rfl ?_
              refine pm_R_icmp pm_M282 (t := 55) (pc' := 50) rfl rfl rfl (fun c294 => ?_) (fun c294 => ?_)
              · skip
                refine pm_R_lo pm_M282 (pc' := 56) rfl rfl rfl ?_
                refine pm_R_lo pm_M282 (pc' := 57) (ls' := [.ref 41, .int a0, .int a1, .int x3_269, .int x4_269, .int x5_269, .int r286]) (st' := []) rfl rfl rfl ?_
                refine pm_R_lo pm_M282 (pc' := 59) rfl rfl rfl ?_
                refine pm_R_lo pm_M282 (pc' := 61) rfl rfl rfl ?_
                refine pm_R_cs pm_M282 (pc' := 64) (ra := [.int x4_269, .int r286]) (rest := []) (ls' := [.int r286, .int x4_269]) rfl rfl (Or.inl rfl) pm_M283 rfl rfl (Nat.le_of_ble_eq_true rfl) rfl rfl ?_
                refine pm_R_lo pm_M283 (pc' := 1) rfl rfl rfl ?_
                refine pm_R_lo pm_M283 (pc' := 2) rfl rfl rfl ?_
                refine pm_R_icmp pm_M283 (t := 9) (pc' := 5) rfl rfl rfl (fun c295 => ?_) (fun c295 => ?_)
                · skip
                  refine pm_R_lo pm_M283 (pc' := 10) rfl rfl rfl ?_
                  refine pm_R_ret pm_M283 (r := some (.int x4_269)) rfl (pm_ret_i _) ?_
                  show pm_R _ 282 64 [.ref 41, .int a0, .int a1, .int x3_269, .int x4_269, .int x5_269, .int r286] [.int x4_269] _ _
                  refine pm_R_lo pm_M282 (pc' := 66) (ls' := [.ref 41, .int a0, .int a1, .int x3_269, .int x4_269, .int x5_269, .int r286]) (st' := []) rfl rfl rfl ?_
                  refine sf_R_iinc pm_M282 (pc' := 69) (ls' := fun z => [.ref 41, .int a0, .int a1, .int x3_269, .int x4_269, .int z, .int r286]) rfl B284 rfl (by decide) (by decide) (by decide) (fun _ => rfl) rfl (fun z296 e297 B298 => ?_)
                  show pm_R _ 282 69 [.ref 41, .int a0, .int a1, .int x3_269, .int x4_269, .int z296, .int r286] [] _ _
                  refine pm_R_br pm_M282 (pc' := 25) rfl rfl ?_
                  exact ih_269 _ (sf_up hN_269 e297 B284 (by decide) (by decide)) h_269 m_269 w_269 x3_269 x4_269 z296 (.int r286) T_269 F_269 W_269 Bx3_269 Bx4_269 (sf_weak B298 (by decide) (by decide)) rfl rfl
                · have B299 : sf_B (-2147483648) 50 r286 := sf_ltL (Int32.not_le.mp c295) (sf_any r286) Bx4_269
                  have B300 : sf_B (-2147483647) 51 x4_269 := sf_ltR (Int32.not_le.mp c295) (sf_any r286) Bx4_269
                  refine pm_R_lo pm_M283 (pc' := 6) rfl rfl rfl ?_
                  refine pm_R_br pm_M283 (pc' := 10) rfl rfl ?_
                  refine pm_R_ret pm_M283 (r := some (.int r286)) rfl (pm_ret_i _) ?_
                  show pm_R _ 282 64 [.ref 41, .int a0, .int a1, .int x3_269, .int x4_269, .int x5_269, .int r286] [.int r286] _ _
                  refine pm_R_lo pm_M282 (pc' := 66) (ls' := [.ref 41, .int a0, .int a1, .int x3_269, .int r286, .int x5_269, .int r286]) (st' := []) rfl rfl rfl ?_
                  refine sf_R_iinc pm_M282 (pc' := 69) (ls' := fun z => [.ref 41, .int a0, .int a1, .int x3_269, .int r286, .int z, .int r286]) rfl B284 rfl (by decide) (by decide) (by decide) (fun _ => rfl) rfl (fun z301 e302 B303 => ?_)
                  show pm_R _ 282 69 [.ref 41, .int a0, .int a1, .int x3_269, .int r286, .int z301, .int r286] [] _ _
                  refine pm_R_br pm_M282 (pc' := 25) rfl rfl ?_
                  exact ih_269 _ (sf_up hN_269 e302 B284 (by decide) (by decide)) h_269 m_269 w_269 x3_269 r286 z301 (.int r286) T_269 F_269 W_269 Bx3_269 (sf_weak B299 (by decide) (by decide)) (sf_weak B303 (by decide) (by decide)) rfl rfl
              · have B304 : sf_B (-2147483648) 50 r286 := sf_ltL (Int32.not_le.mp c294) (sf_any r286) Bx4_269
                have B305 : sf_B (-2147483647) 51 x4_269 := sf_ltR (Int32.not_le.mp c294) (sf_any r286) Bx4_269
                refine pm_R_lo pm_M282 (pc' := 52) rfl rfl rfl ?_
                refine pm_R_br pm_M282 (pc' := 56) rfl rfl ?_
                refine pm_R_lo pm_M282 (pc' := 57) (ls' := [.ref 41, .int a0, .int a1, .int x5_269, .int x4_269, .int x5_269, .int r286]) (st' := []) rfl rfl rfl ?_
                refine pm_R_lo pm_M282 (pc' := 59) rfl rfl rfl ?_
                refine pm_R_lo pm_M282 (pc' := 61) rfl rfl rfl ?_
                refine pm_R_cs pm_M282 (pc' := 64) (ra := [.int x4_269, .int r286]) (rest := []) (ls' := [.int r286, .int x4_269]) rfl rfl (Or.inl rfl) pm_M283 rfl rfl (Nat.le_of_ble_eq_true rfl) rfl rfl ?_
                refine pm_R_lo pm_M283 (pc' := 1) rfl rfl rfl ?_
                refine pm_R_lo pm_M283 (pc' := 2) rfl rfl rfl ?_
                refine pm_R_icmp pm_M283 (t := 9) (pc' := 5) rfl rfl rfl (fun c306 => ?_) (fun c306 => ?_)
                · have B307 : sf_B (-2147483647) 50 x4_269 := sf_leL c306 B305 B304
                  have B308 : sf_B (-2147483647) 50 r286 := sf_leR c306 B305 B304
                  refine pm_R_lo pm_M283 (pc' := 10) rfl rfl rfl ?_
                  refine pm_R_ret pm_M283 (r := some (.int x4_269)) rfl (pm_ret_i _) ?_
                  show pm_R _ 282 64 [.ref 41, .int a0, .int a1, .int x5_269, .int x4_269, .int x5_269, .int r286] [.int x4_269] _ _
                  refine pm_R_lo pm_M282 (pc' := 66) (ls' := [.ref 41, .int a0, .int a1, .int x5_269, .int x4_269, .int x5_269, .int r286]) (st' := []) rfl rfl rfl ?_
                  refine sf_R_iinc pm_M282 (pc' := 69) (ls' := fun z => [.ref 41, .int a0, .int a1, .int x5_269, .int x4_269, .int z, .int r286]) rfl B284 rfl (by decide) (by decide) (by decide) (fun _ => rfl) rfl (fun z309 e310 B311 => ?_)
                  show pm_R _ 282 69 [.ref 41, .int a0, .int a1, .int x5_269, .int x4_269, .int z309, .int r286] [] _ _
                  refine pm_R_br pm_M282 (pc' := 25) rfl rfl ?_
                  exact ih_269 _ (sf_up hN_269 e310 B284 (by decide) (by decide)) h_269 m_269 w_269 x5_269 x4_269 z309 (.int r286) T_269 F_269 W_269 (sf_weak B284 (by decide) (by decide)) (sf_weak B307 (by decide) (by decide)) (sf_weak B311 (by decide) (by decide)) rfl rfl
                · skip
                  refine pm_R_lo pm_M283 (pc' := 6) rfl rfl rfl ?_
                  refine pm_R_br pm_M283 (pc' := 10) rfl rfl ?_
                  refine pm_R_ret pm_M283 (r := some (.int r286)) rfl (pm_ret_i _) ?_
                  show pm_R _ 282 64 [.ref 41, .int a0, .int a1, .int x5_269, .int x4_269, .int x5_269, .int r286] [.int r286] _ _
                  refine pm_R_lo pm_M282 (pc' := 66) (ls' := [.ref 41, .int a0, .int a1, .int x5_269, .int r286, .int x5_269, .int r286]) (st' := []) rfl rfl rfl ?_
                  refine sf_R_iinc pm_M282 (pc' := 69) (ls' := fun z => [.ref 41, .int a0, .int a1, .int x5_269, .int r286, .int z, .int r286]) rfl B284 rfl (by decide) (by decide) (by decide) (fun _ => rfl) rfl (fun z312 e313 B314 => ?_)
                  show pm_R _ 282 69 [.ref 41, .int a0, .int a1, .int x5_269, .int r286, .int z312, .int r286] [] _ _
                  refine pm_R_br pm_M282 (pc' := 25) rfl rfl ?_
                  exact ih_269 _ (sf_up hN_269 e313 B284 (by decide) (by decide)) h_269 m_269 w_269 x5_269 r286 z312 (.int r286) T_269 F_269 W_269 (sf_weak B284 (by decide) (by decide)) (sf_weak B304 (by decide) (by decide)) (sf_weak B314 (by decide) (by decide)) rfl rfl
        exact L_269 _ h36 m39 w27 (-1) 51 0 (pm_no) T37 F41 (rf_W.refl _ _) (sf_weak sf_kn1 (by decide) (by decide)) (sf_weak sf_k51 (by decide) (by decide)) (sf_weak sf_k0 (by decide) (by decide)) rfl rfl
      · have B315 : sf_B 0 0 r24 := sf_eqL (Classical.not_not.mp c34) sf_k0
        refine pm_R_op pm_M275 (pc' := 18) (st' := [.int 0]) rfl rfl rfl ?_
        refine pm_R_ret pm_M275 (r := some (.int 0)) rfl rfl ?_
        show pm_R _ 282 11 [.ref 41, .int a0, .int a1, pm_no, pm_no, pm_no, pm_no] [.int 0] _ _
        refine pm_R_br pm_M282 (pc' := 14) (st' := []) rfl rfl ?_
        refine pm_R_op pm_M282 (pc' := 15) (st' := [.int (-1)]) rfl rfl rfl ?_
        exact pm_R_ret pm_M282 (r := some (.int (-1))) rfl rfl (K (-1) m26 w27 h28 T29 F32 W33 (sf_weak sf_kn1 (by decide) (by decide)))

set_option maxRecDepth 100000 in
set_option maxHeartbeats 4000000 in
/-- SilentTableModel.hears -/
theorem rf_c291 {d : Nat} {m : Nat → Int32} {w : Int64} {h : pm_H} {Q : Option Value → pm_H → Prop} {a0 : Int32} {a1 : Int32} (T : rf_T m w h)  (K : ∀ (r : Int32) (m' : Nat → Int32) (w' : Int64) (h' : pm_H), rf_T m' w' h' → rf_F h h' → rf_W [0, 42, 43, 44] m m' → Q (some (.int r)) h') : pm_R (d + 4) 291 0 [.ref 41, .int a0, .int a1, pm_no, pm_no, pm_no] [] h Q := by
  refine pm_R_lo pm_M291 (pc' := 1) rfl rfl rfl ?_
  refine pm_R_op pm_M291 (pc' := 2) (st' := [.int 0, .ref 41]) rfl rfl rfl ?_
  refine rf_R_put pm_M291 T (pc' := 5) rfl rfl rfl (by decide) rfl rfl sf_k0 rfl rfl (fun h1 m4 em5 T2 F3 => ?_)
  have F6 := (rf_F.refl h).trans F3
  have B7 : sf_B 0 0 (m4 0) := by rw [em5]; exact sf_k0
  have W8 : rf_W [0, 42, 43, 44] m m4 := by rw [em5]; exact (rf_W.refl [0, 42, 43, 44] m).put (by decide)
  refine pm_R_lo pm_M291 (pc' := 6) rfl rfl rfl ?_
  refine pm_R_lo pm_M291 (pc' := 7) rfl rfl rfl ?_
  refine pm_R_cv pm_M291 (pc' := 10) (a := 41) (ra := [.int a0]) (rest := []) (ls' := [.ref 41, .int a0, pm_no, pm_no, pm_no, pm_no]) rfl rfl (Or.inl rfl) pm_M254 T2.2.1 rfl (by decide) (Nat.lt_of_lt_of_le (by decide) T2.1) rfl rfl (Nat.le_of_ble_eq_true rfl) rfl rfl ?_
  refine rf_c254 (d := d + 1) T2  (fun r9 m11 w12 h13 T14 F15 W16 B10 => ?_)
  have F17 := F6.trans F15
  have W18 : rf_W [0, 42, 43, 44] m m11 := W8.trans W16 (by decide)
  show pm_R _ 291 10 [.ref 41, .int a0, .int a1, pm_no, pm_no, pm_no] [.int r9] _ _
  refine pm_R_ifc pm_M291 (t := 16) (pc' := 13) rfl rfl rfl (fun c19 => ?_) (fun c19 => ?_)
  · have B20 : sf_B 1 1 r9 := sf_neL0 c19 sf_k0 B10
    refine pm_R_lo pm_M291 (pc' := 17) rfl rfl rfl ?_
    refine pm_R_ifc pm_M291 (t := 25) (pc' := 20) rfl rfl rfl (fun c21 => ?_) (fun c21 => ?_)
    · skip
      refine pm_R_op pm_M291 (pc' := 26) (st' := [.int 0]) rfl rfl rfl ?_
      refine pm_R_lo pm_M291 (pc' := 27) (ls' := [.ref 41, .int a0, .int a1, .int 0, pm_no, pm_no]) (st' := []) rfl rfl rfl ?_
      refine pm_R_op pm_M291 (pc' := 28) (st' := [.int 0]) rfl rfl rfl ?_
      refine pm_R_lo pm_M291 (pc' := 30) (ls' := [.ref 41, .int a0, .int a1, .int 0, .int 0, pm_no]) (st' := []) rfl rfl rfl ?_
      refine pm_R_op pm_M291 (pc' := 31) (st' := [.int 0]) rfl rfl rfl ?_
      refine pm_R_lo pm_M291 (pc' := 33) (ls' := [.ref 41, .int a0, .int a1, .int 0, .int 0, .int 0]) (st' := []) rfl rfl rfl ?_
      have L_1159 : ∀ (N : Nat) (h_1159 : pm_H) (m_1159 : Nat → Int32) (w_1159 : Int64) (x3_1159 : Int32) (x4_1159 : Int32) (x5_1159 : Int32), rf_T m_1159 w_1159 h_1159 → rf_F h h_1159 → rf_W [] m11 m_1159 → sf_B (-2147483648) 2147483647 x3_1159 → sf_B (-2147483648) 2147483647 x4_1159 → sf_B 0 50 x5_1159 → (50 - x5_1159.toInt).toNat = N → pm_R (d + 4) 291 33 [.ref 41, .int a0, .int a1, .int x3_1159, .int x4_1159, .int x5_1159] [] h_1159 Q := by
        intro N
        induction N using Nat.strongRecOn with
        | ind N ih_1159 =>
          intro h_1159 m_1159 w_1159 x3_1159 x4_1159 x5_1159 T_1159 F_1159 W_1159 Bx3_1159 Bx4_1159 Bx5_1159 hN_1159
          have W1161 : rf_W [0, 42, 43, 44] m m_1159 := W18.trans W_1159 (by decide)
          refine pm_R_lo pm_M291 (pc' := 35) rfl rfl rfl ?_
          refine pm_R_lo pm_M291 (pc' := 36) rfl rfl rfl ?_
          have B1162 : sf_B 0 50 (m_1159 43) := T_1159.2.2.1 43
          refine rf_R_get pm_M291 T_1159 (pc' := 39) (v := .int (m_1159 43)) rfl rfl rfl rfl ?_
          refine pm_R_icmp pm_M291 (t := 126) (pc' := 42) rfl rfl rfl (fun c1163 => ?_) (fun c1163 => ?_)
          · skip
            refine pm_R_lo pm_M291 (pc' := 127) (pm_q291_1 (Nat.le_of_ble_eq_true rfl)) rfl rfl ?_
            refine pm_R_op pm_M291 (pc' := 128) (st' := [.int 1, .int a1]) (pm_q291_1 (Nat.le_of_ble_eq_true rfl)) rfl rfl ?_
            refine pm_R_icmp pm_M291 (t := 135) (pc' := 131) (pm_q291_1 (Nat.le_of_ble_eq_true rfl)) rfl rfl (fun c1164 => ?_) (fun c1164 => ?_)
            · skip
              refine pm_R_lo pm_M291 (pc' := 136) (pm_q291_1 (Nat.le_of_ble_eq_true rfl)) rfl rfl ?_
              refine pm_R_op pm_M291 (pc' := 138) (st' := [.int 10, .int a1]) (pm_q291_1 (Nat.le_of_ble_eq_true rfl)) rfl rfl ?_
              refine pm_R_op pm_M291 (pc' := 140) (st' := [.int 9, .int 10, .int a1]) (pm_q291_1 (Nat.le_of_ble_eq_true rfl)) rfl rfl ?_
              refine pm_R_lo pm_M291 (pc' := 141) (pm_q291_1 (Nat.le_of_ble_eq_true rfl)) rfl rfl ?_
              have B1165 : sf_B 0 6 (m_1159 42) := T_1159.2.2.1 42
              refine rf_R_get pm_M291 T_1159 (pc' := 144) (v := .int (m_1159 42)) (pm_q291_1 (Nat.le_of_ble_eq_true rfl)) rfl rfl rfl ?_
              refine sf_R_iadd pm_M291 (pc' := 145) (pm_q291_1 (Nat.le_of_ble_eq_true rfl)) rfl sf_k9 B1165 (by decide) (by decide) (fun z1166 e1167 B1168 => ?_)
              refine pm_R_cs pm_M291 (pc' := 148) (ra := [.int z1166, .int 10, .int a1]) (rest := []) (ls' := [.int a1, .int 10, .int z1166]) (pm_q291_1 (Nat.le_of_ble_eq_true rfl)) rfl (Or.inl rfl) pm_M174 rfl rfl (Nat.le_of_ble_eq_true rfl) rfl rfl ?_
              refine pm_R_lo pm_M174 (pc' := 1) rfl rfl rfl ?_
              refine pm_R_lo pm_M174 (pc' := 2) rfl rfl rfl ?_
              refine pm_R_icmp pm_M174 (t := 14) (pc' := 5) rfl rfl rfl (fun c1169 => ?_) (fun c1169 => ?_)
              · have B1170 : sf_B (-2147483648) 9 a1 := sf_ltL c1169 (sf_any a1) sf_k10
                refine pm_R_op pm_M174 (pc' := 15) (st' := [.int 0]) rfl rfl rfl ?_
                refine pm_R_ret pm_M174 (r := some (.int 0)) rfl rfl ?_
                show pm_R _ 291 148 [.ref 41, .int a0, .int a1, .int x3_1159, .int x4_1159, .int x5_1159] [.int 0] _ _
                refine pm_R_br pm_M291 (pc' := 156) (st' := []) (pm_q291_1 (Nat.le_of_ble_eq_true rfl)) rfl ?_
                refine pm_R_op pm_M291 (pc' := 158) (st' := [.int (-2)]) (pm_q291_1 (Nat.le_of_ble_eq_true rfl)) rfl rfl ?_
                exact pm_R_ret pm_M291 (r := some (.int (-2))) (pm_q291_1 (Nat.le_of_ble_eq_true rfl)) rfl (K (-2) m_1159 w_1159 h_1159 T_1159 F_1159 W1161)
              · have B1171 : sf_B 10 2147483647 a1 := sf_leR (Int32.not_lt.mp c1169) sf_k10 (sf_any a1)
                refine pm_R_lo pm_M174 (pc' := 6) rfl rfl rfl ?_
                refine pm_R_lo pm_M174 (pc' := 7) rfl rfl rfl ?_
                refine pm_R_icmp pm_M174 (t := 14) (pc' := 10) rfl rfl rfl (fun c1172 => ?_) (fun c1172 => ?_)
                · skip
                  refine pm_R_op pm_M174 (pc' := 15) (st' := [.int 0]) rfl rfl rfl ?_
                  refine pm_R_ret pm_M174 (r := some (.int 0)) rfl rfl ?_
                  show pm_R _ 291 148 [.ref 41, .int a0, .int a1, .int x3_1159, .int x4_1159, .int x5_1159] [.int 0] _ _
                  refine pm_R_br pm_M291 (pc' := 156) (st' := []) (pm_q291_1 (Nat.le_of_ble_eq_true rfl)) rfl ?_
                  refine pm_R_op pm_M291 (pc' := 158) (st' := [.int (-2)]) (pm_q291_1 (Nat.le_of_ble_eq_true rfl)) rfl rfl ?_
                  exact pm_R_ret pm_M291 (r := some (.int (-2))) (pm_q291_1 (Nat.le_of_ble_eq_true rfl)) rfl (K (-2) m_1159 w_1159 h_1159 T_1159 F_1159 W1161)
                · have B1173 : sf_B 10 15 a1 := sf_leL (Int32.not_lt.mp c1172) B1171 B1168
                  have B1174 : sf_B 10 15 z1166 := sf_leR (Int32.not_lt.mp c1172) B1171 B1168
                  refine pm_R_op pm_M174 (pc' := 11) (st' := [.int 1]) rfl rfl rfl ?_
                  refine pm_R_br pm_M174 (pc' := 15) rfl rfl ?_
                  refine pm_R_ret pm_M174 (r := some (.int 1)) rfl rfl ?_
                  show pm_R _ 291 148 [.ref 41, .int a0, .int a1, .int x3_1159, .int x4_1159, .int x5_1159] [.int 1] _ _
                  refine pm_R_br pm_M291 (pc' := 151) (st' := []) (pm_q291_1 (Nat.le_of_ble_eq_true rfl)) rfl ?_
                  refine pm_R_lo pm_M291 (pc' := 153) (pm_q291_1 (Nat.le_of_ble_eq_true rfl)) rfl rfl ?_
                  refine pm_R_br pm_M291 (pc' := 158) (pm_q291_1 (Nat.le_of_ble_eq_true rfl)) rfl ?_
                  exact pm_R_ret pm_M291 (r := some (.int x4_1159)) (pm_q291_1 (Nat.le_of_ble_eq_true rfl)) (pm_ret_i _) (K x4_1159 m_1159 w_1159 h_1159 T_1159 F_1159 W1161)
            · have B1175 : sf_B 1 1 a1 := sf_eqL (Classical.not_not.mp c1164) sf_k1
              refine pm_R_lo pm_M291 (pc' := 132) (pm_q291_1 (Nat.le_of_ble_eq_true rfl)) rfl rfl ?_
              refine pm_R_br pm_M291 (pc' := 158) (pm_q291_1 (Nat.le_of_ble_eq_true rfl)) rfl ?_
              exact pm_R_ret pm_M291 (r := some (.int x3_1159)) (pm_q291_1 (Nat.le_of_ble_eq_true rfl)) (pm_ret_i _) (K x3_1159 m_1159 w_1159 h_1159 T_1159 F_1159 W1161)
          · have B1176 : sf_B 0 49 x5_1159 := sf_ltL (Int32.not_le.mp c1163) Bx5_1159 B1162
            have B1177 : sf_B 1 50 (m_1159 43) := sf_ltR (Int32.not_le.mp c1163) Bx5_1159 B1162
            refine pm_R_lo pm_M291 (pc' := 43) rfl rfl rfl ?_
            refine pm_R_lo pm_M291 (pc' := 44) rfl rfl rfl ?_
            refine pm_R_lo pm_M291 (pc' := 46) rfl rfl rfl ?_
            refine pm_R_cv pm_M291 (pc' := 49) (a := 41) (ra := [.int x5_1159]) (rest := [.int x3_1159]) (ls' := [.ref 41, .int x5_1159]) rfl rfl (Or.inl rfl) pm_M256 T_1159.2.1 rfl (by decide) (Nat.lt_of_lt_of_le (by decide) T_1159.1) rfl rfl (Nat.le_of_ble_eq_true rfl) rfl rfl ?_
            refine pm_R_lo pm_M256 (pc' := 1) rfl rfl rfl ?_
            refine pm_R_lo pm_M256 (pc' := 2) rfl rfl rfl ?_
            refine pm_R_op pm_M256 (pc' := 3) (st' := [.int 0, .int x5_1159, .ref 41]) rfl rfl rfl ?_
            refine pm_R_cv pm_M256 (pc' := 6) (a := 41) (ra := [.int 0, .int x5_1159]) (rest := []) (ls' := [.ref 41, .int x5_1159, .int 0]) rfl rfl (Or.inl rfl) pm_M255 T_1159.2.1 rfl (by decide) (Nat.lt_of_lt_of_le (by decide) T_1159.1) rfl rfl (Nat.le_of_ble_eq_true rfl) rfl rfl ?_
            refine pm_R_lo pm_M255 (pc' := 1) rfl rfl rfl ?_
            refine rf_R_get pm_M255 T_1159 (pc' := 4) (v := .ref 49) rfl rfl rfl rfl ?_
            refine pm_R_op pm_M255 (pc' := 7) (st' := [.int 152, .ref 49]) rfl rfl rfl ?_
            refine pm_R_lo pm_M255 (pc' := 8) rfl rfl rfl ?_
            have B1178 : sf_B 0 1 (m_1159 44) := T_1159.2.2.1 44
            refine rf_R_get pm_M255 T_1159 (pc' := 11) (v := .int (m_1159 44)) rfl rfl rfl rfl ?_
            refine sf_R_imul pm_M255 (pc' := 12) rfl rfl sf_k152 B1178 (by decide) (by decide) (by decide) (fun z1179 e1180 B1181 => ?_)
            refine pm_R_op pm_M255 (pc' := 13) (st' := [.int 2, .int z1179, .ref 49]) rfl rfl rfl ?_
            refine sf_R_iadd pm_M255 (pc' := 14) rfl rfl B1181 sf_k2 (by decide) (by decide) (fun z1182 e1183 B1184 => ?_)
            refine pm_R_op pm_M255 (pc' := 15) (st' := [.int 3, .int z1182, .ref 49]) rfl rfl rfl ?_
            refine pm_R_lo pm_M255 (pc' := 16) rfl rfl rfl ?_
            refine sf_R_imul pm_M255 (pc' := 17) rfl rfl sf_k3 B1176 (by decide) (by decide) (by decide) (fun z1185 e1186 B1187 => ?_)
            refine sf_R_iadd pm_M255 (pc' := 18) rfl rfl B1184 B1187 (by decide) (by decide) (fun z1188 e1189 B1190 => ?_)
            refine pm_R_lo pm_M255 (pc' := 19) rfl rfl rfl ?_
            refine sf_R_iadd pm_M255 (pc' := 20) rfl rfl B1190 sf_k0 (by decide) (by decide) (fun z1191 e1192 B1193 => ?_)
            obtain ⟨f1194, e1195, b1196⟩ := T_1159.2.2.2.1 49 (by decide) (by decide)
            refine rf_R_ild pm_M255 T_1159 (pc' := 21) rfl e1195 (by decide) (sf_in B1193 (by decide) (by decide)) rfl (fun z1197 ez1198 => ?_)
            have e1199 : (z1191).toInt = 152 * ((m_1159 44)).toInt + 3 * (x5_1159).toInt + 2 := by
              have q0 := e1180
              have q1 := e1183
              have q2 := e1186
              have q3 := e1189
              have q4 := e1192
              simp only [(show (0 : Int32).toInt = 0 from rfl), (show (2 : Int32).toInt = 2 from rfl), (show (3 : Int32).toInt = 3 from rfl), (show (152 : Int32).toInt = 152 from rfl)] at q0 q1 q2 q3 q4
              omega
            have B1200 : sf_B 0 2 z1197 := ez1198 ▸ rf_p49s b1196 e1199 B1178 B1176 (by decide) (by decide) (by decide)
            refine pm_R_ret pm_M255 (r := some (.int z1197)) rfl (pm_ret_i _) ?_
            show pm_R _ 256 6 [.ref 41, .int x5_1159] [.int z1197] _ _
            refine pm_R_op pm_M256 (pc' := 7) (st' := [.int 2, .int z1197]) rfl rfl rfl ?_
            refine pm_R_icmp pm_M256 (t := 14) (pc' := 10) rfl rfl rfl (fun c1201 => ?_) (fun c1201 => ?_)
            · have B1202 : sf_B 0 1 z1197 := sf_neH0 c1201 sf_k2 B1200
              refine pm_R_op pm_M256 (pc' := 15) (st' := [.int 0]) rfl rfl rfl ?_
              refine pm_R_ret pm_M256 (r := some (.int 0)) rfl rfl ?_
              show pm_R _ 291 49 [.ref 41, .int a0, .int a1, .int x3_1159, .int x4_1159, .int x5_1159] [.int 0, .int x3_1159] _ _
              refine pm_R_br pm_M291 (pc' := 78) (st' := [.int x3_1159]) rfl rfl ?_
              refine pm_R_op pm_M291 (pc' := 79) (st' := [.int 0, .int x3_1159]) rfl rfl rfl ?_
              refine sf_R_iadd pm_M291 (pc' := 80) rfl rfl Bx3_1159 sf_k0 (by decide) (by decide) (fun z1203 e1204 B1205 => ?_)
              refine pm_R_lo pm_M291 (pc' := 81) (ls' := [.ref 41, .int a0, .int a1, .int z1203, .int x4_1159, .int x5_1159]) (st' := []) rfl rfl rfl ?_
              refine pm_R_lo pm_M291 (pc' := 83) rfl rfl rfl ?_
              refine pm_R_lo pm_M291 (pc' := 84) rfl rfl rfl ?_
              refine pm_R_op pm_M291 (pc' := 86) (st' := [.int 10, .int a1, .int x4_1159]) rfl rfl rfl ?_
              refine pm_R_op pm_M291 (pc' := 88) (st' := [.int 15, .int 10, .int a1, .int x4_1159]) rfl rfl rfl ?_
              refine pm_R_cs pm_M291 (pc' := 91) (ra := [.int 15, .int 10, .int a1]) (rest := [.int x4_1159]) (ls' := [.int a1, .int 10, .int 15]) rfl rfl (Or.inl rfl) pm_M174 rfl rfl (Nat.le_of_ble_eq_true rfl) rfl rfl ?_
              refine pm_R_lo pm_M174 (pc' := 1) rfl rfl rfl ?_
              refine pm_R_lo pm_M174 (pc' := 2) rfl rfl rfl ?_
              refine pm_R_icmp pm_M174 (t := 14) (pc' := 5) rfl rfl rfl (fun c1206 => ?_) (fun c1206 => ?_)
              · have B1207 : sf_B (-2147483648) 9 a1 := sf_ltL c1206 (sf_any a1) sf_k10
                refine pm_R_op pm_M174 (pc' := 15) (st' := [.int 0]) rfl rfl rfl ?_
                refine pm_R_ret pm_M174 (r := some (.int 0)) rfl rfl ?_
                show pm_R _ 291 91 [.ref 41, .int a0, .int a1, .int z1203, .int x4_1159, .int x5_1159] [.int 0, .int x4_1159] _ _
                refine pm_R_br pm_M291 (pc' := 116) (st' := [.int x4_1159]) rfl rfl ?_
                refine pm_R_op pm_M291 (pc' := 117) (st' := [.int 0, .int x4_1159]) (pm_q291_1 (Nat.le_of_ble_eq_true rfl)) rfl rfl ?_
                refine sf_R_iadd pm_M291 (pc' := 118) (pm_q291_1 (Nat.le_of_ble_eq_true rfl)) rfl Bx4_1159 sf_k0 (by decide) (by decide) (fun z1208 e1209 B1210 => ?_)
                refine pm_R_lo pm_M291 (pc' := 120) (ls' := [.ref 41, .int a0, .int a1, .int z1203, .int z1208, .int x5_1159]) (st' := []) (pm_q291_1 (Nat.le_of_ble_eq_true rfl)) rfl rfl ?_
                refine sf_R_iinc pm_M291 (pc' := 123) (ls' := fun z => [.ref 41, .int a0, .int a1, .int z1203, .int z1208, .int z]) (pm_q291_1 (Nat.le_of_ble_eq_true rfl)) B1176 rfl (by decide) (by decide) (by decide) (fun _ => rfl) rfl (fun z1211 e1212 B1213 => ?_)
                show pm_R _ 291 123 [.ref 41, .int a0, .int a1, .int z1203, .int z1208, .int z1211] [] _ _
                refine pm_R_br pm_M291 (pc' := 33) (pm_q291_1 (Nat.le_of_ble_eq_true rfl)) rfl ?_
                exact ih_1159 _ (sf_up hN_1159 e1212 B1176 (by decide) (by decide)) h_1159 m_1159 w_1159 z1203 z1208 z1211 T_1159 F_1159 W_1159 B1205 B1210 (sf_weak B1213 (by decide) (by decide)) rfl
              · have B1214 : sf_B 10 2147483647 a1 := sf_leR (Int32.not_lt.mp c1206) sf_k10 (sf_any a1)
                refine pm_R_lo pm_M174 (pc' := 6) rfl rfl rfl ?_
                refine pm_R_lo pm_M174 (pc' := 7) rfl rfl rfl ?_
                refine pm_R_icmp pm_M174 (t := 14) (pc' := 10) rfl rfl rfl (fun c1215 => ?_) (fun c1215 => ?_)
                · have B1216 : sf_B 16 2147483647 a1 := sf_ltR c1215 sf_k15 B1214
                  refine pm_R_op pm_M174 (pc' := 15) (st' := [.int 0]) rfl rfl rfl ?_
                  refine pm_R_ret pm_M174 (r := some (.int 0)) rfl rfl ?_
                  show pm_R _ 291 91 [.ref 41, .int a0, .int a1, .int z1203, .int x4_1159, .int x5_1159] [.int 0, .int x4_1159] _ _
                  refine pm_R_br pm_M291 (pc' := 116) (st' := [.int x4_1159]) rfl rfl ?_
                  refine pm_R_op pm_M291 (pc' := 117) (st' := [.int 0, .int x4_1159]) (pm_q291_1 (Nat.le_of_ble_eq_true rfl)) rfl rfl ?_
                  refine sf_R_iadd pm_M291 (pc' := 118) (pm_q291_1 (Nat.le_of_ble_eq_true rfl)) rfl Bx4_1159 sf_k0 (by decide) (by decide) (fun z1217 e1218 B1219 => ?_)
                  refine pm_R_lo pm_M291 (pc' := 120) (ls' := [.ref 41, .int a0, .int a1, .int z1203, .int z1217, .int x5_1159]) (st' := []) (pm_q291_1 (Nat.le_of_ble_eq_true rfl)) rfl rfl ?_
                  refine sf_R_iinc pm_M291 (pc' := 123) (ls' := fun z => [.ref 41, .int a0, .int a1, .int z1203, .int z1217, .int z]) (pm_q291_1 (Nat.le_of_ble_eq_true rfl)) B1176 rfl (by decide) (by decide) (by decide) (fun _ => rfl) rfl (fun z1220 e1221 B1222 => ?_)
                  show pm_R _ 291 123 [.ref 41, .int a0, .int a1, .int z1203, .int z1217, .int z1220] [] _ _
                  refine pm_R_br pm_M291 (pc' := 33) (pm_q291_1 (Nat.le_of_ble_eq_true rfl)) rfl ?_
                  exact ih_1159 _ (sf_up hN_1159 e1221 B1176 (by decide) (by decide)) h_1159 m_1159 w_1159 z1203 z1217 z1220 T_1159 F_1159 W_1159 B1205 B1219 (sf_weak B1222 (by decide) (by decide)) rfl
                · have B1223 : sf_B 10 15 a1 := sf_leL (Int32.not_lt.mp c1215) B1214 sf_k15
                  refine pm_R_op pm_M174 (pc' := 11) (st' := [.int 1]) rfl rfl rfl ?_
                  refine pm_R_br pm_M174 (pc' := 15) rfl rfl ?_
                  refine pm_R_ret pm_M174 (r := some (.int 1)) rfl rfl ?_
                  show pm_R _ 291 91 [.ref 41, .int a0, .int a1, .int z1203, .int x4_1159, .int x5_1159] [.int 1, .int x4_1159] _ _
                  refine pm_R_br pm_M291 (pc' := 94) (st' := [.int x4_1159]) rfl rfl ?_
                  refine pm_R_lo pm_M291 (pc' := 95) rfl rfl rfl ?_
                  refine rf_R_get pm_M291 T_1159 (pc' := 98) (v := .ref 68) rfl rfl rfl rfl ?_
                  refine pm_R_lo pm_M291 (pc' := 100) rfl rfl rfl ?_
                  obtain ⟨f1224, e1225⟩ := T_1159.2.2.2.1 68 (by decide) (by decide)
                  refine rf_R_ild pm_M291 T_1159 (pc' := 101) rfl e1225 (by decide) (sf_in B1176 (by decide) (by decide)) rfl (fun z1227 ez1228 => ?_)
                  refine sf_R_lany pm_M291 (pc' := 102) (st := [.int x4_1159]) rfl rfl rfl (fun z1229 => ?_)
                  refine pm_R_lo pm_M291 (pc' := 103) rfl rfl rfl ?_
                  refine pm_R_op pm_M291 (pc' := 105) (st' := [.int 10, .int a1, .long z1229, .int x4_1159]) rfl rfl rfl ?_
                  refine sf_R_isub pm_M291 (pc' := 106) (pm_q291_1 (Nat.le_of_ble_eq_true rfl)) rfl B1223 sf_k10 (by decide) (by decide) (fun z1230 e1231 B1232 => ?_)
                  refine pm_R_cs pm_M291 (pc' := 109) (ra := [.int z1230, .long z1229]) (rest := [.int x4_1159]) (ls' := [.long z1229, pm_no, .int z1230]) (pm_q291_1 (Nat.le_of_ble_eq_true rfl)) rfl (Or.inl rfl) pm_M206 rfl rfl (Nat.le_of_ble_eq_true rfl) rfl rfl ?_
                  refine pm_R_lo pm_M206 (pc' := 1) rfl rfl rfl ?_
                  refine pm_R_lo pm_M206 (pc' := 2) rfl rfl rfl ?_
                  refine sf_R_lany pm_M206 (pc' := 3) (st := []) rfl rfl rfl (fun z1233 => ?_)
                  refine pm_R_op pm_M206 (pc' := 4) (st' := [.long 1, .long z1233]) rfl rfl rfl ?_
                  refine sf_R_lany pm_M206 (pc' := 5) (st := []) rfl rfl rfl (fun z1234 => ?_)
                  refine pm_R_op pm_M206 (pc' := 6) (st' := [.long 1, .long z1234]) rfl rfl rfl ?_
                  refine sf_R_lcmp pm_M206 (pc' := 7) rfl rfl (fun z1235 e1236 => ?_)
                  refine pm_R_ifc pm_M206 (t := 14) (pc' := 10) rfl rfl rfl (fun c1237 => ?_) (fun c1237 => ?_)
                  · have k1238 := sf_lneC e1236 c1237
                    refine pm_R_op pm_M206 (pc' := 15) (st' := [.int 0]) rfl rfl rfl ?_
                    refine pm_R_ret pm_M206 (r := some (.int 0)) rfl rfl ?_
                    show pm_R _ 291 109 [.ref 41, .int a0, .int a1, .int z1203, .int x4_1159, .int x5_1159] [.int 0, .int x4_1159] _ _
                    refine pm_R_br pm_M291 (pc' := 116) (st' := [.int x4_1159]) (pm_q291_1 (Nat.le_of_ble_eq_true rfl)) rfl ?_
                    refine pm_R_op pm_M291 (pc' := 117) (st' := [.int 0, .int x4_1159]) (pm_q291_1 (Nat.le_of_ble_eq_true rfl)) rfl rfl ?_
                    refine sf_R_iadd pm_M291 (pc' := 118) (pm_q291_1 (Nat.le_of_ble_eq_true rfl)) rfl Bx4_1159 sf_k0 (by decide) (by decide) (fun z1239 e1240 B1241 => ?_)
                    refine pm_R_lo pm_M291 (pc' := 120) (ls' := [.ref 41, .int a0, .int a1, .int z1203, .int z1239, .int x5_1159]) (st' := []) (pm_q291_1 (Nat.le_of_ble_eq_true rfl)) rfl rfl ?_
                    refine sf_R_iinc pm_M291 (pc' := 123) (ls' := fun z => [.ref 41, .int a0, .int a1, .int z1203, .int z1239, .int z]) (pm_q291_1 (Nat.le_of_ble_eq_true rfl)) B1176 rfl (by decide) (by decide) (by decide) (fun _ => rfl) rfl (fun z1242 e1243 B1244 => ?_)
                    show pm_R _ 291 123 [.ref 41, .int a0, .int a1, .int z1203, .int z1239, .int z1242] [] _ _
                    refine pm_R_br pm_M291 (pc' := 33) (pm_q291_1 (Nat.le_of_ble_eq_true rfl)) rfl ?_
                    exact ih_1159 _ (sf_up hN_1159 e1243 B1176 (by decide) (by decide)) h_1159 m_1159 w_1159 z1203 z1239 z1242 T_1159 F_1159 W_1159 B1205 B1241 (sf_weak B1244 (by decide) (by decide)) rfl
                  · have B1245 : sf_B 0 0 z1235 := sf_eqL (Classical.not_not.mp c1237) sf_k0
                    refine pm_R_op pm_M206 (pc' := 11) (st' := [.int 1]) rfl rfl rfl ?_
                    refine pm_R_br pm_M206 (pc' := 15) rfl rfl ?_
                    refine pm_R_ret pm_M206 (r := some (.int 1)) rfl rfl ?_
                    show pm_R _ 291 109 [.ref 41, .int a0, .int a1, .int z1203, .int x4_1159, .int x5_1159] [.int 1, .int x4_1159] _ _
                    refine pm_R_br pm_M291 (pc' := 112) (st' := [.int x4_1159]) (pm_q291_1 (Nat.le_of_ble_eq_true rfl)) rfl ?_
                    refine pm_R_op pm_M291 (pc' := 113) (st' := [.int 1, .int x4_1159]) (pm_q291_1 (Nat.le_of_ble_eq_true rfl)) rfl rfl ?_
                    refine pm_R_br pm_M291 (pc' := 117) (pm_q291_1 (Nat.le_of_ble_eq_true rfl)) rfl ?_
                    refine sf_R_iany pm_M291 (pc' := 118) (st := []) (pm_q291_1 (Nat.le_of_ble_eq_true rfl)) rfl rfl (fun z1249 => ?_)
                    refine pm_R_lo pm_M291 (pc' := 120) (ls' := [.ref 41, .int a0, .int a1, .int z1203, .int z1249, .int x5_1159]) (st' := []) (pm_q291_1 (Nat.le_of_ble_eq_true rfl)) rfl rfl ?_
                    refine sf_R_iinc pm_M291 (pc' := 123) (ls' := fun z => [.ref 41, .int a0, .int a1, .int z1203, .int z1249, .int z]) (pm_q291_1 (Nat.le_of_ble_eq_true rfl)) B1176 rfl (by decide) (by decide) (by decide) (fun _ => rfl) rfl (fun z1250 e1251 B1252 => ?_)
                    show pm_R _ 291 123 [.ref 41, .int a0, .int a1, .int z1203, .int z1249, .int z1250] [] _ _
                    refine pm_R_br pm_M291 (pc' := 33) (pm_q291_1 (Nat.le_of_ble_eq_true rfl)) rfl ?_
                    exact ih_1159 _ (sf_up hN_1159 e1251 B1176 (by decide) (by decide)) h_1159 m_1159 w_1159 z1203 z1249 z1250 T_1159 F_1159 W_1159 B1205 (sf_any z1249) (sf_weak B1252 (by decide) (by decide)) rfl
            · have B1253 : sf_B 2 2 z1197 := sf_eqL (Classical.not_not.mp c1201) sf_k2
              refine pm_R_op pm_M256 (pc' := 11) (st' := [.int 1]) rfl rfl rfl ?_
              refine pm_R_br pm_M256 (pc' := 15) rfl rfl ?_
              refine pm_R_ret pm_M256 (r := some (.int 1)) rfl rfl ?_
              show pm_R _ 291 49 [.ref 41, .int a0, .int a1, .int x3_1159, .int x4_1159, .int x5_1159] [.int 1, .int x3_1159] _ _
              refine pm_R_br pm_M291 (pc' := 52) (st' := [.int x3_1159]) rfl rfl ?_
              refine pm_R_lo pm_M291 (pc' := 53) rfl rfl rfl ?_
              refine rf_R_get pm_M291 T_1159 (pc' := 56) (v := .ref 67) rfl rfl rfl rfl ?_
              refine pm_R_op pm_M291 (pc' := 58) (st' := [.int 6, .ref 67, .int x3_1159]) rfl rfl rfl ?_
              refine pm_R_lo pm_M291 (pc' := 60) rfl rfl rfl ?_
              refine sf_R_imul pm_M291 (pc' := 61) rfl rfl sf_k6 B1176 (by decide) (by decide) (by decide) (fun z1254 e1255 B1256 => ?_)
              refine pm_R_lo pm_M291 (pc' := 62) rfl rfl rfl ?_
              refine pm_R_lo pm_M291 (pc' := 64) rfl rfl rfl ?_
              refine pm_R_op pm_M291 (pc' := 65) (st' := [.int 1, .int x5_1159, .ref 41, .int z1254, .ref 67, .int x3_1159]) rfl rfl rfl ?_
              refine pm_R_cv pm_M291 (pc' := 68) (a := 41) (ra := [.int 1, .int x5_1159]) (rest := [.int z1254, .ref 67, .int x3_1159]) (ls' := [.ref 41, .int x5_1159, .int 1]) rfl rfl (Or.inl rfl) pm_M255 T_1159.2.1 rfl (by decide) (Nat.lt_of_lt_of_le (by decide) T_1159.1) rfl rfl (Nat.le_of_ble_eq_true rfl) rfl rfl ?_
              refine pm_R_lo pm_M255 (pc' := 1) rfl rfl rfl ?_
              refine rf_R_get pm_M255 T_1159 (pc' := 4) (v := .ref 49) rfl rfl rfl rfl ?_
              refine pm_R_op pm_M255 (pc' := 7) (st' := [.int 152, .ref 49]) rfl rfl rfl ?_
              refine pm_R_lo pm_M255 (pc' := 8) rfl rfl rfl ?_
              refine rf_R_get pm_M255 T_1159 (pc' := 11) (v := .int (m_1159 44)) rfl rfl rfl rfl ?_
              refine sf_R_imul pm_M255 (pc' := 12) rfl rfl sf_k152 B1178 (by decide) (by decide) (by decide) (fun z1257 e1258 B1259 => ?_)
              refine pm_R_op pm_M255 (pc' := 13) (st' := [.int 2, .int z1257, .ref 49]) rfl rfl rfl ?_
              refine sf_R_iadd pm_M255 (pc' := 14) rfl rfl B1259 sf_k2 (by decide) (by decide) (fun z1260 e1261 B1262 => ?_)
              refine pm_R_op pm_M255 (pc' := 15) (st' := [.int 3, .int z1260, .ref 49]) rfl rfl rfl ?_
              refine pm_R_lo pm_M255 (pc' := 16) rfl rfl rfl ?_
              refine sf_R_imul pm_M255 (pc' := 17) rfl rfl sf_k3 B1176 (by decide) (by decide) (by decide) (fun z1263 e1264 B1265 => ?_)
              refine sf_R_iadd pm_M255 (pc' := 18) rfl rfl B1262 B1265 (by decide) (by decide) (fun z1266 e1267 B1268 => ?_)
              refine pm_R_lo pm_M255 (pc' := 19) rfl rfl rfl ?_
              refine sf_R_iadd pm_M255 (pc' := 20) rfl rfl B1268 sf_k1 (by decide) (by decide) (fun z1269 e1270 B1271 => ?_)
              refine rf_R_ild pm_M255 T_1159 (pc' := 21) rfl e1195 (by decide) (sf_in B1271 (by decide) (by decide)) rfl (fun z1272 ez1273 => ?_)
              have e1274 : (z1269).toInt = 152 * ((m_1159 44)).toInt + 3 * (x5_1159).toInt + 3 := by
                have q0 := e1258
                have q1 := e1261
                have q2 := e1264
                have q3 := e1267
                have q4 := e1270
                simp only [(show (1 : Int32).toInt = 1 from rfl), (show (2 : Int32).toInt = 2 from rfl), (show (3 : Int32).toInt = 3 from rfl), (show (152 : Int32).toInt = 152 from rfl)] at q0 q1 q2 q3 q4
                omega
              have B1275 : sf_B 0 5 z1272 := ez1273 ▸ rf_p49w b1196 e1274 B1178 B1176 (by decide) (by decide) (by decide)
              refine pm_R_ret pm_M255 (r := some (.int z1272)) rfl (pm_ret_i _) ?_
              show pm_R _ 291 68 [.ref 41, .int a0, .int a1, .int x3_1159, .int x4_1159, .int x5_1159] [.int z1272, .int z1254, .ref 67, .int x3_1159] _ _
              refine sf_R_iadd pm_M291 (pc' := 69) rfl rfl B1256 B1275 (by decide) (by decide) (fun z1276 e1277 B1278 => ?_)
              obtain ⟨f1279, e1280⟩ := T_1159.2.2.2.1 67 (by decide) (by decide)
              refine rf_R_ild pm_M291 T_1159 (pc' := 70) rfl e1280 (by decide) (sf_in B1278 (by decide) (by decide)) rfl (fun z1282 ez1283 => ?_)
              refine pm_R_op pm_M291 (pc' := 71) (st' := [.int (-1), .int z1282, .int x3_1159]) rfl rfl rfl ?_
              refine pm_R_icmp pm_M291 (t := 78) (pc' := 74) rfl rfl rfl (fun c1284 => ?_) (fun c1284 => ?_)
              · skip
                refine pm_R_op pm_M291 (pc' := 79) (st' := [.int 0, .int x3_1159]) rfl rfl rfl ?_
                refine sf_R_iadd pm_M291 (pc' := 80) rfl rfl Bx3_1159 sf_k0 (by decide) (by decide) (fun z1285 e1286 B1287 => ?_)
                refine pm_R_lo pm_M291 (pc' := 81) (ls' := [.ref 41, .int a0, .int a1, .int z1285, .int x4_1159, .int x5_1159]) (st' := []) rfl rfl rfl ?_
                refine pm_R_lo pm_M291 (pc' := 83) rfl rfl rfl ?_
                refine pm_R_lo pm_M291 (pc' := 84) rfl rfl rfl ?_
                refine pm_R_op pm_M291 (pc' := 86) (st' := [.int 10, .int a1, .int x4_1159]) rfl rfl rfl ?_
                refine pm_R_op pm_M291 (pc' := 88) (st' := [.int 15, .int 10, .int a1, .int x4_1159]) rfl rfl rfl ?_
                refine pm_R_cs pm_M291 (pc' := 91) (ra := [.int 15, .int 10, .int a1]) (rest := [.int x4_1159]) (ls' := [.int a1, .int 10, .int 15]) rfl rfl (Or.inl rfl) pm_M174 rfl rfl (Nat.le_of_ble_eq_true rfl) rfl rfl ?_
                refine pm_R_lo pm_M174 (pc' := 1) rfl rfl rfl ?_
                refine pm_R_lo pm_M174 (pc' := 2) rfl rfl rfl ?_
                refine pm_R_icmp pm_M174 (t := 14) (pc' := 5) rfl rfl rfl (fun c1288 => ?_) (fun c1288 => ?_)
                · have B1289 : sf_B (-2147483648) 9 a1 := sf_ltL c1288 (sf_any a1) sf_k10
                  refine pm_R_op pm_M174 (pc' := 15) (st' := [.int 0]) rfl rfl rfl ?_
                  refine pm_R_ret pm_M174 (r := some (.int 0)) rfl rfl ?_
                  show pm_R _ 291 91 [.ref 41, .int a0, .int a1, .int z1285, .int x4_1159, .int x5_1159] [.int 0, .int x4_1159] _ _
                  refine pm_R_br pm_M291 (pc' := 116) (st' := [.int x4_1159]) rfl rfl ?_
                  refine pm_R_op pm_M291 (pc' := 117) (st' := [.int 0, .int x4_1159]) (pm_q291_1 (Nat.le_of_ble_eq_true rfl)) rfl rfl ?_
                  refine sf_R_iadd pm_M291 (pc' := 118) (pm_q291_1 (Nat.le_of_ble_eq_true rfl)) rfl Bx4_1159 sf_k0 (by decide) (by decide) (fun z1290 e1291 B1292 => ?_)
                  refine pm_R_lo pm_M291 (pc' := 120) (ls' := [.ref 41, .int a0, .int a1, .int z1285, .int z1290, .int x5_1159]) (st' := []) (pm_q291_1 (Nat.le_of_ble_eq_true rfl)) rfl rfl ?_
                  refine sf_R_iinc pm_M291 (pc' := 123) (ls' := fun z => [.ref 41, .int a0, .int a1, .int z1285, .int z1290, .int z]) (pm_q291_1 (Nat.le_of_ble_eq_true rfl)) B1176 rfl (by decide) (by decide) (by decide) (fun _ => rfl) rfl (fun z1293 e1294 B1295 => ?_)
                  show pm_R _ 291 123 [.ref 41, .int a0, .int a1, .int z1285, .int z1290, .int z1293] [] _ _
                  refine pm_R_br pm_M291 (pc' := 33) (pm_q291_1 (Nat.le_of_ble_eq_true rfl)) rfl ?_
                  exact ih_1159 _ (sf_up hN_1159 e1294 B1176 (by decide) (by decide)) h_1159 m_1159 w_1159 z1285 z1290 z1293 T_1159 F_1159 W_1159 B1287 B1292 (sf_weak B1295 (by decide) (by decide)) rfl
                · have B1296 : sf_B 10 2147483647 a1 := sf_leR (Int32.not_lt.mp c1288) sf_k10 (sf_any a1)
                  refine pm_R_lo pm_M174 (pc' := 6) rfl rfl rfl ?_
                  refine pm_R_lo pm_M174 (pc' := 7) rfl rfl rfl ?_
                  refine pm_R_icmp pm_M174 (t := 14) (pc' := 10) rfl rfl rfl (fun c1297 => ?_) (fun c1297 => ?_)
                  · have B1298 : sf_B 16 2147483647 a1 := sf_ltR c1297 sf_k15 B1296
                    refine pm_R_op pm_M174 (pc' := 15) (st' := [.int 0]) rfl rfl rfl ?_
                    refine pm_R_ret pm_M174 (r := some (.int 0)) rfl rfl ?_
                    show pm_R _ 291 91 [.ref 41, .int a0, .int a1, .int z1285, .int x4_1159, .int x5_1159] [.int 0, .int x4_1159] _ _
                    refine pm_R_br pm_M291 (pc' := 116) (st' := [.int x4_1159]) rfl rfl ?_
                    refine pm_R_op pm_M291 (pc' := 117) (st' := [.int 0, .int x4_1159]) (pm_q291_1 (Nat.le_of_ble_eq_true rfl)) rfl rfl ?_
                    refine sf_R_iadd pm_M291 (pc' := 118) (pm_q291_1 (Nat.le_of_ble_eq_true rfl)) rfl Bx4_1159 sf_k0 (by decide) (by decide) (fun z1299 e1300 B1301 => ?_)
                    refine pm_R_lo pm_M291 (pc' := 120) (ls' := [.ref 41, .int a0, .int a1, .int z1285, .int z1299, .int x5_1159]) (st' := []) (pm_q291_1 (Nat.le_of_ble_eq_true rfl)) rfl rfl ?_
                    refine sf_R_iinc pm_M291 (pc' := 123) (ls' := fun z => [.ref 41, .int a0, .int a1, .int z1285, .int z1299, .int z]) (pm_q291_1 (Nat.le_of_ble_eq_true rfl)) B1176 rfl (by decide) (by decide) (by decide) (fun _ => rfl) rfl (fun z1302 e1303 B1304 => ?_)
                    show pm_R _ 291 123 [.ref 41, .int a0, .int a1, .int z1285, .int z1299, .int z1302] [] _ _
                    refine pm_R_br pm_M291 (pc' := 33) (pm_q291_1 (Nat.le_of_ble_eq_true rfl)) rfl ?_
                    exact ih_1159 _ (sf_up hN_1159 e1303 B1176 (by decide) (by decide)) h_1159 m_1159 w_1159 z1285 z1299 z1302 T_1159 F_1159 W_1159 B1287 B1301 (sf_weak B1304 (by decide) (by decide)) rfl
                  · have B1305 : sf_B 10 15 a1 := sf_leL (Int32.not_lt.mp c1297) B1296 sf_k15
                    refine pm_R_op pm_M174 (pc' := 11) (st' := [.int 1]) rfl rfl rfl ?_
                    refine pm_R_br pm_M174 (pc' := 15) rfl rfl ?_
                    refine pm_R_ret pm_M174 (r := some (.int 1)) rfl rfl ?_
                    show pm_R _ 291 91 [.ref 41, .int a0, .int a1, .int z1285, .int x4_1159, .int x5_1159] [.int 1, .int x4_1159] _ _
                    refine pm_R_br pm_M291 (pc' := 94) (st' := [.int x4_1159]) rfl rfl ?_
                    refine pm_R_lo pm_M291 (pc' := 95) rfl rfl rfl ?_
                    refine rf_R_get pm_M291 T_1159 (pc' := 98) (v := .ref 68) rfl rfl rfl rfl ?_
                    refine pm_R_lo pm_M291 (pc' := 100) rfl rfl rfl ?_
                    obtain ⟨f1306, e1307⟩ := T_1159.2.2.2.1 68 (by decide) (by decide)
                    refine rf_R_ild pm_M291 T_1159 (pc' := 101) rfl e1307 (by decide) (sf_in B1176 (by decide) (by decide)) rfl (fun z1309 ez1310 => ?_)
                    refine sf_R_lany pm_M291 (pc' := 102) (st := [.int x4_1159]) rfl rfl rfl (fun z1311 => ?_)
                    refine pm_R_lo pm_M291 (pc' := 103) rfl rfl rfl ?_
                    refine pm_R_op pm_M291 (pc' := 105) (st' := [.int 10, .int a1, .long z1311, .int x4_1159]) rfl rfl rfl ?_
                    refine sf_R_isub pm_M291 (pc' := 106) (pm_q291_1 (Nat.le_of_ble_eq_true rfl)) rfl B1305 sf_k10 (by decide) (by decide) (fun z1312 e1313 B1314 => ?_)
                    refine pm_R_cs pm_M291 (pc' := 109) (ra := [.int z1312, .long z1311]) (rest := [.int x4_1159]) (ls' := [.long z1311, pm_no, .int z1312]) (pm_q291_1 (Nat.le_of_ble_eq_true rfl)) rfl (Or.inl rfl) pm_M206 rfl rfl (Nat.le_of_ble_eq_true rfl) rfl rfl ?_
                    refine pm_R_lo pm_M206 (pc' := 1) rfl rfl rfl ?_
                    refine pm_R_lo pm_M206 (pc' := 2) rfl rfl rfl ?_
                    refine sf_R_lany pm_M206 (pc' := 3) (st := []) rfl rfl rfl (fun z1315 => ?_)
                    refine pm_R_op pm_M206 (pc' := 4) (st' := [.long 1, .long z1315]) rfl rfl rfl ?_
                    refine sf_R_lany pm_M206 (pc' := 5) (st := []) rfl rfl rfl (fun z1316 => ?_)
                    refine pm_R_op pm_M206 (pc' := 6) (st' := [.long 1, .long z1316]) rfl rfl rfl ?_
                    refine sf_R_lcmp pm_M206 (pc' := 7) rfl rfl (fun z1317 e1318 => ?_)
                    refine pm_R_ifc pm_M206 (t := 14) (pc' := 10) rfl rfl rfl (fun c1319 => ?_) (fun c1319 => ?_)
                    · have k1320 := sf_lneC e1318 c1319
                      refine pm_R_op pm_M206 (pc' := 15) (st' := [.int 0]) rfl rfl rfl ?_
                      refine pm_R_ret pm_M206 (r := some (.int 0)) rfl rfl ?_
                      show pm_R _ 291 109 [.ref 41, .int a0, .int a1, .int z1285, .int x4_1159, .int x5_1159] [.int 0, .int x4_1159] _ _
                      refine pm_R_br pm_M291 (pc' := 116) (st' := [.int x4_1159]) (pm_q291_1 (Nat.le_of_ble_eq_true rfl)) rfl ?_
                      refine pm_R_op pm_M291 (pc' := 117) (st' := [.int 0, .int x4_1159]) (pm_q291_1 (Nat.le_of_ble_eq_true rfl)) rfl rfl ?_
                      refine sf_R_iadd pm_M291 (pc' := 118) (pm_q291_1 (Nat.le_of_ble_eq_true rfl)) rfl Bx4_1159 sf_k0 (by decide) (by decide) (fun z1321 e1322 B1323 => ?_)
                      refine pm_R_lo pm_M291 (pc' := 120) (ls' := [.ref 41, .int a0, .int a1, .int z1285, .int z1321, .int x5_1159]) (st' := []) (pm_q291_1 (Nat.le_of_ble_eq_true rfl)) rfl rfl ?_
                      refine sf_R_iinc pm_M291 (pc' := 123) (ls' := fun z => [.ref 41, .int a0, .int a1, .int z1285, .int z1321, .int z]) (pm_q291_1 (Nat.le_of_ble_eq_true rfl)) B1176 rfl (by decide) (by decide) (by decide) (fun _ => rfl) rfl (fun z1324 e1325 B1326 => ?_)
                      show pm_R _ 291 123 [.ref 41, .int a0, .int a1, .int z1285, .int z1321, .int z1324] [] _ _
                      refine pm_R_br pm_M291 (pc' := 33) (pm_q291_1 (Nat.le_of_ble_eq_true rfl)) rfl ?_
                      exact ih_1159 _ (sf_up hN_1159 e1325 B1176 (by decide) (by decide)) h_1159 m_1159 w_1159 z1285 z1321 z1324 T_1159 F_1159 W_1159 B1287 B1323 (sf_weak B1326 (by decide) (by decide)) rfl
                    · have B1327 : sf_B 0 0 z1317 := sf_eqL (Classical.not_not.mp c1319) sf_k0
                      refine pm_R_op pm_M206 (pc' := 11) (st' := [.int 1]) rfl rfl rfl ?_
                      refine pm_R_br pm_M206 (pc' := 15) rfl rfl ?_
                      refine pm_R_ret pm_M206 (r := some (.int 1)) rfl rfl ?_
                      show pm_R _ 291 109 [.ref 41, .int a0, .int a1, .int z1285, .int x4_1159, .int x5_1159] [.int 1, .int x4_1159] _ _
                      refine pm_R_br pm_M291 (pc' := 112) (st' := [.int x4_1159]) (pm_q291_1 (Nat.le_of_ble_eq_true rfl)) rfl ?_
                      refine pm_R_op pm_M291 (pc' := 113) (st' := [.int 1, .int x4_1159]) (pm_q291_1 (Nat.le_of_ble_eq_true rfl)) rfl rfl ?_
                      refine pm_R_br pm_M291 (pc' := 117) (pm_q291_1 (Nat.le_of_ble_eq_true rfl)) rfl ?_
                      refine sf_R_iany pm_M291 (pc' := 118) (st := []) (pm_q291_1 (Nat.le_of_ble_eq_true rfl)) rfl rfl (fun z1331 => ?_)
                      refine pm_R_lo pm_M291 (pc' := 120) (ls' := [.ref 41, .int a0, .int a1, .int z1285, .int z1331, .int x5_1159]) (st' := []) (pm_q291_1 (Nat.le_of_ble_eq_true rfl)) rfl rfl ?_
                      refine sf_R_iinc pm_M291 (pc' := 123) (ls' := fun z => [.ref 41, .int a0, .int a1, .int z1285, .int z1331, .int z]) (pm_q291_1 (Nat.le_of_ble_eq_true rfl)) B1176 rfl (by decide) (by decide) (by decide) (fun _ => rfl) rfl (fun z1332 e1333 B1334 => ?_)
                      show pm_R _ 291 123 [.ref 41, .int a0, .int a1, .int z1285, .int z1331, .int z1332] [] _ _
                      refine pm_R_br pm_M291 (pc' := 33) (pm_q291_1 (Nat.le_of_ble_eq_true rfl)) rfl ?_
                      exact ih_1159 _ (sf_up hN_1159 e1333 B1176 (by decide) (by decide)) h_1159 m_1159 w_1159 z1285 z1331 z1332 T_1159 F_1159 W_1159 B1287 (sf_any z1331) (sf_weak B1334 (by decide) (by decide)) rfl
              · have B1335 : sf_B (-1) (-1) z1282 := sf_eqL (Classical.not_not.mp c1284) sf_kn1
                refine pm_R_op pm_M291 (pc' := 75) (st' := [.int 1, .int x3_1159]) rfl rfl rfl ?_
                refine pm_R_br pm_M291 (pc' := 79) rfl rfl ?_
                refine sf_R_iany pm_M291 (pc' := 80) (st := []) rfl rfl rfl (fun z1339 => ?_)
                refine pm_R_lo pm_M291 (pc' := 81) (ls' := [.ref 41, .int a0, .int a1, .int z1339, .int x4_1159, .int x5_1159]) (st' := []) rfl rfl rfl ?_
                refine pm_R_lo pm_M291 (pc' := 83) rfl rfl rfl ?_
                refine pm_R_lo pm_M291 (pc' := 84) rfl rfl rfl ?_
                refine pm_R_op pm_M291 (pc' := 86) (st' := [.int 10, .int a1, .int x4_1159]) rfl rfl rfl ?_
                refine pm_R_op pm_M291 (pc' := 88) (st' := [.int 15, .int 10, .int a1, .int x4_1159]) rfl rfl rfl ?_
                refine pm_R_cs pm_M291 (pc' := 91) (ra := [.int 15, .int 10, .int a1]) (rest := [.int x4_1159]) (ls' := [.int a1, .int 10, .int 15]) rfl rfl (Or.inl rfl) pm_M174 rfl rfl (Nat.le_of_ble_eq_true rfl) rfl rfl ?_
                refine pm_R_lo pm_M174 (pc' := 1) rfl rfl rfl ?_
                refine pm_R_lo pm_M174 (pc' := 2) rfl rfl rfl ?_
                refine pm_R_icmp pm_M174 (t := 14) (pc' := 5) rfl rfl rfl (fun c1340 => ?_) (fun c1340 => ?_)
                · have B1341 : sf_B (-2147483648) 9 a1 := sf_ltL c1340 (sf_any a1) sf_k10
                  refine pm_R_op pm_M174 (pc' := 15) (st' := [.int 0]) rfl rfl rfl ?_
                  refine pm_R_ret pm_M174 (r := some (.int 0)) rfl rfl ?_
                  show pm_R _ 291 91 [.ref 41, .int a0, .int a1, .int z1339, .int x4_1159, .int x5_1159] [.int 0, .int x4_1159] _ _
                  refine pm_R_br pm_M291 (pc' := 116) (st' := [.int x4_1159]) rfl rfl ?_
                  refine pm_R_op pm_M291 (pc' := 117) (st' := [.int 0, .int x4_1159]) (pm_q291_1 (Nat.le_of_ble_eq_true rfl)) rfl rfl ?_
                  refine sf_R_iadd pm_M291 (pc' := 118) (pm_q291_1 (Nat.le_of_ble_eq_true rfl)) rfl Bx4_1159 sf_k0 (by decide) (by decide) (fun z1342 e1343 B1344 => ?_)
                  refine pm_R_lo pm_M291 (pc' := 120) (ls' := [.ref 41, .int a0, .int a1, .int z1339, .int z1342, .int x5_1159]) (st' := []) (pm_q291_1 (Nat.le_of_ble_eq_true rfl)) rfl rfl ?_
                  refine sf_R_iinc pm_M291 (pc' := 123) (ls' := fun z => [.ref 41, .int a0, .int a1, .int z1339, .int z1342, .int z]) (pm_q291_1 (Nat.le_of_ble_eq_true rfl)) B1176 rfl (by decide) (by decide) (by decide) (fun _ => rfl) rfl (fun z1345 e1346 B1347 => ?_)
                  show pm_R _ 291 123 [.ref 41, .int a0, .int a1, .int z1339, .int z1342, .int z1345] [] _ _
                  refine pm_R_br pm_M291 (pc' := 33) (pm_q291_1 (Nat.le_of_ble_eq_true rfl)) rfl ?_
                  exact ih_1159 _ (sf_up hN_1159 e1346 B1176 (by decide) (by decide)) h_1159 m_1159 w_1159 z1339 z1342 z1345 T_1159 F_1159 W_1159 (sf_any z1339) B1344 (sf_weak B1347 (by decide) (by decide)) rfl
                · have B1348 : sf_B 10 2147483647 a1 := sf_leR (Int32.not_lt.mp c1340) sf_k10 (sf_any a1)
                  refine pm_R_lo pm_M174 (pc' := 6) rfl rfl rfl ?_
                  refine pm_R_lo pm_M174 (pc' := 7) rfl rfl rfl ?_
                  refine pm_R_icmp pm_M174 (t := 14) (pc' := 10) rfl rfl rfl (fun c1349 => ?_) (fun c1349 => ?_)
                  · have B1350 : sf_B 16 2147483647 a1 := sf_ltR c1349 sf_k15 B1348
                    refine pm_R_op pm_M174 (pc' := 15) (st' := [.int 0]) rfl rfl rfl ?_
                    refine pm_R_ret pm_M174 (r := some (.int 0)) rfl rfl ?_
                    show pm_R _ 291 91 [.ref 41, .int a0, .int a1, .int z1339, .int x4_1159, .int x5_1159] [.int 0, .int x4_1159] _ _
                    refine pm_R_br pm_M291 (pc' := 116) (st' := [.int x4_1159]) rfl rfl ?_
                    refine pm_R_op pm_M291 (pc' := 117) (st' := [.int 0, .int x4_1159]) (pm_q291_1 (Nat.le_of_ble_eq_true rfl)) rfl rfl ?_
                    refine sf_R_iadd pm_M291 (pc' := 118) (pm_q291_1 (Nat.le_of_ble_eq_true rfl)) rfl Bx4_1159 sf_k0 (by decide) (by decide) (fun z1351 e1352 B1353 => ?_)
                    refine pm_R_lo pm_M291 (pc' := 120) (ls' := [.ref 41, .int a0, .int a1, .int z1339, .int z1351, .int x5_1159]) (st' := []) (pm_q291_1 (Nat.le_of_ble_eq_true rfl)) rfl rfl ?_
                    refine sf_R_iinc pm_M291 (pc' := 123) (ls' := fun z => [.ref 41, .int a0, .int a1, .int z1339, .int z1351, .int z]) (pm_q291_1 (Nat.le_of_ble_eq_true rfl)) B1176 rfl (by decide) (by decide) (by decide) (fun _ => rfl) rfl (fun z1354 e1355 B1356 => ?_)
                    show pm_R _ 291 123 [.ref 41, .int a0, .int a1, .int z1339, .int z1351, .int z1354] [] _ _
                    refine pm_R_br pm_M291 (pc' := 33) (pm_q291_1 (Nat.le_of_ble_eq_true rfl)) rfl ?_
                    exact ih_1159 _ (sf_up hN_1159 e1355 B1176 (by decide) (by decide)) h_1159 m_1159 w_1159 z1339 z1351 z1354 T_1159 F_1159 W_1159 (sf_any z1339) B1353 (sf_weak B1356 (by decide) (by decide)) rfl
                  · have B1357 : sf_B 10 15 a1 := sf_leL (Int32.not_lt.mp c1349) B1348 sf_k15
                    refine pm_R_op pm_M174 (pc' := 11) (st' := [.int 1]) rfl rfl rfl ?_
                    refine pm_R_br pm_M174 (pc' := 15) rfl rfl ?_
                    refine pm_R_ret pm_M174 (r := some (.int 1)) rfl rfl ?_
                    show pm_R _ 291 91 [.ref 41, .int a0, .int a1, .int z1339, .int x4_1159, .int x5_1159] [.int 1, .int x4_1159] _ _
                    refine pm_R_br pm_M291 (pc' := 94) (st' := [.int x4_1159]) rfl rfl ?_
                    refine pm_R_lo pm_M291 (pc' := 95) rfl rfl rfl ?_
                    refine rf_R_get pm_M291 T_1159 (pc' := 98) (v := .ref 68) rfl rfl rfl rfl ?_
                    refine pm_R_lo pm_M291 (pc' := 100) rfl rfl rfl ?_
                    obtain ⟨f1358, e1359⟩ := T_1159.2.2.2.1 68 (by decide) (by decide)
                    refine rf_R_ild pm_M291 T_1159 (pc' := 101) rfl e1359 (by decide) (sf_in B1176 (by decide) (by decide)) rfl (fun z1361 ez1362 => ?_)
                    refine sf_R_lany pm_M291 (pc' := 102) (st := [.int x4_1159]) rfl rfl rfl (fun z1363 => ?_)
                    refine pm_R_lo pm_M291 (pc' := 103) rfl rfl rfl ?_
                    refine pm_R_op pm_M291 (pc' := 105) (st' := [.int 10, .int a1, .long z1363, .int x4_1159]) rfl rfl rfl ?_
                    refine sf_R_isub pm_M291 (pc' := 106) (pm_q291_1 (Nat.le_of_ble_eq_true rfl)) rfl B1357 sf_k10 (by decide) (by decide) (fun z1364 e1365 B1366 => ?_)
                    refine pm_R_cs pm_M291 (pc' := 109) (ra := [.int z1364, .long z1363]) (rest := [.int x4_1159]) (ls' := [.long z1363, pm_no, .int z1364]) (pm_q291_1 (Nat.le_of_ble_eq_true rfl)) rfl (Or.inl rfl) pm_M206 rfl rfl (Nat.le_of_ble_eq_true rfl) rfl rfl ?_
                    refine pm_R_lo pm_M206 (pc' := 1) rfl rfl rfl ?_
                    refine pm_R_lo pm_M206 (pc' := 2) rfl rfl rfl ?_
                    refine sf_R_lany pm_M206 (pc' := 3) (st := []) rfl rfl rfl (fun z1367 => ?_)
                    refine pm_R_op pm_M206 (pc' := 4) (st' := [.long 1, .long z1367]) rfl rfl rfl ?_
                    refine sf_R_lany pm_M206 (pc' := 5) (st := []) rfl rfl rfl (fun z1368 => ?_)
                    refine pm_R_op pm_M206 (pc' := 6) (st' := [.long 1, .long z1368]) rfl rfl rfl ?_
                    refine sf_R_lcmp pm_M206 (pc' := 7) rfl rfl (fun z1369 e1370 => ?_)
                    refine pm_R_ifc pm_M206 (t := 14) (pc' := 10) rfl rfl rfl (fun c1371 => ?_) (fun c1371 => ?_)
                    · have k1372 := sf_lneC e1370 c1371
                      refine pm_R_op pm_M206 (pc' := 15) (st' := [.int 0]) rfl rfl rfl ?_
                      refine pm_R_ret pm_M206 (r := some (.int 0)) rfl rfl ?_
                      show pm_R _ 291 109 [.ref 41, .int a0, .int a1, .int z1339, .int x4_1159, .int x5_1159] [.int 0, .int x4_1159] _ _
                      refine pm_R_br pm_M291 (pc' := 116) (st' := [.int x4_1159]) (pm_q291_1 (Nat.le_of_ble_eq_true rfl)) rfl ?_
                      refine pm_R_op pm_M291 (pc' := 117) (st' := [.int 0, .int x4_1159]) (pm_q291_1 (Nat.le_of_ble_eq_true rfl)) rfl rfl ?_
                      refine sf_R_iadd pm_M291 (pc' := 118) (pm_q291_1 (Nat.le_of_ble_eq_true rfl)) rfl Bx4_1159 sf_k0 (by decide) (by decide) (fun z1373 e1374 B1375 => ?_)
                      refine pm_R_lo pm_M291 (pc' := 120) (ls' := [.ref 41, .int a0, .int a1, .int z1339, .int z1373, .int x5_1159]) (st' := []) (pm_q291_1 (Nat.le_of_ble_eq_true rfl)) rfl rfl ?_
                      refine sf_R_iinc pm_M291 (pc' := 123) (ls' := fun z => [.ref 41, .int a0, .int a1, .int z1339, .int z1373, .int z]) (pm_q291_1 (Nat.le_of_ble_eq_true rfl)) B1176 rfl (by decide) (by decide) (by decide) (fun _ => rfl) rfl (fun z1376 e1377 B1378 => ?_)
                      show pm_R _ 291 123 [.ref 41, .int a0, .int a1, .int z1339, .int z1373, .int z1376] [] _ _
                      refine pm_R_br pm_M291 (pc' := 33) (pm_q291_1 (Nat.le_of_ble_eq_true rfl)) rfl ?_
                      exact ih_1159 _ (sf_up hN_1159 e1377 B1176 (by decide) (by decide)) h_1159 m_1159 w_1159 z1339 z1373 z1376 T_1159 F_1159 W_1159 (sf_any z1339) B1375 (sf_weak B1378 (by decide) (by decide)) rfl
                    · have B1379 : sf_B 0 0 z1369 := sf_eqL (Classical.not_not.mp c1371) sf_k0
                      refine pm_R_op pm_M206 (pc' := 11) (st' := [.int 1]) rfl rfl rfl ?_
                      refine pm_R_br pm_M206 (pc' := 15) rfl rfl ?_
                      refine pm_R_ret pm_M206 (r := some (.int 1)) rfl rfl ?_
                      show pm_R _ 291 109 [.ref 41, .int a0, .int a1, .int z1339, .int x4_1159, .int x5_1159] [.int 1, .int x4_1159] _ _
                      refine pm_R_br pm_M291 (pc' := 112) (st' := [.int x4_1159]) (pm_q291_1 (Nat.le_of_ble_eq_true rfl)) rfl ?_
                      refine pm_R_op pm_M291 (pc' := 113) (st' := [.int 1, .int x4_1159]) (pm_q291_1 (Nat.le_of_ble_eq_true rfl)) rfl rfl ?_
                      refine pm_R_br pm_M291 (pc' := 117) (pm_q291_1 (Nat.le_of_ble_eq_true rfl)) rfl ?_
                      refine sf_R_iany pm_M291 (pc' := 118) (st := []) (pm_q291_1 (Nat.le_of_ble_eq_true rfl)) rfl rfl (fun z1383 => ?_)
                      refine pm_R_lo pm_M291 (pc' := 120) (ls' := [.ref 41, .int a0, .int a1, .int z1339, .int z1383, .int x5_1159]) (st' := []) (pm_q291_1 (Nat.le_of_ble_eq_true rfl)) rfl rfl ?_
                      refine sf_R_iinc pm_M291 (pc' := 123) (ls' := fun z => [.ref 41, .int a0, .int a1, .int z1339, .int z1383, .int z]) (pm_q291_1 (Nat.le_of_ble_eq_true rfl)) B1176 rfl (by decide) (by decide) (by decide) (fun _ => rfl) rfl (fun z1384 e1385 B1386 => ?_)
                      show pm_R _ 291 123 [.ref 41, .int a0, .int a1, .int z1339, .int z1383, .int z1384] [] _ _
                      refine pm_R_br pm_M291 (pc' := 33) (pm_q291_1 (Nat.le_of_ble_eq_true rfl)) rfl ?_
                      exact ih_1159 _ (sf_up hN_1159 e1385 B1176 (by decide) (by decide)) h_1159 m_1159 w_1159 z1339 z1383 z1384 T_1159 F_1159 W_1159 (sf_any z1339) (sf_any z1383) (sf_weak B1386 (by decide) (by decide)) rfl
      exact L_1159 _ h13 m11 w12 0 0 0 T14 F17 (rf_W.refl _ _) (sf_weak sf_k0 (by decide) (by decide)) (sf_weak sf_k0 (by decide) (by decide)) (sf_weak sf_k0 (by decide) (by decide)) rfl
    · have B1387 : sf_B 0 0 a1 := sf_eqL (Classical.not_not.mp c21) sf_k0
      refine pm_R_lo pm_M291 (pc' := 21) rfl rfl rfl ?_
      refine pm_R_cv pm_M291 (pc' := 24) (a := 41) (ra := []) (rest := []) (ls' := [.ref 41, pm_no, pm_no, pm_no, pm_no]) rfl rfl (Or.inl rfl) pm_M292 T14.2.1 rfl (by decide) (Nat.lt_of_lt_of_le (by decide) T14.1) rfl rfl (Nat.le_of_ble_eq_true rfl) rfl rfl ?_
      refine rf_c292 (d := d + 0) T14  (fun r1388 B1389 => ?_)
      show pm_R _ 291 24 [.ref 41, .int a0, .int a1, pm_no, pm_no, pm_no] [.int r1388] _ _
      exact pm_R_ret pm_M291 (r := some (.int r1388)) rfl (pm_ret_i _) (K r1388 m11 w12 h13 T14 F17 W18)
  · have B1396 : sf_B 0 0 r9 := sf_eqL (Classical.not_not.mp c19) sf_k0
    refine pm_R_op pm_M291 (pc' := 15) (st' := [.int (-2)]) rfl rfl rfl ?_
    exact pm_R_ret pm_M291 (r := some (.int (-2))) rfl rfl (K (-2) m11 w12 h13 T14 F17 W18)

set_option maxRecDepth 100000 in
set_option maxHeartbeats 4000000 in
/-- SilentTableModel.fault -/
theorem rf_c194 {d : Nat} {m : Nat → Int32} {w : Int64} {h : pm_H} {Q : Option Value → pm_H → Prop} {a0 : Int32} (T : rf_T m w h)  (K : ∀ (r : Int32) (m' : Nat → Int32) (w' : Int64) (h' : pm_H), rf_T m' w' h' → rf_F h h' → rf_W [0] m m' → sf_B (-1) 600 r → Q (some (.int r)) h') : pm_R (d + 0) 194 0 [.ref 41, .int a0] [] h Q := by
  refine pm_R_lo pm_M194 (pc' := 1) rfl rfl rfl ?_
  refine pm_R_op pm_M194 (pc' := 2) (st' := [.int 0, .ref 41]) rfl rfl rfl ?_
  refine rf_R_put pm_M194 T (pc' := 5) rfl rfl rfl (by decide) rfl rfl sf_k0 rfl rfl (fun h1 m4 em5 T2 F3 => ?_)
  have F6 := (rf_F.refl h).trans F3
  have B7 : sf_B 0 0 (m4 0) := by rw [em5]; exact sf_k0
  have W8 : rf_W [0] m m4 := by rw [em5]; exact (rf_W.refl [0] m).put (by decide)
  refine pm_R_lo pm_M194 (pc' := 6) rfl rfl rfl ?_
  refine pm_R_ifc pm_M194 (t := 18) (pc' := 9) rfl rfl rfl (fun c9 => ?_) (fun c9 => ?_)
  · skip
    refine pm_R_lo pm_M194 (pc' := 19) rfl rfl rfl ?_
    refine pm_R_op pm_M194 (pc' := 20) (st' := [.int 1, .int a0]) rfl rfl rfl ?_
    refine pm_R_icmp pm_M194 (t := 32) (pc' := 23) rfl rfl rfl (fun c10 => ?_) (fun c10 => ?_)
    · skip
      refine pm_R_op pm_M194 (pc' := 33) (st' := [.int (-1)]) rfl rfl rfl ?_
      exact pm_R_ret pm_M194 (r := some (.int (-1))) rfl rfl (K (-1) m4 w h1 T2 F6 W8 (sf_weak sf_kn1 (by decide) (by decide)))
    · have B11 : sf_B 1 1 a0 := sf_eqL (Classical.not_not.mp c10) sf_k1
      refine pm_R_lo pm_M194 (pc' := 24) rfl rfl rfl ?_
      refine rf_R_get pm_M194 T2 (pc' := 27) (v := .ref 45) rfl rfl rfl rfl ?_
      refine pm_R_op pm_M194 (pc' := 28) (st' := [.int 0, .ref 45]) rfl rfl rfl ?_
      obtain ⟨f12, e13, b14⟩ := T2.2.2.2.1 45 (by decide) (by decide)
      refine rf_R_ild pm_M194 T2 (pc' := 29) rfl e13 (by decide) rfl rfl (fun z15 ez16 => ?_)
      have B17 : sf_B (-1) 600 z15 := ez16 ▸ b14 _
      refine pm_R_br pm_M194 (pc' := 33) rfl rfl ?_
      exact pm_R_ret pm_M194 (r := some (.int z15)) rfl (pm_ret_i _) (K z15 m4 w h1 T2 F6 W8 B17)
  · have B18 : sf_B 0 0 a0 := sf_eqL (Classical.not_not.mp c9) sf_k0
    refine pm_R_lo pm_M194 (pc' := 10) rfl rfl rfl ?_
    refine rf_R_get pm_M194 T2 (pc' := 13) (v := .ref 44) rfl rfl rfl rfl ?_
    refine pm_R_op pm_M194 (pc' := 14) (st' := [.int 0, .ref 44]) rfl rfl rfl ?_
    obtain ⟨f19, e20, b21⟩ := T2.2.2.2.1 44 (by decide) (by decide)
    refine rf_R_ild pm_M194 T2 (pc' := 15) rfl e20 (by decide) rfl rfl (fun z22 ez23 => ?_)
    have B24 : sf_B 0 4 z22 := ez23 ▸ b21 _
    refine pm_R_br pm_M194 (pc' := 33) rfl rfl ?_
    exact pm_R_ret pm_M194 (r := some (.int z22)) rfl (pm_ret_i _) (K z22 m4 w h1 T2 F6 W8 (sf_weak B24 (by decide) (by decide)))

set_option maxRecDepth 100000 in
set_option maxHeartbeats 4000000 in
/-- SilentTableModel.list -/
theorem rf_c195 {d : Nat} {m : Nat → Int32} {w : Int64} {h : pm_H} {Q : Option Value → pm_H → Prop} {a0 : Int32} {a1 : Int32} (T : rf_T m w h)  (K : ∀ (r : Int32) (m' : Nat → Int32) (w' : Int64) (h' : pm_H), rf_T m' w' h' → rf_F h h' → rf_W [0] m m' → Q (some (.int r)) h') : pm_R (d + 2) 195 0 [.ref 41, .int a0, .int a1] [] h Q := by
  refine pm_R_lo pm_M195 (pc' := 1) rfl rfl rfl ?_
  refine pm_R_op pm_M195 (pc' := 2) (st' := [.int 0, .ref 41]) rfl rfl rfl ?_
  refine rf_R_put pm_M195 T (pc' := 5) rfl rfl rfl (by decide) rfl rfl sf_k0 rfl rfl (fun h1 m4 em5 T2 F3 => ?_)
  have F6 := (rf_F.refl h).trans F3
  have B7 : sf_B 0 0 (m4 0) := by rw [em5]; exact sf_k0
  have W8 : rf_W [0] m m4 := by rw [em5]; exact (rf_W.refl [0] m).put (by decide)
  refine pm_R_lo pm_M195 (pc' := 6) rfl rfl rfl ?_
  refine pm_R_op pm_M195 (pc' := 7) (st' := [.int 0, .ref 41]) rfl rfl rfl ?_
  refine pm_R_lo pm_M195 (pc' := 8) rfl rfl rfl ?_
  refine pm_R_cv pm_M195 (pc' := 11) (a := 41) (ra := [.int a0, .int 0]) (rest := []) (ls' := [.ref 41, .int 0, .int a0]) rfl rfl (Or.inl rfl) pm_M177 T2.2.1 rfl (by decide) (Nat.lt_of_lt_of_le (by decide) T2.1) rfl rfl (Nat.le_of_ble_eq_true rfl) rfl rfl ?_
  refine pm_R_lo pm_M177 (pc' := 1) rfl rfl rfl ?_
  refine pm_R_op pm_M177 (pc' := 2) (st' := [.int 0, .int a0]) rfl rfl rfl ?_
  refine pm_R_lo pm_M177 (pc' := 3) rfl rfl rfl ?_
  refine rf_R_get pm_M177 T2 (pc' := 6) (v := .ref 46) rfl rfl rfl rfl ?_
  refine pm_R_lo pm_M177 (pc' := 7) rfl rfl rfl ?_
  obtain ⟨f9, e10, b11⟩ := T2.2.2.2.1 46 (by decide) (by decide)
  refine rf_R_ild pm_M177 T2 (pc' := 8) rfl e10 (by decide) rfl rfl (fun z12 ez13 => ?_)
  have B14 : sf_B 0 2 z12 := ez13 ▸ (b11 0)
  refine pm_R_op pm_M177 (pc' := 9) (st' := [.int 1, .int z12, .int 0, .int a0]) rfl rfl rfl ?_
  refine sf_R_isub pm_M177 (pc' := 10) rfl rfl B14 sf_k1 (by decide) (by decide) (fun z15 e16 B17 => ?_)
  refine pm_R_cs pm_M177 (pc' := 13) (ra := [.int z15, .int 0, .int a0]) (rest := []) (ls' := [.int a0, .int 0, .int z15]) rfl rfl (Or.inl rfl) pm_M174 rfl rfl (Nat.le_of_ble_eq_true rfl) rfl rfl ?_
  refine pm_R_lo pm_M174 (pc' := 1) rfl rfl rfl ?_
  refine pm_R_lo pm_M174 (pc' := 2) rfl rfl rfl ?_
  refine pm_R_icmp pm_M174 (t := 14) (pc' := 5) rfl rfl rfl (fun c18 => ?_) (fun c18 => ?_)
  · have B19 : sf_B (-2147483648) (-1) a0 := sf_ltL c18 (sf_any a0) sf_k0
    refine pm_R_op pm_M174 (pc' := 15) (st' := [.int 0]) rfl rfl rfl ?_
    refine pm_R_ret pm_M174 (r := some (.int 0)) rfl rfl ?_
    show pm_R _ 177 13 [.ref 41, .int 0, .int a0] [.int 0] _ _
    refine pm_R_ret pm_M177 (r := some (.int 0)) rfl rfl ?_
    show pm_R _ 195 11 [.ref 41, .int a0, .int a1] [.int 0] _ _
    refine pm_R_br pm_M195 (pc' := 63) (st' := []) rfl rfl ?_
    refine pm_R_op pm_M195 (pc' := 64) (st' := [.int (-1)]) rfl rfl rfl ?_
    exact pm_R_ret pm_M195 (r := some (.int (-1))) rfl rfl (K (-1) m4 w h1 T2 F6 W8)
  · have B20 : sf_B 0 2147483647 a0 := sf_leR (Int32.not_lt.mp c18) sf_k0 (sf_any a0)
    refine pm_R_lo pm_M174 (pc' := 6) rfl rfl rfl ?_
    refine pm_R_lo pm_M174 (pc' := 7) rfl rfl rfl ?_
    refine pm_R_icmp pm_M174 (t := 14) (pc' := 10) rfl rfl rfl (fun c21 => ?_) (fun c21 => ?_)
    · skip
      refine pm_R_op pm_M174 (pc' := 15) (st' := [.int 0]) rfl rfl rfl ?_
      refine pm_R_ret pm_M174 (r := some (.int 0)) rfl rfl ?_
      show pm_R _ 177 13 [.ref 41, .int 0, .int a0] [.int 0] _ _
      refine pm_R_ret pm_M177 (r := some (.int 0)) rfl rfl ?_
      show pm_R _ 195 11 [.ref 41, .int a0, .int a1] [.int 0] _ _
      refine pm_R_br pm_M195 (pc' := 63) (st' := []) rfl rfl ?_
      refine pm_R_op pm_M195 (pc' := 64) (st' := [.int (-1)]) rfl rfl rfl ?_
      exact pm_R_ret pm_M195 (r := some (.int (-1))) rfl rfl (K (-1) m4 w h1 T2 F6 W8)
    · have B22 : sf_B 0 1 a0 := sf_leL (Int32.not_lt.mp c21) B20 B17
      have B23 : sf_B 0 1 z15 := sf_leR (Int32.not_lt.mp c21) B20 B17
      refine pm_R_op pm_M174 (pc' := 11) (st' := [.int 1]) rfl rfl rfl ?_
      refine pm_R_br pm_M174 (pc' := 15) rfl rfl ?_
      refine pm_R_ret pm_M174 (r := some (.int 1)) rfl rfl ?_
      show pm_R _ 177 13 [.ref 41, .int 0, .int a0] [.int 1] _ _
      refine pm_R_ret pm_M177 (r := some (.int 1)) rfl rfl ?_
      show pm_R _ 195 11 [.ref 41, .int a0, .int a1] [.int 1] _ _
      refine pm_R_br pm_M195 (pc' := 14) (st' := []) rfl rfl ?_
      refine pm_R_lo pm_M195 (pc' := 15) rfl rfl rfl ?_
      refine pm_R_op pm_M195 (pc' := 16) (st' := [.int 0, .int a1]) rfl rfl rfl ?_
      refine pm_R_op pm_M195 (pc' := 17) (st' := [.int 1, .int 0, .int a1]) rfl rfl rfl ?_
      refine pm_R_cs pm_M195 (pc' := 20) (ra := [.int 1, .int 0, .int a1]) (rest := []) (ls' := [.int a1, .int 0, .int 1]) rfl rfl (Or.inl rfl) pm_M174 rfl rfl (Nat.le_of_ble_eq_true rfl) rfl rfl ?_
      refine pm_R_lo pm_M174 (pc' := 1) rfl rfl rfl ?_
      refine pm_R_lo pm_M174 (pc' := 2) rfl rfl rfl ?_
      refine pm_R_icmp pm_M174 (t := 14) (pc' := 5) rfl rfl rfl (fun c24 => ?_) (fun c24 => ?_)
      · have B25 : sf_B (-2147483648) (-1) a1 := sf_ltL c24 (sf_any a1) sf_k0
        refine pm_R_op pm_M174 (pc' := 15) (st' := [.int 0]) rfl rfl rfl ?_
        refine pm_R_ret pm_M174 (r := some (.int 0)) rfl rfl ?_
        show pm_R _ 195 20 [.ref 41, .int a0, .int a1] [.int 0] _ _
        refine pm_R_br pm_M195 (pc' := 23) (st' := []) rfl rfl ?_
        refine pm_R_lo pm_M195 (pc' := 24) rfl rfl rfl ?_
        refine pm_R_op pm_M195 (pc' := 26) (st' := [.int 10, .int a1]) rfl rfl rfl ?_
        refine pm_R_op pm_M195 (pc' := 28) (st' := [.int 19, .int 10, .int a1]) rfl rfl rfl ?_
        refine pm_R_cs pm_M195 (pc' := 31) (ra := [.int 19, .int 10, .int a1]) (rest := []) (ls' := [.int a1, .int 10, .int 19]) rfl rfl (Or.inl rfl) pm_M174 rfl rfl (Nat.le_of_ble_eq_true rfl) rfl rfl ?_
        refine pm_R_lo pm_M174 (pc' := 1) rfl rfl rfl ?_
        refine pm_R_lo pm_M174 (pc' := 2) rfl rfl rfl ?_
        refine pm_R_icmp pm_M174 (t := 14) (pc' := 5) rfl rfl rfl (fun c26 => ?_) (fun c26 => absurd (Int32.not_lt.mp c26) (sf_nle sf_k10 B25 (by decide)))
        skip
        refine pm_R_op pm_M174 (pc' := 15) (st' := [.int 0]) rfl rfl rfl ?_
        refine pm_R_ret pm_M174 (r := some (.int 0)) rfl rfl ?_
        show pm_R _ 195 31 [.ref 41, .int a0, .int a1] [.int 0] _ _
        refine pm_R_br pm_M195 (pc' := 63) (st' := []) rfl rfl ?_
        refine pm_R_op pm_M195 (pc' := 64) (st' := [.int (-1)]) rfl rfl rfl ?_
        exact pm_R_ret pm_M195 (r := some (.int (-1))) rfl rfl (K (-1) m4 w h1 T2 F6 W8)
      · have B27 : sf_B 0 2147483647 a1 := sf_leR (Int32.not_lt.mp c24) sf_k0 (sf_any a1)
        refine pm_R_lo pm_M174 (pc' := 6) rfl rfl rfl ?_
        refine pm_R_lo pm_M174 (pc' := 7) rfl rfl rfl ?_
        refine pm_R_icmp pm_M174 (t := 14) (pc' := 10) rfl rfl rfl (fun c28 => ?_) (fun c28 => ?_)
        · have B29 : sf_B 2 2147483647 a1 := sf_ltR c28 sf_k1 B27
          refine pm_R_op pm_M174 (pc' := 15) (st' := [.int 0]) rfl rfl rfl ?_
          refine pm_R_ret pm_M174 (r := some (.int 0)) rfl rfl ?_
          show pm_R _ 195 20 [.ref 41, .int a0, .int a1] [.int 0] _ _
          refine pm_R_br pm_M195 (pc' := 23) (st' := []) rfl rfl ?_
          refine pm_R_lo pm_M195 (pc' := 24) rfl rfl rfl ?_
          refine pm_R_op pm_M195 (pc' := 26) (st' := [.int 10, .int a1]) rfl rfl rfl ?_
          refine pm_R_op pm_M195 (pc' := 28) (st' := [.int 19, .int 10, .int a1]) rfl rfl rfl ?_
          refine pm_R_cs pm_M195 (pc' := 31) (ra := [.int 19, .int 10, .int a1]) (rest := []) (ls' := [.int a1, .int 10, .int 19]) rfl rfl (Or.inl rfl) pm_M174 rfl rfl (Nat.le_of_ble_eq_true rfl) rfl rfl ?_
          refine pm_R_lo pm_M174 (pc' := 1) rfl rfl rfl ?_
          refine pm_R_lo pm_M174 (pc' := 2) rfl rfl rfl ?_
          refine pm_R_icmp pm_M174 (t := 14) (pc' := 5) rfl rfl rfl (fun c30 => ?_) (fun c30 => ?_)
          · have B31 : sf_B 2 9 a1 := sf_ltL c30 B29 sf_k10
            refine pm_R_op pm_M174 (pc' := 15) (st' := [.int 0]) rfl rfl rfl ?_
            refine pm_R_ret pm_M174 (r := some (.int 0)) rfl rfl ?_
            show pm_R _ 195 31 [.ref 41, .int a0, .int a1] [.int 0] _ _
            refine pm_R_br pm_M195 (pc' := 63) (st' := []) rfl rfl ?_
            refine pm_R_op pm_M195 (pc' := 64) (st' := [.int (-1)]) rfl rfl rfl ?_
            exact pm_R_ret pm_M195 (r := some (.int (-1))) rfl rfl (K (-1) m4 w h1 T2 F6 W8)
          · have B32 : sf_B 10 2147483647 a1 := sf_leR (Int32.not_lt.mp c30) sf_k10 B29
            refine pm_R_lo pm_M174 (pc' := 6) rfl rfl rfl ?_
            refine pm_R_lo pm_M174 (pc' := 7) rfl rfl rfl ?_
            refine pm_R_icmp pm_M174 (t := 14) (pc' := 10) rfl rfl rfl (fun c33 => ?_) (fun c33 => ?_)
            · have B34 : sf_B 20 2147483647 a1 := sf_ltR c33 sf_k19 B32
              refine pm_R_op pm_M174 (pc' := 15) (st' := [.int 0]) rfl rfl rfl ?_
              refine pm_R_ret pm_M174 (r := some (.int 0)) rfl rfl ?_
              show pm_R _ 195 31 [.ref 41, .int a0, .int a1] [.int 0] _ _
              refine pm_R_br pm_M195 (pc' := 63) (st' := []) rfl rfl ?_
              refine pm_R_op pm_M195 (pc' := 64) (st' := [.int (-1)]) rfl rfl rfl ?_
              exact pm_R_ret pm_M195 (r := some (.int (-1))) rfl rfl (K (-1) m4 w h1 T2 F6 W8)
            · have B35 : sf_B 10 19 a1 := sf_leL (Int32.not_lt.mp c33) B32 sf_k19
              refine pm_R_op pm_M174 (pc' := 11) (st' := [.int 1]) rfl rfl rfl ?_
              refine pm_R_br pm_M174 (pc' := 15) rfl rfl ?_
              refine pm_R_ret pm_M174 (r := some (.int 1)) rfl rfl ?_
              show pm_R _ 195 31 [.ref 41, .int a0, .int a1] [.int 1] _ _
              refine pm_R_br pm_M195 (pc' := 34) (st' := []) rfl rfl ?_
              refine pm_R_lo pm_M195 (pc' := 35) rfl rfl rfl ?_
              refine rf_R_get pm_M195 T2 (pc' := 38) (v := .ref 47) rfl rfl rfl rfl ?_
              refine pm_R_op pm_M195 (pc' := 40) (st' := [.int 100, .ref 47]) rfl rfl rfl ?_
              refine pm_R_lo pm_M195 (pc' := 41) rfl rfl rfl ?_
              refine sf_R_imul pm_M195 (pc' := 42) rfl rfl sf_k100 B22 (by decide) (by decide) (by decide) (fun z36 e37 B38 => ?_)
              refine pm_R_lo pm_M195 (pc' := 43) rfl rfl rfl ?_
              refine pm_R_op pm_M195 (pc' := 44) (st' := [.int 2, .int a1, .int z36, .ref 47]) rfl rfl rfl ?_
              refine pm_R_icmp pm_M195 (t := 51) (pc' := 47) rfl rfl rfl (fun c39 => ?_) (fun c39 => absurd (Int32.not_le.mp c39) (sf_nlt B35 sf_k2 (by decide)))
              skip
              refine pm_R_op pm_M195 (pc' := 53) (st' := [.int 90, .int z36, .ref 47]) rfl rfl rfl ?_
              refine pm_R_lo pm_M195 (pc' := 54) rfl rfl rfl ?_
              refine sf_R_iadd pm_M195 (pc' := 55) rfl rfl sf_k90 B35 (by decide) (by decide) (fun z40 e41 B42 => ?_)
              refine pm_R_op pm_M195 (pc' := 57) (st' := [.int 10, .int z40, .int z36, .ref 47]) rfl rfl rfl ?_
              refine sf_R_isub pm_M195 (pc' := 58) rfl rfl B42 sf_k10 (by decide) (by decide) (fun z43 e44 B45 => ?_)
              refine sf_R_iadd pm_M195 (pc' := 59) rfl rfl B38 B45 (by decide) (by decide) (fun z46 e47 B48 => ?_)
              obtain ⟨f49, e50, b51⟩ := T2.2.2.2.1 47 (by decide) (by decide)
              refine rf_R_ild pm_M195 T2 (pc' := 60) rfl e50 (by decide) (sf_in B48 (by decide) (by decide)) rfl (fun z52 ez53 => ?_)
              refine pm_R_br pm_M195 (pc' := 64) rfl rfl ?_
              exact pm_R_ret pm_M195 (r := some (.int z52)) rfl (pm_ret_i _) (K z52 m4 w h1 T2 F6 W8)
        · have B54 : sf_B 0 1 a1 := sf_leL (Int32.not_lt.mp c28) B27 sf_k1
          refine pm_R_op pm_M174 (pc' := 11) (st' := [.int 1]) rfl rfl rfl ?_
          refine pm_R_br pm_M174 (pc' := 15) rfl rfl ?_
          refine pm_R_ret pm_M174 (r := some (.int 1)) rfl rfl ?_
          show pm_R _ 195 20 [.ref 41, .int a0, .int a1] [.int 1] _ _
          refine pm_R_br pm_M195 (pc' := 34) (st' := []) rfl rfl ?_
          refine pm_R_lo pm_M195 (pc' := 35) rfl rfl rfl ?_
          refine rf_R_get pm_M195 T2 (pc' := 38) (v := .ref 47) rfl rfl rfl rfl ?_
          refine pm_R_op pm_M195 (pc' := 40) (st' := [.int 100, .ref 47]) rfl rfl rfl ?_
          refine pm_R_lo pm_M195 (pc' := 41) rfl rfl rfl ?_
          refine sf_R_imul pm_M195 (pc' := 42) rfl rfl sf_k100 B22 (by decide) (by decide) (by decide) (fun z55 e56 B57 => ?_)
          refine pm_R_lo pm_M195 (pc' := 43) rfl rfl rfl ?_
          refine pm_R_op pm_M195 (pc' := 44) (st' := [.int 2, .int a1, .int z55, .ref 47]) rfl rfl rfl ?_
          refine pm_R_icmp pm_M195 (t := 51) (pc' := 47) rfl rfl rfl (fun c58 => absurd c58 (sf_nle sf_k2 B54 (by decide))) (fun c58 => ?_)
          skip
          refine pm_R_lo pm_M195 (pc' := 48) rfl rfl rfl ?_
          refine pm_R_br pm_M195 (pc' := 58) rfl rfl ?_
          refine sf_R_iadd pm_M195 (pc' := 59) rfl rfl B57 B54 (by decide) (by decide) (fun z59 e60 B61 => ?_)
          obtain ⟨f62, e63, b64⟩ := T2.2.2.2.1 47 (by decide) (by decide)
          refine rf_R_ild pm_M195 T2 (pc' := 60) rfl e63 (by decide) (sf_in B61 (by decide) (by decide)) rfl (fun z65 ez66 => ?_)
          refine pm_R_br pm_M195 (pc' := 64) rfl rfl ?_
          exact pm_R_ret pm_M195 (r := some (.int z65)) rfl (pm_ret_i _) (K z65 m4 w h1 T2 F6 W8)

set_option maxRecDepth 100000 in
set_option maxHeartbeats 4000000 in
/-- SilentTableModel.rule -/
theorem rf_c196 {d : Nat} {m : Nat → Int32} {w : Int64} {h : pm_H} {Q : Option Value → pm_H → Prop} {a0 : Int32} {a1 : Int32} {a2 : Int32} (T : rf_T m w h)  (K : ∀ (r : Int32) (m' : Nat → Int32) (w' : Int64) (h' : pm_H), rf_T m' w' h' → rf_F h h' → rf_W [0] m m' → Q (some (.int r)) h') : pm_R (d + 2) 196 0 [.ref 41, .int a0, .int a1, .int a2] [] h Q := by
  refine pm_R_lo pm_M196 (pc' := 1) rfl rfl rfl ?_
  refine pm_R_op pm_M196 (pc' := 2) (st' := [.int 0, .ref 41]) rfl rfl rfl ?_
  refine rf_R_put pm_M196 T (pc' := 5) rfl rfl rfl (by decide) rfl rfl sf_k0 rfl rfl (fun h1 m4 em5 T2 F3 => ?_)
  have F6 := (rf_F.refl h).trans F3
  have B7 : sf_B 0 0 (m4 0) := by rw [em5]; exact sf_k0
  have W8 : rf_W [0] m m4 := by rw [em5]; exact (rf_W.refl [0] m).put (by decide)
  refine pm_R_lo pm_M196 (pc' := 6) rfl rfl rfl ?_
  refine pm_R_op pm_M196 (pc' := 7) (st' := [.int 0, .ref 41]) rfl rfl rfl ?_
  refine pm_R_lo pm_M196 (pc' := 8) rfl rfl rfl ?_
  refine pm_R_cv pm_M196 (pc' := 11) (a := 41) (ra := [.int a0, .int 0]) (rest := []) (ls' := [.ref 41, .int 0, .int a0]) rfl rfl (Or.inl rfl) pm_M177 T2.2.1 rfl (by decide) (Nat.lt_of_lt_of_le (by decide) T2.1) rfl rfl (Nat.le_of_ble_eq_true rfl) rfl rfl ?_
  refine pm_R_lo pm_M177 (pc' := 1) rfl rfl rfl ?_
  refine pm_R_op pm_M177 (pc' := 2) (st' := [.int 0, .int a0]) rfl rfl rfl ?_
  refine pm_R_lo pm_M177 (pc' := 3) rfl rfl rfl ?_
  refine rf_R_get pm_M177 T2 (pc' := 6) (v := .ref 46) rfl rfl rfl rfl ?_
  refine pm_R_lo pm_M177 (pc' := 7) rfl rfl rfl ?_
  obtain ⟨f9, e10, b11⟩ := T2.2.2.2.1 46 (by decide) (by decide)
  refine rf_R_ild pm_M177 T2 (pc' := 8) rfl e10 (by decide) rfl rfl (fun z12 ez13 => ?_)
  have B14 : sf_B 0 2 z12 := ez13 ▸ (b11 0)
  refine pm_R_op pm_M177 (pc' := 9) (st' := [.int 1, .int z12, .int 0, .int a0]) rfl rfl rfl ?_
  refine sf_R_isub pm_M177 (pc' := 10) rfl rfl B14 sf_k1 (by decide) (by decide) (fun z15 e16 B17 => ?_)
  refine pm_R_cs pm_M177 (pc' := 13) (ra := [.int z15, .int 0, .int a0]) (rest := []) (ls' := [.int a0, .int 0, .int z15]) rfl rfl (Or.inl rfl) pm_M174 rfl rfl (Nat.le_of_ble_eq_true rfl) rfl rfl ?_
  refine pm_R_lo pm_M174 (pc' := 1) rfl rfl rfl ?_
  refine pm_R_lo pm_M174 (pc' := 2) rfl rfl rfl ?_
  refine pm_R_icmp pm_M174 (t := 14) (pc' := 5) rfl rfl rfl (fun c18 => ?_) (fun c18 => ?_)
  · have B19 : sf_B (-2147483648) (-1) a0 := sf_ltL c18 (sf_any a0) sf_k0
    refine pm_R_op pm_M174 (pc' := 15) (st' := [.int 0]) rfl rfl rfl ?_
    refine pm_R_ret pm_M174 (r := some (.int 0)) rfl rfl ?_
    show pm_R _ 177 13 [.ref 41, .int 0, .int a0] [.int 0] _ _
    refine pm_R_ret pm_M177 (r := some (.int 0)) rfl rfl ?_
    show pm_R _ 196 11 [.ref 41, .int a0, .int a1, .int a2] [.int 0] _ _
    refine pm_R_br pm_M196 (pc' := 62) (st' := []) rfl rfl ?_
    refine pm_R_op pm_M196 (pc' := 63) (st' := [.int (-1)]) rfl rfl rfl ?_
    exact pm_R_ret pm_M196 (r := some (.int (-1))) rfl rfl (K (-1) m4 w h1 T2 F6 W8)
  · have B20 : sf_B 0 2147483647 a0 := sf_leR (Int32.not_lt.mp c18) sf_k0 (sf_any a0)
    refine pm_R_lo pm_M174 (pc' := 6) rfl rfl rfl ?_
    refine pm_R_lo pm_M174 (pc' := 7) rfl rfl rfl ?_
    refine pm_R_icmp pm_M174 (t := 14) (pc' := 10) rfl rfl rfl (fun c21 => ?_) (fun c21 => ?_)
    · skip
      refine pm_R_op pm_M174 (pc' := 15) (st' := [.int 0]) rfl rfl rfl ?_
      refine pm_R_ret pm_M174 (r := some (.int 0)) rfl rfl ?_
      show pm_R _ 177 13 [.ref 41, .int 0, .int a0] [.int 0] _ _
      refine pm_R_ret pm_M177 (r := some (.int 0)) rfl rfl ?_
      show pm_R _ 196 11 [.ref 41, .int a0, .int a1, .int a2] [.int 0] _ _
      refine pm_R_br pm_M196 (pc' := 62) (st' := []) rfl rfl ?_
      refine pm_R_op pm_M196 (pc' := 63) (st' := [.int (-1)]) rfl rfl rfl ?_
      exact pm_R_ret pm_M196 (r := some (.int (-1))) rfl rfl (K (-1) m4 w h1 T2 F6 W8)
    · have B22 : sf_B 0 1 a0 := sf_leL (Int32.not_lt.mp c21) B20 B17
      have B23 : sf_B 0 1 z15 := sf_leR (Int32.not_lt.mp c21) B20 B17
      refine pm_R_op pm_M174 (pc' := 11) (st' := [.int 1]) rfl rfl rfl ?_
      refine pm_R_br pm_M174 (pc' := 15) rfl rfl ?_
      refine pm_R_ret pm_M174 (r := some (.int 1)) rfl rfl ?_
      show pm_R _ 177 13 [.ref 41, .int 0, .int a0] [.int 1] _ _
      refine pm_R_ret pm_M177 (r := some (.int 1)) rfl rfl ?_
      show pm_R _ 196 11 [.ref 41, .int a0, .int a1, .int a2] [.int 1] _ _
      refine pm_R_br pm_M196 (pc' := 14) (st' := []) rfl rfl ?_
      refine pm_R_lo pm_M196 (pc' := 15) rfl rfl rfl ?_
      refine pm_R_op pm_M196 (pc' := 16) (st' := [.int 0, .int a1]) rfl rfl rfl ?_
      refine pm_R_lo pm_M196 (pc' := 17) rfl rfl rfl ?_
      refine rf_R_get pm_M196 T2 (pc' := 20) (v := .ref 47) rfl rfl rfl rfl ?_
      refine pm_R_op pm_M196 (pc' := 22) (st' := [.int 100, .ref 47, .int 0, .int a1]) rfl rfl rfl ?_
      refine pm_R_lo pm_M196 (pc' := 23) rfl rfl rfl ?_
      refine sf_R_imul pm_M196 (pc' := 24) rfl rfl sf_k100 B22 (by decide) (by decide) (by decide) (fun z24 e25 B26 => ?_)
      obtain ⟨f27, e28, b29⟩ := T2.2.2.2.1 47 (by decide) (by decide)
      refine rf_R_ild pm_M196 T2 (pc' := 25) rfl e28 (by decide) (sf_in B26 (by decide) (by decide)) rfl (fun z30 ez31 => ?_)
      have e32 : (z24).toInt = 100 * (a0).toInt + 0 := by
        have q0 := e25
        simp only [(show (100 : Int32).toInt = 100 from rfl)] at q0
        omega
      have B33 : sf_B 0 10 z30 := ez31 ▸ rf_p47a b29 e32 B22 (by decide)
      refine pm_R_op pm_M196 (pc' := 26) (st' := [.int 1, .int z30, .int 0, .int a1]) rfl rfl rfl ?_
      refine sf_R_isub pm_M196 (pc' := 27) rfl rfl B33 sf_k1 (by decide) (by decide) (fun z34 e35 B36 => ?_)
      refine pm_R_cs pm_M196 (pc' := 30) (ra := [.int z34, .int 0, .int a1]) (rest := []) (ls' := [.int a1, .int 0, .int z34]) rfl rfl (Or.inl rfl) pm_M174 rfl rfl (Nat.le_of_ble_eq_true rfl) rfl rfl ?_
      refine pm_R_lo pm_M174 (pc' := 1) rfl rfl rfl ?_
      refine pm_R_lo pm_M174 (pc' := 2) rfl rfl rfl ?_
      refine pm_R_icmp pm_M174 (t := 14) (pc' := 5) rfl rfl rfl (fun c37 => ?_) (fun c37 => ?_)
      · have B38 : sf_B (-2147483648) (-1) a1 := sf_ltL c37 (sf_any a1) sf_k0
        refine pm_R_op pm_M174 (pc' := 15) (st' := [.int 0]) rfl rfl rfl ?_
        refine pm_R_ret pm_M174 (r := some (.int 0)) rfl rfl ?_
        show pm_R _ 196 30 [.ref 41, .int a0, .int a1, .int a2] [.int 0] _ _
        refine pm_R_br pm_M196 (pc' := 62) (st' := []) rfl rfl ?_
        refine pm_R_op pm_M196 (pc' := 63) (st' := [.int (-1)]) rfl rfl rfl ?_
        exact pm_R_ret pm_M196 (r := some (.int (-1))) rfl rfl (K (-1) m4 w h1 T2 F6 W8)
      · have B39 : sf_B 0 2147483647 a1 := sf_leR (Int32.not_lt.mp c37) sf_k0 (sf_any a1)
        refine pm_R_lo pm_M174 (pc' := 6) rfl rfl rfl ?_
        refine pm_R_lo pm_M174 (pc' := 7) rfl rfl rfl ?_
        refine pm_R_icmp pm_M174 (t := 14) (pc' := 10) rfl rfl rfl (fun c40 => ?_) (fun c40 => ?_)
        · skip
          refine pm_R_op pm_M174 (pc' := 15) (st' := [.int 0]) rfl rfl rfl ?_
          refine pm_R_ret pm_M174 (r := some (.int 0)) rfl rfl ?_
          show pm_R _ 196 30 [.ref 41, .int a0, .int a1, .int a2] [.int 0] _ _
          refine pm_R_br pm_M196 (pc' := 62) (st' := []) rfl rfl ?_
          refine pm_R_op pm_M196 (pc' := 63) (st' := [.int (-1)]) rfl rfl rfl ?_
          exact pm_R_ret pm_M196 (r := some (.int (-1))) rfl rfl (K (-1) m4 w h1 T2 F6 W8)
        · have B41 : sf_B 0 9 a1 := sf_leL (Int32.not_lt.mp c40) B39 B36
          have B42 : sf_B 0 9 z34 := sf_leR (Int32.not_lt.mp c40) B39 B36
          refine pm_R_op pm_M174 (pc' := 11) (st' := [.int 1]) rfl rfl rfl ?_
          refine pm_R_br pm_M174 (pc' := 15) rfl rfl ?_
          refine pm_R_ret pm_M174 (r := some (.int 1)) rfl rfl ?_
          show pm_R _ 196 30 [.ref 41, .int a0, .int a1, .int a2] [.int 1] _ _
          refine pm_R_br pm_M196 (pc' := 33) (st' := []) rfl rfl ?_
          refine pm_R_lo pm_M196 (pc' := 34) rfl rfl rfl ?_
          refine pm_R_op pm_M196 (pc' := 35) (st' := [.int 0, .int a2]) rfl rfl rfl ?_
          refine pm_R_op pm_M196 (pc' := 36) (st' := [.int 3, .int 0, .int a2]) rfl rfl rfl ?_
          refine pm_R_cs pm_M196 (pc' := 39) (ra := [.int 3, .int 0, .int a2]) (rest := []) (ls' := [.int a2, .int 0, .int 3]) rfl rfl (Or.inl rfl) pm_M174 rfl rfl (Nat.le_of_ble_eq_true rfl) rfl rfl ?_
          refine pm_R_lo pm_M174 (pc' := 1) rfl rfl rfl ?_
          refine pm_R_lo pm_M174 (pc' := 2) rfl rfl rfl ?_
          refine pm_R_icmp pm_M174 (t := 14) (pc' := 5) rfl rfl rfl (fun c43 => ?_) (fun c43 => ?_)
          · have B44 : sf_B (-2147483648) (-1) a2 := sf_ltL c43 (sf_any a2) sf_k0
            refine pm_R_op pm_M174 (pc' := 15) (st' := [.int 0]) rfl rfl rfl ?_
            refine pm_R_ret pm_M174 (r := some (.int 0)) rfl rfl ?_
            show pm_R _ 196 39 [.ref 41, .int a0, .int a1, .int a2] [.int 0] _ _
            refine pm_R_br pm_M196 (pc' := 62) (st' := []) rfl rfl ?_
            refine pm_R_op pm_M196 (pc' := 63) (st' := [.int (-1)]) rfl rfl rfl ?_
            exact pm_R_ret pm_M196 (r := some (.int (-1))) rfl rfl (K (-1) m4 w h1 T2 F6 W8)
          · have B45 : sf_B 0 2147483647 a2 := sf_leR (Int32.not_lt.mp c43) sf_k0 (sf_any a2)
            refine pm_R_lo pm_M174 (pc' := 6) rfl rfl rfl ?_
            refine pm_R_lo pm_M174 (pc' := 7) rfl rfl rfl ?_
            refine pm_R_icmp pm_M174 (t := 14) (pc' := 10) rfl rfl rfl (fun c46 => ?_) (fun c46 => ?_)
            · have B47 : sf_B 4 2147483647 a2 := sf_ltR c46 sf_k3 B45
              refine pm_R_op pm_M174 (pc' := 15) (st' := [.int 0]) rfl rfl rfl ?_
              refine pm_R_ret pm_M174 (r := some (.int 0)) rfl rfl ?_
              show pm_R _ 196 39 [.ref 41, .int a0, .int a1, .int a2] [.int 0] _ _
              refine pm_R_br pm_M196 (pc' := 62) (st' := []) rfl rfl ?_
              refine pm_R_op pm_M196 (pc' := 63) (st' := [.int (-1)]) rfl rfl rfl ?_
              exact pm_R_ret pm_M196 (r := some (.int (-1))) rfl rfl (K (-1) m4 w h1 T2 F6 W8)
            · have B48 : sf_B 0 3 a2 := sf_leL (Int32.not_lt.mp c46) B45 sf_k3
              refine pm_R_op pm_M174 (pc' := 11) (st' := [.int 1]) rfl rfl rfl ?_
              refine pm_R_br pm_M174 (pc' := 15) rfl rfl ?_
              refine pm_R_ret pm_M174 (r := some (.int 1)) rfl rfl ?_
              show pm_R _ 196 39 [.ref 41, .int a0, .int a1, .int a2] [.int 1] _ _
              refine pm_R_br pm_M196 (pc' := 42) (st' := []) rfl rfl ?_
              refine pm_R_lo pm_M196 (pc' := 43) rfl rfl rfl ?_
              refine rf_R_get pm_M196 T2 (pc' := 46) (v := .ref 47) rfl rfl rfl rfl ?_
              refine pm_R_op pm_M196 (pc' := 48) (st' := [.int 100, .ref 47]) rfl rfl rfl ?_
              refine pm_R_lo pm_M196 (pc' := 49) rfl rfl rfl ?_
              refine sf_R_imul pm_M196 (pc' := 50) rfl rfl sf_k100 B22 (by decide) (by decide) (by decide) (fun z49 e50 B51 => ?_)
              refine pm_R_op pm_M196 (pc' := 51) (st' := [.int 2, .int z49, .ref 47]) rfl rfl rfl ?_
              refine sf_R_iadd pm_M196 (pc' := 52) rfl rfl B51 sf_k2 (by decide) (by decide) (fun z52 e53 B54 => ?_)
              refine pm_R_op pm_M196 (pc' := 53) (st' := [.int 4, .int z52, .ref 47]) rfl rfl rfl ?_
              refine pm_R_lo pm_M196 (pc' := 54) rfl rfl rfl ?_
              refine sf_R_imul pm_M196 (pc' := 55) rfl rfl sf_k4 B41 (by decide) (by decide) (by decide) (fun z55 e56 B57 => ?_)
              refine sf_R_iadd pm_M196 (pc' := 56) rfl rfl B54 B57 (by decide) (by decide) (fun z58 e59 B60 => ?_)
              refine pm_R_lo pm_M196 (pc' := 57) rfl rfl rfl ?_
              refine sf_R_iadd pm_M196 (pc' := 58) rfl rfl B60 B48 (by decide) (by decide) (fun z61 e62 B63 => ?_)
              refine rf_R_ild pm_M196 T2 (pc' := 59) rfl e28 (by decide) (sf_in B63 (by decide) (by decide)) rfl (fun z64 ez65 => ?_)
              refine pm_R_br pm_M196 (pc' := 63) rfl rfl ?_
              exact pm_R_ret pm_M196 (r := some (.int z64)) rfl (pm_ret_i _) (K z64 m4 w h1 T2 F6 W8)

set_option maxRecDepth 100000 in
set_option maxHeartbeats 4000000 in
/-- SilentTableModel.reading -/
theorem rf_c197 {d : Nat} {m : Nat → Int32} {w : Int64} {h : pm_H} {Q : Option Value → pm_H → Prop} {a0 : Int32} {a1 : Int32} {a2 : Int32} (T : rf_T m w h)  (K : ∀ (r : Int32) (m' : Nat → Int32) (w' : Int64) (h' : pm_H), rf_T m' w' h' → rf_F h h' → rf_W [0] m m' → Q (some (.int r)) h') : pm_R (d + 2) 197 0 [.ref 41, .int a0, .int a1, .int a2] [] h Q := by
  refine pm_R_lo pm_M197 (pc' := 1) rfl rfl rfl ?_
  refine pm_R_op pm_M197 (pc' := 2) (st' := [.int 0, .ref 41]) rfl rfl rfl ?_
  refine rf_R_put pm_M197 T (pc' := 5) rfl rfl rfl (by decide) rfl rfl sf_k0 rfl rfl (fun h1 m4 em5 T2 F3 => ?_)
  have F6 := (rf_F.refl h).trans F3
  have B7 : sf_B 0 0 (m4 0) := by rw [em5]; exact sf_k0
  have W8 : rf_W [0] m m4 := by rw [em5]; exact (rf_W.refl [0] m).put (by decide)
  refine pm_R_lo pm_M197 (pc' := 6) rfl rfl rfl ?_
  refine pm_R_op pm_M197 (pc' := 7) (st' := [.int 0, .ref 41]) rfl rfl rfl ?_
  refine pm_R_lo pm_M197 (pc' := 8) rfl rfl rfl ?_
  refine pm_R_cv pm_M197 (pc' := 11) (a := 41) (ra := [.int a0, .int 0]) (rest := []) (ls' := [.ref 41, .int 0, .int a0]) rfl rfl (Or.inl rfl) pm_M177 T2.2.1 rfl (by decide) (Nat.lt_of_lt_of_le (by decide) T2.1) rfl rfl (Nat.le_of_ble_eq_true rfl) rfl rfl ?_
  refine pm_R_lo pm_M177 (pc' := 1) rfl rfl rfl ?_
  refine pm_R_op pm_M177 (pc' := 2) (st' := [.int 0, .int a0]) rfl rfl rfl ?_
  refine pm_R_lo pm_M177 (pc' := 3) rfl rfl rfl ?_
  refine rf_R_get pm_M177 T2 (pc' := 6) (v := .ref 46) rfl rfl rfl rfl ?_
  refine pm_R_lo pm_M177 (pc' := 7) rfl rfl rfl ?_
  obtain ⟨f9, e10, b11⟩ := T2.2.2.2.1 46 (by decide) (by decide)
  refine rf_R_ild pm_M177 T2 (pc' := 8) rfl e10 (by decide) rfl rfl (fun z12 ez13 => ?_)
  have B14 : sf_B 0 2 z12 := ez13 ▸ (b11 0)
  refine pm_R_op pm_M177 (pc' := 9) (st' := [.int 1, .int z12, .int 0, .int a0]) rfl rfl rfl ?_
  refine sf_R_isub pm_M177 (pc' := 10) rfl rfl B14 sf_k1 (by decide) (by decide) (fun z15 e16 B17 => ?_)
  refine pm_R_cs pm_M177 (pc' := 13) (ra := [.int z15, .int 0, .int a0]) (rest := []) (ls' := [.int a0, .int 0, .int z15]) rfl rfl (Or.inl rfl) pm_M174 rfl rfl (Nat.le_of_ble_eq_true rfl) rfl rfl ?_
  refine pm_R_lo pm_M174 (pc' := 1) rfl rfl rfl ?_
  refine pm_R_lo pm_M174 (pc' := 2) rfl rfl rfl ?_
  refine pm_R_icmp pm_M174 (t := 14) (pc' := 5) rfl rfl rfl (fun c18 => ?_) (fun c18 => ?_)
  · have B19 : sf_B (-2147483648) (-1) a0 := sf_ltL c18 (sf_any a0) sf_k0
    refine pm_R_op pm_M174 (pc' := 15) (st' := [.int 0]) rfl rfl rfl ?_
    refine pm_R_ret pm_M174 (r := some (.int 0)) rfl rfl ?_
    show pm_R _ 177 13 [.ref 41, .int 0, .int a0] [.int 0] _ _
    refine pm_R_ret pm_M177 (r := some (.int 0)) rfl rfl ?_
    show pm_R _ 197 11 [.ref 41, .int a0, .int a1, .int a2] [.int 0] _ _
    refine pm_R_br pm_M197 (pc' := 65) (st' := []) rfl rfl ?_
    refine pm_R_op pm_M197 (pc' := 66) (st' := [.int (-1)]) rfl rfl rfl ?_
    exact pm_R_ret pm_M197 (r := some (.int (-1))) rfl rfl (K (-1) m4 w h1 T2 F6 W8)
  · have B20 : sf_B 0 2147483647 a0 := sf_leR (Int32.not_lt.mp c18) sf_k0 (sf_any a0)
    refine pm_R_lo pm_M174 (pc' := 6) rfl rfl rfl ?_
    refine pm_R_lo pm_M174 (pc' := 7) rfl rfl rfl ?_
    refine pm_R_icmp pm_M174 (t := 14) (pc' := 10) rfl rfl rfl (fun c21 => ?_) (fun c21 => ?_)
    · skip
      refine pm_R_op pm_M174 (pc' := 15) (st' := [.int 0]) rfl rfl rfl ?_
      refine pm_R_ret pm_M174 (r := some (.int 0)) rfl rfl ?_
      show pm_R _ 177 13 [.ref 41, .int 0, .int a0] [.int 0] _ _
      refine pm_R_ret pm_M177 (r := some (.int 0)) rfl rfl ?_
      show pm_R _ 197 11 [.ref 41, .int a0, .int a1, .int a2] [.int 0] _ _
      refine pm_R_br pm_M197 (pc' := 65) (st' := []) rfl rfl ?_
      refine pm_R_op pm_M197 (pc' := 66) (st' := [.int (-1)]) rfl rfl rfl ?_
      exact pm_R_ret pm_M197 (r := some (.int (-1))) rfl rfl (K (-1) m4 w h1 T2 F6 W8)
    · have B22 : sf_B 0 1 a0 := sf_leL (Int32.not_lt.mp c21) B20 B17
      have B23 : sf_B 0 1 z15 := sf_leR (Int32.not_lt.mp c21) B20 B17
      refine pm_R_op pm_M174 (pc' := 11) (st' := [.int 1]) rfl rfl rfl ?_
      refine pm_R_br pm_M174 (pc' := 15) rfl rfl ?_
      refine pm_R_ret pm_M174 (r := some (.int 1)) rfl rfl ?_
      show pm_R _ 177 13 [.ref 41, .int 0, .int a0] [.int 1] _ _
      refine pm_R_ret pm_M177 (r := some (.int 1)) rfl rfl ?_
      show pm_R _ 197 11 [.ref 41, .int a0, .int a1, .int a2] [.int 1] _ _
      refine pm_R_br pm_M197 (pc' := 14) (st' := []) rfl rfl ?_
      refine pm_R_lo pm_M197 (pc' := 15) rfl rfl rfl ?_
      refine pm_R_op pm_M197 (pc' := 16) (st' := [.int 0, .int a1]) rfl rfl rfl ?_
      refine pm_R_lo pm_M197 (pc' := 17) rfl rfl rfl ?_
      refine rf_R_get pm_M197 T2 (pc' := 20) (v := .ref 47) rfl rfl rfl rfl ?_
      refine pm_R_op pm_M197 (pc' := 22) (st' := [.int 100, .ref 47, .int 0, .int a1]) rfl rfl rfl ?_
      refine pm_R_lo pm_M197 (pc' := 23) rfl rfl rfl ?_
      refine sf_R_imul pm_M197 (pc' := 24) rfl rfl sf_k100 B22 (by decide) (by decide) (by decide) (fun z24 e25 B26 => ?_)
      refine pm_R_op pm_M197 (pc' := 25) (st' := [.int 1, .int z24, .ref 47, .int 0, .int a1]) rfl rfl rfl ?_
      refine sf_R_iadd pm_M197 (pc' := 26) rfl rfl B26 sf_k1 (by decide) (by decide) (fun z27 e28 B29 => ?_)
      obtain ⟨f30, e31, b32⟩ := T2.2.2.2.1 47 (by decide) (by decide)
      refine rf_R_ild pm_M197 T2 (pc' := 27) rfl e31 (by decide) (sf_in B29 (by decide) (by decide)) rfl (fun z33 ez34 => ?_)
      have e35 : (z27).toInt = 100 * (a0).toInt + 1 := by
        have q0 := e25
        have q1 := e28
        simp only [(show (1 : Int32).toInt = 1 from rfl), (show (100 : Int32).toInt = 100 from rfl)] at q0 q1
        omega
      have B36 : sf_B 0 16 z33 := ez34 ▸ rf_p47b b32 e35 B22 (by decide)
      refine pm_R_op pm_M197 (pc' := 28) (st' := [.int 1, .int z33, .int 0, .int a1]) rfl rfl rfl ?_
      refine sf_R_isub pm_M197 (pc' := 29) rfl rfl B36 sf_k1 (by decide) (by decide) (fun z37 e38 B39 => ?_)
      refine pm_R_cs pm_M197 (pc' := 32) (ra := [.int z37, .int 0, .int a1]) (rest := []) (ls' := [.int a1, .int 0, .int z37]) rfl rfl (Or.inl rfl) pm_M174 rfl rfl (Nat.le_of_ble_eq_true rfl) rfl rfl ?_
      refine pm_R_lo pm_M174 (pc' := 1) rfl rfl rfl ?_
      refine pm_R_lo pm_M174 (pc' := 2) rfl rfl rfl ?_
      refine pm_R_icmp pm_M174 (t := 14) (pc' := 5) rfl rfl rfl (fun c40 => ?_) (fun c40 => ?_)
      · have B41 : sf_B (-2147483648) (-1) a1 := sf_ltL c40 (sf_any a1) sf_k0
        refine pm_R_op pm_M174 (pc' := 15) (st' := [.int 0]) rfl rfl rfl ?_
        refine pm_R_ret pm_M174 (r := some (.int 0)) rfl rfl ?_
        show pm_R _ 197 32 [.ref 41, .int a0, .int a1, .int a2] [.int 0] _ _
        refine pm_R_br pm_M197 (pc' := 65) (st' := []) rfl rfl ?_
        refine pm_R_op pm_M197 (pc' := 66) (st' := [.int (-1)]) rfl rfl rfl ?_
        exact pm_R_ret pm_M197 (r := some (.int (-1))) rfl rfl (K (-1) m4 w h1 T2 F6 W8)
      · have B42 : sf_B 0 2147483647 a1 := sf_leR (Int32.not_lt.mp c40) sf_k0 (sf_any a1)
        refine pm_R_lo pm_M174 (pc' := 6) rfl rfl rfl ?_
        refine pm_R_lo pm_M174 (pc' := 7) rfl rfl rfl ?_
        refine pm_R_icmp pm_M174 (t := 14) (pc' := 10) rfl rfl rfl (fun c43 => ?_) (fun c43 => ?_)
        · skip
          refine pm_R_op pm_M174 (pc' := 15) (st' := [.int 0]) rfl rfl rfl ?_
          refine pm_R_ret pm_M174 (r := some (.int 0)) rfl rfl ?_
          show pm_R _ 197 32 [.ref 41, .int a0, .int a1, .int a2] [.int 0] _ _
          refine pm_R_br pm_M197 (pc' := 65) (st' := []) rfl rfl ?_
          refine pm_R_op pm_M197 (pc' := 66) (st' := [.int (-1)]) rfl rfl rfl ?_
          exact pm_R_ret pm_M197 (r := some (.int (-1))) rfl rfl (K (-1) m4 w h1 T2 F6 W8)
        · have B44 : sf_B 0 15 a1 := sf_leL (Int32.not_lt.mp c43) B42 B39
          have B45 : sf_B 0 15 z37 := sf_leR (Int32.not_lt.mp c43) B42 B39
          refine pm_R_op pm_M174 (pc' := 11) (st' := [.int 1]) rfl rfl rfl ?_
          refine pm_R_br pm_M174 (pc' := 15) rfl rfl ?_
          refine pm_R_ret pm_M174 (r := some (.int 1)) rfl rfl ?_
          show pm_R _ 197 32 [.ref 41, .int a0, .int a1, .int a2] [.int 1] _ _
          refine pm_R_br pm_M197 (pc' := 35) (st' := []) rfl rfl ?_
          refine pm_R_lo pm_M197 (pc' := 36) rfl rfl rfl ?_
          refine pm_R_op pm_M197 (pc' := 37) (st' := [.int 0, .int a2]) rfl rfl rfl ?_
          refine pm_R_op pm_M197 (pc' := 38) (st' := [.int 2, .int 0, .int a2]) rfl rfl rfl ?_
          refine pm_R_cs pm_M197 (pc' := 41) (ra := [.int 2, .int 0, .int a2]) (rest := []) (ls' := [.int a2, .int 0, .int 2]) rfl rfl (Or.inl rfl) pm_M174 rfl rfl (Nat.le_of_ble_eq_true rfl) rfl rfl ?_
          refine pm_R_lo pm_M174 (pc' := 1) rfl rfl rfl ?_
          refine pm_R_lo pm_M174 (pc' := 2) rfl rfl rfl ?_
          refine pm_R_icmp pm_M174 (t := 14) (pc' := 5) rfl rfl rfl (fun c46 => ?_) (fun c46 => ?_)
          · have B47 : sf_B (-2147483648) (-1) a2 := sf_ltL c46 (sf_any a2) sf_k0
            refine pm_R_op pm_M174 (pc' := 15) (st' := [.int 0]) rfl rfl rfl ?_
            refine pm_R_ret pm_M174 (r := some (.int 0)) rfl rfl ?_
            show pm_R _ 197 41 [.ref 41, .int a0, .int a1, .int a2] [.int 0] _ _
            refine pm_R_br pm_M197 (pc' := 65) (st' := []) rfl rfl ?_
            refine pm_R_op pm_M197 (pc' := 66) (st' := [.int (-1)]) rfl rfl rfl ?_
            exact pm_R_ret pm_M197 (r := some (.int (-1))) rfl rfl (K (-1) m4 w h1 T2 F6 W8)
          · have B48 : sf_B 0 2147483647 a2 := sf_leR (Int32.not_lt.mp c46) sf_k0 (sf_any a2)
            refine pm_R_lo pm_M174 (pc' := 6) rfl rfl rfl ?_
            refine pm_R_lo pm_M174 (pc' := 7) rfl rfl rfl ?_
            refine pm_R_icmp pm_M174 (t := 14) (pc' := 10) rfl rfl rfl (fun c49 => ?_) (fun c49 => ?_)
            · have B50 : sf_B 3 2147483647 a2 := sf_ltR c49 sf_k2 B48
              refine pm_R_op pm_M174 (pc' := 15) (st' := [.int 0]) rfl rfl rfl ?_
              refine pm_R_ret pm_M174 (r := some (.int 0)) rfl rfl ?_
              show pm_R _ 197 41 [.ref 41, .int a0, .int a1, .int a2] [.int 0] _ _
              refine pm_R_br pm_M197 (pc' := 65) (st' := []) rfl rfl ?_
              refine pm_R_op pm_M197 (pc' := 66) (st' := [.int (-1)]) rfl rfl rfl ?_
              exact pm_R_ret pm_M197 (r := some (.int (-1))) rfl rfl (K (-1) m4 w h1 T2 F6 W8)
            · have B51 : sf_B 0 2 a2 := sf_leL (Int32.not_lt.mp c49) B48 sf_k2
              refine pm_R_op pm_M174 (pc' := 11) (st' := [.int 1]) rfl rfl rfl ?_
              refine pm_R_br pm_M174 (pc' := 15) rfl rfl ?_
              refine pm_R_ret pm_M174 (r := some (.int 1)) rfl rfl ?_
              show pm_R _ 197 41 [.ref 41, .int a0, .int a1, .int a2] [.int 1] _ _
              refine pm_R_br pm_M197 (pc' := 44) (st' := []) rfl rfl ?_
              refine pm_R_lo pm_M197 (pc' := 45) rfl rfl rfl ?_
              refine rf_R_get pm_M197 T2 (pc' := 48) (v := .ref 47) rfl rfl rfl rfl ?_
              refine pm_R_op pm_M197 (pc' := 50) (st' := [.int 100, .ref 47]) rfl rfl rfl ?_
              refine pm_R_lo pm_M197 (pc' := 51) rfl rfl rfl ?_
              refine sf_R_imul pm_M197 (pc' := 52) rfl rfl sf_k100 B22 (by decide) (by decide) (by decide) (fun z52 e53 B54 => ?_)
              refine pm_R_op pm_M197 (pc' := 54) (st' := [.int 42, .int z52, .ref 47]) rfl rfl rfl ?_
              refine sf_R_iadd pm_M197 (pc' := 55) rfl rfl B54 sf_k42 (by decide) (by decide) (fun z55 e56 B57 => ?_)
              refine pm_R_op pm_M197 (pc' := 56) (st' := [.int 3, .int z55, .ref 47]) rfl rfl rfl ?_
              refine pm_R_lo pm_M197 (pc' := 57) rfl rfl rfl ?_
              refine sf_R_imul pm_M197 (pc' := 58) rfl rfl sf_k3 B44 (by decide) (by decide) (by decide) (fun z58 e59 B60 => ?_)
              refine sf_R_iadd pm_M197 (pc' := 59) rfl rfl B57 B60 (by decide) (by decide) (fun z61 e62 B63 => ?_)
              refine pm_R_lo pm_M197 (pc' := 60) rfl rfl rfl ?_
              refine sf_R_iadd pm_M197 (pc' := 61) rfl rfl B63 B51 (by decide) (by decide) (fun z64 e65 B66 => ?_)
              refine rf_R_ild pm_M197 T2 (pc' := 62) rfl e31 (by decide) (sf_in B66 (by decide) (by decide)) rfl (fun z67 ez68 => ?_)
              refine pm_R_br pm_M197 (pc' := 66) rfl rfl ?_
              exact pm_R_ret pm_M197 (r := some (.int z67)) rfl (pm_ret_i _) (K z67 m4 w h1 T2 F6 W8)

set_option maxRecDepth 100000 in
set_option maxHeartbeats 4000000 in
/-- SilentTableModel.row -/
theorem rf_c198 {d : Nat} {m : Nat → Int32} {w : Int64} {h : pm_H} {Q : Option Value → pm_H → Prop} {a0 : Int32} {a1 : Int32} (T : rf_T m w h)  (K : ∀ (r : Int32) (m' : Nat → Int32) (w' : Int64) (h' : pm_H), rf_T m' w' h' → rf_F h h' → rf_W [0] m m' → sf_B (-2) 12 r → Q (some (.int r)) h') : pm_R (d + 2) 198 0 [.ref 41, .int a0, .int a1] [] h Q := by
  refine pm_R_lo pm_M198 (pc' := 1) rfl rfl rfl ?_
  refine pm_R_op pm_M198 (pc' := 2) (st' := [.int 0, .ref 41]) rfl rfl rfl ?_
  refine rf_R_put pm_M198 T (pc' := 5) rfl rfl rfl (by decide) rfl rfl sf_k0 rfl rfl (fun h1 m4 em5 T2 F3 => ?_)
  have F6 := (rf_F.refl h).trans F3
  have B7 : sf_B 0 0 (m4 0) := by rw [em5]; exact sf_k0
  have W8 : rf_W [0] m m4 := by rw [em5]; exact (rf_W.refl [0] m).put (by decide)
  refine pm_R_lo pm_M198 (pc' := 6) rfl rfl rfl ?_
  refine pm_R_op pm_M198 (pc' := 7) (st' := [.int 1, .ref 41]) rfl rfl rfl ?_
  refine pm_R_lo pm_M198 (pc' := 8) rfl rfl rfl ?_
  refine pm_R_cv pm_M198 (pc' := 11) (a := 41) (ra := [.int a0, .int 1]) (rest := []) (ls' := [.ref 41, .int 1, .int a0]) rfl rfl (Or.inl rfl) pm_M177 T2.2.1 rfl (by decide) (Nat.lt_of_lt_of_le (by decide) T2.1) rfl rfl (Nat.le_of_ble_eq_true rfl) rfl rfl ?_
  refine pm_R_lo pm_M177 (pc' := 1) rfl rfl rfl ?_
  refine pm_R_op pm_M177 (pc' := 2) (st' := [.int 0, .int a0]) rfl rfl rfl ?_
  refine pm_R_lo pm_M177 (pc' := 3) rfl rfl rfl ?_
  refine rf_R_get pm_M177 T2 (pc' := 6) (v := .ref 46) rfl rfl rfl rfl ?_
  refine pm_R_lo pm_M177 (pc' := 7) rfl rfl rfl ?_
  obtain ⟨f9, e10, b11⟩ := T2.2.2.2.1 46 (by decide) (by decide)
  refine rf_R_ild pm_M177 T2 (pc' := 8) rfl e10 (by decide) rfl rfl (fun z12 ez13 => ?_)
  have B14 : sf_B 0 3 z12 := ez13 ▸ (b11 1)
  refine pm_R_op pm_M177 (pc' := 9) (st' := [.int 1, .int z12, .int 0, .int a0]) rfl rfl rfl ?_
  refine sf_R_isub pm_M177 (pc' := 10) rfl rfl B14 sf_k1 (by decide) (by decide) (fun z15 e16 B17 => ?_)
  refine pm_R_cs pm_M177 (pc' := 13) (ra := [.int z15, .int 0, .int a0]) (rest := []) (ls' := [.int a0, .int 0, .int z15]) rfl rfl (Or.inl rfl) pm_M174 rfl rfl (Nat.le_of_ble_eq_true rfl) rfl rfl ?_
  refine pm_R_lo pm_M174 (pc' := 1) rfl rfl rfl ?_
  refine pm_R_lo pm_M174 (pc' := 2) rfl rfl rfl ?_
  refine pm_R_icmp pm_M174 (t := 14) (pc' := 5) rfl rfl rfl (fun c18 => ?_) (fun c18 => ?_)
  · have B19 : sf_B (-2147483648) (-1) a0 := sf_ltL c18 (sf_any a0) sf_k0
    refine pm_R_op pm_M174 (pc' := 15) (st' := [.int 0]) rfl rfl rfl ?_
    refine pm_R_ret pm_M174 (r := some (.int 0)) rfl rfl ?_
    show pm_R _ 177 13 [.ref 41, .int 1, .int a0] [.int 0] _ _
    refine pm_R_ret pm_M177 (r := some (.int 0)) rfl rfl ?_
    show pm_R _ 198 11 [.ref 41, .int a0, .int a1] [.int 0] _ _
    refine pm_R_br pm_M198 (pc' := 14) (st' := []) rfl rfl ?_
    refine pm_R_op pm_M198 (pc' := 16) (st' := [.int (-2)]) rfl rfl rfl ?_
    exact pm_R_ret pm_M198 (r := some (.int (-2))) rfl rfl (K (-2) m4 w h1 T2 F6 W8 (sf_weak sf_kn2 (by decide) (by decide)))
  · have B20 : sf_B 0 2147483647 a0 := sf_leR (Int32.not_lt.mp c18) sf_k0 (sf_any a0)
    refine pm_R_lo pm_M174 (pc' := 6) rfl rfl rfl ?_
    refine pm_R_lo pm_M174 (pc' := 7) rfl rfl rfl ?_
    refine pm_R_icmp pm_M174 (t := 14) (pc' := 10) rfl rfl rfl (fun c21 => ?_) (fun c21 => ?_)
    · skip
      refine pm_R_op pm_M174 (pc' := 15) (st' := [.int 0]) rfl rfl rfl ?_
      refine pm_R_ret pm_M174 (r := some (.int 0)) rfl rfl ?_
      show pm_R _ 177 13 [.ref 41, .int 1, .int a0] [.int 0] _ _
      refine pm_R_ret pm_M177 (r := some (.int 0)) rfl rfl ?_
      show pm_R _ 198 11 [.ref 41, .int a0, .int a1] [.int 0] _ _
      refine pm_R_br pm_M198 (pc' := 14) (st' := []) rfl rfl ?_
      refine pm_R_op pm_M198 (pc' := 16) (st' := [.int (-2)]) rfl rfl rfl ?_
      exact pm_R_ret pm_M198 (r := some (.int (-2))) rfl rfl (K (-2) m4 w h1 T2 F6 W8 (sf_weak sf_kn2 (by decide) (by decide)))
    · have B22 : sf_B 0 2 a0 := sf_leL (Int32.not_lt.mp c21) B20 B17
      have B23 : sf_B 0 2 z15 := sf_leR (Int32.not_lt.mp c21) B20 B17
      refine pm_R_op pm_M174 (pc' := 11) (st' := [.int 1]) rfl rfl rfl ?_
      refine pm_R_br pm_M174 (pc' := 15) rfl rfl ?_
      refine pm_R_ret pm_M174 (r := some (.int 1)) rfl rfl ?_
      show pm_R _ 177 13 [.ref 41, .int 1, .int a0] [.int 1] _ _
      refine pm_R_ret pm_M177 (r := some (.int 1)) rfl rfl ?_
      show pm_R _ 198 11 [.ref 41, .int a0, .int a1] [.int 1] _ _
      refine pm_R_br pm_M198 (pc' := 17) (st' := []) rfl rfl ?_
      refine pm_R_lo pm_M198 (pc' := 18) rfl rfl rfl ?_
      refine pm_R_op pm_M198 (pc' := 19) (st' := [.int (-1), .int a1]) rfl rfl rfl ?_
      refine pm_R_icmp pm_M198 (t := 34) (pc' := 22) rfl rfl rfl (fun c24 => ?_) (fun c24 => ?_)
      · skip
        refine pm_R_lo pm_M198 (pc' := 35) rfl rfl rfl ?_
        refine pm_R_op pm_M198 (pc' := 36) (st' := [.int 0, .int a1]) rfl rfl rfl ?_
        refine pm_R_lo pm_M198 (pc' := 37) rfl rfl rfl ?_
        refine rf_R_get pm_M198 T2 (pc' := 40) (v := .ref 48) rfl rfl rfl rfl ?_
        refine pm_R_op pm_M198 (pc' := 42) (st' := [.int 13, .ref 48, .int 0, .int a1]) rfl rfl rfl ?_
        refine pm_R_lo pm_M198 (pc' := 43) rfl rfl rfl ?_
        refine sf_R_imul pm_M198 (pc' := 44) rfl rfl sf_k13 B22 (by decide) (by decide) (by decide) (fun z25 e26 B27 => ?_)
        obtain ⟨f28, e29, b30⟩ := T2.2.2.2.1 48 (by decide) (by decide)
        refine rf_R_ild pm_M198 T2 (pc' := 45) rfl e29 (by decide) (sf_in B27 (by decide) (by decide)) rfl (fun z31 ez32 => ?_)
        have e33 : (z25).toInt = 13 * (a0).toInt + 0 := by
          have q0 := e26
          simp only [(show (13 : Int32).toInt = 13 from rfl)] at q0
          omega
        have B34 : sf_B 0 12 z31 := ez32 ▸ rf_p48a b30 e33 B22 (by decide)
        refine pm_R_op pm_M198 (pc' := 46) (st' := [.int 1, .int z31, .int 0, .int a1]) rfl rfl rfl ?_
        refine sf_R_isub pm_M198 (pc' := 47) rfl rfl B34 sf_k1 (by decide) (by decide) (fun z35 e36 B37 => ?_)
        refine pm_R_cs pm_M198 (pc' := 50) (ra := [.int z35, .int 0, .int a1]) (rest := []) (ls' := [.int a1, .int 0, .int z35]) rfl rfl (Or.inl rfl) pm_M174 rfl rfl (Nat.le_of_ble_eq_true rfl) rfl rfl ?_
        refine pm_R_lo pm_M174 (pc' := 1) rfl rfl rfl ?_
        refine pm_R_lo pm_M174 (pc' := 2) rfl rfl rfl ?_
        refine pm_R_icmp pm_M174 (t := 14) (pc' := 5) rfl rfl rfl (fun c38 => ?_) (fun c38 => ?_)
        · have B39 : sf_B (-2147483648) (-1) a1 := sf_ltL c38 (sf_any a1) sf_k0
          refine pm_R_op pm_M174 (pc' := 15) (st' := [.int 0]) rfl rfl rfl ?_
          refine pm_R_ret pm_M174 (r := some (.int 0)) rfl rfl ?_
          show pm_R _ 198 50 [.ref 41, .int a0, .int a1] [.int 0] _ _
          refine pm_R_br pm_M198 (pc' := 69) (st' := []) rfl rfl ?_
          refine pm_R_op pm_M198 (pc' := 71) (st' := [.int (-2)]) rfl rfl rfl ?_
          exact pm_R_ret pm_M198 (r := some (.int (-2))) rfl rfl (K (-2) m4 w h1 T2 F6 W8 (sf_weak sf_kn2 (by decide) (by decide)))
        · have B40 : sf_B 0 2147483647 a1 := sf_leR (Int32.not_lt.mp c38) sf_k0 (sf_any a1)
          refine pm_R_lo pm_M174 (pc' := 6) rfl rfl rfl ?_
          refine pm_R_lo pm_M174 (pc' := 7) rfl rfl rfl ?_
          refine pm_R_icmp pm_M174 (t := 14) (pc' := 10) rfl rfl rfl (fun c41 => ?_) (fun c41 => ?_)
          · skip
            refine pm_R_op pm_M174 (pc' := 15) (st' := [.int 0]) rfl rfl rfl ?_
            refine pm_R_ret pm_M174 (r := some (.int 0)) rfl rfl ?_
            show pm_R _ 198 50 [.ref 41, .int a0, .int a1] [.int 0] _ _
            refine pm_R_br pm_M198 (pc' := 69) (st' := []) rfl rfl ?_
            refine pm_R_op pm_M198 (pc' := 71) (st' := [.int (-2)]) rfl rfl rfl ?_
            exact pm_R_ret pm_M198 (r := some (.int (-2))) rfl rfl (K (-2) m4 w h1 T2 F6 W8 (sf_weak sf_kn2 (by decide) (by decide)))
          · have B42 : sf_B 0 11 a1 := sf_leL (Int32.not_lt.mp c41) B40 B37
            have B43 : sf_B 0 11 z35 := sf_leR (Int32.not_lt.mp c41) B40 B37
            refine pm_R_op pm_M174 (pc' := 11) (st' := [.int 1]) rfl rfl rfl ?_
            refine pm_R_br pm_M174 (pc' := 15) rfl rfl ?_
            refine pm_R_ret pm_M174 (r := some (.int 1)) rfl rfl ?_
            show pm_R _ 198 50 [.ref 41, .int a0, .int a1] [.int 1] _ _
            refine pm_R_br pm_M198 (pc' := 53) (st' := []) rfl rfl ?_
            refine pm_R_lo pm_M198 (pc' := 54) rfl rfl rfl ?_
            refine rf_R_get pm_M198 T2 (pc' := 57) (v := .ref 48) rfl rfl rfl rfl ?_
            refine pm_R_op pm_M198 (pc' := 59) (st' := [.int 13, .ref 48]) rfl rfl rfl ?_
            refine pm_R_lo pm_M198 (pc' := 60) rfl rfl rfl ?_
            refine sf_R_imul pm_M198 (pc' := 61) rfl rfl sf_k13 B22 (by decide) (by decide) (by decide) (fun z44 e45 B46 => ?_)
            refine pm_R_op pm_M198 (pc' := 62) (st' := [.int 1, .int z44, .ref 48]) rfl rfl rfl ?_
            refine sf_R_iadd pm_M198 (pc' := 63) rfl rfl B46 sf_k1 (by decide) (by decide) (fun z47 e48 B49 => ?_)
            refine pm_R_lo pm_M198 (pc' := 64) rfl rfl rfl ?_
            refine sf_R_iadd pm_M198 (pc' := 65) rfl rfl B49 B42 (by decide) (by decide) (fun z50 e51 B52 => ?_)
            refine rf_R_ild pm_M198 T2 (pc' := 66) rfl e29 (by decide) (sf_in B52 (by decide) (by decide)) rfl (fun z53 ez54 => ?_)
            have e55 : (z50).toInt = 13 * (a0).toInt + 1 * (a1).toInt + 1 := by
              have q0 := e45
              have q1 := e48
              have q2 := e51
              simp only [(show (1 : Int32).toInt = 1 from rfl), (show (13 : Int32).toInt = 13 from rfl)] at q0 q1 q2
              omega
            have B56 : sf_B 0 9 z53 := ez54 ▸ rf_p48s b30 e55 B22 B42 (by decide) (by decide) (by decide)
            refine pm_R_br pm_M198 (pc' := 71) rfl rfl ?_
            exact pm_R_ret pm_M198 (r := some (.int z53)) rfl (pm_ret_i _) (K z53 m4 w h1 T2 F6 W8 (sf_weak B56 (by decide) (by decide)))
      · have B57 : sf_B (-1) (-1) a1 := sf_eqL (Classical.not_not.mp c24) sf_kn1
        refine pm_R_lo pm_M198 (pc' := 23) rfl rfl rfl ?_
        refine rf_R_get pm_M198 T2 (pc' := 26) (v := .ref 48) rfl rfl rfl rfl ?_
        refine pm_R_op pm_M198 (pc' := 28) (st' := [.int 13, .ref 48]) rfl rfl rfl ?_
        refine pm_R_lo pm_M198 (pc' := 29) rfl rfl rfl ?_
        refine sf_R_imul pm_M198 (pc' := 30) rfl rfl sf_k13 B22 (by decide) (by decide) (by decide) (fun z58 e59 B60 => ?_)
        obtain ⟨f61, e62, b63⟩ := T2.2.2.2.1 48 (by decide) (by decide)
        refine rf_R_ild pm_M198 T2 (pc' := 31) rfl e62 (by decide) (sf_in B60 (by decide) (by decide)) rfl (fun z64 ez65 => ?_)
        have e66 : (z58).toInt = 13 * (a0).toInt + 0 := by
          have q0 := e59
          simp only [(show (13 : Int32).toInt = 13 from rfl)] at q0
          omega
        have B67 : sf_B 0 12 z64 := ez65 ▸ rf_p48a b63 e66 B22 (by decide)
        refine pm_R_br pm_M198 (pc' := 71) rfl rfl ?_
        exact pm_R_ret pm_M198 (r := some (.int z64)) rfl (pm_ret_i _) (K z64 m4 w h1 T2 F6 W8 (sf_weak B67 (by decide) (by decide)))

set_option maxRecDepth 100000 in
set_option maxHeartbeats 4000000 in
/-- SilentTableModel.count -/
theorem rf_c294 {d : Nat} {m : Nat → Int32} {w : Int64} {h : pm_H} {Q : Option Value → pm_H → Prop} {a0 : Int32} (T : rf_T m w h)  (K : ∀ (r : Int32) (m' : Nat → Int32) (w' : Int64) (h' : pm_H), rf_T m' w' h' → rf_F h h' → rf_W [0] m m' → Q (some (.int r)) h') : pm_R (d + 1) 294 0 [.ref 41, .int a0] [] h Q := by
  refine pm_R_lo pm_M294 (pc' := 1) rfl rfl rfl ?_
  refine pm_R_op pm_M294 (pc' := 2) (st' := [.int 0, .ref 41]) rfl rfl rfl ?_
  refine rf_R_put pm_M294 T (pc' := 5) rfl rfl rfl (by decide) rfl rfl sf_k0 rfl rfl (fun h1 m4 em5 T2 F3 => ?_)
  have F6 := (rf_F.refl h).trans F3
  have B7 : sf_B 0 0 (m4 0) := by rw [em5]; exact sf_k0
  have W8 : rf_W [0] m m4 := by rw [em5]; exact (rf_W.refl [0] m).put (by decide)
  refine pm_R_lo pm_M294 (pc' := 6) rfl rfl rfl ?_
  refine pm_R_op pm_M294 (pc' := 7) (st' := [.int 0, .int a0]) rfl rfl rfl ?_
  refine pm_R_op pm_M294 (pc' := 8) (st' := [.int 3, .int 0, .int a0]) rfl rfl rfl ?_
  refine pm_R_cs pm_M294 (pc' := 11) (ra := [.int 3, .int 0, .int a0]) (rest := []) (ls' := [.int a0, .int 0, .int 3]) rfl rfl (Or.inl rfl) pm_M174 rfl rfl (Nat.le_of_ble_eq_true rfl) rfl rfl ?_
  refine pm_R_lo pm_M174 (pc' := 1) rfl rfl rfl ?_
  refine pm_R_lo pm_M174 (pc' := 2) rfl rfl rfl ?_
  refine pm_R_icmp pm_M174 (t := 14) (pc' := 5) rfl rfl rfl (fun c9 => ?_) (fun c9 => ?_)
  · have B10 : sf_B (-2147483648) (-1) a0 := sf_ltL c9 (sf_any a0) sf_k0
    refine pm_R_op pm_M174 (pc' := 15) (st' := [.int 0]) rfl rfl rfl ?_
    refine pm_R_ret pm_M174 (r := some (.int 0)) rfl rfl ?_
    show pm_R _ 294 11 [.ref 41, .int a0] [.int 0] _ _
    refine pm_R_br pm_M294 (pc' := 23) (st' := []) rfl rfl ?_
    refine pm_R_op pm_M294 (pc' := 25) (st' := [.int (-2)]) rfl rfl rfl ?_
    exact pm_R_ret pm_M294 (r := some (.int (-2))) rfl rfl (K (-2) m4 w h1 T2 F6 W8)
  · have B11 : sf_B 0 2147483647 a0 := sf_leR (Int32.not_lt.mp c9) sf_k0 (sf_any a0)
    refine pm_R_lo pm_M174 (pc' := 6) rfl rfl rfl ?_
    refine pm_R_lo pm_M174 (pc' := 7) rfl rfl rfl ?_
    refine pm_R_icmp pm_M174 (t := 14) (pc' := 10) rfl rfl rfl (fun c12 => ?_) (fun c12 => ?_)
    · have B13 : sf_B 4 2147483647 a0 := sf_ltR c12 sf_k3 B11
      refine pm_R_op pm_M174 (pc' := 15) (st' := [.int 0]) rfl rfl rfl ?_
      refine pm_R_ret pm_M174 (r := some (.int 0)) rfl rfl ?_
      show pm_R _ 294 11 [.ref 41, .int a0] [.int 0] _ _
      refine pm_R_br pm_M294 (pc' := 23) (st' := []) rfl rfl ?_
      refine pm_R_op pm_M294 (pc' := 25) (st' := [.int (-2)]) rfl rfl rfl ?_
      exact pm_R_ret pm_M294 (r := some (.int (-2))) rfl rfl (K (-2) m4 w h1 T2 F6 W8)
    · have B14 : sf_B 0 3 a0 := sf_leL (Int32.not_lt.mp c12) B11 sf_k3
      refine pm_R_op pm_M174 (pc' := 11) (st' := [.int 1]) rfl rfl rfl ?_
      refine pm_R_br pm_M174 (pc' := 15) rfl rfl ?_
      refine pm_R_ret pm_M174 (r := some (.int 1)) rfl rfl ?_
      show pm_R _ 294 11 [.ref 41, .int a0] [.int 1] _ _
      refine pm_R_br pm_M294 (pc' := 14) (st' := []) rfl rfl ?_
      refine pm_R_lo pm_M294 (pc' := 15) rfl rfl rfl ?_
      refine rf_R_get pm_M294 T2 (pc' := 18) (v := .ref 46) rfl rfl rfl rfl ?_
      refine pm_R_lo pm_M294 (pc' := 19) rfl rfl rfl ?_
      obtain ⟨f15, e16, b17⟩ := T2.2.2.2.1 46 (by decide) (by decide)
      refine rf_R_ild pm_M294 T2 (pc' := 20) rfl e16 (by decide) (sf_in B14 (by decide) (by decide)) rfl (fun z18 ez19 => ?_)
      refine pm_R_br pm_M294 (pc' := 25) rfl rfl ?_
      exact pm_R_ret pm_M294 (r := some (.int z18)) rfl (pm_ret_i _) (K z18 m4 w h1 T2 F6 W8)
