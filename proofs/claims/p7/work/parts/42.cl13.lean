set_option maxRecDepth 100000 in
set_option maxHeartbeats 4000000 in
/-- SilentTable.deedsBreaking -/
theorem cl_c169 {d : Nat} {ck : cl_K} {E : Nat → pm_E} {m : Nat → Int32} {o : Nat → Option Nat} {h : pm_H} {Q : Option Value → pm_H → Prop} {a0 : Int32} {a1 : Int32} (G : cl_G ck E) (T : cl_T ck E m o h) (Ba1 : sf_B 0 50 a1) (K : ∀ (r : Int32), Q (some (.int r)) h) : pm_R (d + 0) 169 0 [.ref 16, .int a0, .int a1, pm_no, pm_no] [] h Q := by
  refine pm_R_op pm_M169 (pc_q := 1) (st_q := [.int 0]) rfl rfl rfl ?_
  refine pm_R_lo pm_M169 (pc_q := 2) (ls_q := [.ref 16, .int a0, .int a1, .int 0, pm_no]) (st_q := []) rfl rfl rfl ?_
  refine pm_R_op pm_M169 (pc_q := 3) (st_q := [.int 0]) rfl rfl rfl ?_
  refine pm_R_lo pm_M169 (pc_q := 5) (ls_q := [.ref 16, .int a0, .int a1, .int 0, .int 0]) (st_q := []) rfl rfl rfl ?_
  have L_125 : ∀ (N : Nat) (x3_125 : Int32) (x4_125 : Int32), sf_B (-2147483648) 2147483647 x3_125 → sf_B 0 50 x4_125 → (50 - x4_125.toInt).toNat = N → pm_R (d + 0) 169 5 [.ref 16, .int a0, .int a1, .int x3_125, .int x4_125] [] h Q := by
    intro N
    induction N using Nat.strongRecOn with
    | ind N ih_125 =>
      intro x3_125 x4_125 Bx3_125 Bx4_125 hN_125
      refine pm_R_lo pm_M169 (pc_q := 7) rfl rfl rfl ?_
      refine pm_R_lo pm_M169 (pc_q := 8) rfl rfl rfl ?_
      refine pm_R_icmp pm_M169 (t := 32) (pc_q := 11) rfl rfl rfl (fun c126 => ?_) (fun c126 => ?_)
      · skip
        refine pm_R_lo pm_M169 (pc_q := 33) rfl rfl rfl ?_
        exact pm_R_ret pm_M169 (r := some (.int x3_125)) rfl (pm_ret_i _) (K x3_125)
      · have B127 : sf_B 0 49 x4_125 := sf_ltL (Int32.not_le.mp c126) Bx4_125 Ba1
        have B128 : sf_B 1 50 a1 := sf_ltR (Int32.not_le.mp c126) Bx4_125 Ba1
        refine pm_R_lo pm_M169 (pc_q := 12) rfl rfl rfl ?_
        refine pm_R_get pm_M169 (pc_q := 15) (v := .ref 40) rfl rfl T.e16 (by decide) (T.lt (by decide)) rfl rfl ?_
        refine pm_R_lo pm_M169 (pc_q := 17) rfl rfl rfl ?_
        obtain ⟨f132, e133⟩ := T.C 40 (by decide) (by decide)
        obtain ⟨z129, ez130⟩ : ∃ y, f132 (Int32.toNatClampNeg x4_125) = y := ⟨_, rfl⟩
        refine pm_R_iald pm_M169 (pc_q := 18) (v := z129) rfl e133 (T.lt (by decide)) (sf_in B127 (by decide) (by decide)) ez130 rfl ?_
        refine pm_R_lo pm_M169 (pc_q := 19) rfl rfl rfl ?_
        refine sf_R_iany pm_M169 (pc_q := 20) (st := []) rfl rfl rfl (fun z138 => ?_)
        refine pm_R_ifc pm_M169 (t := 26) (pc_q := 23) rfl rfl rfl (fun c139 => ?_) (fun c139 => ?_)
        · have B140 : sf_B 0 0 z138 := sf_eqL c139 sf_k0
          refine sf_R_iinc pm_M169 (pc_q := 29) (ls_q := fun z => [.ref 16, .int a0, .int a1, .int x3_125, .int z]) rfl B127 rfl (by decide) (by decide) (by decide) (fun _ => rfl) rfl (fun z141 e142 B143 => ?_)
          show pm_R _ 169 29 [.ref 16, .int a0, .int a1, .int x3_125, .int z141] [] _ _
          refine pm_R_br pm_M169 (pc_q := 5) rfl rfl ?_
          exact ih_125 _ (sf_up hN_125 e142 B127 (by decide) (by decide)) x3_125 z141 Bx3_125 (sf_weak B143 (by decide) (by decide)) rfl
        · skip
          refine sf_R_iincA pm_M169 (pc_q := 26) (ls_q := fun z => [.ref 16, .int a0, .int a1, .int z, .int x4_125]) rfl rfl (fun _ => rfl) rfl (fun z144 => ?_)
          show pm_R _ 169 26 [.ref 16, .int a0, .int a1, .int z144, .int x4_125] [] _ _
          refine sf_R_iinc pm_M169 (pc_q := 29) (ls_q := fun z => [.ref 16, .int a0, .int a1, .int z144, .int z]) rfl B127 rfl (by decide) (by decide) (by decide) (fun _ => rfl) rfl (fun z145 e146 B147 => ?_)
          show pm_R _ 169 29 [.ref 16, .int a0, .int a1, .int z144, .int z145] [] _ _
          refine pm_R_br pm_M169 (pc_q := 5) rfl rfl ?_
          exact ih_125 _ (sf_up hN_125 e146 B127 (by decide) (by decide)) z144 z145 (sf_any z144) (sf_weak B147 (by decide) (by decide)) rfl
  exact L_125 _ 0 0 (sf_weak sf_k0 (by decide) (by decide)) (sf_weak sf_k0 (by decide) (by decide)) rfl

set_option maxRecDepth 100000 in
set_option maxHeartbeats 4000000 in
/-- SilentTable.breaks -/
theorem cl_c164 {d : Nat} {ck : cl_K} {E : Nat → pm_E} {m : Nat → Int32} {o : Nat → Option Nat} {h : pm_H} {Q : Option Value → pm_H → Prop} {a0 : Int32} {a1 : Int32} {a2 : Int32} (G : cl_G ck E) (T : cl_T ck E m o h)  (K : ∀ (r : Int32) (m_q : Nat → Int32) (h_q : pm_H), cl_T ck E m_q o h_q → cl_F ck [40] 2 16 h h_q → rf_W [] m m_q → sf_B (-2) 127 r → Q (some (.int r)) h_q) : pm_R (d + 3) 164 0 [.ref 16, .int a0, .int a1, .int a2, pm_no, pm_no, pm_no] [] h Q := by
  refine pm_R_lo pm_M164 (pc_q := 1) rfl rfl rfl ?_
  refine pm_R_lo pm_M164 (pc_q := 2) rfl rfl rfl ?_
  refine pm_R_cv pm_M164 (pc_q := 5) (a := 16) (ra := [.int a0]) (rest := []) (ls_q := [.ref 16, .int a0]) rfl rfl (Or.inl rfl) pm_M163 T.e16 rfl (by decide) (T.lt (by decide)) rfl rfl (Nat.le_of_ble_eq_true rfl) rfl rfl ?_
  refine pm_R_lo pm_M163 (pc_q := 1) rfl rfl rfl ?_
  refine pm_R_ifc pm_M163 (t := 17) (pc_q := 4) rfl rfl rfl (fun c1 => ?_) (fun c1 => ?_)
  · have B2 : sf_B (-2147483648) (-1) a0 := sf_ltL c1 (sf_any a0) sf_k0
    refine pm_R_op pm_M163 (pc_q := 18) (st_q := [.null]) rfl rfl rfl ?_
    refine pm_R_br pm_M163 (pc_q := 30) rfl rfl ?_
    refine pm_R_ret pm_M163 (r := some (.null)) rfl rfl ?_
    show pm_R _ 164 5 [.ref 16, .int a0, .int a1, .int a2, pm_no, pm_no, pm_no] [.null] _ _
    refine pm_R_lo pm_M164 (pc_q := 7) (ls_q := [.ref 16, .int a0, .int a1, .int a2, .null, pm_no, pm_no]) (st_q := []) rfl rfl rfl ?_
    refine pm_R_lo pm_M164 (pc_q := 8) rfl rfl rfl ?_
    refine pm_R_lo pm_M164 (pc_q := 9) rfl rfl rfl ?_
    refine pm_R_cv pm_M164 (pc_q := 12) (a := 16) (ra := [.int a1]) (rest := []) (ls_q := [.ref 16, .int a1]) rfl rfl (Or.inl rfl) pm_M139 T.e16 rfl (by decide) (T.lt (by decide)) rfl rfl (Nat.le_of_ble_eq_true rfl) rfl rfl ?_
    refine pm_R_lo pm_M139 (pc_q := 1) rfl rfl rfl ?_
    refine pm_R_ifc pm_M139 (t := 17) (pc_q := 4) rfl rfl rfl (fun c3 => ?_) (fun c3 => ?_)
    · have B4 : sf_B (-2147483648) (-1) a1 := sf_ltL c3 (sf_any a1) sf_k0
      refine pm_R_op pm_M139 (pc_q := 18) (st_q := [.null]) rfl rfl rfl ?_
      refine pm_R_br pm_M139 (pc_q := 30) rfl rfl ?_
      refine pm_R_ret pm_M139 (r := some (.null)) rfl rfl ?_
      show pm_R _ 164 12 [.ref 16, .int a0, .int a1, .int a2, .null, pm_no, pm_no] [.null] _ _
      refine pm_R_lo pm_M164 (pc_q := 14) (ls_q := [.ref 16, .int a0, .int a1, .int a2, .null, .null, pm_no]) (st_q := []) rfl rfl rfl ?_
      refine pm_R_lo pm_M164 (pc_q := 16) rfl rfl rfl ?_
      refine pm_R_br pm_M164 (pc_q := 33) rfl rfl ?_
      refine pm_R_op pm_M164 (pc_q := 34) (st_q := [.int (-1)]) rfl rfl rfl ?_
      exact pm_R_ret pm_M164 (r := some (.int (-1))) rfl rfl (K (-1) m h T ((cl_F.refl (ck := ck) (A := [40]) (n := 0) (s := 0) T.1).weak (by decide) (by decide)) (rf_W.refl [] m) (sf_weak sf_kn1 (by decide) (by decide)))
    · have B5 : sf_B 0 2147483647 a1 := sf_leR (Int32.not_lt.mp c3) sf_k0 (sf_any a1)
      refine pm_R_lo pm_M139 (pc_q := 5) rfl rfl rfl ?_
      refine pm_R_lo pm_M139 (pc_q := 6) rfl rfl rfl ?_
      refine pm_R_get pm_M139 (pc_q := 9) (v := .ref 17) rfl rfl T.e16 (by decide) (T.lt (by decide)) rfl rfl ?_
      refine pm_R_get pm_M139 (pc_q := 12) (v := .ref 23) rfl rfl T.e17 (by decide) (T.lt (by decide)) rfl rfl ?_
      refine pm_R_op pm_M139 (pc_q := 13) (st_q := [.int 2, .ref 23, .int a1]) rfl rfl rfl ?_
      obtain ⟨f9, e10, b11⟩ := T.C 23 (by decide) (by decide)
      obtain ⟨z6, ez7⟩ : ∃ y, f9 (Int32.toNatClampNeg 2) = y := ⟨_, rfl⟩
      have B8 : sf_B 0 2 z6 := ez7 ▸ (b11 2)
      refine pm_R_iald pm_M139 (pc_q := 14) (v := z6) rfl e10 (T.lt (by decide)) rfl ez7 rfl ?_
      refine pm_R_icmp pm_M139 (t := 21) (pc_q := 17) rfl rfl rfl (fun c12 => ?_) (fun c12 => ?_)
      · have B13 : sf_B 0 1 a1 := sf_ltL c12 B5 B8
        have B14 : sf_B 1 2 z6 := sf_ltR c12 B5 B8
        refine pm_R_lo pm_M139 (pc_q := 22) rfl rfl rfl ?_
        refine pm_R_get pm_M139 (pc_q := 25) (v := .ref 17) rfl rfl T.e16 (by decide) (T.lt (by decide)) rfl rfl ?_
        refine pm_R_get pm_M139 (pc_q := 28) (v := .ref 21) rfl rfl T.e17 (by decide) (T.lt (by decide)) rfl rfl ?_
        refine pm_R_lo pm_M139 (pc_q := 29) rfl rfl rfl ?_
        obtain ⟨f15, e16, b17⟩ := T.C 21 (by decide) (by decide)
        obtain ⟨l18, hx19⟩ := cl_there2 T e10 e16 ez7 c12 B13 (by decide)
        have hk20 := b17 _ _ hx19
        refine pm_R_aald pm_M139 (pc_q := 30) (v := .ref l18) rfl e16 (by decide) (by decide) (by decide) (T.lt (by decide)) (sf_in B13 (by decide) (by decide)) (by rw [hx19]; rfl) rfl ?_
        refine pm_R_ret pm_M139 (r := some (.ref l18)) rfl rfl ?_
        show pm_R _ 164 12 [.ref 16, .int a0, .int a1, .int a2, .null, pm_no, pm_no] [.ref l18] _ _
        refine pm_R_lo pm_M164 (pc_q := 14) (ls_q := [.ref 16, .int a0, .int a1, .int a2, .null, .ref l18, pm_no]) (st_q := []) rfl rfl rfl ?_
        refine pm_R_lo pm_M164 (pc_q := 16) rfl rfl rfl ?_
        refine pm_R_br pm_M164 (pc_q := 33) rfl rfl ?_
        refine pm_R_op pm_M164 (pc_q := 34) (st_q := [.int (-1)]) rfl rfl rfl ?_
        exact pm_R_ret pm_M164 (r := some (.int (-1))) rfl rfl (K (-1) m h T ((cl_F.refl (ck := ck) (A := [40]) (n := 0) (s := 0) T.1).weak (by decide) (by decide)) (rf_W.refl [] m) (sf_weak sf_kn1 (by decide) (by decide)))
      · skip
        refine pm_R_op pm_M139 (pc_q := 18) (st_q := [.null]) rfl rfl rfl ?_
        refine pm_R_br pm_M139 (pc_q := 30) rfl rfl ?_
        refine pm_R_ret pm_M139 (r := some (.null)) rfl rfl ?_
        show pm_R _ 164 12 [.ref 16, .int a0, .int a1, .int a2, .null, pm_no, pm_no] [.null] _ _
        refine pm_R_lo pm_M164 (pc_q := 14) (ls_q := [.ref 16, .int a0, .int a1, .int a2, .null, .null, pm_no]) (st_q := []) rfl rfl rfl ?_
        refine pm_R_lo pm_M164 (pc_q := 16) rfl rfl rfl ?_
        refine pm_R_br pm_M164 (pc_q := 33) rfl rfl ?_
        refine pm_R_op pm_M164 (pc_q := 34) (st_q := [.int (-1)]) rfl rfl rfl ?_
        exact pm_R_ret pm_M164 (r := some (.int (-1))) rfl rfl (K (-1) m h T ((cl_F.refl (ck := ck) (A := [40]) (n := 0) (s := 0) T.1).weak (by decide) (by decide)) (rf_W.refl [] m) (sf_weak sf_kn1 (by decide) (by decide)))
  · have B21 : sf_B 0 2147483647 a0 := sf_leR (Int32.not_lt.mp c1) sf_k0 (sf_any a0)
    refine pm_R_lo pm_M163 (pc_q := 5) rfl rfl rfl ?_
    refine pm_R_lo pm_M163 (pc_q := 6) rfl rfl rfl ?_
    refine pm_R_get pm_M163 (pc_q := 9) (v := .ref 17) rfl rfl T.e16 (by decide) (T.lt (by decide)) rfl rfl ?_
    refine pm_R_get pm_M163 (pc_q := 12) (v := .ref 23) rfl rfl T.e17 (by decide) (T.lt (by decide)) rfl rfl ?_
    refine pm_R_op pm_M163 (pc_q := 13) (st_q := [.int 3, .ref 23, .int a0]) rfl rfl rfl ?_
    obtain ⟨f25, e26, b27⟩ := T.C 23 (by decide) (by decide)
    obtain ⟨z22, ez23⟩ : ∃ y, f25 (Int32.toNatClampNeg 3) = y := ⟨_, rfl⟩
    have B24 : sf_B 0 2 z22 := ez23 ▸ (b27 3)
    refine pm_R_iald pm_M163 (pc_q := 14) (v := z22) rfl e26 (T.lt (by decide)) rfl ez23 rfl ?_
    refine pm_R_icmp pm_M163 (t := 21) (pc_q := 17) rfl rfl rfl (fun c28 => ?_) (fun c28 => ?_)
    · have B29 : sf_B 0 1 a0 := sf_ltL c28 B21 B24
      have B30 : sf_B 1 2 z22 := sf_ltR c28 B21 B24
      refine pm_R_lo pm_M163 (pc_q := 22) rfl rfl rfl ?_
      refine pm_R_get pm_M163 (pc_q := 25) (v := .ref 17) rfl rfl T.e16 (by decide) (T.lt (by decide)) rfl rfl ?_
      refine pm_R_get pm_M163 (pc_q := 28) (v := .ref 22) rfl rfl T.e17 (by decide) (T.lt (by decide)) rfl rfl ?_
      refine pm_R_lo pm_M163 (pc_q := 29) rfl rfl rfl ?_
      obtain ⟨f31, e32, b33⟩ := T.C 22 (by decide) (by decide)
      obtain ⟨l34, hx35⟩ := cl_there3 T e26 e32 ez23 c28 B29 (by decide)
      have hk36 := b33 _ _ hx35
      refine pm_R_aald pm_M163 (pc_q := 30) (v := .ref l34) rfl e32 (by decide) (by decide) (by decide) (T.lt (by decide)) (sf_in B29 (by decide) (by decide)) (by rw [hx35]; rfl) rfl ?_
      refine pm_R_ret pm_M163 (r := some (.ref l34)) rfl rfl ?_
      show pm_R _ 164 5 [.ref 16, .int a0, .int a1, .int a2, pm_no, pm_no, pm_no] [.ref l34] _ _
      refine pm_R_lo pm_M164 (pc_q := 7) (ls_q := [.ref 16, .int a0, .int a1, .int a2, .ref l34, pm_no, pm_no]) (st_q := []) rfl rfl rfl ?_
      refine pm_R_lo pm_M164 (pc_q := 8) rfl rfl rfl ?_
      refine pm_R_lo pm_M164 (pc_q := 9) rfl rfl rfl ?_
      refine pm_R_cv pm_M164 (pc_q := 12) (a := 16) (ra := [.int a1]) (rest := []) (ls_q := [.ref 16, .int a1]) rfl rfl (Or.inl rfl) pm_M139 T.e16 rfl (by decide) (T.lt (by decide)) rfl rfl (Nat.le_of_ble_eq_true rfl) rfl rfl ?_
      refine pm_R_lo pm_M139 (pc_q := 1) rfl rfl rfl ?_
      refine pm_R_ifc pm_M139 (t := 17) (pc_q := 4) rfl rfl rfl (fun c37 => ?_) (fun c37 => ?_)
      · have B38 : sf_B (-2147483648) (-1) a1 := sf_ltL c37 (sf_any a1) sf_k0
        refine pm_R_op pm_M139 (pc_q := 18) (st_q := [.null]) rfl rfl rfl ?_
        refine pm_R_br pm_M139 (pc_q := 30) rfl rfl ?_
        refine pm_R_ret pm_M139 (r := some (.null)) rfl rfl ?_
        show pm_R _ 164 12 [.ref 16, .int a0, .int a1, .int a2, .ref l34, pm_no, pm_no] [.null] _ _
        refine pm_R_lo pm_M164 (pc_q := 14) (ls_q := [.ref 16, .int a0, .int a1, .int a2, .ref l34, .null, pm_no]) (st_q := []) rfl rfl rfl ?_
        refine pm_R_lo pm_M164 (pc_q := 16) rfl rfl rfl ?_
        refine pm_R_br pm_M164 (pc_q := 19) rfl rfl ?_
        refine pm_R_lo pm_M164 (pc_q := 21) rfl rfl rfl ?_
        refine pm_R_br pm_M164 (pc_q := 33) rfl rfl ?_
        refine pm_R_op pm_M164 (pc_q := 34) (st_q := [.int (-1)]) rfl rfl rfl ?_
        exact pm_R_ret pm_M164 (r := some (.int (-1))) rfl rfl (K (-1) m h T ((cl_F.refl (ck := ck) (A := [40]) (n := 0) (s := 0) T.1).weak (by decide) (by decide)) (rf_W.refl [] m) (sf_weak sf_kn1 (by decide) (by decide)))
      · have B39 : sf_B 0 2147483647 a1 := sf_leR (Int32.not_lt.mp c37) sf_k0 (sf_any a1)
        refine pm_R_lo pm_M139 (pc_q := 5) rfl rfl rfl ?_
        refine pm_R_lo pm_M139 (pc_q := 6) rfl rfl rfl ?_
        refine pm_R_get pm_M139 (pc_q := 9) (v := .ref 17) rfl rfl T.e16 (by decide) (T.lt (by decide)) rfl rfl ?_
        refine pm_R_get pm_M139 (pc_q := 12) (v := .ref 23) rfl rfl T.e17 (by decide) (T.lt (by decide)) rfl rfl ?_
        refine pm_R_op pm_M139 (pc_q := 13) (st_q := [.int 2, .ref 23, .int a1]) rfl rfl rfl ?_
        obtain ⟨z40, ez41⟩ : ∃ y, f25 (Int32.toNatClampNeg 2) = y := ⟨_, rfl⟩
        have B42 : sf_B 0 2 z40 := ez41 ▸ (b27 2)
        refine pm_R_iald pm_M139 (pc_q := 14) (v := z40) rfl e26 (T.lt (by decide)) rfl ez41 rfl ?_
        refine pm_R_icmp pm_M139 (t := 21) (pc_q := 17) rfl rfl rfl (fun c43 => ?_) (fun c43 => ?_)
        · have B44 : sf_B 0 1 a1 := sf_ltL c43 B39 B42
          have B45 : sf_B 1 2 z40 := sf_ltR c43 B39 B42
          refine pm_R_lo pm_M139 (pc_q := 22) rfl rfl rfl ?_
          refine pm_R_get pm_M139 (pc_q := 25) (v := .ref 17) rfl rfl T.e16 (by decide) (T.lt (by decide)) rfl rfl ?_
          refine pm_R_get pm_M139 (pc_q := 28) (v := .ref 21) rfl rfl T.e17 (by decide) (T.lt (by decide)) rfl rfl ?_
          refine pm_R_lo pm_M139 (pc_q := 29) rfl rfl rfl ?_
          obtain ⟨f46, e47, b48⟩ := T.C 21 (by decide) (by decide)
          obtain ⟨l49, hx50⟩ := cl_there2 T e26 e47 ez41 c43 B44 (by decide)
          have hk51 := b48 _ _ hx50
          refine pm_R_aald pm_M139 (pc_q := 30) (v := .ref l49) rfl e47 (by decide) (by decide) (by decide) (T.lt (by decide)) (sf_in B44 (by decide) (by decide)) (by rw [hx50]; rfl) rfl ?_
          refine pm_R_ret pm_M139 (r := some (.ref l49)) rfl rfl ?_
          show pm_R _ 164 12 [.ref 16, .int a0, .int a1, .int a2, .ref l34, pm_no, pm_no] [.ref l49] _ _
          refine pm_R_lo pm_M164 (pc_q := 14) (ls_q := [.ref 16, .int a0, .int a1, .int a2, .ref l34, .ref l49, pm_no]) (st_q := []) rfl rfl rfl ?_
          refine pm_R_lo pm_M164 (pc_q := 16) rfl rfl rfl ?_
          refine pm_R_br pm_M164 (pc_q := 19) rfl rfl ?_
          refine pm_R_lo pm_M164 (pc_q := 21) rfl rfl rfl ?_
          refine pm_R_br pm_M164 (pc_q := 24) rfl rfl ?_
          refine pm_R_lo pm_M164 (pc_q := 25) rfl rfl rfl ?_
          refine pm_R_ifc pm_M164 (t := 33) (pc_q := 28) rfl rfl rfl (fun c52 => ?_) (fun c52 => ?_)
          · have B53 : sf_B (-2147483648) (-1) a2 := sf_ltL c52 (sf_any a2) sf_k0
            refine pm_R_op pm_M164 (pc_q := 34) (st_q := [.int (-1)]) rfl rfl rfl ?_
            exact pm_R_ret pm_M164 (r := some (.int (-1))) rfl rfl (K (-1) m h T ((cl_F.refl (ck := ck) (A := [40]) (n := 0) (s := 0) T.1).weak (by decide) (by decide)) (rf_W.refl [] m) (sf_weak sf_kn1 (by decide) (by decide)))
          · have B54 : sf_B 0 2147483647 a2 := sf_leR (Int32.not_lt.mp c52) sf_k0 (sf_any a2)
            refine pm_R_lo pm_M164 (pc_q := 29) rfl rfl rfl ?_
            refine pm_R_op pm_M164 (pc_q := 30) (st_q := [.int 2, .int a2]) rfl rfl rfl ?_
            refine pm_R_icmp pm_M164 (t := 35) (pc_q := 33) rfl rfl rfl (fun c55 => ?_) (fun c55 => ?_)
            · have B56 : sf_B 0 2 a2 := sf_leL c55 B54 sf_k2
              refine pm_R_lo pm_M164 (pc_q := 37) rfl rfl rfl ?_
              refine pm_R_lo pm_M164 (pc_q := 39) rfl rfl rfl ?_
              refine pm_R_lo pm_M164 (pc_q := 40) rfl rfl rfl ?_
              refine pm_R_get pm_M164 (pc_q := 43) (v := .ref 40) rfl rfl T.e16 (by decide) (T.lt (by decide)) rfl rfl ?_
              obtain ⟨n57, f58, h59, eE60, eE61, b62⟩ := (G.2.2.2.2.1 l34 hk36).2
              have kq63 := (G.2.2.2.2.1 l34 hk36).1
              refine pm_R_cv pm_M164 (pc_q := 46) (a := l34) (ra := [.ref 40, .ref l49]) (rest := []) (ls_q := [.ref l34, .ref l49, .ref 40, pm_no, pm_no, pm_no, pm_no]) rfl rfl (Or.inl rfl) pm_M165 (T.im hk36 (by decide) (by decide) eE60) rfl (G.ge hk36 (by decide)) (T.al hk36 (by decide)) rfl rfl (Nat.le_of_ble_eq_true rfl) rfl rfl ?_
              refine cl_c165 (d := d + 0) G T hk36 hk51 (fun m66 h67 T68 F69 W70 => ?_)
              have F71 := (cl_F.refl (ck := ck) (A := [40]) (n := 0) (s := 0) T.1).trans (N := 2) (S := 16) F69 (by decide) (by decide) (by decide)
              have W72 : rf_W [] m m66 := (rf_W.refl [] m).trans W70 (by decide)
              show pm_R _ 164 46 [.ref 16, .int a0, .int a1, .int a2, .ref l34, .ref l49, pm_no] [] _ _
              refine pm_R_op pm_M164 (pc_q := 47) (st_q := [.int 0]) rfl rfl rfl ?_
              refine pm_R_lo pm_M164 (pc_q := 49) (ls_q := [.ref 16, .int a0, .int a1, .int a2, .ref l34, .ref l49, .int 0]) (st_q := []) rfl rfl rfl ?_
              have L_353 : ∀ (N : Nat) (x6_353 : Int32), sf_B 0 50 x6_353 → (50 - x6_353.toInt).toNat = N → pm_R (d + 3) 164 49 [.ref 16, .int a0, .int a1, .int a2, .ref l34, .ref l49, .int x6_353] [] h67 Q := by
                intro N
                induction N using Nat.strongRecOn with
                | ind N ih_353 =>
                  intro x6_353 Bx6_353 hN_353
                  refine pm_R_lo pm_M164 (pc_q := 51) rfl rfl rfl ?_
                  refine pm_R_lo pm_M164 (pc_q := 53) rfl rfl rfl ?_
                  obtain ⟨s354, n355, fd356, fg357, fs358, h359, h360, h361, eE362, eE363, eE364, eE365, b366⟩ := (G.2.2.2.1 l49 hk51).2.2.2
                  have kq367 := G.2.2.2.1 l49 hk51
                  refine pm_R_get pm_M164 (pc_q := 56) (v := .int (Int32.ofNat n355)) rfl rfl (T68.im hk51 (by decide) (by decide) eE362) (G.ge hk51 (by decide)) (T68.al hk51 (by decide)) rfl rfl ?_
                  refine pm_R_icmp pm_M164 (t := 112) (pc_q := 59) rfl rfl rfl (fun c368 => ?_) (fun c368 => ?_)
                  · skip
                    refine pm_R_op pm_M164 (pc_q := 113) (st_q := [.int (-1)]) rfl rfl rfl ?_
                    exact pm_R_ret pm_M164 (r := some (.int (-1))) rfl rfl (K (-1) m66 h67 T68 F71 W72 (sf_weak sf_kn1 (by decide) (by decide)))
                  · have B369 : sf_B 0 49 x6_353 := sf_ltL (Int32.not_le.mp c368) Bx6_353 (sf_ofB h361 (by decide))
                    have B370 : sf_B 1 50 (Int32.ofNat n355) := sf_ltR (Int32.not_le.mp c368) Bx6_353 (sf_ofB h361 (by decide))
                    refine pm_R_lo pm_M164 (pc_q := 60) rfl rfl rfl ?_
                    refine pm_R_get pm_M164 (pc_q := 63) (v := .ref 40) rfl rfl T68.e16 (by decide) (T68.lt (by decide)) rfl rfl ?_
                    refine pm_R_lo pm_M164 (pc_q := 65) rfl rfl rfl ?_
                    obtain ⟨f374, e375⟩ := T68.C 40 (by decide) (by decide)
                    obtain ⟨z371, ez372⟩ : ∃ y, f374 (Int32.toNatClampNeg x6_353) = y := ⟨_, rfl⟩
                    refine pm_R_iald pm_M164 (pc_q := 66) (v := z371) rfl e375 (T68.lt (by decide)) (sf_in B369 (by decide) (by decide)) ez372 rfl ?_
                    refine pm_R_ifc pm_M164 (t := 106) (pc_q := 69) rfl rfl rfl (fun c377 => ?_) (fun c377 => ?_)
                    · have B378 : sf_B 0 0 z371 := sf_eqL c377 sf_k0
                      refine sf_R_iinc pm_M164 (pc_q := 109) (ls_q := fun z => [.ref 16, .int a0, .int a1, .int a2, .ref l34, .ref l49, .int z]) rfl B369 rfl (by decide) (by decide) (by decide) (fun _ => rfl) rfl (fun z379 e380 B381 => ?_)
                      show pm_R _ 164 109 [.ref 16, .int a0, .int a1, .int a2, .ref l34, .ref l49, .int z379] [] _ _
                      refine pm_R_br pm_M164 (pc_q := 49) rfl rfl ?_
                      exact ih_353 _ (sf_up hN_353 e380 B369 (by decide) (by decide)) z379 (sf_weak B381 (by decide) (by decide)) rfl
                    · skip
                      refine pm_R_lo pm_M164 (pc_q := 70) rfl rfl rfl ?_
                      refine pm_R_ifc pm_M164 (t := 78) (pc_q := 73) rfl rfl rfl (fun c382 => ?_) (fun c382 => ?_)
                      · have B383 : sf_B 1 2 a2 := sf_neL0 c382 sf_k0 B56
                        refine pm_R_lo pm_M164 (pc_q := 79) rfl rfl rfl ?_
                        refine pm_R_op pm_M164 (pc_q := 80) (st_q := [.int 1, .int a2]) rfl rfl rfl ?_
                        refine pm_R_icmp pm_M164 (t := 98) (pc_q := 83) rfl rfl rfl (fun c384 => ?_) (fun c384 => ?_)
                        · have B385 : sf_B 2 2 a2 := sf_neL0 c384 sf_k1 B383
                          refine pm_R_lo pm_M164 (pc_q := 100) rfl rfl rfl ?_
                          refine pm_R_lo pm_M164 (pc_q := 102) rfl rfl rfl ?_
                          refine pm_R_cv pm_M164 (pc_q := 105) (a := l49) (ra := [.int x6_353]) (rest := []) (ls_q := [.ref l49, .int x6_353]) rfl rfl (Or.inl rfl) pm_M52 (T68.im hk51 (by decide) (by decide) eE362) rfl (G.ge hk51 (by decide)) (T68.al hk51 (by decide)) rfl rfl (Nat.le_of_ble_eq_true rfl) rfl rfl ?_
                          refine pm_R_lo pm_M52 (pc_q := 1) rfl rfl rfl ?_
                          refine pm_R_get pm_M52 (pc_q := 4) (v := .ref (l49 + 1)) rfl rfl (T68.im hk51 (by decide) (by decide) eE362) (G.ge hk51 (by decide)) (T68.al hk51 (by decide)) rfl rfl ?_
                          refine pm_R_lo pm_M52 (pc_q := 5) rfl rfl rfl ?_
                          refine pm_R_op pm_M52 (pc_q := 6) (st_q := [.int 4, .int x6_353, .ref (l49 + 1)]) rfl rfl rfl ?_
                          refine sf_R_imul pm_M52 (pc_q := 7) rfl rfl B369 sf_k4 (by decide) (by decide) (by decide) (fun z386 e387 B388 => ?_)
                          refine pm_R_op pm_M52 (pc_q := 8) (st_q := [.int 1, .int z386, .ref (l49 + 1)]) rfl rfl rfl ?_
                          refine sf_R_iadd pm_M52 (pc_q := 9) rfl rfl B388 sf_k1 (by decide) (by decide) (fun z389 e390 B391 => ?_)
                          have q395 := cl_in4 (n := n355) (Nat.le_trans h361 (by decide)) (Int32.not_le.mp c368) (cl_aux7 _ _ _ e387 e390) B369 (by decide) (by decide)
                          obtain ⟨z392, ez393⟩ : ∃ y, fd356 (Int32.toNatClampNeg z389) = y := ⟨_, rfl⟩
                          have B394 : sf_B 0 5 z392 := ez393 ▸ q395.2.2 ▸ (cl_seat (b366 _ q395.2.1).2.1 h360)
                          refine pm_R_iald pm_M52 (pc_q := 10) (v := z392) rfl (T68.im kq367.1 (by decide) (by decide) eE363) (T68.al kq367.1 (by decide)) q395.1 ez393 rfl ?_
                          refine pm_R_ret pm_M52 (r := some (.int z392)) rfl (pm_ret_i _) ?_
                          show pm_R _ 164 105 [.ref 16, .int a0, .int a1, .int a2, .ref l34, .ref l49, .int x6_353] [.int z392] _ _
                          exact pm_R_ret pm_M164 (r := some (.int z392)) rfl (pm_ret_i _) (K z392 m66 h67 T68 F71 W72 (sf_weak B394 (by decide) (by decide)))
                        · have B396 : sf_B 1 1 a2 := sf_eqL (Classical.not_not.mp c384) sf_k1
                          refine pm_R_lo pm_M164 (pc_q := 84) rfl rfl rfl ?_
                          refine pm_R_get pm_M164 (pc_q := 87) (v := .ref 40) rfl rfl T68.e16 (by decide) (T68.lt (by decide)) rfl rfl ?_
                          refine pm_R_lo pm_M164 (pc_q := 89) rfl rfl rfl ?_
                          refine pm_R_iald pm_M164 (pc_q := 90) (v := z371) rfl e375 (T68.lt (by decide)) (sf_in B369 (by decide) (by decide)) ez372 rfl ?_
                          refine sf_R_lany pm_M164 (pc_q := 91) (st := []) rfl rfl rfl (fun z400 => ?_)
                          refine pm_R_op pm_M164 (pc_q := 92) (st_q := [.int 0, .long z400]) rfl rfl rfl ?_
                          refine pm_R_cs pm_M164 (pc_q := 95) (ra := [.int 0, .long z400]) (rest := []) (ls_q := [.long z400, pm_no, .int 0, pm_no, pm_no, pm_no]) rfl rfl (Or.inl rfl) pm_M107 rfl rfl (Nat.le_of_ble_eq_true rfl) rfl rfl ?_
                          refine cl_c107 (d := d + 1)  (fun r401 B402 => ?_)
                          show pm_R _ 164 95 [.ref 16, .int a0, .int a1, .int a2, .ref l34, .ref l49, .int x6_353] [.int r401] _ _
                          refine pm_R_br pm_M164 (pc_q := 105) rfl rfl ?_
                          exact pm_R_ret pm_M164 (r := some (.int r401)) rfl (pm_ret_i _) (K r401 m66 h67 T68 F71 W72 B402)
                      · have B408 : sf_B 0 0 a2 := sf_eqL (Classical.not_not.mp c382) sf_k0
                        refine pm_R_lo pm_M164 (pc_q := 75) rfl rfl rfl ?_
                        refine pm_R_br pm_M164 (pc_q := 105) rfl rfl ?_
                        exact pm_R_ret pm_M164 (r := some (.int x6_353)) rfl (pm_ret_i _) (K x6_353 m66 h67 T68 F71 W72 (sf_weak B369 (by decide) (by decide)))
              exact L_353 _ 0 (sf_weak sf_k0 (by decide) (by decide)) rfl
            · have B409 : sf_B 3 2147483647 a2 := sf_ltR (Int32.not_le.mp c55) sf_k2 B54
              refine pm_R_op pm_M164 (pc_q := 34) (st_q := [.int (-1)]) rfl rfl rfl ?_
              exact pm_R_ret pm_M164 (r := some (.int (-1))) rfl rfl (K (-1) m h T ((cl_F.refl (ck := ck) (A := [40]) (n := 0) (s := 0) T.1).weak (by decide) (by decide)) (rf_W.refl [] m) (sf_weak sf_kn1 (by decide) (by decide)))
        · skip
          refine pm_R_op pm_M139 (pc_q := 18) (st_q := [.null]) rfl rfl rfl ?_
          refine pm_R_br pm_M139 (pc_q := 30) rfl rfl ?_
          refine pm_R_ret pm_M139 (r := some (.null)) rfl rfl ?_
          show pm_R _ 164 12 [.ref 16, .int a0, .int a1, .int a2, .ref l34, pm_no, pm_no] [.null] _ _
          refine pm_R_lo pm_M164 (pc_q := 14) (ls_q := [.ref 16, .int a0, .int a1, .int a2, .ref l34, .null, pm_no]) (st_q := []) rfl rfl rfl ?_
          refine pm_R_lo pm_M164 (pc_q := 16) rfl rfl rfl ?_
          refine pm_R_br pm_M164 (pc_q := 19) rfl rfl ?_
          refine pm_R_lo pm_M164 (pc_q := 21) rfl rfl rfl ?_
          refine pm_R_br pm_M164 (pc_q := 33) rfl rfl ?_
          refine pm_R_op pm_M164 (pc_q := 34) (st_q := [.int (-1)]) rfl rfl rfl ?_
          exact pm_R_ret pm_M164 (r := some (.int (-1))) rfl rfl (K (-1) m h T ((cl_F.refl (ck := ck) (A := [40]) (n := 0) (s := 0) T.1).weak (by decide) (by decide)) (rf_W.refl [] m) (sf_weak sf_kn1 (by decide) (by decide)))
    · skip
      refine pm_R_op pm_M163 (pc_q := 18) (st_q := [.null]) rfl rfl rfl ?_
      refine pm_R_br pm_M163 (pc_q := 30) rfl rfl ?_
      refine pm_R_ret pm_M163 (r := some (.null)) rfl rfl ?_
      show pm_R _ 164 5 [.ref 16, .int a0, .int a1, .int a2, pm_no, pm_no, pm_no] [.null] _ _
      refine pm_R_lo pm_M164 (pc_q := 7) (ls_q := [.ref 16, .int a0, .int a1, .int a2, .null, pm_no, pm_no]) (st_q := []) rfl rfl rfl ?_
      refine pm_R_lo pm_M164 (pc_q := 8) rfl rfl rfl ?_
      refine pm_R_lo pm_M164 (pc_q := 9) rfl rfl rfl ?_
      refine pm_R_cv pm_M164 (pc_q := 12) (a := 16) (ra := [.int a1]) (rest := []) (ls_q := [.ref 16, .int a1]) rfl rfl (Or.inl rfl) pm_M139 T.e16 rfl (by decide) (T.lt (by decide)) rfl rfl (Nat.le_of_ble_eq_true rfl) rfl rfl ?_
      refine pm_R_lo pm_M139 (pc_q := 1) rfl rfl rfl ?_
      refine pm_R_ifc pm_M139 (t := 17) (pc_q := 4) rfl rfl rfl (fun c410 => ?_) (fun c410 => ?_)
      · have B411 : sf_B (-2147483648) (-1) a1 := sf_ltL c410 (sf_any a1) sf_k0
        refine pm_R_op pm_M139 (pc_q := 18) (st_q := [.null]) rfl rfl rfl ?_
        refine pm_R_br pm_M139 (pc_q := 30) rfl rfl ?_
        refine pm_R_ret pm_M139 (r := some (.null)) rfl rfl ?_
        show pm_R _ 164 12 [.ref 16, .int a0, .int a1, .int a2, .null, pm_no, pm_no] [.null] _ _
        refine pm_R_lo pm_M164 (pc_q := 14) (ls_q := [.ref 16, .int a0, .int a1, .int a2, .null, .null, pm_no]) (st_q := []) rfl rfl rfl ?_
        refine pm_R_lo pm_M164 (pc_q := 16) rfl rfl rfl ?_
        refine pm_R_br pm_M164 (pc_q := 33) rfl rfl ?_
        refine pm_R_op pm_M164 (pc_q := 34) (st_q := [.int (-1)]) rfl rfl rfl ?_
        exact pm_R_ret pm_M164 (r := some (.int (-1))) rfl rfl (K (-1) m h T ((cl_F.refl (ck := ck) (A := [40]) (n := 0) (s := 0) T.1).weak (by decide) (by decide)) (rf_W.refl [] m) (sf_weak sf_kn1 (by decide) (by decide)))
      · have B412 : sf_B 0 2147483647 a1 := sf_leR (Int32.not_lt.mp c410) sf_k0 (sf_any a1)
        refine pm_R_lo pm_M139 (pc_q := 5) rfl rfl rfl ?_
        refine pm_R_lo pm_M139 (pc_q := 6) rfl rfl rfl ?_
        refine pm_R_get pm_M139 (pc_q := 9) (v := .ref 17) rfl rfl T.e16 (by decide) (T.lt (by decide)) rfl rfl ?_
        refine pm_R_get pm_M139 (pc_q := 12) (v := .ref 23) rfl rfl T.e17 (by decide) (T.lt (by decide)) rfl rfl ?_
        refine pm_R_op pm_M139 (pc_q := 13) (st_q := [.int 2, .ref 23, .int a1]) rfl rfl rfl ?_
        obtain ⟨z413, ez414⟩ : ∃ y, f25 (Int32.toNatClampNeg 2) = y := ⟨_, rfl⟩
        have B415 : sf_B 0 2 z413 := ez414 ▸ (b27 2)
        refine pm_R_iald pm_M139 (pc_q := 14) (v := z413) rfl e26 (T.lt (by decide)) rfl ez414 rfl ?_
        refine pm_R_icmp pm_M139 (t := 21) (pc_q := 17) rfl rfl rfl (fun c416 => ?_) (fun c416 => ?_)
        · have B417 : sf_B 0 1 a1 := sf_ltL c416 B412 B415
          have B418 : sf_B 1 2 z413 := sf_ltR c416 B412 B415
          refine pm_R_lo pm_M139 (pc_q := 22) rfl rfl rfl ?_
          refine pm_R_get pm_M139 (pc_q := 25) (v := .ref 17) rfl rfl T.e16 (by decide) (T.lt (by decide)) rfl rfl ?_
          refine pm_R_get pm_M139 (pc_q := 28) (v := .ref 21) rfl rfl T.e17 (by decide) (T.lt (by decide)) rfl rfl ?_
          refine pm_R_lo pm_M139 (pc_q := 29) rfl rfl rfl ?_
          obtain ⟨f419, e420, b421⟩ := T.C 21 (by decide) (by decide)
          obtain ⟨l422, hx423⟩ := cl_there2 T e26 e420 ez414 c416 B417 (by decide)
          have hk424 := b421 _ _ hx423
          refine pm_R_aald pm_M139 (pc_q := 30) (v := .ref l422) rfl e420 (by decide) (by decide) (by decide) (T.lt (by decide)) (sf_in B417 (by decide) (by decide)) (by rw [hx423]; rfl) rfl ?_
          refine pm_R_ret pm_M139 (r := some (.ref l422)) rfl rfl ?_
          show pm_R _ 164 12 [.ref 16, .int a0, .int a1, .int a2, .null, pm_no, pm_no] [.ref l422] _ _
          refine pm_R_lo pm_M164 (pc_q := 14) (ls_q := [.ref 16, .int a0, .int a1, .int a2, .null, .ref l422, pm_no]) (st_q := []) rfl rfl rfl ?_
          refine pm_R_lo pm_M164 (pc_q := 16) rfl rfl rfl ?_
          refine pm_R_br pm_M164 (pc_q := 33) rfl rfl ?_
          refine pm_R_op pm_M164 (pc_q := 34) (st_q := [.int (-1)]) rfl rfl rfl ?_
          exact pm_R_ret pm_M164 (r := some (.int (-1))) rfl rfl (K (-1) m h T ((cl_F.refl (ck := ck) (A := [40]) (n := 0) (s := 0) T.1).weak (by decide) (by decide)) (rf_W.refl [] m) (sf_weak sf_kn1 (by decide) (by decide)))
        · skip
          refine pm_R_op pm_M139 (pc_q := 18) (st_q := [.null]) rfl rfl rfl ?_
          refine pm_R_br pm_M139 (pc_q := 30) rfl rfl ?_
          refine pm_R_ret pm_M139 (r := some (.null)) rfl rfl ?_
          show pm_R _ 164 12 [.ref 16, .int a0, .int a1, .int a2, .null, pm_no, pm_no] [.null] _ _
          refine pm_R_lo pm_M164 (pc_q := 14) (ls_q := [.ref 16, .int a0, .int a1, .int a2, .null, .null, pm_no]) (st_q := []) rfl rfl rfl ?_
          refine pm_R_lo pm_M164 (pc_q := 16) rfl rfl rfl ?_
          refine pm_R_br pm_M164 (pc_q := 33) rfl rfl ?_
          refine pm_R_op pm_M164 (pc_q := 34) (st_q := [.int (-1)]) rfl rfl rfl ?_
          exact pm_R_ret pm_M164 (r := some (.int (-1))) rfl rfl (K (-1) m h T ((cl_F.refl (ck := ck) (A := [40]) (n := 0) (s := 0) T.1).weak (by decide) (by decide)) (rf_W.refl [] m) (sf_weak sf_kn1 (by decide) (by decide)))

set_option maxRecDepth 100000 in
set_option maxHeartbeats 4000000 in
/-- SilentTable.sins -/
theorem cl_c167 {d : Nat} {ck : cl_K} {E : Nat → pm_E} {m : Nat → Int32} {o : Nat → Option Nat} {h : pm_H} {Q : Option Value → pm_H → Prop} {a0 : Int32} {a1 : Int32} {a2 : Int32} (G : cl_G ck E) (T : cl_T ck E m o h)  (K : ∀ (r : Int32) (m_q : Nat → Int32) (h_q : pm_H), cl_T ck E m_q o h_q → cl_F ck [40] 2 16 h h_q → rf_W [] m m_q → Q (some (.int r)) h_q) : pm_R (d + 3) 167 0 [.ref 16, .int a0, .int a1, .int a2, pm_no, pm_no, pm_no, pm_no] [] h Q := by
  refine pm_R_lo pm_M167 (pc_q := 1) rfl rfl rfl ?_
  refine pm_R_lo pm_M167 (pc_q := 2) rfl rfl rfl ?_
  refine pm_R_cv pm_M167 (pc_q := 5) (a := 16) (ra := [.int a0]) (rest := []) (ls_q := [.ref 16, .int a0]) rfl rfl (Or.inl rfl) pm_M163 T.e16 rfl (by decide) (T.lt (by decide)) rfl rfl (Nat.le_of_ble_eq_true rfl) rfl rfl ?_
  refine pm_R_lo pm_M163 (pc_q := 1) rfl rfl rfl ?_
  refine pm_R_ifc pm_M163 (t := 17) (pc_q := 4) rfl rfl rfl (fun c1 => ?_) (fun c1 => ?_)
  · have B2 : sf_B (-2147483648) (-1) a0 := sf_ltL c1 (sf_any a0) sf_k0
    refine pm_R_op pm_M163 (pc_q := 18) (st_q := [.null]) rfl rfl rfl ?_
    refine pm_R_br pm_M163 (pc_q := 30) rfl rfl ?_
    refine pm_R_ret pm_M163 (r := some (.null)) rfl rfl ?_
    show pm_R _ 167 5 [.ref 16, .int a0, .int a1, .int a2, pm_no, pm_no, pm_no, pm_no] [.null] _ _
    refine pm_R_lo pm_M167 (pc_q := 7) (ls_q := [.ref 16, .int a0, .int a1, .int a2, .null, pm_no, pm_no, pm_no]) (st_q := []) rfl rfl rfl ?_
    refine pm_R_lo pm_M167 (pc_q := 8) rfl rfl rfl ?_
    refine pm_R_lo pm_M167 (pc_q := 9) rfl rfl rfl ?_
    refine pm_R_cv pm_M167 (pc_q := 12) (a := 16) (ra := [.int a1]) (rest := []) (ls_q := [.ref 16, .int a1]) rfl rfl (Or.inl rfl) pm_M139 T.e16 rfl (by decide) (T.lt (by decide)) rfl rfl (Nat.le_of_ble_eq_true rfl) rfl rfl ?_
    refine pm_R_lo pm_M139 (pc_q := 1) rfl rfl rfl ?_
    refine pm_R_ifc pm_M139 (t := 17) (pc_q := 4) rfl rfl rfl (fun c3 => ?_) (fun c3 => ?_)
    · have B4 : sf_B (-2147483648) (-1) a1 := sf_ltL c3 (sf_any a1) sf_k0
      refine pm_R_op pm_M139 (pc_q := 18) (st_q := [.null]) rfl rfl rfl ?_
      refine pm_R_br pm_M139 (pc_q := 30) rfl rfl ?_
      refine pm_R_ret pm_M139 (r := some (.null)) rfl rfl ?_
      show pm_R _ 167 12 [.ref 16, .int a0, .int a1, .int a2, .null, pm_no, pm_no, pm_no] [.null] _ _
      refine pm_R_lo pm_M167 (pc_q := 14) (ls_q := [.ref 16, .int a0, .int a1, .int a2, .null, .null, pm_no, pm_no]) (st_q := []) rfl rfl rfl ?_
      refine pm_R_lo pm_M167 (pc_q := 16) rfl rfl rfl ?_
      refine pm_R_br pm_M167 (pc_q := 38) rfl rfl ?_
      refine pm_R_op pm_M167 (pc_q := 39) (st_q := [.int (-1)]) rfl rfl rfl ?_
      exact pm_R_ret pm_M167 (r := some (.int (-1))) rfl rfl (K (-1) m h T ((cl_F.refl (ck := ck) (A := [40]) (n := 0) (s := 0) T.1).weak (by decide) (by decide)) (rf_W.refl [] m))
    · have B5 : sf_B 0 2147483647 a1 := sf_leR (Int32.not_lt.mp c3) sf_k0 (sf_any a1)
      refine pm_R_lo pm_M139 (pc_q := 5) rfl rfl rfl ?_
      refine pm_R_lo pm_M139 (pc_q := 6) rfl rfl rfl ?_
      refine pm_R_get pm_M139 (pc_q := 9) (v := .ref 17) rfl rfl T.e16 (by decide) (T.lt (by decide)) rfl rfl ?_
      refine pm_R_get pm_M139 (pc_q := 12) (v := .ref 23) rfl rfl T.e17 (by decide) (T.lt (by decide)) rfl rfl ?_
      refine pm_R_op pm_M139 (pc_q := 13) (st_q := [.int 2, .ref 23, .int a1]) rfl rfl rfl ?_
      obtain ⟨f9, e10, b11⟩ := T.C 23 (by decide) (by decide)
      obtain ⟨z6, ez7⟩ : ∃ y, f9 (Int32.toNatClampNeg 2) = y := ⟨_, rfl⟩
      have B8 : sf_B 0 2 z6 := ez7 ▸ (b11 2)
      refine pm_R_iald pm_M139 (pc_q := 14) (v := z6) rfl e10 (T.lt (by decide)) rfl ez7 rfl ?_
      refine pm_R_icmp pm_M139 (t := 21) (pc_q := 17) rfl rfl rfl (fun c12 => ?_) (fun c12 => ?_)
      · have B13 : sf_B 0 1 a1 := sf_ltL c12 B5 B8
        have B14 : sf_B 1 2 z6 := sf_ltR c12 B5 B8
        refine pm_R_lo pm_M139 (pc_q := 22) rfl rfl rfl ?_
        refine pm_R_get pm_M139 (pc_q := 25) (v := .ref 17) rfl rfl T.e16 (by decide) (T.lt (by decide)) rfl rfl ?_
        refine pm_R_get pm_M139 (pc_q := 28) (v := .ref 21) rfl rfl T.e17 (by decide) (T.lt (by decide)) rfl rfl ?_
        refine pm_R_lo pm_M139 (pc_q := 29) rfl rfl rfl ?_
        obtain ⟨f15, e16, b17⟩ := T.C 21 (by decide) (by decide)
        obtain ⟨l18, hx19⟩ := cl_there2 T e10 e16 ez7 c12 B13 (by decide)
        have hk20 := b17 _ _ hx19
        refine pm_R_aald pm_M139 (pc_q := 30) (v := .ref l18) rfl e16 (by decide) (by decide) (by decide) (T.lt (by decide)) (sf_in B13 (by decide) (by decide)) (by rw [hx19]; rfl) rfl ?_
        refine pm_R_ret pm_M139 (r := some (.ref l18)) rfl rfl ?_
        show pm_R _ 167 12 [.ref 16, .int a0, .int a1, .int a2, .null, pm_no, pm_no, pm_no] [.ref l18] _ _
        refine pm_R_lo pm_M167 (pc_q := 14) (ls_q := [.ref 16, .int a0, .int a1, .int a2, .null, .ref l18, pm_no, pm_no]) (st_q := []) rfl rfl rfl ?_
        refine pm_R_lo pm_M167 (pc_q := 16) rfl rfl rfl ?_
        refine pm_R_br pm_M167 (pc_q := 38) rfl rfl ?_
        refine pm_R_op pm_M167 (pc_q := 39) (st_q := [.int (-1)]) rfl rfl rfl ?_
        exact pm_R_ret pm_M167 (r := some (.int (-1))) rfl rfl (K (-1) m h T ((cl_F.refl (ck := ck) (A := [40]) (n := 0) (s := 0) T.1).weak (by decide) (by decide)) (rf_W.refl [] m))
      · skip
        refine pm_R_op pm_M139 (pc_q := 18) (st_q := [.null]) rfl rfl rfl ?_
        refine pm_R_br pm_M139 (pc_q := 30) rfl rfl ?_
        refine pm_R_ret pm_M139 (r := some (.null)) rfl rfl ?_
        show pm_R _ 167 12 [.ref 16, .int a0, .int a1, .int a2, .null, pm_no, pm_no, pm_no] [.null] _ _
        refine pm_R_lo pm_M167 (pc_q := 14) (ls_q := [.ref 16, .int a0, .int a1, .int a2, .null, .null, pm_no, pm_no]) (st_q := []) rfl rfl rfl ?_
        refine pm_R_lo pm_M167 (pc_q := 16) rfl rfl rfl ?_
        refine pm_R_br pm_M167 (pc_q := 38) rfl rfl ?_
        refine pm_R_op pm_M167 (pc_q := 39) (st_q := [.int (-1)]) rfl rfl rfl ?_
        exact pm_R_ret pm_M167 (r := some (.int (-1))) rfl rfl (K (-1) m h T ((cl_F.refl (ck := ck) (A := [40]) (n := 0) (s := 0) T.1).weak (by decide) (by decide)) (rf_W.refl [] m))
  · have B21 : sf_B 0 2147483647 a0 := sf_leR (Int32.not_lt.mp c1) sf_k0 (sf_any a0)
    refine pm_R_lo pm_M163 (pc_q := 5) rfl rfl rfl ?_
    refine pm_R_lo pm_M163 (pc_q := 6) rfl rfl rfl ?_
    refine pm_R_get pm_M163 (pc_q := 9) (v := .ref 17) rfl rfl T.e16 (by decide) (T.lt (by decide)) rfl rfl ?_
    refine pm_R_get pm_M163 (pc_q := 12) (v := .ref 23) rfl rfl T.e17 (by decide) (T.lt (by decide)) rfl rfl ?_
    refine pm_R_op pm_M163 (pc_q := 13) (st_q := [.int 3, .ref 23, .int a0]) rfl rfl rfl ?_
    obtain ⟨f25, e26, b27⟩ := T.C 23 (by decide) (by decide)
    obtain ⟨z22, ez23⟩ : ∃ y, f25 (Int32.toNatClampNeg 3) = y := ⟨_, rfl⟩
    have B24 : sf_B 0 2 z22 := ez23 ▸ (b27 3)
    refine pm_R_iald pm_M163 (pc_q := 14) (v := z22) rfl e26 (T.lt (by decide)) rfl ez23 rfl ?_
    refine pm_R_icmp pm_M163 (t := 21) (pc_q := 17) rfl rfl rfl (fun c28 => ?_) (fun c28 => ?_)
    · have B29 : sf_B 0 1 a0 := sf_ltL c28 B21 B24
      have B30 : sf_B 1 2 z22 := sf_ltR c28 B21 B24
      refine pm_R_lo pm_M163 (pc_q := 22) rfl rfl rfl ?_
      refine pm_R_get pm_M163 (pc_q := 25) (v := .ref 17) rfl rfl T.e16 (by decide) (T.lt (by decide)) rfl rfl ?_
      refine pm_R_get pm_M163 (pc_q := 28) (v := .ref 22) rfl rfl T.e17 (by decide) (T.lt (by decide)) rfl rfl ?_
      refine pm_R_lo pm_M163 (pc_q := 29) rfl rfl rfl ?_
      obtain ⟨f31, e32, b33⟩ := T.C 22 (by decide) (by decide)
      obtain ⟨l34, hx35⟩ := cl_there3 T e26 e32 ez23 c28 B29 (by decide)
      have hk36 := b33 _ _ hx35
      refine pm_R_aald pm_M163 (pc_q := 30) (v := .ref l34) rfl e32 (by decide) (by decide) (by decide) (T.lt (by decide)) (sf_in B29 (by decide) (by decide)) (by rw [hx35]; rfl) rfl ?_
      refine pm_R_ret pm_M163 (r := some (.ref l34)) rfl rfl ?_
      show pm_R _ 167 5 [.ref 16, .int a0, .int a1, .int a2, pm_no, pm_no, pm_no, pm_no] [.ref l34] _ _
      refine pm_R_lo pm_M167 (pc_q := 7) (ls_q := [.ref 16, .int a0, .int a1, .int a2, .ref l34, pm_no, pm_no, pm_no]) (st_q := []) rfl rfl rfl ?_
      refine pm_R_lo pm_M167 (pc_q := 8) rfl rfl rfl ?_
      refine pm_R_lo pm_M167 (pc_q := 9) rfl rfl rfl ?_
      refine pm_R_cv pm_M167 (pc_q := 12) (a := 16) (ra := [.int a1]) (rest := []) (ls_q := [.ref 16, .int a1]) rfl rfl (Or.inl rfl) pm_M139 T.e16 rfl (by decide) (T.lt (by decide)) rfl rfl (Nat.le_of_ble_eq_true rfl) rfl rfl ?_
      refine pm_R_lo pm_M139 (pc_q := 1) rfl rfl rfl ?_
      refine pm_R_ifc pm_M139 (t := 17) (pc_q := 4) rfl rfl rfl (fun c37 => ?_) (fun c37 => ?_)
      · have B38 : sf_B (-2147483648) (-1) a1 := sf_ltL c37 (sf_any a1) sf_k0
        refine pm_R_op pm_M139 (pc_q := 18) (st_q := [.null]) rfl rfl rfl ?_
        refine pm_R_br pm_M139 (pc_q := 30) rfl rfl ?_
        refine pm_R_ret pm_M139 (r := some (.null)) rfl rfl ?_
        show pm_R _ 167 12 [.ref 16, .int a0, .int a1, .int a2, .ref l34, pm_no, pm_no, pm_no] [.null] _ _
        refine pm_R_lo pm_M167 (pc_q := 14) (ls_q := [.ref 16, .int a0, .int a1, .int a2, .ref l34, .null, pm_no, pm_no]) (st_q := []) rfl rfl rfl ?_
        refine pm_R_lo pm_M167 (pc_q := 16) rfl rfl rfl ?_
        refine pm_R_br pm_M167 (pc_q := 19) rfl rfl ?_
        refine pm_R_lo pm_M167 (pc_q := 21) rfl rfl rfl ?_
        refine pm_R_br pm_M167 (pc_q := 38) rfl rfl ?_
        refine pm_R_op pm_M167 (pc_q := 39) (st_q := [.int (-1)]) rfl rfl rfl ?_
        exact pm_R_ret pm_M167 (r := some (.int (-1))) rfl rfl (K (-1) m h T ((cl_F.refl (ck := ck) (A := [40]) (n := 0) (s := 0) T.1).weak (by decide) (by decide)) (rf_W.refl [] m))
      · have B39 : sf_B 0 2147483647 a1 := sf_leR (Int32.not_lt.mp c37) sf_k0 (sf_any a1)
        refine pm_R_lo pm_M139 (pc_q := 5) rfl rfl rfl ?_
        refine pm_R_lo pm_M139 (pc_q := 6) rfl rfl rfl ?_
        refine pm_R_get pm_M139 (pc_q := 9) (v := .ref 17) rfl rfl T.e16 (by decide) (T.lt (by decide)) rfl rfl ?_
        refine pm_R_get pm_M139 (pc_q := 12) (v := .ref 23) rfl rfl T.e17 (by decide) (T.lt (by decide)) rfl rfl ?_
        refine pm_R_op pm_M139 (pc_q := 13) (st_q := [.int 2, .ref 23, .int a1]) rfl rfl rfl ?_
        obtain ⟨z40, ez41⟩ : ∃ y, f25 (Int32.toNatClampNeg 2) = y := ⟨_, rfl⟩
        have B42 : sf_B 0 2 z40 := ez41 ▸ (b27 2)
        refine pm_R_iald pm_M139 (pc_q := 14) (v := z40) rfl e26 (T.lt (by decide)) rfl ez41 rfl ?_
        refine pm_R_icmp pm_M139 (t := 21) (pc_q := 17) rfl rfl rfl (fun c43 => ?_) (fun c43 => ?_)
        · have B44 : sf_B 0 1 a1 := sf_ltL c43 B39 B42
          have B45 : sf_B 1 2 z40 := sf_ltR c43 B39 B42
          refine pm_R_lo pm_M139 (pc_q := 22) rfl rfl rfl ?_
          refine pm_R_get pm_M139 (pc_q := 25) (v := .ref 17) rfl rfl T.e16 (by decide) (T.lt (by decide)) rfl rfl ?_
          refine pm_R_get pm_M139 (pc_q := 28) (v := .ref 21) rfl rfl T.e17 (by decide) (T.lt (by decide)) rfl rfl ?_
          refine pm_R_lo pm_M139 (pc_q := 29) rfl rfl rfl ?_
          obtain ⟨f46, e47, b48⟩ := T.C 21 (by decide) (by decide)
          obtain ⟨l49, hx50⟩ := cl_there2 T e26 e47 ez41 c43 B44 (by decide)
          have hk51 := b48 _ _ hx50
          refine pm_R_aald pm_M139 (pc_q := 30) (v := .ref l49) rfl e47 (by decide) (by decide) (by decide) (T.lt (by decide)) (sf_in B44 (by decide) (by decide)) (by rw [hx50]; rfl) rfl ?_
          refine pm_R_ret pm_M139 (r := some (.ref l49)) rfl rfl ?_
          show pm_R _ 167 12 [.ref 16, .int a0, .int a1, .int a2, .ref l34, pm_no, pm_no, pm_no] [.ref l49] _ _
          refine pm_R_lo pm_M167 (pc_q := 14) (ls_q := [.ref 16, .int a0, .int a1, .int a2, .ref l34, .ref l49, pm_no, pm_no]) (st_q := []) rfl rfl rfl ?_
          refine pm_R_lo pm_M167 (pc_q := 16) rfl rfl rfl ?_
          refine pm_R_br pm_M167 (pc_q := 19) rfl rfl ?_
          refine pm_R_lo pm_M167 (pc_q := 21) rfl rfl rfl ?_
          refine pm_R_br pm_M167 (pc_q := 24) rfl rfl ?_
          refine pm_R_lo pm_M167 (pc_q := 25) rfl rfl rfl ?_
          refine pm_R_op pm_M167 (pc_q := 26) (st_q := [.int (-1), .int a2]) rfl rfl rfl ?_
          refine pm_R_icmp pm_M167 (t := 40) (pc_q := 29) rfl rfl rfl (fun c52 => ?_) (fun c52 => ?_)
          · have B53 : sf_B (-1) (-1) a2 := sf_eqL c52 sf_kn1
            refine pm_R_lo pm_M167 (pc_q := 42) rfl rfl rfl ?_
            refine pm_R_lo pm_M167 (pc_q := 44) rfl rfl rfl ?_
            refine pm_R_lo pm_M167 (pc_q := 45) rfl rfl rfl ?_
            refine pm_R_get pm_M167 (pc_q := 48) (v := .ref 40) rfl rfl T.e16 (by decide) (T.lt (by decide)) rfl rfl ?_
            obtain ⟨n54, f55, h56, eE57, eE58, b59⟩ := (G.2.2.2.2.1 l34 hk36).2
            have kq60 := (G.2.2.2.2.1 l34 hk36).1
            refine pm_R_cv pm_M167 (pc_q := 51) (a := l34) (ra := [.ref 40, .ref l49]) (rest := []) (ls_q := [.ref l34, .ref l49, .ref 40, pm_no, pm_no, pm_no, pm_no]) rfl rfl (Or.inl rfl) pm_M165 (T.im hk36 (by decide) (by decide) eE57) rfl (G.ge hk36 (by decide)) (T.al hk36 (by decide)) rfl rfl (Nat.le_of_ble_eq_true rfl) rfl rfl ?_
            refine cl_c165 (d := d + 0) G T hk36 hk51 (fun m63 h64 T65 F66 W67 => ?_)
            have F68 := (cl_F.refl (ck := ck) (A := [40]) (n := 0) (s := 0) T.1).trans (N := 2) (S := 16) F66 (by decide) (by decide) (by decide)
            have W69 : rf_W [] m m63 := (rf_W.refl [] m).trans W67 (by decide)
            show pm_R _ 167 51 [.ref 16, .int a0, .int a1, .int a2, .ref l34, .ref l49, pm_no, pm_no] [] _ _
            refine pm_R_op pm_M167 (pc_q := 52) (st_q := [.int 0]) rfl rfl rfl ?_
            refine pm_R_lo pm_M167 (pc_q := 54) (ls_q := [.ref 16, .int a0, .int a1, .int a2, .ref l34, .ref l49, .int 0, pm_no]) (st_q := []) rfl rfl rfl ?_
            refine pm_R_op pm_M167 (pc_q := 55) (st_q := [.int 0]) rfl rfl rfl ?_
            refine pm_R_lo pm_M167 (pc_q := 57) (ls_q := [.ref 16, .int a0, .int a1, .int a2, .ref l34, .ref l49, .int 0, .int 0]) (st_q := []) rfl rfl rfl ?_
            have L_249 : ∀ (N : Nat) (x6_249 : Int32) (x7_249 : Int32), sf_B (-2147483648) 2147483647 x6_249 → sf_B 0 50 x7_249 → (50 - x7_249.toInt).toNat = N → pm_R (d + 3) 167 57 [.ref 16, .int a0, .int a1, .int a2, .ref l34, .ref l49, .int x6_249, .int x7_249] [] h64 Q := by
              intro N
              induction N using Nat.strongRecOn with
              | ind N ih_249 =>
                intro x6_249 x7_249 Bx6_249 Bx7_249 hN_249
                refine pm_R_lo pm_M167 (pc_q := 59) rfl rfl rfl ?_
                refine pm_R_lo pm_M167 (pc_q := 61) rfl rfl rfl ?_
                obtain ⟨s250, n251, fd252, fg253, fs254, h255, h256, h257, eE258, eE259, eE260, eE261, b262⟩ := (G.2.2.2.1 l49 hk51).2.2.2
                have kq263 := G.2.2.2.1 l49 hk51
                refine pm_R_get pm_M167 (pc_q := 64) (v := .int (Int32.ofNat n251)) rfl rfl (T65.im hk51 (by decide) (by decide) eE258) (G.ge hk51 (by decide)) (T65.al hk51 (by decide)) rfl rfl ?_
                refine pm_R_icmp pm_M167 (t := 102) (pc_q := 67) rfl rfl rfl (fun c264 => ?_) (fun c264 => ?_)
                · skip
                  refine pm_R_lo pm_M167 (pc_q := 104) rfl rfl rfl ?_
                  exact pm_R_ret pm_M167 (r := some (.int x6_249)) rfl (pm_ret_i _) (K x6_249 m63 h64 T65 F68 W69)
                · have B265 : sf_B 0 49 x7_249 := sf_ltL (Int32.not_le.mp c264) Bx7_249 (sf_ofB h257 (by decide))
                  have B266 : sf_B 1 50 (Int32.ofNat n251) := sf_ltR (Int32.not_le.mp c264) Bx7_249 (sf_ofB h257 (by decide))
                  refine pm_R_lo pm_M167 (pc_q := 68) rfl rfl rfl ?_
                  refine pm_R_get pm_M167 (pc_q := 71) (v := .ref 40) rfl rfl T65.e16 (by decide) (T65.lt (by decide)) rfl rfl ?_
                  refine pm_R_lo pm_M167 (pc_q := 73) rfl rfl rfl ?_
                  obtain ⟨f270, e271⟩ := T65.C 40 (by decide) (by decide)
                  obtain ⟨z267, ez268⟩ : ∃ y, f270 (Int32.toNatClampNeg x7_249) = y := ⟨_, rfl⟩
                  refine pm_R_iald pm_M167 (pc_q := 74) (v := z267) rfl e271 (T65.lt (by decide)) (sf_in B265 (by decide) (by decide)) ez268 rfl ?_
                  refine pm_R_ifc pm_M167 (t := 96) (pc_q := 77) rfl rfl rfl (fun c273 => ?_) (fun c273 => ?_)
                  · have B274 : sf_B 0 0 z267 := sf_eqL c273 sf_k0
                    refine sf_R_iinc pm_M167 (pc_q := 99) (ls_q := fun z => [.ref 16, .int a0, .int a1, .int a2, .ref l34, .ref l49, .int x6_249, .int z]) rfl B265 rfl (by decide) (by decide) (by decide) (fun _ => rfl) rfl (fun z275 e276 B277 => ?_)
                    show pm_R _ 167 99 [.ref 16, .int a0, .int a1, .int a2, .ref l34, .ref l49, .int x6_249, .int z275] [] _ _
                    refine pm_R_br pm_M167 (pc_q := 57) rfl rfl ?_
                    exact ih_249 _ (sf_up hN_249 e276 B265 (by decide) (by decide)) x6_249 z275 Bx6_249 (sf_weak B277 (by decide) (by decide)) rfl
                  · skip
                    refine pm_R_lo pm_M167 (pc_q := 78) rfl rfl rfl ?_
                    refine pm_R_op pm_M167 (pc_q := 79) (st_q := [.int (-1), .int a2]) rfl rfl rfl ?_
                    refine pm_R_icmp pm_M167 (t := 93) (pc_q := 82) rfl rfl rfl (fun c278 => ?_) (fun c278 => absurd (sf_pt2 B53 sf_kn1) c278)
                    refine sf_R_iincA pm_M167 (pc_q := 96) (ls_q := fun z => [.ref 16, .int a0, .int a1, .int a2, .ref l34, .ref l49, .int z, .int x7_249]) rfl rfl (fun _ => rfl) rfl (fun z279 => ?_)
                    show pm_R _ 167 96 [.ref 16, .int a0, .int a1, .int a2, .ref l34, .ref l49, .int z279, .int x7_249] [] _ _
                    refine sf_R_iinc pm_M167 (pc_q := 99) (ls_q := fun z => [.ref 16, .int a0, .int a1, .int a2, .ref l34, .ref l49, .int z279, .int z]) rfl B265 rfl (by decide) (by decide) (by decide) (fun _ => rfl) rfl (fun z280 e281 B282 => ?_)
                    show pm_R _ 167 99 [.ref 16, .int a0, .int a1, .int a2, .ref l34, .ref l49, .int z279, .int z280] [] _ _
                    refine pm_R_br pm_M167 (pc_q := 57) rfl rfl ?_
                    exact ih_249 _ (sf_up hN_249 e281 B265 (by decide) (by decide)) z279 z280 (sf_any z279) (sf_weak B282 (by decide) (by decide)) rfl
            exact L_249 _ 0 0 (sf_weak sf_k0 (by decide) (by decide)) (sf_weak sf_k0 (by decide) (by decide)) rfl
          · skip
            refine pm_R_lo pm_M167 (pc_q := 31) rfl rfl rfl ?_
            refine pm_R_lo pm_M167 (pc_q := 32) rfl rfl rfl ?_
            obtain ⟨s283, n284, fd285, fg286, fs287, h288, h289, h290, eE291, eE292, eE293, eE294, b295⟩ := (G.2.2.2.1 l49 hk51).2.2.2
            have kq296 := G.2.2.2.1 l49 hk51
            refine pm_R_cv pm_M167 (pc_q := 35) (a := l49) (ra := [.int a2]) (rest := []) (ls_q := [.ref l49, .int a2]) rfl rfl (Or.inl rfl) pm_M143 (T.im hk51 (by decide) (by decide) eE291) rfl (G.ge hk51 (by decide)) (T.al hk51 (by decide)) rfl rfl (Nat.le_of_ble_eq_true rfl) rfl rfl ?_
            refine pm_R_lo pm_M143 (pc_q := 1) rfl rfl rfl ?_
            refine pm_R_ifc pm_M143 (t := 16) (pc_q := 4) rfl rfl rfl (fun c297 => ?_) (fun c297 => ?_)
            · have B298 : sf_B (-2147483648) (-1) a2 := sf_ltL c297 (sf_any a2) sf_k0
              refine pm_R_op pm_M143 (pc_q := 17) (st_q := [.int 0]) rfl rfl rfl ?_
              refine pm_R_ret pm_M143 (r := some (.int 0)) rfl rfl ?_
              show pm_R _ 167 35 [.ref 16, .int a0, .int a1, .int a2, .ref l34, .ref l49, pm_no, pm_no] [.int 0] _ _
              refine pm_R_br pm_M167 (pc_q := 38) (st_q := []) rfl rfl ?_
              refine pm_R_op pm_M167 (pc_q := 39) (st_q := [.int (-1)]) rfl rfl rfl ?_
              exact pm_R_ret pm_M167 (r := some (.int (-1))) rfl rfl (K (-1) m h T ((cl_F.refl (ck := ck) (A := [40]) (n := 0) (s := 0) T.1).weak (by decide) (by decide)) (rf_W.refl [] m))
            · have B299 : sf_B 0 2147483647 a2 := sf_leR (Int32.not_lt.mp c297) sf_k0 (sf_any a2)
              refine pm_R_lo pm_M143 (pc_q := 5) rfl rfl rfl ?_
              refine pm_R_lo pm_M143 (pc_q := 6) rfl rfl rfl ?_
              refine pm_R_get pm_M143 (pc_q := 9) (v := .int (Int32.ofNat s283)) rfl rfl (T.im hk51 (by decide) (by decide) eE291) (G.ge hk51 (by decide)) (T.al hk51 (by decide)) rfl rfl ?_
              refine pm_R_icmp pm_M143 (t := 16) (pc_q := 12) rfl rfl rfl (fun c300 => ?_) (fun c300 => ?_)
              · have B301 : sf_B 1 2147483647 a2 := sf_leR c300 (sf_ofB1 h289 h288 (by decide)) B299
                refine pm_R_op pm_M143 (pc_q := 17) (st_q := [.int 0]) rfl rfl rfl ?_
                refine pm_R_ret pm_M143 (r := some (.int 0)) rfl rfl ?_
                show pm_R _ 167 35 [.ref 16, .int a0, .int a1, .int a2, .ref l34, .ref l49, pm_no, pm_no] [.int 0] _ _
                refine pm_R_br pm_M167 (pc_q := 38) (st_q := []) rfl rfl ?_
                refine pm_R_op pm_M167 (pc_q := 39) (st_q := [.int (-1)]) rfl rfl rfl ?_
                exact pm_R_ret pm_M167 (r := some (.int (-1))) rfl rfl (K (-1) m h T ((cl_F.refl (ck := ck) (A := [40]) (n := 0) (s := 0) T.1).weak (by decide) (by decide)) (rf_W.refl [] m))
              · have B302 : sf_B 0 5 a2 := sf_ltL (Int32.not_le.mp c300) B299 (sf_ofB1 h289 h288 (by decide))
                refine pm_R_op pm_M143 (pc_q := 13) (st_q := [.int 1]) rfl rfl rfl ?_
                refine pm_R_br pm_M143 (pc_q := 17) rfl rfl ?_
                refine pm_R_ret pm_M143 (r := some (.int 1)) rfl rfl ?_
                show pm_R _ 167 35 [.ref 16, .int a0, .int a1, .int a2, .ref l34, .ref l49, pm_no, pm_no] [.int 1] _ _
                refine pm_R_br pm_M167 (pc_q := 40) (st_q := []) rfl rfl ?_
                refine pm_R_lo pm_M167 (pc_q := 42) rfl rfl rfl ?_
                refine pm_R_lo pm_M167 (pc_q := 44) rfl rfl rfl ?_
                refine pm_R_lo pm_M167 (pc_q := 45) rfl rfl rfl ?_
                refine pm_R_get pm_M167 (pc_q := 48) (v := .ref 40) rfl rfl T.e16 (by decide) (T.lt (by decide)) rfl rfl ?_
                obtain ⟨n303, f304, h305, eE306, eE307, b308⟩ := (G.2.2.2.2.1 l34 hk36).2
                have kq309 := (G.2.2.2.2.1 l34 hk36).1
                refine pm_R_cv pm_M167 (pc_q := 51) (a := l34) (ra := [.ref 40, .ref l49]) (rest := []) (ls_q := [.ref l34, .ref l49, .ref 40, pm_no, pm_no, pm_no, pm_no]) rfl rfl (Or.inl rfl) pm_M165 (T.im hk36 (by decide) (by decide) eE306) rfl (G.ge hk36 (by decide)) (T.al hk36 (by decide)) rfl rfl (Nat.le_of_ble_eq_true rfl) rfl rfl ?_
                refine cl_c165 (d := d + 0) G T hk36 hk51 (fun m312 h313 T314 F315 W316 => ?_)
                have F317 := (cl_F.refl (ck := ck) (A := [40]) (n := 0) (s := 0) T.1).trans (N := 2) (S := 16) F315 (by decide) (by decide) (by decide)
                have W318 : rf_W [] m m312 := (rf_W.refl [] m).trans W316 (by decide)
                show pm_R _ 167 51 [.ref 16, .int a0, .int a1, .int a2, .ref l34, .ref l49, pm_no, pm_no] [] _ _
                refine pm_R_op pm_M167 (pc_q := 52) (st_q := [.int 0]) rfl rfl rfl ?_
                refine pm_R_lo pm_M167 (pc_q := 54) (ls_q := [.ref 16, .int a0, .int a1, .int a2, .ref l34, .ref l49, .int 0, pm_no]) (st_q := []) rfl rfl rfl ?_
                refine pm_R_op pm_M167 (pc_q := 55) (st_q := [.int 0]) rfl rfl rfl ?_
                refine pm_R_lo pm_M167 (pc_q := 57) (ls_q := [.ref 16, .int a0, .int a1, .int a2, .ref l34, .ref l49, .int 0, .int 0]) (st_q := []) rfl rfl rfl ?_
                have L_498 : ∀ (N : Nat) (x6_498 : Int32) (x7_498 : Int32), sf_B (-2147483648) 2147483647 x6_498 → sf_B 0 50 x7_498 → (50 - x7_498.toInt).toNat = N → pm_R (d + 3) 167 57 [.ref 16, .int a0, .int a1, .int a2, .ref l34, .ref l49, .int x6_498, .int x7_498] [] h313 Q := by
                  intro N
                  induction N using Nat.strongRecOn with
                  | ind N ih_498 =>
                    intro x6_498 x7_498 Bx6_498 Bx7_498 hN_498
                    refine pm_R_lo pm_M167 (pc_q := 59) rfl rfl rfl ?_
                    refine pm_R_lo pm_M167 (pc_q := 61) rfl rfl rfl ?_
                    refine pm_R_get pm_M167 (pc_q := 64) (v := .int (Int32.ofNat n284)) rfl rfl (T314.im hk51 (by decide) (by decide) eE291) (G.ge hk51 (by decide)) (T314.al hk51 (by decide)) rfl rfl ?_
                    refine pm_R_icmp pm_M167 (t := 102) (pc_q := 67) rfl rfl rfl (fun c499 => ?_) (fun c499 => ?_)
                    · skip
                      refine pm_R_lo pm_M167 (pc_q := 104) rfl rfl rfl ?_
                      exact pm_R_ret pm_M167 (r := some (.int x6_498)) rfl (pm_ret_i _) (K x6_498 m312 h313 T314 F317 W318)
                    · have B500 : sf_B 0 49 x7_498 := sf_ltL (Int32.not_le.mp c499) Bx7_498 (sf_ofB h290 (by decide))
                      have B501 : sf_B 1 50 (Int32.ofNat n284) := sf_ltR (Int32.not_le.mp c499) Bx7_498 (sf_ofB h290 (by decide))
                      refine pm_R_lo pm_M167 (pc_q := 68) rfl rfl rfl ?_
                      refine pm_R_get pm_M167 (pc_q := 71) (v := .ref 40) rfl rfl T314.e16 (by decide) (T314.lt (by decide)) rfl rfl ?_
                      refine pm_R_lo pm_M167 (pc_q := 73) rfl rfl rfl ?_
                      obtain ⟨f505, e506⟩ := T314.C 40 (by decide) (by decide)
                      obtain ⟨z502, ez503⟩ : ∃ y, f505 (Int32.toNatClampNeg x7_498) = y := ⟨_, rfl⟩
                      refine pm_R_iald pm_M167 (pc_q := 74) (v := z502) rfl e506 (T314.lt (by decide)) (sf_in B500 (by decide) (by decide)) ez503 rfl ?_
                      refine pm_R_ifc pm_M167 (t := 96) (pc_q := 77) rfl rfl rfl (fun c508 => ?_) (fun c508 => ?_)
                      · have B509 : sf_B 0 0 z502 := sf_eqL c508 sf_k0
                        refine sf_R_iinc pm_M167 (pc_q := 99) (ls_q := fun z => [.ref 16, .int a0, .int a1, .int a2, .ref l34, .ref l49, .int x6_498, .int z]) rfl B500 rfl (by decide) (by decide) (by decide) (fun _ => rfl) rfl (fun z510 e511 B512 => ?_)
                        show pm_R _ 167 99 [.ref 16, .int a0, .int a1, .int a2, .ref l34, .ref l49, .int x6_498, .int z510] [] _ _
                        refine pm_R_br pm_M167 (pc_q := 57) rfl rfl ?_
                        exact ih_498 _ (sf_up hN_498 e511 B500 (by decide) (by decide)) x6_498 z510 Bx6_498 (sf_weak B512 (by decide) (by decide)) rfl
                      · skip
                        refine pm_R_lo pm_M167 (pc_q := 78) rfl rfl rfl ?_
                        refine pm_R_op pm_M167 (pc_q := 79) (st_q := [.int (-1), .int a2]) rfl rfl rfl ?_
                        refine pm_R_icmp pm_M167 (t := 93) (pc_q := 82) rfl rfl rfl (fun c513 => absurd c513 (sf_neq1 B302 sf_kn1 (by decide))) (fun c513 => ?_)
                        skip
                        refine pm_R_lo pm_M167 (pc_q := 84) rfl rfl rfl ?_
                        refine pm_R_lo pm_M167 (pc_q := 86) rfl rfl rfl ?_
                        refine pm_R_cv pm_M167 (pc_q := 89) (a := l49) (ra := [.int x7_498]) (rest := []) (ls_q := [.ref l49, .int x7_498]) rfl rfl (Or.inl rfl) pm_M52 (T314.im hk51 (by decide) (by decide) eE291) rfl (G.ge hk51 (by decide)) (T314.al hk51 (by decide)) rfl rfl (Nat.le_of_ble_eq_true rfl) rfl rfl ?_
                        refine pm_R_lo pm_M52 (pc_q := 1) rfl rfl rfl ?_
                        refine pm_R_get pm_M52 (pc_q := 4) (v := .ref (l49 + 1)) rfl rfl (T314.im hk51 (by decide) (by decide) eE291) (G.ge hk51 (by decide)) (T314.al hk51 (by decide)) rfl rfl ?_
                        refine pm_R_lo pm_M52 (pc_q := 5) rfl rfl rfl ?_
                        refine pm_R_op pm_M52 (pc_q := 6) (st_q := [.int 4, .int x7_498, .ref (l49 + 1)]) rfl rfl rfl ?_
                        refine sf_R_imul pm_M52 (pc_q := 7) rfl rfl B500 sf_k4 (by decide) (by decide) (by decide) (fun z514 e515 B516 => ?_)
                        refine pm_R_op pm_M52 (pc_q := 8) (st_q := [.int 1, .int z514, .ref (l49 + 1)]) rfl rfl rfl ?_
                        refine sf_R_iadd pm_M52 (pc_q := 9) rfl rfl B516 sf_k1 (by decide) (by decide) (fun z517 e518 B519 => ?_)
                        have q523 := cl_in4 (n := n284) (Nat.le_trans h290 (by decide)) (Int32.not_le.mp c499) (cl_aux7 _ _ _ e515 e518) B500 (by decide) (by decide)
                        obtain ⟨z520, ez521⟩ : ∃ y, fd285 (Int32.toNatClampNeg z517) = y := ⟨_, rfl⟩
                        have B522 : sf_B 0 5 z520 := ez521 ▸ q523.2.2 ▸ (cl_seat (b295 _ q523.2.1).2.1 h289)
                        refine pm_R_iald pm_M52 (pc_q := 10) (v := z520) rfl (T314.im kq296.1 (by decide) (by decide) eE292) (T314.al kq296.1 (by decide)) q523.1 ez521 rfl ?_
                        refine pm_R_ret pm_M52 (r := some (.int z520)) rfl (pm_ret_i _) ?_
                        show pm_R _ 167 89 [.ref 16, .int a0, .int a1, .int a2, .ref l34, .ref l49, .int x6_498, .int x7_498] [.int z520] _ _
                        refine pm_R_lo pm_M167 (pc_q := 90) rfl rfl rfl ?_
                        refine pm_R_icmp pm_M167 (t := 96) (pc_q := 93) rfl rfl rfl (fun c524 => ?_) (fun c524 => ?_)
                        · skip
                          refine sf_R_iinc pm_M167 (pc_q := 99) (ls_q := fun z => [.ref 16, .int a0, .int a1, .int a2, .ref l34, .ref l49, .int x6_498, .int z]) rfl B500 rfl (by decide) (by decide) (by decide) (fun _ => rfl) rfl (fun z525 e526 B527 => ?_)
                          show pm_R _ 167 99 [.ref 16, .int a0, .int a1, .int a2, .ref l34, .ref l49, .int x6_498, .int z525] [] _ _
                          refine pm_R_br pm_M167 (pc_q := 57) rfl rfl ?_
                          exact ih_498 _ (sf_up hN_498 e526 B500 (by decide) (by decide)) x6_498 z525 Bx6_498 (sf_weak B527 (by decide) (by decide)) rfl
                        · refine sf_R_iincA pm_M167 (pc_q := 96) (ls_q := fun z => [.ref 16, .int a0, .int a1, .int a2, .ref l34, .ref l49, .int z, .int x7_498]) rfl rfl (fun _ => rfl) rfl (fun z528 => ?_)
                          show pm_R _ 167 96 [.ref 16, .int a0, .int a1, .int a2, .ref l34, .ref l49, .int z528, .int x7_498] [] _ _
                          refine sf_R_iinc pm_M167 (pc_q := 99) (ls_q := fun z => [.ref 16, .int a0, .int a1, .int a2, .ref l34, .ref l49, .int z528, .int z]) rfl B500 rfl (by decide) (by decide) (by decide) (fun _ => rfl) rfl (fun z529 e530 B531 => ?_)
                          show pm_R _ 167 99 [.ref 16, .int a0, .int a1, .int a2, .ref l34, .ref l49, .int z528, .int z529] [] _ _
                          refine pm_R_br pm_M167 (pc_q := 57) rfl rfl ?_
                          exact ih_498 _ (sf_up hN_498 e530 B500 (by decide) (by decide)) z528 z529 (sf_any z528) (sf_weak B531 (by decide) (by decide)) rfl
                exact L_498 _ 0 0 (sf_weak sf_k0 (by decide) (by decide)) (sf_weak sf_k0 (by decide) (by decide)) rfl
        · skip
          refine pm_R_op pm_M139 (pc_q := 18) (st_q := [.null]) rfl rfl rfl ?_
          refine pm_R_br pm_M139 (pc_q := 30) rfl rfl ?_
          refine pm_R_ret pm_M139 (r := some (.null)) rfl rfl ?_
          show pm_R _ 167 12 [.ref 16, .int a0, .int a1, .int a2, .ref l34, pm_no, pm_no, pm_no] [.null] _ _
          refine pm_R_lo pm_M167 (pc_q := 14) (ls_q := [.ref 16, .int a0, .int a1, .int a2, .ref l34, .null, pm_no, pm_no]) (st_q := []) rfl rfl rfl ?_
          refine pm_R_lo pm_M167 (pc_q := 16) rfl rfl rfl ?_
          refine pm_R_br pm_M167 (pc_q := 19) rfl rfl ?_
          refine pm_R_lo pm_M167 (pc_q := 21) rfl rfl rfl ?_
          refine pm_R_br pm_M167 (pc_q := 38) rfl rfl ?_
          refine pm_R_op pm_M167 (pc_q := 39) (st_q := [.int (-1)]) rfl rfl rfl ?_
          exact pm_R_ret pm_M167 (r := some (.int (-1))) rfl rfl (K (-1) m h T ((cl_F.refl (ck := ck) (A := [40]) (n := 0) (s := 0) T.1).weak (by decide) (by decide)) (rf_W.refl [] m))
    · skip
      refine pm_R_op pm_M163 (pc_q := 18) (st_q := [.null]) rfl rfl rfl ?_
      refine pm_R_br pm_M163 (pc_q := 30) rfl rfl ?_
      refine pm_R_ret pm_M163 (r := some (.null)) rfl rfl ?_
      show pm_R _ 167 5 [.ref 16, .int a0, .int a1, .int a2, pm_no, pm_no, pm_no, pm_no] [.null] _ _
      refine pm_R_lo pm_M167 (pc_q := 7) (ls_q := [.ref 16, .int a0, .int a1, .int a2, .null, pm_no, pm_no, pm_no]) (st_q := []) rfl rfl rfl ?_
      refine pm_R_lo pm_M167 (pc_q := 8) rfl rfl rfl ?_
      refine pm_R_lo pm_M167 (pc_q := 9) rfl rfl rfl ?_
      refine pm_R_cv pm_M167 (pc_q := 12) (a := 16) (ra := [.int a1]) (rest := []) (ls_q := [.ref 16, .int a1]) rfl rfl (Or.inl rfl) pm_M139 T.e16 rfl (by decide) (T.lt (by decide)) rfl rfl (Nat.le_of_ble_eq_true rfl) rfl rfl ?_
      refine pm_R_lo pm_M139 (pc_q := 1) rfl rfl rfl ?_
      refine pm_R_ifc pm_M139 (t := 17) (pc_q := 4) rfl rfl rfl (fun c532 => ?_) (fun c532 => ?_)
      · have B533 : sf_B (-2147483648) (-1) a1 := sf_ltL c532 (sf_any a1) sf_k0
        refine pm_R_op pm_M139 (pc_q := 18) (st_q := [.null]) rfl rfl rfl ?_
        refine pm_R_br pm_M139 (pc_q := 30) rfl rfl ?_
        refine pm_R_ret pm_M139 (r := some (.null)) rfl rfl ?_
        show pm_R _ 167 12 [.ref 16, .int a0, .int a1, .int a2, .null, pm_no, pm_no, pm_no] [.null] _ _
        refine pm_R_lo pm_M167 (pc_q := 14) (ls_q := [.ref 16, .int a0, .int a1, .int a2, .null, .null, pm_no, pm_no]) (st_q := []) rfl rfl rfl ?_
        refine pm_R_lo pm_M167 (pc_q := 16) rfl rfl rfl ?_
        refine pm_R_br pm_M167 (pc_q := 38) rfl rfl ?_
        refine pm_R_op pm_M167 (pc_q := 39) (st_q := [.int (-1)]) rfl rfl rfl ?_
        exact pm_R_ret pm_M167 (r := some (.int (-1))) rfl rfl (K (-1) m h T ((cl_F.refl (ck := ck) (A := [40]) (n := 0) (s := 0) T.1).weak (by decide) (by decide)) (rf_W.refl [] m))
      · have B534 : sf_B 0 2147483647 a1 := sf_leR (Int32.not_lt.mp c532) sf_k0 (sf_any a1)
        refine pm_R_lo pm_M139 (pc_q := 5) rfl rfl rfl ?_
        refine pm_R_lo pm_M139 (pc_q := 6) rfl rfl rfl ?_
        refine pm_R_get pm_M139 (pc_q := 9) (v := .ref 17) rfl rfl T.e16 (by decide) (T.lt (by decide)) rfl rfl ?_
        refine pm_R_get pm_M139 (pc_q := 12) (v := .ref 23) rfl rfl T.e17 (by decide) (T.lt (by decide)) rfl rfl ?_
        refine pm_R_op pm_M139 (pc_q := 13) (st_q := [.int 2, .ref 23, .int a1]) rfl rfl rfl ?_
        obtain ⟨z535, ez536⟩ : ∃ y, f25 (Int32.toNatClampNeg 2) = y := ⟨_, rfl⟩
        have B537 : sf_B 0 2 z535 := ez536 ▸ (b27 2)
        refine pm_R_iald pm_M139 (pc_q := 14) (v := z535) rfl e26 (T.lt (by decide)) rfl ez536 rfl ?_
        refine pm_R_icmp pm_M139 (t := 21) (pc_q := 17) rfl rfl rfl (fun c538 => ?_) (fun c538 => ?_)
        · have B539 : sf_B 0 1 a1 := sf_ltL c538 B534 B537
          have B540 : sf_B 1 2 z535 := sf_ltR c538 B534 B537
          refine pm_R_lo pm_M139 (pc_q := 22) rfl rfl rfl ?_
          refine pm_R_get pm_M139 (pc_q := 25) (v := .ref 17) rfl rfl T.e16 (by decide) (T.lt (by decide)) rfl rfl ?_
          refine pm_R_get pm_M139 (pc_q := 28) (v := .ref 21) rfl rfl T.e17 (by decide) (T.lt (by decide)) rfl rfl ?_
          refine pm_R_lo pm_M139 (pc_q := 29) rfl rfl rfl ?_
          obtain ⟨f541, e542, b543⟩ := T.C 21 (by decide) (by decide)
          obtain ⟨l544, hx545⟩ := cl_there2 T e26 e542 ez536 c538 B539 (by decide)
          have hk546 := b543 _ _ hx545
          refine pm_R_aald pm_M139 (pc_q := 30) (v := .ref l544) rfl e542 (by decide) (by decide) (by decide) (T.lt (by decide)) (sf_in B539 (by decide) (by decide)) (by rw [hx545]; rfl) rfl ?_
          refine pm_R_ret pm_M139 (r := some (.ref l544)) rfl rfl ?_
          show pm_R _ 167 12 [.ref 16, .int a0, .int a1, .int a2, .null, pm_no, pm_no, pm_no] [.ref l544] _ _
          refine pm_R_lo pm_M167 (pc_q := 14) (ls_q := [.ref 16, .int a0, .int a1, .int a2, .null, .ref l544, pm_no, pm_no]) (st_q := []) rfl rfl rfl ?_
          refine pm_R_lo pm_M167 (pc_q := 16) rfl rfl rfl ?_
          refine pm_R_br pm_M167 (pc_q := 38) rfl rfl ?_
          refine pm_R_op pm_M167 (pc_q := 39) (st_q := [.int (-1)]) rfl rfl rfl ?_
          exact pm_R_ret pm_M167 (r := some (.int (-1))) rfl rfl (K (-1) m h T ((cl_F.refl (ck := ck) (A := [40]) (n := 0) (s := 0) T.1).weak (by decide) (by decide)) (rf_W.refl [] m))
        · skip
          refine pm_R_op pm_M139 (pc_q := 18) (st_q := [.null]) rfl rfl rfl ?_
          refine pm_R_br pm_M139 (pc_q := 30) rfl rfl ?_
          refine pm_R_ret pm_M139 (r := some (.null)) rfl rfl ?_
          show pm_R _ 167 12 [.ref 16, .int a0, .int a1, .int a2, .null, pm_no, pm_no, pm_no] [.null] _ _
          refine pm_R_lo pm_M167 (pc_q := 14) (ls_q := [.ref 16, .int a0, .int a1, .int a2, .null, .null, pm_no, pm_no]) (st_q := []) rfl rfl rfl ?_
          refine pm_R_lo pm_M167 (pc_q := 16) rfl rfl rfl ?_
          refine pm_R_br pm_M167 (pc_q := 38) rfl rfl ?_
          refine pm_R_op pm_M167 (pc_q := 39) (st_q := [.int (-1)]) rfl rfl rfl ?_
          exact pm_R_ret pm_M167 (r := some (.int (-1))) rfl rfl (K (-1) m h T ((cl_F.refl (ck := ck) (A := [40]) (n := 0) (s := 0) T.1).weak (by decide) (by decide)) (rf_W.refl [] m))

set_option maxRecDepth 100000 in
set_option maxHeartbeats 4000000 in
/-- SilentTable.mildest -/
theorem cl_c168 {d : Nat} {ck : cl_K} {E : Nat → pm_E} {m : Nat → Int32} {o : Nat → Option Nat} {h : pm_H} {Q : Option Value → pm_H → Prop} {a0 : Int32} {a1 : Int32} (G : cl_G ck E) (T : cl_T ck E m o h)  (K : ∀ (r : Int32) (m_q : Nat → Int32) (h_q : pm_H), cl_T ck E m_q o h_q → cl_F ck [40] 2 16 h h_q → rf_W [] m m_q → sf_B (-1) 2147483647 r → Q (some (.int r)) h_q) : pm_R (d + 3) 168 0 [.ref 16, .int a0, .int a1, pm_no, pm_no, pm_no, pm_no, pm_no, pm_no] [] h Q := by
  refine pm_R_lo pm_M168 (pc_q := 1) rfl rfl rfl ?_
  refine pm_R_lo pm_M168 (pc_q := 2) rfl rfl rfl ?_
  refine pm_R_cv pm_M168 (pc_q := 5) (a := 16) (ra := [.int a0]) (rest := []) (ls_q := [.ref 16, .int a0]) rfl rfl (Or.inl rfl) pm_M163 T.e16 rfl (by decide) (T.lt (by decide)) rfl rfl (Nat.le_of_ble_eq_true rfl) rfl rfl ?_
  refine pm_R_lo pm_M163 (pc_q := 1) rfl rfl rfl ?_
  refine pm_R_ifc pm_M163 (t := 17) (pc_q := 4) rfl rfl rfl (fun c1 => ?_) (fun c1 => ?_)
  · have B2 : sf_B (-2147483648) (-1) a0 := sf_ltL c1 (sf_any a0) sf_k0
    refine pm_R_op pm_M163 (pc_q := 18) (st_q := [.null]) rfl rfl rfl ?_
    refine pm_R_br pm_M163 (pc_q := 30) rfl rfl ?_
    refine pm_R_ret pm_M163 (r := some (.null)) rfl rfl ?_
    show pm_R _ 168 5 [.ref 16, .int a0, .int a1, pm_no, pm_no, pm_no, pm_no, pm_no, pm_no] [.null] _ _
    refine pm_R_lo pm_M168 (pc_q := 6) (ls_q := [.ref 16, .int a0, .int a1, .null, pm_no, pm_no, pm_no, pm_no, pm_no]) (st_q := []) rfl rfl rfl ?_
    refine pm_R_lo pm_M168 (pc_q := 7) rfl rfl rfl ?_
    refine pm_R_lo pm_M168 (pc_q := 8) rfl rfl rfl ?_
    refine pm_R_cv pm_M168 (pc_q := 11) (a := 16) (ra := [.int a1]) (rest := []) (ls_q := [.ref 16, .int a1]) rfl rfl (Or.inl rfl) pm_M139 T.e16 rfl (by decide) (T.lt (by decide)) rfl rfl (Nat.le_of_ble_eq_true rfl) rfl rfl ?_
    refine pm_R_lo pm_M139 (pc_q := 1) rfl rfl rfl ?_
    refine pm_R_ifc pm_M139 (t := 17) (pc_q := 4) rfl rfl rfl (fun c3 => ?_) (fun c3 => ?_)
    · have B4 : sf_B (-2147483648) (-1) a1 := sf_ltL c3 (sf_any a1) sf_k0
      refine pm_R_op pm_M139 (pc_q := 18) (st_q := [.null]) rfl rfl rfl ?_
      refine pm_R_br pm_M139 (pc_q := 30) rfl rfl ?_
      refine pm_R_ret pm_M139 (r := some (.null)) rfl rfl ?_
      show pm_R _ 168 11 [.ref 16, .int a0, .int a1, .null, pm_no, pm_no, pm_no, pm_no, pm_no] [.null] _ _
      refine pm_R_lo pm_M168 (pc_q := 13) (ls_q := [.ref 16, .int a0, .int a1, .null, .null, pm_no, pm_no, pm_no, pm_no]) (st_q := []) rfl rfl rfl ?_
      refine pm_R_lo pm_M168 (pc_q := 14) rfl rfl rfl ?_
      refine pm_R_br pm_M168 (pc_q := 22) rfl rfl ?_
      refine pm_R_op pm_M168 (pc_q := 23) (st_q := [.int (-1)]) rfl rfl rfl ?_
      exact pm_R_ret pm_M168 (r := some (.int (-1))) rfl rfl (K (-1) m h T ((cl_F.refl (ck := ck) (A := [40]) (n := 0) (s := 0) T.1).weak (by decide) (by decide)) (rf_W.refl [] m) (sf_weak sf_kn1 (by decide) (by decide)))
    · have B5 : sf_B 0 2147483647 a1 := sf_leR (Int32.not_lt.mp c3) sf_k0 (sf_any a1)
      refine pm_R_lo pm_M139 (pc_q := 5) rfl rfl rfl ?_
      refine pm_R_lo pm_M139 (pc_q := 6) rfl rfl rfl ?_
      refine pm_R_get pm_M139 (pc_q := 9) (v := .ref 17) rfl rfl T.e16 (by decide) (T.lt (by decide)) rfl rfl ?_
      refine pm_R_get pm_M139 (pc_q := 12) (v := .ref 23) rfl rfl T.e17 (by decide) (T.lt (by decide)) rfl rfl ?_
      refine pm_R_op pm_M139 (pc_q := 13) (st_q := [.int 2, .ref 23, .int a1]) rfl rfl rfl ?_
      obtain ⟨f9, e10, b11⟩ := T.C 23 (by decide) (by decide)
      obtain ⟨z6, ez7⟩ : ∃ y, f9 (Int32.toNatClampNeg 2) = y := ⟨_, rfl⟩
      have B8 : sf_B 0 2 z6 := ez7 ▸ (b11 2)
      refine pm_R_iald pm_M139 (pc_q := 14) (v := z6) rfl e10 (T.lt (by decide)) rfl ez7 rfl ?_
      refine pm_R_icmp pm_M139 (t := 21) (pc_q := 17) rfl rfl rfl (fun c12 => ?_) (fun c12 => ?_)
      · have B13 : sf_B 0 1 a1 := sf_ltL c12 B5 B8
        have B14 : sf_B 1 2 z6 := sf_ltR c12 B5 B8
        refine pm_R_lo pm_M139 (pc_q := 22) rfl rfl rfl ?_
        refine pm_R_get pm_M139 (pc_q := 25) (v := .ref 17) rfl rfl T.e16 (by decide) (T.lt (by decide)) rfl rfl ?_
        refine pm_R_get pm_M139 (pc_q := 28) (v := .ref 21) rfl rfl T.e17 (by decide) (T.lt (by decide)) rfl rfl ?_
        refine pm_R_lo pm_M139 (pc_q := 29) rfl rfl rfl ?_
        obtain ⟨f15, e16, b17⟩ := T.C 21 (by decide) (by decide)
        obtain ⟨l18, hx19⟩ := cl_there2 T e10 e16 ez7 c12 B13 (by decide)
        have hk20 := b17 _ _ hx19
        refine pm_R_aald pm_M139 (pc_q := 30) (v := .ref l18) rfl e16 (by decide) (by decide) (by decide) (T.lt (by decide)) (sf_in B13 (by decide) (by decide)) (by rw [hx19]; rfl) rfl ?_
        refine pm_R_ret pm_M139 (r := some (.ref l18)) rfl rfl ?_
        show pm_R _ 168 11 [.ref 16, .int a0, .int a1, .null, pm_no, pm_no, pm_no, pm_no, pm_no] [.ref l18] _ _
        refine pm_R_lo pm_M168 (pc_q := 13) (ls_q := [.ref 16, .int a0, .int a1, .null, .ref l18, pm_no, pm_no, pm_no, pm_no]) (st_q := []) rfl rfl rfl ?_
        refine pm_R_lo pm_M168 (pc_q := 14) rfl rfl rfl ?_
        refine pm_R_br pm_M168 (pc_q := 22) rfl rfl ?_
        refine pm_R_op pm_M168 (pc_q := 23) (st_q := [.int (-1)]) rfl rfl rfl ?_
        exact pm_R_ret pm_M168 (r := some (.int (-1))) rfl rfl (K (-1) m h T ((cl_F.refl (ck := ck) (A := [40]) (n := 0) (s := 0) T.1).weak (by decide) (by decide)) (rf_W.refl [] m) (sf_weak sf_kn1 (by decide) (by decide)))
      · skip
        refine pm_R_op pm_M139 (pc_q := 18) (st_q := [.null]) rfl rfl rfl ?_
        refine pm_R_br pm_M139 (pc_q := 30) rfl rfl ?_
        refine pm_R_ret pm_M139 (r := some (.null)) rfl rfl ?_
        show pm_R _ 168 11 [.ref 16, .int a0, .int a1, .null, pm_no, pm_no, pm_no, pm_no, pm_no] [.null] _ _
        refine pm_R_lo pm_M168 (pc_q := 13) (ls_q := [.ref 16, .int a0, .int a1, .null, .null, pm_no, pm_no, pm_no, pm_no]) (st_q := []) rfl rfl rfl ?_
        refine pm_R_lo pm_M168 (pc_q := 14) rfl rfl rfl ?_
        refine pm_R_br pm_M168 (pc_q := 22) rfl rfl ?_
        refine pm_R_op pm_M168 (pc_q := 23) (st_q := [.int (-1)]) rfl rfl rfl ?_
        exact pm_R_ret pm_M168 (r := some (.int (-1))) rfl rfl (K (-1) m h T ((cl_F.refl (ck := ck) (A := [40]) (n := 0) (s := 0) T.1).weak (by decide) (by decide)) (rf_W.refl [] m) (sf_weak sf_kn1 (by decide) (by decide)))
  · have B21 : sf_B 0 2147483647 a0 := sf_leR (Int32.not_lt.mp c1) sf_k0 (sf_any a0)
    refine pm_R_lo pm_M163 (pc_q := 5) rfl rfl rfl ?_
    refine pm_R_lo pm_M163 (pc_q := 6) rfl rfl rfl ?_
    refine pm_R_get pm_M163 (pc_q := 9) (v := .ref 17) rfl rfl T.e16 (by decide) (T.lt (by decide)) rfl rfl ?_
    refine pm_R_get pm_M163 (pc_q := 12) (v := .ref 23) rfl rfl T.e17 (by decide) (T.lt (by decide)) rfl rfl ?_
    refine pm_R_op pm_M163 (pc_q := 13) (st_q := [.int 3, .ref 23, .int a0]) rfl rfl rfl ?_
    obtain ⟨f25, e26, b27⟩ := T.C 23 (by decide) (by decide)
    obtain ⟨z22, ez23⟩ : ∃ y, f25 (Int32.toNatClampNeg 3) = y := ⟨_, rfl⟩
    have B24 : sf_B 0 2 z22 := ez23 ▸ (b27 3)
    refine pm_R_iald pm_M163 (pc_q := 14) (v := z22) rfl e26 (T.lt (by decide)) rfl ez23 rfl ?_
    refine pm_R_icmp pm_M163 (t := 21) (pc_q := 17) rfl rfl rfl (fun c28 => ?_) (fun c28 => ?_)
    · have B29 : sf_B 0 1 a0 := sf_ltL c28 B21 B24
      have B30 : sf_B 1 2 z22 := sf_ltR c28 B21 B24
      refine pm_R_lo pm_M163 (pc_q := 22) rfl rfl rfl ?_
      refine pm_R_get pm_M163 (pc_q := 25) (v := .ref 17) rfl rfl T.e16 (by decide) (T.lt (by decide)) rfl rfl ?_
      refine pm_R_get pm_M163 (pc_q := 28) (v := .ref 22) rfl rfl T.e17 (by decide) (T.lt (by decide)) rfl rfl ?_
      refine pm_R_lo pm_M163 (pc_q := 29) rfl rfl rfl ?_
      obtain ⟨f31, e32, b33⟩ := T.C 22 (by decide) (by decide)
      obtain ⟨l34, hx35⟩ := cl_there3 T e26 e32 ez23 c28 B29 (by decide)
      have hk36 := b33 _ _ hx35
      refine pm_R_aald pm_M163 (pc_q := 30) (v := .ref l34) rfl e32 (by decide) (by decide) (by decide) (T.lt (by decide)) (sf_in B29 (by decide) (by decide)) (by rw [hx35]; rfl) rfl ?_
      refine pm_R_ret pm_M163 (r := some (.ref l34)) rfl rfl ?_
      show pm_R _ 168 5 [.ref 16, .int a0, .int a1, pm_no, pm_no, pm_no, pm_no, pm_no, pm_no] [.ref l34] _ _
      refine pm_R_lo pm_M168 (pc_q := 6) (ls_q := [.ref 16, .int a0, .int a1, .ref l34, pm_no, pm_no, pm_no, pm_no, pm_no]) (st_q := []) rfl rfl rfl ?_
      refine pm_R_lo pm_M168 (pc_q := 7) rfl rfl rfl ?_
      refine pm_R_lo pm_M168 (pc_q := 8) rfl rfl rfl ?_
      refine pm_R_cv pm_M168 (pc_q := 11) (a := 16) (ra := [.int a1]) (rest := []) (ls_q := [.ref 16, .int a1]) rfl rfl (Or.inl rfl) pm_M139 T.e16 rfl (by decide) (T.lt (by decide)) rfl rfl (Nat.le_of_ble_eq_true rfl) rfl rfl ?_
      refine pm_R_lo pm_M139 (pc_q := 1) rfl rfl rfl ?_
      refine pm_R_ifc pm_M139 (t := 17) (pc_q := 4) rfl rfl rfl (fun c37 => ?_) (fun c37 => ?_)
      · have B38 : sf_B (-2147483648) (-1) a1 := sf_ltL c37 (sf_any a1) sf_k0
        refine pm_R_op pm_M139 (pc_q := 18) (st_q := [.null]) rfl rfl rfl ?_
        refine pm_R_br pm_M139 (pc_q := 30) rfl rfl ?_
        refine pm_R_ret pm_M139 (r := some (.null)) rfl rfl ?_
        show pm_R _ 168 11 [.ref 16, .int a0, .int a1, .ref l34, pm_no, pm_no, pm_no, pm_no, pm_no] [.null] _ _
        refine pm_R_lo pm_M168 (pc_q := 13) (ls_q := [.ref 16, .int a0, .int a1, .ref l34, .null, pm_no, pm_no, pm_no, pm_no]) (st_q := []) rfl rfl rfl ?_
        refine pm_R_lo pm_M168 (pc_q := 14) rfl rfl rfl ?_
        refine pm_R_br pm_M168 (pc_q := 17) rfl rfl ?_
        refine pm_R_lo pm_M168 (pc_q := 19) rfl rfl rfl ?_
        refine pm_R_br pm_M168 (pc_q := 22) rfl rfl ?_
        refine pm_R_op pm_M168 (pc_q := 23) (st_q := [.int (-1)]) rfl rfl rfl ?_
        exact pm_R_ret pm_M168 (r := some (.int (-1))) rfl rfl (K (-1) m h T ((cl_F.refl (ck := ck) (A := [40]) (n := 0) (s := 0) T.1).weak (by decide) (by decide)) (rf_W.refl [] m) (sf_weak sf_kn1 (by decide) (by decide)))
      · have B39 : sf_B 0 2147483647 a1 := sf_leR (Int32.not_lt.mp c37) sf_k0 (sf_any a1)
        refine pm_R_lo pm_M139 (pc_q := 5) rfl rfl rfl ?_
        refine pm_R_lo pm_M139 (pc_q := 6) rfl rfl rfl ?_
        refine pm_R_get pm_M139 (pc_q := 9) (v := .ref 17) rfl rfl T.e16 (by decide) (T.lt (by decide)) rfl rfl ?_
        refine pm_R_get pm_M139 (pc_q := 12) (v := .ref 23) rfl rfl T.e17 (by decide) (T.lt (by decide)) rfl rfl ?_
        refine pm_R_op pm_M139 (pc_q := 13) (st_q := [.int 2, .ref 23, .int a1]) rfl rfl rfl ?_
        obtain ⟨z40, ez41⟩ : ∃ y, f25 (Int32.toNatClampNeg 2) = y := ⟨_, rfl⟩
        have B42 : sf_B 0 2 z40 := ez41 ▸ (b27 2)
        refine pm_R_iald pm_M139 (pc_q := 14) (v := z40) rfl e26 (T.lt (by decide)) rfl ez41 rfl ?_
        refine pm_R_icmp pm_M139 (t := 21) (pc_q := 17) rfl rfl rfl (fun c43 => ?_) (fun c43 => ?_)
        · have B44 : sf_B 0 1 a1 := sf_ltL c43 B39 B42
          have B45 : sf_B 1 2 z40 := sf_ltR c43 B39 B42
          refine pm_R_lo pm_M139 (pc_q := 22) rfl rfl rfl ?_
          refine pm_R_get pm_M139 (pc_q := 25) (v := .ref 17) rfl rfl T.e16 (by decide) (T.lt (by decide)) rfl rfl ?_
          refine pm_R_get pm_M139 (pc_q := 28) (v := .ref 21) rfl rfl T.e17 (by decide) (T.lt (by decide)) rfl rfl ?_
          refine pm_R_lo pm_M139 (pc_q := 29) rfl rfl rfl ?_
          obtain ⟨f46, e47, b48⟩ := T.C 21 (by decide) (by decide)
          obtain ⟨l49, hx50⟩ := cl_there2 T e26 e47 ez41 c43 B44 (by decide)
          have hk51 := b48 _ _ hx50
          refine pm_R_aald pm_M139 (pc_q := 30) (v := .ref l49) rfl e47 (by decide) (by decide) (by decide) (T.lt (by decide)) (sf_in B44 (by decide) (by decide)) (by rw [hx50]; rfl) rfl ?_
          refine pm_R_ret pm_M139 (r := some (.ref l49)) rfl rfl ?_
          show pm_R _ 168 11 [.ref 16, .int a0, .int a1, .ref l34, pm_no, pm_no, pm_no, pm_no, pm_no] [.ref l49] _ _
          refine pm_R_lo pm_M168 (pc_q := 13) (ls_q := [.ref 16, .int a0, .int a1, .ref l34, .ref l49, pm_no, pm_no, pm_no, pm_no]) (st_q := []) rfl rfl rfl ?_
          refine pm_R_lo pm_M168 (pc_q := 14) rfl rfl rfl ?_
          refine pm_R_br pm_M168 (pc_q := 17) rfl rfl ?_
          refine pm_R_lo pm_M168 (pc_q := 19) rfl rfl rfl ?_
          refine pm_R_br pm_M168 (pc_q := 24) rfl rfl ?_
          refine pm_R_lo pm_M168 (pc_q := 25) rfl rfl rfl ?_
          refine pm_R_lo pm_M168 (pc_q := 27) rfl rfl rfl ?_
          refine pm_R_lo pm_M168 (pc_q := 28) rfl rfl rfl ?_
          refine pm_R_get pm_M168 (pc_q := 31) (v := .ref 40) rfl rfl T.e16 (by decide) (T.lt (by decide)) rfl rfl ?_
          obtain ⟨n52, f53, h54, eE55, eE56, b57⟩ := (G.2.2.2.2.1 l34 hk36).2
          have kq58 := (G.2.2.2.2.1 l34 hk36).1
          refine pm_R_cv pm_M168 (pc_q := 34) (a := l34) (ra := [.ref 40, .ref l49]) (rest := []) (ls_q := [.ref l34, .ref l49, .ref 40, pm_no, pm_no, pm_no, pm_no]) rfl rfl (Or.inl rfl) pm_M165 (T.im hk36 (by decide) (by decide) eE55) rfl (G.ge hk36 (by decide)) (T.al hk36 (by decide)) rfl rfl (Nat.le_of_ble_eq_true rfl) rfl rfl ?_
          refine cl_c165 (d := d + 0) G T hk36 hk51 (fun m61 h62 T63 F64 W65 => ?_)
          have F66 := (cl_F.refl (ck := ck) (A := [40]) (n := 0) (s := 0) T.1).trans (N := 2) (S := 16) F64 (by decide) (by decide) (by decide)
          have W67 : rf_W [] m m61 := (rf_W.refl [] m).trans W65 (by decide)
          show pm_R _ 168 34 [.ref 16, .int a0, .int a1, .ref l34, .ref l49, pm_no, pm_no, pm_no, pm_no] [] _ _
          refine pm_R_op pm_M168 (pc_q := 35) (st_q := [.int (-1)]) rfl rfl rfl ?_
          refine pm_R_lo pm_M168 (pc_q := 37) (ls_q := [.ref 16, .int a0, .int a1, .ref l34, .ref l49, .int (-1), pm_no, pm_no, pm_no]) (st_q := []) rfl rfl rfl ?_
          refine pm_R_op pm_M168 (pc_q := 39) (st_q := [.int 51]) rfl rfl rfl ?_
          refine pm_R_lo pm_M168 (pc_q := 41) (ls_q := [.ref 16, .int a0, .int a1, .ref l34, .ref l49, .int (-1), .int 51, pm_no, pm_no]) (st_q := []) rfl rfl rfl ?_
          refine pm_R_op pm_M168 (pc_q := 42) (st_q := [.int 0]) rfl rfl rfl ?_
          refine pm_R_lo pm_M168 (pc_q := 44) (ls_q := [.ref 16, .int a0, .int a1, .ref l34, .ref l49, .int (-1), .int 51, .int 0, pm_no]) (st_q := []) rfl rfl rfl ?_
          have L_293 : ∀ (N : Nat) (x5_293 : Int32) (x6_293 : Int32) (x7_293 : Int32) (g8_293 : Value), sf_B (-1) 2147483647 x5_293 → sf_B (-2147483648) 51 x6_293 → sf_B 0 8 x7_293 → g8_293.category = 1 → (8 - x7_293.toInt).toNat = N → pm_R (d + 3) 168 44 [.ref 16, .int a0, .int a1, .ref l34, .ref l49, .int x5_293, .int x6_293, .int x7_293, g8_293] [] h62 Q := by
            intro N
            induction N using Nat.strongRecOn with
            | ind N ih_293 =>
              intro x5_293 x6_293 x7_293 g8_293 Bx5_293 Bx6_293 Bx7_293 Cg8_293 hN_293
              refine pm_R_lo pm_M168 (pc_q := 46) rfl rfl rfl ?_
              refine pm_R_lo pm_M168 (pc_q := 47) rfl rfl rfl ?_
              refine pm_R_get pm_M168 (pc_q := 50) (v := .int (Int32.ofNat n52)) rfl rfl (T63.im hk36 (by decide) (by decide) eE55) (G.ge hk36 (by decide)) (T63.al hk36 (by decide)) rfl rfl ?_
              refine pm_R_icmp pm_M168 (t := 91) (pc_q := 53) rfl rfl rfl (fun c294 => ?_) (fun c294 => ?_)
              · skip
                refine pm_R_lo pm_M168 (pc_q := 93) rfl rfl rfl ?_
                exact pm_R_ret pm_M168 (r := some (.int x5_293)) rfl (pm_ret_i _) (K x5_293 m61 h62 T63 F66 W67 Bx5_293)
              · have B295 : sf_B 0 7 x7_293 := sf_ltL (Int32.not_le.mp c294) Bx7_293 (sf_ofB h54 (by decide))
                have B296 : sf_B 1 8 (Int32.ofNat n52) := sf_ltR (Int32.not_le.mp c294) Bx7_293 (sf_ofB h54 (by decide))
                refine pm_R_lo pm_M168 (pc_q := 54) rfl rfl rfl ?_
                refine pm_R_op pm_M168 (pc_q := 55) (st_q := [.int 1, .ref 16]) rfl rfl rfl ?_
                refine pm_R_lo pm_M168 (pc_q := 57) rfl rfl rfl ?_
                refine sf_R_iany pm_M168 (pc_q := 58) (st := [.ref 16]) rfl rfl rfl (fun z300 => ?_)
                refine pm_R_op pm_M168 (pc_q := 59) (st_q := [.int (-1), .int z300, .ref 16]) rfl rfl rfl ?_
                refine sf_R_iany pm_M168 (pc_q := 60) (st := [.ref 16]) rfl rfl rfl (fun z304 => ?_)
                refine pm_R_lo pm_M168 (pc_q := 62) rfl rfl rfl ?_
                obtain ⟨s305, n306, fd307, fg308, fs309, h310, h311, h312, eE313, eE314, eE315, eE316, b317⟩ := (G.2.2.2.1 l49 hk51).2.2.2
                have kq318 := G.2.2.2.1 l49 hk51
                refine pm_R_get pm_M168 (pc_q := 65) (v := .int (Int32.ofNat n306)) rfl rfl (T63.im hk51 (by decide) (by decide) eE313) (G.ge hk51 (by decide)) (T63.al hk51 (by decide)) rfl rfl ?_
                refine pm_R_cv pm_M168 (pc_q := 68) (a := 16) (ra := [.int (Int32.ofNat n306), .int z304]) (rest := []) (ls_q := [.ref 16, .int z304, .int (Int32.ofNat n306), pm_no, pm_no]) rfl rfl (Or.inl rfl) pm_M169 T63.e16 rfl (by decide) (T63.lt (by decide)) rfl rfl (Nat.le_of_ble_eq_true rfl) rfl rfl ?_
                refine cl_c169 (d := d + 2) G T63 (sf_ofB h312 (by decide)) (fun r319 => ?_)
                show pm_R _ 168 68 [.ref 16, .int a0, .int a1, .ref l34, .ref l49, .int x5_293, .int x6_293, .int x7_293, g8_293] [.int r319] _ _
                refine pm_R_lo pm_M168 (pc_q := 70) (ls_q := [.ref 16, .int a0, .int a1, .ref l34, .ref l49, .int x5_293, .int x6_293, .int x7_293, .int r319]) (st_q := []) rfl rfl rfl ?_
                refine pm_R_lo pm_M168 (pc_q := 72) rfl rfl rfl ?_
                refine pm_R_lo pm_M168 (pc_q := 74) rfl rfl rfl ?_
                refine pm_R_icmp pm_M168 (t := 85) (pc_q := 77) rfl rfl rfl (fun c326 => ?_) (fun c326 => ?_)
                · skip
                  refine sf_R_iinc pm_M168 (pc_q := 88) (ls_q := fun z => [.ref 16, .int a0, .int a1, .ref l34, .ref l49, .int x5_293, .int x6_293, .int z, .int r319]) rfl B295 rfl (by decide) (by decide) (by decide) (fun _ => rfl) rfl (fun z327 e328 B329 => ?_)
                  show pm_R _ 168 88 [.ref 16, .int a0, .int a1, .ref l34, .ref l49, .int x5_293, .int x6_293, .int z327, .int r319] [] _ _
                  refine pm_R_br pm_M168 (pc_q := 44) rfl rfl ?_
                  exact ih_293 _ (sf_up hN_293 e328 B295 (by decide) (by decide)) x5_293 x6_293 z327 (.int r319) Bx5_293 Bx6_293 (sf_weak B329 (by decide) (by decide)) rfl rfl
                · have B330 : sf_B (-2147483648) 50 r319 := sf_ltL (Int32.not_le.mp c326) (sf_any r319) Bx6_293
                  have B331 : sf_B (-2147483647) 51 x6_293 := sf_ltR (Int32.not_le.mp c326) (sf_any r319) Bx6_293
                  refine pm_R_lo pm_M168 (pc_q := 79) rfl rfl rfl ?_
                  refine pm_R_lo pm_M168 (pc_q := 81) (ls_q := [.ref 16, .int a0, .int a1, .ref l34, .ref l49, .int x7_293, .int x6_293, .int x7_293, .int r319]) (st_q := []) rfl rfl rfl ?_
                  refine pm_R_lo pm_M168 (pc_q := 83) rfl rfl rfl ?_
                  refine pm_R_lo pm_M168 (pc_q := 85) (ls_q := [.ref 16, .int a0, .int a1, .ref l34, .ref l49, .int x7_293, .int r319, .int x7_293, .int r319]) (st_q := []) rfl rfl rfl ?_
                  refine sf_R_iinc pm_M168 (pc_q := 88) (ls_q := fun z => [.ref 16, .int a0, .int a1, .ref l34, .ref l49, .int x7_293, .int r319, .int z, .int r319]) rfl B295 rfl (by decide) (by decide) (by decide) (fun _ => rfl) rfl (fun z332 e333 B334 => ?_)
                  show pm_R _ 168 88 [.ref 16, .int a0, .int a1, .ref l34, .ref l49, .int x7_293, .int r319, .int z332, .int r319] [] _ _
                  refine pm_R_br pm_M168 (pc_q := 44) rfl rfl ?_
                  exact ih_293 _ (sf_up hN_293 e333 B295 (by decide) (by decide)) x7_293 r319 z332 (.int r319) (sf_weak B295 (by decide) (by decide)) (sf_weak B330 (by decide) (by decide)) (sf_weak B334 (by decide) (by decide)) rfl rfl
          exact L_293 _ (-1) 51 0 (pm_no) (sf_weak sf_kn1 (by decide) (by decide)) (sf_weak sf_k51 (by decide) (by decide)) (sf_weak sf_k0 (by decide) (by decide)) rfl rfl
        · skip
          refine pm_R_op pm_M139 (pc_q := 18) (st_q := [.null]) rfl rfl rfl ?_
          refine pm_R_br pm_M139 (pc_q := 30) rfl rfl ?_
          refine pm_R_ret pm_M139 (r := some (.null)) rfl rfl ?_
          show pm_R _ 168 11 [.ref 16, .int a0, .int a1, .ref l34, pm_no, pm_no, pm_no, pm_no, pm_no] [.null] _ _
          refine pm_R_lo pm_M168 (pc_q := 13) (ls_q := [.ref 16, .int a0, .int a1, .ref l34, .null, pm_no, pm_no, pm_no, pm_no]) (st_q := []) rfl rfl rfl ?_
          refine pm_R_lo pm_M168 (pc_q := 14) rfl rfl rfl ?_
          refine pm_R_br pm_M168 (pc_q := 17) rfl rfl ?_
          refine pm_R_lo pm_M168 (pc_q := 19) rfl rfl rfl ?_
          refine pm_R_br pm_M168 (pc_q := 22) rfl rfl ?_
          refine pm_R_op pm_M168 (pc_q := 23) (st_q := [.int (-1)]) rfl rfl rfl ?_
          exact pm_R_ret pm_M168 (r := some (.int (-1))) rfl rfl (K (-1) m h T ((cl_F.refl (ck := ck) (A := [40]) (n := 0) (s := 0) T.1).weak (by decide) (by decide)) (rf_W.refl [] m) (sf_weak sf_kn1 (by decide) (by decide)))
    · skip
      refine pm_R_op pm_M163 (pc_q := 18) (st_q := [.null]) rfl rfl rfl ?_
      refine pm_R_br pm_M163 (pc_q := 30) rfl rfl ?_
      refine pm_R_ret pm_M163 (r := some (.null)) rfl rfl ?_
      show pm_R _ 168 5 [.ref 16, .int a0, .int a1, pm_no, pm_no, pm_no, pm_no, pm_no, pm_no] [.null] _ _
      refine pm_R_lo pm_M168 (pc_q := 6) (ls_q := [.ref 16, .int a0, .int a1, .null, pm_no, pm_no, pm_no, pm_no, pm_no]) (st_q := []) rfl rfl rfl ?_
      refine pm_R_lo pm_M168 (pc_q := 7) rfl rfl rfl ?_
      refine pm_R_lo pm_M168 (pc_q := 8) rfl rfl rfl ?_
      refine pm_R_cv pm_M168 (pc_q := 11) (a := 16) (ra := [.int a1]) (rest := []) (ls_q := [.ref 16, .int a1]) rfl rfl (Or.inl rfl) pm_M139 T.e16 rfl (by decide) (T.lt (by decide)) rfl rfl (Nat.le_of_ble_eq_true rfl) rfl rfl ?_
      refine pm_R_lo pm_M139 (pc_q := 1) rfl rfl rfl ?_
      refine pm_R_ifc pm_M139 (t := 17) (pc_q := 4) rfl rfl rfl (fun c335 => ?_) (fun c335 => ?_)
      · have B336 : sf_B (-2147483648) (-1) a1 := sf_ltL c335 (sf_any a1) sf_k0
        refine pm_R_op pm_M139 (pc_q := 18) (st_q := [.null]) rfl rfl rfl ?_
        refine pm_R_br pm_M139 (pc_q := 30) rfl rfl ?_
        refine pm_R_ret pm_M139 (r := some (.null)) rfl rfl ?_
        show pm_R _ 168 11 [.ref 16, .int a0, .int a1, .null, pm_no, pm_no, pm_no, pm_no, pm_no] [.null] _ _
        refine pm_R_lo pm_M168 (pc_q := 13) (ls_q := [.ref 16, .int a0, .int a1, .null, .null, pm_no, pm_no, pm_no, pm_no]) (st_q := []) rfl rfl rfl ?_
        refine pm_R_lo pm_M168 (pc_q := 14) rfl rfl rfl ?_
        refine pm_R_br pm_M168 (pc_q := 22) rfl rfl ?_
        refine pm_R_op pm_M168 (pc_q := 23) (st_q := [.int (-1)]) rfl rfl rfl ?_
        exact pm_R_ret pm_M168 (r := some (.int (-1))) rfl rfl (K (-1) m h T ((cl_F.refl (ck := ck) (A := [40]) (n := 0) (s := 0) T.1).weak (by decide) (by decide)) (rf_W.refl [] m) (sf_weak sf_kn1 (by decide) (by decide)))
      · have B337 : sf_B 0 2147483647 a1 := sf_leR (Int32.not_lt.mp c335) sf_k0 (sf_any a1)
        refine pm_R_lo pm_M139 (pc_q := 5) rfl rfl rfl ?_
        refine pm_R_lo pm_M139 (pc_q := 6) rfl rfl rfl ?_
        refine pm_R_get pm_M139 (pc_q := 9) (v := .ref 17) rfl rfl T.e16 (by decide) (T.lt (by decide)) rfl rfl ?_
        refine pm_R_get pm_M139 (pc_q := 12) (v := .ref 23) rfl rfl T.e17 (by decide) (T.lt (by decide)) rfl rfl ?_
        refine pm_R_op pm_M139 (pc_q := 13) (st_q := [.int 2, .ref 23, .int a1]) rfl rfl rfl ?_
        obtain ⟨z338, ez339⟩ : ∃ y, f25 (Int32.toNatClampNeg 2) = y := ⟨_, rfl⟩
        have B340 : sf_B 0 2 z338 := ez339 ▸ (b27 2)
        refine pm_R_iald pm_M139 (pc_q := 14) (v := z338) rfl e26 (T.lt (by decide)) rfl ez339 rfl ?_
        refine pm_R_icmp pm_M139 (t := 21) (pc_q := 17) rfl rfl rfl (fun c341 => ?_) (fun c341 => ?_)
        · have B342 : sf_B 0 1 a1 := sf_ltL c341 B337 B340
          have B343 : sf_B 1 2 z338 := sf_ltR c341 B337 B340
          refine pm_R_lo pm_M139 (pc_q := 22) rfl rfl rfl ?_
          refine pm_R_get pm_M139 (pc_q := 25) (v := .ref 17) rfl rfl T.e16 (by decide) (T.lt (by decide)) rfl rfl ?_
          refine pm_R_get pm_M139 (pc_q := 28) (v := .ref 21) rfl rfl T.e17 (by decide) (T.lt (by decide)) rfl rfl ?_
          refine pm_R_lo pm_M139 (pc_q := 29) rfl rfl rfl ?_
          obtain ⟨f344, e345, b346⟩ := T.C 21 (by decide) (by decide)
          obtain ⟨l347, hx348⟩ := cl_there2 T e26 e345 ez339 c341 B342 (by decide)
          have hk349 := b346 _ _ hx348
          refine pm_R_aald pm_M139 (pc_q := 30) (v := .ref l347) rfl e345 (by decide) (by decide) (by decide) (T.lt (by decide)) (sf_in B342 (by decide) (by decide)) (by rw [hx348]; rfl) rfl ?_
          refine pm_R_ret pm_M139 (r := some (.ref l347)) rfl rfl ?_
          show pm_R _ 168 11 [.ref 16, .int a0, .int a1, .null, pm_no, pm_no, pm_no, pm_no, pm_no] [.ref l347] _ _
          refine pm_R_lo pm_M168 (pc_q := 13) (ls_q := [.ref 16, .int a0, .int a1, .null, .ref l347, pm_no, pm_no, pm_no, pm_no]) (st_q := []) rfl rfl rfl ?_
          refine pm_R_lo pm_M168 (pc_q := 14) rfl rfl rfl ?_
          refine pm_R_br pm_M168 (pc_q := 22) rfl rfl ?_
          refine pm_R_op pm_M168 (pc_q := 23) (st_q := [.int (-1)]) rfl rfl rfl ?_
          exact pm_R_ret pm_M168 (r := some (.int (-1))) rfl rfl (K (-1) m h T ((cl_F.refl (ck := ck) (A := [40]) (n := 0) (s := 0) T.1).weak (by decide) (by decide)) (rf_W.refl [] m) (sf_weak sf_kn1 (by decide) (by decide)))
        · skip
          refine pm_R_op pm_M139 (pc_q := 18) (st_q := [.null]) rfl rfl rfl ?_
          refine pm_R_br pm_M139 (pc_q := 30) rfl rfl ?_
          refine pm_R_ret pm_M139 (r := some (.null)) rfl rfl ?_
          show pm_R _ 168 11 [.ref 16, .int a0, .int a1, .null, pm_no, pm_no, pm_no, pm_no, pm_no] [.null] _ _
          refine pm_R_lo pm_M168 (pc_q := 13) (ls_q := [.ref 16, .int a0, .int a1, .null, .null, pm_no, pm_no, pm_no, pm_no]) (st_q := []) rfl rfl rfl ?_
          refine pm_R_lo pm_M168 (pc_q := 14) rfl rfl rfl ?_
          refine pm_R_br pm_M168 (pc_q := 22) rfl rfl ?_
          refine pm_R_op pm_M168 (pc_q := 23) (st_q := [.int (-1)]) rfl rfl rfl ?_
          exact pm_R_ret pm_M168 (r := some (.int (-1))) rfl rfl (K (-1) m h T ((cl_F.refl (ck := ck) (A := [40]) (n := 0) (s := 0) T.1).weak (by decide) (by decide)) (rf_W.refl [] m) (sf_weak sf_kn1 (by decide) (by decide)))

set_option maxRecDepth 100000 in
set_option maxHeartbeats 4000000 in
/-- SilentTable$WayChart.addOneSide -/
theorem cl_c89 {d : Nat} {ck : cl_K} {E : Nat → pm_E} {m : Nat → Int32} {o : Nat → Option Nat} {h : pm_H} {Q : Option Value → pm_H → Prop} {b : Nat} {a0 : Int32} {a1 : Int32} {a2 : Int32} {a3 : Int64} (G : cl_G ck E) (T : cl_T ck E m o h) (hk : ck b = 22) (Ba1 : sf_B 0 23350 a1) (Ba2 : sf_B 0 23350 a2) {lo ro : Nat} (eW : h.2.2 b = .inr (10, [.ref (b + 1), .ref lo, .ref ro])) (hkl : ck lo = 1) (hkr : ck ro = 7) (K : ∀ (m_q : Nat → Int32) (h_q : pm_H), cl_T ck E m_q o h_q → cl_F ck [] 0 0 h h_q → rf_W [] m m_q → h_q.2.2 b = .inr (10, [.ref (b + 1), .ref lo, .ref ro]) → Q none h_q) : pm_R (d + 1) 89 0 [.ref b, .int a0, .int a1, .int a2, .long a3, pm_no, pm_no, pm_no] [] h Q := by
  refine pm_R_op pm_M89 (pc_q := 1) (st_q := [.int 0]) rfl rfl rfl ?_
  refine pm_R_lo pm_M89 (pc_q := 3) (ls_q := [.ref b, .int a0, .int a1, .int a2, .long a3, pm_no, .int 0, pm_no]) (st_q := []) rfl rfl rfl ?_
  have L_250 : ∀ (N : Nat) (h_250 : pm_H) (m_250 : Nat → Int32) (x6_250 : Int32) (g7_250 : Value), cl_T ck E m_250 o h_250 → cl_F ck [] 0 0 h h_250 → rf_W [] m m_250 → sf_B 0 50 x6_250 → g7_250.category = 1 → h_250.2.2 b = .inr (10, [.ref (b + 1), .ref lo, .ref ro]) → (50 - x6_250.toInt).toNat = N → pm_R (d + 1) 89 3 [.ref b, .int a0, .int a1, .int a2, .long a3, pm_no, .int x6_250, g7_250] [] h_250 Q := by
    intro N
    induction N using Nat.strongRecOn with
    | ind N ih_250 =>
      intro h_250 m_250 x6_250 g7_250 T_250 F_250 W_250 Bx6_250 Cg7_250 X_250 hN_250
      have W253 : rf_W [] m m_250 := (rf_W.refl [] m).trans W_250 (by decide)
      refine pm_R_lo pm_M89 (pc_q := 5) rfl rfl rfl ?_
      refine pm_R_op pm_M89 (pc_q := 7) (st_q := [.int 50, .int x6_250]) rfl rfl rfl ?_
      refine pm_R_icmp pm_M89 (t := 59) (pc_q := 10) rfl rfl rfl (fun c254 => ?_) (fun c254 => ?_)
      · have B255 : sf_B 50 50 x6_250 := sf_leR c254 sf_k50 Bx6_250
        exact pm_R_ret pm_M89 (r := none) rfl rfl (K m_250 h_250 T_250 F_250 W253 X_250)
      · have B256 : sf_B 0 49 x6_250 := sf_ltL (Int32.not_le.mp c254) Bx6_250 sf_k50
        refine pm_R_lo pm_M89 (pc_q := 11) rfl rfl rfl ?_
        refine pm_R_lo pm_M89 (pc_q := 12) rfl rfl rfl ?_
        refine pm_R_lo pm_M89 (pc_q := 14) rfl rfl rfl ?_
        refine pm_R_lo pm_M89 (pc_q := 16) rfl rfl rfl ?_
        refine pm_R_cs pm_M89 (pc_q := 19) (ra := [.int x6_250, .int x6_250, .int a0]) (rest := [.int a1]) (ls_q := [.int a0, .int x6_250, .int x6_250]) rfl rfl (Or.inr rfl) pm_M88 rfl rfl (Nat.le_of_ble_eq_true rfl) rfl rfl ?_
        refine cl_c88_b (d := d + 0) B256 B256 (fun r257 B258 => ?_)
        show pm_R _ 89 19 [.ref b, .int a0, .int a1, .int a2, .long a3, pm_no, .int x6_250, g7_250] [.int r257, .int a1] _ _
        refine sf_R_iadd pm_M89 (pc_q := 20) rfl rfl Ba1 B258 (by decide) (by decide) (fun z264 e265 B266 => ?_)
        refine pm_R_lo pm_M89 (pc_q := 22) (ls_q := [.ref b, .int a0, .int a1, .int a2, .long a3, pm_no, .int x6_250, .int z264]) (st_q := []) rfl rfl rfl ?_
        refine pm_R_lo pm_M89 (pc_q := 23) rfl rfl rfl ?_
        refine pm_R_get pm_M89 (pc_q := 26) (v := .ref (b + 1)) rfl rfl X_250 (G.ge hk (by decide)) (T_250.al hk (by decide)) rfl rfl ?_
        refine pm_R_lo pm_M89 (pc_q := 28) rfl rfl rfl ?_
        refine pm_R_lo pm_M89 (pc_q := 29) rfl rfl rfl ?_
        refine pm_R_get pm_M89 (pc_q := 32) (v := .ref (b + 1)) rfl rfl X_250 (G.ge hk (by decide)) (T_250.al hk (by decide)) rfl rfl ?_
        refine pm_R_lo pm_M89 (pc_q := 34) rfl rfl rfl ?_
        obtain ⟨f270, e271⟩ := T_250.D.2.2.1 _ (G.w23 hk)
        obtain ⟨z267, ez268⟩ : ∃ y, f270 (Int32.toNatClampNeg z264) = y := ⟨_, rfl⟩
        refine pm_R_lald pm_M89 (pc_q := 35) (v := z267) rfl e271 (G.ge (G.w23 hk) (by decide)) (T_250.al (G.w23 hk) (by decide)) (sf_in B266 (by decide) (by decide)) ez268 rfl ?_
        refine pm_R_lo pm_M89 (pc_q := 36) rfl rfl rfl ?_
        refine pm_R_get pm_M89 (pc_q := 39) (v := .ref (b + 1)) rfl rfl X_250 (G.ge hk (by decide)) (T_250.al hk (by decide)) rfl rfl ?_
        refine pm_R_lo pm_M89 (pc_q := 40) rfl rfl rfl ?_
        refine pm_R_lo pm_M89 (pc_q := 42) rfl rfl rfl ?_
        refine sf_R_iadd pm_M89 (pc_q := 43) rfl rfl Ba2 B256 (by decide) (by decide) (fun z272 e273 B274 => ?_)
        obtain ⟨z275, ez276⟩ : ∃ y, f270 (Int32.toNatClampNeg z272) = y := ⟨_, rfl⟩
        refine pm_R_lald pm_M89 (pc_q := 44) (v := z275) rfl e271 (G.ge (G.w23 hk) (by decide)) (T_250.al (G.w23 hk) (by decide)) (sf_in B274 (by decide) (by decide)) ez276 rfl ?_
        refine pm_R_lo pm_M89 (pc_q := 46) rfl rfl rfl ?_
        refine pm_R_cs pm_M89 (pc_q := 49) (ra := [.long a3, .long z275]) (rest := [.long z267, .int z264, .ref (b + 1)]) (ls_q := [.long z275, pm_no, .long a3, pm_no]) rfl rfl (Or.inr rfl) pm_M77 rfl rfl (Nat.le_of_ble_eq_true rfl) rfl rfl ?_
        refine cl_c77 (d := d + 0)  (fun r278 => ?_)
        show pm_R _ 89 49 [.ref b, .int a0, .int a1, .int a2, .long a3, pm_no, .int x6_250, .int z264] [.long r278, .long z267, .int z264, .ref (b + 1)] _ _
        refine pm_R_cs pm_M89 (pc_q := 52) (ra := [.long r278, .long z267]) (rest := [.int z264, .ref (b + 1)]) (ls_q := [.long z267, pm_no, .long r278, pm_no]) rfl rfl (Or.inr rfl) pm_M78 rfl rfl (Nat.le_of_ble_eq_true rfl) rfl rfl ?_
        refine cl_c78 (d := d + 0)  (fun r285 => ?_)
        show pm_R _ 89 52 [.ref b, .int a0, .int a1, .int a2, .long a3, pm_no, .int x6_250, .int z264] [.long r285, .int z264, .ref (b + 1)] _ _
        refine cl_R_wst G pm_M89 T_250 (pc_q := 53) rfl hk e271 (sf_in B266 (by decide) (by decide)) rfl (fun h292 T293 F294 hb295 => ?_)
        have eW296 := hb295.trans X_250
        have F297 := F_250.trans (N := 0) (S := 0) F294 (by decide) (by decide) (by decide)
        refine sf_R_iinc pm_M89 (pc_q := 56) (ls_q := fun z => [.ref b, .int a0, .int a1, .int a2, .long a3, pm_no, .int z, .int z264]) rfl B256 rfl (by decide) (by decide) (by decide) (fun _ => rfl) rfl (fun z298 e299 B300 => ?_)
        show pm_R _ 89 56 [.ref b, .int a0, .int a1, .int a2, .long a3, pm_no, .int z298, .int z264] [] _ _
        refine pm_R_br pm_M89 (pc_q := 3) rfl rfl ?_
        exact ih_250 _ (sf_up hN_250 e299 B256 (by decide) (by decide)) h292 m_250 z298 (.int z264) T293 F297 W_250 (sf_weak B300 (by decide) (by decide)) rfl eW296 rfl
  exact L_250 _ h m 0 (pm_no) T (cl_F.refl (ck := ck) (A := []) (n := 0) (s := 0) T.1) (rf_W.refl _ _) (sf_weak sf_k0 (by decide) (by decide)) rfl eW rfl

set_option maxRecDepth 100000 in
set_option maxHeartbeats 4000000 in
/-- SilentTable$WayChart.addPairs -/
theorem cl_c87 {d : Nat} {ck : cl_K} {E : Nat → pm_E} {m : Nat → Int32} {o : Nat → Option Nat} {h : pm_H} {Q : Option Value → pm_H → Prop} {b : Nat} {a0 : Int32} {a1 : Int32} {a2 : Int32} {a3 : Int32} (G : cl_G ck E) (T : cl_T ck E m o h) (hk : ck b = 22) (Ba1 : sf_B 0 23350 a1) (Ba2 : sf_B 0 23350 a2) (Ba3 : sf_B 0 23350 a3) {lo ro : Nat} (eW : h.2.2 b = .inr (10, [.ref (b + 1), .ref lo, .ref ro])) (hkl : ck lo = 1) (hkr : ck ro = 7) (K : ∀ (m_q : Nat → Int32) (h_q : pm_H), cl_T ck E m_q o h_q → cl_F ck [] 0 0 h h_q → rf_W [] m m_q → h_q.2.2 b = .inr (10, [.ref (b + 1), .ref lo, .ref ro]) → Q none h_q) : pm_R (d + 1) 87 0 [.ref b, .int a0, .int a1, .int a2, .int a3, pm_no, pm_no, pm_no, pm_no, pm_no, pm_no, pm_no, pm_no, pm_no, pm_no] [] h Q := by
  refine pm_R_op pm_M87 (pc_q := 1) (st_q := [.int 0]) rfl rfl rfl ?_
  refine pm_R_lo pm_M87 (pc_q := 3) (ls_q := [.ref b, .int a0, .int a1, .int a2, .int a3, .int 0, pm_no, pm_no, pm_no, pm_no, pm_no, pm_no, pm_no, pm_no, pm_no]) (st_q := []) rfl rfl rfl ?_
  have L_5615 : ∀ (N : Nat) (h_5615 : pm_H) (m_5615 : Nat → Int32) (x5_5615 : Int32) (g6_5615 : Value) (g7_5615 : Value) (g8_5615 : Value) (g9_5615 : Value) (g10_5615 : Value) (g11_5615 : Value) (g12_5615 : Value) (g13_5615 : Value) (g14_5615 : Value), cl_T ck E m_5615 o h_5615 → cl_F ck [] 0 0 h h_5615 → rf_W [] m m_5615 → sf_B 0 50 x5_5615 → g7_5615.category = 1 → g9_5615.category = 1 → g10_5615.category = 1 → g12_5615.category = 1 → g13_5615.category = 1 → g14_5615.category = 1 → h_5615.2.2 b = .inr (10, [.ref (b + 1), .ref lo, .ref ro]) → (50 - x5_5615.toInt).toNat = N → pm_R (d + 1) 87 3 [.ref b, .int a0, .int a1, .int a2, .int a3, .int x5_5615, g6_5615, g7_5615, g8_5615, g9_5615, g10_5615, g11_5615, g12_5615, g13_5615, g14_5615] [] h_5615 Q := by
    intro N
    induction N using Nat.strongRecOn with
    | ind N ih_5615 =>
      intro h_5615 m_5615 x5_5615 g6_5615 g7_5615 g8_5615 g9_5615 g10_5615 g11_5615 g12_5615 g13_5615 g14_5615 T_5615 F_5615 W_5615 Bx5_5615 Cg7_5615 Cg9_5615 Cg10_5615 Cg12_5615 Cg13_5615 Cg14_5615 X_5615 hN_5615
      have W5618 : rf_W [] m m_5615 := (rf_W.refl [] m).trans W_5615 (by decide)
      refine pm_R_lo pm_M87 (pc_q := 5) rfl rfl rfl ?_
      refine pm_R_op pm_M87 (pc_q := 7) (st_q := [.int 50, .int x5_5615]) rfl rfl rfl ?_
      refine pm_R_icmp pm_M87 (t := 162) (pc_q := 10) rfl rfl rfl (fun c5619 => ?_) (fun c5619 => ?_)
      · have B5620 : sf_B 50 50 x5_5615 := sf_leR c5619 sf_k50 Bx5_5615
        exact pm_R_ret pm_M87 (r := none) (pm_q87_1 (Nat.le_of_ble_eq_true rfl)) rfl (K m_5615 h_5615 T_5615 F_5615 W5618 X_5615)
      · have B5621 : sf_B 0 49 x5_5615 := sf_ltL (Int32.not_le.mp c5619) Bx5_5615 sf_k50
        refine pm_R_lo pm_M87 (pc_q := 11) rfl rfl rfl ?_
        refine pm_R_get pm_M87 (pc_q := 14) (v := .ref (b + 1)) rfl rfl X_5615 (G.ge hk (by decide)) (T_5615.al hk (by decide)) rfl rfl ?_
        refine pm_R_lo pm_M87 (pc_q := 15) rfl rfl rfl ?_
        refine pm_R_lo pm_M87 (pc_q := 17) rfl rfl rfl ?_
        refine sf_R_iadd pm_M87 (pc_q := 18) rfl rfl Ba2 B5621 (by decide) (by decide) (fun z5622 e5623 B5624 => ?_)
        obtain ⟨f5628, e5629⟩ := T_5615.D.2.2.1 _ (G.w23 hk)
        obtain ⟨z5625, ez5626⟩ : ∃ y, f5628 (Int32.toNatClampNeg z5622) = y := ⟨_, rfl⟩
        refine pm_R_lald pm_M87 (pc_q := 19) (v := z5625) rfl e5629 (G.ge (G.w23 hk) (by decide)) (T_5615.al (G.w23 hk) (by decide)) (sf_in B5624 (by decide) (by decide)) ez5626 rfl ?_
        refine pm_R_lo pm_M87 (pc_q := 21) (ls_q := [.ref b, .int a0, .int a1, .int a2, .int a3, .int x5_5615, .long z5625, pm_no, g8_5615, g9_5615, g10_5615, g11_5615, g12_5615, g13_5615, g14_5615]) (st_q := []) rfl rfl rfl ?_
        refine pm_R_lo pm_M87 (pc_q := 23) rfl rfl rfl ?_
        refine pm_R_op pm_M87 (pc_q := 24) (st_q := [.long 0, .long z5625]) rfl rfl rfl ?_
        refine sf_R_lcmp pm_M87 (pc_q := 25) rfl rfl (fun z5630 e5631 => ?_)
        refine pm_R_ifc pm_M87 (t := 31) (pc_q := 28) rfl rfl rfl (fun c5632 => ?_) (fun c5632 => ?_)
        · have k5633 := sf_lneC e5631 c5632
          refine pm_R_lo pm_M87 (pc_q := 33) rfl rfl rfl ?_
          refine pm_R_ldc2 pm_M87 (pc_q := 36) rfl rfl rfl ?_
          refine sf_R_lcmp pm_M87 (pc_q := 37) rfl rfl (fun z5634 e5635 => ?_)
          refine pm_R_ifc pm_M87 (t := 44) (pc_q := 40) rfl rfl rfl (fun c5636 => ?_) (fun c5636 => ?_)
          · have k5637 := sf_lneC e5635 c5636
            refine pm_R_ldc2 pm_M87 (pc_q := 47) rfl rfl rfl ?_
            refine pm_R_lo pm_M87 (pc_q := 49) rfl rfl rfl ?_
            refine sf_R_ldivA pm_M87 (pc_q := 50) rfl rfl k5633 (fun z5638 => ?_)
            refine pm_R_lo pm_M87 (pc_q := 52) (ls_q := [.ref b, .int a0, .int a1, .int a2, .int a3, .int x5_5615, .long z5625, pm_no, .long z5638, pm_no, g10_5615, g11_5615, g12_5615, g13_5615, g14_5615]) (st_q := []) rfl rfl rfl ?_
            refine pm_R_op pm_M87 (pc_q := 53) (st_q := [.int 0]) rfl rfl rfl ?_
            refine pm_R_lo pm_M87 (pc_q := 55) (ls_q := [.ref b, .int a0, .int a1, .int a2, .int a3, .int x5_5615, .long z5625, pm_no, .long z5638, pm_no, .int 0, g11_5615, g12_5615, g13_5615, g14_5615]) (st_q := []) rfl rfl rfl ?_
            have L_6179 : ∀ (N : Nat) (h_6179 : pm_H) (m_6179 : Nat → Int32) (x10_6179 : Int32) (g11_6179 : Value) (g12_6179 : Value) (g13_6179 : Value) (g14_6179 : Value), cl_T ck E m_6179 o h_6179 → cl_F ck [] 0 0 h h_6179 → rf_W [] m_5615 m_6179 → sf_B 0 50 x10_6179 → g12_6179.category = 1 → g13_6179.category = 1 → g14_6179.category = 1 → h_6179.2.2 b = .inr (10, [.ref (b + 1), .ref lo, .ref ro]) → (50 - x10_6179.toInt).toNat = N → pm_R (d + 1) 87 55 [.ref b, .int a0, .int a1, .int a2, .int a3, .int x5_5615, .long z5625, pm_no, .long z5638, pm_no, .int x10_6179, g11_6179, g12_6179, g13_6179, g14_6179] [] h_6179 Q := by
              intro N
              induction N using Nat.strongRecOn with
              | ind N ih_6179 =>
                intro h_6179 m_6179 x10_6179 g11_6179 g12_6179 g13_6179 g14_6179 T_6179 F_6179 W_6179 Bx10_6179 Cg12_6179 Cg13_6179 Cg14_6179 X_6179 hN_6179
                have W6182 : rf_W [] m m_6179 := W5618.trans W_6179 (by decide)
                have W6183 : rf_W [] m m_6179 := W_5615.trans W_6179 (by decide)
                refine pm_R_lo pm_M87 (pc_q := 57) rfl rfl rfl ?_
                refine pm_R_op pm_M87 (pc_q := 59) (st_q := [.int 50, .int x10_6179]) rfl rfl rfl ?_
                refine pm_R_icmp pm_M87 (t := 156) (pc_q := 62) rfl rfl rfl (fun c6184 => ?_) (fun c6184 => ?_)
                · have B6185 : sf_B 50 50 x10_6179 := sf_leR c6184 sf_k50 Bx10_6179
                  refine sf_R_iinc pm_M87 (pc_q := 159) (ls_q := fun z => [.ref b, .int a0, .int a1, .int a2, .int a3, .int z, .long z5625, pm_no, .long z5638, pm_no, .int x10_6179, g11_6179, g12_6179, g13_6179, g14_6179]) (pm_q87_1 (Nat.le_of_ble_eq_true rfl)) B5621 rfl (by decide) (by decide) (by decide) (fun _ => rfl) rfl (fun z6186 e6187 B6188 => ?_)
                  show pm_R _ 87 159 [.ref b, .int a0, .int a1, .int a2, .int a3, .int z6186, .long z5625, pm_no, .long z5638, pm_no, .int x10_6179, g11_6179, g12_6179, g13_6179, g14_6179] [] _ _
                  refine pm_R_br pm_M87 (pc_q := 3) (pm_q87_1 (Nat.le_of_ble_eq_true rfl)) rfl ?_
                  exact ih_5615 _ (sf_up hN_5615 e6187 B5621 (by decide) (by decide)) h_6179 m_6179 z6186 (.long z5625) (pm_no) (.long z5638) (pm_no) (.int x10_6179) (g11_6179) (g12_6179) (g13_6179) (g14_6179) T_6179 F_6179 W6183 (sf_weak B6188 (by decide) (by decide)) rfl rfl rfl Cg12_6179 Cg13_6179 Cg14_6179 X_6179 rfl
                · have B6189 : sf_B 0 49 x10_6179 := sf_ltL (Int32.not_le.mp c6184) Bx10_6179 sf_k50
                  refine pm_R_lo pm_M87 (pc_q := 63) rfl rfl rfl ?_
                  refine pm_R_get pm_M87 (pc_q := 66) (v := .ref (b + 1)) rfl rfl X_6179 (G.ge hk (by decide)) (T_6179.al hk (by decide)) rfl rfl ?_
                  refine pm_R_lo pm_M87 (pc_q := 68) rfl rfl rfl ?_
                  refine pm_R_lo pm_M87 (pc_q := 70) rfl rfl rfl ?_
                  refine sf_R_iadd pm_M87 (pc_q := 71) rfl rfl Ba3 B6189 (by decide) (by decide) (fun z6190 e6191 B6192 => ?_)
                  obtain ⟨f6196, e6197⟩ := T_6179.D.2.2.1 _ (G.w23 hk)
                  obtain ⟨z6193, ez6194⟩ : ∃ y, f6196 (Int32.toNatClampNeg z6190) = y := ⟨_, rfl⟩
                  refine pm_R_lald pm_M87 (pc_q := 72) (v := z6193) rfl e6197 (G.ge (G.w23 hk) (by decide)) (T_6179.al (G.w23 hk) (by decide)) (sf_in B6192 (by decide) (by decide)) ez6194 rfl ?_
                  refine pm_R_lo pm_M87 (pc_q := 74) (ls_q := [.ref b, .int a0, .int a1, .int a2, .int a3, .int x5_5615, .long z5625, pm_no, .long z5638, pm_no, .int x10_6179, .long z6193, pm_no, g13_6179, g14_6179]) (st_q := []) rfl rfl rfl ?_
                  refine pm_R_lo pm_M87 (pc_q := 76) rfl rfl rfl ?_
                  refine pm_R_op pm_M87 (pc_q := 77) (st_q := [.long 0, .long z6193]) rfl rfl rfl ?_
                  refine sf_R_lcmp pm_M87 (pc_q := 78) rfl rfl (fun z6198 e6199 => ?_)
                  refine pm_R_ifc pm_M87 (t := 150) (pc_q := 81) rfl rfl rfl (fun c6200 => ?_) (fun c6200 => ?_)
                  · have B6201 : sf_B 0 0 z6198 := sf_eqL c6200 sf_k0
                    have B6202 : lf_B 0 0 z6193 := lf_eqB e6199 B6201 (⟨by decide, by decide⟩ : lf_B 0 0 0)
                    refine sf_R_iinc pm_M87 (pc_q := 153) (ls_q := fun z => [.ref b, .int a0, .int a1, .int a2, .int a3, .int x5_5615, .long z5625, pm_no, .long z5638, pm_no, .int z, .long z6193, pm_no, g13_6179, g14_6179]) (pm_q87_1 (Nat.le_of_ble_eq_true rfl)) B6189 rfl (by decide) (by decide) (by decide) (fun _ => rfl) rfl (fun z6203 e6204 B6205 => ?_)
                    show pm_R _ 87 153 [.ref b, .int a0, .int a1, .int a2, .int a3, .int x5_5615, .long z5625, pm_no, .long z5638, pm_no, .int z6203, .long z6193, pm_no, g13_6179, g14_6179] [] _ _
                    refine pm_R_br pm_M87 (pc_q := 55) (pm_q87_1 (Nat.le_of_ble_eq_true rfl)) rfl ?_
                    exact ih_6179 _ (sf_up hN_6179 e6204 B6189 (by decide) (by decide)) h_6179 m_6179 z6203 (.long z6193) (pm_no) (g13_6179) (g14_6179) T_6179 F_6179 W_6179 (sf_weak B6205 (by decide) (by decide)) rfl Cg13_6179 Cg14_6179 X_6179 rfl
                  · have k6206 := sf_lneC e6199 c6200
                    refine pm_R_lo pm_M87 (pc_q := 82) rfl rfl rfl ?_
                    refine pm_R_lo pm_M87 (pc_q := 83) rfl rfl rfl ?_
                    refine pm_R_lo pm_M87 (pc_q := 85) rfl rfl rfl ?_
                    refine pm_R_lo pm_M87 (pc_q := 87) rfl rfl rfl ?_
                    refine pm_R_cs pm_M87 (pc_q := 90) (ra := [.int x10_6179, .int x5_5615, .int a0]) (rest := [.int a1]) (ls_q := [.int a0, .int x5_5615, .int x10_6179]) rfl rfl (Or.inr rfl) pm_M88 rfl rfl (Nat.le_of_ble_eq_true rfl) rfl rfl ?_
                    refine cl_c88_b (d := d + 0) B5621 B6189 (fun r6207 B6208 => ?_)
                    show pm_R _ 87 90 [.ref b, .int a0, .int a1, .int a2, .int a3, .int x5_5615, .long z5625, pm_no, .long z5638, pm_no, .int x10_6179, .long z6193, pm_no, g13_6179, g14_6179] [.int r6207, .int a1] _ _
                    refine sf_R_iadd pm_M87 (pc_q := 91) rfl rfl Ba1 B6208 (by decide) (by decide) (fun z6214 e6215 B6216 => ?_)
                    refine pm_R_lo pm_M87 (pc_q := 93) (ls_q := [.ref b, .int a0, .int a1, .int a2, .int a3, .int x5_5615, .long z5625, pm_no, .long z5638, pm_no, .int x10_6179, .long z6193, pm_no, .int z6214, g14_6179]) (st_q := []) rfl rfl rfl ?_
                    refine pm_R_lo pm_M87 (pc_q := 95) rfl rfl rfl ?_
                    refine pm_R_ldc2 pm_M87 (pc_q := 98) rfl rfl rfl ?_
                    refine sf_R_lcmp pm_M87 (pc_q := 99) rfl rfl (fun z6217 e6218 => ?_)
                    refine pm_R_ifc pm_M87 (t := 110) (pc_q := 102) rfl rfl rfl (fun c6219 => ?_) (fun c6219 => ?_)
                    · have B6220 : sf_B 0 0 z6217 := sf_eqL c6219 sf_k0
                      have B6221 : lf_B (-1) (-1) z6193 := lf_eqB e6218 B6220 (⟨by decide, by decide⟩ : lf_B (-1) (-1) (-1))
                      refine pm_R_op pm_M87 (pc_q := 111) (st_q := [.int 1]) rfl rfl rfl ?_
                      refine pm_R_br pm_M87 (pc_q := 115) rfl rfl ?_
                      refine pm_R_lo pm_M87 (pc_q := 117) (ls_q := [.ref b, .int a0, .int a1, .int a2, .int a3, .int x5_5615, .long z5625, pm_no, .long z5638, pm_no, .int x10_6179, .long z6193, pm_no, .int z6214, .int 1]) (st_q := []) (pm_q87_1 (Nat.le_of_ble_eq_true rfl)) rfl rfl ?_
                      refine pm_R_lo pm_M87 (pc_q := 118) (pm_q87_1 (Nat.le_of_ble_eq_true rfl)) rfl rfl ?_
                      refine pm_R_get pm_M87 (pc_q := 121) (v := .ref (b + 1)) (pm_q87_1 (Nat.le_of_ble_eq_true rfl)) rfl X_6179 (G.ge hk (by decide)) (T_6179.al hk (by decide)) rfl rfl ?_
                      refine pm_R_lo pm_M87 (pc_q := 123) (pm_q87_1 (Nat.le_of_ble_eq_true rfl)) rfl rfl ?_
                      refine pm_R_lo pm_M87 (pc_q := 124) (pm_q87_1 (Nat.le_of_ble_eq_true rfl)) rfl rfl ?_
                      refine pm_R_get pm_M87 (pc_q := 127) (v := .ref (b + 1)) (pm_q87_1 (Nat.le_of_ble_eq_true rfl)) rfl X_6179 (G.ge hk (by decide)) (T_6179.al hk (by decide)) rfl rfl ?_
                      refine pm_R_lo pm_M87 (pc_q := 129) (pm_q87_1 (Nat.le_of_ble_eq_true rfl)) rfl rfl ?_
                      obtain ⟨z6222, ez6223⟩ : ∃ y, f6196 (Int32.toNatClampNeg z6214) = y := ⟨_, rfl⟩
                      refine pm_R_lald pm_M87 (pc_q := 130) (v := z6222) (pm_q87_1 (Nat.le_of_ble_eq_true rfl)) e6197 (G.ge (G.w23 hk) (by decide)) (T_6179.al (G.w23 hk) (by decide)) (sf_in B6216 (by decide) (by decide)) ez6223 rfl ?_
                      refine pm_R_lo pm_M87 (pc_q := 132) (pm_q87_1 (Nat.le_of_ble_eq_true rfl)) rfl rfl ?_
                      refine pm_R_br pm_M87 (pc_q := 135) (st_q := [.long z6222, .int z6214, .ref (b + 1)]) (pm_q87_1 (Nat.le_of_ble_eq_true rfl)) rfl ?_
                      refine pm_R_ldc2 pm_M87 (pc_q := 138) (pm_q87_1 (Nat.le_of_ble_eq_true rfl)) rfl rfl ?_
                      refine pm_R_br pm_M87 (pc_q := 146) (pm_q87_1 (Nat.le_of_ble_eq_true rfl)) rfl ?_
                      refine pm_R_cs pm_M87 (pc_q := 149) (ra := [.long (-1), .long z6222]) (rest := [.int z6214, .ref (b + 1)]) (ls_q := [.long z6222, pm_no, .long (-1), pm_no]) (pm_q87_1 (Nat.le_of_ble_eq_true rfl)) rfl (Or.inr rfl) pm_M78 rfl rfl (Nat.le_of_ble_eq_true rfl) rfl rfl ?_
                      refine cl_c78 (d := d + 0)  (fun r6225 => ?_)
                      show pm_R _ 87 149 [.ref b, .int a0, .int a1, .int a2, .int a3, .int x5_5615, .long z5625, pm_no, .long z5638, pm_no, .int x10_6179, .long z6193, pm_no, .int z6214, .int 1] [.long r6225, .int z6214, .ref (b + 1)] _ _
                      refine cl_R_wst G pm_M87 T_6179 (pc_q := 150) (pm_q87_1 (Nat.le_of_ble_eq_true rfl)) hk e6197 (sf_in B6216 (by decide) (by decide)) rfl (fun h6232 T6233 F6234 hb6235 => ?_)
                      have eW6236 := hb6235.trans X_6179
                      have F6237 := F_6179.trans (N := 0) (S := 0) F6234 (by decide) (by decide) (by decide)
                      refine sf_R_iinc pm_M87 (pc_q := 153) (ls_q := fun z => [.ref b, .int a0, .int a1, .int a2, .int a3, .int x5_5615, .long z5625, pm_no, .long z5638, pm_no, .int z, .long z6193, pm_no, .int z6214, .int 1]) (pm_q87_1 (Nat.le_of_ble_eq_true rfl)) B6189 rfl (by decide) (by decide) (by decide) (fun _ => rfl) rfl (fun z6238 e6239 B6240 => ?_)
                      show pm_R _ 87 153 [.ref b, .int a0, .int a1, .int a2, .int a3, .int x5_5615, .long z5625, pm_no, .long z5638, pm_no, .int z6238, .long z6193, pm_no, .int z6214, .int 1] [] _ _
                      refine pm_R_br pm_M87 (pc_q := 55) (pm_q87_1 (Nat.le_of_ble_eq_true rfl)) rfl ?_
                      exact ih_6179 _ (sf_up hN_6179 e6239 B6189 (by decide) (by decide)) h6232 m_6179 z6238 (.long z6193) (pm_no) (.int z6214) (.int 1) T6233 F6237 W_6179 (sf_weak B6240 (by decide) (by decide)) rfl rfl rfl eW6236 rfl
                    · have k6241 := sf_lneC e6218 c6219
                      refine pm_R_lo pm_M87 (pc_q := 104) rfl rfl rfl ?_
                      refine pm_R_lo pm_M87 (pc_q := 106) rfl rfl rfl ?_
                      refine sf_R_lcmp pm_M87 (pc_q := 107) rfl rfl (fun z6242 e6243 => ?_)
                      refine pm_R_ifc pm_M87 (t := 114) (pc_q := 110) rfl rfl rfl (fun c6244 => ?_) (fun c6244 => ?_)
                      · have B6245 : sf_B (-2147483648) 0 z6242 := sf_leL c6244 (sf_any z6242) sf_k0
                        refine pm_R_op pm_M87 (pc_q := 115) (st_q := [.int 0]) (pm_q87_1 (Nat.le_of_ble_eq_true rfl)) rfl rfl ?_
                        refine pm_R_lo pm_M87 (pc_q := 117) (ls_q := [.ref b, .int a0, .int a1, .int a2, .int a3, .int x5_5615, .long z5625, pm_no, .long z5638, pm_no, .int x10_6179, .long z6193, pm_no, .int z6214, .int 0]) (st_q := []) (pm_q87_1 (Nat.le_of_ble_eq_true rfl)) rfl rfl ?_
                        refine pm_R_lo pm_M87 (pc_q := 118) (pm_q87_1 (Nat.le_of_ble_eq_true rfl)) rfl rfl ?_
                        refine pm_R_get pm_M87 (pc_q := 121) (v := .ref (b + 1)) (pm_q87_1 (Nat.le_of_ble_eq_true rfl)) rfl X_6179 (G.ge hk (by decide)) (T_6179.al hk (by decide)) rfl rfl ?_
                        refine pm_R_lo pm_M87 (pc_q := 123) (pm_q87_1 (Nat.le_of_ble_eq_true rfl)) rfl rfl ?_
                        refine pm_R_lo pm_M87 (pc_q := 124) (pm_q87_1 (Nat.le_of_ble_eq_true rfl)) rfl rfl ?_
                        refine pm_R_get pm_M87 (pc_q := 127) (v := .ref (b + 1)) (pm_q87_1 (Nat.le_of_ble_eq_true rfl)) rfl X_6179 (G.ge hk (by decide)) (T_6179.al hk (by decide)) rfl rfl ?_
                        refine pm_R_lo pm_M87 (pc_q := 129) (pm_q87_1 (Nat.le_of_ble_eq_true rfl)) rfl rfl ?_
                        obtain ⟨z6246, ez6247⟩ : ∃ y, f6196 (Int32.toNatClampNeg z6214) = y := ⟨_, rfl⟩
                        refine pm_R_lald pm_M87 (pc_q := 130) (v := z6246) (pm_q87_1 (Nat.le_of_ble_eq_true rfl)) e6197 (G.ge (G.w23 hk) (by decide)) (T_6179.al (G.w23 hk) (by decide)) (sf_in B6216 (by decide) (by decide)) ez6247 rfl ?_
                        refine pm_R_lo pm_M87 (pc_q := 132) (pm_q87_1 (Nat.le_of_ble_eq_true rfl)) rfl rfl ?_
                        refine pm_R_br pm_M87 (pc_q := 141) (st_q := [.long z6246, .int z6214, .ref (b + 1)]) (pm_q87_1 (Nat.le_of_ble_eq_true rfl)) rfl ?_
                        refine pm_R_lo pm_M87 (pc_q := 143) (pm_q87_1 (Nat.le_of_ble_eq_true rfl)) rfl rfl ?_
                        refine pm_R_lo pm_M87 (pc_q := 145) (pm_q87_1 (Nat.le_of_ble_eq_true rfl)) rfl rfl ?_
                        refine sf_R_lany pm_M87 (pc_q := 146) (st := [.long z6246, .int z6214, .ref (b + 1)]) (pm_q87_1 (Nat.le_of_ble_eq_true rfl)) rfl rfl (fun z6249 => ?_)
                        refine pm_R_cs pm_M87 (pc_q := 149) (ra := [.long z6249, .long z6246]) (rest := [.int z6214, .ref (b + 1)]) (ls_q := [.long z6246, pm_no, .long z6249, pm_no]) (pm_q87_1 (Nat.le_of_ble_eq_true rfl)) rfl (Or.inr rfl) pm_M78 rfl rfl (Nat.le_of_ble_eq_true rfl) rfl rfl ?_
                        refine cl_c78 (d := d + 0)  (fun r6250 => ?_)
                        show pm_R _ 87 149 [.ref b, .int a0, .int a1, .int a2, .int a3, .int x5_5615, .long z5625, pm_no, .long z5638, pm_no, .int x10_6179, .long z6193, pm_no, .int z6214, .int 0] [.long r6250, .int z6214, .ref (b + 1)] _ _
                        refine cl_R_wst G pm_M87 T_6179 (pc_q := 150) (pm_q87_1 (Nat.le_of_ble_eq_true rfl)) hk e6197 (sf_in B6216 (by decide) (by decide)) rfl (fun h6257 T6258 F6259 hb6260 => ?_)
                        have eW6261 := hb6260.trans X_6179
                        have F6262 := F_6179.trans (N := 0) (S := 0) F6259 (by decide) (by decide) (by decide)
                        refine sf_R_iinc pm_M87 (pc_q := 153) (ls_q := fun z => [.ref b, .int a0, .int a1, .int a2, .int a3, .int x5_5615, .long z5625, pm_no, .long z5638, pm_no, .int z, .long z6193, pm_no, .int z6214, .int 0]) (pm_q87_1 (Nat.le_of_ble_eq_true rfl)) B6189 rfl (by decide) (by decide) (by decide) (fun _ => rfl) rfl (fun z6263 e6264 B6265 => ?_)
                        show pm_R _ 87 153 [.ref b, .int a0, .int a1, .int a2, .int a3, .int x5_5615, .long z5625, pm_no, .long z5638, pm_no, .int z6263, .long z6193, pm_no, .int z6214, .int 0] [] _ _
                        refine pm_R_br pm_M87 (pc_q := 55) (pm_q87_1 (Nat.le_of_ble_eq_true rfl)) rfl ?_
                        exact ih_6179 _ (sf_up hN_6179 e6264 B6189 (by decide) (by decide)) h6257 m_6179 z6263 (.long z6193) (pm_no) (.int z6214) (.int 0) T6258 F6262 W_6179 (sf_weak B6265 (by decide) (by decide)) rfl rfl rfl eW6261 rfl
                      · have B6266 : sf_B 1 2147483647 z6242 := sf_ltR (Int32.not_le.mp c6244) sf_k0 (sf_any z6242)
                        have k6267 := lf_ge e6243 B6266 (by decide)
                        have k6268 := sf_lneA e6243 B6266 (by decide)
                        refine pm_R_op pm_M87 (pc_q := 111) (st_q := [.int 1]) rfl rfl rfl ?_
                        refine pm_R_br pm_M87 (pc_q := 115) rfl rfl ?_
                        refine pm_R_lo pm_M87 (pc_q := 117) (ls_q := [.ref b, .int a0, .int a1, .int a2, .int a3, .int x5_5615, .long z5625, pm_no, .long z5638, pm_no, .int x10_6179, .long z6193, pm_no, .int z6214, .int 1]) (st_q := []) (pm_q87_1 (Nat.le_of_ble_eq_true rfl)) rfl rfl ?_
                        refine pm_R_lo pm_M87 (pc_q := 118) (pm_q87_1 (Nat.le_of_ble_eq_true rfl)) rfl rfl ?_
                        refine pm_R_get pm_M87 (pc_q := 121) (v := .ref (b + 1)) (pm_q87_1 (Nat.le_of_ble_eq_true rfl)) rfl X_6179 (G.ge hk (by decide)) (T_6179.al hk (by decide)) rfl rfl ?_
                        refine pm_R_lo pm_M87 (pc_q := 123) (pm_q87_1 (Nat.le_of_ble_eq_true rfl)) rfl rfl ?_
                        refine pm_R_lo pm_M87 (pc_q := 124) (pm_q87_1 (Nat.le_of_ble_eq_true rfl)) rfl rfl ?_
                        refine pm_R_get pm_M87 (pc_q := 127) (v := .ref (b + 1)) (pm_q87_1 (Nat.le_of_ble_eq_true rfl)) rfl X_6179 (G.ge hk (by decide)) (T_6179.al hk (by decide)) rfl rfl ?_
                        refine pm_R_lo pm_M87 (pc_q := 129) (pm_q87_1 (Nat.le_of_ble_eq_true rfl)) rfl rfl ?_
                        obtain ⟨z6269, ez6270⟩ : ∃ y, f6196 (Int32.toNatClampNeg z6214) = y := ⟨_, rfl⟩
                        refine pm_R_lald pm_M87 (pc_q := 130) (v := z6269) (pm_q87_1 (Nat.le_of_ble_eq_true rfl)) e6197 (G.ge (G.w23 hk) (by decide)) (T_6179.al (G.w23 hk) (by decide)) (sf_in B6216 (by decide) (by decide)) ez6270 rfl ?_
                        refine pm_R_lo pm_M87 (pc_q := 132) (pm_q87_1 (Nat.le_of_ble_eq_true rfl)) rfl rfl ?_
                        refine pm_R_br pm_M87 (pc_q := 135) (st_q := [.long z6269, .int z6214, .ref (b + 1)]) (pm_q87_1 (Nat.le_of_ble_eq_true rfl)) rfl ?_
                        refine pm_R_ldc2 pm_M87 (pc_q := 138) (pm_q87_1 (Nat.le_of_ble_eq_true rfl)) rfl rfl ?_
                        refine pm_R_br pm_M87 (pc_q := 146) (pm_q87_1 (Nat.le_of_ble_eq_true rfl)) rfl ?_
                        refine pm_R_cs pm_M87 (pc_q := 149) (ra := [.long (-1), .long z6269]) (rest := [.int z6214, .ref (b + 1)]) (ls_q := [.long z6269, pm_no, .long (-1), pm_no]) (pm_q87_1 (Nat.le_of_ble_eq_true rfl)) rfl (Or.inr rfl) pm_M78 rfl rfl (Nat.le_of_ble_eq_true rfl) rfl rfl ?_
                        refine cl_c78 (d := d + 0)  (fun r6272 => ?_)
                        show pm_R _ 87 149 [.ref b, .int a0, .int a1, .int a2, .int a3, .int x5_5615, .long z5625, pm_no, .long z5638, pm_no, .int x10_6179, .long z6193, pm_no, .int z6214, .int 1] [.long r6272, .int z6214, .ref (b + 1)] _ _
                        refine cl_R_wst G pm_M87 T_6179 (pc_q := 150) (pm_q87_1 (Nat.le_of_ble_eq_true rfl)) hk e6197 (sf_in B6216 (by decide) (by decide)) rfl (fun h6279 T6280 F6281 hb6282 => ?_)
                        have eW6283 := hb6282.trans X_6179
                        have F6284 := F_6179.trans (N := 0) (S := 0) F6281 (by decide) (by decide) (by decide)
                        refine sf_R_iinc pm_M87 (pc_q := 153) (ls_q := fun z => [.ref b, .int a0, .int a1, .int a2, .int a3, .int x5_5615, .long z5625, pm_no, .long z5638, pm_no, .int z, .long z6193, pm_no, .int z6214, .int 1]) (pm_q87_1 (Nat.le_of_ble_eq_true rfl)) B6189 rfl (by decide) (by decide) (by decide) (fun _ => rfl) rfl (fun z6285 e6286 B6287 => ?_)
                        show pm_R _ 87 153 [.ref b, .int a0, .int a1, .int a2, .int a3, .int x5_5615, .long z5625, pm_no, .long z5638, pm_no, .int z6285, .long z6193, pm_no, .int z6214, .int 1] [] _ _
                        refine pm_R_br pm_M87 (pc_q := 55) (pm_q87_1 (Nat.le_of_ble_eq_true rfl)) rfl ?_
                        exact ih_6179 _ (sf_up hN_6179 e6286 B6189 (by decide) (by decide)) h6279 m_6179 z6285 (.long z6193) (pm_no) (.int z6214) (.int 1) T6280 F6284 W_6179 (sf_weak B6287 (by decide) (by decide)) rfl rfl rfl eW6283 rfl
            exact L_6179 _ h_5615 m_5615 0 (g11_5615) (g12_5615) (g13_5615) (g14_5615) T_5615 F_5615 (rf_W.refl _ _) (sf_weak sf_k0 (by decide) (by decide)) Cg12_5615 Cg13_5615 Cg14_5615 X_5615 rfl
          · have B6288 : sf_B 0 0 z5634 := sf_eqL (Classical.not_not.mp c5636) sf_k0
            have B6289 : lf_B (-1) (-1) z5625 := lf_eqB e5635 B6288 (⟨by decide, by decide⟩ : lf_B (-1) (-1) (-1))
            refine pm_R_op pm_M87 (pc_q := 41) (st_q := [.long 0]) rfl rfl rfl ?_
            refine pm_R_br pm_M87 (pc_q := 50) rfl rfl ?_
            refine pm_R_lo pm_M87 (pc_q := 52) (ls_q := [.ref b, .int a0, .int a1, .int a2, .int a3, .int x5_5615, .long z5625, pm_no, .long 0, pm_no, g10_5615, g11_5615, g12_5615, g13_5615, g14_5615]) (st_q := []) rfl rfl rfl ?_
            refine pm_R_op pm_M87 (pc_q := 53) (st_q := [.int 0]) rfl rfl rfl ?_
            refine pm_R_lo pm_M87 (pc_q := 55) (ls_q := [.ref b, .int a0, .int a1, .int a2, .int a3, .int x5_5615, .long z5625, pm_no, .long 0, pm_no, .int 0, g11_5615, g12_5615, g13_5615, g14_5615]) (st_q := []) rfl rfl rfl ?_
            have L_6835 : ∀ (N : Nat) (h_6835 : pm_H) (m_6835 : Nat → Int32) (x10_6835 : Int32) (g11_6835 : Value) (g12_6835 : Value) (g13_6835 : Value) (g14_6835 : Value), cl_T ck E m_6835 o h_6835 → cl_F ck [] 0 0 h h_6835 → rf_W [] m_5615 m_6835 → sf_B 0 50 x10_6835 → g12_6835.category = 1 → g13_6835.category = 1 → g14_6835.category = 1 → h_6835.2.2 b = .inr (10, [.ref (b + 1), .ref lo, .ref ro]) → (50 - x10_6835.toInt).toNat = N → pm_R (d + 1) 87 55 [.ref b, .int a0, .int a1, .int a2, .int a3, .int x5_5615, .long z5625, pm_no, .long 0, pm_no, .int x10_6835, g11_6835, g12_6835, g13_6835, g14_6835] [] h_6835 Q := by
              intro N
              induction N using Nat.strongRecOn with
              | ind N ih_6835 =>
                intro h_6835 m_6835 x10_6835 g11_6835 g12_6835 g13_6835 g14_6835 T_6835 F_6835 W_6835 Bx10_6835 Cg12_6835 Cg13_6835 Cg14_6835 X_6835 hN_6835
                have W6838 : rf_W [] m m_6835 := W5618.trans W_6835 (by decide)
                have W6839 : rf_W [] m m_6835 := W_5615.trans W_6835 (by decide)
                refine pm_R_lo pm_M87 (pc_q := 57) rfl rfl rfl ?_
                refine pm_R_op pm_M87 (pc_q := 59) (st_q := [.int 50, .int x10_6835]) rfl rfl rfl ?_
                refine pm_R_icmp pm_M87 (t := 156) (pc_q := 62) rfl rfl rfl (fun c6840 => ?_) (fun c6840 => ?_)
                · have B6841 : sf_B 50 50 x10_6835 := sf_leR c6840 sf_k50 Bx10_6835
                  refine sf_R_iinc pm_M87 (pc_q := 159) (ls_q := fun z => [.ref b, .int a0, .int a1, .int a2, .int a3, .int z, .long z5625, pm_no, .long 0, pm_no, .int x10_6835, g11_6835, g12_6835, g13_6835, g14_6835]) (pm_q87_1 (Nat.le_of_ble_eq_true rfl)) B5621 rfl (by decide) (by decide) (by decide) (fun _ => rfl) rfl (fun z6842 e6843 B6844 => ?_)
                  show pm_R _ 87 159 [.ref b, .int a0, .int a1, .int a2, .int a3, .int z6842, .long z5625, pm_no, .long 0, pm_no, .int x10_6835, g11_6835, g12_6835, g13_6835, g14_6835] [] _ _
                  refine pm_R_br pm_M87 (pc_q := 3) (pm_q87_1 (Nat.le_of_ble_eq_true rfl)) rfl ?_
                  exact ih_5615 _ (sf_up hN_5615 e6843 B5621 (by decide) (by decide)) h_6835 m_6835 z6842 (.long z5625) (pm_no) (.long 0) (pm_no) (.int x10_6835) (g11_6835) (g12_6835) (g13_6835) (g14_6835) T_6835 F_6835 W6839 (sf_weak B6844 (by decide) (by decide)) rfl rfl rfl Cg12_6835 Cg13_6835 Cg14_6835 X_6835 rfl
                · have B6845 : sf_B 0 49 x10_6835 := sf_ltL (Int32.not_le.mp c6840) Bx10_6835 sf_k50
                  refine pm_R_lo pm_M87 (pc_q := 63) rfl rfl rfl ?_
                  refine pm_R_get pm_M87 (pc_q := 66) (v := .ref (b + 1)) rfl rfl X_6835 (G.ge hk (by decide)) (T_6835.al hk (by decide)) rfl rfl ?_
                  refine pm_R_lo pm_M87 (pc_q := 68) rfl rfl rfl ?_
                  refine pm_R_lo pm_M87 (pc_q := 70) rfl rfl rfl ?_
                  refine sf_R_iadd pm_M87 (pc_q := 71) rfl rfl Ba3 B6845 (by decide) (by decide) (fun z6846 e6847 B6848 => ?_)
                  obtain ⟨f6852, e6853⟩ := T_6835.D.2.2.1 _ (G.w23 hk)
                  obtain ⟨z6849, ez6850⟩ : ∃ y, f6852 (Int32.toNatClampNeg z6846) = y := ⟨_, rfl⟩
                  refine pm_R_lald pm_M87 (pc_q := 72) (v := z6849) rfl e6853 (G.ge (G.w23 hk) (by decide)) (T_6835.al (G.w23 hk) (by decide)) (sf_in B6848 (by decide) (by decide)) ez6850 rfl ?_
                  refine pm_R_lo pm_M87 (pc_q := 74) (ls_q := [.ref b, .int a0, .int a1, .int a2, .int a3, .int x5_5615, .long z5625, pm_no, .long 0, pm_no, .int x10_6835, .long z6849, pm_no, g13_6835, g14_6835]) (st_q := []) rfl rfl rfl ?_
                  refine pm_R_lo pm_M87 (pc_q := 76) rfl rfl rfl ?_
                  refine pm_R_op pm_M87 (pc_q := 77) (st_q := [.long 0, .long z6849]) rfl rfl rfl ?_
                  refine sf_R_lcmp pm_M87 (pc_q := 78) rfl rfl (fun z6854 e6855 => ?_)
                  refine pm_R_ifc pm_M87 (t := 150) (pc_q := 81) rfl rfl rfl (fun c6856 => ?_) (fun c6856 => ?_)
                  · have B6857 : sf_B 0 0 z6854 := sf_eqL c6856 sf_k0
                    have B6858 : lf_B 0 0 z6849 := lf_eqB e6855 B6857 (⟨by decide, by decide⟩ : lf_B 0 0 0)
                    refine sf_R_iinc pm_M87 (pc_q := 153) (ls_q := fun z => [.ref b, .int a0, .int a1, .int a2, .int a3, .int x5_5615, .long z5625, pm_no, .long 0, pm_no, .int z, .long z6849, pm_no, g13_6835, g14_6835]) (pm_q87_1 (Nat.le_of_ble_eq_true rfl)) B6845 rfl (by decide) (by decide) (by decide) (fun _ => rfl) rfl (fun z6859 e6860 B6861 => ?_)
                    show pm_R _ 87 153 [.ref b, .int a0, .int a1, .int a2, .int a3, .int x5_5615, .long z5625, pm_no, .long 0, pm_no, .int z6859, .long z6849, pm_no, g13_6835, g14_6835] [] _ _
                    refine pm_R_br pm_M87 (pc_q := 55) (pm_q87_1 (Nat.le_of_ble_eq_true rfl)) rfl ?_
                    exact ih_6835 _ (sf_up hN_6835 e6860 B6845 (by decide) (by decide)) h_6835 m_6835 z6859 (.long z6849) (pm_no) (g13_6835) (g14_6835) T_6835 F_6835 W_6835 (sf_weak B6861 (by decide) (by decide)) rfl Cg13_6835 Cg14_6835 X_6835 rfl
                  · have k6862 := sf_lneC e6855 c6856
                    refine pm_R_lo pm_M87 (pc_q := 82) rfl rfl rfl ?_
                    refine pm_R_lo pm_M87 (pc_q := 83) rfl rfl rfl ?_
                    refine pm_R_lo pm_M87 (pc_q := 85) rfl rfl rfl ?_
                    refine pm_R_lo pm_M87 (pc_q := 87) rfl rfl rfl ?_
                    refine pm_R_cs pm_M87 (pc_q := 90) (ra := [.int x10_6835, .int x5_5615, .int a0]) (rest := [.int a1]) (ls_q := [.int a0, .int x5_5615, .int x10_6835]) rfl rfl (Or.inr rfl) pm_M88 rfl rfl (Nat.le_of_ble_eq_true rfl) rfl rfl ?_
                    refine cl_c88_b (d := d + 0) B5621 B6845 (fun r6863 B6864 => ?_)
                    show pm_R _ 87 90 [.ref b, .int a0, .int a1, .int a2, .int a3, .int x5_5615, .long z5625, pm_no, .long 0, pm_no, .int x10_6835, .long z6849, pm_no, g13_6835, g14_6835] [.int r6863, .int a1] _ _
                    refine sf_R_iadd pm_M87 (pc_q := 91) rfl rfl Ba1 B6864 (by decide) (by decide) (fun z6870 e6871 B6872 => ?_)
                    refine pm_R_lo pm_M87 (pc_q := 93) (ls_q := [.ref b, .int a0, .int a1, .int a2, .int a3, .int x5_5615, .long z5625, pm_no, .long 0, pm_no, .int x10_6835, .long z6849, pm_no, .int z6870, g14_6835]) (st_q := []) rfl rfl rfl ?_
                    refine pm_R_lo pm_M87 (pc_q := 95) rfl rfl rfl ?_
                    refine pm_R_ldc2 pm_M87 (pc_q := 98) rfl rfl rfl ?_
                    refine sf_R_lcmp pm_M87 (pc_q := 99) rfl rfl (fun z6873 e6874 => ?_)
                    refine pm_R_ifc pm_M87 (t := 110) (pc_q := 102) rfl rfl rfl (fun c6875 => ?_) (fun c6875 => ?_)
                    · have B6876 : sf_B 0 0 z6873 := sf_eqL c6875 sf_k0
                      have B6877 : lf_B (-1) (-1) z6849 := lf_eqB e6874 B6876 (⟨by decide, by decide⟩ : lf_B (-1) (-1) (-1))
                      refine pm_R_op pm_M87 (pc_q := 111) (st_q := [.int 1]) rfl rfl rfl ?_
                      refine pm_R_br pm_M87 (pc_q := 115) rfl rfl ?_
                      refine pm_R_lo pm_M87 (pc_q := 117) (ls_q := [.ref b, .int a0, .int a1, .int a2, .int a3, .int x5_5615, .long z5625, pm_no, .long 0, pm_no, .int x10_6835, .long z6849, pm_no, .int z6870, .int 1]) (st_q := []) (pm_q87_1 (Nat.le_of_ble_eq_true rfl)) rfl rfl ?_
                      refine pm_R_lo pm_M87 (pc_q := 118) (pm_q87_1 (Nat.le_of_ble_eq_true rfl)) rfl rfl ?_
                      refine pm_R_get pm_M87 (pc_q := 121) (v := .ref (b + 1)) (pm_q87_1 (Nat.le_of_ble_eq_true rfl)) rfl X_6835 (G.ge hk (by decide)) (T_6835.al hk (by decide)) rfl rfl ?_
                      refine pm_R_lo pm_M87 (pc_q := 123) (pm_q87_1 (Nat.le_of_ble_eq_true rfl)) rfl rfl ?_
                      refine pm_R_lo pm_M87 (pc_q := 124) (pm_q87_1 (Nat.le_of_ble_eq_true rfl)) rfl rfl ?_
                      refine pm_R_get pm_M87 (pc_q := 127) (v := .ref (b + 1)) (pm_q87_1 (Nat.le_of_ble_eq_true rfl)) rfl X_6835 (G.ge hk (by decide)) (T_6835.al hk (by decide)) rfl rfl ?_
                      refine pm_R_lo pm_M87 (pc_q := 129) (pm_q87_1 (Nat.le_of_ble_eq_true rfl)) rfl rfl ?_
                      obtain ⟨z6878, ez6879⟩ : ∃ y, f6852 (Int32.toNatClampNeg z6870) = y := ⟨_, rfl⟩
                      refine pm_R_lald pm_M87 (pc_q := 130) (v := z6878) (pm_q87_1 (Nat.le_of_ble_eq_true rfl)) e6853 (G.ge (G.w23 hk) (by decide)) (T_6835.al (G.w23 hk) (by decide)) (sf_in B6872 (by decide) (by decide)) ez6879 rfl ?_
                      refine pm_R_lo pm_M87 (pc_q := 132) (pm_q87_1 (Nat.le_of_ble_eq_true rfl)) rfl rfl ?_
                      refine pm_R_br pm_M87 (pc_q := 135) (st_q := [.long z6878, .int z6870, .ref (b + 1)]) (pm_q87_1 (Nat.le_of_ble_eq_true rfl)) rfl ?_
                      refine pm_R_ldc2 pm_M87 (pc_q := 138) (pm_q87_1 (Nat.le_of_ble_eq_true rfl)) rfl rfl ?_
                      refine pm_R_br pm_M87 (pc_q := 146) (pm_q87_1 (Nat.le_of_ble_eq_true rfl)) rfl ?_
                      refine pm_R_cs pm_M87 (pc_q := 149) (ra := [.long (-1), .long z6878]) (rest := [.int z6870, .ref (b + 1)]) (ls_q := [.long z6878, pm_no, .long (-1), pm_no]) (pm_q87_1 (Nat.le_of_ble_eq_true rfl)) rfl (Or.inr rfl) pm_M78 rfl rfl (Nat.le_of_ble_eq_true rfl) rfl rfl ?_
                      refine cl_c78 (d := d + 0)  (fun r6881 => ?_)
                      show pm_R _ 87 149 [.ref b, .int a0, .int a1, .int a2, .int a3, .int x5_5615, .long z5625, pm_no, .long 0, pm_no, .int x10_6835, .long z6849, pm_no, .int z6870, .int 1] [.long r6881, .int z6870, .ref (b + 1)] _ _
                      refine cl_R_wst G pm_M87 T_6835 (pc_q := 150) (pm_q87_1 (Nat.le_of_ble_eq_true rfl)) hk e6853 (sf_in B6872 (by decide) (by decide)) rfl (fun h6888 T6889 F6890 hb6891 => ?_)
                      have eW6892 := hb6891.trans X_6835
                      have F6893 := F_6835.trans (N := 0) (S := 0) F6890 (by decide) (by decide) (by decide)
                      refine sf_R_iinc pm_M87 (pc_q := 153) (ls_q := fun z => [.ref b, .int a0, .int a1, .int a2, .int a3, .int x5_5615, .long z5625, pm_no, .long 0, pm_no, .int z, .long z6849, pm_no, .int z6870, .int 1]) (pm_q87_1 (Nat.le_of_ble_eq_true rfl)) B6845 rfl (by decide) (by decide) (by decide) (fun _ => rfl) rfl (fun z6894 e6895 B6896 => ?_)
                      show pm_R _ 87 153 [.ref b, .int a0, .int a1, .int a2, .int a3, .int x5_5615, .long z5625, pm_no, .long 0, pm_no, .int z6894, .long z6849, pm_no, .int z6870, .int 1] [] _ _
                      refine pm_R_br pm_M87 (pc_q := 55) (pm_q87_1 (Nat.le_of_ble_eq_true rfl)) rfl ?_
                      exact ih_6835 _ (sf_up hN_6835 e6895 B6845 (by decide) (by decide)) h6888 m_6835 z6894 (.long z6849) (pm_no) (.int z6870) (.int 1) T6889 F6893 W_6835 (sf_weak B6896 (by decide) (by decide)) rfl rfl rfl eW6892 rfl
                    · have k6897 := sf_lneC e6874 c6875
                      refine pm_R_lo pm_M87 (pc_q := 104) rfl rfl rfl ?_
                      refine pm_R_lo pm_M87 (pc_q := 106) rfl rfl rfl ?_
                      refine pm_R_op pm_M87 (pc_q := 107) (st_q := [.int z6854]) rfl (by show some (Value.int (lg_cmp z6849 0) :: _) = _; rw [← e6855]) rfl ?_
                      refine pm_R_ifc pm_M87 (t := 114) (pc_q := 110) rfl rfl rfl (fun c6900 => ?_) (fun c6900 => ?_)
                      · have B6901 : sf_B (-2147483648) 0 z6854 := sf_leL c6900 (sf_any z6854) sf_k0
                        refine pm_R_op pm_M87 (pc_q := 115) (st_q := [.int 0]) (pm_q87_1 (Nat.le_of_ble_eq_true rfl)) rfl rfl ?_
                        refine pm_R_lo pm_M87 (pc_q := 117) (ls_q := [.ref b, .int a0, .int a1, .int a2, .int a3, .int x5_5615, .long z5625, pm_no, .long 0, pm_no, .int x10_6835, .long z6849, pm_no, .int z6870, .int 0]) (st_q := []) (pm_q87_1 (Nat.le_of_ble_eq_true rfl)) rfl rfl ?_
                        refine pm_R_lo pm_M87 (pc_q := 118) (pm_q87_1 (Nat.le_of_ble_eq_true rfl)) rfl rfl ?_
                        refine pm_R_get pm_M87 (pc_q := 121) (v := .ref (b + 1)) (pm_q87_1 (Nat.le_of_ble_eq_true rfl)) rfl X_6835 (G.ge hk (by decide)) (T_6835.al hk (by decide)) rfl rfl ?_
                        refine pm_R_lo pm_M87 (pc_q := 123) (pm_q87_1 (Nat.le_of_ble_eq_true rfl)) rfl rfl ?_
                        refine pm_R_lo pm_M87 (pc_q := 124) (pm_q87_1 (Nat.le_of_ble_eq_true rfl)) rfl rfl ?_
                        refine pm_R_get pm_M87 (pc_q := 127) (v := .ref (b + 1)) (pm_q87_1 (Nat.le_of_ble_eq_true rfl)) rfl X_6835 (G.ge hk (by decide)) (T_6835.al hk (by decide)) rfl rfl ?_
                        refine pm_R_lo pm_M87 (pc_q := 129) (pm_q87_1 (Nat.le_of_ble_eq_true rfl)) rfl rfl ?_
                        obtain ⟨z6902, ez6903⟩ : ∃ y, f6852 (Int32.toNatClampNeg z6870) = y := ⟨_, rfl⟩
                        refine pm_R_lald pm_M87 (pc_q := 130) (v := z6902) (pm_q87_1 (Nat.le_of_ble_eq_true rfl)) e6853 (G.ge (G.w23 hk) (by decide)) (T_6835.al (G.w23 hk) (by decide)) (sf_in B6872 (by decide) (by decide)) ez6903 rfl ?_
                        refine pm_R_lo pm_M87 (pc_q := 132) (pm_q87_1 (Nat.le_of_ble_eq_true rfl)) rfl rfl ?_
                        refine pm_R_br pm_M87 (pc_q := 141) (st_q := [.long z6902, .int z6870, .ref (b + 1)]) (pm_q87_1 (Nat.le_of_ble_eq_true rfl)) rfl ?_
                        refine pm_R_lo pm_M87 (pc_q := 143) (pm_q87_1 (Nat.le_of_ble_eq_true rfl)) rfl rfl ?_
                        refine pm_R_lo pm_M87 (pc_q := 145) (pm_q87_1 (Nat.le_of_ble_eq_true rfl)) rfl rfl ?_
                        refine sf_R_lany pm_M87 (pc_q := 146) (st := [.long z6902, .int z6870, .ref (b + 1)]) (pm_q87_1 (Nat.le_of_ble_eq_true rfl)) rfl rfl (fun z6905 => ?_)
                        refine pm_R_cs pm_M87 (pc_q := 149) (ra := [.long z6905, .long z6902]) (rest := [.int z6870, .ref (b + 1)]) (ls_q := [.long z6902, pm_no, .long z6905, pm_no]) (pm_q87_1 (Nat.le_of_ble_eq_true rfl)) rfl (Or.inr rfl) pm_M78 rfl rfl (Nat.le_of_ble_eq_true rfl) rfl rfl ?_
                        refine cl_c78 (d := d + 0)  (fun r6906 => ?_)
                        show pm_R _ 87 149 [.ref b, .int a0, .int a1, .int a2, .int a3, .int x5_5615, .long z5625, pm_no, .long 0, pm_no, .int x10_6835, .long z6849, pm_no, .int z6870, .int 0] [.long r6906, .int z6870, .ref (b + 1)] _ _
                        refine cl_R_wst G pm_M87 T_6835 (pc_q := 150) (pm_q87_1 (Nat.le_of_ble_eq_true rfl)) hk e6853 (sf_in B6872 (by decide) (by decide)) rfl (fun h6913 T6914 F6915 hb6916 => ?_)
                        have eW6917 := hb6916.trans X_6835
                        have F6918 := F_6835.trans (N := 0) (S := 0) F6915 (by decide) (by decide) (by decide)
                        refine sf_R_iinc pm_M87 (pc_q := 153) (ls_q := fun z => [.ref b, .int a0, .int a1, .int a2, .int a3, .int x5_5615, .long z5625, pm_no, .long 0, pm_no, .int z, .long z6849, pm_no, .int z6870, .int 0]) (pm_q87_1 (Nat.le_of_ble_eq_true rfl)) B6845 rfl (by decide) (by decide) (by decide) (fun _ => rfl) rfl (fun z6919 e6920 B6921 => ?_)
                        show pm_R _ 87 153 [.ref b, .int a0, .int a1, .int a2, .int a3, .int x5_5615, .long z5625, pm_no, .long 0, pm_no, .int z6919, .long z6849, pm_no, .int z6870, .int 0] [] _ _
                        refine pm_R_br pm_M87 (pc_q := 55) (pm_q87_1 (Nat.le_of_ble_eq_true rfl)) rfl ?_
                        exact ih_6835 _ (sf_up hN_6835 e6920 B6845 (by decide) (by decide)) h6913 m_6835 z6919 (.long z6849) (pm_no) (.int z6870) (.int 0) T6914 F6918 W_6835 (sf_weak B6921 (by decide) (by decide)) rfl rfl rfl eW6917 rfl
                      · have B6922 : sf_B 1 2147483647 z6854 := sf_ltR (Int32.not_le.mp c6900) sf_k0 (sf_any z6854)
                        have k6923 := lf_ge e6855 B6922 (by decide)
                        have B6924 : lf_B 0 9223372036854775807 z6849 := lf_geB k6923 (⟨by decide, by decide⟩ : lf_B 0 0 0) (lf_any _)
                        have k6925 := sf_lneA e6855 B6922 (by decide)
                        refine pm_R_op pm_M87 (pc_q := 111) (st_q := [.int 1]) rfl rfl rfl ?_
                        refine pm_R_br pm_M87 (pc_q := 115) rfl rfl ?_
                        refine pm_R_lo pm_M87 (pc_q := 117) (ls_q := [.ref b, .int a0, .int a1, .int a2, .int a3, .int x5_5615, .long z5625, pm_no, .long 0, pm_no, .int x10_6835, .long z6849, pm_no, .int z6870, .int 1]) (st_q := []) (pm_q87_1 (Nat.le_of_ble_eq_true rfl)) rfl rfl ?_
                        refine pm_R_lo pm_M87 (pc_q := 118) (pm_q87_1 (Nat.le_of_ble_eq_true rfl)) rfl rfl ?_
                        refine pm_R_get pm_M87 (pc_q := 121) (v := .ref (b + 1)) (pm_q87_1 (Nat.le_of_ble_eq_true rfl)) rfl X_6835 (G.ge hk (by decide)) (T_6835.al hk (by decide)) rfl rfl ?_
                        refine pm_R_lo pm_M87 (pc_q := 123) (pm_q87_1 (Nat.le_of_ble_eq_true rfl)) rfl rfl ?_
                        refine pm_R_lo pm_M87 (pc_q := 124) (pm_q87_1 (Nat.le_of_ble_eq_true rfl)) rfl rfl ?_
                        refine pm_R_get pm_M87 (pc_q := 127) (v := .ref (b + 1)) (pm_q87_1 (Nat.le_of_ble_eq_true rfl)) rfl X_6835 (G.ge hk (by decide)) (T_6835.al hk (by decide)) rfl rfl ?_
                        refine pm_R_lo pm_M87 (pc_q := 129) (pm_q87_1 (Nat.le_of_ble_eq_true rfl)) rfl rfl ?_
                        obtain ⟨z6926, ez6927⟩ : ∃ y, f6852 (Int32.toNatClampNeg z6870) = y := ⟨_, rfl⟩
                        refine pm_R_lald pm_M87 (pc_q := 130) (v := z6926) (pm_q87_1 (Nat.le_of_ble_eq_true rfl)) e6853 (G.ge (G.w23 hk) (by decide)) (T_6835.al (G.w23 hk) (by decide)) (sf_in B6872 (by decide) (by decide)) ez6927 rfl ?_
                        refine pm_R_lo pm_M87 (pc_q := 132) (pm_q87_1 (Nat.le_of_ble_eq_true rfl)) rfl rfl ?_
                        refine pm_R_br pm_M87 (pc_q := 135) (st_q := [.long z6926, .int z6870, .ref (b + 1)]) (pm_q87_1 (Nat.le_of_ble_eq_true rfl)) rfl ?_
                        refine pm_R_ldc2 pm_M87 (pc_q := 138) (pm_q87_1 (Nat.le_of_ble_eq_true rfl)) rfl rfl ?_
                        refine pm_R_br pm_M87 (pc_q := 146) (pm_q87_1 (Nat.le_of_ble_eq_true rfl)) rfl ?_
                        refine pm_R_cs pm_M87 (pc_q := 149) (ra := [.long (-1), .long z6926]) (rest := [.int z6870, .ref (b + 1)]) (ls_q := [.long z6926, pm_no, .long (-1), pm_no]) (pm_q87_1 (Nat.le_of_ble_eq_true rfl)) rfl (Or.inr rfl) pm_M78 rfl rfl (Nat.le_of_ble_eq_true rfl) rfl rfl ?_
                        refine cl_c78 (d := d + 0)  (fun r6929 => ?_)
                        show pm_R _ 87 149 [.ref b, .int a0, .int a1, .int a2, .int a3, .int x5_5615, .long z5625, pm_no, .long 0, pm_no, .int x10_6835, .long z6849, pm_no, .int z6870, .int 1] [.long r6929, .int z6870, .ref (b + 1)] _ _
                        refine cl_R_wst G pm_M87 T_6835 (pc_q := 150) (pm_q87_1 (Nat.le_of_ble_eq_true rfl)) hk e6853 (sf_in B6872 (by decide) (by decide)) rfl (fun h6936 T6937 F6938 hb6939 => ?_)
                        have eW6940 := hb6939.trans X_6835
                        have F6941 := F_6835.trans (N := 0) (S := 0) F6938 (by decide) (by decide) (by decide)
                        refine sf_R_iinc pm_M87 (pc_q := 153) (ls_q := fun z => [.ref b, .int a0, .int a1, .int a2, .int a3, .int x5_5615, .long z5625, pm_no, .long 0, pm_no, .int z, .long z6849, pm_no, .int z6870, .int 1]) (pm_q87_1 (Nat.le_of_ble_eq_true rfl)) B6845 rfl (by decide) (by decide) (by decide) (fun _ => rfl) rfl (fun z6942 e6943 B6944 => ?_)
                        show pm_R _ 87 153 [.ref b, .int a0, .int a1, .int a2, .int a3, .int x5_5615, .long z5625, pm_no, .long 0, pm_no, .int z6942, .long z6849, pm_no, .int z6870, .int 1] [] _ _
                        refine pm_R_br pm_M87 (pc_q := 55) (pm_q87_1 (Nat.le_of_ble_eq_true rfl)) rfl ?_
                        exact ih_6835 _ (sf_up hN_6835 e6943 B6845 (by decide) (by decide)) h6936 m_6835 z6942 (.long z6849) (pm_no) (.int z6870) (.int 1) T6937 F6941 W_6835 (sf_weak B6944 (by decide) (by decide)) rfl rfl rfl eW6940 rfl
            exact L_6835 _ h_5615 m_5615 0 (g11_5615) (g12_5615) (g13_5615) (g14_5615) T_5615 F_5615 (rf_W.refl _ _) (sf_weak sf_k0 (by decide) (by decide)) Cg12_5615 Cg13_5615 Cg14_5615 X_5615 rfl
        · have B6945 : sf_B 0 0 z5630 := sf_eqL (Classical.not_not.mp c5632) sf_k0
          have B6946 : lf_B 0 0 z5625 := lf_eqB e5631 B6945 (⟨by decide, by decide⟩ : lf_B 0 0 0)
          refine pm_R_br pm_M87 (pc_q := 156) rfl rfl ?_
          refine sf_R_iinc pm_M87 (pc_q := 159) (ls_q := fun z => [.ref b, .int a0, .int a1, .int a2, .int a3, .int z, .long z5625, pm_no, g8_5615, g9_5615, g10_5615, g11_5615, g12_5615, g13_5615, g14_5615]) (pm_q87_1 (Nat.le_of_ble_eq_true rfl)) B5621 rfl (by decide) (by decide) (by decide) (fun _ => rfl) rfl (fun z6947 e6948 B6949 => ?_)
          show pm_R _ 87 159 [.ref b, .int a0, .int a1, .int a2, .int a3, .int z6947, .long z5625, pm_no, g8_5615, g9_5615, g10_5615, g11_5615, g12_5615, g13_5615, g14_5615] [] _ _
          refine pm_R_br pm_M87 (pc_q := 3) (pm_q87_1 (Nat.le_of_ble_eq_true rfl)) rfl ?_
          exact ih_5615 _ (sf_up hN_5615 e6948 B5621 (by decide) (by decide)) h_5615 m_5615 z6947 (.long z5625) (pm_no) (g8_5615) (g9_5615) (g10_5615) (g11_5615) (g12_5615) (g13_5615) (g14_5615) T_5615 F_5615 W_5615 (sf_weak B6949 (by decide) (by decide)) rfl Cg9_5615 Cg10_5615 Cg12_5615 Cg13_5615 Cg14_5615 X_5615 rfl
  exact L_5615 _ h m 0 (pm_no) (pm_no) (pm_no) (pm_no) (pm_no) (pm_no) (pm_no) (pm_no) (pm_no) T (cl_F.refl (ck := ck) (A := []) (n := 0) (s := 0) T.1) (rf_W.refl _ _) (sf_weak sf_k0 (by decide) (by decide)) rfl rfl rfl rfl rfl rfl eW rfl

set_option maxRecDepth 100000 in
set_option maxHeartbeats 4000000 in
/-- SilentTable$WayChart.fillSign -/
theorem cl_c85 {d : Nat} {ck : cl_K} {E : Nat → pm_E} {m : Nat → Int32} {o : Nat → Option Nat} {h : pm_H} {Q : Option Value → pm_H → Prop} {b : Nat} {a0 : Int32} (G : cl_G ck E) (T : cl_T ck E m o h) (hk : ck b = 22) (Ba0 : sf_B 0 11 a0) {lo ro : Nat} (eW : h.2.2 b = .inr (10, [.ref (b + 1), .ref lo, .ref ro])) (hkl : ck lo = 1) (hkr : ck ro = 7) {n : Nat} (en : E ro = .inr (5, [.int (Int32.ofNat n), .ref (ro + 1)])) (Q0 : a0 < Int32.ofNat n) (K : ∀ (m_q : Nat → Int32) (h_q : pm_H), cl_T ck E m_q o h_q → cl_F ck [] 0 0 h h_q → rf_W [] m m_q → h_q.2.2 b = .inr (10, [.ref (b + 1), .ref lo, .ref ro]) → Q none h_q) : pm_R (d + 1) 85 0 [.ref b, .int a0, pm_no, pm_no] [] h Q := by
  obtain ⟨n1, f2, h3, h4, eE5, eE6, b7⟩ := (G.2.2.1 ro hkr).2
  have kq8 := (G.2.2.1 ro hkr).1
  have P0 : a0 < (Int32.ofNat n1) := by rw [cl_rowN eE5 en]; exact Q0
  refine pm_R_op pm_M85 (pc_q := 1) (st_q := [.int 0]) rfl rfl rfl ?_
  refine pm_R_lo pm_M85 (pc_q := 2) (ls_q := [.ref b, .int a0, .int 0, pm_no]) (st_q := []) rfl rfl rfl ?_
  have L_489 : ∀ (N : Nat) (h_489 : pm_H) (m_489 : Nat → Int32) (x2_489 : Int32) (g3_489 : Value), cl_T ck E m_489 o h_489 → cl_F ck [] 0 0 h h_489 → rf_W [] m m_489 → sf_B 0 16 x2_489 → g3_489.category = 1 → h_489.2.2 b = .inr (10, [.ref (b + 1), .ref lo, .ref ro]) → (16 - x2_489.toInt).toNat = N → pm_R (d + 1) 85 2 [.ref b, .int a0, .int x2_489, g3_489] [] h_489 Q := by
    intro N
    induction N using Nat.strongRecOn with
    | ind N ih_489 =>
      intro h_489 m_489 x2_489 g3_489 T_489 F_489 W_489 Bx2_489 Cg3_489 X_489 hN_489
      have W492 : rf_W [] m m_489 := (rf_W.refl [] m).trans W_489 (by decide)
      refine pm_R_lo pm_M85 (pc_q := 3) rfl rfl rfl ?_
      refine pm_R_lo pm_M85 (pc_q := 4) rfl rfl rfl ?_
      refine pm_R_get pm_M85 (pc_q := 7) (v := .ref lo) rfl rfl X_489 (G.ge hk (by decide)) (T_489.al hk (by decide)) rfl rfl ?_
      obtain ⟨rc493, tc494, rs495, fv496, fw497, fr498, ft499, fn500, h501, h502, B503, eE504, eE505, eE506, eE507, eE508, eE509, b510, b511, b512⟩ := (G.2.1 lo hkl).2.2.2.2.2
      have kq513 := G.2.1 lo hkl
      refine pm_R_get pm_M85 (pc_q := 10) (v := .int (Int32.ofNat tc494)) rfl rfl (T_489.im hkl (by decide) (by decide) eE504) (G.ge hkl (by decide)) (T_489.al hkl (by decide)) rfl rfl ?_
      refine pm_R_icmp pm_M85 (t := 92) (pc_q := 13) rfl rfl rfl (fun c514 => ?_) (fun c514 => ?_)
      · skip
        exact pm_R_ret pm_M85 (r := none) rfl rfl (K m_489 h_489 T_489 F_489 W492 X_489)
      · have B515 : sf_B 0 15 x2_489 := sf_ltL (Int32.not_le.mp c514) Bx2_489 (sf_ofB h502 (by decide))
        have B516 : sf_B 1 16 (Int32.ofNat tc494) := sf_ltR (Int32.not_le.mp c514) Bx2_489 (sf_ofB h502 (by decide))
        refine pm_R_lo pm_M85 (pc_q := 14) rfl rfl rfl ?_
        refine pm_R_get pm_M85 (pc_q := 17) (v := .ref lo) rfl rfl X_489 (G.ge hk (by decide)) (T_489.al hk (by decide)) rfl rfl ?_
        refine pm_R_get pm_M85 (pc_q := 20) (v := .ref (lo + 4)) rfl rfl (T_489.im hkl (by decide) (by decide) eE504) (G.ge hkl (by decide)) (T_489.al hkl (by decide)) rfl rfl ?_
        refine pm_R_lo pm_M85 (pc_q := 21) rfl rfl rfl ?_
        refine pm_R_op pm_M85 (pc_q := 22) (st_q := [.int 4, .int x2_489, .ref (lo + 4)]) rfl rfl rfl ?_
        refine sf_R_imul pm_M85 (pc_q := 23) rfl rfl B515 sf_k4 (by decide) (by decide) (by decide) (fun z517 e518 B519 => ?_)
        have q523 := cl_in4 (n := tc494) (Nat.le_trans h502 (by decide)) (Int32.not_le.mp c514) (cl_aux5 _ _ e518) B515 (by decide) (by decide)
        obtain ⟨z520, ez521⟩ : ∃ y, ft499 (Int32.toNatClampNeg z517) = y := ⟨_, rfl⟩
        have B522 : sf_B 0 9 z520 := ez521 ▸ q523.2.2 ▸ (b511 _ q523.2.1).1
        refine pm_R_iald pm_M85 (pc_q := 24) (v := z520) rfl (T_489.im kq513.2.2.2.1 (by decide) (by decide) eE508) (T_489.al kq513.2.2.2.1 (by decide)) q523.1 ez521 rfl ?_
        refine pm_R_lo pm_M85 (pc_q := 25) rfl rfl rfl ?_
        refine pm_R_get pm_M85 (pc_q := 28) (v := .ref ro) rfl rfl X_489 (G.ge hk (by decide)) (T_489.al hk (by decide)) rfl rfl ?_
        refine pm_R_get pm_M85 (pc_q := 31) (v := .ref (ro + 1)) rfl rfl (T_489.im hkr (by decide) (by decide) eE5) (G.ge hkr (by decide)) (T_489.al hkr (by decide)) rfl rfl ?_
        refine pm_R_lo pm_M85 (pc_q := 32) rfl rfl rfl ?_
        have q527 := cl_in1 (n := n1) (Nat.le_trans h4 (by decide)) P0 Ba0 (by decide)
        obtain ⟨z524, ez525⟩ : ∃ y, f2 (Int32.toNatClampNeg a0) = y := ⟨_, rfl⟩
        have B526 : sf_B 0 9 z524 := ez525 ▸ b7 _
        refine pm_R_iald pm_M85 (pc_q := 33) (v := z524) rfl (T_489.im kq8 (by decide) (by decide) eE6) (T_489.al kq8 (by decide)) q527.1 ez525 rfl ?_
        refine pm_R_icmp pm_M85 (t := 86) (pc_q := 36) rfl rfl rfl (fun c528 => ?_) (fun c528 => ?_)
        · skip
          refine sf_R_iinc pm_M85 (pc_q := 89) (ls_q := fun z => [.ref b, .int a0, .int z, g3_489]) rfl B515 rfl (by decide) (by decide) (by decide) (fun _ => rfl) rfl (fun z529 e530 B531 => ?_)
          show pm_R _ 85 89 [.ref b, .int a0, .int z529, g3_489] [] _ _
          refine pm_R_br pm_M85 (pc_q := 2) rfl rfl ?_
          exact ih_489 _ (sf_up hN_489 e530 B515 (by decide) (by decide)) h_489 m_489 z529 (g3_489) T_489 F_489 W_489 (sf_weak B531 (by decide) (by decide)) Cg3_489 X_489 rfl
        · refine pm_R_lo pm_M85 (pc_q := 37) rfl rfl rfl ?_
          refine pm_R_lo pm_M85 (pc_q := 38) rfl rfl rfl ?_
          refine pm_R_cs pm_M85 (pc_q := 41) (ra := [.int a0, .int a0]) (rest := []) (ls_q := [.int a0, .int a0]) rfl rfl (Or.inr rfl) pm_M73 rfl rfl (Nat.le_of_ble_eq_true rfl) rfl rfl ?_
          refine pm_R_lo pm_M73 (pc_q := 1) rfl rfl rfl ?_
          refine pm_R_lo pm_M73 (pc_q := 2) rfl rfl rfl ?_
          refine pm_R_op pm_M73 (pc_q := 3) (st_q := [.int 1, .int a0, .int a0]) rfl rfl rfl ?_
          refine sf_R_iadd pm_M73 (pc_q := 4) rfl rfl Ba0 sf_k1 (by decide) (by decide) (fun z532 e533 B534 => ?_)
          refine sf_R_imul pm_M73 (pc_q := 5) rfl rfl Ba0 B534 (by decide) (by decide) (by decide) (fun z535 e536 B537 => ?_)
          refine pm_R_op pm_M73 (pc_q := 6) (st_q := [.int 2, .int z535]) rfl rfl rfl ?_
          refine sf_R_idiv pm_M73 (pc_q := 7) rfl rfl B537 sf_k2 (by decide) (by decide) (fun z538 e539 B540 => ?_)
          refine pm_R_lo pm_M73 (pc_q := 8) rfl rfl rfl ?_
          refine sf_R_iadd pm_M73 (pc_q := 9) rfl rfl B540 Ba0 (by decide) (by decide) (fun z541 e542 B543 => ?_)
          refine pm_R_ret pm_M73 (r := some (.int z541)) rfl (pm_ret_i _) ?_
          show pm_R _ 85 41 [.ref b, .int a0, .int x2_489, g3_489] [.int z541] _ _
          refine pm_R_op pm_M85 (pc_q := 43) (st_q := [.int 6, .int z541]) rfl rfl rfl ?_
          refine sf_R_imul pm_M85 (pc_q := 44) rfl rfl B543 sf_k6 (by decide) (by decide) (by decide) (fun z544 e545 B546 => ?_)
          refine pm_R_lo pm_M85 (pc_q := 45) rfl rfl rfl ?_
          refine pm_R_get pm_M85 (pc_q := 48) (v := .ref lo) rfl rfl X_489 (G.ge hk (by decide)) (T_489.al hk (by decide)) rfl rfl ?_
          refine pm_R_get pm_M85 (pc_q := 51) (v := .ref (lo + 4)) rfl rfl (T_489.im hkl (by decide) (by decide) eE504) (G.ge hkl (by decide)) (T_489.al hkl (by decide)) rfl rfl ?_
          refine pm_R_lo pm_M85 (pc_q := 52) rfl rfl rfl ?_
          refine pm_R_op pm_M85 (pc_q := 53) (st_q := [.int 4, .int x2_489, .ref (lo + 4), .int z544]) rfl rfl rfl ?_
          refine sf_R_imulV pm_M85 (pc_q := 54) rfl rfl B515 sf_k4 (by decide) (by decide) (by decide) e518 ?_
          refine pm_R_op pm_M85 (pc_q := 55) (st_q := [.int 1, .int z517, .ref (lo + 4), .int z544]) rfl rfl rfl ?_
          refine sf_R_iadd pm_M85 (pc_q := 56) rfl rfl B519 sf_k1 (by decide) (by decide) (fun z547 e548 B549 => ?_)
          have q553 := cl_in4 (n := tc494) (Nat.le_trans h502 (by decide)) (Int32.not_le.mp c514) (cl_aux7 _ _ _ e518 e548) B515 (by decide) (by decide)
          obtain ⟨z550, ez551⟩ : ∃ y, ft499 (Int32.toNatClampNeg z547) = y := ⟨_, rfl⟩
          have B552 : sf_B 0 5 z550 := ez551 ▸ q553.2.2 ▸ (b511 _ q553.2.1).2.1
          refine pm_R_iald pm_M85 (pc_q := 57) (v := z550) rfl (T_489.im kq513.2.2.2.1 (by decide) (by decide) eE508) (T_489.al kq513.2.2.2.1 (by decide)) q553.1 ez551 rfl ?_
          refine sf_R_iadd pm_M85 (pc_q := 58) rfl rfl B546 B552 (by decide) (by decide) (fun z554 e555 B556 => ?_)
          refine pm_R_lo pm_M85 (pc_q := 59) (ls_q := [.ref b, .int a0, .int x2_489, .int z554]) (st_q := []) rfl rfl rfl ?_
          refine pm_R_lo pm_M85 (pc_q := 60) rfl rfl rfl ?_
          refine pm_R_get pm_M85 (pc_q := 63) (v := .ref (b + 1)) rfl rfl X_489 (G.ge hk (by decide)) (T_489.al hk (by decide)) rfl rfl ?_
          refine pm_R_lo pm_M85 (pc_q := 64) rfl rfl rfl ?_
          refine pm_R_op pm_M85 (pc_q := 66) (st_q := [.int 50, .int z554, .ref (b + 1)]) rfl rfl rfl ?_
          refine sf_R_imul pm_M85 (pc_q := 67) rfl rfl B556 sf_k50 (by decide) (by decide) (by decide) (fun z557 e558 B559 => ?_)
          refine pm_R_lo pm_M85 (pc_q := 68) rfl rfl rfl ?_
          refine pm_R_get pm_M85 (pc_q := 71) (v := .ref lo) rfl rfl X_489 (G.ge hk (by decide)) (T_489.al hk (by decide)) rfl rfl ?_
          refine pm_R_get pm_M85 (pc_q := 74) (v := .ref (lo + 4)) rfl rfl (T_489.im hkl (by decide) (by decide) eE504) (G.ge hkl (by decide)) (T_489.al hkl (by decide)) rfl rfl ?_
          refine pm_R_lo pm_M85 (pc_q := 75) rfl rfl rfl ?_
          refine pm_R_op pm_M85 (pc_q := 76) (st_q := [.int 4, .int x2_489, .ref (lo + 4), .int z557, .ref (b + 1)]) rfl rfl rfl ?_
          refine sf_R_imulV pm_M85 (pc_q := 77) rfl rfl B515 sf_k4 (by decide) (by decide) (by decide) e518 ?_
          refine pm_R_op pm_M85 (pc_q := 78) (st_q := [.int 2, .int z517, .ref (lo + 4), .int z557, .ref (b + 1)]) rfl rfl rfl ?_
          refine sf_R_iadd pm_M85 (pc_q := 79) rfl rfl B519 sf_k2 (by decide) (by decide) (fun z560 e561 B562 => ?_)
          have q566 := cl_in4 (n := tc494) (Nat.le_trans h502 (by decide)) (Int32.not_le.mp c514) (cl_aux6 _ _ _ e518 e561) B515 (by decide) (by decide)
          obtain ⟨z563, ez564⟩ : ∃ y, ft499 (Int32.toNatClampNeg z560) = y := ⟨_, rfl⟩
          have B565 : sf_B 0 49 z563 := ez564 ▸ q566.2.2 ▸ (b511 _ q566.2.1).2.2
          refine pm_R_iald pm_M85 (pc_q := 80) (v := z563) rfl (T_489.im kq513.2.2.2.1 (by decide) (by decide) eE508) (T_489.al kq513.2.2.2.1 (by decide)) q566.1 ez564 rfl ?_
          refine sf_R_iadd pm_M85 (pc_q := 81) rfl rfl B559 B565 (by decide) (by decide) (fun z567 e568 B569 => ?_)
          refine pm_R_op pm_M85 (pc_q := 82) (st_q := [.int z567, .ref (b + 1), .int z567, .ref (b + 1)]) rfl rfl rfl ?_
          obtain ⟨f573, e574⟩ := T_489.D.2.2.1 _ (G.w23 hk)
          obtain ⟨z570, ez571⟩ : ∃ y, f573 (Int32.toNatClampNeg z567) = y := ⟨_, rfl⟩
          refine pm_R_lald pm_M85 (pc_q := 83) (v := z570) rfl e574 (G.ge (G.w23 hk) (by decide)) (T_489.al (G.w23 hk) (by decide)) (sf_in B569 (by decide) (by decide)) ez571 rfl ?_
          refine pm_R_op pm_M85 (pc_q := 84) (st_q := [.long 1, .long z570, .int z567, .ref (b + 1)]) rfl rfl rfl ?_
          refine sf_R_lany pm_M85 (pc_q := 85) (st := [.int z567, .ref (b + 1)]) rfl rfl rfl (fun z575 => ?_)
          refine cl_R_wst G pm_M85 T_489 (pc_q := 86) rfl hk e574 (sf_in B569 (by decide) (by decide)) rfl (fun h576 T577 F578 hb579 => ?_)
          have eW580 := hb579.trans X_489
          have F581 := F_489.trans (N := 0) (S := 0) F578 (by decide) (by decide) (by decide)
          refine sf_R_iinc pm_M85 (pc_q := 89) (ls_q := fun z => [.ref b, .int a0, .int z, .int z554]) rfl B515 rfl (by decide) (by decide) (by decide) (fun _ => rfl) rfl (fun z582 e583 B584 => ?_)
          show pm_R _ 85 89 [.ref b, .int a0, .int z582, .int z554] [] _ _
          refine pm_R_br pm_M85 (pc_q := 2) rfl rfl ?_
          exact ih_489 _ (sf_up hN_489 e583 B515 (by decide) (by decide)) h576 m_489 z582 (.int z554) T577 F581 W_489 (sf_weak B584 (by decide) (by decide)) rfl eW580 rfl
  exact L_489 _ h m 0 (pm_no) T (cl_F.refl (ck := ck) (A := []) (n := 0) (s := 0) T.1) (rf_W.refl _ _) (sf_weak sf_k0 (by decide) (by decide)) rfl eW rfl

set_option maxRecDepth 100000 in
set_option maxHeartbeats 4000000 in
/-- SilentTable$WayChart.fillPart -/
theorem cl_c86 {d : Nat} {ck : cl_K} {E : Nat → pm_E} {m : Nat → Int32} {o : Nat → Option Nat} {h : pm_H} {Q : Option Value → pm_H → Prop} {b : Nat} {a1 : Int32} {a2 : Int32} (G : cl_G ck E) (T : cl_T ck E m o h) (hk : ck b = 22) (Ba1 : sf_B 0 11 a1) (Ba2 : sf_B 0 11 a2) {lo ro : Nat} (eW : h.2.2 b = .inr (10, [.ref (b + 1), .ref lo, .ref ro])) (hkl : ck lo = 1) (hkr : ck ro = 7) (K : ∀ (m_q : Nat → Int32) (h_q : pm_H), cl_T ck E m_q o h_q → cl_F ck [] 0 0 h h_q → rf_W [] m m_q → h_q.2.2 b = .inr (10, [.ref (b + 1), .ref lo, .ref ro]) → Q none h_q) : pm_R (d + 2) 86 0 [.ref b, .ref 34, .int a1, .int a2, pm_no, pm_no, pm_no, pm_no, pm_no, pm_no] [] h Q := by
  refine pm_R_lo pm_M86 (pc_q := 1) rfl rfl rfl ?_
  refine pm_R_lo pm_M86 (pc_q := 3) (ls_q := [.ref b, .ref 34, .int a1, .int a2, .int a1, pm_no, pm_no, pm_no, pm_no, pm_no]) (st_q := []) rfl rfl rfl ?_
  have L_2333 : ∀ (N : Nat) (h_2333 : pm_H) (m_2333 : Nat → Int32) (x4_2333 : Int32) (g5_2333 : Value) (g6_2333 : Value) (g7_2333 : Value) (g8_2333 : Value) (g9_2333 : Value), cl_T ck E m_2333 o h_2333 → cl_F ck [] 0 0 h h_2333 → rf_W [] m m_2333 → sf_B 0 11 x4_2333 → g5_2333.category = 1 → g6_2333.category = 1 → g7_2333.category = 1 → g8_2333.category = 1 → g9_2333.category = 1 → h_2333.2.2 b = .inr (10, [.ref (b + 1), .ref lo, .ref ro]) → (11 - x4_2333.toInt).toNat = N → pm_R (d + 2) 86 3 [.ref b, .ref 34, .int a1, .int a2, .int x4_2333, g5_2333, g6_2333, g7_2333, g8_2333, g9_2333] [] h_2333 Q := by
    intro N
    induction N using Nat.strongRecOn with
    | ind N ih_2333 =>
      intro h_2333 m_2333 x4_2333 g5_2333 g6_2333 g7_2333 g8_2333 g9_2333 T_2333 F_2333 W_2333 Bx4_2333 Cg5_2333 Cg6_2333 Cg7_2333 Cg8_2333 Cg9_2333 X_2333 hN_2333
      have W2336 : rf_W [] m m_2333 := (rf_W.refl [] m).trans W_2333 (by decide)
      refine pm_R_lo pm_M86 (pc_q := 5) rfl rfl rfl ?_
      refine pm_R_lo pm_M86 (pc_q := 6) rfl rfl rfl ?_
      refine pm_R_icmp pm_M86 (t := 234) (pc_q := 9) rfl rfl rfl (fun c2337 => ?_) (fun c2337 => ?_)
      · skip
        exact pm_R_ret pm_M86 (r := none) (pm_q86_2 (Nat.le_of_ble_eq_true rfl)) rfl (K m_2333 h_2333 T_2333 F_2333 W2336 X_2333)
      · have B2338 : sf_B 0 10 x4_2333 := sf_ltL (Int32.not_le.mp c2337) Bx4_2333 Ba2
        have B2339 : sf_B 1 11 a2 := sf_ltR (Int32.not_le.mp c2337) Bx4_2333 Ba2
        refine pm_R_op pm_M86 (pc_q := 10) (st_q := [.int 0]) rfl rfl rfl ?_
        refine pm_R_lo pm_M86 (pc_q := 12) (ls_q := [.ref b, .ref 34, .int a1, .int a2, .int x4_2333, .int 0, g6_2333, g7_2333, g8_2333, g9_2333]) (st_q := []) rfl rfl rfl ?_
        have L_3515 : ∀ (N : Nat) (h_3515 : pm_H) (m_3515 : Nat → Int32) (x5_3515 : Int32) (g6_3515 : Value) (g7_3515 : Value) (g8_3515 : Value) (g9_3515 : Value), cl_T ck E m_3515 o h_3515 → cl_F ck [] 0 0 h h_3515 → rf_W [] m_2333 m_3515 → sf_B 0 10 x5_3515 → g6_3515.category = 1 → g7_3515.category = 1 → g8_3515.category = 1 → g9_3515.category = 1 → h_3515.2.2 b = .inr (10, [.ref (b + 1), .ref lo, .ref ro]) → (10 - x5_3515.toInt).toNat = N → pm_R (d + 2) 86 12 [.ref b, .ref 34, .int a1, .int a2, .int x4_2333, .int x5_3515, g6_3515, g7_3515, g8_3515, g9_3515] [] h_3515 Q := by
          intro N
          induction N using Nat.strongRecOn with
          | ind N ih_3515 =>
            intro h_3515 m_3515 x5_3515 g6_3515 g7_3515 g8_3515 g9_3515 T_3515 F_3515 W_3515 Bx5_3515 Cg6_3515 Cg7_3515 Cg8_3515 Cg9_3515 X_3515 hN_3515
            have W3518 : rf_W [] m m_3515 := W2336.trans W_3515 (by decide)
            have W3519 : rf_W [] m m_3515 := W_2333.trans W_3515 (by decide)
            refine pm_R_lo pm_M86 (pc_q := 14) rfl rfl rfl ?_
            refine pm_R_lo pm_M86 (pc_q := 15) rfl rfl rfl ?_
            refine pm_R_get pm_M86 (pc_q := 18) (v := .ref lo) rfl rfl X_3515 (G.ge hk (by decide)) (T_3515.al hk (by decide)) rfl rfl ?_
            obtain ⟨rc3520, tc3521, rs3522, fv3523, fw3524, fr3525, ft3526, fn3527, h3528, h3529, B3530, eE3531, eE3532, eE3533, eE3534, eE3535, eE3536, b3537, b3538, b3539⟩ := (G.2.1 lo hkl).2.2.2.2.2
            have kq3540 := G.2.1 lo hkl
            refine pm_R_get pm_M86 (pc_q := 21) (v := .int (Int32.ofNat rc3520)) rfl rfl (T_3515.im hkl (by decide) (by decide) eE3531) (G.ge hkl (by decide)) (T_3515.al hkl (by decide)) rfl rfl ?_
            refine pm_R_icmp pm_M86 (t := 228) (pc_q := 24) rfl rfl rfl (fun c3541 => ?_) (fun c3541 => ?_)
            · skip
              refine sf_R_iinc pm_M86 (pc_q := 231) (ls_q := fun z => [.ref b, .ref 34, .int a1, .int a2, .int z, .int x5_3515, g6_3515, g7_3515, g8_3515, g9_3515]) (pm_q86_2 (Nat.le_of_ble_eq_true rfl)) B2338 rfl (by decide) (by decide) (by decide) (fun _ => rfl) rfl (fun z3542 e3543 B3544 => ?_)
              show pm_R _ 86 231 [.ref b, .ref 34, .int a1, .int a2, .int z3542, .int x5_3515, g6_3515, g7_3515, g8_3515, g9_3515] [] _ _
              refine pm_R_br pm_M86 (pc_q := 3) (pm_q86_2 (Nat.le_of_ble_eq_true rfl)) rfl ?_
              exact ih_2333 _ (sf_up hN_2333 e3543 B2338 (by decide) (by decide)) h_3515 m_3515 z3542 (.int x5_3515) (g6_3515) (g7_3515) (g8_3515) (g9_3515) T_3515 F_3515 W3519 (sf_weak B3544 (by decide) (by decide)) rfl Cg6_3515 Cg7_3515 Cg8_3515 Cg9_3515 X_3515 rfl
            · have B3545 : sf_B 0 9 x5_3515 := sf_ltL (Int32.not_le.mp c3541) Bx5_3515 (sf_ofB h3528 (by decide))
              have B3546 : sf_B 1 10 (Int32.ofNat rc3520) := sf_ltR (Int32.not_le.mp c3541) Bx5_3515 (sf_ofB h3528 (by decide))
              refine pm_R_lo pm_M86 (pc_q := 25) rfl rfl rfl ?_
              refine pm_R_lo pm_M86 (pc_q := 26) rfl rfl rfl ?_
              refine pm_R_cs pm_M86 (pc_q := 29) (ra := [.int a2, .int a1]) (rest := []) (ls_q := [.int a1, .int a2]) rfl rfl (Or.inr rfl) pm_M73 rfl rfl (Nat.le_of_ble_eq_true rfl) rfl rfl ?_
              refine pm_R_lo pm_M73 (pc_q := 1) rfl rfl rfl ?_
              refine pm_R_lo pm_M73 (pc_q := 2) rfl rfl rfl ?_
              refine pm_R_op pm_M73 (pc_q := 3) (st_q := [.int 1, .int a2, .int a2]) rfl rfl rfl ?_
              refine sf_R_iadd pm_M73 (pc_q := 4) rfl rfl B2339 sf_k1 (by decide) (by decide) (fun z3547 e3548 B3549 => ?_)
              refine sf_R_imul pm_M73 (pc_q := 5) rfl rfl B2339 B3549 (by decide) (by decide) (by decide) (fun z3550 e3551 B3552 => ?_)
              refine pm_R_op pm_M73 (pc_q := 6) (st_q := [.int 2, .int z3550]) rfl rfl rfl ?_
              refine sf_R_idiv pm_M73 (pc_q := 7) rfl rfl B3552 sf_k2 (by decide) (by decide) (fun z3553 e3554 B3555 => ?_)
              refine pm_R_lo pm_M73 (pc_q := 8) rfl rfl rfl ?_
              refine sf_R_iadd pm_M73 (pc_q := 9) rfl rfl B3555 Ba1 (by decide) (by decide) (fun z3556 e3557 B3558 => ?_)
              refine pm_R_ret pm_M73 (r := some (.int z3556)) rfl (pm_ret_i _) ?_
              show pm_R _ 86 29 [.ref b, .ref 34, .int a1, .int a2, .int x4_2333, .int x5_3515, g6_3515, g7_3515, g8_3515, g9_3515] [.int z3556] _ _
              refine pm_R_op pm_M86 (pc_q := 31) (st_q := [.int 6, .int z3556]) rfl rfl rfl ?_
              refine sf_R_imul pm_M86 (pc_q := 32) rfl rfl B3558 sf_k6 (by decide) (by decide) (by decide) (fun z3559 e3560 B3561 => ?_)
              refine pm_R_lo pm_M86 (pc_q := 33) rfl rfl rfl ?_
              refine pm_R_get pm_M86 (pc_q := 36) (v := .ref lo) rfl rfl X_3515 (G.ge hk (by decide)) (T_3515.al hk (by decide)) rfl rfl ?_
              refine pm_R_get pm_M86 (pc_q := 39) (v := .ref (lo + 3)) rfl rfl (T_3515.im hkl (by decide) (by decide) eE3531) (G.ge hkl (by decide)) (T_3515.al hkl (by decide)) rfl rfl ?_
              refine pm_R_lo pm_M86 (pc_q := 41) rfl rfl rfl ?_
              refine pm_R_op pm_M86 (pc_q := 42) (st_q := [.int 4, .int x5_3515, .ref (lo + 3), .int z3559]) rfl rfl rfl ?_
              refine sf_R_imul pm_M86 (pc_q := 43) rfl rfl B3545 sf_k4 (by decide) (by decide) (by decide) (fun z3562 e3563 B3564 => ?_)
              have q3568 := cl_in4 (n := rc3520) (Nat.le_trans h3528 (by decide)) (Int32.not_le.mp c3541) (cl_aux5 _ _ e3563) B3545 (by decide) (by decide)
              obtain ⟨z3565, ez3566⟩ : ∃ y, fr3525 (Int32.toNatClampNeg z3562) = y := ⟨_, rfl⟩
              have B3567 : sf_B 0 5 z3565 := ez3566 ▸ q3568.2.2 ▸ (b3537 _ q3568.2.1).1
              refine pm_R_iald pm_M86 (pc_q := 44) (v := z3565) rfl (T_3515.im kq3540.2.2.1 (by decide) (by decide) eE3534) (T_3515.al kq3540.2.2.1 (by decide)) q3568.1 ez3566 rfl ?_
              refine sf_R_iadd pm_M86 (pc_q := 45) rfl rfl B3561 B3567 (by decide) (by decide) (fun z3569 e3570 B3571 => ?_)
              refine pm_R_lo pm_M86 (pc_q := 47) (ls_q := [.ref b, .ref 34, .int a1, .int a2, .int x4_2333, .int x5_3515, .int z3569, g7_3515, g8_3515, g9_3515]) (st_q := []) rfl rfl rfl ?_
              refine pm_R_lo pm_M86 (pc_q := 48) rfl rfl rfl ?_
              refine pm_R_lo pm_M86 (pc_q := 50) rfl rfl rfl ?_
              refine pm_R_cs pm_M86 (pc_q := 53) (ra := [.int x4_2333, .int a1]) (rest := []) (ls_q := [.int a1, .int x4_2333]) rfl rfl (Or.inr rfl) pm_M73 rfl rfl (Nat.le_of_ble_eq_true rfl) rfl rfl ?_
              refine pm_R_lo pm_M73 (pc_q := 1) rfl rfl rfl ?_
              refine pm_R_lo pm_M73 (pc_q := 2) rfl rfl rfl ?_
              refine pm_R_op pm_M73 (pc_q := 3) (st_q := [.int 1, .int x4_2333, .int x4_2333]) rfl rfl rfl ?_
              refine sf_R_iadd pm_M73 (pc_q := 4) rfl rfl B2338 sf_k1 (by decide) (by decide) (fun z3572 e3573 B3574 => ?_)
              refine sf_R_imul pm_M73 (pc_q := 5) rfl rfl B2338 B3574 (by decide) (by decide) (by decide) (fun z3575 e3576 B3577 => ?_)
              refine pm_R_op pm_M73 (pc_q := 6) (st_q := [.int 2, .int z3575]) rfl rfl rfl ?_
              refine sf_R_idiv pm_M73 (pc_q := 7) rfl rfl B3577 sf_k2 (by decide) (by decide) (fun z3578 e3579 B3580 => ?_)
              refine pm_R_lo pm_M73 (pc_q := 8) rfl rfl rfl ?_
              refine sf_R_iadd pm_M73 (pc_q := 9) rfl rfl B3580 Ba1 (by decide) (by decide) (fun z3581 e3582 B3583 => ?_)
              refine pm_R_ret pm_M73 (r := some (.int z3581)) rfl (pm_ret_i _) ?_
              show pm_R _ 86 53 [.ref b, .ref 34, .int a1, .int a2, .int x4_2333, .int x5_3515, .int z3569, g7_3515, g8_3515, g9_3515] [.int z3581] _ _
              refine pm_R_op pm_M86 (pc_q := 55) (st_q := [.int 6, .int z3581]) rfl rfl rfl ?_
              refine sf_R_imul pm_M86 (pc_q := 56) rfl rfl B3583 sf_k6 (by decide) (by decide) (by decide) (fun z3584 e3585 B3586 => ?_)
              refine pm_R_lo pm_M86 (pc_q := 57) rfl rfl rfl ?_
              refine pm_R_get pm_M86 (pc_q := 60) (v := .ref lo) rfl rfl X_3515 (G.ge hk (by decide)) (T_3515.al hk (by decide)) rfl rfl ?_
              refine pm_R_get pm_M86 (pc_q := 63) (v := .ref (lo + 3)) rfl rfl (T_3515.im hkl (by decide) (by decide) eE3531) (G.ge hkl (by decide)) (T_3515.al hkl (by decide)) rfl rfl ?_
              refine pm_R_lo pm_M86 (pc_q := 65) rfl rfl rfl ?_
              refine pm_R_op pm_M86 (pc_q := 66) (st_q := [.int 4, .int x5_3515, .ref (lo + 3), .int z3584]) rfl rfl rfl ?_
              refine sf_R_imulV pm_M86 (pc_q := 67) rfl rfl B3545 sf_k4 (by decide) (by decide) (by decide) e3563 ?_
              refine pm_R_op pm_M86 (pc_q := 68) (st_q := [.int 1, .int z3562, .ref (lo + 3), .int z3584]) rfl rfl rfl ?_
              refine sf_R_iadd pm_M86 (pc_q := 69) rfl rfl B3564 sf_k1 (by decide) (by decide) (fun z3587 e3588 B3589 => ?_)
              have q3593 := cl_in4 (n := rc3520) (Nat.le_trans h3528 (by decide)) (Int32.not_le.mp c3541) (cl_aux7 _ _ _ e3563 e3588) B3545 (by decide) (by decide)
              obtain ⟨z3590, ez3591⟩ : ∃ y, fr3525 (Int32.toNatClampNeg z3587) = y := ⟨_, rfl⟩
              have B3592 : sf_B 0 5 z3590 := ez3591 ▸ q3593.2.2 ▸ (b3537 _ q3593.2.1).2.1
              refine pm_R_iald pm_M86 (pc_q := 70) (v := z3590) rfl (T_3515.im kq3540.2.2.1 (by decide) (by decide) eE3534) (T_3515.al kq3540.2.2.1 (by decide)) q3593.1 ez3591 rfl ?_
              refine sf_R_iadd pm_M86 (pc_q := 71) rfl rfl B3586 B3592 (by decide) (by decide) (fun z3594 e3595 B3596 => ?_)
              refine pm_R_lo pm_M86 (pc_q := 73) (ls_q := [.ref b, .ref 34, .int a1, .int a2, .int x4_2333, .int x5_3515, .int z3569, .int z3594, g8_3515, g9_3515]) (st_q := []) rfl rfl rfl ?_
              refine pm_R_lo pm_M86 (pc_q := 75) rfl rfl rfl ?_
              refine pm_R_op pm_M86 (pc_q := 76) (st_q := [.int 1, .int x4_2333]) rfl rfl rfl ?_
              refine sf_R_iaddV pm_M86 (pc_q := 77) rfl rfl B2338 sf_k1 (by decide) (by decide) e3573 ?_
              refine pm_R_lo pm_M86 (pc_q := 78) rfl rfl rfl ?_
              refine pm_R_cs pm_M86 (pc_q := 81) (ra := [.int a2, .int z3572]) (rest := []) (ls_q := [.int z3572, .int a2]) rfl rfl (Or.inr rfl) pm_M73 rfl rfl (Nat.le_of_ble_eq_true rfl) rfl rfl ?_
              refine pm_R_lo pm_M73 (pc_q := 1) rfl rfl rfl ?_
              refine pm_R_lo pm_M73 (pc_q := 2) rfl rfl rfl ?_
              refine pm_R_op pm_M73 (pc_q := 3) (st_q := [.int 1, .int a2, .int a2]) rfl rfl rfl ?_
              refine sf_R_iaddV pm_M73 (pc_q := 4) rfl rfl B2339 sf_k1 (by decide) (by decide) e3548 ?_
              refine sf_R_imulV pm_M73 (pc_q := 5) rfl rfl B2339 B3549 (by decide) (by decide) (by decide) e3551 ?_
              refine pm_R_op pm_M73 (pc_q := 6) (st_q := [.int 2, .int z3550]) rfl rfl rfl ?_
              refine sf_R_idiv pm_M73 (pc_q := 7) rfl rfl B3552 sf_k2 (by decide) (by decide) (fun z3597 e3598 B3599 => ?_)
              refine pm_R_lo pm_M73 (pc_q := 8) rfl rfl rfl ?_
              refine sf_R_iadd pm_M73 (pc_q := 9) rfl rfl B3599 B3574 (by decide) (by decide) (fun z3600 e3601 B3602 => ?_)
              refine pm_R_ret pm_M73 (r := some (.int z3600)) rfl (pm_ret_i _) ?_
              show pm_R _ 86 81 [.ref b, .ref 34, .int a1, .int a2, .int x4_2333, .int x5_3515, .int z3569, .int z3594, g8_3515, g9_3515] [.int z3600] _ _
              refine pm_R_op pm_M86 (pc_q := 83) (st_q := [.int 6, .int z3600]) rfl rfl rfl ?_
              refine sf_R_imul pm_M86 (pc_q := 84) rfl rfl B3602 sf_k6 (by decide) (by decide) (by decide) (fun z3603 e3604 B3605 => ?_)
              refine pm_R_lo pm_M86 (pc_q := 85) rfl rfl rfl ?_
              refine pm_R_get pm_M86 (pc_q := 88) (v := .ref lo) rfl rfl X_3515 (G.ge hk (by decide)) (T_3515.al hk (by decide)) rfl rfl ?_
              refine pm_R_get pm_M86 (pc_q := 91) (v := .ref (lo + 3)) rfl rfl (T_3515.im hkl (by decide) (by decide) eE3531) (G.ge hkl (by decide)) (T_3515.al hkl (by decide)) rfl rfl ?_
              refine pm_R_lo pm_M86 (pc_q := 93) rfl rfl rfl ?_
              refine pm_R_op pm_M86 (pc_q := 94) (st_q := [.int 4, .int x5_3515, .ref (lo + 3), .int z3603]) rfl rfl rfl ?_
              refine sf_R_imulV pm_M86 (pc_q := 95) rfl rfl B3545 sf_k4 (by decide) (by decide) (by decide) e3563 ?_
              refine pm_R_op pm_M86 (pc_q := 96) (st_q := [.int 2, .int z3562, .ref (lo + 3), .int z3603]) rfl rfl rfl ?_
              refine sf_R_iadd pm_M86 (pc_q := 97) rfl rfl B3564 sf_k2 (by decide) (by decide) (fun z3606 e3607 B3608 => ?_)
              have q3612 := cl_in4 (n := rc3520) (Nat.le_trans h3528 (by decide)) (Int32.not_le.mp c3541) (cl_aux6 _ _ _ e3563 e3607) B3545 (by decide) (by decide)
              obtain ⟨z3609, ez3610⟩ : ∃ y, fr3525 (Int32.toNatClampNeg z3606) = y := ⟨_, rfl⟩
              have B3611 : sf_B 0 5 z3609 := ez3610 ▸ q3612.2.2 ▸ (b3537 _ q3612.2.1).2.2
              refine pm_R_iald pm_M86 (pc_q := 98) (v := z3609) rfl (T_3515.im kq3540.2.2.1 (by decide) (by decide) eE3534) (T_3515.al kq3540.2.2.1 (by decide)) q3612.1 ez3610 rfl ?_
              refine sf_R_iadd pm_M86 (pc_q := 99) rfl rfl B3605 B3611 (by decide) (by decide) (fun z3613 e3614 B3615 => ?_)
              refine pm_R_lo pm_M86 (pc_q := 101) (ls_q := [.ref b, .ref 34, .int a1, .int a2, .int x4_2333, .int x5_3515, .int z3569, .int z3594, .int z3613, g9_3515]) (st_q := []) rfl rfl rfl ?_
              refine pm_R_lo pm_M86 (pc_q := 102) (pm_q86_1 (Nat.le_of_ble_eq_true rfl)) rfl rfl ?_
              refine pm_R_get pm_M86 (pc_q := 105) (v := .ref lo) (pm_q86_1 (Nat.le_of_ble_eq_true rfl)) rfl X_3515 (G.ge hk (by decide)) (T_3515.al hk (by decide)) rfl rfl ?_
              refine pm_R_get pm_M86 (pc_q := 108) (v := .ref (lo + 3)) (pm_q86_1 (Nat.le_of_ble_eq_true rfl)) rfl (T_3515.im hkl (by decide) (by decide) eE3531) (G.ge hkl (by decide)) (T_3515.al hkl (by decide)) rfl rfl ?_
              refine pm_R_lo pm_M86 (pc_q := 110) (pm_q86_1 (Nat.le_of_ble_eq_true rfl)) rfl rfl ?_
              refine pm_R_op pm_M86 (pc_q := 111) (st_q := [.int 4, .int x5_3515, .ref (lo + 3)]) (pm_q86_1 (Nat.le_of_ble_eq_true rfl)) rfl rfl ?_
              refine sf_R_imulV pm_M86 (pc_q := 112) (pm_q86_1 (Nat.le_of_ble_eq_true rfl)) rfl B3545 sf_k4 (by decide) (by decide) (by decide) e3563 ?_
              refine pm_R_op pm_M86 (pc_q := 113) (st_q := [.int 3, .int z3562, .ref (lo + 3)]) (pm_q86_1 (Nat.le_of_ble_eq_true rfl)) rfl rfl ?_
              refine sf_R_iadd pm_M86 (pc_q := 114) (pm_q86_1 (Nat.le_of_ble_eq_true rfl)) rfl B3564 sf_k3 (by decide) (by decide) (fun z3616 e3617 B3618 => ?_)
              have q3622 := cl_in4 (n := rc3520) (Nat.le_trans h3528 (by decide)) (Int32.not_le.mp c3541) (cl_aux9 _ _ _ e3563 e3617) B3545 (by decide) (by decide)
              obtain ⟨z3619, ez3620⟩ : ∃ y, fr3525 (Int32.toNatClampNeg z3616) = y := ⟨_, rfl⟩
              refine pm_R_iald pm_M86 (pc_q := 115) (v := z3619) (pm_q86_1 (Nat.le_of_ble_eq_true rfl)) (T_3515.im kq3540.2.2.1 (by decide) (by decide) eE3534) (T_3515.al kq3540.2.2.1 (by decide)) q3622.1 ez3620 rfl ?_
              refine pm_R_lo pm_M86 (pc_q := 117) (ls_q := [.ref b, .ref 34, .int a1, .int a2, .int x4_2333, .int x5_3515, .int z3569, .int z3594, .int z3613, .int z3619]) (st_q := []) (pm_q86_1 (Nat.le_of_ble_eq_true rfl)) rfl rfl ?_
              refine pm_R_lo pm_M86 (pc_q := 118) (pm_q86_1 (Nat.le_of_ble_eq_true rfl)) rfl rfl ?_
              refine pm_R_lo pm_M86 (pc_q := 120) (pm_q86_1 (Nat.le_of_ble_eq_true rfl)) rfl rfl ?_
              obtain ⟨f3626, e3627⟩ := T_3515.C 34 (by decide) (by decide)
              obtain ⟨z3623, ez3624⟩ : ∃ y, f3626 (Int32.toNatClampNeg z3594) = y := ⟨_, rfl⟩
              refine pm_R_lald pm_M86 (pc_q := 121) (v := z3623) (pm_q86_1 (Nat.le_of_ble_eq_true rfl)) e3627 (by decide) (T_3515.lt (by decide)) (sf_in B3596 (by decide) (by decide)) ez3624 rfl ?_
              refine pm_R_op pm_M86 (pc_q := 122) (st_q := [.long 0, .long z3623]) (pm_q86_1 (Nat.le_of_ble_eq_true rfl)) rfl rfl ?_
              refine sf_R_lcmp pm_M86 (pc_q := 123) (pm_q86_1 (Nat.le_of_ble_eq_true rfl)) rfl (fun z3629 e3630 => ?_)
              refine pm_R_ifc pm_M86 (t := 222) (pc_q := 126) (pm_q86_1 (Nat.le_of_ble_eq_true rfl)) rfl rfl (fun c3631 => ?_) (fun c3631 => ?_)
              · have B3632 : sf_B 0 0 z3629 := sf_eqL c3631 sf_k0
                have B3633 : lf_B 0 0 z3623 := lf_eqB e3630 B3632 (⟨by decide, by decide⟩ : lf_B 0 0 0)
                refine sf_R_iinc pm_M86 (pc_q := 225) (ls_q := fun z => [.ref b, .ref 34, .int a1, .int a2, .int x4_2333, .int z, .int z3569, .int z3594, .int z3613, .int z3619]) (pm_q86_2 (Nat.le_of_ble_eq_true rfl)) B3545 rfl (by decide) (by decide) (by decide) (fun _ => rfl) rfl (fun z3634 e3635 B3636 => ?_)
                show pm_R _ 86 225 [.ref b, .ref 34, .int a1, .int a2, .int x4_2333, .int z3634, .int z3569, .int z3594, .int z3613, .int z3619] [] _ _
                refine pm_R_br pm_M86 (pc_q := 12) (pm_q86_2 (Nat.le_of_ble_eq_true rfl)) rfl ?_
                exact ih_3515 _ (sf_up hN_3515 e3635 B3545 (by decide) (by decide)) h_3515 m_3515 z3634 (.int z3569) (.int z3594) (.int z3613) (.int z3619) T_3515 F_3515 W_3515 (sf_weak B3636 (by decide) (by decide)) rfl rfl rfl rfl X_3515 rfl
              · have k3637 := sf_lneC e3630 c3631
                refine pm_R_lo pm_M86 (pc_q := 127) (pm_q86_1 (Nat.le_of_ble_eq_true rfl)) rfl rfl ?_
                refine pm_R_lo pm_M86 (pc_q := 129) (pm_q86_1 (Nat.le_of_ble_eq_true rfl)) rfl rfl ?_
                obtain ⟨z3638, ez3639⟩ : ∃ y, f3626 (Int32.toNatClampNeg z3613) = y := ⟨_, rfl⟩
                refine pm_R_lald pm_M86 (pc_q := 130) (v := z3638) (pm_q86_1 (Nat.le_of_ble_eq_true rfl)) e3627 (by decide) (T_3515.lt (by decide)) (sf_in B3615 (by decide) (by decide)) ez3639 rfl ?_
                refine pm_R_op pm_M86 (pc_q := 131) (st_q := [.long 0, .long z3638]) (pm_q86_1 (Nat.le_of_ble_eq_true rfl)) rfl rfl ?_
                refine sf_R_lcmp pm_M86 (pc_q := 132) (pm_q86_1 (Nat.le_of_ble_eq_true rfl)) rfl (fun z3641 e3642 => ?_)
                refine pm_R_ifc pm_M86 (t := 138) (pc_q := 135) (pm_q86_1 (Nat.le_of_ble_eq_true rfl)) rfl rfl (fun c3643 => ?_) (fun c3643 => ?_)
                · have k3644 := sf_lneC e3642 c3643
                  refine pm_R_lo pm_M86 (pc_q := 140) (pm_q86_1 (Nat.le_of_ble_eq_true rfl)) rfl rfl ?_
                  refine pm_R_op pm_M86 (pc_q := 141) (st_q := [.int 2, .int z3619]) (pm_q86_1 (Nat.le_of_ble_eq_true rfl)) rfl rfl ?_
                  refine pm_R_icmp pm_M86 (t := 150) (pc_q := 144) (pm_q86_1 (Nat.le_of_ble_eq_true rfl)) rfl rfl (fun c3645 => ?_) (fun c3645 => ?_)
                  · have B3646 : sf_B 2 2 z3619 := sf_eqL c3645 sf_k2
                    refine pm_R_lo pm_M86 (pc_q := 151) (pm_q86_1 (Nat.le_of_ble_eq_true rfl)) rfl rfl ?_
                    refine pm_R_lo pm_M86 (pc_q := 153) (pm_q86_1 (Nat.le_of_ble_eq_true rfl)) rfl rfl ?_
                    refine pm_R_lo pm_M86 (pc_q := 155) (pm_q86_1 (Nat.le_of_ble_eq_true rfl)) rfl rfl ?_
                    refine pm_R_op pm_M86 (pc_q := 157) (st_q := [.int 50, .int z3569, .int z3619, .ref b]) (pm_q86_1 (Nat.le_of_ble_eq_true rfl)) rfl rfl ?_
                    refine sf_R_imul pm_M86 (pc_q := 158) (pm_q86_1 (Nat.le_of_ble_eq_true rfl)) rfl B3571 sf_k50 (by decide) (by decide) (by decide) (fun z3647 e3648 B3649 => ?_)
                    refine pm_R_lo pm_M86 (pc_q := 160) (pm_q86_1 (Nat.le_of_ble_eq_true rfl)) rfl rfl ?_
                    refine pm_R_op pm_M86 (pc_q := 162) (st_q := [.int 50, .int z3594, .int z3647, .int z3619, .ref b]) (pm_q86_1 (Nat.le_of_ble_eq_true rfl)) rfl rfl ?_
                    refine sf_R_imul pm_M86 (pc_q := 163) (pm_q86_1 (Nat.le_of_ble_eq_true rfl)) rfl B3596 sf_k50 (by decide) (by decide) (by decide) (fun z3650 e3651 B3652 => ?_)
                    refine pm_R_lo pm_M86 (pc_q := 165) (pm_q86_1 (Nat.le_of_ble_eq_true rfl)) rfl rfl ?_
                    refine pm_R_op pm_M86 (pc_q := 167) (st_q := [.int 50, .int z3613, .int z3650, .int z3647, .int z3619, .ref b]) (pm_q86_1 (Nat.le_of_ble_eq_true rfl)) rfl rfl ?_
                    refine sf_R_imul pm_M86 (pc_q := 168) (pm_q86_1 (Nat.le_of_ble_eq_true rfl)) rfl B3615 sf_k50 (by decide) (by decide) (by decide) (fun z3653 e3654 B3655 => ?_)
                    refine pm_R_cv pm_M86 (pc_q := 171) (a := b) (ra := [.int z3653, .int z3650, .int z3647, .int z3619]) (rest := []) (ls_q := [.ref b, .int z3619, .int z3647, .int z3650, .int z3653, pm_no, pm_no, pm_no, pm_no, pm_no, pm_no, pm_no, pm_no, pm_no, pm_no]) (pm_q86_1 (Nat.le_of_ble_eq_true rfl)) rfl (Or.inl rfl) pm_M87 X_3515 rfl (G.ge hk (by decide)) (T_3515.al hk (by decide)) rfl rfl (Nat.le_of_ble_eq_true rfl) rfl rfl ?_
                    refine cl_c87 (d := d + 0) G T_3515 hk B3649 (sf_weak B3652 (by decide) (by decide)) (sf_weak B3655 (by decide) (by decide)) X_3515 hkl hkr (fun m3658 h3659 T3660 F3661 W3662 X3663 => ?_)
                    have F3664 := F_3515.trans (N := 0) (S := 0) F3661 (by decide) (by decide) (by decide)
                    have W3665 : rf_W [] m m3658 := W3518.trans W3662 (by decide)
                    have W3666 : rf_W [] m m3658 := W3519.trans W3662 (by decide)
                    have W3667 : rf_W [] m_2333 m3658 := W_3515.trans W3662 (by decide)
                    show pm_R _ 86 171 [.ref b, .ref 34, .int a1, .int a2, .int x4_2333, .int x5_3515, .int z3569, .int z3594, .int z3613, .int z3619] [] _ _
                    refine pm_R_br pm_M86 (pc_q := 222) (pm_q86_1 (Nat.le_of_ble_eq_true rfl)) rfl ?_
                    refine sf_R_iinc pm_M86 (pc_q := 225) (ls_q := fun z => [.ref b, .ref 34, .int a1, .int a2, .int x4_2333, .int z, .int z3569, .int z3594, .int z3613, .int z3619]) (pm_q86_2 (Nat.le_of_ble_eq_true rfl)) B3545 rfl (by decide) (by decide) (by decide) (fun _ => rfl) rfl (fun z3668 e3669 B3670 => ?_)
                    show pm_R _ 86 225 [.ref b, .ref 34, .int a1, .int a2, .int x4_2333, .int z3668, .int z3569, .int z3594, .int z3613, .int z3619] [] _ _
                    refine pm_R_br pm_M86 (pc_q := 12) (pm_q86_2 (Nat.le_of_ble_eq_true rfl)) rfl ?_
                    exact ih_3515 _ (sf_up hN_3515 e3669 B3545 (by decide) (by decide)) h3659 m3658 z3668 (.int z3569) (.int z3594) (.int z3613) (.int z3619) T3660 F3664 W3667 (sf_weak B3670 (by decide) (by decide)) rfl rfl rfl rfl X3663 rfl
                  · skip
                    refine pm_R_lo pm_M86 (pc_q := 146) (pm_q86_1 (Nat.le_of_ble_eq_true rfl)) rfl rfl ?_
                    refine pm_R_op pm_M86 (pc_q := 147) (st_q := [.int 3, .int z3619]) (pm_q86_1 (Nat.le_of_ble_eq_true rfl)) rfl rfl ?_
                    refine pm_R_icmp pm_M86 (t := 174) (pc_q := 150) (pm_q86_1 (Nat.le_of_ble_eq_true rfl)) rfl rfl (fun c3671 => ?_) (fun c3671 => ?_)
                    · skip
                      refine pm_R_lo pm_M86 (pc_q := 176) (pm_q86_1 (Nat.le_of_ble_eq_true rfl)) rfl rfl ?_
                      refine pm_R_ifc pm_M86 (t := 202) (pc_q := 179) (pm_q86_1 (Nat.le_of_ble_eq_true rfl)) rfl rfl (fun c3672 => ?_) (fun c3672 => ?_)
                      · skip
                        refine pm_R_lo pm_M86 (pc_q := 203) (pm_q86_1 (Nat.le_of_ble_eq_true rfl)) rfl rfl ?_
                        refine pm_R_lo pm_M86 (pc_q := 205) (pm_q86_1 (Nat.le_of_ble_eq_true rfl)) rfl rfl ?_
                        refine pm_R_lo pm_M86 (pc_q := 207) (pm_q86_1 (Nat.le_of_ble_eq_true rfl)) rfl rfl ?_
                        refine pm_R_op pm_M86 (pc_q := 209) (st_q := [.int 50, .int z3569, .int z3619, .ref b]) (pm_q86_2 (Nat.le_of_ble_eq_true rfl)) rfl rfl ?_
                        refine sf_R_imul pm_M86 (pc_q := 210) (pm_q86_2 (Nat.le_of_ble_eq_true rfl)) rfl B3571 sf_k50 (by decide) (by decide) (by decide) (fun z3673 e3674 B3675 => ?_)
                        refine pm_R_lo pm_M86 (pc_q := 212) (pm_q86_2 (Nat.le_of_ble_eq_true rfl)) rfl rfl ?_
                        refine pm_R_op pm_M86 (pc_q := 214) (st_q := [.int 50, .int z3613, .int z3673, .int z3619, .ref b]) (pm_q86_2 (Nat.le_of_ble_eq_true rfl)) rfl rfl ?_
                        refine sf_R_imul pm_M86 (pc_q := 215) (pm_q86_2 (Nat.le_of_ble_eq_true rfl)) rfl B3615 sf_k50 (by decide) (by decide) (by decide) (fun z3676 e3677 B3678 => ?_)
                        refine pm_R_lo pm_M86 (pc_q := 216) (pm_q86_2 (Nat.le_of_ble_eq_true rfl)) rfl rfl ?_
                        refine pm_R_lo pm_M86 (pc_q := 218) (pm_q86_2 (Nat.le_of_ble_eq_true rfl)) rfl rfl ?_
                        refine pm_R_lald pm_M86 (pc_q := 219) (v := z3623) (pm_q86_2 (Nat.le_of_ble_eq_true rfl)) e3627 (by decide) (T_3515.lt (by decide)) (sf_in B3596 (by decide) (by decide)) ez3624 rfl ?_
                        refine pm_R_cv pm_M86 (pc_q := 222) (a := b) (ra := [.long z3623, .int z3676, .int z3673, .int z3619]) (rest := []) (ls_q := [.ref b, .int z3619, .int z3673, .int z3676, .long z3623, pm_no, pm_no, pm_no]) (pm_q86_2 (Nat.le_of_ble_eq_true rfl)) rfl (Or.inl rfl) pm_M89 X_3515 rfl (G.ge hk (by decide)) (T_3515.al hk (by decide)) rfl rfl (Nat.le_of_ble_eq_true rfl) rfl rfl ?_
                        refine cl_c89 (d := d + 0) G T_3515 hk B3675 (sf_weak B3678 (by decide) (by decide)) X_3515 hkl hkr (fun m3684 h3685 T3686 F3687 W3688 X3689 => ?_)
                        have F3690 := F_3515.trans (N := 0) (S := 0) F3687 (by decide) (by decide) (by decide)
                        have W3691 : rf_W [] m m3684 := W3518.trans W3688 (by decide)
                        have W3692 : rf_W [] m m3684 := W3519.trans W3688 (by decide)
                        have W3693 : rf_W [] m_2333 m3684 := W_3515.trans W3688 (by decide)
                        show pm_R _ 86 222 [.ref b, .ref 34, .int a1, .int a2, .int x4_2333, .int x5_3515, .int z3569, .int z3594, .int z3613, .int z3619] [] _ _
                        refine sf_R_iinc pm_M86 (pc_q := 225) (ls_q := fun z => [.ref b, .ref 34, .int a1, .int a2, .int x4_2333, .int z, .int z3569, .int z3594, .int z3613, .int z3619]) (pm_q86_2 (Nat.le_of_ble_eq_true rfl)) B3545 rfl (by decide) (by decide) (by decide) (fun _ => rfl) rfl (fun z3694 e3695 B3696 => ?_)
                        show pm_R _ 86 225 [.ref b, .ref 34, .int a1, .int a2, .int x4_2333, .int z3694, .int z3569, .int z3594, .int z3613, .int z3619] [] _ _
                        refine pm_R_br pm_M86 (pc_q := 12) (pm_q86_2 (Nat.le_of_ble_eq_true rfl)) rfl ?_
                        exact ih_3515 _ (sf_up hN_3515 e3695 B3545 (by decide) (by decide)) h3685 m3684 z3694 (.int z3569) (.int z3594) (.int z3613) (.int z3619) T3686 F3690 W3693 (sf_weak B3696 (by decide) (by decide)) rfl rfl rfl rfl X3689 rfl
                      · have B3697 : sf_B 0 0 z3619 := sf_eqL (Classical.not_not.mp c3672) sf_k0
                        refine pm_R_lo pm_M86 (pc_q := 180) (pm_q86_1 (Nat.le_of_ble_eq_true rfl)) rfl rfl ?_
                        refine pm_R_lo pm_M86 (pc_q := 182) (pm_q86_1 (Nat.le_of_ble_eq_true rfl)) rfl rfl ?_
                        refine pm_R_lo pm_M86 (pc_q := 184) (pm_q86_1 (Nat.le_of_ble_eq_true rfl)) rfl rfl ?_
                        refine pm_R_op pm_M86 (pc_q := 186) (st_q := [.int 50, .int z3569, .int z3619, .ref b]) (pm_q86_1 (Nat.le_of_ble_eq_true rfl)) rfl rfl ?_
                        refine sf_R_imul pm_M86 (pc_q := 187) (pm_q86_1 (Nat.le_of_ble_eq_true rfl)) rfl B3571 sf_k50 (by decide) (by decide) (by decide) (fun z3698 e3699 B3700 => ?_)
                        refine pm_R_lo pm_M86 (pc_q := 189) (pm_q86_1 (Nat.le_of_ble_eq_true rfl)) rfl rfl ?_
                        refine pm_R_op pm_M86 (pc_q := 191) (st_q := [.int 50, .int z3594, .int z3698, .int z3619, .ref b]) (pm_q86_1 (Nat.le_of_ble_eq_true rfl)) rfl rfl ?_
                        refine sf_R_imul pm_M86 (pc_q := 192) (pm_q86_1 (Nat.le_of_ble_eq_true rfl)) rfl B3596 sf_k50 (by decide) (by decide) (by decide) (fun z3701 e3702 B3703 => ?_)
                        refine pm_R_lo pm_M86 (pc_q := 193) (pm_q86_1 (Nat.le_of_ble_eq_true rfl)) rfl rfl ?_
                        refine pm_R_lo pm_M86 (pc_q := 195) (pm_q86_1 (Nat.le_of_ble_eq_true rfl)) rfl rfl ?_
                        refine pm_R_lald pm_M86 (pc_q := 196) (v := z3638) (pm_q86_1 (Nat.le_of_ble_eq_true rfl)) e3627 (by decide) (T_3515.lt (by decide)) (sf_in B3615 (by decide) (by decide)) ez3639 rfl ?_
                        refine pm_R_cv pm_M86 (pc_q := 199) (a := b) (ra := [.long z3638, .int z3701, .int z3698, .int z3619]) (rest := []) (ls_q := [.ref b, .int z3619, .int z3698, .int z3701, .long z3638, pm_no, pm_no, pm_no]) (pm_q86_1 (Nat.le_of_ble_eq_true rfl)) rfl (Or.inl rfl) pm_M89 X_3515 rfl (G.ge hk (by decide)) (T_3515.al hk (by decide)) rfl rfl (Nat.le_of_ble_eq_true rfl) rfl rfl ?_
                        refine cl_c89 (d := d + 0) G T_3515 hk B3700 (sf_weak B3703 (by decide) (by decide)) X_3515 hkl hkr (fun m3709 h3710 T3711 F3712 W3713 X3714 => ?_)
                        have F3715 := F_3515.trans (N := 0) (S := 0) F3712 (by decide) (by decide) (by decide)
                        have W3716 : rf_W [] m m3709 := W3518.trans W3713 (by decide)
                        have W3717 : rf_W [] m m3709 := W3519.trans W3713 (by decide)
                        have W3718 : rf_W [] m_2333 m3709 := W_3515.trans W3713 (by decide)
                        show pm_R _ 86 199 [.ref b, .ref 34, .int a1, .int a2, .int x4_2333, .int x5_3515, .int z3569, .int z3594, .int z3613, .int z3619] [] _ _
                        refine pm_R_br pm_M86 (pc_q := 222) (pm_q86_1 (Nat.le_of_ble_eq_true rfl)) rfl ?_
                        refine sf_R_iinc pm_M86 (pc_q := 225) (ls_q := fun z => [.ref b, .ref 34, .int a1, .int a2, .int x4_2333, .int z, .int z3569, .int z3594, .int z3613, .int z3619]) (pm_q86_2 (Nat.le_of_ble_eq_true rfl)) B3545 rfl (by decide) (by decide) (by decide) (fun _ => rfl) rfl (fun z3719 e3720 B3721 => ?_)
                        show pm_R _ 86 225 [.ref b, .ref 34, .int a1, .int a2, .int x4_2333, .int z3719, .int z3569, .int z3594, .int z3613, .int z3619] [] _ _
                        refine pm_R_br pm_M86 (pc_q := 12) (pm_q86_2 (Nat.le_of_ble_eq_true rfl)) rfl ?_
                        exact ih_3515 _ (sf_up hN_3515 e3720 B3545 (by decide) (by decide)) h3710 m3709 z3719 (.int z3569) (.int z3594) (.int z3613) (.int z3619) T3711 F3715 W3718 (sf_weak B3721 (by decide) (by decide)) rfl rfl rfl rfl X3714 rfl
                    · have B3722 : sf_B 3 3 z3619 := sf_eqL (Classical.not_not.mp c3671) sf_k3
                      refine pm_R_lo pm_M86 (pc_q := 151) (pm_q86_1 (Nat.le_of_ble_eq_true rfl)) rfl rfl ?_
                      refine pm_R_lo pm_M86 (pc_q := 153) (pm_q86_1 (Nat.le_of_ble_eq_true rfl)) rfl rfl ?_
                      refine pm_R_lo pm_M86 (pc_q := 155) (pm_q86_1 (Nat.le_of_ble_eq_true rfl)) rfl rfl ?_
                      refine pm_R_op pm_M86 (pc_q := 157) (st_q := [.int 50, .int z3569, .int z3619, .ref b]) (pm_q86_1 (Nat.le_of_ble_eq_true rfl)) rfl rfl ?_
                      refine sf_R_imul pm_M86 (pc_q := 158) (pm_q86_1 (Nat.le_of_ble_eq_true rfl)) rfl B3571 sf_k50 (by decide) (by decide) (by decide) (fun z3723 e3724 B3725 => ?_)
                      refine pm_R_lo pm_M86 (pc_q := 160) (pm_q86_1 (Nat.le_of_ble_eq_true rfl)) rfl rfl ?_
                      refine pm_R_op pm_M86 (pc_q := 162) (st_q := [.int 50, .int z3594, .int z3723, .int z3619, .ref b]) (pm_q86_1 (Nat.le_of_ble_eq_true rfl)) rfl rfl ?_
                      refine sf_R_imul pm_M86 (pc_q := 163) (pm_q86_1 (Nat.le_of_ble_eq_true rfl)) rfl B3596 sf_k50 (by decide) (by decide) (by decide) (fun z3726 e3727 B3728 => ?_)
                      refine pm_R_lo pm_M86 (pc_q := 165) (pm_q86_1 (Nat.le_of_ble_eq_true rfl)) rfl rfl ?_
                      refine pm_R_op pm_M86 (pc_q := 167) (st_q := [.int 50, .int z3613, .int z3726, .int z3723, .int z3619, .ref b]) (pm_q86_1 (Nat.le_of_ble_eq_true rfl)) rfl rfl ?_
                      refine sf_R_imul pm_M86 (pc_q := 168) (pm_q86_1 (Nat.le_of_ble_eq_true rfl)) rfl B3615 sf_k50 (by decide) (by decide) (by decide) (fun z3729 e3730 B3731 => ?_)
                      refine pm_R_cv pm_M86 (pc_q := 171) (a := b) (ra := [.int z3729, .int z3726, .int z3723, .int z3619]) (rest := []) (ls_q := [.ref b, .int z3619, .int z3723, .int z3726, .int z3729, pm_no, pm_no, pm_no, pm_no, pm_no, pm_no, pm_no, pm_no, pm_no, pm_no]) (pm_q86_1 (Nat.le_of_ble_eq_true rfl)) rfl (Or.inl rfl) pm_M87 X_3515 rfl (G.ge hk (by decide)) (T_3515.al hk (by decide)) rfl rfl (Nat.le_of_ble_eq_true rfl) rfl rfl ?_
                      refine cl_c87 (d := d + 0) G T_3515 hk B3725 (sf_weak B3728 (by decide) (by decide)) (sf_weak B3731 (by decide) (by decide)) X_3515 hkl hkr (fun m3734 h3735 T3736 F3737 W3738 X3739 => ?_)
                      have F3740 := F_3515.trans (N := 0) (S := 0) F3737 (by decide) (by decide) (by decide)
                      have W3741 : rf_W [] m m3734 := W3518.trans W3738 (by decide)
                      have W3742 : rf_W [] m m3734 := W3519.trans W3738 (by decide)
                      have W3743 : rf_W [] m_2333 m3734 := W_3515.trans W3738 (by decide)
                      show pm_R _ 86 171 [.ref b, .ref 34, .int a1, .int a2, .int x4_2333, .int x5_3515, .int z3569, .int z3594, .int z3613, .int z3619] [] _ _
                      refine pm_R_br pm_M86 (pc_q := 222) (pm_q86_1 (Nat.le_of_ble_eq_true rfl)) rfl ?_
                      refine sf_R_iinc pm_M86 (pc_q := 225) (ls_q := fun z => [.ref b, .ref 34, .int a1, .int a2, .int x4_2333, .int z, .int z3569, .int z3594, .int z3613, .int z3619]) (pm_q86_2 (Nat.le_of_ble_eq_true rfl)) B3545 rfl (by decide) (by decide) (by decide) (fun _ => rfl) rfl (fun z3744 e3745 B3746 => ?_)
                      show pm_R _ 86 225 [.ref b, .ref 34, .int a1, .int a2, .int x4_2333, .int z3744, .int z3569, .int z3594, .int z3613, .int z3619] [] _ _
                      refine pm_R_br pm_M86 (pc_q := 12) (pm_q86_2 (Nat.le_of_ble_eq_true rfl)) rfl ?_
                      exact ih_3515 _ (sf_up hN_3515 e3745 B3545 (by decide) (by decide)) h3735 m3734 z3744 (.int z3569) (.int z3594) (.int z3613) (.int z3619) T3736 F3740 W3743 (sf_weak B3746 (by decide) (by decide)) rfl rfl rfl rfl X3739 rfl
                · have B3747 : sf_B 0 0 z3641 := sf_eqL (Classical.not_not.mp c3643) sf_k0
                  have B3748 : lf_B 0 0 z3638 := lf_eqB e3642 B3747 (⟨by decide, by decide⟩ : lf_B 0 0 0)
                  refine pm_R_br pm_M86 (pc_q := 222) (pm_q86_1 (Nat.le_of_ble_eq_true rfl)) rfl ?_
                  refine sf_R_iinc pm_M86 (pc_q := 225) (ls_q := fun z => [.ref b, .ref 34, .int a1, .int a2, .int x4_2333, .int z, .int z3569, .int z3594, .int z3613, .int z3619]) (pm_q86_2 (Nat.le_of_ble_eq_true rfl)) B3545 rfl (by decide) (by decide) (by decide) (fun _ => rfl) rfl (fun z3749 e3750 B3751 => ?_)
                  show pm_R _ 86 225 [.ref b, .ref 34, .int a1, .int a2, .int x4_2333, .int z3749, .int z3569, .int z3594, .int z3613, .int z3619] [] _ _
                  refine pm_R_br pm_M86 (pc_q := 12) (pm_q86_2 (Nat.le_of_ble_eq_true rfl)) rfl ?_
                  exact ih_3515 _ (sf_up hN_3515 e3750 B3545 (by decide) (by decide)) h_3515 m_3515 z3749 (.int z3569) (.int z3594) (.int z3613) (.int z3619) T_3515 F_3515 W_3515 (sf_weak B3751 (by decide) (by decide)) rfl rfl rfl rfl X_3515 rfl
        exact L_3515 _ h_2333 m_2333 0 (g6_2333) (g7_2333) (g8_2333) (g9_2333) T_2333 F_2333 (rf_W.refl _ _) (sf_weak sf_k0 (by decide) (by decide)) Cg6_2333 Cg7_2333 Cg8_2333 Cg9_2333 X_2333 rfl
  exact L_2333 _ h m a1 (pm_no) (pm_no) (pm_no) (pm_no) (pm_no) T (cl_F.refl (ck := ck) (A := []) (n := 0) (s := 0) T.1) (rf_W.refl _ _) Ba1 rfl rfl rfl rfl rfl eW rfl
