set_option maxRecDepth 100000 in
set_option maxHeartbeats 4000000 in
/-- SilentTable.list -/
theorem ev61 {C : Int32 → Int32 → ex_S → Int32 → ex_S → Prop} 
    (v0 : ∀ (a0 : Int32) (a1 : Int32) (S : ex_S), a0 < 0 → C a0 a1 S (-1) S) 
    (v1 : ∀ (a0 : Int32) (a1 : Int32) (S : ex_S), ¬ (a0 < 0) → a0 < S.1 23 0 → ∀ (b6 : Nat), S.2.2.1 19 a0.toNatClampNeg = some b6 → ¬ a1 = 0 → ¬ a1 = 1 → a1 < 10 → C a0 a1 S (-1) S) 
    (v2 : ∀ (a0 : Int32) (a1 : Int32) (S : ex_S), ¬ (a0 < 0) → a0 < S.1 23 0 → ∀ (b6 : Nat), S.2.2.1 19 a0.toNatClampNeg = some b6 → ¬ a1 = 0 → ¬ a1 = 1 → ¬ (a1 < 10) → 20 ≤ a1 → C a0 a1 S (-1) S) 
    (v3 : ∀ (a0 : Int32) (a1 : Int32) (S : ex_S), ¬ (a0 < 0) → a0 < S.1 23 0 → ∀ (b6 : Nat), S.2.2.1 19 a0.toNatClampNeg = some b6 → ¬ a1 = 0 → ¬ a1 = 1 → ¬ (a1 < 10) → ¬ (20 ≤ a1) → ∀ (b11 : Nat), S.2.2.1 b6 4 = some b11 → C a0 a1 S (S.1 b11 ((a1 - 10).toNatClampNeg)) S) 
    (v4 : ∀ (a0 : Int32) (a1 : Int32) (S : ex_S), ¬ (a0 < 0) → a0 < S.1 23 0 → ∀ (b6 : Nat), S.2.2.1 19 a0.toNatClampNeg = some b6 → ¬ a1 = 0 → ¬ (¬ a1 = 1) → C a0 a1 S (S.1 b6 2) S) 
    (v5 : ∀ (a0 : Int32) (a1 : Int32) (S : ex_S), ¬ (a0 < 0) → a0 < S.1 23 0 → ∀ (b6 : Nat), S.2.2.1 19 a0.toNatClampNeg = some b6 → ¬ (¬ a1 = 0) → C a0 a1 S (S.1 b6 0) S) 
    (v6 : ∀ (a0 : Int32) (a1 : Int32) (S : ex_S), ¬ (a0 < 0) → a0 < S.1 23 0 → S.2.2.1 19 a0.toNatClampNeg = none → C a0 a1 S (-1) S) 
    (v7 : ∀ (a0 : Int32) (a1 : Int32) (S : ex_S), ¬ (a0 < 0) → ¬ (a0 < S.1 23 0) → C a0 a1 S (-1) S) : es61 C := by
  intro N d a0 a1 S
  refine ex_lo pm_M61 (pc_q := 1) (ls_q := [.ref 16, .int a0, .int a1, pm_no]) (st_q := [.ref 16]) rfl rfl rfl ?_
  refine ex_lo pm_M61 (pc_q := 2) (ls_q := [.ref 16, .int a0, .int a1, pm_no]) (st_q := [.int a0, .ref 16]) rfl rfl rfl ?_
  refine ex_call pm_M61 (pc_q := 5) (ix := 132) (callee := 62) (np := 1) (kd := 0) (ra := [.int a0, .ref 16]) (rest := []) rfl rfl rfl rfl pm_M62 rfl rfl rfl rfl (fun d1 => ?_)
  refine ex_lo pm_M62 (pc_q := 1) (ls_q := [.ref 16, .int a0]) (st_q := [.int a0]) rfl rfl rfl ?_
  refine ex_ifc pm_M62 (t := 17) (pc_q := 4) rfl rfl rfl (fun c2 => ?_) (fun c2 => ?_)
  · -- a0 < 0
    refine ex_op pm_M62 (pc_q := 18) (st_q := [.null]) rfl rfl rfl ?_
    refine ex_br pm_M62 (pc_q := 30) (st_q := [.null]) rfl rfl ?_
    refine ex_ret pm_M62 (r := some (.null)) rfl rfl ?_
    show ex_P _ _ 61 5 [.ref 16, .int a0, .int a1, pm_no] [.null] S _
    refine ex_lo pm_M61 (pc_q := 6) (ls_q := [.ref 16, .int a0, .int a1, .null]) (st_q := []) rfl rfl rfl ?_
    refine ex_lo pm_M61 (pc_q := 7) (ls_q := [.ref 16, .int a0, .int a1, .null]) (st_q := [.null]) rfl rfl rfl ?_
    refine ex_br pm_M61 (pc_q := 10) (st_q := []) rfl rfl ?_
    refine ex_op pm_M61 (pc_q := 11) (st_q := [.int (-1)]) rfl rfl rfl ?_
    exact ex_retI pm_M61 rfl (⟨_, rfl, v0 a0 a1 S c2⟩)
  · -- not
    refine ex_lo pm_M62 (pc_q := 5) (ls_q := [.ref 16, .int a0]) (st_q := [.int a0]) rfl rfl rfl ?_
    refine ex_lo pm_M62 (pc_q := 6) (ls_q := [.ref 16, .int a0]) (st_q := [.ref 16, .int a0]) rfl rfl rfl ?_
    refine ex_getK pm_M62 (pc_q := 9) (j := 0) (b := 17) rfl rfl rfl rfl rfl ?_
    refine ex_getK pm_M62 (pc_q := 12) (j := 14) (b := 23) rfl rfl rfl rfl rfl ?_
    refine ex_op pm_M62 (pc_q := 13) (st_q := [.int 0, .ref 23, .int a0]) rfl rfl rfl ?_
    refine ex_iald' pm_M62 (pc_q := 14) (v := S.1 23 0) rfl rfl rfl ?_
    refine ex_icmp pm_M62 (t := 21) (pc_q := 17) rfl rfl rfl (fun c4 => ?_) (fun c4 => ?_)
    · -- a0 < S.1 23 0
      refine ex_lo pm_M62 (pc_q := 22) (ls_q := [.ref 16, .int a0]) (st_q := [.ref 16]) rfl rfl rfl ?_
      refine ex_getK pm_M62 (pc_q := 25) (j := 0) (b := 17) rfl rfl rfl rfl rfl ?_
      refine ex_getK pm_M62 (pc_q := 28) (j := 10) (b := 19) rfl rfl rfl rfl rfl ?_
      refine ex_lo pm_M62 (pc_q := 29) (ls_q := [.ref 16, .int a0]) (st_q := [.int a0, .ref 19]) rfl rfl rfl ?_
      refine ex_aald' pm_M62 (pc_q := 30) (v := S.2.2.1 19 a0.toNatClampNeg) rfl rfl rfl ?_
      refine ex_ret pm_M62 (r := some (va_rf (S.2.2.1 19 a0.toNatClampNeg))) rfl (by cases (S.2.2.1 19 a0.toNatClampNeg) <;> rfl) ?_
      show ex_P _ _ 61 5 [.ref 16, .int a0, .int a1, pm_no] [va_rf (S.2.2.1 19 a0.toNatClampNeg)] S _
      refine ex_lo pm_M61 (pc_q := 6) (ls_q := [.ref 16, .int a0, .int a1, va_rf (S.2.2.1 19 a0.toNatClampNeg)]) (st_q := []) rfl (by cases (S.2.2.1 19 a0.toNatClampNeg) <;> rfl) rfl ?_
      refine ex_lo pm_M61 (pc_q := 7) (ls_q := [.ref 16, .int a0, .int a1, va_rf (S.2.2.1 19 a0.toNatClampNeg)]) (st_q := [va_rf (S.2.2.1 19 a0.toNatClampNeg)]) rfl (by cases (S.2.2.1 19 a0.toNatClampNeg) <;> rfl) rfl ?_
      refine ex_ifnn pm_M61 (t := 12) (pc_q := 10) (o := S.2.2.1 19 a0.toNatClampNeg) rfl rfl rfl rfl (fun b6 c5 => ?_) (fun c5 => ?_)
      ·
        refine ex_lo pm_M61 (pc_q := 13) (ls_q := [.ref 16, .int a0, .int a1, va_rf (S.2.2.1 19 a0.toNatClampNeg)]) (st_q := [.int a1]) rfl rfl rfl ?_
        refine ex_ifc pm_M61 (t := 21) (pc_q := 16) rfl rfl rfl (fun c7 => ?_) (fun c7 => ?_)
        · -- ¬ a1 = 0
          refine ex_lo pm_M61 (pc_q := 22) (ls_q := [.ref 16, .int a0, .int a1, va_rf (S.2.2.1 19 a0.toNatClampNeg)]) (st_q := [.int a1]) rfl rfl rfl ?_
          refine ex_op pm_M61 (pc_q := 23) (st_q := [.int 1, .int a1]) rfl rfl rfl ?_
          refine ex_icmp pm_M61 (t := 31) (pc_q := 26) rfl rfl rfl (fun c8 => ?_) (fun c8 => ?_)
          · -- ¬ a1 = 1
            refine ex_lo pm_M61 (pc_q := 32) (ls_q := [.ref 16, .int a0, .int a1, va_rf (S.2.2.1 19 a0.toNatClampNeg)]) (st_q := [.int a1]) rfl rfl rfl ?_
            refine ex_op pm_M61 (pc_q := 34) (st_q := [.int 10, .int a1]) rfl rfl rfl ?_
            refine ex_icmp pm_M61 (t := 55) (pc_q := 37) rfl rfl rfl (fun c9 => ?_) (fun c9 => ?_)
            · -- a1 < 10
              refine ex_op pm_M61 (pc_q := 56) (st_q := [.int (-1)]) rfl rfl rfl ?_
              exact ex_retI pm_M61 rfl (⟨_, rfl, v1 a0 a1 S c2 c4 b6 c5 c7 c8 c9⟩)
            · -- not
              refine ex_lo pm_M61 (pc_q := 38) (ls_q := [.ref 16, .int a0, .int a1, va_rf (S.2.2.1 19 a0.toNatClampNeg)]) (st_q := [.int a1]) rfl rfl rfl ?_
              refine ex_op pm_M61 (pc_q := 40) (st_q := [.int 20, .int a1]) rfl rfl rfl ?_
              refine ex_icmp pm_M61 (t := 55) (pc_q := 43) rfl rfl rfl (fun c10 => ?_) (fun c10 => ?_)
              · -- 20 ≤ a1
                refine ex_op pm_M61 (pc_q := 56) (st_q := [.int (-1)]) rfl rfl rfl ?_
                exact ex_retI pm_M61 rfl (⟨_, rfl, v2 a0 a1 S c2 c4 b6 c5 c7 c8 c9 c10⟩)
              · -- not
                refine ex_lo pm_M61 (pc_q := 44) (ls_q := [.ref 16, .int a0, .int a1, va_rf (S.2.2.1 19 a0.toNatClampNeg)]) (st_q := [va_rf (S.2.2.1 19 a0.toNatClampNeg)]) rfl (by cases (S.2.2.1 19 a0.toNatClampNeg) <;> rfl) rfl ?_
                refine ex_stc (st_q := [.ref b6]) (by rw [(congrArg va_rf c5 : va_rf (S.2.2.1 19 a0.toNatClampNeg) = Value.ref b6)] <;> rfl) ?_
                refine ex_getR' pm_M61 (pc_q := 47) (v := S.2.2.1 b6 4) rfl rfl rfl rfl rfl rfl ?_
                refine ex_lo pm_M61 (pc_q := 48) (ls_q := [.ref 16, .int a0, .int a1, va_rf (S.2.2.1 19 a0.toNatClampNeg)]) (st_q := [.int a1, va_rf (S.2.2.1 b6 4)]) rfl rfl rfl ?_
                refine ex_op pm_M61 (pc_q := 50) (st_q := [.int 10, .int a1, va_rf (S.2.2.1 b6 4)]) rfl rfl rfl ?_
                refine ex_op pm_M61 (pc_q := 51) (st_q := [.int (a1 - 10), va_rf (S.2.2.1 b6 4)]) rfl rfl rfl ?_
                refine ex_oc (o := S.2.2.1 b6 4) (fun c12 => ?_) (fun b11 c12 => ?_)
                · refine ex_stc (st_q := [.int (a1 - 10), .null]) (by rw [(congrArg va_rf c12 : va_rf (S.2.2.1 b6 4) = Value.null)] <;> rfl) ?_
                  exact ex_nul pm_M61 rfl (fun _ => pm_nocall2 rfl) rfl rfl rfl rfl (fun _ _ _ => rfl)
                refine ex_stc (st_q := [.int (a1 - 10), .ref b11]) (by rw [(congrArg va_rf c12 : va_rf (S.2.2.1 b6 4) = Value.ref b11)] <;> rfl) ?_
                refine ex_iald' pm_M61 (pc_q := 52) (v := S.1 b11 ((a1 - 10).toNatClampNeg)) rfl rfl rfl ?_
                refine ex_br pm_M61 (pc_q := 56) (st_q := [.int (S.1 b11 ((a1 - 10).toNatClampNeg))]) rfl rfl ?_
                exact ex_retI pm_M61 rfl (⟨_, rfl, v3 a0 a1 S c2 c4 b6 c5 c7 c8 c9 c10 b11 c12⟩)
          · -- not
            refine ex_lo pm_M61 (pc_q := 27) (ls_q := [.ref 16, .int a0, .int a1, va_rf (S.2.2.1 19 a0.toNatClampNeg)]) (st_q := [va_rf (S.2.2.1 19 a0.toNatClampNeg)]) rfl (by cases (S.2.2.1 19 a0.toNatClampNeg) <;> rfl) rfl ?_
            refine ex_stc (st_q := [.ref b6]) (by rw [(congrArg va_rf c5 : va_rf (S.2.2.1 19 a0.toNatClampNeg) = Value.ref b6)] <;> rfl) ?_
            refine ex_getI' pm_M61 (pc_q := 30) (v := S.1 b6 2) rfl rfl rfl rfl rfl rfl ?_
            exact ex_retI pm_M61 rfl (⟨_, rfl, v4 a0 a1 S c2 c4 b6 c5 c7 c8⟩)
        · -- not
          refine ex_lo pm_M61 (pc_q := 17) (ls_q := [.ref 16, .int a0, .int a1, va_rf (S.2.2.1 19 a0.toNatClampNeg)]) (st_q := [va_rf (S.2.2.1 19 a0.toNatClampNeg)]) rfl (by cases (S.2.2.1 19 a0.toNatClampNeg) <;> rfl) rfl ?_
          refine ex_stc (st_q := [.ref b6]) (by rw [(congrArg va_rf c5 : va_rf (S.2.2.1 19 a0.toNatClampNeg) = Value.ref b6)] <;> rfl) ?_
          refine ex_getI' pm_M61 (pc_q := 20) (v := S.1 b6 0) rfl rfl rfl rfl rfl rfl ?_
          exact ex_retI pm_M61 rfl (⟨_, rfl, v5 a0 a1 S c2 c4 b6 c5 c7⟩)
      ·
        refine ex_op pm_M61 (pc_q := 11) (st_q := [.int (-1)]) rfl rfl rfl ?_
        exact ex_retI pm_M61 rfl (⟨_, rfl, v6 a0 a1 S c2 c4 c5⟩)
    · -- not
      refine ex_op pm_M62 (pc_q := 18) (st_q := [.null]) rfl rfl rfl ?_
      refine ex_br pm_M62 (pc_q := 30) (st_q := [.null]) rfl rfl ?_
      refine ex_ret pm_M62 (r := some (.null)) rfl rfl ?_
      show ex_P _ _ 61 5 [.ref 16, .int a0, .int a1, pm_no] [.null] S _
      refine ex_lo pm_M61 (pc_q := 6) (ls_q := [.ref 16, .int a0, .int a1, .null]) (st_q := []) rfl rfl rfl ?_
      refine ex_lo pm_M61 (pc_q := 7) (ls_q := [.ref 16, .int a0, .int a1, .null]) (st_q := [.null]) rfl rfl rfl ?_
      refine ex_br pm_M61 (pc_q := 10) (st_q := []) rfl rfl ?_
      refine ex_op pm_M61 (pc_q := 11) (st_q := [.int (-1)]) rfl rfl rfl ?_
      exact ex_retI pm_M61 rfl (⟨_, rfl, v7 a0 a1 S c2 c4⟩)
set_option maxRecDepth 100000 in
set_option maxHeartbeats 4000000 in
/-- SilentTable.rule -/
theorem ev63 {C : Int32 → Int32 → Int32 → ex_S → Int32 → ex_S → Prop} 
    (v0 : ∀ (a0 : Int32) (a1 : Int32) (a2 : Int32) (S : ex_S), a0 < 0 → C a0 a1 a2 S (-1) S) 
    (v1 : ∀ (a0 : Int32) (a1 : Int32) (a2 : Int32) (S : ex_S), ¬ (a0 < 0) → a0 < S.1 23 0 → S.2.2.1 19 a0.toNatClampNeg = none → C a0 a1 a2 S (-1) S) 
    (v2 : ∀ (a0 : Int32) (a1 : Int32) (a2 : Int32) (S : ex_S), ¬ (a0 < 0) → a0 < S.1 23 0 → ∀ (b6 : Nat), S.2.2.1 19 a0.toNatClampNeg = some b6 → a1 < 0 → C a0 a1 a2 S (-1) S) 
    (v3 : ∀ (a0 : Int32) (a1 : Int32) (a2 : Int32) (S : ex_S), ¬ (a0 < 0) → a0 < S.1 23 0 → ∀ (b6 : Nat), S.2.2.1 19 a0.toNatClampNeg = some b6 → ¬ (a1 < 0) → S.1 b6 0 ≤ a1 → C a0 a1 a2 S (-1) S) 
    (v4 : ∀ (a0 : Int32) (a1 : Int32) (a2 : Int32) (S : ex_S), ¬ (a0 < 0) → a0 < S.1 23 0 → ∀ (b6 : Nat), S.2.2.1 19 a0.toNatClampNeg = some b6 → ¬ (a1 < 0) → ¬ (S.1 b6 0 ≤ a1) → a2 < 0 → C a0 a1 a2 S (-1) S) 
    (v5 : ∀ (a0 : Int32) (a1 : Int32) (a2 : Int32) (S : ex_S), ¬ (a0 < 0) → a0 < S.1 23 0 → ∀ (b6 : Nat), S.2.2.1 19 a0.toNatClampNeg = some b6 → ¬ (a1 < 0) → ¬ (S.1 b6 0 ≤ a1) → ¬ (a2 < 0) → a2 ≤ 3 → ∀ (b11 : Nat), S.2.2.1 b6 1 = some b11 → C a0 a1 a2 S (S.1 b11 (((a1 * 4) + a2).toNatClampNeg)) S) 
    (v6 : ∀ (a0 : Int32) (a1 : Int32) (a2 : Int32) (S : ex_S), ¬ (a0 < 0) → a0 < S.1 23 0 → ∀ (b6 : Nat), S.2.2.1 19 a0.toNatClampNeg = some b6 → ¬ (a1 < 0) → ¬ (S.1 b6 0 ≤ a1) → ¬ (a2 < 0) → ¬ (a2 ≤ 3) → C a0 a1 a2 S (-1) S) 
    (v7 : ∀ (a0 : Int32) (a1 : Int32) (a2 : Int32) (S : ex_S), ¬ (a0 < 0) → ¬ (a0 < S.1 23 0) → C a0 a1 a2 S (-1) S) : es63 C := by
  intro N d a0 a1 a2 S
  refine ex_lo pm_M63 (pc_q := 1) (ls_q := [.ref 16, .int a0, .int a1, .int a2, pm_no]) (st_q := [.ref 16]) rfl rfl rfl ?_
  refine ex_lo pm_M63 (pc_q := 2) (ls_q := [.ref 16, .int a0, .int a1, .int a2, pm_no]) (st_q := [.int a0, .ref 16]) rfl rfl rfl ?_
  refine ex_call pm_M63 (pc_q := 5) (ix := 132) (callee := 62) (np := 1) (kd := 0) (ra := [.int a0, .ref 16]) (rest := []) rfl rfl rfl rfl pm_M62 rfl rfl rfl rfl (fun d1 => ?_)
  refine ex_lo pm_M62 (pc_q := 1) (ls_q := [.ref 16, .int a0]) (st_q := [.int a0]) rfl rfl rfl ?_
  refine ex_ifc pm_M62 (t := 17) (pc_q := 4) rfl rfl rfl (fun c2 => ?_) (fun c2 => ?_)
  · -- a0 < 0
    refine ex_op pm_M62 (pc_q := 18) (st_q := [.null]) rfl rfl rfl ?_
    refine ex_br pm_M62 (pc_q := 30) (st_q := [.null]) rfl rfl ?_
    refine ex_ret pm_M62 (r := some (.null)) rfl rfl ?_
    show ex_P _ _ 63 5 [.ref 16, .int a0, .int a1, .int a2, pm_no] [.null] S _
    refine ex_lo pm_M63 (pc_q := 7) (ls_q := [.ref 16, .int a0, .int a1, .int a2, .null]) (st_q := []) rfl rfl rfl ?_
    refine ex_lo pm_M63 (pc_q := 9) (ls_q := [.ref 16, .int a0, .int a1, .int a2, .null]) (st_q := [.null]) rfl rfl rfl ?_
    refine ex_br pm_M63 (pc_q := 34) (st_q := []) rfl rfl ?_
    refine ex_op pm_M63 (pc_q := 35) (st_q := [.int (-1)]) rfl rfl rfl ?_
    exact ex_retI pm_M63 rfl (⟨_, rfl, v0 a0 a1 a2 S c2⟩)
  · -- not
    refine ex_lo pm_M62 (pc_q := 5) (ls_q := [.ref 16, .int a0]) (st_q := [.int a0]) rfl rfl rfl ?_
    refine ex_lo pm_M62 (pc_q := 6) (ls_q := [.ref 16, .int a0]) (st_q := [.ref 16, .int a0]) rfl rfl rfl ?_
    refine ex_getK pm_M62 (pc_q := 9) (j := 0) (b := 17) rfl rfl rfl rfl rfl ?_
    refine ex_getK pm_M62 (pc_q := 12) (j := 14) (b := 23) rfl rfl rfl rfl rfl ?_
    refine ex_op pm_M62 (pc_q := 13) (st_q := [.int 0, .ref 23, .int a0]) rfl rfl rfl ?_
    refine ex_iald' pm_M62 (pc_q := 14) (v := S.1 23 0) rfl rfl rfl ?_
    refine ex_icmp pm_M62 (t := 21) (pc_q := 17) rfl rfl rfl (fun c4 => ?_) (fun c4 => ?_)
    · -- a0 < S.1 23 0
      refine ex_lo pm_M62 (pc_q := 22) (ls_q := [.ref 16, .int a0]) (st_q := [.ref 16]) rfl rfl rfl ?_
      refine ex_getK pm_M62 (pc_q := 25) (j := 0) (b := 17) rfl rfl rfl rfl rfl ?_
      refine ex_getK pm_M62 (pc_q := 28) (j := 10) (b := 19) rfl rfl rfl rfl rfl ?_
      refine ex_lo pm_M62 (pc_q := 29) (ls_q := [.ref 16, .int a0]) (st_q := [.int a0, .ref 19]) rfl rfl rfl ?_
      refine ex_aald' pm_M62 (pc_q := 30) (v := S.2.2.1 19 a0.toNatClampNeg) rfl rfl rfl ?_
      refine ex_ret pm_M62 (r := some (va_rf (S.2.2.1 19 a0.toNatClampNeg))) rfl (by cases (S.2.2.1 19 a0.toNatClampNeg) <;> rfl) ?_
      show ex_P _ _ 63 5 [.ref 16, .int a0, .int a1, .int a2, pm_no] [va_rf (S.2.2.1 19 a0.toNatClampNeg)] S _
      refine ex_lo pm_M63 (pc_q := 7) (ls_q := [.ref 16, .int a0, .int a1, .int a2, va_rf (S.2.2.1 19 a0.toNatClampNeg)]) (st_q := []) rfl (by cases (S.2.2.1 19 a0.toNatClampNeg) <;> rfl) rfl ?_
      refine ex_lo pm_M63 (pc_q := 9) (ls_q := [.ref 16, .int a0, .int a1, .int a2, va_rf (S.2.2.1 19 a0.toNatClampNeg)]) (st_q := [va_rf (S.2.2.1 19 a0.toNatClampNeg)]) rfl (by cases (S.2.2.1 19 a0.toNatClampNeg) <;> rfl) rfl ?_
      refine ex_ifn pm_M63 (t := 34) (pc_q := 12) (o := S.2.2.1 19 a0.toNatClampNeg) rfl rfl rfl rfl (fun c5 => ?_) (fun b6 c5 => ?_)
      ·
        refine ex_op pm_M63 (pc_q := 35) (st_q := [.int (-1)]) rfl rfl rfl ?_
        exact ex_retI pm_M63 rfl (⟨_, rfl, v1 a0 a1 a2 S c2 c4 c5⟩)
      ·
        refine ex_lo pm_M63 (pc_q := 13) (ls_q := [.ref 16, .int a0, .int a1, .int a2, va_rf (S.2.2.1 19 a0.toNatClampNeg)]) (st_q := [.int a1]) rfl rfl rfl ?_
        refine ex_ifc pm_M63 (t := 34) (pc_q := 16) rfl rfl rfl (fun c7 => ?_) (fun c7 => ?_)
        · -- a1 < 0
          refine ex_op pm_M63 (pc_q := 35) (st_q := [.int (-1)]) rfl rfl rfl ?_
          exact ex_retI pm_M63 rfl (⟨_, rfl, v2 a0 a1 a2 S c2 c4 b6 c5 c7⟩)
        · -- not
          refine ex_lo pm_M63 (pc_q := 17) (ls_q := [.ref 16, .int a0, .int a1, .int a2, va_rf (S.2.2.1 19 a0.toNatClampNeg)]) (st_q := [.int a1]) rfl rfl rfl ?_
          refine ex_lo pm_M63 (pc_q := 19) (ls_q := [.ref 16, .int a0, .int a1, .int a2, va_rf (S.2.2.1 19 a0.toNatClampNeg)]) (st_q := [va_rf (S.2.2.1 19 a0.toNatClampNeg), .int a1]) rfl (by cases (S.2.2.1 19 a0.toNatClampNeg) <;> rfl) rfl ?_
          refine ex_stc (st_q := [.ref b6, .int a1]) (by rw [(congrArg va_rf c5 : va_rf (S.2.2.1 19 a0.toNatClampNeg) = Value.ref b6)] <;> rfl) ?_
          refine ex_getI' pm_M63 (pc_q := 22) (v := S.1 b6 0) rfl rfl rfl rfl rfl rfl ?_
          refine ex_icmp pm_M63 (t := 34) (pc_q := 25) rfl rfl rfl (fun c8 => ?_) (fun c8 => ?_)
          · -- S.1 b6 0 ≤ a1
            refine ex_op pm_M63 (pc_q := 35) (st_q := [.int (-1)]) rfl rfl rfl ?_
            exact ex_retI pm_M63 rfl (⟨_, rfl, v3 a0 a1 a2 S c2 c4 b6 c5 c7 c8⟩)
          · -- not
            refine ex_lo pm_M63 (pc_q := 26) (ls_q := [.ref 16, .int a0, .int a1, .int a2, va_rf (S.2.2.1 19 a0.toNatClampNeg)]) (st_q := [.int a2]) rfl rfl rfl ?_
            refine ex_ifc pm_M63 (t := 34) (pc_q := 29) rfl rfl rfl (fun c9 => ?_) (fun c9 => ?_)
            · -- a2 < 0
              refine ex_op pm_M63 (pc_q := 35) (st_q := [.int (-1)]) rfl rfl rfl ?_
              exact ex_retI pm_M63 rfl (⟨_, rfl, v4 a0 a1 a2 S c2 c4 b6 c5 c7 c8 c9⟩)
            · -- not
              refine ex_lo pm_M63 (pc_q := 30) (ls_q := [.ref 16, .int a0, .int a1, .int a2, va_rf (S.2.2.1 19 a0.toNatClampNeg)]) (st_q := [.int a2]) rfl rfl rfl ?_
              refine ex_op pm_M63 (pc_q := 31) (st_q := [.int 3, .int a2]) rfl rfl rfl ?_
              refine ex_icmp pm_M63 (t := 36) (pc_q := 34) rfl rfl rfl (fun c10 => ?_) (fun c10 => ?_)
              · -- a2 ≤ 3
                refine ex_lo pm_M63 (pc_q := 38) (ls_q := [.ref 16, .int a0, .int a1, .int a2, va_rf (S.2.2.1 19 a0.toNatClampNeg)]) (st_q := [va_rf (S.2.2.1 19 a0.toNatClampNeg)]) rfl (by cases (S.2.2.1 19 a0.toNatClampNeg) <;> rfl) rfl ?_
                refine ex_stc (st_q := [.ref b6]) (by rw [(congrArg va_rf c5 : va_rf (S.2.2.1 19 a0.toNatClampNeg) = Value.ref b6)] <;> rfl) ?_
                refine ex_getR' pm_M63 (pc_q := 41) (v := S.2.2.1 b6 1) rfl rfl rfl rfl rfl rfl ?_
                refine ex_lo pm_M63 (pc_q := 42) (ls_q := [.ref 16, .int a0, .int a1, .int a2, va_rf (S.2.2.1 19 a0.toNatClampNeg)]) (st_q := [.int a1, va_rf (S.2.2.1 b6 1)]) rfl rfl rfl ?_
                refine ex_op pm_M63 (pc_q := 43) (st_q := [.int 4, .int a1, va_rf (S.2.2.1 b6 1)]) rfl rfl rfl ?_
                refine ex_op pm_M63 (pc_q := 44) (st_q := [.int (a1 * 4), va_rf (S.2.2.1 b6 1)]) rfl rfl rfl ?_
                refine ex_lo pm_M63 (pc_q := 45) (ls_q := [.ref 16, .int a0, .int a1, .int a2, va_rf (S.2.2.1 19 a0.toNatClampNeg)]) (st_q := [.int a2, .int (a1 * 4), va_rf (S.2.2.1 b6 1)]) rfl rfl rfl ?_
                refine ex_op pm_M63 (pc_q := 46) (st_q := [.int ((a1 * 4) + a2), va_rf (S.2.2.1 b6 1)]) rfl rfl rfl ?_
                refine ex_oc (o := S.2.2.1 b6 1) (fun c12 => ?_) (fun b11 c12 => ?_)
                · refine ex_stc (st_q := [.int ((a1 * 4) + a2), .null]) (by rw [(congrArg va_rf c12 : va_rf (S.2.2.1 b6 1) = Value.null)] <;> rfl) ?_
                  exact ex_nul pm_M63 rfl (fun _ => pm_nocall2 rfl) rfl rfl rfl rfl (fun _ _ _ => rfl)
                refine ex_stc (st_q := [.int ((a1 * 4) + a2), .ref b11]) (by rw [(congrArg va_rf c12 : va_rf (S.2.2.1 b6 1) = Value.ref b11)] <;> rfl) ?_
                refine ex_iald' pm_M63 (pc_q := 47) (v := S.1 b11 (((a1 * 4) + a2).toNatClampNeg)) rfl rfl rfl ?_
                exact ex_retI pm_M63 rfl (⟨_, rfl, v5 a0 a1 a2 S c2 c4 b6 c5 c7 c8 c9 c10 b11 c12⟩)
              · -- not
                refine ex_op pm_M63 (pc_q := 35) (st_q := [.int (-1)]) rfl rfl rfl ?_
                exact ex_retI pm_M63 rfl (⟨_, rfl, v6 a0 a1 a2 S c2 c4 b6 c5 c7 c8 c9 c10⟩)
    · -- not
      refine ex_op pm_M62 (pc_q := 18) (st_q := [.null]) rfl rfl rfl ?_
      refine ex_br pm_M62 (pc_q := 30) (st_q := [.null]) rfl rfl ?_
      refine ex_ret pm_M62 (r := some (.null)) rfl rfl ?_
      show ex_P _ _ 63 5 [.ref 16, .int a0, .int a1, .int a2, pm_no] [.null] S _
      refine ex_lo pm_M63 (pc_q := 7) (ls_q := [.ref 16, .int a0, .int a1, .int a2, .null]) (st_q := []) rfl rfl rfl ?_
      refine ex_lo pm_M63 (pc_q := 9) (ls_q := [.ref 16, .int a0, .int a1, .int a2, .null]) (st_q := [.null]) rfl rfl rfl ?_
      refine ex_br pm_M63 (pc_q := 34) (st_q := []) rfl rfl ?_
      refine ex_op pm_M63 (pc_q := 35) (st_q := [.int (-1)]) rfl rfl rfl ?_
      exact ex_retI pm_M63 rfl (⟨_, rfl, v7 a0 a1 a2 S c2 c4⟩)
set_option maxRecDepth 100000 in
set_option maxHeartbeats 4000000 in
/-- SilentTable.reading -/
theorem ev64 {C : Int32 → Int32 → Int32 → ex_S → Int32 → ex_S → Prop} 
    (v0 : ∀ (a0 : Int32) (a1 : Int32) (a2 : Int32) (S : ex_S), a0 < 0 → C a0 a1 a2 S (-1) S) 
    (v1 : ∀ (a0 : Int32) (a1 : Int32) (a2 : Int32) (S : ex_S), ¬ (a0 < 0) → a0 < S.1 23 0 → S.2.2.1 19 a0.toNatClampNeg = none → C a0 a1 a2 S (-1) S) 
    (v2 : ∀ (a0 : Int32) (a1 : Int32) (a2 : Int32) (S : ex_S), ¬ (a0 < 0) → a0 < S.1 23 0 → ∀ (b6 : Nat), S.2.2.1 19 a0.toNatClampNeg = some b6 → a1 < 0 → C a0 a1 a2 S (-1) S) 
    (v3 : ∀ (a0 : Int32) (a1 : Int32) (a2 : Int32) (S : ex_S), ¬ (a0 < 0) → a0 < S.1 23 0 → ∀ (b6 : Nat), S.2.2.1 19 a0.toNatClampNeg = some b6 → ¬ (a1 < 0) → S.1 b6 2 ≤ a1 → C a0 a1 a2 S (-1) S) 
    (v4 : ∀ (a0 : Int32) (a1 : Int32) (a2 : Int32) (S : ex_S), ¬ (a0 < 0) → a0 < S.1 23 0 → ∀ (b6 : Nat), S.2.2.1 19 a0.toNatClampNeg = some b6 → ¬ (a1 < 0) → ¬ (S.1 b6 2 ≤ a1) → a2 < 0 → C a0 a1 a2 S (-1) S) 
    (v5 : ∀ (a0 : Int32) (a1 : Int32) (a2 : Int32) (S : ex_S), ¬ (a0 < 0) → a0 < S.1 23 0 → ∀ (b6 : Nat), S.2.2.1 19 a0.toNatClampNeg = some b6 → ¬ (a1 < 0) → ¬ (S.1 b6 2 ≤ a1) → ¬ (a2 < 0) → a2 ≤ 2 → ∀ (b11 : Nat), S.2.2.1 b6 3 = some b11 → C a0 a1 a2 S (S.1 b11 (((a1 * 4) + a2).toNatClampNeg)) S) 
    (v6 : ∀ (a0 : Int32) (a1 : Int32) (a2 : Int32) (S : ex_S), ¬ (a0 < 0) → a0 < S.1 23 0 → ∀ (b6 : Nat), S.2.2.1 19 a0.toNatClampNeg = some b6 → ¬ (a1 < 0) → ¬ (S.1 b6 2 ≤ a1) → ¬ (a2 < 0) → ¬ (a2 ≤ 2) → C a0 a1 a2 S (-1) S) 
    (v7 : ∀ (a0 : Int32) (a1 : Int32) (a2 : Int32) (S : ex_S), ¬ (a0 < 0) → ¬ (a0 < S.1 23 0) → C a0 a1 a2 S (-1) S) : es64 C := by
  intro N d a0 a1 a2 S
  refine ex_lo pm_M64 (pc_q := 1) (ls_q := [.ref 16, .int a0, .int a1, .int a2, pm_no]) (st_q := [.ref 16]) rfl rfl rfl ?_
  refine ex_lo pm_M64 (pc_q := 2) (ls_q := [.ref 16, .int a0, .int a1, .int a2, pm_no]) (st_q := [.int a0, .ref 16]) rfl rfl rfl ?_
  refine ex_call pm_M64 (pc_q := 5) (ix := 132) (callee := 62) (np := 1) (kd := 0) (ra := [.int a0, .ref 16]) (rest := []) rfl rfl rfl rfl pm_M62 rfl rfl rfl rfl (fun d1 => ?_)
  refine ex_lo pm_M62 (pc_q := 1) (ls_q := [.ref 16, .int a0]) (st_q := [.int a0]) rfl rfl rfl ?_
  refine ex_ifc pm_M62 (t := 17) (pc_q := 4) rfl rfl rfl (fun c2 => ?_) (fun c2 => ?_)
  · -- a0 < 0
    refine ex_op pm_M62 (pc_q := 18) (st_q := [.null]) rfl rfl rfl ?_
    refine ex_br pm_M62 (pc_q := 30) (st_q := [.null]) rfl rfl ?_
    refine ex_ret pm_M62 (r := some (.null)) rfl rfl ?_
    show ex_P _ _ 64 5 [.ref 16, .int a0, .int a1, .int a2, pm_no] [.null] S _
    refine ex_lo pm_M64 (pc_q := 7) (ls_q := [.ref 16, .int a0, .int a1, .int a2, .null]) (st_q := []) rfl rfl rfl ?_
    refine ex_lo pm_M64 (pc_q := 9) (ls_q := [.ref 16, .int a0, .int a1, .int a2, .null]) (st_q := [.null]) rfl rfl rfl ?_
    refine ex_br pm_M64 (pc_q := 34) (st_q := []) rfl rfl ?_
    refine ex_op pm_M64 (pc_q := 35) (st_q := [.int (-1)]) rfl rfl rfl ?_
    exact ex_retI pm_M64 rfl (⟨_, rfl, v0 a0 a1 a2 S c2⟩)
  · -- not
    refine ex_lo pm_M62 (pc_q := 5) (ls_q := [.ref 16, .int a0]) (st_q := [.int a0]) rfl rfl rfl ?_
    refine ex_lo pm_M62 (pc_q := 6) (ls_q := [.ref 16, .int a0]) (st_q := [.ref 16, .int a0]) rfl rfl rfl ?_
    refine ex_getK pm_M62 (pc_q := 9) (j := 0) (b := 17) rfl rfl rfl rfl rfl ?_
    refine ex_getK pm_M62 (pc_q := 12) (j := 14) (b := 23) rfl rfl rfl rfl rfl ?_
    refine ex_op pm_M62 (pc_q := 13) (st_q := [.int 0, .ref 23, .int a0]) rfl rfl rfl ?_
    refine ex_iald' pm_M62 (pc_q := 14) (v := S.1 23 0) rfl rfl rfl ?_
    refine ex_icmp pm_M62 (t := 21) (pc_q := 17) rfl rfl rfl (fun c4 => ?_) (fun c4 => ?_)
    · -- a0 < S.1 23 0
      refine ex_lo pm_M62 (pc_q := 22) (ls_q := [.ref 16, .int a0]) (st_q := [.ref 16]) rfl rfl rfl ?_
      refine ex_getK pm_M62 (pc_q := 25) (j := 0) (b := 17) rfl rfl rfl rfl rfl ?_
      refine ex_getK pm_M62 (pc_q := 28) (j := 10) (b := 19) rfl rfl rfl rfl rfl ?_
      refine ex_lo pm_M62 (pc_q := 29) (ls_q := [.ref 16, .int a0]) (st_q := [.int a0, .ref 19]) rfl rfl rfl ?_
      refine ex_aald' pm_M62 (pc_q := 30) (v := S.2.2.1 19 a0.toNatClampNeg) rfl rfl rfl ?_
      refine ex_ret pm_M62 (r := some (va_rf (S.2.2.1 19 a0.toNatClampNeg))) rfl (by cases (S.2.2.1 19 a0.toNatClampNeg) <;> rfl) ?_
      show ex_P _ _ 64 5 [.ref 16, .int a0, .int a1, .int a2, pm_no] [va_rf (S.2.2.1 19 a0.toNatClampNeg)] S _
      refine ex_lo pm_M64 (pc_q := 7) (ls_q := [.ref 16, .int a0, .int a1, .int a2, va_rf (S.2.2.1 19 a0.toNatClampNeg)]) (st_q := []) rfl (by cases (S.2.2.1 19 a0.toNatClampNeg) <;> rfl) rfl ?_
      refine ex_lo pm_M64 (pc_q := 9) (ls_q := [.ref 16, .int a0, .int a1, .int a2, va_rf (S.2.2.1 19 a0.toNatClampNeg)]) (st_q := [va_rf (S.2.2.1 19 a0.toNatClampNeg)]) rfl (by cases (S.2.2.1 19 a0.toNatClampNeg) <;> rfl) rfl ?_
      refine ex_ifn pm_M64 (t := 34) (pc_q := 12) (o := S.2.2.1 19 a0.toNatClampNeg) rfl rfl rfl rfl (fun c5 => ?_) (fun b6 c5 => ?_)
      ·
        refine ex_op pm_M64 (pc_q := 35) (st_q := [.int (-1)]) rfl rfl rfl ?_
        exact ex_retI pm_M64 rfl (⟨_, rfl, v1 a0 a1 a2 S c2 c4 c5⟩)
      ·
        refine ex_lo pm_M64 (pc_q := 13) (ls_q := [.ref 16, .int a0, .int a1, .int a2, va_rf (S.2.2.1 19 a0.toNatClampNeg)]) (st_q := [.int a1]) rfl rfl rfl ?_
        refine ex_ifc pm_M64 (t := 34) (pc_q := 16) rfl rfl rfl (fun c7 => ?_) (fun c7 => ?_)
        · -- a1 < 0
          refine ex_op pm_M64 (pc_q := 35) (st_q := [.int (-1)]) rfl rfl rfl ?_
          exact ex_retI pm_M64 rfl (⟨_, rfl, v2 a0 a1 a2 S c2 c4 b6 c5 c7⟩)
        · -- not
          refine ex_lo pm_M64 (pc_q := 17) (ls_q := [.ref 16, .int a0, .int a1, .int a2, va_rf (S.2.2.1 19 a0.toNatClampNeg)]) (st_q := [.int a1]) rfl rfl rfl ?_
          refine ex_lo pm_M64 (pc_q := 19) (ls_q := [.ref 16, .int a0, .int a1, .int a2, va_rf (S.2.2.1 19 a0.toNatClampNeg)]) (st_q := [va_rf (S.2.2.1 19 a0.toNatClampNeg), .int a1]) rfl (by cases (S.2.2.1 19 a0.toNatClampNeg) <;> rfl) rfl ?_
          refine ex_stc (st_q := [.ref b6, .int a1]) (by rw [(congrArg va_rf c5 : va_rf (S.2.2.1 19 a0.toNatClampNeg) = Value.ref b6)] <;> rfl) ?_
          refine ex_getI' pm_M64 (pc_q := 22) (v := S.1 b6 2) rfl rfl rfl rfl rfl rfl ?_
          refine ex_icmp pm_M64 (t := 34) (pc_q := 25) rfl rfl rfl (fun c8 => ?_) (fun c8 => ?_)
          · -- S.1 b6 2 ≤ a1
            refine ex_op pm_M64 (pc_q := 35) (st_q := [.int (-1)]) rfl rfl rfl ?_
            exact ex_retI pm_M64 rfl (⟨_, rfl, v3 a0 a1 a2 S c2 c4 b6 c5 c7 c8⟩)
          · -- not
            refine ex_lo pm_M64 (pc_q := 26) (ls_q := [.ref 16, .int a0, .int a1, .int a2, va_rf (S.2.2.1 19 a0.toNatClampNeg)]) (st_q := [.int a2]) rfl rfl rfl ?_
            refine ex_ifc pm_M64 (t := 34) (pc_q := 29) rfl rfl rfl (fun c9 => ?_) (fun c9 => ?_)
            · -- a2 < 0
              refine ex_op pm_M64 (pc_q := 35) (st_q := [.int (-1)]) rfl rfl rfl ?_
              exact ex_retI pm_M64 rfl (⟨_, rfl, v4 a0 a1 a2 S c2 c4 b6 c5 c7 c8 c9⟩)
            · -- not
              refine ex_lo pm_M64 (pc_q := 30) (ls_q := [.ref 16, .int a0, .int a1, .int a2, va_rf (S.2.2.1 19 a0.toNatClampNeg)]) (st_q := [.int a2]) rfl rfl rfl ?_
              refine ex_op pm_M64 (pc_q := 31) (st_q := [.int 2, .int a2]) rfl rfl rfl ?_
              refine ex_icmp pm_M64 (t := 36) (pc_q := 34) rfl rfl rfl (fun c10 => ?_) (fun c10 => ?_)
              · -- a2 ≤ 2
                refine ex_lo pm_M64 (pc_q := 38) (ls_q := [.ref 16, .int a0, .int a1, .int a2, va_rf (S.2.2.1 19 a0.toNatClampNeg)]) (st_q := [va_rf (S.2.2.1 19 a0.toNatClampNeg)]) rfl (by cases (S.2.2.1 19 a0.toNatClampNeg) <;> rfl) rfl ?_
                refine ex_stc (st_q := [.ref b6]) (by rw [(congrArg va_rf c5 : va_rf (S.2.2.1 19 a0.toNatClampNeg) = Value.ref b6)] <;> rfl) ?_
                refine ex_getR' pm_M64 (pc_q := 41) (v := S.2.2.1 b6 3) rfl rfl rfl rfl rfl rfl ?_
                refine ex_lo pm_M64 (pc_q := 42) (ls_q := [.ref 16, .int a0, .int a1, .int a2, va_rf (S.2.2.1 19 a0.toNatClampNeg)]) (st_q := [.int a1, va_rf (S.2.2.1 b6 3)]) rfl rfl rfl ?_
                refine ex_op pm_M64 (pc_q := 43) (st_q := [.int 4, .int a1, va_rf (S.2.2.1 b6 3)]) rfl rfl rfl ?_
                refine ex_op pm_M64 (pc_q := 44) (st_q := [.int (a1 * 4), va_rf (S.2.2.1 b6 3)]) rfl rfl rfl ?_
                refine ex_lo pm_M64 (pc_q := 45) (ls_q := [.ref 16, .int a0, .int a1, .int a2, va_rf (S.2.2.1 19 a0.toNatClampNeg)]) (st_q := [.int a2, .int (a1 * 4), va_rf (S.2.2.1 b6 3)]) rfl rfl rfl ?_
                refine ex_op pm_M64 (pc_q := 46) (st_q := [.int ((a1 * 4) + a2), va_rf (S.2.2.1 b6 3)]) rfl rfl rfl ?_
                refine ex_oc (o := S.2.2.1 b6 3) (fun c12 => ?_) (fun b11 c12 => ?_)
                · refine ex_stc (st_q := [.int ((a1 * 4) + a2), .null]) (by rw [(congrArg va_rf c12 : va_rf (S.2.2.1 b6 3) = Value.null)] <;> rfl) ?_
                  exact ex_nul pm_M64 rfl (fun _ => pm_nocall2 rfl) rfl rfl rfl rfl (fun _ _ _ => rfl)
                refine ex_stc (st_q := [.int ((a1 * 4) + a2), .ref b11]) (by rw [(congrArg va_rf c12 : va_rf (S.2.2.1 b6 3) = Value.ref b11)] <;> rfl) ?_
                refine ex_iald' pm_M64 (pc_q := 47) (v := S.1 b11 (((a1 * 4) + a2).toNatClampNeg)) rfl rfl rfl ?_
                exact ex_retI pm_M64 rfl (⟨_, rfl, v5 a0 a1 a2 S c2 c4 b6 c5 c7 c8 c9 c10 b11 c12⟩)
              · -- not
                refine ex_op pm_M64 (pc_q := 35) (st_q := [.int (-1)]) rfl rfl rfl ?_
                exact ex_retI pm_M64 rfl (⟨_, rfl, v6 a0 a1 a2 S c2 c4 b6 c5 c7 c8 c9 c10⟩)
    · -- not
      refine ex_op pm_M62 (pc_q := 18) (st_q := [.null]) rfl rfl rfl ?_
      refine ex_br pm_M62 (pc_q := 30) (st_q := [.null]) rfl rfl ?_
      refine ex_ret pm_M62 (r := some (.null)) rfl rfl ?_
      show ex_P _ _ 64 5 [.ref 16, .int a0, .int a1, .int a2, pm_no] [.null] S _
      refine ex_lo pm_M64 (pc_q := 7) (ls_q := [.ref 16, .int a0, .int a1, .int a2, .null]) (st_q := []) rfl rfl rfl ?_
      refine ex_lo pm_M64 (pc_q := 9) (ls_q := [.ref 16, .int a0, .int a1, .int a2, .null]) (st_q := [.null]) rfl rfl rfl ?_
      refine ex_br pm_M64 (pc_q := 34) (st_q := []) rfl rfl ?_
      refine ex_op pm_M64 (pc_q := 35) (st_q := [.int (-1)]) rfl rfl rfl ?_
      exact ex_retI pm_M64 rfl (⟨_, rfl, v7 a0 a1 a2 S c2 c4⟩)
set_option maxRecDepth 100000 in
set_option maxHeartbeats 4000000 in
/-- SilentTable.row -/
theorem ev65 {C : Int32 → Int32 → ex_S → Int32 → ex_S → Prop} 
    (v0 : ∀ (a0 : Int32) (a1 : Int32) (S : ex_S), a0 < 0 → C a0 a1 S (-2) S) 
    (v1 : ∀ (a0 : Int32) (a1 : Int32) (S : ex_S), ¬ (a0 < 0) → a0 < S.1 23 1 → ∀ (b6 : Nat), S.2.2.1 20 a0.toNatClampNeg = some b6 → ¬ a1 = (-1) → a1 < 0 → C a0 a1 S (-2) S) 
    (v2 : ∀ (a0 : Int32) (a1 : Int32) (S : ex_S), ¬ (a0 < 0) → a0 < S.1 23 1 → ∀ (b6 : Nat), S.2.2.1 20 a0.toNatClampNeg = some b6 → ¬ a1 = (-1) → ¬ (a1 < 0) → S.1 b6 0 ≤ a1 → C a0 a1 S (-2) S) 
    (v3 : ∀ (a0 : Int32) (a1 : Int32) (S : ex_S), ¬ (a0 < 0) → a0 < S.1 23 1 → ∀ (b6 : Nat), S.2.2.1 20 a0.toNatClampNeg = some b6 → ¬ a1 = (-1) → ¬ (a1 < 0) → ¬ (S.1 b6 0 ≤ a1) → ∀ (b11 : Nat), S.2.2.1 b6 1 = some b11 → C a0 a1 S (S.1 b11 a1.toNatClampNeg) S) 
    (v4 : ∀ (a0 : Int32) (a1 : Int32) (S : ex_S), ¬ (a0 < 0) → a0 < S.1 23 1 → ∀ (b6 : Nat), S.2.2.1 20 a0.toNatClampNeg = some b6 → ¬ (¬ a1 = (-1)) → C a0 a1 S (S.1 b6 0) S) 
    (v5 : ∀ (a0 : Int32) (a1 : Int32) (S : ex_S), ¬ (a0 < 0) → a0 < S.1 23 1 → S.2.2.1 20 a0.toNatClampNeg = none → C a0 a1 S (-2) S) 
    (v6 : ∀ (a0 : Int32) (a1 : Int32) (S : ex_S), ¬ (a0 < 0) → ¬ (a0 < S.1 23 1) → C a0 a1 S (-2) S) : es65 C := by
  intro N d a0 a1 S
  refine ex_lo pm_M65 (pc_q := 1) (ls_q := [.ref 16, .int a0, .int a1, pm_no]) (st_q := [.ref 16]) rfl rfl rfl ?_
  refine ex_lo pm_M65 (pc_q := 2) (ls_q := [.ref 16, .int a0, .int a1, pm_no]) (st_q := [.int a0, .ref 16]) rfl rfl rfl ?_
  refine ex_call pm_M65 (pc_q := 5) (ix := 151) (callee := 66) (np := 1) (kd := 0) (ra := [.int a0, .ref 16]) (rest := []) rfl rfl rfl rfl pm_M66 rfl rfl rfl rfl (fun d1 => ?_)
  refine ex_lo pm_M66 (pc_q := 1) (ls_q := [.ref 16, .int a0]) (st_q := [.int a0]) rfl rfl rfl ?_
  refine ex_ifc pm_M66 (t := 17) (pc_q := 4) rfl rfl rfl (fun c2 => ?_) (fun c2 => ?_)
  · -- a0 < 0
    refine ex_op pm_M66 (pc_q := 18) (st_q := [.null]) rfl rfl rfl ?_
    refine ex_br pm_M66 (pc_q := 30) (st_q := [.null]) rfl rfl ?_
    refine ex_ret pm_M66 (r := some (.null)) rfl rfl ?_
    show ex_P _ _ 65 5 [.ref 16, .int a0, .int a1, pm_no] [.null] S _
    refine ex_lo pm_M65 (pc_q := 6) (ls_q := [.ref 16, .int a0, .int a1, .null]) (st_q := []) rfl rfl rfl ?_
    refine ex_lo pm_M65 (pc_q := 7) (ls_q := [.ref 16, .int a0, .int a1, .null]) (st_q := [.null]) rfl rfl rfl ?_
    refine ex_br pm_M65 (pc_q := 10) (st_q := []) rfl rfl ?_
    refine ex_op pm_M65 (pc_q := 12) (st_q := [.int (-2)]) rfl rfl rfl ?_
    exact ex_retI pm_M65 rfl (⟨_, rfl, v0 a0 a1 S c2⟩)
  · -- not
    refine ex_lo pm_M66 (pc_q := 5) (ls_q := [.ref 16, .int a0]) (st_q := [.int a0]) rfl rfl rfl ?_
    refine ex_lo pm_M66 (pc_q := 6) (ls_q := [.ref 16, .int a0]) (st_q := [.ref 16, .int a0]) rfl rfl rfl ?_
    refine ex_getK pm_M66 (pc_q := 9) (j := 0) (b := 17) rfl rfl rfl rfl rfl ?_
    refine ex_getK pm_M66 (pc_q := 12) (j := 14) (b := 23) rfl rfl rfl rfl rfl ?_
    refine ex_op pm_M66 (pc_q := 13) (st_q := [.int 1, .ref 23, .int a0]) rfl rfl rfl ?_
    refine ex_iald' pm_M66 (pc_q := 14) (v := S.1 23 1) rfl rfl rfl ?_
    refine ex_icmp pm_M66 (t := 21) (pc_q := 17) rfl rfl rfl (fun c4 => ?_) (fun c4 => ?_)
    · -- a0 < S.1 23 1
      refine ex_lo pm_M66 (pc_q := 22) (ls_q := [.ref 16, .int a0]) (st_q := [.ref 16]) rfl rfl rfl ?_
      refine ex_getK pm_M66 (pc_q := 25) (j := 0) (b := 17) rfl rfl rfl rfl rfl ?_
      refine ex_getK pm_M66 (pc_q := 28) (j := 11) (b := 20) rfl rfl rfl rfl rfl ?_
      refine ex_lo pm_M66 (pc_q := 29) (ls_q := [.ref 16, .int a0]) (st_q := [.int a0, .ref 20]) rfl rfl rfl ?_
      refine ex_aald' pm_M66 (pc_q := 30) (v := S.2.2.1 20 a0.toNatClampNeg) rfl rfl rfl ?_
      refine ex_ret pm_M66 (r := some (va_rf (S.2.2.1 20 a0.toNatClampNeg))) rfl (by cases (S.2.2.1 20 a0.toNatClampNeg) <;> rfl) ?_
      show ex_P _ _ 65 5 [.ref 16, .int a0, .int a1, pm_no] [va_rf (S.2.2.1 20 a0.toNatClampNeg)] S _
      refine ex_lo pm_M65 (pc_q := 6) (ls_q := [.ref 16, .int a0, .int a1, va_rf (S.2.2.1 20 a0.toNatClampNeg)]) (st_q := []) rfl (by cases (S.2.2.1 20 a0.toNatClampNeg) <;> rfl) rfl ?_
      refine ex_lo pm_M65 (pc_q := 7) (ls_q := [.ref 16, .int a0, .int a1, va_rf (S.2.2.1 20 a0.toNatClampNeg)]) (st_q := [va_rf (S.2.2.1 20 a0.toNatClampNeg)]) rfl (by cases (S.2.2.1 20 a0.toNatClampNeg) <;> rfl) rfl ?_
      refine ex_ifnn pm_M65 (t := 13) (pc_q := 10) (o := S.2.2.1 20 a0.toNatClampNeg) rfl rfl rfl rfl (fun b6 c5 => ?_) (fun c5 => ?_)
      ·
        refine ex_lo pm_M65 (pc_q := 14) (ls_q := [.ref 16, .int a0, .int a1, va_rf (S.2.2.1 20 a0.toNatClampNeg)]) (st_q := [.int a1]) rfl rfl rfl ?_
        refine ex_op pm_M65 (pc_q := 15) (st_q := [.int (-1), .int a1]) rfl rfl rfl ?_
        refine ex_icmp pm_M65 (t := 23) (pc_q := 18) rfl rfl rfl (fun c7 => ?_) (fun c7 => ?_)
        · -- ¬ a1 = (-1)
          refine ex_lo pm_M65 (pc_q := 24) (ls_q := [.ref 16, .int a0, .int a1, va_rf (S.2.2.1 20 a0.toNatClampNeg)]) (st_q := [va_rf (S.2.2.1 20 a0.toNatClampNeg)]) rfl (by cases (S.2.2.1 20 a0.toNatClampNeg) <;> rfl) rfl ?_
          refine ex_lo pm_M65 (pc_q := 25) (ls_q := [.ref 16, .int a0, .int a1, va_rf (S.2.2.1 20 a0.toNatClampNeg)]) (st_q := [.int a1, va_rf (S.2.2.1 20 a0.toNatClampNeg)]) rfl rfl rfl ?_
          refine ex_stc (st_q := [.int a1, .ref b6]) (by rw [(congrArg va_rf c5 : va_rf (S.2.2.1 20 a0.toNatClampNeg) = Value.ref b6)] <;> rfl) ?_
          refine ex_call pm_M65 (pc_q := 28) (ix := 156) (callee := 67) (np := 1) (kd := 0) (ra := [.int a1, .ref b6]) (rest := []) rfl rfl rfl rfl pm_M67 rfl rfl rfl rfl (fun d8 => ?_)
          refine ex_lo pm_M67 (pc_q := 1) (ls_q := [.ref b6, .int a1]) (st_q := [.int a1]) rfl rfl rfl ?_
          refine ex_ifc pm_M67 (t := 16) (pc_q := 4) rfl rfl rfl (fun c9 => ?_) (fun c9 => ?_)
          · -- a1 < 0
            refine ex_op pm_M67 (pc_q := 17) (st_q := [.int 0]) rfl rfl rfl ?_
            refine ex_retI pm_M67 rfl ?_
            show ex_P _ _ 65 28 [.ref 16, .int a0, .int a1, va_rf (S.2.2.1 20 a0.toNatClampNeg)] [.int 0] S _
            refine ex_ifc pm_M65 (t := 40) (pc_q := 31) rfl rfl rfl (fun _ => ?_) (fun z => absurd (show (0 : Int32) = 0 by decide) z)
            refine ex_op pm_M65 (pc_q := 42) (st_q := [.int (-2)]) rfl rfl rfl ?_
            exact ex_retI pm_M65 rfl (⟨_, rfl, v1 a0 a1 S c2 c4 b6 c5 c7 c9⟩)
          · -- not
            refine ex_lo pm_M67 (pc_q := 5) (ls_q := [.ref b6, .int a1]) (st_q := [.int a1]) rfl rfl rfl ?_
            refine ex_lo pm_M67 (pc_q := 6) (ls_q := [.ref b6, .int a1]) (st_q := [.ref b6, .int a1]) rfl rfl rfl ?_
            refine ex_getI' pm_M67 (pc_q := 9) (v := S.1 b6 0) rfl rfl rfl rfl rfl rfl ?_
            refine ex_icmp pm_M67 (t := 16) (pc_q := 12) rfl rfl rfl (fun c10 => ?_) (fun c10 => ?_)
            · -- S.1 b6 0 ≤ a1
              refine ex_op pm_M67 (pc_q := 17) (st_q := [.int 0]) rfl rfl rfl ?_
              refine ex_retI pm_M67 rfl ?_
              show ex_P _ _ 65 28 [.ref 16, .int a0, .int a1, va_rf (S.2.2.1 20 a0.toNatClampNeg)] [.int 0] S _
              refine ex_ifc pm_M65 (t := 40) (pc_q := 31) rfl rfl rfl (fun _ => ?_) (fun z => absurd (show (0 : Int32) = 0 by decide) z)
              refine ex_op pm_M65 (pc_q := 42) (st_q := [.int (-2)]) rfl rfl rfl ?_
              exact ex_retI pm_M65 rfl (⟨_, rfl, v2 a0 a1 S c2 c4 b6 c5 c7 c9 c10⟩)
            · -- not
              refine ex_op pm_M67 (pc_q := 13) (st_q := [.int 1]) rfl rfl rfl ?_
              refine ex_br pm_M67 (pc_q := 17) (st_q := [.int 1]) rfl rfl ?_
              refine ex_retI pm_M67 rfl ?_
              show ex_P _ _ 65 28 [.ref 16, .int a0, .int a1, va_rf (S.2.2.1 20 a0.toNatClampNeg)] [.int 1] S _
              refine ex_ifc pm_M65 (t := 40) (pc_q := 31) rfl rfl rfl (fun z => absurd z (show ¬ ((1 : Int32) = 0) by decide)) (fun _ => ?_)
              refine ex_lo pm_M65 (pc_q := 32) (ls_q := [.ref 16, .int a0, .int a1, va_rf (S.2.2.1 20 a0.toNatClampNeg)]) (st_q := [va_rf (S.2.2.1 20 a0.toNatClampNeg)]) rfl (by cases (S.2.2.1 20 a0.toNatClampNeg) <;> rfl) rfl ?_
              refine ex_stc (st_q := [.ref b6]) (by rw [(congrArg va_rf c5 : va_rf (S.2.2.1 20 a0.toNatClampNeg) = Value.ref b6)] <;> rfl) ?_
              refine ex_getR' pm_M65 (pc_q := 35) (v := S.2.2.1 b6 1) rfl rfl rfl rfl rfl rfl ?_
              refine ex_lo pm_M65 (pc_q := 36) (ls_q := [.ref 16, .int a0, .int a1, va_rf (S.2.2.1 20 a0.toNatClampNeg)]) (st_q := [.int a1, va_rf (S.2.2.1 b6 1)]) rfl rfl rfl ?_
              refine ex_oc (o := S.2.2.1 b6 1) (fun c12 => ?_) (fun b11 c12 => ?_)
              · refine ex_stc (st_q := [.int a1, .null]) (by rw [(congrArg va_rf c12 : va_rf (S.2.2.1 b6 1) = Value.null)] <;> rfl) ?_
                exact ex_nul pm_M65 rfl (fun _ => pm_nocall2 rfl) rfl rfl rfl rfl (fun _ _ _ => rfl)
              refine ex_stc (st_q := [.int a1, .ref b11]) (by rw [(congrArg va_rf c12 : va_rf (S.2.2.1 b6 1) = Value.ref b11)] <;> rfl) ?_
              refine ex_iald' pm_M65 (pc_q := 37) (v := S.1 b11 a1.toNatClampNeg) rfl rfl rfl ?_
              refine ex_br pm_M65 (pc_q := 42) (st_q := [.int (S.1 b11 a1.toNatClampNeg)]) rfl rfl ?_
              exact ex_retI pm_M65 rfl (⟨_, rfl, v3 a0 a1 S c2 c4 b6 c5 c7 c9 c10 b11 c12⟩)
        · -- not
          refine ex_lo pm_M65 (pc_q := 19) (ls_q := [.ref 16, .int a0, .int a1, va_rf (S.2.2.1 20 a0.toNatClampNeg)]) (st_q := [va_rf (S.2.2.1 20 a0.toNatClampNeg)]) rfl (by cases (S.2.2.1 20 a0.toNatClampNeg) <;> rfl) rfl ?_
          refine ex_stc (st_q := [.ref b6]) (by rw [(congrArg va_rf c5 : va_rf (S.2.2.1 20 a0.toNatClampNeg) = Value.ref b6)] <;> rfl) ?_
          refine ex_getI' pm_M65 (pc_q := 22) (v := S.1 b6 0) rfl rfl rfl rfl rfl rfl ?_
          exact ex_retI pm_M65 rfl (⟨_, rfl, v4 a0 a1 S c2 c4 b6 c5 c7⟩)
      ·
        refine ex_op pm_M65 (pc_q := 12) (st_q := [.int (-2)]) rfl rfl rfl ?_
        exact ex_retI pm_M65 rfl (⟨_, rfl, v5 a0 a1 S c2 c4 c5⟩)
    · -- not
      refine ex_op pm_M66 (pc_q := 18) (st_q := [.null]) rfl rfl rfl ?_
      refine ex_br pm_M66 (pc_q := 30) (st_q := [.null]) rfl rfl ?_
      refine ex_ret pm_M66 (r := some (.null)) rfl rfl ?_
      show ex_P _ _ 65 5 [.ref 16, .int a0, .int a1, pm_no] [.null] S _
      refine ex_lo pm_M65 (pc_q := 6) (ls_q := [.ref 16, .int a0, .int a1, .null]) (st_q := []) rfl rfl rfl ?_
      refine ex_lo pm_M65 (pc_q := 7) (ls_q := [.ref 16, .int a0, .int a1, .null]) (st_q := [.null]) rfl rfl rfl ?_
      refine ex_br pm_M65 (pc_q := 10) (st_q := []) rfl rfl ?_
      refine ex_op pm_M65 (pc_q := 12) (st_q := [.int (-2)]) rfl rfl rfl ?_
      exact ex_retI pm_M65 rfl (⟨_, rfl, v6 a0 a1 S c2 c4⟩)
set_option maxRecDepth 100000 in
set_option maxHeartbeats 4000000 in
/-- SilentTable.law -/
theorem ev162 {C : Int32 → Int32 → Int32 → ex_S → Int32 → ex_S → Prop} 
    (v0 : ∀ (a0 : Int32) (a1 : Int32) (a2 : Int32) (S : ex_S), a0 < 0 → C a0 a1 a2 S (-2) S) 
    (v1 : ∀ (a0 : Int32) (a1 : Int32) (a2 : Int32) (S : ex_S), ¬ (a0 < 0) → a0 < S.1 23 3 → S.2.2.1 22 a0.toNatClampNeg = none → C a0 a1 a2 S (-2) S) 
    (v2 : ∀ (a0 : Int32) (a1 : Int32) (a2 : Int32) (S : ex_S), ¬ (a0 < 0) → a0 < S.1 23 3 → ∀ (b6 : Nat), S.2.2.1 22 a0.toNatClampNeg = some b6 → a2 < 0 → C a0 a1 a2 S (-2) S) 
    (v3 : ∀ (a0 : Int32) (a1 : Int32) (a2 : Int32) (S : ex_S), ¬ (a0 < 0) → a0 < S.1 23 3 → ∀ (b6 : Nat), S.2.2.1 22 a0.toNatClampNeg = some b6 → ¬ (a2 < 0) → a2 ≤ 2 → ¬ a1 = (-1) → a1 < 0 → C a0 a1 a2 S (-2) S) 
    (v4 : ∀ (a0 : Int32) (a1 : Int32) (a2 : Int32) (S : ex_S), ¬ (a0 < 0) → a0 < S.1 23 3 → ∀ (b6 : Nat), S.2.2.1 22 a0.toNatClampNeg = some b6 → ¬ (a2 < 0) → a2 ≤ 2 → ¬ a1 = (-1) → ¬ (a1 < 0) → a1 < S.1 b6 0 → ∀ (b12 : Nat), S.2.2.1 b6 1 = some b12 → C a0 a1 a2 S (S.1 b12 (((a1 * 4) + a2).toNatClampNeg)) S) 
    (v5 : ∀ (a0 : Int32) (a1 : Int32) (a2 : Int32) (S : ex_S), ¬ (a0 < 0) → a0 < S.1 23 3 → ∀ (b6 : Nat), S.2.2.1 22 a0.toNatClampNeg = some b6 → ¬ (a2 < 0) → a2 ≤ 2 → ¬ a1 = (-1) → ¬ (a1 < 0) → ¬ (a1 < S.1 b6 0) → C a0 a1 a2 S (-2) S) 
    (v6 : ∀ (a0 : Int32) (a1 : Int32) (a2 : Int32) (S : ex_S), ¬ (a0 < 0) → a0 < S.1 23 3 → ∀ (b6 : Nat), S.2.2.1 22 a0.toNatClampNeg = some b6 → ¬ (a2 < 0) → a2 ≤ 2 → ¬ (¬ a1 = (-1)) → ¬ a2 = 0 → C a0 a1 a2 S (-2) S) 
    (v7 : ∀ (a0 : Int32) (a1 : Int32) (a2 : Int32) (S : ex_S), ¬ (a0 < 0) → a0 < S.1 23 3 → ∀ (b6 : Nat), S.2.2.1 22 a0.toNatClampNeg = some b6 → ¬ (a2 < 0) → a2 ≤ 2 → ¬ (¬ a1 = (-1)) → ¬ (¬ a2 = 0) → C a0 a1 a2 S (S.1 b6 0) S) 
    (v8 : ∀ (a0 : Int32) (a1 : Int32) (a2 : Int32) (S : ex_S), ¬ (a0 < 0) → a0 < S.1 23 3 → ∀ (b6 : Nat), S.2.2.1 22 a0.toNatClampNeg = some b6 → ¬ (a2 < 0) → ¬ (a2 ≤ 2) → C a0 a1 a2 S (-2) S) 
    (v9 : ∀ (a0 : Int32) (a1 : Int32) (a2 : Int32) (S : ex_S), ¬ (a0 < 0) → ¬ (a0 < S.1 23 3) → C a0 a1 a2 S (-2) S) : es162 C := by
  intro N d a0 a1 a2 S
  refine ex_lo pm_M162 (pc_q := 1) (ls_q := [.ref 16, .int a0, .int a1, .int a2, pm_no]) (st_q := [.ref 16]) rfl rfl rfl ?_
  refine ex_lo pm_M162 (pc_q := 2) (ls_q := [.ref 16, .int a0, .int a1, .int a2, pm_no]) (st_q := [.int a0, .ref 16]) rfl rfl rfl ?_
  refine ex_call pm_M162 (pc_q := 5) (ix := 353) (callee := 163) (np := 1) (kd := 0) (ra := [.int a0, .ref 16]) (rest := []) rfl rfl rfl rfl pm_M163 rfl rfl rfl rfl (fun d1 => ?_)
  refine ex_lo pm_M163 (pc_q := 1) (ls_q := [.ref 16, .int a0]) (st_q := [.int a0]) rfl rfl rfl ?_
  refine ex_ifc pm_M163 (t := 17) (pc_q := 4) rfl rfl rfl (fun c2 => ?_) (fun c2 => ?_)
  · -- a0 < 0
    refine ex_op pm_M163 (pc_q := 18) (st_q := [.null]) rfl rfl rfl ?_
    refine ex_br pm_M163 (pc_q := 30) (st_q := [.null]) rfl rfl ?_
    refine ex_ret pm_M163 (r := some (.null)) rfl rfl ?_
    show ex_P _ _ 162 5 [.ref 16, .int a0, .int a1, .int a2, pm_no] [.null] S _
    refine ex_lo pm_M162 (pc_q := 7) (ls_q := [.ref 16, .int a0, .int a1, .int a2, .null]) (st_q := []) rfl rfl rfl ?_
    refine ex_lo pm_M162 (pc_q := 9) (ls_q := [.ref 16, .int a0, .int a1, .int a2, .null]) (st_q := [.null]) rfl rfl rfl ?_
    refine ex_br pm_M162 (pc_q := 21) (st_q := []) rfl rfl ?_
    refine ex_op pm_M162 (pc_q := 23) (st_q := [.int (-2)]) rfl rfl rfl ?_
    exact ex_retI pm_M162 rfl (⟨_, rfl, v0 a0 a1 a2 S c2⟩)
  · -- not
    refine ex_lo pm_M163 (pc_q := 5) (ls_q := [.ref 16, .int a0]) (st_q := [.int a0]) rfl rfl rfl ?_
    refine ex_lo pm_M163 (pc_q := 6) (ls_q := [.ref 16, .int a0]) (st_q := [.ref 16, .int a0]) rfl rfl rfl ?_
    refine ex_getK pm_M163 (pc_q := 9) (j := 0) (b := 17) rfl rfl rfl rfl rfl ?_
    refine ex_getK pm_M163 (pc_q := 12) (j := 14) (b := 23) rfl rfl rfl rfl rfl ?_
    refine ex_op pm_M163 (pc_q := 13) (st_q := [.int 3, .ref 23, .int a0]) rfl rfl rfl ?_
    refine ex_iald' pm_M163 (pc_q := 14) (v := S.1 23 3) rfl rfl rfl ?_
    refine ex_icmp pm_M163 (t := 21) (pc_q := 17) rfl rfl rfl (fun c4 => ?_) (fun c4 => ?_)
    · -- a0 < S.1 23 3
      refine ex_lo pm_M163 (pc_q := 22) (ls_q := [.ref 16, .int a0]) (st_q := [.ref 16]) rfl rfl rfl ?_
      refine ex_getK pm_M163 (pc_q := 25) (j := 0) (b := 17) rfl rfl rfl rfl rfl ?_
      refine ex_getK pm_M163 (pc_q := 28) (j := 13) (b := 22) rfl rfl rfl rfl rfl ?_
      refine ex_lo pm_M163 (pc_q := 29) (ls_q := [.ref 16, .int a0]) (st_q := [.int a0, .ref 22]) rfl rfl rfl ?_
      refine ex_aald' pm_M163 (pc_q := 30) (v := S.2.2.1 22 a0.toNatClampNeg) rfl rfl rfl ?_
      refine ex_ret pm_M163 (r := some (va_rf (S.2.2.1 22 a0.toNatClampNeg))) rfl (by cases (S.2.2.1 22 a0.toNatClampNeg) <;> rfl) ?_
      show ex_P _ _ 162 5 [.ref 16, .int a0, .int a1, .int a2, pm_no] [va_rf (S.2.2.1 22 a0.toNatClampNeg)] S _
      refine ex_lo pm_M162 (pc_q := 7) (ls_q := [.ref 16, .int a0, .int a1, .int a2, va_rf (S.2.2.1 22 a0.toNatClampNeg)]) (st_q := []) rfl (by cases (S.2.2.1 22 a0.toNatClampNeg) <;> rfl) rfl ?_
      refine ex_lo pm_M162 (pc_q := 9) (ls_q := [.ref 16, .int a0, .int a1, .int a2, va_rf (S.2.2.1 22 a0.toNatClampNeg)]) (st_q := [va_rf (S.2.2.1 22 a0.toNatClampNeg)]) rfl (by cases (S.2.2.1 22 a0.toNatClampNeg) <;> rfl) rfl ?_
      refine ex_ifn pm_M162 (t := 21) (pc_q := 12) (o := S.2.2.1 22 a0.toNatClampNeg) rfl rfl rfl rfl (fun c5 => ?_) (fun b6 c5 => ?_)
      ·
        refine ex_op pm_M162 (pc_q := 23) (st_q := [.int (-2)]) rfl rfl rfl ?_
        exact ex_retI pm_M162 rfl (⟨_, rfl, v1 a0 a1 a2 S c2 c4 c5⟩)
      ·
        refine ex_lo pm_M162 (pc_q := 13) (ls_q := [.ref 16, .int a0, .int a1, .int a2, va_rf (S.2.2.1 22 a0.toNatClampNeg)]) (st_q := [.int a2]) rfl rfl rfl ?_
        refine ex_ifc pm_M162 (t := 21) (pc_q := 16) rfl rfl rfl (fun c7 => ?_) (fun c7 => ?_)
        · -- a2 < 0
          refine ex_op pm_M162 (pc_q := 23) (st_q := [.int (-2)]) rfl rfl rfl ?_
          exact ex_retI pm_M162 rfl (⟨_, rfl, v2 a0 a1 a2 S c2 c4 b6 c5 c7⟩)
        · -- not
          refine ex_lo pm_M162 (pc_q := 17) (ls_q := [.ref 16, .int a0, .int a1, .int a2, va_rf (S.2.2.1 22 a0.toNatClampNeg)]) (st_q := [.int a2]) rfl rfl rfl ?_
          refine ex_op pm_M162 (pc_q := 18) (st_q := [.int 2, .int a2]) rfl rfl rfl ?_
          refine ex_icmp pm_M162 (t := 24) (pc_q := 21) rfl rfl rfl (fun c8 => ?_) (fun c8 => ?_)
          · -- a2 ≤ 2
            refine ex_lo pm_M162 (pc_q := 25) (ls_q := [.ref 16, .int a0, .int a1, .int a2, va_rf (S.2.2.1 22 a0.toNatClampNeg)]) (st_q := [.int a1]) rfl rfl rfl ?_
            refine ex_op pm_M162 (pc_q := 26) (st_q := [.int (-1), .int a1]) rfl rfl rfl ?_
            refine ex_icmp pm_M162 (t := 44) (pc_q := 29) rfl rfl rfl (fun c9 => ?_) (fun c9 => ?_)
            · -- ¬ a1 = (-1)
              refine ex_lo pm_M162 (pc_q := 45) (ls_q := [.ref 16, .int a0, .int a1, .int a2, va_rf (S.2.2.1 22 a0.toNatClampNeg)]) (st_q := [.int a1]) rfl rfl rfl ?_
              refine ex_ifc pm_M162 (t := 57) (pc_q := 48) rfl rfl rfl (fun c10 => ?_) (fun c10 => ?_)
              · -- a1 < 0
                refine ex_op pm_M162 (pc_q := 59) (st_q := [.int (-2)]) rfl rfl rfl ?_
                refine ex_br pm_M162 (pc_q := 73) (st_q := [.int (-2)]) rfl rfl ?_
                exact ex_retI pm_M162 rfl (⟨_, rfl, v3 a0 a1 a2 S c2 c4 b6 c5 c7 c8 c9 c10⟩)
              · -- not
                refine ex_lo pm_M162 (pc_q := 49) (ls_q := [.ref 16, .int a0, .int a1, .int a2, va_rf (S.2.2.1 22 a0.toNatClampNeg)]) (st_q := [.int a1]) rfl rfl rfl ?_
                refine ex_lo pm_M162 (pc_q := 51) (ls_q := [.ref 16, .int a0, .int a1, .int a2, va_rf (S.2.2.1 22 a0.toNatClampNeg)]) (st_q := [va_rf (S.2.2.1 22 a0.toNatClampNeg), .int a1]) rfl (by cases (S.2.2.1 22 a0.toNatClampNeg) <;> rfl) rfl ?_
                refine ex_stc (st_q := [.ref b6, .int a1]) (by rw [(congrArg va_rf c5 : va_rf (S.2.2.1 22 a0.toNatClampNeg) = Value.ref b6)] <;> rfl) ?_
                refine ex_getI' pm_M162 (pc_q := 54) (v := S.1 b6 0) rfl rfl rfl rfl rfl rfl ?_
                refine ex_icmp pm_M162 (t := 62) (pc_q := 57) rfl rfl rfl (fun c11 => ?_) (fun c11 => ?_)
                · -- a1 < S.1 b6 0
                  refine ex_lo pm_M162 (pc_q := 64) (ls_q := [.ref 16, .int a0, .int a1, .int a2, va_rf (S.2.2.1 22 a0.toNatClampNeg)]) (st_q := [va_rf (S.2.2.1 22 a0.toNatClampNeg)]) rfl (by cases (S.2.2.1 22 a0.toNatClampNeg) <;> rfl) rfl ?_
                  refine ex_stc (st_q := [.ref b6]) (by rw [(congrArg va_rf c5 : va_rf (S.2.2.1 22 a0.toNatClampNeg) = Value.ref b6)] <;> rfl) ?_
                  refine ex_getR' pm_M162 (pc_q := 67) (v := S.2.2.1 b6 1) rfl rfl rfl rfl rfl rfl ?_
                  refine ex_lo pm_M162 (pc_q := 68) (ls_q := [.ref 16, .int a0, .int a1, .int a2, va_rf (S.2.2.1 22 a0.toNatClampNeg)]) (st_q := [.int a1, va_rf (S.2.2.1 b6 1)]) rfl rfl rfl ?_
                  refine ex_op pm_M162 (pc_q := 69) (st_q := [.int 4, .int a1, va_rf (S.2.2.1 b6 1)]) rfl rfl rfl ?_
                  refine ex_op pm_M162 (pc_q := 70) (st_q := [.int (a1 * 4), va_rf (S.2.2.1 b6 1)]) rfl rfl rfl ?_
                  refine ex_lo pm_M162 (pc_q := 71) (ls_q := [.ref 16, .int a0, .int a1, .int a2, va_rf (S.2.2.1 22 a0.toNatClampNeg)]) (st_q := [.int a2, .int (a1 * 4), va_rf (S.2.2.1 b6 1)]) rfl rfl rfl ?_
                  refine ex_op pm_M162 (pc_q := 72) (st_q := [.int ((a1 * 4) + a2), va_rf (S.2.2.1 b6 1)]) rfl rfl rfl ?_
                  refine ex_oc (o := S.2.2.1 b6 1) (fun c13 => ?_) (fun b12 c13 => ?_)
                  · refine ex_stc (st_q := [.int ((a1 * 4) + a2), .null]) (by rw [(congrArg va_rf c13 : va_rf (S.2.2.1 b6 1) = Value.null)] <;> rfl) ?_
                    exact ex_nul pm_M162 rfl (fun _ => pm_nocall2 rfl) rfl rfl rfl rfl (fun _ _ _ => rfl)
                  refine ex_stc (st_q := [.int ((a1 * 4) + a2), .ref b12]) (by rw [(congrArg va_rf c13 : va_rf (S.2.2.1 b6 1) = Value.ref b12)] <;> rfl) ?_
                  refine ex_iald' pm_M162 (pc_q := 73) (v := S.1 b12 (((a1 * 4) + a2).toNatClampNeg)) rfl rfl rfl ?_
                  exact ex_retI pm_M162 rfl (⟨_, rfl, v4 a0 a1 a2 S c2 c4 b6 c5 c7 c8 c9 c10 c11 b12 c13⟩)
                · -- not
                  refine ex_op pm_M162 (pc_q := 59) (st_q := [.int (-2)]) rfl rfl rfl ?_
                  refine ex_br pm_M162 (pc_q := 73) (st_q := [.int (-2)]) rfl rfl ?_
                  exact ex_retI pm_M162 rfl (⟨_, rfl, v5 a0 a1 a2 S c2 c4 b6 c5 c7 c8 c9 c10 c11⟩)
            · -- not
              refine ex_lo pm_M162 (pc_q := 30) (ls_q := [.ref 16, .int a0, .int a1, .int a2, va_rf (S.2.2.1 22 a0.toNatClampNeg)]) (st_q := [.int a2]) rfl rfl rfl ?_
              refine ex_ifc pm_M162 (t := 41) (pc_q := 33) rfl rfl rfl (fun c14 => ?_) (fun c14 => ?_)
              · -- ¬ a2 = 0
                refine ex_op pm_M162 (pc_q := 43) (st_q := [.int (-2)]) rfl rfl rfl ?_
                exact ex_retI pm_M162 rfl (⟨_, rfl, v6 a0 a1 a2 S c2 c4 b6 c5 c7 c8 c9 c14⟩)
              · -- not
                refine ex_lo pm_M162 (pc_q := 35) (ls_q := [.ref 16, .int a0, .int a1, .int a2, va_rf (S.2.2.1 22 a0.toNatClampNeg)]) (st_q := [va_rf (S.2.2.1 22 a0.toNatClampNeg)]) rfl (by cases (S.2.2.1 22 a0.toNatClampNeg) <;> rfl) rfl ?_
                refine ex_stc (st_q := [.ref b6]) (by rw [(congrArg va_rf c5 : va_rf (S.2.2.1 22 a0.toNatClampNeg) = Value.ref b6)] <;> rfl) ?_
                refine ex_getI' pm_M162 (pc_q := 38) (v := S.1 b6 0) rfl rfl rfl rfl rfl rfl ?_
                refine ex_br pm_M162 (pc_q := 43) (st_q := [.int (S.1 b6 0)]) rfl rfl ?_
                exact ex_retI pm_M162 rfl (⟨_, rfl, v7 a0 a1 a2 S c2 c4 b6 c5 c7 c8 c9 c14⟩)
          · -- not
            refine ex_op pm_M162 (pc_q := 23) (st_q := [.int (-2)]) rfl rfl rfl ?_
            exact ex_retI pm_M162 rfl (⟨_, rfl, v8 a0 a1 a2 S c2 c4 b6 c5 c7 c8⟩)
    · -- not
      refine ex_op pm_M163 (pc_q := 18) (st_q := [.null]) rfl rfl rfl ?_
      refine ex_br pm_M163 (pc_q := 30) (st_q := [.null]) rfl rfl ?_
      refine ex_ret pm_M163 (r := some (.null)) rfl rfl ?_
      show ex_P _ _ 162 5 [.ref 16, .int a0, .int a1, .int a2, pm_no] [.null] S _
      refine ex_lo pm_M162 (pc_q := 7) (ls_q := [.ref 16, .int a0, .int a1, .int a2, .null]) (st_q := []) rfl rfl rfl ?_
      refine ex_lo pm_M162 (pc_q := 9) (ls_q := [.ref 16, .int a0, .int a1, .int a2, .null]) (st_q := [.null]) rfl rfl rfl ?_
      refine ex_br pm_M162 (pc_q := 21) (st_q := []) rfl rfl ?_
      refine ex_op pm_M162 (pc_q := 23) (st_q := [.int (-2)]) rfl rfl rfl ?_
      exact ex_retI pm_M162 rfl (⟨_, rfl, v9 a0 a1 a2 S c2 c4⟩)
set_option maxRecDepth 100000 in
set_option maxHeartbeats 4000000 in
/-- java/lang/Long.bitCount -/
theorem ev108 {C : Int64 → ex_S → Int32 → ex_S → Prop} {I10 : Int64 → ex_S → Int64 → ex_S → Prop} {I24 : Int64 → ex_S → Int64 → ex_S → Prop} {I34 : Int64 → ex_S → Int64 → ex_S → Prop} {I41 : Int64 → ex_S → Int64 → ex_S → Prop} {I48 : Int64 → ex_S → Int64 → ex_S → Prop} {I55 : Int64 → ex_S → Int64 → ex_S → Prop} 
    (v0 : ∀ (a0 : Int64) (S : ex_S), I10 a0 S (a0 - (((a0.toUInt64 >>> ((1 : Int32).toInt64.toUInt64 &&& Int64.toUInt64 63)).toInt64) &&& 6148914691236517205)) S) 
    (v1 : ∀ (a0 : Int64) (S : ex_S) (x0 : Int64) (T : ex_S), I10 a0 S x0 T → I24 a0 S ((x0 &&& 3689348814741910323) + (((x0.toUInt64 >>> ((2 : Int32).toInt64.toUInt64 &&& Int64.toUInt64 63)).toInt64) &&& 3689348814741910323)) T) 
    (v2 : ∀ (a0 : Int64) (S : ex_S) (x0 : Int64) (T : ex_S), I24 a0 S x0 T → I34 a0 S ((x0 + ((x0.toUInt64 >>> ((4 : Int32).toInt64.toUInt64 &&& Int64.toUInt64 63)).toInt64)) &&& 1085102592571150095) T) 
    (v3 : ∀ (a0 : Int64) (S : ex_S) (x0 : Int64) (T : ex_S), I34 a0 S x0 T → I41 a0 S (x0 + ((x0.toUInt64 >>> ((8 : Int32).toInt64.toUInt64 &&& Int64.toUInt64 63)).toInt64)) T) 
    (v4 : ∀ (a0 : Int64) (S : ex_S) (x0 : Int64) (T : ex_S), I41 a0 S x0 T → I48 a0 S (x0 + ((x0.toUInt64 >>> ((16 : Int32).toInt64.toUInt64 &&& Int64.toUInt64 63)).toInt64)) T) 
    (v5 : ∀ (a0 : Int64) (S : ex_S) (x0 : Int64) (T : ex_S), I48 a0 S x0 T → I55 a0 S (x0 + ((x0.toUInt64 >>> ((32 : Int32).toInt64.toUInt64 &&& Int64.toUInt64 63)).toInt64)) T) 
    (v6 : ∀ (a0 : Int64) (S : ex_S) (x0 : Int64) (T : ex_S), I55 a0 S x0 T → C a0 S (x0.toInt32 &&& 127) T) : es108 C := by
  intro N d a0 S
  have LL : ∀ N : Nat, (∀ (x0 : Int64) (T : ex_S), I55 a0 S x0 T → ex_P N d 108 55 [.long x0, pm_no] [] T (fun r S_q => ∃ v, r = some (.int v) ∧ C a0 S v S_q)) ∧ (∀ (x0 : Int64) (T : ex_S), I48 a0 S x0 T → ex_P N d 108 48 [.long x0, pm_no] [] T (fun r S_q => ∃ v, r = some (.int v) ∧ C a0 S v S_q)) ∧ (∀ (x0 : Int64) (T : ex_S), I41 a0 S x0 T → ex_P N d 108 41 [.long x0, pm_no] [] T (fun r S_q => ∃ v, r = some (.int v) ∧ C a0 S v S_q)) ∧ (∀ (x0 : Int64) (T : ex_S), I34 a0 S x0 T → ex_P N d 108 34 [.long x0, pm_no] [] T (fun r S_q => ∃ v, r = some (.int v) ∧ C a0 S v S_q)) ∧ (∀ (x0 : Int64) (T : ex_S), I24 a0 S x0 T → ex_P N d 108 24 [.long x0, pm_no] [] T (fun r S_q => ∃ v, r = some (.int v) ∧ C a0 S v S_q)) ∧ (∀ (x0 : Int64) (T : ex_S), I10 a0 S x0 T → ex_P N d 108 10 [.long x0, pm_no] [] T (fun r S_q => ∃ v, r = some (.int v) ∧ C a0 S v S_q)) := by
    intro N
    induction N with
    | zero => exact ⟨fun _ _ _ => ex_zero, fun _ _ _ => ex_zero, fun _ _ _ => ex_zero, fun _ _ _ => ex_zero, fun _ _ _ => ex_zero, fun _ _ _ => ex_zero⟩
    | succ N ih =>
      obtain ⟨ih55, ih48, ih41, ih34, ih24, ih10⟩ := ih
      have L55 : ∀ (x0 : Int64) (T : ex_S), I55 a0 S x0 T → ex_P (N + 1) d 108 55 [.long x0, pm_no] [] T (fun r S_q => ∃ v, r = some (.int v) ∧ C a0 S v S_q) := by
        intro x0 T hI
        refine ex_lo pm_M108 (pc_q := 56) (ls_q := [.long x0, pm_no]) (st_q := [.long x0]) rfl rfl rfl ?_
        refine ex_op pm_M108 (pc_q := 57) (st_q := [.int x0.toInt32]) rfl rfl rfl ?_
        refine ex_op pm_M108 (pc_q := 59) (st_q := [.int 127, .int x0.toInt32]) rfl rfl rfl ?_
        refine ex_op pm_M108 (pc_q := 60) (st_q := [.int (x0.toInt32 &&& 127)]) rfl rfl rfl ?_
        exact ex_retI pm_M108 rfl (⟨_, rfl, v6 a0 S x0 T hI⟩)
      have L48 : ∀ (x0 : Int64) (T : ex_S), I48 a0 S x0 T → ex_P (N + 1) d 108 48 [.long x0, pm_no] [] T (fun r S_q => ∃ v, r = some (.int v) ∧ C a0 S v S_q) := by
        intro x0 T hI
        refine ex_lo pm_M108 (pc_q := 49) (ls_q := [.long x0, pm_no]) (st_q := [.long x0]) rfl rfl rfl ?_
        refine ex_lo pm_M108 (pc_q := 50) (ls_q := [.long x0, pm_no]) (st_q := [.long x0, .long x0]) rfl rfl rfl ?_
        refine ex_op pm_M108 (pc_q := 52) (st_q := [.int 32, .long x0, .long x0]) rfl rfl rfl ?_
        refine ex_op pm_M108 (pc_q := 53) (st_q := [.long ((x0.toUInt64 >>> ((32 : Int32).toInt64.toUInt64 &&& Int64.toUInt64 63)).toInt64), .long x0]) rfl rfl rfl ?_
        refine ex_op pm_M108 (pc_q := 54) (st_q := [.long (x0 + ((x0.toUInt64 >>> ((32 : Int32).toInt64.toUInt64 &&& Int64.toUInt64 63)).toInt64))]) rfl rfl rfl ?_
        refine ex_lo pm_M108 (pc_q := 55) (ls_q := [.long (x0 + ((x0.toUInt64 >>> ((32 : Int32).toInt64.toUInt64 &&& Int64.toUInt64 63)).toInt64)), pm_no]) (st_q := []) rfl rfl rfl ?_
        exact L55 (x0 + ((x0.toUInt64 >>> ((32 : Int32).toInt64.toUInt64 &&& Int64.toUInt64 63)).toInt64)) T (v5 a0 S x0 T hI)
      have L41 : ∀ (x0 : Int64) (T : ex_S), I41 a0 S x0 T → ex_P (N + 1) d 108 41 [.long x0, pm_no] [] T (fun r S_q => ∃ v, r = some (.int v) ∧ C a0 S v S_q) := by
        intro x0 T hI
        refine ex_lo pm_M108 (pc_q := 42) (ls_q := [.long x0, pm_no]) (st_q := [.long x0]) rfl rfl rfl ?_
        refine ex_lo pm_M108 (pc_q := 43) (ls_q := [.long x0, pm_no]) (st_q := [.long x0, .long x0]) rfl rfl rfl ?_
        refine ex_op pm_M108 (pc_q := 45) (st_q := [.int 16, .long x0, .long x0]) rfl rfl rfl ?_
        refine ex_op pm_M108 (pc_q := 46) (st_q := [.long ((x0.toUInt64 >>> ((16 : Int32).toInt64.toUInt64 &&& Int64.toUInt64 63)).toInt64), .long x0]) rfl rfl rfl ?_
        refine ex_op pm_M108 (pc_q := 47) (st_q := [.long (x0 + ((x0.toUInt64 >>> ((16 : Int32).toInt64.toUInt64 &&& Int64.toUInt64 63)).toInt64))]) rfl rfl rfl ?_
        refine ex_lo pm_M108 (pc_q := 48) (ls_q := [.long (x0 + ((x0.toUInt64 >>> ((16 : Int32).toInt64.toUInt64 &&& Int64.toUInt64 63)).toInt64)), pm_no]) (st_q := []) rfl rfl rfl ?_
        exact L48 (x0 + ((x0.toUInt64 >>> ((16 : Int32).toInt64.toUInt64 &&& Int64.toUInt64 63)).toInt64)) T (v4 a0 S x0 T hI)
      have L34 : ∀ (x0 : Int64) (T : ex_S), I34 a0 S x0 T → ex_P (N + 1) d 108 34 [.long x0, pm_no] [] T (fun r S_q => ∃ v, r = some (.int v) ∧ C a0 S v S_q) := by
        intro x0 T hI
        refine ex_lo pm_M108 (pc_q := 35) (ls_q := [.long x0, pm_no]) (st_q := [.long x0]) rfl rfl rfl ?_
        refine ex_lo pm_M108 (pc_q := 36) (ls_q := [.long x0, pm_no]) (st_q := [.long x0, .long x0]) rfl rfl rfl ?_
        refine ex_op pm_M108 (pc_q := 38) (st_q := [.int 8, .long x0, .long x0]) rfl rfl rfl ?_
        refine ex_op pm_M108 (pc_q := 39) (st_q := [.long ((x0.toUInt64 >>> ((8 : Int32).toInt64.toUInt64 &&& Int64.toUInt64 63)).toInt64), .long x0]) rfl rfl rfl ?_
        refine ex_op pm_M108 (pc_q := 40) (st_q := [.long (x0 + ((x0.toUInt64 >>> ((8 : Int32).toInt64.toUInt64 &&& Int64.toUInt64 63)).toInt64))]) rfl rfl rfl ?_
        refine ex_lo pm_M108 (pc_q := 41) (ls_q := [.long (x0 + ((x0.toUInt64 >>> ((8 : Int32).toInt64.toUInt64 &&& Int64.toUInt64 63)).toInt64)), pm_no]) (st_q := []) rfl rfl rfl ?_
        exact L41 (x0 + ((x0.toUInt64 >>> ((8 : Int32).toInt64.toUInt64 &&& Int64.toUInt64 63)).toInt64)) T (v3 a0 S x0 T hI)
      have L24 : ∀ (x0 : Int64) (T : ex_S), I24 a0 S x0 T → ex_P (N + 1) d 108 24 [.long x0, pm_no] [] T (fun r S_q => ∃ v, r = some (.int v) ∧ C a0 S v S_q) := by
        intro x0 T hI
        refine ex_lo pm_M108 (pc_q := 25) (ls_q := [.long x0, pm_no]) (st_q := [.long x0]) rfl rfl rfl ?_
        refine ex_lo pm_M108 (pc_q := 26) (ls_q := [.long x0, pm_no]) (st_q := [.long x0, .long x0]) rfl rfl rfl ?_
        refine ex_op pm_M108 (pc_q := 27) (st_q := [.int 4, .long x0, .long x0]) rfl rfl rfl ?_
        refine ex_op pm_M108 (pc_q := 28) (st_q := [.long ((x0.toUInt64 >>> ((4 : Int32).toInt64.toUInt64 &&& Int64.toUInt64 63)).toInt64), .long x0]) rfl rfl rfl ?_
        refine ex_op pm_M108 (pc_q := 29) (st_q := [.long (x0 + ((x0.toUInt64 >>> ((4 : Int32).toInt64.toUInt64 &&& Int64.toUInt64 63)).toInt64))]) rfl rfl rfl ?_
        refine ex_ldc2 pm_M108 (pc_q := 32) (x := 1085102592571150095) rfl rfl rfl ?_
        refine ex_op pm_M108 (pc_q := 33) (st_q := [.long ((x0 + ((x0.toUInt64 >>> ((4 : Int32).toInt64.toUInt64 &&& Int64.toUInt64 63)).toInt64)) &&& 1085102592571150095)]) rfl rfl rfl ?_
        refine ex_lo pm_M108 (pc_q := 34) (ls_q := [.long ((x0 + ((x0.toUInt64 >>> ((4 : Int32).toInt64.toUInt64 &&& Int64.toUInt64 63)).toInt64)) &&& 1085102592571150095), pm_no]) (st_q := []) rfl rfl rfl ?_
        exact L34 ((x0 + ((x0.toUInt64 >>> ((4 : Int32).toInt64.toUInt64 &&& Int64.toUInt64 63)).toInt64)) &&& 1085102592571150095) T (v2 a0 S x0 T hI)
      have L10 : ∀ (x0 : Int64) (T : ex_S), I10 a0 S x0 T → ex_P (N + 1) d 108 10 [.long x0, pm_no] [] T (fun r S_q => ∃ v, r = some (.int v) ∧ C a0 S v S_q) := by
        intro x0 T hI
        refine ex_lo pm_M108 (pc_q := 11) (ls_q := [.long x0, pm_no]) (st_q := [.long x0]) rfl rfl rfl ?_
        refine ex_ldc2 pm_M108 (pc_q := 14) (x := 3689348814741910323) rfl rfl rfl ?_
        refine ex_op pm_M108 (pc_q := 15) (st_q := [.long (x0 &&& 3689348814741910323)]) rfl rfl rfl ?_
        refine ex_lo pm_M108 (pc_q := 16) (ls_q := [.long x0, pm_no]) (st_q := [.long x0, .long (x0 &&& 3689348814741910323)]) rfl rfl rfl ?_
        refine ex_op pm_M108 (pc_q := 17) (st_q := [.int 2, .long x0, .long (x0 &&& 3689348814741910323)]) rfl rfl rfl ?_
        refine ex_op pm_M108 (pc_q := 18) (st_q := [.long ((x0.toUInt64 >>> ((2 : Int32).toInt64.toUInt64 &&& Int64.toUInt64 63)).toInt64), .long (x0 &&& 3689348814741910323)]) rfl rfl rfl ?_
        refine ex_ldc2 pm_M108 (pc_q := 21) (x := 3689348814741910323) rfl rfl rfl ?_
        refine ex_op pm_M108 (pc_q := 22) (st_q := [.long (((x0.toUInt64 >>> ((2 : Int32).toInt64.toUInt64 &&& Int64.toUInt64 63)).toInt64) &&& 3689348814741910323), .long (x0 &&& 3689348814741910323)]) rfl rfl rfl ?_
        refine ex_op pm_M108 (pc_q := 23) (st_q := [.long ((x0 &&& 3689348814741910323) + (((x0.toUInt64 >>> ((2 : Int32).toInt64.toUInt64 &&& Int64.toUInt64 63)).toInt64) &&& 3689348814741910323))]) rfl rfl rfl ?_
        refine ex_lo pm_M108 (pc_q := 24) (ls_q := [.long ((x0 &&& 3689348814741910323) + (((x0.toUInt64 >>> ((2 : Int32).toInt64.toUInt64 &&& Int64.toUInt64 63)).toInt64) &&& 3689348814741910323)), pm_no]) (st_q := []) rfl rfl rfl ?_
        exact L24 ((x0 &&& 3689348814741910323) + (((x0.toUInt64 >>> ((2 : Int32).toInt64.toUInt64 &&& Int64.toUInt64 63)).toInt64) &&& 3689348814741910323)) T (v1 a0 S x0 T hI)
      exact ⟨L55, L48, L41, L34, L24, L10⟩
  obtain ⟨L55, L48, L41, L34, L24, L10⟩ := LL N
  refine ex_lo pm_M108 (pc_q := 1) (ls_q := [.long a0, pm_no]) (st_q := [.long a0]) rfl rfl rfl ?_
  refine ex_lo pm_M108 (pc_q := 2) (ls_q := [.long a0, pm_no]) (st_q := [.long a0, .long a0]) rfl rfl rfl ?_
  refine ex_op pm_M108 (pc_q := 3) (st_q := [.int 1, .long a0, .long a0]) rfl rfl rfl ?_
  refine ex_op pm_M108 (pc_q := 4) (st_q := [.long ((a0.toUInt64 >>> ((1 : Int32).toInt64.toUInt64 &&& Int64.toUInt64 63)).toInt64), .long a0]) rfl rfl rfl ?_
  refine ex_ldc2 pm_M108 (pc_q := 7) (x := 6148914691236517205) rfl rfl rfl ?_
  refine ex_op pm_M108 (pc_q := 8) (st_q := [.long (((a0.toUInt64 >>> ((1 : Int32).toInt64.toUInt64 &&& Int64.toUInt64 63)).toInt64) &&& 6148914691236517205), .long a0]) rfl rfl rfl ?_
  refine ex_op pm_M108 (pc_q := 9) (st_q := [.long (a0 - (((a0.toUInt64 >>> ((1 : Int32).toInt64.toUInt64 &&& Int64.toUInt64 63)).toInt64) &&& 6148914691236517205))]) rfl rfl rfl ?_
  refine ex_lo pm_M108 (pc_q := 10) (ls_q := [.long (a0 - (((a0.toUInt64 >>> ((1 : Int32).toInt64.toUInt64 &&& Int64.toUInt64 63)).toInt64) &&& 6148914691236517205)), pm_no]) (st_q := []) rfl rfl rfl ?_
  exact L10 (a0 - (((a0.toUInt64 >>> ((1 : Int32).toInt64.toUInt64 &&& Int64.toUInt64 63)).toInt64) &&& 6148914691236517205)) S (v0 a0 S)
set_option maxRecDepth 100000 in
set_option maxHeartbeats 4000000 in
/-- SilentTable.countOrOne -/
theorem ev107 {C : Int64 → Int32 → ex_S → Int32 → ex_S → Prop} {C108 : Int64 → ex_S → Int32 → ex_S → Prop} {I30 : Int64 → Int32 → ex_S → Int32 → Int32 → ex_S → Prop} (H108 : es108 C108) 
    (v0 : ∀ (a0 : Int64) (a1 : Int32) (S : ex_S) (r2 : Int32) (S3 : ex_S), C108 a0 S r2 S3 → ¬ a1 = (-1) → a1 < 0 → C a0 a1 S (-2) S3) 
    (v1 : ∀ (a0 : Int64) (a1 : Int32) (S : ex_S) (r2 : Int32) (S3 : ex_S), C108 a0 S r2 S3 → ¬ a1 = (-1) → ¬ (a1 < 0) → a1 < r2 → I30 a0 a1 S 0 0 S3) 
    (v2 : ∀ (a0 : Int64) (a1 : Int32) (S : ex_S) (r2 : Int32) (S3 : ex_S), C108 a0 S r2 S3 → ¬ a1 = (-1) → ¬ (a1 < 0) → ¬ (a1 < r2) → C a0 a1 S (-2) S3) 
    (v3 : ∀ (a0 : Int64) (a1 : Int32) (S : ex_S) (r2 : Int32) (S3 : ex_S), C108 a0 S r2 S3 → ¬ (¬ a1 = (-1)) → C a0 a1 S r2 S3) 
    (v4 : ∀ (a0 : Int64) (a1 : Int32) (S : ex_S) (x4 : Int32) (x5 : Int32) (T : ex_S), I30 a0 a1 S x4 x5 T → 50 ≤ x5 → C a0 a1 S (-2) T) 
    (v5 : ∀ (a0 : Int64) (a1 : Int32) (S : ex_S) (x4 : Int32) (x5 : Int32) (T : ex_S), I30 a0 a1 S x4 x5 T → ¬ (50 ≤ x5) → lg_cmp (((a0.toUInt64 >>> (x5.toInt64.toUInt64 &&& Int64.toUInt64 63)).toInt64) &&& 1) 0 = 0 → I30 a0 a1 S x4 (x5 + 1) T) 
    (v6 : ∀ (a0 : Int64) (a1 : Int32) (S : ex_S) (x4 : Int32) (x5 : Int32) (T : ex_S), I30 a0 a1 S x4 x5 T → ¬ (50 ≤ x5) → ¬ (lg_cmp (((a0.toUInt64 >>> (x5.toInt64.toUInt64 &&& Int64.toUInt64 63)).toInt64) &&& 1) 0 = 0) → ¬ x4 = a1 → I30 a0 a1 S (x4 + 1) (x5 + 1) T) 
    (v7 : ∀ (a0 : Int64) (a1 : Int32) (S : ex_S) (x4 : Int32) (x5 : Int32) (T : ex_S), I30 a0 a1 S x4 x5 T → ¬ (50 ≤ x5) → ¬ (lg_cmp (((a0.toUInt64 >>> (x5.toInt64.toUInt64 &&& Int64.toUInt64 63)).toInt64) &&& 1) 0 = 0) → ¬ (¬ x4 = a1) → C a0 a1 S x5 T) : es107 C := by
  intro N d a0 a1 S
  have LL : ∀ N : Nat, (∀ (g3 : Value) (x4 : Int32) (x5 : Int32) (T : ex_S), g3.category = 1 → I30 a0 a1 S x4 x5 T → ex_P N d 107 30 [.long a0, pm_no, .int a1, g3, .int x4, .int x5] [] T (fun r S_q => ∃ v, r = some (.int v) ∧ C a0 a1 S v S_q)) := by
    intro N
    induction N with
    | zero => exact fun _ _ _ _ _ _ => ex_zero
    | succ N ih =>
      have ih30 := ih
      have L30 : ∀ (g3 : Value) (x4 : Int32) (x5 : Int32) (T : ex_S), g3.category = 1 → I30 a0 a1 S x4 x5 T → ex_P (N + 1) d 107 30 [.long a0, pm_no, .int a1, g3, .int x4, .int x5] [] T (fun r S_q => ∃ v, r = some (.int v) ∧ C a0 a1 S v S_q) := by
        intro g3 x4 x5 T hg3 hI
        refine ex_lo pm_M107 (pc_q := 32) (ls_q := [.long a0, pm_no, .int a1, g3, .int x4, .int x5]) (st_q := [.int x5]) rfl rfl rfl ?_
        refine ex_op pm_M107 (pc_q := 34) (st_q := [.int 50, .int x5]) rfl rfl rfl ?_
        refine ex_icmp pm_M107 (t := 66) (pc_q := 37) rfl rfl rfl (fun c8 => ?_) (fun c8 => ?_)
        · -- 50 ≤ x5
          refine ex_op pm_M107 (pc_q := 68) (st_q := [.int (-2)]) rfl rfl rfl ?_
          exact ex_retI pm_M107 rfl (⟨_, rfl, v4 a0 a1 S x4 x5 T hI c8⟩)
        · -- not
          refine ex_lo pm_M107 (pc_q := 38) (ls_q := [.long a0, pm_no, .int a1, g3, .int x4, .int x5]) (st_q := [.long a0]) rfl rfl rfl ?_
          refine ex_lo pm_M107 (pc_q := 40) (ls_q := [.long a0, pm_no, .int a1, g3, .int x4, .int x5]) (st_q := [.int x5, .long a0]) rfl rfl rfl ?_
          refine ex_op pm_M107 (pc_q := 41) (st_q := [.long ((a0.toUInt64 >>> (x5.toInt64.toUInt64 &&& Int64.toUInt64 63)).toInt64)]) rfl rfl rfl ?_
          refine ex_op pm_M107 (pc_q := 42) (st_q := [.long 1, .long ((a0.toUInt64 >>> (x5.toInt64.toUInt64 &&& Int64.toUInt64 63)).toInt64)]) rfl rfl rfl ?_
          refine ex_op pm_M107 (pc_q := 43) (st_q := [.long (((a0.toUInt64 >>> (x5.toInt64.toUInt64 &&& Int64.toUInt64 63)).toInt64) &&& 1)]) rfl rfl rfl ?_
          refine ex_op pm_M107 (pc_q := 44) (st_q := [.long 0, .long (((a0.toUInt64 >>> (x5.toInt64.toUInt64 &&& Int64.toUInt64 63)).toInt64) &&& 1)]) rfl rfl rfl ?_
          refine ex_op pm_M107 (pc_q := 45) (st_q := [.int (lg_cmp (((a0.toUInt64 >>> (x5.toInt64.toUInt64 &&& Int64.toUInt64 63)).toInt64) &&& 1) 0)]) rfl rfl rfl ?_
          refine ex_ifc pm_M107 (t := 60) (pc_q := 48) rfl rfl rfl (fun c9 => ?_) (fun c9 => ?_)
          · -- lg_cmp (((a0.toUInt64 >>> (x5.toInt64.toUInt64 &&& Int64.toUInt64 63)).toInt64) &&& 1) 0 = 0
            refine ex_lo pm_M107 (pc_q := 63) (ls_q := [.long a0, pm_no, .int a1, g3, .int x4, .int (x5 + 1)]) (st_q := []) rfl rfl rfl ?_
            refine ex_goS pm_M107 (pc_q := 30) (st_q := []) rfl rfl ?_
            exact ih30 g3 x4 (x5 + 1) T hg3 (v5 a0 a1 S x4 x5 T hI c8 c9)
          · -- not
            refine ex_lo pm_M107 (pc_q := 50) (ls_q := [.long a0, pm_no, .int a1, g3, .int x4, .int x5]) (st_q := [.int x4]) rfl rfl rfl ?_
            refine ex_lo pm_M107 (pc_q := 51) (ls_q := [.long a0, pm_no, .int a1, g3, .int x4, .int x5]) (st_q := [.int a1, .int x4]) rfl rfl rfl ?_
            refine ex_icmp pm_M107 (t := 57) (pc_q := 54) rfl rfl rfl (fun c10 => ?_) (fun c10 => ?_)
            · -- ¬ x4 = a1
              refine ex_lo pm_M107 (pc_q := 60) (ls_q := [.long a0, pm_no, .int a1, g3, .int (x4 + 1), .int x5]) (st_q := []) rfl (by simp [pm_lo, pm_inc, pm_st1, pm_kill, hg3]) rfl ?_
              refine ex_lo pm_M107 (pc_q := 63) (ls_q := [.long a0, pm_no, .int a1, g3, .int (x4 + 1), .int (x5 + 1)]) (st_q := []) rfl rfl rfl ?_
              refine ex_goS pm_M107 (pc_q := 30) (st_q := []) rfl rfl ?_
              exact ih30 g3 (x4 + 1) (x5 + 1) T hg3 (v6 a0 a1 S x4 x5 T hI c8 c9 c10)
            · -- not
              refine ex_lo pm_M107 (pc_q := 56) (ls_q := [.long a0, pm_no, .int a1, g3, .int x4, .int x5]) (st_q := [.int x5]) rfl rfl rfl ?_
              exact ex_retI pm_M107 rfl (⟨_, rfl, v7 a0 a1 S x4 x5 T hI c8 c9 c10⟩)
      exact L30
  have L30 := LL N
  refine ex_lo pm_M107 (pc_q := 1) (ls_q := [.long a0, pm_no, .int a1, pm_no, pm_no, pm_no]) (st_q := [.long a0]) rfl rfl rfl ?_
  refine ex_call pm_M107 (pc_q := 4) (ix := 223) (callee := 108) (np := 1) (kd := 2) (ra := [.long a0]) (rest := []) rfl rfl rfl rfl pm_M108 rfl rfl rfl rfl (fun d1 => (H108 _ d1 a0 S).mono (fun r S3 e => ?_))
  obtain ⟨r2, rfl, h4⟩ := e
  show ex_P _ _ 107 4 [.long a0, pm_no, .int a1, pm_no, pm_no, pm_no] [.int r2] S3 _
  refine ex_lo pm_M107 (pc_q := 5) (ls_q := [.long a0, pm_no, .int a1, .int r2, pm_no, pm_no]) (st_q := []) rfl rfl rfl ?_
  refine ex_lo pm_M107 (pc_q := 6) (ls_q := [.long a0, pm_no, .int a1, .int r2, pm_no, pm_no]) (st_q := [.int a1]) rfl rfl rfl ?_
  refine ex_op pm_M107 (pc_q := 7) (st_q := [.int (-1), .int a1]) rfl rfl rfl ?_
  refine ex_icmp pm_M107 (t := 12) (pc_q := 10) rfl rfl rfl (fun c5 => ?_) (fun c5 => ?_)
  · -- ¬ a1 = (-1)
    refine ex_lo pm_M107 (pc_q := 13) (ls_q := [.long a0, pm_no, .int a1, .int r2, pm_no, pm_no]) (st_q := [.int a1]) rfl rfl rfl ?_
    refine ex_ifc pm_M107 (t := 21) (pc_q := 16) rfl rfl rfl (fun c6 => ?_) (fun c6 => ?_)
    · -- a1 < 0
      refine ex_op pm_M107 (pc_q := 23) (st_q := [.int (-2)]) rfl rfl rfl ?_
      exact ex_retI pm_M107 rfl (⟨_, rfl, v0 a0 a1 S r2 S3 h4 c5 c6⟩)
    · -- not
      refine ex_lo pm_M107 (pc_q := 17) (ls_q := [.long a0, pm_no, .int a1, .int r2, pm_no, pm_no]) (st_q := [.int a1]) rfl rfl rfl ?_
      refine ex_lo pm_M107 (pc_q := 18) (ls_q := [.long a0, pm_no, .int a1, .int r2, pm_no, pm_no]) (st_q := [.int r2, .int a1]) rfl rfl rfl ?_
      refine ex_icmp pm_M107 (t := 24) (pc_q := 21) rfl rfl rfl (fun c7 => ?_) (fun c7 => ?_)
      · -- a1 < r2
        refine ex_op pm_M107 (pc_q := 25) (st_q := [.int 0]) rfl rfl rfl ?_
        refine ex_lo pm_M107 (pc_q := 27) (ls_q := [.long a0, pm_no, .int a1, .int r2, .int 0, pm_no]) (st_q := []) rfl rfl rfl ?_
        refine ex_op pm_M107 (pc_q := 28) (st_q := [.int 0]) rfl rfl rfl ?_
        refine ex_lo pm_M107 (pc_q := 30) (ls_q := [.long a0, pm_no, .int a1, .int r2, .int 0, .int 0]) (st_q := []) rfl rfl rfl ?_
        exact L30 (.int r2) 0 0 S3 rfl (v1 a0 a1 S r2 S3 h4 c5 c6 c7)
      · -- not
        refine ex_op pm_M107 (pc_q := 23) (st_q := [.int (-2)]) rfl rfl rfl ?_
        exact ex_retI pm_M107 rfl (⟨_, rfl, v2 a0 a1 S r2 S3 h4 c5 c6 c7⟩)
  · -- not
    refine ex_lo pm_M107 (pc_q := 11) (ls_q := [.long a0, pm_no, .int a1, .int r2, pm_no, pm_no]) (st_q := [.int r2]) rfl rfl rfl ?_
    exact ex_retI pm_M107 rfl (⟨_, rfl, v3 a0 a1 S r2 S3 h4 c5⟩)
set_option maxRecDepth 100000 in
set_option maxHeartbeats 4000000 in
/-- java/lang/Integer.bitCount -/
theorem ev116 {C : Int32 → ex_S → Int32 → ex_S → Prop} 
    (v0 : ∀ (a0 : Int32) (S : ex_S), C a0 S ((((((((a0 - (((a0.toUInt32 >>> ((1 : Int32).toUInt32 &&& Int32.toUInt32 31)).toInt32) &&& 1431655765)) &&& 858993459) + ((((a0 - (((a0.toUInt32 >>> ((1 : Int32).toUInt32 &&& Int32.toUInt32 31)).toInt32) &&& 1431655765)).toUInt32 >>> ((2 : Int32).toUInt32 &&& Int32.toUInt32 31)).toInt32) &&& 858993459)) + (((((a0 - (((a0.toUInt32 >>> ((1 : Int32).toUInt32 &&& Int32.toUInt32 31)).toInt32) &&& 1431655765)) &&& 858993459) + ((((a0 - (((a0.toUInt32 >>> ((1 : Int32).toUInt32 &&& Int32.toUInt32 31)).toInt32) &&& 1431655765)).toUInt32 >>> ((2 : Int32).toUInt32 &&& Int32.toUInt32 31)).toInt32) &&& 858993459)).toUInt32 >>> ((4 : Int32).toUInt32 &&& Int32.toUInt32 31)).toInt32)) &&& 252645135) + (((((((a0 - (((a0.toUInt32 >>> ((1 : Int32).toUInt32 &&& Int32.toUInt32 31)).toInt32) &&& 1431655765)) &&& 858993459) + ((((a0 - (((a0.toUInt32 >>> ((1 : Int32).toUInt32 &&& Int32.toUInt32 31)).toInt32) &&& 1431655765)).toUInt32 >>> ((2 : Int32).toUInt32 &&& Int32.toUInt32 31)).toInt32) &&& 858993459)) + (((((a0 - (((a0.toUInt32 >>> ((1 : Int32).toUInt32 &&& Int32.toUInt32 31)).toInt32) &&& 1431655765)) &&& 858993459) + ((((a0 - (((a0.toUInt32 >>> ((1 : Int32).toUInt32 &&& Int32.toUInt32 31)).toInt32) &&& 1431655765)).toUInt32 >>> ((2 : Int32).toUInt32 &&& Int32.toUInt32 31)).toInt32) &&& 858993459)).toUInt32 >>> ((4 : Int32).toUInt32 &&& Int32.toUInt32 31)).toInt32)) &&& 252645135).toUInt32 >>> ((8 : Int32).toUInt32 &&& Int32.toUInt32 31)).toInt32)) + ((((((((a0 - (((a0.toUInt32 >>> ((1 : Int32).toUInt32 &&& Int32.toUInt32 31)).toInt32) &&& 1431655765)) &&& 858993459) + ((((a0 - (((a0.toUInt32 >>> ((1 : Int32).toUInt32 &&& Int32.toUInt32 31)).toInt32) &&& 1431655765)).toUInt32 >>> ((2 : Int32).toUInt32 &&& Int32.toUInt32 31)).toInt32) &&& 858993459)) + (((((a0 - (((a0.toUInt32 >>> ((1 : Int32).toUInt32 &&& Int32.toUInt32 31)).toInt32) &&& 1431655765)) &&& 858993459) + ((((a0 - (((a0.toUInt32 >>> ((1 : Int32).toUInt32 &&& Int32.toUInt32 31)).toInt32) &&& 1431655765)).toUInt32 >>> ((2 : Int32).toUInt32 &&& Int32.toUInt32 31)).toInt32) &&& 858993459)).toUInt32 >>> ((4 : Int32).toUInt32 &&& Int32.toUInt32 31)).toInt32)) &&& 252645135) + (((((((a0 - (((a0.toUInt32 >>> ((1 : Int32).toUInt32 &&& Int32.toUInt32 31)).toInt32) &&& 1431655765)) &&& 858993459) + ((((a0 - (((a0.toUInt32 >>> ((1 : Int32).toUInt32 &&& Int32.toUInt32 31)).toInt32) &&& 1431655765)).toUInt32 >>> ((2 : Int32).toUInt32 &&& Int32.toUInt32 31)).toInt32) &&& 858993459)) + (((((a0 - (((a0.toUInt32 >>> ((1 : Int32).toUInt32 &&& Int32.toUInt32 31)).toInt32) &&& 1431655765)) &&& 858993459) + ((((a0 - (((a0.toUInt32 >>> ((1 : Int32).toUInt32 &&& Int32.toUInt32 31)).toInt32) &&& 1431655765)).toUInt32 >>> ((2 : Int32).toUInt32 &&& Int32.toUInt32 31)).toInt32) &&& 858993459)).toUInt32 >>> ((4 : Int32).toUInt32 &&& Int32.toUInt32 31)).toInt32)) &&& 252645135).toUInt32 >>> ((8 : Int32).toUInt32 &&& Int32.toUInt32 31)).toInt32)).toUInt32 >>> ((16 : Int32).toUInt32 &&& Int32.toUInt32 31)).toInt32)) &&& 63) S) : es116 C := by
  intro N d a0 S
  refine ex_lo pm_M116 (pc_q := 1) (ls_q := [.int a0]) (st_q := [.int a0]) rfl rfl rfl ?_
  refine ex_lo pm_M116 (pc_q := 2) (ls_q := [.int a0]) (st_q := [.int a0, .int a0]) rfl rfl rfl ?_
  refine ex_op pm_M116 (pc_q := 3) (st_q := [.int 1, .int a0, .int a0]) rfl rfl rfl ?_
  refine ex_op pm_M116 (pc_q := 4) (st_q := [.int ((a0.toUInt32 >>> ((1 : Int32).toUInt32 &&& Int32.toUInt32 31)).toInt32), .int a0]) rfl rfl rfl ?_
  refine ex_ldcw pm_M116 (pc_q := 7) (x := 1431655765) rfl rfl rfl ?_
  refine ex_op pm_M116 (pc_q := 8) (st_q := [.int (((a0.toUInt32 >>> ((1 : Int32).toUInt32 &&& Int32.toUInt32 31)).toInt32) &&& 1431655765), .int a0]) rfl rfl rfl ?_
  refine ex_op pm_M116 (pc_q := 9) (st_q := [.int (a0 - (((a0.toUInt32 >>> ((1 : Int32).toUInt32 &&& Int32.toUInt32 31)).toInt32) &&& 1431655765))]) rfl rfl rfl ?_
  refine ex_lo pm_M116 (pc_q := 10) (ls_q := [.int (a0 - (((a0.toUInt32 >>> ((1 : Int32).toUInt32 &&& Int32.toUInt32 31)).toInt32) &&& 1431655765))]) (st_q := []) rfl rfl rfl ?_
  refine ex_lo pm_M116 (pc_q := 11) (ls_q := [.int (a0 - (((a0.toUInt32 >>> ((1 : Int32).toUInt32 &&& Int32.toUInt32 31)).toInt32) &&& 1431655765))]) (st_q := [.int (a0 - (((a0.toUInt32 >>> ((1 : Int32).toUInt32 &&& Int32.toUInt32 31)).toInt32) &&& 1431655765))]) rfl rfl rfl ?_
  refine ex_ldcw pm_M116 (pc_q := 14) (x := 858993459) rfl rfl rfl ?_
  refine ex_op pm_M116 (pc_q := 15) (st_q := [.int ((a0 - (((a0.toUInt32 >>> ((1 : Int32).toUInt32 &&& Int32.toUInt32 31)).toInt32) &&& 1431655765)) &&& 858993459)]) rfl rfl rfl ?_
  refine ex_lo pm_M116 (pc_q := 16) (ls_q := [.int (a0 - (((a0.toUInt32 >>> ((1 : Int32).toUInt32 &&& Int32.toUInt32 31)).toInt32) &&& 1431655765))]) (st_q := [.int (a0 - (((a0.toUInt32 >>> ((1 : Int32).toUInt32 &&& Int32.toUInt32 31)).toInt32) &&& 1431655765)), .int ((a0 - (((a0.toUInt32 >>> ((1 : Int32).toUInt32 &&& Int32.toUInt32 31)).toInt32) &&& 1431655765)) &&& 858993459)]) rfl rfl rfl ?_
  refine ex_op pm_M116 (pc_q := 17) (st_q := [.int 2, .int (a0 - (((a0.toUInt32 >>> ((1 : Int32).toUInt32 &&& Int32.toUInt32 31)).toInt32) &&& 1431655765)), .int ((a0 - (((a0.toUInt32 >>> ((1 : Int32).toUInt32 &&& Int32.toUInt32 31)).toInt32) &&& 1431655765)) &&& 858993459)]) rfl rfl rfl ?_
  refine ex_op pm_M116 (pc_q := 18) (st_q := [.int (((a0 - (((a0.toUInt32 >>> ((1 : Int32).toUInt32 &&& Int32.toUInt32 31)).toInt32) &&& 1431655765)).toUInt32 >>> ((2 : Int32).toUInt32 &&& Int32.toUInt32 31)).toInt32), .int ((a0 - (((a0.toUInt32 >>> ((1 : Int32).toUInt32 &&& Int32.toUInt32 31)).toInt32) &&& 1431655765)) &&& 858993459)]) rfl rfl rfl ?_
  refine ex_ldcw pm_M116 (pc_q := 21) (x := 858993459) rfl rfl rfl ?_
  refine ex_op pm_M116 (pc_q := 22) (st_q := [.int ((((a0 - (((a0.toUInt32 >>> ((1 : Int32).toUInt32 &&& Int32.toUInt32 31)).toInt32) &&& 1431655765)).toUInt32 >>> ((2 : Int32).toUInt32 &&& Int32.toUInt32 31)).toInt32) &&& 858993459), .int ((a0 - (((a0.toUInt32 >>> ((1 : Int32).toUInt32 &&& Int32.toUInt32 31)).toInt32) &&& 1431655765)) &&& 858993459)]) rfl rfl rfl ?_
  refine ex_op pm_M116 (pc_q := 23) (st_q := [.int (((a0 - (((a0.toUInt32 >>> ((1 : Int32).toUInt32 &&& Int32.toUInt32 31)).toInt32) &&& 1431655765)) &&& 858993459) + ((((a0 - (((a0.toUInt32 >>> ((1 : Int32).toUInt32 &&& Int32.toUInt32 31)).toInt32) &&& 1431655765)).toUInt32 >>> ((2 : Int32).toUInt32 &&& Int32.toUInt32 31)).toInt32) &&& 858993459))]) rfl rfl rfl ?_
  refine ex_lo pm_M116 (pc_q := 24) (ls_q := [.int (((a0 - (((a0.toUInt32 >>> ((1 : Int32).toUInt32 &&& Int32.toUInt32 31)).toInt32) &&& 1431655765)) &&& 858993459) + ((((a0 - (((a0.toUInt32 >>> ((1 : Int32).toUInt32 &&& Int32.toUInt32 31)).toInt32) &&& 1431655765)).toUInt32 >>> ((2 : Int32).toUInt32 &&& Int32.toUInt32 31)).toInt32) &&& 858993459))]) (st_q := []) rfl rfl rfl ?_
  refine ex_lo pm_M116 (pc_q := 25) (ls_q := [.int (((a0 - (((a0.toUInt32 >>> ((1 : Int32).toUInt32 &&& Int32.toUInt32 31)).toInt32) &&& 1431655765)) &&& 858993459) + ((((a0 - (((a0.toUInt32 >>> ((1 : Int32).toUInt32 &&& Int32.toUInt32 31)).toInt32) &&& 1431655765)).toUInt32 >>> ((2 : Int32).toUInt32 &&& Int32.toUInt32 31)).toInt32) &&& 858993459))]) (st_q := [.int (((a0 - (((a0.toUInt32 >>> ((1 : Int32).toUInt32 &&& Int32.toUInt32 31)).toInt32) &&& 1431655765)) &&& 858993459) + ((((a0 - (((a0.toUInt32 >>> ((1 : Int32).toUInt32 &&& Int32.toUInt32 31)).toInt32) &&& 1431655765)).toUInt32 >>> ((2 : Int32).toUInt32 &&& Int32.toUInt32 31)).toInt32) &&& 858993459))]) rfl rfl rfl ?_
  refine ex_lo pm_M116 (pc_q := 26) (ls_q := [.int (((a0 - (((a0.toUInt32 >>> ((1 : Int32).toUInt32 &&& Int32.toUInt32 31)).toInt32) &&& 1431655765)) &&& 858993459) + ((((a0 - (((a0.toUInt32 >>> ((1 : Int32).toUInt32 &&& Int32.toUInt32 31)).toInt32) &&& 1431655765)).toUInt32 >>> ((2 : Int32).toUInt32 &&& Int32.toUInt32 31)).toInt32) &&& 858993459))]) (st_q := [.int (((a0 - (((a0.toUInt32 >>> ((1 : Int32).toUInt32 &&& Int32.toUInt32 31)).toInt32) &&& 1431655765)) &&& 858993459) + ((((a0 - (((a0.toUInt32 >>> ((1 : Int32).toUInt32 &&& Int32.toUInt32 31)).toInt32) &&& 1431655765)).toUInt32 >>> ((2 : Int32).toUInt32 &&& Int32.toUInt32 31)).toInt32) &&& 858993459)), .int (((a0 - (((a0.toUInt32 >>> ((1 : Int32).toUInt32 &&& Int32.toUInt32 31)).toInt32) &&& 1431655765)) &&& 858993459) + ((((a0 - (((a0.toUInt32 >>> ((1 : Int32).toUInt32 &&& Int32.toUInt32 31)).toInt32) &&& 1431655765)).toUInt32 >>> ((2 : Int32).toUInt32 &&& Int32.toUInt32 31)).toInt32) &&& 858993459))]) rfl rfl rfl ?_
  refine ex_op pm_M116 (pc_q := 27) (st_q := [.int 4, .int (((a0 - (((a0.toUInt32 >>> ((1 : Int32).toUInt32 &&& Int32.toUInt32 31)).toInt32) &&& 1431655765)) &&& 858993459) + ((((a0 - (((a0.toUInt32 >>> ((1 : Int32).toUInt32 &&& Int32.toUInt32 31)).toInt32) &&& 1431655765)).toUInt32 >>> ((2 : Int32).toUInt32 &&& Int32.toUInt32 31)).toInt32) &&& 858993459)), .int (((a0 - (((a0.toUInt32 >>> ((1 : Int32).toUInt32 &&& Int32.toUInt32 31)).toInt32) &&& 1431655765)) &&& 858993459) + ((((a0 - (((a0.toUInt32 >>> ((1 : Int32).toUInt32 &&& Int32.toUInt32 31)).toInt32) &&& 1431655765)).toUInt32 >>> ((2 : Int32).toUInt32 &&& Int32.toUInt32 31)).toInt32) &&& 858993459))]) rfl rfl rfl ?_
  refine ex_op pm_M116 (pc_q := 28) (st_q := [.int (((((a0 - (((a0.toUInt32 >>> ((1 : Int32).toUInt32 &&& Int32.toUInt32 31)).toInt32) &&& 1431655765)) &&& 858993459) + ((((a0 - (((a0.toUInt32 >>> ((1 : Int32).toUInt32 &&& Int32.toUInt32 31)).toInt32) &&& 1431655765)).toUInt32 >>> ((2 : Int32).toUInt32 &&& Int32.toUInt32 31)).toInt32) &&& 858993459)).toUInt32 >>> ((4 : Int32).toUInt32 &&& Int32.toUInt32 31)).toInt32), .int (((a0 - (((a0.toUInt32 >>> ((1 : Int32).toUInt32 &&& Int32.toUInt32 31)).toInt32) &&& 1431655765)) &&& 858993459) + ((((a0 - (((a0.toUInt32 >>> ((1 : Int32).toUInt32 &&& Int32.toUInt32 31)).toInt32) &&& 1431655765)).toUInt32 >>> ((2 : Int32).toUInt32 &&& Int32.toUInt32 31)).toInt32) &&& 858993459))]) rfl rfl rfl ?_
  refine ex_op pm_M116 (pc_q := 29) (st_q := [.int ((((a0 - (((a0.toUInt32 >>> ((1 : Int32).toUInt32 &&& Int32.toUInt32 31)).toInt32) &&& 1431655765)) &&& 858993459) + ((((a0 - (((a0.toUInt32 >>> ((1 : Int32).toUInt32 &&& Int32.toUInt32 31)).toInt32) &&& 1431655765)).toUInt32 >>> ((2 : Int32).toUInt32 &&& Int32.toUInt32 31)).toInt32) &&& 858993459)) + (((((a0 - (((a0.toUInt32 >>> ((1 : Int32).toUInt32 &&& Int32.toUInt32 31)).toInt32) &&& 1431655765)) &&& 858993459) + ((((a0 - (((a0.toUInt32 >>> ((1 : Int32).toUInt32 &&& Int32.toUInt32 31)).toInt32) &&& 1431655765)).toUInt32 >>> ((2 : Int32).toUInt32 &&& Int32.toUInt32 31)).toInt32) &&& 858993459)).toUInt32 >>> ((4 : Int32).toUInt32 &&& Int32.toUInt32 31)).toInt32))]) rfl rfl rfl ?_
  refine ex_ldcw pm_M116 (pc_q := 32) (x := 252645135) rfl rfl rfl ?_
  refine ex_op pm_M116 (pc_q := 33) (st_q := [.int (((((a0 - (((a0.toUInt32 >>> ((1 : Int32).toUInt32 &&& Int32.toUInt32 31)).toInt32) &&& 1431655765)) &&& 858993459) + ((((a0 - (((a0.toUInt32 >>> ((1 : Int32).toUInt32 &&& Int32.toUInt32 31)).toInt32) &&& 1431655765)).toUInt32 >>> ((2 : Int32).toUInt32 &&& Int32.toUInt32 31)).toInt32) &&& 858993459)) + (((((a0 - (((a0.toUInt32 >>> ((1 : Int32).toUInt32 &&& Int32.toUInt32 31)).toInt32) &&& 1431655765)) &&& 858993459) + ((((a0 - (((a0.toUInt32 >>> ((1 : Int32).toUInt32 &&& Int32.toUInt32 31)).toInt32) &&& 1431655765)).toUInt32 >>> ((2 : Int32).toUInt32 &&& Int32.toUInt32 31)).toInt32) &&& 858993459)).toUInt32 >>> ((4 : Int32).toUInt32 &&& Int32.toUInt32 31)).toInt32)) &&& 252645135)]) rfl rfl rfl ?_
  refine ex_lo pm_M116 (pc_q := 34) (ls_q := [.int (((((a0 - (((a0.toUInt32 >>> ((1 : Int32).toUInt32 &&& Int32.toUInt32 31)).toInt32) &&& 1431655765)) &&& 858993459) + ((((a0 - (((a0.toUInt32 >>> ((1 : Int32).toUInt32 &&& Int32.toUInt32 31)).toInt32) &&& 1431655765)).toUInt32 >>> ((2 : Int32).toUInt32 &&& Int32.toUInt32 31)).toInt32) &&& 858993459)) + (((((a0 - (((a0.toUInt32 >>> ((1 : Int32).toUInt32 &&& Int32.toUInt32 31)).toInt32) &&& 1431655765)) &&& 858993459) + ((((a0 - (((a0.toUInt32 >>> ((1 : Int32).toUInt32 &&& Int32.toUInt32 31)).toInt32) &&& 1431655765)).toUInt32 >>> ((2 : Int32).toUInt32 &&& Int32.toUInt32 31)).toInt32) &&& 858993459)).toUInt32 >>> ((4 : Int32).toUInt32 &&& Int32.toUInt32 31)).toInt32)) &&& 252645135)]) (st_q := []) rfl rfl rfl ?_
  refine ex_lo pm_M116 (pc_q := 35) (ls_q := [.int (((((a0 - (((a0.toUInt32 >>> ((1 : Int32).toUInt32 &&& Int32.toUInt32 31)).toInt32) &&& 1431655765)) &&& 858993459) + ((((a0 - (((a0.toUInt32 >>> ((1 : Int32).toUInt32 &&& Int32.toUInt32 31)).toInt32) &&& 1431655765)).toUInt32 >>> ((2 : Int32).toUInt32 &&& Int32.toUInt32 31)).toInt32) &&& 858993459)) + (((((a0 - (((a0.toUInt32 >>> ((1 : Int32).toUInt32 &&& Int32.toUInt32 31)).toInt32) &&& 1431655765)) &&& 858993459) + ((((a0 - (((a0.toUInt32 >>> ((1 : Int32).toUInt32 &&& Int32.toUInt32 31)).toInt32) &&& 1431655765)).toUInt32 >>> ((2 : Int32).toUInt32 &&& Int32.toUInt32 31)).toInt32) &&& 858993459)).toUInt32 >>> ((4 : Int32).toUInt32 &&& Int32.toUInt32 31)).toInt32)) &&& 252645135)]) (st_q := [.int (((((a0 - (((a0.toUInt32 >>> ((1 : Int32).toUInt32 &&& Int32.toUInt32 31)).toInt32) &&& 1431655765)) &&& 858993459) + ((((a0 - (((a0.toUInt32 >>> ((1 : Int32).toUInt32 &&& Int32.toUInt32 31)).toInt32) &&& 1431655765)).toUInt32 >>> ((2 : Int32).toUInt32 &&& Int32.toUInt32 31)).toInt32) &&& 858993459)) + (((((a0 - (((a0.toUInt32 >>> ((1 : Int32).toUInt32 &&& Int32.toUInt32 31)).toInt32) &&& 1431655765)) &&& 858993459) + ((((a0 - (((a0.toUInt32 >>> ((1 : Int32).toUInt32 &&& Int32.toUInt32 31)).toInt32) &&& 1431655765)).toUInt32 >>> ((2 : Int32).toUInt32 &&& Int32.toUInt32 31)).toInt32) &&& 858993459)).toUInt32 >>> ((4 : Int32).toUInt32 &&& Int32.toUInt32 31)).toInt32)) &&& 252645135)]) rfl rfl rfl ?_
  refine ex_lo pm_M116 (pc_q := 36) (ls_q := [.int (((((a0 - (((a0.toUInt32 >>> ((1 : Int32).toUInt32 &&& Int32.toUInt32 31)).toInt32) &&& 1431655765)) &&& 858993459) + ((((a0 - (((a0.toUInt32 >>> ((1 : Int32).toUInt32 &&& Int32.toUInt32 31)).toInt32) &&& 1431655765)).toUInt32 >>> ((2 : Int32).toUInt32 &&& Int32.toUInt32 31)).toInt32) &&& 858993459)) + (((((a0 - (((a0.toUInt32 >>> ((1 : Int32).toUInt32 &&& Int32.toUInt32 31)).toInt32) &&& 1431655765)) &&& 858993459) + ((((a0 - (((a0.toUInt32 >>> ((1 : Int32).toUInt32 &&& Int32.toUInt32 31)).toInt32) &&& 1431655765)).toUInt32 >>> ((2 : Int32).toUInt32 &&& Int32.toUInt32 31)).toInt32) &&& 858993459)).toUInt32 >>> ((4 : Int32).toUInt32 &&& Int32.toUInt32 31)).toInt32)) &&& 252645135)]) (st_q := [.int (((((a0 - (((a0.toUInt32 >>> ((1 : Int32).toUInt32 &&& Int32.toUInt32 31)).toInt32) &&& 1431655765)) &&& 858993459) + ((((a0 - (((a0.toUInt32 >>> ((1 : Int32).toUInt32 &&& Int32.toUInt32 31)).toInt32) &&& 1431655765)).toUInt32 >>> ((2 : Int32).toUInt32 &&& Int32.toUInt32 31)).toInt32) &&& 858993459)) + (((((a0 - (((a0.toUInt32 >>> ((1 : Int32).toUInt32 &&& Int32.toUInt32 31)).toInt32) &&& 1431655765)) &&& 858993459) + ((((a0 - (((a0.toUInt32 >>> ((1 : Int32).toUInt32 &&& Int32.toUInt32 31)).toInt32) &&& 1431655765)).toUInt32 >>> ((2 : Int32).toUInt32 &&& Int32.toUInt32 31)).toInt32) &&& 858993459)).toUInt32 >>> ((4 : Int32).toUInt32 &&& Int32.toUInt32 31)).toInt32)) &&& 252645135), .int (((((a0 - (((a0.toUInt32 >>> ((1 : Int32).toUInt32 &&& Int32.toUInt32 31)).toInt32) &&& 1431655765)) &&& 858993459) + ((((a0 - (((a0.toUInt32 >>> ((1 : Int32).toUInt32 &&& Int32.toUInt32 31)).toInt32) &&& 1431655765)).toUInt32 >>> ((2 : Int32).toUInt32 &&& Int32.toUInt32 31)).toInt32) &&& 858993459)) + (((((a0 - (((a0.toUInt32 >>> ((1 : Int32).toUInt32 &&& Int32.toUInt32 31)).toInt32) &&& 1431655765)) &&& 858993459) + ((((a0 - (((a0.toUInt32 >>> ((1 : Int32).toUInt32 &&& Int32.toUInt32 31)).toInt32) &&& 1431655765)).toUInt32 >>> ((2 : Int32).toUInt32 &&& Int32.toUInt32 31)).toInt32) &&& 858993459)).toUInt32 >>> ((4 : Int32).toUInt32 &&& Int32.toUInt32 31)).toInt32)) &&& 252645135)]) rfl rfl rfl ?_
  refine ex_op pm_M116 (pc_q := 38) (st_q := [.int 8, .int (((((a0 - (((a0.toUInt32 >>> ((1 : Int32).toUInt32 &&& Int32.toUInt32 31)).toInt32) &&& 1431655765)) &&& 858993459) + ((((a0 - (((a0.toUInt32 >>> ((1 : Int32).toUInt32 &&& Int32.toUInt32 31)).toInt32) &&& 1431655765)).toUInt32 >>> ((2 : Int32).toUInt32 &&& Int32.toUInt32 31)).toInt32) &&& 858993459)) + (((((a0 - (((a0.toUInt32 >>> ((1 : Int32).toUInt32 &&& Int32.toUInt32 31)).toInt32) &&& 1431655765)) &&& 858993459) + ((((a0 - (((a0.toUInt32 >>> ((1 : Int32).toUInt32 &&& Int32.toUInt32 31)).toInt32) &&& 1431655765)).toUInt32 >>> ((2 : Int32).toUInt32 &&& Int32.toUInt32 31)).toInt32) &&& 858993459)).toUInt32 >>> ((4 : Int32).toUInt32 &&& Int32.toUInt32 31)).toInt32)) &&& 252645135), .int (((((a0 - (((a0.toUInt32 >>> ((1 : Int32).toUInt32 &&& Int32.toUInt32 31)).toInt32) &&& 1431655765)) &&& 858993459) + ((((a0 - (((a0.toUInt32 >>> ((1 : Int32).toUInt32 &&& Int32.toUInt32 31)).toInt32) &&& 1431655765)).toUInt32 >>> ((2 : Int32).toUInt32 &&& Int32.toUInt32 31)).toInt32) &&& 858993459)) + (((((a0 - (((a0.toUInt32 >>> ((1 : Int32).toUInt32 &&& Int32.toUInt32 31)).toInt32) &&& 1431655765)) &&& 858993459) + ((((a0 - (((a0.toUInt32 >>> ((1 : Int32).toUInt32 &&& Int32.toUInt32 31)).toInt32) &&& 1431655765)).toUInt32 >>> ((2 : Int32).toUInt32 &&& Int32.toUInt32 31)).toInt32) &&& 858993459)).toUInt32 >>> ((4 : Int32).toUInt32 &&& Int32.toUInt32 31)).toInt32)) &&& 252645135)]) rfl rfl rfl ?_
  refine ex_op pm_M116 (pc_q := 39) (st_q := [.int (((((((a0 - (((a0.toUInt32 >>> ((1 : Int32).toUInt32 &&& Int32.toUInt32 31)).toInt32) &&& 1431655765)) &&& 858993459) + ((((a0 - (((a0.toUInt32 >>> ((1 : Int32).toUInt32 &&& Int32.toUInt32 31)).toInt32) &&& 1431655765)).toUInt32 >>> ((2 : Int32).toUInt32 &&& Int32.toUInt32 31)).toInt32) &&& 858993459)) + (((((a0 - (((a0.toUInt32 >>> ((1 : Int32).toUInt32 &&& Int32.toUInt32 31)).toInt32) &&& 1431655765)) &&& 858993459) + ((((a0 - (((a0.toUInt32 >>> ((1 : Int32).toUInt32 &&& Int32.toUInt32 31)).toInt32) &&& 1431655765)).toUInt32 >>> ((2 : Int32).toUInt32 &&& Int32.toUInt32 31)).toInt32) &&& 858993459)).toUInt32 >>> ((4 : Int32).toUInt32 &&& Int32.toUInt32 31)).toInt32)) &&& 252645135).toUInt32 >>> ((8 : Int32).toUInt32 &&& Int32.toUInt32 31)).toInt32), .int (((((a0 - (((a0.toUInt32 >>> ((1 : Int32).toUInt32 &&& Int32.toUInt32 31)).toInt32) &&& 1431655765)) &&& 858993459) + ((((a0 - (((a0.toUInt32 >>> ((1 : Int32).toUInt32 &&& Int32.toUInt32 31)).toInt32) &&& 1431655765)).toUInt32 >>> ((2 : Int32).toUInt32 &&& Int32.toUInt32 31)).toInt32) &&& 858993459)) + (((((a0 - (((a0.toUInt32 >>> ((1 : Int32).toUInt32 &&& Int32.toUInt32 31)).toInt32) &&& 1431655765)) &&& 858993459) + ((((a0 - (((a0.toUInt32 >>> ((1 : Int32).toUInt32 &&& Int32.toUInt32 31)).toInt32) &&& 1431655765)).toUInt32 >>> ((2 : Int32).toUInt32 &&& Int32.toUInt32 31)).toInt32) &&& 858993459)).toUInt32 >>> ((4 : Int32).toUInt32 &&& Int32.toUInt32 31)).toInt32)) &&& 252645135)]) rfl rfl rfl ?_
  refine ex_op pm_M116 (pc_q := 40) (st_q := [.int ((((((a0 - (((a0.toUInt32 >>> ((1 : Int32).toUInt32 &&& Int32.toUInt32 31)).toInt32) &&& 1431655765)) &&& 858993459) + ((((a0 - (((a0.toUInt32 >>> ((1 : Int32).toUInt32 &&& Int32.toUInt32 31)).toInt32) &&& 1431655765)).toUInt32 >>> ((2 : Int32).toUInt32 &&& Int32.toUInt32 31)).toInt32) &&& 858993459)) + (((((a0 - (((a0.toUInt32 >>> ((1 : Int32).toUInt32 &&& Int32.toUInt32 31)).toInt32) &&& 1431655765)) &&& 858993459) + ((((a0 - (((a0.toUInt32 >>> ((1 : Int32).toUInt32 &&& Int32.toUInt32 31)).toInt32) &&& 1431655765)).toUInt32 >>> ((2 : Int32).toUInt32 &&& Int32.toUInt32 31)).toInt32) &&& 858993459)).toUInt32 >>> ((4 : Int32).toUInt32 &&& Int32.toUInt32 31)).toInt32)) &&& 252645135) + (((((((a0 - (((a0.toUInt32 >>> ((1 : Int32).toUInt32 &&& Int32.toUInt32 31)).toInt32) &&& 1431655765)) &&& 858993459) + ((((a0 - (((a0.toUInt32 >>> ((1 : Int32).toUInt32 &&& Int32.toUInt32 31)).toInt32) &&& 1431655765)).toUInt32 >>> ((2 : Int32).toUInt32 &&& Int32.toUInt32 31)).toInt32) &&& 858993459)) + (((((a0 - (((a0.toUInt32 >>> ((1 : Int32).toUInt32 &&& Int32.toUInt32 31)).toInt32) &&& 1431655765)) &&& 858993459) + ((((a0 - (((a0.toUInt32 >>> ((1 : Int32).toUInt32 &&& Int32.toUInt32 31)).toInt32) &&& 1431655765)).toUInt32 >>> ((2 : Int32).toUInt32 &&& Int32.toUInt32 31)).toInt32) &&& 858993459)).toUInt32 >>> ((4 : Int32).toUInt32 &&& Int32.toUInt32 31)).toInt32)) &&& 252645135).toUInt32 >>> ((8 : Int32).toUInt32 &&& Int32.toUInt32 31)).toInt32))]) rfl rfl rfl ?_
  refine ex_lo pm_M116 (pc_q := 41) (ls_q := [.int ((((((a0 - (((a0.toUInt32 >>> ((1 : Int32).toUInt32 &&& Int32.toUInt32 31)).toInt32) &&& 1431655765)) &&& 858993459) + ((((a0 - (((a0.toUInt32 >>> ((1 : Int32).toUInt32 &&& Int32.toUInt32 31)).toInt32) &&& 1431655765)).toUInt32 >>> ((2 : Int32).toUInt32 &&& Int32.toUInt32 31)).toInt32) &&& 858993459)) + (((((a0 - (((a0.toUInt32 >>> ((1 : Int32).toUInt32 &&& Int32.toUInt32 31)).toInt32) &&& 1431655765)) &&& 858993459) + ((((a0 - (((a0.toUInt32 >>> ((1 : Int32).toUInt32 &&& Int32.toUInt32 31)).toInt32) &&& 1431655765)).toUInt32 >>> ((2 : Int32).toUInt32 &&& Int32.toUInt32 31)).toInt32) &&& 858993459)).toUInt32 >>> ((4 : Int32).toUInt32 &&& Int32.toUInt32 31)).toInt32)) &&& 252645135) + (((((((a0 - (((a0.toUInt32 >>> ((1 : Int32).toUInt32 &&& Int32.toUInt32 31)).toInt32) &&& 1431655765)) &&& 858993459) + ((((a0 - (((a0.toUInt32 >>> ((1 : Int32).toUInt32 &&& Int32.toUInt32 31)).toInt32) &&& 1431655765)).toUInt32 >>> ((2 : Int32).toUInt32 &&& Int32.toUInt32 31)).toInt32) &&& 858993459)) + (((((a0 - (((a0.toUInt32 >>> ((1 : Int32).toUInt32 &&& Int32.toUInt32 31)).toInt32) &&& 1431655765)) &&& 858993459) + ((((a0 - (((a0.toUInt32 >>> ((1 : Int32).toUInt32 &&& Int32.toUInt32 31)).toInt32) &&& 1431655765)).toUInt32 >>> ((2 : Int32).toUInt32 &&& Int32.toUInt32 31)).toInt32) &&& 858993459)).toUInt32 >>> ((4 : Int32).toUInt32 &&& Int32.toUInt32 31)).toInt32)) &&& 252645135).toUInt32 >>> ((8 : Int32).toUInt32 &&& Int32.toUInt32 31)).toInt32))]) (st_q := []) rfl rfl rfl ?_
  refine ex_lo pm_M116 (pc_q := 42) (ls_q := [.int ((((((a0 - (((a0.toUInt32 >>> ((1 : Int32).toUInt32 &&& Int32.toUInt32 31)).toInt32) &&& 1431655765)) &&& 858993459) + ((((a0 - (((a0.toUInt32 >>> ((1 : Int32).toUInt32 &&& Int32.toUInt32 31)).toInt32) &&& 1431655765)).toUInt32 >>> ((2 : Int32).toUInt32 &&& Int32.toUInt32 31)).toInt32) &&& 858993459)) + (((((a0 - (((a0.toUInt32 >>> ((1 : Int32).toUInt32 &&& Int32.toUInt32 31)).toInt32) &&& 1431655765)) &&& 858993459) + ((((a0 - (((a0.toUInt32 >>> ((1 : Int32).toUInt32 &&& Int32.toUInt32 31)).toInt32) &&& 1431655765)).toUInt32 >>> ((2 : Int32).toUInt32 &&& Int32.toUInt32 31)).toInt32) &&& 858993459)).toUInt32 >>> ((4 : Int32).toUInt32 &&& Int32.toUInt32 31)).toInt32)) &&& 252645135) + (((((((a0 - (((a0.toUInt32 >>> ((1 : Int32).toUInt32 &&& Int32.toUInt32 31)).toInt32) &&& 1431655765)) &&& 858993459) + ((((a0 - (((a0.toUInt32 >>> ((1 : Int32).toUInt32 &&& Int32.toUInt32 31)).toInt32) &&& 1431655765)).toUInt32 >>> ((2 : Int32).toUInt32 &&& Int32.toUInt32 31)).toInt32) &&& 858993459)) + (((((a0 - (((a0.toUInt32 >>> ((1 : Int32).toUInt32 &&& Int32.toUInt32 31)).toInt32) &&& 1431655765)) &&& 858993459) + ((((a0 - (((a0.toUInt32 >>> ((1 : Int32).toUInt32 &&& Int32.toUInt32 31)).toInt32) &&& 1431655765)).toUInt32 >>> ((2 : Int32).toUInt32 &&& Int32.toUInt32 31)).toInt32) &&& 858993459)).toUInt32 >>> ((4 : Int32).toUInt32 &&& Int32.toUInt32 31)).toInt32)) &&& 252645135).toUInt32 >>> ((8 : Int32).toUInt32 &&& Int32.toUInt32 31)).toInt32))]) (st_q := [.int ((((((a0 - (((a0.toUInt32 >>> ((1 : Int32).toUInt32 &&& Int32.toUInt32 31)).toInt32) &&& 1431655765)) &&& 858993459) + ((((a0 - (((a0.toUInt32 >>> ((1 : Int32).toUInt32 &&& Int32.toUInt32 31)).toInt32) &&& 1431655765)).toUInt32 >>> ((2 : Int32).toUInt32 &&& Int32.toUInt32 31)).toInt32) &&& 858993459)) + (((((a0 - (((a0.toUInt32 >>> ((1 : Int32).toUInt32 &&& Int32.toUInt32 31)).toInt32) &&& 1431655765)) &&& 858993459) + ((((a0 - (((a0.toUInt32 >>> ((1 : Int32).toUInt32 &&& Int32.toUInt32 31)).toInt32) &&& 1431655765)).toUInt32 >>> ((2 : Int32).toUInt32 &&& Int32.toUInt32 31)).toInt32) &&& 858993459)).toUInt32 >>> ((4 : Int32).toUInt32 &&& Int32.toUInt32 31)).toInt32)) &&& 252645135) + (((((((a0 - (((a0.toUInt32 >>> ((1 : Int32).toUInt32 &&& Int32.toUInt32 31)).toInt32) &&& 1431655765)) &&& 858993459) + ((((a0 - (((a0.toUInt32 >>> ((1 : Int32).toUInt32 &&& Int32.toUInt32 31)).toInt32) &&& 1431655765)).toUInt32 >>> ((2 : Int32).toUInt32 &&& Int32.toUInt32 31)).toInt32) &&& 858993459)) + (((((a0 - (((a0.toUInt32 >>> ((1 : Int32).toUInt32 &&& Int32.toUInt32 31)).toInt32) &&& 1431655765)) &&& 858993459) + ((((a0 - (((a0.toUInt32 >>> ((1 : Int32).toUInt32 &&& Int32.toUInt32 31)).toInt32) &&& 1431655765)).toUInt32 >>> ((2 : Int32).toUInt32 &&& Int32.toUInt32 31)).toInt32) &&& 858993459)).toUInt32 >>> ((4 : Int32).toUInt32 &&& Int32.toUInt32 31)).toInt32)) &&& 252645135).toUInt32 >>> ((8 : Int32).toUInt32 &&& Int32.toUInt32 31)).toInt32))]) rfl rfl rfl ?_
  refine ex_lo pm_M116 (pc_q := 43) (ls_q := [.int ((((((a0 - (((a0.toUInt32 >>> ((1 : Int32).toUInt32 &&& Int32.toUInt32 31)).toInt32) &&& 1431655765)) &&& 858993459) + ((((a0 - (((a0.toUInt32 >>> ((1 : Int32).toUInt32 &&& Int32.toUInt32 31)).toInt32) &&& 1431655765)).toUInt32 >>> ((2 : Int32).toUInt32 &&& Int32.toUInt32 31)).toInt32) &&& 858993459)) + (((((a0 - (((a0.toUInt32 >>> ((1 : Int32).toUInt32 &&& Int32.toUInt32 31)).toInt32) &&& 1431655765)) &&& 858993459) + ((((a0 - (((a0.toUInt32 >>> ((1 : Int32).toUInt32 &&& Int32.toUInt32 31)).toInt32) &&& 1431655765)).toUInt32 >>> ((2 : Int32).toUInt32 &&& Int32.toUInt32 31)).toInt32) &&& 858993459)).toUInt32 >>> ((4 : Int32).toUInt32 &&& Int32.toUInt32 31)).toInt32)) &&& 252645135) + (((((((a0 - (((a0.toUInt32 >>> ((1 : Int32).toUInt32 &&& Int32.toUInt32 31)).toInt32) &&& 1431655765)) &&& 858993459) + ((((a0 - (((a0.toUInt32 >>> ((1 : Int32).toUInt32 &&& Int32.toUInt32 31)).toInt32) &&& 1431655765)).toUInt32 >>> ((2 : Int32).toUInt32 &&& Int32.toUInt32 31)).toInt32) &&& 858993459)) + (((((a0 - (((a0.toUInt32 >>> ((1 : Int32).toUInt32 &&& Int32.toUInt32 31)).toInt32) &&& 1431655765)) &&& 858993459) + ((((a0 - (((a0.toUInt32 >>> ((1 : Int32).toUInt32 &&& Int32.toUInt32 31)).toInt32) &&& 1431655765)).toUInt32 >>> ((2 : Int32).toUInt32 &&& Int32.toUInt32 31)).toInt32) &&& 858993459)).toUInt32 >>> ((4 : Int32).toUInt32 &&& Int32.toUInt32 31)).toInt32)) &&& 252645135).toUInt32 >>> ((8 : Int32).toUInt32 &&& Int32.toUInt32 31)).toInt32))]) (st_q := [.int ((((((a0 - (((a0.toUInt32 >>> ((1 : Int32).toUInt32 &&& Int32.toUInt32 31)).toInt32) &&& 1431655765)) &&& 858993459) + ((((a0 - (((a0.toUInt32 >>> ((1 : Int32).toUInt32 &&& Int32.toUInt32 31)).toInt32) &&& 1431655765)).toUInt32 >>> ((2 : Int32).toUInt32 &&& Int32.toUInt32 31)).toInt32) &&& 858993459)) + (((((a0 - (((a0.toUInt32 >>> ((1 : Int32).toUInt32 &&& Int32.toUInt32 31)).toInt32) &&& 1431655765)) &&& 858993459) + ((((a0 - (((a0.toUInt32 >>> ((1 : Int32).toUInt32 &&& Int32.toUInt32 31)).toInt32) &&& 1431655765)).toUInt32 >>> ((2 : Int32).toUInt32 &&& Int32.toUInt32 31)).toInt32) &&& 858993459)).toUInt32 >>> ((4 : Int32).toUInt32 &&& Int32.toUInt32 31)).toInt32)) &&& 252645135) + (((((((a0 - (((a0.toUInt32 >>> ((1 : Int32).toUInt32 &&& Int32.toUInt32 31)).toInt32) &&& 1431655765)) &&& 858993459) + ((((a0 - (((a0.toUInt32 >>> ((1 : Int32).toUInt32 &&& Int32.toUInt32 31)).toInt32) &&& 1431655765)).toUInt32 >>> ((2 : Int32).toUInt32 &&& Int32.toUInt32 31)).toInt32) &&& 858993459)) + (((((a0 - (((a0.toUInt32 >>> ((1 : Int32).toUInt32 &&& Int32.toUInt32 31)).toInt32) &&& 1431655765)) &&& 858993459) + ((((a0 - (((a0.toUInt32 >>> ((1 : Int32).toUInt32 &&& Int32.toUInt32 31)).toInt32) &&& 1431655765)).toUInt32 >>> ((2 : Int32).toUInt32 &&& Int32.toUInt32 31)).toInt32) &&& 858993459)).toUInt32 >>> ((4 : Int32).toUInt32 &&& Int32.toUInt32 31)).toInt32)) &&& 252645135).toUInt32 >>> ((8 : Int32).toUInt32 &&& Int32.toUInt32 31)).toInt32)), .int ((((((a0 - (((a0.toUInt32 >>> ((1 : Int32).toUInt32 &&& Int32.toUInt32 31)).toInt32) &&& 1431655765)) &&& 858993459) + ((((a0 - (((a0.toUInt32 >>> ((1 : Int32).toUInt32 &&& Int32.toUInt32 31)).toInt32) &&& 1431655765)).toUInt32 >>> ((2 : Int32).toUInt32 &&& Int32.toUInt32 31)).toInt32) &&& 858993459)) + (((((a0 - (((a0.toUInt32 >>> ((1 : Int32).toUInt32 &&& Int32.toUInt32 31)).toInt32) &&& 1431655765)) &&& 858993459) + ((((a0 - (((a0.toUInt32 >>> ((1 : Int32).toUInt32 &&& Int32.toUInt32 31)).toInt32) &&& 1431655765)).toUInt32 >>> ((2 : Int32).toUInt32 &&& Int32.toUInt32 31)).toInt32) &&& 858993459)).toUInt32 >>> ((4 : Int32).toUInt32 &&& Int32.toUInt32 31)).toInt32)) &&& 252645135) + (((((((a0 - (((a0.toUInt32 >>> ((1 : Int32).toUInt32 &&& Int32.toUInt32 31)).toInt32) &&& 1431655765)) &&& 858993459) + ((((a0 - (((a0.toUInt32 >>> ((1 : Int32).toUInt32 &&& Int32.toUInt32 31)).toInt32) &&& 1431655765)).toUInt32 >>> ((2 : Int32).toUInt32 &&& Int32.toUInt32 31)).toInt32) &&& 858993459)) + (((((a0 - (((a0.toUInt32 >>> ((1 : Int32).toUInt32 &&& Int32.toUInt32 31)).toInt32) &&& 1431655765)) &&& 858993459) + ((((a0 - (((a0.toUInt32 >>> ((1 : Int32).toUInt32 &&& Int32.toUInt32 31)).toInt32) &&& 1431655765)).toUInt32 >>> ((2 : Int32).toUInt32 &&& Int32.toUInt32 31)).toInt32) &&& 858993459)).toUInt32 >>> ((4 : Int32).toUInt32 &&& Int32.toUInt32 31)).toInt32)) &&& 252645135).toUInt32 >>> ((8 : Int32).toUInt32 &&& Int32.toUInt32 31)).toInt32))]) rfl rfl rfl ?_
  refine ex_op pm_M116 (pc_q := 45) (st_q := [.int 16, .int ((((((a0 - (((a0.toUInt32 >>> ((1 : Int32).toUInt32 &&& Int32.toUInt32 31)).toInt32) &&& 1431655765)) &&& 858993459) + ((((a0 - (((a0.toUInt32 >>> ((1 : Int32).toUInt32 &&& Int32.toUInt32 31)).toInt32) &&& 1431655765)).toUInt32 >>> ((2 : Int32).toUInt32 &&& Int32.toUInt32 31)).toInt32) &&& 858993459)) + (((((a0 - (((a0.toUInt32 >>> ((1 : Int32).toUInt32 &&& Int32.toUInt32 31)).toInt32) &&& 1431655765)) &&& 858993459) + ((((a0 - (((a0.toUInt32 >>> ((1 : Int32).toUInt32 &&& Int32.toUInt32 31)).toInt32) &&& 1431655765)).toUInt32 >>> ((2 : Int32).toUInt32 &&& Int32.toUInt32 31)).toInt32) &&& 858993459)).toUInt32 >>> ((4 : Int32).toUInt32 &&& Int32.toUInt32 31)).toInt32)) &&& 252645135) + (((((((a0 - (((a0.toUInt32 >>> ((1 : Int32).toUInt32 &&& Int32.toUInt32 31)).toInt32) &&& 1431655765)) &&& 858993459) + ((((a0 - (((a0.toUInt32 >>> ((1 : Int32).toUInt32 &&& Int32.toUInt32 31)).toInt32) &&& 1431655765)).toUInt32 >>> ((2 : Int32).toUInt32 &&& Int32.toUInt32 31)).toInt32) &&& 858993459)) + (((((a0 - (((a0.toUInt32 >>> ((1 : Int32).toUInt32 &&& Int32.toUInt32 31)).toInt32) &&& 1431655765)) &&& 858993459) + ((((a0 - (((a0.toUInt32 >>> ((1 : Int32).toUInt32 &&& Int32.toUInt32 31)).toInt32) &&& 1431655765)).toUInt32 >>> ((2 : Int32).toUInt32 &&& Int32.toUInt32 31)).toInt32) &&& 858993459)).toUInt32 >>> ((4 : Int32).toUInt32 &&& Int32.toUInt32 31)).toInt32)) &&& 252645135).toUInt32 >>> ((8 : Int32).toUInt32 &&& Int32.toUInt32 31)).toInt32)), .int ((((((a0 - (((a0.toUInt32 >>> ((1 : Int32).toUInt32 &&& Int32.toUInt32 31)).toInt32) &&& 1431655765)) &&& 858993459) + ((((a0 - (((a0.toUInt32 >>> ((1 : Int32).toUInt32 &&& Int32.toUInt32 31)).toInt32) &&& 1431655765)).toUInt32 >>> ((2 : Int32).toUInt32 &&& Int32.toUInt32 31)).toInt32) &&& 858993459)) + (((((a0 - (((a0.toUInt32 >>> ((1 : Int32).toUInt32 &&& Int32.toUInt32 31)).toInt32) &&& 1431655765)) &&& 858993459) + ((((a0 - (((a0.toUInt32 >>> ((1 : Int32).toUInt32 &&& Int32.toUInt32 31)).toInt32) &&& 1431655765)).toUInt32 >>> ((2 : Int32).toUInt32 &&& Int32.toUInt32 31)).toInt32) &&& 858993459)).toUInt32 >>> ((4 : Int32).toUInt32 &&& Int32.toUInt32 31)).toInt32)) &&& 252645135) + (((((((a0 - (((a0.toUInt32 >>> ((1 : Int32).toUInt32 &&& Int32.toUInt32 31)).toInt32) &&& 1431655765)) &&& 858993459) + ((((a0 - (((a0.toUInt32 >>> ((1 : Int32).toUInt32 &&& Int32.toUInt32 31)).toInt32) &&& 1431655765)).toUInt32 >>> ((2 : Int32).toUInt32 &&& Int32.toUInt32 31)).toInt32) &&& 858993459)) + (((((a0 - (((a0.toUInt32 >>> ((1 : Int32).toUInt32 &&& Int32.toUInt32 31)).toInt32) &&& 1431655765)) &&& 858993459) + ((((a0 - (((a0.toUInt32 >>> ((1 : Int32).toUInt32 &&& Int32.toUInt32 31)).toInt32) &&& 1431655765)).toUInt32 >>> ((2 : Int32).toUInt32 &&& Int32.toUInt32 31)).toInt32) &&& 858993459)).toUInt32 >>> ((4 : Int32).toUInt32 &&& Int32.toUInt32 31)).toInt32)) &&& 252645135).toUInt32 >>> ((8 : Int32).toUInt32 &&& Int32.toUInt32 31)).toInt32))]) rfl rfl rfl ?_
  refine ex_op pm_M116 (pc_q := 46) (st_q := [.int ((((((((a0 - (((a0.toUInt32 >>> ((1 : Int32).toUInt32 &&& Int32.toUInt32 31)).toInt32) &&& 1431655765)) &&& 858993459) + ((((a0 - (((a0.toUInt32 >>> ((1 : Int32).toUInt32 &&& Int32.toUInt32 31)).toInt32) &&& 1431655765)).toUInt32 >>> ((2 : Int32).toUInt32 &&& Int32.toUInt32 31)).toInt32) &&& 858993459)) + (((((a0 - (((a0.toUInt32 >>> ((1 : Int32).toUInt32 &&& Int32.toUInt32 31)).toInt32) &&& 1431655765)) &&& 858993459) + ((((a0 - (((a0.toUInt32 >>> ((1 : Int32).toUInt32 &&& Int32.toUInt32 31)).toInt32) &&& 1431655765)).toUInt32 >>> ((2 : Int32).toUInt32 &&& Int32.toUInt32 31)).toInt32) &&& 858993459)).toUInt32 >>> ((4 : Int32).toUInt32 &&& Int32.toUInt32 31)).toInt32)) &&& 252645135) + (((((((a0 - (((a0.toUInt32 >>> ((1 : Int32).toUInt32 &&& Int32.toUInt32 31)).toInt32) &&& 1431655765)) &&& 858993459) + ((((a0 - (((a0.toUInt32 >>> ((1 : Int32).toUInt32 &&& Int32.toUInt32 31)).toInt32) &&& 1431655765)).toUInt32 >>> ((2 : Int32).toUInt32 &&& Int32.toUInt32 31)).toInt32) &&& 858993459)) + (((((a0 - (((a0.toUInt32 >>> ((1 : Int32).toUInt32 &&& Int32.toUInt32 31)).toInt32) &&& 1431655765)) &&& 858993459) + ((((a0 - (((a0.toUInt32 >>> ((1 : Int32).toUInt32 &&& Int32.toUInt32 31)).toInt32) &&& 1431655765)).toUInt32 >>> ((2 : Int32).toUInt32 &&& Int32.toUInt32 31)).toInt32) &&& 858993459)).toUInt32 >>> ((4 : Int32).toUInt32 &&& Int32.toUInt32 31)).toInt32)) &&& 252645135).toUInt32 >>> ((8 : Int32).toUInt32 &&& Int32.toUInt32 31)).toInt32)).toUInt32 >>> ((16 : Int32).toUInt32 &&& Int32.toUInt32 31)).toInt32), .int ((((((a0 - (((a0.toUInt32 >>> ((1 : Int32).toUInt32 &&& Int32.toUInt32 31)).toInt32) &&& 1431655765)) &&& 858993459) + ((((a0 - (((a0.toUInt32 >>> ((1 : Int32).toUInt32 &&& Int32.toUInt32 31)).toInt32) &&& 1431655765)).toUInt32 >>> ((2 : Int32).toUInt32 &&& Int32.toUInt32 31)).toInt32) &&& 858993459)) + (((((a0 - (((a0.toUInt32 >>> ((1 : Int32).toUInt32 &&& Int32.toUInt32 31)).toInt32) &&& 1431655765)) &&& 858993459) + ((((a0 - (((a0.toUInt32 >>> ((1 : Int32).toUInt32 &&& Int32.toUInt32 31)).toInt32) &&& 1431655765)).toUInt32 >>> ((2 : Int32).toUInt32 &&& Int32.toUInt32 31)).toInt32) &&& 858993459)).toUInt32 >>> ((4 : Int32).toUInt32 &&& Int32.toUInt32 31)).toInt32)) &&& 252645135) + (((((((a0 - (((a0.toUInt32 >>> ((1 : Int32).toUInt32 &&& Int32.toUInt32 31)).toInt32) &&& 1431655765)) &&& 858993459) + ((((a0 - (((a0.toUInt32 >>> ((1 : Int32).toUInt32 &&& Int32.toUInt32 31)).toInt32) &&& 1431655765)).toUInt32 >>> ((2 : Int32).toUInt32 &&& Int32.toUInt32 31)).toInt32) &&& 858993459)) + (((((a0 - (((a0.toUInt32 >>> ((1 : Int32).toUInt32 &&& Int32.toUInt32 31)).toInt32) &&& 1431655765)) &&& 858993459) + ((((a0 - (((a0.toUInt32 >>> ((1 : Int32).toUInt32 &&& Int32.toUInt32 31)).toInt32) &&& 1431655765)).toUInt32 >>> ((2 : Int32).toUInt32 &&& Int32.toUInt32 31)).toInt32) &&& 858993459)).toUInt32 >>> ((4 : Int32).toUInt32 &&& Int32.toUInt32 31)).toInt32)) &&& 252645135).toUInt32 >>> ((8 : Int32).toUInt32 &&& Int32.toUInt32 31)).toInt32))]) rfl rfl rfl ?_
  refine ex_op pm_M116 (pc_q := 47) (st_q := [.int (((((((a0 - (((a0.toUInt32 >>> ((1 : Int32).toUInt32 &&& Int32.toUInt32 31)).toInt32) &&& 1431655765)) &&& 858993459) + ((((a0 - (((a0.toUInt32 >>> ((1 : Int32).toUInt32 &&& Int32.toUInt32 31)).toInt32) &&& 1431655765)).toUInt32 >>> ((2 : Int32).toUInt32 &&& Int32.toUInt32 31)).toInt32) &&& 858993459)) + (((((a0 - (((a0.toUInt32 >>> ((1 : Int32).toUInt32 &&& Int32.toUInt32 31)).toInt32) &&& 1431655765)) &&& 858993459) + ((((a0 - (((a0.toUInt32 >>> ((1 : Int32).toUInt32 &&& Int32.toUInt32 31)).toInt32) &&& 1431655765)).toUInt32 >>> ((2 : Int32).toUInt32 &&& Int32.toUInt32 31)).toInt32) &&& 858993459)).toUInt32 >>> ((4 : Int32).toUInt32 &&& Int32.toUInt32 31)).toInt32)) &&& 252645135) + (((((((a0 - (((a0.toUInt32 >>> ((1 : Int32).toUInt32 &&& Int32.toUInt32 31)).toInt32) &&& 1431655765)) &&& 858993459) + ((((a0 - (((a0.toUInt32 >>> ((1 : Int32).toUInt32 &&& Int32.toUInt32 31)).toInt32) &&& 1431655765)).toUInt32 >>> ((2 : Int32).toUInt32 &&& Int32.toUInt32 31)).toInt32) &&& 858993459)) + (((((a0 - (((a0.toUInt32 >>> ((1 : Int32).toUInt32 &&& Int32.toUInt32 31)).toInt32) &&& 1431655765)) &&& 858993459) + ((((a0 - (((a0.toUInt32 >>> ((1 : Int32).toUInt32 &&& Int32.toUInt32 31)).toInt32) &&& 1431655765)).toUInt32 >>> ((2 : Int32).toUInt32 &&& Int32.toUInt32 31)).toInt32) &&& 858993459)).toUInt32 >>> ((4 : Int32).toUInt32 &&& Int32.toUInt32 31)).toInt32)) &&& 252645135).toUInt32 >>> ((8 : Int32).toUInt32 &&& Int32.toUInt32 31)).toInt32)) + ((((((((a0 - (((a0.toUInt32 >>> ((1 : Int32).toUInt32 &&& Int32.toUInt32 31)).toInt32) &&& 1431655765)) &&& 858993459) + ((((a0 - (((a0.toUInt32 >>> ((1 : Int32).toUInt32 &&& Int32.toUInt32 31)).toInt32) &&& 1431655765)).toUInt32 >>> ((2 : Int32).toUInt32 &&& Int32.toUInt32 31)).toInt32) &&& 858993459)) + (((((a0 - (((a0.toUInt32 >>> ((1 : Int32).toUInt32 &&& Int32.toUInt32 31)).toInt32) &&& 1431655765)) &&& 858993459) + ((((a0 - (((a0.toUInt32 >>> ((1 : Int32).toUInt32 &&& Int32.toUInt32 31)).toInt32) &&& 1431655765)).toUInt32 >>> ((2 : Int32).toUInt32 &&& Int32.toUInt32 31)).toInt32) &&& 858993459)).toUInt32 >>> ((4 : Int32).toUInt32 &&& Int32.toUInt32 31)).toInt32)) &&& 252645135) + (((((((a0 - (((a0.toUInt32 >>> ((1 : Int32).toUInt32 &&& Int32.toUInt32 31)).toInt32) &&& 1431655765)) &&& 858993459) + ((((a0 - (((a0.toUInt32 >>> ((1 : Int32).toUInt32 &&& Int32.toUInt32 31)).toInt32) &&& 1431655765)).toUInt32 >>> ((2 : Int32).toUInt32 &&& Int32.toUInt32 31)).toInt32) &&& 858993459)) + (((((a0 - (((a0.toUInt32 >>> ((1 : Int32).toUInt32 &&& Int32.toUInt32 31)).toInt32) &&& 1431655765)) &&& 858993459) + ((((a0 - (((a0.toUInt32 >>> ((1 : Int32).toUInt32 &&& Int32.toUInt32 31)).toInt32) &&& 1431655765)).toUInt32 >>> ((2 : Int32).toUInt32 &&& Int32.toUInt32 31)).toInt32) &&& 858993459)).toUInt32 >>> ((4 : Int32).toUInt32 &&& Int32.toUInt32 31)).toInt32)) &&& 252645135).toUInt32 >>> ((8 : Int32).toUInt32 &&& Int32.toUInt32 31)).toInt32)).toUInt32 >>> ((16 : Int32).toUInt32 &&& Int32.toUInt32 31)).toInt32))]) rfl rfl rfl ?_
  refine ex_lo pm_M116 (pc_q := 48) (ls_q := [.int (((((((a0 - (((a0.toUInt32 >>> ((1 : Int32).toUInt32 &&& Int32.toUInt32 31)).toInt32) &&& 1431655765)) &&& 858993459) + ((((a0 - (((a0.toUInt32 >>> ((1 : Int32).toUInt32 &&& Int32.toUInt32 31)).toInt32) &&& 1431655765)).toUInt32 >>> ((2 : Int32).toUInt32 &&& Int32.toUInt32 31)).toInt32) &&& 858993459)) + (((((a0 - (((a0.toUInt32 >>> ((1 : Int32).toUInt32 &&& Int32.toUInt32 31)).toInt32) &&& 1431655765)) &&& 858993459) + ((((a0 - (((a0.toUInt32 >>> ((1 : Int32).toUInt32 &&& Int32.toUInt32 31)).toInt32) &&& 1431655765)).toUInt32 >>> ((2 : Int32).toUInt32 &&& Int32.toUInt32 31)).toInt32) &&& 858993459)).toUInt32 >>> ((4 : Int32).toUInt32 &&& Int32.toUInt32 31)).toInt32)) &&& 252645135) + (((((((a0 - (((a0.toUInt32 >>> ((1 : Int32).toUInt32 &&& Int32.toUInt32 31)).toInt32) &&& 1431655765)) &&& 858993459) + ((((a0 - (((a0.toUInt32 >>> ((1 : Int32).toUInt32 &&& Int32.toUInt32 31)).toInt32) &&& 1431655765)).toUInt32 >>> ((2 : Int32).toUInt32 &&& Int32.toUInt32 31)).toInt32) &&& 858993459)) + (((((a0 - (((a0.toUInt32 >>> ((1 : Int32).toUInt32 &&& Int32.toUInt32 31)).toInt32) &&& 1431655765)) &&& 858993459) + ((((a0 - (((a0.toUInt32 >>> ((1 : Int32).toUInt32 &&& Int32.toUInt32 31)).toInt32) &&& 1431655765)).toUInt32 >>> ((2 : Int32).toUInt32 &&& Int32.toUInt32 31)).toInt32) &&& 858993459)).toUInt32 >>> ((4 : Int32).toUInt32 &&& Int32.toUInt32 31)).toInt32)) &&& 252645135).toUInt32 >>> ((8 : Int32).toUInt32 &&& Int32.toUInt32 31)).toInt32)) + ((((((((a0 - (((a0.toUInt32 >>> ((1 : Int32).toUInt32 &&& Int32.toUInt32 31)).toInt32) &&& 1431655765)) &&& 858993459) + ((((a0 - (((a0.toUInt32 >>> ((1 : Int32).toUInt32 &&& Int32.toUInt32 31)).toInt32) &&& 1431655765)).toUInt32 >>> ((2 : Int32).toUInt32 &&& Int32.toUInt32 31)).toInt32) &&& 858993459)) + (((((a0 - (((a0.toUInt32 >>> ((1 : Int32).toUInt32 &&& Int32.toUInt32 31)).toInt32) &&& 1431655765)) &&& 858993459) + ((((a0 - (((a0.toUInt32 >>> ((1 : Int32).toUInt32 &&& Int32.toUInt32 31)).toInt32) &&& 1431655765)).toUInt32 >>> ((2 : Int32).toUInt32 &&& Int32.toUInt32 31)).toInt32) &&& 858993459)).toUInt32 >>> ((4 : Int32).toUInt32 &&& Int32.toUInt32 31)).toInt32)) &&& 252645135) + (((((((a0 - (((a0.toUInt32 >>> ((1 : Int32).toUInt32 &&& Int32.toUInt32 31)).toInt32) &&& 1431655765)) &&& 858993459) + ((((a0 - (((a0.toUInt32 >>> ((1 : Int32).toUInt32 &&& Int32.toUInt32 31)).toInt32) &&& 1431655765)).toUInt32 >>> ((2 : Int32).toUInt32 &&& Int32.toUInt32 31)).toInt32) &&& 858993459)) + (((((a0 - (((a0.toUInt32 >>> ((1 : Int32).toUInt32 &&& Int32.toUInt32 31)).toInt32) &&& 1431655765)) &&& 858993459) + ((((a0 - (((a0.toUInt32 >>> ((1 : Int32).toUInt32 &&& Int32.toUInt32 31)).toInt32) &&& 1431655765)).toUInt32 >>> ((2 : Int32).toUInt32 &&& Int32.toUInt32 31)).toInt32) &&& 858993459)).toUInt32 >>> ((4 : Int32).toUInt32 &&& Int32.toUInt32 31)).toInt32)) &&& 252645135).toUInt32 >>> ((8 : Int32).toUInt32 &&& Int32.toUInt32 31)).toInt32)).toUInt32 >>> ((16 : Int32).toUInt32 &&& Int32.toUInt32 31)).toInt32))]) (st_q := []) rfl rfl rfl ?_
  refine ex_lo pm_M116 (pc_q := 49) (ls_q := [.int (((((((a0 - (((a0.toUInt32 >>> ((1 : Int32).toUInt32 &&& Int32.toUInt32 31)).toInt32) &&& 1431655765)) &&& 858993459) + ((((a0 - (((a0.toUInt32 >>> ((1 : Int32).toUInt32 &&& Int32.toUInt32 31)).toInt32) &&& 1431655765)).toUInt32 >>> ((2 : Int32).toUInt32 &&& Int32.toUInt32 31)).toInt32) &&& 858993459)) + (((((a0 - (((a0.toUInt32 >>> ((1 : Int32).toUInt32 &&& Int32.toUInt32 31)).toInt32) &&& 1431655765)) &&& 858993459) + ((((a0 - (((a0.toUInt32 >>> ((1 : Int32).toUInt32 &&& Int32.toUInt32 31)).toInt32) &&& 1431655765)).toUInt32 >>> ((2 : Int32).toUInt32 &&& Int32.toUInt32 31)).toInt32) &&& 858993459)).toUInt32 >>> ((4 : Int32).toUInt32 &&& Int32.toUInt32 31)).toInt32)) &&& 252645135) + (((((((a0 - (((a0.toUInt32 >>> ((1 : Int32).toUInt32 &&& Int32.toUInt32 31)).toInt32) &&& 1431655765)) &&& 858993459) + ((((a0 - (((a0.toUInt32 >>> ((1 : Int32).toUInt32 &&& Int32.toUInt32 31)).toInt32) &&& 1431655765)).toUInt32 >>> ((2 : Int32).toUInt32 &&& Int32.toUInt32 31)).toInt32) &&& 858993459)) + (((((a0 - (((a0.toUInt32 >>> ((1 : Int32).toUInt32 &&& Int32.toUInt32 31)).toInt32) &&& 1431655765)) &&& 858993459) + ((((a0 - (((a0.toUInt32 >>> ((1 : Int32).toUInt32 &&& Int32.toUInt32 31)).toInt32) &&& 1431655765)).toUInt32 >>> ((2 : Int32).toUInt32 &&& Int32.toUInt32 31)).toInt32) &&& 858993459)).toUInt32 >>> ((4 : Int32).toUInt32 &&& Int32.toUInt32 31)).toInt32)) &&& 252645135).toUInt32 >>> ((8 : Int32).toUInt32 &&& Int32.toUInt32 31)).toInt32)) + ((((((((a0 - (((a0.toUInt32 >>> ((1 : Int32).toUInt32 &&& Int32.toUInt32 31)).toInt32) &&& 1431655765)) &&& 858993459) + ((((a0 - (((a0.toUInt32 >>> ((1 : Int32).toUInt32 &&& Int32.toUInt32 31)).toInt32) &&& 1431655765)).toUInt32 >>> ((2 : Int32).toUInt32 &&& Int32.toUInt32 31)).toInt32) &&& 858993459)) + (((((a0 - (((a0.toUInt32 >>> ((1 : Int32).toUInt32 &&& Int32.toUInt32 31)).toInt32) &&& 1431655765)) &&& 858993459) + ((((a0 - (((a0.toUInt32 >>> ((1 : Int32).toUInt32 &&& Int32.toUInt32 31)).toInt32) &&& 1431655765)).toUInt32 >>> ((2 : Int32).toUInt32 &&& Int32.toUInt32 31)).toInt32) &&& 858993459)).toUInt32 >>> ((4 : Int32).toUInt32 &&& Int32.toUInt32 31)).toInt32)) &&& 252645135) + (((((((a0 - (((a0.toUInt32 >>> ((1 : Int32).toUInt32 &&& Int32.toUInt32 31)).toInt32) &&& 1431655765)) &&& 858993459) + ((((a0 - (((a0.toUInt32 >>> ((1 : Int32).toUInt32 &&& Int32.toUInt32 31)).toInt32) &&& 1431655765)).toUInt32 >>> ((2 : Int32).toUInt32 &&& Int32.toUInt32 31)).toInt32) &&& 858993459)) + (((((a0 - (((a0.toUInt32 >>> ((1 : Int32).toUInt32 &&& Int32.toUInt32 31)).toInt32) &&& 1431655765)) &&& 858993459) + ((((a0 - (((a0.toUInt32 >>> ((1 : Int32).toUInt32 &&& Int32.toUInt32 31)).toInt32) &&& 1431655765)).toUInt32 >>> ((2 : Int32).toUInt32 &&& Int32.toUInt32 31)).toInt32) &&& 858993459)).toUInt32 >>> ((4 : Int32).toUInt32 &&& Int32.toUInt32 31)).toInt32)) &&& 252645135).toUInt32 >>> ((8 : Int32).toUInt32 &&& Int32.toUInt32 31)).toInt32)).toUInt32 >>> ((16 : Int32).toUInt32 &&& Int32.toUInt32 31)).toInt32))]) (st_q := [.int (((((((a0 - (((a0.toUInt32 >>> ((1 : Int32).toUInt32 &&& Int32.toUInt32 31)).toInt32) &&& 1431655765)) &&& 858993459) + ((((a0 - (((a0.toUInt32 >>> ((1 : Int32).toUInt32 &&& Int32.toUInt32 31)).toInt32) &&& 1431655765)).toUInt32 >>> ((2 : Int32).toUInt32 &&& Int32.toUInt32 31)).toInt32) &&& 858993459)) + (((((a0 - (((a0.toUInt32 >>> ((1 : Int32).toUInt32 &&& Int32.toUInt32 31)).toInt32) &&& 1431655765)) &&& 858993459) + ((((a0 - (((a0.toUInt32 >>> ((1 : Int32).toUInt32 &&& Int32.toUInt32 31)).toInt32) &&& 1431655765)).toUInt32 >>> ((2 : Int32).toUInt32 &&& Int32.toUInt32 31)).toInt32) &&& 858993459)).toUInt32 >>> ((4 : Int32).toUInt32 &&& Int32.toUInt32 31)).toInt32)) &&& 252645135) + (((((((a0 - (((a0.toUInt32 >>> ((1 : Int32).toUInt32 &&& Int32.toUInt32 31)).toInt32) &&& 1431655765)) &&& 858993459) + ((((a0 - (((a0.toUInt32 >>> ((1 : Int32).toUInt32 &&& Int32.toUInt32 31)).toInt32) &&& 1431655765)).toUInt32 >>> ((2 : Int32).toUInt32 &&& Int32.toUInt32 31)).toInt32) &&& 858993459)) + (((((a0 - (((a0.toUInt32 >>> ((1 : Int32).toUInt32 &&& Int32.toUInt32 31)).toInt32) &&& 1431655765)) &&& 858993459) + ((((a0 - (((a0.toUInt32 >>> ((1 : Int32).toUInt32 &&& Int32.toUInt32 31)).toInt32) &&& 1431655765)).toUInt32 >>> ((2 : Int32).toUInt32 &&& Int32.toUInt32 31)).toInt32) &&& 858993459)).toUInt32 >>> ((4 : Int32).toUInt32 &&& Int32.toUInt32 31)).toInt32)) &&& 252645135).toUInt32 >>> ((8 : Int32).toUInt32 &&& Int32.toUInt32 31)).toInt32)) + ((((((((a0 - (((a0.toUInt32 >>> ((1 : Int32).toUInt32 &&& Int32.toUInt32 31)).toInt32) &&& 1431655765)) &&& 858993459) + ((((a0 - (((a0.toUInt32 >>> ((1 : Int32).toUInt32 &&& Int32.toUInt32 31)).toInt32) &&& 1431655765)).toUInt32 >>> ((2 : Int32).toUInt32 &&& Int32.toUInt32 31)).toInt32) &&& 858993459)) + (((((a0 - (((a0.toUInt32 >>> ((1 : Int32).toUInt32 &&& Int32.toUInt32 31)).toInt32) &&& 1431655765)) &&& 858993459) + ((((a0 - (((a0.toUInt32 >>> ((1 : Int32).toUInt32 &&& Int32.toUInt32 31)).toInt32) &&& 1431655765)).toUInt32 >>> ((2 : Int32).toUInt32 &&& Int32.toUInt32 31)).toInt32) &&& 858993459)).toUInt32 >>> ((4 : Int32).toUInt32 &&& Int32.toUInt32 31)).toInt32)) &&& 252645135) + (((((((a0 - (((a0.toUInt32 >>> ((1 : Int32).toUInt32 &&& Int32.toUInt32 31)).toInt32) &&& 1431655765)) &&& 858993459) + ((((a0 - (((a0.toUInt32 >>> ((1 : Int32).toUInt32 &&& Int32.toUInt32 31)).toInt32) &&& 1431655765)).toUInt32 >>> ((2 : Int32).toUInt32 &&& Int32.toUInt32 31)).toInt32) &&& 858993459)) + (((((a0 - (((a0.toUInt32 >>> ((1 : Int32).toUInt32 &&& Int32.toUInt32 31)).toInt32) &&& 1431655765)) &&& 858993459) + ((((a0 - (((a0.toUInt32 >>> ((1 : Int32).toUInt32 &&& Int32.toUInt32 31)).toInt32) &&& 1431655765)).toUInt32 >>> ((2 : Int32).toUInt32 &&& Int32.toUInt32 31)).toInt32) &&& 858993459)).toUInt32 >>> ((4 : Int32).toUInt32 &&& Int32.toUInt32 31)).toInt32)) &&& 252645135).toUInt32 >>> ((8 : Int32).toUInt32 &&& Int32.toUInt32 31)).toInt32)).toUInt32 >>> ((16 : Int32).toUInt32 &&& Int32.toUInt32 31)).toInt32))]) rfl rfl rfl ?_
  refine ex_op pm_M116 (pc_q := 51) (st_q := [.int 63, .int (((((((a0 - (((a0.toUInt32 >>> ((1 : Int32).toUInt32 &&& Int32.toUInt32 31)).toInt32) &&& 1431655765)) &&& 858993459) + ((((a0 - (((a0.toUInt32 >>> ((1 : Int32).toUInt32 &&& Int32.toUInt32 31)).toInt32) &&& 1431655765)).toUInt32 >>> ((2 : Int32).toUInt32 &&& Int32.toUInt32 31)).toInt32) &&& 858993459)) + (((((a0 - (((a0.toUInt32 >>> ((1 : Int32).toUInt32 &&& Int32.toUInt32 31)).toInt32) &&& 1431655765)) &&& 858993459) + ((((a0 - (((a0.toUInt32 >>> ((1 : Int32).toUInt32 &&& Int32.toUInt32 31)).toInt32) &&& 1431655765)).toUInt32 >>> ((2 : Int32).toUInt32 &&& Int32.toUInt32 31)).toInt32) &&& 858993459)).toUInt32 >>> ((4 : Int32).toUInt32 &&& Int32.toUInt32 31)).toInt32)) &&& 252645135) + (((((((a0 - (((a0.toUInt32 >>> ((1 : Int32).toUInt32 &&& Int32.toUInt32 31)).toInt32) &&& 1431655765)) &&& 858993459) + ((((a0 - (((a0.toUInt32 >>> ((1 : Int32).toUInt32 &&& Int32.toUInt32 31)).toInt32) &&& 1431655765)).toUInt32 >>> ((2 : Int32).toUInt32 &&& Int32.toUInt32 31)).toInt32) &&& 858993459)) + (((((a0 - (((a0.toUInt32 >>> ((1 : Int32).toUInt32 &&& Int32.toUInt32 31)).toInt32) &&& 1431655765)) &&& 858993459) + ((((a0 - (((a0.toUInt32 >>> ((1 : Int32).toUInt32 &&& Int32.toUInt32 31)).toInt32) &&& 1431655765)).toUInt32 >>> ((2 : Int32).toUInt32 &&& Int32.toUInt32 31)).toInt32) &&& 858993459)).toUInt32 >>> ((4 : Int32).toUInt32 &&& Int32.toUInt32 31)).toInt32)) &&& 252645135).toUInt32 >>> ((8 : Int32).toUInt32 &&& Int32.toUInt32 31)).toInt32)) + ((((((((a0 - (((a0.toUInt32 >>> ((1 : Int32).toUInt32 &&& Int32.toUInt32 31)).toInt32) &&& 1431655765)) &&& 858993459) + ((((a0 - (((a0.toUInt32 >>> ((1 : Int32).toUInt32 &&& Int32.toUInt32 31)).toInt32) &&& 1431655765)).toUInt32 >>> ((2 : Int32).toUInt32 &&& Int32.toUInt32 31)).toInt32) &&& 858993459)) + (((((a0 - (((a0.toUInt32 >>> ((1 : Int32).toUInt32 &&& Int32.toUInt32 31)).toInt32) &&& 1431655765)) &&& 858993459) + ((((a0 - (((a0.toUInt32 >>> ((1 : Int32).toUInt32 &&& Int32.toUInt32 31)).toInt32) &&& 1431655765)).toUInt32 >>> ((2 : Int32).toUInt32 &&& Int32.toUInt32 31)).toInt32) &&& 858993459)).toUInt32 >>> ((4 : Int32).toUInt32 &&& Int32.toUInt32 31)).toInt32)) &&& 252645135) + (((((((a0 - (((a0.toUInt32 >>> ((1 : Int32).toUInt32 &&& Int32.toUInt32 31)).toInt32) &&& 1431655765)) &&& 858993459) + ((((a0 - (((a0.toUInt32 >>> ((1 : Int32).toUInt32 &&& Int32.toUInt32 31)).toInt32) &&& 1431655765)).toUInt32 >>> ((2 : Int32).toUInt32 &&& Int32.toUInt32 31)).toInt32) &&& 858993459)) + (((((a0 - (((a0.toUInt32 >>> ((1 : Int32).toUInt32 &&& Int32.toUInt32 31)).toInt32) &&& 1431655765)) &&& 858993459) + ((((a0 - (((a0.toUInt32 >>> ((1 : Int32).toUInt32 &&& Int32.toUInt32 31)).toInt32) &&& 1431655765)).toUInt32 >>> ((2 : Int32).toUInt32 &&& Int32.toUInt32 31)).toInt32) &&& 858993459)).toUInt32 >>> ((4 : Int32).toUInt32 &&& Int32.toUInt32 31)).toInt32)) &&& 252645135).toUInt32 >>> ((8 : Int32).toUInt32 &&& Int32.toUInt32 31)).toInt32)).toUInt32 >>> ((16 : Int32).toUInt32 &&& Int32.toUInt32 31)).toInt32))]) rfl rfl rfl ?_
  refine ex_op pm_M116 (pc_q := 52) (st_q := [.int ((((((((a0 - (((a0.toUInt32 >>> ((1 : Int32).toUInt32 &&& Int32.toUInt32 31)).toInt32) &&& 1431655765)) &&& 858993459) + ((((a0 - (((a0.toUInt32 >>> ((1 : Int32).toUInt32 &&& Int32.toUInt32 31)).toInt32) &&& 1431655765)).toUInt32 >>> ((2 : Int32).toUInt32 &&& Int32.toUInt32 31)).toInt32) &&& 858993459)) + (((((a0 - (((a0.toUInt32 >>> ((1 : Int32).toUInt32 &&& Int32.toUInt32 31)).toInt32) &&& 1431655765)) &&& 858993459) + ((((a0 - (((a0.toUInt32 >>> ((1 : Int32).toUInt32 &&& Int32.toUInt32 31)).toInt32) &&& 1431655765)).toUInt32 >>> ((2 : Int32).toUInt32 &&& Int32.toUInt32 31)).toInt32) &&& 858993459)).toUInt32 >>> ((4 : Int32).toUInt32 &&& Int32.toUInt32 31)).toInt32)) &&& 252645135) + (((((((a0 - (((a0.toUInt32 >>> ((1 : Int32).toUInt32 &&& Int32.toUInt32 31)).toInt32) &&& 1431655765)) &&& 858993459) + ((((a0 - (((a0.toUInt32 >>> ((1 : Int32).toUInt32 &&& Int32.toUInt32 31)).toInt32) &&& 1431655765)).toUInt32 >>> ((2 : Int32).toUInt32 &&& Int32.toUInt32 31)).toInt32) &&& 858993459)) + (((((a0 - (((a0.toUInt32 >>> ((1 : Int32).toUInt32 &&& Int32.toUInt32 31)).toInt32) &&& 1431655765)) &&& 858993459) + ((((a0 - (((a0.toUInt32 >>> ((1 : Int32).toUInt32 &&& Int32.toUInt32 31)).toInt32) &&& 1431655765)).toUInt32 >>> ((2 : Int32).toUInt32 &&& Int32.toUInt32 31)).toInt32) &&& 858993459)).toUInt32 >>> ((4 : Int32).toUInt32 &&& Int32.toUInt32 31)).toInt32)) &&& 252645135).toUInt32 >>> ((8 : Int32).toUInt32 &&& Int32.toUInt32 31)).toInt32)) + ((((((((a0 - (((a0.toUInt32 >>> ((1 : Int32).toUInt32 &&& Int32.toUInt32 31)).toInt32) &&& 1431655765)) &&& 858993459) + ((((a0 - (((a0.toUInt32 >>> ((1 : Int32).toUInt32 &&& Int32.toUInt32 31)).toInt32) &&& 1431655765)).toUInt32 >>> ((2 : Int32).toUInt32 &&& Int32.toUInt32 31)).toInt32) &&& 858993459)) + (((((a0 - (((a0.toUInt32 >>> ((1 : Int32).toUInt32 &&& Int32.toUInt32 31)).toInt32) &&& 1431655765)) &&& 858993459) + ((((a0 - (((a0.toUInt32 >>> ((1 : Int32).toUInt32 &&& Int32.toUInt32 31)).toInt32) &&& 1431655765)).toUInt32 >>> ((2 : Int32).toUInt32 &&& Int32.toUInt32 31)).toInt32) &&& 858993459)).toUInt32 >>> ((4 : Int32).toUInt32 &&& Int32.toUInt32 31)).toInt32)) &&& 252645135) + (((((((a0 - (((a0.toUInt32 >>> ((1 : Int32).toUInt32 &&& Int32.toUInt32 31)).toInt32) &&& 1431655765)) &&& 858993459) + ((((a0 - (((a0.toUInt32 >>> ((1 : Int32).toUInt32 &&& Int32.toUInt32 31)).toInt32) &&& 1431655765)).toUInt32 >>> ((2 : Int32).toUInt32 &&& Int32.toUInt32 31)).toInt32) &&& 858993459)) + (((((a0 - (((a0.toUInt32 >>> ((1 : Int32).toUInt32 &&& Int32.toUInt32 31)).toInt32) &&& 1431655765)) &&& 858993459) + ((((a0 - (((a0.toUInt32 >>> ((1 : Int32).toUInt32 &&& Int32.toUInt32 31)).toInt32) &&& 1431655765)).toUInt32 >>> ((2 : Int32).toUInt32 &&& Int32.toUInt32 31)).toInt32) &&& 858993459)).toUInt32 >>> ((4 : Int32).toUInt32 &&& Int32.toUInt32 31)).toInt32)) &&& 252645135).toUInt32 >>> ((8 : Int32).toUInt32 &&& Int32.toUInt32 31)).toInt32)).toUInt32 >>> ((16 : Int32).toUInt32 &&& Int32.toUInt32 31)).toInt32)) &&& 63)]) rfl rfl rfl ?_
  exact ex_retI pm_M116 rfl (⟨_, rfl, v0 a0 S⟩)
