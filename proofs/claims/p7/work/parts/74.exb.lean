set_option maxRecDepth 100000 in
set_option maxHeartbeats 4000000 in
/-- SilentTable$Tokens.takeDigits -/
theorem ev20 {C : ex_S → ex_S → Prop} {I5 : ex_S → ex_S → Prop} 
    (v0 : ∀ (S : ex_S), I5 S (ex_sx S 30 5 0)) 
    (v1 : ∀ (S : ex_S) (T : ex_S), I5 S T → T.1 30 1 ≤ T.1 30 2 → 2 < (T.1 30 2) - (T.1 30 3) → C S (ex_sx T 30 4 4)) 
    (v2 : ∀ (S : ex_S) (T : ex_S), I5 S T → T.1 30 1 ≤ T.1 30 2 → ¬ (2 < (T.1 30 2) - (T.1 30 3)) → C S (ex_sx T 30 4 2)) 
    (v3 : ∀ (S : ex_S) (T : ex_S), I5 S T → ¬ (T.1 30 1 ≤ T.1 30 2) → vf19 (T.1 18 ((T.1 30 2).toNatClampNeg)) = 0 → 2 < (T.1 30 2) - (T.1 30 3) → C S (ex_sx T 30 4 4)) 
    (v4 : ∀ (S : ex_S) (T : ex_S), I5 S T → ¬ (T.1 30 1 ≤ T.1 30 2) → vf19 (T.1 18 ((T.1 30 2).toNatClampNeg)) = 0 → ¬ (2 < (T.1 30 2) - (T.1 30 3)) → C S (ex_sx T 30 4 2)) 
    (v5 : ∀ (S : ex_S) (T : ex_S), I5 S T → ¬ (T.1 30 1 ≤ T.1 30 2) → ¬ (vf19 (T.1 18 ((T.1 30 2).toNatClampNeg)) = 0) → 2 ≤ (T.1 30 2) - (T.1 30 3) → I5 S (ex_sx T 30 2 ((T.1 30 2) + 1))) 
    (v6 : ∀ (S : ex_S) (T : ex_S), I5 S T → ¬ (T.1 30 1 ≤ T.1 30 2) → ¬ (vf19 (T.1 18 ((T.1 30 2).toNatClampNeg)) = 0) → ¬ (2 ≤ (T.1 30 2) - (T.1 30 3)) → I5 S (ex_sx (ex_sx T 30 5 ((((T.1 30 5) * 10) + (T.1 18 ((T.1 30 2).toNatClampNeg))) - 48)) 30 2 ((T.1 30 2) + 1))) : es20 C := by
  intro N d  S
  have LL : ∀ N : Nat, (∀ (T : ex_S), I5 S T → ex_P N d 20 5 [.ref 30] [] T (fun r S_q => r = none ∧ C S S_q)) := by
    intro N
    induction N with
    | zero => exact fun _ _ => ex_zero
    | succ N ih =>
      have ih5 := ih
      have L5 : ∀ (T : ex_S), I5 S T → ex_P (N + 1) d 20 5 [.ref 30] [] T (fun r S_q => r = none ∧ C S S_q) := by
        intro T hI
        refine ex_lo pm_M20 (pc_q := 6) (ls_q := [.ref 30]) (st_q := [.ref 30]) rfl rfl rfl ?_
        refine ex_getI' pm_M20 (pc_q := 9) (v := T.1 30 2) rfl rfl rfl rfl rfl rfl ?_
        refine ex_lo pm_M20 (pc_q := 10) (ls_q := [.ref 30]) (st_q := [.ref 30, .int (T.1 30 2)]) rfl rfl rfl ?_
        refine ex_getI' pm_M20 (pc_q := 13) (v := T.1 30 1) rfl rfl rfl rfl rfl rfl ?_
        refine ex_icmp pm_M20 (t := 81) (pc_q := 16) rfl rfl rfl (fun c1 => ?_) (fun c1 => ?_)
        · -- T.1 30 1 ≤ T.1 30 2
          refine ex_lo pm_M20 (pc_q := 82) (ls_q := [.ref 30]) (st_q := [.ref 30]) rfl rfl rfl ?_
          refine ex_lo pm_M20 (pc_q := 83) (ls_q := [.ref 30]) (st_q := [.ref 30, .ref 30]) rfl rfl rfl ?_
          refine ex_getI' pm_M20 (pc_q := 86) (v := T.1 30 2) rfl rfl rfl rfl rfl rfl ?_
          refine ex_lo pm_M20 (pc_q := 87) (ls_q := [.ref 30]) (st_q := [.ref 30, .int (T.1 30 2), .ref 30]) rfl rfl rfl ?_
          refine ex_getI' pm_M20 (pc_q := 90) (v := T.1 30 3) rfl rfl rfl rfl rfl rfl ?_
          refine ex_op pm_M20 (pc_q := 91) (st_q := [.int ((T.1 30 2) - (T.1 30 3)), .ref 30]) rfl rfl rfl ?_
          refine ex_op pm_M20 (pc_q := 92) (st_q := [.int 2, .int ((T.1 30 2) - (T.1 30 3)), .ref 30]) rfl rfl rfl ?_
          refine ex_icmp pm_M20 (t := 99) (pc_q := 95) rfl rfl rfl (fun c2 => ?_) (fun c2 => ?_)
          · -- 2 < (T.1 30 2) - (T.1 30 3)
            refine ex_op pm_M20 (pc_q := 100) (st_q := [.int 4, .ref 30]) rfl rfl rfl ?_
            refine ex_putI pm_M20 (pc_q := 103) rfl rfl rfl rfl rfl ?_
            exact ex_ret pm_M20 (r := none) rfl rfl (⟨rfl, v1 S T hI c1 c2⟩)
          · -- not
            refine ex_op pm_M20 (pc_q := 96) (st_q := [.int 2, .ref 30]) rfl rfl rfl ?_
            refine ex_br pm_M20 (pc_q := 100) (st_q := [.int 2, .ref 30]) rfl rfl ?_
            refine ex_putI pm_M20 (pc_q := 103) rfl rfl rfl rfl rfl ?_
            exact ex_ret pm_M20 (r := none) rfl rfl (⟨rfl, v2 S T hI c1 c2⟩)
        · -- not
          refine ex_lo pm_M20 (pc_q := 17) (ls_q := [.ref 30]) (st_q := [.ref 30]) rfl rfl rfl ?_
          refine ex_getK pm_M20 (pc_q := 20) (j := 20) (b := 18) rfl rfl rfl rfl rfl ?_
          refine ex_lo pm_M20 (pc_q := 21) (ls_q := [.ref 30]) (st_q := [.ref 30, .ref 18]) rfl rfl rfl ?_
          refine ex_getI' pm_M20 (pc_q := 24) (v := T.1 30 2) rfl rfl rfl rfl rfl rfl ?_
          refine ex_bald' pm_M20 (pc_q := 25) (v := T.1 18 ((T.1 30 2).toNatClampNeg)) rfl rfl rfl ?_
          refine ex_call pm_M20 (pc_q := 28) (ix := 44) (callee := 19) (np := 1) (kd := 2) (ra := [.int (T.1 18 ((T.1 30 2).toNatClampNeg))]) (rest := []) rfl rfl rfl rfl pm_M19 rfl rfl rfl rfl (fun d3 => (ef19 _ d3 (T.1 18 ((T.1 30 2).toNatClampNeg)) T).mono (fun r S1 e => ?_))
          obtain ⟨rfl, e2⟩ := e
          rw [e2]
          show ex_P _ _ 20 28 [.ref 30] [.int (vf19 (T.1 18 ((T.1 30 2).toNatClampNeg)))] T _
          refine ex_ifc pm_M20 (t := 81) (pc_q := 31) rfl rfl rfl (fun c4 => ?_) (fun c4 => ?_)
          · -- vf19 (T.1 18 ((T.1 30 2).toNatClampNeg)) = 0
            refine ex_lo pm_M20 (pc_q := 82) (ls_q := [.ref 30]) (st_q := [.ref 30]) rfl rfl rfl ?_
            refine ex_lo pm_M20 (pc_q := 83) (ls_q := [.ref 30]) (st_q := [.ref 30, .ref 30]) rfl rfl rfl ?_
            refine ex_getI' pm_M20 (pc_q := 86) (v := T.1 30 2) rfl rfl rfl rfl rfl rfl ?_
            refine ex_lo pm_M20 (pc_q := 87) (ls_q := [.ref 30]) (st_q := [.ref 30, .int (T.1 30 2), .ref 30]) rfl rfl rfl ?_
            refine ex_getI' pm_M20 (pc_q := 90) (v := T.1 30 3) rfl rfl rfl rfl rfl rfl ?_
            refine ex_op pm_M20 (pc_q := 91) (st_q := [.int ((T.1 30 2) - (T.1 30 3)), .ref 30]) rfl rfl rfl ?_
            refine ex_op pm_M20 (pc_q := 92) (st_q := [.int 2, .int ((T.1 30 2) - (T.1 30 3)), .ref 30]) rfl rfl rfl ?_
            refine ex_icmp pm_M20 (t := 99) (pc_q := 95) rfl rfl rfl (fun c5 => ?_) (fun c5 => ?_)
            · -- 2 < (T.1 30 2) - (T.1 30 3)
              refine ex_op pm_M20 (pc_q := 100) (st_q := [.int 4, .ref 30]) rfl rfl rfl ?_
              refine ex_putI pm_M20 (pc_q := 103) rfl rfl rfl rfl rfl ?_
              exact ex_ret pm_M20 (r := none) rfl rfl (⟨rfl, v3 S T hI c1 c4 c5⟩)
            · -- not
              refine ex_op pm_M20 (pc_q := 96) (st_q := [.int 2, .ref 30]) rfl rfl rfl ?_
              refine ex_br pm_M20 (pc_q := 100) (st_q := [.int 2, .ref 30]) rfl rfl ?_
              refine ex_putI pm_M20 (pc_q := 103) rfl rfl rfl rfl rfl ?_
              exact ex_ret pm_M20 (r := none) rfl rfl (⟨rfl, v4 S T hI c1 c4 c5⟩)
          · -- not
            refine ex_lo pm_M20 (pc_q := 32) (ls_q := [.ref 30]) (st_q := [.ref 30]) rfl rfl rfl ?_
            refine ex_getI' pm_M20 (pc_q := 35) (v := T.1 30 2) rfl rfl rfl rfl rfl rfl ?_
            refine ex_lo pm_M20 (pc_q := 36) (ls_q := [.ref 30]) (st_q := [.ref 30, .int (T.1 30 2)]) rfl rfl rfl ?_
            refine ex_getI' pm_M20 (pc_q := 39) (v := T.1 30 3) rfl rfl rfl rfl rfl rfl ?_
            refine ex_op pm_M20 (pc_q := 40) (st_q := [.int ((T.1 30 2) - (T.1 30 3))]) rfl rfl rfl ?_
            refine ex_op pm_M20 (pc_q := 41) (st_q := [.int 2, .int ((T.1 30 2) - (T.1 30 3))]) rfl rfl rfl ?_
            refine ex_icmp pm_M20 (t := 68) (pc_q := 44) rfl rfl rfl (fun c6 => ?_) (fun c6 => ?_)
            · -- 2 ≤ (T.1 30 2) - (T.1 30 3)
              refine ex_lo pm_M20 (pc_q := 69) (ls_q := [.ref 30]) (st_q := [.ref 30]) rfl rfl rfl ?_
              refine ex_op pm_M20 (pc_q := 70) (st_q := [.ref 30, .ref 30]) rfl rfl rfl ?_
              refine ex_getI' pm_M20 (pc_q := 73) (v := T.1 30 2) rfl rfl rfl rfl rfl rfl ?_
              refine ex_op pm_M20 (pc_q := 74) (st_q := [.int 1, .int (T.1 30 2), .ref 30]) rfl rfl rfl ?_
              refine ex_op pm_M20 (pc_q := 75) (st_q := [.int ((T.1 30 2) + 1), .ref 30]) rfl rfl rfl ?_
              refine ex_putI pm_M20 (pc_q := 78) rfl rfl rfl rfl rfl ?_
              refine ex_goS pm_M20 (pc_q := 5) (st_q := []) rfl rfl ?_
              exact ih5 (ex_sx T 30 2 ((T.1 30 2) + 1)) (v5 S T hI c1 c4 c6)
            · -- not
              refine ex_lo pm_M20 (pc_q := 45) (ls_q := [.ref 30]) (st_q := [.ref 30]) rfl rfl rfl ?_
              refine ex_lo pm_M20 (pc_q := 46) (ls_q := [.ref 30]) (st_q := [.ref 30, .ref 30]) rfl rfl rfl ?_
              refine ex_getI' pm_M20 (pc_q := 49) (v := T.1 30 5) rfl rfl rfl rfl rfl rfl ?_
              refine ex_op pm_M20 (pc_q := 51) (st_q := [.int 10, .int (T.1 30 5), .ref 30]) rfl rfl rfl ?_
              refine ex_op pm_M20 (pc_q := 52) (st_q := [.int ((T.1 30 5) * 10), .ref 30]) rfl rfl rfl ?_
              refine ex_lo pm_M20 (pc_q := 53) (ls_q := [.ref 30]) (st_q := [.ref 30, .int ((T.1 30 5) * 10), .ref 30]) rfl rfl rfl ?_
              refine ex_getK pm_M20 (pc_q := 56) (j := 20) (b := 18) rfl rfl rfl rfl rfl ?_
              refine ex_lo pm_M20 (pc_q := 57) (ls_q := [.ref 30]) (st_q := [.ref 30, .ref 18, .int ((T.1 30 5) * 10), .ref 30]) rfl rfl rfl ?_
              refine ex_getI' pm_M20 (pc_q := 60) (v := T.1 30 2) rfl rfl rfl rfl rfl rfl ?_
              refine ex_bald' pm_M20 (pc_q := 61) (v := T.1 18 ((T.1 30 2).toNatClampNeg)) rfl rfl rfl ?_
              refine ex_op pm_M20 (pc_q := 62) (st_q := [.int (((T.1 30 5) * 10) + (T.1 18 ((T.1 30 2).toNatClampNeg))), .ref 30]) rfl rfl rfl ?_
              refine ex_op pm_M20 (pc_q := 64) (st_q := [.int 48, .int (((T.1 30 5) * 10) + (T.1 18 ((T.1 30 2).toNatClampNeg))), .ref 30]) rfl rfl rfl ?_
              refine ex_op pm_M20 (pc_q := 65) (st_q := [.int ((((T.1 30 5) * 10) + (T.1 18 ((T.1 30 2).toNatClampNeg))) - 48), .ref 30]) rfl rfl rfl ?_
              refine ex_putI pm_M20 (pc_q := 68) rfl rfl rfl rfl rfl ?_
              refine ex_lo pm_M20 (pc_q := 69) (ls_q := [.ref 30]) (st_q := [.ref 30]) rfl rfl rfl ?_
              refine ex_op pm_M20 (pc_q := 70) (st_q := [.ref 30, .ref 30]) rfl rfl rfl ?_
              refine ex_getI' pm_M20 (pc_q := 73) (v := T.1 30 2) rfl rfl rfl rfl rfl rfl ?_
              refine ex_op pm_M20 (pc_q := 74) (st_q := [.int 1, .int (T.1 30 2), .ref 30]) rfl rfl rfl ?_
              refine ex_op pm_M20 (pc_q := 75) (st_q := [.int ((T.1 30 2) + 1), .ref 30]) rfl rfl rfl ?_
              refine ex_putI pm_M20 (pc_q := 78) rfl rfl rfl rfl rfl ?_
              refine ex_goS pm_M20 (pc_q := 5) (st_q := []) rfl rfl ?_
              exact ih5 (ex_sx (ex_sx T 30 5 ((((T.1 30 5) * 10) + (T.1 18 ((T.1 30 2).toNatClampNeg))) - 48)) 30 2 ((T.1 30 2) + 1)) (v6 S T hI c1 c4 c6)
      exact L5
  have L5 := LL N
  refine ex_lo pm_M20 (pc_q := 1) (ls_q := [.ref 30]) (st_q := [.ref 30]) rfl rfl rfl ?_
  refine ex_op pm_M20 (pc_q := 2) (st_q := [.int 0, .ref 30]) rfl rfl rfl ?_
  refine ex_putI pm_M20 (pc_q := 5) rfl rfl rfl rfl rfl ?_
  exact L5 (ex_sx S 30 5 0) (v0 S)
set_option maxRecDepth 100000 in
set_option maxHeartbeats 4000000 in
/-- SilentTable$Tokens.step -/
theorem ev16 {C : ex_S → ex_S → Prop} {C20 : ex_S → ex_S → Prop} {I8 : ex_S → ex_S → Prop} {I89 : ex_S → ex_S → Prop} (H20 : es20 C20) 
    (v0 : ∀ (S : ex_S), I8 S (ex_sx S 30 3 (S.1 30 2))) 
    (v1 : ∀ (S : ex_S) (T : ex_S), I8 S T → T.1 30 1 ≤ T.1 30 3 → C S (ex_sx (ex_sx T 30 2 (T.1 30 3)) 30 4 0)) 
    (v2 : ∀ (S : ex_S) (T : ex_S), I8 S T → ¬ (T.1 30 1 ≤ T.1 30 3) → vf17 (T.1 18 ((T.1 30 3).toNatClampNeg)) = 0 → vf18 (T.1 18 ((T.1 30 3).toNatClampNeg)) = 0 → vf19 (T.1 18 ((T.1 30 3).toNatClampNeg)) = 0 → ¬ T.1 18 ((T.1 30 3).toNatClampNeg) = 59 → C S (ex_sx (ex_sx (ex_sx T 30 2 (T.1 30 3)) 30 4 4) 30 2 ((T.1 30 3) + 1))) 
    (v3 : ∀ (S : ex_S) (T : ex_S), I8 S T → ¬ (T.1 30 1 ≤ T.1 30 3) → vf17 (T.1 18 ((T.1 30 3).toNatClampNeg)) = 0 → vf18 (T.1 18 ((T.1 30 3).toNatClampNeg)) = 0 → vf19 (T.1 18 ((T.1 30 3).toNatClampNeg)) = 0 → ¬ (¬ T.1 18 ((T.1 30 3).toNatClampNeg) = 59) → C S (ex_sx (ex_sx (ex_sx T 30 2 (T.1 30 3)) 30 4 3) 30 2 ((T.1 30 3) + 1))) 
    (v4 : ∀ (S : ex_S) (T : ex_S), I8 S T → ¬ (T.1 30 1 ≤ T.1 30 3) → vf17 (T.1 18 ((T.1 30 3).toNatClampNeg)) = 0 → vf18 (T.1 18 ((T.1 30 3).toNatClampNeg)) = 0 → ¬ (vf19 (T.1 18 ((T.1 30 3).toNatClampNeg)) = 0) → ∀ (S13 : ex_S), C20 (ex_sx T 30 2 (T.1 30 3)) S13 → C S S13) 
    (v5 : ∀ (S : ex_S) (T : ex_S), I8 S T → ¬ (T.1 30 1 ≤ T.1 30 3) → vf17 (T.1 18 ((T.1 30 3).toNatClampNeg)) = 0 → ¬ (vf18 (T.1 18 ((T.1 30 3).toNatClampNeg)) = 0) → I89 S (ex_sx T 30 2 (T.1 30 3))) 
    (v6 : ∀ (S : ex_S) (T : ex_S), I8 S T → ¬ (T.1 30 1 ≤ T.1 30 3) → ¬ (vf17 (T.1 18 ((T.1 30 3).toNatClampNeg)) = 0) → I8 S (ex_sx T 30 3 ((T.1 30 3) + 1))) 
    (v7 : ∀ (S : ex_S) (T : ex_S), I89 S T → T.1 30 1 ≤ T.1 30 2 → C S (ex_sx T 30 4 1)) 
    (v8 : ∀ (S : ex_S) (T : ex_S), I89 S T → ¬ (T.1 30 1 ≤ T.1 30 2) → vf18 (T.1 18 ((T.1 30 2).toNatClampNeg)) = 0 → C S (ex_sx T 30 4 1)) 
    (v9 : ∀ (S : ex_S) (T : ex_S), I89 S T → ¬ (T.1 30 1 ≤ T.1 30 2) → ¬ (vf18 (T.1 18 ((T.1 30 2).toNatClampNeg)) = 0) → I89 S (ex_sx T 30 2 ((T.1 30 2) + 1))) : es16 C := by
  intro N d  S
  have LL : ∀ N : Nat, (∀ (T : ex_S), I89 S T → ex_P N d 16 89 [.ref 30] [] T (fun r S_q => r = none ∧ C S S_q)) ∧ (∀ (T : ex_S), I8 S T → ex_P N d 16 8 [.ref 30] [] T (fun r S_q => r = none ∧ C S S_q)) := by
    intro N
    induction N with
    | zero => exact ⟨fun _ _ => ex_zero, fun _ _ => ex_zero⟩
    | succ N ih =>
      obtain ⟨ih89, ih8⟩ := ih
      have L89 : ∀ (T : ex_S), I89 S T → ex_P (N + 1) d 16 89 [.ref 30] [] T (fun r S_q => r = none ∧ C S S_q) := by
        intro T hI
        refine ex_lo pm_M16 (pc_q := 90) (ls_q := [.ref 30]) (st_q := [.ref 30]) rfl rfl rfl ?_
        refine ex_getI' pm_M16 (pc_q := 93) (v := T.1 30 2) rfl rfl rfl rfl rfl rfl ?_
        refine ex_lo pm_M16 (pc_q := 94) (ls_q := [.ref 30]) (st_q := [.ref 30, .int (T.1 30 2)]) rfl rfl rfl ?_
        refine ex_getI' pm_M16 (pc_q := 97) (v := T.1 30 1) rfl rfl rfl rfl rfl rfl ?_
        refine ex_icmp pm_M16 (t := 128) (pc_q := 100) rfl rfl rfl (fun c15 => ?_) (fun c15 => ?_)
        · -- T.1 30 1 ≤ T.1 30 2
          refine ex_lo pm_M16 (pc_q := 129) (ls_q := [.ref 30]) (st_q := [.ref 30]) rfl rfl rfl ?_
          refine ex_op pm_M16 (pc_q := 130) (st_q := [.int 1, .ref 30]) rfl rfl rfl ?_
          refine ex_putI pm_M16 (pc_q := 133) rfl rfl rfl rfl rfl ?_
          refine ex_br pm_M16 (pc_q := 191) (st_q := []) rfl rfl ?_
          exact ex_ret pm_M16 (r := none) rfl rfl (⟨rfl, v7 S T hI c15⟩)
        · -- not
          refine ex_lo pm_M16 (pc_q := 101) (ls_q := [.ref 30]) (st_q := [.ref 30]) rfl rfl rfl ?_
          refine ex_getK pm_M16 (pc_q := 104) (j := 20) (b := 18) rfl rfl rfl rfl rfl ?_
          refine ex_lo pm_M16 (pc_q := 105) (ls_q := [.ref 30]) (st_q := [.ref 30, .ref 18]) rfl rfl rfl ?_
          refine ex_getI' pm_M16 (pc_q := 108) (v := T.1 30 2) rfl rfl rfl rfl rfl rfl ?_
          refine ex_bald' pm_M16 (pc_q := 109) (v := T.1 18 ((T.1 30 2).toNatClampNeg)) rfl rfl rfl ?_
          refine ex_call pm_M16 (pc_q := 112) (ix := 41) (callee := 18) (np := 1) (kd := 2) (ra := [.int (T.1 18 ((T.1 30 2).toNatClampNeg))]) (rest := []) rfl rfl rfl rfl pm_M18 rfl rfl rfl rfl (fun d16 => (ef18 _ d16 (T.1 18 ((T.1 30 2).toNatClampNeg)) T).mono (fun r S1 e => ?_))
          obtain ⟨rfl, e2⟩ := e
          rw [e2]
          show ex_P _ _ 16 112 [.ref 30] [.int (vf18 (T.1 18 ((T.1 30 2).toNatClampNeg)))] T _
          refine ex_ifc pm_M16 (t := 128) (pc_q := 115) rfl rfl rfl (fun c17 => ?_) (fun c17 => ?_)
          · -- vf18 (T.1 18 ((T.1 30 2).toNatClampNeg)) = 0
            refine ex_lo pm_M16 (pc_q := 129) (ls_q := [.ref 30]) (st_q := [.ref 30]) rfl rfl rfl ?_
            refine ex_op pm_M16 (pc_q := 130) (st_q := [.int 1, .ref 30]) rfl rfl rfl ?_
            refine ex_putI pm_M16 (pc_q := 133) rfl rfl rfl rfl rfl ?_
            refine ex_br pm_M16 (pc_q := 191) (st_q := []) rfl rfl ?_
            exact ex_ret pm_M16 (r := none) rfl rfl (⟨rfl, v8 S T hI c15 c17⟩)
          · -- not
            refine ex_lo pm_M16 (pc_q := 116) (ls_q := [.ref 30]) (st_q := [.ref 30]) rfl rfl rfl ?_
            refine ex_op pm_M16 (pc_q := 117) (st_q := [.ref 30, .ref 30]) rfl rfl rfl ?_
            refine ex_getI' pm_M16 (pc_q := 120) (v := T.1 30 2) rfl rfl rfl rfl rfl rfl ?_
            refine ex_op pm_M16 (pc_q := 121) (st_q := [.int 1, .int (T.1 30 2), .ref 30]) rfl rfl rfl ?_
            refine ex_op pm_M16 (pc_q := 122) (st_q := [.int ((T.1 30 2) + 1), .ref 30]) rfl rfl rfl ?_
            refine ex_putI pm_M16 (pc_q := 125) rfl rfl rfl rfl rfl ?_
            refine ex_goS pm_M16 (pc_q := 89) (st_q := []) rfl rfl ?_
            exact ih89 (ex_sx T 30 2 ((T.1 30 2) + 1)) (v9 S T hI c15 c17)
      have L8 : ∀ (T : ex_S), I8 S T → ex_P (N + 1) d 16 8 [.ref 30] [] T (fun r S_q => r = none ∧ C S S_q) := by
        intro T hI
        refine ex_lo pm_M16 (pc_q := 9) (ls_q := [.ref 30]) (st_q := [.ref 30]) rfl rfl rfl ?_
        refine ex_getI' pm_M16 (pc_q := 12) (v := T.1 30 3) rfl rfl rfl rfl rfl rfl ?_
        refine ex_lo pm_M16 (pc_q := 13) (ls_q := [.ref 30]) (st_q := [.ref 30, .int (T.1 30 3)]) rfl rfl rfl ?_
        refine ex_getI' pm_M16 (pc_q := 16) (v := T.1 30 1) rfl rfl rfl rfl rfl rfl ?_
        refine ex_icmp pm_M16 (t := 47) (pc_q := 19) rfl rfl rfl (fun c1 => ?_) (fun c1 => ?_)
        · -- T.1 30 1 ≤ T.1 30 3
          refine ex_lo pm_M16 (pc_q := 48) (ls_q := [.ref 30]) (st_q := [.ref 30]) rfl rfl rfl ?_
          refine ex_lo pm_M16 (pc_q := 49) (ls_q := [.ref 30]) (st_q := [.ref 30, .ref 30]) rfl rfl rfl ?_
          refine ex_getI' pm_M16 (pc_q := 52) (v := T.1 30 3) rfl rfl rfl rfl rfl rfl ?_
          refine ex_putI pm_M16 (pc_q := 55) rfl rfl rfl rfl rfl ?_
          refine ex_lo pm_M16 (pc_q := 56) (ls_q := [.ref 30]) (st_q := [.ref 30]) rfl rfl rfl ?_
          refine ex_getI' pm_M16 (pc_q := 59) (v := T.1 30 3) rfl rfl rfl rfl rfl rfl ?_
          refine ex_lo pm_M16 (pc_q := 60) (ls_q := [.ref 30]) (st_q := [.ref 30, .int (T.1 30 3)]) rfl rfl rfl ?_
          refine ex_getI' pm_M16 (pc_q := 63) (v := T.1 30 1) rfl rfl rfl rfl rfl rfl ?_
          refine ex_icmp pm_M16 (t := 74) (pc_q := 66) rfl rfl rfl (fun z => absurd z (Int32.not_lt.mpr c1)) (fun _ => ?_)
          refine ex_lo pm_M16 (pc_q := 67) (ls_q := [.ref 30]) (st_q := [.ref 30]) rfl rfl rfl ?_
          refine ex_op pm_M16 (pc_q := 68) (st_q := [.int 0, .ref 30]) rfl rfl rfl ?_
          refine ex_putI pm_M16 (pc_q := 71) rfl rfl rfl rfl rfl ?_
          refine ex_br pm_M16 (pc_q := 191) (st_q := []) rfl rfl ?_
          exact ex_ret pm_M16 (r := none) rfl rfl (⟨rfl, v1 S T hI c1⟩)
        · -- not
          refine ex_lo pm_M16 (pc_q := 20) (ls_q := [.ref 30]) (st_q := [.ref 30]) rfl rfl rfl ?_
          refine ex_getK pm_M16 (pc_q := 23) (j := 20) (b := 18) rfl rfl rfl rfl rfl ?_
          refine ex_lo pm_M16 (pc_q := 24) (ls_q := [.ref 30]) (st_q := [.ref 30, .ref 18]) rfl rfl rfl ?_
          refine ex_getI' pm_M16 (pc_q := 27) (v := T.1 30 3) rfl rfl rfl rfl rfl rfl ?_
          refine ex_bald' pm_M16 (pc_q := 28) (v := T.1 18 ((T.1 30 3).toNatClampNeg)) rfl rfl rfl ?_
          refine ex_call pm_M16 (pc_q := 31) (ix := 37) (callee := 17) (np := 1) (kd := 2) (ra := [.int (T.1 18 ((T.1 30 3).toNatClampNeg))]) (rest := []) rfl rfl rfl rfl pm_M17 rfl rfl rfl rfl (fun d3 => (ef17 _ d3 (T.1 18 ((T.1 30 3).toNatClampNeg)) T).mono (fun r S1 e => ?_))
          obtain ⟨rfl, e2⟩ := e
          rw [e2]
          show ex_P _ _ 16 31 [.ref 30] [.int (vf17 (T.1 18 ((T.1 30 3).toNatClampNeg)))] T _
          refine ex_ifc pm_M16 (t := 47) (pc_q := 34) rfl rfl rfl (fun c4 => ?_) (fun c4 => ?_)
          · -- vf17 (T.1 18 ((T.1 30 3).toNatClampNeg)) = 0
            refine ex_lo pm_M16 (pc_q := 48) (ls_q := [.ref 30]) (st_q := [.ref 30]) rfl rfl rfl ?_
            refine ex_lo pm_M16 (pc_q := 49) (ls_q := [.ref 30]) (st_q := [.ref 30, .ref 30]) rfl rfl rfl ?_
            refine ex_getI' pm_M16 (pc_q := 52) (v := T.1 30 3) rfl rfl rfl rfl rfl rfl ?_
            refine ex_putI pm_M16 (pc_q := 55) rfl rfl rfl rfl rfl ?_
            refine ex_lo pm_M16 (pc_q := 56) (ls_q := [.ref 30]) (st_q := [.ref 30]) rfl rfl rfl ?_
            refine ex_getI' pm_M16 (pc_q := 59) (v := T.1 30 3) rfl rfl rfl rfl rfl rfl ?_
            refine ex_lo pm_M16 (pc_q := 60) (ls_q := [.ref 30]) (st_q := [.ref 30, .int (T.1 30 3)]) rfl rfl rfl ?_
            refine ex_getI' pm_M16 (pc_q := 63) (v := T.1 30 1) rfl rfl rfl rfl rfl rfl ?_
            refine ex_icmp pm_M16 (t := 74) (pc_q := 66) rfl rfl rfl (fun _ => ?_) (fun z => absurd (Int32.not_le.mp c1) z)
            refine ex_lo pm_M16 (pc_q := 75) (ls_q := [.ref 30]) (st_q := [.ref 30]) rfl rfl rfl ?_
            refine ex_getK pm_M16 (pc_q := 78) (j := 20) (b := 18) rfl rfl rfl rfl rfl ?_
            refine ex_lo pm_M16 (pc_q := 79) (ls_q := [.ref 30]) (st_q := [.ref 30, .ref 18]) rfl rfl rfl ?_
            refine ex_getI' pm_M16 (pc_q := 82) (v := T.1 30 3) rfl rfl rfl rfl rfl rfl ?_
            refine ex_bald' pm_M16 (pc_q := 83) (v := T.1 18 ((T.1 30 3).toNatClampNeg)) rfl rfl rfl ?_
            refine ex_call pm_M16 (pc_q := 86) (ix := 41) (callee := 18) (np := 1) (kd := 2) (ra := [.int (T.1 18 ((T.1 30 3).toNatClampNeg))]) (rest := []) rfl rfl rfl rfl pm_M18 rfl rfl rfl rfl (fun d6 => (ef18 _ d6 (T.1 18 ((T.1 30 3).toNatClampNeg)) (ex_sx T 30 2 (T.1 30 3))).mono (fun r S1 e => ?_))
            obtain ⟨rfl, e2⟩ := e
            rw [e2]
            show ex_P _ _ 16 86 [.ref 30] [.int (vf18 (T.1 18 ((T.1 30 3).toNatClampNeg)))] (ex_sx T 30 2 (T.1 30 3)) _
            refine ex_ifc pm_M16 (t := 136) (pc_q := 89) rfl rfl rfl (fun c7 => ?_) (fun c7 => ?_)
            · -- vf18 (T.1 18 ((T.1 30 3).toNatClampNeg)) = 0
              refine ex_lo pm_M16 (pc_q := 137) (ls_q := [.ref 30]) (st_q := [.ref 30]) rfl rfl rfl ?_
              refine ex_getK pm_M16 (pc_q := 140) (j := 20) (b := 18) rfl rfl rfl rfl rfl ?_
              refine ex_lo pm_M16 (pc_q := 141) (ls_q := [.ref 30]) (st_q := [.ref 30, .ref 18]) rfl rfl rfl ?_
              refine ex_getI' pm_M16 (pc_q := 144) (v := T.1 30 3) rfl rfl rfl rfl rfl rfl ?_
              refine ex_bald' pm_M16 (pc_q := 145) (v := T.1 18 ((T.1 30 3).toNatClampNeg)) rfl rfl rfl ?_
              refine ex_call pm_M16 (pc_q := 148) (ix := 44) (callee := 19) (np := 1) (kd := 2) (ra := [.int (T.1 18 ((T.1 30 3).toNatClampNeg))]) (rest := []) rfl rfl rfl rfl pm_M19 rfl rfl rfl rfl (fun d8 => (ef19 _ d8 (T.1 18 ((T.1 30 3).toNatClampNeg)) (ex_sx T 30 2 (T.1 30 3))).mono (fun r S1 e => ?_))
              obtain ⟨rfl, e2⟩ := e
              rw [e2]
              show ex_P _ _ 16 148 [.ref 30] [.int (vf19 (T.1 18 ((T.1 30 3).toNatClampNeg)))] (ex_sx T 30 2 (T.1 30 3)) _
              refine ex_ifc pm_M16 (t := 158) (pc_q := 151) rfl rfl rfl (fun c9 => ?_) (fun c9 => ?_)
              · -- vf19 (T.1 18 ((T.1 30 3).toNatClampNeg)) = 0
                refine ex_lo pm_M16 (pc_q := 159) (ls_q := [.ref 30]) (st_q := [.ref 30]) rfl rfl rfl ?_
                refine ex_lo pm_M16 (pc_q := 160) (ls_q := [.ref 30]) (st_q := [.ref 30, .ref 30]) rfl rfl rfl ?_
                refine ex_getK pm_M16 (pc_q := 163) (j := 20) (b := 18) rfl rfl rfl rfl rfl ?_
                refine ex_lo pm_M16 (pc_q := 164) (ls_q := [.ref 30]) (st_q := [.ref 30, .ref 18, .ref 30]) rfl rfl rfl ?_
                refine ex_getI' pm_M16 (pc_q := 167) (v := T.1 30 3) rfl rfl rfl rfl rfl rfl ?_
                refine ex_bald' pm_M16 (pc_q := 168) (v := T.1 18 ((T.1 30 3).toNatClampNeg)) rfl rfl rfl ?_
                refine ex_op pm_M16 (pc_q := 170) (st_q := [.int 59, .int (T.1 18 ((T.1 30 3).toNatClampNeg)), .ref 30]) rfl rfl rfl ?_
                refine ex_icmp pm_M16 (t := 177) (pc_q := 173) rfl rfl rfl (fun c10 => ?_) (fun c10 => ?_)
                · -- ¬ T.1 18 ((T.1 30 3).toNatClampNeg) = 59
                  refine ex_op pm_M16 (pc_q := 178) (st_q := [.int 4, .ref 30]) rfl rfl rfl ?_
                  refine ex_putI pm_M16 (pc_q := 181) rfl rfl rfl rfl rfl ?_
                  refine ex_lo pm_M16 (pc_q := 182) (ls_q := [.ref 30]) (st_q := [.ref 30]) rfl rfl rfl ?_
                  refine ex_op pm_M16 (pc_q := 183) (st_q := [.ref 30, .ref 30]) rfl rfl rfl ?_
                  refine ex_getI' pm_M16 (pc_q := 186) (v := T.1 30 3) rfl rfl rfl rfl rfl rfl ?_
                  refine ex_op pm_M16 (pc_q := 187) (st_q := [.int 1, .int (T.1 30 3), .ref 30]) rfl rfl rfl ?_
                  refine ex_op pm_M16 (pc_q := 188) (st_q := [.int ((T.1 30 3) + 1), .ref 30]) rfl rfl rfl ?_
                  refine ex_putI pm_M16 (pc_q := 191) rfl rfl rfl rfl rfl ?_
                  exact ex_ret pm_M16 (r := none) rfl rfl (⟨rfl, v2 S T hI c1 c4 c7 c9 c10⟩)
                · -- not
                  refine ex_op pm_M16 (pc_q := 174) (st_q := [.int 3, .ref 30]) rfl rfl rfl ?_
                  refine ex_br pm_M16 (pc_q := 178) (st_q := [.int 3, .ref 30]) rfl rfl ?_
                  refine ex_putI pm_M16 (pc_q := 181) rfl rfl rfl rfl rfl ?_
                  refine ex_lo pm_M16 (pc_q := 182) (ls_q := [.ref 30]) (st_q := [.ref 30]) rfl rfl rfl ?_
                  refine ex_op pm_M16 (pc_q := 183) (st_q := [.ref 30, .ref 30]) rfl rfl rfl ?_
                  refine ex_getI' pm_M16 (pc_q := 186) (v := T.1 30 3) rfl rfl rfl rfl rfl rfl ?_
                  refine ex_op pm_M16 (pc_q := 187) (st_q := [.int 1, .int (T.1 30 3), .ref 30]) rfl rfl rfl ?_
                  refine ex_op pm_M16 (pc_q := 188) (st_q := [.int ((T.1 30 3) + 1), .ref 30]) rfl rfl rfl ?_
                  refine ex_putI pm_M16 (pc_q := 191) rfl rfl rfl rfl rfl ?_
                  exact ex_ret pm_M16 (r := none) rfl rfl (⟨rfl, v3 S T hI c1 c4 c7 c9 c10⟩)
              · -- not
                refine ex_lo pm_M16 (pc_q := 152) (ls_q := [.ref 30]) (st_q := [.ref 30]) rfl rfl rfl ?_
                refine ex_call pm_M16 (pc_q := 155) (ix := 47) (callee := 20) (np := 0) (kd := 0) (ra := [.ref 30]) (rest := []) rfl rfl rfl rfl pm_M20 rfl rfl rfl rfl (fun d11 => (H20 _ d11 (ex_sx T 30 2 (T.1 30 3))).mono (fun r S13 e => ?_))
                obtain ⟨rfl, h14⟩ := e
                show ex_P _ _ 16 155 [.ref 30] [] S13 _
                refine ex_br pm_M16 (pc_q := 191) (st_q := []) rfl rfl ?_
                exact ex_ret pm_M16 (r := none) rfl rfl (⟨rfl, v4 S T hI c1 c4 c7 c9 S13 h14⟩)
            · -- not
              exact L89 (ex_sx T 30 2 (T.1 30 3)) (v5 S T hI c1 c4 c7)
          · -- not
            refine ex_lo pm_M16 (pc_q := 35) (ls_q := [.ref 30]) (st_q := [.ref 30]) rfl rfl rfl ?_
            refine ex_op pm_M16 (pc_q := 36) (st_q := [.ref 30, .ref 30]) rfl rfl rfl ?_
            refine ex_getI' pm_M16 (pc_q := 39) (v := T.1 30 3) rfl rfl rfl rfl rfl rfl ?_
            refine ex_op pm_M16 (pc_q := 40) (st_q := [.int 1, .int (T.1 30 3), .ref 30]) rfl rfl rfl ?_
            refine ex_op pm_M16 (pc_q := 41) (st_q := [.int ((T.1 30 3) + 1), .ref 30]) rfl rfl rfl ?_
            refine ex_putI pm_M16 (pc_q := 44) rfl rfl rfl rfl rfl ?_
            refine ex_goS pm_M16 (pc_q := 8) (st_q := []) rfl rfl ?_
            exact ih8 (ex_sx T 30 3 ((T.1 30 3) + 1)) (v6 S T hI c1 c4)
      exact ⟨L89, L8⟩
  obtain ⟨L89, L8⟩ := LL N
  refine ex_lo pm_M16 (pc_q := 1) (ls_q := [.ref 30]) (st_q := [.ref 30]) rfl rfl rfl ?_
  refine ex_lo pm_M16 (pc_q := 2) (ls_q := [.ref 30]) (st_q := [.ref 30, .ref 30]) rfl rfl rfl ?_
  refine ex_getI' pm_M16 (pc_q := 5) (v := S.1 30 2) rfl rfl rfl rfl rfl rfl ?_
  refine ex_putI pm_M16 (pc_q := 8) rfl rfl rfl rfl rfl ?_
  exact L8 (ex_sx S 30 3 (S.1 30 2)) (v0 S)
set_option maxRecDepth 100000 in
set_option maxHeartbeats 4000000 in
/-- SilentTable$Tokens.startOver -/
theorem ev14 {C : Int32 → ex_S → ex_S → Prop} 
    (v0 : ∀ (a0 : Int32) (S : ex_S), C a0 S (ex_sx (ex_sx (ex_sx (ex_sx S 30 1 (if (Int32.ofNat (S.2.2.2.1 18)) < a0 then (Int32.ofNat (S.2.2.2.1 18)) else a0)) 30 3 0) 30 2 0) 30 4 0)) : es14 C := by
  intro N d a0 S
  refine ex_lo pm_M14 (pc_q := 1) (ls_q := [.ref 30, .int a0]) (st_q := [.ref 30]) rfl rfl rfl ?_
  refine ex_lo pm_M14 (pc_q := 2) (ls_q := [.ref 30, .int a0]) (st_q := [.int a0, .ref 30]) rfl rfl rfl ?_
  refine ex_lo pm_M14 (pc_q := 3) (ls_q := [.ref 30, .int a0]) (st_q := [.ref 30, .int a0, .ref 30]) rfl rfl rfl ?_
  refine ex_getK pm_M14 (pc_q := 6) (j := 20) (b := 18) rfl rfl rfl rfl rfl ?_
  refine ex_alen pm_M14 (pc_q := 7) rfl rfl ?_
  refine ex_min pm_M14 (pc_q := 10) rfl rfl rfl rfl ?_
  refine ex_putI pm_M14 (pc_q := 13) rfl rfl rfl rfl rfl ?_
  refine ex_lo pm_M14 (pc_q := 14) (ls_q := [.ref 30, .int a0]) (st_q := [.ref 30]) rfl rfl rfl ?_
  refine ex_op pm_M14 (pc_q := 15) (st_q := [.int 0, .ref 30]) rfl rfl rfl ?_
  refine ex_putI pm_M14 (pc_q := 18) rfl rfl rfl rfl rfl ?_
  refine ex_lo pm_M14 (pc_q := 19) (ls_q := [.ref 30, .int a0]) (st_q := [.ref 30]) rfl rfl rfl ?_
  refine ex_op pm_M14 (pc_q := 20) (st_q := [.int 0, .ref 30]) rfl rfl rfl ?_
  refine ex_putI pm_M14 (pc_q := 23) rfl rfl rfl rfl rfl ?_
  refine ex_lo pm_M14 (pc_q := 24) (ls_q := [.ref 30, .int a0]) (st_q := [.ref 30]) rfl rfl rfl ?_
  refine ex_op pm_M14 (pc_q := 25) (st_q := [.int 0, .ref 30]) rfl rfl rfl ?_
  refine ex_putI pm_M14 (pc_q := 28) rfl rfl rfl rfl rfl ?_
  exact ex_ret pm_M14 (r := none) rfl rfl (⟨rfl, v0 a0 S⟩)
set_option maxRecDepth 100000 in
set_option maxHeartbeats 4000000 in
/-- SilentTable$TextReader.noteFault -/
theorem ev21 {C : Int32 → Int32 → ex_S → ex_S → Prop} 
    (v0 : ∀ (a0 : Int32) (a1 : Int32) (S : ex_S), ¬ S.1 25 1 = 0 → C a0 a1 S S) 
    (v1 : ∀ (a0 : Int32) (a1 : Int32) (S : ex_S), ¬ (¬ S.1 25 1 = 0) → C a0 a1 S (ex_sx (ex_sx S 25 1 a0) 25 2 a1)) : es21 C := by
  intro N d a0 a1 S
  refine ex_lo pm_M21 (pc_q := 1) (ls_q := [.ref 25, .int a0, .int a1]) (st_q := [.ref 25]) rfl rfl rfl ?_
  refine ex_getI' pm_M21 (pc_q := 4) (v := S.1 25 1) rfl rfl rfl rfl rfl rfl ?_
  refine ex_ifc pm_M21 (t := 17) (pc_q := 7) rfl rfl rfl (fun c1 => ?_) (fun c1 => ?_)
  · -- ¬ S.1 25 1 = 0
    exact ex_ret pm_M21 (r := none) rfl rfl (⟨rfl, v0 a0 a1 S c1⟩)
  · -- not
    refine ex_lo pm_M21 (pc_q := 8) (ls_q := [.ref 25, .int a0, .int a1]) (st_q := [.ref 25]) rfl rfl rfl ?_
    refine ex_lo pm_M21 (pc_q := 9) (ls_q := [.ref 25, .int a0, .int a1]) (st_q := [.int a0, .ref 25]) rfl rfl rfl ?_
    refine ex_putI pm_M21 (pc_q := 12) rfl rfl rfl rfl rfl ?_
    refine ex_lo pm_M21 (pc_q := 13) (ls_q := [.ref 25, .int a0, .int a1]) (st_q := [.ref 25]) rfl rfl rfl ?_
    refine ex_lo pm_M21 (pc_q := 14) (ls_q := [.ref 25, .int a0, .int a1]) (st_q := [.int a1, .ref 25]) rfl rfl rfl ?_
    refine ex_putI pm_M21 (pc_q := 17) rfl rfl rfl rfl rfl ?_
    exact ex_ret pm_M21 (r := none) rfl rfl (⟨rfl, v1 a0 a1 S c1⟩)
set_option maxRecDepth 100000 in
set_option maxHeartbeats 4000000 in
/-- java/lang/String.charAt -/
theorem ev27 {C : Nat → Int32 → ex_S → Int32 → ex_S → Prop} 
    (v0 : ∀ (t : Nat) (a0 : Int32) (S : ex_S), ex_KV S → ¬ (a0 < 0) → a0 < Int32.ofNat (S.2.2.2.1 (t + 4)) → C t a0 S ((((S.1 (t + 4) a0.toNatClampNeg) &&& 255).toUInt32 % 65536).toInt32) S) 
    (v1 : ∀ (t : Nat) (a0 : Int32) (S : ex_S), ex_KV S → ¬ (a0 < 0) → a0 < Int32.ofNat (S.2.2.2.1 (t + 4)) → C t a0 S ((((S.1 (t + 4) a0.toNatClampNeg) &&& 255).toUInt32 % 65536).toInt32) S) : es27 C := by
  intro N d t a0 S
  refine ex_kw (fun kv => ?_)
  refine ex_lo pm_M27 (pc_q := 1) (ls_q := [.ref t, .int a0]) (st_q := [.ref t]) rfl rfl rfl ?_
  refine ex_call pm_M27 (pc_q := 4) (ix := 492) (callee := 28) (np := 0) (kd := 0) (ra := [.ref t]) (rest := []) rfl rfl rfl rfl pm_M28 rfl rfl rfl rfl (fun d1 => ?_)
  refine ex_strs pm_M28 (pc_q := 3) rfl rfl rfl rfl (fun _ => ?_) (fun w => absurd w (by decide))
  refine ex_ifc pm_M28 (t := 17) (pc_q := 6) rfl rfl rfl (fun z => absurd z (show ¬ ((1 : Int32) = 0) by decide)) (fun _ => ?_)
  refine ex_lo pm_M28 (pc_q := 7) (ls_q := [.ref t]) (st_q := [.ref t]) rfl rfl rfl ?_
  refine ex_strg pm_M28 (pc_q := 10) (v := .int 0) rfl rfl rfl (Or.inr ⟨rfl, rfl⟩) rfl ?_
  refine ex_ifc pm_M28 (t := 17) (pc_q := 13) rfl rfl rfl (fun z => absurd z (show ¬ (¬ (0 : Int32) = 0) by decide)) (fun _ => ?_)
  refine ex_op pm_M28 (pc_q := 14) (st_q := [.int 1]) rfl rfl rfl ?_
  refine ex_br pm_M28 (pc_q := 18) (st_q := [.int 1]) rfl rfl ?_
  refine ex_retI pm_M28 rfl ?_
  show ex_P _ _ 27 4 [.ref t, .int a0] [.int 1] S _
  refine ex_ifc pm_M27 (t := 16) (pc_q := 7) rfl rfl rfl (fun z => absurd z (show ¬ ((1 : Int32) = 0) by decide)) (fun _ => ?_)
  refine ex_lo pm_M27 (pc_q := 8) (ls_q := [.ref t, .int a0]) (st_q := [.ref t]) rfl rfl rfl ?_
  refine ex_strg pm_M27 (pc_q := 11) (v := .ref (t + 4)) rfl rfl rfl (Or.inl ⟨rfl, rfl⟩) rfl ?_
  refine ex_lo pm_M27 (pc_q := 12) (ls_q := [.ref t, .int a0]) (st_q := [.int a0, .ref (t + 4)]) rfl rfl rfl ?_
  refine ex_call pm_M27 (pc_q := 15) (ix := 495) (callee := 29) (np := 2) (kd := 2) (ra := [.int a0, .ref (t + 4)]) (rest := []) rfl rfl rfl rfl pm_M29 rfl rfl rfl rfl (fun d2 => ?_)
  refine ex_lo pm_M29 (pc_q := 1) (ls_q := [.ref (t + 4), .int a0]) (st_q := [.int a0]) rfl rfl rfl ?_
  refine ex_lo pm_M29 (pc_q := 2) (ls_q := [.ref (t + 4), .int a0]) (st_q := [.ref (t + 4), .int a0]) rfl rfl rfl ?_
  refine ex_alen pm_M29 (pc_q := 3) rfl rfl ?_
  refine ex_call pm_M29 (pc_q := 6) (ix := 9) (callee := 30) (np := 2) (kd := 2) (ra := [.int (Int32.ofNat (S.2.2.2.1 (t + 4))), .int a0]) (rest := []) rfl rfl rfl rfl pm_M30 rfl rfl rfl rfl (fun d3 => ?_)
  refine ex_lo pm_M30 (pc_q := 1) (ls_q := [.int a0, .int (Int32.ofNat (S.2.2.2.1 (t + 4)))]) (st_q := [.int a0]) rfl rfl rfl ?_
  refine ex_lo pm_M30 (pc_q := 2) (ls_q := [.int a0, .int (Int32.ofNat (S.2.2.2.1 (t + 4)))]) (st_q := [.int (Int32.ofNat (S.2.2.2.1 (t + 4))), .int a0]) rfl rfl rfl ?_
  refine ex_strs pm_M30 (pc_q := 5) rfl rfl rfl rfl (fun w => absurd w (by decide)) (fun _ g4 hgg4 => ?_)
  rcases hgg4 with rfl | rfl
  ·
    refine ex_call pm_M30 (pc_q := 8) (ix := 1059) (callee := 31) (np := 3) (kd := 2) (ra := [.null, .int (Int32.ofNat (S.2.2.2.1 (t + 4))), .int a0]) (rest := []) rfl rfl rfl rfl pm_M31 rfl rfl rfl rfl (fun d5 => ?_)
    refine ex_lo pm_M31 (pc_q := 1) (ls_q := [.int a0, .int (Int32.ofNat (S.2.2.2.1 (t + 4))), .null]) (st_q := [.int a0]) rfl rfl rfl ?_
    refine ex_ifc pm_M31 (t := 9) (pc_q := 4) rfl rfl rfl (fun c6 => ?_) (fun c6 => ?_)
    · -- a0 < 0
      refine ex_lo pm_M31 (pc_q := 10) (ls_q := [.int a0, .int (Int32.ofNat (S.2.2.2.1 (t + 4))), .null]) (st_q := [.null]) rfl rfl rfl ?_
      refine ex_lo pm_M31 (pc_q := 11) (ls_q := [.int a0, .int (Int32.ofNat (S.2.2.2.1 (t + 4))), .null]) (st_q := [.int a0, .null]) rfl rfl rfl ?_
      refine ex_lo pm_M31 (pc_q := 12) (ls_q := [.int a0, .int (Int32.ofNat (S.2.2.2.1 (t + 4))), .null]) (st_q := [.int (Int32.ofNat (S.2.2.2.1 (t + 4))), .int a0, .null]) rfl rfl rfl ?_
      exact ex_nc pm_M31 rfl rfl rfl rfl
    · -- not
      refine ex_lo pm_M31 (pc_q := 5) (ls_q := [.int a0, .int (Int32.ofNat (S.2.2.2.1 (t + 4))), .null]) (st_q := [.int a0]) rfl rfl rfl ?_
      refine ex_lo pm_M31 (pc_q := 6) (ls_q := [.int a0, .int (Int32.ofNat (S.2.2.2.1 (t + 4))), .null]) (st_q := [.int (Int32.ofNat (S.2.2.2.1 (t + 4))), .int a0]) rfl rfl rfl ?_
      refine ex_icmp pm_M31 (t := 16) (pc_q := 9) rfl rfl rfl (fun c7 => ?_) (fun c7 => ?_)
      · -- a0 < Int32.ofNat (S.2.2.2.1 (t + 4))
        refine ex_lo pm_M31 (pc_q := 17) (ls_q := [.int a0, .int (Int32.ofNat (S.2.2.2.1 (t + 4))), .null]) (st_q := [.int a0]) rfl rfl rfl ?_
        refine ex_retI pm_M31 rfl ?_
        show ex_P _ _ 30 8 [.int a0, .int (Int32.ofNat (S.2.2.2.1 (t + 4)))] [.int a0] S _
        refine ex_op pm_M30 (pc_q := 9) (st_q := []) rfl rfl rfl ?_
        refine ex_ret pm_M30 (r := none) rfl rfl ?_
        show ex_P _ _ 29 6 [.ref (t + 4), .int a0] [] S _
        refine ex_lo pm_M29 (pc_q := 7) (ls_q := [.ref (t + 4), .int a0]) (st_q := [.ref (t + 4)]) rfl rfl rfl ?_
        refine ex_lo pm_M29 (pc_q := 8) (ls_q := [.ref (t + 4), .int a0]) (st_q := [.int a0, .ref (t + 4)]) rfl rfl rfl ?_
        refine ex_bald' pm_M29 (pc_q := 9) (v := S.1 (t + 4) a0.toNatClampNeg) rfl rfl rfl ?_
        refine ex_op pm_M29 (pc_q := 12) (st_q := [.int 255, .int (S.1 (t + 4) a0.toNatClampNeg)]) rfl rfl rfl ?_
        refine ex_op pm_M29 (pc_q := 13) (st_q := [.int ((S.1 (t + 4) a0.toNatClampNeg) &&& 255)]) rfl rfl rfl ?_
        refine ex_op pm_M29 (pc_q := 14) (st_q := [.int ((((S.1 (t + 4) a0.toNatClampNeg) &&& 255).toUInt32 % 65536).toInt32)]) rfl rfl rfl ?_
        refine ex_retI pm_M29 rfl ?_
        show ex_P _ _ 27 15 [.ref t, .int a0] [.int ((((S.1 (t + 4) a0.toNatClampNeg) &&& 255).toUInt32 % 65536).toInt32)] S _
        exact ex_retI pm_M27 rfl (⟨_, rfl, v0 t a0 S kv c6 c7⟩)
      · -- not
        refine ex_lo pm_M31 (pc_q := 10) (ls_q := [.int a0, .int (Int32.ofNat (S.2.2.2.1 (t + 4))), .null]) (st_q := [.null]) rfl rfl rfl ?_
        refine ex_lo pm_M31 (pc_q := 11) (ls_q := [.int a0, .int (Int32.ofNat (S.2.2.2.1 (t + 4))), .null]) (st_q := [.int a0, .null]) rfl rfl rfl ?_
        refine ex_lo pm_M31 (pc_q := 12) (ls_q := [.int a0, .int (Int32.ofNat (S.2.2.2.1 (t + 4))), .null]) (st_q := [.int (Int32.ofNat (S.2.2.2.1 (t + 4))), .int a0, .null]) rfl rfl rfl ?_
        exact ex_nc pm_M31 rfl rfl rfl rfl
  ·
    refine ex_call pm_M30 (pc_q := 8) (ix := 1059) (callee := 31) (np := 3) (kd := 2) (ra := [.ref 15, .int (Int32.ofNat (S.2.2.2.1 (t + 4))), .int a0]) (rest := []) rfl rfl rfl rfl pm_M31 rfl rfl rfl rfl (fun d8 => ?_)
    refine ex_lo pm_M31 (pc_q := 1) (ls_q := [.int a0, .int (Int32.ofNat (S.2.2.2.1 (t + 4))), .ref 15]) (st_q := [.int a0]) rfl rfl rfl ?_
    refine ex_ifc pm_M31 (t := 9) (pc_q := 4) rfl rfl rfl (fun c9 => ?_) (fun c9 => ?_)
    · -- a0 < 0
      refine ex_lo pm_M31 (pc_q := 10) (ls_q := [.int a0, .int (Int32.ofNat (S.2.2.2.1 (t + 4))), .ref 15]) (st_q := [.ref 15]) rfl rfl rfl ?_
      refine ex_lo pm_M31 (pc_q := 11) (ls_q := [.int a0, .int (Int32.ofNat (S.2.2.2.1 (t + 4))), .ref 15]) (st_q := [.int a0, .ref 15]) rfl rfl rfl ?_
      refine ex_lo pm_M31 (pc_q := 12) (ls_q := [.int a0, .int (Int32.ofNat (S.2.2.2.1 (t + 4))), .ref 15]) (st_q := [.int (Int32.ofNat (S.2.2.2.1 (t + 4))), .int a0, .ref 15]) rfl rfl rfl ?_
      exact ex_nc pm_M31 rfl rfl rfl rfl
    · -- not
      refine ex_lo pm_M31 (pc_q := 5) (ls_q := [.int a0, .int (Int32.ofNat (S.2.2.2.1 (t + 4))), .ref 15]) (st_q := [.int a0]) rfl rfl rfl ?_
      refine ex_lo pm_M31 (pc_q := 6) (ls_q := [.int a0, .int (Int32.ofNat (S.2.2.2.1 (t + 4))), .ref 15]) (st_q := [.int (Int32.ofNat (S.2.2.2.1 (t + 4))), .int a0]) rfl rfl rfl ?_
      refine ex_icmp pm_M31 (t := 16) (pc_q := 9) rfl rfl rfl (fun c10 => ?_) (fun c10 => ?_)
      · -- a0 < Int32.ofNat (S.2.2.2.1 (t + 4))
        refine ex_lo pm_M31 (pc_q := 17) (ls_q := [.int a0, .int (Int32.ofNat (S.2.2.2.1 (t + 4))), .ref 15]) (st_q := [.int a0]) rfl rfl rfl ?_
        refine ex_retI pm_M31 rfl ?_
        show ex_P _ _ 30 8 [.int a0, .int (Int32.ofNat (S.2.2.2.1 (t + 4)))] [.int a0] S _
        refine ex_op pm_M30 (pc_q := 9) (st_q := []) rfl rfl rfl ?_
        refine ex_ret pm_M30 (r := none) rfl rfl ?_
        show ex_P _ _ 29 6 [.ref (t + 4), .int a0] [] S _
        refine ex_lo pm_M29 (pc_q := 7) (ls_q := [.ref (t + 4), .int a0]) (st_q := [.ref (t + 4)]) rfl rfl rfl ?_
        refine ex_lo pm_M29 (pc_q := 8) (ls_q := [.ref (t + 4), .int a0]) (st_q := [.int a0, .ref (t + 4)]) rfl rfl rfl ?_
        refine ex_bald' pm_M29 (pc_q := 9) (v := S.1 (t + 4) a0.toNatClampNeg) rfl rfl rfl ?_
        refine ex_op pm_M29 (pc_q := 12) (st_q := [.int 255, .int (S.1 (t + 4) a0.toNatClampNeg)]) rfl rfl rfl ?_
        refine ex_op pm_M29 (pc_q := 13) (st_q := [.int ((S.1 (t + 4) a0.toNatClampNeg) &&& 255)]) rfl rfl rfl ?_
        refine ex_op pm_M29 (pc_q := 14) (st_q := [.int ((((S.1 (t + 4) a0.toNatClampNeg) &&& 255).toUInt32 % 65536).toInt32)]) rfl rfl rfl ?_
        refine ex_retI pm_M29 rfl ?_
        show ex_P _ _ 27 15 [.ref t, .int a0] [.int ((((S.1 (t + 4) a0.toNatClampNeg) &&& 255).toUInt32 % 65536).toInt32)] S _
        exact ex_retI pm_M27 rfl (⟨_, rfl, v1 t a0 S kv c9 c10⟩)
      · -- not
        refine ex_lo pm_M31 (pc_q := 10) (ls_q := [.int a0, .int (Int32.ofNat (S.2.2.2.1 (t + 4))), .ref 15]) (st_q := [.ref 15]) rfl rfl rfl ?_
        refine ex_lo pm_M31 (pc_q := 11) (ls_q := [.int a0, .int (Int32.ofNat (S.2.2.2.1 (t + 4))), .ref 15]) (st_q := [.int a0, .ref 15]) rfl rfl rfl ?_
        refine ex_lo pm_M31 (pc_q := 12) (ls_q := [.int a0, .int (Int32.ofNat (S.2.2.2.1 (t + 4))), .ref 15]) (st_q := [.int (Int32.ofNat (S.2.2.2.1 (t + 4))), .int a0, .ref 15]) rfl rfl rfl ?_
        exact ex_nc pm_M31 rfl rfl rfl rfl
set_option maxRecDepth 100000 in
set_option maxHeartbeats 4000000 in
/-- java/lang/String.length -/
theorem ev25 {C : Nat → ex_S → Int32 → ex_S → Prop} 
    (v0 : ∀ (t : Nat) (S : ex_S), ex_KV S → C t S ((Int32.ofNat (S.2.2.2.1 (t + 4))) >>> (0 &&& 31)) S) : es25 C := by
  intro N d t S
  refine ex_kw (fun kv => ?_)
  refine ex_lo pm_M25 (pc_q := 1) (ls_q := [.ref t]) (st_q := [.ref t]) rfl rfl rfl ?_
  refine ex_strg pm_M25 (pc_q := 4) (v := .ref (t + 4)) rfl rfl rfl (Or.inl ⟨rfl, rfl⟩) rfl ?_
  refine ex_alen pm_M25 (pc_q := 5) rfl rfl ?_
  refine ex_lo pm_M25 (pc_q := 6) (ls_q := [.ref t]) (st_q := [.ref t, .int (Int32.ofNat (S.2.2.2.1 (t + 4)))]) rfl rfl rfl ?_
  refine ex_call pm_M25 (pc_q := 9) (ix := 335) (callee := 26) (np := 0) (kd := 0) (ra := [.ref t]) (rest := [.int (Int32.ofNat (S.2.2.2.1 (t + 4)))]) rfl rfl rfl rfl pm_M26 rfl rfl rfl rfl (fun d1 => ?_)
  refine ex_strs pm_M26 (pc_q := 3) rfl rfl rfl rfl (fun _ => ?_) (fun w => absurd w (by decide))
  refine ex_ifc pm_M26 (t := 13) (pc_q := 6) rfl rfl rfl (fun z => absurd z (show ¬ ((1 : Int32) = 0) by decide)) (fun _ => ?_)
  refine ex_lo pm_M26 (pc_q := 7) (ls_q := [.ref t]) (st_q := [.ref t]) rfl rfl rfl ?_
  refine ex_strg pm_M26 (pc_q := 10) (v := .int 0) rfl rfl rfl (Or.inr ⟨rfl, rfl⟩) rfl ?_
  refine ex_br pm_M26 (pc_q := 14) (st_q := [.int 0]) rfl rfl ?_
  refine ex_retI pm_M26 rfl ?_
  show ex_P _ _ 25 9 [.ref t] [.int 0, .int (Int32.ofNat (S.2.2.2.1 (t + 4)))] S _
  refine ex_op pm_M25 (pc_q := 10) (st_q := [.int ((Int32.ofNat (S.2.2.2.1 (t + 4))) >>> (0 &&& 31))]) rfl rfl rfl ?_
  exact ex_retI pm_M25 rfl (⟨_, rfl, v0 t S kv⟩)
set_option maxRecDepth 100000 in
set_option maxHeartbeats 4000000 in
/-- SilentTable$Tokens.spells -/
theorem ev36 {C : Nat → Int32 → Int32 → ex_S → Int32 → ex_S → Prop} {C27 : Nat → Int32 → ex_S → Int32 → ex_S → Prop} {I20 : Nat → Int32 → Int32 → ex_S → Int32 → ex_S → Prop} (H27 : es27 C27) 
    (v0 : ∀ (a0 : Nat) (a1 : Int32) (a2 : Int32) (S : ex_S), ex_KV S → a2 - a1 = (S.1 30 2) - (S.1 30 3) → I20 a0 a1 a2 S a1 S) 
    (v1 : ∀ (a0 : Nat) (a1 : Int32) (a2 : Int32) (S : ex_S), ex_KV S → ¬ (a2 - a1 = (S.1 30 2) - (S.1 30 3)) → C a0 a1 a2 S 0 S) 
    (v2 : ∀ (a0 : Nat) (a1 : Int32) (a2 : Int32) (S : ex_S) (x4 : Int32) (T : ex_S), I20 a0 a1 a2 S x4 T → ex_KV T → a2 ≤ x4 → C a0 a1 a2 S 1 T) 
    (v3 : ∀ (a0 : Nat) (a1 : Int32) (a2 : Int32) (S : ex_S) (x4 : Int32) (T : ex_S), I20 a0 a1 a2 S x4 T → ex_KV T → ¬ (a2 ≤ x4) → ∀ (r4 : Int32) (S5 : ex_S), C27 a0 x4 T r4 S5 → r4 = S5.1 18 ((((S5.1 30 3) + x4) - a1).toNatClampNeg) → I20 a0 a1 a2 S (x4 + 1) S5) 
    (v4 : ∀ (a0 : Nat) (a1 : Int32) (a2 : Int32) (S : ex_S) (x4 : Int32) (T : ex_S), I20 a0 a1 a2 S x4 T → ex_KV T → ¬ (a2 ≤ x4) → ∀ (r4 : Int32) (S5 : ex_S), C27 a0 x4 T r4 S5 → ¬ (r4 = S5.1 18 ((((S5.1 30 3) + x4) - a1).toNatClampNeg)) → C a0 a1 a2 S 0 S5) : es36 C := by
  intro N d a0 a1 a2 S
  have LL : ∀ N : Nat, (∀ (x4 : Int32) (T : ex_S), I20 a0 a1 a2 S x4 T → ex_P N d 36 20 [.ref 30, .ref a0, .int a1, .int a2, .int x4] [] T (fun r S_q => ∃ v, r = some (.int v) ∧ C a0 a1 a2 S v S_q)) := by
    intro N
    induction N with
    | zero => exact fun _ _ _ => ex_zero
    | succ N ih =>
      have ih20 := ih
      have L20 : ∀ (x4 : Int32) (T : ex_S), I20 a0 a1 a2 S x4 T → ex_P (N + 1) d 36 20 [.ref 30, .ref a0, .int a1, .int a2, .int x4] [] T (fun r S_q => ∃ v, r = some (.int v) ∧ C a0 a1 a2 S v S_q) := by
        intro x4 T hI
        refine ex_kw (fun kvT => ?_)
        refine ex_lo pm_M36 (pc_q := 22) (ls_q := [.ref 30, .ref a0, .int a1, .int a2, .int x4]) (st_q := [.int x4]) rfl rfl rfl ?_
        refine ex_lo pm_M36 (pc_q := 23) (ls_q := [.ref 30, .ref a0, .int a1, .int a2, .int x4]) (st_q := [.int a2, .int x4]) rfl rfl rfl ?_
        refine ex_icmp pm_M36 (t := 57) (pc_q := 26) rfl rfl rfl (fun c2 => ?_) (fun c2 => ?_)
        · -- a2 ≤ x4
          refine ex_op pm_M36 (pc_q := 58) (st_q := [.int 1]) rfl rfl rfl ?_
          exact ex_retI pm_M36 rfl (⟨_, rfl, v2 a0 a1 a2 S x4 T hI kvT c2⟩)
        · -- not
          refine ex_lo pm_M36 (pc_q := 27) (ls_q := [.ref 30, .ref a0, .int a1, .int a2, .int x4]) (st_q := [.ref a0]) rfl rfl rfl ?_
          refine ex_lo pm_M36 (pc_q := 29) (ls_q := [.ref 30, .ref a0, .int a1, .int a2, .int x4]) (st_q := [.int x4, .ref a0]) rfl rfl rfl ?_
          refine ex_call pm_M36 (pc_q := 32) (ix := 56) (callee := 27) (np := 1) (kd := 0) (ra := [.int x4, .ref a0]) (rest := []) rfl rfl rfl rfl pm_M27 rfl rfl rfl rfl (fun d3 => (H27 _ d3 a0 x4 T).mono (fun r S5 e => ?_))
          obtain ⟨r4, rfl, h6⟩ := e
          show ex_P _ _ 36 32 [.ref 30, .ref a0, .int a1, .int a2, .int x4] [.int r4] S5 _
          refine ex_lo pm_M36 (pc_q := 33) (ls_q := [.ref 30, .ref a0, .int a1, .int a2, .int x4]) (st_q := [.ref 30, .int r4]) rfl rfl rfl ?_
          refine ex_getK pm_M36 (pc_q := 36) (j := 20) (b := 18) rfl rfl rfl rfl rfl ?_
          refine ex_lo pm_M36 (pc_q := 37) (ls_q := [.ref 30, .ref a0, .int a1, .int a2, .int x4]) (st_q := [.ref 30, .ref 18, .int r4]) rfl rfl rfl ?_
          refine ex_getI' pm_M36 (pc_q := 40) (v := S5.1 30 3) rfl rfl rfl rfl rfl rfl ?_
          refine ex_lo pm_M36 (pc_q := 42) (ls_q := [.ref 30, .ref a0, .int a1, .int a2, .int x4]) (st_q := [.int x4, .int (S5.1 30 3), .ref 18, .int r4]) rfl rfl rfl ?_
          refine ex_op pm_M36 (pc_q := 43) (st_q := [.int ((S5.1 30 3) + x4), .ref 18, .int r4]) rfl rfl rfl ?_
          refine ex_lo pm_M36 (pc_q := 44) (ls_q := [.ref 30, .ref a0, .int a1, .int a2, .int x4]) (st_q := [.int a1, .int ((S5.1 30 3) + x4), .ref 18, .int r4]) rfl rfl rfl ?_
          refine ex_op pm_M36 (pc_q := 45) (st_q := [.int (((S5.1 30 3) + x4) - a1), .ref 18, .int r4]) rfl rfl rfl ?_
          refine ex_bald' pm_M36 (pc_q := 46) (v := S5.1 18 ((((S5.1 30 3) + x4) - a1).toNatClampNeg)) rfl rfl rfl ?_
          refine ex_icmp pm_M36 (t := 51) (pc_q := 49) rfl rfl rfl (fun c7 => ?_) (fun c7 => ?_)
          · -- r4 = S5.1 18 ((((S5.1 30 3) + x4) - a1).toNatClampNeg)
            refine ex_lo pm_M36 (pc_q := 54) (ls_q := [.ref 30, .ref a0, .int a1, .int a2, .int (x4 + 1)]) (st_q := []) rfl rfl rfl ?_
            refine ex_goS pm_M36 (pc_q := 20) (st_q := []) rfl rfl ?_
            exact ih20 (x4 + 1) S5 (v3 a0 a1 a2 S x4 T hI kvT c2 r4 S5 h6 c7)
          · -- not
            refine ex_op pm_M36 (pc_q := 50) (st_q := [.int 0]) rfl rfl rfl ?_
            exact ex_retI pm_M36 rfl (⟨_, rfl, v4 a0 a1 a2 S x4 T hI kvT c2 r4 S5 h6 c7⟩)
      exact L20
  have L20 := LL N
  refine ex_kw (fun kv => ?_)
  refine ex_lo pm_M36 (pc_q := 1) (ls_q := [.ref 30, .ref a0, .int a1, .int a2, pm_no]) (st_q := [.int a2]) rfl rfl rfl ?_
  refine ex_lo pm_M36 (pc_q := 2) (ls_q := [.ref 30, .ref a0, .int a1, .int a2, pm_no]) (st_q := [.int a1, .int a2]) rfl rfl rfl ?_
  refine ex_op pm_M36 (pc_q := 3) (st_q := [.int (a2 - a1)]) rfl rfl rfl ?_
  refine ex_lo pm_M36 (pc_q := 4) (ls_q := [.ref 30, .ref a0, .int a1, .int a2, pm_no]) (st_q := [.ref 30, .int (a2 - a1)]) rfl rfl rfl ?_
  refine ex_getI' pm_M36 (pc_q := 7) (v := S.1 30 2) rfl rfl rfl rfl rfl rfl ?_
  refine ex_lo pm_M36 (pc_q := 8) (ls_q := [.ref 30, .ref a0, .int a1, .int a2, pm_no]) (st_q := [.ref 30, .int (S.1 30 2), .int (a2 - a1)]) rfl rfl rfl ?_
  refine ex_getI' pm_M36 (pc_q := 11) (v := S.1 30 3) rfl rfl rfl rfl rfl rfl ?_
  refine ex_op pm_M36 (pc_q := 12) (st_q := [.int ((S.1 30 2) - (S.1 30 3)), .int (a2 - a1)]) rfl rfl rfl ?_
  refine ex_icmp pm_M36 (t := 17) (pc_q := 15) rfl rfl rfl (fun c1 => ?_) (fun c1 => ?_)
  · -- a2 - a1 = (S.1 30 2) - (S.1 30 3)
    refine ex_lo pm_M36 (pc_q := 18) (ls_q := [.ref 30, .ref a0, .int a1, .int a2, pm_no]) (st_q := [.int a1]) rfl rfl rfl ?_
    refine ex_lo pm_M36 (pc_q := 20) (ls_q := [.ref 30, .ref a0, .int a1, .int a2, .int a1]) (st_q := []) rfl rfl rfl ?_
    exact L20 a1 S (v0 a0 a1 a2 S kv c1)
  · -- not
    refine ex_op pm_M36 (pc_q := 16) (st_q := [.int 0]) rfl rfl rfl ?_
    exact ex_retI pm_M36 rfl (⟨_, rfl, v1 a0 a1 a2 S kv c1⟩)
set_option maxRecDepth 100000 in
set_option maxHeartbeats 4000000 in
/-- SilentTable$Tokens.wordAmong -/
theorem ev24 {C : Nat → ex_S → Int32 → ex_S → Prop} {C25 : Nat → ex_S → Int32 → ex_S → Prop} {C27 : Nat → Int32 → ex_S → Int32 → ex_S → Prop} {C36 : Nat → Int32 → Int32 → ex_S → Int32 → ex_S → Prop} {I17 : Nat → ex_S → Int32 → Int32 → Int32 → ex_S → Prop} (H25 : es25 C25) (H27 : es27 C27) (H36 : es36 C36) 
    (v0 : ∀ (a0 : Nat) (S : ex_S), ex_KV S → S.1 30 4 = 1 → I17 a0 S 0 0 0 S) 
    (v1 : ∀ (a0 : Nat) (S : ex_S), ex_KV S → ¬ (S.1 30 4 = 1) → C a0 S (-1) S) 
    (v2 : ∀ (a0 : Nat) (S : ex_S) (x2 : Int32) (x3 : Int32) (x4 : Int32) (T : ex_S), I17 a0 S x2 x3 x4 T → ex_KV T → ∀ (r3 : Int32) (S4 : ex_S), C25 a0 T r3 S4 → r3 < x4 → C a0 S (-1) S4) 
    (v3 : ∀ (a0 : Nat) (S : ex_S) (x2 : Int32) (x3 : Int32) (x4 : Int32) (T : ex_S), I17 a0 S x2 x3 x4 T → ex_KV T → ∀ (r3 : Int32) (S4 : ex_S), C25 a0 T r3 S4 → ¬ (r3 < x4) → ∀ (r8 : Int32) (S9 : ex_S), C25 a0 S4 r8 S9 → x4 = r8 → ∀ (r13 : Int32) (S14 : ex_S), C36 a0 x3 x4 S9 r13 S14 → r13 = 0 → I17 a0 S (x2 + 1) (x4 + 1) (x4 + 1) S14) 
    (v4 : ∀ (a0 : Nat) (S : ex_S) (x2 : Int32) (x3 : Int32) (x4 : Int32) (T : ex_S), I17 a0 S x2 x3 x4 T → ex_KV T → ∀ (r3 : Int32) (S4 : ex_S), C25 a0 T r3 S4 → ¬ (r3 < x4) → ∀ (r8 : Int32) (S9 : ex_S), C25 a0 S4 r8 S9 → x4 = r8 → ∀ (r13 : Int32) (S14 : ex_S), C36 a0 x3 x4 S9 r13 S14 → ¬ (r13 = 0) → C a0 S x2 S14) 
    (v5 : ∀ (a0 : Nat) (S : ex_S) (x2 : Int32) (x3 : Int32) (x4 : Int32) (T : ex_S), I17 a0 S x2 x3 x4 T → ex_KV T → ∀ (r3 : Int32) (S4 : ex_S), C25 a0 T r3 S4 → ¬ (r3 < x4) → ∀ (r8 : Int32) (S9 : ex_S), C25 a0 S4 r8 S9 → ¬ (x4 = r8) → ∀ (r18 : Int32) (S19 : ex_S), C27 a0 x4 S9 r18 S19 → ¬ r18 = 32 → I17 a0 S x2 x3 (x4 + 1) S19) 
    (v6 : ∀ (a0 : Nat) (S : ex_S) (x2 : Int32) (x3 : Int32) (x4 : Int32) (T : ex_S), I17 a0 S x2 x3 x4 T → ex_KV T → ∀ (r3 : Int32) (S4 : ex_S), C25 a0 T r3 S4 → ¬ (r3 < x4) → ∀ (r8 : Int32) (S9 : ex_S), C25 a0 S4 r8 S9 → ¬ (x4 = r8) → ∀ (r18 : Int32) (S19 : ex_S), C27 a0 x4 S9 r18 S19 → ¬ (¬ r18 = 32) → ∀ (r23 : Int32) (S24 : ex_S), C36 a0 x3 x4 S19 r23 S24 → r23 = 0 → I17 a0 S (x2 + 1) (x4 + 1) (x4 + 1) S24) 
    (v7 : ∀ (a0 : Nat) (S : ex_S) (x2 : Int32) (x3 : Int32) (x4 : Int32) (T : ex_S), I17 a0 S x2 x3 x4 T → ex_KV T → ∀ (r3 : Int32) (S4 : ex_S), C25 a0 T r3 S4 → ¬ (r3 < x4) → ∀ (r8 : Int32) (S9 : ex_S), C25 a0 S4 r8 S9 → ¬ (x4 = r8) → ∀ (r18 : Int32) (S19 : ex_S), C27 a0 x4 S9 r18 S19 → ¬ (¬ r18 = 32) → ∀ (r23 : Int32) (S24 : ex_S), C36 a0 x3 x4 S19 r23 S24 → ¬ (r23 = 0) → C a0 S x2 S24) : es24 C := by
  intro N d a0 S
  have LL : ∀ N : Nat, (∀ (x2 : Int32) (x3 : Int32) (x4 : Int32) (T : ex_S), I17 a0 S x2 x3 x4 T → ex_P N d 24 17 [.ref 30, .ref a0, .int x2, .int x3, .int x4] [] T (fun r S_q => ∃ v, r = some (.int v) ∧ C a0 S v S_q)) := by
    intro N
    induction N with
    | zero => exact fun _ _ _ _ _ => ex_zero
    | succ N ih =>
      have ih17 := ih
      have L17 : ∀ (x2 : Int32) (x3 : Int32) (x4 : Int32) (T : ex_S), I17 a0 S x2 x3 x4 T → ex_P (N + 1) d 24 17 [.ref 30, .ref a0, .int x2, .int x3, .int x4] [] T (fun r S_q => ∃ v, r = some (.int v) ∧ C a0 S v S_q) := by
        intro x2 x3 x4 T hI
        refine ex_kw (fun kvT => ?_)
        refine ex_lo pm_M24 (pc_q := 19) (ls_q := [.ref 30, .ref a0, .int x2, .int x3, .int x4]) (st_q := [.int x4]) rfl rfl rfl ?_
        refine ex_lo pm_M24 (pc_q := 20) (ls_q := [.ref 30, .ref a0, .int x2, .int x3, .int x4]) (st_q := [.ref a0, .int x4]) rfl rfl rfl ?_
        refine ex_call pm_M24 (pc_q := 23) (ix := 50) (callee := 25) (np := 0) (kd := 0) (ra := [.ref a0]) (rest := [.int x4]) rfl rfl rfl rfl pm_M25 rfl rfl rfl rfl (fun d2 => (H25 _ d2 a0 T).mono (fun r S4 e => ?_))
        obtain ⟨r3, rfl, h5⟩ := e
        show ex_P _ _ 24 23 [.ref 30, .ref a0, .int x2, .int x3, .int x4] [.int r3, .int x4] S4 _
        refine ex_icmp pm_M24 (t := 73) (pc_q := 26) rfl rfl rfl (fun c6 => ?_) (fun c6 => ?_)
        · -- r3 < x4
          refine ex_op pm_M24 (pc_q := 74) (st_q := [.int (-1)]) rfl rfl rfl ?_
          exact ex_retI pm_M24 rfl (⟨_, rfl, v2 a0 S x2 x3 x4 T hI kvT r3 S4 h5 c6⟩)
        · -- not
          refine ex_lo pm_M24 (pc_q := 28) (ls_q := [.ref 30, .ref a0, .int x2, .int x3, .int x4]) (st_q := [.int x4]) rfl rfl rfl ?_
          refine ex_lo pm_M24 (pc_q := 29) (ls_q := [.ref 30, .ref a0, .int x2, .int x3, .int x4]) (st_q := [.ref a0, .int x4]) rfl rfl rfl ?_
          refine ex_call pm_M24 (pc_q := 32) (ix := 50) (callee := 25) (np := 0) (kd := 0) (ra := [.ref a0]) (rest := [.int x4]) rfl rfl rfl rfl pm_M25 rfl rfl rfl rfl (fun d7 => (H25 _ d7 a0 S4).mono (fun r S9 e => ?_))
          obtain ⟨r8, rfl, h10⟩ := e
          show ex_P _ _ 24 32 [.ref 30, .ref a0, .int x2, .int x3, .int x4] [.int r8, .int x4] S9 _
          refine ex_icmp pm_M24 (t := 46) (pc_q := 35) rfl rfl rfl (fun c11 => ?_) (fun c11 => ?_)
          · -- x4 = r8
            refine ex_lo pm_M24 (pc_q := 47) (ls_q := [.ref 30, .ref a0, .int x2, .int x3, .int x4]) (st_q := [.ref 30]) rfl rfl rfl ?_
            refine ex_lo pm_M24 (pc_q := 48) (ls_q := [.ref 30, .ref a0, .int x2, .int x3, .int x4]) (st_q := [.ref a0, .ref 30]) rfl rfl rfl ?_
            refine ex_lo pm_M24 (pc_q := 49) (ls_q := [.ref 30, .ref a0, .int x2, .int x3, .int x4]) (st_q := [.int x3, .ref a0, .ref 30]) rfl rfl rfl ?_
            refine ex_lo pm_M24 (pc_q := 51) (ls_q := [.ref 30, .ref a0, .int x2, .int x3, .int x4]) (st_q := [.int x4, .int x3, .ref a0, .ref 30]) rfl rfl rfl ?_
            refine ex_call pm_M24 (pc_q := 54) (ix := 60) (callee := 36) (np := 3) (kd := 0) (ra := [.int x4, .int x3, .ref a0, .ref 30]) (rest := []) rfl rfl rfl rfl pm_M36 rfl rfl rfl rfl (fun d12 => (H36 _ d12 a0 x3 x4 S9).mono (fun r S14 e => ?_))
            obtain ⟨r13, rfl, h15⟩ := e
            show ex_P _ _ 24 54 [.ref 30, .ref a0, .int x2, .int x3, .int x4] [.int r13] S14 _
            refine ex_ifc pm_M24 (t := 59) (pc_q := 57) rfl rfl rfl (fun c16 => ?_) (fun c16 => ?_)
            · -- r13 = 0
              refine ex_lo pm_M24 (pc_q := 62) (ls_q := [.ref 30, .ref a0, .int (x2 + 1), .int x3, .int x4]) (st_q := []) rfl rfl rfl ?_
              refine ex_lo pm_M24 (pc_q := 64) (ls_q := [.ref 30, .ref a0, .int (x2 + 1), .int x3, .int x4]) (st_q := [.int x4]) rfl rfl rfl ?_
              refine ex_op pm_M24 (pc_q := 65) (st_q := [.int 1, .int x4]) rfl rfl rfl ?_
              refine ex_op pm_M24 (pc_q := 66) (st_q := [.int (x4 + 1)]) rfl rfl rfl ?_
              refine ex_lo pm_M24 (pc_q := 67) (ls_q := [.ref 30, .ref a0, .int (x2 + 1), .int (x4 + 1), .int x4]) (st_q := []) rfl rfl rfl ?_
              refine ex_lo pm_M24 (pc_q := 70) (ls_q := [.ref 30, .ref a0, .int (x2 + 1), .int (x4 + 1), .int (x4 + 1)]) (st_q := []) rfl rfl rfl ?_
              refine ex_goS pm_M24 (pc_q := 17) (st_q := []) rfl rfl ?_
              exact ih17 (x2 + 1) (x4 + 1) (x4 + 1) S14 (v3 a0 S x2 x3 x4 T hI kvT r3 S4 h5 c6 r8 S9 h10 c11 r13 S14 h15 c16)
            · -- not
              refine ex_lo pm_M24 (pc_q := 58) (ls_q := [.ref 30, .ref a0, .int x2, .int x3, .int x4]) (st_q := [.int x2]) rfl rfl rfl ?_
              exact ex_retI pm_M24 rfl (⟨_, rfl, v4 a0 S x2 x3 x4 T hI kvT r3 S4 h5 c6 r8 S9 h10 c11 r13 S14 h15 c16⟩)
          · -- not
            refine ex_lo pm_M24 (pc_q := 36) (ls_q := [.ref 30, .ref a0, .int x2, .int x3, .int x4]) (st_q := [.ref a0]) rfl rfl rfl ?_
            refine ex_lo pm_M24 (pc_q := 38) (ls_q := [.ref 30, .ref a0, .int x2, .int x3, .int x4]) (st_q := [.int x4, .ref a0]) rfl rfl rfl ?_
            refine ex_call pm_M24 (pc_q := 41) (ix := 56) (callee := 27) (np := 1) (kd := 0) (ra := [.int x4, .ref a0]) (rest := []) rfl rfl rfl rfl pm_M27 rfl rfl rfl rfl (fun d17 => (H27 _ d17 a0 x4 S9).mono (fun r S19 e => ?_))
            obtain ⟨r18, rfl, h20⟩ := e
            show ex_P _ _ 24 41 [.ref 30, .ref a0, .int x2, .int x3, .int x4] [.int r18] S19 _
            refine ex_op pm_M24 (pc_q := 43) (st_q := [.int 32, .int r18]) rfl rfl rfl ?_
            refine ex_icmp pm_M24 (t := 67) (pc_q := 46) rfl rfl rfl (fun c21 => ?_) (fun c21 => ?_)
            · -- ¬ r18 = 32
              refine ex_lo pm_M24 (pc_q := 70) (ls_q := [.ref 30, .ref a0, .int x2, .int x3, .int (x4 + 1)]) (st_q := []) rfl rfl rfl ?_
              refine ex_goS pm_M24 (pc_q := 17) (st_q := []) rfl rfl ?_
              exact ih17 x2 x3 (x4 + 1) S19 (v5 a0 S x2 x3 x4 T hI kvT r3 S4 h5 c6 r8 S9 h10 c11 r18 S19 h20 c21)
            · -- not
              refine ex_lo pm_M24 (pc_q := 47) (ls_q := [.ref 30, .ref a0, .int x2, .int x3, .int x4]) (st_q := [.ref 30]) rfl rfl rfl ?_
              refine ex_lo pm_M24 (pc_q := 48) (ls_q := [.ref 30, .ref a0, .int x2, .int x3, .int x4]) (st_q := [.ref a0, .ref 30]) rfl rfl rfl ?_
              refine ex_lo pm_M24 (pc_q := 49) (ls_q := [.ref 30, .ref a0, .int x2, .int x3, .int x4]) (st_q := [.int x3, .ref a0, .ref 30]) rfl rfl rfl ?_
              refine ex_lo pm_M24 (pc_q := 51) (ls_q := [.ref 30, .ref a0, .int x2, .int x3, .int x4]) (st_q := [.int x4, .int x3, .ref a0, .ref 30]) rfl rfl rfl ?_
              refine ex_call pm_M24 (pc_q := 54) (ix := 60) (callee := 36) (np := 3) (kd := 0) (ra := [.int x4, .int x3, .ref a0, .ref 30]) (rest := []) rfl rfl rfl rfl pm_M36 rfl rfl rfl rfl (fun d22 => (H36 _ d22 a0 x3 x4 S19).mono (fun r S24 e => ?_))
              obtain ⟨r23, rfl, h25⟩ := e
              show ex_P _ _ 24 54 [.ref 30, .ref a0, .int x2, .int x3, .int x4] [.int r23] S24 _
              refine ex_ifc pm_M24 (t := 59) (pc_q := 57) rfl rfl rfl (fun c26 => ?_) (fun c26 => ?_)
              · -- r23 = 0
                refine ex_lo pm_M24 (pc_q := 62) (ls_q := [.ref 30, .ref a0, .int (x2 + 1), .int x3, .int x4]) (st_q := []) rfl rfl rfl ?_
                refine ex_lo pm_M24 (pc_q := 64) (ls_q := [.ref 30, .ref a0, .int (x2 + 1), .int x3, .int x4]) (st_q := [.int x4]) rfl rfl rfl ?_
                refine ex_op pm_M24 (pc_q := 65) (st_q := [.int 1, .int x4]) rfl rfl rfl ?_
                refine ex_op pm_M24 (pc_q := 66) (st_q := [.int (x4 + 1)]) rfl rfl rfl ?_
                refine ex_lo pm_M24 (pc_q := 67) (ls_q := [.ref 30, .ref a0, .int (x2 + 1), .int (x4 + 1), .int x4]) (st_q := []) rfl rfl rfl ?_
                refine ex_lo pm_M24 (pc_q := 70) (ls_q := [.ref 30, .ref a0, .int (x2 + 1), .int (x4 + 1), .int (x4 + 1)]) (st_q := []) rfl rfl rfl ?_
                refine ex_goS pm_M24 (pc_q := 17) (st_q := []) rfl rfl ?_
                exact ih17 (x2 + 1) (x4 + 1) (x4 + 1) S24 (v6 a0 S x2 x3 x4 T hI kvT r3 S4 h5 c6 r8 S9 h10 c11 r18 S19 h20 c21 r23 S24 h25 c26)
              · -- not
                refine ex_lo pm_M24 (pc_q := 58) (ls_q := [.ref 30, .ref a0, .int x2, .int x3, .int x4]) (st_q := [.int x2]) rfl rfl rfl ?_
                exact ex_retI pm_M24 rfl (⟨_, rfl, v7 a0 S x2 x3 x4 T hI kvT r3 S4 h5 c6 r8 S9 h10 c11 r18 S19 h20 c21 r23 S24 h25 c26⟩)
      exact L17
  have L17 := LL N
  refine ex_kw (fun kv => ?_)
  refine ex_lo pm_M24 (pc_q := 1) (ls_q := [.ref 30, .ref a0, pm_no, pm_no, pm_no]) (st_q := [.ref 30]) rfl rfl rfl ?_
  refine ex_getI' pm_M24 (pc_q := 4) (v := S.1 30 4) rfl rfl rfl rfl rfl rfl ?_
  refine ex_op pm_M24 (pc_q := 5) (st_q := [.int 1, .int (S.1 30 4)]) rfl rfl rfl ?_
  refine ex_icmp pm_M24 (t := 10) (pc_q := 8) rfl rfl rfl (fun c1 => ?_) (fun c1 => ?_)
  · -- S.1 30 4 = 1
    refine ex_op pm_M24 (pc_q := 11) (st_q := [.int 0]) rfl rfl rfl ?_
    refine ex_lo pm_M24 (pc_q := 12) (ls_q := [.ref 30, .ref a0, .int 0, pm_no, pm_no]) (st_q := []) rfl rfl rfl ?_
    refine ex_op pm_M24 (pc_q := 13) (st_q := [.int 0]) rfl rfl rfl ?_
    refine ex_lo pm_M24 (pc_q := 14) (ls_q := [.ref 30, .ref a0, .int 0, .int 0, pm_no]) (st_q := []) rfl rfl rfl ?_
    refine ex_op pm_M24 (pc_q := 15) (st_q := [.int 0]) rfl rfl rfl ?_
    refine ex_lo pm_M24 (pc_q := 17) (ls_q := [.ref 30, .ref a0, .int 0, .int 0, .int 0]) (st_q := []) rfl rfl rfl ?_
    exact L17 0 0 0 S (v0 a0 S kv c1)
  · -- not
    refine ex_op pm_M24 (pc_q := 9) (st_q := [.int (-1)]) rfl rfl rfl ?_
    exact ex_retI pm_M24 rfl (⟨_, rfl, v1 a0 S kv c1⟩)
set_option maxRecDepth 100000 in
set_option maxHeartbeats 4000000 in
/-- SilentTable$TextReader.firstWord -/
theorem ev23 {C : Int32 → ex_S → Int32 → ex_S → Prop} {C24 : Nat → ex_S → Int32 → ex_S → Prop} (H24 : es24 C24) 
    (v0 : ∀ (a0 : Int32) (S : ex_S), a0 = 0 → ∀ (r5 : Int32) (S6 : ex_S), C24 7 S r5 S6 → ¬ r5 = (-1) → C a0 S (0 + r5) S6) 
    (v1 : ∀ (a0 : Int32) (S : ex_S), a0 = 0 → ∀ (r5 : Int32) (S6 : ex_S), C24 7 S r5 S6 → ¬ (¬ r5 = (-1)) → C a0 S (-1) S6) 
    (v2 : ∀ (a0 : Int32) (S : ex_S), ¬ (a0 = 0) → a0 = 2 → ∀ (r11 : Int32) (S12 : ex_S), C24 8 S r11 S12 → ¬ r11 = (-1) → C a0 S (3 + r11) S12) 
    (v3 : ∀ (a0 : Int32) (S : ex_S), ¬ (a0 = 0) → a0 = 2 → ∀ (r11 : Int32) (S12 : ex_S), C24 8 S r11 S12 → ¬ (¬ r11 = (-1)) → C a0 S (-1) S12) 
    (v4 : ∀ (a0 : Int32) (S : ex_S), ¬ (a0 = 0) → ¬ (a0 = 2) → ∀ (r16 : Int32) (S17 : ex_S), C24 9 S r16 S17 → ¬ r16 = (-1) → C a0 S (7 + r16) S17) 
    (v5 : ∀ (a0 : Int32) (S : ex_S), ¬ (a0 = 0) → ¬ (a0 = 2) → ∀ (r16 : Int32) (S17 : ex_S), C24 9 S r16 S17 → ¬ (¬ r16 = (-1)) → C a0 S (-1) S17) : es23 C := by
  intro N d a0 S
  refine ex_lo pm_M23 (pc_q := 1) (ls_q := [.ref 25, .int a0, pm_no]) (st_q := [.int a0]) rfl rfl rfl ?_
  refine ex_sw pm_M23 rfl rfl rfl rfl rfl (fun _ _ _ => rfl) (fun z1 hz2 => ?_)
  by_cases c3 : a0 = 0
  · rw [c3] at hz2
    cases (show some (28, []) = some z1 from hz2)
    show ex_P _ _ 23 28 [.ref 25, .int a0, pm_no] [] S _
    refine ex_lo pm_M23 (pc_q := 29) (ls_q := [.ref 25, .int a0, pm_no]) (st_q := [.ref 25]) rfl rfl rfl ?_
    refine ex_getK pm_M23 (pc_q := 32) (j := 15) (b := 30) rfl rfl rfl rfl rfl ?_
    refine ex_ldcs pm_M23 (pc_q := 34) (j := 7) rfl rfl rfl rfl rfl ?_
    refine ex_call pm_M23 (pc_q := 37) (ix := 98) (callee := 24) (np := 1) (kd := 0) (ra := [.ref 7, .ref 30]) (rest := []) rfl rfl rfl rfl pm_M24 rfl rfl rfl rfl (fun d4 => (H24 _ d4 7 S).mono (fun r S6 e => ?_))
    obtain ⟨r5, rfl, h7⟩ := e
    show ex_P _ _ 23 37 [.ref 25, .int a0, pm_no] [.int r5] S6 _
    refine ex_lo pm_M23 (pc_q := 38) (ls_q := [.ref 25, .int a0, .int r5]) (st_q := []) rfl rfl rfl ?_
    refine ex_lo pm_M23 (pc_q := 39) (ls_q := [.ref 25, .int a0, .int r5]) (st_q := [.int r5]) rfl rfl rfl ?_
    refine ex_op pm_M23 (pc_q := 40) (st_q := [.int (-1), .int r5]) rfl rfl rfl ?_
    refine ex_icmp pm_M23 (t := 47) (pc_q := 43) rfl rfl rfl (fun c8 => ?_) (fun c8 => ?_)
    · -- ¬ r5 = (-1)
      refine ex_op pm_M23 (pc_q := 48) (st_q := [.int 0]) rfl rfl rfl ?_
      refine ex_lo pm_M23 (pc_q := 49) (ls_q := [.ref 25, .int a0, .int r5]) (st_q := [.int r5, .int 0]) rfl rfl rfl ?_
      refine ex_op pm_M23 (pc_q := 50) (st_q := [.int (0 + r5)]) rfl rfl rfl ?_
      exact ex_retI pm_M23 rfl (⟨_, rfl, v0 a0 S c3 r5 S6 h7 c8⟩)
    · -- not
      refine ex_op pm_M23 (pc_q := 44) (st_q := [.int (-1)]) rfl rfl rfl ?_
      refine ex_br pm_M23 (pc_q := 50) (st_q := [.int (-1)]) rfl rfl ?_
      exact ex_retI pm_M23 rfl (⟨_, rfl, v1 a0 S c3 r5 S6 h7 c8⟩)
  by_cases c9 : a0 = 2
  · rw [c9] at hz2
    cases (show some (51, []) = some z1 from hz2)
    show ex_P _ _ 23 51 [.ref 25, .int a0, pm_no] [] S _
    refine ex_lo pm_M23 (pc_q := 52) (ls_q := [.ref 25, .int a0, pm_no]) (st_q := [.ref 25]) rfl rfl rfl ?_
    refine ex_getK pm_M23 (pc_q := 55) (j := 15) (b := 30) rfl rfl rfl rfl rfl ?_
    refine ex_ldcs pm_M23 (pc_q := 57) (j := 8) rfl rfl rfl rfl rfl ?_
    refine ex_call pm_M23 (pc_q := 60) (ix := 98) (callee := 24) (np := 1) (kd := 0) (ra := [.ref 8, .ref 30]) (rest := []) rfl rfl rfl rfl pm_M24 rfl rfl rfl rfl (fun d10 => (H24 _ d10 8 S).mono (fun r S12 e => ?_))
    obtain ⟨r11, rfl, h13⟩ := e
    show ex_P _ _ 23 60 [.ref 25, .int a0, pm_no] [.int r11] S12 _
    refine ex_lo pm_M23 (pc_q := 61) (ls_q := [.ref 25, .int a0, .int r11]) (st_q := []) rfl rfl rfl ?_
    refine ex_lo pm_M23 (pc_q := 62) (ls_q := [.ref 25, .int a0, .int r11]) (st_q := [.int r11]) rfl rfl rfl ?_
    refine ex_op pm_M23 (pc_q := 63) (st_q := [.int (-1), .int r11]) rfl rfl rfl ?_
    refine ex_icmp pm_M23 (t := 70) (pc_q := 66) rfl rfl rfl (fun c14 => ?_) (fun c14 => ?_)
    · -- ¬ r11 = (-1)
      refine ex_op pm_M23 (pc_q := 71) (st_q := [.int 3]) rfl rfl rfl ?_
      refine ex_lo pm_M23 (pc_q := 72) (ls_q := [.ref 25, .int a0, .int r11]) (st_q := [.int r11, .int 3]) rfl rfl rfl ?_
      refine ex_op pm_M23 (pc_q := 73) (st_q := [.int (3 + r11)]) rfl rfl rfl ?_
      exact ex_retI pm_M23 rfl (⟨_, rfl, v2 a0 S c3 c9 r11 S12 h13 c14⟩)
    · -- not
      refine ex_op pm_M23 (pc_q := 67) (st_q := [.int (-1)]) rfl rfl rfl ?_
      refine ex_br pm_M23 (pc_q := 73) (st_q := [.int (-1)]) rfl rfl ?_
      exact ex_retI pm_M23 rfl (⟨_, rfl, v3 a0 S c3 c9 r11 S12 h13 c14⟩)
  have hz2' := ex_lswD (st := []) hz2 ⟨fun w => c3 (Int32.toInt_inj.mp (w.symm.trans (by decide))), fun w => c9 (Int32.toInt_inj.mp (w.symm.trans (by decide)))⟩
  cases (show some (74, []) = some z1 from hz2')
  show ex_P _ _ 23 74 [.ref 25, .int a0, pm_no] [] S _
  refine ex_lo pm_M23 (pc_q := 75) (ls_q := [.ref 25, .int a0, pm_no]) (st_q := [.ref 25]) rfl rfl rfl ?_
  refine ex_getK pm_M23 (pc_q := 78) (j := 15) (b := 30) rfl rfl rfl rfl rfl ?_
  refine ex_ldcs pm_M23 (pc_q := 80) (j := 9) rfl rfl rfl rfl rfl ?_
  refine ex_call pm_M23 (pc_q := 83) (ix := 98) (callee := 24) (np := 1) (kd := 0) (ra := [.ref 9, .ref 30]) (rest := []) rfl rfl rfl rfl pm_M24 rfl rfl rfl rfl (fun d15 => (H24 _ d15 9 S).mono (fun r S17 e => ?_))
  obtain ⟨r16, rfl, h18⟩ := e
  show ex_P _ _ 23 83 [.ref 25, .int a0, pm_no] [.int r16] S17 _
  refine ex_lo pm_M23 (pc_q := 84) (ls_q := [.ref 25, .int a0, .int r16]) (st_q := []) rfl rfl rfl ?_
  refine ex_lo pm_M23 (pc_q := 85) (ls_q := [.ref 25, .int a0, .int r16]) (st_q := [.int r16]) rfl rfl rfl ?_
  refine ex_op pm_M23 (pc_q := 86) (st_q := [.int (-1), .int r16]) rfl rfl rfl ?_
  refine ex_icmp pm_M23 (t := 93) (pc_q := 89) rfl rfl rfl (fun c19 => ?_) (fun c19 => ?_)
  · -- ¬ r16 = (-1)
    refine ex_op pm_M23 (pc_q := 95) (st_q := [.int 7]) rfl rfl rfl ?_
    refine ex_lo pm_M23 (pc_q := 96) (ls_q := [.ref 25, .int a0, .int r16]) (st_q := [.int r16, .int 7]) rfl rfl rfl ?_
    refine ex_op pm_M23 (pc_q := 97) (st_q := [.int (7 + r16)]) rfl rfl rfl ?_
    exact ex_retI pm_M23 rfl (⟨_, rfl, v4 a0 S c3 c9 r16 S17 h18 c19⟩)
  · -- not
    refine ex_op pm_M23 (pc_q := 90) (st_q := [.int (-1)]) rfl rfl rfl ?_
    refine ex_br pm_M23 (pc_q := 97) (st_q := [.int (-1)]) rfl rfl ?_
    exact ex_retI pm_M23 rfl (⟨_, rfl, v5 a0 S c3 c9 r16 S17 h18 c19⟩)
set_option maxRecDepth 100000 in
set_option maxHeartbeats 4000000 in
/-- SilentTable$TextReader.noteMany -/
theorem ev38 {C : Int32 → ex_S → ex_S → Prop} {C21 : Int32 → Int32 → ex_S → ex_S → Prop} (H21 : es21 C21) 
    (v0 : ∀ (a0 : Int32) (S : ex_S), ¬ a0 = 1 → ex_st 4 a0.toNatClampNeg ≤ 0 → C a0 S S) 
    (v1 : ∀ (a0 : Int32) (S : ex_S), ¬ a0 = 1 → ¬ (ex_st 4 a0.toNatClampNeg ≤ 0) → S.1 25 4 < ex_st 4 a0.toNatClampNeg → C a0 S S) 
    (v2 : ∀ (a0 : Int32) (S : ex_S), ¬ a0 = 1 → ¬ (ex_st 4 a0.toNatClampNeg ≤ 0) → ¬ (S.1 25 4 < ex_st 4 a0.toNatClampNeg) → ∀ (S6 : ex_S), C21 3 (S.1 30 3) S S6 → C a0 S S6) 
    (v3 : ∀ (a0 : Int32) (S : ex_S), ¬ (¬ a0 = 1) → ex_st 4 a0.toNatClampNeg ≤ 0 → C a0 S S) 
    (v4 : ∀ (a0 : Int32) (S : ex_S), ¬ (¬ a0 = 1) → ¬ (ex_st 4 a0.toNatClampNeg ≤ 0) → S.1 25 6 < ex_st 4 a0.toNatClampNeg → C a0 S S) 
    (v5 : ∀ (a0 : Int32) (S : ex_S), ¬ (¬ a0 = 1) → ¬ (ex_st 4 a0.toNatClampNeg ≤ 0) → ¬ (S.1 25 6 < ex_st 4 a0.toNatClampNeg) → ∀ (S12 : ex_S), C21 3 (S.1 30 3) S S12 → C a0 S S12) : es38 C := by
  intro N d a0 S
  refine ex_stat pm_M38 (pc_q := 3) rfl rfl rfl rfl ?_
  refine ex_lo pm_M38 (pc_q := 4) (ls_q := [.ref 25, .int a0, pm_no, pm_no]) (st_q := [.int a0, .ref 4]) rfl rfl rfl ?_
  refine ex_iaK pm_M38 (pc_q := 5) (v := ex_st 4 a0.toNatClampNeg) rfl (by decide) (by decide) rfl rfl ?_
  refine ex_lo pm_M38 (pc_q := 6) (ls_q := [.ref 25, .int a0, .int (ex_st 4 a0.toNatClampNeg), pm_no]) (st_q := []) rfl rfl rfl ?_
  refine ex_lo pm_M38 (pc_q := 7) (ls_q := [.ref 25, .int a0, .int (ex_st 4 a0.toNatClampNeg), pm_no]) (st_q := [.int a0]) rfl rfl rfl ?_
  refine ex_op pm_M38 (pc_q := 8) (st_q := [.int 1, .int a0]) rfl rfl rfl ?_
  refine ex_icmp pm_M38 (t := 18) (pc_q := 11) rfl rfl rfl (fun c1 => ?_) (fun c1 => ?_)
  · -- ¬ a0 = 1
    refine ex_lo pm_M38 (pc_q := 19) (ls_q := [.ref 25, .int a0, .int (ex_st 4 a0.toNatClampNeg), pm_no]) (st_q := [.ref 25]) rfl rfl rfl ?_
    refine ex_getI' pm_M38 (pc_q := 22) (v := S.1 25 4) rfl rfl rfl rfl rfl rfl ?_
    refine ex_lo pm_M38 (pc_q := 23) (ls_q := [.ref 25, .int a0, .int (ex_st 4 a0.toNatClampNeg), .int (S.1 25 4)]) (st_q := []) rfl rfl rfl ?_
    refine ex_lo pm_M38 (pc_q := 24) (ls_q := [.ref 25, .int a0, .int (ex_st 4 a0.toNatClampNeg), .int (S.1 25 4)]) (st_q := [.int (ex_st 4 a0.toNatClampNeg)]) rfl rfl rfl ?_
    refine ex_ifc pm_M38 (t := 44) (pc_q := 27) rfl rfl rfl (fun c2 => ?_) (fun c2 => ?_)
    · -- ex_st 4 a0.toNatClampNeg ≤ 0
      exact ex_ret pm_M38 (r := none) rfl rfl (⟨rfl, v0 a0 S c1 c2⟩)
    · -- not
      refine ex_lo pm_M38 (pc_q := 28) (ls_q := [.ref 25, .int a0, .int (ex_st 4 a0.toNatClampNeg), .int (S.1 25 4)]) (st_q := [.int (S.1 25 4)]) rfl rfl rfl ?_
      refine ex_lo pm_M38 (pc_q := 29) (ls_q := [.ref 25, .int a0, .int (ex_st 4 a0.toNatClampNeg), .int (S.1 25 4)]) (st_q := [.int (ex_st 4 a0.toNatClampNeg), .int (S.1 25 4)]) rfl rfl rfl ?_
      refine ex_icmp pm_M38 (t := 44) (pc_q := 32) rfl rfl rfl (fun c3 => ?_) (fun c3 => ?_)
      · -- S.1 25 4 < ex_st 4 a0.toNatClampNeg
        exact ex_ret pm_M38 (r := none) rfl rfl (⟨rfl, v1 a0 S c1 c2 c3⟩)
      · -- not
        refine ex_lo pm_M38 (pc_q := 33) (ls_q := [.ref 25, .int a0, .int (ex_st 4 a0.toNatClampNeg), .int (S.1 25 4)]) (st_q := [.ref 25]) rfl rfl rfl ?_
        refine ex_op pm_M38 (pc_q := 34) (st_q := [.int 3, .ref 25]) rfl rfl rfl ?_
        refine ex_lo pm_M38 (pc_q := 35) (ls_q := [.ref 25, .int a0, .int (ex_st 4 a0.toNatClampNeg), .int (S.1 25 4)]) (st_q := [.ref 25, .int 3, .ref 25]) rfl rfl rfl ?_
        refine ex_getK pm_M38 (pc_q := 38) (j := 15) (b := 30) rfl rfl rfl rfl rfl ?_
        refine ex_getI' pm_M38 (pc_q := 41) (v := S.1 30 3) rfl rfl rfl rfl rfl rfl ?_
        refine ex_call pm_M38 (pc_q := 44) (ix := 70) (callee := 21) (np := 2) (kd := 0) (ra := [.int (S.1 30 3), .int 3, .ref 25]) (rest := []) rfl rfl rfl rfl pm_M21 rfl rfl rfl rfl (fun d4 => (H21 _ d4 3 (S.1 30 3) S).mono (fun r S6 e => ?_))
        obtain ⟨rfl, h7⟩ := e
        show ex_P _ _ 38 44 [.ref 25, .int a0, .int (ex_st 4 a0.toNatClampNeg), .int (S.1 25 4)] [] S6 _
        exact ex_ret pm_M38 (r := none) rfl rfl (⟨rfl, v2 a0 S c1 c2 c3 S6 h7⟩)
  · -- not
    refine ex_lo pm_M38 (pc_q := 12) (ls_q := [.ref 25, .int a0, .int (ex_st 4 a0.toNatClampNeg), pm_no]) (st_q := [.ref 25]) rfl rfl rfl ?_
    refine ex_getI' pm_M38 (pc_q := 15) (v := S.1 25 6) rfl rfl rfl rfl rfl rfl ?_
    refine ex_br pm_M38 (pc_q := 22) (st_q := [.int (S.1 25 6)]) rfl rfl ?_
    refine ex_lo pm_M38 (pc_q := 23) (ls_q := [.ref 25, .int a0, .int (ex_st 4 a0.toNatClampNeg), .int (S.1 25 6)]) (st_q := []) rfl rfl rfl ?_
    refine ex_lo pm_M38 (pc_q := 24) (ls_q := [.ref 25, .int a0, .int (ex_st 4 a0.toNatClampNeg), .int (S.1 25 6)]) (st_q := [.int (ex_st 4 a0.toNatClampNeg)]) rfl rfl rfl ?_
    refine ex_ifc pm_M38 (t := 44) (pc_q := 27) rfl rfl rfl (fun c8 => ?_) (fun c8 => ?_)
    · -- ex_st 4 a0.toNatClampNeg ≤ 0
      exact ex_ret pm_M38 (r := none) rfl rfl (⟨rfl, v3 a0 S c1 c8⟩)
    · -- not
      refine ex_lo pm_M38 (pc_q := 28) (ls_q := [.ref 25, .int a0, .int (ex_st 4 a0.toNatClampNeg), .int (S.1 25 6)]) (st_q := [.int (S.1 25 6)]) rfl rfl rfl ?_
      refine ex_lo pm_M38 (pc_q := 29) (ls_q := [.ref 25, .int a0, .int (ex_st 4 a0.toNatClampNeg), .int (S.1 25 6)]) (st_q := [.int (ex_st 4 a0.toNatClampNeg), .int (S.1 25 6)]) rfl rfl rfl ?_
      refine ex_icmp pm_M38 (t := 44) (pc_q := 32) rfl rfl rfl (fun c9 => ?_) (fun c9 => ?_)
      · -- S.1 25 6 < ex_st 4 a0.toNatClampNeg
        exact ex_ret pm_M38 (r := none) rfl rfl (⟨rfl, v4 a0 S c1 c8 c9⟩)
      · -- not
        refine ex_lo pm_M38 (pc_q := 33) (ls_q := [.ref 25, .int a0, .int (ex_st 4 a0.toNatClampNeg), .int (S.1 25 6)]) (st_q := [.ref 25]) rfl rfl rfl ?_
        refine ex_op pm_M38 (pc_q := 34) (st_q := [.int 3, .ref 25]) rfl rfl rfl ?_
        refine ex_lo pm_M38 (pc_q := 35) (ls_q := [.ref 25, .int a0, .int (ex_st 4 a0.toNatClampNeg), .int (S.1 25 6)]) (st_q := [.ref 25, .int 3, .ref 25]) rfl rfl rfl ?_
        refine ex_getK pm_M38 (pc_q := 38) (j := 15) (b := 30) rfl rfl rfl rfl rfl ?_
        refine ex_getI' pm_M38 (pc_q := 41) (v := S.1 30 3) rfl rfl rfl rfl rfl rfl ?_
        refine ex_call pm_M38 (pc_q := 44) (ix := 70) (callee := 21) (np := 2) (kd := 0) (ra := [.int (S.1 30 3), .int 3, .ref 25]) (rest := []) rfl rfl rfl rfl pm_M21 rfl rfl rfl rfl (fun d10 => (H21 _ d10 3 (S.1 30 3) S).mono (fun r S12 e => ?_))
        obtain ⟨rfl, h13⟩ := e
        show ex_P _ _ 38 44 [.ref 25, .int a0, .int (ex_st 4 a0.toNatClampNeg), .int (S.1 25 6)] [] S12 _
        exact ex_ret pm_M38 (r := none) rfl rfl (⟨rfl, v5 a0 S c1 c8 c9 S12 h13⟩)
set_option maxRecDepth 100000 in
set_option maxHeartbeats 4000000 in
/-- SilentTable$TextReader.noteNumber -/
theorem ev39 {C : Int32 → Int32 → ex_S → ex_S → Prop} {C21 : Int32 → Int32 → ex_S → ex_S → Prop} (H21 : es21 C21) 
    (v0 : ∀ (a0 : Int32) (a1 : Int32) (S : ex_S), S.1 29 a1.toNatClampNeg ≤ ex_st 3 (((a0 * 3) + a1).toNatClampNeg) → ¬ a0 = 3 → a0 = 2 → ¬ a1 = 1 → C a0 a1 S S) 
    (v1 : ∀ (a0 : Int32) (a1 : Int32) (S : ex_S), S.1 29 a1.toNatClampNeg ≤ ex_st 3 (((a0 * 3) + a1).toNatClampNeg) → ¬ a0 = 3 → a0 = 2 → ¬ (¬ a1 = 1) → ¬ S.1 29 1 = S.1 29 0 → C a0 a1 S S) 
    (v2 : ∀ (a0 : Int32) (a1 : Int32) (S : ex_S), S.1 29 a1.toNatClampNeg ≤ ex_st 3 (((a0 * 3) + a1).toNatClampNeg) → ¬ a0 = 3 → a0 = 2 → ¬ (¬ a1 = 1) → ¬ (¬ S.1 29 1 = S.1 29 0) → ∀ (S8 : ex_S), C21 2 (S.1 30 3) S S8 → C a0 a1 S S8) 
    (v3 : ∀ (a0 : Int32) (a1 : Int32) (S : ex_S), S.1 29 a1.toNatClampNeg ≤ ex_st 3 (((a0 * 3) + a1).toNatClampNeg) → ¬ a0 = 3 → ¬ (a0 = 2) → ¬ a0 = 4 → C a0 a1 S S) 
    (v4 : ∀ (a0 : Int32) (a1 : Int32) (S : ex_S), S.1 29 a1.toNatClampNeg ≤ ex_st 3 (((a0 * 3) + a1).toNatClampNeg) → ¬ a0 = 3 → ¬ (a0 = 2) → ¬ (¬ a0 = 4) → ¬ a1 = 1 → C a0 a1 S S) 
    (v5 : ∀ (a0 : Int32) (a1 : Int32) (S : ex_S), S.1 29 a1.toNatClampNeg ≤ ex_st 3 (((a0 * 3) + a1).toNatClampNeg) → ¬ a0 = 3 → ¬ (a0 = 2) → ¬ (¬ a0 = 4) → ¬ (¬ a1 = 1) → ¬ S.1 29 1 = S.1 29 0 → C a0 a1 S S) 
    (v6 : ∀ (a0 : Int32) (a1 : Int32) (S : ex_S), S.1 29 a1.toNatClampNeg ≤ ex_st 3 (((a0 * 3) + a1).toNatClampNeg) → ¬ a0 = 3 → ¬ (a0 = 2) → ¬ (¬ a0 = 4) → ¬ (¬ a1 = 1) → ¬ (¬ S.1 29 1 = S.1 29 0) → ∀ (S15 : ex_S), C21 2 (S.1 30 3) S S15 → C a0 a1 S S15) 
    (v7 : ∀ (a0 : Int32) (a1 : Int32) (S : ex_S), S.1 29 a1.toNatClampNeg ≤ ex_st 3 (((a0 * 3) + a1).toNatClampNeg) → ¬ (¬ a0 = 3) → 1 ≤ S.1 29 a1.toNatClampNeg → a0 = 2 → ¬ a1 = 1 → C a0 a1 S S) 
    (v8 : ∀ (a0 : Int32) (a1 : Int32) (S : ex_S), S.1 29 a1.toNatClampNeg ≤ ex_st 3 (((a0 * 3) + a1).toNatClampNeg) → ¬ (¬ a0 = 3) → 1 ≤ S.1 29 a1.toNatClampNeg → a0 = 2 → ¬ (¬ a1 = 1) → ¬ S.1 29 1 = S.1 29 0 → C a0 a1 S S) 
    (v9 : ∀ (a0 : Int32) (a1 : Int32) (S : ex_S), S.1 29 a1.toNatClampNeg ≤ ex_st 3 (((a0 * 3) + a1).toNatClampNeg) → ¬ (¬ a0 = 3) → 1 ≤ S.1 29 a1.toNatClampNeg → a0 = 2 → ¬ (¬ a1 = 1) → ¬ (¬ S.1 29 1 = S.1 29 0) → ∀ (S23 : ex_S), C21 2 (S.1 30 3) S S23 → C a0 a1 S S23) 
    (v10 : ∀ (a0 : Int32) (a1 : Int32) (S : ex_S), S.1 29 a1.toNatClampNeg ≤ ex_st 3 (((a0 * 3) + a1).toNatClampNeg) → ¬ (¬ a0 = 3) → 1 ≤ S.1 29 a1.toNatClampNeg → ¬ (a0 = 2) → ¬ a0 = 4 → C a0 a1 S S) 
    (v11 : ∀ (a0 : Int32) (a1 : Int32) (S : ex_S), S.1 29 a1.toNatClampNeg ≤ ex_st 3 (((a0 * 3) + a1).toNatClampNeg) → ¬ (¬ a0 = 3) → 1 ≤ S.1 29 a1.toNatClampNeg → ¬ (a0 = 2) → ¬ (¬ a0 = 4) → ¬ a1 = 1 → C a0 a1 S S) 
    (v12 : ∀ (a0 : Int32) (a1 : Int32) (S : ex_S), S.1 29 a1.toNatClampNeg ≤ ex_st 3 (((a0 * 3) + a1).toNatClampNeg) → ¬ (¬ a0 = 3) → 1 ≤ S.1 29 a1.toNatClampNeg → ¬ (a0 = 2) → ¬ (¬ a0 = 4) → ¬ (¬ a1 = 1) → ¬ S.1 29 1 = S.1 29 0 → C a0 a1 S S) 
    (v13 : ∀ (a0 : Int32) (a1 : Int32) (S : ex_S), S.1 29 a1.toNatClampNeg ≤ ex_st 3 (((a0 * 3) + a1).toNatClampNeg) → ¬ (¬ a0 = 3) → 1 ≤ S.1 29 a1.toNatClampNeg → ¬ (a0 = 2) → ¬ (¬ a0 = 4) → ¬ (¬ a1 = 1) → ¬ (¬ S.1 29 1 = S.1 29 0) → ∀ (S30 : ex_S), C21 2 (S.1 30 3) S S30 → C a0 a1 S S30) 
    (v14 : ∀ (a0 : Int32) (a1 : Int32) (S : ex_S), S.1 29 a1.toNatClampNeg ≤ ex_st 3 (((a0 * 3) + a1).toNatClampNeg) → ¬ (¬ a0 = 3) → ¬ (1 ≤ S.1 29 a1.toNatClampNeg) → a0 = 2 → ¬ a1 = 1 → ∀ (S36 : ex_S), C21 2 (S.1 30 3) S S36 → C a0 a1 S S36) 
    (v15 : ∀ (a0 : Int32) (a1 : Int32) (S : ex_S), S.1 29 a1.toNatClampNeg ≤ ex_st 3 (((a0 * 3) + a1).toNatClampNeg) → ¬ (¬ a0 = 3) → ¬ (1 ≤ S.1 29 a1.toNatClampNeg) → a0 = 2 → ¬ (¬ a1 = 1) → ¬ S.1 29 1 = S.1 29 0 → ∀ (S41 : ex_S), C21 2 (S.1 30 3) S S41 → C a0 a1 S S41) 
    (v16 : ∀ (a0 : Int32) (a1 : Int32) (S : ex_S), S.1 29 a1.toNatClampNeg ≤ ex_st 3 (((a0 * 3) + a1).toNatClampNeg) → ¬ (¬ a0 = 3) → ¬ (1 ≤ S.1 29 a1.toNatClampNeg) → a0 = 2 → ¬ (¬ a1 = 1) → ¬ (¬ S.1 29 1 = S.1 29 0) → ∀ (S45 : ex_S), C21 2 (S.1 30 3) S S45 → C a0 a1 S S45) 
    (v17 : ∀ (a0 : Int32) (a1 : Int32) (S : ex_S), S.1 29 a1.toNatClampNeg ≤ ex_st 3 (((a0 * 3) + a1).toNatClampNeg) → ¬ (¬ a0 = 3) → ¬ (1 ≤ S.1 29 a1.toNatClampNeg) → ¬ (a0 = 2) → ¬ a0 = 4 → ∀ (S50 : ex_S), C21 2 (S.1 30 3) S S50 → C a0 a1 S S50) 
    (v18 : ∀ (a0 : Int32) (a1 : Int32) (S : ex_S), S.1 29 a1.toNatClampNeg ≤ ex_st 3 (((a0 * 3) + a1).toNatClampNeg) → ¬ (¬ a0 = 3) → ¬ (1 ≤ S.1 29 a1.toNatClampNeg) → ¬ (a0 = 2) → ¬ (¬ a0 = 4) → ¬ a1 = 1 → ∀ (S55 : ex_S), C21 2 (S.1 30 3) S S55 → C a0 a1 S S55) 
    (v19 : ∀ (a0 : Int32) (a1 : Int32) (S : ex_S), S.1 29 a1.toNatClampNeg ≤ ex_st 3 (((a0 * 3) + a1).toNatClampNeg) → ¬ (¬ a0 = 3) → ¬ (1 ≤ S.1 29 a1.toNatClampNeg) → ¬ (a0 = 2) → ¬ (¬ a0 = 4) → ¬ (¬ a1 = 1) → ¬ S.1 29 1 = S.1 29 0 → ∀ (S60 : ex_S), C21 2 (S.1 30 3) S S60 → C a0 a1 S S60) 
    (v20 : ∀ (a0 : Int32) (a1 : Int32) (S : ex_S), S.1 29 a1.toNatClampNeg ≤ ex_st 3 (((a0 * 3) + a1).toNatClampNeg) → ¬ (¬ a0 = 3) → ¬ (1 ≤ S.1 29 a1.toNatClampNeg) → ¬ (a0 = 2) → ¬ (¬ a0 = 4) → ¬ (¬ a1 = 1) → ¬ (¬ S.1 29 1 = S.1 29 0) → ∀ (S64 : ex_S), C21 2 (S.1 30 3) S S64 → C a0 a1 S S64) 
    (v21 : ∀ (a0 : Int32) (a1 : Int32) (S : ex_S), ¬ (S.1 29 a1.toNatClampNeg ≤ ex_st 3 (((a0 * 3) + a1).toNatClampNeg)) → ¬ a0 = 3 → a0 = 2 → ¬ a1 = 1 → ∀ (S71 : ex_S), C21 2 (S.1 30 3) S S71 → C a0 a1 S S71) 
    (v22 : ∀ (a0 : Int32) (a1 : Int32) (S : ex_S), ¬ (S.1 29 a1.toNatClampNeg ≤ ex_st 3 (((a0 * 3) + a1).toNatClampNeg)) → ¬ a0 = 3 → a0 = 2 → ¬ (¬ a1 = 1) → ¬ S.1 29 1 = S.1 29 0 → ∀ (S76 : ex_S), C21 2 (S.1 30 3) S S76 → C a0 a1 S S76) 
    (v23 : ∀ (a0 : Int32) (a1 : Int32) (S : ex_S), ¬ (S.1 29 a1.toNatClampNeg ≤ ex_st 3 (((a0 * 3) + a1).toNatClampNeg)) → ¬ a0 = 3 → a0 = 2 → ¬ (¬ a1 = 1) → ¬ (¬ S.1 29 1 = S.1 29 0) → ∀ (S80 : ex_S), C21 2 (S.1 30 3) S S80 → C a0 a1 S S80) 
    (v24 : ∀ (a0 : Int32) (a1 : Int32) (S : ex_S), ¬ (S.1 29 a1.toNatClampNeg ≤ ex_st 3 (((a0 * 3) + a1).toNatClampNeg)) → ¬ a0 = 3 → ¬ (a0 = 2) → ¬ a0 = 4 → ∀ (S85 : ex_S), C21 2 (S.1 30 3) S S85 → C a0 a1 S S85) 
    (v25 : ∀ (a0 : Int32) (a1 : Int32) (S : ex_S), ¬ (S.1 29 a1.toNatClampNeg ≤ ex_st 3 (((a0 * 3) + a1).toNatClampNeg)) → ¬ a0 = 3 → ¬ (a0 = 2) → ¬ (¬ a0 = 4) → ¬ a1 = 1 → ∀ (S90 : ex_S), C21 2 (S.1 30 3) S S90 → C a0 a1 S S90) 
    (v26 : ∀ (a0 : Int32) (a1 : Int32) (S : ex_S), ¬ (S.1 29 a1.toNatClampNeg ≤ ex_st 3 (((a0 * 3) + a1).toNatClampNeg)) → ¬ a0 = 3 → ¬ (a0 = 2) → ¬ (¬ a0 = 4) → ¬ (¬ a1 = 1) → ¬ S.1 29 1 = S.1 29 0 → ∀ (S95 : ex_S), C21 2 (S.1 30 3) S S95 → C a0 a1 S S95) 
    (v27 : ∀ (a0 : Int32) (a1 : Int32) (S : ex_S), ¬ (S.1 29 a1.toNatClampNeg ≤ ex_st 3 (((a0 * 3) + a1).toNatClampNeg)) → ¬ a0 = 3 → ¬ (a0 = 2) → ¬ (¬ a0 = 4) → ¬ (¬ a1 = 1) → ¬ (¬ S.1 29 1 = S.1 29 0) → ∀ (S99 : ex_S), C21 2 (S.1 30 3) S S99 → C a0 a1 S S99) 
    (v28 : ∀ (a0 : Int32) (a1 : Int32) (S : ex_S), ¬ (S.1 29 a1.toNatClampNeg ≤ ex_st 3 (((a0 * 3) + a1).toNatClampNeg)) → ¬ (¬ a0 = 3) → 1 ≤ S.1 29 a1.toNatClampNeg → a0 = 2 → ¬ a1 = 1 → ∀ (S106 : ex_S), C21 2 (S.1 30 3) S S106 → C a0 a1 S S106) 
    (v29 : ∀ (a0 : Int32) (a1 : Int32) (S : ex_S), ¬ (S.1 29 a1.toNatClampNeg ≤ ex_st 3 (((a0 * 3) + a1).toNatClampNeg)) → ¬ (¬ a0 = 3) → 1 ≤ S.1 29 a1.toNatClampNeg → a0 = 2 → ¬ (¬ a1 = 1) → ¬ S.1 29 1 = S.1 29 0 → ∀ (S111 : ex_S), C21 2 (S.1 30 3) S S111 → C a0 a1 S S111) 
    (v30 : ∀ (a0 : Int32) (a1 : Int32) (S : ex_S), ¬ (S.1 29 a1.toNatClampNeg ≤ ex_st 3 (((a0 * 3) + a1).toNatClampNeg)) → ¬ (¬ a0 = 3) → 1 ≤ S.1 29 a1.toNatClampNeg → a0 = 2 → ¬ (¬ a1 = 1) → ¬ (¬ S.1 29 1 = S.1 29 0) → ∀ (S115 : ex_S), C21 2 (S.1 30 3) S S115 → C a0 a1 S S115) 
    (v31 : ∀ (a0 : Int32) (a1 : Int32) (S : ex_S), ¬ (S.1 29 a1.toNatClampNeg ≤ ex_st 3 (((a0 * 3) + a1).toNatClampNeg)) → ¬ (¬ a0 = 3) → 1 ≤ S.1 29 a1.toNatClampNeg → ¬ (a0 = 2) → ¬ a0 = 4 → ∀ (S120 : ex_S), C21 2 (S.1 30 3) S S120 → C a0 a1 S S120) 
    (v32 : ∀ (a0 : Int32) (a1 : Int32) (S : ex_S), ¬ (S.1 29 a1.toNatClampNeg ≤ ex_st 3 (((a0 * 3) + a1).toNatClampNeg)) → ¬ (¬ a0 = 3) → 1 ≤ S.1 29 a1.toNatClampNeg → ¬ (a0 = 2) → ¬ (¬ a0 = 4) → ¬ a1 = 1 → ∀ (S125 : ex_S), C21 2 (S.1 30 3) S S125 → C a0 a1 S S125) 
    (v33 : ∀ (a0 : Int32) (a1 : Int32) (S : ex_S), ¬ (S.1 29 a1.toNatClampNeg ≤ ex_st 3 (((a0 * 3) + a1).toNatClampNeg)) → ¬ (¬ a0 = 3) → 1 ≤ S.1 29 a1.toNatClampNeg → ¬ (a0 = 2) → ¬ (¬ a0 = 4) → ¬ (¬ a1 = 1) → ¬ S.1 29 1 = S.1 29 0 → ∀ (S130 : ex_S), C21 2 (S.1 30 3) S S130 → C a0 a1 S S130) 
    (v34 : ∀ (a0 : Int32) (a1 : Int32) (S : ex_S), ¬ (S.1 29 a1.toNatClampNeg ≤ ex_st 3 (((a0 * 3) + a1).toNatClampNeg)) → ¬ (¬ a0 = 3) → 1 ≤ S.1 29 a1.toNatClampNeg → ¬ (a0 = 2) → ¬ (¬ a0 = 4) → ¬ (¬ a1 = 1) → ¬ (¬ S.1 29 1 = S.1 29 0) → ∀ (S134 : ex_S), C21 2 (S.1 30 3) S S134 → C a0 a1 S S134) 
    (v35 : ∀ (a0 : Int32) (a1 : Int32) (S : ex_S), ¬ (S.1 29 a1.toNatClampNeg ≤ ex_st 3 (((a0 * 3) + a1).toNatClampNeg)) → ¬ (¬ a0 = 3) → ¬ (1 ≤ S.1 29 a1.toNatClampNeg) → a0 = 2 → ¬ a1 = 1 → ∀ (S140 : ex_S), C21 2 (S.1 30 3) S S140 → C a0 a1 S S140) 
    (v36 : ∀ (a0 : Int32) (a1 : Int32) (S : ex_S), ¬ (S.1 29 a1.toNatClampNeg ≤ ex_st 3 (((a0 * 3) + a1).toNatClampNeg)) → ¬ (¬ a0 = 3) → ¬ (1 ≤ S.1 29 a1.toNatClampNeg) → a0 = 2 → ¬ (¬ a1 = 1) → ¬ S.1 29 1 = S.1 29 0 → ∀ (S145 : ex_S), C21 2 (S.1 30 3) S S145 → C a0 a1 S S145) 
    (v37 : ∀ (a0 : Int32) (a1 : Int32) (S : ex_S), ¬ (S.1 29 a1.toNatClampNeg ≤ ex_st 3 (((a0 * 3) + a1).toNatClampNeg)) → ¬ (¬ a0 = 3) → ¬ (1 ≤ S.1 29 a1.toNatClampNeg) → a0 = 2 → ¬ (¬ a1 = 1) → ¬ (¬ S.1 29 1 = S.1 29 0) → ∀ (S149 : ex_S), C21 2 (S.1 30 3) S S149 → C a0 a1 S S149) 
    (v38 : ∀ (a0 : Int32) (a1 : Int32) (S : ex_S), ¬ (S.1 29 a1.toNatClampNeg ≤ ex_st 3 (((a0 * 3) + a1).toNatClampNeg)) → ¬ (¬ a0 = 3) → ¬ (1 ≤ S.1 29 a1.toNatClampNeg) → ¬ (a0 = 2) → ¬ a0 = 4 → ∀ (S154 : ex_S), C21 2 (S.1 30 3) S S154 → C a0 a1 S S154) 
    (v39 : ∀ (a0 : Int32) (a1 : Int32) (S : ex_S), ¬ (S.1 29 a1.toNatClampNeg ≤ ex_st 3 (((a0 * 3) + a1).toNatClampNeg)) → ¬ (¬ a0 = 3) → ¬ (1 ≤ S.1 29 a1.toNatClampNeg) → ¬ (a0 = 2) → ¬ (¬ a0 = 4) → ¬ a1 = 1 → ∀ (S159 : ex_S), C21 2 (S.1 30 3) S S159 → C a0 a1 S S159) 
    (v40 : ∀ (a0 : Int32) (a1 : Int32) (S : ex_S), ¬ (S.1 29 a1.toNatClampNeg ≤ ex_st 3 (((a0 * 3) + a1).toNatClampNeg)) → ¬ (¬ a0 = 3) → ¬ (1 ≤ S.1 29 a1.toNatClampNeg) → ¬ (a0 = 2) → ¬ (¬ a0 = 4) → ¬ (¬ a1 = 1) → ¬ S.1 29 1 = S.1 29 0 → ∀ (S164 : ex_S), C21 2 (S.1 30 3) S S164 → C a0 a1 S S164) 
    (v41 : ∀ (a0 : Int32) (a1 : Int32) (S : ex_S), ¬ (S.1 29 a1.toNatClampNeg ≤ ex_st 3 (((a0 * 3) + a1).toNatClampNeg)) → ¬ (¬ a0 = 3) → ¬ (1 ≤ S.1 29 a1.toNatClampNeg) → ¬ (a0 = 2) → ¬ (¬ a0 = 4) → ¬ (¬ a1 = 1) → ¬ (¬ S.1 29 1 = S.1 29 0) → ∀ (S168 : ex_S), C21 2 (S.1 30 3) S S168 → C a0 a1 S S168) : es39 C := by
  intro N d a0 a1 S
  refine ex_lo pm_M39 (pc_q := 1) (ls_q := [.ref 25, .int a0, .int a1, pm_no, pm_no, pm_no]) (st_q := [.ref 25]) rfl rfl rfl ?_
  refine ex_getK pm_M39 (pc_q := 4) (j := 19) (b := 29) rfl rfl rfl rfl rfl ?_
  refine ex_lo pm_M39 (pc_q := 5) (ls_q := [.ref 25, .int a0, .int a1, pm_no, pm_no, pm_no]) (st_q := [.int a1, .ref 29]) rfl rfl rfl ?_
  refine ex_iald' pm_M39 (pc_q := 6) (v := S.1 29 a1.toNatClampNeg) rfl rfl rfl ?_
  refine ex_stat pm_M39 (pc_q := 9) rfl rfl rfl rfl ?_
  refine ex_lo pm_M39 (pc_q := 10) (ls_q := [.ref 25, .int a0, .int a1, pm_no, pm_no, pm_no]) (st_q := [.int a0, .ref 3, .int (S.1 29 a1.toNatClampNeg)]) rfl rfl rfl ?_
  refine ex_op pm_M39 (pc_q := 11) (st_q := [.int 3, .int a0, .ref 3, .int (S.1 29 a1.toNatClampNeg)]) rfl rfl rfl ?_
  refine ex_op pm_M39 (pc_q := 12) (st_q := [.int (a0 * 3), .ref 3, .int (S.1 29 a1.toNatClampNeg)]) rfl rfl rfl ?_
  refine ex_lo pm_M39 (pc_q := 13) (ls_q := [.ref 25, .int a0, .int a1, pm_no, pm_no, pm_no]) (st_q := [.int a1, .int (a0 * 3), .ref 3, .int (S.1 29 a1.toNatClampNeg)]) rfl rfl rfl ?_
  refine ex_op pm_M39 (pc_q := 14) (st_q := [.int ((a0 * 3) + a1), .ref 3, .int (S.1 29 a1.toNatClampNeg)]) rfl rfl rfl ?_
  refine ex_iaK pm_M39 (pc_q := 15) (v := ex_st 3 (((a0 * 3) + a1).toNatClampNeg)) rfl (by decide) (by decide) rfl rfl ?_
  refine ex_icmp pm_M39 (t := 22) (pc_q := 18) rfl rfl rfl (fun c1 => ?_) (fun c1 => ?_)
  · -- S.1 29 a1.toNatClampNeg ≤ ex_st 3 (((a0 * 3) + a1).toNatClampNeg)
    refine ex_op pm_M39 (pc_q := 23) (st_q := [.int 0]) rfl rfl rfl ?_
    refine ex_lo pm_M39 (pc_q := 24) (ls_q := [.ref 25, .int a0, .int a1, .int 0, pm_no, pm_no]) (st_q := []) rfl rfl rfl ?_
    refine ex_lo pm_M39 (pc_q := 25) (ls_q := [.ref 25, .int a0, .int a1, .int 0, pm_no, pm_no]) (st_q := [.int a0]) rfl rfl rfl ?_
    refine ex_op pm_M39 (pc_q := 26) (st_q := [.int 3, .int a0]) rfl rfl rfl ?_
    refine ex_icmp pm_M39 (t := 43) (pc_q := 29) rfl rfl rfl (fun c2 => ?_) (fun c2 => ?_)
    · -- ¬ a0 = 3
      refine ex_op pm_M39 (pc_q := 44) (st_q := [.int 0]) rfl rfl rfl ?_
      refine ex_lo pm_M39 (pc_q := 46) (ls_q := [.ref 25, .int a0, .int a1, .int 0, .int 0, pm_no]) (st_q := []) rfl rfl rfl ?_
      refine ex_lo pm_M39 (pc_q := 47) (ls_q := [.ref 25, .int a0, .int a1, .int 0, .int 0, pm_no]) (st_q := [.int a0]) rfl rfl rfl ?_
      refine ex_op pm_M39 (pc_q := 48) (st_q := [.int 2, .int a0]) rfl rfl rfl ?_
      refine ex_icmp pm_M39 (t := 56) (pc_q := 51) rfl rfl rfl (fun c3 => ?_) (fun c3 => ?_)
      · -- a0 = 2
        refine ex_lo pm_M39 (pc_q := 57) (ls_q := [.ref 25, .int a0, .int a1, .int 0, .int 0, pm_no]) (st_q := [.int a1]) rfl rfl rfl ?_
        refine ex_op pm_M39 (pc_q := 58) (st_q := [.int 1, .int a1]) rfl rfl rfl ?_
        refine ex_icmp pm_M39 (t := 80) (pc_q := 61) rfl rfl rfl (fun c4 => ?_) (fun c4 => ?_)
        · -- ¬ a1 = 1
          refine ex_op pm_M39 (pc_q := 81) (st_q := [.int 0]) rfl rfl rfl ?_
          refine ex_lo pm_M39 (pc_q := 83) (ls_q := [.ref 25, .int a0, .int a1, .int 0, .int 0, .int 0]) (st_q := []) rfl rfl rfl ?_
          refine ex_lo pm_M39 (pc_q := 84) (ls_q := [.ref 25, .int a0, .int a1, .int 0, .int 0, .int 0]) (st_q := [.int 0]) rfl rfl rfl ?_
          refine ex_ifc pm_M39 (t := 97) (pc_q := 87) rfl rfl rfl (fun z => absurd z (show ¬ (¬ (0 : Int32) = 0) by decide)) (fun _ => ?_)
          refine ex_lo pm_M39 (pc_q := 89) (ls_q := [.ref 25, .int a0, .int a1, .int 0, .int 0, .int 0]) (st_q := [.int 0]) rfl rfl rfl ?_
          refine ex_ifc pm_M39 (t := 97) (pc_q := 92) rfl rfl rfl (fun z => absurd z (show ¬ (¬ (0 : Int32) = 0) by decide)) (fun _ => ?_)
          refine ex_lo pm_M39 (pc_q := 94) (ls_q := [.ref 25, .int a0, .int a1, .int 0, .int 0, .int 0]) (st_q := [.int 0]) rfl rfl rfl ?_
          refine ex_ifc pm_M39 (t := 109) (pc_q := 97) rfl rfl rfl (fun _ => ?_) (fun z => absurd (show (0 : Int32) = 0 by decide) z)
          exact ex_ret pm_M39 (r := none) rfl rfl (⟨rfl, v0 a0 a1 S c1 c2 c3 c4⟩)
        · -- not
          refine ex_lo pm_M39 (pc_q := 62) (ls_q := [.ref 25, .int a0, .int a1, .int 0, .int 0, pm_no]) (st_q := [.ref 25]) rfl rfl rfl ?_
          refine ex_getK pm_M39 (pc_q := 65) (j := 19) (b := 29) rfl rfl rfl rfl rfl ?_
          refine ex_op pm_M39 (pc_q := 66) (st_q := [.int 1, .ref 29]) rfl rfl rfl ?_
          refine ex_iald' pm_M39 (pc_q := 67) (v := S.1 29 1) rfl rfl rfl ?_
          refine ex_lo pm_M39 (pc_q := 68) (ls_q := [.ref 25, .int a0, .int a1, .int 0, .int 0, pm_no]) (st_q := [.ref 25, .int (S.1 29 1)]) rfl rfl rfl ?_
          refine ex_getK pm_M39 (pc_q := 71) (j := 19) (b := 29) rfl rfl rfl rfl rfl ?_
          refine ex_op pm_M39 (pc_q := 72) (st_q := [.int 0, .ref 29, .int (S.1 29 1)]) rfl rfl rfl ?_
          refine ex_iald' pm_M39 (pc_q := 73) (v := S.1 29 0) rfl rfl rfl ?_
          refine ex_icmp pm_M39 (t := 80) (pc_q := 76) rfl rfl rfl (fun c5 => ?_) (fun c5 => ?_)
          · -- ¬ S.1 29 1 = S.1 29 0
            refine ex_op pm_M39 (pc_q := 81) (st_q := [.int 0]) rfl rfl rfl ?_
            refine ex_lo pm_M39 (pc_q := 83) (ls_q := [.ref 25, .int a0, .int a1, .int 0, .int 0, .int 0]) (st_q := []) rfl rfl rfl ?_
            refine ex_lo pm_M39 (pc_q := 84) (ls_q := [.ref 25, .int a0, .int a1, .int 0, .int 0, .int 0]) (st_q := [.int 0]) rfl rfl rfl ?_
            refine ex_ifc pm_M39 (t := 97) (pc_q := 87) rfl rfl rfl (fun z => absurd z (show ¬ (¬ (0 : Int32) = 0) by decide)) (fun _ => ?_)
            refine ex_lo pm_M39 (pc_q := 89) (ls_q := [.ref 25, .int a0, .int a1, .int 0, .int 0, .int 0]) (st_q := [.int 0]) rfl rfl rfl ?_
            refine ex_ifc pm_M39 (t := 97) (pc_q := 92) rfl rfl rfl (fun z => absurd z (show ¬ (¬ (0 : Int32) = 0) by decide)) (fun _ => ?_)
            refine ex_lo pm_M39 (pc_q := 94) (ls_q := [.ref 25, .int a0, .int a1, .int 0, .int 0, .int 0]) (st_q := [.int 0]) rfl rfl rfl ?_
            refine ex_ifc pm_M39 (t := 109) (pc_q := 97) rfl rfl rfl (fun _ => ?_) (fun z => absurd (show (0 : Int32) = 0 by decide) z)
            exact ex_ret pm_M39 (r := none) rfl rfl (⟨rfl, v1 a0 a1 S c1 c2 c3 c4 c5⟩)
          · -- not
            refine ex_op pm_M39 (pc_q := 77) (st_q := [.int 1]) rfl rfl rfl ?_
            refine ex_br pm_M39 (pc_q := 81) (st_q := [.int 1]) rfl rfl ?_
            refine ex_lo pm_M39 (pc_q := 83) (ls_q := [.ref 25, .int a0, .int a1, .int 0, .int 0, .int 1]) (st_q := []) rfl rfl rfl ?_
            refine ex_lo pm_M39 (pc_q := 84) (ls_q := [.ref 25, .int a0, .int a1, .int 0, .int 0, .int 1]) (st_q := [.int 0]) rfl rfl rfl ?_
            refine ex_ifc pm_M39 (t := 97) (pc_q := 87) rfl rfl rfl (fun z => absurd z (show ¬ (¬ (0 : Int32) = 0) by decide)) (fun _ => ?_)
            refine ex_lo pm_M39 (pc_q := 89) (ls_q := [.ref 25, .int a0, .int a1, .int 0, .int 0, .int 1]) (st_q := [.int 0]) rfl rfl rfl ?_
            refine ex_ifc pm_M39 (t := 97) (pc_q := 92) rfl rfl rfl (fun z => absurd z (show ¬ (¬ (0 : Int32) = 0) by decide)) (fun _ => ?_)
            refine ex_lo pm_M39 (pc_q := 94) (ls_q := [.ref 25, .int a0, .int a1, .int 0, .int 0, .int 1]) (st_q := [.int 1]) rfl rfl rfl ?_
            refine ex_ifc pm_M39 (t := 109) (pc_q := 97) rfl rfl rfl (fun z => absurd z (show ¬ ((1 : Int32) = 0) by decide)) (fun _ => ?_)
            refine ex_lo pm_M39 (pc_q := 98) (ls_q := [.ref 25, .int a0, .int a1, .int 0, .int 0, .int 1]) (st_q := [.ref 25]) rfl rfl rfl ?_
            refine ex_op pm_M39 (pc_q := 99) (st_q := [.int 2, .ref 25]) rfl rfl rfl ?_
            refine ex_lo pm_M39 (pc_q := 100) (ls_q := [.ref 25, .int a0, .int a1, .int 0, .int 0, .int 1]) (st_q := [.ref 25, .int 2, .ref 25]) rfl rfl rfl ?_
            refine ex_getK pm_M39 (pc_q := 103) (j := 15) (b := 30) rfl rfl rfl rfl rfl ?_
            refine ex_getI' pm_M39 (pc_q := 106) (v := S.1 30 3) rfl rfl rfl rfl rfl rfl ?_
            refine ex_call pm_M39 (pc_q := 109) (ix := 70) (callee := 21) (np := 2) (kd := 0) (ra := [.int (S.1 30 3), .int 2, .ref 25]) (rest := []) rfl rfl rfl rfl pm_M21 rfl rfl rfl rfl (fun d6 => (H21 _ d6 2 (S.1 30 3) S).mono (fun r S8 e => ?_))
            obtain ⟨rfl, h9⟩ := e
            show ex_P _ _ 39 109 [.ref 25, .int a0, .int a1, .int 0, .int 0, .int 1] [] S8 _
            exact ex_ret pm_M39 (r := none) rfl rfl (⟨rfl, v2 a0 a1 S c1 c2 c3 c4 c5 S8 h9⟩)
      · -- not
        refine ex_lo pm_M39 (pc_q := 52) (ls_q := [.ref 25, .int a0, .int a1, .int 0, .int 0, pm_no]) (st_q := [.int a0]) rfl rfl rfl ?_
        refine ex_op pm_M39 (pc_q := 53) (st_q := [.int 4, .int a0]) rfl rfl rfl ?_
        refine ex_icmp pm_M39 (t := 80) (pc_q := 56) rfl rfl rfl (fun c10 => ?_) (fun c10 => ?_)
        · -- ¬ a0 = 4
          refine ex_op pm_M39 (pc_q := 81) (st_q := [.int 0]) rfl rfl rfl ?_
          refine ex_lo pm_M39 (pc_q := 83) (ls_q := [.ref 25, .int a0, .int a1, .int 0, .int 0, .int 0]) (st_q := []) rfl rfl rfl ?_
          refine ex_lo pm_M39 (pc_q := 84) (ls_q := [.ref 25, .int a0, .int a1, .int 0, .int 0, .int 0]) (st_q := [.int 0]) rfl rfl rfl ?_
          refine ex_ifc pm_M39 (t := 97) (pc_q := 87) rfl rfl rfl (fun z => absurd z (show ¬ (¬ (0 : Int32) = 0) by decide)) (fun _ => ?_)
          refine ex_lo pm_M39 (pc_q := 89) (ls_q := [.ref 25, .int a0, .int a1, .int 0, .int 0, .int 0]) (st_q := [.int 0]) rfl rfl rfl ?_
          refine ex_ifc pm_M39 (t := 97) (pc_q := 92) rfl rfl rfl (fun z => absurd z (show ¬ (¬ (0 : Int32) = 0) by decide)) (fun _ => ?_)
          refine ex_lo pm_M39 (pc_q := 94) (ls_q := [.ref 25, .int a0, .int a1, .int 0, .int 0, .int 0]) (st_q := [.int 0]) rfl rfl rfl ?_
          refine ex_ifc pm_M39 (t := 109) (pc_q := 97) rfl rfl rfl (fun _ => ?_) (fun z => absurd (show (0 : Int32) = 0 by decide) z)
          exact ex_ret pm_M39 (r := none) rfl rfl (⟨rfl, v3 a0 a1 S c1 c2 c3 c10⟩)
        · -- not
          refine ex_lo pm_M39 (pc_q := 57) (ls_q := [.ref 25, .int a0, .int a1, .int 0, .int 0, pm_no]) (st_q := [.int a1]) rfl rfl rfl ?_
          refine ex_op pm_M39 (pc_q := 58) (st_q := [.int 1, .int a1]) rfl rfl rfl ?_
          refine ex_icmp pm_M39 (t := 80) (pc_q := 61) rfl rfl rfl (fun c11 => ?_) (fun c11 => ?_)
          · -- ¬ a1 = 1
            refine ex_op pm_M39 (pc_q := 81) (st_q := [.int 0]) rfl rfl rfl ?_
            refine ex_lo pm_M39 (pc_q := 83) (ls_q := [.ref 25, .int a0, .int a1, .int 0, .int 0, .int 0]) (st_q := []) rfl rfl rfl ?_
            refine ex_lo pm_M39 (pc_q := 84) (ls_q := [.ref 25, .int a0, .int a1, .int 0, .int 0, .int 0]) (st_q := [.int 0]) rfl rfl rfl ?_
            refine ex_ifc pm_M39 (t := 97) (pc_q := 87) rfl rfl rfl (fun z => absurd z (show ¬ (¬ (0 : Int32) = 0) by decide)) (fun _ => ?_)
            refine ex_lo pm_M39 (pc_q := 89) (ls_q := [.ref 25, .int a0, .int a1, .int 0, .int 0, .int 0]) (st_q := [.int 0]) rfl rfl rfl ?_
            refine ex_ifc pm_M39 (t := 97) (pc_q := 92) rfl rfl rfl (fun z => absurd z (show ¬ (¬ (0 : Int32) = 0) by decide)) (fun _ => ?_)
            refine ex_lo pm_M39 (pc_q := 94) (ls_q := [.ref 25, .int a0, .int a1, .int 0, .int 0, .int 0]) (st_q := [.int 0]) rfl rfl rfl ?_
            refine ex_ifc pm_M39 (t := 109) (pc_q := 97) rfl rfl rfl (fun _ => ?_) (fun z => absurd (show (0 : Int32) = 0 by decide) z)
            exact ex_ret pm_M39 (r := none) rfl rfl (⟨rfl, v4 a0 a1 S c1 c2 c3 c10 c11⟩)
          · -- not
            refine ex_lo pm_M39 (pc_q := 62) (ls_q := [.ref 25, .int a0, .int a1, .int 0, .int 0, pm_no]) (st_q := [.ref 25]) rfl rfl rfl ?_
            refine ex_getK pm_M39 (pc_q := 65) (j := 19) (b := 29) rfl rfl rfl rfl rfl ?_
            refine ex_op pm_M39 (pc_q := 66) (st_q := [.int 1, .ref 29]) rfl rfl rfl ?_
            refine ex_iald' pm_M39 (pc_q := 67) (v := S.1 29 1) rfl rfl rfl ?_
            refine ex_lo pm_M39 (pc_q := 68) (ls_q := [.ref 25, .int a0, .int a1, .int 0, .int 0, pm_no]) (st_q := [.ref 25, .int (S.1 29 1)]) rfl rfl rfl ?_
            refine ex_getK pm_M39 (pc_q := 71) (j := 19) (b := 29) rfl rfl rfl rfl rfl ?_
            refine ex_op pm_M39 (pc_q := 72) (st_q := [.int 0, .ref 29, .int (S.1 29 1)]) rfl rfl rfl ?_
            refine ex_iald' pm_M39 (pc_q := 73) (v := S.1 29 0) rfl rfl rfl ?_
            refine ex_icmp pm_M39 (t := 80) (pc_q := 76) rfl rfl rfl (fun c12 => ?_) (fun c12 => ?_)
            · -- ¬ S.1 29 1 = S.1 29 0
              refine ex_op pm_M39 (pc_q := 81) (st_q := [.int 0]) rfl rfl rfl ?_
              refine ex_lo pm_M39 (pc_q := 83) (ls_q := [.ref 25, .int a0, .int a1, .int 0, .int 0, .int 0]) (st_q := []) rfl rfl rfl ?_
              refine ex_lo pm_M39 (pc_q := 84) (ls_q := [.ref 25, .int a0, .int a1, .int 0, .int 0, .int 0]) (st_q := [.int 0]) rfl rfl rfl ?_
              refine ex_ifc pm_M39 (t := 97) (pc_q := 87) rfl rfl rfl (fun z => absurd z (show ¬ (¬ (0 : Int32) = 0) by decide)) (fun _ => ?_)
              refine ex_lo pm_M39 (pc_q := 89) (ls_q := [.ref 25, .int a0, .int a1, .int 0, .int 0, .int 0]) (st_q := [.int 0]) rfl rfl rfl ?_
              refine ex_ifc pm_M39 (t := 97) (pc_q := 92) rfl rfl rfl (fun z => absurd z (show ¬ (¬ (0 : Int32) = 0) by decide)) (fun _ => ?_)
              refine ex_lo pm_M39 (pc_q := 94) (ls_q := [.ref 25, .int a0, .int a1, .int 0, .int 0, .int 0]) (st_q := [.int 0]) rfl rfl rfl ?_
              refine ex_ifc pm_M39 (t := 109) (pc_q := 97) rfl rfl rfl (fun _ => ?_) (fun z => absurd (show (0 : Int32) = 0 by decide) z)
              exact ex_ret pm_M39 (r := none) rfl rfl (⟨rfl, v5 a0 a1 S c1 c2 c3 c10 c11 c12⟩)
            · -- not
              refine ex_op pm_M39 (pc_q := 77) (st_q := [.int 1]) rfl rfl rfl ?_
              refine ex_br pm_M39 (pc_q := 81) (st_q := [.int 1]) rfl rfl ?_
              refine ex_lo pm_M39 (pc_q := 83) (ls_q := [.ref 25, .int a0, .int a1, .int 0, .int 0, .int 1]) (st_q := []) rfl rfl rfl ?_
              refine ex_lo pm_M39 (pc_q := 84) (ls_q := [.ref 25, .int a0, .int a1, .int 0, .int 0, .int 1]) (st_q := [.int 0]) rfl rfl rfl ?_
              refine ex_ifc pm_M39 (t := 97) (pc_q := 87) rfl rfl rfl (fun z => absurd z (show ¬ (¬ (0 : Int32) = 0) by decide)) (fun _ => ?_)
              refine ex_lo pm_M39 (pc_q := 89) (ls_q := [.ref 25, .int a0, .int a1, .int 0, .int 0, .int 1]) (st_q := [.int 0]) rfl rfl rfl ?_
              refine ex_ifc pm_M39 (t := 97) (pc_q := 92) rfl rfl rfl (fun z => absurd z (show ¬ (¬ (0 : Int32) = 0) by decide)) (fun _ => ?_)
              refine ex_lo pm_M39 (pc_q := 94) (ls_q := [.ref 25, .int a0, .int a1, .int 0, .int 0, .int 1]) (st_q := [.int 1]) rfl rfl rfl ?_
              refine ex_ifc pm_M39 (t := 109) (pc_q := 97) rfl rfl rfl (fun z => absurd z (show ¬ ((1 : Int32) = 0) by decide)) (fun _ => ?_)
              refine ex_lo pm_M39 (pc_q := 98) (ls_q := [.ref 25, .int a0, .int a1, .int 0, .int 0, .int 1]) (st_q := [.ref 25]) rfl rfl rfl ?_
              refine ex_op pm_M39 (pc_q := 99) (st_q := [.int 2, .ref 25]) rfl rfl rfl ?_
              refine ex_lo pm_M39 (pc_q := 100) (ls_q := [.ref 25, .int a0, .int a1, .int 0, .int 0, .int 1]) (st_q := [.ref 25, .int 2, .ref 25]) rfl rfl rfl ?_
              refine ex_getK pm_M39 (pc_q := 103) (j := 15) (b := 30) rfl rfl rfl rfl rfl ?_
              refine ex_getI' pm_M39 (pc_q := 106) (v := S.1 30 3) rfl rfl rfl rfl rfl rfl ?_
              refine ex_call pm_M39 (pc_q := 109) (ix := 70) (callee := 21) (np := 2) (kd := 0) (ra := [.int (S.1 30 3), .int 2, .ref 25]) (rest := []) rfl rfl rfl rfl pm_M21 rfl rfl rfl rfl (fun d13 => (H21 _ d13 2 (S.1 30 3) S).mono (fun r S15 e => ?_))
              obtain ⟨rfl, h16⟩ := e
              show ex_P _ _ 39 109 [.ref 25, .int a0, .int a1, .int 0, .int 0, .int 1] [] S15 _
              exact ex_ret pm_M39 (r := none) rfl rfl (⟨rfl, v6 a0 a1 S c1 c2 c3 c10 c11 c12 S15 h16⟩)
    · -- not
      refine ex_lo pm_M39 (pc_q := 30) (ls_q := [.ref 25, .int a0, .int a1, .int 0, pm_no, pm_no]) (st_q := [.ref 25]) rfl rfl rfl ?_
      refine ex_getK pm_M39 (pc_q := 33) (j := 19) (b := 29) rfl rfl rfl rfl rfl ?_
      refine ex_lo pm_M39 (pc_q := 34) (ls_q := [.ref 25, .int a0, .int a1, .int 0, pm_no, pm_no]) (st_q := [.int a1, .ref 29]) rfl rfl rfl ?_
      refine ex_iald' pm_M39 (pc_q := 35) (v := S.1 29 a1.toNatClampNeg) rfl rfl rfl ?_
      refine ex_op pm_M39 (pc_q := 36) (st_q := [.int 1, .int (S.1 29 a1.toNatClampNeg)]) rfl rfl rfl ?_
      refine ex_icmp pm_M39 (t := 43) (pc_q := 39) rfl rfl rfl (fun c17 => ?_) (fun c17 => ?_)
      · -- 1 ≤ S.1 29 a1.toNatClampNeg
        refine ex_op pm_M39 (pc_q := 44) (st_q := [.int 0]) rfl rfl rfl ?_
        refine ex_lo pm_M39 (pc_q := 46) (ls_q := [.ref 25, .int a0, .int a1, .int 0, .int 0, pm_no]) (st_q := []) rfl rfl rfl ?_
        refine ex_lo pm_M39 (pc_q := 47) (ls_q := [.ref 25, .int a0, .int a1, .int 0, .int 0, pm_no]) (st_q := [.int a0]) rfl rfl rfl ?_
        refine ex_op pm_M39 (pc_q := 48) (st_q := [.int 2, .int a0]) rfl rfl rfl ?_
        refine ex_icmp pm_M39 (t := 56) (pc_q := 51) rfl rfl rfl (fun c18 => ?_) (fun c18 => ?_)
        · -- a0 = 2
          refine ex_lo pm_M39 (pc_q := 57) (ls_q := [.ref 25, .int a0, .int a1, .int 0, .int 0, pm_no]) (st_q := [.int a1]) rfl rfl rfl ?_
          refine ex_op pm_M39 (pc_q := 58) (st_q := [.int 1, .int a1]) rfl rfl rfl ?_
          refine ex_icmp pm_M39 (t := 80) (pc_q := 61) rfl rfl rfl (fun c19 => ?_) (fun c19 => ?_)
          · -- ¬ a1 = 1
            refine ex_op pm_M39 (pc_q := 81) (st_q := [.int 0]) rfl rfl rfl ?_
            refine ex_lo pm_M39 (pc_q := 83) (ls_q := [.ref 25, .int a0, .int a1, .int 0, .int 0, .int 0]) (st_q := []) rfl rfl rfl ?_
            refine ex_lo pm_M39 (pc_q := 84) (ls_q := [.ref 25, .int a0, .int a1, .int 0, .int 0, .int 0]) (st_q := [.int 0]) rfl rfl rfl ?_
            refine ex_ifc pm_M39 (t := 97) (pc_q := 87) rfl rfl rfl (fun z => absurd z (show ¬ (¬ (0 : Int32) = 0) by decide)) (fun _ => ?_)
            refine ex_lo pm_M39 (pc_q := 89) (ls_q := [.ref 25, .int a0, .int a1, .int 0, .int 0, .int 0]) (st_q := [.int 0]) rfl rfl rfl ?_
            refine ex_ifc pm_M39 (t := 97) (pc_q := 92) rfl rfl rfl (fun z => absurd z (show ¬ (¬ (0 : Int32) = 0) by decide)) (fun _ => ?_)
            refine ex_lo pm_M39 (pc_q := 94) (ls_q := [.ref 25, .int a0, .int a1, .int 0, .int 0, .int 0]) (st_q := [.int 0]) rfl rfl rfl ?_
            refine ex_ifc pm_M39 (t := 109) (pc_q := 97) rfl rfl rfl (fun _ => ?_) (fun z => absurd (show (0 : Int32) = 0 by decide) z)
            exact ex_ret pm_M39 (r := none) rfl rfl (⟨rfl, v7 a0 a1 S c1 c2 c17 c18 c19⟩)
          · -- not
            refine ex_lo pm_M39 (pc_q := 62) (ls_q := [.ref 25, .int a0, .int a1, .int 0, .int 0, pm_no]) (st_q := [.ref 25]) rfl rfl rfl ?_
            refine ex_getK pm_M39 (pc_q := 65) (j := 19) (b := 29) rfl rfl rfl rfl rfl ?_
            refine ex_op pm_M39 (pc_q := 66) (st_q := [.int 1, .ref 29]) rfl rfl rfl ?_
            refine ex_iald' pm_M39 (pc_q := 67) (v := S.1 29 1) rfl rfl rfl ?_
            refine ex_lo pm_M39 (pc_q := 68) (ls_q := [.ref 25, .int a0, .int a1, .int 0, .int 0, pm_no]) (st_q := [.ref 25, .int (S.1 29 1)]) rfl rfl rfl ?_
            refine ex_getK pm_M39 (pc_q := 71) (j := 19) (b := 29) rfl rfl rfl rfl rfl ?_
            refine ex_op pm_M39 (pc_q := 72) (st_q := [.int 0, .ref 29, .int (S.1 29 1)]) rfl rfl rfl ?_
            refine ex_iald' pm_M39 (pc_q := 73) (v := S.1 29 0) rfl rfl rfl ?_
            refine ex_icmp pm_M39 (t := 80) (pc_q := 76) rfl rfl rfl (fun c20 => ?_) (fun c20 => ?_)
            · -- ¬ S.1 29 1 = S.1 29 0
              refine ex_op pm_M39 (pc_q := 81) (st_q := [.int 0]) rfl rfl rfl ?_
              refine ex_lo pm_M39 (pc_q := 83) (ls_q := [.ref 25, .int a0, .int a1, .int 0, .int 0, .int 0]) (st_q := []) rfl rfl rfl ?_
              refine ex_lo pm_M39 (pc_q := 84) (ls_q := [.ref 25, .int a0, .int a1, .int 0, .int 0, .int 0]) (st_q := [.int 0]) rfl rfl rfl ?_
              refine ex_ifc pm_M39 (t := 97) (pc_q := 87) rfl rfl rfl (fun z => absurd z (show ¬ (¬ (0 : Int32) = 0) by decide)) (fun _ => ?_)
              refine ex_lo pm_M39 (pc_q := 89) (ls_q := [.ref 25, .int a0, .int a1, .int 0, .int 0, .int 0]) (st_q := [.int 0]) rfl rfl rfl ?_
              refine ex_ifc pm_M39 (t := 97) (pc_q := 92) rfl rfl rfl (fun z => absurd z (show ¬ (¬ (0 : Int32) = 0) by decide)) (fun _ => ?_)
              refine ex_lo pm_M39 (pc_q := 94) (ls_q := [.ref 25, .int a0, .int a1, .int 0, .int 0, .int 0]) (st_q := [.int 0]) rfl rfl rfl ?_
              refine ex_ifc pm_M39 (t := 109) (pc_q := 97) rfl rfl rfl (fun _ => ?_) (fun z => absurd (show (0 : Int32) = 0 by decide) z)
              exact ex_ret pm_M39 (r := none) rfl rfl (⟨rfl, v8 a0 a1 S c1 c2 c17 c18 c19 c20⟩)
            · -- not
              refine ex_op pm_M39 (pc_q := 77) (st_q := [.int 1]) rfl rfl rfl ?_
              refine ex_br pm_M39 (pc_q := 81) (st_q := [.int 1]) rfl rfl ?_
              refine ex_lo pm_M39 (pc_q := 83) (ls_q := [.ref 25, .int a0, .int a1, .int 0, .int 0, .int 1]) (st_q := []) rfl rfl rfl ?_
              refine ex_lo pm_M39 (pc_q := 84) (ls_q := [.ref 25, .int a0, .int a1, .int 0, .int 0, .int 1]) (st_q := [.int 0]) rfl rfl rfl ?_
              refine ex_ifc pm_M39 (t := 97) (pc_q := 87) rfl rfl rfl (fun z => absurd z (show ¬ (¬ (0 : Int32) = 0) by decide)) (fun _ => ?_)
              refine ex_lo pm_M39 (pc_q := 89) (ls_q := [.ref 25, .int a0, .int a1, .int 0, .int 0, .int 1]) (st_q := [.int 0]) rfl rfl rfl ?_
              refine ex_ifc pm_M39 (t := 97) (pc_q := 92) rfl rfl rfl (fun z => absurd z (show ¬ (¬ (0 : Int32) = 0) by decide)) (fun _ => ?_)
              refine ex_lo pm_M39 (pc_q := 94) (ls_q := [.ref 25, .int a0, .int a1, .int 0, .int 0, .int 1]) (st_q := [.int 1]) rfl rfl rfl ?_
              refine ex_ifc pm_M39 (t := 109) (pc_q := 97) rfl rfl rfl (fun z => absurd z (show ¬ ((1 : Int32) = 0) by decide)) (fun _ => ?_)
              refine ex_lo pm_M39 (pc_q := 98) (ls_q := [.ref 25, .int a0, .int a1, .int 0, .int 0, .int 1]) (st_q := [.ref 25]) rfl rfl rfl ?_
              refine ex_op pm_M39 (pc_q := 99) (st_q := [.int 2, .ref 25]) rfl rfl rfl ?_
              refine ex_lo pm_M39 (pc_q := 100) (ls_q := [.ref 25, .int a0, .int a1, .int 0, .int 0, .int 1]) (st_q := [.ref 25, .int 2, .ref 25]) rfl rfl rfl ?_
              refine ex_getK pm_M39 (pc_q := 103) (j := 15) (b := 30) rfl rfl rfl rfl rfl ?_
              refine ex_getI' pm_M39 (pc_q := 106) (v := S.1 30 3) rfl rfl rfl rfl rfl rfl ?_
              refine ex_call pm_M39 (pc_q := 109) (ix := 70) (callee := 21) (np := 2) (kd := 0) (ra := [.int (S.1 30 3), .int 2, .ref 25]) (rest := []) rfl rfl rfl rfl pm_M21 rfl rfl rfl rfl (fun d21 => (H21 _ d21 2 (S.1 30 3) S).mono (fun r S23 e => ?_))
              obtain ⟨rfl, h24⟩ := e
              show ex_P _ _ 39 109 [.ref 25, .int a0, .int a1, .int 0, .int 0, .int 1] [] S23 _
              exact ex_ret pm_M39 (r := none) rfl rfl (⟨rfl, v9 a0 a1 S c1 c2 c17 c18 c19 c20 S23 h24⟩)
        · -- not
          refine ex_lo pm_M39 (pc_q := 52) (ls_q := [.ref 25, .int a0, .int a1, .int 0, .int 0, pm_no]) (st_q := [.int a0]) rfl rfl rfl ?_
          refine ex_op pm_M39 (pc_q := 53) (st_q := [.int 4, .int a0]) rfl rfl rfl ?_
          refine ex_icmp pm_M39 (t := 80) (pc_q := 56) rfl rfl rfl (fun c25 => ?_) (fun c25 => ?_)
          · -- ¬ a0 = 4
            refine ex_op pm_M39 (pc_q := 81) (st_q := [.int 0]) rfl rfl rfl ?_
            refine ex_lo pm_M39 (pc_q := 83) (ls_q := [.ref 25, .int a0, .int a1, .int 0, .int 0, .int 0]) (st_q := []) rfl rfl rfl ?_
            refine ex_lo pm_M39 (pc_q := 84) (ls_q := [.ref 25, .int a0, .int a1, .int 0, .int 0, .int 0]) (st_q := [.int 0]) rfl rfl rfl ?_
            refine ex_ifc pm_M39 (t := 97) (pc_q := 87) rfl rfl rfl (fun z => absurd z (show ¬ (¬ (0 : Int32) = 0) by decide)) (fun _ => ?_)
            refine ex_lo pm_M39 (pc_q := 89) (ls_q := [.ref 25, .int a0, .int a1, .int 0, .int 0, .int 0]) (st_q := [.int 0]) rfl rfl rfl ?_
            refine ex_ifc pm_M39 (t := 97) (pc_q := 92) rfl rfl rfl (fun z => absurd z (show ¬ (¬ (0 : Int32) = 0) by decide)) (fun _ => ?_)
            refine ex_lo pm_M39 (pc_q := 94) (ls_q := [.ref 25, .int a0, .int a1, .int 0, .int 0, .int 0]) (st_q := [.int 0]) rfl rfl rfl ?_
            refine ex_ifc pm_M39 (t := 109) (pc_q := 97) rfl rfl rfl (fun _ => ?_) (fun z => absurd (show (0 : Int32) = 0 by decide) z)
            exact ex_ret pm_M39 (r := none) rfl rfl (⟨rfl, v10 a0 a1 S c1 c2 c17 c18 c25⟩)
          · -- not
            refine ex_lo pm_M39 (pc_q := 57) (ls_q := [.ref 25, .int a0, .int a1, .int 0, .int 0, pm_no]) (st_q := [.int a1]) rfl rfl rfl ?_
            refine ex_op pm_M39 (pc_q := 58) (st_q := [.int 1, .int a1]) rfl rfl rfl ?_
            refine ex_icmp pm_M39 (t := 80) (pc_q := 61) rfl rfl rfl (fun c26 => ?_) (fun c26 => ?_)
            · -- ¬ a1 = 1
              refine ex_op pm_M39 (pc_q := 81) (st_q := [.int 0]) rfl rfl rfl ?_
              refine ex_lo pm_M39 (pc_q := 83) (ls_q := [.ref 25, .int a0, .int a1, .int 0, .int 0, .int 0]) (st_q := []) rfl rfl rfl ?_
              refine ex_lo pm_M39 (pc_q := 84) (ls_q := [.ref 25, .int a0, .int a1, .int 0, .int 0, .int 0]) (st_q := [.int 0]) rfl rfl rfl ?_
              refine ex_ifc pm_M39 (t := 97) (pc_q := 87) rfl rfl rfl (fun z => absurd z (show ¬ (¬ (0 : Int32) = 0) by decide)) (fun _ => ?_)
              refine ex_lo pm_M39 (pc_q := 89) (ls_q := [.ref 25, .int a0, .int a1, .int 0, .int 0, .int 0]) (st_q := [.int 0]) rfl rfl rfl ?_
              refine ex_ifc pm_M39 (t := 97) (pc_q := 92) rfl rfl rfl (fun z => absurd z (show ¬ (¬ (0 : Int32) = 0) by decide)) (fun _ => ?_)
              refine ex_lo pm_M39 (pc_q := 94) (ls_q := [.ref 25, .int a0, .int a1, .int 0, .int 0, .int 0]) (st_q := [.int 0]) rfl rfl rfl ?_
              refine ex_ifc pm_M39 (t := 109) (pc_q := 97) rfl rfl rfl (fun _ => ?_) (fun z => absurd (show (0 : Int32) = 0 by decide) z)
              exact ex_ret pm_M39 (r := none) rfl rfl (⟨rfl, v11 a0 a1 S c1 c2 c17 c18 c25 c26⟩)
            · -- not
              refine ex_lo pm_M39 (pc_q := 62) (ls_q := [.ref 25, .int a0, .int a1, .int 0, .int 0, pm_no]) (st_q := [.ref 25]) rfl rfl rfl ?_
              refine ex_getK pm_M39 (pc_q := 65) (j := 19) (b := 29) rfl rfl rfl rfl rfl ?_
              refine ex_op pm_M39 (pc_q := 66) (st_q := [.int 1, .ref 29]) rfl rfl rfl ?_
              refine ex_iald' pm_M39 (pc_q := 67) (v := S.1 29 1) rfl rfl rfl ?_
              refine ex_lo pm_M39 (pc_q := 68) (ls_q := [.ref 25, .int a0, .int a1, .int 0, .int 0, pm_no]) (st_q := [.ref 25, .int (S.1 29 1)]) rfl rfl rfl ?_
              refine ex_getK pm_M39 (pc_q := 71) (j := 19) (b := 29) rfl rfl rfl rfl rfl ?_
              refine ex_op pm_M39 (pc_q := 72) (st_q := [.int 0, .ref 29, .int (S.1 29 1)]) rfl rfl rfl ?_
              refine ex_iald' pm_M39 (pc_q := 73) (v := S.1 29 0) rfl rfl rfl ?_
              refine ex_icmp pm_M39 (t := 80) (pc_q := 76) rfl rfl rfl (fun c27 => ?_) (fun c27 => ?_)
              · -- ¬ S.1 29 1 = S.1 29 0
                refine ex_op pm_M39 (pc_q := 81) (st_q := [.int 0]) rfl rfl rfl ?_
                refine ex_lo pm_M39 (pc_q := 83) (ls_q := [.ref 25, .int a0, .int a1, .int 0, .int 0, .int 0]) (st_q := []) rfl rfl rfl ?_
                refine ex_lo pm_M39 (pc_q := 84) (ls_q := [.ref 25, .int a0, .int a1, .int 0, .int 0, .int 0]) (st_q := [.int 0]) rfl rfl rfl ?_
                refine ex_ifc pm_M39 (t := 97) (pc_q := 87) rfl rfl rfl (fun z => absurd z (show ¬ (¬ (0 : Int32) = 0) by decide)) (fun _ => ?_)
                refine ex_lo pm_M39 (pc_q := 89) (ls_q := [.ref 25, .int a0, .int a1, .int 0, .int 0, .int 0]) (st_q := [.int 0]) rfl rfl rfl ?_
                refine ex_ifc pm_M39 (t := 97) (pc_q := 92) rfl rfl rfl (fun z => absurd z (show ¬ (¬ (0 : Int32) = 0) by decide)) (fun _ => ?_)
                refine ex_lo pm_M39 (pc_q := 94) (ls_q := [.ref 25, .int a0, .int a1, .int 0, .int 0, .int 0]) (st_q := [.int 0]) rfl rfl rfl ?_
                refine ex_ifc pm_M39 (t := 109) (pc_q := 97) rfl rfl rfl (fun _ => ?_) (fun z => absurd (show (0 : Int32) = 0 by decide) z)
                exact ex_ret pm_M39 (r := none) rfl rfl (⟨rfl, v12 a0 a1 S c1 c2 c17 c18 c25 c26 c27⟩)
              · -- not
                refine ex_op pm_M39 (pc_q := 77) (st_q := [.int 1]) rfl rfl rfl ?_
                refine ex_br pm_M39 (pc_q := 81) (st_q := [.int 1]) rfl rfl ?_
                refine ex_lo pm_M39 (pc_q := 83) (ls_q := [.ref 25, .int a0, .int a1, .int 0, .int 0, .int 1]) (st_q := []) rfl rfl rfl ?_
                refine ex_lo pm_M39 (pc_q := 84) (ls_q := [.ref 25, .int a0, .int a1, .int 0, .int 0, .int 1]) (st_q := [.int 0]) rfl rfl rfl ?_
                refine ex_ifc pm_M39 (t := 97) (pc_q := 87) rfl rfl rfl (fun z => absurd z (show ¬ (¬ (0 : Int32) = 0) by decide)) (fun _ => ?_)
                refine ex_lo pm_M39 (pc_q := 89) (ls_q := [.ref 25, .int a0, .int a1, .int 0, .int 0, .int 1]) (st_q := [.int 0]) rfl rfl rfl ?_
                refine ex_ifc pm_M39 (t := 97) (pc_q := 92) rfl rfl rfl (fun z => absurd z (show ¬ (¬ (0 : Int32) = 0) by decide)) (fun _ => ?_)
                refine ex_lo pm_M39 (pc_q := 94) (ls_q := [.ref 25, .int a0, .int a1, .int 0, .int 0, .int 1]) (st_q := [.int 1]) rfl rfl rfl ?_
                refine ex_ifc pm_M39 (t := 109) (pc_q := 97) rfl rfl rfl (fun z => absurd z (show ¬ ((1 : Int32) = 0) by decide)) (fun _ => ?_)
                refine ex_lo pm_M39 (pc_q := 98) (ls_q := [.ref 25, .int a0, .int a1, .int 0, .int 0, .int 1]) (st_q := [.ref 25]) rfl rfl rfl ?_
                refine ex_op pm_M39 (pc_q := 99) (st_q := [.int 2, .ref 25]) rfl rfl rfl ?_
                refine ex_lo pm_M39 (pc_q := 100) (ls_q := [.ref 25, .int a0, .int a1, .int 0, .int 0, .int 1]) (st_q := [.ref 25, .int 2, .ref 25]) rfl rfl rfl ?_
                refine ex_getK pm_M39 (pc_q := 103) (j := 15) (b := 30) rfl rfl rfl rfl rfl ?_
                refine ex_getI' pm_M39 (pc_q := 106) (v := S.1 30 3) rfl rfl rfl rfl rfl rfl ?_
                refine ex_call pm_M39 (pc_q := 109) (ix := 70) (callee := 21) (np := 2) (kd := 0) (ra := [.int (S.1 30 3), .int 2, .ref 25]) (rest := []) rfl rfl rfl rfl pm_M21 rfl rfl rfl rfl (fun d28 => (H21 _ d28 2 (S.1 30 3) S).mono (fun r S30 e => ?_))
                obtain ⟨rfl, h31⟩ := e
                show ex_P _ _ 39 109 [.ref 25, .int a0, .int a1, .int 0, .int 0, .int 1] [] S30 _
                exact ex_ret pm_M39 (r := none) rfl rfl (⟨rfl, v13 a0 a1 S c1 c2 c17 c18 c25 c26 c27 S30 h31⟩)
      · -- not
        refine ex_op pm_M39 (pc_q := 40) (st_q := [.int 1]) rfl rfl rfl ?_
        refine ex_br pm_M39 (pc_q := 44) (st_q := [.int 1]) rfl rfl ?_
        refine ex_lo pm_M39 (pc_q := 46) (ls_q := [.ref 25, .int a0, .int a1, .int 0, .int 1, pm_no]) (st_q := []) rfl rfl rfl ?_
        refine ex_lo pm_M39 (pc_q := 47) (ls_q := [.ref 25, .int a0, .int a1, .int 0, .int 1, pm_no]) (st_q := [.int a0]) rfl rfl rfl ?_
        refine ex_op pm_M39 (pc_q := 48) (st_q := [.int 2, .int a0]) rfl rfl rfl ?_
        refine ex_icmp pm_M39 (t := 56) (pc_q := 51) rfl rfl rfl (fun c32 => ?_) (fun c32 => ?_)
        · -- a0 = 2
          refine ex_lo pm_M39 (pc_q := 57) (ls_q := [.ref 25, .int a0, .int a1, .int 0, .int 1, pm_no]) (st_q := [.int a1]) rfl rfl rfl ?_
          refine ex_op pm_M39 (pc_q := 58) (st_q := [.int 1, .int a1]) rfl rfl rfl ?_
          refine ex_icmp pm_M39 (t := 80) (pc_q := 61) rfl rfl rfl (fun c33 => ?_) (fun c33 => ?_)
          · -- ¬ a1 = 1
            refine ex_op pm_M39 (pc_q := 81) (st_q := [.int 0]) rfl rfl rfl ?_
            refine ex_lo pm_M39 (pc_q := 83) (ls_q := [.ref 25, .int a0, .int a1, .int 0, .int 1, .int 0]) (st_q := []) rfl rfl rfl ?_
            refine ex_lo pm_M39 (pc_q := 84) (ls_q := [.ref 25, .int a0, .int a1, .int 0, .int 1, .int 0]) (st_q := [.int 0]) rfl rfl rfl ?_
            refine ex_ifc pm_M39 (t := 97) (pc_q := 87) rfl rfl rfl (fun z => absurd z (show ¬ (¬ (0 : Int32) = 0) by decide)) (fun _ => ?_)
            refine ex_lo pm_M39 (pc_q := 89) (ls_q := [.ref 25, .int a0, .int a1, .int 0, .int 1, .int 0]) (st_q := [.int 1]) rfl rfl rfl ?_
            refine ex_ifc pm_M39 (t := 97) (pc_q := 92) rfl rfl rfl (fun _ => ?_) (fun z => absurd (show ¬ (1 : Int32) = 0 by decide) z)
            refine ex_lo pm_M39 (pc_q := 98) (ls_q := [.ref 25, .int a0, .int a1, .int 0, .int 1, .int 0]) (st_q := [.ref 25]) rfl rfl rfl ?_
            refine ex_op pm_M39 (pc_q := 99) (st_q := [.int 2, .ref 25]) rfl rfl rfl ?_
            refine ex_lo pm_M39 (pc_q := 100) (ls_q := [.ref 25, .int a0, .int a1, .int 0, .int 1, .int 0]) (st_q := [.ref 25, .int 2, .ref 25]) rfl rfl rfl ?_
            refine ex_getK pm_M39 (pc_q := 103) (j := 15) (b := 30) rfl rfl rfl rfl rfl ?_
            refine ex_getI' pm_M39 (pc_q := 106) (v := S.1 30 3) rfl rfl rfl rfl rfl rfl ?_
            refine ex_call pm_M39 (pc_q := 109) (ix := 70) (callee := 21) (np := 2) (kd := 0) (ra := [.int (S.1 30 3), .int 2, .ref 25]) (rest := []) rfl rfl rfl rfl pm_M21 rfl rfl rfl rfl (fun d34 => (H21 _ d34 2 (S.1 30 3) S).mono (fun r S36 e => ?_))
            obtain ⟨rfl, h37⟩ := e
            show ex_P _ _ 39 109 [.ref 25, .int a0, .int a1, .int 0, .int 1, .int 0] [] S36 _
            exact ex_ret pm_M39 (r := none) rfl rfl (⟨rfl, v14 a0 a1 S c1 c2 c17 c32 c33 S36 h37⟩)
          · -- not
            refine ex_lo pm_M39 (pc_q := 62) (ls_q := [.ref 25, .int a0, .int a1, .int 0, .int 1, pm_no]) (st_q := [.ref 25]) rfl rfl rfl ?_
            refine ex_getK pm_M39 (pc_q := 65) (j := 19) (b := 29) rfl rfl rfl rfl rfl ?_
            refine ex_op pm_M39 (pc_q := 66) (st_q := [.int 1, .ref 29]) rfl rfl rfl ?_
            refine ex_iald' pm_M39 (pc_q := 67) (v := S.1 29 1) rfl rfl rfl ?_
            refine ex_lo pm_M39 (pc_q := 68) (ls_q := [.ref 25, .int a0, .int a1, .int 0, .int 1, pm_no]) (st_q := [.ref 25, .int (S.1 29 1)]) rfl rfl rfl ?_
            refine ex_getK pm_M39 (pc_q := 71) (j := 19) (b := 29) rfl rfl rfl rfl rfl ?_
            refine ex_op pm_M39 (pc_q := 72) (st_q := [.int 0, .ref 29, .int (S.1 29 1)]) rfl rfl rfl ?_
            refine ex_iald' pm_M39 (pc_q := 73) (v := S.1 29 0) rfl rfl rfl ?_
            refine ex_icmp pm_M39 (t := 80) (pc_q := 76) rfl rfl rfl (fun c38 => ?_) (fun c38 => ?_)
            · -- ¬ S.1 29 1 = S.1 29 0
              refine ex_op pm_M39 (pc_q := 81) (st_q := [.int 0]) rfl rfl rfl ?_
              refine ex_lo pm_M39 (pc_q := 83) (ls_q := [.ref 25, .int a0, .int a1, .int 0, .int 1, .int 0]) (st_q := []) rfl rfl rfl ?_
              refine ex_lo pm_M39 (pc_q := 84) (ls_q := [.ref 25, .int a0, .int a1, .int 0, .int 1, .int 0]) (st_q := [.int 0]) rfl rfl rfl ?_
              refine ex_ifc pm_M39 (t := 97) (pc_q := 87) rfl rfl rfl (fun z => absurd z (show ¬ (¬ (0 : Int32) = 0) by decide)) (fun _ => ?_)
              refine ex_lo pm_M39 (pc_q := 89) (ls_q := [.ref 25, .int a0, .int a1, .int 0, .int 1, .int 0]) (st_q := [.int 1]) rfl rfl rfl ?_
              refine ex_ifc pm_M39 (t := 97) (pc_q := 92) rfl rfl rfl (fun _ => ?_) (fun z => absurd (show ¬ (1 : Int32) = 0 by decide) z)
              refine ex_lo pm_M39 (pc_q := 98) (ls_q := [.ref 25, .int a0, .int a1, .int 0, .int 1, .int 0]) (st_q := [.ref 25]) rfl rfl rfl ?_
              refine ex_op pm_M39 (pc_q := 99) (st_q := [.int 2, .ref 25]) rfl rfl rfl ?_
              refine ex_lo pm_M39 (pc_q := 100) (ls_q := [.ref 25, .int a0, .int a1, .int 0, .int 1, .int 0]) (st_q := [.ref 25, .int 2, .ref 25]) rfl rfl rfl ?_
              refine ex_getK pm_M39 (pc_q := 103) (j := 15) (b := 30) rfl rfl rfl rfl rfl ?_
              refine ex_getI' pm_M39 (pc_q := 106) (v := S.1 30 3) rfl rfl rfl rfl rfl rfl ?_
              refine ex_call pm_M39 (pc_q := 109) (ix := 70) (callee := 21) (np := 2) (kd := 0) (ra := [.int (S.1 30 3), .int 2, .ref 25]) (rest := []) rfl rfl rfl rfl pm_M21 rfl rfl rfl rfl (fun d39 => (H21 _ d39 2 (S.1 30 3) S).mono (fun r S41 e => ?_))
              obtain ⟨rfl, h42⟩ := e
              show ex_P _ _ 39 109 [.ref 25, .int a0, .int a1, .int 0, .int 1, .int 0] [] S41 _
              exact ex_ret pm_M39 (r := none) rfl rfl (⟨rfl, v15 a0 a1 S c1 c2 c17 c32 c33 c38 S41 h42⟩)
            · -- not
              refine ex_op pm_M39 (pc_q := 77) (st_q := [.int 1]) rfl rfl rfl ?_
              refine ex_br pm_M39 (pc_q := 81) (st_q := [.int 1]) rfl rfl ?_
              refine ex_lo pm_M39 (pc_q := 83) (ls_q := [.ref 25, .int a0, .int a1, .int 0, .int 1, .int 1]) (st_q := []) rfl rfl rfl ?_
              refine ex_lo pm_M39 (pc_q := 84) (ls_q := [.ref 25, .int a0, .int a1, .int 0, .int 1, .int 1]) (st_q := [.int 0]) rfl rfl rfl ?_
              refine ex_ifc pm_M39 (t := 97) (pc_q := 87) rfl rfl rfl (fun z => absurd z (show ¬ (¬ (0 : Int32) = 0) by decide)) (fun _ => ?_)
              refine ex_lo pm_M39 (pc_q := 89) (ls_q := [.ref 25, .int a0, .int a1, .int 0, .int 1, .int 1]) (st_q := [.int 1]) rfl rfl rfl ?_
              refine ex_ifc pm_M39 (t := 97) (pc_q := 92) rfl rfl rfl (fun _ => ?_) (fun z => absurd (show ¬ (1 : Int32) = 0 by decide) z)
              refine ex_lo pm_M39 (pc_q := 98) (ls_q := [.ref 25, .int a0, .int a1, .int 0, .int 1, .int 1]) (st_q := [.ref 25]) rfl rfl rfl ?_
              refine ex_op pm_M39 (pc_q := 99) (st_q := [.int 2, .ref 25]) rfl rfl rfl ?_
              refine ex_lo pm_M39 (pc_q := 100) (ls_q := [.ref 25, .int a0, .int a1, .int 0, .int 1, .int 1]) (st_q := [.ref 25, .int 2, .ref 25]) rfl rfl rfl ?_
              refine ex_getK pm_M39 (pc_q := 103) (j := 15) (b := 30) rfl rfl rfl rfl rfl ?_
              refine ex_getI' pm_M39 (pc_q := 106) (v := S.1 30 3) rfl rfl rfl rfl rfl rfl ?_
              refine ex_call pm_M39 (pc_q := 109) (ix := 70) (callee := 21) (np := 2) (kd := 0) (ra := [.int (S.1 30 3), .int 2, .ref 25]) (rest := []) rfl rfl rfl rfl pm_M21 rfl rfl rfl rfl (fun d43 => (H21 _ d43 2 (S.1 30 3) S).mono (fun r S45 e => ?_))
              obtain ⟨rfl, h46⟩ := e
              show ex_P _ _ 39 109 [.ref 25, .int a0, .int a1, .int 0, .int 1, .int 1] [] S45 _
              exact ex_ret pm_M39 (r := none) rfl rfl (⟨rfl, v16 a0 a1 S c1 c2 c17 c32 c33 c38 S45 h46⟩)
        · -- not
          refine ex_lo pm_M39 (pc_q := 52) (ls_q := [.ref 25, .int a0, .int a1, .int 0, .int 1, pm_no]) (st_q := [.int a0]) rfl rfl rfl ?_
          refine ex_op pm_M39 (pc_q := 53) (st_q := [.int 4, .int a0]) rfl rfl rfl ?_
          refine ex_icmp pm_M39 (t := 80) (pc_q := 56) rfl rfl rfl (fun c47 => ?_) (fun c47 => ?_)
          · -- ¬ a0 = 4
            refine ex_op pm_M39 (pc_q := 81) (st_q := [.int 0]) rfl rfl rfl ?_
            refine ex_lo pm_M39 (pc_q := 83) (ls_q := [.ref 25, .int a0, .int a1, .int 0, .int 1, .int 0]) (st_q := []) rfl rfl rfl ?_
            refine ex_lo pm_M39 (pc_q := 84) (ls_q := [.ref 25, .int a0, .int a1, .int 0, .int 1, .int 0]) (st_q := [.int 0]) rfl rfl rfl ?_
            refine ex_ifc pm_M39 (t := 97) (pc_q := 87) rfl rfl rfl (fun z => absurd z (show ¬ (¬ (0 : Int32) = 0) by decide)) (fun _ => ?_)
            refine ex_lo pm_M39 (pc_q := 89) (ls_q := [.ref 25, .int a0, .int a1, .int 0, .int 1, .int 0]) (st_q := [.int 1]) rfl rfl rfl ?_
            refine ex_ifc pm_M39 (t := 97) (pc_q := 92) rfl rfl rfl (fun _ => ?_) (fun z => absurd (show ¬ (1 : Int32) = 0 by decide) z)
            refine ex_lo pm_M39 (pc_q := 98) (ls_q := [.ref 25, .int a0, .int a1, .int 0, .int 1, .int 0]) (st_q := [.ref 25]) rfl rfl rfl ?_
            refine ex_op pm_M39 (pc_q := 99) (st_q := [.int 2, .ref 25]) rfl rfl rfl ?_
            refine ex_lo pm_M39 (pc_q := 100) (ls_q := [.ref 25, .int a0, .int a1, .int 0, .int 1, .int 0]) (st_q := [.ref 25, .int 2, .ref 25]) rfl rfl rfl ?_
            refine ex_getK pm_M39 (pc_q := 103) (j := 15) (b := 30) rfl rfl rfl rfl rfl ?_
            refine ex_getI' pm_M39 (pc_q := 106) (v := S.1 30 3) rfl rfl rfl rfl rfl rfl ?_
            refine ex_call pm_M39 (pc_q := 109) (ix := 70) (callee := 21) (np := 2) (kd := 0) (ra := [.int (S.1 30 3), .int 2, .ref 25]) (rest := []) rfl rfl rfl rfl pm_M21 rfl rfl rfl rfl (fun d48 => (H21 _ d48 2 (S.1 30 3) S).mono (fun r S50 e => ?_))
            obtain ⟨rfl, h51⟩ := e
            show ex_P _ _ 39 109 [.ref 25, .int a0, .int a1, .int 0, .int 1, .int 0] [] S50 _
            exact ex_ret pm_M39 (r := none) rfl rfl (⟨rfl, v17 a0 a1 S c1 c2 c17 c32 c47 S50 h51⟩)
          · -- not
            refine ex_lo pm_M39 (pc_q := 57) (ls_q := [.ref 25, .int a0, .int a1, .int 0, .int 1, pm_no]) (st_q := [.int a1]) rfl rfl rfl ?_
            refine ex_op pm_M39 (pc_q := 58) (st_q := [.int 1, .int a1]) rfl rfl rfl ?_
            refine ex_icmp pm_M39 (t := 80) (pc_q := 61) rfl rfl rfl (fun c52 => ?_) (fun c52 => ?_)
            · -- ¬ a1 = 1
              refine ex_op pm_M39 (pc_q := 81) (st_q := [.int 0]) rfl rfl rfl ?_
              refine ex_lo pm_M39 (pc_q := 83) (ls_q := [.ref 25, .int a0, .int a1, .int 0, .int 1, .int 0]) (st_q := []) rfl rfl rfl ?_
              refine ex_lo pm_M39 (pc_q := 84) (ls_q := [.ref 25, .int a0, .int a1, .int 0, .int 1, .int 0]) (st_q := [.int 0]) rfl rfl rfl ?_
              refine ex_ifc pm_M39 (t := 97) (pc_q := 87) rfl rfl rfl (fun z => absurd z (show ¬ (¬ (0 : Int32) = 0) by decide)) (fun _ => ?_)
              refine ex_lo pm_M39 (pc_q := 89) (ls_q := [.ref 25, .int a0, .int a1, .int 0, .int 1, .int 0]) (st_q := [.int 1]) rfl rfl rfl ?_
              refine ex_ifc pm_M39 (t := 97) (pc_q := 92) rfl rfl rfl (fun _ => ?_) (fun z => absurd (show ¬ (1 : Int32) = 0 by decide) z)
              refine ex_lo pm_M39 (pc_q := 98) (ls_q := [.ref 25, .int a0, .int a1, .int 0, .int 1, .int 0]) (st_q := [.ref 25]) rfl rfl rfl ?_
              refine ex_op pm_M39 (pc_q := 99) (st_q := [.int 2, .ref 25]) rfl rfl rfl ?_
              refine ex_lo pm_M39 (pc_q := 100) (ls_q := [.ref 25, .int a0, .int a1, .int 0, .int 1, .int 0]) (st_q := [.ref 25, .int 2, .ref 25]) rfl rfl rfl ?_
              refine ex_getK pm_M39 (pc_q := 103) (j := 15) (b := 30) rfl rfl rfl rfl rfl ?_
              refine ex_getI' pm_M39 (pc_q := 106) (v := S.1 30 3) rfl rfl rfl rfl rfl rfl ?_
              refine ex_call pm_M39 (pc_q := 109) (ix := 70) (callee := 21) (np := 2) (kd := 0) (ra := [.int (S.1 30 3), .int 2, .ref 25]) (rest := []) rfl rfl rfl rfl pm_M21 rfl rfl rfl rfl (fun d53 => (H21 _ d53 2 (S.1 30 3) S).mono (fun r S55 e => ?_))
              obtain ⟨rfl, h56⟩ := e
              show ex_P _ _ 39 109 [.ref 25, .int a0, .int a1, .int 0, .int 1, .int 0] [] S55 _
              exact ex_ret pm_M39 (r := none) rfl rfl (⟨rfl, v18 a0 a1 S c1 c2 c17 c32 c47 c52 S55 h56⟩)
            · -- not
              refine ex_lo pm_M39 (pc_q := 62) (ls_q := [.ref 25, .int a0, .int a1, .int 0, .int 1, pm_no]) (st_q := [.ref 25]) rfl rfl rfl ?_
              refine ex_getK pm_M39 (pc_q := 65) (j := 19) (b := 29) rfl rfl rfl rfl rfl ?_
              refine ex_op pm_M39 (pc_q := 66) (st_q := [.int 1, .ref 29]) rfl rfl rfl ?_
              refine ex_iald' pm_M39 (pc_q := 67) (v := S.1 29 1) rfl rfl rfl ?_
              refine ex_lo pm_M39 (pc_q := 68) (ls_q := [.ref 25, .int a0, .int a1, .int 0, .int 1, pm_no]) (st_q := [.ref 25, .int (S.1 29 1)]) rfl rfl rfl ?_
              refine ex_getK pm_M39 (pc_q := 71) (j := 19) (b := 29) rfl rfl rfl rfl rfl ?_
              refine ex_op pm_M39 (pc_q := 72) (st_q := [.int 0, .ref 29, .int (S.1 29 1)]) rfl rfl rfl ?_
              refine ex_iald' pm_M39 (pc_q := 73) (v := S.1 29 0) rfl rfl rfl ?_
              refine ex_icmp pm_M39 (t := 80) (pc_q := 76) rfl rfl rfl (fun c57 => ?_) (fun c57 => ?_)
              · -- ¬ S.1 29 1 = S.1 29 0
                refine ex_op pm_M39 (pc_q := 81) (st_q := [.int 0]) rfl rfl rfl ?_
                refine ex_lo pm_M39 (pc_q := 83) (ls_q := [.ref 25, .int a0, .int a1, .int 0, .int 1, .int 0]) (st_q := []) rfl rfl rfl ?_
                refine ex_lo pm_M39 (pc_q := 84) (ls_q := [.ref 25, .int a0, .int a1, .int 0, .int 1, .int 0]) (st_q := [.int 0]) rfl rfl rfl ?_
                refine ex_ifc pm_M39 (t := 97) (pc_q := 87) rfl rfl rfl (fun z => absurd z (show ¬ (¬ (0 : Int32) = 0) by decide)) (fun _ => ?_)
                refine ex_lo pm_M39 (pc_q := 89) (ls_q := [.ref 25, .int a0, .int a1, .int 0, .int 1, .int 0]) (st_q := [.int 1]) rfl rfl rfl ?_
                refine ex_ifc pm_M39 (t := 97) (pc_q := 92) rfl rfl rfl (fun _ => ?_) (fun z => absurd (show ¬ (1 : Int32) = 0 by decide) z)
                refine ex_lo pm_M39 (pc_q := 98) (ls_q := [.ref 25, .int a0, .int a1, .int 0, .int 1, .int 0]) (st_q := [.ref 25]) rfl rfl rfl ?_
                refine ex_op pm_M39 (pc_q := 99) (st_q := [.int 2, .ref 25]) rfl rfl rfl ?_
                refine ex_lo pm_M39 (pc_q := 100) (ls_q := [.ref 25, .int a0, .int a1, .int 0, .int 1, .int 0]) (st_q := [.ref 25, .int 2, .ref 25]) rfl rfl rfl ?_
                refine ex_getK pm_M39 (pc_q := 103) (j := 15) (b := 30) rfl rfl rfl rfl rfl ?_
                refine ex_getI' pm_M39 (pc_q := 106) (v := S.1 30 3) rfl rfl rfl rfl rfl rfl ?_
                refine ex_call pm_M39 (pc_q := 109) (ix := 70) (callee := 21) (np := 2) (kd := 0) (ra := [.int (S.1 30 3), .int 2, .ref 25]) (rest := []) rfl rfl rfl rfl pm_M21 rfl rfl rfl rfl (fun d58 => (H21 _ d58 2 (S.1 30 3) S).mono (fun r S60 e => ?_))
                obtain ⟨rfl, h61⟩ := e
                show ex_P _ _ 39 109 [.ref 25, .int a0, .int a1, .int 0, .int 1, .int 0] [] S60 _
                exact ex_ret pm_M39 (r := none) rfl rfl (⟨rfl, v19 a0 a1 S c1 c2 c17 c32 c47 c52 c57 S60 h61⟩)
              · -- not
                refine ex_op pm_M39 (pc_q := 77) (st_q := [.int 1]) rfl rfl rfl ?_
                refine ex_br pm_M39 (pc_q := 81) (st_q := [.int 1]) rfl rfl ?_
                refine ex_lo pm_M39 (pc_q := 83) (ls_q := [.ref 25, .int a0, .int a1, .int 0, .int 1, .int 1]) (st_q := []) rfl rfl rfl ?_
                refine ex_lo pm_M39 (pc_q := 84) (ls_q := [.ref 25, .int a0, .int a1, .int 0, .int 1, .int 1]) (st_q := [.int 0]) rfl rfl rfl ?_
                refine ex_ifc pm_M39 (t := 97) (pc_q := 87) rfl rfl rfl (fun z => absurd z (show ¬ (¬ (0 : Int32) = 0) by decide)) (fun _ => ?_)
                refine ex_lo pm_M39 (pc_q := 89) (ls_q := [.ref 25, .int a0, .int a1, .int 0, .int 1, .int 1]) (st_q := [.int 1]) rfl rfl rfl ?_
                refine ex_ifc pm_M39 (t := 97) (pc_q := 92) rfl rfl rfl (fun _ => ?_) (fun z => absurd (show ¬ (1 : Int32) = 0 by decide) z)
                refine ex_lo pm_M39 (pc_q := 98) (ls_q := [.ref 25, .int a0, .int a1, .int 0, .int 1, .int 1]) (st_q := [.ref 25]) rfl rfl rfl ?_
                refine ex_op pm_M39 (pc_q := 99) (st_q := [.int 2, .ref 25]) rfl rfl rfl ?_
                refine ex_lo pm_M39 (pc_q := 100) (ls_q := [.ref 25, .int a0, .int a1, .int 0, .int 1, .int 1]) (st_q := [.ref 25, .int 2, .ref 25]) rfl rfl rfl ?_
                refine ex_getK pm_M39 (pc_q := 103) (j := 15) (b := 30) rfl rfl rfl rfl rfl ?_
                refine ex_getI' pm_M39 (pc_q := 106) (v := S.1 30 3) rfl rfl rfl rfl rfl rfl ?_
                refine ex_call pm_M39 (pc_q := 109) (ix := 70) (callee := 21) (np := 2) (kd := 0) (ra := [.int (S.1 30 3), .int 2, .ref 25]) (rest := []) rfl rfl rfl rfl pm_M21 rfl rfl rfl rfl (fun d62 => (H21 _ d62 2 (S.1 30 3) S).mono (fun r S64 e => ?_))
                obtain ⟨rfl, h65⟩ := e
                show ex_P _ _ 39 109 [.ref 25, .int a0, .int a1, .int 0, .int 1, .int 1] [] S64 _
                exact ex_ret pm_M39 (r := none) rfl rfl (⟨rfl, v20 a0 a1 S c1 c2 c17 c32 c47 c52 c57 S64 h65⟩)
  · -- not
    refine ex_op pm_M39 (pc_q := 19) (st_q := [.int 1]) rfl rfl rfl ?_
    refine ex_br pm_M39 (pc_q := 23) (st_q := [.int 1]) rfl rfl ?_
    refine ex_lo pm_M39 (pc_q := 24) (ls_q := [.ref 25, .int a0, .int a1, .int 1, pm_no, pm_no]) (st_q := []) rfl rfl rfl ?_
    refine ex_lo pm_M39 (pc_q := 25) (ls_q := [.ref 25, .int a0, .int a1, .int 1, pm_no, pm_no]) (st_q := [.int a0]) rfl rfl rfl ?_
    refine ex_op pm_M39 (pc_q := 26) (st_q := [.int 3, .int a0]) rfl rfl rfl ?_
    refine ex_icmp pm_M39 (t := 43) (pc_q := 29) rfl rfl rfl (fun c66 => ?_) (fun c66 => ?_)
    · -- ¬ a0 = 3
      refine ex_op pm_M39 (pc_q := 44) (st_q := [.int 0]) rfl rfl rfl ?_
      refine ex_lo pm_M39 (pc_q := 46) (ls_q := [.ref 25, .int a0, .int a1, .int 1, .int 0, pm_no]) (st_q := []) rfl rfl rfl ?_
      refine ex_lo pm_M39 (pc_q := 47) (ls_q := [.ref 25, .int a0, .int a1, .int 1, .int 0, pm_no]) (st_q := [.int a0]) rfl rfl rfl ?_
      refine ex_op pm_M39 (pc_q := 48) (st_q := [.int 2, .int a0]) rfl rfl rfl ?_
      refine ex_icmp pm_M39 (t := 56) (pc_q := 51) rfl rfl rfl (fun c67 => ?_) (fun c67 => ?_)
      · -- a0 = 2
        refine ex_lo pm_M39 (pc_q := 57) (ls_q := [.ref 25, .int a0, .int a1, .int 1, .int 0, pm_no]) (st_q := [.int a1]) rfl rfl rfl ?_
        refine ex_op pm_M39 (pc_q := 58) (st_q := [.int 1, .int a1]) rfl rfl rfl ?_
        refine ex_icmp pm_M39 (t := 80) (pc_q := 61) rfl rfl rfl (fun c68 => ?_) (fun c68 => ?_)
        · -- ¬ a1 = 1
          refine ex_op pm_M39 (pc_q := 81) (st_q := [.int 0]) rfl rfl rfl ?_
          refine ex_lo pm_M39 (pc_q := 83) (ls_q := [.ref 25, .int a0, .int a1, .int 1, .int 0, .int 0]) (st_q := []) rfl rfl rfl ?_
          refine ex_lo pm_M39 (pc_q := 84) (ls_q := [.ref 25, .int a0, .int a1, .int 1, .int 0, .int 0]) (st_q := [.int 1]) rfl rfl rfl ?_
          refine ex_ifc pm_M39 (t := 97) (pc_q := 87) rfl rfl rfl (fun _ => ?_) (fun z => absurd (show ¬ (1 : Int32) = 0 by decide) z)
          refine ex_lo pm_M39 (pc_q := 98) (ls_q := [.ref 25, .int a0, .int a1, .int 1, .int 0, .int 0]) (st_q := [.ref 25]) rfl rfl rfl ?_
          refine ex_op pm_M39 (pc_q := 99) (st_q := [.int 2, .ref 25]) rfl rfl rfl ?_
          refine ex_lo pm_M39 (pc_q := 100) (ls_q := [.ref 25, .int a0, .int a1, .int 1, .int 0, .int 0]) (st_q := [.ref 25, .int 2, .ref 25]) rfl rfl rfl ?_
          refine ex_getK pm_M39 (pc_q := 103) (j := 15) (b := 30) rfl rfl rfl rfl rfl ?_
          refine ex_getI' pm_M39 (pc_q := 106) (v := S.1 30 3) rfl rfl rfl rfl rfl rfl ?_
          refine ex_call pm_M39 (pc_q := 109) (ix := 70) (callee := 21) (np := 2) (kd := 0) (ra := [.int (S.1 30 3), .int 2, .ref 25]) (rest := []) rfl rfl rfl rfl pm_M21 rfl rfl rfl rfl (fun d69 => (H21 _ d69 2 (S.1 30 3) S).mono (fun r S71 e => ?_))
          obtain ⟨rfl, h72⟩ := e
          show ex_P _ _ 39 109 [.ref 25, .int a0, .int a1, .int 1, .int 0, .int 0] [] S71 _
          exact ex_ret pm_M39 (r := none) rfl rfl (⟨rfl, v21 a0 a1 S c1 c66 c67 c68 S71 h72⟩)
        · -- not
          refine ex_lo pm_M39 (pc_q := 62) (ls_q := [.ref 25, .int a0, .int a1, .int 1, .int 0, pm_no]) (st_q := [.ref 25]) rfl rfl rfl ?_
          refine ex_getK pm_M39 (pc_q := 65) (j := 19) (b := 29) rfl rfl rfl rfl rfl ?_
          refine ex_op pm_M39 (pc_q := 66) (st_q := [.int 1, .ref 29]) rfl rfl rfl ?_
          refine ex_iald' pm_M39 (pc_q := 67) (v := S.1 29 1) rfl rfl rfl ?_
          refine ex_lo pm_M39 (pc_q := 68) (ls_q := [.ref 25, .int a0, .int a1, .int 1, .int 0, pm_no]) (st_q := [.ref 25, .int (S.1 29 1)]) rfl rfl rfl ?_
          refine ex_getK pm_M39 (pc_q := 71) (j := 19) (b := 29) rfl rfl rfl rfl rfl ?_
          refine ex_op pm_M39 (pc_q := 72) (st_q := [.int 0, .ref 29, .int (S.1 29 1)]) rfl rfl rfl ?_
          refine ex_iald' pm_M39 (pc_q := 73) (v := S.1 29 0) rfl rfl rfl ?_
          refine ex_icmp pm_M39 (t := 80) (pc_q := 76) rfl rfl rfl (fun c73 => ?_) (fun c73 => ?_)
          · -- ¬ S.1 29 1 = S.1 29 0
            refine ex_op pm_M39 (pc_q := 81) (st_q := [.int 0]) rfl rfl rfl ?_
            refine ex_lo pm_M39 (pc_q := 83) (ls_q := [.ref 25, .int a0, .int a1, .int 1, .int 0, .int 0]) (st_q := []) rfl rfl rfl ?_
            refine ex_lo pm_M39 (pc_q := 84) (ls_q := [.ref 25, .int a0, .int a1, .int 1, .int 0, .int 0]) (st_q := [.int 1]) rfl rfl rfl ?_
            refine ex_ifc pm_M39 (t := 97) (pc_q := 87) rfl rfl rfl (fun _ => ?_) (fun z => absurd (show ¬ (1 : Int32) = 0 by decide) z)
            refine ex_lo pm_M39 (pc_q := 98) (ls_q := [.ref 25, .int a0, .int a1, .int 1, .int 0, .int 0]) (st_q := [.ref 25]) rfl rfl rfl ?_
            refine ex_op pm_M39 (pc_q := 99) (st_q := [.int 2, .ref 25]) rfl rfl rfl ?_
            refine ex_lo pm_M39 (pc_q := 100) (ls_q := [.ref 25, .int a0, .int a1, .int 1, .int 0, .int 0]) (st_q := [.ref 25, .int 2, .ref 25]) rfl rfl rfl ?_
            refine ex_getK pm_M39 (pc_q := 103) (j := 15) (b := 30) rfl rfl rfl rfl rfl ?_
            refine ex_getI' pm_M39 (pc_q := 106) (v := S.1 30 3) rfl rfl rfl rfl rfl rfl ?_
            refine ex_call pm_M39 (pc_q := 109) (ix := 70) (callee := 21) (np := 2) (kd := 0) (ra := [.int (S.1 30 3), .int 2, .ref 25]) (rest := []) rfl rfl rfl rfl pm_M21 rfl rfl rfl rfl (fun d74 => (H21 _ d74 2 (S.1 30 3) S).mono (fun r S76 e => ?_))
            obtain ⟨rfl, h77⟩ := e
            show ex_P _ _ 39 109 [.ref 25, .int a0, .int a1, .int 1, .int 0, .int 0] [] S76 _
            exact ex_ret pm_M39 (r := none) rfl rfl (⟨rfl, v22 a0 a1 S c1 c66 c67 c68 c73 S76 h77⟩)
          · -- not
            refine ex_op pm_M39 (pc_q := 77) (st_q := [.int 1]) rfl rfl rfl ?_
            refine ex_br pm_M39 (pc_q := 81) (st_q := [.int 1]) rfl rfl ?_
            refine ex_lo pm_M39 (pc_q := 83) (ls_q := [.ref 25, .int a0, .int a1, .int 1, .int 0, .int 1]) (st_q := []) rfl rfl rfl ?_
            refine ex_lo pm_M39 (pc_q := 84) (ls_q := [.ref 25, .int a0, .int a1, .int 1, .int 0, .int 1]) (st_q := [.int 1]) rfl rfl rfl ?_
            refine ex_ifc pm_M39 (t := 97) (pc_q := 87) rfl rfl rfl (fun _ => ?_) (fun z => absurd (show ¬ (1 : Int32) = 0 by decide) z)
            refine ex_lo pm_M39 (pc_q := 98) (ls_q := [.ref 25, .int a0, .int a1, .int 1, .int 0, .int 1]) (st_q := [.ref 25]) rfl rfl rfl ?_
            refine ex_op pm_M39 (pc_q := 99) (st_q := [.int 2, .ref 25]) rfl rfl rfl ?_
            refine ex_lo pm_M39 (pc_q := 100) (ls_q := [.ref 25, .int a0, .int a1, .int 1, .int 0, .int 1]) (st_q := [.ref 25, .int 2, .ref 25]) rfl rfl rfl ?_
            refine ex_getK pm_M39 (pc_q := 103) (j := 15) (b := 30) rfl rfl rfl rfl rfl ?_
            refine ex_getI' pm_M39 (pc_q := 106) (v := S.1 30 3) rfl rfl rfl rfl rfl rfl ?_
            refine ex_call pm_M39 (pc_q := 109) (ix := 70) (callee := 21) (np := 2) (kd := 0) (ra := [.int (S.1 30 3), .int 2, .ref 25]) (rest := []) rfl rfl rfl rfl pm_M21 rfl rfl rfl rfl (fun d78 => (H21 _ d78 2 (S.1 30 3) S).mono (fun r S80 e => ?_))
            obtain ⟨rfl, h81⟩ := e
            show ex_P _ _ 39 109 [.ref 25, .int a0, .int a1, .int 1, .int 0, .int 1] [] S80 _
            exact ex_ret pm_M39 (r := none) rfl rfl (⟨rfl, v23 a0 a1 S c1 c66 c67 c68 c73 S80 h81⟩)
      · -- not
        refine ex_lo pm_M39 (pc_q := 52) (ls_q := [.ref 25, .int a0, .int a1, .int 1, .int 0, pm_no]) (st_q := [.int a0]) rfl rfl rfl ?_
        refine ex_op pm_M39 (pc_q := 53) (st_q := [.int 4, .int a0]) rfl rfl rfl ?_
        refine ex_icmp pm_M39 (t := 80) (pc_q := 56) rfl rfl rfl (fun c82 => ?_) (fun c82 => ?_)
        · -- ¬ a0 = 4
          refine ex_op pm_M39 (pc_q := 81) (st_q := [.int 0]) rfl rfl rfl ?_
          refine ex_lo pm_M39 (pc_q := 83) (ls_q := [.ref 25, .int a0, .int a1, .int 1, .int 0, .int 0]) (st_q := []) rfl rfl rfl ?_
          refine ex_lo pm_M39 (pc_q := 84) (ls_q := [.ref 25, .int a0, .int a1, .int 1, .int 0, .int 0]) (st_q := [.int 1]) rfl rfl rfl ?_
          refine ex_ifc pm_M39 (t := 97) (pc_q := 87) rfl rfl rfl (fun _ => ?_) (fun z => absurd (show ¬ (1 : Int32) = 0 by decide) z)
          refine ex_lo pm_M39 (pc_q := 98) (ls_q := [.ref 25, .int a0, .int a1, .int 1, .int 0, .int 0]) (st_q := [.ref 25]) rfl rfl rfl ?_
          refine ex_op pm_M39 (pc_q := 99) (st_q := [.int 2, .ref 25]) rfl rfl rfl ?_
          refine ex_lo pm_M39 (pc_q := 100) (ls_q := [.ref 25, .int a0, .int a1, .int 1, .int 0, .int 0]) (st_q := [.ref 25, .int 2, .ref 25]) rfl rfl rfl ?_
          refine ex_getK pm_M39 (pc_q := 103) (j := 15) (b := 30) rfl rfl rfl rfl rfl ?_
          refine ex_getI' pm_M39 (pc_q := 106) (v := S.1 30 3) rfl rfl rfl rfl rfl rfl ?_
          refine ex_call pm_M39 (pc_q := 109) (ix := 70) (callee := 21) (np := 2) (kd := 0) (ra := [.int (S.1 30 3), .int 2, .ref 25]) (rest := []) rfl rfl rfl rfl pm_M21 rfl rfl rfl rfl (fun d83 => (H21 _ d83 2 (S.1 30 3) S).mono (fun r S85 e => ?_))
          obtain ⟨rfl, h86⟩ := e
          show ex_P _ _ 39 109 [.ref 25, .int a0, .int a1, .int 1, .int 0, .int 0] [] S85 _
          exact ex_ret pm_M39 (r := none) rfl rfl (⟨rfl, v24 a0 a1 S c1 c66 c67 c82 S85 h86⟩)
        · -- not
          refine ex_lo pm_M39 (pc_q := 57) (ls_q := [.ref 25, .int a0, .int a1, .int 1, .int 0, pm_no]) (st_q := [.int a1]) rfl rfl rfl ?_
          refine ex_op pm_M39 (pc_q := 58) (st_q := [.int 1, .int a1]) rfl rfl rfl ?_
          refine ex_icmp pm_M39 (t := 80) (pc_q := 61) rfl rfl rfl (fun c87 => ?_) (fun c87 => ?_)
          · -- ¬ a1 = 1
            refine ex_op pm_M39 (pc_q := 81) (st_q := [.int 0]) rfl rfl rfl ?_
            refine ex_lo pm_M39 (pc_q := 83) (ls_q := [.ref 25, .int a0, .int a1, .int 1, .int 0, .int 0]) (st_q := []) rfl rfl rfl ?_
            refine ex_lo pm_M39 (pc_q := 84) (ls_q := [.ref 25, .int a0, .int a1, .int 1, .int 0, .int 0]) (st_q := [.int 1]) rfl rfl rfl ?_
            refine ex_ifc pm_M39 (t := 97) (pc_q := 87) rfl rfl rfl (fun _ => ?_) (fun z => absurd (show ¬ (1 : Int32) = 0 by decide) z)
            refine ex_lo pm_M39 (pc_q := 98) (ls_q := [.ref 25, .int a0, .int a1, .int 1, .int 0, .int 0]) (st_q := [.ref 25]) rfl rfl rfl ?_
            refine ex_op pm_M39 (pc_q := 99) (st_q := [.int 2, .ref 25]) rfl rfl rfl ?_
            refine ex_lo pm_M39 (pc_q := 100) (ls_q := [.ref 25, .int a0, .int a1, .int 1, .int 0, .int 0]) (st_q := [.ref 25, .int 2, .ref 25]) rfl rfl rfl ?_
            refine ex_getK pm_M39 (pc_q := 103) (j := 15) (b := 30) rfl rfl rfl rfl rfl ?_
            refine ex_getI' pm_M39 (pc_q := 106) (v := S.1 30 3) rfl rfl rfl rfl rfl rfl ?_
            refine ex_call pm_M39 (pc_q := 109) (ix := 70) (callee := 21) (np := 2) (kd := 0) (ra := [.int (S.1 30 3), .int 2, .ref 25]) (rest := []) rfl rfl rfl rfl pm_M21 rfl rfl rfl rfl (fun d88 => (H21 _ d88 2 (S.1 30 3) S).mono (fun r S90 e => ?_))
            obtain ⟨rfl, h91⟩ := e
            show ex_P _ _ 39 109 [.ref 25, .int a0, .int a1, .int 1, .int 0, .int 0] [] S90 _
            exact ex_ret pm_M39 (r := none) rfl rfl (⟨rfl, v25 a0 a1 S c1 c66 c67 c82 c87 S90 h91⟩)
          · -- not
            refine ex_lo pm_M39 (pc_q := 62) (ls_q := [.ref 25, .int a0, .int a1, .int 1, .int 0, pm_no]) (st_q := [.ref 25]) rfl rfl rfl ?_
            refine ex_getK pm_M39 (pc_q := 65) (j := 19) (b := 29) rfl rfl rfl rfl rfl ?_
            refine ex_op pm_M39 (pc_q := 66) (st_q := [.int 1, .ref 29]) rfl rfl rfl ?_
            refine ex_iald' pm_M39 (pc_q := 67) (v := S.1 29 1) rfl rfl rfl ?_
            refine ex_lo pm_M39 (pc_q := 68) (ls_q := [.ref 25, .int a0, .int a1, .int 1, .int 0, pm_no]) (st_q := [.ref 25, .int (S.1 29 1)]) rfl rfl rfl ?_
            refine ex_getK pm_M39 (pc_q := 71) (j := 19) (b := 29) rfl rfl rfl rfl rfl ?_
            refine ex_op pm_M39 (pc_q := 72) (st_q := [.int 0, .ref 29, .int (S.1 29 1)]) rfl rfl rfl ?_
            refine ex_iald' pm_M39 (pc_q := 73) (v := S.1 29 0) rfl rfl rfl ?_
            refine ex_icmp pm_M39 (t := 80) (pc_q := 76) rfl rfl rfl (fun c92 => ?_) (fun c92 => ?_)
            · -- ¬ S.1 29 1 = S.1 29 0
              refine ex_op pm_M39 (pc_q := 81) (st_q := [.int 0]) rfl rfl rfl ?_
              refine ex_lo pm_M39 (pc_q := 83) (ls_q := [.ref 25, .int a0, .int a1, .int 1, .int 0, .int 0]) (st_q := []) rfl rfl rfl ?_
              refine ex_lo pm_M39 (pc_q := 84) (ls_q := [.ref 25, .int a0, .int a1, .int 1, .int 0, .int 0]) (st_q := [.int 1]) rfl rfl rfl ?_
              refine ex_ifc pm_M39 (t := 97) (pc_q := 87) rfl rfl rfl (fun _ => ?_) (fun z => absurd (show ¬ (1 : Int32) = 0 by decide) z)
              refine ex_lo pm_M39 (pc_q := 98) (ls_q := [.ref 25, .int a0, .int a1, .int 1, .int 0, .int 0]) (st_q := [.ref 25]) rfl rfl rfl ?_
              refine ex_op pm_M39 (pc_q := 99) (st_q := [.int 2, .ref 25]) rfl rfl rfl ?_
              refine ex_lo pm_M39 (pc_q := 100) (ls_q := [.ref 25, .int a0, .int a1, .int 1, .int 0, .int 0]) (st_q := [.ref 25, .int 2, .ref 25]) rfl rfl rfl ?_
              refine ex_getK pm_M39 (pc_q := 103) (j := 15) (b := 30) rfl rfl rfl rfl rfl ?_
              refine ex_getI' pm_M39 (pc_q := 106) (v := S.1 30 3) rfl rfl rfl rfl rfl rfl ?_
              refine ex_call pm_M39 (pc_q := 109) (ix := 70) (callee := 21) (np := 2) (kd := 0) (ra := [.int (S.1 30 3), .int 2, .ref 25]) (rest := []) rfl rfl rfl rfl pm_M21 rfl rfl rfl rfl (fun d93 => (H21 _ d93 2 (S.1 30 3) S).mono (fun r S95 e => ?_))
              obtain ⟨rfl, h96⟩ := e
              show ex_P _ _ 39 109 [.ref 25, .int a0, .int a1, .int 1, .int 0, .int 0] [] S95 _
              exact ex_ret pm_M39 (r := none) rfl rfl (⟨rfl, v26 a0 a1 S c1 c66 c67 c82 c87 c92 S95 h96⟩)
            · -- not
              refine ex_op pm_M39 (pc_q := 77) (st_q := [.int 1]) rfl rfl rfl ?_
              refine ex_br pm_M39 (pc_q := 81) (st_q := [.int 1]) rfl rfl ?_
              refine ex_lo pm_M39 (pc_q := 83) (ls_q := [.ref 25, .int a0, .int a1, .int 1, .int 0, .int 1]) (st_q := []) rfl rfl rfl ?_
              refine ex_lo pm_M39 (pc_q := 84) (ls_q := [.ref 25, .int a0, .int a1, .int 1, .int 0, .int 1]) (st_q := [.int 1]) rfl rfl rfl ?_
              refine ex_ifc pm_M39 (t := 97) (pc_q := 87) rfl rfl rfl (fun _ => ?_) (fun z => absurd (show ¬ (1 : Int32) = 0 by decide) z)
              refine ex_lo pm_M39 (pc_q := 98) (ls_q := [.ref 25, .int a0, .int a1, .int 1, .int 0, .int 1]) (st_q := [.ref 25]) rfl rfl rfl ?_
              refine ex_op pm_M39 (pc_q := 99) (st_q := [.int 2, .ref 25]) rfl rfl rfl ?_
              refine ex_lo pm_M39 (pc_q := 100) (ls_q := [.ref 25, .int a0, .int a1, .int 1, .int 0, .int 1]) (st_q := [.ref 25, .int 2, .ref 25]) rfl rfl rfl ?_
              refine ex_getK pm_M39 (pc_q := 103) (j := 15) (b := 30) rfl rfl rfl rfl rfl ?_
              refine ex_getI' pm_M39 (pc_q := 106) (v := S.1 30 3) rfl rfl rfl rfl rfl rfl ?_
              refine ex_call pm_M39 (pc_q := 109) (ix := 70) (callee := 21) (np := 2) (kd := 0) (ra := [.int (S.1 30 3), .int 2, .ref 25]) (rest := []) rfl rfl rfl rfl pm_M21 rfl rfl rfl rfl (fun d97 => (H21 _ d97 2 (S.1 30 3) S).mono (fun r S99 e => ?_))
              obtain ⟨rfl, h100⟩ := e
              show ex_P _ _ 39 109 [.ref 25, .int a0, .int a1, .int 1, .int 0, .int 1] [] S99 _
              exact ex_ret pm_M39 (r := none) rfl rfl (⟨rfl, v27 a0 a1 S c1 c66 c67 c82 c87 c92 S99 h100⟩)
    · -- not
      refine ex_lo pm_M39 (pc_q := 30) (ls_q := [.ref 25, .int a0, .int a1, .int 1, pm_no, pm_no]) (st_q := [.ref 25]) rfl rfl rfl ?_
      refine ex_getK pm_M39 (pc_q := 33) (j := 19) (b := 29) rfl rfl rfl rfl rfl ?_
      refine ex_lo pm_M39 (pc_q := 34) (ls_q := [.ref 25, .int a0, .int a1, .int 1, pm_no, pm_no]) (st_q := [.int a1, .ref 29]) rfl rfl rfl ?_
      refine ex_iald' pm_M39 (pc_q := 35) (v := S.1 29 a1.toNatClampNeg) rfl rfl rfl ?_
      refine ex_op pm_M39 (pc_q := 36) (st_q := [.int 1, .int (S.1 29 a1.toNatClampNeg)]) rfl rfl rfl ?_
      refine ex_icmp pm_M39 (t := 43) (pc_q := 39) rfl rfl rfl (fun c101 => ?_) (fun c101 => ?_)
      · -- 1 ≤ S.1 29 a1.toNatClampNeg
        refine ex_op pm_M39 (pc_q := 44) (st_q := [.int 0]) rfl rfl rfl ?_
        refine ex_lo pm_M39 (pc_q := 46) (ls_q := [.ref 25, .int a0, .int a1, .int 1, .int 0, pm_no]) (st_q := []) rfl rfl rfl ?_
        refine ex_lo pm_M39 (pc_q := 47) (ls_q := [.ref 25, .int a0, .int a1, .int 1, .int 0, pm_no]) (st_q := [.int a0]) rfl rfl rfl ?_
        refine ex_op pm_M39 (pc_q := 48) (st_q := [.int 2, .int a0]) rfl rfl rfl ?_
        refine ex_icmp pm_M39 (t := 56) (pc_q := 51) rfl rfl rfl (fun c102 => ?_) (fun c102 => ?_)
        · -- a0 = 2
          refine ex_lo pm_M39 (pc_q := 57) (ls_q := [.ref 25, .int a0, .int a1, .int 1, .int 0, pm_no]) (st_q := [.int a1]) rfl rfl rfl ?_
          refine ex_op pm_M39 (pc_q := 58) (st_q := [.int 1, .int a1]) rfl rfl rfl ?_
          refine ex_icmp pm_M39 (t := 80) (pc_q := 61) rfl rfl rfl (fun c103 => ?_) (fun c103 => ?_)
          · -- ¬ a1 = 1
            refine ex_op pm_M39 (pc_q := 81) (st_q := [.int 0]) rfl rfl rfl ?_
            refine ex_lo pm_M39 (pc_q := 83) (ls_q := [.ref 25, .int a0, .int a1, .int 1, .int 0, .int 0]) (st_q := []) rfl rfl rfl ?_
            refine ex_lo pm_M39 (pc_q := 84) (ls_q := [.ref 25, .int a0, .int a1, .int 1, .int 0, .int 0]) (st_q := [.int 1]) rfl rfl rfl ?_
            refine ex_ifc pm_M39 (t := 97) (pc_q := 87) rfl rfl rfl (fun _ => ?_) (fun z => absurd (show ¬ (1 : Int32) = 0 by decide) z)
            refine ex_lo pm_M39 (pc_q := 98) (ls_q := [.ref 25, .int a0, .int a1, .int 1, .int 0, .int 0]) (st_q := [.ref 25]) rfl rfl rfl ?_
            refine ex_op pm_M39 (pc_q := 99) (st_q := [.int 2, .ref 25]) rfl rfl rfl ?_
            refine ex_lo pm_M39 (pc_q := 100) (ls_q := [.ref 25, .int a0, .int a1, .int 1, .int 0, .int 0]) (st_q := [.ref 25, .int 2, .ref 25]) rfl rfl rfl ?_
            refine ex_getK pm_M39 (pc_q := 103) (j := 15) (b := 30) rfl rfl rfl rfl rfl ?_
            refine ex_getI' pm_M39 (pc_q := 106) (v := S.1 30 3) rfl rfl rfl rfl rfl rfl ?_
            refine ex_call pm_M39 (pc_q := 109) (ix := 70) (callee := 21) (np := 2) (kd := 0) (ra := [.int (S.1 30 3), .int 2, .ref 25]) (rest := []) rfl rfl rfl rfl pm_M21 rfl rfl rfl rfl (fun d104 => (H21 _ d104 2 (S.1 30 3) S).mono (fun r S106 e => ?_))
            obtain ⟨rfl, h107⟩ := e
            show ex_P _ _ 39 109 [.ref 25, .int a0, .int a1, .int 1, .int 0, .int 0] [] S106 _
            exact ex_ret pm_M39 (r := none) rfl rfl (⟨rfl, v28 a0 a1 S c1 c66 c101 c102 c103 S106 h107⟩)
          · -- not
            refine ex_lo pm_M39 (pc_q := 62) (ls_q := [.ref 25, .int a0, .int a1, .int 1, .int 0, pm_no]) (st_q := [.ref 25]) rfl rfl rfl ?_
            refine ex_getK pm_M39 (pc_q := 65) (j := 19) (b := 29) rfl rfl rfl rfl rfl ?_
            refine ex_op pm_M39 (pc_q := 66) (st_q := [.int 1, .ref 29]) rfl rfl rfl ?_
            refine ex_iald' pm_M39 (pc_q := 67) (v := S.1 29 1) rfl rfl rfl ?_
            refine ex_lo pm_M39 (pc_q := 68) (ls_q := [.ref 25, .int a0, .int a1, .int 1, .int 0, pm_no]) (st_q := [.ref 25, .int (S.1 29 1)]) rfl rfl rfl ?_
            refine ex_getK pm_M39 (pc_q := 71) (j := 19) (b := 29) rfl rfl rfl rfl rfl ?_
            refine ex_op pm_M39 (pc_q := 72) (st_q := [.int 0, .ref 29, .int (S.1 29 1)]) rfl rfl rfl ?_
            refine ex_iald' pm_M39 (pc_q := 73) (v := S.1 29 0) rfl rfl rfl ?_
            refine ex_icmp pm_M39 (t := 80) (pc_q := 76) rfl rfl rfl (fun c108 => ?_) (fun c108 => ?_)
            · -- ¬ S.1 29 1 = S.1 29 0
              refine ex_op pm_M39 (pc_q := 81) (st_q := [.int 0]) rfl rfl rfl ?_
              refine ex_lo pm_M39 (pc_q := 83) (ls_q := [.ref 25, .int a0, .int a1, .int 1, .int 0, .int 0]) (st_q := []) rfl rfl rfl ?_
              refine ex_lo pm_M39 (pc_q := 84) (ls_q := [.ref 25, .int a0, .int a1, .int 1, .int 0, .int 0]) (st_q := [.int 1]) rfl rfl rfl ?_
              refine ex_ifc pm_M39 (t := 97) (pc_q := 87) rfl rfl rfl (fun _ => ?_) (fun z => absurd (show ¬ (1 : Int32) = 0 by decide) z)
              refine ex_lo pm_M39 (pc_q := 98) (ls_q := [.ref 25, .int a0, .int a1, .int 1, .int 0, .int 0]) (st_q := [.ref 25]) rfl rfl rfl ?_
              refine ex_op pm_M39 (pc_q := 99) (st_q := [.int 2, .ref 25]) rfl rfl rfl ?_
              refine ex_lo pm_M39 (pc_q := 100) (ls_q := [.ref 25, .int a0, .int a1, .int 1, .int 0, .int 0]) (st_q := [.ref 25, .int 2, .ref 25]) rfl rfl rfl ?_
              refine ex_getK pm_M39 (pc_q := 103) (j := 15) (b := 30) rfl rfl rfl rfl rfl ?_
              refine ex_getI' pm_M39 (pc_q := 106) (v := S.1 30 3) rfl rfl rfl rfl rfl rfl ?_
              refine ex_call pm_M39 (pc_q := 109) (ix := 70) (callee := 21) (np := 2) (kd := 0) (ra := [.int (S.1 30 3), .int 2, .ref 25]) (rest := []) rfl rfl rfl rfl pm_M21 rfl rfl rfl rfl (fun d109 => (H21 _ d109 2 (S.1 30 3) S).mono (fun r S111 e => ?_))
              obtain ⟨rfl, h112⟩ := e
              show ex_P _ _ 39 109 [.ref 25, .int a0, .int a1, .int 1, .int 0, .int 0] [] S111 _
              exact ex_ret pm_M39 (r := none) rfl rfl (⟨rfl, v29 a0 a1 S c1 c66 c101 c102 c103 c108 S111 h112⟩)
            · -- not
              refine ex_op pm_M39 (pc_q := 77) (st_q := [.int 1]) rfl rfl rfl ?_
              refine ex_br pm_M39 (pc_q := 81) (st_q := [.int 1]) rfl rfl ?_
              refine ex_lo pm_M39 (pc_q := 83) (ls_q := [.ref 25, .int a0, .int a1, .int 1, .int 0, .int 1]) (st_q := []) rfl rfl rfl ?_
              refine ex_lo pm_M39 (pc_q := 84) (ls_q := [.ref 25, .int a0, .int a1, .int 1, .int 0, .int 1]) (st_q := [.int 1]) rfl rfl rfl ?_
              refine ex_ifc pm_M39 (t := 97) (pc_q := 87) rfl rfl rfl (fun _ => ?_) (fun z => absurd (show ¬ (1 : Int32) = 0 by decide) z)
              refine ex_lo pm_M39 (pc_q := 98) (ls_q := [.ref 25, .int a0, .int a1, .int 1, .int 0, .int 1]) (st_q := [.ref 25]) rfl rfl rfl ?_
              refine ex_op pm_M39 (pc_q := 99) (st_q := [.int 2, .ref 25]) rfl rfl rfl ?_
              refine ex_lo pm_M39 (pc_q := 100) (ls_q := [.ref 25, .int a0, .int a1, .int 1, .int 0, .int 1]) (st_q := [.ref 25, .int 2, .ref 25]) rfl rfl rfl ?_
              refine ex_getK pm_M39 (pc_q := 103) (j := 15) (b := 30) rfl rfl rfl rfl rfl ?_
              refine ex_getI' pm_M39 (pc_q := 106) (v := S.1 30 3) rfl rfl rfl rfl rfl rfl ?_
              refine ex_call pm_M39 (pc_q := 109) (ix := 70) (callee := 21) (np := 2) (kd := 0) (ra := [.int (S.1 30 3), .int 2, .ref 25]) (rest := []) rfl rfl rfl rfl pm_M21 rfl rfl rfl rfl (fun d113 => (H21 _ d113 2 (S.1 30 3) S).mono (fun r S115 e => ?_))
              obtain ⟨rfl, h116⟩ := e
              show ex_P _ _ 39 109 [.ref 25, .int a0, .int a1, .int 1, .int 0, .int 1] [] S115 _
              exact ex_ret pm_M39 (r := none) rfl rfl (⟨rfl, v30 a0 a1 S c1 c66 c101 c102 c103 c108 S115 h116⟩)
        · -- not
          refine ex_lo pm_M39 (pc_q := 52) (ls_q := [.ref 25, .int a0, .int a1, .int 1, .int 0, pm_no]) (st_q := [.int a0]) rfl rfl rfl ?_
          refine ex_op pm_M39 (pc_q := 53) (st_q := [.int 4, .int a0]) rfl rfl rfl ?_
          refine ex_icmp pm_M39 (t := 80) (pc_q := 56) rfl rfl rfl (fun c117 => ?_) (fun c117 => ?_)
          · -- ¬ a0 = 4
            refine ex_op pm_M39 (pc_q := 81) (st_q := [.int 0]) rfl rfl rfl ?_
            refine ex_lo pm_M39 (pc_q := 83) (ls_q := [.ref 25, .int a0, .int a1, .int 1, .int 0, .int 0]) (st_q := []) rfl rfl rfl ?_
            refine ex_lo pm_M39 (pc_q := 84) (ls_q := [.ref 25, .int a0, .int a1, .int 1, .int 0, .int 0]) (st_q := [.int 1]) rfl rfl rfl ?_
            refine ex_ifc pm_M39 (t := 97) (pc_q := 87) rfl rfl rfl (fun _ => ?_) (fun z => absurd (show ¬ (1 : Int32) = 0 by decide) z)
            refine ex_lo pm_M39 (pc_q := 98) (ls_q := [.ref 25, .int a0, .int a1, .int 1, .int 0, .int 0]) (st_q := [.ref 25]) rfl rfl rfl ?_
            refine ex_op pm_M39 (pc_q := 99) (st_q := [.int 2, .ref 25]) rfl rfl rfl ?_
            refine ex_lo pm_M39 (pc_q := 100) (ls_q := [.ref 25, .int a0, .int a1, .int 1, .int 0, .int 0]) (st_q := [.ref 25, .int 2, .ref 25]) rfl rfl rfl ?_
            refine ex_getK pm_M39 (pc_q := 103) (j := 15) (b := 30) rfl rfl rfl rfl rfl ?_
            refine ex_getI' pm_M39 (pc_q := 106) (v := S.1 30 3) rfl rfl rfl rfl rfl rfl ?_
            refine ex_call pm_M39 (pc_q := 109) (ix := 70) (callee := 21) (np := 2) (kd := 0) (ra := [.int (S.1 30 3), .int 2, .ref 25]) (rest := []) rfl rfl rfl rfl pm_M21 rfl rfl rfl rfl (fun d118 => (H21 _ d118 2 (S.1 30 3) S).mono (fun r S120 e => ?_))
            obtain ⟨rfl, h121⟩ := e
            show ex_P _ _ 39 109 [.ref 25, .int a0, .int a1, .int 1, .int 0, .int 0] [] S120 _
            exact ex_ret pm_M39 (r := none) rfl rfl (⟨rfl, v31 a0 a1 S c1 c66 c101 c102 c117 S120 h121⟩)
          · -- not
            refine ex_lo pm_M39 (pc_q := 57) (ls_q := [.ref 25, .int a0, .int a1, .int 1, .int 0, pm_no]) (st_q := [.int a1]) rfl rfl rfl ?_
            refine ex_op pm_M39 (pc_q := 58) (st_q := [.int 1, .int a1]) rfl rfl rfl ?_
            refine ex_icmp pm_M39 (t := 80) (pc_q := 61) rfl rfl rfl (fun c122 => ?_) (fun c122 => ?_)
            · -- ¬ a1 = 1
              refine ex_op pm_M39 (pc_q := 81) (st_q := [.int 0]) rfl rfl rfl ?_
              refine ex_lo pm_M39 (pc_q := 83) (ls_q := [.ref 25, .int a0, .int a1, .int 1, .int 0, .int 0]) (st_q := []) rfl rfl rfl ?_
              refine ex_lo pm_M39 (pc_q := 84) (ls_q := [.ref 25, .int a0, .int a1, .int 1, .int 0, .int 0]) (st_q := [.int 1]) rfl rfl rfl ?_
              refine ex_ifc pm_M39 (t := 97) (pc_q := 87) rfl rfl rfl (fun _ => ?_) (fun z => absurd (show ¬ (1 : Int32) = 0 by decide) z)
              refine ex_lo pm_M39 (pc_q := 98) (ls_q := [.ref 25, .int a0, .int a1, .int 1, .int 0, .int 0]) (st_q := [.ref 25]) rfl rfl rfl ?_
              refine ex_op pm_M39 (pc_q := 99) (st_q := [.int 2, .ref 25]) rfl rfl rfl ?_
              refine ex_lo pm_M39 (pc_q := 100) (ls_q := [.ref 25, .int a0, .int a1, .int 1, .int 0, .int 0]) (st_q := [.ref 25, .int 2, .ref 25]) rfl rfl rfl ?_
              refine ex_getK pm_M39 (pc_q := 103) (j := 15) (b := 30) rfl rfl rfl rfl rfl ?_
              refine ex_getI' pm_M39 (pc_q := 106) (v := S.1 30 3) rfl rfl rfl rfl rfl rfl ?_
              refine ex_call pm_M39 (pc_q := 109) (ix := 70) (callee := 21) (np := 2) (kd := 0) (ra := [.int (S.1 30 3), .int 2, .ref 25]) (rest := []) rfl rfl rfl rfl pm_M21 rfl rfl rfl rfl (fun d123 => (H21 _ d123 2 (S.1 30 3) S).mono (fun r S125 e => ?_))
              obtain ⟨rfl, h126⟩ := e
              show ex_P _ _ 39 109 [.ref 25, .int a0, .int a1, .int 1, .int 0, .int 0] [] S125 _
              exact ex_ret pm_M39 (r := none) rfl rfl (⟨rfl, v32 a0 a1 S c1 c66 c101 c102 c117 c122 S125 h126⟩)
            · -- not
              refine ex_lo pm_M39 (pc_q := 62) (ls_q := [.ref 25, .int a0, .int a1, .int 1, .int 0, pm_no]) (st_q := [.ref 25]) rfl rfl rfl ?_
              refine ex_getK pm_M39 (pc_q := 65) (j := 19) (b := 29) rfl rfl rfl rfl rfl ?_
              refine ex_op pm_M39 (pc_q := 66) (st_q := [.int 1, .ref 29]) rfl rfl rfl ?_
              refine ex_iald' pm_M39 (pc_q := 67) (v := S.1 29 1) rfl rfl rfl ?_
              refine ex_lo pm_M39 (pc_q := 68) (ls_q := [.ref 25, .int a0, .int a1, .int 1, .int 0, pm_no]) (st_q := [.ref 25, .int (S.1 29 1)]) rfl rfl rfl ?_
              refine ex_getK pm_M39 (pc_q := 71) (j := 19) (b := 29) rfl rfl rfl rfl rfl ?_
              refine ex_op pm_M39 (pc_q := 72) (st_q := [.int 0, .ref 29, .int (S.1 29 1)]) rfl rfl rfl ?_
              refine ex_iald' pm_M39 (pc_q := 73) (v := S.1 29 0) rfl rfl rfl ?_
              refine ex_icmp pm_M39 (t := 80) (pc_q := 76) rfl rfl rfl (fun c127 => ?_) (fun c127 => ?_)
              · -- ¬ S.1 29 1 = S.1 29 0
                refine ex_op pm_M39 (pc_q := 81) (st_q := [.int 0]) rfl rfl rfl ?_
                refine ex_lo pm_M39 (pc_q := 83) (ls_q := [.ref 25, .int a0, .int a1, .int 1, .int 0, .int 0]) (st_q := []) rfl rfl rfl ?_
                refine ex_lo pm_M39 (pc_q := 84) (ls_q := [.ref 25, .int a0, .int a1, .int 1, .int 0, .int 0]) (st_q := [.int 1]) rfl rfl rfl ?_
                refine ex_ifc pm_M39 (t := 97) (pc_q := 87) rfl rfl rfl (fun _ => ?_) (fun z => absurd (show ¬ (1 : Int32) = 0 by decide) z)
                refine ex_lo pm_M39 (pc_q := 98) (ls_q := [.ref 25, .int a0, .int a1, .int 1, .int 0, .int 0]) (st_q := [.ref 25]) rfl rfl rfl ?_
                refine ex_op pm_M39 (pc_q := 99) (st_q := [.int 2, .ref 25]) rfl rfl rfl ?_
                refine ex_lo pm_M39 (pc_q := 100) (ls_q := [.ref 25, .int a0, .int a1, .int 1, .int 0, .int 0]) (st_q := [.ref 25, .int 2, .ref 25]) rfl rfl rfl ?_
                refine ex_getK pm_M39 (pc_q := 103) (j := 15) (b := 30) rfl rfl rfl rfl rfl ?_
                refine ex_getI' pm_M39 (pc_q := 106) (v := S.1 30 3) rfl rfl rfl rfl rfl rfl ?_
                refine ex_call pm_M39 (pc_q := 109) (ix := 70) (callee := 21) (np := 2) (kd := 0) (ra := [.int (S.1 30 3), .int 2, .ref 25]) (rest := []) rfl rfl rfl rfl pm_M21 rfl rfl rfl rfl (fun d128 => (H21 _ d128 2 (S.1 30 3) S).mono (fun r S130 e => ?_))
                obtain ⟨rfl, h131⟩ := e
                show ex_P _ _ 39 109 [.ref 25, .int a0, .int a1, .int 1, .int 0, .int 0] [] S130 _
                exact ex_ret pm_M39 (r := none) rfl rfl (⟨rfl, v33 a0 a1 S c1 c66 c101 c102 c117 c122 c127 S130 h131⟩)
              · -- not
                refine ex_op pm_M39 (pc_q := 77) (st_q := [.int 1]) rfl rfl rfl ?_
                refine ex_br pm_M39 (pc_q := 81) (st_q := [.int 1]) rfl rfl ?_
                refine ex_lo pm_M39 (pc_q := 83) (ls_q := [.ref 25, .int a0, .int a1, .int 1, .int 0, .int 1]) (st_q := []) rfl rfl rfl ?_
                refine ex_lo pm_M39 (pc_q := 84) (ls_q := [.ref 25, .int a0, .int a1, .int 1, .int 0, .int 1]) (st_q := [.int 1]) rfl rfl rfl ?_
                refine ex_ifc pm_M39 (t := 97) (pc_q := 87) rfl rfl rfl (fun _ => ?_) (fun z => absurd (show ¬ (1 : Int32) = 0 by decide) z)
                refine ex_lo pm_M39 (pc_q := 98) (ls_q := [.ref 25, .int a0, .int a1, .int 1, .int 0, .int 1]) (st_q := [.ref 25]) rfl rfl rfl ?_
                refine ex_op pm_M39 (pc_q := 99) (st_q := [.int 2, .ref 25]) rfl rfl rfl ?_
                refine ex_lo pm_M39 (pc_q := 100) (ls_q := [.ref 25, .int a0, .int a1, .int 1, .int 0, .int 1]) (st_q := [.ref 25, .int 2, .ref 25]) rfl rfl rfl ?_
                refine ex_getK pm_M39 (pc_q := 103) (j := 15) (b := 30) rfl rfl rfl rfl rfl ?_
                refine ex_getI' pm_M39 (pc_q := 106) (v := S.1 30 3) rfl rfl rfl rfl rfl rfl ?_
                refine ex_call pm_M39 (pc_q := 109) (ix := 70) (callee := 21) (np := 2) (kd := 0) (ra := [.int (S.1 30 3), .int 2, .ref 25]) (rest := []) rfl rfl rfl rfl pm_M21 rfl rfl rfl rfl (fun d132 => (H21 _ d132 2 (S.1 30 3) S).mono (fun r S134 e => ?_))
                obtain ⟨rfl, h135⟩ := e
                show ex_P _ _ 39 109 [.ref 25, .int a0, .int a1, .int 1, .int 0, .int 1] [] S134 _
                exact ex_ret pm_M39 (r := none) rfl rfl (⟨rfl, v34 a0 a1 S c1 c66 c101 c102 c117 c122 c127 S134 h135⟩)
      · -- not
        refine ex_op pm_M39 (pc_q := 40) (st_q := [.int 1]) rfl rfl rfl ?_
        refine ex_br pm_M39 (pc_q := 44) (st_q := [.int 1]) rfl rfl ?_
        refine ex_lo pm_M39 (pc_q := 46) (ls_q := [.ref 25, .int a0, .int a1, .int 1, .int 1, pm_no]) (st_q := []) rfl rfl rfl ?_
        refine ex_lo pm_M39 (pc_q := 47) (ls_q := [.ref 25, .int a0, .int a1, .int 1, .int 1, pm_no]) (st_q := [.int a0]) rfl rfl rfl ?_
        refine ex_op pm_M39 (pc_q := 48) (st_q := [.int 2, .int a0]) rfl rfl rfl ?_
        refine ex_icmp pm_M39 (t := 56) (pc_q := 51) rfl rfl rfl (fun c136 => ?_) (fun c136 => ?_)
        · -- a0 = 2
          refine ex_lo pm_M39 (pc_q := 57) (ls_q := [.ref 25, .int a0, .int a1, .int 1, .int 1, pm_no]) (st_q := [.int a1]) rfl rfl rfl ?_
          refine ex_op pm_M39 (pc_q := 58) (st_q := [.int 1, .int a1]) rfl rfl rfl ?_
          refine ex_icmp pm_M39 (t := 80) (pc_q := 61) rfl rfl rfl (fun c137 => ?_) (fun c137 => ?_)
          · -- ¬ a1 = 1
            refine ex_op pm_M39 (pc_q := 81) (st_q := [.int 0]) rfl rfl rfl ?_
            refine ex_lo pm_M39 (pc_q := 83) (ls_q := [.ref 25, .int a0, .int a1, .int 1, .int 1, .int 0]) (st_q := []) rfl rfl rfl ?_
            refine ex_lo pm_M39 (pc_q := 84) (ls_q := [.ref 25, .int a0, .int a1, .int 1, .int 1, .int 0]) (st_q := [.int 1]) rfl rfl rfl ?_
            refine ex_ifc pm_M39 (t := 97) (pc_q := 87) rfl rfl rfl (fun _ => ?_) (fun z => absurd (show ¬ (1 : Int32) = 0 by decide) z)
            refine ex_lo pm_M39 (pc_q := 98) (ls_q := [.ref 25, .int a0, .int a1, .int 1, .int 1, .int 0]) (st_q := [.ref 25]) rfl rfl rfl ?_
            refine ex_op pm_M39 (pc_q := 99) (st_q := [.int 2, .ref 25]) rfl rfl rfl ?_
            refine ex_lo pm_M39 (pc_q := 100) (ls_q := [.ref 25, .int a0, .int a1, .int 1, .int 1, .int 0]) (st_q := [.ref 25, .int 2, .ref 25]) rfl rfl rfl ?_
            refine ex_getK pm_M39 (pc_q := 103) (j := 15) (b := 30) rfl rfl rfl rfl rfl ?_
            refine ex_getI' pm_M39 (pc_q := 106) (v := S.1 30 3) rfl rfl rfl rfl rfl rfl ?_
            refine ex_call pm_M39 (pc_q := 109) (ix := 70) (callee := 21) (np := 2) (kd := 0) (ra := [.int (S.1 30 3), .int 2, .ref 25]) (rest := []) rfl rfl rfl rfl pm_M21 rfl rfl rfl rfl (fun d138 => (H21 _ d138 2 (S.1 30 3) S).mono (fun r S140 e => ?_))
            obtain ⟨rfl, h141⟩ := e
            show ex_P _ _ 39 109 [.ref 25, .int a0, .int a1, .int 1, .int 1, .int 0] [] S140 _
            exact ex_ret pm_M39 (r := none) rfl rfl (⟨rfl, v35 a0 a1 S c1 c66 c101 c136 c137 S140 h141⟩)
          · -- not
            refine ex_lo pm_M39 (pc_q := 62) (ls_q := [.ref 25, .int a0, .int a1, .int 1, .int 1, pm_no]) (st_q := [.ref 25]) rfl rfl rfl ?_
            refine ex_getK pm_M39 (pc_q := 65) (j := 19) (b := 29) rfl rfl rfl rfl rfl ?_
            refine ex_op pm_M39 (pc_q := 66) (st_q := [.int 1, .ref 29]) rfl rfl rfl ?_
            refine ex_iald' pm_M39 (pc_q := 67) (v := S.1 29 1) rfl rfl rfl ?_
            refine ex_lo pm_M39 (pc_q := 68) (ls_q := [.ref 25, .int a0, .int a1, .int 1, .int 1, pm_no]) (st_q := [.ref 25, .int (S.1 29 1)]) rfl rfl rfl ?_
            refine ex_getK pm_M39 (pc_q := 71) (j := 19) (b := 29) rfl rfl rfl rfl rfl ?_
            refine ex_op pm_M39 (pc_q := 72) (st_q := [.int 0, .ref 29, .int (S.1 29 1)]) rfl rfl rfl ?_
            refine ex_iald' pm_M39 (pc_q := 73) (v := S.1 29 0) rfl rfl rfl ?_
            refine ex_icmp pm_M39 (t := 80) (pc_q := 76) rfl rfl rfl (fun c142 => ?_) (fun c142 => ?_)
            · -- ¬ S.1 29 1 = S.1 29 0
              refine ex_op pm_M39 (pc_q := 81) (st_q := [.int 0]) rfl rfl rfl ?_
              refine ex_lo pm_M39 (pc_q := 83) (ls_q := [.ref 25, .int a0, .int a1, .int 1, .int 1, .int 0]) (st_q := []) rfl rfl rfl ?_
              refine ex_lo pm_M39 (pc_q := 84) (ls_q := [.ref 25, .int a0, .int a1, .int 1, .int 1, .int 0]) (st_q := [.int 1]) rfl rfl rfl ?_
              refine ex_ifc pm_M39 (t := 97) (pc_q := 87) rfl rfl rfl (fun _ => ?_) (fun z => absurd (show ¬ (1 : Int32) = 0 by decide) z)
              refine ex_lo pm_M39 (pc_q := 98) (ls_q := [.ref 25, .int a0, .int a1, .int 1, .int 1, .int 0]) (st_q := [.ref 25]) rfl rfl rfl ?_
              refine ex_op pm_M39 (pc_q := 99) (st_q := [.int 2, .ref 25]) rfl rfl rfl ?_
              refine ex_lo pm_M39 (pc_q := 100) (ls_q := [.ref 25, .int a0, .int a1, .int 1, .int 1, .int 0]) (st_q := [.ref 25, .int 2, .ref 25]) rfl rfl rfl ?_
              refine ex_getK pm_M39 (pc_q := 103) (j := 15) (b := 30) rfl rfl rfl rfl rfl ?_
              refine ex_getI' pm_M39 (pc_q := 106) (v := S.1 30 3) rfl rfl rfl rfl rfl rfl ?_
              refine ex_call pm_M39 (pc_q := 109) (ix := 70) (callee := 21) (np := 2) (kd := 0) (ra := [.int (S.1 30 3), .int 2, .ref 25]) (rest := []) rfl rfl rfl rfl pm_M21 rfl rfl rfl rfl (fun d143 => (H21 _ d143 2 (S.1 30 3) S).mono (fun r S145 e => ?_))
              obtain ⟨rfl, h146⟩ := e
              show ex_P _ _ 39 109 [.ref 25, .int a0, .int a1, .int 1, .int 1, .int 0] [] S145 _
              exact ex_ret pm_M39 (r := none) rfl rfl (⟨rfl, v36 a0 a1 S c1 c66 c101 c136 c137 c142 S145 h146⟩)
            · -- not
              refine ex_op pm_M39 (pc_q := 77) (st_q := [.int 1]) rfl rfl rfl ?_
              refine ex_br pm_M39 (pc_q := 81) (st_q := [.int 1]) rfl rfl ?_
              refine ex_lo pm_M39 (pc_q := 83) (ls_q := [.ref 25, .int a0, .int a1, .int 1, .int 1, .int 1]) (st_q := []) rfl rfl rfl ?_
              refine ex_lo pm_M39 (pc_q := 84) (ls_q := [.ref 25, .int a0, .int a1, .int 1, .int 1, .int 1]) (st_q := [.int 1]) rfl rfl rfl ?_
              refine ex_ifc pm_M39 (t := 97) (pc_q := 87) rfl rfl rfl (fun _ => ?_) (fun z => absurd (show ¬ (1 : Int32) = 0 by decide) z)
              refine ex_lo pm_M39 (pc_q := 98) (ls_q := [.ref 25, .int a0, .int a1, .int 1, .int 1, .int 1]) (st_q := [.ref 25]) rfl rfl rfl ?_
              refine ex_op pm_M39 (pc_q := 99) (st_q := [.int 2, .ref 25]) rfl rfl rfl ?_
              refine ex_lo pm_M39 (pc_q := 100) (ls_q := [.ref 25, .int a0, .int a1, .int 1, .int 1, .int 1]) (st_q := [.ref 25, .int 2, .ref 25]) rfl rfl rfl ?_
              refine ex_getK pm_M39 (pc_q := 103) (j := 15) (b := 30) rfl rfl rfl rfl rfl ?_
              refine ex_getI' pm_M39 (pc_q := 106) (v := S.1 30 3) rfl rfl rfl rfl rfl rfl ?_
              refine ex_call pm_M39 (pc_q := 109) (ix := 70) (callee := 21) (np := 2) (kd := 0) (ra := [.int (S.1 30 3), .int 2, .ref 25]) (rest := []) rfl rfl rfl rfl pm_M21 rfl rfl rfl rfl (fun d147 => (H21 _ d147 2 (S.1 30 3) S).mono (fun r S149 e => ?_))
              obtain ⟨rfl, h150⟩ := e
              show ex_P _ _ 39 109 [.ref 25, .int a0, .int a1, .int 1, .int 1, .int 1] [] S149 _
              exact ex_ret pm_M39 (r := none) rfl rfl (⟨rfl, v37 a0 a1 S c1 c66 c101 c136 c137 c142 S149 h150⟩)
        · -- not
          refine ex_lo pm_M39 (pc_q := 52) (ls_q := [.ref 25, .int a0, .int a1, .int 1, .int 1, pm_no]) (st_q := [.int a0]) rfl rfl rfl ?_
          refine ex_op pm_M39 (pc_q := 53) (st_q := [.int 4, .int a0]) rfl rfl rfl ?_
          refine ex_icmp pm_M39 (t := 80) (pc_q := 56) rfl rfl rfl (fun c151 => ?_) (fun c151 => ?_)
          · -- ¬ a0 = 4
            refine ex_op pm_M39 (pc_q := 81) (st_q := [.int 0]) rfl rfl rfl ?_
            refine ex_lo pm_M39 (pc_q := 83) (ls_q := [.ref 25, .int a0, .int a1, .int 1, .int 1, .int 0]) (st_q := []) rfl rfl rfl ?_
            refine ex_lo pm_M39 (pc_q := 84) (ls_q := [.ref 25, .int a0, .int a1, .int 1, .int 1, .int 0]) (st_q := [.int 1]) rfl rfl rfl ?_
            refine ex_ifc pm_M39 (t := 97) (pc_q := 87) rfl rfl rfl (fun _ => ?_) (fun z => absurd (show ¬ (1 : Int32) = 0 by decide) z)
            refine ex_lo pm_M39 (pc_q := 98) (ls_q := [.ref 25, .int a0, .int a1, .int 1, .int 1, .int 0]) (st_q := [.ref 25]) rfl rfl rfl ?_
            refine ex_op pm_M39 (pc_q := 99) (st_q := [.int 2, .ref 25]) rfl rfl rfl ?_
            refine ex_lo pm_M39 (pc_q := 100) (ls_q := [.ref 25, .int a0, .int a1, .int 1, .int 1, .int 0]) (st_q := [.ref 25, .int 2, .ref 25]) rfl rfl rfl ?_
            refine ex_getK pm_M39 (pc_q := 103) (j := 15) (b := 30) rfl rfl rfl rfl rfl ?_
            refine ex_getI' pm_M39 (pc_q := 106) (v := S.1 30 3) rfl rfl rfl rfl rfl rfl ?_
            refine ex_call pm_M39 (pc_q := 109) (ix := 70) (callee := 21) (np := 2) (kd := 0) (ra := [.int (S.1 30 3), .int 2, .ref 25]) (rest := []) rfl rfl rfl rfl pm_M21 rfl rfl rfl rfl (fun d152 => (H21 _ d152 2 (S.1 30 3) S).mono (fun r S154 e => ?_))
            obtain ⟨rfl, h155⟩ := e
            show ex_P _ _ 39 109 [.ref 25, .int a0, .int a1, .int 1, .int 1, .int 0] [] S154 _
            exact ex_ret pm_M39 (r := none) rfl rfl (⟨rfl, v38 a0 a1 S c1 c66 c101 c136 c151 S154 h155⟩)
          · -- not
            refine ex_lo pm_M39 (pc_q := 57) (ls_q := [.ref 25, .int a0, .int a1, .int 1, .int 1, pm_no]) (st_q := [.int a1]) rfl rfl rfl ?_
            refine ex_op pm_M39 (pc_q := 58) (st_q := [.int 1, .int a1]) rfl rfl rfl ?_
            refine ex_icmp pm_M39 (t := 80) (pc_q := 61) rfl rfl rfl (fun c156 => ?_) (fun c156 => ?_)
            · -- ¬ a1 = 1
              refine ex_op pm_M39 (pc_q := 81) (st_q := [.int 0]) rfl rfl rfl ?_
              refine ex_lo pm_M39 (pc_q := 83) (ls_q := [.ref 25, .int a0, .int a1, .int 1, .int 1, .int 0]) (st_q := []) rfl rfl rfl ?_
              refine ex_lo pm_M39 (pc_q := 84) (ls_q := [.ref 25, .int a0, .int a1, .int 1, .int 1, .int 0]) (st_q := [.int 1]) rfl rfl rfl ?_
              refine ex_ifc pm_M39 (t := 97) (pc_q := 87) rfl rfl rfl (fun _ => ?_) (fun z => absurd (show ¬ (1 : Int32) = 0 by decide) z)
              refine ex_lo pm_M39 (pc_q := 98) (ls_q := [.ref 25, .int a0, .int a1, .int 1, .int 1, .int 0]) (st_q := [.ref 25]) rfl rfl rfl ?_
              refine ex_op pm_M39 (pc_q := 99) (st_q := [.int 2, .ref 25]) rfl rfl rfl ?_
              refine ex_lo pm_M39 (pc_q := 100) (ls_q := [.ref 25, .int a0, .int a1, .int 1, .int 1, .int 0]) (st_q := [.ref 25, .int 2, .ref 25]) rfl rfl rfl ?_
              refine ex_getK pm_M39 (pc_q := 103) (j := 15) (b := 30) rfl rfl rfl rfl rfl ?_
              refine ex_getI' pm_M39 (pc_q := 106) (v := S.1 30 3) rfl rfl rfl rfl rfl rfl ?_
              refine ex_call pm_M39 (pc_q := 109) (ix := 70) (callee := 21) (np := 2) (kd := 0) (ra := [.int (S.1 30 3), .int 2, .ref 25]) (rest := []) rfl rfl rfl rfl pm_M21 rfl rfl rfl rfl (fun d157 => (H21 _ d157 2 (S.1 30 3) S).mono (fun r S159 e => ?_))
              obtain ⟨rfl, h160⟩ := e
              show ex_P _ _ 39 109 [.ref 25, .int a0, .int a1, .int 1, .int 1, .int 0] [] S159 _
              exact ex_ret pm_M39 (r := none) rfl rfl (⟨rfl, v39 a0 a1 S c1 c66 c101 c136 c151 c156 S159 h160⟩)
            · -- not
              refine ex_lo pm_M39 (pc_q := 62) (ls_q := [.ref 25, .int a0, .int a1, .int 1, .int 1, pm_no]) (st_q := [.ref 25]) rfl rfl rfl ?_
              refine ex_getK pm_M39 (pc_q := 65) (j := 19) (b := 29) rfl rfl rfl rfl rfl ?_
              refine ex_op pm_M39 (pc_q := 66) (st_q := [.int 1, .ref 29]) rfl rfl rfl ?_
              refine ex_iald' pm_M39 (pc_q := 67) (v := S.1 29 1) rfl rfl rfl ?_
              refine ex_lo pm_M39 (pc_q := 68) (ls_q := [.ref 25, .int a0, .int a1, .int 1, .int 1, pm_no]) (st_q := [.ref 25, .int (S.1 29 1)]) rfl rfl rfl ?_
              refine ex_getK pm_M39 (pc_q := 71) (j := 19) (b := 29) rfl rfl rfl rfl rfl ?_
              refine ex_op pm_M39 (pc_q := 72) (st_q := [.int 0, .ref 29, .int (S.1 29 1)]) rfl rfl rfl ?_
              refine ex_iald' pm_M39 (pc_q := 73) (v := S.1 29 0) rfl rfl rfl ?_
              refine ex_icmp pm_M39 (t := 80) (pc_q := 76) rfl rfl rfl (fun c161 => ?_) (fun c161 => ?_)
              · -- ¬ S.1 29 1 = S.1 29 0
                refine ex_op pm_M39 (pc_q := 81) (st_q := [.int 0]) rfl rfl rfl ?_
                refine ex_lo pm_M39 (pc_q := 83) (ls_q := [.ref 25, .int a0, .int a1, .int 1, .int 1, .int 0]) (st_q := []) rfl rfl rfl ?_
                refine ex_lo pm_M39 (pc_q := 84) (ls_q := [.ref 25, .int a0, .int a1, .int 1, .int 1, .int 0]) (st_q := [.int 1]) rfl rfl rfl ?_
                refine ex_ifc pm_M39 (t := 97) (pc_q := 87) rfl rfl rfl (fun _ => ?_) (fun z => absurd (show ¬ (1 : Int32) = 0 by decide) z)
                refine ex_lo pm_M39 (pc_q := 98) (ls_q := [.ref 25, .int a0, .int a1, .int 1, .int 1, .int 0]) (st_q := [.ref 25]) rfl rfl rfl ?_
                refine ex_op pm_M39 (pc_q := 99) (st_q := [.int 2, .ref 25]) rfl rfl rfl ?_
                refine ex_lo pm_M39 (pc_q := 100) (ls_q := [.ref 25, .int a0, .int a1, .int 1, .int 1, .int 0]) (st_q := [.ref 25, .int 2, .ref 25]) rfl rfl rfl ?_
                refine ex_getK pm_M39 (pc_q := 103) (j := 15) (b := 30) rfl rfl rfl rfl rfl ?_
                refine ex_getI' pm_M39 (pc_q := 106) (v := S.1 30 3) rfl rfl rfl rfl rfl rfl ?_
                refine ex_call pm_M39 (pc_q := 109) (ix := 70) (callee := 21) (np := 2) (kd := 0) (ra := [.int (S.1 30 3), .int 2, .ref 25]) (rest := []) rfl rfl rfl rfl pm_M21 rfl rfl rfl rfl (fun d162 => (H21 _ d162 2 (S.1 30 3) S).mono (fun r S164 e => ?_))
                obtain ⟨rfl, h165⟩ := e
                show ex_P _ _ 39 109 [.ref 25, .int a0, .int a1, .int 1, .int 1, .int 0] [] S164 _
                exact ex_ret pm_M39 (r := none) rfl rfl (⟨rfl, v40 a0 a1 S c1 c66 c101 c136 c151 c156 c161 S164 h165⟩)
              · -- not
                refine ex_op pm_M39 (pc_q := 77) (st_q := [.int 1]) rfl rfl rfl ?_
                refine ex_br pm_M39 (pc_q := 81) (st_q := [.int 1]) rfl rfl ?_
                refine ex_lo pm_M39 (pc_q := 83) (ls_q := [.ref 25, .int a0, .int a1, .int 1, .int 1, .int 1]) (st_q := []) rfl rfl rfl ?_
                refine ex_lo pm_M39 (pc_q := 84) (ls_q := [.ref 25, .int a0, .int a1, .int 1, .int 1, .int 1]) (st_q := [.int 1]) rfl rfl rfl ?_
                refine ex_ifc pm_M39 (t := 97) (pc_q := 87) rfl rfl rfl (fun _ => ?_) (fun z => absurd (show ¬ (1 : Int32) = 0 by decide) z)
                refine ex_lo pm_M39 (pc_q := 98) (ls_q := [.ref 25, .int a0, .int a1, .int 1, .int 1, .int 1]) (st_q := [.ref 25]) rfl rfl rfl ?_
                refine ex_op pm_M39 (pc_q := 99) (st_q := [.int 2, .ref 25]) rfl rfl rfl ?_
                refine ex_lo pm_M39 (pc_q := 100) (ls_q := [.ref 25, .int a0, .int a1, .int 1, .int 1, .int 1]) (st_q := [.ref 25, .int 2, .ref 25]) rfl rfl rfl ?_
                refine ex_getK pm_M39 (pc_q := 103) (j := 15) (b := 30) rfl rfl rfl rfl rfl ?_
                refine ex_getI' pm_M39 (pc_q := 106) (v := S.1 30 3) rfl rfl rfl rfl rfl rfl ?_
                refine ex_call pm_M39 (pc_q := 109) (ix := 70) (callee := 21) (np := 2) (kd := 0) (ra := [.int (S.1 30 3), .int 2, .ref 25]) (rest := []) rfl rfl rfl rfl pm_M21 rfl rfl rfl rfl (fun d166 => (H21 _ d166 2 (S.1 30 3) S).mono (fun r S168 e => ?_))
                obtain ⟨rfl, h169⟩ := e
                show ex_P _ _ 39 109 [.ref 25, .int a0, .int a1, .int 1, .int 1, .int 1] [] S168 _
                exact ex_ret pm_M39 (r := none) rfl rfl (⟨rfl, v41 a0 a1 S c1 c66 c101 c136 c151 c156 c161 S168 h169⟩)
set_option maxRecDepth 100000 in
set_option maxHeartbeats 4000000 in
/-- SilentTable$TextReader.store -/
theorem ev41 {C : Nat → Int32 → Int32 → ex_S → Int32 → ex_S → Prop} 
    (v0 : ∀ (a0 : Nat) (a1 : Int32) (a2 : Int32) (S : ex_S), C a0 a1 a2 S (a1 + 1) (ex_cp S 29 0 a0 (((a1 * 4) + a2).toNatClampNeg) ((4 - a2).toNatClampNeg))) : es41 C := by
  intro N d a0 a1 a2 S
  refine ex_lo pm_M41 (pc_q := 1) (ls_q := [.ref 25, .ref a0, .int a1, .int a2]) (st_q := [.ref 25]) rfl rfl rfl ?_
  refine ex_getK pm_M41 (pc_q := 4) (j := 19) (b := 29) rfl rfl rfl rfl rfl ?_
  refine ex_op pm_M41 (pc_q := 5) (st_q := [.int 0, .ref 29]) rfl rfl rfl ?_
  refine ex_lo pm_M41 (pc_q := 6) (ls_q := [.ref 25, .ref a0, .int a1, .int a2]) (st_q := [.ref a0, .int 0, .ref 29]) rfl rfl rfl ?_
  refine ex_lo pm_M41 (pc_q := 7) (ls_q := [.ref 25, .ref a0, .int a1, .int a2]) (st_q := [.int a1, .ref a0, .int 0, .ref 29]) rfl rfl rfl ?_
  refine ex_op pm_M41 (pc_q := 8) (st_q := [.int 4, .int a1, .ref a0, .int 0, .ref 29]) rfl rfl rfl ?_
  refine ex_op pm_M41 (pc_q := 9) (st_q := [.int (a1 * 4), .ref a0, .int 0, .ref 29]) rfl rfl rfl ?_
  refine ex_lo pm_M41 (pc_q := 10) (ls_q := [.ref 25, .ref a0, .int a1, .int a2]) (st_q := [.int a2, .int (a1 * 4), .ref a0, .int 0, .ref 29]) rfl rfl rfl ?_
  refine ex_op pm_M41 (pc_q := 11) (st_q := [.int ((a1 * 4) + a2), .ref a0, .int 0, .ref 29]) rfl rfl rfl ?_
  refine ex_op pm_M41 (pc_q := 12) (st_q := [.int 4, .int ((a1 * 4) + a2), .ref a0, .int 0, .ref 29]) rfl rfl rfl ?_
  refine ex_lo pm_M41 (pc_q := 13) (ls_q := [.ref 25, .ref a0, .int a1, .int a2]) (st_q := [.int a2, .int 4, .int ((a1 * 4) + a2), .ref a0, .int 0, .ref 29]) rfl rfl rfl ?_
  refine ex_op pm_M41 (pc_q := 14) (st_q := [.int (4 - a2), .int ((a1 * 4) + a2), .ref a0, .int 0, .ref 29]) rfl rfl rfl ?_
  refine ex_copy pm_M41 (pc_q := 17) rfl rfl rfl rfl ?_
  show ex_P _ _ 41 17 [.ref 25, .ref a0, .int a1, .int a2] [] (ex_cp S 29 0 a0 (((a1 * 4) + a2).toNatClampNeg) ((4 - a2).toNatClampNeg)) _
  refine ex_lo pm_M41 (pc_q := 18) (ls_q := [.ref 25, .ref a0, .int a1, .int a2]) (st_q := [.int a1]) rfl rfl rfl ?_
  refine ex_op pm_M41 (pc_q := 19) (st_q := [.int 1, .int a1]) rfl rfl rfl ?_
  refine ex_op pm_M41 (pc_q := 20) (st_q := [.int (a1 + 1)]) rfl rfl rfl ?_
  exact ex_retI pm_M41 rfl (⟨_, rfl, v0 a0 a1 a2 S⟩)
set_option maxRecDepth 100000 in
set_option maxHeartbeats 4000000 in
/-- SilentTable$TextReader.keepDeedOrLaw -/
theorem ev42 {C : Int32 → ex_S → ex_S → Prop} {C41 : Nat → Int32 → Int32 → ex_S → Int32 → ex_S → Prop} (H41 : es41 C41) 
    (v0 : ∀ (a0 : Int32) (S : ex_S), 7 ≤ a0 → ∀ (r4 : Int32) (S5 : ex_S), C41 26 (S.1 25 4) 1 (ex_sx S 26 (((S.1 25 4) * 4).toNatClampNeg) (a0 - 7)) r4 S5 → C a0 S (ex_sx S5 25 4 r4)) 
    (v1 : ∀ (a0 : Int32) (S : ex_S), ¬ (7 ≤ a0) → ¬ a0 = 4 → ∀ (r10 : Int32) (S11 : ex_S), C41 26 (S.1 25 4) 1 (ex_sx (ex_sx S 25 9 (if (S.1 25 9) < (S.1 29 0) then (S.1 29 0) else (S.1 25 9))) 26 (((S.1 25 4) * 4).toNatClampNeg) (a0 - 4)) r10 S11 → C a0 S (ex_sx S11 25 4 r10)) 
    (v2 : ∀ (a0 : Int32) (S : ex_S), ¬ (7 ≤ a0) → ¬ (¬ a0 = 4) → ∀ (r15 : Int32) (S16 : ex_S), C41 26 (S.1 25 4) 1 (ex_sx (ex_sx (ex_sx S 25 9 (if (S.1 25 9) < (S.1 29 0) then (S.1 29 0) else (S.1 25 9))) 25 9 (if (if (S.1 25 9) < (S.1 29 0) then (S.1 29 0) else (S.1 25 9)) < (S.1 29 1) then (S.1 29 1) else (if (S.1 25 9) < (S.1 29 0) then (S.1 29 0) else (S.1 25 9)))) 26 (((S.1 25 4) * 4).toNatClampNeg) (a0 - 4)) r15 S16 → C a0 S (ex_sx S16 25 4 r15)) : es42 C := by
  intro N d a0 S
  refine ex_lo pm_M42 (pc_q := 1) (ls_q := [.ref 25, .int a0]) (st_q := [.int a0]) rfl rfl rfl ?_
  refine ex_op pm_M42 (pc_q := 3) (st_q := [.int 7, .int a0]) rfl rfl rfl ?_
  refine ex_icmp pm_M42 (t := 45) (pc_q := 6) rfl rfl rfl (fun c1 => ?_) (fun c1 => ?_)
  · -- 7 ≤ a0
    refine ex_lo pm_M42 (pc_q := 46) (ls_q := [.ref 25, .int a0]) (st_q := [.ref 25]) rfl rfl rfl ?_
    refine ex_getK pm_M42 (pc_q := 49) (j := 16) (b := 26) rfl rfl rfl rfl rfl ?_
    refine ex_lo pm_M42 (pc_q := 50) (ls_q := [.ref 25, .int a0]) (st_q := [.ref 25, .ref 26]) rfl rfl rfl ?_
    refine ex_getI' pm_M42 (pc_q := 53) (v := S.1 25 4) rfl rfl rfl rfl rfl rfl ?_
    refine ex_op pm_M42 (pc_q := 54) (st_q := [.int 4, .int (S.1 25 4), .ref 26]) rfl rfl rfl ?_
    refine ex_op pm_M42 (pc_q := 55) (st_q := [.int ((S.1 25 4) * 4), .ref 26]) rfl rfl rfl ?_
    refine ex_lo pm_M42 (pc_q := 56) (ls_q := [.ref 25, .int a0]) (st_q := [.int a0, .int ((S.1 25 4) * 4), .ref 26]) rfl rfl rfl ?_
    refine ex_op pm_M42 (pc_q := 58) (st_q := [.int 7, .int a0, .int ((S.1 25 4) * 4), .ref 26]) rfl rfl rfl ?_
    refine ex_icmp pm_M42 (t := 67) (pc_q := 61) rfl rfl rfl (fun _ => ?_) (fun z => absurd c1 z)
    refine ex_lo pm_M42 (pc_q := 68) (ls_q := [.ref 25, .int a0]) (st_q := [.int a0, .int ((S.1 25 4) * 4), .ref 26]) rfl rfl rfl ?_
    refine ex_op pm_M42 (pc_q := 70) (st_q := [.int 7, .int a0, .int ((S.1 25 4) * 4), .ref 26]) rfl rfl rfl ?_
    refine ex_op pm_M42 (pc_q := 71) (st_q := [.int (a0 - 7), .int ((S.1 25 4) * 4), .ref 26]) rfl rfl rfl ?_
    refine ex_iast pm_M42 (pc_q := 72) rfl rfl ?_
    refine ex_lo pm_M42 (pc_q := 73) (ls_q := [.ref 25, .int a0]) (st_q := [.ref 25]) rfl rfl rfl ?_
    refine ex_lo pm_M42 (pc_q := 74) (ls_q := [.ref 25, .int a0]) (st_q := [.ref 25, .ref 25]) rfl rfl rfl ?_
    refine ex_lo pm_M42 (pc_q := 75) (ls_q := [.ref 25, .int a0]) (st_q := [.ref 25, .ref 25, .ref 25]) rfl rfl rfl ?_
    refine ex_getK pm_M42 (pc_q := 78) (j := 16) (b := 26) rfl rfl rfl rfl rfl ?_
    refine ex_lo pm_M42 (pc_q := 79) (ls_q := [.ref 25, .int a0]) (st_q := [.ref 25, .ref 26, .ref 25, .ref 25]) rfl rfl rfl ?_
    refine ex_getI' pm_M42 (pc_q := 82) (v := S.1 25 4) rfl rfl rfl rfl rfl rfl ?_
    refine ex_op pm_M42 (pc_q := 83) (st_q := [.int 1, .int (S.1 25 4), .ref 26, .ref 25, .ref 25]) rfl rfl rfl ?_
    refine ex_call pm_M42 (pc_q := 86) (ix := 126) (callee := 41) (np := 3) (kd := 0) (ra := [.int 1, .int (S.1 25 4), .ref 26, .ref 25]) (rest := [.ref 25]) rfl rfl rfl rfl pm_M41 rfl rfl rfl rfl (fun d3 => (H41 _ d3 26 (S.1 25 4) 1 (ex_sx S 26 (((S.1 25 4) * 4).toNatClampNeg) (a0 - 7))).mono (fun r S5 e => ?_))
    obtain ⟨r4, rfl, h6⟩ := e
    show ex_P _ _ 42 86 [.ref 25, .int a0] [.int r4, .ref 25] S5 _
    refine ex_putI pm_M42 (pc_q := 89) rfl rfl rfl rfl rfl ?_
    exact ex_ret pm_M42 (r := none) rfl rfl (⟨rfl, v0 a0 S c1 r4 S5 h6⟩)
  · -- not
    refine ex_lo pm_M42 (pc_q := 7) (ls_q := [.ref 25, .int a0]) (st_q := [.ref 25]) rfl rfl rfl ?_
    refine ex_lo pm_M42 (pc_q := 8) (ls_q := [.ref 25, .int a0]) (st_q := [.ref 25, .ref 25]) rfl rfl rfl ?_
    refine ex_getI' pm_M42 (pc_q := 11) (v := S.1 25 9) rfl rfl rfl rfl rfl rfl ?_
    refine ex_lo pm_M42 (pc_q := 12) (ls_q := [.ref 25, .int a0]) (st_q := [.ref 25, .int (S.1 25 9), .ref 25]) rfl rfl rfl ?_
    refine ex_getK pm_M42 (pc_q := 15) (j := 19) (b := 29) rfl rfl rfl rfl rfl ?_
    refine ex_op pm_M42 (pc_q := 16) (st_q := [.int 0, .ref 29, .int (S.1 25 9), .ref 25]) rfl rfl rfl ?_
    refine ex_iald' pm_M42 (pc_q := 17) (v := S.1 29 0) rfl rfl rfl ?_
    refine ex_max pm_M42 (pc_q := 20) rfl rfl rfl rfl ?_
    refine ex_putI pm_M42 (pc_q := 23) rfl rfl rfl rfl rfl ?_
    refine ex_lo pm_M42 (pc_q := 24) (ls_q := [.ref 25, .int a0]) (st_q := [.int a0]) rfl rfl rfl ?_
    refine ex_op pm_M42 (pc_q := 25) (st_q := [.int 4, .int a0]) rfl rfl rfl ?_
    refine ex_icmp pm_M42 (t := 45) (pc_q := 28) rfl rfl rfl (fun c7 => ?_) (fun c7 => ?_)
    · -- ¬ a0 = 4
      refine ex_lo pm_M42 (pc_q := 46) (ls_q := [.ref 25, .int a0]) (st_q := [.ref 25]) rfl rfl rfl ?_
      refine ex_getK pm_M42 (pc_q := 49) (j := 16) (b := 26) rfl rfl rfl rfl rfl ?_
      refine ex_lo pm_M42 (pc_q := 50) (ls_q := [.ref 25, .int a0]) (st_q := [.ref 25, .ref 26]) rfl rfl rfl ?_
      refine ex_getI' pm_M42 (pc_q := 53) (v := S.1 25 4) rfl rfl rfl rfl rfl rfl ?_
      refine ex_op pm_M42 (pc_q := 54) (st_q := [.int 4, .int (S.1 25 4), .ref 26]) rfl rfl rfl ?_
      refine ex_op pm_M42 (pc_q := 55) (st_q := [.int ((S.1 25 4) * 4), .ref 26]) rfl rfl rfl ?_
      refine ex_lo pm_M42 (pc_q := 56) (ls_q := [.ref 25, .int a0]) (st_q := [.int a0, .int ((S.1 25 4) * 4), .ref 26]) rfl rfl rfl ?_
      refine ex_op pm_M42 (pc_q := 58) (st_q := [.int 7, .int a0, .int ((S.1 25 4) * 4), .ref 26]) rfl rfl rfl ?_
      refine ex_icmp pm_M42 (t := 67) (pc_q := 61) rfl rfl rfl (fun z => absurd z c1) (fun _ => ?_)
      refine ex_lo pm_M42 (pc_q := 62) (ls_q := [.ref 25, .int a0]) (st_q := [.int a0, .int ((S.1 25 4) * 4), .ref 26]) rfl rfl rfl ?_
      refine ex_op pm_M42 (pc_q := 63) (st_q := [.int 4, .int a0, .int ((S.1 25 4) * 4), .ref 26]) rfl rfl rfl ?_
      refine ex_op pm_M42 (pc_q := 64) (st_q := [.int (a0 - 4), .int ((S.1 25 4) * 4), .ref 26]) rfl rfl rfl ?_
      refine ex_br pm_M42 (pc_q := 71) (st_q := [.int (a0 - 4), .int ((S.1 25 4) * 4), .ref 26]) rfl rfl ?_
      refine ex_iast pm_M42 (pc_q := 72) rfl rfl ?_
      refine ex_lo pm_M42 (pc_q := 73) (ls_q := [.ref 25, .int a0]) (st_q := [.ref 25]) rfl rfl rfl ?_
      refine ex_lo pm_M42 (pc_q := 74) (ls_q := [.ref 25, .int a0]) (st_q := [.ref 25, .ref 25]) rfl rfl rfl ?_
      refine ex_lo pm_M42 (pc_q := 75) (ls_q := [.ref 25, .int a0]) (st_q := [.ref 25, .ref 25, .ref 25]) rfl rfl rfl ?_
      refine ex_getK pm_M42 (pc_q := 78) (j := 16) (b := 26) rfl rfl rfl rfl rfl ?_
      refine ex_lo pm_M42 (pc_q := 79) (ls_q := [.ref 25, .int a0]) (st_q := [.ref 25, .ref 26, .ref 25, .ref 25]) rfl rfl rfl ?_
      refine ex_getI' pm_M42 (pc_q := 82) (v := S.1 25 4) rfl rfl rfl rfl rfl rfl ?_
      refine ex_op pm_M42 (pc_q := 83) (st_q := [.int 1, .int (S.1 25 4), .ref 26, .ref 25, .ref 25]) rfl rfl rfl ?_
      refine ex_call pm_M42 (pc_q := 86) (ix := 126) (callee := 41) (np := 3) (kd := 0) (ra := [.int 1, .int (S.1 25 4), .ref 26, .ref 25]) (rest := [.ref 25]) rfl rfl rfl rfl pm_M41 rfl rfl rfl rfl (fun d9 => (H41 _ d9 26 (S.1 25 4) 1 (ex_sx (ex_sx S 25 9 (if (S.1 25 9) < (S.1 29 0) then (S.1 29 0) else (S.1 25 9))) 26 (((S.1 25 4) * 4).toNatClampNeg) (a0 - 4))).mono (fun r S11 e => ?_))
      obtain ⟨r10, rfl, h12⟩ := e
      show ex_P _ _ 42 86 [.ref 25, .int a0] [.int r10, .ref 25] S11 _
      refine ex_putI pm_M42 (pc_q := 89) rfl rfl rfl rfl rfl ?_
      exact ex_ret pm_M42 (r := none) rfl rfl (⟨rfl, v1 a0 S c1 c7 r10 S11 h12⟩)
    · -- not
      refine ex_lo pm_M42 (pc_q := 29) (ls_q := [.ref 25, .int a0]) (st_q := [.ref 25]) rfl rfl rfl ?_
      refine ex_lo pm_M42 (pc_q := 30) (ls_q := [.ref 25, .int a0]) (st_q := [.ref 25, .ref 25]) rfl rfl rfl ?_
      refine ex_getI' pm_M42 (pc_q := 33) (v := if (S.1 25 9) < (S.1 29 0) then (S.1 29 0) else (S.1 25 9)) rfl rfl rfl rfl rfl rfl ?_
      refine ex_lo pm_M42 (pc_q := 34) (ls_q := [.ref 25, .int a0]) (st_q := [.ref 25, .int (if (S.1 25 9) < (S.1 29 0) then (S.1 29 0) else (S.1 25 9)), .ref 25]) rfl rfl rfl ?_
      refine ex_getK pm_M42 (pc_q := 37) (j := 19) (b := 29) rfl rfl rfl rfl rfl ?_
      refine ex_op pm_M42 (pc_q := 38) (st_q := [.int 1, .ref 29, .int (if (S.1 25 9) < (S.1 29 0) then (S.1 29 0) else (S.1 25 9)), .ref 25]) rfl rfl rfl ?_
      refine ex_iald' pm_M42 (pc_q := 39) (v := S.1 29 1) rfl rfl rfl ?_
      refine ex_max pm_M42 (pc_q := 42) rfl rfl rfl rfl ?_
      refine ex_putI pm_M42 (pc_q := 45) rfl rfl rfl rfl rfl ?_
      refine ex_lo pm_M42 (pc_q := 46) (ls_q := [.ref 25, .int a0]) (st_q := [.ref 25]) rfl rfl rfl ?_
      refine ex_getK pm_M42 (pc_q := 49) (j := 16) (b := 26) rfl rfl rfl rfl rfl ?_
      refine ex_lo pm_M42 (pc_q := 50) (ls_q := [.ref 25, .int a0]) (st_q := [.ref 25, .ref 26]) rfl rfl rfl ?_
      refine ex_getI' pm_M42 (pc_q := 53) (v := S.1 25 4) rfl rfl rfl rfl rfl rfl ?_
      refine ex_op pm_M42 (pc_q := 54) (st_q := [.int 4, .int (S.1 25 4), .ref 26]) rfl rfl rfl ?_
      refine ex_op pm_M42 (pc_q := 55) (st_q := [.int ((S.1 25 4) * 4), .ref 26]) rfl rfl rfl ?_
      refine ex_lo pm_M42 (pc_q := 56) (ls_q := [.ref 25, .int a0]) (st_q := [.int a0, .int ((S.1 25 4) * 4), .ref 26]) rfl rfl rfl ?_
      refine ex_op pm_M42 (pc_q := 58) (st_q := [.int 7, .int a0, .int ((S.1 25 4) * 4), .ref 26]) rfl rfl rfl ?_
      refine ex_icmp pm_M42 (t := 67) (pc_q := 61) rfl rfl rfl (fun z => absurd z c1) (fun _ => ?_)
      refine ex_lo pm_M42 (pc_q := 62) (ls_q := [.ref 25, .int a0]) (st_q := [.int a0, .int ((S.1 25 4) * 4), .ref 26]) rfl rfl rfl ?_
      refine ex_op pm_M42 (pc_q := 63) (st_q := [.int 4, .int a0, .int ((S.1 25 4) * 4), .ref 26]) rfl rfl rfl ?_
      refine ex_op pm_M42 (pc_q := 64) (st_q := [.int (a0 - 4), .int ((S.1 25 4) * 4), .ref 26]) rfl rfl rfl ?_
      refine ex_br pm_M42 (pc_q := 71) (st_q := [.int (a0 - 4), .int ((S.1 25 4) * 4), .ref 26]) rfl rfl ?_
      refine ex_iast pm_M42 (pc_q := 72) rfl rfl ?_
      refine ex_lo pm_M42 (pc_q := 73) (ls_q := [.ref 25, .int a0]) (st_q := [.ref 25]) rfl rfl rfl ?_
      refine ex_lo pm_M42 (pc_q := 74) (ls_q := [.ref 25, .int a0]) (st_q := [.ref 25, .ref 25]) rfl rfl rfl ?_
      refine ex_lo pm_M42 (pc_q := 75) (ls_q := [.ref 25, .int a0]) (st_q := [.ref 25, .ref 25, .ref 25]) rfl rfl rfl ?_
      refine ex_getK pm_M42 (pc_q := 78) (j := 16) (b := 26) rfl rfl rfl rfl rfl ?_
      refine ex_lo pm_M42 (pc_q := 79) (ls_q := [.ref 25, .int a0]) (st_q := [.ref 25, .ref 26, .ref 25, .ref 25]) rfl rfl rfl ?_
      refine ex_getI' pm_M42 (pc_q := 82) (v := S.1 25 4) rfl rfl rfl rfl rfl rfl ?_
      refine ex_op pm_M42 (pc_q := 83) (st_q := [.int 1, .int (S.1 25 4), .ref 26, .ref 25, .ref 25]) rfl rfl rfl ?_
      refine ex_call pm_M42 (pc_q := 86) (ix := 126) (callee := 41) (np := 3) (kd := 0) (ra := [.int 1, .int (S.1 25 4), .ref 26, .ref 25]) (rest := [.ref 25]) rfl rfl rfl rfl pm_M41 rfl rfl rfl rfl (fun d14 => (H41 _ d14 26 (S.1 25 4) 1 (ex_sx (ex_sx (ex_sx S 25 9 (if (S.1 25 9) < (S.1 29 0) then (S.1 29 0) else (S.1 25 9))) 25 9 (if (if (S.1 25 9) < (S.1 29 0) then (S.1 29 0) else (S.1 25 9)) < (S.1 29 1) then (S.1 29 1) else (if (S.1 25 9) < (S.1 29 0) then (S.1 29 0) else (S.1 25 9)))) 26 (((S.1 25 4) * 4).toNatClampNeg) (a0 - 4))).mono (fun r S16 e => ?_))
      obtain ⟨r15, rfl, h17⟩ := e
      show ex_P _ _ 42 86 [.ref 25, .int a0] [.int r15, .ref 25] S16 _
      refine ex_putI pm_M42 (pc_q := 89) rfl rfl rfl rfl rfl ?_
      exact ex_ret pm_M42 (r := none) rfl rfl (⟨rfl, v2 a0 S c1 c7 r15 S16 h17⟩)
set_option maxRecDepth 100000 in
set_option maxHeartbeats 4000000 in
/-- SilentTable$TextReader.keepLine -/
theorem ev40 {C : Int32 → ex_S → ex_S → Prop} {C41 : Nat → Int32 → Int32 → ex_S → Int32 → ex_S → Prop} {C42 : Int32 → ex_S → ex_S → Prop} (H41 : es41 C41) (H42 : es42 C42) 
    (v0 : ∀ (a0 : Int32) (S : ex_S), S.1 25 1 = 0 → a0 = 0 → ∀ (r6 : Int32) (S7 : ex_S), C41 26 (S.1 25 4) 0 S r6 S7 → C a0 S (ex_sx S7 25 4 r6)) 
    (v1 : ∀ (a0 : Int32) (S : ex_S), S.1 25 1 = 0 → ¬ (a0 = 0) → a0 = 1 → ∀ (r11 : Int32) (S12 : ex_S), C41 27 (S.1 25 6) 0 S r11 S12 → C a0 S (ex_sx S12 25 6 r11)) 
    (v2 : ∀ (a0 : Int32) (S : ex_S), S.1 25 1 = 0 → ¬ (a0 = 0) → ¬ (a0 = 1) → a0 = 2 → C a0 S (ex_sx S 28 ((S.1 29 0).toNatClampNeg) ((S.1 28 ((S.1 29 0).toNatClampNeg)) ||| (1 <<< ((S.1 29 1) &&& 31))))) 
    (v3 : ∀ (a0 : Int32) (S : ex_S), S.1 25 1 = 0 → ¬ (a0 = 0) → ¬ (a0 = 1) → ¬ (a0 = 2) → a0 = 3 → C a0 S (ex_sx S 25 8 (S.1 29 0))) 
    (v4 : ∀ (a0 : Int32) (S : ex_S), S.1 25 1 = 0 → ¬ (a0 = 0) → ¬ (a0 = 1) → ¬ (a0 = 2) → ¬ (a0 = 3) → ∀ (S18 : ex_S), C42 a0 S S18 → C a0 S S18) 
    (v5 : ∀ (a0 : Int32) (S : ex_S), ¬ (S.1 25 1 = 0) → C a0 S S) : es40 C := by
  intro N d a0 S
  refine ex_lo pm_M40 (pc_q := 1) (ls_q := [.ref 25, .int a0]) (st_q := [.ref 25]) rfl rfl rfl ?_
  refine ex_getI' pm_M40 (pc_q := 4) (v := S.1 25 1) rfl rfl rfl rfl rfl rfl ?_
  refine ex_ifc pm_M40 (t := 8) (pc_q := 7) rfl rfl rfl (fun c1 => ?_) (fun c1 => ?_)
  · -- S.1 25 1 = 0
    refine ex_lo pm_M40 (pc_q := 9) (ls_q := [.ref 25, .int a0]) (st_q := [.int a0]) rfl rfl rfl ?_
    refine ex_sw pm_M40 rfl rfl rfl rfl rfl (fun _ _ _ => rfl) (fun z2 hz3 => ?_)
    by_cases c4 : a0 = 0
    · rw [c4] at hz3
      cases (show some (40, []) = some z2 from hz3)
      show ex_P _ _ 40 40 [.ref 25, .int a0] [] S _
      refine ex_lo pm_M40 (pc_q := 41) (ls_q := [.ref 25, .int a0]) (st_q := [.ref 25]) rfl rfl rfl ?_
      refine ex_lo pm_M40 (pc_q := 42) (ls_q := [.ref 25, .int a0]) (st_q := [.ref 25, .ref 25]) rfl rfl rfl ?_
      refine ex_lo pm_M40 (pc_q := 43) (ls_q := [.ref 25, .int a0]) (st_q := [.ref 25, .ref 25, .ref 25]) rfl rfl rfl ?_
      refine ex_getK pm_M40 (pc_q := 46) (j := 16) (b := 26) rfl rfl rfl rfl rfl ?_
      refine ex_lo pm_M40 (pc_q := 47) (ls_q := [.ref 25, .int a0]) (st_q := [.ref 25, .ref 26, .ref 25, .ref 25]) rfl rfl rfl ?_
      refine ex_getI' pm_M40 (pc_q := 50) (v := S.1 25 4) rfl rfl rfl rfl rfl rfl ?_
      refine ex_op pm_M40 (pc_q := 51) (st_q := [.int 0, .int (S.1 25 4), .ref 26, .ref 25, .ref 25]) rfl rfl rfl ?_
      refine ex_call pm_M40 (pc_q := 54) (ix := 126) (callee := 41) (np := 3) (kd := 0) (ra := [.int 0, .int (S.1 25 4), .ref 26, .ref 25]) (rest := [.ref 25]) rfl rfl rfl rfl pm_M41 rfl rfl rfl rfl (fun d5 => (H41 _ d5 26 (S.1 25 4) 0 S).mono (fun r S7 e => ?_))
      obtain ⟨r6, rfl, h8⟩ := e
      show ex_P _ _ 40 54 [.ref 25, .int a0] [.int r6, .ref 25] S7 _
      refine ex_putI pm_M40 (pc_q := 57) rfl rfl rfl rfl rfl ?_
      refine ex_br pm_M40 (pc_q := 123) (st_q := []) rfl rfl ?_
      exact ex_ret pm_M40 (r := none) rfl rfl (⟨rfl, v0 a0 S c1 c4 r6 S7 h8⟩)
    by_cases c9 : a0 = 1
    · rw [c9] at hz3
      cases (show some (60, []) = some z2 from hz3)
      show ex_P _ _ 40 60 [.ref 25, .int a0] [] S _
      refine ex_lo pm_M40 (pc_q := 61) (ls_q := [.ref 25, .int a0]) (st_q := [.ref 25]) rfl rfl rfl ?_
      refine ex_lo pm_M40 (pc_q := 62) (ls_q := [.ref 25, .int a0]) (st_q := [.ref 25, .ref 25]) rfl rfl rfl ?_
      refine ex_lo pm_M40 (pc_q := 63) (ls_q := [.ref 25, .int a0]) (st_q := [.ref 25, .ref 25, .ref 25]) rfl rfl rfl ?_
      refine ex_getK pm_M40 (pc_q := 66) (j := 17) (b := 27) rfl rfl rfl rfl rfl ?_
      refine ex_lo pm_M40 (pc_q := 67) (ls_q := [.ref 25, .int a0]) (st_q := [.ref 25, .ref 27, .ref 25, .ref 25]) rfl rfl rfl ?_
      refine ex_getI' pm_M40 (pc_q := 70) (v := S.1 25 6) rfl rfl rfl rfl rfl rfl ?_
      refine ex_op pm_M40 (pc_q := 71) (st_q := [.int 0, .int (S.1 25 6), .ref 27, .ref 25, .ref 25]) rfl rfl rfl ?_
      refine ex_call pm_M40 (pc_q := 74) (ix := 126) (callee := 41) (np := 3) (kd := 0) (ra := [.int 0, .int (S.1 25 6), .ref 27, .ref 25]) (rest := [.ref 25]) rfl rfl rfl rfl pm_M41 rfl rfl rfl rfl (fun d10 => (H41 _ d10 27 (S.1 25 6) 0 S).mono (fun r S12 e => ?_))
      obtain ⟨r11, rfl, h13⟩ := e
      show ex_P _ _ 40 74 [.ref 25, .int a0] [.int r11, .ref 25] S12 _
      refine ex_putI pm_M40 (pc_q := 77) rfl rfl rfl rfl rfl ?_
      refine ex_br pm_M40 (pc_q := 123) (st_q := []) rfl rfl ?_
      exact ex_ret pm_M40 (r := none) rfl rfl (⟨rfl, v1 a0 S c1 c4 c9 r11 S12 h13⟩)
    by_cases c14 : a0 = 2
    · rw [c14] at hz3
      cases (show some (80, []) = some z2 from hz3)
      show ex_P _ _ 40 80 [.ref 25, .int a0] [] S _
      refine ex_lo pm_M40 (pc_q := 81) (ls_q := [.ref 25, .int a0]) (st_q := [.ref 25]) rfl rfl rfl ?_
      refine ex_getK pm_M40 (pc_q := 84) (j := 18) (b := 28) rfl rfl rfl rfl rfl ?_
      refine ex_lo pm_M40 (pc_q := 85) (ls_q := [.ref 25, .int a0]) (st_q := [.ref 25, .ref 28]) rfl rfl rfl ?_
      refine ex_getK pm_M40 (pc_q := 88) (j := 19) (b := 29) rfl rfl rfl rfl rfl ?_
      refine ex_op pm_M40 (pc_q := 89) (st_q := [.int 0, .ref 29, .ref 28]) rfl rfl rfl ?_
      refine ex_iald' pm_M40 (pc_q := 90) (v := S.1 29 0) rfl rfl rfl ?_
      refine ex_op pm_M40 (pc_q := 91) (st_q := [.int (S.1 29 0), .ref 28, .int (S.1 29 0), .ref 28]) rfl rfl rfl ?_
      refine ex_iald' pm_M40 (pc_q := 92) (v := S.1 28 ((S.1 29 0).toNatClampNeg)) rfl rfl rfl ?_
      refine ex_op pm_M40 (pc_q := 93) (st_q := [.int 1, .int (S.1 28 ((S.1 29 0).toNatClampNeg)), .int (S.1 29 0), .ref 28]) rfl rfl rfl ?_
      refine ex_lo pm_M40 (pc_q := 94) (ls_q := [.ref 25, .int a0]) (st_q := [.ref 25, .int 1, .int (S.1 28 ((S.1 29 0).toNatClampNeg)), .int (S.1 29 0), .ref 28]) rfl rfl rfl ?_
      refine ex_getK pm_M40 (pc_q := 97) (j := 19) (b := 29) rfl rfl rfl rfl rfl ?_
      refine ex_op pm_M40 (pc_q := 98) (st_q := [.int 1, .ref 29, .int 1, .int (S.1 28 ((S.1 29 0).toNatClampNeg)), .int (S.1 29 0), .ref 28]) rfl rfl rfl ?_
      refine ex_iald' pm_M40 (pc_q := 99) (v := S.1 29 1) rfl rfl rfl ?_
      refine ex_op pm_M40 (pc_q := 100) (st_q := [.int (1 <<< ((S.1 29 1) &&& 31)), .int (S.1 28 ((S.1 29 0).toNatClampNeg)), .int (S.1 29 0), .ref 28]) rfl rfl rfl ?_
      refine ex_op pm_M40 (pc_q := 101) (st_q := [.int ((S.1 28 ((S.1 29 0).toNatClampNeg)) ||| (1 <<< ((S.1 29 1) &&& 31))), .int (S.1 29 0), .ref 28]) rfl rfl rfl ?_
      refine ex_iast pm_M40 (pc_q := 102) rfl rfl ?_
      refine ex_br pm_M40 (pc_q := 123) (st_q := []) rfl rfl ?_
      exact ex_ret pm_M40 (r := none) rfl rfl (⟨rfl, v2 a0 S c1 c4 c9 c14⟩)
    by_cases c15 : a0 = 3
    · rw [c15] at hz3
      cases (show some (105, []) = some z2 from hz3)
      show ex_P _ _ 40 105 [.ref 25, .int a0] [] S _
      refine ex_lo pm_M40 (pc_q := 106) (ls_q := [.ref 25, .int a0]) (st_q := [.ref 25]) rfl rfl rfl ?_
      refine ex_lo pm_M40 (pc_q := 107) (ls_q := [.ref 25, .int a0]) (st_q := [.ref 25, .ref 25]) rfl rfl rfl ?_
      refine ex_getK pm_M40 (pc_q := 110) (j := 19) (b := 29) rfl rfl rfl rfl rfl ?_
      refine ex_op pm_M40 (pc_q := 111) (st_q := [.int 0, .ref 29, .ref 25]) rfl rfl rfl ?_
      refine ex_iald' pm_M40 (pc_q := 112) (v := S.1 29 0) rfl rfl rfl ?_
      refine ex_putI pm_M40 (pc_q := 115) rfl rfl rfl rfl rfl ?_
      refine ex_br pm_M40 (pc_q := 123) (st_q := []) rfl rfl ?_
      exact ex_ret pm_M40 (r := none) rfl rfl (⟨rfl, v3 a0 S c1 c4 c9 c14 c15⟩)
    have hz3' := ex_tswD (st := []) hz3 (by first | (have w0 : (a0).toInt ≠ 0 := fun w => c4 (Int32.toInt_inj.mp (w.trans (by decide))); have w1 : (a0).toInt ≠ 1 := fun w => c9 (Int32.toInt_inj.mp (w.trans (by decide))); have w2 : (a0).toInt ≠ 2 := fun w => c14 (Int32.toInt_inj.mp (w.trans (by decide))); have w3 : (a0).toInt ≠ 3 := fun w => c15 (Int32.toInt_inj.mp (w.trans (by decide))); omega) | decide)
    cases (show some (118, []) = some z2 from hz3')
    show ex_P _ _ 40 118 [.ref 25, .int a0] [] S _
    refine ex_lo pm_M40 (pc_q := 119) (ls_q := [.ref 25, .int a0]) (st_q := [.ref 25]) rfl rfl rfl ?_
    refine ex_lo pm_M40 (pc_q := 120) (ls_q := [.ref 25, .int a0]) (st_q := [.int a0, .ref 25]) rfl rfl rfl ?_
    refine ex_call pm_M40 (pc_q := 123) (ix := 130) (callee := 42) (np := 1) (kd := 0) (ra := [.int a0, .ref 25]) (rest := []) rfl rfl rfl rfl pm_M42 rfl rfl rfl rfl (fun d16 => (H42 _ d16 a0 S).mono (fun r S18 e => ?_))
    obtain ⟨rfl, h19⟩ := e
    show ex_P _ _ 40 123 [.ref 25, .int a0] [] S18 _
    exact ex_ret pm_M40 (r := none) rfl rfl (⟨rfl, v4 a0 S c1 c4 c9 c14 c15 S18 h19⟩)
  · -- not
    exact ex_ret pm_M40 (r := none) rfl rfl (⟨rfl, v5 a0 S c1⟩)
set_option maxRecDepth 100000 in
set_option maxHeartbeats 4000000 in
/-- SilentTable$TextReader.readLine -/
theorem ev37 {C : Int32 → ex_S → Int32 → ex_S → Prop} {C13 : Nat → Int32 → ex_S → ex_S → Prop} {C16 : ex_S → ex_S → Prop} {C24 : Nat → ex_S → Int32 → ex_S → Prop} {C38 : Int32 → ex_S → ex_S → Prop} {C39 : Int32 → Int32 → ex_S → ex_S → Prop} {C40 : Int32 → ex_S → ex_S → Prop} {I22 : Int32 → ex_S → Int32 → ex_S → Prop} (H13 : es13 C13) (H16 : es16 C16) (H24 : es24 C24) (H38 : es38 C38) (H39 : es39 C39) (H40 : es40 C40) 
    (v0 : ∀ (a0 : Int32) (S : ex_S), ¬ a0 = (-1) → ∀ (S4 : ex_S), C38 a0 S S4 → ∀ (S8 : ex_S), C13 29 (-1) S4 S8 → I22 a0 S 0 S8) 
    (v1 : ∀ (a0 : Int32) (S : ex_S), ¬ (¬ a0 = (-1)) → C a0 S 0 S) 
    (v2 : ∀ (a0 : Int32) (S : ex_S) (x2 : Int32) (T : ex_S), I22 a0 S x2 T → ex_st 2 a0.toNatClampNeg ≤ x2 → ¬ a0 = 0 → ∀ (S14 : ex_S), C16 T S14 → S14.1 30 4 = 3 → ∀ (S19 : ex_S), C40 a0 S14 S19 → C a0 S 1 S19) 
    (v3 : ∀ (a0 : Int32) (S : ex_S) (x2 : Int32) (T : ex_S), I22 a0 S x2 T → ex_st 2 a0.toNatClampNeg ≤ x2 → ¬ a0 = 0 → ∀ (S14 : ex_S), C16 T S14 → ¬ (S14.1 30 4 = 3) → C a0 S 0 S14) 
    (v4 : ∀ (a0 : Int32) (S : ex_S) (x2 : Int32) (T : ex_S), I22 a0 S x2 T → ex_st 2 a0.toNatClampNeg ≤ x2 → ¬ (¬ a0 = 0) → ∀ (S23 : ex_S), C16 T S23 → ∀ (r26 : Int32) (S27 : ex_S), C24 10 S23 r26 S27 → ¬ r26 = (-1) → ∀ (S32 : ex_S), C16 (ex_sx S27 29 3 r26) S32 → S32.1 30 4 = 3 → ∀ (S37 : ex_S), C40 a0 S32 S37 → C a0 S 1 S37) 
    (v5 : ∀ (a0 : Int32) (S : ex_S) (x2 : Int32) (T : ex_S), I22 a0 S x2 T → ex_st 2 a0.toNatClampNeg ≤ x2 → ¬ (¬ a0 = 0) → ∀ (S23 : ex_S), C16 T S23 → ∀ (r26 : Int32) (S27 : ex_S), C24 10 S23 r26 S27 → ¬ r26 = (-1) → ∀ (S32 : ex_S), C16 (ex_sx S27 29 3 r26) S32 → ¬ (S32.1 30 4 = 3) → C a0 S 0 S32) 
    (v6 : ∀ (a0 : Int32) (S : ex_S) (x2 : Int32) (T : ex_S), I22 a0 S x2 T → ex_st 2 a0.toNatClampNeg ≤ x2 → ¬ (¬ a0 = 0) → ∀ (S23 : ex_S), C16 T S23 → ∀ (r26 : Int32) (S27 : ex_S), C24 10 S23 r26 S27 → ¬ (¬ r26 = (-1)) → C a0 S 0 (ex_sx S27 29 3 r26)) 
    (v7 : ∀ (a0 : Int32) (S : ex_S) (x2 : Int32) (T : ex_S), I22 a0 S x2 T → ¬ (ex_st 2 a0.toNatClampNeg ≤ x2) → ∀ (S41 : ex_S), C16 T S41 → S41.1 30 4 = 2 → ∀ (S46 : ex_S), C39 a0 x2 (ex_sx S41 29 x2.toNatClampNeg (S41.1 30 5)) S46 → I22 a0 S (x2 + 1) S46) 
    (v8 : ∀ (a0 : Int32) (S : ex_S) (x2 : Int32) (T : ex_S), I22 a0 S x2 T → ¬ (ex_st 2 a0.toNatClampNeg ≤ x2) → ∀ (S41 : ex_S), C16 T S41 → ¬ (S41.1 30 4 = 2) → C a0 S 0 S41) : es37 C := by
  intro N d a0 S
  have LL : ∀ N : Nat, (∀ (x2 : Int32) (T : ex_S), I22 a0 S x2 T → ex_P N d 37 22 [.ref 25, .int a0, .int x2] [] T (fun r S_q => ∃ v, r = some (.int v) ∧ C a0 S v S_q)) := by
    intro N
    induction N with
    | zero => exact fun _ _ _ => ex_zero
    | succ N ih =>
      have ih22 := ih
      have L22 : ∀ (x2 : Int32) (T : ex_S), I22 a0 S x2 T → ex_P (N + 1) d 37 22 [.ref 25, .int a0, .int x2] [] T (fun r S_q => ∃ v, r = some (.int v) ∧ C a0 S v S_q) := by
        intro x2 T hI
        refine ex_lo pm_M37 (pc_q := 23) (ls_q := [.ref 25, .int a0, .int x2]) (st_q := [.int x2]) rfl rfl rfl ?_
        refine ex_stat pm_M37 (pc_q := 26) rfl rfl rfl rfl ?_
        refine ex_lo pm_M37 (pc_q := 27) (ls_q := [.ref 25, .int a0, .int x2]) (st_q := [.int a0, .ref 2, .int x2]) rfl rfl rfl ?_
        refine ex_iaK pm_M37 (pc_q := 28) (v := ex_st 2 a0.toNatClampNeg) rfl (by decide) (by decide) rfl rfl ?_
        refine ex_icmp pm_M37 (t := 76) (pc_q := 31) rfl rfl rfl (fun c10 => ?_) (fun c10 => ?_)
        · -- ex_st 2 a0.toNatClampNeg ≤ x2
          refine ex_lo pm_M37 (pc_q := 77) (ls_q := [.ref 25, .int a0, .int x2]) (st_q := [.int a0]) rfl rfl rfl ?_
          refine ex_ifc pm_M37 (t := 114) (pc_q := 80) rfl rfl rfl (fun c11 => ?_) (fun c11 => ?_)
          · -- ¬ a0 = 0
            refine ex_lo pm_M37 (pc_q := 115) (ls_q := [.ref 25, .int a0, .int x2]) (st_q := [.ref 25]) rfl rfl rfl ?_
            refine ex_getK pm_M37 (pc_q := 118) (j := 15) (b := 30) rfl rfl rfl rfl rfl ?_
            refine ex_call pm_M37 (pc_q := 121) (ix := 80) (callee := 16) (np := 0) (kd := 0) (ra := [.ref 30]) (rest := []) rfl rfl rfl rfl pm_M16 rfl rfl rfl rfl (fun d12 => (H16 _ d12 T).mono (fun r S14 e => ?_))
            obtain ⟨rfl, h15⟩ := e
            show ex_P _ _ 37 121 [.ref 25, .int a0, .int x2] [] S14 _
            refine ex_lo pm_M37 (pc_q := 122) (ls_q := [.ref 25, .int a0, .int x2]) (st_q := [.ref 25]) rfl rfl rfl ?_
            refine ex_getK pm_M37 (pc_q := 125) (j := 15) (b := 30) rfl rfl rfl rfl rfl ?_
            refine ex_getI' pm_M37 (pc_q := 128) (v := S14.1 30 4) rfl rfl rfl rfl rfl rfl ?_
            refine ex_op pm_M37 (pc_q := 129) (st_q := [.int 3, .int (S14.1 30 4)]) rfl rfl rfl ?_
            refine ex_icmp pm_M37 (t := 134) (pc_q := 132) rfl rfl rfl (fun c16 => ?_) (fun c16 => ?_)
            · -- S14.1 30 4 = 3
              refine ex_lo pm_M37 (pc_q := 135) (ls_q := [.ref 25, .int a0, .int x2]) (st_q := [.ref 25]) rfl rfl rfl ?_
              refine ex_lo pm_M37 (pc_q := 136) (ls_q := [.ref 25, .int a0, .int x2]) (st_q := [.int a0, .ref 25]) rfl rfl rfl ?_
              refine ex_call pm_M37 (pc_q := 139) (ix := 117) (callee := 40) (np := 1) (kd := 0) (ra := [.int a0, .ref 25]) (rest := []) rfl rfl rfl rfl pm_M40 rfl rfl rfl rfl (fun d17 => (H40 _ d17 a0 S14).mono (fun r S19 e => ?_))
              obtain ⟨rfl, h20⟩ := e
              show ex_P _ _ 37 139 [.ref 25, .int a0, .int x2] [] S19 _
              refine ex_op pm_M37 (pc_q := 140) (st_q := [.int 1]) rfl rfl rfl ?_
              exact ex_retI pm_M37 rfl (⟨_, rfl, v2 a0 S x2 T hI c10 c11 S14 h15 c16 S19 h20⟩)
            · -- not
              refine ex_op pm_M37 (pc_q := 133) (st_q := [.int 0]) rfl rfl rfl ?_
              exact ex_retI pm_M37 rfl (⟨_, rfl, v3 a0 S x2 T hI c10 c11 S14 h15 c16⟩)
          · -- not
            refine ex_lo pm_M37 (pc_q := 81) (ls_q := [.ref 25, .int a0, .int x2]) (st_q := [.ref 25]) rfl rfl rfl ?_
            refine ex_getK pm_M37 (pc_q := 84) (j := 15) (b := 30) rfl rfl rfl rfl rfl ?_
            refine ex_call pm_M37 (pc_q := 87) (ix := 80) (callee := 16) (np := 0) (kd := 0) (ra := [.ref 30]) (rest := []) rfl rfl rfl rfl pm_M16 rfl rfl rfl rfl (fun d21 => (H16 _ d21 T).mono (fun r S23 e => ?_))
            obtain ⟨rfl, h24⟩ := e
            show ex_P _ _ 37 87 [.ref 25, .int a0, .int x2] [] S23 _
            refine ex_lo pm_M37 (pc_q := 88) (ls_q := [.ref 25, .int a0, .int x2]) (st_q := [.ref 25]) rfl rfl rfl ?_
            refine ex_getK pm_M37 (pc_q := 91) (j := 19) (b := 29) rfl rfl rfl rfl rfl ?_
            refine ex_op pm_M37 (pc_q := 92) (st_q := [.int 3, .ref 29]) rfl rfl rfl ?_
            refine ex_lo pm_M37 (pc_q := 93) (ls_q := [.ref 25, .int a0, .int x2]) (st_q := [.ref 25, .int 3, .ref 29]) rfl rfl rfl ?_
            refine ex_getK pm_M37 (pc_q := 96) (j := 15) (b := 30) rfl rfl rfl rfl rfl ?_
            refine ex_ldcs pm_M37 (pc_q := 98) (j := 10) rfl rfl rfl rfl rfl ?_
            refine ex_call pm_M37 (pc_q := 101) (ix := 98) (callee := 24) (np := 1) (kd := 0) (ra := [.ref 10, .ref 30]) (rest := [.int 3, .ref 29]) rfl rfl rfl rfl pm_M24 rfl rfl rfl rfl (fun d25 => (H24 _ d25 10 S23).mono (fun r S27 e => ?_))
            obtain ⟨r26, rfl, h28⟩ := e
            show ex_P _ _ 37 101 [.ref 25, .int a0, .int x2] [.int r26, .int 3, .ref 29] S27 _
            refine ex_iast pm_M37 (pc_q := 102) rfl rfl ?_
            show ex_P _ _ 37 102 [.ref 25, .int a0, .int x2] [] (ex_sx S27 29 3 r26) _
            refine ex_lo pm_M37 (pc_q := 103) (ls_q := [.ref 25, .int a0, .int x2]) (st_q := [.ref 25]) rfl rfl rfl ?_
            refine ex_getK pm_M37 (pc_q := 106) (j := 19) (b := 29) rfl rfl rfl rfl rfl ?_
            refine ex_op pm_M37 (pc_q := 107) (st_q := [.int 3, .ref 29]) rfl rfl rfl ?_
            refine ex_iald' pm_M37 (pc_q := 108) (v := r26) rfl rfl rfl ?_
            refine ex_op pm_M37 (pc_q := 109) (st_q := [.int (-1), .int r26]) rfl rfl rfl ?_
            refine ex_icmp pm_M37 (t := 114) (pc_q := 112) rfl rfl rfl (fun c29 => ?_) (fun c29 => ?_)
            · -- ¬ r26 = (-1)
              refine ex_lo pm_M37 (pc_q := 115) (ls_q := [.ref 25, .int a0, .int x2]) (st_q := [.ref 25]) rfl rfl rfl ?_
              refine ex_getK pm_M37 (pc_q := 118) (j := 15) (b := 30) rfl rfl rfl rfl rfl ?_
              refine ex_call pm_M37 (pc_q := 121) (ix := 80) (callee := 16) (np := 0) (kd := 0) (ra := [.ref 30]) (rest := []) rfl rfl rfl rfl pm_M16 rfl rfl rfl rfl (fun d30 => (H16 _ d30 (ex_sx S27 29 3 r26)).mono (fun r S32 e => ?_))
              obtain ⟨rfl, h33⟩ := e
              show ex_P _ _ 37 121 [.ref 25, .int a0, .int x2] [] S32 _
              refine ex_lo pm_M37 (pc_q := 122) (ls_q := [.ref 25, .int a0, .int x2]) (st_q := [.ref 25]) rfl rfl rfl ?_
              refine ex_getK pm_M37 (pc_q := 125) (j := 15) (b := 30) rfl rfl rfl rfl rfl ?_
              refine ex_getI' pm_M37 (pc_q := 128) (v := S32.1 30 4) rfl rfl rfl rfl rfl rfl ?_
              refine ex_op pm_M37 (pc_q := 129) (st_q := [.int 3, .int (S32.1 30 4)]) rfl rfl rfl ?_
              refine ex_icmp pm_M37 (t := 134) (pc_q := 132) rfl rfl rfl (fun c34 => ?_) (fun c34 => ?_)
              · -- S32.1 30 4 = 3
                refine ex_lo pm_M37 (pc_q := 135) (ls_q := [.ref 25, .int a0, .int x2]) (st_q := [.ref 25]) rfl rfl rfl ?_
                refine ex_lo pm_M37 (pc_q := 136) (ls_q := [.ref 25, .int a0, .int x2]) (st_q := [.int a0, .ref 25]) rfl rfl rfl ?_
                refine ex_call pm_M37 (pc_q := 139) (ix := 117) (callee := 40) (np := 1) (kd := 0) (ra := [.int a0, .ref 25]) (rest := []) rfl rfl rfl rfl pm_M40 rfl rfl rfl rfl (fun d35 => (H40 _ d35 a0 S32).mono (fun r S37 e => ?_))
                obtain ⟨rfl, h38⟩ := e
                show ex_P _ _ 37 139 [.ref 25, .int a0, .int x2] [] S37 _
                refine ex_op pm_M37 (pc_q := 140) (st_q := [.int 1]) rfl rfl rfl ?_
                exact ex_retI pm_M37 rfl (⟨_, rfl, v4 a0 S x2 T hI c10 c11 S23 h24 r26 S27 h28 c29 S32 h33 c34 S37 h38⟩)
              · -- not
                refine ex_op pm_M37 (pc_q := 133) (st_q := [.int 0]) rfl rfl rfl ?_
                exact ex_retI pm_M37 rfl (⟨_, rfl, v5 a0 S x2 T hI c10 c11 S23 h24 r26 S27 h28 c29 S32 h33 c34⟩)
            · -- not
              refine ex_op pm_M37 (pc_q := 113) (st_q := [.int 0]) rfl rfl rfl ?_
              exact ex_retI pm_M37 rfl (⟨_, rfl, v6 a0 S x2 T hI c10 c11 S23 h24 r26 S27 h28 c29⟩)
        · -- not
          refine ex_lo pm_M37 (pc_q := 32) (ls_q := [.ref 25, .int a0, .int x2]) (st_q := [.ref 25]) rfl rfl rfl ?_
          refine ex_getK pm_M37 (pc_q := 35) (j := 15) (b := 30) rfl rfl rfl rfl rfl ?_
          refine ex_call pm_M37 (pc_q := 38) (ix := 80) (callee := 16) (np := 0) (kd := 0) (ra := [.ref 30]) (rest := []) rfl rfl rfl rfl pm_M16 rfl rfl rfl rfl (fun d39 => (H16 _ d39 T).mono (fun r S41 e => ?_))
          obtain ⟨rfl, h42⟩ := e
          show ex_P _ _ 37 38 [.ref 25, .int a0, .int x2] [] S41 _
          refine ex_lo pm_M37 (pc_q := 39) (ls_q := [.ref 25, .int a0, .int x2]) (st_q := [.ref 25]) rfl rfl rfl ?_
          refine ex_getK pm_M37 (pc_q := 42) (j := 15) (b := 30) rfl rfl rfl rfl rfl ?_
          refine ex_getI' pm_M37 (pc_q := 45) (v := S41.1 30 4) rfl rfl rfl rfl rfl rfl ?_
          refine ex_op pm_M37 (pc_q := 46) (st_q := [.int 2, .int (S41.1 30 4)]) rfl rfl rfl ?_
          refine ex_icmp pm_M37 (t := 51) (pc_q := 49) rfl rfl rfl (fun c43 => ?_) (fun c43 => ?_)
          · -- S41.1 30 4 = 2
            refine ex_lo pm_M37 (pc_q := 52) (ls_q := [.ref 25, .int a0, .int x2]) (st_q := [.ref 25]) rfl rfl rfl ?_
            refine ex_getK pm_M37 (pc_q := 55) (j := 19) (b := 29) rfl rfl rfl rfl rfl ?_
            refine ex_lo pm_M37 (pc_q := 56) (ls_q := [.ref 25, .int a0, .int x2]) (st_q := [.int x2, .ref 29]) rfl rfl rfl ?_
            refine ex_lo pm_M37 (pc_q := 57) (ls_q := [.ref 25, .int a0, .int x2]) (st_q := [.ref 25, .int x2, .ref 29]) rfl rfl rfl ?_
            refine ex_getK pm_M37 (pc_q := 60) (j := 15) (b := 30) rfl rfl rfl rfl rfl ?_
            refine ex_getI' pm_M37 (pc_q := 63) (v := S41.1 30 5) rfl rfl rfl rfl rfl rfl ?_
            refine ex_iast pm_M37 (pc_q := 64) rfl rfl ?_
            refine ex_lo pm_M37 (pc_q := 65) (ls_q := [.ref 25, .int a0, .int x2]) (st_q := [.ref 25]) rfl rfl rfl ?_
            refine ex_lo pm_M37 (pc_q := 66) (ls_q := [.ref 25, .int a0, .int x2]) (st_q := [.int a0, .ref 25]) rfl rfl rfl ?_
            refine ex_lo pm_M37 (pc_q := 67) (ls_q := [.ref 25, .int a0, .int x2]) (st_q := [.int x2, .int a0, .ref 25]) rfl rfl rfl ?_
            refine ex_call pm_M37 (pc_q := 70) (ix := 112) (callee := 39) (np := 2) (kd := 0) (ra := [.int x2, .int a0, .ref 25]) (rest := []) rfl rfl rfl rfl pm_M39 rfl rfl rfl rfl (fun d44 => (H39 _ d44 a0 x2 (ex_sx S41 29 x2.toNatClampNeg (S41.1 30 5))).mono (fun r S46 e => ?_))
            obtain ⟨rfl, h47⟩ := e
            show ex_P _ _ 37 70 [.ref 25, .int a0, .int x2] [] S46 _
            refine ex_lo pm_M37 (pc_q := 73) (ls_q := [.ref 25, .int a0, .int (x2 + 1)]) (st_q := []) rfl rfl rfl ?_
            refine ex_goS pm_M37 (pc_q := 22) (st_q := []) rfl rfl ?_
            exact ih22 (x2 + 1) S46 (v7 a0 S x2 T hI c10 S41 h42 c43 S46 h47)
          · -- not
            refine ex_op pm_M37 (pc_q := 50) (st_q := [.int 0]) rfl rfl rfl ?_
            exact ex_retI pm_M37 rfl (⟨_, rfl, v8 a0 S x2 T hI c10 S41 h42 c43⟩)
      exact L22
  have L22 := LL N
  refine ex_lo pm_M37 (pc_q := 1) (ls_q := [.ref 25, .int a0, pm_no]) (st_q := [.int a0]) rfl rfl rfl ?_
  refine ex_op pm_M37 (pc_q := 2) (st_q := [.int (-1), .int a0]) rfl rfl rfl ?_
  refine ex_icmp pm_M37 (t := 7) (pc_q := 5) rfl rfl rfl (fun c1 => ?_) (fun c1 => ?_)
  · -- ¬ a0 = (-1)
    refine ex_lo pm_M37 (pc_q := 8) (ls_q := [.ref 25, .int a0, pm_no]) (st_q := [.ref 25]) rfl rfl rfl ?_
    refine ex_lo pm_M37 (pc_q := 9) (ls_q := [.ref 25, .int a0, pm_no]) (st_q := [.int a0, .ref 25]) rfl rfl rfl ?_
    refine ex_call pm_M37 (pc_q := 12) (ix := 106) (callee := 38) (np := 1) (kd := 0) (ra := [.int a0, .ref 25]) (rest := []) rfl rfl rfl rfl pm_M38 rfl rfl rfl rfl (fun d2 => (H38 _ d2 a0 S).mono (fun r S4 e => ?_))
    obtain ⟨rfl, h5⟩ := e
    show ex_P _ _ 37 12 [.ref 25, .int a0, pm_no] [] S4 _
    refine ex_lo pm_M37 (pc_q := 13) (ls_q := [.ref 25, .int a0, pm_no]) (st_q := [.ref 25]) rfl rfl rfl ?_
    refine ex_getK pm_M37 (pc_q := 16) (j := 19) (b := 29) rfl rfl rfl rfl rfl ?_
    refine ex_op pm_M37 (pc_q := 17) (st_q := [.int (-1), .ref 29]) rfl rfl rfl ?_
    refine ex_call pm_M37 (pc_q := 20) (ix := 74) (callee := 13) (np := 2) (kd := 2) (ra := [.int (-1), .ref 29]) (rest := []) rfl rfl rfl rfl pm_M13 rfl rfl rfl rfl (fun d6 => (H13 _ d6 29 (-1) S4).mono (fun r S8 e => ?_))
    obtain ⟨rfl, h9⟩ := e
    show ex_P _ _ 37 20 [.ref 25, .int a0, pm_no] [] S8 _
    refine ex_op pm_M37 (pc_q := 21) (st_q := [.int 0]) rfl rfl rfl ?_
    refine ex_lo pm_M37 (pc_q := 22) (ls_q := [.ref 25, .int a0, .int 0]) (st_q := []) rfl rfl rfl ?_
    exact L22 0 S8 (v0 a0 S c1 S4 h5 S8 h9)
  · -- not
    refine ex_op pm_M37 (pc_q := 6) (st_q := [.int 0]) rfl rfl rfl ?_
    exact ex_retI pm_M37 rfl (⟨_, rfl, v1 a0 S c1⟩)
set_option maxRecDepth 100000 in
set_option maxHeartbeats 4000000 in
/-- SilentTable$TextReader.readLines -/
theorem ev22 {C : Int32 → ex_S → Int32 → ex_S → Prop} {C16 : ex_S → ex_S → Prop} {C23 : Int32 → ex_S → Int32 → ex_S → Prop} {C37 : Int32 → ex_S → Int32 → ex_S → Prop} {I9 : Int32 → ex_S → Int32 → ex_S → Prop} (H16 : es16 C16) (H23 : es23 C23) (H37 : es37 C37) 
    (v0 : ∀ (a0 : Int32) (S : ex_S) (S3 : ex_S), C16 S S3 → I9 a0 S 0 S3) 
    (v1 : ∀ (a0 : Int32) (S : ex_S) (x2 : Int32) (T : ex_S), I9 a0 S x2 T → 600 ≤ x2 → C a0 S 1 T) 
    (v2 : ∀ (a0 : Int32) (S : ex_S) (x2 : Int32) (T : ex_S), I9 a0 S x2 T → ¬ (600 ≤ x2) → T.1 30 4 = 0 → C a0 S 1 T) 
    (v3 : ∀ (a0 : Int32) (S : ex_S) (x2 : Int32) (T : ex_S), I9 a0 S x2 T → ¬ (600 ≤ x2) → ¬ (T.1 30 4 = 0) → ∀ (r8 : Int32) (S9 : ex_S), C23 a0 T r8 S9 → ∀ (r12 : Int32) (S13 : ex_S), C37 r8 S9 r12 S13 → ¬ r12 = 0 → ∀ (S18 : ex_S), C16 S13 S18 → I9 a0 S (x2 + 1) S18) 
    (v4 : ∀ (a0 : Int32) (S : ex_S) (x2 : Int32) (T : ex_S), I9 a0 S x2 T → ¬ (600 ≤ x2) → ¬ (T.1 30 4 = 0) → ∀ (r8 : Int32) (S9 : ex_S), C23 a0 T r8 S9 → ∀ (r12 : Int32) (S13 : ex_S), C37 r8 S9 r12 S13 → ¬ (¬ r12 = 0) → C a0 S 0 S13) : es22 C := by
  intro N d a0 S
  have LL : ∀ N : Nat, (∀ (x2 : Int32) (T : ex_S), I9 a0 S x2 T → ex_P N d 22 9 [.ref 25, .int a0, .int x2] [] T (fun r S_q => ∃ v, r = some (.int v) ∧ C a0 S v S_q)) := by
    intro N
    induction N with
    | zero => exact fun _ _ _ => ex_zero
    | succ N ih =>
      have ih9 := ih
      have L9 : ∀ (x2 : Int32) (T : ex_S), I9 a0 S x2 T → ex_P (N + 1) d 22 9 [.ref 25, .int a0, .int x2] [] T (fun r S_q => ∃ v, r = some (.int v) ∧ C a0 S v S_q) := by
        intro x2 T hI
        refine ex_lo pm_M22 (pc_q := 10) (ls_q := [.ref 25, .int a0, .int x2]) (st_q := [.int x2]) rfl rfl rfl ?_
        refine ex_op pm_M22 (pc_q := 13) (st_q := [.int 600, .int x2]) rfl rfl rfl ?_
        refine ex_icmp pm_M22 (t := 53) (pc_q := 16) rfl rfl rfl (fun c5 => ?_) (fun c5 => ?_)
        · -- 600 ≤ x2
          refine ex_op pm_M22 (pc_q := 54) (st_q := [.int 1]) rfl rfl rfl ?_
          exact ex_retI pm_M22 rfl (⟨_, rfl, v1 a0 S x2 T hI c5⟩)
        · -- not
          refine ex_lo pm_M22 (pc_q := 17) (ls_q := [.ref 25, .int a0, .int x2]) (st_q := [.ref 25]) rfl rfl rfl ?_
          refine ex_getK pm_M22 (pc_q := 20) (j := 15) (b := 30) rfl rfl rfl rfl rfl ?_
          refine ex_getI' pm_M22 (pc_q := 23) (v := T.1 30 4) rfl rfl rfl rfl rfl rfl ?_
          refine ex_ifc pm_M22 (t := 53) (pc_q := 26) rfl rfl rfl (fun c6 => ?_) (fun c6 => ?_)
          · -- T.1 30 4 = 0
            refine ex_op pm_M22 (pc_q := 54) (st_q := [.int 1]) rfl rfl rfl ?_
            exact ex_retI pm_M22 rfl (⟨_, rfl, v2 a0 S x2 T hI c5 c6⟩)
          · -- not
            refine ex_lo pm_M22 (pc_q := 27) (ls_q := [.ref 25, .int a0, .int x2]) (st_q := [.ref 25]) rfl rfl rfl ?_
            refine ex_lo pm_M22 (pc_q := 28) (ls_q := [.ref 25, .int a0, .int x2]) (st_q := [.ref 25, .ref 25]) rfl rfl rfl ?_
            refine ex_lo pm_M22 (pc_q := 29) (ls_q := [.ref 25, .int a0, .int x2]) (st_q := [.int a0, .ref 25, .ref 25]) rfl rfl rfl ?_
            refine ex_call pm_M22 (pc_q := 32) (ix := 89) (callee := 23) (np := 1) (kd := 0) (ra := [.int a0, .ref 25]) (rest := [.ref 25]) rfl rfl rfl rfl pm_M23 rfl rfl rfl rfl (fun d7 => (H23 _ d7 a0 T).mono (fun r S9 e => ?_))
            obtain ⟨r8, rfl, h10⟩ := e
            show ex_P _ _ 22 32 [.ref 25, .int a0, .int x2] [.int r8, .ref 25] S9 _
            refine ex_call pm_M22 (pc_q := 35) (ix := 93) (callee := 37) (np := 1) (kd := 0) (ra := [.int r8, .ref 25]) (rest := []) rfl rfl rfl rfl pm_M37 rfl rfl rfl rfl (fun d11 => (H37 _ d11 r8 S9).mono (fun r S13 e => ?_))
            obtain ⟨r12, rfl, h14⟩ := e
            show ex_P _ _ 22 35 [.ref 25, .int a0, .int x2] [.int r12] S13 _
            refine ex_ifc pm_M22 (t := 40) (pc_q := 38) rfl rfl rfl (fun c15 => ?_) (fun c15 => ?_)
            · -- ¬ r12 = 0
              refine ex_lo pm_M22 (pc_q := 41) (ls_q := [.ref 25, .int a0, .int x2]) (st_q := [.ref 25]) rfl rfl rfl ?_
              refine ex_getK pm_M22 (pc_q := 44) (j := 15) (b := 30) rfl rfl rfl rfl rfl ?_
              refine ex_call pm_M22 (pc_q := 47) (ix := 80) (callee := 16) (np := 0) (kd := 0) (ra := [.ref 30]) (rest := []) rfl rfl rfl rfl pm_M16 rfl rfl rfl rfl (fun d16 => (H16 _ d16 S13).mono (fun r S18 e => ?_))
              obtain ⟨rfl, h19⟩ := e
              show ex_P _ _ 22 47 [.ref 25, .int a0, .int x2] [] S18 _
              refine ex_lo pm_M22 (pc_q := 50) (ls_q := [.ref 25, .int a0, .int (x2 + 1)]) (st_q := []) rfl rfl rfl ?_
              refine ex_goS pm_M22 (pc_q := 9) (st_q := []) rfl rfl ?_
              exact ih9 (x2 + 1) S18 (v3 a0 S x2 T hI c5 c6 r8 S9 h10 r12 S13 h14 c15 S18 h19)
            · -- not
              refine ex_op pm_M22 (pc_q := 39) (st_q := [.int 0]) rfl rfl rfl ?_
              exact ex_retI pm_M22 rfl (⟨_, rfl, v4 a0 S x2 T hI c5 c6 r8 S9 h10 r12 S13 h14 c15⟩)
      exact L9
  have L9 := LL N
  refine ex_lo pm_M22 (pc_q := 1) (ls_q := [.ref 25, .int a0, pm_no]) (st_q := [.ref 25]) rfl rfl rfl ?_
  refine ex_getK pm_M22 (pc_q := 4) (j := 15) (b := 30) rfl rfl rfl rfl rfl ?_
  refine ex_call pm_M22 (pc_q := 7) (ix := 80) (callee := 16) (np := 0) (kd := 0) (ra := [.ref 30]) (rest := []) rfl rfl rfl rfl pm_M16 rfl rfl rfl rfl (fun d1 => (H16 _ d1 S).mono (fun r S3 e => ?_))
  obtain ⟨rfl, h4⟩ := e
  show ex_P _ _ 22 7 [.ref 25, .int a0, pm_no] [] S3 _
  refine ex_op pm_M22 (pc_q := 8) (st_q := [.int 0]) rfl rfl rfl ?_
  refine ex_lo pm_M22 (pc_q := 9) (ls_q := [.ref 25, .int a0, .int 0]) (st_q := []) rfl rfl rfl ?_
  exact L9 0 S3 (v0 a0 S S3 h4)
set_option maxRecDepth 100000 in
set_option maxHeartbeats 4000000 in
/-- SilentTable$TextReader.readSigns -/
theorem ev15 {C : ex_S → Int32 → ex_S → Prop} {C16 : ex_S → ex_S → Prop} {C21 : Int32 → Int32 → ex_S → ex_S → Prop} {I9 : ex_S → Int32 → ex_S → Prop} (H16 : es16 C16) (H21 : es21 C21) 
    (v0 : ∀ (S : ex_S) (S3 : ex_S), C16 S S3 → I9 S 0 S3) 
    (v1 : ∀ (S : ex_S) (x1 : Int32) (T : ex_S), I9 S x1 T → 600 ≤ x1 → ¬ T.1 30 4 = 0 → C S 0 T) 
    (v2 : ∀ (S : ex_S) (x1 : Int32) (T : ex_S), I9 S x1 T → 600 ≤ x1 → ¬ (¬ T.1 30 4 = 0) → C S 1 T) 
    (v3 : ∀ (S : ex_S) (x1 : Int32) (T : ex_S), I9 S x1 T → ¬ (600 ≤ x1) → ¬ T.1 30 4 = 2 → ¬ T.1 30 4 = 0 → C S 0 T) 
    (v4 : ∀ (S : ex_S) (x1 : Int32) (T : ex_S), I9 S x1 T → ¬ (600 ≤ x1) → ¬ T.1 30 4 = 2 → ¬ (¬ T.1 30 4 = 0) → C S 1 T) 
    (v5 : ∀ (S : ex_S) (x1 : Int32) (T : ex_S), I9 S x1 T → ¬ (600 ≤ x1) → ¬ (¬ T.1 30 4 = 2) → T.1 30 5 < 10 → T.1 25 4 < 12 → ∀ (S13 : ex_S), C16 (ex_sx (ex_sx T 26 ((T.1 25 4).toNatClampNeg) (T.1 30 5)) 25 4 ((T.1 25 4) + 1)) S13 → I9 S (x1 + 1) S13) 
    (v6 : ∀ (S : ex_S) (x1 : Int32) (T : ex_S), I9 S x1 T → ¬ (600 ≤ x1) → ¬ (¬ T.1 30 4 = 2) → T.1 30 5 < 10 → ¬ (T.1 25 4 < 12) → ∀ (S17 : ex_S), C21 3 (T.1 30 3) T S17 → ∀ (S21 : ex_S), C16 S17 S21 → I9 S (x1 + 1) S21) 
    (v7 : ∀ (S : ex_S) (x1 : Int32) (T : ex_S), I9 S x1 T → ¬ (600 ≤ x1) → ¬ (¬ T.1 30 4 = 2) → ¬ (T.1 30 5 < 10) → ∀ (S25 : ex_S), C21 2 (T.1 30 3) T S25 → S25.1 25 4 < 12 → ∀ (S30 : ex_S), C16 (ex_sx (ex_sx S25 26 ((S25.1 25 4).toNatClampNeg) (S25.1 30 5)) 25 4 ((S25.1 25 4) + 1)) S30 → I9 S (x1 + 1) S30) 
    (v8 : ∀ (S : ex_S) (x1 : Int32) (T : ex_S), I9 S x1 T → ¬ (600 ≤ x1) → ¬ (¬ T.1 30 4 = 2) → ¬ (T.1 30 5 < 10) → ∀ (S25 : ex_S), C21 2 (T.1 30 3) T S25 → ¬ (S25.1 25 4 < 12) → ∀ (S34 : ex_S), C21 3 (S25.1 30 3) S25 S34 → ∀ (S38 : ex_S), C16 S34 S38 → I9 S (x1 + 1) S38) : es15 C := by
  intro N d  S
  have LL : ∀ N : Nat, (∀ (x1 : Int32) (T : ex_S), I9 S x1 T → ex_P N d 15 9 [.ref 25, .int x1] [] T (fun r S_q => ∃ v, r = some (.int v) ∧ C S v S_q)) := by
    intro N
    induction N with
    | zero => exact fun _ _ _ => ex_zero
    | succ N ih =>
      have ih9 := ih
      have L9 : ∀ (x1 : Int32) (T : ex_S), I9 S x1 T → ex_P (N + 1) d 15 9 [.ref 25, .int x1] [] T (fun r S_q => ∃ v, r = some (.int v) ∧ C S v S_q) := by
        intro x1 T hI
        refine ex_lo pm_M15 (pc_q := 10) (ls_q := [.ref 25, .int x1]) (st_q := [.int x1]) rfl rfl rfl ?_
        refine ex_op pm_M15 (pc_q := 13) (st_q := [.int 600, .int x1]) rfl rfl rfl ?_
        refine ex_icmp pm_M15 (t := 114) (pc_q := 16) rfl rfl rfl (fun c5 => ?_) (fun c5 => ?_)
        · -- 600 ≤ x1
          refine ex_lo pm_M15 (pc_q := 115) (ls_q := [.ref 25, .int x1]) (st_q := [.ref 25]) rfl rfl rfl ?_
          refine ex_getK pm_M15 (pc_q := 118) (j := 15) (b := 30) rfl rfl rfl rfl rfl ?_
          refine ex_getI' pm_M15 (pc_q := 121) (v := T.1 30 4) rfl rfl rfl rfl rfl rfl ?_
          refine ex_ifc pm_M15 (t := 128) (pc_q := 124) rfl rfl rfl (fun c6 => ?_) (fun c6 => ?_)
          · -- ¬ T.1 30 4 = 0
            refine ex_op pm_M15 (pc_q := 129) (st_q := [.int 0]) rfl rfl rfl ?_
            exact ex_retI pm_M15 rfl (⟨_, rfl, v1 S x1 T hI c5 c6⟩)
          · -- not
            refine ex_op pm_M15 (pc_q := 125) (st_q := [.int 1]) rfl rfl rfl ?_
            refine ex_br pm_M15 (pc_q := 129) (st_q := [.int 1]) rfl rfl ?_
            exact ex_retI pm_M15 rfl (⟨_, rfl, v2 S x1 T hI c5 c6⟩)
        · -- not
          refine ex_lo pm_M15 (pc_q := 17) (ls_q := [.ref 25, .int x1]) (st_q := [.ref 25]) rfl rfl rfl ?_
          refine ex_getK pm_M15 (pc_q := 20) (j := 15) (b := 30) rfl rfl rfl rfl rfl ?_
          refine ex_getI' pm_M15 (pc_q := 23) (v := T.1 30 4) rfl rfl rfl rfl rfl rfl ?_
          refine ex_op pm_M15 (pc_q := 24) (st_q := [.int 2, .int (T.1 30 4)]) rfl rfl rfl ?_
          refine ex_icmp pm_M15 (t := 114) (pc_q := 27) rfl rfl rfl (fun c7 => ?_) (fun c7 => ?_)
          · -- ¬ T.1 30 4 = 2
            refine ex_lo pm_M15 (pc_q := 115) (ls_q := [.ref 25, .int x1]) (st_q := [.ref 25]) rfl rfl rfl ?_
            refine ex_getK pm_M15 (pc_q := 118) (j := 15) (b := 30) rfl rfl rfl rfl rfl ?_
            refine ex_getI' pm_M15 (pc_q := 121) (v := T.1 30 4) rfl rfl rfl rfl rfl rfl ?_
            refine ex_ifc pm_M15 (t := 128) (pc_q := 124) rfl rfl rfl (fun c8 => ?_) (fun c8 => ?_)
            · -- ¬ T.1 30 4 = 0
              refine ex_op pm_M15 (pc_q := 129) (st_q := [.int 0]) rfl rfl rfl ?_
              exact ex_retI pm_M15 rfl (⟨_, rfl, v3 S x1 T hI c5 c7 c8⟩)
            · -- not
              refine ex_op pm_M15 (pc_q := 125) (st_q := [.int 1]) rfl rfl rfl ?_
              refine ex_br pm_M15 (pc_q := 129) (st_q := [.int 1]) rfl rfl ?_
              exact ex_retI pm_M15 rfl (⟨_, rfl, v4 S x1 T hI c5 c7 c8⟩)
          · -- not
            refine ex_lo pm_M15 (pc_q := 28) (ls_q := [.ref 25, .int x1]) (st_q := [.ref 25]) rfl rfl rfl ?_
            refine ex_getK pm_M15 (pc_q := 31) (j := 15) (b := 30) rfl rfl rfl rfl rfl ?_
            refine ex_getI' pm_M15 (pc_q := 34) (v := T.1 30 5) rfl rfl rfl rfl rfl rfl ?_
            refine ex_op pm_M15 (pc_q := 36) (st_q := [.int 10, .int (T.1 30 5)]) rfl rfl rfl ?_
            refine ex_icmp pm_M15 (t := 51) (pc_q := 39) rfl rfl rfl (fun c9 => ?_) (fun c9 => ?_)
            · -- T.1 30 5 < 10
              refine ex_lo pm_M15 (pc_q := 52) (ls_q := [.ref 25, .int x1]) (st_q := [.ref 25]) rfl rfl rfl ?_
              refine ex_getI' pm_M15 (pc_q := 55) (v := T.1 25 4) rfl rfl rfl rfl rfl rfl ?_
              refine ex_op pm_M15 (pc_q := 57) (st_q := [.int 12, .int (T.1 25 4)]) rfl rfl rfl ?_
              refine ex_icmp pm_M15 (t := 75) (pc_q := 60) rfl rfl rfl (fun c10 => ?_) (fun c10 => ?_)
              · -- T.1 25 4 < 12
                refine ex_lo pm_M15 (pc_q := 76) (ls_q := [.ref 25, .int x1]) (st_q := [.ref 25]) rfl rfl rfl ?_
                refine ex_getK pm_M15 (pc_q := 79) (j := 16) (b := 26) rfl rfl rfl rfl rfl ?_
                refine ex_lo pm_M15 (pc_q := 80) (ls_q := [.ref 25, .int x1]) (st_q := [.ref 25, .ref 26]) rfl rfl rfl ?_
                refine ex_getI' pm_M15 (pc_q := 83) (v := T.1 25 4) rfl rfl rfl rfl rfl rfl ?_
                refine ex_lo pm_M15 (pc_q := 84) (ls_q := [.ref 25, .int x1]) (st_q := [.ref 25, .int (T.1 25 4), .ref 26]) rfl rfl rfl ?_
                refine ex_getK pm_M15 (pc_q := 87) (j := 15) (b := 30) rfl rfl rfl rfl rfl ?_
                refine ex_getI' pm_M15 (pc_q := 90) (v := T.1 30 5) rfl rfl rfl rfl rfl rfl ?_
                refine ex_iast pm_M15 (pc_q := 91) rfl rfl ?_
                refine ex_lo pm_M15 (pc_q := 92) (ls_q := [.ref 25, .int x1]) (st_q := [.ref 25]) rfl rfl rfl ?_
                refine ex_op pm_M15 (pc_q := 93) (st_q := [.ref 25, .ref 25]) rfl rfl rfl ?_
                refine ex_getI' pm_M15 (pc_q := 96) (v := T.1 25 4) rfl rfl rfl rfl rfl rfl ?_
                refine ex_op pm_M15 (pc_q := 97) (st_q := [.int 1, .int (T.1 25 4), .ref 25]) rfl rfl rfl ?_
                refine ex_op pm_M15 (pc_q := 98) (st_q := [.int ((T.1 25 4) + 1), .ref 25]) rfl rfl rfl ?_
                refine ex_putI pm_M15 (pc_q := 101) rfl rfl rfl rfl rfl ?_
                refine ex_lo pm_M15 (pc_q := 102) (ls_q := [.ref 25, .int x1]) (st_q := [.ref 25]) rfl rfl rfl ?_
                refine ex_getK pm_M15 (pc_q := 105) (j := 15) (b := 30) rfl rfl rfl rfl rfl ?_
                refine ex_call pm_M15 (pc_q := 108) (ix := 80) (callee := 16) (np := 0) (kd := 0) (ra := [.ref 30]) (rest := []) rfl rfl rfl rfl pm_M16 rfl rfl rfl rfl (fun d11 => (H16 _ d11 (ex_sx (ex_sx T 26 ((T.1 25 4).toNatClampNeg) (T.1 30 5)) 25 4 ((T.1 25 4) + 1))).mono (fun r S13 e => ?_))
                obtain ⟨rfl, h14⟩ := e
                show ex_P _ _ 15 108 [.ref 25, .int x1] [] S13 _
                refine ex_lo pm_M15 (pc_q := 111) (ls_q := [.ref 25, .int (x1 + 1)]) (st_q := []) rfl rfl rfl ?_
                refine ex_goS pm_M15 (pc_q := 9) (st_q := []) rfl rfl ?_
                exact ih9 (x1 + 1) S13 (v5 S x1 T hI c5 c7 c9 c10 S13 h14)
              · -- not
                refine ex_lo pm_M15 (pc_q := 61) (ls_q := [.ref 25, .int x1]) (st_q := [.ref 25]) rfl rfl rfl ?_
                refine ex_op pm_M15 (pc_q := 62) (st_q := [.int 3, .ref 25]) rfl rfl rfl ?_
                refine ex_lo pm_M15 (pc_q := 63) (ls_q := [.ref 25, .int x1]) (st_q := [.ref 25, .int 3, .ref 25]) rfl rfl rfl ?_
                refine ex_getK pm_M15 (pc_q := 66) (j := 15) (b := 30) rfl rfl rfl rfl rfl ?_
                refine ex_getI' pm_M15 (pc_q := 69) (v := T.1 30 3) rfl rfl rfl rfl rfl rfl ?_
                refine ex_call pm_M15 (pc_q := 72) (ix := 70) (callee := 21) (np := 2) (kd := 0) (ra := [.int (T.1 30 3), .int 3, .ref 25]) (rest := []) rfl rfl rfl rfl pm_M21 rfl rfl rfl rfl (fun d15 => (H21 _ d15 3 (T.1 30 3) T).mono (fun r S17 e => ?_))
                obtain ⟨rfl, h18⟩ := e
                show ex_P _ _ 15 72 [.ref 25, .int x1] [] S17 _
                refine ex_br pm_M15 (pc_q := 101) (st_q := []) rfl rfl ?_
                refine ex_lo pm_M15 (pc_q := 102) (ls_q := [.ref 25, .int x1]) (st_q := [.ref 25]) rfl rfl rfl ?_
                refine ex_getK pm_M15 (pc_q := 105) (j := 15) (b := 30) rfl rfl rfl rfl rfl ?_
                refine ex_call pm_M15 (pc_q := 108) (ix := 80) (callee := 16) (np := 0) (kd := 0) (ra := [.ref 30]) (rest := []) rfl rfl rfl rfl pm_M16 rfl rfl rfl rfl (fun d19 => (H16 _ d19 S17).mono (fun r S21 e => ?_))
                obtain ⟨rfl, h22⟩ := e
                show ex_P _ _ 15 108 [.ref 25, .int x1] [] S21 _
                refine ex_lo pm_M15 (pc_q := 111) (ls_q := [.ref 25, .int (x1 + 1)]) (st_q := []) rfl rfl rfl ?_
                refine ex_goS pm_M15 (pc_q := 9) (st_q := []) rfl rfl ?_
                exact ih9 (x1 + 1) S21 (v6 S x1 T hI c5 c7 c9 c10 S17 h18 S21 h22)
            · -- not
              refine ex_lo pm_M15 (pc_q := 40) (ls_q := [.ref 25, .int x1]) (st_q := [.ref 25]) rfl rfl rfl ?_
              refine ex_op pm_M15 (pc_q := 41) (st_q := [.int 2, .ref 25]) rfl rfl rfl ?_
              refine ex_lo pm_M15 (pc_q := 42) (ls_q := [.ref 25, .int x1]) (st_q := [.ref 25, .int 2, .ref 25]) rfl rfl rfl ?_
              refine ex_getK pm_M15 (pc_q := 45) (j := 15) (b := 30) rfl rfl rfl rfl rfl ?_
              refine ex_getI' pm_M15 (pc_q := 48) (v := T.1 30 3) rfl rfl rfl rfl rfl rfl ?_
              refine ex_call pm_M15 (pc_q := 51) (ix := 70) (callee := 21) (np := 2) (kd := 0) (ra := [.int (T.1 30 3), .int 2, .ref 25]) (rest := []) rfl rfl rfl rfl pm_M21 rfl rfl rfl rfl (fun d23 => (H21 _ d23 2 (T.1 30 3) T).mono (fun r S25 e => ?_))
              obtain ⟨rfl, h26⟩ := e
              show ex_P _ _ 15 51 [.ref 25, .int x1] [] S25 _
              refine ex_lo pm_M15 (pc_q := 52) (ls_q := [.ref 25, .int x1]) (st_q := [.ref 25]) rfl rfl rfl ?_
              refine ex_getI' pm_M15 (pc_q := 55) (v := S25.1 25 4) rfl rfl rfl rfl rfl rfl ?_
              refine ex_op pm_M15 (pc_q := 57) (st_q := [.int 12, .int (S25.1 25 4)]) rfl rfl rfl ?_
              refine ex_icmp pm_M15 (t := 75) (pc_q := 60) rfl rfl rfl (fun c27 => ?_) (fun c27 => ?_)
              · -- S25.1 25 4 < 12
                refine ex_lo pm_M15 (pc_q := 76) (ls_q := [.ref 25, .int x1]) (st_q := [.ref 25]) rfl rfl rfl ?_
                refine ex_getK pm_M15 (pc_q := 79) (j := 16) (b := 26) rfl rfl rfl rfl rfl ?_
                refine ex_lo pm_M15 (pc_q := 80) (ls_q := [.ref 25, .int x1]) (st_q := [.ref 25, .ref 26]) rfl rfl rfl ?_
                refine ex_getI' pm_M15 (pc_q := 83) (v := S25.1 25 4) rfl rfl rfl rfl rfl rfl ?_
                refine ex_lo pm_M15 (pc_q := 84) (ls_q := [.ref 25, .int x1]) (st_q := [.ref 25, .int (S25.1 25 4), .ref 26]) rfl rfl rfl ?_
                refine ex_getK pm_M15 (pc_q := 87) (j := 15) (b := 30) rfl rfl rfl rfl rfl ?_
                refine ex_getI' pm_M15 (pc_q := 90) (v := S25.1 30 5) rfl rfl rfl rfl rfl rfl ?_
                refine ex_iast pm_M15 (pc_q := 91) rfl rfl ?_
                refine ex_lo pm_M15 (pc_q := 92) (ls_q := [.ref 25, .int x1]) (st_q := [.ref 25]) rfl rfl rfl ?_
                refine ex_op pm_M15 (pc_q := 93) (st_q := [.ref 25, .ref 25]) rfl rfl rfl ?_
                refine ex_getI' pm_M15 (pc_q := 96) (v := S25.1 25 4) rfl rfl rfl rfl rfl rfl ?_
                refine ex_op pm_M15 (pc_q := 97) (st_q := [.int 1, .int (S25.1 25 4), .ref 25]) rfl rfl rfl ?_
                refine ex_op pm_M15 (pc_q := 98) (st_q := [.int ((S25.1 25 4) + 1), .ref 25]) rfl rfl rfl ?_
                refine ex_putI pm_M15 (pc_q := 101) rfl rfl rfl rfl rfl ?_
                refine ex_lo pm_M15 (pc_q := 102) (ls_q := [.ref 25, .int x1]) (st_q := [.ref 25]) rfl rfl rfl ?_
                refine ex_getK pm_M15 (pc_q := 105) (j := 15) (b := 30) rfl rfl rfl rfl rfl ?_
                refine ex_call pm_M15 (pc_q := 108) (ix := 80) (callee := 16) (np := 0) (kd := 0) (ra := [.ref 30]) (rest := []) rfl rfl rfl rfl pm_M16 rfl rfl rfl rfl (fun d28 => (H16 _ d28 (ex_sx (ex_sx S25 26 ((S25.1 25 4).toNatClampNeg) (S25.1 30 5)) 25 4 ((S25.1 25 4) + 1))).mono (fun r S30 e => ?_))
                obtain ⟨rfl, h31⟩ := e
                show ex_P _ _ 15 108 [.ref 25, .int x1] [] S30 _
                refine ex_lo pm_M15 (pc_q := 111) (ls_q := [.ref 25, .int (x1 + 1)]) (st_q := []) rfl rfl rfl ?_
                refine ex_goS pm_M15 (pc_q := 9) (st_q := []) rfl rfl ?_
                exact ih9 (x1 + 1) S30 (v7 S x1 T hI c5 c7 c9 S25 h26 c27 S30 h31)
              · -- not
                refine ex_lo pm_M15 (pc_q := 61) (ls_q := [.ref 25, .int x1]) (st_q := [.ref 25]) rfl rfl rfl ?_
                refine ex_op pm_M15 (pc_q := 62) (st_q := [.int 3, .ref 25]) rfl rfl rfl ?_
                refine ex_lo pm_M15 (pc_q := 63) (ls_q := [.ref 25, .int x1]) (st_q := [.ref 25, .int 3, .ref 25]) rfl rfl rfl ?_
                refine ex_getK pm_M15 (pc_q := 66) (j := 15) (b := 30) rfl rfl rfl rfl rfl ?_
                refine ex_getI' pm_M15 (pc_q := 69) (v := S25.1 30 3) rfl rfl rfl rfl rfl rfl ?_
                refine ex_call pm_M15 (pc_q := 72) (ix := 70) (callee := 21) (np := 2) (kd := 0) (ra := [.int (S25.1 30 3), .int 3, .ref 25]) (rest := []) rfl rfl rfl rfl pm_M21 rfl rfl rfl rfl (fun d32 => (H21 _ d32 3 (S25.1 30 3) S25).mono (fun r S34 e => ?_))
                obtain ⟨rfl, h35⟩ := e
                show ex_P _ _ 15 72 [.ref 25, .int x1] [] S34 _
                refine ex_br pm_M15 (pc_q := 101) (st_q := []) rfl rfl ?_
                refine ex_lo pm_M15 (pc_q := 102) (ls_q := [.ref 25, .int x1]) (st_q := [.ref 25]) rfl rfl rfl ?_
                refine ex_getK pm_M15 (pc_q := 105) (j := 15) (b := 30) rfl rfl rfl rfl rfl ?_
                refine ex_call pm_M15 (pc_q := 108) (ix := 80) (callee := 16) (np := 0) (kd := 0) (ra := [.ref 30]) (rest := []) rfl rfl rfl rfl pm_M16 rfl rfl rfl rfl (fun d36 => (H16 _ d36 S34).mono (fun r S38 e => ?_))
                obtain ⟨rfl, h39⟩ := e
                show ex_P _ _ 15 108 [.ref 25, .int x1] [] S38 _
                refine ex_lo pm_M15 (pc_q := 111) (ls_q := [.ref 25, .int (x1 + 1)]) (st_q := []) rfl rfl rfl ?_
                refine ex_goS pm_M15 (pc_q := 9) (st_q := []) rfl rfl ?_
                exact ih9 (x1 + 1) S38 (v8 S x1 T hI c5 c7 c9 S25 h26 c27 S34 h35 S38 h39)
      exact L9
  have L9 := LL N
  refine ex_lo pm_M15 (pc_q := 1) (ls_q := [.ref 25, pm_no]) (st_q := [.ref 25]) rfl rfl rfl ?_
  refine ex_getK pm_M15 (pc_q := 4) (j := 15) (b := 30) rfl rfl rfl rfl rfl ?_
  refine ex_call pm_M15 (pc_q := 7) (ix := 80) (callee := 16) (np := 0) (kd := 0) (ra := [.ref 30]) (rest := []) rfl rfl rfl rfl pm_M16 rfl rfl rfl rfl (fun d1 => (H16 _ d1 S).mono (fun r S3 e => ?_))
  obtain ⟨rfl, h4⟩ := e
  show ex_P _ _ 15 7 [.ref 25, pm_no] [] S3 _
  refine ex_op pm_M15 (pc_q := 8) (st_q := [.int 0]) rfl rfl rfl ?_
  refine ex_lo pm_M15 (pc_q := 9) (ls_q := [.ref 25, .int 0]) (st_q := []) rfl rfl rfl ?_
  exact L9 0 S3 (v0 S S3 h4)
set_option maxRecDepth 100000 in
set_option maxHeartbeats 4000000 in
/-- java/util/Arrays.fill -/
theorem ev13 {C : Nat → Int32 → ex_S → ex_S → Prop} {I5 : Nat → Int32 → ex_S → Int32 → Int32 → ex_S → Prop} 
    (v0 : ∀ (a0 : Nat) (a1 : Int32) (S : ex_S), I5 a0 a1 S 0 (Int32.ofNat (S.2.2.2.1 a0)) S) 
    (v1 : ∀ (a0 : Nat) (a1 : Int32) (S : ex_S) (x2 : Int32) (x3 : Int32) (T : ex_S), I5 a0 a1 S x2 x3 T → x3 ≤ x2 → C a0 a1 S T) 
    (v2 : ∀ (a0 : Nat) (a1 : Int32) (S : ex_S) (x2 : Int32) (x3 : Int32) (T : ex_S), I5 a0 a1 S x2 x3 T → ¬ (x3 ≤ x2) → I5 a0 a1 S (x2 + 1) x3 (ex_sx T a0 x2.toNatClampNeg a1)) : es13 C := by
  intro N d a0 a1 S
  have LL : ∀ N : Nat, (∀ (x2 : Int32) (x3 : Int32) (T : ex_S), I5 a0 a1 S x2 x3 T → ex_P N d 13 5 [.ref a0, .int a1, .int x2, .int x3] [] T (fun r S_q => r = none ∧ C a0 a1 S S_q)) := by
    intro N
    induction N with
    | zero => exact fun _ _ _ _ => ex_zero
    | succ N ih =>
      have ih5 := ih
      have L5 : ∀ (x2 : Int32) (x3 : Int32) (T : ex_S), I5 a0 a1 S x2 x3 T → ex_P (N + 1) d 13 5 [.ref a0, .int a1, .int x2, .int x3] [] T (fun r S_q => r = none ∧ C a0 a1 S S_q) := by
        intro x2 x3 T hI
        refine ex_lo pm_M13 (pc_q := 6) (ls_q := [.ref a0, .int a1, .int x2, .int x3]) (st_q := [.int x2]) rfl rfl rfl ?_
        refine ex_lo pm_M13 (pc_q := 7) (ls_q := [.ref a0, .int a1, .int x2, .int x3]) (st_q := [.int x3, .int x2]) rfl rfl rfl ?_
        refine ex_icmp pm_M13 (t := 20) (pc_q := 10) rfl rfl rfl (fun c1 => ?_) (fun c1 => ?_)
        · -- x3 ≤ x2
          exact ex_ret pm_M13 (r := none) rfl rfl (⟨rfl, v1 a0 a1 S x2 x3 T hI c1⟩)
        · -- not
          refine ex_lo pm_M13 (pc_q := 11) (ls_q := [.ref a0, .int a1, .int x2, .int x3]) (st_q := [.ref a0]) rfl rfl rfl ?_
          refine ex_lo pm_M13 (pc_q := 12) (ls_q := [.ref a0, .int a1, .int x2, .int x3]) (st_q := [.int x2, .ref a0]) rfl rfl rfl ?_
          refine ex_lo pm_M13 (pc_q := 13) (ls_q := [.ref a0, .int a1, .int x2, .int x3]) (st_q := [.int a1, .int x2, .ref a0]) rfl rfl rfl ?_
          refine ex_iast pm_M13 (pc_q := 14) rfl rfl ?_
          refine ex_lo pm_M13 (pc_q := 17) (ls_q := [.ref a0, .int a1, .int (x2 + 1), .int x3]) (st_q := []) rfl rfl rfl ?_
          refine ex_goS pm_M13 (pc_q := 5) (st_q := []) rfl rfl ?_
          exact ih5 (x2 + 1) x3 (ex_sx T a0 x2.toNatClampNeg a1) (v2 a0 a1 S x2 x3 T hI c1)
      exact L5
  have L5 := LL N
  refine ex_op pm_M13 (pc_q := 1) (st_q := [.int 0]) rfl rfl rfl ?_
  refine ex_lo pm_M13 (pc_q := 2) (ls_q := [.ref a0, .int a1, .int 0, pm_no]) (st_q := []) rfl rfl rfl ?_
  refine ex_lo pm_M13 (pc_q := 3) (ls_q := [.ref a0, .int a1, .int 0, pm_no]) (st_q := [.ref a0]) rfl rfl rfl ?_
  refine ex_alen pm_M13 (pc_q := 4) rfl rfl ?_
  refine ex_lo pm_M13 (pc_q := 5) (ls_q := [.ref a0, .int a1, .int 0, .int (Int32.ofNat (S.2.2.2.1 a0))]) (st_q := []) rfl rfl rfl ?_
  exact L5 0 (Int32.ofNat (S.2.2.2.1 a0)) S (v0 a0 a1 S)
set_option maxRecDepth 100000 in
set_option maxHeartbeats 4000000 in
/-- SilentTable$TextReader.forget -/
theorem ev12 {C : ex_S → ex_S → Prop} {C13 : Nat → Int32 → ex_S → ex_S → Prop} (H13 : es13 C13) 
    (v0 : ∀ (S : ex_S) (S3 : ex_S), C13 28 0 (ex_sx (ex_sx (ex_sx (ex_sx S 25 1 0) 25 2 (-1)) 25 4 0) 25 6 0) S3 → C S (ex_sx (ex_sx S3 25 8 4) 25 9 (-1))) : es12 C := by
  intro N d  S
  refine ex_lo pm_M12 (pc_q := 1) (ls_q := [.ref 25]) (st_q := [.ref 25]) rfl rfl rfl ?_
  refine ex_op pm_M12 (pc_q := 2) (st_q := [.int 0, .ref 25]) rfl rfl rfl ?_
  refine ex_putI pm_M12 (pc_q := 5) rfl rfl rfl rfl rfl ?_
  refine ex_lo pm_M12 (pc_q := 6) (ls_q := [.ref 25]) (st_q := [.ref 25]) rfl rfl rfl ?_
  refine ex_op pm_M12 (pc_q := 7) (st_q := [.int (-1), .ref 25]) rfl rfl rfl ?_
  refine ex_putI pm_M12 (pc_q := 10) rfl rfl rfl rfl rfl ?_
  refine ex_lo pm_M12 (pc_q := 11) (ls_q := [.ref 25]) (st_q := [.ref 25]) rfl rfl rfl ?_
  refine ex_op pm_M12 (pc_q := 12) (st_q := [.int 0, .ref 25]) rfl rfl rfl ?_
  refine ex_putI pm_M12 (pc_q := 15) rfl rfl rfl rfl rfl ?_
  refine ex_lo pm_M12 (pc_q := 16) (ls_q := [.ref 25]) (st_q := [.ref 25]) rfl rfl rfl ?_
  refine ex_op pm_M12 (pc_q := 17) (st_q := [.int 0, .ref 25]) rfl rfl rfl ?_
  refine ex_putI pm_M12 (pc_q := 20) rfl rfl rfl rfl rfl ?_
  refine ex_lo pm_M12 (pc_q := 21) (ls_q := [.ref 25]) (st_q := [.ref 25]) rfl rfl rfl ?_
  refine ex_getK pm_M12 (pc_q := 24) (j := 18) (b := 28) rfl rfl rfl rfl rfl ?_
  refine ex_op pm_M12 (pc_q := 25) (st_q := [.int 0, .ref 28]) rfl rfl rfl ?_
  refine ex_call pm_M12 (pc_q := 28) (ix := 74) (callee := 13) (np := 2) (kd := 2) (ra := [.int 0, .ref 28]) (rest := []) rfl rfl rfl rfl pm_M13 rfl rfl rfl rfl (fun d1 => (H13 _ d1 28 0 (ex_sx (ex_sx (ex_sx (ex_sx S 25 1 0) 25 2 (-1)) 25 4 0) 25 6 0)).mono (fun r S3 e => ?_))
  obtain ⟨rfl, h4⟩ := e
  show ex_P _ _ 12 28 [.ref 25] [] S3 _
  refine ex_lo pm_M12 (pc_q := 29) (ls_q := [.ref 25]) (st_q := [.ref 25]) rfl rfl rfl ?_
  refine ex_op pm_M12 (pc_q := 30) (st_q := [.int 4, .ref 25]) rfl rfl rfl ?_
  refine ex_putI pm_M12 (pc_q := 33) rfl rfl rfl rfl rfl ?_
  refine ex_lo pm_M12 (pc_q := 34) (ls_q := [.ref 25]) (st_q := [.ref 25]) rfl rfl rfl ?_
  refine ex_op pm_M12 (pc_q := 35) (st_q := [.int (-1), .ref 25]) rfl rfl rfl ?_
  refine ex_putI pm_M12 (pc_q := 38) rfl rfl rfl rfl rfl ?_
  exact ex_ret pm_M12 (r := none) rfl rfl (⟨rfl, v0 S S3 h4⟩)
set_option maxRecDepth 100000 in
set_option maxHeartbeats 4000000 in
/-- SilentTable$TextReader.readTape -/
theorem ev11 {C : Int32 → Int32 → ex_S → ex_S → Prop} {C12 : ex_S → ex_S → Prop} {C14 : Int32 → ex_S → ex_S → Prop} {C15 : ex_S → Int32 → ex_S → Prop} {C21 : Int32 → Int32 → ex_S → ex_S → Prop} {C22 : Int32 → ex_S → Int32 → ex_S → Prop} (H12 : es12 C12) (H14 : es14 C14) (H15 : es15 C15) (H21 : es21 C21) (H22 : es22 C22) 
    (v0 : ∀ (a0 : Int32) (a1 : Int32) (S : ex_S) (S3 : ex_S), C12 S S3 → ∀ (S7 : ex_S), C14 a0 S3 S7 → ¬ a1 = 1 → ∀ (r11 : Int32) (S12 : ex_S), C22 a1 S7 r11 S12 → ¬ r11 = 0 → ¬ a1 = 2 → C a0 a1 S S12) 
    (v1 : ∀ (a0 : Int32) (a1 : Int32) (S : ex_S) (S3 : ex_S), C12 S S3 → ∀ (S7 : ex_S), C14 a0 S3 S7 → ¬ a1 = 1 → ∀ (r11 : Int32) (S12 : ex_S), C22 a1 S7 r11 S12 → ¬ r11 = 0 → ¬ (¬ a1 = 2) → S12.1 25 9 < S12.1 25 8 → C a0 a1 S S12) 
    (v2 : ∀ (a0 : Int32) (a1 : Int32) (S : ex_S) (S3 : ex_S), C12 S S3 → ∀ (S7 : ex_S), C14 a0 S3 S7 → ¬ a1 = 1 → ∀ (r11 : Int32) (S12 : ex_S), C22 a1 S7 r11 S12 → ¬ r11 = 0 → ¬ (¬ a1 = 2) → ¬ (S12.1 25 9 < S12.1 25 8) → ∀ (S20 : ex_S), C21 4 a0 S12 S20 → C a0 a1 S S20) 
    (v3 : ∀ (a0 : Int32) (a1 : Int32) (S : ex_S) (S3 : ex_S), C12 S S3 → ∀ (S7 : ex_S), C14 a0 S3 S7 → ¬ a1 = 1 → ∀ (r11 : Int32) (S12 : ex_S), C22 a1 S7 r11 S12 → ¬ (¬ r11 = 0) → C a0 a1 S (ex_sx (ex_sx S12 25 1 1) 25 2 (S12.1 30 3))) 
    (v4 : ∀ (a0 : Int32) (a1 : Int32) (S : ex_S) (S3 : ex_S), C12 S S3 → ∀ (S7 : ex_S), C14 a0 S3 S7 → ¬ (¬ a1 = 1) → ∀ (r23 : Int32) (S24 : ex_S), C15 S7 r23 S24 → ¬ r23 = 0 → S24.1 25 4 = 0 → ∀ (S31 : ex_S), C21 4 a0 S24 S31 → C a0 a1 S S31) 
    (v5 : ∀ (a0 : Int32) (a1 : Int32) (S : ex_S) (S3 : ex_S), C12 S S3 → ∀ (S7 : ex_S), C14 a0 S3 S7 → ¬ (¬ a1 = 1) → ∀ (r23 : Int32) (S24 : ex_S), C15 S7 r23 S24 → ¬ r23 = 0 → ¬ (S24.1 25 4 = 0) → ¬ a1 = 2 → C a0 a1 S S24) 
    (v6 : ∀ (a0 : Int32) (a1 : Int32) (S : ex_S) (S3 : ex_S), C12 S S3 → ∀ (S7 : ex_S), C14 a0 S3 S7 → ¬ (¬ a1 = 1) → ∀ (r23 : Int32) (S24 : ex_S), C15 S7 r23 S24 → ¬ r23 = 0 → ¬ (S24.1 25 4 = 0) → ¬ (¬ a1 = 2) → S24.1 25 9 < S24.1 25 8 → C a0 a1 S S24) 
    (v7 : ∀ (a0 : Int32) (a1 : Int32) (S : ex_S) (S3 : ex_S), C12 S S3 → ∀ (S7 : ex_S), C14 a0 S3 S7 → ¬ (¬ a1 = 1) → ∀ (r23 : Int32) (S24 : ex_S), C15 S7 r23 S24 → ¬ r23 = 0 → ¬ (S24.1 25 4 = 0) → ¬ (¬ a1 = 2) → ¬ (S24.1 25 9 < S24.1 25 8) → ∀ (S37 : ex_S), C21 4 a0 S24 S37 → C a0 a1 S S37) 
    (v8 : ∀ (a0 : Int32) (a1 : Int32) (S : ex_S) (S3 : ex_S), C12 S S3 → ∀ (S7 : ex_S), C14 a0 S3 S7 → ¬ (¬ a1 = 1) → ∀ (r23 : Int32) (S24 : ex_S), C15 S7 r23 S24 → ¬ (¬ r23 = 0) → C a0 a1 S (ex_sx (ex_sx S24 25 1 1) 25 2 (S24.1 30 3))) : es11 C := by
  intro N d a0 a1 S
  refine ex_lo pm_M11 (pc_q := 1) (ls_q := [.ref 25, .int a0, .int a1, pm_no]) (st_q := [.ref 25]) rfl rfl rfl ?_
  refine ex_call pm_M11 (pc_q := 4) (ix := 52) (callee := 12) (np := 0) (kd := 0) (ra := [.ref 25]) (rest := []) rfl rfl rfl rfl pm_M12 rfl rfl rfl rfl (fun d1 => (H12 _ d1 S).mono (fun r S3 e => ?_))
  obtain ⟨rfl, h4⟩ := e
  show ex_P _ _ 11 4 [.ref 25, .int a0, .int a1, pm_no] [] S3 _
  refine ex_lo pm_M11 (pc_q := 5) (ls_q := [.ref 25, .int a0, .int a1, pm_no]) (st_q := [.ref 25]) rfl rfl rfl ?_
  refine ex_getK pm_M11 (pc_q := 8) (j := 15) (b := 30) rfl rfl rfl rfl rfl ?_
  refine ex_lo pm_M11 (pc_q := 9) (ls_q := [.ref 25, .int a0, .int a1, pm_no]) (st_q := [.int a0, .ref 30]) rfl rfl rfl ?_
  refine ex_call pm_M11 (pc_q := 12) (ix := 55) (callee := 14) (np := 1) (kd := 0) (ra := [.int a0, .ref 30]) (rest := []) rfl rfl rfl rfl pm_M14 rfl rfl rfl rfl (fun d5 => (H14 _ d5 a0 S3).mono (fun r S7 e => ?_))
  obtain ⟨rfl, h8⟩ := e
  show ex_P _ _ 11 12 [.ref 25, .int a0, .int a1, pm_no] [] S7 _
  refine ex_lo pm_M11 (pc_q := 13) (ls_q := [.ref 25, .int a0, .int a1, pm_no]) (st_q := [.int a1]) rfl rfl rfl ?_
  refine ex_op pm_M11 (pc_q := 14) (st_q := [.int 1, .int a1]) rfl rfl rfl ?_
  refine ex_icmp pm_M11 (t := 24) (pc_q := 17) rfl rfl rfl (fun c9 => ?_) (fun c9 => ?_)
  · -- ¬ a1 = 1
    refine ex_lo pm_M11 (pc_q := 25) (ls_q := [.ref 25, .int a0, .int a1, pm_no]) (st_q := [.ref 25]) rfl rfl rfl ?_
    refine ex_lo pm_M11 (pc_q := 26) (ls_q := [.ref 25, .int a0, .int a1, pm_no]) (st_q := [.int a1, .ref 25]) rfl rfl rfl ?_
    refine ex_call pm_M11 (pc_q := 29) (ix := 63) (callee := 22) (np := 1) (kd := 0) (ra := [.int a1, .ref 25]) (rest := []) rfl rfl rfl rfl pm_M22 rfl rfl rfl rfl (fun d10 => (H22 _ d10 a1 S7).mono (fun r S12 e => ?_))
    obtain ⟨r11, rfl, h13⟩ := e
    show ex_P _ _ 11 29 [.ref 25, .int a0, .int a1, pm_no] [.int r11] S12 _
    refine ex_lo pm_M11 (pc_q := 30) (ls_q := [.ref 25, .int a0, .int a1, .int r11]) (st_q := []) rfl rfl rfl ?_
    refine ex_lo pm_M11 (pc_q := 31) (ls_q := [.ref 25, .int a0, .int a1, .int r11]) (st_q := [.int r11]) rfl rfl rfl ?_
    refine ex_ifc pm_M11 (t := 53) (pc_q := 34) rfl rfl rfl (fun c14 => ?_) (fun c14 => ?_)
    · -- ¬ r11 = 0
      refine ex_lo pm_M11 (pc_q := 54) (ls_q := [.ref 25, .int a0, .int a1, .int r11]) (st_q := [.int a1]) rfl rfl rfl ?_
      refine ex_op pm_M11 (pc_q := 55) (st_q := [.int 1, .int a1]) rfl rfl rfl ?_
      refine ex_icmp pm_M11 (t := 65) (pc_q := 58) rfl rfl rfl (fun _ => ?_) (fun z => absurd c9 z)
      refine ex_lo pm_M11 (pc_q := 66) (ls_q := [.ref 25, .int a0, .int a1, .int r11]) (st_q := [.int a1]) rfl rfl rfl ?_
      refine ex_op pm_M11 (pc_q := 67) (st_q := [.int 2, .int a1]) rfl rfl rfl ?_
      refine ex_icmp pm_M11 (t := 87) (pc_q := 70) rfl rfl rfl (fun c16 => ?_) (fun c16 => ?_)
      · -- ¬ a1 = 2
        exact ex_ret pm_M11 (r := none) rfl rfl (⟨rfl, v0 a0 a1 S S3 h4 S7 h8 c9 r11 S12 h13 c14 c16⟩)
      · -- not
        refine ex_lo pm_M11 (pc_q := 71) (ls_q := [.ref 25, .int a0, .int a1, .int r11]) (st_q := [.ref 25]) rfl rfl rfl ?_
        refine ex_getI' pm_M11 (pc_q := 74) (v := S12.1 25 9) rfl rfl rfl rfl rfl rfl ?_
        refine ex_lo pm_M11 (pc_q := 75) (ls_q := [.ref 25, .int a0, .int a1, .int r11]) (st_q := [.ref 25, .int (S12.1 25 9)]) rfl rfl rfl ?_
        refine ex_getI' pm_M11 (pc_q := 78) (v := S12.1 25 8) rfl rfl rfl rfl rfl rfl ?_
        refine ex_icmp pm_M11 (t := 87) (pc_q := 81) rfl rfl rfl (fun c17 => ?_) (fun c17 => ?_)
        · -- S12.1 25 9 < S12.1 25 8
          exact ex_ret pm_M11 (r := none) rfl rfl (⟨rfl, v1 a0 a1 S S3 h4 S7 h8 c9 r11 S12 h13 c14 c16 c17⟩)
        · -- not
          refine ex_lo pm_M11 (pc_q := 82) (ls_q := [.ref 25, .int a0, .int a1, .int r11]) (st_q := [.ref 25]) rfl rfl rfl ?_
          refine ex_op pm_M11 (pc_q := 83) (st_q := [.int 4, .ref 25]) rfl rfl rfl ?_
          refine ex_lo pm_M11 (pc_q := 84) (ls_q := [.ref 25, .int a0, .int a1, .int r11]) (st_q := [.int a0, .int 4, .ref 25]) rfl rfl rfl ?_
          refine ex_call pm_M11 (pc_q := 87) (ix := 70) (callee := 21) (np := 2) (kd := 0) (ra := [.int a0, .int 4, .ref 25]) (rest := []) rfl rfl rfl rfl pm_M21 rfl rfl rfl rfl (fun d18 => (H21 _ d18 4 a0 S12).mono (fun r S20 e => ?_))
          obtain ⟨rfl, h21⟩ := e
          show ex_P _ _ 11 87 [.ref 25, .int a0, .int a1, .int r11] [] S20 _
          exact ex_ret pm_M11 (r := none) rfl rfl (⟨rfl, v2 a0 a1 S S3 h4 S7 h8 c9 r11 S12 h13 c14 c16 c17 S20 h21⟩)
    · -- not
      refine ex_lo pm_M11 (pc_q := 35) (ls_q := [.ref 25, .int a0, .int a1, .int r11]) (st_q := [.ref 25]) rfl rfl rfl ?_
      refine ex_op pm_M11 (pc_q := 36) (st_q := [.int 1, .ref 25]) rfl rfl rfl ?_
      refine ex_putI pm_M11 (pc_q := 39) rfl rfl rfl rfl rfl ?_
      refine ex_lo pm_M11 (pc_q := 40) (ls_q := [.ref 25, .int a0, .int a1, .int r11]) (st_q := [.ref 25]) rfl rfl rfl ?_
      refine ex_lo pm_M11 (pc_q := 41) (ls_q := [.ref 25, .int a0, .int a1, .int r11]) (st_q := [.ref 25, .ref 25]) rfl rfl rfl ?_
      refine ex_getK pm_M11 (pc_q := 44) (j := 15) (b := 30) rfl rfl rfl rfl rfl ?_
      refine ex_getI' pm_M11 (pc_q := 47) (v := S12.1 30 3) rfl rfl rfl rfl rfl rfl ?_
      refine ex_putI pm_M11 (pc_q := 50) rfl rfl rfl rfl rfl ?_
      refine ex_br pm_M11 (pc_q := 87) (st_q := []) rfl rfl ?_
      exact ex_ret pm_M11 (r := none) rfl rfl (⟨rfl, v3 a0 a1 S S3 h4 S7 h8 c9 r11 S12 h13 c14⟩)
  · -- not
    refine ex_lo pm_M11 (pc_q := 18) (ls_q := [.ref 25, .int a0, .int a1, pm_no]) (st_q := [.ref 25]) rfl rfl rfl ?_
    refine ex_call pm_M11 (pc_q := 21) (ix := 59) (callee := 15) (np := 0) (kd := 0) (ra := [.ref 25]) (rest := []) rfl rfl rfl rfl pm_M15 rfl rfl rfl rfl (fun d22 => (H15 _ d22 S7).mono (fun r S24 e => ?_))
    obtain ⟨r23, rfl, h25⟩ := e
    show ex_P _ _ 11 21 [.ref 25, .int a0, .int a1, pm_no] [.int r23] S24 _
    refine ex_br pm_M11 (pc_q := 29) (st_q := [.int r23]) rfl rfl ?_
    refine ex_lo pm_M11 (pc_q := 30) (ls_q := [.ref 25, .int a0, .int a1, .int r23]) (st_q := []) rfl rfl rfl ?_
    refine ex_lo pm_M11 (pc_q := 31) (ls_q := [.ref 25, .int a0, .int a1, .int r23]) (st_q := [.int r23]) rfl rfl rfl ?_
    refine ex_ifc pm_M11 (t := 53) (pc_q := 34) rfl rfl rfl (fun c26 => ?_) (fun c26 => ?_)
    · -- ¬ r23 = 0
      refine ex_lo pm_M11 (pc_q := 54) (ls_q := [.ref 25, .int a0, .int a1, .int r23]) (st_q := [.int a1]) rfl rfl rfl ?_
      refine ex_op pm_M11 (pc_q := 55) (st_q := [.int 1, .int a1]) rfl rfl rfl ?_
      refine ex_icmp pm_M11 (t := 65) (pc_q := 58) rfl rfl rfl (fun z => absurd z c9) (fun _ => ?_)
      refine ex_lo pm_M11 (pc_q := 59) (ls_q := [.ref 25, .int a0, .int a1, .int r23]) (st_q := [.ref 25]) rfl rfl rfl ?_
      refine ex_getI' pm_M11 (pc_q := 62) (v := S24.1 25 4) rfl rfl rfl rfl rfl rfl ?_
      refine ex_ifc pm_M11 (t := 81) (pc_q := 65) rfl rfl rfl (fun c28 => ?_) (fun c28 => ?_)
      · -- S24.1 25 4 = 0
        refine ex_lo pm_M11 (pc_q := 82) (ls_q := [.ref 25, .int a0, .int a1, .int r23]) (st_q := [.ref 25]) rfl rfl rfl ?_
        refine ex_op pm_M11 (pc_q := 83) (st_q := [.int 4, .ref 25]) rfl rfl rfl ?_
        refine ex_lo pm_M11 (pc_q := 84) (ls_q := [.ref 25, .int a0, .int a1, .int r23]) (st_q := [.int a0, .int 4, .ref 25]) rfl rfl rfl ?_
        refine ex_call pm_M11 (pc_q := 87) (ix := 70) (callee := 21) (np := 2) (kd := 0) (ra := [.int a0, .int 4, .ref 25]) (rest := []) rfl rfl rfl rfl pm_M21 rfl rfl rfl rfl (fun d29 => (H21 _ d29 4 a0 S24).mono (fun r S31 e => ?_))
        obtain ⟨rfl, h32⟩ := e
        show ex_P _ _ 11 87 [.ref 25, .int a0, .int a1, .int r23] [] S31 _
        exact ex_ret pm_M11 (r := none) rfl rfl (⟨rfl, v4 a0 a1 S S3 h4 S7 h8 c9 r23 S24 h25 c26 c28 S31 h32⟩)
      · -- not
        refine ex_lo pm_M11 (pc_q := 66) (ls_q := [.ref 25, .int a0, .int a1, .int r23]) (st_q := [.int a1]) rfl rfl rfl ?_
        refine ex_op pm_M11 (pc_q := 67) (st_q := [.int 2, .int a1]) rfl rfl rfl ?_
        refine ex_icmp pm_M11 (t := 87) (pc_q := 70) rfl rfl rfl (fun c33 => ?_) (fun c33 => ?_)
        · -- ¬ a1 = 2
          exact ex_ret pm_M11 (r := none) rfl rfl (⟨rfl, v5 a0 a1 S S3 h4 S7 h8 c9 r23 S24 h25 c26 c28 c33⟩)
        · -- not
          refine ex_lo pm_M11 (pc_q := 71) (ls_q := [.ref 25, .int a0, .int a1, .int r23]) (st_q := [.ref 25]) rfl rfl rfl ?_
          refine ex_getI' pm_M11 (pc_q := 74) (v := S24.1 25 9) rfl rfl rfl rfl rfl rfl ?_
          refine ex_lo pm_M11 (pc_q := 75) (ls_q := [.ref 25, .int a0, .int a1, .int r23]) (st_q := [.ref 25, .int (S24.1 25 9)]) rfl rfl rfl ?_
          refine ex_getI' pm_M11 (pc_q := 78) (v := S24.1 25 8) rfl rfl rfl rfl rfl rfl ?_
          refine ex_icmp pm_M11 (t := 87) (pc_q := 81) rfl rfl rfl (fun c34 => ?_) (fun c34 => ?_)
          · -- S24.1 25 9 < S24.1 25 8
            exact ex_ret pm_M11 (r := none) rfl rfl (⟨rfl, v6 a0 a1 S S3 h4 S7 h8 c9 r23 S24 h25 c26 c28 c33 c34⟩)
          · -- not
            refine ex_lo pm_M11 (pc_q := 82) (ls_q := [.ref 25, .int a0, .int a1, .int r23]) (st_q := [.ref 25]) rfl rfl rfl ?_
            refine ex_op pm_M11 (pc_q := 83) (st_q := [.int 4, .ref 25]) rfl rfl rfl ?_
            refine ex_lo pm_M11 (pc_q := 84) (ls_q := [.ref 25, .int a0, .int a1, .int r23]) (st_q := [.int a0, .int 4, .ref 25]) rfl rfl rfl ?_
            refine ex_call pm_M11 (pc_q := 87) (ix := 70) (callee := 21) (np := 2) (kd := 0) (ra := [.int a0, .int 4, .ref 25]) (rest := []) rfl rfl rfl rfl pm_M21 rfl rfl rfl rfl (fun d35 => (H21 _ d35 4 a0 S24).mono (fun r S37 e => ?_))
            obtain ⟨rfl, h38⟩ := e
            show ex_P _ _ 11 87 [.ref 25, .int a0, .int a1, .int r23] [] S37 _
            exact ex_ret pm_M11 (r := none) rfl rfl (⟨rfl, v7 a0 a1 S S3 h4 S7 h8 c9 r23 S24 h25 c26 c28 c33 c34 S37 h38⟩)
    · -- not
      refine ex_lo pm_M11 (pc_q := 35) (ls_q := [.ref 25, .int a0, .int a1, .int r23]) (st_q := [.ref 25]) rfl rfl rfl ?_
      refine ex_op pm_M11 (pc_q := 36) (st_q := [.int 1, .ref 25]) rfl rfl rfl ?_
      refine ex_putI pm_M11 (pc_q := 39) rfl rfl rfl rfl rfl ?_
      refine ex_lo pm_M11 (pc_q := 40) (ls_q := [.ref 25, .int a0, .int a1, .int r23]) (st_q := [.ref 25]) rfl rfl rfl ?_
      refine ex_lo pm_M11 (pc_q := 41) (ls_q := [.ref 25, .int a0, .int a1, .int r23]) (st_q := [.ref 25, .ref 25]) rfl rfl rfl ?_
      refine ex_getK pm_M11 (pc_q := 44) (j := 15) (b := 30) rfl rfl rfl rfl rfl ?_
      refine ex_getI' pm_M11 (pc_q := 47) (v := S24.1 30 3) rfl rfl rfl rfl rfl rfl ?_
      refine ex_putI pm_M11 (pc_q := 50) rfl rfl rfl rfl rfl ?_
      refine ex_br pm_M11 (pc_q := 87) (st_q := []) rfl rfl ?_
      exact ex_ret pm_M11 (r := none) rfl rfl (⟨rfl, v8 a0 a1 S S3 h4 S7 h8 c9 r23 S24 h25 c26⟩)
