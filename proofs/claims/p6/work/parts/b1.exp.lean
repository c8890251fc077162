set_option maxRecDepth 100000 in
set_option maxHeartbeats 4000000 in
/-- SilentTableModel.list -/
theorem ev195 {C : Int32 → Int32 → ex_S → Int32 → ex_S → Prop} 
    (v0 : ∀ (a0 : Int32) (a1 : Int32) (S : ex_S), vf174 a0 0 ((S.1 46 0) - 1) = 0 → C a0 a1 S (-1) (ex_sx S 41 0 0)) 
    (v1 : ∀ (a0 : Int32) (a1 : Int32) (S : ex_S), ¬ (vf174 a0 0 ((S.1 46 0) - 1) = 0) → ¬ vf174 a1 0 1 = 0 → 2 ≤ a1 → C a0 a1 S (S.1 47 (((100 * a0) + ((90 + a1) - 10)).toNatClampNeg)) (ex_sx S 41 0 0)) 
    (v2 : ∀ (a0 : Int32) (a1 : Int32) (S : ex_S), ¬ (vf174 a0 0 ((S.1 46 0) - 1) = 0) → ¬ vf174 a1 0 1 = 0 → ¬ (2 ≤ a1) → C a0 a1 S (S.1 47 (((100 * a0) + a1).toNatClampNeg)) (ex_sx S 41 0 0)) 
    (v3 : ∀ (a0 : Int32) (a1 : Int32) (S : ex_S), ¬ (vf174 a0 0 ((S.1 46 0) - 1) = 0) → ¬ (¬ vf174 a1 0 1 = 0) → vf174 a1 10 19 = 0 → C a0 a1 S (-1) (ex_sx S 41 0 0)) 
    (v4 : ∀ (a0 : Int32) (a1 : Int32) (S : ex_S), ¬ (vf174 a0 0 ((S.1 46 0) - 1) = 0) → ¬ (¬ vf174 a1 0 1 = 0) → ¬ (vf174 a1 10 19 = 0) → 2 ≤ a1 → C a0 a1 S (S.1 47 (((100 * a0) + ((90 + a1) - 10)).toNatClampNeg)) (ex_sx S 41 0 0)) 
    (v5 : ∀ (a0 : Int32) (a1 : Int32) (S : ex_S), ¬ (vf174 a0 0 ((S.1 46 0) - 1) = 0) → ¬ (¬ vf174 a1 0 1 = 0) → ¬ (vf174 a1 10 19 = 0) → ¬ (2 ≤ a1) → C a0 a1 S (S.1 47 (((100 * a0) + a1).toNatClampNeg)) (ex_sx S 41 0 0)) : es195 C := by
  intro N d a0 a1 S
  refine ex_lo pm_M195 (pc' := 1) (ls' := [.ref 41, .int a0, .int a1]) (st' := [.ref 41]) rfl rfl rfl ?_
  refine ex_op pm_M195 (pc' := 2) (st' := [.int 0, .ref 41]) rfl rfl rfl ?_
  refine ex_putI pm_M195 (pc' := 5) rfl rfl rfl rfl rfl ?_
  refine ex_lo pm_M195 (pc' := 6) (ls' := [.ref 41, .int a0, .int a1]) (st' := [.ref 41]) rfl rfl rfl ?_
  refine ex_op pm_M195 (pc' := 7) (st' := [.int 0, .ref 41]) rfl rfl rfl ?_
  refine ex_lo pm_M195 (pc' := 8) (ls' := [.ref 41, .int a0, .int a1]) (st' := [.int a0, .int 0, .ref 41]) rfl rfl rfl ?_
  refine ex_call pm_M195 (pc' := 11) (ix := 244) (callee := 177) (np := 2) (kd := 0) (ra := [.int a0, .int 0, .ref 41]) (rest := []) rfl rfl rfl rfl pm_M177 rfl rfl rfl rfl (fun d1 => ?_)
  refine ex_lo pm_M177 (pc' := 1) (ls' := [.ref 41, .int 0, .int a0]) (st' := [.int a0]) rfl rfl rfl ?_
  refine ex_op pm_M177 (pc' := 2) (st' := [.int 0, .int a0]) rfl rfl rfl ?_
  refine ex_lo pm_M177 (pc' := 3) (ls' := [.ref 41, .int 0, .int a0]) (st' := [.ref 41, .int 0, .int a0]) rfl rfl rfl ?_
  refine ex_getK pm_M177 (pc' := 6) (j := 29) (b := 46) rfl rfl rfl rfl rfl ?_
  refine ex_lo pm_M177 (pc' := 7) (ls' := [.ref 41, .int 0, .int a0]) (st' := [.int 0, .ref 46, .int 0, .int a0]) rfl rfl rfl ?_
  refine ex_iald' pm_M177 (pc' := 8) (v := S.1 46 0) rfl rfl rfl ?_
  refine ex_op pm_M177 (pc' := 9) (st' := [.int 1, .int (S.1 46 0), .int 0, .int a0]) rfl rfl rfl ?_
  refine ex_op pm_M177 (pc' := 10) (st' := [.int ((S.1 46 0) - 1), .int 0, .int a0]) rfl rfl rfl ?_
  refine ex_call pm_M177 (pc' := 13) (ix := 112) (callee := 174) (np := 3) (kd := 2) (ra := [.int ((S.1 46 0) - 1), .int 0, .int a0]) (rest := []) rfl rfl rfl rfl pm_M174 rfl rfl rfl rfl (fun d2 => (ef174 _ d2 a0 0 ((S.1 46 0) - 1) (ex_sx S 41 0 0)).mono (fun r S1 e => ?_))
  obtain ⟨rfl, e2⟩ := e
  rw [e2]
  show ex_P _ _ 177 13 [.ref 41, .int 0, .int a0] [.int (vf174 a0 0 ((S.1 46 0) - 1))] (ex_sx S 41 0 0) _
  refine ex_retI pm_M177 rfl ?_
  show ex_P _ _ 195 11 [.ref 41, .int a0, .int a1] [.int (vf174 a0 0 ((S.1 46 0) - 1))] (ex_sx S 41 0 0) _
  refine ex_ifc pm_M195 (t := 63) (pc' := 14) rfl rfl rfl (fun c3 => ?_) (fun c3 => ?_)
  · -- vf174 a0 0 ((S.1 46 0) - 1) = 0
    refine ex_op pm_M195 (pc' := 64) (st' := [.int (-1)]) rfl rfl rfl ?_
    exact ex_retI pm_M195 rfl (⟨_, rfl, v0 a0 a1 S c3⟩)
  · -- not
    refine ex_lo pm_M195 (pc' := 15) (ls' := [.ref 41, .int a0, .int a1]) (st' := [.int a1]) rfl rfl rfl ?_
    refine ex_op pm_M195 (pc' := 16) (st' := [.int 0, .int a1]) rfl rfl rfl ?_
    refine ex_op pm_M195 (pc' := 17) (st' := [.int 1, .int 0, .int a1]) rfl rfl rfl ?_
    refine ex_call pm_M195 (pc' := 20) (ix := 112) (callee := 174) (np := 3) (kd := 2) (ra := [.int 1, .int 0, .int a1]) (rest := []) rfl rfl rfl rfl pm_M174 rfl rfl rfl rfl (fun d4 => (ef174 _ d4 a1 0 1 (ex_sx S 41 0 0)).mono (fun r S1 e => ?_))
    obtain ⟨rfl, e2⟩ := e
    rw [e2]
    show ex_P _ _ 195 20 [.ref 41, .int a0, .int a1] [.int (vf174 a1 0 1)] (ex_sx S 41 0 0) _
    refine ex_ifc pm_M195 (t := 34) (pc' := 23) rfl rfl rfl (fun c5 => ?_) (fun c5 => ?_)
    · -- ¬ vf174 a1 0 1 = 0
      refine ex_lo pm_M195 (pc' := 35) (ls' := [.ref 41, .int a0, .int a1]) (st' := [.ref 41]) rfl rfl rfl ?_
      refine ex_getK pm_M195 (pc' := 38) (j := 30) (b := 47) rfl rfl rfl rfl rfl ?_
      refine ex_op pm_M195 (pc' := 40) (st' := [.int 100, .ref 47]) rfl rfl rfl ?_
      refine ex_lo pm_M195 (pc' := 41) (ls' := [.ref 41, .int a0, .int a1]) (st' := [.int a0, .int 100, .ref 47]) rfl rfl rfl ?_
      refine ex_op pm_M195 (pc' := 42) (st' := [.int (100 * a0), .ref 47]) rfl rfl rfl ?_
      refine ex_lo pm_M195 (pc' := 43) (ls' := [.ref 41, .int a0, .int a1]) (st' := [.int a1, .int (100 * a0), .ref 47]) rfl rfl rfl ?_
      refine ex_op pm_M195 (pc' := 44) (st' := [.int 2, .int a1, .int (100 * a0), .ref 47]) rfl rfl rfl ?_
      refine ex_icmp pm_M195 (t := 51) (pc' := 47) rfl rfl rfl (fun c6 => ?_) (fun c6 => ?_)
      · -- 2 ≤ a1
        refine ex_op pm_M195 (pc' := 53) (st' := [.int 90, .int (100 * a0), .ref 47]) rfl rfl rfl ?_
        refine ex_lo pm_M195 (pc' := 54) (ls' := [.ref 41, .int a0, .int a1]) (st' := [.int a1, .int 90, .int (100 * a0), .ref 47]) rfl rfl rfl ?_
        refine ex_op pm_M195 (pc' := 55) (st' := [.int (90 + a1), .int (100 * a0), .ref 47]) rfl rfl rfl ?_
        refine ex_op pm_M195 (pc' := 57) (st' := [.int 10, .int (90 + a1), .int (100 * a0), .ref 47]) rfl rfl rfl ?_
        refine ex_op pm_M195 (pc' := 58) (st' := [.int ((90 + a1) - 10), .int (100 * a0), .ref 47]) rfl rfl rfl ?_
        refine ex_op pm_M195 (pc' := 59) (st' := [.int ((100 * a0) + ((90 + a1) - 10)), .ref 47]) rfl rfl rfl ?_
        refine ex_iald' pm_M195 (pc' := 60) (v := S.1 47 (((100 * a0) + ((90 + a1) - 10)).toNatClampNeg)) rfl rfl rfl ?_
        refine ex_br pm_M195 (pc' := 64) (st' := [.int (S.1 47 (((100 * a0) + ((90 + a1) - 10)).toNatClampNeg))]) rfl rfl ?_
        exact ex_retI pm_M195 rfl (⟨_, rfl, v1 a0 a1 S c3 c5 c6⟩)
      · -- not
        refine ex_lo pm_M195 (pc' := 48) (ls' := [.ref 41, .int a0, .int a1]) (st' := [.int a1, .int (100 * a0), .ref 47]) rfl rfl rfl ?_
        refine ex_br pm_M195 (pc' := 58) (st' := [.int a1, .int (100 * a0), .ref 47]) rfl rfl ?_
        refine ex_op pm_M195 (pc' := 59) (st' := [.int ((100 * a0) + a1), .ref 47]) rfl rfl rfl ?_
        refine ex_iald' pm_M195 (pc' := 60) (v := S.1 47 (((100 * a0) + a1).toNatClampNeg)) rfl rfl rfl ?_
        refine ex_br pm_M195 (pc' := 64) (st' := [.int (S.1 47 (((100 * a0) + a1).toNatClampNeg))]) rfl rfl ?_
        exact ex_retI pm_M195 rfl (⟨_, rfl, v2 a0 a1 S c3 c5 c6⟩)
    · -- not
      refine ex_lo pm_M195 (pc' := 24) (ls' := [.ref 41, .int a0, .int a1]) (st' := [.int a1]) rfl rfl rfl ?_
      refine ex_op pm_M195 (pc' := 26) (st' := [.int 10, .int a1]) rfl rfl rfl ?_
      refine ex_op pm_M195 (pc' := 28) (st' := [.int 19, .int 10, .int a1]) rfl rfl rfl ?_
      refine ex_call pm_M195 (pc' := 31) (ix := 112) (callee := 174) (np := 3) (kd := 2) (ra := [.int 19, .int 10, .int a1]) (rest := []) rfl rfl rfl rfl pm_M174 rfl rfl rfl rfl (fun d7 => (ef174 _ d7 a1 10 19 (ex_sx S 41 0 0)).mono (fun r S1 e => ?_))
      obtain ⟨rfl, e2⟩ := e
      rw [e2]
      show ex_P _ _ 195 31 [.ref 41, .int a0, .int a1] [.int (vf174 a1 10 19)] (ex_sx S 41 0 0) _
      refine ex_ifc pm_M195 (t := 63) (pc' := 34) rfl rfl rfl (fun c8 => ?_) (fun c8 => ?_)
      · -- vf174 a1 10 19 = 0
        refine ex_op pm_M195 (pc' := 64) (st' := [.int (-1)]) rfl rfl rfl ?_
        exact ex_retI pm_M195 rfl (⟨_, rfl, v3 a0 a1 S c3 c5 c8⟩)
      · -- not
        refine ex_lo pm_M195 (pc' := 35) (ls' := [.ref 41, .int a0, .int a1]) (st' := [.ref 41]) rfl rfl rfl ?_
        refine ex_getK pm_M195 (pc' := 38) (j := 30) (b := 47) rfl rfl rfl rfl rfl ?_
        refine ex_op pm_M195 (pc' := 40) (st' := [.int 100, .ref 47]) rfl rfl rfl ?_
        refine ex_lo pm_M195 (pc' := 41) (ls' := [.ref 41, .int a0, .int a1]) (st' := [.int a0, .int 100, .ref 47]) rfl rfl rfl ?_
        refine ex_op pm_M195 (pc' := 42) (st' := [.int (100 * a0), .ref 47]) rfl rfl rfl ?_
        refine ex_lo pm_M195 (pc' := 43) (ls' := [.ref 41, .int a0, .int a1]) (st' := [.int a1, .int (100 * a0), .ref 47]) rfl rfl rfl ?_
        refine ex_op pm_M195 (pc' := 44) (st' := [.int 2, .int a1, .int (100 * a0), .ref 47]) rfl rfl rfl ?_
        refine ex_icmp pm_M195 (t := 51) (pc' := 47) rfl rfl rfl (fun c9 => ?_) (fun c9 => ?_)
        · -- 2 ≤ a1
          refine ex_op pm_M195 (pc' := 53) (st' := [.int 90, .int (100 * a0), .ref 47]) rfl rfl rfl ?_
          refine ex_lo pm_M195 (pc' := 54) (ls' := [.ref 41, .int a0, .int a1]) (st' := [.int a1, .int 90, .int (100 * a0), .ref 47]) rfl rfl rfl ?_
          refine ex_op pm_M195 (pc' := 55) (st' := [.int (90 + a1), .int (100 * a0), .ref 47]) rfl rfl rfl ?_
          refine ex_op pm_M195 (pc' := 57) (st' := [.int 10, .int (90 + a1), .int (100 * a0), .ref 47]) rfl rfl rfl ?_
          refine ex_op pm_M195 (pc' := 58) (st' := [.int ((90 + a1) - 10), .int (100 * a0), .ref 47]) rfl rfl rfl ?_
          refine ex_op pm_M195 (pc' := 59) (st' := [.int ((100 * a0) + ((90 + a1) - 10)), .ref 47]) rfl rfl rfl ?_
          refine ex_iald' pm_M195 (pc' := 60) (v := S.1 47 (((100 * a0) + ((90 + a1) - 10)).toNatClampNeg)) rfl rfl rfl ?_
          refine ex_br pm_M195 (pc' := 64) (st' := [.int (S.1 47 (((100 * a0) + ((90 + a1) - 10)).toNatClampNeg))]) rfl rfl ?_
          exact ex_retI pm_M195 rfl (⟨_, rfl, v4 a0 a1 S c3 c5 c8 c9⟩)
        · -- not
          refine ex_lo pm_M195 (pc' := 48) (ls' := [.ref 41, .int a0, .int a1]) (st' := [.int a1, .int (100 * a0), .ref 47]) rfl rfl rfl ?_
          refine ex_br pm_M195 (pc' := 58) (st' := [.int a1, .int (100 * a0), .ref 47]) rfl rfl ?_
          refine ex_op pm_M195 (pc' := 59) (st' := [.int ((100 * a0) + a1), .ref 47]) rfl rfl rfl ?_
          refine ex_iald' pm_M195 (pc' := 60) (v := S.1 47 (((100 * a0) + a1).toNatClampNeg)) rfl rfl rfl ?_
          refine ex_br pm_M195 (pc' := 64) (st' := [.int (S.1 47 (((100 * a0) + a1).toNatClampNeg))]) rfl rfl ?_
          exact ex_retI pm_M195 rfl (⟨_, rfl, v5 a0 a1 S c3 c5 c8 c9⟩)
set_option maxRecDepth 100000 in
set_option maxHeartbeats 4000000 in
/-- SilentTableModel.rule -/
theorem ev196 {C : Int32 → Int32 → Int32 → ex_S → Int32 → ex_S → Prop} 
    (v0 : ∀ (a0 : Int32) (a1 : Int32) (a2 : Int32) (S : ex_S), vf174 a0 0 ((S.1 46 0) - 1) = 0 → C a0 a1 a2 S (-1) (ex_sx S 41 0 0)) 
    (v1 : ∀ (a0 : Int32) (a1 : Int32) (a2 : Int32) (S : ex_S), ¬ (vf174 a0 0 ((S.1 46 0) - 1) = 0) → vf174 a1 0 ((S.1 47 ((100 * a0).toNatClampNeg)) - 1) = 0 → C a0 a1 a2 S (-1) (ex_sx S 41 0 0)) 
    (v2 : ∀ (a0 : Int32) (a1 : Int32) (a2 : Int32) (S : ex_S), ¬ (vf174 a0 0 ((S.1 46 0) - 1) = 0) → ¬ (vf174 a1 0 ((S.1 47 ((100 * a0).toNatClampNeg)) - 1) = 0) → vf174 a2 0 3 = 0 → C a0 a1 a2 S (-1) (ex_sx S 41 0 0)) 
    (v3 : ∀ (a0 : Int32) (a1 : Int32) (a2 : Int32) (S : ex_S), ¬ (vf174 a0 0 ((S.1 46 0) - 1) = 0) → ¬ (vf174 a1 0 ((S.1 47 ((100 * a0).toNatClampNeg)) - 1) = 0) → ¬ (vf174 a2 0 3 = 0) → C a0 a1 a2 S (S.1 47 (((((100 * a0) + 2) + (4 * a1)) + a2).toNatClampNeg)) (ex_sx S 41 0 0)) : es196 C := by
  intro N d a0 a1 a2 S
  refine ex_lo pm_M196 (pc' := 1) (ls' := [.ref 41, .int a0, .int a1, .int a2]) (st' := [.ref 41]) rfl rfl rfl ?_
  refine ex_op pm_M196 (pc' := 2) (st' := [.int 0, .ref 41]) rfl rfl rfl ?_
  refine ex_putI pm_M196 (pc' := 5) rfl rfl rfl rfl rfl ?_
  refine ex_lo pm_M196 (pc' := 6) (ls' := [.ref 41, .int a0, .int a1, .int a2]) (st' := [.ref 41]) rfl rfl rfl ?_
  refine ex_op pm_M196 (pc' := 7) (st' := [.int 0, .ref 41]) rfl rfl rfl ?_
  refine ex_lo pm_M196 (pc' := 8) (ls' := [.ref 41, .int a0, .int a1, .int a2]) (st' := [.int a0, .int 0, .ref 41]) rfl rfl rfl ?_
  refine ex_call pm_M196 (pc' := 11) (ix := 244) (callee := 177) (np := 2) (kd := 0) (ra := [.int a0, .int 0, .ref 41]) (rest := []) rfl rfl rfl rfl pm_M177 rfl rfl rfl rfl (fun d1 => ?_)
  refine ex_lo pm_M177 (pc' := 1) (ls' := [.ref 41, .int 0, .int a0]) (st' := [.int a0]) rfl rfl rfl ?_
  refine ex_op pm_M177 (pc' := 2) (st' := [.int 0, .int a0]) rfl rfl rfl ?_
  refine ex_lo pm_M177 (pc' := 3) (ls' := [.ref 41, .int 0, .int a0]) (st' := [.ref 41, .int 0, .int a0]) rfl rfl rfl ?_
  refine ex_getK pm_M177 (pc' := 6) (j := 29) (b := 46) rfl rfl rfl rfl rfl ?_
  refine ex_lo pm_M177 (pc' := 7) (ls' := [.ref 41, .int 0, .int a0]) (st' := [.int 0, .ref 46, .int 0, .int a0]) rfl rfl rfl ?_
  refine ex_iald' pm_M177 (pc' := 8) (v := S.1 46 0) rfl rfl rfl ?_
  refine ex_op pm_M177 (pc' := 9) (st' := [.int 1, .int (S.1 46 0), .int 0, .int a0]) rfl rfl rfl ?_
  refine ex_op pm_M177 (pc' := 10) (st' := [.int ((S.1 46 0) - 1), .int 0, .int a0]) rfl rfl rfl ?_
  refine ex_call pm_M177 (pc' := 13) (ix := 112) (callee := 174) (np := 3) (kd := 2) (ra := [.int ((S.1 46 0) - 1), .int 0, .int a0]) (rest := []) rfl rfl rfl rfl pm_M174 rfl rfl rfl rfl (fun d2 => (ef174 _ d2 a0 0 ((S.1 46 0) - 1) (ex_sx S 41 0 0)).mono (fun r S1 e => ?_))
  obtain ⟨rfl, e2⟩ := e
  rw [e2]
  show ex_P _ _ 177 13 [.ref 41, .int 0, .int a0] [.int (vf174 a0 0 ((S.1 46 0) - 1))] (ex_sx S 41 0 0) _
  refine ex_retI pm_M177 rfl ?_
  show ex_P _ _ 196 11 [.ref 41, .int a0, .int a1, .int a2] [.int (vf174 a0 0 ((S.1 46 0) - 1))] (ex_sx S 41 0 0) _
  refine ex_ifc pm_M196 (t := 62) (pc' := 14) rfl rfl rfl (fun c3 => ?_) (fun c3 => ?_)
  · -- vf174 a0 0 ((S.1 46 0) - 1) = 0
    refine ex_op pm_M196 (pc' := 63) (st' := [.int (-1)]) rfl rfl rfl ?_
    exact ex_retI pm_M196 rfl (⟨_, rfl, v0 a0 a1 a2 S c3⟩)
  · -- not
    refine ex_lo pm_M196 (pc' := 15) (ls' := [.ref 41, .int a0, .int a1, .int a2]) (st' := [.int a1]) rfl rfl rfl ?_
    refine ex_op pm_M196 (pc' := 16) (st' := [.int 0, .int a1]) rfl rfl rfl ?_
    refine ex_lo pm_M196 (pc' := 17) (ls' := [.ref 41, .int a0, .int a1, .int a2]) (st' := [.ref 41, .int 0, .int a1]) rfl rfl rfl ?_
    refine ex_getK pm_M196 (pc' := 20) (j := 30) (b := 47) rfl rfl rfl rfl rfl ?_
    refine ex_op pm_M196 (pc' := 22) (st' := [.int 100, .ref 47, .int 0, .int a1]) rfl rfl rfl ?_
    refine ex_lo pm_M196 (pc' := 23) (ls' := [.ref 41, .int a0, .int a1, .int a2]) (st' := [.int a0, .int 100, .ref 47, .int 0, .int a1]) rfl rfl rfl ?_
    refine ex_op pm_M196 (pc' := 24) (st' := [.int (100 * a0), .ref 47, .int 0, .int a1]) rfl rfl rfl ?_
    refine ex_iald' pm_M196 (pc' := 25) (v := S.1 47 ((100 * a0).toNatClampNeg)) rfl rfl rfl ?_
    refine ex_op pm_M196 (pc' := 26) (st' := [.int 1, .int (S.1 47 ((100 * a0).toNatClampNeg)), .int 0, .int a1]) rfl rfl rfl ?_
    refine ex_op pm_M196 (pc' := 27) (st' := [.int ((S.1 47 ((100 * a0).toNatClampNeg)) - 1), .int 0, .int a1]) rfl rfl rfl ?_
    refine ex_call pm_M196 (pc' := 30) (ix := 112) (callee := 174) (np := 3) (kd := 2) (ra := [.int ((S.1 47 ((100 * a0).toNatClampNeg)) - 1), .int 0, .int a1]) (rest := []) rfl rfl rfl rfl pm_M174 rfl rfl rfl rfl (fun d4 => (ef174 _ d4 a1 0 ((S.1 47 ((100 * a0).toNatClampNeg)) - 1) (ex_sx S 41 0 0)).mono (fun r S1 e => ?_))
    obtain ⟨rfl, e2⟩ := e
    rw [e2]
    show ex_P _ _ 196 30 [.ref 41, .int a0, .int a1, .int a2] [.int (vf174 a1 0 ((S.1 47 ((100 * a0).toNatClampNeg)) - 1))] (ex_sx S 41 0 0) _
    refine ex_ifc pm_M196 (t := 62) (pc' := 33) rfl rfl rfl (fun c5 => ?_) (fun c5 => ?_)
    · -- vf174 a1 0 ((S.1 47 ((100 * a0).toNatClampNeg)) - 1) = 0
      refine ex_op pm_M196 (pc' := 63) (st' := [.int (-1)]) rfl rfl rfl ?_
      exact ex_retI pm_M196 rfl (⟨_, rfl, v1 a0 a1 a2 S c3 c5⟩)
    · -- not
      refine ex_lo pm_M196 (pc' := 34) (ls' := [.ref 41, .int a0, .int a1, .int a2]) (st' := [.int a2]) rfl rfl rfl ?_
      refine ex_op pm_M196 (pc' := 35) (st' := [.int 0, .int a2]) rfl rfl rfl ?_
      refine ex_op pm_M196 (pc' := 36) (st' := [.int 3, .int 0, .int a2]) rfl rfl rfl ?_
      refine ex_call pm_M196 (pc' := 39) (ix := 112) (callee := 174) (np := 3) (kd := 2) (ra := [.int 3, .int 0, .int a2]) (rest := []) rfl rfl rfl rfl pm_M174 rfl rfl rfl rfl (fun d6 => (ef174 _ d6 a2 0 3 (ex_sx S 41 0 0)).mono (fun r S1 e => ?_))
      obtain ⟨rfl, e2⟩ := e
      rw [e2]
      show ex_P _ _ 196 39 [.ref 41, .int a0, .int a1, .int a2] [.int (vf174 a2 0 3)] (ex_sx S 41 0 0) _
      refine ex_ifc pm_M196 (t := 62) (pc' := 42) rfl rfl rfl (fun c7 => ?_) (fun c7 => ?_)
      · -- vf174 a2 0 3 = 0
        refine ex_op pm_M196 (pc' := 63) (st' := [.int (-1)]) rfl rfl rfl ?_
        exact ex_retI pm_M196 rfl (⟨_, rfl, v2 a0 a1 a2 S c3 c5 c7⟩)
      · -- not
        refine ex_lo pm_M196 (pc' := 43) (ls' := [.ref 41, .int a0, .int a1, .int a2]) (st' := [.ref 41]) rfl rfl rfl ?_
        refine ex_getK pm_M196 (pc' := 46) (j := 30) (b := 47) rfl rfl rfl rfl rfl ?_
        refine ex_op pm_M196 (pc' := 48) (st' := [.int 100, .ref 47]) rfl rfl rfl ?_
        refine ex_lo pm_M196 (pc' := 49) (ls' := [.ref 41, .int a0, .int a1, .int a2]) (st' := [.int a0, .int 100, .ref 47]) rfl rfl rfl ?_
        refine ex_op pm_M196 (pc' := 50) (st' := [.int (100 * a0), .ref 47]) rfl rfl rfl ?_
        refine ex_op pm_M196 (pc' := 51) (st' := [.int 2, .int (100 * a0), .ref 47]) rfl rfl rfl ?_
        refine ex_op pm_M196 (pc' := 52) (st' := [.int ((100 * a0) + 2), .ref 47]) rfl rfl rfl ?_
        refine ex_op pm_M196 (pc' := 53) (st' := [.int 4, .int ((100 * a0) + 2), .ref 47]) rfl rfl rfl ?_
        refine ex_lo pm_M196 (pc' := 54) (ls' := [.ref 41, .int a0, .int a1, .int a2]) (st' := [.int a1, .int 4, .int ((100 * a0) + 2), .ref 47]) rfl rfl rfl ?_
        refine ex_op pm_M196 (pc' := 55) (st' := [.int (4 * a1), .int ((100 * a0) + 2), .ref 47]) rfl rfl rfl ?_
        refine ex_op pm_M196 (pc' := 56) (st' := [.int (((100 * a0) + 2) + (4 * a1)), .ref 47]) rfl rfl rfl ?_
        refine ex_lo pm_M196 (pc' := 57) (ls' := [.ref 41, .int a0, .int a1, .int a2]) (st' := [.int a2, .int (((100 * a0) + 2) + (4 * a1)), .ref 47]) rfl rfl rfl ?_
        refine ex_op pm_M196 (pc' := 58) (st' := [.int ((((100 * a0) + 2) + (4 * a1)) + a2), .ref 47]) rfl rfl rfl ?_
        refine ex_iald' pm_M196 (pc' := 59) (v := S.1 47 (((((100 * a0) + 2) + (4 * a1)) + a2).toNatClampNeg)) rfl rfl rfl ?_
        refine ex_br pm_M196 (pc' := 63) (st' := [.int (S.1 47 (((((100 * a0) + 2) + (4 * a1)) + a2).toNatClampNeg))]) rfl rfl ?_
        exact ex_retI pm_M196 rfl (⟨_, rfl, v3 a0 a1 a2 S c3 c5 c7⟩)
set_option maxRecDepth 100000 in
set_option maxHeartbeats 4000000 in
/-- SilentTableModel.reading -/
theorem ev197 {C : Int32 → Int32 → Int32 → ex_S → Int32 → ex_S → Prop} 
    (v0 : ∀ (a0 : Int32) (a1 : Int32) (a2 : Int32) (S : ex_S), vf174 a0 0 ((S.1 46 0) - 1) = 0 → C a0 a1 a2 S (-1) (ex_sx S 41 0 0)) 
    (v1 : ∀ (a0 : Int32) (a1 : Int32) (a2 : Int32) (S : ex_S), ¬ (vf174 a0 0 ((S.1 46 0) - 1) = 0) → vf174 a1 0 ((S.1 47 (((100 * a0) + 1).toNatClampNeg)) - 1) = 0 → C a0 a1 a2 S (-1) (ex_sx S 41 0 0)) 
    (v2 : ∀ (a0 : Int32) (a1 : Int32) (a2 : Int32) (S : ex_S), ¬ (vf174 a0 0 ((S.1 46 0) - 1) = 0) → ¬ (vf174 a1 0 ((S.1 47 (((100 * a0) + 1).toNatClampNeg)) - 1) = 0) → vf174 a2 0 2 = 0 → C a0 a1 a2 S (-1) (ex_sx S 41 0 0)) 
    (v3 : ∀ (a0 : Int32) (a1 : Int32) (a2 : Int32) (S : ex_S), ¬ (vf174 a0 0 ((S.1 46 0) - 1) = 0) → ¬ (vf174 a1 0 ((S.1 47 (((100 * a0) + 1).toNatClampNeg)) - 1) = 0) → ¬ (vf174 a2 0 2 = 0) → C a0 a1 a2 S (S.1 47 (((((100 * a0) + 42) + (3 * a1)) + a2).toNatClampNeg)) (ex_sx S 41 0 0)) : es197 C := by
  intro N d a0 a1 a2 S
  refine ex_lo pm_M197 (pc' := 1) (ls' := [.ref 41, .int a0, .int a1, .int a2]) (st' := [.ref 41]) rfl rfl rfl ?_
  refine ex_op pm_M197 (pc' := 2) (st' := [.int 0, .ref 41]) rfl rfl rfl ?_
  refine ex_putI pm_M197 (pc' := 5) rfl rfl rfl rfl rfl ?_
  refine ex_lo pm_M197 (pc' := 6) (ls' := [.ref 41, .int a0, .int a1, .int a2]) (st' := [.ref 41]) rfl rfl rfl ?_
  refine ex_op pm_M197 (pc' := 7) (st' := [.int 0, .ref 41]) rfl rfl rfl ?_
  refine ex_lo pm_M197 (pc' := 8) (ls' := [.ref 41, .int a0, .int a1, .int a2]) (st' := [.int a0, .int 0, .ref 41]) rfl rfl rfl ?_
  refine ex_call pm_M197 (pc' := 11) (ix := 244) (callee := 177) (np := 2) (kd := 0) (ra := [.int a0, .int 0, .ref 41]) (rest := []) rfl rfl rfl rfl pm_M177 rfl rfl rfl rfl (fun d1 => ?_)
  refine ex_lo pm_M177 (pc' := 1) (ls' := [.ref 41, .int 0, .int a0]) (st' := [.int a0]) rfl rfl rfl ?_
  refine ex_op pm_M177 (pc' := 2) (st' := [.int 0, .int a0]) rfl rfl rfl ?_
  refine ex_lo pm_M177 (pc' := 3) (ls' := [.ref 41, .int 0, .int a0]) (st' := [.ref 41, .int 0, .int a0]) rfl rfl rfl ?_
  refine ex_getK pm_M177 (pc' := 6) (j := 29) (b := 46) rfl rfl rfl rfl rfl ?_
  refine ex_lo pm_M177 (pc' := 7) (ls' := [.ref 41, .int 0, .int a0]) (st' := [.int 0, .ref 46, .int 0, .int a0]) rfl rfl rfl ?_
  refine ex_iald' pm_M177 (pc' := 8) (v := S.1 46 0) rfl rfl rfl ?_
  refine ex_op pm_M177 (pc' := 9) (st' := [.int 1, .int (S.1 46 0), .int 0, .int a0]) rfl rfl rfl ?_
  refine ex_op pm_M177 (pc' := 10) (st' := [.int ((S.1 46 0) - 1), .int 0, .int a0]) rfl rfl rfl ?_
  refine ex_call pm_M177 (pc' := 13) (ix := 112) (callee := 174) (np := 3) (kd := 2) (ra := [.int ((S.1 46 0) - 1), .int 0, .int a0]) (rest := []) rfl rfl rfl rfl pm_M174 rfl rfl rfl rfl (fun d2 => (ef174 _ d2 a0 0 ((S.1 46 0) - 1) (ex_sx S 41 0 0)).mono (fun r S1 e => ?_))
  obtain ⟨rfl, e2⟩ := e
  rw [e2]
  show ex_P _ _ 177 13 [.ref 41, .int 0, .int a0] [.int (vf174 a0 0 ((S.1 46 0) - 1))] (ex_sx S 41 0 0) _
  refine ex_retI pm_M177 rfl ?_
  show ex_P _ _ 197 11 [.ref 41, .int a0, .int a1, .int a2] [.int (vf174 a0 0 ((S.1 46 0) - 1))] (ex_sx S 41 0 0) _
  refine ex_ifc pm_M197 (t := 65) (pc' := 14) rfl rfl rfl (fun c3 => ?_) (fun c3 => ?_)
  · -- vf174 a0 0 ((S.1 46 0) - 1) = 0
    refine ex_op pm_M197 (pc' := 66) (st' := [.int (-1)]) rfl rfl rfl ?_
    exact ex_retI pm_M197 rfl (⟨_, rfl, v0 a0 a1 a2 S c3⟩)
  · -- not
    refine ex_lo pm_M197 (pc' := 15) (ls' := [.ref 41, .int a0, .int a1, .int a2]) (st' := [.int a1]) rfl rfl rfl ?_
    refine ex_op pm_M197 (pc' := 16) (st' := [.int 0, .int a1]) rfl rfl rfl ?_
    refine ex_lo pm_M197 (pc' := 17) (ls' := [.ref 41, .int a0, .int a1, .int a2]) (st' := [.ref 41, .int 0, .int a1]) rfl rfl rfl ?_
    refine ex_getK pm_M197 (pc' := 20) (j := 30) (b := 47) rfl rfl rfl rfl rfl ?_
    refine ex_op pm_M197 (pc' := 22) (st' := [.int 100, .ref 47, .int 0, .int a1]) rfl rfl rfl ?_
    refine ex_lo pm_M197 (pc' := 23) (ls' := [.ref 41, .int a0, .int a1, .int a2]) (st' := [.int a0, .int 100, .ref 47, .int 0, .int a1]) rfl rfl rfl ?_
    refine ex_op pm_M197 (pc' := 24) (st' := [.int (100 * a0), .ref 47, .int 0, .int a1]) rfl rfl rfl ?_
    refine ex_op pm_M197 (pc' := 25) (st' := [.int 1, .int (100 * a0), .ref 47, .int 0, .int a1]) rfl rfl rfl ?_
    refine ex_op pm_M197 (pc' := 26) (st' := [.int ((100 * a0) + 1), .ref 47, .int 0, .int a1]) rfl rfl rfl ?_
    refine ex_iald' pm_M197 (pc' := 27) (v := S.1 47 (((100 * a0) + 1).toNatClampNeg)) rfl rfl rfl ?_
    refine ex_op pm_M197 (pc' := 28) (st' := [.int 1, .int (S.1 47 (((100 * a0) + 1).toNatClampNeg)), .int 0, .int a1]) rfl rfl rfl ?_
    refine ex_op pm_M197 (pc' := 29) (st' := [.int ((S.1 47 (((100 * a0) + 1).toNatClampNeg)) - 1), .int 0, .int a1]) rfl rfl rfl ?_
    refine ex_call pm_M197 (pc' := 32) (ix := 112) (callee := 174) (np := 3) (kd := 2) (ra := [.int ((S.1 47 (((100 * a0) + 1).toNatClampNeg)) - 1), .int 0, .int a1]) (rest := []) rfl rfl rfl rfl pm_M174 rfl rfl rfl rfl (fun d4 => (ef174 _ d4 a1 0 ((S.1 47 (((100 * a0) + 1).toNatClampNeg)) - 1) (ex_sx S 41 0 0)).mono (fun r S1 e => ?_))
    obtain ⟨rfl, e2⟩ := e
    rw [e2]
    show ex_P _ _ 197 32 [.ref 41, .int a0, .int a1, .int a2] [.int (vf174 a1 0 ((S.1 47 (((100 * a0) + 1).toNatClampNeg)) - 1))] (ex_sx S 41 0 0) _
    refine ex_ifc pm_M197 (t := 65) (pc' := 35) rfl rfl rfl (fun c5 => ?_) (fun c5 => ?_)
    · -- vf174 a1 0 ((S.1 47 (((100 * a0) + 1).toNatClampNeg)) - 1) = 0
      refine ex_op pm_M197 (pc' := 66) (st' := [.int (-1)]) rfl rfl rfl ?_
      exact ex_retI pm_M197 rfl (⟨_, rfl, v1 a0 a1 a2 S c3 c5⟩)
    · -- not
      refine ex_lo pm_M197 (pc' := 36) (ls' := [.ref 41, .int a0, .int a1, .int a2]) (st' := [.int a2]) rfl rfl rfl ?_
      refine ex_op pm_M197 (pc' := 37) (st' := [.int 0, .int a2]) rfl rfl rfl ?_
      refine ex_op pm_M197 (pc' := 38) (st' := [.int 2, .int 0, .int a2]) rfl rfl rfl ?_
      refine ex_call pm_M197 (pc' := 41) (ix := 112) (callee := 174) (np := 3) (kd := 2) (ra := [.int 2, .int 0, .int a2]) (rest := []) rfl rfl rfl rfl pm_M174 rfl rfl rfl rfl (fun d6 => (ef174 _ d6 a2 0 2 (ex_sx S 41 0 0)).mono (fun r S1 e => ?_))
      obtain ⟨rfl, e2⟩ := e
      rw [e2]
      show ex_P _ _ 197 41 [.ref 41, .int a0, .int a1, .int a2] [.int (vf174 a2 0 2)] (ex_sx S 41 0 0) _
      refine ex_ifc pm_M197 (t := 65) (pc' := 44) rfl rfl rfl (fun c7 => ?_) (fun c7 => ?_)
      · -- vf174 a2 0 2 = 0
        refine ex_op pm_M197 (pc' := 66) (st' := [.int (-1)]) rfl rfl rfl ?_
        exact ex_retI pm_M197 rfl (⟨_, rfl, v2 a0 a1 a2 S c3 c5 c7⟩)
      · -- not
        refine ex_lo pm_M197 (pc' := 45) (ls' := [.ref 41, .int a0, .int a1, .int a2]) (st' := [.ref 41]) rfl rfl rfl ?_
        refine ex_getK pm_M197 (pc' := 48) (j := 30) (b := 47) rfl rfl rfl rfl rfl ?_
        refine ex_op pm_M197 (pc' := 50) (st' := [.int 100, .ref 47]) rfl rfl rfl ?_
        refine ex_lo pm_M197 (pc' := 51) (ls' := [.ref 41, .int a0, .int a1, .int a2]) (st' := [.int a0, .int 100, .ref 47]) rfl rfl rfl ?_
        refine ex_op pm_M197 (pc' := 52) (st' := [.int (100 * a0), .ref 47]) rfl rfl rfl ?_
        refine ex_op pm_M197 (pc' := 54) (st' := [.int 42, .int (100 * a0), .ref 47]) rfl rfl rfl ?_
        refine ex_op pm_M197 (pc' := 55) (st' := [.int ((100 * a0) + 42), .ref 47]) rfl rfl rfl ?_
        refine ex_op pm_M197 (pc' := 56) (st' := [.int 3, .int ((100 * a0) + 42), .ref 47]) rfl rfl rfl ?_
        refine ex_lo pm_M197 (pc' := 57) (ls' := [.ref 41, .int a0, .int a1, .int a2]) (st' := [.int a1, .int 3, .int ((100 * a0) + 42), .ref 47]) rfl rfl rfl ?_
        refine ex_op pm_M197 (pc' := 58) (st' := [.int (3 * a1), .int ((100 * a0) + 42), .ref 47]) rfl rfl rfl ?_
        refine ex_op pm_M197 (pc' := 59) (st' := [.int (((100 * a0) + 42) + (3 * a1)), .ref 47]) rfl rfl rfl ?_
        refine ex_lo pm_M197 (pc' := 60) (ls' := [.ref 41, .int a0, .int a1, .int a2]) (st' := [.int a2, .int (((100 * a0) + 42) + (3 * a1)), .ref 47]) rfl rfl rfl ?_
        refine ex_op pm_M197 (pc' := 61) (st' := [.int ((((100 * a0) + 42) + (3 * a1)) + a2), .ref 47]) rfl rfl rfl ?_
        refine ex_iald' pm_M197 (pc' := 62) (v := S.1 47 (((((100 * a0) + 42) + (3 * a1)) + a2).toNatClampNeg)) rfl rfl rfl ?_
        refine ex_br pm_M197 (pc' := 66) (st' := [.int (S.1 47 (((((100 * a0) + 42) + (3 * a1)) + a2).toNatClampNeg))]) rfl rfl ?_
        exact ex_retI pm_M197 rfl (⟨_, rfl, v3 a0 a1 a2 S c3 c5 c7⟩)
set_option maxRecDepth 100000 in
set_option maxHeartbeats 4000000 in
/-- SilentTableModel.row -/
theorem ev198 {C : Int32 → Int32 → ex_S → Int32 → ex_S → Prop} 
    (v0 : ∀ (a0 : Int32) (a1 : Int32) (S : ex_S), ¬ vf174 a0 0 ((S.1 46 1) - 1) = 0 → ¬ a1 = (-1) → vf174 a1 0 ((S.1 48 ((13 * a0).toNatClampNeg)) - 1) = 0 → C a0 a1 S (-2) (ex_sx S 41 0 0)) 
    (v1 : ∀ (a0 : Int32) (a1 : Int32) (S : ex_S), ¬ vf174 a0 0 ((S.1 46 1) - 1) = 0 → ¬ a1 = (-1) → ¬ (vf174 a1 0 ((S.1 48 ((13 * a0).toNatClampNeg)) - 1) = 0) → C a0 a1 S (S.1 48 ((((13 * a0) + 1) + a1).toNatClampNeg)) (ex_sx S 41 0 0)) 
    (v2 : ∀ (a0 : Int32) (a1 : Int32) (S : ex_S), ¬ vf174 a0 0 ((S.1 46 1) - 1) = 0 → ¬ (¬ a1 = (-1)) → C a0 a1 S (S.1 48 ((13 * a0).toNatClampNeg)) (ex_sx S 41 0 0)) 
    (v3 : ∀ (a0 : Int32) (a1 : Int32) (S : ex_S), ¬ (¬ vf174 a0 0 ((S.1 46 1) - 1) = 0) → C a0 a1 S (-2) (ex_sx S 41 0 0)) : es198 C := by
  intro N d a0 a1 S
  refine ex_lo pm_M198 (pc' := 1) (ls' := [.ref 41, .int a0, .int a1]) (st' := [.ref 41]) rfl rfl rfl ?_
  refine ex_op pm_M198 (pc' := 2) (st' := [.int 0, .ref 41]) rfl rfl rfl ?_
  refine ex_putI pm_M198 (pc' := 5) rfl rfl rfl rfl rfl ?_
  refine ex_lo pm_M198 (pc' := 6) (ls' := [.ref 41, .int a0, .int a1]) (st' := [.ref 41]) rfl rfl rfl ?_
  refine ex_op pm_M198 (pc' := 7) (st' := [.int 1, .ref 41]) rfl rfl rfl ?_
  refine ex_lo pm_M198 (pc' := 8) (ls' := [.ref 41, .int a0, .int a1]) (st' := [.int a0, .int 1, .ref 41]) rfl rfl rfl ?_
  refine ex_call pm_M198 (pc' := 11) (ix := 244) (callee := 177) (np := 2) (kd := 0) (ra := [.int a0, .int 1, .ref 41]) (rest := []) rfl rfl rfl rfl pm_M177 rfl rfl rfl rfl (fun d1 => ?_)
  refine ex_lo pm_M177 (pc' := 1) (ls' := [.ref 41, .int 1, .int a0]) (st' := [.int a0]) rfl rfl rfl ?_
  refine ex_op pm_M177 (pc' := 2) (st' := [.int 0, .int a0]) rfl rfl rfl ?_
  refine ex_lo pm_M177 (pc' := 3) (ls' := [.ref 41, .int 1, .int a0]) (st' := [.ref 41, .int 0, .int a0]) rfl rfl rfl ?_
  refine ex_getK pm_M177 (pc' := 6) (j := 29) (b := 46) rfl rfl rfl rfl rfl ?_
  refine ex_lo pm_M177 (pc' := 7) (ls' := [.ref 41, .int 1, .int a0]) (st' := [.int 1, .ref 46, .int 0, .int a0]) rfl rfl rfl ?_
  refine ex_iald' pm_M177 (pc' := 8) (v := S.1 46 1) rfl rfl rfl ?_
  refine ex_op pm_M177 (pc' := 9) (st' := [.int 1, .int (S.1 46 1), .int 0, .int a0]) rfl rfl rfl ?_
  refine ex_op pm_M177 (pc' := 10) (st' := [.int ((S.1 46 1) - 1), .int 0, .int a0]) rfl rfl rfl ?_
  refine ex_call pm_M177 (pc' := 13) (ix := 112) (callee := 174) (np := 3) (kd := 2) (ra := [.int ((S.1 46 1) - 1), .int 0, .int a0]) (rest := []) rfl rfl rfl rfl pm_M174 rfl rfl rfl rfl (fun d2 => (ef174 _ d2 a0 0 ((S.1 46 1) - 1) (ex_sx S 41 0 0)).mono (fun r S1 e => ?_))
  obtain ⟨rfl, e2⟩ := e
  rw [e2]
  show ex_P _ _ 177 13 [.ref 41, .int 1, .int a0] [.int (vf174 a0 0 ((S.1 46 1) - 1))] (ex_sx S 41 0 0) _
  refine ex_retI pm_M177 rfl ?_
  show ex_P _ _ 198 11 [.ref 41, .int a0, .int a1] [.int (vf174 a0 0 ((S.1 46 1) - 1))] (ex_sx S 41 0 0) _
  refine ex_ifc pm_M198 (t := 17) (pc' := 14) rfl rfl rfl (fun c3 => ?_) (fun c3 => ?_)
  · -- ¬ vf174 a0 0 ((S.1 46 1) - 1) = 0
    refine ex_lo pm_M198 (pc' := 18) (ls' := [.ref 41, .int a0, .int a1]) (st' := [.int a1]) rfl rfl rfl ?_
    refine ex_op pm_M198 (pc' := 19) (st' := [.int (-1), .int a1]) rfl rfl rfl ?_
    refine ex_icmp pm_M198 (t := 34) (pc' := 22) rfl rfl rfl (fun c4 => ?_) (fun c4 => ?_)
    · -- ¬ a1 = (-1)
      refine ex_lo pm_M198 (pc' := 35) (ls' := [.ref 41, .int a0, .int a1]) (st' := [.int a1]) rfl rfl rfl ?_
      refine ex_op pm_M198 (pc' := 36) (st' := [.int 0, .int a1]) rfl rfl rfl ?_
      refine ex_lo pm_M198 (pc' := 37) (ls' := [.ref 41, .int a0, .int a1]) (st' := [.ref 41, .int 0, .int a1]) rfl rfl rfl ?_
      refine ex_getK pm_M198 (pc' := 40) (j := 31) (b := 48) rfl rfl rfl rfl rfl ?_
      refine ex_op pm_M198 (pc' := 42) (st' := [.int 13, .ref 48, .int 0, .int a1]) rfl rfl rfl ?_
      refine ex_lo pm_M198 (pc' := 43) (ls' := [.ref 41, .int a0, .int a1]) (st' := [.int a0, .int 13, .ref 48, .int 0, .int a1]) rfl rfl rfl ?_
      refine ex_op pm_M198 (pc' := 44) (st' := [.int (13 * a0), .ref 48, .int 0, .int a1]) rfl rfl rfl ?_
      refine ex_iald' pm_M198 (pc' := 45) (v := S.1 48 ((13 * a0).toNatClampNeg)) rfl rfl rfl ?_
      refine ex_op pm_M198 (pc' := 46) (st' := [.int 1, .int (S.1 48 ((13 * a0).toNatClampNeg)), .int 0, .int a1]) rfl rfl rfl ?_
      refine ex_op pm_M198 (pc' := 47) (st' := [.int ((S.1 48 ((13 * a0).toNatClampNeg)) - 1), .int 0, .int a1]) rfl rfl rfl ?_
      refine ex_call pm_M198 (pc' := 50) (ix := 112) (callee := 174) (np := 3) (kd := 2) (ra := [.int ((S.1 48 ((13 * a0).toNatClampNeg)) - 1), .int 0, .int a1]) (rest := []) rfl rfl rfl rfl pm_M174 rfl rfl rfl rfl (fun d5 => (ef174 _ d5 a1 0 ((S.1 48 ((13 * a0).toNatClampNeg)) - 1) (ex_sx S 41 0 0)).mono (fun r S1 e => ?_))
      obtain ⟨rfl, e2⟩ := e
      rw [e2]
      show ex_P _ _ 198 50 [.ref 41, .int a0, .int a1] [.int (vf174 a1 0 ((S.1 48 ((13 * a0).toNatClampNeg)) - 1))] (ex_sx S 41 0 0) _
      refine ex_ifc pm_M198 (t := 69) (pc' := 53) rfl rfl rfl (fun c6 => ?_) (fun c6 => ?_)
      · -- vf174 a1 0 ((S.1 48 ((13 * a0).toNatClampNeg)) - 1) = 0
        refine ex_op pm_M198 (pc' := 71) (st' := [.int (-2)]) rfl rfl rfl ?_
        exact ex_retI pm_M198 rfl (⟨_, rfl, v0 a0 a1 S c3 c4 c6⟩)
      · -- not
        refine ex_lo pm_M198 (pc' := 54) (ls' := [.ref 41, .int a0, .int a1]) (st' := [.ref 41]) rfl rfl rfl ?_
        refine ex_getK pm_M198 (pc' := 57) (j := 31) (b := 48) rfl rfl rfl rfl rfl ?_
        refine ex_op pm_M198 (pc' := 59) (st' := [.int 13, .ref 48]) rfl rfl rfl ?_
        refine ex_lo pm_M198 (pc' := 60) (ls' := [.ref 41, .int a0, .int a1]) (st' := [.int a0, .int 13, .ref 48]) rfl rfl rfl ?_
        refine ex_op pm_M198 (pc' := 61) (st' := [.int (13 * a0), .ref 48]) rfl rfl rfl ?_
        refine ex_op pm_M198 (pc' := 62) (st' := [.int 1, .int (13 * a0), .ref 48]) rfl rfl rfl ?_
        refine ex_op pm_M198 (pc' := 63) (st' := [.int ((13 * a0) + 1), .ref 48]) rfl rfl rfl ?_
        refine ex_lo pm_M198 (pc' := 64) (ls' := [.ref 41, .int a0, .int a1]) (st' := [.int a1, .int ((13 * a0) + 1), .ref 48]) rfl rfl rfl ?_
        refine ex_op pm_M198 (pc' := 65) (st' := [.int (((13 * a0) + 1) + a1), .ref 48]) rfl rfl rfl ?_
        refine ex_iald' pm_M198 (pc' := 66) (v := S.1 48 ((((13 * a0) + 1) + a1).toNatClampNeg)) rfl rfl rfl ?_
        refine ex_br pm_M198 (pc' := 71) (st' := [.int (S.1 48 ((((13 * a0) + 1) + a1).toNatClampNeg))]) rfl rfl ?_
        exact ex_retI pm_M198 rfl (⟨_, rfl, v1 a0 a1 S c3 c4 c6⟩)
    · -- not
      refine ex_lo pm_M198 (pc' := 23) (ls' := [.ref 41, .int a0, .int a1]) (st' := [.ref 41]) rfl rfl rfl ?_
      refine ex_getK pm_M198 (pc' := 26) (j := 31) (b := 48) rfl rfl rfl rfl rfl ?_
      refine ex_op pm_M198 (pc' := 28) (st' := [.int 13, .ref 48]) rfl rfl rfl ?_
      refine ex_lo pm_M198 (pc' := 29) (ls' := [.ref 41, .int a0, .int a1]) (st' := [.int a0, .int 13, .ref 48]) rfl rfl rfl ?_
      refine ex_op pm_M198 (pc' := 30) (st' := [.int (13 * a0), .ref 48]) rfl rfl rfl ?_
      refine ex_iald' pm_M198 (pc' := 31) (v := S.1 48 ((13 * a0).toNatClampNeg)) rfl rfl rfl ?_
      refine ex_br pm_M198 (pc' := 71) (st' := [.int (S.1 48 ((13 * a0).toNatClampNeg))]) rfl rfl ?_
      exact ex_retI pm_M198 rfl (⟨_, rfl, v2 a0 a1 S c3 c4⟩)
  · -- not
    refine ex_op pm_M198 (pc' := 16) (st' := [.int (-2)]) rfl rfl rfl ?_
    exact ex_retI pm_M198 rfl (⟨_, rfl, v3 a0 a1 S c3⟩)
set_option maxRecDepth 100000 in
set_option maxHeartbeats 4000000 in
/-- SilentTableModel.law -/
theorem ev271 {C : Int32 → Int32 → Int32 → ex_S → Int32 → ex_S → Prop} 
    (v0 : ∀ (a0 : Int32) (a1 : Int32) (a2 : Int32) (S : ex_S), ¬ vf174 a0 0 ((S.1 46 3) - 1) = 0 → ¬ a1 = (-1) → vf174 a1 0 ((S.1 50 ((25 * a0).toNatClampNeg)) - 1) = 0 → C a0 a1 a2 S (-2) (ex_sx (ex_sx S 41 0 0) 41 49 a0)) 
    (v1 : ∀ (a0 : Int32) (a1 : Int32) (a2 : Int32) (S : ex_S), ¬ vf174 a0 0 ((S.1 46 3) - 1) = 0 → ¬ a1 = (-1) → ¬ (vf174 a1 0 ((S.1 50 ((25 * a0).toNatClampNeg)) - 1) = 0) → vf174 a2 0 2 = 0 → C a0 a1 a2 S (-2) (ex_sx (ex_sx S 41 0 0) 41 49 a0)) 
    (v2 : ∀ (a0 : Int32) (a1 : Int32) (a2 : Int32) (S : ex_S), ¬ vf174 a0 0 ((S.1 46 3) - 1) = 0 → ¬ a1 = (-1) → ¬ (vf174 a1 0 ((S.1 50 ((25 * a0).toNatClampNeg)) - 1) = 0) → ¬ (vf174 a2 0 2 = 0) → C a0 a1 a2 S (S.1 50 (((((25 * a0) + 1) + (3 * a1)) + a2).toNatClampNeg)) (ex_sx (ex_sx S 41 0 0) 41 49 a0)) 
    (v3 : ∀ (a0 : Int32) (a1 : Int32) (a2 : Int32) (S : ex_S), ¬ vf174 a0 0 ((S.1 46 3) - 1) = 0 → ¬ (¬ a1 = (-1)) → ¬ a2 = 0 → C a0 a1 a2 S (-2) (ex_sx (ex_sx S 41 0 0) 41 49 a0)) 
    (v4 : ∀ (a0 : Int32) (a1 : Int32) (a2 : Int32) (S : ex_S), ¬ vf174 a0 0 ((S.1 46 3) - 1) = 0 → ¬ (¬ a1 = (-1)) → ¬ (¬ a2 = 0) → C a0 a1 a2 S (S.1 50 ((25 * a0).toNatClampNeg)) (ex_sx (ex_sx S 41 0 0) 41 49 a0)) 
    (v5 : ∀ (a0 : Int32) (a1 : Int32) (a2 : Int32) (S : ex_S), ¬ (¬ vf174 a0 0 ((S.1 46 3) - 1) = 0) → C a0 a1 a2 S (-2) (ex_sx S 41 0 0)) : es271 C := by
  intro N d a0 a1 a2 S
  refine ex_lo pm_M271 (pc' := 1) (ls' := [.ref 41, .int a0, .int a1, .int a2]) (st' := [.ref 41]) rfl rfl rfl ?_
  refine ex_op pm_M271 (pc' := 2) (st' := [.int 0, .ref 41]) rfl rfl rfl ?_
  refine ex_putI pm_M271 (pc' := 5) rfl rfl rfl rfl rfl ?_
  refine ex_lo pm_M271 (pc' := 6) (ls' := [.ref 41, .int a0, .int a1, .int a2]) (st' := [.ref 41]) rfl rfl rfl ?_
  refine ex_op pm_M271 (pc' := 7) (st' := [.int 3, .ref 41]) rfl rfl rfl ?_
  refine ex_lo pm_M271 (pc' := 8) (ls' := [.ref 41, .int a0, .int a1, .int a2]) (st' := [.int a0, .int 3, .ref 41]) rfl rfl rfl ?_
  refine ex_call pm_M271 (pc' := 11) (ix := 244) (callee := 177) (np := 2) (kd := 0) (ra := [.int a0, .int 3, .ref 41]) (rest := []) rfl rfl rfl rfl pm_M177 rfl rfl rfl rfl (fun d1 => ?_)
  refine ex_lo pm_M177 (pc' := 1) (ls' := [.ref 41, .int 3, .int a0]) (st' := [.int a0]) rfl rfl rfl ?_
  refine ex_op pm_M177 (pc' := 2) (st' := [.int 0, .int a0]) rfl rfl rfl ?_
  refine ex_lo pm_M177 (pc' := 3) (ls' := [.ref 41, .int 3, .int a0]) (st' := [.ref 41, .int 0, .int a0]) rfl rfl rfl ?_
  refine ex_getK pm_M177 (pc' := 6) (j := 29) (b := 46) rfl rfl rfl rfl rfl ?_
  refine ex_lo pm_M177 (pc' := 7) (ls' := [.ref 41, .int 3, .int a0]) (st' := [.int 3, .ref 46, .int 0, .int a0]) rfl rfl rfl ?_
  refine ex_iald' pm_M177 (pc' := 8) (v := S.1 46 3) rfl rfl rfl ?_
  refine ex_op pm_M177 (pc' := 9) (st' := [.int 1, .int (S.1 46 3), .int 0, .int a0]) rfl rfl rfl ?_
  refine ex_op pm_M177 (pc' := 10) (st' := [.int ((S.1 46 3) - 1), .int 0, .int a0]) rfl rfl rfl ?_
  refine ex_call pm_M177 (pc' := 13) (ix := 112) (callee := 174) (np := 3) (kd := 2) (ra := [.int ((S.1 46 3) - 1), .int 0, .int a0]) (rest := []) rfl rfl rfl rfl pm_M174 rfl rfl rfl rfl (fun d2 => (ef174 _ d2 a0 0 ((S.1 46 3) - 1) (ex_sx S 41 0 0)).mono (fun r S1 e => ?_))
  obtain ⟨rfl, e2⟩ := e
  rw [e2]
  show ex_P _ _ 177 13 [.ref 41, .int 3, .int a0] [.int (vf174 a0 0 ((S.1 46 3) - 1))] (ex_sx S 41 0 0) _
  refine ex_retI pm_M177 rfl ?_
  show ex_P _ _ 271 11 [.ref 41, .int a0, .int a1, .int a2] [.int (vf174 a0 0 ((S.1 46 3) - 1))] (ex_sx S 41 0 0) _
  refine ex_ifc pm_M271 (t := 17) (pc' := 14) rfl rfl rfl (fun c3 => ?_) (fun c3 => ?_)
  · -- ¬ vf174 a0 0 ((S.1 46 3) - 1) = 0
    refine ex_lo pm_M271 (pc' := 18) (ls' := [.ref 41, .int a0, .int a1, .int a2]) (st' := [.ref 41]) rfl rfl rfl ?_
    refine ex_lo pm_M271 (pc' := 19) (ls' := [.ref 41, .int a0, .int a1, .int a2]) (st' := [.int a0, .ref 41]) rfl rfl rfl ?_
    refine ex_putI pm_M271 (pc' := 22) rfl rfl rfl rfl rfl ?_
    refine ex_lo pm_M271 (pc' := 23) (ls' := [.ref 41, .int a0, .int a1, .int a2]) (st' := [.int a1]) rfl rfl rfl ?_
    refine ex_op pm_M271 (pc' := 24) (st' := [.int (-1), .int a1]) rfl rfl rfl ?_
    refine ex_icmp pm_M271 (t := 41) (pc' := 27) rfl rfl rfl (fun c4 => ?_) (fun c4 => ?_)
    · -- ¬ a1 = (-1)
      refine ex_lo pm_M271 (pc' := 42) (ls' := [.ref 41, .int a0, .int a1, .int a2]) (st' := [.int a1]) rfl rfl rfl ?_
      refine ex_op pm_M271 (pc' := 43) (st' := [.int 0, .int a1]) rfl rfl rfl ?_
      refine ex_lo pm_M271 (pc' := 44) (ls' := [.ref 41, .int a0, .int a1, .int a2]) (st' := [.ref 41, .int 0, .int a1]) rfl rfl rfl ?_
      refine ex_call pm_M271 (pc' := 47) (ix := 460) (callee := 272) (np := 0) (kd := 0) (ra := [.ref 41]) (rest := [.int 0, .int a1]) rfl rfl rfl rfl pm_M272 rfl rfl rfl rfl (fun d5 => ?_)
      refine ex_lo pm_M272 (pc' := 1) (ls' := [.ref 41]) (st' := [.ref 41]) rfl rfl rfl ?_
      refine ex_getK pm_M272 (pc' := 4) (j := 33) (b := 50) rfl rfl rfl rfl rfl ?_
      refine ex_op pm_M272 (pc' := 6) (st' := [.int 25, .ref 50]) rfl rfl rfl ?_
      refine ex_lo pm_M272 (pc' := 7) (ls' := [.ref 41]) (st' := [.ref 41, .int 25, .ref 50]) rfl rfl rfl ?_
      refine ex_getI' pm_M272 (pc' := 10) (v := a0) rfl rfl rfl rfl rfl rfl ?_
      refine ex_op pm_M272 (pc' := 11) (st' := [.int (25 * a0), .ref 50]) rfl rfl rfl ?_
      refine ex_iald' pm_M272 (pc' := 12) (v := S.1 50 ((25 * a0).toNatClampNeg)) rfl rfl rfl ?_
      refine ex_retI pm_M272 rfl ?_
      show ex_P _ _ 271 47 [.ref 41, .int a0, .int a1, .int a2] [.int (S.1 50 ((25 * a0).toNatClampNeg)), .int 0, .int a1] (ex_sx (ex_sx S 41 0 0) 41 49 a0) _
      refine ex_op pm_M271 (pc' := 48) (st' := [.int 1, .int (S.1 50 ((25 * a0).toNatClampNeg)), .int 0, .int a1]) rfl rfl rfl ?_
      refine ex_op pm_M271 (pc' := 49) (st' := [.int ((S.1 50 ((25 * a0).toNatClampNeg)) - 1), .int 0, .int a1]) rfl rfl rfl ?_
      refine ex_call pm_M271 (pc' := 52) (ix := 112) (callee := 174) (np := 3) (kd := 2) (ra := [.int ((S.1 50 ((25 * a0).toNatClampNeg)) - 1), .int 0, .int a1]) (rest := []) rfl rfl rfl rfl pm_M174 rfl rfl rfl rfl (fun d6 => (ef174 _ d6 a1 0 ((S.1 50 ((25 * a0).toNatClampNeg)) - 1) (ex_sx (ex_sx S 41 0 0) 41 49 a0)).mono (fun r S1 e => ?_))
      obtain ⟨rfl, e2⟩ := e
      rw [e2]
      show ex_P _ _ 271 52 [.ref 41, .int a0, .int a1, .int a2] [.int (vf174 a1 0 ((S.1 50 ((25 * a0).toNatClampNeg)) - 1))] (ex_sx (ex_sx S 41 0 0) 41 49 a0) _
      refine ex_ifc pm_M271 (t := 73) (pc' := 55) rfl rfl rfl (fun c7 => ?_) (fun c7 => ?_)
      · -- vf174 a1 0 ((S.1 50 ((25 * a0).toNatClampNeg)) - 1) = 0
        refine ex_op pm_M271 (pc' := 75) (st' := [.int (-2)]) rfl rfl rfl ?_
        exact ex_retI pm_M271 rfl (⟨_, rfl, v0 a0 a1 a2 S c3 c4 c7⟩)
      · -- not
        refine ex_lo pm_M271 (pc' := 56) (ls' := [.ref 41, .int a0, .int a1, .int a2]) (st' := [.int a2]) rfl rfl rfl ?_
        refine ex_op pm_M271 (pc' := 57) (st' := [.int 0, .int a2]) rfl rfl rfl ?_
        refine ex_op pm_M271 (pc' := 58) (st' := [.int 2, .int 0, .int a2]) rfl rfl rfl ?_
        refine ex_call pm_M271 (pc' := 61) (ix := 112) (callee := 174) (np := 3) (kd := 2) (ra := [.int 2, .int 0, .int a2]) (rest := []) rfl rfl rfl rfl pm_M174 rfl rfl rfl rfl (fun d8 => (ef174 _ d8 a2 0 2 (ex_sx (ex_sx S 41 0 0) 41 49 a0)).mono (fun r S1 e => ?_))
        obtain ⟨rfl, e2⟩ := e
        rw [e2]
        show ex_P _ _ 271 61 [.ref 41, .int a0, .int a1, .int a2] [.int (vf174 a2 0 2)] (ex_sx (ex_sx S 41 0 0) 41 49 a0) _
        refine ex_ifc pm_M271 (t := 73) (pc' := 64) rfl rfl rfl (fun c9 => ?_) (fun c9 => ?_)
        · -- vf174 a2 0 2 = 0
          refine ex_op pm_M271 (pc' := 75) (st' := [.int (-2)]) rfl rfl rfl ?_
          exact ex_retI pm_M271 rfl (⟨_, rfl, v1 a0 a1 a2 S c3 c4 c7 c9⟩)
        · -- not
          refine ex_lo pm_M271 (pc' := 65) (ls' := [.ref 41, .int a0, .int a1, .int a2]) (st' := [.ref 41]) rfl rfl rfl ?_
          refine ex_lo pm_M271 (pc' := 66) (ls' := [.ref 41, .int a0, .int a1, .int a2]) (st' := [.int a1, .ref 41]) rfl rfl rfl ?_
          refine ex_lo pm_M271 (pc' := 67) (ls' := [.ref 41, .int a0, .int a1, .int a2]) (st' := [.int a2, .int a1, .ref 41]) rfl rfl rfl ?_
          refine ex_call pm_M271 (pc' := 70) (ix := 463) (callee := 273) (np := 2) (kd := 0) (ra := [.int a2, .int a1, .ref 41]) (rest := []) rfl rfl rfl rfl pm_M273 rfl rfl rfl rfl (fun d10 => ?_)
          refine ex_lo pm_M273 (pc' := 1) (ls' := [.ref 41, .int a1, .int a2]) (st' := [.ref 41]) rfl rfl rfl ?_
          refine ex_getK pm_M273 (pc' := 4) (j := 33) (b := 50) rfl rfl rfl rfl rfl ?_
          refine ex_op pm_M273 (pc' := 6) (st' := [.int 25, .ref 50]) rfl rfl rfl ?_
          refine ex_lo pm_M273 (pc' := 7) (ls' := [.ref 41, .int a1, .int a2]) (st' := [.ref 41, .int 25, .ref 50]) rfl rfl rfl ?_
          refine ex_getI' pm_M273 (pc' := 10) (v := a0) rfl rfl rfl rfl rfl rfl ?_
          refine ex_op pm_M273 (pc' := 11) (st' := [.int (25 * a0), .ref 50]) rfl rfl rfl ?_
          refine ex_op pm_M273 (pc' := 12) (st' := [.int 1, .int (25 * a0), .ref 50]) rfl rfl rfl ?_
          refine ex_op pm_M273 (pc' := 13) (st' := [.int ((25 * a0) + 1), .ref 50]) rfl rfl rfl ?_
          refine ex_op pm_M273 (pc' := 14) (st' := [.int 3, .int ((25 * a0) + 1), .ref 50]) rfl rfl rfl ?_
          refine ex_lo pm_M273 (pc' := 15) (ls' := [.ref 41, .int a1, .int a2]) (st' := [.int a1, .int 3, .int ((25 * a0) + 1), .ref 50]) rfl rfl rfl ?_
          refine ex_op pm_M273 (pc' := 16) (st' := [.int (3 * a1), .int ((25 * a0) + 1), .ref 50]) rfl rfl rfl ?_
          refine ex_op pm_M273 (pc' := 17) (st' := [.int (((25 * a0) + 1) + (3 * a1)), .ref 50]) rfl rfl rfl ?_
          refine ex_lo pm_M273 (pc' := 18) (ls' := [.ref 41, .int a1, .int a2]) (st' := [.int a2, .int (((25 * a0) + 1) + (3 * a1)), .ref 50]) rfl rfl rfl ?_
          refine ex_op pm_M273 (pc' := 19) (st' := [.int ((((25 * a0) + 1) + (3 * a1)) + a2), .ref 50]) rfl rfl rfl ?_
          refine ex_iald' pm_M273 (pc' := 20) (v := S.1 50 (((((25 * a0) + 1) + (3 * a1)) + a2).toNatClampNeg)) rfl rfl rfl ?_
          refine ex_retI pm_M273 rfl ?_
          show ex_P _ _ 271 70 [.ref 41, .int a0, .int a1, .int a2] [.int (S.1 50 (((((25 * a0) + 1) + (3 * a1)) + a2).toNatClampNeg))] (ex_sx (ex_sx S 41 0 0) 41 49 a0) _
          refine ex_br pm_M271 (pc' := 75) (st' := [.int (S.1 50 (((((25 * a0) + 1) + (3 * a1)) + a2).toNatClampNeg))]) rfl rfl ?_
          exact ex_retI pm_M271 rfl (⟨_, rfl, v2 a0 a1 a2 S c3 c4 c7 c9⟩)
    · -- not
      refine ex_lo pm_M271 (pc' := 28) (ls' := [.ref 41, .int a0, .int a1, .int a2]) (st' := [.int a2]) rfl rfl rfl ?_
      refine ex_ifc pm_M271 (t := 38) (pc' := 31) rfl rfl rfl (fun c11 => ?_) (fun c11 => ?_)
      · -- ¬ a2 = 0
        refine ex_op pm_M271 (pc' := 40) (st' := [.int (-2)]) rfl rfl rfl ?_
        exact ex_retI pm_M271 rfl (⟨_, rfl, v3 a0 a1 a2 S c3 c4 c11⟩)
      · -- not
        refine ex_lo pm_M271 (pc' := 32) (ls' := [.ref 41, .int a0, .int a1, .int a2]) (st' := [.ref 41]) rfl rfl rfl ?_
        refine ex_call pm_M271 (pc' := 35) (ix := 460) (callee := 272) (np := 0) (kd := 0) (ra := [.ref 41]) (rest := []) rfl rfl rfl rfl pm_M272 rfl rfl rfl rfl (fun d12 => ?_)
        refine ex_lo pm_M272 (pc' := 1) (ls' := [.ref 41]) (st' := [.ref 41]) rfl rfl rfl ?_
        refine ex_getK pm_M272 (pc' := 4) (j := 33) (b := 50) rfl rfl rfl rfl rfl ?_
        refine ex_op pm_M272 (pc' := 6) (st' := [.int 25, .ref 50]) rfl rfl rfl ?_
        refine ex_lo pm_M272 (pc' := 7) (ls' := [.ref 41]) (st' := [.ref 41, .int 25, .ref 50]) rfl rfl rfl ?_
        refine ex_getI' pm_M272 (pc' := 10) (v := a0) rfl rfl rfl rfl rfl rfl ?_
        refine ex_op pm_M272 (pc' := 11) (st' := [.int (25 * a0), .ref 50]) rfl rfl rfl ?_
        refine ex_iald' pm_M272 (pc' := 12) (v := S.1 50 ((25 * a0).toNatClampNeg)) rfl rfl rfl ?_
        refine ex_retI pm_M272 rfl ?_
        show ex_P _ _ 271 35 [.ref 41, .int a0, .int a1, .int a2] [.int (S.1 50 ((25 * a0).toNatClampNeg))] (ex_sx (ex_sx S 41 0 0) 41 49 a0) _
        refine ex_br pm_M271 (pc' := 40) (st' := [.int (S.1 50 ((25 * a0).toNatClampNeg))]) rfl rfl ?_
        exact ex_retI pm_M271 rfl (⟨_, rfl, v4 a0 a1 a2 S c3 c4 c11⟩)
  · -- not
    refine ex_op pm_M271 (pc' := 16) (st' := [.int (-2)]) rfl rfl rfl ?_
    exact ex_retI pm_M271 rfl (⟨_, rfl, v5 a0 a1 a2 S c3⟩)
set_option maxRecDepth 100000 in
set_option maxHeartbeats 4000000 in
/-- SilentTableModel.manyOf -/
theorem ev222 {C : Int64 → ex_S → Int32 → ex_S → Prop} {I4 : Int64 → ex_S → Int32 → Int32 → ex_S → Prop} 
    (v0 : ∀ (a0 : Int64) (S : ex_S), I4 a0 S 0 0 S) 
    (v1 : ∀ (a0 : Int64) (S : ex_S) (x2 : Int32) (x3 : Int32) (T : ex_S), I4 a0 S x2 x3 T → 50 ≤ x3 → C a0 S x2 T) 
    (v2 : ∀ (a0 : Int64) (S : ex_S) (x2 : Int32) (x3 : Int32) (T : ex_S), I4 a0 S x2 x3 T → ¬ (50 ≤ x3) → ¬ lg_cmp ((a0 >>> (x3.toInt64 &&& 63)) &&& 1) 1 = 0 → I4 a0 S (x2 + 0) (x3 + 1) T) 
    (v3 : ∀ (a0 : Int64) (S : ex_S) (x2 : Int32) (x3 : Int32) (T : ex_S), I4 a0 S x2 x3 T → ¬ (50 ≤ x3) → ¬ (¬ lg_cmp ((a0 >>> (x3.toInt64 &&& 63)) &&& 1) 1 = 0) → I4 a0 S (x2 + 1) (x3 + 1) T) : es222 C := by
  intro N d a0 S
  have LL : ∀ N : Nat, (∀ (x2 : Int32) (x3 : Int32) (T : ex_S), I4 a0 S x2 x3 T → ex_P N d 222 4 [.long a0, pm_no, .int x2, .int x3] [] T (fun r S' => ∃ v, r = some (.int v) ∧ C a0 S v S')) := by
    intro N
    induction N with
    | zero => exact fun _ _ _ _ => ex_zero
    | succ N ih =>
      have ih4 := ih
      have L4 : ∀ (x2 : Int32) (x3 : Int32) (T : ex_S), I4 a0 S x2 x3 T → ex_P (N + 1) d 222 4 [.long a0, pm_no, .int x2, .int x3] [] T (fun r S' => ∃ v, r = some (.int v) ∧ C a0 S v S') := by
        intro x2 x3 T hI
        refine ex_lo pm_M222 (pc' := 5) (ls' := [.long a0, pm_no, .int x2, .int x3]) (st' := [.int x3]) rfl rfl rfl ?_
        refine ex_op pm_M222 (pc' := 7) (st' := [.int 50, .int x3]) rfl rfl rfl ?_
        refine ex_icmp pm_M222 (t := 32) (pc' := 10) rfl rfl rfl (fun c1 => ?_) (fun c1 => ?_)
        · -- 50 ≤ x3
          refine ex_lo pm_M222 (pc' := 33) (ls' := [.long a0, pm_no, .int x2, .int x3]) (st' := [.int x2]) rfl rfl rfl ?_
          exact ex_retI pm_M222 rfl (⟨_, rfl, v1 a0 S x2 x3 T hI c1⟩)
        · -- not
          refine ex_lo pm_M222 (pc' := 11) (ls' := [.long a0, pm_no, .int x2, .int x3]) (st' := [.int x2]) rfl rfl rfl ?_
          refine ex_lo pm_M222 (pc' := 12) (ls' := [.long a0, pm_no, .int x2, .int x3]) (st' := [.long a0, .int x2]) rfl rfl rfl ?_
          refine ex_lo pm_M222 (pc' := 13) (ls' := [.long a0, pm_no, .int x2, .int x3]) (st' := [.int x3, .long a0, .int x2]) rfl rfl rfl ?_
          refine ex_call pm_M222 (pc' := 16) (ix := 265) (callee := 206) (np := 2) (kd := 2) (ra := [.int x3, .long a0]) (rest := [.int x2]) rfl rfl rfl rfl pm_M206 rfl rfl rfl rfl (fun d2 => ?_)
          refine ex_lo pm_M206 (pc' := 1) (ls' := [.long a0, pm_no, .int x3]) (st' := [.long a0]) rfl rfl rfl ?_
          refine ex_lo pm_M206 (pc' := 2) (ls' := [.long a0, pm_no, .int x3]) (st' := [.int x3, .long a0]) rfl rfl rfl ?_
          refine ex_op pm_M206 (pc' := 3) (st' := [.long (a0 >>> (x3.toInt64 &&& 63))]) rfl rfl rfl ?_
          refine ex_op pm_M206 (pc' := 4) (st' := [.long 1, .long (a0 >>> (x3.toInt64 &&& 63))]) rfl rfl rfl ?_
          refine ex_op pm_M206 (pc' := 5) (st' := [.long ((a0 >>> (x3.toInt64 &&& 63)) &&& 1)]) rfl rfl rfl ?_
          refine ex_op pm_M206 (pc' := 6) (st' := [.long 1, .long ((a0 >>> (x3.toInt64 &&& 63)) &&& 1)]) rfl rfl rfl ?_
          refine ex_op pm_M206 (pc' := 7) (st' := [.int (lg_cmp ((a0 >>> (x3.toInt64 &&& 63)) &&& 1) 1)]) rfl rfl rfl ?_
          refine ex_ifc pm_M206 (t := 14) (pc' := 10) rfl rfl rfl (fun c3 => ?_) (fun c3 => ?_)
          · -- ¬ lg_cmp ((a0 >>> (x3.toInt64 &&& 63)) &&& 1) 1 = 0
            refine ex_op pm_M206 (pc' := 15) (st' := [.int 0]) rfl rfl rfl ?_
            refine ex_retI pm_M206 rfl ?_
            show ex_P _ _ 222 16 [.long a0, pm_no, .int x2, .int x3] [.int 0, .int x2] T _
            refine ex_ifc pm_M222 (t := 23) (pc' := 19) rfl rfl rfl (fun _ => ?_) (fun z => absurd (show (0 : Int32) = 0 by decide) z)
            refine ex_op pm_M222 (pc' := 24) (st' := [.int 0, .int x2]) rfl rfl rfl ?_
            refine ex_op pm_M222 (pc' := 25) (st' := [.int (x2 + 0)]) rfl rfl rfl ?_
            refine ex_lo pm_M222 (pc' := 26) (ls' := [.long a0, pm_no, .int (x2 + 0), .int x3]) (st' := []) rfl rfl rfl ?_
            refine ex_lo pm_M222 (pc' := 29) (ls' := [.long a0, pm_no, .int (x2 + 0), .int (x3 + 1)]) (st' := []) rfl rfl rfl ?_
            refine ex_goS pm_M222 (pc' := 4) (st' := []) rfl rfl ?_
            exact ih4 (x2 + 0) (x3 + 1) T (v2 a0 S x2 x3 T hI c1 c3)
          · -- not
            refine ex_op pm_M206 (pc' := 11) (st' := [.int 1]) rfl rfl rfl ?_
            refine ex_br pm_M206 (pc' := 15) (st' := [.int 1]) rfl rfl ?_
            refine ex_retI pm_M206 rfl ?_
            show ex_P _ _ 222 16 [.long a0, pm_no, .int x2, .int x3] [.int 1, .int x2] T _
            refine ex_ifc pm_M222 (t := 23) (pc' := 19) rfl rfl rfl (fun z => absurd z (show ¬ ((1 : Int32) = 0) by decide)) (fun _ => ?_)
            refine ex_op pm_M222 (pc' := 20) (st' := [.int 1, .int x2]) rfl rfl rfl ?_
            refine ex_br pm_M222 (pc' := 24) (st' := [.int 1, .int x2]) rfl rfl ?_
            refine ex_op pm_M222 (pc' := 25) (st' := [.int (x2 + 1)]) rfl rfl rfl ?_
            refine ex_lo pm_M222 (pc' := 26) (ls' := [.long a0, pm_no, .int (x2 + 1), .int x3]) (st' := []) rfl rfl rfl ?_
            refine ex_lo pm_M222 (pc' := 29) (ls' := [.long a0, pm_no, .int (x2 + 1), .int (x3 + 1)]) (st' := []) rfl rfl rfl ?_
            refine ex_goS pm_M222 (pc' := 4) (st' := []) rfl rfl ?_
            exact ih4 (x2 + 1) (x3 + 1) T (v3 a0 S x2 x3 T hI c1 c3)
      exact L4
  have L4 := LL N
  refine ex_op pm_M222 (pc' := 1) (st' := [.int 0]) rfl rfl rfl ?_
  refine ex_lo pm_M222 (pc' := 2) (ls' := [.long a0, pm_no, .int 0, pm_no]) (st' := []) rfl rfl rfl ?_
  refine ex_op pm_M222 (pc' := 3) (st' := [.int 0]) rfl rfl rfl ?_
  refine ex_lo pm_M222 (pc' := 4) (ls' := [.long a0, pm_no, .int 0, .int 0]) (st' := []) rfl rfl rfl ?_
  exact L4 0 0 S (v0 a0 S)
set_option maxRecDepth 100000 in
set_option maxHeartbeats 4000000 in
/-- SilentTableModel.tell -/
theorem ev221 {C : Int64 → Int32 → ex_S → Int32 → ex_S → Prop} {C222 : Int64 → ex_S → Int32 → ex_S → Prop} {I15 : Int64 → Int32 → ex_S → Int32 → Int32 → ex_S → Prop} (H222 : es222 C222) 
    (v0 : ∀ (a0 : Int64) (a1 : Int32) (S : ex_S), ¬ a1 = (-1) → I15 a0 a1 S a1 0 S) 
    (v1 : ∀ (a0 : Int64) (a1 : Int32) (S : ex_S), ¬ (¬ a1 = (-1)) → ∀ (r3 : Int32) (S4 : ex_S), C222 a0 S r3 S4 → C a0 a1 S r3 S4) 
    (v2 : ∀ (a0 : Int64) (a1 : Int32) (S : ex_S) (x3 : Int32) (x4 : Int32) (T : ex_S), I15 a0 a1 S x3 x4 T → 50 ≤ x4 → C a0 a1 S (-2) T) 
    (v3 : ∀ (a0 : Int64) (a1 : Int32) (S : ex_S) (x3 : Int32) (x4 : Int32) (T : ex_S), I15 a0 a1 S x3 x4 T → ¬ (50 ≤ x4) → a1 < 0 → C a0 a1 S (-2) T) 
    (v4 : ∀ (a0 : Int64) (a1 : Int32) (S : ex_S) (x3 : Int32) (x4 : Int32) (T : ex_S), I15 a0 a1 S x3 x4 T → ¬ (50 ≤ x4) → ¬ (a1 < 0) → ¬ lg_cmp ((a0 >>> (x4.toInt64 &&& 63)) &&& 1) 1 = 0 → I15 a0 a1 S x3 (x4 + 1) T) 
    (v5 : ∀ (a0 : Int64) (a1 : Int32) (S : ex_S) (x3 : Int32) (x4 : Int32) (T : ex_S), I15 a0 a1 S x3 x4 T → ¬ (50 ≤ x4) → ¬ (a1 < 0) → ¬ (¬ lg_cmp ((a0 >>> (x4.toInt64 &&& 63)) &&& 1) 1 = 0) → ¬ x3 = 0 → I15 a0 a1 S (x3 + (-1)) (x4 + 1) T) 
    (v6 : ∀ (a0 : Int64) (a1 : Int32) (S : ex_S) (x3 : Int32) (x4 : Int32) (T : ex_S), I15 a0 a1 S x3 x4 T → ¬ (50 ≤ x4) → ¬ (a1 < 0) → ¬ (¬ lg_cmp ((a0 >>> (x4.toInt64 &&& 63)) &&& 1) 1 = 0) → ¬ (¬ x3 = 0) → C a0 a1 S x4 T) : es221 C := by
  intro N d a0 a1 S
  have LL : ∀ N : Nat, (∀ (x3 : Int32) (x4 : Int32) (T : ex_S), I15 a0 a1 S x3 x4 T → ex_P N d 221 15 [.long a0, pm_no, .int a1, .int x3, .int x4] [] T (fun r S' => ∃ v, r = some (.int v) ∧ C a0 a1 S v S')) := by
    intro N
    induction N with
    | zero => exact fun _ _ _ _ => ex_zero
    | succ N ih =>
      have ih15 := ih
      have L15 : ∀ (x3 : Int32) (x4 : Int32) (T : ex_S), I15 a0 a1 S x3 x4 T → ex_P (N + 1) d 221 15 [.long a0, pm_no, .int a1, .int x3, .int x4] [] T (fun r S' => ∃ v, r = some (.int v) ∧ C a0 a1 S v S') := by
        intro x3 x4 T hI
        refine ex_lo pm_M221 (pc' := 17) (ls' := [.long a0, pm_no, .int a1, .int x3, .int x4]) (st' := [.int x4]) rfl rfl rfl ?_
        refine ex_op pm_M221 (pc' := 19) (st' := [.int 50, .int x4]) rfl rfl rfl ?_
        refine ex_icmp pm_M221 (t := 51) (pc' := 22) rfl rfl rfl (fun c6 => ?_) (fun c6 => ?_)
        · -- 50 ≤ x4
          refine ex_op pm_M221 (pc' := 53) (st' := [.int (-2)]) rfl rfl rfl ?_
          exact ex_retI pm_M221 rfl (⟨_, rfl, v2 a0 a1 S x3 x4 T hI c6⟩)
        · -- not
          refine ex_lo pm_M221 (pc' := 23) (ls' := [.long a0, pm_no, .int a1, .int x3, .int x4]) (st' := [.int a1]) rfl rfl rfl ?_
          refine ex_ifc pm_M221 (t := 51) (pc' := 26) rfl rfl rfl (fun c7 => ?_) (fun c7 => ?_)
          · -- a1 < 0
            refine ex_op pm_M221 (pc' := 53) (st' := [.int (-2)]) rfl rfl rfl ?_
            exact ex_retI pm_M221 rfl (⟨_, rfl, v3 a0 a1 S x3 x4 T hI c6 c7⟩)
          · -- not
            refine ex_lo pm_M221 (pc' := 27) (ls' := [.long a0, pm_no, .int a1, .int x3, .int x4]) (st' := [.long a0]) rfl rfl rfl ?_
            refine ex_lo pm_M221 (pc' := 29) (ls' := [.long a0, pm_no, .int a1, .int x3, .int x4]) (st' := [.int x4, .long a0]) rfl rfl rfl ?_
            refine ex_call pm_M221 (pc' := 32) (ix := 265) (callee := 206) (np := 2) (kd := 2) (ra := [.int x4, .long a0]) (rest := []) rfl rfl rfl rfl pm_M206 rfl rfl rfl rfl (fun d8 => ?_)
            refine ex_lo pm_M206 (pc' := 1) (ls' := [.long a0, pm_no, .int x4]) (st' := [.long a0]) rfl rfl rfl ?_
            refine ex_lo pm_M206 (pc' := 2) (ls' := [.long a0, pm_no, .int x4]) (st' := [.int x4, .long a0]) rfl rfl rfl ?_
            refine ex_op pm_M206 (pc' := 3) (st' := [.long (a0 >>> (x4.toInt64 &&& 63))]) rfl rfl rfl ?_
            refine ex_op pm_M206 (pc' := 4) (st' := [.long 1, .long (a0 >>> (x4.toInt64 &&& 63))]) rfl rfl rfl ?_
            refine ex_op pm_M206 (pc' := 5) (st' := [.long ((a0 >>> (x4.toInt64 &&& 63)) &&& 1)]) rfl rfl rfl ?_
            refine ex_op pm_M206 (pc' := 6) (st' := [.long 1, .long ((a0 >>> (x4.toInt64 &&& 63)) &&& 1)]) rfl rfl rfl ?_
            refine ex_op pm_M206 (pc' := 7) (st' := [.int (lg_cmp ((a0 >>> (x4.toInt64 &&& 63)) &&& 1) 1)]) rfl rfl rfl ?_
            refine ex_ifc pm_M206 (t := 14) (pc' := 10) rfl rfl rfl (fun c9 => ?_) (fun c9 => ?_)
            · -- ¬ lg_cmp ((a0 >>> (x4.toInt64 &&& 63)) &&& 1) 1 = 0
              refine ex_op pm_M206 (pc' := 15) (st' := [.int 0]) rfl rfl rfl ?_
              refine ex_retI pm_M206 rfl ?_
              show ex_P _ _ 221 32 [.long a0, pm_no, .int a1, .int x3, .int x4] [.int 0] T _
              refine ex_ifc pm_M221 (t := 45) (pc' := 35) rfl rfl rfl (fun _ => ?_) (fun z => absurd (show (0 : Int32) = 0 by decide) z)
              refine ex_lo pm_M221 (pc' := 48) (ls' := [.long a0, pm_no, .int a1, .int x3, .int (x4 + 1)]) (st' := []) rfl rfl rfl ?_
              refine ex_goS pm_M221 (pc' := 15) (st' := []) rfl rfl ?_
              exact ih15 x3 (x4 + 1) T (v4 a0 a1 S x3 x4 T hI c6 c7 c9)
            · -- not
              refine ex_op pm_M206 (pc' := 11) (st' := [.int 1]) rfl rfl rfl ?_
              refine ex_br pm_M206 (pc' := 15) (st' := [.int 1]) rfl rfl ?_
              refine ex_retI pm_M206 rfl ?_
              show ex_P _ _ 221 32 [.long a0, pm_no, .int a1, .int x3, .int x4] [.int 1] T _
              refine ex_ifc pm_M221 (t := 45) (pc' := 35) rfl rfl rfl (fun z => absurd z (show ¬ ((1 : Int32) = 0) by decide)) (fun _ => ?_)
              refine ex_lo pm_M221 (pc' := 36) (ls' := [.long a0, pm_no, .int a1, .int x3, .int x4]) (st' := [.int x3]) rfl rfl rfl ?_
              refine ex_ifc pm_M221 (t := 42) (pc' := 39) rfl rfl rfl (fun c10 => ?_) (fun c10 => ?_)
              · -- ¬ x3 = 0
                refine ex_lo pm_M221 (pc' := 45) (ls' := [.long a0, pm_no, .int a1, .int (x3 + (-1)), .int x4]) (st' := []) rfl rfl rfl ?_
                refine ex_lo pm_M221 (pc' := 48) (ls' := [.long a0, pm_no, .int a1, .int (x3 + (-1)), .int (x4 + 1)]) (st' := []) rfl rfl rfl ?_
                refine ex_goS pm_M221 (pc' := 15) (st' := []) rfl rfl ?_
                exact ih15 (x3 + (-1)) (x4 + 1) T (v5 a0 a1 S x3 x4 T hI c6 c7 c9 c10)
              · -- not
                refine ex_lo pm_M221 (pc' := 41) (ls' := [.long a0, pm_no, .int a1, .int x3, .int x4]) (st' := [.int x4]) rfl rfl rfl ?_
                exact ex_retI pm_M221 rfl (⟨_, rfl, v6 a0 a1 S x3 x4 T hI c6 c7 c9 c10⟩)
      exact L15
  have L15 := LL N
  refine ex_lo pm_M221 (pc' := 1) (ls' := [.long a0, pm_no, .int a1, pm_no, pm_no]) (st' := [.int a1]) rfl rfl rfl ?_
  refine ex_op pm_M221 (pc' := 2) (st' := [.int (-1), .int a1]) rfl rfl rfl ?_
  refine ex_icmp pm_M221 (t := 10) (pc' := 5) rfl rfl rfl (fun c1 => ?_) (fun c1 => ?_)
  · -- ¬ a1 = (-1)
    refine ex_lo pm_M221 (pc' := 11) (ls' := [.long a0, pm_no, .int a1, pm_no, pm_no]) (st' := [.int a1]) rfl rfl rfl ?_
    refine ex_lo pm_M221 (pc' := 12) (ls' := [.long a0, pm_no, .int a1, .int a1, pm_no]) (st' := []) rfl rfl rfl ?_
    refine ex_op pm_M221 (pc' := 13) (st' := [.int 0]) rfl rfl rfl ?_
    refine ex_lo pm_M221 (pc' := 15) (ls' := [.long a0, pm_no, .int a1, .int a1, .int 0]) (st' := []) rfl rfl rfl ?_
    exact L15 a1 0 S (v0 a0 a1 S c1)
  · -- not
    refine ex_lo pm_M221 (pc' := 6) (ls' := [.long a0, pm_no, .int a1, pm_no, pm_no]) (st' := [.long a0]) rfl rfl rfl ?_
    refine ex_call pm_M221 (pc' := 9) (ix := 337) (callee := 222) (np := 1) (kd := 2) (ra := [.long a0]) (rest := []) rfl rfl rfl rfl pm_M222 rfl rfl rfl rfl (fun d2 => (H222 _ d2 a0 S).mono (fun r S4 e => ?_))
    obtain ⟨r3, rfl, h5⟩ := e
    show ex_P _ _ 221 9 [.long a0, pm_no, .int a1, pm_no, pm_no] [.int r3] S4 _
    exact ex_retI pm_M221 rfl (⟨_, rfl, v1 a0 a1 S c1 r3 S4 h5⟩)
