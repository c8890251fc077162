set_option maxRecDepth 100000 in
set_option maxHeartbeats 4000000 in
/-- SilentTableModel.token -/
theorem ev179 {C : ex_S → ex_S → Prop} {I0 : ex_S → ex_S → Prop} {I74 : ex_S → Int32 → ex_S → Prop} {I163 : ex_S → Int32 → ex_S → Prop} 
    (v0 : ∀ (S : ex_S), I0 S S) 
    (v1 : ∀ (S : ex_S) (T : ex_S), I0 S T → vf180 T  = 10 → I0 S (ex_sx T 41 10 ((T.1 41 10) + 1))) 
    (v2 : ∀ (S : ex_S) (T : ex_S), I0 S T → ¬ (vf180 T  = 10) → ¬ vf180 T  = 32 → 0 ≤ vf180 (ex_sx T 41 12 (T.1 41 10))  → vf174 (vf180 (ex_sx T 41 12 (T.1 41 10)) ) 97 122 = 0 → vf174 (vf180 (ex_sx T 41 12 (T.1 41 10)) ) 48 57 = 0 → ¬ vf180 (ex_sx T 41 12 (T.1 41 10))  = 59 → C S (ex_sx (ex_sx (ex_sy (ex_sx T 41 12 (T.1 41 10)) 41 15 0) 41 10 ((T.1 41 10) + 1)) 41 13 1)) 
    (v3 : ∀ (S : ex_S) (T : ex_S), I0 S T → ¬ (vf180 T  = 10) → ¬ vf180 T  = 32 → 0 ≤ vf180 (ex_sx T 41 12 (T.1 41 10))  → vf174 (vf180 (ex_sx T 41 12 (T.1 41 10)) ) 97 122 = 0 → vf174 (vf180 (ex_sx T 41 12 (T.1 41 10)) ) 48 57 = 0 → ¬ (¬ vf180 (ex_sx T 41 12 (T.1 41 10))  = 59) → C S (ex_sx (ex_sx (ex_sy (ex_sx T 41 12 (T.1 41 10)) 41 15 0) 41 10 ((T.1 41 10) + 1)) 41 13 4)) 
    (v4 : ∀ (S : ex_S) (T : ex_S), I0 S T → ¬ (vf180 T  = 10) → ¬ vf180 T  = 32 → 0 ≤ vf180 (ex_sx T 41 12 (T.1 41 10))  → vf174 (vf180 (ex_sx T 41 12 (T.1 41 10)) ) 97 122 = 0 → ¬ (vf174 (vf180 (ex_sx T 41 12 (T.1 41 10)) ) 48 57 = 0) → I163 S 0 (ex_sx (ex_sy (ex_sx T 41 12 (T.1 41 10)) 41 15 0) 41 14 0)) 
    (v5 : ∀ (S : ex_S) (T : ex_S), I0 S T → ¬ (vf180 T  = 10) → ¬ vf180 T  = 32 → 0 ≤ vf180 (ex_sx T 41 12 (T.1 41 10))  → ¬ (vf174 (vf180 (ex_sx T 41 12 (T.1 41 10)) ) 97 122 = 0) → I74 S 0 (ex_sy (ex_sx T 41 12 (T.1 41 10)) 41 15 0)) 
    (v6 : ∀ (S : ex_S) (T : ex_S), I0 S T → ¬ (vf180 T  = 10) → ¬ vf180 T  = 32 → ¬ (0 ≤ vf180 (ex_sx T 41 12 (T.1 41 10)) ) → C S (ex_sx (ex_sy (ex_sx T 41 12 (T.1 41 10)) 41 15 0) 41 13 0)) 
    (v7 : ∀ (S : ex_S) (T : ex_S), I0 S T → ¬ (vf180 T  = 10) → ¬ (¬ vf180 T  = 32) → I0 S (ex_sx T 41 10 ((T.1 41 10) + 1))) 
    (v8 : ∀ (S : ex_S) (x2 : Int32) (T : ex_S), I163 S x2 T → vf174 (vf180 T ) 48 57 = 0 → x2 ≤ 2 → C S (ex_sx T 41 13 3)) 
    (v9 : ∀ (S : ex_S) (x2 : Int32) (T : ex_S), I163 S x2 T → vf174 (vf180 T ) 48 57 = 0 → ¬ (x2 ≤ 2) → C S (ex_sx T 41 13 1)) 
    (v10 : ∀ (S : ex_S) (x2 : Int32) (T : ex_S), I163 S x2 T → ¬ (vf174 (vf180 T ) 48 57 = 0) → 2 ≤ x2 → I163 S (x2 + 1) (ex_sx (ex_sx T 41 14 (T.1 41 14)) 41 10 ((T.1 41 10) + 1))) 
    (v11 : ∀ (S : ex_S) (x2 : Int32) (T : ex_S), I163 S x2 T → ¬ (vf174 (vf180 T ) 48 57 = 0) → ¬ (2 ≤ x2) → I163 S (x2 + 1) (ex_sx (ex_sx T 41 14 (((10 * (T.1 41 14)) + (vf180 T )) - 48)) 41 10 ((T.1 41 10) + 1))) 
    (v12 : ∀ (S : ex_S) (x2 : Int32) (T : ex_S), I74 S x2 T → vf174 (vf180 T ) 97 122 = 0 → x2 ≤ 8 → C S (ex_sx (ex_sy T 41 15 (T.2.1 41 15)) 41 13 2)) 
    (v13 : ∀ (S : ex_S) (x2 : Int32) (T : ex_S), I74 S x2 T → vf174 (vf180 T ) 97 122 = 0 → ¬ (x2 ≤ 8) → C S (ex_sx (ex_sy T 41 15 0) 41 13 2)) 
    (v14 : ∀ (S : ex_S) (x2 : Int32) (T : ex_S), I74 S x2 T → ¬ (vf174 (vf180 T ) 97 122 = 0) → I74 S (x2 + 1) (ex_sx (ex_sy T 41 15 (((T.2.1 41 15) <<< ((8 : Int32).toInt64 &&& 63)) ||| ((vf180 T ).toInt64))) 41 10 ((T.1 41 10) + 1))) : es179 C := by
  intro N d  S
  have LL : ∀ N : Nat, (∀ (g1 : Value) (x2 : Int32) (T : ex_S), g1.category = 1 → I163 S x2 T → ex_P N d 179 163 [.ref 41, g1, .int x2] [] T (fun r S_q => r = none ∧ C S S_q)) ∧ (∀ (g1 : Value) (x2 : Int32) (T : ex_S), g1.category = 1 → I74 S x2 T → ex_P N d 179 74 [.ref 41, g1, .int x2] [] T (fun r S_q => r = none ∧ C S S_q)) ∧ (∀ (g1 : Value) (g2 : Value) (T : ex_S), g1.category = 1 → g2.category = 1 → I0 S T → ex_P N d 179 0 [.ref 41, g1, g2] [] T (fun r S_q => r = none ∧ C S S_q)) := by
    intro N
    induction N with
    | zero => exact ⟨fun _ _ _ _ _ => ex_zero, fun _ _ _ _ _ => ex_zero, fun _ _ _ _ _ _ => ex_zero⟩
    | succ N ih =>
      obtain ⟨ih163, ih74, ih0⟩ := ih
      have L163 : ∀ (g1 : Value) (x2 : Int32) (T : ex_S), g1.category = 1 → I163 S x2 T → ex_P (N + 1) d 179 163 [.ref 41, g1, .int x2] [] T (fun r S_q => r = none ∧ C S S_q) := by
        intro g1 x2 T hg1 hI
        refine ex_lo pm_M179 (pc_q := 164) (ls_q := [.ref 41, g1, .int x2]) (st_q := [.ref 41]) rfl rfl rfl ?_
        refine ex_call pm_M179 (pc_q := 167) (ix := 126) (callee := 180) (np := 0) (kd := 0) (ra := [.ref 41]) (rest := []) rfl rfl rfl rfl pm_M180 rfl rfl rfl rfl (fun d12 => (ef180 _ d12 T).mono (fun r S1 e => ?_))
        obtain ⟨rfl, e2⟩ := e
        rw [e2]
        show ex_P _ _ 179 167 [.ref 41, g1, .int x2] [.int (vf180 T )] T _
        refine ex_op pm_M179 (pc_q := 169) (st_q := [.int 48, .int (vf180 T )]) rfl rfl rfl ?_
        refine ex_op pm_M179 (pc_q := 171) (st_q := [.int 57, .int 48, .int (vf180 T )]) rfl rfl rfl ?_
        refine ex_call pm_M179 (pc_q := 174) (ix := 112) (callee := 174) (np := 3) (kd := 2) (ra := [.int 57, .int 48, .int (vf180 T )]) (rest := []) rfl rfl rfl rfl pm_M174 rfl rfl rfl rfl (fun d13 => (ef174 _ d13 (vf180 T ) 48 57 T).mono (fun r S1 e => ?_))
        obtain ⟨rfl, e2⟩ := e
        rw [e2]
        show ex_P _ _ 179 174 [.ref 41, g1, .int x2] [.int (vf174 (vf180 T ) 48 57)] T _
        refine ex_ifc pm_M179 (t := 224) (pc_q := 177) rfl rfl rfl (fun c14 => ?_) (fun c14 => ?_)
        · -- vf174 (vf180 T ) 48 57 = 0
          refine ex_lo pm_M179 (pc_q := 225) (ls_q := [.ref 41, g1, .int x2]) (st_q := [.ref 41]) rfl rfl rfl ?_
          refine ex_lo pm_M179 (pc_q := 226) (ls_q := [.ref 41, g1, .int x2]) (st_q := [.int x2, .ref 41]) rfl rfl rfl ?_
          refine ex_op pm_M179 (pc_q := 227) (st_q := [.int 2, .int x2, .ref 41]) rfl rfl rfl ?_
          refine ex_icmp pm_M179 (t := 234) (pc_q := 230) rfl rfl rfl (fun c15 => ?_) (fun c15 => ?_)
          · -- x2 ≤ 2
            refine ex_op pm_M179 (pc_q := 235) (st_q := [.int 3, .ref 41]) rfl rfl rfl ?_
            refine ex_putI pm_M179 (pc_q := 238) rfl rfl rfl rfl rfl ?_
            refine ex_br pm_M179 (pc_q := 266) (st_q := []) rfl rfl ?_
            exact ex_ret pm_M179 (r := none) rfl rfl (⟨rfl, v8 S x2 T hI c14 c15⟩)
          · -- not
            refine ex_op pm_M179 (pc_q := 231) (st_q := [.int 1, .ref 41]) rfl rfl rfl ?_
            refine ex_br pm_M179 (pc_q := 235) (st_q := [.int 1, .ref 41]) rfl rfl ?_
            refine ex_putI pm_M179 (pc_q := 238) rfl rfl rfl rfl rfl ?_
            refine ex_br pm_M179 (pc_q := 266) (st_q := []) rfl rfl ?_
            exact ex_ret pm_M179 (r := none) rfl rfl (⟨rfl, v9 S x2 T hI c14 c15⟩)
        · -- not
          refine ex_lo pm_M179 (pc_q := 178) (ls_q := [.ref 41, g1, .int x2]) (st_q := [.ref 41]) rfl rfl rfl ?_
          refine ex_lo pm_M179 (pc_q := 179) (ls_q := [.ref 41, g1, .int x2]) (st_q := [.int x2, .ref 41]) rfl rfl rfl ?_
          refine ex_op pm_M179 (pc_q := 180) (st_q := [.int 2, .int x2, .ref 41]) rfl rfl rfl ?_
          refine ex_icmp pm_M179 (t := 201) (pc_q := 183) rfl rfl rfl (fun c16 => ?_) (fun c16 => ?_)
          · -- 2 ≤ x2
            refine ex_lo pm_M179 (pc_q := 202) (ls_q := [.ref 41, g1, .int x2]) (st_q := [.ref 41, .ref 41]) rfl rfl rfl ?_
            refine ex_getI' pm_M179 (pc_q := 205) (v := T.1 41 14) rfl rfl rfl rfl rfl rfl ?_
            refine ex_putI pm_M179 (pc_q := 208) rfl rfl rfl rfl rfl ?_
            refine ex_lo pm_M179 (pc_q := 209) (ls_q := [.ref 41, g1, .int x2]) (st_q := [.ref 41]) rfl rfl rfl ?_
            refine ex_op pm_M179 (pc_q := 210) (st_q := [.ref 41, .ref 41]) rfl rfl rfl ?_
            refine ex_getI' pm_M179 (pc_q := 213) (v := T.1 41 10) rfl rfl rfl rfl rfl rfl ?_
            refine ex_op pm_M179 (pc_q := 214) (st_q := [.int 1, .int (T.1 41 10), .ref 41]) rfl rfl rfl ?_
            refine ex_op pm_M179 (pc_q := 215) (st_q := [.int ((T.1 41 10) + 1), .ref 41]) rfl rfl rfl ?_
            refine ex_putI pm_M179 (pc_q := 218) rfl rfl rfl rfl rfl ?_
            refine ex_lo pm_M179 (pc_q := 221) (ls_q := [.ref 41, g1, .int (x2 + 1)]) (st_q := []) rfl (by simp [pm_lo, pm_inc, pm_st1, pm_kill, hg1]) rfl ?_
            refine ex_goS pm_M179 (pc_q := 163) (st_q := []) rfl rfl ?_
            exact ih163 g1 (x2 + 1) (ex_sx (ex_sx T 41 14 (T.1 41 14)) 41 10 ((T.1 41 10) + 1)) hg1 (v10 S x2 T hI c14 c16)
          · -- not
            refine ex_op pm_M179 (pc_q := 185) (st_q := [.int 10, .ref 41]) rfl rfl rfl ?_
            refine ex_lo pm_M179 (pc_q := 186) (ls_q := [.ref 41, g1, .int x2]) (st_q := [.ref 41, .int 10, .ref 41]) rfl rfl rfl ?_
            refine ex_getI' pm_M179 (pc_q := 189) (v := T.1 41 14) rfl rfl rfl rfl rfl rfl ?_
            refine ex_op pm_M179 (pc_q := 190) (st_q := [.int (10 * (T.1 41 14)), .ref 41]) rfl rfl rfl ?_
            refine ex_lo pm_M179 (pc_q := 191) (ls_q := [.ref 41, g1, .int x2]) (st_q := [.ref 41, .int (10 * (T.1 41 14)), .ref 41]) rfl rfl rfl ?_
            refine ex_call pm_M179 (pc_q := 194) (ix := 126) (callee := 180) (np := 0) (kd := 0) (ra := [.ref 41]) (rest := [.int (10 * (T.1 41 14)), .ref 41]) rfl rfl rfl rfl pm_M180 rfl rfl rfl rfl (fun d17 => (ef180 _ d17 T).mono (fun r S1 e => ?_))
            obtain ⟨rfl, e2⟩ := e
            rw [e2]
            show ex_P _ _ 179 194 [.ref 41, g1, .int x2] [.int (vf180 T ), .int (10 * (T.1 41 14)), .ref 41] T _
            refine ex_op pm_M179 (pc_q := 195) (st_q := [.int ((10 * (T.1 41 14)) + (vf180 T )), .ref 41]) rfl rfl rfl ?_
            refine ex_op pm_M179 (pc_q := 197) (st_q := [.int 48, .int ((10 * (T.1 41 14)) + (vf180 T )), .ref 41]) rfl rfl rfl ?_
            refine ex_op pm_M179 (pc_q := 198) (st_q := [.int (((10 * (T.1 41 14)) + (vf180 T )) - 48), .ref 41]) rfl rfl rfl ?_
            refine ex_br pm_M179 (pc_q := 205) (st_q := [.int (((10 * (T.1 41 14)) + (vf180 T )) - 48), .ref 41]) rfl rfl ?_
            refine ex_putI pm_M179 (pc_q := 208) rfl rfl rfl rfl rfl ?_
            refine ex_lo pm_M179 (pc_q := 209) (ls_q := [.ref 41, g1, .int x2]) (st_q := [.ref 41]) rfl rfl rfl ?_
            refine ex_op pm_M179 (pc_q := 210) (st_q := [.ref 41, .ref 41]) rfl rfl rfl ?_
            refine ex_getI' pm_M179 (pc_q := 213) (v := T.1 41 10) rfl rfl rfl rfl rfl rfl ?_
            refine ex_op pm_M179 (pc_q := 214) (st_q := [.int 1, .int (T.1 41 10), .ref 41]) rfl rfl rfl ?_
            refine ex_op pm_M179 (pc_q := 215) (st_q := [.int ((T.1 41 10) + 1), .ref 41]) rfl rfl rfl ?_
            refine ex_putI pm_M179 (pc_q := 218) rfl rfl rfl rfl rfl ?_
            refine ex_lo pm_M179 (pc_q := 221) (ls_q := [.ref 41, g1, .int (x2 + 1)]) (st_q := []) rfl (by simp [pm_lo, pm_inc, pm_st1, pm_kill, hg1]) rfl ?_
            refine ex_goS pm_M179 (pc_q := 163) (st_q := []) rfl rfl ?_
            exact ih163 g1 (x2 + 1) (ex_sx (ex_sx T 41 14 (((10 * (T.1 41 14)) + (vf180 T )) - 48)) 41 10 ((T.1 41 10) + 1)) hg1 (v11 S x2 T hI c14 c16)
      have L74 : ∀ (g1 : Value) (x2 : Int32) (T : ex_S), g1.category = 1 → I74 S x2 T → ex_P (N + 1) d 179 74 [.ref 41, g1, .int x2] [] T (fun r S_q => r = none ∧ C S S_q) := by
        intro g1 x2 T hg1 hI
        refine ex_lo pm_M179 (pc_q := 75) (ls_q := [.ref 41, g1, .int x2]) (st_q := [.ref 41]) rfl rfl rfl ?_
        refine ex_call pm_M179 (pc_q := 78) (ix := 126) (callee := 180) (np := 0) (kd := 0) (ra := [.ref 41]) (rest := []) rfl rfl rfl rfl pm_M180 rfl rfl rfl rfl (fun d18 => (ef180 _ d18 T).mono (fun r S1 e => ?_))
        obtain ⟨rfl, e2⟩ := e
        rw [e2]
        show ex_P _ _ 179 78 [.ref 41, g1, .int x2] [.int (vf180 T )] T _
        refine ex_op pm_M179 (pc_q := 80) (st_q := [.int 97, .int (vf180 T )]) rfl rfl rfl ?_
        refine ex_op pm_M179 (pc_q := 82) (st_q := [.int 122, .int 97, .int (vf180 T )]) rfl rfl rfl ?_
        refine ex_call pm_M179 (pc_q := 85) (ix := 112) (callee := 174) (np := 3) (kd := 2) (ra := [.int 122, .int 97, .int (vf180 T )]) (rest := []) rfl rfl rfl rfl pm_M174 rfl rfl rfl rfl (fun d19 => (ef174 _ d19 (vf180 T ) 97 122 T).mono (fun r S1 e => ?_))
        obtain ⟨rfl, e2⟩ := e
        rw [e2]
        show ex_P _ _ 179 85 [.ref 41, g1, .int x2] [.int (vf174 (vf180 T ) 97 122)] T _
        refine ex_ifc pm_M179 (t := 121) (pc_q := 88) rfl rfl rfl (fun c20 => ?_) (fun c20 => ?_)
        · -- vf174 (vf180 T ) 97 122 = 0
          refine ex_lo pm_M179 (pc_q := 122) (ls_q := [.ref 41, g1, .int x2]) (st_q := [.ref 41]) rfl rfl rfl ?_
          refine ex_lo pm_M179 (pc_q := 123) (ls_q := [.ref 41, g1, .int x2]) (st_q := [.int x2, .ref 41]) rfl rfl rfl ?_
          refine ex_op pm_M179 (pc_q := 125) (st_q := [.int 8, .int x2, .ref 41]) rfl rfl rfl ?_
          refine ex_icmp pm_M179 (t := 132) (pc_q := 128) rfl rfl rfl (fun c21 => ?_) (fun c21 => ?_)
          · -- x2 ≤ 8
            refine ex_lo pm_M179 (pc_q := 133) (ls_q := [.ref 41, g1, .int x2]) (st_q := [.ref 41, .ref 41]) rfl rfl rfl ?_
            refine ex_getL' pm_M179 (pc_q := 136) (v := T.2.1 41 15) rfl rfl rfl rfl rfl rfl ?_
            refine ex_putL pm_M179 (pc_q := 139) rfl rfl rfl rfl rfl ?_
            refine ex_lo pm_M179 (pc_q := 140) (ls_q := [.ref 41, g1, .int x2]) (st_q := [.ref 41]) rfl rfl rfl ?_
            refine ex_op pm_M179 (pc_q := 141) (st_q := [.int 2, .ref 41]) rfl rfl rfl ?_
            refine ex_putI pm_M179 (pc_q := 144) rfl rfl rfl rfl rfl ?_
            refine ex_br pm_M179 (pc_q := 266) (st_q := []) rfl rfl ?_
            exact ex_ret pm_M179 (r := none) rfl rfl (⟨rfl, v12 S x2 T hI c20 c21⟩)
          · -- not
            refine ex_op pm_M179 (pc_q := 129) (st_q := [.long 0, .ref 41]) rfl rfl rfl ?_
            refine ex_br pm_M179 (pc_q := 136) (st_q := [.long 0, .ref 41]) rfl rfl ?_
            refine ex_putL pm_M179 (pc_q := 139) rfl rfl rfl rfl rfl ?_
            refine ex_lo pm_M179 (pc_q := 140) (ls_q := [.ref 41, g1, .int x2]) (st_q := [.ref 41]) rfl rfl rfl ?_
            refine ex_op pm_M179 (pc_q := 141) (st_q := [.int 2, .ref 41]) rfl rfl rfl ?_
            refine ex_putI pm_M179 (pc_q := 144) rfl rfl rfl rfl rfl ?_
            refine ex_br pm_M179 (pc_q := 266) (st_q := []) rfl rfl ?_
            exact ex_ret pm_M179 (r := none) rfl rfl (⟨rfl, v13 S x2 T hI c20 c21⟩)
        · -- not
          refine ex_lo pm_M179 (pc_q := 89) (ls_q := [.ref 41, g1, .int x2]) (st_q := [.ref 41]) rfl rfl rfl ?_
          refine ex_lo pm_M179 (pc_q := 90) (ls_q := [.ref 41, g1, .int x2]) (st_q := [.ref 41, .ref 41]) rfl rfl rfl ?_
          refine ex_getL' pm_M179 (pc_q := 93) (v := T.2.1 41 15) rfl rfl rfl rfl rfl rfl ?_
          refine ex_op pm_M179 (pc_q := 95) (st_q := [.int 8, .long (T.2.1 41 15), .ref 41]) rfl rfl rfl ?_
          refine ex_op pm_M179 (pc_q := 96) (st_q := [.long ((T.2.1 41 15) <<< ((8 : Int32).toInt64 &&& 63)), .ref 41]) rfl rfl rfl ?_
          refine ex_lo pm_M179 (pc_q := 97) (ls_q := [.ref 41, g1, .int x2]) (st_q := [.ref 41, .long ((T.2.1 41 15) <<< ((8 : Int32).toInt64 &&& 63)), .ref 41]) rfl rfl rfl ?_
          refine ex_call pm_M179 (pc_q := 100) (ix := 126) (callee := 180) (np := 0) (kd := 0) (ra := [.ref 41]) (rest := [.long ((T.2.1 41 15) <<< ((8 : Int32).toInt64 &&& 63)), .ref 41]) rfl rfl rfl rfl pm_M180 rfl rfl rfl rfl (fun d22 => (ef180 _ d22 T).mono (fun r S1 e => ?_))
          obtain ⟨rfl, e2⟩ := e
          rw [e2]
          show ex_P _ _ 179 100 [.ref 41, g1, .int x2] [.int (vf180 T ), .long ((T.2.1 41 15) <<< ((8 : Int32).toInt64 &&& 63)), .ref 41] T _
          refine ex_op pm_M179 (pc_q := 101) (st_q := [.long ((vf180 T ).toInt64), .long ((T.2.1 41 15) <<< ((8 : Int32).toInt64 &&& 63)), .ref 41]) rfl rfl rfl ?_
          refine ex_op pm_M179 (pc_q := 102) (st_q := [.long (((T.2.1 41 15) <<< ((8 : Int32).toInt64 &&& 63)) ||| ((vf180 T ).toInt64)), .ref 41]) rfl rfl rfl ?_
          refine ex_putL pm_M179 (pc_q := 105) rfl rfl rfl rfl rfl ?_
          refine ex_lo pm_M179 (pc_q := 106) (ls_q := [.ref 41, g1, .int x2]) (st_q := [.ref 41]) rfl rfl rfl ?_
          refine ex_op pm_M179 (pc_q := 107) (st_q := [.ref 41, .ref 41]) rfl rfl rfl ?_
          refine ex_getI' pm_M179 (pc_q := 110) (v := T.1 41 10) rfl rfl rfl rfl rfl rfl ?_
          refine ex_op pm_M179 (pc_q := 111) (st_q := [.int 1, .int (T.1 41 10), .ref 41]) rfl rfl rfl ?_
          refine ex_op pm_M179 (pc_q := 112) (st_q := [.int ((T.1 41 10) + 1), .ref 41]) rfl rfl rfl ?_
          refine ex_putI pm_M179 (pc_q := 115) rfl rfl rfl rfl rfl ?_
          refine ex_lo pm_M179 (pc_q := 118) (ls_q := [.ref 41, g1, .int (x2 + 1)]) (st_q := []) rfl (by simp [pm_lo, pm_inc, pm_st1, pm_kill, hg1]) rfl ?_
          refine ex_goS pm_M179 (pc_q := 74) (st_q := []) rfl rfl ?_
          exact ih74 g1 (x2 + 1) (ex_sx (ex_sy T 41 15 (((T.2.1 41 15) <<< ((8 : Int32).toInt64 &&& 63)) ||| ((vf180 T ).toInt64))) 41 10 ((T.1 41 10) + 1)) hg1 (v14 S x2 T hI c20)
      have L0 : ∀ (g1 : Value) (g2 : Value) (T : ex_S), g1.category = 1 → g2.category = 1 → I0 S T → ex_P (N + 1) d 179 0 [.ref 41, g1, g2] [] T (fun r S_q => r = none ∧ C S S_q) := by
        intro g1 g2 T hg1 hg2 hI
        refine ex_lo pm_M179 (pc_q := 1) (ls_q := [.ref 41, g1, g2]) (st_q := [.ref 41]) rfl rfl rfl ?_
        refine ex_call pm_M179 (pc_q := 4) (ix := 126) (callee := 180) (np := 0) (kd := 0) (ra := [.ref 41]) (rest := []) rfl rfl rfl rfl pm_M180 rfl rfl rfl rfl (fun d1 => (ef180 _ d1 T).mono (fun r S1 e => ?_))
        obtain ⟨rfl, e2⟩ := e
        rw [e2]
        show ex_P _ _ 179 4 [.ref 41, g1, g2] [.int (vf180 T )] T _
        refine ex_op pm_M179 (pc_q := 6) (st_q := [.int 10, .int (vf180 T )]) rfl rfl rfl ?_
        refine ex_icmp pm_M179 (t := 18) (pc_q := 9) rfl rfl rfl (fun c2 => ?_) (fun c2 => ?_)
        · -- vf180 T  = 10
          refine ex_lo pm_M179 (pc_q := 19) (ls_q := [.ref 41, g1, g2]) (st_q := [.ref 41]) rfl rfl rfl ?_
          refine ex_op pm_M179 (pc_q := 20) (st_q := [.ref 41, .ref 41]) rfl rfl rfl ?_
          refine ex_getI' pm_M179 (pc_q := 23) (v := T.1 41 10) rfl rfl rfl rfl rfl rfl ?_
          refine ex_op pm_M179 (pc_q := 24) (st_q := [.int 1, .int (T.1 41 10), .ref 41]) rfl rfl rfl ?_
          refine ex_op pm_M179 (pc_q := 25) (st_q := [.int ((T.1 41 10) + 1), .ref 41]) rfl rfl rfl ?_
          refine ex_putI pm_M179 (pc_q := 28) rfl rfl rfl rfl rfl ?_
          refine ex_goS pm_M179 (pc_q := 0) (st_q := []) rfl rfl ?_
          exact ih0 g1 g2 (ex_sx T 41 10 ((T.1 41 10) + 1)) hg1 hg2 (v1 S T hI c2)
        · -- not
          refine ex_lo pm_M179 (pc_q := 10) (ls_q := [.ref 41, g1, g2]) (st_q := [.ref 41]) rfl rfl rfl ?_
          refine ex_call pm_M179 (pc_q := 13) (ix := 126) (callee := 180) (np := 0) (kd := 0) (ra := [.ref 41]) (rest := []) rfl rfl rfl rfl pm_M180 rfl rfl rfl rfl (fun d3 => (ef180 _ d3 T).mono (fun r S1 e => ?_))
          obtain ⟨rfl, e2⟩ := e
          rw [e2]
          show ex_P _ _ 179 13 [.ref 41, g1, g2] [.int (vf180 T )] T _
          refine ex_op pm_M179 (pc_q := 15) (st_q := [.int 32, .int (vf180 T )]) rfl rfl rfl ?_
          refine ex_icmp pm_M179 (t := 31) (pc_q := 18) rfl rfl rfl (fun c4 => ?_) (fun c4 => ?_)
          · -- ¬ vf180 T  = 32
            refine ex_lo pm_M179 (pc_q := 32) (ls_q := [.ref 41, g1, g2]) (st_q := [.ref 41]) rfl rfl rfl ?_
            refine ex_lo pm_M179 (pc_q := 33) (ls_q := [.ref 41, g1, g2]) (st_q := [.ref 41, .ref 41]) rfl rfl rfl ?_
            refine ex_getI' pm_M179 (pc_q := 36) (v := T.1 41 10) rfl rfl rfl rfl rfl rfl ?_
            refine ex_putI pm_M179 (pc_q := 39) rfl rfl rfl rfl rfl ?_
            refine ex_lo pm_M179 (pc_q := 40) (ls_q := [.ref 41, g1, g2]) (st_q := [.ref 41]) rfl rfl rfl ?_
            refine ex_call pm_M179 (pc_q := 43) (ix := 126) (callee := 180) (np := 0) (kd := 0) (ra := [.ref 41]) (rest := []) rfl rfl rfl rfl pm_M180 rfl rfl rfl rfl (fun d5 => (ef180 _ d5 (ex_sx T 41 12 (T.1 41 10))).mono (fun r S1 e => ?_))
            obtain ⟨rfl, e2⟩ := e
            rw [e2]
            show ex_P _ _ 179 43 [.ref 41, g1, g2] [.int (vf180 (ex_sx T 41 12 (T.1 41 10)) )] (ex_sx T 41 12 (T.1 41 10)) _
            refine ex_lo pm_M179 (pc_q := 44) (ls_q := [.ref 41, .int (vf180 (ex_sx T 41 12 (T.1 41 10)) ), g2]) (st_q := []) rfl rfl rfl ?_
            refine ex_lo pm_M179 (pc_q := 45) (ls_q := [.ref 41, .int (vf180 (ex_sx T 41 12 (T.1 41 10)) ), g2]) (st_q := [.ref 41]) rfl rfl rfl ?_
            refine ex_op pm_M179 (pc_q := 46) (st_q := [.long 0, .ref 41]) rfl rfl rfl ?_
            refine ex_putL pm_M179 (pc_q := 49) rfl rfl rfl rfl rfl ?_
            refine ex_op pm_M179 (pc_q := 50) (st_q := [.int 0]) rfl rfl rfl ?_
            refine ex_lo pm_M179 (pc_q := 51) (ls_q := [.ref 41, .int (vf180 (ex_sx T 41 12 (T.1 41 10)) ), .int 0]) (st_q := []) rfl rfl rfl ?_
            refine ex_lo pm_M179 (pc_q := 52) (ls_q := [.ref 41, .int (vf180 (ex_sx T 41 12 (T.1 41 10)) ), .int 0]) (st_q := [.int (vf180 (ex_sx T 41 12 (T.1 41 10)) )]) rfl rfl rfl ?_
            refine ex_ifc pm_M179 (t := 63) (pc_q := 55) rfl rfl rfl (fun c6 => ?_) (fun c6 => ?_)
            · -- 0 ≤ vf180 (ex_sx T 41 12 (T.1 41 10)) 
              refine ex_lo pm_M179 (pc_q := 64) (ls_q := [.ref 41, .int (vf180 (ex_sx T 41 12 (T.1 41 10)) ), .int 0]) (st_q := [.int (vf180 (ex_sx T 41 12 (T.1 41 10)) )]) rfl rfl rfl ?_
              refine ex_op pm_M179 (pc_q := 66) (st_q := [.int 97, .int (vf180 (ex_sx T 41 12 (T.1 41 10)) )]) rfl rfl rfl ?_
              refine ex_op pm_M179 (pc_q := 68) (st_q := [.int 122, .int 97, .int (vf180 (ex_sx T 41 12 (T.1 41 10)) )]) rfl rfl rfl ?_
              refine ex_call pm_M179 (pc_q := 71) (ix := 112) (callee := 174) (np := 3) (kd := 2) (ra := [.int 122, .int 97, .int (vf180 (ex_sx T 41 12 (T.1 41 10)) )]) (rest := []) rfl rfl rfl rfl pm_M174 rfl rfl rfl rfl (fun d7 => (ef174 _ d7 (vf180 (ex_sx T 41 12 (T.1 41 10)) ) 97 122 (ex_sy (ex_sx T 41 12 (T.1 41 10)) 41 15 0)).mono (fun r S1 e => ?_))
              obtain ⟨rfl, e2⟩ := e
              rw [e2]
              show ex_P _ _ 179 71 [.ref 41, .int (vf180 (ex_sx T 41 12 (T.1 41 10)) ), .int 0] [.int (vf174 (vf180 (ex_sx T 41 12 (T.1 41 10)) ) 97 122)] (ex_sy (ex_sx T 41 12 (T.1 41 10)) 41 15 0) _
              refine ex_ifc pm_M179 (t := 147) (pc_q := 74) rfl rfl rfl (fun c8 => ?_) (fun c8 => ?_)
              · -- vf174 (vf180 (ex_sx T 41 12 (T.1 41 10)) ) 97 122 = 0
                refine ex_lo pm_M179 (pc_q := 148) (ls_q := [.ref 41, .int (vf180 (ex_sx T 41 12 (T.1 41 10)) ), .int 0]) (st_q := [.int (vf180 (ex_sx T 41 12 (T.1 41 10)) )]) rfl rfl rfl ?_
                refine ex_op pm_M179 (pc_q := 150) (st_q := [.int 48, .int (vf180 (ex_sx T 41 12 (T.1 41 10)) )]) rfl rfl rfl ?_
                refine ex_op pm_M179 (pc_q := 152) (st_q := [.int 57, .int 48, .int (vf180 (ex_sx T 41 12 (T.1 41 10)) )]) rfl rfl rfl ?_
                refine ex_call pm_M179 (pc_q := 155) (ix := 112) (callee := 174) (np := 3) (kd := 2) (ra := [.int 57, .int 48, .int (vf180 (ex_sx T 41 12 (T.1 41 10)) )]) (rest := []) rfl rfl rfl rfl pm_M174 rfl rfl rfl rfl (fun d9 => (ef174 _ d9 (vf180 (ex_sx T 41 12 (T.1 41 10)) ) 48 57 (ex_sy (ex_sx T 41 12 (T.1 41 10)) 41 15 0)).mono (fun r S1 e => ?_))
                obtain ⟨rfl, e2⟩ := e
                rw [e2]
                show ex_P _ _ 179 155 [.ref 41, .int (vf180 (ex_sx T 41 12 (T.1 41 10)) ), .int 0] [.int (vf174 (vf180 (ex_sx T 41 12 (T.1 41 10)) ) 48 57)] (ex_sy (ex_sx T 41 12 (T.1 41 10)) 41 15 0) _
                refine ex_ifc pm_M179 (t := 241) (pc_q := 158) rfl rfl rfl (fun c10 => ?_) (fun c10 => ?_)
                · -- vf174 (vf180 (ex_sx T 41 12 (T.1 41 10)) ) 48 57 = 0
                  refine ex_lo pm_M179 (pc_q := 242) (ls_q := [.ref 41, .int (vf180 (ex_sx T 41 12 (T.1 41 10)) ), .int 0]) (st_q := [.ref 41]) rfl rfl rfl ?_
                  refine ex_op pm_M179 (pc_q := 243) (st_q := [.ref 41, .ref 41]) rfl rfl rfl ?_
                  refine ex_getI' pm_M179 (pc_q := 246) (v := T.1 41 10) rfl rfl rfl rfl rfl rfl ?_
                  refine ex_op pm_M179 (pc_q := 247) (st_q := [.int 1, .int (T.1 41 10), .ref 41]) rfl rfl rfl ?_
                  refine ex_op pm_M179 (pc_q := 248) (st_q := [.int ((T.1 41 10) + 1), .ref 41]) rfl rfl rfl ?_
                  refine ex_putI pm_M179 (pc_q := 251) rfl rfl rfl rfl rfl ?_
                  refine ex_lo pm_M179 (pc_q := 252) (ls_q := [.ref 41, .int (vf180 (ex_sx T 41 12 (T.1 41 10)) ), .int 0]) (st_q := [.ref 41]) rfl rfl rfl ?_
                  refine ex_lo pm_M179 (pc_q := 253) (ls_q := [.ref 41, .int (vf180 (ex_sx T 41 12 (T.1 41 10)) ), .int 0]) (st_q := [.int (vf180 (ex_sx T 41 12 (T.1 41 10)) ), .ref 41]) rfl rfl rfl ?_
                  refine ex_op pm_M179 (pc_q := 255) (st_q := [.int 59, .int (vf180 (ex_sx T 41 12 (T.1 41 10)) ), .ref 41]) rfl rfl rfl ?_
                  refine ex_icmp pm_M179 (t := 262) (pc_q := 258) rfl rfl rfl (fun c11 => ?_) (fun c11 => ?_)
                  · -- ¬ vf180 (ex_sx T 41 12 (T.1 41 10))  = 59
                    refine ex_op pm_M179 (pc_q := 263) (st_q := [.int 1, .ref 41]) rfl rfl rfl ?_
                    refine ex_putI pm_M179 (pc_q := 266) rfl rfl rfl rfl rfl ?_
                    exact ex_ret pm_M179 (r := none) rfl rfl (⟨rfl, v2 S T hI c2 c4 c6 c8 c10 c11⟩)
                  · -- not
                    refine ex_op pm_M179 (pc_q := 259) (st_q := [.int 4, .ref 41]) rfl rfl rfl ?_
                    refine ex_br pm_M179 (pc_q := 263) (st_q := [.int 4, .ref 41]) rfl rfl ?_
                    refine ex_putI pm_M179 (pc_q := 266) rfl rfl rfl rfl rfl ?_
                    exact ex_ret pm_M179 (r := none) rfl rfl (⟨rfl, v3 S T hI c2 c4 c6 c8 c10 c11⟩)
                · -- not
                  refine ex_lo pm_M179 (pc_q := 159) (ls_q := [.ref 41, .int (vf180 (ex_sx T 41 12 (T.1 41 10)) ), .int 0]) (st_q := [.ref 41]) rfl rfl rfl ?_
                  refine ex_op pm_M179 (pc_q := 160) (st_q := [.int 0, .ref 41]) rfl rfl rfl ?_
                  refine ex_putI pm_M179 (pc_q := 163) rfl rfl rfl rfl rfl ?_
                  exact L163 (.int (vf180 (ex_sx T 41 12 (T.1 41 10)) )) 0 (ex_sx (ex_sy (ex_sx T 41 12 (T.1 41 10)) 41 15 0) 41 14 0) rfl (v4 S T hI c2 c4 c6 c8 c10)
              · -- not
                exact L74 (.int (vf180 (ex_sx T 41 12 (T.1 41 10)) )) 0 (ex_sy (ex_sx T 41 12 (T.1 41 10)) 41 15 0) rfl (v5 S T hI c2 c4 c6 c8)
            · -- not
              refine ex_lo pm_M179 (pc_q := 56) (ls_q := [.ref 41, .int (vf180 (ex_sx T 41 12 (T.1 41 10)) ), .int 0]) (st_q := [.ref 41]) rfl rfl rfl ?_
              refine ex_op pm_M179 (pc_q := 57) (st_q := [.int 0, .ref 41]) rfl rfl rfl ?_
              refine ex_putI pm_M179 (pc_q := 60) rfl rfl rfl rfl rfl ?_
              refine ex_br pm_M179 (pc_q := 266) (st_q := []) rfl rfl ?_
              exact ex_ret pm_M179 (r := none) rfl rfl (⟨rfl, v6 S T hI c2 c4 c6⟩)
          · -- not
            refine ex_lo pm_M179 (pc_q := 19) (ls_q := [.ref 41, g1, g2]) (st_q := [.ref 41]) rfl rfl rfl ?_
            refine ex_op pm_M179 (pc_q := 20) (st_q := [.ref 41, .ref 41]) rfl rfl rfl ?_
            refine ex_getI' pm_M179 (pc_q := 23) (v := T.1 41 10) rfl rfl rfl rfl rfl rfl ?_
            refine ex_op pm_M179 (pc_q := 24) (st_q := [.int 1, .int (T.1 41 10), .ref 41]) rfl rfl rfl ?_
            refine ex_op pm_M179 (pc_q := 25) (st_q := [.int ((T.1 41 10) + 1), .ref 41]) rfl rfl rfl ?_
            refine ex_putI pm_M179 (pc_q := 28) rfl rfl rfl rfl rfl ?_
            refine ex_goS pm_M179 (pc_q := 0) (st_q := []) rfl rfl ?_
            exact ih0 g1 g2 (ex_sx T 41 10 ((T.1 41 10) + 1)) hg1 hg2 (v7 S T hI c2 c4)
      exact ⟨L163, L74, L0⟩
  obtain ⟨L163, L74, L0⟩ := LL N
  exact L0 pm_no pm_no S rfl rfl (v0 S)
set_option maxRecDepth 100000 in
set_option maxHeartbeats 4000000 in
/-- SilentTableModel.later -/
theorem ev182 {C : Int32 → Int32 → ex_S → ex_S → Prop} 
    (v0 : ∀ (a0 : Int32) (a1 : Int32) (S : ex_S), S.1 41 17 = 0 → C a0 a1 S (ex_sx (ex_sx S 41 17 a0) 41 18 a1)) 
    (v1 : ∀ (a0 : Int32) (a1 : Int32) (S : ex_S), ¬ (S.1 41 17 = 0) → a1 < S.1 41 18 → C a0 a1 S (ex_sx (ex_sx S 41 17 a0) 41 18 a1)) 
    (v2 : ∀ (a0 : Int32) (a1 : Int32) (S : ex_S), ¬ (S.1 41 17 = 0) → ¬ (a1 < S.1 41 18) → ¬ a1 = S.1 41 18 → C a0 a1 S S) 
    (v3 : ∀ (a0 : Int32) (a1 : Int32) (S : ex_S), ¬ (S.1 41 17 = 0) → ¬ (a1 < S.1 41 18) → ¬ (¬ a1 = S.1 41 18) → S.1 41 17 ≤ a0 → C a0 a1 S S) 
    (v4 : ∀ (a0 : Int32) (a1 : Int32) (S : ex_S), ¬ (S.1 41 17 = 0) → ¬ (a1 < S.1 41 18) → ¬ (¬ a1 = S.1 41 18) → ¬ (S.1 41 17 ≤ a0) → C a0 a1 S (ex_sx (ex_sx S 41 17 a0) 41 18 a1)) : es182 C := by
  intro N d a0 a1 S
  refine ex_lo pm_M182 (pc_q := 1) (ls_q := [.ref 41, .int a0, .int a1]) (st_q := [.ref 41]) rfl rfl rfl ?_
  refine ex_getI' pm_M182 (pc_q := 4) (v := S.1 41 17) rfl rfl rfl rfl rfl rfl ?_
  refine ex_ifc pm_M182 (t := 31) (pc_q := 7) rfl rfl rfl (fun c1 => ?_) (fun c1 => ?_)
  · -- S.1 41 17 = 0
    refine ex_lo pm_M182 (pc_q := 32) (ls_q := [.ref 41, .int a0, .int a1]) (st_q := [.ref 41]) rfl rfl rfl ?_
    refine ex_lo pm_M182 (pc_q := 33) (ls_q := [.ref 41, .int a0, .int a1]) (st_q := [.int a0, .ref 41]) rfl rfl rfl ?_
    refine ex_putI pm_M182 (pc_q := 36) rfl rfl rfl rfl rfl ?_
    refine ex_lo pm_M182 (pc_q := 37) (ls_q := [.ref 41, .int a0, .int a1]) (st_q := [.ref 41]) rfl rfl rfl ?_
    refine ex_lo pm_M182 (pc_q := 38) (ls_q := [.ref 41, .int a0, .int a1]) (st_q := [.int a1, .ref 41]) rfl rfl rfl ?_
    refine ex_putI pm_M182 (pc_q := 41) rfl rfl rfl rfl rfl ?_
    exact ex_ret pm_M182 (r := none) rfl rfl (⟨rfl, v0 a0 a1 S c1⟩)
  · -- not
    refine ex_lo pm_M182 (pc_q := 8) (ls_q := [.ref 41, .int a0, .int a1]) (st_q := [.int a1]) rfl rfl rfl ?_
    refine ex_lo pm_M182 (pc_q := 9) (ls_q := [.ref 41, .int a0, .int a1]) (st_q := [.ref 41, .int a1]) rfl rfl rfl ?_
    refine ex_getI' pm_M182 (pc_q := 12) (v := S.1 41 18) rfl rfl rfl rfl rfl rfl ?_
    refine ex_icmp pm_M182 (t := 31) (pc_q := 15) rfl rfl rfl (fun c2 => ?_) (fun c2 => ?_)
    · -- a1 < S.1 41 18
      refine ex_lo pm_M182 (pc_q := 32) (ls_q := [.ref 41, .int a0, .int a1]) (st_q := [.ref 41]) rfl rfl rfl ?_
      refine ex_lo pm_M182 (pc_q := 33) (ls_q := [.ref 41, .int a0, .int a1]) (st_q := [.int a0, .ref 41]) rfl rfl rfl ?_
      refine ex_putI pm_M182 (pc_q := 36) rfl rfl rfl rfl rfl ?_
      refine ex_lo pm_M182 (pc_q := 37) (ls_q := [.ref 41, .int a0, .int a1]) (st_q := [.ref 41]) rfl rfl rfl ?_
      refine ex_lo pm_M182 (pc_q := 38) (ls_q := [.ref 41, .int a0, .int a1]) (st_q := [.int a1, .ref 41]) rfl rfl rfl ?_
      refine ex_putI pm_M182 (pc_q := 41) rfl rfl rfl rfl rfl ?_
      exact ex_ret pm_M182 (r := none) rfl rfl (⟨rfl, v1 a0 a1 S c1 c2⟩)
    · -- not
      refine ex_lo pm_M182 (pc_q := 16) (ls_q := [.ref 41, .int a0, .int a1]) (st_q := [.int a1]) rfl rfl rfl ?_
      refine ex_lo pm_M182 (pc_q := 17) (ls_q := [.ref 41, .int a0, .int a1]) (st_q := [.ref 41, .int a1]) rfl rfl rfl ?_
      refine ex_getI' pm_M182 (pc_q := 20) (v := S.1 41 18) rfl rfl rfl rfl rfl rfl ?_
      refine ex_icmp pm_M182 (t := 41) (pc_q := 23) rfl rfl rfl (fun c3 => ?_) (fun c3 => ?_)
      · -- ¬ a1 = S.1 41 18
        exact ex_ret pm_M182 (r := none) rfl rfl (⟨rfl, v2 a0 a1 S c1 c2 c3⟩)
      · -- not
        refine ex_lo pm_M182 (pc_q := 24) (ls_q := [.ref 41, .int a0, .int a1]) (st_q := [.int a0]) rfl rfl rfl ?_
        refine ex_lo pm_M182 (pc_q := 25) (ls_q := [.ref 41, .int a0, .int a1]) (st_q := [.ref 41, .int a0]) rfl rfl rfl ?_
        refine ex_getI' pm_M182 (pc_q := 28) (v := S.1 41 17) rfl rfl rfl rfl rfl rfl ?_
        refine ex_icmp pm_M182 (t := 41) (pc_q := 31) rfl rfl rfl (fun c4 => ?_) (fun c4 => ?_)
        · -- S.1 41 17 ≤ a0
          exact ex_ret pm_M182 (r := none) rfl rfl (⟨rfl, v3 a0 a1 S c1 c2 c3 c4⟩)
        · -- not
          refine ex_lo pm_M182 (pc_q := 32) (ls_q := [.ref 41, .int a0, .int a1]) (st_q := [.ref 41]) rfl rfl rfl ?_
          refine ex_lo pm_M182 (pc_q := 33) (ls_q := [.ref 41, .int a0, .int a1]) (st_q := [.int a0, .ref 41]) rfl rfl rfl ?_
          refine ex_putI pm_M182 (pc_q := 36) rfl rfl rfl rfl rfl ?_
          refine ex_lo pm_M182 (pc_q := 37) (ls_q := [.ref 41, .int a0, .int a1]) (st_q := [.ref 41]) rfl rfl rfl ?_
          refine ex_lo pm_M182 (pc_q := 38) (ls_q := [.ref 41, .int a0, .int a1]) (st_q := [.int a1, .ref 41]) rfl rfl rfl ?_
          refine ex_putI pm_M182 (pc_q := 41) rfl rfl rfl rfl rfl ?_
          exact ex_ret pm_M182 (r := none) rfl rfl (⟨rfl, v4 a0 a1 S c1 c2 c3 c4⟩)
set_option maxRecDepth 100000 in
set_option maxHeartbeats 4000000 in
/-- SilentTableModel.stops -/
theorem ev184 {C : ex_S → Int32 → ex_S → Prop} 
    (v0 : ∀ (S : ex_S), C S 0 (ex_sx S 41 16 (S.1 41 12))) : es184 C := by
  intro N d  S
  refine ex_lo pm_M184 (pc_q := 1) (ls_q := [.ref 41]) (st_q := [.ref 41]) rfl rfl rfl ?_
  refine ex_lo pm_M184 (pc_q := 2) (ls_q := [.ref 41]) (st_q := [.ref 41, .ref 41]) rfl rfl rfl ?_
  refine ex_getI' pm_M184 (pc_q := 5) (v := S.1 41 12) rfl rfl rfl rfl rfl rfl ?_
  refine ex_putI pm_M184 (pc_q := 8) rfl rfl rfl rfl rfl ?_
  refine ex_op pm_M184 (pc_q := 9) (st_q := [.int 0]) rfl rfl rfl ?_
  exact ex_retI pm_M184 rfl (⟨_, rfl, v0 S⟩)
set_option maxRecDepth 100000 in
set_option maxHeartbeats 4000000 in
/-- SilentTableModel.take -/
theorem ev183 {C : Int32 → Int32 → Int32 → ex_S → Int32 → ex_S → Prop} {C179 : ex_S → ex_S → Prop} {C182 : Int32 → Int32 → ex_S → ex_S → Prop} {C184 : ex_S → Int32 → ex_S → Prop} (H179 : es179 C179) (H182 : es182 C182) (H184 : es184 C184) 
    (v0 : ∀ (a0 : Int32) (a1 : Int32) (a2 : Int32) (S : ex_S), S.1 41 13 = 3 → a1 < S.1 41 14 → ∀ (S5 : ex_S), C182 2 (S.1 41 12) (ex_sx S 52 a0.toNatClampNeg (S.1 41 14)) S5 → ∀ (S9 : ex_S), C179 (ex_sx S5 41 22 0) S9 → C a0 a1 a2 S 1 S9) 
    (v1 : ∀ (a0 : Int32) (a1 : Int32) (a2 : Int32) (S : ex_S), S.1 41 13 = 3 → ¬ (a1 < S.1 41 14) → ¬ S.1 41 14 = a2 → ∀ (S14 : ex_S), C179 (ex_sx S 52 a0.toNatClampNeg (S.1 41 14)) S14 → C a0 a1 a2 S 1 S14) 
    (v2 : ∀ (a0 : Int32) (a1 : Int32) (a2 : Int32) (S : ex_S), S.1 41 13 = 3 → ¬ (a1 < S.1 41 14) → ¬ (¬ S.1 41 14 = a2) → ∀ (S18 : ex_S), C182 2 (S.1 41 12) (ex_sx S 52 a0.toNatClampNeg (S.1 41 14)) S18 → ∀ (S22 : ex_S), C179 (ex_sx S18 41 22 0) S22 → C a0 a1 a2 S 1 S22) 
    (v3 : ∀ (a0 : Int32) (a1 : Int32) (a2 : Int32) (S : ex_S), ¬ (S.1 41 13 = 3) → ∀ (r25 : Int32) (S26 : ex_S), C184 S r25 S26 → C a0 a1 a2 S r25 S26) : es183 C := by
  intro N d a0 a1 a2 S
  refine ex_lo pm_M183 (pc_q := 1) (ls_q := [.ref 41, .int a0, .int a1, .int a2]) (st_q := [.ref 41]) rfl rfl rfl ?_
  refine ex_getI' pm_M183 (pc_q := 4) (v := S.1 41 13) rfl rfl rfl rfl rfl rfl ?_
  refine ex_op pm_M183 (pc_q := 5) (st_q := [.int 3, .int (S.1 41 13)]) rfl rfl rfl ?_
  refine ex_icmp pm_M183 (t := 13) (pc_q := 8) rfl rfl rfl (fun c1 => ?_) (fun c1 => ?_)
  · -- S.1 41 13 = 3
    refine ex_lo pm_M183 (pc_q := 14) (ls_q := [.ref 41, .int a0, .int a1, .int a2]) (st_q := [.ref 41]) rfl rfl rfl ?_
    refine ex_getK pm_M183 (pc_q := 17) (j := 35) (b := 52) rfl rfl rfl rfl rfl ?_
    refine ex_lo pm_M183 (pc_q := 18) (ls_q := [.ref 41, .int a0, .int a1, .int a2]) (st_q := [.int a0, .ref 52]) rfl rfl rfl ?_
    refine ex_lo pm_M183 (pc_q := 19) (ls_q := [.ref 41, .int a0, .int a1, .int a2]) (st_q := [.ref 41, .int a0, .ref 52]) rfl rfl rfl ?_
    refine ex_getI' pm_M183 (pc_q := 22) (v := S.1 41 14) rfl rfl rfl rfl rfl rfl ?_
    refine ex_iast pm_M183 (pc_q := 23) rfl rfl ?_
    refine ex_lo pm_M183 (pc_q := 24) (ls_q := [.ref 41, .int a0, .int a1, .int a2]) (st_q := [.ref 41]) rfl rfl rfl ?_
    refine ex_getI' pm_M183 (pc_q := 27) (v := S.1 41 14) rfl rfl rfl rfl rfl rfl ?_
    refine ex_lo pm_M183 (pc_q := 28) (ls_q := [.ref 41, .int a0, .int a1, .int a2]) (st_q := [.int a1, .int (S.1 41 14)]) rfl rfl rfl ?_
    refine ex_icmp pm_M183 (t := 39) (pc_q := 31) rfl rfl rfl (fun c2 => ?_) (fun c2 => ?_)
    · -- a1 < S.1 41 14
      refine ex_lo pm_M183 (pc_q := 40) (ls_q := [.ref 41, .int a0, .int a1, .int a2]) (st_q := [.ref 41]) rfl rfl rfl ?_
      refine ex_op pm_M183 (pc_q := 41) (st_q := [.int 2, .ref 41]) rfl rfl rfl ?_
      refine ex_lo pm_M183 (pc_q := 42) (ls_q := [.ref 41, .int a0, .int a1, .int a2]) (st_q := [.ref 41, .int 2, .ref 41]) rfl rfl rfl ?_
      refine ex_getI' pm_M183 (pc_q := 45) (v := S.1 41 12) rfl rfl rfl rfl rfl rfl ?_
      refine ex_call pm_M183 (pc_q := 48) (ix := 156) (callee := 182) (np := 2) (kd := 0) (ra := [.int (S.1 41 12), .int 2, .ref 41]) (rest := []) rfl rfl rfl rfl pm_M182 rfl rfl rfl rfl (fun d3 => (H182 _ d3 2 (S.1 41 12) (ex_sx S 52 a0.toNatClampNeg (S.1 41 14))).mono (fun r S5 e => ?_))
      obtain ⟨rfl, h6⟩ := e
      show ex_P _ _ 183 48 [.ref 41, .int a0, .int a1, .int a2] [] S5 _
      refine ex_lo pm_M183 (pc_q := 49) (ls_q := [.ref 41, .int a0, .int a1, .int a2]) (st_q := [.ref 41]) rfl rfl rfl ?_
      refine ex_op pm_M183 (pc_q := 50) (st_q := [.int 0, .ref 41]) rfl rfl rfl ?_
      refine ex_putI pm_M183 (pc_q := 53) rfl rfl rfl rfl rfl ?_
      refine ex_lo pm_M183 (pc_q := 54) (ls_q := [.ref 41, .int a0, .int a1, .int a2]) (st_q := [.ref 41]) rfl rfl rfl ?_
      refine ex_call pm_M183 (pc_q := 57) (ix := 164) (callee := 179) (np := 0) (kd := 0) (ra := [.ref 41]) (rest := []) rfl rfl rfl rfl pm_M179 rfl rfl rfl rfl (fun d7 => (H179 _ d7 (ex_sx S5 41 22 0)).mono (fun r S9 e => ?_))
      obtain ⟨rfl, h10⟩ := e
      show ex_P _ _ 183 57 [.ref 41, .int a0, .int a1, .int a2] [] S9 _
      refine ex_op pm_M183 (pc_q := 58) (st_q := [.int 1]) rfl rfl rfl ?_
      exact ex_retI pm_M183 rfl (⟨_, rfl, v0 a0 a1 a2 S c1 c2 S5 h6 S9 h10⟩)
    · -- not
      refine ex_lo pm_M183 (pc_q := 32) (ls_q := [.ref 41, .int a0, .int a1, .int a2]) (st_q := [.ref 41]) rfl rfl rfl ?_
      refine ex_getI' pm_M183 (pc_q := 35) (v := S.1 41 14) rfl rfl rfl rfl rfl rfl ?_
      refine ex_lo pm_M183 (pc_q := 36) (ls_q := [.ref 41, .int a0, .int a1, .int a2]) (st_q := [.int a2, .int (S.1 41 14)]) rfl rfl rfl ?_
      refine ex_icmp pm_M183 (t := 53) (pc_q := 39) rfl rfl rfl (fun c11 => ?_) (fun c11 => ?_)
      · -- ¬ S.1 41 14 = a2
        refine ex_lo pm_M183 (pc_q := 54) (ls_q := [.ref 41, .int a0, .int a1, .int a2]) (st_q := [.ref 41]) rfl rfl rfl ?_
        refine ex_call pm_M183 (pc_q := 57) (ix := 164) (callee := 179) (np := 0) (kd := 0) (ra := [.ref 41]) (rest := []) rfl rfl rfl rfl pm_M179 rfl rfl rfl rfl (fun d12 => (H179 _ d12 (ex_sx S 52 a0.toNatClampNeg (S.1 41 14))).mono (fun r S14 e => ?_))
        obtain ⟨rfl, h15⟩ := e
        show ex_P _ _ 183 57 [.ref 41, .int a0, .int a1, .int a2] [] S14 _
        refine ex_op pm_M183 (pc_q := 58) (st_q := [.int 1]) rfl rfl rfl ?_
        exact ex_retI pm_M183 rfl (⟨_, rfl, v1 a0 a1 a2 S c1 c2 c11 S14 h15⟩)
      · -- not
        refine ex_lo pm_M183 (pc_q := 40) (ls_q := [.ref 41, .int a0, .int a1, .int a2]) (st_q := [.ref 41]) rfl rfl rfl ?_
        refine ex_op pm_M183 (pc_q := 41) (st_q := [.int 2, .ref 41]) rfl rfl rfl ?_
        refine ex_lo pm_M183 (pc_q := 42) (ls_q := [.ref 41, .int a0, .int a1, .int a2]) (st_q := [.ref 41, .int 2, .ref 41]) rfl rfl rfl ?_
        refine ex_getI' pm_M183 (pc_q := 45) (v := S.1 41 12) rfl rfl rfl rfl rfl rfl ?_
        refine ex_call pm_M183 (pc_q := 48) (ix := 156) (callee := 182) (np := 2) (kd := 0) (ra := [.int (S.1 41 12), .int 2, .ref 41]) (rest := []) rfl rfl rfl rfl pm_M182 rfl rfl rfl rfl (fun d16 => (H182 _ d16 2 (S.1 41 12) (ex_sx S 52 a0.toNatClampNeg (S.1 41 14))).mono (fun r S18 e => ?_))
        obtain ⟨rfl, h19⟩ := e
        show ex_P _ _ 183 48 [.ref 41, .int a0, .int a1, .int a2] [] S18 _
        refine ex_lo pm_M183 (pc_q := 49) (ls_q := [.ref 41, .int a0, .int a1, .int a2]) (st_q := [.ref 41]) rfl rfl rfl ?_
        refine ex_op pm_M183 (pc_q := 50) (st_q := [.int 0, .ref 41]) rfl rfl rfl ?_
        refine ex_putI pm_M183 (pc_q := 53) rfl rfl rfl rfl rfl ?_
        refine ex_lo pm_M183 (pc_q := 54) (ls_q := [.ref 41, .int a0, .int a1, .int a2]) (st_q := [.ref 41]) rfl rfl rfl ?_
        refine ex_call pm_M183 (pc_q := 57) (ix := 164) (callee := 179) (np := 0) (kd := 0) (ra := [.ref 41]) (rest := []) rfl rfl rfl rfl pm_M179 rfl rfl rfl rfl (fun d20 => (H179 _ d20 (ex_sx S18 41 22 0)).mono (fun r S22 e => ?_))
        obtain ⟨rfl, h23⟩ := e
        show ex_P _ _ 183 57 [.ref 41, .int a0, .int a1, .int a2] [] S22 _
        refine ex_op pm_M183 (pc_q := 58) (st_q := [.int 1]) rfl rfl rfl ?_
        exact ex_retI pm_M183 rfl (⟨_, rfl, v2 a0 a1 a2 S c1 c2 c11 S18 h19 S22 h23⟩)
  · -- not
    refine ex_lo pm_M183 (pc_q := 9) (ls_q := [.ref 41, .int a0, .int a1, .int a2]) (st_q := [.ref 41]) rfl rfl rfl ?_
    refine ex_call pm_M183 (pc_q := 12) (ix := 152) (callee := 184) (np := 0) (kd := 0) (ra := [.ref 41]) (rest := []) rfl rfl rfl rfl pm_M184 rfl rfl rfl rfl (fun d24 => (H184 _ d24 S).mono (fun r S26 e => ?_))
    obtain ⟨r25, rfl, h27⟩ := e
    show ex_P _ _ 183 12 [.ref 41, .int a0, .int a1, .int a2] [.int r25] S26 _
    exact ex_retI pm_M183 rfl (⟨_, rfl, v3 a0 a1 a2 S c1 r25 S26 h27⟩)
set_option maxRecDepth 100000 in
set_option maxHeartbeats 4000000 in
/-- SilentTableModel.actWord -/
theorem ev188 {C : ex_S → Int32 → ex_S → Prop} {C179 : ex_S → ex_S → Prop} {C184 : ex_S → Int32 → ex_S → Prop} (H179 : es179 C179) (H184 : es184 C184) 
    (v0 : ∀ (S : ex_S), ¬ S.1 41 13 = 2 → ∀ (r3 : Int32) (S4 : ex_S), C184 (ex_sx S 52 3 (-1)) r3 S4 → C S r3 S4) 
    (v1 : ∀ (S : ex_S), ¬ (¬ S.1 41 13 = 2) → ¬ lg_cmp (S.2.1 41 15) 1751474532 = 0 → ¬ lg_cmp (S.2.1 41 15) 1952541036 = 0 → ¬ lg_cmp (S.2.1 41 15) 1886156147 = 0 → ¬ lg_cmp (S.2.1 41 15) 1818588019 = 0 → ¬ lg_cmp (S.2.1 41 15) 7237492 = 0 → ∀ (r12 : Int32) (S13 : ex_S), C184 (ex_sx S 52 3 (-1)) r12 S13 → C S r12 S13) 
    (v2 : ∀ (S : ex_S), ¬ (¬ S.1 41 13 = 2) → ¬ lg_cmp (S.2.1 41 15) 1751474532 = 0 → ¬ lg_cmp (S.2.1 41 15) 1952541036 = 0 → ¬ lg_cmp (S.2.1 41 15) 1886156147 = 0 → ¬ lg_cmp (S.2.1 41 15) 1818588019 = 0 → ¬ (¬ lg_cmp (S.2.1 41 15) 7237492 = 0) → ∀ (S17 : ex_S), C179 (ex_sx S 52 3 4) S17 → C S 1 S17) 
    (v3 : ∀ (S : ex_S), ¬ (¬ S.1 41 13 = 2) → ¬ lg_cmp (S.2.1 41 15) 1751474532 = 0 → ¬ lg_cmp (S.2.1 41 15) 1952541036 = 0 → ¬ lg_cmp (S.2.1 41 15) 1886156147 = 0 → ¬ (¬ lg_cmp (S.2.1 41 15) 1818588019 = 0) → ∀ (S21 : ex_S), C179 (ex_sx S 52 3 3) S21 → C S 1 S21) 
    (v4 : ∀ (S : ex_S), ¬ (¬ S.1 41 13 = 2) → ¬ lg_cmp (S.2.1 41 15) 1751474532 = 0 → ¬ lg_cmp (S.2.1 41 15) 1952541036 = 0 → ¬ (¬ lg_cmp (S.2.1 41 15) 1886156147 = 0) → ∀ (S25 : ex_S), C179 (ex_sx S 52 3 2) S25 → C S 1 S25) 
    (v5 : ∀ (S : ex_S), ¬ (¬ S.1 41 13 = 2) → ¬ lg_cmp (S.2.1 41 15) 1751474532 = 0 → ¬ (¬ lg_cmp (S.2.1 41 15) 1952541036 = 0) → ∀ (S29 : ex_S), C179 (ex_sx S 52 3 1) S29 → C S 1 S29) 
    (v6 : ∀ (S : ex_S), ¬ (¬ S.1 41 13 = 2) → ¬ (¬ lg_cmp (S.2.1 41 15) 1751474532 = 0) → ∀ (S33 : ex_S), C179 (ex_sx S 52 3 0) S33 → C S 1 S33) : es188 C := by
  intro N d  S
  refine ex_lo pm_M188 (pc_q := 1) (ls_q := [.ref 41, pm_no, pm_no]) (st_q := [.ref 41]) rfl rfl rfl ?_
  refine ex_getI' pm_M188 (pc_q := 4) (v := S.1 41 13) rfl rfl rfl rfl rfl rfl ?_
  refine ex_op pm_M188 (pc_q := 5) (st_q := [.int 2, .int (S.1 41 13)]) rfl rfl rfl ?_
  refine ex_icmp pm_M188 (t := 15) (pc_q := 8) rfl rfl rfl (fun c1 => ?_) (fun c1 => ?_)
  · -- ¬ S.1 41 13 = 2
    refine ex_op pm_M188 (pc_q := 16) (st_q := [.long 0]) rfl rfl rfl ?_
    refine ex_lo pm_M188 (pc_q := 17) (ls_q := [.ref 41, .long 0, pm_no]) (st_q := []) rfl rfl rfl ?_
    refine ex_lo pm_M188 (pc_q := 18) (ls_q := [.ref 41, .long 0, pm_no]) (st_q := [.ref 41]) rfl rfl rfl ?_
    refine ex_getK pm_M188 (pc_q := 21) (j := 35) (b := 52) rfl rfl rfl rfl rfl ?_
    refine ex_op pm_M188 (pc_q := 22) (st_q := [.int 3, .ref 52]) rfl rfl rfl ?_
    refine ex_lo pm_M188 (pc_q := 23) (ls_q := [.ref 41, .long 0, pm_no]) (st_q := [.long 0, .int 3, .ref 52]) rfl rfl rfl ?_
    refine ex_ldc2 pm_M188 (pc_q := 26) (x := 1751474532) rfl rfl rfl ?_
    refine ex_op pm_M188 (pc_q := 27) (st_q := [.int (-1), .int 3, .ref 52]) rfl rfl rfl ?_
    refine ex_ifc pm_M188 (t := 34) (pc_q := 30) rfl rfl rfl (fun _ => ?_) (fun z => absurd (show ¬ ((-1) : Int32) = 0 by decide) z)
    refine ex_lo pm_M188 (pc_q := 35) (ls_q := [.ref 41, .long 0, pm_no]) (st_q := [.long 0, .int 3, .ref 52]) rfl rfl rfl ?_
    refine ex_ldc2 pm_M188 (pc_q := 38) (x := 1952541036) rfl rfl rfl ?_
    refine ex_op pm_M188 (pc_q := 39) (st_q := [.int (-1), .int 3, .ref 52]) rfl rfl rfl ?_
    refine ex_ifc pm_M188 (t := 46) (pc_q := 42) rfl rfl rfl (fun _ => ?_) (fun z => absurd (show ¬ ((-1) : Int32) = 0 by decide) z)
    refine ex_lo pm_M188 (pc_q := 47) (ls_q := [.ref 41, .long 0, pm_no]) (st_q := [.long 0, .int 3, .ref 52]) rfl rfl rfl ?_
    refine ex_ldc2 pm_M188 (pc_q := 50) (x := 1886156147) rfl rfl rfl ?_
    refine ex_op pm_M188 (pc_q := 51) (st_q := [.int (-1), .int 3, .ref 52]) rfl rfl rfl ?_
    refine ex_ifc pm_M188 (t := 58) (pc_q := 54) rfl rfl rfl (fun _ => ?_) (fun z => absurd (show ¬ ((-1) : Int32) = 0 by decide) z)
    refine ex_lo pm_M188 (pc_q := 59) (ls_q := [.ref 41, .long 0, pm_no]) (st_q := [.long 0, .int 3, .ref 52]) rfl rfl rfl ?_
    refine ex_ldc2 pm_M188 (pc_q := 62) (x := 1818588019) rfl rfl rfl ?_
    refine ex_op pm_M188 (pc_q := 63) (st_q := [.int (-1), .int 3, .ref 52]) rfl rfl rfl ?_
    refine ex_ifc pm_M188 (t := 70) (pc_q := 66) rfl rfl rfl (fun _ => ?_) (fun z => absurd (show ¬ ((-1) : Int32) = 0 by decide) z)
    refine ex_lo pm_M188 (pc_q := 71) (ls_q := [.ref 41, .long 0, pm_no]) (st_q := [.long 0, .int 3, .ref 52]) rfl rfl rfl ?_
    refine ex_ldc2 pm_M188 (pc_q := 74) (x := 7237492) rfl rfl rfl ?_
    refine ex_op pm_M188 (pc_q := 75) (st_q := [.int (-1), .int 3, .ref 52]) rfl rfl rfl ?_
    refine ex_ifc pm_M188 (t := 82) (pc_q := 78) rfl rfl rfl (fun _ => ?_) (fun z => absurd (show ¬ ((-1) : Int32) = 0 by decide) z)
    refine ex_op pm_M188 (pc_q := 83) (st_q := [.int (-1), .int 3, .ref 52]) rfl rfl rfl ?_
    refine ex_iast pm_M188 (pc_q := 84) rfl rfl ?_
    show ex_P _ _ 188 84 [.ref 41, .long 0, pm_no] [] (ex_sx S 52 3 (-1)) _
    refine ex_lo pm_M188 (pc_q := 85) (ls_q := [.ref 41, .long 0, pm_no]) (st_q := [.ref 41]) rfl rfl rfl ?_
    refine ex_getK pm_M188 (pc_q := 88) (j := 35) (b := 52) rfl rfl rfl rfl rfl ?_
    refine ex_op pm_M188 (pc_q := 89) (st_q := [.int 3, .ref 52]) rfl rfl rfl ?_
    refine ex_iald' pm_M188 (pc_q := 90) (v := (-1)) rfl rfl rfl ?_
    refine ex_op pm_M188 (pc_q := 91) (st_q := [.int (-1), .int (-1)]) rfl rfl rfl ?_
    refine ex_icmp pm_M188 (t := 99) (pc_q := 94) rfl rfl rfl (fun z => absurd z (show ¬ (¬ ((-1) : Int32) = (-1)) by decide)) (fun _ => ?_)
    refine ex_lo pm_M188 (pc_q := 95) (ls_q := [.ref 41, .long 0, pm_no]) (st_q := [.ref 41]) rfl rfl rfl ?_
    refine ex_call pm_M188 (pc_q := 98) (ix := 152) (callee := 184) (np := 0) (kd := 0) (ra := [.ref 41]) (rest := []) rfl rfl rfl rfl pm_M184 rfl rfl rfl rfl (fun d2 => (H184 _ d2 (ex_sx S 52 3 (-1))).mono (fun r S4 e => ?_))
    obtain ⟨r3, rfl, h5⟩ := e
    show ex_P _ _ 188 98 [.ref 41, .long 0, pm_no] [.int r3] S4 _
    exact ex_retI pm_M188 rfl (⟨_, rfl, v0 S c1 r3 S4 h5⟩)
  · -- not
    refine ex_lo pm_M188 (pc_q := 9) (ls_q := [.ref 41, pm_no, pm_no]) (st_q := [.ref 41]) rfl rfl rfl ?_
    refine ex_getL' pm_M188 (pc_q := 12) (v := S.2.1 41 15) rfl rfl rfl rfl rfl rfl ?_
    refine ex_br pm_M188 (pc_q := 16) (st_q := [.long (S.2.1 41 15)]) rfl rfl ?_
    refine ex_lo pm_M188 (pc_q := 17) (ls_q := [.ref 41, .long (S.2.1 41 15), pm_no]) (st_q := []) rfl rfl rfl ?_
    refine ex_lo pm_M188 (pc_q := 18) (ls_q := [.ref 41, .long (S.2.1 41 15), pm_no]) (st_q := [.ref 41]) rfl rfl rfl ?_
    refine ex_getK pm_M188 (pc_q := 21) (j := 35) (b := 52) rfl rfl rfl rfl rfl ?_
    refine ex_op pm_M188 (pc_q := 22) (st_q := [.int 3, .ref 52]) rfl rfl rfl ?_
    refine ex_lo pm_M188 (pc_q := 23) (ls_q := [.ref 41, .long (S.2.1 41 15), pm_no]) (st_q := [.long (S.2.1 41 15), .int 3, .ref 52]) rfl rfl rfl ?_
    refine ex_ldc2 pm_M188 (pc_q := 26) (x := 1751474532) rfl rfl rfl ?_
    refine ex_op pm_M188 (pc_q := 27) (st_q := [.int (lg_cmp (S.2.1 41 15) 1751474532), .int 3, .ref 52]) rfl rfl rfl ?_
    refine ex_ifc pm_M188 (t := 34) (pc_q := 30) rfl rfl rfl (fun c6 => ?_) (fun c6 => ?_)
    · -- ¬ lg_cmp (S.2.1 41 15) 1751474532 = 0
      refine ex_lo pm_M188 (pc_q := 35) (ls_q := [.ref 41, .long (S.2.1 41 15), pm_no]) (st_q := [.long (S.2.1 41 15), .int 3, .ref 52]) rfl rfl rfl ?_
      refine ex_ldc2 pm_M188 (pc_q := 38) (x := 1952541036) rfl rfl rfl ?_
      refine ex_op pm_M188 (pc_q := 39) (st_q := [.int (lg_cmp (S.2.1 41 15) 1952541036), .int 3, .ref 52]) rfl rfl rfl ?_
      refine ex_ifc pm_M188 (t := 46) (pc_q := 42) rfl rfl rfl (fun c7 => ?_) (fun c7 => ?_)
      · -- ¬ lg_cmp (S.2.1 41 15) 1952541036 = 0
        refine ex_lo pm_M188 (pc_q := 47) (ls_q := [.ref 41, .long (S.2.1 41 15), pm_no]) (st_q := [.long (S.2.1 41 15), .int 3, .ref 52]) rfl rfl rfl ?_
        refine ex_ldc2 pm_M188 (pc_q := 50) (x := 1886156147) rfl rfl rfl ?_
        refine ex_op pm_M188 (pc_q := 51) (st_q := [.int (lg_cmp (S.2.1 41 15) 1886156147), .int 3, .ref 52]) rfl rfl rfl ?_
        refine ex_ifc pm_M188 (t := 58) (pc_q := 54) rfl rfl rfl (fun c8 => ?_) (fun c8 => ?_)
        · -- ¬ lg_cmp (S.2.1 41 15) 1886156147 = 0
          refine ex_lo pm_M188 (pc_q := 59) (ls_q := [.ref 41, .long (S.2.1 41 15), pm_no]) (st_q := [.long (S.2.1 41 15), .int 3, .ref 52]) rfl rfl rfl ?_
          refine ex_ldc2 pm_M188 (pc_q := 62) (x := 1818588019) rfl rfl rfl ?_
          refine ex_op pm_M188 (pc_q := 63) (st_q := [.int (lg_cmp (S.2.1 41 15) 1818588019), .int 3, .ref 52]) rfl rfl rfl ?_
          refine ex_ifc pm_M188 (t := 70) (pc_q := 66) rfl rfl rfl (fun c9 => ?_) (fun c9 => ?_)
          · -- ¬ lg_cmp (S.2.1 41 15) 1818588019 = 0
            refine ex_lo pm_M188 (pc_q := 71) (ls_q := [.ref 41, .long (S.2.1 41 15), pm_no]) (st_q := [.long (S.2.1 41 15), .int 3, .ref 52]) rfl rfl rfl ?_
            refine ex_ldc2 pm_M188 (pc_q := 74) (x := 7237492) rfl rfl rfl ?_
            refine ex_op pm_M188 (pc_q := 75) (st_q := [.int (lg_cmp (S.2.1 41 15) 7237492), .int 3, .ref 52]) rfl rfl rfl ?_
            refine ex_ifc pm_M188 (t := 82) (pc_q := 78) rfl rfl rfl (fun c10 => ?_) (fun c10 => ?_)
            · -- ¬ lg_cmp (S.2.1 41 15) 7237492 = 0
              refine ex_op pm_M188 (pc_q := 83) (st_q := [.int (-1), .int 3, .ref 52]) rfl rfl rfl ?_
              refine ex_iast pm_M188 (pc_q := 84) rfl rfl ?_
              show ex_P _ _ 188 84 [.ref 41, .long (S.2.1 41 15), pm_no] [] (ex_sx S 52 3 (-1)) _
              refine ex_lo pm_M188 (pc_q := 85) (ls_q := [.ref 41, .long (S.2.1 41 15), pm_no]) (st_q := [.ref 41]) rfl rfl rfl ?_
              refine ex_getK pm_M188 (pc_q := 88) (j := 35) (b := 52) rfl rfl rfl rfl rfl ?_
              refine ex_op pm_M188 (pc_q := 89) (st_q := [.int 3, .ref 52]) rfl rfl rfl ?_
              refine ex_iald' pm_M188 (pc_q := 90) (v := (-1)) rfl rfl rfl ?_
              refine ex_op pm_M188 (pc_q := 91) (st_q := [.int (-1), .int (-1)]) rfl rfl rfl ?_
              refine ex_icmp pm_M188 (t := 99) (pc_q := 94) rfl rfl rfl (fun z => absurd z (show ¬ (¬ ((-1) : Int32) = (-1)) by decide)) (fun _ => ?_)
              refine ex_lo pm_M188 (pc_q := 95) (ls_q := [.ref 41, .long (S.2.1 41 15), pm_no]) (st_q := [.ref 41]) rfl rfl rfl ?_
              refine ex_call pm_M188 (pc_q := 98) (ix := 152) (callee := 184) (np := 0) (kd := 0) (ra := [.ref 41]) (rest := []) rfl rfl rfl rfl pm_M184 rfl rfl rfl rfl (fun d11 => (H184 _ d11 (ex_sx S 52 3 (-1))).mono (fun r S13 e => ?_))
              obtain ⟨r12, rfl, h14⟩ := e
              show ex_P _ _ 188 98 [.ref 41, .long (S.2.1 41 15), pm_no] [.int r12] S13 _
              exact ex_retI pm_M188 rfl (⟨_, rfl, v1 S c1 c6 c7 c8 c9 c10 r12 S13 h14⟩)
            · -- not
              refine ex_op pm_M188 (pc_q := 79) (st_q := [.int 4, .int 3, .ref 52]) rfl rfl rfl ?_
              refine ex_br pm_M188 (pc_q := 83) (st_q := [.int 4, .int 3, .ref 52]) rfl rfl ?_
              refine ex_iast pm_M188 (pc_q := 84) rfl rfl ?_
              show ex_P _ _ 188 84 [.ref 41, .long (S.2.1 41 15), pm_no] [] (ex_sx S 52 3 4) _
              refine ex_lo pm_M188 (pc_q := 85) (ls_q := [.ref 41, .long (S.2.1 41 15), pm_no]) (st_q := [.ref 41]) rfl rfl rfl ?_
              refine ex_getK pm_M188 (pc_q := 88) (j := 35) (b := 52) rfl rfl rfl rfl rfl ?_
              refine ex_op pm_M188 (pc_q := 89) (st_q := [.int 3, .ref 52]) rfl rfl rfl ?_
              refine ex_iald' pm_M188 (pc_q := 90) (v := 4) rfl rfl rfl ?_
              refine ex_op pm_M188 (pc_q := 91) (st_q := [.int (-1), .int 4]) rfl rfl rfl ?_
              refine ex_icmp pm_M188 (t := 99) (pc_q := 94) rfl rfl rfl (fun _ => ?_) (fun z => absurd (show ¬ (4 : Int32) = (-1) by decide) z)
              refine ex_lo pm_M188 (pc_q := 100) (ls_q := [.ref 41, .long (S.2.1 41 15), pm_no]) (st_q := [.ref 41]) rfl rfl rfl ?_
              refine ex_call pm_M188 (pc_q := 103) (ix := 164) (callee := 179) (np := 0) (kd := 0) (ra := [.ref 41]) (rest := []) rfl rfl rfl rfl pm_M179 rfl rfl rfl rfl (fun d15 => (H179 _ d15 (ex_sx S 52 3 4)).mono (fun r S17 e => ?_))
              obtain ⟨rfl, h18⟩ := e
              show ex_P _ _ 188 103 [.ref 41, .long (S.2.1 41 15), pm_no] [] S17 _
              refine ex_op pm_M188 (pc_q := 104) (st_q := [.int 1]) rfl rfl rfl ?_
              exact ex_retI pm_M188 rfl (⟨_, rfl, v2 S c1 c6 c7 c8 c9 c10 S17 h18⟩)
          · -- not
            refine ex_op pm_M188 (pc_q := 67) (st_q := [.int 3, .int 3, .ref 52]) rfl rfl rfl ?_
            refine ex_br pm_M188 (pc_q := 83) (st_q := [.int 3, .int 3, .ref 52]) rfl rfl ?_
            refine ex_iast pm_M188 (pc_q := 84) rfl rfl ?_
            show ex_P _ _ 188 84 [.ref 41, .long (S.2.1 41 15), pm_no] [] (ex_sx S 52 3 3) _
            refine ex_lo pm_M188 (pc_q := 85) (ls_q := [.ref 41, .long (S.2.1 41 15), pm_no]) (st_q := [.ref 41]) rfl rfl rfl ?_
            refine ex_getK pm_M188 (pc_q := 88) (j := 35) (b := 52) rfl rfl rfl rfl rfl ?_
            refine ex_op pm_M188 (pc_q := 89) (st_q := [.int 3, .ref 52]) rfl rfl rfl ?_
            refine ex_iald' pm_M188 (pc_q := 90) (v := 3) rfl rfl rfl ?_
            refine ex_op pm_M188 (pc_q := 91) (st_q := [.int (-1), .int 3]) rfl rfl rfl ?_
            refine ex_icmp pm_M188 (t := 99) (pc_q := 94) rfl rfl rfl (fun _ => ?_) (fun z => absurd (show ¬ (3 : Int32) = (-1) by decide) z)
            refine ex_lo pm_M188 (pc_q := 100) (ls_q := [.ref 41, .long (S.2.1 41 15), pm_no]) (st_q := [.ref 41]) rfl rfl rfl ?_
            refine ex_call pm_M188 (pc_q := 103) (ix := 164) (callee := 179) (np := 0) (kd := 0) (ra := [.ref 41]) (rest := []) rfl rfl rfl rfl pm_M179 rfl rfl rfl rfl (fun d19 => (H179 _ d19 (ex_sx S 52 3 3)).mono (fun r S21 e => ?_))
            obtain ⟨rfl, h22⟩ := e
            show ex_P _ _ 188 103 [.ref 41, .long (S.2.1 41 15), pm_no] [] S21 _
            refine ex_op pm_M188 (pc_q := 104) (st_q := [.int 1]) rfl rfl rfl ?_
            exact ex_retI pm_M188 rfl (⟨_, rfl, v3 S c1 c6 c7 c8 c9 S21 h22⟩)
        · -- not
          refine ex_op pm_M188 (pc_q := 55) (st_q := [.int 2, .int 3, .ref 52]) rfl rfl rfl ?_
          refine ex_br pm_M188 (pc_q := 83) (st_q := [.int 2, .int 3, .ref 52]) rfl rfl ?_
          refine ex_iast pm_M188 (pc_q := 84) rfl rfl ?_
          show ex_P _ _ 188 84 [.ref 41, .long (S.2.1 41 15), pm_no] [] (ex_sx S 52 3 2) _
          refine ex_lo pm_M188 (pc_q := 85) (ls_q := [.ref 41, .long (S.2.1 41 15), pm_no]) (st_q := [.ref 41]) rfl rfl rfl ?_
          refine ex_getK pm_M188 (pc_q := 88) (j := 35) (b := 52) rfl rfl rfl rfl rfl ?_
          refine ex_op pm_M188 (pc_q := 89) (st_q := [.int 3, .ref 52]) rfl rfl rfl ?_
          refine ex_iald' pm_M188 (pc_q := 90) (v := 2) rfl rfl rfl ?_
          refine ex_op pm_M188 (pc_q := 91) (st_q := [.int (-1), .int 2]) rfl rfl rfl ?_
          refine ex_icmp pm_M188 (t := 99) (pc_q := 94) rfl rfl rfl (fun _ => ?_) (fun z => absurd (show ¬ (2 : Int32) = (-1) by decide) z)
          refine ex_lo pm_M188 (pc_q := 100) (ls_q := [.ref 41, .long (S.2.1 41 15), pm_no]) (st_q := [.ref 41]) rfl rfl rfl ?_
          refine ex_call pm_M188 (pc_q := 103) (ix := 164) (callee := 179) (np := 0) (kd := 0) (ra := [.ref 41]) (rest := []) rfl rfl rfl rfl pm_M179 rfl rfl rfl rfl (fun d23 => (H179 _ d23 (ex_sx S 52 3 2)).mono (fun r S25 e => ?_))
          obtain ⟨rfl, h26⟩ := e
          show ex_P _ _ 188 103 [.ref 41, .long (S.2.1 41 15), pm_no] [] S25 _
          refine ex_op pm_M188 (pc_q := 104) (st_q := [.int 1]) rfl rfl rfl ?_
          exact ex_retI pm_M188 rfl (⟨_, rfl, v4 S c1 c6 c7 c8 S25 h26⟩)
      · -- not
        refine ex_op pm_M188 (pc_q := 43) (st_q := [.int 1, .int 3, .ref 52]) rfl rfl rfl ?_
        refine ex_br pm_M188 (pc_q := 83) (st_q := [.int 1, .int 3, .ref 52]) rfl rfl ?_
        refine ex_iast pm_M188 (pc_q := 84) rfl rfl ?_
        show ex_P _ _ 188 84 [.ref 41, .long (S.2.1 41 15), pm_no] [] (ex_sx S 52 3 1) _
        refine ex_lo pm_M188 (pc_q := 85) (ls_q := [.ref 41, .long (S.2.1 41 15), pm_no]) (st_q := [.ref 41]) rfl rfl rfl ?_
        refine ex_getK pm_M188 (pc_q := 88) (j := 35) (b := 52) rfl rfl rfl rfl rfl ?_
        refine ex_op pm_M188 (pc_q := 89) (st_q := [.int 3, .ref 52]) rfl rfl rfl ?_
        refine ex_iald' pm_M188 (pc_q := 90) (v := 1) rfl rfl rfl ?_
        refine ex_op pm_M188 (pc_q := 91) (st_q := [.int (-1), .int 1]) rfl rfl rfl ?_
        refine ex_icmp pm_M188 (t := 99) (pc_q := 94) rfl rfl rfl (fun _ => ?_) (fun z => absurd (show ¬ (1 : Int32) = (-1) by decide) z)
        refine ex_lo pm_M188 (pc_q := 100) (ls_q := [.ref 41, .long (S.2.1 41 15), pm_no]) (st_q := [.ref 41]) rfl rfl rfl ?_
        refine ex_call pm_M188 (pc_q := 103) (ix := 164) (callee := 179) (np := 0) (kd := 0) (ra := [.ref 41]) (rest := []) rfl rfl rfl rfl pm_M179 rfl rfl rfl rfl (fun d27 => (H179 _ d27 (ex_sx S 52 3 1)).mono (fun r S29 e => ?_))
        obtain ⟨rfl, h30⟩ := e
        show ex_P _ _ 188 103 [.ref 41, .long (S.2.1 41 15), pm_no] [] S29 _
        refine ex_op pm_M188 (pc_q := 104) (st_q := [.int 1]) rfl rfl rfl ?_
        exact ex_retI pm_M188 rfl (⟨_, rfl, v5 S c1 c6 c7 S29 h30⟩)
    · -- not
      refine ex_op pm_M188 (pc_q := 31) (st_q := [.int 0, .int 3, .ref 52]) rfl rfl rfl ?_
      refine ex_br pm_M188 (pc_q := 83) (st_q := [.int 0, .int 3, .ref 52]) rfl rfl ?_
      refine ex_iast pm_M188 (pc_q := 84) rfl rfl ?_
      show ex_P _ _ 188 84 [.ref 41, .long (S.2.1 41 15), pm_no] [] (ex_sx S 52 3 0) _
      refine ex_lo pm_M188 (pc_q := 85) (ls_q := [.ref 41, .long (S.2.1 41 15), pm_no]) (st_q := [.ref 41]) rfl rfl rfl ?_
      refine ex_getK pm_M188 (pc_q := 88) (j := 35) (b := 52) rfl rfl rfl rfl rfl ?_
      refine ex_op pm_M188 (pc_q := 89) (st_q := [.int 3, .ref 52]) rfl rfl rfl ?_
      refine ex_iald' pm_M188 (pc_q := 90) (v := 0) rfl rfl rfl ?_
      refine ex_op pm_M188 (pc_q := 91) (st_q := [.int (-1), .int 0]) rfl rfl rfl ?_
      refine ex_icmp pm_M188 (t := 99) (pc_q := 94) rfl rfl rfl (fun _ => ?_) (fun z => absurd (show ¬ (0 : Int32) = (-1) by decide) z)
      refine ex_lo pm_M188 (pc_q := 100) (ls_q := [.ref 41, .long (S.2.1 41 15), pm_no]) (st_q := [.ref 41]) rfl rfl rfl ?_
      refine ex_call pm_M188 (pc_q := 103) (ix := 164) (callee := 179) (np := 0) (kd := 0) (ra := [.ref 41]) (rest := []) rfl rfl rfl rfl pm_M179 rfl rfl rfl rfl (fun d31 => (H179 _ d31 (ex_sx S 52 3 0)).mono (fun r S33 e => ?_))
      obtain ⟨rfl, h34⟩ := e
      show ex_P _ _ 188 103 [.ref 41, .long (S.2.1 41 15), pm_no] [] S33 _
      refine ex_op pm_M188 (pc_q := 104) (st_q := [.int 1]) rfl rfl rfl ?_
      exact ex_retI pm_M188 rfl (⟨_, rfl, v6 S c1 c6 S33 h34⟩)
set_option maxRecDepth 100000 in
set_option maxHeartbeats 4000000 in
/-- SilentTableModel.keep -/
theorem ev185 {C : Int32 → Int32 → Int32 → Int32 → Int32 → ex_S → ex_S → Prop} {I19 : Int32 → Int32 → Int32 → Int32 → Int32 → ex_S → Int32 → Int32 → ex_S → Prop} 
    (v0 : ∀ (a0 : Int32) (a1 : Int32) (a2 : Int32) (a3 : Int32) (a4 : Int32) (S : ex_S), ¬ S.1 51 a0.toNatClampNeg = a3 → I19 a0 a1 a2 a3 a4 S (S.1 51 a0.toNatClampNeg) 0 S) 
    (v1 : ∀ (a0 : Int32) (a1 : Int32) (a2 : Int32) (a3 : Int32) (a4 : Int32) (S : ex_S), ¬ (¬ S.1 51 a0.toNatClampNeg = a3) → C a0 a1 a2 a3 a4 S S) 
    (v2 : ∀ (a0 : Int32) (a1 : Int32) (a2 : Int32) (a3 : Int32) (a4 : Int32) (S : ex_S) (x6 : Int32) (x7 : Int32) (T : ex_S), I19 a0 a1 a2 a3 a4 S x6 x7 T → a2 ≤ x7 → C a0 a1 a2 a3 a4 S (ex_sx T 51 a0.toNatClampNeg ((T.1 51 a0.toNatClampNeg) + 1))) 
    (v3 : ∀ (a0 : Int32) (a1 : Int32) (a2 : Int32) (a3 : Int32) (a4 : Int32) (S : ex_S) (x6 : Int32) (x7 : Int32) (T : ex_S), I19 a0 a1 a2 a3 a4 S x6 x7 T → ¬ (a2 ≤ x7) → I19 a0 a1 a2 a3 a4 S x6 (x7 + 1) (ex_sx T 51 (((a1 + (a2 * x6)) + x7).toNatClampNeg) (T.1 52 ((a4 + x7).toNatClampNeg)))) : es185 C := by
  intro N d a0 a1 a2 a3 a4 S
  have LL : ∀ N : Nat, (∀ (x6 : Int32) (x7 : Int32) (T : ex_S), I19 a0 a1 a2 a3 a4 S x6 x7 T → ex_P N d 185 19 [.ref 41, .int a0, .int a1, .int a2, .int a3, .int a4, .int x6, .int x7] [] T (fun r S_q => r = none ∧ C a0 a1 a2 a3 a4 S S_q)) := by
    intro N
    induction N with
    | zero => exact fun _ _ _ _ => ex_zero
    | succ N ih =>
      have ih19 := ih
      have L19 : ∀ (x6 : Int32) (x7 : Int32) (T : ex_S), I19 a0 a1 a2 a3 a4 S x6 x7 T → ex_P (N + 1) d 185 19 [.ref 41, .int a0, .int a1, .int a2, .int a3, .int a4, .int x6, .int x7] [] T (fun r S_q => r = none ∧ C a0 a1 a2 a3 a4 S S_q) := by
        intro x6 x7 T hI
        refine ex_lo pm_M185 (pc_q := 21) (ls_q := [.ref 41, .int a0, .int a1, .int a2, .int a3, .int a4, .int x6, .int x7]) (st_q := [.int x7]) rfl rfl rfl ?_
        refine ex_lo pm_M185 (pc_q := 22) (ls_q := [.ref 41, .int a0, .int a1, .int a2, .int a3, .int a4, .int x6, .int x7]) (st_q := [.int a2, .int x7]) rfl rfl rfl ?_
        refine ex_icmp pm_M185 (t := 55) (pc_q := 25) rfl rfl rfl (fun c2 => ?_) (fun c2 => ?_)
        · -- a2 ≤ x7
          refine ex_lo pm_M185 (pc_q := 56) (ls_q := [.ref 41, .int a0, .int a1, .int a2, .int a3, .int a4, .int x6, .int x7]) (st_q := [.ref 41]) rfl rfl rfl ?_
          refine ex_getK pm_M185 (pc_q := 59) (j := 34) (b := 51) rfl rfl rfl rfl rfl ?_
          refine ex_lo pm_M185 (pc_q := 60) (ls_q := [.ref 41, .int a0, .int a1, .int a2, .int a3, .int a4, .int x6, .int x7]) (st_q := [.int a0, .ref 51]) rfl rfl rfl ?_
          refine ex_op pm_M185 (pc_q := 61) (st_q := [.int a0, .ref 51, .int a0, .ref 51]) rfl rfl rfl ?_
          refine ex_iald' pm_M185 (pc_q := 62) (v := T.1 51 a0.toNatClampNeg) rfl rfl rfl ?_
          refine ex_op pm_M185 (pc_q := 63) (st_q := [.int 1, .int (T.1 51 a0.toNatClampNeg), .int a0, .ref 51]) rfl rfl rfl ?_
          refine ex_op pm_M185 (pc_q := 64) (st_q := [.int ((T.1 51 a0.toNatClampNeg) + 1), .int a0, .ref 51]) rfl rfl rfl ?_
          refine ex_iast pm_M185 (pc_q := 65) rfl rfl ?_
          exact ex_ret pm_M185 (r := none) rfl rfl (⟨rfl, v2 a0 a1 a2 a3 a4 S x6 x7 T hI c2⟩)
        · -- not
          refine ex_lo pm_M185 (pc_q := 26) (ls_q := [.ref 41, .int a0, .int a1, .int a2, .int a3, .int a4, .int x6, .int x7]) (st_q := [.ref 41]) rfl rfl rfl ?_
          refine ex_getK pm_M185 (pc_q := 29) (j := 34) (b := 51) rfl rfl rfl rfl rfl ?_
          refine ex_lo pm_M185 (pc_q := 30) (ls_q := [.ref 41, .int a0, .int a1, .int a2, .int a3, .int a4, .int x6, .int x7]) (st_q := [.int a1, .ref 51]) rfl rfl rfl ?_
          refine ex_lo pm_M185 (pc_q := 31) (ls_q := [.ref 41, .int a0, .int a1, .int a2, .int a3, .int a4, .int x6, .int x7]) (st_q := [.int a2, .int a1, .ref 51]) rfl rfl rfl ?_
          refine ex_lo pm_M185 (pc_q := 33) (ls_q := [.ref 41, .int a0, .int a1, .int a2, .int a3, .int a4, .int x6, .int x7]) (st_q := [.int x6, .int a2, .int a1, .ref 51]) rfl rfl rfl ?_
          refine ex_op pm_M185 (pc_q := 34) (st_q := [.int (a2 * x6), .int a1, .ref 51]) rfl rfl rfl ?_
          refine ex_op pm_M185 (pc_q := 35) (st_q := [.int (a1 + (a2 * x6)), .ref 51]) rfl rfl rfl ?_
          refine ex_lo pm_M185 (pc_q := 37) (ls_q := [.ref 41, .int a0, .int a1, .int a2, .int a3, .int a4, .int x6, .int x7]) (st_q := [.int x7, .int (a1 + (a2 * x6)), .ref 51]) rfl rfl rfl ?_
          refine ex_op pm_M185 (pc_q := 38) (st_q := [.int ((a1 + (a2 * x6)) + x7), .ref 51]) rfl rfl rfl ?_
          refine ex_lo pm_M185 (pc_q := 39) (ls_q := [.ref 41, .int a0, .int a1, .int a2, .int a3, .int a4, .int x6, .int x7]) (st_q := [.ref 41, .int ((a1 + (a2 * x6)) + x7), .ref 51]) rfl rfl rfl ?_
          refine ex_getK pm_M185 (pc_q := 42) (j := 35) (b := 52) rfl rfl rfl rfl rfl ?_
          refine ex_lo pm_M185 (pc_q := 44) (ls_q := [.ref 41, .int a0, .int a1, .int a2, .int a3, .int a4, .int x6, .int x7]) (st_q := [.int a4, .ref 52, .int ((a1 + (a2 * x6)) + x7), .ref 51]) rfl rfl rfl ?_
          refine ex_lo pm_M185 (pc_q := 46) (ls_q := [.ref 41, .int a0, .int a1, .int a2, .int a3, .int a4, .int x6, .int x7]) (st_q := [.int x7, .int a4, .ref 52, .int ((a1 + (a2 * x6)) + x7), .ref 51]) rfl rfl rfl ?_
          refine ex_op pm_M185 (pc_q := 47) (st_q := [.int (a4 + x7), .ref 52, .int ((a1 + (a2 * x6)) + x7), .ref 51]) rfl rfl rfl ?_
          refine ex_iald' pm_M185 (pc_q := 48) (v := T.1 52 ((a4 + x7).toNatClampNeg)) rfl rfl rfl ?_
          refine ex_iast pm_M185 (pc_q := 49) rfl rfl ?_
          refine ex_lo pm_M185 (pc_q := 52) (ls_q := [.ref 41, .int a0, .int a1, .int a2, .int a3, .int a4, .int x6, .int (x7 + 1)]) (st_q := []) rfl rfl rfl ?_
          refine ex_goS pm_M185 (pc_q := 19) (st_q := []) rfl rfl ?_
          exact ih19 x6 (x7 + 1) (ex_sx T 51 (((a1 + (a2 * x6)) + x7).toNatClampNeg) (T.1 52 ((a4 + x7).toNatClampNeg))) (v3 a0 a1 a2 a3 a4 S x6 x7 T hI c2)
      exact L19
  have L19 := LL N
  refine ex_lo pm_M185 (pc_q := 1) (ls_q := [.ref 41, .int a0, .int a1, .int a2, .int a3, .int a4, pm_no, pm_no]) (st_q := [.ref 41]) rfl rfl rfl ?_
  refine ex_getK pm_M185 (pc_q := 4) (j := 34) (b := 51) rfl rfl rfl rfl rfl ?_
  refine ex_lo pm_M185 (pc_q := 5) (ls_q := [.ref 41, .int a0, .int a1, .int a2, .int a3, .int a4, pm_no, pm_no]) (st_q := [.int a0, .ref 51]) rfl rfl rfl ?_
  refine ex_iald' pm_M185 (pc_q := 6) (v := S.1 51 a0.toNatClampNeg) rfl rfl rfl ?_
  refine ex_lo pm_M185 (pc_q := 8) (ls_q := [.ref 41, .int a0, .int a1, .int a2, .int a3, .int a4, .int (S.1 51 a0.toNatClampNeg), pm_no]) (st_q := []) rfl rfl rfl ?_
  refine ex_lo pm_M185 (pc_q := 10) (ls_q := [.ref 41, .int a0, .int a1, .int a2, .int a3, .int a4, .int (S.1 51 a0.toNatClampNeg), pm_no]) (st_q := [.int (S.1 51 a0.toNatClampNeg)]) rfl rfl rfl ?_
  refine ex_lo pm_M185 (pc_q := 12) (ls_q := [.ref 41, .int a0, .int a1, .int a2, .int a3, .int a4, .int (S.1 51 a0.toNatClampNeg), pm_no]) (st_q := [.int a3, .int (S.1 51 a0.toNatClampNeg)]) rfl rfl rfl ?_
  refine ex_icmp pm_M185 (t := 16) (pc_q := 15) rfl rfl rfl (fun c1 => ?_) (fun c1 => ?_)
  · -- ¬ S.1 51 a0.toNatClampNeg = a3
    refine ex_op pm_M185 (pc_q := 17) (st_q := [.int 0]) rfl rfl rfl ?_
    refine ex_lo pm_M185 (pc_q := 19) (ls_q := [.ref 41, .int a0, .int a1, .int a2, .int a3, .int a4, .int (S.1 51 a0.toNatClampNeg), .int 0]) (st_q := []) rfl rfl rfl ?_
    exact L19 (S.1 51 a0.toNatClampNeg) 0 S (v0 a0 a1 a2 a3 a4 S c1)
  · -- not
    exact ex_ret pm_M185 (r := none) rfl rfl (⟨rfl, v1 a0 a1 a2 a3 a4 S c1⟩)
set_option maxRecDepth 100000 in
set_option maxHeartbeats 4000000 in
/-- SilentTableModel.listLine -/
theorem ev187 {C : Int64 → Int32 → ex_S → Int32 → ex_S → Prop} {C179 : ex_S → ex_S → Prop} {C182 : Int32 → Int32 → ex_S → ex_S → Prop} {C183 : Int32 → Int32 → Int32 → ex_S → Int32 → ex_S → Prop} {C184 : ex_S → Int32 → ex_S → Prop} {C185 : Int32 → Int32 → Int32 → Int32 → Int32 → ex_S → ex_S → Prop} {C188 : ex_S → Int32 → ex_S → Prop} {I73 : Int64 → Int32 → ex_S → ex_S → Prop} (H179 : es179 C179) (H182 : es182 C182) (H183 : es183 C183) (H184 : es184 C184) (H185 : es185 C185) (H188 : es188 C188) 
    (v0 : ∀ (a0 : Int64) (a1 : Int32) (S : ex_S), lg_cmp a0 1920298085 = 0 → S.1 51 0 = 10 → ∀ (S6 : ex_S), C182 3 a1 S S6 → I73 a0 a1 S S6) 
    (v1 : ∀ (a0 : Int64) (a1 : Int32) (S : ex_S), lg_cmp a0 1920298085 = 0 → ¬ (S.1 51 0 = 10) → ¬ lg_cmp a0 1936287598 = 0 → I73 a0 a1 S S) 
    (v2 : ∀ (a0 : Int64) (a1 : Int32) (S : ex_S), lg_cmp a0 1920298085 = 0 → ¬ (S.1 51 0 = 10) → ¬ (¬ lg_cmp a0 1936287598 = 0) → ¬ S.1 51 1 = 16 → I73 a0 a1 S S) 
    (v3 : ∀ (a0 : Int64) (a1 : Int32) (S : ex_S), lg_cmp a0 1920298085 = 0 → ¬ (S.1 51 0 = 10) → ¬ (¬ lg_cmp a0 1936287598 = 0) → ¬ (¬ S.1 51 1 = 16) → ∀ (S12 : ex_S), C182 3 a1 S S12 → I73 a0 a1 S S12) 
    (v4 : ∀ (a0 : Int64) (a1 : Int32) (S : ex_S), ¬ (lg_cmp a0 1920298085 = 0) → lg_cmp a0 1936287598 = 0 → ¬ S.1 51 1 = 16 → I73 a0 a1 S S) 
    (v5 : ∀ (a0 : Int64) (a1 : Int32) (S : ex_S), ¬ (lg_cmp a0 1920298085 = 0) → lg_cmp a0 1936287598 = 0 → ¬ (¬ S.1 51 1 = 16) → ∀ (S20 : ex_S), C182 3 a1 S S20 → I73 a0 a1 S S20) 
    (v6 : ∀ (a0 : Int64) (a1 : Int32) (S : ex_S), ¬ (lg_cmp a0 1920298085 = 0) → ¬ (lg_cmp a0 1936287598 = 0) → lg_cmp a0 1852137842 = 0 → I73 a0 a1 S S) 
    (v7 : ∀ (a0 : Int64) (a1 : Int32) (S : ex_S), ¬ (lg_cmp a0 1920298085 = 0) → ¬ (lg_cmp a0 1936287598 = 0) → ¬ (lg_cmp a0 1852137842 = 0) → ∀ (r26 : Int32) (S27 : ex_S), C184 S r26 S27 → C a0 a1 S r26 S27) 
    (v8 : ∀ (a0 : Int64) (a1 : Int32) (S : ex_S) (T : ex_S), I73 a0 a1 S T → ∀ (S31 : ex_S), C179 T S31 → ¬ lg_cmp a0 1920298085 = 0 → ¬ lg_cmp a0 1936287598 = 0 → ∀ (r36 : Int32) (S37 : ex_S), C183 0 9 (-1) S31 r36 S37 → r36 = 0 → C a0 a1 S 0 S37) 
    (v9 : ∀ (a0 : Int64) (a1 : Int32) (S : ex_S) (T : ex_S), I73 a0 a1 S T → ∀ (S31 : ex_S), C179 T S31 → ¬ lg_cmp a0 1920298085 = 0 → ¬ lg_cmp a0 1936287598 = 0 → ∀ (r36 : Int32) (S37 : ex_S), C183 0 9 (-1) S31 r36 S37 → ¬ (r36 = 0) → ∀ (r41 : Int32) (S42 : ex_S), C183 1 9 (S37.1 52 0) S37 r41 S42 → ¬ r41 = 0 → S42.1 41 22 = 0 → C a0 a1 S 1 S42) 
    (v10 : ∀ (a0 : Int64) (a1 : Int32) (S : ex_S) (T : ex_S), I73 a0 a1 S T → ∀ (S31 : ex_S), C179 T S31 → ¬ lg_cmp a0 1920298085 = 0 → ¬ lg_cmp a0 1936287598 = 0 → ∀ (r36 : Int32) (S37 : ex_S), C183 0 9 (-1) S31 r36 S37 → ¬ (r36 = 0) → ∀ (r41 : Int32) (S42 : ex_S), C183 1 9 (S37.1 52 0) S37 r41 S42 → ¬ r41 = 0 → ¬ (S42.1 41 22 = 0) → C a0 a1 S 1 (ex_sx S42 51 ((90 + (S42.1 52 0)).toNatClampNeg) ((S42.1 51 ((90 + (S42.1 52 0)).toNatClampNeg)) ||| (1 <<< ((S42.1 52 1) &&& 31))))) 
    (v11 : ∀ (a0 : Int64) (a1 : Int32) (S : ex_S) (T : ex_S), I73 a0 a1 S T → ∀ (S31 : ex_S), C179 T S31 → ¬ lg_cmp a0 1920298085 = 0 → ¬ lg_cmp a0 1936287598 = 0 → ∀ (r36 : Int32) (S37 : ex_S), C183 0 9 (-1) S31 r36 S37 → ¬ (r36 = 0) → ∀ (r41 : Int32) (S42 : ex_S), C183 1 9 (S37.1 52 0) S37 r41 S42 → ¬ (¬ r41 = 0) → C a0 a1 S 0 S42) 
    (v12 : ∀ (a0 : Int64) (a1 : Int32) (S : ex_S) (T : ex_S), I73 a0 a1 S T → ∀ (S31 : ex_S), C179 T S31 → ¬ lg_cmp a0 1920298085 = 0 → ¬ (¬ lg_cmp a0 1936287598 = 0) → ∀ (r47 : Int32) (S48 : ex_S), C183 0 9 (-1) S31 r47 S48 → r47 = 0 → C a0 a1 S 0 S48) 
    (v13 : ∀ (a0 : Int64) (a1 : Int32) (S : ex_S) (T : ex_S), I73 a0 a1 S T → ∀ (S31 : ex_S), C179 T S31 → ¬ lg_cmp a0 1920298085 = 0 → ¬ (¬ lg_cmp a0 1936287598 = 0) → ∀ (r47 : Int32) (S48 : ex_S), C183 0 9 (-1) S31 r47 S48 → ¬ (r47 = 0) → ∀ (r52 : Int32) (S53 : ex_S), C183 1 5 (-1) S48 r52 S53 → r52 = 0 → C a0 a1 S 0 S53) 
    (v14 : ∀ (a0 : Int64) (a1 : Int32) (S : ex_S) (T : ex_S), I73 a0 a1 S T → ∀ (S31 : ex_S), C179 T S31 → ¬ lg_cmp a0 1920298085 = 0 → ¬ (¬ lg_cmp a0 1936287598 = 0) → ∀ (r47 : Int32) (S48 : ex_S), C183 0 9 (-1) S31 r47 S48 → ¬ (r47 = 0) → ∀ (r52 : Int32) (S53 : ex_S), C183 1 5 (-1) S48 r52 S53 → ¬ (r52 = 0) → ∀ (r57 : Int32) (S58 : ex_S), C183 2 49 (-1) S53 r57 S58 → ¬ r57 = 0 → ∀ (S63 : ex_S), C185 1 42 3 16 0 S58 S63 → C a0 a1 S 1 S63) 
    (v15 : ∀ (a0 : Int64) (a1 : Int32) (S : ex_S) (T : ex_S), I73 a0 a1 S T → ∀ (S31 : ex_S), C179 T S31 → ¬ lg_cmp a0 1920298085 = 0 → ¬ (¬ lg_cmp a0 1936287598 = 0) → ∀ (r47 : Int32) (S48 : ex_S), C183 0 9 (-1) S31 r47 S48 → ¬ (r47 = 0) → ∀ (r52 : Int32) (S53 : ex_S), C183 1 5 (-1) S48 r52 S53 → ¬ (r52 = 0) → ∀ (r57 : Int32) (S58 : ex_S), C183 2 49 (-1) S53 r57 S58 → ¬ (¬ r57 = 0) → C a0 a1 S 0 S58) 
    (v16 : ∀ (a0 : Int64) (a1 : Int32) (S : ex_S) (T : ex_S), I73 a0 a1 S T → ∀ (S31 : ex_S), C179 T S31 → ¬ (¬ lg_cmp a0 1920298085 = 0) → ∀ (r66 : Int32) (S67 : ex_S), C183 0 5 (-1) S31 r66 S67 → r66 = 0 → C a0 a1 S 0 S67) 
    (v17 : ∀ (a0 : Int64) (a1 : Int32) (S : ex_S) (T : ex_S), I73 a0 a1 S T → ∀ (S31 : ex_S), C179 T S31 → ¬ (¬ lg_cmp a0 1920298085 = 0) → ∀ (r66 : Int32) (S67 : ex_S), C183 0 5 (-1) S31 r66 S67 → ¬ (r66 = 0) → ∀ (r71 : Int32) (S72 : ex_S), C183 1 5 (-1) S67 r71 S72 → r71 = 0 → C a0 a1 S 0 S72) 
    (v18 : ∀ (a0 : Int64) (a1 : Int32) (S : ex_S) (T : ex_S), I73 a0 a1 S T → ∀ (S31 : ex_S), C179 T S31 → ¬ (¬ lg_cmp a0 1920298085 = 0) → ∀ (r66 : Int32) (S67 : ex_S), C183 0 5 (-1) S31 r66 S67 → ¬ (r66 = 0) → ∀ (r71 : Int32) (S72 : ex_S), C183 1 5 (-1) S67 r71 S72 → ¬ (r71 = 0) → ∀ (r76 : Int32) (S77 : ex_S), C183 2 5 (-1) S72 r76 S77 → r76 = 0 → C a0 a1 S 0 S77) 
    (v19 : ∀ (a0 : Int64) (a1 : Int32) (S : ex_S) (T : ex_S), I73 a0 a1 S T → ∀ (S31 : ex_S), C179 T S31 → ¬ (¬ lg_cmp a0 1920298085 = 0) → ∀ (r66 : Int32) (S67 : ex_S), C183 0 5 (-1) S31 r66 S67 → ¬ (r66 = 0) → ∀ (r71 : Int32) (S72 : ex_S), C183 1 5 (-1) S67 r71 S72 → ¬ (r71 = 0) → ∀ (r76 : Int32) (S77 : ex_S), C183 2 5 (-1) S72 r76 S77 → ¬ (r76 = 0) → ∀ (r81 : Int32) (S82 : ex_S), C188 S77 r81 S82 → ¬ r81 = 0 → ∀ (S87 : ex_S), C185 0 2 4 10 0 S82 S87 → C a0 a1 S 1 S87) 
    (v20 : ∀ (a0 : Int64) (a1 : Int32) (S : ex_S) (T : ex_S), I73 a0 a1 S T → ∀ (S31 : ex_S), C179 T S31 → ¬ (¬ lg_cmp a0 1920298085 = 0) → ∀ (r66 : Int32) (S67 : ex_S), C183 0 5 (-1) S31 r66 S67 → ¬ (r66 = 0) → ∀ (r71 : Int32) (S72 : ex_S), C183 1 5 (-1) S67 r71 S72 → ¬ (r71 = 0) → ∀ (r76 : Int32) (S77 : ex_S), C183 2 5 (-1) S72 r76 S77 → ¬ (r76 = 0) → ∀ (r81 : Int32) (S82 : ex_S), C188 S77 r81 S82 → ¬ (¬ r81 = 0) → C a0 a1 S 0 S82) : es187 C := by
  intro N d a0 a1 S
  have LL : ∀ N : Nat, (∀ (T : ex_S), I73 a0 a1 S T → ex_P N d 187 73 [.ref 41, .long a0, pm_no, .int a1] [] T (fun r S_q => ∃ v, r = some (.int v) ∧ C a0 a1 S v S_q)) := by
    intro N
    induction N with
    | zero => exact fun _ _ => ex_zero
    | succ N ih =>
      have ih73 := ih
      have L73 : ∀ (T : ex_S), I73 a0 a1 S T → ex_P (N + 1) d 187 73 [.ref 41, .long a0, pm_no, .int a1] [] T (fun r S_q => ∃ v, r = some (.int v) ∧ C a0 a1 S v S_q) := by
        intro T hI
        refine ex_lo pm_M187 (pc_q := 74) (ls_q := [.ref 41, .long a0, pm_no, .int a1]) (st_q := [.ref 41]) rfl rfl rfl ?_
        refine ex_call pm_M187 (pc_q := 77) (ix := 164) (callee := 179) (np := 0) (kd := 0) (ra := [.ref 41]) (rest := []) rfl rfl rfl rfl pm_M179 rfl rfl rfl rfl (fun d29 => (H179 _ d29 T).mono (fun r S31 e => ?_))
        obtain ⟨rfl, h32⟩ := e
        show ex_P _ _ 187 77 [.ref 41, .long a0, pm_no, .int a1] [] S31 _
        refine ex_lo pm_M187 (pc_q := 78) (ls_q := [.ref 41, .long a0, pm_no, .int a1]) (st_q := [.long a0]) rfl rfl rfl ?_
        refine ex_ldc2 pm_M187 (pc_q := 81) (x := 1920298085) rfl rfl rfl ?_
        refine ex_op pm_M187 (pc_q := 82) (st_q := [.int (lg_cmp a0 1920298085)]) rfl rfl rfl ?_
        refine ex_ifc pm_M187 (t := 136) (pc_q := 85) rfl rfl rfl (fun c33 => ?_) (fun c33 => ?_)
        · -- ¬ lg_cmp a0 1920298085 = 0
          refine ex_lo pm_M187 (pc_q := 137) (ls_q := [.ref 41, .long a0, pm_no, .int a1]) (st_q := [.long a0]) rfl rfl rfl ?_
          refine ex_ldc2 pm_M187 (pc_q := 140) (x := 1936287598) rfl rfl rfl ?_
          refine ex_op pm_M187 (pc_q := 141) (st_q := [.int (lg_cmp a0 1936287598)]) rfl rfl rfl ?_
          refine ex_ifc pm_M187 (t := 191) (pc_q := 144) rfl rfl rfl (fun c34 => ?_) (fun c34 => ?_)
          · -- ¬ lg_cmp a0 1936287598 = 0
            refine ex_lo pm_M187 (pc_q := 192) (ls_q := [.ref 41, .long a0, pm_no, .int a1]) (st_q := [.ref 41]) rfl rfl rfl ?_
            refine ex_op pm_M187 (pc_q := 193) (st_q := [.int 0, .ref 41]) rfl rfl rfl ?_
            refine ex_op pm_M187 (pc_q := 195) (st_q := [.int 9, .int 0, .ref 41]) rfl rfl rfl ?_
            refine ex_op pm_M187 (pc_q := 196) (st_q := [.int (-1), .int 9, .int 0, .ref 41]) rfl rfl rfl ?_
            refine ex_call pm_M187 (pc_q := 199) (ix := 183) (callee := 183) (np := 3) (kd := 0) (ra := [.int (-1), .int 9, .int 0, .ref 41]) (rest := []) rfl rfl rfl rfl pm_M183 rfl rfl rfl rfl (fun d35 => (H183 _ d35 0 9 (-1) S31).mono (fun r S37 e => ?_))
            obtain ⟨r36, rfl, h38⟩ := e
            show ex_P _ _ 187 199 [.ref 41, .long a0, pm_no, .int a1] [.int r36] S37 _
            refine ex_ifc pm_M187 (t := 218) (pc_q := 202) rfl rfl rfl (fun c39 => ?_) (fun c39 => ?_)
            · -- r36 = 0
              refine ex_op pm_M187 (pc_q := 219) (st_q := [.int 0]) rfl rfl rfl ?_
              exact ex_retI pm_M187 rfl (⟨_, rfl, v8 a0 a1 S T hI S31 h32 c33 c34 r36 S37 h38 c39⟩)
            · -- not
              refine ex_lo pm_M187 (pc_q := 203) (ls_q := [.ref 41, .long a0, pm_no, .int a1]) (st_q := [.ref 41]) rfl rfl rfl ?_
              refine ex_op pm_M187 (pc_q := 204) (st_q := [.int 1, .ref 41]) rfl rfl rfl ?_
              refine ex_op pm_M187 (pc_q := 206) (st_q := [.int 9, .int 1, .ref 41]) rfl rfl rfl ?_
              refine ex_lo pm_M187 (pc_q := 207) (ls_q := [.ref 41, .long a0, pm_no, .int a1]) (st_q := [.ref 41, .int 9, .int 1, .ref 41]) rfl rfl rfl ?_
              refine ex_getK pm_M187 (pc_q := 210) (j := 35) (b := 52) rfl rfl rfl rfl rfl ?_
              refine ex_op pm_M187 (pc_q := 211) (st_q := [.int 0, .ref 52, .int 9, .int 1, .ref 41]) rfl rfl rfl ?_
              refine ex_iald' pm_M187 (pc_q := 212) (v := S37.1 52 0) rfl rfl rfl ?_
              refine ex_call pm_M187 (pc_q := 215) (ix := 183) (callee := 183) (np := 3) (kd := 0) (ra := [.int (S37.1 52 0), .int 9, .int 1, .ref 41]) (rest := []) rfl rfl rfl rfl pm_M183 rfl rfl rfl rfl (fun d40 => (H183 _ d40 1 9 (S37.1 52 0) S37).mono (fun r S42 e => ?_))
              obtain ⟨r41, rfl, h43⟩ := e
              show ex_P _ _ 187 215 [.ref 41, .long a0, pm_no, .int a1] [.int r41] S42 _
              refine ex_ifc pm_M187 (t := 220) (pc_q := 218) rfl rfl rfl (fun c44 => ?_) (fun c44 => ?_)
              · -- ¬ r41 = 0
                refine ex_lo pm_M187 (pc_q := 221) (ls_q := [.ref 41, .long a0, pm_no, .int a1]) (st_q := [.ref 41]) rfl rfl rfl ?_
                refine ex_getI' pm_M187 (pc_q := 224) (v := S42.1 41 22) rfl rfl rfl rfl rfl rfl ?_
                refine ex_ifc pm_M187 (t := 252) (pc_q := 227) rfl rfl rfl (fun c45 => ?_) (fun c45 => ?_)
                · -- S42.1 41 22 = 0
                  refine ex_op pm_M187 (pc_q := 253) (st_q := [.int 1]) rfl rfl rfl ?_
                  exact ex_retI pm_M187 rfl (⟨_, rfl, v9 a0 a1 S T hI S31 h32 c33 c34 r36 S37 h38 c39 r41 S42 h43 c44 c45⟩)
                · -- not
                  refine ex_lo pm_M187 (pc_q := 228) (ls_q := [.ref 41, .long a0, pm_no, .int a1]) (st_q := [.ref 41]) rfl rfl rfl ?_
                  refine ex_getK pm_M187 (pc_q := 231) (j := 34) (b := 51) rfl rfl rfl rfl rfl ?_
                  refine ex_op pm_M187 (pc_q := 233) (st_q := [.int 90, .ref 51]) rfl rfl rfl ?_
                  refine ex_lo pm_M187 (pc_q := 234) (ls_q := [.ref 41, .long a0, pm_no, .int a1]) (st_q := [.ref 41, .int 90, .ref 51]) rfl rfl rfl ?_
                  refine ex_getK pm_M187 (pc_q := 237) (j := 35) (b := 52) rfl rfl rfl rfl rfl ?_
                  refine ex_op pm_M187 (pc_q := 238) (st_q := [.int 0, .ref 52, .int 90, .ref 51]) rfl rfl rfl ?_
                  refine ex_iald' pm_M187 (pc_q := 239) (v := S42.1 52 0) rfl rfl rfl ?_
                  refine ex_op pm_M187 (pc_q := 240) (st_q := [.int (90 + (S42.1 52 0)), .ref 51]) rfl rfl rfl ?_
                  refine ex_op pm_M187 (pc_q := 241) (st_q := [.int (90 + (S42.1 52 0)), .ref 51, .int (90 + (S42.1 52 0)), .ref 51]) rfl rfl rfl ?_
                  refine ex_iald' pm_M187 (pc_q := 242) (v := S42.1 51 ((90 + (S42.1 52 0)).toNatClampNeg)) rfl rfl rfl ?_
                  refine ex_op pm_M187 (pc_q := 243) (st_q := [.int 1, .int (S42.1 51 ((90 + (S42.1 52 0)).toNatClampNeg)), .int (90 + (S42.1 52 0)), .ref 51]) rfl rfl rfl ?_
                  refine ex_lo pm_M187 (pc_q := 244) (ls_q := [.ref 41, .long a0, pm_no, .int a1]) (st_q := [.ref 41, .int 1, .int (S42.1 51 ((90 + (S42.1 52 0)).toNatClampNeg)), .int (90 + (S42.1 52 0)), .ref 51]) rfl rfl rfl ?_
                  refine ex_getK pm_M187 (pc_q := 247) (j := 35) (b := 52) rfl rfl rfl rfl rfl ?_
                  refine ex_op pm_M187 (pc_q := 248) (st_q := [.int 1, .ref 52, .int 1, .int (S42.1 51 ((90 + (S42.1 52 0)).toNatClampNeg)), .int (90 + (S42.1 52 0)), .ref 51]) rfl rfl rfl ?_
                  refine ex_iald' pm_M187 (pc_q := 249) (v := S42.1 52 1) rfl rfl rfl ?_
                  refine ex_op pm_M187 (pc_q := 250) (st_q := [.int (1 <<< ((S42.1 52 1) &&& 31)), .int (S42.1 51 ((90 + (S42.1 52 0)).toNatClampNeg)), .int (90 + (S42.1 52 0)), .ref 51]) rfl rfl rfl ?_
                  refine ex_op pm_M187 (pc_q := 251) (st_q := [.int ((S42.1 51 ((90 + (S42.1 52 0)).toNatClampNeg)) ||| (1 <<< ((S42.1 52 1) &&& 31))), .int (90 + (S42.1 52 0)), .ref 51]) rfl rfl rfl ?_
                  refine ex_iast pm_M187 (pc_q := 252) rfl rfl ?_
                  refine ex_op pm_M187 (pc_q := 253) (st_q := [.int 1]) rfl rfl rfl ?_
                  exact ex_retI pm_M187 rfl (⟨_, rfl, v10 a0 a1 S T hI S31 h32 c33 c34 r36 S37 h38 c39 r41 S42 h43 c44 c45⟩)
              · -- not
                refine ex_op pm_M187 (pc_q := 219) (st_q := [.int 0]) rfl rfl rfl ?_
                exact ex_retI pm_M187 rfl (⟨_, rfl, v11 a0 a1 S T hI S31 h32 c33 c34 r36 S37 h38 c39 r41 S42 h43 c44⟩)
          · -- not
            refine ex_lo pm_M187 (pc_q := 145) (ls_q := [.ref 41, .long a0, pm_no, .int a1]) (st_q := [.ref 41]) rfl rfl rfl ?_
            refine ex_op pm_M187 (pc_q := 146) (st_q := [.int 0, .ref 41]) rfl rfl rfl ?_
            refine ex_op pm_M187 (pc_q := 148) (st_q := [.int 9, .int 0, .ref 41]) rfl rfl rfl ?_
            refine ex_op pm_M187 (pc_q := 149) (st_q := [.int (-1), .int 9, .int 0, .ref 41]) rfl rfl rfl ?_
            refine ex_call pm_M187 (pc_q := 152) (ix := 183) (callee := 183) (np := 3) (kd := 0) (ra := [.int (-1), .int 9, .int 0, .ref 41]) (rest := []) rfl rfl rfl rfl pm_M183 rfl rfl rfl rfl (fun d46 => (H183 _ d46 0 9 (-1) S31).mono (fun r S48 e => ?_))
            obtain ⟨r47, rfl, h49⟩ := e
            show ex_P _ _ 187 152 [.ref 41, .long a0, pm_no, .int a1] [.int r47] S48 _
            refine ex_ifc pm_M187 (t := 176) (pc_q := 155) rfl rfl rfl (fun c50 => ?_) (fun c50 => ?_)
            · -- r47 = 0
              refine ex_op pm_M187 (pc_q := 177) (st_q := [.int 0]) rfl rfl rfl ?_
              exact ex_retI pm_M187 rfl (⟨_, rfl, v12 a0 a1 S T hI S31 h32 c33 c34 r47 S48 h49 c50⟩)
            · -- not
              refine ex_lo pm_M187 (pc_q := 156) (ls_q := [.ref 41, .long a0, pm_no, .int a1]) (st_q := [.ref 41]) rfl rfl rfl ?_
              refine ex_op pm_M187 (pc_q := 157) (st_q := [.int 1, .ref 41]) rfl rfl rfl ?_
              refine ex_op pm_M187 (pc_q := 158) (st_q := [.int 5, .int 1, .ref 41]) rfl rfl rfl ?_
              refine ex_op pm_M187 (pc_q := 159) (st_q := [.int (-1), .int 5, .int 1, .ref 41]) rfl rfl rfl ?_
              refine ex_call pm_M187 (pc_q := 162) (ix := 183) (callee := 183) (np := 3) (kd := 0) (ra := [.int (-1), .int 5, .int 1, .ref 41]) (rest := []) rfl rfl rfl rfl pm_M183 rfl rfl rfl rfl (fun d51 => (H183 _ d51 1 5 (-1) S48).mono (fun r S53 e => ?_))
              obtain ⟨r52, rfl, h54⟩ := e
              show ex_P _ _ 187 162 [.ref 41, .long a0, pm_no, .int a1] [.int r52] S53 _
              refine ex_ifc pm_M187 (t := 176) (pc_q := 165) rfl rfl rfl (fun c55 => ?_) (fun c55 => ?_)
              · -- r52 = 0
                refine ex_op pm_M187 (pc_q := 177) (st_q := [.int 0]) rfl rfl rfl ?_
                exact ex_retI pm_M187 rfl (⟨_, rfl, v13 a0 a1 S T hI S31 h32 c33 c34 r47 S48 h49 c50 r52 S53 h54 c55⟩)
              · -- not
                refine ex_lo pm_M187 (pc_q := 166) (ls_q := [.ref 41, .long a0, pm_no, .int a1]) (st_q := [.ref 41]) rfl rfl rfl ?_
                refine ex_op pm_M187 (pc_q := 167) (st_q := [.int 2, .ref 41]) rfl rfl rfl ?_
                refine ex_op pm_M187 (pc_q := 169) (st_q := [.int 49, .int 2, .ref 41]) rfl rfl rfl ?_
                refine ex_op pm_M187 (pc_q := 170) (st_q := [.int (-1), .int 49, .int 2, .ref 41]) rfl rfl rfl ?_
                refine ex_call pm_M187 (pc_q := 173) (ix := 183) (callee := 183) (np := 3) (kd := 0) (ra := [.int (-1), .int 49, .int 2, .ref 41]) (rest := []) rfl rfl rfl rfl pm_M183 rfl rfl rfl rfl (fun d56 => (H183 _ d56 2 49 (-1) S53).mono (fun r S58 e => ?_))
                obtain ⟨r57, rfl, h59⟩ := e
                show ex_P _ _ 187 173 [.ref 41, .long a0, pm_no, .int a1] [.int r57] S58 _
                refine ex_ifc pm_M187 (t := 178) (pc_q := 176) rfl rfl rfl (fun c60 => ?_) (fun c60 => ?_)
                · -- ¬ r57 = 0
                  refine ex_lo pm_M187 (pc_q := 179) (ls_q := [.ref 41, .long a0, pm_no, .int a1]) (st_q := [.ref 41]) rfl rfl rfl ?_
                  refine ex_op pm_M187 (pc_q := 180) (st_q := [.int 1, .ref 41]) rfl rfl rfl ?_
                  refine ex_op pm_M187 (pc_q := 182) (st_q := [.int 42, .int 1, .ref 41]) rfl rfl rfl ?_
                  refine ex_op pm_M187 (pc_q := 183) (st_q := [.int 3, .int 42, .int 1, .ref 41]) rfl rfl rfl ?_
                  refine ex_op pm_M187 (pc_q := 185) (st_q := [.int 16, .int 3, .int 42, .int 1, .ref 41]) rfl rfl rfl ?_
                  refine ex_op pm_M187 (pc_q := 186) (st_q := [.int 0, .int 16, .int 3, .int 42, .int 1, .ref 41]) rfl rfl rfl ?_
                  refine ex_call pm_M187 (pc_q := 189) (ix := 189) (callee := 185) (np := 5) (kd := 0) (ra := [.int 0, .int 16, .int 3, .int 42, .int 1, .ref 41]) (rest := []) rfl rfl rfl rfl pm_M185 rfl rfl rfl rfl (fun d61 => (H185 _ d61 1 42 3 16 0 S58).mono (fun r S63 e => ?_))
                  obtain ⟨rfl, h64⟩ := e
                  show ex_P _ _ 187 189 [.ref 41, .long a0, pm_no, .int a1] [] S63 _
                  refine ex_op pm_M187 (pc_q := 190) (st_q := [.int 1]) rfl rfl rfl ?_
                  exact ex_retI pm_M187 rfl (⟨_, rfl, v14 a0 a1 S T hI S31 h32 c33 c34 r47 S48 h49 c50 r52 S53 h54 c55 r57 S58 h59 c60 S63 h64⟩)
                · -- not
                  refine ex_op pm_M187 (pc_q := 177) (st_q := [.int 0]) rfl rfl rfl ?_
                  exact ex_retI pm_M187 rfl (⟨_, rfl, v15 a0 a1 S T hI S31 h32 c33 c34 r47 S48 h49 c50 r52 S53 h54 c55 r57 S58 h59 c60⟩)
        · -- not
          refine ex_lo pm_M187 (pc_q := 86) (ls_q := [.ref 41, .long a0, pm_no, .int a1]) (st_q := [.ref 41]) rfl rfl rfl ?_
          refine ex_op pm_M187 (pc_q := 87) (st_q := [.int 0, .ref 41]) rfl rfl rfl ?_
          refine ex_op pm_M187 (pc_q := 88) (st_q := [.int 5, .int 0, .ref 41]) rfl rfl rfl ?_
          refine ex_op pm_M187 (pc_q := 89) (st_q := [.int (-1), .int 5, .int 0, .ref 41]) rfl rfl rfl ?_
          refine ex_call pm_M187 (pc_q := 92) (ix := 183) (callee := 183) (np := 3) (kd := 0) (ra := [.int (-1), .int 5, .int 0, .ref 41]) (rest := []) rfl rfl rfl rfl pm_M183 rfl rfl rfl rfl (fun d65 => (H183 _ d65 0 5 (-1) S31).mono (fun r S67 e => ?_))
          obtain ⟨r66, rfl, h68⟩ := e
          show ex_P _ _ 187 92 [.ref 41, .long a0, pm_no, .int a1] [.int r66] S67 _
          refine ex_ifc pm_M187 (t := 122) (pc_q := 95) rfl rfl rfl (fun c69 => ?_) (fun c69 => ?_)
          · -- r66 = 0
            refine ex_op pm_M187 (pc_q := 123) (st_q := [.int 0]) rfl rfl rfl ?_
            exact ex_retI pm_M187 rfl (⟨_, rfl, v16 a0 a1 S T hI S31 h32 c33 r66 S67 h68 c69⟩)
          · -- not
            refine ex_lo pm_M187 (pc_q := 96) (ls_q := [.ref 41, .long a0, pm_no, .int a1]) (st_q := [.ref 41]) rfl rfl rfl ?_
            refine ex_op pm_M187 (pc_q := 97) (st_q := [.int 1, .ref 41]) rfl rfl rfl ?_
            refine ex_op pm_M187 (pc_q := 98) (st_q := [.int 5, .int 1, .ref 41]) rfl rfl rfl ?_
            refine ex_op pm_M187 (pc_q := 99) (st_q := [.int (-1), .int 5, .int 1, .ref 41]) rfl rfl rfl ?_
            refine ex_call pm_M187 (pc_q := 102) (ix := 183) (callee := 183) (np := 3) (kd := 0) (ra := [.int (-1), .int 5, .int 1, .ref 41]) (rest := []) rfl rfl rfl rfl pm_M183 rfl rfl rfl rfl (fun d70 => (H183 _ d70 1 5 (-1) S67).mono (fun r S72 e => ?_))
            obtain ⟨r71, rfl, h73⟩ := e
            show ex_P _ _ 187 102 [.ref 41, .long a0, pm_no, .int a1] [.int r71] S72 _
            refine ex_ifc pm_M187 (t := 122) (pc_q := 105) rfl rfl rfl (fun c74 => ?_) (fun c74 => ?_)
            · -- r71 = 0
              refine ex_op pm_M187 (pc_q := 123) (st_q := [.int 0]) rfl rfl rfl ?_
              exact ex_retI pm_M187 rfl (⟨_, rfl, v17 a0 a1 S T hI S31 h32 c33 r66 S67 h68 c69 r71 S72 h73 c74⟩)
            · -- not
              refine ex_lo pm_M187 (pc_q := 106) (ls_q := [.ref 41, .long a0, pm_no, .int a1]) (st_q := [.ref 41]) rfl rfl rfl ?_
              refine ex_op pm_M187 (pc_q := 107) (st_q := [.int 2, .ref 41]) rfl rfl rfl ?_
              refine ex_op pm_M187 (pc_q := 108) (st_q := [.int 5, .int 2, .ref 41]) rfl rfl rfl ?_
              refine ex_op pm_M187 (pc_q := 109) (st_q := [.int (-1), .int 5, .int 2, .ref 41]) rfl rfl rfl ?_
              refine ex_call pm_M187 (pc_q := 112) (ix := 183) (callee := 183) (np := 3) (kd := 0) (ra := [.int (-1), .int 5, .int 2, .ref 41]) (rest := []) rfl rfl rfl rfl pm_M183 rfl rfl rfl rfl (fun d75 => (H183 _ d75 2 5 (-1) S72).mono (fun r S77 e => ?_))
              obtain ⟨r76, rfl, h78⟩ := e
              show ex_P _ _ 187 112 [.ref 41, .long a0, pm_no, .int a1] [.int r76] S77 _
              refine ex_ifc pm_M187 (t := 122) (pc_q := 115) rfl rfl rfl (fun c79 => ?_) (fun c79 => ?_)
              · -- r76 = 0
                refine ex_op pm_M187 (pc_q := 123) (st_q := [.int 0]) rfl rfl rfl ?_
                exact ex_retI pm_M187 rfl (⟨_, rfl, v18 a0 a1 S T hI S31 h32 c33 r66 S67 h68 c69 r71 S72 h73 c74 r76 S77 h78 c79⟩)
              · -- not
                refine ex_lo pm_M187 (pc_q := 116) (ls_q := [.ref 41, .long a0, pm_no, .int a1]) (st_q := [.ref 41]) rfl rfl rfl ?_
                refine ex_call pm_M187 (pc_q := 119) (ix := 186) (callee := 188) (np := 0) (kd := 0) (ra := [.ref 41]) (rest := []) rfl rfl rfl rfl pm_M188 rfl rfl rfl rfl (fun d80 => (H188 _ d80 S77).mono (fun r S82 e => ?_))
                obtain ⟨r81, rfl, h83⟩ := e
                show ex_P _ _ 187 119 [.ref 41, .long a0, pm_no, .int a1] [.int r81] S82 _
                refine ex_ifc pm_M187 (t := 124) (pc_q := 122) rfl rfl rfl (fun c84 => ?_) (fun c84 => ?_)
                · -- ¬ r81 = 0
                  refine ex_lo pm_M187 (pc_q := 125) (ls_q := [.ref 41, .long a0, pm_no, .int a1]) (st_q := [.ref 41]) rfl rfl rfl ?_
                  refine ex_op pm_M187 (pc_q := 126) (st_q := [.int 0, .ref 41]) rfl rfl rfl ?_
                  refine ex_op pm_M187 (pc_q := 127) (st_q := [.int 2, .int 0, .ref 41]) rfl rfl rfl ?_
                  refine ex_op pm_M187 (pc_q := 128) (st_q := [.int 4, .int 2, .int 0, .ref 41]) rfl rfl rfl ?_
                  refine ex_op pm_M187 (pc_q := 130) (st_q := [.int 10, .int 4, .int 2, .int 0, .ref 41]) rfl rfl rfl ?_
                  refine ex_op pm_M187 (pc_q := 131) (st_q := [.int 0, .int 10, .int 4, .int 2, .int 0, .ref 41]) rfl rfl rfl ?_
                  refine ex_call pm_M187 (pc_q := 134) (ix := 189) (callee := 185) (np := 5) (kd := 0) (ra := [.int 0, .int 10, .int 4, .int 2, .int 0, .ref 41]) (rest := []) rfl rfl rfl rfl pm_M185 rfl rfl rfl rfl (fun d85 => (H185 _ d85 0 2 4 10 0 S82).mono (fun r S87 e => ?_))
                  obtain ⟨rfl, h88⟩ := e
                  show ex_P _ _ 187 134 [.ref 41, .long a0, pm_no, .int a1] [] S87 _
                  refine ex_op pm_M187 (pc_q := 135) (st_q := [.int 1]) rfl rfl rfl ?_
                  exact ex_retI pm_M187 rfl (⟨_, rfl, v19 a0 a1 S T hI S31 h32 c33 r66 S67 h68 c69 r71 S72 h73 c74 r76 S77 h78 c79 r81 S82 h83 c84 S87 h88⟩)
                · -- not
                  refine ex_op pm_M187 (pc_q := 123) (st_q := [.int 0]) rfl rfl rfl ?_
                  exact ex_retI pm_M187 rfl (⟨_, rfl, v20 a0 a1 S T hI S31 h32 c33 r66 S67 h68 c69 r71 S72 h73 c74 r76 S77 h78 c79 r81 S82 h83 c84⟩)
      exact L73
  have L73 := LL N
  refine ex_lo pm_M187 (pc_q := 1) (ls_q := [.ref 41, .long a0, pm_no, .int a1]) (st_q := [.long a0]) rfl rfl rfl ?_
  refine ex_ldc2 pm_M187 (pc_q := 4) (x := 1920298085) rfl rfl rfl ?_
  refine ex_op pm_M187 (pc_q := 5) (st_q := [.int (lg_cmp a0 1920298085)]) rfl rfl rfl ?_
  refine ex_ifc pm_M187 (t := 29) (pc_q := 8) rfl rfl rfl (fun c1 => ?_) (fun c1 => ?_)
  · -- lg_cmp a0 1920298085 = 0
    refine ex_lo pm_M187 (pc_q := 30) (ls_q := [.ref 41, .long a0, pm_no, .int a1]) (st_q := [.long a0]) rfl rfl rfl ?_
    refine ex_ldc2 pm_M187 (pc_q := 33) (x := 1920298085) rfl rfl rfl ?_
    refine ex_op pm_M187 (pc_q := 34) (st_q := [.int (lg_cmp a0 1920298085)]) rfl rfl rfl ?_
    refine ex_ifc pm_M187 (t := 48) (pc_q := 37) rfl rfl rfl (fun z => absurd z (fun w => w c1)) (fun _ => ?_)
    refine ex_lo pm_M187 (pc_q := 38) (ls_q := [.ref 41, .long a0, pm_no, .int a1]) (st_q := [.ref 41]) rfl rfl rfl ?_
    refine ex_getK pm_M187 (pc_q := 41) (j := 34) (b := 51) rfl rfl rfl rfl rfl ?_
    refine ex_op pm_M187 (pc_q := 42) (st_q := [.int 0, .ref 51]) rfl rfl rfl ?_
    refine ex_iald' pm_M187 (pc_q := 43) (v := S.1 51 0) rfl rfl rfl ?_
    refine ex_op pm_M187 (pc_q := 45) (st_q := [.int 10, .int (S.1 51 0)]) rfl rfl rfl ?_
    refine ex_icmp pm_M187 (t := 67) (pc_q := 48) rfl rfl rfl (fun c3 => ?_) (fun c3 => ?_)
    · -- S.1 51 0 = 10
      refine ex_lo pm_M187 (pc_q := 68) (ls_q := [.ref 41, .long a0, pm_no, .int a1]) (st_q := [.ref 41]) rfl rfl rfl ?_
      refine ex_op pm_M187 (pc_q := 69) (st_q := [.int 3, .ref 41]) rfl rfl rfl ?_
      refine ex_lo pm_M187 (pc_q := 70) (ls_q := [.ref 41, .long a0, pm_no, .int a1]) (st_q := [.int a1, .int 3, .ref 41]) rfl rfl rfl ?_
      refine ex_call pm_M187 (pc_q := 73) (ix := 156) (callee := 182) (np := 2) (kd := 0) (ra := [.int a1, .int 3, .ref 41]) (rest := []) rfl rfl rfl rfl pm_M182 rfl rfl rfl rfl (fun d4 => (H182 _ d4 3 a1 S).mono (fun r S6 e => ?_))
      obtain ⟨rfl, h7⟩ := e
      show ex_P _ _ 187 73 [.ref 41, .long a0, pm_no, .int a1] [] S6 _
      exact L73 S6 (v0 a0 a1 S c1 c3 S6 h7)
    · -- not
      refine ex_lo pm_M187 (pc_q := 49) (ls_q := [.ref 41, .long a0, pm_no, .int a1]) (st_q := [.long a0]) rfl rfl rfl ?_
      refine ex_ldc2 pm_M187 (pc_q := 52) (x := 1936287598) rfl rfl rfl ?_
      refine ex_op pm_M187 (pc_q := 53) (st_q := [.int (lg_cmp a0 1936287598)]) rfl rfl rfl ?_
      refine ex_ifc pm_M187 (t := 73) (pc_q := 56) rfl rfl rfl (fun c8 => ?_) (fun c8 => ?_)
      · -- ¬ lg_cmp a0 1936287598 = 0
        exact L73 S (v1 a0 a1 S c1 c3 c8)
      · -- not
        refine ex_lo pm_M187 (pc_q := 57) (ls_q := [.ref 41, .long a0, pm_no, .int a1]) (st_q := [.ref 41]) rfl rfl rfl ?_
        refine ex_getK pm_M187 (pc_q := 60) (j := 34) (b := 51) rfl rfl rfl rfl rfl ?_
        refine ex_op pm_M187 (pc_q := 61) (st_q := [.int 1, .ref 51]) rfl rfl rfl ?_
        refine ex_iald' pm_M187 (pc_q := 62) (v := S.1 51 1) rfl rfl rfl ?_
        refine ex_op pm_M187 (pc_q := 64) (st_q := [.int 16, .int (S.1 51 1)]) rfl rfl rfl ?_
        refine ex_icmp pm_M187 (t := 73) (pc_q := 67) rfl rfl rfl (fun c9 => ?_) (fun c9 => ?_)
        · -- ¬ S.1 51 1 = 16
          exact L73 S (v2 a0 a1 S c1 c3 c8 c9)
        · -- not
          refine ex_lo pm_M187 (pc_q := 68) (ls_q := [.ref 41, .long a0, pm_no, .int a1]) (st_q := [.ref 41]) rfl rfl rfl ?_
          refine ex_op pm_M187 (pc_q := 69) (st_q := [.int 3, .ref 41]) rfl rfl rfl ?_
          refine ex_lo pm_M187 (pc_q := 70) (ls_q := [.ref 41, .long a0, pm_no, .int a1]) (st_q := [.int a1, .int 3, .ref 41]) rfl rfl rfl ?_
          refine ex_call pm_M187 (pc_q := 73) (ix := 156) (callee := 182) (np := 2) (kd := 0) (ra := [.int a1, .int 3, .ref 41]) (rest := []) rfl rfl rfl rfl pm_M182 rfl rfl rfl rfl (fun d10 => (H182 _ d10 3 a1 S).mono (fun r S12 e => ?_))
          obtain ⟨rfl, h13⟩ := e
          show ex_P _ _ 187 73 [.ref 41, .long a0, pm_no, .int a1] [] S12 _
          exact L73 S12 (v3 a0 a1 S c1 c3 c8 c9 S12 h13)
  · -- not
    refine ex_lo pm_M187 (pc_q := 9) (ls_q := [.ref 41, .long a0, pm_no, .int a1]) (st_q := [.long a0]) rfl rfl rfl ?_
    refine ex_ldc2 pm_M187 (pc_q := 12) (x := 1936287598) rfl rfl rfl ?_
    refine ex_op pm_M187 (pc_q := 13) (st_q := [.int (lg_cmp a0 1936287598)]) rfl rfl rfl ?_
    refine ex_ifc pm_M187 (t := 29) (pc_q := 16) rfl rfl rfl (fun c14 => ?_) (fun c14 => ?_)
    · -- lg_cmp a0 1936287598 = 0
      refine ex_lo pm_M187 (pc_q := 30) (ls_q := [.ref 41, .long a0, pm_no, .int a1]) (st_q := [.long a0]) rfl rfl rfl ?_
      refine ex_ldc2 pm_M187 (pc_q := 33) (x := 1920298085) rfl rfl rfl ?_
      refine ex_op pm_M187 (pc_q := 34) (st_q := [.int (lg_cmp a0 1920298085)]) rfl rfl rfl ?_
      refine ex_ifc pm_M187 (t := 48) (pc_q := 37) rfl rfl rfl (fun _ => ?_) (fun z => absurd c1 z)
      refine ex_lo pm_M187 (pc_q := 49) (ls_q := [.ref 41, .long a0, pm_no, .int a1]) (st_q := [.long a0]) rfl rfl rfl ?_
      refine ex_ldc2 pm_M187 (pc_q := 52) (x := 1936287598) rfl rfl rfl ?_
      refine ex_op pm_M187 (pc_q := 53) (st_q := [.int (lg_cmp a0 1936287598)]) rfl rfl rfl ?_
      refine ex_ifc pm_M187 (t := 73) (pc_q := 56) rfl rfl rfl (fun z => absurd z (fun w => w c14)) (fun _ => ?_)
      refine ex_lo pm_M187 (pc_q := 57) (ls_q := [.ref 41, .long a0, pm_no, .int a1]) (st_q := [.ref 41]) rfl rfl rfl ?_
      refine ex_getK pm_M187 (pc_q := 60) (j := 34) (b := 51) rfl rfl rfl rfl rfl ?_
      refine ex_op pm_M187 (pc_q := 61) (st_q := [.int 1, .ref 51]) rfl rfl rfl ?_
      refine ex_iald' pm_M187 (pc_q := 62) (v := S.1 51 1) rfl rfl rfl ?_
      refine ex_op pm_M187 (pc_q := 64) (st_q := [.int 16, .int (S.1 51 1)]) rfl rfl rfl ?_
      refine ex_icmp pm_M187 (t := 73) (pc_q := 67) rfl rfl rfl (fun c17 => ?_) (fun c17 => ?_)
      · -- ¬ S.1 51 1 = 16
        exact L73 S (v4 a0 a1 S c1 c14 c17)
      · -- not
        refine ex_lo pm_M187 (pc_q := 68) (ls_q := [.ref 41, .long a0, pm_no, .int a1]) (st_q := [.ref 41]) rfl rfl rfl ?_
        refine ex_op pm_M187 (pc_q := 69) (st_q := [.int 3, .ref 41]) rfl rfl rfl ?_
        refine ex_lo pm_M187 (pc_q := 70) (ls_q := [.ref 41, .long a0, pm_no, .int a1]) (st_q := [.int a1, .int 3, .ref 41]) rfl rfl rfl ?_
        refine ex_call pm_M187 (pc_q := 73) (ix := 156) (callee := 182) (np := 2) (kd := 0) (ra := [.int a1, .int 3, .ref 41]) (rest := []) rfl rfl rfl rfl pm_M182 rfl rfl rfl rfl (fun d18 => (H182 _ d18 3 a1 S).mono (fun r S20 e => ?_))
        obtain ⟨rfl, h21⟩ := e
        show ex_P _ _ 187 73 [.ref 41, .long a0, pm_no, .int a1] [] S20 _
        exact L73 S20 (v5 a0 a1 S c1 c14 c17 S20 h21)
    · -- not
      refine ex_lo pm_M187 (pc_q := 17) (ls_q := [.ref 41, .long a0, pm_no, .int a1]) (st_q := [.long a0]) rfl rfl rfl ?_
      refine ex_ldc2 pm_M187 (pc_q := 20) (x := 1852137842) rfl rfl rfl ?_
      refine ex_op pm_M187 (pc_q := 21) (st_q := [.int (lg_cmp a0 1852137842)]) rfl rfl rfl ?_
      refine ex_ifc pm_M187 (t := 29) (pc_q := 24) rfl rfl rfl (fun c22 => ?_) (fun c22 => ?_)
      · -- lg_cmp a0 1852137842 = 0
        refine ex_lo pm_M187 (pc_q := 30) (ls_q := [.ref 41, .long a0, pm_no, .int a1]) (st_q := [.long a0]) rfl rfl rfl ?_
        refine ex_ldc2 pm_M187 (pc_q := 33) (x := 1920298085) rfl rfl rfl ?_
        refine ex_op pm_M187 (pc_q := 34) (st_q := [.int (lg_cmp a0 1920298085)]) rfl rfl rfl ?_
        refine ex_ifc pm_M187 (t := 48) (pc_q := 37) rfl rfl rfl (fun _ => ?_) (fun z => absurd c1 z)
        refine ex_lo pm_M187 (pc_q := 49) (ls_q := [.ref 41, .long a0, pm_no, .int a1]) (st_q := [.long a0]) rfl rfl rfl ?_
        refine ex_ldc2 pm_M187 (pc_q := 52) (x := 1936287598) rfl rfl rfl ?_
        refine ex_op pm_M187 (pc_q := 53) (st_q := [.int (lg_cmp a0 1936287598)]) rfl rfl rfl ?_
        refine ex_ifc pm_M187 (t := 73) (pc_q := 56) rfl rfl rfl (fun _ => ?_) (fun z => absurd c14 z)
        exact L73 S (v6 a0 a1 S c1 c14 c22)
      · -- not
        refine ex_lo pm_M187 (pc_q := 25) (ls_q := [.ref 41, .long a0, pm_no, .int a1]) (st_q := [.ref 41]) rfl rfl rfl ?_
        refine ex_call pm_M187 (pc_q := 28) (ix := 152) (callee := 184) (np := 0) (kd := 0) (ra := [.ref 41]) (rest := []) rfl rfl rfl rfl pm_M184 rfl rfl rfl rfl (fun d25 => (H184 _ d25 S).mono (fun r S27 e => ?_))
        obtain ⟨r26, rfl, h28⟩ := e
        show ex_P _ _ 187 28 [.ref 41, .long a0, pm_no, .int a1] [.int r26] S27 _
        exact ex_retI pm_M187 rfl (⟨_, rfl, v7 a0 a1 S c1 c14 c22 r26 S27 h28⟩)
set_option maxRecDepth 100000 in
set_option maxHeartbeats 4000000 in
/-- SilentTableModel.clearRead -/
theorem ev190 {C : ex_S → ex_S → Prop} {I2 : ex_S → Int32 → ex_S → Prop} 
    (v0 : ∀ (S : ex_S), I2 S 0 S) 
    (v1 : ∀ (S : ex_S) (x1 : Int32) (T : ex_S), I2 S x1 T → 4 ≤ x1 → C S T) 
    (v2 : ∀ (S : ex_S) (x1 : Int32) (T : ex_S), I2 S x1 T → ¬ (4 ≤ x1) → I2 S (x1 + 1) (ex_sx T 52 x1.toNatClampNeg (-1))) : es190 C := by
  intro N d  S
  have LL : ∀ N : Nat, (∀ (x1 : Int32) (T : ex_S), I2 S x1 T → ex_P N d 190 2 [.ref 41, .int x1] [] T (fun r S_q => r = none ∧ C S S_q)) := by
    intro N
    induction N with
    | zero => exact fun _ _ _ => ex_zero
    | succ N ih =>
      have ih2 := ih
      have L2 : ∀ (x1 : Int32) (T : ex_S), I2 S x1 T → ex_P (N + 1) d 190 2 [.ref 41, .int x1] [] T (fun r S_q => r = none ∧ C S S_q) := by
        intro x1 T hI
        refine ex_lo pm_M190 (pc_q := 3) (ls_q := [.ref 41, .int x1]) (st_q := [.int x1]) rfl rfl rfl ?_
        refine ex_op pm_M190 (pc_q := 4) (st_q := [.int 4, .int x1]) rfl rfl rfl ?_
        refine ex_icmp pm_M190 (t := 20) (pc_q := 7) rfl rfl rfl (fun c1 => ?_) (fun c1 => ?_)
        · -- 4 ≤ x1
          exact ex_ret pm_M190 (r := none) rfl rfl (⟨rfl, v1 S x1 T hI c1⟩)
        · -- not
          refine ex_lo pm_M190 (pc_q := 8) (ls_q := [.ref 41, .int x1]) (st_q := [.ref 41]) rfl rfl rfl ?_
          refine ex_getK pm_M190 (pc_q := 11) (j := 35) (b := 52) rfl rfl rfl rfl rfl ?_
          refine ex_lo pm_M190 (pc_q := 12) (ls_q := [.ref 41, .int x1]) (st_q := [.int x1, .ref 52]) rfl rfl rfl ?_
          refine ex_op pm_M190 (pc_q := 13) (st_q := [.int (-1), .int x1, .ref 52]) rfl rfl rfl ?_
          refine ex_iast pm_M190 (pc_q := 14) rfl rfl ?_
          refine ex_lo pm_M190 (pc_q := 17) (ls_q := [.ref 41, .int (x1 + 1)]) (st_q := []) rfl rfl rfl ?_
          refine ex_goS pm_M190 (pc_q := 2) (st_q := []) rfl rfl ?_
          exact ih2 (x1 + 1) (ex_sx T 52 x1.toNatClampNeg (-1)) (v2 S x1 T hI c1)
      exact L2
  have L2 := LL N
  refine ex_op pm_M190 (pc_q := 1) (st_q := [.int 0]) rfl rfl rfl ?_
  refine ex_lo pm_M190 (pc_q := 2) (ls_q := [.ref 41, .int 0]) (st_q := []) rfl rfl rfl ?_
  exact L2 0 S (v0 S)
set_option maxRecDepth 100000 in
set_option maxHeartbeats 4000000 in
/-- SilentTableModel.seat -/
theorem ev191 {C : Int32 → Int32 → ex_S → Int32 → ex_S → Prop} {C183 : Int32 → Int32 → Int32 → ex_S → Int32 → ex_S → Prop} (H183 : es183 C183) 
    (v0 : ∀ (a0 : Int32) (a1 : Int32) (S : ex_S) (r2 : Int32) (S3 : ex_S), C183 a0 5 a1 S r2 S3 → r2 = 0 → C a0 a1 S r2 (ex_sx S3 41 21 (S3.1 41 21))) 
    (v1 : ∀ (a0 : Int32) (a1 : Int32) (S : ex_S) (r2 : Int32) (S3 : ex_S), C183 a0 5 a1 S r2 S3 → ¬ (r2 = 0) → S3.1 52 a0.toNatClampNeg ≤ S3.1 41 21 → C a0 a1 S r2 (ex_sx S3 41 21 (S3.1 41 21))) 
    (v2 : ∀ (a0 : Int32) (a1 : Int32) (S : ex_S) (r2 : Int32) (S3 : ex_S), C183 a0 5 a1 S r2 S3 → ¬ (r2 = 0) → ¬ (S3.1 52 a0.toNatClampNeg ≤ S3.1 41 21) → C a0 a1 S r2 (ex_sx S3 41 21 (S3.1 52 a0.toNatClampNeg))) : es191 C := by
  intro N d a0 a1 S
  refine ex_lo pm_M191 (pc_q := 1) (ls_q := [.ref 41, .int a0, .int a1, pm_no]) (st_q := [.ref 41]) rfl rfl rfl ?_
  refine ex_lo pm_M191 (pc_q := 2) (ls_q := [.ref 41, .int a0, .int a1, pm_no]) (st_q := [.int a0, .ref 41]) rfl rfl rfl ?_
  refine ex_op pm_M191 (pc_q := 3) (st_q := [.int 5, .int a0, .ref 41]) rfl rfl rfl ?_
  refine ex_lo pm_M191 (pc_q := 4) (ls_q := [.ref 41, .int a0, .int a1, pm_no]) (st_q := [.int a1, .int 5, .int a0, .ref 41]) rfl rfl rfl ?_
  refine ex_call pm_M191 (pc_q := 7) (ix := 183) (callee := 183) (np := 3) (kd := 0) (ra := [.int a1, .int 5, .int a0, .ref 41]) (rest := []) rfl rfl rfl rfl pm_M183 rfl rfl rfl rfl (fun d1 => (H183 _ d1 a0 5 a1 S).mono (fun r S3 e => ?_))
  obtain ⟨r2, rfl, h4⟩ := e
  show ex_P _ _ 191 7 [.ref 41, .int a0, .int a1, pm_no] [.int r2] S3 _
  refine ex_lo pm_M191 (pc_q := 8) (ls_q := [.ref 41, .int a0, .int a1, .int r2]) (st_q := []) rfl rfl rfl ?_
  refine ex_lo pm_M191 (pc_q := 9) (ls_q := [.ref 41, .int a0, .int a1, .int r2]) (st_q := [.ref 41]) rfl rfl rfl ?_
  refine ex_lo pm_M191 (pc_q := 10) (ls_q := [.ref 41, .int a0, .int a1, .int r2]) (st_q := [.int r2, .ref 41]) rfl rfl rfl ?_
  refine ex_ifc pm_M191 (t := 35) (pc_q := 13) rfl rfl rfl (fun c5 => ?_) (fun c5 => ?_)
  · -- r2 = 0
    refine ex_lo pm_M191 (pc_q := 36) (ls_q := [.ref 41, .int a0, .int a1, .int r2]) (st_q := [.ref 41, .ref 41]) rfl rfl rfl ?_
    refine ex_getI' pm_M191 (pc_q := 39) (v := S3.1 41 21) rfl rfl rfl rfl rfl rfl ?_
    refine ex_putI pm_M191 (pc_q := 42) rfl rfl rfl rfl rfl ?_
    refine ex_lo pm_M191 (pc_q := 43) (ls_q := [.ref 41, .int a0, .int a1, .int r2]) (st_q := [.int r2]) rfl rfl rfl ?_
    exact ex_retI pm_M191 rfl (⟨_, rfl, v0 a0 a1 S r2 S3 h4 c5⟩)
  · -- not
    refine ex_lo pm_M191 (pc_q := 14) (ls_q := [.ref 41, .int a0, .int a1, .int r2]) (st_q := [.ref 41, .ref 41]) rfl rfl rfl ?_
    refine ex_getK pm_M191 (pc_q := 17) (j := 35) (b := 52) rfl rfl rfl rfl rfl ?_
    refine ex_lo pm_M191 (pc_q := 18) (ls_q := [.ref 41, .int a0, .int a1, .int r2]) (st_q := [.int a0, .ref 52, .ref 41]) rfl rfl rfl ?_
    refine ex_iald' pm_M191 (pc_q := 19) (v := S3.1 52 a0.toNatClampNeg) rfl rfl rfl ?_
    refine ex_lo pm_M191 (pc_q := 20) (ls_q := [.ref 41, .int a0, .int a1, .int r2]) (st_q := [.ref 41, .int (S3.1 52 a0.toNatClampNeg), .ref 41]) rfl rfl rfl ?_
    refine ex_getI' pm_M191 (pc_q := 23) (v := S3.1 41 21) rfl rfl rfl rfl rfl rfl ?_
    refine ex_icmp pm_M191 (t := 35) (pc_q := 26) rfl rfl rfl (fun c6 => ?_) (fun c6 => ?_)
    · -- S3.1 52 a0.toNatClampNeg ≤ S3.1 41 21
      refine ex_lo pm_M191 (pc_q := 36) (ls_q := [.ref 41, .int a0, .int a1, .int r2]) (st_q := [.ref 41, .ref 41]) rfl rfl rfl ?_
      refine ex_getI' pm_M191 (pc_q := 39) (v := S3.1 41 21) rfl rfl rfl rfl rfl rfl ?_
      refine ex_putI pm_M191 (pc_q := 42) rfl rfl rfl rfl rfl ?_
      refine ex_lo pm_M191 (pc_q := 43) (ls_q := [.ref 41, .int a0, .int a1, .int r2]) (st_q := [.int r2]) rfl rfl rfl ?_
      exact ex_retI pm_M191 rfl (⟨_, rfl, v1 a0 a1 S r2 S3 h4 c5 c6⟩)
    · -- not
      refine ex_lo pm_M191 (pc_q := 27) (ls_q := [.ref 41, .int a0, .int a1, .int r2]) (st_q := [.ref 41, .ref 41]) rfl rfl rfl ?_
      refine ex_getK pm_M191 (pc_q := 30) (j := 35) (b := 52) rfl rfl rfl rfl rfl ?_
      refine ex_lo pm_M191 (pc_q := 31) (ls_q := [.ref 41, .int a0, .int a1, .int r2]) (st_q := [.int a0, .ref 52, .ref 41]) rfl rfl rfl ?_
      refine ex_iald' pm_M191 (pc_q := 32) (v := S3.1 52 a0.toNatClampNeg) rfl rfl rfl ?_
      refine ex_br pm_M191 (pc_q := 39) (st_q := [.int (S3.1 52 a0.toNatClampNeg), .ref 41]) rfl rfl ?_
      refine ex_putI pm_M191 (pc_q := 42) rfl rfl rfl rfl rfl ?_
      refine ex_lo pm_M191 (pc_q := 43) (ls_q := [.ref 41, .int a0, .int a1, .int r2]) (st_q := [.int r2]) rfl rfl rfl ?_
      exact ex_retI pm_M191 rfl (⟨_, rfl, v2 a0 a1 S r2 S3 h4 c5 c6⟩)
set_option maxRecDepth 100000 in
set_option maxHeartbeats 4000000 in
/-- SilentTableModel.mealLine -/
theorem ev189 {C : Int64 → Int32 → ex_S → Int32 → ex_S → Prop} {C179 : ex_S → ex_S → Prop} {C182 : Int32 → Int32 → ex_S → ex_S → Prop} {C183 : Int32 → Int32 → Int32 → ex_S → Int32 → ex_S → Prop} {C184 : ex_S → Int32 → ex_S → Prop} {C185 : Int32 → Int32 → Int32 → Int32 → Int32 → ex_S → ex_S → Prop} {C190 : ex_S → ex_S → Prop} {C191 : Int32 → Int32 → ex_S → Int32 → ex_S → Prop} {I62 : Int64 → Int32 → ex_S → ex_S → Prop} {I98 : Int64 → Int32 → ex_S → ex_S → Prop} {I172 : Int64 → Int32 → ex_S → ex_S → Prop} {I226 : Int64 → Int32 → ex_S → ex_S → Prop} (H179 : es179 C179) (H182 : es182 C182) (H183 : es183 C183) (H184 : es184 C184) (H185 : es185 C185) (H190 : es190 C190) (H191 : es191 C191) 
    (v0 : ∀ (a0 : Int64) (a1 : Int32) (S : ex_S), lg_cmp a0 495622124659 = 0 → I62 a0 a1 S S) 
    (v1 : ∀ (a0 : Int64) (a1 : Int32) (S : ex_S), ¬ (lg_cmp a0 495622124659 = 0) → lg_cmp a0 1819242347 = 0 → ¬ S.1 51 1 = 50 → I62 a0 a1 S S) 
    (v2 : ∀ (a0 : Int64) (a1 : Int32) (S : ex_S), ¬ (lg_cmp a0 495622124659 = 0) → lg_cmp a0 1819242347 = 0 → ¬ (¬ S.1 51 1 = 50) → ∀ (S8 : ex_S), C182 3 a1 S S8 → I62 a0 a1 S S8) 
    (v3 : ∀ (a0 : Int64) (a1 : Int32) (S : ex_S), ¬ (lg_cmp a0 495622124659 = 0) → ¬ (lg_cmp a0 1819242347 = 0) → lg_cmp a0 1635213689 = 0 → ¬ S.1 51 1 = 50 → I62 a0 a1 S S) 
    (v4 : ∀ (a0 : Int64) (a1 : Int32) (S : ex_S), ¬ (lg_cmp a0 495622124659 = 0) → ¬ (lg_cmp a0 1819242347 = 0) → lg_cmp a0 1635213689 = 0 → ¬ (¬ S.1 51 1 = 50) → ∀ (S15 : ex_S), C182 3 a1 S S15 → I62 a0 a1 S S15) 
    (v5 : ∀ (a0 : Int64) (a1 : Int32) (S : ex_S), ¬ (lg_cmp a0 495622124659 = 0) → ¬ (lg_cmp a0 1819242347 = 0) → ¬ (lg_cmp a0 1635213689 = 0) → lg_cmp a0 1935767923 = 0 → ¬ S.1 51 1 = 50 → I62 a0 a1 S S) 
    (v6 : ∀ (a0 : Int64) (a1 : Int32) (S : ex_S), ¬ (lg_cmp a0 495622124659 = 0) → ¬ (lg_cmp a0 1819242347 = 0) → ¬ (lg_cmp a0 1635213689 = 0) → lg_cmp a0 1935767923 = 0 → ¬ (¬ S.1 51 1 = 50) → ∀ (S22 : ex_S), C182 3 a1 S S22 → I62 a0 a1 S S22) 
    (v7 : ∀ (a0 : Int64) (a1 : Int32) (S : ex_S), ¬ (lg_cmp a0 495622124659 = 0) → ¬ (lg_cmp a0 1819242347 = 0) → ¬ (lg_cmp a0 1635213689 = 0) → ¬ (lg_cmp a0 1935767923 = 0) → ∀ (r25 : Int32) (S26 : ex_S), C184 S r25 S26 → C a0 a1 S r25 S26) 
    (v8 : ∀ (a0 : Int64) (a1 : Int32) (S : ex_S) (T : ex_S), I62 a0 a1 S T → ∀ (S30 : ex_S), C179 T S30 → ¬ lg_cmp a0 495622124659 = 0 → ∀ (S35 : ex_S), C190 S30 S35 → ¬ lg_cmp a0 1819242347 = 0 → ¬ lg_cmp a0 1635213689 = 0 → I172 a0 a1 S (ex_sx S35 52 0 2)) 
    (v9 : ∀ (a0 : Int64) (a1 : Int32) (S : ex_S) (T : ex_S), I62 a0 a1 S T → ∀ (S30 : ex_S), C179 T S30 → ¬ lg_cmp a0 495622124659 = 0 → ∀ (S35 : ex_S), C190 S30 S35 → ¬ lg_cmp a0 1819242347 = 0 → ¬ (¬ lg_cmp a0 1635213689 = 0) → I172 a0 a1 S (ex_sx S35 52 0 1)) 
    (v10 : ∀ (a0 : Int64) (a1 : Int32) (S : ex_S) (T : ex_S), I62 a0 a1 S T → ∀ (S30 : ex_S), C179 T S30 → ¬ lg_cmp a0 495622124659 = 0 → ∀ (S35 : ex_S), C190 S30 S35 → ¬ (¬ lg_cmp a0 1819242347 = 0) → I172 a0 a1 S (ex_sx S35 52 0 0)) 
    (v11 : ∀ (a0 : Int64) (a1 : Int32) (S : ex_S) (T : ex_S), I62 a0 a1 S T → ∀ (S30 : ex_S), C179 T S30 → ¬ (¬ lg_cmp a0 495622124659 = 0) → ¬ S30.1 41 13 = 3 → I98 a0 a1 S S30) 
    (v12 : ∀ (a0 : Int64) (a1 : Int32) (S : ex_S) (T : ex_S), I62 a0 a1 S T → ∀ (S30 : ex_S), C179 T S30 → ¬ (¬ lg_cmp a0 495622124659 = 0) → ¬ (¬ S30.1 41 13 = 3) → ¬ S30.1 41 14 = 0 → I98 a0 a1 S S30) 
    (v13 : ∀ (a0 : Int64) (a1 : Int32) (S : ex_S) (T : ex_S), I62 a0 a1 S T → ∀ (S30 : ex_S), C179 T S30 → ¬ (¬ lg_cmp a0 495622124659 = 0) → ¬ (¬ S30.1 41 13 = 3) → ¬ (¬ S30.1 41 14 = 0) → ∀ (S43 : ex_S), C182 2 (S30.1 41 12) S30 S43 → I98 a0 a1 S S43) 
    (v14 : ∀ (a0 : Int64) (a1 : Int32) (S : ex_S) (T : ex_S), I172 a0 a1 S T → ∀ (r46 : Int32) (S47 : ex_S), C191 1 (-1) T r46 S47 → ¬ r46 = 0 → ¬ lg_cmp a0 1819242347 = 0 → ¬ lg_cmp a0 1935767923 = 0 → I226 a0 a1 S S47) 
    (v15 : ∀ (a0 : Int64) (a1 : Int32) (S : ex_S) (T : ex_S), I172 a0 a1 S T → ∀ (r46 : Int32) (S47 : ex_S), C191 1 (-1) T r46 S47 → ¬ r46 = 0 → ¬ lg_cmp a0 1819242347 = 0 → ¬ (¬ lg_cmp a0 1935767923 = 0) → ∀ (r53 : Int32) (S54 : ex_S), C183 2 9 (-1) S47 r53 S54 → ¬ r53 = 0 → I226 a0 a1 S S54) 
    (v16 : ∀ (a0 : Int64) (a1 : Int32) (S : ex_S) (T : ex_S), I172 a0 a1 S T → ∀ (r46 : Int32) (S47 : ex_S), C191 1 (-1) T r46 S47 → ¬ r46 = 0 → ¬ lg_cmp a0 1819242347 = 0 → ¬ (¬ lg_cmp a0 1935767923 = 0) → ∀ (r53 : Int32) (S54 : ex_S), C183 2 9 (-1) S47 r53 S54 → ¬ (¬ r53 = 0) → C a0 a1 S 0 S54) 
    (v17 : ∀ (a0 : Int64) (a1 : Int32) (S : ex_S) (T : ex_S), I172 a0 a1 S T → ∀ (r46 : Int32) (S47 : ex_S), C191 1 (-1) T r46 S47 → ¬ r46 = 0 → ¬ (¬ lg_cmp a0 1819242347 = 0) → ∀ (r58 : Int32) (S59 : ex_S), C191 2 (S47.1 52 1) S47 r58 S59 → r58 = 0 → C a0 a1 S 0 S59) 
    (v18 : ∀ (a0 : Int64) (a1 : Int32) (S : ex_S) (T : ex_S), I172 a0 a1 S T → ∀ (r46 : Int32) (S47 : ex_S), C191 1 (-1) T r46 S47 → ¬ r46 = 0 → ¬ (¬ lg_cmp a0 1819242347 = 0) → ∀ (r58 : Int32) (S59 : ex_S), C191 2 (S47.1 52 1) S47 r58 S59 → ¬ (r58 = 0) → ¬ lg_cmp a0 1935767923 = 0 → I226 a0 a1 S S59) 
    (v19 : ∀ (a0 : Int64) (a1 : Int32) (S : ex_S) (T : ex_S), I172 a0 a1 S T → ∀ (r46 : Int32) (S47 : ex_S), C191 1 (-1) T r46 S47 → ¬ r46 = 0 → ¬ (¬ lg_cmp a0 1819242347 = 0) → ∀ (r58 : Int32) (S59 : ex_S), C191 2 (S47.1 52 1) S47 r58 S59 → ¬ (r58 = 0) → ¬ (¬ lg_cmp a0 1935767923 = 0) → ∀ (r64 : Int32) (S65 : ex_S), C183 2 9 (-1) S59 r64 S65 → ¬ r64 = 0 → I226 a0 a1 S S65) 
    (v20 : ∀ (a0 : Int64) (a1 : Int32) (S : ex_S) (T : ex_S), I172 a0 a1 S T → ∀ (r46 : Int32) (S47 : ex_S), C191 1 (-1) T r46 S47 → ¬ r46 = 0 → ¬ (¬ lg_cmp a0 1819242347 = 0) → ∀ (r58 : Int32) (S59 : ex_S), C191 2 (S47.1 52 1) S47 r58 S59 → ¬ (r58 = 0) → ¬ (¬ lg_cmp a0 1935767923 = 0) → ∀ (r64 : Int32) (S65 : ex_S), C183 2 9 (-1) S59 r64 S65 → ¬ (¬ r64 = 0) → C a0 a1 S 0 S65) 
    (v21 : ∀ (a0 : Int64) (a1 : Int32) (S : ex_S) (T : ex_S), I172 a0 a1 S T → ∀ (r46 : Int32) (S47 : ex_S), C191 1 (-1) T r46 S47 → ¬ (¬ r46 = 0) → C a0 a1 S 0 S47) 
    (v22 : ∀ (a0 : Int64) (a1 : Int32) (S : ex_S) (T : ex_S), I98 a0 a1 S T → ∀ (r69 : Int32) (S70 : ex_S), C183 0 6 (-1) T r69 S70 → r69 = 0 → C a0 a1 S r69 (ex_sx S70 51 0 (S70.1 51 0))) 
    (v23 : ∀ (a0 : Int64) (a1 : Int32) (S : ex_S) (T : ex_S), I98 a0 a1 S T → ∀ (r69 : Int32) (S70 : ex_S), C183 0 6 (-1) T r69 S70 → ¬ (r69 = 0) → C a0 a1 S r69 (ex_sx S70 51 0 (S70.1 52 0))) 
    (v24 : ∀ (a0 : Int64) (a1 : Int32) (S : ex_S) (T : ex_S), I226 a0 a1 S T → ∀ (S75 : ex_S), C185 1 2 3 50 0 T S75 → C a0 a1 S 1 S75) : es189 C := by
  intro N d a0 a1 S
  have LL : ∀ N : Nat, (∀ (g4 : Value) (T : ex_S), g4.category = 1 → I226 a0 a1 S T → ex_P N d 189 226 [.ref 41, .long a0, pm_no, .int a1, g4] [] T (fun r S_q => ∃ v, r = some (.int v) ∧ C a0 a1 S v S_q)) ∧ (∀ (g4 : Value) (T : ex_S), g4.category = 1 → I172 a0 a1 S T → ex_P N d 189 172 [.ref 41, .long a0, pm_no, .int a1, g4] [] T (fun r S_q => ∃ v, r = some (.int v) ∧ C a0 a1 S v S_q)) ∧ (∀ (g4 : Value) (T : ex_S), g4.category = 1 → I98 a0 a1 S T → ex_P N d 189 98 [.ref 41, .long a0, pm_no, .int a1, g4] [] T (fun r S_q => ∃ v, r = some (.int v) ∧ C a0 a1 S v S_q)) ∧ (∀ (g4 : Value) (T : ex_S), g4.category = 1 → I62 a0 a1 S T → ex_P N d 189 62 [.ref 41, .long a0, pm_no, .int a1, g4] [] T (fun r S_q => ∃ v, r = some (.int v) ∧ C a0 a1 S v S_q)) := by
    intro N
    induction N with
    | zero => exact ⟨fun _ _ _ _ => ex_zero, fun _ _ _ _ => ex_zero, fun _ _ _ _ => ex_zero, fun _ _ _ _ => ex_zero⟩
    | succ N ih =>
      obtain ⟨ih226, ih172, ih98, ih62⟩ := ih
      have L226 : ∀ (g4 : Value) (T : ex_S), g4.category = 1 → I226 a0 a1 S T → ex_P (N + 1) d 189 226 [.ref 41, .long a0, pm_no, .int a1, g4] [] T (fun r S_q => ∃ v, r = some (.int v) ∧ C a0 a1 S v S_q) := by
        intro g4 T hg4 hI
        refine ex_lo pm_M189 (pc_q := 227) (ls_q := [.ref 41, .long a0, pm_no, .int a1, g4]) (st_q := [.ref 41]) rfl rfl rfl ?_
        refine ex_op pm_M189 (pc_q := 228) (st_q := [.int 1, .ref 41]) rfl rfl rfl ?_
        refine ex_op pm_M189 (pc_q := 229) (st_q := [.int 2, .int 1, .ref 41]) rfl rfl rfl ?_
        refine ex_op pm_M189 (pc_q := 230) (st_q := [.int 3, .int 2, .int 1, .ref 41]) rfl rfl rfl ?_
        refine ex_op pm_M189 (pc_q := 232) (st_q := [.int 50, .int 3, .int 2, .int 1, .ref 41]) rfl rfl rfl ?_
        refine ex_op pm_M189 (pc_q := 233) (st_q := [.int 0, .int 50, .int 3, .int 2, .int 1, .ref 41]) rfl rfl rfl ?_
        refine ex_call pm_M189 (pc_q := 236) (ix := 189) (callee := 185) (np := 5) (kd := 0) (ra := [.int 0, .int 50, .int 3, .int 2, .int 1, .ref 41]) (rest := []) rfl rfl rfl rfl pm_M185 rfl rfl rfl rfl (fun d73 => (H185 _ d73 1 2 3 50 0 T).mono (fun r S75 e => ?_))
        obtain ⟨rfl, h76⟩ := e
        show ex_P _ _ 189 236 [.ref 41, .long a0, pm_no, .int a1, g4] [] S75 _
        refine ex_op pm_M189 (pc_q := 237) (st_q := [.int 1]) rfl rfl rfl ?_
        exact ex_retI pm_M189 rfl (⟨_, rfl, v24 a0 a1 S T hI S75 h76⟩)
      have L172 : ∀ (g4 : Value) (T : ex_S), g4.category = 1 → I172 a0 a1 S T → ex_P (N + 1) d 189 172 [.ref 41, .long a0, pm_no, .int a1, g4] [] T (fun r S_q => ∃ v, r = some (.int v) ∧ C a0 a1 S v S_q) := by
        intro g4 T hg4 hI
        refine ex_lo pm_M189 (pc_q := 173) (ls_q := [.ref 41, .long a0, pm_no, .int a1, g4]) (st_q := [.ref 41]) rfl rfl rfl ?_
        refine ex_op pm_M189 (pc_q := 174) (st_q := [.int 1, .ref 41]) rfl rfl rfl ?_
        refine ex_op pm_M189 (pc_q := 175) (st_q := [.int (-1), .int 1, .ref 41]) rfl rfl rfl ?_
        refine ex_call pm_M189 (pc_q := 178) (ix := 207) (callee := 191) (np := 2) (kd := 0) (ra := [.int (-1), .int 1, .ref 41]) (rest := []) rfl rfl rfl rfl pm_M191 rfl rfl rfl rfl (fun d45 => (H191 _ d45 1 (-1) T).mono (fun r S47 e => ?_))
        obtain ⟨r46, rfl, h48⟩ := e
        show ex_P _ _ 189 178 [.ref 41, .long a0, pm_no, .int a1, g4] [.int r46] S47 _
        refine ex_ifc pm_M189 (t := 183) (pc_q := 181) rfl rfl rfl (fun c49 => ?_) (fun c49 => ?_)
        · -- ¬ r46 = 0
          refine ex_lo pm_M189 (pc_q := 184) (ls_q := [.ref 41, .long a0, pm_no, .int a1, g4]) (st_q := [.long a0]) rfl rfl rfl ?_
          refine ex_ldc2 pm_M189 (pc_q := 187) (x := 1819242347) rfl rfl rfl ?_
          refine ex_op pm_M189 (pc_q := 188) (st_q := [.int (lg_cmp a0 1819242347)]) rfl rfl rfl ?_
          refine ex_ifc pm_M189 (t := 205) (pc_q := 191) rfl rfl rfl (fun c50 => ?_) (fun c50 => ?_)
          · -- ¬ lg_cmp a0 1819242347 = 0
            refine ex_lo pm_M189 (pc_q := 206) (ls_q := [.ref 41, .long a0, pm_no, .int a1, g4]) (st_q := [.long a0]) rfl rfl rfl ?_
            refine ex_ldc2 pm_M189 (pc_q := 209) (x := 1935767923) rfl rfl rfl ?_
            refine ex_op pm_M189 (pc_q := 210) (st_q := [.int (lg_cmp a0 1935767923)]) rfl rfl rfl ?_
            refine ex_ifc pm_M189 (t := 226) (pc_q := 213) rfl rfl rfl (fun c51 => ?_) (fun c51 => ?_)
            · -- ¬ lg_cmp a0 1935767923 = 0
              exact L226 g4 S47 hg4 (v14 a0 a1 S T hI r46 S47 h48 c49 c50 c51)
            · -- not
              refine ex_lo pm_M189 (pc_q := 214) (ls_q := [.ref 41, .long a0, pm_no, .int a1, g4]) (st_q := [.ref 41]) rfl rfl rfl ?_
              refine ex_op pm_M189 (pc_q := 215) (st_q := [.int 2, .ref 41]) rfl rfl rfl ?_
              refine ex_op pm_M189 (pc_q := 217) (st_q := [.int 9, .int 2, .ref 41]) rfl rfl rfl ?_
              refine ex_op pm_M189 (pc_q := 218) (st_q := [.int (-1), .int 9, .int 2, .ref 41]) rfl rfl rfl ?_
              refine ex_call pm_M189 (pc_q := 221) (ix := 183) (callee := 183) (np := 3) (kd := 0) (ra := [.int (-1), .int 9, .int 2, .ref 41]) (rest := []) rfl rfl rfl rfl pm_M183 rfl rfl rfl rfl (fun d52 => (H183 _ d52 2 9 (-1) S47).mono (fun r S54 e => ?_))
              obtain ⟨r53, rfl, h55⟩ := e
              show ex_P _ _ 189 221 [.ref 41, .long a0, pm_no, .int a1, g4] [.int r53] S54 _
              refine ex_ifc pm_M189 (t := 226) (pc_q := 224) rfl rfl rfl (fun c56 => ?_) (fun c56 => ?_)
              · -- ¬ r53 = 0
                exact L226 g4 S54 hg4 (v15 a0 a1 S T hI r46 S47 h48 c49 c50 c51 r53 S54 h55 c56)
              · -- not
                refine ex_op pm_M189 (pc_q := 225) (st_q := [.int 0]) rfl rfl rfl ?_
                exact ex_retI pm_M189 rfl (⟨_, rfl, v16 a0 a1 S T hI r46 S47 h48 c49 c50 c51 r53 S54 h55 c56⟩)
          · -- not
            refine ex_lo pm_M189 (pc_q := 192) (ls_q := [.ref 41, .long a0, pm_no, .int a1, g4]) (st_q := [.ref 41]) rfl rfl rfl ?_
            refine ex_op pm_M189 (pc_q := 193) (st_q := [.int 2, .ref 41]) rfl rfl rfl ?_
            refine ex_lo pm_M189 (pc_q := 194) (ls_q := [.ref 41, .long a0, pm_no, .int a1, g4]) (st_q := [.ref 41, .int 2, .ref 41]) rfl rfl rfl ?_
            refine ex_getK pm_M189 (pc_q := 197) (j := 35) (b := 52) rfl rfl rfl rfl rfl ?_
            refine ex_op pm_M189 (pc_q := 198) (st_q := [.int 1, .ref 52, .int 2, .ref 41]) rfl rfl rfl ?_
            refine ex_iald' pm_M189 (pc_q := 199) (v := S47.1 52 1) rfl rfl rfl ?_
            refine ex_call pm_M189 (pc_q := 202) (ix := 207) (callee := 191) (np := 2) (kd := 0) (ra := [.int (S47.1 52 1), .int 2, .ref 41]) (rest := []) rfl rfl rfl rfl pm_M191 rfl rfl rfl rfl (fun d57 => (H191 _ d57 2 (S47.1 52 1) S47).mono (fun r S59 e => ?_))
            obtain ⟨r58, rfl, h60⟩ := e
            show ex_P _ _ 189 202 [.ref 41, .long a0, pm_no, .int a1, g4] [.int r58] S59 _
            refine ex_ifc pm_M189 (t := 224) (pc_q := 205) rfl rfl rfl (fun c61 => ?_) (fun c61 => ?_)
            · -- r58 = 0
              refine ex_op pm_M189 (pc_q := 225) (st_q := [.int 0]) rfl rfl rfl ?_
              exact ex_retI pm_M189 rfl (⟨_, rfl, v17 a0 a1 S T hI r46 S47 h48 c49 c50 r58 S59 h60 c61⟩)
            · -- not
              refine ex_lo pm_M189 (pc_q := 206) (ls_q := [.ref 41, .long a0, pm_no, .int a1, g4]) (st_q := [.long a0]) rfl rfl rfl ?_
              refine ex_ldc2 pm_M189 (pc_q := 209) (x := 1935767923) rfl rfl rfl ?_
              refine ex_op pm_M189 (pc_q := 210) (st_q := [.int (lg_cmp a0 1935767923)]) rfl rfl rfl ?_
              refine ex_ifc pm_M189 (t := 226) (pc_q := 213) rfl rfl rfl (fun c62 => ?_) (fun c62 => ?_)
              · -- ¬ lg_cmp a0 1935767923 = 0
                exact L226 g4 S59 hg4 (v18 a0 a1 S T hI r46 S47 h48 c49 c50 r58 S59 h60 c61 c62)
              · -- not
                refine ex_lo pm_M189 (pc_q := 214) (ls_q := [.ref 41, .long a0, pm_no, .int a1, g4]) (st_q := [.ref 41]) rfl rfl rfl ?_
                refine ex_op pm_M189 (pc_q := 215) (st_q := [.int 2, .ref 41]) rfl rfl rfl ?_
                refine ex_op pm_M189 (pc_q := 217) (st_q := [.int 9, .int 2, .ref 41]) rfl rfl rfl ?_
                refine ex_op pm_M189 (pc_q := 218) (st_q := [.int (-1), .int 9, .int 2, .ref 41]) rfl rfl rfl ?_
                refine ex_call pm_M189 (pc_q := 221) (ix := 183) (callee := 183) (np := 3) (kd := 0) (ra := [.int (-1), .int 9, .int 2, .ref 41]) (rest := []) rfl rfl rfl rfl pm_M183 rfl rfl rfl rfl (fun d63 => (H183 _ d63 2 9 (-1) S59).mono (fun r S65 e => ?_))
                obtain ⟨r64, rfl, h66⟩ := e
                show ex_P _ _ 189 221 [.ref 41, .long a0, pm_no, .int a1, g4] [.int r64] S65 _
                refine ex_ifc pm_M189 (t := 226) (pc_q := 224) rfl rfl rfl (fun c67 => ?_) (fun c67 => ?_)
                · -- ¬ r64 = 0
                  exact L226 g4 S65 hg4 (v19 a0 a1 S T hI r46 S47 h48 c49 c50 r58 S59 h60 c61 c62 r64 S65 h66 c67)
                · -- not
                  refine ex_op pm_M189 (pc_q := 225) (st_q := [.int 0]) rfl rfl rfl ?_
                  exact ex_retI pm_M189 rfl (⟨_, rfl, v20 a0 a1 S T hI r46 S47 h48 c49 c50 r58 S59 h60 c61 c62 r64 S65 h66 c67⟩)
        · -- not
          refine ex_op pm_M189 (pc_q := 182) (st_q := [.int 0]) rfl rfl rfl ?_
          exact ex_retI pm_M189 rfl (⟨_, rfl, v21 a0 a1 S T hI r46 S47 h48 c49⟩)
      have L98 : ∀ (g4 : Value) (T : ex_S), g4.category = 1 → I98 a0 a1 S T → ex_P (N + 1) d 189 98 [.ref 41, .long a0, pm_no, .int a1, g4] [] T (fun r S_q => ∃ v, r = some (.int v) ∧ C a0 a1 S v S_q) := by
        intro g4 T hg4 hI
        refine ex_lo pm_M189 (pc_q := 99) (ls_q := [.ref 41, .long a0, pm_no, .int a1, g4]) (st_q := [.ref 41]) rfl rfl rfl ?_
        refine ex_op pm_M189 (pc_q := 100) (st_q := [.int 0, .ref 41]) rfl rfl rfl ?_
        refine ex_op pm_M189 (pc_q := 102) (st_q := [.int 6, .int 0, .ref 41]) rfl rfl rfl ?_
        refine ex_op pm_M189 (pc_q := 103) (st_q := [.int (-1), .int 6, .int 0, .ref 41]) rfl rfl rfl ?_
        refine ex_call pm_M189 (pc_q := 106) (ix := 183) (callee := 183) (np := 3) (kd := 0) (ra := [.int (-1), .int 6, .int 0, .ref 41]) (rest := []) rfl rfl rfl rfl pm_M183 rfl rfl rfl rfl (fun d68 => (H183 _ d68 0 6 (-1) T).mono (fun r S70 e => ?_))
        obtain ⟨r69, rfl, h71⟩ := e
        show ex_P _ _ 189 106 [.ref 41, .long a0, pm_no, .int a1, g4] [.int r69] S70 _
        refine ex_lo pm_M189 (pc_q := 108) (ls_q := [.ref 41, .long a0, pm_no, .int a1, .int r69]) (st_q := []) rfl rfl rfl ?_
        refine ex_lo pm_M189 (pc_q := 109) (ls_q := [.ref 41, .long a0, pm_no, .int a1, .int r69]) (st_q := [.ref 41]) rfl rfl rfl ?_
        refine ex_getK pm_M189 (pc_q := 112) (j := 34) (b := 51) rfl rfl rfl rfl rfl ?_
        refine ex_op pm_M189 (pc_q := 113) (st_q := [.int 0, .ref 51]) rfl rfl rfl ?_
        refine ex_lo pm_M189 (pc_q := 115) (ls_q := [.ref 41, .long a0, pm_no, .int a1, .int r69]) (st_q := [.int r69, .int 0, .ref 51]) rfl rfl rfl ?_
        refine ex_ifc pm_M189 (t := 127) (pc_q := 118) rfl rfl rfl (fun c72 => ?_) (fun c72 => ?_)
        · -- r69 = 0
          refine ex_lo pm_M189 (pc_q := 128) (ls_q := [.ref 41, .long a0, pm_no, .int a1, .int r69]) (st_q := [.ref 41, .int 0, .ref 51]) rfl rfl rfl ?_
          refine ex_getK pm_M189 (pc_q := 131) (j := 34) (b := 51) rfl rfl rfl rfl rfl ?_
          refine ex_op pm_M189 (pc_q := 132) (st_q := [.int 0, .ref 51, .int 0, .ref 51]) rfl rfl rfl ?_
          refine ex_iald' pm_M189 (pc_q := 133) (v := S70.1 51 0) rfl rfl rfl ?_
          refine ex_iast pm_M189 (pc_q := 134) rfl rfl ?_
          show ex_P _ _ 189 134 [.ref 41, .long a0, pm_no, .int a1, .int r69] [] (ex_sx S70 51 0 (S70.1 51 0)) _
          refine ex_lo pm_M189 (pc_q := 136) (ls_q := [.ref 41, .long a0, pm_no, .int a1, .int r69]) (st_q := [.int r69]) rfl rfl rfl ?_
          exact ex_retI pm_M189 rfl (⟨_, rfl, v22 a0 a1 S T hI r69 S70 h71 c72⟩)
        · -- not
          refine ex_lo pm_M189 (pc_q := 119) (ls_q := [.ref 41, .long a0, pm_no, .int a1, .int r69]) (st_q := [.ref 41, .int 0, .ref 51]) rfl rfl rfl ?_
          refine ex_getK pm_M189 (pc_q := 122) (j := 35) (b := 52) rfl rfl rfl rfl rfl ?_
          refine ex_op pm_M189 (pc_q := 123) (st_q := [.int 0, .ref 52, .int 0, .ref 51]) rfl rfl rfl ?_
          refine ex_iald' pm_M189 (pc_q := 124) (v := S70.1 52 0) rfl rfl rfl ?_
          refine ex_br pm_M189 (pc_q := 133) (st_q := [.int (S70.1 52 0), .int 0, .ref 51]) rfl rfl ?_
          refine ex_iast pm_M189 (pc_q := 134) rfl rfl ?_
          show ex_P _ _ 189 134 [.ref 41, .long a0, pm_no, .int a1, .int r69] [] (ex_sx S70 51 0 (S70.1 52 0)) _
          refine ex_lo pm_M189 (pc_q := 136) (ls_q := [.ref 41, .long a0, pm_no, .int a1, .int r69]) (st_q := [.int r69]) rfl rfl rfl ?_
          exact ex_retI pm_M189 rfl (⟨_, rfl, v23 a0 a1 S T hI r69 S70 h71 c72⟩)
      have L62 : ∀ (g4 : Value) (T : ex_S), g4.category = 1 → I62 a0 a1 S T → ex_P (N + 1) d 189 62 [.ref 41, .long a0, pm_no, .int a1, g4] [] T (fun r S_q => ∃ v, r = some (.int v) ∧ C a0 a1 S v S_q) := by
        intro g4 T hg4 hI
        refine ex_lo pm_M189 (pc_q := 63) (ls_q := [.ref 41, .long a0, pm_no, .int a1, g4]) (st_q := [.ref 41]) rfl rfl rfl ?_
        refine ex_call pm_M189 (pc_q := 66) (ix := 164) (callee := 179) (np := 0) (kd := 0) (ra := [.ref 41]) (rest := []) rfl rfl rfl rfl pm_M179 rfl rfl rfl rfl (fun d28 => (H179 _ d28 T).mono (fun r S30 e => ?_))
        obtain ⟨rfl, h31⟩ := e
        show ex_P _ _ 189 66 [.ref 41, .long a0, pm_no, .int a1, g4] [] S30 _
        refine ex_lo pm_M189 (pc_q := 67) (ls_q := [.ref 41, .long a0, pm_no, .int a1, g4]) (st_q := [.long a0]) rfl rfl rfl ?_
        refine ex_ldc2 pm_M189 (pc_q := 70) (x := 495622124659) rfl rfl rfl ?_
        refine ex_op pm_M189 (pc_q := 71) (st_q := [.int (lg_cmp a0 495622124659)]) rfl rfl rfl ?_
        refine ex_ifc pm_M189 (t := 137) (pc_q := 74) rfl rfl rfl (fun c32 => ?_) (fun c32 => ?_)
        · -- ¬ lg_cmp a0 495622124659 = 0
          refine ex_lo pm_M189 (pc_q := 138) (ls_q := [.ref 41, .long a0, pm_no, .int a1, g4]) (st_q := [.ref 41]) rfl rfl rfl ?_
          refine ex_call pm_M189 (pc_q := 141) (ix := 204) (callee := 190) (np := 0) (kd := 0) (ra := [.ref 41]) (rest := []) rfl rfl rfl rfl pm_M190 rfl rfl rfl rfl (fun d33 => (H190 _ d33 S30).mono (fun r S35 e => ?_))
          obtain ⟨rfl, h36⟩ := e
          show ex_P _ _ 189 141 [.ref 41, .long a0, pm_no, .int a1, g4] [] S35 _
          refine ex_lo pm_M189 (pc_q := 142) (ls_q := [.ref 41, .long a0, pm_no, .int a1, g4]) (st_q := [.ref 41]) rfl rfl rfl ?_
          refine ex_getK pm_M189 (pc_q := 145) (j := 35) (b := 52) rfl rfl rfl rfl rfl ?_
          refine ex_op pm_M189 (pc_q := 146) (st_q := [.int 0, .ref 52]) rfl rfl rfl ?_
          refine ex_lo pm_M189 (pc_q := 147) (ls_q := [.ref 41, .long a0, pm_no, .int a1, g4]) (st_q := [.long a0, .int 0, .ref 52]) rfl rfl rfl ?_
          refine ex_ldc2 pm_M189 (pc_q := 150) (x := 1819242347) rfl rfl rfl ?_
          refine ex_op pm_M189 (pc_q := 151) (st_q := [.int (lg_cmp a0 1819242347), .int 0, .ref 52]) rfl rfl rfl ?_
          refine ex_ifc pm_M189 (t := 158) (pc_q := 154) rfl rfl rfl (fun c37 => ?_) (fun c37 => ?_)
          · -- ¬ lg_cmp a0 1819242347 = 0
            refine ex_lo pm_M189 (pc_q := 159) (ls_q := [.ref 41, .long a0, pm_no, .int a1, g4]) (st_q := [.long a0, .int 0, .ref 52]) rfl rfl rfl ?_
            refine ex_ldc2 pm_M189 (pc_q := 162) (x := 1635213689) rfl rfl rfl ?_
            refine ex_op pm_M189 (pc_q := 163) (st_q := [.int (lg_cmp a0 1635213689), .int 0, .ref 52]) rfl rfl rfl ?_
            refine ex_ifc pm_M189 (t := 170) (pc_q := 166) rfl rfl rfl (fun c38 => ?_) (fun c38 => ?_)
            · -- ¬ lg_cmp a0 1635213689 = 0
              refine ex_op pm_M189 (pc_q := 171) (st_q := [.int 2, .int 0, .ref 52]) rfl rfl rfl ?_
              refine ex_iast pm_M189 (pc_q := 172) rfl rfl ?_
              show ex_P _ _ 189 172 [.ref 41, .long a0, pm_no, .int a1, g4] [] (ex_sx S35 52 0 2) _
              exact L172 g4 (ex_sx S35 52 0 2) hg4 (v8 a0 a1 S T hI S30 h31 c32 S35 h36 c37 c38)
            · -- not
              refine ex_op pm_M189 (pc_q := 167) (st_q := [.int 1, .int 0, .ref 52]) rfl rfl rfl ?_
              refine ex_br pm_M189 (pc_q := 171) (st_q := [.int 1, .int 0, .ref 52]) rfl rfl ?_
              refine ex_iast pm_M189 (pc_q := 172) rfl rfl ?_
              show ex_P _ _ 189 172 [.ref 41, .long a0, pm_no, .int a1, g4] [] (ex_sx S35 52 0 1) _
              exact L172 g4 (ex_sx S35 52 0 1) hg4 (v9 a0 a1 S T hI S30 h31 c32 S35 h36 c37 c38)
          · -- not
            refine ex_op pm_M189 (pc_q := 155) (st_q := [.int 0, .int 0, .ref 52]) rfl rfl rfl ?_
            refine ex_br pm_M189 (pc_q := 171) (st_q := [.int 0, .int 0, .ref 52]) rfl rfl ?_
            refine ex_iast pm_M189 (pc_q := 172) rfl rfl ?_
            show ex_P _ _ 189 172 [.ref 41, .long a0, pm_no, .int a1, g4] [] (ex_sx S35 52 0 0) _
            exact L172 g4 (ex_sx S35 52 0 0) hg4 (v10 a0 a1 S T hI S30 h31 c32 S35 h36 c37)
        · -- not
          refine ex_lo pm_M189 (pc_q := 75) (ls_q := [.ref 41, .long a0, pm_no, .int a1, g4]) (st_q := [.ref 41]) rfl rfl rfl ?_
          refine ex_getI' pm_M189 (pc_q := 78) (v := S30.1 41 13) rfl rfl rfl rfl rfl rfl ?_
          refine ex_op pm_M189 (pc_q := 79) (st_q := [.int 3, .int (S30.1 41 13)]) rfl rfl rfl ?_
          refine ex_icmp pm_M189 (t := 98) (pc_q := 82) rfl rfl rfl (fun c39 => ?_) (fun c39 => ?_)
          · -- ¬ S30.1 41 13 = 3
            exact L98 g4 S30 hg4 (v11 a0 a1 S T hI S30 h31 c32 c39)
          · -- not
            refine ex_lo pm_M189 (pc_q := 83) (ls_q := [.ref 41, .long a0, pm_no, .int a1, g4]) (st_q := [.ref 41]) rfl rfl rfl ?_
            refine ex_getI' pm_M189 (pc_q := 86) (v := S30.1 41 14) rfl rfl rfl rfl rfl rfl ?_
            refine ex_ifc pm_M189 (t := 98) (pc_q := 89) rfl rfl rfl (fun c40 => ?_) (fun c40 => ?_)
            · -- ¬ S30.1 41 14 = 0
              exact L98 g4 S30 hg4 (v12 a0 a1 S T hI S30 h31 c32 c39 c40)
            · -- not
              refine ex_lo pm_M189 (pc_q := 90) (ls_q := [.ref 41, .long a0, pm_no, .int a1, g4]) (st_q := [.ref 41]) rfl rfl rfl ?_
              refine ex_op pm_M189 (pc_q := 91) (st_q := [.int 2, .ref 41]) rfl rfl rfl ?_
              refine ex_lo pm_M189 (pc_q := 92) (ls_q := [.ref 41, .long a0, pm_no, .int a1, g4]) (st_q := [.ref 41, .int 2, .ref 41]) rfl rfl rfl ?_
              refine ex_getI' pm_M189 (pc_q := 95) (v := S30.1 41 12) rfl rfl rfl rfl rfl rfl ?_
              refine ex_call pm_M189 (pc_q := 98) (ix := 156) (callee := 182) (np := 2) (kd := 0) (ra := [.int (S30.1 41 12), .int 2, .ref 41]) (rest := []) rfl rfl rfl rfl pm_M182 rfl rfl rfl rfl (fun d41 => (H182 _ d41 2 (S30.1 41 12) S30).mono (fun r S43 e => ?_))
              obtain ⟨rfl, h44⟩ := e
              show ex_P _ _ 189 98 [.ref 41, .long a0, pm_no, .int a1, g4] [] S43 _
              exact L98 g4 S43 hg4 (v13 a0 a1 S T hI S30 h31 c32 c39 c40 S43 h44)
      exact ⟨L226, L172, L98, L62⟩
  obtain ⟨L226, L172, L98, L62⟩ := LL N
  refine ex_lo pm_M189 (pc_q := 1) (ls_q := [.ref 41, .long a0, pm_no, .int a1, pm_no]) (st_q := [.long a0]) rfl rfl rfl ?_
  refine ex_ldc2 pm_M189 (pc_q := 4) (x := 495622124659) rfl rfl rfl ?_
  refine ex_op pm_M189 (pc_q := 5) (st_q := [.int (lg_cmp a0 495622124659)]) rfl rfl rfl ?_
  refine ex_ifc pm_M189 (t := 37) (pc_q := 8) rfl rfl rfl (fun c1 => ?_) (fun c1 => ?_)
  · -- lg_cmp a0 495622124659 = 0
    refine ex_lo pm_M189 (pc_q := 38) (ls_q := [.ref 41, .long a0, pm_no, .int a1, pm_no]) (st_q := [.long a0]) rfl rfl rfl ?_
    refine ex_ldc2 pm_M189 (pc_q := 41) (x := 495622124659) rfl rfl rfl ?_
    refine ex_op pm_M189 (pc_q := 42) (st_q := [.int (lg_cmp a0 495622124659)]) rfl rfl rfl ?_
    refine ex_ifc pm_M189 (t := 62) (pc_q := 45) rfl rfl rfl (fun _ => ?_) (fun z => absurd c1 z)
    exact L62 pm_no S rfl (v0 a0 a1 S c1)
  · -- not
    refine ex_lo pm_M189 (pc_q := 9) (ls_q := [.ref 41, .long a0, pm_no, .int a1, pm_no]) (st_q := [.long a0]) rfl rfl rfl ?_
    refine ex_ldc2 pm_M189 (pc_q := 12) (x := 1819242347) rfl rfl rfl ?_
    refine ex_op pm_M189 (pc_q := 13) (st_q := [.int (lg_cmp a0 1819242347)]) rfl rfl rfl ?_
    refine ex_ifc pm_M189 (t := 37) (pc_q := 16) rfl rfl rfl (fun c3 => ?_) (fun c3 => ?_)
    · -- lg_cmp a0 1819242347 = 0
      refine ex_lo pm_M189 (pc_q := 38) (ls_q := [.ref 41, .long a0, pm_no, .int a1, pm_no]) (st_q := [.long a0]) rfl rfl rfl ?_
      refine ex_ldc2 pm_M189 (pc_q := 41) (x := 495622124659) rfl rfl rfl ?_
      refine ex_op pm_M189 (pc_q := 42) (st_q := [.int (lg_cmp a0 495622124659)]) rfl rfl rfl ?_
      refine ex_ifc pm_M189 (t := 62) (pc_q := 45) rfl rfl rfl (fun z => absurd z c1) (fun _ => ?_)
      refine ex_lo pm_M189 (pc_q := 46) (ls_q := [.ref 41, .long a0, pm_no, .int a1, pm_no]) (st_q := [.ref 41]) rfl rfl rfl ?_
      refine ex_getK pm_M189 (pc_q := 49) (j := 34) (b := 51) rfl rfl rfl rfl rfl ?_
      refine ex_op pm_M189 (pc_q := 50) (st_q := [.int 1, .ref 51]) rfl rfl rfl ?_
      refine ex_iald' pm_M189 (pc_q := 51) (v := S.1 51 1) rfl rfl rfl ?_
      refine ex_op pm_M189 (pc_q := 53) (st_q := [.int 50, .int (S.1 51 1)]) rfl rfl rfl ?_
      refine ex_icmp pm_M189 (t := 62) (pc_q := 56) rfl rfl rfl (fun c5 => ?_) (fun c5 => ?_)
      · -- ¬ S.1 51 1 = 50
        exact L62 pm_no S rfl (v1 a0 a1 S c1 c3 c5)
      · -- not
        refine ex_lo pm_M189 (pc_q := 57) (ls_q := [.ref 41, .long a0, pm_no, .int a1, pm_no]) (st_q := [.ref 41]) rfl rfl rfl ?_
        refine ex_op pm_M189 (pc_q := 58) (st_q := [.int 3, .ref 41]) rfl rfl rfl ?_
        refine ex_lo pm_M189 (pc_q := 59) (ls_q := [.ref 41, .long a0, pm_no, .int a1, pm_no]) (st_q := [.int a1, .int 3, .ref 41]) rfl rfl rfl ?_
        refine ex_call pm_M189 (pc_q := 62) (ix := 156) (callee := 182) (np := 2) (kd := 0) (ra := [.int a1, .int 3, .ref 41]) (rest := []) rfl rfl rfl rfl pm_M182 rfl rfl rfl rfl (fun d6 => (H182 _ d6 3 a1 S).mono (fun r S8 e => ?_))
        obtain ⟨rfl, h9⟩ := e
        show ex_P _ _ 189 62 [.ref 41, .long a0, pm_no, .int a1, pm_no] [] S8 _
        exact L62 pm_no S8 rfl (v2 a0 a1 S c1 c3 c5 S8 h9)
    · -- not
      refine ex_lo pm_M189 (pc_q := 17) (ls_q := [.ref 41, .long a0, pm_no, .int a1, pm_no]) (st_q := [.long a0]) rfl rfl rfl ?_
      refine ex_ldc2 pm_M189 (pc_q := 20) (x := 1635213689) rfl rfl rfl ?_
      refine ex_op pm_M189 (pc_q := 21) (st_q := [.int (lg_cmp a0 1635213689)]) rfl rfl rfl ?_
      refine ex_ifc pm_M189 (t := 37) (pc_q := 24) rfl rfl rfl (fun c10 => ?_) (fun c10 => ?_)
      · -- lg_cmp a0 1635213689 = 0
        refine ex_lo pm_M189 (pc_q := 38) (ls_q := [.ref 41, .long a0, pm_no, .int a1, pm_no]) (st_q := [.long a0]) rfl rfl rfl ?_
        refine ex_ldc2 pm_M189 (pc_q := 41) (x := 495622124659) rfl rfl rfl ?_
        refine ex_op pm_M189 (pc_q := 42) (st_q := [.int (lg_cmp a0 495622124659)]) rfl rfl rfl ?_
        refine ex_ifc pm_M189 (t := 62) (pc_q := 45) rfl rfl rfl (fun z => absurd z c1) (fun _ => ?_)
        refine ex_lo pm_M189 (pc_q := 46) (ls_q := [.ref 41, .long a0, pm_no, .int a1, pm_no]) (st_q := [.ref 41]) rfl rfl rfl ?_
        refine ex_getK pm_M189 (pc_q := 49) (j := 34) (b := 51) rfl rfl rfl rfl rfl ?_
        refine ex_op pm_M189 (pc_q := 50) (st_q := [.int 1, .ref 51]) rfl rfl rfl ?_
        refine ex_iald' pm_M189 (pc_q := 51) (v := S.1 51 1) rfl rfl rfl ?_
        refine ex_op pm_M189 (pc_q := 53) (st_q := [.int 50, .int (S.1 51 1)]) rfl rfl rfl ?_
        refine ex_icmp pm_M189 (t := 62) (pc_q := 56) rfl rfl rfl (fun c12 => ?_) (fun c12 => ?_)
        · -- ¬ S.1 51 1 = 50
          exact L62 pm_no S rfl (v3 a0 a1 S c1 c3 c10 c12)
        · -- not
          refine ex_lo pm_M189 (pc_q := 57) (ls_q := [.ref 41, .long a0, pm_no, .int a1, pm_no]) (st_q := [.ref 41]) rfl rfl rfl ?_
          refine ex_op pm_M189 (pc_q := 58) (st_q := [.int 3, .ref 41]) rfl rfl rfl ?_
          refine ex_lo pm_M189 (pc_q := 59) (ls_q := [.ref 41, .long a0, pm_no, .int a1, pm_no]) (st_q := [.int a1, .int 3, .ref 41]) rfl rfl rfl ?_
          refine ex_call pm_M189 (pc_q := 62) (ix := 156) (callee := 182) (np := 2) (kd := 0) (ra := [.int a1, .int 3, .ref 41]) (rest := []) rfl rfl rfl rfl pm_M182 rfl rfl rfl rfl (fun d13 => (H182 _ d13 3 a1 S).mono (fun r S15 e => ?_))
          obtain ⟨rfl, h16⟩ := e
          show ex_P _ _ 189 62 [.ref 41, .long a0, pm_no, .int a1, pm_no] [] S15 _
          exact L62 pm_no S15 rfl (v4 a0 a1 S c1 c3 c10 c12 S15 h16)
      · -- not
        refine ex_lo pm_M189 (pc_q := 25) (ls_q := [.ref 41, .long a0, pm_no, .int a1, pm_no]) (st_q := [.long a0]) rfl rfl rfl ?_
        refine ex_ldc2 pm_M189 (pc_q := 28) (x := 1935767923) rfl rfl rfl ?_
        refine ex_op pm_M189 (pc_q := 29) (st_q := [.int (lg_cmp a0 1935767923)]) rfl rfl rfl ?_
        refine ex_ifc pm_M189 (t := 37) (pc_q := 32) rfl rfl rfl (fun c17 => ?_) (fun c17 => ?_)
        · -- lg_cmp a0 1935767923 = 0
          refine ex_lo pm_M189 (pc_q := 38) (ls_q := [.ref 41, .long a0, pm_no, .int a1, pm_no]) (st_q := [.long a0]) rfl rfl rfl ?_
          refine ex_ldc2 pm_M189 (pc_q := 41) (x := 495622124659) rfl rfl rfl ?_
          refine ex_op pm_M189 (pc_q := 42) (st_q := [.int (lg_cmp a0 495622124659)]) rfl rfl rfl ?_
          refine ex_ifc pm_M189 (t := 62) (pc_q := 45) rfl rfl rfl (fun z => absurd z c1) (fun _ => ?_)
          refine ex_lo pm_M189 (pc_q := 46) (ls_q := [.ref 41, .long a0, pm_no, .int a1, pm_no]) (st_q := [.ref 41]) rfl rfl rfl ?_
          refine ex_getK pm_M189 (pc_q := 49) (j := 34) (b := 51) rfl rfl rfl rfl rfl ?_
          refine ex_op pm_M189 (pc_q := 50) (st_q := [.int 1, .ref 51]) rfl rfl rfl ?_
          refine ex_iald' pm_M189 (pc_q := 51) (v := S.1 51 1) rfl rfl rfl ?_
          refine ex_op pm_M189 (pc_q := 53) (st_q := [.int 50, .int (S.1 51 1)]) rfl rfl rfl ?_
          refine ex_icmp pm_M189 (t := 62) (pc_q := 56) rfl rfl rfl (fun c19 => ?_) (fun c19 => ?_)
          · -- ¬ S.1 51 1 = 50
            exact L62 pm_no S rfl (v5 a0 a1 S c1 c3 c10 c17 c19)
          · -- not
            refine ex_lo pm_M189 (pc_q := 57) (ls_q := [.ref 41, .long a0, pm_no, .int a1, pm_no]) (st_q := [.ref 41]) rfl rfl rfl ?_
            refine ex_op pm_M189 (pc_q := 58) (st_q := [.int 3, .ref 41]) rfl rfl rfl ?_
            refine ex_lo pm_M189 (pc_q := 59) (ls_q := [.ref 41, .long a0, pm_no, .int a1, pm_no]) (st_q := [.int a1, .int 3, .ref 41]) rfl rfl rfl ?_
            refine ex_call pm_M189 (pc_q := 62) (ix := 156) (callee := 182) (np := 2) (kd := 0) (ra := [.int a1, .int 3, .ref 41]) (rest := []) rfl rfl rfl rfl pm_M182 rfl rfl rfl rfl (fun d20 => (H182 _ d20 3 a1 S).mono (fun r S22 e => ?_))
            obtain ⟨rfl, h23⟩ := e
            show ex_P _ _ 189 62 [.ref 41, .long a0, pm_no, .int a1, pm_no] [] S22 _
            exact L62 pm_no S22 rfl (v6 a0 a1 S c1 c3 c10 c17 c19 S22 h23)
        · -- not
          refine ex_lo pm_M189 (pc_q := 33) (ls_q := [.ref 41, .long a0, pm_no, .int a1, pm_no]) (st_q := [.ref 41]) rfl rfl rfl ?_
          refine ex_call pm_M189 (pc_q := 36) (ix := 152) (callee := 184) (np := 0) (kd := 0) (ra := [.ref 41]) (rest := []) rfl rfl rfl rfl pm_M184 rfl rfl rfl rfl (fun d24 => (H184 _ d24 S).mono (fun r S26 e => ?_))
          obtain ⟨r25, rfl, h27⟩ := e
          show ex_P _ _ 189 36 [.ref 41, .long a0, pm_no, .int a1, pm_no] [.int r25] S26 _
          exact ex_retI pm_M189 rfl (⟨_, rfl, v7 a0 a1 S c1 c3 c10 c17 r25 S26 h27⟩)
set_option maxRecDepth 100000 in
set_option maxHeartbeats 4000000 in
/-- SilentTableModel.houseLine -/
theorem ev192 {C : Int64 → Int32 → ex_S → Int32 → ex_S → Prop} {C179 : ex_S → ex_S → Prop} {C182 : Int32 → Int32 → ex_S → ex_S → Prop} {C183 : Int32 → Int32 → Int32 → ex_S → Int32 → ex_S → Prop} {C184 : ex_S → Int32 → ex_S → Prop} {C185 : Int32 → Int32 → Int32 → Int32 → Int32 → ex_S → ex_S → Prop} {C190 : ex_S → ex_S → Prop} {I75 : Int64 → Int32 → ex_S → Int32 → ex_S → Prop} {I103 : Int64 → Int32 → ex_S → Int32 → ex_S → Prop} {I163 : Int64 → Int32 → ex_S → ex_S → Prop} (H179 : es179 C179) (H182 : es182 C182) (H183 : es183 C183) (H184 : es184 C184) (H185 : es185 C185) (H190 : es190 C190) 
    (v0 : ∀ (a0 : Int64) (a1 : Int32) (S : ex_S), ¬ lg_cmp a0 474148660594 = 0 → ¬ lg_cmp a0 1836020596 = 0 → ¬ lg_cmp a0 478660552050 = 0 → ¬ lg_cmp a0 1885432178 = 0 → ¬ lg_cmp a0 114801865155950 = 0 → ¬ lg_cmp a0 1936024942 = 0 → I75 a0 a1 S (-1) S) 
    (v1 : ∀ (a0 : Int64) (a1 : Int32) (S : ex_S), ¬ lg_cmp a0 474148660594 = 0 → ¬ lg_cmp a0 1836020596 = 0 → ¬ lg_cmp a0 478660552050 = 0 → ¬ lg_cmp a0 1885432178 = 0 → ¬ lg_cmp a0 114801865155950 = 0 → ¬ (¬ lg_cmp a0 1936024942 = 0) → I75 a0 a1 S 5 S) 
    (v2 : ∀ (a0 : Int64) (a1 : Int32) (S : ex_S), ¬ lg_cmp a0 474148660594 = 0 → ¬ lg_cmp a0 1836020596 = 0 → ¬ lg_cmp a0 478660552050 = 0 → ¬ lg_cmp a0 1885432178 = 0 → ¬ (¬ lg_cmp a0 114801865155950 = 0) → I75 a0 a1 S 4 S) 
    (v3 : ∀ (a0 : Int64) (a1 : Int32) (S : ex_S), ¬ lg_cmp a0 474148660594 = 0 → ¬ lg_cmp a0 1836020596 = 0 → ¬ lg_cmp a0 478660552050 = 0 → ¬ (¬ lg_cmp a0 1885432178 = 0) → I75 a0 a1 S 3 S) 
    (v4 : ∀ (a0 : Int64) (a1 : Int32) (S : ex_S), ¬ lg_cmp a0 474148660594 = 0 → ¬ lg_cmp a0 1836020596 = 0 → ¬ (¬ lg_cmp a0 478660552050 = 0) → I75 a0 a1 S 2 S) 
    (v5 : ∀ (a0 : Int64) (a1 : Int32) (S : ex_S), ¬ lg_cmp a0 474148660594 = 0 → ¬ (¬ lg_cmp a0 1836020596 = 0) → I75 a0 a1 S 1 S) 
    (v6 : ∀ (a0 : Int64) (a1 : Int32) (S : ex_S), ¬ (¬ lg_cmp a0 474148660594 = 0) → I75 a0 a1 S 0 S) 
    (v7 : ∀ (a0 : Int64) (a1 : Int32) (S : ex_S) (x4 : Int32) (T : ex_S), I75 a0 a1 S x4 T → ¬ x4 = (-1) → ¬ T.1 51 0 = 8 → I103 a0 a1 S x4 T) 
    (v8 : ∀ (a0 : Int64) (a1 : Int32) (S : ex_S) (x4 : Int32) (T : ex_S), I75 a0 a1 S x4 T → ¬ x4 = (-1) → ¬ (¬ T.1 51 0 = 8) → ∀ (S11 : ex_S), C182 3 a1 T S11 → I103 a0 a1 S x4 S11) 
    (v9 : ∀ (a0 : Int64) (a1 : Int32) (S : ex_S) (x4 : Int32) (T : ex_S), I75 a0 a1 S x4 T → ¬ (¬ x4 = (-1)) → ∀ (r14 : Int32) (S15 : ex_S), C184 T r14 S15 → C a0 a1 S r14 S15) 
    (v10 : ∀ (a0 : Int64) (a1 : Int32) (S : ex_S) (x4 : Int32) (T : ex_S), I103 a0 a1 S x4 T → ∀ (S19 : ex_S), C179 T S19 → ∀ (S23 : ex_S), C190 S19 S23 → ∀ (r26 : Int32) (S27 : ex_S), C183 1 9 (-1) (ex_sx S23 52 0 x4) r26 S27 → ¬ r26 = 0 → x4 = 1 → ∀ (r32 : Int32) (S33 : ex_S), C183 2 9 (-1) S27 r32 S33 → ¬ r32 = 0 → I163 a0 a1 S S33) 
    (v11 : ∀ (a0 : Int64) (a1 : Int32) (S : ex_S) (x4 : Int32) (T : ex_S), I103 a0 a1 S x4 T → ∀ (S19 : ex_S), C179 T S19 → ∀ (S23 : ex_S), C190 S19 S23 → ∀ (r26 : Int32) (S27 : ex_S), C183 1 9 (-1) (ex_sx S23 52 0 x4) r26 S27 → ¬ r26 = 0 → x4 = 1 → ∀ (r32 : Int32) (S33 : ex_S), C183 2 9 (-1) S27 r32 S33 → ¬ (¬ r32 = 0) → C a0 a1 S 0 S33) 
    (v12 : ∀ (a0 : Int64) (a1 : Int32) (S : ex_S) (x4 : Int32) (T : ex_S), I103 a0 a1 S x4 T → ∀ (S19 : ex_S), C179 T S19 → ∀ (S23 : ex_S), C190 S19 S23 → ∀ (r26 : Int32) (S27 : ex_S), C183 1 9 (-1) (ex_sx S23 52 0 x4) r26 S27 → ¬ r26 = 0 → ¬ (x4 = 1) → x4 = 2 → ∀ (r38 : Int32) (S39 : ex_S), C183 2 9 (-1) S27 r38 S39 → ¬ r38 = 0 → I163 a0 a1 S S39) 
    (v13 : ∀ (a0 : Int64) (a1 : Int32) (S : ex_S) (x4 : Int32) (T : ex_S), I103 a0 a1 S x4 T → ∀ (S19 : ex_S), C179 T S19 → ∀ (S23 : ex_S), C190 S19 S23 → ∀ (r26 : Int32) (S27 : ex_S), C183 1 9 (-1) (ex_sx S23 52 0 x4) r26 S27 → ¬ r26 = 0 → ¬ (x4 = 1) → x4 = 2 → ∀ (r38 : Int32) (S39 : ex_S), C183 2 9 (-1) S27 r38 S39 → ¬ (¬ r38 = 0) → C a0 a1 S 0 S39) 
    (v14 : ∀ (a0 : Int64) (a1 : Int32) (S : ex_S) (x4 : Int32) (T : ex_S), I103 a0 a1 S x4 T → ∀ (S19 : ex_S), C179 T S19 → ∀ (S23 : ex_S), C190 S19 S23 → ∀ (r26 : Int32) (S27 : ex_S), C183 1 9 (-1) (ex_sx S23 52 0 x4) r26 S27 → ¬ r26 = 0 → ¬ (x4 = 1) → ¬ (x4 = 2) → ¬ x4 = 3 → I163 a0 a1 S S27) 
    (v15 : ∀ (a0 : Int64) (a1 : Int32) (S : ex_S) (x4 : Int32) (T : ex_S), I103 a0 a1 S x4 T → ∀ (S19 : ex_S), C179 T S19 → ∀ (S23 : ex_S), C190 S19 S23 → ∀ (r26 : Int32) (S27 : ex_S), C183 1 9 (-1) (ex_sx S23 52 0 x4) r26 S27 → ¬ r26 = 0 → ¬ (x4 = 1) → ¬ (x4 = 2) → ¬ (¬ x4 = 3) → ∀ (r44 : Int32) (S45 : ex_S), C183 2 9 (-1) S27 r44 S45 → ¬ r44 = 0 → I163 a0 a1 S S45) 
    (v16 : ∀ (a0 : Int64) (a1 : Int32) (S : ex_S) (x4 : Int32) (T : ex_S), I103 a0 a1 S x4 T → ∀ (S19 : ex_S), C179 T S19 → ∀ (S23 : ex_S), C190 S19 S23 → ∀ (r26 : Int32) (S27 : ex_S), C183 1 9 (-1) (ex_sx S23 52 0 x4) r26 S27 → ¬ r26 = 0 → ¬ (x4 = 1) → ¬ (x4 = 2) → ¬ (¬ x4 = 3) → ∀ (r44 : Int32) (S45 : ex_S), C183 2 9 (-1) S27 r44 S45 → ¬ (¬ r44 = 0) → C a0 a1 S 0 S45) 
    (v17 : ∀ (a0 : Int64) (a1 : Int32) (S : ex_S) (x4 : Int32) (T : ex_S), I103 a0 a1 S x4 T → ∀ (S19 : ex_S), C179 T S19 → ∀ (S23 : ex_S), C190 S19 S23 → ∀ (r26 : Int32) (S27 : ex_S), C183 1 9 (-1) (ex_sx S23 52 0 x4) r26 S27 → ¬ (¬ r26 = 0) → C a0 a1 S 0 S27) 
    (v18 : ∀ (a0 : Int64) (a1 : Int32) (S : ex_S) (T : ex_S), I163 a0 a1 S T → ∀ (S50 : ex_S), C185 0 1 3 8 0 T S50 → C a0 a1 S 1 S50) : es192 C := by
  intro N d a0 a1 S
  have LL : ∀ N : Nat, (∀ (g4 : Value) (T : ex_S), g4.category = 1 → I163 a0 a1 S T → ex_P N d 192 163 [.ref 41, .long a0, pm_no, .int a1, g4] [] T (fun r S_q => ∃ v, r = some (.int v) ∧ C a0 a1 S v S_q)) ∧ (∀ (x4 : Int32) (T : ex_S), I103 a0 a1 S x4 T → ex_P N d 192 103 [.ref 41, .long a0, pm_no, .int a1, .int x4] [] T (fun r S_q => ∃ v, r = some (.int v) ∧ C a0 a1 S v S_q)) ∧ (∀ (x4 : Int32) (T : ex_S), I75 a0 a1 S x4 T → ex_P N d 192 75 [.ref 41, .long a0, pm_no, .int a1, .int x4] [] T (fun r S_q => ∃ v, r = some (.int v) ∧ C a0 a1 S v S_q)) := by
    intro N
    induction N with
    | zero => exact ⟨fun _ _ _ _ => ex_zero, fun _ _ _ => ex_zero, fun _ _ _ => ex_zero⟩
    | succ N ih =>
      obtain ⟨ih163, ih103, ih75⟩ := ih
      have L163 : ∀ (g4 : Value) (T : ex_S), g4.category = 1 → I163 a0 a1 S T → ex_P (N + 1) d 192 163 [.ref 41, .long a0, pm_no, .int a1, g4] [] T (fun r S_q => ∃ v, r = some (.int v) ∧ C a0 a1 S v S_q) := by
        intro g4 T hg4 hI
        refine ex_lo pm_M192 (pc_q := 164) (ls_q := [.ref 41, .long a0, pm_no, .int a1, g4]) (st_q := [.ref 41]) rfl rfl rfl ?_
        refine ex_op pm_M192 (pc_q := 165) (st_q := [.int 0, .ref 41]) rfl rfl rfl ?_
        refine ex_op pm_M192 (pc_q := 166) (st_q := [.int 1, .int 0, .ref 41]) rfl rfl rfl ?_
        refine ex_op pm_M192 (pc_q := 167) (st_q := [.int 3, .int 1, .int 0, .ref 41]) rfl rfl rfl ?_
        refine ex_op pm_M192 (pc_q := 169) (st_q := [.int 8, .int 3, .int 1, .int 0, .ref 41]) rfl rfl rfl ?_
        refine ex_op pm_M192 (pc_q := 170) (st_q := [.int 0, .int 8, .int 3, .int 1, .int 0, .ref 41]) rfl rfl rfl ?_
        refine ex_call pm_M192 (pc_q := 173) (ix := 189) (callee := 185) (np := 5) (kd := 0) (ra := [.int 0, .int 8, .int 3, .int 1, .int 0, .ref 41]) (rest := []) rfl rfl rfl rfl pm_M185 rfl rfl rfl rfl (fun d48 => (H185 _ d48 0 1 3 8 0 T).mono (fun r S50 e => ?_))
        obtain ⟨rfl, h51⟩ := e
        show ex_P _ _ 192 173 [.ref 41, .long a0, pm_no, .int a1, g4] [] S50 _
        refine ex_op pm_M192 (pc_q := 174) (st_q := [.int 1]) rfl rfl rfl ?_
        exact ex_retI pm_M192 rfl (⟨_, rfl, v18 a0 a1 S T hI S50 h51⟩)
      have L103 : ∀ (x4 : Int32) (T : ex_S), I103 a0 a1 S x4 T → ex_P (N + 1) d 192 103 [.ref 41, .long a0, pm_no, .int a1, .int x4] [] T (fun r S_q => ∃ v, r = some (.int v) ∧ C a0 a1 S v S_q) := by
        intro x4 T hI
        refine ex_lo pm_M192 (pc_q := 104) (ls_q := [.ref 41, .long a0, pm_no, .int a1, .int x4]) (st_q := [.ref 41]) rfl rfl rfl ?_
        refine ex_call pm_M192 (pc_q := 107) (ix := 164) (callee := 179) (np := 0) (kd := 0) (ra := [.ref 41]) (rest := []) rfl rfl rfl rfl pm_M179 rfl rfl rfl rfl (fun d17 => (H179 _ d17 T).mono (fun r S19 e => ?_))
        obtain ⟨rfl, h20⟩ := e
        show ex_P _ _ 192 107 [.ref 41, .long a0, pm_no, .int a1, .int x4] [] S19 _
        refine ex_lo pm_M192 (pc_q := 108) (ls_q := [.ref 41, .long a0, pm_no, .int a1, .int x4]) (st_q := [.ref 41]) rfl rfl rfl ?_
        refine ex_call pm_M192 (pc_q := 111) (ix := 204) (callee := 190) (np := 0) (kd := 0) (ra := [.ref 41]) (rest := []) rfl rfl rfl rfl pm_M190 rfl rfl rfl rfl (fun d21 => (H190 _ d21 S19).mono (fun r S23 e => ?_))
        obtain ⟨rfl, h24⟩ := e
        show ex_P _ _ 192 111 [.ref 41, .long a0, pm_no, .int a1, .int x4] [] S23 _
        refine ex_lo pm_M192 (pc_q := 112) (ls_q := [.ref 41, .long a0, pm_no, .int a1, .int x4]) (st_q := [.ref 41]) rfl rfl rfl ?_
        refine ex_getK pm_M192 (pc_q := 115) (j := 35) (b := 52) rfl rfl rfl rfl rfl ?_
        refine ex_op pm_M192 (pc_q := 116) (st_q := [.int 0, .ref 52]) rfl rfl rfl ?_
        refine ex_lo pm_M192 (pc_q := 118) (ls_q := [.ref 41, .long a0, pm_no, .int a1, .int x4]) (st_q := [.int x4, .int 0, .ref 52]) rfl rfl rfl ?_
        refine ex_iast pm_M192 (pc_q := 119) rfl rfl ?_
        show ex_P _ _ 192 119 [.ref 41, .long a0, pm_no, .int a1, .int x4] [] (ex_sx S23 52 0 x4) _
        refine ex_lo pm_M192 (pc_q := 120) (ls_q := [.ref 41, .long a0, pm_no, .int a1, .int x4]) (st_q := [.ref 41]) rfl rfl rfl ?_
        refine ex_op pm_M192 (pc_q := 121) (st_q := [.int 1, .ref 41]) rfl rfl rfl ?_
        refine ex_op pm_M192 (pc_q := 123) (st_q := [.int 9, .int 1, .ref 41]) rfl rfl rfl ?_
        refine ex_op pm_M192 (pc_q := 124) (st_q := [.int (-1), .int 9, .int 1, .ref 41]) rfl rfl rfl ?_
        refine ex_call pm_M192 (pc_q := 127) (ix := 183) (callee := 183) (np := 3) (kd := 0) (ra := [.int (-1), .int 9, .int 1, .ref 41]) (rest := []) rfl rfl rfl rfl pm_M183 rfl rfl rfl rfl (fun d25 => (H183 _ d25 1 9 (-1) (ex_sx S23 52 0 x4)).mono (fun r S27 e => ?_))
        obtain ⟨r26, rfl, h28⟩ := e
        show ex_P _ _ 192 127 [.ref 41, .long a0, pm_no, .int a1, .int x4] [.int r26] S27 _
        refine ex_ifc pm_M192 (t := 132) (pc_q := 130) rfl rfl rfl (fun c29 => ?_) (fun c29 => ?_)
        · -- ¬ r26 = 0
          refine ex_lo pm_M192 (pc_q := 134) (ls_q := [.ref 41, .long a0, pm_no, .int a1, .int x4]) (st_q := [.int x4]) rfl rfl rfl ?_
          refine ex_op pm_M192 (pc_q := 135) (st_q := [.int 1, .int x4]) rfl rfl rfl ?_
          refine ex_icmp pm_M192 (t := 150) (pc_q := 138) rfl rfl rfl (fun c30 => ?_) (fun c30 => ?_)
          · -- x4 = 1
            refine ex_lo pm_M192 (pc_q := 151) (ls_q := [.ref 41, .long a0, pm_no, .int a1, .int x4]) (st_q := [.ref 41]) rfl rfl rfl ?_
            refine ex_op pm_M192 (pc_q := 152) (st_q := [.int 2, .ref 41]) rfl rfl rfl ?_
            refine ex_op pm_M192 (pc_q := 154) (st_q := [.int 9, .int 2, .ref 41]) rfl rfl rfl ?_
            refine ex_op pm_M192 (pc_q := 155) (st_q := [.int (-1), .int 9, .int 2, .ref 41]) rfl rfl rfl ?_
            refine ex_call pm_M192 (pc_q := 158) (ix := 183) (callee := 183) (np := 3) (kd := 0) (ra := [.int (-1), .int 9, .int 2, .ref 41]) (rest := []) rfl rfl rfl rfl pm_M183 rfl rfl rfl rfl (fun d31 => (H183 _ d31 2 9 (-1) S27).mono (fun r S33 e => ?_))
            obtain ⟨r32, rfl, h34⟩ := e
            show ex_P _ _ 192 158 [.ref 41, .long a0, pm_no, .int a1, .int x4] [.int r32] S33 _
            refine ex_ifc pm_M192 (t := 163) (pc_q := 161) rfl rfl rfl (fun c35 => ?_) (fun c35 => ?_)
            · -- ¬ r32 = 0
              exact L163 (.int x4) S33 rfl (v10 a0 a1 S x4 T hI S19 h20 S23 h24 r26 S27 h28 c29 c30 r32 S33 h34 c35)
            · -- not
              refine ex_op pm_M192 (pc_q := 162) (st_q := [.int 0]) rfl rfl rfl ?_
              exact ex_retI pm_M192 rfl (⟨_, rfl, v11 a0 a1 S x4 T hI S19 h20 S23 h24 r26 S27 h28 c29 c30 r32 S33 h34 c35⟩)
          · -- not
            refine ex_lo pm_M192 (pc_q := 140) (ls_q := [.ref 41, .long a0, pm_no, .int a1, .int x4]) (st_q := [.int x4]) rfl rfl rfl ?_
            refine ex_op pm_M192 (pc_q := 141) (st_q := [.int 2, .int x4]) rfl rfl rfl ?_
            refine ex_icmp pm_M192 (t := 150) (pc_q := 144) rfl rfl rfl (fun c36 => ?_) (fun c36 => ?_)
            · -- x4 = 2
              refine ex_lo pm_M192 (pc_q := 151) (ls_q := [.ref 41, .long a0, pm_no, .int a1, .int x4]) (st_q := [.ref 41]) rfl rfl rfl ?_
              refine ex_op pm_M192 (pc_q := 152) (st_q := [.int 2, .ref 41]) rfl rfl rfl ?_
              refine ex_op pm_M192 (pc_q := 154) (st_q := [.int 9, .int 2, .ref 41]) rfl rfl rfl ?_
              refine ex_op pm_M192 (pc_q := 155) (st_q := [.int (-1), .int 9, .int 2, .ref 41]) rfl rfl rfl ?_
              refine ex_call pm_M192 (pc_q := 158) (ix := 183) (callee := 183) (np := 3) (kd := 0) (ra := [.int (-1), .int 9, .int 2, .ref 41]) (rest := []) rfl rfl rfl rfl pm_M183 rfl rfl rfl rfl (fun d37 => (H183 _ d37 2 9 (-1) S27).mono (fun r S39 e => ?_))
              obtain ⟨r38, rfl, h40⟩ := e
              show ex_P _ _ 192 158 [.ref 41, .long a0, pm_no, .int a1, .int x4] [.int r38] S39 _
              refine ex_ifc pm_M192 (t := 163) (pc_q := 161) rfl rfl rfl (fun c41 => ?_) (fun c41 => ?_)
              · -- ¬ r38 = 0
                exact L163 (.int x4) S39 rfl (v12 a0 a1 S x4 T hI S19 h20 S23 h24 r26 S27 h28 c29 c30 c36 r38 S39 h40 c41)
              · -- not
                refine ex_op pm_M192 (pc_q := 162) (st_q := [.int 0]) rfl rfl rfl ?_
                exact ex_retI pm_M192 rfl (⟨_, rfl, v13 a0 a1 S x4 T hI S19 h20 S23 h24 r26 S27 h28 c29 c30 c36 r38 S39 h40 c41⟩)
            · -- not
              refine ex_lo pm_M192 (pc_q := 146) (ls_q := [.ref 41, .long a0, pm_no, .int a1, .int x4]) (st_q := [.int x4]) rfl rfl rfl ?_
              refine ex_op pm_M192 (pc_q := 147) (st_q := [.int 3, .int x4]) rfl rfl rfl ?_
              refine ex_icmp pm_M192 (t := 163) (pc_q := 150) rfl rfl rfl (fun c42 => ?_) (fun c42 => ?_)
              · -- ¬ x4 = 3
                exact L163 (.int x4) S27 rfl (v14 a0 a1 S x4 T hI S19 h20 S23 h24 r26 S27 h28 c29 c30 c36 c42)
              · -- not
                refine ex_lo pm_M192 (pc_q := 151) (ls_q := [.ref 41, .long a0, pm_no, .int a1, .int x4]) (st_q := [.ref 41]) rfl rfl rfl ?_
                refine ex_op pm_M192 (pc_q := 152) (st_q := [.int 2, .ref 41]) rfl rfl rfl ?_
                refine ex_op pm_M192 (pc_q := 154) (st_q := [.int 9, .int 2, .ref 41]) rfl rfl rfl ?_
                refine ex_op pm_M192 (pc_q := 155) (st_q := [.int (-1), .int 9, .int 2, .ref 41]) rfl rfl rfl ?_
                refine ex_call pm_M192 (pc_q := 158) (ix := 183) (callee := 183) (np := 3) (kd := 0) (ra := [.int (-1), .int 9, .int 2, .ref 41]) (rest := []) rfl rfl rfl rfl pm_M183 rfl rfl rfl rfl (fun d43 => (H183 _ d43 2 9 (-1) S27).mono (fun r S45 e => ?_))
                obtain ⟨r44, rfl, h46⟩ := e
                show ex_P _ _ 192 158 [.ref 41, .long a0, pm_no, .int a1, .int x4] [.int r44] S45 _
                refine ex_ifc pm_M192 (t := 163) (pc_q := 161) rfl rfl rfl (fun c47 => ?_) (fun c47 => ?_)
                · -- ¬ r44 = 0
                  exact L163 (.int x4) S45 rfl (v15 a0 a1 S x4 T hI S19 h20 S23 h24 r26 S27 h28 c29 c30 c36 c42 r44 S45 h46 c47)
                · -- not
                  refine ex_op pm_M192 (pc_q := 162) (st_q := [.int 0]) rfl rfl rfl ?_
                  exact ex_retI pm_M192 rfl (⟨_, rfl, v16 a0 a1 S x4 T hI S19 h20 S23 h24 r26 S27 h28 c29 c30 c36 c42 r44 S45 h46 c47⟩)
        · -- not
          refine ex_op pm_M192 (pc_q := 131) (st_q := [.int 0]) rfl rfl rfl ?_
          exact ex_retI pm_M192 rfl (⟨_, rfl, v17 a0 a1 S x4 T hI S19 h20 S23 h24 r26 S27 h28 c29⟩)
      have L75 : ∀ (x4 : Int32) (T : ex_S), I75 a0 a1 S x4 T → ex_P (N + 1) d 192 75 [.ref 41, .long a0, pm_no, .int a1, .int x4] [] T (fun r S_q => ∃ v, r = some (.int v) ∧ C a0 a1 S v S_q) := by
        intro x4 T hI
        refine ex_lo pm_M192 (pc_q := 77) (ls_q := [.ref 41, .long a0, pm_no, .int a1, .int x4]) (st_q := [.int x4]) rfl rfl rfl ?_
        refine ex_op pm_M192 (pc_q := 78) (st_q := [.int (-1), .int x4]) rfl rfl rfl ?_
        refine ex_icmp pm_M192 (t := 86) (pc_q := 81) rfl rfl rfl (fun c7 => ?_) (fun c7 => ?_)
        · -- ¬ x4 = (-1)
          refine ex_lo pm_M192 (pc_q := 87) (ls_q := [.ref 41, .long a0, pm_no, .int a1, .int x4]) (st_q := [.ref 41]) rfl rfl rfl ?_
          refine ex_getK pm_M192 (pc_q := 90) (j := 34) (b := 51) rfl rfl rfl rfl rfl ?_
          refine ex_op pm_M192 (pc_q := 91) (st_q := [.int 0, .ref 51]) rfl rfl rfl ?_
          refine ex_iald' pm_M192 (pc_q := 92) (v := T.1 51 0) rfl rfl rfl ?_
          refine ex_op pm_M192 (pc_q := 94) (st_q := [.int 8, .int (T.1 51 0)]) rfl rfl rfl ?_
          refine ex_icmp pm_M192 (t := 103) (pc_q := 97) rfl rfl rfl (fun c8 => ?_) (fun c8 => ?_)
          · -- ¬ T.1 51 0 = 8
            exact L103 x4 T (v7 a0 a1 S x4 T hI c7 c8)
          · -- not
            refine ex_lo pm_M192 (pc_q := 98) (ls_q := [.ref 41, .long a0, pm_no, .int a1, .int x4]) (st_q := [.ref 41]) rfl rfl rfl ?_
            refine ex_op pm_M192 (pc_q := 99) (st_q := [.int 3, .ref 41]) rfl rfl rfl ?_
            refine ex_lo pm_M192 (pc_q := 100) (ls_q := [.ref 41, .long a0, pm_no, .int a1, .int x4]) (st_q := [.int a1, .int 3, .ref 41]) rfl rfl rfl ?_
            refine ex_call pm_M192 (pc_q := 103) (ix := 156) (callee := 182) (np := 2) (kd := 0) (ra := [.int a1, .int 3, .ref 41]) (rest := []) rfl rfl rfl rfl pm_M182 rfl rfl rfl rfl (fun d9 => (H182 _ d9 3 a1 T).mono (fun r S11 e => ?_))
            obtain ⟨rfl, h12⟩ := e
            show ex_P _ _ 192 103 [.ref 41, .long a0, pm_no, .int a1, .int x4] [] S11 _
            exact L103 x4 S11 (v8 a0 a1 S x4 T hI c7 c8 S11 h12)
        · -- not
          refine ex_lo pm_M192 (pc_q := 82) (ls_q := [.ref 41, .long a0, pm_no, .int a1, .int x4]) (st_q := [.ref 41]) rfl rfl rfl ?_
          refine ex_call pm_M192 (pc_q := 85) (ix := 152) (callee := 184) (np := 0) (kd := 0) (ra := [.ref 41]) (rest := []) rfl rfl rfl rfl pm_M184 rfl rfl rfl rfl (fun d13 => (H184 _ d13 T).mono (fun r S15 e => ?_))
          obtain ⟨r14, rfl, h16⟩ := e
          show ex_P _ _ 192 85 [.ref 41, .long a0, pm_no, .int a1, .int x4] [.int r14] S15 _
          exact ex_retI pm_M192 rfl (⟨_, rfl, v9 a0 a1 S x4 T hI c7 r14 S15 h16⟩)
      exact ⟨L163, L103, L75⟩
  obtain ⟨L163, L103, L75⟩ := LL N
  refine ex_lo pm_M192 (pc_q := 1) (ls_q := [.ref 41, .long a0, pm_no, .int a1, pm_no]) (st_q := [.long a0]) rfl rfl rfl ?_
  refine ex_ldc2 pm_M192 (pc_q := 4) (x := 474148660594) rfl rfl rfl ?_
  refine ex_op pm_M192 (pc_q := 5) (st_q := [.int (lg_cmp a0 474148660594)]) rfl rfl rfl ?_
  refine ex_ifc pm_M192 (t := 12) (pc_q := 8) rfl rfl rfl (fun c1 => ?_) (fun c1 => ?_)
  · -- ¬ lg_cmp a0 474148660594 = 0
    refine ex_lo pm_M192 (pc_q := 13) (ls_q := [.ref 41, .long a0, pm_no, .int a1, pm_no]) (st_q := [.long a0]) rfl rfl rfl ?_
    refine ex_ldc2 pm_M192 (pc_q := 16) (x := 1836020596) rfl rfl rfl ?_
    refine ex_op pm_M192 (pc_q := 17) (st_q := [.int (lg_cmp a0 1836020596)]) rfl rfl rfl ?_
    refine ex_ifc pm_M192 (t := 24) (pc_q := 20) rfl rfl rfl (fun c2 => ?_) (fun c2 => ?_)
    · -- ¬ lg_cmp a0 1836020596 = 0
      refine ex_lo pm_M192 (pc_q := 25) (ls_q := [.ref 41, .long a0, pm_no, .int a1, pm_no]) (st_q := [.long a0]) rfl rfl rfl ?_
      refine ex_ldc2 pm_M192 (pc_q := 28) (x := 478660552050) rfl rfl rfl ?_
      refine ex_op pm_M192 (pc_q := 29) (st_q := [.int (lg_cmp a0 478660552050)]) rfl rfl rfl ?_
      refine ex_ifc pm_M192 (t := 36) (pc_q := 32) rfl rfl rfl (fun c3 => ?_) (fun c3 => ?_)
      · -- ¬ lg_cmp a0 478660552050 = 0
        refine ex_lo pm_M192 (pc_q := 37) (ls_q := [.ref 41, .long a0, pm_no, .int a1, pm_no]) (st_q := [.long a0]) rfl rfl rfl ?_
        refine ex_ldc2 pm_M192 (pc_q := 40) (x := 1885432178) rfl rfl rfl ?_
        refine ex_op pm_M192 (pc_q := 41) (st_q := [.int (lg_cmp a0 1885432178)]) rfl rfl rfl ?_
        refine ex_ifc pm_M192 (t := 48) (pc_q := 44) rfl rfl rfl (fun c4 => ?_) (fun c4 => ?_)
        · -- ¬ lg_cmp a0 1885432178 = 0
          refine ex_lo pm_M192 (pc_q := 49) (ls_q := [.ref 41, .long a0, pm_no, .int a1, pm_no]) (st_q := [.long a0]) rfl rfl rfl ?_
          refine ex_ldc2 pm_M192 (pc_q := 52) (x := 114801865155950) rfl rfl rfl ?_
          refine ex_op pm_M192 (pc_q := 53) (st_q := [.int (lg_cmp a0 114801865155950)]) rfl rfl rfl ?_
          refine ex_ifc pm_M192 (t := 60) (pc_q := 56) rfl rfl rfl (fun c5 => ?_) (fun c5 => ?_)
          · -- ¬ lg_cmp a0 114801865155950 = 0
            refine ex_lo pm_M192 (pc_q := 61) (ls_q := [.ref 41, .long a0, pm_no, .int a1, pm_no]) (st_q := [.long a0]) rfl rfl rfl ?_
            refine ex_ldc2 pm_M192 (pc_q := 64) (x := 1936024942) rfl rfl rfl ?_
            refine ex_op pm_M192 (pc_q := 65) (st_q := [.int (lg_cmp a0 1936024942)]) rfl rfl rfl ?_
            refine ex_ifc pm_M192 (t := 72) (pc_q := 68) rfl rfl rfl (fun c6 => ?_) (fun c6 => ?_)
            · -- ¬ lg_cmp a0 1936024942 = 0
              refine ex_op pm_M192 (pc_q := 73) (st_q := [.int (-1)]) rfl rfl rfl ?_
              refine ex_lo pm_M192 (pc_q := 75) (ls_q := [.ref 41, .long a0, pm_no, .int a1, .int (-1)]) (st_q := []) rfl rfl rfl ?_
              exact L75 (-1) S (v0 a0 a1 S c1 c2 c3 c4 c5 c6)
            · -- not
              refine ex_op pm_M192 (pc_q := 69) (st_q := [.int 5]) rfl rfl rfl ?_
              refine ex_br pm_M192 (pc_q := 73) (st_q := [.int 5]) rfl rfl ?_
              refine ex_lo pm_M192 (pc_q := 75) (ls_q := [.ref 41, .long a0, pm_no, .int a1, .int 5]) (st_q := []) rfl rfl rfl ?_
              exact L75 5 S (v1 a0 a1 S c1 c2 c3 c4 c5 c6)
          · -- not
            refine ex_op pm_M192 (pc_q := 57) (st_q := [.int 4]) rfl rfl rfl ?_
            refine ex_br pm_M192 (pc_q := 73) (st_q := [.int 4]) rfl rfl ?_
            refine ex_lo pm_M192 (pc_q := 75) (ls_q := [.ref 41, .long a0, pm_no, .int a1, .int 4]) (st_q := []) rfl rfl rfl ?_
            exact L75 4 S (v2 a0 a1 S c1 c2 c3 c4 c5)
        · -- not
          refine ex_op pm_M192 (pc_q := 45) (st_q := [.int 3]) rfl rfl rfl ?_
          refine ex_br pm_M192 (pc_q := 73) (st_q := [.int 3]) rfl rfl ?_
          refine ex_lo pm_M192 (pc_q := 75) (ls_q := [.ref 41, .long a0, pm_no, .int a1, .int 3]) (st_q := []) rfl rfl rfl ?_
          exact L75 3 S (v3 a0 a1 S c1 c2 c3 c4)
      · -- not
        refine ex_op pm_M192 (pc_q := 33) (st_q := [.int 2]) rfl rfl rfl ?_
        refine ex_br pm_M192 (pc_q := 73) (st_q := [.int 2]) rfl rfl ?_
        refine ex_lo pm_M192 (pc_q := 75) (ls_q := [.ref 41, .long a0, pm_no, .int a1, .int 2]) (st_q := []) rfl rfl rfl ?_
        exact L75 2 S (v4 a0 a1 S c1 c2 c3)
    · -- not
      refine ex_op pm_M192 (pc_q := 21) (st_q := [.int 1]) rfl rfl rfl ?_
      refine ex_br pm_M192 (pc_q := 73) (st_q := [.int 1]) rfl rfl ?_
      refine ex_lo pm_M192 (pc_q := 75) (ls_q := [.ref 41, .long a0, pm_no, .int a1, .int 1]) (st_q := []) rfl rfl rfl ?_
      exact L75 1 S (v5 a0 a1 S c1 c2)
  · -- not
    refine ex_op pm_M192 (pc_q := 9) (st_q := [.int 0]) rfl rfl rfl ?_
    refine ex_br pm_M192 (pc_q := 73) (st_q := [.int 0]) rfl rfl ?_
    refine ex_lo pm_M192 (pc_q := 75) (ls_q := [.ref 41, .long a0, pm_no, .int a1, .int 0]) (st_q := []) rfl rfl rfl ?_
    exact L75 0 S (v6 a0 a1 S c1)
set_option maxRecDepth 100000 in
set_option maxHeartbeats 4000000 in
/-- SilentTableModel.rowText -/
theorem ev181 {C : ex_S → Int32 → ex_S → Prop} {C182 : Int32 → Int32 → ex_S → ex_S → Prop} {C183 : Int32 → Int32 → Int32 → ex_S → Int32 → ex_S → Prop} {C185 : Int32 → Int32 → Int32 → Int32 → Int32 → ex_S → ex_S → Prop} {I0 : ex_S → ex_S → Prop} (H182 : es182 C182) (H183 : es183 C183) (H185 : es185 C185) 
    (v0 : ∀ (S : ex_S), I0 S S) 
    (v1 : ∀ (S : ex_S) (T : ex_S), I0 S T → T.1 41 13 = 0 → C S 1 T) 
    (v2 : ∀ (S : ex_S) (T : ex_S), I0 S T → ¬ (T.1 41 13 = 0) → ¬ T.1 41 13 = 3 → ∀ (r4 : Int32) (S5 : ex_S), C183 0 9 (-1) T r4 S5 → ¬ r4 = 0 → ∀ (S10 : ex_S), C185 0 1 1 12 0 S5 S10 → I0 S S10) 
    (v3 : ∀ (S : ex_S) (T : ex_S), I0 S T → ¬ (T.1 41 13 = 0) → ¬ T.1 41 13 = 3 → ∀ (r4 : Int32) (S5 : ex_S), C183 0 9 (-1) T r4 S5 → ¬ (¬ r4 = 0) → C S 0 S5) 
    (v4 : ∀ (S : ex_S) (T : ex_S), I0 S T → ¬ (T.1 41 13 = 0) → ¬ (¬ T.1 41 13 = 3) → ¬ T.1 51 0 = 12 → ∀ (r14 : Int32) (S15 : ex_S), C183 0 9 (-1) T r14 S15 → ¬ r14 = 0 → ∀ (S20 : ex_S), C185 0 1 1 12 0 S15 S20 → I0 S S20) 
    (v5 : ∀ (S : ex_S) (T : ex_S), I0 S T → ¬ (T.1 41 13 = 0) → ¬ (¬ T.1 41 13 = 3) → ¬ T.1 51 0 = 12 → ∀ (r14 : Int32) (S15 : ex_S), C183 0 9 (-1) T r14 S15 → ¬ (¬ r14 = 0) → C S 0 S15) 
    (v6 : ∀ (S : ex_S) (T : ex_S), I0 S T → ¬ (T.1 41 13 = 0) → ¬ (¬ T.1 41 13 = 3) → ¬ (¬ T.1 51 0 = 12) → ∀ (S24 : ex_S), C182 3 (T.1 41 12) T S24 → ∀ (r27 : Int32) (S28 : ex_S), C183 0 9 (-1) S24 r27 S28 → ¬ r27 = 0 → ∀ (S33 : ex_S), C185 0 1 1 12 0 S28 S33 → I0 S S33) 
    (v7 : ∀ (S : ex_S) (T : ex_S), I0 S T → ¬ (T.1 41 13 = 0) → ¬ (¬ T.1 41 13 = 3) → ¬ (¬ T.1 51 0 = 12) → ∀ (S24 : ex_S), C182 3 (T.1 41 12) T S24 → ∀ (r27 : Int32) (S28 : ex_S), C183 0 9 (-1) S24 r27 S28 → ¬ (¬ r27 = 0) → C S 0 S28) : es181 C := by
  intro N d  S
  have LL : ∀ N : Nat, (∀ (T : ex_S), I0 S T → ex_P N d 181 0 [.ref 41] [] T (fun r S_q => ∃ v, r = some (.int v) ∧ C S v S_q)) := by
    intro N
    induction N with
    | zero => exact fun _ _ => ex_zero
    | succ N ih =>
      have ih0 := ih
      have L0 : ∀ (T : ex_S), I0 S T → ex_P (N + 1) d 181 0 [.ref 41] [] T (fun r S_q => ∃ v, r = some (.int v) ∧ C S v S_q) := by
        intro T hI
        refine ex_lo pm_M181 (pc_q := 1) (ls_q := [.ref 41]) (st_q := [.ref 41]) rfl rfl rfl ?_
        refine ex_getI' pm_M181 (pc_q := 4) (v := T.1 41 13) rfl rfl rfl rfl rfl rfl ?_
        refine ex_ifc pm_M181 (t := 61) (pc_q := 7) rfl rfl rfl (fun c1 => ?_) (fun c1 => ?_)
        · -- T.1 41 13 = 0
          refine ex_op pm_M181 (pc_q := 62) (st_q := [.int 1]) rfl rfl rfl ?_
          exact ex_retI pm_M181 rfl (⟨_, rfl, v1 S T hI c1⟩)
        · -- not
          refine ex_lo pm_M181 (pc_q := 8) (ls_q := [.ref 41]) (st_q := [.ref 41]) rfl rfl rfl ?_
          refine ex_getI' pm_M181 (pc_q := 11) (v := T.1 41 13) rfl rfl rfl rfl rfl rfl ?_
          refine ex_op pm_M181 (pc_q := 12) (st_q := [.int 3, .int (T.1 41 13)]) rfl rfl rfl ?_
          refine ex_icmp pm_M181 (t := 35) (pc_q := 15) rfl rfl rfl (fun c2 => ?_) (fun c2 => ?_)
          · -- ¬ T.1 41 13 = 3
            refine ex_lo pm_M181 (pc_q := 36) (ls_q := [.ref 41]) (st_q := [.ref 41]) rfl rfl rfl ?_
            refine ex_op pm_M181 (pc_q := 37) (st_q := [.int 0, .ref 41]) rfl rfl rfl ?_
            refine ex_op pm_M181 (pc_q := 39) (st_q := [.int 9, .int 0, .ref 41]) rfl rfl rfl ?_
            refine ex_op pm_M181 (pc_q := 40) (st_q := [.int (-1), .int 9, .int 0, .ref 41]) rfl rfl rfl ?_
            refine ex_call pm_M181 (pc_q := 43) (ix := 183) (callee := 183) (np := 3) (kd := 0) (ra := [.int (-1), .int 9, .int 0, .ref 41]) (rest := []) rfl rfl rfl rfl pm_M183 rfl rfl rfl rfl (fun d3 => (H183 _ d3 0 9 (-1) T).mono (fun r S5 e => ?_))
            obtain ⟨r4, rfl, h6⟩ := e
            show ex_P _ _ 181 43 [.ref 41] [.int r4] S5 _
            refine ex_ifc pm_M181 (t := 48) (pc_q := 46) rfl rfl rfl (fun c7 => ?_) (fun c7 => ?_)
            · -- ¬ r4 = 0
              refine ex_lo pm_M181 (pc_q := 49) (ls_q := [.ref 41]) (st_q := [.ref 41]) rfl rfl rfl ?_
              refine ex_op pm_M181 (pc_q := 50) (st_q := [.int 0, .ref 41]) rfl rfl rfl ?_
              refine ex_op pm_M181 (pc_q := 51) (st_q := [.int 1, .int 0, .ref 41]) rfl rfl rfl ?_
              refine ex_op pm_M181 (pc_q := 52) (st_q := [.int 1, .int 1, .int 0, .ref 41]) rfl rfl rfl ?_
              refine ex_op pm_M181 (pc_q := 54) (st_q := [.int 12, .int 1, .int 1, .int 0, .ref 41]) rfl rfl rfl ?_
              refine ex_op pm_M181 (pc_q := 55) (st_q := [.int 0, .int 12, .int 1, .int 1, .int 0, .ref 41]) rfl rfl rfl ?_
              refine ex_call pm_M181 (pc_q := 58) (ix := 189) (callee := 185) (np := 5) (kd := 0) (ra := [.int 0, .int 12, .int 1, .int 1, .int 0, .ref 41]) (rest := []) rfl rfl rfl rfl pm_M185 rfl rfl rfl rfl (fun d8 => (H185 _ d8 0 1 1 12 0 S5).mono (fun r S10 e => ?_))
              obtain ⟨rfl, h11⟩ := e
              show ex_P _ _ 181 58 [.ref 41] [] S10 _
              refine ex_goS pm_M181 (pc_q := 0) (st_q := []) rfl rfl ?_
              exact ih0 S10 (v2 S T hI c1 c2 r4 S5 h6 c7 S10 h11)
            · -- not
              refine ex_op pm_M181 (pc_q := 47) (st_q := [.int 0]) rfl rfl rfl ?_
              exact ex_retI pm_M181 rfl (⟨_, rfl, v3 S T hI c1 c2 r4 S5 h6 c7⟩)
          · -- not
            refine ex_lo pm_M181 (pc_q := 16) (ls_q := [.ref 41]) (st_q := [.ref 41]) rfl rfl rfl ?_
            refine ex_getK pm_M181 (pc_q := 19) (j := 34) (b := 51) rfl rfl rfl rfl rfl ?_
            refine ex_op pm_M181 (pc_q := 20) (st_q := [.int 0, .ref 51]) rfl rfl rfl ?_
            refine ex_iald' pm_M181 (pc_q := 21) (v := T.1 51 0) rfl rfl rfl ?_
            refine ex_op pm_M181 (pc_q := 23) (st_q := [.int 12, .int (T.1 51 0)]) rfl rfl rfl ?_
            refine ex_icmp pm_M181 (t := 35) (pc_q := 26) rfl rfl rfl (fun c12 => ?_) (fun c12 => ?_)
            · -- ¬ T.1 51 0 = 12
              refine ex_lo pm_M181 (pc_q := 36) (ls_q := [.ref 41]) (st_q := [.ref 41]) rfl rfl rfl ?_
              refine ex_op pm_M181 (pc_q := 37) (st_q := [.int 0, .ref 41]) rfl rfl rfl ?_
              refine ex_op pm_M181 (pc_q := 39) (st_q := [.int 9, .int 0, .ref 41]) rfl rfl rfl ?_
              refine ex_op pm_M181 (pc_q := 40) (st_q := [.int (-1), .int 9, .int 0, .ref 41]) rfl rfl rfl ?_
              refine ex_call pm_M181 (pc_q := 43) (ix := 183) (callee := 183) (np := 3) (kd := 0) (ra := [.int (-1), .int 9, .int 0, .ref 41]) (rest := []) rfl rfl rfl rfl pm_M183 rfl rfl rfl rfl (fun d13 => (H183 _ d13 0 9 (-1) T).mono (fun r S15 e => ?_))
              obtain ⟨r14, rfl, h16⟩ := e
              show ex_P _ _ 181 43 [.ref 41] [.int r14] S15 _
              refine ex_ifc pm_M181 (t := 48) (pc_q := 46) rfl rfl rfl (fun c17 => ?_) (fun c17 => ?_)
              · -- ¬ r14 = 0
                refine ex_lo pm_M181 (pc_q := 49) (ls_q := [.ref 41]) (st_q := [.ref 41]) rfl rfl rfl ?_
                refine ex_op pm_M181 (pc_q := 50) (st_q := [.int 0, .ref 41]) rfl rfl rfl ?_
                refine ex_op pm_M181 (pc_q := 51) (st_q := [.int 1, .int 0, .ref 41]) rfl rfl rfl ?_
                refine ex_op pm_M181 (pc_q := 52) (st_q := [.int 1, .int 1, .int 0, .ref 41]) rfl rfl rfl ?_
                refine ex_op pm_M181 (pc_q := 54) (st_q := [.int 12, .int 1, .int 1, .int 0, .ref 41]) rfl rfl rfl ?_
                refine ex_op pm_M181 (pc_q := 55) (st_q := [.int 0, .int 12, .int 1, .int 1, .int 0, .ref 41]) rfl rfl rfl ?_
                refine ex_call pm_M181 (pc_q := 58) (ix := 189) (callee := 185) (np := 5) (kd := 0) (ra := [.int 0, .int 12, .int 1, .int 1, .int 0, .ref 41]) (rest := []) rfl rfl rfl rfl pm_M185 rfl rfl rfl rfl (fun d18 => (H185 _ d18 0 1 1 12 0 S15).mono (fun r S20 e => ?_))
                obtain ⟨rfl, h21⟩ := e
                show ex_P _ _ 181 58 [.ref 41] [] S20 _
                refine ex_goS pm_M181 (pc_q := 0) (st_q := []) rfl rfl ?_
                exact ih0 S20 (v4 S T hI c1 c2 c12 r14 S15 h16 c17 S20 h21)
              · -- not
                refine ex_op pm_M181 (pc_q := 47) (st_q := [.int 0]) rfl rfl rfl ?_
                exact ex_retI pm_M181 rfl (⟨_, rfl, v5 S T hI c1 c2 c12 r14 S15 h16 c17⟩)
            · -- not
              refine ex_lo pm_M181 (pc_q := 27) (ls_q := [.ref 41]) (st_q := [.ref 41]) rfl rfl rfl ?_
              refine ex_op pm_M181 (pc_q := 28) (st_q := [.int 3, .ref 41]) rfl rfl rfl ?_
              refine ex_lo pm_M181 (pc_q := 29) (ls_q := [.ref 41]) (st_q := [.ref 41, .int 3, .ref 41]) rfl rfl rfl ?_
              refine ex_getI' pm_M181 (pc_q := 32) (v := T.1 41 12) rfl rfl rfl rfl rfl rfl ?_
              refine ex_call pm_M181 (pc_q := 35) (ix := 156) (callee := 182) (np := 2) (kd := 0) (ra := [.int (T.1 41 12), .int 3, .ref 41]) (rest := []) rfl rfl rfl rfl pm_M182 rfl rfl rfl rfl (fun d22 => (H182 _ d22 3 (T.1 41 12) T).mono (fun r S24 e => ?_))
              obtain ⟨rfl, h25⟩ := e
              show ex_P _ _ 181 35 [.ref 41] [] S24 _
              refine ex_lo pm_M181 (pc_q := 36) (ls_q := [.ref 41]) (st_q := [.ref 41]) rfl rfl rfl ?_
              refine ex_op pm_M181 (pc_q := 37) (st_q := [.int 0, .ref 41]) rfl rfl rfl ?_
              refine ex_op pm_M181 (pc_q := 39) (st_q := [.int 9, .int 0, .ref 41]) rfl rfl rfl ?_
              refine ex_op pm_M181 (pc_q := 40) (st_q := [.int (-1), .int 9, .int 0, .ref 41]) rfl rfl rfl ?_
              refine ex_call pm_M181 (pc_q := 43) (ix := 183) (callee := 183) (np := 3) (kd := 0) (ra := [.int (-1), .int 9, .int 0, .ref 41]) (rest := []) rfl rfl rfl rfl pm_M183 rfl rfl rfl rfl (fun d26 => (H183 _ d26 0 9 (-1) S24).mono (fun r S28 e => ?_))
              obtain ⟨r27, rfl, h29⟩ := e
              show ex_P _ _ 181 43 [.ref 41] [.int r27] S28 _
              refine ex_ifc pm_M181 (t := 48) (pc_q := 46) rfl rfl rfl (fun c30 => ?_) (fun c30 => ?_)
              · -- ¬ r27 = 0
                refine ex_lo pm_M181 (pc_q := 49) (ls_q := [.ref 41]) (st_q := [.ref 41]) rfl rfl rfl ?_
                refine ex_op pm_M181 (pc_q := 50) (st_q := [.int 0, .ref 41]) rfl rfl rfl ?_
                refine ex_op pm_M181 (pc_q := 51) (st_q := [.int 1, .int 0, .ref 41]) rfl rfl rfl ?_
                refine ex_op pm_M181 (pc_q := 52) (st_q := [.int 1, .int 1, .int 0, .ref 41]) rfl rfl rfl ?_
                refine ex_op pm_M181 (pc_q := 54) (st_q := [.int 12, .int 1, .int 1, .int 0, .ref 41]) rfl rfl rfl ?_
                refine ex_op pm_M181 (pc_q := 55) (st_q := [.int 0, .int 12, .int 1, .int 1, .int 0, .ref 41]) rfl rfl rfl ?_
                refine ex_call pm_M181 (pc_q := 58) (ix := 189) (callee := 185) (np := 5) (kd := 0) (ra := [.int 0, .int 12, .int 1, .int 1, .int 0, .ref 41]) (rest := []) rfl rfl rfl rfl pm_M185 rfl rfl rfl rfl (fun d31 => (H185 _ d31 0 1 1 12 0 S28).mono (fun r S33 e => ?_))
                obtain ⟨rfl, h34⟩ := e
                show ex_P _ _ 181 58 [.ref 41] [] S33 _
                refine ex_goS pm_M181 (pc_q := 0) (st_q := []) rfl rfl ?_
                exact ih0 S33 (v6 S T hI c1 c2 c12 S24 h25 r27 S28 h29 c30 S33 h34)
              · -- not
                refine ex_op pm_M181 (pc_q := 47) (st_q := [.int 0]) rfl rfl rfl ?_
                exact ex_retI pm_M181 rfl (⟨_, rfl, v7 S T hI c1 c2 c12 S24 h25 r27 S28 h29 c30⟩)
      exact L0
  have L0 := LL N
  exact L0 S (v0 S)
set_option maxRecDepth 100000 in
set_option maxHeartbeats 4000000 in
/-- SilentTableModel.lines -/
theorem ev186 {C : Int32 → ex_S → Int32 → ex_S → Prop} {C179 : ex_S → ex_S → Prop} {C184 : ex_S → Int32 → ex_S → Prop} {C187 : Int64 → Int32 → ex_S → Int32 → ex_S → Prop} {C189 : Int64 → Int32 → ex_S → Int32 → ex_S → Prop} {C192 : Int64 → Int32 → ex_S → Int32 → ex_S → Prop} {I2 : Int32 → ex_S → Int32 → ex_S → Prop} {I36 : Int32 → ex_S → Int32 → Int64 → ex_S → Prop} {I78 : Int32 → ex_S → Int32 → ex_S → Prop} {I95 : Int32 → ex_S → Int32 → ex_S → Prop} (H179 : es179 C179) (H184 : es184 C184) (H187 : es187 C187) (H189 : es189 C189) (H192 : es192 C192) 
    (v0 : ∀ (a0 : Int32) (S : ex_S), I2 a0 S 1 S) 
    (v1 : ∀ (a0 : Int32) (S : ex_S) (x2 : Int32) (T : ex_S), I2 a0 S x2 T → x2 = 0 → C a0 S x2 T) 
    (v2 : ∀ (a0 : Int32) (S : ex_S) (x2 : Int32) (T : ex_S), I2 a0 S x2 T → ¬ (x2 = 0) → T.1 41 13 = 0 → C a0 S x2 T) 
    (v3 : ∀ (a0 : Int32) (S : ex_S) (x2 : Int32) (T : ex_S), I2 a0 S x2 T → ¬ (x2 = 0) → ¬ (T.1 41 13 = 0) → ¬ T.1 41 13 = 2 → I36 a0 S (T.1 41 12) 0 T) 
    (v4 : ∀ (a0 : Int32) (S : ex_S) (x2 : Int32) (T : ex_S), I2 a0 S x2 T → ¬ (x2 = 0) → ¬ (T.1 41 13 = 0) → ¬ (¬ T.1 41 13 = 2) → I36 a0 S (T.1 41 12) (T.2.1 41 15) T) 
    (v5 : ∀ (a0 : Int32) (S : ex_S) (x3 : Int32) (x4 : Int64) (T : ex_S), I36 a0 S x3 x4 T → ¬ a0 = 0 → ¬ a0 = 2 → ∀ (r7 : Int32) (S8 : ex_S), C192 x4 x3 (ex_sx T 41 22 1) r7 S8 → I78 a0 S r7 S8) 
    (v6 : ∀ (a0 : Int32) (S : ex_S) (x3 : Int32) (x4 : Int64) (T : ex_S), I36 a0 S x3 x4 T → ¬ a0 = 0 → ¬ (¬ a0 = 2) → ∀ (r11 : Int32) (S12 : ex_S), C189 x4 x3 (ex_sx T 41 22 1) r11 S12 → I78 a0 S r11 S12) 
    (v7 : ∀ (a0 : Int32) (S : ex_S) (x3 : Int32) (x4 : Int64) (T : ex_S), I36 a0 S x3 x4 T → ¬ (¬ a0 = 0) → ∀ (r15 : Int32) (S16 : ex_S), C187 x4 x3 (ex_sx T 41 22 1) r15 S16 → I78 a0 S r15 S16) 
    (v8 : ∀ (a0 : Int32) (S : ex_S) (x2 : Int32) (T : ex_S), I78 a0 S x2 T → x2 = 0 → I95 a0 S x2 T) 
    (v9 : ∀ (a0 : Int32) (S : ex_S) (x2 : Int32) (T : ex_S), I78 a0 S x2 T → ¬ (x2 = 0) → T.1 41 13 = 4 → I95 a0 S x2 T) 
    (v10 : ∀ (a0 : Int32) (S : ex_S) (x2 : Int32) (T : ex_S), I78 a0 S x2 T → ¬ (x2 = 0) → ¬ (T.1 41 13 = 4) → ∀ (r21 : Int32) (S22 : ex_S), C184 T r21 S22 → I95 a0 S r21 S22) 
    (v11 : ∀ (a0 : Int32) (S : ex_S) (x2 : Int32) (T : ex_S), I95 a0 S x2 T → x2 = 0 → I2 a0 S x2 T) 
    (v12 : ∀ (a0 : Int32) (S : ex_S) (x2 : Int32) (T : ex_S), I95 a0 S x2 T → ¬ (x2 = 0) → ∀ (S27 : ex_S), C179 T S27 → I2 a0 S x2 S27) : es186 C := by
  intro N d a0 S
  have LL : ∀ N : Nat, (∀ (x2 : Int32) (g3 : Value) (g4 : Value) (T : ex_S), g3.category = 1 → I95 a0 S x2 T → ex_P N d 186 95 [.ref 41, .int a0, .int x2, g3, g4, pm_no] [] T (fun r S_q => ∃ v, r = some (.int v) ∧ C a0 S v S_q)) ∧ (∀ (x2 : Int32) (g3 : Value) (g4 : Value) (T : ex_S), g3.category = 1 → I78 a0 S x2 T → ex_P N d 186 78 [.ref 41, .int a0, .int x2, g3, g4, pm_no] [] T (fun r S_q => ∃ v, r = some (.int v) ∧ C a0 S v S_q)) ∧ (∀ (g2 : Value) (x3 : Int32) (x4 : Int64) (T : ex_S), g2.category = 1 → I36 a0 S x3 x4 T → ex_P N d 186 36 [.ref 41, .int a0, g2, .int x3, .long x4, pm_no] [] T (fun r S_q => ∃ v, r = some (.int v) ∧ C a0 S v S_q)) ∧ (∀ (x2 : Int32) (g3 : Value) (g4 : Value) (T : ex_S), g3.category = 1 → I2 a0 S x2 T → ex_P N d 186 2 [.ref 41, .int a0, .int x2, g3, g4, pm_no] [] T (fun r S_q => ∃ v, r = some (.int v) ∧ C a0 S v S_q)) := by
    intro N
    induction N with
    | zero => exact ⟨fun _ _ _ _ _ _ => ex_zero, fun _ _ _ _ _ _ => ex_zero, fun _ _ _ _ _ _ => ex_zero, fun _ _ _ _ _ _ => ex_zero⟩
    | succ N ih =>
      obtain ⟨ih95, ih78, ih36, ih2⟩ := ih
      have L95 : ∀ (x2 : Int32) (g3 : Value) (g4 : Value) (T : ex_S), g3.category = 1 → I95 a0 S x2 T → ex_P (N + 1) d 186 95 [.ref 41, .int a0, .int x2, g3, g4, pm_no] [] T (fun r S_q => ∃ v, r = some (.int v) ∧ C a0 S v S_q) := by
        intro x2 g3 g4 T hg3 hI
        refine ex_lo pm_M186 (pc_q := 96) (ls_q := [.ref 41, .int a0, .int x2, g3, g4, pm_no]) (st_q := [.int x2]) rfl rfl rfl ?_
        refine ex_ifc pm_M186 (t := 103) (pc_q := 99) rfl rfl rfl (fun c24 => ?_) (fun c24 => ?_)
        · -- x2 = 0
          refine ex_goS pm_M186 (pc_q := 2) (st_q := []) rfl rfl ?_
          exact ih2 x2 g3 g4 T hg3 (v11 a0 S x2 T hI c24)
        · -- not
          refine ex_lo pm_M186 (pc_q := 100) (ls_q := [.ref 41, .int a0, .int x2, g3, g4, pm_no]) (st_q := [.ref 41]) rfl rfl rfl ?_
          refine ex_call pm_M186 (pc_q := 103) (ix := 164) (callee := 179) (np := 0) (kd := 0) (ra := [.ref 41]) (rest := []) rfl rfl rfl rfl pm_M179 rfl rfl rfl rfl (fun d25 => (H179 _ d25 T).mono (fun r S27 e => ?_))
          obtain ⟨rfl, h28⟩ := e
          show ex_P _ _ 186 103 [.ref 41, .int a0, .int x2, g3, g4, pm_no] [] S27 _
          refine ex_goS pm_M186 (pc_q := 2) (st_q := []) rfl rfl ?_
          exact ih2 x2 g3 g4 S27 hg3 (v12 a0 S x2 T hI c24 S27 h28)
      have L78 : ∀ (x2 : Int32) (g3 : Value) (g4 : Value) (T : ex_S), g3.category = 1 → I78 a0 S x2 T → ex_P (N + 1) d 186 78 [.ref 41, .int a0, .int x2, g3, g4, pm_no] [] T (fun r S_q => ∃ v, r = some (.int v) ∧ C a0 S v S_q) := by
        intro x2 g3 g4 T hg3 hI
        refine ex_lo pm_M186 (pc_q := 79) (ls_q := [.ref 41, .int a0, .int x2, g3, g4, pm_no]) (st_q := [.int x2]) rfl rfl rfl ?_
        refine ex_ifc pm_M186 (t := 95) (pc_q := 82) rfl rfl rfl (fun c18 => ?_) (fun c18 => ?_)
        · -- x2 = 0
          exact L95 x2 g3 g4 T hg3 (v8 a0 S x2 T hI c18)
        · -- not
          refine ex_lo pm_M186 (pc_q := 83) (ls_q := [.ref 41, .int a0, .int x2, g3, g4, pm_no]) (st_q := [.ref 41]) rfl rfl rfl ?_
          refine ex_getI' pm_M186 (pc_q := 86) (v := T.1 41 13) rfl rfl rfl rfl rfl rfl ?_
          refine ex_op pm_M186 (pc_q := 87) (st_q := [.int 4, .int (T.1 41 13)]) rfl rfl rfl ?_
          refine ex_icmp pm_M186 (t := 95) (pc_q := 90) rfl rfl rfl (fun c19 => ?_) (fun c19 => ?_)
          · -- T.1 41 13 = 4
            exact L95 x2 g3 g4 T hg3 (v9 a0 S x2 T hI c18 c19)
          · -- not
            refine ex_lo pm_M186 (pc_q := 91) (ls_q := [.ref 41, .int a0, .int x2, g3, g4, pm_no]) (st_q := [.ref 41]) rfl rfl rfl ?_
            refine ex_call pm_M186 (pc_q := 94) (ix := 152) (callee := 184) (np := 0) (kd := 0) (ra := [.ref 41]) (rest := []) rfl rfl rfl rfl pm_M184 rfl rfl rfl rfl (fun d20 => (H184 _ d20 T).mono (fun r S22 e => ?_))
            obtain ⟨r21, rfl, h23⟩ := e
            show ex_P _ _ 186 94 [.ref 41, .int a0, .int x2, g3, g4, pm_no] [.int r21] S22 _
            refine ex_lo pm_M186 (pc_q := 95) (ls_q := [.ref 41, .int a0, .int r21, g3, g4, pm_no]) (st_q := []) rfl rfl rfl ?_
            exact L95 r21 g3 g4 S22 hg3 (v10 a0 S x2 T hI c18 c19 r21 S22 h23)
      have L36 : ∀ (g2 : Value) (x3 : Int32) (x4 : Int64) (T : ex_S), g2.category = 1 → I36 a0 S x3 x4 T → ex_P (N + 1) d 186 36 [.ref 41, .int a0, g2, .int x3, .long x4, pm_no] [] T (fun r S_q => ∃ v, r = some (.int v) ∧ C a0 S v S_q) := by
        intro g2 x3 x4 T hg2 hI
        refine ex_lo pm_M186 (pc_q := 37) (ls_q := [.ref 41, .int a0, g2, .int x3, .long x4, pm_no]) (st_q := [.ref 41]) rfl rfl rfl ?_
        refine ex_op pm_M186 (pc_q := 38) (st_q := [.int 1, .ref 41]) rfl rfl rfl ?_
        refine ex_putI pm_M186 (pc_q := 41) rfl rfl rfl rfl rfl ?_
        refine ex_lo pm_M186 (pc_q := 42) (ls_q := [.ref 41, .int a0, g2, .int x3, .long x4, pm_no]) (st_q := [.int a0]) rfl rfl rfl ?_
        refine ex_ifc pm_M186 (t := 55) (pc_q := 45) rfl rfl rfl (fun c4 => ?_) (fun c4 => ?_)
        · -- ¬ a0 = 0
          refine ex_lo pm_M186 (pc_q := 56) (ls_q := [.ref 41, .int a0, g2, .int x3, .long x4, pm_no]) (st_q := [.int a0]) rfl rfl rfl ?_
          refine ex_op pm_M186 (pc_q := 57) (st_q := [.int 2, .int a0]) rfl rfl rfl ?_
          refine ex_icmp pm_M186 (t := 70) (pc_q := 60) rfl rfl rfl (fun c5 => ?_) (fun c5 => ?_)
          · -- ¬ a0 = 2
            refine ex_lo pm_M186 (pc_q := 71) (ls_q := [.ref 41, .int a0, g2, .int x3, .long x4, pm_no]) (st_q := [.ref 41]) rfl rfl rfl ?_
            refine ex_lo pm_M186 (pc_q := 73) (ls_q := [.ref 41, .int a0, g2, .int x3, .long x4, pm_no]) (st_q := [.long x4, .ref 41]) rfl rfl rfl ?_
            refine ex_lo pm_M186 (pc_q := 74) (ls_q := [.ref 41, .int a0, g2, .int x3, .long x4, pm_no]) (st_q := [.int x3, .long x4, .ref 41]) rfl rfl rfl ?_
            refine ex_call pm_M186 (pc_q := 77) (ix := 230) (callee := 192) (np := 2) (kd := 0) (ra := [.int x3, .long x4, .ref 41]) (rest := []) rfl rfl rfl rfl pm_M192 rfl rfl rfl rfl (fun d6 => (H192 _ d6 x4 x3 (ex_sx T 41 22 1)).mono (fun r S8 e => ?_))
            obtain ⟨r7, rfl, h9⟩ := e
            show ex_P _ _ 186 77 [.ref 41, .int a0, g2, .int x3, .long x4, pm_no] [.int r7] S8 _
            refine ex_lo pm_M186 (pc_q := 78) (ls_q := [.ref 41, .int a0, .int r7, .int x3, .long x4, pm_no]) (st_q := []) rfl rfl rfl ?_
            exact L78 r7 (.int x3) (.long x4) S8 rfl (v5 a0 S x3 x4 T hI c4 c5 r7 S8 h9)
          · -- not
            refine ex_lo pm_M186 (pc_q := 61) (ls_q := [.ref 41, .int a0, g2, .int x3, .long x4, pm_no]) (st_q := [.ref 41]) rfl rfl rfl ?_
            refine ex_lo pm_M186 (pc_q := 63) (ls_q := [.ref 41, .int a0, g2, .int x3, .long x4, pm_no]) (st_q := [.long x4, .ref 41]) rfl rfl rfl ?_
            refine ex_lo pm_M186 (pc_q := 64) (ls_q := [.ref 41, .int a0, g2, .int x3, .long x4, pm_no]) (st_q := [.int x3, .long x4, .ref 41]) rfl rfl rfl ?_
            refine ex_call pm_M186 (pc_q := 67) (ix := 227) (callee := 189) (np := 2) (kd := 0) (ra := [.int x3, .long x4, .ref 41]) (rest := []) rfl rfl rfl rfl pm_M189 rfl rfl rfl rfl (fun d10 => (H189 _ d10 x4 x3 (ex_sx T 41 22 1)).mono (fun r S12 e => ?_))
            obtain ⟨r11, rfl, h13⟩ := e
            show ex_P _ _ 186 67 [.ref 41, .int a0, g2, .int x3, .long x4, pm_no] [.int r11] S12 _
            refine ex_br pm_M186 (pc_q := 77) (st_q := [.int r11]) rfl rfl ?_
            refine ex_lo pm_M186 (pc_q := 78) (ls_q := [.ref 41, .int a0, .int r11, .int x3, .long x4, pm_no]) (st_q := []) rfl rfl rfl ?_
            exact L78 r11 (.int x3) (.long x4) S12 rfl (v6 a0 S x3 x4 T hI c4 c5 r11 S12 h13)
        · -- not
          refine ex_lo pm_M186 (pc_q := 46) (ls_q := [.ref 41, .int a0, g2, .int x3, .long x4, pm_no]) (st_q := [.ref 41]) rfl rfl rfl ?_
          refine ex_lo pm_M186 (pc_q := 48) (ls_q := [.ref 41, .int a0, g2, .int x3, .long x4, pm_no]) (st_q := [.long x4, .ref 41]) rfl rfl rfl ?_
          refine ex_lo pm_M186 (pc_q := 49) (ls_q := [.ref 41, .int a0, g2, .int x3, .long x4, pm_no]) (st_q := [.int x3, .long x4, .ref 41]) rfl rfl rfl ?_
          refine ex_call pm_M186 (pc_q := 52) (ix := 223) (callee := 187) (np := 2) (kd := 0) (ra := [.int x3, .long x4, .ref 41]) (rest := []) rfl rfl rfl rfl pm_M187 rfl rfl rfl rfl (fun d14 => (H187 _ d14 x4 x3 (ex_sx T 41 22 1)).mono (fun r S16 e => ?_))
          obtain ⟨r15, rfl, h17⟩ := e
          show ex_P _ _ 186 52 [.ref 41, .int a0, g2, .int x3, .long x4, pm_no] [.int r15] S16 _
          refine ex_br pm_M186 (pc_q := 77) (st_q := [.int r15]) rfl rfl ?_
          refine ex_lo pm_M186 (pc_q := 78) (ls_q := [.ref 41, .int a0, .int r15, .int x3, .long x4, pm_no]) (st_q := []) rfl rfl rfl ?_
          exact L78 r15 (.int x3) (.long x4) S16 rfl (v7 a0 S x3 x4 T hI c4 r15 S16 h17)
      have L2 : ∀ (x2 : Int32) (g3 : Value) (g4 : Value) (T : ex_S), g3.category = 1 → I2 a0 S x2 T → ex_P (N + 1) d 186 2 [.ref 41, .int a0, .int x2, g3, g4, pm_no] [] T (fun r S_q => ∃ v, r = some (.int v) ∧ C a0 S v S_q) := by
        intro x2 g3 g4 T hg3 hI
        refine ex_lo pm_M186 (pc_q := 3) (ls_q := [.ref 41, .int a0, .int x2, g3, g4, pm_no]) (st_q := [.int x2]) rfl rfl rfl ?_
        refine ex_ifc pm_M186 (t := 106) (pc_q := 6) rfl rfl rfl (fun c1 => ?_) (fun c1 => ?_)
        · -- x2 = 0
          refine ex_lo pm_M186 (pc_q := 107) (ls_q := [.ref 41, .int a0, .int x2, g3, g4, pm_no]) (st_q := [.int x2]) rfl rfl rfl ?_
          exact ex_retI pm_M186 rfl (⟨_, rfl, v1 a0 S x2 T hI c1⟩)
        · -- not
          refine ex_lo pm_M186 (pc_q := 7) (ls_q := [.ref 41, .int a0, .int x2, g3, g4, pm_no]) (st_q := [.ref 41]) rfl rfl rfl ?_
          refine ex_getI' pm_M186 (pc_q := 10) (v := T.1 41 13) rfl rfl rfl rfl rfl rfl ?_
          refine ex_ifc pm_M186 (t := 106) (pc_q := 13) rfl rfl rfl (fun c2 => ?_) (fun c2 => ?_)
          · -- T.1 41 13 = 0
            refine ex_lo pm_M186 (pc_q := 107) (ls_q := [.ref 41, .int a0, .int x2, g3, g4, pm_no]) (st_q := [.int x2]) rfl rfl rfl ?_
            exact ex_retI pm_M186 rfl (⟨_, rfl, v2 a0 S x2 T hI c1 c2⟩)
          · -- not
            refine ex_lo pm_M186 (pc_q := 14) (ls_q := [.ref 41, .int a0, .int x2, g3, g4, pm_no]) (st_q := [.ref 41]) rfl rfl rfl ?_
            refine ex_getI' pm_M186 (pc_q := 17) (v := T.1 41 12) rfl rfl rfl rfl rfl rfl ?_
            refine ex_lo pm_M186 (pc_q := 18) (ls_q := [.ref 41, .int a0, .int x2, .int (T.1 41 12), g4, pm_no]) (st_q := []) rfl rfl rfl ?_
            refine ex_lo pm_M186 (pc_q := 19) (ls_q := [.ref 41, .int a0, .int x2, .int (T.1 41 12), g4, pm_no]) (st_q := [.ref 41]) rfl rfl rfl ?_
            refine ex_getI' pm_M186 (pc_q := 22) (v := T.1 41 13) rfl rfl rfl rfl rfl rfl ?_
            refine ex_op pm_M186 (pc_q := 23) (st_q := [.int 2, .int (T.1 41 13)]) rfl rfl rfl ?_
            refine ex_icmp pm_M186 (t := 33) (pc_q := 26) rfl rfl rfl (fun c3 => ?_) (fun c3 => ?_)
            · -- ¬ T.1 41 13 = 2
              refine ex_op pm_M186 (pc_q := 34) (st_q := [.long 0]) rfl rfl rfl ?_
              refine ex_lo pm_M186 (pc_q := 36) (ls_q := [.ref 41, .int a0, .int x2, .int (T.1 41 12), .long 0, pm_no]) (st_q := []) rfl rfl rfl ?_
              exact L36 (.int x2) (T.1 41 12) 0 T rfl (v3 a0 S x2 T hI c1 c2 c3)
            · -- not
              refine ex_lo pm_M186 (pc_q := 27) (ls_q := [.ref 41, .int a0, .int x2, .int (T.1 41 12), g4, pm_no]) (st_q := [.ref 41]) rfl rfl rfl ?_
              refine ex_getL' pm_M186 (pc_q := 30) (v := T.2.1 41 15) rfl rfl rfl rfl rfl rfl ?_
              refine ex_br pm_M186 (pc_q := 34) (st_q := [.long (T.2.1 41 15)]) rfl rfl ?_
              refine ex_lo pm_M186 (pc_q := 36) (ls_q := [.ref 41, .int a0, .int x2, .int (T.1 41 12), .long (T.2.1 41 15), pm_no]) (st_q := []) rfl rfl rfl ?_
              exact L36 (.int x2) (T.1 41 12) (T.2.1 41 15) T rfl (v4 a0 S x2 T hI c1 c2 c3)
      exact ⟨L95, L78, L36, L2⟩
  obtain ⟨L95, L78, L36, L2⟩ := LL N
  refine ex_op pm_M186 (pc_q := 1) (st_q := [.int 1]) rfl rfl rfl ?_
  refine ex_lo pm_M186 (pc_q := 2) (ls_q := [.ref 41, .int a0, .int 1, pm_no, pm_no, pm_no]) (st_q := []) rfl rfl rfl ?_
  exact L2 1 pm_no pm_no S rfl (v0 a0 S)
set_option maxRecDepth 100000 in
set_option maxHeartbeats 4000000 in
/-- SilentTableModel.readText -/
theorem ev178 {C : Int32 → ex_S → Int32 → ex_S → Prop} {C179 : ex_S → ex_S → Prop} {C181 : ex_S → Int32 → ex_S → Prop} {C182 : Int32 → Int32 → ex_S → ex_S → Prop} {C186 : Int32 → ex_S → Int32 → ex_S → Prop} {I2 : Int32 → ex_S → Int32 → ex_S → Prop} {I38 : Int32 → ex_S → ex_S → Prop} {I75 : Int32 → ex_S → Int32 → ex_S → Prop} {I121 : Int32 → ex_S → Int32 → Int32 → ex_S → Prop} {I145 : Int32 → ex_S → Int32 → ex_S → Prop} {I163 : Int32 → ex_S → Int32 → ex_S → Prop} {I195 : Int32 → ex_S → ex_S → Prop} (H179 : es179 C179) (H181 : es181 C181) (H182 : es182 C182) (H186 : es186 C186) 
    (v0 : ∀ (a0 : Int32) (S : ex_S), I2 a0 S 0 S) 
    (v1 : ∀ (a0 : Int32) (S : ex_S) (x2 : Int32) (T : ex_S), I2 a0 S x2 T → 152 ≤ x2 → ¬ a0 = 2 → I38 a0 S (ex_sx T 51 0 0)) 
    (v2 : ∀ (a0 : Int32) (S : ex_S) (x2 : Int32) (T : ex_S), I2 a0 S x2 T → 152 ≤ x2 → ¬ (¬ a0 = 2) → I38 a0 S (ex_sx T 51 0 4)) 
    (v3 : ∀ (a0 : Int32) (S : ex_S) (x2 : Int32) (T : ex_S), I2 a0 S x2 T → ¬ (152 ≤ x2) → I2 a0 S (x2 + 1) (ex_sx T 51 x2.toNatClampNeg 0)) 
    (v4 : ∀ (a0 : Int32) (S : ex_S) (T : ex_S), I38 a0 S T → ∀ (S5 : ex_S), C179 (ex_sx (ex_sx (ex_sx T 41 21 (-1)) 41 10 0) 41 17 0) S5 → ¬ a0 = 1 → ∀ (r9 : Int32) (S10 : ex_S), C186 a0 S5 r9 S10 → I75 a0 S r9 S10) 
    (v5 : ∀ (a0 : Int32) (S : ex_S) (T : ex_S), I38 a0 S T → ∀ (S5 : ex_S), C179 (ex_sx (ex_sx (ex_sx T 41 21 (-1)) 41 10 0) 41 17 0) S5 → ¬ (¬ a0 = 1) → ∀ (r13 : Int32) (S14 : ex_S), C181 S5 r13 S14 → I75 a0 S r13 S14) 
    (v6 : ∀ (a0 : Int32) (S : ex_S) (x2 : Int32) (T : ex_S), I75 a0 S x2 T → ¬ a0 = 1 → ¬ a0 = 2 → I121 a0 S x2 0 T) 
    (v7 : ∀ (a0 : Int32) (S : ex_S) (x2 : Int32) (T : ex_S), I75 a0 S x2 T → ¬ a0 = 1 → ¬ (¬ a0 = 2) → T.1 41 21 < T.1 51 0 → I121 a0 S x2 0 T) 
    (v8 : ∀ (a0 : Int32) (S : ex_S) (x2 : Int32) (T : ex_S), I75 a0 S x2 T → ¬ a0 = 1 → ¬ (¬ a0 = 2) → ¬ (T.1 41 21 < T.1 51 0) → I121 a0 S x2 1 T) 
    (v9 : ∀ (a0 : Int32) (S : ex_S) (x2 : Int32) (T : ex_S), I75 a0 S x2 T → ¬ (¬ a0 = 1) → ¬ T.1 51 0 = 0 → I121 a0 S x2 0 T) 
    (v10 : ∀ (a0 : Int32) (S : ex_S) (x2 : Int32) (T : ex_S), I75 a0 S x2 T → ¬ (¬ a0 = 1) → ¬ (¬ T.1 51 0 = 0) → I121 a0 S x2 1 T) 
    (v11 : ∀ (a0 : Int32) (S : ex_S) (x2 : Int32) (x3 : Int32) (T : ex_S), I121 a0 S x2 x3 T → x2 = 0 → I145 a0 S x2 T) 
    (v12 : ∀ (a0 : Int32) (S : ex_S) (x2 : Int32) (x3 : Int32) (T : ex_S), I121 a0 S x2 x3 T → ¬ (x2 = 0) → ¬ T.1 41 17 = 0 → I145 a0 S x2 T) 
    (v13 : ∀ (a0 : Int32) (S : ex_S) (x2 : Int32) (x3 : Int32) (T : ex_S), I121 a0 S x2 x3 T → ¬ (x2 = 0) → ¬ (¬ T.1 41 17 = 0) → x3 = 0 → I145 a0 S x2 T) 
    (v14 : ∀ (a0 : Int32) (S : ex_S) (x2 : Int32) (x3 : Int32) (T : ex_S), I121 a0 S x2 x3 T → ¬ (x2 = 0) → ¬ (¬ T.1 41 17 = 0) → ¬ (x3 = 0) → ∀ (S25 : ex_S), C182 4 (T.1 41 12) T S25 → I145 a0 S x2 S25) 
    (v15 : ∀ (a0 : Int32) (S : ex_S) (x2 : Int32) (T : ex_S), I145 a0 S x2 T → x2 = 0 → I163 a0 S x2 (ex_sx T 44 0 1)) 
    (v16 : ∀ (a0 : Int32) (S : ex_S) (x2 : Int32) (T : ex_S), I145 a0 S x2 T → ¬ (x2 = 0) → I163 a0 S x2 (ex_sx T 44 0 (T.1 41 17))) 
    (v17 : ∀ (a0 : Int32) (S : ex_S) (x2 : Int32) (T : ex_S), I163 a0 S x2 T → ¬ x2 = 0 → T.1 41 17 ≤ 0 → I195 a0 S (ex_sx T 45 0 (-1))) 
    (v18 : ∀ (a0 : Int32) (S : ex_S) (x2 : Int32) (T : ex_S), I163 a0 S x2 T → ¬ x2 = 0 → ¬ (T.1 41 17 ≤ 0) → I195 a0 S (ex_sx T 45 0 (T.1 41 18))) 
    (v19 : ∀ (a0 : Int32) (S : ex_S) (x2 : Int32) (T : ex_S), I163 a0 S x2 T → ¬ (¬ x2 = 0) → I195 a0 S (ex_sx T 45 0 (T.1 41 16))) 
    (v20 : ∀ (a0 : Int32) (S : ex_S) (T : ex_S), I195 a0 S T → ¬ T.1 44 0 = 0 → C a0 S 0 T) 
    (v21 : ∀ (a0 : Int32) (S : ex_S) (T : ex_S), I195 a0 S T → ¬ (¬ T.1 44 0 = 0) → C a0 S 1 T) : es178 C := by
  intro N d a0 S
  have LL : ∀ N : Nat, (∀ (g2 : Value) (g3 : Value) (T : ex_S), g2.category = 1 → g3.category = 1 → I195 a0 S T → ex_P N d 178 195 [.ref 41, .int a0, g2, g3] [] T (fun r S_q => ∃ v, r = some (.int v) ∧ C a0 S v S_q)) ∧ (∀ (x2 : Int32) (g3 : Value) (T : ex_S), g3.category = 1 → I163 a0 S x2 T → ex_P N d 178 163 [.ref 41, .int a0, .int x2, g3] [] T (fun r S_q => ∃ v, r = some (.int v) ∧ C a0 S v S_q)) ∧ (∀ (x2 : Int32) (g3 : Value) (T : ex_S), g3.category = 1 → I145 a0 S x2 T → ex_P N d 178 145 [.ref 41, .int a0, .int x2, g3] [] T (fun r S_q => ∃ v, r = some (.int v) ∧ C a0 S v S_q)) ∧ (∀ (x2 : Int32) (x3 : Int32) (T : ex_S), I121 a0 S x2 x3 T → ex_P N d 178 121 [.ref 41, .int a0, .int x2, .int x3] [] T (fun r S_q => ∃ v, r = some (.int v) ∧ C a0 S v S_q)) ∧ (∀ (x2 : Int32) (g3 : Value) (T : ex_S), g3.category = 1 → I75 a0 S x2 T → ex_P N d 178 75 [.ref 41, .int a0, .int x2, g3] [] T (fun r S_q => ∃ v, r = some (.int v) ∧ C a0 S v S_q)) ∧ (∀ (g2 : Value) (g3 : Value) (T : ex_S), g2.category = 1 → g3.category = 1 → I38 a0 S T → ex_P N d 178 38 [.ref 41, .int a0, g2, g3] [] T (fun r S_q => ∃ v, r = some (.int v) ∧ C a0 S v S_q)) ∧ (∀ (x2 : Int32) (g3 : Value) (T : ex_S), g3.category = 1 → I2 a0 S x2 T → ex_P N d 178 2 [.ref 41, .int a0, .int x2, g3] [] T (fun r S_q => ∃ v, r = some (.int v) ∧ C a0 S v S_q)) := by
    intro N
    induction N with
    | zero => exact ⟨fun _ _ _ _ _ _ => ex_zero, fun _ _ _ _ _ => ex_zero, fun _ _ _ _ _ => ex_zero, fun _ _ _ _ => ex_zero, fun _ _ _ _ _ => ex_zero, fun _ _ _ _ _ _ => ex_zero, fun _ _ _ _ _ => ex_zero⟩
    | succ N ih =>
      obtain ⟨ih195, ih163, ih145, ih121, ih75, ih38, ih2⟩ := ih
      have L195 : ∀ (g2 : Value) (g3 : Value) (T : ex_S), g2.category = 1 → g3.category = 1 → I195 a0 S T → ex_P (N + 1) d 178 195 [.ref 41, .int a0, g2, g3] [] T (fun r S_q => ∃ v, r = some (.int v) ∧ C a0 S v S_q) := by
        intro g2 g3 T hg2 hg3 hI
        refine ex_lo pm_M178 (pc_q := 196) (ls_q := [.ref 41, .int a0, g2, g3]) (st_q := [.ref 41]) rfl rfl rfl ?_
        refine ex_getK pm_M178 (pc_q := 199) (j := 27) (b := 44) rfl rfl rfl rfl rfl ?_
        refine ex_op pm_M178 (pc_q := 200) (st_q := [.int 0, .ref 44]) rfl rfl rfl ?_
        refine ex_iald' pm_M178 (pc_q := 201) (v := T.1 44 0) rfl rfl rfl ?_
        refine ex_ifc pm_M178 (t := 208) (pc_q := 204) rfl rfl rfl (fun c30 => ?_) (fun c30 => ?_)
        · -- ¬ T.1 44 0 = 0
          refine ex_op pm_M178 (pc_q := 209) (st_q := [.int 0]) rfl rfl rfl ?_
          exact ex_retI pm_M178 rfl (⟨_, rfl, v20 a0 S T hI c30⟩)
        · -- not
          refine ex_op pm_M178 (pc_q := 205) (st_q := [.int 1]) rfl rfl rfl ?_
          refine ex_br pm_M178 (pc_q := 209) (st_q := [.int 1]) rfl rfl ?_
          exact ex_retI pm_M178 rfl (⟨_, rfl, v21 a0 S T hI c30⟩)
      have L163 : ∀ (x2 : Int32) (g3 : Value) (T : ex_S), g3.category = 1 → I163 a0 S x2 T → ex_P (N + 1) d 178 163 [.ref 41, .int a0, .int x2, g3] [] T (fun r S_q => ∃ v, r = some (.int v) ∧ C a0 S v S_q) := by
        intro x2 g3 T hg3 hI
        refine ex_lo pm_M178 (pc_q := 164) (ls_q := [.ref 41, .int a0, .int x2, g3]) (st_q := [.ref 41]) rfl rfl rfl ?_
        refine ex_getK pm_M178 (pc_q := 167) (j := 28) (b := 45) rfl rfl rfl rfl rfl ?_
        refine ex_op pm_M178 (pc_q := 168) (st_q := [.int 0, .ref 45]) rfl rfl rfl ?_
        refine ex_lo pm_M178 (pc_q := 169) (ls_q := [.ref 41, .int a0, .int x2, g3]) (st_q := [.int x2, .int 0, .ref 45]) rfl rfl rfl ?_
        refine ex_ifc pm_M178 (t := 179) (pc_q := 172) rfl rfl rfl (fun c28 => ?_) (fun c28 => ?_)
        · -- ¬ x2 = 0
          refine ex_lo pm_M178 (pc_q := 180) (ls_q := [.ref 41, .int a0, .int x2, g3]) (st_q := [.ref 41, .int 0, .ref 45]) rfl rfl rfl ?_
          refine ex_getI' pm_M178 (pc_q := 183) (v := T.1 41 17) rfl rfl rfl rfl rfl rfl ?_
          refine ex_ifc pm_M178 (t := 193) (pc_q := 186) rfl rfl rfl (fun c29 => ?_) (fun c29 => ?_)
          · -- T.1 41 17 ≤ 0
            refine ex_op pm_M178 (pc_q := 194) (st_q := [.int (-1), .int 0, .ref 45]) rfl rfl rfl ?_
            refine ex_iast pm_M178 (pc_q := 195) rfl rfl ?_
            show ex_P _ _ 178 195 [.ref 41, .int a0, .int x2, g3] [] (ex_sx T 45 0 (-1)) _
            exact L195 (.int x2) g3 (ex_sx T 45 0 (-1)) rfl hg3 (v17 a0 S x2 T hI c28 c29)
          · -- not
            refine ex_lo pm_M178 (pc_q := 187) (ls_q := [.ref 41, .int a0, .int x2, g3]) (st_q := [.ref 41, .int 0, .ref 45]) rfl rfl rfl ?_
            refine ex_getI' pm_M178 (pc_q := 190) (v := T.1 41 18) rfl rfl rfl rfl rfl rfl ?_
            refine ex_br pm_M178 (pc_q := 194) (st_q := [.int (T.1 41 18), .int 0, .ref 45]) rfl rfl ?_
            refine ex_iast pm_M178 (pc_q := 195) rfl rfl ?_
            show ex_P _ _ 178 195 [.ref 41, .int a0, .int x2, g3] [] (ex_sx T 45 0 (T.1 41 18)) _
            exact L195 (.int x2) g3 (ex_sx T 45 0 (T.1 41 18)) rfl hg3 (v18 a0 S x2 T hI c28 c29)
        · -- not
          refine ex_lo pm_M178 (pc_q := 173) (ls_q := [.ref 41, .int a0, .int x2, g3]) (st_q := [.ref 41, .int 0, .ref 45]) rfl rfl rfl ?_
          refine ex_getI' pm_M178 (pc_q := 176) (v := T.1 41 16) rfl rfl rfl rfl rfl rfl ?_
          refine ex_br pm_M178 (pc_q := 194) (st_q := [.int (T.1 41 16), .int 0, .ref 45]) rfl rfl ?_
          refine ex_iast pm_M178 (pc_q := 195) rfl rfl ?_
          show ex_P _ _ 178 195 [.ref 41, .int a0, .int x2, g3] [] (ex_sx T 45 0 (T.1 41 16)) _
          exact L195 (.int x2) g3 (ex_sx T 45 0 (T.1 41 16)) rfl hg3 (v19 a0 S x2 T hI c28)
      have L145 : ∀ (x2 : Int32) (g3 : Value) (T : ex_S), g3.category = 1 → I145 a0 S x2 T → ex_P (N + 1) d 178 145 [.ref 41, .int a0, .int x2, g3] [] T (fun r S_q => ∃ v, r = some (.int v) ∧ C a0 S v S_q) := by
        intro x2 g3 T hg3 hI
        refine ex_lo pm_M178 (pc_q := 146) (ls_q := [.ref 41, .int a0, .int x2, g3]) (st_q := [.ref 41]) rfl rfl rfl ?_
        refine ex_getK pm_M178 (pc_q := 149) (j := 27) (b := 44) rfl rfl rfl rfl rfl ?_
        refine ex_op pm_M178 (pc_q := 150) (st_q := [.int 0, .ref 44]) rfl rfl rfl ?_
        refine ex_lo pm_M178 (pc_q := 151) (ls_q := [.ref 41, .int a0, .int x2, g3]) (st_q := [.int x2, .int 0, .ref 44]) rfl rfl rfl ?_
        refine ex_ifc pm_M178 (t := 161) (pc_q := 154) rfl rfl rfl (fun c27 => ?_) (fun c27 => ?_)
        · -- x2 = 0
          refine ex_op pm_M178 (pc_q := 162) (st_q := [.int 1, .int 0, .ref 44]) rfl rfl rfl ?_
          refine ex_iast pm_M178 (pc_q := 163) rfl rfl ?_
          show ex_P _ _ 178 163 [.ref 41, .int a0, .int x2, g3] [] (ex_sx T 44 0 1) _
          exact L163 x2 g3 (ex_sx T 44 0 1) hg3 (v15 a0 S x2 T hI c27)
        · -- not
          refine ex_lo pm_M178 (pc_q := 155) (ls_q := [.ref 41, .int a0, .int x2, g3]) (st_q := [.ref 41, .int 0, .ref 44]) rfl rfl rfl ?_
          refine ex_getI' pm_M178 (pc_q := 158) (v := T.1 41 17) rfl rfl rfl rfl rfl rfl ?_
          refine ex_br pm_M178 (pc_q := 162) (st_q := [.int (T.1 41 17), .int 0, .ref 44]) rfl rfl ?_
          refine ex_iast pm_M178 (pc_q := 163) rfl rfl ?_
          show ex_P _ _ 178 163 [.ref 41, .int a0, .int x2, g3] [] (ex_sx T 44 0 (T.1 41 17)) _
          exact L163 x2 g3 (ex_sx T 44 0 (T.1 41 17)) hg3 (v16 a0 S x2 T hI c27)
      have L121 : ∀ (x2 : Int32) (x3 : Int32) (T : ex_S), I121 a0 S x2 x3 T → ex_P (N + 1) d 178 121 [.ref 41, .int a0, .int x2, .int x3] [] T (fun r S_q => ∃ v, r = some (.int v) ∧ C a0 S v S_q) := by
        intro x2 x3 T hI
        refine ex_lo pm_M178 (pc_q := 122) (ls_q := [.ref 41, .int a0, .int x2, .int x3]) (st_q := [.int x2]) rfl rfl rfl ?_
        refine ex_ifc pm_M178 (t := 145) (pc_q := 125) rfl rfl rfl (fun c20 => ?_) (fun c20 => ?_)
        · -- x2 = 0
          exact L145 x2 (.int x3) T rfl (v11 a0 S x2 x3 T hI c20)
        · -- not
          refine ex_lo pm_M178 (pc_q := 126) (ls_q := [.ref 41, .int a0, .int x2, .int x3]) (st_q := [.ref 41]) rfl rfl rfl ?_
          refine ex_getI' pm_M178 (pc_q := 129) (v := T.1 41 17) rfl rfl rfl rfl rfl rfl ?_
          refine ex_ifc pm_M178 (t := 145) (pc_q := 132) rfl rfl rfl (fun c21 => ?_) (fun c21 => ?_)
          · -- ¬ T.1 41 17 = 0
            exact L145 x2 (.int x3) T rfl (v12 a0 S x2 x3 T hI c20 c21)
          · -- not
            refine ex_lo pm_M178 (pc_q := 133) (ls_q := [.ref 41, .int a0, .int x2, .int x3]) (st_q := [.int x3]) rfl rfl rfl ?_
            refine ex_ifc pm_M178 (t := 145) (pc_q := 136) rfl rfl rfl (fun c22 => ?_) (fun c22 => ?_)
            · -- x3 = 0
              exact L145 x2 (.int x3) T rfl (v13 a0 S x2 x3 T hI c20 c21 c22)
            · -- not
              refine ex_lo pm_M178 (pc_q := 137) (ls_q := [.ref 41, .int a0, .int x2, .int x3]) (st_q := [.ref 41]) rfl rfl rfl ?_
              refine ex_op pm_M178 (pc_q := 138) (st_q := [.int 4, .ref 41]) rfl rfl rfl ?_
              refine ex_lo pm_M178 (pc_q := 139) (ls_q := [.ref 41, .int a0, .int x2, .int x3]) (st_q := [.ref 41, .int 4, .ref 41]) rfl rfl rfl ?_
              refine ex_getI' pm_M178 (pc_q := 142) (v := T.1 41 12) rfl rfl rfl rfl rfl rfl ?_
              refine ex_call pm_M178 (pc_q := 145) (ix := 156) (callee := 182) (np := 2) (kd := 0) (ra := [.int (T.1 41 12), .int 4, .ref 41]) (rest := []) rfl rfl rfl rfl pm_M182 rfl rfl rfl rfl (fun d23 => (H182 _ d23 4 (T.1 41 12) T).mono (fun r S25 e => ?_))
              obtain ⟨rfl, h26⟩ := e
              show ex_P _ _ 178 145 [.ref 41, .int a0, .int x2, .int x3] [] S25 _
              exact L145 x2 (.int x3) S25 rfl (v14 a0 S x2 x3 T hI c20 c21 c22 S25 h26)
      have L75 : ∀ (x2 : Int32) (g3 : Value) (T : ex_S), g3.category = 1 → I75 a0 S x2 T → ex_P (N + 1) d 178 75 [.ref 41, .int a0, .int x2, g3] [] T (fun r S_q => ∃ v, r = some (.int v) ∧ C a0 S v S_q) := by
        intro x2 g3 T hg3 hI
        refine ex_lo pm_M178 (pc_q := 76) (ls_q := [.ref 41, .int a0, .int x2, g3]) (st_q := [.int a0]) rfl rfl rfl ?_
        refine ex_op pm_M178 (pc_q := 77) (st_q := [.int 1, .int a0]) rfl rfl rfl ?_
        refine ex_icmp pm_M178 (t := 97) (pc_q := 80) rfl rfl rfl (fun c16 => ?_) (fun c16 => ?_)
        · -- ¬ a0 = 1
          refine ex_lo pm_M178 (pc_q := 98) (ls_q := [.ref 41, .int a0, .int x2, g3]) (st_q := [.int a0]) rfl rfl rfl ?_
          refine ex_op pm_M178 (pc_q := 99) (st_q := [.int 2, .int a0]) rfl rfl rfl ?_
          refine ex_icmp pm_M178 (t := 119) (pc_q := 102) rfl rfl rfl (fun c17 => ?_) (fun c17 => ?_)
          · -- ¬ a0 = 2
            refine ex_op pm_M178 (pc_q := 120) (st_q := [.int 0]) rfl rfl rfl ?_
            refine ex_lo pm_M178 (pc_q := 121) (ls_q := [.ref 41, .int a0, .int x2, .int 0]) (st_q := []) rfl rfl rfl ?_
            exact L121 x2 0 T (v6 a0 S x2 T hI c16 c17)
          · -- not
            refine ex_lo pm_M178 (pc_q := 103) (ls_q := [.ref 41, .int a0, .int x2, g3]) (st_q := [.ref 41]) rfl rfl rfl ?_
            refine ex_getI' pm_M178 (pc_q := 106) (v := T.1 41 21) rfl rfl rfl rfl rfl rfl ?_
            refine ex_lo pm_M178 (pc_q := 107) (ls_q := [.ref 41, .int a0, .int x2, g3]) (st_q := [.ref 41, .int (T.1 41 21)]) rfl rfl rfl ?_
            refine ex_getK pm_M178 (pc_q := 110) (j := 34) (b := 51) rfl rfl rfl rfl rfl ?_
            refine ex_op pm_M178 (pc_q := 111) (st_q := [.int 0, .ref 51, .int (T.1 41 21)]) rfl rfl rfl ?_
            refine ex_iald' pm_M178 (pc_q := 112) (v := T.1 51 0) rfl rfl rfl ?_
            refine ex_icmp pm_M178 (t := 119) (pc_q := 115) rfl rfl rfl (fun c18 => ?_) (fun c18 => ?_)
            · -- T.1 41 21 < T.1 51 0
              refine ex_op pm_M178 (pc_q := 120) (st_q := [.int 0]) rfl rfl rfl ?_
              refine ex_lo pm_M178 (pc_q := 121) (ls_q := [.ref 41, .int a0, .int x2, .int 0]) (st_q := []) rfl rfl rfl ?_
              exact L121 x2 0 T (v7 a0 S x2 T hI c16 c17 c18)
            · -- not
              refine ex_op pm_M178 (pc_q := 116) (st_q := [.int 1]) rfl rfl rfl ?_
              refine ex_br pm_M178 (pc_q := 120) (st_q := [.int 1]) rfl rfl ?_
              refine ex_lo pm_M178 (pc_q := 121) (ls_q := [.ref 41, .int a0, .int x2, .int 1]) (st_q := []) rfl rfl rfl ?_
              exact L121 x2 1 T (v8 a0 S x2 T hI c16 c17 c18)
        · -- not
          refine ex_lo pm_M178 (pc_q := 81) (ls_q := [.ref 41, .int a0, .int x2, g3]) (st_q := [.ref 41]) rfl rfl rfl ?_
          refine ex_getK pm_M178 (pc_q := 84) (j := 34) (b := 51) rfl rfl rfl rfl rfl ?_
          refine ex_op pm_M178 (pc_q := 85) (st_q := [.int 0, .ref 51]) rfl rfl rfl ?_
          refine ex_iald' pm_M178 (pc_q := 86) (v := T.1 51 0) rfl rfl rfl ?_
          refine ex_ifc pm_M178 (t := 93) (pc_q := 89) rfl rfl rfl (fun c19 => ?_) (fun c19 => ?_)
          · -- ¬ T.1 51 0 = 0
            refine ex_op pm_M178 (pc_q := 94) (st_q := [.int 0]) rfl rfl rfl ?_
            refine ex_br pm_M178 (pc_q := 120) (st_q := [.int 0]) rfl rfl ?_
            refine ex_lo pm_M178 (pc_q := 121) (ls_q := [.ref 41, .int a0, .int x2, .int 0]) (st_q := []) rfl rfl rfl ?_
            exact L121 x2 0 T (v9 a0 S x2 T hI c16 c19)
          · -- not
            refine ex_op pm_M178 (pc_q := 90) (st_q := [.int 1]) rfl rfl rfl ?_
            refine ex_br pm_M178 (pc_q := 120) (st_q := [.int 1]) rfl rfl ?_
            refine ex_lo pm_M178 (pc_q := 121) (ls_q := [.ref 41, .int a0, .int x2, .int 1]) (st_q := []) rfl rfl rfl ?_
            exact L121 x2 1 T (v10 a0 S x2 T hI c16 c19)
      have L38 : ∀ (g2 : Value) (g3 : Value) (T : ex_S), g2.category = 1 → g3.category = 1 → I38 a0 S T → ex_P (N + 1) d 178 38 [.ref 41, .int a0, g2, g3] [] T (fun r S_q => ∃ v, r = some (.int v) ∧ C a0 S v S_q) := by
        intro g2 g3 T hg2 hg3 hI
        refine ex_lo pm_M178 (pc_q := 39) (ls_q := [.ref 41, .int a0, g2, g3]) (st_q := [.ref 41]) rfl rfl rfl ?_
        refine ex_op pm_M178 (pc_q := 40) (st_q := [.int (-1), .ref 41]) rfl rfl rfl ?_
        refine ex_putI pm_M178 (pc_q := 43) rfl rfl rfl rfl rfl ?_
        refine ex_lo pm_M178 (pc_q := 44) (ls_q := [.ref 41, .int a0, g2, g3]) (st_q := [.ref 41]) rfl rfl rfl ?_
        refine ex_op pm_M178 (pc_q := 45) (st_q := [.int 0, .ref 41]) rfl rfl rfl ?_
        refine ex_putI pm_M178 (pc_q := 48) rfl rfl rfl rfl rfl ?_
        refine ex_lo pm_M178 (pc_q := 49) (ls_q := [.ref 41, .int a0, g2, g3]) (st_q := [.ref 41]) rfl rfl rfl ?_
        refine ex_op pm_M178 (pc_q := 50) (st_q := [.int 0, .ref 41]) rfl rfl rfl ?_
        refine ex_putI pm_M178 (pc_q := 53) rfl rfl rfl rfl rfl ?_
        refine ex_lo pm_M178 (pc_q := 54) (ls_q := [.ref 41, .int a0, g2, g3]) (st_q := [.ref 41]) rfl rfl rfl ?_
        refine ex_call pm_M178 (pc_q := 57) (ix := 164) (callee := 179) (np := 0) (kd := 0) (ra := [.ref 41]) (rest := []) rfl rfl rfl rfl pm_M179 rfl rfl rfl rfl (fun d3 => (H179 _ d3 (ex_sx (ex_sx (ex_sx T 41 21 (-1)) 41 10 0) 41 17 0)).mono (fun r S5 e => ?_))
        obtain ⟨rfl, h6⟩ := e
        show ex_P _ _ 178 57 [.ref 41, .int a0, g2, g3] [] S5 _
        refine ex_lo pm_M178 (pc_q := 58) (ls_q := [.ref 41, .int a0, g2, g3]) (st_q := [.int a0]) rfl rfl rfl ?_
        refine ex_op pm_M178 (pc_q := 59) (st_q := [.int 1, .int a0]) rfl rfl rfl ?_
        refine ex_icmp pm_M178 (t := 69) (pc_q := 62) rfl rfl rfl (fun c7 => ?_) (fun c7 => ?_)
        · -- ¬ a0 = 1
          refine ex_lo pm_M178 (pc_q := 70) (ls_q := [.ref 41, .int a0, g2, g3]) (st_q := [.ref 41]) rfl rfl rfl ?_
          refine ex_lo pm_M178 (pc_q := 71) (ls_q := [.ref 41, .int a0, g2, g3]) (st_q := [.int a0, .ref 41]) rfl rfl rfl ?_
          refine ex_call pm_M178 (pc_q := 74) (ix := 236) (callee := 186) (np := 1) (kd := 0) (ra := [.int a0, .ref 41]) (rest := []) rfl rfl rfl rfl pm_M186 rfl rfl rfl rfl (fun d8 => (H186 _ d8 a0 S5).mono (fun r S10 e => ?_))
          obtain ⟨r9, rfl, h11⟩ := e
          show ex_P _ _ 178 74 [.ref 41, .int a0, g2, g3] [.int r9] S10 _
          refine ex_lo pm_M178 (pc_q := 75) (ls_q := [.ref 41, .int a0, .int r9, g3]) (st_q := []) rfl rfl rfl ?_
          exact L75 r9 g3 S10 hg3 (v4 a0 S T hI S5 h6 c7 r9 S10 h11)
        · -- not
          refine ex_lo pm_M178 (pc_q := 63) (ls_q := [.ref 41, .int a0, g2, g3]) (st_q := [.ref 41]) rfl rfl rfl ?_
          refine ex_call pm_M178 (pc_q := 66) (ix := 233) (callee := 181) (np := 0) (kd := 0) (ra := [.ref 41]) (rest := []) rfl rfl rfl rfl pm_M181 rfl rfl rfl rfl (fun d12 => (H181 _ d12 S5).mono (fun r S14 e => ?_))
          obtain ⟨r13, rfl, h15⟩ := e
          show ex_P _ _ 178 66 [.ref 41, .int a0, g2, g3] [.int r13] S14 _
          refine ex_br pm_M178 (pc_q := 74) (st_q := [.int r13]) rfl rfl ?_
          refine ex_lo pm_M178 (pc_q := 75) (ls_q := [.ref 41, .int a0, .int r13, g3]) (st_q := []) rfl rfl rfl ?_
          exact L75 r13 g3 S14 hg3 (v5 a0 S T hI S5 h6 c7 r13 S14 h15)
      have L2 : ∀ (x2 : Int32) (g3 : Value) (T : ex_S), g3.category = 1 → I2 a0 S x2 T → ex_P (N + 1) d 178 2 [.ref 41, .int a0, .int x2, g3] [] T (fun r S_q => ∃ v, r = some (.int v) ∧ C a0 S v S_q) := by
        intro x2 g3 T hg3 hI
        refine ex_lo pm_M178 (pc_q := 3) (ls_q := [.ref 41, .int a0, .int x2, g3]) (st_q := [.int x2]) rfl rfl rfl ?_
        refine ex_op pm_M178 (pc_q := 6) (st_q := [.int 152, .int x2]) rfl rfl rfl ?_
        refine ex_icmp pm_M178 (t := 22) (pc_q := 9) rfl rfl rfl (fun c1 => ?_) (fun c1 => ?_)
        · -- 152 ≤ x2
          refine ex_lo pm_M178 (pc_q := 23) (ls_q := [.ref 41, .int a0, .int x2, g3]) (st_q := [.ref 41]) rfl rfl rfl ?_
          refine ex_getK pm_M178 (pc_q := 26) (j := 34) (b := 51) rfl rfl rfl rfl rfl ?_
          refine ex_op pm_M178 (pc_q := 27) (st_q := [.int 0, .ref 51]) rfl rfl rfl ?_
          refine ex_lo pm_M178 (pc_q := 28) (ls_q := [.ref 41, .int a0, .int x2, g3]) (st_q := [.int a0, .int 0, .ref 51]) rfl rfl rfl ?_
          refine ex_op pm_M178 (pc_q := 29) (st_q := [.int 2, .int a0, .int 0, .ref 51]) rfl rfl rfl ?_
          refine ex_icmp pm_M178 (t := 36) (pc_q := 32) rfl rfl rfl (fun c2 => ?_) (fun c2 => ?_)
          · -- ¬ a0 = 2
            refine ex_op pm_M178 (pc_q := 37) (st_q := [.int 0, .int 0, .ref 51]) rfl rfl rfl ?_
            refine ex_iast pm_M178 (pc_q := 38) rfl rfl ?_
            show ex_P _ _ 178 38 [.ref 41, .int a0, .int x2, g3] [] (ex_sx T 51 0 0) _
            exact L38 (.int x2) g3 (ex_sx T 51 0 0) rfl hg3 (v1 a0 S x2 T hI c1 c2)
          · -- not
            refine ex_op pm_M178 (pc_q := 33) (st_q := [.int 4, .int 0, .ref 51]) rfl rfl rfl ?_
            refine ex_br pm_M178 (pc_q := 37) (st_q := [.int 4, .int 0, .ref 51]) rfl rfl ?_
            refine ex_iast pm_M178 (pc_q := 38) rfl rfl ?_
            show ex_P _ _ 178 38 [.ref 41, .int a0, .int x2, g3] [] (ex_sx T 51 0 4) _
            exact L38 (.int x2) g3 (ex_sx T 51 0 4) rfl hg3 (v2 a0 S x2 T hI c1 c2)
        · -- not
          refine ex_lo pm_M178 (pc_q := 10) (ls_q := [.ref 41, .int a0, .int x2, g3]) (st_q := [.ref 41]) rfl rfl rfl ?_
          refine ex_getK pm_M178 (pc_q := 13) (j := 34) (b := 51) rfl rfl rfl rfl rfl ?_
          refine ex_lo pm_M178 (pc_q := 14) (ls_q := [.ref 41, .int a0, .int x2, g3]) (st_q := [.int x2, .ref 51]) rfl rfl rfl ?_
          refine ex_op pm_M178 (pc_q := 15) (st_q := [.int 0, .int x2, .ref 51]) rfl rfl rfl ?_
          refine ex_iast pm_M178 (pc_q := 16) rfl rfl ?_
          refine ex_lo pm_M178 (pc_q := 19) (ls_q := [.ref 41, .int a0, .int (x2 + 1), g3]) (st_q := []) rfl rfl rfl ?_
          refine ex_goS pm_M178 (pc_q := 2) (st_q := []) rfl rfl ?_
          exact ih2 (x2 + 1) g3 (ex_sx T 51 x2.toNatClampNeg 0) hg3 (v3 a0 S x2 T hI c1)
      exact ⟨L195, L163, L145, L121, L75, L38, L2⟩
  obtain ⟨L195, L163, L145, L121, L75, L38, L2⟩ := LL N
  refine ex_op pm_M178 (pc_q := 1) (st_q := [.int 0]) rfl rfl rfl ?_
  refine ex_lo pm_M178 (pc_q := 2) (ls_q := [.ref 41, .int a0, .int 0, pm_no]) (st_q := []) rfl rfl rfl ?_
  exact L2 0 pm_no S rfl (v0 a0 S)
