set_option maxRecDepth 100000 in
set_option maxHeartbeats 4000000 in
/-- SilentTableModel.four -/
theorem ev172 {C : Int32 → ex_S → ex_S → Prop} {I3 : Int32 → ex_S → Int32 → ex_S → Prop} 
    (v0 : ∀ (a0 : Int32) (S : ex_S), I3 a0 S 24 S) 
    (v1 : ∀ (a0 : Int32) (S : ex_S) (x2 : Int32) (T : ex_S), I3 a0 S x2 T → x2 < 0 → C a0 S T) 
    (v2 : ∀ (a0 : Int32) (S : ex_S) (x2 : Int32) (T : ex_S), I3 a0 S x2 T → ¬ (x2 < 0) → I3 a0 S (x2 + (-8)) (ex_sx (ex_sx T 42 ((T.1 43 0).toNatClampNeg) (((a0 >>> (x2 &&& 31)).toInt8.toInt32).toInt8.toInt32)) 43 0 ((T.1 43 0) + 1))) : es172 C := by
  intro N d a0 S
  have LL : ∀ N : Nat, (∀ (x2 : Int32) (T : ex_S), I3 a0 S x2 T → ex_P N d 172 3 [.ref 41, .int a0, .int x2] [] T (fun r S_q => r = none ∧ C a0 S S_q)) := by
    intro N
    induction N with
    | zero => exact fun _ _ _ => ex_zero
    | succ N ih =>
      have ih3 := ih
      have L3 : ∀ (x2 : Int32) (T : ex_S), I3 a0 S x2 T → ex_P (N + 1) d 172 3 [.ref 41, .int a0, .int x2] [] T (fun r S_q => r = none ∧ C a0 S S_q) := by
        intro x2 T hI
        refine ex_lo pm_M172 (pc_q := 4) (ls_q := [.ref 41, .int a0, .int x2]) (st_q := [.int x2]) rfl rfl rfl ?_
        refine ex_ifc pm_M172 (t := 38) (pc_q := 7) rfl rfl rfl (fun c1 => ?_) (fun c1 => ?_)
        · -- x2 < 0
          exact ex_ret pm_M172 (r := none) rfl rfl (⟨rfl, v1 a0 S x2 T hI c1⟩)
        · -- not
          refine ex_lo pm_M172 (pc_q := 8) (ls_q := [.ref 41, .int a0, .int x2]) (st_q := [.ref 41]) rfl rfl rfl ?_
          refine ex_getK pm_M172 (pc_q := 11) (j := 25) (b := 42) rfl rfl rfl rfl rfl ?_
          refine ex_lo pm_M172 (pc_q := 12) (ls_q := [.ref 41, .int a0, .int x2]) (st_q := [.ref 41, .ref 42]) rfl rfl rfl ?_
          refine ex_getK pm_M172 (pc_q := 15) (j := 26) (b := 43) rfl rfl rfl rfl rfl ?_
          refine ex_op pm_M172 (pc_q := 16) (st_q := [.int 0, .ref 43, .ref 42]) rfl rfl rfl ?_
          refine ex_iald' pm_M172 (pc_q := 17) (v := T.1 43 0) rfl rfl rfl ?_
          refine ex_lo pm_M172 (pc_q := 18) (ls_q := [.ref 41, .int a0, .int x2]) (st_q := [.int a0, .int (T.1 43 0), .ref 42]) rfl rfl rfl ?_
          refine ex_lo pm_M172 (pc_q := 19) (ls_q := [.ref 41, .int a0, .int x2]) (st_q := [.int x2, .int a0, .int (T.1 43 0), .ref 42]) rfl rfl rfl ?_
          refine ex_op pm_M172 (pc_q := 20) (st_q := [.int (a0 >>> (x2 &&& 31)), .int (T.1 43 0), .ref 42]) rfl rfl rfl ?_
          refine ex_op pm_M172 (pc_q := 21) (st_q := [.int ((a0 >>> (x2 &&& 31)).toInt8.toInt32), .int (T.1 43 0), .ref 42]) rfl rfl rfl ?_
          refine ex_bast pm_M172 (pc_q := 22) (jx := 1) (y := ((a0 >>> (x2 &&& 31)).toInt8.toInt32).toInt8.toInt32) rfl rfl rfl rfl ?_
          refine ex_lo pm_M172 (pc_q := 23) (ls_q := [.ref 41, .int a0, .int x2]) (st_q := [.ref 41]) rfl rfl rfl ?_
          refine ex_getK pm_M172 (pc_q := 26) (j := 26) (b := 43) rfl rfl rfl rfl rfl ?_
          refine ex_op pm_M172 (pc_q := 27) (st_q := [.int 0, .ref 43]) rfl rfl rfl ?_
          refine ex_op pm_M172 (pc_q := 28) (st_q := [.int 0, .ref 43, .int 0, .ref 43]) rfl rfl rfl ?_
          refine ex_iald' pm_M172 (pc_q := 29) (v := T.1 43 0) rfl rfl rfl ?_
          refine ex_op pm_M172 (pc_q := 30) (st_q := [.int 1, .int (T.1 43 0), .int 0, .ref 43]) rfl rfl rfl ?_
          refine ex_op pm_M172 (pc_q := 31) (st_q := [.int ((T.1 43 0) + 1), .int 0, .ref 43]) rfl rfl rfl ?_
          refine ex_iast pm_M172 (pc_q := 32) rfl rfl ?_
          show ex_P _ _ 172 32 [.ref 41, .int a0, .int x2] [] (ex_sx (ex_sx T 42 ((T.1 43 0).toNatClampNeg) (((a0 >>> (x2 &&& 31)).toInt8.toInt32).toInt8.toInt32)) 43 0 ((T.1 43 0) + 1)) _
          refine ex_lo pm_M172 (pc_q := 35) (ls_q := [.ref 41, .int a0, .int (x2 + (-8))]) (st_q := []) rfl rfl rfl ?_
          refine ex_goS pm_M172 (pc_q := 3) (st_q := []) rfl rfl ?_
          exact ih3 (x2 + (-8)) (ex_sx (ex_sx T 42 ((T.1 43 0).toNatClampNeg) (((a0 >>> (x2 &&& 31)).toInt8.toInt32).toInt8.toInt32)) 43 0 ((T.1 43 0) + 1)) (v2 a0 S x2 T hI c1)
      exact L3
  have L3 := LL N
  refine ex_op pm_M172 (pc_q := 2) (st_q := [.int 24]) rfl rfl rfl ?_
  refine ex_lo pm_M172 (pc_q := 3) (ls_q := [.ref 41, .int a0, .int 24]) (st_q := []) rfl rfl rfl ?_
  exact L3 24 S (v0 a0 S)
set_option maxRecDepth 100000 in
set_option maxHeartbeats 4000000 in
/-- SilentTableModel.feed -/
theorem ev171 {C : Int32 → Int32 → Int32 → Int32 → Int32 → ex_S → Int32 → ex_S → Prop} {C172 : Int32 → ex_S → ex_S → Prop} (H172 : es172 C172) 
    (v0 : ∀ (a0 : Int32) (a1 : Int32) (a2 : Int32) (a3 : Int32) (a4 : Int32) (S : ex_S), (S.1 43 0) + 20 ≤ 600 → ∀ (S4 : ex_S), C172 a0 (ex_sx S 41 0 0) S4 → ∀ (S8 : ex_S), C172 a1 S4 S8 → ∀ (S12 : ex_S), C172 a2 S8 S12 → ∀ (S16 : ex_S), C172 a3 S12 S16 → ∀ (S20 : ex_S), C172 a4 S16 S20 → C a0 a1 a2 a3 a4 S (S20.1 43 0) S20) 
    (v1 : ∀ (a0 : Int32) (a1 : Int32) (a2 : Int32) (a3 : Int32) (a4 : Int32) (S : ex_S), ¬ ((S.1 43 0) + 20 ≤ 600) → C a0 a1 a2 a3 a4 S (-1) (ex_sx S 41 0 0)) : es171 C := by
  intro N d a0 a1 a2 a3 a4 S
  refine ex_lo pm_M171 (pc_q := 1) (ls_q := [.ref 41, .int a0, .int a1, .int a2, .int a3, .int a4]) (st_q := [.ref 41]) rfl rfl rfl ?_
  refine ex_op pm_M171 (pc_q := 2) (st_q := [.int 0, .ref 41]) rfl rfl rfl ?_
  refine ex_putI pm_M171 (pc_q := 5) rfl rfl rfl rfl rfl ?_
  refine ex_lo pm_M171 (pc_q := 6) (ls_q := [.ref 41, .int a0, .int a1, .int a2, .int a3, .int a4]) (st_q := [.ref 41]) rfl rfl rfl ?_
  refine ex_getK pm_M171 (pc_q := 9) (j := 26) (b := 43) rfl rfl rfl rfl rfl ?_
  refine ex_op pm_M171 (pc_q := 10) (st_q := [.int 0, .ref 43]) rfl rfl rfl ?_
  refine ex_iald' pm_M171 (pc_q := 11) (v := S.1 43 0) rfl rfl rfl ?_
  refine ex_op pm_M171 (pc_q := 13) (st_q := [.int 20, .int (S.1 43 0)]) rfl rfl rfl ?_
  refine ex_op pm_M171 (pc_q := 14) (st_q := [.int ((S.1 43 0) + 20)]) rfl rfl rfl ?_
  refine ex_op pm_M171 (pc_q := 17) (st_q := [.int 600, .int ((S.1 43 0) + 20)]) rfl rfl rfl ?_
  refine ex_icmp pm_M171 (t := 22) (pc_q := 20) rfl rfl rfl (fun c1 => ?_) (fun c1 => ?_)
  · -- (S.1 43 0) + 20 ≤ 600
    refine ex_lo pm_M171 (pc_q := 23) (ls_q := [.ref 41, .int a0, .int a1, .int a2, .int a3, .int a4]) (st_q := [.ref 41]) rfl rfl rfl ?_
    refine ex_lo pm_M171 (pc_q := 24) (ls_q := [.ref 41, .int a0, .int a1, .int a2, .int a3, .int a4]) (st_q := [.int a0, .ref 41]) rfl rfl rfl ?_
    refine ex_call pm_M171 (pc_q := 27) (ix := 116) (callee := 172) (np := 1) (kd := 0) (ra := [.int a0, .ref 41]) (rest := []) rfl rfl rfl rfl pm_M172 rfl rfl rfl rfl (fun d2 => (H172 _ d2 a0 (ex_sx S 41 0 0)).mono (fun r S4 e => ?_))
    obtain ⟨rfl, h5⟩ := e
    show ex_P _ _ 171 27 [.ref 41, .int a0, .int a1, .int a2, .int a3, .int a4] [] S4 _
    refine ex_lo pm_M171 (pc_q := 28) (ls_q := [.ref 41, .int a0, .int a1, .int a2, .int a3, .int a4]) (st_q := [.ref 41]) rfl rfl rfl ?_
    refine ex_lo pm_M171 (pc_q := 29) (ls_q := [.ref 41, .int a0, .int a1, .int a2, .int a3, .int a4]) (st_q := [.int a1, .ref 41]) rfl rfl rfl ?_
    refine ex_call pm_M171 (pc_q := 32) (ix := 116) (callee := 172) (np := 1) (kd := 0) (ra := [.int a1, .ref 41]) (rest := []) rfl rfl rfl rfl pm_M172 rfl rfl rfl rfl (fun d6 => (H172 _ d6 a1 S4).mono (fun r S8 e => ?_))
    obtain ⟨rfl, h9⟩ := e
    show ex_P _ _ 171 32 [.ref 41, .int a0, .int a1, .int a2, .int a3, .int a4] [] S8 _
    refine ex_lo pm_M171 (pc_q := 33) (ls_q := [.ref 41, .int a0, .int a1, .int a2, .int a3, .int a4]) (st_q := [.ref 41]) rfl rfl rfl ?_
    refine ex_lo pm_M171 (pc_q := 34) (ls_q := [.ref 41, .int a0, .int a1, .int a2, .int a3, .int a4]) (st_q := [.int a2, .ref 41]) rfl rfl rfl ?_
    refine ex_call pm_M171 (pc_q := 37) (ix := 116) (callee := 172) (np := 1) (kd := 0) (ra := [.int a2, .ref 41]) (rest := []) rfl rfl rfl rfl pm_M172 rfl rfl rfl rfl (fun d10 => (H172 _ d10 a2 S8).mono (fun r S12 e => ?_))
    obtain ⟨rfl, h13⟩ := e
    show ex_P _ _ 171 37 [.ref 41, .int a0, .int a1, .int a2, .int a3, .int a4] [] S12 _
    refine ex_lo pm_M171 (pc_q := 38) (ls_q := [.ref 41, .int a0, .int a1, .int a2, .int a3, .int a4]) (st_q := [.ref 41]) rfl rfl rfl ?_
    refine ex_lo pm_M171 (pc_q := 40) (ls_q := [.ref 41, .int a0, .int a1, .int a2, .int a3, .int a4]) (st_q := [.int a3, .ref 41]) rfl rfl rfl ?_
    refine ex_call pm_M171 (pc_q := 43) (ix := 116) (callee := 172) (np := 1) (kd := 0) (ra := [.int a3, .ref 41]) (rest := []) rfl rfl rfl rfl pm_M172 rfl rfl rfl rfl (fun d14 => (H172 _ d14 a3 S12).mono (fun r S16 e => ?_))
    obtain ⟨rfl, h17⟩ := e
    show ex_P _ _ 171 43 [.ref 41, .int a0, .int a1, .int a2, .int a3, .int a4] [] S16 _
    refine ex_lo pm_M171 (pc_q := 44) (ls_q := [.ref 41, .int a0, .int a1, .int a2, .int a3, .int a4]) (st_q := [.ref 41]) rfl rfl rfl ?_
    refine ex_lo pm_M171 (pc_q := 46) (ls_q := [.ref 41, .int a0, .int a1, .int a2, .int a3, .int a4]) (st_q := [.int a4, .ref 41]) rfl rfl rfl ?_
    refine ex_call pm_M171 (pc_q := 49) (ix := 116) (callee := 172) (np := 1) (kd := 0) (ra := [.int a4, .ref 41]) (rest := []) rfl rfl rfl rfl pm_M172 rfl rfl rfl rfl (fun d18 => (H172 _ d18 a4 S16).mono (fun r S20 e => ?_))
    obtain ⟨rfl, h21⟩ := e
    show ex_P _ _ 171 49 [.ref 41, .int a0, .int a1, .int a2, .int a3, .int a4] [] S20 _
    refine ex_lo pm_M171 (pc_q := 50) (ls_q := [.ref 41, .int a0, .int a1, .int a2, .int a3, .int a4]) (st_q := [.ref 41]) rfl rfl rfl ?_
    refine ex_getK pm_M171 (pc_q := 53) (j := 26) (b := 43) rfl rfl rfl rfl rfl ?_
    refine ex_op pm_M171 (pc_q := 54) (st_q := [.int 0, .ref 43]) rfl rfl rfl ?_
    refine ex_iald' pm_M171 (pc_q := 55) (v := S20.1 43 0) rfl rfl rfl ?_
    exact ex_retI pm_M171 rfl (⟨_, rfl, v0 a0 a1 a2 a3 a4 S c1 S4 h5 S8 h9 S12 h13 S16 h17 S20 h21⟩)
  · -- not
    refine ex_op pm_M171 (pc_q := 21) (st_q := [.int (-1)]) rfl rfl rfl ?_
    exact ex_retI pm_M171 rfl (⟨_, rfl, v1 a0 a1 a2 a3 a4 S c1⟩)
set_option maxRecDepth 100000 in
set_option maxHeartbeats 4000000 in
/-- SilentTableModel.end -/
theorem ev173 {C : Int32 → ex_S → Int32 → ex_S → Prop} 
    (v0 : ∀ (a0 : Int32) (S : ex_S), ¬ vf174 a0 0 (S.1 43 0) = 0 → C a0 S a0 (ex_sx (ex_sx S 41 0 0) 43 0 a0)) 
    (v1 : ∀ (a0 : Int32) (S : ex_S), ¬ (¬ vf174 a0 0 (S.1 43 0) = 0) → C a0 S (-1) (ex_sx S 41 0 0)) : es173 C := by
  intro N d a0 S
  refine ex_lo pm_M173 (pc_q := 1) (ls_q := [.ref 41, .int a0]) (st_q := [.ref 41]) rfl rfl rfl ?_
  refine ex_op pm_M173 (pc_q := 2) (st_q := [.int 0, .ref 41]) rfl rfl rfl ?_
  refine ex_putI pm_M173 (pc_q := 5) rfl rfl rfl rfl rfl ?_
  refine ex_lo pm_M173 (pc_q := 6) (ls_q := [.ref 41, .int a0]) (st_q := [.int a0]) rfl rfl rfl ?_
  refine ex_op pm_M173 (pc_q := 7) (st_q := [.int 0, .int a0]) rfl rfl rfl ?_
  refine ex_lo pm_M173 (pc_q := 8) (ls_q := [.ref 41, .int a0]) (st_q := [.ref 41, .int 0, .int a0]) rfl rfl rfl ?_
  refine ex_getK pm_M173 (pc_q := 11) (j := 26) (b := 43) rfl rfl rfl rfl rfl ?_
  refine ex_op pm_M173 (pc_q := 12) (st_q := [.int 0, .ref 43, .int 0, .int a0]) rfl rfl rfl ?_
  refine ex_iald' pm_M173 (pc_q := 13) (v := S.1 43 0) rfl rfl rfl ?_
  refine ex_call pm_M173 (pc_q := 16) (ix := 112) (callee := 174) (np := 3) (kd := 2) (ra := [.int (S.1 43 0), .int 0, .int a0]) (rest := []) rfl rfl rfl rfl pm_M174 rfl rfl rfl rfl (fun d1 => (ef174 _ d1 a0 0 (S.1 43 0) (ex_sx S 41 0 0)).mono (fun r S1 e => ?_))
  obtain ⟨rfl, e2⟩ := e
  rw [e2]
  show ex_P _ _ 173 16 [.ref 41, .int a0] [.int (vf174 a0 0 (S.1 43 0))] (ex_sx S 41 0 0) _
  refine ex_ifc pm_M173 (t := 21) (pc_q := 19) rfl rfl rfl (fun c2 => ?_) (fun c2 => ?_)
  · -- ¬ vf174 a0 0 (S.1 43 0) = 0
    refine ex_lo pm_M173 (pc_q := 22) (ls_q := [.ref 41, .int a0]) (st_q := [.ref 41]) rfl rfl rfl ?_
    refine ex_getK pm_M173 (pc_q := 25) (j := 26) (b := 43) rfl rfl rfl rfl rfl ?_
    refine ex_op pm_M173 (pc_q := 26) (st_q := [.int 0, .ref 43]) rfl rfl rfl ?_
    refine ex_lo pm_M173 (pc_q := 27) (ls_q := [.ref 41, .int a0]) (st_q := [.int a0, .int 0, .ref 43]) rfl rfl rfl ?_
    refine ex_iast pm_M173 (pc_q := 28) rfl rfl ?_
    show ex_P _ _ 173 28 [.ref 41, .int a0] [] (ex_sx (ex_sx S 41 0 0) 43 0 a0) _
    refine ex_lo pm_M173 (pc_q := 29) (ls_q := [.ref 41, .int a0]) (st_q := [.int a0]) rfl rfl rfl ?_
    exact ex_retI pm_M173 rfl (⟨_, rfl, v0 a0 S c2⟩)
  · -- not
    refine ex_op pm_M173 (pc_q := 20) (st_q := [.int (-1)]) rfl rfl rfl ?_
    exact ex_retI pm_M173 rfl (⟨_, rfl, v1 a0 S c2⟩)
set_option maxRecDepth 100000 in
set_option maxHeartbeats 4000000 in
/-- SilentTableModel.store -/
theorem ev193 {C : Nat → Int32 → Int32 → ex_S → ex_S → Prop} {I3 : Nat → Int32 → Int32 → ex_S → Int32 → ex_S → Prop} 
    (v0 : ∀ (a0 : Nat) (a1 : Int32) (a2 : Int32) (S : ex_S), I3 a0 a1 a2 S 0 S) 
    (v1 : ∀ (a0 : Nat) (a1 : Int32) (a2 : Int32) (S : ex_S) (x4 : Int32) (T : ex_S), I3 a0 a1 a2 S x4 T → a1 ≤ x4 → C a0 a1 a2 S T) 
    (v2 : ∀ (a0 : Nat) (a1 : Int32) (a2 : Int32) (S : ex_S) (x4 : Int32) (T : ex_S), I3 a0 a1 a2 S x4 T → ¬ (a1 ≤ x4) → I3 a0 a1 a2 S (x4 + 1) (ex_sx T a0 (((a1 * a2) + x4).toNatClampNeg) (T.1 51 x4.toNatClampNeg))) : es193 C := by
  intro N d a0 a1 a2 S
  have LL : ∀ N : Nat, (∀ (x4 : Int32) (T : ex_S), I3 a0 a1 a2 S x4 T → ex_P N d 193 3 [.ref 41, .ref a0, .int a1, .int a2, .int x4] [] T (fun r S_q => r = none ∧ C a0 a1 a2 S S_q)) := by
    intro N
    induction N with
    | zero => exact fun _ _ _ => ex_zero
    | succ N ih =>
      have ih3 := ih
      have L3 : ∀ (x4 : Int32) (T : ex_S), I3 a0 a1 a2 S x4 T → ex_P (N + 1) d 193 3 [.ref 41, .ref a0, .int a1, .int a2, .int x4] [] T (fun r S_q => r = none ∧ C a0 a1 a2 S S_q) := by
        intro x4 T hI
        refine ex_lo pm_M193 (pc_q := 5) (ls_q := [.ref 41, .ref a0, .int a1, .int a2, .int x4]) (st_q := [.int x4]) rfl rfl rfl ?_
        refine ex_lo pm_M193 (pc_q := 6) (ls_q := [.ref 41, .ref a0, .int a1, .int a2, .int x4]) (st_q := [.int a1, .int x4]) rfl rfl rfl ?_
        refine ex_icmp pm_M193 (t := 30) (pc_q := 9) rfl rfl rfl (fun c1 => ?_) (fun c1 => ?_)
        · -- a1 ≤ x4
          exact ex_ret pm_M193 (r := none) rfl rfl (⟨rfl, v1 a0 a1 a2 S x4 T hI c1⟩)
        · -- not
          refine ex_lo pm_M193 (pc_q := 10) (ls_q := [.ref 41, .ref a0, .int a1, .int a2, .int x4]) (st_q := [.ref a0]) rfl rfl rfl ?_
          refine ex_lo pm_M193 (pc_q := 11) (ls_q := [.ref 41, .ref a0, .int a1, .int a2, .int x4]) (st_q := [.int a1, .ref a0]) rfl rfl rfl ?_
          refine ex_lo pm_M193 (pc_q := 12) (ls_q := [.ref 41, .ref a0, .int a1, .int a2, .int x4]) (st_q := [.int a2, .int a1, .ref a0]) rfl rfl rfl ?_
          refine ex_op pm_M193 (pc_q := 13) (st_q := [.int (a1 * a2), .ref a0]) rfl rfl rfl ?_
          refine ex_lo pm_M193 (pc_q := 15) (ls_q := [.ref 41, .ref a0, .int a1, .int a2, .int x4]) (st_q := [.int x4, .int (a1 * a2), .ref a0]) rfl rfl rfl ?_
          refine ex_op pm_M193 (pc_q := 16) (st_q := [.int ((a1 * a2) + x4), .ref a0]) rfl rfl rfl ?_
          refine ex_lo pm_M193 (pc_q := 17) (ls_q := [.ref 41, .ref a0, .int a1, .int a2, .int x4]) (st_q := [.ref 41, .int ((a1 * a2) + x4), .ref a0]) rfl rfl rfl ?_
          refine ex_getK pm_M193 (pc_q := 20) (j := 34) (b := 51) rfl rfl rfl rfl rfl ?_
          refine ex_lo pm_M193 (pc_q := 22) (ls_q := [.ref 41, .ref a0, .int a1, .int a2, .int x4]) (st_q := [.int x4, .ref 51, .int ((a1 * a2) + x4), .ref a0]) rfl rfl rfl ?_
          refine ex_iald' pm_M193 (pc_q := 23) (v := T.1 51 x4.toNatClampNeg) rfl rfl rfl ?_
          refine ex_iast pm_M193 (pc_q := 24) rfl rfl ?_
          refine ex_lo pm_M193 (pc_q := 27) (ls_q := [.ref 41, .ref a0, .int a1, .int a2, .int (x4 + 1)]) (st_q := []) rfl rfl rfl ?_
          refine ex_goS pm_M193 (pc_q := 3) (st_q := []) rfl rfl ?_
          exact ih3 (x4 + 1) (ex_sx T a0 (((a1 * a2) + x4).toNatClampNeg) (T.1 51 x4.toNatClampNeg)) (v2 a0 a1 a2 S x4 T hI c1)
      exact L3
  have L3 := LL N
  refine ex_op pm_M193 (pc_q := 1) (st_q := [.int 0]) rfl rfl rfl ?_
  refine ex_lo pm_M193 (pc_q := 3) (ls_q := [.ref 41, .ref a0, .int a1, .int a2, .int 0]) (st_q := []) rfl rfl rfl ?_
  exact L3 0 S (v0 a0 a1 a2 S)
set_option maxRecDepth 100000 in
set_option maxHeartbeats 4000000 in
/-- SilentTableModel.text -/
theorem ev175 {C : Int32 → Int32 → ex_S → Int32 → ex_S → Prop} {C178 : Int32 → ex_S → Int32 → ex_S → Prop} {C193 : Nat → Int32 → Int32 → ex_S → ex_S → Prop} (H178 : es178 C178) (H193 : es193 C193) 
    (v0 : ∀ (a0 : Int32) (a1 : Int32) (S : ex_S), vf174 a0 0 3 = 0 → C a0 a1 S (-2) (ex_sx (ex_sx (ex_sx (ex_sx (ex_sx S 41 0 0) 41 11 (S.1 43 0)) 43 0 0) 44 0 0) 45 0 (-1))) 
    (v1 : ∀ (a0 : Int32) (a1 : Int32) (S : ex_S), ¬ (vf174 a0 0 3 = 0) → ¬ a1 = (-1) → ¬ vf174 a1 0 ((S.1 46 a0.toNatClampNeg) - 1) = 0 → ∀ (r8 : Int32) (S9 : ex_S), C178 a0 (ex_sx (ex_sx (ex_sx (ex_sx (ex_sx S 41 0 0) 41 11 (S.1 43 0)) 43 0 0) 44 0 0) 45 0 (-1)) r8 S9 → ¬ r8 = 0 → a0 = 0 → ∀ (S19 : ex_S), C193 47 100 a1 (ex_sx S9 46 a0.toNatClampNeg ((S9.1 46 a0.toNatClampNeg) + 0)) S19 → C a0 a1 S a1 S19) 
    (v2 : ∀ (a0 : Int32) (a1 : Int32) (S : ex_S), ¬ (vf174 a0 0 3 = 0) → ¬ a1 = (-1) → ¬ vf174 a1 0 ((S.1 46 a0.toNatClampNeg) - 1) = 0 → ∀ (r8 : Int32) (S9 : ex_S), C178 a0 (ex_sx (ex_sx (ex_sx (ex_sx (ex_sx S 41 0 0) 41 11 (S.1 43 0)) 43 0 0) 44 0 0) 45 0 (-1)) r8 S9 → ¬ r8 = 0 → ¬ (a0 = 0) → a0 = 1 → ∀ (S24 : ex_S), C193 48 13 a1 (ex_sx S9 46 a0.toNatClampNeg ((S9.1 46 a0.toNatClampNeg) + 0)) S24 → C a0 a1 S a1 S24) 
    (v3 : ∀ (a0 : Int32) (a1 : Int32) (S : ex_S), ¬ (vf174 a0 0 3 = 0) → ¬ a1 = (-1) → ¬ vf174 a1 0 ((S.1 46 a0.toNatClampNeg) - 1) = 0 → ∀ (r8 : Int32) (S9 : ex_S), C178 a0 (ex_sx (ex_sx (ex_sx (ex_sx (ex_sx S 41 0 0) 41 11 (S.1 43 0)) 43 0 0) 44 0 0) 45 0 (-1)) r8 S9 → ¬ r8 = 0 → ¬ (a0 = 0) → ¬ (a0 = 1) → a0 = 2 → ∀ (S29 : ex_S), C193 49 152 a1 (ex_sx S9 46 a0.toNatClampNeg ((S9.1 46 a0.toNatClampNeg) + 0)) S29 → C a0 a1 S a1 S29) 
    (v4 : ∀ (a0 : Int32) (a1 : Int32) (S : ex_S), ¬ (vf174 a0 0 3 = 0) → ¬ a1 = (-1) → ¬ vf174 a1 0 ((S.1 46 a0.toNatClampNeg) - 1) = 0 → ∀ (r8 : Int32) (S9 : ex_S), C178 a0 (ex_sx (ex_sx (ex_sx (ex_sx (ex_sx S 41 0 0) 41 11 (S.1 43 0)) 43 0 0) 44 0 0) 45 0 (-1)) r8 S9 → ¬ r8 = 0 → ¬ (a0 = 0) → ¬ (a0 = 1) → ¬ (a0 = 2) → ∀ (S33 : ex_S), C193 50 25 a1 (ex_sx S9 46 a0.toNatClampNeg ((S9.1 46 a0.toNatClampNeg) + 0)) S33 → C a0 a1 S a1 S33) 
    (v5 : ∀ (a0 : Int32) (a1 : Int32) (S : ex_S), ¬ (vf174 a0 0 3 = 0) → ¬ a1 = (-1) → ¬ vf174 a1 0 ((S.1 46 a0.toNatClampNeg) - 1) = 0 → ∀ (r8 : Int32) (S9 : ex_S), C178 a0 (ex_sx (ex_sx (ex_sx (ex_sx (ex_sx S 41 0 0) 41 11 (S.1 43 0)) 43 0 0) 44 0 0) 45 0 (-1)) r8 S9 → ¬ (¬ r8 = 0) → C a0 a1 S (-1) S9) 
    (v6 : ∀ (a0 : Int32) (a1 : Int32) (S : ex_S), ¬ (vf174 a0 0 3 = 0) → ¬ a1 = (-1) → ¬ (¬ vf174 a1 0 ((S.1 46 a0.toNatClampNeg) - 1) = 0) → C a0 a1 S (-2) (ex_sx (ex_sx (ex_sx (ex_sx (ex_sx S 41 0 0) 41 11 (S.1 43 0)) 43 0 0) 44 0 0) 45 0 (-1))) 
    (v7 : ∀ (a0 : Int32) (a1 : Int32) (S : ex_S), ¬ (vf174 a0 0 3 = 0) → ¬ (¬ a1 = (-1)) → ¬ S.1 46 a0.toNatClampNeg = vf176 a0 → ∀ (r38 : Int32) (S39 : ex_S), C178 a0 (ex_sx (ex_sx (ex_sx (ex_sx (ex_sx S 41 0 0) 41 11 (S.1 43 0)) 43 0 0) 44 0 0) 45 0 (-1)) r38 S39 → ¬ r38 = 0 → a0 = 0 → ∀ (S49 : ex_S), C193 47 100 (S39.1 46 a0.toNatClampNeg) (ex_sx S39 46 a0.toNatClampNeg ((S39.1 46 a0.toNatClampNeg) + 1)) S49 → C a0 a1 S (S39.1 46 a0.toNatClampNeg) S49) 
    (v8 : ∀ (a0 : Int32) (a1 : Int32) (S : ex_S), ¬ (vf174 a0 0 3 = 0) → ¬ (¬ a1 = (-1)) → ¬ S.1 46 a0.toNatClampNeg = vf176 a0 → ∀ (r38 : Int32) (S39 : ex_S), C178 a0 (ex_sx (ex_sx (ex_sx (ex_sx (ex_sx S 41 0 0) 41 11 (S.1 43 0)) 43 0 0) 44 0 0) 45 0 (-1)) r38 S39 → ¬ r38 = 0 → ¬ (a0 = 0) → a0 = 1 → ∀ (S54 : ex_S), C193 48 13 (S39.1 46 a0.toNatClampNeg) (ex_sx S39 46 a0.toNatClampNeg ((S39.1 46 a0.toNatClampNeg) + 1)) S54 → C a0 a1 S (S39.1 46 a0.toNatClampNeg) S54) 
    (v9 : ∀ (a0 : Int32) (a1 : Int32) (S : ex_S), ¬ (vf174 a0 0 3 = 0) → ¬ (¬ a1 = (-1)) → ¬ S.1 46 a0.toNatClampNeg = vf176 a0 → ∀ (r38 : Int32) (S39 : ex_S), C178 a0 (ex_sx (ex_sx (ex_sx (ex_sx (ex_sx S 41 0 0) 41 11 (S.1 43 0)) 43 0 0) 44 0 0) 45 0 (-1)) r38 S39 → ¬ r38 = 0 → ¬ (a0 = 0) → ¬ (a0 = 1) → a0 = 2 → ∀ (S59 : ex_S), C193 49 152 (S39.1 46 a0.toNatClampNeg) (ex_sx S39 46 a0.toNatClampNeg ((S39.1 46 a0.toNatClampNeg) + 1)) S59 → C a0 a1 S (S39.1 46 a0.toNatClampNeg) S59) 
    (v10 : ∀ (a0 : Int32) (a1 : Int32) (S : ex_S), ¬ (vf174 a0 0 3 = 0) → ¬ (¬ a1 = (-1)) → ¬ S.1 46 a0.toNatClampNeg = vf176 a0 → ∀ (r38 : Int32) (S39 : ex_S), C178 a0 (ex_sx (ex_sx (ex_sx (ex_sx (ex_sx S 41 0 0) 41 11 (S.1 43 0)) 43 0 0) 44 0 0) 45 0 (-1)) r38 S39 → ¬ r38 = 0 → ¬ (a0 = 0) → ¬ (a0 = 1) → ¬ (a0 = 2) → ∀ (S63 : ex_S), C193 50 25 (S39.1 46 a0.toNatClampNeg) (ex_sx S39 46 a0.toNatClampNeg ((S39.1 46 a0.toNatClampNeg) + 1)) S63 → C a0 a1 S (S39.1 46 a0.toNatClampNeg) S63) 
    (v11 : ∀ (a0 : Int32) (a1 : Int32) (S : ex_S), ¬ (vf174 a0 0 3 = 0) → ¬ (¬ a1 = (-1)) → ¬ S.1 46 a0.toNatClampNeg = vf176 a0 → ∀ (r38 : Int32) (S39 : ex_S), C178 a0 (ex_sx (ex_sx (ex_sx (ex_sx (ex_sx S 41 0 0) 41 11 (S.1 43 0)) 43 0 0) 44 0 0) 45 0 (-1)) r38 S39 → ¬ (¬ r38 = 0) → C a0 a1 S (-1) S39) 
    (v12 : ∀ (a0 : Int32) (a1 : Int32) (S : ex_S), ¬ (vf174 a0 0 3 = 0) → ¬ (¬ a1 = (-1)) → ¬ (¬ S.1 46 a0.toNatClampNeg = vf176 a0) → C a0 a1 S (-2) (ex_sx (ex_sx (ex_sx (ex_sx (ex_sx S 41 0 0) 41 11 (S.1 43 0)) 43 0 0) 44 0 0) 45 0 (-1))) : es175 C := by
  intro N d a0 a1 S
  refine ex_lo pm_M175 (pc_q := 1) (ls_q := [.ref 41, .int a0, .int a1, pm_no]) (st_q := [.ref 41]) rfl rfl rfl ?_
  refine ex_op pm_M175 (pc_q := 2) (st_q := [.int 0, .ref 41]) rfl rfl rfl ?_
  refine ex_putI pm_M175 (pc_q := 5) rfl rfl rfl rfl rfl ?_
  refine ex_lo pm_M175 (pc_q := 6) (ls_q := [.ref 41, .int a0, .int a1, pm_no]) (st_q := [.ref 41]) rfl rfl rfl ?_
  refine ex_lo pm_M175 (pc_q := 7) (ls_q := [.ref 41, .int a0, .int a1, pm_no]) (st_q := [.ref 41, .ref 41]) rfl rfl rfl ?_
  refine ex_getK pm_M175 (pc_q := 10) (j := 26) (b := 43) rfl rfl rfl rfl rfl ?_
  refine ex_op pm_M175 (pc_q := 11) (st_q := [.int 0, .ref 43, .ref 41]) rfl rfl rfl ?_
  refine ex_iald' pm_M175 (pc_q := 12) (v := S.1 43 0) rfl rfl rfl ?_
  refine ex_putI pm_M175 (pc_q := 15) rfl rfl rfl rfl rfl ?_
  refine ex_lo pm_M175 (pc_q := 16) (ls_q := [.ref 41, .int a0, .int a1, pm_no]) (st_q := [.ref 41]) rfl rfl rfl ?_
  refine ex_getK pm_M175 (pc_q := 19) (j := 26) (b := 43) rfl rfl rfl rfl rfl ?_
  refine ex_op pm_M175 (pc_q := 20) (st_q := [.int 0, .ref 43]) rfl rfl rfl ?_
  refine ex_op pm_M175 (pc_q := 21) (st_q := [.int 0, .int 0, .ref 43]) rfl rfl rfl ?_
  refine ex_iast pm_M175 (pc_q := 22) rfl rfl ?_
  show ex_P _ _ 175 22 [.ref 41, .int a0, .int a1, pm_no] [] (ex_sx (ex_sx (ex_sx S 41 0 0) 41 11 (S.1 43 0)) 43 0 0) _
  refine ex_lo pm_M175 (pc_q := 23) (ls_q := [.ref 41, .int a0, .int a1, pm_no]) (st_q := [.ref 41]) rfl rfl rfl ?_
  refine ex_getK pm_M175 (pc_q := 26) (j := 27) (b := 44) rfl rfl rfl rfl rfl ?_
  refine ex_op pm_M175 (pc_q := 27) (st_q := [.int 0, .ref 44]) rfl rfl rfl ?_
  refine ex_op pm_M175 (pc_q := 28) (st_q := [.int 0, .int 0, .ref 44]) rfl rfl rfl ?_
  refine ex_iast pm_M175 (pc_q := 29) rfl rfl ?_
  show ex_P _ _ 175 29 [.ref 41, .int a0, .int a1, pm_no] [] (ex_sx (ex_sx (ex_sx (ex_sx S 41 0 0) 41 11 (S.1 43 0)) 43 0 0) 44 0 0) _
  refine ex_lo pm_M175 (pc_q := 30) (ls_q := [.ref 41, .int a0, .int a1, pm_no]) (st_q := [.ref 41]) rfl rfl rfl ?_
  refine ex_getK pm_M175 (pc_q := 33) (j := 28) (b := 45) rfl rfl rfl rfl rfl ?_
  refine ex_op pm_M175 (pc_q := 34) (st_q := [.int 0, .ref 45]) rfl rfl rfl ?_
  refine ex_op pm_M175 (pc_q := 35) (st_q := [.int (-1), .int 0, .ref 45]) rfl rfl rfl ?_
  refine ex_iast pm_M175 (pc_q := 36) rfl rfl ?_
  show ex_P _ _ 175 36 [.ref 41, .int a0, .int a1, pm_no] [] (ex_sx (ex_sx (ex_sx (ex_sx (ex_sx S 41 0 0) 41 11 (S.1 43 0)) 43 0 0) 44 0 0) 45 0 (-1)) _
  refine ex_lo pm_M175 (pc_q := 37) (ls_q := [.ref 41, .int a0, .int a1, pm_no]) (st_q := [.int a0]) rfl rfl rfl ?_
  refine ex_op pm_M175 (pc_q := 38) (st_q := [.int 0, .int a0]) rfl rfl rfl ?_
  refine ex_op pm_M175 (pc_q := 39) (st_q := [.int 3, .int 0, .int a0]) rfl rfl rfl ?_
  refine ex_call pm_M175 (pc_q := 42) (ix := 112) (callee := 174) (np := 3) (kd := 2) (ra := [.int 3, .int 0, .int a0]) (rest := []) rfl rfl rfl rfl pm_M174 rfl rfl rfl rfl (fun d1 => (ef174 _ d1 a0 0 3 (ex_sx (ex_sx (ex_sx (ex_sx (ex_sx S 41 0 0) 41 11 (S.1 43 0)) 43 0 0) 44 0 0) 45 0 (-1))).mono (fun r S1 e => ?_))
  obtain ⟨rfl, e2⟩ := e
  rw [e2]
  show ex_P _ _ 175 42 [.ref 41, .int a0, .int a1, pm_no] [.int (vf174 a0 0 3)] (ex_sx (ex_sx (ex_sx (ex_sx (ex_sx S 41 0 0) 41 11 (S.1 43 0)) 43 0 0) 44 0 0) 45 0 (-1)) _
  refine ex_ifc pm_M175 (t := 75) (pc_q := 45) rfl rfl rfl (fun c2 => ?_) (fun c2 => ?_)
  · -- vf174 a0 0 3 = 0
    refine ex_op pm_M175 (pc_q := 77) (st_q := [.int (-2)]) rfl rfl rfl ?_
    exact ex_retI pm_M175 rfl (⟨_, rfl, v0 a0 a1 S c2⟩)
  · -- not
    refine ex_lo pm_M175 (pc_q := 46) (ls_q := [.ref 41, .int a0, .int a1, pm_no]) (st_q := [.int a1]) rfl rfl rfl ?_
    refine ex_op pm_M175 (pc_q := 47) (st_q := [.int (-1), .int a1]) rfl rfl rfl ?_
    refine ex_icmp pm_M175 (t := 66) (pc_q := 50) rfl rfl rfl (fun c3 => ?_) (fun c3 => ?_)
    · -- ¬ a1 = (-1)
      refine ex_lo pm_M175 (pc_q := 67) (ls_q := [.ref 41, .int a0, .int a1, pm_no]) (st_q := [.ref 41]) rfl rfl rfl ?_
      refine ex_lo pm_M175 (pc_q := 68) (ls_q := [.ref 41, .int a0, .int a1, pm_no]) (st_q := [.int a0, .ref 41]) rfl rfl rfl ?_
      refine ex_lo pm_M175 (pc_q := 69) (ls_q := [.ref 41, .int a0, .int a1, pm_no]) (st_q := [.int a1, .int a0, .ref 41]) rfl rfl rfl ?_
      refine ex_call pm_M175 (pc_q := 72) (ix := 244) (callee := 177) (np := 2) (kd := 0) (ra := [.int a1, .int a0, .ref 41]) (rest := []) rfl rfl rfl rfl pm_M177 rfl rfl rfl rfl (fun d4 => ?_)
      refine ex_lo pm_M177 (pc_q := 1) (ls_q := [.ref 41, .int a0, .int a1]) (st_q := [.int a1]) rfl rfl rfl ?_
      refine ex_op pm_M177 (pc_q := 2) (st_q := [.int 0, .int a1]) rfl rfl rfl ?_
      refine ex_lo pm_M177 (pc_q := 3) (ls_q := [.ref 41, .int a0, .int a1]) (st_q := [.ref 41, .int 0, .int a1]) rfl rfl rfl ?_
      refine ex_getK pm_M177 (pc_q := 6) (j := 29) (b := 46) rfl rfl rfl rfl rfl ?_
      refine ex_lo pm_M177 (pc_q := 7) (ls_q := [.ref 41, .int a0, .int a1]) (st_q := [.int a0, .ref 46, .int 0, .int a1]) rfl rfl rfl ?_
      refine ex_iald' pm_M177 (pc_q := 8) (v := S.1 46 a0.toNatClampNeg) rfl rfl rfl ?_
      refine ex_op pm_M177 (pc_q := 9) (st_q := [.int 1, .int (S.1 46 a0.toNatClampNeg), .int 0, .int a1]) rfl rfl rfl ?_
      refine ex_op pm_M177 (pc_q := 10) (st_q := [.int ((S.1 46 a0.toNatClampNeg) - 1), .int 0, .int a1]) rfl rfl rfl ?_
      refine ex_call pm_M177 (pc_q := 13) (ix := 112) (callee := 174) (np := 3) (kd := 2) (ra := [.int ((S.1 46 a0.toNatClampNeg) - 1), .int 0, .int a1]) (rest := []) rfl rfl rfl rfl pm_M174 rfl rfl rfl rfl (fun d5 => (ef174 _ d5 a1 0 ((S.1 46 a0.toNatClampNeg) - 1) (ex_sx (ex_sx (ex_sx (ex_sx (ex_sx S 41 0 0) 41 11 (S.1 43 0)) 43 0 0) 44 0 0) 45 0 (-1))).mono (fun r S1 e => ?_))
      obtain ⟨rfl, e2⟩ := e
      rw [e2]
      show ex_P _ _ 177 13 [.ref 41, .int a0, .int a1] [.int (vf174 a1 0 ((S.1 46 a0.toNatClampNeg) - 1))] (ex_sx (ex_sx (ex_sx (ex_sx (ex_sx S 41 0 0) 41 11 (S.1 43 0)) 43 0 0) 44 0 0) 45 0 (-1)) _
      refine ex_retI pm_M177 rfl ?_
      show ex_P _ _ 175 72 [.ref 41, .int a0, .int a1, pm_no] [.int (vf174 a1 0 ((S.1 46 a0.toNatClampNeg) - 1))] (ex_sx (ex_sx (ex_sx (ex_sx (ex_sx S 41 0 0) 41 11 (S.1 43 0)) 43 0 0) 44 0 0) 45 0 (-1)) _
      refine ex_ifc pm_M175 (t := 78) (pc_q := 75) rfl rfl rfl (fun c6 => ?_) (fun c6 => ?_)
      · -- ¬ vf174 a1 0 ((S.1 46 a0.toNatClampNeg) - 1) = 0
        refine ex_lo pm_M175 (pc_q := 79) (ls_q := [.ref 41, .int a0, .int a1, pm_no]) (st_q := [.ref 41]) rfl rfl rfl ?_
        refine ex_lo pm_M175 (pc_q := 80) (ls_q := [.ref 41, .int a0, .int a1, pm_no]) (st_q := [.int a0, .ref 41]) rfl rfl rfl ?_
        refine ex_call pm_M175 (pc_q := 83) (ix := 247) (callee := 178) (np := 1) (kd := 0) (ra := [.int a0, .ref 41]) (rest := []) rfl rfl rfl rfl pm_M178 rfl rfl rfl rfl (fun d7 => (H178 _ d7 a0 (ex_sx (ex_sx (ex_sx (ex_sx (ex_sx S 41 0 0) 41 11 (S.1 43 0)) 43 0 0) 44 0 0) 45 0 (-1))).mono (fun r S9 e => ?_))
        obtain ⟨r8, rfl, h10⟩ := e
        show ex_P _ _ 175 83 [.ref 41, .int a0, .int a1, pm_no] [.int r8] S9 _
        refine ex_ifc pm_M175 (t := 88) (pc_q := 86) rfl rfl rfl (fun c11 => ?_) (fun c11 => ?_)
        · -- ¬ r8 = 0
          refine ex_lo pm_M175 (pc_q := 89) (ls_q := [.ref 41, .int a0, .int a1, pm_no]) (st_q := [.int a1]) rfl rfl rfl ?_
          refine ex_op pm_M175 (pc_q := 90) (st_q := [.int (-1), .int a1]) rfl rfl rfl ?_
          refine ex_icmp pm_M175 (t := 102) (pc_q := 93) rfl rfl rfl (fun _ => ?_) (fun z => absurd c3 z)
          refine ex_lo pm_M175 (pc_q := 103) (ls_q := [.ref 41, .int a0, .int a1, pm_no]) (st_q := [.int a1]) rfl rfl rfl ?_
          refine ex_lo pm_M175 (pc_q := 104) (ls_q := [.ref 41, .int a0, .int a1, .int a1]) (st_q := []) rfl rfl rfl ?_
          refine ex_lo pm_M175 (pc_q := 105) (ls_q := [.ref 41, .int a0, .int a1, .int a1]) (st_q := [.ref 41]) rfl rfl rfl ?_
          refine ex_getK pm_M175 (pc_q := 108) (j := 29) (b := 46) rfl rfl rfl rfl rfl ?_
          refine ex_lo pm_M175 (pc_q := 109) (ls_q := [.ref 41, .int a0, .int a1, .int a1]) (st_q := [.int a0, .ref 46]) rfl rfl rfl ?_
          refine ex_op pm_M175 (pc_q := 110) (st_q := [.int a0, .ref 46, .int a0, .ref 46]) rfl rfl rfl ?_
          refine ex_iald' pm_M175 (pc_q := 111) (v := S9.1 46 a0.toNatClampNeg) rfl rfl rfl ?_
          refine ex_lo pm_M175 (pc_q := 112) (ls_q := [.ref 41, .int a0, .int a1, .int a1]) (st_q := [.int a1, .int (S9.1 46 a0.toNatClampNeg), .int a0, .ref 46]) rfl rfl rfl ?_
          refine ex_op pm_M175 (pc_q := 113) (st_q := [.int (-1), .int a1, .int (S9.1 46 a0.toNatClampNeg), .int a0, .ref 46]) rfl rfl rfl ?_
          refine ex_icmp pm_M175 (t := 120) (pc_q := 116) rfl rfl rfl (fun _ => ?_) (fun z => absurd c3 z)
          refine ex_op pm_M175 (pc_q := 121) (st_q := [.int 0, .int (S9.1 46 a0.toNatClampNeg), .int a0, .ref 46]) rfl rfl rfl ?_
          refine ex_op pm_M175 (pc_q := 122) (st_q := [.int ((S9.1 46 a0.toNatClampNeg) + 0), .int a0, .ref 46]) rfl rfl rfl ?_
          refine ex_iast pm_M175 (pc_q := 123) rfl rfl ?_
          refine ex_lo pm_M175 (pc_q := 124) (ls_q := [.ref 41, .int a0, .int a1, .int a1]) (st_q := [.int a0]) rfl rfl rfl ?_
          refine ex_sw pm_M175 rfl rfl rfl rfl rfl (fun _ _ _ => rfl) (fun z14 hz15 => ?_)
          by_cases c16 : a0 = 0
          · rw [c16] at hz15
            cases (show some (152, []) = some z14 from hz15)
            show ex_P _ _ 175 152 [.ref 41, .int a0, .int a1, .int a1] [] (ex_sx S9 46 a0.toNatClampNeg ((S9.1 46 a0.toNatClampNeg) + 0)) _
            refine ex_lo pm_M175 (pc_q := 153) (ls_q := [.ref 41, .int a0, .int a1, .int a1]) (st_q := [.ref 41]) rfl rfl rfl ?_
            refine ex_lo pm_M175 (pc_q := 154) (ls_q := [.ref 41, .int a0, .int a1, .int a1]) (st_q := [.ref 41, .ref 41]) rfl rfl rfl ?_
            refine ex_getK pm_M175 (pc_q := 157) (j := 30) (b := 47) rfl rfl rfl rfl rfl ?_
            refine ex_op pm_M175 (pc_q := 159) (st_q := [.int 100, .ref 47, .ref 41]) rfl rfl rfl ?_
            refine ex_lo pm_M175 (pc_q := 160) (ls_q := [.ref 41, .int a0, .int a1, .int a1]) (st_q := [.int a1, .int 100, .ref 47, .ref 41]) rfl rfl rfl ?_
            refine ex_call pm_M175 (pc_q := 163) (ix := 250) (callee := 193) (np := 3) (kd := 0) (ra := [.int a1, .int 100, .ref 47, .ref 41]) (rest := []) rfl rfl rfl rfl pm_M193 rfl rfl rfl rfl (fun d17 => (H193 _ d17 47 100 a1 (ex_sx S9 46 a0.toNatClampNeg ((S9.1 46 a0.toNatClampNeg) + 0))).mono (fun r S19 e => ?_))
            obtain ⟨rfl, h20⟩ := e
            show ex_P _ _ 175 163 [.ref 41, .int a0, .int a1, .int a1] [] S19 _
            refine ex_br pm_M175 (pc_q := 206) (st_q := []) rfl rfl ?_
            refine ex_lo pm_M175 (pc_q := 207) (ls_q := [.ref 41, .int a0, .int a1, .int a1]) (st_q := [.int a1]) rfl rfl rfl ?_
            exact ex_retI pm_M175 rfl (⟨_, rfl, v1 a0 a1 S c2 c3 c6 r8 S9 h10 c11 c16 S19 h20⟩)
          by_cases c21 : a0 = 1
          · rw [c21] at hz15
            cases (show some (166, []) = some z14 from hz15)
            show ex_P _ _ 175 166 [.ref 41, .int a0, .int a1, .int a1] [] (ex_sx S9 46 a0.toNatClampNeg ((S9.1 46 a0.toNatClampNeg) + 0)) _
            refine ex_lo pm_M175 (pc_q := 167) (ls_q := [.ref 41, .int a0, .int a1, .int a1]) (st_q := [.ref 41]) rfl rfl rfl ?_
            refine ex_lo pm_M175 (pc_q := 168) (ls_q := [.ref 41, .int a0, .int a1, .int a1]) (st_q := [.ref 41, .ref 41]) rfl rfl rfl ?_
            refine ex_getK pm_M175 (pc_q := 171) (j := 31) (b := 48) rfl rfl rfl rfl rfl ?_
            refine ex_op pm_M175 (pc_q := 173) (st_q := [.int 13, .ref 48, .ref 41]) rfl rfl rfl ?_
            refine ex_lo pm_M175 (pc_q := 174) (ls_q := [.ref 41, .int a0, .int a1, .int a1]) (st_q := [.int a1, .int 13, .ref 48, .ref 41]) rfl rfl rfl ?_
            refine ex_call pm_M175 (pc_q := 177) (ix := 250) (callee := 193) (np := 3) (kd := 0) (ra := [.int a1, .int 13, .ref 48, .ref 41]) (rest := []) rfl rfl rfl rfl pm_M193 rfl rfl rfl rfl (fun d22 => (H193 _ d22 48 13 a1 (ex_sx S9 46 a0.toNatClampNeg ((S9.1 46 a0.toNatClampNeg) + 0))).mono (fun r S24 e => ?_))
            obtain ⟨rfl, h25⟩ := e
            show ex_P _ _ 175 177 [.ref 41, .int a0, .int a1, .int a1] [] S24 _
            refine ex_br pm_M175 (pc_q := 206) (st_q := []) rfl rfl ?_
            refine ex_lo pm_M175 (pc_q := 207) (ls_q := [.ref 41, .int a0, .int a1, .int a1]) (st_q := [.int a1]) rfl rfl rfl ?_
            exact ex_retI pm_M175 rfl (⟨_, rfl, v2 a0 a1 S c2 c3 c6 r8 S9 h10 c11 c16 c21 S24 h25⟩)
          by_cases c26 : a0 = 2
          · rw [c26] at hz15
            cases (show some (180, []) = some z14 from hz15)
            show ex_P _ _ 175 180 [.ref 41, .int a0, .int a1, .int a1] [] (ex_sx S9 46 a0.toNatClampNeg ((S9.1 46 a0.toNatClampNeg) + 0)) _
            refine ex_lo pm_M175 (pc_q := 181) (ls_q := [.ref 41, .int a0, .int a1, .int a1]) (st_q := [.ref 41]) rfl rfl rfl ?_
            refine ex_lo pm_M175 (pc_q := 182) (ls_q := [.ref 41, .int a0, .int a1, .int a1]) (st_q := [.ref 41, .ref 41]) rfl rfl rfl ?_
            refine ex_getK pm_M175 (pc_q := 185) (j := 32) (b := 49) rfl rfl rfl rfl rfl ?_
            refine ex_op pm_M175 (pc_q := 188) (st_q := [.int 152, .ref 49, .ref 41]) rfl rfl rfl ?_
            refine ex_lo pm_M175 (pc_q := 189) (ls_q := [.ref 41, .int a0, .int a1, .int a1]) (st_q := [.int a1, .int 152, .ref 49, .ref 41]) rfl rfl rfl ?_
            refine ex_call pm_M175 (pc_q := 192) (ix := 250) (callee := 193) (np := 3) (kd := 0) (ra := [.int a1, .int 152, .ref 49, .ref 41]) (rest := []) rfl rfl rfl rfl pm_M193 rfl rfl rfl rfl (fun d27 => (H193 _ d27 49 152 a1 (ex_sx S9 46 a0.toNatClampNeg ((S9.1 46 a0.toNatClampNeg) + 0))).mono (fun r S29 e => ?_))
            obtain ⟨rfl, h30⟩ := e
            show ex_P _ _ 175 192 [.ref 41, .int a0, .int a1, .int a1] [] S29 _
            refine ex_br pm_M175 (pc_q := 206) (st_q := []) rfl rfl ?_
            refine ex_lo pm_M175 (pc_q := 207) (ls_q := [.ref 41, .int a0, .int a1, .int a1]) (st_q := [.int a1]) rfl rfl rfl ?_
            exact ex_retI pm_M175 rfl (⟨_, rfl, v3 a0 a1 S c2 c3 c6 r8 S9 h10 c11 c16 c21 c26 S29 h30⟩)
          have hz15' := ex_tswD (st := []) hz15 (by first | (have w0 : (a0).toInt ≠ 0 := fun w => c16 (Int32.toInt_inj.mp (w.trans (by decide))); have w1 : (a0).toInt ≠ 1 := fun w => c21 (Int32.toInt_inj.mp (w.trans (by decide))); have w2 : (a0).toInt ≠ 2 := fun w => c26 (Int32.toInt_inj.mp (w.trans (by decide))); omega) | decide)
          cases (show some (195, []) = some z14 from hz15')
          show ex_P _ _ 175 195 [.ref 41, .int a0, .int a1, .int a1] [] (ex_sx S9 46 a0.toNatClampNeg ((S9.1 46 a0.toNatClampNeg) + 0)) _
          refine ex_lo pm_M175 (pc_q := 196) (ls_q := [.ref 41, .int a0, .int a1, .int a1]) (st_q := [.ref 41]) rfl rfl rfl ?_
          refine ex_lo pm_M175 (pc_q := 197) (ls_q := [.ref 41, .int a0, .int a1, .int a1]) (st_q := [.ref 41, .ref 41]) rfl rfl rfl ?_
          refine ex_getK pm_M175 (pc_q := 200) (j := 33) (b := 50) rfl rfl rfl rfl rfl ?_
          refine ex_op pm_M175 (pc_q := 202) (st_q := [.int 25, .ref 50, .ref 41]) rfl rfl rfl ?_
          refine ex_lo pm_M175 (pc_q := 203) (ls_q := [.ref 41, .int a0, .int a1, .int a1]) (st_q := [.int a1, .int 25, .ref 50, .ref 41]) rfl rfl rfl ?_
          refine ex_call pm_M175 (pc_q := 206) (ix := 250) (callee := 193) (np := 3) (kd := 0) (ra := [.int a1, .int 25, .ref 50, .ref 41]) (rest := []) rfl rfl rfl rfl pm_M193 rfl rfl rfl rfl (fun d31 => (H193 _ d31 50 25 a1 (ex_sx S9 46 a0.toNatClampNeg ((S9.1 46 a0.toNatClampNeg) + 0))).mono (fun r S33 e => ?_))
          obtain ⟨rfl, h34⟩ := e
          show ex_P _ _ 175 206 [.ref 41, .int a0, .int a1, .int a1] [] S33 _
          refine ex_lo pm_M175 (pc_q := 207) (ls_q := [.ref 41, .int a0, .int a1, .int a1]) (st_q := [.int a1]) rfl rfl rfl ?_
          exact ex_retI pm_M175 rfl (⟨_, rfl, v4 a0 a1 S c2 c3 c6 r8 S9 h10 c11 c16 c21 c26 S33 h34⟩)
        · -- not
          refine ex_op pm_M175 (pc_q := 87) (st_q := [.int (-1)]) rfl rfl rfl ?_
          exact ex_retI pm_M175 rfl (⟨_, rfl, v5 a0 a1 S c2 c3 c6 r8 S9 h10 c11⟩)
      · -- not
        refine ex_op pm_M175 (pc_q := 77) (st_q := [.int (-2)]) rfl rfl rfl ?_
        exact ex_retI pm_M175 rfl (⟨_, rfl, v6 a0 a1 S c2 c3 c6⟩)
    · -- not
      refine ex_lo pm_M175 (pc_q := 51) (ls_q := [.ref 41, .int a0, .int a1, pm_no]) (st_q := [.ref 41]) rfl rfl rfl ?_
      refine ex_getK pm_M175 (pc_q := 54) (j := 29) (b := 46) rfl rfl rfl rfl rfl ?_
      refine ex_lo pm_M175 (pc_q := 55) (ls_q := [.ref 41, .int a0, .int a1, pm_no]) (st_q := [.int a0, .ref 46]) rfl rfl rfl ?_
      refine ex_iald' pm_M175 (pc_q := 56) (v := S.1 46 a0.toNatClampNeg) rfl rfl rfl ?_
      refine ex_lo pm_M175 (pc_q := 57) (ls_q := [.ref 41, .int a0, .int a1, pm_no]) (st_q := [.int a0, .int (S.1 46 a0.toNatClampNeg)]) rfl rfl rfl ?_
      refine ex_call pm_M175 (pc_q := 60) (ix := 240) (callee := 176) (np := 1) (kd := 2) (ra := [.int a0]) (rest := [.int (S.1 46 a0.toNatClampNeg)]) rfl rfl rfl rfl pm_M176 rfl rfl rfl rfl (fun d35 => (ef176 _ d35 a0 (ex_sx (ex_sx (ex_sx (ex_sx (ex_sx S 41 0 0) 41 11 (S.1 43 0)) 43 0 0) 44 0 0) 45 0 (-1))).mono (fun r S1 e => ?_))
      obtain ⟨rfl, e2⟩ := e
      rw [e2]
      show ex_P _ _ 175 60 [.ref 41, .int a0, .int a1, pm_no] [.int (vf176 a0), .int (S.1 46 a0.toNatClampNeg)] (ex_sx (ex_sx (ex_sx (ex_sx (ex_sx S 41 0 0) 41 11 (S.1 43 0)) 43 0 0) 44 0 0) 45 0 (-1)) _
      refine ex_icmp pm_M175 (t := 78) (pc_q := 63) rfl rfl rfl (fun c36 => ?_) (fun c36 => ?_)
      · -- ¬ S.1 46 a0.toNatClampNeg = vf176 a0
        refine ex_lo pm_M175 (pc_q := 79) (ls_q := [.ref 41, .int a0, .int a1, pm_no]) (st_q := [.ref 41]) rfl rfl rfl ?_
        refine ex_lo pm_M175 (pc_q := 80) (ls_q := [.ref 41, .int a0, .int a1, pm_no]) (st_q := [.int a0, .ref 41]) rfl rfl rfl ?_
        refine ex_call pm_M175 (pc_q := 83) (ix := 247) (callee := 178) (np := 1) (kd := 0) (ra := [.int a0, .ref 41]) (rest := []) rfl rfl rfl rfl pm_M178 rfl rfl rfl rfl (fun d37 => (H178 _ d37 a0 (ex_sx (ex_sx (ex_sx (ex_sx (ex_sx S 41 0 0) 41 11 (S.1 43 0)) 43 0 0) 44 0 0) 45 0 (-1))).mono (fun r S39 e => ?_))
        obtain ⟨r38, rfl, h40⟩ := e
        show ex_P _ _ 175 83 [.ref 41, .int a0, .int a1, pm_no] [.int r38] S39 _
        refine ex_ifc pm_M175 (t := 88) (pc_q := 86) rfl rfl rfl (fun c41 => ?_) (fun c41 => ?_)
        · -- ¬ r38 = 0
          refine ex_lo pm_M175 (pc_q := 89) (ls_q := [.ref 41, .int a0, .int a1, pm_no]) (st_q := [.int a1]) rfl rfl rfl ?_
          refine ex_op pm_M175 (pc_q := 90) (st_q := [.int (-1), .int a1]) rfl rfl rfl ?_
          refine ex_icmp pm_M175 (t := 102) (pc_q := 93) rfl rfl rfl (fun z => absurd z c3) (fun _ => ?_)
          refine ex_lo pm_M175 (pc_q := 94) (ls_q := [.ref 41, .int a0, .int a1, pm_no]) (st_q := [.ref 41]) rfl rfl rfl ?_
          refine ex_getK pm_M175 (pc_q := 97) (j := 29) (b := 46) rfl rfl rfl rfl rfl ?_
          refine ex_lo pm_M175 (pc_q := 98) (ls_q := [.ref 41, .int a0, .int a1, pm_no]) (st_q := [.int a0, .ref 46]) rfl rfl rfl ?_
          refine ex_iald' pm_M175 (pc_q := 99) (v := S39.1 46 a0.toNatClampNeg) rfl rfl rfl ?_
          refine ex_br pm_M175 (pc_q := 103) (st_q := [.int (S39.1 46 a0.toNatClampNeg)]) rfl rfl ?_
          refine ex_lo pm_M175 (pc_q := 104) (ls_q := [.ref 41, .int a0, .int a1, .int (S39.1 46 a0.toNatClampNeg)]) (st_q := []) rfl rfl rfl ?_
          refine ex_lo pm_M175 (pc_q := 105) (ls_q := [.ref 41, .int a0, .int a1, .int (S39.1 46 a0.toNatClampNeg)]) (st_q := [.ref 41]) rfl rfl rfl ?_
          refine ex_getK pm_M175 (pc_q := 108) (j := 29) (b := 46) rfl rfl rfl rfl rfl ?_
          refine ex_lo pm_M175 (pc_q := 109) (ls_q := [.ref 41, .int a0, .int a1, .int (S39.1 46 a0.toNatClampNeg)]) (st_q := [.int a0, .ref 46]) rfl rfl rfl ?_
          refine ex_op pm_M175 (pc_q := 110) (st_q := [.int a0, .ref 46, .int a0, .ref 46]) rfl rfl rfl ?_
          refine ex_iald' pm_M175 (pc_q := 111) (v := S39.1 46 a0.toNatClampNeg) rfl rfl rfl ?_
          refine ex_lo pm_M175 (pc_q := 112) (ls_q := [.ref 41, .int a0, .int a1, .int (S39.1 46 a0.toNatClampNeg)]) (st_q := [.int a1, .int (S39.1 46 a0.toNatClampNeg), .int a0, .ref 46]) rfl rfl rfl ?_
          refine ex_op pm_M175 (pc_q := 113) (st_q := [.int (-1), .int a1, .int (S39.1 46 a0.toNatClampNeg), .int a0, .ref 46]) rfl rfl rfl ?_
          refine ex_icmp pm_M175 (t := 120) (pc_q := 116) rfl rfl rfl (fun z => absurd z c3) (fun _ => ?_)
          refine ex_op pm_M175 (pc_q := 117) (st_q := [.int 1, .int (S39.1 46 a0.toNatClampNeg), .int a0, .ref 46]) rfl rfl rfl ?_
          refine ex_br pm_M175 (pc_q := 121) (st_q := [.int 1, .int (S39.1 46 a0.toNatClampNeg), .int a0, .ref 46]) rfl rfl ?_
          refine ex_op pm_M175 (pc_q := 122) (st_q := [.int ((S39.1 46 a0.toNatClampNeg) + 1), .int a0, .ref 46]) rfl rfl rfl ?_
          refine ex_iast pm_M175 (pc_q := 123) rfl rfl ?_
          refine ex_lo pm_M175 (pc_q := 124) (ls_q := [.ref 41, .int a0, .int a1, .int (S39.1 46 a0.toNatClampNeg)]) (st_q := [.int a0]) rfl rfl rfl ?_
          refine ex_sw pm_M175 rfl rfl rfl rfl rfl (fun _ _ _ => rfl) (fun z44 hz45 => ?_)
          by_cases c46 : a0 = 0
          · rw [c46] at hz45
            cases (show some (152, []) = some z44 from hz45)
            show ex_P _ _ 175 152 [.ref 41, .int a0, .int a1, .int (S39.1 46 a0.toNatClampNeg)] [] (ex_sx S39 46 a0.toNatClampNeg ((S39.1 46 a0.toNatClampNeg) + 1)) _
            refine ex_lo pm_M175 (pc_q := 153) (ls_q := [.ref 41, .int a0, .int a1, .int (S39.1 46 a0.toNatClampNeg)]) (st_q := [.ref 41]) rfl rfl rfl ?_
            refine ex_lo pm_M175 (pc_q := 154) (ls_q := [.ref 41, .int a0, .int a1, .int (S39.1 46 a0.toNatClampNeg)]) (st_q := [.ref 41, .ref 41]) rfl rfl rfl ?_
            refine ex_getK pm_M175 (pc_q := 157) (j := 30) (b := 47) rfl rfl rfl rfl rfl ?_
            refine ex_op pm_M175 (pc_q := 159) (st_q := [.int 100, .ref 47, .ref 41]) rfl rfl rfl ?_
            refine ex_lo pm_M175 (pc_q := 160) (ls_q := [.ref 41, .int a0, .int a1, .int (S39.1 46 a0.toNatClampNeg)]) (st_q := [.int (S39.1 46 a0.toNatClampNeg), .int 100, .ref 47, .ref 41]) rfl rfl rfl ?_
            refine ex_call pm_M175 (pc_q := 163) (ix := 250) (callee := 193) (np := 3) (kd := 0) (ra := [.int (S39.1 46 a0.toNatClampNeg), .int 100, .ref 47, .ref 41]) (rest := []) rfl rfl rfl rfl pm_M193 rfl rfl rfl rfl (fun d47 => (H193 _ d47 47 100 (S39.1 46 a0.toNatClampNeg) (ex_sx S39 46 a0.toNatClampNeg ((S39.1 46 a0.toNatClampNeg) + 1))).mono (fun r S49 e => ?_))
            obtain ⟨rfl, h50⟩ := e
            show ex_P _ _ 175 163 [.ref 41, .int a0, .int a1, .int (S39.1 46 a0.toNatClampNeg)] [] S49 _
            refine ex_br pm_M175 (pc_q := 206) (st_q := []) rfl rfl ?_
            refine ex_lo pm_M175 (pc_q := 207) (ls_q := [.ref 41, .int a0, .int a1, .int (S39.1 46 a0.toNatClampNeg)]) (st_q := [.int (S39.1 46 a0.toNatClampNeg)]) rfl rfl rfl ?_
            exact ex_retI pm_M175 rfl (⟨_, rfl, v7 a0 a1 S c2 c3 c36 r38 S39 h40 c41 c46 S49 h50⟩)
          by_cases c51 : a0 = 1
          · rw [c51] at hz45
            cases (show some (166, []) = some z44 from hz45)
            show ex_P _ _ 175 166 [.ref 41, .int a0, .int a1, .int (S39.1 46 a0.toNatClampNeg)] [] (ex_sx S39 46 a0.toNatClampNeg ((S39.1 46 a0.toNatClampNeg) + 1)) _
            refine ex_lo pm_M175 (pc_q := 167) (ls_q := [.ref 41, .int a0, .int a1, .int (S39.1 46 a0.toNatClampNeg)]) (st_q := [.ref 41]) rfl rfl rfl ?_
            refine ex_lo pm_M175 (pc_q := 168) (ls_q := [.ref 41, .int a0, .int a1, .int (S39.1 46 a0.toNatClampNeg)]) (st_q := [.ref 41, .ref 41]) rfl rfl rfl ?_
            refine ex_getK pm_M175 (pc_q := 171) (j := 31) (b := 48) rfl rfl rfl rfl rfl ?_
            refine ex_op pm_M175 (pc_q := 173) (st_q := [.int 13, .ref 48, .ref 41]) rfl rfl rfl ?_
            refine ex_lo pm_M175 (pc_q := 174) (ls_q := [.ref 41, .int a0, .int a1, .int (S39.1 46 a0.toNatClampNeg)]) (st_q := [.int (S39.1 46 a0.toNatClampNeg), .int 13, .ref 48, .ref 41]) rfl rfl rfl ?_
            refine ex_call pm_M175 (pc_q := 177) (ix := 250) (callee := 193) (np := 3) (kd := 0) (ra := [.int (S39.1 46 a0.toNatClampNeg), .int 13, .ref 48, .ref 41]) (rest := []) rfl rfl rfl rfl pm_M193 rfl rfl rfl rfl (fun d52 => (H193 _ d52 48 13 (S39.1 46 a0.toNatClampNeg) (ex_sx S39 46 a0.toNatClampNeg ((S39.1 46 a0.toNatClampNeg) + 1))).mono (fun r S54 e => ?_))
            obtain ⟨rfl, h55⟩ := e
            show ex_P _ _ 175 177 [.ref 41, .int a0, .int a1, .int (S39.1 46 a0.toNatClampNeg)] [] S54 _
            refine ex_br pm_M175 (pc_q := 206) (st_q := []) rfl rfl ?_
            refine ex_lo pm_M175 (pc_q := 207) (ls_q := [.ref 41, .int a0, .int a1, .int (S39.1 46 a0.toNatClampNeg)]) (st_q := [.int (S39.1 46 a0.toNatClampNeg)]) rfl rfl rfl ?_
            exact ex_retI pm_M175 rfl (⟨_, rfl, v8 a0 a1 S c2 c3 c36 r38 S39 h40 c41 c46 c51 S54 h55⟩)
          by_cases c56 : a0 = 2
          · rw [c56] at hz45
            cases (show some (180, []) = some z44 from hz45)
            show ex_P _ _ 175 180 [.ref 41, .int a0, .int a1, .int (S39.1 46 a0.toNatClampNeg)] [] (ex_sx S39 46 a0.toNatClampNeg ((S39.1 46 a0.toNatClampNeg) + 1)) _
            refine ex_lo pm_M175 (pc_q := 181) (ls_q := [.ref 41, .int a0, .int a1, .int (S39.1 46 a0.toNatClampNeg)]) (st_q := [.ref 41]) rfl rfl rfl ?_
            refine ex_lo pm_M175 (pc_q := 182) (ls_q := [.ref 41, .int a0, .int a1, .int (S39.1 46 a0.toNatClampNeg)]) (st_q := [.ref 41, .ref 41]) rfl rfl rfl ?_
            refine ex_getK pm_M175 (pc_q := 185) (j := 32) (b := 49) rfl rfl rfl rfl rfl ?_
            refine ex_op pm_M175 (pc_q := 188) (st_q := [.int 152, .ref 49, .ref 41]) rfl rfl rfl ?_
            refine ex_lo pm_M175 (pc_q := 189) (ls_q := [.ref 41, .int a0, .int a1, .int (S39.1 46 a0.toNatClampNeg)]) (st_q := [.int (S39.1 46 a0.toNatClampNeg), .int 152, .ref 49, .ref 41]) rfl rfl rfl ?_
            refine ex_call pm_M175 (pc_q := 192) (ix := 250) (callee := 193) (np := 3) (kd := 0) (ra := [.int (S39.1 46 a0.toNatClampNeg), .int 152, .ref 49, .ref 41]) (rest := []) rfl rfl rfl rfl pm_M193 rfl rfl rfl rfl (fun d57 => (H193 _ d57 49 152 (S39.1 46 a0.toNatClampNeg) (ex_sx S39 46 a0.toNatClampNeg ((S39.1 46 a0.toNatClampNeg) + 1))).mono (fun r S59 e => ?_))
            obtain ⟨rfl, h60⟩ := e
            show ex_P _ _ 175 192 [.ref 41, .int a0, .int a1, .int (S39.1 46 a0.toNatClampNeg)] [] S59 _
            refine ex_br pm_M175 (pc_q := 206) (st_q := []) rfl rfl ?_
            refine ex_lo pm_M175 (pc_q := 207) (ls_q := [.ref 41, .int a0, .int a1, .int (S39.1 46 a0.toNatClampNeg)]) (st_q := [.int (S39.1 46 a0.toNatClampNeg)]) rfl rfl rfl ?_
            exact ex_retI pm_M175 rfl (⟨_, rfl, v9 a0 a1 S c2 c3 c36 r38 S39 h40 c41 c46 c51 c56 S59 h60⟩)
          have hz45' := ex_tswD (st := []) hz45 (by first | (have w0 : (a0).toInt ≠ 0 := fun w => c46 (Int32.toInt_inj.mp (w.trans (by decide))); have w1 : (a0).toInt ≠ 1 := fun w => c51 (Int32.toInt_inj.mp (w.trans (by decide))); have w2 : (a0).toInt ≠ 2 := fun w => c56 (Int32.toInt_inj.mp (w.trans (by decide))); omega) | decide)
          cases (show some (195, []) = some z44 from hz45')
          show ex_P _ _ 175 195 [.ref 41, .int a0, .int a1, .int (S39.1 46 a0.toNatClampNeg)] [] (ex_sx S39 46 a0.toNatClampNeg ((S39.1 46 a0.toNatClampNeg) + 1)) _
          refine ex_lo pm_M175 (pc_q := 196) (ls_q := [.ref 41, .int a0, .int a1, .int (S39.1 46 a0.toNatClampNeg)]) (st_q := [.ref 41]) rfl rfl rfl ?_
          refine ex_lo pm_M175 (pc_q := 197) (ls_q := [.ref 41, .int a0, .int a1, .int (S39.1 46 a0.toNatClampNeg)]) (st_q := [.ref 41, .ref 41]) rfl rfl rfl ?_
          refine ex_getK pm_M175 (pc_q := 200) (j := 33) (b := 50) rfl rfl rfl rfl rfl ?_
          refine ex_op pm_M175 (pc_q := 202) (st_q := [.int 25, .ref 50, .ref 41]) rfl rfl rfl ?_
          refine ex_lo pm_M175 (pc_q := 203) (ls_q := [.ref 41, .int a0, .int a1, .int (S39.1 46 a0.toNatClampNeg)]) (st_q := [.int (S39.1 46 a0.toNatClampNeg), .int 25, .ref 50, .ref 41]) rfl rfl rfl ?_
          refine ex_call pm_M175 (pc_q := 206) (ix := 250) (callee := 193) (np := 3) (kd := 0) (ra := [.int (S39.1 46 a0.toNatClampNeg), .int 25, .ref 50, .ref 41]) (rest := []) rfl rfl rfl rfl pm_M193 rfl rfl rfl rfl (fun d61 => (H193 _ d61 50 25 (S39.1 46 a0.toNatClampNeg) (ex_sx S39 46 a0.toNatClampNeg ((S39.1 46 a0.toNatClampNeg) + 1))).mono (fun r S63 e => ?_))
          obtain ⟨rfl, h64⟩ := e
          show ex_P _ _ 175 206 [.ref 41, .int a0, .int a1, .int (S39.1 46 a0.toNatClampNeg)] [] S63 _
          refine ex_lo pm_M175 (pc_q := 207) (ls_q := [.ref 41, .int a0, .int a1, .int (S39.1 46 a0.toNatClampNeg)]) (st_q := [.int (S39.1 46 a0.toNatClampNeg)]) rfl rfl rfl ?_
          exact ex_retI pm_M175 rfl (⟨_, rfl, v10 a0 a1 S c2 c3 c36 r38 S39 h40 c41 c46 c51 c56 S63 h64⟩)
        · -- not
          refine ex_op pm_M175 (pc_q := 87) (st_q := [.int (-1)]) rfl rfl rfl ?_
          exact ex_retI pm_M175 rfl (⟨_, rfl, v11 a0 a1 S c2 c3 c36 r38 S39 h40 c41⟩)
      · -- not
        refine ex_br pm_M175 (pc_q := 75) (st_q := []) rfl rfl ?_
        refine ex_op pm_M175 (pc_q := 77) (st_q := [.int (-2)]) rfl rfl rfl ?_
        exact ex_retI pm_M175 rfl (⟨_, rfl, v12 a0 a1 S c2 c3 c36⟩)
set_option maxRecDepth 100000 in
set_option maxHeartbeats 4000000 in
/-- SilentTableModel.fault -/
theorem ev194 {C : Int32 → ex_S → Int32 → ex_S → Prop} 
    (v0 : ∀ (a0 : Int32) (S : ex_S), ¬ a0 = 0 → ¬ a0 = 1 → C a0 S (-1) (ex_sx S 41 0 0)) 
    (v1 : ∀ (a0 : Int32) (S : ex_S), ¬ a0 = 0 → ¬ (¬ a0 = 1) → C a0 S (S.1 45 0) (ex_sx S 41 0 0)) 
    (v2 : ∀ (a0 : Int32) (S : ex_S), ¬ (¬ a0 = 0) → C a0 S (S.1 44 0) (ex_sx S 41 0 0)) : es194 C := by
  intro N d a0 S
  refine ex_lo pm_M194 (pc_q := 1) (ls_q := [.ref 41, .int a0]) (st_q := [.ref 41]) rfl rfl rfl ?_
  refine ex_op pm_M194 (pc_q := 2) (st_q := [.int 0, .ref 41]) rfl rfl rfl ?_
  refine ex_putI pm_M194 (pc_q := 5) rfl rfl rfl rfl rfl ?_
  refine ex_lo pm_M194 (pc_q := 6) (ls_q := [.ref 41, .int a0]) (st_q := [.int a0]) rfl rfl rfl ?_
  refine ex_ifc pm_M194 (t := 18) (pc_q := 9) rfl rfl rfl (fun c1 => ?_) (fun c1 => ?_)
  · -- ¬ a0 = 0
    refine ex_lo pm_M194 (pc_q := 19) (ls_q := [.ref 41, .int a0]) (st_q := [.int a0]) rfl rfl rfl ?_
    refine ex_op pm_M194 (pc_q := 20) (st_q := [.int 1, .int a0]) rfl rfl rfl ?_
    refine ex_icmp pm_M194 (t := 32) (pc_q := 23) rfl rfl rfl (fun c2 => ?_) (fun c2 => ?_)
    · -- ¬ a0 = 1
      refine ex_op pm_M194 (pc_q := 33) (st_q := [.int (-1)]) rfl rfl rfl ?_
      exact ex_retI pm_M194 rfl (⟨_, rfl, v0 a0 S c1 c2⟩)
    · -- not
      refine ex_lo pm_M194 (pc_q := 24) (ls_q := [.ref 41, .int a0]) (st_q := [.ref 41]) rfl rfl rfl ?_
      refine ex_getK pm_M194 (pc_q := 27) (j := 28) (b := 45) rfl rfl rfl rfl rfl ?_
      refine ex_op pm_M194 (pc_q := 28) (st_q := [.int 0, .ref 45]) rfl rfl rfl ?_
      refine ex_iald' pm_M194 (pc_q := 29) (v := S.1 45 0) rfl rfl rfl ?_
      refine ex_br pm_M194 (pc_q := 33) (st_q := [.int (S.1 45 0)]) rfl rfl ?_
      exact ex_retI pm_M194 rfl (⟨_, rfl, v1 a0 S c1 c2⟩)
  · -- not
    refine ex_lo pm_M194 (pc_q := 10) (ls_q := [.ref 41, .int a0]) (st_q := [.ref 41]) rfl rfl rfl ?_
    refine ex_getK pm_M194 (pc_q := 13) (j := 27) (b := 44) rfl rfl rfl rfl rfl ?_
    refine ex_op pm_M194 (pc_q := 14) (st_q := [.int 0, .ref 44]) rfl rfl rfl ?_
    refine ex_iald' pm_M194 (pc_q := 15) (v := S.1 44 0) rfl rfl rfl ?_
    refine ex_br pm_M194 (pc_q := 33) (st_q := [.int (S.1 44 0)]) rfl rfl ?_
    exact ex_retI pm_M194 rfl (⟨_, rfl, v2 a0 S c1⟩)
set_option maxRecDepth 100000 in
set_option maxHeartbeats 4000000 in
/-- SilentTableModel.count -/
theorem ev294 {C : Int32 → ex_S → Int32 → ex_S → Prop} 
    (v0 : ∀ (a0 : Int32) (S : ex_S), vf174 a0 0 3 = 0 → C a0 S (-2) (ex_sx S 41 0 0)) 
    (v1 : ∀ (a0 : Int32) (S : ex_S), ¬ (vf174 a0 0 3 = 0) → C a0 S (S.1 46 a0.toNatClampNeg) (ex_sx S 41 0 0)) : es294 C := by
  intro N d a0 S
  refine ex_lo pm_M294 (pc_q := 1) (ls_q := [.ref 41, .int a0]) (st_q := [.ref 41]) rfl rfl rfl ?_
  refine ex_op pm_M294 (pc_q := 2) (st_q := [.int 0, .ref 41]) rfl rfl rfl ?_
  refine ex_putI pm_M294 (pc_q := 5) rfl rfl rfl rfl rfl ?_
  refine ex_lo pm_M294 (pc_q := 6) (ls_q := [.ref 41, .int a0]) (st_q := [.int a0]) rfl rfl rfl ?_
  refine ex_op pm_M294 (pc_q := 7) (st_q := [.int 0, .int a0]) rfl rfl rfl ?_
  refine ex_op pm_M294 (pc_q := 8) (st_q := [.int 3, .int 0, .int a0]) rfl rfl rfl ?_
  refine ex_call pm_M294 (pc_q := 11) (ix := 112) (callee := 174) (np := 3) (kd := 2) (ra := [.int 3, .int 0, .int a0]) (rest := []) rfl rfl rfl rfl pm_M174 rfl rfl rfl rfl (fun d1 => (ef174 _ d1 a0 0 3 (ex_sx S 41 0 0)).mono (fun r S1 e => ?_))
  obtain ⟨rfl, e2⟩ := e
  rw [e2]
  show ex_P _ _ 294 11 [.ref 41, .int a0] [.int (vf174 a0 0 3)] (ex_sx S 41 0 0) _
  refine ex_ifc pm_M294 (t := 23) (pc_q := 14) rfl rfl rfl (fun c2 => ?_) (fun c2 => ?_)
  · -- vf174 a0 0 3 = 0
    refine ex_op pm_M294 (pc_q := 25) (st_q := [.int (-2)]) rfl rfl rfl ?_
    exact ex_retI pm_M294 rfl (⟨_, rfl, v0 a0 S c2⟩)
  · -- not
    refine ex_lo pm_M294 (pc_q := 15) (ls_q := [.ref 41, .int a0]) (st_q := [.ref 41]) rfl rfl rfl ?_
    refine ex_getK pm_M294 (pc_q := 18) (j := 29) (b := 46) rfl rfl rfl rfl rfl ?_
    refine ex_lo pm_M294 (pc_q := 19) (ls_q := [.ref 41, .int a0]) (st_q := [.int a0, .ref 46]) rfl rfl rfl ?_
    refine ex_iald' pm_M294 (pc_q := 20) (v := S.1 46 a0.toNatClampNeg) rfl rfl rfl ?_
    refine ex_br pm_M294 (pc_q := 25) (st_q := [.int (S.1 46 a0.toNatClampNeg)]) rfl rfl ?_
    exact ex_retI pm_M294 rfl (⟨_, rfl, v1 a0 S c2⟩)
set_option maxRecDepth 100000 in
set_option maxHeartbeats 4000000 in
/-- SilentTableModel.copyRow -/
theorem ev297 {C : Nat → Int32 → Int32 → Int32 → ex_S → ex_S → Prop} {I3 : Nat → Int32 → Int32 → Int32 → ex_S → Int32 → ex_S → Prop} 
    (v0 : ∀ (a0 : Nat) (a1 : Int32) (a2 : Int32) (a3 : Int32) (S : ex_S), I3 a0 a1 a2 a3 S 0 S) 
    (v1 : ∀ (a0 : Nat) (a1 : Int32) (a2 : Int32) (a3 : Int32) (S : ex_S) (x4 : Int32) (T : ex_S), I3 a0 a1 a2 a3 S x4 T → a1 ≤ x4 → C a0 a1 a2 a3 S T) 
    (v2 : ∀ (a0 : Nat) (a1 : Int32) (a2 : Int32) (a3 : Int32) (S : ex_S) (x4 : Int32) (T : ex_S), I3 a0 a1 a2 a3 S x4 T → ¬ (a1 ≤ x4) → I3 a0 a1 a2 a3 S (x4 + 1) (ex_sx T a0 (((a1 * a3) + x4).toNatClampNeg) (T.1 a0 (((a1 * a2) + x4).toNatClampNeg)))) : es297 C := by
  intro N d a0 a1 a2 a3 S
  have LL : ∀ N : Nat, (∀ (x4 : Int32) (T : ex_S), I3 a0 a1 a2 a3 S x4 T → ex_P N d 297 3 [.ref a0, .int a1, .int a2, .int a3, .int x4] [] T (fun r S_q => r = none ∧ C a0 a1 a2 a3 S S_q)) := by
    intro N
    induction N with
    | zero => exact fun _ _ _ => ex_zero
    | succ N ih =>
      have ih3 := ih
      have L3 : ∀ (x4 : Int32) (T : ex_S), I3 a0 a1 a2 a3 S x4 T → ex_P (N + 1) d 297 3 [.ref a0, .int a1, .int a2, .int a3, .int x4] [] T (fun r S_q => r = none ∧ C a0 a1 a2 a3 S S_q) := by
        intro x4 T hI
        refine ex_lo pm_M297 (pc_q := 5) (ls_q := [.ref a0, .int a1, .int a2, .int a3, .int x4]) (st_q := [.int x4]) rfl rfl rfl ?_
        refine ex_lo pm_M297 (pc_q := 6) (ls_q := [.ref a0, .int a1, .int a2, .int a3, .int x4]) (st_q := [.int a1, .int x4]) rfl rfl rfl ?_
        refine ex_icmp pm_M297 (t := 31) (pc_q := 9) rfl rfl rfl (fun c1 => ?_) (fun c1 => ?_)
        · -- a1 ≤ x4
          exact ex_ret pm_M297 (r := none) rfl rfl (⟨rfl, v1 a0 a1 a2 a3 S x4 T hI c1⟩)
        · -- not
          refine ex_lo pm_M297 (pc_q := 10) (ls_q := [.ref a0, .int a1, .int a2, .int a3, .int x4]) (st_q := [.ref a0]) rfl rfl rfl ?_
          refine ex_lo pm_M297 (pc_q := 11) (ls_q := [.ref a0, .int a1, .int a2, .int a3, .int x4]) (st_q := [.int a1, .ref a0]) rfl rfl rfl ?_
          refine ex_lo pm_M297 (pc_q := 12) (ls_q := [.ref a0, .int a1, .int a2, .int a3, .int x4]) (st_q := [.int a3, .int a1, .ref a0]) rfl rfl rfl ?_
          refine ex_op pm_M297 (pc_q := 13) (st_q := [.int (a1 * a3), .ref a0]) rfl rfl rfl ?_
          refine ex_lo pm_M297 (pc_q := 15) (ls_q := [.ref a0, .int a1, .int a2, .int a3, .int x4]) (st_q := [.int x4, .int (a1 * a3), .ref a0]) rfl rfl rfl ?_
          refine ex_op pm_M297 (pc_q := 16) (st_q := [.int ((a1 * a3) + x4), .ref a0]) rfl rfl rfl ?_
          refine ex_lo pm_M297 (pc_q := 17) (ls_q := [.ref a0, .int a1, .int a2, .int a3, .int x4]) (st_q := [.ref a0, .int ((a1 * a3) + x4), .ref a0]) rfl rfl rfl ?_
          refine ex_lo pm_M297 (pc_q := 18) (ls_q := [.ref a0, .int a1, .int a2, .int a3, .int x4]) (st_q := [.int a1, .ref a0, .int ((a1 * a3) + x4), .ref a0]) rfl rfl rfl ?_
          refine ex_lo pm_M297 (pc_q := 19) (ls_q := [.ref a0, .int a1, .int a2, .int a3, .int x4]) (st_q := [.int a2, .int a1, .ref a0, .int ((a1 * a3) + x4), .ref a0]) rfl rfl rfl ?_
          refine ex_op pm_M297 (pc_q := 20) (st_q := [.int (a1 * a2), .ref a0, .int ((a1 * a3) + x4), .ref a0]) rfl rfl rfl ?_
          refine ex_lo pm_M297 (pc_q := 22) (ls_q := [.ref a0, .int a1, .int a2, .int a3, .int x4]) (st_q := [.int x4, .int (a1 * a2), .ref a0, .int ((a1 * a3) + x4), .ref a0]) rfl rfl rfl ?_
          refine ex_op pm_M297 (pc_q := 23) (st_q := [.int ((a1 * a2) + x4), .ref a0, .int ((a1 * a3) + x4), .ref a0]) rfl rfl rfl ?_
          refine ex_iald' pm_M297 (pc_q := 24) (v := T.1 a0 (((a1 * a2) + x4).toNatClampNeg)) rfl rfl rfl ?_
          refine ex_iast pm_M297 (pc_q := 25) rfl rfl ?_
          refine ex_lo pm_M297 (pc_q := 28) (ls_q := [.ref a0, .int a1, .int a2, .int a3, .int (x4 + 1)]) (st_q := []) rfl rfl rfl ?_
          refine ex_goS pm_M297 (pc_q := 3) (st_q := []) rfl rfl ?_
          exact ih3 (x4 + 1) (ex_sx T a0 (((a1 * a3) + x4).toNatClampNeg) (T.1 a0 (((a1 * a2) + x4).toNatClampNeg))) (v2 a0 a1 a2 a3 S x4 T hI c1)
      exact L3
  have L3 := LL N
  refine ex_op pm_M297 (pc_q := 1) (st_q := [.int 0]) rfl rfl rfl ?_
  refine ex_lo pm_M297 (pc_q := 3) (ls_q := [.ref a0, .int a1, .int a2, .int a3, .int 0]) (st_q := []) rfl rfl rfl ?_
  exact L3 0 S (v0 a0 a1 a2 a3 S)
set_option maxRecDepth 100000 in
set_option maxHeartbeats 4000000 in
/-- SilentTableModel.copyAll -/
theorem ev296 {C : Int32 → Int32 → ex_S → ex_S → Prop} {C297 : Nat → Int32 → Int32 → Int32 → ex_S → ex_S → Prop} {I2 : Int32 → Int32 → ex_S → Int32 → ex_S → Prop} (H297 : es297 C297) 
    (v0 : ∀ (a0 : Int32) (a1 : Int32) (S : ex_S), I2 a0 a1 S 0 S) 
    (v1 : ∀ (a0 : Int32) (a1 : Int32) (S : ex_S) (x3 : Int32) (T : ex_S), I2 a0 a1 S x3 T → 600 ≤ x3 → ∀ (S4 : ex_S), C297 43 1 a0 a1 T S4 → ∀ (S8 : ex_S), C297 44 1 a0 a1 S4 S8 → ∀ (S12 : ex_S), C297 45 1 a0 a1 S8 S12 → ∀ (S16 : ex_S), C297 46 4 a0 a1 S12 S16 → ∀ (S20 : ex_S), C297 47 200 a0 a1 S16 S20 → ∀ (S24 : ex_S), C297 48 39 a0 a1 S20 S24 → ∀ (S28 : ex_S), C297 49 304 a0 a1 S24 S28 → ∀ (S32 : ex_S), C297 50 50 a0 a1 S28 S32 → C a0 a1 S S32) 
    (v2 : ∀ (a0 : Int32) (a1 : Int32) (S : ex_S) (x3 : Int32) (T : ex_S), I2 a0 a1 S x3 T → ¬ (600 ≤ x3) → I2 a0 a1 S (x3 + 1) (ex_sx T 42 (((600 * a1) + x3).toNatClampNeg) ((T.1 42 (((600 * a0) + x3).toNatClampNeg)).toInt8.toInt32))) : es296 C := by
  intro N d a0 a1 S
  have LL : ∀ N : Nat, (∀ (x3 : Int32) (T : ex_S), I2 a0 a1 S x3 T → ex_P N d 296 2 [.ref 41, .int a0, .int a1, .int x3] [] T (fun r S_q => r = none ∧ C a0 a1 S S_q)) := by
    intro N
    induction N with
    | zero => exact fun _ _ _ => ex_zero
    | succ N ih =>
      have ih2 := ih
      have L2 : ∀ (x3 : Int32) (T : ex_S), I2 a0 a1 S x3 T → ex_P (N + 1) d 296 2 [.ref 41, .int a0, .int a1, .int x3] [] T (fun r S_q => r = none ∧ C a0 a1 S S_q) := by
        intro x3 T hI
        refine ex_lo pm_M296 (pc_q := 3) (ls_q := [.ref 41, .int a0, .int a1, .int x3]) (st_q := [.int x3]) rfl rfl rfl ?_
        refine ex_op pm_M296 (pc_q := 6) (st_q := [.int 600, .int x3]) rfl rfl rfl ?_
        refine ex_icmp pm_M296 (t := 39) (pc_q := 9) rfl rfl rfl (fun c1 => ?_) (fun c1 => ?_)
        · -- 600 ≤ x3
          refine ex_lo pm_M296 (pc_q := 40) (ls_q := [.ref 41, .int a0, .int a1, .int x3]) (st_q := [.ref 41]) rfl rfl rfl ?_
          refine ex_getK pm_M296 (pc_q := 43) (j := 26) (b := 43) rfl rfl rfl rfl rfl ?_
          refine ex_op pm_M296 (pc_q := 44) (st_q := [.int 1, .ref 43]) rfl rfl rfl ?_
          refine ex_lo pm_M296 (pc_q := 45) (ls_q := [.ref 41, .int a0, .int a1, .int x3]) (st_q := [.int a0, .int 1, .ref 43]) rfl rfl rfl ?_
          refine ex_lo pm_M296 (pc_q := 46) (ls_q := [.ref 41, .int a0, .int a1, .int x3]) (st_q := [.int a1, .int a0, .int 1, .ref 43]) rfl rfl rfl ?_
          refine ex_call pm_M296 (pc_q := 49) (ix := 108) (callee := 297) (np := 4) (kd := 2) (ra := [.int a1, .int a0, .int 1, .ref 43]) (rest := []) rfl rfl rfl rfl pm_M297 rfl rfl rfl rfl (fun d2 => (H297 _ d2 43 1 a0 a1 T).mono (fun r S4 e => ?_))
          obtain ⟨rfl, h5⟩ := e
          show ex_P _ _ 296 49 [.ref 41, .int a0, .int a1, .int x3] [] S4 _
          refine ex_lo pm_M296 (pc_q := 50) (ls_q := [.ref 41, .int a0, .int a1, .int x3]) (st_q := [.ref 41]) rfl rfl rfl ?_
          refine ex_getK pm_M296 (pc_q := 53) (j := 27) (b := 44) rfl rfl rfl rfl rfl ?_
          refine ex_op pm_M296 (pc_q := 54) (st_q := [.int 1, .ref 44]) rfl rfl rfl ?_
          refine ex_lo pm_M296 (pc_q := 55) (ls_q := [.ref 41, .int a0, .int a1, .int x3]) (st_q := [.int a0, .int 1, .ref 44]) rfl rfl rfl ?_
          refine ex_lo pm_M296 (pc_q := 56) (ls_q := [.ref 41, .int a0, .int a1, .int x3]) (st_q := [.int a1, .int a0, .int 1, .ref 44]) rfl rfl rfl ?_
          refine ex_call pm_M296 (pc_q := 59) (ix := 108) (callee := 297) (np := 4) (kd := 2) (ra := [.int a1, .int a0, .int 1, .ref 44]) (rest := []) rfl rfl rfl rfl pm_M297 rfl rfl rfl rfl (fun d6 => (H297 _ d6 44 1 a0 a1 S4).mono (fun r S8 e => ?_))
          obtain ⟨rfl, h9⟩ := e
          show ex_P _ _ 296 59 [.ref 41, .int a0, .int a1, .int x3] [] S8 _
          refine ex_lo pm_M296 (pc_q := 60) (ls_q := [.ref 41, .int a0, .int a1, .int x3]) (st_q := [.ref 41]) rfl rfl rfl ?_
          refine ex_getK pm_M296 (pc_q := 63) (j := 28) (b := 45) rfl rfl rfl rfl rfl ?_
          refine ex_op pm_M296 (pc_q := 64) (st_q := [.int 1, .ref 45]) rfl rfl rfl ?_
          refine ex_lo pm_M296 (pc_q := 65) (ls_q := [.ref 41, .int a0, .int a1, .int x3]) (st_q := [.int a0, .int 1, .ref 45]) rfl rfl rfl ?_
          refine ex_lo pm_M296 (pc_q := 66) (ls_q := [.ref 41, .int a0, .int a1, .int x3]) (st_q := [.int a1, .int a0, .int 1, .ref 45]) rfl rfl rfl ?_
          refine ex_call pm_M296 (pc_q := 69) (ix := 108) (callee := 297) (np := 4) (kd := 2) (ra := [.int a1, .int a0, .int 1, .ref 45]) (rest := []) rfl rfl rfl rfl pm_M297 rfl rfl rfl rfl (fun d10 => (H297 _ d10 45 1 a0 a1 S8).mono (fun r S12 e => ?_))
          obtain ⟨rfl, h13⟩ := e
          show ex_P _ _ 296 69 [.ref 41, .int a0, .int a1, .int x3] [] S12 _
          refine ex_lo pm_M296 (pc_q := 70) (ls_q := [.ref 41, .int a0, .int a1, .int x3]) (st_q := [.ref 41]) rfl rfl rfl ?_
          refine ex_getK pm_M296 (pc_q := 73) (j := 29) (b := 46) rfl rfl rfl rfl rfl ?_
          refine ex_op pm_M296 (pc_q := 74) (st_q := [.int 4, .ref 46]) rfl rfl rfl ?_
          refine ex_lo pm_M296 (pc_q := 75) (ls_q := [.ref 41, .int a0, .int a1, .int x3]) (st_q := [.int a0, .int 4, .ref 46]) rfl rfl rfl ?_
          refine ex_lo pm_M296 (pc_q := 76) (ls_q := [.ref 41, .int a0, .int a1, .int x3]) (st_q := [.int a1, .int a0, .int 4, .ref 46]) rfl rfl rfl ?_
          refine ex_call pm_M296 (pc_q := 79) (ix := 108) (callee := 297) (np := 4) (kd := 2) (ra := [.int a1, .int a0, .int 4, .ref 46]) (rest := []) rfl rfl rfl rfl pm_M297 rfl rfl rfl rfl (fun d14 => (H297 _ d14 46 4 a0 a1 S12).mono (fun r S16 e => ?_))
          obtain ⟨rfl, h17⟩ := e
          show ex_P _ _ 296 79 [.ref 41, .int a0, .int a1, .int x3] [] S16 _
          refine ex_lo pm_M296 (pc_q := 80) (ls_q := [.ref 41, .int a0, .int a1, .int x3]) (st_q := [.ref 41]) rfl rfl rfl ?_
          refine ex_getK pm_M296 (pc_q := 83) (j := 30) (b := 47) rfl rfl rfl rfl rfl ?_
          refine ex_op pm_M296 (pc_q := 86) (st_q := [.int 200, .ref 47]) rfl rfl rfl ?_
          refine ex_lo pm_M296 (pc_q := 87) (ls_q := [.ref 41, .int a0, .int a1, .int x3]) (st_q := [.int a0, .int 200, .ref 47]) rfl rfl rfl ?_
          refine ex_lo pm_M296 (pc_q := 88) (ls_q := [.ref 41, .int a0, .int a1, .int x3]) (st_q := [.int a1, .int a0, .int 200, .ref 47]) rfl rfl rfl ?_
          refine ex_call pm_M296 (pc_q := 91) (ix := 108) (callee := 297) (np := 4) (kd := 2) (ra := [.int a1, .int a0, .int 200, .ref 47]) (rest := []) rfl rfl rfl rfl pm_M297 rfl rfl rfl rfl (fun d18 => (H297 _ d18 47 200 a0 a1 S16).mono (fun r S20 e => ?_))
          obtain ⟨rfl, h21⟩ := e
          show ex_P _ _ 296 91 [.ref 41, .int a0, .int a1, .int x3] [] S20 _
          refine ex_lo pm_M296 (pc_q := 92) (ls_q := [.ref 41, .int a0, .int a1, .int x3]) (st_q := [.ref 41]) rfl rfl rfl ?_
          refine ex_getK pm_M296 (pc_q := 95) (j := 31) (b := 48) rfl rfl rfl rfl rfl ?_
          refine ex_op pm_M296 (pc_q := 97) (st_q := [.int 39, .ref 48]) rfl rfl rfl ?_
          refine ex_lo pm_M296 (pc_q := 98) (ls_q := [.ref 41, .int a0, .int a1, .int x3]) (st_q := [.int a0, .int 39, .ref 48]) rfl rfl rfl ?_
          refine ex_lo pm_M296 (pc_q := 99) (ls_q := [.ref 41, .int a0, .int a1, .int x3]) (st_q := [.int a1, .int a0, .int 39, .ref 48]) rfl rfl rfl ?_
          refine ex_call pm_M296 (pc_q := 102) (ix := 108) (callee := 297) (np := 4) (kd := 2) (ra := [.int a1, .int a0, .int 39, .ref 48]) (rest := []) rfl rfl rfl rfl pm_M297 rfl rfl rfl rfl (fun d22 => (H297 _ d22 48 39 a0 a1 S20).mono (fun r S24 e => ?_))
          obtain ⟨rfl, h25⟩ := e
          show ex_P _ _ 296 102 [.ref 41, .int a0, .int a1, .int x3] [] S24 _
          refine ex_lo pm_M296 (pc_q := 103) (ls_q := [.ref 41, .int a0, .int a1, .int x3]) (st_q := [.ref 41]) rfl rfl rfl ?_
          refine ex_getK pm_M296 (pc_q := 106) (j := 32) (b := 49) rfl rfl rfl rfl rfl ?_
          refine ex_op pm_M296 (pc_q := 109) (st_q := [.int 304, .ref 49]) rfl rfl rfl ?_
          refine ex_lo pm_M296 (pc_q := 110) (ls_q := [.ref 41, .int a0, .int a1, .int x3]) (st_q := [.int a0, .int 304, .ref 49]) rfl rfl rfl ?_
          refine ex_lo pm_M296 (pc_q := 111) (ls_q := [.ref 41, .int a0, .int a1, .int x3]) (st_q := [.int a1, .int a0, .int 304, .ref 49]) rfl rfl rfl ?_
          refine ex_call pm_M296 (pc_q := 114) (ix := 108) (callee := 297) (np := 4) (kd := 2) (ra := [.int a1, .int a0, .int 304, .ref 49]) (rest := []) rfl rfl rfl rfl pm_M297 rfl rfl rfl rfl (fun d26 => (H297 _ d26 49 304 a0 a1 S24).mono (fun r S28 e => ?_))
          obtain ⟨rfl, h29⟩ := e
          show ex_P _ _ 296 114 [.ref 41, .int a0, .int a1, .int x3] [] S28 _
          refine ex_lo pm_M296 (pc_q := 115) (ls_q := [.ref 41, .int a0, .int a1, .int x3]) (st_q := [.ref 41]) rfl rfl rfl ?_
          refine ex_getK pm_M296 (pc_q := 118) (j := 33) (b := 50) rfl rfl rfl rfl rfl ?_
          refine ex_op pm_M296 (pc_q := 120) (st_q := [.int 50, .ref 50]) rfl rfl rfl ?_
          refine ex_lo pm_M296 (pc_q := 121) (ls_q := [.ref 41, .int a0, .int a1, .int x3]) (st_q := [.int a0, .int 50, .ref 50]) rfl rfl rfl ?_
          refine ex_lo pm_M296 (pc_q := 122) (ls_q := [.ref 41, .int a0, .int a1, .int x3]) (st_q := [.int a1, .int a0, .int 50, .ref 50]) rfl rfl rfl ?_
          refine ex_call pm_M296 (pc_q := 125) (ix := 108) (callee := 297) (np := 4) (kd := 2) (ra := [.int a1, .int a0, .int 50, .ref 50]) (rest := []) rfl rfl rfl rfl pm_M297 rfl rfl rfl rfl (fun d30 => (H297 _ d30 50 50 a0 a1 S28).mono (fun r S32 e => ?_))
          obtain ⟨rfl, h33⟩ := e
          show ex_P _ _ 296 125 [.ref 41, .int a0, .int a1, .int x3] [] S32 _
          exact ex_ret pm_M296 (r := none) rfl rfl (⟨rfl, v1 a0 a1 S x3 T hI c1 S4 h5 S8 h9 S12 h13 S16 h17 S20 h21 S24 h25 S28 h29 S32 h33⟩)
        · -- not
          refine ex_lo pm_M296 (pc_q := 10) (ls_q := [.ref 41, .int a0, .int a1, .int x3]) (st_q := [.ref 41]) rfl rfl rfl ?_
          refine ex_getK pm_M296 (pc_q := 13) (j := 25) (b := 42) rfl rfl rfl rfl rfl ?_
          refine ex_op pm_M296 (pc_q := 16) (st_q := [.int 600, .ref 42]) rfl rfl rfl ?_
          refine ex_lo pm_M296 (pc_q := 17) (ls_q := [.ref 41, .int a0, .int a1, .int x3]) (st_q := [.int a1, .int 600, .ref 42]) rfl rfl rfl ?_
          refine ex_op pm_M296 (pc_q := 18) (st_q := [.int (600 * a1), .ref 42]) rfl rfl rfl ?_
          refine ex_lo pm_M296 (pc_q := 19) (ls_q := [.ref 41, .int a0, .int a1, .int x3]) (st_q := [.int x3, .int (600 * a1), .ref 42]) rfl rfl rfl ?_
          refine ex_op pm_M296 (pc_q := 20) (st_q := [.int ((600 * a1) + x3), .ref 42]) rfl rfl rfl ?_
          refine ex_lo pm_M296 (pc_q := 21) (ls_q := [.ref 41, .int a0, .int a1, .int x3]) (st_q := [.ref 41, .int ((600 * a1) + x3), .ref 42]) rfl rfl rfl ?_
          refine ex_getK pm_M296 (pc_q := 24) (j := 25) (b := 42) rfl rfl rfl rfl rfl ?_
          refine ex_op pm_M296 (pc_q := 27) (st_q := [.int 600, .ref 42, .int ((600 * a1) + x3), .ref 42]) rfl rfl rfl ?_
          refine ex_lo pm_M296 (pc_q := 28) (ls_q := [.ref 41, .int a0, .int a1, .int x3]) (st_q := [.int a0, .int 600, .ref 42, .int ((600 * a1) + x3), .ref 42]) rfl rfl rfl ?_
          refine ex_op pm_M296 (pc_q := 29) (st_q := [.int (600 * a0), .ref 42, .int ((600 * a1) + x3), .ref 42]) rfl rfl rfl ?_
          refine ex_lo pm_M296 (pc_q := 30) (ls_q := [.ref 41, .int a0, .int a1, .int x3]) (st_q := [.int x3, .int (600 * a0), .ref 42, .int ((600 * a1) + x3), .ref 42]) rfl rfl rfl ?_
          refine ex_op pm_M296 (pc_q := 31) (st_q := [.int ((600 * a0) + x3), .ref 42, .int ((600 * a1) + x3), .ref 42]) rfl rfl rfl ?_
          refine ex_bald' pm_M296 (pc_q := 32) (v := T.1 42 (((600 * a0) + x3).toNatClampNeg)) rfl rfl rfl ?_
          refine ex_bast pm_M296 (pc_q := 33) (jx := 1) (y := (T.1 42 (((600 * a0) + x3).toNatClampNeg)).toInt8.toInt32) rfl rfl rfl rfl ?_
          refine ex_lo pm_M296 (pc_q := 36) (ls_q := [.ref 41, .int a0, .int a1, .int (x3 + 1)]) (st_q := []) rfl rfl rfl ?_
          refine ex_goS pm_M296 (pc_q := 2) (st_q := []) rfl rfl ?_
          exact ih2 (x3 + 1) (ex_sx T 42 (((600 * a1) + x3).toNatClampNeg) ((T.1 42 (((600 * a0) + x3).toNatClampNeg)).toInt8.toInt32)) (v2 a0 a1 S x3 T hI c1)
      exact L2
  have L2 := LL N
  refine ex_op pm_M296 (pc_q := 1) (st_q := [.int 0]) rfl rfl rfl ?_
  refine ex_lo pm_M296 (pc_q := 2) (ls_q := [.ref 41, .int a0, .int a1, .int 0]) (st_q := []) rfl rfl rfl ?_
  exact L2 0 S (v0 a0 a1 S)
set_option maxRecDepth 100000 in
set_option maxHeartbeats 4000000 in
/-- SilentTableModel.image -/
theorem ev295 {C : Int32 → ex_S → Int32 → ex_S → Prop} {C296 : Int32 → Int32 → ex_S → ex_S → Prop} (H296 : es296 C296) 
    (v0 : ∀ (a0 : Int32) (S : ex_S), ¬ vf174 a0 0 2 = 0 → ∀ (S5 : ex_S), C296 0 (a0 + 1) (ex_sx S 41 0 0) S5 → C a0 S 1 (ex_sx S5 71 a0.toNatClampNeg (1 &&& 1))) 
    (v1 : ∀ (a0 : Int32) (S : ex_S), ¬ (¬ vf174 a0 0 2 = 0) → C a0 S 0 (ex_sx S 41 0 0)) : es295 C := by
  intro N d a0 S
  refine ex_lo pm_M295 (pc_q := 1) (ls_q := [.ref 41, .int a0]) (st_q := [.ref 41]) rfl rfl rfl ?_
  refine ex_op pm_M295 (pc_q := 2) (st_q := [.int 0, .ref 41]) rfl rfl rfl ?_
  refine ex_putI pm_M295 (pc_q := 5) rfl rfl rfl rfl rfl ?_
  refine ex_lo pm_M295 (pc_q := 6) (ls_q := [.ref 41, .int a0]) (st_q := [.int a0]) rfl rfl rfl ?_
  refine ex_op pm_M295 (pc_q := 7) (st_q := [.int 0, .int a0]) rfl rfl rfl ?_
  refine ex_op pm_M295 (pc_q := 8) (st_q := [.int 2, .int 0, .int a0]) rfl rfl rfl ?_
  refine ex_call pm_M295 (pc_q := 11) (ix := 112) (callee := 174) (np := 3) (kd := 2) (ra := [.int 2, .int 0, .int a0]) (rest := []) rfl rfl rfl rfl pm_M174 rfl rfl rfl rfl (fun d1 => (ef174 _ d1 a0 0 2 (ex_sx S 41 0 0)).mono (fun r S1 e => ?_))
  obtain ⟨rfl, e2⟩ := e
  rw [e2]
  show ex_P _ _ 295 11 [.ref 41, .int a0] [.int (vf174 a0 0 2)] (ex_sx S 41 0 0) _
  refine ex_ifc pm_M295 (t := 16) (pc_q := 14) rfl rfl rfl (fun c2 => ?_) (fun c2 => ?_)
  · -- ¬ vf174 a0 0 2 = 0
    refine ex_lo pm_M295 (pc_q := 17) (ls_q := [.ref 41, .int a0]) (st_q := [.ref 41]) rfl rfl rfl ?_
    refine ex_op pm_M295 (pc_q := 18) (st_q := [.int 0, .ref 41]) rfl rfl rfl ?_
    refine ex_lo pm_M295 (pc_q := 19) (ls_q := [.ref 41, .int a0]) (st_q := [.int a0, .int 0, .ref 41]) rfl rfl rfl ?_
    refine ex_op pm_M295 (pc_q := 20) (st_q := [.int 1, .int a0, .int 0, .ref 41]) rfl rfl rfl ?_
    refine ex_op pm_M295 (pc_q := 21) (st_q := [.int (a0 + 1), .int 0, .ref 41]) rfl rfl rfl ?_
    refine ex_call pm_M295 (pc_q := 24) (ix := 500) (callee := 296) (np := 2) (kd := 0) (ra := [.int (a0 + 1), .int 0, .ref 41]) (rest := []) rfl rfl rfl rfl pm_M296 rfl rfl rfl rfl (fun d3 => (H296 _ d3 0 (a0 + 1) (ex_sx S 41 0 0)).mono (fun r S5 e => ?_))
    obtain ⟨rfl, h6⟩ := e
    show ex_P _ _ 295 24 [.ref 41, .int a0] [] S5 _
    refine ex_lo pm_M295 (pc_q := 25) (ls_q := [.ref 41, .int a0]) (st_q := [.ref 41]) rfl rfl rfl ?_
    refine ex_getK pm_M295 (pc_q := 28) (j := 54) (b := 71) rfl rfl rfl rfl rfl ?_
    refine ex_lo pm_M295 (pc_q := 29) (ls_q := [.ref 41, .int a0]) (st_q := [.int a0, .ref 71]) rfl rfl rfl ?_
    refine ex_op pm_M295 (pc_q := 30) (st_q := [.int 1, .int a0, .ref 71]) rfl rfl rfl ?_
    refine ex_bast pm_M295 (pc_q := 31) (jx := 2) (y := 1 &&& 1) rfl rfl rfl rfl ?_
    refine ex_op pm_M295 (pc_q := 32) (st_q := [.int 1]) rfl rfl rfl ?_
    exact ex_retI pm_M295 rfl (⟨_, rfl, v0 a0 S c2 S5 h6⟩)
  · -- not
    refine ex_op pm_M295 (pc_q := 15) (st_q := [.int 0]) rfl rfl rfl ?_
    exact ex_retI pm_M295 rfl (⟨_, rfl, v1 a0 S c2⟩)
set_option maxRecDepth 100000 in
set_option maxHeartbeats 4000000 in
/-- SilentTableModel.again -/
theorem ev298 {C : Int32 → ex_S → Int32 → ex_S → Prop} {C296 : Int32 → Int32 → ex_S → ex_S → Prop} (H296 : es296 C296) 
    (v0 : ∀ (a0 : Int32) (S : ex_S), vf174 a0 0 2 = 0 → C a0 S 0 (ex_sx S 41 0 0)) 
    (v1 : ∀ (a0 : Int32) (S : ex_S), ¬ (vf174 a0 0 2 = 0) → ¬ S.1 71 a0.toNatClampNeg = 0 → ∀ (S6 : ex_S), C296 (a0 + 1) 0 (ex_sx S 41 0 0) S6 → C a0 S 1 S6) 
    (v2 : ∀ (a0 : Int32) (S : ex_S), ¬ (vf174 a0 0 2 = 0) → ¬ (¬ S.1 71 a0.toNatClampNeg = 0) → C a0 S 0 (ex_sx S 41 0 0)) : es298 C := by
  intro N d a0 S
  refine ex_lo pm_M298 (pc_q := 1) (ls_q := [.ref 41, .int a0]) (st_q := [.ref 41]) rfl rfl rfl ?_
  refine ex_op pm_M298 (pc_q := 2) (st_q := [.int 0, .ref 41]) rfl rfl rfl ?_
  refine ex_putI pm_M298 (pc_q := 5) rfl rfl rfl rfl rfl ?_
  refine ex_lo pm_M298 (pc_q := 6) (ls_q := [.ref 41, .int a0]) (st_q := [.int a0]) rfl rfl rfl ?_
  refine ex_op pm_M298 (pc_q := 7) (st_q := [.int 0, .int a0]) rfl rfl rfl ?_
  refine ex_op pm_M298 (pc_q := 8) (st_q := [.int 2, .int 0, .int a0]) rfl rfl rfl ?_
  refine ex_call pm_M298 (pc_q := 11) (ix := 112) (callee := 174) (np := 3) (kd := 2) (ra := [.int 2, .int 0, .int a0]) (rest := []) rfl rfl rfl rfl pm_M174 rfl rfl rfl rfl (fun d1 => (ef174 _ d1 a0 0 2 (ex_sx S 41 0 0)).mono (fun r S1 e => ?_))
  obtain ⟨rfl, e2⟩ := e
  rw [e2]
  show ex_P _ _ 298 11 [.ref 41, .int a0] [.int (vf174 a0 0 2)] (ex_sx S 41 0 0) _
  refine ex_ifc pm_M298 (t := 23) (pc_q := 14) rfl rfl rfl (fun c2 => ?_) (fun c2 => ?_)
  · -- vf174 a0 0 2 = 0
    refine ex_op pm_M298 (pc_q := 24) (st_q := [.int 0]) rfl rfl rfl ?_
    exact ex_retI pm_M298 rfl (⟨_, rfl, v0 a0 S c2⟩)
  · -- not
    refine ex_lo pm_M298 (pc_q := 15) (ls_q := [.ref 41, .int a0]) (st_q := [.ref 41]) rfl rfl rfl ?_
    refine ex_getK pm_M298 (pc_q := 18) (j := 54) (b := 71) rfl rfl rfl rfl rfl ?_
    refine ex_lo pm_M298 (pc_q := 19) (ls_q := [.ref 41, .int a0]) (st_q := [.int a0, .ref 71]) rfl rfl rfl ?_
    refine ex_bald' pm_M298 (pc_q := 20) (v := S.1 71 a0.toNatClampNeg) rfl rfl rfl ?_
    refine ex_ifc pm_M298 (t := 25) (pc_q := 23) rfl rfl rfl (fun c3 => ?_) (fun c3 => ?_)
    · -- ¬ S.1 71 a0.toNatClampNeg = 0
      refine ex_lo pm_M298 (pc_q := 26) (ls_q := [.ref 41, .int a0]) (st_q := [.ref 41]) rfl rfl rfl ?_
      refine ex_lo pm_M298 (pc_q := 27) (ls_q := [.ref 41, .int a0]) (st_q := [.int a0, .ref 41]) rfl rfl rfl ?_
      refine ex_op pm_M298 (pc_q := 28) (st_q := [.int 1, .int a0, .ref 41]) rfl rfl rfl ?_
      refine ex_op pm_M298 (pc_q := 29) (st_q := [.int (a0 + 1), .ref 41]) rfl rfl rfl ?_
      refine ex_op pm_M298 (pc_q := 30) (st_q := [.int 0, .int (a0 + 1), .ref 41]) rfl rfl rfl ?_
      refine ex_call pm_M298 (pc_q := 33) (ix := 500) (callee := 296) (np := 2) (kd := 0) (ra := [.int 0, .int (a0 + 1), .ref 41]) (rest := []) rfl rfl rfl rfl pm_M296 rfl rfl rfl rfl (fun d4 => (H296 _ d4 (a0 + 1) 0 (ex_sx S 41 0 0)).mono (fun r S6 e => ?_))
      obtain ⟨rfl, h7⟩ := e
      show ex_P _ _ 298 33 [.ref 41, .int a0] [] S6 _
      refine ex_op pm_M298 (pc_q := 34) (st_q := [.int 1]) rfl rfl rfl ?_
      exact ex_retI pm_M298 rfl (⟨_, rfl, v1 a0 S c2 c3 S6 h7⟩)
    · -- not
      refine ex_op pm_M298 (pc_q := 24) (st_q := [.int 0]) rfl rfl rfl ?_
      exact ex_retI pm_M298 rfl (⟨_, rfl, v2 a0 S c2 c3⟩)
