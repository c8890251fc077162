set_option maxRecDepth 100000 in
set_option maxHeartbeats 4000000 in
/-- SilentTable$Told.append -/
theorem ev8 {C : Int32 → ex_S → ex_S → Prop} {I3 : Int32 → ex_S → Int32 → ex_S → Prop} 
    (v0 : ∀ (a0 : Int32) (S : ex_S), I3 a0 S 24 S) 
    (v1 : ∀ (a0 : Int32) (S : ex_S) (x2 : Int32) (T : ex_S), I3 a0 S x2 T → x2 < 0 → C a0 S T) 
    (v2 : ∀ (a0 : Int32) (S : ex_S) (x2 : Int32) (T : ex_S), I3 a0 S x2 T → ¬ (x2 < 0) → 600 ≤ T.1 17 1 → I3 a0 S (x2 + (-8)) T) 
    (v3 : ∀ (a0 : Int32) (S : ex_S) (x2 : Int32) (T : ex_S), I3 a0 S x2 T → ¬ (x2 < 0) → ¬ (600 ≤ T.1 17 1) → I3 a0 S (x2 + (-8)) (ex_sx (ex_sx T 18 ((T.1 17 1).toNatClampNeg) ((((a0.toUInt32 >>> (x2.toUInt32 &&& Int32.toUInt32 31)).toInt32).toInt8.toInt32).toInt8.toInt32)) 17 1 ((T.1 17 1) + 1))) : es8 C := by
  intro N d a0 S
  have LL : ∀ N : Nat, (∀ (x2 : Int32) (T : ex_S), I3 a0 S x2 T → ex_P N d 8 3 [.ref 17, .int a0, .int x2] [] T (fun r S_q => r = none ∧ C a0 S S_q)) := by
    intro N
    induction N with
    | zero => exact fun _ _ _ => ex_zero
    | succ N ih =>
      have ih3 := ih
      have L3 : ∀ (x2 : Int32) (T : ex_S), I3 a0 S x2 T → ex_P (N + 1) d 8 3 [.ref 17, .int a0, .int x2] [] T (fun r S_q => r = none ∧ C a0 S S_q) := by
        intro x2 T hI
        refine ex_lo pm_M8 (pc_q := 4) (ls_q := [.ref 17, .int a0, .int x2]) (st_q := [.int x2]) rfl rfl rfl ?_
        refine ex_ifc pm_M8 (t := 46) (pc_q := 7) rfl rfl rfl (fun c1 => ?_) (fun c1 => ?_)
        · -- x2 < 0
          exact ex_ret pm_M8 (r := none) rfl rfl (⟨rfl, v1 a0 S x2 T hI c1⟩)
        · -- not
          refine ex_lo pm_M8 (pc_q := 8) (ls_q := [.ref 17, .int a0, .int x2]) (st_q := [.ref 17]) rfl rfl rfl ?_
          refine ex_getI' pm_M8 (pc_q := 11) (v := T.1 17 1) rfl rfl rfl rfl rfl rfl ?_
          refine ex_op pm_M8 (pc_q := 14) (st_q := [.int 600, .int (T.1 17 1)]) rfl rfl rfl ?_
          refine ex_icmp pm_M8 (t := 40) (pc_q := 17) rfl rfl rfl (fun c2 => ?_) (fun c2 => ?_)
          · -- 600 ≤ T.1 17 1
            refine ex_lo pm_M8 (pc_q := 43) (ls_q := [.ref 17, .int a0, .int (x2 + (-8))]) (st_q := []) rfl rfl rfl ?_
            refine ex_goS pm_M8 (pc_q := 3) (st_q := []) rfl rfl ?_
            exact ih3 (x2 + (-8)) T (v2 a0 S x2 T hI c1 c2)
          · -- not
            refine ex_lo pm_M8 (pc_q := 18) (ls_q := [.ref 17, .int a0, .int x2]) (st_q := [.ref 17]) rfl rfl rfl ?_
            refine ex_getK pm_M8 (pc_q := 21) (j := 9) (b := 18) rfl rfl rfl rfl rfl ?_
            refine ex_lo pm_M8 (pc_q := 22) (ls_q := [.ref 17, .int a0, .int x2]) (st_q := [.ref 17, .ref 18]) rfl rfl rfl ?_
            refine ex_getI' pm_M8 (pc_q := 25) (v := T.1 17 1) rfl rfl rfl rfl rfl rfl ?_
            refine ex_lo pm_M8 (pc_q := 26) (ls_q := [.ref 17, .int a0, .int x2]) (st_q := [.int a0, .int (T.1 17 1), .ref 18]) rfl rfl rfl ?_
            refine ex_lo pm_M8 (pc_q := 27) (ls_q := [.ref 17, .int a0, .int x2]) (st_q := [.int x2, .int a0, .int (T.1 17 1), .ref 18]) rfl rfl rfl ?_
            refine ex_op pm_M8 (pc_q := 28) (st_q := [.int ((a0.toUInt32 >>> (x2.toUInt32 &&& Int32.toUInt32 31)).toInt32), .int (T.1 17 1), .ref 18]) rfl rfl rfl ?_
            refine ex_op pm_M8 (pc_q := 29) (st_q := [.int (((a0.toUInt32 >>> (x2.toUInt32 &&& Int32.toUInt32 31)).toInt32).toInt8.toInt32), .int (T.1 17 1), .ref 18]) rfl rfl rfl ?_
            refine ex_bast pm_M8 (pc_q := 30) (jx := 0) (y := (((a0.toUInt32 >>> (x2.toUInt32 &&& Int32.toUInt32 31)).toInt32).toInt8.toInt32).toInt8.toInt32) rfl rfl rfl rfl ?_
            refine ex_lo pm_M8 (pc_q := 31) (ls_q := [.ref 17, .int a0, .int x2]) (st_q := [.ref 17]) rfl rfl rfl ?_
            refine ex_op pm_M8 (pc_q := 32) (st_q := [.ref 17, .ref 17]) rfl rfl rfl ?_
            refine ex_getI' pm_M8 (pc_q := 35) (v := T.1 17 1) rfl rfl rfl rfl rfl rfl ?_
            refine ex_op pm_M8 (pc_q := 36) (st_q := [.int 1, .int (T.1 17 1), .ref 17]) rfl rfl rfl ?_
            refine ex_op pm_M8 (pc_q := 37) (st_q := [.int ((T.1 17 1) + 1), .ref 17]) rfl rfl rfl ?_
            refine ex_putI pm_M8 (pc_q := 40) rfl rfl rfl rfl rfl ?_
            refine ex_lo pm_M8 (pc_q := 43) (ls_q := [.ref 17, .int a0, .int (x2 + (-8))]) (st_q := []) rfl rfl rfl ?_
            refine ex_goS pm_M8 (pc_q := 3) (st_q := []) rfl rfl ?_
            exact ih3 (x2 + (-8)) (ex_sx (ex_sx T 18 ((T.1 17 1).toNatClampNeg) ((((a0.toUInt32 >>> (x2.toUInt32 &&& Int32.toUInt32 31)).toInt32).toInt8.toInt32).toInt8.toInt32)) 17 1 ((T.1 17 1) + 1)) (v3 a0 S x2 T hI c1 c2)
      exact L3
  have L3 := LL N
  refine ex_op pm_M8 (pc_q := 2) (st_q := [.int 24]) rfl rfl rfl ?_
  refine ex_lo pm_M8 (pc_q := 3) (ls_q := [.ref 17, .int a0, .int 24]) (st_q := []) rfl rfl rfl ?_
  exact L3 24 S (v0 a0 S)
set_option maxRecDepth 100000 in
set_option maxHeartbeats 4000000 in
/-- SilentTable.feed -/
theorem ev7 {C : Int32 → Int32 → Int32 → Int32 → Int32 → ex_S → Int32 → ex_S → Prop} {C8 : Int32 → ex_S → ex_S → Prop} (H8 : es8 C8) 
    (v0 : ∀ (a0 : Int32) (a1 : Int32) (a2 : Int32) (a3 : Int32) (a4 : Int32) (S : ex_S), (S.1 17 1) + 20 ≤ 600 → ∀ (S4 : ex_S), C8 a0 S S4 → ∀ (S8 : ex_S), C8 a1 S4 S8 → ∀ (S12 : ex_S), C8 a2 S8 S12 → ∀ (S16 : ex_S), C8 a3 S12 S16 → ∀ (S20 : ex_S), C8 a4 S16 S20 → C a0 a1 a2 a3 a4 S (S20.1 17 1) S20) 
    (v1 : ∀ (a0 : Int32) (a1 : Int32) (a2 : Int32) (a3 : Int32) (a4 : Int32) (S : ex_S), ¬ ((S.1 17 1) + 20 ≤ 600) → C a0 a1 a2 a3 a4 S (-1) S) : es7 C := by
  intro N d a0 a1 a2 a3 a4 S
  refine ex_lo pm_M7 (pc_q := 1) (ls_q := [.ref 16, .int a0, .int a1, .int a2, .int a3, .int a4]) (st_q := [.ref 16]) rfl rfl rfl ?_
  refine ex_getK pm_M7 (pc_q := 4) (j := 0) (b := 17) rfl rfl rfl rfl rfl ?_
  refine ex_getI' pm_M7 (pc_q := 7) (v := S.1 17 1) rfl rfl rfl rfl rfl rfl ?_
  refine ex_op pm_M7 (pc_q := 9) (st_q := [.int 20, .int (S.1 17 1)]) rfl rfl rfl ?_
  refine ex_op pm_M7 (pc_q := 10) (st_q := [.int ((S.1 17 1) + 20)]) rfl rfl rfl ?_
  refine ex_op pm_M7 (pc_q := 13) (st_q := [.int 600, .int ((S.1 17 1) + 20)]) rfl rfl rfl ?_
  refine ex_icmp pm_M7 (t := 18) (pc_q := 16) rfl rfl rfl (fun c1 => ?_) (fun c1 => ?_)
  · -- (S.1 17 1) + 20 ≤ 600
    refine ex_lo pm_M7 (pc_q := 19) (ls_q := [.ref 16, .int a0, .int a1, .int a2, .int a3, .int a4]) (st_q := [.ref 16]) rfl rfl rfl ?_
    refine ex_getK pm_M7 (pc_q := 22) (j := 0) (b := 17) rfl rfl rfl rfl rfl ?_
    refine ex_lo pm_M7 (pc_q := 23) (ls_q := [.ref 16, .int a0, .int a1, .int a2, .int a3, .int a4]) (st_q := [.int a0, .ref 17]) rfl rfl rfl ?_
    refine ex_call pm_M7 (pc_q := 26) (ix := 76) (callee := 8) (np := 1) (kd := 0) (ra := [.int a0, .ref 17]) (rest := []) rfl rfl rfl rfl pm_M8 rfl rfl rfl rfl (fun d2 => (H8 _ d2 a0 S).mono (fun r S4 e => ?_))
    obtain ⟨rfl, h5⟩ := e
    show ex_P _ _ 7 26 [.ref 16, .int a0, .int a1, .int a2, .int a3, .int a4] [] S4 _
    refine ex_lo pm_M7 (pc_q := 27) (ls_q := [.ref 16, .int a0, .int a1, .int a2, .int a3, .int a4]) (st_q := [.ref 16]) rfl rfl rfl ?_
    refine ex_getK pm_M7 (pc_q := 30) (j := 0) (b := 17) rfl rfl rfl rfl rfl ?_
    refine ex_lo pm_M7 (pc_q := 31) (ls_q := [.ref 16, .int a0, .int a1, .int a2, .int a3, .int a4]) (st_q := [.int a1, .ref 17]) rfl rfl rfl ?_
    refine ex_call pm_M7 (pc_q := 34) (ix := 76) (callee := 8) (np := 1) (kd := 0) (ra := [.int a1, .ref 17]) (rest := []) rfl rfl rfl rfl pm_M8 rfl rfl rfl rfl (fun d6 => (H8 _ d6 a1 S4).mono (fun r S8 e => ?_))
    obtain ⟨rfl, h9⟩ := e
    show ex_P _ _ 7 34 [.ref 16, .int a0, .int a1, .int a2, .int a3, .int a4] [] S8 _
    refine ex_lo pm_M7 (pc_q := 35) (ls_q := [.ref 16, .int a0, .int a1, .int a2, .int a3, .int a4]) (st_q := [.ref 16]) rfl rfl rfl ?_
    refine ex_getK pm_M7 (pc_q := 38) (j := 0) (b := 17) rfl rfl rfl rfl rfl ?_
    refine ex_lo pm_M7 (pc_q := 39) (ls_q := [.ref 16, .int a0, .int a1, .int a2, .int a3, .int a4]) (st_q := [.int a2, .ref 17]) rfl rfl rfl ?_
    refine ex_call pm_M7 (pc_q := 42) (ix := 76) (callee := 8) (np := 1) (kd := 0) (ra := [.int a2, .ref 17]) (rest := []) rfl rfl rfl rfl pm_M8 rfl rfl rfl rfl (fun d10 => (H8 _ d10 a2 S8).mono (fun r S12 e => ?_))
    obtain ⟨rfl, h13⟩ := e
    show ex_P _ _ 7 42 [.ref 16, .int a0, .int a1, .int a2, .int a3, .int a4] [] S12 _
    refine ex_lo pm_M7 (pc_q := 43) (ls_q := [.ref 16, .int a0, .int a1, .int a2, .int a3, .int a4]) (st_q := [.ref 16]) rfl rfl rfl ?_
    refine ex_getK pm_M7 (pc_q := 46) (j := 0) (b := 17) rfl rfl rfl rfl rfl ?_
    refine ex_lo pm_M7 (pc_q := 48) (ls_q := [.ref 16, .int a0, .int a1, .int a2, .int a3, .int a4]) (st_q := [.int a3, .ref 17]) rfl rfl rfl ?_
    refine ex_call pm_M7 (pc_q := 51) (ix := 76) (callee := 8) (np := 1) (kd := 0) (ra := [.int a3, .ref 17]) (rest := []) rfl rfl rfl rfl pm_M8 rfl rfl rfl rfl (fun d14 => (H8 _ d14 a3 S12).mono (fun r S16 e => ?_))
    obtain ⟨rfl, h17⟩ := e
    show ex_P _ _ 7 51 [.ref 16, .int a0, .int a1, .int a2, .int a3, .int a4] [] S16 _
    refine ex_lo pm_M7 (pc_q := 52) (ls_q := [.ref 16, .int a0, .int a1, .int a2, .int a3, .int a4]) (st_q := [.ref 16]) rfl rfl rfl ?_
    refine ex_getK pm_M7 (pc_q := 55) (j := 0) (b := 17) rfl rfl rfl rfl rfl ?_
    refine ex_lo pm_M7 (pc_q := 57) (ls_q := [.ref 16, .int a0, .int a1, .int a2, .int a3, .int a4]) (st_q := [.int a4, .ref 17]) rfl rfl rfl ?_
    refine ex_call pm_M7 (pc_q := 60) (ix := 76) (callee := 8) (np := 1) (kd := 0) (ra := [.int a4, .ref 17]) (rest := []) rfl rfl rfl rfl pm_M8 rfl rfl rfl rfl (fun d18 => (H8 _ d18 a4 S16).mono (fun r S20 e => ?_))
    obtain ⟨rfl, h21⟩ := e
    show ex_P _ _ 7 60 [.ref 16, .int a0, .int a1, .int a2, .int a3, .int a4] [] S20 _
    refine ex_lo pm_M7 (pc_q := 61) (ls_q := [.ref 16, .int a0, .int a1, .int a2, .int a3, .int a4]) (st_q := [.ref 16]) rfl rfl rfl ?_
    refine ex_getK pm_M7 (pc_q := 64) (j := 0) (b := 17) rfl rfl rfl rfl rfl ?_
    refine ex_getI' pm_M7 (pc_q := 67) (v := S20.1 17 1) rfl rfl rfl rfl rfl rfl ?_
    exact ex_retI pm_M7 rfl (⟨_, rfl, v0 a0 a1 a2 a3 a4 S c1 S4 h5 S8 h9 S12 h13 S16 h17 S20 h21⟩)
  · -- not
    refine ex_op pm_M7 (pc_q := 17) (st_q := [.int (-1)]) rfl rfl rfl ?_
    exact ex_retI pm_M7 rfl (⟨_, rfl, v1 a0 a1 a2 a3 a4 S c1⟩)
set_option maxRecDepth 100000 in
set_option maxHeartbeats 4000000 in
/-- SilentTable.end -/
theorem ev9 {C : Int32 → ex_S → Int32 → ex_S → Prop} 
    (v0 : ∀ (a0 : Int32) (S : ex_S), a0 < 0 → C a0 S (-1) S) 
    (v1 : ∀ (a0 : Int32) (S : ex_S), ¬ (a0 < 0) → a0 ≤ S.1 17 1 → C a0 S a0 (ex_sx S 17 1 a0)) 
    (v2 : ∀ (a0 : Int32) (S : ex_S), ¬ (a0 < 0) → ¬ (a0 ≤ S.1 17 1) → C a0 S (-1) S) : es9 C := by
  intro N d a0 S
  refine ex_lo pm_M9 (pc_q := 1) (ls_q := [.ref 16, .int a0]) (st_q := [.int a0]) rfl rfl rfl ?_
  refine ex_ifc pm_M9 (t := 15) (pc_q := 4) rfl rfl rfl (fun c1 => ?_) (fun c1 => ?_)
  · -- a0 < 0
    refine ex_op pm_M9 (pc_q := 16) (st_q := [.int (-1)]) rfl rfl rfl ?_
    exact ex_retI pm_M9 rfl (⟨_, rfl, v0 a0 S c1⟩)
  · -- not
    refine ex_lo pm_M9 (pc_q := 5) (ls_q := [.ref 16, .int a0]) (st_q := [.int a0]) rfl rfl rfl ?_
    refine ex_lo pm_M9 (pc_q := 6) (ls_q := [.ref 16, .int a0]) (st_q := [.ref 16, .int a0]) rfl rfl rfl ?_
    refine ex_getK pm_M9 (pc_q := 9) (j := 0) (b := 17) rfl rfl rfl rfl rfl ?_
    refine ex_getI' pm_M9 (pc_q := 12) (v := S.1 17 1) rfl rfl rfl rfl rfl rfl ?_
    refine ex_icmp pm_M9 (t := 17) (pc_q := 15) rfl rfl rfl (fun c2 => ?_) (fun c2 => ?_)
    · -- a0 ≤ S.1 17 1
      refine ex_lo pm_M9 (pc_q := 18) (ls_q := [.ref 16, .int a0]) (st_q := [.ref 16]) rfl rfl rfl ?_
      refine ex_getK pm_M9 (pc_q := 21) (j := 0) (b := 17) rfl rfl rfl rfl rfl ?_
      refine ex_lo pm_M9 (pc_q := 22) (ls_q := [.ref 16, .int a0]) (st_q := [.int a0, .ref 17]) rfl rfl rfl ?_
      refine ex_putI pm_M9 (pc_q := 25) rfl rfl rfl rfl rfl ?_
      refine ex_lo pm_M9 (pc_q := 26) (ls_q := [.ref 16, .int a0]) (st_q := [.int a0]) rfl rfl rfl ?_
      exact ex_retI pm_M9 rfl (⟨_, rfl, v1 a0 S c1 c2⟩)
    · -- not
      refine ex_op pm_M9 (pc_q := 16) (st_q := [.int (-1)]) rfl rfl rfl ?_
      exact ex_retI pm_M9 rfl (⟨_, rfl, v2 a0 S c1 c2⟩)
set_option maxRecDepth 100000 in
set_option maxHeartbeats 4000000 in
/-- java/util/Arrays.copyOf -/
theorem ev45 {C : Nat → Int32 → ex_S → Option Nat → ex_S → Prop} 
    (v0 : ∀ (a0 : Nat) (a1 : Int32) (S : ex_S), ¬ a1 = Int32.ofNat (S.2.2.2.1 a0) → C a0 a1 S (some S.2.2.2.2) (ex_cp (ex_new S a1.toNatClampNeg) a0 0 S.2.2.2.2 0 ((if a1 < (Int32.ofNat ((ex_new S a1.toNatClampNeg).2.2.2.1 a0)) then a1 else (Int32.ofNat ((ex_new S a1.toNatClampNeg).2.2.2.1 a0))).toNatClampNeg))) 
    (v1 : ∀ (a0 : Nat) (a1 : Int32) (S : ex_S), ¬ (¬ a1 = Int32.ofNat (S.2.2.2.1 a0)) → C a0 a1 S (some S.2.2.2.2) (ex_cl S a0)) : es45 C := by
  intro N d a0 a1 S
  refine ex_lo pm_M45 (pc_q := 1) (ls_q := [.ref a0, .int a1, pm_no]) (st_q := [.int a1]) rfl rfl rfl ?_
  refine ex_lo pm_M45 (pc_q := 2) (ls_q := [.ref a0, .int a1, pm_no]) (st_q := [.ref a0, .int a1]) rfl rfl rfl ?_
  refine ex_alen pm_M45 (pc_q := 3) rfl rfl ?_
  refine ex_icmp pm_M45 (t := 14) (pc_q := 6) rfl rfl rfl (fun c1 => ?_) (fun c1 => ?_)
  · -- ¬ a1 = Int32.ofNat (S.2.2.2.1 a0)
    refine ex_lo pm_M45 (pc_q := 15) (ls_q := [.ref a0, .int a1, pm_no]) (st_q := [.int a1]) rfl rfl rfl ?_
    refine ex_newa pm_M45 (pc_q := 17) rfl rfl rfl ?_
    show ex_P _ _ 45 17 [.ref a0, .int a1, pm_no] [.ref S.2.2.2.2] (ex_new S a1.toNatClampNeg) _
    refine ex_lo pm_M45 (pc_q := 18) (ls_q := [.ref a0, .int a1, .ref S.2.2.2.2]) (st_q := []) rfl rfl rfl ?_
    refine ex_lo pm_M45 (pc_q := 19) (ls_q := [.ref a0, .int a1, .ref S.2.2.2.2]) (st_q := [.ref a0]) rfl rfl rfl ?_
    refine ex_op pm_M45 (pc_q := 20) (st_q := [.int 0, .ref a0]) rfl rfl rfl ?_
    refine ex_lo pm_M45 (pc_q := 21) (ls_q := [.ref a0, .int a1, .ref S.2.2.2.2]) (st_q := [.ref S.2.2.2.2, .int 0, .ref a0]) rfl rfl rfl ?_
    refine ex_op pm_M45 (pc_q := 22) (st_q := [.int 0, .ref S.2.2.2.2, .int 0, .ref a0]) rfl rfl rfl ?_
    refine ex_lo pm_M45 (pc_q := 23) (ls_q := [.ref a0, .int a1, .ref S.2.2.2.2]) (st_q := [.ref a0, .int 0, .ref S.2.2.2.2, .int 0, .ref a0]) rfl rfl rfl ?_
    refine ex_alen pm_M45 (pc_q := 24) rfl rfl ?_
    refine ex_lo pm_M45 (pc_q := 25) (ls_q := [.ref a0, .int a1, .ref S.2.2.2.2]) (st_q := [.int a1, .int (Int32.ofNat ((ex_new S a1.toNatClampNeg).2.2.2.1 a0)), .int 0, .ref S.2.2.2.2, .int 0, .ref a0]) rfl rfl rfl ?_
    refine ex_min pm_M45 (pc_q := 28) rfl rfl rfl rfl ?_
    refine ex_copy pm_M45 (pc_q := 31) rfl rfl rfl rfl ?_
    show ex_P _ _ 45 31 [.ref a0, .int a1, .ref S.2.2.2.2] [] (ex_cp (ex_new S a1.toNatClampNeg) a0 0 S.2.2.2.2 0 ((if a1 < (Int32.ofNat ((ex_new S a1.toNatClampNeg).2.2.2.1 a0)) then a1 else (Int32.ofNat ((ex_new S a1.toNatClampNeg).2.2.2.1 a0))).toNatClampNeg)) _
    refine ex_lo pm_M45 (pc_q := 32) (ls_q := [.ref a0, .int a1, .ref S.2.2.2.2]) (st_q := [.ref S.2.2.2.2]) rfl rfl rfl ?_
    exact ex_ret pm_M45 (r := some (.ref S.2.2.2.2)) rfl rfl ⟨some S.2.2.2.2, rfl, v0 a0 a1 S c1⟩
  · -- not
    refine ex_lo pm_M45 (pc_q := 7) (ls_q := [.ref a0, .int a1, pm_no]) (st_q := [.ref a0]) rfl rfl rfl ?_
    refine ex_clone pm_M45 (pc_q := 10) rfl rfl rfl ?_
    show ex_P _ _ 45 10 [.ref a0, .int a1, pm_no] [.ref S.2.2.2.2] (ex_cl S a0) _
    refine ex_cast pm_M45 (pc_q := 13) rfl rfl ?_
    exact ex_ret pm_M45 (r := some (.ref S.2.2.2.2)) rfl rfl ⟨some S.2.2.2.2, rfl, v1 a0 a1 S c1⟩
set_option maxRecDepth 100000 in
set_option maxHeartbeats 4000000 in
/-- SilentTable$SignList.wear -/
theorem ev46 {C : Nat → Int32 → ex_S → Int32 → ex_S → Prop} {I4 : Nat → Int32 → ex_S → Int32 → Int32 → ex_S → Prop} {I32 : Nat → Int32 → ex_S → Int32 → Int32 → Int32 → Int32 → Int32 → ex_S → Prop} 
    (v0 : ∀ (t : Nat) (a0 : Int32) (S : ex_S), I4 t a0 S 0 0 S) 
    (v1 : ∀ (t : Nat) (a0 : Int32) (S : ex_S) (x2 : Int32) (x3 : Int32) (T : ex_S), I4 t a0 S x2 x3 T → 10 ≤ x3 → C t a0 S x2 T) 
    (v2 : ∀ (t : Nat) (a0 : Int32) (S : ex_S) (x2 : Int32) (x3 : Int32) (T : ex_S), I4 t a0 S x2 x3 T → ¬ (10 ≤ x3) → ∀ (b2 : Nat), T.2.2.1 t 6 = some b2 → I32 t a0 S x2 x3 (T.1 b2 ((((a0 - 1) * 10) + x3).toNatClampNeg)) (T.1 b2 ((((a0 - 1) * 10) + x3).toNatClampNeg)) 0 T) 
    (v3 : ∀ (t : Nat) (a0 : Int32) (S : ex_S) (x2 : Int32) (x3 : Int32) (x4 : Int32) (x5 : Int32) (x6 : Int32) (T : ex_S), I32 t a0 S x2 x3 x4 x5 x6 T → 10 ≤ x6 → ∀ (b5 : Nat), T.2.2.1 t 6 = some b5 → x5 = x4 → I4 t a0 S (x2 ||| 0) (x3 + 1) (ex_sx T b5 (((a0 * 10) + x3).toNatClampNeg) x5)) 
    (v4 : ∀ (t : Nat) (a0 : Int32) (S : ex_S) (x2 : Int32) (x3 : Int32) (x4 : Int32) (x5 : Int32) (x6 : Int32) (T : ex_S), I32 t a0 S x2 x3 x4 x5 x6 T → 10 ≤ x6 → ∀ (b5 : Nat), T.2.2.1 t 6 = some b5 → ¬ (x5 = x4) → I4 t a0 S (x2 ||| 1) (x3 + 1) (ex_sx T b5 (((a0 * 10) + x3).toNatClampNeg) x5)) 
    (v5 : ∀ (t : Nat) (a0 : Int32) (S : ex_S) (x2 : Int32) (x3 : Int32) (x4 : Int32) (x5 : Int32) (x6 : Int32) (T : ex_S), I32 t a0 S x2 x3 x4 x5 x6 T → ¬ (10 ≤ x6) → ((x4.toUInt32 >>> (x6.toUInt32 &&& Int32.toUInt32 31)).toInt32) &&& 1 = 0 → I32 t a0 S x2 x3 x4 x5 (x6 + 1) T) 
    (v6 : ∀ (t : Nat) (a0 : Int32) (S : ex_S) (x2 : Int32) (x3 : Int32) (x4 : Int32) (x5 : Int32) (x6 : Int32) (T : ex_S), I32 t a0 S x2 x3 x4 x5 x6 T → ¬ (10 ≤ x6) → ¬ (((x4.toUInt32 >>> (x6.toUInt32 &&& Int32.toUInt32 31)).toInt32) &&& 1 = 0) → ∀ (b9 : Nat), T.2.2.1 t 4 = some b9 → I32 t a0 S x2 x3 x4 (x5 ||| (T.1 b9 x6.toNatClampNeg)) (x6 + 1) T) : es46 C := by
  intro N d t a0 S
  have LL : ∀ N : Nat, (∀ (x2 : Int32) (x3 : Int32) (x4 : Int32) (x5 : Int32) (x6 : Int32) (T : ex_S), I32 t a0 S x2 x3 x4 x5 x6 T → ex_P N d 46 32 [.ref t, .int a0, .int x2, .int x3, .int x4, .int x5, .int x6] [] T (fun r S_q => ∃ v, r = some (.int v) ∧ C t a0 S v S_q)) ∧ (∀ (x2 : Int32) (x3 : Int32) (g4 : Value) (g5 : Value) (g6 : Value) (T : ex_S), g4.category = 1 → g5.category = 1 → g6.category = 1 → I4 t a0 S x2 x3 T → ex_P N d 46 4 [.ref t, .int a0, .int x2, .int x3, g4, g5, g6] [] T (fun r S_q => ∃ v, r = some (.int v) ∧ C t a0 S v S_q)) := by
    intro N
    induction N with
    | zero => exact ⟨fun _ _ _ _ _ _ _ => ex_zero, fun _ _ _ _ _ _ _ _ _ _ => ex_zero⟩
    | succ N ih =>
      obtain ⟨ih32, ih4⟩ := ih
      have L32 : ∀ (x2 : Int32) (x3 : Int32) (x4 : Int32) (x5 : Int32) (x6 : Int32) (T : ex_S), I32 t a0 S x2 x3 x4 x5 x6 T → ex_P (N + 1) d 46 32 [.ref t, .int a0, .int x2, .int x3, .int x4, .int x5, .int x6] [] T (fun r S_q => ∃ v, r = some (.int v) ∧ C t a0 S v S_q) := by
        intro x2 x3 x4 x5 x6 T hI
        refine ex_lo pm_M46 (pc_q := 34) (ls_q := [.ref t, .int a0, .int x2, .int x3, .int x4, .int x5, .int x6]) (st_q := [.int x6]) rfl rfl rfl ?_
        refine ex_op pm_M46 (pc_q := 36) (st_q := [.int 10, .int x6]) rfl rfl rfl ?_
        refine ex_icmp pm_M46 (t := 67) (pc_q := 39) rfl rfl rfl (fun c4 => ?_) (fun c4 => ?_)
        · -- 10 ≤ x6
          refine ex_lo pm_M46 (pc_q := 68) (ls_q := [.ref t, .int a0, .int x2, .int x3, .int x4, .int x5, .int x6]) (st_q := [.ref t]) rfl rfl rfl ?_
          refine ex_getR' pm_M46 (pc_q := 71) (v := T.2.2.1 t 6) rfl rfl rfl rfl rfl rfl ?_
          refine ex_lo pm_M46 (pc_q := 72) (ls_q := [.ref t, .int a0, .int x2, .int x3, .int x4, .int x5, .int x6]) (st_q := [.int a0, va_rf (T.2.2.1 t 6)]) rfl rfl rfl ?_
          refine ex_op pm_M46 (pc_q := 74) (st_q := [.int 10, .int a0, va_rf (T.2.2.1 t 6)]) rfl rfl rfl ?_
          refine ex_op pm_M46 (pc_q := 75) (st_q := [.int (a0 * 10), va_rf (T.2.2.1 t 6)]) rfl rfl rfl ?_
          refine ex_lo pm_M46 (pc_q := 76) (ls_q := [.ref t, .int a0, .int x2, .int x3, .int x4, .int x5, .int x6]) (st_q := [.int x3, .int (a0 * 10), va_rf (T.2.2.1 t 6)]) rfl rfl rfl ?_
          refine ex_op pm_M46 (pc_q := 77) (st_q := [.int ((a0 * 10) + x3), va_rf (T.2.2.1 t 6)]) rfl rfl rfl ?_
          refine ex_lo pm_M46 (pc_q := 79) (ls_q := [.ref t, .int a0, .int x2, .int x3, .int x4, .int x5, .int x6]) (st_q := [.int x5, .int ((a0 * 10) + x3), va_rf (T.2.2.1 t 6)]) rfl rfl rfl ?_
          refine ex_oc (o := T.2.2.1 t 6) (fun c6 => ?_) (fun b5 c6 => ?_)
          · refine ex_stc (st_q := [.int x5, .int ((a0 * 10) + x3), .null]) (by rw [(congrArg va_rf c6 : va_rf (T.2.2.1 t 6) = Value.null)] <;> rfl) ?_
            exact ex_nul pm_M46 rfl (fun _ => pm_nocall2 rfl) rfl rfl rfl rfl (fun _ _ _ => rfl)
          refine ex_stc (st_q := [.int x5, .int ((a0 * 10) + x3), .ref b5]) (by rw [(congrArg va_rf c6 : va_rf (T.2.2.1 t 6) = Value.ref b5)] <;> rfl) ?_
          refine ex_iast pm_M46 (pc_q := 80) rfl rfl ?_
          refine ex_lo pm_M46 (pc_q := 81) (ls_q := [.ref t, .int a0, .int x2, .int x3, .int x4, .int x5, .int x6]) (st_q := [.int x2]) rfl rfl rfl ?_
          refine ex_lo pm_M46 (pc_q := 83) (ls_q := [.ref t, .int a0, .int x2, .int x3, .int x4, .int x5, .int x6]) (st_q := [.int x5, .int x2]) rfl rfl rfl ?_
          refine ex_lo pm_M46 (pc_q := 85) (ls_q := [.ref t, .int a0, .int x2, .int x3, .int x4, .int x5, .int x6]) (st_q := [.int x4, .int x5, .int x2]) rfl rfl rfl ?_
          refine ex_icmp pm_M46 (t := 92) (pc_q := 88) rfl rfl rfl (fun c7 => ?_) (fun c7 => ?_)
          · -- x5 = x4
            refine ex_op pm_M46 (pc_q := 93) (st_q := [.int 0, .int x2]) rfl rfl rfl ?_
            refine ex_op pm_M46 (pc_q := 94) (st_q := [.int (x2 ||| 0)]) rfl rfl rfl ?_
            refine ex_lo pm_M46 (pc_q := 95) (ls_q := [.ref t, .int a0, .int (x2 ||| 0), .int x3, .int x4, .int x5, .int x6]) (st_q := []) rfl rfl rfl ?_
            refine ex_lo pm_M46 (pc_q := 98) (ls_q := [.ref t, .int a0, .int (x2 ||| 0), .int (x3 + 1), .int x4, .int x5, .int x6]) (st_q := []) rfl rfl rfl ?_
            refine ex_goS pm_M46 (pc_q := 4) (st_q := []) rfl rfl ?_
            exact ih4 (x2 ||| 0) (x3 + 1) (.int x4) (.int x5) (.int x6) (ex_sx T b5 (((a0 * 10) + x3).toNatClampNeg) x5) rfl rfl rfl (v3 t a0 S x2 x3 x4 x5 x6 T hI c4 b5 c6 c7)
          · -- not
            refine ex_op pm_M46 (pc_q := 89) (st_q := [.int 1, .int x2]) rfl rfl rfl ?_
            refine ex_br pm_M46 (pc_q := 93) (st_q := [.int 1, .int x2]) rfl rfl ?_
            refine ex_op pm_M46 (pc_q := 94) (st_q := [.int (x2 ||| 1)]) rfl rfl rfl ?_
            refine ex_lo pm_M46 (pc_q := 95) (ls_q := [.ref t, .int a0, .int (x2 ||| 1), .int x3, .int x4, .int x5, .int x6]) (st_q := []) rfl rfl rfl ?_
            refine ex_lo pm_M46 (pc_q := 98) (ls_q := [.ref t, .int a0, .int (x2 ||| 1), .int (x3 + 1), .int x4, .int x5, .int x6]) (st_q := []) rfl rfl rfl ?_
            refine ex_goS pm_M46 (pc_q := 4) (st_q := []) rfl rfl ?_
            exact ih4 (x2 ||| 1) (x3 + 1) (.int x4) (.int x5) (.int x6) (ex_sx T b5 (((a0 * 10) + x3).toNatClampNeg) x5) rfl rfl rfl (v4 t a0 S x2 x3 x4 x5 x6 T hI c4 b5 c6 c7)
        · -- not
          refine ex_lo pm_M46 (pc_q := 41) (ls_q := [.ref t, .int a0, .int x2, .int x3, .int x4, .int x5, .int x6]) (st_q := [.int x4]) rfl rfl rfl ?_
          refine ex_lo pm_M46 (pc_q := 43) (ls_q := [.ref t, .int a0, .int x2, .int x3, .int x4, .int x5, .int x6]) (st_q := [.int x6, .int x4]) rfl rfl rfl ?_
          refine ex_op pm_M46 (pc_q := 44) (st_q := [.int ((x4.toUInt32 >>> (x6.toUInt32 &&& Int32.toUInt32 31)).toInt32)]) rfl rfl rfl ?_
          refine ex_op pm_M46 (pc_q := 45) (st_q := [.int 1, .int ((x4.toUInt32 >>> (x6.toUInt32 &&& Int32.toUInt32 31)).toInt32)]) rfl rfl rfl ?_
          refine ex_op pm_M46 (pc_q := 46) (st_q := [.int (((x4.toUInt32 >>> (x6.toUInt32 &&& Int32.toUInt32 31)).toInt32) &&& 1)]) rfl rfl rfl ?_
          refine ex_ifc pm_M46 (t := 61) (pc_q := 49) rfl rfl rfl (fun c8 => ?_) (fun c8 => ?_)
          · -- ((x4.toUInt32 >>> (x6.toUInt32 &&& Int32.toUInt32 31)).toInt32) &&& 1 = 0
            refine ex_lo pm_M46 (pc_q := 64) (ls_q := [.ref t, .int a0, .int x2, .int x3, .int x4, .int x5, .int (x6 + 1)]) (st_q := []) rfl rfl rfl ?_
            refine ex_goS pm_M46 (pc_q := 32) (st_q := []) rfl rfl ?_
            exact ih32 x2 x3 x4 x5 (x6 + 1) T (v5 t a0 S x2 x3 x4 x5 x6 T hI c4 c8)
          · -- not
            refine ex_lo pm_M46 (pc_q := 51) (ls_q := [.ref t, .int a0, .int x2, .int x3, .int x4, .int x5, .int x6]) (st_q := [.int x5]) rfl rfl rfl ?_
            refine ex_lo pm_M46 (pc_q := 52) (ls_q := [.ref t, .int a0, .int x2, .int x3, .int x4, .int x5, .int x6]) (st_q := [.ref t, .int x5]) rfl rfl rfl ?_
            refine ex_getR' pm_M46 (pc_q := 55) (v := T.2.2.1 t 4) rfl rfl rfl rfl rfl rfl ?_
            refine ex_lo pm_M46 (pc_q := 57) (ls_q := [.ref t, .int a0, .int x2, .int x3, .int x4, .int x5, .int x6]) (st_q := [.int x6, va_rf (T.2.2.1 t 4), .int x5]) rfl rfl rfl ?_
            refine ex_oc (o := T.2.2.1 t 4) (fun c10 => ?_) (fun b9 c10 => ?_)
            · refine ex_stc (st_q := [.int x6, .null, .int x5]) (by rw [(congrArg va_rf c10 : va_rf (T.2.2.1 t 4) = Value.null)] <;> rfl) ?_
              exact ex_nul pm_M46 rfl (fun _ => pm_nocall2 rfl) rfl rfl rfl rfl (fun _ _ _ => rfl)
            refine ex_stc (st_q := [.int x6, .ref b9, .int x5]) (by rw [(congrArg va_rf c10 : va_rf (T.2.2.1 t 4) = Value.ref b9)] <;> rfl) ?_
            refine ex_iald' pm_M46 (pc_q := 58) (v := T.1 b9 x6.toNatClampNeg) rfl rfl rfl ?_
            refine ex_op pm_M46 (pc_q := 59) (st_q := [.int (x5 ||| (T.1 b9 x6.toNatClampNeg))]) rfl rfl rfl ?_
            refine ex_lo pm_M46 (pc_q := 61) (ls_q := [.ref t, .int a0, .int x2, .int x3, .int x4, .int (x5 ||| (T.1 b9 x6.toNatClampNeg)), .int x6]) (st_q := []) rfl rfl rfl ?_
            refine ex_lo pm_M46 (pc_q := 64) (ls_q := [.ref t, .int a0, .int x2, .int x3, .int x4, .int (x5 ||| (T.1 b9 x6.toNatClampNeg)), .int (x6 + 1)]) (st_q := []) rfl rfl rfl ?_
            refine ex_goS pm_M46 (pc_q := 32) (st_q := []) rfl rfl ?_
            exact ih32 x2 x3 x4 (x5 ||| (T.1 b9 x6.toNatClampNeg)) (x6 + 1) T (v6 t a0 S x2 x3 x4 x5 x6 T hI c4 c8 b9 c10)
      have L4 : ∀ (x2 : Int32) (x3 : Int32) (g4 : Value) (g5 : Value) (g6 : Value) (T : ex_S), g4.category = 1 → g5.category = 1 → g6.category = 1 → I4 t a0 S x2 x3 T → ex_P (N + 1) d 46 4 [.ref t, .int a0, .int x2, .int x3, g4, g5, g6] [] T (fun r S_q => ∃ v, r = some (.int v) ∧ C t a0 S v S_q) := by
        intro x2 x3 g4 g5 g6 T hg4 hg5 hg6 hI
        refine ex_lo pm_M46 (pc_q := 5) (ls_q := [.ref t, .int a0, .int x2, .int x3, g4, g5, g6]) (st_q := [.int x3]) rfl rfl rfl ?_
        refine ex_op pm_M46 (pc_q := 7) (st_q := [.int 10, .int x3]) rfl rfl rfl ?_
        refine ex_icmp pm_M46 (t := 101) (pc_q := 10) rfl rfl rfl (fun c1 => ?_) (fun c1 => ?_)
        · -- 10 ≤ x3
          refine ex_lo pm_M46 (pc_q := 102) (ls_q := [.ref t, .int a0, .int x2, .int x3, g4, g5, g6]) (st_q := [.int x2]) rfl rfl rfl ?_
          exact ex_retI pm_M46 rfl (⟨_, rfl, v1 t a0 S x2 x3 T hI c1⟩)
        · -- not
          refine ex_lo pm_M46 (pc_q := 11) (ls_q := [.ref t, .int a0, .int x2, .int x3, g4, g5, g6]) (st_q := [.ref t]) rfl rfl rfl ?_
          refine ex_getR' pm_M46 (pc_q := 14) (v := T.2.2.1 t 6) rfl rfl rfl rfl rfl rfl ?_
          refine ex_lo pm_M46 (pc_q := 15) (ls_q := [.ref t, .int a0, .int x2, .int x3, g4, g5, g6]) (st_q := [.int a0, va_rf (T.2.2.1 t 6)]) rfl rfl rfl ?_
          refine ex_op pm_M46 (pc_q := 16) (st_q := [.int 1, .int a0, va_rf (T.2.2.1 t 6)]) rfl rfl rfl ?_
          refine ex_op pm_M46 (pc_q := 17) (st_q := [.int (a0 - 1), va_rf (T.2.2.1 t 6)]) rfl rfl rfl ?_
          refine ex_op pm_M46 (pc_q := 19) (st_q := [.int 10, .int (a0 - 1), va_rf (T.2.2.1 t 6)]) rfl rfl rfl ?_
          refine ex_op pm_M46 (pc_q := 20) (st_q := [.int ((a0 - 1) * 10), va_rf (T.2.2.1 t 6)]) rfl rfl rfl ?_
          refine ex_lo pm_M46 (pc_q := 21) (ls_q := [.ref t, .int a0, .int x2, .int x3, g4, g5, g6]) (st_q := [.int x3, .int ((a0 - 1) * 10), va_rf (T.2.2.1 t 6)]) rfl rfl rfl ?_
          refine ex_op pm_M46 (pc_q := 22) (st_q := [.int (((a0 - 1) * 10) + x3), va_rf (T.2.2.1 t 6)]) rfl rfl rfl ?_
          refine ex_oc (o := T.2.2.1 t 6) (fun c3 => ?_) (fun b2 c3 => ?_)
          · refine ex_stc (st_q := [.int (((a0 - 1) * 10) + x3), .null]) (by rw [(congrArg va_rf c3 : va_rf (T.2.2.1 t 6) = Value.null)] <;> rfl) ?_
            exact ex_nul pm_M46 rfl (fun _ => pm_nocall2 rfl) rfl rfl rfl rfl (fun _ _ _ => rfl)
          refine ex_stc (st_q := [.int (((a0 - 1) * 10) + x3), .ref b2]) (by rw [(congrArg va_rf c3 : va_rf (T.2.2.1 t 6) = Value.ref b2)] <;> rfl) ?_
          refine ex_iald' pm_M46 (pc_q := 23) (v := T.1 b2 ((((a0 - 1) * 10) + x3).toNatClampNeg)) rfl rfl rfl ?_
          refine ex_lo pm_M46 (pc_q := 25) (ls_q := [.ref t, .int a0, .int x2, .int x3, .int (T.1 b2 ((((a0 - 1) * 10) + x3).toNatClampNeg)), g5, g6]) (st_q := []) rfl rfl rfl ?_
          refine ex_lo pm_M46 (pc_q := 27) (ls_q := [.ref t, .int a0, .int x2, .int x3, .int (T.1 b2 ((((a0 - 1) * 10) + x3).toNatClampNeg)), g5, g6]) (st_q := [.int (T.1 b2 ((((a0 - 1) * 10) + x3).toNatClampNeg))]) rfl rfl rfl ?_
          refine ex_lo pm_M46 (pc_q := 29) (ls_q := [.ref t, .int a0, .int x2, .int x3, .int (T.1 b2 ((((a0 - 1) * 10) + x3).toNatClampNeg)), .int (T.1 b2 ((((a0 - 1) * 10) + x3).toNatClampNeg)), g6]) (st_q := []) rfl rfl rfl ?_
          refine ex_op pm_M46 (pc_q := 30) (st_q := [.int 0]) rfl rfl rfl ?_
          refine ex_lo pm_M46 (pc_q := 32) (ls_q := [.ref t, .int a0, .int x2, .int x3, .int (T.1 b2 ((((a0 - 1) * 10) + x3).toNatClampNeg)), .int (T.1 b2 ((((a0 - 1) * 10) + x3).toNatClampNeg)), .int 0]) (st_q := []) rfl rfl rfl ?_
          exact L32 x2 x3 (T.1 b2 ((((a0 - 1) * 10) + x3).toNatClampNeg)) (T.1 b2 ((((a0 - 1) * 10) + x3).toNatClampNeg)) 0 T (v2 t a0 S x2 x3 T hI c1 b2 c3)
      exact ⟨L32, L4⟩
  obtain ⟨L32, L4⟩ := LL N
  refine ex_op pm_M46 (pc_q := 1) (st_q := [.int 0]) rfl rfl rfl ?_
  refine ex_lo pm_M46 (pc_q := 2) (ls_q := [.ref t, .int a0, .int 0, pm_no, pm_no, pm_no, pm_no]) (st_q := []) rfl rfl rfl ?_
  refine ex_op pm_M46 (pc_q := 3) (st_q := [.int 0]) rfl rfl rfl ?_
  refine ex_lo pm_M46 (pc_q := 4) (ls_q := [.ref t, .int a0, .int 0, .int 0, pm_no, pm_no, pm_no]) (st_q := []) rfl rfl rfl ?_
  exact L4 0 0 pm_no pm_no pm_no S rfl rfl rfl (v0 t a0 S)
set_option maxRecDepth 100000 in
set_option maxHeartbeats 4000000 in
/-- SilentTable$SignList.<init> -/
theorem ev44 {C : Nat → ex_S → ex_S → Prop} {C45 : Nat → Int32 → ex_S → Option Nat → ex_S → Prop} {C46 : Nat → Int32 → ex_S → Int32 → ex_S → Prop} {I86 : Nat → ex_S → Int32 → ex_S → Prop} {I144 : Nat → ex_S → Int32 → ex_S → Prop} {I169 : Nat → ex_S → Int32 → Int32 → ex_S → Prop} (H45 : es45 C45) (H46 : es46 C46) 
    (v0 : ∀ (t : Nat) (S : ex_S) (r2 : Option Nat) (S3 : ex_S), C45 26 (((ex_new (ex_sz (ex_new S 60) t 5 (some S.2.2.2.2)) 100).1 25 4) * 4) (ex_sx (ex_sz (ex_new (ex_sz (ex_new S 60) t 5 (some S.2.2.2.2)) 100) t 6 (some ((ex_new S 60).2.2.2.2))) t 0 ((ex_new (ex_sz (ex_new S 60) t 5 (some S.2.2.2.2)) 100).1 25 4)) r2 S3 → ∀ (r6 : Option Nat) (S7 : ex_S), C45 27 ((S3.1 25 6) * 4) (ex_sx (ex_sz S3 t 1 r2) t 2 (S3.1 25 6)) r6 S7 → I86 t S 0 (ex_sz (ex_cl (ex_sz S7 t 3 r6) 28) t 4 (some S7.2.2.2.2))) 
    (v1 : ∀ (t : Nat) (S : ex_S) (x2 : Int32) (T : ex_S), I86 t S x2 T → T.1 t 2 ≤ x2 → I144 t S 0 T) 
    (v2 : ∀ (t : Nat) (S : ex_S) (x2 : Int32) (T : ex_S), I86 t S x2 T → ¬ (T.1 t 2 ≤ x2) → ∀ (b10 : Nat), T.2.2.1 t 3 = some b10 → ∀ (b12 : Nat), T.2.2.1 t 5 = some b12 → I86 t S (x2 + 1) (ex_sy T b12 ((((T.1 b10 ((x2 * 4).toNatClampNeg)) * 6) + (T.1 b10 (((x2 * 4) + 1).toNatClampNeg))).toNatClampNeg) ((T.2.1 b12 ((((T.1 b10 ((x2 * 4).toNatClampNeg)) * 6) + (T.1 b10 (((x2 * 4) + 1).toNatClampNeg))).toNatClampNeg)) ||| ((1 : Int64) <<< ((T.1 b10 (((x2 * 4) + 2).toNatClampNeg)).toInt64 &&& 63))))) 
    (v3 : ∀ (t : Nat) (S : ex_S) (x2 : Int32) (T : ex_S), I144 t S x2 T → 10 ≤ x2 → I169 t S 0 1 T) 
    (v4 : ∀ (t : Nat) (S : ex_S) (x2 : Int32) (T : ex_S), I144 t S x2 T → ¬ (10 ≤ x2) → ∀ (b15 : Nat), T.2.2.1 t 6 = some b15 → I144 t S (x2 + 1) (ex_sx T b15 x2.toNatClampNeg (1 <<< (x2 &&& 31)))) 
    (v5 : ∀ (t : Nat) (S : ex_S) (x2 : Int32) (x3 : Int32) (T : ex_S), I169 t S x2 x3 T → 9 < x3 → C t S (ex_sx T t 7 x2)) 
    (v6 : ∀ (t : Nat) (S : ex_S) (x2 : Int32) (x3 : Int32) (T : ex_S), I169 t S x2 x3 T → ¬ (9 < x3) → ∀ (r19 : Int32) (S20 : ex_S), C46 t x3 T r19 S20 → r19 = 0 → I169 t S x2 (x3 + 1) S20) 
    (v7 : ∀ (t : Nat) (S : ex_S) (x2 : Int32) (x3 : Int32) (T : ex_S), I169 t S x2 x3 T → ¬ (9 < x3) → ∀ (r19 : Int32) (S20 : ex_S), C46 t x3 T r19 S20 → ¬ (r19 = 0) → I169 t S x3 (x3 + 1) S20) : es44 C := by
  intro N d t S
  have LL : ∀ N : Nat, (∀ (x2 : Int32) (x3 : Int32) (T : ex_S), I169 t S x2 x3 T → ex_P N d 44 169 [.ref t, .ref 25, .int x2, .int x3] [] T (fun r S_q => r = none ∧ C t S S_q)) ∧ (∀ (x2 : Int32) (g3 : Value) (T : ex_S), g3.category = 1 → I144 t S x2 T → ex_P N d 44 144 [.ref t, .ref 25, .int x2, g3] [] T (fun r S_q => r = none ∧ C t S S_q)) ∧ (∀ (x2 : Int32) (g3 : Value) (T : ex_S), g3.category = 1 → I86 t S x2 T → ex_P N d 44 86 [.ref t, .ref 25, .int x2, g3] [] T (fun r S_q => r = none ∧ C t S S_q)) := by
    intro N
    induction N with
    | zero => exact ⟨fun _ _ _ _ => ex_zero, fun _ _ _ _ _ => ex_zero, fun _ _ _ _ _ => ex_zero⟩
    | succ N ih =>
      obtain ⟨ih169, ih144, ih86⟩ := ih
      have L169 : ∀ (x2 : Int32) (x3 : Int32) (T : ex_S), I169 t S x2 x3 T → ex_P (N + 1) d 44 169 [.ref t, .ref 25, .int x2, .int x3] [] T (fun r S_q => r = none ∧ C t S S_q) := by
        intro x2 x3 T hI
        refine ex_lo pm_M44 (pc_q := 170) (ls_q := [.ref t, .ref 25, .int x2, .int x3]) (st_q := [.int x3]) rfl rfl rfl ?_
        refine ex_op pm_M44 (pc_q := 172) (st_q := [.int 9, .int x3]) rfl rfl rfl ?_
        refine ex_icmp pm_M44 (t := 191) (pc_q := 175) rfl rfl rfl (fun c17 => ?_) (fun c17 => ?_)
        · -- 9 < x3
          refine ex_lo pm_M44 (pc_q := 192) (ls_q := [.ref t, .ref 25, .int x2, .int x3]) (st_q := [.ref t]) rfl rfl rfl ?_
          refine ex_lo pm_M44 (pc_q := 193) (ls_q := [.ref t, .ref 25, .int x2, .int x3]) (st_q := [.int x2, .ref t]) rfl rfl rfl ?_
          refine ex_putI pm_M44 (pc_q := 196) rfl rfl rfl rfl rfl ?_
          exact ex_ret pm_M44 (r := none) rfl rfl (⟨rfl, v5 t S x2 x3 T hI c17⟩)
        · -- not
          refine ex_lo pm_M44 (pc_q := 176) (ls_q := [.ref t, .ref 25, .int x2, .int x3]) (st_q := [.ref t]) rfl rfl rfl ?_
          refine ex_lo pm_M44 (pc_q := 177) (ls_q := [.ref t, .ref 25, .int x2, .int x3]) (st_q := [.int x3, .ref t]) rfl rfl rfl ?_
          refine ex_call pm_M44 (pc_q := 180) (ix := 57) (callee := 46) (np := 1) (kd := 0) (ra := [.int x3, .ref t]) (rest := []) rfl rfl rfl rfl pm_M46 rfl rfl rfl rfl (fun d18 => (H46 _ d18 t x3 T).mono (fun r S20 e => ?_))
          obtain ⟨r19, rfl, h21⟩ := e
          show ex_P _ _ 44 180 [.ref t, .ref 25, .int x2, .int x3] [.int r19] S20 _
          refine ex_ifc pm_M44 (t := 185) (pc_q := 183) rfl rfl rfl (fun c22 => ?_) (fun c22 => ?_)
          · -- r19 = 0
            refine ex_lo pm_M44 (pc_q := 188) (ls_q := [.ref t, .ref 25, .int x2, .int (x3 + 1)]) (st_q := []) rfl rfl rfl ?_
            refine ex_goS pm_M44 (pc_q := 169) (st_q := []) rfl rfl ?_
            exact ih169 x2 (x3 + 1) S20 (v6 t S x2 x3 T hI c17 r19 S20 h21 c22)
          · -- not
            refine ex_lo pm_M44 (pc_q := 184) (ls_q := [.ref t, .ref 25, .int x2, .int x3]) (st_q := [.int x3]) rfl rfl rfl ?_
            refine ex_lo pm_M44 (pc_q := 185) (ls_q := [.ref t, .ref 25, .int x3, .int x3]) (st_q := []) rfl rfl rfl ?_
            refine ex_lo pm_M44 (pc_q := 188) (ls_q := [.ref t, .ref 25, .int x3, .int (x3 + 1)]) (st_q := []) rfl rfl rfl ?_
            refine ex_goS pm_M44 (pc_q := 169) (st_q := []) rfl rfl ?_
            exact ih169 x3 (x3 + 1) S20 (v7 t S x2 x3 T hI c17 r19 S20 h21 c22)
      have L144 : ∀ (x2 : Int32) (g3 : Value) (T : ex_S), g3.category = 1 → I144 t S x2 T → ex_P (N + 1) d 44 144 [.ref t, .ref 25, .int x2, g3] [] T (fun r S_q => r = none ∧ C t S S_q) := by
        intro x2 g3 T hg3 hI
        refine ex_lo pm_M44 (pc_q := 145) (ls_q := [.ref t, .ref 25, .int x2, g3]) (st_q := [.int x2]) rfl rfl rfl ?_
        refine ex_op pm_M44 (pc_q := 147) (st_q := [.int 10, .int x2]) rfl rfl rfl ?_
        refine ex_icmp pm_M44 (t := 165) (pc_q := 150) rfl rfl rfl (fun c14 => ?_) (fun c14 => ?_)
        · -- 10 ≤ x2
          refine ex_op pm_M44 (pc_q := 166) (st_q := [.int 0]) rfl rfl rfl ?_
          refine ex_lo pm_M44 (pc_q := 167) (ls_q := [.ref t, .ref 25, .int 0, g3]) (st_q := []) rfl rfl rfl ?_
          refine ex_op pm_M44 (pc_q := 168) (st_q := [.int 1]) rfl rfl rfl ?_
          refine ex_lo pm_M44 (pc_q := 169) (ls_q := [.ref t, .ref 25, .int 0, .int 1]) (st_q := []) rfl rfl rfl ?_
          exact L169 0 1 T (v3 t S x2 T hI c14)
        · -- not
          refine ex_lo pm_M44 (pc_q := 151) (ls_q := [.ref t, .ref 25, .int x2, g3]) (st_q := [.ref t]) rfl rfl rfl ?_
          refine ex_getR' pm_M44 (pc_q := 154) (v := T.2.2.1 t 6) rfl rfl rfl rfl rfl rfl ?_
          refine ex_lo pm_M44 (pc_q := 155) (ls_q := [.ref t, .ref 25, .int x2, g3]) (st_q := [.int x2, va_rf (T.2.2.1 t 6)]) rfl rfl rfl ?_
          refine ex_op pm_M44 (pc_q := 156) (st_q := [.int 1, .int x2, va_rf (T.2.2.1 t 6)]) rfl rfl rfl ?_
          refine ex_lo pm_M44 (pc_q := 157) (ls_q := [.ref t, .ref 25, .int x2, g3]) (st_q := [.int x2, .int 1, .int x2, va_rf (T.2.2.1 t 6)]) rfl rfl rfl ?_
          refine ex_op pm_M44 (pc_q := 158) (st_q := [.int (1 <<< (x2 &&& 31)), .int x2, va_rf (T.2.2.1 t 6)]) rfl rfl rfl ?_
          refine ex_oc (o := T.2.2.1 t 6) (fun c16 => ?_) (fun b15 c16 => ?_)
          · refine ex_stc (st_q := [.int (1 <<< (x2 &&& 31)), .int x2, .null]) (by rw [(congrArg va_rf c16 : va_rf (T.2.2.1 t 6) = Value.null)] <;> rfl) ?_
            exact ex_nul pm_M44 rfl (fun _ => pm_nocall2 rfl) rfl rfl rfl rfl (fun _ _ _ => rfl)
          refine ex_stc (st_q := [.int (1 <<< (x2 &&& 31)), .int x2, .ref b15]) (by rw [(congrArg va_rf c16 : va_rf (T.2.2.1 t 6) = Value.ref b15)] <;> rfl) ?_
          refine ex_iast pm_M44 (pc_q := 159) rfl rfl ?_
          refine ex_lo pm_M44 (pc_q := 162) (ls_q := [.ref t, .ref 25, .int (x2 + 1), g3]) (st_q := []) rfl rfl rfl ?_
          refine ex_goS pm_M44 (pc_q := 144) (st_q := []) rfl rfl ?_
          exact ih144 (x2 + 1) g3 (ex_sx T b15 x2.toNatClampNeg (1 <<< (x2 &&& 31))) hg3 (v4 t S x2 T hI c14 b15 c16)
      have L86 : ∀ (x2 : Int32) (g3 : Value) (T : ex_S), g3.category = 1 → I86 t S x2 T → ex_P (N + 1) d 44 86 [.ref t, .ref 25, .int x2, g3] [] T (fun r S_q => r = none ∧ C t S S_q) := by
        intro x2 g3 T hg3 hI
        refine ex_lo pm_M44 (pc_q := 87) (ls_q := [.ref t, .ref 25, .int x2, g3]) (st_q := [.int x2]) rfl rfl rfl ?_
        refine ex_lo pm_M44 (pc_q := 88) (ls_q := [.ref t, .ref 25, .int x2, g3]) (st_q := [.ref t, .int x2]) rfl rfl rfl ?_
        refine ex_getI' pm_M44 (pc_q := 91) (v := T.1 t 2) rfl rfl rfl rfl rfl rfl ?_
        refine ex_icmp pm_M44 (t := 142) (pc_q := 94) rfl rfl rfl (fun c9 => ?_) (fun c9 => ?_)
        · -- T.1 t 2 ≤ x2
          refine ex_op pm_M44 (pc_q := 143) (st_q := [.int 0]) rfl rfl rfl ?_
          refine ex_lo pm_M44 (pc_q := 144) (ls_q := [.ref t, .ref 25, .int 0, g3]) (st_q := []) rfl rfl rfl ?_
          exact L144 0 g3 T hg3 (v1 t S x2 T hI c9)
        · -- not
          refine ex_lo pm_M44 (pc_q := 95) (ls_q := [.ref t, .ref 25, .int x2, g3]) (st_q := [.ref t]) rfl rfl rfl ?_
          refine ex_getR' pm_M44 (pc_q := 98) (v := T.2.2.1 t 5) rfl rfl rfl rfl rfl rfl ?_
          refine ex_lo pm_M44 (pc_q := 99) (ls_q := [.ref t, .ref 25, .int x2, g3]) (st_q := [.ref t, va_rf (T.2.2.1 t 5)]) rfl rfl rfl ?_
          refine ex_getR' pm_M44 (pc_q := 102) (v := T.2.2.1 t 3) rfl rfl rfl rfl rfl rfl ?_
          refine ex_lo pm_M44 (pc_q := 103) (ls_q := [.ref t, .ref 25, .int x2, g3]) (st_q := [.int x2, va_rf (T.2.2.1 t 3), va_rf (T.2.2.1 t 5)]) rfl rfl rfl ?_
          refine ex_op pm_M44 (pc_q := 104) (st_q := [.int 4, .int x2, va_rf (T.2.2.1 t 3), va_rf (T.2.2.1 t 5)]) rfl rfl rfl ?_
          refine ex_op pm_M44 (pc_q := 105) (st_q := [.int (x2 * 4), va_rf (T.2.2.1 t 3), va_rf (T.2.2.1 t 5)]) rfl rfl rfl ?_
          refine ex_oc (o := T.2.2.1 t 3) (fun c11 => ?_) (fun b10 c11 => ?_)
          · refine ex_stc (st_q := [.int (x2 * 4), .null, va_rf (T.2.2.1 t 5)]) (by rw [(congrArg va_rf c11 : va_rf (T.2.2.1 t 3) = Value.null)] <;> rfl) ?_
            exact ex_nul pm_M44 rfl (fun _ => pm_nocall2 rfl) rfl rfl rfl rfl (fun _ _ _ => rfl)
          refine ex_stc (st_q := [.int (x2 * 4), .ref b10, va_rf (T.2.2.1 t 5)]) (by rw [(congrArg va_rf c11 : va_rf (T.2.2.1 t 3) = Value.ref b10)] <;> rfl) ?_
          refine ex_iald' pm_M44 (pc_q := 106) (v := T.1 b10 ((x2 * 4).toNatClampNeg)) rfl rfl rfl ?_
          refine ex_op pm_M44 (pc_q := 108) (st_q := [.int 6, .int (T.1 b10 ((x2 * 4).toNatClampNeg)), va_rf (T.2.2.1 t 5)]) rfl rfl rfl ?_
          refine ex_op pm_M44 (pc_q := 109) (st_q := [.int ((T.1 b10 ((x2 * 4).toNatClampNeg)) * 6), va_rf (T.2.2.1 t 5)]) rfl rfl rfl ?_
          refine ex_lo pm_M44 (pc_q := 110) (ls_q := [.ref t, .ref 25, .int x2, g3]) (st_q := [.ref t, .int ((T.1 b10 ((x2 * 4).toNatClampNeg)) * 6), va_rf (T.2.2.1 t 5)]) rfl rfl rfl ?_
          refine ex_getR' pm_M44 (pc_q := 113) (v := T.2.2.1 t 3) rfl rfl rfl rfl rfl rfl ?_
          refine ex_lo pm_M44 (pc_q := 114) (ls_q := [.ref t, .ref 25, .int x2, g3]) (st_q := [.int x2, va_rf (T.2.2.1 t 3), .int ((T.1 b10 ((x2 * 4).toNatClampNeg)) * 6), va_rf (T.2.2.1 t 5)]) rfl rfl rfl ?_
          refine ex_op pm_M44 (pc_q := 115) (st_q := [.int 4, .int x2, va_rf (T.2.2.1 t 3), .int ((T.1 b10 ((x2 * 4).toNatClampNeg)) * 6), va_rf (T.2.2.1 t 5)]) rfl rfl rfl ?_
          refine ex_op pm_M44 (pc_q := 116) (st_q := [.int (x2 * 4), va_rf (T.2.2.1 t 3), .int ((T.1 b10 ((x2 * 4).toNatClampNeg)) * 6), va_rf (T.2.2.1 t 5)]) rfl rfl rfl ?_
          refine ex_op pm_M44 (pc_q := 117) (st_q := [.int 1, .int (x2 * 4), va_rf (T.2.2.1 t 3), .int ((T.1 b10 ((x2 * 4).toNatClampNeg)) * 6), va_rf (T.2.2.1 t 5)]) rfl rfl rfl ?_
          refine ex_op pm_M44 (pc_q := 118) (st_q := [.int ((x2 * 4) + 1), va_rf (T.2.2.1 t 3), .int ((T.1 b10 ((x2 * 4).toNatClampNeg)) * 6), va_rf (T.2.2.1 t 5)]) rfl rfl rfl ?_
          refine ex_stc (st_q := [.int ((x2 * 4) + 1), .ref b10, .int ((T.1 b10 ((x2 * 4).toNatClampNeg)) * 6), va_rf (T.2.2.1 t 5)]) (by rw [(congrArg va_rf c11 : va_rf (T.2.2.1 t 3) = Value.ref b10)] <;> rfl) ?_
          refine ex_iald' pm_M44 (pc_q := 119) (v := T.1 b10 (((x2 * 4) + 1).toNatClampNeg)) rfl rfl rfl ?_
          refine ex_op pm_M44 (pc_q := 120) (st_q := [.int (((T.1 b10 ((x2 * 4).toNatClampNeg)) * 6) + (T.1 b10 (((x2 * 4) + 1).toNatClampNeg))), va_rf (T.2.2.1 t 5)]) rfl rfl rfl ?_
          refine ex_op pm_M44 (pc_q := 121) (st_q := [.int (((T.1 b10 ((x2 * 4).toNatClampNeg)) * 6) + (T.1 b10 (((x2 * 4) + 1).toNatClampNeg))), va_rf (T.2.2.1 t 5), .int (((T.1 b10 ((x2 * 4).toNatClampNeg)) * 6) + (T.1 b10 (((x2 * 4) + 1).toNatClampNeg))), va_rf (T.2.2.1 t 5)]) rfl (by cases (T.2.2.1 t 5) <;> rfl) rfl ?_
          refine ex_oc (o := T.2.2.1 t 5) (fun c13 => ?_) (fun b12 c13 => ?_)
          · refine ex_stc (st_q := [.int (((T.1 b10 ((x2 * 4).toNatClampNeg)) * 6) + (T.1 b10 (((x2 * 4) + 1).toNatClampNeg))), .null, .int (((T.1 b10 ((x2 * 4).toNatClampNeg)) * 6) + (T.1 b10 (((x2 * 4) + 1).toNatClampNeg))), .null]) (by rw [(congrArg va_rf c13 : va_rf (T.2.2.1 t 5) = Value.null)] <;> rfl) ?_
            exact ex_nul pm_M44 rfl (fun _ => pm_nocall2 rfl) rfl rfl rfl rfl (fun _ _ _ => rfl)
          refine ex_stc (st_q := [.int (((T.1 b10 ((x2 * 4).toNatClampNeg)) * 6) + (T.1 b10 (((x2 * 4) + 1).toNatClampNeg))), .ref b12, .int (((T.1 b10 ((x2 * 4).toNatClampNeg)) * 6) + (T.1 b10 (((x2 * 4) + 1).toNatClampNeg))), .ref b12]) (by rw [(congrArg va_rf c13 : va_rf (T.2.2.1 t 5) = Value.ref b12)] <;> rfl) ?_
          refine ex_lald' pm_M44 (pc_q := 122) (v := T.2.1 b12 ((((T.1 b10 ((x2 * 4).toNatClampNeg)) * 6) + (T.1 b10 (((x2 * 4) + 1).toNatClampNeg))).toNatClampNeg)) rfl rfl rfl ?_
          refine ex_op pm_M44 (pc_q := 123) (st_q := [.long 1, .long (T.2.1 b12 ((((T.1 b10 ((x2 * 4).toNatClampNeg)) * 6) + (T.1 b10 (((x2 * 4) + 1).toNatClampNeg))).toNatClampNeg)), .int (((T.1 b10 ((x2 * 4).toNatClampNeg)) * 6) + (T.1 b10 (((x2 * 4) + 1).toNatClampNeg))), .ref b12]) rfl rfl rfl ?_
          refine ex_lo pm_M44 (pc_q := 124) (ls_q := [.ref t, .ref 25, .int x2, g3]) (st_q := [.ref t, .long 1, .long (T.2.1 b12 ((((T.1 b10 ((x2 * 4).toNatClampNeg)) * 6) + (T.1 b10 (((x2 * 4) + 1).toNatClampNeg))).toNatClampNeg)), .int (((T.1 b10 ((x2 * 4).toNatClampNeg)) * 6) + (T.1 b10 (((x2 * 4) + 1).toNatClampNeg))), .ref b12]) rfl rfl rfl ?_
          refine ex_getR' pm_M44 (pc_q := 127) (v := T.2.2.1 t 3) rfl rfl rfl rfl rfl rfl ?_
          refine ex_lo pm_M44 (pc_q := 128) (ls_q := [.ref t, .ref 25, .int x2, g3]) (st_q := [.int x2, va_rf (T.2.2.1 t 3), .long 1, .long (T.2.1 b12 ((((T.1 b10 ((x2 * 4).toNatClampNeg)) * 6) + (T.1 b10 (((x2 * 4) + 1).toNatClampNeg))).toNatClampNeg)), .int (((T.1 b10 ((x2 * 4).toNatClampNeg)) * 6) + (T.1 b10 (((x2 * 4) + 1).toNatClampNeg))), .ref b12]) rfl rfl rfl ?_
          refine ex_op pm_M44 (pc_q := 129) (st_q := [.int 4, .int x2, va_rf (T.2.2.1 t 3), .long 1, .long (T.2.1 b12 ((((T.1 b10 ((x2 * 4).toNatClampNeg)) * 6) + (T.1 b10 (((x2 * 4) + 1).toNatClampNeg))).toNatClampNeg)), .int (((T.1 b10 ((x2 * 4).toNatClampNeg)) * 6) + (T.1 b10 (((x2 * 4) + 1).toNatClampNeg))), .ref b12]) rfl rfl rfl ?_
          refine ex_op pm_M44 (pc_q := 130) (st_q := [.int (x2 * 4), va_rf (T.2.2.1 t 3), .long 1, .long (T.2.1 b12 ((((T.1 b10 ((x2 * 4).toNatClampNeg)) * 6) + (T.1 b10 (((x2 * 4) + 1).toNatClampNeg))).toNatClampNeg)), .int (((T.1 b10 ((x2 * 4).toNatClampNeg)) * 6) + (T.1 b10 (((x2 * 4) + 1).toNatClampNeg))), .ref b12]) rfl rfl rfl ?_
          refine ex_op pm_M44 (pc_q := 131) (st_q := [.int 2, .int (x2 * 4), va_rf (T.2.2.1 t 3), .long 1, .long (T.2.1 b12 ((((T.1 b10 ((x2 * 4).toNatClampNeg)) * 6) + (T.1 b10 (((x2 * 4) + 1).toNatClampNeg))).toNatClampNeg)), .int (((T.1 b10 ((x2 * 4).toNatClampNeg)) * 6) + (T.1 b10 (((x2 * 4) + 1).toNatClampNeg))), .ref b12]) rfl rfl rfl ?_
          refine ex_op pm_M44 (pc_q := 132) (st_q := [.int ((x2 * 4) + 2), va_rf (T.2.2.1 t 3), .long 1, .long (T.2.1 b12 ((((T.1 b10 ((x2 * 4).toNatClampNeg)) * 6) + (T.1 b10 (((x2 * 4) + 1).toNatClampNeg))).toNatClampNeg)), .int (((T.1 b10 ((x2 * 4).toNatClampNeg)) * 6) + (T.1 b10 (((x2 * 4) + 1).toNatClampNeg))), .ref b12]) rfl rfl rfl ?_
          refine ex_stc (st_q := [.int ((x2 * 4) + 2), .ref b10, .long 1, .long (T.2.1 b12 ((((T.1 b10 ((x2 * 4).toNatClampNeg)) * 6) + (T.1 b10 (((x2 * 4) + 1).toNatClampNeg))).toNatClampNeg)), .int (((T.1 b10 ((x2 * 4).toNatClampNeg)) * 6) + (T.1 b10 (((x2 * 4) + 1).toNatClampNeg))), .ref b12]) (by rw [(congrArg va_rf c11 : va_rf (T.2.2.1 t 3) = Value.ref b10)] <;> rfl) ?_
          refine ex_iald' pm_M44 (pc_q := 133) (v := T.1 b10 (((x2 * 4) + 2).toNatClampNeg)) rfl rfl rfl ?_
          refine ex_op pm_M44 (pc_q := 134) (st_q := [.long ((1 : Int64) <<< ((T.1 b10 (((x2 * 4) + 2).toNatClampNeg)).toInt64 &&& 63)), .long (T.2.1 b12 ((((T.1 b10 ((x2 * 4).toNatClampNeg)) * 6) + (T.1 b10 (((x2 * 4) + 1).toNatClampNeg))).toNatClampNeg)), .int (((T.1 b10 ((x2 * 4).toNatClampNeg)) * 6) + (T.1 b10 (((x2 * 4) + 1).toNatClampNeg))), .ref b12]) rfl rfl rfl ?_
          refine ex_op pm_M44 (pc_q := 135) (st_q := [.long ((T.2.1 b12 ((((T.1 b10 ((x2 * 4).toNatClampNeg)) * 6) + (T.1 b10 (((x2 * 4) + 1).toNatClampNeg))).toNatClampNeg)) ||| ((1 : Int64) <<< ((T.1 b10 (((x2 * 4) + 2).toNatClampNeg)).toInt64 &&& 63))), .int (((T.1 b10 ((x2 * 4).toNatClampNeg)) * 6) + (T.1 b10 (((x2 * 4) + 1).toNatClampNeg))), .ref b12]) rfl rfl rfl ?_
          refine ex_last pm_M44 (pc_q := 136) rfl rfl ?_
          refine ex_lo pm_M44 (pc_q := 139) (ls_q := [.ref t, .ref 25, .int (x2 + 1), g3]) (st_q := []) rfl rfl rfl ?_
          refine ex_goS pm_M44 (pc_q := 86) (st_q := []) rfl rfl ?_
          exact ih86 (x2 + 1) g3 (ex_sy T b12 ((((T.1 b10 ((x2 * 4).toNatClampNeg)) * 6) + (T.1 b10 (((x2 * 4) + 1).toNatClampNeg))).toNatClampNeg) ((T.2.1 b12 ((((T.1 b10 ((x2 * 4).toNatClampNeg)) * 6) + (T.1 b10 (((x2 * 4) + 1).toNatClampNeg))).toNatClampNeg)) ||| ((1 : Int64) <<< ((T.1 b10 (((x2 * 4) + 2).toNatClampNeg)).toInt64 &&& 63)))) hg3 (v2 t S x2 T hI c9 b10 c11 b12 c13)
      exact ⟨L169, L144, L86⟩
  obtain ⟨L169, L144, L86⟩ := LL N
  refine ex_lo pm_M44 (pc_q := 1) (ls_q := [.ref t, .ref 25, pm_no, pm_no]) (st_q := [.ref t]) rfl rfl rfl ?_
  refine ex_obj pm_M44 (pc_q := 4) rfl rfl rfl ?_
  refine ex_lo pm_M44 (pc_q := 5) (ls_q := [.ref t, .ref 25, pm_no, pm_no]) (st_q := [.ref t]) rfl rfl rfl ?_
  refine ex_op pm_M44 (pc_q := 7) (st_q := [.int 60, .ref t]) rfl rfl rfl ?_
  refine ex_newa pm_M44 (pc_q := 9) rfl rfl rfl ?_
  show ex_P _ _ 44 9 [.ref t, .ref 25, pm_no, pm_no] [.ref S.2.2.2.2, .ref t] (ex_new S 60) _
  refine ex_putR pm_M44 (pc_q := 12) (x := some S.2.2.2.2) rfl rfl rfl rfl rfl rfl ?_
  refine ex_lo pm_M44 (pc_q := 13) (ls_q := [.ref t, .ref 25, pm_no, pm_no]) (st_q := [.ref t]) rfl rfl rfl ?_
  refine ex_op pm_M44 (pc_q := 15) (st_q := [.int 100, .ref t]) rfl rfl rfl ?_
  refine ex_newa pm_M44 (pc_q := 17) rfl rfl rfl ?_
  show ex_P _ _ 44 17 [.ref t, .ref 25, pm_no, pm_no] [.ref ((ex_new S 60).2.2.2.2), .ref t] (ex_new (ex_sz (ex_new S 60) t 5 (some S.2.2.2.2)) 100) _
  refine ex_putR pm_M44 (pc_q := 20) (x := some ((ex_new S 60).2.2.2.2)) rfl rfl rfl rfl rfl rfl ?_
  refine ex_lo pm_M44 (pc_q := 21) (ls_q := [.ref t, .ref 25, pm_no, pm_no]) (st_q := [.ref t]) rfl rfl rfl ?_
  refine ex_lo pm_M44 (pc_q := 22) (ls_q := [.ref t, .ref 25, pm_no, pm_no]) (st_q := [.ref 25, .ref t]) rfl rfl rfl ?_
  refine ex_getI' pm_M44 (pc_q := 25) (v := (ex_new (ex_sz (ex_new S 60) t 5 (some S.2.2.2.2)) 100).1 25 4) rfl rfl rfl rfl rfl rfl ?_
  refine ex_putI pm_M44 (pc_q := 28) rfl rfl rfl rfl rfl ?_
  refine ex_lo pm_M44 (pc_q := 29) (ls_q := [.ref t, .ref 25, pm_no, pm_no]) (st_q := [.ref t]) rfl rfl rfl ?_
  refine ex_lo pm_M44 (pc_q := 30) (ls_q := [.ref t, .ref 25, pm_no, pm_no]) (st_q := [.ref 25, .ref t]) rfl rfl rfl ?_
  refine ex_getK pm_M44 (pc_q := 33) (j := 16) (b := 26) rfl rfl rfl rfl rfl ?_
  refine ex_lo pm_M44 (pc_q := 34) (ls_q := [.ref t, .ref 25, pm_no, pm_no]) (st_q := [.ref t, .ref 26, .ref t]) rfl rfl rfl ?_
  refine ex_getI' pm_M44 (pc_q := 37) (v := (ex_new (ex_sz (ex_new S 60) t 5 (some S.2.2.2.2)) 100).1 25 4) rfl rfl rfl rfl rfl (by first | rfl | exact if_pos ⟨rfl, rfl⟩) ?_
  refine ex_op pm_M44 (pc_q := 38) (st_q := [.int 4, .int ((ex_new (ex_sz (ex_new S 60) t 5 (some S.2.2.2.2)) 100).1 25 4), .ref 26, .ref t]) rfl rfl rfl ?_
  refine ex_op pm_M44 (pc_q := 39) (st_q := [.int (((ex_new (ex_sz (ex_new S 60) t 5 (some S.2.2.2.2)) 100).1 25 4) * 4), .ref 26, .ref t]) rfl rfl rfl ?_
  refine ex_call pm_M44 (pc_q := 42) (ix := 31) (callee := 45) (np := 2) (kd := 2) (ra := [.int (((ex_new (ex_sz (ex_new S 60) t 5 (some S.2.2.2.2)) 100).1 25 4) * 4), .ref 26]) (rest := [.ref t]) rfl rfl rfl rfl pm_M45 rfl rfl rfl rfl (fun d1 => (H45 _ d1 26 (((ex_new (ex_sz (ex_new S 60) t 5 (some S.2.2.2.2)) 100).1 25 4) * 4) (ex_sx (ex_sz (ex_new (ex_sz (ex_new S 60) t 5 (some S.2.2.2.2)) 100) t 6 (some ((ex_new S 60).2.2.2.2))) t 0 ((ex_new (ex_sz (ex_new S 60) t 5 (some S.2.2.2.2)) 100).1 25 4))).mono (fun r S3 e => ?_))
  obtain ⟨r2, rfl, h4⟩ := e
  show ex_P _ _ 44 42 [.ref t, .ref 25, pm_no, pm_no] [va_rf r2, .ref t] S3 _
  refine ex_putR pm_M44 (pc_q := 45) (x := r2) rfl rfl rfl rfl rfl rfl ?_
  refine ex_lo pm_M44 (pc_q := 46) (ls_q := [.ref t, .ref 25, pm_no, pm_no]) (st_q := [.ref t]) rfl rfl rfl ?_
  refine ex_lo pm_M44 (pc_q := 47) (ls_q := [.ref t, .ref 25, pm_no, pm_no]) (st_q := [.ref 25, .ref t]) rfl rfl rfl ?_
  refine ex_getI' pm_M44 (pc_q := 50) (v := S3.1 25 6) rfl rfl rfl rfl rfl rfl ?_
  refine ex_putI pm_M44 (pc_q := 53) rfl rfl rfl rfl rfl ?_
  refine ex_lo pm_M44 (pc_q := 54) (ls_q := [.ref t, .ref 25, pm_no, pm_no]) (st_q := [.ref t]) rfl rfl rfl ?_
  refine ex_lo pm_M44 (pc_q := 55) (ls_q := [.ref t, .ref 25, pm_no, pm_no]) (st_q := [.ref 25, .ref t]) rfl rfl rfl ?_
  refine ex_getK pm_M44 (pc_q := 58) (j := 17) (b := 27) rfl rfl rfl rfl rfl ?_
  refine ex_lo pm_M44 (pc_q := 59) (ls_q := [.ref t, .ref 25, pm_no, pm_no]) (st_q := [.ref t, .ref 27, .ref t]) rfl rfl rfl ?_
  refine ex_getI' pm_M44 (pc_q := 62) (v := S3.1 25 6) rfl rfl rfl rfl rfl (by first | rfl | exact if_pos ⟨rfl, rfl⟩) ?_
  refine ex_op pm_M44 (pc_q := 63) (st_q := [.int 4, .int (S3.1 25 6), .ref 27, .ref t]) rfl rfl rfl ?_
  refine ex_op pm_M44 (pc_q := 64) (st_q := [.int ((S3.1 25 6) * 4), .ref 27, .ref t]) rfl rfl rfl ?_
  refine ex_call pm_M44 (pc_q := 67) (ix := 31) (callee := 45) (np := 2) (kd := 2) (ra := [.int ((S3.1 25 6) * 4), .ref 27]) (rest := [.ref t]) rfl rfl rfl rfl pm_M45 rfl rfl rfl rfl (fun d5 => (H45 _ d5 27 ((S3.1 25 6) * 4) (ex_sx (ex_sz S3 t 1 r2) t 2 (S3.1 25 6))).mono (fun r S7 e => ?_))
  obtain ⟨r6, rfl, h8⟩ := e
  show ex_P _ _ 44 67 [.ref t, .ref 25, pm_no, pm_no] [va_rf r6, .ref t] S7 _
  refine ex_putR pm_M44 (pc_q := 70) (x := r6) rfl rfl rfl rfl rfl rfl ?_
  refine ex_lo pm_M44 (pc_q := 71) (ls_q := [.ref t, .ref 25, pm_no, pm_no]) (st_q := [.ref t]) rfl rfl rfl ?_
  refine ex_lo pm_M44 (pc_q := 72) (ls_q := [.ref t, .ref 25, pm_no, pm_no]) (st_q := [.ref 25, .ref t]) rfl rfl rfl ?_
  refine ex_getK pm_M44 (pc_q := 75) (j := 18) (b := 28) rfl rfl rfl rfl rfl ?_
  refine ex_clone pm_M44 (pc_q := 78) rfl rfl rfl ?_
  show ex_P _ _ 44 78 [.ref t, .ref 25, pm_no, pm_no] [.ref S7.2.2.2.2, .ref t] (ex_cl (ex_sz S7 t 3 r6) 28) _
  refine ex_cast pm_M44 (pc_q := 81) rfl rfl ?_
  refine ex_putR pm_M44 (pc_q := 84) (x := some S7.2.2.2.2) rfl rfl rfl rfl rfl rfl ?_
  refine ex_op pm_M44 (pc_q := 85) (st_q := [.int 0]) rfl rfl rfl ?_
  refine ex_lo pm_M44 (pc_q := 86) (ls_q := [.ref t, .ref 25, .int 0, pm_no]) (st_q := []) rfl rfl rfl ?_
  exact L86 0 pm_no (ex_sz (ex_cl (ex_sz S7 t 3 r6) 28) t 4 (some S7.2.2.2.2)) rfl (v0 t S r2 S3 h4 r6 S7 h8)
set_option maxRecDepth 100000 in
set_option maxHeartbeats 4000000 in
/-- SilentTable$SignRow.<init> -/
theorem ev47 {C : Nat → ex_S → ex_S → Prop} {C45 : Nat → Int32 → ex_S → Option Nat → ex_S → Prop} (H45 : es45 C45) 
    (v0 : ∀ (t : Nat) (S : ex_S) (r2 : Option Nat) (S3 : ex_S), C45 26 (S.1 25 4) (ex_sx S t 0 (S.1 25 4)) r2 S3 → C t S (ex_sz S3 t 1 r2)) : es47 C := by
  intro N d t S
  refine ex_lo pm_M47 (pc_q := 1) (ls_q := [.ref t, .ref 25]) (st_q := [.ref t]) rfl rfl rfl ?_
  refine ex_obj pm_M47 (pc_q := 4) rfl rfl rfl ?_
  refine ex_lo pm_M47 (pc_q := 5) (ls_q := [.ref t, .ref 25]) (st_q := [.ref t]) rfl rfl rfl ?_
  refine ex_lo pm_M47 (pc_q := 6) (ls_q := [.ref t, .ref 25]) (st_q := [.ref 25, .ref t]) rfl rfl rfl ?_
  refine ex_getI' pm_M47 (pc_q := 9) (v := S.1 25 4) rfl rfl rfl rfl rfl rfl ?_
  refine ex_putI pm_M47 (pc_q := 12) rfl rfl rfl rfl rfl ?_
  refine ex_lo pm_M47 (pc_q := 13) (ls_q := [.ref t, .ref 25]) (st_q := [.ref t]) rfl rfl rfl ?_
  refine ex_lo pm_M47 (pc_q := 14) (ls_q := [.ref t, .ref 25]) (st_q := [.ref 25, .ref t]) rfl rfl rfl ?_
  refine ex_getK pm_M47 (pc_q := 17) (j := 16) (b := 26) rfl rfl rfl rfl rfl ?_
  refine ex_lo pm_M47 (pc_q := 18) (ls_q := [.ref t, .ref 25]) (st_q := [.ref t, .ref 26, .ref t]) rfl rfl rfl ?_
  refine ex_getI' pm_M47 (pc_q := 21) (v := S.1 25 4) rfl rfl rfl rfl rfl (by first | rfl | exact if_pos ⟨rfl, rfl⟩) ?_
  refine ex_call pm_M47 (pc_q := 24) (ix := 22) (callee := 45) (np := 2) (kd := 2) (ra := [.int (S.1 25 4), .ref 26]) (rest := [.ref t]) rfl rfl rfl rfl pm_M45 rfl rfl rfl rfl (fun d1 => (H45 _ d1 26 (S.1 25 4) (ex_sx S t 0 (S.1 25 4))).mono (fun r S3 e => ?_))
  obtain ⟨r2, rfl, h4⟩ := e
  show ex_P _ _ 47 24 [.ref t, .ref 25] [va_rf r2, .ref t] S3 _
  refine ex_putR pm_M47 (pc_q := 27) (x := r2) rfl rfl rfl rfl rfl rfl ?_
  exact ex_ret pm_M47 (r := none) rfl rfl (⟨rfl, v0 t S r2 S3 h4⟩)
set_option maxRecDepth 100000 in
set_option maxHeartbeats 4000000 in
/-- java/util/Arrays.rangeCheck -/
theorem ev50 {C : Int32 → Int32 → Int32 → ex_S → ex_S → Prop} 
    (v0 : ∀ (a0 : Int32) (a1 : Int32) (a2 : Int32) (S : ex_S), a1 ≤ a2 → 0 ≤ a1 → a2 ≤ a0 → C a0 a1 a2 S S) : es50 C := by
  intro N d a0 a1 a2 S
  refine ex_lo pm_M50 (pc_q := 1) (ls_q := [.int a0, .int a1, .int a2]) (st_q := [.int a1]) rfl rfl rfl ?_
  refine ex_lo pm_M50 (pc_q := 2) (ls_q := [.int a0, .int a1, .int a2]) (st_q := [.int a2, .int a1]) rfl rfl rfl ?_
  refine ex_icmp pm_M50 (t := 46) (pc_q := 5) rfl rfl rfl (fun c1 => ?_) (fun c1 => ?_)
  · -- a1 ≤ a2
    refine ex_lo pm_M50 (pc_q := 47) (ls_q := [.int a0, .int a1, .int a2]) (st_q := [.int a1]) rfl rfl rfl ?_
    refine ex_ifc pm_M50 (t := 59) (pc_q := 50) rfl rfl rfl (fun c2 => ?_) (fun c2 => ?_)
    · -- 0 ≤ a1
      refine ex_lo pm_M50 (pc_q := 60) (ls_q := [.int a0, .int a1, .int a2]) (st_q := [.int a2]) rfl rfl rfl ?_
      refine ex_lo pm_M50 (pc_q := 61) (ls_q := [.int a0, .int a1, .int a2]) (st_q := [.int a0, .int a2]) rfl rfl rfl ?_
      refine ex_icmp pm_M50 (t := 73) (pc_q := 64) rfl rfl rfl (fun c3 => ?_) (fun c3 => ?_)
      · -- a2 ≤ a0
        exact ex_ret pm_M50 (r := none) rfl rfl (⟨rfl, v0 a0 a1 a2 S c1 c2 c3⟩)
      · -- not
        exact ex_nonew pm_M50 rfl rfl
    · -- not
      exact ex_nonew pm_M50 rfl rfl
  · -- not
    exact ex_nonew pm_M50 rfl rfl
set_option maxRecDepth 100000 in
set_option maxHeartbeats 4000000 in
/-- java/util/Arrays.fill -/
theorem ev49 {C : Option Nat → Int32 → Int32 → Int32 → ex_S → ex_S → Prop} {C50 : Int32 → Int32 → Int32 → ex_S → ex_S → Prop} {I10 : Option Nat → Int32 → Int32 → Int32 → ex_S → Int32 → ex_S → Prop} (H50 : es50 C50) 
    (v0 : ∀ (a0 : Option Nat) (a1 : Int32) (a2 : Int32) (a3 : Int32) (S : ex_S) (b1 : Nat), a0 = some b1 → ∀ (S5 : ex_S), C50 (Int32.ofNat (S.2.2.2.1 b1)) a1 a2 S S5 → I10 a0 a1 a2 a3 S a1 S5) 
    (v1 : ∀ (a0 : Option Nat) (a1 : Int32) (a2 : Int32) (a3 : Int32) (S : ex_S) (x4 : Int32) (T : ex_S), I10 a0 a1 a2 a3 S x4 T → a2 ≤ x4 → C a0 a1 a2 a3 S T) 
    (v2 : ∀ (a0 : Option Nat) (a1 : Int32) (a2 : Int32) (a3 : Int32) (S : ex_S) (x4 : Int32) (T : ex_S), I10 a0 a1 a2 a3 S x4 T → ¬ (a2 ≤ x4) → ∀ (b8 : Nat), a0 = some b8 → I10 a0 a1 a2 a3 S (x4 + 1) (ex_sx T b8 x4.toNatClampNeg a3)) : es49 C := by
  intro N d a0 a1 a2 a3 S
  have LL : ∀ N : Nat, (∀ (x4 : Int32) (T : ex_S), I10 a0 a1 a2 a3 S x4 T → ex_P N d 49 10 [va_rf a0, .int a1, .int a2, .int a3, .int x4] [] T (fun r S_q => r = none ∧ C a0 a1 a2 a3 S S_q)) := by
    intro N
    induction N with
    | zero => exact fun _ _ _ => ex_zero
    | succ N ih =>
      have ih10 := ih
      have L10 : ∀ (x4 : Int32) (T : ex_S), I10 a0 a1 a2 a3 S x4 T → ex_P (N + 1) d 49 10 [va_rf a0, .int a1, .int a2, .int a3, .int x4] [] T (fun r S_q => r = none ∧ C a0 a1 a2 a3 S S_q) := by
        intro x4 T hI
        refine ex_lo pm_M49 (pc_q := 12) (ls_q := [va_rf a0, .int a1, .int a2, .int a3, .int x4]) (st_q := [.int x4]) rfl rfl rfl ?_
        refine ex_lo pm_M49 (pc_q := 13) (ls_q := [va_rf a0, .int a1, .int a2, .int a3, .int x4]) (st_q := [.int a2, .int x4]) rfl rfl rfl ?_
        refine ex_icmp pm_M49 (t := 27) (pc_q := 16) rfl rfl rfl (fun c7 => ?_) (fun c7 => ?_)
        · -- a2 ≤ x4
          exact ex_ret pm_M49 (r := none) rfl rfl (⟨rfl, v1 a0 a1 a2 a3 S x4 T hI c7⟩)
        · -- not
          refine ex_lo pm_M49 (pc_q := 17) (ls_q := [va_rf a0, .int a1, .int a2, .int a3, .int x4]) (st_q := [va_rf a0]) rfl (by cases a0 <;> rfl) rfl ?_
          refine ex_lo pm_M49 (pc_q := 19) (ls_q := [va_rf a0, .int a1, .int a2, .int a3, .int x4]) (st_q := [.int x4, va_rf a0]) rfl rfl rfl ?_
          refine ex_lo pm_M49 (pc_q := 20) (ls_q := [va_rf a0, .int a1, .int a2, .int a3, .int x4]) (st_q := [.int a3, .int x4, va_rf a0]) rfl rfl rfl ?_
          refine ex_oc (o := a0) (fun c9 => ?_) (fun b8 c9 => ?_)
          · refine ex_stc (st_q := [.int a3, .int x4, .null]) (by rw [(congrArg va_rf c9 : va_rf a0 = Value.null)] <;> rfl) ?_
            exact ex_nul pm_M49 rfl (fun _ => pm_nocall2 rfl) rfl rfl rfl rfl (fun _ _ _ => rfl)
          refine ex_stc (st_q := [.int a3, .int x4, .ref b8]) (by rw [(congrArg va_rf c9 : va_rf a0 = Value.ref b8)] <;> rfl) ?_
          refine ex_iast pm_M49 (pc_q := 21) rfl rfl ?_
          refine ex_lo pm_M49 (pc_q := 24) (ls_q := [va_rf a0, .int a1, .int a2, .int a3, .int (x4 + 1)]) (st_q := []) rfl rfl rfl ?_
          refine ex_goS pm_M49 (pc_q := 10) (st_q := []) rfl rfl ?_
          exact ih10 (x4 + 1) (ex_sx T b8 x4.toNatClampNeg a3) (v2 a0 a1 a2 a3 S x4 T hI c7 b8 c9)
      exact L10
  have L10 := LL N
  refine ex_lo pm_M49 (pc_q := 1) (ls_q := [va_rf a0, .int a1, .int a2, .int a3, pm_no]) (st_q := [va_rf a0]) rfl (by cases a0 <;> rfl) rfl ?_
  refine ex_oc (o := a0) (fun c2 => ?_) (fun b1 c2 => ?_)
  · refine ex_stc (st_q := [.null]) (by rw [(congrArg va_rf c2 : va_rf a0 = Value.null)] <;> rfl) ?_
    exact ex_nul pm_M49 rfl (fun _ => pm_nocall2 rfl) rfl rfl rfl rfl (fun _ _ _ => rfl)
  refine ex_stc (st_q := [.ref b1]) (by rw [(congrArg va_rf c2 : va_rf a0 = Value.ref b1)] <;> rfl) ?_
  refine ex_alen pm_M49 (pc_q := 2) rfl rfl ?_
  refine ex_lo pm_M49 (pc_q := 3) (ls_q := [va_rf a0, .int a1, .int a2, .int a3, pm_no]) (st_q := [.int a1, .int (Int32.ofNat (S.2.2.2.1 b1))]) rfl rfl rfl ?_
  refine ex_lo pm_M49 (pc_q := 4) (ls_q := [va_rf a0, .int a1, .int a2, .int a3, pm_no]) (st_q := [.int a2, .int a1, .int (Int32.ofNat (S.2.2.2.1 b1))]) rfl rfl rfl ?_
  refine ex_call pm_M49 (pc_q := 7) (ix := 13) (callee := 50) (np := 3) (kd := 2) (ra := [.int a2, .int a1, .int (Int32.ofNat (S.2.2.2.1 b1))]) (rest := []) rfl rfl rfl rfl pm_M50 rfl rfl rfl rfl (fun d3 => (H50 _ d3 (Int32.ofNat (S.2.2.2.1 b1)) a1 a2 S).mono (fun r S5 e => ?_))
  obtain ⟨rfl, h6⟩ := e
  show ex_P _ _ 49 7 [va_rf a0, .int a1, .int a2, .int a3, pm_no] [] S5 _
  refine ex_lo pm_M49 (pc_q := 8) (ls_q := [va_rf a0, .int a1, .int a2, .int a3, pm_no]) (st_q := [.int a1]) rfl rfl rfl ?_
  refine ex_lo pm_M49 (pc_q := 10) (ls_q := [va_rf a0, .int a1, .int a2, .int a3, .int a1]) (st_q := []) rfl rfl rfl ?_
  exact L10 a1 S5 (v0 a0 a1 a2 a3 S b1 c2 S5 h6)
set_option maxRecDepth 100000 in
set_option maxHeartbeats 4000000 in
/-- SilentTable$Meal.isSign -/
theorem ev51 {C : Nat → Int32 → ex_S → Int32 → ex_S → Prop} 
    (v0 : ∀ (t : Nat) (a0 : Int32) (S : ex_S) (b1 : Nat), S.2.2.1 t 2 = some b1 → ¬ S.1 b1 ((a0 * 4).toNatClampNeg) = 2 → C t a0 S 0 S) 
    (v1 : ∀ (t : Nat) (a0 : Int32) (S : ex_S) (b1 : Nat), S.2.2.1 t 2 = some b1 → ¬ (¬ S.1 b1 ((a0 * 4).toNatClampNeg) = 2) → C t a0 S 1 S) : es51 C := by
  intro N d t a0 S
  refine ex_lo pm_M51 (pc_q := 1) (ls_q := [.ref t, .int a0]) (st_q := [.ref t]) rfl rfl rfl ?_
  refine ex_getR' pm_M51 (pc_q := 4) (v := S.2.2.1 t 2) rfl rfl rfl rfl rfl rfl ?_
  refine ex_lo pm_M51 (pc_q := 5) (ls_q := [.ref t, .int a0]) (st_q := [.int a0, va_rf (S.2.2.1 t 2)]) rfl rfl rfl ?_
  refine ex_op pm_M51 (pc_q := 6) (st_q := [.int 4, .int a0, va_rf (S.2.2.1 t 2)]) rfl rfl rfl ?_
  refine ex_op pm_M51 (pc_q := 7) (st_q := [.int (a0 * 4), va_rf (S.2.2.1 t 2)]) rfl rfl rfl ?_
  refine ex_oc (o := S.2.2.1 t 2) (fun c2 => ?_) (fun b1 c2 => ?_)
  · refine ex_stc (st_q := [.int (a0 * 4), .null]) (by rw [(congrArg va_rf c2 : va_rf (S.2.2.1 t 2) = Value.null)] <;> rfl) ?_
    exact ex_nul pm_M51 rfl (fun _ => pm_nocall2 rfl) rfl rfl rfl rfl (fun _ _ _ => rfl)
  refine ex_stc (st_q := [.int (a0 * 4), .ref b1]) (by rw [(congrArg va_rf c2 : va_rf (S.2.2.1 t 2) = Value.ref b1)] <;> rfl) ?_
  refine ex_iald' pm_M51 (pc_q := 8) (v := S.1 b1 ((a0 * 4).toNatClampNeg)) rfl rfl rfl ?_
  refine ex_op pm_M51 (pc_q := 9) (st_q := [.int 2, .int (S.1 b1 ((a0 * 4).toNatClampNeg))]) rfl rfl rfl ?_
  refine ex_icmp pm_M51 (t := 16) (pc_q := 12) rfl rfl rfl (fun c3 => ?_) (fun c3 => ?_)
  · -- ¬ S.1 b1 ((a0 * 4).toNatClampNeg) = 2
    refine ex_op pm_M51 (pc_q := 17) (st_q := [.int 0]) rfl rfl rfl ?_
    exact ex_retI pm_M51 rfl (⟨_, rfl, v0 t a0 S b1 c2 c3⟩)
  · -- not
    refine ex_op pm_M51 (pc_q := 13) (st_q := [.int 1]) rfl rfl rfl ?_
    refine ex_br pm_M51 (pc_q := 17) (st_q := [.int 1]) rfl rfl ?_
    exact ex_retI pm_M51 rfl (⟨_, rfl, v1 t a0 S b1 c2 c3⟩)
set_option maxRecDepth 100000 in
set_option maxHeartbeats 4000000 in
/-- SilentTable$Meal.whoDoes -/
theorem ev52 {C : Nat → Int32 → ex_S → Int32 → ex_S → Prop} 
    (v0 : ∀ (t : Nat) (a0 : Int32) (S : ex_S) (b1 : Nat), S.2.2.1 t 2 = some b1 → C t a0 S (S.1 b1 (((a0 * 4) + 1).toNatClampNeg)) S) : es52 C := by
  intro N d t a0 S
  refine ex_lo pm_M52 (pc_q := 1) (ls_q := [.ref t, .int a0]) (st_q := [.ref t]) rfl rfl rfl ?_
  refine ex_getR' pm_M52 (pc_q := 4) (v := S.2.2.1 t 2) rfl rfl rfl rfl rfl rfl ?_
  refine ex_lo pm_M52 (pc_q := 5) (ls_q := [.ref t, .int a0]) (st_q := [.int a0, va_rf (S.2.2.1 t 2)]) rfl rfl rfl ?_
  refine ex_op pm_M52 (pc_q := 6) (st_q := [.int 4, .int a0, va_rf (S.2.2.1 t 2)]) rfl rfl rfl ?_
  refine ex_op pm_M52 (pc_q := 7) (st_q := [.int (a0 * 4), va_rf (S.2.2.1 t 2)]) rfl rfl rfl ?_
  refine ex_op pm_M52 (pc_q := 8) (st_q := [.int 1, .int (a0 * 4), va_rf (S.2.2.1 t 2)]) rfl rfl rfl ?_
  refine ex_op pm_M52 (pc_q := 9) (st_q := [.int ((a0 * 4) + 1), va_rf (S.2.2.1 t 2)]) rfl rfl rfl ?_
  refine ex_oc (o := S.2.2.1 t 2) (fun c2 => ?_) (fun b1 c2 => ?_)
  · refine ex_stc (st_q := [.int ((a0 * 4) + 1), .null]) (by rw [(congrArg va_rf c2 : va_rf (S.2.2.1 t 2) = Value.null)] <;> rfl) ?_
    exact ex_nul pm_M52 rfl (fun _ => pm_nocall2 rfl) rfl rfl rfl rfl (fun _ _ _ => rfl)
  refine ex_stc (st_q := [.int ((a0 * 4) + 1), .ref b1]) (by rw [(congrArg va_rf c2 : va_rf (S.2.2.1 t 2) = Value.ref b1)] <;> rfl) ?_
  refine ex_iald' pm_M52 (pc_q := 10) (v := S.1 b1 (((a0 * 4) + 1).toNatClampNeg)) rfl rfl rfl ?_
  exact ex_retI pm_M52 rfl (⟨_, rfl, v0 t a0 S b1 c2⟩)
set_option maxRecDepth 100000 in
set_option maxHeartbeats 4000000 in
/-- SilentTable$Meal.lookersAt -/
theorem ev53 {C : Nat → Int32 → Int32 → ex_S → Int32 → ex_S → Prop} {I5 : Nat → Int32 → Int32 → ex_S → Int32 → Int32 → ex_S → Prop} 
    (v0 : ∀ (t : Nat) (a0 : Int32) (a1 : Int32) (S : ex_S), I5 t a0 a1 S 0 0 S) 
    (v1 : ∀ (t : Nat) (a0 : Int32) (a1 : Int32) (S : ex_S) (x3 : Int32) (x4 : Int32) (T : ex_S), I5 t a0 a1 S x3 x4 T → T.1 t 0 ≤ x4 → C t a0 a1 S x3 T) 
    (v2 : ∀ (t : Nat) (a0 : Int32) (a1 : Int32) (S : ex_S) (x3 : Int32) (x4 : Int32) (T : ex_S), I5 t a0 a1 S x3 x4 T → ¬ (T.1 t 0 ≤ x4) → ∀ (b2 : Nat), T.2.2.1 t 3 = some b2 → ¬ T.1 b2 (((a1 * (T.1 t 0)) + x4).toNatClampNeg) = a0 → I5 t a0 a1 S x3 (x4 + 1) T) 
    (v3 : ∀ (t : Nat) (a0 : Int32) (a1 : Int32) (S : ex_S) (x3 : Int32) (x4 : Int32) (T : ex_S), I5 t a0 a1 S x3 x4 T → ¬ (T.1 t 0 ≤ x4) → ∀ (b2 : Nat), T.2.2.1 t 3 = some b2 → ¬ (¬ T.1 b2 (((a1 * (T.1 t 0)) + x4).toNatClampNeg) = a0) → I5 t a0 a1 S (x3 ||| (1 <<< (x4 &&& 31))) (x4 + 1) T) : es53 C := by
  intro N d t a0 a1 S
  have LL : ∀ N : Nat, (∀ (x3 : Int32) (x4 : Int32) (T : ex_S), I5 t a0 a1 S x3 x4 T → ex_P N d 53 5 [.ref t, .int a0, .int a1, .int x3, .int x4] [] T (fun r S_q => ∃ v, r = some (.int v) ∧ C t a0 a1 S v S_q)) := by
    intro N
    induction N with
    | zero => exact fun _ _ _ _ => ex_zero
    | succ N ih =>
      have ih5 := ih
      have L5 : ∀ (x3 : Int32) (x4 : Int32) (T : ex_S), I5 t a0 a1 S x3 x4 T → ex_P (N + 1) d 53 5 [.ref t, .int a0, .int a1, .int x3, .int x4] [] T (fun r S_q => ∃ v, r = some (.int v) ∧ C t a0 a1 S v S_q) := by
        intro x3 x4 T hI
        refine ex_lo pm_M53 (pc_q := 7) (ls_q := [.ref t, .int a0, .int a1, .int x3, .int x4]) (st_q := [.int x4]) rfl rfl rfl ?_
        refine ex_lo pm_M53 (pc_q := 8) (ls_q := [.ref t, .int a0, .int a1, .int x3, .int x4]) (st_q := [.ref t, .int x4]) rfl rfl rfl ?_
        refine ex_getI' pm_M53 (pc_q := 11) (v := T.1 t 0) rfl rfl rfl rfl rfl rfl ?_
        refine ex_icmp pm_M53 (t := 45) (pc_q := 14) rfl rfl rfl (fun c1 => ?_) (fun c1 => ?_)
        · -- T.1 t 0 ≤ x4
          refine ex_lo pm_M53 (pc_q := 46) (ls_q := [.ref t, .int a0, .int a1, .int x3, .int x4]) (st_q := [.int x3]) rfl rfl rfl ?_
          exact ex_retI pm_M53 rfl (⟨_, rfl, v1 t a0 a1 S x3 x4 T hI c1⟩)
        · -- not
          refine ex_lo pm_M53 (pc_q := 15) (ls_q := [.ref t, .int a0, .int a1, .int x3, .int x4]) (st_q := [.ref t]) rfl rfl rfl ?_
          refine ex_getR' pm_M53 (pc_q := 18) (v := T.2.2.1 t 3) rfl rfl rfl rfl rfl rfl ?_
          refine ex_lo pm_M53 (pc_q := 19) (ls_q := [.ref t, .int a0, .int a1, .int x3, .int x4]) (st_q := [.int a1, va_rf (T.2.2.1 t 3)]) rfl rfl rfl ?_
          refine ex_lo pm_M53 (pc_q := 20) (ls_q := [.ref t, .int a0, .int a1, .int x3, .int x4]) (st_q := [.ref t, .int a1, va_rf (T.2.2.1 t 3)]) rfl rfl rfl ?_
          refine ex_getI' pm_M53 (pc_q := 23) (v := T.1 t 0) rfl rfl rfl rfl rfl rfl ?_
          refine ex_op pm_M53 (pc_q := 24) (st_q := [.int (a1 * (T.1 t 0)), va_rf (T.2.2.1 t 3)]) rfl rfl rfl ?_
          refine ex_lo pm_M53 (pc_q := 26) (ls_q := [.ref t, .int a0, .int a1, .int x3, .int x4]) (st_q := [.int x4, .int (a1 * (T.1 t 0)), va_rf (T.2.2.1 t 3)]) rfl rfl rfl ?_
          refine ex_op pm_M53 (pc_q := 27) (st_q := [.int ((a1 * (T.1 t 0)) + x4), va_rf (T.2.2.1 t 3)]) rfl rfl rfl ?_
          refine ex_oc (o := T.2.2.1 t 3) (fun c3 => ?_) (fun b2 c3 => ?_)
          · refine ex_stc (st_q := [.int ((a1 * (T.1 t 0)) + x4), .null]) (by rw [(congrArg va_rf c3 : va_rf (T.2.2.1 t 3) = Value.null)] <;> rfl) ?_
            exact ex_nul pm_M53 rfl (fun _ => pm_nocall2 rfl) rfl rfl rfl rfl (fun _ _ _ => rfl)
          refine ex_stc (st_q := [.int ((a1 * (T.1 t 0)) + x4), .ref b2]) (by rw [(congrArg va_rf c3 : va_rf (T.2.2.1 t 3) = Value.ref b2)] <;> rfl) ?_
          refine ex_iald' pm_M53 (pc_q := 28) (v := T.1 b2 (((a1 * (T.1 t 0)) + x4).toNatClampNeg)) rfl rfl rfl ?_
          refine ex_lo pm_M53 (pc_q := 29) (ls_q := [.ref t, .int a0, .int a1, .int x3, .int x4]) (st_q := [.int a0, .int (T.1 b2 (((a1 * (T.1 t 0)) + x4).toNatClampNeg))]) rfl rfl rfl ?_
          refine ex_icmp pm_M53 (t := 39) (pc_q := 32) rfl rfl rfl (fun c4 => ?_) (fun c4 => ?_)
          · -- ¬ T.1 b2 (((a1 * (T.1 t 0)) + x4).toNatClampNeg) = a0
            refine ex_lo pm_M53 (pc_q := 42) (ls_q := [.ref t, .int a0, .int a1, .int x3, .int (x4 + 1)]) (st_q := []) rfl rfl rfl ?_
            refine ex_goS pm_M53 (pc_q := 5) (st_q := []) rfl rfl ?_
            exact ih5 x3 (x4 + 1) T (v2 t a0 a1 S x3 x4 T hI c1 b2 c3 c4)
          · -- not
            refine ex_lo pm_M53 (pc_q := 33) (ls_q := [.ref t, .int a0, .int a1, .int x3, .int x4]) (st_q := [.int x3]) rfl rfl rfl ?_
            refine ex_op pm_M53 (pc_q := 34) (st_q := [.int 1, .int x3]) rfl rfl rfl ?_
            refine ex_lo pm_M53 (pc_q := 36) (ls_q := [.ref t, .int a0, .int a1, .int x3, .int x4]) (st_q := [.int x4, .int 1, .int x3]) rfl rfl rfl ?_
            refine ex_op pm_M53 (pc_q := 37) (st_q := [.int (1 <<< (x4 &&& 31)), .int x3]) rfl rfl rfl ?_
            refine ex_op pm_M53 (pc_q := 38) (st_q := [.int (x3 ||| (1 <<< (x4 &&& 31)))]) rfl rfl rfl ?_
            refine ex_lo pm_M53 (pc_q := 39) (ls_q := [.ref t, .int a0, .int a1, .int (x3 ||| (1 <<< (x4 &&& 31))), .int x4]) (st_q := []) rfl rfl rfl ?_
            refine ex_lo pm_M53 (pc_q := 42) (ls_q := [.ref t, .int a0, .int a1, .int (x3 ||| (1 <<< (x4 &&& 31))), .int (x4 + 1)]) (st_q := []) rfl rfl rfl ?_
            refine ex_goS pm_M53 (pc_q := 5) (st_q := []) rfl rfl ?_
            exact ih5 (x3 ||| (1 <<< (x4 &&& 31))) (x4 + 1) T (v3 t a0 a1 S x3 x4 T hI c1 b2 c3 c4)
      exact L5
  have L5 := LL N
  refine ex_op pm_M53 (pc_q := 1) (st_q := [.int 0]) rfl rfl rfl ?_
  refine ex_lo pm_M53 (pc_q := 2) (ls_q := [.ref t, .int a0, .int a1, .int 0, pm_no]) (st_q := []) rfl rfl rfl ?_
  refine ex_op pm_M53 (pc_q := 3) (st_q := [.int 0]) rfl rfl rfl ?_
  refine ex_lo pm_M53 (pc_q := 5) (ls_q := [.ref t, .int a0, .int a1, .int 0, .int 0]) (st_q := []) rfl rfl rfl ?_
  exact L5 0 0 S (v0 t a0 a1 S)
set_option maxRecDepth 100000 in
set_option maxHeartbeats 4000000 in
/-- SilentTable$Meal.<init> -/
theorem ev48 {C : Nat → ex_S → ex_S → Prop} {C45 : Nat → Int32 → ex_S → Option Nat → ex_S → Prop} {C49 : Option Nat → Int32 → Int32 → Int32 → ex_S → ex_S → Prop} {C51 : Nat → Int32 → ex_S → Int32 → ex_S → Prop} {C52 : Nat → Int32 → ex_S → Int32 → ex_S → Prop} {C53 : Nat → Int32 → Int32 → ex_S → Int32 → ex_S → Prop} {I79 : Nat → ex_S → Int32 → ex_S → Prop} (H45 : es45 C45) (H49 : es49 C49) (H51 : es51 C51) (H52 : es52 C52) (H53 : es53 C53) 
    (v0 : ∀ (t : Nat) (S : ex_S) (r2 : Option Nat) (S3 : ex_S), C45 26 (((ex_sx S t 0 (S.1 25 8)).1 25 4) * 4) (ex_sx (ex_sx S t 0 (S.1 25 8)) t 1 ((ex_sx S t 0 (S.1 25 8)).1 25 4)) r2 S3 → ∀ (S7 : ex_S), C49 ((ex_new (ex_sz (ex_new (ex_sz S3 t 2 r2) ((((S3.1 t 1) + 1) * (S3.1 t 0)).toNatClampNeg)) t 3 (some S3.2.2.2.2)) (((ex_new (ex_sz S3 t 2 r2) ((((S3.1 t 1) + 1) * (S3.1 t 0)).toNatClampNeg)).1 t 1).toNatClampNeg)).2.2.1 t 3) 0 ((ex_new (ex_sz (ex_new (ex_sz S3 t 2 r2) ((((S3.1 t 1) + 1) * (S3.1 t 0)).toNatClampNeg)) t 3 (some S3.2.2.2.2)) (((ex_new (ex_sz S3 t 2 r2) ((((S3.1 t 1) + 1) * (S3.1 t 0)).toNatClampNeg)).1 t 1).toNatClampNeg)).1 t 0) (-1) (ex_sz (ex_new (ex_sz (ex_new (ex_sz S3 t 2 r2) ((((S3.1 t 1) + 1) * (S3.1 t 0)).toNatClampNeg)) t 3 (some S3.2.2.2.2)) (((ex_new (ex_sz S3 t 2 r2) ((((S3.1 t 1) + 1) * (S3.1 t 0)).toNatClampNeg)).1 t 1).toNatClampNeg)) t 4 (some ((ex_new (ex_sz S3 t 2 r2) ((((S3.1 t 1) + 1) * (S3.1 t 0)).toNatClampNeg)).2.2.2.2))) S7 → I79 t S 0 S7) 
    (v1 : ∀ (t : Nat) (S : ex_S) (x2 : Int32) (T : ex_S), I79 t S x2 T → T.1 t 1 ≤ x2 → C t S T) 
    (v2 : ∀ (t : Nat) (S : ex_S) (x2 : Int32) (T : ex_S), I79 t S x2 T → ¬ (T.1 t 1 ≤ x2) → ∀ (b10 : Nat), T.2.2.1 t 3 = some b10 → ∀ (r13 : Int32) (S14 : ex_S), C51 t x2 (ex_cp T b10 ((x2 * (T.1 t 0)).toNatClampNeg) b10 (((x2 + 1) * (T.1 t 0)).toNatClampNeg) ((T.1 t 0).toNatClampNeg)) r13 S14 → r13 = 0 → ∀ (r18 : Int32) (S19 : ex_S), C52 t x2 S14 r18 S19 → ∀ (b21 : Nat), S19.2.2.1 t 2 = some b21 → ∀ (b23 : Nat), S14.2.2.1 t 3 = some b23 → I79 t S (x2 + 1) (ex_sx S19 b23 ((((x2 + 1) * (S14.1 t 0)) + r18).toNatClampNeg) (S19.1 b21 (((x2 * 4) + 2).toNatClampNeg)))) 
    (v3 : ∀ (t : Nat) (S : ex_S) (x2 : Int32) (T : ex_S), I79 t S x2 T → ¬ (T.1 t 1 ≤ x2) → ∀ (b10 : Nat), T.2.2.1 t 3 = some b10 → ∀ (r13 : Int32) (S14 : ex_S), C51 t x2 (ex_cp T b10 ((x2 * (T.1 t 0)).toNatClampNeg) b10 (((x2 + 1) * (T.1 t 0)).toNatClampNeg) ((T.1 t 0).toNatClampNeg)) r13 S14 → ¬ (r13 = 0) → ∀ (r26 : Int32) (S27 : ex_S), C52 t x2 S14 r26 S27 → ∀ (r30 : Int32) (S31 : ex_S), C53 t r26 x2 S27 r30 S31 → ∀ (b33 : Nat), S14.2.2.1 t 4 = some b33 → I79 t S (x2 + 1) (ex_sx S31 b33 x2.toNatClampNeg r30)) : es48 C := by
  intro N d t S
  have LL : ∀ N : Nat, (∀ (x2 : Int32) (T : ex_S), I79 t S x2 T → ex_P N d 48 79 [.ref t, .ref 25, .int x2] [] T (fun r S_q => r = none ∧ C t S S_q)) := by
    intro N
    induction N with
    | zero => exact fun _ _ _ => ex_zero
    | succ N ih =>
      have ih79 := ih
      have L79 : ∀ (x2 : Int32) (T : ex_S), I79 t S x2 T → ex_P (N + 1) d 48 79 [.ref t, .ref 25, .int x2] [] T (fun r S_q => r = none ∧ C t S S_q) := by
        intro x2 T hI
        refine ex_lo pm_M48 (pc_q := 80) (ls_q := [.ref t, .ref 25, .int x2]) (st_q := [.int x2]) rfl rfl rfl ?_
        refine ex_lo pm_M48 (pc_q := 81) (ls_q := [.ref t, .ref 25, .int x2]) (st_q := [.ref t, .int x2]) rfl rfl rfl ?_
        refine ex_getI' pm_M48 (pc_q := 84) (v := T.1 t 1) rfl rfl rfl rfl rfl rfl ?_
        refine ex_icmp pm_M48 (t := 178) (pc_q := 87) rfl rfl rfl (fun c9 => ?_) (fun c9 => ?_)
        · -- T.1 t 1 ≤ x2
          exact ex_ret pm_M48 (r := none) rfl rfl (⟨rfl, v1 t S x2 T hI c9⟩)
        · -- not
          refine ex_lo pm_M48 (pc_q := 88) (ls_q := [.ref t, .ref 25, .int x2]) (st_q := [.ref t]) rfl rfl rfl ?_
          refine ex_getR' pm_M48 (pc_q := 91) (v := T.2.2.1 t 3) rfl rfl rfl rfl rfl rfl ?_
          refine ex_lo pm_M48 (pc_q := 92) (ls_q := [.ref t, .ref 25, .int x2]) (st_q := [.int x2, va_rf (T.2.2.1 t 3)]) rfl rfl rfl ?_
          refine ex_lo pm_M48 (pc_q := 93) (ls_q := [.ref t, .ref 25, .int x2]) (st_q := [.ref t, .int x2, va_rf (T.2.2.1 t 3)]) rfl rfl rfl ?_
          refine ex_getI' pm_M48 (pc_q := 96) (v := T.1 t 0) rfl rfl rfl rfl rfl rfl ?_
          refine ex_op pm_M48 (pc_q := 97) (st_q := [.int (x2 * (T.1 t 0)), va_rf (T.2.2.1 t 3)]) rfl rfl rfl ?_
          refine ex_lo pm_M48 (pc_q := 98) (ls_q := [.ref t, .ref 25, .int x2]) (st_q := [.ref t, .int (x2 * (T.1 t 0)), va_rf (T.2.2.1 t 3)]) rfl rfl rfl ?_
          refine ex_getR' pm_M48 (pc_q := 101) (v := T.2.2.1 t 3) rfl rfl rfl rfl rfl rfl ?_
          refine ex_lo pm_M48 (pc_q := 102) (ls_q := [.ref t, .ref 25, .int x2]) (st_q := [.int x2, va_rf (T.2.2.1 t 3), .int (x2 * (T.1 t 0)), va_rf (T.2.2.1 t 3)]) rfl rfl rfl ?_
          refine ex_op pm_M48 (pc_q := 103) (st_q := [.int 1, .int x2, va_rf (T.2.2.1 t 3), .int (x2 * (T.1 t 0)), va_rf (T.2.2.1 t 3)]) rfl rfl rfl ?_
          refine ex_op pm_M48 (pc_q := 104) (st_q := [.int (x2 + 1), va_rf (T.2.2.1 t 3), .int (x2 * (T.1 t 0)), va_rf (T.2.2.1 t 3)]) rfl rfl rfl ?_
          refine ex_lo pm_M48 (pc_q := 105) (ls_q := [.ref t, .ref 25, .int x2]) (st_q := [.ref t, .int (x2 + 1), va_rf (T.2.2.1 t 3), .int (x2 * (T.1 t 0)), va_rf (T.2.2.1 t 3)]) rfl rfl rfl ?_
          refine ex_getI' pm_M48 (pc_q := 108) (v := T.1 t 0) rfl rfl rfl rfl rfl rfl ?_
          refine ex_op pm_M48 (pc_q := 109) (st_q := [.int ((x2 + 1) * (T.1 t 0)), va_rf (T.2.2.1 t 3), .int (x2 * (T.1 t 0)), va_rf (T.2.2.1 t 3)]) rfl rfl rfl ?_
          refine ex_lo pm_M48 (pc_q := 110) (ls_q := [.ref t, .ref 25, .int x2]) (st_q := [.ref t, .int ((x2 + 1) * (T.1 t 0)), va_rf (T.2.2.1 t 3), .int (x2 * (T.1 t 0)), va_rf (T.2.2.1 t 3)]) rfl rfl rfl ?_
          refine ex_getI' pm_M48 (pc_q := 113) (v := T.1 t 0) rfl rfl rfl rfl rfl rfl ?_
          refine ex_oc (o := T.2.2.1 t 3) (fun c11 => ?_) (fun b10 c11 => ?_)
          · refine ex_stc (st_q := [.int (T.1 t 0), .int ((x2 + 1) * (T.1 t 0)), .null, .int (x2 * (T.1 t 0)), .null]) (by rw [(congrArg va_rf c11 : va_rf (T.2.2.1 t 3) = Value.null)] <;> rfl) ?_
            exact ex_cpn1 pm_M48 rfl rfl rfl
          refine ex_stc (st_q := [.int (T.1 t 0), .int ((x2 + 1) * (T.1 t 0)), .ref b10, .int (x2 * (T.1 t 0)), .ref b10]) (by rw [(congrArg va_rf c11 : va_rf (T.2.2.1 t 3) = Value.ref b10)] <;> rfl) ?_
          refine ex_copy pm_M48 (pc_q := 116) rfl rfl rfl rfl ?_
          show ex_P _ _ 48 116 [.ref t, .ref 25, .int x2] [] (ex_cp T b10 ((x2 * (T.1 t 0)).toNatClampNeg) b10 (((x2 + 1) * (T.1 t 0)).toNatClampNeg) ((T.1 t 0).toNatClampNeg)) _
          refine ex_lo pm_M48 (pc_q := 117) (ls_q := [.ref t, .ref 25, .int x2]) (st_q := [.ref t]) rfl rfl rfl ?_
          refine ex_lo pm_M48 (pc_q := 118) (ls_q := [.ref t, .ref 25, .int x2]) (st_q := [.int x2, .ref t]) rfl rfl rfl ?_
          refine ex_call pm_M48 (pc_q := 121) (ix := 53) (callee := 51) (np := 1) (kd := 0) (ra := [.int x2, .ref t]) (rest := []) rfl rfl rfl rfl pm_M51 rfl rfl rfl rfl (fun d12 => (H51 _ d12 t x2 (ex_cp T b10 ((x2 * (T.1 t 0)).toNatClampNeg) b10 (((x2 + 1) * (T.1 t 0)).toNatClampNeg) ((T.1 t 0).toNatClampNeg))).mono (fun r S14 e => ?_))
          obtain ⟨r13, rfl, h15⟩ := e
          show ex_P _ _ 48 121 [.ref t, .ref 25, .int x2] [.int r13] S14 _
          refine ex_ifc pm_M48 (t := 143) (pc_q := 124) rfl rfl rfl (fun c16 => ?_) (fun c16 => ?_)
          · -- r13 = 0
            refine ex_lo pm_M48 (pc_q := 144) (ls_q := [.ref t, .ref 25, .int x2]) (st_q := [.ref t]) rfl rfl rfl ?_
            refine ex_getR' pm_M48 (pc_q := 147) (v := S14.2.2.1 t 3) rfl rfl rfl rfl rfl rfl ?_
            refine ex_lo pm_M48 (pc_q := 148) (ls_q := [.ref t, .ref 25, .int x2]) (st_q := [.int x2, va_rf (S14.2.2.1 t 3)]) rfl rfl rfl ?_
            refine ex_op pm_M48 (pc_q := 149) (st_q := [.int 1, .int x2, va_rf (S14.2.2.1 t 3)]) rfl rfl rfl ?_
            refine ex_op pm_M48 (pc_q := 150) (st_q := [.int (x2 + 1), va_rf (S14.2.2.1 t 3)]) rfl rfl rfl ?_
            refine ex_lo pm_M48 (pc_q := 151) (ls_q := [.ref t, .ref 25, .int x2]) (st_q := [.ref t, .int (x2 + 1), va_rf (S14.2.2.1 t 3)]) rfl rfl rfl ?_
            refine ex_getI' pm_M48 (pc_q := 154) (v := S14.1 t 0) rfl rfl rfl rfl rfl rfl ?_
            refine ex_op pm_M48 (pc_q := 155) (st_q := [.int ((x2 + 1) * (S14.1 t 0)), va_rf (S14.2.2.1 t 3)]) rfl rfl rfl ?_
            refine ex_lo pm_M48 (pc_q := 156) (ls_q := [.ref t, .ref 25, .int x2]) (st_q := [.ref t, .int ((x2 + 1) * (S14.1 t 0)), va_rf (S14.2.2.1 t 3)]) rfl rfl rfl ?_
            refine ex_lo pm_M48 (pc_q := 157) (ls_q := [.ref t, .ref 25, .int x2]) (st_q := [.int x2, .ref t, .int ((x2 + 1) * (S14.1 t 0)), va_rf (S14.2.2.1 t 3)]) rfl rfl rfl ?_
            refine ex_call pm_M48 (pc_q := 160) (ix := 57) (callee := 52) (np := 1) (kd := 0) (ra := [.int x2, .ref t]) (rest := [.int ((x2 + 1) * (S14.1 t 0)), va_rf (S14.2.2.1 t 3)]) rfl rfl rfl rfl pm_M52 rfl rfl rfl rfl (fun d17 => (H52 _ d17 t x2 S14).mono (fun r S19 e => ?_))
            obtain ⟨r18, rfl, h20⟩ := e
            show ex_P _ _ 48 160 [.ref t, .ref 25, .int x2] [.int r18, .int ((x2 + 1) * (S14.1 t 0)), va_rf (S14.2.2.1 t 3)] S19 _
            refine ex_op pm_M48 (pc_q := 161) (st_q := [.int (((x2 + 1) * (S14.1 t 0)) + r18), va_rf (S14.2.2.1 t 3)]) rfl rfl rfl ?_
            refine ex_lo pm_M48 (pc_q := 162) (ls_q := [.ref t, .ref 25, .int x2]) (st_q := [.ref t, .int (((x2 + 1) * (S14.1 t 0)) + r18), va_rf (S14.2.2.1 t 3)]) rfl rfl rfl ?_
            refine ex_getR' pm_M48 (pc_q := 165) (v := S19.2.2.1 t 2) rfl rfl rfl rfl rfl rfl ?_
            refine ex_lo pm_M48 (pc_q := 166) (ls_q := [.ref t, .ref 25, .int x2]) (st_q := [.int x2, va_rf (S19.2.2.1 t 2), .int (((x2 + 1) * (S14.1 t 0)) + r18), va_rf (S14.2.2.1 t 3)]) rfl rfl rfl ?_
            refine ex_op pm_M48 (pc_q := 167) (st_q := [.int 4, .int x2, va_rf (S19.2.2.1 t 2), .int (((x2 + 1) * (S14.1 t 0)) + r18), va_rf (S14.2.2.1 t 3)]) rfl rfl rfl ?_
            refine ex_op pm_M48 (pc_q := 168) (st_q := [.int (x2 * 4), va_rf (S19.2.2.1 t 2), .int (((x2 + 1) * (S14.1 t 0)) + r18), va_rf (S14.2.2.1 t 3)]) rfl rfl rfl ?_
            refine ex_op pm_M48 (pc_q := 169) (st_q := [.int 2, .int (x2 * 4), va_rf (S19.2.2.1 t 2), .int (((x2 + 1) * (S14.1 t 0)) + r18), va_rf (S14.2.2.1 t 3)]) rfl rfl rfl ?_
            refine ex_op pm_M48 (pc_q := 170) (st_q := [.int ((x2 * 4) + 2), va_rf (S19.2.2.1 t 2), .int (((x2 + 1) * (S14.1 t 0)) + r18), va_rf (S14.2.2.1 t 3)]) rfl rfl rfl ?_
            refine ex_oc (o := S19.2.2.1 t 2) (fun c22 => ?_) (fun b21 c22 => ?_)
            · refine ex_stc (st_q := [.int ((x2 * 4) + 2), .null, .int (((x2 + 1) * (S14.1 t 0)) + r18), va_rf (S14.2.2.1 t 3)]) (by rw [(congrArg va_rf c22 : va_rf (S19.2.2.1 t 2) = Value.null)] <;> rfl) ?_
              exact ex_nul pm_M48 rfl (fun _ => pm_nocall2 rfl) rfl rfl rfl rfl (fun _ _ _ => rfl)
            refine ex_stc (st_q := [.int ((x2 * 4) + 2), .ref b21, .int (((x2 + 1) * (S14.1 t 0)) + r18), va_rf (S14.2.2.1 t 3)]) (by rw [(congrArg va_rf c22 : va_rf (S19.2.2.1 t 2) = Value.ref b21)] <;> rfl) ?_
            refine ex_iald' pm_M48 (pc_q := 171) (v := S19.1 b21 (((x2 * 4) + 2).toNatClampNeg)) rfl rfl rfl ?_
            refine ex_oc (o := S14.2.2.1 t 3) (fun c24 => ?_) (fun b23 c24 => ?_)
            · refine ex_stc (st_q := [.int (S19.1 b21 (((x2 * 4) + 2).toNatClampNeg)), .int (((x2 + 1) * (S14.1 t 0)) + r18), .null]) (by rw [(congrArg va_rf c24 : va_rf (S14.2.2.1 t 3) = Value.null)] <;> rfl) ?_
              exact ex_nul pm_M48 rfl (fun _ => pm_nocall2 rfl) rfl rfl rfl rfl (fun _ _ _ => rfl)
            refine ex_stc (st_q := [.int (S19.1 b21 (((x2 * 4) + 2).toNatClampNeg)), .int (((x2 + 1) * (S14.1 t 0)) + r18), .ref b23]) (by rw [(congrArg va_rf c24 : va_rf (S14.2.2.1 t 3) = Value.ref b23)] <;> rfl) ?_
            refine ex_iast pm_M48 (pc_q := 172) rfl rfl ?_
            refine ex_lo pm_M48 (pc_q := 175) (ls_q := [.ref t, .ref 25, .int (x2 + 1)]) (st_q := []) rfl rfl rfl ?_
            refine ex_goS pm_M48 (pc_q := 79) (st_q := []) rfl rfl ?_
            exact ih79 (x2 + 1) (ex_sx S19 b23 ((((x2 + 1) * (S14.1 t 0)) + r18).toNatClampNeg) (S19.1 b21 (((x2 * 4) + 2).toNatClampNeg))) (v2 t S x2 T hI c9 b10 c11 r13 S14 h15 c16 r18 S19 h20 b21 c22 b23 c24)
          · -- not
            refine ex_lo pm_M48 (pc_q := 125) (ls_q := [.ref t, .ref 25, .int x2]) (st_q := [.ref t]) rfl rfl rfl ?_
            refine ex_getR' pm_M48 (pc_q := 128) (v := S14.2.2.1 t 4) rfl rfl rfl rfl rfl rfl ?_
            refine ex_lo pm_M48 (pc_q := 129) (ls_q := [.ref t, .ref 25, .int x2]) (st_q := [.int x2, va_rf (S14.2.2.1 t 4)]) rfl rfl rfl ?_
            refine ex_lo pm_M48 (pc_q := 130) (ls_q := [.ref t, .ref 25, .int x2]) (st_q := [.ref t, .int x2, va_rf (S14.2.2.1 t 4)]) rfl rfl rfl ?_
            refine ex_lo pm_M48 (pc_q := 131) (ls_q := [.ref t, .ref 25, .int x2]) (st_q := [.ref t, .ref t, .int x2, va_rf (S14.2.2.1 t 4)]) rfl rfl rfl ?_
            refine ex_lo pm_M48 (pc_q := 132) (ls_q := [.ref t, .ref 25, .int x2]) (st_q := [.int x2, .ref t, .ref t, .int x2, va_rf (S14.2.2.1 t 4)]) rfl rfl rfl ?_
            refine ex_call pm_M48 (pc_q := 135) (ix := 57) (callee := 52) (np := 1) (kd := 0) (ra := [.int x2, .ref t]) (rest := [.ref t, .int x2, va_rf (S14.2.2.1 t 4)]) rfl rfl rfl rfl pm_M52 rfl rfl rfl rfl (fun d25 => (H52 _ d25 t x2 S14).mono (fun r S27 e => ?_))
            obtain ⟨r26, rfl, h28⟩ := e
            show ex_P _ _ 48 135 [.ref t, .ref 25, .int x2] [.int r26, .ref t, .int x2, va_rf (S14.2.2.1 t 4)] S27 _
            refine ex_lo pm_M48 (pc_q := 136) (ls_q := [.ref t, .ref 25, .int x2]) (st_q := [.int x2, .int r26, .ref t, .int x2, va_rf (S14.2.2.1 t 4)]) rfl rfl rfl ?_
            refine ex_call pm_M48 (pc_q := 139) (ix := 61) (callee := 53) (np := 2) (kd := 0) (ra := [.int x2, .int r26, .ref t]) (rest := [.int x2, va_rf (S14.2.2.1 t 4)]) rfl rfl rfl rfl pm_M53 rfl rfl rfl rfl (fun d29 => (H53 _ d29 t r26 x2 S27).mono (fun r S31 e => ?_))
            obtain ⟨r30, rfl, h32⟩ := e
            show ex_P _ _ 48 139 [.ref t, .ref 25, .int x2] [.int r30, .int x2, va_rf (S14.2.2.1 t 4)] S31 _
            refine ex_oc (o := S14.2.2.1 t 4) (fun c34 => ?_) (fun b33 c34 => ?_)
            · refine ex_stc (st_q := [.int r30, .int x2, .null]) (by rw [(congrArg va_rf c34 : va_rf (S14.2.2.1 t 4) = Value.null)] <;> rfl) ?_
              exact ex_nul pm_M48 rfl (fun _ => pm_nocall2 rfl) rfl rfl rfl rfl (fun _ _ _ => rfl)
            refine ex_stc (st_q := [.int r30, .int x2, .ref b33]) (by rw [(congrArg va_rf c34 : va_rf (S14.2.2.1 t 4) = Value.ref b33)] <;> rfl) ?_
            refine ex_iast pm_M48 (pc_q := 140) rfl rfl ?_
            refine ex_br pm_M48 (pc_q := 172) (st_q := []) rfl rfl ?_
            refine ex_lo pm_M48 (pc_q := 175) (ls_q := [.ref t, .ref 25, .int (x2 + 1)]) (st_q := []) rfl rfl rfl ?_
            refine ex_goS pm_M48 (pc_q := 79) (st_q := []) rfl rfl ?_
            exact ih79 (x2 + 1) (ex_sx S31 b33 x2.toNatClampNeg r30) (v3 t S x2 T hI c9 b10 c11 r13 S14 h15 c16 r26 S27 h28 r30 S31 h32 b33 c34)
      exact L79
  have L79 := LL N
  refine ex_lo pm_M48 (pc_q := 1) (ls_q := [.ref t, .ref 25, pm_no]) (st_q := [.ref t]) rfl rfl rfl ?_
  refine ex_obj pm_M48 (pc_q := 4) rfl rfl rfl ?_
  refine ex_lo pm_M48 (pc_q := 5) (ls_q := [.ref t, .ref 25, pm_no]) (st_q := [.ref t]) rfl rfl rfl ?_
  refine ex_lo pm_M48 (pc_q := 6) (ls_q := [.ref t, .ref 25, pm_no]) (st_q := [.ref 25, .ref t]) rfl rfl rfl ?_
  refine ex_getI' pm_M48 (pc_q := 9) (v := S.1 25 8) rfl rfl rfl rfl rfl rfl ?_
  refine ex_putI pm_M48 (pc_q := 12) rfl rfl rfl rfl rfl ?_
  refine ex_lo pm_M48 (pc_q := 13) (ls_q := [.ref t, .ref 25, pm_no]) (st_q := [.ref t]) rfl rfl rfl ?_
  refine ex_lo pm_M48 (pc_q := 14) (ls_q := [.ref t, .ref 25, pm_no]) (st_q := [.ref 25, .ref t]) rfl rfl rfl ?_
  refine ex_getI' pm_M48 (pc_q := 17) (v := (ex_sx S t 0 (S.1 25 8)).1 25 4) rfl rfl rfl rfl rfl rfl ?_
  refine ex_putI pm_M48 (pc_q := 20) rfl rfl rfl rfl rfl ?_
  refine ex_lo pm_M48 (pc_q := 21) (ls_q := [.ref t, .ref 25, pm_no]) (st_q := [.ref t]) rfl rfl rfl ?_
  refine ex_lo pm_M48 (pc_q := 22) (ls_q := [.ref t, .ref 25, pm_no]) (st_q := [.ref 25, .ref t]) rfl rfl rfl ?_
  refine ex_getK pm_M48 (pc_q := 25) (j := 16) (b := 26) rfl rfl rfl rfl rfl ?_
  refine ex_lo pm_M48 (pc_q := 26) (ls_q := [.ref t, .ref 25, pm_no]) (st_q := [.ref t, .ref 26, .ref t]) rfl rfl rfl ?_
  refine ex_getI' pm_M48 (pc_q := 29) (v := (ex_sx S t 0 (S.1 25 8)).1 25 4) rfl rfl rfl rfl rfl (by first | rfl | exact if_pos ⟨rfl, rfl⟩) ?_
  refine ex_op pm_M48 (pc_q := 30) (st_q := [.int 4, .int ((ex_sx S t 0 (S.1 25 8)).1 25 4), .ref 26, .ref t]) rfl rfl rfl ?_
  refine ex_op pm_M48 (pc_q := 31) (st_q := [.int (((ex_sx S t 0 (S.1 25 8)).1 25 4) * 4), .ref 26, .ref t]) rfl rfl rfl ?_
  refine ex_call pm_M48 (pc_q := 34) (ix := 28) (callee := 45) (np := 2) (kd := 2) (ra := [.int (((ex_sx S t 0 (S.1 25 8)).1 25 4) * 4), .ref 26]) (rest := [.ref t]) rfl rfl rfl rfl pm_M45 rfl rfl rfl rfl (fun d1 => (H45 _ d1 26 (((ex_sx S t 0 (S.1 25 8)).1 25 4) * 4) (ex_sx (ex_sx S t 0 (S.1 25 8)) t 1 ((ex_sx S t 0 (S.1 25 8)).1 25 4))).mono (fun r S3 e => ?_))
  obtain ⟨r2, rfl, h4⟩ := e
  show ex_P _ _ 48 34 [.ref t, .ref 25, pm_no] [va_rf r2, .ref t] S3 _
  refine ex_putR pm_M48 (pc_q := 37) (x := r2) rfl rfl rfl rfl rfl rfl ?_
  refine ex_lo pm_M48 (pc_q := 38) (ls_q := [.ref t, .ref 25, pm_no]) (st_q := [.ref t]) rfl rfl rfl ?_
  refine ex_lo pm_M48 (pc_q := 39) (ls_q := [.ref t, .ref 25, pm_no]) (st_q := [.ref t, .ref t]) rfl rfl rfl ?_
  refine ex_getI' pm_M48 (pc_q := 42) (v := S3.1 t 1) rfl rfl rfl rfl rfl rfl ?_
  refine ex_op pm_M48 (pc_q := 43) (st_q := [.int 1, .int (S3.1 t 1), .ref t]) rfl rfl rfl ?_
  refine ex_op pm_M48 (pc_q := 44) (st_q := [.int ((S3.1 t 1) + 1), .ref t]) rfl rfl rfl ?_
  refine ex_lo pm_M48 (pc_q := 45) (ls_q := [.ref t, .ref 25, pm_no]) (st_q := [.ref t, .int ((S3.1 t 1) + 1), .ref t]) rfl rfl rfl ?_
  refine ex_getI' pm_M48 (pc_q := 48) (v := S3.1 t 0) rfl rfl rfl rfl rfl rfl ?_
  refine ex_op pm_M48 (pc_q := 49) (st_q := [.int (((S3.1 t 1) + 1) * (S3.1 t 0)), .ref t]) rfl rfl rfl ?_
  refine ex_newa pm_M48 (pc_q := 51) rfl rfl rfl ?_
  show ex_P _ _ 48 51 [.ref t, .ref 25, pm_no] [.ref S3.2.2.2.2, .ref t] (ex_new (ex_sz S3 t 2 r2) ((((S3.1 t 1) + 1) * (S3.1 t 0)).toNatClampNeg)) _
  refine ex_putR pm_M48 (pc_q := 54) (x := some S3.2.2.2.2) rfl rfl rfl rfl rfl rfl ?_
  refine ex_lo pm_M48 (pc_q := 55) (ls_q := [.ref t, .ref 25, pm_no]) (st_q := [.ref t]) rfl rfl rfl ?_
  refine ex_lo pm_M48 (pc_q := 56) (ls_q := [.ref t, .ref 25, pm_no]) (st_q := [.ref t, .ref t]) rfl rfl rfl ?_
  refine ex_getI' pm_M48 (pc_q := 59) (v := (ex_new (ex_sz S3 t 2 r2) ((((S3.1 t 1) + 1) * (S3.1 t 0)).toNatClampNeg)).1 t 1) rfl rfl rfl rfl rfl rfl ?_
  refine ex_newa pm_M48 (pc_q := 61) rfl rfl rfl ?_
  show ex_P _ _ 48 61 [.ref t, .ref 25, pm_no] [.ref ((ex_new (ex_sz S3 t 2 r2) ((((S3.1 t 1) + 1) * (S3.1 t 0)).toNatClampNeg)).2.2.2.2), .ref t] (ex_new (ex_sz (ex_new (ex_sz S3 t 2 r2) ((((S3.1 t 1) + 1) * (S3.1 t 0)).toNatClampNeg)) t 3 (some S3.2.2.2.2)) (((ex_new (ex_sz S3 t 2 r2) ((((S3.1 t 1) + 1) * (S3.1 t 0)).toNatClampNeg)).1 t 1).toNatClampNeg)) _
  refine ex_putR pm_M48 (pc_q := 64) (x := some ((ex_new (ex_sz S3 t 2 r2) ((((S3.1 t 1) + 1) * (S3.1 t 0)).toNatClampNeg)).2.2.2.2)) rfl rfl rfl rfl rfl rfl ?_
  refine ex_lo pm_M48 (pc_q := 65) (ls_q := [.ref t, .ref 25, pm_no]) (st_q := [.ref t]) rfl rfl rfl ?_
  refine ex_getR' pm_M48 (pc_q := 68) (v := (ex_new (ex_sz (ex_new (ex_sz S3 t 2 r2) ((((S3.1 t 1) + 1) * (S3.1 t 0)).toNatClampNeg)) t 3 (some S3.2.2.2.2)) (((ex_new (ex_sz S3 t 2 r2) ((((S3.1 t 1) + 1) * (S3.1 t 0)).toNatClampNeg)).1 t 1).toNatClampNeg)).2.2.1 t 3) rfl rfl rfl rfl rfl (by first | rfl | exact if_neg (fun z => absurd z.2 (by decide))) ?_
  refine ex_op pm_M48 (pc_q := 69) (st_q := [.int 0, va_rf ((ex_new (ex_sz (ex_new (ex_sz S3 t 2 r2) ((((S3.1 t 1) + 1) * (S3.1 t 0)).toNatClampNeg)) t 3 (some S3.2.2.2.2)) (((ex_new (ex_sz S3 t 2 r2) ((((S3.1 t 1) + 1) * (S3.1 t 0)).toNatClampNeg)).1 t 1).toNatClampNeg)).2.2.1 t 3)]) rfl rfl rfl ?_
  refine ex_lo pm_M48 (pc_q := 70) (ls_q := [.ref t, .ref 25, pm_no]) (st_q := [.ref t, .int 0, va_rf ((ex_new (ex_sz (ex_new (ex_sz S3 t 2 r2) ((((S3.1 t 1) + 1) * (S3.1 t 0)).toNatClampNeg)) t 3 (some S3.2.2.2.2)) (((ex_new (ex_sz S3 t 2 r2) ((((S3.1 t 1) + 1) * (S3.1 t 0)).toNatClampNeg)).1 t 1).toNatClampNeg)).2.2.1 t 3)]) rfl rfl rfl ?_
  refine ex_getI' pm_M48 (pc_q := 73) (v := (ex_new (ex_sz (ex_new (ex_sz S3 t 2 r2) ((((S3.1 t 1) + 1) * (S3.1 t 0)).toNatClampNeg)) t 3 (some S3.2.2.2.2)) (((ex_new (ex_sz S3 t 2 r2) ((((S3.1 t 1) + 1) * (S3.1 t 0)).toNatClampNeg)).1 t 1).toNatClampNeg)).1 t 0) rfl rfl rfl rfl rfl rfl ?_
  refine ex_op pm_M48 (pc_q := 74) (st_q := [.int (-1), .int ((ex_new (ex_sz (ex_new (ex_sz S3 t 2 r2) ((((S3.1 t 1) + 1) * (S3.1 t 0)).toNatClampNeg)) t 3 (some S3.2.2.2.2)) (((ex_new (ex_sz S3 t 2 r2) ((((S3.1 t 1) + 1) * (S3.1 t 0)).toNatClampNeg)).1 t 1).toNatClampNeg)).1 t 0), .int 0, va_rf ((ex_new (ex_sz (ex_new (ex_sz S3 t 2 r2) ((((S3.1 t 1) + 1) * (S3.1 t 0)).toNatClampNeg)) t 3 (some S3.2.2.2.2)) (((ex_new (ex_sz S3 t 2 r2) ((((S3.1 t 1) + 1) * (S3.1 t 0)).toNatClampNeg)).1 t 1).toNatClampNeg)).2.2.1 t 3)]) rfl rfl rfl ?_
  refine ex_call pm_M48 (pc_q := 77) (ix := 43) (callee := 49) (np := 4) (kd := 2) (ra := [.int (-1), .int ((ex_new (ex_sz (ex_new (ex_sz S3 t 2 r2) ((((S3.1 t 1) + 1) * (S3.1 t 0)).toNatClampNeg)) t 3 (some S3.2.2.2.2)) (((ex_new (ex_sz S3 t 2 r2) ((((S3.1 t 1) + 1) * (S3.1 t 0)).toNatClampNeg)).1 t 1).toNatClampNeg)).1 t 0), .int 0, va_rf ((ex_new (ex_sz (ex_new (ex_sz S3 t 2 r2) ((((S3.1 t 1) + 1) * (S3.1 t 0)).toNatClampNeg)) t 3 (some S3.2.2.2.2)) (((ex_new (ex_sz S3 t 2 r2) ((((S3.1 t 1) + 1) * (S3.1 t 0)).toNatClampNeg)).1 t 1).toNatClampNeg)).2.2.1 t 3)]) (rest := []) rfl rfl rfl rfl pm_M49 rfl rfl (by cases ((ex_new (ex_sz (ex_new (ex_sz S3 t 2 r2) ((((S3.1 t 1) + 1) * (S3.1 t 0)).toNatClampNeg)) t 3 (some S3.2.2.2.2)) (((ex_new (ex_sz S3 t 2 r2) ((((S3.1 t 1) + 1) * (S3.1 t 0)).toNatClampNeg)).1 t 1).toNatClampNeg)).2.2.1 t 3) <;> rfl) rfl (fun d5 => (H49 _ d5 ((ex_new (ex_sz (ex_new (ex_sz S3 t 2 r2) ((((S3.1 t 1) + 1) * (S3.1 t 0)).toNatClampNeg)) t 3 (some S3.2.2.2.2)) (((ex_new (ex_sz S3 t 2 r2) ((((S3.1 t 1) + 1) * (S3.1 t 0)).toNatClampNeg)).1 t 1).toNatClampNeg)).2.2.1 t 3) 0 ((ex_new (ex_sz (ex_new (ex_sz S3 t 2 r2) ((((S3.1 t 1) + 1) * (S3.1 t 0)).toNatClampNeg)) t 3 (some S3.2.2.2.2)) (((ex_new (ex_sz S3 t 2 r2) ((((S3.1 t 1) + 1) * (S3.1 t 0)).toNatClampNeg)).1 t 1).toNatClampNeg)).1 t 0) (-1) (ex_sz (ex_new (ex_sz (ex_new (ex_sz S3 t 2 r2) ((((S3.1 t 1) + 1) * (S3.1 t 0)).toNatClampNeg)) t 3 (some S3.2.2.2.2)) (((ex_new (ex_sz S3 t 2 r2) ((((S3.1 t 1) + 1) * (S3.1 t 0)).toNatClampNeg)).1 t 1).toNatClampNeg)) t 4 (some ((ex_new (ex_sz S3 t 2 r2) ((((S3.1 t 1) + 1) * (S3.1 t 0)).toNatClampNeg)).2.2.2.2)))).mono (fun r S7 e => ?_))
  obtain ⟨rfl, h8⟩ := e
  show ex_P _ _ 48 77 [.ref t, .ref 25, pm_no] [] S7 _
  refine ex_op pm_M48 (pc_q := 78) (st_q := [.int 0]) rfl rfl rfl ?_
  refine ex_lo pm_M48 (pc_q := 79) (ls_q := [.ref t, .ref 25, .int 0]) (st_q := []) rfl rfl rfl ?_
  exact L79 0 S7 (v0 t S r2 S3 h4 S7 h8)
set_option maxRecDepth 100000 in
set_option maxHeartbeats 4000000 in
/-- SilentTable$House.<init> -/
theorem ev54 {C : Nat → ex_S → ex_S → Prop} {C45 : Nat → Int32 → ex_S → Option Nat → ex_S → Prop} (H45 : es45 C45) 
    (v0 : ∀ (t : Nat) (S : ex_S) (r2 : Option Nat) (S3 : ex_S), C45 26 ((S.1 25 4) * 4) (ex_sx S t 0 (S.1 25 4)) r2 S3 → C t S (ex_sz S3 t 1 r2)) : es54 C := by
  intro N d t S
  refine ex_lo pm_M54 (pc_q := 1) (ls_q := [.ref t, .ref 25]) (st_q := [.ref t]) rfl rfl rfl ?_
  refine ex_obj pm_M54 (pc_q := 4) rfl rfl rfl ?_
  refine ex_lo pm_M54 (pc_q := 5) (ls_q := [.ref t, .ref 25]) (st_q := [.ref t]) rfl rfl rfl ?_
  refine ex_lo pm_M54 (pc_q := 6) (ls_q := [.ref t, .ref 25]) (st_q := [.ref 25, .ref t]) rfl rfl rfl ?_
  refine ex_getI' pm_M54 (pc_q := 9) (v := S.1 25 4) rfl rfl rfl rfl rfl rfl ?_
  refine ex_putI pm_M54 (pc_q := 12) rfl rfl rfl rfl rfl ?_
  refine ex_lo pm_M54 (pc_q := 13) (ls_q := [.ref t, .ref 25]) (st_q := [.ref t]) rfl rfl rfl ?_
  refine ex_lo pm_M54 (pc_q := 14) (ls_q := [.ref t, .ref 25]) (st_q := [.ref 25, .ref t]) rfl rfl rfl ?_
  refine ex_getK pm_M54 (pc_q := 17) (j := 16) (b := 26) rfl rfl rfl rfl rfl ?_
  refine ex_lo pm_M54 (pc_q := 18) (ls_q := [.ref t, .ref 25]) (st_q := [.ref t, .ref 26, .ref t]) rfl rfl rfl ?_
  refine ex_getI' pm_M54 (pc_q := 21) (v := S.1 25 4) rfl rfl rfl rfl rfl (by first | rfl | exact if_pos ⟨rfl, rfl⟩) ?_
  refine ex_op pm_M54 (pc_q := 22) (st_q := [.int 4, .int (S.1 25 4), .ref 26, .ref t]) rfl rfl rfl ?_
  refine ex_op pm_M54 (pc_q := 23) (st_q := [.int ((S.1 25 4) * 4), .ref 26, .ref t]) rfl rfl rfl ?_
  refine ex_call pm_M54 (pc_q := 26) (ix := 24) (callee := 45) (np := 2) (kd := 2) (ra := [.int ((S.1 25 4) * 4), .ref 26]) (rest := [.ref t]) rfl rfl rfl rfl pm_M45 rfl rfl rfl rfl (fun d1 => (H45 _ d1 26 ((S.1 25 4) * 4) (ex_sx S t 0 (S.1 25 4))).mono (fun r S3 e => ?_))
  obtain ⟨r2, rfl, h4⟩ := e
  show ex_P _ _ 54 26 [.ref t, .ref 25] [va_rf r2, .ref t] S3 _
  refine ex_putR pm_M54 (pc_q := 29) (x := r2) rfl rfl rfl rfl rfl rfl ?_
  exact ex_ret pm_M54 (r := none) rfl rfl (⟨rfl, v0 t S r2 S3 h4⟩)
set_option maxRecDepth 100000 in
set_option maxHeartbeats 4000000 in
/-- SilentTable.keepText -/
theorem ev43 {C : Int32 → Int32 → ex_S → ex_S → Prop} {C44 : Nat → ex_S → ex_S → Prop} {C47 : Nat → ex_S → ex_S → Prop} {C48 : Nat → ex_S → ex_S → Prop} {C54 : Nat → ex_S → ex_S → Prop} (H44 : es44 C44) (H47 : es47 C47) (H48 : es48 C48) (H54 : es54 C54) 
    (v0 : ∀ (a0 : Int32) (a1 : Int32) (S : ex_S), a0 = 0 → 72 ≤ S.2.2.2.2 → ∀ (S7 : ex_S), C44 S.2.2.2.2 (ex_new S 0) S7 → C a0 a1 S (ex_sz S7 19 a1.toNatClampNeg (some S.2.2.2.2))) 
    (v1 : ∀ (a0 : Int32) (a1 : Int32) (S : ex_S), ¬ (a0 = 0) → a0 = 1 → 72 ≤ S.2.2.2.2 → ∀ (S13 : ex_S), C47 S.2.2.2.2 (ex_new S 0) S13 → C a0 a1 S (ex_sz S13 20 a1.toNatClampNeg (some S.2.2.2.2))) 
    (v2 : ∀ (a0 : Int32) (a1 : Int32) (S : ex_S), ¬ (a0 = 0) → ¬ (a0 = 1) → a0 = 2 → 72 ≤ S.2.2.2.2 → ∀ (S19 : ex_S), C48 S.2.2.2.2 (ex_new S 0) S19 → C a0 a1 S (ex_sz S19 21 a1.toNatClampNeg (some S.2.2.2.2))) 
    (v3 : ∀ (a0 : Int32) (a1 : Int32) (S : ex_S), ¬ (a0 = 0) → ¬ (a0 = 1) → ¬ (a0 = 2) → 72 ≤ S.2.2.2.2 → ∀ (S24 : ex_S), C54 S.2.2.2.2 (ex_new S 0) S24 → C a0 a1 S (ex_sz S24 22 a1.toNatClampNeg (some S.2.2.2.2))) : es43 C := by
  intro N d a0 a1 S
  refine ex_lo pm_M43 (pc_q := 1) (ls_q := [.ref 16, .int a0, .int a1]) (st_q := [.int a0]) rfl rfl rfl ?_
  refine ex_sw pm_M43 rfl rfl rfl rfl rfl (fun _ _ _ => rfl) (fun z1 hz2 => ?_)
  by_cases c3 : a0 = 0
  · rw [c3] at hz2
    cases (show some (28, []) = some z1 from hz2)
    show ex_P _ _ 43 28 [.ref 16, .int a0, .int a1] [] S _
    refine ex_lo pm_M43 (pc_q := 29) (ls_q := [.ref 16, .int a0, .int a1]) (st_q := [.ref 16]) rfl rfl rfl ?_
    refine ex_getK pm_M43 (pc_q := 32) (j := 0) (b := 17) rfl rfl rfl rfl rfl ?_
    refine ex_getK pm_M43 (pc_q := 35) (j := 10) (b := 19) rfl rfl rfl rfl rfl ?_
    refine ex_lo pm_M43 (pc_q := 36) (ls_q := [.ref 16, .int a0, .int a1]) (st_q := [.int a1, .ref 19]) rfl rfl rfl ?_
    refine ex_top (fun k4 => ?_)
    change 72 ≤ S.2.2.2.2 at k4
    refine ex_new1 pm_M43 (pc_q := 39) rfl rfl rfl rfl ?_
    show ex_P _ _ 43 39 [.ref 16, .int a0, .int a1] [.ref S.2.2.2.2, .int a1, .ref 19] (ex_new S 0) _
    refine ex_op pm_M43 (pc_q := 40) (st_q := [.ref S.2.2.2.2, .ref S.2.2.2.2, .int a1, .ref 19]) rfl rfl rfl ?_
    refine ex_lo pm_M43 (pc_q := 41) (ls_q := [.ref 16, .int a0, .int a1]) (st_q := [.ref 16, .ref S.2.2.2.2, .ref S.2.2.2.2, .int a1, .ref 19]) rfl rfl rfl ?_
    refine ex_getK pm_M43 (pc_q := 44) (j := 2) (b := 25) rfl rfl rfl rfl rfl ?_
    refine ex_call pm_M43 (pc_q := 47) (ix := 104) (callee := 44) (np := 1) (kd := 1) (ra := [.ref 25, .ref S.2.2.2.2]) (rest := [.ref S.2.2.2.2, .int a1, .ref 19]) rfl rfl rfl rfl pm_M44 rfl rfl rfl rfl (fun d5 => (H44 _ d5 S.2.2.2.2 (ex_new S 0)).mono (fun r S7 e => ?_))
    obtain ⟨rfl, h8⟩ := e
    show ex_P _ _ 43 47 [.ref 16, .int a0, .int a1] [.ref S.2.2.2.2, .int a1, .ref 19] S7 _
    refine ex_aast pm_M43 (pc_q := 48) (o := some S.2.2.2.2) rfl rfl rfl ?_
    refine ex_br pm_M43 (pc_q := 117) (st_q := []) rfl rfl ?_
    exact ex_ret pm_M43 (r := none) rfl rfl (⟨rfl, v0 a0 a1 S c3 k4 S7 h8⟩)
  by_cases c9 : a0 = 1
  · rw [c9] at hz2
    cases (show some (51, []) = some z1 from hz2)
    show ex_P _ _ 43 51 [.ref 16, .int a0, .int a1] [] S _
    refine ex_lo pm_M43 (pc_q := 52) (ls_q := [.ref 16, .int a0, .int a1]) (st_q := [.ref 16]) rfl rfl rfl ?_
    refine ex_getK pm_M43 (pc_q := 55) (j := 0) (b := 17) rfl rfl rfl rfl rfl ?_
    refine ex_getK pm_M43 (pc_q := 58) (j := 11) (b := 20) rfl rfl rfl rfl rfl ?_
    refine ex_lo pm_M43 (pc_q := 59) (ls_q := [.ref 16, .int a0, .int a1]) (st_q := [.int a1, .ref 20]) rfl rfl rfl ?_
    refine ex_top (fun k10 => ?_)
    change 72 ≤ S.2.2.2.2 at k10
    refine ex_new1 pm_M43 (pc_q := 62) rfl rfl rfl rfl ?_
    show ex_P _ _ 43 62 [.ref 16, .int a0, .int a1] [.ref S.2.2.2.2, .int a1, .ref 20] (ex_new S 0) _
    refine ex_op pm_M43 (pc_q := 63) (st_q := [.ref S.2.2.2.2, .ref S.2.2.2.2, .int a1, .ref 20]) rfl rfl rfl ?_
    refine ex_lo pm_M43 (pc_q := 64) (ls_q := [.ref 16, .int a0, .int a1]) (st_q := [.ref 16, .ref S.2.2.2.2, .ref S.2.2.2.2, .int a1, .ref 20]) rfl rfl rfl ?_
    refine ex_getK pm_M43 (pc_q := 67) (j := 2) (b := 25) rfl rfl rfl rfl rfl ?_
    refine ex_call pm_M43 (pc_q := 70) (ix := 113) (callee := 47) (np := 1) (kd := 1) (ra := [.ref 25, .ref S.2.2.2.2]) (rest := [.ref S.2.2.2.2, .int a1, .ref 20]) rfl rfl rfl rfl pm_M47 rfl rfl rfl rfl (fun d11 => (H47 _ d11 S.2.2.2.2 (ex_new S 0)).mono (fun r S13 e => ?_))
    obtain ⟨rfl, h14⟩ := e
    show ex_P _ _ 43 70 [.ref 16, .int a0, .int a1] [.ref S.2.2.2.2, .int a1, .ref 20] S13 _
    refine ex_aast pm_M43 (pc_q := 71) (o := some S.2.2.2.2) rfl rfl rfl ?_
    refine ex_br pm_M43 (pc_q := 117) (st_q := []) rfl rfl ?_
    exact ex_ret pm_M43 (r := none) rfl rfl (⟨rfl, v1 a0 a1 S c3 c9 k10 S13 h14⟩)
  by_cases c15 : a0 = 2
  · rw [c15] at hz2
    cases (show some (74, []) = some z1 from hz2)
    show ex_P _ _ 43 74 [.ref 16, .int a0, .int a1] [] S _
    refine ex_lo pm_M43 (pc_q := 75) (ls_q := [.ref 16, .int a0, .int a1]) (st_q := [.ref 16]) rfl rfl rfl ?_
    refine ex_getK pm_M43 (pc_q := 78) (j := 0) (b := 17) rfl rfl rfl rfl rfl ?_
    refine ex_getK pm_M43 (pc_q := 81) (j := 12) (b := 21) rfl rfl rfl rfl rfl ?_
    refine ex_lo pm_M43 (pc_q := 82) (ls_q := [.ref 16, .int a0, .int a1]) (st_q := [.int a1, .ref 21]) rfl rfl rfl ?_
    refine ex_top (fun k16 => ?_)
    change 72 ≤ S.2.2.2.2 at k16
    refine ex_new1 pm_M43 (pc_q := 85) rfl rfl rfl rfl ?_
    show ex_P _ _ 43 85 [.ref 16, .int a0, .int a1] [.ref S.2.2.2.2, .int a1, .ref 21] (ex_new S 0) _
    refine ex_op pm_M43 (pc_q := 86) (st_q := [.ref S.2.2.2.2, .ref S.2.2.2.2, .int a1, .ref 21]) rfl rfl rfl ?_
    refine ex_lo pm_M43 (pc_q := 87) (ls_q := [.ref 16, .int a0, .int a1]) (st_q := [.ref 16, .ref S.2.2.2.2, .ref S.2.2.2.2, .int a1, .ref 21]) rfl rfl rfl ?_
    refine ex_getK pm_M43 (pc_q := 90) (j := 2) (b := 25) rfl rfl rfl rfl rfl ?_
    refine ex_call pm_M43 (pc_q := 93) (ix := 120) (callee := 48) (np := 1) (kd := 1) (ra := [.ref 25, .ref S.2.2.2.2]) (rest := [.ref S.2.2.2.2, .int a1, .ref 21]) rfl rfl rfl rfl pm_M48 rfl rfl rfl rfl (fun d17 => (H48 _ d17 S.2.2.2.2 (ex_new S 0)).mono (fun r S19 e => ?_))
    obtain ⟨rfl, h20⟩ := e
    show ex_P _ _ 43 93 [.ref 16, .int a0, .int a1] [.ref S.2.2.2.2, .int a1, .ref 21] S19 _
    refine ex_aast pm_M43 (pc_q := 94) (o := some S.2.2.2.2) rfl rfl rfl ?_
    refine ex_br pm_M43 (pc_q := 117) (st_q := []) rfl rfl ?_
    exact ex_ret pm_M43 (r := none) rfl rfl (⟨rfl, v2 a0 a1 S c3 c9 c15 k16 S19 h20⟩)
  have hz2' := ex_tswD (st := []) hz2 (by first | (have w0 : (a0).toInt ≠ 0 := fun w => c3 (Int32.toInt_inj.mp (w.trans (by decide))); have w1 : (a0).toInt ≠ 1 := fun w => c9 (Int32.toInt_inj.mp (w.trans (by decide))); have w2 : (a0).toInt ≠ 2 := fun w => c15 (Int32.toInt_inj.mp (w.trans (by decide))); omega) | decide)
  cases (show some (97, []) = some z1 from hz2')
  show ex_P _ _ 43 97 [.ref 16, .int a0, .int a1] [] S _
  refine ex_lo pm_M43 (pc_q := 98) (ls_q := [.ref 16, .int a0, .int a1]) (st_q := [.ref 16]) rfl rfl rfl ?_
  refine ex_getK pm_M43 (pc_q := 101) (j := 0) (b := 17) rfl rfl rfl rfl rfl ?_
  refine ex_getK pm_M43 (pc_q := 104) (j := 13) (b := 22) rfl rfl rfl rfl rfl ?_
  refine ex_lo pm_M43 (pc_q := 105) (ls_q := [.ref 16, .int a0, .int a1]) (st_q := [.int a1, .ref 22]) rfl rfl rfl ?_
  refine ex_top (fun k21 => ?_)
  change 72 ≤ S.2.2.2.2 at k21
  refine ex_new1 pm_M43 (pc_q := 108) rfl rfl rfl rfl ?_
  show ex_P _ _ 43 108 [.ref 16, .int a0, .int a1] [.ref S.2.2.2.2, .int a1, .ref 22] (ex_new S 0) _
  refine ex_op pm_M43 (pc_q := 109) (st_q := [.ref S.2.2.2.2, .ref S.2.2.2.2, .int a1, .ref 22]) rfl rfl rfl ?_
  refine ex_lo pm_M43 (pc_q := 110) (ls_q := [.ref 16, .int a0, .int a1]) (st_q := [.ref 16, .ref S.2.2.2.2, .ref S.2.2.2.2, .int a1, .ref 22]) rfl rfl rfl ?_
  refine ex_getK pm_M43 (pc_q := 113) (j := 2) (b := 25) rfl rfl rfl rfl rfl ?_
  refine ex_call pm_M43 (pc_q := 116) (ix := 127) (callee := 54) (np := 1) (kd := 1) (ra := [.ref 25, .ref S.2.2.2.2]) (rest := [.ref S.2.2.2.2, .int a1, .ref 22]) rfl rfl rfl rfl pm_M54 rfl rfl rfl rfl (fun d22 => (H54 _ d22 S.2.2.2.2 (ex_new S 0)).mono (fun r S24 e => ?_))
  obtain ⟨rfl, h25⟩ := e
  show ex_P _ _ 43 116 [.ref 16, .int a0, .int a1] [.ref S.2.2.2.2, .int a1, .ref 22] S24 _
  refine ex_aast pm_M43 (pc_q := 117) (o := some S.2.2.2.2) rfl rfl rfl ?_
  exact ex_ret pm_M43 (r := none) rfl rfl (⟨rfl, v3 a0 a1 S c3 c9 c15 k21 S24 h25⟩)
set_option maxRecDepth 100000 in
set_option maxHeartbeats 4000000 in
/-- SilentTable.text -/
theorem ev10 {C : Int32 → Int32 → ex_S → Int32 → ex_S → Prop} {C11 : Int32 → Int32 → ex_S → ex_S → Prop} {C43 : Int32 → Int32 → ex_S → ex_S → Prop} (H11 : es11 C11) (H43 : es43 C43) 
    (v0 : ∀ (a0 : Int32) (a1 : Int32) (S : ex_S), a0 < 0 → C a0 a1 S (-2) (ex_sx (ex_sx (ex_sx S 17 1 0) 17 2 0) 17 3 (-1))) 
    (v1 : ∀ (a0 : Int32) (a1 : Int32) (S : ex_S), ¬ (a0 < 0) → a0 < 4 → ¬ a1 = (-1) → a1 < 0 → C a0 a1 S (-2) (ex_sx (ex_sx (ex_sx S 17 1 0) 17 2 0) 17 3 (-1))) 
    (v2 : ∀ (a0 : Int32) (a1 : Int32) (S : ex_S), ¬ (a0 < 0) → a0 < 4 → ¬ a1 = (-1) → ¬ (a1 < 0) → a1 < S.1 23 a0.toNatClampNeg → ∀ (S8 : ex_S), C11 (S.1 17 1) a0 (ex_sx (ex_sx (ex_sx S 17 1 0) 17 2 0) 17 3 (-1)) S8 → S8.1 25 1 = 0 → ∀ (S13 : ex_S), C43 a0 a1 (ex_sx (ex_sx S8 17 2 (S8.1 25 1)) 17 3 (S8.1 25 2)) S13 → C a0 a1 S a1 S13) 
    (v3 : ∀ (a0 : Int32) (a1 : Int32) (S : ex_S), ¬ (a0 < 0) → a0 < 4 → ¬ a1 = (-1) → ¬ (a1 < 0) → a1 < S.1 23 a0.toNatClampNeg → ∀ (S8 : ex_S), C11 (S.1 17 1) a0 (ex_sx (ex_sx (ex_sx S 17 1 0) 17 2 0) 17 3 (-1)) S8 → ¬ (S8.1 25 1 = 0) → C a0 a1 S (-1) (ex_sx (ex_sx S8 17 2 (S8.1 25 1)) 17 3 (S8.1 25 2))) 
    (v4 : ∀ (a0 : Int32) (a1 : Int32) (S : ex_S), ¬ (a0 < 0) → a0 < 4 → ¬ a1 = (-1) → ¬ (a1 < 0) → ¬ (a1 < S.1 23 a0.toNatClampNeg) → C a0 a1 S (-2) (ex_sx (ex_sx (ex_sx S 17 1 0) 17 2 0) 17 3 (-1))) 
    (v5 : ∀ (a0 : Int32) (a1 : Int32) (S : ex_S), ¬ (a0 < 0) → a0 < 4 → ¬ (¬ a1 = (-1)) → S.1 23 a0.toNatClampNeg < ex_st 1 a0.toNatClampNeg → ∀ (S18 : ex_S), C11 (S.1 17 1) a0 (ex_sx (ex_sx (ex_sx S 17 1 0) 17 2 0) 17 3 (-1)) S18 → S18.1 25 1 = 0 → ∀ (S23 : ex_S), C43 a0 (S.1 23 a0.toNatClampNeg) (ex_sx (ex_sx S18 17 2 (S18.1 25 1)) 17 3 (S18.1 25 2)) S23 → C a0 a1 S (S.1 23 a0.toNatClampNeg) (ex_sx S23 23 a0.toNatClampNeg ((S23.1 23 a0.toNatClampNeg) + 1))) 
    (v6 : ∀ (a0 : Int32) (a1 : Int32) (S : ex_S), ¬ (a0 < 0) → a0 < 4 → ¬ (¬ a1 = (-1)) → S.1 23 a0.toNatClampNeg < ex_st 1 a0.toNatClampNeg → ∀ (S18 : ex_S), C11 (S.1 17 1) a0 (ex_sx (ex_sx (ex_sx S 17 1 0) 17 2 0) 17 3 (-1)) S18 → ¬ (S18.1 25 1 = 0) → C a0 a1 S (-1) (ex_sx (ex_sx S18 17 2 (S18.1 25 1)) 17 3 (S18.1 25 2))) 
    (v7 : ∀ (a0 : Int32) (a1 : Int32) (S : ex_S), ¬ (a0 < 0) → a0 < 4 → ¬ (¬ a1 = (-1)) → ¬ (S.1 23 a0.toNatClampNeg < ex_st 1 a0.toNatClampNeg) → C a0 a1 S (-2) (ex_sx (ex_sx (ex_sx S 17 1 0) 17 2 0) 17 3 (-1))) 
    (v8 : ∀ (a0 : Int32) (a1 : Int32) (S : ex_S), ¬ (a0 < 0) → ¬ (a0 < 4) → C a0 a1 S (-2) (ex_sx (ex_sx (ex_sx S 17 1 0) 17 2 0) 17 3 (-1))) : es10 C := by
  intro N d a0 a1 S
  refine ex_lo pm_M10 (pc_q := 1) (ls_q := [.ref 16, .int a0, .int a1, pm_no, pm_no, pm_no, pm_no]) (st_q := [.ref 16]) rfl rfl rfl ?_
  refine ex_getK pm_M10 (pc_q := 4) (j := 0) (b := 17) rfl rfl rfl rfl rfl ?_
  refine ex_getI' pm_M10 (pc_q := 7) (v := S.1 17 1) rfl rfl rfl rfl rfl rfl ?_
  refine ex_lo pm_M10 (pc_q := 8) (ls_q := [.ref 16, .int a0, .int a1, .int (S.1 17 1), pm_no, pm_no, pm_no]) (st_q := []) rfl rfl rfl ?_
  refine ex_lo pm_M10 (pc_q := 9) (ls_q := [.ref 16, .int a0, .int a1, .int (S.1 17 1), pm_no, pm_no, pm_no]) (st_q := [.ref 16]) rfl rfl rfl ?_
  refine ex_getK pm_M10 (pc_q := 12) (j := 0) (b := 17) rfl rfl rfl rfl rfl ?_
  refine ex_op pm_M10 (pc_q := 13) (st_q := [.int 0, .ref 17]) rfl rfl rfl ?_
  refine ex_putI pm_M10 (pc_q := 16) rfl rfl rfl rfl rfl ?_
  refine ex_lo pm_M10 (pc_q := 17) (ls_q := [.ref 16, .int a0, .int a1, .int (S.1 17 1), pm_no, pm_no, pm_no]) (st_q := [.ref 16]) rfl rfl rfl ?_
  refine ex_getK pm_M10 (pc_q := 20) (j := 0) (b := 17) rfl rfl rfl rfl rfl ?_
  refine ex_op pm_M10 (pc_q := 21) (st_q := [.int 0, .ref 17]) rfl rfl rfl ?_
  refine ex_putI pm_M10 (pc_q := 24) rfl rfl rfl rfl rfl ?_
  refine ex_lo pm_M10 (pc_q := 25) (ls_q := [.ref 16, .int a0, .int a1, .int (S.1 17 1), pm_no, pm_no, pm_no]) (st_q := [.ref 16]) rfl rfl rfl ?_
  refine ex_getK pm_M10 (pc_q := 28) (j := 0) (b := 17) rfl rfl rfl rfl rfl ?_
  refine ex_op pm_M10 (pc_q := 29) (st_q := [.int (-1), .ref 17]) rfl rfl rfl ?_
  refine ex_putI pm_M10 (pc_q := 32) rfl rfl rfl rfl rfl ?_
  refine ex_lo pm_M10 (pc_q := 33) (ls_q := [.ref 16, .int a0, .int a1, .int (S.1 17 1), pm_no, pm_no, pm_no]) (st_q := [.int a0]) rfl rfl rfl ?_
  refine ex_ifc pm_M10 (t := 41) (pc_q := 36) rfl rfl rfl (fun c1 => ?_) (fun c1 => ?_)
  · -- a0 < 0
    refine ex_op pm_M10 (pc_q := 43) (st_q := [.int (-2)]) rfl rfl rfl ?_
    exact ex_retI pm_M10 rfl (⟨_, rfl, v0 a0 a1 S c1⟩)
  · -- not
    refine ex_lo pm_M10 (pc_q := 37) (ls_q := [.ref 16, .int a0, .int a1, .int (S.1 17 1), pm_no, pm_no, pm_no]) (st_q := [.int a0]) rfl rfl rfl ?_
    refine ex_op pm_M10 (pc_q := 38) (st_q := [.int 4, .int a0]) rfl rfl rfl ?_
    refine ex_icmp pm_M10 (t := 44) (pc_q := 41) rfl rfl rfl (fun c2 => ?_) (fun c2 => ?_)
    · -- a0 < 4
      refine ex_lo pm_M10 (pc_q := 45) (ls_q := [.ref 16, .int a0, .int a1, .int (S.1 17 1), pm_no, pm_no, pm_no]) (st_q := [.ref 16]) rfl rfl rfl ?_
      refine ex_getK pm_M10 (pc_q := 48) (j := 0) (b := 17) rfl rfl rfl rfl rfl ?_
      refine ex_getK pm_M10 (pc_q := 51) (j := 14) (b := 23) rfl rfl rfl rfl rfl ?_
      refine ex_lo pm_M10 (pc_q := 52) (ls_q := [.ref 16, .int a0, .int a1, .int (S.1 17 1), pm_no, pm_no, pm_no]) (st_q := [.int a0, .ref 23]) rfl rfl rfl ?_
      refine ex_iald' pm_M10 (pc_q := 53) (v := S.1 23 a0.toNatClampNeg) rfl rfl rfl ?_
      refine ex_lo pm_M10 (pc_q := 55) (ls_q := [.ref 16, .int a0, .int a1, .int (S.1 17 1), .int (S.1 23 a0.toNatClampNeg), pm_no, pm_no]) (st_q := []) rfl rfl rfl ?_
      refine ex_lo pm_M10 (pc_q := 56) (ls_q := [.ref 16, .int a0, .int a1, .int (S.1 17 1), .int (S.1 23 a0.toNatClampNeg), pm_no, pm_no]) (st_q := [.int a1]) rfl rfl rfl ?_
      refine ex_op pm_M10 (pc_q := 57) (st_q := [.int (-1), .int a1]) rfl rfl rfl ?_
      refine ex_icmp pm_M10 (t := 64) (pc_q := 60) rfl rfl rfl (fun c3 => ?_) (fun c3 => ?_)
      · -- ¬ a1 = (-1)
        refine ex_op pm_M10 (pc_q := 65) (st_q := [.int 0]) rfl rfl rfl ?_
        refine ex_lo pm_M10 (pc_q := 67) (ls_q := [.ref 16, .int a0, .int a1, .int (S.1 17 1), .int (S.1 23 a0.toNatClampNeg), .int 0, pm_no]) (st_q := []) rfl rfl rfl ?_
        refine ex_lo pm_M10 (pc_q := 69) (ls_q := [.ref 16, .int a0, .int a1, .int (S.1 17 1), .int (S.1 23 a0.toNatClampNeg), .int 0, pm_no]) (st_q := [.int 0]) rfl rfl rfl ?_
        refine ex_ifc pm_M10 (t := 85) (pc_q := 72) rfl rfl rfl (fun _ => ?_) (fun z => absurd (show (0 : Int32) = 0 by decide) z)
        refine ex_lo pm_M10 (pc_q := 86) (ls_q := [.ref 16, .int a0, .int a1, .int (S.1 17 1), .int (S.1 23 a0.toNatClampNeg), .int 0, pm_no]) (st_q := [.int a1]) rfl rfl rfl ?_
        refine ex_ifc pm_M10 (t := 95) (pc_q := 89) rfl rfl rfl (fun c4 => ?_) (fun c4 => ?_)
        · -- a1 < 0
          refine ex_op pm_M10 (pc_q := 97) (st_q := [.int (-2)]) rfl rfl rfl ?_
          exact ex_retI pm_M10 rfl (⟨_, rfl, v1 a0 a1 S c1 c2 c3 c4⟩)
        · -- not
          refine ex_lo pm_M10 (pc_q := 90) (ls_q := [.ref 16, .int a0, .int a1, .int (S.1 17 1), .int (S.1 23 a0.toNatClampNeg), .int 0, pm_no]) (st_q := [.int a1]) rfl rfl rfl ?_
          refine ex_lo pm_M10 (pc_q := 92) (ls_q := [.ref 16, .int a0, .int a1, .int (S.1 17 1), .int (S.1 23 a0.toNatClampNeg), .int 0, pm_no]) (st_q := [.int (S.1 23 a0.toNatClampNeg), .int a1]) rfl rfl rfl ?_
          refine ex_icmp pm_M10 (t := 98) (pc_q := 95) rfl rfl rfl (fun c5 => ?_) (fun c5 => ?_)
          · -- a1 < S.1 23 a0.toNatClampNeg
            refine ex_lo pm_M10 (pc_q := 100) (ls_q := [.ref 16, .int a0, .int a1, .int (S.1 17 1), .int (S.1 23 a0.toNatClampNeg), .int 0, pm_no]) (st_q := [.int 0]) rfl rfl rfl ?_
            refine ex_ifc pm_M10 (t := 108) (pc_q := 103) rfl rfl rfl (fun _ => ?_) (fun z => absurd (show (0 : Int32) = 0 by decide) z)
            refine ex_lo pm_M10 (pc_q := 109) (ls_q := [.ref 16, .int a0, .int a1, .int (S.1 17 1), .int (S.1 23 a0.toNatClampNeg), .int 0, pm_no]) (st_q := [.int a1]) rfl rfl rfl ?_
            refine ex_lo pm_M10 (pc_q := 111) (ls_q := [.ref 16, .int a0, .int a1, .int (S.1 17 1), .int (S.1 23 a0.toNatClampNeg), .int 0, .int a1]) (st_q := []) rfl rfl rfl ?_
            refine ex_lo pm_M10 (pc_q := 112) (ls_q := [.ref 16, .int a0, .int a1, .int (S.1 17 1), .int (S.1 23 a0.toNatClampNeg), .int 0, .int a1]) (st_q := [.ref 16]) rfl rfl rfl ?_
            refine ex_getK pm_M10 (pc_q := 115) (j := 2) (b := 25) rfl rfl rfl rfl rfl ?_
            refine ex_lo pm_M10 (pc_q := 116) (ls_q := [.ref 16, .int a0, .int a1, .int (S.1 17 1), .int (S.1 23 a0.toNatClampNeg), .int 0, .int a1]) (st_q := [.int (S.1 17 1), .ref 25]) rfl rfl rfl ?_
            refine ex_lo pm_M10 (pc_q := 117) (ls_q := [.ref 16, .int a0, .int a1, .int (S.1 17 1), .int (S.1 23 a0.toNatClampNeg), .int 0, .int a1]) (st_q := [.int a0, .int (S.1 17 1), .ref 25]) rfl rfl rfl ?_
            refine ex_call pm_M10 (pc_q := 120) (ix := 89) (callee := 11) (np := 2) (kd := 0) (ra := [.int a0, .int (S.1 17 1), .ref 25]) (rest := []) rfl rfl rfl rfl pm_M11 rfl rfl rfl rfl (fun d6 => (H11 _ d6 (S.1 17 1) a0 (ex_sx (ex_sx (ex_sx S 17 1 0) 17 2 0) 17 3 (-1))).mono (fun r S8 e => ?_))
            obtain ⟨rfl, h9⟩ := e
            show ex_P _ _ 10 120 [.ref 16, .int a0, .int a1, .int (S.1 17 1), .int (S.1 23 a0.toNatClampNeg), .int 0, .int a1] [] S8 _
            refine ex_lo pm_M10 (pc_q := 121) (ls_q := [.ref 16, .int a0, .int a1, .int (S.1 17 1), .int (S.1 23 a0.toNatClampNeg), .int 0, .int a1]) (st_q := [.ref 16]) rfl rfl rfl ?_
            refine ex_getK pm_M10 (pc_q := 124) (j := 0) (b := 17) rfl rfl rfl rfl rfl ?_
            refine ex_lo pm_M10 (pc_q := 125) (ls_q := [.ref 16, .int a0, .int a1, .int (S.1 17 1), .int (S.1 23 a0.toNatClampNeg), .int 0, .int a1]) (st_q := [.ref 16, .ref 17]) rfl rfl rfl ?_
            refine ex_getK pm_M10 (pc_q := 128) (j := 2) (b := 25) rfl rfl rfl rfl rfl ?_
            refine ex_getI' pm_M10 (pc_q := 131) (v := S8.1 25 1) rfl rfl rfl rfl rfl rfl ?_
            refine ex_putI pm_M10 (pc_q := 134) rfl rfl rfl rfl rfl ?_
            refine ex_lo pm_M10 (pc_q := 135) (ls_q := [.ref 16, .int a0, .int a1, .int (S.1 17 1), .int (S.1 23 a0.toNatClampNeg), .int 0, .int a1]) (st_q := [.ref 16]) rfl rfl rfl ?_
            refine ex_getK pm_M10 (pc_q := 138) (j := 0) (b := 17) rfl rfl rfl rfl rfl ?_
            refine ex_lo pm_M10 (pc_q := 139) (ls_q := [.ref 16, .int a0, .int a1, .int (S.1 17 1), .int (S.1 23 a0.toNatClampNeg), .int 0, .int a1]) (st_q := [.ref 16, .ref 17]) rfl rfl rfl ?_
            refine ex_getK pm_M10 (pc_q := 142) (j := 2) (b := 25) rfl rfl rfl rfl rfl ?_
            refine ex_getI' pm_M10 (pc_q := 145) (v := S8.1 25 2) rfl rfl rfl rfl rfl rfl ?_
            refine ex_putI pm_M10 (pc_q := 148) rfl rfl rfl rfl rfl ?_
            refine ex_lo pm_M10 (pc_q := 149) (ls_q := [.ref 16, .int a0, .int a1, .int (S.1 17 1), .int (S.1 23 a0.toNatClampNeg), .int 0, .int a1]) (st_q := [.ref 16]) rfl rfl rfl ?_
            refine ex_getK pm_M10 (pc_q := 152) (j := 0) (b := 17) rfl rfl rfl rfl rfl ?_
            refine ex_getI' pm_M10 (pc_q := 155) (v := S8.1 25 1) rfl rfl rfl rfl rfl rfl ?_
            refine ex_ifc pm_M10 (t := 160) (pc_q := 158) rfl rfl rfl (fun c10 => ?_) (fun c10 => ?_)
            · -- S8.1 25 1 = 0
              refine ex_lo pm_M10 (pc_q := 161) (ls_q := [.ref 16, .int a0, .int a1, .int (S.1 17 1), .int (S.1 23 a0.toNatClampNeg), .int 0, .int a1]) (st_q := [.ref 16]) rfl rfl rfl ?_
              refine ex_lo pm_M10 (pc_q := 162) (ls_q := [.ref 16, .int a0, .int a1, .int (S.1 17 1), .int (S.1 23 a0.toNatClampNeg), .int 0, .int a1]) (st_q := [.int a0, .ref 16]) rfl rfl rfl ?_
              refine ex_lo pm_M10 (pc_q := 164) (ls_q := [.ref 16, .int a0, .int a1, .int (S.1 17 1), .int (S.1 23 a0.toNatClampNeg), .int 0, .int a1]) (st_q := [.int a1, .int a0, .ref 16]) rfl rfl rfl ?_
              refine ex_call pm_M10 (pc_q := 167) (ix := 95) (callee := 43) (np := 2) (kd := 0) (ra := [.int a1, .int a0, .ref 16]) (rest := []) rfl rfl rfl rfl pm_M43 rfl rfl rfl rfl (fun d11 => (H43 _ d11 a0 a1 (ex_sx (ex_sx S8 17 2 (S8.1 25 1)) 17 3 (S8.1 25 2))).mono (fun r S13 e => ?_))
              obtain ⟨rfl, h14⟩ := e
              show ex_P _ _ 10 167 [.ref 16, .int a0, .int a1, .int (S.1 17 1), .int (S.1 23 a0.toNatClampNeg), .int 0, .int a1] [] S13 _
              refine ex_lo pm_M10 (pc_q := 169) (ls_q := [.ref 16, .int a0, .int a1, .int (S.1 17 1), .int (S.1 23 a0.toNatClampNeg), .int 0, .int a1]) (st_q := [.int 0]) rfl rfl rfl ?_
              refine ex_ifc pm_M10 (t := 185) (pc_q := 172) rfl rfl rfl (fun _ => ?_) (fun z => absurd (show (0 : Int32) = 0 by decide) z)
              refine ex_lo pm_M10 (pc_q := 187) (ls_q := [.ref 16, .int a0, .int a1, .int (S.1 17 1), .int (S.1 23 a0.toNatClampNeg), .int 0, .int a1]) (st_q := [.int a1]) rfl rfl rfl ?_
              exact ex_retI pm_M10 rfl (⟨_, rfl, v2 a0 a1 S c1 c2 c3 c4 c5 S8 h9 c10 S13 h14⟩)
            · -- not
              refine ex_op pm_M10 (pc_q := 159) (st_q := [.int (-1)]) rfl rfl rfl ?_
              exact ex_retI pm_M10 rfl (⟨_, rfl, v3 a0 a1 S c1 c2 c3 c4 c5 S8 h9 c10⟩)
          · -- not
            refine ex_op pm_M10 (pc_q := 97) (st_q := [.int (-2)]) rfl rfl rfl ?_
            exact ex_retI pm_M10 rfl (⟨_, rfl, v4 a0 a1 S c1 c2 c3 c4 c5⟩)
      · -- not
        refine ex_op pm_M10 (pc_q := 61) (st_q := [.int 1]) rfl rfl rfl ?_
        refine ex_br pm_M10 (pc_q := 65) (st_q := [.int 1]) rfl rfl ?_
        refine ex_lo pm_M10 (pc_q := 67) (ls_q := [.ref 16, .int a0, .int a1, .int (S.1 17 1), .int (S.1 23 a0.toNatClampNeg), .int 1, pm_no]) (st_q := []) rfl rfl rfl ?_
        refine ex_lo pm_M10 (pc_q := 69) (ls_q := [.ref 16, .int a0, .int a1, .int (S.1 17 1), .int (S.1 23 a0.toNatClampNeg), .int 1, pm_no]) (st_q := [.int 1]) rfl rfl rfl ?_
        refine ex_ifc pm_M10 (t := 85) (pc_q := 72) rfl rfl rfl (fun z => absurd z (show ¬ ((1 : Int32) = 0) by decide)) (fun _ => ?_)
        refine ex_lo pm_M10 (pc_q := 74) (ls_q := [.ref 16, .int a0, .int a1, .int (S.1 17 1), .int (S.1 23 a0.toNatClampNeg), .int 1, pm_no]) (st_q := [.int (S.1 23 a0.toNatClampNeg)]) rfl rfl rfl ?_
        refine ex_stat pm_M10 (pc_q := 77) rfl rfl rfl rfl ?_
        refine ex_lo pm_M10 (pc_q := 78) (ls_q := [.ref 16, .int a0, .int a1, .int (S.1 17 1), .int (S.1 23 a0.toNatClampNeg), .int 1, pm_no]) (st_q := [.int a0, .ref 1, .int (S.1 23 a0.toNatClampNeg)]) rfl rfl rfl ?_
        refine ex_iaK pm_M10 (pc_q := 79) (v := ex_st 1 a0.toNatClampNeg) rfl (by decide) (by decide) rfl rfl ?_
        refine ex_icmp pm_M10 (t := 98) (pc_q := 82) rfl rfl rfl (fun c15 => ?_) (fun c15 => ?_)
        · -- S.1 23 a0.toNatClampNeg < ex_st 1 a0.toNatClampNeg
          refine ex_lo pm_M10 (pc_q := 100) (ls_q := [.ref 16, .int a0, .int a1, .int (S.1 17 1), .int (S.1 23 a0.toNatClampNeg), .int 1, pm_no]) (st_q := [.int 1]) rfl rfl rfl ?_
          refine ex_ifc pm_M10 (t := 108) (pc_q := 103) rfl rfl rfl (fun z => absurd z (show ¬ ((1 : Int32) = 0) by decide)) (fun _ => ?_)
          refine ex_lo pm_M10 (pc_q := 105) (ls_q := [.ref 16, .int a0, .int a1, .int (S.1 17 1), .int (S.1 23 a0.toNatClampNeg), .int 1, pm_no]) (st_q := [.int (S.1 23 a0.toNatClampNeg)]) rfl rfl rfl ?_
          refine ex_br pm_M10 (pc_q := 109) (st_q := [.int (S.1 23 a0.toNatClampNeg)]) rfl rfl ?_
          refine ex_lo pm_M10 (pc_q := 111) (ls_q := [.ref 16, .int a0, .int a1, .int (S.1 17 1), .int (S.1 23 a0.toNatClampNeg), .int 1, .int (S.1 23 a0.toNatClampNeg)]) (st_q := []) rfl rfl rfl ?_
          refine ex_lo pm_M10 (pc_q := 112) (ls_q := [.ref 16, .int a0, .int a1, .int (S.1 17 1), .int (S.1 23 a0.toNatClampNeg), .int 1, .int (S.1 23 a0.toNatClampNeg)]) (st_q := [.ref 16]) rfl rfl rfl ?_
          refine ex_getK pm_M10 (pc_q := 115) (j := 2) (b := 25) rfl rfl rfl rfl rfl ?_
          refine ex_lo pm_M10 (pc_q := 116) (ls_q := [.ref 16, .int a0, .int a1, .int (S.1 17 1), .int (S.1 23 a0.toNatClampNeg), .int 1, .int (S.1 23 a0.toNatClampNeg)]) (st_q := [.int (S.1 17 1), .ref 25]) rfl rfl rfl ?_
          refine ex_lo pm_M10 (pc_q := 117) (ls_q := [.ref 16, .int a0, .int a1, .int (S.1 17 1), .int (S.1 23 a0.toNatClampNeg), .int 1, .int (S.1 23 a0.toNatClampNeg)]) (st_q := [.int a0, .int (S.1 17 1), .ref 25]) rfl rfl rfl ?_
          refine ex_call pm_M10 (pc_q := 120) (ix := 89) (callee := 11) (np := 2) (kd := 0) (ra := [.int a0, .int (S.1 17 1), .ref 25]) (rest := []) rfl rfl rfl rfl pm_M11 rfl rfl rfl rfl (fun d16 => (H11 _ d16 (S.1 17 1) a0 (ex_sx (ex_sx (ex_sx S 17 1 0) 17 2 0) 17 3 (-1))).mono (fun r S18 e => ?_))
          obtain ⟨rfl, h19⟩ := e
          show ex_P _ _ 10 120 [.ref 16, .int a0, .int a1, .int (S.1 17 1), .int (S.1 23 a0.toNatClampNeg), .int 1, .int (S.1 23 a0.toNatClampNeg)] [] S18 _
          refine ex_lo pm_M10 (pc_q := 121) (ls_q := [.ref 16, .int a0, .int a1, .int (S.1 17 1), .int (S.1 23 a0.toNatClampNeg), .int 1, .int (S.1 23 a0.toNatClampNeg)]) (st_q := [.ref 16]) rfl rfl rfl ?_
          refine ex_getK pm_M10 (pc_q := 124) (j := 0) (b := 17) rfl rfl rfl rfl rfl ?_
          refine ex_lo pm_M10 (pc_q := 125) (ls_q := [.ref 16, .int a0, .int a1, .int (S.1 17 1), .int (S.1 23 a0.toNatClampNeg), .int 1, .int (S.1 23 a0.toNatClampNeg)]) (st_q := [.ref 16, .ref 17]) rfl rfl rfl ?_
          refine ex_getK pm_M10 (pc_q := 128) (j := 2) (b := 25) rfl rfl rfl rfl rfl ?_
          refine ex_getI' pm_M10 (pc_q := 131) (v := S18.1 25 1) rfl rfl rfl rfl rfl rfl ?_
          refine ex_putI pm_M10 (pc_q := 134) rfl rfl rfl rfl rfl ?_
          refine ex_lo pm_M10 (pc_q := 135) (ls_q := [.ref 16, .int a0, .int a1, .int (S.1 17 1), .int (S.1 23 a0.toNatClampNeg), .int 1, .int (S.1 23 a0.toNatClampNeg)]) (st_q := [.ref 16]) rfl rfl rfl ?_
          refine ex_getK pm_M10 (pc_q := 138) (j := 0) (b := 17) rfl rfl rfl rfl rfl ?_
          refine ex_lo pm_M10 (pc_q := 139) (ls_q := [.ref 16, .int a0, .int a1, .int (S.1 17 1), .int (S.1 23 a0.toNatClampNeg), .int 1, .int (S.1 23 a0.toNatClampNeg)]) (st_q := [.ref 16, .ref 17]) rfl rfl rfl ?_
          refine ex_getK pm_M10 (pc_q := 142) (j := 2) (b := 25) rfl rfl rfl rfl rfl ?_
          refine ex_getI' pm_M10 (pc_q := 145) (v := S18.1 25 2) rfl rfl rfl rfl rfl rfl ?_
          refine ex_putI pm_M10 (pc_q := 148) rfl rfl rfl rfl rfl ?_
          refine ex_lo pm_M10 (pc_q := 149) (ls_q := [.ref 16, .int a0, .int a1, .int (S.1 17 1), .int (S.1 23 a0.toNatClampNeg), .int 1, .int (S.1 23 a0.toNatClampNeg)]) (st_q := [.ref 16]) rfl rfl rfl ?_
          refine ex_getK pm_M10 (pc_q := 152) (j := 0) (b := 17) rfl rfl rfl rfl rfl ?_
          refine ex_getI' pm_M10 (pc_q := 155) (v := S18.1 25 1) rfl rfl rfl rfl rfl rfl ?_
          refine ex_ifc pm_M10 (t := 160) (pc_q := 158) rfl rfl rfl (fun c20 => ?_) (fun c20 => ?_)
          · -- S18.1 25 1 = 0
            refine ex_lo pm_M10 (pc_q := 161) (ls_q := [.ref 16, .int a0, .int a1, .int (S.1 17 1), .int (S.1 23 a0.toNatClampNeg), .int 1, .int (S.1 23 a0.toNatClampNeg)]) (st_q := [.ref 16]) rfl rfl rfl ?_
            refine ex_lo pm_M10 (pc_q := 162) (ls_q := [.ref 16, .int a0, .int a1, .int (S.1 17 1), .int (S.1 23 a0.toNatClampNeg), .int 1, .int (S.1 23 a0.toNatClampNeg)]) (st_q := [.int a0, .ref 16]) rfl rfl rfl ?_
            refine ex_lo pm_M10 (pc_q := 164) (ls_q := [.ref 16, .int a0, .int a1, .int (S.1 17 1), .int (S.1 23 a0.toNatClampNeg), .int 1, .int (S.1 23 a0.toNatClampNeg)]) (st_q := [.int (S.1 23 a0.toNatClampNeg), .int a0, .ref 16]) rfl rfl rfl ?_
            refine ex_call pm_M10 (pc_q := 167) (ix := 95) (callee := 43) (np := 2) (kd := 0) (ra := [.int (S.1 23 a0.toNatClampNeg), .int a0, .ref 16]) (rest := []) rfl rfl rfl rfl pm_M43 rfl rfl rfl rfl (fun d21 => (H43 _ d21 a0 (S.1 23 a0.toNatClampNeg) (ex_sx (ex_sx S18 17 2 (S18.1 25 1)) 17 3 (S18.1 25 2))).mono (fun r S23 e => ?_))
            obtain ⟨rfl, h24⟩ := e
            show ex_P _ _ 10 167 [.ref 16, .int a0, .int a1, .int (S.1 17 1), .int (S.1 23 a0.toNatClampNeg), .int 1, .int (S.1 23 a0.toNatClampNeg)] [] S23 _
            refine ex_lo pm_M10 (pc_q := 169) (ls_q := [.ref 16, .int a0, .int a1, .int (S.1 17 1), .int (S.1 23 a0.toNatClampNeg), .int 1, .int (S.1 23 a0.toNatClampNeg)]) (st_q := [.int 1]) rfl rfl rfl ?_
            refine ex_ifc pm_M10 (t := 185) (pc_q := 172) rfl rfl rfl (fun z => absurd z (show ¬ ((1 : Int32) = 0) by decide)) (fun _ => ?_)
            refine ex_lo pm_M10 (pc_q := 173) (ls_q := [.ref 16, .int a0, .int a1, .int (S.1 17 1), .int (S.1 23 a0.toNatClampNeg), .int 1, .int (S.1 23 a0.toNatClampNeg)]) (st_q := [.ref 16]) rfl rfl rfl ?_
            refine ex_getK pm_M10 (pc_q := 176) (j := 0) (b := 17) rfl rfl rfl rfl rfl ?_
            refine ex_getK pm_M10 (pc_q := 179) (j := 14) (b := 23) rfl rfl rfl rfl rfl ?_
            refine ex_lo pm_M10 (pc_q := 180) (ls_q := [.ref 16, .int a0, .int a1, .int (S.1 17 1), .int (S.1 23 a0.toNatClampNeg), .int 1, .int (S.1 23 a0.toNatClampNeg)]) (st_q := [.int a0, .ref 23]) rfl rfl rfl ?_
            refine ex_op pm_M10 (pc_q := 181) (st_q := [.int a0, .ref 23, .int a0, .ref 23]) rfl rfl rfl ?_
            refine ex_iald' pm_M10 (pc_q := 182) (v := S23.1 23 a0.toNatClampNeg) rfl rfl rfl ?_
            refine ex_op pm_M10 (pc_q := 183) (st_q := [.int 1, .int (S23.1 23 a0.toNatClampNeg), .int a0, .ref 23]) rfl rfl rfl ?_
            refine ex_op pm_M10 (pc_q := 184) (st_q := [.int ((S23.1 23 a0.toNatClampNeg) + 1), .int a0, .ref 23]) rfl rfl rfl ?_
            refine ex_iast pm_M10 (pc_q := 185) rfl rfl ?_
            refine ex_lo pm_M10 (pc_q := 187) (ls_q := [.ref 16, .int a0, .int a1, .int (S.1 17 1), .int (S.1 23 a0.toNatClampNeg), .int 1, .int (S.1 23 a0.toNatClampNeg)]) (st_q := [.int (S.1 23 a0.toNatClampNeg)]) rfl rfl rfl ?_
            exact ex_retI pm_M10 rfl (⟨_, rfl, v5 a0 a1 S c1 c2 c3 c15 S18 h19 c20 S23 h24⟩)
          · -- not
            refine ex_op pm_M10 (pc_q := 159) (st_q := [.int (-1)]) rfl rfl rfl ?_
            exact ex_retI pm_M10 rfl (⟨_, rfl, v6 a0 a1 S c1 c2 c3 c15 S18 h19 c20⟩)
        · -- not
          refine ex_br pm_M10 (pc_q := 95) (st_q := []) rfl rfl ?_
          refine ex_op pm_M10 (pc_q := 97) (st_q := [.int (-2)]) rfl rfl rfl ?_
          exact ex_retI pm_M10 rfl (⟨_, rfl, v7 a0 a1 S c1 c2 c3 c15⟩)
    · -- not
      refine ex_op pm_M10 (pc_q := 43) (st_q := [.int (-2)]) rfl rfl rfl ?_
      exact ex_retI pm_M10 rfl (⟨_, rfl, v8 a0 a1 S c1 c2⟩)
set_option maxRecDepth 100000 in
set_option maxHeartbeats 4000000 in
/-- SilentTable.fault -/
theorem ev55 {C : Int32 → ex_S → Int32 → ex_S → Prop} 
    (v0 : ∀ (a0 : Int32) (S : ex_S), ¬ a0 = 0 → ¬ a0 = 1 → C a0 S (-1) S) 
    (v1 : ∀ (a0 : Int32) (S : ex_S), ¬ a0 = 0 → ¬ (¬ a0 = 1) → C a0 S (S.1 17 3) S) 
    (v2 : ∀ (a0 : Int32) (S : ex_S), ¬ (¬ a0 = 0) → C a0 S (S.1 17 2) S) : es55 C := by
  intro N d a0 S
  refine ex_lo pm_M55 (pc_q := 1) (ls_q := [.ref 16, .int a0]) (st_q := [.int a0]) rfl rfl rfl ?_
  refine ex_ifc pm_M55 (t := 12) (pc_q := 4) rfl rfl rfl (fun c1 => ?_) (fun c1 => ?_)
  · -- ¬ a0 = 0
    refine ex_lo pm_M55 (pc_q := 13) (ls_q := [.ref 16, .int a0]) (st_q := [.int a0]) rfl rfl rfl ?_
    refine ex_op pm_M55 (pc_q := 14) (st_q := [.int 1, .int a0]) rfl rfl rfl ?_
    refine ex_icmp pm_M55 (t := 27) (pc_q := 17) rfl rfl rfl (fun c2 => ?_) (fun c2 => ?_)
    · -- ¬ a0 = 1
      refine ex_op pm_M55 (pc_q := 28) (st_q := [.int (-1)]) rfl rfl rfl ?_
      exact ex_retI pm_M55 rfl (⟨_, rfl, v0 a0 S c1 c2⟩)
    · -- not
      refine ex_lo pm_M55 (pc_q := 18) (ls_q := [.ref 16, .int a0]) (st_q := [.ref 16]) rfl rfl rfl ?_
      refine ex_getK pm_M55 (pc_q := 21) (j := 0) (b := 17) rfl rfl rfl rfl rfl ?_
      refine ex_getI' pm_M55 (pc_q := 24) (v := S.1 17 3) rfl rfl rfl rfl rfl rfl ?_
      refine ex_br pm_M55 (pc_q := 28) (st_q := [.int (S.1 17 3)]) rfl rfl ?_
      exact ex_retI pm_M55 rfl (⟨_, rfl, v1 a0 S c1 c2⟩)
  · -- not
    refine ex_lo pm_M55 (pc_q := 5) (ls_q := [.ref 16, .int a0]) (st_q := [.ref 16]) rfl rfl rfl ?_
    refine ex_getK pm_M55 (pc_q := 8) (j := 0) (b := 17) rfl rfl rfl rfl rfl ?_
    refine ex_getI' pm_M55 (pc_q := 11) (v := S.1 17 2) rfl rfl rfl rfl rfl rfl ?_
    exact ex_retI pm_M55 rfl (⟨_, rfl, v2 a0 S c1⟩)
set_option maxRecDepth 100000 in
set_option maxHeartbeats 4000000 in
/-- SilentTable.count -/
theorem ev56 {C : Int32 → ex_S → Int32 → ex_S → Prop} 
    (v0 : ∀ (a0 : Int32) (S : ex_S), a0 < 0 → C a0 S (-2) S) 
    (v1 : ∀ (a0 : Int32) (S : ex_S), ¬ (a0 < 0) → a0 < 4 → C a0 S (S.1 23 a0.toNatClampNeg) S) 
    (v2 : ∀ (a0 : Int32) (S : ex_S), ¬ (a0 < 0) → ¬ (a0 < 4) → C a0 S (-2) S) : es56 C := by
  intro N d a0 S
  refine ex_lo pm_M56 (pc_q := 1) (ls_q := [.ref 16, .int a0]) (st_q := [.int a0]) rfl rfl rfl ?_
  refine ex_ifc pm_M56 (t := 9) (pc_q := 4) rfl rfl rfl (fun c1 => ?_) (fun c1 => ?_)
  · -- a0 < 0
    refine ex_op pm_M56 (pc_q := 11) (st_q := [.int (-2)]) rfl rfl rfl ?_
    refine ex_br pm_M56 (pc_q := 23) (st_q := [.int (-2)]) rfl rfl ?_
    exact ex_retI pm_M56 rfl (⟨_, rfl, v0 a0 S c1⟩)
  · -- not
    refine ex_lo pm_M56 (pc_q := 5) (ls_q := [.ref 16, .int a0]) (st_q := [.int a0]) rfl rfl rfl ?_
    refine ex_op pm_M56 (pc_q := 6) (st_q := [.int 4, .int a0]) rfl rfl rfl ?_
    refine ex_icmp pm_M56 (t := 14) (pc_q := 9) rfl rfl rfl (fun c2 => ?_) (fun c2 => ?_)
    · -- a0 < 4
      refine ex_lo pm_M56 (pc_q := 15) (ls_q := [.ref 16, .int a0]) (st_q := [.ref 16]) rfl rfl rfl ?_
      refine ex_getK pm_M56 (pc_q := 18) (j := 0) (b := 17) rfl rfl rfl rfl rfl ?_
      refine ex_getK pm_M56 (pc_q := 21) (j := 14) (b := 23) rfl rfl rfl rfl rfl ?_
      refine ex_lo pm_M56 (pc_q := 22) (ls_q := [.ref 16, .int a0]) (st_q := [.int a0, .ref 23]) rfl rfl rfl ?_
      refine ex_iald' pm_M56 (pc_q := 23) (v := S.1 23 a0.toNatClampNeg) rfl rfl rfl ?_
      exact ex_retI pm_M56 rfl (⟨_, rfl, v1 a0 S c1 c2⟩)
    · -- not
      refine ex_op pm_M56 (pc_q := 11) (st_q := [.int (-2)]) rfl rfl rfl ?_
      refine ex_br pm_M56 (pc_q := 23) (st_q := [.int (-2)]) rfl rfl ?_
      exact ex_retI pm_M56 rfl (⟨_, rfl, v2 a0 S c1 c2⟩)
set_option maxRecDepth 100000 in
set_option maxHeartbeats 4000000 in
/-- SilentTable$Told.<init> -/
theorem ev2 {C : Nat → ex_S → ex_S → Prop} 
    (v0 : ∀ (t : Nat) (S : ex_S), 72 ≤ t → C t S (ex_sz (ex_new (ex_sz (ex_new (ex_sz (ex_new (ex_sz (ex_new (ex_sz (ex_new (ex_sx (ex_sx (ex_sx (ex_sz (ex_new S 600) t 0 (some S.2.2.2.2)) t 1 0) t 2 0) t 3 (-1)) 2) t 4 (some ((ex_new S 600).2.2.2.2))) 3) t 5 (some ((ex_new (ex_sx (ex_sx (ex_sx (ex_sz (ex_new S 600) t 0 (some S.2.2.2.2)) t 1 0) t 2 0) t 3 (-1)) 2).2.2.2.2))) 2) t 6 (some ((ex_new (ex_sz (ex_new (ex_sx (ex_sx (ex_sx (ex_sz (ex_new S 600) t 0 (some S.2.2.2.2)) t 1 0) t 2 0) t 3 (-1)) 2) t 4 (some ((ex_new S 600).2.2.2.2))) 3).2.2.2.2))) 2) t 7 (some ((ex_new (ex_sz (ex_new (ex_sz (ex_new (ex_sx (ex_sx (ex_sx (ex_sz (ex_new S 600) t 0 (some S.2.2.2.2)) t 1 0) t 2 0) t 3 (-1)) 2) t 4 (some ((ex_new S 600).2.2.2.2))) 3) t 5 (some ((ex_new (ex_sx (ex_sx (ex_sx (ex_sz (ex_new S 600) t 0 (some S.2.2.2.2)) t 1 0) t 2 0) t 3 (-1)) 2).2.2.2.2))) 2).2.2.2.2))) 4) t 8 (some ((ex_new (ex_sz (ex_new (ex_sz (ex_new (ex_sz (ex_new (ex_sx (ex_sx (ex_sx (ex_sz (ex_new S 600) t 0 (some S.2.2.2.2)) t 1 0) t 2 0) t 3 (-1)) 2) t 4 (some ((ex_new S 600).2.2.2.2))) 3) t 5 (some ((ex_new (ex_sx (ex_sx (ex_sx (ex_sz (ex_new S 600) t 0 (some S.2.2.2.2)) t 1 0) t 2 0) t 3 (-1)) 2).2.2.2.2))) 2) t 6 (some ((ex_new (ex_sz (ex_new (ex_sx (ex_sx (ex_sx (ex_sz (ex_new S 600) t 0 (some S.2.2.2.2)) t 1 0) t 2 0) t 3 (-1)) 2) t 4 (some ((ex_new S 600).2.2.2.2))) 3).2.2.2.2))) 2).2.2.2.2)))) : es2 C := by
  intro N d t S pre
  refine ex_lo pm_M2 (pc_q := 1) (ls_q := [.ref t]) (st_q := [.ref t]) rfl rfl rfl ?_
  refine ex_obj pm_M2 (pc_q := 4) rfl rfl rfl ?_
  refine ex_lo pm_M2 (pc_q := 5) (ls_q := [.ref t]) (st_q := [.ref t]) rfl rfl rfl ?_
  refine ex_op pm_M2 (pc_q := 8) (st_q := [.int 600, .ref t]) rfl rfl rfl ?_
  refine ex_newa pm_M2 (pc_q := 10) rfl rfl rfl ?_
  show ex_P _ _ 2 10 [.ref t] [.ref S.2.2.2.2, .ref t] (ex_new S 600) _
  refine ex_putR7 pm_M2 (pc_q := 13) (x := some S.2.2.2.2) rfl rfl rfl pre rfl rfl ?_
  refine ex_lo pm_M2 (pc_q := 14) (ls_q := [.ref t]) (st_q := [.ref t]) rfl rfl rfl ?_
  refine ex_op pm_M2 (pc_q := 15) (st_q := [.int 0, .ref t]) rfl rfl rfl ?_
  refine ex_putI pm_M2 (pc_q := 18) rfl rfl rfl rfl rfl ?_
  refine ex_lo pm_M2 (pc_q := 19) (ls_q := [.ref t]) (st_q := [.ref t]) rfl rfl rfl ?_
  refine ex_op pm_M2 (pc_q := 20) (st_q := [.int 0, .ref t]) rfl rfl rfl ?_
  refine ex_putI pm_M2 (pc_q := 23) rfl rfl rfl rfl rfl ?_
  refine ex_lo pm_M2 (pc_q := 24) (ls_q := [.ref t]) (st_q := [.ref t]) rfl rfl rfl ?_
  refine ex_op pm_M2 (pc_q := 25) (st_q := [.int (-1), .ref t]) rfl rfl rfl ?_
  refine ex_putI pm_M2 (pc_q := 28) rfl rfl rfl rfl rfl ?_
  refine ex_lo pm_M2 (pc_q := 29) (ls_q := [.ref t]) (st_q := [.ref t]) rfl rfl rfl ?_
  refine ex_stat pm_M2 (pc_q := 32) rfl rfl rfl rfl ?_
  refine ex_op pm_M2 (pc_q := 33) (st_q := [.int 0, .ref 1, .ref t]) rfl rfl rfl ?_
  refine ex_iaK pm_M2 (pc_q := 34) (v := 2) rfl (by decide) (by decide) rfl rfl ?_
  refine ex_newq pm_M2 (pc_q := 37) rfl rfl rfl rfl ?_
  show ex_P _ _ 2 37 [.ref t] [.ref ((ex_new S 600).2.2.2.2), .ref t] (ex_new (ex_sx (ex_sx (ex_sx (ex_sz (ex_new S 600) t 0 (some S.2.2.2.2)) t 1 0) t 2 0) t 3 (-1)) 2) _
  refine ex_putR7 pm_M2 (pc_q := 40) (x := some ((ex_new S 600).2.2.2.2)) rfl rfl rfl pre rfl rfl ?_
  refine ex_lo pm_M2 (pc_q := 41) (ls_q := [.ref t]) (st_q := [.ref t]) rfl rfl rfl ?_
  refine ex_stat pm_M2 (pc_q := 44) rfl rfl rfl rfl ?_
  refine ex_op pm_M2 (pc_q := 45) (st_q := [.int 1, .ref 1, .ref t]) rfl rfl rfl ?_
  refine ex_iaK pm_M2 (pc_q := 46) (v := 3) rfl (by decide) (by decide) rfl rfl ?_
  refine ex_newq pm_M2 (pc_q := 49) rfl rfl rfl rfl ?_
  show ex_P _ _ 2 49 [.ref t] [.ref ((ex_new (ex_sx (ex_sx (ex_sx (ex_sz (ex_new S 600) t 0 (some S.2.2.2.2)) t 1 0) t 2 0) t 3 (-1)) 2).2.2.2.2), .ref t] (ex_new (ex_sz (ex_new (ex_sx (ex_sx (ex_sx (ex_sz (ex_new S 600) t 0 (some S.2.2.2.2)) t 1 0) t 2 0) t 3 (-1)) 2) t 4 (some ((ex_new S 600).2.2.2.2))) 3) _
  refine ex_putR7 pm_M2 (pc_q := 52) (x := some ((ex_new (ex_sx (ex_sx (ex_sx (ex_sz (ex_new S 600) t 0 (some S.2.2.2.2)) t 1 0) t 2 0) t 3 (-1)) 2).2.2.2.2)) rfl rfl rfl pre rfl rfl ?_
  refine ex_lo pm_M2 (pc_q := 53) (ls_q := [.ref t]) (st_q := [.ref t]) rfl rfl rfl ?_
  refine ex_stat pm_M2 (pc_q := 56) rfl rfl rfl rfl ?_
  refine ex_op pm_M2 (pc_q := 57) (st_q := [.int 2, .ref 1, .ref t]) rfl rfl rfl ?_
  refine ex_iaK pm_M2 (pc_q := 58) (v := 2) rfl (by decide) (by decide) rfl rfl ?_
  refine ex_newq pm_M2 (pc_q := 61) rfl rfl rfl rfl ?_
  show ex_P _ _ 2 61 [.ref t] [.ref ((ex_new (ex_sz (ex_new (ex_sx (ex_sx (ex_sx (ex_sz (ex_new S 600) t 0 (some S.2.2.2.2)) t 1 0) t 2 0) t 3 (-1)) 2) t 4 (some ((ex_new S 600).2.2.2.2))) 3).2.2.2.2), .ref t] (ex_new (ex_sz (ex_new (ex_sz (ex_new (ex_sx (ex_sx (ex_sx (ex_sz (ex_new S 600) t 0 (some S.2.2.2.2)) t 1 0) t 2 0) t 3 (-1)) 2) t 4 (some ((ex_new S 600).2.2.2.2))) 3) t 5 (some ((ex_new (ex_sx (ex_sx (ex_sx (ex_sz (ex_new S 600) t 0 (some S.2.2.2.2)) t 1 0) t 2 0) t 3 (-1)) 2).2.2.2.2))) 2) _
  refine ex_putR7 pm_M2 (pc_q := 64) (x := some ((ex_new (ex_sz (ex_new (ex_sx (ex_sx (ex_sx (ex_sz (ex_new S 600) t 0 (some S.2.2.2.2)) t 1 0) t 2 0) t 3 (-1)) 2) t 4 (some ((ex_new S 600).2.2.2.2))) 3).2.2.2.2)) rfl rfl rfl pre rfl rfl ?_
  refine ex_lo pm_M2 (pc_q := 65) (ls_q := [.ref t]) (st_q := [.ref t]) rfl rfl rfl ?_
  refine ex_stat pm_M2 (pc_q := 68) rfl rfl rfl rfl ?_
  refine ex_op pm_M2 (pc_q := 69) (st_q := [.int 3, .ref 1, .ref t]) rfl rfl rfl ?_
  refine ex_iaK pm_M2 (pc_q := 70) (v := 2) rfl (by decide) (by decide) rfl rfl ?_
  refine ex_newq pm_M2 (pc_q := 73) rfl rfl rfl rfl ?_
  show ex_P _ _ 2 73 [.ref t] [.ref ((ex_new (ex_sz (ex_new (ex_sz (ex_new (ex_sx (ex_sx (ex_sx (ex_sz (ex_new S 600) t 0 (some S.2.2.2.2)) t 1 0) t 2 0) t 3 (-1)) 2) t 4 (some ((ex_new S 600).2.2.2.2))) 3) t 5 (some ((ex_new (ex_sx (ex_sx (ex_sx (ex_sz (ex_new S 600) t 0 (some S.2.2.2.2)) t 1 0) t 2 0) t 3 (-1)) 2).2.2.2.2))) 2).2.2.2.2), .ref t] (ex_new (ex_sz (ex_new (ex_sz (ex_new (ex_sz (ex_new (ex_sx (ex_sx (ex_sx (ex_sz (ex_new S 600) t 0 (some S.2.2.2.2)) t 1 0) t 2 0) t 3 (-1)) 2) t 4 (some ((ex_new S 600).2.2.2.2))) 3) t 5 (some ((ex_new (ex_sx (ex_sx (ex_sx (ex_sz (ex_new S 600) t 0 (some S.2.2.2.2)) t 1 0) t 2 0) t 3 (-1)) 2).2.2.2.2))) 2) t 6 (some ((ex_new (ex_sz (ex_new (ex_sx (ex_sx (ex_sx (ex_sz (ex_new S 600) t 0 (some S.2.2.2.2)) t 1 0) t 2 0) t 3 (-1)) 2) t 4 (some ((ex_new S 600).2.2.2.2))) 3).2.2.2.2))) 2) _
  refine ex_putR7 pm_M2 (pc_q := 76) (x := some ((ex_new (ex_sz (ex_new (ex_sz (ex_new (ex_sx (ex_sx (ex_sx (ex_sz (ex_new S 600) t 0 (some S.2.2.2.2)) t 1 0) t 2 0) t 3 (-1)) 2) t 4 (some ((ex_new S 600).2.2.2.2))) 3) t 5 (some ((ex_new (ex_sx (ex_sx (ex_sx (ex_sz (ex_new S 600) t 0 (some S.2.2.2.2)) t 1 0) t 2 0) t 3 (-1)) 2).2.2.2.2))) 2).2.2.2.2)) rfl rfl rfl pre rfl rfl ?_
  refine ex_lo pm_M2 (pc_q := 77) (ls_q := [.ref t]) (st_q := [.ref t]) rfl rfl rfl ?_
  refine ex_op pm_M2 (pc_q := 78) (st_q := [.int 4, .ref t]) rfl rfl rfl ?_
  refine ex_newa pm_M2 (pc_q := 80) rfl rfl rfl ?_
  show ex_P _ _ 2 80 [.ref t] [.ref ((ex_new (ex_sz (ex_new (ex_sz (ex_new (ex_sz (ex_new (ex_sx (ex_sx (ex_sx (ex_sz (ex_new S 600) t 0 (some S.2.2.2.2)) t 1 0) t 2 0) t 3 (-1)) 2) t 4 (some ((ex_new S 600).2.2.2.2))) 3) t 5 (some ((ex_new (ex_sx (ex_sx (ex_sx (ex_sz (ex_new S 600) t 0 (some S.2.2.2.2)) t 1 0) t 2 0) t 3 (-1)) 2).2.2.2.2))) 2) t 6 (some ((ex_new (ex_sz (ex_new (ex_sx (ex_sx (ex_sx (ex_sz (ex_new S 600) t 0 (some S.2.2.2.2)) t 1 0) t 2 0) t 3 (-1)) 2) t 4 (some ((ex_new S 600).2.2.2.2))) 3).2.2.2.2))) 2).2.2.2.2), .ref t] (ex_new (ex_sz (ex_new (ex_sz (ex_new (ex_sz (ex_new (ex_sz (ex_new (ex_sx (ex_sx (ex_sx (ex_sz (ex_new S 600) t 0 (some S.2.2.2.2)) t 1 0) t 2 0) t 3 (-1)) 2) t 4 (some ((ex_new S 600).2.2.2.2))) 3) t 5 (some ((ex_new (ex_sx (ex_sx (ex_sx (ex_sz (ex_new S 600) t 0 (some S.2.2.2.2)) t 1 0) t 2 0) t 3 (-1)) 2).2.2.2.2))) 2) t 6 (some ((ex_new (ex_sz (ex_new (ex_sx (ex_sx (ex_sx (ex_sz (ex_new S 600) t 0 (some S.2.2.2.2)) t 1 0) t 2 0) t 3 (-1)) 2) t 4 (some ((ex_new S 600).2.2.2.2))) 3).2.2.2.2))) 2) t 7 (some ((ex_new (ex_sz (ex_new (ex_sz (ex_new (ex_sx (ex_sx (ex_sx (ex_sz (ex_new S 600) t 0 (some S.2.2.2.2)) t 1 0) t 2 0) t 3 (-1)) 2) t 4 (some ((ex_new S 600).2.2.2.2))) 3) t 5 (some ((ex_new (ex_sx (ex_sx (ex_sx (ex_sz (ex_new S 600) t 0 (some S.2.2.2.2)) t 1 0) t 2 0) t 3 (-1)) 2).2.2.2.2))) 2).2.2.2.2))) 4) _
  refine ex_putR7 pm_M2 (pc_q := 83) (x := some ((ex_new (ex_sz (ex_new (ex_sz (ex_new (ex_sz (ex_new (ex_sx (ex_sx (ex_sx (ex_sz (ex_new S 600) t 0 (some S.2.2.2.2)) t 1 0) t 2 0) t 3 (-1)) 2) t 4 (some ((ex_new S 600).2.2.2.2))) 3) t 5 (some ((ex_new (ex_sx (ex_sx (ex_sx (ex_sz (ex_new S 600) t 0 (some S.2.2.2.2)) t 1 0) t 2 0) t 3 (-1)) 2).2.2.2.2))) 2) t 6 (some ((ex_new (ex_sz (ex_new (ex_sx (ex_sx (ex_sx (ex_sz (ex_new S 600) t 0 (some S.2.2.2.2)) t 1 0) t 2 0) t 3 (-1)) 2) t 4 (some ((ex_new S 600).2.2.2.2))) 3).2.2.2.2))) 2).2.2.2.2)) rfl rfl rfl pre rfl rfl ?_
  exact ex_ret pm_M2 (r := none) rfl rfl (⟨rfl, v0 t S pre⟩)
set_option maxRecDepth 100000 in
set_option maxHeartbeats 4000000 in
/-- SilentTable$Told.takeTexts -/
theorem ev59 {C : Nat → Nat → ex_S → ex_S → Prop} {I2 : Nat → Nat → ex_S → Int32 → ex_S → Prop} {I31 : Nat → Nat → ex_S → Int32 → ex_S → Prop} {I60 : Nat → Nat → ex_S → Int32 → ex_S → Prop} {I89 : Nat → Nat → ex_S → Int32 → ex_S → Prop} 
    (v0 : ∀ (t : Nat) (a0 : Nat) (S : ex_S), I2 t a0 S 0 S) 
    (v1 : ∀ (t : Nat) (a0 : Nat) (S : ex_S) (x2 : Int32) (T : ex_S), I2 t a0 S x2 T → ∀ (b1 : Nat), T.2.2.1 t 4 = some b1 → Int32.ofNat (T.2.2.2.1 b1) ≤ x2 → I31 t a0 S 0 T) 
    (v2 : ∀ (t : Nat) (a0 : Nat) (S : ex_S) (x2 : Int32) (T : ex_S), I2 t a0 S x2 T → ∀ (b1 : Nat), T.2.2.1 t 4 = some b1 → ¬ (Int32.ofNat (T.2.2.2.1 b1) ≤ x2) → ∀ (b4 : Nat), T.2.2.1 a0 4 = some b4 → I2 t a0 S (x2 + 1) (ex_sz T b1 x2.toNatClampNeg (T.2.2.1 b4 x2.toNatClampNeg))) 
    (v3 : ∀ (t : Nat) (a0 : Nat) (S : ex_S) (x2 : Int32) (T : ex_S), I31 t a0 S x2 T → ∀ (b6 : Nat), T.2.2.1 t 5 = some b6 → Int32.ofNat (T.2.2.2.1 b6) ≤ x2 → I60 t a0 S 0 T) 
    (v4 : ∀ (t : Nat) (a0 : Nat) (S : ex_S) (x2 : Int32) (T : ex_S), I31 t a0 S x2 T → ∀ (b6 : Nat), T.2.2.1 t 5 = some b6 → ¬ (Int32.ofNat (T.2.2.2.1 b6) ≤ x2) → ∀ (b9 : Nat), T.2.2.1 a0 5 = some b9 → I31 t a0 S (x2 + 1) (ex_sz T b6 x2.toNatClampNeg (T.2.2.1 b9 x2.toNatClampNeg))) 
    (v5 : ∀ (t : Nat) (a0 : Nat) (S : ex_S) (x2 : Int32) (T : ex_S), I60 t a0 S x2 T → ∀ (b11 : Nat), T.2.2.1 t 6 = some b11 → Int32.ofNat (T.2.2.2.1 b11) ≤ x2 → I89 t a0 S 0 T) 
    (v6 : ∀ (t : Nat) (a0 : Nat) (S : ex_S) (x2 : Int32) (T : ex_S), I60 t a0 S x2 T → ∀ (b11 : Nat), T.2.2.1 t 6 = some b11 → ¬ (Int32.ofNat (T.2.2.2.1 b11) ≤ x2) → ∀ (b14 : Nat), T.2.2.1 a0 6 = some b14 → I60 t a0 S (x2 + 1) (ex_sz T b11 x2.toNatClampNeg (T.2.2.1 b14 x2.toNatClampNeg))) 
    (v7 : ∀ (t : Nat) (a0 : Nat) (S : ex_S) (x2 : Int32) (T : ex_S), I89 t a0 S x2 T → ∀ (b16 : Nat), T.2.2.1 t 7 = some b16 → Int32.ofNat (T.2.2.2.1 b16) ≤ x2 → C t a0 S T) 
    (v8 : ∀ (t : Nat) (a0 : Nat) (S : ex_S) (x2 : Int32) (T : ex_S), I89 t a0 S x2 T → ∀ (b16 : Nat), T.2.2.1 t 7 = some b16 → ¬ (Int32.ofNat (T.2.2.2.1 b16) ≤ x2) → ∀ (b19 : Nat), T.2.2.1 a0 7 = some b19 → I89 t a0 S (x2 + 1) (ex_sz T b16 x2.toNatClampNeg (T.2.2.1 b19 x2.toNatClampNeg))) : es59 C := by
  intro N d t a0 S
  have LL : ∀ N : Nat, (∀ (x2 : Int32) (T : ex_S), I89 t a0 S x2 T → ex_P N d 59 89 [.ref t, .ref a0, .int x2] [] T (fun r S_q => r = none ∧ C t a0 S S_q)) ∧ (∀ (x2 : Int32) (T : ex_S), I60 t a0 S x2 T → ex_P N d 59 60 [.ref t, .ref a0, .int x2] [] T (fun r S_q => r = none ∧ C t a0 S S_q)) ∧ (∀ (x2 : Int32) (T : ex_S), I31 t a0 S x2 T → ex_P N d 59 31 [.ref t, .ref a0, .int x2] [] T (fun r S_q => r = none ∧ C t a0 S S_q)) ∧ (∀ (x2 : Int32) (T : ex_S), I2 t a0 S x2 T → ex_P N d 59 2 [.ref t, .ref a0, .int x2] [] T (fun r S_q => r = none ∧ C t a0 S S_q)) := by
    intro N
    induction N with
    | zero => exact ⟨fun _ _ _ => ex_zero, fun _ _ _ => ex_zero, fun _ _ _ => ex_zero, fun _ _ _ => ex_zero⟩
    | succ N ih =>
      obtain ⟨ih89, ih60, ih31, ih2⟩ := ih
      have L89 : ∀ (x2 : Int32) (T : ex_S), I89 t a0 S x2 T → ex_P (N + 1) d 59 89 [.ref t, .ref a0, .int x2] [] T (fun r S_q => r = none ∧ C t a0 S S_q) := by
        intro x2 T hI
        refine ex_lo pm_M59 (pc_q := 90) (ls_q := [.ref t, .ref a0, .int x2]) (st_q := [.int x2]) rfl rfl rfl ?_
        refine ex_lo pm_M59 (pc_q := 91) (ls_q := [.ref t, .ref a0, .int x2]) (st_q := [.ref t, .int x2]) rfl rfl rfl ?_
        refine ex_getR' pm_M59 (pc_q := 94) (v := T.2.2.1 t 7) rfl rfl rfl rfl rfl rfl ?_
        refine ex_oc (o := T.2.2.1 t 7) (fun c17 => ?_) (fun b16 c17 => ?_)
        · refine ex_stc (st_q := [.null, .int x2]) (by rw [(congrArg va_rf c17 : va_rf (T.2.2.1 t 7) = Value.null)] <;> rfl) ?_
          exact ex_nul pm_M59 rfl (fun _ => pm_nocall2 rfl) rfl rfl rfl rfl (fun _ _ _ => rfl)
        refine ex_stc (st_q := [.ref b16, .int x2]) (by rw [(congrArg va_rf c17 : va_rf (T.2.2.1 t 7) = Value.ref b16)] <;> rfl) ?_
        refine ex_alen pm_M59 (pc_q := 95) rfl rfl ?_
        refine ex_icmp pm_M59 (t := 116) (pc_q := 98) rfl rfl rfl (fun c18 => ?_) (fun c18 => ?_)
        · -- Int32.ofNat (T.2.2.2.1 b16) ≤ x2
          exact ex_ret pm_M59 (r := none) rfl rfl (⟨rfl, v7 t a0 S x2 T hI b16 c17 c18⟩)
        · -- not
          refine ex_lo pm_M59 (pc_q := 99) (ls_q := [.ref t, .ref a0, .int x2]) (st_q := [.ref t]) rfl rfl rfl ?_
          refine ex_getR' pm_M59 (pc_q := 102) (v := T.2.2.1 t 7) rfl rfl rfl rfl rfl rfl ?_
          refine ex_lo pm_M59 (pc_q := 103) (ls_q := [.ref t, .ref a0, .int x2]) (st_q := [.int x2, va_rf (T.2.2.1 t 7)]) rfl rfl rfl ?_
          refine ex_lo pm_M59 (pc_q := 104) (ls_q := [.ref t, .ref a0, .int x2]) (st_q := [.ref a0, .int x2, va_rf (T.2.2.1 t 7)]) rfl rfl rfl ?_
          refine ex_getR' pm_M59 (pc_q := 107) (v := T.2.2.1 a0 7) rfl rfl rfl rfl rfl rfl ?_
          refine ex_lo pm_M59 (pc_q := 108) (ls_q := [.ref t, .ref a0, .int x2]) (st_q := [.int x2, va_rf (T.2.2.1 a0 7), .int x2, va_rf (T.2.2.1 t 7)]) rfl rfl rfl ?_
          refine ex_oc (o := T.2.2.1 a0 7) (fun c20 => ?_) (fun b19 c20 => ?_)
          · refine ex_stc (st_q := [.int x2, .null, .int x2, va_rf (T.2.2.1 t 7)]) (by rw [(congrArg va_rf c20 : va_rf (T.2.2.1 a0 7) = Value.null)] <;> rfl) ?_
            exact ex_nul pm_M59 rfl (fun _ => pm_nocall2 rfl) rfl rfl rfl rfl (fun _ _ _ => rfl)
          refine ex_stc (st_q := [.int x2, .ref b19, .int x2, va_rf (T.2.2.1 t 7)]) (by rw [(congrArg va_rf c20 : va_rf (T.2.2.1 a0 7) = Value.ref b19)] <;> rfl) ?_
          refine ex_aald' pm_M59 (pc_q := 109) (v := T.2.2.1 b19 x2.toNatClampNeg) rfl rfl rfl ?_
          refine ex_stc (st_q := [va_rf (T.2.2.1 b19 x2.toNatClampNeg), .int x2, .ref b16]) (by rw [(congrArg va_rf c17 : va_rf (T.2.2.1 t 7) = Value.ref b16)] <;> rfl) ?_
          refine ex_aast pm_M59 (pc_q := 110) (o := T.2.2.1 b19 x2.toNatClampNeg) rfl rfl rfl ?_
          refine ex_lo pm_M59 (pc_q := 113) (ls_q := [.ref t, .ref a0, .int (x2 + 1)]) (st_q := []) rfl rfl rfl ?_
          refine ex_goS pm_M59 (pc_q := 89) (st_q := []) rfl rfl ?_
          exact ih89 (x2 + 1) (ex_sz T b16 x2.toNatClampNeg (T.2.2.1 b19 x2.toNatClampNeg)) (v8 t a0 S x2 T hI b16 c17 c18 b19 c20)
      have L60 : ∀ (x2 : Int32) (T : ex_S), I60 t a0 S x2 T → ex_P (N + 1) d 59 60 [.ref t, .ref a0, .int x2] [] T (fun r S_q => r = none ∧ C t a0 S S_q) := by
        intro x2 T hI
        refine ex_lo pm_M59 (pc_q := 61) (ls_q := [.ref t, .ref a0, .int x2]) (st_q := [.int x2]) rfl rfl rfl ?_
        refine ex_lo pm_M59 (pc_q := 62) (ls_q := [.ref t, .ref a0, .int x2]) (st_q := [.ref t, .int x2]) rfl rfl rfl ?_
        refine ex_getR' pm_M59 (pc_q := 65) (v := T.2.2.1 t 6) rfl rfl rfl rfl rfl rfl ?_
        refine ex_oc (o := T.2.2.1 t 6) (fun c12 => ?_) (fun b11 c12 => ?_)
        · refine ex_stc (st_q := [.null, .int x2]) (by rw [(congrArg va_rf c12 : va_rf (T.2.2.1 t 6) = Value.null)] <;> rfl) ?_
          exact ex_nul pm_M59 rfl (fun _ => pm_nocall2 rfl) rfl rfl rfl rfl (fun _ _ _ => rfl)
        refine ex_stc (st_q := [.ref b11, .int x2]) (by rw [(congrArg va_rf c12 : va_rf (T.2.2.1 t 6) = Value.ref b11)] <;> rfl) ?_
        refine ex_alen pm_M59 (pc_q := 66) rfl rfl ?_
        refine ex_icmp pm_M59 (t := 87) (pc_q := 69) rfl rfl rfl (fun c13 => ?_) (fun c13 => ?_)
        · -- Int32.ofNat (T.2.2.2.1 b11) ≤ x2
          refine ex_op pm_M59 (pc_q := 88) (st_q := [.int 0]) rfl rfl rfl ?_
          refine ex_lo pm_M59 (pc_q := 89) (ls_q := [.ref t, .ref a0, .int 0]) (st_q := []) rfl rfl rfl ?_
          exact L89 0 T (v5 t a0 S x2 T hI b11 c12 c13)
        · -- not
          refine ex_lo pm_M59 (pc_q := 70) (ls_q := [.ref t, .ref a0, .int x2]) (st_q := [.ref t]) rfl rfl rfl ?_
          refine ex_getR' pm_M59 (pc_q := 73) (v := T.2.2.1 t 6) rfl rfl rfl rfl rfl rfl ?_
          refine ex_lo pm_M59 (pc_q := 74) (ls_q := [.ref t, .ref a0, .int x2]) (st_q := [.int x2, va_rf (T.2.2.1 t 6)]) rfl rfl rfl ?_
          refine ex_lo pm_M59 (pc_q := 75) (ls_q := [.ref t, .ref a0, .int x2]) (st_q := [.ref a0, .int x2, va_rf (T.2.2.1 t 6)]) rfl rfl rfl ?_
          refine ex_getR' pm_M59 (pc_q := 78) (v := T.2.2.1 a0 6) rfl rfl rfl rfl rfl rfl ?_
          refine ex_lo pm_M59 (pc_q := 79) (ls_q := [.ref t, .ref a0, .int x2]) (st_q := [.int x2, va_rf (T.2.2.1 a0 6), .int x2, va_rf (T.2.2.1 t 6)]) rfl rfl rfl ?_
          refine ex_oc (o := T.2.2.1 a0 6) (fun c15 => ?_) (fun b14 c15 => ?_)
          · refine ex_stc (st_q := [.int x2, .null, .int x2, va_rf (T.2.2.1 t 6)]) (by rw [(congrArg va_rf c15 : va_rf (T.2.2.1 a0 6) = Value.null)] <;> rfl) ?_
            exact ex_nul pm_M59 rfl (fun _ => pm_nocall2 rfl) rfl rfl rfl rfl (fun _ _ _ => rfl)
          refine ex_stc (st_q := [.int x2, .ref b14, .int x2, va_rf (T.2.2.1 t 6)]) (by rw [(congrArg va_rf c15 : va_rf (T.2.2.1 a0 6) = Value.ref b14)] <;> rfl) ?_
          refine ex_aald' pm_M59 (pc_q := 80) (v := T.2.2.1 b14 x2.toNatClampNeg) rfl rfl rfl ?_
          refine ex_stc (st_q := [va_rf (T.2.2.1 b14 x2.toNatClampNeg), .int x2, .ref b11]) (by rw [(congrArg va_rf c12 : va_rf (T.2.2.1 t 6) = Value.ref b11)] <;> rfl) ?_
          refine ex_aast pm_M59 (pc_q := 81) (o := T.2.2.1 b14 x2.toNatClampNeg) rfl rfl rfl ?_
          refine ex_lo pm_M59 (pc_q := 84) (ls_q := [.ref t, .ref a0, .int (x2 + 1)]) (st_q := []) rfl rfl rfl ?_
          refine ex_goS pm_M59 (pc_q := 60) (st_q := []) rfl rfl ?_
          exact ih60 (x2 + 1) (ex_sz T b11 x2.toNatClampNeg (T.2.2.1 b14 x2.toNatClampNeg)) (v6 t a0 S x2 T hI b11 c12 c13 b14 c15)
      have L31 : ∀ (x2 : Int32) (T : ex_S), I31 t a0 S x2 T → ex_P (N + 1) d 59 31 [.ref t, .ref a0, .int x2] [] T (fun r S_q => r = none ∧ C t a0 S S_q) := by
        intro x2 T hI
        refine ex_lo pm_M59 (pc_q := 32) (ls_q := [.ref t, .ref a0, .int x2]) (st_q := [.int x2]) rfl rfl rfl ?_
        refine ex_lo pm_M59 (pc_q := 33) (ls_q := [.ref t, .ref a0, .int x2]) (st_q := [.ref t, .int x2]) rfl rfl rfl ?_
        refine ex_getR' pm_M59 (pc_q := 36) (v := T.2.2.1 t 5) rfl rfl rfl rfl rfl rfl ?_
        refine ex_oc (o := T.2.2.1 t 5) (fun c7 => ?_) (fun b6 c7 => ?_)
        · refine ex_stc (st_q := [.null, .int x2]) (by rw [(congrArg va_rf c7 : va_rf (T.2.2.1 t 5) = Value.null)] <;> rfl) ?_
          exact ex_nul pm_M59 rfl (fun _ => pm_nocall2 rfl) rfl rfl rfl rfl (fun _ _ _ => rfl)
        refine ex_stc (st_q := [.ref b6, .int x2]) (by rw [(congrArg va_rf c7 : va_rf (T.2.2.1 t 5) = Value.ref b6)] <;> rfl) ?_
        refine ex_alen pm_M59 (pc_q := 37) rfl rfl ?_
        refine ex_icmp pm_M59 (t := 58) (pc_q := 40) rfl rfl rfl (fun c8 => ?_) (fun c8 => ?_)
        · -- Int32.ofNat (T.2.2.2.1 b6) ≤ x2
          refine ex_op pm_M59 (pc_q := 59) (st_q := [.int 0]) rfl rfl rfl ?_
          refine ex_lo pm_M59 (pc_q := 60) (ls_q := [.ref t, .ref a0, .int 0]) (st_q := []) rfl rfl rfl ?_
          exact L60 0 T (v3 t a0 S x2 T hI b6 c7 c8)
        · -- not
          refine ex_lo pm_M59 (pc_q := 41) (ls_q := [.ref t, .ref a0, .int x2]) (st_q := [.ref t]) rfl rfl rfl ?_
          refine ex_getR' pm_M59 (pc_q := 44) (v := T.2.2.1 t 5) rfl rfl rfl rfl rfl rfl ?_
          refine ex_lo pm_M59 (pc_q := 45) (ls_q := [.ref t, .ref a0, .int x2]) (st_q := [.int x2, va_rf (T.2.2.1 t 5)]) rfl rfl rfl ?_
          refine ex_lo pm_M59 (pc_q := 46) (ls_q := [.ref t, .ref a0, .int x2]) (st_q := [.ref a0, .int x2, va_rf (T.2.2.1 t 5)]) rfl rfl rfl ?_
          refine ex_getR' pm_M59 (pc_q := 49) (v := T.2.2.1 a0 5) rfl rfl rfl rfl rfl rfl ?_
          refine ex_lo pm_M59 (pc_q := 50) (ls_q := [.ref t, .ref a0, .int x2]) (st_q := [.int x2, va_rf (T.2.2.1 a0 5), .int x2, va_rf (T.2.2.1 t 5)]) rfl rfl rfl ?_
          refine ex_oc (o := T.2.2.1 a0 5) (fun c10 => ?_) (fun b9 c10 => ?_)
          · refine ex_stc (st_q := [.int x2, .null, .int x2, va_rf (T.2.2.1 t 5)]) (by rw [(congrArg va_rf c10 : va_rf (T.2.2.1 a0 5) = Value.null)] <;> rfl) ?_
            exact ex_nul pm_M59 rfl (fun _ => pm_nocall2 rfl) rfl rfl rfl rfl (fun _ _ _ => rfl)
          refine ex_stc (st_q := [.int x2, .ref b9, .int x2, va_rf (T.2.2.1 t 5)]) (by rw [(congrArg va_rf c10 : va_rf (T.2.2.1 a0 5) = Value.ref b9)] <;> rfl) ?_
          refine ex_aald' pm_M59 (pc_q := 51) (v := T.2.2.1 b9 x2.toNatClampNeg) rfl rfl rfl ?_
          refine ex_stc (st_q := [va_rf (T.2.2.1 b9 x2.toNatClampNeg), .int x2, .ref b6]) (by rw [(congrArg va_rf c7 : va_rf (T.2.2.1 t 5) = Value.ref b6)] <;> rfl) ?_
          refine ex_aast pm_M59 (pc_q := 52) (o := T.2.2.1 b9 x2.toNatClampNeg) rfl rfl rfl ?_
          refine ex_lo pm_M59 (pc_q := 55) (ls_q := [.ref t, .ref a0, .int (x2 + 1)]) (st_q := []) rfl rfl rfl ?_
          refine ex_goS pm_M59 (pc_q := 31) (st_q := []) rfl rfl ?_
          exact ih31 (x2 + 1) (ex_sz T b6 x2.toNatClampNeg (T.2.2.1 b9 x2.toNatClampNeg)) (v4 t a0 S x2 T hI b6 c7 c8 b9 c10)
      have L2 : ∀ (x2 : Int32) (T : ex_S), I2 t a0 S x2 T → ex_P (N + 1) d 59 2 [.ref t, .ref a0, .int x2] [] T (fun r S_q => r = none ∧ C t a0 S S_q) := by
        intro x2 T hI
        refine ex_lo pm_M59 (pc_q := 3) (ls_q := [.ref t, .ref a0, .int x2]) (st_q := [.int x2]) rfl rfl rfl ?_
        refine ex_lo pm_M59 (pc_q := 4) (ls_q := [.ref t, .ref a0, .int x2]) (st_q := [.ref t, .int x2]) rfl rfl rfl ?_
        refine ex_getR' pm_M59 (pc_q := 7) (v := T.2.2.1 t 4) rfl rfl rfl rfl rfl rfl ?_
        refine ex_oc (o := T.2.2.1 t 4) (fun c2 => ?_) (fun b1 c2 => ?_)
        · refine ex_stc (st_q := [.null, .int x2]) (by rw [(congrArg va_rf c2 : va_rf (T.2.2.1 t 4) = Value.null)] <;> rfl) ?_
          exact ex_nul pm_M59 rfl (fun _ => pm_nocall2 rfl) rfl rfl rfl rfl (fun _ _ _ => rfl)
        refine ex_stc (st_q := [.ref b1, .int x2]) (by rw [(congrArg va_rf c2 : va_rf (T.2.2.1 t 4) = Value.ref b1)] <;> rfl) ?_
        refine ex_alen pm_M59 (pc_q := 8) rfl rfl ?_
        refine ex_icmp pm_M59 (t := 29) (pc_q := 11) rfl rfl rfl (fun c3 => ?_) (fun c3 => ?_)
        · -- Int32.ofNat (T.2.2.2.1 b1) ≤ x2
          refine ex_op pm_M59 (pc_q := 30) (st_q := [.int 0]) rfl rfl rfl ?_
          refine ex_lo pm_M59 (pc_q := 31) (ls_q := [.ref t, .ref a0, .int 0]) (st_q := []) rfl rfl rfl ?_
          exact L31 0 T (v1 t a0 S x2 T hI b1 c2 c3)
        · -- not
          refine ex_lo pm_M59 (pc_q := 12) (ls_q := [.ref t, .ref a0, .int x2]) (st_q := [.ref t]) rfl rfl rfl ?_
          refine ex_getR' pm_M59 (pc_q := 15) (v := T.2.2.1 t 4) rfl rfl rfl rfl rfl rfl ?_
          refine ex_lo pm_M59 (pc_q := 16) (ls_q := [.ref t, .ref a0, .int x2]) (st_q := [.int x2, va_rf (T.2.2.1 t 4)]) rfl rfl rfl ?_
          refine ex_lo pm_M59 (pc_q := 17) (ls_q := [.ref t, .ref a0, .int x2]) (st_q := [.ref a0, .int x2, va_rf (T.2.2.1 t 4)]) rfl rfl rfl ?_
          refine ex_getR' pm_M59 (pc_q := 20) (v := T.2.2.1 a0 4) rfl rfl rfl rfl rfl rfl ?_
          refine ex_lo pm_M59 (pc_q := 21) (ls_q := [.ref t, .ref a0, .int x2]) (st_q := [.int x2, va_rf (T.2.2.1 a0 4), .int x2, va_rf (T.2.2.1 t 4)]) rfl rfl rfl ?_
          refine ex_oc (o := T.2.2.1 a0 4) (fun c5 => ?_) (fun b4 c5 => ?_)
          · refine ex_stc (st_q := [.int x2, .null, .int x2, va_rf (T.2.2.1 t 4)]) (by rw [(congrArg va_rf c5 : va_rf (T.2.2.1 a0 4) = Value.null)] <;> rfl) ?_
            exact ex_nul pm_M59 rfl (fun _ => pm_nocall2 rfl) rfl rfl rfl rfl (fun _ _ _ => rfl)
          refine ex_stc (st_q := [.int x2, .ref b4, .int x2, va_rf (T.2.2.1 t 4)]) (by rw [(congrArg va_rf c5 : va_rf (T.2.2.1 a0 4) = Value.ref b4)] <;> rfl) ?_
          refine ex_aald' pm_M59 (pc_q := 22) (v := T.2.2.1 b4 x2.toNatClampNeg) rfl rfl rfl ?_
          refine ex_stc (st_q := [va_rf (T.2.2.1 b4 x2.toNatClampNeg), .int x2, .ref b1]) (by rw [(congrArg va_rf c2 : va_rf (T.2.2.1 t 4) = Value.ref b1)] <;> rfl) ?_
          refine ex_aast pm_M59 (pc_q := 23) (o := T.2.2.1 b4 x2.toNatClampNeg) rfl rfl rfl ?_
          refine ex_lo pm_M59 (pc_q := 26) (ls_q := [.ref t, .ref a0, .int (x2 + 1)]) (st_q := []) rfl rfl rfl ?_
          refine ex_goS pm_M59 (pc_q := 2) (st_q := []) rfl rfl ?_
          exact ih2 (x2 + 1) (ex_sz T b1 x2.toNatClampNeg (T.2.2.1 b4 x2.toNatClampNeg)) (v2 t a0 S x2 T hI b1 c2 c3 b4 c5)
      exact ⟨L89, L60, L31, L2⟩
  obtain ⟨L89, L60, L31, L2⟩ := LL N
  refine ex_op pm_M59 (pc_q := 1) (st_q := [.int 0]) rfl rfl rfl ?_
  refine ex_lo pm_M59 (pc_q := 2) (ls_q := [.ref t, .ref a0, .int 0]) (st_q := []) rfl rfl rfl ?_
  exact L2 0 S (v0 t a0 S)
set_option maxRecDepth 100000 in
set_option maxHeartbeats 4000000 in
/-- SilentTable$Told.takeFrom -/
theorem ev58 {C : Nat → Nat → ex_S → ex_S → Prop} {C59 : Nat → Nat → ex_S → ex_S → Prop} (H59 : es59 C59) 
    (v0 : ∀ (t : Nat) (a0 : Nat) (S : ex_S) (b1 : Nat), S.2.2.1 t 0 = some b1 → ∀ (b3 : Nat), S.2.2.1 a0 0 = some b3 → ∀ (b5 : Nat), (ex_cp S b3 0 b1 0 600).2.2.1 t 8 = some b5 → ∀ (b7 : Nat), (ex_cp S b3 0 b1 0 600).2.2.1 a0 8 = some b7 → ∀ (S11 : ex_S), C59 t a0 (ex_cp (ex_sx (ex_sx (ex_sx (ex_cp S b3 0 b1 0 600) t 1 ((ex_cp S b3 0 b1 0 600).1 a0 1)) t 2 ((ex_sx (ex_cp S b3 0 b1 0 600) t 1 ((ex_cp S b3 0 b1 0 600).1 a0 1)).1 a0 2)) t 3 ((ex_sx (ex_sx (ex_cp S b3 0 b1 0 600) t 1 ((ex_cp S b3 0 b1 0 600).1 a0 1)) t 2 ((ex_sx (ex_cp S b3 0 b1 0 600) t 1 ((ex_cp S b3 0 b1 0 600).1 a0 1)).1 a0 2)).1 a0 3)) b7 0 b5 0 4) S11 → C t a0 S S11) : es58 C := by
  intro N d t a0 S
  refine ex_lo pm_M58 (pc_q := 1) (ls_q := [.ref t, .ref a0]) (st_q := [.ref a0]) rfl rfl rfl ?_
  refine ex_getR' pm_M58 (pc_q := 4) (v := S.2.2.1 a0 0) rfl rfl rfl rfl rfl rfl ?_
  refine ex_op pm_M58 (pc_q := 5) (st_q := [.int 0, va_rf (S.2.2.1 a0 0)]) rfl rfl rfl ?_
  refine ex_lo pm_M58 (pc_q := 6) (ls_q := [.ref t, .ref a0]) (st_q := [.ref t, .int 0, va_rf (S.2.2.1 a0 0)]) rfl rfl rfl ?_
  refine ex_getR' pm_M58 (pc_q := 9) (v := S.2.2.1 t 0) rfl rfl rfl rfl rfl rfl ?_
  refine ex_op pm_M58 (pc_q := 10) (st_q := [.int 0, va_rf (S.2.2.1 t 0), .int 0, va_rf (S.2.2.1 a0 0)]) rfl rfl rfl ?_
  refine ex_op pm_M58 (pc_q := 13) (st_q := [.int 600, .int 0, va_rf (S.2.2.1 t 0), .int 0, va_rf (S.2.2.1 a0 0)]) rfl rfl rfl ?_
  refine ex_oc (o := S.2.2.1 t 0) (fun c2 => ?_) (fun b1 c2 => ?_)
  · refine ex_stc (st_q := [.int 600, .int 0, .null, .int 0, va_rf (S.2.2.1 a0 0)]) (by rw [(congrArg va_rf c2 : va_rf (S.2.2.1 t 0) = Value.null)] <;> rfl) ?_
    exact ex_cpn1 pm_M58 rfl rfl rfl
  refine ex_stc (st_q := [.int 600, .int 0, .ref b1, .int 0, va_rf (S.2.2.1 a0 0)]) (by rw [(congrArg va_rf c2 : va_rf (S.2.2.1 t 0) = Value.ref b1)] <;> rfl) ?_
  refine ex_oc (o := S.2.2.1 a0 0) (fun c4 => ?_) (fun b3 c4 => ?_)
  · refine ex_stc (st_q := [.int 600, .int 0, .ref b1, .int 0, .null]) (by rw [(congrArg va_rf c4 : va_rf (S.2.2.1 a0 0) = Value.null)] <;> rfl) ?_
    exact ex_cpn2 pm_M58 rfl rfl rfl
  refine ex_stc (st_q := [.int 600, .int 0, .ref b1, .int 0, .ref b3]) (by rw [(congrArg va_rf c4 : va_rf (S.2.2.1 a0 0) = Value.ref b3)] <;> rfl) ?_
  refine ex_copy pm_M58 (pc_q := 16) rfl rfl rfl rfl ?_
  show ex_P _ _ 58 16 [.ref t, .ref a0] [] (ex_cp S b3 0 b1 0 600) _
  refine ex_lo pm_M58 (pc_q := 17) (ls_q := [.ref t, .ref a0]) (st_q := [.ref t]) rfl rfl rfl ?_
  refine ex_lo pm_M58 (pc_q := 18) (ls_q := [.ref t, .ref a0]) (st_q := [.ref a0, .ref t]) rfl rfl rfl ?_
  refine ex_getI' pm_M58 (pc_q := 21) (v := (ex_cp S b3 0 b1 0 600).1 a0 1) rfl rfl rfl rfl rfl rfl ?_
  refine ex_putI pm_M58 (pc_q := 24) rfl rfl rfl rfl rfl ?_
  refine ex_lo pm_M58 (pc_q := 25) (ls_q := [.ref t, .ref a0]) (st_q := [.ref t]) rfl rfl rfl ?_
  refine ex_lo pm_M58 (pc_q := 26) (ls_q := [.ref t, .ref a0]) (st_q := [.ref a0, .ref t]) rfl rfl rfl ?_
  refine ex_getI' pm_M58 (pc_q := 29) (v := (ex_sx (ex_cp S b3 0 b1 0 600) t 1 ((ex_cp S b3 0 b1 0 600).1 a0 1)).1 a0 2) rfl rfl rfl rfl rfl rfl ?_
  refine ex_putI pm_M58 (pc_q := 32) rfl rfl rfl rfl rfl ?_
  refine ex_lo pm_M58 (pc_q := 33) (ls_q := [.ref t, .ref a0]) (st_q := [.ref t]) rfl rfl rfl ?_
  refine ex_lo pm_M58 (pc_q := 34) (ls_q := [.ref t, .ref a0]) (st_q := [.ref a0, .ref t]) rfl rfl rfl ?_
  refine ex_getI' pm_M58 (pc_q := 37) (v := (ex_sx (ex_sx (ex_cp S b3 0 b1 0 600) t 1 ((ex_cp S b3 0 b1 0 600).1 a0 1)) t 2 ((ex_sx (ex_cp S b3 0 b1 0 600) t 1 ((ex_cp S b3 0 b1 0 600).1 a0 1)).1 a0 2)).1 a0 3) rfl rfl rfl rfl rfl rfl ?_
  refine ex_putI pm_M58 (pc_q := 40) rfl rfl rfl rfl rfl ?_
  refine ex_lo pm_M58 (pc_q := 41) (ls_q := [.ref t, .ref a0]) (st_q := [.ref a0]) rfl rfl rfl ?_
  refine ex_getR' pm_M58 (pc_q := 44) (v := (ex_cp S b3 0 b1 0 600).2.2.1 a0 8) rfl rfl rfl rfl rfl rfl ?_
  refine ex_op pm_M58 (pc_q := 45) (st_q := [.int 0, va_rf ((ex_cp S b3 0 b1 0 600).2.2.1 a0 8)]) rfl rfl rfl ?_
  refine ex_lo pm_M58 (pc_q := 46) (ls_q := [.ref t, .ref a0]) (st_q := [.ref t, .int 0, va_rf ((ex_cp S b3 0 b1 0 600).2.2.1 a0 8)]) rfl rfl rfl ?_
  refine ex_getR' pm_M58 (pc_q := 49) (v := (ex_cp S b3 0 b1 0 600).2.2.1 t 8) rfl rfl rfl rfl rfl rfl ?_
  refine ex_op pm_M58 (pc_q := 50) (st_q := [.int 0, va_rf ((ex_cp S b3 0 b1 0 600).2.2.1 t 8), .int 0, va_rf ((ex_cp S b3 0 b1 0 600).2.2.1 a0 8)]) rfl rfl rfl ?_
  refine ex_op pm_M58 (pc_q := 51) (st_q := [.int 4, .int 0, va_rf ((ex_cp S b3 0 b1 0 600).2.2.1 t 8), .int 0, va_rf ((ex_cp S b3 0 b1 0 600).2.2.1 a0 8)]) rfl rfl rfl ?_
  refine ex_oc (o := (ex_cp S b3 0 b1 0 600).2.2.1 t 8) (fun c6 => ?_) (fun b5 c6 => ?_)
  · refine ex_stc (st_q := [.int 4, .int 0, .null, .int 0, va_rf ((ex_cp S b3 0 b1 0 600).2.2.1 a0 8)]) (by rw [(congrArg va_rf c6 : va_rf ((ex_cp S b3 0 b1 0 600).2.2.1 t 8) = Value.null)] <;> rfl) ?_
    exact ex_cpn1 pm_M58 rfl rfl rfl
  refine ex_stc (st_q := [.int 4, .int 0, .ref b5, .int 0, va_rf ((ex_cp S b3 0 b1 0 600).2.2.1 a0 8)]) (by rw [(congrArg va_rf c6 : va_rf ((ex_cp S b3 0 b1 0 600).2.2.1 t 8) = Value.ref b5)] <;> rfl) ?_
  refine ex_oc (o := (ex_cp S b3 0 b1 0 600).2.2.1 a0 8) (fun c8 => ?_) (fun b7 c8 => ?_)
  · refine ex_stc (st_q := [.int 4, .int 0, .ref b5, .int 0, .null]) (by rw [(congrArg va_rf c8 : va_rf ((ex_cp S b3 0 b1 0 600).2.2.1 a0 8) = Value.null)] <;> rfl) ?_
    exact ex_cpn2 pm_M58 rfl rfl rfl
  refine ex_stc (st_q := [.int 4, .int 0, .ref b5, .int 0, .ref b7]) (by rw [(congrArg va_rf c8 : va_rf ((ex_cp S b3 0 b1 0 600).2.2.1 a0 8) = Value.ref b7)] <;> rfl) ?_
  refine ex_copy pm_M58 (pc_q := 54) rfl rfl rfl rfl ?_
  show ex_P _ _ 58 54 [.ref t, .ref a0] [] (ex_cp (ex_sx (ex_sx (ex_sx (ex_cp S b3 0 b1 0 600) t 1 ((ex_cp S b3 0 b1 0 600).1 a0 1)) t 2 ((ex_sx (ex_cp S b3 0 b1 0 600) t 1 ((ex_cp S b3 0 b1 0 600).1 a0 1)).1 a0 2)) t 3 ((ex_sx (ex_sx (ex_cp S b3 0 b1 0 600) t 1 ((ex_cp S b3 0 b1 0 600).1 a0 1)) t 2 ((ex_sx (ex_cp S b3 0 b1 0 600) t 1 ((ex_cp S b3 0 b1 0 600).1 a0 1)).1 a0 2)).1 a0 3)) b7 0 b5 0 4) _
  refine ex_lo pm_M58 (pc_q := 55) (ls_q := [.ref t, .ref a0]) (st_q := [.ref t]) rfl rfl rfl ?_
  refine ex_lo pm_M58 (pc_q := 56) (ls_q := [.ref t, .ref a0]) (st_q := [.ref a0, .ref t]) rfl rfl rfl ?_
  refine ex_call pm_M58 (pc_q := 59) (ix := 62) (callee := 59) (np := 1) (kd := 0) (ra := [.ref a0, .ref t]) (rest := []) rfl rfl rfl rfl pm_M59 rfl rfl rfl rfl (fun d9 => (H59 _ d9 t a0 (ex_cp (ex_sx (ex_sx (ex_sx (ex_cp S b3 0 b1 0 600) t 1 ((ex_cp S b3 0 b1 0 600).1 a0 1)) t 2 ((ex_sx (ex_cp S b3 0 b1 0 600) t 1 ((ex_cp S b3 0 b1 0 600).1 a0 1)).1 a0 2)) t 3 ((ex_sx (ex_sx (ex_cp S b3 0 b1 0 600) t 1 ((ex_cp S b3 0 b1 0 600).1 a0 1)) t 2 ((ex_sx (ex_cp S b3 0 b1 0 600) t 1 ((ex_cp S b3 0 b1 0 600).1 a0 1)).1 a0 2)).1 a0 3)) b7 0 b5 0 4)).mono (fun r S11 e => ?_))
  obtain ⟨rfl, h12⟩ := e
  show ex_P _ _ 58 59 [.ref t, .ref a0] [] S11 _
  exact ex_ret pm_M58 (r := none) rfl rfl (⟨rfl, v0 t a0 S b1 c2 b3 c4 b5 c6 b7 c8 S11 h12⟩)
set_option maxRecDepth 100000 in
set_option maxHeartbeats 4000000 in
/-- SilentTable.image -/
theorem ev57 {C : Int32 → ex_S → Int32 → ex_S → Prop} {C2 : Nat → ex_S → ex_S → Prop} {C58 : Nat → Nat → ex_S → ex_S → Prop} (H2 : es2 C2) (H58 : es58 C58) 
    (v0 : ∀ (a0 : Int32) (S : ex_S), a0 < 0 → C a0 S 0 S) 
    (v1 : ∀ (a0 : Int32) (S : ex_S), ¬ (a0 < 0) → a0 < 3 → ∀ (b4 : Nat), S.2.2.1 24 a0.toNatClampNeg = some b4 → ∀ (S7 : ex_S), C58 b4 17 S S7 → C a0 S 1 S7) 
    (v2 : ∀ (a0 : Int32) (S : ex_S), ¬ (a0 < 0) → a0 < 3 → S.2.2.1 24 a0.toNatClampNeg = none → 72 ≤ S.2.2.2.2 → ∀ (S12 : ex_S), C2 S.2.2.2.2 (ex_new S 0) S12 → ∀ (b14 : Nat), some S.2.2.2.2 = some b14 → ∀ (S18 : ex_S), C58 b14 17 (ex_sz S12 24 a0.toNatClampNeg (some S.2.2.2.2)) S18 → C a0 S 1 S18) 
    (v3 : ∀ (a0 : Int32) (S : ex_S), ¬ (a0 < 0) → ¬ (a0 < 3) → C a0 S 0 S) : es57 C := by
  intro N d a0 S
  refine ex_lo pm_M57 (pc_q := 1) (ls_q := [.ref 16, .int a0]) (st_q := [.int a0]) rfl rfl rfl ?_
  refine ex_ifc pm_M57 (t := 9) (pc_q := 4) rfl rfl rfl (fun c1 => ?_) (fun c1 => ?_)
  · -- a0 < 0
    refine ex_op pm_M57 (pc_q := 10) (st_q := [.int 0]) rfl rfl rfl ?_
    exact ex_retI pm_M57 rfl (⟨_, rfl, v0 a0 S c1⟩)
  · -- not
    refine ex_lo pm_M57 (pc_q := 5) (ls_q := [.ref 16, .int a0]) (st_q := [.int a0]) rfl rfl rfl ?_
    refine ex_op pm_M57 (pc_q := 6) (st_q := [.int 3, .int a0]) rfl rfl rfl ?_
    refine ex_icmp pm_M57 (t := 11) (pc_q := 9) rfl rfl rfl (fun c2 => ?_) (fun c2 => ?_)
    · -- a0 < 3
      refine ex_lo pm_M57 (pc_q := 12) (ls_q := [.ref 16, .int a0]) (st_q := [.ref 16]) rfl rfl rfl ?_
      refine ex_getK pm_M57 (pc_q := 15) (j := 1) (b := 24) rfl rfl rfl rfl rfl ?_
      refine ex_lo pm_M57 (pc_q := 16) (ls_q := [.ref 16, .int a0]) (st_q := [.int a0, .ref 24]) rfl rfl rfl ?_
      refine ex_aald' pm_M57 (pc_q := 17) (v := S.2.2.1 24 a0.toNatClampNeg) rfl rfl rfl ?_
      refine ex_ifnn pm_M57 (t := 33) (pc_q := 20) (o := S.2.2.1 24 a0.toNatClampNeg) rfl rfl rfl rfl (fun b4 c3 => ?_) (fun c3 => ?_)
      ·
        refine ex_lo pm_M57 (pc_q := 34) (ls_q := [.ref 16, .int a0]) (st_q := [.ref 16]) rfl rfl rfl ?_
        refine ex_getK pm_M57 (pc_q := 37) (j := 1) (b := 24) rfl rfl rfl rfl rfl ?_
        refine ex_lo pm_M57 (pc_q := 38) (ls_q := [.ref 16, .int a0]) (st_q := [.int a0, .ref 24]) rfl rfl rfl ?_
        refine ex_aald' pm_M57 (pc_q := 39) (v := S.2.2.1 24 a0.toNatClampNeg) rfl rfl rfl ?_
        refine ex_lo pm_M57 (pc_q := 40) (ls_q := [.ref 16, .int a0]) (st_q := [.ref 16, va_rf (S.2.2.1 24 a0.toNatClampNeg)]) rfl rfl rfl ?_
        refine ex_getK pm_M57 (pc_q := 43) (j := 0) (b := 17) rfl rfl rfl rfl rfl ?_
        refine ex_stc (st_q := [.ref 17, .ref b4]) (by rw [(congrArg va_rf c3 : va_rf (S.2.2.1 24 a0.toNatClampNeg) = Value.ref b4)] <;> rfl) ?_
        refine ex_call pm_M57 (pc_q := 46) (ix := 128) (callee := 58) (np := 1) (kd := 0) (ra := [.ref 17, .ref b4]) (rest := []) rfl rfl rfl rfl pm_M58 rfl rfl rfl rfl (fun d5 => (H58 _ d5 b4 17 S).mono (fun r S7 e => ?_))
        obtain ⟨rfl, h8⟩ := e
        show ex_P _ _ 57 46 [.ref 16, .int a0] [] S7 _
        refine ex_op pm_M57 (pc_q := 47) (st_q := [.int 1]) rfl rfl rfl ?_
        exact ex_retI pm_M57 rfl (⟨_, rfl, v1 a0 S c1 c2 b4 c3 S7 h8⟩)
      ·
        refine ex_lo pm_M57 (pc_q := 21) (ls_q := [.ref 16, .int a0]) (st_q := [.ref 16]) rfl rfl rfl ?_
        refine ex_getK pm_M57 (pc_q := 24) (j := 1) (b := 24) rfl rfl rfl rfl rfl ?_
        refine ex_lo pm_M57 (pc_q := 25) (ls_q := [.ref 16, .int a0]) (st_q := [.int a0, .ref 24]) rfl rfl rfl ?_
        refine ex_top (fun k9 => ?_)
        change 72 ≤ S.2.2.2.2 at k9
        refine ex_new1 pm_M57 (pc_q := 28) rfl rfl rfl rfl ?_
        show ex_P _ _ 57 28 [.ref 16, .int a0] [.ref S.2.2.2.2, .int a0, .ref 24] (ex_new S 0) _
        refine ex_op pm_M57 (pc_q := 29) (st_q := [.ref S.2.2.2.2, .ref S.2.2.2.2, .int a0, .ref 24]) rfl rfl rfl ?_
        refine ex_call pm_M57 (pc_q := 32) (ix := 13) (callee := 2) (np := 0) (kd := 4) (ra := [.ref S.2.2.2.2]) (rest := [.ref S.2.2.2.2, .int a0, .ref 24]) rfl rfl rfl rfl pm_M2 rfl rfl rfl rfl (fun d10 => (H2 _ d10 S.2.2.2.2 (ex_new S 0) k9).mono (fun r S12 e => ?_))
        obtain ⟨rfl, h13⟩ := e
        show ex_P _ _ 57 32 [.ref 16, .int a0] [.ref S.2.2.2.2, .int a0, .ref 24] S12 _
        refine ex_aast pm_M57 (pc_q := 33) (o := some S.2.2.2.2) rfl rfl rfl ?_
        refine ex_lo pm_M57 (pc_q := 34) (ls_q := [.ref 16, .int a0]) (st_q := [.ref 16]) rfl rfl rfl ?_
        refine ex_getK pm_M57 (pc_q := 37) (j := 1) (b := 24) rfl rfl rfl rfl rfl ?_
        refine ex_lo pm_M57 (pc_q := 38) (ls_q := [.ref 16, .int a0]) (st_q := [.int a0, .ref 24]) rfl rfl rfl ?_
        refine ex_aald' pm_M57 (pc_q := 39) (v := some S.2.2.2.2) rfl rfl (by first | rfl | exact if_pos ⟨rfl, rfl⟩) ?_
        refine ex_lo pm_M57 (pc_q := 40) (ls_q := [.ref 16, .int a0]) (st_q := [.ref 16, va_rf (some S.2.2.2.2)]) rfl rfl rfl ?_
        refine ex_getK pm_M57 (pc_q := 43) (j := 0) (b := 17) rfl rfl rfl rfl rfl ?_
        refine ex_oc (o := some S.2.2.2.2) (fun c15 => ?_) (fun b14 c15 => ?_)
        · refine ex_stc (st_q := [.ref 17, .null]) (by rw [(congrArg va_rf c15 : va_rf (some S.2.2.2.2) = Value.null)] <;> rfl) ?_
          exact ex_ncn pm_M57 (ix := 128) (callee := 58) (np := 1) (kd := 0) (ra := [.ref 17, .null]) (rest := []) rfl rfl rfl rfl rfl rfl (by decide) (fun _ _ => rfl)
        refine ex_stc (st_q := [.ref 17, .ref b14]) (by rw [(congrArg va_rf c15 : va_rf (some S.2.2.2.2) = Value.ref b14)] <;> rfl) ?_
        refine ex_call pm_M57 (pc_q := 46) (ix := 128) (callee := 58) (np := 1) (kd := 0) (ra := [.ref 17, .ref b14]) (rest := []) rfl rfl rfl rfl pm_M58 rfl rfl rfl rfl (fun d16 => (H58 _ d16 b14 17 (ex_sz S12 24 a0.toNatClampNeg (some S.2.2.2.2))).mono (fun r S18 e => ?_))
        obtain ⟨rfl, h19⟩ := e
        show ex_P _ _ 57 46 [.ref 16, .int a0] [] S18 _
        refine ex_op pm_M57 (pc_q := 47) (st_q := [.int 1]) rfl rfl rfl ?_
        exact ex_retI pm_M57 rfl (⟨_, rfl, v2 a0 S c1 c2 c3 k9 S12 h13 b14 c15 S18 h19⟩)
    · -- not
      refine ex_op pm_M57 (pc_q := 10) (st_q := [.int 0]) rfl rfl rfl ?_
      exact ex_retI pm_M57 rfl (⟨_, rfl, v3 a0 S c1 c2⟩)
set_option maxRecDepth 100000 in
set_option maxHeartbeats 4000000 in
/-- SilentTable.again -/
theorem ev60 {C : Int32 → ex_S → Int32 → ex_S → Prop} {C58 : Nat → Nat → ex_S → ex_S → Prop} (H58 : es58 C58) 
    (v0 : ∀ (a0 : Int32) (S : ex_S), a0 < 0 → C a0 S 0 S) 
    (v1 : ∀ (a0 : Int32) (S : ex_S), ¬ (a0 < 0) → 3 ≤ a0 → C a0 S 0 S) 
    (v2 : ∀ (a0 : Int32) (S : ex_S), ¬ (a0 < 0) → ¬ (3 ≤ a0) → ∀ (b4 : Nat), S.2.2.1 24 a0.toNatClampNeg = some b4 → ∀ (S7 : ex_S), C58 17 b4 S S7 → C a0 S 1 S7) 
    (v3 : ∀ (a0 : Int32) (S : ex_S), ¬ (a0 < 0) → ¬ (3 ≤ a0) → S.2.2.1 24 a0.toNatClampNeg = none → C a0 S 0 S) : es60 C := by
  intro N d a0 S
  refine ex_lo pm_M60 (pc_q := 1) (ls_q := [.ref 16, .int a0]) (st_q := [.int a0]) rfl rfl rfl ?_
  refine ex_ifc pm_M60 (t := 18) (pc_q := 4) rfl rfl rfl (fun c1 => ?_) (fun c1 => ?_)
  · -- a0 < 0
    refine ex_op pm_M60 (pc_q := 19) (st_q := [.int 0]) rfl rfl rfl ?_
    exact ex_retI pm_M60 rfl (⟨_, rfl, v0 a0 S c1⟩)
  · -- not
    refine ex_lo pm_M60 (pc_q := 5) (ls_q := [.ref 16, .int a0]) (st_q := [.int a0]) rfl rfl rfl ?_
    refine ex_op pm_M60 (pc_q := 6) (st_q := [.int 3, .int a0]) rfl rfl rfl ?_
    refine ex_icmp pm_M60 (t := 18) (pc_q := 9) rfl rfl rfl (fun c2 => ?_) (fun c2 => ?_)
    · -- 3 ≤ a0
      refine ex_op pm_M60 (pc_q := 19) (st_q := [.int 0]) rfl rfl rfl ?_
      exact ex_retI pm_M60 rfl (⟨_, rfl, v1 a0 S c1 c2⟩)
    · -- not
      refine ex_lo pm_M60 (pc_q := 10) (ls_q := [.ref 16, .int a0]) (st_q := [.ref 16]) rfl rfl rfl ?_
      refine ex_getK pm_M60 (pc_q := 13) (j := 1) (b := 24) rfl rfl rfl rfl rfl ?_
      refine ex_lo pm_M60 (pc_q := 14) (ls_q := [.ref 16, .int a0]) (st_q := [.int a0, .ref 24]) rfl rfl rfl ?_
      refine ex_aald' pm_M60 (pc_q := 15) (v := S.2.2.1 24 a0.toNatClampNeg) rfl rfl rfl ?_
      refine ex_ifnn pm_M60 (t := 20) (pc_q := 18) (o := S.2.2.1 24 a0.toNatClampNeg) rfl rfl rfl rfl (fun b4 c3 => ?_) (fun c3 => ?_)
      ·
        refine ex_lo pm_M60 (pc_q := 21) (ls_q := [.ref 16, .int a0]) (st_q := [.ref 16]) rfl rfl rfl ?_
        refine ex_getK pm_M60 (pc_q := 24) (j := 0) (b := 17) rfl rfl rfl rfl rfl ?_
        refine ex_lo pm_M60 (pc_q := 25) (ls_q := [.ref 16, .int a0]) (st_q := [.ref 16, .ref 17]) rfl rfl rfl ?_
        refine ex_getK pm_M60 (pc_q := 28) (j := 1) (b := 24) rfl rfl rfl rfl rfl ?_
        refine ex_lo pm_M60 (pc_q := 29) (ls_q := [.ref 16, .int a0]) (st_q := [.int a0, .ref 24, .ref 17]) rfl rfl rfl ?_
        refine ex_aald' pm_M60 (pc_q := 30) (v := S.2.2.1 24 a0.toNatClampNeg) rfl rfl rfl ?_
        refine ex_stc (st_q := [.ref b4, .ref 17]) (by rw [(congrArg va_rf c3 : va_rf (S.2.2.1 24 a0.toNatClampNeg) = Value.ref b4)] <;> rfl) ?_
        refine ex_call pm_M60 (pc_q := 33) (ix := 128) (callee := 58) (np := 1) (kd := 0) (ra := [.ref b4, .ref 17]) (rest := []) rfl rfl rfl rfl pm_M58 rfl rfl rfl rfl (fun d5 => (H58 _ d5 17 b4 S).mono (fun r S7 e => ?_))
        obtain ⟨rfl, h8⟩ := e
        show ex_P _ _ 60 33 [.ref 16, .int a0] [] S7 _
        refine ex_op pm_M60 (pc_q := 34) (st_q := [.int 1]) rfl rfl rfl ?_
        exact ex_retI pm_M60 rfl (⟨_, rfl, v2 a0 S c1 c2 b4 c3 S7 h8⟩)
      ·
        refine ex_op pm_M60 (pc_q := 19) (st_q := [.int 0]) rfl rfl rfl ?_
        exact ex_retI pm_M60 rfl (⟨_, rfl, v3 a0 S c1 c2 c3⟩)
