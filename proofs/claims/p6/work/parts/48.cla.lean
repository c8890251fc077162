section
/-! drawn: a place among the set bits of a number below 1024 -/
def cl_us (x : Int64) (y : Int32) : Int64 := (x.toUInt64 >>> (y.toInt64.toUInt64 &&& Int64.toUInt64 63)).toInt64
def cl_ui (x y : Int32) : Int32 := (x.toUInt32 >>> (y.toUInt32 &&& Int32.toUInt32 31)).toInt32
def cl_bl (a : Int64) : Int32 :=
  (((((((((a - ((cl_us a 1) &&& 6148914691236517205)) &&& 3689348814741910323) + ((cl_us (a - ((cl_us a 1) &&& 6148914691236517205)) 2) &&& 3689348814741910323)) + (cl_us (((a - ((cl_us a 1) &&& 6148914691236517205)) &&& 3689348814741910323) + ((cl_us (a - ((cl_us a 1) &&& 6148914691236517205)) 2) &&& 3689348814741910323)) 4)) &&& 1085102592571150095) + (cl_us (((((a - ((cl_us a 1) &&& 6148914691236517205)) &&& 3689348814741910323) + ((cl_us (a - ((cl_us a 1) &&& 6148914691236517205)) 2) &&& 3689348814741910323)) + (cl_us (((a - ((cl_us a 1) &&& 6148914691236517205)) &&& 3689348814741910323) + ((cl_us (a - ((cl_us a 1) &&& 6148914691236517205)) 2) &&& 3689348814741910323)) 4)) &&& 1085102592571150095) 8)) + (cl_us ((((((a - ((cl_us a 1) &&& 6148914691236517205)) &&& 3689348814741910323) + ((cl_us (a - ((cl_us a 1) &&& 6148914691236517205)) 2) &&& 3689348814741910323)) + (cl_us (((a - ((cl_us a 1) &&& 6148914691236517205)) &&& 3689348814741910323) + ((cl_us (a - ((cl_us a 1) &&& 6148914691236517205)) 2) &&& 3689348814741910323)) 4)) &&& 1085102592571150095) + (cl_us (((((a - ((cl_us a 1) &&& 6148914691236517205)) &&& 3689348814741910323) + ((cl_us (a - ((cl_us a 1) &&& 6148914691236517205)) 2) &&& 3689348814741910323)) + (cl_us (((a - ((cl_us a 1) &&& 6148914691236517205)) &&& 3689348814741910323) + ((cl_us (a - ((cl_us a 1) &&& 6148914691236517205)) 2) &&& 3689348814741910323)) 4)) &&& 1085102592571150095) 8)) 16)) + (cl_us (((((((a - ((cl_us a 1) &&& 6148914691236517205)) &&& 3689348814741910323) + ((cl_us (a - ((cl_us a 1) &&& 6148914691236517205)) 2) &&& 3689348814741910323)) + (cl_us (((a - ((cl_us a 1) &&& 6148914691236517205)) &&& 3689348814741910323) + ((cl_us (a - ((cl_us a 1) &&& 6148914691236517205)) 2) &&& 3689348814741910323)) 4)) &&& 1085102592571150095) + (cl_us (((((a - ((cl_us a 1) &&& 6148914691236517205)) &&& 3689348814741910323) + ((cl_us (a - ((cl_us a 1) &&& 6148914691236517205)) 2) &&& 3689348814741910323)) + (cl_us (((a - ((cl_us a 1) &&& 6148914691236517205)) &&& 3689348814741910323) + ((cl_us (a - ((cl_us a 1) &&& 6148914691236517205)) 2) &&& 3689348814741910323)) 4)) &&& 1085102592571150095) 8)) + (cl_us ((((((a - ((cl_us a 1) &&& 6148914691236517205)) &&& 3689348814741910323) + ((cl_us (a - ((cl_us a 1) &&& 6148914691236517205)) 2) &&& 3689348814741910323)) + (cl_us (((a - ((cl_us a 1) &&& 6148914691236517205)) &&& 3689348814741910323) + ((cl_us (a - ((cl_us a 1) &&& 6148914691236517205)) 2) &&& 3689348814741910323)) 4)) &&& 1085102592571150095) + (cl_us (((((a - ((cl_us a 1) &&& 6148914691236517205)) &&& 3689348814741910323) + ((cl_us (a - ((cl_us a 1) &&& 6148914691236517205)) 2) &&& 3689348814741910323)) + (cl_us (((a - ((cl_us a 1) &&& 6148914691236517205)) &&& 3689348814741910323) + ((cl_us (a - ((cl_us a 1) &&& 6148914691236517205)) 2) &&& 3689348814741910323)) 4)) &&& 1085102592571150095) 8)) 16)) 32)).toInt32) &&& 127
set_option maxRecDepth 100000 in
theorem cl_e108 {d : Nat} {h : pm_H} {Q : Option Value → pm_H → Prop} {a : Int64} (K : Q (some (.int (cl_bl a))) h) : pm_R (d + 0) 108 0 [.long a, pm_no] [] h Q := by
  refine pm_R_lo pm_M108 (pc' := 1) rfl rfl rfl ?_
  refine pm_R_lo pm_M108 (pc' := 2) rfl rfl rfl ?_
  refine pm_R_op pm_M108 (pc' := 3) (st' := [.int 1, .long a, .long a]) rfl rfl rfl ?_
  obtain ⟨z1, e1⟩ : ∃ y, cl_us a 1 = y := ⟨_, rfl⟩
  refine pm_R_op pm_M108 (pc' := 4) (st' := [.long z1, .long a]) rfl (congrArg (fun y => some (Value.long y :: [.long a])) e1) rfl ?_
  refine pm_R_ldc2 pm_M108 (pc' := 7) rfl rfl rfl ?_
  obtain ⟨z2, e2⟩ : ∃ y, z1 &&& 6148914691236517205 = y := ⟨_, rfl⟩
  refine pm_R_op pm_M108 (pc' := 8) (st' := [.long z2, .long a]) rfl (congrArg (fun y => some (Value.long y :: [.long a])) e2) rfl ?_
  obtain ⟨z3, e3⟩ : ∃ y, a - z2 = y := ⟨_, rfl⟩
  refine pm_R_op pm_M108 (pc' := 9) (st' := [.long z3]) rfl (congrArg (fun y => some (Value.long y :: [])) e3) rfl ?_
  refine pm_R_lo pm_M108 (pc' := 10) (ls' := [.long z3, pm_no]) (st' := []) rfl rfl rfl ?_
  refine pm_R_lo pm_M108 (pc' := 11) rfl rfl rfl ?_
  refine pm_R_ldc2 pm_M108 (pc' := 14) rfl rfl rfl ?_
  obtain ⟨z4, e4⟩ : ∃ y, z3 &&& 3689348814741910323 = y := ⟨_, rfl⟩
  refine pm_R_op pm_M108 (pc' := 15) (st' := [.long z4]) rfl (congrArg (fun y => some (Value.long y :: [])) e4) rfl ?_
  refine pm_R_lo pm_M108 (pc' := 16) rfl rfl rfl ?_
  refine pm_R_op pm_M108 (pc' := 17) (st' := [.int 2, .long z3, .long z4]) rfl rfl rfl ?_
  obtain ⟨z5, e5⟩ : ∃ y, cl_us z3 2 = y := ⟨_, rfl⟩
  refine pm_R_op pm_M108 (pc' := 18) (st' := [.long z5, .long z4]) rfl (congrArg (fun y => some (Value.long y :: [.long z4])) e5) rfl ?_
  refine pm_R_ldc2 pm_M108 (pc' := 21) rfl rfl rfl ?_
  obtain ⟨z6, e6⟩ : ∃ y, z5 &&& 3689348814741910323 = y := ⟨_, rfl⟩
  refine pm_R_op pm_M108 (pc' := 22) (st' := [.long z6, .long z4]) rfl (congrArg (fun y => some (Value.long y :: [.long z4])) e6) rfl ?_
  obtain ⟨z7, e7⟩ : ∃ y, z4 + z6 = y := ⟨_, rfl⟩
  refine pm_R_op pm_M108 (pc' := 23) (st' := [.long z7]) rfl (congrArg (fun y => some (Value.long y :: [])) e7) rfl ?_
  refine pm_R_lo pm_M108 (pc' := 24) (ls' := [.long z7, pm_no]) (st' := []) rfl rfl rfl ?_
  refine pm_R_lo pm_M108 (pc' := 25) rfl rfl rfl ?_
  refine pm_R_lo pm_M108 (pc' := 26) rfl rfl rfl ?_
  refine pm_R_op pm_M108 (pc' := 27) (st' := [.int 4, .long z7, .long z7]) rfl rfl rfl ?_
  obtain ⟨z8, e8⟩ : ∃ y, cl_us z7 4 = y := ⟨_, rfl⟩
  refine pm_R_op pm_M108 (pc' := 28) (st' := [.long z8, .long z7]) rfl (congrArg (fun y => some (Value.long y :: [.long z7])) e8) rfl ?_
  obtain ⟨z9, e9⟩ : ∃ y, z7 + z8 = y := ⟨_, rfl⟩
  refine pm_R_op pm_M108 (pc' := 29) (st' := [.long z9]) rfl (congrArg (fun y => some (Value.long y :: [])) e9) rfl ?_
  refine pm_R_ldc2 pm_M108 (pc' := 32) rfl rfl rfl ?_
  obtain ⟨z10, e10⟩ : ∃ y, z9 &&& 1085102592571150095 = y := ⟨_, rfl⟩
  refine pm_R_op pm_M108 (pc' := 33) (st' := [.long z10]) rfl (congrArg (fun y => some (Value.long y :: [])) e10) rfl ?_
  refine pm_R_lo pm_M108 (pc' := 34) (ls' := [.long z10, pm_no]) (st' := []) rfl rfl rfl ?_
  refine pm_R_lo pm_M108 (pc' := 35) rfl rfl rfl ?_
  refine pm_R_lo pm_M108 (pc' := 36) rfl rfl rfl ?_
  refine pm_R_op pm_M108 (pc' := 38) (st' := [.int 8, .long z10, .long z10]) rfl rfl rfl ?_
  obtain ⟨z11, e11⟩ : ∃ y, cl_us z10 8 = y := ⟨_, rfl⟩
  refine pm_R_op pm_M108 (pc' := 39) (st' := [.long z11, .long z10]) rfl (congrArg (fun y => some (Value.long y :: [.long z10])) e11) rfl ?_
  obtain ⟨z12, e12⟩ : ∃ y, z10 + z11 = y := ⟨_, rfl⟩
  refine pm_R_op pm_M108 (pc' := 40) (st' := [.long z12]) rfl (congrArg (fun y => some (Value.long y :: [])) e12) rfl ?_
  refine pm_R_lo pm_M108 (pc' := 41) (ls' := [.long z12, pm_no]) (st' := []) rfl rfl rfl ?_
  refine pm_R_lo pm_M108 (pc' := 42) rfl rfl rfl ?_
  refine pm_R_lo pm_M108 (pc' := 43) rfl rfl rfl ?_
  refine pm_R_op pm_M108 (pc' := 45) (st' := [.int 16, .long z12, .long z12]) rfl rfl rfl ?_
  obtain ⟨z13, e13⟩ : ∃ y, cl_us z12 16 = y := ⟨_, rfl⟩
  refine pm_R_op pm_M108 (pc' := 46) (st' := [.long z13, .long z12]) rfl (congrArg (fun y => some (Value.long y :: [.long z12])) e13) rfl ?_
  obtain ⟨z14, e14⟩ : ∃ y, z12 + z13 = y := ⟨_, rfl⟩
  refine pm_R_op pm_M108 (pc' := 47) (st' := [.long z14]) rfl (congrArg (fun y => some (Value.long y :: [])) e14) rfl ?_
  refine pm_R_lo pm_M108 (pc' := 48) (ls' := [.long z14, pm_no]) (st' := []) rfl rfl rfl ?_
  refine pm_R_lo pm_M108 (pc' := 49) rfl rfl rfl ?_
  refine pm_R_lo pm_M108 (pc' := 50) rfl rfl rfl ?_
  refine pm_R_op pm_M108 (pc' := 52) (st' := [.int 32, .long z14, .long z14]) rfl rfl rfl ?_
  obtain ⟨z15, e15⟩ : ∃ y, cl_us z14 32 = y := ⟨_, rfl⟩
  refine pm_R_op pm_M108 (pc' := 53) (st' := [.long z15, .long z14]) rfl (congrArg (fun y => some (Value.long y :: [.long z14])) e15) rfl ?_
  obtain ⟨z16, e16⟩ : ∃ y, z14 + z15 = y := ⟨_, rfl⟩
  refine pm_R_op pm_M108 (pc' := 54) (st' := [.long z16]) rfl (congrArg (fun y => some (Value.long y :: [])) e16) rfl ?_
  refine pm_R_lo pm_M108 (pc' := 55) (ls' := [.long z16, pm_no]) (st' := []) rfl rfl rfl ?_
  refine pm_R_lo pm_M108 (pc' := 56) rfl rfl rfl ?_
  obtain ⟨z17, e17⟩ : ∃ y, z16.toInt32 = y := ⟨_, rfl⟩
  refine pm_R_op pm_M108 (pc' := 57) (st' := [.int z17]) rfl (congrArg (fun y => some (Value.int y :: [])) e17) rfl ?_
  refine pm_R_op pm_M108 (pc' := 59) (st' := [.int 127, .int z17]) rfl rfl rfl ?_
  obtain ⟨z18, e18⟩ : ∃ y, z17 &&& 127 = y := ⟨_, rfl⟩
  refine pm_R_op pm_M108 (pc' := 60) (st' := [.int z18]) rfl (congrArg (fun y => some (Value.int y :: [])) e18) rfl ?_
  have hz : cl_bl a = z18 := by unfold cl_bl; rw [e1, e2, e3, e4, e5, e6, e7, e8, e9, e10, e11, e12, e13, e14, e15, e16, e17, e18]
  exact pm_R_ret pm_M108 (r := some (.int z18)) rfl (pm_ret_i _) (by rw [← hz]; exact K)
def cl_bi (a : Int32) : Int32 :=
  (((((((a - ((cl_ui a 1) &&& 1431655765)) &&& 858993459) + ((cl_ui (a - ((cl_ui a 1) &&& 1431655765)) 2) &&& 858993459)) + (cl_ui (((a - ((cl_ui a 1) &&& 1431655765)) &&& 858993459) + ((cl_ui (a - ((cl_ui a 1) &&& 1431655765)) 2) &&& 858993459)) 4)) &&& 252645135) + (cl_ui (((((a - ((cl_ui a 1) &&& 1431655765)) &&& 858993459) + ((cl_ui (a - ((cl_ui a 1) &&& 1431655765)) 2) &&& 858993459)) + (cl_ui (((a - ((cl_ui a 1) &&& 1431655765)) &&& 858993459) + ((cl_ui (a - ((cl_ui a 1) &&& 1431655765)) 2) &&& 858993459)) 4)) &&& 252645135) 8)) + (cl_ui ((((((a - ((cl_ui a 1) &&& 1431655765)) &&& 858993459) + ((cl_ui (a - ((cl_ui a 1) &&& 1431655765)) 2) &&& 858993459)) + (cl_ui (((a - ((cl_ui a 1) &&& 1431655765)) &&& 858993459) + ((cl_ui (a - ((cl_ui a 1) &&& 1431655765)) 2) &&& 858993459)) 4)) &&& 252645135) + (cl_ui (((((a - ((cl_ui a 1) &&& 1431655765)) &&& 858993459) + ((cl_ui (a - ((cl_ui a 1) &&& 1431655765)) 2) &&& 858993459)) + (cl_ui (((a - ((cl_ui a 1) &&& 1431655765)) &&& 858993459) + ((cl_ui (a - ((cl_ui a 1) &&& 1431655765)) 2) &&& 858993459)) 4)) &&& 252645135) 8)) 16)) &&& 63
set_option maxRecDepth 100000 in
theorem cl_e116 {d : Nat} {h : pm_H} {Q : Option Value → pm_H → Prop} {a : Int32} (K : Q (some (.int (cl_bi a))) h) : pm_R (d + 0) 116 0 [.int a] [] h Q := by
  refine pm_R_lo pm_M116 (pc' := 1) rfl rfl rfl ?_
  refine pm_R_lo pm_M116 (pc' := 2) rfl rfl rfl ?_
  refine pm_R_op pm_M116 (pc' := 3) (st' := [.int 1, .int a, .int a]) rfl rfl rfl ?_
  obtain ⟨z1, e1⟩ : ∃ y, cl_ui a 1 = y := ⟨_, rfl⟩
  refine pm_R_op pm_M116 (pc' := 4) (st' := [.int z1, .int a]) rfl (congrArg (fun y => some (Value.int y :: [.int a])) e1) rfl ?_
  refine pm_R_ldcw pm_M116 (pc' := 7) rfl rfl rfl ?_
  obtain ⟨z2, e2⟩ : ∃ y, z1 &&& 1431655765 = y := ⟨_, rfl⟩
  refine pm_R_op pm_M116 (pc' := 8) (st' := [.int z2, .int a]) rfl (congrArg (fun y => some (Value.int y :: [.int a])) e2) rfl ?_
  obtain ⟨z3, e3⟩ : ∃ y, a - z2 = y := ⟨_, rfl⟩
  refine pm_R_op pm_M116 (pc' := 9) (st' := [.int z3]) rfl (congrArg (fun y => some (Value.int y :: [])) e3) rfl ?_
  refine pm_R_lo pm_M116 (pc' := 10) (ls' := [.int z3]) (st' := []) rfl rfl rfl ?_
  refine pm_R_lo pm_M116 (pc' := 11) rfl rfl rfl ?_
  refine pm_R_ldcw pm_M116 (pc' := 14) rfl rfl rfl ?_
  obtain ⟨z4, e4⟩ : ∃ y, z3 &&& 858993459 = y := ⟨_, rfl⟩
  refine pm_R_op pm_M116 (pc' := 15) (st' := [.int z4]) rfl (congrArg (fun y => some (Value.int y :: [])) e4) rfl ?_
  refine pm_R_lo pm_M116 (pc' := 16) rfl rfl rfl ?_
  refine pm_R_op pm_M116 (pc' := 17) (st' := [.int 2, .int z3, .int z4]) rfl rfl rfl ?_
  obtain ⟨z5, e5⟩ : ∃ y, cl_ui z3 2 = y := ⟨_, rfl⟩
  refine pm_R_op pm_M116 (pc' := 18) (st' := [.int z5, .int z4]) rfl (congrArg (fun y => some (Value.int y :: [.int z4])) e5) rfl ?_
  refine pm_R_ldcw pm_M116 (pc' := 21) rfl rfl rfl ?_
  obtain ⟨z6, e6⟩ : ∃ y, z5 &&& 858993459 = y := ⟨_, rfl⟩
  refine pm_R_op pm_M116 (pc' := 22) (st' := [.int z6, .int z4]) rfl (congrArg (fun y => some (Value.int y :: [.int z4])) e6) rfl ?_
  obtain ⟨z7, e7⟩ : ∃ y, z4 + z6 = y := ⟨_, rfl⟩
  refine pm_R_op pm_M116 (pc' := 23) (st' := [.int z7]) rfl (congrArg (fun y => some (Value.int y :: [])) e7) rfl ?_
  refine pm_R_lo pm_M116 (pc' := 24) (ls' := [.int z7]) (st' := []) rfl rfl rfl ?_
  refine pm_R_lo pm_M116 (pc' := 25) rfl rfl rfl ?_
  refine pm_R_lo pm_M116 (pc' := 26) rfl rfl rfl ?_
  refine pm_R_op pm_M116 (pc' := 27) (st' := [.int 4, .int z7, .int z7]) rfl rfl rfl ?_
  obtain ⟨z8, e8⟩ : ∃ y, cl_ui z7 4 = y := ⟨_, rfl⟩
  refine pm_R_op pm_M116 (pc' := 28) (st' := [.int z8, .int z7]) rfl (congrArg (fun y => some (Value.int y :: [.int z7])) e8) rfl ?_
  obtain ⟨z9, e9⟩ : ∃ y, z7 + z8 = y := ⟨_, rfl⟩
  refine pm_R_op pm_M116 (pc' := 29) (st' := [.int z9]) rfl (congrArg (fun y => some (Value.int y :: [])) e9) rfl ?_
  refine pm_R_ldcw pm_M116 (pc' := 32) rfl rfl rfl ?_
  obtain ⟨z10, e10⟩ : ∃ y, z9 &&& 252645135 = y := ⟨_, rfl⟩
  refine pm_R_op pm_M116 (pc' := 33) (st' := [.int z10]) rfl (congrArg (fun y => some (Value.int y :: [])) e10) rfl ?_
  refine pm_R_lo pm_M116 (pc' := 34) (ls' := [.int z10]) (st' := []) rfl rfl rfl ?_
  refine pm_R_lo pm_M116 (pc' := 35) rfl rfl rfl ?_
  refine pm_R_lo pm_M116 (pc' := 36) rfl rfl rfl ?_
  refine pm_R_op pm_M116 (pc' := 38) (st' := [.int 8, .int z10, .int z10]) rfl rfl rfl ?_
  obtain ⟨z11, e11⟩ : ∃ y, cl_ui z10 8 = y := ⟨_, rfl⟩
  refine pm_R_op pm_M116 (pc' := 39) (st' := [.int z11, .int z10]) rfl (congrArg (fun y => some (Value.int y :: [.int z10])) e11) rfl ?_
  obtain ⟨z12, e12⟩ : ∃ y, z10 + z11 = y := ⟨_, rfl⟩
  refine pm_R_op pm_M116 (pc' := 40) (st' := [.int z12]) rfl (congrArg (fun y => some (Value.int y :: [])) e12) rfl ?_
  refine pm_R_lo pm_M116 (pc' := 41) (ls' := [.int z12]) (st' := []) rfl rfl rfl ?_
  refine pm_R_lo pm_M116 (pc' := 42) rfl rfl rfl ?_
  refine pm_R_lo pm_M116 (pc' := 43) rfl rfl rfl ?_
  refine pm_R_op pm_M116 (pc' := 45) (st' := [.int 16, .int z12, .int z12]) rfl rfl rfl ?_
  obtain ⟨z13, e13⟩ : ∃ y, cl_ui z12 16 = y := ⟨_, rfl⟩
  refine pm_R_op pm_M116 (pc' := 46) (st' := [.int z13, .int z12]) rfl (congrArg (fun y => some (Value.int y :: [.int z12])) e13) rfl ?_
  obtain ⟨z14, e14⟩ : ∃ y, z12 + z13 = y := ⟨_, rfl⟩
  refine pm_R_op pm_M116 (pc' := 47) (st' := [.int z14]) rfl (congrArg (fun y => some (Value.int y :: [])) e14) rfl ?_
  refine pm_R_lo pm_M116 (pc' := 48) (ls' := [.int z14]) (st' := []) rfl rfl rfl ?_
  refine pm_R_lo pm_M116 (pc' := 49) rfl rfl rfl ?_
  refine pm_R_op pm_M116 (pc' := 51) (st' := [.int 63, .int z14]) rfl rfl rfl ?_
  obtain ⟨z15, e15⟩ : ∃ y, z14 &&& 63 = y := ⟨_, rfl⟩
  refine pm_R_op pm_M116 (pc' := 52) (st' := [.int z15]) rfl (congrArg (fun y => some (Value.int y :: [])) e15) rfl ?_
  have hz : cl_bi a = z15 := by unfold cl_bi; rw [e1, e2, e3, e4, e5, e6, e7, e8, e9, e10, e11, e12, e13, e14, e15]
  exact pm_R_ret pm_M116 (r := some (.int z15)) rfl (pm_ret_i _) (by rw [← hz]; exact K)
/-- how many of the lowest j bits are set, as the loop sees them -/
def cl_pj (v : Int64) : Nat → Nat
  | 0 => 0
  | j + 1 => cl_pj v j + (if lg_cmp (cl_us v (Int32.ofNat j) &&& 1) 0 = 0 then 0 else 1)
def cl_bt (n : Nat) : Bool := decide (cl_bl (Int64.ofNat n) = Int32.ofNat (cl_pj (Int64.ofNat n) 10)) && decide (cl_bi (Int32.ofNat n) = Int32.ofNat (cl_pj (Int64.ofNat n) 10)) && decide (cl_pj (Int64.ofNat n) 10 ≤ 10)
theorem cl_bts : (List.range 1024).all cl_bt = true := by decide +kernel
theorem cl_bits {n : Nat} (h : n < 1024) : cl_bl (Int64.ofNat n) = Int32.ofNat (cl_pj (Int64.ofNat n) 10) ∧ cl_bi (Int32.ofNat n) = Int32.ofNat (cl_pj (Int64.ofNat n) 10) ∧ cl_pj (Int64.ofNat n) 10 ≤ 10 := by
  have := List.all_eq_true.mp cl_bts n (List.mem_range.mpr h)
  unfold cl_bt at this
  simp only [Bool.and_eq_true, decide_eq_true_eq] at this
  exact ⟨this.1.1, this.1.2, this.2⟩
theorem cl_nat32 {z : Int32} {b : Int} (h : sf_B 0 b z) (hb : b ≤ 1000000) : z = Int32.ofNat z.toInt.toNat := by
  have h1 := h.1
  have h2 := h.2
  apply Int32.toInt_inj.mp
  rw [sf_ofT (by omega)]; omega
theorem cl_nat64 {v : Int64} {n : Nat} (h : v.toInt = n) (hn : n ≤ 1000000) : v = Int64.ofNat n := by
  apply Int64.toInt_inj.mp
  rw [h, Int64.toInt_ofNat_of_lt (by omega)]
theorem cl_bi_B {z : Int32} (h : sf_B 0 1023 z) : sf_B 0 10 (cl_bi z) := by
  have h1 := h.1
  have h2 := h.2
  obtain ⟨a, b, c⟩ := cl_bits (n := z.toInt.toNat) (by omega)
  rw [← cl_nat32 h (by decide)] at b
  rw [b]
  exact sf_weak (sf_ofB c (by decide)) (by decide) (by decide)
set_option maxRecDepth 100000 in
theorem cl_c107_d {d : Nat} {h : pm_H} {Q : Option Value → pm_H → Prop} {z k : Int32} {v : Int64} (hz : sf_B 0 1023 z) (hv : v.toInt = z.toInt) (hk0 : 0 ≤ k.toInt) (hk : k.toInt < (cl_bi z).toInt) (K : ∀ r, sf_B 0 9 r → Q (some (.int r)) h) : pm_R (d + 1) 107 0 [.long v, pm_no, .int k, pm_no, pm_no, pm_no] [] h Q := by
  have h1 := hz.1
  have h2 := hz.2
  obtain ⟨b1, b2, b3⟩ := cl_bits (n := z.toInt.toNat) (by omega)
  rw [← cl_nat32 hz (by decide)] at b2
  have ev : v = Int64.ofNat z.toInt.toNat := cl_nat64 (by rw [hv]; omega) (by omega)
  rw [← ev] at b1 b2 b3
  have bb : cl_bl v = cl_bi z := b1.trans b2.symm
  have hp : (cl_bi z).toInt = cl_pj v 10 := by rw [b2, sf_ofT (by omega)]
  refine pm_R_lo pm_M107 (pc' := 1) rfl rfl rfl ?_
  refine pm_R_cs pm_M107 (pc' := 4) (ra := [.long v]) (rest := []) (ls' := [.long v, pm_no]) rfl rfl (Or.inl rfl) pm_M108 rfl rfl (Nat.le_of_ble_eq_true rfl) rfl rfl ?_
  refine cl_e108 (d := d) ?_
  show pm_R _ 107 4 [.long v, pm_no, .int k, pm_no, pm_no, pm_no] [.int (cl_bl v)] _ _
  rw [bb]
  refine pm_R_lo pm_M107 (pc' := 5) (ls' := [.long v, pm_no, .int k, .int (cl_bi z), pm_no, pm_no]) (st' := []) rfl rfl rfl ?_
  refine pm_R_lo pm_M107 (pc' := 6) rfl rfl rfl ?_
  refine pm_R_op pm_M107 (pc' := 7) (st' := [.int (-1), .int k]) rfl rfl rfl ?_
  refine pm_R_icmp pm_M107 (t := 12) (pc' := 10) rfl rfl rfl (fun _ => ?_) (fun c => absurd (Classical.not_not.mp c) (fun e => by rw [e] at hk0; revert hk0; decide))
  refine pm_R_lo pm_M107 (pc' := 13) rfl rfl rfl ?_
  refine pm_R_ifc pm_M107 (t := 21) (pc' := 16) rfl rfl rfl (fun c => absurd (Int32.lt_iff_toInt_lt.mp c) (by show ¬ k.toInt < 0; omega)) (fun _ => ?_)
  refine pm_R_lo pm_M107 (pc' := 17) rfl rfl rfl ?_
  refine pm_R_lo pm_M107 (pc' := 18) rfl rfl rfl ?_
  refine pm_R_icmp pm_M107 (t := 24) (pc' := 21) rfl rfl rfl (fun _ => ?_) (fun c => absurd (Int32.lt_iff_toInt_lt.mpr hk) c)
  refine pm_R_op pm_M107 (pc' := 25) (st' := [.int 0]) rfl rfl rfl ?_
  refine pm_R_lo pm_M107 (pc' := 27) (ls' := [.long v, pm_no, .int k, .int (cl_bi z), .int 0, pm_no]) (st' := []) rfl rfl rfl ?_
  refine pm_R_op pm_M107 (pc' := 28) (st' := [.int 0]) rfl rfl rfl ?_
  refine pm_R_lo pm_M107 (pc' := 30) (ls' := [.long v, pm_no, .int k, .int (cl_bi z), .int 0, .int 0]) (st' := []) rfl rfl rfl ?_
  have L : ∀ N j, j ≤ 10 → N = 10 - j → (cl_pj v j : Int) ≤ k.toInt → cl_pj v j ≤ 10 → pm_R (d + 1) 107 30 [.long v, pm_no, .int k, .int (cl_bi z), .int (Int32.ofNat (cl_pj v j)), .int (Int32.ofNat j)] [] h Q := by
    intro N
    induction N with
    | zero =>
      intro j j1 j2 j3 j4
      exfalso
      have : j = 10 := by omega
      subst this
      omega
    | succ N ih =>
      intro j j1 j2 j3 j4
      have tj : (Int32.ofNat j).toInt = j := sf_ofT (by omega)
      have tp : (Int32.ofNat (cl_pj v j)).toInt = cl_pj v j := sf_ofT (by omega)
      have nj : Int32.ofNat (j + 1) = Int32.ofNat j + 1 := by rw [Int32.ofNat_add]; rfl
      refine pm_R_lo pm_M107 (pc' := 32) rfl rfl rfl ?_
      refine pm_R_op pm_M107 (pc' := 34) (st' := [.int 50, .int (Int32.ofNat j)]) rfl rfl rfl ?_
      refine pm_R_icmp pm_M107 (t := 66) (pc' := 37) rfl rfl rfl (fun c => absurd (Int32.le_iff_toInt_le.mp c) (by show ¬ (50 : Int) ≤ (Int32.ofNat j).toInt; rw [tj]; omega)) (fun _ => ?_)
      refine pm_R_lo pm_M107 (pc' := 38) rfl rfl rfl ?_
      refine pm_R_lo pm_M107 (pc' := 40) rfl rfl rfl ?_
      refine pm_R_op pm_M107 (pc' := 41) (st' := [.long (cl_us v (Int32.ofNat j))]) rfl rfl rfl ?_
      refine pm_R_op pm_M107 (pc' := 42) (st' := [.long 1, .long (cl_us v (Int32.ofNat j))]) rfl rfl rfl ?_
      refine pm_R_op pm_M107 (pc' := 43) (st' := [.long (cl_us v (Int32.ofNat j) &&& 1)]) rfl rfl rfl ?_
      refine pm_R_op pm_M107 (pc' := 44) (st' := [.long 0, .long (cl_us v (Int32.ofNat j) &&& 1)]) rfl rfl rfl ?_
      refine pm_R_op pm_M107 (pc' := 45) (st' := [.int (lg_cmp (cl_us v (Int32.ofNat j) &&& 1) 0)]) rfl rfl rfl ?_
      refine pm_R_ifc pm_M107 (t := 60) (pc' := 48) rfl rfl rfl (fun c => ?_) (fun c => ?_)
      · have hs : cl_pj v (j + 1) = cl_pj v j := by
          show cl_pj v j + (if lg_cmp (cl_us v (Int32.ofNat j) &&& 1) 0 = 0 then 0 else 1) = _
          have c' : lg_cmp (cl_us v (Int32.ofNat j) &&& 1) 0 = 0 := c
          rw [if_pos c']; omega
        refine pm_R_lo pm_M107 (pc' := 63) (ls' := [.long v, pm_no, .int k, .int (cl_bi z), .int (Int32.ofNat (cl_pj v j)), .int (Int32.ofNat j + 1)]) (st' := []) rfl rfl rfl ?_
        refine pm_R_br pm_M107 (pc' := 30) (st' := []) rfl rfl ?_
        rw [← nj, ← hs]
        exact ih (j + 1) (by omega) (by omega) (by rw [hs]; exact j3) (by rw [hs]; exact j4)
      · have hs : cl_pj v (j + 1) = cl_pj v j + 1 := by
          show cl_pj v j + (if lg_cmp (cl_us v (Int32.ofNat j) &&& 1) 0 = 0 then 0 else 1) = _
          have c' : ¬ lg_cmp (cl_us v (Int32.ofNat j) &&& 1) 0 = 0 := c
          rw [if_neg c']
        refine pm_R_lo pm_M107 (pc' := 50) rfl rfl rfl ?_
        refine pm_R_lo pm_M107 (pc' := 51) rfl rfl rfl ?_
        refine pm_R_icmp pm_M107 (t := 57) (pc' := 54) rfl rfl rfl (fun e => ?_) (fun _ => ?_)
        · have e' : ¬ Int32.ofNat (cl_pj v j) = k := e
          have lt : (cl_pj v j : Int) < k.toInt := by
            rcases Int.lt_or_eq_of_le j3 with x | x
            · exact x
            · exact absurd (Int32.toInt_inj.mp (tp.trans x)) e'
          refine pm_R_lo pm_M107 (pc' := 60) (ls' := [.long v, pm_no, .int k, .int (cl_bi z), .int (Int32.ofNat (cl_pj v j) + 1), .int (Int32.ofNat j)]) (st' := []) rfl rfl rfl ?_
          refine pm_R_lo pm_M107 (pc' := 63) (ls' := [.long v, pm_no, .int k, .int (cl_bi z), .int (Int32.ofNat (cl_pj v j) + 1), .int (Int32.ofNat j + 1)]) (st' := []) rfl rfl rfl ?_
          refine pm_R_br pm_M107 (pc' := 30) (st' := []) rfl rfl ?_
          have np : Int32.ofNat (cl_pj v (j + 1)) = Int32.ofNat (cl_pj v j) + 1 := by rw [hs, Int32.ofNat_add]; rfl
          rw [← nj, ← np]
          exact ih (j + 1) (by omega) (by omega) (by rw [hs]; omega) (by rw [hs]; omega)
        · refine pm_R_lo pm_M107 (pc' := 56) rfl rfl rfl ?_
          exact pm_R_ret pm_M107 (r := some (.int (Int32.ofNat j))) rfl (pm_ret_i _) (K _ ⟨by rw [tj]; omega, by rw [tj]; omega⟩)
  exact L 10 0 (by decide) rfl (by show (0 : Int) ≤ _; exact hk0) (by show 0 ≤ 10; decide)
theorem cl_ui16 (x : Int32) : sf_B 0 65535 (cl_ui x 16) := by
  have e : (cl_ui x 16).toInt = ((x.toUInt32.toBitVec >>> 16).toInt) := rfl
  have h1 : (x.toUInt32.toBitVec >>> 16).toNat < 65536 := by
    rw [BitVec.toNat_ushiftRight, Nat.shiftRight_eq_div_pow]
    have := x.toUInt32.toBitVec.isLt
    omega
  have h2 : (x.toUInt32.toBitVec >>> 16).toInt = ((x.toUInt32.toBitVec >>> 16).toNat : Int) := BitVec.toInt_eq_toNat_of_lt (by omega)
  unfold sf_B
  rw [e, h2]
  omega
variable {d mid pc pc' : Nat} {ls st : List Value} {h : pm_H} {Q : Option Value → pm_H → Prop} {q : pm_M} {l : List (Nat × Instr × Nat)} {L : Nat} {ck : cl_K} {E : Nat → pm_E} {m : Nat → Int32} {o : Nat → Option Nat}
theorem sf_R_iushr16 (hM : pm_Mt mid q l) {x : Int32} (hf : pm_find l pc = some (.iushr, L)) (hp : pc + 1 = pc') (k : ∀ z : Int32, sf_B 0 65535 z → pm_R d mid pc' ls (.int z :: st) h Q) : pm_R d mid pc ls (.int 16 :: .int x :: st) h Q :=
  pm_R_op hM hf (st' := .int (cl_ui x 16) :: st) rfl hp (k _ (cl_ui16 x))
theorem cl_R_clone (G : cl_G ck E) (hM : pm_Mt mid q l) (T : cl_T ck E m o h) {ix a n : Nat} {f : Nat → Int32} (hf : pm_find l pc = some (.invokevirtual ix, L)) (hn : pm_at pm_CL q.2.2.2.2 ix = none) (hX : pm_at pm_XL q.2.2.2.2 ix = some 2) (hc : h.2.2 a = .inl (0, n, .inl f)) (h1 : 16 ≤ a) (h2 : a < h.1) (hs : (st.map fun v => v.category).sum ≤ 8) (hp : pc + 3 = pc') (kk : ∀ t h', cl_T ck E m o h' → cl_F ck [] 1 n h h' → cl_t ck t h' → h.1 = t → h'.2.2 t = .inl (0, n, .inl f) → pm_R d mid pc' ls (.ref t :: st) h' Q) : pm_R d mid pc ls (.ref a :: st) h Q := by
  have h72 := T.1
  refine pm_R_nat hM hf rfl hn (st' := .ref h.1 :: st) (h' := pm_push h (.inl (0, n, .inl f)) n) ?_ hp (kk h.1 _ (T.push G _ _) ⟨h72, Nat.le_succ _, Nat.le_refl _, Nat.le_refl _, fun a ha _ _ => ?_⟩ ⟨h72, ?_, Nat.lt_succ_self _⟩ rfl ?_)
  · unfold pm_hb
    dsimp only
    rw [hX, hc]
    show (if _ then _ else _) = _
    exact if_pos ⟨rfl, h1, h2, hs⟩
  · have : a ≠ h.1 := by omega
    simp [pm_push, va_up, this]
  · by_cases z : ck h.1 = 0
    · exact z
    · have := T.al rfl z; omega
  · simp [pm_push, va_up]
theorem cl_R_cast (hM : pm_Mt mid q l) {ix a n y : Nat} {f : Nat → Int32} (hf : pm_find l pc = some (.checkcast ix, L)) (hX : pm_at pm_IL q.2.2.2.2 ix = some y) (hc : h.2.2 a = .inl (0, n, .inl f)) (h1 : 16 ≤ a) (h2 : a < h.1) (hp : pc + 3 = pc') (kk : pm_R d mid pc' ls (.ref a :: st) h Q) : pm_R d mid pc ls (.ref a :: st) h Q := by
  refine pm_R_hp hM hf rfl (st' := .ref a :: st) (h' := h) ?_ hp kk
  unfold pm_hb
  dsimp only
  rw [hX]
  simp only [Option.bind, hc]
  exact if_pos ⟨h1, h2⟩
theorem cl_remlt {x y z : Int32} {c b : Int} (e : z.toInt = x.toInt % y.toInt) (By : sf_B c b y) (hc : 1 ≤ c) : z.toInt < y.toInt := by
  rw [e]; exact Int.emod_lt_of_pos _ (by have := By.1; omega)
end
