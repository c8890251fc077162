section
section
/-! drawn: a place among the set bits of a number below 1024 -/
def cl_us (x : Int64) (y : Int32) : Int64 := (x.toUInt64 >>> (y.toInt64.toUInt64 &&& Int64.toUInt64 63)).toInt64
def cl_ui (x y : Int32) : Int32 := (x.toUInt32 >>> (y.toUInt32 &&& Int32.toUInt32 31)).toInt32
def cl_bl (a : Int64) : Int32 :=
  (((((((((a - ((cl_us a 1) &&& 6148914691236517205)) &&& 3689348814741910323) + ((cl_us (a - ((cl_us a 1) &&& 6148914691236517205)) 2) &&& 3689348814741910323)) + (cl_us (((a - ((cl_us a 1) &&& 6148914691236517205)) &&& 3689348814741910323) + ((cl_us (a - ((cl_us a 1) &&& 6148914691236517205)) 2) &&& 3689348814741910323)) 4)) &&& 1085102592571150095) + (cl_us (((((a - ((cl_us a 1) &&& 6148914691236517205)) &&& 3689348814741910323) + ((cl_us (a - ((cl_us a 1) &&& 6148914691236517205)) 2) &&& 3689348814741910323)) + (cl_us (((a - ((cl_us a 1) &&& 6148914691236517205)) &&& 3689348814741910323) + ((cl_us (a - ((cl_us a 1) &&& 6148914691236517205)) 2) &&& 3689348814741910323)) 4)) &&& 1085102592571150095) 8)) + (cl_us ((((((a - ((cl_us a 1) &&& 6148914691236517205)) &&& 3689348814741910323) + ((cl_us (a - ((cl_us a 1) &&& 6148914691236517205)) 2) &&& 3689348814741910323)) + (cl_us (((a - ((cl_us a 1) &&& 6148914691236517205)) &&& 3689348814741910323) + ((cl_us (a - ((cl_us a 1) &&& 6148914691236517205)) 2) &&& 3689348814741910323)) 4)) &&& 1085102592571150095) + (cl_us (((((a - ((cl_us a 1) &&& 6148914691236517205)) &&& 3689348814741910323) + ((cl_us (a - ((cl_us a 1) &&& 6148914691236517205)) 2) &&& 3689348814741910323)) + (cl_us (((a - ((cl_us a 1) &&& 6148914691236517205)) &&& 3689348814741910323) + ((cl_us (a - ((cl_us a 1) &&& 6148914691236517205)) 2) &&& 3689348814741910323)) 4)) &&& 1085102592571150095) 8)) 16)) + (cl_us (((((((a - ((cl_us a 1) &&& 6148914691236517205)) &&& 3689348814741910323) + ((cl_us (a - ((cl_us a 1) &&& 6148914691236517205)) 2) &&& 3689348814741910323)) + (cl_us (((a - ((cl_us a 1) &&& 6148914691236517205)) &&& 3689348814741910323) + ((cl_us (a - ((cl_us a 1) &&& 6148914691236517205)) 2) &&& 3689348814741910323)) 4)) &&& 1085102592571150095) + (cl_us (((((a - ((cl_us a 1) &&& 6148914691236517205)) &&& 3689348814741910323) + ((cl_us (a - ((cl_us a 1) &&& 6148914691236517205)) 2) &&& 3689348814741910323)) + (cl_us (((a - ((cl_us a 1) &&& 6148914691236517205)) &&& 3689348814741910323) + ((cl_us (a - ((cl_us a 1) &&& 6148914691236517205)) 2) &&& 3689348814741910323)) 4)) &&& 1085102592571150095) 8)) + (cl_us ((((((a - ((cl_us a 1) &&& 6148914691236517205)) &&& 3689348814741910323) + ((cl_us (a - ((cl_us a 1) &&& 6148914691236517205)) 2) &&& 3689348814741910323)) + (cl_us (((a - ((cl_us a 1) &&& 6148914691236517205)) &&& 3689348814741910323) + ((cl_us (a - ((cl_us a 1) &&& 6148914691236517205)) 2) &&& 3689348814741910323)) 4)) &&& 1085102592571150095) + (cl_us (((((a - ((cl_us a 1) &&& 6148914691236517205)) &&& 3689348814741910323) + ((cl_us (a - ((cl_us a 1) &&& 6148914691236517205)) 2) &&& 3689348814741910323)) + (cl_us (((a - ((cl_us a 1) &&& 6148914691236517205)) &&& 3689348814741910323) + ((cl_us (a - ((cl_us a 1) &&& 6148914691236517205)) 2) &&& 3689348814741910323)) 4)) &&& 1085102592571150095) 8)) 16)) 32)).toInt32) &&& 127
set_option maxRecDepth 100000 in
theorem cl_e108 {d : Nat} {h : pm_H} {Q : Option Value → pm_H → Prop} {a : Int64} (K : Q (some (.int (cl_bl a))) h) : pm_R (d + 0) 108 0 [.long a, pm_no] [] h Q := by
  refine pm_R_lo pm_M108 (pc_q := 1) rfl rfl rfl ?_
  refine pm_R_lo pm_M108 (pc_q := 2) rfl rfl rfl ?_
  refine pm_R_op pm_M108 (pc_q := 3) (st_q := [.int 1, .long a, .long a]) rfl rfl rfl ?_
  obtain ⟨z1, e1⟩ : ∃ y, cl_us a 1 = y := ⟨_, rfl⟩
  refine pm_R_op pm_M108 (pc_q := 4) (st_q := [.long z1, .long a]) rfl (congrArg (fun y => some (Value.long y :: [.long a])) e1) rfl ?_
  refine pm_R_ldc2 pm_M108 (pc_q := 7) rfl rfl rfl ?_
  obtain ⟨z2, e2⟩ : ∃ y, z1 &&& 6148914691236517205 = y := ⟨_, rfl⟩
  refine pm_R_op pm_M108 (pc_q := 8) (st_q := [.long z2, .long a]) rfl (congrArg (fun y => some (Value.long y :: [.long a])) e2) rfl ?_
  obtain ⟨z3, e3⟩ : ∃ y, a - z2 = y := ⟨_, rfl⟩
  refine pm_R_op pm_M108 (pc_q := 9) (st_q := [.long z3]) rfl (congrArg (fun y => some (Value.long y :: [])) e3) rfl ?_
  refine pm_R_lo pm_M108 (pc_q := 10) (ls_q := [.long z3, pm_no]) (st_q := []) rfl rfl rfl ?_
  refine pm_R_lo pm_M108 (pc_q := 11) rfl rfl rfl ?_
  refine pm_R_ldc2 pm_M108 (pc_q := 14) rfl rfl rfl ?_
  obtain ⟨z4, e4⟩ : ∃ y, z3 &&& 3689348814741910323 = y := ⟨_, rfl⟩
  refine pm_R_op pm_M108 (pc_q := 15) (st_q := [.long z4]) rfl (congrArg (fun y => some (Value.long y :: [])) e4) rfl ?_
  refine pm_R_lo pm_M108 (pc_q := 16) rfl rfl rfl ?_
  refine pm_R_op pm_M108 (pc_q := 17) (st_q := [.int 2, .long z3, .long z4]) rfl rfl rfl ?_
  obtain ⟨z5, e5⟩ : ∃ y, cl_us z3 2 = y := ⟨_, rfl⟩
  refine pm_R_op pm_M108 (pc_q := 18) (st_q := [.long z5, .long z4]) rfl (congrArg (fun y => some (Value.long y :: [.long z4])) e5) rfl ?_
  refine pm_R_ldc2 pm_M108 (pc_q := 21) rfl rfl rfl ?_
  obtain ⟨z6, e6⟩ : ∃ y, z5 &&& 3689348814741910323 = y := ⟨_, rfl⟩
  refine pm_R_op pm_M108 (pc_q := 22) (st_q := [.long z6, .long z4]) rfl (congrArg (fun y => some (Value.long y :: [.long z4])) e6) rfl ?_
  obtain ⟨z7, e7⟩ : ∃ y, z4 + z6 = y := ⟨_, rfl⟩
  refine pm_R_op pm_M108 (pc_q := 23) (st_q := [.long z7]) rfl (congrArg (fun y => some (Value.long y :: [])) e7) rfl ?_
  refine pm_R_lo pm_M108 (pc_q := 24) (ls_q := [.long z7, pm_no]) (st_q := []) rfl rfl rfl ?_
  refine pm_R_lo pm_M108 (pc_q := 25) rfl rfl rfl ?_
  refine pm_R_lo pm_M108 (pc_q := 26) rfl rfl rfl ?_
  refine pm_R_op pm_M108 (pc_q := 27) (st_q := [.int 4, .long z7, .long z7]) rfl rfl rfl ?_
  obtain ⟨z8, e8⟩ : ∃ y, cl_us z7 4 = y := ⟨_, rfl⟩
  refine pm_R_op pm_M108 (pc_q := 28) (st_q := [.long z8, .long z7]) rfl (congrArg (fun y => some (Value.long y :: [.long z7])) e8) rfl ?_
  obtain ⟨z9, e9⟩ : ∃ y, z7 + z8 = y := ⟨_, rfl⟩
  refine pm_R_op pm_M108 (pc_q := 29) (st_q := [.long z9]) rfl (congrArg (fun y => some (Value.long y :: [])) e9) rfl ?_
  refine pm_R_ldc2 pm_M108 (pc_q := 32) rfl rfl rfl ?_
  obtain ⟨z10, e10⟩ : ∃ y, z9 &&& 1085102592571150095 = y := ⟨_, rfl⟩
  refine pm_R_op pm_M108 (pc_q := 33) (st_q := [.long z10]) rfl (congrArg (fun y => some (Value.long y :: [])) e10) rfl ?_
  refine pm_R_lo pm_M108 (pc_q := 34) (ls_q := [.long z10, pm_no]) (st_q := []) rfl rfl rfl ?_
  refine pm_R_lo pm_M108 (pc_q := 35) rfl rfl rfl ?_
  refine pm_R_lo pm_M108 (pc_q := 36) rfl rfl rfl ?_
  refine pm_R_op pm_M108 (pc_q := 38) (st_q := [.int 8, .long z10, .long z10]) rfl rfl rfl ?_
  obtain ⟨z11, e11⟩ : ∃ y, cl_us z10 8 = y := ⟨_, rfl⟩
  refine pm_R_op pm_M108 (pc_q := 39) (st_q := [.long z11, .long z10]) rfl (congrArg (fun y => some (Value.long y :: [.long z10])) e11) rfl ?_
  obtain ⟨z12, e12⟩ : ∃ y, z10 + z11 = y := ⟨_, rfl⟩
  refine pm_R_op pm_M108 (pc_q := 40) (st_q := [.long z12]) rfl (congrArg (fun y => some (Value.long y :: [])) e12) rfl ?_
  refine pm_R_lo pm_M108 (pc_q := 41) (ls_q := [.long z12, pm_no]) (st_q := []) rfl rfl rfl ?_
  refine pm_R_lo pm_M108 (pc_q := 42) rfl rfl rfl ?_
  refine pm_R_lo pm_M108 (pc_q := 43) rfl rfl rfl ?_
  refine pm_R_op pm_M108 (pc_q := 45) (st_q := [.int 16, .long z12, .long z12]) rfl rfl rfl ?_
  obtain ⟨z13, e13⟩ : ∃ y, cl_us z12 16 = y := ⟨_, rfl⟩
  refine pm_R_op pm_M108 (pc_q := 46) (st_q := [.long z13, .long z12]) rfl (congrArg (fun y => some (Value.long y :: [.long z12])) e13) rfl ?_
  obtain ⟨z14, e14⟩ : ∃ y, z12 + z13 = y := ⟨_, rfl⟩
  refine pm_R_op pm_M108 (pc_q := 47) (st_q := [.long z14]) rfl (congrArg (fun y => some (Value.long y :: [])) e14) rfl ?_
  refine pm_R_lo pm_M108 (pc_q := 48) (ls_q := [.long z14, pm_no]) (st_q := []) rfl rfl rfl ?_
  refine pm_R_lo pm_M108 (pc_q := 49) rfl rfl rfl ?_
  refine pm_R_lo pm_M108 (pc_q := 50) rfl rfl rfl ?_
  refine pm_R_op pm_M108 (pc_q := 52) (st_q := [.int 32, .long z14, .long z14]) rfl rfl rfl ?_
  obtain ⟨z15, e15⟩ : ∃ y, cl_us z14 32 = y := ⟨_, rfl⟩
  refine pm_R_op pm_M108 (pc_q := 53) (st_q := [.long z15, .long z14]) rfl (congrArg (fun y => some (Value.long y :: [.long z14])) e15) rfl ?_
  obtain ⟨z16, e16⟩ : ∃ y, z14 + z15 = y := ⟨_, rfl⟩
  refine pm_R_op pm_M108 (pc_q := 54) (st_q := [.long z16]) rfl (congrArg (fun y => some (Value.long y :: [])) e16) rfl ?_
  refine pm_R_lo pm_M108 (pc_q := 55) (ls_q := [.long z16, pm_no]) (st_q := []) rfl rfl rfl ?_
  refine pm_R_lo pm_M108 (pc_q := 56) rfl rfl rfl ?_
  obtain ⟨z17, e17⟩ : ∃ y, z16.toInt32 = y := ⟨_, rfl⟩
  refine pm_R_op pm_M108 (pc_q := 57) (st_q := [.int z17]) rfl (congrArg (fun y => some (Value.int y :: [])) e17) rfl ?_
  refine pm_R_op pm_M108 (pc_q := 59) (st_q := [.int 127, .int z17]) rfl rfl rfl ?_
  obtain ⟨z18, e18⟩ : ∃ y, z17 &&& 127 = y := ⟨_, rfl⟩
  refine pm_R_op pm_M108 (pc_q := 60) (st_q := [.int z18]) rfl (congrArg (fun y => some (Value.int y :: [])) e18) rfl ?_
  have hz : cl_bl a = z18 := by unfold cl_bl; rw [e1, e2, e3, e4, e5, e6, e7, e8, e9, e10, e11, e12, e13, e14, e15, e16, e17, e18]
  exact pm_R_ret pm_M108 (r := some (.int z18)) rfl (pm_ret_i _) (by rw [← hz]; exact K)
def cl_bi (a : Int32) : Int32 :=
  (((((((a - ((cl_ui a 1) &&& 1431655765)) &&& 858993459) + ((cl_ui (a - ((cl_ui a 1) &&& 1431655765)) 2) &&& 858993459)) + (cl_ui (((a - ((cl_ui a 1) &&& 1431655765)) &&& 858993459) + ((cl_ui (a - ((cl_ui a 1) &&& 1431655765)) 2) &&& 858993459)) 4)) &&& 252645135) + (cl_ui (((((a - ((cl_ui a 1) &&& 1431655765)) &&& 858993459) + ((cl_ui (a - ((cl_ui a 1) &&& 1431655765)) 2) &&& 858993459)) + (cl_ui (((a - ((cl_ui a 1) &&& 1431655765)) &&& 858993459) + ((cl_ui (a - ((cl_ui a 1) &&& 1431655765)) 2) &&& 858993459)) 4)) &&& 252645135) 8)) + (cl_ui ((((((a - ((cl_ui a 1) &&& 1431655765)) &&& 858993459) + ((cl_ui (a - ((cl_ui a 1) &&& 1431655765)) 2) &&& 858993459)) + (cl_ui (((a - ((cl_ui a 1) &&& 1431655765)) &&& 858993459) + ((cl_ui (a - ((cl_ui a 1) &&& 1431655765)) 2) &&& 858993459)) 4)) &&& 252645135) + (cl_ui (((((a - ((cl_ui a 1) &&& 1431655765)) &&& 858993459) + ((cl_ui (a - ((cl_ui a 1) &&& 1431655765)) 2) &&& 858993459)) + (cl_ui (((a - ((cl_ui a 1) &&& 1431655765)) &&& 858993459) + ((cl_ui (a - ((cl_ui a 1) &&& 1431655765)) 2) &&& 858993459)) 4)) &&& 252645135) 8)) 16)) &&& 63
set_option maxRecDepth 100000 in
theorem cl_e116 {d : Nat} {h : pm_H} {Q : Option Value → pm_H → Prop} {a : Int32} (K : Q (some (.int (cl_bi a))) h) : pm_R (d + 0) 116 0 [.int a] [] h Q := by
  refine pm_R_lo pm_M116 (pc_q := 1) rfl rfl rfl ?_
  refine pm_R_lo pm_M116 (pc_q := 2) rfl rfl rfl ?_
  refine pm_R_op pm_M116 (pc_q := 3) (st_q := [.int 1, .int a, .int a]) rfl rfl rfl ?_
  obtain ⟨z1, e1⟩ : ∃ y, cl_ui a 1 = y := ⟨_, rfl⟩
  refine pm_R_op pm_M116 (pc_q := 4) (st_q := [.int z1, .int a]) rfl (congrArg (fun y => some (Value.int y :: [.int a])) e1) rfl ?_
  refine pm_R_ldcw pm_M116 (pc_q := 7) rfl rfl rfl ?_
  obtain ⟨z2, e2⟩ : ∃ y, z1 &&& 1431655765 = y := ⟨_, rfl⟩
  refine pm_R_op pm_M116 (pc_q := 8) (st_q := [.int z2, .int a]) rfl (congrArg (fun y => some (Value.int y :: [.int a])) e2) rfl ?_
  obtain ⟨z3, e3⟩ : ∃ y, a - z2 = y := ⟨_, rfl⟩
  refine pm_R_op pm_M116 (pc_q := 9) (st_q := [.int z3]) rfl (congrArg (fun y => some (Value.int y :: [])) e3) rfl ?_
  refine pm_R_lo pm_M116 (pc_q := 10) (ls_q := [.int z3]) (st_q := []) rfl rfl rfl ?_
  refine pm_R_lo pm_M116 (pc_q := 11) rfl rfl rfl ?_
  refine pm_R_ldcw pm_M116 (pc_q := 14) rfl rfl rfl ?_
  obtain ⟨z4, e4⟩ : ∃ y, z3 &&& 858993459 = y := ⟨_, rfl⟩
  refine pm_R_op pm_M116 (pc_q := 15) (st_q := [.int z4]) rfl (congrArg (fun y => some (Value.int y :: [])) e4) rfl ?_
  refine pm_R_lo pm_M116 (pc_q := 16) rfl rfl rfl ?_
  refine pm_R_op pm_M116 (pc_q := 17) (st_q := [.int 2, .int z3, .int z4]) rfl rfl rfl ?_
  obtain ⟨z5, e5⟩ : ∃ y, cl_ui z3 2 = y := ⟨_, rfl⟩
  refine pm_R_op pm_M116 (pc_q := 18) (st_q := [.int z5, .int z4]) rfl (congrArg (fun y => some (Value.int y :: [.int z4])) e5) rfl ?_
  refine pm_R_ldcw pm_M116 (pc_q := 21) rfl rfl rfl ?_
  obtain ⟨z6, e6⟩ : ∃ y, z5 &&& 858993459 = y := ⟨_, rfl⟩
  refine pm_R_op pm_M116 (pc_q := 22) (st_q := [.int z6, .int z4]) rfl (congrArg (fun y => some (Value.int y :: [.int z4])) e6) rfl ?_
  obtain ⟨z7, e7⟩ : ∃ y, z4 + z6 = y := ⟨_, rfl⟩
  refine pm_R_op pm_M116 (pc_q := 23) (st_q := [.int z7]) rfl (congrArg (fun y => some (Value.int y :: [])) e7) rfl ?_
  refine pm_R_lo pm_M116 (pc_q := 24) (ls_q := [.int z7]) (st_q := []) rfl rfl rfl ?_
  refine pm_R_lo pm_M116 (pc_q := 25) rfl rfl rfl ?_
  refine pm_R_lo pm_M116 (pc_q := 26) rfl rfl rfl ?_
  refine pm_R_op pm_M116 (pc_q := 27) (st_q := [.int 4, .int z7, .int z7]) rfl rfl rfl ?_
  obtain ⟨z8, e8⟩ : ∃ y, cl_ui z7 4 = y := ⟨_, rfl⟩
  refine pm_R_op pm_M116 (pc_q := 28) (st_q := [.int z8, .int z7]) rfl (congrArg (fun y => some (Value.int y :: [.int z7])) e8) rfl ?_
  obtain ⟨z9, e9⟩ : ∃ y, z7 + z8 = y := ⟨_, rfl⟩
  refine pm_R_op pm_M116 (pc_q := 29) (st_q := [.int z9]) rfl (congrArg (fun y => some (Value.int y :: [])) e9) rfl ?_
  refine pm_R_ldcw pm_M116 (pc_q := 32) rfl rfl rfl ?_
  obtain ⟨z10, e10⟩ : ∃ y, z9 &&& 252645135 = y := ⟨_, rfl⟩
  refine pm_R_op pm_M116 (pc_q := 33) (st_q := [.int z10]) rfl (congrArg (fun y => some (Value.int y :: [])) e10) rfl ?_
  refine pm_R_lo pm_M116 (pc_q := 34) (ls_q := [.int z10]) (st_q := []) rfl rfl rfl ?_
  refine pm_R_lo pm_M116 (pc_q := 35) rfl rfl rfl ?_
  refine pm_R_lo pm_M116 (pc_q := 36) rfl rfl rfl ?_
  refine pm_R_op pm_M116 (pc_q := 38) (st_q := [.int 8, .int z10, .int z10]) rfl rfl rfl ?_
  obtain ⟨z11, e11⟩ : ∃ y, cl_ui z10 8 = y := ⟨_, rfl⟩
  refine pm_R_op pm_M116 (pc_q := 39) (st_q := [.int z11, .int z10]) rfl (congrArg (fun y => some (Value.int y :: [.int z10])) e11) rfl ?_
  obtain ⟨z12, e12⟩ : ∃ y, z10 + z11 = y := ⟨_, rfl⟩
  refine pm_R_op pm_M116 (pc_q := 40) (st_q := [.int z12]) rfl (congrArg (fun y => some (Value.int y :: [])) e12) rfl ?_
  refine pm_R_lo pm_M116 (pc_q := 41) (ls_q := [.int z12]) (st_q := []) rfl rfl rfl ?_
  refine pm_R_lo pm_M116 (pc_q := 42) rfl rfl rfl ?_
  refine pm_R_lo pm_M116 (pc_q := 43) rfl rfl rfl ?_
  refine pm_R_op pm_M116 (pc_q := 45) (st_q := [.int 16, .int z12, .int z12]) rfl rfl rfl ?_
  obtain ⟨z13, e13⟩ : ∃ y, cl_ui z12 16 = y := ⟨_, rfl⟩
  refine pm_R_op pm_M116 (pc_q := 46) (st_q := [.int z13, .int z12]) rfl (congrArg (fun y => some (Value.int y :: [.int z12])) e13) rfl ?_
  obtain ⟨z14, e14⟩ : ∃ y, z12 + z13 = y := ⟨_, rfl⟩
  refine pm_R_op pm_M116 (pc_q := 47) (st_q := [.int z14]) rfl (congrArg (fun y => some (Value.int y :: [])) e14) rfl ?_
  refine pm_R_lo pm_M116 (pc_q := 48) (ls_q := [.int z14]) (st_q := []) rfl rfl rfl ?_
  refine pm_R_lo pm_M116 (pc_q := 49) rfl rfl rfl ?_
  refine pm_R_op pm_M116 (pc_q := 51) (st_q := [.int 63, .int z14]) rfl rfl rfl ?_
  obtain ⟨z15, e15⟩ : ∃ y, z14 &&& 63 = y := ⟨_, rfl⟩
  refine pm_R_op pm_M116 (pc_q := 52) (st_q := [.int z15]) rfl (congrArg (fun y => some (Value.int y :: [])) e15) rfl ?_
  have hz : cl_bi a = z15 := by unfold cl_bi; rw [e1, e2, e3, e4, e5, e6, e7, e8, e9, e10, e11, e12, e13, e14, e15]
  exact pm_R_ret pm_M116 (r := some (.int z15)) rfl (pm_ret_i _) (by rw [← hz]; exact K)
/-- how many of the lowest j bits are set, as the loop sees them -/
def cl_pj (v : Int64) : Nat → Nat
  | 0 => 0
  | j + 1 => cl_pj v j + (if lg_cmp (cl_us v (Int32.ofNat j) &&& 1) 0 = 0 then 0 else 1)
def cl_bt (n : Nat) : Bool := decide (cl_bl (Int64.ofNat n) = Int32.ofNat (cl_pj (Int64.ofNat n) 10)) && decide (cl_bi (Int32.ofNat n) = Int32.ofNat (cl_pj (Int64.ofNat n) 10)) && decide (cl_pj (Int64.ofNat n) 10 ≤ 10)
theorem cl_bts : (List.range 1024).all cl_bt = true := by decide +kernel
theorem cl_bits {n : Nat} (h : n < 1024) : cl_bl (Int64.ofNat n) = Int32.ofNat (cl_pj (Int64.ofNat n) 10) ∧ cl_bi (Int32.ofNat n) = Int32.ofNat (cl_pj (Int64.ofNat n) 10) ∧ cl_pj (Int64.ofNat n) 10 ≤ 10 := by
  have := List.all_eq_true.mp cl_bts n (List.mem_range.mpr h)
  unfold cl_bt at this
  simp only [Bool.and_eq_true, decide_eq_true_eq] at this
  exact ⟨this.1.1, this.1.2, this.2⟩
theorem cl_nat32 {z : Int32} {b : Int} (h : sf_B 0 b z) (hb : b ≤ 1000000) : z = Int32.ofNat z.toInt.toNat := by
  have h1 := h.1
  have h2 := h.2
  apply Int32.toInt_inj.mp
  rw [sf_ofT (by omega)]; omega
theorem cl_nat64 {v : Int64} {n : Nat} (h : v.toInt = n) (hn : n ≤ 1000000) : v = Int64.ofNat n := by
  apply Int64.toInt_inj.mp
  rw [h, Int64.toInt_ofNat_of_lt (by omega)]
theorem cl_bi_B {z : Int32} (h : sf_B 0 1023 z) : sf_B 0 10 (cl_bi z) := by
  have h1 := h.1
  have h2 := h.2
  obtain ⟨a, b, c⟩ := cl_bits (n := z.toInt.toNat) (by omega)
  rw [← cl_nat32 h (by decide)] at b
  rw [b]
  exact sf_weak (sf_ofB c (by decide)) (by decide) (by decide)
set_option maxRecDepth 100000 in
theorem cl_c107_d {d : Nat} {h : pm_H} {Q : Option Value → pm_H → Prop} {z k : Int32} {v : Int64} (hz : sf_B 0 1023 z) (hv : v.toInt = z.toInt) (hk0 : 0 ≤ k.toInt) (hk : k.toInt < (cl_bi z).toInt) (K : ∀ r, sf_B 0 9 r → Q (some (.int r)) h) : pm_R (d + 1) 107 0 [.long v, pm_no, .int k, pm_no, pm_no, pm_no] [] h Q := by
  have h1 := hz.1
  have h2 := hz.2
  obtain ⟨b1, b2, b3⟩ := cl_bits (n := z.toInt.toNat) (by omega)
  rw [← cl_nat32 hz (by decide)] at b2
  have ev : v = Int64.ofNat z.toInt.toNat := cl_nat64 (by rw [hv]; omega) (by omega)
  rw [← ev] at b1 b2 b3
  have bb : cl_bl v = cl_bi z := b1.trans b2.symm
  have hp : (cl_bi z).toInt = cl_pj v 10 := by rw [b2, sf_ofT (by omega)]
  refine pm_R_lo pm_M107 (pc_q := 1) rfl rfl rfl ?_
  refine pm_R_cs pm_M107 (pc_q := 4) (ra := [.long v]) (rest := []) (ls_q := [.long v, pm_no]) rfl rfl (Or.inl rfl) pm_M108 rfl rfl (Nat.le_of_ble_eq_true rfl) rfl rfl ?_
  refine cl_e108 (d := d) ?_
  show pm_R _ 107 4 [.long v, pm_no, .int k, pm_no, pm_no, pm_no] [.int (cl_bl v)] _ _
  rw [bb]
  refine pm_R_lo pm_M107 (pc_q := 5) (ls_q := [.long v, pm_no, .int k, .int (cl_bi z), pm_no, pm_no]) (st_q := []) rfl rfl rfl ?_
  refine pm_R_lo pm_M107 (pc_q := 6) rfl rfl rfl ?_
  refine pm_R_op pm_M107 (pc_q := 7) (st_q := [.int (-1), .int k]) rfl rfl rfl ?_
  refine pm_R_icmp pm_M107 (t := 12) (pc_q := 10) rfl rfl rfl (fun _ => ?_) (fun c => absurd (Classical.not_not.mp c) (fun e => by rw [e] at hk0; revert hk0; decide))
  refine pm_R_lo pm_M107 (pc_q := 13) rfl rfl rfl ?_
  refine pm_R_ifc pm_M107 (t := 21) (pc_q := 16) rfl rfl rfl (fun c => absurd (Int32.lt_iff_toInt_lt.mp c) (by show ¬ k.toInt < 0; omega)) (fun _ => ?_)
  refine pm_R_lo pm_M107 (pc_q := 17) rfl rfl rfl ?_
  refine pm_R_lo pm_M107 (pc_q := 18) rfl rfl rfl ?_
  refine pm_R_icmp pm_M107 (t := 24) (pc_q := 21) rfl rfl rfl (fun _ => ?_) (fun c => absurd (Int32.lt_iff_toInt_lt.mpr hk) c)
  refine pm_R_op pm_M107 (pc_q := 25) (st_q := [.int 0]) rfl rfl rfl ?_
  refine pm_R_lo pm_M107 (pc_q := 27) (ls_q := [.long v, pm_no, .int k, .int (cl_bi z), .int 0, pm_no]) (st_q := []) rfl rfl rfl ?_
  refine pm_R_op pm_M107 (pc_q := 28) (st_q := [.int 0]) rfl rfl rfl ?_
  refine pm_R_lo pm_M107 (pc_q := 30) (ls_q := [.long v, pm_no, .int k, .int (cl_bi z), .int 0, .int 0]) (st_q := []) rfl rfl rfl ?_
  have L : ∀ N j, j ≤ 10 → N = 10 - j → (cl_pj v j : Int) ≤ k.toInt → cl_pj v j ≤ 10 → pm_R (d + 1) 107 30 [.long v, pm_no, .int k, .int (cl_bi z), .int (Int32.ofNat (cl_pj v j)), .int (Int32.ofNat j)] [] h Q := by
    intro N
    induction N with
    | zero =>
      intro j j1 j2 j3 j4
      exfalso
      have : j = 10 := by omega
      subst this
      omega
    | succ N ih =>
      intro j j1 j2 j3 j4
      have tj : (Int32.ofNat j).toInt = j := sf_ofT (by omega)
      have tp : (Int32.ofNat (cl_pj v j)).toInt = cl_pj v j := sf_ofT (by omega)
      have nj : Int32.ofNat (j + 1) = Int32.ofNat j + 1 := by rw [Int32.ofNat_add]; rfl
      refine pm_R_lo pm_M107 (pc_q := 32) rfl rfl rfl ?_
      refine pm_R_op pm_M107 (pc_q := 34) (st_q := [.int 50, .int (Int32.ofNat j)]) rfl rfl rfl ?_
      refine pm_R_icmp pm_M107 (t := 66) (pc_q := 37) rfl rfl rfl (fun c => absurd (Int32.le_iff_toInt_le.mp c) (by show ¬ (50 : Int) ≤ (Int32.ofNat j).toInt; rw [tj]; omega)) (fun _ => ?_)
      refine pm_R_lo pm_M107 (pc_q := 38) rfl rfl rfl ?_
      refine pm_R_lo pm_M107 (pc_q := 40) rfl rfl rfl ?_
      refine pm_R_op pm_M107 (pc_q := 41) (st_q := [.long (cl_us v (Int32.ofNat j))]) rfl rfl rfl ?_
      refine pm_R_op pm_M107 (pc_q := 42) (st_q := [.long 1, .long (cl_us v (Int32.ofNat j))]) rfl rfl rfl ?_
      refine pm_R_op pm_M107 (pc_q := 43) (st_q := [.long (cl_us v (Int32.ofNat j) &&& 1)]) rfl rfl rfl ?_
      refine pm_R_op pm_M107 (pc_q := 44) (st_q := [.long 0, .long (cl_us v (Int32.ofNat j) &&& 1)]) rfl rfl rfl ?_
      refine pm_R_op pm_M107 (pc_q := 45) (st_q := [.int (lg_cmp (cl_us v (Int32.ofNat j) &&& 1) 0)]) rfl rfl rfl ?_
      refine pm_R_ifc pm_M107 (t := 60) (pc_q := 48) rfl rfl rfl (fun c => ?_) (fun c => ?_)
      · have hs : cl_pj v (j + 1) = cl_pj v j := by
          show cl_pj v j + (if lg_cmp (cl_us v (Int32.ofNat j) &&& 1) 0 = 0 then 0 else 1) = _
          have c_q : lg_cmp (cl_us v (Int32.ofNat j) &&& 1) 0 = 0 := c
          rw [if_pos c_q]; omega
        refine pm_R_lo pm_M107 (pc_q := 63) (ls_q := [.long v, pm_no, .int k, .int (cl_bi z), .int (Int32.ofNat (cl_pj v j)), .int (Int32.ofNat j + 1)]) (st_q := []) rfl rfl rfl ?_
        refine pm_R_br pm_M107 (pc_q := 30) (st_q := []) rfl rfl ?_
        rw [← nj, ← hs]
        exact ih (j + 1) (by omega) (by omega) (by rw [hs]; exact j3) (by rw [hs]; exact j4)
      · have hs : cl_pj v (j + 1) = cl_pj v j + 1 := by
          show cl_pj v j + (if lg_cmp (cl_us v (Int32.ofNat j) &&& 1) 0 = 0 then 0 else 1) = _
          have c_q : ¬ lg_cmp (cl_us v (Int32.ofNat j) &&& 1) 0 = 0 := c
          rw [if_neg c_q]
        refine pm_R_lo pm_M107 (pc_q := 50) rfl rfl rfl ?_
        refine pm_R_lo pm_M107 (pc_q := 51) rfl rfl rfl ?_
        refine pm_R_icmp pm_M107 (t := 57) (pc_q := 54) rfl rfl rfl (fun e => ?_) (fun _ => ?_)
        · have e_q : ¬ Int32.ofNat (cl_pj v j) = k := e
          have lt : (cl_pj v j : Int) < k.toInt := by
            rcases Int.lt_or_eq_of_le j3 with x | x
            · exact x
            · exact absurd (Int32.toInt_inj.mp (tp.trans x)) e_q
          refine pm_R_lo pm_M107 (pc_q := 60) (ls_q := [.long v, pm_no, .int k, .int (cl_bi z), .int (Int32.ofNat (cl_pj v j) + 1), .int (Int32.ofNat j)]) (st_q := []) rfl rfl rfl ?_
          refine pm_R_lo pm_M107 (pc_q := 63) (ls_q := [.long v, pm_no, .int k, .int (cl_bi z), .int (Int32.ofNat (cl_pj v j) + 1), .int (Int32.ofNat j + 1)]) (st_q := []) rfl rfl rfl ?_
          refine pm_R_br pm_M107 (pc_q := 30) (st_q := []) rfl rfl ?_
          have np : Int32.ofNat (cl_pj v (j + 1)) = Int32.ofNat (cl_pj v j) + 1 := by rw [hs, Int32.ofNat_add]; rfl
          rw [← nj, ← np]
          exact ih (j + 1) (by omega) (by omega) (by rw [hs]; omega) (by rw [hs]; omega)
        · refine pm_R_lo pm_M107 (pc_q := 56) rfl rfl rfl ?_
          exact pm_R_ret pm_M107 (r := some (.int (Int32.ofNat j))) rfl (pm_ret_i _) (K _ ⟨by rw [tj]; omega, by rw [tj]; omega⟩)
  exact L 10 0 (by decide) rfl (by show (0 : Int) ≤ _; exact hk0) (by show 0 ≤ 10; decide)
theorem cl_ui16 (x : Int32) : sf_B 0 65535 (cl_ui x 16) := by
  have e : (cl_ui x 16).toInt = ((x.toUInt32.toBitVec >>> 16).toInt) := rfl
  have h1 : (x.toUInt32.toBitVec >>> 16).toNat < 65536 := by
    rw [BitVec.toNat_ushiftRight, Nat.shiftRight_eq_div_pow]
    have := x.toUInt32.toBitVec.isLt
    omega
  have h2 : (x.toUInt32.toBitVec >>> 16).toInt = ((x.toUInt32.toBitVec >>> 16).toNat : Int) := BitVec.toInt_eq_toNat_of_lt (by omega)
  unfold sf_B
  rw [e, h2]
  omega
variable {d mid pc pc_q : Nat} {ls st : List Value} {h : pm_H} {Q : Option Value → pm_H → Prop} {q : pm_M} {l : List (Nat × Instr × Nat)} {L : Nat} {ck : cl_K} {E : Nat → pm_E} {m : Nat → Int32} {o : Nat → Option Nat}
theorem sf_R_iushr16 (hM : pm_Mt mid q l) {x : Int32} (hf : pm_find l pc = some (.iushr, L)) (hp : pc + 1 = pc_q) (k : ∀ z : Int32, sf_B 0 65535 z → pm_R d mid pc_q ls (.int z :: st) h Q) : pm_R d mid pc ls (.int 16 :: .int x :: st) h Q :=
  pm_R_op hM hf (st_q := .int (cl_ui x 16) :: st) rfl hp (k _ (cl_ui16 x))
theorem cl_R_clone (G : cl_G ck E) (hM : pm_Mt mid q l) (T : cl_T ck E m o h) {ix a n : Nat} {f : Nat → Int32} (hf : pm_find l pc = some (.invokevirtual ix, L)) (hn : pm_at pm_CL q.2.2.2.2 ix = none) (hX : pm_at pm_XL q.2.2.2.2 ix = some 2) (hc : h.2.2 a = .inl (0, n, .inl f)) (h1 : 16 ≤ a) (h2 : a < h.1) (hs : (st.map fun v => v.category).sum ≤ 8) (hp : pc + 3 = pc_q) (kk : ∀ t h_q, cl_T ck E m o h_q → cl_F ck [] 1 n h h_q → cl_t ck t h_q → h.1 = t → h_q.2.2 t = .inl (0, n, .inl f) → pm_R d mid pc_q ls (.ref t :: st) h_q Q) : pm_R d mid pc ls (.ref a :: st) h Q := by
  have h72 := T.1
  refine pm_R_nat hM hf rfl hn (st_q := .ref h.1 :: st) (h_q := pm_push h (.inl (0, n, .inl f)) n) ?_ hp (kk h.1 _ (T.push G _ _) ⟨h72, Nat.le_succ _, Nat.le_refl _, Nat.le_refl _, fun a ha _ _ => ?_⟩ ⟨h72, ?_, Nat.lt_succ_self _⟩ rfl ?_)
  · unfold pm_hb
    dsimp only
    rw [hX, hc]
    show (if _ then _ else _) = _
    exact if_pos ⟨rfl, h1, h2, hs⟩
  · have : a ≠ h.1 := by omega
    simp [pm_push, va_up, this]
  · by_cases z : ck h.1 = 0
    · exact z
    · have := T.al rfl z; omega
  · simp [pm_push, va_up]
theorem cl_R_cast (hM : pm_Mt mid q l) {ix a n y : Nat} {f : Nat → Int32} (hf : pm_find l pc = some (.checkcast ix, L)) (hX : pm_at pm_IL q.2.2.2.2 ix = some y) (hc : h.2.2 a = .inl (0, n, .inl f)) (h1 : 16 ≤ a) (h2 : a < h.1) (hp : pc + 3 = pc_q) (kk : pm_R d mid pc_q ls (.ref a :: st) h Q) : pm_R d mid pc ls (.ref a :: st) h Q := by
  refine pm_R_hp hM hf rfl (st_q := .ref a :: st) (h_q := h) ?_ hp kk
  unfold pm_hb
  dsimp only
  rw [hX]
  simp only [Option.bind, hc]
  exact if_pos ⟨h1, h2⟩
theorem cl_remlt {x y z : Int32} {c b : Int} (e : z.toInt = x.toInt % y.toInt) (By : sf_B c b y) (hc : 1 ≤ c) : z.toInt < y.toInt := by
  rw [e]; exact Int.emod_lt_of_pos _ (by have := By.1; omega)
end
end
section
theorem cl_aux23 (v0 v1 v2 v3 : Int) (q0 : v0 = v1 - 1) (q1 : v2 = 1 + v3) (q2 : v1 < v2) : v0 < v3 := by omega
set_option maxRecDepth 100000 in
set_option maxHeartbeats 4000000 in
/-- SilentTable.drawn -/
theorem cl_c120 {d : Nat} {ck : cl_K} {E : Nat → pm_E} {m : Nat → Int32} {o : Nat → Option Nat} {h : pm_H} {Q : Option Value → pm_H → Prop} {a0 : Int32} {a1 : Int32} {a2 : Int32} {a3 : Int32} {a4 : Int32} (G : cl_G ck E) (T : cl_T ck E m o h)  (K : ∀ (r : Int32) (m_q : Nat → Int32) (h_q : pm_H), cl_T ck E m_q o h_q → cl_F ck [] 1 12 h h_q → rf_W [] m m_q → sf_B (-1) 9 r → Q (some (.int r)) h_q) : pm_R (d + 2) 120 0 [.ref 16, .int a0, .int a1, .int a2, .int a3, .int a4, pm_no, pm_no, pm_no, pm_no, pm_no, pm_no, pm_no, pm_no] [] h Q := by
  refine pm_R_lo pm_M120 (pc_q := 1) rfl rfl rfl ?_
  refine pm_R_lo pm_M120 (pc_q := 2) rfl rfl rfl ?_
  refine pm_R_cv pm_M120 (pc_q := 5) (a := 16) (ra := [.int a0]) (rest := []) (ls_q := [.ref 16, .int a0]) rfl rfl (Or.inl rfl) pm_M62 T.e16 rfl (by decide) (T.lt (by decide)) rfl rfl (Nat.le_of_ble_eq_true rfl) rfl rfl ?_
  refine pm_R_lo pm_M62 (pc_q := 1) rfl rfl rfl ?_
  refine pm_R_ifc pm_M62 (t := 17) (pc_q := 4) rfl rfl rfl (fun c1 => ?_) (fun c1 => ?_)
  · have B2 : sf_B (-2147483648) (-1) a0 := sf_ltL c1 (sf_any a0) sf_k0
    refine pm_R_op pm_M62 (pc_q := 18) (st_q := [.null]) rfl rfl rfl ?_
    refine pm_R_br pm_M62 (pc_q := 30) rfl rfl ?_
    refine pm_R_ret pm_M62 (r := some (.null)) rfl rfl ?_
    show pm_R _ 120 5 [.ref 16, .int a0, .int a1, .int a2, .int a3, .int a4, pm_no, pm_no, pm_no, pm_no, pm_no, pm_no, pm_no, pm_no] [.null] _ _
    refine pm_R_lo pm_M120 (pc_q := 7) (ls_q := [.ref 16, .int a0, .int a1, .int a2, .int a3, .int a4, .null, pm_no, pm_no, pm_no, pm_no, pm_no, pm_no, pm_no]) (st_q := []) rfl rfl rfl ?_
    refine pm_R_lo pm_M120 (pc_q := 8) rfl rfl rfl ?_
    refine pm_R_lo pm_M120 (pc_q := 9) rfl rfl rfl ?_
    refine pm_R_cv pm_M120 (pc_q := 12) (a := 16) (ra := [.int a1]) (rest := []) (ls_q := [.ref 16, .int a1]) rfl rfl (Or.inl rfl) pm_M66 T.e16 rfl (by decide) (T.lt (by decide)) rfl rfl (Nat.le_of_ble_eq_true rfl) rfl rfl ?_
    refine pm_R_lo pm_M66 (pc_q := 1) rfl rfl rfl ?_
    refine pm_R_ifc pm_M66 (t := 17) (pc_q := 4) rfl rfl rfl (fun c3 => ?_) (fun c3 => ?_)
    · have B4 : sf_B (-2147483648) (-1) a1 := sf_ltL c3 (sf_any a1) sf_k0
      refine pm_R_op pm_M66 (pc_q := 18) (st_q := [.null]) rfl rfl rfl ?_
      refine pm_R_br pm_M66 (pc_q := 30) rfl rfl ?_
      refine pm_R_ret pm_M66 (r := some (.null)) rfl rfl ?_
      show pm_R _ 120 12 [.ref 16, .int a0, .int a1, .int a2, .int a3, .int a4, .null, pm_no, pm_no, pm_no, pm_no, pm_no, pm_no, pm_no] [.null] _ _
      refine pm_R_lo pm_M120 (pc_q := 14) (ls_q := [.ref 16, .int a0, .int a1, .int a2, .int a3, .int a4, .null, .null, pm_no, pm_no, pm_no, pm_no, pm_no, pm_no]) (st_q := []) rfl rfl rfl ?_
      refine pm_R_lo pm_M120 (pc_q := 16) rfl rfl rfl ?_
      refine pm_R_br pm_M120 (pc_q := 41) rfl rfl ?_
      refine pm_R_op pm_M120 (pc_q := 42) (st_q := [.int (-1)]) rfl rfl rfl ?_
      exact pm_R_ret pm_M120 (r := some (.int (-1))) rfl rfl (K (-1) m h T ((cl_F.refl (ck := ck) (A := []) (n := 0) (s := 0) T.1).weak (by decide) (by decide)) (rf_W.refl [] m) (sf_weak sf_kn1 (by decide) (by decide)))
    · have B5 : sf_B 0 2147483647 a1 := sf_leR (Int32.not_lt.mp c3) sf_k0 (sf_any a1)
      refine pm_R_lo pm_M66 (pc_q := 5) rfl rfl rfl ?_
      refine pm_R_lo pm_M66 (pc_q := 6) rfl rfl rfl ?_
      refine pm_R_get pm_M66 (pc_q := 9) (v := .ref 17) rfl rfl T.e16 (by decide) (T.lt (by decide)) rfl rfl ?_
      refine pm_R_get pm_M66 (pc_q := 12) (v := .ref 23) rfl rfl T.e17 (by decide) (T.lt (by decide)) rfl rfl ?_
      refine pm_R_op pm_M66 (pc_q := 13) (st_q := [.int 1, .ref 23, .int a1]) rfl rfl rfl ?_
      obtain ⟨f9, e10, b11⟩ := T.C 23 (by decide) (by decide)
      obtain ⟨z6, ez7⟩ : ∃ y, f9 (Int32.toNatClampNeg 1) = y := ⟨_, rfl⟩
      have B8 : sf_B 0 3 z6 := ez7 ▸ (b11 1)
      refine pm_R_iald pm_M66 (pc_q := 14) (v := z6) rfl e10 (T.lt (by decide)) rfl ez7 rfl ?_
      refine pm_R_icmp pm_M66 (t := 21) (pc_q := 17) rfl rfl rfl (fun c12 => ?_) (fun c12 => ?_)
      · have B13 : sf_B 0 2 a1 := sf_ltL c12 B5 B8
        have B14 : sf_B 1 3 z6 := sf_ltR c12 B5 B8
        refine pm_R_lo pm_M66 (pc_q := 22) rfl rfl rfl ?_
        refine pm_R_get pm_M66 (pc_q := 25) (v := .ref 17) rfl rfl T.e16 (by decide) (T.lt (by decide)) rfl rfl ?_
        refine pm_R_get pm_M66 (pc_q := 28) (v := .ref 20) rfl rfl T.e17 (by decide) (T.lt (by decide)) rfl rfl ?_
        refine pm_R_lo pm_M66 (pc_q := 29) rfl rfl rfl ?_
        obtain ⟨f15, e16, b17⟩ := T.C 20 (by decide) (by decide)
        obtain ⟨l18, hx19⟩ := cl_there1 T e10 e16 ez7 c12 B13 (by decide)
        have hk20 := b17 _ _ hx19
        refine pm_R_aald pm_M66 (pc_q := 30) (v := .ref l18) rfl e16 (by decide) (by decide) (by decide) (T.lt (by decide)) (sf_in B13 (by decide) (by decide)) (by rw [hx19]; rfl) rfl ?_
        refine pm_R_ret pm_M66 (r := some (.ref l18)) rfl rfl ?_
        show pm_R _ 120 12 [.ref 16, .int a0, .int a1, .int a2, .int a3, .int a4, .null, pm_no, pm_no, pm_no, pm_no, pm_no, pm_no, pm_no] [.ref l18] _ _
        refine pm_R_lo pm_M120 (pc_q := 14) (ls_q := [.ref 16, .int a0, .int a1, .int a2, .int a3, .int a4, .null, .ref l18, pm_no, pm_no, pm_no, pm_no, pm_no, pm_no]) (st_q := []) rfl rfl rfl ?_
        refine pm_R_lo pm_M120 (pc_q := 16) rfl rfl rfl ?_
        refine pm_R_br pm_M120 (pc_q := 41) rfl rfl ?_
        refine pm_R_op pm_M120 (pc_q := 42) (st_q := [.int (-1)]) rfl rfl rfl ?_
        exact pm_R_ret pm_M120 (r := some (.int (-1))) rfl rfl (K (-1) m h T ((cl_F.refl (ck := ck) (A := []) (n := 0) (s := 0) T.1).weak (by decide) (by decide)) (rf_W.refl [] m) (sf_weak sf_kn1 (by decide) (by decide)))
      · skip
        refine pm_R_op pm_M66 (pc_q := 18) (st_q := [.null]) rfl rfl rfl ?_
        refine pm_R_br pm_M66 (pc_q := 30) rfl rfl ?_
        refine pm_R_ret pm_M66 (r := some (.null)) rfl rfl ?_
        show pm_R _ 120 12 [.ref 16, .int a0, .int a1, .int a2, .int a3, .int a4, .null, pm_no, pm_no, pm_no, pm_no, pm_no, pm_no, pm_no] [.null] _ _
        refine pm_R_lo pm_M120 (pc_q := 14) (ls_q := [.ref 16, .int a0, .int a1, .int a2, .int a3, .int a4, .null, .null, pm_no, pm_no, pm_no, pm_no, pm_no, pm_no]) (st_q := []) rfl rfl rfl ?_
        refine pm_R_lo pm_M120 (pc_q := 16) rfl rfl rfl ?_
        refine pm_R_br pm_M120 (pc_q := 41) rfl rfl ?_
        refine pm_R_op pm_M120 (pc_q := 42) (st_q := [.int (-1)]) rfl rfl rfl ?_
        exact pm_R_ret pm_M120 (r := some (.int (-1))) rfl rfl (K (-1) m h T ((cl_F.refl (ck := ck) (A := []) (n := 0) (s := 0) T.1).weak (by decide) (by decide)) (rf_W.refl [] m) (sf_weak sf_kn1 (by decide) (by decide)))
  · have B21 : sf_B 0 2147483647 a0 := sf_leR (Int32.not_lt.mp c1) sf_k0 (sf_any a0)
    refine pm_R_lo pm_M62 (pc_q := 5) rfl rfl rfl ?_
    refine pm_R_lo pm_M62 (pc_q := 6) rfl rfl rfl ?_
    refine pm_R_get pm_M62 (pc_q := 9) (v := .ref 17) rfl rfl T.e16 (by decide) (T.lt (by decide)) rfl rfl ?_
    refine pm_R_get pm_M62 (pc_q := 12) (v := .ref 23) rfl rfl T.e17 (by decide) (T.lt (by decide)) rfl rfl ?_
    refine pm_R_op pm_M62 (pc_q := 13) (st_q := [.int 0, .ref 23, .int a0]) rfl rfl rfl ?_
    obtain ⟨f25, e26, b27⟩ := T.C 23 (by decide) (by decide)
    obtain ⟨z22, ez23⟩ : ∃ y, f25 (Int32.toNatClampNeg 0) = y := ⟨_, rfl⟩
    have B24 : sf_B 0 2 z22 := ez23 ▸ (b27 0)
    refine pm_R_iald pm_M62 (pc_q := 14) (v := z22) rfl e26 (T.lt (by decide)) rfl ez23 rfl ?_
    refine pm_R_icmp pm_M62 (t := 21) (pc_q := 17) rfl rfl rfl (fun c28 => ?_) (fun c28 => ?_)
    · have B29 : sf_B 0 1 a0 := sf_ltL c28 B21 B24
      have B30 : sf_B 1 2 z22 := sf_ltR c28 B21 B24
      refine pm_R_lo pm_M62 (pc_q := 22) rfl rfl rfl ?_
      refine pm_R_get pm_M62 (pc_q := 25) (v := .ref 17) rfl rfl T.e16 (by decide) (T.lt (by decide)) rfl rfl ?_
      refine pm_R_get pm_M62 (pc_q := 28) (v := .ref 19) rfl rfl T.e17 (by decide) (T.lt (by decide)) rfl rfl ?_
      refine pm_R_lo pm_M62 (pc_q := 29) rfl rfl rfl ?_
      obtain ⟨f31, e32, b33⟩ := T.C 19 (by decide) (by decide)
      obtain ⟨l34, hx35⟩ := cl_there0 T e26 e32 ez23 c28 B29 (by decide)
      have hk36 := b33 _ _ hx35
      refine pm_R_aald pm_M62 (pc_q := 30) (v := .ref l34) rfl e32 (by decide) (by decide) (by decide) (T.lt (by decide)) (sf_in B29 (by decide) (by decide)) (by rw [hx35]; rfl) rfl ?_
      refine pm_R_ret pm_M62 (r := some (.ref l34)) rfl rfl ?_
      show pm_R _ 120 5 [.ref 16, .int a0, .int a1, .int a2, .int a3, .int a4, pm_no, pm_no, pm_no, pm_no, pm_no, pm_no, pm_no, pm_no] [.ref l34] _ _
      refine pm_R_lo pm_M120 (pc_q := 7) (ls_q := [.ref 16, .int a0, .int a1, .int a2, .int a3, .int a4, .ref l34, pm_no, pm_no, pm_no, pm_no, pm_no, pm_no, pm_no]) (st_q := []) rfl rfl rfl ?_
      refine pm_R_lo pm_M120 (pc_q := 8) rfl rfl rfl ?_
      refine pm_R_lo pm_M120 (pc_q := 9) rfl rfl rfl ?_
      refine pm_R_cv pm_M120 (pc_q := 12) (a := 16) (ra := [.int a1]) (rest := []) (ls_q := [.ref 16, .int a1]) rfl rfl (Or.inl rfl) pm_M66 T.e16 rfl (by decide) (T.lt (by decide)) rfl rfl (Nat.le_of_ble_eq_true rfl) rfl rfl ?_
      refine pm_R_lo pm_M66 (pc_q := 1) rfl rfl rfl ?_
      refine pm_R_ifc pm_M66 (t := 17) (pc_q := 4) rfl rfl rfl (fun c37 => ?_) (fun c37 => ?_)
      · have B38 : sf_B (-2147483648) (-1) a1 := sf_ltL c37 (sf_any a1) sf_k0
        refine pm_R_op pm_M66 (pc_q := 18) (st_q := [.null]) rfl rfl rfl ?_
        refine pm_R_br pm_M66 (pc_q := 30) rfl rfl ?_
        refine pm_R_ret pm_M66 (r := some (.null)) rfl rfl ?_
        show pm_R _ 120 12 [.ref 16, .int a0, .int a1, .int a2, .int a3, .int a4, .ref l34, pm_no, pm_no, pm_no, pm_no, pm_no, pm_no, pm_no] [.null] _ _
        refine pm_R_lo pm_M120 (pc_q := 14) (ls_q := [.ref 16, .int a0, .int a1, .int a2, .int a3, .int a4, .ref l34, .null, pm_no, pm_no, pm_no, pm_no, pm_no, pm_no]) (st_q := []) rfl rfl rfl ?_
        refine pm_R_lo pm_M120 (pc_q := 16) rfl rfl rfl ?_
        refine pm_R_br pm_M120 (pc_q := 19) rfl rfl ?_
        refine pm_R_lo pm_M120 (pc_q := 21) rfl rfl rfl ?_
        refine pm_R_br pm_M120 (pc_q := 41) rfl rfl ?_
        refine pm_R_op pm_M120 (pc_q := 42) (st_q := [.int (-1)]) rfl rfl rfl ?_
        exact pm_R_ret pm_M120 (r := some (.int (-1))) rfl rfl (K (-1) m h T ((cl_F.refl (ck := ck) (A := []) (n := 0) (s := 0) T.1).weak (by decide) (by decide)) (rf_W.refl [] m) (sf_weak sf_kn1 (by decide) (by decide)))
      · have B39 : sf_B 0 2147483647 a1 := sf_leR (Int32.not_lt.mp c37) sf_k0 (sf_any a1)
        refine pm_R_lo pm_M66 (pc_q := 5) rfl rfl rfl ?_
        refine pm_R_lo pm_M66 (pc_q := 6) rfl rfl rfl ?_
        refine pm_R_get pm_M66 (pc_q := 9) (v := .ref 17) rfl rfl T.e16 (by decide) (T.lt (by decide)) rfl rfl ?_
        refine pm_R_get pm_M66 (pc_q := 12) (v := .ref 23) rfl rfl T.e17 (by decide) (T.lt (by decide)) rfl rfl ?_
        refine pm_R_op pm_M66 (pc_q := 13) (st_q := [.int 1, .ref 23, .int a1]) rfl rfl rfl ?_
        obtain ⟨z40, ez41⟩ : ∃ y, f25 (Int32.toNatClampNeg 1) = y := ⟨_, rfl⟩
        have B42 : sf_B 0 3 z40 := ez41 ▸ (b27 1)
        refine pm_R_iald pm_M66 (pc_q := 14) (v := z40) rfl e26 (T.lt (by decide)) rfl ez41 rfl ?_
        refine pm_R_icmp pm_M66 (t := 21) (pc_q := 17) rfl rfl rfl (fun c43 => ?_) (fun c43 => ?_)
        · have B44 : sf_B 0 2 a1 := sf_ltL c43 B39 B42
          have B45 : sf_B 1 3 z40 := sf_ltR c43 B39 B42
          refine pm_R_lo pm_M66 (pc_q := 22) rfl rfl rfl ?_
          refine pm_R_get pm_M66 (pc_q := 25) (v := .ref 17) rfl rfl T.e16 (by decide) (T.lt (by decide)) rfl rfl ?_
          refine pm_R_get pm_M66 (pc_q := 28) (v := .ref 20) rfl rfl T.e17 (by decide) (T.lt (by decide)) rfl rfl ?_
          refine pm_R_lo pm_M66 (pc_q := 29) rfl rfl rfl ?_
          obtain ⟨f46, e47, b48⟩ := T.C 20 (by decide) (by decide)
          obtain ⟨l49, hx50⟩ := cl_there1 T e26 e47 ez41 c43 B44 (by decide)
          have hk51 := b48 _ _ hx50
          refine pm_R_aald pm_M66 (pc_q := 30) (v := .ref l49) rfl e47 (by decide) (by decide) (by decide) (T.lt (by decide)) (sf_in B44 (by decide) (by decide)) (by rw [hx50]; rfl) rfl ?_
          refine pm_R_ret pm_M66 (r := some (.ref l49)) rfl rfl ?_
          show pm_R _ 120 12 [.ref 16, .int a0, .int a1, .int a2, .int a3, .int a4, .ref l34, pm_no, pm_no, pm_no, pm_no, pm_no, pm_no, pm_no] [.ref l49] _ _
          refine pm_R_lo pm_M120 (pc_q := 14) (ls_q := [.ref 16, .int a0, .int a1, .int a2, .int a3, .int a4, .ref l34, .ref l49, pm_no, pm_no, pm_no, pm_no, pm_no, pm_no]) (st_q := []) rfl rfl rfl ?_
          refine pm_R_lo pm_M120 (pc_q := 16) rfl rfl rfl ?_
          refine pm_R_br pm_M120 (pc_q := 19) rfl rfl ?_
          refine pm_R_lo pm_M120 (pc_q := 21) rfl rfl rfl ?_
          refine pm_R_br pm_M120 (pc_q := 24) rfl rfl ?_
          refine pm_R_lo pm_M120 (pc_q := 25) rfl rfl rfl ?_
          refine pm_R_cs pm_M120 (pc_q := 28) (ra := [.int a2]) (rest := []) (ls_q := [.int a2]) rfl rfl (Or.inl rfl) pm_M110 rfl rfl (Nat.le_of_ble_eq_true rfl) rfl rfl ?_
          refine pm_R_lo pm_M110 (pc_q := 1) rfl rfl rfl ?_
          refine pm_R_ifc pm_M110 (t := 14) (pc_q := 4) rfl rfl rfl (fun c52 => ?_) (fun c52 => ?_)
          · have B53 : sf_B (-2147483648) (-1) a2 := sf_ltL c52 (sf_any a2) sf_k0
            refine pm_R_op pm_M110 (pc_q := 15) (st_q := [.int 0]) rfl rfl rfl ?_
            refine pm_R_ret pm_M110 (r := some (.int 0)) rfl rfl ?_
            show pm_R _ 120 28 [.ref 16, .int a0, .int a1, .int a2, .int a3, .int a4, .ref l34, .ref l49, pm_no, pm_no, pm_no, pm_no, pm_no, pm_no] [.int 0] _ _
            refine pm_R_br pm_M120 (pc_q := 41) (st_q := []) rfl rfl ?_
            refine pm_R_op pm_M120 (pc_q := 42) (st_q := [.int (-1)]) rfl rfl rfl ?_
            exact pm_R_ret pm_M120 (r := some (.int (-1))) rfl rfl (K (-1) m h T ((cl_F.refl (ck := ck) (A := []) (n := 0) (s := 0) T.1).weak (by decide) (by decide)) (rf_W.refl [] m) (sf_weak sf_kn1 (by decide) (by decide)))
          · have B54 : sf_B 0 2147483647 a2 := sf_leR (Int32.not_lt.mp c52) sf_k0 (sf_any a2)
            refine pm_R_lo pm_M110 (pc_q := 5) rfl rfl rfl ?_
            refine pm_R_op pm_M110 (pc_q := 7) (st_q := [.int 9, .int a2]) rfl rfl rfl ?_
            refine pm_R_icmp pm_M110 (t := 14) (pc_q := 10) rfl rfl rfl (fun c55 => ?_) (fun c55 => ?_)
            · have B56 : sf_B 10 2147483647 a2 := sf_ltR c55 sf_k9 B54
              refine pm_R_op pm_M110 (pc_q := 15) (st_q := [.int 0]) rfl rfl rfl ?_
              refine pm_R_ret pm_M110 (r := some (.int 0)) rfl rfl ?_
              show pm_R _ 120 28 [.ref 16, .int a0, .int a1, .int a2, .int a3, .int a4, .ref l34, .ref l49, pm_no, pm_no, pm_no, pm_no, pm_no, pm_no] [.int 0] _ _
              refine pm_R_br pm_M120 (pc_q := 41) (st_q := []) rfl rfl ?_
              refine pm_R_op pm_M120 (pc_q := 42) (st_q := [.int (-1)]) rfl rfl rfl ?_
              exact pm_R_ret pm_M120 (r := some (.int (-1))) rfl rfl (K (-1) m h T ((cl_F.refl (ck := ck) (A := []) (n := 0) (s := 0) T.1).weak (by decide) (by decide)) (rf_W.refl [] m) (sf_weak sf_kn1 (by decide) (by decide)))
            · have B57 : sf_B 0 9 a2 := sf_leL (Int32.not_lt.mp c55) B54 sf_k9
              refine pm_R_op pm_M110 (pc_q := 11) (st_q := [.int 1]) rfl rfl rfl ?_
              refine pm_R_br pm_M110 (pc_q := 15) rfl rfl ?_
              refine pm_R_ret pm_M110 (r := some (.int 1)) rfl rfl ?_
              show pm_R _ 120 28 [.ref 16, .int a0, .int a1, .int a2, .int a3, .int a4, .ref l34, .ref l49, pm_no, pm_no, pm_no, pm_no, pm_no, pm_no] [.int 1] _ _
              refine pm_R_br pm_M120 (pc_q := 31) (st_q := []) rfl rfl ?_
              refine pm_R_lo pm_M120 (pc_q := 33) rfl rfl rfl ?_
              refine pm_R_lo pm_M120 (pc_q := 35) rfl rfl rfl ?_
              obtain ⟨n58, f59, h60, h61, eE62, eE63, b64⟩ := (G.2.2.1 l49 hk51).2
              have kq65 := (G.2.2.1 l49 hk51).1
              refine pm_R_cv pm_M120 (pc_q := 38) (a := l49) (ra := [.int a4]) (rest := []) (ls_q := [.ref l49, .int a4]) rfl rfl (Or.inl rfl) pm_M67 (T.im hk51 (by decide) (by decide) eE62) rfl (G.ge hk51 (by decide)) (T.al hk51 (by decide)) rfl rfl (Nat.le_of_ble_eq_true rfl) rfl rfl ?_
              refine pm_R_lo pm_M67 (pc_q := 1) rfl rfl rfl ?_
              refine pm_R_ifc pm_M67 (t := 16) (pc_q := 4) rfl rfl rfl (fun c66 => ?_) (fun c66 => ?_)
              · have B67 : sf_B (-2147483648) (-1) a4 := sf_ltL c66 (sf_any a4) sf_k0
                refine pm_R_op pm_M67 (pc_q := 17) (st_q := [.int 0]) rfl rfl rfl ?_
                refine pm_R_ret pm_M67 (r := some (.int 0)) rfl rfl ?_
                show pm_R _ 120 38 [.ref 16, .int a0, .int a1, .int a2, .int a3, .int a4, .ref l34, .ref l49, pm_no, pm_no, pm_no, pm_no, pm_no, pm_no] [.int 0] _ _
                refine pm_R_br pm_M120 (pc_q := 41) (st_q := []) rfl rfl ?_
                refine pm_R_op pm_M120 (pc_q := 42) (st_q := [.int (-1)]) rfl rfl rfl ?_
                exact pm_R_ret pm_M120 (r := some (.int (-1))) rfl rfl (K (-1) m h T ((cl_F.refl (ck := ck) (A := []) (n := 0) (s := 0) T.1).weak (by decide) (by decide)) (rf_W.refl [] m) (sf_weak sf_kn1 (by decide) (by decide)))
              · have B68 : sf_B 0 2147483647 a4 := sf_leR (Int32.not_lt.mp c66) sf_k0 (sf_any a4)
                refine pm_R_lo pm_M67 (pc_q := 5) rfl rfl rfl ?_
                refine pm_R_lo pm_M67 (pc_q := 6) rfl rfl rfl ?_
                refine pm_R_get pm_M67 (pc_q := 9) (v := .int (Int32.ofNat n58)) rfl rfl (T.im hk51 (by decide) (by decide) eE62) (G.ge hk51 (by decide)) (T.al hk51 (by decide)) rfl rfl ?_
                refine pm_R_icmp pm_M67 (t := 16) (pc_q := 12) rfl rfl rfl (fun c69 => ?_) (fun c69 => ?_)
                · have B70 : sf_B 1 2147483647 a4 := sf_leR c69 (sf_ofB1 h61 h60 (by decide)) B68
                  refine pm_R_op pm_M67 (pc_q := 17) (st_q := [.int 0]) rfl rfl rfl ?_
                  refine pm_R_ret pm_M67 (r := some (.int 0)) rfl rfl ?_
                  show pm_R _ 120 38 [.ref 16, .int a0, .int a1, .int a2, .int a3, .int a4, .ref l34, .ref l49, pm_no, pm_no, pm_no, pm_no, pm_no, pm_no] [.int 0] _ _
                  refine pm_R_br pm_M120 (pc_q := 41) (st_q := []) rfl rfl ?_
                  refine pm_R_op pm_M120 (pc_q := 42) (st_q := [.int (-1)]) rfl rfl rfl ?_
                  exact pm_R_ret pm_M120 (r := some (.int (-1))) rfl rfl (K (-1) m h T ((cl_F.refl (ck := ck) (A := []) (n := 0) (s := 0) T.1).weak (by decide) (by decide)) (rf_W.refl [] m) (sf_weak sf_kn1 (by decide) (by decide)))
                · have B71 : sf_B 0 11 a4 := sf_ltL (Int32.not_le.mp c69) B68 (sf_ofB1 h61 h60 (by decide))
                  refine pm_R_op pm_M67 (pc_q := 13) (st_q := [.int 1]) rfl rfl rfl ?_
                  refine pm_R_br pm_M67 (pc_q := 17) rfl rfl ?_
                  refine pm_R_ret pm_M67 (r := some (.int 1)) rfl rfl ?_
                  show pm_R _ 120 38 [.ref 16, .int a0, .int a1, .int a2, .int a3, .int a4, .ref l34, .ref l49, pm_no, pm_no, pm_no, pm_no, pm_no, pm_no] [.int 1] _ _
                  refine pm_R_br pm_M120 (pc_q := 43) (st_q := []) rfl rfl ?_
                  refine pm_R_lo pm_M120 (pc_q := 45) rfl rfl rfl ?_
                  refine pm_R_lo pm_M120 (pc_q := 47) (ls_q := [.ref 16, .int a0, .int a1, .int a2, .int a3, .int a4, .ref l34, .ref l49, .int a3, pm_no, pm_no, pm_no, pm_no, pm_no]) (st_q := []) rfl rfl rfl ?_
                  refine pm_R_lo pm_M120 (pc_q := 49) rfl rfl rfl ?_
                  refine pm_R_get pm_M120 (pc_q := 52) (v := .ref (l49 + 1)) rfl rfl (T.im hk51 (by decide) (by decide) eE62) (G.ge hk51 (by decide)) (T.al hk51 (by decide)) rfl rfl ?_
                  refine cl_R_clone G pm_M120 T (pc_q := 55) rfl rfl rfl (T.im kq65 (by decide) (by decide) eE63) (G.ge kq65 (by decide)) (T.al kq65 (by decide)) (Nat.le_of_ble_eq_true rfl) rfl (fun t72 h73 T74 F75 ht76 hu780 e77 => ?_)
                  have hu78 := Nat.le_trans (cl_F.refl (ck := ck) (A := []) (n := 0) (s := 0) T.1).2.1 (Nat.le_of_eq hu780)
                  have F79 : cl_F ck [] 1 12 _ _ := F75.weak (Nat.le_refl _) h61
                  have F80 := (cl_F.refl (ck := ck) (A := []) (n := 0) (s := 0) T.1).trans (N := 1) (S := 12) F79 (by decide) (by decide) (by decide)
                  refine cl_R_cast pm_M120 (pc_q := 58) rfl rfl e77 (Nat.le_trans (by decide) ht76.1) ht76.2.2 rfl ?_
                  refine pm_R_lo pm_M120 (pc_q := 60) (ls_q := [.ref 16, .int a0, .int a1, .int a2, .int a3, .int a4, .ref l34, .ref l49, .int a3, .ref t72, pm_no, pm_no, pm_no, pm_no]) (st_q := []) rfl rfl rfl ?_
                  refine pm_R_op pm_M120 (pc_q := 61) (st_q := [.int 0]) rfl rfl rfl ?_
                  refine pm_R_lo pm_M120 (pc_q := 63) (ls_q := [.ref 16, .int a0, .int a1, .int a2, .int a3, .int a4, .ref l34, .ref l49, .int a3, .ref t72, .int 0, pm_no, pm_no, pm_no]) (st_q := []) rfl rfl rfl ?_
                  have L_2671 : ∀ (N : Nat) (h_2671 : pm_H) (m_2671 : Nat → Int32) (x8_2671 : Int32) (x10_2671 : Int32) (g11_2671 : Value) (g12_2671 : Value) (g13_2671 : Value), cl_T ck E m_2671 o h_2671 → cl_F ck [] 1 12 h h_2671 → rf_W [] m m_2671 → sf_B (-2147483648) 2147483647 x8_2671 → sf_B 0 9 x10_2671 → g11_2671.category = 1 → g12_2671.category = 1 → g13_2671.category = 1 → (cl_t ck t72 h_2671 ∧ ∃ f : Nat → Int32, h_2671.2.2 t72 = .inl (0, n58, .inl f) ∧ ∀ j, sf_B 0 9 (f j)) → (9 - x10_2671.toInt).toNat = N → pm_R (d + 2) 120 63 [.ref 16, .int a0, .int a1, .int a2, .int a3, .int a4, .ref l34, .ref l49, .int x8_2671, .ref t72, .int x10_2671, g11_2671, g12_2671, g13_2671] [] h_2671 Q := by
                    intro N
                    induction N using Nat.strongRecOn with
                    | ind N ih_2671 =>
                      intro h_2671 m_2671 x8_2671 x10_2671 g11_2671 g12_2671 g13_2671 T_2671 F_2671 W_2671 Bx8_2671 Bx10_2671 Cg11_2671 Cg12_2671 Cg13_2671 X_2671 hN_2671
                      have W2674 : rf_W [] m m_2671 := (rf_W.refl [] m).trans W_2671 (by decide)
                      obtain ⟨f2675, e2676, b2677⟩ := X_2671.2
                      refine pm_R_lo pm_M120 (pc_q := 65) rfl rfl rfl ?_
                      refine pm_R_lo pm_M120 (pc_q := 66) rfl rfl rfl ?_
                      refine pm_R_icmp pm_M120 (t := 154) (pc_q := 69) rfl rfl rfl (fun c2678 => ?_) (fun c2678 => ?_)
                      · skip
                        refine pm_R_lo pm_M120 (pc_q := 156) (pm_q120_1 (Nat.le_of_ble_eq_true rfl)) rfl rfl ?_
                        refine pm_R_lo pm_M120 (pc_q := 158) (pm_q120_1 (Nat.le_of_ble_eq_true rfl)) rfl rfl ?_
                        have q2682 := cl_in1 (n := n58) (Nat.le_trans h61 (by decide)) (Int32.not_le.mp c69) B71 (by decide)
                        obtain ⟨z2679, ez2680⟩ : ∃ y, f2675 (Int32.toNatClampNeg a4) = y := ⟨_, rfl⟩
                        have B2681 : sf_B 0 9 z2679 := ez2680 ▸ b2677 _
                        refine pm_R_iald pm_M120 (pc_q := 159) (v := z2679) (pm_q120_1 (Nat.le_of_ble_eq_true rfl)) e2676 X_2671.1.2.2 q2682.1 ez2680 rfl ?_
                        exact pm_R_ret pm_M120 (r := some (.int z2679)) (pm_q120_1 (Nat.le_of_ble_eq_true rfl)) (pm_ret_i _) (K z2679 m_2671 h_2671 T_2671 F_2671 W2674 (sf_weak B2681 (by decide) (by decide)))
                      · have B2683 : sf_B 0 8 x10_2671 := sf_ltL (Int32.not_le.mp c2678) Bx10_2671 B57
                        have B2684 : sf_B 1 9 a2 := sf_ltR (Int32.not_le.mp c2678) Bx10_2671 B57
                        refine pm_R_op pm_M120 (pc_q := 70) (st_q := [.int 0]) rfl rfl rfl ?_
                        refine pm_R_lo pm_M120 (pc_q := 72) (ls_q := [.ref 16, .int a0, .int a1, .int a2, .int a3, .int a4, .ref l34, .ref l49, .int x8_2671, .ref t72, .int x10_2671, .int 0, g12_2671, g13_2671]) (st_q := []) rfl rfl rfl ?_
                        have L_3186 : ∀ (N : Nat) (h_3186 : pm_H) (m_3186 : Nat → Int32) (x8_3186 : Int32) (x11_3186 : Int32) (g12_3186 : Value) (g13_3186 : Value), cl_T ck E m_3186 o h_3186 → cl_F ck [] 1 12 h h_3186 → rf_W [] m_2671 m_3186 → sf_B (-2147483648) 2147483647 x8_3186 → sf_B 0 12 x11_3186 → g12_3186.category = 1 → g13_3186.category = 1 → (cl_t ck t72 h_3186 ∧ ∃ f : Nat → Int32, h_3186.2.2 t72 = .inl (0, n58, .inl f) ∧ ∀ j, sf_B 0 9 (f j)) → (12 - x11_3186.toInt).toNat = N → pm_R (d + 2) 120 72 [.ref 16, .int a0, .int a1, .int a2, .int a3, .int a4, .ref l34, .ref l49, .int x8_3186, .ref t72, .int x10_2671, .int x11_3186, g12_3186, g13_3186] [] h_3186 Q := by
                          intro N
                          induction N using Nat.strongRecOn with
                          | ind N ih_3186 =>
                            intro h_3186 m_3186 x8_3186 x11_3186 g12_3186 g13_3186 T_3186 F_3186 W_3186 Bx8_3186 Bx11_3186 Cg12_3186 Cg13_3186 X_3186 hN_3186
                            have W3189 : rf_W [] m m_3186 := W2674.trans W_3186 (by decide)
                            have W3190 : rf_W [] m m_3186 := W_2671.trans W_3186 (by decide)
                            obtain ⟨f3191, e3192, b3193⟩ := X_3186.2
                            refine pm_R_lo pm_M120 (pc_q := 74) rfl rfl rfl ?_
                            refine pm_R_lo pm_M120 (pc_q := 76) rfl rfl rfl ?_
                            refine pm_R_get pm_M120 (pc_q := 79) (v := .int (Int32.ofNat n58)) rfl rfl (T_3186.im hk51 (by decide) (by decide) eE62) (G.ge hk51 (by decide)) (T_3186.al hk51 (by decide)) rfl rfl ?_
                            refine pm_R_icmp pm_M120 (t := 148) (pc_q := 82) rfl rfl rfl (fun c3194 => ?_) (fun c3194 => ?_)
                            · have B3195 : sf_B 1 12 x11_3186 := sf_leR c3194 (sf_ofB1 h61 h60 (by decide)) Bx11_3186
                              refine sf_R_iinc pm_M120 (pc_q := 151) (ls_q := fun z => [.ref 16, .int a0, .int a1, .int a2, .int a3, .int a4, .ref l34, .ref l49, .int x8_3186, .ref t72, .int z, .int x11_3186, g12_3186, g13_3186]) (pm_q120_1 (Nat.le_of_ble_eq_true rfl)) B2683 rfl (by decide) (by decide) (by decide) (fun _ => rfl) rfl (fun z3196 e3197 B3198 => ?_)
                              show pm_R _ 120 151 [.ref 16, .int a0, .int a1, .int a2, .int a3, .int a4, .ref l34, .ref l49, .int x8_3186, .ref t72, .int z3196, .int x11_3186, g12_3186, g13_3186] [] _ _
                              refine pm_R_br pm_M120 (pc_q := 63) (pm_q120_1 (Nat.le_of_ble_eq_true rfl)) rfl ?_
                              exact ih_2671 _ (sf_up hN_2671 e3197 B2683 (by decide) (by decide)) h_3186 m_3186 x8_3186 z3196 (.int x11_3186) (g12_3186) (g13_3186) T_3186 F_3186 W3190 Bx8_3186 (sf_weak B3198 (by decide) (by decide)) rfl Cg12_3186 Cg13_3186 ⟨X_3186.1, _, e3192, b3193⟩ rfl
                            · have B3199 : sf_B 0 11 x11_3186 := sf_ltL (Int32.not_le.mp c3194) Bx11_3186 (sf_ofB1 h61 h60 (by decide))
                              refine pm_R_lo pm_M120 (pc_q := 84) rfl rfl rfl ?_
                              refine pm_R_ldcw pm_M120 (pc_q := 87) rfl rfl rfl ?_
                              refine sf_R_iany pm_M120 (pc_q := 88) (st := []) rfl rfl rfl (fun z3203 => ?_)
                              refine pm_R_op pm_M120 (pc_q := 91) (st_q := [.int 12345, .int z3203]) rfl rfl rfl ?_
                              refine sf_R_iany pm_M120 (pc_q := 92) (st := []) rfl rfl rfl (fun z3207 => ?_)
                              refine pm_R_lo pm_M120 (pc_q := 94) (ls_q := [.ref 16, .int a0, .int a1, .int a2, .int a3, .int a4, .ref l34, .ref l49, .int z3207, .ref t72, .int x10_2671, .int x11_3186, g12_3186, g13_3186]) (st_q := []) rfl rfl rfl ?_
                              refine pm_R_lo pm_M120 (pc_q := 96) rfl rfl rfl ?_
                              obtain ⟨rc3208, tc3209, rs3210, fv3211, fw3212, fr3213, ft3214, fn3215, h3216, h3217, B3218, eE3219, eE3220, eE3221, eE3222, eE3223, eE3224, b3225, b3226, b3227⟩ := (G.2.1 l34 hk36).2.2.2.2.2
                              have kq3228 := G.2.1 l34 hk36
                              refine pm_R_get pm_M120 (pc_q := 99) (v := .ref (l34 + 5)) rfl rfl (T_3186.im hk36 (by decide) (by decide) eE3219) (G.ge hk36 (by decide)) (T_3186.al hk36 (by decide)) rfl rfl ?_
                              refine pm_R_lo pm_M120 (pc_q := 101) rfl rfl rfl ?_
                              refine pm_R_lo pm_M120 (pc_q := 103) rfl rfl rfl ?_
                              have q3232 := cl_in1 (n := n58) (Nat.le_trans h61 (by decide)) (Int32.not_le.mp c3194) B3199 (by decide)
                              obtain ⟨z3229, ez3230⟩ : ∃ y, f3191 (Int32.toNatClampNeg x11_3186) = y := ⟨_, rfl⟩
                              have B3231 : sf_B 0 9 z3229 := ez3230 ▸ b3193 _
                              refine pm_R_iald pm_M120 (pc_q := 104) (v := z3229) rfl e3192 X_3186.1.2.2 q3232.1 ez3230 rfl ?_
                              obtain ⟨z3233, ez3234⟩ : ∃ y, fn3215 (Int32.toNatClampNeg z3229) = y := ⟨_, rfl⟩
                              have B3235 : sf_B 0 1023 z3233 := ez3234 ▸ b3227 _
                              refine pm_R_iald pm_M120 (pc_q := 105) (v := z3233) rfl (T_3186.im kq3228.2.2.2.2.1 (by decide) (by decide) eE3224) (T_3186.al kq3228.2.2.2.2.1 (by decide)) (sf_in B3231 (by decide) (by decide)) ez3234 rfl ?_
                              refine pm_R_lo pm_M120 (pc_q := 107) (ls_q := [.ref 16, .int a0, .int a1, .int a2, .int a3, .int a4, .ref l34, .ref l49, .int z3207, .ref t72, .int x10_2671, .int x11_3186, .int z3233, g13_3186]) (st_q := []) rfl rfl rfl ?_
                              refine pm_R_lo pm_M120 (pc_q := 109) rfl rfl rfl ?_
                              refine pm_R_op pm_M120 (pc_q := 111) (st_q := [.int 16, .int z3207]) rfl rfl rfl ?_
                              refine sf_R_iushr16 pm_M120 (pc_q := 112) rfl rfl (fun z3236 B3238 => ?_)
                              refine pm_R_op pm_M120 (pc_q := 113) (st_q := [.int 1, .int z3236]) rfl rfl rfl ?_
                              refine pm_R_lo pm_M120 (pc_q := 115) rfl rfl rfl ?_
                              refine pm_R_cs pm_M120 (pc_q := 118) (ra := [.int z3233]) (rest := [.int 1, .int z3236]) (ls_q := [.int z3233]) rfl rfl (Or.inl rfl) pm_M116 rfl rfl (Nat.le_of_ble_eq_true rfl) rfl rfl ?_
                              refine cl_e116 (d := d + 1) ?_
                              have B3239 : sf_B 0 10 (cl_bi z3233) := cl_bi_B B3235
                              show pm_R _ 120 118 [.ref 16, .int a0, .int a1, .int a2, .int a3, .int a4, .ref l34, .ref l49, .int z3207, .ref t72, .int x10_2671, .int x11_3186, .int z3233, g13_3186] [.int (cl_bi z3233), .int 1, .int z3236] _ _
                              refine sf_R_iadd pm_M120 (pc_q := 119) rfl rfl sf_k1 B3239 (by decide) (by decide) (fun z3240 e3241 B3242 => ?_)
                              refine sf_R_irem pm_M120 (pc_q := 120) rfl rfl B3238 B3242 (by decide) (by decide) (fun z3243 e3244 B3245 => ?_)
                              refine pm_R_lo pm_M120 (pc_q := 122) (ls_q := [.ref 16, .int a0, .int a1, .int a2, .int a3, .int a4, .ref l34, .ref l49, .int z3207, .ref t72, .int x10_2671, .int x11_3186, .int z3233, .int z3243]) (st_q := []) (pm_q120_1 (Nat.le_of_ble_eq_true rfl)) rfl rfl ?_
                              refine pm_R_lo pm_M120 (pc_q := 124) (pm_q120_1 (Nat.le_of_ble_eq_true rfl)) rfl rfl ?_
                              refine pm_R_ifc pm_M120 (t := 142) (pc_q := 127) (pm_q120_1 (Nat.le_of_ble_eq_true rfl)) rfl rfl (fun c3246 => ?_) (fun c3246 => ?_)
                              · have B3247 : sf_B 0 0 z3243 := sf_leL c3246 B3245 sf_k0
                                refine sf_R_iinc pm_M120 (pc_q := 145) (ls_q := fun z => [.ref 16, .int a0, .int a1, .int a2, .int a3, .int a4, .ref l34, .ref l49, .int z3207, .ref t72, .int x10_2671, .int z, .int z3233, .int z3243]) (pm_q120_1 (Nat.le_of_ble_eq_true rfl)) B3199 rfl (by decide) (by decide) (by decide) (fun _ => rfl) rfl (fun z3248 e3249 B3250 => ?_)
                                show pm_R _ 120 145 [.ref 16, .int a0, .int a1, .int a2, .int a3, .int a4, .ref l34, .ref l49, .int z3207, .ref t72, .int x10_2671, .int z3248, .int z3233, .int z3243] [] _ _
                                refine pm_R_br pm_M120 (pc_q := 72) (pm_q120_1 (Nat.le_of_ble_eq_true rfl)) rfl ?_
                                exact ih_3186 _ (sf_up hN_3186 e3249 B3199 (by decide) (by decide)) h_3186 m_3186 z3207 z3248 (.int z3233) (.int z3243) T_3186 F_3186 W_3186 (sf_any z3207) (sf_weak B3250 (by decide) (by decide)) rfl rfl ⟨X_3186.1, _, e3192, b3193⟩ rfl
                              · have B3251 : sf_B 1 10 z3243 := sf_ltR (Int32.not_le.mp c3246) sf_k0 B3245
                                refine pm_R_lo pm_M120 (pc_q := 129) (pm_q120_1 (Nat.le_of_ble_eq_true rfl)) rfl rfl ?_
                                refine pm_R_lo pm_M120 (pc_q := 131) (pm_q120_1 (Nat.le_of_ble_eq_true rfl)) rfl rfl ?_
                                refine pm_R_lo pm_M120 (pc_q := 133) (pm_q120_1 (Nat.le_of_ble_eq_true rfl)) rfl rfl ?_
                                refine sf_R_i2l pm_M120 (pc_q := 134) (pm_q120_1 (Nat.le_of_ble_eq_true rfl)) rfl B3235 (fun z3252 e3253 B3254 => ?_)
                                refine pm_R_lo pm_M120 (pc_q := 136) (pm_q120_1 (Nat.le_of_ble_eq_true rfl)) rfl rfl ?_
                                refine pm_R_op pm_M120 (pc_q := 137) (st_q := [.int 1, .int z3243, .long z3252, .int x11_3186, .ref t72]) (pm_q120_1 (Nat.le_of_ble_eq_true rfl)) rfl rfl ?_
                                refine sf_R_isub pm_M120 (pc_q := 138) (pm_q120_1 (Nat.le_of_ble_eq_true rfl)) rfl B3251 sf_k1 (by decide) (by decide) (fun z3255 e3256 B3257 => ?_)
                                refine pm_R_cs pm_M120 (pc_q := 141) (ra := [.int z3255, .long z3252]) (rest := [.int x11_3186, .ref t72]) (ls_q := [.long z3252, pm_no, .int z3255, pm_no, pm_no, pm_no]) (pm_q120_1 (Nat.le_of_ble_eq_true rfl)) rfl (Or.inl rfl) pm_M107 rfl rfl (Nat.le_of_ble_eq_true rfl) rfl rfl ?_
                                refine cl_c107_d (d := d + 0) B3235 e3253 (Int.le_trans (by decide) B3257.1) (cl_aux23 _ _ _ _ e3256 e3241 (cl_remlt e3244 B3242 (by decide))) (fun r3258 B3259 => ?_)
                                show pm_R _ 120 141 [.ref 16, .int a0, .int a1, .int a2, .int a3, .int a4, .ref l34, .ref l49, .int z3207, .ref t72, .int x10_2671, .int x11_3186, .int z3233, .int z3243] [.int r3258, .int x11_3186, .ref t72] _ _
                                have q3260 := cl_in1 (n := n58) (Nat.le_trans h61 (by decide)) (Int32.not_le.mp c3194) B3199 (by decide)
                                refine cl_R_tst G pm_M120 T_3186 (pc_q := 142) (pm_q120_1 (Nat.le_of_ble_eq_true rfl)) e3192 X_3186.1 q3260.1 rfl (fun h3261 T3262 F3263 e3264 => ?_)
                                have F3265 := F_3186.transT F3263 hu78
                                refine sf_R_iinc pm_M120 (pc_q := 145) (ls_q := fun z => [.ref 16, .int a0, .int a1, .int a2, .int a3, .int a4, .ref l34, .ref l49, .int z3207, .ref t72, .int x10_2671, .int z, .int z3233, .int z3243]) (pm_q120_1 (Nat.le_of_ble_eq_true rfl)) B3199 rfl (by decide) (by decide) (by decide) (fun _ => rfl) rfl (fun z3266 e3267 B3268 => ?_)
                                show pm_R _ 120 145 [.ref 16, .int a0, .int a1, .int a2, .int a3, .int a4, .ref l34, .ref l49, .int z3207, .ref t72, .int x10_2671, .int z3266, .int z3233, .int z3243] [] _ _
                                refine pm_R_br pm_M120 (pc_q := 72) (pm_q120_1 (Nat.le_of_ble_eq_true rfl)) rfl ?_
                                have ht3269 := (X_3186.1.F F3263)
                                exact ih_3186 _ (sf_up hN_3186 e3267 B3199 (by decide) (by decide)) h3261 m_3186 z3207 z3266 (.int z3233) (.int z3243) T3262 F3265 W_3186 (sf_any z3207) (sf_weak B3268 (by decide) (by decide)) rfl rfl ⟨ht3269, _, e3264, (sf_upd b3193 B3259 _)⟩ rfl
                        exact L_3186 _ h_2671 m_2671 x8_2671 0 (g12_2671) (g13_2671) T_2671 F_2671 (rf_W.refl _ _) Bx8_2671 (sf_weak sf_k0 (by decide) (by decide)) Cg12_2671 Cg13_2671 ⟨X_2671.1, _, e2676, b2677⟩ rfl
                  exact L_2671 _ h73 m a3 0 (pm_no) (pm_no) (pm_no) T74 F80 (rf_W.refl _ _) (sf_any a3) (sf_weak sf_k0 (by decide) (by decide)) rfl rfl rfl ⟨ht76, _, e77, b64⟩ rfl
        · skip
          refine pm_R_op pm_M66 (pc_q := 18) (st_q := [.null]) rfl rfl rfl ?_
          refine pm_R_br pm_M66 (pc_q := 30) rfl rfl ?_
          refine pm_R_ret pm_M66 (r := some (.null)) rfl rfl ?_
          show pm_R _ 120 12 [.ref 16, .int a0, .int a1, .int a2, .int a3, .int a4, .ref l34, pm_no, pm_no, pm_no, pm_no, pm_no, pm_no, pm_no] [.null] _ _
          refine pm_R_lo pm_M120 (pc_q := 14) (ls_q := [.ref 16, .int a0, .int a1, .int a2, .int a3, .int a4, .ref l34, .null, pm_no, pm_no, pm_no, pm_no, pm_no, pm_no]) (st_q := []) rfl rfl rfl ?_
          refine pm_R_lo pm_M120 (pc_q := 16) rfl rfl rfl ?_
          refine pm_R_br pm_M120 (pc_q := 19) rfl rfl ?_
          refine pm_R_lo pm_M120 (pc_q := 21) rfl rfl rfl ?_
          refine pm_R_br pm_M120 (pc_q := 41) rfl rfl ?_
          refine pm_R_op pm_M120 (pc_q := 42) (st_q := [.int (-1)]) rfl rfl rfl ?_
          exact pm_R_ret pm_M120 (r := some (.int (-1))) rfl rfl (K (-1) m h T ((cl_F.refl (ck := ck) (A := []) (n := 0) (s := 0) T.1).weak (by decide) (by decide)) (rf_W.refl [] m) (sf_weak sf_kn1 (by decide) (by decide)))
    · skip
      refine pm_R_op pm_M62 (pc_q := 18) (st_q := [.null]) rfl rfl rfl ?_
      refine pm_R_br pm_M62 (pc_q := 30) rfl rfl ?_
      refine pm_R_ret pm_M62 (r := some (.null)) rfl rfl ?_
      show pm_R _ 120 5 [.ref 16, .int a0, .int a1, .int a2, .int a3, .int a4, pm_no, pm_no, pm_no, pm_no, pm_no, pm_no, pm_no, pm_no] [.null] _ _
      refine pm_R_lo pm_M120 (pc_q := 7) (ls_q := [.ref 16, .int a0, .int a1, .int a2, .int a3, .int a4, .null, pm_no, pm_no, pm_no, pm_no, pm_no, pm_no, pm_no]) (st_q := []) rfl rfl rfl ?_
      refine pm_R_lo pm_M120 (pc_q := 8) rfl rfl rfl ?_
      refine pm_R_lo pm_M120 (pc_q := 9) rfl rfl rfl ?_
      refine pm_R_cv pm_M120 (pc_q := 12) (a := 16) (ra := [.int a1]) (rest := []) (ls_q := [.ref 16, .int a1]) rfl rfl (Or.inl rfl) pm_M66 T.e16 rfl (by decide) (T.lt (by decide)) rfl rfl (Nat.le_of_ble_eq_true rfl) rfl rfl ?_
      refine pm_R_lo pm_M66 (pc_q := 1) rfl rfl rfl ?_
      refine pm_R_ifc pm_M66 (t := 17) (pc_q := 4) rfl rfl rfl (fun c3270 => ?_) (fun c3270 => ?_)
      · have B3271 : sf_B (-2147483648) (-1) a1 := sf_ltL c3270 (sf_any a1) sf_k0
        refine pm_R_op pm_M66 (pc_q := 18) (st_q := [.null]) rfl rfl rfl ?_
        refine pm_R_br pm_M66 (pc_q := 30) rfl rfl ?_
        refine pm_R_ret pm_M66 (r := some (.null)) rfl rfl ?_
        show pm_R _ 120 12 [.ref 16, .int a0, .int a1, .int a2, .int a3, .int a4, .null, pm_no, pm_no, pm_no, pm_no, pm_no, pm_no, pm_no] [.null] _ _
        refine pm_R_lo pm_M120 (pc_q := 14) (ls_q := [.ref 16, .int a0, .int a1, .int a2, .int a3, .int a4, .null, .null, pm_no, pm_no, pm_no, pm_no, pm_no, pm_no]) (st_q := []) rfl rfl rfl ?_
        refine pm_R_lo pm_M120 (pc_q := 16) rfl rfl rfl ?_
        refine pm_R_br pm_M120 (pc_q := 41) rfl rfl ?_
        refine pm_R_op pm_M120 (pc_q := 42) (st_q := [.int (-1)]) rfl rfl rfl ?_
        exact pm_R_ret pm_M120 (r := some (.int (-1))) rfl rfl (K (-1) m h T ((cl_F.refl (ck := ck) (A := []) (n := 0) (s := 0) T.1).weak (by decide) (by decide)) (rf_W.refl [] m) (sf_weak sf_kn1 (by decide) (by decide)))
      · have B3272 : sf_B 0 2147483647 a1 := sf_leR (Int32.not_lt.mp c3270) sf_k0 (sf_any a1)
        refine pm_R_lo pm_M66 (pc_q := 5) rfl rfl rfl ?_
        refine pm_R_lo pm_M66 (pc_q := 6) rfl rfl rfl ?_
        refine pm_R_get pm_M66 (pc_q := 9) (v := .ref 17) rfl rfl T.e16 (by decide) (T.lt (by decide)) rfl rfl ?_
        refine pm_R_get pm_M66 (pc_q := 12) (v := .ref 23) rfl rfl T.e17 (by decide) (T.lt (by decide)) rfl rfl ?_
        refine pm_R_op pm_M66 (pc_q := 13) (st_q := [.int 1, .ref 23, .int a1]) rfl rfl rfl ?_
        obtain ⟨z3273, ez3274⟩ : ∃ y, f25 (Int32.toNatClampNeg 1) = y := ⟨_, rfl⟩
        have B3275 : sf_B 0 3 z3273 := ez3274 ▸ (b27 1)
        refine pm_R_iald pm_M66 (pc_q := 14) (v := z3273) rfl e26 (T.lt (by decide)) rfl ez3274 rfl ?_
        refine pm_R_icmp pm_M66 (t := 21) (pc_q := 17) rfl rfl rfl (fun c3276 => ?_) (fun c3276 => ?_)
        · have B3277 : sf_B 0 2 a1 := sf_ltL c3276 B3272 B3275
          have B3278 : sf_B 1 3 z3273 := sf_ltR c3276 B3272 B3275
          refine pm_R_lo pm_M66 (pc_q := 22) rfl rfl rfl ?_
          refine pm_R_get pm_M66 (pc_q := 25) (v := .ref 17) rfl rfl T.e16 (by decide) (T.lt (by decide)) rfl rfl ?_
          refine pm_R_get pm_M66 (pc_q := 28) (v := .ref 20) rfl rfl T.e17 (by decide) (T.lt (by decide)) rfl rfl ?_
          refine pm_R_lo pm_M66 (pc_q := 29) rfl rfl rfl ?_
          obtain ⟨f3279, e3280, b3281⟩ := T.C 20 (by decide) (by decide)
          obtain ⟨l3282, hx3283⟩ := cl_there1 T e26 e3280 ez3274 c3276 B3277 (by decide)
          have hk3284 := b3281 _ _ hx3283
          refine pm_R_aald pm_M66 (pc_q := 30) (v := .ref l3282) rfl e3280 (by decide) (by decide) (by decide) (T.lt (by decide)) (sf_in B3277 (by decide) (by decide)) (by rw [hx3283]; rfl) rfl ?_
          refine pm_R_ret pm_M66 (r := some (.ref l3282)) rfl rfl ?_
          show pm_R _ 120 12 [.ref 16, .int a0, .int a1, .int a2, .int a3, .int a4, .null, pm_no, pm_no, pm_no, pm_no, pm_no, pm_no, pm_no] [.ref l3282] _ _
          refine pm_R_lo pm_M120 (pc_q := 14) (ls_q := [.ref 16, .int a0, .int a1, .int a2, .int a3, .int a4, .null, .ref l3282, pm_no, pm_no, pm_no, pm_no, pm_no, pm_no]) (st_q := []) rfl rfl rfl ?_
          refine pm_R_lo pm_M120 (pc_q := 16) rfl rfl rfl ?_
          refine pm_R_br pm_M120 (pc_q := 41) rfl rfl ?_
          refine pm_R_op pm_M120 (pc_q := 42) (st_q := [.int (-1)]) rfl rfl rfl ?_
          exact pm_R_ret pm_M120 (r := some (.int (-1))) rfl rfl (K (-1) m h T ((cl_F.refl (ck := ck) (A := []) (n := 0) (s := 0) T.1).weak (by decide) (by decide)) (rf_W.refl [] m) (sf_weak sf_kn1 (by decide) (by decide)))
        · skip
          refine pm_R_op pm_M66 (pc_q := 18) (st_q := [.null]) rfl rfl rfl ?_
          refine pm_R_br pm_M66 (pc_q := 30) rfl rfl ?_
          refine pm_R_ret pm_M66 (r := some (.null)) rfl rfl ?_
          show pm_R _ 120 12 [.ref 16, .int a0, .int a1, .int a2, .int a3, .int a4, .null, pm_no, pm_no, pm_no, pm_no, pm_no, pm_no, pm_no] [.null] _ _
          refine pm_R_lo pm_M120 (pc_q := 14) (ls_q := [.ref 16, .int a0, .int a1, .int a2, .int a3, .int a4, .null, .null, pm_no, pm_no, pm_no, pm_no, pm_no, pm_no]) (st_q := []) rfl rfl rfl ?_
          refine pm_R_lo pm_M120 (pc_q := 16) rfl rfl rfl ?_
          refine pm_R_br pm_M120 (pc_q := 41) rfl rfl ?_
          refine pm_R_op pm_M120 (pc_q := 42) (st_q := [.int (-1)]) rfl rfl rfl ?_
          exact pm_R_ret pm_M120 (r := some (.int (-1))) rfl rfl (K (-1) m h T ((cl_F.refl (ck := ck) (A := []) (n := 0) (s := 0) T.1).weak (by decide) (by decide)) (rf_W.refl [] m) (sf_weak sf_kn1 (by decide) (by decide)))
end
section
section
/-! words: String constants at 7 to 10, their bytes at 11 to 14 -/
variable {d mid pc pc_q : Nat} {ls st : List Value} {h : pm_H} {Q : Option Value → pm_H → Prop} {q : pm_M} {l : List (Nat × Instr × Nat)} {L : Nat}
theorem cl_R_cvS (hM : pm_Mt mid q l) {ix callee np kd a t n : Nat} {x : (Nat → Int32) ⊕ (Nat → Int64) ⊕ (Nat → UInt32) ⊕ (Nat → UInt64) ⊕ (Nat → Option Nat)} {ra rest ls_q : List Value} {qc : pm_M} {lc : List (Nat × Instr × Nat)} (hf : pm_find l pc = some (.invokevirtual ix, L)) (hC : pm_at pm_CL q.2.2.2.2 ix = some (callee, np, kd)) (hk : kd = 0 ∨ kd = 3) (hMc : pm_Mt callee qc lc) (hrc : h.2.2 a = .inl (t, n, x)) (hcl : qc.1.cls = "java/lang/String") (h1 : 7 ≤ a) (h2 : a < 11) (hst : st = (ra ++ [.ref a]) ++ rest) (hn : ra.length = np) (hs : (rest.map fun v => v.category).sum ≤ 8) (he : pm_ent qc.2.2.1 (.ref a :: ra.reverse) = some ls_q) (hp : pc + 3 = pc_q) (kk : pm_R d callee 0 ls_q [] h (fun r h_q => pm_R (d + 1) mid pc_q ls (r.toList ++ rest) h_q Q)) : pm_R (d + 1) mid pc ls st h Q := by
  subst hst
  have hi : pm_ix (.invokevirtual ix) kd = some ix := by rcases hk with rfl | rfl <;> rfl
  have hrev : (ra ++ [Value.ref a]).reverse = .ref a :: ra.reverse := by rw [List.reverse_append]; rfl
  have hr : pm_rcv kd qc h (ra ++ [Value.ref a]).reverse = true := by
    rw [hrev]
    have e : pm_rc qc h a = true := by
      unfold pm_rc
      rw [hrc]
      show (decide (7 ≤ a ∧ a < 11) && decide (qc.1.cls = "java/lang/String")) = true
      rw [decide_eq_true ⟨h1, h2⟩, decide_eq_true hcl]
      rfl
    rcases hk with rfl | rfl <;> exact e
  have hc := pm_call_mk (ra := ra ++ [.ref a]) (rest := rest) hi hC hMc.1 (by rw [List.length_append, if_neg (by omega), hn]; rfl) hs hr
  rw [hrev] at hc
  exact pm_R_call hM hf (pm_noret_call hi) hc hMc he hp kk
theorem cl_R_sal (hM : pm_Mt mid q l) {a n : Nat} {f : Nat → Int32} {v : Int32} (hf : pm_find l pc = some (.arraylength, L)) (hc : h.2.2 a = .inl (2, n, .inl f)) (ha : a < 16) (hv : Int32.ofNat n = v) (hp : pc + 1 = pc_q) (kk : pm_R d mid pc_q ls (.int v :: st) h Q) : pm_R d mid pc ls (.ref a :: st) h Q := by
  subst hv
  refine pm_R_str hM hf (st_q := .int (Int32.ofNat n) :: st) ?_ ?_ hp kk
  · unfold pm_hb
    dsimp only
    rw [hc]
    show (if 16 ≤ a ∧ a < h.1 ∧ 2 < 10 then _ else _) = _
    rw [if_neg (by omega)]
  · unfold pm_str
    dsimp only
    rw [hc]
    show (if a < 16 then _ else _) = _
    rw [if_pos ha]
theorem cl_R_sbl (hM : pm_Mt mid q l) {a n : Nat} {f : Nat → Int32} {j v : Int32} (hf : pm_find l pc = some (.baload, L)) (hc : h.2.2 a = .inl (2, n, .inl f)) (ha : a < 16) (hj : pm_in j n = true) (hv : f j.toNatClampNeg = v) (hp : pc + 1 = pc_q) (kk : pm_R d mid pc_q ls (.int v :: st) h Q) : pm_R d mid pc ls (.int j :: .ref a :: st) h Q := by
  subst hv
  refine pm_R_str hM hf (st_q := .int (f j.toNatClampNeg) :: st) ?_ ?_ hp kk
  · unfold pm_hb
    dsimp only
    rw [hc]
    show (if 16 ≤ a ∧ a < h.1 ∧ pm_in j n = true then _ else _) = _
    rw [if_neg (by omega)]
  · unfold pm_str
    dsimp only
    rw [hc]
    show (if a < 16 ∧ pm_in j n = true then _ else _) = _
    rw [if_pos ⟨ha, hj⟩]
theorem cl_R_sgf (hM : pm_Mt mid q l) {a ix : Nat} {v : Value} (hf : pm_find l pc = some (.getfield ix, L)) (hF : pm_at pm_FL q.2.2.2.2 ix = none) (ho : pm_str q.2.2.2.2 (.getfield ix) (.ref a :: st) h = some (v :: st)) (hp : pc + 3 = pc_q) (kk : pm_R d mid pc_q ls (v :: st) h Q) : pm_R d mid pc ls (.ref a :: st) h Q := by
  refine pm_R_str hM hf ?_ ho hp kk
  show ((pm_at pm_FL q.2.2.2.2 ix).bind _).map _ = none
  rw [hF]; rfl
theorem cl_R_sgs (hM : pm_Mt mid q l) {ix : Nat} {v : Value} (hf : pm_find l pc = some (.getstatic ix, L)) (hF : pm_at pm_SL q.2.2.2.2 ix = none) (ho : pm_str q.2.2.2.2 (.getstatic ix) st h = some (v :: st)) (hp : pc + 3 = pc_q) (kk : pm_R d mid pc_q ls (v :: st) h Q) : pm_R d mid pc ls st h Q := by
  refine pm_R_str hM hf ?_ ho hp kk
  show (pm_at pm_SL q.2.2.2.2 ix).map _ = none
  rw [hF]; rfl
theorem cl_R_sldc (hM : pm_Mt mid q l) {ix : Nat} {v : Value} (hf : pm_find l pc = some (.ldc ix, L)) (hF : pm_at pm_KL q.2.2.2.2 ix = none) (ho : pm_str q.2.2.2.2 (.ldc ix) st h = some (v :: st)) (hp : pc + 2 = pc_q) (kk : pm_R d mid pc_q ls (v :: st) h Q) : pm_R d mid pc ls st h Q := by
  refine pm_R_str hM hf ?_ ho hp kk
  show (pm_at pm_KL q.2.2.2.2 ix).map _ = none
  rw [hF]; rfl
theorem cl_st9 {c s : Nat} (hc : c = 8) (h1 : 7 ≤ s) (h2 : s < 11) : pm_str c (.getfield 9) (.ref s :: st) h = some (.ref (s + 4) :: st) := by
  subst hc
  show (if 8 = 8 ∧ 7 ≤ s ∧ s < 11 ∧ 9 = 9 then some (Value.ref (s + 4) :: st) else if 8 = 8 ∧ 7 ≤ s ∧ s < 11 ∧ 9 = 15 then some (Value.int 0 :: st) else none) = _
  rw [if_pos ⟨rfl, h1, h2, rfl⟩]
theorem cl_st15 {c s : Nat} (hc : c = 8) (h1 : 7 ≤ s) (h2 : s < 11) : pm_str c (.getfield 15) (.ref s :: st) h = some (.int 0 :: st) := by
  subst hc
  show (if 8 = 8 ∧ 7 ≤ s ∧ s < 11 ∧ 15 = 9 then some (Value.ref (s + 4) :: st) else if 8 = 8 ∧ 7 ≤ s ∧ s < 11 ∧ 15 = 15 then some (Value.int 0 :: st) else none) = _
  rw [if_neg (fun z => absurd z.2.2.2 (by decide)), if_pos ⟨rfl, h1, h2, rfl⟩]
/-- coder -/
theorem cl_e26 {s : Nat} (h1 : 7 ≤ s) (h2 : s < 11) (K : Q (some (.int 0)) h) : pm_R (d + 0) 26 0 [.ref s] [] h Q := by
  refine cl_R_sgs pm_M26 (pc_q := 3) (v := .int 1) rfl rfl rfl rfl ?_
  refine pm_R_br pm_M26 (pc_q := 6) rfl rfl ?_
  refine pm_R_lo pm_M26 (pc_q := 7) rfl rfl rfl ?_
  refine cl_R_sgf pm_M26 (pc_q := 10) (v := .int 0) rfl rfl ?_ rfl ?_
  · exact cl_st15 rfl h1 h2
  refine pm_R_br pm_M26 (pc_q := 14) rfl rfl ?_
  exact pm_R_ret pm_M26 (r := some (.int 0)) rfl rfl K
/-- isLatin1 -/
theorem cl_e28 {s : Nat} (h1 : 7 ≤ s) (h2 : s < 11) (K : Q (some (.int 1)) h) : pm_R (d + 0) 28 0 [.ref s] [] h Q := by
  refine cl_R_sgs pm_M28 (pc_q := 3) (v := .int 1) rfl rfl rfl rfl ?_
  refine pm_R_br pm_M28 (pc_q := 6) rfl rfl ?_
  refine pm_R_lo pm_M28 (pc_q := 7) rfl rfl rfl ?_
  refine cl_R_sgf pm_M28 (pc_q := 10) (v := .int 0) rfl rfl ?_ rfl ?_
  · exact cl_st15 rfl h1 h2
  refine pm_R_br pm_M28 (pc_q := 13) rfl rfl ?_
  refine pm_R_op pm_M28 (pc_q := 14) (st_q := [.int 1]) rfl rfl rfl ?_
  refine pm_R_br pm_M28 (pc_q := 18) rfl rfl ?_
  exact pm_R_ret pm_M28 (r := some (.int 1)) rfl rfl K
/-- length -/
theorem cl_e25 {s n t k : Nat} {f : Nat → Int32} {x : (Nat → Int32) ⊕ (Nat → Int64) ⊕ (Nat → UInt32) ⊕ (Nat → UInt64) ⊕ (Nat → Option Nat)} {v : Int32} (h1 : 7 ≤ s) (h2 : s < 11) (h7 : h.2.2 s = .inl (t, k, x)) (hc : h.2.2 (s + 4) = .inl (2, n, .inl f)) (hv : Int32.ofNat n = v) (hz : v >>> (0 &&& 31) = v) (K : Q (some (.int v)) h) : pm_R (d + 1) 25 0 [.ref s] [] h Q := by
  refine pm_R_lo pm_M25 (pc_q := 1) rfl rfl rfl ?_
  refine cl_R_sgf pm_M25 (pc_q := 4) (v := .ref (s + 4)) rfl rfl ?_ rfl ?_
  · exact cl_st9 rfl h1 h2
  refine cl_R_sal pm_M25 (pc_q := 5) (v := v) rfl hc (by omega) hv rfl ?_
  refine pm_R_lo pm_M25 (pc_q := 6) rfl rfl rfl ?_
  refine cl_R_cvS pm_M25 (pc_q := 9) (a := s) (ra := []) (rest := [.int v]) (ls_q := [.ref s]) rfl rfl (Or.inl rfl) pm_M26 h7 rfl h1 h2 rfl rfl (Nat.le_of_ble_eq_true rfl) rfl rfl ?_
  refine cl_e26 h1 h2 ?_
  show pm_R _ 25 9 [.ref s] [.int 0, .int v] _ _
  refine pm_R_op pm_M25 (pc_q := 10) (st_q := [.int v]) rfl (congrArg (fun z => some [Value.int z]) hz) rfl ?_
  exact pm_R_ret pm_M25 (r := some (.int v)) rfl (pm_ret_i _) K
/-- charAt -/
theorem cl_e27 {s n t k : Nat} {f : Nat → Int32} {x : (Nat → Int32) ⊕ (Nat → Int64) ⊕ (Nat → UInt32) ⊕ (Nat → UInt64) ⊕ (Nat → Option Nat)} {v j : Int32} (h1 : 7 ≤ s) (h2 : s < 11) (h7 : h.2.2 s = .inl (t, k, x)) (hc : h.2.2 (s + 4) = .inl (2, n, .inl f)) (hv : Int32.ofNat n = v) (hj : pm_in j n = true) (j0 : 0 ≤ j.toInt) (jn : j.toInt < v.toInt) (hb : ((f j.toNatClampNeg &&& 255).toUInt32 % 65536).toInt32 = f j.toNatClampNeg) (hw : narrow .char (.int (f j.toNatClampNeg)) = .int (f j.toNatClampNeg)) (K : Q (some (.int (f j.toNatClampNeg))) h) : pm_R (d + 4) 27 0 [.ref s, .int j] [] h Q := by
  have rc : ∀ (q : pm_M), q.2.2.2.1 = some .char → pm_ret q.2.2.2.1 .ireturn [.int (f j.toNatClampNeg)] = some (some (.int (f j.toNatClampNeg))) := fun q hq => by
    rw [hq]
    show (if _ then _ else _) = _
    rw [if_pos ⟨Or.inr (Or.inr (Or.inr rfl)), hw⟩]
  refine pm_R_lo pm_M27 (pc_q := 1) rfl rfl rfl ?_
  refine cl_R_cvS pm_M27 (pc_q := 4) (a := s) (ra := []) (rest := []) (ls_q := [.ref s]) rfl rfl (Or.inl rfl) pm_M28 h7 rfl h1 h2 rfl rfl (Nat.le_of_ble_eq_true rfl) rfl rfl ?_
  refine cl_e28 (d := d + 3) h1 h2 ?_
  show pm_R _ 27 4 [.ref s, .int j] [.int 1] _ _
  refine pm_R_br pm_M27 (pc_q := 7) rfl rfl ?_
  refine pm_R_lo pm_M27 (pc_q := 8) rfl rfl rfl ?_
  refine cl_R_sgf pm_M27 (pc_q := 11) (v := .ref (s + 4)) rfl rfl ?_ rfl ?_
  · exact cl_st9 rfl h1 h2
  refine pm_R_lo pm_M27 (pc_q := 12) rfl rfl rfl ?_
  refine pm_R_cs pm_M27 (pc_q := 15) (ra := [.int j, .ref (s + 4)]) (rest := []) (ls_q := [.ref (s + 4), .int j]) rfl rfl (Or.inl rfl) pm_M29 rfl rfl (Nat.le_of_ble_eq_true rfl) rfl rfl ?_
  refine pm_R_lo pm_M29 (pc_q := 1) rfl rfl rfl ?_
  refine pm_R_lo pm_M29 (pc_q := 2) rfl rfl rfl ?_
  refine cl_R_sal pm_M29 (pc_q := 3) (v := v) rfl hc (by omega) hv rfl ?_
  refine pm_R_cs pm_M29 (pc_q := 6) (ra := [.int v, .int j]) (rest := []) (ls_q := [.int j, .int v]) rfl rfl (Or.inl rfl) pm_M30 rfl rfl (Nat.le_of_ble_eq_true rfl) rfl rfl ?_
  refine pm_R_lo pm_M30 (pc_q := 1) rfl rfl rfl ?_
  refine pm_R_lo pm_M30 (pc_q := 2) rfl rfl rfl ?_
  refine cl_R_sgs pm_M30 (pc_q := 5) (v := pm_fmt h) rfl rfl rfl rfl ?_
  refine pm_R_cs pm_M30 (pc_q := 8) (ra := [pm_fmt h, .int v, .int j]) (rest := []) (ls_q := [.int j, .int v, pm_fmt h]) rfl rfl (Or.inl rfl) pm_M31 rfl rfl (Nat.le_of_ble_eq_true rfl) ?_ rfl ?_
  · unfold pm_fmt; split <;> rfl
  refine pm_R_lo pm_M31 (pc_q := 1) rfl rfl rfl ?_
  refine pm_R_ifc pm_M31 (t := 9) (pc_q := 4) rfl rfl rfl (fun c => absurd (Int32.lt_iff_toInt_lt.mp c) (by show ¬ j.toInt < 0; omega)) (fun _ => ?_)
  refine pm_R_lo pm_M31 (pc_q := 5) rfl rfl rfl ?_
  refine pm_R_lo pm_M31 (pc_q := 6) rfl rfl rfl ?_
  refine pm_R_icmp pm_M31 (t := 16) (pc_q := 9) rfl rfl rfl (fun _ => ?_) (fun c => absurd (Int32.lt_iff_toInt_lt.mpr jn) c)
  refine pm_R_lo pm_M31 (pc_q := 17) rfl rfl rfl ?_
  refine pm_R_ret pm_M31 (r := some (.int j)) rfl (pm_ret_i _) ?_
  show pm_R _ 30 8 [.int j, .int v] [.int j] _ _
  refine pm_R_op pm_M30 (pc_q := 9) (st_q := []) rfl rfl rfl ?_
  refine pm_R_ret pm_M30 (r := none) rfl rfl ?_
  show pm_R _ 29 6 [.ref (s + 4), .int j] [] _ _
  refine pm_R_lo pm_M29 (pc_q := 7) rfl rfl rfl ?_
  refine pm_R_lo pm_M29 (pc_q := 8) rfl rfl rfl ?_
  refine cl_R_sbl pm_M29 (pc_q := 9) (v := f j.toNatClampNeg) rfl hc (by omega) hj rfl rfl ?_
  refine pm_R_op pm_M29 (pc_q := 12) (st_q := [.int 255, .int (f j.toNatClampNeg)]) rfl rfl rfl ?_
  refine pm_R_op pm_M29 (pc_q := 13) (st_q := [.int (f j.toNatClampNeg &&& 255)]) rfl rfl rfl ?_
  refine pm_R_op pm_M29 (pc_q := 14) (st_q := [.int (f j.toNatClampNeg)]) rfl (congrArg (fun z => some [Value.int z]) hb) rfl ?_
  refine pm_R_ret pm_M29 (r := some (.int (f j.toNatClampNeg))) rfl (rc _ rfl) ?_
  show pm_R _ 27 15 [.ref s, .int j] [.int (f j.toNatClampNeg)] _ _
  exact pm_R_ret pm_M27 (r := some (.int (f j.toNatClampNeg))) rfl (rc _ rfl) K
end
end
section
section
/-! which word: how many words have ended before a place of a String -/
def cl_bk (l : List Int32) (n : Nat) : Nat := ((l ++ [32]).take n).countP (fun x => decide (x = 32))
theorem cl_tn1 {x y : Int32} (e : y.toInt = x.toInt + 1) (h : 0 ≤ x.toInt) : y.toNatClampNeg = x.toNatClampNeg + 1 := by
  have e1 : y.toNatClampNeg = y.toInt.toNat := rfl
  have e2 : x.toNatClampNeg = x.toInt.toNat := rfl
  omega
def cl_wd (l : List Int32) (n W : Nat) : Bool := (List.range (n + 1)).all (fun k => decide (cl_bk l k ≤ W) && decide (cl_bk l k ≤ cl_bk l (k + 1)) && (!(decide (k = n) || decide (l.getD k 0 = 32)) || decide (cl_bk l k + 1 ≤ cl_bk l (k + 1))))
theorem cl_wd_of {l : List Int32} {n W k : Nat} (h : cl_wd l n W = true) (hk : k ≤ n) : cl_bk l k ≤ W ∧ cl_bk l k ≤ cl_bk l (k + 1) ∧ ((k = n ∨ l.getD k 0 = 32) → cl_bk l k + 1 ≤ cl_bk l (k + 1)) := by
  have := List.all_eq_true.mp h k (List.mem_range.mpr (by omega))
  simp only [Bool.and_eq_true, Bool.or_eq_true, decide_eq_true_eq, Bool.not_eq_true', Bool.or_eq_false_iff, decide_eq_false_iff_not] at this
  obtain ⟨⟨a, b⟩, c⟩ := this
  refine ⟨a, b, fun q => ?_⟩
  rcases c with c | c
  · rcases q with q | q
    · exact absurd q c.1
    · exact absurd q c.2
  · exact c
def cl_cd (l : List Int32) (n : Nat) : Bool := (List.range n).all (fun k => decide (((l.getD k 0 &&& 255).toUInt32 % 65536).toInt32 = l.getD k 0) && decide (0 ≤ l.getD k 0 ∧ l.getD k 0 ≤ 127))
theorem cl_nar {v : Int32} (h0 : 0 ≤ v) (h1 : v ≤ 127) : narrow .char (.int v) = .int v := by
  have e : (v.toUInt32 % 65536).toInt32 = v := by
    have a0 := Int32.le_iff_toInt_le.mp h0
    have a1 := Int32.le_iff_toInt_le.mp h1
    have n0 : v = Int32.ofNat v.toInt.toNat := cl_nat32 (b := 127) ⟨a0, a1⟩ (by decide)
    have n1 : v.toInt.toNat < 128 := by have : v.toInt ≤ 127 := a1; omega
    rw [n0]
    generalize v.toInt.toNat = n at n1
    have : (List.range 128).all (fun n => decide (((Int32.ofNat n).toUInt32 % 65536).toInt32 = Int32.ofNat n)) = true := by decide +kernel
    have := List.all_eq_true.mp this n (List.mem_range.mpr n1)
    exact of_decide_eq_true this
  simp [narrow, e]
theorem cl_cd_of {l : List Int32} {n k : Nat} (h : cl_cd l n = true) (hk : k < n) : ((l.getD k 0 &&& 255).toUInt32 % 65536).toInt32 = l.getD k 0 ∧ narrow .char (.int (l.getD k 0)) = .int (l.getD k 0) := by
  have := List.all_eq_true.mp h k (List.mem_range.mpr hk)
  simp only [Bool.and_eq_true, decide_eq_true_eq] at this
  exact ⟨this.1, cl_nar this.2.1 this.2.2⟩
theorem cl_T.sw7 {ck : cl_K} {E : Nat → pm_E} {m : Nat → Int32} {o : Nat → Option Nat} {h : pm_H} (G : cl_G ck E) (T : cl_T ck E m o h) : h.2.2 7 = .inl (10, 0, .inl (fun _ => 0)) := (T.old (by decide)).trans G.2.2.2.2.2.2.2.2.2.2.2.2.2.2.1
theorem cl_T.sb7 {ck : cl_K} {E : Nat → pm_E} {m : Nat → Int32} {o : Nat → Option Nat} {h : pm_H} (G : cl_G ck E) (T : cl_T ck E m o h) : h.2.2 (7 + 4) = .inl (2, 14, .inl (fun j => (pm_sby.getD 0 []).getD j 0)) := (T.old (a := 11) (by decide)).trans G.2.2.2.2.2.2.2.2.2.2.2.2.2.2.2.2.2.2.1
theorem cl_wd7 : cl_wd (pm_sby.getD 0 []) 14 2 = true := by decide +kernel
theorem cl_cd7 : cl_cd (pm_sby.getD 0 []) 14 = true := by decide +kernel
theorem cl_ch7 {j : Int32} (B : sf_B 0 13 j) : (((pm_sby.getD 0 []).getD j.toNatClampNeg 0 &&& 255).toUInt32 % 65536).toInt32 = (pm_sby.getD 0 []).getD j.toNatClampNeg 0 ∧ narrow .char (.int ((pm_sby.getD 0 []).getD j.toNatClampNeg 0)) = .int ((pm_sby.getD 0 []).getD j.toNatClampNeg 0) := cl_cd_of cl_cd7 (by have e : j.toNatClampNeg = j.toInt.toNat := rfl; have := B.1; have := B.2; omega)
theorem cl_wC7 {w i : Int32} (X : w.toInt ≤ (cl_bk (pm_sby.getD 0 []) i.toNatClampNeg : Int)) (Bi : sf_B 0 14 i) : w.toInt ≤ 2 := by
  have e : i.toNatClampNeg = i.toInt.toNat := rfl
  have := (cl_wd_of cl_wd7 (k := i.toNatClampNeg) (by have := Bi.1; have := Bi.2; omega)).1
  omega
theorem cl_wB7 {w i i' : Int32} (X : w.toInt ≤ (cl_bk (pm_sby.getD 0 []) i.toNatClampNeg : Int)) (Bi : sf_B 0 14 i) (ei : i'.toInt = i.toInt + 1) : w.toInt ≤ (cl_bk (pm_sby.getD 0 []) i'.toNatClampNeg : Int) := by
  have e : i.toNatClampNeg = i.toInt.toNat := rfl
  have := (cl_wd_of cl_wd7 (k := i.toNatClampNeg) (by have := Bi.1; have := Bi.2; omega)).2.1
  rw [cl_tn1 ei Bi.1]
  omega
theorem cl_wA7 {w w_q i i' : Int32} (X : w.toInt ≤ (cl_bk (pm_sby.getD 0 []) i.toNatClampNeg : Int)) (Bi : sf_B 0 14 i) (hb : i = 14 ∨ (pm_sby.getD 0 []).getD i.toNatClampNeg 0 = 32) (ew : w_q.toInt = w.toInt + 1) (ei : i'.toInt = i.toInt + 1) : w_q.toInt ≤ (cl_bk (pm_sby.getD 0 []) i'.toNatClampNeg : Int) := by
  have e : i.toNatClampNeg = i.toInt.toNat := rfl
  have := (cl_wd_of cl_wd7 (k := i.toNatClampNeg) (by have := Bi.1; have := Bi.2; omega)).2.2 (hb.imp (fun z => by rw [z]; rfl) id)
  rw [cl_tn1 ei Bi.1]
  omega
theorem cl_T.sw8 {ck : cl_K} {E : Nat → pm_E} {m : Nat → Int32} {o : Nat → Option Nat} {h : pm_H} (G : cl_G ck E) (T : cl_T ck E m o h) : h.2.2 8 = .inl (10, 0, .inl (fun _ => 0)) := (T.old (by decide)).trans G.2.2.2.2.2.2.2.2.2.2.2.2.2.2.2.1
theorem cl_T.sb8 {ck : cl_K} {E : Nat → pm_E} {m : Nat → Int32} {o : Nat → Option Nat} {h : pm_H} (G : cl_G ck E) (T : cl_T ck E m o h) : h.2.2 (8 + 4) = .inl (2, 20, .inl (fun j => (pm_sby.getD 1 []).getD j 0)) := (T.old (a := 12) (by decide)).trans G.2.2.2.2.2.2.2.2.2.2.2.2.2.2.2.2.2.2.2.1
theorem cl_wd8 : cl_wd (pm_sby.getD 1 []) 20 3 = true := by decide +kernel
theorem cl_cd8 : cl_cd (pm_sby.getD 1 []) 20 = true := by decide +kernel
theorem cl_ch8 {j : Int32} (B : sf_B 0 19 j) : (((pm_sby.getD 1 []).getD j.toNatClampNeg 0 &&& 255).toUInt32 % 65536).toInt32 = (pm_sby.getD 1 []).getD j.toNatClampNeg 0 ∧ narrow .char (.int ((pm_sby.getD 1 []).getD j.toNatClampNeg 0)) = .int ((pm_sby.getD 1 []).getD j.toNatClampNeg 0) := cl_cd_of cl_cd8 (by have e : j.toNatClampNeg = j.toInt.toNat := rfl; have := B.1; have := B.2; omega)
theorem cl_wC8 {w i : Int32} (X : w.toInt ≤ (cl_bk (pm_sby.getD 1 []) i.toNatClampNeg : Int)) (Bi : sf_B 0 20 i) : w.toInt ≤ 3 := by
  have e : i.toNatClampNeg = i.toInt.toNat := rfl
  have := (cl_wd_of cl_wd8 (k := i.toNatClampNeg) (by have := Bi.1; have := Bi.2; omega)).1
  omega
theorem cl_wB8 {w i i' : Int32} (X : w.toInt ≤ (cl_bk (pm_sby.getD 1 []) i.toNatClampNeg : Int)) (Bi : sf_B 0 20 i) (ei : i'.toInt = i.toInt + 1) : w.toInt ≤ (cl_bk (pm_sby.getD 1 []) i'.toNatClampNeg : Int) := by
  have e : i.toNatClampNeg = i.toInt.toNat := rfl
  have := (cl_wd_of cl_wd8 (k := i.toNatClampNeg) (by have := Bi.1; have := Bi.2; omega)).2.1
  rw [cl_tn1 ei Bi.1]
  omega
theorem cl_wA8 {w w_q i i' : Int32} (X : w.toInt ≤ (cl_bk (pm_sby.getD 1 []) i.toNatClampNeg : Int)) (Bi : sf_B 0 20 i) (hb : i = 20 ∨ (pm_sby.getD 1 []).getD i.toNatClampNeg 0 = 32) (ew : w_q.toInt = w.toInt + 1) (ei : i'.toInt = i.toInt + 1) : w_q.toInt ≤ (cl_bk (pm_sby.getD 1 []) i'.toNatClampNeg : Int) := by
  have e : i.toNatClampNeg = i.toInt.toNat := rfl
  have := (cl_wd_of cl_wd8 (k := i.toNatClampNeg) (by have := Bi.1; have := Bi.2; omega)).2.2 (hb.imp (fun z => by rw [z]; rfl) id)
  rw [cl_tn1 ei Bi.1]
  omega
theorem cl_T.sw9 {ck : cl_K} {E : Nat → pm_E} {m : Nat → Int32} {o : Nat → Option Nat} {h : pm_H} (G : cl_G ck E) (T : cl_T ck E m o h) : h.2.2 9 = .inl (10, 0, .inl (fun _ => 0)) := (T.old (by decide)).trans G.2.2.2.2.2.2.2.2.2.2.2.2.2.2.2.2.1
theorem cl_T.sb9 {ck : cl_K} {E : Nat → pm_E} {m : Nat → Int32} {o : Nat → Option Nat} {h : pm_H} (G : cl_G ck E) (T : cl_T ck E m o h) : h.2.2 (9 + 4) = .inl (2, 33, .inl (fun j => (pm_sby.getD 2 []).getD j 0)) := (T.old (a := 13) (by decide)).trans G.2.2.2.2.2.2.2.2.2.2.2.2.2.2.2.2.2.2.2.2.1
theorem cl_wd9 : cl_wd (pm_sby.getD 2 []) 33 5 = true := by decide +kernel
theorem cl_cd9 : cl_cd (pm_sby.getD 2 []) 33 = true := by decide +kernel
theorem cl_ch9 {j : Int32} (B : sf_B 0 32 j) : (((pm_sby.getD 2 []).getD j.toNatClampNeg 0 &&& 255).toUInt32 % 65536).toInt32 = (pm_sby.getD 2 []).getD j.toNatClampNeg 0 ∧ narrow .char (.int ((pm_sby.getD 2 []).getD j.toNatClampNeg 0)) = .int ((pm_sby.getD 2 []).getD j.toNatClampNeg 0) := cl_cd_of cl_cd9 (by have e : j.toNatClampNeg = j.toInt.toNat := rfl; have := B.1; have := B.2; omega)
theorem cl_wC9 {w i : Int32} (X : w.toInt ≤ (cl_bk (pm_sby.getD 2 []) i.toNatClampNeg : Int)) (Bi : sf_B 0 33 i) : w.toInt ≤ 5 := by
  have e : i.toNatClampNeg = i.toInt.toNat := rfl
  have := (cl_wd_of cl_wd9 (k := i.toNatClampNeg) (by have := Bi.1; have := Bi.2; omega)).1
  omega
theorem cl_wB9 {w i i' : Int32} (X : w.toInt ≤ (cl_bk (pm_sby.getD 2 []) i.toNatClampNeg : Int)) (Bi : sf_B 0 33 i) (ei : i'.toInt = i.toInt + 1) : w.toInt ≤ (cl_bk (pm_sby.getD 2 []) i'.toNatClampNeg : Int) := by
  have e : i.toNatClampNeg = i.toInt.toNat := rfl
  have := (cl_wd_of cl_wd9 (k := i.toNatClampNeg) (by have := Bi.1; have := Bi.2; omega)).2.1
  rw [cl_tn1 ei Bi.1]
  omega
theorem cl_wA9 {w w_q i i' : Int32} (X : w.toInt ≤ (cl_bk (pm_sby.getD 2 []) i.toNatClampNeg : Int)) (Bi : sf_B 0 33 i) (hb : i = 33 ∨ (pm_sby.getD 2 []).getD i.toNatClampNeg 0 = 32) (ew : w_q.toInt = w.toInt + 1) (ei : i'.toInt = i.toInt + 1) : w_q.toInt ≤ (cl_bk (pm_sby.getD 2 []) i'.toNatClampNeg : Int) := by
  have e : i.toNatClampNeg = i.toInt.toNat := rfl
  have := (cl_wd_of cl_wd9 (k := i.toNatClampNeg) (by have := Bi.1; have := Bi.2; omega)).2.2 (hb.imp (fun z => by rw [z]; rfl) id)
  rw [cl_tn1 ei Bi.1]
  omega
theorem cl_T.sw10 {ck : cl_K} {E : Nat → pm_E} {m : Nat → Int32} {o : Nat → Option Nat} {h : pm_H} (G : cl_G ck E) (T : cl_T ck E m o h) : h.2.2 10 = .inl (10, 0, .inl (fun _ => 0)) := (T.old (by decide)).trans G.2.2.2.2.2.2.2.2.2.2.2.2.2.2.2.2.2.1
theorem cl_T.sb10 {ck : cl_K} {E : Nat → pm_E} {m : Nat → Int32} {o : Nat → Option Nat} {h : pm_H} (G : cl_G ck E) (T : cl_T ck E m o h) : h.2.2 (10 + 4) = .inl (2, 23, .inl (fun j => (pm_sby.getD 3 []).getD j 0)) := (T.old (a := 14) (by decide)).trans G.2.2.2.2.2.2.2.2.2.2.2.2.2.2.2.2.2.2.2.2.2
theorem cl_wd10 : cl_wd (pm_sby.getD 3 []) 23 4 = true := by decide +kernel
theorem cl_cd10 : cl_cd (pm_sby.getD 3 []) 23 = true := by decide +kernel
theorem cl_ch10 {j : Int32} (B : sf_B 0 22 j) : (((pm_sby.getD 3 []).getD j.toNatClampNeg 0 &&& 255).toUInt32 % 65536).toInt32 = (pm_sby.getD 3 []).getD j.toNatClampNeg 0 ∧ narrow .char (.int ((pm_sby.getD 3 []).getD j.toNatClampNeg 0)) = .int ((pm_sby.getD 3 []).getD j.toNatClampNeg 0) := cl_cd_of cl_cd10 (by have e : j.toNatClampNeg = j.toInt.toNat := rfl; have := B.1; have := B.2; omega)
theorem cl_wC10 {w i : Int32} (X : w.toInt ≤ (cl_bk (pm_sby.getD 3 []) i.toNatClampNeg : Int)) (Bi : sf_B 0 23 i) : w.toInt ≤ 4 := by
  have e : i.toNatClampNeg = i.toInt.toNat := rfl
  have := (cl_wd_of cl_wd10 (k := i.toNatClampNeg) (by have := Bi.1; have := Bi.2; omega)).1
  omega
theorem cl_wB10 {w i i' : Int32} (X : w.toInt ≤ (cl_bk (pm_sby.getD 3 []) i.toNatClampNeg : Int)) (Bi : sf_B 0 23 i) (ei : i'.toInt = i.toInt + 1) : w.toInt ≤ (cl_bk (pm_sby.getD 3 []) i'.toNatClampNeg : Int) := by
  have e : i.toNatClampNeg = i.toInt.toNat := rfl
  have := (cl_wd_of cl_wd10 (k := i.toNatClampNeg) (by have := Bi.1; have := Bi.2; omega)).2.1
  rw [cl_tn1 ei Bi.1]
  omega
theorem cl_wA10 {w w_q i i' : Int32} (X : w.toInt ≤ (cl_bk (pm_sby.getD 3 []) i.toNatClampNeg : Int)) (Bi : sf_B 0 23 i) (hb : i = 23 ∨ (pm_sby.getD 3 []).getD i.toNatClampNeg 0 = 32) (ew : w_q.toInt = w.toInt + 1) (ei : i'.toInt = i.toInt + 1) : w_q.toInt ≤ (cl_bk (pm_sby.getD 3 []) i'.toNatClampNeg : Int) := by
  have e : i.toNatClampNeg = i.toInt.toNat := rfl
  have := (cl_wd_of cl_wd10 (k := i.toNatClampNeg) (by have := Bi.1; have := Bi.2; omega)).2.2 (hb.imp (fun z => by rw [z]; rfl) id)
  rw [cl_tn1 ei Bi.1]
  omega
end
end
