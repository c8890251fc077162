/-- a method: its name, its code, its locals, its answer, its class among pm_own -/
abbrev pm_M : Type := MethodName × ByteArray × Nat × Option FieldType × Nat
def pm_Mok (q : pm_M) : Prop := pm_G (.code q.1 q.2.1 q.2.2.1 q.2.2.2.1) ∧ pm_G (.initialized q.1.cls) ∧ q.1.cls = pm_ow q.2.2.2.2 ∧ plainName q.1.cls = true ∧ (q.1.cls ≠ "java/lang/invoke/MethodHandle" ∧ q.1.cls ≠ "java/lang/invoke/VarHandle") ∧ q.2.2.1 ≤ 40
set_option maxRecDepth 100000 in
theorem pm_on0 : plainName (pm_ow 0) = true ∧ (pm_ow 0 ≠ "java/lang/invoke/MethodHandle" ∧ pm_ow 0 ≠ "java/lang/invoke/VarHandle") := ⟨by decide +kernel, by decide +kernel, by decide +kernel⟩
set_option maxRecDepth 100000 in
theorem pm_on1 : plainName (pm_ow 1) = true ∧ (pm_ow 1 ≠ "java/lang/invoke/MethodHandle" ∧ pm_ow 1 ≠ "java/lang/invoke/VarHandle") := ⟨by decide +kernel, by decide +kernel, by decide +kernel⟩
set_option maxRecDepth 100000 in
theorem pm_on2 : plainName (pm_ow 2) = true ∧ (pm_ow 2 ≠ "java/lang/invoke/MethodHandle" ∧ pm_ow 2 ≠ "java/lang/invoke/VarHandle") := ⟨by decide +kernel, by decide +kernel, by decide +kernel⟩
set_option maxRecDepth 100000 in
theorem pm_on3 : plainName (pm_ow 3) = true ∧ (pm_ow 3 ≠ "java/lang/invoke/MethodHandle" ∧ pm_ow 3 ≠ "java/lang/invoke/VarHandle") := ⟨by decide +kernel, by decide +kernel, by decide +kernel⟩
set_option maxRecDepth 100000 in
theorem pm_on4 : plainName (pm_ow 4) = true ∧ (pm_ow 4 ≠ "java/lang/invoke/MethodHandle" ∧ pm_ow 4 ≠ "java/lang/invoke/VarHandle") := ⟨by decide +kernel, by decide +kernel, by decide +kernel⟩
set_option maxRecDepth 100000 in
theorem pm_on5 : plainName (pm_ow 5) = true ∧ (pm_ow 5 ≠ "java/lang/invoke/MethodHandle" ∧ pm_ow 5 ≠ "java/lang/invoke/VarHandle") := ⟨by decide +kernel, by decide +kernel, by decide +kernel⟩
set_option maxRecDepth 100000 in
theorem pm_on6 : plainName (pm_ow 6) = true ∧ (pm_ow 6 ≠ "java/lang/invoke/MethodHandle" ∧ pm_ow 6 ≠ "java/lang/invoke/VarHandle") := ⟨by decide +kernel, by decide +kernel, by decide +kernel⟩
set_option maxRecDepth 100000 in
theorem pm_on7 : plainName (pm_ow 7) = true ∧ (pm_ow 7 ≠ "java/lang/invoke/MethodHandle" ∧ pm_ow 7 ≠ "java/lang/invoke/VarHandle") := ⟨by decide +kernel, by decide +kernel, by decide +kernel⟩
set_option maxRecDepth 100000 in
theorem pm_on8 : plainName (pm_ow 8) = true ∧ (pm_ow 8 ≠ "java/lang/invoke/MethodHandle" ∧ pm_ow 8 ≠ "java/lang/invoke/VarHandle") := ⟨by decide +kernel, by decide +kernel, by decide +kernel⟩
set_option maxRecDepth 100000 in
theorem pm_on9 : plainName (pm_ow 9) = true ∧ (pm_ow 9 ≠ "java/lang/invoke/MethodHandle" ∧ pm_ow 9 ≠ "java/lang/invoke/VarHandle") := ⟨by decide +kernel, by decide +kernel, by decide +kernel⟩
set_option maxRecDepth 100000 in
theorem pm_on10 : plainName (pm_ow 10) = true ∧ (pm_ow 10 ≠ "java/lang/invoke/MethodHandle" ∧ pm_ow 10 ≠ "java/lang/invoke/VarHandle") := ⟨by decide +kernel, by decide +kernel, by decide +kernel⟩
set_option maxRecDepth 100000 in
theorem pm_on11 : plainName (pm_ow 11) = true ∧ (pm_ow 11 ≠ "java/lang/invoke/MethodHandle" ∧ pm_ow 11 ≠ "java/lang/invoke/VarHandle") := ⟨by decide +kernel, by decide +kernel, by decide +kernel⟩
set_option maxRecDepth 100000 in
theorem pm_on12 : plainName (pm_ow 12) = true ∧ (pm_ow 12 ≠ "java/lang/invoke/MethodHandle" ∧ pm_ow 12 ≠ "java/lang/invoke/VarHandle") := ⟨by decide +kernel, by decide +kernel, by decide +kernel⟩
set_option maxRecDepth 100000 in
theorem pm_on13 : plainName (pm_ow 13) = true ∧ (pm_ow 13 ≠ "java/lang/invoke/MethodHandle" ∧ pm_ow 13 ≠ "java/lang/invoke/VarHandle") := ⟨by decide +kernel, by decide +kernel, by decide +kernel⟩
set_option maxRecDepth 100000 in
theorem pm_on14 : plainName (pm_ow 14) = true ∧ (pm_ow 14 ≠ "java/lang/invoke/MethodHandle" ∧ pm_ow 14 ≠ "java/lang/invoke/VarHandle") := ⟨by decide +kernel, by decide +kernel, by decide +kernel⟩
set_option maxRecDepth 100000 in
theorem pm_on15 : plainName (pm_ow 15) = true ∧ (pm_ow 15 ≠ "java/lang/invoke/MethodHandle" ∧ pm_ow 15 ≠ "java/lang/invoke/VarHandle") := ⟨by decide +kernel, by decide +kernel, by decide +kernel⟩
set_option maxRecDepth 100000 in
theorem pm_on16 : plainName (pm_ow 16) = true ∧ (pm_ow 16 ≠ "java/lang/invoke/MethodHandle" ∧ pm_ow 16 ≠ "java/lang/invoke/VarHandle") := ⟨by decide +kernel, by decide +kernel, by decide +kernel⟩
set_option maxRecDepth 100000 in
theorem pm_on17 : plainName (pm_ow 17) = true ∧ (pm_ow 17 ≠ "java/lang/invoke/MethodHandle" ∧ pm_ow 17 ≠ "java/lang/invoke/VarHandle") := ⟨by decide +kernel, by decide +kernel, by decide +kernel⟩
set_option maxRecDepth 100000 in
theorem pm_on18 : plainName (pm_ow 18) = true ∧ (pm_ow 18 ≠ "java/lang/invoke/MethodHandle" ∧ pm_ow 18 ≠ "java/lang/invoke/VarHandle") := ⟨by decide +kernel, by decide +kernel, by decide +kernel⟩
set_option maxRecDepth 100000 in
theorem pm_on19 : plainName (pm_ow 19) = true ∧ (pm_ow 19 ≠ "java/lang/invoke/MethodHandle" ∧ pm_ow 19 ≠ "java/lang/invoke/VarHandle") := ⟨by decide +kernel, by decide +kernel, by decide +kernel⟩
set_option maxRecDepth 100000 in
theorem pm_on20 : plainName (pm_ow 20) = true ∧ (pm_ow 20 ≠ "java/lang/invoke/MethodHandle" ∧ pm_ow 20 ≠ "java/lang/invoke/VarHandle") := ⟨by decide +kernel, by decide +kernel, by decide +kernel⟩
def pm_m0 : pm_M := (⟨"SilentTableLaw", "law", "([I)Z"⟩, code, 4, (some .boolean), 0)
def pm_m1 : pm_M := (⟨"SilentTable", "<init>", "()V"⟩, prog_1_method_1_code, 1, none, 1)
set_option maxRecDepth 100000 in
theorem pm_m1_ok : pm_Mok pm_m1 := ⟨⟨List.mem_append_right _ tq_1_3.2.2.2.1, rfl⟩, ⟨List.mem_append_right _ tq_1_0.2.1, rfl⟩, rfl, pm_on1.1, pm_on1.2, Nat.le_of_ble_eq_true rfl⟩
def pm_m2 : pm_M := (⟨"SilentTable$Told", "<init>", "()V"⟩, prog_10_method_1_code, 1, none, 2)
set_option maxRecDepth 100000 in
theorem pm_m2_ok : pm_Mok pm_m2 := ⟨⟨List.mem_append_right _ tq_1_4.2.2.2.1, rfl⟩, ⟨List.mem_append_right _ tq_1_0.2.2.1, rfl⟩, rfl, pm_on2.1, pm_on2.2, Nat.le_of_ble_eq_true rfl⟩
def pm_m3 : pm_M := (⟨"SilentTable$TextReader", "<init>", "([B)V"⟩, prog_8_method_1_code, 2, none, 3)
set_option maxRecDepth 100000 in
theorem pm_m3_ok : pm_Mok pm_m3 := ⟨⟨List.mem_append_right _ tq_1_11.2.2.2.1, rfl⟩, ⟨List.mem_append_right _ tq_1_0.2.2.2.1, rfl⟩, rfl, pm_on3.1, pm_on3.2, Nat.le_of_ble_eq_true rfl⟩
def pm_m4 : pm_M := (⟨"SilentTable$Tokens", "<init>", "([B)V"⟩, prog_9_method_1_code, 2, none, 4)
set_option maxRecDepth 100000 in
theorem pm_m4_ok : pm_Mok pm_m4 := ⟨⟨List.mem_append_right _ tq_1_12.2.1, rfl⟩, ⟨List.mem_append_right _ tq_1_0.2.2.2.2.1, rfl⟩, rfl, pm_on4.1, pm_on4.2, Nat.le_of_ble_eq_true rfl⟩
def pm_m5 : pm_M := (⟨"SilentTable$MeaningChart", "<init>", "()V"⟩, prog_4_method_1_code, 1, none, 5)
set_option maxRecDepth 100000 in
theorem pm_m5_ok : pm_Mok pm_m5 := ⟨⟨List.mem_append_right _ tq_1_21.2.2.2.2.2.1, rfl⟩, ⟨List.mem_append_right _ tq_1_0.2.2.2.2.2.1, rfl⟩, rfl, pm_on5.1, pm_on5.2, Nat.le_of_ble_eq_true rfl⟩
def pm_m6 : pm_M := (⟨"SilentTable$TreeChart", "<init>", "()V"⟩, prog_11_method_1_code, 1, none, 6)
set_option maxRecDepth 100000 in
theorem pm_m6_ok : pm_Mok pm_m6 := ⟨⟨List.mem_append_right _ tq_1_23.1, rfl⟩, ⟨List.mem_append_right _ tq_1_0.2.2.2.2.2.2.1, rfl⟩, rfl, pm_on6.1, pm_on6.2, Nat.le_of_ble_eq_true rfl⟩
def pm_m7 : pm_M := (⟨"SilentTable", "feed", "(IIIII)I"⟩, prog_1_method_2_code, 6, (some .int), 1)
set_option maxRecDepth 100000 in
theorem pm_m7_ok : pm_Mok pm_m7 := ⟨⟨List.mem_append_right _ tq_2_1.2.2.2.2.1, rfl⟩, ⟨List.mem_append_right _ tq_1_0.2.1, rfl⟩, rfl, pm_on1.1, pm_on1.2, Nat.le_of_ble_eq_true rfl⟩
def pm_m8 : pm_M := (⟨"SilentTable$Told", "append", "(I)V"⟩, prog_10_method_2_code, 3, none, 2)
set_option maxRecDepth 100000 in
theorem pm_m8_ok : pm_Mok pm_m8 := ⟨⟨List.mem_append_right _ tq_2_2.1, rfl⟩, ⟨List.mem_append_right _ tq_1_0.2.2.1, rfl⟩, rfl, pm_on2.1, pm_on2.2, Nat.le_of_ble_eq_true rfl⟩
def pm_m9 : pm_M := (⟨"SilentTable", "end", "(I)I"⟩, prog_1_method_3_code, 2, (some .int), 1)
set_option maxRecDepth 100000 in
theorem pm_m9_ok : pm_Mok pm_m9 := ⟨⟨List.mem_append_right _ tq_2_2.2.2.2.2.1, rfl⟩, ⟨List.mem_append_right _ tq_1_0.2.1, rfl⟩, rfl, pm_on1.1, pm_on1.2, Nat.le_of_ble_eq_true rfl⟩
def pm_m10 : pm_M := (⟨"SilentTable", "text", "(II)I"⟩, prog_1_method_4_code, 7, (some .int), 1)
set_option maxRecDepth 100000 in
theorem pm_m10_ok : pm_Mok pm_m10 := ⟨⟨List.mem_append_right _ tq_2_3.1, rfl⟩, ⟨List.mem_append_right _ tq_1_0.2.1, rfl⟩, rfl, pm_on1.1, pm_on1.2, Nat.le_of_ble_eq_true rfl⟩
def pm_m11 : pm_M := (⟨"SilentTable$TextReader", "readTape", "(II)V"⟩, prog_8_method_2_code, 4, none, 3)
set_option maxRecDepth 100000 in
theorem pm_m11_ok : pm_Mok pm_m11 := ⟨⟨List.mem_append_right _ tq_2_3.2.2.2.2.1, rfl⟩, ⟨List.mem_append_right _ tq_1_0.2.2.2.1, rfl⟩, rfl, pm_on3.1, pm_on3.2, Nat.le_of_ble_eq_true rfl⟩
def pm_m12 : pm_M := (⟨"SilentTable$TextReader", "forget", "()V"⟩, prog_8_method_3_code, 1, none, 3)
set_option maxRecDepth 100000 in
theorem pm_m12_ok : pm_Mok pm_m12 := ⟨⟨List.mem_append_right _ tq_2_4.1, rfl⟩, ⟨List.mem_append_right _ tq_1_0.2.2.2.1, rfl⟩, rfl, pm_on3.1, pm_on3.2, Nat.le_of_ble_eq_true rfl⟩
def pm_m13 : pm_M := (⟨"java/util/Arrays", "fill", "([II)V"⟩, prog_23_method_103_code, 4, none, 7)
set_option maxRecDepth 100000 in
theorem pm_m13_ok : pm_Mok pm_m13 := ⟨⟨List.mem_append_right _ tq_2_4.2.2.2.1, rfl⟩, ⟨List.mem_append_right _ tq_1_1.1, rfl⟩, rfl, pm_on7.1, pm_on7.2, Nat.le_of_ble_eq_true rfl⟩
def pm_m14 : pm_M := (⟨"SilentTable$Tokens", "startOver", "(I)V"⟩, prog_9_method_2_code, 2, none, 4)
set_option maxRecDepth 100000 in
theorem pm_m14_ok : pm_Mok pm_m14 := ⟨⟨List.mem_append_right _ tq_2_4.2.2.2.2.2.2.2.1, rfl⟩, ⟨List.mem_append_right _ tq_1_0.2.2.2.2.1, rfl⟩, rfl, pm_on4.1, pm_on4.2, Nat.le_of_ble_eq_true rfl⟩
def pm_m15 : pm_M := (⟨"SilentTable$TextReader", "readSigns", "()Z"⟩, prog_8_method_5_code, 2, (some .boolean), 3)
set_option maxRecDepth 100000 in
theorem pm_m15_ok : pm_Mok pm_m15 := ⟨⟨List.mem_append_right _ tq_2_5.2.2.2.2.2.2.1, rfl⟩, ⟨List.mem_append_right _ tq_1_0.2.2.2.1, rfl⟩, rfl, pm_on3.1, pm_on3.2, Nat.le_of_ble_eq_true rfl⟩
def pm_m16 : pm_M := (⟨"SilentTable$Tokens", "step", "()V"⟩, prog_9_method_3_code, 1, none, 4)
set_option maxRecDepth 100000 in
theorem pm_m16_ok : pm_Mok pm_m16 := ⟨⟨List.mem_append_right _ tq_2_6.2.2.1, rfl⟩, ⟨List.mem_append_right _ tq_1_0.2.2.2.2.1, rfl⟩, rfl, pm_on4.1, pm_on4.2, Nat.le_of_ble_eq_true rfl⟩
def pm_m17 : pm_M := (⟨"SilentTable$Tokens", "isBlank", "(B)Z"⟩, prog_9_method_7_code, 1, (some .boolean), 4)
set_option maxRecDepth 100000 in
theorem pm_m17_ok : pm_Mok pm_m17 := ⟨⟨List.mem_append_right _ tq_2_6.2.2.2.2.2.1, rfl⟩, ⟨List.mem_append_right _ tq_1_0.2.2.2.2.1, rfl⟩, rfl, pm_on4.1, pm_on4.2, Nat.le_of_ble_eq_true rfl⟩
def pm_m18 : pm_M := (⟨"SilentTable$Tokens", "isLetter", "(B)Z"⟩, prog_9_method_8_code, 1, (some .boolean), 4)
set_option maxRecDepth 100000 in
theorem pm_m18_ok : pm_Mok pm_m18 := ⟨⟨List.mem_append_right _ tq_2_7.1, rfl⟩, ⟨List.mem_append_right _ tq_1_0.2.2.2.2.1, rfl⟩, rfl, pm_on4.1, pm_on4.2, Nat.le_of_ble_eq_true rfl⟩
def pm_m19 : pm_M := (⟨"SilentTable$Tokens", "isDigit", "(B)Z"⟩, prog_9_method_9_code, 1, (some .boolean), 4)
set_option maxRecDepth 100000 in
theorem pm_m19_ok : pm_Mok pm_m19 := ⟨⟨List.mem_append_right _ tq_2_7.2.2.2.1, rfl⟩, ⟨List.mem_append_right _ tq_1_0.2.2.2.2.1, rfl⟩, rfl, pm_on4.1, pm_on4.2, Nat.le_of_ble_eq_true rfl⟩
def pm_m20 : pm_M := (⟨"SilentTable$Tokens", "takeDigits", "()V"⟩, prog_9_method_4_code, 1, none, 4)
set_option maxRecDepth 100000 in
theorem pm_m20_ok : pm_Mok pm_m20 := ⟨⟨List.mem_append_right _ tq_2_7.2.2.2.2.2.2.2.1, rfl⟩, ⟨List.mem_append_right _ tq_1_0.2.2.2.2.1, rfl⟩, rfl, pm_on4.1, pm_on4.2, Nat.le_of_ble_eq_true rfl⟩
def pm_m21 : pm_M := (⟨"SilentTable$TextReader", "noteFault", "(II)V"⟩, prog_8_method_4_code, 3, none, 3)
set_option maxRecDepth 100000 in
theorem pm_m21_ok : pm_Mok pm_m21 := ⟨⟨List.mem_append_right _ tq_2_8.2.2.2.1, rfl⟩, ⟨List.mem_append_right _ tq_1_0.2.2.2.1, rfl⟩, rfl, pm_on3.1, pm_on3.2, Nat.le_of_ble_eq_true rfl⟩
def pm_m22 : pm_M := (⟨"SilentTable$TextReader", "readLines", "(I)Z"⟩, prog_8_method_6_code, 3, (some .boolean), 3)
set_option maxRecDepth 100000 in
theorem pm_m22_ok : pm_Mok pm_m22 := ⟨⟨List.mem_append_right _ tq_2_8.2.2.2.2.2.2.2.1, rfl⟩, ⟨List.mem_append_right _ tq_1_0.2.2.2.1, rfl⟩, rfl, pm_on3.1, pm_on3.2, Nat.le_of_ble_eq_true rfl⟩
def pm_m23 : pm_M := (⟨"SilentTable$TextReader", "firstWord", "(I)I"⟩, prog_8_method_7_code, 3, (some .int), 3)
set_option maxRecDepth 100000 in
theorem pm_m23_ok : pm_Mok pm_m23 := ⟨⟨List.mem_append_right _ tq_2_9.2.2.2.1, rfl⟩, ⟨List.mem_append_right _ tq_1_0.2.2.2.1, rfl⟩, rfl, pm_on3.1, pm_on3.2, Nat.le_of_ble_eq_true rfl⟩
def pm_m24 : pm_M := (⟨"SilentTable$Tokens", "wordAmong", "(Ljava/lang/String;)I"⟩, prog_9_method_5_code, 5, (some .int), 4)
set_option maxRecDepth 100000 in
theorem pm_m24_ok : pm_Mok pm_m24 := ⟨⟨List.mem_append_right _ tq_2_10.1, rfl⟩, ⟨List.mem_append_right _ tq_1_0.2.2.2.2.1, rfl⟩, rfl, pm_on4.1, pm_on4.2, Nat.le_of_ble_eq_true rfl⟩
def pm_m25 : pm_M := (⟨"java/lang/String", "length", "()I"⟩, prog_19_method_54_code, 1, (some .int), 8)
set_option maxRecDepth 100000 in
theorem pm_m25_ok : pm_Mok pm_m25 := ⟨⟨List.mem_append_right _ tq_2_10.2.2.2.2.1, rfl⟩, ⟨List.mem_append_right _ tq_1_1.2.2.1, rfl⟩, rfl, pm_on8.1, pm_on8.2, Nat.le_of_ble_eq_true rfl⟩
def pm_m26 : pm_M := (⟨"java/lang/String", "coder", "()B"⟩, prog_19_method_152_code, 1, (some .byte), 8)
set_option maxRecDepth 100000 in
theorem pm_m26_ok : pm_Mok pm_m26 := ⟨⟨List.mem_append_right _ tq_2_11.1, rfl⟩, ⟨List.mem_append_right _ tq_1_1.2.2.1, rfl⟩, rfl, pm_on8.1, pm_on8.2, Nat.le_of_ble_eq_true rfl⟩
def pm_m27 : pm_M := (⟨"java/lang/String", "charAt", "(I)C"⟩, prog_19_method_56_code, 2, (some .char), 8)
set_option maxRecDepth 100000 in
theorem pm_m27_ok : pm_Mok pm_m27 := ⟨⟨List.mem_append_right _ tq_2_11.2.2.2.2.2.2.1, rfl⟩, ⟨List.mem_append_right _ tq_1_1.2.2.1, rfl⟩, rfl, pm_on8.1, pm_on8.2, Nat.le_of_ble_eq_true rfl⟩
def pm_m28 : pm_M := (⟨"java/lang/String", "isLatin1", "()Z"⟩, prog_19_method_154_code, 1, (some .boolean), 8)
set_option maxRecDepth 100000 in
theorem pm_m28_ok : pm_Mok pm_m28 := ⟨⟨List.mem_append_right _ tq_2_12.2.2.1, rfl⟩, ⟨List.mem_append_right _ tq_1_1.2.2.1, rfl⟩, rfl, pm_on8.1, pm_on8.2, Nat.le_of_ble_eq_true rfl⟩
def pm_m29 : pm_M := (⟨"java/lang/StringLatin1", "charAt", "([BI)C"⟩, prog_20_method_2_code, 2, (some .char), 9)
set_option maxRecDepth 100000 in
theorem pm_m29_ok : pm_Mok pm_m29 := ⟨⟨List.mem_append_right _ tq_2_12.2.2.2.2.2.1, rfl⟩, ⟨List.mem_append_right _ tq_1_1.2.2.2.1, rfl⟩, rfl, pm_on9.1, pm_on9.2, Nat.le_of_ble_eq_true rfl⟩
def pm_m30 : pm_M := (⟨"java/lang/String", "checkIndex", "(II)V"⟩, prog_19_method_155_code, 2, none, 8)
set_option maxRecDepth 100000 in
theorem pm_m30_ok : pm_Mok pm_m30 := ⟨⟨List.mem_append_right _ tq_2_13.1, rfl⟩, ⟨List.mem_append_right _ tq_1_1.2.2.1, rfl⟩, rfl, pm_on8.1, pm_on8.2, Nat.le_of_ble_eq_true rfl⟩
def pm_m31 : pm_M := (⟨"jdk/internal/util/Preconditions", "checkIndex", "(IILjava/util/function/BiFunction;)I"⟩, prog_24_method_11_code, 3, (some .int), 10)
set_option maxRecDepth 100000 in
theorem pm_m31_ok : pm_Mok pm_m31 := ⟨⟨List.mem_append_right _ tq_2_13.2.2.2.2.2.1, rfl⟩, ⟨List.mem_append_right _ tq_1_1.2.2.2.2.1, rfl⟩, rfl, pm_on10.1, pm_on10.2, Nat.le_of_ble_eq_true rfl⟩
def pm_m32 : pm_M := (⟨"java/lang/StringUTF16", "charAt", "([BI)C"⟩, prog_21_method_83_code, 2, (some .char), 11)
set_option maxRecDepth 100000 in
theorem pm_m32_ok : pm_Mok pm_m32 := ⟨⟨List.mem_append_right _ tq_2_14.1, rfl⟩, ⟨List.mem_append_right _ tq_1_1.2.2.2.2.2.1, rfl⟩, rfl, pm_on11.1, pm_on11.2, Nat.le_of_ble_eq_true rfl⟩
def pm_m33 : pm_M := (⟨"java/lang/StringUTF16", "checkIndex", "(I[B)V"⟩, prog_21_method_91_code, 2, none, 11)
set_option maxRecDepth 100000 in
theorem pm_m33_ok : pm_Mok pm_m33 := ⟨⟨List.mem_append_right _ tq_2_14.2.2.2.1, rfl⟩, ⟨List.mem_append_right _ tq_1_1.2.2.2.2.2.1, rfl⟩, rfl, pm_on11.1, pm_on11.2, Nat.le_of_ble_eq_true rfl⟩
def pm_m34 : pm_M := (⟨"java/lang/StringUTF16", "length", "([B)I"⟩, prog_21_method_6_code, 1, (some .int), 11)
set_option maxRecDepth 100000 in
theorem pm_m34_ok : pm_Mok pm_m34 := ⟨⟨List.mem_append_right _ tq_2_14.2.2.2.2.2.2.1, rfl⟩, ⟨List.mem_append_right _ tq_1_1.2.2.2.2.2.1, rfl⟩, rfl, pm_on11.1, pm_on11.2, Nat.le_of_ble_eq_true rfl⟩
def pm_m35 : pm_M := (⟨"java/lang/StringUTF16", "getChar", "([BI)C"⟩, prog_21_method_5_code, 2, (some .char), 11)
set_option maxRecDepth 100000 in
theorem pm_m35_ok : pm_Mok pm_m35 := ⟨⟨List.mem_append_right _ tq_2_15.2.2.1, rfl⟩, ⟨List.mem_append_right _ tq_1_1.2.2.2.2.2.1, rfl⟩, rfl, pm_on11.1, pm_on11.2, Nat.le_of_ble_eq_true rfl⟩
def pm_m36 : pm_M := (⟨"SilentTable$Tokens", "spells", "(Ljava/lang/String;II)Z"⟩, prog_9_method_6_code, 5, (some .boolean), 4)
set_option maxRecDepth 100000 in
theorem pm_m36_ok : pm_Mok pm_m36 := ⟨⟨List.mem_append_right _ tq_2_16.2.2.2.2.1, rfl⟩, ⟨List.mem_append_right _ tq_1_0.2.2.2.2.1, rfl⟩, rfl, pm_on4.1, pm_on4.2, Nat.le_of_ble_eq_true rfl⟩
def pm_m37 : pm_M := (⟨"SilentTable$TextReader", "readLine", "(I)Z"⟩, prog_8_method_8_code, 3, (some .boolean), 3)
set_option maxRecDepth 100000 in
theorem pm_m37_ok : pm_Mok pm_m37 := ⟨⟨List.mem_append_right _ tq_2_17.2.2.1, rfl⟩, ⟨List.mem_append_right _ tq_1_0.2.2.2.1, rfl⟩, rfl, pm_on3.1, pm_on3.2, Nat.le_of_ble_eq_true rfl⟩
def pm_m38 : pm_M := (⟨"SilentTable$TextReader", "noteMany", "(I)V"⟩, prog_8_method_9_code, 4, none, 3)
set_option maxRecDepth 100000 in
theorem pm_m38_ok : pm_Mok pm_m38 := ⟨⟨List.mem_append_right _ tq_2_17.2.2.2.2.2.2.1, rfl⟩, ⟨List.mem_append_right _ tq_1_0.2.2.2.1, rfl⟩, rfl, pm_on3.1, pm_on3.2, Nat.le_of_ble_eq_true rfl⟩
def pm_m39 : pm_M := (⟨"SilentTable$TextReader", "noteNumber", "(II)V"⟩, prog_8_method_10_code, 6, none, 3)
set_option maxRecDepth 100000 in
theorem pm_m39_ok : pm_Mok pm_m39 := ⟨⟨List.mem_append_right _ tq_2_18.2.2.2.2.2.2.1, rfl⟩, ⟨List.mem_append_right _ tq_1_0.2.2.2.1, rfl⟩, rfl, pm_on3.1, pm_on3.2, Nat.le_of_ble_eq_true rfl⟩
def pm_m40 : pm_M := (⟨"SilentTable$TextReader", "keepLine", "(I)V"⟩, prog_8_method_11_code, 2, none, 3)
set_option maxRecDepth 100000 in
theorem pm_m40_ok : pm_Mok pm_m40 := ⟨⟨List.mem_append_right _ tq_2_19.2.2.2.2.2.1, rfl⟩, ⟨List.mem_append_right _ tq_1_0.2.2.2.1, rfl⟩, rfl, pm_on3.1, pm_on3.2, Nat.le_of_ble_eq_true rfl⟩
def pm_m41 : pm_M := (⟨"SilentTable$TextReader", "store", "([III)I"⟩, prog_8_method_13_code, 4, (some .int), 3)
set_option maxRecDepth 100000 in
theorem pm_m41_ok : pm_Mok pm_m41 := ⟨⟨List.mem_append_right _ tq_2_20.2.1, rfl⟩, ⟨List.mem_append_right _ tq_1_0.2.2.2.1, rfl⟩, rfl, pm_on3.1, pm_on3.2, Nat.le_of_ble_eq_true rfl⟩
def pm_m42 : pm_M := (⟨"SilentTable$TextReader", "keepDeedOrLaw", "(I)V"⟩, prog_8_method_12_code, 2, none, 3)
set_option maxRecDepth 100000 in
theorem pm_m42_ok : pm_Mok pm_m42 := ⟨⟨List.mem_append_right _ tq_2_21.1, rfl⟩, ⟨List.mem_append_right _ tq_1_0.2.2.2.1, rfl⟩, rfl, pm_on3.1, pm_on3.2, Nat.le_of_ble_eq_true rfl⟩
def pm_m43 : pm_M := (⟨"SilentTable", "keepText", "(II)V"⟩, prog_1_method_5_code, 3, none, 1)
set_option maxRecDepth 100000 in
theorem pm_m43_ok : pm_Mok pm_m43 := ⟨⟨List.mem_append_right _ tq_2_21.2.2.2.2.2.2.2.1, rfl⟩, ⟨List.mem_append_right _ tq_1_0.2.1, rfl⟩, rfl, pm_on1.1, pm_on1.2, Nat.le_of_ble_eq_true rfl⟩
def pm_m44 : pm_M := (⟨"SilentTable$SignList", "<init>", "(LSilentTable$TextReader;)V"⟩, prog_6_method_1_code, 4, none, 12)
set_option maxRecDepth 100000 in
theorem pm_m44_ok : pm_Mok pm_m44 := ⟨⟨List.mem_append_right _ tq_2_22.2.2.2.2.1, rfl⟩, ⟨List.mem_append_right _ tq_1_1.2.2.2.2.2.2.2.1, rfl⟩, rfl, pm_on12.1, pm_on12.2, Nat.le_of_ble_eq_true rfl⟩
def pm_m45 : pm_M := (⟨"java/util/Arrays", "copyOf", "([II)[I"⟩, prog_23_method_123_code, 3, (some (.array .int)), 7)
set_option maxRecDepth 100000 in
theorem pm_m45_ok : pm_Mok pm_m45 := ⟨⟨List.mem_append_right _ tq_2_23.1, rfl⟩, ⟨List.mem_append_right _ tq_1_1.1, rfl⟩, rfl, pm_on7.1, pm_on7.2, Nat.le_of_ble_eq_true rfl⟩
def pm_m46 : pm_M := (⟨"SilentTable$SignList", "wear", "(I)Z"⟩, prog_6_method_2_code, 7, (some .boolean), 12)
set_option maxRecDepth 100000 in
theorem pm_m46_ok : pm_Mok pm_m46 := ⟨⟨List.mem_append_right _ tq_2_24.2.2.2.2.2.2.2.1, rfl⟩, ⟨List.mem_append_right _ tq_1_1.2.2.2.2.2.2.2.1, rfl⟩, rfl, pm_on12.1, pm_on12.2, Nat.le_of_ble_eq_true rfl⟩
def pm_m47 : pm_M := (⟨"SilentTable$SignRow", "<init>", "(LSilentTable$TextReader;)V"⟩, prog_7_method_1_code, 2, none, 13)
set_option maxRecDepth 100000 in
theorem pm_m47_ok : pm_Mok pm_m47 := ⟨⟨List.mem_append_right _ tq_3_1.2.2.2.2.1, rfl⟩, ⟨List.mem_append_right _ tq_1_2.1, rfl⟩, rfl, pm_on13.1, pm_on13.2, Nat.le_of_ble_eq_true rfl⟩
def pm_m48 : pm_M := (⟨"SilentTable$Meal", "<init>", "(LSilentTable$TextReader;)V"⟩, prog_3_method_1_code, 3, none, 14)
set_option maxRecDepth 100000 in
theorem pm_m48_ok : pm_Mok pm_m48 := ⟨⟨List.mem_append_right _ tq_3_4.1, rfl⟩, ⟨List.mem_append_right _ tq_1_2.2.1, rfl⟩, rfl, pm_on14.1, pm_on14.2, Nat.le_of_ble_eq_true rfl⟩
def pm_m49 : pm_M := (⟨"java/util/Arrays", "fill", "([IIII)V"⟩, prog_23_method_104_code, 5, none, 7)
set_option maxRecDepth 100000 in
theorem pm_m49_ok : pm_Mok pm_m49 := ⟨⟨List.mem_append_right _ tq_3_4.2.2.2.2.2.1, rfl⟩, ⟨List.mem_append_right _ tq_1_1.1, rfl⟩, rfl, pm_on7.1, pm_on7.2, Nat.le_of_ble_eq_true rfl⟩
def pm_m50 : pm_M := (⟨"java/util/Arrays", "rangeCheck", "(III)V"⟩, prog_23_method_30_code, 3, none, 7)
set_option maxRecDepth 100000 in
theorem pm_m50_ok : pm_Mok pm_m50 := ⟨⟨List.mem_append_right _ tq_3_5.1, rfl⟩, ⟨List.mem_append_right _ tq_1_1.1, rfl⟩, rfl, pm_on7.1, pm_on7.2, Nat.le_of_ble_eq_true rfl⟩
def pm_m51 : pm_M := (⟨"SilentTable$Meal", "isSign", "(I)Z"⟩, prog_3_method_4_code, 2, (some .boolean), 14)
set_option maxRecDepth 100000 in
theorem pm_m51_ok : pm_Mok pm_m51 := ⟨⟨List.mem_append_right _ tq_3_5.2.2.2.2.2.1, rfl⟩, ⟨List.mem_append_right _ tq_1_2.2.1, rfl⟩, rfl, pm_on14.1, pm_on14.2, Nat.le_of_ble_eq_true rfl⟩
def pm_m52 : pm_M := (⟨"SilentTable$Meal", "whoDoes", "(I)I"⟩, prog_3_method_5_code, 2, (some .int), 14)
set_option maxRecDepth 100000 in
theorem pm_m52_ok : pm_Mok pm_m52 := ⟨⟨List.mem_append_right _ tq_3_6.2.1, rfl⟩, ⟨List.mem_append_right _ tq_1_2.2.1, rfl⟩, rfl, pm_on14.1, pm_on14.2, Nat.le_of_ble_eq_true rfl⟩
def pm_m53 : pm_M := (⟨"SilentTable$Meal", "lookersAt", "(II)I"⟩, prog_3_method_2_code, 5, (some .int), 14)
set_option maxRecDepth 100000 in
theorem pm_m53_ok : pm_Mok pm_m53 := ⟨⟨List.mem_append_right _ tq_3_6.2.2.2.2.2.1, rfl⟩, ⟨List.mem_append_right _ tq_1_2.2.1, rfl⟩, rfl, pm_on14.1, pm_on14.2, Nat.le_of_ble_eq_true rfl⟩
def pm_m54 : pm_M := (⟨"SilentTable$House", "<init>", "(LSilentTable$TextReader;)V"⟩, prog_2_method_1_code, 2, none, 15)
set_option maxRecDepth 100000 in
theorem pm_m54_ok : pm_Mok pm_m54 := ⟨⟨List.mem_append_right _ tq_3_10.2.1, rfl⟩, ⟨List.mem_append_right _ tq_1_2.2.2.1, rfl⟩, rfl, pm_on15.1, pm_on15.2, Nat.le_of_ble_eq_true rfl⟩
def pm_m55 : pm_M := (⟨"SilentTable", "fault", "(I)I"⟩, prog_1_method_6_code, 2, (some .int), 1)
set_option maxRecDepth 100000 in
theorem pm_m55_ok : pm_Mok pm_m55 := ⟨⟨List.mem_append_right _ tq_3_12.1, rfl⟩, ⟨List.mem_append_right _ tq_1_0.2.1, rfl⟩, rfl, pm_on1.1, pm_on1.2, Nat.le_of_ble_eq_true rfl⟩
def pm_m56 : pm_M := (⟨"SilentTable", "count", "(I)I"⟩, prog_1_method_7_code, 2, (some .int), 1)
set_option maxRecDepth 100000 in
theorem pm_m56_ok : pm_Mok pm_m56 := ⟨⟨List.mem_append_right _ tq_3_12.2.2.2.2.1, rfl⟩, ⟨List.mem_append_right _ tq_1_0.2.1, rfl⟩, rfl, pm_on1.1, pm_on1.2, Nat.le_of_ble_eq_true rfl⟩
def pm_m57 : pm_M := (⟨"SilentTable", "image", "(I)Z"⟩, prog_1_method_8_code, 2, (some .boolean), 1)
set_option maxRecDepth 100000 in
theorem pm_m57_ok : pm_Mok pm_m57 := ⟨⟨List.mem_append_right _ tq_3_13.1, rfl⟩, ⟨List.mem_append_right _ tq_1_0.2.1, rfl⟩, rfl, pm_on1.1, pm_on1.2, Nat.le_of_ble_eq_true rfl⟩
def pm_m58 : pm_M := (⟨"SilentTable$Told", "takeFrom", "(LSilentTable$Told;)V"⟩, prog_10_method_3_code, 2, none, 2)
set_option maxRecDepth 100000 in
theorem pm_m58_ok : pm_Mok pm_m58 := ⟨⟨List.mem_append_right _ tq_3_13.2.2.2.2.1, rfl⟩, ⟨List.mem_append_right _ tq_1_0.2.2.1, rfl⟩, rfl, pm_on2.1, pm_on2.2, Nat.le_of_ble_eq_true rfl⟩
def pm_m59 : pm_M := (⟨"SilentTable$Told", "takeTexts", "(LSilentTable$Told;)V"⟩, prog_10_method_4_code, 3, none, 2)
set_option maxRecDepth 100000 in
theorem pm_m59_ok : pm_Mok pm_m59 := ⟨⟨List.mem_append_right _ tq_3_14.2.1, rfl⟩, ⟨List.mem_append_right _ tq_1_0.2.2.1, rfl⟩, rfl, pm_on2.1, pm_on2.2, Nat.le_of_ble_eq_true rfl⟩
def pm_m60 : pm_M := (⟨"SilentTable", "again", "(I)Z"⟩, prog_1_method_9_code, 2, (some .boolean), 1)
set_option maxRecDepth 100000 in
theorem pm_m60_ok : pm_Mok pm_m60 := ⟨⟨List.mem_append_right _ tq_3_14.2.2.2.2.2.1, rfl⟩, ⟨List.mem_append_right _ tq_1_0.2.1, rfl⟩, rfl, pm_on1.1, pm_on1.2, Nat.le_of_ble_eq_true rfl⟩
def pm_m61 : pm_M := (⟨"SilentTable", "list", "(II)I"⟩, prog_1_method_14_code, 4, (some .int), 1)
set_option maxRecDepth 100000 in
theorem pm_m61_ok : pm_Mok pm_m61 := ⟨⟨List.mem_append_right _ tq_3_15.2.1, rfl⟩, ⟨List.mem_append_right _ tq_1_0.2.1, rfl⟩, rfl, pm_on1.1, pm_on1.2, Nat.le_of_ble_eq_true rfl⟩
def pm_m62 : pm_M := (⟨"SilentTable", "listAt", "(I)LSilentTable$SignList;"⟩, prog_1_method_10_code, 2, (some (.object "SilentTable$SignList")), 1)
set_option maxRecDepth 100000 in
theorem pm_m62_ok : pm_Mok pm_m62 := ⟨⟨List.mem_append_right _ tq_3_15.2.2.2.2.2.1, rfl⟩, ⟨List.mem_append_right _ tq_1_0.2.1, rfl⟩, rfl, pm_on1.1, pm_on1.2, Nat.le_of_ble_eq_true rfl⟩
def pm_m63 : pm_M := (⟨"SilentTable", "rule", "(III)I"⟩, prog_1_method_15_code, 5, (some .int), 1)
set_option maxRecDepth 100000 in
theorem pm_m63_ok : pm_Mok pm_m63 := ⟨⟨List.mem_append_right _ tq_3_16.2.1, rfl⟩, ⟨List.mem_append_right _ tq_1_0.2.1, rfl⟩, rfl, pm_on1.1, pm_on1.2, Nat.le_of_ble_eq_true rfl⟩
def pm_m64 : pm_M := (⟨"SilentTable", "reading", "(III)I"⟩, prog_1_method_16_code, 5, (some .int), 1)
set_option maxRecDepth 100000 in
theorem pm_m64_ok : pm_Mok pm_m64 := ⟨⟨List.mem_append_right _ tq_3_16.2.2.2.2.2.1, rfl⟩, ⟨List.mem_append_right _ tq_1_0.2.1, rfl⟩, rfl, pm_on1.1, pm_on1.2, Nat.le_of_ble_eq_true rfl⟩
def pm_m65 : pm_M := (⟨"SilentTable", "row", "(II)I"⟩, prog_1_method_17_code, 4, (some .int), 1)
set_option maxRecDepth 100000 in
theorem pm_m65_ok : pm_Mok pm_m65 := ⟨⟨List.mem_append_right _ tq_3_17.2.1, rfl⟩, ⟨List.mem_append_right _ tq_1_0.2.1, rfl⟩, rfl, pm_on1.1, pm_on1.2, Nat.le_of_ble_eq_true rfl⟩
def pm_m66 : pm_M := (⟨"SilentTable", "rowAt", "(I)LSilentTable$SignRow;"⟩, prog_1_method_11_code, 2, (some (.object "SilentTable$SignRow")), 1)
set_option maxRecDepth 100000 in
theorem pm_m66_ok : pm_Mok pm_m66 := ⟨⟨List.mem_append_right _ tq_3_17.2.2.2.2.2.1, rfl⟩, ⟨List.mem_append_right _ tq_1_0.2.1, rfl⟩, rfl, pm_on1.1, pm_on1.2, Nat.le_of_ble_eq_true rfl⟩
def pm_m67 : pm_M := (⟨"SilentTable$SignRow", "has", "(I)Z"⟩, prog_7_method_2_code, 2, (some .boolean), 13)
set_option maxRecDepth 100000 in
theorem pm_m67_ok : pm_Mok pm_m67 := ⟨⟨List.mem_append_right _ tq_3_18.2.1, rfl⟩, ⟨List.mem_append_right _ tq_1_2.1, rfl⟩, rfl, pm_on13.1, pm_on13.2, Nat.le_of_ble_eq_true rfl⟩
def pm_m68 : pm_M := (⟨"SilentTable", "trees", "(IIIII)J"⟩, prog_1_method_18_code, 8, (some .long), 1)
set_option maxRecDepth 100000 in
theorem pm_m68_ok : pm_Mok pm_m68 := ⟨⟨List.mem_append_right _ tq_3_18.2.2.2.2.2.1, rfl⟩, ⟨List.mem_append_right _ tq_1_0.2.1, rfl⟩, rfl, pm_on1.1, pm_on1.2, Nat.le_of_ble_eq_true rfl⟩
def pm_m69 : pm_M := (⟨"SilentTable$SignRow", "hasPart", "(II)Z"⟩, prog_7_method_3_code, 3, (some .boolean), 13)
set_option maxRecDepth 100000 in
theorem pm_m69_ok : pm_Mok pm_m69 := ⟨⟨List.mem_append_right _ tq_3_19.2.1, rfl⟩, ⟨List.mem_append_right _ tq_1_2.1, rfl⟩, rfl, pm_on13.1, pm_on13.2, Nat.le_of_ble_eq_true rfl⟩
def pm_m70 : pm_M := (⟨"SilentTable$TreeChart", "countFor", "(LSilentTable$SignList;LSilentTable$SignRow;)V"⟩, prog_11_method_2_code, 5, none, 6)
set_option maxRecDepth 100000 in
theorem pm_m70_ok : pm_Mok pm_m70 := ⟨⟨List.mem_append_right _ tq_3_19.2.2.2.2.2.2.1, rfl⟩, ⟨List.mem_append_right _ tq_1_0.2.2.2.2.2.2.1, rfl⟩, rfl, pm_on6.1, pm_on6.2, Nat.le_of_ble_eq_true rfl⟩
def pm_m71 : pm_M := (⟨"java/util/Arrays", "fill", "([JJ)V"⟩, prog_23_method_101_code, 5, none, 7)
set_option maxRecDepth 100000 in
theorem pm_m71_ok : pm_Mok pm_m71 := ⟨⟨List.mem_append_right _ tq_3_20.2.1, rfl⟩, ⟨List.mem_append_right _ tq_1_1.1, rfl⟩, rfl, pm_on7.1, pm_on7.2, Nat.le_of_ble_eq_true rfl⟩
def pm_m72 : pm_M := (⟨"SilentTable$TreeChart", "fillSign", "(I)V"⟩, prog_11_method_3_code, 3, none, 6)
set_option maxRecDepth 100000 in
theorem pm_m72_ok : pm_Mok pm_m72 := ⟨⟨List.mem_append_right _ tq_3_20.2.2.2.2.2.1, rfl⟩, ⟨List.mem_append_right _ tq_1_0.2.2.2.2.2.2.1, rfl⟩, rfl, pm_on6.1, pm_on6.2, Nat.le_of_ble_eq_true rfl⟩
def pm_m73 : pm_M := (⟨"SilentTable", "part", "(II)I"⟩, prog_1_method_64_code, 2, (some .int), 1)
set_option maxRecDepth 100000 in
theorem pm_m73_ok : pm_Mok pm_m73 := ⟨⟨List.mem_append_right _ tq_3_21.1, rfl⟩, ⟨List.mem_append_right _ tq_1_0.2.1, rfl⟩, rfl, pm_on1.1, pm_on1.2, Nat.le_of_ble_eq_true rfl⟩
def pm_m74 : pm_M := (⟨"SilentTable$TreeChart", "fillPart", "(II)V"⟩, prog_11_method_4_code, 6, none, 6)
set_option maxRecDepth 100000 in
theorem pm_m74_ok : pm_Mok pm_m74 := ⟨⟨List.mem_append_right _ tq_3_21.2.2.2.2.1, rfl⟩, ⟨List.mem_append_right _ tq_1_0.2.2.2.2.2.2.1, rfl⟩, rfl, pm_on6.1, pm_on6.2, Nat.le_of_ble_eq_true rfl⟩
def pm_m75 : pm_M := (⟨"SilentTable$TreeChart", "firsts", "(III)J"⟩, prog_11_method_5_code, 4, (some .long), 6)
set_option maxRecDepth 100000 in
theorem pm_m75_ok : pm_Mok pm_m75 := ⟨⟨List.mem_append_right _ tq_3_22.1, rfl⟩, ⟨List.mem_append_right _ tq_1_0.2.2.2.2.2.2.1, rfl⟩, rfl, pm_on6.1, pm_on6.2, Nat.le_of_ble_eq_true rfl⟩
def pm_m76 : pm_M := (⟨"SilentTable$TreeChart", "seconds", "(III)J"⟩, prog_11_method_6_code, 4, (some .long), 6)
set_option maxRecDepth 100000 in
theorem pm_m76_ok : pm_Mok pm_m76 := ⟨⟨List.mem_append_right _ tq_3_22.2.2.2.2.1, rfl⟩, ⟨List.mem_append_right _ tq_1_0.2.2.2.2.2.2.1, rfl⟩, rfl, pm_on6.1, pm_on6.2, Nat.le_of_ble_eq_true rfl⟩
def pm_m77 : pm_M := (⟨"SilentTable", "times", "(JJ)J"⟩, prog_1_method_67_code, 4, (some .long), 1)
set_option maxRecDepth 100000 in
theorem pm_m77_ok : pm_Mok pm_m77 := ⟨⟨List.mem_append_right _ tq_3_22.2.2.2.2.2.2.2.1, rfl⟩, ⟨List.mem_append_right _ tq_1_0.2.1, rfl⟩, rfl, pm_on1.1, pm_on1.2, Nat.le_of_ble_eq_true rfl⟩
def pm_m78 : pm_M := (⟨"SilentTable", "plus", "(JJ)J"⟩, prog_1_method_66_code, 4, (some .long), 1)
set_option maxRecDepth 100000 in
theorem pm_m78_ok : pm_Mok pm_m78 := ⟨⟨List.mem_append_right _ tq_3_23.2.2.2.1, rfl⟩, ⟨List.mem_append_right _ tq_1_0.2.1, rfl⟩, rfl, pm_on1.1, pm_on1.2, Nat.le_of_ble_eq_true rfl⟩
def pm_m79 : pm_M := (⟨"SilentTable", "toldCount", "(J)J"⟩, prog_1_method_62_code, 2, (some .long), 1)
set_option maxRecDepth 100000 in
theorem pm_m79_ok : pm_Mok pm_m79 := ⟨⟨List.mem_append_right _ tq_3_23.2.2.2.2.2.2.2.1, rfl⟩, ⟨List.mem_append_right _ tq_1_0.2.1, rfl⟩, rfl, pm_on1.1, pm_on1.2, Nat.le_of_ble_eq_true rfl⟩
def pm_m80 : pm_M := (⟨"SilentTable", "can", "(IIII)I"⟩, prog_1_method_19_code, 9, (some .int), 1)
set_option maxRecDepth 100000 in
theorem pm_m80_ok : pm_Mok pm_m80 := ⟨⟨List.mem_append_right _ tq_3_24.2.2.2.2.2.2.2.1, rfl⟩, ⟨List.mem_append_right _ tq_1_0.2.1, rfl⟩, rfl, pm_on1.1, pm_on1.2, Nat.le_of_ble_eq_true rfl⟩
def pm_m81 : pm_M := (⟨"SilentTable", "ways", "(III)J"⟩, prog_1_method_20_code, 6, (some .long), 1)
set_option maxRecDepth 100000 in
theorem pm_m81_ok : pm_Mok pm_m81 := ⟨⟨List.mem_append_right _ tq_3_25.2.2.2.1, rfl⟩, ⟨List.mem_append_right _ tq_1_0.2.1, rfl⟩, rfl, pm_on1.1, pm_on1.2, Nat.le_of_ble_eq_true rfl⟩
def pm_m82 : pm_M := (⟨"SilentTable", "isValue", "(I)Z"⟩, prog_1_method_61_code, 1, (some .boolean), 1)
set_option maxRecDepth 100000 in
theorem pm_m82_ok : pm_Mok pm_m82 := ⟨⟨List.mem_append_right _ tq_3_25.2.2.2.2.2.2.1, rfl⟩, ⟨List.mem_append_right _ tq_1_0.2.1, rfl⟩, rfl, pm_on1.1, pm_on1.2, Nat.le_of_ble_eq_true rfl⟩
def pm_m83 : pm_M := (⟨"SilentTable$WayChart", "<init>", "()V"⟩, prog_12_method_1_code, 1, none, 16)
set_option maxRecDepth 100000 in
theorem pm_m83_ok : pm_Mok pm_m83 := ⟨⟨List.mem_append_right _ tq_3_26.2.2.2.1, rfl⟩, ⟨List.mem_append_right _ tq_1_2.2.2.2.2.1, rfl⟩, rfl, pm_on16.1, pm_on16.2, Nat.le_of_ble_eq_true rfl⟩
def pm_m84 : pm_M := (⟨"SilentTable$WayChart", "countFor", "(LSilentTable$TreeChart;)V"⟩, prog_12_method_2_code, 4, none, 16)
set_option maxRecDepth 100000 in
theorem pm_m84_ok : pm_Mok pm_m84 := ⟨⟨List.mem_append_right _ tq_3_28.2.2.2.1, rfl⟩, ⟨List.mem_append_right _ tq_1_2.2.2.2.2.1, rfl⟩, rfl, pm_on16.1, pm_on16.2, Nat.le_of_ble_eq_true rfl⟩
def pm_m85 : pm_M := (⟨"SilentTable$WayChart", "fillSign", "(I)V"⟩, prog_12_method_3_code, 4, none, 16)
set_option maxRecDepth 100000 in
theorem pm_m85_ok : pm_Mok pm_m85 := ⟨⟨List.mem_append_right _ tq_3_29.1, rfl⟩, ⟨List.mem_append_right _ tq_1_2.2.2.2.2.1, rfl⟩, rfl, pm_on16.1, pm_on16.2, Nat.le_of_ble_eq_true rfl⟩
def pm_m86 : pm_M := (⟨"SilentTable$WayChart", "fillPart", "([JII)V"⟩, prog_12_method_4_code, 10, none, 16)
set_option maxRecDepth 100000 in
theorem pm_m86_ok : pm_Mok pm_m86 := ⟨⟨List.mem_append_right _ tq_3_29.2.2.2.2.2.1, rfl⟩, ⟨List.mem_append_right _ tq_1_2.2.2.2.2.1, rfl⟩, rfl, pm_on16.1, pm_on16.2, Nat.le_of_ble_eq_true rfl⟩
def pm_m87 : pm_M := (⟨"SilentTable$WayChart", "addPairs", "(IIII)V"⟩, prog_12_method_6_code, 15, none, 16)
set_option maxRecDepth 100000 in
theorem pm_m87_ok : pm_Mok pm_m87 := ⟨⟨List.mem_append_right _ tq_4_0.2.1, rfl⟩, ⟨List.mem_append_right _ tq_1_2.2.2.2.2.1, rfl⟩, rfl, pm_on16.1, pm_on16.2, Nat.le_of_ble_eq_true rfl⟩
def pm_m88 : pm_M := (⟨"SilentTable", "valueOf", "(III)I"⟩, prog_1_method_65_code, 3, (some .int), 1)
set_option maxRecDepth 100000 in
theorem pm_m88_ok : pm_Mok pm_m88 := ⟨⟨List.mem_append_right _ tq_4_0.2.2.2.2.2.2.1, rfl⟩, ⟨List.mem_append_right _ tq_1_0.2.1, rfl⟩, rfl, pm_on1.1, pm_on1.2, Nat.le_of_ble_eq_true rfl⟩
def pm_m89 : pm_M := (⟨"SilentTable$WayChart", "addOneSide", "(IIIJ)V"⟩, prog_12_method_5_code, 8, none, 16)
set_option maxRecDepth 100000 in
theorem pm_m89_ok : pm_Mok pm_m89 := ⟨⟨List.mem_append_right _ tq_4_1.2.2.2.1, rfl⟩, ⟨List.mem_append_right _ tq_1_2.2.2.2.2.1, rfl⟩, rfl, pm_on16.1, pm_on16.2, Nat.le_of_ble_eq_true rfl⟩
def pm_m90 : pm_M := (⟨"SilentTable", "tree", "(IIJI)I"⟩, prog_1_method_21_code, 11, (some .int), 1)
set_option maxRecDepth 100000 in
theorem pm_m90_ok : pm_Mok pm_m90 := ⟨⟨List.mem_append_right _ tq_4_2.1, rfl⟩, ⟨List.mem_append_right _ tq_1_0.2.1, rfl⟩, rfl, pm_on1.1, pm_on1.2, Nat.le_of_ble_eq_true rfl⟩
def pm_m91 : pm_M := (⟨"SilentTable$TreeChart", "pickWhole", "(J)I"⟩, prog_11_method_7_code, 3, (some .int), 6)
set_option maxRecDepth 100000 in
theorem pm_m91_ok : pm_Mok pm_m91 := ⟨⟨List.mem_append_right _ tq_4_2.2.2.2.2.1, rfl⟩, ⟨List.mem_append_right _ tq_1_0.2.2.2.2.2.2.1, rfl⟩, rfl, pm_on6.1, pm_on6.2, Nat.le_of_ble_eq_true rfl⟩
def pm_m92 : pm_M := (⟨"SilentTable$TreeChart", "pick", "(IIIJI)I"⟩, prog_11_method_8_code, 18, (some .int), 6)
set_option maxRecDepth 100000 in
theorem pm_m92_ok : pm_Mok pm_m92 := ⟨⟨List.mem_append_right _ tq_4_3.1, rfl⟩, ⟨List.mem_append_right _ tq_1_0.2.2.2.2.2.2.1, rfl⟩, rfl, pm_on6.1, pm_on6.2, Nat.le_of_ble_eq_true rfl⟩
def pm_m93 : pm_M := (⟨"SilentTable$TreeChart", "pickReading", "(IIJ)I"⟩, prog_11_method_9_code, 8, (some .int), 6)
set_option maxRecDepth 100000 in
theorem pm_m93_ok : pm_Mok pm_m93 := ⟨⟨List.mem_append_right _ tq_4_3.2.2.2.2.1, rfl⟩, ⟨List.mem_append_right _ tq_1_0.2.2.2.2.2.2.1, rfl⟩, rfl, pm_on6.1, pm_on6.2, Nat.le_of_ble_eq_true rfl⟩
def pm_m94 : pm_M := (⟨"SilentTable", "doubt", "(III)I"⟩, prog_1_method_22_code, 6, (some .int), 1)
set_option maxRecDepth 100000 in
theorem pm_m94_ok : pm_Mok pm_m94 := ⟨⟨List.mem_append_right _ tq_4_4.2.2.1, rfl⟩, ⟨List.mem_append_right _ tq_1_0.2.1, rfl⟩, rfl, pm_on1.1, pm_on1.2, Nat.le_of_ble_eq_true rfl⟩
def pm_m95 : pm_M := (⟨"SilentTable$TreeChart", "usedReadings", "(I)I"⟩, prog_11_method_10_code, 4, (some .int), 6)
set_option maxRecDepth 100000 in
theorem pm_m95_ok : pm_Mok pm_m95 := ⟨⟨List.mem_append_right _ tq_4_4.2.2.2.2.2.2.1, rfl⟩, ⟨List.mem_append_right _ tq_1_0.2.2.2.2.2.2.1, rfl⟩, rfl, pm_on6.1, pm_on6.2, Nat.le_of_ble_eq_true rfl⟩
def pm_m96 : pm_M := (⟨"SilentTable$TreeChart", "usePart", "(II)V"⟩, prog_11_method_11_code, 6, none, 6)
set_option maxRecDepth 100000 in
theorem pm_m96_ok : pm_Mok pm_m96 := ⟨⟨List.mem_append_right _ tq_4_5.2.2.2.1, rfl⟩, ⟨List.mem_append_right _ tq_1_0.2.2.2.2.2.2.1, rfl⟩, rfl, pm_on6.1, pm_on6.2, Nat.le_of_ble_eq_true rfl⟩
def pm_m97 : pm_M := (⟨"SilentTable", "means", "(III)I"⟩, prog_1_method_23_code, 6, (some .int), 1)
set_option maxRecDepth 100000 in
theorem pm_m97_ok : pm_Mok pm_m97 := ⟨⟨List.mem_append_right _ tq_4_5.2.2.2.2.2.2.2.1, rfl⟩, ⟨List.mem_append_right _ tq_1_0.2.1, rfl⟩, rfl, pm_on1.1, pm_on1.2, Nat.le_of_ble_eq_true rfl⟩
def pm_m98 : pm_M := (⟨"SilentTable", "wornMeanings", "(LSilentTable$SignList;LSilentTable$SignRow;I)J"⟩, prog_1_method_30_code, 4, (some .long), 1)
set_option maxRecDepth 100000 in
theorem pm_m98_ok : pm_Mok pm_m98 := ⟨⟨List.mem_append_right _ tq_4_6.2.2.2.1, rfl⟩, ⟨List.mem_append_right _ tq_1_0.2.1, rfl⟩, rfl, pm_on1.1, pm_on1.2, Nat.le_of_ble_eq_true rfl⟩
def pm_m99 : pm_M := (⟨"SilentTable", "setWorn", "(LSilentTable$SignList;LSilentTable$SignRow;I)V"⟩, prog_1_method_29_code, 5, none, 1)
set_option maxRecDepth 100000 in
theorem pm_m99_ok : pm_Mok pm_m99 := ⟨⟨List.mem_append_right _ tq_4_6.2.2.2.2.2.2.2.1, rfl⟩, ⟨List.mem_append_right _ tq_1_0.2.1, rfl⟩, rfl, pm_on1.1, pm_on1.2, Nat.le_of_ble_eq_true rfl⟩
def pm_m100 : pm_M := (⟨"SilentTable$MeaningChart", "meaningsOf", "(LSilentTable$SignList;[II)J"⟩, prog_4_method_2_code, 6, (some .long), 5)
set_option maxRecDepth 100000 in
theorem pm_m100_ok : pm_Mok pm_m100 := ⟨⟨List.mem_append_right _ tq_4_7.2.2.2.1, rfl⟩, ⟨List.mem_append_right _ tq_1_0.2.2.2.2.2.1, rfl⟩, rfl, pm_on5.1, pm_on5.2, Nat.le_of_ble_eq_true rfl⟩
def pm_m101 : pm_M := (⟨"SilentTable$MeaningChart", "fillSign", "(LSilentTable$SignList;II)V"⟩, prog_4_method_3_code, 7, none, 5)
set_option maxRecDepth 100000 in
theorem pm_m101_ok : pm_Mok pm_m101 := ⟨⟨List.mem_append_right _ tq_4_7.2.2.2.2.2.2.2.1, rfl⟩, ⟨List.mem_append_right _ tq_1_0.2.2.2.2.2.1, rfl⟩, rfl, pm_on5.1, pm_on5.2, Nat.le_of_ble_eq_true rfl⟩
def pm_m102 : pm_M := (⟨"java/util/Arrays", "fill", "([JIIJ)V"⟩, prog_23_method_102_code, 6, none, 7)
set_option maxRecDepth 100000 in
theorem pm_m102_ok : pm_Mok pm_m102 := ⟨⟨List.mem_append_right _ tq_4_8.2.2.2.1, rfl⟩, ⟨List.mem_append_right _ tq_1_1.1, rfl⟩, rfl, pm_on7.1, pm_on7.2, Nat.le_of_ble_eq_true rfl⟩
def pm_m103 : pm_M := (⟨"SilentTable$MeaningChart", "fillPart", "(LSilentTable$SignList;II)V"⟩, prog_4_method_4_code, 14, none, 5)
set_option maxRecDepth 100000 in
theorem pm_m103_ok : pm_Mok pm_m103 := ⟨⟨List.mem_append_right _ tq_4_8.2.2.2.2.2.2.2.1, rfl⟩, ⟨List.mem_append_right _ tq_1_0.2.2.2.2.2.1, rfl⟩, rfl, pm_on5.1, pm_on5.2, Nat.le_of_ble_eq_true rfl⟩
def pm_m104 : pm_M := (⟨"SilentTable", "joined", "(IJJ)J"⟩, prog_1_method_68_code, 5, (some .long), 1)
set_option maxRecDepth 100000 in
theorem pm_m104_ok : pm_Mok pm_m104 := ⟨⟨List.mem_append_right _ tq_4_9.2.2.2.1, rfl⟩, ⟨List.mem_append_right _ tq_1_0.2.1, rfl⟩, rfl, pm_on1.1, pm_on1.2, Nat.le_of_ble_eq_true rfl⟩
def pm_m105 : pm_M := (⟨"SilentTable", "sums", "(JJ)J"⟩, prog_1_method_69_code, 7, (some .long), 1)
set_option maxRecDepth 100000 in
theorem pm_m105_ok : pm_Mok pm_m105 := ⟨⟨List.mem_append_right _ tq_4_9.2.2.2.2.2.2.1, rfl⟩, ⟨List.mem_append_right _ tq_1_0.2.1, rfl⟩, rfl, pm_on1.1, pm_on1.2, Nat.le_of_ble_eq_true rfl⟩
def pm_m106 : pm_M := (⟨"SilentTable", "mirrored", "(J)J"⟩, prog_1_method_70_code, 5, (some .long), 1)
set_option maxRecDepth 100000 in
theorem pm_m106_ok : pm_Mok pm_m106 := ⟨⟨List.mem_append_right _ tq_4_10.2.2.2.1, rfl⟩, ⟨List.mem_append_right _ tq_1_0.2.1, rfl⟩, rfl, pm_on1.1, pm_on1.2, Nat.le_of_ble_eq_true rfl⟩
def pm_m107 : pm_M := (⟨"SilentTable", "countOrOne", "(JI)I"⟩, prog_1_method_63_code, 6, (some .int), 1)
set_option maxRecDepth 100000 in
theorem pm_m107_ok : pm_Mok pm_m107 := ⟨⟨List.mem_append_right _ tq_4_10.2.2.2.2.2.2.1, rfl⟩, ⟨List.mem_append_right _ tq_1_0.2.1, rfl⟩, rfl, pm_on1.1, pm_on1.2, Nat.le_of_ble_eq_true rfl⟩
def pm_m108 : pm_M := (⟨"java/lang/Long", "bitCount", "(J)I"⟩, prog_17_method_50_code, 2, (some .int), 17)
set_option maxRecDepth 100000 in
theorem pm_m108_ok : pm_Mok pm_m108 := ⟨⟨List.mem_append_right _ tq_4_11.2.1, rfl⟩, ⟨List.mem_append_right _ tq_1_2.2.2.2.1, rfl⟩, rfl, pm_on17.1, pm_on17.2, Nat.le_of_ble_eq_true rfl⟩
def pm_m109 : pm_M := (⟨"SilentTable", "could", "(IIII)I"⟩, prog_1_method_24_code, 7, (some .int), 1)
set_option maxRecDepth 100000 in
theorem pm_m109_ok : pm_Mok pm_m109 := ⟨⟨List.mem_append_right _ tq_4_12.1, rfl⟩, ⟨List.mem_append_right _ tq_1_0.2.1, rfl⟩, rfl, pm_on1.1, pm_on1.2, Nat.le_of_ble_eq_true rfl⟩
def pm_m110 : pm_M := (⟨"SilentTable", "areHands", "(I)Z"⟩, prog_1_method_60_code, 1, (some .boolean), 1)
set_option maxRecDepth 100000 in
theorem pm_m110_ok : pm_Mok pm_m110 := ⟨⟨List.mem_append_right _ tq_4_12.2.2.2.1, rfl⟩, ⟨List.mem_append_right _ tq_1_0.2.1, rfl⟩, rfl, pm_on1.1, pm_on1.2, Nat.le_of_ble_eq_true rfl⟩
def pm_m111 : pm_M := (⟨"SilentTable", "like", "(III)I"⟩, prog_1_method_25_code, 7, (some .int), 1)
set_option maxRecDepth 100000 in
theorem pm_m111_ok : pm_Mok pm_m111 := ⟨⟨List.mem_append_right _ tq_4_12.2.2.2.2.2.2.2.1, rfl⟩, ⟨List.mem_append_right _ tq_1_0.2.1, rfl⟩, rfl, pm_on1.1, pm_on1.2, Nat.le_of_ble_eq_true rfl⟩
def pm_m112 : pm_M := (⟨"SilentTable", "hole", "(III)I"⟩, prog_1_method_26_code, 8, (some .int), 1)
set_option maxRecDepth 100000 in
theorem pm_m112_ok : pm_Mok pm_m112 := ⟨⟨List.mem_append_right _ tq_4_13.2.2.2.1, rfl⟩, ⟨List.mem_append_right _ tq_1_0.2.1, rfl⟩, rfl, pm_on1.1, pm_on1.2, Nat.le_of_ble_eq_true rfl⟩
def pm_m113 : pm_M := (⟨"SilentTable", "idle", "(II)I"⟩, prog_1_method_27_code, 9, (some .int), 1)
set_option maxRecDepth 100000 in
theorem pm_m113_ok : pm_Mok pm_m113 := ⟨⟨List.mem_append_right _ tq_4_13.2.2.2.2.2.2.2.1, rfl⟩, ⟨List.mem_append_right _ tq_1_0.2.1, rfl⟩, rfl, pm_on1.1, pm_on1.2, Nat.le_of_ble_eq_true rfl⟩
def pm_m114 : pm_M := (⟨"SilentTable", "meaningsWithout", "(LSilentTable$SignList;LSilentTable$SignRow;I)J"⟩, prog_1_method_28_code, 5, (some .long), 1)
set_option maxRecDepth 100000 in
theorem pm_m114_ok : pm_Mok pm_m114 := ⟨⟨List.mem_append_right _ tq_4_14.2.2.2.1, rfl⟩, ⟨List.mem_append_right _ tq_1_0.2.1, rfl⟩, rfl, pm_on1.1, pm_on1.2, Nat.le_of_ble_eq_true rfl⟩
def pm_m115 : pm_M := (⟨"SilentTable", "worn", "(III)J"⟩, prog_1_method_31_code, 9, (some .long), 1)
set_option maxRecDepth 100000 in
theorem pm_m115_ok : pm_Mok pm_m115 := ⟨⟨List.mem_append_right _ tq_4_14.2.2.2.2.2.2.2.1, rfl⟩, ⟨List.mem_append_right _ tq_1_0.2.1, rfl⟩, rfl, pm_on1.1, pm_on1.2, Nat.le_of_ble_eq_true rfl⟩
def pm_m116 : pm_M := (⟨"java/lang/Integer", "bitCount", "(I)I"⟩, prog_16_method_49_code, 1, (some .int), 18)
set_option maxRecDepth 100000 in
theorem pm_m116_ok : pm_Mok pm_m116 := ⟨⟨List.mem_append_right _ tq_4_15.2.2.1, rfl⟩, ⟨List.mem_append_right _ tq_1_2.2.2.2.2.2.1, rfl⟩, rfl, pm_on18.1, pm_on18.2, Nat.le_of_ble_eq_true rfl⟩
def pm_m117 : pm_M := (⟨"SilentTable", "lasts", "(II)I"⟩, prog_1_method_32_code, 8, (some .int), 1)
set_option maxRecDepth 100000 in
theorem pm_m117_ok : pm_Mok pm_m117 := ⟨⟨List.mem_append_right _ tq_4_16.2.1, rfl⟩, ⟨List.mem_append_right _ tq_1_0.2.1, rfl⟩, rfl, pm_on1.1, pm_on1.2, Nat.le_of_ble_eq_true rfl⟩
def pm_m118 : pm_M := (⟨"SilentTable", "becomes", "(III)I"⟩, prog_1_method_33_code, 10, (some .int), 1)
set_option maxRecDepth 100000 in
theorem pm_m118_ok : pm_Mok pm_m118 := ⟨⟨List.mem_append_right _ tq_4_16.2.2.2.2.2.1, rfl⟩, ⟨List.mem_append_right _ tq_1_0.2.1, rfl⟩, rfl, pm_on1.1, pm_on1.2, Nat.le_of_ble_eq_true rfl⟩
def pm_m119 : pm_M := (⟨"SilentTable$SignList", "handsTo", "(II)I"⟩, prog_6_method_3_code, 4, (some .int), 12)
set_option maxRecDepth 100000 in
theorem pm_m119_ok : pm_Mok pm_m119 := ⟨⟨List.mem_append_right _ tq_4_17.2.1, rfl⟩, ⟨List.mem_append_right _ tq_1_1.2.2.2.2.2.2.2.1, rfl⟩, rfl, pm_on12.1, pm_on12.2, Nat.le_of_ble_eq_true rfl⟩
def pm_m120 : pm_M := (⟨"SilentTable", "drawn", "(IIIII)I"⟩, prog_1_method_34_code, 14, (some .int), 1)
set_option maxRecDepth 100000 in
theorem pm_m120_ok : pm_Mok pm_m120 := ⟨⟨List.mem_append_right _ tq_4_17.2.2.2.2.2.2.1, rfl⟩, ⟨List.mem_append_right _ tq_1_0.2.1, rfl⟩, rfl, pm_on1.1, pm_on1.2, Nat.le_of_ble_eq_true rfl⟩
def pm_m121 : pm_M := (⟨"SilentTable", "brief", "(IIII)I"⟩, prog_1_method_35_code, 5, (some .int), 1)
set_option maxRecDepth 100000 in
theorem pm_m121_ok : pm_Mok pm_m121 := ⟨⟨List.mem_append_right _ tq_4_18.2.2.2.2.2.1, rfl⟩, ⟨List.mem_append_right _ tq_1_0.2.1, rfl⟩, rfl, pm_on1.1, pm_on1.2, Nat.le_of_ble_eq_true rfl⟩
def pm_m122 : pm_M := (⟨"SilentTable", "shortRows", "(I)LSilentTable$ShortRows;"⟩, prog_1_method_38_code, 2, (some (.object "SilentTable$ShortRows")), 1)
set_option maxRecDepth 100000 in
theorem pm_m122_ok : pm_Mok pm_m122 := ⟨⟨List.mem_append_right _ tq_4_19.2.1, rfl⟩, ⟨List.mem_append_right _ tq_1_0.2.1, rfl⟩, rfl, pm_on1.1, pm_on1.2, Nat.le_of_ble_eq_true rfl⟩
def pm_m123 : pm_M := (⟨"SilentTable$ShortRows", "<init>", "()V"⟩, prog_5_method_1_code, 1, none, 19)
set_option maxRecDepth 100000 in
theorem pm_m123_ok : pm_Mok pm_m123 := ⟨⟨List.mem_append_right _ tq_4_19.2.2.2.2.2.1, rfl⟩, ⟨List.mem_append_right _ tq_1_2.2.2.2.2.2.2.1, rfl⟩, rfl, pm_on19.1, pm_on19.2, Nat.le_of_ble_eq_true rfl⟩
def pm_m124 : pm_M := (⟨"SilentTable$ShortRows", "serve", "(LSilentTable$SignList;)V"⟩, prog_5_method_2_code, 2, none, 19)
set_option maxRecDepth 100000 in
theorem pm_m124_ok : pm_Mok pm_m124 := ⟨⟨List.mem_append_right _ tq_4_23.2.2.2.2.2.2.2.1, rfl⟩, ⟨List.mem_append_right _ tq_1_2.2.2.2.2.2.2.1, rfl⟩, rfl, pm_on19.1, pm_on19.2, Nat.le_of_ble_eq_true rfl⟩
def pm_m125 : pm_M := (⟨"SilentTable$ShortRows", "briefest", "(IILSilentTable$MeaningChart;[I)I"⟩, prog_5_method_8_code, 8, (some .int), 19)
set_option maxRecDepth 100000 in
theorem pm_m125_ok : pm_Mok pm_m125 := ⟨⟨List.mem_append_right _ tq_4_24.2.2.2.1, rfl⟩, ⟨List.mem_append_right _ tq_1_2.2.2.2.2.2.2.1, rfl⟩, rfl, pm_on19.1, pm_on19.2, Nat.le_of_ble_eq_true rfl⟩
def pm_m126 : pm_M := (⟨"SilentTable$ShortRows", "fillTo", "(I)V"⟩, prog_5_method_3_code, 3, none, 19)
set_option maxRecDepth 100000 in
theorem pm_m126_ok : pm_Mok pm_m126 := ⟨⟨List.mem_append_right _ tq_4_24.2.2.2.2.2.2.2.1, rfl⟩, ⟨List.mem_append_right _ tq_1_2.2.2.2.2.2.2.1, rfl⟩, rfl, pm_on19.1, pm_on19.2, Nat.le_of_ble_eq_true rfl⟩
def pm_m127 : pm_M := (⟨"SilentTable$ShortRows", "fillRowsOf", "(I)V"⟩, prog_5_method_4_code, 9, none, 19)
set_option maxRecDepth 100000 in
theorem pm_m127_ok : pm_Mok pm_m127 := ⟨⟨List.mem_append_right _ tq_4_25.2.2.2.1, rfl⟩, ⟨List.mem_append_right _ tq_1_2.2.2.2.2.2.2.1, rfl⟩, rfl, pm_on19.1, pm_on19.2, Nat.le_of_ble_eq_true rfl⟩
def pm_m128 : pm_M := (⟨"SilentTable$ShortRows", "fillSign", "(II)V"⟩, prog_5_method_5_code, 5, none, 19)
set_option maxRecDepth 100000 in
theorem pm_m128_ok : pm_Mok pm_m128 := ⟨⟨List.mem_append_right _ tq_4_26.2.2.2.2.2.2.1, rfl⟩, ⟨List.mem_append_right _ tq_1_2.2.2.2.2.2.2.1, rfl⟩, rfl, pm_on19.1, pm_on19.2, Nat.le_of_ble_eq_true rfl⟩
def pm_m129 : pm_M := (⟨"SilentTable$ShortRows", "fillCut", "(IIIZ)V"⟩, prog_5_method_6_code, 9, none, 19)
set_option maxRecDepth 100000 in
theorem pm_m129_ok : pm_Mok pm_m129 := ⟨⟨List.mem_append_right _ tq_4_27.2.2.1, rfl⟩, ⟨List.mem_append_right _ tq_1_2.2.2.2.2.2.2.1, rfl⟩, rfl, pm_on19.1, pm_on19.2, Nat.le_of_ble_eq_true rfl⟩
def pm_m130 : pm_M := (⟨"SilentTable$ShortRows", "noteRow", "(III)V"⟩, prog_5_method_7_code, 4, none, 19)
set_option maxRecDepth 100000 in
theorem pm_m130_ok : pm_Mok pm_m130 := ⟨⟨List.mem_append_right _ tq_4_27.2.2.2.2.2.2.2.1, rfl⟩, ⟨List.mem_append_right _ tq_1_2.2.2.2.2.2.2.1, rfl⟩, rfl, pm_on19.1, pm_on19.2, Nat.le_of_ble_eq_true rfl⟩
def pm_m131 : pm_M := (⟨"SilentTable$ShortRows", "setWorn", "(III[I)V"⟩, prog_5_method_9_code, 6, none, 19)
set_option maxRecDepth 100000 in
theorem pm_m131_ok : pm_Mok pm_m131 := ⟨⟨List.mem_append_right _ tq_4_28.2.2.2.2.2.1, rfl⟩, ⟨List.mem_append_right _ tq_1_2.2.2.2.2.2.2.1, rfl⟩, rfl, pm_on19.1, pm_on19.2, Nat.le_of_ble_eq_true rfl⟩
def pm_m132 : pm_M := (⟨"SilentTable", "shortSign", "(III)I"⟩, prog_1_method_41_code, 3, (some .int), 1)
set_option maxRecDepth 100000 in
theorem pm_m132_ok : pm_Mok pm_m132 := ⟨⟨List.mem_append_right _ tq_4_29.1, rfl⟩, ⟨List.mem_append_right _ tq_1_0.2.1, rfl⟩, rfl, pm_on1.1, pm_on1.2, Nat.le_of_ble_eq_true rfl⟩
def pm_m133 : pm_M := (⟨"SilentTable", "tellShort", "(II)I"⟩, prog_1_method_39_code, 3, (some .int), 1)
set_option maxRecDepth 100000 in
theorem pm_m133_ok : pm_Mok pm_m133 := ⟨⟨List.mem_append_right _ tq_4_29.2.2.2.2.2.2.1, rfl⟩, ⟨List.mem_append_right _ tq_1_0.2.1, rfl⟩, rfl, pm_on1.1, pm_on1.2, Nat.le_of_ble_eq_true rfl⟩
def pm_m134 : pm_M := (⟨"SilentTable", "shortSize", "(I)I"⟩, prog_1_method_40_code, 2, (some .int), 1)
set_option maxRecDepth 100000 in
theorem pm_m134_ok : pm_Mok pm_m134 := ⟨⟨List.mem_append_right _ tq_5_0.2.1, rfl⟩, ⟨List.mem_append_right _ tq_1_0.2.1, rfl⟩, rfl, pm_on1.1, pm_on1.2, Nat.le_of_ble_eq_true rfl⟩
def pm_m135 : pm_M := (⟨"SilentTable", "apart", "(III)I"⟩, prog_1_method_36_code, 4, (some .int), 1)
set_option maxRecDepth 100000 in
theorem pm_m135_ok : pm_Mok pm_m135 := ⟨⟨List.mem_append_right _ tq_5_0.2.2.2.2.2.2.1, rfl⟩, ⟨List.mem_append_right _ tq_1_0.2.1, rfl⟩, rfl, pm_on1.1, pm_on1.2, Nat.le_of_ble_eq_true rfl⟩
def pm_m136 : pm_M := (⟨"SilentTable$ShortRows", "firstUnlike", "(LSilentTable$ShortRows;)I"⟩, prog_5_method_10_code, 5, (some .int), 19)
set_option maxRecDepth 100000 in
theorem pm_m136_ok : pm_Mok pm_m136 := ⟨⟨List.mem_append_right _ tq_5_1.2.2.1, rfl⟩, ⟨List.mem_append_right _ tq_1_2.2.2.2.2.2.2.1, rfl⟩, rfl, pm_on19.1, pm_on19.2, Nat.le_of_ble_eq_true rfl⟩
def pm_m137 : pm_M := (⟨"SilentTable", "all", "(III)J"⟩, prog_1_method_37_code, 5, (some .long), 1)
set_option maxRecDepth 100000 in
theorem pm_m137_ok : pm_Mok pm_m137 := ⟨⟨List.mem_append_right _ tq_5_1.2.2.2.2.2.2.1, rfl⟩, ⟨List.mem_append_right _ tq_1_0.2.1, rfl⟩, rfl, pm_on1.1, pm_on1.2, Nat.le_of_ble_eq_true rfl⟩
def pm_m138 : pm_M := (⟨"SilentTable", "meal", "(II)I"⟩, prog_1_method_42_code, 4, (some .int), 1)
set_option maxRecDepth 100000 in
theorem pm_m138_ok : pm_Mok pm_m138 := ⟨⟨List.mem_append_right _ tq_5_2.2.2.2.1, rfl⟩, ⟨List.mem_append_right _ tq_1_0.2.1, rfl⟩, rfl, pm_on1.1, pm_on1.2, Nat.le_of_ble_eq_true rfl⟩
def pm_m139 : pm_M := (⟨"SilentTable", "mealAt", "(I)LSilentTable$Meal;"⟩, prog_1_method_12_code, 2, (some (.object "SilentTable$Meal")), 1)
set_option maxRecDepth 100000 in
theorem pm_m139_ok : pm_Mok pm_m139 := ⟨⟨List.mem_append_right _ tq_5_2.2.2.2.2.2.2.2.1, rfl⟩, ⟨List.mem_append_right _ tq_1_0.2.1, rfl⟩, rfl, pm_on1.1, pm_on1.2, Nat.le_of_ble_eq_true rfl⟩
def pm_m140 : pm_M := (⟨"SilentTable$Meal", "signCount", "(Z)I"⟩, prog_3_method_7_code, 4, (some .int), 14)
set_option maxRecDepth 100000 in
theorem pm_m140_ok : pm_Mok pm_m140 := ⟨⟨List.mem_append_right _ tq_5_3.2.2.2.1, rfl⟩, ⟨List.mem_append_right _ tq_1_2.2.1, rfl⟩, rfl, pm_on14.1, pm_on14.2, Nat.le_of_ble_eq_true rfl⟩
def pm_m141 : pm_M := (⟨"SilentTable", "deed", "(III)I"⟩, prog_1_method_43_code, 5, (some .int), 1)
set_option maxRecDepth 100000 in
theorem pm_m141_ok : pm_Mok pm_m141 := ⟨⟨List.mem_append_right _ tq_5_3.2.2.2.2.2.2.2.1, rfl⟩, ⟨List.mem_append_right _ tq_1_0.2.1, rfl⟩, rfl, pm_on1.1, pm_on1.2, Nat.le_of_ble_eq_true rfl⟩
def pm_m142 : pm_M := (⟨"SilentTable", "looks", "(III)I"⟩, prog_1_method_44_code, 5, (some .int), 1)
set_option maxRecDepth 100000 in
theorem pm_m142_ok : pm_Mok pm_m142 := ⟨⟨List.mem_append_right _ tq_5_4.2.2.2.1, rfl⟩, ⟨List.mem_append_right _ tq_1_0.2.1, rfl⟩, rfl, pm_on1.1, pm_on1.2, Nat.le_of_ble_eq_true rfl⟩
def pm_m143 : pm_M := (⟨"SilentTable$Meal", "hasSeat", "(I)Z"⟩, prog_3_method_3_code, 2, (some .boolean), 14)
set_option maxRecDepth 100000 in
theorem pm_m143_ok : pm_Mok pm_m143 := ⟨⟨List.mem_append_right _ tq_5_4.2.2.2.2.2.2.2.1, rfl⟩, ⟨List.mem_append_right _ tq_1_2.2.1, rfl⟩, rfl, pm_on14.1, pm_on14.2, Nat.le_of_ble_eq_true rfl⟩
def pm_m144 : pm_M := (⟨"SilentTable", "caught", "(IIII)I"⟩, prog_1_method_45_code, 7, (some .int), 1)
set_option maxRecDepth 100000 in
theorem pm_m144_ok : pm_Mok pm_m144 := ⟨⟨List.mem_append_right _ tq_5_5.2.2.2.1, rfl⟩, ⟨List.mem_append_right _ tq_1_0.2.1, rfl⟩, rfl, pm_on1.1, pm_on1.2, Nat.le_of_ble_eq_true rfl⟩
def pm_m145 : pm_M := (⟨"SilentTable$Meal", "canHear", "(II)Z"⟩, prog_3_method_8_code, 3, (some .boolean), 14)
set_option maxRecDepth 100000 in
theorem pm_m145_ok : pm_Mok pm_m145 := ⟨⟨List.mem_append_right _ tq_5_5.2.2.2.2.2.2.2.1, rfl⟩, ⟨List.mem_append_right _ tq_1_2.2.1, rfl⟩, rfl, pm_on14.1, pm_on14.2, Nat.le_of_ble_eq_true rfl⟩
def pm_m146 : pm_M := (⟨"SilentTable$Meal", "hear", "(II[I)I"⟩, prog_3_method_9_code, 6, (some .int), 14)
set_option maxRecDepth 100000 in
theorem pm_m146_ok : pm_Mok pm_m146 := ⟨⟨List.mem_append_right _ tq_5_6.2.2.2.2.1, rfl⟩, ⟨List.mem_append_right _ tq_1_2.2.1, rfl⟩, rfl, pm_on14.1, pm_on14.2, Nat.le_of_ble_eq_true rfl⟩
def pm_m147 : pm_M := (⟨"SilentTable$Meal", "signOf", "(I)I"⟩, prog_3_method_6_code, 2, (some .int), 14)
set_option maxRecDepth 100000 in
theorem pm_m147_ok : pm_Mok pm_m147 := ⟨⟨List.mem_append_right _ tq_5_7.1, rfl⟩, ⟨List.mem_append_right _ tq_1_2.2.1, rfl⟩, rfl, pm_on14.1, pm_on14.2, Nat.le_of_ble_eq_true rfl⟩
def pm_m148 : pm_M := (⟨"SilentTable", "knows", "(IIIII)I"⟩, prog_1_method_46_code, 8, (some .int), 1)
set_option maxRecDepth 100000 in
theorem pm_m148_ok : pm_Mok pm_m148 := ⟨⟨List.mem_append_right _ tq_5_7.2.2.2.2.1, rfl⟩, ⟨List.mem_append_right _ tq_1_0.2.1, rfl⟩, rfl, pm_on1.1, pm_on1.2, Nat.le_of_ble_eq_true rfl⟩
def pm_m149 : pm_M := (⟨"SilentTable", "heardMeanings", "(LSilentTable$SignList;LSilentTable$Meal;II)J"⟩, prog_1_method_48_code, 7, (some .long), 1)
set_option maxRecDepth 100000 in
theorem pm_m149_ok : pm_Mok pm_m149 := ⟨⟨List.mem_append_right _ tq_5_8.1, rfl⟩, ⟨List.mem_append_right _ tq_1_0.2.1, rfl⟩, rfl, pm_on1.1, pm_on1.2, Nat.le_of_ble_eq_true rfl⟩
def pm_m150 : pm_M := (⟨"SilentTable", "sure", "(III)I"⟩, prog_1_method_47_code, 10, (some .int), 1)
set_option maxRecDepth 100000 in
theorem pm_m150_ok : pm_Mok pm_m150 := ⟨⟨List.mem_append_right _ tq_5_8.2.2.2.2.1, rfl⟩, ⟨List.mem_append_right _ tq_1_0.2.1, rfl⟩, rfl, pm_on1.1, pm_on1.2, Nat.le_of_ble_eq_true rfl⟩
def pm_m151 : pm_M := (⟨"SilentTable", "passed", "(III)I"⟩, prog_1_method_49_code, 4, (some .int), 1)
set_option maxRecDepth 100000 in
theorem pm_m151_ok : pm_Mok pm_m151 := ⟨⟨List.mem_append_right _ tq_5_9.1, rfl⟩, ⟨List.mem_append_right _ tq_1_0.2.1, rfl⟩, rfl, pm_on1.1, pm_on1.2, Nat.le_of_ble_eq_true rfl⟩
def pm_m152 : pm_M := (⟨"SilentTable", "handsOver", "(III)I"⟩, prog_1_method_50_code, 5, (some .int), 1)
set_option maxRecDepth 100000 in
theorem pm_m152_ok : pm_Mok pm_m152 := ⟨⟨List.mem_append_right _ tq_5_9.2.2.2.2.1, rfl⟩, ⟨List.mem_append_right _ tq_1_0.2.1, rfl⟩, rfl, pm_on1.1, pm_on1.2, Nat.le_of_ble_eq_true rfl⟩
def pm_m153 : pm_M := (⟨"SilentTable$Meal", "fewestHands", "(II)I"⟩, prog_3_method_10_code, 5, (some .int), 14)
set_option maxRecDepth 100000 in
theorem pm_m153_ok : pm_Mok pm_m153 := ⟨⟨List.mem_append_right _ tq_5_10.1, rfl⟩, ⟨List.mem_append_right _ tq_1_2.2.1, rfl⟩, rfl, pm_on14.1, pm_on14.2, Nat.le_of_ble_eq_true rfl⟩
def pm_m154 : pm_M := (⟨"SilentTable$Meal", "passOn", "(I)I"⟩, prog_3_method_11_code, 4, (some .int), 14)
set_option maxRecDepth 100000 in
theorem pm_m154_ok : pm_Mok pm_m154 := ⟨⟨List.mem_append_right _ tq_5_10.2.2.2.2.1, rfl⟩, ⟨List.mem_append_right _ tq_1_2.2.1, rfl⟩, rfl, pm_on14.1, pm_on14.2, Nat.le_of_ble_eq_true rfl⟩
def pm_m155 : pm_M := (⟨"SilentTable", "reaches", "(IIIII)Z"⟩, prog_1_method_51_code, 11, (some .boolean), 1)
set_option maxRecDepth 100000 in
theorem pm_m155_ok : pm_Mok pm_m155 := ⟨⟨List.mem_append_right _ tq_5_11.1, rfl⟩, ⟨List.mem_append_right _ tq_1_0.2.1, rfl⟩, rfl, pm_on1.1, pm_on1.2, Nat.le_of_ble_eq_true rfl⟩
def pm_m156 : pm_M := (⟨"SilentTable", "asks", "(IIIIII)I"⟩, prog_1_method_52_code, 8, (some .int), 1)
set_option maxRecDepth 100000 in
theorem pm_m156_ok : pm_Mok pm_m156 := ⟨⟨List.mem_append_right _ tq_5_11.2.2.2.2.1, rfl⟩, ⟨List.mem_append_right _ tq_1_0.2.1, rfl⟩, rfl, pm_on1.1, pm_on1.2, Nat.le_of_ble_eq_true rfl⟩
def pm_m157 : pm_M := (⟨"SilentTable", "watch", "(IIZ)I"⟩, prog_1_method_53_code, 9, (some .int), 1)
set_option maxRecDepth 100000 in
theorem pm_m157_ok : pm_Mok pm_m157 := ⟨⟨List.mem_append_right _ tq_5_12.1, rfl⟩, ⟨List.mem_append_right _ tq_1_0.2.1, rfl⟩, rfl, pm_on1.1, pm_on1.2, Nat.le_of_ble_eq_true rfl⟩
def pm_m158 : pm_M := (⟨"SilentTable", "hears", "(II)I"⟩, prog_1_method_54_code, 4, (some .int), 1)
set_option maxRecDepth 100000 in
theorem pm_m158_ok : pm_Mok pm_m158 := ⟨⟨List.mem_append_right _ tq_5_12.2.2.2.2.1, rfl⟩, ⟨List.mem_append_right _ tq_1_0.2.1, rfl⟩, rfl, pm_on1.1, pm_on1.2, Nat.le_of_ble_eq_true rfl⟩
def pm_m159 : pm_M := (⟨"SilentTable$Meal", "loudest", "()I"⟩, prog_3_method_12_code, 6, (some .int), 14)
set_option maxRecDepth 100000 in
theorem pm_m159_ok : pm_Mok pm_m159 := ⟨⟨List.mem_append_right _ tq_5_13.1, rfl⟩, ⟨List.mem_append_right _ tq_1_2.2.1, rfl⟩, rfl, pm_on14.1, pm_on14.2, Nat.le_of_ble_eq_true rfl⟩
def pm_m160 : pm_M := (⟨"SilentTable$Meal", "blindSigns", "()I"⟩, prog_3_method_13_code, 3, (some .int), 14)
set_option maxRecDepth 100000 in
theorem pm_m160_ok : pm_Mok pm_m160 := ⟨⟨List.mem_append_right _ tq_5_13.2.2.2.2.1, rfl⟩, ⟨List.mem_append_right _ tq_1_2.2.1, rfl⟩, rfl, pm_on14.1, pm_on14.2, Nat.le_of_ble_eq_true rfl⟩
def pm_m161 : pm_M := (⟨"SilentTable$Meal", "eyesOf", "(I)I"⟩, prog_3_method_14_code, 4, (some .int), 14)
set_option maxRecDepth 100000 in
theorem pm_m161_ok : pm_Mok pm_m161 := ⟨⟨List.mem_append_right _ tq_5_14.1, rfl⟩, ⟨List.mem_append_right _ tq_1_2.2.1, rfl⟩, rfl, pm_on14.1, pm_on14.2, Nat.le_of_ble_eq_true rfl⟩
def pm_m162 : pm_M := (⟨"SilentTable", "law", "(III)I"⟩, prog_1_method_55_code, 5, (some .int), 1)
set_option maxRecDepth 100000 in
theorem pm_m162_ok : pm_Mok pm_m162 := ⟨⟨List.mem_append_right _ tq_5_14.2.2.2.2.1, rfl⟩, ⟨List.mem_append_right _ tq_1_0.2.1, rfl⟩, rfl, pm_on1.1, pm_on1.2, Nat.le_of_ble_eq_true rfl⟩
def pm_m163 : pm_M := (⟨"SilentTable", "houseAt", "(I)LSilentTable$House;"⟩, prog_1_method_13_code, 2, (some (.object "SilentTable$House")), 1)
set_option maxRecDepth 100000 in
theorem pm_m163_ok : pm_Mok pm_m163 := ⟨⟨List.mem_append_right _ tq_5_15.1, rfl⟩, ⟨List.mem_append_right _ tq_1_0.2.1, rfl⟩, rfl, pm_on1.1, pm_on1.2, Nat.le_of_ble_eq_true rfl⟩
def pm_m164 : pm_M := (⟨"SilentTable", "breaks", "(III)I"⟩, prog_1_method_56_code, 7, (some .int), 1)
set_option maxRecDepth 100000 in
theorem pm_m164_ok : pm_Mok pm_m164 := ⟨⟨List.mem_append_right _ tq_5_15.2.2.2.2.1, rfl⟩, ⟨List.mem_append_right _ tq_1_0.2.1, rfl⟩, rfl, pm_on1.1, pm_on1.2, Nat.le_of_ble_eq_true rfl⟩
def pm_m165 : pm_M := (⟨"SilentTable$House", "judge", "(LSilentTable$Meal;[I)V"⟩, prog_2_method_2_code, 7, none, 15)
set_option maxRecDepth 100000 in
theorem pm_m165_ok : pm_Mok pm_m165 := ⟨⟨List.mem_append_right _ tq_5_16.1, rfl⟩, ⟨List.mem_append_right _ tq_1_2.2.2.1, rfl⟩, rfl, pm_on15.1, pm_on15.2, Nat.le_of_ble_eq_true rfl⟩
def pm_m166 : pm_M := (⟨"SilentTable$House", "isBroken", "(ILSilentTable$Meal;I[I[I)Z"⟩, prog_2_method_3_code, 10, (some .boolean), 15)
set_option maxRecDepth 100000 in
theorem pm_m166_ok : pm_Mok pm_m166 := ⟨⟨List.mem_append_right _ tq_5_16.2.2.2.2.2.2.1, rfl⟩, ⟨List.mem_append_right _ tq_1_2.2.2.1, rfl⟩, rfl, pm_on15.1, pm_on15.2, Nat.le_of_ble_eq_true rfl⟩
def pm_m167 : pm_M := (⟨"SilentTable", "sins", "(III)I"⟩, prog_1_method_57_code, 8, (some .int), 1)
set_option maxRecDepth 100000 in
theorem pm_m167_ok : pm_Mok pm_m167 := ⟨⟨List.mem_append_right _ tq_5_17.2.2.2.2.2.1, rfl⟩, ⟨List.mem_append_right _ tq_1_0.2.1, rfl⟩, rfl, pm_on1.1, pm_on1.2, Nat.le_of_ble_eq_true rfl⟩
def pm_m168 : pm_M := (⟨"SilentTable", "mildest", "(II)I"⟩, prog_1_method_58_code, 9, (some .int), 1)
set_option maxRecDepth 100000 in
theorem pm_m168_ok : pm_Mok pm_m168 := ⟨⟨List.mem_append_right _ tq_5_18.2.1, rfl⟩, ⟨List.mem_append_right _ tq_1_0.2.1, rfl⟩, rfl, pm_on1.1, pm_on1.2, Nat.le_of_ble_eq_true rfl⟩
def pm_m169 : pm_M := (⟨"SilentTable", "deedsBreaking", "(II)I"⟩, prog_1_method_59_code, 5, (some .int), 1)
set_option maxRecDepth 100000 in
theorem pm_m169_ok : pm_Mok pm_m169 := ⟨⟨List.mem_append_right _ tq_5_18.2.2.2.2.2.1, rfl⟩, ⟨List.mem_append_right _ tq_1_0.2.1, rfl⟩, rfl, pm_on1.1, pm_on1.2, Nat.le_of_ble_eq_true rfl⟩
def pm_m170 : pm_M := (⟨"SilentTableModel", "<init>", "()V"⟩, prog_14_method_1_code, 1, none, 20)
set_option maxRecDepth 100000 in
theorem pm_m170_ok : pm_Mok pm_m170 := ⟨⟨List.mem_append_right _ tq_5_19.2.2.1, rfl⟩, ⟨List.mem_append_right _ tq_1_0.2.2.2.2.2.2.2.1, rfl⟩, rfl, pm_on20.1, pm_on20.2, Nat.le_of_ble_eq_true rfl⟩
def pm_m171 : pm_M := (⟨"SilentTableModel", "feed", "(IIIII)I"⟩, prog_14_method_9_code, 6, (some .int), 20)
set_option maxRecDepth 100000 in
theorem pm_m171_ok : pm_Mok pm_m171 := ⟨⟨List.mem_append_right _ tq_6_10.2.1, rfl⟩, ⟨List.mem_append_right _ tq_1_0.2.2.2.2.2.2.2.1, rfl⟩, rfl, pm_on20.1, pm_on20.2, Nat.le_of_ble_eq_true rfl⟩
def pm_m172 : pm_M := (⟨"SilentTableModel", "four", "(I)V"⟩, prog_14_method_10_code, 3, none, 20)
set_option maxRecDepth 100000 in
theorem pm_m172_ok : pm_Mok pm_m172 := ⟨⟨List.mem_append_right _ tq_6_10.2.2.2.2.2.1, rfl⟩, ⟨List.mem_append_right _ tq_1_0.2.2.2.2.2.2.2.1, rfl⟩, rfl, pm_on20.1, pm_on20.2, Nat.le_of_ble_eq_true rfl⟩
def pm_m173 : pm_M := (⟨"SilentTableModel", "end", "(I)I"⟩, prog_14_method_11_code, 2, (some .int), 20)
set_option maxRecDepth 100000 in
theorem pm_m173_ok : pm_Mok pm_m173 := ⟨⟨List.mem_append_right _ tq_6_11.2.1, rfl⟩, ⟨List.mem_append_right _ tq_1_0.2.2.2.2.2.2.2.1, rfl⟩, rfl, pm_on20.1, pm_on20.2, Nat.le_of_ble_eq_true rfl⟩
def pm_m174 : pm_M := (⟨"SilentTableModel", "in", "(III)Z"⟩, prog_14_method_3_code, 3, (some .boolean), 20)
set_option maxRecDepth 100000 in
theorem pm_m174_ok : pm_Mok pm_m174 := ⟨⟨List.mem_append_right _ tq_6_11.2.2.2.2.1, rfl⟩, ⟨List.mem_append_right _ tq_1_0.2.2.2.2.2.2.2.1, rfl⟩, rfl, pm_on20.1, pm_on20.2, Nat.le_of_ble_eq_true rfl⟩
def pm_m175 : pm_M := (⟨"SilentTableModel", "text", "(II)I"⟩, prog_14_method_28_code, 4, (some .int), 20)
set_option maxRecDepth 100000 in
theorem pm_m175_ok : pm_Mok pm_m175 := ⟨⟨List.mem_append_right _ tq_6_12.1, rfl⟩, ⟨List.mem_append_right _ tq_1_0.2.2.2.2.2.2.2.1, rfl⟩, rfl, pm_on20.1, pm_on20.2, Nat.le_of_ble_eq_true rfl⟩
def pm_m176 : pm_M := (⟨"SilentTableModel", "mostOf", "(I)I"⟩, prog_14_method_8_code, 1, (some .int), 20)
set_option maxRecDepth 100000 in
theorem pm_m176_ok : pm_Mok pm_m176 := ⟨⟨List.mem_append_right _ tq_6_12.2.2.2.1, rfl⟩, ⟨List.mem_append_right _ tq_1_0.2.2.2.2.2.2.2.1, rfl⟩, rfl, pm_on20.1, pm_on20.2, Nat.le_of_ble_eq_true rfl⟩
def pm_m177 : pm_M := (⟨"SilentTableModel", "is", "(II)Z"⟩, prog_14_method_7_code, 3, (some .boolean), 20)
set_option maxRecDepth 100000 in
theorem pm_m177_ok : pm_Mok pm_m177 := ⟨⟨List.mem_append_right _ tq_6_12.2.2.2.2.2.2.2.1, rfl⟩, ⟨List.mem_append_right _ tq_1_0.2.2.2.2.2.2.2.1, rfl⟩, rfl, pm_on20.1, pm_on20.2, Nat.le_of_ble_eq_true rfl⟩
def pm_m178 : pm_M := (⟨"SilentTableModel", "readText", "(I)Z"⟩, prog_14_method_26_code, 4, (some .boolean), 20)
set_option maxRecDepth 100000 in
theorem pm_m178_ok : pm_Mok pm_m178 := ⟨⟨List.mem_append_right _ tq_6_13.2.2.2.1, rfl⟩, ⟨List.mem_append_right _ tq_1_0.2.2.2.2.2.2.2.1, rfl⟩, rfl, pm_on20.1, pm_on20.2, Nat.le_of_ble_eq_true rfl⟩
def pm_m179 : pm_M := (⟨"SilentTableModel", "token", "()V"⟩, prog_14_method_13_code, 3, none, 20)
set_option maxRecDepth 100000 in
theorem pm_m179_ok : pm_Mok pm_m179 := ⟨⟨List.mem_append_right _ tq_6_13.2.2.2.2.2.2.2.1, rfl⟩, ⟨List.mem_append_right _ tq_1_0.2.2.2.2.2.2.2.1, rfl⟩, rfl, pm_on20.1, pm_on20.2, Nat.le_of_ble_eq_true rfl⟩
def pm_m180 : pm_M := (⟨"SilentTableModel", "see", "()I"⟩, prog_14_method_12_code, 1, (some .int), 20)
set_option maxRecDepth 100000 in
theorem pm_m180_ok : pm_Mok pm_m180 := ⟨⟨List.mem_append_right _ tq_6_14.2.2.2.1, rfl⟩, ⟨List.mem_append_right _ tq_1_0.2.2.2.2.2.2.2.1, rfl⟩, rfl, pm_on20.1, pm_on20.2, Nat.le_of_ble_eq_true rfl⟩
def pm_m181 : pm_M := (⟨"SilentTableModel", "rowText", "()Z"⟩, prog_14_method_24_code, 1, (some .boolean), 20)
set_option maxRecDepth 100000 in
theorem pm_m181_ok : pm_Mok pm_m181 := ⟨⟨List.mem_append_right _ tq_6_14.2.2.2.2.2.2.2.1, rfl⟩, ⟨List.mem_append_right _ tq_1_0.2.2.2.2.2.2.2.1, rfl⟩, rfl, pm_on20.1, pm_on20.2, Nat.le_of_ble_eq_true rfl⟩
def pm_m182 : pm_M := (⟨"SilentTableModel", "later", "(II)V"⟩, prog_14_method_15_code, 3, none, 20)
set_option maxRecDepth 100000 in
theorem pm_m182_ok : pm_Mok pm_m182 := ⟨⟨List.mem_append_right _ tq_6_15.2.2.2.1, rfl⟩, ⟨List.mem_append_right _ tq_1_0.2.2.2.2.2.2.2.1, rfl⟩, rfl, pm_on20.1, pm_on20.2, Nat.le_of_ble_eq_true rfl⟩
def pm_m183 : pm_M := (⟨"SilentTableModel", "take", "(III)Z"⟩, prog_14_method_16_code, 4, (some .boolean), 20)
set_option maxRecDepth 100000 in
theorem pm_m183_ok : pm_Mok pm_m183 := ⟨⟨List.mem_append_right _ tq_6_15.2.2.2.2.2.2.2.1, rfl⟩, ⟨List.mem_append_right _ tq_1_0.2.2.2.2.2.2.2.1, rfl⟩, rfl, pm_on20.1, pm_on20.2, Nat.le_of_ble_eq_true rfl⟩
def pm_m184 : pm_M := (⟨"SilentTableModel", "stops", "()Z"⟩, prog_14_method_14_code, 1, (some .boolean), 20)
set_option maxRecDepth 100000 in
theorem pm_m184_ok : pm_Mok pm_m184 := ⟨⟨List.mem_append_right _ tq_6_16.2.2.2.1, rfl⟩, ⟨List.mem_append_right _ tq_1_0.2.2.2.2.2.2.2.1, rfl⟩, rfl, pm_on20.1, pm_on20.2, Nat.le_of_ble_eq_true rfl⟩
def pm_m185 : pm_M := (⟨"SilentTableModel", "keep", "(IIIII)V"⟩, prog_14_method_18_code, 8, none, 20)
set_option maxRecDepth 100000 in
theorem pm_m185_ok : pm_Mok pm_m185 := ⟨⟨List.mem_append_right _ tq_6_16.2.2.2.2.2.2.2.1, rfl⟩, ⟨List.mem_append_right _ tq_1_0.2.2.2.2.2.2.2.1, rfl⟩, rfl, pm_on20.1, pm_on20.2, Nat.le_of_ble_eq_true rfl⟩
def pm_m186 : pm_M := (⟨"SilentTableModel", "lines", "(I)Z"⟩, prog_14_method_25_code, 6, (some .boolean), 20)
set_option maxRecDepth 100000 in
theorem pm_m186_ok : pm_Mok pm_m186 := ⟨⟨List.mem_append_right _ tq_6_17.2.2.2.1, rfl⟩, ⟨List.mem_append_right _ tq_1_0.2.2.2.2.2.2.2.1, rfl⟩, rfl, pm_on20.1, pm_on20.2, Nat.le_of_ble_eq_true rfl⟩
def pm_m187 : pm_M := (⟨"SilentTableModel", "listLine", "(JI)Z"⟩, prog_14_method_19_code, 4, (some .boolean), 20)
set_option maxRecDepth 100000 in
theorem pm_m187_ok : pm_Mok pm_m187 := ⟨⟨List.mem_append_right _ tq_6_17.2.2.2.2.2.2.2.1, rfl⟩, ⟨List.mem_append_right _ tq_1_0.2.2.2.2.2.2.2.1, rfl⟩, rfl, pm_on20.1, pm_on20.2, Nat.le_of_ble_eq_true rfl⟩
def pm_m188 : pm_M := (⟨"SilentTableModel", "actWord", "()Z"⟩, prog_14_method_17_code, 3, (some .boolean), 20)
set_option maxRecDepth 100000 in
theorem pm_m188_ok : pm_Mok pm_m188 := ⟨⟨List.mem_append_right _ tq_6_18.2.2.2.2.2.2.1, rfl⟩, ⟨List.mem_append_right _ tq_1_0.2.2.2.2.2.2.2.1, rfl⟩, rfl, pm_on20.1, pm_on20.2, Nat.le_of_ble_eq_true rfl⟩
def pm_m189 : pm_M := (⟨"SilentTableModel", "mealLine", "(JI)Z"⟩, prog_14_method_22_code, 5, (some .boolean), 20)
set_option maxRecDepth 100000 in
theorem pm_m189_ok : pm_Mok pm_m189 := ⟨⟨List.mem_append_right _ tq_6_19.2.2.2.2.2.2.2.1, rfl⟩, ⟨List.mem_append_right _ tq_1_0.2.2.2.2.2.2.2.1, rfl⟩, rfl, pm_on20.1, pm_on20.2, Nat.le_of_ble_eq_true rfl⟩
def pm_m190 : pm_M := (⟨"SilentTableModel", "clearRead", "()V"⟩, prog_14_method_20_code, 2, none, 20)
set_option maxRecDepth 100000 in
theorem pm_m190_ok : pm_Mok pm_m190 := ⟨⟨List.mem_append_right _ tq_6_20.2.2.2.2.2.2.2.1, rfl⟩, ⟨List.mem_append_right _ tq_1_0.2.2.2.2.2.2.2.1, rfl⟩, rfl, pm_on20.1, pm_on20.2, Nat.le_of_ble_eq_true rfl⟩
def pm_m191 : pm_M := (⟨"SilentTableModel", "seat", "(II)Z"⟩, prog_14_method_21_code, 4, (some .boolean), 20)
set_option maxRecDepth 100000 in
theorem pm_m191_ok : pm_Mok pm_m191 := ⟨⟨List.mem_append_right _ tq_6_21.2.2.2.1, rfl⟩, ⟨List.mem_append_right _ tq_1_0.2.2.2.2.2.2.2.1, rfl⟩, rfl, pm_on20.1, pm_on20.2, Nat.le_of_ble_eq_true rfl⟩
def pm_m192 : pm_M := (⟨"SilentTableModel", "houseLine", "(JI)Z"⟩, prog_14_method_23_code, 5, (some .boolean), 20)
set_option maxRecDepth 100000 in
theorem pm_m192_ok : pm_Mok pm_m192 := ⟨⟨List.mem_append_right _ tq_6_21.2.2.2.2.2.2.2.1, rfl⟩, ⟨List.mem_append_right _ tq_1_0.2.2.2.2.2.2.2.1, rfl⟩, rfl, pm_on20.1, pm_on20.2, Nat.le_of_ble_eq_true rfl⟩
def pm_m193 : pm_M := (⟨"SilentTableModel", "store", "([III)V"⟩, prog_14_method_27_code, 5, none, 20)
set_option maxRecDepth 100000 in
theorem pm_m193_ok : pm_Mok pm_m193 := ⟨⟨List.mem_append_right _ tq_6_23.2.1, rfl⟩, ⟨List.mem_append_right _ tq_1_0.2.2.2.2.2.2.2.1, rfl⟩, rfl, pm_on20.1, pm_on20.2, Nat.le_of_ble_eq_true rfl⟩
def pm_m194 : pm_M := (⟨"SilentTableModel", "fault", "(I)I"⟩, prog_14_method_29_code, 2, (some .int), 20)
set_option maxRecDepth 100000 in
theorem pm_m194_ok : pm_Mok pm_m194 := ⟨⟨List.mem_append_right _ tq_6_23.2.2.2.2.2.1, rfl⟩, ⟨List.mem_append_right _ tq_1_0.2.2.2.2.2.2.2.1, rfl⟩, rfl, pm_on20.1, pm_on20.2, Nat.le_of_ble_eq_true rfl⟩
def pm_m195 : pm_M := (⟨"SilentTableModel", "list", "(II)I"⟩, prog_14_method_30_code, 3, (some .int), 20)
set_option maxRecDepth 100000 in
theorem pm_m195_ok : pm_Mok pm_m195 := ⟨⟨List.mem_append_right _ tq_6_24.2.1, rfl⟩, ⟨List.mem_append_right _ tq_1_0.2.2.2.2.2.2.2.1, rfl⟩, rfl, pm_on20.1, pm_on20.2, Nat.le_of_ble_eq_true rfl⟩
def pm_m196 : pm_M := (⟨"SilentTableModel", "rule", "(III)I"⟩, prog_14_method_31_code, 4, (some .int), 20)
set_option maxRecDepth 100000 in
theorem pm_m196_ok : pm_Mok pm_m196 := ⟨⟨List.mem_append_right _ tq_6_24.2.2.2.2.2.1, rfl⟩, ⟨List.mem_append_right _ tq_1_0.2.2.2.2.2.2.2.1, rfl⟩, rfl, pm_on20.1, pm_on20.2, Nat.le_of_ble_eq_true rfl⟩
def pm_m197 : pm_M := (⟨"SilentTableModel", "reading", "(III)I"⟩, prog_14_method_32_code, 4, (some .int), 20)
set_option maxRecDepth 100000 in
theorem pm_m197_ok : pm_Mok pm_m197 := ⟨⟨List.mem_append_right _ tq_6_25.2.1, rfl⟩, ⟨List.mem_append_right _ tq_1_0.2.2.2.2.2.2.2.1, rfl⟩, rfl, pm_on20.1, pm_on20.2, Nat.le_of_ble_eq_true rfl⟩
def pm_m198 : pm_M := (⟨"SilentTableModel", "row", "(II)I"⟩, prog_14_method_33_code, 3, (some .int), 20)
set_option maxRecDepth 100000 in
theorem pm_m198_ok : pm_Mok pm_m198 := ⟨⟨List.mem_append_right _ tq_6_25.2.2.2.2.2.1, rfl⟩, ⟨List.mem_append_right _ tq_1_0.2.2.2.2.2.2.2.1, rfl⟩, rfl, pm_on20.1, pm_on20.2, Nat.le_of_ble_eq_true rfl⟩
def pm_m199 : pm_M := (⟨"SilentTableModel", "trees", "(IIIII)J"⟩, prog_14_method_54_code, 6, (some .long), 20)
set_option maxRecDepth 100000 in
theorem pm_m199_ok : pm_Mok pm_m199 := ⟨⟨List.mem_append_right _ tq_6_26.2.1, rfl⟩, ⟨List.mem_append_right _ tq_1_0.2.2.2.2.2.2.2.1, rfl⟩, rfl, pm_on20.1, pm_on20.2, Nat.le_of_ble_eq_true rfl⟩
def pm_m200 : pm_M := (⟨"SilentTableModel", "isRow", "(II)Z"⟩, prog_14_method_53_code, 3, (some .boolean), 20)
set_option maxRecDepth 100000 in
theorem pm_m200_ok : pm_Mok pm_m200 := ⟨⟨List.mem_append_right _ tq_6_26.2.2.2.2.2.1, rfl⟩, ⟨List.mem_append_right _ tq_1_0.2.2.2.2.2.2.2.1, rfl⟩, rfl, pm_on20.1, pm_on20.2, Nat.le_of_ble_eq_true rfl⟩
def pm_m201 : pm_M := (⟨"SilentTableModel", "lay", "(II)V"⟩, prog_14_method_40_code, 4, none, 20)
set_option maxRecDepth 100000 in
theorem pm_m201_ok : pm_Mok pm_m201 := ⟨⟨List.mem_append_right _ tq_6_27.2.1, rfl⟩, ⟨List.mem_append_right _ tq_1_0.2.2.2.2.2.2.2.1, rfl⟩, rfl, pm_on20.1, pm_on20.2, Nat.le_of_ble_eq_true rfl⟩
def pm_m202 : pm_M := (⟨"SilentTableModel", "findCounts", "()V"⟩, prog_14_method_50_code, 6, none, 20)
set_option maxRecDepth 100000 in
theorem pm_m202_ok : pm_Mok pm_m202 := ⟨⟨List.mem_append_right _ tq_6_27.2.2.2.2.2.2.1, rfl⟩, ⟨List.mem_append_right _ tq_1_0.2.2.2.2.2.2.2.1, rfl⟩, rfl, pm_on20.1, pm_on20.2, Nat.le_of_ble_eq_true rfl⟩
def pm_m203 : pm_M := (⟨"SilentTableModel", "readings", "()I"⟩, prog_14_method_37_code, 1, (some .int), 20)
set_option maxRecDepth 100000 in
theorem pm_m203_ok : pm_Mok pm_m203 := ⟨⟨List.mem_append_right _ tq_6_28.2.2.1, rfl⟩, ⟨List.mem_append_right _ tq_1_0.2.2.2.2.2.2.2.1, rfl⟩, rfl, pm_on20.1, pm_on20.2, Nat.le_of_ble_eq_true rfl⟩
def pm_m204 : pm_M := (⟨"SilentTableModel", "stands", "(II)Z"⟩, prog_14_method_44_code, 3, (some .boolean), 20)
set_option maxRecDepth 100000 in
theorem pm_m204_ok : pm_Mok pm_m204 := ⟨⟨List.mem_append_right _ tq_6_28.2.2.2.2.2.2.1, rfl⟩, ⟨List.mem_append_right _ tq_1_0.2.2.2.2.2.2.2.1, rfl⟩, rfl, pm_on20.1, pm_on20.2, Nat.le_of_ble_eq_true rfl⟩
def pm_m205 : pm_M := (⟨"SilentTableModel", "readingOf", "(II)I"⟩, prog_14_method_38_code, 3, (some .int), 20)
set_option maxRecDepth 100000 in
theorem pm_m205_ok : pm_Mok pm_m205 := ⟨⟨List.mem_append_right _ tq_6_29.2.2.1, rfl⟩, ⟨List.mem_append_right _ tq_1_0.2.2.2.2.2.2.2.1, rfl⟩, rfl, pm_on20.1, pm_on20.2, Nat.le_of_ble_eq_true rfl⟩
def pm_m206 : pm_M := (⟨"SilentTableModel", "has", "(JI)Z"⟩, prog_14_method_4_code, 3, (some .boolean), 20)
set_option maxRecDepth 100000 in
theorem pm_m206_ok : pm_Mok pm_m206 := ⟨⟨List.mem_append_right _ tq_6_29.2.2.2.2.2.1, rfl⟩, ⟨List.mem_append_right _ tq_1_0.2.2.2.2.2.2.2.1, rfl⟩, rfl, pm_on20.1, pm_on20.2, Nat.le_of_ble_eq_true rfl⟩
def pm_m207 : pm_M := (⟨"SilentTableModel", "cell", "(III)I"⟩, prog_14_method_34_code, 3, (some .int), 20)
set_option maxRecDepth 100000 in
theorem pm_m207_ok : pm_Mok pm_m207 := ⟨⟨List.mem_append_right _ tq_7_0.1, rfl⟩, ⟨List.mem_append_right _ tq_1_0.2.2.2.2.2.2.2.1, rfl⟩, rfl, pm_on20.1, pm_on20.2, Nat.le_of_ble_eq_true rfl⟩
def pm_m208 : pm_M := (⟨"SilentTableModel", "countsOf", "(III)J"⟩, prog_14_method_52_code, 8, (some .long), 20)
set_option maxRecDepth 100000 in
theorem pm_m208_ok : pm_Mok pm_m208 := ⟨⟨List.mem_append_right _ tq_7_0.2.2.2.2.1, rfl⟩, ⟨List.mem_append_right _ tq_1_0.2.2.2.2.2.2.2.1, rfl⟩, rfl, pm_on20.1, pm_on20.2, Nat.le_of_ble_eq_true rfl⟩
def pm_m209 : pm_M := (⟨"SilentTableModel", "rules", "()I"⟩, prog_14_method_35_code, 1, (some .int), 20)
set_option maxRecDepth 100000 in
theorem pm_m209_ok : pm_Mok pm_m209 := ⟨⟨List.mem_append_right _ tq_7_1.1, rfl⟩, ⟨List.mem_append_right _ tq_1_0.2.2.2.2.2.2.2.1, rfl⟩, rfl, pm_on20.1, pm_on20.2, Nat.le_of_ble_eq_true rfl⟩
def pm_m210 : pm_M := (⟨"SilentTableModel", "ruleOf", "(II)I"⟩, prog_14_method_36_code, 3, (some .int), 20)
set_option maxRecDepth 100000 in
theorem pm_m210_ok : pm_Mok pm_m210 := ⟨⟨List.mem_append_right _ tq_7_1.2.2.2.2.1, rfl⟩, ⟨List.mem_append_right _ tq_1_0.2.2.2.2.2.2.2.1, rfl⟩, rfl, pm_on20.1, pm_on20.2, Nat.le_of_ble_eq_true rfl⟩
def pm_m211 : pm_M := (⟨"SilentTableModel", "countBy", "(IIII)J"⟩, prog_14_method_51_code, 5, (some .long), 20)
set_option maxRecDepth 100000 in
theorem pm_m211_ok : pm_Mok pm_m211 := ⟨⟨List.mem_append_right _ tq_7_2.1, rfl⟩, ⟨List.mem_append_right _ tq_1_0.2.2.2.2.2.2.2.1, rfl⟩, rfl, pm_on20.1, pm_on20.2, Nat.le_of_ble_eq_true rfl⟩
def pm_m212 : pm_M := (⟨"SilentTableModel", "product", "(JJ)J"⟩, prog_14_method_49_code, 4, (some .long), 20)
set_option maxRecDepth 100000 in
theorem pm_m212_ok : pm_Mok pm_m212 := ⟨⟨List.mem_append_right _ tq_7_2.2.2.2.1, rfl⟩, ⟨List.mem_append_right _ tq_1_0.2.2.2.2.2.2.2.1, rfl⟩, rfl, pm_on20.1, pm_on20.2, Nat.le_of_ble_eq_true rfl⟩
def pm_m213 : pm_M := (⟨"SilentTableModel", "sum", "(JJ)J"⟩, prog_14_method_48_code, 4, (some .long), 20)
set_option maxRecDepth 100000 in
theorem pm_m213_ok : pm_Mok pm_m213 := ⟨⟨List.mem_append_right _ tq_7_2.2.2.2.2.2.2.2.1, rfl⟩, ⟨List.mem_append_right _ tq_1_0.2.2.2.2.2.2.2.1, rfl⟩, rfl, pm_on20.1, pm_on20.2, Nat.le_of_ble_eq_true rfl⟩
def pm_m214 : pm_M := (⟨"SilentTableModel", "means", "(III)I"⟩, prog_14_method_57_code, 4, (some .int), 20)
set_option maxRecDepth 100000 in
theorem pm_m214_ok : pm_Mok pm_m214 := ⟨⟨List.mem_append_right _ tq_7_3.2.2.2.1, rfl⟩, ⟨List.mem_append_right _ tq_1_0.2.2.2.2.2.2.2.1, rfl⟩, rfl, pm_on20.1, pm_on20.2, Nat.le_of_ble_eq_true rfl⟩
def pm_m215 : pm_M := (⟨"SilentTableModel", "meanings", "()J"⟩, prog_14_method_47_code, 1, (some .long), 20)
set_option maxRecDepth 100000 in
theorem pm_m215_ok : pm_Mok pm_m215 := ⟨⟨List.mem_append_right _ tq_7_3.2.2.2.2.2.2.2.1, rfl⟩, ⟨List.mem_append_right _ tq_1_0.2.2.2.2.2.2.2.1, rfl⟩, rfl, pm_on20.1, pm_on20.2, Nat.le_of_ble_eq_true rfl⟩
def pm_m216 : pm_M := (⟨"SilentTableModel", "findValues", "()V"⟩, prog_14_method_45_code, 6, none, 20)
set_option maxRecDepth 100000 in
theorem pm_m216_ok : pm_Mok pm_m216 := ⟨⟨List.mem_append_right _ tq_7_4.2.2.2.1, rfl⟩, ⟨List.mem_append_right _ tq_1_0.2.2.2.2.2.2.2.1, rfl⟩, rfl, pm_on20.1, pm_on20.2, Nat.le_of_ble_eq_true rfl⟩
def pm_m217 : pm_M := (⟨"SilentTableModel", "valuesOf", "(III)J"⟩, prog_14_method_46_code, 8, (some .long), 20)
set_option maxRecDepth 100000 in
theorem pm_m217_ok : pm_Mok pm_m217 := ⟨⟨List.mem_append_right _ tq_7_4.2.2.2.2.2.2.2.1, rfl⟩, ⟨List.mem_append_right _ tq_1_0.2.2.2.2.2.2.2.1, rfl⟩, rfl, pm_on20.1, pm_on20.2, Nat.le_of_ble_eq_true rfl⟩
def pm_m218 : pm_M := (⟨"SilentTableModel", "made", "(IJJ)J"⟩, prog_14_method_43_code, 8, (some .long), 20)
set_option maxRecDepth 100000 in
theorem pm_m218_ok : pm_Mok pm_m218 := ⟨⟨List.mem_append_right _ tq_7_5.2.2.1, rfl⟩, ⟨List.mem_append_right _ tq_1_0.2.2.2.2.2.2.2.1, rfl⟩, rfl, pm_on20.1, pm_on20.2, Nat.le_of_ble_eq_true rfl⟩
def pm_m219 : pm_M := (⟨"SilentTableModel", "turned", "(J)J"⟩, prog_14_method_42_code, 5, (some .long), 20)
set_option maxRecDepth 100000 in
theorem pm_m219_ok : pm_Mok pm_m219 := ⟨⟨List.mem_append_right _ tq_7_5.2.2.2.2.2.1, rfl⟩, ⟨List.mem_append_right _ tq_1_0.2.2.2.2.2.2.2.1, rfl⟩, rfl, pm_on20.1, pm_on20.2, Nat.le_of_ble_eq_true rfl⟩
def pm_m220 : pm_M := (⟨"SilentTableModel", "moved", "(JI)J"⟩, prog_14_method_41_code, 3, (some .long), 20)
set_option maxRecDepth 100000 in
theorem pm_m220_ok : pm_Mok pm_m220 := ⟨⟨List.mem_append_right _ tq_7_6.1, rfl⟩, ⟨List.mem_append_right _ tq_1_0.2.2.2.2.2.2.2.1, rfl⟩, rfl, pm_on20.1, pm_on20.2, Nat.le_of_ble_eq_true rfl⟩
def pm_m221 : pm_M := (⟨"SilentTableModel", "tell", "(JI)I"⟩, prog_14_method_56_code, 5, (some .int), 20)
set_option maxRecDepth 100000 in
theorem pm_m221_ok : pm_Mok pm_m221 := ⟨⟨List.mem_append_right _ tq_7_6.2.2.2.2.1, rfl⟩, ⟨List.mem_append_right _ tq_1_0.2.2.2.2.2.2.2.1, rfl⟩, rfl, pm_on20.1, pm_on20.2, Nat.le_of_ble_eq_true rfl⟩
def pm_m222 : pm_M := (⟨"SilentTableModel", "manyOf", "(J)I"⟩, prog_14_method_55_code, 4, (some .int), 20)
set_option maxRecDepth 100000 in
theorem pm_m222_ok : pm_Mok pm_m222 := ⟨⟨List.mem_append_right _ tq_7_6.2.2.2.2.2.2.2.1, rfl⟩, ⟨List.mem_append_right _ tq_1_0.2.2.2.2.2.2.2.1, rfl⟩, rfl, pm_on20.1, pm_on20.2, Nat.le_of_ble_eq_true rfl⟩
def pm_m223 : pm_M := (⟨"SilentTableModel", "ways", "(III)J"⟩, prog_14_method_62_code, 4, (some .long), 20)
set_option maxRecDepth 100000 in
theorem pm_m223_ok : pm_Mok pm_m223 := ⟨⟨List.mem_append_right _ tq_7_7.2.2.2.1, rfl⟩, ⟨List.mem_append_right _ tq_1_0.2.2.2.2.2.2.2.1, rfl⟩, rfl, pm_on20.1, pm_on20.2, Nat.le_of_ble_eq_true rfl⟩
def pm_m224 : pm_M := (⟨"SilentTableModel", "findByValue", "()V"⟩, prog_14_method_61_code, 5, none, 20)
set_option maxRecDepth 100000 in
theorem pm_m224_ok : pm_Mok pm_m224 := ⟨⟨List.mem_append_right _ tq_7_7.2.2.2.2.2.2.2.1, rfl⟩, ⟨List.mem_append_right _ tq_1_0.2.2.2.2.2.2.2.1, rfl⟩, rfl, pm_on20.1, pm_on20.2, Nat.le_of_ble_eq_true rfl⟩
def pm_m225 : pm_M := (⟨"SilentTableModel", "valueCell", "(IIII)I"⟩, prog_14_method_58_code, 4, (some .int), 20)
set_option maxRecDepth 100000 in
theorem pm_m225_ok : pm_Mok pm_m225 := ⟨⟨List.mem_append_right _ tq_7_8.2.2.1, rfl⟩, ⟨List.mem_append_right _ tq_1_0.2.2.2.2.2.2.2.1, rfl⟩, rfl, pm_on20.1, pm_on20.2, Nat.le_of_ble_eq_true rfl⟩
def pm_m226 : pm_M := (⟨"SilentTableModel", "addByValue", "(IIII)V"⟩, prog_14_method_60_code, 12, none, 20)
set_option maxRecDepth 100000 in
theorem pm_m226_ok : pm_Mok pm_m226 := ⟨⟨List.mem_append_right _ tq_7_8.2.2.2.2.2.2.1, rfl⟩, ⟨List.mem_append_right _ tq_1_0.2.2.2.2.2.2.2.1, rfl⟩, rfl, pm_on20.1, pm_on20.2, Nat.le_of_ble_eq_true rfl⟩
def pm_m227 : pm_M := (⟨"SilentTableModel", "result", "(III)I"⟩, prog_14_method_59_code, 3, (some .int), 20)
set_option maxRecDepth 100000 in
theorem pm_m227_ok : pm_Mok pm_m227 := ⟨⟨List.mem_append_right _ tq_7_9.2.1, rfl⟩, ⟨List.mem_append_right _ tq_1_0.2.2.2.2.2.2.2.1, rfl⟩, rfl, pm_on20.1, pm_on20.2, Nat.le_of_ble_eq_true rfl⟩
def pm_m228 : pm_M := (⟨"SilentTableModel", "tree", "(IIJI)I"⟩, prog_14_method_67_code, 7, (some .int), 20)
set_option maxRecDepth 100000 in
theorem pm_m228_ok : pm_Mok pm_m228 := ⟨⟨List.mem_append_right _ tq_7_9.2.2.2.2.2.1, rfl⟩, ⟨List.mem_append_right _ tq_1_0.2.2.2.2.2.2.2.1, rfl⟩, rfl, pm_on20.1, pm_on20.2, Nat.le_of_ble_eq_true rfl⟩
def pm_m229 : pm_M := (⟨"SilentTableModel", "findTree", "(J)V"⟩, prog_14_method_66_code, 5, none, 20)
set_option maxRecDepth 100000 in
theorem pm_m229_ok : pm_Mok pm_m229 := ⟨⟨List.mem_append_right _ tq_7_10.2.1, rfl⟩, ⟨List.mem_append_right _ tq_1_0.2.2.2.2.2.2.2.1, rfl⟩, rfl, pm_on20.1, pm_on20.2, Nat.le_of_ble_eq_true rfl⟩
def pm_m230 : pm_M := (⟨"SilentTableModel", "addPart", "(IIIJ)I"⟩, prog_14_method_63_code, 6, (some .int), 20)
set_option maxRecDepth 100000 in
theorem pm_m230_ok : pm_Mok pm_m230 := ⟨⟨List.mem_append_right _ tq_7_10.2.2.2.2.2.1, rfl⟩, ⟨List.mem_append_right _ tq_1_0.2.2.2.2.2.2.2.1, rfl⟩, rfl, pm_on20.1, pm_on20.2, Nat.le_of_ble_eq_true rfl⟩
def pm_m231 : pm_M := (⟨"SilentTableModel", "leaf", "(I)V"⟩, prog_14_method_64_code, 6, none, 20)
set_option maxRecDepth 100000 in
theorem pm_m231_ok : pm_Mok pm_m231 := ⟨⟨List.mem_append_right _ tq_7_11.2.1, rfl⟩, ⟨List.mem_append_right _ tq_1_0.2.2.2.2.2.2.2.1, rfl⟩, rfl, pm_on20.1, pm_on20.2, Nat.le_of_ble_eq_true rfl⟩
def pm_m232 : pm_M := (⟨"SilentTableModel", "split", "(I)V"⟩, prog_14_method_65_code, 13, none, 20)
set_option maxRecDepth 100000 in
theorem pm_m232_ok : pm_Mok pm_m232 := ⟨⟨List.mem_append_right _ tq_7_11.2.2.2.2.2.1, rfl⟩, ⟨List.mem_append_right _ tq_1_0.2.2.2.2.2.2.2.1, rfl⟩, rfl, pm_on20.1, pm_on20.2, Nat.le_of_ble_eq_true rfl⟩
def pm_m233 : pm_M := (⟨"SilentTableModel", "could", "(IIII)I"⟩, prog_14_method_70_code, 5, (some .int), 20)
set_option maxRecDepth 100000 in
theorem pm_m233_ok : pm_Mok pm_m233 := ⟨⟨List.mem_append_right _ tq_7_12.2.1, rfl⟩, ⟨List.mem_append_right _ tq_1_0.2.2.2.2.2.2.2.1, rfl⟩, rfl, pm_on20.1, pm_on20.2, Nat.le_of_ble_eq_true rfl⟩
def pm_m234 : pm_M := (⟨"SilentTableModel", "couldBy", "(I)J"⟩, prog_14_method_69_code, 2, (some .long), 20)
set_option maxRecDepth 100000 in
theorem pm_m234_ok : pm_Mok pm_m234 := ⟨⟨List.mem_append_right _ tq_7_12.2.2.2.2.2.1, rfl⟩, ⟨List.mem_append_right _ tq_1_0.2.2.2.2.2.2.2.1, rfl⟩, rfl, pm_on20.1, pm_on20.2, Nat.le_of_ble_eq_true rfl⟩
def pm_m235 : pm_M := (⟨"SilentTableModel", "wear", "(I)V"⟩, prog_14_method_68_code, 6, none, 20)
set_option maxRecDepth 100000 in
theorem pm_m235_ok : pm_Mok pm_m235 := ⟨⟨List.mem_append_right _ tq_7_13.2.1, rfl⟩, ⟨List.mem_append_right _ tq_1_0.2.2.2.2.2.2.2.1, rfl⟩, rfl, pm_on20.1, pm_on20.2, Nat.le_of_ble_eq_true rfl⟩
def pm_m236 : pm_M := (⟨"SilentTableModel", "near", "(I)I"⟩, prog_14_method_39_code, 2, (some .int), 20)
set_option maxRecDepth 100000 in
theorem pm_m236_ok : pm_Mok pm_m236 := ⟨⟨List.mem_append_right _ tq_7_13.2.2.2.2.2.1, rfl⟩, ⟨List.mem_append_right _ tq_1_0.2.2.2.2.2.2.2.1, rfl⟩, rfl, pm_on20.1, pm_on20.2, Nat.le_of_ble_eq_true rfl⟩
def pm_m237 : pm_M := (⟨"SilentTableModel", "worn", "(III)J"⟩, prog_14_method_71_code, 7, (some .long), 20)
set_option maxRecDepth 100000 in
theorem pm_m237_ok : pm_Mok pm_m237 := ⟨⟨List.mem_append_right _ tq_7_14.2.1, rfl⟩, ⟨List.mem_append_right _ tq_1_0.2.2.2.2.2.2.2.1, rfl⟩, rfl, pm_on20.1, pm_on20.2, Nat.le_of_ble_eq_true rfl⟩
def pm_m238 : pm_M := (⟨"SilentTableModel", "lasts", "(II)I"⟩, prog_14_method_73_code, 5, (some .int), 20)
set_option maxRecDepth 100000 in
theorem pm_m238_ok : pm_Mok pm_m238 := ⟨⟨List.mem_append_right _ tq_7_14.2.2.2.2.2.1, rfl⟩, ⟨List.mem_append_right _ tq_1_0.2.2.2.2.2.2.2.1, rfl⟩, rfl, pm_on20.1, pm_on20.2, Nat.le_of_ble_eq_true rfl⟩
def pm_m239 : pm_M := (⟨"SilentTableModel", "isWhole", "(I)Z"⟩, prog_14_method_72_code, 4, (some .boolean), 20)
set_option maxRecDepth 100000 in
theorem pm_m239_ok : pm_Mok pm_m239 := ⟨⟨List.mem_append_right _ tq_7_15.2.1, rfl⟩, ⟨List.mem_append_right _ tq_1_0.2.2.2.2.2.2.2.1, rfl⟩, rfl, pm_on20.1, pm_on20.2, Nat.le_of_ble_eq_true rfl⟩
def pm_m240 : pm_M := (⟨"SilentTableModel", "brief", "(IIII)I"⟩, prog_14_method_80_code, 5, (some .int), 20)
set_option maxRecDepth 100000 in
theorem pm_m240_ok : pm_Mok pm_m240 := ⟨⟨List.mem_append_right _ tq_7_15.2.2.2.2.2.1, rfl⟩, ⟨List.mem_append_right _ tq_1_0.2.2.2.2.2.2.2.1, rfl⟩, rfl, pm_on20.1, pm_on20.2, Nat.le_of_ble_eq_true rfl⟩
def pm_m241 : pm_M := (⟨"SilentTableModel", "findBrief", "(II)Z"⟩, prog_14_method_78_code, 5, (some .boolean), 20)
set_option maxRecDepth 100000 in
theorem pm_m241_ok : pm_Mok pm_m241 := ⟨⟨List.mem_append_right _ tq_7_16.2.1, rfl⟩, ⟨List.mem_append_right _ tq_1_0.2.2.2.2.2.2.2.1, rfl⟩, rfl, pm_on20.1, pm_on20.2, Nat.le_of_ble_eq_true rfl⟩
def pm_m242 : pm_M := (⟨"SilentTableModel", "rowsOf", "(I)I"⟩, prog_14_method_76_code, 3, (some .int), 20)
set_option maxRecDepth 100000 in
theorem pm_m242_ok : pm_Mok pm_m242 := ⟨⟨List.mem_append_right _ tq_7_16.2.2.2.2.1, rfl⟩, ⟨List.mem_append_right _ tq_1_0.2.2.2.2.2.2.2.1, rfl⟩, rfl, pm_on20.1, pm_on20.2, Nat.le_of_ble_eq_true rfl⟩
def pm_m243 : pm_M := (⟨"SilentTableModel", "isBrief", "(IIII)Z"⟩, prog_14_method_77_code, 5, (some .boolean), 20)
set_option maxRecDepth 100000 in
theorem pm_m243_ok : pm_Mok pm_m243 := ⟨⟨List.mem_append_right _ tq_7_17.1, rfl⟩, ⟨List.mem_append_right _ tq_1_0.2.2.2.2.2.2.2.1, rfl⟩, rfl, pm_on20.1, pm_on20.2, Nat.le_of_ble_eq_true rfl⟩
def pm_m244 : pm_M := (⟨"SilentTableModel", "layNumber", "(II)V"⟩, prog_14_method_74_code, 5, none, 20)
set_option maxRecDepth 100000 in
theorem pm_m244_ok : pm_Mok pm_m244 := ⟨⟨List.mem_append_right _ tq_7_17.2.2.2.2.1, rfl⟩, ⟨List.mem_append_right _ tq_1_0.2.2.2.2.2.2.2.1, rfl⟩, rfl, pm_on20.1, pm_on20.2, Nat.le_of_ble_eq_true rfl⟩
def pm_m245 : pm_M := (⟨"SilentTableModel", "keepFound", "(II)V"⟩, prog_14_method_75_code, 5, none, 20)
set_option maxRecDepth 100000 in
theorem pm_m245_ok : pm_Mok pm_m245 := ⟨⟨List.mem_append_right _ tq_7_18.1, rfl⟩, ⟨List.mem_append_right _ tq_1_0.2.2.2.2.2.2.2.1, rfl⟩, rfl, pm_on20.1, pm_on20.2, Nat.le_of_ble_eq_true rfl⟩
def pm_m246 : pm_M := (⟨"SilentTableModel", "foundAt", "(I)I"⟩, prog_14_method_79_code, 2, (some .int), 20)
set_option maxRecDepth 100000 in
theorem pm_m246_ok : pm_Mok pm_m246 := ⟨⟨List.mem_append_right _ tq_7_18.2.2.2.2.1, rfl⟩, ⟨List.mem_append_right _ tq_1_0.2.2.2.2.2.2.2.1, rfl⟩, rfl, pm_on20.1, pm_on20.2, Nat.le_of_ble_eq_true rfl⟩
def pm_m247 : pm_M := (⟨"SilentTableModel", "apart", "(III)I"⟩, prog_14_method_82_code, 6, (some .int), 20)
set_option maxRecDepth 100000 in
theorem pm_m247_ok : pm_Mok pm_m247 := ⟨⟨List.mem_append_right _ tq_7_19.1, rfl⟩, ⟨List.mem_append_right _ tq_1_0.2.2.2.2.2.2.2.1, rfl⟩, rfl, pm_on20.1, pm_on20.2, Nat.le_of_ble_eq_true rfl⟩
def pm_m248 : pm_M := (⟨"SilentTableModel", "meaningsBy", "(III)J"⟩, prog_14_method_81_code, 4, (some .long), 20)
set_option maxRecDepth 100000 in
theorem pm_m248_ok : pm_Mok pm_m248 := ⟨⟨List.mem_append_right _ tq_7_19.2.2.2.2.1, rfl⟩, ⟨List.mem_append_right _ tq_1_0.2.2.2.2.2.2.2.1, rfl⟩, rfl, pm_on20.1, pm_on20.2, Nat.le_of_ble_eq_true rfl⟩
def pm_m249 : pm_M := (⟨"SilentTableModel", "hole", "(III)I"⟩, prog_14_method_84_code, 6, (some .int), 20)
set_option maxRecDepth 100000 in
theorem pm_m249_ok : pm_Mok pm_m249 := ⟨⟨List.mem_append_right _ tq_7_20.1, rfl⟩, ⟨List.mem_append_right _ tq_1_0.2.2.2.2.2.2.2.1, rfl⟩, rfl, pm_on20.1, pm_on20.2, Nat.le_of_ble_eq_true rfl⟩
def pm_m250 : pm_M := (⟨"SilentTableModel", "isPlace", "(III)Z"⟩, prog_14_method_83_code, 4, (some .boolean), 20)
set_option maxRecDepth 100000 in
theorem pm_m250_ok : pm_Mok pm_m250 := ⟨⟨List.mem_append_right _ tq_7_20.2.2.2.2.1, rfl⟩, ⟨List.mem_append_right _ tq_1_0.2.2.2.2.2.2.2.1, rfl⟩, rfl, pm_on20.1, pm_on20.2, Nat.le_of_ble_eq_true rfl⟩
def pm_m251 : pm_M := (⟨"SilentTableModel", "idle", "(II)I"⟩, prog_14_method_85_code, 9, (some .int), 20)
set_option maxRecDepth 100000 in
theorem pm_m251_ok : pm_Mok pm_m251 := ⟨⟨List.mem_append_right _ tq_7_21.1, rfl⟩, ⟨List.mem_append_right _ tq_1_0.2.2.2.2.2.2.2.1, rfl⟩, rfl, pm_on20.1, pm_on20.2, Nat.le_of_ble_eq_true rfl⟩
def pm_m252 : pm_M := (⟨"SilentTableModel", "doubt", "(III)I"⟩, prog_14_method_86_code, 6, (some .int), 20)
set_option maxRecDepth 100000 in
theorem pm_m252_ok : pm_Mok pm_m252 := ⟨⟨List.mem_append_right _ tq_7_21.2.2.2.2.1, rfl⟩, ⟨List.mem_append_right _ tq_1_0.2.2.2.2.2.2.2.1, rfl⟩, rfl, pm_on20.1, pm_on20.2, Nat.le_of_ble_eq_true rfl⟩
def pm_m253 : pm_M := (⟨"SilentTableModel", "meal", "(II)I"⟩, prog_14_method_91_code, 6, (some .int), 20)
set_option maxRecDepth 100000 in
theorem pm_m253_ok : pm_Mok pm_m253 := ⟨⟨List.mem_append_right _ tq_7_22.1, rfl⟩, ⟨List.mem_append_right _ tq_1_0.2.2.2.2.2.2.2.1, rfl⟩, rfl, pm_on20.1, pm_on20.2, Nat.le_of_ble_eq_true rfl⟩
def pm_m254 : pm_M := (⟨"SilentTableModel", "layMeal", "(I)Z"⟩, prog_14_method_88_code, 6, (some .boolean), 20)
set_option maxRecDepth 100000 in
theorem pm_m254_ok : pm_Mok pm_m254 := ⟨⟨List.mem_append_right _ tq_7_22.2.2.2.2.1, rfl⟩, ⟨List.mem_append_right _ tq_1_0.2.2.2.2.2.2.2.1, rfl⟩, rfl, pm_on20.1, pm_on20.2, Nat.le_of_ble_eq_true rfl⟩
def pm_m255 : pm_M := (⟨"SilentTableModel", "deedOf", "(II)I"⟩, prog_14_method_87_code, 3, (some .int), 20)
set_option maxRecDepth 100000 in
theorem pm_m255_ok : pm_Mok pm_m255 := ⟨⟨List.mem_append_right _ tq_7_23.1, rfl⟩, ⟨List.mem_append_right _ tq_1_0.2.2.2.2.2.2.2.1, rfl⟩, rfl, pm_on20.1, pm_on20.2, Nat.le_of_ble_eq_true rfl⟩
def pm_m256 : pm_M := (⟨"SilentTableModel", "isSaid", "(I)Z"⟩, prog_14_method_89_code, 2, (some .boolean), 20)
set_option maxRecDepth 100000 in
theorem pm_m256_ok : pm_Mok pm_m256 := ⟨⟨List.mem_append_right _ tq_7_23.2.2.2.2.1, rfl⟩, ⟨List.mem_append_right _ tq_1_0.2.2.2.2.2.2.2.1, rfl⟩, rfl, pm_on20.1, pm_on20.2, Nat.le_of_ble_eq_true rfl⟩
def pm_m257 : pm_M := (⟨"SilentTableModel", "deed", "(III)I"⟩, prog_14_method_92_code, 4, (some .int), 20)
set_option maxRecDepth 100000 in
theorem pm_m257_ok : pm_Mok pm_m257 := ⟨⟨List.mem_append_right _ tq_7_24.1, rfl⟩, ⟨List.mem_append_right _ tq_1_0.2.2.2.2.2.2.2.1, rfl⟩, rfl, pm_on20.1, pm_on20.2, Nat.le_of_ble_eq_true rfl⟩
def pm_m258 : pm_M := (⟨"SilentTableModel", "looks", "(III)I"⟩, prog_14_method_93_code, 4, (some .int), 20)
set_option maxRecDepth 100000 in
theorem pm_m258_ok : pm_Mok pm_m258 := ⟨⟨List.mem_append_right _ tq_7_24.2.2.2.2.1, rfl⟩, ⟨List.mem_append_right _ tq_1_0.2.2.2.2.2.2.2.1, rfl⟩, rfl, pm_on20.1, pm_on20.2, Nat.le_of_ble_eq_true rfl⟩
def pm_m259 : pm_M := (⟨"SilentTableModel", "isSeat", "(I)Z"⟩, prog_14_method_90_code, 2, (some .boolean), 20)
set_option maxRecDepth 100000 in
theorem pm_m259_ok : pm_Mok pm_m259 := ⟨⟨List.mem_append_right _ tq_7_25.1, rfl⟩, ⟨List.mem_append_right _ tq_1_0.2.2.2.2.2.2.2.1, rfl⟩, rfl, pm_on20.1, pm_on20.2, Nat.le_of_ble_eq_true rfl⟩
def pm_m260 : pm_M := (⟨"SilentTableModel", "caught", "(IIII)I"⟩, prog_14_method_95_code, 5, (some .int), 20)
set_option maxRecDepth 100000 in
theorem pm_m260_ok : pm_Mok pm_m260 := ⟨⟨List.mem_append_right _ tq_7_25.2.2.2.2.1, rfl⟩, ⟨List.mem_append_right _ tq_1_0.2.2.2.2.2.2.2.1, rfl⟩, rfl, pm_on20.1, pm_on20.2, Nat.le_of_ble_eq_true rfl⟩
def pm_m261 : pm_M := (⟨"SilentTableModel", "findCaught", "(III)Z"⟩, prog_14_method_94_code, 5, (some .boolean), 20)
set_option maxRecDepth 100000 in
theorem pm_m261_ok : pm_Mok pm_m261 := ⟨⟨List.mem_append_right _ tq_7_26.1, rfl⟩, ⟨List.mem_append_right _ tq_1_0.2.2.2.2.2.2.2.1, rfl⟩, rfl, pm_on20.1, pm_on20.2, Nat.le_of_ble_eq_true rfl⟩
def pm_m262 : pm_M := (⟨"SilentTableModel", "knows", "(IIIII)I"⟩, prog_14_method_98_code, 6, (some .int), 20)
set_option maxRecDepth 100000 in
theorem pm_m262_ok : pm_Mok pm_m262 := ⟨⟨List.mem_append_right _ tq_7_26.2.2.2.2.1, rfl⟩, ⟨List.mem_append_right _ tq_1_0.2.2.2.2.2.2.2.1, rfl⟩, rfl, pm_on20.1, pm_on20.2, Nat.le_of_ble_eq_true rfl⟩
def pm_m263 : pm_M := (⟨"SilentTableModel", "known", "(I)J"⟩, prog_14_method_97_code, 3, (some .long), 20)
set_option maxRecDepth 100000 in
theorem pm_m263_ok : pm_Mok pm_m263 := ⟨⟨List.mem_append_right _ tq_7_27.1, rfl⟩, ⟨List.mem_append_right _ tq_1_0.2.2.2.2.2.2.2.1, rfl⟩, rfl, pm_on20.1, pm_on20.2, Nat.le_of_ble_eq_true rfl⟩
def pm_m264 : pm_M := (⟨"SilentTableModel", "sure", "(III)I"⟩, prog_14_method_99_code, 9, (some .int), 20)
set_option maxRecDepth 100000 in
theorem pm_m264_ok : pm_Mok pm_m264 := ⟨⟨List.mem_append_right _ tq_7_27.2.2.2.2.1, rfl⟩, ⟨List.mem_append_right _ tq_1_0.2.2.2.2.2.2.2.1, rfl⟩, rfl, pm_on20.1, pm_on20.2, Nat.le_of_ble_eq_true rfl⟩
def pm_m265 : pm_M := (⟨"SilentTableModel", "passed", "(III)I"⟩, prog_14_method_102_code, 4, (some .int), 20)
set_option maxRecDepth 100000 in
theorem pm_m265_ok : pm_Mok pm_m265 := ⟨⟨List.mem_append_right _ tq_7_28.1, rfl⟩, ⟨List.mem_append_right _ tq_1_0.2.2.2.2.2.2.2.1, rfl⟩, rfl, pm_on20.1, pm_on20.2, Nat.le_of_ble_eq_true rfl⟩
def pm_m266 : pm_M := (⟨"SilentTableModel", "hands", "(III)I"⟩, prog_14_method_101_code, 9, (some .int), 20)
set_option maxRecDepth 100000 in
theorem pm_m266_ok : pm_Mok pm_m266 := ⟨⟨List.mem_append_right _ tq_7_28.2.2.2.2.1, rfl⟩, ⟨List.mem_append_right _ tq_1_0.2.2.2.2.2.2.2.1, rfl⟩, rfl, pm_on20.1, pm_on20.2, Nat.le_of_ble_eq_true rfl⟩
def pm_m267 : pm_M := (⟨"SilentTableModel", "looked", "(II)Z"⟩, prog_14_method_100_code, 4, (some .boolean), 20)
set_option maxRecDepth 100000 in
theorem pm_m267_ok : pm_Mok pm_m267 := ⟨⟨List.mem_append_right _ tq_7_29.1, rfl⟩, ⟨List.mem_append_right _ tq_1_0.2.2.2.2.2.2.2.1, rfl⟩, rfl, pm_on20.1, pm_on20.2, Nat.le_of_ble_eq_true rfl⟩
def pm_m268 : pm_M := (⟨"SilentTableModel", "reaches", "(IIIII)Z"⟩, prog_14_method_103_code, 7, (some .boolean), 20)
set_option maxRecDepth 100000 in
theorem pm_m268_ok : pm_Mok pm_m268 := ⟨⟨List.mem_append_right _ tq_7_29.2.2.2.2.1, rfl⟩, ⟨List.mem_append_right _ tq_1_0.2.2.2.2.2.2.2.1, rfl⟩, rfl, pm_on20.1, pm_on20.2, Nat.le_of_ble_eq_true rfl⟩
def pm_m269 : pm_M := (⟨"SilentTableModel", "watch", "(IIZ)I"⟩, prog_14_method_105_code, 8, (some .int), 20)
set_option maxRecDepth 100000 in
theorem pm_m269_ok : pm_Mok pm_m269 := ⟨⟨List.mem_append_right _ tq_8_0.1, rfl⟩, ⟨List.mem_append_right _ tq_1_0.2.2.2.2.2.2.2.1, rfl⟩, rfl, pm_on20.1, pm_on20.2, Nat.le_of_ble_eq_true rfl⟩
def pm_m270 : pm_M := (⟨"SilentTableModel", "saidBy", "(I)I"⟩, prog_14_method_104_code, 4, (some .int), 20)
set_option maxRecDepth 100000 in
theorem pm_m270_ok : pm_Mok pm_m270 := ⟨⟨List.mem_append_right _ tq_8_0.2.2.2.2.1, rfl⟩, ⟨List.mem_append_right _ tq_1_0.2.2.2.2.2.2.2.1, rfl⟩, rfl, pm_on20.1, pm_on20.2, Nat.le_of_ble_eq_true rfl⟩
def pm_m271 : pm_M := (⟨"SilentTableModel", "law", "(III)I"⟩, prog_14_method_108_code, 4, (some .int), 20)
set_option maxRecDepth 100000 in
theorem pm_m271_ok : pm_Mok pm_m271 := ⟨⟨List.mem_append_right _ tq_8_1.1, rfl⟩, ⟨List.mem_append_right _ tq_1_0.2.2.2.2.2.2.2.1, rfl⟩, rfl, pm_on20.1, pm_on20.2, Nat.le_of_ble_eq_true rfl⟩
def pm_m272 : pm_M := (⟨"SilentTableModel", "laws", "()I"⟩, prog_14_method_106_code, 1, (some .int), 20)
set_option maxRecDepth 100000 in
theorem pm_m272_ok : pm_Mok pm_m272 := ⟨⟨List.mem_append_right _ tq_8_1.2.2.2.2.1, rfl⟩, ⟨List.mem_append_right _ tq_1_0.2.2.2.2.2.2.2.1, rfl⟩, rfl, pm_on20.1, pm_on20.2, Nat.le_of_ble_eq_true rfl⟩
def pm_m273 : pm_M := (⟨"SilentTableModel", "lawOf", "(II)I"⟩, prog_14_method_107_code, 3, (some .int), 20)
set_option maxRecDepth 100000 in
theorem pm_m273_ok : pm_Mok pm_m273 := ⟨⟨List.mem_append_right _ tq_8_2.1, rfl⟩, ⟨List.mem_append_right _ tq_1_0.2.2.2.2.2.2.2.1, rfl⟩, rfl, pm_on20.1, pm_on20.2, Nat.le_of_ble_eq_true rfl⟩
def pm_m274 : pm_M := (⟨"SilentTableModel", "breaks", "(III)I"⟩, prog_14_method_114_code, 6, (some .int), 20)
set_option maxRecDepth 100000 in
theorem pm_m274_ok : pm_Mok pm_m274 := ⟨⟨List.mem_append_right _ tq_8_2.2.2.2.2.1, rfl⟩, ⟨List.mem_append_right _ tq_1_0.2.2.2.2.2.2.2.1, rfl⟩, rfl, pm_on20.1, pm_on20.2, Nat.le_of_ble_eq_true rfl⟩
def pm_m275 : pm_M := (⟨"SilentTableModel", "layBoth", "(II)Z"⟩, prog_14_method_113_code, 3, (some .boolean), 20)
set_option maxRecDepth 100000 in
theorem pm_m275_ok : pm_Mok pm_m275 := ⟨⟨List.mem_append_right _ tq_8_3.1, rfl⟩, ⟨List.mem_append_right _ tq_1_0.2.2.2.2.2.2.2.1, rfl⟩, rfl, pm_on20.1, pm_on20.2, Nat.le_of_ble_eq_true rfl⟩
def pm_m276 : pm_M := (⟨"SilentTableModel", "broken", "(II)I"⟩, prog_14_method_112_code, 4, (some .int), 20)
set_option maxRecDepth 100000 in
theorem pm_m276_ok : pm_Mok pm_m276 := ⟨⟨List.mem_append_right _ tq_8_3.2.2.2.2.1, rfl⟩, ⟨List.mem_append_right _ tq_1_0.2.2.2.2.2.2.2.1, rfl⟩, rfl, pm_on20.1, pm_on20.2, Nat.le_of_ble_eq_true rfl⟩
def pm_m277 : pm_M := (⟨"SilentTableModel", "breaksLaw", "(II)Z"⟩, prog_14_method_111_code, 6, (some .boolean), 20)
set_option maxRecDepth 100000 in
theorem pm_m277_ok : pm_Mok pm_m277 := ⟨⟨List.mem_append_right _ tq_8_4.1, rfl⟩, ⟨List.mem_append_right _ tq_1_0.2.2.2.2.2.2.2.1, rfl⟩, rfl, pm_on20.1, pm_on20.2, Nat.le_of_ble_eq_true rfl⟩
def pm_m278 : pm_M := (⟨"SilentTableModel", "before", "(II)I"⟩, prog_14_method_109_code, 5, (some .int), 20)
set_option maxRecDepth 100000 in
theorem pm_m278_ok : pm_Mok pm_m278 := ⟨⟨List.mem_append_right _ tq_8_4.2.2.2.2.1, rfl⟩, ⟨List.mem_append_right _ tq_1_0.2.2.2.2.2.2.2.1, rfl⟩, rfl, pm_on20.1, pm_on20.2, Nat.le_of_ble_eq_true rfl⟩
def pm_m279 : pm_M := (⟨"SilentTableModel", "ownLast", "(I)I"⟩, prog_14_method_110_code, 3, (some .int), 20)
set_option maxRecDepth 100000 in
theorem pm_m279_ok : pm_Mok pm_m279 := ⟨⟨List.mem_append_right _ tq_8_5.1, rfl⟩, ⟨List.mem_append_right _ tq_1_0.2.2.2.2.2.2.2.1, rfl⟩, rfl, pm_on20.1, pm_on20.2, Nat.le_of_ble_eq_true rfl⟩
def pm_m280 : pm_M := (⟨"SilentTableModel", "sins", "(III)I"⟩, prog_14_method_116_code, 4, (some .int), 20)
set_option maxRecDepth 100000 in
theorem pm_m280_ok : pm_Mok pm_m280 := ⟨⟨List.mem_append_right _ tq_8_5.2.2.2.2.1, rfl⟩, ⟨List.mem_append_right _ tq_1_0.2.2.2.2.2.2.2.1, rfl⟩, rfl, pm_on20.1, pm_on20.2, Nat.le_of_ble_eq_true rfl⟩
def pm_m281 : pm_M := (⟨"SilentTableModel", "sinsBut", "(II)I"⟩, prog_14_method_115_code, 5, (some .int), 20)
set_option maxRecDepth 100000 in
theorem pm_m281_ok : pm_Mok pm_m281 := ⟨⟨List.mem_append_right _ tq_8_6.1, rfl⟩, ⟨List.mem_append_right _ tq_1_0.2.2.2.2.2.2.2.1, rfl⟩, rfl, pm_on20.1, pm_on20.2, Nat.le_of_ble_eq_true rfl⟩
def pm_m282 : pm_M := (⟨"SilentTableModel", "mildest", "(II)I"⟩, prog_14_method_117_code, 7, (some .int), 20)
set_option maxRecDepth 100000 in
theorem pm_m282_ok : pm_Mok pm_m282 := ⟨⟨List.mem_append_right _ tq_8_6.2.2.2.2.1, rfl⟩, ⟨List.mem_append_right _ tq_1_0.2.2.2.2.2.2.2.1, rfl⟩, rfl, pm_on20.1, pm_on20.2, Nat.le_of_ble_eq_true rfl⟩
def pm_m283 : pm_M := (⟨"SilentTableModel", "lesser", "(II)I"⟩, prog_14_method_96_code, 2, (some .int), 20)
set_option maxRecDepth 100000 in
theorem pm_m283_ok : pm_Mok pm_m283 := ⟨⟨List.mem_append_right _ tq_8_6.2.2.2.2.2.2.2.1, rfl⟩, ⟨List.mem_append_right _ tq_1_0.2.2.2.2.2.2.2.1, rfl⟩, rfl, pm_on20.1, pm_on20.2, Nat.le_of_ble_eq_true rfl⟩
def pm_m284 : pm_M := (⟨"SilentTableModel", "drawn", "(IIIII)I"⟩, prog_14_method_120_code, 8, (some .int), 20)
set_option maxRecDepth 100000 in
theorem pm_m284_ok : pm_Mok pm_m284 := ⟨⟨List.mem_append_right _ tq_8_7.2.2.2.1, rfl⟩, ⟨List.mem_append_right _ tq_1_0.2.2.2.2.2.2.2.1, rfl⟩, rfl, pm_on20.1, pm_on20.2, Nat.le_of_ble_eq_true rfl⟩
def pm_m285 : pm_M := (⟨"SilentTableModel", "draw", "(I)I"⟩, prog_14_method_118_code, 2, (some .int), 20)
set_option maxRecDepth 100000 in
theorem pm_m285_ok : pm_Mok pm_m285 := ⟨⟨List.mem_append_right _ tq_8_7.2.2.2.2.2.2.2.1, rfl⟩, ⟨List.mem_append_right _ tq_1_0.2.2.2.2.2.2.2.1, rfl⟩, rfl, pm_on20.1, pm_on20.2, Nat.le_of_ble_eq_true rfl⟩
def pm_m286 : pm_M := (⟨"SilentTableModel", "nearAt", "(II)I"⟩, prog_14_method_119_code, 5, (some .int), 20)
set_option maxRecDepth 100000 in
theorem pm_m286_ok : pm_Mok pm_m286 := ⟨⟨List.mem_append_right _ tq_8_8.2.2.2.2.1, rfl⟩, ⟨List.mem_append_right _ tq_1_0.2.2.2.2.2.2.2.1, rfl⟩, rfl, pm_on20.1, pm_on20.2, Nat.le_of_ble_eq_true rfl⟩
def pm_m287 : pm_M := (⟨"SilentTableModel", "all", "(III)J"⟩, prog_14_method_121_code, 13, (some .long), 20)
set_option maxRecDepth 100000 in
theorem pm_m287_ok : pm_Mok pm_m287 := ⟨⟨List.mem_append_right _ tq_8_9.1, rfl⟩, ⟨List.mem_append_right _ tq_1_0.2.2.2.2.2.2.2.1, rfl⟩, rfl, pm_on20.1, pm_on20.2, Nat.le_of_ble_eq_true rfl⟩
def pm_m288 : pm_M := (⟨"SilentTableModel", "becomes", "(III)I"⟩, prog_14_method_122_code, 7, (some .int), 20)
set_option maxRecDepth 100000 in
theorem pm_m288_ok : pm_Mok pm_m288 := ⟨⟨List.mem_append_right _ tq_8_9.2.2.2.2.1, rfl⟩, ⟨List.mem_append_right _ tq_1_0.2.2.2.2.2.2.2.1, rfl⟩, rfl, pm_on20.1, pm_on20.2, Nat.le_of_ble_eq_true rfl⟩
def pm_m289 : pm_M := (⟨"SilentTableModel", "can", "(IIII)I"⟩, prog_14_method_123_code, 7, (some .int), 20)
set_option maxRecDepth 100000 in
theorem pm_m289_ok : pm_Mok pm_m289 := ⟨⟨List.mem_append_right _ tq_8_10.1, rfl⟩, ⟨List.mem_append_right _ tq_1_0.2.2.2.2.2.2.2.1, rfl⟩, rfl, pm_on20.1, pm_on20.2, Nat.le_of_ble_eq_true rfl⟩
def pm_m290 : pm_M := (⟨"SilentTableModel", "asks", "(IIIIII)I"⟩, prog_14_method_124_code, 8, (some .int), 20)
set_option maxRecDepth 100000 in
theorem pm_m290_ok : pm_Mok pm_m290 := ⟨⟨List.mem_append_right _ tq_8_10.2.2.2.2.1, rfl⟩, ⟨List.mem_append_right _ tq_1_0.2.2.2.2.2.2.2.1, rfl⟩, rfl, pm_on20.1, pm_on20.2, Nat.le_of_ble_eq_true rfl⟩
def pm_m291 : pm_M := (⟨"SilentTableModel", "hears", "(II)I"⟩, prog_14_method_126_code, 6, (some .int), 20)
set_option maxRecDepth 100000 in
theorem pm_m291_ok : pm_Mok pm_m291 := ⟨⟨List.mem_append_right _ tq_8_11.1, rfl⟩, ⟨List.mem_append_right _ tq_1_0.2.2.2.2.2.2.2.1, rfl⟩, rfl, pm_on20.1, pm_on20.2, Nat.le_of_ble_eq_true rfl⟩
def pm_m292 : pm_M := (⟨"SilentTableModel", "loudest", "()I"⟩, prog_14_method_125_code, 5, (some .int), 20)
set_option maxRecDepth 100000 in
theorem pm_m292_ok : pm_Mok pm_m292 := ⟨⟨List.mem_append_right _ tq_8_11.2.2.2.2.1, rfl⟩, ⟨List.mem_append_right _ tq_1_0.2.2.2.2.2.2.2.1, rfl⟩, rfl, pm_on20.1, pm_on20.2, Nat.le_of_ble_eq_true rfl⟩
def pm_m293 : pm_M := (⟨"SilentTableModel", "like", "(III)I"⟩, prog_14_method_127_code, 6, (some .int), 20)
set_option maxRecDepth 100000 in
theorem pm_m293_ok : pm_Mok pm_m293 := ⟨⟨List.mem_append_right _ tq_8_12.1, rfl⟩, ⟨List.mem_append_right _ tq_1_0.2.2.2.2.2.2.2.1, rfl⟩, rfl, pm_on20.1, pm_on20.2, Nat.le_of_ble_eq_true rfl⟩
def pm_m294 : pm_M := (⟨"SilentTableModel", "count", "(I)I"⟩, prog_14_method_128_code, 2, (some .int), 20)
set_option maxRecDepth 100000 in
theorem pm_m294_ok : pm_Mok pm_m294 := ⟨⟨List.mem_append_right _ tq_8_12.2.2.2.2.1, rfl⟩, ⟨List.mem_append_right _ tq_1_0.2.2.2.2.2.2.2.1, rfl⟩, rfl, pm_on20.1, pm_on20.2, Nat.le_of_ble_eq_true rfl⟩
def pm_m295 : pm_M := (⟨"SilentTableModel", "image", "(I)Z"⟩, prog_14_method_129_code, 2, (some .boolean), 20)
set_option maxRecDepth 100000 in
theorem pm_m295_ok : pm_Mok pm_m295 := ⟨⟨List.mem_append_right _ tq_8_13.1, rfl⟩, ⟨List.mem_append_right _ tq_1_0.2.2.2.2.2.2.2.1, rfl⟩, rfl, pm_on20.1, pm_on20.2, Nat.le_of_ble_eq_true rfl⟩
def pm_m296 : pm_M := (⟨"SilentTableModel", "copyAll", "(II)V"⟩, prog_14_method_6_code, 4, none, 20)
set_option maxRecDepth 100000 in
theorem pm_m296_ok : pm_Mok pm_m296 := ⟨⟨List.mem_append_right _ tq_8_13.2.2.2.2.1, rfl⟩, ⟨List.mem_append_right _ tq_1_0.2.2.2.2.2.2.2.1, rfl⟩, rfl, pm_on20.1, pm_on20.2, Nat.le_of_ble_eq_true rfl⟩
def pm_m297 : pm_M := (⟨"SilentTableModel", "copyRow", "([IIII)V"⟩, prog_14_method_5_code, 5, none, 20)
set_option maxRecDepth 100000 in
theorem pm_m297_ok : pm_Mok pm_m297 := ⟨⟨List.mem_append_right _ tq_8_13.2.2.2.2.2.2.2.1, rfl⟩, ⟨List.mem_append_right _ tq_1_0.2.2.2.2.2.2.2.1, rfl⟩, rfl, pm_on20.1, pm_on20.2, Nat.le_of_ble_eq_true rfl⟩
def pm_m298 : pm_M := (⟨"SilentTableModel", "again", "(I)Z"⟩, prog_14_method_130_code, 2, (some .boolean), 20)
set_option maxRecDepth 100000 in
theorem pm_m298_ok : pm_Mok pm_m298 := ⟨⟨List.mem_append_right _ tq_8_14.2.2.2.1, rfl⟩, ⟨List.mem_append_right _ tq_1_0.2.2.2.2.2.2.2.1, rfl⟩, rfl, pm_on20.1, pm_on20.2, Nat.le_of_ble_eq_true rfl⟩
def pm_ms : List pm_M := [pm_m0, pm_m1, pm_m2, pm_m3, pm_m4, pm_m5, pm_m6, pm_m7, pm_m8, pm_m9, pm_m10, pm_m11, pm_m12, pm_m13, pm_m14, pm_m15, pm_m16, pm_m17, pm_m18, pm_m19, pm_m20, pm_m21, pm_m22, pm_m23, pm_m24, pm_m25, pm_m26, pm_m27, pm_m28, pm_m29, pm_m30, pm_m31, pm_m32, pm_m33, pm_m34, pm_m35, pm_m36, pm_m37, pm_m38, pm_m39, pm_m40, pm_m41, pm_m42, pm_m43, pm_m44, pm_m45, pm_m46, pm_m47, pm_m48, pm_m49, pm_m50, pm_m51, pm_m52, pm_m53, pm_m54, pm_m55, pm_m56, pm_m57, pm_m58, pm_m59, pm_m60, pm_m61, pm_m62, pm_m63, pm_m64, pm_m65, pm_m66, pm_m67, pm_m68, pm_m69, pm_m70, pm_m71, pm_m72, pm_m73, pm_m74, pm_m75, pm_m76, pm_m77, pm_m78, pm_m79, pm_m80, pm_m81, pm_m82, pm_m83, pm_m84, pm_m85, pm_m86, pm_m87, pm_m88, pm_m89, pm_m90, pm_m91, pm_m92, pm_m93, pm_m94, pm_m95, pm_m96, pm_m97, pm_m98, pm_m99, pm_m100, pm_m101, pm_m102, pm_m103, pm_m104, pm_m105, pm_m106, pm_m107, pm_m108, pm_m109, pm_m110, pm_m111, pm_m112, pm_m113, pm_m114, pm_m115, pm_m116, pm_m117, pm_m118, pm_m119, pm_m120, pm_m121, pm_m122, pm_m123, pm_m124, pm_m125, pm_m126, pm_m127, pm_m128, pm_m129, pm_m130, pm_m131, pm_m132, pm_m133, pm_m134, pm_m135, pm_m136, pm_m137, pm_m138, pm_m139, pm_m140, pm_m141, pm_m142, pm_m143, pm_m144, pm_m145, pm_m146, pm_m147, pm_m148, pm_m149, pm_m150, pm_m151, pm_m152, pm_m153, pm_m154, pm_m155, pm_m156, pm_m157, pm_m158, pm_m159, pm_m160, pm_m161, pm_m162, pm_m163, pm_m164, pm_m165, pm_m166, pm_m167, pm_m168, pm_m169, pm_m170, pm_m171, pm_m172, pm_m173, pm_m174, pm_m175, pm_m176, pm_m177, pm_m178, pm_m179, pm_m180, pm_m181, pm_m182, pm_m183, pm_m184, pm_m185, pm_m186, pm_m187, pm_m188, pm_m189, pm_m190, pm_m191, pm_m192, pm_m193, pm_m194, pm_m195, pm_m196, pm_m197, pm_m198, pm_m199, pm_m200, pm_m201, pm_m202, pm_m203, pm_m204, pm_m205, pm_m206, pm_m207, pm_m208, pm_m209, pm_m210, pm_m211, pm_m212, pm_m213, pm_m214, pm_m215, pm_m216, pm_m217, pm_m218, pm_m219, pm_m220, pm_m221, pm_m222, pm_m223, pm_m224, pm_m225, pm_m226, pm_m227, pm_m228, pm_m229, pm_m230, pm_m231, pm_m232, pm_m233, pm_m234, pm_m235, pm_m236, pm_m237, pm_m238, pm_m239, pm_m240, pm_m241, pm_m242, pm_m243, pm_m244, pm_m245, pm_m246, pm_m247, pm_m248, pm_m249, pm_m250, pm_m251, pm_m252, pm_m253, pm_m254, pm_m255, pm_m256, pm_m257, pm_m258, pm_m259, pm_m260, pm_m261, pm_m262, pm_m263, pm_m264, pm_m265, pm_m266, pm_m267, pm_m268, pm_m269, pm_m270, pm_m271, pm_m272, pm_m273, pm_m274, pm_m275, pm_m276, pm_m277, pm_m278, pm_m279, pm_m280, pm_m281, pm_m282, pm_m283, pm_m284, pm_m285, pm_m286, pm_m287, pm_m288, pm_m289, pm_m290, pm_m291, pm_m292, pm_m293, pm_m294, pm_m295, pm_m296, pm_m297, pm_m298]
set_option maxRecDepth 100000 in
theorem pm_ms_ok : ∀ (k : Nat) (q : pm_M), pm_ms[k + 1]? = some q → pm_Mok q := by
  intro k q h
  have hm : q ∈ pm_ms.tail := List.mem_of_getElem? (i := k) (by rw [List.getElem?_tail]; exact h)
  exact (show ∀ q ∈ pm_ms.tail, pm_Mok q from List.forall_mem_cons.mpr ⟨pm_m1_ok, List.forall_mem_cons.mpr ⟨pm_m2_ok, List.forall_mem_cons.mpr ⟨pm_m3_ok, List.forall_mem_cons.mpr ⟨pm_m4_ok, List.forall_mem_cons.mpr ⟨pm_m5_ok, List.forall_mem_cons.mpr ⟨pm_m6_ok, List.forall_mem_cons.mpr ⟨pm_m7_ok, List.forall_mem_cons.mpr ⟨pm_m8_ok, List.forall_mem_cons.mpr ⟨pm_m9_ok, List.forall_mem_cons.mpr ⟨pm_m10_ok, List.forall_mem_cons.mpr ⟨pm_m11_ok, List.forall_mem_cons.mpr ⟨pm_m12_ok, List.forall_mem_cons.mpr ⟨pm_m13_ok, List.forall_mem_cons.mpr ⟨pm_m14_ok, List.forall_mem_cons.mpr ⟨pm_m15_ok, List.forall_mem_cons.mpr ⟨pm_m16_ok, List.forall_mem_cons.mpr ⟨pm_m17_ok, List.forall_mem_cons.mpr ⟨pm_m18_ok, List.forall_mem_cons.mpr ⟨pm_m19_ok, List.forall_mem_cons.mpr ⟨pm_m20_ok, List.forall_mem_cons.mpr ⟨pm_m21_ok, List.forall_mem_cons.mpr ⟨pm_m22_ok, List.forall_mem_cons.mpr ⟨pm_m23_ok, List.forall_mem_cons.mpr ⟨pm_m24_ok, List.forall_mem_cons.mpr ⟨pm_m25_ok, List.forall_mem_cons.mpr ⟨pm_m26_ok, List.forall_mem_cons.mpr ⟨pm_m27_ok, List.forall_mem_cons.mpr ⟨pm_m28_ok, List.forall_mem_cons.mpr ⟨pm_m29_ok, List.forall_mem_cons.mpr ⟨pm_m30_ok, List.forall_mem_cons.mpr ⟨pm_m31_ok, List.forall_mem_cons.mpr ⟨pm_m32_ok, List.forall_mem_cons.mpr ⟨pm_m33_ok, List.forall_mem_cons.mpr ⟨pm_m34_ok, List.forall_mem_cons.mpr ⟨pm_m35_ok, List.forall_mem_cons.mpr ⟨pm_m36_ok, List.forall_mem_cons.mpr ⟨pm_m37_ok, List.forall_mem_cons.mpr ⟨pm_m38_ok, List.forall_mem_cons.mpr ⟨pm_m39_ok, List.forall_mem_cons.mpr ⟨pm_m40_ok, List.forall_mem_cons.mpr ⟨pm_m41_ok, List.forall_mem_cons.mpr ⟨pm_m42_ok, List.forall_mem_cons.mpr ⟨pm_m43_ok, List.forall_mem_cons.mpr ⟨pm_m44_ok, List.forall_mem_cons.mpr ⟨pm_m45_ok, List.forall_mem_cons.mpr ⟨pm_m46_ok, List.forall_mem_cons.mpr ⟨pm_m47_ok, List.forall_mem_cons.mpr ⟨pm_m48_ok, List.forall_mem_cons.mpr ⟨pm_m49_ok, List.forall_mem_cons.mpr ⟨pm_m50_ok, List.forall_mem_cons.mpr ⟨pm_m51_ok, List.forall_mem_cons.mpr ⟨pm_m52_ok, List.forall_mem_cons.mpr ⟨pm_m53_ok, List.forall_mem_cons.mpr ⟨pm_m54_ok, List.forall_mem_cons.mpr ⟨pm_m55_ok, List.forall_mem_cons.mpr ⟨pm_m56_ok, List.forall_mem_cons.mpr ⟨pm_m57_ok, List.forall_mem_cons.mpr ⟨pm_m58_ok, List.forall_mem_cons.mpr ⟨pm_m59_ok, List.forall_mem_cons.mpr ⟨pm_m60_ok, List.forall_mem_cons.mpr ⟨pm_m61_ok, List.forall_mem_cons.mpr ⟨pm_m62_ok, List.forall_mem_cons.mpr ⟨pm_m63_ok, List.forall_mem_cons.mpr ⟨pm_m64_ok, List.forall_mem_cons.mpr ⟨pm_m65_ok, List.forall_mem_cons.mpr ⟨pm_m66_ok, List.forall_mem_cons.mpr ⟨pm_m67_ok, List.forall_mem_cons.mpr ⟨pm_m68_ok, List.forall_mem_cons.mpr ⟨pm_m69_ok, List.forall_mem_cons.mpr ⟨pm_m70_ok, List.forall_mem_cons.mpr ⟨pm_m71_ok, List.forall_mem_cons.mpr ⟨pm_m72_ok, List.forall_mem_cons.mpr ⟨pm_m73_ok, List.forall_mem_cons.mpr ⟨pm_m74_ok, List.forall_mem_cons.mpr ⟨pm_m75_ok, List.forall_mem_cons.mpr ⟨pm_m76_ok, List.forall_mem_cons.mpr ⟨pm_m77_ok, List.forall_mem_cons.mpr ⟨pm_m78_ok, List.forall_mem_cons.mpr ⟨pm_m79_ok, List.forall_mem_cons.mpr ⟨pm_m80_ok, List.forall_mem_cons.mpr ⟨pm_m81_ok, List.forall_mem_cons.mpr ⟨pm_m82_ok, List.forall_mem_cons.mpr ⟨pm_m83_ok, List.forall_mem_cons.mpr ⟨pm_m84_ok, List.forall_mem_cons.mpr ⟨pm_m85_ok, List.forall_mem_cons.mpr ⟨pm_m86_ok, List.forall_mem_cons.mpr ⟨pm_m87_ok, List.forall_mem_cons.mpr ⟨pm_m88_ok, List.forall_mem_cons.mpr ⟨pm_m89_ok, List.forall_mem_cons.mpr ⟨pm_m90_ok, List.forall_mem_cons.mpr ⟨pm_m91_ok, List.forall_mem_cons.mpr ⟨pm_m92_ok, List.forall_mem_cons.mpr ⟨pm_m93_ok, List.forall_mem_cons.mpr ⟨pm_m94_ok, List.forall_mem_cons.mpr ⟨pm_m95_ok, List.forall_mem_cons.mpr ⟨pm_m96_ok, List.forall_mem_cons.mpr ⟨pm_m97_ok, List.forall_mem_cons.mpr ⟨pm_m98_ok, List.forall_mem_cons.mpr ⟨pm_m99_ok, List.forall_mem_cons.mpr ⟨pm_m100_ok, List.forall_mem_cons.mpr ⟨pm_m101_ok, List.forall_mem_cons.mpr ⟨pm_m102_ok, List.forall_mem_cons.mpr ⟨pm_m103_ok, List.forall_mem_cons.mpr ⟨pm_m104_ok, List.forall_mem_cons.mpr ⟨pm_m105_ok, List.forall_mem_cons.mpr ⟨pm_m106_ok, List.forall_mem_cons.mpr ⟨pm_m107_ok, List.forall_mem_cons.mpr ⟨pm_m108_ok, List.forall_mem_cons.mpr ⟨pm_m109_ok, List.forall_mem_cons.mpr ⟨pm_m110_ok, List.forall_mem_cons.mpr ⟨pm_m111_ok, List.forall_mem_cons.mpr ⟨pm_m112_ok, List.forall_mem_cons.mpr ⟨pm_m113_ok, List.forall_mem_cons.mpr ⟨pm_m114_ok, List.forall_mem_cons.mpr ⟨pm_m115_ok, List.forall_mem_cons.mpr ⟨pm_m116_ok, List.forall_mem_cons.mpr ⟨pm_m117_ok, List.forall_mem_cons.mpr ⟨pm_m118_ok, List.forall_mem_cons.mpr ⟨pm_m119_ok, List.forall_mem_cons.mpr ⟨pm_m120_ok, List.forall_mem_cons.mpr ⟨pm_m121_ok, List.forall_mem_cons.mpr ⟨pm_m122_ok, List.forall_mem_cons.mpr ⟨pm_m123_ok, List.forall_mem_cons.mpr ⟨pm_m124_ok, List.forall_mem_cons.mpr ⟨pm_m125_ok, List.forall_mem_cons.mpr ⟨pm_m126_ok, List.forall_mem_cons.mpr ⟨pm_m127_ok, List.forall_mem_cons.mpr ⟨pm_m128_ok, List.forall_mem_cons.mpr ⟨pm_m129_ok, List.forall_mem_cons.mpr ⟨pm_m130_ok, List.forall_mem_cons.mpr ⟨pm_m131_ok, List.forall_mem_cons.mpr ⟨pm_m132_ok, List.forall_mem_cons.mpr ⟨pm_m133_ok, List.forall_mem_cons.mpr ⟨pm_m134_ok, List.forall_mem_cons.mpr ⟨pm_m135_ok, List.forall_mem_cons.mpr ⟨pm_m136_ok, List.forall_mem_cons.mpr ⟨pm_m137_ok, List.forall_mem_cons.mpr ⟨pm_m138_ok, List.forall_mem_cons.mpr ⟨pm_m139_ok, List.forall_mem_cons.mpr ⟨pm_m140_ok, List.forall_mem_cons.mpr ⟨pm_m141_ok, List.forall_mem_cons.mpr ⟨pm_m142_ok, List.forall_mem_cons.mpr ⟨pm_m143_ok, List.forall_mem_cons.mpr ⟨pm_m144_ok, List.forall_mem_cons.mpr ⟨pm_m145_ok, List.forall_mem_cons.mpr ⟨pm_m146_ok, List.forall_mem_cons.mpr ⟨pm_m147_ok, List.forall_mem_cons.mpr ⟨pm_m148_ok, List.forall_mem_cons.mpr ⟨pm_m149_ok, List.forall_mem_cons.mpr ⟨pm_m150_ok, List.forall_mem_cons.mpr ⟨pm_m151_ok, List.forall_mem_cons.mpr ⟨pm_m152_ok, List.forall_mem_cons.mpr ⟨pm_m153_ok, List.forall_mem_cons.mpr ⟨pm_m154_ok, List.forall_mem_cons.mpr ⟨pm_m155_ok, List.forall_mem_cons.mpr ⟨pm_m156_ok, List.forall_mem_cons.mpr ⟨pm_m157_ok, List.forall_mem_cons.mpr ⟨pm_m158_ok, List.forall_mem_cons.mpr ⟨pm_m159_ok, List.forall_mem_cons.mpr ⟨pm_m160_ok, List.forall_mem_cons.mpr ⟨pm_m161_ok, List.forall_mem_cons.mpr ⟨pm_m162_ok, List.forall_mem_cons.mpr ⟨pm_m163_ok, List.forall_mem_cons.mpr ⟨pm_m164_ok, List.forall_mem_cons.mpr ⟨pm_m165_ok, List.forall_mem_cons.mpr ⟨pm_m166_ok, List.forall_mem_cons.mpr ⟨pm_m167_ok, List.forall_mem_cons.mpr ⟨pm_m168_ok, List.forall_mem_cons.mpr ⟨pm_m169_ok, List.forall_mem_cons.mpr ⟨pm_m170_ok, List.forall_mem_cons.mpr ⟨pm_m171_ok, List.forall_mem_cons.mpr ⟨pm_m172_ok, List.forall_mem_cons.mpr ⟨pm_m173_ok, List.forall_mem_cons.mpr ⟨pm_m174_ok, List.forall_mem_cons.mpr ⟨pm_m175_ok, List.forall_mem_cons.mpr ⟨pm_m176_ok, List.forall_mem_cons.mpr ⟨pm_m177_ok, List.forall_mem_cons.mpr ⟨pm_m178_ok, List.forall_mem_cons.mpr ⟨pm_m179_ok, List.forall_mem_cons.mpr ⟨pm_m180_ok, List.forall_mem_cons.mpr ⟨pm_m181_ok, List.forall_mem_cons.mpr ⟨pm_m182_ok, List.forall_mem_cons.mpr ⟨pm_m183_ok, List.forall_mem_cons.mpr ⟨pm_m184_ok, List.forall_mem_cons.mpr ⟨pm_m185_ok, List.forall_mem_cons.mpr ⟨pm_m186_ok, List.forall_mem_cons.mpr ⟨pm_m187_ok, List.forall_mem_cons.mpr ⟨pm_m188_ok, List.forall_mem_cons.mpr ⟨pm_m189_ok, List.forall_mem_cons.mpr ⟨pm_m190_ok, List.forall_mem_cons.mpr ⟨pm_m191_ok, List.forall_mem_cons.mpr ⟨pm_m192_ok, List.forall_mem_cons.mpr ⟨pm_m193_ok, List.forall_mem_cons.mpr ⟨pm_m194_ok, List.forall_mem_cons.mpr ⟨pm_m195_ok, List.forall_mem_cons.mpr ⟨pm_m196_ok, List.forall_mem_cons.mpr ⟨pm_m197_ok, List.forall_mem_cons.mpr ⟨pm_m198_ok, List.forall_mem_cons.mpr ⟨pm_m199_ok, List.forall_mem_cons.mpr ⟨pm_m200_ok, List.forall_mem_cons.mpr ⟨pm_m201_ok, List.forall_mem_cons.mpr ⟨pm_m202_ok, List.forall_mem_cons.mpr ⟨pm_m203_ok, List.forall_mem_cons.mpr ⟨pm_m204_ok, List.forall_mem_cons.mpr ⟨pm_m205_ok, List.forall_mem_cons.mpr ⟨pm_m206_ok, List.forall_mem_cons.mpr ⟨pm_m207_ok, List.forall_mem_cons.mpr ⟨pm_m208_ok, List.forall_mem_cons.mpr ⟨pm_m209_ok, List.forall_mem_cons.mpr ⟨pm_m210_ok, List.forall_mem_cons.mpr ⟨pm_m211_ok, List.forall_mem_cons.mpr ⟨pm_m212_ok, List.forall_mem_cons.mpr ⟨pm_m213_ok, List.forall_mem_cons.mpr ⟨pm_m214_ok, List.forall_mem_cons.mpr ⟨pm_m215_ok, List.forall_mem_cons.mpr ⟨pm_m216_ok, List.forall_mem_cons.mpr ⟨pm_m217_ok, List.forall_mem_cons.mpr ⟨pm_m218_ok, List.forall_mem_cons.mpr ⟨pm_m219_ok, List.forall_mem_cons.mpr ⟨pm_m220_ok, List.forall_mem_cons.mpr ⟨pm_m221_ok, List.forall_mem_cons.mpr ⟨pm_m222_ok, List.forall_mem_cons.mpr ⟨pm_m223_ok, List.forall_mem_cons.mpr ⟨pm_m224_ok, List.forall_mem_cons.mpr ⟨pm_m225_ok, List.forall_mem_cons.mpr ⟨pm_m226_ok, List.forall_mem_cons.mpr ⟨pm_m227_ok, List.forall_mem_cons.mpr ⟨pm_m228_ok, List.forall_mem_cons.mpr ⟨pm_m229_ok, List.forall_mem_cons.mpr ⟨pm_m230_ok, List.forall_mem_cons.mpr ⟨pm_m231_ok, List.forall_mem_cons.mpr ⟨pm_m232_ok, List.forall_mem_cons.mpr ⟨pm_m233_ok, List.forall_mem_cons.mpr ⟨pm_m234_ok, List.forall_mem_cons.mpr ⟨pm_m235_ok, List.forall_mem_cons.mpr ⟨pm_m236_ok, List.forall_mem_cons.mpr ⟨pm_m237_ok, List.forall_mem_cons.mpr ⟨pm_m238_ok, List.forall_mem_cons.mpr ⟨pm_m239_ok, List.forall_mem_cons.mpr ⟨pm_m240_ok, List.forall_mem_cons.mpr ⟨pm_m241_ok, List.forall_mem_cons.mpr ⟨pm_m242_ok, List.forall_mem_cons.mpr ⟨pm_m243_ok, List.forall_mem_cons.mpr ⟨pm_m244_ok, List.forall_mem_cons.mpr ⟨pm_m245_ok, List.forall_mem_cons.mpr ⟨pm_m246_ok, List.forall_mem_cons.mpr ⟨pm_m247_ok, List.forall_mem_cons.mpr ⟨pm_m248_ok, List.forall_mem_cons.mpr ⟨pm_m249_ok, List.forall_mem_cons.mpr ⟨pm_m250_ok, List.forall_mem_cons.mpr ⟨pm_m251_ok, List.forall_mem_cons.mpr ⟨pm_m252_ok, List.forall_mem_cons.mpr ⟨pm_m253_ok, List.forall_mem_cons.mpr ⟨pm_m254_ok, List.forall_mem_cons.mpr ⟨pm_m255_ok, List.forall_mem_cons.mpr ⟨pm_m256_ok, List.forall_mem_cons.mpr ⟨pm_m257_ok, List.forall_mem_cons.mpr ⟨pm_m258_ok, List.forall_mem_cons.mpr ⟨pm_m259_ok, List.forall_mem_cons.mpr ⟨pm_m260_ok, List.forall_mem_cons.mpr ⟨pm_m261_ok, List.forall_mem_cons.mpr ⟨pm_m262_ok, List.forall_mem_cons.mpr ⟨pm_m263_ok, List.forall_mem_cons.mpr ⟨pm_m264_ok, List.forall_mem_cons.mpr ⟨pm_m265_ok, List.forall_mem_cons.mpr ⟨pm_m266_ok, List.forall_mem_cons.mpr ⟨pm_m267_ok, List.forall_mem_cons.mpr ⟨pm_m268_ok, List.forall_mem_cons.mpr ⟨pm_m269_ok, List.forall_mem_cons.mpr ⟨pm_m270_ok, List.forall_mem_cons.mpr ⟨pm_m271_ok, List.forall_mem_cons.mpr ⟨pm_m272_ok, List.forall_mem_cons.mpr ⟨pm_m273_ok, List.forall_mem_cons.mpr ⟨pm_m274_ok, List.forall_mem_cons.mpr ⟨pm_m275_ok, List.forall_mem_cons.mpr ⟨pm_m276_ok, List.forall_mem_cons.mpr ⟨pm_m277_ok, List.forall_mem_cons.mpr ⟨pm_m278_ok, List.forall_mem_cons.mpr ⟨pm_m279_ok, List.forall_mem_cons.mpr ⟨pm_m280_ok, List.forall_mem_cons.mpr ⟨pm_m281_ok, List.forall_mem_cons.mpr ⟨pm_m282_ok, List.forall_mem_cons.mpr ⟨pm_m283_ok, List.forall_mem_cons.mpr ⟨pm_m284_ok, List.forall_mem_cons.mpr ⟨pm_m285_ok, List.forall_mem_cons.mpr ⟨pm_m286_ok, List.forall_mem_cons.mpr ⟨pm_m287_ok, List.forall_mem_cons.mpr ⟨pm_m288_ok, List.forall_mem_cons.mpr ⟨pm_m289_ok, List.forall_mem_cons.mpr ⟨pm_m290_ok, List.forall_mem_cons.mpr ⟨pm_m291_ok, List.forall_mem_cons.mpr ⟨pm_m292_ok, List.forall_mem_cons.mpr ⟨pm_m293_ok, List.forall_mem_cons.mpr ⟨pm_m294_ok, List.forall_mem_cons.mpr ⟨pm_m295_ok, List.forall_mem_cons.mpr ⟨pm_m296_ok, List.forall_mem_cons.mpr ⟨pm_m297_ok, List.forall_mem_cons.mpr ⟨pm_m298_ok, fun _ h => absurd h List.not_mem_nil⟩⟩⟩⟩⟩⟩⟩⟩⟩⟩⟩⟩⟩⟩⟩⟩⟩⟩⟩⟩⟩⟩⟩⟩⟩⟩⟩⟩⟩⟩⟩⟩⟩⟩⟩⟩⟩⟩⟩⟩⟩⟩⟩⟩⟩⟩⟩⟩⟩⟩⟩⟩⟩⟩⟩⟩⟩⟩⟩⟩⟩⟩⟩⟩⟩⟩⟩⟩⟩⟩⟩⟩⟩⟩⟩⟩⟩⟩⟩⟩⟩⟩⟩⟩⟩⟩⟩⟩⟩⟩⟩⟩⟩⟩⟩⟩⟩⟩⟩⟩⟩⟩⟩⟩⟩⟩⟩⟩⟩⟩⟩⟩⟩⟩⟩⟩⟩⟩⟩⟩⟩⟩⟩⟩⟩⟩⟩⟩⟩⟩⟩⟩⟩⟩⟩⟩⟩⟩⟩⟩⟩⟩⟩⟩⟩⟩⟩⟩⟩⟩⟩⟩⟩⟩⟩⟩⟩⟩⟩⟩⟩⟩⟩⟩⟩⟩⟩⟩⟩⟩⟩⟩⟩⟩⟩⟩⟩⟩⟩⟩⟩⟩⟩⟩⟩⟩⟩⟩⟩⟩⟩⟩⟩⟩⟩⟩⟩⟩⟩⟩⟩⟩⟩⟩⟩⟩⟩⟩⟩⟩⟩⟩⟩⟩⟩⟩⟩⟩⟩⟩⟩⟩⟩⟩⟩⟩⟩⟩⟩⟩⟩⟩⟩⟩⟩⟩⟩⟩⟩⟩⟩⟩⟩⟩⟩⟩⟩⟩⟩⟩⟩⟩⟩⟩⟩⟩⟩⟩⟩⟩⟩⟩⟩⟩⟩⟩⟩⟩⟩⟩⟩⟩⟩⟩⟩⟩⟩⟩⟩⟩⟩⟩⟩⟩⟩⟩⟩⟩⟩⟩⟩⟩⟩⟩⟩⟩⟩⟩) q hm
