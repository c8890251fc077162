def pm_own : List String := ["SilentTableLaw", "SilentTable", "SilentTable$Told", "SilentTable$TextReader", "SilentTable$Tokens", "SilentTable$MeaningChart", "SilentTable$TreeChart", "java/util/Arrays", "java/lang/String", "java/lang/StringLatin1", "jdk/internal/util/Preconditions", "java/lang/StringUTF16", "SilentTable$SignList", "SilentTable$SignRow", "SilentTable$Meal", "SilentTable$House", "SilentTable$WayChart", "java/lang/Long", "java/lang/Integer", "SilentTable$ShortRows", "SilentTableModel"]
def pm_ow (c : Nat) : String := pm_own.getD c ""
def pm_find {α : Type} : List (Nat × α) → Nat → Option α
  | [], _ => none
  | a :: l, k => cond (Nat.beq k a.1) (some a.2) (pm_find l k)
set_option maxRecDepth 100000 in
theorem pm_find_mem {α : Type} : ∀ (l : List (Nat × α)) (k : Nat) (v : α), pm_find l k = some v → (k, v) ∈ l
  | [], _, _, h => by cases h
  | a :: l, k, v, h => by
    unfold pm_find at h
    cases hb : Nat.beq k a.1 with
    | true =>
      rw [hb] at h
      have e : a.2 = v := Option.some.inj h
      have e1 : k = a.1 := Nat.eq_of_beq_eq_true hb
      rw [← e, e1]
      exact List.mem_cons_self
    | false =>
      rw [hb] at h
      exact List.mem_cons_of_mem _ (pm_find_mem l k v h)
/-- a field: class, place; nest: 1 -/
def pm_Fok (c : Nat) (x : Nat × Nat × Nat × Bool) : Prop := ∃ q : vw_C, pm_cl[x.2.1]? = some q ∧ x.2.2.1 < q.2.2 ∧ (if x.2.2.2 = true then (Cond.fieldLinkNest (pm_ow c) x.1 (q.2.1 x.2.2.1).1 (q.2.1 x.2.2.1).2.1 (q.2.1 x.2.2.1).2.2.1 "SilentTable") ∈ lw_tbl else pm_G (.fieldLink (pm_ow c) x.1 (q.2.1 x.2.2.1).1 (q.2.1 x.2.2.1).2.1 (q.2.1 x.2.2.1).2.2.1))
def pm_F0 : List (Nat × Nat × Nat × Bool) := []
set_option maxRecDepth 100000 in
theorem pm_F0_ok : ∀ x ∈ pm_F0, pm_Fok 0 x := fun _ h => absurd h List.not_mem_nil
def pm_F1 : List (Nat × Nat × Nat × Bool) := [(24, 8, 0, false), (72, 8, 1, false), (80, 8, 2, false), (83, 8, 3, false), (98, 8, 4, false), (107, 8, 5, false), (114, 8, 6, false), (121, 8, 7, false), (86, 8, 8, false), (93, 6, 1, false), (94, 6, 2, false), (173, 9, 0, false), (205, 9, 1, false), (199, 9, 2, false), (202, 9, 3, false), (14, 11, 0, false), (18, 11, 1, false), (31, 11, 2, false), (38, 11, 3, false), (45, 11, 4, false), (49, 11, 5, false), (59, 11, 6, false), (63, 11, 7, false), (66, 11, 8, false), (69, 11, 9, false), (136, 4, 0, false), (145, 4, 1, false), (139, 4, 2, false), (148, 4, 3, false), (142, 4, 4, false), (237, 4, 6, false), (244, 4, 7, false), (155, 5, 0, false), (160, 5, 1, false), (304, 1, 0, false), (307, 1, 1, false), (317, 1, 2, false), (323, 1, 3, false), (314, 1, 4, false), (357, 0, 0, false), (360, 0, 1, false), (194, 10, 0, false), (279, 3, 0, false)]
set_option maxRecDepth 100000 in
theorem pm_F1_ok : ∀ x ∈ pm_F1, pm_Fok 1 x := List.forall_mem_cons.mpr ⟨⟨_, rfl, by decide, ⟨List.mem_append_right _ tq_1_6.1, rfl⟩⟩, List.forall_mem_cons.mpr ⟨⟨_, rfl, by decide, ⟨List.mem_append_right _ tq_1_6.2.2.1, rfl⟩⟩, List.forall_mem_cons.mpr ⟨⟨_, rfl, by decide, ⟨List.mem_append_right _ tq_1_6.2.2.2.2.1, rfl⟩⟩, List.forall_mem_cons.mpr ⟨⟨_, rfl, by decide, ⟨List.mem_append_right _ tq_1_6.2.2.2.2.2.2.1, rfl⟩⟩, List.forall_mem_cons.mpr ⟨⟨_, rfl, by decide, ⟨List.mem_append_right _ tq_1_7.1, rfl⟩⟩, List.forall_mem_cons.mpr ⟨⟨_, rfl, by decide, ⟨List.mem_append_right _ tq_1_7.2.2.1, rfl⟩⟩, List.forall_mem_cons.mpr ⟨⟨_, rfl, by decide, ⟨List.mem_append_right _ tq_1_7.2.2.2.2.1, rfl⟩⟩, List.forall_mem_cons.mpr ⟨⟨_, rfl, by decide, ⟨List.mem_append_right _ tq_1_7.2.2.2.2.2.2.1, rfl⟩⟩, List.forall_mem_cons.mpr ⟨⟨_, rfl, by decide, ⟨List.mem_append_right _ tq_1_8.1, rfl⟩⟩, List.forall_mem_cons.mpr ⟨⟨_, rfl, by decide, ⟨List.mem_append_right _ tq_1_15.2.2.2.1, rfl⟩⟩, List.forall_mem_cons.mpr ⟨⟨_, rfl, by decide, ⟨List.mem_append_right _ tq_1_15.2.2.2.2.2.1, rfl⟩⟩, List.forall_mem_cons.mpr ⟨⟨_, rfl, by decide, ⟨List.mem_append_right _ tq_1_23.2.2.2.2.1, rfl⟩⟩, List.forall_mem_cons.mpr ⟨⟨_, rfl, by decide, ⟨List.mem_append_right _ tq_1_23.2.2.2.2.2.2.1, rfl⟩⟩, List.forall_mem_cons.mpr ⟨⟨_, rfl, by decide, ⟨List.mem_append_right _ tq_1_24.1, rfl⟩⟩, List.forall_mem_cons.mpr ⟨⟨_, rfl, by decide, ⟨List.mem_append_right _ tq_1_24.2.2.1, rfl⟩⟩, List.forall_mem_cons.mpr ⟨⟨_, rfl, by decide, ⟨List.mem_append_right _ tq_1_27.2.2.1, rfl⟩⟩, List.forall_mem_cons.mpr ⟨⟨_, rfl, by decide, ⟨List.mem_append_right _ tq_1_27.2.2.2.1, rfl⟩⟩, List.forall_mem_cons.mpr ⟨⟨_, rfl, by decide, ⟨List.mem_append_right _ tq_1_27.2.2.2.2.1, rfl⟩⟩, List.forall_mem_cons.mpr ⟨⟨_, rfl, by decide, ⟨List.mem_append_right _ tq_1_27.2.2.2.2.2.1, rfl⟩⟩, List.forall_mem_cons.mpr ⟨⟨_, rfl, by decide, ⟨List.mem_append_right _ tq_1_27.2.2.2.2.2.2.1, rfl⟩⟩, List.forall_mem_cons.mpr ⟨⟨_, rfl, by decide, ⟨List.mem_append_right _ tq_1_27.2.2.2.2.2.2.2.1, rfl⟩⟩, List.forall_mem_cons.mpr ⟨⟨_, rfl, by decide, ⟨List.mem_append_right _ tq_1_28.1, rfl⟩⟩, List.forall_mem_cons.mpr ⟨⟨_, rfl, by decide, ⟨List.mem_append_right _ tq_1_28.2.1, rfl⟩⟩, List.forall_mem_cons.mpr ⟨⟨_, rfl, by decide, ⟨List.mem_append_right _ tq_1_28.2.2.1, rfl⟩⟩, List.forall_mem_cons.mpr ⟨⟨_, rfl, by decide, ⟨List.mem_append_right _ tq_1_28.2.2.2.1, rfl⟩⟩, List.forall_mem_cons.mpr ⟨⟨_, rfl, by decide, ⟨List.mem_append_right _ tq_2_25.2.2.2.2.2.1, rfl⟩⟩, List.forall_mem_cons.mpr ⟨⟨_, rfl, by decide, ⟨List.mem_append_right _ tq_2_26.2.2.2.1, rfl⟩⟩, List.forall_mem_cons.mpr ⟨⟨_, rfl, by decide, ⟨List.mem_append_right _ tq_2_27.1, rfl⟩⟩, List.forall_mem_cons.mpr ⟨⟨_, rfl, by decide, ⟨List.mem_append_right _ tq_2_27.2.2.2.2.2.1, rfl⟩⟩, List.forall_mem_cons.mpr ⟨⟨_, rfl, by decide, ⟨List.mem_append_right _ tq_2_27.2.2.2.2.2.2.2.1, rfl⟩⟩, List.forall_mem_cons.mpr ⟨⟨_, rfl, by decide, ⟨List.mem_append_right _ tq_2_28.2.2.2.2.1, rfl⟩⟩, List.forall_mem_cons.mpr ⟨⟨_, rfl, by decide, ⟨List.mem_append_right _ tq_2_28.2.2.2.2.2.2.1, rfl⟩⟩, List.forall_mem_cons.mpr ⟨⟨_, rfl, by decide, ⟨List.mem_append_right _ tq_3_2.2.2.1, rfl⟩⟩, List.forall_mem_cons.mpr ⟨⟨_, rfl, by decide, ⟨List.mem_append_right _ tq_3_2.2.2.2.2.2.2.1, rfl⟩⟩, List.forall_mem_cons.mpr ⟨⟨_, rfl, by decide, ⟨List.mem_append_right _ tq_3_6.2.2.2.2.2.2.2.1, rfl⟩⟩, List.forall_mem_cons.mpr ⟨⟨_, rfl, by decide, ⟨List.mem_append_right _ tq_3_7.2.2.1, rfl⟩⟩, List.forall_mem_cons.mpr ⟨⟨_, rfl, by decide, ⟨List.mem_append_right _ tq_3_7.2.2.2.2.1, rfl⟩⟩, List.forall_mem_cons.mpr ⟨⟨_, rfl, by decide, ⟨List.mem_append_right _ tq_3_7.2.2.2.2.2.2.1, rfl⟩⟩, List.forall_mem_cons.mpr ⟨⟨_, rfl, by decide, ⟨List.mem_append_right _ tq_3_8.2.1, rfl⟩⟩, List.forall_mem_cons.mpr ⟨⟨_, rfl, by decide, ⟨List.mem_append_right _ tq_3_10.2.2.2.2.2.1, rfl⟩⟩, List.forall_mem_cons.mpr ⟨⟨_, rfl, by decide, ⟨List.mem_append_right _ tq_3_10.2.2.2.2.2.2.2.1, rfl⟩⟩, List.forall_mem_cons.mpr ⟨⟨_, rfl, by decide, ⟨List.mem_append_right _ tq_3_26.2.2.2.2.2.2.1, rfl⟩⟩, List.forall_mem_cons.mpr ⟨⟨_, rfl, by decide, ⟨List.mem_append_right _ tq_4_20.1, rfl⟩⟩, fun _ h => absurd h List.not_mem_nil⟩⟩⟩⟩⟩⟩⟩⟩⟩⟩⟩⟩⟩⟩⟩⟩⟩⟩⟩⟩⟩⟩⟩⟩⟩⟩⟩⟩⟩⟩⟩⟩⟩⟩⟩⟩⟩⟩⟩⟩⟩⟩⟩
def pm_F2 : List (Nat × Nat × Nat × Bool) := [(9, 8, 0, false), (15, 8, 1, false), (19, 8, 2, false), (22, 8, 3, false), (31, 8, 4, false), (37, 8, 5, false), (43, 8, 6, false), (49, 8, 7, false), (53, 8, 8, false)]
set_option maxRecDepth 100000 in
theorem pm_F2_ok : ∀ x ∈ pm_F2, pm_Fok 2 x := List.forall_mem_cons.mpr ⟨⟨_, rfl, by decide, ⟨List.mem_append_right _ tq_1_5.2.2.2.2.2.2.2.1, rfl⟩⟩, List.forall_mem_cons.mpr ⟨⟨_, rfl, by decide, ⟨List.mem_append_right _ tq_1_6.2.1, rfl⟩⟩, List.forall_mem_cons.mpr ⟨⟨_, rfl, by decide, ⟨List.mem_append_right _ tq_1_6.2.2.2.1, rfl⟩⟩, List.forall_mem_cons.mpr ⟨⟨_, rfl, by decide, ⟨List.mem_append_right _ tq_1_6.2.2.2.2.2.1, rfl⟩⟩, List.forall_mem_cons.mpr ⟨⟨_, rfl, by decide, ⟨List.mem_append_right _ tq_1_6.2.2.2.2.2.2.2.1, rfl⟩⟩, List.forall_mem_cons.mpr ⟨⟨_, rfl, by decide, ⟨List.mem_append_right _ tq_1_7.2.1, rfl⟩⟩, List.forall_mem_cons.mpr ⟨⟨_, rfl, by decide, ⟨List.mem_append_right _ tq_1_7.2.2.2.1, rfl⟩⟩, List.forall_mem_cons.mpr ⟨⟨_, rfl, by decide, ⟨List.mem_append_right _ tq_1_7.2.2.2.2.2.1, rfl⟩⟩, List.forall_mem_cons.mpr ⟨⟨_, rfl, by decide, ⟨List.mem_append_right _ tq_1_7.2.2.2.2.2.2.2.1, rfl⟩⟩, fun _ h => absurd h List.not_mem_nil⟩⟩⟩⟩⟩⟩⟩⟩⟩
def pm_F3 : List (Nat × Nat × Nat × Bool) := [(67, 7, 3, false), (83, 7, 4, false), (86, 7, 5, false), (48, 6, 0, false), (9, 6, 1, false), (15, 6, 2, false), (18, 6, 3, false), (22, 6, 4, false), (25, 6, 5, false), (28, 6, 6, false), (31, 6, 7, false), (34, 6, 8, false), (37, 6, 9, false), (40, 6, 10, false)]
set_option maxRecDepth 100000 in
theorem pm_F3_ok : ∀ x ∈ pm_F3, pm_Fok 3 x := List.forall_mem_cons.mpr ⟨⟨_, rfl, by decide, ⟨List.mem_append_right _ tq_1_12.2.2.2.2.2.2.2.1, rfl⟩⟩, List.forall_mem_cons.mpr ⟨⟨_, rfl, by decide, ⟨List.mem_append_right _ tq_1_13.2.1, rfl⟩⟩, List.forall_mem_cons.mpr ⟨⟨_, rfl, by decide, ⟨List.mem_append_right _ tq_1_13.2.2.2.1, rfl⟩⟩, List.forall_mem_cons.mpr ⟨⟨_, rfl, by decide, ⟨List.mem_append_right _ tq_1_15.2.1, rfl⟩⟩, List.forall_mem_cons.mpr ⟨⟨_, rfl, by decide, ⟨List.mem_append_right _ tq_1_15.2.2.1, rfl⟩⟩, List.forall_mem_cons.mpr ⟨⟨_, rfl, by decide, ⟨List.mem_append_right _ tq_1_15.2.2.2.2.1, rfl⟩⟩, List.forall_mem_cons.mpr ⟨⟨_, rfl, by decide, ⟨List.mem_append_right _ tq_1_16.1, rfl⟩⟩, List.forall_mem_cons.mpr ⟨⟨_, rfl, by decide, ⟨List.mem_append_right _ tq_1_16.2.2.2.2.2.2.2.1, rfl⟩⟩, List.forall_mem_cons.mpr ⟨⟨_, rfl, by decide, ⟨List.mem_append_right _ tq_1_17.1, rfl⟩⟩, List.forall_mem_cons.mpr ⟨⟨_, rfl, by decide, ⟨List.mem_append_right _ tq_1_17.2.2.1, rfl⟩⟩, List.forall_mem_cons.mpr ⟨⟨_, rfl, by decide, ⟨List.mem_append_right _ tq_1_17.2.2.2.2.1, rfl⟩⟩, List.forall_mem_cons.mpr ⟨⟨_, rfl, by decide, ⟨List.mem_append_right _ tq_1_17.2.2.2.2.2.2.2.1, rfl⟩⟩, List.forall_mem_cons.mpr ⟨⟨_, rfl, by decide, ⟨List.mem_append_right _ tq_1_18.1, rfl⟩⟩, List.forall_mem_cons.mpr ⟨⟨_, rfl, by decide, ⟨List.mem_append_right _ tq_1_18.2.1, rfl⟩⟩, fun _ h => absurd h List.not_mem_nil⟩⟩⟩⟩⟩⟩⟩⟩⟩⟩⟩⟩⟩⟩
def pm_F4 : List (Nat × Nat × Nat × Bool) := [(27, 7, 0, false), (9, 7, 1, false), (15, 7, 2, false), (18, 7, 3, false), (21, 7, 4, false), (24, 7, 5, false)]
set_option maxRecDepth 100000 in
theorem pm_F4_ok : ∀ x ∈ pm_F4, pm_Fok 4 x := List.forall_mem_cons.mpr ⟨⟨_, rfl, by decide, ⟨List.mem_append_right _ tq_1_12.2.2.2.1, rfl⟩⟩, List.forall_mem_cons.mpr ⟨⟨_, rfl, by decide, ⟨List.mem_append_right _ tq_1_12.2.2.2.2.1, rfl⟩⟩, List.forall_mem_cons.mpr ⟨⟨_, rfl, by decide, ⟨List.mem_append_right _ tq_1_12.2.2.2.2.2.1, rfl⟩⟩, List.forall_mem_cons.mpr ⟨⟨_, rfl, by decide, ⟨List.mem_append_right _ tq_1_12.2.2.2.2.2.2.1, rfl⟩⟩, List.forall_mem_cons.mpr ⟨⟨_, rfl, by decide, ⟨List.mem_append_right _ tq_1_13.1, rfl⟩⟩, List.forall_mem_cons.mpr ⟨⟨_, rfl, by decide, ⟨List.mem_append_right _ tq_1_13.2.2.1, rfl⟩⟩, fun _ h => absurd h List.not_mem_nil⟩⟩⟩⟩⟩⟩
def pm_F5 : List (Nat × Nat × Nat × Bool) := [(9, 2, 0, false), (37, 4, 0, false), (41, 4, 1, false), (32, 4, 5, false)]
set_option maxRecDepth 100000 in
theorem pm_F5_ok : ∀ x ∈ pm_F5, pm_Fok 5 x := List.forall_mem_cons.mpr ⟨⟨_, rfl, by decide, ⟨List.mem_append_right _ tq_1_21.2.2.2.2.2.2.2.1, rfl⟩⟩, List.forall_mem_cons.mpr ⟨⟨_, rfl, by decide, ⟨List.mem_append_right _ tq_2_25.2.2.2.1, rfl⟩⟩, List.forall_mem_cons.mpr ⟨⟨_, rfl, by decide, ⟨List.mem_append_right _ tq_2_26.2.1, rfl⟩⟩, List.forall_mem_cons.mpr ⟨⟨_, rfl, by decide, ⟨List.mem_append_right _ tq_2_28.2.1, rfl⟩⟩, fun _ h => absurd h List.not_mem_nil⟩⟩⟩⟩
def pm_F6 : List (Nat × Nat × Nat × Bool) := [(9, 9, 0, false), (15, 9, 1, false), (19, 9, 2, false), (23, 9, 3, false), (26, 9, 4, false), (29, 9, 5, false), (33, 9, 6, false), (71, 4, 0, false), (74, 4, 1, false), (56, 4, 2, false), (61, 4, 3, false), (43, 5, 0, false), (64, 5, 1, false)]
set_option maxRecDepth 100000 in
theorem pm_F6_ok : ∀ x ∈ pm_F6, pm_Fok 6 x := List.forall_mem_cons.mpr ⟨⟨_, rfl, by decide, ⟨List.mem_append_right _ tq_1_23.2.2.1, rfl⟩⟩, List.forall_mem_cons.mpr ⟨⟨_, rfl, by decide, ⟨List.mem_append_right _ tq_1_23.2.2.2.2.2.1, rfl⟩⟩, List.forall_mem_cons.mpr ⟨⟨_, rfl, by decide, ⟨List.mem_append_right _ tq_1_23.2.2.2.2.2.2.2.1, rfl⟩⟩, List.forall_mem_cons.mpr ⟨⟨_, rfl, by decide, ⟨List.mem_append_right _ tq_1_24.2.1, rfl⟩⟩, List.forall_mem_cons.mpr ⟨⟨_, rfl, by decide, ⟨List.mem_append_right _ tq_1_24.2.2.2.1, rfl⟩⟩, List.forall_mem_cons.mpr ⟨⟨_, rfl, by decide, ⟨List.mem_append_right _ tq_1_24.2.2.2.2.1, rfl⟩⟩, List.forall_mem_cons.mpr ⟨⟨_, rfl, by decide, ⟨List.mem_append_right _ tq_1_24.2.2.2.2.2.2.1, rfl⟩⟩, List.forall_mem_cons.mpr ⟨⟨_, rfl, by decide, ⟨List.mem_append_right _ tq_2_25.2.1, rfl⟩⟩, List.forall_mem_cons.mpr ⟨⟨_, rfl, by decide, ⟨List.mem_append_right _ tq_2_25.2.2.2.2.2.2.2.1, rfl⟩⟩, List.forall_mem_cons.mpr ⟨⟨_, rfl, by decide, ⟨List.mem_append_right _ tq_2_26.2.2.2.2.2.1, rfl⟩⟩, List.forall_mem_cons.mpr ⟨⟨_, rfl, by decide, ⟨List.mem_append_right _ tq_2_27.2.2.1, rfl⟩⟩, List.forall_mem_cons.mpr ⟨⟨_, rfl, by decide, ⟨List.mem_append_right _ tq_3_2.1, rfl⟩⟩, List.forall_mem_cons.mpr ⟨⟨_, rfl, by decide, ⟨List.mem_append_right _ tq_3_2.2.2.2.2.1, rfl⟩⟩, fun _ h => absurd h List.not_mem_nil⟩⟩⟩⟩⟩⟩⟩⟩⟩⟩⟩⟩⟩
def pm_F7 : List (Nat × Nat × Nat × Bool) := []
set_option maxRecDepth 100000 in
theorem pm_F7_ok : ∀ x ∈ pm_F7, pm_Fok 7 x := fun _ h => absurd h List.not_mem_nil
def pm_F8 : List (Nat × Nat × Nat × Bool) := []
set_option maxRecDepth 100000 in
theorem pm_F8_ok : ∀ x ∈ pm_F8, pm_Fok 8 x := fun _ h => absurd h List.not_mem_nil
def pm_F9 : List (Nat × Nat × Nat × Bool) := []
set_option maxRecDepth 100000 in
theorem pm_F9_ok : ∀ x ∈ pm_F9, pm_Fok 9 x := fun _ h => absurd h List.not_mem_nil
def pm_F10 : List (Nat × Nat × Nat × Bool) := []
set_option maxRecDepth 100000 in
theorem pm_F10_ok : ∀ x ∈ pm_F10, pm_Fok 10 x := fun _ h => absurd h List.not_mem_nil
def pm_F11 : List (Nat × Nat × Nat × Bool) := []
set_option maxRecDepth 100000 in
theorem pm_F11_ok : ∀ x ∈ pm_F11, pm_Fok 11 x := fun _ h => absurd h List.not_mem_nil
def pm_F12 : List (Nat × Nat × Nat × Bool) := [(28, 6, 3, false), (19, 6, 4, false), (44, 6, 5, false), (40, 6, 6, false), (48, 6, 7, false), (25, 4, 0, false), (37, 4, 1, false), (43, 4, 2, false), (47, 4, 3, false), (56, 4, 4, false), (9, 4, 5, false), (15, 4, 6, false), (61, 4, 7, false)]
set_option maxRecDepth 100000 in
theorem pm_F12_ok : ∀ x ∈ pm_F12, pm_Fok 12 x := List.forall_mem_cons.mpr ⟨⟨_, rfl, by decide, ⟨List.mem_append_right _ tq_1_16.2.2.1, rfl⟩⟩, List.forall_mem_cons.mpr ⟨⟨_, rfl, by decide, ⟨List.mem_append_right _ tq_1_16.2.2.2.2.2.2.1, rfl⟩⟩, List.forall_mem_cons.mpr ⟨⟨_, rfl, by decide, ⟨List.mem_append_right _ tq_1_17.2.1, rfl⟩⟩, List.forall_mem_cons.mpr ⟨⟨_, rfl, by decide, ⟨List.mem_append_right _ tq_1_17.2.2.2.1, rfl⟩⟩, List.forall_mem_cons.mpr ⟨⟨_, rfl, by decide, ⟨List.mem_append_right _ tq_1_17.2.2.2.2.2.1, rfl⟩⟩, List.forall_mem_cons.mpr ⟨⟨_, rfl, by decide, ⟨List.mem_append_right _ tq_2_25.1, rfl⟩⟩, List.forall_mem_cons.mpr ⟨⟨_, rfl, by decide, ⟨List.mem_append_right _ tq_2_25.2.2.2.2.2.2.1, rfl⟩⟩, List.forall_mem_cons.mpr ⟨⟨_, rfl, by decide, ⟨List.mem_append_right _ tq_2_26.2.2.2.2.1, rfl⟩⟩, List.forall_mem_cons.mpr ⟨⟨_, rfl, by decide, ⟨List.mem_append_right _ tq_2_27.2.1, rfl⟩⟩, List.forall_mem_cons.mpr ⟨⟨_, rfl, by decide, ⟨List.mem_append_right _ tq_2_27.2.2.2.2.2.2.1, rfl⟩⟩, List.forall_mem_cons.mpr ⟨⟨_, rfl, by decide, ⟨List.mem_append_right _ tq_2_28.1, rfl⟩⟩, List.forall_mem_cons.mpr ⟨⟨_, rfl, by decide, ⟨List.mem_append_right _ tq_2_28.2.2.1, rfl⟩⟩, List.forall_mem_cons.mpr ⟨⟨_, rfl, by decide, ⟨List.mem_append_right _ tq_2_28.2.2.2.2.2.1, rfl⟩⟩, fun _ h => absurd h List.not_mem_nil⟩⟩⟩⟩⟩⟩⟩⟩⟩⟩⟩⟩⟩
def pm_F13 : List (Nat × Nat × Nat × Bool) := [(18, 6, 3, false), (7, 6, 4, false), (13, 5, 0, false), (28, 5, 1, false)]
set_option maxRecDepth 100000 in
theorem pm_F13_ok : ∀ x ∈ pm_F13, pm_Fok 13 x := List.forall_mem_cons.mpr ⟨⟨_, rfl, by decide, ⟨List.mem_append_right _ tq_1_15.2.2.2.2.2.2.1, rfl⟩⟩, List.forall_mem_cons.mpr ⟨⟨_, rfl, by decide, ⟨List.mem_append_right _ tq_1_16.2.2.2.1, rfl⟩⟩, List.forall_mem_cons.mpr ⟨⟨_, rfl, by decide, ⟨List.mem_append_right _ tq_3_1.2.2.2.2.2.2.2.1, rfl⟩⟩, List.forall_mem_cons.mpr ⟨⟨_, rfl, by decide, ⟨List.mem_append_right _ tq_3_2.2.2.2.1, rfl⟩⟩, fun _ h => absurd h List.not_mem_nil⟩⟩⟩⟩
def pm_F14 : List (Nat × Nat × Nat × Bool) := [(24, 6, 3, false), (18, 6, 4, false), (9, 6, 8, false), (15, 1, 0, false), (21, 1, 1, false), (34, 1, 2, false), (37, 1, 3, false), (40, 1, 4, false)]
set_option maxRecDepth 100000 in
theorem pm_F14_ok : ∀ x ∈ pm_F14, pm_Fok 14 x := List.forall_mem_cons.mpr ⟨⟨_, rfl, by decide, ⟨List.mem_append_right _ tq_1_16.2.1, rfl⟩⟩, List.forall_mem_cons.mpr ⟨⟨_, rfl, by decide, ⟨List.mem_append_right _ tq_1_16.2.2.2.2.2.1, rfl⟩⟩, List.forall_mem_cons.mpr ⟨⟨_, rfl, by decide, ⟨List.mem_append_right _ tq_1_17.2.2.2.2.2.2.1, rfl⟩⟩, List.forall_mem_cons.mpr ⟨⟨_, rfl, by decide, ⟨List.mem_append_right _ tq_3_6.2.2.2.2.2.2.1, rfl⟩⟩, List.forall_mem_cons.mpr ⟨⟨_, rfl, by decide, ⟨List.mem_append_right _ tq_3_7.1, rfl⟩⟩, List.forall_mem_cons.mpr ⟨⟨_, rfl, by decide, ⟨List.mem_append_right _ tq_3_7.2.2.2.1, rfl⟩⟩, List.forall_mem_cons.mpr ⟨⟨_, rfl, by decide, ⟨List.mem_append_right _ tq_3_7.2.2.2.2.2.1, rfl⟩⟩, List.forall_mem_cons.mpr ⟨⟨_, rfl, by decide, ⟨List.mem_append_right _ tq_3_7.2.2.2.2.2.2.2.1, rfl⟩⟩, fun _ h => absurd h List.not_mem_nil⟩⟩⟩⟩⟩⟩⟩⟩
def pm_F15 : List (Nat × Nat × Nat × Bool) := [(20, 6, 3, false), (9, 6, 4, false), (37, 1, 1, false), (57, 1, 4, false), (15, 0, 0, false), (30, 0, 1, false)]
set_option maxRecDepth 100000 in
theorem pm_F15_ok : ∀ x ∈ pm_F15, pm_Fok 15 x := List.forall_mem_cons.mpr ⟨⟨_, rfl, by decide, ⟨List.mem_append_right _ tq_1_15.2.2.2.2.2.2.2.1, rfl⟩⟩, List.forall_mem_cons.mpr ⟨⟨_, rfl, by decide, ⟨List.mem_append_right _ tq_1_16.2.2.2.2.1, rfl⟩⟩, List.forall_mem_cons.mpr ⟨⟨_, rfl, by decide, ⟨List.mem_append_right _ tq_3_7.2.1, rfl⟩⟩, List.forall_mem_cons.mpr ⟨⟨_, rfl, by decide, ⟨List.mem_append_right _ tq_3_8.1, rfl⟩⟩, List.forall_mem_cons.mpr ⟨⟨_, rfl, by decide, ⟨List.mem_append_right _ tq_3_10.2.2.2.2.1, rfl⟩⟩, List.forall_mem_cons.mpr ⟨⟨_, rfl, by decide, ⟨List.mem_append_right _ tq_3_10.2.2.2.2.2.2.1, rfl⟩⟩, fun _ h => absurd h List.not_mem_nil⟩⟩⟩⟩⟩⟩
def pm_F16 : List (Nat × Nat × Nat × Bool) := [(43, 9, 0, false), (64, 4, 0, false), (67, 4, 1, false), (48, 4, 2, false), (53, 4, 3, false), (33, 5, 0, false), (57, 5, 1, false), (9, 10, 0, false), (15, 10, 1, false), (19, 10, 2, false), (23, 9, 5, true), (26, 9, 6, true)]
set_option maxRecDepth 100000 in
theorem pm_F16_ok : ∀ x ∈ pm_F16, pm_Fok 16 x := List.forall_mem_cons.mpr ⟨⟨_, rfl, by decide, ⟨List.mem_append_right _ tq_1_23.2.2.2.1, rfl⟩⟩, List.forall_mem_cons.mpr ⟨⟨_, rfl, by decide, ⟨List.mem_append_right _ tq_2_25.2.2.1, rfl⟩⟩, List.forall_mem_cons.mpr ⟨⟨_, rfl, by decide, ⟨List.mem_append_right _ tq_2_26.1, rfl⟩⟩, List.forall_mem_cons.mpr ⟨⟨_, rfl, by decide, ⟨List.mem_append_right _ tq_2_26.2.2.2.2.2.2.1, rfl⟩⟩, List.forall_mem_cons.mpr ⟨⟨_, rfl, by decide, ⟨List.mem_append_right _ tq_2_27.2.2.2.1, rfl⟩⟩, List.forall_mem_cons.mpr ⟨⟨_, rfl, by decide, ⟨List.mem_append_right _ tq_3_2.2.1, rfl⟩⟩, List.forall_mem_cons.mpr ⟨⟨_, rfl, by decide, ⟨List.mem_append_right _ tq_3_2.2.2.2.2.2.1, rfl⟩⟩, List.forall_mem_cons.mpr ⟨⟨_, rfl, by decide, ⟨List.mem_append_right _ tq_3_26.2.2.2.2.2.1, rfl⟩⟩, List.forall_mem_cons.mpr ⟨⟨_, rfl, by decide, ⟨List.mem_append_right _ tq_3_26.2.2.2.2.2.2.2.1, rfl⟩⟩, List.forall_mem_cons.mpr ⟨⟨_, rfl, by decide, ⟨List.mem_append_right _ tq_3_27.1, rfl⟩⟩, List.forall_mem_cons.mpr ⟨⟨_, rfl, by decide, List.mem_append_right _ tq_1_24.2.2.2.2.2.1⟩, List.forall_mem_cons.mpr ⟨⟨_, rfl, by decide, List.mem_append_right _ tq_1_24.2.2.2.2.2.2.2.1⟩, fun _ h => absurd h List.not_mem_nil⟩⟩⟩⟩⟩⟩⟩⟩⟩⟩⟩⟩
def pm_F17 : List (Nat × Nat × Nat × Bool) := []
set_option maxRecDepth 100000 in
theorem pm_F17_ok : ∀ x ∈ pm_F17, pm_Fok 17 x := fun _ h => absurd h List.not_mem_nil
def pm_F18 : List (Nat × Nat × Nat × Bool) := []
set_option maxRecDepth 100000 in
theorem pm_F18_ok : ∀ x ∈ pm_F18, pm_Fok 18 x := fun _ h => absurd h List.not_mem_nil
def pm_F19 : List (Nat × Nat × Nat × Bool) := [(88, 4, 0, false), (91, 4, 1, false), (80, 4, 2, false), (85, 4, 3, false), (118, 4, 6, false), (9, 3, 0, false), (15, 3, 1, false), (19, 3, 2, false), (22, 3, 3, false), (26, 3, 4, false), (30, 3, 5, false), (34, 3, 6, false), (37, 3, 7, false), (40, 3, 8, false)]
set_option maxRecDepth 100000 in
theorem pm_F19_ok : ∀ x ∈ pm_F19, pm_Fok 19 x := List.forall_mem_cons.mpr ⟨⟨_, rfl, by decide, ⟨List.mem_append_right _ tq_2_25.2.2.2.2.1, rfl⟩⟩, List.forall_mem_cons.mpr ⟨⟨_, rfl, by decide, ⟨List.mem_append_right _ tq_2_26.2.2.1, rfl⟩⟩, List.forall_mem_cons.mpr ⟨⟨_, rfl, by decide, ⟨List.mem_append_right _ tq_2_26.2.2.2.2.2.2.2.1, rfl⟩⟩, List.forall_mem_cons.mpr ⟨⟨_, rfl, by decide, ⟨List.mem_append_right _ tq_2_27.2.2.2.2.1, rfl⟩⟩, List.forall_mem_cons.mpr ⟨⟨_, rfl, by decide, ⟨List.mem_append_right _ tq_2_28.2.2.2.1, rfl⟩⟩, List.forall_mem_cons.mpr ⟨⟨_, rfl, by decide, ⟨List.mem_append_right _ tq_4_19.2.2.2.2.2.2.2.1, rfl⟩⟩, List.forall_mem_cons.mpr ⟨⟨_, rfl, by decide, ⟨List.mem_append_right _ tq_4_20.2.1, rfl⟩⟩, List.forall_mem_cons.mpr ⟨⟨_, rfl, by decide, ⟨List.mem_append_right _ tq_4_20.2.2.1, rfl⟩⟩, List.forall_mem_cons.mpr ⟨⟨_, rfl, by decide, ⟨List.mem_append_right _ tq_4_20.2.2.2.1, rfl⟩⟩, List.forall_mem_cons.mpr ⟨⟨_, rfl, by decide, ⟨List.mem_append_right _ tq_4_20.2.2.2.2.1, rfl⟩⟩, List.forall_mem_cons.mpr ⟨⟨_, rfl, by decide, ⟨List.mem_append_right _ tq_4_20.2.2.2.2.2.1, rfl⟩⟩, List.forall_mem_cons.mpr ⟨⟨_, rfl, by decide, ⟨List.mem_append_right _ tq_4_20.2.2.2.2.2.2.1, rfl⟩⟩, List.forall_mem_cons.mpr ⟨⟨_, rfl, by decide, ⟨List.mem_append_right _ tq_4_20.2.2.2.2.2.2.2.1, rfl⟩⟩, List.forall_mem_cons.mpr ⟨⟨_, rfl, by decide, ⟨List.mem_append_right _ tq_4_21.1, rfl⟩⟩, fun _ h => absurd h List.not_mem_nil⟩⟩⟩⟩⟩⟩⟩⟩⟩⟩⟩⟩⟩⟩
def pm_F20 : List (Nat × Nat × Nat × Bool) := [(104, 12, 0, false), (9, 12, 1, false), (13, 12, 2, false), (17, 12, 3, false), (20, 12, 4, false), (23, 12, 5, false), (26, 12, 6, false), (29, 12, 7, false), (32, 12, 8, false), (35, 12, 9, false), (120, 12, 10, false), (123, 12, 11, false), (130, 12, 12, false), (137, 12, 13, false), (140, 12, 14, false), (133, 12, 15, false), (143, 12, 16, false), (146, 12, 17, false), (149, 12, 18, false), (38, 12, 19, false), (41, 12, 20, false), (193, 12, 21, false), (160, 12, 22, false), (254, 12, 23, false), (257, 12, 24, false), (44, 12, 25, false), (260, 12, 26, false), (280, 12, 27, false), (47, 12, 28, false), (51, 12, 29, false), (55, 12, 30, false), (363, 12, 31, false), (58, 12, 32, false), (61, 12, 33, false), (64, 12, 34, false), (67, 12, 35, false), (70, 12, 36, false), (73, 12, 37, false), (76, 12, 38, false), (79, 12, 39, false), (82, 12, 40, false), (85, 12, 41, false), (421, 12, 42, false), (424, 12, 43, false), (418, 12, 44, false), (88, 12, 45, false), (91, 12, 46, false), (439, 12, 47, false), (94, 12, 48, false), (457, 12, 49, false), (487, 12, 50, false), (97, 12, 51, false), (100, 12, 52, false)]
set_option maxRecDepth 100000 in
theorem pm_F20_ok : ∀ x ∈ pm_F20, pm_Fok 20 x := List.forall_mem_cons.mpr ⟨⟨_, rfl, by decide, ⟨List.mem_append_right _ tq_5_19.2.2.2.2.2.1, rfl⟩⟩, List.forall_mem_cons.mpr ⟨⟨_, rfl, by decide, ⟨List.mem_append_right _ tq_5_19.2.2.2.2.2.2.1, rfl⟩⟩, List.forall_mem_cons.mpr ⟨⟨_, rfl, by decide, ⟨List.mem_append_right _ tq_5_19.2.2.2.2.2.2.2.1, rfl⟩⟩, List.forall_mem_cons.mpr ⟨⟨_, rfl, by decide, ⟨List.mem_append_right _ tq_5_20.1, rfl⟩⟩, List.forall_mem_cons.mpr ⟨⟨_, rfl, by decide, ⟨List.mem_append_right _ tq_5_20.2.1, rfl⟩⟩, List.forall_mem_cons.mpr ⟨⟨_, rfl, by decide, ⟨List.mem_append_right _ tq_5_20.2.2.1, rfl⟩⟩, List.forall_mem_cons.mpr ⟨⟨_, rfl, by decide, ⟨List.mem_append_right _ tq_5_20.2.2.2.1, rfl⟩⟩, List.forall_mem_cons.mpr ⟨⟨_, rfl, by decide, ⟨List.mem_append_right _ tq_5_20.2.2.2.2.1, rfl⟩⟩, List.forall_mem_cons.mpr ⟨⟨_, rfl, by decide, ⟨List.mem_append_right _ tq_5_20.2.2.2.2.2.1, rfl⟩⟩, List.forall_mem_cons.mpr ⟨⟨_, rfl, by decide, ⟨List.mem_append_right _ tq_5_20.2.2.2.2.2.2.1, rfl⟩⟩, List.forall_mem_cons.mpr ⟨⟨_, rfl, by decide, ⟨List.mem_append_right _ tq_5_20.2.2.2.2.2.2.2.1, rfl⟩⟩, List.forall_mem_cons.mpr ⟨⟨_, rfl, by decide, ⟨List.mem_append_right _ tq_5_21.1, rfl⟩⟩, List.forall_mem_cons.mpr ⟨⟨_, rfl, by decide, ⟨List.mem_append_right _ tq_5_21.2.1, rfl⟩⟩, List.forall_mem_cons.mpr ⟨⟨_, rfl, by decide, ⟨List.mem_append_right _ tq_5_21.2.2.1, rfl⟩⟩, List.forall_mem_cons.mpr ⟨⟨_, rfl, by decide, ⟨List.mem_append_right _ tq_5_21.2.2.2.1, rfl⟩⟩, List.forall_mem_cons.mpr ⟨⟨_, rfl, by decide, ⟨List.mem_append_right _ tq_5_21.2.2.2.2.1, rfl⟩⟩, List.forall_mem_cons.mpr ⟨⟨_, rfl, by decide, ⟨List.mem_append_right _ tq_5_21.2.2.2.2.2.1, rfl⟩⟩, List.forall_mem_cons.mpr ⟨⟨_, rfl, by decide, ⟨List.mem_append_right _ tq_5_21.2.2.2.2.2.2.1, rfl⟩⟩, List.forall_mem_cons.mpr ⟨⟨_, rfl, by decide, ⟨List.mem_append_right _ tq_5_21.2.2.2.2.2.2.2.1, rfl⟩⟩, List.forall_mem_cons.mpr ⟨⟨_, rfl, by decide, ⟨List.mem_append_right _ tq_5_22.1, rfl⟩⟩, List.forall_mem_cons.mpr ⟨⟨_, rfl, by decide, ⟨List.mem_append_right _ tq_5_22.2.1, rfl⟩⟩, List.forall_mem_cons.mpr ⟨⟨_, rfl, by decide, ⟨List.mem_append_right _ tq_5_22.2.2.1, rfl⟩⟩, List.forall_mem_cons.mpr ⟨⟨_, rfl, by decide, ⟨List.mem_append_right _ tq_5_22.2.2.2.1, rfl⟩⟩, List.forall_mem_cons.mpr ⟨⟨_, rfl, by decide, ⟨List.mem_append_right _ tq_5_22.2.2.2.2.1, rfl⟩⟩, List.forall_mem_cons.mpr ⟨⟨_, rfl, by decide, ⟨List.mem_append_right _ tq_5_22.2.2.2.2.2.1, rfl⟩⟩, List.forall_mem_cons.mpr ⟨⟨_, rfl, by decide, ⟨List.mem_append_right _ tq_5_22.2.2.2.2.2.2.1, rfl⟩⟩, List.forall_mem_cons.mpr ⟨⟨_, rfl, by decide, ⟨List.mem_append_right _ tq_5_22.2.2.2.2.2.2.2.1, rfl⟩⟩, List.forall_mem_cons.mpr ⟨⟨_, rfl, by decide, ⟨List.mem_append_right _ tq_5_23.1, rfl⟩⟩, List.forall_mem_cons.mpr ⟨⟨_, rfl, by decide, ⟨List.mem_append_right _ tq_5_23.2.1, rfl⟩⟩, List.forall_mem_cons.mpr ⟨⟨_, rfl, by decide, ⟨List.mem_append_right _ tq_5_23.2.2.1, rfl⟩⟩, List.forall_mem_cons.mpr ⟨⟨_, rfl, by decide, ⟨List.mem_append_right _ tq_5_23.2.2.2.1, rfl⟩⟩, List.forall_mem_cons.mpr ⟨⟨_, rfl, by decide, ⟨List.mem_append_right _ tq_5_23.2.2.2.2.1, rfl⟩⟩, List.forall_mem_cons.mpr ⟨⟨_, rfl, by decide, ⟨List.mem_append_right _ tq_5_23.2.2.2.2.2.1, rfl⟩⟩, List.forall_mem_cons.mpr ⟨⟨_, rfl, by decide, ⟨List.mem_append_right _ tq_5_23.2.2.2.2.2.2.1, rfl⟩⟩, List.forall_mem_cons.mpr ⟨⟨_, rfl, by decide, ⟨List.mem_append_right _ tq_5_23.2.2.2.2.2.2.2.1, rfl⟩⟩, List.forall_mem_cons.mpr ⟨⟨_, rfl, by decide, ⟨List.mem_append_right _ tq_5_24.1, rfl⟩⟩, List.forall_mem_cons.mpr ⟨⟨_, rfl, by decide, ⟨List.mem_append_right _ tq_5_24.2.1, rfl⟩⟩, List.forall_mem_cons.mpr ⟨⟨_, rfl, by decide, ⟨List.mem_append_right _ tq_5_24.2.2.1, rfl⟩⟩, List.forall_mem_cons.mpr ⟨⟨_, rfl, by decide, ⟨List.mem_append_right _ tq_5_24.2.2.2.1, rfl⟩⟩, List.forall_mem_cons.mpr ⟨⟨_, rfl, by decide, ⟨List.mem_append_right _ tq_5_24.2.2.2.2.1, rfl⟩⟩, List.forall_mem_cons.mpr ⟨⟨_, rfl, by decide, ⟨List.mem_append_right _ tq_5_24.2.2.2.2.2.1, rfl⟩⟩, List.forall_mem_cons.mpr ⟨⟨_, rfl, by decide, ⟨List.mem_append_right _ tq_5_24.2.2.2.2.2.2.1, rfl⟩⟩, List.forall_mem_cons.mpr ⟨⟨_, rfl, by decide, ⟨List.mem_append_right _ tq_5_24.2.2.2.2.2.2.2.1, rfl⟩⟩, List.forall_mem_cons.mpr ⟨⟨_, rfl, by decide, ⟨List.mem_append_right _ tq_5_25.1, rfl⟩⟩, List.forall_mem_cons.mpr ⟨⟨_, rfl, by decide, ⟨List.mem_append_right _ tq_5_25.2.1, rfl⟩⟩, List.forall_mem_cons.mpr ⟨⟨_, rfl, by decide, ⟨List.mem_append_right _ tq_5_25.2.2.1, rfl⟩⟩, List.forall_mem_cons.mpr ⟨⟨_, rfl, by decide, ⟨List.mem_append_right _ tq_5_25.2.2.2.1, rfl⟩⟩, List.forall_mem_cons.mpr ⟨⟨_, rfl, by decide, ⟨List.mem_append_right _ tq_5_25.2.2.2.2.1, rfl⟩⟩, List.forall_mem_cons.mpr ⟨⟨_, rfl, by decide, ⟨List.mem_append_right _ tq_5_25.2.2.2.2.2.1, rfl⟩⟩, List.forall_mem_cons.mpr ⟨⟨_, rfl, by decide, ⟨List.mem_append_right _ tq_5_25.2.2.2.2.2.2.1, rfl⟩⟩, List.forall_mem_cons.mpr ⟨⟨_, rfl, by decide, ⟨List.mem_append_right _ tq_5_25.2.2.2.2.2.2.2.1, rfl⟩⟩, List.forall_mem_cons.mpr ⟨⟨_, rfl, by decide, ⟨List.mem_append_right _ tq_5_26.1, rfl⟩⟩, List.forall_mem_cons.mpr ⟨⟨_, rfl, by decide, ⟨List.mem_append_right _ tq_5_26.2.1, rfl⟩⟩, fun _ h => absurd h List.not_mem_nil⟩⟩⟩⟩⟩⟩⟩⟩⟩⟩⟩⟩⟩⟩⟩⟩⟩⟩⟩⟩⟩⟩⟩⟩⟩⟩⟩⟩⟩⟩⟩⟩⟩⟩⟩⟩⟩⟩⟩⟩⟩⟩⟩⟩⟩⟩⟩⟩⟩⟩⟩⟩⟩
def pm_FL : List (List (Nat × Nat × Nat × Bool)) := [pm_F0, pm_F1, pm_F2, pm_F3, pm_F4, pm_F5, pm_F6, pm_F7, pm_F8, pm_F9, pm_F10, pm_F11, pm_F12, pm_F13, pm_F14, pm_F15, pm_F16, pm_F17, pm_F18, pm_F19, pm_F20]
set_option maxRecDepth 100000 in
theorem pm_FL_ok : ∀ (c : Nat) (l : List (Nat × Nat × Nat × Bool)), pm_FL[c]? = some l → ∀ x ∈ l, pm_Fok c x := by
  intro c l h
  match c, h with
  | 0, h => cases h; exact pm_F0_ok
  | 1, h => cases h; exact pm_F1_ok
  | 2, h => cases h; exact pm_F2_ok
  | 3, h => cases h; exact pm_F3_ok
  | 4, h => cases h; exact pm_F4_ok
  | 5, h => cases h; exact pm_F5_ok
  | 6, h => cases h; exact pm_F6_ok
  | 7, h => cases h; exact pm_F7_ok
  | 8, h => cases h; exact pm_F8_ok
  | 9, h => cases h; exact pm_F9_ok
  | 10, h => cases h; exact pm_F10_ok
  | 11, h => cases h; exact pm_F11_ok
  | 12, h => cases h; exact pm_F12_ok
  | 13, h => cases h; exact pm_F13_ok
  | 14, h => cases h; exact pm_F14_ok
  | 15, h => cases h; exact pm_F15_ok
  | 16, h => cases h; exact pm_F16_ok
  | 17, h => cases h; exact pm_F17_ok
  | 18, h => cases h; exact pm_F18_ok
  | 19, h => cases h; exact pm_F19_ok
  | 20, h => cases h; exact pm_F20_ok
  | n + 21, h => cases h
def pm_sn (e : Nat) : String := ["", "MOST_OF_SORT", "NUMBERS_OF_LINE", "GREATEST", "MOST_OF_LINE", "ROWS_OF", "ROWS_BELOW"].getD e ""
def pm_Sok (c : Nat) (x : Nat × Nat × Bool) : Prop := 1 ≤ x.2.1 ∧ x.2.1 < 7 ∧ (if x.2.2 = true then (Cond.fieldLinkNest (pm_ow c) x.1 "SilentTable" (pm_sn x.2.1) "[I" "SilentTable") ∈ lw_tbl else pm_G (.fieldLink (pm_ow c) x.1 "SilentTable" (pm_sn x.2.1) "[I"))
def pm_S0 : List (Nat × Nat × Bool) := []
set_option maxRecDepth 100000 in
theorem pm_S0_ok : ∀ x ∈ pm_S0, pm_Sok 0 x := fun _ h => absurd h List.not_mem_nil
def pm_S1 : List (Nat × Nat × Bool) := [(53, 1, false), (294, 6, false), (297, 5, false)]
set_option maxRecDepth 100000 in
theorem pm_S1_ok : ∀ x ∈ pm_S1, pm_Sok 1 x := List.forall_mem_cons.mpr ⟨⟨by decide, by decide, ⟨List.mem_append_right _ tq_1_26.2.2.2.2.2.2.2.1, rfl⟩⟩, List.forall_mem_cons.mpr ⟨⟨by decide, by decide, ⟨List.mem_append_right _ tq_4_29.2.1, rfl⟩⟩, List.forall_mem_cons.mpr ⟨⟨by decide, by decide, ⟨List.mem_append_right _ tq_4_29.2.2.1, rfl⟩⟩, fun _ h => absurd h List.not_mem_nil⟩⟩⟩
def pm_S2 : List (Nat × Nat × Bool) := [(25, 1, true)]
set_option maxRecDepth 100000 in
theorem pm_S2_ok : ∀ x ∈ pm_S2, pm_Sok 2 x := List.forall_mem_cons.mpr ⟨⟨by decide, by decide, List.mem_append_right _ tq_1_4.2.2.2.2.2.1⟩, fun _ h => absurd h List.not_mem_nil⟩
def pm_S3 : List (Nat × Nat × Bool) := [(120, 4, true), (109, 2, true), (123, 3, true)]
set_option maxRecDepth 100000 in
theorem pm_S3_ok : ∀ x ∈ pm_S3, pm_Sok 3 x := List.forall_mem_cons.mpr ⟨⟨by decide, by decide, List.mem_append_right _ tq_2_17.2.2.2.2.2.2.2.1⟩, List.forall_mem_cons.mpr ⟨⟨by decide, by decide, List.mem_append_right _ tq_2_18.2.1⟩, List.forall_mem_cons.mpr ⟨⟨by decide, by decide, List.mem_append_right _ tq_2_18.2.2.2.2.2.2.2.1⟩, fun _ h => absurd h List.not_mem_nil⟩⟩⟩
def pm_S4 : List (Nat × Nat × Bool) := []
set_option maxRecDepth 100000 in
theorem pm_S4_ok : ∀ x ∈ pm_S4, pm_Sok 4 x := fun _ h => absurd h List.not_mem_nil
def pm_S5 : List (Nat × Nat × Bool) := []
set_option maxRecDepth 100000 in
theorem pm_S5_ok : ∀ x ∈ pm_S5, pm_Sok 5 x := fun _ h => absurd h List.not_mem_nil
def pm_S6 : List (Nat × Nat × Bool) := []
set_option maxRecDepth 100000 in
theorem pm_S6_ok : ∀ x ∈ pm_S6, pm_Sok 6 x := fun _ h => absurd h List.not_mem_nil
def pm_S7 : List (Nat × Nat × Bool) := []
set_option maxRecDepth 100000 in
theorem pm_S7_ok : ∀ x ∈ pm_S7, pm_Sok 7 x := fun _ h => absurd h List.not_mem_nil
def pm_S8 : List (Nat × Nat × Bool) := []
set_option maxRecDepth 100000 in
theorem pm_S8_ok : ∀ x ∈ pm_S8, pm_Sok 8 x := fun _ h => absurd h List.not_mem_nil
def pm_S9 : List (Nat × Nat × Bool) := []
set_option maxRecDepth 100000 in
theorem pm_S9_ok : ∀ x ∈ pm_S9, pm_Sok 9 x := fun _ h => absurd h List.not_mem_nil
def pm_S10 : List (Nat × Nat × Bool) := []
set_option maxRecDepth 100000 in
theorem pm_S10_ok : ∀ x ∈ pm_S10, pm_Sok 10 x := fun _ h => absurd h List.not_mem_nil
def pm_S11 : List (Nat × Nat × Bool) := []
set_option maxRecDepth 100000 in
theorem pm_S11_ok : ∀ x ∈ pm_S11, pm_Sok 11 x := fun _ h => absurd h List.not_mem_nil
def pm_S12 : List (Nat × Nat × Bool) := []
set_option maxRecDepth 100000 in
theorem pm_S12_ok : ∀ x ∈ pm_S12, pm_Sok 12 x := fun _ h => absurd h List.not_mem_nil
def pm_S13 : List (Nat × Nat × Bool) := []
set_option maxRecDepth 100000 in
theorem pm_S13_ok : ∀ x ∈ pm_S13, pm_Sok 13 x := fun _ h => absurd h List.not_mem_nil
def pm_S14 : List (Nat × Nat × Bool) := []
set_option maxRecDepth 100000 in
theorem pm_S14_ok : ∀ x ∈ pm_S14, pm_Sok 14 x := fun _ h => absurd h List.not_mem_nil
def pm_S15 : List (Nat × Nat × Bool) := []
set_option maxRecDepth 100000 in
theorem pm_S15_ok : ∀ x ∈ pm_S15, pm_Sok 15 x := fun _ h => absurd h List.not_mem_nil
def pm_S16 : List (Nat × Nat × Bool) := []
set_option maxRecDepth 100000 in
theorem pm_S16_ok : ∀ x ∈ pm_S16, pm_Sok 16 x := fun _ h => absurd h List.not_mem_nil
def pm_S17 : List (Nat × Nat × Bool) := []
set_option maxRecDepth 100000 in
theorem pm_S17_ok : ∀ x ∈ pm_S17, pm_Sok 17 x := fun _ h => absurd h List.not_mem_nil
def pm_S18 : List (Nat × Nat × Bool) := []
set_option maxRecDepth 100000 in
theorem pm_S18_ok : ∀ x ∈ pm_S18, pm_Sok 18 x := fun _ h => absurd h List.not_mem_nil
def pm_S19 : List (Nat × Nat × Bool) := [(53, 5, true), (56, 6, true)]
set_option maxRecDepth 100000 in
theorem pm_S19_ok : ∀ x ∈ pm_S19, pm_Sok 19 x := List.forall_mem_cons.mpr ⟨⟨by decide, by decide, List.mem_append_right _ tq_4_25.2.2.2.2.2.1⟩, List.forall_mem_cons.mpr ⟨⟨by decide, by decide, List.mem_append_right _ tq_4_25.2.2.2.2.2.2.2.1⟩, fun _ h => absurd h List.not_mem_nil⟩⟩
def pm_S20 : List (Nat × Nat × Bool) := []
set_option maxRecDepth 100000 in
theorem pm_S20_ok : ∀ x ∈ pm_S20, pm_Sok 20 x := fun _ h => absurd h List.not_mem_nil
def pm_SL : List (List (Nat × Nat × Bool)) := [pm_S0, pm_S1, pm_S2, pm_S3, pm_S4, pm_S5, pm_S6, pm_S7, pm_S8, pm_S9, pm_S10, pm_S11, pm_S12, pm_S13, pm_S14, pm_S15, pm_S16, pm_S17, pm_S18, pm_S19, pm_S20]
set_option maxRecDepth 100000 in
theorem pm_SL_ok : ∀ (c : Nat) (l : List (Nat × Nat × Bool)), pm_SL[c]? = some l → ∀ x ∈ l, pm_Sok c x := by
  intro c l h
  match c, h with
  | 0, h => cases h; exact pm_S0_ok
  | 1, h => cases h; exact pm_S1_ok
  | 2, h => cases h; exact pm_S2_ok
  | 3, h => cases h; exact pm_S3_ok
  | 4, h => cases h; exact pm_S4_ok
  | 5, h => cases h; exact pm_S5_ok
  | 6, h => cases h; exact pm_S6_ok
  | 7, h => cases h; exact pm_S7_ok
  | 8, h => cases h; exact pm_S8_ok
  | 9, h => cases h; exact pm_S9_ok
  | 10, h => cases h; exact pm_S10_ok
  | 11, h => cases h; exact pm_S11_ok
  | 12, h => cases h; exact pm_S12_ok
  | 13, h => cases h; exact pm_S13_ok
  | 14, h => cases h; exact pm_S14_ok
  | 15, h => cases h; exact pm_S15_ok
  | 16, h => cases h; exact pm_S16_ok
  | 17, h => cases h; exact pm_S17_ok
  | 18, h => cases h; exact pm_S18_ok
  | 19, h => cases h; exact pm_S19_ok
  | 20, h => cases h; exact pm_S20_ok
  | n + 21, h => cases h
def pm_aT (t : Nat) : FieldType := match t with | 0 => .int | 1 => .long | 2 => .byte | 3 => .boolean | 4 => .object "SilentTable$SignList" | 5 => .object "SilentTable$SignRow" | 6 => .object "SilentTable$Meal" | 7 => .object "SilentTable$House" | 8 => .object "SilentTable$Told" | _ => .object "SilentTable$ShortRows"
def pm_Nok (c : Nat) (x : Nat × Nat) : Prop := ∃ q : vw_C, pm_cl[x.2]? = some q ∧ pm_G (.classLink (pm_ow c) x.1 q.1)
def pm_N0 : List (Nat × Nat) := [(7, 11), (10, 12)]
set_option maxRecDepth 100000 in
theorem pm_N0_ok : ∀ x ∈ pm_N0, pm_Nok 0 x := List.forall_mem_cons.mpr ⟨⟨_, rfl, ⟨List.mem_append_right _ tq_1_2.2.2.2.2.2.2.2.1, rfl⟩⟩, List.forall_mem_cons.mpr ⟨⟨_, rfl, ⟨List.mem_append_right _ tq_5_18.2.2.2.2.2.2.1, rfl⟩⟩, fun _ h => absurd h List.not_mem_nil⟩⟩
def pm_N1 : List (Nat × Nat) := [(11, 8), (22, 6), (35, 2), (42, 9), (57, 3), (102, 4), (111, 5), (118, 1), (125, 0), (188, 10)]
set_option maxRecDepth 100000 in
theorem pm_N1_ok : ∀ x ∈ pm_N1, pm_Nok 1 x := List.forall_mem_cons.mpr ⟨⟨_, rfl, ⟨List.mem_append_right _ tq_1_3.2.2.2.2.2.2.2.1, rfl⟩⟩, List.forall_mem_cons.mpr ⟨⟨_, rfl, ⟨List.mem_append_right _ tq_1_10.2.2.2.2.2.2.2.1, rfl⟩⟩, List.forall_mem_cons.mpr ⟨⟨_, rfl, ⟨List.mem_append_right _ tq_1_21.2.1, rfl⟩⟩, List.forall_mem_cons.mpr ⟨⟨_, rfl, ⟨List.mem_append_right _ tq_1_22.2.2.2.2.1, rfl⟩⟩, List.forall_mem_cons.mpr ⟨⟨_, rfl, ⟨List.mem_append_right _ tq_1_27.1, rfl⟩⟩, List.forall_mem_cons.mpr ⟨⟨_, rfl, ⟨List.mem_append_right _ tq_2_22.1, rfl⟩⟩, List.forall_mem_cons.mpr ⟨⟨_, rfl, ⟨List.mem_append_right _ tq_3_1.1, rfl⟩⟩, List.forall_mem_cons.mpr ⟨⟨_, rfl, ⟨List.mem_append_right _ tq_3_3.2.2.2.2.1, rfl⟩⟩, List.forall_mem_cons.mpr ⟨⟨_, rfl, ⟨List.mem_append_right _ tq_3_9.2.2.2.2.2.1, rfl⟩⟩, List.forall_mem_cons.mpr ⟨⟨_, rfl, ⟨List.mem_append_right _ tq_3_25.2.2.2.2.2.2.2.1, rfl⟩⟩, fun _ h => absurd h List.not_mem_nil⟩⟩⟩⟩⟩⟩⟩⟩⟩⟩
def pm_N2 : List (Nat × Nat) := [(29, 4), (35, 5), (41, 1), (47, 0)]
set_option maxRecDepth 100000 in
theorem pm_N2_ok : ∀ x ∈ pm_N2, pm_Nok 2 x := List.forall_mem_cons.mpr ⟨⟨_, rfl, ⟨List.mem_append_right _ tq_1_4.2.2.2.2.2.2.2.1, rfl⟩⟩, List.forall_mem_cons.mpr ⟨⟨_, rfl, ⟨List.mem_append_right _ tq_1_5.2.1, rfl⟩⟩, List.forall_mem_cons.mpr ⟨⟨_, rfl, ⟨List.mem_append_right _ tq_1_5.2.2.2.1, rfl⟩⟩, List.forall_mem_cons.mpr ⟨⟨_, rfl, ⟨List.mem_append_right _ tq_1_5.2.2.2.2.2.1, rfl⟩⟩, fun _ h => absurd h List.not_mem_nil⟩⟩⟩⟩
def pm_N3 : List (Nat × Nat) := [(43, 7)]
set_option maxRecDepth 100000 in
theorem pm_N3_ok : ∀ x ∈ pm_N3, pm_Nok 3 x := List.forall_mem_cons.mpr ⟨⟨_, rfl, ⟨List.mem_append_right _ tq_1_11.2.2.2.2.2.1, rfl⟩⟩, fun _ h => absurd h List.not_mem_nil⟩
def pm_N4 : List (Nat × Nat) := []
set_option maxRecDepth 100000 in
theorem pm_N4_ok : ∀ x ∈ pm_N4, pm_Nok 4 x := fun _ h => absurd h List.not_mem_nil
def pm_N5 : List (Nat × Nat) := []
set_option maxRecDepth 100000 in
theorem pm_N5_ok : ∀ x ∈ pm_N5, pm_Nok 5 x := fun _ h => absurd h List.not_mem_nil
def pm_N6 : List (Nat × Nat) := []
set_option maxRecDepth 100000 in
theorem pm_N6_ok : ∀ x ∈ pm_N6, pm_Nok 6 x := fun _ h => absurd h List.not_mem_nil
def pm_N7 : List (Nat × Nat) := []
set_option maxRecDepth 100000 in
theorem pm_N7_ok : ∀ x ∈ pm_N7, pm_Nok 7 x := fun _ h => absurd h List.not_mem_nil
def pm_N8 : List (Nat × Nat) := []
set_option maxRecDepth 100000 in
theorem pm_N8_ok : ∀ x ∈ pm_N8, pm_Nok 8 x := fun _ h => absurd h List.not_mem_nil
def pm_N9 : List (Nat × Nat) := []
set_option maxRecDepth 100000 in
theorem pm_N9_ok : ∀ x ∈ pm_N9, pm_Nok 9 x := fun _ h => absurd h List.not_mem_nil
def pm_N10 : List (Nat × Nat) := []
set_option maxRecDepth 100000 in
theorem pm_N10_ok : ∀ x ∈ pm_N10, pm_Nok 10 x := fun _ h => absurd h List.not_mem_nil
def pm_N11 : List (Nat × Nat) := []
set_option maxRecDepth 100000 in
theorem pm_N11_ok : ∀ x ∈ pm_N11, pm_Nok 11 x := fun _ h => absurd h List.not_mem_nil
def pm_N12 : List (Nat × Nat) := []
set_option maxRecDepth 100000 in
theorem pm_N12_ok : ∀ x ∈ pm_N12, pm_Nok 12 x := fun _ h => absurd h List.not_mem_nil
def pm_N13 : List (Nat × Nat) := []
set_option maxRecDepth 100000 in
theorem pm_N13_ok : ∀ x ∈ pm_N13, pm_Nok 13 x := fun _ h => absurd h List.not_mem_nil
def pm_N14 : List (Nat × Nat) := []
set_option maxRecDepth 100000 in
theorem pm_N14_ok : ∀ x ∈ pm_N14, pm_Nok 14 x := fun _ h => absurd h List.not_mem_nil
def pm_N15 : List (Nat × Nat) := []
set_option maxRecDepth 100000 in
theorem pm_N15_ok : ∀ x ∈ pm_N15, pm_Nok 15 x := fun _ h => absurd h List.not_mem_nil
def pm_N16 : List (Nat × Nat) := []
set_option maxRecDepth 100000 in
theorem pm_N16_ok : ∀ x ∈ pm_N16, pm_Nok 16 x := fun _ h => absurd h List.not_mem_nil
def pm_N17 : List (Nat × Nat) := []
set_option maxRecDepth 100000 in
theorem pm_N17_ok : ∀ x ∈ pm_N17, pm_Nok 17 x := fun _ h => absurd h List.not_mem_nil
def pm_N18 : List (Nat × Nat) := []
set_option maxRecDepth 100000 in
theorem pm_N18_ok : ∀ x ∈ pm_N18, pm_Nok 18 x := fun _ h => absurd h List.not_mem_nil
def pm_N19 : List (Nat × Nat) := []
set_option maxRecDepth 100000 in
theorem pm_N19_ok : ∀ x ∈ pm_N19, pm_Nok 19 x := fun _ h => absurd h List.not_mem_nil
def pm_N20 : List (Nat × Nat) := []
set_option maxRecDepth 100000 in
theorem pm_N20_ok : ∀ x ∈ pm_N20, pm_Nok 20 x := fun _ h => absurd h List.not_mem_nil
def pm_NL : List (List (Nat × Nat)) := [pm_N0, pm_N1, pm_N2, pm_N3, pm_N4, pm_N5, pm_N6, pm_N7, pm_N8, pm_N9, pm_N10, pm_N11, pm_N12, pm_N13, pm_N14, pm_N15, pm_N16, pm_N17, pm_N18, pm_N19, pm_N20]
set_option maxRecDepth 100000 in
theorem pm_NL_ok : ∀ (c : Nat) (l : List (Nat × Nat)), pm_NL[c]? = some l → ∀ x ∈ l, pm_Nok c x := by
  intro c l h
  match c, h with
  | 0, h => cases h; exact pm_N0_ok
  | 1, h => cases h; exact pm_N1_ok
  | 2, h => cases h; exact pm_N2_ok
  | 3, h => cases h; exact pm_N3_ok
  | 4, h => cases h; exact pm_N4_ok
  | 5, h => cases h; exact pm_N5_ok
  | 6, h => cases h; exact pm_N6_ok
  | 7, h => cases h; exact pm_N7_ok
  | 8, h => cases h; exact pm_N8_ok
  | 9, h => cases h; exact pm_N9_ok
  | 10, h => cases h; exact pm_N10_ok
  | 11, h => cases h; exact pm_N11_ok
  | 12, h => cases h; exact pm_N12_ok
  | 13, h => cases h; exact pm_N13_ok
  | 14, h => cases h; exact pm_N14_ok
  | 15, h => cases h; exact pm_N15_ok
  | 16, h => cases h; exact pm_N16_ok
  | 17, h => cases h; exact pm_N17_ok
  | 18, h => cases h; exact pm_N18_ok
  | 19, h => cases h; exact pm_N19_ok
  | 20, h => cases h; exact pm_N20_ok
  | n + 21, h => cases h
def pm_Kok (c : Nat) (x : Nat × Int32) : Prop := pm_G (.constant (pm_ow c) x.1 x.2)
def pm_Lok (c : Nat) (x : Nat × Int64) : Prop := pm_G (.constantLong (pm_ow c) x.1 x.2)
def pm_K0 : List (Nat × Int32) := []
set_option maxRecDepth 100000 in
theorem pm_K0_ok : ∀ x ∈ pm_K0, pm_Kok 0 x := fun _ h => absurd h List.not_mem_nil
def pm_K1 : List (Nat × Int32) := [(260, 1103515245)]
set_option maxRecDepth 100000 in
theorem pm_K1_ok : ∀ x ∈ pm_K1, pm_Kok 1 x := List.forall_mem_cons.mpr ⟨⟨List.mem_append_right _ tq_4_18.2.1, rfl⟩, fun _ h => absurd h List.not_mem_nil⟩
def pm_K2 : List (Nat × Int32) := []
set_option maxRecDepth 100000 in
theorem pm_K2_ok : ∀ x ∈ pm_K2, pm_Kok 2 x := fun _ h => absurd h List.not_mem_nil
def pm_K3 : List (Nat × Int32) := []
set_option maxRecDepth 100000 in
theorem pm_K3_ok : ∀ x ∈ pm_K3, pm_Kok 3 x := fun _ h => absurd h List.not_mem_nil
def pm_K4 : List (Nat × Int32) := []
set_option maxRecDepth 100000 in
theorem pm_K4_ok : ∀ x ∈ pm_K4, pm_Kok 4 x := fun _ h => absurd h List.not_mem_nil
def pm_K5 : List (Nat × Int32) := []
set_option maxRecDepth 100000 in
theorem pm_K5_ok : ∀ x ∈ pm_K5, pm_Kok 5 x := fun _ h => absurd h List.not_mem_nil
def pm_K6 : List (Nat × Int32) := []
set_option maxRecDepth 100000 in
theorem pm_K6_ok : ∀ x ∈ pm_K6, pm_Kok 6 x := fun _ h => absurd h List.not_mem_nil
def pm_K7 : List (Nat × Int32) := []
set_option maxRecDepth 100000 in
theorem pm_K7_ok : ∀ x ∈ pm_K7, pm_Kok 7 x := fun _ h => absurd h List.not_mem_nil
def pm_K8 : List (Nat × Int32) := []
set_option maxRecDepth 100000 in
theorem pm_K8_ok : ∀ x ∈ pm_K8, pm_Kok 8 x := fun _ h => absurd h List.not_mem_nil
def pm_K9 : List (Nat × Int32) := []
set_option maxRecDepth 100000 in
theorem pm_K9_ok : ∀ x ∈ pm_K9, pm_Kok 9 x := fun _ h => absurd h List.not_mem_nil
def pm_K10 : List (Nat × Int32) := []
set_option maxRecDepth 100000 in
theorem pm_K10_ok : ∀ x ∈ pm_K10, pm_Kok 10 x := fun _ h => absurd h List.not_mem_nil
def pm_K11 : List (Nat × Int32) := []
set_option maxRecDepth 100000 in
theorem pm_K11_ok : ∀ x ∈ pm_K11, pm_Kok 11 x := fun _ h => absurd h List.not_mem_nil
def pm_K12 : List (Nat × Int32) := []
set_option maxRecDepth 100000 in
theorem pm_K12_ok : ∀ x ∈ pm_K12, pm_Kok 12 x := fun _ h => absurd h List.not_mem_nil
def pm_K13 : List (Nat × Int32) := []
set_option maxRecDepth 100000 in
theorem pm_K13_ok : ∀ x ∈ pm_K13, pm_Kok 13 x := fun _ h => absurd h List.not_mem_nil
def pm_K14 : List (Nat × Int32) := []
set_option maxRecDepth 100000 in
theorem pm_K14_ok : ∀ x ∈ pm_K14, pm_Kok 14 x := fun _ h => absurd h List.not_mem_nil
def pm_K15 : List (Nat × Int32) := []
set_option maxRecDepth 100000 in
theorem pm_K15_ok : ∀ x ∈ pm_K15, pm_Kok 15 x := fun _ h => absurd h List.not_mem_nil
def pm_K16 : List (Nat × Int32) := []
set_option maxRecDepth 100000 in
theorem pm_K16_ok : ∀ x ∈ pm_K16, pm_Kok 16 x := fun _ h => absurd h List.not_mem_nil
def pm_K17 : List (Nat × Int32) := []
set_option maxRecDepth 100000 in
theorem pm_K17_ok : ∀ x ∈ pm_K17, pm_Kok 17 x := fun _ h => absurd h List.not_mem_nil
def pm_K18 : List (Nat × Int32) := [(265, 1431655765), (266, 858993459), (267, 252645135)]
set_option maxRecDepth 100000 in
theorem pm_K18_ok : ∀ x ∈ pm_K18, pm_Kok 18 x := List.forall_mem_cons.mpr ⟨⟨List.mem_append_right _ tq_4_15.2.2.2.1, rfl⟩, List.forall_mem_cons.mpr ⟨⟨List.mem_append_right _ tq_4_15.2.2.2.2.1, rfl⟩, List.forall_mem_cons.mpr ⟨⟨List.mem_append_right _ tq_4_15.2.2.2.2.2.1, rfl⟩, fun _ h => absurd h List.not_mem_nil⟩⟩⟩
def pm_K19 : List (Nat × Int32) := []
set_option maxRecDepth 100000 in
theorem pm_K19_ok : ∀ x ∈ pm_K19, pm_Kok 19 x := fun _ h => absurd h List.not_mem_nil
def pm_K20 : List (Nat × Int32) := [(54, 43200), (490, 1103515245)]
set_option maxRecDepth 100000 in
theorem pm_K20_ok : ∀ x ∈ pm_K20, pm_Kok 20 x := List.forall_mem_cons.mpr ⟨⟨List.mem_append_right _ tq_5_19.2.2.2.2.1, rfl⟩, List.forall_mem_cons.mpr ⟨⟨List.mem_append_right _ tq_8_8.1, rfl⟩, fun _ h => absurd h List.not_mem_nil⟩⟩
def pm_KL : List (List (Nat × Int32)) := [pm_K0, pm_K1, pm_K2, pm_K3, pm_K4, pm_K5, pm_K6, pm_K7, pm_K8, pm_K9, pm_K10, pm_K11, pm_K12, pm_K13, pm_K14, pm_K15, pm_K16, pm_K17, pm_K18, pm_K19, pm_K20]
set_option maxRecDepth 100000 in
theorem pm_KL_ok : ∀ (c : Nat) (l : List (Nat × Int32)), pm_KL[c]? = some l → ∀ x ∈ l, pm_Kok c x := by
  intro c l h
  match c, h with
  | 0, h => cases h; exact pm_K0_ok
  | 1, h => cases h; exact pm_K1_ok
  | 2, h => cases h; exact pm_K2_ok
  | 3, h => cases h; exact pm_K3_ok
  | 4, h => cases h; exact pm_K4_ok
  | 5, h => cases h; exact pm_K5_ok
  | 6, h => cases h; exact pm_K6_ok
  | 7, h => cases h; exact pm_K7_ok
  | 8, h => cases h; exact pm_K8_ok
  | 9, h => cases h; exact pm_K9_ok
  | 10, h => cases h; exact pm_K10_ok
  | 11, h => cases h; exact pm_K11_ok
  | 12, h => cases h; exact pm_K12_ok
  | 13, h => cases h; exact pm_K13_ok
  | 14, h => cases h; exact pm_K14_ok
  | 15, h => cases h; exact pm_K15_ok
  | 16, h => cases h; exact pm_K16_ok
  | 17, h => cases h; exact pm_K17_ok
  | 18, h => cases h; exact pm_K18_ok
  | 19, h => cases h; exact pm_K19_ok
  | 20, h => cases h; exact pm_K20_ok
  | n + 21, h => cases h
def pm_L0 : List (Nat × Int64) := [(63, 4294967295)]
set_option maxRecDepth 100000 in
theorem pm_L0_ok : ∀ x ∈ pm_L0, pm_Lok 0 x := List.forall_mem_cons.mpr ⟨⟨List.mem_append_right _ tq_8_14.2.2.2.2.1, rfl⟩, fun _ h => absurd h List.not_mem_nil⟩
def pm_L1 : List (Nat × Int64) := [(167, (-1)), (379, 9223372036854775807), (373, 1000000000000), (389, 1125899906842623), (384, 2)]
set_option maxRecDepth 100000 in
theorem pm_L1_ok : ∀ x ∈ pm_L1, pm_Lok 1 x := List.forall_mem_cons.mpr ⟨⟨List.mem_append_right _ tq_3_19.2.2.1, rfl⟩, List.forall_mem_cons.mpr ⟨⟨List.mem_append_right _ tq_3_23.1, rfl⟩, List.forall_mem_cons.mpr ⟨⟨List.mem_append_right _ tq_3_24.1, rfl⟩, List.forall_mem_cons.mpr ⟨⟨List.mem_append_right _ tq_4_9.2.2.2.2.2.2.2.1, rfl⟩, List.forall_mem_cons.mpr ⟨⟨List.mem_append_right _ tq_4_10.1, rfl⟩, fun _ h => absurd h List.not_mem_nil⟩⟩⟩⟩⟩
def pm_L2 : List (Nat × Int64) := []
set_option maxRecDepth 100000 in
theorem pm_L2_ok : ∀ x ∈ pm_L2, pm_Lok 2 x := fun _ h => absurd h List.not_mem_nil
def pm_L3 : List (Nat × Int64) := []
set_option maxRecDepth 100000 in
theorem pm_L3_ok : ∀ x ∈ pm_L3, pm_Lok 3 x := fun _ h => absurd h List.not_mem_nil
def pm_L4 : List (Nat × Int64) := []
set_option maxRecDepth 100000 in
theorem pm_L4_ok : ∀ x ∈ pm_L4, pm_Lok 4 x := fun _ h => absurd h List.not_mem_nil
def pm_L5 : List (Nat × Int64) := [(45, 1125899906842623)]
set_option maxRecDepth 100000 in
theorem pm_L5_ok : ∀ x ∈ pm_L5, pm_Lok 5 x := List.forall_mem_cons.mpr ⟨⟨List.mem_append_right _ tq_4_9.1, rfl⟩, fun _ h => absurd h List.not_mem_nil⟩
def pm_L6 : List (Nat × Int64) := [(99, (-1))]
set_option maxRecDepth 100000 in
theorem pm_L6_ok : ∀ x ∈ pm_L6, pm_Lok 6 x := List.forall_mem_cons.mpr ⟨⟨List.mem_append_right _ tq_4_3.2.2.2.2.2.1, rfl⟩, fun _ h => absurd h List.not_mem_nil⟩
def pm_L7 : List (Nat × Int64) := []
set_option maxRecDepth 100000 in
theorem pm_L7_ok : ∀ x ∈ pm_L7, pm_Lok 7 x := fun _ h => absurd h List.not_mem_nil
def pm_L8 : List (Nat × Int64) := []
set_option maxRecDepth 100000 in
theorem pm_L8_ok : ∀ x ∈ pm_L8, pm_Lok 8 x := fun _ h => absurd h List.not_mem_nil
def pm_L9 : List (Nat × Int64) := []
set_option maxRecDepth 100000 in
theorem pm_L9_ok : ∀ x ∈ pm_L9, pm_Lok 9 x := fun _ h => absurd h List.not_mem_nil
def pm_L10 : List (Nat × Int64) := []
set_option maxRecDepth 100000 in
theorem pm_L10_ok : ∀ x ∈ pm_L10, pm_Lok 10 x := fun _ h => absurd h List.not_mem_nil
def pm_L11 : List (Nat × Int64) := []
set_option maxRecDepth 100000 in
theorem pm_L11_ok : ∀ x ∈ pm_L11, pm_Lok 11 x := fun _ h => absurd h List.not_mem_nil
def pm_L12 : List (Nat × Int64) := []
set_option maxRecDepth 100000 in
theorem pm_L12_ok : ∀ x ∈ pm_L12, pm_Lok 12 x := fun _ h => absurd h List.not_mem_nil
def pm_L13 : List (Nat × Int64) := []
set_option maxRecDepth 100000 in
theorem pm_L13_ok : ∀ x ∈ pm_L13, pm_Lok 13 x := fun _ h => absurd h List.not_mem_nil
def pm_L14 : List (Nat × Int64) := []
set_option maxRecDepth 100000 in
theorem pm_L14_ok : ∀ x ∈ pm_L14, pm_Lok 14 x := fun _ h => absurd h List.not_mem_nil
def pm_L15 : List (Nat × Int64) := []
set_option maxRecDepth 100000 in
theorem pm_L15_ok : ∀ x ∈ pm_L15, pm_Lok 15 x := fun _ h => absurd h List.not_mem_nil
def pm_L16 : List (Nat × Int64) := [(89, (-1)), (91, 9223372036854775807)]
set_option maxRecDepth 100000 in
theorem pm_L16_ok : ∀ x ∈ pm_L16, pm_Lok 16 x := List.forall_mem_cons.mpr ⟨⟨List.mem_append_right _ tq_4_0.2.2.1, rfl⟩, List.forall_mem_cons.mpr ⟨⟨List.mem_append_right _ tq_4_0.2.2.2.1, rfl⟩, fun _ h => absurd h List.not_mem_nil⟩⟩
def pm_L17 : List (Nat × Int64) := [(314, 6148914691236517205), (316, 3689348814741910323), (318, 1085102592571150095)]
set_option maxRecDepth 100000 in
theorem pm_L17_ok : ∀ x ∈ pm_L17, pm_Lok 17 x := List.forall_mem_cons.mpr ⟨⟨List.mem_append_right _ tq_4_11.2.2.1, rfl⟩, List.forall_mem_cons.mpr ⟨⟨List.mem_append_right _ tq_4_11.2.2.2.1, rfl⟩, List.forall_mem_cons.mpr ⟨⟨List.mem_append_right _ tq_4_11.2.2.2.2.1, rfl⟩, fun _ h => absurd h List.not_mem_nil⟩⟩⟩
def pm_L18 : List (Nat × Int64) := []
set_option maxRecDepth 100000 in
theorem pm_L18_ok : ∀ x ∈ pm_L18, pm_Lok 18 x := fun _ h => absurd h List.not_mem_nil
def pm_L19 : List (Nat × Int64) := []
set_option maxRecDepth 100000 in
theorem pm_L19_ok : ∀ x ∈ pm_L19, pm_Lok 19 x := fun _ h => absurd h List.not_mem_nil
def pm_L20 : List (Nat × Int64) := [(177, 1920298085), (179, 1936287598), (181, 1852137842), (167, 1751474532), (169, 1952541036), (171, 1886156147), (173, 1818588019), (175, 7237492), (196, 495622124659), (198, 1819242347), (200, 1635213689), (202, 1935767923), (211, 474148660594), (213, 1836020596), (215, 478660552050), (217, 1885432178), (219, 114801865155950), (221, 1936024942), (332, (-1)), (310, 1000000000000), (263, 1125899906842623)]
set_option maxRecDepth 100000 in
theorem pm_L20_ok : ∀ x ∈ pm_L20, pm_Lok 20 x := List.forall_mem_cons.mpr ⟨⟨List.mem_append_right _ tq_6_18.1, rfl⟩, List.forall_mem_cons.mpr ⟨⟨List.mem_append_right _ tq_6_18.2.1, rfl⟩, List.forall_mem_cons.mpr ⟨⟨List.mem_append_right _ tq_6_18.2.2.1, rfl⟩, List.forall_mem_cons.mpr ⟨⟨List.mem_append_right _ tq_6_18.2.2.2.2.2.2.2.1, rfl⟩, List.forall_mem_cons.mpr ⟨⟨List.mem_append_right _ tq_6_19.1, rfl⟩, List.forall_mem_cons.mpr ⟨⟨List.mem_append_right _ tq_6_19.2.1, rfl⟩, List.forall_mem_cons.mpr ⟨⟨List.mem_append_right _ tq_6_19.2.2.1, rfl⟩, List.forall_mem_cons.mpr ⟨⟨List.mem_append_right _ tq_6_19.2.2.2.1, rfl⟩, List.forall_mem_cons.mpr ⟨⟨List.mem_append_right _ tq_6_20.1, rfl⟩, List.forall_mem_cons.mpr ⟨⟨List.mem_append_right _ tq_6_20.2.1, rfl⟩, List.forall_mem_cons.mpr ⟨⟨List.mem_append_right _ tq_6_20.2.2.1, rfl⟩, List.forall_mem_cons.mpr ⟨⟨List.mem_append_right _ tq_6_20.2.2.2.1, rfl⟩, List.forall_mem_cons.mpr ⟨⟨List.mem_append_right _ tq_6_22.1, rfl⟩, List.forall_mem_cons.mpr ⟨⟨List.mem_append_right _ tq_6_22.2.1, rfl⟩, List.forall_mem_cons.mpr ⟨⟨List.mem_append_right _ tq_6_22.2.2.1, rfl⟩, List.forall_mem_cons.mpr ⟨⟨List.mem_append_right _ tq_6_22.2.2.2.1, rfl⟩, List.forall_mem_cons.mpr ⟨⟨List.mem_append_right _ tq_6_22.2.2.2.2.1, rfl⟩, List.forall_mem_cons.mpr ⟨⟨List.mem_append_right _ tq_6_22.2.2.2.2.2.1, rfl⟩, List.forall_mem_cons.mpr ⟨⟨List.mem_append_right _ tq_6_27.2.2.1, rfl⟩, List.forall_mem_cons.mpr ⟨⟨List.mem_append_right _ tq_7_2.2.2.2.2.1, rfl⟩, List.forall_mem_cons.mpr ⟨⟨List.mem_append_right _ tq_7_6.2.1, rfl⟩, fun _ h => absurd h List.not_mem_nil⟩⟩⟩⟩⟩⟩⟩⟩⟩⟩⟩⟩⟩⟩⟩⟩⟩⟩⟩⟩⟩
def pm_LL : List (List (Nat × Int64)) := [pm_L0, pm_L1, pm_L2, pm_L3, pm_L4, pm_L5, pm_L6, pm_L7, pm_L8, pm_L9, pm_L10, pm_L11, pm_L12, pm_L13, pm_L14, pm_L15, pm_L16, pm_L17, pm_L18, pm_L19, pm_L20]
set_option maxRecDepth 100000 in
theorem pm_LL_ok : ∀ (c : Nat) (l : List (Nat × Int64)), pm_LL[c]? = some l → ∀ x ∈ l, pm_Lok c x := by
  intro c l h
  match c, h with
  | 0, h => cases h; exact pm_L0_ok
  | 1, h => cases h; exact pm_L1_ok
  | 2, h => cases h; exact pm_L2_ok
  | 3, h => cases h; exact pm_L3_ok
  | 4, h => cases h; exact pm_L4_ok
  | 5, h => cases h; exact pm_L5_ok
  | 6, h => cases h; exact pm_L6_ok
  | 7, h => cases h; exact pm_L7_ok
  | 8, h => cases h; exact pm_L8_ok
  | 9, h => cases h; exact pm_L9_ok
  | 10, h => cases h; exact pm_L10_ok
  | 11, h => cases h; exact pm_L11_ok
  | 12, h => cases h; exact pm_L12_ok
  | 13, h => cases h; exact pm_L13_ok
  | 14, h => cases h; exact pm_L14_ok
  | 15, h => cases h; exact pm_L15_ok
  | 16, h => cases h; exact pm_L16_ok
  | 17, h => cases h; exact pm_L17_ok
  | 18, h => cases h; exact pm_L18_ok
  | 19, h => cases h; exact pm_L19_ok
  | 20, h => cases h; exact pm_L20_ok
  | n + 21, h => cases h
