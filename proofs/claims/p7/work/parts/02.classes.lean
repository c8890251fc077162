/-! the tables of the pure machine: classes, methods, what the constant pool's entries come to (by program: wip/gen/gen_tables.py) -/
def pm_G (w : Cond) : Prop := w ∈ lw_tbl ∧ goodWord w = true
def pm_good : List Cond := lw_tbl.filter goodWord
set_option maxRecDepth 100000 in
theorem pm_G_in {w : Cond} (h : pm_G w) : w ∈ pm_good := List.mem_filter.mpr h
set_option maxRecDepth 100000 in
theorem pm_in_G {w : Cond} (h : w ∈ pm_good) : pm_G w := List.mem_filter.mp h
def pm_T0 : u_T := fun k => match k with
  | 0 => ("SilentTable$House", "lawCount", "I", true)
  | _ => ("SilentTable$House", "laws", "[I", true)
def pm_T1 : u_T := fun k => match k with
  | 0 => ("SilentTable$Meal", "seats", "I", true)
  | 1 => ("SilentTable$Meal", "deedCount", "I", true)
  | 2 => ("SilentTable$Meal", "deeds", "[I", true)
  | 3 => ("SilentTable$Meal", "gaze", "[I", true)
  | _ => ("SilentTable$Meal", "saw", "[I", true)
def pm_T2 : u_T := fun k => match k with
  | _ => ("SilentTable$MeaningChart", "cells", "[J", true)
def pm_T3 : u_T := fun k => match k with
  | 0 => ("SilentTable$ShortRows", "totals", "[I", true)
  | 1 => ("SilentTable$ShortRows", "values", "[J", true)
  | 2 => ("SilentTable$ShortRows", "counts", "[I", true)
  | 3 => ("SilentTable$ShortRows", "only", "[B", true)
  | 4 => ("SilentTable$ShortRows", "list", "LSilentTable$SignList;", false)
  | 5 => ("SilentTable$ShortRows", "filled", "I", false)
  | 6 => ("SilentTable$ShortRows", "askedValue", "I", false)
  | 7 => ("SilentTable$ShortRows", "askedHands", "I", false)
  | _ => ("SilentTable$ShortRows", "answer", "I", false)
def pm_T4 : u_T := fun k => match k with
  | 0 => ("SilentTable$SignList", "ruleCount", "I", true)
  | 1 => ("SilentTable$SignList", "rules", "[I", true)
  | 2 => ("SilentTable$SignList", "readingCount", "I", true)
  | 3 => ("SilentTable$SignList", "readings", "[I", true)
  | 4 => ("SilentTable$SignList", "near", "[I", true)
  | 5 => ("SilentTable$SignList", "values", "[J", true)
  | 6 => ("SilentTable$SignList", "wornTo", "[I", true)
  | _ => ("SilentTable$SignList", "restsAt", "I", true)
def pm_T5 : u_T := fun k => match k with
  | 0 => ("SilentTable$SignRow", "size", "I", true)
  | _ => ("SilentTable$SignRow", "signs", "[I", true)
def pm_T6 : u_T := fun k => match k with
  | 0 => ("SilentTable$TextReader", "tokens", "LSilentTable$Tokens;", true)
  | 1 => ("SilentTable$TextReader", "fault", "I", false)
  | 2 => ("SilentTable$TextReader", "place", "I", false)
  | 3 => ("SilentTable$TextReader", "items", "[I", true)
  | 4 => ("SilentTable$TextReader", "itemCount", "I", false)
  | 5 => ("SilentTable$TextReader", "readings", "[I", true)
  | 6 => ("SilentTable$TextReader", "readingCount", "I", false)
  | 7 => ("SilentTable$TextReader", "near", "[I", true)
  | 8 => ("SilentTable$TextReader", "seats", "I", false)
  | 9 => ("SilentTable$TextReader", "highestSeat", "I", false)
  | _ => ("SilentTable$TextReader", "line", "[I", true)
def pm_T7 : u_T := fun k => match k with
  | 0 => ("SilentTable$Tokens", "tape", "[B", true)
  | 1 => ("SilentTable$Tokens", "size", "I", false)
  | 2 => ("SilentTable$Tokens", "behind", "I", false)
  | 3 => ("SilentTable$Tokens", "start", "I", false)
  | 4 => ("SilentTable$Tokens", "sort", "I", false)
  | _ => ("SilentTable$Tokens", "number", "I", false)
def pm_T8 : u_T := fun k => match k with
  | 0 => ("SilentTable$Told", "tape", "[B", true)
  | 1 => ("SilentTable$Told", "size", "I", false)
  | 2 => ("SilentTable$Told", "fault", "I", false)
  | 3 => ("SilentTable$Told", "place", "I", false)
  | 4 => ("SilentTable$Told", "lists", "[LSilentTable$SignList;", true)
  | 5 => ("SilentTable$Told", "rows", "[LSilentTable$SignRow;", true)
  | 6 => ("SilentTable$Told", "meals", "[LSilentTable$Meal;", true)
  | 7 => ("SilentTable$Told", "houses", "[LSilentTable$House;", true)
  | _ => ("SilentTable$Told", "counts", "[I", true)
def pm_T9 : u_T := fun k => match k with
  | 0 => ("SilentTable$TreeChart", "cells", "[J", true)
  | 1 => ("SilentTable$TreeChart", "picked", "[I", true)
  | 2 => ("SilentTable$TreeChart", "topRule", "I", false)
  | 3 => ("SilentTable$TreeChart", "topCut", "I", false)
  | 4 => ("SilentTable$TreeChart", "used", "[I", true)
  | 5 => ("SilentTable$TreeChart", "list", "LSilentTable$SignList;", false)
  | _ => ("SilentTable$TreeChart", "row", "LSilentTable$SignRow;", false)
def pm_T10 : u_T := fun k => match k with
  | 0 => ("SilentTable$WayChart", "cells", "[J", true)
  | 1 => ("SilentTable$WayChart", "list", "LSilentTable$SignList;", false)
  | _ => ("SilentTable$WayChart", "row", "LSilentTable$SignRow;", false)
def pm_T11 : u_T := fun k => match k with
  | 0 => ("SilentTable", "told", "LSilentTable$Told;", true)
  | 1 => ("SilentTable", "images", "[LSilentTable$Told;", true)
  | 2 => ("SilentTable", "reader", "LSilentTable$TextReader;", true)
  | 3 => ("SilentTable", "meaning", "LSilentTable$MeaningChart;", true)
  | 4 => ("SilentTable", "counted", "LSilentTable$TreeChart;", true)
  | 5 => ("SilentTable", "byValue", "LSilentTable$WayChart;", false)
  | 6 => ("SilentTable", "shorts", "[LSilentTable$ShortRows;", true)
  | 7 => ("SilentTable", "sets", "[I", true)
  | 8 => ("SilentTable", "heard", "[I", true)
  | _ => ("SilentTable", "broken", "[I", true)
def pm_T12 : u_T := fun k => match k with
  | 0 => ("SilentTableModel", "code", "I", false)
  | 1 => ("SilentTableModel", "tape", "[B", true)
  | 2 => ("SilentTableModel", "size", "[I", true)
  | 3 => ("SilentTableModel", "fault", "[I", true)
  | 4 => ("SilentTableModel", "faultPlace", "[I", true)
  | 5 => ("SilentTableModel", "many", "[I", true)
  | 6 => ("SilentTableModel", "lists", "[I", true)
  | 7 => ("SilentTableModel", "rows", "[I", true)
  | 8 => ("SilentTableModel", "meals", "[I", true)
  | 9 => ("SilentTableModel", "houses", "[I", true)
  | 10 => ("SilentTableModel", "reached", "I", false)
  | 11 => ("SilentTableModel", "length", "I", false)
  | 12 => ("SilentTableModel", "begins", "I", false)
  | 13 => ("SilentTableModel", "sort", "I", false)
  | 14 => ("SilentTableModel", "value", "I", false)
  | 15 => ("SilentTableModel", "word", "J", false)
  | 16 => ("SilentTableModel", "wrongAt", "I", false)
  | 17 => ("SilentTableModel", "laterFault", "I", false)
  | 18 => ("SilentTableModel", "laterPlace", "I", false)
  | 19 => ("SilentTableModel", "told", "[I", true)
  | 20 => ("SilentTableModel", "read", "[I", true)
  | 21 => ("SilentTableModel", "greatest", "I", false)
  | 22 => ("SilentTableModel", "good", "Z", false)
  | 23 => ("SilentTableModel", "list", "I", false)
  | 24 => ("SilentTableModel", "wide", "I", false)
  | 25 => ("SilentTableModel", "place", "[I", true)
  | 26 => ("SilentTableModel", "onlyAt", "I", false)
  | 27 => ("SilentTableModel", "only", "I", false)
  | 28 => ("SilentTableModel", "values", "[J", true)
  | 29 => ("SilentTableModel", "counts", "[J", true)
  | 30 => ("SilentTableModel", "byValue", "[J", true)
  | 31 => ("SilentTableModel", "parts", "I", false)
  | 32 => ("SilentTableModel", "partKind", "[I", true)
  | 33 => ("SilentTableModel", "partFrom", "[I", true)
  | 34 => ("SilentTableModel", "partTo", "[I", true)
  | 35 => ("SilentTableModel", "partN", "[J", true)
  | 36 => ("SilentTableModel", "partRule", "[I", true)
  | 37 => ("SilentTableModel", "partCut", "[I", true)
  | 38 => ("SilentTableModel", "partFirst", "[I", true)
  | 39 => ("SilentTableModel", "partValue", "[I", true)
  | 40 => ("SilentTableModel", "readingAt", "[I", true)
  | 41 => ("SilentTableModel", "found", "[I", true)
  | 42 => ("SilentTableModel", "seats", "I", false)
  | 43 => ("SilentTableModel", "deeds", "I", false)
  | 44 => ("SilentTableModel", "meal", "I", false)
  | 45 => ("SilentTableModel", "looksAt", "[I", true)
  | 46 => ("SilentTableModel", "saw", "[I", true)
  | 47 => ("SilentTableModel", "caught", "I", false)
  | 48 => ("SilentTableModel", "caughtSigns", "[I", true)
  | 49 => ("SilentTableModel", "house", "I", false)
  | 50 => ("SilentTableModel", "seed", "I", false)
  | 51 => ("SilentTableModel", "now", "[I", true)
  | _ => ("SilentTableModel", "kept", "[Z", true)
def pm_cl : List vw_C := [("SilentTable$House", pm_T0, 2), ("SilentTable$Meal", pm_T1, 5), ("SilentTable$MeaningChart", pm_T2, 1), ("SilentTable$ShortRows", pm_T3, 9), ("SilentTable$SignList", pm_T4, 8), ("SilentTable$SignRow", pm_T5, 2), ("SilentTable$TextReader", pm_T6, 11), ("SilentTable$Tokens", pm_T7, 6), ("SilentTable$Told", pm_T8, 9), ("SilentTable$TreeChart", pm_T9, 7), ("SilentTable$WayChart", pm_T10, 3), ("SilentTable", pm_T11, 10), ("SilentTableModel", pm_T12, 53)]
def pm_ty (T : u_T) (k : Nat) : FieldType := (parseFieldDescriptor (T k).2.2.1).getD .int
def pm_Cok (q : vw_C) : Prop := (∀ w ∈ u_ws q.1 q.2.1 q.2.2, w ∈ pm_good) ∧ (∀ k, k < q.2.2 → parseFieldDescriptor (q.2.1 k).2.2.1 = some (pm_ty q.2.1 k)) ∧ (∀ a, a < q.2.2 → ∀ b, b < q.2.2 → a ≠ b → (q.2.1 a).2.1 ≠ (q.2.1 b).2.1) ∧ pm_G (.instantiable q.1 q.2.2) ∧ pm_G (.initialized q.1)
set_option maxRecDepth 100000 in
theorem pm_c0_w : ∀ w ∈ u_ws "SilentTable$House" pm_T0 2, w ∈ pm_good := by
  intro w hw
  obtain ⟨k, hk, rfl⟩ := List.mem_map.mp hw
  have hk := List.mem_range.mp hk
  match k, hk with
  | 0, _ => exact pm_G_in ⟨List.mem_append_right _ tq_3_11.1, rfl⟩
  | 1, _ => exact pm_G_in ⟨List.mem_append_right _ tq_3_11.2.2.1, rfl⟩
  | n + 2, h => exact absurd h (by omega)
set_option maxRecDepth 100000 in
theorem pm_c0 : pm_Cok ("SilentTable$House", pm_T0, 2) := ⟨pm_c0_w, by decide +kernel, by decide +kernel, ⟨List.mem_append_right _ tq_3_9.2.2.2.2.2.2.1, rfl⟩, ⟨List.mem_append_right _ tq_1_2.2.2.1, rfl⟩⟩
set_option maxRecDepth 100000 in
theorem pm_c1_w : ∀ w ∈ u_ws "SilentTable$Meal" pm_T1 5, w ∈ pm_good := by
  intro w hw
  obtain ⟨k, hk, rfl⟩ := List.mem_map.mp hw
  have hk := List.mem_range.mp hk
  match k, hk with
  | 0, _ => exact pm_G_in ⟨List.mem_append_right _ tq_3_8.2.2.1, rfl⟩
  | 1, _ => exact pm_G_in ⟨List.mem_append_right _ tq_3_8.2.2.2.2.1, rfl⟩
  | 2, _ => exact pm_G_in ⟨List.mem_append_right _ tq_3_8.2.2.2.2.2.2.1, rfl⟩
  | 3, _ => exact pm_G_in ⟨List.mem_append_right _ tq_3_9.1, rfl⟩
  | 4, _ => exact pm_G_in ⟨List.mem_append_right _ tq_3_9.2.2.1, rfl⟩
  | n + 5, h => exact absurd h (by omega)
set_option maxRecDepth 100000 in
theorem pm_c1 : pm_Cok ("SilentTable$Meal", pm_T1, 5) := ⟨pm_c1_w, by decide +kernel, by decide +kernel, ⟨List.mem_append_right _ tq_3_3.2.2.2.2.2.1, rfl⟩, ⟨List.mem_append_right _ tq_1_2.2.1, rfl⟩⟩
set_option maxRecDepth 100000 in
theorem pm_c2_w : ∀ w ∈ u_ws "SilentTable$MeaningChart" pm_T2 1, w ∈ pm_good := by
  intro w hw
  obtain ⟨k, hk, rfl⟩ := List.mem_map.mp hw
  have hk := List.mem_range.mp hk
  match k, hk with
  | 0, _ => exact pm_G_in ⟨List.mem_append_right _ tq_1_22.1, rfl⟩
  | n + 1, h => exact absurd h (by omega)
set_option maxRecDepth 100000 in
theorem pm_c2 : pm_Cok ("SilentTable$MeaningChart", pm_T2, 1) := ⟨pm_c2_w, by decide +kernel, by decide +kernel, ⟨List.mem_append_right _ tq_1_21.2.2.1, rfl⟩, ⟨List.mem_append_right _ tq_1_0.2.2.2.2.2.1, rfl⟩⟩
set_option maxRecDepth 100000 in
theorem pm_c3_w : ∀ w ∈ u_ws "SilentTable$ShortRows" pm_T3 9, w ∈ pm_good := by
  intro w hw
  obtain ⟨k, hk, rfl⟩ := List.mem_map.mp hw
  have hk := List.mem_range.mp hk
  match k, hk with
  | 0, _ => exact pm_G_in ⟨List.mem_append_right _ tq_4_21.2.1, rfl⟩
  | 1, _ => exact pm_G_in ⟨List.mem_append_right _ tq_4_21.2.2.2.1, rfl⟩
  | 2, _ => exact pm_G_in ⟨List.mem_append_right _ tq_4_21.2.2.2.2.2.1, rfl⟩
  | 3, _ => exact pm_G_in ⟨List.mem_append_right _ tq_4_21.2.2.2.2.2.2.2.1, rfl⟩
  | 4, _ => exact pm_G_in ⟨List.mem_append_right _ tq_4_22.2.1, rfl⟩
  | 5, _ => exact pm_G_in ⟨List.mem_append_right _ tq_4_22.2.2.2.1, rfl⟩
  | 6, _ => exact pm_G_in ⟨List.mem_append_right _ tq_4_22.2.2.2.2.2.1, rfl⟩
  | 7, _ => exact pm_G_in ⟨List.mem_append_right _ tq_4_22.2.2.2.2.2.2.2.1, rfl⟩
  | 8, _ => exact pm_G_in ⟨List.mem_append_right _ tq_4_23.2.1, rfl⟩
  | n + 9, h => exact absurd h (by omega)
set_option maxRecDepth 100000 in
theorem pm_c3 : pm_Cok ("SilentTable$ShortRows", pm_T3, 9) := ⟨pm_c3_w, by decide +kernel, by decide +kernel, ⟨List.mem_append_right _ tq_4_19.2.2.1, rfl⟩, ⟨List.mem_append_right _ tq_1_2.2.2.2.2.2.2.1, rfl⟩⟩
set_option maxRecDepth 100000 in
theorem pm_c4_w : ∀ w ∈ u_ws "SilentTable$SignList" pm_T4 8, w ∈ pm_good := by
  intro w hw
  obtain ⟨k, hk, rfl⟩ := List.mem_map.mp hw
  have hk := List.mem_range.mp hk
  match k, hk with
  | 0, _ => exact pm_G_in ⟨List.mem_append_right _ tq_2_28.2.2.2.2.2.2.2.1, rfl⟩
  | 1, _ => exact pm_G_in ⟨List.mem_append_right _ tq_2_29.2.1, rfl⟩
  | 2, _ => exact pm_G_in ⟨List.mem_append_right _ tq_2_29.2.2.2.1, rfl⟩
  | 3, _ => exact pm_G_in ⟨List.mem_append_right _ tq_2_29.2.2.2.2.2.1, rfl⟩
  | 4, _ => exact pm_G_in ⟨List.mem_append_right _ tq_2_29.2.2.2.2.2.2.2.1, rfl⟩
  | 5, _ => exact pm_G_in ⟨List.mem_append_right _ tq_3_0.2.1, rfl⟩
  | 6, _ => exact pm_G_in ⟨List.mem_append_right _ tq_3_0.2.2.2.1, rfl⟩
  | 7, _ => exact pm_G_in ⟨List.mem_append_right _ tq_3_0.2.2.2.2.2.1, rfl⟩
  | n + 8, h => exact absurd h (by omega)
set_option maxRecDepth 100000 in
theorem pm_c4 : pm_Cok ("SilentTable$SignList", pm_T4, 8) := ⟨pm_c4_w, by decide +kernel, by decide +kernel, ⟨List.mem_append_right _ tq_2_22.2.1, rfl⟩, ⟨List.mem_append_right _ tq_1_1.2.2.2.2.2.2.2.1, rfl⟩⟩
set_option maxRecDepth 100000 in
theorem pm_c5_w : ∀ w ∈ u_ws "SilentTable$SignRow" pm_T5 2, w ∈ pm_good := by
  intro w hw
  obtain ⟨k, hk, rfl⟩ := List.mem_map.mp hw
  have hk := List.mem_range.mp hk
  match k, hk with
  | 0, _ => exact pm_G_in ⟨List.mem_append_right _ tq_3_2.2.2.2.2.2.2.2.1, rfl⟩
  | 1, _ => exact pm_G_in ⟨List.mem_append_right _ tq_3_3.2.1, rfl⟩
  | n + 2, h => exact absurd h (by omega)
set_option maxRecDepth 100000 in
theorem pm_c5 : pm_Cok ("SilentTable$SignRow", pm_T5, 2) := ⟨pm_c5_w, by decide +kernel, by decide +kernel, ⟨List.mem_append_right _ tq_3_1.2.1, rfl⟩, ⟨List.mem_append_right _ tq_1_2.1, rfl⟩⟩
set_option maxRecDepth 100000 in
theorem pm_c6_w : ∀ w ∈ u_ws "SilentTable$TextReader" pm_T6 11, w ∈ pm_good := by
  intro w hw
  obtain ⟨k, hk, rfl⟩ := List.mem_map.mp hw
  have hk := List.mem_range.mp hk
  match k, hk with
  | 0, _ => exact pm_G_in ⟨List.mem_append_right _ tq_1_18.2.2.1, rfl⟩
  | 1, _ => exact pm_G_in ⟨List.mem_append_right _ tq_1_18.2.2.2.2.1, rfl⟩
  | 2, _ => exact pm_G_in ⟨List.mem_append_right _ tq_1_18.2.2.2.2.2.2.1, rfl⟩
  | 3, _ => exact pm_G_in ⟨List.mem_append_right _ tq_1_19.1, rfl⟩
  | 4, _ => exact pm_G_in ⟨List.mem_append_right _ tq_1_19.2.2.1, rfl⟩
  | 5, _ => exact pm_G_in ⟨List.mem_append_right _ tq_1_19.2.2.2.2.1, rfl⟩
  | 6, _ => exact pm_G_in ⟨List.mem_append_right _ tq_1_19.2.2.2.2.2.2.1, rfl⟩
  | 7, _ => exact pm_G_in ⟨List.mem_append_right _ tq_1_20.1, rfl⟩
  | 8, _ => exact pm_G_in ⟨List.mem_append_right _ tq_1_20.2.2.1, rfl⟩
  | 9, _ => exact pm_G_in ⟨List.mem_append_right _ tq_1_20.2.2.2.2.1, rfl⟩
  | 10, _ => exact pm_G_in ⟨List.mem_append_right _ tq_1_20.2.2.2.2.2.2.1, rfl⟩
  | n + 11, h => exact absurd h (by omega)
set_option maxRecDepth 100000 in
theorem pm_c6 : pm_Cok ("SilentTable$TextReader", pm_T6, 11) := ⟨pm_c6_w, by decide +kernel, by decide +kernel, ⟨List.mem_append_right _ tq_1_11.1, rfl⟩, ⟨List.mem_append_right _ tq_1_0.2.2.2.1, rfl⟩⟩
set_option maxRecDepth 100000 in
theorem pm_c7_w : ∀ w ∈ u_ws "SilentTable$Tokens" pm_T7 6, w ∈ pm_good := by
  intro w hw
  obtain ⟨k, hk, rfl⟩ := List.mem_map.mp hw
  have hk := List.mem_range.mp hk
  match k, hk with
  | 0, _ => exact pm_G_in ⟨List.mem_append_right _ tq_1_13.2.2.2.2.1, rfl⟩
  | 1, _ => exact pm_G_in ⟨List.mem_append_right _ tq_1_13.2.2.2.2.2.2.1, rfl⟩
  | 2, _ => exact pm_G_in ⟨List.mem_append_right _ tq_1_14.1, rfl⟩
  | 3, _ => exact pm_G_in ⟨List.mem_append_right _ tq_1_14.2.2.1, rfl⟩
  | 4, _ => exact pm_G_in ⟨List.mem_append_right _ tq_1_14.2.2.2.2.1, rfl⟩
  | 5, _ => exact pm_G_in ⟨List.mem_append_right _ tq_1_14.2.2.2.2.2.2.1, rfl⟩
  | n + 6, h => exact absurd h (by omega)
set_option maxRecDepth 100000 in
theorem pm_c7 : pm_Cok ("SilentTable$Tokens", pm_T7, 6) := ⟨pm_c7_w, by decide +kernel, by decide +kernel, ⟨List.mem_append_right _ tq_1_11.2.2.2.2.2.2.1, rfl⟩, ⟨List.mem_append_right _ tq_1_0.2.2.2.2.1, rfl⟩⟩
set_option maxRecDepth 100000 in
theorem pm_c8_w : ∀ w ∈ u_ws "SilentTable$Told" pm_T8 9, w ∈ pm_good := by
  intro w hw
  obtain ⟨k, hk, rfl⟩ := List.mem_map.mp hw
  have hk := List.mem_range.mp hk
  match k, hk with
  | 0, _ => exact pm_G_in ⟨List.mem_append_right _ tq_1_8.2.1, rfl⟩
  | 1, _ => exact pm_G_in ⟨List.mem_append_right _ tq_1_8.2.2.2.1, rfl⟩
  | 2, _ => exact pm_G_in ⟨List.mem_append_right _ tq_1_8.2.2.2.2.2.1, rfl⟩
  | 3, _ => exact pm_G_in ⟨List.mem_append_right _ tq_1_8.2.2.2.2.2.2.2.1, rfl⟩
  | 4, _ => exact pm_G_in ⟨List.mem_append_right _ tq_1_9.2.1, rfl⟩
  | 5, _ => exact pm_G_in ⟨List.mem_append_right _ tq_1_9.2.2.2.1, rfl⟩
  | 6, _ => exact pm_G_in ⟨List.mem_append_right _ tq_1_9.2.2.2.2.2.1, rfl⟩
  | 7, _ => exact pm_G_in ⟨List.mem_append_right _ tq_1_9.2.2.2.2.2.2.2.1, rfl⟩
  | 8, _ => exact pm_G_in ⟨List.mem_append_right _ tq_1_10.2.1, rfl⟩
  | n + 9, h => exact absurd h (by omega)
set_option maxRecDepth 100000 in
theorem pm_c8 : pm_Cok ("SilentTable$Told", pm_T8, 9) := ⟨pm_c8_w, by decide +kernel, by decide +kernel, ⟨List.mem_append_right _ tq_1_4.1, rfl⟩, ⟨List.mem_append_right _ tq_1_0.2.2.1, rfl⟩⟩
set_option maxRecDepth 100000 in
theorem pm_c9_w : ∀ w ∈ u_ws "SilentTable$TreeChart" pm_T9 7, w ∈ pm_good := by
  intro w hw
  obtain ⟨k, hk, rfl⟩ := List.mem_map.mp hw
  have hk := List.mem_range.mp hk
  match k, hk with
  | 0, _ => exact pm_G_in ⟨List.mem_append_right _ tq_1_25.1, rfl⟩
  | 1, _ => exact pm_G_in ⟨List.mem_append_right _ tq_1_25.2.2.1, rfl⟩
  | 2, _ => exact pm_G_in ⟨List.mem_append_right _ tq_1_25.2.2.2.2.1, rfl⟩
  | 3, _ => exact pm_G_in ⟨List.mem_append_right _ tq_1_25.2.2.2.2.2.2.1, rfl⟩
  | 4, _ => exact pm_G_in ⟨List.mem_append_right _ tq_1_26.1, rfl⟩
  | 5, _ => exact pm_G_in ⟨List.mem_append_right _ tq_1_26.2.2.1, rfl⟩
  | 6, _ => exact pm_G_in ⟨List.mem_append_right _ tq_1_26.2.2.2.2.1, rfl⟩
  | n + 7, h => exact absurd h (by omega)
set_option maxRecDepth 100000 in
theorem pm_c9 : pm_Cok ("SilentTable$TreeChart", pm_T9, 7) := ⟨pm_c9_w, by decide +kernel, by decide +kernel, ⟨List.mem_append_right _ tq_1_22.2.2.2.2.2.1, rfl⟩, ⟨List.mem_append_right _ tq_1_0.2.2.2.2.2.2.1, rfl⟩⟩
set_option maxRecDepth 100000 in
theorem pm_c10_w : ∀ w ∈ u_ws "SilentTable$WayChart" pm_T10 3, w ∈ pm_good := by
  intro w hw
  obtain ⟨k, hk, rfl⟩ := List.mem_map.mp hw
  have hk := List.mem_range.mp hk
  match k, hk with
  | 0, _ => exact pm_G_in ⟨List.mem_append_right _ tq_3_27.2.1, rfl⟩
  | 1, _ => exact pm_G_in ⟨List.mem_append_right _ tq_3_27.2.2.2.1, rfl⟩
  | 2, _ => exact pm_G_in ⟨List.mem_append_right _ tq_3_27.2.2.2.2.2.1, rfl⟩
  | n + 3, h => exact absurd h (by omega)
set_option maxRecDepth 100000 in
theorem pm_c10 : pm_Cok ("SilentTable$WayChart", pm_T10, 3) := ⟨pm_c10_w, by decide +kernel, by decide +kernel, ⟨List.mem_append_right _ tq_3_26.1, rfl⟩, ⟨List.mem_append_right _ tq_1_2.2.2.2.2.1, rfl⟩⟩
set_option maxRecDepth 100000 in
theorem pm_c11_w : ∀ w ∈ u_ws "SilentTable" pm_T11 10, w ∈ pm_good := by
  intro w hw
  obtain ⟨k, hk, rfl⟩ := List.mem_map.mp hw
  have hk := List.mem_range.mp hk
  match k, hk with
  | 0, _ => exact pm_G_in ⟨List.mem_append_right _ tq_1_28.2.2.2.2.1, rfl⟩
  | 1, _ => exact pm_G_in ⟨List.mem_append_right _ tq_1_28.2.2.2.2.2.2.1, rfl⟩
  | 2, _ => exact pm_G_in ⟨List.mem_append_right _ tq_1_29.1, rfl⟩
  | 3, _ => exact pm_G_in ⟨List.mem_append_right _ tq_1_29.2.2.1, rfl⟩
  | 4, _ => exact pm_G_in ⟨List.mem_append_right _ tq_1_29.2.2.2.2.1, rfl⟩
  | 5, _ => exact pm_G_in ⟨List.mem_append_right _ tq_1_29.2.2.2.2.2.2.1, rfl⟩
  | 6, _ => exact pm_G_in ⟨List.mem_append_right _ tq_2_0.1, rfl⟩
  | 7, _ => exact pm_G_in ⟨List.mem_append_right _ tq_2_0.2.2.1, rfl⟩
  | 8, _ => exact pm_G_in ⟨List.mem_append_right _ tq_2_0.2.2.2.2.1, rfl⟩
  | 9, _ => exact pm_G_in ⟨List.mem_append_right _ tq_2_0.2.2.2.2.2.2.1, rfl⟩
  | n + 10, h => exact absurd h (by omega)
set_option maxRecDepth 100000 in
theorem pm_c11 : pm_Cok ("SilentTable", pm_T11, 10) := ⟨pm_c11_w, by decide +kernel, by decide +kernel, ⟨List.mem_append_right _ tq_1_3.1, rfl⟩, ⟨List.mem_append_right _ tq_1_0.2.1, rfl⟩⟩
set_option maxRecDepth 100000 in
theorem pm_c12_w : ∀ w ∈ u_ws "SilentTableModel" pm_T12 53, w ∈ pm_good := by
  intro w hw
  obtain ⟨k, hk, rfl⟩ := List.mem_map.mp hw
  have hk := List.mem_range.mp hk
  match k, hk with
  | 0, _ => exact pm_G_in ⟨List.mem_append_right _ tq_5_26.2.2.1, rfl⟩
  | 1, _ => exact pm_G_in ⟨List.mem_append_right _ tq_5_26.2.2.2.2.1, rfl⟩
  | 2, _ => exact pm_G_in ⟨List.mem_append_right _ tq_5_26.2.2.2.2.2.2.1, rfl⟩
  | 3, _ => exact pm_G_in ⟨List.mem_append_right _ tq_5_27.1, rfl⟩
  | 4, _ => exact pm_G_in ⟨List.mem_append_right _ tq_5_27.2.2.1, rfl⟩
  | 5, _ => exact pm_G_in ⟨List.mem_append_right _ tq_5_27.2.2.2.2.1, rfl⟩
  | 6, _ => exact pm_G_in ⟨List.mem_append_right _ tq_5_27.2.2.2.2.2.2.1, rfl⟩
  | 7, _ => exact pm_G_in ⟨List.mem_append_right _ tq_5_28.1, rfl⟩
  | 8, _ => exact pm_G_in ⟨List.mem_append_right _ tq_5_28.2.2.1, rfl⟩
  | 9, _ => exact pm_G_in ⟨List.mem_append_right _ tq_5_28.2.2.2.2.1, rfl⟩
  | 10, _ => exact pm_G_in ⟨List.mem_append_right _ tq_5_28.2.2.2.2.2.2.1, rfl⟩
  | 11, _ => exact pm_G_in ⟨List.mem_append_right _ tq_5_29.1, rfl⟩
  | 12, _ => exact pm_G_in ⟨List.mem_append_right _ tq_5_29.2.2.1, rfl⟩
  | 13, _ => exact pm_G_in ⟨List.mem_append_right _ tq_5_29.2.2.2.2.1, rfl⟩
  | 14, _ => exact pm_G_in ⟨List.mem_append_right _ tq_5_29.2.2.2.2.2.2.1, rfl⟩
  | 15, _ => exact pm_G_in ⟨List.mem_append_right _ tq_6_0.1, rfl⟩
  | 16, _ => exact pm_G_in ⟨List.mem_append_right _ tq_6_0.2.2.1, rfl⟩
  | 17, _ => exact pm_G_in ⟨List.mem_append_right _ tq_6_0.2.2.2.2.1, rfl⟩
  | 18, _ => exact pm_G_in ⟨List.mem_append_right _ tq_6_0.2.2.2.2.2.2.1, rfl⟩
  | 19, _ => exact pm_G_in ⟨List.mem_append_right _ tq_6_1.1, rfl⟩
  | 20, _ => exact pm_G_in ⟨List.mem_append_right _ tq_6_1.2.2.1, rfl⟩
  | 21, _ => exact pm_G_in ⟨List.mem_append_right _ tq_6_1.2.2.2.2.1, rfl⟩
  | 22, _ => exact pm_G_in ⟨List.mem_append_right _ tq_6_1.2.2.2.2.2.2.1, rfl⟩
  | 23, _ => exact pm_G_in ⟨List.mem_append_right _ tq_6_2.1, rfl⟩
  | 24, _ => exact pm_G_in ⟨List.mem_append_right _ tq_6_2.2.2.1, rfl⟩
  | 25, _ => exact pm_G_in ⟨List.mem_append_right _ tq_6_2.2.2.2.2.1, rfl⟩
  | 26, _ => exact pm_G_in ⟨List.mem_append_right _ tq_6_2.2.2.2.2.2.2.1, rfl⟩
  | 27, _ => exact pm_G_in ⟨List.mem_append_right _ tq_6_3.1, rfl⟩
  | 28, _ => exact pm_G_in ⟨List.mem_append_right _ tq_6_3.2.2.1, rfl⟩
  | 29, _ => exact pm_G_in ⟨List.mem_append_right _ tq_6_3.2.2.2.2.1, rfl⟩
  | 30, _ => exact pm_G_in ⟨List.mem_append_right _ tq_6_3.2.2.2.2.2.2.1, rfl⟩
  | 31, _ => exact pm_G_in ⟨List.mem_append_right _ tq_6_4.1, rfl⟩
  | 32, _ => exact pm_G_in ⟨List.mem_append_right _ tq_6_4.2.2.1, rfl⟩
  | 33, _ => exact pm_G_in ⟨List.mem_append_right _ tq_6_4.2.2.2.2.1, rfl⟩
  | 34, _ => exact pm_G_in ⟨List.mem_append_right _ tq_6_4.2.2.2.2.2.2.1, rfl⟩
  | 35, _ => exact pm_G_in ⟨List.mem_append_right _ tq_6_5.1, rfl⟩
  | 36, _ => exact pm_G_in ⟨List.mem_append_right _ tq_6_5.2.2.1, rfl⟩
  | 37, _ => exact pm_G_in ⟨List.mem_append_right _ tq_6_5.2.2.2.2.1, rfl⟩
  | 38, _ => exact pm_G_in ⟨List.mem_append_right _ tq_6_5.2.2.2.2.2.2.1, rfl⟩
  | 39, _ => exact pm_G_in ⟨List.mem_append_right _ tq_6_6.1, rfl⟩
  | 40, _ => exact pm_G_in ⟨List.mem_append_right _ tq_6_6.2.2.1, rfl⟩
  | 41, _ => exact pm_G_in ⟨List.mem_append_right _ tq_6_6.2.2.2.2.1, rfl⟩
  | 42, _ => exact pm_G_in ⟨List.mem_append_right _ tq_6_6.2.2.2.2.2.2.1, rfl⟩
  | 43, _ => exact pm_G_in ⟨List.mem_append_right _ tq_6_7.1, rfl⟩
  | 44, _ => exact pm_G_in ⟨List.mem_append_right _ tq_6_7.2.2.1, rfl⟩
  | 45, _ => exact pm_G_in ⟨List.mem_append_right _ tq_6_7.2.2.2.2.1, rfl⟩
  | 46, _ => exact pm_G_in ⟨List.mem_append_right _ tq_6_7.2.2.2.2.2.2.1, rfl⟩
  | 47, _ => exact pm_G_in ⟨List.mem_append_right _ tq_6_8.1, rfl⟩
  | 48, _ => exact pm_G_in ⟨List.mem_append_right _ tq_6_8.2.2.1, rfl⟩
  | 49, _ => exact pm_G_in ⟨List.mem_append_right _ tq_6_8.2.2.2.2.1, rfl⟩
  | 50, _ => exact pm_G_in ⟨List.mem_append_right _ tq_6_8.2.2.2.2.2.2.1, rfl⟩
  | 51, _ => exact pm_G_in ⟨List.mem_append_right _ tq_6_9.1, rfl⟩
  | 52, _ => exact pm_G_in ⟨List.mem_append_right _ tq_6_9.2.2.1, rfl⟩
  | n + 53, h => exact absurd h (by omega)
set_option maxRecDepth 100000 in
theorem pm_c12 : pm_Cok ("SilentTableModel", pm_T12, 53) := ⟨pm_c12_w, by decide +kernel, by decide +kernel, ⟨List.mem_append_right _ tq_5_18.2.2.2.2.2.2.2.1, rfl⟩, ⟨List.mem_append_right _ tq_1_0.2.2.2.2.2.2.2.1, rfl⟩⟩
set_option maxRecDepth 100000 in
theorem pm_cl_ok : ∀ q ∈ pm_cl, pm_Cok q := List.forall_mem_cons.mpr ⟨pm_c0, List.forall_mem_cons.mpr ⟨pm_c1, List.forall_mem_cons.mpr ⟨pm_c2, List.forall_mem_cons.mpr ⟨pm_c3, List.forall_mem_cons.mpr ⟨pm_c4, List.forall_mem_cons.mpr ⟨pm_c5, List.forall_mem_cons.mpr ⟨pm_c6, List.forall_mem_cons.mpr ⟨pm_c7, List.forall_mem_cons.mpr ⟨pm_c8, List.forall_mem_cons.mpr ⟨pm_c9, List.forall_mem_cons.mpr ⟨pm_c10, List.forall_mem_cons.mpr ⟨pm_c11, List.forall_mem_cons.mpr ⟨pm_c12, fun _ h => absurd h List.not_mem_nil⟩⟩⟩⟩⟩⟩⟩⟩⟩⟩⟩⟩⟩
