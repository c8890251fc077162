/-! the law's start: the classes, the tables, the old arrays; what is left to show is of the pure machine alone -/
def pm_sv1 : List Int32 := [2, 3, 2, 2]
def pm_sv2 : List Int32 := [3, 3, 2, 1, 2, 1, 2, 1, 2, 2, 2, 1, 1]
def pm_sv3 : List Int32 := [5, 5, 5, 9, 5, 49, 9, 9, 0, 6, 0, 0, 5, 5, 0, 5, 0, 0, 5, 9, 0, 9, 0, 0, 9, 9, 0, 9, 9, 0, 9, 9, 0, 9, 0, 0, 9, 0, 0]
def pm_sv4 : List Int32 := [10, 16, 0, 0, 50, 50, 50, 8, 8, 8, 8, 8, 8]
def pm_sv5 : List Int32 := [1, 10, 100, 1000, 10000]
def pm_sv6 : List Int32 := [0, 0, 10, 110, 1110]
def pm_sby : List (List Int32) := [[114, 117, 108, 101, 32, 115, 105, 103, 110, 32, 110, 101, 97, 114], [115, 101, 97, 116, 115, 32, 108, 111, 111, 107, 32, 97, 119, 97, 121, 32, 115, 97, 121, 115], [110, 101, 118, 101, 114, 32, 109, 111, 115, 116, 32, 111, 114, 100, 101, 114, 32, 112, 97, 105, 114, 32, 104, 105, 100, 100, 101, 110, 32, 115, 101, 101, 110], [104, 101, 97, 100, 32, 116, 97, 105, 108, 32, 112, 108, 117, 115, 32, 108, 101, 115, 115, 32, 110, 111, 116]]
def pm_sln : List Nat := [14, 20, 33, 23]
def pm_f0 (fm : Bool) (L : Nat) (xs : Nat → Int32) (i : Nat) : pm_E := match i with
  | 0 => .inl (0, L, .inl xs)
  | 1 => .inl (0, 4, .inl (fun j => pm_sv1.getD j 0))
  | 2 => .inl (0, 13, .inl (fun j => pm_sv2.getD j 0))
  | 3 => .inl (0, 39, .inl (fun j => pm_sv3.getD j 0))
  | 4 => .inl (0, 13, .inl (fun j => pm_sv4.getD j 0))
  | 5 => .inl (0, 5, .inl (fun j => pm_sv5.getD j 0))
  | 6 => .inl (0, 5, .inl (fun j => pm_sv6.getD j 0))
  | 7 => .inl (10, 0, .inl (fun _ => 0))
  | 8 => .inl (10, 0, .inl (fun _ => 0))
  | 9 => .inl (10, 0, .inl (fun _ => 0))
  | 10 => .inl (10, 0, .inl (fun _ => 0))
  | 11 => .inl (2, 14, .inl (fun j => (pm_sby.getD 0 []).getD j 0))
  | 12 => .inl (2, 20, .inl (fun j => (pm_sby.getD 1 []).getD j 0))
  | 13 => .inl (2, 33, .inl (fun j => (pm_sby.getD 2 []).getD j 0))
  | 14 => .inl (2, 23, .inl (fun j => (pm_sby.getD 3 []).getD j 0))
  | 15 => if fm then .inl (10, 0, .inl (fun _ => 0)) else .inr (0, [])
  | _ => .inr (0, [])
def pm_h0 (fm : Bool) (L : Nat) (xs : Nat → Int32) : pm_H := (16, 0, pm_f0 fm L xs)
def pm_l0 : List Value := [.ref 0, pm_no, pm_no, pm_no]
set_option maxRecDepth 100000 in
set_option maxHeartbeats 4000000 in
theorem pm_stat1 {b : Nat} {s : State} {A : Nat → Prop} (hs : ∀ c ∈ flatC (Jvm.Cond.and given_1 narrow_1), c.before #[Value.ref b] s = true) (hts : ∀ w ∈ lw_tbl, w.before #[Value.ref b] s = true) (hA : ∀ a : Nat, a < s.heap.size → ¬ A a) : ∃ t : Nat, va_Z "SilentTable" "MOST_OF_SORT" "[I" (.ref t) A s s.heap ∧ va_T .int t 4 (fun j => .int (pm_sv1.getD j 0)) A s s.heap := by
  have hel : ∀ j : Nat, j < 4 → (Term.elem (Term.static "SilentTable" "MOST_OF_SORT" "[I") (.int (Int32.ofNat j))).eval #[Value.ref b] s none [] s = some (.int (pm_sv1.getD j 0)) := by
    intro j hj
    match j, hj with
    | 0, _ => exact va_eqt (hs (.eq (.elem (Term.static "SilentTable" "MOST_OF_SORT" "[I") (.int 0)) (.int 2)) (by decide +kernel))
    | 1, _ => exact va_eqt (hs (.eq (.elem (Term.static "SilentTable" "MOST_OF_SORT" "[I") (.int 1)) (.int 3)) (by decide +kernel))
    | 2, _ => exact va_eqt (hs (.eq (.elem (Term.static "SilentTable" "MOST_OF_SORT" "[I") (.int 2)) (.int 2)) (by decide +kernel))
    | 3, _ => exact va_eqt (hs (.eq (.elem (Term.static "SilentTable" "MOST_OF_SORT" "[I") (.int 3)) (.int 2)) (by decide +kernel))
    | n + 4, h => exact absurd h (by omega)
  obtain ⟨t, ht, hT⟩ := va_Tof (tm := (Term.static "SilentTable" "MOST_OF_SORT" "[I")) (ty := .int) (N := 4) (by decide) (hs (.arrayOf (Term.static "SilentTable" "MOST_OF_SORT" "[I") .int) (by decide +kernel)) (va_eqt (hs (.eq (.length (Term.static "SilentTable" "MOST_OF_SORT" "[I")) (.int 4)) (by decide +kernel))) hel hA
  exact ⟨t, va_Zref (hts (.laysStatic "SilentTable" "MOST_OF_SORT" "[I") (List.mem_append_right _ (List.mem_of_getElem? (i := 38) rfl))) (hts (.initialized "SilentTable") (List.mem_append_right _ (List.mem_of_getElem? (i := 1) rfl))) ht hA, hT⟩
set_option maxRecDepth 100000 in
set_option maxHeartbeats 4000000 in
theorem pm_stat2 {b : Nat} {s : State} {A : Nat → Prop} (hs : ∀ c ∈ flatC (Jvm.Cond.and given_1 narrow_1), c.before #[Value.ref b] s = true) (hts : ∀ w ∈ lw_tbl, w.before #[Value.ref b] s = true) (hA : ∀ a : Nat, a < s.heap.size → ¬ A a) : ∃ t : Nat, va_Z "SilentTable" "NUMBERS_OF_LINE" "[I" (.ref t) A s s.heap ∧ va_T .int t 13 (fun j => .int (pm_sv2.getD j 0)) A s s.heap := by
  have hel : ∀ j : Nat, j < 13 → (Term.elem (Term.static "SilentTable" "NUMBERS_OF_LINE" "[I") (.int (Int32.ofNat j))).eval #[Value.ref b] s none [] s = some (.int (pm_sv2.getD j 0)) := by
    intro j hj
    match j, hj with
    | 0, _ => exact va_eqt (hs (.eq (.elem (Term.static "SilentTable" "NUMBERS_OF_LINE" "[I") (.int 0)) (.int 3)) (by decide +kernel))
    | 1, _ => exact va_eqt (hs (.eq (.elem (Term.static "SilentTable" "NUMBERS_OF_LINE" "[I") (.int 1)) (.int 3)) (by decide +kernel))
    | 2, _ => exact va_eqt (hs (.eq (.elem (Term.static "SilentTable" "NUMBERS_OF_LINE" "[I") (.int 2)) (.int 2)) (by decide +kernel))
    | 3, _ => exact va_eqt (hs (.eq (.elem (Term.static "SilentTable" "NUMBERS_OF_LINE" "[I") (.int 3)) (.int 1)) (by decide +kernel))
    | 4, _ => exact va_eqt (hs (.eq (.elem (Term.static "SilentTable" "NUMBERS_OF_LINE" "[I") (.int 4)) (.int 2)) (by decide +kernel))
    | 5, _ => exact va_eqt (hs (.eq (.elem (Term.static "SilentTable" "NUMBERS_OF_LINE" "[I") (.int 5)) (.int 1)) (by decide +kernel))
    | 6, _ => exact va_eqt (hs (.eq (.elem (Term.static "SilentTable" "NUMBERS_OF_LINE" "[I") (.int 6)) (.int 2)) (by decide +kernel))
    | 7, _ => exact va_eqt (hs (.eq (.elem (Term.static "SilentTable" "NUMBERS_OF_LINE" "[I") (.int 7)) (.int 1)) (by decide +kernel))
    | 8, _ => exact va_eqt (hs (.eq (.elem (Term.static "SilentTable" "NUMBERS_OF_LINE" "[I") (.int 8)) (.int 2)) (by decide +kernel))
    | 9, _ => exact va_eqt (hs (.eq (.elem (Term.static "SilentTable" "NUMBERS_OF_LINE" "[I") (.int 9)) (.int 2)) (by decide +kernel))
    | 10, _ => exact va_eqt (hs (.eq (.elem (Term.static "SilentTable" "NUMBERS_OF_LINE" "[I") (.int 10)) (.int 2)) (by decide +kernel))
    | 11, _ => exact va_eqt (hs (.eq (.elem (Term.static "SilentTable" "NUMBERS_OF_LINE" "[I") (.int 11)) (.int 1)) (by decide +kernel))
    | 12, _ => exact va_eqt (hs (.eq (.elem (Term.static "SilentTable" "NUMBERS_OF_LINE" "[I") (.int 12)) (.int 1)) (by decide +kernel))
    | n + 13, h => exact absurd h (by omega)
  obtain ⟨t, ht, hT⟩ := va_Tof (tm := (Term.static "SilentTable" "NUMBERS_OF_LINE" "[I")) (ty := .int) (N := 13) (by decide) (hs (.arrayOf (Term.static "SilentTable" "NUMBERS_OF_LINE" "[I") .int) (by decide +kernel)) (va_eqt (hs (.eq (.length (Term.static "SilentTable" "NUMBERS_OF_LINE" "[I")) (.int 13)) (by decide +kernel))) hel hA
  exact ⟨t, va_Zref (hts (.laysStatic "SilentTable" "NUMBERS_OF_LINE" "[I") (List.mem_append_right _ (List.mem_of_getElem? (i := 386) rfl))) (hts (.initialized "SilentTable") (List.mem_append_right _ (List.mem_of_getElem? (i := 1) rfl))) ht hA, hT⟩
set_option maxRecDepth 100000 in
set_option maxHeartbeats 4000000 in
theorem pm_stat3 {b : Nat} {s : State} {A : Nat → Prop} (hs : ∀ c ∈ flatC (Jvm.Cond.and given_1 narrow_1), c.before #[Value.ref b] s = true) (hts : ∀ w ∈ lw_tbl, w.before #[Value.ref b] s = true) (hA : ∀ a : Nat, a < s.heap.size → ¬ A a) : ∃ t : Nat, va_Z "SilentTable" "GREATEST" "[I" (.ref t) A s s.heap ∧ va_T .int t 39 (fun j => .int (pm_sv3.getD j 0)) A s s.heap := by
  have hel : ∀ j : Nat, j < 39 → (Term.elem (Term.static "SilentTable" "GREATEST" "[I") (.int (Int32.ofNat j))).eval #[Value.ref b] s none [] s = some (.int (pm_sv3.getD j 0)) := by
    intro j hj
    match j, hj with
    | 0, _ => exact va_eqt (hs (.eq (.elem (Term.static "SilentTable" "GREATEST" "[I") (.int 0)) (.int 5)) (by decide +kernel))
    | 1, _ => exact va_eqt (hs (.eq (.elem (Term.static "SilentTable" "GREATEST" "[I") (.int 1)) (.int 5)) (by decide +kernel))
    | 2, _ => exact va_eqt (hs (.eq (.elem (Term.static "SilentTable" "GREATEST" "[I") (.int 2)) (.int 5)) (by decide +kernel))
    | 3, _ => exact va_eqt (hs (.eq (.elem (Term.static "SilentTable" "GREATEST" "[I") (.int 3)) (.int 9)) (by decide +kernel))
    | 4, _ => exact va_eqt (hs (.eq (.elem (Term.static "SilentTable" "GREATEST" "[I") (.int 4)) (.int 5)) (by decide +kernel))
    | 5, _ => exact va_eqt (hs (.eq (.elem (Term.static "SilentTable" "GREATEST" "[I") (.int 5)) (.int 49)) (by decide +kernel))
    | 6, _ => exact va_eqt (hs (.eq (.elem (Term.static "SilentTable" "GREATEST" "[I") (.int 6)) (.int 9)) (by decide +kernel))
    | 7, _ => exact va_eqt (hs (.eq (.elem (Term.static "SilentTable" "GREATEST" "[I") (.int 7)) (.int 9)) (by decide +kernel))
    | 8, _ => exact va_eqt (hs (.eq (.elem (Term.static "SilentTable" "GREATEST" "[I") (.int 8)) (.int 0)) (by decide +kernel))
    | 9, _ => exact va_eqt (hs (.eq (.elem (Term.static "SilentTable" "GREATEST" "[I") (.int 9)) (.int 6)) (by decide +kernel))
    | 10, _ => exact va_eqt (hs (.eq (.elem (Term.static "SilentTable" "GREATEST" "[I") (.int 10)) (.int 0)) (by decide +kernel))
    | 11, _ => exact va_eqt (hs (.eq (.elem (Term.static "SilentTable" "GREATEST" "[I") (.int 11)) (.int 0)) (by decide +kernel))
    | 12, _ => exact va_eqt (hs (.eq (.elem (Term.static "SilentTable" "GREATEST" "[I") (.int 12)) (.int 5)) (by decide +kernel))
    | 13, _ => exact va_eqt (hs (.eq (.elem (Term.static "SilentTable" "GREATEST" "[I") (.int 13)) (.int 5)) (by decide +kernel))
    | 14, _ => exact va_eqt (hs (.eq (.elem (Term.static "SilentTable" "GREATEST" "[I") (.int 14)) (.int 0)) (by decide +kernel))
    | 15, _ => exact va_eqt (hs (.eq (.elem (Term.static "SilentTable" "GREATEST" "[I") (.int 15)) (.int 5)) (by decide +kernel))
    | 16, _ => exact va_eqt (hs (.eq (.elem (Term.static "SilentTable" "GREATEST" "[I") (.int 16)) (.int 0)) (by decide +kernel))
    | 17, _ => exact va_eqt (hs (.eq (.elem (Term.static "SilentTable" "GREATEST" "[I") (.int 17)) (.int 0)) (by decide +kernel))
    | 18, _ => exact va_eqt (hs (.eq (.elem (Term.static "SilentTable" "GREATEST" "[I") (.int 18)) (.int 5)) (by decide +kernel))
    | 19, _ => exact va_eqt (hs (.eq (.elem (Term.static "SilentTable" "GREATEST" "[I") (.int 19)) (.int 9)) (by decide +kernel))
    | 20, _ => exact va_eqt (hs (.eq (.elem (Term.static "SilentTable" "GREATEST" "[I") (.int 20)) (.int 0)) (by decide +kernel))
    | 21, _ => exact va_eqt (hs (.eq (.elem (Term.static "SilentTable" "GREATEST" "[I") (.int 21)) (.int 9)) (by decide +kernel))
    | 22, _ => exact va_eqt (hs (.eq (.elem (Term.static "SilentTable" "GREATEST" "[I") (.int 22)) (.int 0)) (by decide +kernel))
    | 23, _ => exact va_eqt (hs (.eq (.elem (Term.static "SilentTable" "GREATEST" "[I") (.int 23)) (.int 0)) (by decide +kernel))
    | 24, _ => exact va_eqt (hs (.eq (.elem (Term.static "SilentTable" "GREATEST" "[I") (.int 24)) (.int 9)) (by decide +kernel))
    | 25, _ => exact va_eqt (hs (.eq (.elem (Term.static "SilentTable" "GREATEST" "[I") (.int 25)) (.int 9)) (by decide +kernel))
    | 26, _ => exact va_eqt (hs (.eq (.elem (Term.static "SilentTable" "GREATEST" "[I") (.int 26)) (.int 0)) (by decide +kernel))
    | 27, _ => exact va_eqt (hs (.eq (.elem (Term.static "SilentTable" "GREATEST" "[I") (.int 27)) (.int 9)) (by decide +kernel))
    | 28, _ => exact va_eqt (hs (.eq (.elem (Term.static "SilentTable" "GREATEST" "[I") (.int 28)) (.int 9)) (by decide +kernel))
    | 29, _ => exact va_eqt (hs (.eq (.elem (Term.static "SilentTable" "GREATEST" "[I") (.int 29)) (.int 0)) (by decide +kernel))
    | 30, _ => exact va_eqt (hs (.eq (.elem (Term.static "SilentTable" "GREATEST" "[I") (.int 30)) (.int 9)) (by decide +kernel))
    | 31, _ => exact va_eqt (hs (.eq (.elem (Term.static "SilentTable" "GREATEST" "[I") (.int 31)) (.int 9)) (by decide +kernel))
    | 32, _ => exact va_eqt (hs (.eq (.elem (Term.static "SilentTable" "GREATEST" "[I") (.int 32)) (.int 0)) (by decide +kernel))
    | 33, _ => exact va_eqt (hs (.eq (.elem (Term.static "SilentTable" "GREATEST" "[I") (.int 33)) (.int 9)) (by decide +kernel))
    | 34, _ => exact va_eqt (hs (.eq (.elem (Term.static "SilentTable" "GREATEST" "[I") (.int 34)) (.int 0)) (by decide +kernel))
    | 35, _ => exact va_eqt (hs (.eq (.elem (Term.static "SilentTable" "GREATEST" "[I") (.int 35)) (.int 0)) (by decide +kernel))
    | 36, _ => exact va_eqt (hs (.eq (.elem (Term.static "SilentTable" "GREATEST" "[I") (.int 36)) (.int 9)) (by decide +kernel))
    | 37, _ => exact va_eqt (hs (.eq (.elem (Term.static "SilentTable" "GREATEST" "[I") (.int 37)) (.int 0)) (by decide +kernel))
    | 38, _ => exact va_eqt (hs (.eq (.elem (Term.static "SilentTable" "GREATEST" "[I") (.int 38)) (.int 0)) (by decide +kernel))
    | n + 39, h => exact absurd h (by omega)
  obtain ⟨t, ht, hT⟩ := va_Tof (tm := (Term.static "SilentTable" "GREATEST" "[I")) (ty := .int) (N := 39) (by decide) (hs (.arrayOf (Term.static "SilentTable" "GREATEST" "[I") .int) (by decide +kernel)) (va_eqt (hs (.eq (.length (Term.static "SilentTable" "GREATEST" "[I")) (.int 39)) (by decide +kernel))) hel hA
  exact ⟨t, va_Zref (hts (.laysStatic "SilentTable" "GREATEST" "[I") (List.mem_append_right _ (List.mem_of_getElem? (i := 392) rfl))) (hts (.initialized "SilentTable") (List.mem_append_right _ (List.mem_of_getElem? (i := 1) rfl))) ht hA, hT⟩
set_option maxRecDepth 100000 in
set_option maxHeartbeats 4000000 in
theorem pm_stat4 {b : Nat} {s : State} {A : Nat → Prop} (hs : ∀ c ∈ flatC (Jvm.Cond.and given_1 narrow_1), c.before #[Value.ref b] s = true) (hts : ∀ w ∈ lw_tbl, w.before #[Value.ref b] s = true) (hA : ∀ a : Nat, a < s.heap.size → ¬ A a) : ∃ t : Nat, va_Z "SilentTable" "MOST_OF_LINE" "[I" (.ref t) A s s.heap ∧ va_T .int t 13 (fun j => .int (pm_sv4.getD j 0)) A s s.heap := by
  have hel : ∀ j : Nat, j < 13 → (Term.elem (Term.static "SilentTable" "MOST_OF_LINE" "[I") (.int (Int32.ofNat j))).eval #[Value.ref b] s none [] s = some (.int (pm_sv4.getD j 0)) := by
    intro j hj
    match j, hj with
    | 0, _ => exact va_eqt (hs (.eq (.elem (Term.static "SilentTable" "MOST_OF_LINE" "[I") (.int 0)) (.int 10)) (by decide +kernel))
    | 1, _ => exact va_eqt (hs (.eq (.elem (Term.static "SilentTable" "MOST_OF_LINE" "[I") (.int 1)) (.int 16)) (by decide +kernel))
    | 2, _ => exact va_eqt (hs (.eq (.elem (Term.static "SilentTable" "MOST_OF_LINE" "[I") (.int 2)) (.int 0)) (by decide +kernel))
    | 3, _ => exact va_eqt (hs (.eq (.elem (Term.static "SilentTable" "MOST_OF_LINE" "[I") (.int 3)) (.int 0)) (by decide +kernel))
    | 4, _ => exact va_eqt (hs (.eq (.elem (Term.static "SilentTable" "MOST_OF_LINE" "[I") (.int 4)) (.int 50)) (by decide +kernel))
    | 5, _ => exact va_eqt (hs (.eq (.elem (Term.static "SilentTable" "MOST_OF_LINE" "[I") (.int 5)) (.int 50)) (by decide +kernel))
    | 6, _ => exact va_eqt (hs (.eq (.elem (Term.static "SilentTable" "MOST_OF_LINE" "[I") (.int 6)) (.int 50)) (by decide +kernel))
    | 7, _ => exact va_eqt (hs (.eq (.elem (Term.static "SilentTable" "MOST_OF_LINE" "[I") (.int 7)) (.int 8)) (by decide +kernel))
    | 8, _ => exact va_eqt (hs (.eq (.elem (Term.static "SilentTable" "MOST_OF_LINE" "[I") (.int 8)) (.int 8)) (by decide +kernel))
    | 9, _ => exact va_eqt (hs (.eq (.elem (Term.static "SilentTable" "MOST_OF_LINE" "[I") (.int 9)) (.int 8)) (by decide +kernel))
    | 10, _ => exact va_eqt (hs (.eq (.elem (Term.static "SilentTable" "MOST_OF_LINE" "[I") (.int 10)) (.int 8)) (by decide +kernel))
    | 11, _ => exact va_eqt (hs (.eq (.elem (Term.static "SilentTable" "MOST_OF_LINE" "[I") (.int 11)) (.int 8)) (by decide +kernel))
    | 12, _ => exact va_eqt (hs (.eq (.elem (Term.static "SilentTable" "MOST_OF_LINE" "[I") (.int 12)) (.int 8)) (by decide +kernel))
    | n + 13, h => exact absurd h (by omega)
  obtain ⟨t, ht, hT⟩ := va_Tof (tm := (Term.static "SilentTable" "MOST_OF_LINE" "[I")) (ty := .int) (N := 13) (by decide) (hs (.arrayOf (Term.static "SilentTable" "MOST_OF_LINE" "[I") .int) (by decide +kernel)) (va_eqt (hs (.eq (.length (Term.static "SilentTable" "MOST_OF_LINE" "[I")) (.int 13)) (by decide +kernel))) hel hA
  exact ⟨t, va_Zref (hts (.laysStatic "SilentTable" "MOST_OF_LINE" "[I") (List.mem_append_right _ (List.mem_of_getElem? (i := 384) rfl))) (hts (.initialized "SilentTable") (List.mem_append_right _ (List.mem_of_getElem? (i := 1) rfl))) ht hA, hT⟩
set_option maxRecDepth 100000 in
set_option maxHeartbeats 4000000 in
theorem pm_stat5 {b : Nat} {s : State} {A : Nat → Prop} (hs : ∀ c ∈ flatC (Jvm.Cond.and given_1 narrow_1), c.before #[Value.ref b] s = true) (hts : ∀ w ∈ lw_tbl, w.before #[Value.ref b] s = true) (hA : ∀ a : Nat, a < s.heap.size → ¬ A a) : ∃ t : Nat, va_Z "SilentTable" "ROWS_OF" "[I" (.ref t) A s s.heap ∧ va_T .int t 5 (fun j => .int (pm_sv5.getD j 0)) A s s.heap := by
  have hel : ∀ j : Nat, j < 5 → (Term.elem (Term.static "SilentTable" "ROWS_OF" "[I") (.int (Int32.ofNat j))).eval #[Value.ref b] s none [] s = some (.int (pm_sv5.getD j 0)) := by
    intro j hj
    match j, hj with
    | 0, _ => exact va_eqt (hs (.eq (.elem (Term.static "SilentTable" "ROWS_OF" "[I") (.int 0)) (.int 1)) (by decide +kernel))
    | 1, _ => exact va_eqt (hs (.eq (.elem (Term.static "SilentTable" "ROWS_OF" "[I") (.int 1)) (.int 10)) (by decide +kernel))
    | 2, _ => exact va_eqt (hs (.eq (.elem (Term.static "SilentTable" "ROWS_OF" "[I") (.int 2)) (.int 100)) (by decide +kernel))
    | 3, _ => exact va_eqt (hs (.eq (.elem (Term.static "SilentTable" "ROWS_OF" "[I") (.int 3)) (.int 1000)) (by decide +kernel))
    | 4, _ => exact va_eqt (hs (.eq (.elem (Term.static "SilentTable" "ROWS_OF" "[I") (.int 4)) (.int 10000)) (by decide +kernel))
    | n + 5, h => exact absurd h (by omega)
  obtain ⟨t, ht, hT⟩ := va_Tof (tm := (Term.static "SilentTable" "ROWS_OF" "[I")) (ty := .int) (N := 5) (by decide) (hs (.arrayOf (Term.static "SilentTable" "ROWS_OF" "[I") .int) (by decide +kernel)) (va_eqt (hs (.eq (.length (Term.static "SilentTable" "ROWS_OF" "[I")) (.int 5)) (by decide +kernel))) hel hA
  exact ⟨t, va_Zref (hts (.laysStatic "SilentTable" "ROWS_OF" "[I") (List.mem_append_right _ (List.mem_of_getElem? (i := 926) rfl))) (hts (.initialized "SilentTable") (List.mem_append_right _ (List.mem_of_getElem? (i := 1) rfl))) ht hA, hT⟩
set_option maxRecDepth 100000 in
set_option maxHeartbeats 4000000 in
theorem pm_stat6 {b : Nat} {s : State} {A : Nat → Prop} (hs : ∀ c ∈ flatC (Jvm.Cond.and given_1 narrow_1), c.before #[Value.ref b] s = true) (hts : ∀ w ∈ lw_tbl, w.before #[Value.ref b] s = true) (hA : ∀ a : Nat, a < s.heap.size → ¬ A a) : ∃ t : Nat, va_Z "SilentTable" "ROWS_BELOW" "[I" (.ref t) A s s.heap ∧ va_T .int t 5 (fun j => .int (pm_sv6.getD j 0)) A s s.heap := by
  have hel : ∀ j : Nat, j < 5 → (Term.elem (Term.static "SilentTable" "ROWS_BELOW" "[I") (.int (Int32.ofNat j))).eval #[Value.ref b] s none [] s = some (.int (pm_sv6.getD j 0)) := by
    intro j hj
    match j, hj with
    | 0, _ => exact va_eqt (hs (.eq (.elem (Term.static "SilentTable" "ROWS_BELOW" "[I") (.int 0)) (.int 0)) (by decide +kernel))
    | 1, _ => exact va_eqt (hs (.eq (.elem (Term.static "SilentTable" "ROWS_BELOW" "[I") (.int 1)) (.int 0)) (by decide +kernel))
    | 2, _ => exact va_eqt (hs (.eq (.elem (Term.static "SilentTable" "ROWS_BELOW" "[I") (.int 2)) (.int 10)) (by decide +kernel))
    | 3, _ => exact va_eqt (hs (.eq (.elem (Term.static "SilentTable" "ROWS_BELOW" "[I") (.int 3)) (.int 110)) (by decide +kernel))
    | 4, _ => exact va_eqt (hs (.eq (.elem (Term.static "SilentTable" "ROWS_BELOW" "[I") (.int 4)) (.int 1110)) (by decide +kernel))
    | n + 5, h => exact absurd h (by omega)
  obtain ⟨t, ht, hT⟩ := va_Tof (tm := (Term.static "SilentTable" "ROWS_BELOW" "[I")) (ty := .int) (N := 5) (by decide) (hs (.arrayOf (Term.static "SilentTable" "ROWS_BELOW" "[I") .int) (by decide +kernel)) (va_eqt (hs (.eq (.length (Term.static "SilentTable" "ROWS_BELOW" "[I")) (.int 5)) (by decide +kernel))) hel hA
  exact ⟨t, va_Zref (hts (.laysStatic "SilentTable" "ROWS_BELOW" "[I") (List.mem_append_right _ (List.mem_of_getElem? (i := 928) rfl))) (hts (.initialized "SilentTable") (List.mem_append_right _ (List.mem_of_getElem? (i := 1) rfl))) ht hA, hT⟩
def pm_stm (i : Nat) : Term := .string "SilentTable$TextReader" (pm_kix (7 + i))
set_option maxRecDepth 100000 in
set_option maxHeartbeats 4000000 in
theorem pm_strs {b : Nat} {s : State} {A : Nat → Prop} (hs : ∀ c ∈ flatC (Jvm.Cond.and given_1 narrow_1), c.before #[Value.ref b] s = true) (hA : ∀ a : Nat, a < s.heap.size → ¬ A a) : ∃ adK adV : Nat → Nat, vk_S 4 pm_sln pm_sby adK adV A s s.heap ∧ ∀ i : Nat, i < 4 → (pm_stm i).eval #[Value.ref b] s none [] s = some (.ref (adK i)) := by
  refine vk_Sof (tm := pm_stm) ?_ ?_ ?_ ?_ ?_ ?_ ?_ hA
  · intro i hi
    match i, hi with
    | 0, _ => exact (by decide)
    | 1, _ => exact (by decide)
    | 2, _ => exact (by decide)
    | 3, _ => exact (by decide)
    | n + 4, h => exact absurd h (by omega)
  · intro i hi
    match i, hi with
    | 0, _ => exact hs (.exactly (Term.string "SilentTable$TextReader" 96) "java/lang/String") (by decide +kernel)
    | 1, _ => exact hs (.exactly (Term.string "SilentTable$TextReader" 102) "java/lang/String") (by decide +kernel)
    | 2, _ => exact hs (.exactly (Term.string "SilentTable$TextReader" 104) "java/lang/String") (by decide +kernel)
    | 3, _ => exact hs (.exactly (Term.string "SilentTable$TextReader" 115) "java/lang/String") (by decide +kernel)
    | n + 4, h => exact absurd h (by omega)
  · intro i hi
    match i, hi with
    | 0, _ => exact hs (.eq (.field (Term.string "SilentTable$TextReader" 96) "java/lang/String" "coder" "B") (.int 0)) (by decide +kernel)
    | 1, _ => exact hs (.eq (.field (Term.string "SilentTable$TextReader" 102) "java/lang/String" "coder" "B") (.int 0)) (by decide +kernel)
    | 2, _ => exact hs (.eq (.field (Term.string "SilentTable$TextReader" 104) "java/lang/String" "coder" "B") (.int 0)) (by decide +kernel)
    | 3, _ => exact hs (.eq (.field (Term.string "SilentTable$TextReader" 115) "java/lang/String" "coder" "B") (.int 0)) (by decide +kernel)
    | n + 4, h => exact absurd h (by omega)
  · intro i hi
    match i, hi with
    | 0, _ => exact hs (.arrayOf (.field (Term.string "SilentTable$TextReader" 96) "java/lang/String" "value" "[B") .byte) (by decide +kernel)
    | 1, _ => exact hs (.arrayOf (.field (Term.string "SilentTable$TextReader" 102) "java/lang/String" "value" "[B") .byte) (by decide +kernel)
    | 2, _ => exact hs (.arrayOf (.field (Term.string "SilentTable$TextReader" 104) "java/lang/String" "value" "[B") .byte) (by decide +kernel)
    | 3, _ => exact hs (.arrayOf (.field (Term.string "SilentTable$TextReader" 115) "java/lang/String" "value" "[B") .byte) (by decide +kernel)
    | n + 4, h => exact absurd h (by omega)
  · intro i hi
    match i, hi with
    | 0, _ => exact hs (.eq (.length (.field (Term.string "SilentTable$TextReader" 96) "java/lang/String" "value" "[B")) (.int 14)) (by decide +kernel)
    | 1, _ => exact hs (.eq (.length (.field (Term.string "SilentTable$TextReader" 102) "java/lang/String" "value" "[B")) (.int 20)) (by decide +kernel)
    | 2, _ => exact hs (.eq (.length (.field (Term.string "SilentTable$TextReader" 104) "java/lang/String" "value" "[B")) (.int 33)) (by decide +kernel)
    | 3, _ => exact hs (.eq (.length (.field (Term.string "SilentTable$TextReader" 115) "java/lang/String" "value" "[B")) (.int 23)) (by decide +kernel)
    | n + 4, h => exact absurd h (by omega)
  · intro i hi
    match i, hi with
    | 0, _ =>
      intro j hj
      match j, hj with
      | 0, _ => exact hs (.eq (.elem (.field (Term.string "SilentTable$TextReader" 96) "java/lang/String" "value" "[B") (.int 0)) (.int 114)) (by decide +kernel)
      | 1, _ => exact hs (.eq (.elem (.field (Term.string "SilentTable$TextReader" 96) "java/lang/String" "value" "[B") (.int 1)) (.int 117)) (by decide +kernel)
      | 2, _ => exact hs (.eq (.elem (.field (Term.string "SilentTable$TextReader" 96) "java/lang/String" "value" "[B") (.int 2)) (.int 108)) (by decide +kernel)
      | 3, _ => exact hs (.eq (.elem (.field (Term.string "SilentTable$TextReader" 96) "java/lang/String" "value" "[B") (.int 3)) (.int 101)) (by decide +kernel)
      | 4, _ => exact hs (.eq (.elem (.field (Term.string "SilentTable$TextReader" 96) "java/lang/String" "value" "[B") (.int 4)) (.int 32)) (by decide +kernel)
      | 5, _ => exact hs (.eq (.elem (.field (Term.string "SilentTable$TextReader" 96) "java/lang/String" "value" "[B") (.int 5)) (.int 115)) (by decide +kernel)
      | 6, _ => exact hs (.eq (.elem (.field (Term.string "SilentTable$TextReader" 96) "java/lang/String" "value" "[B") (.int 6)) (.int 105)) (by decide +kernel)
      | 7, _ => exact hs (.eq (.elem (.field (Term.string "SilentTable$TextReader" 96) "java/lang/String" "value" "[B") (.int 7)) (.int 103)) (by decide +kernel)
      | 8, _ => exact hs (.eq (.elem (.field (Term.string "SilentTable$TextReader" 96) "java/lang/String" "value" "[B") (.int 8)) (.int 110)) (by decide +kernel)
      | 9, _ => exact hs (.eq (.elem (.field (Term.string "SilentTable$TextReader" 96) "java/lang/String" "value" "[B") (.int 9)) (.int 32)) (by decide +kernel)
      | 10, _ => exact hs (.eq (.elem (.field (Term.string "SilentTable$TextReader" 96) "java/lang/String" "value" "[B") (.int 10)) (.int 110)) (by decide +kernel)
      | 11, _ => exact hs (.eq (.elem (.field (Term.string "SilentTable$TextReader" 96) "java/lang/String" "value" "[B") (.int 11)) (.int 101)) (by decide +kernel)
      | 12, _ => exact hs (.eq (.elem (.field (Term.string "SilentTable$TextReader" 96) "java/lang/String" "value" "[B") (.int 12)) (.int 97)) (by decide +kernel)
      | 13, _ => exact hs (.eq (.elem (.field (Term.string "SilentTable$TextReader" 96) "java/lang/String" "value" "[B") (.int 13)) (.int 114)) (by decide +kernel)
      | n + 14, h => exact absurd h (show ¬ n + 14 < 14 by omega)
    | 1, _ =>
      intro j hj
      match j, hj with
      | 0, _ => exact hs (.eq (.elem (.field (Term.string "SilentTable$TextReader" 102) "java/lang/String" "value" "[B") (.int 0)) (.int 115)) (by decide +kernel)
      | 1, _ => exact hs (.eq (.elem (.field (Term.string "SilentTable$TextReader" 102) "java/lang/String" "value" "[B") (.int 1)) (.int 101)) (by decide +kernel)
      | 2, _ => exact hs (.eq (.elem (.field (Term.string "SilentTable$TextReader" 102) "java/lang/String" "value" "[B") (.int 2)) (.int 97)) (by decide +kernel)
      | 3, _ => exact hs (.eq (.elem (.field (Term.string "SilentTable$TextReader" 102) "java/lang/String" "value" "[B") (.int 3)) (.int 116)) (by decide +kernel)
      | 4, _ => exact hs (.eq (.elem (.field (Term.string "SilentTable$TextReader" 102) "java/lang/String" "value" "[B") (.int 4)) (.int 115)) (by decide +kernel)
      | 5, _ => exact hs (.eq (.elem (.field (Term.string "SilentTable$TextReader" 102) "java/lang/String" "value" "[B") (.int 5)) (.int 32)) (by decide +kernel)
      | 6, _ => exact hs (.eq (.elem (.field (Term.string "SilentTable$TextReader" 102) "java/lang/String" "value" "[B") (.int 6)) (.int 108)) (by decide +kernel)
      | 7, _ => exact hs (.eq (.elem (.field (Term.string "SilentTable$TextReader" 102) "java/lang/String" "value" "[B") (.int 7)) (.int 111)) (by decide +kernel)
      | 8, _ => exact hs (.eq (.elem (.field (Term.string "SilentTable$TextReader" 102) "java/lang/String" "value" "[B") (.int 8)) (.int 111)) (by decide +kernel)
      | 9, _ => exact hs (.eq (.elem (.field (Term.string "SilentTable$TextReader" 102) "java/lang/String" "value" "[B") (.int 9)) (.int 107)) (by decide +kernel)
      | 10, _ => exact hs (.eq (.elem (.field (Term.string "SilentTable$TextReader" 102) "java/lang/String" "value" "[B") (.int 10)) (.int 32)) (by decide +kernel)
      | 11, _ => exact hs (.eq (.elem (.field (Term.string "SilentTable$TextReader" 102) "java/lang/String" "value" "[B") (.int 11)) (.int 97)) (by decide +kernel)
      | 12, _ => exact hs (.eq (.elem (.field (Term.string "SilentTable$TextReader" 102) "java/lang/String" "value" "[B") (.int 12)) (.int 119)) (by decide +kernel)
      | 13, _ => exact hs (.eq (.elem (.field (Term.string "SilentTable$TextReader" 102) "java/lang/String" "value" "[B") (.int 13)) (.int 97)) (by decide +kernel)
      | 14, _ => exact hs (.eq (.elem (.field (Term.string "SilentTable$TextReader" 102) "java/lang/String" "value" "[B") (.int 14)) (.int 121)) (by decide +kernel)
      | 15, _ => exact hs (.eq (.elem (.field (Term.string "SilentTable$TextReader" 102) "java/lang/String" "value" "[B") (.int 15)) (.int 32)) (by decide +kernel)
      | 16, _ => exact hs (.eq (.elem (.field (Term.string "SilentTable$TextReader" 102) "java/lang/String" "value" "[B") (.int 16)) (.int 115)) (by decide +kernel)
      | 17, _ => exact hs (.eq (.elem (.field (Term.string "SilentTable$TextReader" 102) "java/lang/String" "value" "[B") (.int 17)) (.int 97)) (by decide +kernel)
      | 18, _ => exact hs (.eq (.elem (.field (Term.string "SilentTable$TextReader" 102) "java/lang/String" "value" "[B") (.int 18)) (.int 121)) (by decide +kernel)
      | 19, _ => exact hs (.eq (.elem (.field (Term.string "SilentTable$TextReader" 102) "java/lang/String" "value" "[B") (.int 19)) (.int 115)) (by decide +kernel)
      | n + 20, h => exact absurd h (show ¬ n + 20 < 20 by omega)
    | 2, _ =>
      intro j hj
      match j, hj with
      | 0, _ => exact hs (.eq (.elem (.field (Term.string "SilentTable$TextReader" 104) "java/lang/String" "value" "[B") (.int 0)) (.int 110)) (by decide +kernel)
      | 1, _ => exact hs (.eq (.elem (.field (Term.string "SilentTable$TextReader" 104) "java/lang/String" "value" "[B") (.int 1)) (.int 101)) (by decide +kernel)
      | 2, _ => exact hs (.eq (.elem (.field (Term.string "SilentTable$TextReader" 104) "java/lang/String" "value" "[B") (.int 2)) (.int 118)) (by decide +kernel)
      | 3, _ => exact hs (.eq (.elem (.field (Term.string "SilentTable$TextReader" 104) "java/lang/String" "value" "[B") (.int 3)) (.int 101)) (by decide +kernel)
      | 4, _ => exact hs (.eq (.elem (.field (Term.string "SilentTable$TextReader" 104) "java/lang/String" "value" "[B") (.int 4)) (.int 114)) (by decide +kernel)
      | 5, _ => exact hs (.eq (.elem (.field (Term.string "SilentTable$TextReader" 104) "java/lang/String" "value" "[B") (.int 5)) (.int 32)) (by decide +kernel)
      | 6, _ => exact hs (.eq (.elem (.field (Term.string "SilentTable$TextReader" 104) "java/lang/String" "value" "[B") (.int 6)) (.int 109)) (by decide +kernel)
      | 7, _ => exact hs (.eq (.elem (.field (Term.string "SilentTable$TextReader" 104) "java/lang/String" "value" "[B") (.int 7)) (.int 111)) (by decide +kernel)
      | 8, _ => exact hs (.eq (.elem (.field (Term.string "SilentTable$TextReader" 104) "java/lang/String" "value" "[B") (.int 8)) (.int 115)) (by decide +kernel)
      | 9, _ => exact hs (.eq (.elem (.field (Term.string "SilentTable$TextReader" 104) "java/lang/String" "value" "[B") (.int 9)) (.int 116)) (by decide +kernel)
      | 10, _ => exact hs (.eq (.elem (.field (Term.string "SilentTable$TextReader" 104) "java/lang/String" "value" "[B") (.int 10)) (.int 32)) (by decide +kernel)
      | 11, _ => exact hs (.eq (.elem (.field (Term.string "SilentTable$TextReader" 104) "java/lang/String" "value" "[B") (.int 11)) (.int 111)) (by decide +kernel)
      | 12, _ => exact hs (.eq (.elem (.field (Term.string "SilentTable$TextReader" 104) "java/lang/String" "value" "[B") (.int 12)) (.int 114)) (by decide +kernel)
      | 13, _ => exact hs (.eq (.elem (.field (Term.string "SilentTable$TextReader" 104) "java/lang/String" "value" "[B") (.int 13)) (.int 100)) (by decide +kernel)
      | 14, _ => exact hs (.eq (.elem (.field (Term.string "SilentTable$TextReader" 104) "java/lang/String" "value" "[B") (.int 14)) (.int 101)) (by decide +kernel)
      | 15, _ => exact hs (.eq (.elem (.field (Term.string "SilentTable$TextReader" 104) "java/lang/String" "value" "[B") (.int 15)) (.int 114)) (by decide +kernel)
      | 16, _ => exact hs (.eq (.elem (.field (Term.string "SilentTable$TextReader" 104) "java/lang/String" "value" "[B") (.int 16)) (.int 32)) (by decide +kernel)
      | 17, _ => exact hs (.eq (.elem (.field (Term.string "SilentTable$TextReader" 104) "java/lang/String" "value" "[B") (.int 17)) (.int 112)) (by decide +kernel)
      | 18, _ => exact hs (.eq (.elem (.field (Term.string "SilentTable$TextReader" 104) "java/lang/String" "value" "[B") (.int 18)) (.int 97)) (by decide +kernel)
      | 19, _ => exact hs (.eq (.elem (.field (Term.string "SilentTable$TextReader" 104) "java/lang/String" "value" "[B") (.int 19)) (.int 105)) (by decide +kernel)
      | 20, _ => exact hs (.eq (.elem (.field (Term.string "SilentTable$TextReader" 104) "java/lang/String" "value" "[B") (.int 20)) (.int 114)) (by decide +kernel)
      | 21, _ => exact hs (.eq (.elem (.field (Term.string "SilentTable$TextReader" 104) "java/lang/String" "value" "[B") (.int 21)) (.int 32)) (by decide +kernel)
      | 22, _ => exact hs (.eq (.elem (.field (Term.string "SilentTable$TextReader" 104) "java/lang/String" "value" "[B") (.int 22)) (.int 104)) (by decide +kernel)
      | 23, _ => exact hs (.eq (.elem (.field (Term.string "SilentTable$TextReader" 104) "java/lang/String" "value" "[B") (.int 23)) (.int 105)) (by decide +kernel)
      | 24, _ => exact hs (.eq (.elem (.field (Term.string "SilentTable$TextReader" 104) "java/lang/String" "value" "[B") (.int 24)) (.int 100)) (by decide +kernel)
      | 25, _ => exact hs (.eq (.elem (.field (Term.string "SilentTable$TextReader" 104) "java/lang/String" "value" "[B") (.int 25)) (.int 100)) (by decide +kernel)
      | 26, _ => exact hs (.eq (.elem (.field (Term.string "SilentTable$TextReader" 104) "java/lang/String" "value" "[B") (.int 26)) (.int 101)) (by decide +kernel)
      | 27, _ => exact hs (.eq (.elem (.field (Term.string "SilentTable$TextReader" 104) "java/lang/String" "value" "[B") (.int 27)) (.int 110)) (by decide +kernel)
      | 28, _ => exact hs (.eq (.elem (.field (Term.string "SilentTable$TextReader" 104) "java/lang/String" "value" "[B") (.int 28)) (.int 32)) (by decide +kernel)
      | 29, _ => exact hs (.eq (.elem (.field (Term.string "SilentTable$TextReader" 104) "java/lang/String" "value" "[B") (.int 29)) (.int 115)) (by decide +kernel)
      | 30, _ => exact hs (.eq (.elem (.field (Term.string "SilentTable$TextReader" 104) "java/lang/String" "value" "[B") (.int 30)) (.int 101)) (by decide +kernel)
      | 31, _ => exact hs (.eq (.elem (.field (Term.string "SilentTable$TextReader" 104) "java/lang/String" "value" "[B") (.int 31)) (.int 101)) (by decide +kernel)
      | 32, _ => exact hs (.eq (.elem (.field (Term.string "SilentTable$TextReader" 104) "java/lang/String" "value" "[B") (.int 32)) (.int 110)) (by decide +kernel)
      | n + 33, h => exact absurd h (show ¬ n + 33 < 33 by omega)
    | 3, _ =>
      intro j hj
      match j, hj with
      | 0, _ => exact hs (.eq (.elem (.field (Term.string "SilentTable$TextReader" 115) "java/lang/String" "value" "[B") (.int 0)) (.int 104)) (by decide +kernel)
      | 1, _ => exact hs (.eq (.elem (.field (Term.string "SilentTable$TextReader" 115) "java/lang/String" "value" "[B") (.int 1)) (.int 101)) (by decide +kernel)
      | 2, _ => exact hs (.eq (.elem (.field (Term.string "SilentTable$TextReader" 115) "java/lang/String" "value" "[B") (.int 2)) (.int 97)) (by decide +kernel)
      | 3, _ => exact hs (.eq (.elem (.field (Term.string "SilentTable$TextReader" 115) "java/lang/String" "value" "[B") (.int 3)) (.int 100)) (by decide +kernel)
      | 4, _ => exact hs (.eq (.elem (.field (Term.string "SilentTable$TextReader" 115) "java/lang/String" "value" "[B") (.int 4)) (.int 32)) (by decide +kernel)
      | 5, _ => exact hs (.eq (.elem (.field (Term.string "SilentTable$TextReader" 115) "java/lang/String" "value" "[B") (.int 5)) (.int 116)) (by decide +kernel)
      | 6, _ => exact hs (.eq (.elem (.field (Term.string "SilentTable$TextReader" 115) "java/lang/String" "value" "[B") (.int 6)) (.int 97)) (by decide +kernel)
      | 7, _ => exact hs (.eq (.elem (.field (Term.string "SilentTable$TextReader" 115) "java/lang/String" "value" "[B") (.int 7)) (.int 105)) (by decide +kernel)
      | 8, _ => exact hs (.eq (.elem (.field (Term.string "SilentTable$TextReader" 115) "java/lang/String" "value" "[B") (.int 8)) (.int 108)) (by decide +kernel)
      | 9, _ => exact hs (.eq (.elem (.field (Term.string "SilentTable$TextReader" 115) "java/lang/String" "value" "[B") (.int 9)) (.int 32)) (by decide +kernel)
      | 10, _ => exact hs (.eq (.elem (.field (Term.string "SilentTable$TextReader" 115) "java/lang/String" "value" "[B") (.int 10)) (.int 112)) (by decide +kernel)
      | 11, _ => exact hs (.eq (.elem (.field (Term.string "SilentTable$TextReader" 115) "java/lang/String" "value" "[B") (.int 11)) (.int 108)) (by decide +kernel)
      | 12, _ => exact hs (.eq (.elem (.field (Term.string "SilentTable$TextReader" 115) "java/lang/String" "value" "[B") (.int 12)) (.int 117)) (by decide +kernel)
      | 13, _ => exact hs (.eq (.elem (.field (Term.string "SilentTable$TextReader" 115) "java/lang/String" "value" "[B") (.int 13)) (.int 115)) (by decide +kernel)
      | 14, _ => exact hs (.eq (.elem (.field (Term.string "SilentTable$TextReader" 115) "java/lang/String" "value" "[B") (.int 14)) (.int 32)) (by decide +kernel)
      | 15, _ => exact hs (.eq (.elem (.field (Term.string "SilentTable$TextReader" 115) "java/lang/String" "value" "[B") (.int 15)) (.int 108)) (by decide +kernel)
      | 16, _ => exact hs (.eq (.elem (.field (Term.string "SilentTable$TextReader" 115) "java/lang/String" "value" "[B") (.int 16)) (.int 101)) (by decide +kernel)
      | 17, _ => exact hs (.eq (.elem (.field (Term.string "SilentTable$TextReader" 115) "java/lang/String" "value" "[B") (.int 17)) (.int 115)) (by decide +kernel)
      | 18, _ => exact hs (.eq (.elem (.field (Term.string "SilentTable$TextReader" 115) "java/lang/String" "value" "[B") (.int 18)) (.int 115)) (by decide +kernel)
      | 19, _ => exact hs (.eq (.elem (.field (Term.string "SilentTable$TextReader" 115) "java/lang/String" "value" "[B") (.int 19)) (.int 32)) (by decide +kernel)
      | 20, _ => exact hs (.eq (.elem (.field (Term.string "SilentTable$TextReader" 115) "java/lang/String" "value" "[B") (.int 20)) (.int 110)) (by decide +kernel)
      | 21, _ => exact hs (.eq (.elem (.field (Term.string "SilentTable$TextReader" 115) "java/lang/String" "value" "[B") (.int 21)) (.int 111)) (by decide +kernel)
      | 22, _ => exact hs (.eq (.elem (.field (Term.string "SilentTable$TextReader" 115) "java/lang/String" "value" "[B") (.int 22)) (.int 116)) (by decide +kernel)
      | n + 23, h => exact absurd h (show ¬ n + 23 < 23 by omega)
    | n + 4, h => exact absurd h (by omega)
  · intro i j hi hj hij
    match i, j, hi, hj, hij with
    | 0, 0, _, _, h => exact absurd rfl h
    | 0, 1, _, _, _ => exact Or.inl (hs (.not (.eq (Term.string "SilentTable$TextReader" 96) (Term.string "SilentTable$TextReader" 102))) (by decide +kernel))
    | 0, 2, _, _, _ => exact Or.inl (hs (.not (.eq (Term.string "SilentTable$TextReader" 96) (Term.string "SilentTable$TextReader" 104))) (by decide +kernel))
    | 0, 3, _, _, _ => exact Or.inl (hs (.not (.eq (Term.string "SilentTable$TextReader" 96) (Term.string "SilentTable$TextReader" 115))) (by decide +kernel))
    | 1, 0, _, _, _ => exact Or.inr (hs (.not (.eq (Term.string "SilentTable$TextReader" 96) (Term.string "SilentTable$TextReader" 102))) (by decide +kernel))
    | 1, 1, _, _, h => exact absurd rfl h
    | 1, 2, _, _, _ => exact Or.inl (hs (.not (.eq (Term.string "SilentTable$TextReader" 102) (Term.string "SilentTable$TextReader" 104))) (by decide +kernel))
    | 1, 3, _, _, _ => exact Or.inl (hs (.not (.eq (Term.string "SilentTable$TextReader" 102) (Term.string "SilentTable$TextReader" 115))) (by decide +kernel))
    | 2, 0, _, _, _ => exact Or.inr (hs (.not (.eq (Term.string "SilentTable$TextReader" 96) (Term.string "SilentTable$TextReader" 104))) (by decide +kernel))
    | 2, 1, _, _, _ => exact Or.inr (hs (.not (.eq (Term.string "SilentTable$TextReader" 102) (Term.string "SilentTable$TextReader" 104))) (by decide +kernel))
    | 2, 2, _, _, h => exact absurd rfl h
    | 2, 3, _, _, _ => exact Or.inl (hs (.not (.eq (Term.string "SilentTable$TextReader" 104) (Term.string "SilentTable$TextReader" 115))) (by decide +kernel))
    | 3, 0, _, _, _ => exact Or.inr (hs (.not (.eq (Term.string "SilentTable$TextReader" 96) (Term.string "SilentTable$TextReader" 115))) (by decide +kernel))
    | 3, 1, _, _, _ => exact Or.inr (hs (.not (.eq (Term.string "SilentTable$TextReader" 102) (Term.string "SilentTable$TextReader" 115))) (by decide +kernel))
    | 3, 2, _, _, _ => exact Or.inr (hs (.not (.eq (Term.string "SilentTable$TextReader" 104) (Term.string "SilentTable$TextReader" 115))) (by decide +kernel))
    | 3, 3, _, _, h => exact absurd rfl h
    | n + 4, _, h, _, _ => exact absurd h (by omega)
    | 0, n + 4, _, h, _ => exact absurd h (by omega)
    | 1, n + 4, _, h, _ => exact absurd h (by omega)
    | 2, n + 4, _, h, _ => exact absurd h (by omega)
    | 3, n + 4, _, h, _ => exact absurd h (by omega)
set_option maxRecDepth 100000 in
theorem pm_strR {b : Nat} {s : State} {K : Nat → Nat} (hts : ∀ w ∈ lw_tbl, w.before #[Value.ref b] s = true) (hK : ∀ i : Nat, i < 4 → (pm_stm i).eval #[Value.ref b] s none [] s = some (.ref (K i))) : ∀ i, 7 ≤ i → i < 11 → vk_R "SilentTable$TextReader" (pm_kix i) (pm_ktx i) (K (i - 7)) s := by
  intro i h1 h2
  match i, h1, h2 with
  | 7, _, _ => exact vk_R.of (A := #[Value.ref b]) (hts (.stringRef "SilentTable$TextReader" 96 "rule sign near") (by decide +kernel)) (hK 0 (by decide))
  | 8, _, _ => exact vk_R.of (A := #[Value.ref b]) (hts (.stringRef "SilentTable$TextReader" 102 "seats look away says") (by decide +kernel)) (hK 1 (by decide))
  | 9, _, _ => exact vk_R.of (A := #[Value.ref b]) (hts (.stringRef "SilentTable$TextReader" 104 "never most order pair hidden seen") (by decide +kernel)) (hK 2 (by decide))
  | 10, _, _ => exact vk_R.of (A := #[Value.ref b]) (hts (.stringRef "SilentTable$TextReader" 115 "head tail plus less not") (by decide +kernel)) (hK 3 (by decide))
  | n + 11, _, h => exact absurd h (by omega)
theorem pm_arrs {args : Array Value} {s : State} (hts : ∀ w ∈ lw_tbl, w.before args s = true) (t : Nat) : ∃ cA : ClassId, t < 10 → ArrOfT s cA (pm_aT t) ∧ va_RA s cA (pm_aT t) := by
  have prim : ∀ ty : FieldType, pm_G (.arrayClass ty) → (∀ C, ty ≠ .object C) → ∃ cA : ClassId, ArrOfT s cA ty ∧ va_RA s cA ty := by
    intro ty hg hno
    obtain ⟨cA, kA, comp, h1, h2, h3⟩ := Cond.arrayClass_spec (hts _ hg.1)
    refine ⟨cA, fun n z => ⟨fun k h => (by cases h), kA, h2, comp, h3⟩, ?_⟩
    cases ty <;> first | exact h1 | exact absurd rfl (hno _)
  have obj : ∀ C : String, (Cond.arrayOver (.object C)) ∈ lw_tbl → ∃ cA : ClassId, ArrOfT s cA (.object C) ∧ va_RA s cA (.object C) := by
    intro C hm
    obtain ⟨comp, cA, kA, h1, h2, h3, h4, h5⟩ := Cond.arrayOver_spec (hts _ hm)
    exact ⟨cA, fun n z => ⟨fun k h => (by cases h), kA, h3, comp, h4⟩, kA, comp, h3, h4, h1, h5⟩
  obtain ⟨o1, o2, o3, o4, o5, o6⟩ := pm_over
  obtain ⟨a1, a2, a3, a4⟩ := pm_arr
  match t with
  | 0 => obtain ⟨cA, h⟩ := prim .int a1 (fun C h => by cases h); exact ⟨cA, fun _ => h⟩
  | 1 => obtain ⟨cA, h⟩ := prim .long a2 (fun C h => by cases h); exact ⟨cA, fun _ => h⟩
  | 2 => obtain ⟨cA, h⟩ := prim .byte a3 (fun C h => by cases h); exact ⟨cA, fun _ => h⟩
  | 3 => obtain ⟨cA, h⟩ := prim .boolean a4 (fun C h => by cases h); exact ⟨cA, fun _ => h⟩
  | 4 => obtain ⟨cA, h⟩ := obj _ o1; exact ⟨cA, fun _ => h⟩
  | 5 => obtain ⟨cA, h⟩ := obj _ o2; exact ⟨cA, fun _ => h⟩
  | 6 => obtain ⟨cA, h⟩ := obj _ o3; exact ⟨cA, fun _ => h⟩
  | 7 => obtain ⟨cA, h⟩ := obj _ o4; exact ⟨cA, fun _ => h⟩
  | 8 => obtain ⟨cA, h⟩ := obj _ o5; exact ⟨cA, fun _ => h⟩
  | 9 => obtain ⟨cA, h⟩ := obj _ o6; exact ⟨cA, fun _ => h⟩
  | n + 10 => exact ⟨0, fun h => absurd h (by omega)⟩
theorem pm_GS0 {args : Array Value} {s : State} {K : Nat → Nat} (hts : ∀ w ∈ lw_tbl, w.before args s = true) (hK : ∀ i, 7 ≤ i → i < 11 → vk_R "SilentTable$TextReader" (pm_kix i) (pm_ktx i) (K (i - 7)) s) : ∃ (D : va_G) (aC : Nat → ClassId), pm_GS D aC s ∧ ∀ i, 7 ≤ i → i < 11 → aC (20 + i) = K (i - 7) := by
  have hg : ∀ w ∈ pm_good, w.before args s = true := fun w hw => hts w (pm_in_G hw).1
  have hD : ∀ k : Nat, ∃ x : ClassId × (Nat → Nat), ∀ q, pm_cl[k]? = some q → u_Kn s q.1 q.2.1 q.2.2 x.1 x.2 := by
    intro k
    cases hq : pm_cl[k]? with
    | none => exact ⟨(0, fun _ => 0), fun q h => by cases h⟩
    | some q =>
      obtain ⟨h1, -, -, h4, -⟩ := pm_cl_at hq
      obtain ⟨cC, iS, hK⟩ := u_known (C := q.1) (T := q.2.1) (N := q.2.2) (n := q.2.2) hg h1 (hg _ (pm_G_in h4))
      exact ⟨(cC, iS), fun q' h => by cases h; exact hK⟩
  obtain ⟨fD, hfD⟩ := Classical.axiomOfChoice hD
  obtain ⟨aC, haC⟩ := Classical.axiomOfChoice (pm_arrs hts)
  have ek : ∀ i, 7 ≤ i → (fun t => if t < 10 then aC t else K (t - 27)) (20 + i) = K (i - 7) := fun i h1 => by
    show (if 20 + i < 10 then aC (20 + i) else K (20 + i - 27)) = K (i - 7)
    rw [if_neg (by omega), show 20 + i - 27 = i - 7 by omega]
  refine ⟨(fun k => (fD k).1, fun k => (fD k).2), fun t => if t < 10 then aC t else K (t - 27), ⟨⟨fun k q hq => hfD k q hq, fun k q hk => ?_⟩, fun w hw hn => ?_, fun C hC => va_AO.of (hts _ hC), fun i h1 h2 => by rw [ek i h1]; exact hK i h1 h2⟩, fun i h1 _ => ek i h1⟩
  · unfold pm_tys at hk
    rw [List.getElem?_map] at hk
    obtain ⟨t, ht, rfl⟩ := Option.map_eq_some_iff.mp hk
    have ht2 := List.mem_range.mp (List.mem_of_getElem? ht)
    show ArrOfT s (if t < 10 then aC t else K (t - 27)) (pm_aT t) ∧ va_RA s (if t < 10 then aC t else K (t - 27)) (pm_aT t)
    rw [if_pos ht2]
    exact haC t ht2
  · have h0 := hts w hw
    cases w <;> first | (simp [pm_nest] at hn; done) | exact va_Nw.of rfl h0
theorem pm_sfit (k j : Nat) : fits .byte (.int ((pm_sby.getD k []).getD j 0)) = true := by
  have h : ∀ l ∈ pm_sby, ∀ b ∈ l, fits .byte (.int b) = true := by decide +kernel
  by_cases hk : k < pm_sby.length
  · by_cases hj : j < (pm_sby.getD k []).length
    · have e1 : pm_sby.getD k [] ∈ pm_sby := by rw [List.getD_eq_getElem?_getD, List.getElem?_eq_getElem hk]; exact List.getElem_mem hk
      rw [List.getD_eq_getElem?_getD (l := pm_sby.getD k []), List.getElem?_eq_getElem hj]
      exact h _ e1 _ (List.getElem_mem hj)
    · rw [List.getD_eq_getElem?_getD (l := pm_sby.getD k []), List.getElem?_eq_none (Nat.not_lt.mp hj)]; rfl
  · rw [List.getD_eq_getElem?_getD (l := pm_sby), List.getElem?_eq_none (Nat.not_lt.mp hk)]; rfl
set_option maxRecDepth 100000 in
set_option maxHeartbeats 1000000 in
theorem pm_GD0 {b L : Nat} {xs : Nat → Int32} {s : State} (D : va_G) (aC : Nat → ClassId) (hs : ∀ c ∈ flatC (Jvm.Cond.and given_1 narrow_1), c.before #[Value.ref b] s = true) (hts : ∀ w ∈ lw_tbl, w.before #[Value.ref b] s = true) (hX : va_X b L xs s s.heap) (hb : b < s.heap.size) {adK adV : Nat → Nat} (hS : vk_S 4 pm_sln pm_sby adK adV (fun q => s.heap.size ≤ q) s s.heap) (hKC : ∀ i, 7 ≤ i → i < 11 → aC (20 + i) = adK (i - 7)) : ∃ (fm : Bool) (E : Nat → Nat), E 0 = b ∧ pm_GD D aC E s.heap.size (pm_h0 fm L xs) s s.heap := by
  have hA : ∀ a : Nat, a < s.heap.size → ¬ (fun q : Nat => s.heap.size ≤ q) a := fun a ha => Nat.not_le.mpr ha
  obtain ⟨t1, z1, w1⟩ := pm_stat1 hs hts hA
  obtain ⟨t2, z2, w2⟩ := pm_stat2 hs hts hA
  obtain ⟨t3, z3, w3⟩ := pm_stat3 hs hts hA
  obtain ⟨t4, z4, w4⟩ := pm_stat4 hs hts hA
  obtain ⟨t5, z5, w5⟩ := pm_stat5 hs hts hA
  obtain ⟨t6, z6, w6⟩ := pm_stat6 hs hts hA
  have zc := va_Zof (A := fun q : Nat => s.heap.size ≤ q) (hts (.laysStatic "java/lang/String" "COMPACT_STRINGS" "Z") (by decide +kernel)) (hts (.initialized "java/lang/String") (by decide +kernel)) (va_eqt (hs (.eq (.static "java/lang/String" "COMPACT_STRINGS" "Z") (.int 1)) (by decide +kernel))) hA
  have zf := va_Zqof (A := fun q : Nat => s.heap.size ≤ q) (hts (.laysStatic "jdk/internal/util/Preconditions" "SIOOBE_FORMATTER" "Ljava/util/function/BiFunction;") (by decide +kernel)) (hts (.initialized "jdk/internal/util/Preconditions") (by decide +kernel)) (hs (.isRef (.static "jdk/internal/util/Preconditions" "SIOOBE_FORMATTER" "Ljava/util/function/BiFunction;")) (by decide +kernel)) hA
  obtain ⟨fm, t15, zf⟩ : ∃ (fm : Bool) (t15 : Nat), va_Z "jdk/internal/util/Preconditions" "SIOOBE_FORMATTER" "Ljava/util/function/BiFunction;" (if fm then .ref t15 else .null) (fun q => s.heap.size ≤ q) s s.heap := by
    rcases zf with z | ⟨t, z⟩
    · exact ⟨false, 0, z⟩
    · exact ⟨true, t, z⟩
  refine ⟨fm, fun i => match i with | 0 => b | 1 => t1 | 2 => t2 | 3 => t3 | 4 => t4 | 5 => t5 | 6 => t6 | 7 => adK 0 | 8 => adK 1 | 9 => adK 2 | 10 => adK 3 | 11 => adV 0 | 12 => adV 1 | 13 => adV 2 | 14 => adV 3 | _ => t15, rfl, rfl, Nat.le_refl _, fun i h1 h2 => ?_, ⟨fun i h1 h2 => ?_, fun i n f h1 h2 => ?_, fun i h1 h2 => ?_, zc, ?_⟩, fun i n f h1 h2 => ?_, fun i n f h2 j => ?_⟩
  · have h2 : i < 16 := h2
    omega
  · match i, h1, h2 with
    | 1, _, _ => exact z1
    | 2, _, _ => exact z2
    | 3, _, _ => exact z3
    | 4, _, _ => exact z4
    | 5, _, _ => exact z5
    | 6, _, _ => exact z6
    | n + 7, _, h => exact absurd h (by omega)
  · match i, h1, h2 with
    | 0, _, h2 => cases h2
    | 1, _, h2 => cases h2
    | 2, _, h2 => cases h2
    | 3, _, h2 => cases h2
    | 4, _, h2 => cases h2
    | 5, _, h2 => cases h2
    | 6, _, h2 => cases h2
    | 7, _, h2 => cases h2
    | 8, _, h2 => cases h2
    | 9, _, h2 => cases h2
    | 10, _, h2 => cases h2
    | 11, _, h2 => cases h2; exact (hS.1 0 (by decide)).2.2.2
    | 12, _, h2 => cases h2; exact (hS.1 1 (by decide)).2.2.2
    | 13, _, h2 => cases h2; exact (hS.1 2 (by decide)).2.2.2
    | 14, _, h2 => cases h2; exact (hS.1 3 (by decide)).2.2.2
    | 15, _, h2 => cases fm <;> cases h2
    | n + 16, h1, _ => exact absurd h1 (by omega)
  · match i, h1, h2 with
    | 7, h1, h2 => exact ⟨(hKC 7 h1 h2).symm, (hS.1 0 (by decide)).1, (hS.1 0 (by decide)).2.1, (hS.1 0 (by decide)).2.2.1⟩
    | 8, h1, h2 => exact ⟨(hKC 8 h1 h2).symm, (hS.1 1 (by decide)).1, (hS.1 1 (by decide)).2.1, (hS.1 1 (by decide)).2.2.1⟩
    | 9, h1, h2 => exact ⟨(hKC 9 h1 h2).symm, (hS.1 2 (by decide)).1, (hS.1 2 (by decide)).2.1, (hS.1 2 (by decide)).2.2.1⟩
    | 10, h1, h2 => exact ⟨(hKC 10 h1 h2).symm, (hS.1 3 (by decide)).1, (hS.1 3 (by decide)).2.1, (hS.1 3 (by decide)).2.2.1⟩
    | n + 11, _, h => exact absurd h (by omega)
  · cases fm
    · exact zf
    · exact zf
  · match i, h2 with
    | 0, h2 =>
      cases h2
      obtain ⟨scr, x1, x2, x3, x4, x5⟩ := hX
      exact ⟨scr, x1, x2, x3, by rw [x4]; exact Nat.le_refl _, by rw [x4] <;> rfl, x5, Nat.not_le.mpr hb⟩
    | 1, h2 => cases h2; exact w1
    | 2, h2 => cases h2; exact w2
    | 3, h2 => cases h2; exact w3
    | 4, h2 => cases h2; exact w4
    | 5, h2 => cases h2; exact w5
    | 6, h2 => cases h2; exact w6
    | 7, h2 => cases h2
    | 8, h2 => cases h2
    | 9, h2 => cases h2
    | 10, h2 => cases h2
    | 11, h2 => cases h2
    | 12, h2 => cases h2
    | 13, h2 => cases h2
    | 14, h2 => cases h2
    | 15, h2 => cases fm <;> cases h2
    | n + 16, h2 => exact absurd h1 (by omega)
  · match i, h2 with
    | 0, h2 => cases h2
    | 1, h2 => cases h2
    | 2, h2 => cases h2
    | 3, h2 => cases h2
    | 4, h2 => cases h2
    | 5, h2 => cases h2
    | 6, h2 => cases h2
    | 7, h2 => cases h2
    | 8, h2 => cases h2
    | 9, h2 => cases h2
    | 10, h2 => cases h2
    | 11, h2 => cases h2; exact pm_sfit 0 j
    | 12, h2 => cases h2; exact pm_sfit 1 j
    | 13, h2 => cases h2; exact pm_sfit 2 j
    | 14, h2 => cases h2; exact pm_sfit 3 j
    | 15, h2 => cases fm <;> cases h2
    | n + 16, h2 => cases h2
theorem pm_roomc : 500000 ≤ room_1.cells := by decide
theorem pm_rooms : 7000000 ≤ room_1.slots := by decide
def R_law : String := "SilentTableLaw"
def lw_P (b : Addr) (xs : List Int32) (args : Array Value) (s : State) : Prop := args = #[.ref b] ∧ s.IntsAt b xs ∧ xs.length ≤ 3584 ∧ (Jvm.Cond.and given_1 narrow_1).before args s = true
def lw_Q (_ : Array Value) (s : State) (o : Outcome) (t : State) : Prop := o = .returned (some (.int 1)) ∧ Framed s o t [] room_1.cells room_1.slots
def lw_Z (below : List Frame) (a : Array Value) (s : State) : State → Prop := fun t => ∃ o, t.status = .running ∧ Ended t below o ∧ lw_Q a s o t
/-- the law's own end, with 1 on the stack, nothing written that was there before, its room as the claim has it -/
theorem lw_ret {p : Program} {l : Launch} {e : Env} {s : State} {m : MethodId} {below : List Frame} {meth : Method} {c : Code} {b : Nat} (hx : p.tables.exec = Jvm.exec) (hb : c.code = code) (hr : meth.sig.returnType = ret) (hlocks : meth.locks = false) {pc : Nat} {H : Heap} {ls : Array Slot} (hdg : decode code pc = .ok (.ireturn, 1)) : W p l e room_1 s m #[Value.ref b] below meth c H [] room_1.cells room_1.slots (lw_Z below #[Value.ref b] s) (F0 m pc ls [.int 1]) := by
  intro T hT X
  obtain ⟨fs, hret, hrun, hended, hW, hframe⟩ := X.leave (v := some (.int 1)) (hlocks := hlocks) (fun h => by rw [hr] at h; cases h)
  have hmeth' : T.vm.method? m = some meth := X.method'
  refine ⟨T.setFrames fs, ?_, .returned (some (.int 1)), hrun, hended, rfl, ⟨_, rfl⟩, hW, hframe⟩
  jvm_step X.here [X.here.top, hx, hb, hdg, hmeth', hr, ret, narrow_b1]
  (try refine ⟨rfl, ?_⟩); (try refine ⟨rfl, ?_⟩)
  first | (intro acts; rw [hret _ acts rfl rfl rfl]) | rw [hret _ _ rfl rfl rfl]
  exact Steps.refl _
/-- what holds at the law's entry: the machine, the code, the tables' words (any of lw_tbl by 'hts w (by decide +kernel)'), the script of L ints xs at the cell b, what the Statement gives of the start (any of its parts by flat_of_before) -/
def lw_At (p : Program) (s : State) (m : MethodId) (meth : Method) (c : Code) (b L : Nat) (xs : Nat → Int32) : Prop :=
  p.tables.exec = Jvm.exec ∧ c.code = code ∧ meth.sig.returnType = ret ∧ c.maxLocals = 4 ∧ s.vm.findClass R_law = some m.cls ∧ (∀ w ∈ lw_tbl, w.before #[Value.ref b] s = true) ∧ va_X b L xs s s.heap ∧ b < s.heap.size ∧ meth.locks = false ∧ (Jvm.Cond.and given_1 narrow_1).before #[Value.ref b] s = true
set_option maxHeartbeats 1000000 in
/-- the claim's walk out of a run of the pure machine -/
theorem pm_whole {p : Program} {e : Env} {s : State} {m : MethodId} {below : List Frame} {meth : Method} {c : Code} (l : Launch) {b L : Nat} {xs : Nat → Int32} (C0 : lw_At p s m meth c b L xs) (hrun : ∀ fm : Bool, ∃ (n : Nat) (h_q : pm_H), pm_run n 100 0 0 pm_l0 [] (pm_h0 fm L xs) = some (some (.int 1), h_q) ∧ h_q.1 ≤ 500016 ∧ h_q.2.1 ≤ 7000000) : W p l e room_1 s m #[Value.ref b] below meth c s.heap [] 0 0 (lw_Z below #[Value.ref b] s) (entryFrame m ([Value.ref b] : List Value).toArray 4) := by
  obtain ⟨hx, hb, hr, hml, hown, hts, hX, hbl, hlocks, hgv⟩ := C0
  have hs := flat_of_before _ hgv
  obtain ⟨adK, adV, hS, hKe⟩ := pm_strs (A := fun q : Nat => s.heap.size ≤ q) hs (fun a ha => Nat.not_le.mpr ha)
  obtain ⟨D, aC, hGS, hKC⟩ := pm_GS0 hts (pm_strR hts hKe)
  obtain ⟨fm, E, hE, hGD⟩ := pm_GD0 D aC hs hts hX hbl hS hKC
  obtain ⟨n, h_q, hrun, hc1, hc2⟩ := hrun fm
  have hF : pm_Fr D aC pm_m0 p s m #[Value.ref b] meth c := ⟨hx, hb, hr, hml, hown, fun w hw => hts w (pm_in_G hw).1, fun hn => absurd hn (by decide), hGS⟩
  have hent : pm_ent 4 [.ref 0] = some pm_l0 := rfl
  obtain ⟨hpl, hLR⟩ := pm_entry E s.heap.size hent
  have e1 : ([Value.ref b] : List Value) = ([.ref 0] : List Value).map (pm_tr E s.heap.size) := by
    show [Value.ref b] = [Value.ref (pm_ad E s.heap.size 0)]
    rw [show pm_ad E s.heap.size 0 = b from hE]
  rw [← e1] at hLR
  rw [lg_entry_eq]
  refine pm_walk l D aC E s.heap.size n 100 0 0 pm_l0 [] (pm_h0 fm L xs) (some (.int 1)) h_q pm_m0 hrun rfl p e room_1 s m #[Value.ref b] below meth c _ s.heap [] 0 0 _ hF hLR hpl hGD (fun z hz => by cases hz) (by decide) (by decide) ?_ ?_ ?_
  · show 0 + (h_q.1 - 16) ≤ room_1.cells
    have := pm_roomc
    omega
  · show 0 + (h_q.2.1 - 0) ≤ room_1.slots
    have := pm_rooms
    omega
  · intro pc_q i st_q ls_q H_q locs' hdg hret hg' hlo'
    have hst : i = .ireturn ∧ st_q = [.int 1] := by
      unfold pm_ret at hret
      split at hret
      · cases hret
      · split at hret
        · cases hret; exact ⟨rfl, rfl⟩
        · cases hret
      · cases hret
      · cases hret
      · cases hret
      · cases hret
      · cases hret
      · cases hret
    obtain ⟨rfl, rfl⟩ := hst
    refine va_forget (fun q hq => hlo' q hq) ?_
    refine W.widen (k := room_1.cells) (n := room_1.slots) (by show 0 + (h_q.1 - 16) ≤ room_1.cells; have := pm_roomc; omega) (by show 0 + (h_q.2.1 - 0) ≤ room_1.slots; have := pm_rooms; omega) ?_
    exact lw_ret hx hb hr hlocks hdg
