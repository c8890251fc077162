/-! the law's start: the classes, the tables, the old arrays; what is left to show is of the pure machine alone -/
def pm_sv1 : List Int32 := [2, 3, 2, 2]
def pm_sv2 : List Int32 := [3, 3, 2, 1, 2, 1, 2, 1, 2, 2, 2, 1, 1]
def pm_sv3 : List Int32 := [5, 5, 5, 9, 5, 49, 9, 9, 0, 6, 0, 0, 5, 5, 0, 5, 0, 0, 5, 9, 0, 9, 0, 0, 9, 9, 0, 9, 9, 0, 9, 9, 0, 9, 0, 0, 9, 0, 0]
def pm_sv4 : List Int32 := [10, 16, 0, 0, 50, 50, 50, 8, 8, 8, 8, 8, 8]
def pm_sv5 : List Int32 := [1, 10, 100, 1000, 10000]
def pm_sv6 : List Int32 := [0, 0, 10, 110, 1110]
def pm_f0 (L : Nat) (xs : Nat → Int32) (i : Nat) : pm_E := match i with
  | 0 => .inl (0, L, .inl xs)
  | 1 => .inl (0, 4, .inl (fun j => pm_sv1.getD j 0))
  | 2 => .inl (0, 13, .inl (fun j => pm_sv2.getD j 0))
  | 3 => .inl (0, 39, .inl (fun j => pm_sv3.getD j 0))
  | 4 => .inl (0, 13, .inl (fun j => pm_sv4.getD j 0))
  | 5 => .inl (0, 5, .inl (fun j => pm_sv5.getD j 0))
  | 6 => .inl (0, 5, .inl (fun j => pm_sv6.getD j 0))
  | _ => .inr (0, [])
def pm_h0 (L : Nat) (xs : Nat → Int32) : pm_H := (16, 0, pm_f0 L xs)
def pm_l0 : List Value := [.ref 0, pm_no, pm_no, pm_no]
set_option maxRecDepth 100000 in
set_option maxHeartbeats 4000000 in
theorem pm_stat1 {b : Nat} {s : State} {A : Nat → Prop} (hs : ∀ c ∈ flatC (Jvm.Cond.and given_1 narrow_1), c.before #[Value.ref b] s = true) (hts : ∀ w ∈ lw_tbl, w.before #[Value.ref b] s = true) (hA : ∀ a : Nat, a < s.heap.size → ¬ A a) : ∃ t : Nat, va_Z "SilentTable" "MOST_OF_SORT" "[I" (.ref t) A s s.heap ∧ va_T .int t 4 (fun j => .int (pm_sv1.getD j 0)) A s s.heap := by
  have hel : ∀ j : Nat, j < 4 → (Term.elem (Term.static "SilentTable" "MOST_OF_SORT" "[I") (.int (Int32.ofNat j))).eval #[Value.ref b] s none [] s = some (.int (pm_sv1.getD j 0)) := by
    intro j hj
    match j, hj with
    | 0, _ => exact va_eqt (hs (.eq (.elem (Term.static "SilentTable" "MOST_OF_SORT" "[I") (.int 0)) (.int 2)) (by decide +kernel))
    | 1, _ => exact va_eqt (hs (.eq (.elem (Term.static "SilentTable" "MOST_OF_SORT" "[I") (.int 1)) (.int 3)) (by decide +kernel))
    | 2, _ => exact va_eqt (hs (.eq (.elem (Term.static "SilentTable" "MOST_OF_SORT" "[I") (.int 2)) (.int 2)) (by decide +kernel))
    | 3, _ => exact va_eqt (hs (.eq (.elem (Term.static "SilentTable" "MOST_OF_SORT" "[I") (.int 3)) (.int 2)) (by decide +kernel))
    | n + 4, h => exact absurd h (by omega)
  obtain ⟨t, ht, hT⟩ := va_Tof (tm := (Term.static "SilentTable" "MOST_OF_SORT" "[I")) (ty := .int) (N := 4) (by decide) (hs (.arrayOf (Term.static "SilentTable" "MOST_OF_SORT" "[I") .int) (by decide +kernel)) (va_eqt (hs (.eq (.length (Term.static "SilentTable" "MOST_OF_SORT" "[I")) (.int 4)) (by decide +kernel))) hel hA
  exact ⟨t, va_Zref (hts (.laysStatic "SilentTable" "MOST_OF_SORT" "[I") (List.mem_append_right _ (List.mem_of_getElem? (i := 38) rfl))) (hts (.initialized "SilentTable") (List.mem_append_right _ (List.mem_of_getElem? (i := 1) rfl))) ht hA, hT⟩
set_option maxRecDepth 100000 in
set_option maxHeartbeats 4000000 in
theorem pm_stat2 {b : Nat} {s : State} {A : Nat → Prop} (hs : ∀ c ∈ flatC (Jvm.Cond.and given_1 narrow_1), c.before #[Value.ref b] s = true) (hts : ∀ w ∈ lw_tbl, w.before #[Value.ref b] s = true) (hA : ∀ a : Nat, a < s.heap.size → ¬ A a) : ∃ t : Nat, va_Z "SilentTable" "NUMBERS_OF_LINE" "[I" (.ref t) A s s.heap ∧ va_T .int t 13 (fun j => .int (pm_sv2.getD j 0)) A s s.heap := by
  have hel : ∀ j : Nat, j < 13 → (Term.elem (Term.static "SilentTable" "NUMBERS_OF_LINE" "[I") (.int (Int32.ofNat j))).eval #[Value.ref b] s none [] s = some (.int (pm_sv2.getD j 0)) := by
    intro j hj
    match j, hj with
    | 0, _ => exact va_eqt (hs (.eq (.elem (Term.static "SilentTable" "NUMBERS_OF_LINE" "[I") (.int 0)) (.int 3)) (by decide +kernel))
    | 1, _ => exact va_eqt (hs (.eq (.elem (Term.static "SilentTable" "NUMBERS_OF_LINE" "[I") (.int 1)) (.int 3)) (by decide +kernel))
    | 2, _ => exact va_eqt (hs (.eq (.elem (Term.static "SilentTable" "NUMBERS_OF_LINE" "[I") (.int 2)) (.int 2)) (by decide +kernel))
    | 3, _ => exact va_eqt (hs (.eq (.elem (Term.static "SilentTable" "NUMBERS_OF_LINE" "[I") (.int 3)) (.int 1)) (by decide +kernel))
    | 4, _ => exact va_eqt (hs (.eq (.elem (Term.static "SilentTable" "NUMBERS_OF_LINE" "[I") (.int 4)) (.int 2)) (by decide +kernel))
    | 5, _ => exact va_eqt (hs (.eq (.elem (Term.static "SilentTable" "NUMBERS_OF_LINE" "[I") (.int 5)) (.int 1)) (by decide +kernel))
    | 6, _ => exact va_eqt (hs (.eq (.elem (Term.static "SilentTable" "NUMBERS_OF_LINE" "[I") (.int 6)) (.int 2)) (by decide +kernel))
    | 7, _ => exact va_eqt (hs (.eq (.elem (Term.static "SilentTable" "NUMBERS_OF_LINE" "[I") (.int 7)) (.int 1)) (by decide +kernel))
    | 8, _ => exact va_eqt (hs (.eq (.elem (Term.static "SilentTable" "NUMBERS_OF_LINE" "[I") (.int 8)) (.int 2)) (by decide +kernel))
    | 9, _ => exact va_eqt (hs (.eq (.elem (Term.static "SilentTable" "NUMBERS_OF_LINE" "[I") (.int 9)) (.int 2)) (by decide +kernel))
    | 10, _ => exact va_eqt (hs (.eq (.elem (Term.static "SilentTable" "NUMBERS_OF_LINE" "[I") (.int 10)) (.int 2)) (by decide +kernel))
    | 11, _ => exact va_eqt (hs (.eq (.elem (Term.static "SilentTable" "NUMBERS_OF_LINE" "[I") (.int 11)) (.int 1)) (by decide +kernel))
    | 12, _ => exact va_eqt (hs (.eq (.elem (Term.static "SilentTable" "NUMBERS_OF_LINE" "[I") (.int 12)) (.int 1)) (by decide +kernel))
    | n + 13, h => exact absurd h (by omega)
  obtain ⟨t, ht, hT⟩ := va_Tof (tm := (Term.static "SilentTable" "NUMBERS_OF_LINE" "[I")) (ty := .int) (N := 13) (by decide) (hs (.arrayOf (Term.static "SilentTable" "NUMBERS_OF_LINE" "[I") .int) (by decide +kernel)) (va_eqt (hs (.eq (.length (Term.static "SilentTable" "NUMBERS_OF_LINE" "[I")) (.int 13)) (by decide +kernel))) hel hA
  exact ⟨t, va_Zref (hts (.laysStatic "SilentTable" "NUMBERS_OF_LINE" "[I") (List.mem_append_right _ (List.mem_of_getElem? (i := 386) rfl))) (hts (.initialized "SilentTable") (List.mem_append_right _ (List.mem_of_getElem? (i := 1) rfl))) ht hA, hT⟩
set_option maxRecDepth 100000 in
set_option maxHeartbeats 4000000 in
theorem pm_stat3 {b : Nat} {s : State} {A : Nat → Prop} (hs : ∀ c ∈ flatC (Jvm.Cond.and given_1 narrow_1), c.before #[Value.ref b] s = true) (hts : ∀ w ∈ lw_tbl, w.before #[Value.ref b] s = true) (hA : ∀ a : Nat, a < s.heap.size → ¬ A a) : ∃ t : Nat, va_Z "SilentTable" "GREATEST" "[I" (.ref t) A s s.heap ∧ va_T .int t 39 (fun j => .int (pm_sv3.getD j 0)) A s s.heap := by
  have hel : ∀ j : Nat, j < 39 → (Term.elem (Term.static "SilentTable" "GREATEST" "[I") (.int (Int32.ofNat j))).eval #[Value.ref b] s none [] s = some (.int (pm_sv3.getD j 0)) := by
    intro j hj
    match j, hj with
    | 0, _ => exact va_eqt (hs (.eq (.elem (Term.static "SilentTable" "GREATEST" "[I") (.int 0)) (.int 5)) (by decide +kernel))
    | 1, _ => exact va_eqt (hs (.eq (.elem (Term.static "SilentTable" "GREATEST" "[I") (.int 1)) (.int 5)) (by decide +kernel))
    | 2, _ => exact va_eqt (hs (.eq (.elem (Term.static "SilentTable" "GREATEST" "[I") (.int 2)) (.int 5)) (by decide +kernel))
    | 3, _ => exact va_eqt (hs (.eq (.elem (Term.static "SilentTable" "GREATEST" "[I") (.int 3)) (.int 9)) (by decide +kernel))
    | 4, _ => exact va_eqt (hs (.eq (.elem (Term.static "SilentTable" "GREATEST" "[I") (.int 4)) (.int 5)) (by decide +kernel))
    | 5, _ => exact va_eqt (hs (.eq (.elem (Term.static "SilentTable" "GREATEST" "[I") (.int 5)) (.int 49)) (by decide +kernel))
    | 6, _ => exact va_eqt (hs (.eq (.elem (Term.static "SilentTable" "GREATEST" "[I") (.int 6)) (.int 9)) (by decide +kernel))
    | 7, _ => exact va_eqt (hs (.eq (.elem (Term.static "SilentTable" "GREATEST" "[I") (.int 7)) (.int 9)) (by decide +kernel))
    | 8, _ => exact va_eqt (hs (.eq (.elem (Term.static "SilentTable" "GREATEST" "[I") (.int 8)) (.int 0)) (by decide +kernel))
    | 9, _ => exact va_eqt (hs (.eq (.elem (Term.static "SilentTable" "GREATEST" "[I") (.int 9)) (.int 6)) (by decide +kernel))
    | 10, _ => exact va_eqt (hs (.eq (.elem (Term.static "SilentTable" "GREATEST" "[I") (.int 10)) (.int 0)) (by decide +kernel))
    | 11, _ => exact va_eqt (hs (.eq (.elem (Term.static "SilentTable" "GREATEST" "[I") (.int 11)) (.int 0)) (by decide +kernel))
    | 12, _ => exact va_eqt (hs (.eq (.elem (Term.static "SilentTable" "GREATEST" "[I") (.int 12)) (.int 5)) (by decide +kernel))
    | 13, _ => exact va_eqt (hs (.eq (.elem (Term.static "SilentTable" "GREATEST" "[I") (.int 13)) (.int 5)) (by decide +kernel))
    | 14, _ => exact va_eqt (hs (.eq (.elem (Term.static "SilentTable" "GREATEST" "[I") (.int 14)) (.int 0)) (by decide +kernel))
    | 15, _ => exact va_eqt (hs (.eq (.elem (Term.static "SilentTable" "GREATEST" "[I") (.int 15)) (.int 5)) (by decide +kernel))
    | 16, _ => exact va_eqt (hs (.eq (.elem (Term.static "SilentTable" "GREATEST" "[I") (.int 16)) (.int 0)) (by decide +kernel))
    | 17, _ => exact va_eqt (hs (.eq (.elem (Term.static "SilentTable" "GREATEST" "[I") (.int 17)) (.int 0)) (by decide +kernel))
    | 18, _ => exact va_eqt (hs (.eq (.elem (Term.static "SilentTable" "GREATEST" "[I") (.int 18)) (.int 5)) (by decide +kernel))
    | 19, _ => exact va_eqt (hs (.eq (.elem (Term.static "SilentTable" "GREATEST" "[I") (.int 19)) (.int 9)) (by decide +kernel))
    | 20, _ => exact va_eqt (hs (.eq (.elem (Term.static "SilentTable" "GREATEST" "[I") (.int 20)) (.int 0)) (by decide +kernel))
    | 21, _ => exact va_eqt (hs (.eq (.elem (Term.static "SilentTable" "GREATEST" "[I") (.int 21)) (.int 9)) (by decide +kernel))
    | 22, _ => exact va_eqt (hs (.eq (.elem (Term.static "SilentTable" "GREATEST" "[I") (.int 22)) (.int 0)) (by decide +kernel))
    | 23, _ => exact va_eqt (hs (.eq (.elem (Term.static "SilentTable" "GREATEST" "[I") (.int 23)) (.int 0)) (by decide +kernel))
    | 24, _ => exact va_eqt (hs (.eq (.elem (Term.static "SilentTable" "GREATEST" "[I") (.int 24)) (.int 9)) (by decide +kernel))
    | 25, _ => exact va_eqt (hs (.eq (.elem (Term.static "SilentTable" "GREATEST" "[I") (.int 25)) (.int 9)) (by decide +kernel))
    | 26, _ => exact va_eqt (hs (.eq (.elem (Term.static "SilentTable" "GREATEST" "[I") (.int 26)) (.int 0)) (by decide +kernel))
    | 27, _ => exact va_eqt (hs (.eq (.elem (Term.static "SilentTable" "GREATEST" "[I") (.int 27)) (.int 9)) (by decide +kernel))
    | 28, _ => exact va_eqt (hs (.eq (.elem (Term.static "SilentTable" "GREATEST" "[I") (.int 28)) (.int 9)) (by decide +kernel))
    | 29, _ => exact va_eqt (hs (.eq (.elem (Term.static "SilentTable" "GREATEST" "[I") (.int 29)) (.int 0)) (by decide +kernel))
    | 30, _ => exact va_eqt (hs (.eq (.elem (Term.static "SilentTable" "GREATEST" "[I") (.int 30)) (.int 9)) (by decide +kernel))
    | 31, _ => exact va_eqt (hs (.eq (.elem (Term.static "SilentTable" "GREATEST" "[I") (.int 31)) (.int 9)) (by decide +kernel))
    | 32, _ => exact va_eqt (hs (.eq (.elem (Term.static "SilentTable" "GREATEST" "[I") (.int 32)) (.int 0)) (by decide +kernel))
    | 33, _ => exact va_eqt (hs (.eq (.elem (Term.static "SilentTable" "GREATEST" "[I") (.int 33)) (.int 9)) (by decide +kernel))
    | 34, _ => exact va_eqt (hs (.eq (.elem (Term.static "SilentTable" "GREATEST" "[I") (.int 34)) (.int 0)) (by decide +kernel))
    | 35, _ => exact va_eqt (hs (.eq (.elem (Term.static "SilentTable" "GREATEST" "[I") (.int 35)) (.int 0)) (by decide +kernel))
    | 36, _ => exact va_eqt (hs (.eq (.elem (Term.static "SilentTable" "GREATEST" "[I") (.int 36)) (.int 9)) (by decide +kernel))
    | 37, _ => exact va_eqt (hs (.eq (.elem (Term.static "SilentTable" "GREATEST" "[I") (.int 37)) (.int 0)) (by decide +kernel))
    | 38, _ => exact va_eqt (hs (.eq (.elem (Term.static "SilentTable" "GREATEST" "[I") (.int 38)) (.int 0)) (by decide +kernel))
    | n + 39, h => exact absurd h (by omega)
  obtain ⟨t, ht, hT⟩ := va_Tof (tm := (Term.static "SilentTable" "GREATEST" "[I")) (ty := .int) (N := 39) (by decide) (hs (.arrayOf (Term.static "SilentTable" "GREATEST" "[I") .int) (by decide +kernel)) (va_eqt (hs (.eq (.length (Term.static "SilentTable" "GREATEST" "[I")) (.int 39)) (by decide +kernel))) hel hA
  exact ⟨t, va_Zref (hts (.laysStatic "SilentTable" "GREATEST" "[I") (List.mem_append_right _ (List.mem_of_getElem? (i := 392) rfl))) (hts (.initialized "SilentTable") (List.mem_append_right _ (List.mem_of_getElem? (i := 1) rfl))) ht hA, hT⟩
set_option maxRecDepth 100000 in
set_option maxHeartbeats 4000000 in
theorem pm_stat4 {b : Nat} {s : State} {A : Nat → Prop} (hs : ∀ c ∈ flatC (Jvm.Cond.and given_1 narrow_1), c.before #[Value.ref b] s = true) (hts : ∀ w ∈ lw_tbl, w.before #[Value.ref b] s = true) (hA : ∀ a : Nat, a < s.heap.size → ¬ A a) : ∃ t : Nat, va_Z "SilentTable" "MOST_OF_LINE" "[I" (.ref t) A s s.heap ∧ va_T .int t 13 (fun j => .int (pm_sv4.getD j 0)) A s s.heap := by
  have hel : ∀ j : Nat, j < 13 → (Term.elem (Term.static "SilentTable" "MOST_OF_LINE" "[I") (.int (Int32.ofNat j))).eval #[Value.ref b] s none [] s = some (.int (pm_sv4.getD j 0)) := by
    intro j hj
    match j, hj with
    | 0, _ => exact va_eqt (hs (.eq (.elem (Term.static "SilentTable" "MOST_OF_LINE" "[I") (.int 0)) (.int 10)) (by decide +kernel))
    | 1, _ => exact va_eqt (hs (.eq (.elem (Term.static "SilentTable" "MOST_OF_LINE" "[I") (.int 1)) (.int 16)) (by decide +kernel))
    | 2, _ => exact va_eqt (hs (.eq (.elem (Term.static "SilentTable" "MOST_OF_LINE" "[I") (.int 2)) (.int 0)) (by decide +kernel))
    | 3, _ => exact va_eqt (hs (.eq (.elem (Term.static "SilentTable" "MOST_OF_LINE" "[I") (.int 3)) (.int 0)) (by decide +kernel))
    | 4, _ => exact va_eqt (hs (.eq (.elem (Term.static "SilentTable" "MOST_OF_LINE" "[I") (.int 4)) (.int 50)) (by decide +kernel))
    | 5, _ => exact va_eqt (hs (.eq (.elem (Term.static "SilentTable" "MOST_OF_LINE" "[I") (.int 5)) (.int 50)) (by decide +kernel))
    | 6, _ => exact va_eqt (hs (.eq (.elem (Term.static "SilentTable" "MOST_OF_LINE" "[I") (.int 6)) (.int 50)) (by decide +kernel))
    | 7, _ => exact va_eqt (hs (.eq (.elem (Term.static "SilentTable" "MOST_OF_LINE" "[I") (.int 7)) (.int 8)) (by decide +kernel))
    | 8, _ => exact va_eqt (hs (.eq (.elem (Term.static "SilentTable" "MOST_OF_LINE" "[I") (.int 8)) (.int 8)) (by decide +kernel))
    | 9, _ => exact va_eqt (hs (.eq (.elem (Term.static "SilentTable" "MOST_OF_LINE" "[I") (.int 9)) (.int 8)) (by decide +kernel))
    | 10, _ => exact va_eqt (hs (.eq (.elem (Term.static "SilentTable" "MOST_OF_LINE" "[I") (.int 10)) (.int 8)) (by decide +kernel))
    | 11, _ => exact va_eqt (hs (.eq (.elem (Term.static "SilentTable" "MOST_OF_LINE" "[I") (.int 11)) (.int 8)) (by decide +kernel))
    | 12, _ => exact va_eqt (hs (.eq (.elem (Term.static "SilentTable" "MOST_OF_LINE" "[I") (.int 12)) (.int 8)) (by decide +kernel))
    | n + 13, h => exact absurd h (by omega)
  obtain ⟨t, ht, hT⟩ := va_Tof (tm := (Term.static "SilentTable" "MOST_OF_LINE" "[I")) (ty := .int) (N := 13) (by decide) (hs (.arrayOf (Term.static "SilentTable" "MOST_OF_LINE" "[I") .int) (by decide +kernel)) (va_eqt (hs (.eq (.length (Term.static "SilentTable" "MOST_OF_LINE" "[I")) (.int 13)) (by decide +kernel))) hel hA
  exact ⟨t, va_Zref (hts (.laysStatic "SilentTable" "MOST_OF_LINE" "[I") (List.mem_append_right _ (List.mem_of_getElem? (i := 384) rfl))) (hts (.initialized "SilentTable") (List.mem_append_right _ (List.mem_of_getElem? (i := 1) rfl))) ht hA, hT⟩
set_option maxRecDepth 100000 in
set_option maxHeartbeats 4000000 in
theorem pm_stat5 {b : Nat} {s : State} {A : Nat → Prop} (hs : ∀ c ∈ flatC (Jvm.Cond.and given_1 narrow_1), c.before #[Value.ref b] s = true) (hts : ∀ w ∈ lw_tbl, w.before #[Value.ref b] s = true) (hA : ∀ a : Nat, a < s.heap.size → ¬ A a) : ∃ t : Nat, va_Z "SilentTable" "ROWS_OF" "[I" (.ref t) A s s.heap ∧ va_T .int t 5 (fun j => .int (pm_sv5.getD j 0)) A s s.heap := by
  have hel : ∀ j : Nat, j < 5 → (Term.elem (Term.static "SilentTable" "ROWS_OF" "[I") (.int (Int32.ofNat j))).eval #[Value.ref b] s none [] s = some (.int (pm_sv5.getD j 0)) := by
    intro j hj
    match j, hj with
    | 0, _ => exact va_eqt (hs (.eq (.elem (Term.static "SilentTable" "ROWS_OF" "[I") (.int 0)) (.int 1)) (by decide +kernel))
    | 1, _ => exact va_eqt (hs (.eq (.elem (Term.static "SilentTable" "ROWS_OF" "[I") (.int 1)) (.int 10)) (by decide +kernel))
    | 2, _ => exact va_eqt (hs (.eq (.elem (Term.static "SilentTable" "ROWS_OF" "[I") (.int 2)) (.int 100)) (by decide +kernel))
    | 3, _ => exact va_eqt (hs (.eq (.elem (Term.static "SilentTable" "ROWS_OF" "[I") (.int 3)) (.int 1000)) (by decide +kernel))
    | 4, _ => exact va_eqt (hs (.eq (.elem (Term.static "SilentTable" "ROWS_OF" "[I") (.int 4)) (.int 10000)) (by decide +kernel))
    | n + 5, h => exact absurd h (by omega)
  obtain ⟨t, ht, hT⟩ := va_Tof (tm := (Term.static "SilentTable" "ROWS_OF" "[I")) (ty := .int) (N := 5) (by decide) (hs (.arrayOf (Term.static "SilentTable" "ROWS_OF" "[I") .int) (by decide +kernel)) (va_eqt (hs (.eq (.length (Term.static "SilentTable" "ROWS_OF" "[I")) (.int 5)) (by decide +kernel))) hel hA
  exact ⟨t, va_Zref (hts (.laysStatic "SilentTable" "ROWS_OF" "[I") (List.mem_append_right _ (List.mem_of_getElem? (i := 926) rfl))) (hts (.initialized "SilentTable") (List.mem_append_right _ (List.mem_of_getElem? (i := 1) rfl))) ht hA, hT⟩
set_option maxRecDepth 100000 in
set_option maxHeartbeats 4000000 in
theorem pm_stat6 {b : Nat} {s : State} {A : Nat → Prop} (hs : ∀ c ∈ flatC (Jvm.Cond.and given_1 narrow_1), c.before #[Value.ref b] s = true) (hts : ∀ w ∈ lw_tbl, w.before #[Value.ref b] s = true) (hA : ∀ a : Nat, a < s.heap.size → ¬ A a) : ∃ t : Nat, va_Z "SilentTable" "ROWS_BELOW" "[I" (.ref t) A s s.heap ∧ va_T .int t 5 (fun j => .int (pm_sv6.getD j 0)) A s s.heap := by
  have hel : ∀ j : Nat, j < 5 → (Term.elem (Term.static "SilentTable" "ROWS_BELOW" "[I") (.int (Int32.ofNat j))).eval #[Value.ref b] s none [] s = some (.int (pm_sv6.getD j 0)) := by
    intro j hj
    match j, hj with
    | 0, _ => exact va_eqt (hs (.eq (.elem (Term.static "SilentTable" "ROWS_BELOW" "[I") (.int 0)) (.int 0)) (by decide +kernel))
    | 1, _ => exact va_eqt (hs (.eq (.elem (Term.static "SilentTable" "ROWS_BELOW" "[I") (.int 1)) (.int 0)) (by decide +kernel))
    | 2, _ => exact va_eqt (hs (.eq (.elem (Term.static "SilentTable" "ROWS_BELOW" "[I") (.int 2)) (.int 10)) (by decide +kernel))
    | 3, _ => exact va_eqt (hs (.eq (.elem (Term.static "SilentTable" "ROWS_BELOW" "[I") (.int 3)) (.int 110)) (by decide +kernel))
    | 4, _ => exact va_eqt (hs (.eq (.elem (Term.static "SilentTable" "ROWS_BELOW" "[I") (.int 4)) (.int 1110)) (by decide +kernel))
    | n + 5, h => exact absurd h (by omega)
  obtain ⟨t, ht, hT⟩ := va_Tof (tm := (Term.static "SilentTable" "ROWS_BELOW" "[I")) (ty := .int) (N := 5) (by decide) (hs (.arrayOf (Term.static "SilentTable" "ROWS_BELOW" "[I") .int) (by decide +kernel)) (va_eqt (hs (.eq (.length (Term.static "SilentTable" "ROWS_BELOW" "[I")) (.int 5)) (by decide +kernel))) hel hA
  exact ⟨t, va_Zref (hts (.laysStatic "SilentTable" "ROWS_BELOW" "[I") (List.mem_append_right _ (List.mem_of_getElem? (i := 928) rfl))) (hts (.initialized "SilentTable") (List.mem_append_right _ (List.mem_of_getElem? (i := 1) rfl))) ht hA, hT⟩
theorem pm_arrs {args : Array Value} {s : State} (hts : ∀ w ∈ lw_tbl, w.before args s = true) (t : Nat) : ∃ cA : ClassId, t < 10 → ArrOfT s cA (pm_aT t) ∧ va_RA s cA (pm_aT t) := by
  have prim : ∀ ty : FieldType, pm_G (.arrayClass ty) → (∀ C, ty ≠ .object C) → ∃ cA : ClassId, ArrOfT s cA ty ∧ va_RA s cA ty := by
    intro ty hg hno
    obtain ⟨cA, kA, comp, h1, h2, h3⟩ := Cond.arrayClass_spec (hts _ hg.1)
    refine ⟨cA, fun n z => ⟨fun k h => (by cases h), kA, h2, comp, h3⟩, ?_⟩
    cases ty <;> first | exact h1 | exact absurd rfl (hno _)
  have obj : ∀ C : String, (Cond.arrayOver (.object C)) ∈ lw_tbl → ∃ cA : ClassId, ArrOfT s cA (.object C) ∧ va_RA s cA (.object C) := by
    intro C hm
    obtain ⟨comp, cA, kA, h1, h2, h3, h4, h5⟩ := Cond.arrayOver_spec (hts _ hm)
    exact ⟨cA, fun n z => ⟨fun k h => (by cases h), kA, h3, comp, h4⟩, kA, comp, h3, h4, h1, h5⟩
  obtain ⟨o1, o2, o3, o4, o5, o6⟩ := pm_over
  obtain ⟨a1, a2, a3, a4⟩ := pm_arr
  match t with
  | 0 => obtain ⟨cA, h⟩ := prim .int a1 (fun C h => by cases h); exact ⟨cA, fun _ => h⟩
  | 1 => obtain ⟨cA, h⟩ := prim .long a2 (fun C h => by cases h); exact ⟨cA, fun _ => h⟩
  | 2 => obtain ⟨cA, h⟩ := prim .byte a3 (fun C h => by cases h); exact ⟨cA, fun _ => h⟩
  | 3 => obtain ⟨cA, h⟩ := prim .boolean a4 (fun C h => by cases h); exact ⟨cA, fun _ => h⟩
  | 4 => obtain ⟨cA, h⟩ := obj _ o1; exact ⟨cA, fun _ => h⟩
  | 5 => obtain ⟨cA, h⟩ := obj _ o2; exact ⟨cA, fun _ => h⟩
  | 6 => obtain ⟨cA, h⟩ := obj _ o3; exact ⟨cA, fun _ => h⟩
  | 7 => obtain ⟨cA, h⟩ := obj _ o4; exact ⟨cA, fun _ => h⟩
  | 8 => obtain ⟨cA, h⟩ := obj _ o5; exact ⟨cA, fun _ => h⟩
  | 9 => obtain ⟨cA, h⟩ := obj _ o6; exact ⟨cA, fun _ => h⟩
  | n + 10 => exact ⟨0, fun h => absurd h (by omega)⟩
theorem pm_GS0 {args : Array Value} {s : State} (hts : ∀ w ∈ lw_tbl, w.before args s = true) : ∃ (D : va_G) (aC : Nat → ClassId), pm_GS D aC s := by
  have hg : ∀ w ∈ pm_good, w.before args s = true := fun w hw => hts w (pm_in_G hw).1
  have hD : ∀ k : Nat, ∃ x : ClassId × (Nat → Nat), ∀ q, pm_cl[k]? = some q → u_Kn s q.1 q.2.1 q.2.2 x.1 x.2 := by
    intro k
    cases hq : pm_cl[k]? with
    | none => exact ⟨(0, fun _ => 0), fun q h => by cases h⟩
    | some q =>
      obtain ⟨h1, -, -, h4, -⟩ := pm_cl_at hq
      obtain ⟨cC, iS, hK⟩ := u_known (C := q.1) (T := q.2.1) (N := q.2.2) (n := q.2.2) hg h1 (hg _ (pm_G_in h4))
      exact ⟨(cC, iS), fun q' h => by cases h; exact hK⟩
  obtain ⟨fD, hfD⟩ := Classical.axiomOfChoice hD
  obtain ⟨aC, haC⟩ := Classical.axiomOfChoice (pm_arrs hts)
  refine ⟨(fun k => (fD k).1, fun k => (fD k).2), aC, ⟨fun k q hq => hfD k q hq, fun k q hk => ?_⟩, fun w hw hn => ?_, fun C hC => va_AO.of (hts _ hC)⟩
  · unfold pm_tys at hk
    rw [List.getElem?_map] at hk
    obtain ⟨t, ht, rfl⟩ := Option.map_eq_some_iff.mp hk
    have ht2 := List.mem_range.mp (List.mem_of_getElem? ht)
    exact haC t ht2
  · have h0 := hts w hw
    cases w <;> first | (simp [pm_nest] at hn; done) | exact va_Nw.of rfl h0
set_option maxHeartbeats 1000000 in
theorem pm_GD0 {b L : Nat} {xs : Nat → Int32} {s : State} (D : va_G) (aC : Nat → ClassId) (hs : ∀ c ∈ flatC (Jvm.Cond.and given_1 narrow_1), c.before #[Value.ref b] s = true) (hts : ∀ w ∈ lw_tbl, w.before #[Value.ref b] s = true) (hX : va_X b L xs s s.heap) (hb : b < s.heap.size) : ∃ E : Nat → Nat, E 0 = b ∧ pm_GD D aC E s.heap.size (pm_h0 L xs) s s.heap := by
  have hA : ∀ a : Nat, a < s.heap.size → ¬ (fun q : Nat => s.heap.size ≤ q) a := fun a ha => Nat.not_le.mpr ha
  obtain ⟨t1, z1, w1⟩ := pm_stat1 hs hts hA
  obtain ⟨t2, z2, w2⟩ := pm_stat2 hs hts hA
  obtain ⟨t3, z3, w3⟩ := pm_stat3 hs hts hA
  obtain ⟨t4, z4, w4⟩ := pm_stat4 hs hts hA
  obtain ⟨t5, z5, w5⟩ := pm_stat5 hs hts hA
  obtain ⟨t6, z6, w6⟩ := pm_stat6 hs hts hA
  refine ⟨fun i => match i with | 0 => b | 1 => t1 | 2 => t2 | 3 => t3 | 4 => t4 | 5 => t5 | _ => t6, rfl, rfl, Nat.le_refl _, fun i h1 h2 => ?_, fun i h1 h2 => ?_, fun i n f h1 h2 => ?_, fun i n f h2 => ?_⟩
  · have h2 : i < 16 := h2
    omega
  · match i, h1, h2 with
    | 1, _, _ => exact z1
    | 2, _, _ => exact z2
    | 3, _, _ => exact z3
    | 4, _, _ => exact z4
    | 5, _, _ => exact z5
    | 6, _, _ => exact z6
    | n + 7, _, h => exact absurd h (by omega)
  · match i, h2 with
    | 0, h2 =>
      cases h2
      obtain ⟨scr, x1, x2, x3, x4, x5⟩ := hX
      exact ⟨scr, x1, x2, x3, by rw [x4]; exact Nat.le_refl _, by rw [x4] <;> rfl, x5, Nat.not_le.mpr hb⟩
    | 1, h2 => cases h2; exact w1
    | 2, h2 => cases h2; exact w2
    | 3, h2 => cases h2; exact w3
    | 4, h2 => cases h2; exact w4
    | 5, h2 => cases h2; exact w5
    | 6, h2 => cases h2; exact w6
    | n + 7, h2 => cases h2
  · match i, h2 with
    | 0, h2 => cases h2
    | 1, h2 => cases h2
    | 2, h2 => cases h2
    | 3, h2 => cases h2
    | 4, h2 => cases h2
    | 5, h2 => cases h2
    | 6, h2 => cases h2
    | n + 7, h2 => cases h2
def R_law : String := "SilentTableLaw"
def lw_P (b : Addr) (xs : List Int32) (args : Array Value) (s : State) : Prop := args = #[.ref b] ∧ s.IntsAt b xs ∧ xs.length ≤ 7 ∧ (Jvm.Cond.and given_1 narrow_1).before args s = true
def lw_Q (_ : Array Value) (s : State) (o : Outcome) (t : State) : Prop := o = .returned (some (.int 1)) ∧ Framed s o t [] 600000 7302250
def lw_Z (below : List Frame) (a : Array Value) (s : State) : State → Prop := fun t => ∃ o, t.status = .running ∧ Ended t below o ∧ lw_Q a s o t
/-- the law's own end, with 1 on the stack, nothing written that was there before, its room as the claim has it -/
theorem lw_ret {p : Program} {l : Launch} {e : Env} {s : State} {m : MethodId} {below : List Frame} {meth : Method} {c : Code} {b : Nat} (hx : p.tables.exec = Jvm.exec) (hb : c.code = code) (hr : meth.sig.returnType = ret) (hlocks : meth.locks = false) {pc : Nat} {H : Heap} {ls : Array Slot} (hdg : decode code pc = .ok (.ireturn, 1)) : W p l e room_1 s m #[Value.ref b] below meth c H [] 600000 7302250 (lw_Z below #[Value.ref b] s) (F0 m pc ls [.int 1]) := by
  intro T hT X
  obtain ⟨fs, hret, hrun, hended, hW, hframe⟩ := X.leave (v := some (.int 1)) (hlocks := hlocks) (fun h => by rw [hr] at h; cases h)
  have hmeth' : T.vm.method? m = some meth := X.method'
  refine ⟨T.setFrames fs, ?_, .returned (some (.int 1)), hrun, hended, rfl, ⟨_, rfl⟩, hW, hframe⟩
  jvm_step X.here [X.here.top, hx, hb, hdg, hmeth', hr, ret, narrow_b1]
  (try refine ⟨rfl, ?_⟩); (try refine ⟨rfl, ?_⟩)
  first | (intro acts; rw [hret _ acts rfl rfl rfl]) | rw [hret _ _ rfl rfl rfl]
  exact Steps.refl _
/-- what holds at the law's entry: the machine, the code, the tables' words (any of lw_tbl by 'hts w (by decide +kernel)'), the script of L ints xs at the cell b, what the Statement gives of the start (any of its parts by flat_of_before) -/
def lw_At (p : Program) (s : State) (m : MethodId) (meth : Method) (c : Code) (b L : Nat) (xs : Nat → Int32) : Prop :=
  p.tables.exec = Jvm.exec ∧ c.code = code ∧ meth.sig.returnType = ret ∧ c.maxLocals = 4 ∧ s.vm.findClass R_law = some m.cls ∧ (∀ w ∈ lw_tbl, w.before #[Value.ref b] s = true) ∧ va_X b L xs s s.heap ∧ b < s.heap.size ∧ meth.locks = false ∧ (Jvm.Cond.and given_1 narrow_1).before #[Value.ref b] s = true
set_option maxHeartbeats 1000000 in
/-- the claim's walk out of a run of the pure machine -/
theorem pm_whole {p : Program} {e : Env} {s : State} {m : MethodId} {below : List Frame} {meth : Method} {c : Code} (l : Launch) {b L : Nat} {xs : Nat → Int32} (C0 : lw_At p s m meth c b L xs) {n : Nat} {h' : pm_H} (hrun : pm_run n 100 0 0 pm_l0 [] (pm_h0 L xs) = some (some (.int 1), h')) (hc1 : h'.1 ≤ 600016) (hc2 : h'.2.1 ≤ 7302250) : W p l e room_1 s m #[Value.ref b] below meth c s.heap [] 0 0 (lw_Z below #[Value.ref b] s) (entryFrame m ([Value.ref b] : List Value).toArray 4) := by
  obtain ⟨hx, hb, hr, hml, hown, hts, hX, hbl, hlocks, hgv⟩ := C0
  have hs := flat_of_before _ hgv
  obtain ⟨D, aC, hGS⟩ := pm_GS0 hts
  obtain ⟨E, hE, hGD⟩ := pm_GD0 D aC hs hts hX hbl
  have hF : pm_Fr D aC pm_m0 p s m #[Value.ref b] meth c := ⟨hx, hb, hr, hml, hown, fun w hw => hts w (pm_in_G hw).1, fun hn => absurd hn (by decide), hGS⟩
  have hent : pm_ent 4 [.ref 0] = some pm_l0 := rfl
  obtain ⟨hpl, hLR⟩ := pm_entry E s.heap.size hent
  have e1 : ([Value.ref b] : List Value) = ([.ref 0] : List Value).map (pm_tr E s.heap.size) := by
    show [Value.ref b] = [Value.ref (pm_ad E s.heap.size 0)]
    rw [show pm_ad E s.heap.size 0 = b from hE]
  rw [← e1] at hLR
  rw [lg_entry_eq]
  refine pm_walk l D aC E s.heap.size n 100 0 0 pm_l0 [] (pm_h0 L xs) (some (.int 1)) h' pm_m0 hrun rfl p e room_1 s m #[Value.ref b] below meth c _ s.heap [] 0 0 _ hF hLR hpl hGD (fun z hz => by cases hz) (by decide) (by decide) ?_ ?_ ?_
  · show 0 + (h'.1 - 16) ≤ 600000
    omega
  · show 0 + (h'.2.1 - 0) ≤ 7302250
    omega
  · intro pc' i st' ls' H' locs' hdg hret hg' hlo'
    have hst : i = .ireturn ∧ st' = [.int 1] := by
      unfold pm_ret at hret
      split at hret
      · cases hret
      · split at hret
        · cases hret; exact ⟨rfl, rfl⟩
        · cases hret
      · cases hret
      · cases hret
      · cases hret
      · cases hret
      · cases hret
      · cases hret
    obtain ⟨rfl, rfl⟩ := hst
    refine va_forget (fun q hq => hlo' q hq) ?_
    refine W.widen (k := 600000) (n := 7302250) (by show 0 + (h'.1 - 16) ≤ 600000; omega) (by show 0 + (h'.2.1 - 0) ≤ 7302250; omega) ?_
    exact lw_ret hx hb hr hlocks hdg
