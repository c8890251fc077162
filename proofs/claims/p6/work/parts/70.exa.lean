/-! EXACT RUNS: what a run that comes back has done, told of a view of the heap: numbers, longs, references by cell and place, lengths, how many cells -/
abbrev ex_S : Type := (Nat → Nat → Int32) × (Nat → Nat → Int64) × (Nat → Nat → Option Nat) × (Nat → Nat) × Nat
def ex_i (v : Option Value) : Int32 := match v with | some (.int x) => x | _ => 0
def ex_l (v : Option Value) : Int64 := match v with | some (.long x) => x | _ => 0
def ex_r (v : Option Value) : Option Nat := match v with | some (.ref a) => some a | _ => none
def ex_eX (e : pm_E) (k : Nat) : Int32 := match e with | .inl (_, _, .inl f) => f k | .inl _ => 0 | .inr (_, fs) => ex_i fs[k]?
def ex_eY (e : pm_E) (k : Nat) : Int64 := match e with | .inl (_, _, .inr (.inl f)) => f k | .inl _ => 0 | .inr (_, fs) => ex_l fs[k]?
def ex_eZ (e : pm_E) (k : Nat) : Option Nat := match e with | .inl (_, _, .inr (.inr (.inr (.inr f)))) => f k | .inl _ => none | .inr (_, fs) => ex_r fs[k]?
def ex_eL (e : pm_E) : Nat := match e with | .inl (_, n, _) => n | .inr _ => 0
def ex_V (h : pm_H) : ex_S := (fun a => ex_eX (h.2.2 a), fun a => ex_eY (h.2.2 a), fun a => ex_eZ (h.2.2 a), fun a => ex_eL (h.2.2 a), h.1)
def ex_sx (S : ex_S) (a k : Nat) (v : Int32) : ex_S := (fun b j => if b = a ∧ j = k then v else S.1 b j, S.2)
def ex_sy (S : ex_S) (a k : Nat) (v : Int64) : ex_S := (S.1, fun b j => if b = a ∧ j = k then v else S.2.1 b j, S.2.2)
def ex_sz (S : ex_S) (a k : Nat) (v : Option Nat) : ex_S := (S.1, S.2.1, fun b j => if b = a ∧ j = k then v else S.2.2.1 b j, S.2.2.2)
/-- n numbers of cell a from sp on come into cell b from dp on -/
def ex_cp (S : ex_S) (a sp b dp n : Nat) : ex_S := (fun c j => if c = b ∧ dp ≤ j ∧ j < dp + n then S.1 a (sp + (j - dp)) else S.1 c j, S.2)
/-- a new cell: all its numbers 0, no references -/
def ex_new (S : ex_S) (n : Nat) : ex_S := (fun b j => if b = S.2.2.2.2 then 0 else S.1 b j, fun b j => if b = S.2.2.2.2 then 0 else S.2.1 b j, fun b j => if b = S.2.2.2.2 then none else S.2.2.1 b j, fun b => if b = S.2.2.2.2 then n else S.2.2.2.1 b, S.2.2.2.2 + 1)
theorem ex_set_at (h : pm_H) (a b : Nat) (e : pm_E) : (pm_set h a e).2.2 b = if b = a then e else h.2.2 b := rfl
theorem ex_V_set {h : pm_H} {a : Nat} {e : pm_E} {S : ex_S} (hX : ∀ b j, S.1 b j = if b = a then ex_eX e j else ex_eX (h.2.2 b) j) (hY : ∀ b j, S.2.1 b j = if b = a then ex_eY e j else ex_eY (h.2.2 b) j) (hZ : ∀ b j, S.2.2.1 b j = if b = a then ex_eZ e j else ex_eZ (h.2.2 b) j) (hL : ∀ b, S.2.2.2.1 b = if b = a then ex_eL e else ex_eL (h.2.2 b)) (ht : S.2.2.2.2 = h.1) : ex_V (pm_set h a e) = S := by
  refine Prod.ext ?_ (Prod.ext ?_ (Prod.ext ?_ (Prod.ext ?_ ht.symm)))
  · funext b j
    show ex_eX ((pm_set h a e).2.2 b) j = S.1 b j
    rw [hX, ex_set_at]; split <;> rfl
  · funext b j
    show ex_eY ((pm_set h a e).2.2 b) j = S.2.1 b j
    rw [hY, ex_set_at]; split <;> rfl
  · funext b j
    show ex_eZ ((pm_set h a e).2.2 b) j = S.2.2.1 b j
    rw [hZ, ex_set_at]; split <;> rfl
  · funext b
    show ex_eL ((pm_set h a e).2.2 b) = S.2.2.2.1 b
    rw [hL, ex_set_at]; split <;> rfl
theorem ex_V_sx {h : pm_H} {a k : Nat} {e : pm_E} {v : Int32} (hX : ∀ j, ex_eX e j = if j = k then v else ex_eX (h.2.2 a) j) (hY : ∀ j, ex_eY e j = ex_eY (h.2.2 a) j) (hZ : ∀ j, ex_eZ e j = ex_eZ (h.2.2 a) j) (hL : ex_eL e = ex_eL (h.2.2 a)) : ex_V (pm_set h a e) = ex_sx (ex_V h) a k v := by
  refine ex_V_set (fun b j => ?_) (fun b j => ?_) (fun b j => ?_) (fun b => ?_) rfl
  · show (if b = a ∧ j = k then v else ex_eX (h.2.2 b) j) = _
    by_cases hb : b = a
    · subst hb; rw [if_pos rfl, hX]; by_cases hj : j = k
      · rw [if_pos ⟨rfl, hj⟩, if_pos hj]
      · rw [if_neg (fun z => hj z.2), if_neg hj]
    · rw [if_neg hb, if_neg (fun z => hb z.1)]
  · show ex_eY (h.2.2 b) j = _
    by_cases hb : b = a
    · subst hb; rw [if_pos rfl, hY]
    · rw [if_neg hb]
  · show ex_eZ (h.2.2 b) j = _
    by_cases hb : b = a
    · subst hb; rw [if_pos rfl, hZ]
    · rw [if_neg hb]
  · show ex_eL (h.2.2 b) = _
    by_cases hb : b = a
    · subst hb; rw [if_pos rfl, hL]
    · rw [if_neg hb]
theorem ex_V_sy {h : pm_H} {a k : Nat} {e : pm_E} {v : Int64} (hX : ∀ j, ex_eX e j = ex_eX (h.2.2 a) j) (hY : ∀ j, ex_eY e j = if j = k then v else ex_eY (h.2.2 a) j) (hZ : ∀ j, ex_eZ e j = ex_eZ (h.2.2 a) j) (hL : ex_eL e = ex_eL (h.2.2 a)) : ex_V (pm_set h a e) = ex_sy (ex_V h) a k v := by
  refine ex_V_set (fun b j => ?_) (fun b j => ?_) (fun b j => ?_) (fun b => ?_) rfl
  · show ex_eX (h.2.2 b) j = _
    by_cases hb : b = a
    · subst hb; rw [if_pos rfl, hX]
    · rw [if_neg hb]
  · show (if b = a ∧ j = k then v else ex_eY (h.2.2 b) j) = _
    by_cases hb : b = a
    · subst hb; rw [if_pos rfl, hY]; by_cases hj : j = k
      · rw [if_pos ⟨rfl, hj⟩, if_pos hj]
      · rw [if_neg (fun z => hj z.2), if_neg hj]
    · rw [if_neg hb, if_neg (fun z => hb z.1)]
  · show ex_eZ (h.2.2 b) j = _
    by_cases hb : b = a
    · subst hb; rw [if_pos rfl, hZ]
    · rw [if_neg hb]
  · show ex_eL (h.2.2 b) = _
    by_cases hb : b = a
    · subst hb; rw [if_pos rfl, hL]
    · rw [if_neg hb]
theorem ex_V_sz {h : pm_H} {a k : Nat} {e : pm_E} {v : Option Nat} (hX : ∀ j, ex_eX e j = ex_eX (h.2.2 a) j) (hY : ∀ j, ex_eY e j = ex_eY (h.2.2 a) j) (hZ : ∀ j, ex_eZ e j = if j = k then v else ex_eZ (h.2.2 a) j) (hL : ex_eL e = ex_eL (h.2.2 a)) : ex_V (pm_set h a e) = ex_sz (ex_V h) a k v := by
  refine ex_V_set (fun b j => ?_) (fun b j => ?_) (fun b j => ?_) (fun b => ?_) rfl
  · show ex_eX (h.2.2 b) j = _
    by_cases hb : b = a
    · subst hb; rw [if_pos rfl, hX]
    · rw [if_neg hb]
  · show ex_eY (h.2.2 b) j = _
    by_cases hb : b = a
    · subst hb; rw [if_pos rfl, hY]
    · rw [if_neg hb]
  · show (if b = a ∧ j = k then v else ex_eZ (h.2.2 b) j) = _
    by_cases hb : b = a
    · subst hb; rw [if_pos rfl, hZ]; by_cases hj : j = k
      · rw [if_pos ⟨rfl, hj⟩, if_pos hj]
      · rw [if_neg (fun z => hj z.2), if_neg hj]
    · rw [if_neg hb, if_neg (fun z => hb z.1)]
  · show ex_eL (h.2.2 b) = _
    by_cases hb : b = a
    · subst hb; rw [if_pos rfl, hL]
    · rw [if_neg hb]
theorem ex_V_push {h : pm_H} {e : pm_E} {s n : Nat} (hX : ∀ j, ex_eX e j = 0) (hY : ∀ j, ex_eY e j = 0) (hZ : ∀ j, ex_eZ e j = none) (hL : ex_eL e = n) : ex_V (pm_push h e s) = ex_new (ex_V h) n := by
  have q : ∀ b, (pm_push h e s).2.2 b = if b = h.1 then e else h.2.2 b := fun _ => rfl
  refine Prod.ext ?_ (Prod.ext ?_ (Prod.ext ?_ (Prod.ext ?_ rfl)))
  · funext b j
    show ex_eX ((pm_push h e s).2.2 b) j = if b = h.1 then 0 else ex_eX (h.2.2 b) j
    rw [q]; by_cases hb : b = h.1
    · rw [if_pos hb, if_pos hb, hX]
    · rw [if_neg hb, if_neg hb]
  · funext b j
    show ex_eY ((pm_push h e s).2.2 b) j = if b = h.1 then 0 else ex_eY (h.2.2 b) j
    rw [q]; by_cases hb : b = h.1
    · rw [if_pos hb, if_pos hb, hY]
    · rw [if_neg hb, if_neg hb]
  · funext b j
    show ex_eZ ((pm_push h e s).2.2 b) j = if b = h.1 then none else ex_eZ (h.2.2 b) j
    rw [q]; by_cases hb : b = h.1
    · rw [if_pos hb, if_pos hb, hZ]
    · rw [if_neg hb, if_neg hb]
  · funext b
    show ex_eL ((pm_push h e s).2.2 b) = if b = h.1 then n else ex_eL (h.2.2 b)
    rw [q]; by_cases hb : b = h.1
    · rw [if_pos hb, if_pos hb, hL]
    · rw [if_neg hb, if_neg hb]
/-- the sorts of fields: 0 a number, 1 a long, 2 a reference -/
def ex_kd (ty : FieldType) : Nat := match ty with | .int => 0 | .boolean => 0 | .long => 1 | .object _ => 2 | .array _ => 2 | _ => 3
def ex_kv (k : Nat) (v : Value) : Prop := match k with | 0 => ∃ x, v = .int x | 1 => ∃ x, v = .long x | 2 => ∃ o, v = va_rf o | _ => True
def ex_fts : List (List Nat) := [[0, 2], [0, 0, 2, 2, 2], [2], [2, 2, 2, 2, 2, 0, 0, 0, 0], [0, 2, 0, 2, 2, 2, 2, 0], [0, 2], [2, 0, 0, 2, 0, 2, 0, 2, 0, 0, 2], [2, 0, 0, 0, 0, 0], [2, 0, 0, 0, 2, 2, 2, 2, 2], [2, 2, 0, 0, 2, 2, 2], [2, 2, 2], [2, 2, 2, 2, 2, 2, 2, 2, 2, 2], [0, 2, 2, 2, 2, 2, 2, 2, 2, 2, 0, 0, 0, 0, 0, 1, 0, 0, 0, 2, 2, 0, 0, 0, 0, 2, 0, 0, 2, 2, 2, 0, 2, 2, 2, 2, 2, 2, 2, 2, 2, 2, 0, 0, 0, 2, 2, 0, 2, 0, 0, 2, 2]]
def ex_ft (ci k : Nat) : Nat := (ex_fts.getD ci []).getD k 3
theorem ex_fits {ty : FieldType} {v : Value} (h : pm_fits ty v = true) : ex_kv (ex_kd ty) v := by
  unfold pm_fits at h
  split at h
  · exact ⟨_, rfl⟩
  · exact ⟨_, rfl⟩
  · exact ⟨_, rfl⟩
  · exact ⟨none, rfl⟩
  · exact ⟨some _, rfl⟩
  · exact ⟨none, rfl⟩
  · exact ⟨some _, rfl⟩
  · cases h
set_option maxRecDepth 100000 in
theorem ex_ft_all : (List.range 13).all (fun ci => (List.range 53).all (fun k => match pm_cl[ci]? with | some q => decide (q.2.2 ≤ k) || decide (ex_ft ci k = ex_kd (pm_ty q.2.1 k)) | none => true)) = true := by decide +kernel
theorem ex_ft_out {ci k : Nat} (h : ∀ q : vw_C, pm_cl[ci]? = some q → q.2.2 ≤ k) (hc : ci < 13) : ex_ft ci k = 3 := by
  have e : ∀ ci, ci < 13 → ∃ q : vw_C, pm_cl[ci]? = some q ∧ (ex_fts.getD ci []).length = q.2.2 := fun ci hc => by
    match ci, hc with
    | 0, _ => exact ⟨_, rfl, rfl⟩
    | 1, _ => exact ⟨_, rfl, rfl⟩
    | 2, _ => exact ⟨_, rfl, rfl⟩
    | 3, _ => exact ⟨_, rfl, rfl⟩
    | 4, _ => exact ⟨_, rfl, rfl⟩
    | 5, _ => exact ⟨_, rfl, rfl⟩
    | 6, _ => exact ⟨_, rfl, rfl⟩
    | 7, _ => exact ⟨_, rfl, rfl⟩
    | 8, _ => exact ⟨_, rfl, rfl⟩
    | 9, _ => exact ⟨_, rfl, rfl⟩
    | 10, _ => exact ⟨_, rfl, rfl⟩
    | 11, _ => exact ⟨_, rfl, rfl⟩
    | 12, _ => exact ⟨_, rfl, rfl⟩
    | n + 13, h => exact absurd h (by omega)
  obtain ⟨q, e1, e2⟩ := e ci hc
  have := h q e1
  unfold ex_ft
  rw [List.getD_eq_getElem?_getD, List.getElem?_eq_none (by omega)]; rfl
theorem ex_cl13 {ci : Nat} {q : vw_C} (h : pm_cl[ci]? = some q) : ci < 13 := by
  have := (List.getElem?_eq_some_iff.mp h).1
  exact this
theorem ex_fit {ci k : Nat} {q : vw_C} {v : Value} (hq : pm_cl[ci]? = some q) (h : pm_fits (pm_ty q.2.1 k) v = true) : ex_kv (ex_ft ci k) v := by
  have hc := ex_cl13 hq
  by_cases hk : q.2.2 ≤ k
  · rw [ex_ft_out (fun q' e => by rw [hq] at e; cases e; exact hk) hc]; trivial
  · have hk53 : k < 53 := by
      have : q.2.2 ≤ 53 := by
        match ci, hc, hq with
        | 0, _, hq => cases hq; decide
        | 1, _, hq => cases hq; decide
        | 2, _, hq => cases hq; decide
        | 3, _, hq => cases hq; decide
        | 4, _, hq => cases hq; decide
        | 5, _, hq => cases hq; decide
        | 6, _, hq => cases hq; decide
        | 7, _, hq => cases hq; decide
        | 8, _, hq => cases hq; decide
        | 9, _, hq => cases hq; decide
        | 10, _, hq => cases hq; decide
        | 11, _, hq => cases hq; decide
        | 12, _, hq => cases hq; decide
        | n + 13, h, _ => exact absurd h (by omega)
      omega
    have a1 := List.all_eq_true.mp ex_ft_all ci (List.mem_range.mpr hc)
    have a2 := List.all_eq_true.mp a1 k (List.mem_range.mpr hk53)
    rw [hq] at a2
    simp only [Bool.or_eq_true, decide_eq_true_eq] at a2
    rcases a2 with a2 | a2
    · exact absurd a2 hk
    · rw [a2]; exact ex_fits h
/-- the fields of all objects are of their sorts -/
def ex_W (h : pm_H) : Prop := ∀ a ci fs, h.2.2 a = .inr (ci, fs) → 16 ≤ a → a < h.1 → ∀ k v, fs[k]? = some v → ex_kv (ex_ft ci k) v
/-- fields that stay what they are: cell, class, field, the cell that it names -/
def ex_tab : List (Nat × Nat × Nat × Nat) := [(16, 11, 0, 17), (16, 11, 1, 24), (16, 11, 2, 25), (16, 11, 3, 31), (16, 11, 4, 33), (16, 11, 6, 37), (16, 11, 7, 38), (16, 11, 8, 39), (16, 11, 9, 40), (17, 8, 0, 18), (17, 8, 4, 19), (17, 8, 5, 20), (17, 8, 6, 21), (17, 8, 7, 22), (17, 8, 8, 23), (25, 6, 0, 30), (25, 6, 3, 26), (25, 6, 5, 27), (25, 6, 7, 28), (25, 6, 10, 29), (30, 7, 0, 18), (31, 2, 0, 32), (33, 9, 0, 34), (33, 9, 1, 35), (33, 9, 4, 36), (41, 12, 1, 42), (41, 12, 2, 43), (41, 12, 3, 44), (41, 12, 4, 45), (41, 12, 5, 46), (41, 12, 6, 47), (41, 12, 7, 48), (41, 12, 8, 49), (41, 12, 9, 50), (41, 12, 19, 51), (41, 12, 20, 52), (41, 12, 25, 53), (41, 12, 28, 54), (41, 12, 29, 55), (41, 12, 30, 56), (41, 12, 32, 57), (41, 12, 33, 58), (41, 12, 34, 59), (41, 12, 35, 60), (41, 12, 36, 61), (41, 12, 37, 62), (41, 12, 38, 63), (41, 12, 39, 64), (41, 12, 40, 65), (41, 12, 41, 66), (41, 12, 45, 67), (41, 12, 46, 68), (41, 12, 48, 69), (41, 12, 51, 70), (41, 12, 52, 71)]
/-- arrays of bytes (2) and of booleans (3) -/
def ex_bts : List (Nat × Nat) := [(18, 2), (42, 2), (71, 3)]
def ex_K (h : pm_H) : Prop := (∀ a, 1 ≤ a → a < 15 → h.2.2 a = pm_f0 false 0 (fun _ => 0) a) ∧ 72 ≤ h.1 ∧ (∀ x ∈ ex_tab, ∃ fs, h.2.2 x.1 = .inr (x.2.1, fs) ∧ fs[x.2.2.1]? = some (.ref x.2.2.2)) ∧ ∀ x ∈ ex_bts, ∃ n y, h.2.2 x.1 = .inl (x.2, n, y)
theorem ex_tab_lt : ∀ x ∈ ex_tab, 16 ≤ x.1 ∧ x.1 < 72 := by decide
theorem ex_bts_lt : ∀ x ∈ ex_bts, 16 ≤ x.1 ∧ x.1 < 72 := by decide
/-- how an instruction changes the heap -/
def ex_ch (ini : Bool) (c : Nat) (i : Instr) (h h' : pm_H) : Prop := h' = h ∨ (∃ a t n x y, 16 ≤ a ∧ h.2.2 a = .inl (t, n, x) ∧ h' = pm_set h a (.inl (t, n, y))) ∨ (∃ x k, h' = pm_push h (.inl x) k) ∨ (∃ ci q, pm_cl[ci]? = some q ∧ h' = pm_push h (.inr (ci, (List.range q.2.2).map (fun k => defaultValue (pm_ty q.2.1 k)))) q.2.2) ∨ (∃ ix a v, i = .putfield ix ∧ pm_pf ini c ix h a v = some h')
theorem ex_hb_ch {ini : Bool} {c : Nat} {i : Instr} {st : List Value} {h : pm_H} {z : List Value × pm_H} (hz : pm_hb ini c i st h = some z) : ex_ch ini c i h z.2 := by
  unfold pm_hb at hz
  split at hz
  · obtain ⟨v, _, e⟩ := Option.map_eq_some_iff.mp hz; subst e; exact Or.inl rfl
  · obtain ⟨h', e1, e⟩ := Option.map_eq_some_iff.mp hz; subst e; exact Or.inr (Or.inr (Or.inr (Or.inr ⟨_, _, _, rfl, e1⟩)))
  · obtain ⟨v, _, e⟩ := Option.map_eq_some_iff.mp hz; subst e; exact Or.inl rfl
  · obtain ⟨v, _, e⟩ := Option.map_eq_some_iff.mp hz; subst e; exact Or.inl rfl
  · obtain ⟨v, _, e⟩ := Option.map_eq_some_iff.mp hz; subst e; exact Or.inl rfl
  · obtain ⟨v, _, e⟩ := Option.map_eq_some_iff.mp hz; subst e; exact Or.inl rfl
  · split at hz
    · split at hz
      · cases hz; exact Or.inl rfl
      · cases hz
    · split at hz
      · cases hz; exact Or.inl rfl
      · cases hz
    · cases hz
  · split at hz
    · split at hz
      · cases hz; exact Or.inl rfl
      · cases hz
    · cases hz
  · split at hz
    · split at hz
      · cases hz; exact Or.inl rfl
      · cases hz
    · split at hz
      · cases hz; exact Or.inl rfl
      · cases hz
    · cases hz
  · split at hz
    · split at hz
      · cases hz; exact Or.inl rfl
      · cases hz
    · cases hz
  · split at hz
    · split at hz
      · cases hz; exact Or.inl rfl
      · cases hz
    · cases hz
  · split at hz
    · rename_i e
      split at hz
      · rename_i g; cases hz; exact Or.inr (Or.inl ⟨_, _, _, _, _, g.1, e, rfl⟩)
      · cases hz
    · cases hz
  · split at hz
    · rename_i e
      split at hz
      · rename_i g; cases hz; exact Or.inr (Or.inl ⟨_, _, _, _, _, g.1, e, rfl⟩)
      · cases hz
    · rename_i e
      split at hz
      · rename_i g; cases hz; exact Or.inr (Or.inl ⟨_, _, _, _, _, g.1, e, rfl⟩)
      · cases hz
    · cases hz
  · split at hz
    · rename_i e
      split at hz
      · rename_i g; cases hz; exact Or.inr (Or.inl ⟨_, _, _, _, _, g.1, e, rfl⟩)
      · cases hz
    · cases hz
  · split at hz
    · rename_i e
      split at hz
      · rename_i g
        split at hz
        · cases hz; exact Or.inr (Or.inl ⟨_, _, _, _, _, g.1, e, rfl⟩)
        · split at hz
          · split at hz
            · cases hz; exact Or.inr (Or.inl ⟨_, _, _, _, _, g.1, e, rfl⟩)
            · cases hz
          · cases hz
        · cases hz
      · cases hz
    · cases hz
  · obtain ⟨k, _, e⟩ := Option.bind_eq_some_iff.mp hz
    split at e
    · cases e; exact Or.inr (Or.inr (Or.inl ⟨_, _, rfl⟩))
    · cases e
  · obtain ⟨ci, _, e⟩ := Option.bind_eq_some_iff.mp hz
    obtain ⟨k, _, e⟩ := Option.bind_eq_some_iff.mp e
    split at e
    · cases e; exact Or.inr (Or.inr (Or.inl ⟨_, _, rfl⟩))
    · cases e
  · obtain ⟨ci, _, e⟩ := Option.bind_eq_some_iff.mp hz
    obtain ⟨q, e1, e⟩ := Option.map_eq_some_iff.mp e
    cases e; exact Or.inr (Or.inr (Or.inr (Or.inl ⟨_, _, e1, rfl⟩)))
  · obtain ⟨ci, _, e⟩ := Option.bind_eq_some_iff.mp hz
    split at e
    · split at e
      · cases e; exact Or.inl rfl
      · cases e
    · cases e
  · obtain ⟨ci, _, e⟩ := Option.bind_eq_some_iff.mp hz
    split at e
    · cases e; exact Or.inl rfl
    · cases e
  · obtain ⟨ci, _, e⟩ := Option.bind_eq_some_iff.mp hz
    split at e
    · split at e
      · cases e; exact Or.inr (Or.inr (Or.inl ⟨_, _, rfl⟩))
      · cases e
    · cases e
  · obtain ⟨ci, _, e⟩ := Option.bind_eq_some_iff.mp hz
    split at e
    · split at e
      · rename_i eb
        split at e
        · rename_i g; cases e; exact Or.inr (Or.inl ⟨_, _, _, _, _, g.2.2.1, eb, rfl⟩)
        · cases e
      · rename_i eb
        split at e
        · rename_i g; cases e; exact Or.inr (Or.inl ⟨_, _, _, _, _, g.2.2.1, eb, rfl⟩)
        · cases e
      · cases e
    · split at e
      · cases e; exact Or.inl rfl
      · cases e
    · split at e
      · cases e; exact Or.inl rfl
      · cases e
    · split at e
      · cases e; exact Or.inl rfl
      · cases e
    · cases e
  · cases hz
theorem ex_pf {ini : Bool} {c ix a : Nat} {v : Value} {h h' : pm_H} (hz : pm_pf ini c ix h a v = some h') : ∃ ci k nb fs q, pm_at pm_FL c ix = some (ci, k, nb) ∧ pm_cl[ci]? = some q ∧ h.2.2 a = .inr (ci, fs) ∧ 16 ≤ a ∧ a < h.1 ∧ k < fs.length ∧ pm_fits (pm_ty q.2.1 k) v = true ∧ h' = pm_set h a (.inr (ci, fs.set k v)) := by
  unfold pm_pf at hz
  obtain ⟨⟨ci, k, nb⟩, e1, e⟩ := Option.bind_eq_some_iff.mp hz
  obtain ⟨q, e2, e⟩ := Option.bind_eq_some_iff.mp e
  split at e
  · rename_i ci' fs e3
    split at e
    · rename_i g
      obtain ⟨g1, g2, g3, g4, g5, _⟩ := g
      dsimp only at g3
      subst g3
      cases e
      exact ⟨_, _, _, _, _, e1, e2, e3, g1, g2, g4, g5, rfl⟩
    · cases e
  · cases e
theorem ex_dflt (ci : Nat) (q : vw_C) (hq : pm_cl[ci]? = some q) (k : Nat) (v : Value) (hv : ((List.range q.2.2).map (fun k => defaultValue (pm_ty q.2.1 k)))[k]? = some v) : ex_kv (ex_ft ci k) v := by
  rw [List.getElem?_map] at hv
  obtain ⟨k', e1, e2⟩ := Option.map_eq_some_iff.mp hv
  obtain ⟨h1, h2⟩ := List.getElem?_eq_some_iff.mp e1
  rw [List.getElem_range] at h2
  subst h2
  subst e2
  have hk : k < q.2.2 := by simpa using h1
  have hc := ex_cl13 hq
  have hk53 : k < 53 := by
    have : q.2.2 ≤ 53 := by
      match ci, hc, hq with
      | 0, _, hq => cases hq; decide
      | 1, _, hq => cases hq; decide
      | 2, _, hq => cases hq; decide
      | 3, _, hq => cases hq; decide
      | 4, _, hq => cases hq; decide
      | 5, _, hq => cases hq; decide
      | 6, _, hq => cases hq; decide
      | 7, _, hq => cases hq; decide
      | 8, _, hq => cases hq; decide
      | 9, _, hq => cases hq; decide
      | 10, _, hq => cases hq; decide
      | 11, _, hq => cases hq; decide
      | 12, _, hq => cases hq; decide
      | n + 13, h, _ => exact absurd h (by omega)
    omega
  have a1 := List.all_eq_true.mp ex_ft_all ci (List.mem_range.mpr hc)
  have a2 := List.all_eq_true.mp a1 k (List.mem_range.mpr hk53)
  rw [hq] at a2
  simp only [Bool.or_eq_true, decide_eq_true_eq] at a2
  rcases a2 with a2 | a2
  · exact absurd a2 (by omega)
  · rw [a2]
    generalize pm_ty q.2.1 k = ty
    cases ty <;> first | exact ⟨_, rfl⟩ | exact ⟨none, rfl⟩ | trivial
theorem ex_W_ch {ini : Bool} {c : Nat} {i : Instr} {h h' : pm_H} (hz : ex_ch ini c i h h') (W : ex_W h) : ex_W h' := by
  rcases hz with e | ⟨a, t0, n0, x, y, g1, g2, e⟩ | ⟨x, k, e⟩ | ⟨ci, q, g, e⟩ | ⟨ix, a, v, g, e⟩
  · rw [e]; exact W
  · subst e
    intro b ci fs hb b1 b2 k v hv
    rw [ex_set_at] at hb
    by_cases hba : b = a
    · rw [if_pos hba] at hb; cases hb
    · rw [if_neg hba] at hb; exact W b ci fs hb b1 b2 k v hv
  · subst e
    intro b ci fs hb b1 b2 k' v hv
    have q : (pm_push h (.inl x) k).2.2 b = if b = h.1 then .inl x else h.2.2 b := rfl
    rw [q] at hb
    by_cases hba : b = h.1
    · rw [if_pos hba] at hb; cases hb
    · rw [if_neg hba] at hb
      have b3 : b < h.1 + 1 := b2
      exact W b ci fs hb b1 (by omega) k' v hv
  · subst e
    intro b ci' fs hb b1 b2 k' v hv
    have q0 : ∀ e s, (pm_push h e s).2.2 b = if b = h.1 then e else h.2.2 b := fun _ _ => rfl
    rw [q0] at hb
    by_cases hba : b = h.1
    · rw [if_pos hba] at hb
      injection hb with hb
      injection hb with hb1 hb2
      subst hb1; subst hb2
      exact ex_dflt _ q g k' v hv
    · rw [if_neg hba] at hb
      have b3 : b < h.1 + 1 := b2
      exact W b ci' fs hb b1 (by omega) k' v hv
  · obtain ⟨ci, k, nb, fs, q, e1, e2, e3, e4, e5, e6, e7, e8⟩ := ex_pf e
    subst e8
    intro b ci' fs' hb b1 b2 k' v' hv
    rw [ex_set_at] at hb
    by_cases hba : b = a
    · rw [if_pos hba] at hb
      injection hb with hb
      injection hb with hb1 hb2
      subst hb1; subst hb2
      by_cases hk : k' = k
      · subst hk
        rw [List.getElem?_set_self e6] at hv
        cases hv
        exact ex_fit e2 e7
      · rw [List.getElem?_set_ne (fun z => hk z.symm)] at hv
        exact W a ci fs e3 e4 e5 k' v' hv
    · rw [if_neg hba] at hb; exact W b ci' fs' hb b1 b2 k' v' hv
/-- no field of the table is written by this instruction -/
def ex_free (c ix : Nat) : Bool := match pm_at pm_FL c ix with | some x => ex_tab.all (fun y => !(Nat.beq y.2.1 x.1 && Nat.beq y.2.2.1 x.2.1)) | none => true
theorem ex_K_ch {ini : Bool} {c : Nat} {i : Instr} {h h' : pm_H} (hz : ex_ch ini c i h h') (K : ex_K h) (hp : ∀ ix, i = .putfield ix → ex_free c ix = true) : ex_K h' := by
  obtain ⟨k1, k2, k3, k4⟩ := K
  rcases hz with e | ⟨a, t0, n0, x, y, g1, g2, e⟩ | ⟨x, k, e⟩ | ⟨ci, q, g, e⟩ | ⟨ix, a, v, g, e⟩
  · rw [e]; exact ⟨k1, k2, k3, k4⟩
  · subst e
    refine ⟨fun b b1 b2 => by rw [ex_set_at, if_neg (by omega)]; exact k1 b b1 b2, k2, fun t ht => ?_, fun t ht => ?_⟩
    · obtain ⟨fs, f1, f2⟩ := k3 t ht
      refine ⟨fs, ?_, f2⟩
      rw [ex_set_at]
      by_cases hb : t.1 = a
      · rw [hb] at f1; rw [g2] at f1; cases f1
      · rw [if_neg hb]; exact f1
    · obtain ⟨n, w, f1⟩ := k4 t ht
      rw [ex_set_at]
      by_cases hb : t.1 = a
      · rw [if_pos hb]
        rw [hb, g2] at f1
        injection f1 with f1
        injection f1 with f1 f2
        exact ⟨n0, y, by rw [f1]⟩
      · rw [if_neg hb]; exact ⟨n, w, f1⟩
  · subst e
    have q : ∀ b, (pm_push h (.inl x) k).2.2 b = if b = h.1 then .inl x else h.2.2 b := fun _ => rfl
    refine ⟨fun b b1 b2 => by rw [q, if_neg (by omega)]; exact k1 b b1 b2, Nat.le_succ_of_le k2, fun t ht => ?_, fun t ht => ?_⟩
    · obtain ⟨fs, f1, f2⟩ := k3 t ht
      have := ex_tab_lt t ht
      exact ⟨fs, by rw [q, if_neg (by omega)]; exact f1, f2⟩
    · obtain ⟨n, w, f1⟩ := k4 t ht
      have := ex_bts_lt t ht
      exact ⟨n, w, by rw [q, if_neg (by omega)]; exact f1⟩
  · subst e
    have q0 : ∀ e s b, (pm_push h e s).2.2 b = if b = h.1 then e else h.2.2 b := fun _ _ _ => rfl
    refine ⟨fun b b1 b2 => by rw [q0, if_neg (by omega)]; exact k1 b b1 b2, Nat.le_succ_of_le k2, fun t ht => ?_, fun t ht => ?_⟩
    · obtain ⟨fs, f1, f2⟩ := k3 t ht
      have := ex_tab_lt t ht
      exact ⟨fs, by rw [q0, if_neg (by omega)]; exact f1, f2⟩
    · obtain ⟨n, w, f1⟩ := k4 t ht
      have := ex_bts_lt t ht
      exact ⟨n, w, by rw [q0, if_neg (by omega)]; exact f1⟩
  · obtain ⟨ci, k, nb, fs, q, e1, e2, e3, e4, e5, e6, e7, e8⟩ := ex_pf e
    subst e8
    refine ⟨fun b b1 b2 => by rw [ex_set_at, if_neg (by omega)]; exact k1 b b1 b2, k2, fun t ht => ?_, fun t ht => ?_⟩
    · obtain ⟨fs', f1, f2⟩ := k3 t ht
      rw [ex_set_at]
      by_cases hb : t.1 = a
      · rw [if_pos hb]
        rw [hb, e3] at f1
        injection f1 with f1
        injection f1 with f3 f4
        subst f4
        have fr := hp ix g
        unfold ex_free at fr
        rw [e1] at fr
        have := List.all_eq_true.mp fr t ht
        refine ⟨_, by rw [f3], ?_⟩
        rw [List.getElem?_set_ne ?_]
        · exact f2
        · intro z
          rw [← f3, ← z] at this
          simp at this
      · rw [if_neg hb]; exact ⟨fs', f1, f2⟩
    · obtain ⟨n, w, f1⟩ := k4 t ht
      rw [ex_set_at]
      by_cases hb : t.1 = a
      · rw [hb, e3] at f1; cases f1
      · rw [if_neg hb]; exact ⟨n, w, f1⟩
