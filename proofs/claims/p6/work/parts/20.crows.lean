section PMC
variable {d mid pc pc' : Nat} {ls st : List Value} {h : pm_H} {Q : Option Value → pm_H → Prop} {q : pm_M} {l : List (Nat × Instr × Nat)} {L : Nat}
theorem pm_call_mk {c ix callee np kd : Nat} {i : Instr} {qc : pm_M} {ra rest : List Value} (hi : pm_ix i kd = some ix) (hC : pm_at pm_CL c ix = some (callee, np, kd)) (hq : pm_ms[callee]? = some qc) (hl : ra.length = (if kd = 2 ∨ kd = 5 then np else np + 1)) (hs : (rest.map fun v => v.category).sum ≤ 8) (hr : pm_rcv kd qc h ra.reverse = true) : pm_call c i (ra ++ rest) h = some (callee, ra.reverse, rest) := by
  have hcix : pm_cix i = some ix := by
    unfold pm_ix at hi
    split at hi <;> first | exact hi | cases hi
  unfold pm_call
  rw [hcix]
  show (pm_at pm_CL c ix).bind _ = _
  rw [hC]
  show (pm_ms[callee]?).bind _ = _
  rw [hq]
  show (if pm_ix i kd = some ix ∧ (if kd = 2 ∨ kd = 5 then np else np + 1) ≤ (ra ++ rest).length ∧ (((ra ++ rest).drop (if kd = 2 ∨ kd = 5 then np else np + 1)).map fun v => v.category).sum ≤ 8 ∧ pm_rcv kd qc h ((ra ++ rest).take (if kd = 2 ∨ kd = 5 then np else np + 1)).reverse = true then some (callee, ((ra ++ rest).take (if kd = 2 ∨ kd = 5 then np else np + 1)).reverse, (ra ++ rest).drop (if kd = 2 ∨ kd = 5 then np else np + 1)) else none) = _
  rw [← hl, List.take_left, List.drop_left]
  rw [if_pos ⟨hi, by rw [List.length_append]; omega, hs, hr⟩]
theorem pm_noret_call {ret : Option FieldType} {i : Instr} {st : List Value} {kd ix : Nat} (hi : pm_ix i kd = some ix) : pm_ret ret i st = none := by
  refine pm_noret ret (Or.inl ?_)
  unfold pm_ix at hi
  split at hi <;> first | (intro hh; cases hh; done) | cases hi
/-- a virtual call: the arguments lie on the stack, the last one first -/
theorem pm_R_cv (hM : pm_Mt mid q l) {ix callee np kd a ci : Nat} {fs ra rest ls' : List Value} {qc : pm_M} {lc : List (Nat × Instr × Nat)} (hf : pm_find l pc = some (.invokevirtual ix, L)) (hC : pm_at pm_CL q.2.2.2.2 ix = some (callee, np, kd)) (hk : kd = 0 ∨ kd = 3) (hMc : pm_Mt callee qc lc) (hrc : h.2.2 a = .inr (ci, fs)) (hcl : (pm_cl[ci]?).map (fun r => r.1) = some qc.1.cls) (h1 : 16 ≤ a) (h2 : a < h.1) (hst : st = (ra ++ [.ref a]) ++ rest) (hn : ra.length = np) (hs : (rest.map fun v => v.category).sum ≤ 8) (he : pm_ent qc.2.2.1 (.ref a :: ra.reverse) = some ls') (hp : pc + 3 = pc') (kk : pm_R d callee 0 ls' [] h (fun r h' => pm_R (d + 1) mid pc' ls (r.toList ++ rest) h' Q)) : pm_R (d + 1) mid pc ls st h Q := by
  subst hst
  have hi : pm_ix (.invokevirtual ix) kd = some ix := by rcases hk with rfl | rfl <;> rfl
  have hrev : (ra ++ [Value.ref a]).reverse = .ref a :: ra.reverse := by rw [List.reverse_append]; rfl
  have hr : pm_rcv kd qc h (ra ++ [Value.ref a]).reverse = true := by
    rw [hrev]
    have e : pm_rc qc h a = true := by
      unfold pm_rc
      rw [hrc]
      show (decide (16 ≤ a ∧ a < h.1) && decide ((pm_cl[ci]?).map (fun r => r.1) = some qc.1.cls)) = true
      rw [decide_eq_true ⟨h1, h2⟩, decide_eq_true hcl]
      rfl
    rcases hk with rfl | rfl <;> exact e
  have hc := pm_call_mk (ra := ra ++ [.ref a]) (rest := rest) hi hC hMc.1 (by rw [List.length_append, if_neg (by omega), hn]; rfl) hs hr
  rw [hrev] at hc
  exact pm_R_call hM hf (pm_noret_call hi) hc hMc he hp kk
theorem pm_R_ci (hM : pm_Mt mid q l) {ix callee np kd a : Nat} {ra rest ls' : List Value} {qc : pm_M} {lc : List (Nat × Instr × Nat)} (hf : pm_find l pc = some (.invokespecial ix, L)) (hC : pm_at pm_CL q.2.2.2.2 ix = some (callee, np, kd)) (hk : kd = 1 ∨ kd = 4) (hMc : pm_Mt callee qc lc) (hst : st = (ra ++ [.ref a]) ++ rest) (hn : ra.length = np) (hs : (rest.map fun v => v.category).sum ≤ 8) (he : pm_ent qc.2.2.1 (.ref a :: ra.reverse) = some ls') (hp : pc + 3 = pc') (kk : pm_R d callee 0 ls' [] h (fun r h' => pm_R (d + 1) mid pc' ls (r.toList ++ rest) h' Q)) : pm_R (d + 1) mid pc ls st h Q := by
  subst hst
  have hi : pm_ix (.invokespecial ix) kd = some ix := by rcases hk with rfl | rfl <;> rfl
  have hrev : (ra ++ [Value.ref a]).reverse = .ref a :: ra.reverse := by rw [List.reverse_append]; rfl
  have hr : pm_rcv kd qc h (ra ++ [Value.ref a]).reverse = true := by
    rw [hrev]
    rcases hk with rfl | rfl <;> rfl
  have hc := pm_call_mk (ra := ra ++ [.ref a]) (rest := rest) hi hC hMc.1 (by rw [List.length_append, if_neg (by omega), hn]; rfl) hs hr
  rw [hrev] at hc
  exact pm_R_call hM hf (pm_noret_call hi) hc hMc he hp kk
theorem pm_R_cs (hM : pm_Mt mid q l) {ix callee np kd : Nat} {ra rest ls' : List Value} {qc : pm_M} {lc : List (Nat × Instr × Nat)} (hf : pm_find l pc = some (.invokestatic ix, L)) (hC : pm_at pm_CL q.2.2.2.2 ix = some (callee, np, kd)) (hk : kd = 2 ∨ kd = 5) (hMc : pm_Mt callee qc lc) (hst : st = ra ++ rest) (hn : ra.length = np) (hs : (rest.map fun v => v.category).sum ≤ 8) (he : pm_ent qc.2.2.1 ra.reverse = some ls') (hp : pc + 3 = pc') (kk : pm_R d callee 0 ls' [] h (fun r h' => pm_R (d + 1) mid pc' ls (r.toList ++ rest) h' Q)) : pm_R (d + 1) mid pc ls st h Q := by
  subst hst
  have hi : pm_ix (.invokestatic ix) kd = some ix := by rcases hk with rfl | rfl <;> rfl
  have hr : pm_rcv kd qc h ra.reverse = true := by
    rcases hk with rfl | rfl <;> rfl
  have hc := pm_call_mk (ra := ra) (rest := rest) hi hC hMc.1 (by rw [if_pos hk, hn]) hs hr
  exact pm_R_call hM hf (pm_noret_call hi) hc hMc he hp kk
end PMC
