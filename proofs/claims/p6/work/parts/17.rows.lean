/-! RUNS OF THE PURE MACHINE: rows that a walk is made of -/
def pm_R (d mid pc : Nat) (ls st : List Value) (h : pm_H) (Q : Option Value → pm_H → Prop) : Prop := ∃ (n : Nat) (x : Option Value × pm_H), pm_run n d mid pc ls st h = some x ∧ Q x.1 x.2
def pm_Mt (mid : Nat) (q : pm_M) (l : List (Nat × Instr × Nat)) : Prop := pm_ms[mid]? = some q ∧ pm_is[mid]? = some l
theorem pm_run_more : ∀ (n d mid pc : Nat) (ls st : List Value) (h : pm_H) (x : Option Value × pm_H), pm_run n d mid pc ls st h = some x → pm_run (n + 1) d mid pc ls st h = some x
  | 0, _, _, _, _, _, _, _, hz => by cases hz
  | n + 1, d, mid, pc, ls, st, h, x, hz => by
    have ih := pm_run_more n
    unfold pm_run at hz ⊢
    split at hz
    · rename_i q i L hq hi
      try rw [hq, hi]
      try dsimp only
      split at hz
      · rename_i r hr
        try rw [hr]
        exact hz
      · rename_i hr
        try rw [hr]
        try dsimp only
        split at hz
        · rename_i callee args rest hc
          try rw [hc]
          try dsimp only
          split at hz
          · rename_i d' qc hqc
            try rw [hqc]
            try dsimp only
            split at hz
            · rename_i ls' hls
              try rw [hls]
              try dsimp only
              split at hz
              · rename_i r2 h2 hr2
                rw [ih _ _ _ _ _ _ _ hr2]
                exact ih _ _ _ _ _ _ _ hz
              · cases hz
            · cases hz
          · cases hz
        · rename_i hc
          try rw [hc]
          try dsimp only
          split at hz
          · rename_i pc' ls' st' h' hs
            try rw [hs]
            exact ih _ _ _ _ _ _ _ hz
          · cases hz
    · cases hz
theorem pm_run_le {n k d mid pc : Nat} {ls st : List Value} {h : pm_H} {x : Option Value × pm_H} (hk : n ≤ k) (hz : pm_run n d mid pc ls st h = some x) : pm_run k d mid pc ls st h = some x := by
  obtain ⟨j, rfl⟩ : ∃ j, k = n + j := ⟨k - n, by omega⟩
  clear hk
  induction j with
  | zero => exact hz
  | succ j ih => exact pm_run_more _ _ _ _ _ _ _ _ ih
theorem pm_R.mono {d mid pc : Nat} {ls st : List Value} {h : pm_H} {Q Q' : Option Value → pm_H → Prop} (hR : pm_R d mid pc ls st h Q) (hQ : ∀ r h', Q r h' → Q' r h') : pm_R d mid pc ls st h Q' := by
  obtain ⟨n, x, h1, h2⟩ := hR
  exact ⟨n, x, h1, hQ _ _ h2⟩
section PMW
variable {d mid pc pc' : Nat} {ls st : List Value} {h : pm_H} {Q : Option Value → pm_H → Prop} {q : pm_M} {l : List (Nat × Instr × Nat)} {i : Instr} {L : Nat}
theorem pm_Mt.code (hM : pm_Mt mid q l) (hf : pm_find l pc = some (i, L)) : pm_code mid pc = some (i, L) := by
  unfold pm_code
  rw [hM.2]
  exact hf
theorem pm_R_ret (hM : pm_Mt mid q l) (hf : pm_find l pc = some (i, L)) {r : Option Value} (hr : pm_ret q.2.2.2.1 i st = some r) (k : Q r h) : pm_R d mid pc ls st h Q := by
  refine ⟨1, (r, h), ?_, k⟩
  unfold pm_run
  rw [hM.1, hM.code hf]
  dsimp only
  rw [hr]
theorem pm_R_step (hM : pm_Mt mid q l) (hf : pm_find l pc = some (i, L)) (hr : pm_ret q.2.2.2.1 i st = none) (hc : pm_call q.2.2.2.2 i st h = none) {z : Nat × List Value × List Value × pm_H} (hs : pm_step (decide (q.1.name = "<init>")) q.2.2.2.2 i pc ls st h = some z) (k : pm_R d mid z.1 z.2.1 z.2.2.1 z.2.2.2 Q) : pm_R d mid pc ls st h Q := by
  obtain ⟨n, x, h1, h2⟩ := k
  refine ⟨n + 1, x, ?_, h2⟩
  unfold pm_run
  rw [hM.1, hM.code hf]
  dsimp only
  rw [hr]
  dsimp only
  rw [hc]
  dsimp only
  rw [hs]
  exact h1
theorem pm_R_call (hM : pm_Mt mid q l) (hf : pm_find l pc = some (i, L)) {callee : Nat} {qc : pm_M} {lc : List (Nat × Instr × Nat)} {args rest ls' : List Value} (hr : pm_ret q.2.2.2.1 i st = none) (hc : pm_call q.2.2.2.2 i st h = some (callee, args, rest)) (hMc : pm_Mt callee qc lc) (he : pm_ent qc.2.2.1 args = some ls') (hp : pc + 3 = pc') (k : pm_R d callee 0 ls' [] h (fun r h' => pm_R (d + 1) mid pc' ls (r.toList ++ rest) h' Q)) : pm_R (d + 1) mid pc ls st h Q := by
  subst hp
  obtain ⟨n, x, h1, n2, x2, h3, h4⟩ := k
  refine ⟨n + n2 + 1, x2, ?_, h4⟩
  unfold pm_run
  rw [hM.1, hM.code hf]
  dsimp only
  rw [hr]
  dsimp only
  rw [hc]
  dsimp only
  rw [hMc.1]
  dsimp only
  rw [he]
  dsimp only
  rw [pm_run_le (by omega) h1]
  exact pm_run_le (by omega) h3
theorem pm_noret (ret : Option FieldType) {i : Instr} {st : List Value} (h : pm_len i ≠ 1 ∨ (pm_op i st).isSome = true ∨ (∃ ls, (pm_lo i ls st).isSome = true) ∨ (∃ pc, (pm_br i pc st).isSome = true) ∨ (∃ a b c, (pm_hb a b i st c).isSome = true)) : pm_ret ret i st = none := by
  cases hz : pm_ret ret i st with
  | none => rfl
  | some r =>
    exfalso
    unfold pm_ret at hz
    split at hz <;> first | (cases hz; done) | (rcases h with h | h | ⟨_, h⟩ | ⟨_, h⟩ | ⟨_, _, _, h⟩ <;> first | exact h rfl | (cases h; done))
theorem pm_nocall (c : Nat) {i : Instr} {st : List Value} {h : pm_H} (hh : (pm_op i st).isSome = true ∨ (∃ ls, (pm_lo i ls st).isSome = true) ∨ (∃ pc, (pm_br i pc st).isSome = true)) : pm_call c i st h = none := by
  cases hz : pm_call c i st h with
  | none => rfl
  | some r =>
    exfalso
    obtain ⟨ix, y, q, -, -, h3, -⟩ := pm_call_spec hz
    unfold pm_ix at h3
    split at h3 <;> first | (cases h3; done) | (rcases hh with hh | ⟨_, hh⟩ | ⟨_, hh⟩ <;> cases hh)
theorem pm_R_op (hM : pm_Mt mid q l) (hf : pm_find l pc = some (i, L)) {st' : List Value} (ho : pm_op i st = some st') (hp : pc + pm_len i = pc') (k : pm_R d mid pc' ls st' h Q) : pm_R d mid pc ls st h Q := by
  subst hp
  refine pm_R_step hM hf (pm_noret _ (Or.inr (Or.inl (by rw [ho]; rfl)))) (pm_nocall _ (Or.inl (by rw [ho]; rfl))) (z := (pc + pm_len i, ls, st', h)) ?_ k
  unfold pm_step
  rw [ho]
theorem pm_op_lo {i : Instr} {ls st : List Value} {z : List Value × List Value} (h : pm_lo i ls st = some z) : pm_op i st = none := by
  unfold pm_lo at h
  split at h <;> first | rfl | cases h
theorem pm_R_lo (hM : pm_Mt mid q l) (hf : pm_find l pc = some (i, L)) {ls' st' : List Value} (ho : pm_lo i ls st = some (ls', st')) (hp : pc + pm_len i = pc') (k : pm_R d mid pc' ls' st' h Q) : pm_R d mid pc ls st h Q := by
  subst hp
  refine pm_R_step hM hf (pm_noret _ (Or.inr (Or.inr (Or.inl ⟨ls, by rw [ho]; rfl⟩)))) (pm_nocall _ (Or.inr (Or.inl ⟨ls, by rw [ho]; rfl⟩))) (z := (pc + pm_len i, ls', st', h)) ?_ k
  unfold pm_step
  rw [pm_op_lo ho, ho]
theorem pm_op_br {i : Instr} {pc : Nat} {st : List Value} {z : Nat × List Value} (h : pm_br i pc st = some z) : pm_op i st = none ∧ ∀ ls, pm_lo i ls st = none := by
  unfold pm_br at h
  split at h <;> first | exact ⟨rfl, fun _ => rfl⟩ | cases h
theorem pm_R_br (hM : pm_Mt mid q l) (hf : pm_find l pc = some (i, L)) {st' : List Value} (ho : pm_br i pc st = some (pc', st')) (k : pm_R d mid pc' ls st' h Q) : pm_R d mid pc ls st h Q := by
  refine pm_R_step hM hf (pm_noret _ (Or.inr (Or.inr (Or.inr (Or.inl ⟨pc, by rw [ho]; rfl⟩))))) (pm_nocall _ (Or.inr (Or.inr ⟨pc, by rw [ho]; rfl⟩))) (z := (pc', ls, st', h)) ?_ k
  unfold pm_step
  rw [(pm_op_br ho).1, (pm_op_br ho).2, ho]
/-- a branch on ints, both ways -/
theorem pm_R_icmp (hM : pm_Mt mid q l) {c : Jvm.ClassFile.Cond} {off : Int} {x y : Int32} {t : Nat} (hf : pm_find l pc = some (.if_icmp c off, L)) (ht : pm_to pc off = some t) (hp : pc + 3 = pc') (kt : pm_cnd c x y → pm_R d mid t ls st h Q) (kf : ¬ pm_cnd c x y → pm_R d mid pc' ls st h Q) : pm_R d mid pc ls (.int y :: .int x :: st) h Q := by
  subst hp
  have e : pm_br (.if_icmp c off) pc (.int y :: .int x :: st) = some (@ite Nat (pm_cnd c x y) (pm_cndD c x y) t (pc + 3), st) := by
    show pm_if _ _ _ _ _ = _
    unfold pm_if
    rw [ht]
    rfl
  refine pm_R_br hM hf e ?_
  by_cases hc : pm_cnd c x y
  · rw [if_pos hc]; exact kt hc
  · rw [if_neg hc]; exact kf hc
theorem pm_R_ifc (hM : pm_Mt mid q l) {c : Jvm.ClassFile.Cond} {off : Int} {x : Int32} {t : Nat} (hf : pm_find l pc = some (.ifCond c off, L)) (ht : pm_to pc off = some t) (hp : pc + 3 = pc') (kt : pm_cnd c x 0 → pm_R d mid t ls st h Q) (kf : ¬ pm_cnd c x 0 → pm_R d mid pc' ls st h Q) : pm_R d mid pc ls (.int x :: st) h Q := by
  subst hp
  have e : pm_br (.ifCond c off) pc (.int x :: st) = some (@ite Nat (pm_cnd c x 0) (pm_cndD c x 0) t (pc + 3), st) := by
    show pm_if _ _ _ _ _ = _
    unfold pm_if
    rw [ht]
    rfl
  refine pm_R_br hM hf e ?_
  by_cases hc : pm_cnd c x 0
  · rw [if_pos hc]; exact kt hc
  · rw [if_neg hc]; exact kf hc
theorem pm_op_hb {a : Bool} {b : Nat} {i : Instr} {st : List Value} {h : pm_H} {z : List Value × pm_H} (hz : pm_hb a b i st h = some z) : pm_op i st = none ∧ (∀ ls, pm_lo i ls st = none) ∧ (∀ pc, pm_br i pc st = none) := by
  unfold pm_hb at hz
  split at hz <;> first | exact ⟨rfl, fun _ => rfl, fun _ => rfl⟩ | cases hz
theorem pm_R_hp0 (hM : pm_Mt mid q l) (hf : pm_find l pc = some (i, L)) {st' : List Value} {h' : pm_H} (hn : pm_call q.2.2.2.2 i st h = none) (ho : pm_hb (decide (q.1.name = "<init>")) q.2.2.2.2 i st h = some (st', h')) (hp : pc + pm_len i = pc') (k : pm_R d mid pc' ls st' h' Q) : pm_R d mid pc ls st h Q := by
  subst hp
  refine pm_R_step hM hf (pm_noret _ (Or.inr (Or.inr (Or.inr (Or.inr ⟨_, _, _, by rw [ho]; rfl⟩))))) hn (z := (pc + pm_len i, ls, st', h')) ?_ k
  unfold pm_step
  rw [(pm_op_hb ho).1, (pm_op_hb ho).2.1, (pm_op_hb ho).2.2, pm_hb_hp ho]
theorem pm_nocall2 {c : Nat} {i : Instr} {st : List Value} {h : pm_H} (hi : pm_cix i = none) : pm_call c i st h = none := by
  unfold pm_call
  rw [hi]
  rfl
/-- an instruction of the heap that is no call -/
theorem pm_R_hp (hM : pm_Mt mid q l) (hf : pm_find l pc = some (i, L)) (hi : pm_cix i = none) {st' : List Value} {h' : pm_H} (ho : pm_hb (decide (q.1.name = "<init>")) q.2.2.2.2 i st h = some (st', h')) (hp : pc + pm_len i = pc') (k : pm_R d mid pc' ls st' h' Q) : pm_R d mid pc ls st h Q := pm_R_hp0 hM hf (pm_nocall2 hi) ho hp k
theorem pm_nocall3 {c ix : Nat} {i : Instr} {st : List Value} {h : pm_H} (hi : pm_cix i = some ix) (hn : pm_at pm_CL c ix = none) : pm_call c i st h = none := by
  unfold pm_call
  rw [hi]
  show (pm_at pm_CL c ix).bind _ = none
  rw [hn]
  rfl
/-- a call of what is no method of the list: Object(), arraycopy, clone, Math -/
theorem pm_R_nat (hM : pm_Mt mid q l) (hf : pm_find l pc = some (i, L)) {ix : Nat} (hi : pm_cix i = some ix) (hn : pm_at pm_CL q.2.2.2.2 ix = none) {st' : List Value} {h' : pm_H} (ho : pm_hb (decide (q.1.name = "<init>")) q.2.2.2.2 i st h = some (st', h')) (hp : pc + pm_len i = pc') (k : pm_R d mid pc' ls st' h' Q) : pm_R d mid pc ls st h Q := pm_R_hp0 hM hf (pm_nocall3 hi hn) ho hp k
end PMW
