section
/-! RUNS OF THE PURE MACHINE: rows that a walk is made of -/
def pm_R (d mid pc : Nat) (ls st : List Value) (h : pm_H) (Q : Option Value → pm_H → Prop) : Prop := ∃ (n : Nat) (x : Option Value × pm_H), pm_run n d mid pc ls st h = some x ∧ Q x.1 x.2
def pm_Mt (mid : Nat) (q : pm_M) (l : List (Nat × Instr × Nat)) : Prop := pm_ms[mid]? = some q ∧ pm_is[mid]? = some l
theorem pm_run_more : ∀ (n d mid pc : Nat) (ls st : List Value) (h : pm_H) (x : Option Value × pm_H), pm_run n d mid pc ls st h = some x → pm_run (n + 1) d mid pc ls st h = some x
  | 0, _, _, _, _, _, _, _, hz => by cases hz
  | n + 1, d, mid, pc, ls, st, h, x, hz => by
    have ih := pm_run_more n
    unfold pm_run at hz ⊢
    split at hz
    · rename_i q i L hq hi
      try rw [hq, hi]
      try dsimp only
      split at hz
      · rename_i r hr
        try rw [hr]
        exact hz
      · rename_i hr
        try rw [hr]
        try dsimp only
        split at hz
        · rename_i callee args rest hc
          try rw [hc]
          try dsimp only
          split at hz
          · rename_i d' qc hqc
            try rw [hqc]
            try dsimp only
            split at hz
            · rename_i ls_q hls
              try rw [hls]
              try dsimp only
              split at hz
              · rename_i r2 h2 hr2
                rw [ih _ _ _ _ _ _ _ hr2]
                exact ih _ _ _ _ _ _ _ hz
              · cases hz
            · cases hz
          · cases hz
        · rename_i hc
          try rw [hc]
          try dsimp only
          split at hz
          · rename_i pc_q ls_q st_q h_q hs
            try rw [hs]
            exact ih _ _ _ _ _ _ _ hz
          · cases hz
    · cases hz
theorem pm_run_le {n k d mid pc : Nat} {ls st : List Value} {h : pm_H} {x : Option Value × pm_H} (hk : n ≤ k) (hz : pm_run n d mid pc ls st h = some x) : pm_run k d mid pc ls st h = some x := by
  obtain ⟨j, rfl⟩ : ∃ j, k = n + j := ⟨k - n, by omega⟩
  clear hk
  induction j with
  | zero => exact hz
  | succ j ih => exact pm_run_more _ _ _ _ _ _ _ _ ih
theorem pm_R.mono {d mid pc : Nat} {ls st : List Value} {h : pm_H} {Q Q' : Option Value → pm_H → Prop} (hR : pm_R d mid pc ls st h Q) (hQ : ∀ r h_q, Q r h_q → Q' r h_q) : pm_R d mid pc ls st h Q' := by
  obtain ⟨n, x, h1, h2⟩ := hR
  exact ⟨n, x, h1, hQ _ _ h2⟩
section PMW
variable {d mid pc pc_q : Nat} {ls st : List Value} {h : pm_H} {Q : Option Value → pm_H → Prop} {q : pm_M} {l : List (Nat × Instr × Nat)} {i : Instr} {L : Nat}
theorem pm_Mt.code (hM : pm_Mt mid q l) (hf : pm_find l pc = some (i, L)) : pm_code mid pc = some (i, L) := by
  unfold pm_code
  rw [hM.2]
  exact hf
theorem pm_R_ret (hM : pm_Mt mid q l) (hf : pm_find l pc = some (i, L)) {r : Option Value} (hr : pm_ret q.2.2.2.1 i st = some r) (k : Q r h) : pm_R d mid pc ls st h Q := by
  refine ⟨1, (r, h), ?_, k⟩
  unfold pm_run
  rw [hM.1, hM.code hf]
  dsimp only
  rw [hr]
theorem pm_R_step (hM : pm_Mt mid q l) (hf : pm_find l pc = some (i, L)) (hr : pm_ret q.2.2.2.1 i st = none) (hc : pm_call q.2.2.2.2 i st h = none) {z : Nat × List Value × List Value × pm_H} (hs : pm_step (decide (q.1.name = "<init>")) q.2.2.2.2 i pc ls st h = some z) (k : pm_R d mid z.1 z.2.1 z.2.2.1 z.2.2.2 Q) : pm_R d mid pc ls st h Q := by
  obtain ⟨n, x, h1, h2⟩ := k
  refine ⟨n + 1, x, ?_, h2⟩
  unfold pm_run
  rw [hM.1, hM.code hf]
  dsimp only
  rw [hr]
  dsimp only
  rw [hc]
  dsimp only
  rw [hs]
  exact h1
theorem pm_R_call (hM : pm_Mt mid q l) (hf : pm_find l pc = some (i, L)) {callee : Nat} {qc : pm_M} {lc : List (Nat × Instr × Nat)} {args rest ls_q : List Value} (hr : pm_ret q.2.2.2.1 i st = none) (hc : pm_call q.2.2.2.2 i st h = some (callee, args, rest)) (hMc : pm_Mt callee qc lc) (he : pm_ent qc.2.2.1 args = some ls_q) (hp : pc + 3 = pc_q) (k : pm_R d callee 0 ls_q [] h (fun r h_q => pm_R (d + 1) mid pc_q ls (r.toList ++ rest) h_q Q)) : pm_R (d + 1) mid pc ls st h Q := by
  subst hp
  obtain ⟨n, x, h1, n2, x2, h3, h4⟩ := k
  refine ⟨n + n2 + 1, x2, ?_, h4⟩
  unfold pm_run
  rw [hM.1, hM.code hf]
  dsimp only
  rw [hr]
  dsimp only
  rw [hc]
  dsimp only
  rw [hMc.1]
  dsimp only
  rw [he]
  dsimp only
  rw [pm_run_le (by omega) h1]
  exact pm_run_le (by omega) h3
theorem pm_noret (ret : Option FieldType) {i : Instr} {st : List Value} (h : pm_len i ≠ 1 ∨ (pm_op i st).isSome = true ∨ (∃ ls, (pm_lo i ls st).isSome = true) ∨ (∃ pc, (pm_br i pc st).isSome = true) ∨ (∃ a b c, (pm_hb a b i st c).isSome = true)) : pm_ret ret i st = none := by
  cases hz : pm_ret ret i st with
  | none => rfl
  | some r =>
    exfalso
    unfold pm_ret at hz
    split at hz <;> first | (cases hz; done) | (rcases h with h | h | ⟨_, h⟩ | ⟨_, h⟩ | ⟨_, _, _, h⟩ <;> first | exact h rfl | (cases h; done))
theorem pm_nocall (c : Nat) {i : Instr} {st : List Value} {h : pm_H} (hh : (pm_op i st).isSome = true ∨ (∃ ls, (pm_lo i ls st).isSome = true) ∨ (∃ pc, (pm_br i pc st).isSome = true)) : pm_call c i st h = none := by
  cases hz : pm_call c i st h with
  | none => rfl
  | some r =>
    exfalso
    obtain ⟨ix, y, q, -, -, h3, -⟩ := pm_call_spec hz
    unfold pm_ix at h3
    split at h3 <;> first | (cases h3; done) | (rcases hh with hh | ⟨_, hh⟩ | ⟨_, hh⟩ <;> cases hh)
theorem pm_R_op (hM : pm_Mt mid q l) (hf : pm_find l pc = some (i, L)) {st_q : List Value} (ho : pm_op i st = some st_q) (hp : pc + pm_len i = pc_q) (k : pm_R d mid pc_q ls st_q h Q) : pm_R d mid pc ls st h Q := by
  subst hp
  refine pm_R_step hM hf (pm_noret _ (Or.inr (Or.inl (by rw [ho]; rfl)))) (pm_nocall _ (Or.inl (by rw [ho]; rfl))) (z := (pc + pm_len i, ls, st_q, h)) ?_ k
  unfold pm_step
  rw [ho]
theorem pm_op_lo {i : Instr} {ls st : List Value} {z : List Value × List Value} (h : pm_lo i ls st = some z) : pm_op i st = none := by
  unfold pm_lo at h
  split at h <;> first | rfl | cases h
theorem pm_R_lo (hM : pm_Mt mid q l) (hf : pm_find l pc = some (i, L)) {ls_q st_q : List Value} (ho : pm_lo i ls st = some (ls_q, st_q)) (hp : pc + pm_len i = pc_q) (k : pm_R d mid pc_q ls_q st_q h Q) : pm_R d mid pc ls st h Q := by
  subst hp
  refine pm_R_step hM hf (pm_noret _ (Or.inr (Or.inr (Or.inl ⟨ls, by rw [ho]; rfl⟩)))) (pm_nocall _ (Or.inr (Or.inl ⟨ls, by rw [ho]; rfl⟩))) (z := (pc + pm_len i, ls_q, st_q, h)) ?_ k
  unfold pm_step
  rw [pm_op_lo ho, ho]
theorem pm_op_br {i : Instr} {pc : Nat} {st : List Value} {z : Nat × List Value} (h : pm_br i pc st = some z) : pm_op i st = none ∧ ∀ ls, pm_lo i ls st = none := by
  unfold pm_br at h
  split at h <;> first | exact ⟨rfl, fun _ => rfl⟩ | cases h
theorem pm_R_br (hM : pm_Mt mid q l) (hf : pm_find l pc = some (i, L)) {st_q : List Value} (ho : pm_br i pc st = some (pc_q, st_q)) (k : pm_R d mid pc_q ls st_q h Q) : pm_R d mid pc ls st h Q := by
  refine pm_R_step hM hf (pm_noret _ (Or.inr (Or.inr (Or.inr (Or.inl ⟨pc, by rw [ho]; rfl⟩))))) (pm_nocall _ (Or.inr (Or.inr ⟨pc, by rw [ho]; rfl⟩))) (z := (pc_q, ls, st_q, h)) ?_ k
  unfold pm_step
  rw [(pm_op_br ho).1, (pm_op_br ho).2, ho]
/-- a branch on ints, both ways -/
theorem pm_R_icmp (hM : pm_Mt mid q l) {c : Jvm.ClassFile.Cond} {off : Int} {x y : Int32} {t : Nat} (hf : pm_find l pc = some (.if_icmp c off, L)) (ht : pm_to pc off = some t) (hp : pc + 3 = pc_q) (kt : pm_cnd c x y → pm_R d mid t ls st h Q) (kf : ¬ pm_cnd c x y → pm_R d mid pc_q ls st h Q) : pm_R d mid pc ls (.int y :: .int x :: st) h Q := by
  subst hp
  have e : pm_br (.if_icmp c off) pc (.int y :: .int x :: st) = some (@ite Nat (pm_cnd c x y) (pm_cndD c x y) t (pc + 3), st) := by
    show pm_if _ _ _ _ _ = _
    unfold pm_if
    rw [ht]
    rfl
  refine pm_R_br hM hf e ?_
  by_cases hc : pm_cnd c x y
  · rw [if_pos hc]; exact kt hc
  · rw [if_neg hc]; exact kf hc
theorem pm_R_ifc (hM : pm_Mt mid q l) {c : Jvm.ClassFile.Cond} {off : Int} {x : Int32} {t : Nat} (hf : pm_find l pc = some (.ifCond c off, L)) (ht : pm_to pc off = some t) (hp : pc + 3 = pc_q) (kt : pm_cnd c x 0 → pm_R d mid t ls st h Q) (kf : ¬ pm_cnd c x 0 → pm_R d mid pc_q ls st h Q) : pm_R d mid pc ls (.int x :: st) h Q := by
  subst hp
  have e : pm_br (.ifCond c off) pc (.int x :: st) = some (@ite Nat (pm_cnd c x 0) (pm_cndD c x 0) t (pc + 3), st) := by
    show pm_if _ _ _ _ _ = _
    unfold pm_if
    rw [ht]
    rfl
  refine pm_R_br hM hf e ?_
  by_cases hc : pm_cnd c x 0
  · rw [if_pos hc]; exact kt hc
  · rw [if_neg hc]; exact kf hc
theorem pm_op_hb {a : Bool} {b : Nat} {i : Instr} {st : List Value} {h : pm_H} {z : List Value × pm_H} (hz : pm_hb a b i st h = some z) : pm_op i st = none ∧ (∀ ls, pm_lo i ls st = none) ∧ (∀ pc, pm_br i pc st = none) := by
  unfold pm_hb at hz
  split at hz <;> first | exact ⟨rfl, fun _ => rfl, fun _ => rfl⟩ | cases hz
theorem pm_R_hp0 (hM : pm_Mt mid q l) (hf : pm_find l pc = some (i, L)) {st_q : List Value} {h_q : pm_H} (hn : pm_call q.2.2.2.2 i st h = none) (ho : pm_hb (decide (q.1.name = "<init>")) q.2.2.2.2 i st h = some (st_q, h_q)) (hp : pc + pm_len i = pc_q) (k : pm_R d mid pc_q ls st_q h_q Q) : pm_R d mid pc ls st h Q := by
  subst hp
  refine pm_R_step hM hf (pm_noret _ (Or.inr (Or.inr (Or.inr (Or.inr ⟨_, _, _, by rw [ho]; rfl⟩))))) hn (z := (pc + pm_len i, ls, st_q, h_q)) ?_ k
  unfold pm_step
  rw [(pm_op_hb ho).1, (pm_op_hb ho).2.1, (pm_op_hb ho).2.2, pm_hb_hp ho]
theorem pm_nocall2 {c : Nat} {i : Instr} {st : List Value} {h : pm_H} (hi : pm_cix i = none) : pm_call c i st h = none := by
  unfold pm_call
  rw [hi]
  rfl
/-- an instruction of the heap that is no call -/
theorem pm_R_hp (hM : pm_Mt mid q l) (hf : pm_find l pc = some (i, L)) (hi : pm_cix i = none) {st_q : List Value} {h_q : pm_H} (ho : pm_hb (decide (q.1.name = "<init>")) q.2.2.2.2 i st h = some (st_q, h_q)) (hp : pc + pm_len i = pc_q) (k : pm_R d mid pc_q ls st_q h_q Q) : pm_R d mid pc ls st h Q := pm_R_hp0 hM hf (pm_nocall2 hi) ho hp k
theorem pm_nocall3 {c ix : Nat} {i : Instr} {st : List Value} {h : pm_H} (hi : pm_cix i = some ix) (hn : pm_at pm_CL c ix = none) : pm_call c i st h = none := by
  unfold pm_call
  rw [hi]
  show (pm_at pm_CL c ix).bind _ = none
  rw [hn]
  rfl
/-- a call of what is no method of the list: Object(), arraycopy, clone, Math -/
theorem pm_R_nat (hM : pm_Mt mid q l) (hf : pm_find l pc = some (i, L)) {ix : Nat} (hi : pm_cix i = some ix) (hn : pm_at pm_CL q.2.2.2.2 ix = none) {st_q : List Value} {h_q : pm_H} (ho : pm_hb (decide (q.1.name = "<init>")) q.2.2.2.2 i st h = some (st_q, h_q)) (hp : pc + pm_len i = pc_q) (k : pm_R d mid pc_q ls st_q h_q Q) : pm_R d mid pc ls st h Q := pm_R_hp0 hM hf (pm_nocall3 hi hn) ho hp k
end PMW
end
section
section PMV
variable {d mid pc pc_q : Nat} {ls st : List Value} {h : pm_H} {Q : Option Value → pm_H → Prop} {q : pm_M} {l : List (Nat × Instr × Nat)} {L : Nat}
theorem pm_R_get (hM : pm_Mt mid q l) {ix a ci k : Nat} {nb : Bool} {fs : List Value} {v : Value} (hf : pm_find l pc = some (.getfield ix, L)) (hF : pm_at pm_FL q.2.2.2.2 ix = some (ci, k, nb)) (hc : h.2.2 a = .inr (ci, fs)) (h1 : 16 ≤ a) (h2 : a < h.1) (hv : fs[k]? = some v) (hp : pc + 3 = pc_q) (kk : pm_R d mid pc_q ls (v :: st) h Q) : pm_R d mid pc ls (.ref a :: st) h Q := by
  refine pm_R_hp hM hf rfl (st_q := v :: st) (h_q := h) ?_ hp kk
  show (pm_gf _ ix h a).map (fun v => (v :: st, h)) = _
  have e : pm_gf q.2.2.2.2 ix h a = some v := by
    unfold pm_gf
    rw [hF]
    show (match h.2.2 a with | .inr (ci', fs) => if 16 ≤ a ∧ a < h.1 ∧ ci' = ci then fs[k]? else none | .inl _ => none) = _
    rw [hc]
    show (if 16 ≤ a ∧ a < h.1 ∧ ci = ci then fs[k]? else none) = _
    rw [if_pos ⟨h1, h2, rfl⟩, hv]
  rw [e]
  rfl
theorem pm_R_put (hM : pm_Mt mid q l) {ix a ci k : Nat} {nb : Bool} {fs fs_q : List Value} {v : Value} {qq : vw_C} (hf : pm_find l pc = some (.putfield ix, L)) (hF : pm_at pm_FL q.2.2.2.2 ix = some (ci, k, nb)) (hq : pm_cl[ci]? = some qq) (hc : h.2.2 a = .inr (ci, fs)) (h1 : 16 ≤ a) (h2 : a < h.1) (hk : k < fs.length) (hv : pm_fits (pm_ty qq.2.1 k) v = true) (hfin : (qq.2.1 k).2.2.2 = false ∨ (decide (q.1.name = "<init>") = true ∧ nb = false ∧ (qq.2.1 k).1 = pm_ow q.2.2.2.2)) (hs : fs.set k v = fs_q) (hp : pc + 3 = pc_q) (kk : pm_R d mid pc_q ls st (pm_set h a (.inr (ci, fs_q))) Q) : pm_R d mid pc ls (v :: .ref a :: st) h Q := by
  refine pm_R_hp hM hf rfl (st_q := st) (h_q := pm_set h a (.inr (ci, fs_q))) ?_ hp kk
  have e : pm_pf (decide (q.1.name = "<init>")) q.2.2.2.2 ix h a v = some (pm_set h a (.inr (ci, fs_q))) := by
    unfold pm_pf
    rw [hF]
    show (pm_cl[ci]?).bind _ = _
    rw [hq]
    show (match h.2.2 a with | .inr (ci', fs) => if 16 ≤ a ∧ a < h.1 ∧ ci' = ci ∧ k < fs.length ∧ pm_fits (pm_ty qq.2.1 k) v = true ∧ ((qq.2.1 k).2.2.2 = false ∨ (decide (q.1.name = "<init>") = true ∧ nb = false ∧ (qq.2.1 k).1 = pm_ow q.2.2.2.2)) then some (pm_set h a (.inr (ci', fs.set k v))) else none | .inl _ => none) = _
    rw [hc]
    show (if _ then _ else _) = _
    rw [if_pos ⟨h1, h2, rfl, hk, hv, hfin⟩, hs]
  show (pm_pf _ _ ix h a v).map (fun h => (st, h)) = _
  rw [e]
  rfl
theorem pm_R_stat (hM : pm_Mt mid q l) {ix : Nat} {x : Nat × Bool} (hf : pm_find l pc = some (.getstatic ix, L)) (hF : pm_at pm_SL q.2.2.2.2 ix = some x) (hp : pc + 3 = pc_q) (kk : pm_R d mid pc_q ls (.ref x.1 :: st) h Q) : pm_R d mid pc ls st h Q := by
  refine pm_R_hp hM hf rfl (st_q := .ref x.1 :: st) (h_q := h) ?_ hp kk
  show (pm_at pm_SL _ ix).map _ = _
  rw [hF]
  rfl
theorem pm_R_ldc (hM : pm_Mt mid q l) {ix : Nat} {x : Int32} (hf : pm_find l pc = some (.ldc ix, L)) (hF : pm_at pm_KL q.2.2.2.2 ix = some x) (hp : pc + 2 = pc_q) (kk : pm_R d mid pc_q ls (.int x :: st) h Q) : pm_R d mid pc ls st h Q := by
  refine pm_R_hp hM hf rfl (st_q := .int x :: st) (h_q := h) ?_ hp kk
  show (pm_at pm_KL _ ix).map _ = _
  rw [hF]
  rfl
theorem pm_R_ldcw (hM : pm_Mt mid q l) {ix : Nat} {x : Int32} (hf : pm_find l pc = some (.ldc_w ix, L)) (hF : pm_at pm_KL q.2.2.2.2 ix = some x) (hp : pc + 3 = pc_q) (kk : pm_R d mid pc_q ls (.int x :: st) h Q) : pm_R d mid pc ls st h Q := by
  refine pm_R_hp hM hf rfl (st_q := .int x :: st) (h_q := h) ?_ hp kk
  show (pm_at pm_KL _ ix).map _ = _
  rw [hF]
  rfl
theorem pm_R_ldc2 (hM : pm_Mt mid q l) {ix : Nat} {x : Int64} (hf : pm_find l pc = some (.ldc2_w ix, L)) (hF : pm_at pm_LL q.2.2.2.2 ix = some x) (hp : pc + 3 = pc_q) (kk : pm_R d mid pc_q ls (.long x :: st) h Q) : pm_R d mid pc ls st h Q := by
  refine pm_R_hp hM hf rfl (st_q := .long x :: st) (h_q := h) ?_ hp kk
  show (pm_at pm_LL _ ix).map _ = _
  rw [hF]
  rfl
theorem pm_R_alen (hM : pm_Mt mid q l) {a n t : Nat} {x : (Nat → Int32) ⊕ (Nat → Int64) ⊕ (Nat → UInt32) ⊕ (Nat → UInt64) ⊕ (Nat → Option Nat)} {v : Int32} (hf : pm_find l pc = some (.arraylength, L)) (hc : h.2.2 a = .inl (t, n, x)) (h1 : 16 ≤ a) (h2 : a < h.1) (ht : t < 10) (hv : Int32.ofNat n = v) (hp : pc + 1 = pc_q) (kk : pm_R d mid pc_q ls (.int v :: st) h Q) : pm_R d mid pc ls (.ref a :: st) h Q := by
  subst hv
  refine pm_R_hp hM hf rfl (st_q := .int (Int32.ofNat n) :: st) (h_q := h) ?_ hp kk
  unfold pm_hb
  dsimp only
  rw [hc]
  split
  · rename_i e
    injection e with e
    injection e with e1 e2
    injection e2 with e2 e3
    rw [if_pos h2, e2]
  · rename_i e
    injection e with e
    injection e with e1 e2
    subst e1
    subst e2
    rw [if_pos ⟨h1, h2, ht⟩]
  · rename_i e; cases e
theorem pm_R_alen0 (hM : pm_Mt mid q l) {a n : Nat} {f : Nat → Int32} {v : Int32} (hf : pm_find l pc = some (.arraylength, L)) (hc : h.2.2 a = .inl (0, n, .inl f)) (h2 : a < h.1) (hv : Int32.ofNat n = v) (hp : pc + 1 = pc_q) (kk : pm_R d mid pc_q ls (.int v :: st) h Q) : pm_R d mid pc ls (.ref a :: st) h Q := by
  subst hv
  refine pm_R_hp hM hf rfl (st_q := .int (Int32.ofNat n) :: st) (h_q := h) ?_ hp kk
  unfold pm_hb
  dsimp only
  rw [hc]
  show (if _ then _ else _) = _
  rw [if_pos h2]
theorem pm_R_iald (hM : pm_Mt mid q l) {a n : Nat} {f : Nat → Int32} {j v : Int32} (hf : pm_find l pc = some (.iaload, L)) (hc : h.2.2 a = .inl (0, n, .inl f)) (h2 : a < h.1) (hj : pm_in j n = true) (hv : f j.toNatClampNeg = v) (hp : pc + 1 = pc_q) (kk : pm_R d mid pc_q ls (.int v :: st) h Q) : pm_R d mid pc ls (.int j :: .ref a :: st) h Q := by
  subst hv
  refine pm_R_hp hM hf rfl (st_q := .int (f j.toNatClampNeg) :: st) (h_q := h) ?_ hp kk
  unfold pm_hb
  dsimp only
  rw [hc]
  show (if _ then _ else _) = _
  rw [if_pos ⟨h2, hj⟩]
theorem pm_R_bald (hM : pm_Mt mid q l) {a n t : Nat} {f : Nat → Int32} {j v : Int32} (hf : pm_find l pc = some (.baload, L)) (hc : h.2.2 a = .inl (t, n, .inl f)) (ht : t = 2 ∨ t = 3) (h1 : 16 ≤ a) (h2 : a < h.1) (hj : pm_in j n = true) (hv : f j.toNatClampNeg = v) (hp : pc + 1 = pc_q) (kk : pm_R d mid pc_q ls (.int v :: st) h Q) : pm_R d mid pc ls (.int j :: .ref a :: st) h Q := by
  subst hv
  refine pm_R_hp hM hf rfl (st_q := .int (f j.toNatClampNeg) :: st) (h_q := h) ?_ hp kk
  unfold pm_hb
  dsimp only
  rw [hc]
  rcases ht with rfl | rfl
  · show (if _ then _ else _) = _
    rw [if_pos ⟨h1, h2, hj⟩]
  · show (if _ then _ else _) = _
    rw [if_pos ⟨h1, h2, hj⟩]
theorem pm_R_lald (hM : pm_Mt mid q l) {a n : Nat} {f : Nat → Int64} {j : Int32} {v : Int64} (hf : pm_find l pc = some (.laload, L)) (hc : h.2.2 a = .inl (1, n, .inr (.inl f))) (h1 : 16 ≤ a) (h2 : a < h.1) (hj : pm_in j n = true) (hv : f j.toNatClampNeg = v) (hp : pc + 1 = pc_q) (kk : pm_R d mid pc_q ls (.long v :: st) h Q) : pm_R d mid pc ls (.int j :: .ref a :: st) h Q := by
  subst hv
  refine pm_R_hp hM hf rfl (st_q := .long (f j.toNatClampNeg) :: st) (h_q := h) ?_ hp kk
  unfold pm_hb
  dsimp only
  rw [hc]
  show (if _ then _ else _) = _
  rw [if_pos ⟨h1, h2, hj⟩]
theorem pm_R_aald (hM : pm_Mt mid q l) {a n t : Nat} {f : Nat → Option Nat} {j : Int32} {v : Value} (hf : pm_find l pc = some (.aaload, L)) (hc : h.2.2 a = .inl (t, n, .inr (.inr (.inr (.inr f))))) (ht1 : 4 ≤ t) (ht2 : t < 10) (h1 : 16 ≤ a) (h2 : a < h.1) (hj : pm_in j n = true) (hv : va_rf (f j.toNatClampNeg) = v) (hp : pc + 1 = pc_q) (kk : pm_R d mid pc_q ls (v :: st) h Q) : pm_R d mid pc ls (.int j :: .ref a :: st) h Q := by
  subst hv
  refine pm_R_hp hM hf rfl (st_q := va_rf (f j.toNatClampNeg) :: st) (h_q := h) ?_ hp kk
  unfold pm_hb
  dsimp only
  rw [hc]
  show (if _ then _ else _) = _
  rw [if_pos ⟨ht1, ht2, h1, h2, hj⟩]
theorem pm_R_iast (hM : pm_Mt mid q l) {a n : Nat} {f : Nat → Int32} {j x : Int32} (hf : pm_find l pc = some (.iastore, L)) (hc : h.2.2 a = .inl (0, n, .inl f)) (h1 : 16 ≤ a) (h2 : a < h.1) (hj : pm_in j n = true) (hp : pc + 1 = pc_q) (kk : pm_R d mid pc_q ls st (pm_set h a (.inl (0, n, .inl (upd f j.toNatClampNeg x)))) Q) : pm_R d mid pc ls (.int x :: .int j :: .ref a :: st) h Q := by
  refine pm_R_hp hM hf rfl (st_q := st) (h_q := _) ?_ hp kk
  unfold pm_hb
  dsimp only
  rw [hc]
  show (if _ then _ else _) = _
  rw [if_pos ⟨h1, h2, hj⟩]
theorem pm_R_bast (hM : pm_Mt mid q l) {a n : Nat} {f : Nat → Int32} {j x : Int32} (hf : pm_find l pc = some (.bastore, L)) (hc : h.2.2 a = .inl (2, n, .inl f)) (h1 : 16 ≤ a) (h2 : a < h.1) (hj : pm_in j n = true) (hp : pc + 1 = pc_q) (kk : pm_R d mid pc_q ls st (pm_set h a (.inl (2, n, .inl (upd f j.toNatClampNeg x.toInt8.toInt32)))) Q) : pm_R d mid pc ls (.int x :: .int j :: .ref a :: st) h Q := by
  refine pm_R_hp hM hf rfl (st_q := st) (h_q := _) ?_ hp kk
  unfold pm_hb
  dsimp only
  rw [hc]
  show (if _ then _ else _) = _
  rw [if_pos ⟨h1, h2, hj⟩]
theorem pm_R_zast (hM : pm_Mt mid q l) {a n : Nat} {f : Nat → Int32} {j x : Int32} (hf : pm_find l pc = some (.bastore, L)) (hc : h.2.2 a = .inl (3, n, .inl f)) (h1 : 16 ≤ a) (h2 : a < h.1) (hj : pm_in j n = true) (hp : pc + 1 = pc_q) (kk : pm_R d mid pc_q ls st (pm_set h a (.inl (3, n, .inl (upd f j.toNatClampNeg (x &&& 1))))) Q) : pm_R d mid pc ls (.int x :: .int j :: .ref a :: st) h Q := by
  refine pm_R_hp hM hf rfl (st_q := st) (h_q := _) ?_ hp kk
  unfold pm_hb
  dsimp only
  rw [hc]
  show (if _ then _ else _) = _
  rw [if_pos ⟨h1, h2, hj⟩]
theorem pm_R_last (hM : pm_Mt mid q l) {a n : Nat} {f : Nat → Int64} {j : Int32} {x : Int64} (hf : pm_find l pc = some (.lastore, L)) (hc : h.2.2 a = .inl (1, n, .inr (.inl f))) (h1 : 16 ≤ a) (h2 : a < h.1) (hj : pm_in j n = true) (hp : pc + 1 = pc_q) (kk : pm_R d mid pc_q ls st (pm_set h a (.inl (1, n, .inr (.inl (vp_updL f j.toNatClampNeg x))))) Q) : pm_R d mid pc ls (.long x :: .int j :: .ref a :: st) h Q := by
  refine pm_R_hp hM hf rfl (st_q := st) (h_q := _) ?_ hp kk
  unfold pm_hb
  dsimp only
  rw [hc]
  show (if _ then _ else _) = _
  rw [if_pos ⟨h1, h2, hj⟩]
theorem pm_R_aast (hM : pm_Mt mid q l) {a b n t ci : Nat} {fs : List Value} {f : Nat → Option Nat} {j : Int32} (hf : pm_find l pc = some (.aastore, L)) (hc : h.2.2 a = .inl (t, n, .inr (.inr (.inr (.inr f))))) (hb : h.2.2 b = .inr (ci, fs)) (ho : pm_oty ci = some t) (h1 : 16 ≤ a) (h2 : a < h.1) (hb1 : 16 ≤ b) (hb2 : b < h.1) (hj : pm_in j n = true) (hp : pc + 1 = pc_q) (kk : pm_R d mid pc_q ls st (pm_set h a (.inl (t, n, .inr (.inr (.inr (.inr (va_up f j.toNatClampNeg (some b)))))))) Q) : pm_R d mid pc ls (.ref b :: .int j :: .ref a :: st) h Q := by
  obtain ⟨t1, t2, -⟩ := pm_oty_spec ho
  refine pm_R_hp hM hf rfl (st_q := st) (h_q := _) ?_ hp kk
  unfold pm_hb
  dsimp only
  rw [hc]
  show (if _ then _ else _) = _
  rw [if_pos ⟨h1, h2, hj, t1, t2⟩, hb]
  dsimp only
  rw [if_pos ⟨hb1, hb2, ho⟩]
theorem pm_R_aastN (hM : pm_Mt mid q l) {a n t : Nat} {f : Nat → Option Nat} {j : Int32} (hf : pm_find l pc = some (.aastore, L)) (hc : h.2.2 a = .inl (t, n, .inr (.inr (.inr (.inr f))))) (t1 : 4 ≤ t) (t2 : t < 10) (h1 : 16 ≤ a) (h2 : a < h.1) (hj : pm_in j n = true) (hp : pc + 1 = pc_q) (kk : pm_R d mid pc_q ls st (pm_set h a (.inl (t, n, .inr (.inr (.inr (.inr (va_up f j.toNatClampNeg none))))))) Q) : pm_R d mid pc ls (.null :: .int j :: .ref a :: st) h Q := by
  refine pm_R_hp hM hf rfl (st_q := st) (h_q := _) ?_ hp kk
  unfold pm_hb
  dsimp only
  rw [hc]
  show (if _ then _ else _) = _
  rw [if_pos ⟨h1, h2, hj, t1, t2⟩]
theorem pm_R_newa (hM : pm_Mt mid q l) {at_ : ArrayType} {k N : Nat} {n : Int32} (hf : pm_find l pc = some (.newarray at_, L)) (hk : pm_aty at_ = some k) (hn : ¬ n < 0) (hN : n.toNatClampNeg = N) (hb : N ≤ 67108864) (hp : pc + 2 = pc_q) (kk : pm_R d mid pc_q ls (.ref h.1 :: st) (pm_push h (.inl (k, pm_newty k N)) N) Q) : pm_R d mid pc ls (.int n :: st) h Q := by
  subst hN
  refine pm_R_hp hM hf rfl (st_q := .ref h.1 :: st) (h_q := _) ?_ hp kk
  show (pm_aty at_).bind _ = _
  rw [hk]
  show (if _ then _ else _) = _
  rw [if_pos ⟨hn, hb⟩]
theorem pm_R_newq (hM : pm_Mt mid q l) {ix ci k N : Nat} {n : Int32} (hf : pm_find l pc = some (.anewarray ix, L)) (hF : pm_at pm_NL q.2.2.2.2 ix = some ci) (hk : pm_oty ci = some k) (hn : ¬ n < 0) (hN : n.toNatClampNeg = N) (hb : N ≤ 67108864) (hp : pc + 3 = pc_q) (kk : pm_R d mid pc_q ls (.ref h.1 :: st) (pm_push h (.inl (k, pm_newty k N)) N) Q) : pm_R d mid pc ls (.int n :: st) h Q := by
  subst hN
  refine pm_R_hp hM hf rfl (st_q := .ref h.1 :: st) (h_q := _) ?_ hp kk
  show (pm_at pm_NL _ ix).bind _ = _
  rw [hF]
  show (pm_oty ci).bind _ = _
  rw [hk]
  show (if _ then _ else _) = _
  rw [if_pos ⟨hn, hb⟩]
theorem pm_R_new (hM : pm_Mt mid q l) {ix ci : Nat} {qq : vw_C} {fs : List Value} (hf : pm_find l pc = some (.new ix, L)) (hF : pm_at pm_NL q.2.2.2.2 ix = some ci) (hk : pm_cl[ci]? = some qq) (hs : (List.range qq.2.2).map (fun k => defaultValue (pm_ty qq.2.1 k)) = fs) (hp : pc + 3 = pc_q) (kk : pm_R d mid pc_q ls (.ref h.1 :: st) (pm_push h (.inr (ci, fs)) qq.2.2) Q) : pm_R d mid pc ls st h Q := by
  subst hs
  refine pm_R_hp hM hf rfl (st_q := .ref h.1 :: st) (h_q := _) ?_ hp kk
  show (pm_at pm_NL _ ix).bind _ = _
  rw [hF]
  show (pm_cl[ci]?).map _ = _
  rw [hk]
  rfl
/-- Object() -/
theorem pm_R_obj (hM : pm_Mt mid q l) {ix a : Nat} (hf : pm_find l pc = some (.invokespecial ix, L)) (hn : pm_at pm_CL q.2.2.2.2 ix = none) (hX : pm_at pm_XL q.2.2.2.2 ix = some 0) (hs : (st.map fun v => v.category).sum ≤ 8) (hp : pc + 3 = pc_q) (kk : pm_R d mid pc_q ls st h Q) : pm_R d mid pc ls (.ref a :: st) h Q := by
  refine pm_R_nat hM hf rfl hn (st_q := st) (h_q := h) ?_ hp kk
  show (pm_at pm_XL _ ix).bind _ = _
  rw [hX]
  show (if _ then _ else _) = _
  rw [if_pos ⟨rfl, hs⟩]
end PMV
end
section
theorem pm_M0 : pm_Mt 0 pm_m0 pm_i0 := ⟨rfl, rfl⟩
theorem pm_M1 : pm_Mt 1 pm_m1 pm_i1 := ⟨rfl, rfl⟩
theorem pm_N1_ini : decide (pm_m1.1.name = "<init>") = true := by decide +kernel
theorem pm_M2 : pm_Mt 2 pm_m2 pm_i2 := ⟨rfl, rfl⟩
theorem pm_N2_ini : decide (pm_m2.1.name = "<init>") = true := by decide +kernel
theorem pm_M3 : pm_Mt 3 pm_m3 pm_i3 := ⟨rfl, rfl⟩
theorem pm_N3_ini : decide (pm_m3.1.name = "<init>") = true := by decide +kernel
theorem pm_M4 : pm_Mt 4 pm_m4 pm_i4 := ⟨rfl, rfl⟩
theorem pm_N4_ini : decide (pm_m4.1.name = "<init>") = true := by decide +kernel
theorem pm_M5 : pm_Mt 5 pm_m5 pm_i5 := ⟨rfl, rfl⟩
theorem pm_N5_ini : decide (pm_m5.1.name = "<init>") = true := by decide +kernel
theorem pm_M6 : pm_Mt 6 pm_m6 pm_i6 := ⟨rfl, rfl⟩
theorem pm_N6_ini : decide (pm_m6.1.name = "<init>") = true := by decide +kernel
theorem pm_M7 : pm_Mt 7 pm_m7 pm_i7 := ⟨rfl, rfl⟩
theorem pm_M8 : pm_Mt 8 pm_m8 pm_i8 := ⟨rfl, rfl⟩
theorem pm_M9 : pm_Mt 9 pm_m9 pm_i9 := ⟨rfl, rfl⟩
theorem pm_M10 : pm_Mt 10 pm_m10 pm_i10 := ⟨rfl, rfl⟩
theorem pm_M11 : pm_Mt 11 pm_m11 pm_i11 := ⟨rfl, rfl⟩
theorem pm_M12 : pm_Mt 12 pm_m12 pm_i12 := ⟨rfl, rfl⟩
theorem pm_M13 : pm_Mt 13 pm_m13 pm_i13 := ⟨rfl, rfl⟩
theorem pm_M14 : pm_Mt 14 pm_m14 pm_i14 := ⟨rfl, rfl⟩
theorem pm_M15 : pm_Mt 15 pm_m15 pm_i15 := ⟨rfl, rfl⟩
theorem pm_M16 : pm_Mt 16 pm_m16 pm_i16 := ⟨rfl, rfl⟩
theorem pm_M17 : pm_Mt 17 pm_m17 pm_i17 := ⟨rfl, rfl⟩
theorem pm_M18 : pm_Mt 18 pm_m18 pm_i18 := ⟨rfl, rfl⟩
theorem pm_M19 : pm_Mt 19 pm_m19 pm_i19 := ⟨rfl, rfl⟩
theorem pm_M20 : pm_Mt 20 pm_m20 pm_i20 := ⟨rfl, rfl⟩
theorem pm_M21 : pm_Mt 21 pm_m21 pm_i21 := ⟨rfl, rfl⟩
theorem pm_M22 : pm_Mt 22 pm_m22 pm_i22 := ⟨rfl, rfl⟩
theorem pm_M23 : pm_Mt 23 pm_m23 pm_i23 := ⟨rfl, rfl⟩
theorem pm_M24 : pm_Mt 24 pm_m24 pm_i24 := ⟨rfl, rfl⟩
theorem pm_M25 : pm_Mt 25 pm_m25 pm_i25 := ⟨rfl, rfl⟩
theorem pm_M26 : pm_Mt 26 pm_m26 pm_i26 := ⟨rfl, rfl⟩
theorem pm_M27 : pm_Mt 27 pm_m27 pm_i27 := ⟨rfl, rfl⟩
theorem pm_M28 : pm_Mt 28 pm_m28 pm_i28 := ⟨rfl, rfl⟩
theorem pm_M29 : pm_Mt 29 pm_m29 pm_i29 := ⟨rfl, rfl⟩
theorem pm_M30 : pm_Mt 30 pm_m30 pm_i30 := ⟨rfl, rfl⟩
theorem pm_M31 : pm_Mt 31 pm_m31 pm_i31 := ⟨rfl, rfl⟩
theorem pm_M32 : pm_Mt 32 pm_m32 pm_i32 := ⟨rfl, rfl⟩
theorem pm_M33 : pm_Mt 33 pm_m33 pm_i33 := ⟨rfl, rfl⟩
theorem pm_M34 : pm_Mt 34 pm_m34 pm_i34 := ⟨rfl, rfl⟩
theorem pm_M35 : pm_Mt 35 pm_m35 pm_i35 := ⟨rfl, rfl⟩
theorem pm_M36 : pm_Mt 36 pm_m36 pm_i36 := ⟨rfl, rfl⟩
theorem pm_M37 : pm_Mt 37 pm_m37 pm_i37 := ⟨rfl, rfl⟩
theorem pm_M38 : pm_Mt 38 pm_m38 pm_i38 := ⟨rfl, rfl⟩
theorem pm_M39 : pm_Mt 39 pm_m39 pm_i39 := ⟨rfl, rfl⟩
theorem pm_M40 : pm_Mt 40 pm_m40 pm_i40 := ⟨rfl, rfl⟩
theorem pm_M41 : pm_Mt 41 pm_m41 pm_i41 := ⟨rfl, rfl⟩
theorem pm_M42 : pm_Mt 42 pm_m42 pm_i42 := ⟨rfl, rfl⟩
theorem pm_M43 : pm_Mt 43 pm_m43 pm_i43 := ⟨rfl, rfl⟩
theorem pm_M44 : pm_Mt 44 pm_m44 pm_i44 := ⟨rfl, rfl⟩
theorem pm_N44_ini : decide (pm_m44.1.name = "<init>") = true := by decide +kernel
theorem pm_M45 : pm_Mt 45 pm_m45 pm_i45 := ⟨rfl, rfl⟩
theorem pm_M46 : pm_Mt 46 pm_m46 pm_i46 := ⟨rfl, rfl⟩
theorem pm_M47 : pm_Mt 47 pm_m47 pm_i47 := ⟨rfl, rfl⟩
theorem pm_N47_ini : decide (pm_m47.1.name = "<init>") = true := by decide +kernel
theorem pm_M48 : pm_Mt 48 pm_m48 pm_i48 := ⟨rfl, rfl⟩
theorem pm_N48_ini : decide (pm_m48.1.name = "<init>") = true := by decide +kernel
theorem pm_M49 : pm_Mt 49 pm_m49 pm_i49 := ⟨rfl, rfl⟩
theorem pm_M50 : pm_Mt 50 pm_m50 pm_i50 := ⟨rfl, rfl⟩
theorem pm_M51 : pm_Mt 51 pm_m51 pm_i51 := ⟨rfl, rfl⟩
theorem pm_M52 : pm_Mt 52 pm_m52 pm_i52 := ⟨rfl, rfl⟩
theorem pm_M53 : pm_Mt 53 pm_m53 pm_i53 := ⟨rfl, rfl⟩
theorem pm_M54 : pm_Mt 54 pm_m54 pm_i54 := ⟨rfl, rfl⟩
theorem pm_N54_ini : decide (pm_m54.1.name = "<init>") = true := by decide +kernel
theorem pm_M55 : pm_Mt 55 pm_m55 pm_i55 := ⟨rfl, rfl⟩
theorem pm_M56 : pm_Mt 56 pm_m56 pm_i56 := ⟨rfl, rfl⟩
theorem pm_M57 : pm_Mt 57 pm_m57 pm_i57 := ⟨rfl, rfl⟩
theorem pm_M58 : pm_Mt 58 pm_m58 pm_i58 := ⟨rfl, rfl⟩
theorem pm_M59 : pm_Mt 59 pm_m59 pm_i59 := ⟨rfl, rfl⟩
theorem pm_M60 : pm_Mt 60 pm_m60 pm_i60 := ⟨rfl, rfl⟩
theorem pm_M61 : pm_Mt 61 pm_m61 pm_i61 := ⟨rfl, rfl⟩
theorem pm_M62 : pm_Mt 62 pm_m62 pm_i62 := ⟨rfl, rfl⟩
theorem pm_M63 : pm_Mt 63 pm_m63 pm_i63 := ⟨rfl, rfl⟩
theorem pm_M64 : pm_Mt 64 pm_m64 pm_i64 := ⟨rfl, rfl⟩
theorem pm_M65 : pm_Mt 65 pm_m65 pm_i65 := ⟨rfl, rfl⟩
theorem pm_M66 : pm_Mt 66 pm_m66 pm_i66 := ⟨rfl, rfl⟩
theorem pm_M67 : pm_Mt 67 pm_m67 pm_i67 := ⟨rfl, rfl⟩
theorem pm_M68 : pm_Mt 68 pm_m68 pm_i68 := ⟨rfl, rfl⟩
theorem pm_M69 : pm_Mt 69 pm_m69 pm_i69 := ⟨rfl, rfl⟩
theorem pm_M70 : pm_Mt 70 pm_m70 pm_i70 := ⟨rfl, rfl⟩
theorem pm_M71 : pm_Mt 71 pm_m71 pm_i71 := ⟨rfl, rfl⟩
theorem pm_M72 : pm_Mt 72 pm_m72 pm_i72 := ⟨rfl, rfl⟩
theorem pm_M73 : pm_Mt 73 pm_m73 pm_i73 := ⟨rfl, rfl⟩
theorem pm_M74 : pm_Mt 74 pm_m74 pm_i74 := ⟨rfl, rfl⟩
theorem pm_M75 : pm_Mt 75 pm_m75 pm_i75 := ⟨rfl, rfl⟩
theorem pm_M76 : pm_Mt 76 pm_m76 pm_i76 := ⟨rfl, rfl⟩
theorem pm_M77 : pm_Mt 77 pm_m77 pm_i77 := ⟨rfl, rfl⟩
theorem pm_M78 : pm_Mt 78 pm_m78 pm_i78 := ⟨rfl, rfl⟩
theorem pm_M79 : pm_Mt 79 pm_m79 pm_i79 := ⟨rfl, rfl⟩
theorem pm_M80 : pm_Mt 80 pm_m80 pm_i80 := ⟨rfl, rfl⟩
theorem pm_M81 : pm_Mt 81 pm_m81 pm_i81 := ⟨rfl, rfl⟩
theorem pm_M82 : pm_Mt 82 pm_m82 pm_i82 := ⟨rfl, rfl⟩
theorem pm_M83 : pm_Mt 83 pm_m83 pm_i83 := ⟨rfl, rfl⟩
theorem pm_N83_ini : decide (pm_m83.1.name = "<init>") = true := by decide +kernel
theorem pm_M84 : pm_Mt 84 pm_m84 pm_i84 := ⟨rfl, rfl⟩
theorem pm_M85 : pm_Mt 85 pm_m85 pm_i85 := ⟨rfl, rfl⟩
theorem pm_M86 : pm_Mt 86 pm_m86 pm_i86 := ⟨rfl, rfl⟩
theorem pm_M87 : pm_Mt 87 pm_m87 pm_i87 := ⟨rfl, rfl⟩
theorem pm_M88 : pm_Mt 88 pm_m88 pm_i88 := ⟨rfl, rfl⟩
theorem pm_M89 : pm_Mt 89 pm_m89 pm_i89 := ⟨rfl, rfl⟩
theorem pm_M90 : pm_Mt 90 pm_m90 pm_i90 := ⟨rfl, rfl⟩
theorem pm_M91 : pm_Mt 91 pm_m91 pm_i91 := ⟨rfl, rfl⟩
theorem pm_M92 : pm_Mt 92 pm_m92 pm_i92 := ⟨rfl, rfl⟩
theorem pm_M93 : pm_Mt 93 pm_m93 pm_i93 := ⟨rfl, rfl⟩
theorem pm_M94 : pm_Mt 94 pm_m94 pm_i94 := ⟨rfl, rfl⟩
theorem pm_M95 : pm_Mt 95 pm_m95 pm_i95 := ⟨rfl, rfl⟩
theorem pm_M96 : pm_Mt 96 pm_m96 pm_i96 := ⟨rfl, rfl⟩
theorem pm_M97 : pm_Mt 97 pm_m97 pm_i97 := ⟨rfl, rfl⟩
theorem pm_M98 : pm_Mt 98 pm_m98 pm_i98 := ⟨rfl, rfl⟩
theorem pm_M99 : pm_Mt 99 pm_m99 pm_i99 := ⟨rfl, rfl⟩
theorem pm_M100 : pm_Mt 100 pm_m100 pm_i100 := ⟨rfl, rfl⟩
theorem pm_M101 : pm_Mt 101 pm_m101 pm_i101 := ⟨rfl, rfl⟩
theorem pm_M102 : pm_Mt 102 pm_m102 pm_i102 := ⟨rfl, rfl⟩
theorem pm_M103 : pm_Mt 103 pm_m103 pm_i103 := ⟨rfl, rfl⟩
theorem pm_M104 : pm_Mt 104 pm_m104 pm_i104 := ⟨rfl, rfl⟩
theorem pm_M105 : pm_Mt 105 pm_m105 pm_i105 := ⟨rfl, rfl⟩
theorem pm_M106 : pm_Mt 106 pm_m106 pm_i106 := ⟨rfl, rfl⟩
theorem pm_M107 : pm_Mt 107 pm_m107 pm_i107 := ⟨rfl, rfl⟩
theorem pm_M108 : pm_Mt 108 pm_m108 pm_i108 := ⟨rfl, rfl⟩
theorem pm_M109 : pm_Mt 109 pm_m109 pm_i109 := ⟨rfl, rfl⟩
theorem pm_M110 : pm_Mt 110 pm_m110 pm_i110 := ⟨rfl, rfl⟩
theorem pm_M111 : pm_Mt 111 pm_m111 pm_i111 := ⟨rfl, rfl⟩
theorem pm_M112 : pm_Mt 112 pm_m112 pm_i112 := ⟨rfl, rfl⟩
theorem pm_M113 : pm_Mt 113 pm_m113 pm_i113 := ⟨rfl, rfl⟩
theorem pm_M114 : pm_Mt 114 pm_m114 pm_i114 := ⟨rfl, rfl⟩
theorem pm_M115 : pm_Mt 115 pm_m115 pm_i115 := ⟨rfl, rfl⟩
theorem pm_M116 : pm_Mt 116 pm_m116 pm_i116 := ⟨rfl, rfl⟩
theorem pm_M117 : pm_Mt 117 pm_m117 pm_i117 := ⟨rfl, rfl⟩
theorem pm_M118 : pm_Mt 118 pm_m118 pm_i118 := ⟨rfl, rfl⟩
theorem pm_M119 : pm_Mt 119 pm_m119 pm_i119 := ⟨rfl, rfl⟩
theorem pm_M120 : pm_Mt 120 pm_m120 pm_i120 := ⟨rfl, rfl⟩
theorem pm_M121 : pm_Mt 121 pm_m121 pm_i121 := ⟨rfl, rfl⟩
theorem pm_M122 : pm_Mt 122 pm_m122 pm_i122 := ⟨rfl, rfl⟩
theorem pm_M123 : pm_Mt 123 pm_m123 pm_i123 := ⟨rfl, rfl⟩
theorem pm_N123_ini : decide (pm_m123.1.name = "<init>") = true := by decide +kernel
theorem pm_M124 : pm_Mt 124 pm_m124 pm_i124 := ⟨rfl, rfl⟩
theorem pm_M125 : pm_Mt 125 pm_m125 pm_i125 := ⟨rfl, rfl⟩
theorem pm_M126 : pm_Mt 126 pm_m126 pm_i126 := ⟨rfl, rfl⟩
theorem pm_M127 : pm_Mt 127 pm_m127 pm_i127 := ⟨rfl, rfl⟩
theorem pm_M128 : pm_Mt 128 pm_m128 pm_i128 := ⟨rfl, rfl⟩
theorem pm_M129 : pm_Mt 129 pm_m129 pm_i129 := ⟨rfl, rfl⟩
theorem pm_M130 : pm_Mt 130 pm_m130 pm_i130 := ⟨rfl, rfl⟩
theorem pm_M131 : pm_Mt 131 pm_m131 pm_i131 := ⟨rfl, rfl⟩
theorem pm_M132 : pm_Mt 132 pm_m132 pm_i132 := ⟨rfl, rfl⟩
theorem pm_M133 : pm_Mt 133 pm_m133 pm_i133 := ⟨rfl, rfl⟩
theorem pm_M134 : pm_Mt 134 pm_m134 pm_i134 := ⟨rfl, rfl⟩
theorem pm_M135 : pm_Mt 135 pm_m135 pm_i135 := ⟨rfl, rfl⟩
theorem pm_M136 : pm_Mt 136 pm_m136 pm_i136 := ⟨rfl, rfl⟩
theorem pm_M137 : pm_Mt 137 pm_m137 pm_i137 := ⟨rfl, rfl⟩
theorem pm_M138 : pm_Mt 138 pm_m138 pm_i138 := ⟨rfl, rfl⟩
theorem pm_M139 : pm_Mt 139 pm_m139 pm_i139 := ⟨rfl, rfl⟩
theorem pm_M140 : pm_Mt 140 pm_m140 pm_i140 := ⟨rfl, rfl⟩
theorem pm_M141 : pm_Mt 141 pm_m141 pm_i141 := ⟨rfl, rfl⟩
theorem pm_M142 : pm_Mt 142 pm_m142 pm_i142 := ⟨rfl, rfl⟩
theorem pm_M143 : pm_Mt 143 pm_m143 pm_i143 := ⟨rfl, rfl⟩
theorem pm_M144 : pm_Mt 144 pm_m144 pm_i144 := ⟨rfl, rfl⟩
theorem pm_M145 : pm_Mt 145 pm_m145 pm_i145 := ⟨rfl, rfl⟩
theorem pm_M146 : pm_Mt 146 pm_m146 pm_i146 := ⟨rfl, rfl⟩
theorem pm_M147 : pm_Mt 147 pm_m147 pm_i147 := ⟨rfl, rfl⟩
theorem pm_M148 : pm_Mt 148 pm_m148 pm_i148 := ⟨rfl, rfl⟩
theorem pm_M149 : pm_Mt 149 pm_m149 pm_i149 := ⟨rfl, rfl⟩
theorem pm_M150 : pm_Mt 150 pm_m150 pm_i150 := ⟨rfl, rfl⟩
theorem pm_M151 : pm_Mt 151 pm_m151 pm_i151 := ⟨rfl, rfl⟩
theorem pm_M152 : pm_Mt 152 pm_m152 pm_i152 := ⟨rfl, rfl⟩
theorem pm_M153 : pm_Mt 153 pm_m153 pm_i153 := ⟨rfl, rfl⟩
theorem pm_M154 : pm_Mt 154 pm_m154 pm_i154 := ⟨rfl, rfl⟩
theorem pm_M155 : pm_Mt 155 pm_m155 pm_i155 := ⟨rfl, rfl⟩
theorem pm_M156 : pm_Mt 156 pm_m156 pm_i156 := ⟨rfl, rfl⟩
theorem pm_M157 : pm_Mt 157 pm_m157 pm_i157 := ⟨rfl, rfl⟩
theorem pm_M158 : pm_Mt 158 pm_m158 pm_i158 := ⟨rfl, rfl⟩
theorem pm_M159 : pm_Mt 159 pm_m159 pm_i159 := ⟨rfl, rfl⟩
theorem pm_M160 : pm_Mt 160 pm_m160 pm_i160 := ⟨rfl, rfl⟩
theorem pm_M161 : pm_Mt 161 pm_m161 pm_i161 := ⟨rfl, rfl⟩
theorem pm_M162 : pm_Mt 162 pm_m162 pm_i162 := ⟨rfl, rfl⟩
theorem pm_M163 : pm_Mt 163 pm_m163 pm_i163 := ⟨rfl, rfl⟩
theorem pm_M164 : pm_Mt 164 pm_m164 pm_i164 := ⟨rfl, rfl⟩
theorem pm_M165 : pm_Mt 165 pm_m165 pm_i165 := ⟨rfl, rfl⟩
theorem pm_M166 : pm_Mt 166 pm_m166 pm_i166 := ⟨rfl, rfl⟩
theorem pm_M167 : pm_Mt 167 pm_m167 pm_i167 := ⟨rfl, rfl⟩
theorem pm_M168 : pm_Mt 168 pm_m168 pm_i168 := ⟨rfl, rfl⟩
theorem pm_M169 : pm_Mt 169 pm_m169 pm_i169 := ⟨rfl, rfl⟩
theorem pm_M170 : pm_Mt 170 pm_m170 pm_i170 := ⟨rfl, rfl⟩
theorem pm_N170_ini : decide (pm_m170.1.name = "<init>") = true := by decide +kernel
theorem pm_M171 : pm_Mt 171 pm_m171 pm_i171 := ⟨rfl, rfl⟩
theorem pm_M172 : pm_Mt 172 pm_m172 pm_i172 := ⟨rfl, rfl⟩
theorem pm_M173 : pm_Mt 173 pm_m173 pm_i173 := ⟨rfl, rfl⟩
theorem pm_M174 : pm_Mt 174 pm_m174 pm_i174 := ⟨rfl, rfl⟩
theorem pm_M175 : pm_Mt 175 pm_m175 pm_i175 := ⟨rfl, rfl⟩
theorem pm_M176 : pm_Mt 176 pm_m176 pm_i176 := ⟨rfl, rfl⟩
theorem pm_M177 : pm_Mt 177 pm_m177 pm_i177 := ⟨rfl, rfl⟩
theorem pm_M178 : pm_Mt 178 pm_m178 pm_i178 := ⟨rfl, rfl⟩
theorem pm_M179 : pm_Mt 179 pm_m179 pm_i179 := ⟨rfl, rfl⟩
theorem pm_M180 : pm_Mt 180 pm_m180 pm_i180 := ⟨rfl, rfl⟩
theorem pm_M181 : pm_Mt 181 pm_m181 pm_i181 := ⟨rfl, rfl⟩
theorem pm_M182 : pm_Mt 182 pm_m182 pm_i182 := ⟨rfl, rfl⟩
theorem pm_M183 : pm_Mt 183 pm_m183 pm_i183 := ⟨rfl, rfl⟩
theorem pm_M184 : pm_Mt 184 pm_m184 pm_i184 := ⟨rfl, rfl⟩
theorem pm_M185 : pm_Mt 185 pm_m185 pm_i185 := ⟨rfl, rfl⟩
theorem pm_M186 : pm_Mt 186 pm_m186 pm_i186 := ⟨rfl, rfl⟩
theorem pm_M187 : pm_Mt 187 pm_m187 pm_i187 := ⟨rfl, rfl⟩
theorem pm_M188 : pm_Mt 188 pm_m188 pm_i188 := ⟨rfl, rfl⟩
theorem pm_M189 : pm_Mt 189 pm_m189 pm_i189 := ⟨rfl, rfl⟩
theorem pm_M190 : pm_Mt 190 pm_m190 pm_i190 := ⟨rfl, rfl⟩
theorem pm_M191 : pm_Mt 191 pm_m191 pm_i191 := ⟨rfl, rfl⟩
theorem pm_M192 : pm_Mt 192 pm_m192 pm_i192 := ⟨rfl, rfl⟩
theorem pm_M193 : pm_Mt 193 pm_m193 pm_i193 := ⟨rfl, rfl⟩
theorem pm_M194 : pm_Mt 194 pm_m194 pm_i194 := ⟨rfl, rfl⟩
theorem pm_M195 : pm_Mt 195 pm_m195 pm_i195 := ⟨rfl, rfl⟩
theorem pm_M196 : pm_Mt 196 pm_m196 pm_i196 := ⟨rfl, rfl⟩
theorem pm_M197 : pm_Mt 197 pm_m197 pm_i197 := ⟨rfl, rfl⟩
theorem pm_M198 : pm_Mt 198 pm_m198 pm_i198 := ⟨rfl, rfl⟩
theorem pm_M199 : pm_Mt 199 pm_m199 pm_i199 := ⟨rfl, rfl⟩
theorem pm_M200 : pm_Mt 200 pm_m200 pm_i200 := ⟨rfl, rfl⟩
theorem pm_M201 : pm_Mt 201 pm_m201 pm_i201 := ⟨rfl, rfl⟩
theorem pm_M202 : pm_Mt 202 pm_m202 pm_i202 := ⟨rfl, rfl⟩
theorem pm_M203 : pm_Mt 203 pm_m203 pm_i203 := ⟨rfl, rfl⟩
theorem pm_M204 : pm_Mt 204 pm_m204 pm_i204 := ⟨rfl, rfl⟩
theorem pm_M205 : pm_Mt 205 pm_m205 pm_i205 := ⟨rfl, rfl⟩
theorem pm_M206 : pm_Mt 206 pm_m206 pm_i206 := ⟨rfl, rfl⟩
theorem pm_M207 : pm_Mt 207 pm_m207 pm_i207 := ⟨rfl, rfl⟩
theorem pm_M208 : pm_Mt 208 pm_m208 pm_i208 := ⟨rfl, rfl⟩
theorem pm_M209 : pm_Mt 209 pm_m209 pm_i209 := ⟨rfl, rfl⟩
theorem pm_M210 : pm_Mt 210 pm_m210 pm_i210 := ⟨rfl, rfl⟩
theorem pm_M211 : pm_Mt 211 pm_m211 pm_i211 := ⟨rfl, rfl⟩
theorem pm_M212 : pm_Mt 212 pm_m212 pm_i212 := ⟨rfl, rfl⟩
theorem pm_M213 : pm_Mt 213 pm_m213 pm_i213 := ⟨rfl, rfl⟩
theorem pm_M214 : pm_Mt 214 pm_m214 pm_i214 := ⟨rfl, rfl⟩
theorem pm_M215 : pm_Mt 215 pm_m215 pm_i215 := ⟨rfl, rfl⟩
theorem pm_M216 : pm_Mt 216 pm_m216 pm_i216 := ⟨rfl, rfl⟩
theorem pm_M217 : pm_Mt 217 pm_m217 pm_i217 := ⟨rfl, rfl⟩
theorem pm_M218 : pm_Mt 218 pm_m218 pm_i218 := ⟨rfl, rfl⟩
theorem pm_M219 : pm_Mt 219 pm_m219 pm_i219 := ⟨rfl, rfl⟩
theorem pm_M220 : pm_Mt 220 pm_m220 pm_i220 := ⟨rfl, rfl⟩
theorem pm_M221 : pm_Mt 221 pm_m221 pm_i221 := ⟨rfl, rfl⟩
theorem pm_M222 : pm_Mt 222 pm_m222 pm_i222 := ⟨rfl, rfl⟩
theorem pm_M223 : pm_Mt 223 pm_m223 pm_i223 := ⟨rfl, rfl⟩
theorem pm_M224 : pm_Mt 224 pm_m224 pm_i224 := ⟨rfl, rfl⟩
theorem pm_M225 : pm_Mt 225 pm_m225 pm_i225 := ⟨rfl, rfl⟩
theorem pm_M226 : pm_Mt 226 pm_m226 pm_i226 := ⟨rfl, rfl⟩
theorem pm_M227 : pm_Mt 227 pm_m227 pm_i227 := ⟨rfl, rfl⟩
theorem pm_M228 : pm_Mt 228 pm_m228 pm_i228 := ⟨rfl, rfl⟩
theorem pm_M229 : pm_Mt 229 pm_m229 pm_i229 := ⟨rfl, rfl⟩
theorem pm_M230 : pm_Mt 230 pm_m230 pm_i230 := ⟨rfl, rfl⟩
theorem pm_M231 : pm_Mt 231 pm_m231 pm_i231 := ⟨rfl, rfl⟩
theorem pm_M232 : pm_Mt 232 pm_m232 pm_i232 := ⟨rfl, rfl⟩
theorem pm_M233 : pm_Mt 233 pm_m233 pm_i233 := ⟨rfl, rfl⟩
theorem pm_M234 : pm_Mt 234 pm_m234 pm_i234 := ⟨rfl, rfl⟩
theorem pm_M235 : pm_Mt 235 pm_m235 pm_i235 := ⟨rfl, rfl⟩
theorem pm_M236 : pm_Mt 236 pm_m236 pm_i236 := ⟨rfl, rfl⟩
theorem pm_M237 : pm_Mt 237 pm_m237 pm_i237 := ⟨rfl, rfl⟩
theorem pm_M238 : pm_Mt 238 pm_m238 pm_i238 := ⟨rfl, rfl⟩
theorem pm_M239 : pm_Mt 239 pm_m239 pm_i239 := ⟨rfl, rfl⟩
theorem pm_M240 : pm_Mt 240 pm_m240 pm_i240 := ⟨rfl, rfl⟩
theorem pm_M241 : pm_Mt 241 pm_m241 pm_i241 := ⟨rfl, rfl⟩
theorem pm_M242 : pm_Mt 242 pm_m242 pm_i242 := ⟨rfl, rfl⟩
theorem pm_M243 : pm_Mt 243 pm_m243 pm_i243 := ⟨rfl, rfl⟩
theorem pm_M244 : pm_Mt 244 pm_m244 pm_i244 := ⟨rfl, rfl⟩
theorem pm_M245 : pm_Mt 245 pm_m245 pm_i245 := ⟨rfl, rfl⟩
theorem pm_M246 : pm_Mt 246 pm_m246 pm_i246 := ⟨rfl, rfl⟩
theorem pm_M247 : pm_Mt 247 pm_m247 pm_i247 := ⟨rfl, rfl⟩
theorem pm_M248 : pm_Mt 248 pm_m248 pm_i248 := ⟨rfl, rfl⟩
theorem pm_M249 : pm_Mt 249 pm_m249 pm_i249 := ⟨rfl, rfl⟩
theorem pm_M250 : pm_Mt 250 pm_m250 pm_i250 := ⟨rfl, rfl⟩
theorem pm_M251 : pm_Mt 251 pm_m251 pm_i251 := ⟨rfl, rfl⟩
theorem pm_M252 : pm_Mt 252 pm_m252 pm_i252 := ⟨rfl, rfl⟩
theorem pm_M253 : pm_Mt 253 pm_m253 pm_i253 := ⟨rfl, rfl⟩
theorem pm_M254 : pm_Mt 254 pm_m254 pm_i254 := ⟨rfl, rfl⟩
theorem pm_M255 : pm_Mt 255 pm_m255 pm_i255 := ⟨rfl, rfl⟩
theorem pm_M256 : pm_Mt 256 pm_m256 pm_i256 := ⟨rfl, rfl⟩
theorem pm_M257 : pm_Mt 257 pm_m257 pm_i257 := ⟨rfl, rfl⟩
theorem pm_M258 : pm_Mt 258 pm_m258 pm_i258 := ⟨rfl, rfl⟩
theorem pm_M259 : pm_Mt 259 pm_m259 pm_i259 := ⟨rfl, rfl⟩
theorem pm_M260 : pm_Mt 260 pm_m260 pm_i260 := ⟨rfl, rfl⟩
theorem pm_M261 : pm_Mt 261 pm_m261 pm_i261 := ⟨rfl, rfl⟩
theorem pm_M262 : pm_Mt 262 pm_m262 pm_i262 := ⟨rfl, rfl⟩
theorem pm_M263 : pm_Mt 263 pm_m263 pm_i263 := ⟨rfl, rfl⟩
theorem pm_M264 : pm_Mt 264 pm_m264 pm_i264 := ⟨rfl, rfl⟩
theorem pm_M265 : pm_Mt 265 pm_m265 pm_i265 := ⟨rfl, rfl⟩
theorem pm_M266 : pm_Mt 266 pm_m266 pm_i266 := ⟨rfl, rfl⟩
theorem pm_M267 : pm_Mt 267 pm_m267 pm_i267 := ⟨rfl, rfl⟩
theorem pm_M268 : pm_Mt 268 pm_m268 pm_i268 := ⟨rfl, rfl⟩
theorem pm_M269 : pm_Mt 269 pm_m269 pm_i269 := ⟨rfl, rfl⟩
theorem pm_M270 : pm_Mt 270 pm_m270 pm_i270 := ⟨rfl, rfl⟩
theorem pm_M271 : pm_Mt 271 pm_m271 pm_i271 := ⟨rfl, rfl⟩
theorem pm_M272 : pm_Mt 272 pm_m272 pm_i272 := ⟨rfl, rfl⟩
theorem pm_M273 : pm_Mt 273 pm_m273 pm_i273 := ⟨rfl, rfl⟩
theorem pm_M274 : pm_Mt 274 pm_m274 pm_i274 := ⟨rfl, rfl⟩
theorem pm_M275 : pm_Mt 275 pm_m275 pm_i275 := ⟨rfl, rfl⟩
theorem pm_M276 : pm_Mt 276 pm_m276 pm_i276 := ⟨rfl, rfl⟩
theorem pm_M277 : pm_Mt 277 pm_m277 pm_i277 := ⟨rfl, rfl⟩
theorem pm_M278 : pm_Mt 278 pm_m278 pm_i278 := ⟨rfl, rfl⟩
theorem pm_M279 : pm_Mt 279 pm_m279 pm_i279 := ⟨rfl, rfl⟩
theorem pm_M280 : pm_Mt 280 pm_m280 pm_i280 := ⟨rfl, rfl⟩
theorem pm_M281 : pm_Mt 281 pm_m281 pm_i281 := ⟨rfl, rfl⟩
theorem pm_M282 : pm_Mt 282 pm_m282 pm_i282 := ⟨rfl, rfl⟩
theorem pm_M283 : pm_Mt 283 pm_m283 pm_i283 := ⟨rfl, rfl⟩
theorem pm_M284 : pm_Mt 284 pm_m284 pm_i284 := ⟨rfl, rfl⟩
theorem pm_M285 : pm_Mt 285 pm_m285 pm_i285 := ⟨rfl, rfl⟩
theorem pm_M286 : pm_Mt 286 pm_m286 pm_i286 := ⟨rfl, rfl⟩
theorem pm_M287 : pm_Mt 287 pm_m287 pm_i287 := ⟨rfl, rfl⟩
theorem pm_M288 : pm_Mt 288 pm_m288 pm_i288 := ⟨rfl, rfl⟩
theorem pm_M289 : pm_Mt 289 pm_m289 pm_i289 := ⟨rfl, rfl⟩
theorem pm_M290 : pm_Mt 290 pm_m290 pm_i290 := ⟨rfl, rfl⟩
theorem pm_M291 : pm_Mt 291 pm_m291 pm_i291 := ⟨rfl, rfl⟩
theorem pm_M292 : pm_Mt 292 pm_m292 pm_i292 := ⟨rfl, rfl⟩
theorem pm_M293 : pm_Mt 293 pm_m293 pm_i293 := ⟨rfl, rfl⟩
theorem pm_M294 : pm_Mt 294 pm_m294 pm_i294 := ⟨rfl, rfl⟩
theorem pm_M295 : pm_Mt 295 pm_m295 pm_i295 := ⟨rfl, rfl⟩
theorem pm_M296 : pm_Mt 296 pm_m296 pm_i296 := ⟨rfl, rfl⟩
theorem pm_M297 : pm_Mt 297 pm_m297 pm_i297 := ⟨rfl, rfl⟩
theorem pm_M298 : pm_Mt 298 pm_m298 pm_i298 := ⟨rfl, rfl⟩
theorem pm_find_skip {α : Type} : ∀ (a b : List (Nat × α)) (k : Nat), (∀ x ∈ a, x.1 < k) → pm_find (a ++ b) k = pm_find b k
  | [], _, _, _ => rfl
  | x :: a, b, k, h => by
    have h1 : x.1 < k := h x List.mem_cons_self
    have hb : Nat.beq k x.1 = false := by
      cases hq : Nat.beq k x.1 with
      | false => rfl
      | true => have := Nat.eq_of_beq_eq_true hq; omega
    show cond (Nat.beq k x.1) (some x.2) (pm_find (a ++ b) k) = _
    rw [hb]
    exact pm_find_skip a b k (fun y hy => h y (List.mem_cons_of_mem _ hy))
theorem pm_q0_1 {pc : Nat} (h : 260 ≤ pc) : pm_find pm_i0 pc = pm_find (pm_i0_1 ++ (pm_i0_2 ++ (pm_i0_3 ++ (pm_i0_4 ++ (pm_i0_5 ++ (pm_i0_6 ++ (pm_i0_7 ++ (pm_i0_8 ++ (pm_i0_9 ++ (pm_i0_10 ++ (pm_i0_11 ++ (pm_i0_12 ++ (pm_i0_13 ++ (pm_i0_14 ++ (pm_i0_15 ++ (pm_i0_16 ++ (pm_i0_17 ++ (pm_i0_18 ++ (pm_i0_19 ++ (pm_i0_20 ++ (pm_i0_21 ++ (pm_i0_22 ++ (pm_i0_23 ++ (pm_i0_24 ++ (pm_i0_25 ++ (pm_i0_26 ++ (pm_i0_27))))))))))))))))))))))))))) pc := ((rfl : pm_find pm_i0 pc = pm_find (pm_i0_0 ++ (pm_i0_1 ++ (pm_i0_2 ++ (pm_i0_3 ++ (pm_i0_4 ++ (pm_i0_5 ++ (pm_i0_6 ++ (pm_i0_7 ++ (pm_i0_8 ++ (pm_i0_9 ++ (pm_i0_10 ++ (pm_i0_11 ++ (pm_i0_12 ++ (pm_i0_13 ++ (pm_i0_14 ++ (pm_i0_15 ++ (pm_i0_16 ++ (pm_i0_17 ++ (pm_i0_18 ++ (pm_i0_19 ++ (pm_i0_20 ++ (pm_i0_21 ++ (pm_i0_22 ++ (pm_i0_23 ++ (pm_i0_24 ++ (pm_i0_25 ++ (pm_i0_26 ++ (pm_i0_27)))))))))))))))))))))))))))) pc)).trans (pm_find_skip pm_i0_0 (pm_i0_1 ++ (pm_i0_2 ++ (pm_i0_3 ++ (pm_i0_4 ++ (pm_i0_5 ++ (pm_i0_6 ++ (pm_i0_7 ++ (pm_i0_8 ++ (pm_i0_9 ++ (pm_i0_10 ++ (pm_i0_11 ++ (pm_i0_12 ++ (pm_i0_13 ++ (pm_i0_14 ++ (pm_i0_15 ++ (pm_i0_16 ++ (pm_i0_17 ++ (pm_i0_18 ++ (pm_i0_19 ++ (pm_i0_20 ++ (pm_i0_21 ++ (pm_i0_22 ++ (pm_i0_23 ++ (pm_i0_24 ++ (pm_i0_25 ++ (pm_i0_26 ++ (pm_i0_27))))))))))))))))))))))))))) pc (fun x hx => Nat.lt_of_lt_of_le ((by decide +kernel : ∀ x ∈ pm_i0_0, x.1 < 260) x hx) h))
theorem pm_q0_2 {pc : Nat} (h : 332 ≤ pc) : pm_find pm_i0 pc = pm_find (pm_i0_2 ++ (pm_i0_3 ++ (pm_i0_4 ++ (pm_i0_5 ++ (pm_i0_6 ++ (pm_i0_7 ++ (pm_i0_8 ++ (pm_i0_9 ++ (pm_i0_10 ++ (pm_i0_11 ++ (pm_i0_12 ++ (pm_i0_13 ++ (pm_i0_14 ++ (pm_i0_15 ++ (pm_i0_16 ++ (pm_i0_17 ++ (pm_i0_18 ++ (pm_i0_19 ++ (pm_i0_20 ++ (pm_i0_21 ++ (pm_i0_22 ++ (pm_i0_23 ++ (pm_i0_24 ++ (pm_i0_25 ++ (pm_i0_26 ++ (pm_i0_27)))))))))))))))))))))))))) pc := (pm_q0_1 (by omega)).trans (pm_find_skip pm_i0_1 (pm_i0_2 ++ (pm_i0_3 ++ (pm_i0_4 ++ (pm_i0_5 ++ (pm_i0_6 ++ (pm_i0_7 ++ (pm_i0_8 ++ (pm_i0_9 ++ (pm_i0_10 ++ (pm_i0_11 ++ (pm_i0_12 ++ (pm_i0_13 ++ (pm_i0_14 ++ (pm_i0_15 ++ (pm_i0_16 ++ (pm_i0_17 ++ (pm_i0_18 ++ (pm_i0_19 ++ (pm_i0_20 ++ (pm_i0_21 ++ (pm_i0_22 ++ (pm_i0_23 ++ (pm_i0_24 ++ (pm_i0_25 ++ (pm_i0_26 ++ (pm_i0_27)))))))))))))))))))))))))) pc (fun x hx => Nat.lt_of_lt_of_le ((by decide +kernel : ∀ x ∈ pm_i0_1, x.1 < 332) x hx) h))
theorem pm_q0_3 {pc : Nat} (h : 408 ≤ pc) : pm_find pm_i0 pc = pm_find (pm_i0_3 ++ (pm_i0_4 ++ (pm_i0_5 ++ (pm_i0_6 ++ (pm_i0_7 ++ (pm_i0_8 ++ (pm_i0_9 ++ (pm_i0_10 ++ (pm_i0_11 ++ (pm_i0_12 ++ (pm_i0_13 ++ (pm_i0_14 ++ (pm_i0_15 ++ (pm_i0_16 ++ (pm_i0_17 ++ (pm_i0_18 ++ (pm_i0_19 ++ (pm_i0_20 ++ (pm_i0_21 ++ (pm_i0_22 ++ (pm_i0_23 ++ (pm_i0_24 ++ (pm_i0_25 ++ (pm_i0_26 ++ (pm_i0_27))))))))))))))))))))))))) pc := (pm_q0_2 (by omega)).trans (pm_find_skip pm_i0_2 (pm_i0_3 ++ (pm_i0_4 ++ (pm_i0_5 ++ (pm_i0_6 ++ (pm_i0_7 ++ (pm_i0_8 ++ (pm_i0_9 ++ (pm_i0_10 ++ (pm_i0_11 ++ (pm_i0_12 ++ (pm_i0_13 ++ (pm_i0_14 ++ (pm_i0_15 ++ (pm_i0_16 ++ (pm_i0_17 ++ (pm_i0_18 ++ (pm_i0_19 ++ (pm_i0_20 ++ (pm_i0_21 ++ (pm_i0_22 ++ (pm_i0_23 ++ (pm_i0_24 ++ (pm_i0_25 ++ (pm_i0_26 ++ (pm_i0_27))))))))))))))))))))))))) pc (fun x hx => Nat.lt_of_lt_of_le ((by decide +kernel : ∀ x ∈ pm_i0_2, x.1 < 408) x hx) h))
theorem pm_q0_4 {pc : Nat} (h : 478 ≤ pc) : pm_find pm_i0 pc = pm_find (pm_i0_4 ++ (pm_i0_5 ++ (pm_i0_6 ++ (pm_i0_7 ++ (pm_i0_8 ++ (pm_i0_9 ++ (pm_i0_10 ++ (pm_i0_11 ++ (pm_i0_12 ++ (pm_i0_13 ++ (pm_i0_14 ++ (pm_i0_15 ++ (pm_i0_16 ++ (pm_i0_17 ++ (pm_i0_18 ++ (pm_i0_19 ++ (pm_i0_20 ++ (pm_i0_21 ++ (pm_i0_22 ++ (pm_i0_23 ++ (pm_i0_24 ++ (pm_i0_25 ++ (pm_i0_26 ++ (pm_i0_27)))))))))))))))))))))))) pc := (pm_q0_3 (by omega)).trans (pm_find_skip pm_i0_3 (pm_i0_4 ++ (pm_i0_5 ++ (pm_i0_6 ++ (pm_i0_7 ++ (pm_i0_8 ++ (pm_i0_9 ++ (pm_i0_10 ++ (pm_i0_11 ++ (pm_i0_12 ++ (pm_i0_13 ++ (pm_i0_14 ++ (pm_i0_15 ++ (pm_i0_16 ++ (pm_i0_17 ++ (pm_i0_18 ++ (pm_i0_19 ++ (pm_i0_20 ++ (pm_i0_21 ++ (pm_i0_22 ++ (pm_i0_23 ++ (pm_i0_24 ++ (pm_i0_25 ++ (pm_i0_26 ++ (pm_i0_27)))))))))))))))))))))))) pc (fun x hx => Nat.lt_of_lt_of_le ((by decide +kernel : ∀ x ∈ pm_i0_3, x.1 < 478) x hx) h))
theorem pm_q0_5 {pc : Nat} (h : 548 ≤ pc) : pm_find pm_i0 pc = pm_find (pm_i0_5 ++ (pm_i0_6 ++ (pm_i0_7 ++ (pm_i0_8 ++ (pm_i0_9 ++ (pm_i0_10 ++ (pm_i0_11 ++ (pm_i0_12 ++ (pm_i0_13 ++ (pm_i0_14 ++ (pm_i0_15 ++ (pm_i0_16 ++ (pm_i0_17 ++ (pm_i0_18 ++ (pm_i0_19 ++ (pm_i0_20 ++ (pm_i0_21 ++ (pm_i0_22 ++ (pm_i0_23 ++ (pm_i0_24 ++ (pm_i0_25 ++ (pm_i0_26 ++ (pm_i0_27))))))))))))))))))))))) pc := (pm_q0_4 (by omega)).trans (pm_find_skip pm_i0_4 (pm_i0_5 ++ (pm_i0_6 ++ (pm_i0_7 ++ (pm_i0_8 ++ (pm_i0_9 ++ (pm_i0_10 ++ (pm_i0_11 ++ (pm_i0_12 ++ (pm_i0_13 ++ (pm_i0_14 ++ (pm_i0_15 ++ (pm_i0_16 ++ (pm_i0_17 ++ (pm_i0_18 ++ (pm_i0_19 ++ (pm_i0_20 ++ (pm_i0_21 ++ (pm_i0_22 ++ (pm_i0_23 ++ (pm_i0_24 ++ (pm_i0_25 ++ (pm_i0_26 ++ (pm_i0_27))))))))))))))))))))))) pc (fun x hx => Nat.lt_of_lt_of_le ((by decide +kernel : ∀ x ∈ pm_i0_4, x.1 < 548) x hx) h))
theorem pm_q0_6 {pc : Nat} (h : 616 ≤ pc) : pm_find pm_i0 pc = pm_find (pm_i0_6 ++ (pm_i0_7 ++ (pm_i0_8 ++ (pm_i0_9 ++ (pm_i0_10 ++ (pm_i0_11 ++ (pm_i0_12 ++ (pm_i0_13 ++ (pm_i0_14 ++ (pm_i0_15 ++ (pm_i0_16 ++ (pm_i0_17 ++ (pm_i0_18 ++ (pm_i0_19 ++ (pm_i0_20 ++ (pm_i0_21 ++ (pm_i0_22 ++ (pm_i0_23 ++ (pm_i0_24 ++ (pm_i0_25 ++ (pm_i0_26 ++ (pm_i0_27)))))))))))))))))))))) pc := (pm_q0_5 (by omega)).trans (pm_find_skip pm_i0_5 (pm_i0_6 ++ (pm_i0_7 ++ (pm_i0_8 ++ (pm_i0_9 ++ (pm_i0_10 ++ (pm_i0_11 ++ (pm_i0_12 ++ (pm_i0_13 ++ (pm_i0_14 ++ (pm_i0_15 ++ (pm_i0_16 ++ (pm_i0_17 ++ (pm_i0_18 ++ (pm_i0_19 ++ (pm_i0_20 ++ (pm_i0_21 ++ (pm_i0_22 ++ (pm_i0_23 ++ (pm_i0_24 ++ (pm_i0_25 ++ (pm_i0_26 ++ (pm_i0_27)))))))))))))))))))))) pc (fun x hx => Nat.lt_of_lt_of_le ((by decide +kernel : ∀ x ∈ pm_i0_5, x.1 < 616) x hx) h))
theorem pm_q0_7 {pc : Nat} (h : 685 ≤ pc) : pm_find pm_i0 pc = pm_find (pm_i0_7 ++ (pm_i0_8 ++ (pm_i0_9 ++ (pm_i0_10 ++ (pm_i0_11 ++ (pm_i0_12 ++ (pm_i0_13 ++ (pm_i0_14 ++ (pm_i0_15 ++ (pm_i0_16 ++ (pm_i0_17 ++ (pm_i0_18 ++ (pm_i0_19 ++ (pm_i0_20 ++ (pm_i0_21 ++ (pm_i0_22 ++ (pm_i0_23 ++ (pm_i0_24 ++ (pm_i0_25 ++ (pm_i0_26 ++ (pm_i0_27))))))))))))))))))))) pc := (pm_q0_6 (by omega)).trans (pm_find_skip pm_i0_6 (pm_i0_7 ++ (pm_i0_8 ++ (pm_i0_9 ++ (pm_i0_10 ++ (pm_i0_11 ++ (pm_i0_12 ++ (pm_i0_13 ++ (pm_i0_14 ++ (pm_i0_15 ++ (pm_i0_16 ++ (pm_i0_17 ++ (pm_i0_18 ++ (pm_i0_19 ++ (pm_i0_20 ++ (pm_i0_21 ++ (pm_i0_22 ++ (pm_i0_23 ++ (pm_i0_24 ++ (pm_i0_25 ++ (pm_i0_26 ++ (pm_i0_27))))))))))))))))))))) pc (fun x hx => Nat.lt_of_lt_of_le ((by decide +kernel : ∀ x ∈ pm_i0_6, x.1 < 685) x hx) h))
theorem pm_q0_8 {pc : Nat} (h : 756 ≤ pc) : pm_find pm_i0 pc = pm_find (pm_i0_8 ++ (pm_i0_9 ++ (pm_i0_10 ++ (pm_i0_11 ++ (pm_i0_12 ++ (pm_i0_13 ++ (pm_i0_14 ++ (pm_i0_15 ++ (pm_i0_16 ++ (pm_i0_17 ++ (pm_i0_18 ++ (pm_i0_19 ++ (pm_i0_20 ++ (pm_i0_21 ++ (pm_i0_22 ++ (pm_i0_23 ++ (pm_i0_24 ++ (pm_i0_25 ++ (pm_i0_26 ++ (pm_i0_27)))))))))))))))))))) pc := (pm_q0_7 (by omega)).trans (pm_find_skip pm_i0_7 (pm_i0_8 ++ (pm_i0_9 ++ (pm_i0_10 ++ (pm_i0_11 ++ (pm_i0_12 ++ (pm_i0_13 ++ (pm_i0_14 ++ (pm_i0_15 ++ (pm_i0_16 ++ (pm_i0_17 ++ (pm_i0_18 ++ (pm_i0_19 ++ (pm_i0_20 ++ (pm_i0_21 ++ (pm_i0_22 ++ (pm_i0_23 ++ (pm_i0_24 ++ (pm_i0_25 ++ (pm_i0_26 ++ (pm_i0_27)))))))))))))))))))) pc (fun x hx => Nat.lt_of_lt_of_le ((by decide +kernel : ∀ x ∈ pm_i0_7, x.1 < 756) x hx) h))
theorem pm_q0_9 {pc : Nat} (h : 824 ≤ pc) : pm_find pm_i0 pc = pm_find (pm_i0_9 ++ (pm_i0_10 ++ (pm_i0_11 ++ (pm_i0_12 ++ (pm_i0_13 ++ (pm_i0_14 ++ (pm_i0_15 ++ (pm_i0_16 ++ (pm_i0_17 ++ (pm_i0_18 ++ (pm_i0_19 ++ (pm_i0_20 ++ (pm_i0_21 ++ (pm_i0_22 ++ (pm_i0_23 ++ (pm_i0_24 ++ (pm_i0_25 ++ (pm_i0_26 ++ (pm_i0_27))))))))))))))))))) pc := (pm_q0_8 (by omega)).trans (pm_find_skip pm_i0_8 (pm_i0_9 ++ (pm_i0_10 ++ (pm_i0_11 ++ (pm_i0_12 ++ (pm_i0_13 ++ (pm_i0_14 ++ (pm_i0_15 ++ (pm_i0_16 ++ (pm_i0_17 ++ (pm_i0_18 ++ (pm_i0_19 ++ (pm_i0_20 ++ (pm_i0_21 ++ (pm_i0_22 ++ (pm_i0_23 ++ (pm_i0_24 ++ (pm_i0_25 ++ (pm_i0_26 ++ (pm_i0_27))))))))))))))))))) pc (fun x hx => Nat.lt_of_lt_of_le ((by decide +kernel : ∀ x ∈ pm_i0_8, x.1 < 824) x hx) h))
theorem pm_q0_10 {pc : Nat} (h : 894 ≤ pc) : pm_find pm_i0 pc = pm_find (pm_i0_10 ++ (pm_i0_11 ++ (pm_i0_12 ++ (pm_i0_13 ++ (pm_i0_14 ++ (pm_i0_15 ++ (pm_i0_16 ++ (pm_i0_17 ++ (pm_i0_18 ++ (pm_i0_19 ++ (pm_i0_20 ++ (pm_i0_21 ++ (pm_i0_22 ++ (pm_i0_23 ++ (pm_i0_24 ++ (pm_i0_25 ++ (pm_i0_26 ++ (pm_i0_27)))))))))))))))))) pc := (pm_q0_9 (by omega)).trans (pm_find_skip pm_i0_9 (pm_i0_10 ++ (pm_i0_11 ++ (pm_i0_12 ++ (pm_i0_13 ++ (pm_i0_14 ++ (pm_i0_15 ++ (pm_i0_16 ++ (pm_i0_17 ++ (pm_i0_18 ++ (pm_i0_19 ++ (pm_i0_20 ++ (pm_i0_21 ++ (pm_i0_22 ++ (pm_i0_23 ++ (pm_i0_24 ++ (pm_i0_25 ++ (pm_i0_26 ++ (pm_i0_27)))))))))))))))))) pc (fun x hx => Nat.lt_of_lt_of_le ((by decide +kernel : ∀ x ∈ pm_i0_9, x.1 < 894) x hx) h))
theorem pm_q0_11 {pc : Nat} (h : 962 ≤ pc) : pm_find pm_i0 pc = pm_find (pm_i0_11 ++ (pm_i0_12 ++ (pm_i0_13 ++ (pm_i0_14 ++ (pm_i0_15 ++ (pm_i0_16 ++ (pm_i0_17 ++ (pm_i0_18 ++ (pm_i0_19 ++ (pm_i0_20 ++ (pm_i0_21 ++ (pm_i0_22 ++ (pm_i0_23 ++ (pm_i0_24 ++ (pm_i0_25 ++ (pm_i0_26 ++ (pm_i0_27))))))))))))))))) pc := (pm_q0_10 (by omega)).trans (pm_find_skip pm_i0_10 (pm_i0_11 ++ (pm_i0_12 ++ (pm_i0_13 ++ (pm_i0_14 ++ (pm_i0_15 ++ (pm_i0_16 ++ (pm_i0_17 ++ (pm_i0_18 ++ (pm_i0_19 ++ (pm_i0_20 ++ (pm_i0_21 ++ (pm_i0_22 ++ (pm_i0_23 ++ (pm_i0_24 ++ (pm_i0_25 ++ (pm_i0_26 ++ (pm_i0_27))))))))))))))))) pc (fun x hx => Nat.lt_of_lt_of_le ((by decide +kernel : ∀ x ∈ pm_i0_10, x.1 < 962) x hx) h))
theorem pm_q0_12 {pc : Nat} (h : 1034 ≤ pc) : pm_find pm_i0 pc = pm_find (pm_i0_12 ++ (pm_i0_13 ++ (pm_i0_14 ++ (pm_i0_15 ++ (pm_i0_16 ++ (pm_i0_17 ++ (pm_i0_18 ++ (pm_i0_19 ++ (pm_i0_20 ++ (pm_i0_21 ++ (pm_i0_22 ++ (pm_i0_23 ++ (pm_i0_24 ++ (pm_i0_25 ++ (pm_i0_26 ++ (pm_i0_27)))))))))))))))) pc := (pm_q0_11 (by omega)).trans (pm_find_skip pm_i0_11 (pm_i0_12 ++ (pm_i0_13 ++ (pm_i0_14 ++ (pm_i0_15 ++ (pm_i0_16 ++ (pm_i0_17 ++ (pm_i0_18 ++ (pm_i0_19 ++ (pm_i0_20 ++ (pm_i0_21 ++ (pm_i0_22 ++ (pm_i0_23 ++ (pm_i0_24 ++ (pm_i0_25 ++ (pm_i0_26 ++ (pm_i0_27)))))))))))))))) pc (fun x hx => Nat.lt_of_lt_of_le ((by decide +kernel : ∀ x ∈ pm_i0_11, x.1 < 1034) x hx) h))
theorem pm_q0_13 {pc : Nat} (h : 1106 ≤ pc) : pm_find pm_i0 pc = pm_find (pm_i0_13 ++ (pm_i0_14 ++ (pm_i0_15 ++ (pm_i0_16 ++ (pm_i0_17 ++ (pm_i0_18 ++ (pm_i0_19 ++ (pm_i0_20 ++ (pm_i0_21 ++ (pm_i0_22 ++ (pm_i0_23 ++ (pm_i0_24 ++ (pm_i0_25 ++ (pm_i0_26 ++ (pm_i0_27))))))))))))))) pc := (pm_q0_12 (by omega)).trans (pm_find_skip pm_i0_12 (pm_i0_13 ++ (pm_i0_14 ++ (pm_i0_15 ++ (pm_i0_16 ++ (pm_i0_17 ++ (pm_i0_18 ++ (pm_i0_19 ++ (pm_i0_20 ++ (pm_i0_21 ++ (pm_i0_22 ++ (pm_i0_23 ++ (pm_i0_24 ++ (pm_i0_25 ++ (pm_i0_26 ++ (pm_i0_27))))))))))))))) pc (fun x hx => Nat.lt_of_lt_of_le ((by decide +kernel : ∀ x ∈ pm_i0_12, x.1 < 1106) x hx) h))
theorem pm_q0_14 {pc : Nat} (h : 1176 ≤ pc) : pm_find pm_i0 pc = pm_find (pm_i0_14 ++ (pm_i0_15 ++ (pm_i0_16 ++ (pm_i0_17 ++ (pm_i0_18 ++ (pm_i0_19 ++ (pm_i0_20 ++ (pm_i0_21 ++ (pm_i0_22 ++ (pm_i0_23 ++ (pm_i0_24 ++ (pm_i0_25 ++ (pm_i0_26 ++ (pm_i0_27)))))))))))))) pc := (pm_q0_13 (by omega)).trans (pm_find_skip pm_i0_13 (pm_i0_14 ++ (pm_i0_15 ++ (pm_i0_16 ++ (pm_i0_17 ++ (pm_i0_18 ++ (pm_i0_19 ++ (pm_i0_20 ++ (pm_i0_21 ++ (pm_i0_22 ++ (pm_i0_23 ++ (pm_i0_24 ++ (pm_i0_25 ++ (pm_i0_26 ++ (pm_i0_27)))))))))))))) pc (fun x hx => Nat.lt_of_lt_of_le ((by decide +kernel : ∀ x ∈ pm_i0_13, x.1 < 1176) x hx) h))
theorem pm_q0_15 {pc : Nat} (h : 1244 ≤ pc) : pm_find pm_i0 pc = pm_find (pm_i0_15 ++ (pm_i0_16 ++ (pm_i0_17 ++ (pm_i0_18 ++ (pm_i0_19 ++ (pm_i0_20 ++ (pm_i0_21 ++ (pm_i0_22 ++ (pm_i0_23 ++ (pm_i0_24 ++ (pm_i0_25 ++ (pm_i0_26 ++ (pm_i0_27))))))))))))) pc := (pm_q0_14 (by omega)).trans (pm_find_skip pm_i0_14 (pm_i0_15 ++ (pm_i0_16 ++ (pm_i0_17 ++ (pm_i0_18 ++ (pm_i0_19 ++ (pm_i0_20 ++ (pm_i0_21 ++ (pm_i0_22 ++ (pm_i0_23 ++ (pm_i0_24 ++ (pm_i0_25 ++ (pm_i0_26 ++ (pm_i0_27))))))))))))) pc (fun x hx => Nat.lt_of_lt_of_le ((by decide +kernel : ∀ x ∈ pm_i0_14, x.1 < 1244) x hx) h))
theorem pm_q0_16 {pc : Nat} (h : 1310 ≤ pc) : pm_find pm_i0 pc = pm_find (pm_i0_16 ++ (pm_i0_17 ++ (pm_i0_18 ++ (pm_i0_19 ++ (pm_i0_20 ++ (pm_i0_21 ++ (pm_i0_22 ++ (pm_i0_23 ++ (pm_i0_24 ++ (pm_i0_25 ++ (pm_i0_26 ++ (pm_i0_27)))))))))))) pc := (pm_q0_15 (by omega)).trans (pm_find_skip pm_i0_15 (pm_i0_16 ++ (pm_i0_17 ++ (pm_i0_18 ++ (pm_i0_19 ++ (pm_i0_20 ++ (pm_i0_21 ++ (pm_i0_22 ++ (pm_i0_23 ++ (pm_i0_24 ++ (pm_i0_25 ++ (pm_i0_26 ++ (pm_i0_27)))))))))))) pc (fun x hx => Nat.lt_of_lt_of_le ((by decide +kernel : ∀ x ∈ pm_i0_15, x.1 < 1310) x hx) h))
theorem pm_q0_17 {pc : Nat} (h : 1380 ≤ pc) : pm_find pm_i0 pc = pm_find (pm_i0_17 ++ (pm_i0_18 ++ (pm_i0_19 ++ (pm_i0_20 ++ (pm_i0_21 ++ (pm_i0_22 ++ (pm_i0_23 ++ (pm_i0_24 ++ (pm_i0_25 ++ (pm_i0_26 ++ (pm_i0_27))))))))))) pc := (pm_q0_16 (by omega)).trans (pm_find_skip pm_i0_16 (pm_i0_17 ++ (pm_i0_18 ++ (pm_i0_19 ++ (pm_i0_20 ++ (pm_i0_21 ++ (pm_i0_22 ++ (pm_i0_23 ++ (pm_i0_24 ++ (pm_i0_25 ++ (pm_i0_26 ++ (pm_i0_27))))))))))) pc (fun x hx => Nat.lt_of_lt_of_le ((by decide +kernel : ∀ x ∈ pm_i0_16, x.1 < 1380) x hx) h))
theorem pm_q0_18 {pc : Nat} (h : 1448 ≤ pc) : pm_find pm_i0 pc = pm_find (pm_i0_18 ++ (pm_i0_19 ++ (pm_i0_20 ++ (pm_i0_21 ++ (pm_i0_22 ++ (pm_i0_23 ++ (pm_i0_24 ++ (pm_i0_25 ++ (pm_i0_26 ++ (pm_i0_27)))))))))) pc := (pm_q0_17 (by omega)).trans (pm_find_skip pm_i0_17 (pm_i0_18 ++ (pm_i0_19 ++ (pm_i0_20 ++ (pm_i0_21 ++ (pm_i0_22 ++ (pm_i0_23 ++ (pm_i0_24 ++ (pm_i0_25 ++ (pm_i0_26 ++ (pm_i0_27)))))))))) pc (fun x hx => Nat.lt_of_lt_of_le ((by decide +kernel : ∀ x ∈ pm_i0_17, x.1 < 1448) x hx) h))
theorem pm_q0_19 {pc : Nat} (h : 1518 ≤ pc) : pm_find pm_i0 pc = pm_find (pm_i0_19 ++ (pm_i0_20 ++ (pm_i0_21 ++ (pm_i0_22 ++ (pm_i0_23 ++ (pm_i0_24 ++ (pm_i0_25 ++ (pm_i0_26 ++ (pm_i0_27))))))))) pc := (pm_q0_18 (by omega)).trans (pm_find_skip pm_i0_18 (pm_i0_19 ++ (pm_i0_20 ++ (pm_i0_21 ++ (pm_i0_22 ++ (pm_i0_23 ++ (pm_i0_24 ++ (pm_i0_25 ++ (pm_i0_26 ++ (pm_i0_27))))))))) pc (fun x hx => Nat.lt_of_lt_of_le ((by decide +kernel : ∀ x ∈ pm_i0_18, x.1 < 1518) x hx) h))
theorem pm_q0_20 {pc : Nat} (h : 1592 ≤ pc) : pm_find pm_i0 pc = pm_find (pm_i0_20 ++ (pm_i0_21 ++ (pm_i0_22 ++ (pm_i0_23 ++ (pm_i0_24 ++ (pm_i0_25 ++ (pm_i0_26 ++ (pm_i0_27)))))))) pc := (pm_q0_19 (by omega)).trans (pm_find_skip pm_i0_19 (pm_i0_20 ++ (pm_i0_21 ++ (pm_i0_22 ++ (pm_i0_23 ++ (pm_i0_24 ++ (pm_i0_25 ++ (pm_i0_26 ++ (pm_i0_27)))))))) pc (fun x hx => Nat.lt_of_lt_of_le ((by decide +kernel : ∀ x ∈ pm_i0_19, x.1 < 1592) x hx) h))
theorem pm_q0_21 {pc : Nat} (h : 1664 ≤ pc) : pm_find pm_i0 pc = pm_find (pm_i0_21 ++ (pm_i0_22 ++ (pm_i0_23 ++ (pm_i0_24 ++ (pm_i0_25 ++ (pm_i0_26 ++ (pm_i0_27))))))) pc := (pm_q0_20 (by omega)).trans (pm_find_skip pm_i0_20 (pm_i0_21 ++ (pm_i0_22 ++ (pm_i0_23 ++ (pm_i0_24 ++ (pm_i0_25 ++ (pm_i0_26 ++ (pm_i0_27))))))) pc (fun x hx => Nat.lt_of_lt_of_le ((by decide +kernel : ∀ x ∈ pm_i0_20, x.1 < 1664) x hx) h))
theorem pm_q0_22 {pc : Nat} (h : 1732 ≤ pc) : pm_find pm_i0 pc = pm_find (pm_i0_22 ++ (pm_i0_23 ++ (pm_i0_24 ++ (pm_i0_25 ++ (pm_i0_26 ++ (pm_i0_27)))))) pc := (pm_q0_21 (by omega)).trans (pm_find_skip pm_i0_21 (pm_i0_22 ++ (pm_i0_23 ++ (pm_i0_24 ++ (pm_i0_25 ++ (pm_i0_26 ++ (pm_i0_27)))))) pc (fun x hx => Nat.lt_of_lt_of_le ((by decide +kernel : ∀ x ∈ pm_i0_21, x.1 < 1732) x hx) h))
theorem pm_q0_23 {pc : Nat} (h : 1802 ≤ pc) : pm_find pm_i0 pc = pm_find (pm_i0_23 ++ (pm_i0_24 ++ (pm_i0_25 ++ (pm_i0_26 ++ (pm_i0_27))))) pc := (pm_q0_22 (by omega)).trans (pm_find_skip pm_i0_22 (pm_i0_23 ++ (pm_i0_24 ++ (pm_i0_25 ++ (pm_i0_26 ++ (pm_i0_27))))) pc (fun x hx => Nat.lt_of_lt_of_le ((by decide +kernel : ∀ x ∈ pm_i0_22, x.1 < 1802) x hx) h))
theorem pm_q0_24 {pc : Nat} (h : 1870 ≤ pc) : pm_find pm_i0 pc = pm_find (pm_i0_24 ++ (pm_i0_25 ++ (pm_i0_26 ++ (pm_i0_27)))) pc := (pm_q0_23 (by omega)).trans (pm_find_skip pm_i0_23 (pm_i0_24 ++ (pm_i0_25 ++ (pm_i0_26 ++ (pm_i0_27)))) pc (fun x hx => Nat.lt_of_lt_of_le ((by decide +kernel : ∀ x ∈ pm_i0_23, x.1 < 1870) x hx) h))
theorem pm_q0_25 {pc : Nat} (h : 1937 ≤ pc) : pm_find pm_i0 pc = pm_find (pm_i0_25 ++ (pm_i0_26 ++ (pm_i0_27))) pc := (pm_q0_24 (by omega)).trans (pm_find_skip pm_i0_24 (pm_i0_25 ++ (pm_i0_26 ++ (pm_i0_27))) pc (fun x hx => Nat.lt_of_lt_of_le ((by decide +kernel : ∀ x ∈ pm_i0_24, x.1 < 1937) x hx) h))
theorem pm_q0_26 {pc : Nat} (h : 2008 ≤ pc) : pm_find pm_i0 pc = pm_find (pm_i0_26 ++ (pm_i0_27)) pc := (pm_q0_25 (by omega)).trans (pm_find_skip pm_i0_25 (pm_i0_26 ++ (pm_i0_27)) pc (fun x hx => Nat.lt_of_lt_of_le ((by decide +kernel : ∀ x ∈ pm_i0_25, x.1 < 2008) x hx) h))
theorem pm_q0_27 {pc : Nat} (h : 2082 ≤ pc) : pm_find pm_i0 pc = pm_find (pm_i0_27) pc := (pm_q0_26 (by omega)).trans (pm_find_skip pm_i0_26 (pm_i0_27) pc (fun x hx => Nat.lt_of_lt_of_le ((by decide +kernel : ∀ x ∈ pm_i0_26, x.1 < 2082) x hx) h))
theorem pm_q10_1 {pc : Nat} (h : 116 ≤ pc) : pm_find pm_i10 pc = pm_find (pm_i10_1) pc := ((rfl : pm_find pm_i10 pc = pm_find (pm_i10_0 ++ (pm_i10_1)) pc)).trans (pm_find_skip pm_i10_0 (pm_i10_1) pc (fun x hx => Nat.lt_of_lt_of_le ((by decide +kernel : ∀ x ∈ pm_i10_0, x.1 < 116) x hx) h))
theorem pm_q15_1 {pc : Nat} (h : 128 ≤ pc) : pm_find pm_i15 pc = pm_find (pm_i15_1) pc := ((rfl : pm_find pm_i15 pc = pm_find (pm_i15_0 ++ (pm_i15_1)) pc)).trans (pm_find_skip pm_i15_0 (pm_i15_1) pc (fun x hx => Nat.lt_of_lt_of_le ((by decide +kernel : ∀ x ∈ pm_i15_0, x.1 < 128) x hx) h))
theorem pm_q16_1 {pc : Nat} (h : 122 ≤ pc) : pm_find pm_i16 pc = pm_find (pm_i16_1) pc := ((rfl : pm_find pm_i16 pc = pm_find (pm_i16_0 ++ (pm_i16_1)) pc)).trans (pm_find_skip pm_i16_0 (pm_i16_1) pc (fun x hx => Nat.lt_of_lt_of_le ((by decide +kernel : ∀ x ∈ pm_i16_0, x.1 < 122) x hx) h))
theorem pm_q37_1 {pc : Nat} (h : 109 ≤ pc) : pm_find pm_i37 pc = pm_find (pm_i37_1) pc := ((rfl : pm_find pm_i37 pc = pm_find (pm_i37_0 ++ (pm_i37_1)) pc)).trans (pm_find_skip pm_i37_0 (pm_i37_1) pc (fun x hx => Nat.lt_of_lt_of_le ((by decide +kernel : ∀ x ∈ pm_i37_0, x.1 < 109) x hx) h))
theorem pm_q39_1 {pc : Nat} (h : 100 ≤ pc) : pm_find pm_i39 pc = pm_find (pm_i39_1) pc := ((rfl : pm_find pm_i39 pc = pm_find (pm_i39_0 ++ (pm_i39_1)) pc)).trans (pm_find_skip pm_i39_0 (pm_i39_1) pc (fun x hx => Nat.lt_of_lt_of_le ((by decide +kernel : ∀ x ∈ pm_i39_0, x.1 < 100) x hx) h))
theorem pm_q44_1 {pc : Nat} (h : 113 ≤ pc) : pm_find pm_i44 pc = pm_find (pm_i44_1) pc := ((rfl : pm_find pm_i44 pc = pm_find (pm_i44_0 ++ (pm_i44_1)) pc)).trans (pm_find_skip pm_i44_0 (pm_i44_1) pc (fun x hx => Nat.lt_of_lt_of_le ((by decide +kernel : ∀ x ∈ pm_i44_0, x.1 < 113) x hx) h))
theorem pm_q46_1 {pc : Nat} (h : 101 ≤ pc) : pm_find pm_i46 pc = pm_find (pm_i46_1) pc := ((rfl : pm_find pm_i46 pc = pm_find (pm_i46_0 ++ (pm_i46_1)) pc)).trans (pm_find_skip pm_i46_0 (pm_i46_1) pc (fun x hx => Nat.lt_of_lt_of_le ((by decide +kernel : ∀ x ∈ pm_i46_0, x.1 < 101) x hx) h))
theorem pm_q48_1 {pc : Nat} (h : 108 ≤ pc) : pm_find pm_i48 pc = pm_find (pm_i48_1) pc := ((rfl : pm_find pm_i48 pc = pm_find (pm_i48_0 ++ (pm_i48_1)) pc)).trans (pm_find_skip pm_i48_0 (pm_i48_1) pc (fun x hx => Nat.lt_of_lt_of_le ((by decide +kernel : ∀ x ∈ pm_i48_0, x.1 < 108) x hx) h))
theorem pm_q59_1 {pc : Nat} (h : 102 ≤ pc) : pm_find pm_i59 pc = pm_find (pm_i59_1) pc := ((rfl : pm_find pm_i59 pc = pm_find (pm_i59_0 ++ (pm_i59_1)) pc)).trans (pm_find_skip pm_i59_0 (pm_i59_1) pc (fun x hx => Nat.lt_of_lt_of_le ((by decide +kernel : ∀ x ∈ pm_i59_0, x.1 < 102) x hx) h))
theorem pm_q86_1 {pc : Nat} (h : 101 ≤ pc) : pm_find pm_i86 pc = pm_find (pm_i86_1 ++ (pm_i86_2)) pc := ((rfl : pm_find pm_i86 pc = pm_find (pm_i86_0 ++ (pm_i86_1 ++ (pm_i86_2))) pc)).trans (pm_find_skip pm_i86_0 (pm_i86_1 ++ (pm_i86_2)) pc (fun x hx => Nat.lt_of_lt_of_le ((by decide +kernel : ∀ x ∈ pm_i86_0, x.1 < 101) x hx) h))
theorem pm_q86_2 {pc : Nat} (h : 207 ≤ pc) : pm_find pm_i86 pc = pm_find (pm_i86_2) pc := (pm_q86_1 (by omega)).trans (pm_find_skip pm_i86_1 (pm_i86_2) pc (fun x hx => Nat.lt_of_lt_of_le ((by decide +kernel : ∀ x ∈ pm_i86_1, x.1 < 207) x hx) h))
theorem pm_q87_1 {pc : Nat} (h : 114 ≤ pc) : pm_find pm_i87 pc = pm_find (pm_i87_1) pc := ((rfl : pm_find pm_i87 pc = pm_find (pm_i87_0 ++ (pm_i87_1)) pc)).trans (pm_find_skip pm_i87_0 (pm_i87_1) pc (fun x hx => Nat.lt_of_lt_of_le ((by decide +kernel : ∀ x ∈ pm_i87_0, x.1 < 114) x hx) h))
theorem pm_q90_1 {pc : Nat} (h : 115 ≤ pc) : pm_find pm_i90 pc = pm_find (pm_i90_1) pc := ((rfl : pm_find pm_i90 pc = pm_find (pm_i90_0 ++ (pm_i90_1)) pc)).trans (pm_find_skip pm_i90_0 (pm_i90_1) pc (fun x hx => Nat.lt_of_lt_of_le ((by decide +kernel : ∀ x ∈ pm_i90_0, x.1 < 115) x hx) h))
theorem pm_q92_1 {pc : Nat} (h : 113 ≤ pc) : pm_find pm_i92 pc = pm_find (pm_i92_1 ++ (pm_i92_2)) pc := ((rfl : pm_find pm_i92 pc = pm_find (pm_i92_0 ++ (pm_i92_1 ++ (pm_i92_2))) pc)).trans (pm_find_skip pm_i92_0 (pm_i92_1 ++ (pm_i92_2)) pc (fun x hx => Nat.lt_of_lt_of_le ((by decide +kernel : ∀ x ∈ pm_i92_0, x.1 < 113) x hx) h))
theorem pm_q92_2 {pc : Nat} (h : 219 ≤ pc) : pm_find pm_i92 pc = pm_find (pm_i92_2) pc := (pm_q92_1 (by omega)).trans (pm_find_skip pm_i92_1 (pm_i92_2) pc (fun x hx => Nat.lt_of_lt_of_le ((by decide +kernel : ∀ x ∈ pm_i92_1, x.1 < 219) x hx) h))
theorem pm_q95_1 {pc : Nat} (h : 107 ≤ pc) : pm_find pm_i95 pc = pm_find (pm_i95_1) pc := ((rfl : pm_find pm_i95 pc = pm_find (pm_i95_0 ++ (pm_i95_1)) pc)).trans (pm_find_skip pm_i95_0 (pm_i95_1) pc (fun x hx => Nat.lt_of_lt_of_le ((by decide +kernel : ∀ x ∈ pm_i95_0, x.1 < 107) x hx) h))
theorem pm_q96_1 {pc : Nat} (h : 106 ≤ pc) : pm_find pm_i96 pc = pm_find (pm_i96_1) pc := ((rfl : pm_find pm_i96 pc = pm_find (pm_i96_0 ++ (pm_i96_1)) pc)).trans (pm_find_skip pm_i96_0 (pm_i96_1) pc (fun x hx => Nat.lt_of_lt_of_le ((by decide +kernel : ∀ x ∈ pm_i96_0, x.1 < 106) x hx) h))
theorem pm_q103_1 {pc : Nat} (h : 104 ≤ pc) : pm_find pm_i103 pc = pm_find (pm_i103_1) pc := ((rfl : pm_find pm_i103 pc = pm_find (pm_i103_0 ++ (pm_i103_1)) pc)).trans (pm_find_skip pm_i103_0 (pm_i103_1) pc (fun x hx => Nat.lt_of_lt_of_le ((by decide +kernel : ∀ x ∈ pm_i103_0, x.1 < 104) x hx) h))
theorem pm_q120_1 {pc : Nat} (h : 120 ≤ pc) : pm_find pm_i120 pc = pm_find (pm_i120_1) pc := ((rfl : pm_find pm_i120 pc = pm_find (pm_i120_0 ++ (pm_i120_1)) pc)).trans (pm_find_skip pm_i120_0 (pm_i120_1) pc (fun x hx => Nat.lt_of_lt_of_le ((by decide +kernel : ∀ x ∈ pm_i120_0, x.1 < 120) x hx) h))
theorem pm_q125_1 {pc : Nat} (h : 110 ≤ pc) : pm_find pm_i125 pc = pm_find (pm_i125_1) pc := ((rfl : pm_find pm_i125 pc = pm_find (pm_i125_0 ++ (pm_i125_1)) pc)).trans (pm_find_skip pm_i125_0 (pm_i125_1) pc (fun x hx => Nat.lt_of_lt_of_le ((by decide +kernel : ∀ x ∈ pm_i125_0, x.1 < 110) x hx) h))
theorem pm_q127_1 {pc : Nat} (h : 101 ≤ pc) : pm_find pm_i127 pc = pm_find (pm_i127_1) pc := ((rfl : pm_find pm_i127 pc = pm_find (pm_i127_0 ++ (pm_i127_1)) pc)).trans (pm_find_skip pm_i127_0 (pm_i127_1) pc (fun x hx => Nat.lt_of_lt_of_le ((by decide +kernel : ∀ x ∈ pm_i127_0, x.1 < 101) x hx) h))
theorem pm_q129_1 {pc : Nat} (h : 107 ≤ pc) : pm_find pm_i129 pc = pm_find (pm_i129_1) pc := ((rfl : pm_find pm_i129 pc = pm_find (pm_i129_0 ++ (pm_i129_1)) pc)).trans (pm_find_skip pm_i129_0 (pm_i129_1) pc (fun x hx => Nat.lt_of_lt_of_le ((by decide +kernel : ∀ x ∈ pm_i129_0, x.1 < 107) x hx) h))
theorem pm_q130_1 {pc : Nat} (h : 84 ≤ pc) : pm_find pm_i130 pc = pm_find (pm_i130_1) pc := ((rfl : pm_find pm_i130 pc = pm_find (pm_i130_0 ++ (pm_i130_1)) pc)).trans (pm_find_skip pm_i130_0 (pm_i130_1) pc (fun x hx => Nat.lt_of_lt_of_le ((by decide +kernel : ∀ x ∈ pm_i130_0, x.1 < 84) x hx) h))
theorem pm_q150_1 {pc : Nat} (h : 114 ≤ pc) : pm_find pm_i150 pc = pm_find (pm_i150_1) pc := ((rfl : pm_find pm_i150 pc = pm_find (pm_i150_0 ++ (pm_i150_1)) pc)).trans (pm_find_skip pm_i150_0 (pm_i150_1) pc (fun x hx => Nat.lt_of_lt_of_le ((by decide +kernel : ∀ x ∈ pm_i150_0, x.1 < 114) x hx) h))
theorem pm_q165_1 {pc : Nat} (h : 105 ≤ pc) : pm_find pm_i165 pc = pm_find (pm_i165_1) pc := ((rfl : pm_find pm_i165 pc = pm_find (pm_i165_0 ++ (pm_i165_1)) pc)).trans (pm_find_skip pm_i165_0 (pm_i165_1) pc (fun x hx => Nat.lt_of_lt_of_le ((by decide +kernel : ∀ x ∈ pm_i165_0, x.1 < 105) x hx) h))
theorem pm_q166_1 {pc : Nat} (h : 132 ≤ pc) : pm_find pm_i166 pc = pm_find (pm_i166_1) pc := ((rfl : pm_find pm_i166 pc = pm_find (pm_i166_0 ++ (pm_i166_1)) pc)).trans (pm_find_skip pm_i166_0 (pm_i166_1) pc (fun x hx => Nat.lt_of_lt_of_le ((by decide +kernel : ∀ x ∈ pm_i166_0, x.1 < 132) x hx) h))
theorem pm_q170_1 {pc : Nat} (h : 123 ≤ pc) : pm_find pm_i170 pc = pm_find (pm_i170_1 ++ (pm_i170_2)) pc := ((rfl : pm_find pm_i170 pc = pm_find (pm_i170_0 ++ (pm_i170_1 ++ (pm_i170_2))) pc)).trans (pm_find_skip pm_i170_0 (pm_i170_1 ++ (pm_i170_2)) pc (fun x hx => Nat.lt_of_lt_of_le ((by decide +kernel : ∀ x ∈ pm_i170_0, x.1 < 123) x hx) h))
theorem pm_q170_2 {pc : Nat} (h : 242 ≤ pc) : pm_find pm_i170 pc = pm_find (pm_i170_2) pc := (pm_q170_1 (by omega)).trans (pm_find_skip pm_i170_1 (pm_i170_2) pc (fun x hx => Nat.lt_of_lt_of_le ((by decide +kernel : ∀ x ∈ pm_i170_1, x.1 < 242) x hx) h))
theorem pm_q175_1 {pc : Nat} (h : 99 ≤ pc) : pm_find pm_i175 pc = pm_find (pm_i175_1) pc := ((rfl : pm_find pm_i175 pc = pm_find (pm_i175_0 ++ (pm_i175_1)) pc)).trans (pm_find_skip pm_i175_0 (pm_i175_1) pc (fun x hx => Nat.lt_of_lt_of_le ((by decide +kernel : ∀ x ∈ pm_i175_0, x.1 < 99) x hx) h))
theorem pm_q178_1 {pc : Nat} (h : 106 ≤ pc) : pm_find pm_i178 pc = pm_find (pm_i178_1) pc := ((rfl : pm_find pm_i178 pc = pm_find (pm_i178_0 ++ (pm_i178_1)) pc)).trans (pm_find_skip pm_i178_0 (pm_i178_1) pc (fun x hx => Nat.lt_of_lt_of_le ((by decide +kernel : ∀ x ∈ pm_i178_0, x.1 < 106) x hx) h))
theorem pm_q179_1 {pc : Nat} (h : 115 ≤ pc) : pm_find pm_i179 pc = pm_find (pm_i179_1 ++ (pm_i179_2)) pc := ((rfl : pm_find pm_i179 pc = pm_find (pm_i179_0 ++ (pm_i179_1 ++ (pm_i179_2))) pc)).trans (pm_find_skip pm_i179_0 (pm_i179_1 ++ (pm_i179_2)) pc (fun x hx => Nat.lt_of_lt_of_le ((by decide +kernel : ∀ x ∈ pm_i179_0, x.1 < 115) x hx) h))
theorem pm_q179_2 {pc : Nat} (h : 234 ≤ pc) : pm_find pm_i179 pc = pm_find (pm_i179_2) pc := (pm_q179_1 (by omega)).trans (pm_find_skip pm_i179_1 (pm_i179_2) pc (fun x hx => Nat.lt_of_lt_of_le ((by decide +kernel : ∀ x ∈ pm_i179_1, x.1 < 234) x hx) h))
theorem pm_q187_1 {pc : Nat} (h : 108 ≤ pc) : pm_find pm_i187 pc = pm_find (pm_i187_1 ++ (pm_i187_2)) pc := ((rfl : pm_find pm_i187 pc = pm_find (pm_i187_0 ++ (pm_i187_1 ++ (pm_i187_2))) pc)).trans (pm_find_skip pm_i187_0 (pm_i187_1 ++ (pm_i187_2)) pc (fun x hx => Nat.lt_of_lt_of_le ((by decide +kernel : ∀ x ∈ pm_i187_0, x.1 < 108) x hx) h))
theorem pm_q187_2 {pc : Nat} (h : 207 ≤ pc) : pm_find pm_i187 pc = pm_find (pm_i187_2) pc := (pm_q187_1 (by omega)).trans (pm_find_skip pm_i187_1 (pm_i187_2) pc (fun x hx => Nat.lt_of_lt_of_le ((by decide +kernel : ∀ x ∈ pm_i187_1, x.1 < 207) x hx) h))
theorem pm_q189_1 {pc : Nat} (h : 113 ≤ pc) : pm_find pm_i189 pc = pm_find (pm_i189_1 ++ (pm_i189_2)) pc := ((rfl : pm_find pm_i189 pc = pm_find (pm_i189_0 ++ (pm_i189_1 ++ (pm_i189_2))) pc)).trans (pm_find_skip pm_i189_0 (pm_i189_1 ++ (pm_i189_2)) pc (fun x hx => Nat.lt_of_lt_of_le ((by decide +kernel : ∀ x ∈ pm_i189_0, x.1 < 113) x hx) h))
theorem pm_q189_2 {pc : Nat} (h : 218 ≤ pc) : pm_find pm_i189 pc = pm_find (pm_i189_2) pc := (pm_q189_1 (by omega)).trans (pm_find_skip pm_i189_1 (pm_i189_2) pc (fun x hx => Nat.lt_of_lt_of_le ((by decide +kernel : ∀ x ∈ pm_i189_1, x.1 < 218) x hx) h))
theorem pm_q192_1 {pc : Nat} (h : 115 ≤ pc) : pm_find pm_i192 pc = pm_find (pm_i192_1) pc := ((rfl : pm_find pm_i192 pc = pm_find (pm_i192_0 ++ (pm_i192_1)) pc)).trans (pm_find_skip pm_i192_0 (pm_i192_1) pc (fun x hx => Nat.lt_of_lt_of_le ((by decide +kernel : ∀ x ∈ pm_i192_0, x.1 < 115) x hx) h))
theorem pm_q202_1 {pc : Nat} (h : 105 ≤ pc) : pm_find pm_i202 pc = pm_find (pm_i202_1) pc := ((rfl : pm_find pm_i202 pc = pm_find (pm_i202_0 ++ (pm_i202_1)) pc)).trans (pm_find_skip pm_i202_0 (pm_i202_1) pc (fun x hx => Nat.lt_of_lt_of_le ((by decide +kernel : ∀ x ∈ pm_i202_0, x.1 < 105) x hx) h))
theorem pm_q216_1 {pc : Nat} (h : 106 ≤ pc) : pm_find pm_i216 pc = pm_find (pm_i216_1) pc := ((rfl : pm_find pm_i216 pc = pm_find (pm_i216_0 ++ (pm_i216_1)) pc)).trans (pm_find_skip pm_i216_0 (pm_i216_1) pc (fun x hx => Nat.lt_of_lt_of_le ((by decide +kernel : ∀ x ∈ pm_i216_0, x.1 < 106) x hx) h))
theorem pm_q224_1 {pc : Nat} (h : 102 ≤ pc) : pm_find pm_i224 pc = pm_find (pm_i224_1) pc := ((rfl : pm_find pm_i224 pc = pm_find (pm_i224_0 ++ (pm_i224_1)) pc)).trans (pm_find_skip pm_i224_0 (pm_i224_1) pc (fun x hx => Nat.lt_of_lt_of_le ((by decide +kernel : ∀ x ∈ pm_i224_0, x.1 < 102) x hx) h))
theorem pm_q226_1 {pc : Nat} (h : 106 ≤ pc) : pm_find pm_i226 pc = pm_find (pm_i226_1) pc := ((rfl : pm_find pm_i226 pc = pm_find (pm_i226_0 ++ (pm_i226_1)) pc)).trans (pm_find_skip pm_i226_0 (pm_i226_1) pc (fun x hx => Nat.lt_of_lt_of_le ((by decide +kernel : ∀ x ∈ pm_i226_0, x.1 < 106) x hx) h))
theorem pm_q228_1 {pc : Nat} (h : 106 ≤ pc) : pm_find pm_i228 pc = pm_find (pm_i228_1) pc := ((rfl : pm_find pm_i228 pc = pm_find (pm_i228_0 ++ (pm_i228_1)) pc)).trans (pm_find_skip pm_i228_0 (pm_i228_1) pc (fun x hx => Nat.lt_of_lt_of_le ((by decide +kernel : ∀ x ∈ pm_i228_0, x.1 < 106) x hx) h))
theorem pm_q229_1 {pc : Nat} (h : 111 ≤ pc) : pm_find pm_i229 pc = pm_find (pm_i229_1) pc := ((rfl : pm_find pm_i229 pc = pm_find (pm_i229_0 ++ (pm_i229_1)) pc)).trans (pm_find_skip pm_i229_0 (pm_i229_1) pc (fun x hx => Nat.lt_of_lt_of_le ((by decide +kernel : ∀ x ∈ pm_i229_0, x.1 < 111) x hx) h))
theorem pm_q232_1 {pc : Nat} (h : 108 ≤ pc) : pm_find pm_i232 pc = pm_find (pm_i232_1) pc := ((rfl : pm_find pm_i232 pc = pm_find (pm_i232_0 ++ (pm_i232_1)) pc)).trans (pm_find_skip pm_i232_0 (pm_i232_1) pc (fun x hx => Nat.lt_of_lt_of_le ((by decide +kernel : ∀ x ∈ pm_i232_0, x.1 < 108) x hx) h))
theorem pm_q251_1 {pc : Nat} (h : 107 ≤ pc) : pm_find pm_i251 pc = pm_find (pm_i251_1) pc := ((rfl : pm_find pm_i251 pc = pm_find (pm_i251_0 ++ (pm_i251_1)) pc)).trans (pm_find_skip pm_i251_0 (pm_i251_1) pc (fun x hx => Nat.lt_of_lt_of_le ((by decide +kernel : ∀ x ∈ pm_i251_0, x.1 < 107) x hx) h))
theorem pm_q253_1 {pc : Nat} (h : 110 ≤ pc) : pm_find pm_i253 pc = pm_find (pm_i253_1) pc := ((rfl : pm_find pm_i253 pc = pm_find (pm_i253_0 ++ (pm_i253_1)) pc)).trans (pm_find_skip pm_i253_0 (pm_i253_1) pc (fun x hx => Nat.lt_of_lt_of_le ((by decide +kernel : ∀ x ∈ pm_i253_0, x.1 < 110) x hx) h))
theorem pm_q254_1 {pc : Nat} (h : 98 ≤ pc) : pm_find pm_i254 pc = pm_find (pm_i254_1 ++ (pm_i254_2)) pc := ((rfl : pm_find pm_i254 pc = pm_find (pm_i254_0 ++ (pm_i254_1 ++ (pm_i254_2))) pc)).trans (pm_find_skip pm_i254_0 (pm_i254_1 ++ (pm_i254_2)) pc (fun x hx => Nat.lt_of_lt_of_le ((by decide +kernel : ∀ x ∈ pm_i254_0, x.1 < 98) x hx) h))
theorem pm_q254_2 {pc : Nat} (h : 197 ≤ pc) : pm_find pm_i254 pc = pm_find (pm_i254_2) pc := (pm_q254_1 (by omega)).trans (pm_find_skip pm_i254_1 (pm_i254_2) pc (fun x hx => Nat.lt_of_lt_of_le ((by decide +kernel : ∀ x ∈ pm_i254_1, x.1 < 197) x hx) h))
theorem pm_q261_1 {pc : Nat} (h : 110 ≤ pc) : pm_find pm_i261 pc = pm_find (pm_i261_1) pc := ((rfl : pm_find pm_i261 pc = pm_find (pm_i261_0 ++ (pm_i261_1)) pc)).trans (pm_find_skip pm_i261_0 (pm_i261_1) pc (fun x hx => Nat.lt_of_lt_of_le ((by decide +kernel : ∀ x ∈ pm_i261_0, x.1 < 110) x hx) h))
theorem pm_q264_1 {pc : Nat} (h : 108 ≤ pc) : pm_find pm_i264 pc = pm_find (pm_i264_1) pc := ((rfl : pm_find pm_i264 pc = pm_find (pm_i264_0 ++ (pm_i264_1)) pc)).trans (pm_find_skip pm_i264_0 (pm_i264_1) pc (fun x hx => Nat.lt_of_lt_of_le ((by decide +kernel : ∀ x ∈ pm_i264_0, x.1 < 108) x hx) h))
theorem pm_q266_1 {pc : Nat} (h : 115 ≤ pc) : pm_find pm_i266 pc = pm_find (pm_i266_1) pc := ((rfl : pm_find pm_i266 pc = pm_find (pm_i266_0 ++ (pm_i266_1)) pc)).trans (pm_find_skip pm_i266_0 (pm_i266_1) pc (fun x hx => Nat.lt_of_lt_of_le ((by decide +kernel : ∀ x ∈ pm_i266_0, x.1 < 115) x hx) h))
theorem pm_q277_1 {pc : Nat} (h : 132 ≤ pc) : pm_find pm_i277 pc = pm_find (pm_i277_1) pc := ((rfl : pm_find pm_i277 pc = pm_find (pm_i277_0 ++ (pm_i277_1)) pc)).trans (pm_find_skip pm_i277_0 (pm_i277_1) pc (fun x hx => Nat.lt_of_lt_of_le ((by decide +kernel : ∀ x ∈ pm_i277_0, x.1 < 132) x hx) h))
theorem pm_q284_1 {pc : Nat} (h : 108 ≤ pc) : pm_find pm_i284 pc = pm_find (pm_i284_1) pc := ((rfl : pm_find pm_i284 pc = pm_find (pm_i284_0 ++ (pm_i284_1)) pc)).trans (pm_find_skip pm_i284_0 (pm_i284_1) pc (fun x hx => Nat.lt_of_lt_of_le ((by decide +kernel : ∀ x ∈ pm_i284_0, x.1 < 108) x hx) h))
theorem pm_q287_1 {pc : Nat} (h : 103 ≤ pc) : pm_find pm_i287 pc = pm_find (pm_i287_1) pc := ((rfl : pm_find pm_i287 pc = pm_find (pm_i287_0 ++ (pm_i287_1)) pc)).trans (pm_find_skip pm_i287_0 (pm_i287_1) pc (fun x hx => Nat.lt_of_lt_of_le ((by decide +kernel : ∀ x ∈ pm_i287_0, x.1 < 103) x hx) h))
theorem pm_q288_1 {pc : Nat} (h : 106 ≤ pc) : pm_find pm_i288 pc = pm_find (pm_i288_1) pc := ((rfl : pm_find pm_i288 pc = pm_find (pm_i288_0 ++ (pm_i288_1)) pc)).trans (pm_find_skip pm_i288_0 (pm_i288_1) pc (fun x hx => Nat.lt_of_lt_of_le ((by decide +kernel : ∀ x ∈ pm_i288_0, x.1 < 106) x hx) h))
theorem pm_q291_1 {pc : Nat} (h : 105 ≤ pc) : pm_find pm_i291 pc = pm_find (pm_i291_1) pc := ((rfl : pm_find pm_i291 pc = pm_find (pm_i291_0 ++ (pm_i291_1)) pc)).trans (pm_find_skip pm_i291_0 (pm_i291_1) pc (fun x hx => Nat.lt_of_lt_of_le ((by decide +kernel : ∀ x ∈ pm_i291_0, x.1 < 105) x hx) h))
theorem pm_q296_1 {pc : Nat} (h : 103 ≤ pc) : pm_find pm_i296 pc = pm_find (pm_i296_1) pc := ((rfl : pm_find pm_i296 pc = pm_find (pm_i296_0 ++ (pm_i296_1)) pc)).trans (pm_find_skip pm_i296_0 (pm_i296_1) pc (fun x hx => Nat.lt_of_lt_of_le ((by decide +kernel : ∀ x ∈ pm_i296_0, x.1 < 103) x hx) h))
end
section
section PMC
variable {d mid pc pc_q : Nat} {ls st : List Value} {h : pm_H} {Q : Option Value → pm_H → Prop} {q : pm_M} {l : List (Nat × Instr × Nat)} {L : Nat}
theorem pm_call_mk {c ix callee np kd : Nat} {i : Instr} {qc : pm_M} {ra rest : List Value} (hi : pm_ix i kd = some ix) (hC : pm_at pm_CL c ix = some (callee, np, kd)) (hq : pm_ms[callee]? = some qc) (hl : ra.length = (if kd = 2 ∨ kd = 5 then np else np + 1)) (hs : (rest.map fun v => v.category).sum ≤ 8) (hr : pm_rcv kd qc h ra.reverse = true) : pm_call c i (ra ++ rest) h = some (callee, ra.reverse, rest) := by
  have hcix : pm_cix i = some ix := by
    unfold pm_ix at hi
    split at hi <;> first | exact hi | cases hi
  unfold pm_call
  rw [hcix]
  show (pm_at pm_CL c ix).bind _ = _
  rw [hC]
  show (pm_ms[callee]?).bind _ = _
  rw [hq]
  show (if pm_ix i kd = some ix ∧ (if kd = 2 ∨ kd = 5 then np else np + 1) ≤ (ra ++ rest).length ∧ (((ra ++ rest).drop (if kd = 2 ∨ kd = 5 then np else np + 1)).map fun v => v.category).sum ≤ 8 ∧ pm_rcv kd qc h ((ra ++ rest).take (if kd = 2 ∨ kd = 5 then np else np + 1)).reverse = true then some (callee, ((ra ++ rest).take (if kd = 2 ∨ kd = 5 then np else np + 1)).reverse, (ra ++ rest).drop (if kd = 2 ∨ kd = 5 then np else np + 1)) else none) = _
  rw [← hl, List.take_left, List.drop_left]
  rw [if_pos ⟨hi, by rw [List.length_append]; omega, hs, hr⟩]
theorem pm_noret_call {ret : Option FieldType} {i : Instr} {st : List Value} {kd ix : Nat} (hi : pm_ix i kd = some ix) : pm_ret ret i st = none := by
  refine pm_noret ret (Or.inl ?_)
  unfold pm_ix at hi
  split at hi <;> first | (intro hh; cases hh; done) | cases hi
/-- a virtual call: the arguments lie on the stack, the last one first -/
theorem pm_R_cv (hM : pm_Mt mid q l) {ix callee np kd a ci : Nat} {fs ra rest ls_q : List Value} {qc : pm_M} {lc : List (Nat × Instr × Nat)} (hf : pm_find l pc = some (.invokevirtual ix, L)) (hC : pm_at pm_CL q.2.2.2.2 ix = some (callee, np, kd)) (hk : kd = 0 ∨ kd = 3) (hMc : pm_Mt callee qc lc) (hrc : h.2.2 a = .inr (ci, fs)) (hcl : (pm_cl[ci]?).map (fun r => r.1) = some qc.1.cls) (h1 : 16 ≤ a) (h2 : a < h.1) (hst : st = (ra ++ [.ref a]) ++ rest) (hn : ra.length = np) (hs : (rest.map fun v => v.category).sum ≤ 8) (he : pm_ent qc.2.2.1 (.ref a :: ra.reverse) = some ls_q) (hp : pc + 3 = pc_q) (kk : pm_R d callee 0 ls_q [] h (fun r h_q => pm_R (d + 1) mid pc_q ls (r.toList ++ rest) h_q Q)) : pm_R (d + 1) mid pc ls st h Q := by
  subst hst
  have hi : pm_ix (.invokevirtual ix) kd = some ix := by rcases hk with rfl | rfl <;> rfl
  have hrev : (ra ++ [Value.ref a]).reverse = .ref a :: ra.reverse := by rw [List.reverse_append]; rfl
  have hr : pm_rcv kd qc h (ra ++ [Value.ref a]).reverse = true := by
    rw [hrev]
    have e : pm_rc qc h a = true := by
      unfold pm_rc
      rw [hrc]
      show (decide (16 ≤ a ∧ a < h.1) && decide ((pm_cl[ci]?).map (fun r => r.1) = some qc.1.cls)) = true
      rw [decide_eq_true ⟨h1, h2⟩, decide_eq_true hcl]
      rfl
    rcases hk with rfl | rfl <;> exact e
  have hc := pm_call_mk (ra := ra ++ [.ref a]) (rest := rest) hi hC hMc.1 (by rw [List.length_append, if_neg (by omega), hn]; rfl) hs hr
  rw [hrev] at hc
  exact pm_R_call hM hf (pm_noret_call hi) hc hMc he hp kk
theorem pm_R_ci (hM : pm_Mt mid q l) {ix callee np kd a : Nat} {ra rest ls_q : List Value} {qc : pm_M} {lc : List (Nat × Instr × Nat)} (hf : pm_find l pc = some (.invokespecial ix, L)) (hC : pm_at pm_CL q.2.2.2.2 ix = some (callee, np, kd)) (hk : kd = 1 ∨ kd = 4) (hMc : pm_Mt callee qc lc) (hst : st = (ra ++ [.ref a]) ++ rest) (hn : ra.length = np) (hs : (rest.map fun v => v.category).sum ≤ 8) (he : pm_ent qc.2.2.1 (.ref a :: ra.reverse) = some ls_q) (hp : pc + 3 = pc_q) (kk : pm_R d callee 0 ls_q [] h (fun r h_q => pm_R (d + 1) mid pc_q ls (r.toList ++ rest) h_q Q)) : pm_R (d + 1) mid pc ls st h Q := by
  subst hst
  have hi : pm_ix (.invokespecial ix) kd = some ix := by rcases hk with rfl | rfl <;> rfl
  have hrev : (ra ++ [Value.ref a]).reverse = .ref a :: ra.reverse := by rw [List.reverse_append]; rfl
  have hr : pm_rcv kd qc h (ra ++ [Value.ref a]).reverse = true := by
    rw [hrev]
    rcases hk with rfl | rfl <;> rfl
  have hc := pm_call_mk (ra := ra ++ [.ref a]) (rest := rest) hi hC hMc.1 (by rw [List.length_append, if_neg (by omega), hn]; rfl) hs hr
  rw [hrev] at hc
  exact pm_R_call hM hf (pm_noret_call hi) hc hMc he hp kk
theorem pm_R_cs (hM : pm_Mt mid q l) {ix callee np kd : Nat} {ra rest ls_q : List Value} {qc : pm_M} {lc : List (Nat × Instr × Nat)} (hf : pm_find l pc = some (.invokestatic ix, L)) (hC : pm_at pm_CL q.2.2.2.2 ix = some (callee, np, kd)) (hk : kd = 2 ∨ kd = 5) (hMc : pm_Mt callee qc lc) (hst : st = ra ++ rest) (hn : ra.length = np) (hs : (rest.map fun v => v.category).sum ≤ 8) (he : pm_ent qc.2.2.1 ra.reverse = some ls_q) (hp : pc + 3 = pc_q) (kk : pm_R d callee 0 ls_q [] h (fun r h_q => pm_R (d + 1) mid pc_q ls (r.toList ++ rest) h_q Q)) : pm_R (d + 1) mid pc ls st h Q := by
  subst hst
  have hi : pm_ix (.invokestatic ix) kd = some ix := by rcases hk with rfl | rfl <;> rfl
  have hr : pm_rcv kd qc h ra.reverse = true := by
    rcases hk with rfl | rfl <;> rfl
  have hc := pm_call_mk (ra := ra) (rest := rest) hi hC hMc.1 (by rw [if_pos hk, hn]) hs hr
  exact pm_R_call hM hf (pm_noret_call hi) hc hMc he hp kk
end PMC
end
section
/-! INTERVALS: an int between two literals -/
def sf_B (lo hi : Int) (x : Int32) : Prop := lo ≤ x.toInt ∧ x.toInt ≤ hi
theorem sf_any (x : Int32) : sf_B (-2147483648) 2147483647 x := by
  have a := x.toInt_lt; have b := x.le_toInt
  unfold sf_B; omega
theorem sf_weak {a b c d : Int} {x : Int32} (h : sf_B a b x) (h1 : c ≤ a) (h2 : b ≤ d) : sf_B c d x := ⟨Int.le_trans h1 h.1, Int.le_trans h.2 h2⟩
theorem sf_add {a b c d : Int} {x y : Int32} (hx : sf_B a b x) (hy : sf_B c d y) (l : -2147483648 ≤ a + c) (u : b + d ≤ 2147483647) : sf_B (a + c) (b + d) (x + y) := by
  obtain ⟨x1, x2⟩ := hx
  obtain ⟨y1, y2⟩ := hy
  have e : (x + y).toInt = x.toInt + y.toInt := Jvm.Kit.i32_add (by omega) (by omega)
  unfold sf_B; omega
theorem sf_sub {a b c d : Int} {x y : Int32} (hx : sf_B a b x) (hy : sf_B c d y) (l : -2147483648 ≤ a - d) (u : b - c ≤ 2147483647) : sf_B (a - d) (b - c) (x - y) := by
  obtain ⟨x1, x2⟩ := hx
  obtain ⟨y1, y2⟩ := hy
  have e : (x - y).toInt = x.toInt - y.toInt := Jvm.Kit.i32_sub (by omega) (by omega)
  unfold sf_B; omega
/-- both not below 0 -/
theorem sf_mul {a b c d : Int} {x y : Int32} (hx : sf_B a b x) (hy : sf_B c d y) (ha : 0 ≤ a) (hc : 0 ≤ c) (u : b * d ≤ 2147483647) : sf_B (a * c) (b * d) (x * y) := by
  obtain ⟨x1, x2⟩ := hx
  obtain ⟨y1, y2⟩ := hy
  have l1 : a * c ≤ x.toInt * y.toInt := Int.mul_le_mul x1 y1 hc (Int.le_trans ha x1)
  have l2 : x.toInt * y.toInt ≤ b * d := Int.mul_le_mul x2 y2 (Int.le_trans hc y1) (Int.le_trans (Int.le_trans ha x1) x2)
  have l0 : 0 ≤ a * c := Int.mul_nonneg ha hc
  have e : (x * y).toInt = x.toInt * y.toInt := Jvm.Kit.i32_mul (by omega) (by omega)
  unfold sf_B; rw [e]; exact ⟨l1, l2⟩
theorem sf_in {a b : Int} {x : Int32} {n : Nat} (hx : sf_B a b x) (ha : 0 ≤ a) (hb : b < n) : pm_in x n = true := by
  obtain ⟨x1, x2⟩ := hx
  have h0 : 0 ≤ x.toInt := Int.le_trans ha x1
  simp only [pm_in, Bool.and_eq_true, decide_eq_true_eq]
  refine ⟨Jvm.Kit.i32_nonneg.mpr h0, ?_⟩
  have e : x.toNatClampNeg = x.toInt.toNat := rfl
  rw [e]; omega
theorem sf_ltL {a b c d : Int} {x y : Int32} (h : x < y) (hx : sf_B a b x) (hy : sf_B c d y) : sf_B a (d - 1) x := by
  have := Int32.lt_iff_toInt_lt.mp h
  obtain ⟨x1, x2⟩ := hx; obtain ⟨y1, y2⟩ := hy
  unfold sf_B; omega
theorem sf_ltR {a b c d : Int} {x y : Int32} (h : x < y) (hx : sf_B a b x) (hy : sf_B c d y) : sf_B (a + 1) d y := by
  have := Int32.lt_iff_toInt_lt.mp h
  obtain ⟨x1, x2⟩ := hx; obtain ⟨y1, y2⟩ := hy
  unfold sf_B; omega
theorem sf_leL {a b c d : Int} {x y : Int32} (h : x ≤ y) (hx : sf_B a b x) (hy : sf_B c d y) : sf_B a d x := by
  have := Int32.le_iff_toInt_le.mp h
  obtain ⟨x1, x2⟩ := hx; obtain ⟨y1, y2⟩ := hy
  unfold sf_B; omega
theorem sf_leR {a b c d : Int} {x y : Int32} (h : x ≤ y) (hx : sf_B a b x) (hy : sf_B c d y) : sf_B a d y := by
  have := Int32.le_iff_toInt_le.mp h
  obtain ⟨x1, x2⟩ := hx; obtain ⟨y1, y2⟩ := hy
  unfold sf_B; omega
theorem sf_neLo {a b : Int} {x y : Int32} (h : ¬ x = y) (hy : y.toInt = a) (hx : sf_B a b x) : sf_B (a + 1) b x := by
  obtain ⟨x1, x2⟩ := hx
  have : x.toInt ≠ y.toInt := fun e => h (Int32.toInt_inj.mp e)
  unfold sf_B; omega
theorem sf_neHi {a b : Int} {x y : Int32} (h : ¬ x = y) (hy : y.toInt = b) (hx : sf_B a b x) : sf_B a (b - 1) x := by
  obtain ⟨x1, x2⟩ := hx
  have : x.toInt ≠ y.toInt := fun e => h (Int32.toInt_inj.mp e)
  unfold sf_B; omega
theorem sf_upd {a b : Int} {f : Nat → Int32} (h : ∀ j, sf_B a b (f j)) {v : Int32} (hv : sf_B a b v) (k : Nat) : ∀ j, sf_B a b (upd f k v j) := by
  intro j
  unfold upd
  split
  · exact hv
  · exact h j
end
section
/-! longs with intervals; sum and product of the reference -/
def lf_B (lo hi : Int) (x : Int64) : Prop := lo ≤ x.toInt ∧ x.toInt ≤ hi
theorem lf_weak {a b c d : Int} {x : Int64} (h : lf_B a b x) (h1 : c ≤ a) (h2 : b ≤ d) : lf_B c d x := ⟨Int.le_trans h1 h.1, Int.le_trans h.2 h2⟩
end
section
theorem sf_and {x y : Int32} (hy : 0 ≤ y.toInt) : 0 ≤ (x &&& y).toInt ∧ (x &&& y).toInt ≤ y.toInt := by
  have e1 : (x &&& y).toInt = (x.toBitVec &&& y.toBitVec).toInt := rfl
  have e2 : y.toInt = y.toBitVec.toInt := rfl
  rw [e2] at hy
  rw [e1, e2]
  have hl : (x.toBitVec &&& y.toBitVec).toNat ≤ y.toBitVec.toNat := by rw [BitVec.toNat_and]; exact Nat.and_le_right
  have hy2 := y.toBitVec.isLt
  rw [BitVec.toInt_eq_toNat_cond] at hy
  have hc : 2 * y.toBitVec.toNat < 2 ^ 32 := by
    by_cases h : 2 * y.toBitVec.toNat < 2 ^ 32
    · exact h
    · rw [if_neg h] at hy; omega
  rw [BitVec.toInt_eq_toNat_cond, BitVec.toInt_eq_toNat_cond, if_pos hc, if_pos (by omega)]
  omega
theorem sf_div {a b c e : Int} {x y : Int32} (hx : sf_B a b x) (hy : sf_B c e y) (ha : 0 ≤ a) (hc : 1 ≤ c) : (x / y).toInt = x.toInt / y.toInt ∧ sf_B 0 (b / c) (x / y) := by
  obtain ⟨x1, x2⟩ := hx
  obtain ⟨y1, y2⟩ := hy
  have e1 : (x / y).toInt = x.toInt / y.toInt := by
    rw [Jvm.Kit.i32_div (by omega), Int.tdiv_eq_ediv_of_nonneg (by omega)]
  have l0 : 0 ≤ x.toInt / y.toInt := Int.ediv_nonneg (by omega) (by omega)
  have l1 : x.toInt / y.toInt ≤ b / c := by
    refine Int.le_trans (Int.ediv_le_ediv (by omega) x2) ?_
    have hb : 0 ≤ b := by omega
    refine (Int.le_ediv_iff_mul_le (by omega)).mpr ?_
    have l3 : 0 ≤ b / y.toInt := Int.ediv_nonneg hb (by omega)
    have l4 : b / y.toInt * c ≤ b / y.toInt * y.toInt := Int.mul_le_mul_of_nonneg_left y1 l3
    have l5 : b / y.toInt * y.toInt ≤ b := Int.ediv_mul_le b (by omega)
    omega
  exact ⟨e1, by unfold sf_B; rw [e1]; exact ⟨l0, l1⟩⟩
theorem sf_rem {a b c e : Int} {x y : Int32} (hx : sf_B a b x) (hy : sf_B c e y) (ha : 0 ≤ a) (hc : 1 ≤ c) : (x - x / y * y).toInt = x.toInt % y.toInt ∧ sf_B 0 (e - 1) (x - x / y * y) := by
  obtain ⟨d1, -⟩ := sf_div hx hy ha hc
  obtain ⟨x1, x2⟩ := hx
  obtain ⟨y1, y2⟩ := hy
  have hxl := x.toInt_lt
  have l0 : 0 ≤ x.toInt / y.toInt := Int.ediv_nonneg (by omega) (by omega)
  have l5 : x.toInt / y.toInt * y.toInt ≤ x.toInt := Int.ediv_mul_le _ (by omega)
  have l6 : 0 ≤ x.toInt / y.toInt * y.toInt := Int.mul_nonneg l0 (by omega)
  have e2 : (x / y * y).toInt = x.toInt / y.toInt * y.toInt := by rw [Jvm.Kit.i32_mul (by rw [d1]; omega) (by rw [d1]; omega), d1]
  have e3 : (x - x / y * y).toInt = x.toInt - x.toInt / y.toInt * y.toInt := by rw [Jvm.Kit.i32_sub (by rw [e2]; omega) (by rw [e2]; omega), e2]
  have e4 : x.toInt - x.toInt / y.toInt * y.toInt = x.toInt % y.toInt := by
    have := Int.emod_add_mul_ediv x.toInt y.toInt
    rw [Int.mul_comm] at this
    omega
  have m0 := Int.emod_nonneg x.toInt (show y.toInt ≠ 0 by omega)
  have m1 := Int.emod_lt_of_pos x.toInt (show 0 < y.toInt by omega)
  refine ⟨by rw [e3, e4], ?_⟩
  unfold sf_B; rw [e3, e4]; omega
section SFR
variable {d mid pc pc_q : Nat} {ls st : List Value} {h : pm_H} {Q : Option Value → pm_H → Prop} {q : pm_M} {l : List (Nat × Instr × Nat)} {L : Nat} {x y : Int32} {a b c e : Int}
theorem sf_R_iadd (hM : pm_Mt mid q l) (hf : pm_find l pc = some (.iadd, L)) (hp : pc + 1 = pc_q) (hx : sf_B a b x) (hy : sf_B c e y) (lo : -2147483648 ≤ a + c) (up : b + e ≤ 2147483647) (k : ∀ z : Int32, z.toInt = x.toInt + y.toInt → sf_B (a + c) (b + e) z → pm_R d mid pc_q ls (.int z :: st) h Q) : pm_R d mid pc ls (.int y :: .int x :: st) h Q :=
  pm_R_op hM hf (st_q := .int (x + y) :: st) rfl hp (k _ (Jvm.Kit.i32_add (by have := hx.1; have := hy.1; omega) (by have := hx.2; have := hy.2; omega)) (sf_add hx hy lo up))
theorem sf_R_isub (hM : pm_Mt mid q l) (hf : pm_find l pc = some (.isub, L)) (hp : pc + 1 = pc_q) (hx : sf_B a b x) (hy : sf_B c e y) (lo : -2147483648 ≤ a - e) (up : b - c ≤ 2147483647) (k : ∀ z : Int32, z.toInt = x.toInt - y.toInt → sf_B (a - e) (b - c) z → pm_R d mid pc_q ls (.int z :: st) h Q) : pm_R d mid pc ls (.int y :: .int x :: st) h Q :=
  pm_R_op hM hf (st_q := .int (x - y) :: st) rfl hp (k _ (Jvm.Kit.i32_sub (by have := hx.1; have := hy.2; omega) (by have := hx.2; have := hy.1; omega)) (sf_sub hx hy lo up))
theorem sf_R_imul (hM : pm_Mt mid q l) (hf : pm_find l pc = some (.imul, L)) (hp : pc + 1 = pc_q) (hx : sf_B a b x) (hy : sf_B c e y) (ha : 0 ≤ a) (hc : 0 ≤ c) (up : b * e ≤ 2147483647) (k : ∀ z : Int32, z.toInt = x.toInt * y.toInt → sf_B (a * c) (b * e) z → pm_R d mid pc_q ls (.int z :: st) h Q) : pm_R d mid pc ls (.int y :: .int x :: st) h Q := by
  have l1 : 0 ≤ x.toInt * y.toInt := Int.mul_nonneg (Int.le_trans ha hx.1) (Int.le_trans hc hy.1)
  have l2 : x.toInt * y.toInt ≤ b * e := Int.mul_le_mul hx.2 hy.2 (Int.le_trans hc hy.1) (Int.le_trans (Int.le_trans ha hx.1) hx.2)
  exact pm_R_op hM hf (st_q := .int (x * y) :: st) rfl hp (k _ (Jvm.Kit.i32_mul (by omega) (by omega)) (sf_mul hx hy ha hc up))
theorem sf_R_iand (hM : pm_Mt mid q l) (hf : pm_find l pc = some (.iand, L)) (hp : pc + 1 = pc_q) (hy : sf_B c e y) (hc : 0 ≤ c) (k : ∀ z : Int32, sf_B 0 e z → pm_R d mid pc_q ls (.int z :: st) h Q) : pm_R d mid pc ls (.int y :: .int x :: st) h Q := by
  have h1 := sf_and (x := x) (y := y) (Int.le_trans hc hy.1)
  exact pm_R_op hM hf (st_q := .int (x &&& y) :: st) rfl hp (k _ ⟨h1.1, Int.le_trans h1.2 hy.2⟩)
theorem sf_R_idiv (hM : pm_Mt mid q l) (hf : pm_find l pc = some (.idiv, L)) (hp : pc + 1 = pc_q) (hx : sf_B a b x) (hy : sf_B c e y) (ha : 0 ≤ a) (hc : 1 ≤ c) (k : ∀ z : Int32, z.toInt = x.toInt / y.toInt → sf_B 0 (b / c) z → pm_R d mid pc_q ls (.int z :: st) h Q) : pm_R d mid pc ls (.int y :: .int x :: st) h Q := by
  have hy0 : ¬ y = 0 := fun z => by have := hy.1; rw [z] at this; have e0 : (0 : Int32).toInt = 0 := rfl; omega
  obtain ⟨d1, d2⟩ := sf_div hx hy ha hc
  exact pm_R_op hM hf (st_q := .int (x / y) :: st) (if_neg hy0) hp (k _ d1 d2)
theorem sf_R_irem (hM : pm_Mt mid q l) (hf : pm_find l pc = some (.irem, L)) (hp : pc + 1 = pc_q) (hx : sf_B a b x) (hy : sf_B c e y) (ha : 0 ≤ a) (hc : 1 ≤ c) (k : ∀ z : Int32, z.toInt = x.toInt % y.toInt → sf_B 0 (e - 1) z → pm_R d mid pc_q ls (.int z :: st) h Q) : pm_R d mid pc ls (.int y :: .int x :: st) h Q := by
  have hy0 : ¬ y = 0 := fun z => by have := hy.1; rw [z] at this; have e0 : (0 : Int32).toInt = 0 := rfl; omega
  obtain ⟨d1, d2⟩ := sf_rem hx hy ha hc
  exact pm_R_op hM hf (st_q := .int (x - x / y * y) :: st) (if_neg hy0) hp (k _ d1 d2)
/-- any op of the stack that hands over one int, of which nothing is said -/
theorem sf_R_iany (hM : pm_Mt mid q l) {i : Instr} (hf : pm_find l pc = some (i, L)) {w : Int32} {st0 : List Value} (ho : pm_op i st0 = some (.int w :: st)) (hp : pc + pm_len i = pc_q) (k : ∀ z : Int32, pm_R d mid pc_q ls (.int z :: st) h Q) : pm_R d mid pc ls st0 h Q :=
  pm_R_op hM hf (st_q := .int w :: st) ho hp (k _)
theorem sf_R_lany (hM : pm_Mt mid q l) {i : Instr} (hf : pm_find l pc = some (i, L)) {w : Int64} {st0 : List Value} (ho : pm_op i st0 = some (.long w :: st)) (hp : pc + pm_len i = pc_q) (k : ∀ z : Int64, pm_R d mid pc_q ls (.long z :: st) h Q) : pm_R d mid pc ls st0 h Q :=
  pm_R_op hM hf (st_q := .long w :: st) ho hp (k _)
end SFR
end
section
/-! THE REFERENCE: its object lies at 41, its arrays at 42 to 71 -/
def rf_fs (m : Nat → Int32) (w : Int64) : List Value := [.int (m 0), .ref 42, .ref 43, .ref 44, .ref 45, .ref 46, .ref 47, .ref 48, .ref 49, .ref 50, .int (m 10), .int (m 11), .int (m 12), .int (m 13), .int (m 14), .long w, .int (m 16), .int (m 17), .int (m 18), .ref 51, .ref 52, .int (m 21), .int (m 22), .int (m 23), .int (m 24), .ref 53, .int (m 26), .int (m 27), .ref 54, .ref 55, .ref 56, .int (m 31), .ref 57, .ref 58, .ref 59, .ref 60, .ref 61, .ref 62, .ref 63, .ref 64, .ref 65, .ref 66, .int (m 42), .int (m 43), .int (m 44), .ref 67, .ref 68, .int (m 47), .ref 69, .int (m 49), .int (m 50), .ref 70, .ref 71]
/-- bounds of its numbers, by field -/
def rf_lo (k : Nat) : Int := match k with | 0 => (0) | 10 => (0) | 11 => (0) | 12 => (0) | 13 => (0) | 14 => (0) | 16 => (0) | 17 => (0) | 18 => (0) | 21 => (-1) | 22 => (0) | 23 => (0) | 24 => (0) | 26 => (-1) | 27 => (0) | 31 => (0) | 42 => (0) | 43 => (0) | 44 => (0) | 47 => (0) | 49 => (0) | _ => -2147483648
def rf_hi (k : Nat) : Int := match k with | 0 => 0 | 10 => 600 | 11 => 600 | 12 => 600 | 13 => 4 | 14 => 99 | 16 => 600 | 17 => 4 | 18 => 600 | 21 => 99 | 22 => 1 | 23 => 1 | 24 => 12 | 26 => 11 | 27 => 15 | 31 => 24 | 42 => 6 | 43 => 50 | 44 => 1 | 47 => 50 | 49 => 1 | _ => 2147483647
def rf_l0 (r : Nat) : Int := if r < 90 then 0 else -2147483648
def rf_l1 (r : Nat) : Int := if r = 0 then 10 else if r = 1 then 16 else if r < 42 then (if (r - 2) % 4 = 3 then 4 else 5) else if r < 90 then (if (r - 42) % 3 = 0 then 9 else if (r - 42) % 3 = 1 then 5 else 49) else 2147483647
def rf_m0 (r : Nat) : Int := if r < 2 then 0 else if (r - 2) % 3 = 2 then -1 else 0
def rf_m1 (r : Nat) : Int := if r = 0 then 6 else if r = 1 then 50 else if (r - 2) % 3 = 0 then 2 else if (r - 2) % 3 = 1 then 5 else 9
def rf_h0 (r : Nat) : Int := if r = 0 then 0 else if (r - 1) % 3 = 2 then -1 else 0
def rf_h1 (r : Nat) : Int := if r = 0 then 8 else if (r - 1) % 3 = 0 then 5 else 9
def rf_C (a : Nat) (x : pm_E) : Prop := match a with
  | 42 => ∃ f, x = .inl (2, 2400, .inl f)
  | 43 => ∃ f, x = .inl (0, 4, .inl f) ∧ ∀ j, sf_B (0) 600 (f j)
  | 44 => ∃ f, x = .inl (0, 4, .inl f) ∧ ∀ j, sf_B (0) 4 (f j)
  | 45 => ∃ f, x = .inl (0, 4, .inl f) ∧ ∀ j, sf_B (-1) 600 (f j)
  | 46 => ∃ f, x = .inl (0, 16, .inl f) ∧ ∀ j, sf_B (0) (if j % 4 = 1 then 3 else 2) (f j)
  | 47 => ∃ f, x = .inl (0, 800, .inl f) ∧ ∀ j, sf_B (rf_l0 (j % 100)) (rf_l1 (j % 100)) (f j)
  | 48 => ∃ f, x = .inl (0, 156, .inl f) ∧ ∀ j, sf_B (0) (if j % 13 = 0 then 12 else 9) (f j)
  | 49 => ∃ f, x = .inl (0, 1216, .inl f) ∧ ∀ j, sf_B (rf_m0 (j % 152)) (rf_m1 (j % 152)) (f j)
  | 50 => ∃ f, x = .inl (0, 200, .inl f) ∧ ∀ j, sf_B (rf_h0 (j % 25)) (rf_h1 (j % 25)) (f j)
  | 51 => ∃ f, x = .inl (0, 152, .inl f)
  | 52 => ∃ f, x = .inl (0, 4, .inl f) ∧ ∀ j, sf_B (-1) 99 (f j)
  | 53 => ∃ f, x = .inl (0, 12, .inl f)
  | 54 => ∃ f, x = .inl (1, 864, .inr (.inl f))
  | 55 => ∃ f, x = .inl (1, 864, .inr (.inl f)) ∧ ∀ j, lf_B 0 1000000000000 (f j)
  | 56 => ∃ f, x = .inl (1, 43200, .inr (.inl f))
  | 57 => ∃ f, x = .inl (0, 24, .inl f) ∧ ∀ j, sf_B (0) 5 (f j)
  | 58 => ∃ f, x = .inl (0, 24, .inl f) ∧ ∀ j, sf_B (0) 11 (f j)
  | 59 => ∃ f, x = .inl (0, 24, .inl f) ∧ ∀ j, sf_B (0) 11 (f j)
  | 60 => ∃ f, x = .inl (1, 24, .inr (.inl f)) ∧ ∀ j, lf_B 0 9223372036854775807 (f j)
  | 61 => ∃ f, x = .inl (0, 24, .inl f) ∧ ∀ j, sf_B (-1) 9 (f j)
  | 62 => ∃ f, x = .inl (0, 24, .inl f) ∧ ∀ j, sf_B (0) 11 (f j)
  | 63 => ∃ f, x = .inl (0, 24, .inl f) ∧ ∀ j, sf_B (0) 22 (f j)
  | 64 => ∃ f, x = .inl (0, 24, .inl f)
  | 65 => ∃ f, x = .inl (0, 12, .inl f) ∧ ∀ j, sf_B (0) 15 (f j)
  | 66 => ∃ f, x = .inl (0, 5, .inl f) ∧ ∀ j, sf_B (0) (if j = 0 then 4 else 9) (f j)
  | 67 => ∃ f, x = .inl (0, 306, .inl f)
  | 68 => ∃ f, x = .inl (0, 50, .inl f)
  | 69 => ∃ f, x = .inl (0, 50, .inl f)
  | 70 => ∃ f, x = .inl (0, 12, .inl f) ∧ ∀ j, sf_B (0) 9 (f j)
  | 71 => ∃ f, x = .inl (3, 3, .inl f)
  | _ => True
/-- rows that are there have a SIGN at least -/
def rf_X (x y : pm_E) : Prop := ∀ f g : Nat → Int32, x = .inl (0, 16, .inl f) → y = .inl (0, 156, .inl g) → ∀ c r : Nat, c < 4 → r < 3 → (r : Int) < (f (4 * c + 1)).toInt → 1 ≤ (g (39 * c + 13 * r)).toInt
def rf_T (m : Nat → Int32) (w : Int64) (h : pm_H) : Prop := 72 ≤ h.1 ∧ h.2.2 41 = .inr (12, rf_fs m w) ∧ (∀ k, sf_B (rf_lo k) (rf_hi k) (m k)) ∧ (∀ a, 42 ≤ a → a < 72 → rf_C a (h.2.2 a)) ∧ rf_X (h.2.2 46) (h.2.2 48)
/-- what a question leaves as it was -/
def rf_F (h h_q : pm_H) : Prop := h_q.1 = h.1 ∧ h_q.2.1 = h.2.1 ∧ ∀ a, (a < 41 ∨ (42 ≤ a ∧ a < 51) ∨ 71 ≤ a) → h_q.2.2 a = h.2.2 a
theorem rf_F.refl (h : pm_H) : rf_F h h := ⟨rfl, rfl, fun _ _ => rfl⟩
theorem rf_F.trans {h h1 h2 : pm_H} (x : rf_F h h1) (y : rf_F h1 h2) : rf_F h h2 := ⟨y.1.trans x.1, y.2.1.trans x.2.1, fun a ha => (y.2.2 a ha).trans (x.2.2 a ha)⟩
theorem rf_F.set {h : pm_H} {a : Nat} {x : pm_E} (ha : a = 41 ∨ (51 ≤ a ∧ a < 71)) : rf_F h (pm_set h a x) := by
  refine ⟨rfl, rfl, fun b hb => ?_⟩
  simp [pm_set, va_up, show ¬ b = a by omega]
/-- an array that is no told one is written -/
theorem rf_T.arr {m : Nat → Int32} {w : Int64} {h : pm_H} {a : Nat} {x : pm_E} (T : rf_T m w h) (h1 : 51 ≤ a) (h2 : a < 72) (hx : rf_C a x) : rf_T m w (pm_set h a x) := by
  have e : ∀ b, b ≠ a → (pm_set h a x).2.2 b = h.2.2 b := fun b hb => by simp [pm_set, va_up, hb]
  have e0 : (pm_set h a x).2.2 a = x := by simp [pm_set, va_up]
  refine ⟨T.1, by rw [e 41 (by omega)]; exact T.2.1, T.2.2.1, fun b b1 b2 => ?_, by rw [e 46 (by omega), e 48 (by omega)]; exact T.2.2.2.2⟩
  by_cases hb : b = a
  · subst hb; rw [e0]; exact hx
  · rw [e b hb]; exact T.2.2.2.1 b b1 b2
/-- a number of the object is written -/
theorem rf_T.num {m : Nat → Int32} {w : Int64} {h : pm_H} {k : Nat} {v : Int32} (T : rf_T m w h) (hv : sf_B (rf_lo k) (rf_hi k) v) {fs : List Value} (hf : fs = rf_fs (upd m k v) w) : rf_T (upd m k v) w (pm_set h 41 (.inr (12, fs))) := by
  have e : ∀ b, b ≠ 41 → (pm_set h 41 (.inr (12, fs))).2.2 b = h.2.2 b := fun b hb => by simp [pm_set, va_up, hb]
  have e0 : (pm_set h 41 (.inr (12, fs))).2.2 41 = .inr (12, fs) := by simp [pm_set, va_up]
  refine ⟨T.1, by rw [e0, hf], fun j => ?_, fun b b1 b2 => by rw [e b (by omega)]; exact T.2.2.2.1 b b1 b2, by rw [e 46 (by omega), e 48 (by omega)]; exact T.2.2.2.2⟩
  unfold upd
  split
  · rename_i hj; rw [hj]; exact hv
  · exact T.2.2.1 j
theorem rf_T.word {m : Nat → Int32} {w w_q : Int64} {h : pm_H} (T : rf_T m w h) {fs : List Value} (hf : fs = rf_fs m w_q) : rf_T m w_q (pm_set h 41 (.inr (12, fs))) := by
  have e : ∀ b, b ≠ 41 → (pm_set h 41 (.inr (12, fs))).2.2 b = h.2.2 b := fun b hb => by simp [pm_set, va_up, hb]
  have e0 : (pm_set h 41 (.inr (12, fs))).2.2 41 = .inr (12, fs) := by simp [pm_set, va_up]
  exact ⟨T.1, by rw [e0, hf], T.2.2.1, fun b b1 b2 => by rw [e b (by omega)]; exact T.2.2.2.1 b b1 b2, by rw [e 46 (by omega), e 48 (by omega)]; exact T.2.2.2.2⟩
end
section
theorem pm_str_not {c : Nat} {i : Instr} {st s : List Value} {h : pm_H} (hz : pm_str c i st h = some s) (ret : Option FieldType) : pm_ret ret i st = none ∧ pm_op i st = none ∧ (∀ ls, pm_lo i ls st = none) ∧ (∀ pc, pm_br i pc st = none) ∧ pm_cix i = none := by
  unfold pm_str at hz
  split at hz <;> first | exact ⟨rfl, rfl, fun _ => rfl, fun _ => rfl, rfl⟩ | cases hz
section PMS2
variable {d mid pc pc_q : Nat} {ls st : List Value} {h : pm_H} {Q : Option Value → pm_H → Prop} {q : pm_M} {l : List (Nat × Instr × Nat)} {i : Instr} {L : Nat}
/-- a row over String constants -/
theorem pm_R_str (hM : pm_Mt mid q l) (hf : pm_find l pc = some (i, L)) {st_q : List Value} (h0 : pm_hb (decide (q.1.name = "<init>")) q.2.2.2.2 i st h = none) (ho : pm_str q.2.2.2.2 i st h = some st_q) (hp : pc + pm_len i = pc_q) (k : pm_R d mid pc_q ls st_q h Q) : pm_R d mid pc ls st h Q := by
  subst hp
  obtain ⟨n1, n2, n3, n4, n5⟩ := pm_str_not ho q.2.2.2.1
  refine pm_R_step hM hf n1 (pm_nocall2 n5) (z := (pc + pm_len i, ls, st_q, h)) ?_ k
  have e : pm_hp (decide (q.1.name = "<init>")) q.2.2.2.2 i st h = some (st_q, h) := by
    unfold pm_hp
    rw [h0, ho]
    rfl
  unfold pm_step
  rw [n2, n3, n4, e]
end PMS2
end
section
/-! p1: the two objects are made (by program: wip/gen/p1gen.py) -/
def pm_fF (fm : Bool) (L : Nat) (xs : Nat → Int32) (i : Nat) : pm_E := match i with
  | 16 => .inr (11, [.ref 17, .ref 24, .ref 25, .ref 31, .ref 33, .null, .ref 37, .ref 38, .ref 39, .ref 40])
  | 17 => .inr (8, [.ref 18, .int 0, .int 0, .int (-1), .ref 19, .ref 20, .ref 21, .ref 22, .ref 23])
  | 18 => .inl (2, 600, .inl (fun _ => 0))
  | 19 => .inl (4, 2, .inr (.inr (.inr (.inr (fun _ => none)))))
  | 20 => .inl (5, 3, .inr (.inr (.inr (.inr (fun _ => none)))))
  | 21 => .inl (6, 2, .inr (.inr (.inr (.inr (fun _ => none)))))
  | 22 => .inl (7, 2, .inr (.inr (.inr (.inr (fun _ => none)))))
  | 23 => .inl (0, 4, .inl (fun _ => 0))
  | 24 => .inl (8, 3, .inr (.inr (.inr (.inr (fun _ => none)))))
  | 25 => .inr (6, [.ref 30, .int 0, .int (-1), .ref 26, .int 0, .ref 27, .int 0, .ref 28, .int 4, .int (-1), .ref 29])
  | 26 => .inl (0, 200, .inl (fun _ => 0))
  | 27 => .inl (0, 64, .inl (fun _ => 0))
  | 28 => .inl (0, 10, .inl (fun _ => 0))
  | 29 => .inl (0, 4, .inl (fun _ => 0))
  | 30 => .inr (7, [.ref 18, .int 0, .int 0, .int 0, .int 0, .int 0])
  | 31 => .inr (2, [.ref 32])
  | 32 => .inl (1, 468, .inr (.inl (fun _ => 0)))
  | 33 => .inr (9, [.ref 34, .ref 35, .int (-1), .int (-1), .ref 36, .null, .null])
  | 34 => .inl (1, 468, .inr (.inl (fun _ => 0)))
  | 35 => .inl (0, 12, .inl (fun _ => 0))
  | 36 => .inl (0, 78, .inl (fun _ => 0))
  | 37 => .inl (9, 2, .inr (.inr (.inr (.inr (fun _ => none)))))
  | 38 => .inl (0, 12, .inl (fun _ => 0))
  | 39 => .inl (0, 50, .inl (fun _ => 0))
  | 40 => .inl (0, 50, .inl (fun _ => 0))
  | 41 => .inr (12, [.int 0, .ref 42, .ref 43, .ref 44, .ref 45, .ref 46, .ref 47, .ref 48, .ref 49, .ref 50, .int 0, .int 0, .int 0, .int 0, .int 0, .long 0, .int 0, .int 0, .int 0, .ref 51, .ref 52, .int 0, .int 0, .int 0, .int 0, .ref 53, .int 0, .int 0, .ref 54, .ref 55, .ref 56, .int 0, .ref 57, .ref 58, .ref 59, .ref 60, .ref 61, .ref 62, .ref 63, .ref 64, .ref 65, .ref 66, .int 0, .int 0, .int 0, .ref 67, .ref 68, .int 0, .ref 69, .int 0, .int 0, .ref 70, .ref 71])
  | 42 => .inl (2, 2400, .inl (fun _ => 0))
  | 43 => .inl (0, 4, .inl (fun _ => 0))
  | 44 => .inl (0, 4, .inl (fun _ => 0))
  | 45 => .inl (0, 4, .inl (upd (fun _ => 0) 0 (-1)))
  | 46 => .inl (0, 16, .inl (fun _ => 0))
  | 47 => .inl (0, 800, .inl (fun _ => 0))
  | 48 => .inl (0, 156, .inl (fun _ => 0))
  | 49 => .inl (0, 1216, .inl (fun _ => 0))
  | 50 => .inl (0, 200, .inl (fun _ => 0))
  | 51 => .inl (0, 152, .inl (fun _ => 0))
  | 52 => .inl (0, 4, .inl (fun _ => 0))
  | 53 => .inl (0, 12, .inl (fun _ => 0))
  | 54 => .inl (1, 864, .inr (.inl (fun _ => 0)))
  | 55 => .inl (1, 864, .inr (.inl (fun _ => 0)))
  | 56 => .inl (1, 43200, .inr (.inl (fun _ => 0)))
  | 57 => .inl (0, 24, .inl (fun _ => 0))
  | 58 => .inl (0, 24, .inl (fun _ => 0))
  | 59 => .inl (0, 24, .inl (fun _ => 0))
  | 60 => .inl (1, 24, .inr (.inl (fun _ => 0)))
  | 61 => .inl (0, 24, .inl (fun _ => 0))
  | 62 => .inl (0, 24, .inl (fun _ => 0))
  | 63 => .inl (0, 24, .inl (fun _ => 0))
  | 64 => .inl (0, 24, .inl (fun _ => 0))
  | 65 => .inl (0, 12, .inl (fun _ => 0))
  | 66 => .inl (0, 5, .inl (fun _ => 0))
  | 67 => .inl (0, 306, .inl (fun _ => 0))
  | 68 => .inl (0, 50, .inl (fun _ => 0))
  | 69 => .inl (0, 50, .inl (fun _ => 0))
  | 70 => .inl (0, 12, .inl (fun _ => 0))
  | 71 => .inl (3, 3, .inl (fun _ => 0))
  | i => pm_f0 fm L xs i
set_option maxRecDepth 100000 in
set_option maxHeartbeats 40000000 in
theorem p1_init (fm : Bool) (L : Nat) (xs : Nat → Int32) (Q : Option Value → pm_H → Prop) (hK : ∀ f : Nat → pm_E, (∀ i, i < 72 → f i = pm_fF fm L xs i) → pm_R 100 0 18 [.ref 0, .ref 16, .ref 41, .int 0] [] (72, 52657, f) Q) : pm_R 100 0 0 pm_l0 [] (pm_h0 fm L xs) Q := by
  show pm_R 100 0 0 [.ref 0, pm_no, pm_no, pm_no] [] (pm_h0 fm L xs) Q
  refine pm_R_new pm_M0 (pc_q := 3) (fs := [.null, .null, .null, .null, .null, .null, .null, .null, .null, .null]) rfl rfl rfl rfl rfl ?_
  show pm_R _ 0 3 [.ref 0, pm_no, pm_no, pm_no] [.ref 16] _ _
  refine pm_R_op pm_M0 (pc_q := 4) (st_q := [.ref 16, .ref 16]) rfl rfl rfl ?_
  refine pm_R_ci pm_M0 (pc_q := 7) (a := 16) (ra := []) (rest := [.ref 16]) (ls_q := [.ref 16]) rfl rfl (Or.inl rfl) pm_M1 rfl rfl (Nat.le_of_ble_eq_true rfl) rfl rfl ?_
  refine pm_R_lo pm_M1 (pc_q := 1) rfl rfl rfl ?_
  refine pm_R_obj pm_M1 (pc_q := 4) rfl rfl rfl (Nat.le_of_ble_eq_true rfl) rfl ?_
  refine pm_R_lo pm_M1 (pc_q := 5) rfl rfl rfl ?_
  refine pm_R_new pm_M1 (pc_q := 8) (fs := [.null, .int 0, .int 0, .int 0, .null, .null, .null, .null, .null]) rfl rfl rfl rfl rfl ?_
  show pm_R _ 1 8 [.ref 16] [.ref 17, .ref 16] _ _
  refine pm_R_op pm_M1 (pc_q := 9) (st_q := [.ref 17, .ref 17, .ref 16]) rfl rfl rfl ?_
  refine pm_R_ci pm_M1 (pc_q := 12) (a := 17) (ra := []) (rest := [.ref 17, .ref 16]) (ls_q := [.ref 17]) rfl rfl (Or.inr rfl) pm_M2 rfl rfl (Nat.le_of_ble_eq_true rfl) rfl rfl ?_
  refine pm_R_lo pm_M2 (pc_q := 1) rfl rfl rfl ?_
  refine pm_R_obj pm_M2 (pc_q := 4) rfl rfl rfl (Nat.le_of_ble_eq_true rfl) rfl ?_
  refine pm_R_lo pm_M2 (pc_q := 5) rfl rfl rfl ?_
  refine pm_R_op pm_M2 (pc_q := 8) (st_q := [.int 600, .ref 17]) rfl rfl rfl ?_
  refine pm_R_newa pm_M2 (pc_q := 10) (N := 600) rfl rfl (by decide) rfl (Nat.le_of_ble_eq_true rfl) rfl ?_
  show pm_R _ 2 10 [.ref 17] [.ref 18, .ref 17] _ _
  refine pm_R_put pm_M2 (pc_q := 13) (fs_q := [.ref 18, .int 0, .int 0, .int 0, .null, .null, .null, .null, .null]) rfl rfl rfl rfl (Nat.le_of_ble_eq_true rfl) (Nat.le_of_ble_eq_true rfl) (Nat.le_of_ble_eq_true rfl) rfl (Or.inr ⟨pm_N2_ini, rfl, rfl⟩) rfl rfl ?_
  refine pm_R_lo pm_M2 (pc_q := 14) rfl rfl rfl ?_
  refine pm_R_op pm_M2 (pc_q := 15) (st_q := [.int 0, .ref 17]) rfl rfl rfl ?_
  refine pm_R_put pm_M2 (pc_q := 18) (fs_q := [.ref 18, .int 0, .int 0, .int 0, .null, .null, .null, .null, .null]) rfl rfl rfl rfl (Nat.le_of_ble_eq_true rfl) (Nat.le_of_ble_eq_true rfl) (Nat.le_of_ble_eq_true rfl) rfl (Or.inl rfl) rfl rfl ?_
  refine pm_R_lo pm_M2 (pc_q := 19) rfl rfl rfl ?_
  refine pm_R_op pm_M2 (pc_q := 20) (st_q := [.int 0, .ref 17]) rfl rfl rfl ?_
  refine pm_R_put pm_M2 (pc_q := 23) (fs_q := [.ref 18, .int 0, .int 0, .int 0, .null, .null, .null, .null, .null]) rfl rfl rfl rfl (Nat.le_of_ble_eq_true rfl) (Nat.le_of_ble_eq_true rfl) (Nat.le_of_ble_eq_true rfl) rfl (Or.inl rfl) rfl rfl ?_
  refine pm_R_lo pm_M2 (pc_q := 24) rfl rfl rfl ?_
  refine pm_R_op pm_M2 (pc_q := 25) (st_q := [.int (-1), .ref 17]) rfl rfl rfl ?_
  refine pm_R_put pm_M2 (pc_q := 28) (fs_q := [.ref 18, .int 0, .int 0, .int (-1), .null, .null, .null, .null, .null]) rfl rfl rfl rfl (Nat.le_of_ble_eq_true rfl) (Nat.le_of_ble_eq_true rfl) (Nat.le_of_ble_eq_true rfl) rfl (Or.inl rfl) rfl rfl ?_
  refine pm_R_lo pm_M2 (pc_q := 29) rfl rfl rfl ?_
  refine pm_R_stat pm_M2 (pc_q := 32) rfl rfl rfl ?_
  refine pm_R_op pm_M2 (pc_q := 33) (st_q := [.int 0, .ref 1, .ref 17]) rfl rfl rfl ?_
  refine pm_R_iald pm_M2 (pc_q := 34) (v := 2) rfl rfl (Nat.le_of_ble_eq_true rfl) rfl rfl rfl ?_
  refine pm_R_newq pm_M2 (pc_q := 37) (N := 2) rfl rfl rfl (by decide) rfl (Nat.le_of_ble_eq_true rfl) rfl ?_
  show pm_R _ 2 37 [.ref 17] [.ref 19, .ref 17] _ _
  refine pm_R_put pm_M2 (pc_q := 40) (fs_q := [.ref 18, .int 0, .int 0, .int (-1), .ref 19, .null, .null, .null, .null]) rfl rfl rfl rfl (Nat.le_of_ble_eq_true rfl) (Nat.le_of_ble_eq_true rfl) (Nat.le_of_ble_eq_true rfl) rfl (Or.inr ⟨pm_N2_ini, rfl, rfl⟩) rfl rfl ?_
  refine pm_R_lo pm_M2 (pc_q := 41) rfl rfl rfl ?_
  refine pm_R_stat pm_M2 (pc_q := 44) rfl rfl rfl ?_
  refine pm_R_op pm_M2 (pc_q := 45) (st_q := [.int 1, .ref 1, .ref 17]) rfl rfl rfl ?_
  refine pm_R_iald pm_M2 (pc_q := 46) (v := 3) rfl rfl (Nat.le_of_ble_eq_true rfl) rfl rfl rfl ?_
  refine pm_R_newq pm_M2 (pc_q := 49) (N := 3) rfl rfl rfl (by decide) rfl (Nat.le_of_ble_eq_true rfl) rfl ?_
  show pm_R _ 2 49 [.ref 17] [.ref 20, .ref 17] _ _
  refine pm_R_put pm_M2 (pc_q := 52) (fs_q := [.ref 18, .int 0, .int 0, .int (-1), .ref 19, .ref 20, .null, .null, .null]) rfl rfl rfl rfl (Nat.le_of_ble_eq_true rfl) (Nat.le_of_ble_eq_true rfl) (Nat.le_of_ble_eq_true rfl) rfl (Or.inr ⟨pm_N2_ini, rfl, rfl⟩) rfl rfl ?_
  refine pm_R_lo pm_M2 (pc_q := 53) rfl rfl rfl ?_
  refine pm_R_stat pm_M2 (pc_q := 56) rfl rfl rfl ?_
  refine pm_R_op pm_M2 (pc_q := 57) (st_q := [.int 2, .ref 1, .ref 17]) rfl rfl rfl ?_
  refine pm_R_iald pm_M2 (pc_q := 58) (v := 2) rfl rfl (Nat.le_of_ble_eq_true rfl) rfl rfl rfl ?_
  refine pm_R_newq pm_M2 (pc_q := 61) (N := 2) rfl rfl rfl (by decide) rfl (Nat.le_of_ble_eq_true rfl) rfl ?_
  show pm_R _ 2 61 [.ref 17] [.ref 21, .ref 17] _ _
  refine pm_R_put pm_M2 (pc_q := 64) (fs_q := [.ref 18, .int 0, .int 0, .int (-1), .ref 19, .ref 20, .ref 21, .null, .null]) rfl rfl rfl rfl (Nat.le_of_ble_eq_true rfl) (Nat.le_of_ble_eq_true rfl) (Nat.le_of_ble_eq_true rfl) rfl (Or.inr ⟨pm_N2_ini, rfl, rfl⟩) rfl rfl ?_
  refine pm_R_lo pm_M2 (pc_q := 65) rfl rfl rfl ?_
  refine pm_R_stat pm_M2 (pc_q := 68) rfl rfl rfl ?_
  refine pm_R_op pm_M2 (pc_q := 69) (st_q := [.int 3, .ref 1, .ref 17]) rfl rfl rfl ?_
  refine pm_R_iald pm_M2 (pc_q := 70) (v := 2) rfl rfl (Nat.le_of_ble_eq_true rfl) rfl rfl rfl ?_
  refine pm_R_newq pm_M2 (pc_q := 73) (N := 2) rfl rfl rfl (by decide) rfl (Nat.le_of_ble_eq_true rfl) rfl ?_
  show pm_R _ 2 73 [.ref 17] [.ref 22, .ref 17] _ _
  refine pm_R_put pm_M2 (pc_q := 76) (fs_q := [.ref 18, .int 0, .int 0, .int (-1), .ref 19, .ref 20, .ref 21, .ref 22, .null]) rfl rfl rfl rfl (Nat.le_of_ble_eq_true rfl) (Nat.le_of_ble_eq_true rfl) (Nat.le_of_ble_eq_true rfl) rfl (Or.inr ⟨pm_N2_ini, rfl, rfl⟩) rfl rfl ?_
  refine pm_R_lo pm_M2 (pc_q := 77) rfl rfl rfl ?_
  refine pm_R_op pm_M2 (pc_q := 78) (st_q := [.int 4, .ref 17]) rfl rfl rfl ?_
  refine pm_R_newa pm_M2 (pc_q := 80) (N := 4) rfl rfl (by decide) rfl (Nat.le_of_ble_eq_true rfl) rfl ?_
  show pm_R _ 2 80 [.ref 17] [.ref 23, .ref 17] _ _
  refine pm_R_put pm_M2 (pc_q := 83) (fs_q := [.ref 18, .int 0, .int 0, .int (-1), .ref 19, .ref 20, .ref 21, .ref 22, .ref 23]) rfl rfl rfl rfl (Nat.le_of_ble_eq_true rfl) (Nat.le_of_ble_eq_true rfl) (Nat.le_of_ble_eq_true rfl) rfl (Or.inr ⟨pm_N2_ini, rfl, rfl⟩) rfl rfl ?_
  refine pm_R_ret pm_M2 (r := none) rfl rfl ?_
  show pm_R _ 1 12 [.ref 16] [.ref 17, .ref 16] _ _
  refine pm_R_put pm_M1 (pc_q := 15) (fs_q := [.ref 17, .null, .null, .null, .null, .null, .null, .null, .null, .null]) rfl rfl rfl rfl (Nat.le_of_ble_eq_true rfl) (Nat.le_of_ble_eq_true rfl) (Nat.le_of_ble_eq_true rfl) rfl (Or.inr ⟨pm_N1_ini, rfl, rfl⟩) rfl rfl ?_
  refine pm_R_lo pm_M1 (pc_q := 16) rfl rfl rfl ?_
  refine pm_R_op pm_M1 (pc_q := 17) (st_q := [.int 3, .ref 16]) rfl rfl rfl ?_
  refine pm_R_newq pm_M1 (pc_q := 20) (N := 3) rfl rfl rfl (by decide) rfl (Nat.le_of_ble_eq_true rfl) rfl ?_
  show pm_R _ 1 20 [.ref 16] [.ref 24, .ref 16] _ _
  refine pm_R_put pm_M1 (pc_q := 23) (fs_q := [.ref 17, .ref 24, .null, .null, .null, .null, .null, .null, .null, .null]) rfl rfl rfl rfl (Nat.le_of_ble_eq_true rfl) (Nat.le_of_ble_eq_true rfl) (Nat.le_of_ble_eq_true rfl) rfl (Or.inr ⟨pm_N1_ini, rfl, rfl⟩) rfl rfl ?_
  refine pm_R_lo pm_M1 (pc_q := 24) rfl rfl rfl ?_
  refine pm_R_new pm_M1 (pc_q := 27) (fs := [.null, .int 0, .int 0, .null, .int 0, .null, .int 0, .null, .int 0, .int 0, .null]) rfl rfl rfl rfl rfl ?_
  show pm_R _ 1 27 [.ref 16] [.ref 25, .ref 16] _ _
  refine pm_R_op pm_M1 (pc_q := 28) (st_q := [.ref 25, .ref 25, .ref 16]) rfl rfl rfl ?_
  refine pm_R_lo pm_M1 (pc_q := 29) rfl rfl rfl ?_
  refine pm_R_get pm_M1 (pc_q := 32) (v := .ref 17) rfl rfl rfl (Nat.le_of_ble_eq_true rfl) (Nat.le_of_ble_eq_true rfl) rfl rfl ?_
  refine pm_R_get pm_M1 (pc_q := 35) (v := .ref 18) rfl rfl rfl (Nat.le_of_ble_eq_true rfl) (Nat.le_of_ble_eq_true rfl) rfl rfl ?_
  refine pm_R_ci pm_M1 (pc_q := 38) (a := 25) (ra := [.ref 18]) (rest := [.ref 25, .ref 16]) (ls_q := [.ref 25, .ref 18]) rfl rfl (Or.inl rfl) pm_M3 rfl rfl (Nat.le_of_ble_eq_true rfl) rfl rfl ?_
  refine pm_R_lo pm_M3 (pc_q := 1) rfl rfl rfl ?_
  refine pm_R_obj pm_M3 (pc_q := 4) rfl rfl rfl (Nat.le_of_ble_eq_true rfl) rfl ?_
  refine pm_R_lo pm_M3 (pc_q := 5) rfl rfl rfl ?_
  refine pm_R_op pm_M3 (pc_q := 6) (st_q := [.int 0, .ref 25]) rfl rfl rfl ?_
  refine pm_R_put pm_M3 (pc_q := 9) (fs_q := [.null, .int 0, .int 0, .null, .int 0, .null, .int 0, .null, .int 0, .int 0, .null]) rfl rfl rfl rfl (Nat.le_of_ble_eq_true rfl) (Nat.le_of_ble_eq_true rfl) (Nat.le_of_ble_eq_true rfl) rfl (Or.inl rfl) rfl rfl ?_
  refine pm_R_lo pm_M3 (pc_q := 10) rfl rfl rfl ?_
  refine pm_R_op pm_M3 (pc_q := 11) (st_q := [.int (-1), .ref 25]) rfl rfl rfl ?_
  refine pm_R_put pm_M3 (pc_q := 14) (fs_q := [.null, .int 0, .int (-1), .null, .int 0, .null, .int 0, .null, .int 0, .int 0, .null]) rfl rfl rfl rfl (Nat.le_of_ble_eq_true rfl) (Nat.le_of_ble_eq_true rfl) (Nat.le_of_ble_eq_true rfl) rfl (Or.inl rfl) rfl rfl ?_
  refine pm_R_lo pm_M3 (pc_q := 15) rfl rfl rfl ?_
  refine pm_R_op pm_M3 (pc_q := 18) (st_q := [.int 200, .ref 25]) rfl rfl rfl ?_
  refine pm_R_newa pm_M3 (pc_q := 20) (N := 200) rfl rfl (by decide) rfl (Nat.le_of_ble_eq_true rfl) rfl ?_
  show pm_R _ 3 20 [.ref 25, .ref 18] [.ref 26, .ref 25] _ _
  refine pm_R_put pm_M3 (pc_q := 23) (fs_q := [.null, .int 0, .int (-1), .ref 26, .int 0, .null, .int 0, .null, .int 0, .int 0, .null]) rfl rfl rfl rfl (Nat.le_of_ble_eq_true rfl) (Nat.le_of_ble_eq_true rfl) (Nat.le_of_ble_eq_true rfl) rfl (Or.inr ⟨pm_N3_ini, rfl, rfl⟩) rfl rfl ?_
  refine pm_R_lo pm_M3 (pc_q := 24) rfl rfl rfl ?_
  refine pm_R_op pm_M3 (pc_q := 25) (st_q := [.int 0, .ref 25]) rfl rfl rfl ?_
  refine pm_R_put pm_M3 (pc_q := 28) (fs_q := [.null, .int 0, .int (-1), .ref 26, .int 0, .null, .int 0, .null, .int 0, .int 0, .null]) rfl rfl rfl rfl (Nat.le_of_ble_eq_true rfl) (Nat.le_of_ble_eq_true rfl) (Nat.le_of_ble_eq_true rfl) rfl (Or.inl rfl) rfl rfl ?_
  refine pm_R_lo pm_M3 (pc_q := 29) rfl rfl rfl ?_
  refine pm_R_op pm_M3 (pc_q := 31) (st_q := [.int 64, .ref 25]) rfl rfl rfl ?_
  refine pm_R_newa pm_M3 (pc_q := 33) (N := 64) rfl rfl (by decide) rfl (Nat.le_of_ble_eq_true rfl) rfl ?_
  show pm_R _ 3 33 [.ref 25, .ref 18] [.ref 27, .ref 25] _ _
  refine pm_R_put pm_M3 (pc_q := 36) (fs_q := [.null, .int 0, .int (-1), .ref 26, .int 0, .ref 27, .int 0, .null, .int 0, .int 0, .null]) rfl rfl rfl rfl (Nat.le_of_ble_eq_true rfl) (Nat.le_of_ble_eq_true rfl) (Nat.le_of_ble_eq_true rfl) rfl (Or.inr ⟨pm_N3_ini, rfl, rfl⟩) rfl rfl ?_
  refine pm_R_lo pm_M3 (pc_q := 37) rfl rfl rfl ?_
  refine pm_R_op pm_M3 (pc_q := 38) (st_q := [.int 0, .ref 25]) rfl rfl rfl ?_
  refine pm_R_put pm_M3 (pc_q := 41) (fs_q := [.null, .int 0, .int (-1), .ref 26, .int 0, .ref 27, .int 0, .null, .int 0, .int 0, .null]) rfl rfl rfl rfl (Nat.le_of_ble_eq_true rfl) (Nat.le_of_ble_eq_true rfl) (Nat.le_of_ble_eq_true rfl) rfl (Or.inl rfl) rfl rfl ?_
  refine pm_R_lo pm_M3 (pc_q := 42) rfl rfl rfl ?_
  refine pm_R_op pm_M3 (pc_q := 44) (st_q := [.int 10, .ref 25]) rfl rfl rfl ?_
  refine pm_R_newa pm_M3 (pc_q := 46) (N := 10) rfl rfl (by decide) rfl (Nat.le_of_ble_eq_true rfl) rfl ?_
  show pm_R _ 3 46 [.ref 25, .ref 18] [.ref 28, .ref 25] _ _
  refine pm_R_put pm_M3 (pc_q := 49) (fs_q := [.null, .int 0, .int (-1), .ref 26, .int 0, .ref 27, .int 0, .ref 28, .int 0, .int 0, .null]) rfl rfl rfl rfl (Nat.le_of_ble_eq_true rfl) (Nat.le_of_ble_eq_true rfl) (Nat.le_of_ble_eq_true rfl) rfl (Or.inr ⟨pm_N3_ini, rfl, rfl⟩) rfl rfl ?_
  refine pm_R_lo pm_M3 (pc_q := 50) rfl rfl rfl ?_
  refine pm_R_op pm_M3 (pc_q := 51) (st_q := [.int 4, .ref 25]) rfl rfl rfl ?_
  refine pm_R_put pm_M3 (pc_q := 54) (fs_q := [.null, .int 0, .int (-1), .ref 26, .int 0, .ref 27, .int 0, .ref 28, .int 4, .int 0, .null]) rfl rfl rfl rfl (Nat.le_of_ble_eq_true rfl) (Nat.le_of_ble_eq_true rfl) (Nat.le_of_ble_eq_true rfl) rfl (Or.inl rfl) rfl rfl ?_
  refine pm_R_lo pm_M3 (pc_q := 55) rfl rfl rfl ?_
  refine pm_R_op pm_M3 (pc_q := 56) (st_q := [.int (-1), .ref 25]) rfl rfl rfl ?_
  refine pm_R_put pm_M3 (pc_q := 59) (fs_q := [.null, .int 0, .int (-1), .ref 26, .int 0, .ref 27, .int 0, .ref 28, .int 4, .int (-1), .null]) rfl rfl rfl rfl (Nat.le_of_ble_eq_true rfl) (Nat.le_of_ble_eq_true rfl) (Nat.le_of_ble_eq_true rfl) rfl (Or.inl rfl) rfl rfl ?_
  refine pm_R_lo pm_M3 (pc_q := 60) rfl rfl rfl ?_
  refine pm_R_op pm_M3 (pc_q := 61) (st_q := [.int 4, .ref 25]) rfl rfl rfl ?_
  refine pm_R_newa pm_M3 (pc_q := 63) (N := 4) rfl rfl (by decide) rfl (Nat.le_of_ble_eq_true rfl) rfl ?_
  show pm_R _ 3 63 [.ref 25, .ref 18] [.ref 29, .ref 25] _ _
  refine pm_R_put pm_M3 (pc_q := 66) (fs_q := [.null, .int 0, .int (-1), .ref 26, .int 0, .ref 27, .int 0, .ref 28, .int 4, .int (-1), .ref 29]) rfl rfl rfl rfl (Nat.le_of_ble_eq_true rfl) (Nat.le_of_ble_eq_true rfl) (Nat.le_of_ble_eq_true rfl) rfl (Or.inr ⟨pm_N3_ini, rfl, rfl⟩) rfl rfl ?_
  refine pm_R_lo pm_M3 (pc_q := 67) rfl rfl rfl ?_
  refine pm_R_new pm_M3 (pc_q := 70) (fs := [.null, .int 0, .int 0, .int 0, .int 0, .int 0]) rfl rfl rfl rfl rfl ?_
  show pm_R _ 3 70 [.ref 25, .ref 18] [.ref 30, .ref 25] _ _
  refine pm_R_op pm_M3 (pc_q := 71) (st_q := [.ref 30, .ref 30, .ref 25]) rfl rfl rfl ?_
  refine pm_R_lo pm_M3 (pc_q := 72) rfl rfl rfl ?_
  refine pm_R_ci pm_M3 (pc_q := 75) (a := 30) (ra := [.ref 18]) (rest := [.ref 30, .ref 25]) (ls_q := [.ref 30, .ref 18]) rfl rfl (Or.inl rfl) pm_M4 rfl rfl (Nat.le_of_ble_eq_true rfl) rfl rfl ?_
  refine pm_R_lo pm_M4 (pc_q := 1) rfl rfl rfl ?_
  refine pm_R_obj pm_M4 (pc_q := 4) rfl rfl rfl (Nat.le_of_ble_eq_true rfl) rfl ?_
  refine pm_R_lo pm_M4 (pc_q := 5) rfl rfl rfl ?_
  refine pm_R_op pm_M4 (pc_q := 6) (st_q := [.int 0, .ref 30]) rfl rfl rfl ?_
  refine pm_R_put pm_M4 (pc_q := 9) (fs_q := [.null, .int 0, .int 0, .int 0, .int 0, .int 0]) rfl rfl rfl rfl (Nat.le_of_ble_eq_true rfl) (Nat.le_of_ble_eq_true rfl) (Nat.le_of_ble_eq_true rfl) rfl (Or.inl rfl) rfl rfl ?_
  refine pm_R_lo pm_M4 (pc_q := 10) rfl rfl rfl ?_
  refine pm_R_op pm_M4 (pc_q := 11) (st_q := [.int 0, .ref 30]) rfl rfl rfl ?_
  refine pm_R_put pm_M4 (pc_q := 14) (fs_q := [.null, .int 0, .int 0, .int 0, .int 0, .int 0]) rfl rfl rfl rfl (Nat.le_of_ble_eq_true rfl) (Nat.le_of_ble_eq_true rfl) (Nat.le_of_ble_eq_true rfl) rfl (Or.inl rfl) rfl rfl ?_
  refine pm_R_lo pm_M4 (pc_q := 15) rfl rfl rfl ?_
  refine pm_R_op pm_M4 (pc_q := 16) (st_q := [.int 0, .ref 30]) rfl rfl rfl ?_
  refine pm_R_put pm_M4 (pc_q := 19) (fs_q := [.null, .int 0, .int 0, .int 0, .int 0, .int 0]) rfl rfl rfl rfl (Nat.le_of_ble_eq_true rfl) (Nat.le_of_ble_eq_true rfl) (Nat.le_of_ble_eq_true rfl) rfl (Or.inl rfl) rfl rfl ?_
  refine pm_R_lo pm_M4 (pc_q := 20) rfl rfl rfl ?_
  refine pm_R_op pm_M4 (pc_q := 21) (st_q := [.int 0, .ref 30]) rfl rfl rfl ?_
  refine pm_R_put pm_M4 (pc_q := 24) (fs_q := [.null, .int 0, .int 0, .int 0, .int 0, .int 0]) rfl rfl rfl rfl (Nat.le_of_ble_eq_true rfl) (Nat.le_of_ble_eq_true rfl) (Nat.le_of_ble_eq_true rfl) rfl (Or.inl rfl) rfl rfl ?_
  refine pm_R_lo pm_M4 (pc_q := 25) rfl rfl rfl ?_
  refine pm_R_op pm_M4 (pc_q := 26) (st_q := [.int 0, .ref 30]) rfl rfl rfl ?_
  refine pm_R_put pm_M4 (pc_q := 29) (fs_q := [.null, .int 0, .int 0, .int 0, .int 0, .int 0]) rfl rfl rfl rfl (Nat.le_of_ble_eq_true rfl) (Nat.le_of_ble_eq_true rfl) (Nat.le_of_ble_eq_true rfl) rfl (Or.inl rfl) rfl rfl ?_
  refine pm_R_lo pm_M4 (pc_q := 30) rfl rfl rfl ?_
  refine pm_R_lo pm_M4 (pc_q := 31) rfl rfl rfl ?_
  refine pm_R_put pm_M4 (pc_q := 34) (fs_q := [.ref 18, .int 0, .int 0, .int 0, .int 0, .int 0]) rfl rfl rfl rfl (Nat.le_of_ble_eq_true rfl) (Nat.le_of_ble_eq_true rfl) (Nat.le_of_ble_eq_true rfl) rfl (Or.inr ⟨pm_N4_ini, rfl, rfl⟩) rfl rfl ?_
  refine pm_R_ret pm_M4 (r := none) rfl rfl ?_
  show pm_R _ 3 75 [.ref 25, .ref 18] [.ref 30, .ref 25] _ _
  refine pm_R_put pm_M3 (pc_q := 78) (fs_q := [.ref 30, .int 0, .int (-1), .ref 26, .int 0, .ref 27, .int 0, .ref 28, .int 4, .int (-1), .ref 29]) rfl rfl rfl rfl (Nat.le_of_ble_eq_true rfl) (Nat.le_of_ble_eq_true rfl) (Nat.le_of_ble_eq_true rfl) rfl (Or.inr ⟨pm_N3_ini, rfl, rfl⟩) rfl rfl ?_
  refine pm_R_ret pm_M3 (r := none) rfl rfl ?_
  show pm_R _ 1 38 [.ref 16] [.ref 25, .ref 16] _ _
  refine pm_R_put pm_M1 (pc_q := 41) (fs_q := [.ref 17, .ref 24, .ref 25, .null, .null, .null, .null, .null, .null, .null]) rfl rfl rfl rfl (Nat.le_of_ble_eq_true rfl) (Nat.le_of_ble_eq_true rfl) (Nat.le_of_ble_eq_true rfl) rfl (Or.inr ⟨pm_N1_ini, rfl, rfl⟩) rfl rfl ?_
  refine pm_R_lo pm_M1 (pc_q := 42) rfl rfl rfl ?_
  refine pm_R_new pm_M1 (pc_q := 45) (fs := [.null]) rfl rfl rfl rfl rfl ?_
  show pm_R _ 1 45 [.ref 16] [.ref 31, .ref 16] _ _
  refine pm_R_op pm_M1 (pc_q := 46) (st_q := [.ref 31, .ref 31, .ref 16]) rfl rfl rfl ?_
  refine pm_R_ci pm_M1 (pc_q := 49) (a := 31) (ra := []) (rest := [.ref 31, .ref 16]) (ls_q := [.ref 31]) rfl rfl (Or.inr rfl) pm_M5 rfl rfl (Nat.le_of_ble_eq_true rfl) rfl rfl ?_
  refine pm_R_lo pm_M5 (pc_q := 1) rfl rfl rfl ?_
  refine pm_R_obj pm_M5 (pc_q := 4) rfl rfl rfl (Nat.le_of_ble_eq_true rfl) rfl ?_
  refine pm_R_lo pm_M5 (pc_q := 5) rfl rfl rfl ?_
  refine pm_R_op pm_M5 (pc_q := 8) (st_q := [.int 468, .ref 31]) rfl rfl rfl ?_
  refine pm_R_newa pm_M5 (pc_q := 10) (N := 468) rfl rfl (by decide) rfl (Nat.le_of_ble_eq_true rfl) rfl ?_
  show pm_R _ 5 10 [.ref 31] [.ref 32, .ref 31] _ _
  refine pm_R_put pm_M5 (pc_q := 13) (fs_q := [.ref 32]) rfl rfl rfl rfl (Nat.le_of_ble_eq_true rfl) (Nat.le_of_ble_eq_true rfl) (Nat.le_of_ble_eq_true rfl) rfl (Or.inr ⟨pm_N5_ini, rfl, rfl⟩) rfl rfl ?_
  refine pm_R_ret pm_M5 (r := none) rfl rfl ?_
  show pm_R _ 1 49 [.ref 16] [.ref 31, .ref 16] _ _
  refine pm_R_put pm_M1 (pc_q := 52) (fs_q := [.ref 17, .ref 24, .ref 25, .ref 31, .null, .null, .null, .null, .null, .null]) rfl rfl rfl rfl (Nat.le_of_ble_eq_true rfl) (Nat.le_of_ble_eq_true rfl) (Nat.le_of_ble_eq_true rfl) rfl (Or.inr ⟨pm_N1_ini, rfl, rfl⟩) rfl rfl ?_
  refine pm_R_lo pm_M1 (pc_q := 53) rfl rfl rfl ?_
  refine pm_R_new pm_M1 (pc_q := 56) (fs := [.null, .null, .int 0, .int 0, .null, .null, .null]) rfl rfl rfl rfl rfl ?_
  show pm_R _ 1 56 [.ref 16] [.ref 33, .ref 16] _ _
  refine pm_R_op pm_M1 (pc_q := 57) (st_q := [.ref 33, .ref 33, .ref 16]) rfl rfl rfl ?_
  refine pm_R_ci pm_M1 (pc_q := 60) (a := 33) (ra := []) (rest := [.ref 33, .ref 16]) (ls_q := [.ref 33]) rfl rfl (Or.inr rfl) pm_M6 rfl rfl (Nat.le_of_ble_eq_true rfl) rfl rfl ?_
  refine pm_R_lo pm_M6 (pc_q := 1) rfl rfl rfl ?_
  refine pm_R_obj pm_M6 (pc_q := 4) rfl rfl rfl (Nat.le_of_ble_eq_true rfl) rfl ?_
  refine pm_R_lo pm_M6 (pc_q := 5) rfl rfl rfl ?_
  refine pm_R_op pm_M6 (pc_q := 8) (st_q := [.int 468, .ref 33]) rfl rfl rfl ?_
  refine pm_R_newa pm_M6 (pc_q := 10) (N := 468) rfl rfl (by decide) rfl (Nat.le_of_ble_eq_true rfl) rfl ?_
  show pm_R _ 6 10 [.ref 33] [.ref 34, .ref 33] _ _
  refine pm_R_put pm_M6 (pc_q := 13) (fs_q := [.ref 34, .null, .int 0, .int 0, .null, .null, .null]) rfl rfl rfl rfl (Nat.le_of_ble_eq_true rfl) (Nat.le_of_ble_eq_true rfl) (Nat.le_of_ble_eq_true rfl) rfl (Or.inr ⟨pm_N6_ini, rfl, rfl⟩) rfl rfl ?_
  refine pm_R_lo pm_M6 (pc_q := 14) rfl rfl rfl ?_
  refine pm_R_op pm_M6 (pc_q := 16) (st_q := [.int 12, .ref 33]) rfl rfl rfl ?_
  refine pm_R_newa pm_M6 (pc_q := 18) (N := 12) rfl rfl (by decide) rfl (Nat.le_of_ble_eq_true rfl) rfl ?_
  show pm_R _ 6 18 [.ref 33] [.ref 35, .ref 33] _ _
  refine pm_R_put pm_M6 (pc_q := 21) (fs_q := [.ref 34, .ref 35, .int 0, .int 0, .null, .null, .null]) rfl rfl rfl rfl (Nat.le_of_ble_eq_true rfl) (Nat.le_of_ble_eq_true rfl) (Nat.le_of_ble_eq_true rfl) rfl (Or.inr ⟨pm_N6_ini, rfl, rfl⟩) rfl rfl ?_
  refine pm_R_lo pm_M6 (pc_q := 22) rfl rfl rfl ?_
  refine pm_R_op pm_M6 (pc_q := 23) (st_q := [.int (-1), .ref 33]) rfl rfl rfl ?_
  refine pm_R_put pm_M6 (pc_q := 26) (fs_q := [.ref 34, .ref 35, .int (-1), .int 0, .null, .null, .null]) rfl rfl rfl rfl (Nat.le_of_ble_eq_true rfl) (Nat.le_of_ble_eq_true rfl) (Nat.le_of_ble_eq_true rfl) rfl (Or.inl rfl) rfl rfl ?_
  refine pm_R_lo pm_M6 (pc_q := 27) rfl rfl rfl ?_
  refine pm_R_op pm_M6 (pc_q := 28) (st_q := [.int (-1), .ref 33]) rfl rfl rfl ?_
  refine pm_R_put pm_M6 (pc_q := 31) (fs_q := [.ref 34, .ref 35, .int (-1), .int (-1), .null, .null, .null]) rfl rfl rfl rfl (Nat.le_of_ble_eq_true rfl) (Nat.le_of_ble_eq_true rfl) (Nat.le_of_ble_eq_true rfl) rfl (Or.inl rfl) rfl rfl ?_
  refine pm_R_lo pm_M6 (pc_q := 32) rfl rfl rfl ?_
  refine pm_R_op pm_M6 (pc_q := 34) (st_q := [.int 78, .ref 33]) rfl rfl rfl ?_
  refine pm_R_newa pm_M6 (pc_q := 36) (N := 78) rfl rfl (by decide) rfl (Nat.le_of_ble_eq_true rfl) rfl ?_
  show pm_R _ 6 36 [.ref 33] [.ref 36, .ref 33] _ _
  refine pm_R_put pm_M6 (pc_q := 39) (fs_q := [.ref 34, .ref 35, .int (-1), .int (-1), .ref 36, .null, .null]) rfl rfl rfl rfl (Nat.le_of_ble_eq_true rfl) (Nat.le_of_ble_eq_true rfl) (Nat.le_of_ble_eq_true rfl) rfl (Or.inr ⟨pm_N6_ini, rfl, rfl⟩) rfl rfl ?_
  refine pm_R_lo pm_M6 (pc_q := 40) rfl rfl rfl ?_
  refine pm_R_op pm_M6 (pc_q := 41) (st_q := [.null, .ref 33]) rfl rfl rfl ?_
  refine pm_R_put pm_M6 (pc_q := 44) (fs_q := [.ref 34, .ref 35, .int (-1), .int (-1), .ref 36, .null, .null]) rfl rfl rfl rfl (Nat.le_of_ble_eq_true rfl) (Nat.le_of_ble_eq_true rfl) (Nat.le_of_ble_eq_true rfl) rfl (Or.inl rfl) rfl rfl ?_
  refine pm_R_lo pm_M6 (pc_q := 45) rfl rfl rfl ?_
  refine pm_R_op pm_M6 (pc_q := 46) (st_q := [.null, .ref 33]) rfl rfl rfl ?_
  refine pm_R_put pm_M6 (pc_q := 49) (fs_q := [.ref 34, .ref 35, .int (-1), .int (-1), .ref 36, .null, .null]) rfl rfl rfl rfl (Nat.le_of_ble_eq_true rfl) (Nat.le_of_ble_eq_true rfl) (Nat.le_of_ble_eq_true rfl) rfl (Or.inl rfl) rfl rfl ?_
  refine pm_R_ret pm_M6 (r := none) rfl rfl ?_
  show pm_R _ 1 60 [.ref 16] [.ref 33, .ref 16] _ _
  refine pm_R_put pm_M1 (pc_q := 63) (fs_q := [.ref 17, .ref 24, .ref 25, .ref 31, .ref 33, .null, .null, .null, .null, .null]) rfl rfl rfl rfl (Nat.le_of_ble_eq_true rfl) (Nat.le_of_ble_eq_true rfl) (Nat.le_of_ble_eq_true rfl) rfl (Or.inr ⟨pm_N1_ini, rfl, rfl⟩) rfl rfl ?_
  refine pm_R_lo pm_M1 (pc_q := 64) rfl rfl rfl ?_
  refine pm_R_op pm_M1 (pc_q := 65) (st_q := [.null, .ref 16]) rfl rfl rfl ?_
  refine pm_R_put pm_M1 (pc_q := 68) (fs_q := [.ref 17, .ref 24, .ref 25, .ref 31, .ref 33, .null, .null, .null, .null, .null]) rfl rfl rfl rfl (Nat.le_of_ble_eq_true rfl) (Nat.le_of_ble_eq_true rfl) (Nat.le_of_ble_eq_true rfl) rfl (Or.inl rfl) rfl rfl ?_
  refine pm_R_lo pm_M1 (pc_q := 69) rfl rfl rfl ?_
  refine pm_R_stat pm_M1 (pc_q := 72) rfl rfl rfl ?_
  refine pm_R_op pm_M1 (pc_q := 73) (st_q := [.int 0, .ref 1, .ref 16]) rfl rfl rfl ?_
  refine pm_R_iald pm_M1 (pc_q := 74) (v := 2) rfl rfl (Nat.le_of_ble_eq_true rfl) rfl rfl rfl ?_
  refine pm_R_newq pm_M1 (pc_q := 77) (N := 2) rfl rfl rfl (by decide) rfl (Nat.le_of_ble_eq_true rfl) rfl ?_
  show pm_R _ 1 77 [.ref 16] [.ref 37, .ref 16] _ _
  refine pm_R_put pm_M1 (pc_q := 80) (fs_q := [.ref 17, .ref 24, .ref 25, .ref 31, .ref 33, .null, .ref 37, .null, .null, .null]) rfl rfl rfl rfl (Nat.le_of_ble_eq_true rfl) (Nat.le_of_ble_eq_true rfl) (Nat.le_of_ble_eq_true rfl) rfl (Or.inr ⟨pm_N1_ini, rfl, rfl⟩) rfl rfl ?_
  refine pm_R_lo pm_M1 (pc_q := 81) rfl rfl rfl ?_
  refine pm_R_op pm_M1 (pc_q := 83) (st_q := [.int 12, .ref 16]) rfl rfl rfl ?_
  refine pm_R_newa pm_M1 (pc_q := 85) (N := 12) rfl rfl (by decide) rfl (Nat.le_of_ble_eq_true rfl) rfl ?_
  show pm_R _ 1 85 [.ref 16] [.ref 38, .ref 16] _ _
  refine pm_R_put pm_M1 (pc_q := 88) (fs_q := [.ref 17, .ref 24, .ref 25, .ref 31, .ref 33, .null, .ref 37, .ref 38, .null, .null]) rfl rfl rfl rfl (Nat.le_of_ble_eq_true rfl) (Nat.le_of_ble_eq_true rfl) (Nat.le_of_ble_eq_true rfl) rfl (Or.inr ⟨pm_N1_ini, rfl, rfl⟩) rfl rfl ?_
  refine pm_R_lo pm_M1 (pc_q := 89) rfl rfl rfl ?_
  refine pm_R_op pm_M1 (pc_q := 91) (st_q := [.int 50, .ref 16]) rfl rfl rfl ?_
  refine pm_R_newa pm_M1 (pc_q := 93) (N := 50) rfl rfl (by decide) rfl (Nat.le_of_ble_eq_true rfl) rfl ?_
  show pm_R _ 1 93 [.ref 16] [.ref 39, .ref 16] _ _
  refine pm_R_put pm_M1 (pc_q := 96) (fs_q := [.ref 17, .ref 24, .ref 25, .ref 31, .ref 33, .null, .ref 37, .ref 38, .ref 39, .null]) rfl rfl rfl rfl (Nat.le_of_ble_eq_true rfl) (Nat.le_of_ble_eq_true rfl) (Nat.le_of_ble_eq_true rfl) rfl (Or.inr ⟨pm_N1_ini, rfl, rfl⟩) rfl rfl ?_
  refine pm_R_lo pm_M1 (pc_q := 97) rfl rfl rfl ?_
  refine pm_R_op pm_M1 (pc_q := 99) (st_q := [.int 50, .ref 16]) rfl rfl rfl ?_
  refine pm_R_newa pm_M1 (pc_q := 101) (N := 50) rfl rfl (by decide) rfl (Nat.le_of_ble_eq_true rfl) rfl ?_
  show pm_R _ 1 101 [.ref 16] [.ref 40, .ref 16] _ _
  refine pm_R_put pm_M1 (pc_q := 104) (fs_q := [.ref 17, .ref 24, .ref 25, .ref 31, .ref 33, .null, .ref 37, .ref 38, .ref 39, .ref 40]) rfl rfl rfl rfl (Nat.le_of_ble_eq_true rfl) (Nat.le_of_ble_eq_true rfl) (Nat.le_of_ble_eq_true rfl) rfl (Or.inr ⟨pm_N1_ini, rfl, rfl⟩) rfl rfl ?_
  refine pm_R_ret pm_M1 (r := none) rfl rfl ?_
  show pm_R _ 0 7 [.ref 0, pm_no, pm_no, pm_no] [.ref 16] _ _
  refine pm_R_lo pm_M0 (pc_q := 8) (ls_q := [.ref 0, .ref 16, pm_no, pm_no]) (st_q := []) rfl rfl rfl ?_
  refine pm_R_new pm_M0 (pc_q := 11) (fs := [.int 0, .null, .null, .null, .null, .null, .null, .null, .null, .null, .int 0, .int 0, .int 0, .int 0, .int 0, .long 0, .int 0, .int 0, .int 0, .null, .null, .int 0, .int 0, .int 0, .int 0, .null, .int 0, .int 0, .null, .null, .null, .int 0, .null, .null, .null, .null, .null, .null, .null, .null, .null, .null, .int 0, .int 0, .int 0, .null, .null, .int 0, .null, .int 0, .int 0, .null, .null]) rfl rfl rfl rfl rfl ?_
  show pm_R _ 0 11 [.ref 0, .ref 16, pm_no, pm_no] [.ref 41] _ _
  refine pm_R_op pm_M0 (pc_q := 12) (st_q := [.ref 41, .ref 41]) rfl rfl rfl ?_
  refine pm_R_ci pm_M0 (pc_q := 15) (a := 41) (ra := []) (rest := [.ref 41]) (ls_q := [.ref 41]) rfl rfl (Or.inl rfl) pm_M170 rfl rfl (Nat.le_of_ble_eq_true rfl) rfl rfl ?_
  refine pm_R_lo pm_M170 (pc_q := 1) rfl rfl rfl ?_
  refine pm_R_obj pm_M170 (pc_q := 4) rfl rfl rfl (Nat.le_of_ble_eq_true rfl) rfl ?_
  refine pm_R_lo pm_M170 (pc_q := 5) rfl rfl rfl ?_
  refine pm_R_op pm_M170 (pc_q := 8) (st_q := [.int 2400, .ref 41]) rfl rfl rfl ?_
  refine pm_R_newa pm_M170 (pc_q := 10) (N := 2400) rfl rfl (by decide) rfl (Nat.le_of_ble_eq_true rfl) rfl ?_
  show pm_R _ 170 10 [.ref 41] [.ref 42, .ref 41] _ _
  refine pm_R_put pm_M170 (pc_q := 13) (fs_q := [.int 0, .ref 42, .null, .null, .null, .null, .null, .null, .null, .null, .int 0, .int 0, .int 0, .int 0, .int 0, .long 0, .int 0, .int 0, .int 0, .null, .null, .int 0, .int 0, .int 0, .int 0, .null, .int 0, .int 0, .null, .null, .null, .int 0, .null, .null, .null, .null, .null, .null, .null, .null, .null, .null, .int 0, .int 0, .int 0, .null, .null, .int 0, .null, .int 0, .int 0, .null, .null]) rfl rfl rfl rfl (Nat.le_of_ble_eq_true rfl) (Nat.le_of_ble_eq_true rfl) (Nat.le_of_ble_eq_true rfl) rfl (Or.inr ⟨pm_N170_ini, rfl, rfl⟩) rfl rfl ?_
  refine pm_R_lo pm_M170 (pc_q := 14) rfl rfl rfl ?_
  refine pm_R_op pm_M170 (pc_q := 15) (st_q := [.int 4, .ref 41]) rfl rfl rfl ?_
  refine pm_R_newa pm_M170 (pc_q := 17) (N := 4) rfl rfl (by decide) rfl (Nat.le_of_ble_eq_true rfl) rfl ?_
  show pm_R _ 170 17 [.ref 41] [.ref 43, .ref 41] _ _
  refine pm_R_put pm_M170 (pc_q := 20) (fs_q := [.int 0, .ref 42, .ref 43, .null, .null, .null, .null, .null, .null, .null, .int 0, .int 0, .int 0, .int 0, .int 0, .long 0, .int 0, .int 0, .int 0, .null, .null, .int 0, .int 0, .int 0, .int 0, .null, .int 0, .int 0, .null, .null, .null, .int 0, .null, .null, .null, .null, .null, .null, .null, .null, .null, .null, .int 0, .int 0, .int 0, .null, .null, .int 0, .null, .int 0, .int 0, .null, .null]) rfl rfl rfl rfl (Nat.le_of_ble_eq_true rfl) (Nat.le_of_ble_eq_true rfl) (Nat.le_of_ble_eq_true rfl) rfl (Or.inr ⟨pm_N170_ini, rfl, rfl⟩) rfl rfl ?_
  refine pm_R_lo pm_M170 (pc_q := 21) rfl rfl rfl ?_
  refine pm_R_op pm_M170 (pc_q := 22) (st_q := [.int 4, .ref 41]) rfl rfl rfl ?_
  refine pm_R_newa pm_M170 (pc_q := 24) (N := 4) rfl rfl (by decide) rfl (Nat.le_of_ble_eq_true rfl) rfl ?_
  show pm_R _ 170 24 [.ref 41] [.ref 44, .ref 41] _ _
  refine pm_R_put pm_M170 (pc_q := 27) (fs_q := [.int 0, .ref 42, .ref 43, .ref 44, .null, .null, .null, .null, .null, .null, .int 0, .int 0, .int 0, .int 0, .int 0, .long 0, .int 0, .int 0, .int 0, .null, .null, .int 0, .int 0, .int 0, .int 0, .null, .int 0, .int 0, .null, .null, .null, .int 0, .null, .null, .null, .null, .null, .null, .null, .null, .null, .null, .int 0, .int 0, .int 0, .null, .null, .int 0, .null, .int 0, .int 0, .null, .null]) rfl rfl rfl rfl (Nat.le_of_ble_eq_true rfl) (Nat.le_of_ble_eq_true rfl) (Nat.le_of_ble_eq_true rfl) rfl (Or.inr ⟨pm_N170_ini, rfl, rfl⟩) rfl rfl ?_
  refine pm_R_lo pm_M170 (pc_q := 28) rfl rfl rfl ?_
  refine pm_R_op pm_M170 (pc_q := 29) (st_q := [.int 4, .ref 41]) rfl rfl rfl ?_
  refine pm_R_newa pm_M170 (pc_q := 31) (N := 4) rfl rfl (by decide) rfl (Nat.le_of_ble_eq_true rfl) rfl ?_
  show pm_R _ 170 31 [.ref 41] [.ref 45, .ref 41] _ _
  refine pm_R_put pm_M170 (pc_q := 34) (fs_q := [.int 0, .ref 42, .ref 43, .ref 44, .ref 45, .null, .null, .null, .null, .null, .int 0, .int 0, .int 0, .int 0, .int 0, .long 0, .int 0, .int 0, .int 0, .null, .null, .int 0, .int 0, .int 0, .int 0, .null, .int 0, .int 0, .null, .null, .null, .int 0, .null, .null, .null, .null, .null, .null, .null, .null, .null, .null, .int 0, .int 0, .int 0, .null, .null, .int 0, .null, .int 0, .int 0, .null, .null]) rfl rfl rfl rfl (Nat.le_of_ble_eq_true rfl) (Nat.le_of_ble_eq_true rfl) (Nat.le_of_ble_eq_true rfl) rfl (Or.inr ⟨pm_N170_ini, rfl, rfl⟩) rfl rfl ?_
  refine pm_R_lo pm_M170 (pc_q := 35) rfl rfl rfl ?_
  refine pm_R_op pm_M170 (pc_q := 37) (st_q := [.int 16, .ref 41]) rfl rfl rfl ?_
  refine pm_R_newa pm_M170 (pc_q := 39) (N := 16) rfl rfl (by decide) rfl (Nat.le_of_ble_eq_true rfl) rfl ?_
  show pm_R _ 170 39 [.ref 41] [.ref 46, .ref 41] _ _
  refine pm_R_put pm_M170 (pc_q := 42) (fs_q := [.int 0, .ref 42, .ref 43, .ref 44, .ref 45, .ref 46, .null, .null, .null, .null, .int 0, .int 0, .int 0, .int 0, .int 0, .long 0, .int 0, .int 0, .int 0, .null, .null, .int 0, .int 0, .int 0, .int 0, .null, .int 0, .int 0, .null, .null, .null, .int 0, .null, .null, .null, .null, .null, .null, .null, .null, .null, .null, .int 0, .int 0, .int 0, .null, .null, .int 0, .null, .int 0, .int 0, .null, .null]) rfl rfl rfl rfl (Nat.le_of_ble_eq_true rfl) (Nat.le_of_ble_eq_true rfl) (Nat.le_of_ble_eq_true rfl) rfl (Or.inr ⟨pm_N170_ini, rfl, rfl⟩) rfl rfl ?_
  refine pm_R_lo pm_M170 (pc_q := 43) rfl rfl rfl ?_
  refine pm_R_op pm_M170 (pc_q := 46) (st_q := [.int 800, .ref 41]) rfl rfl rfl ?_
  refine pm_R_newa pm_M170 (pc_q := 48) (N := 800) rfl rfl (by decide) rfl (Nat.le_of_ble_eq_true rfl) rfl ?_
  show pm_R _ 170 48 [.ref 41] [.ref 47, .ref 41] _ _
  refine pm_R_put pm_M170 (pc_q := 51) (fs_q := [.int 0, .ref 42, .ref 43, .ref 44, .ref 45, .ref 46, .ref 47, .null, .null, .null, .int 0, .int 0, .int 0, .int 0, .int 0, .long 0, .int 0, .int 0, .int 0, .null, .null, .int 0, .int 0, .int 0, .int 0, .null, .int 0, .int 0, .null, .null, .null, .int 0, .null, .null, .null, .null, .null, .null, .null, .null, .null, .null, .int 0, .int 0, .int 0, .null, .null, .int 0, .null, .int 0, .int 0, .null, .null]) rfl rfl rfl rfl (Nat.le_of_ble_eq_true rfl) (Nat.le_of_ble_eq_true rfl) (Nat.le_of_ble_eq_true rfl) rfl (Or.inr ⟨pm_N170_ini, rfl, rfl⟩) rfl rfl ?_
  refine pm_R_lo pm_M170 (pc_q := 52) rfl rfl rfl ?_
  refine pm_R_op pm_M170 (pc_q := 55) (st_q := [.int 156, .ref 41]) rfl rfl rfl ?_
  refine pm_R_newa pm_M170 (pc_q := 57) (N := 156) rfl rfl (by decide) rfl (Nat.le_of_ble_eq_true rfl) rfl ?_
  show pm_R _ 170 57 [.ref 41] [.ref 48, .ref 41] _ _
  refine pm_R_put pm_M170 (pc_q := 60) (fs_q := [.int 0, .ref 42, .ref 43, .ref 44, .ref 45, .ref 46, .ref 47, .ref 48, .null, .null, .int 0, .int 0, .int 0, .int 0, .int 0, .long 0, .int 0, .int 0, .int 0, .null, .null, .int 0, .int 0, .int 0, .int 0, .null, .int 0, .int 0, .null, .null, .null, .int 0, .null, .null, .null, .null, .null, .null, .null, .null, .null, .null, .int 0, .int 0, .int 0, .null, .null, .int 0, .null, .int 0, .int 0, .null, .null]) rfl rfl rfl rfl (Nat.le_of_ble_eq_true rfl) (Nat.le_of_ble_eq_true rfl) (Nat.le_of_ble_eq_true rfl) rfl (Or.inr ⟨pm_N170_ini, rfl, rfl⟩) rfl rfl ?_
  refine pm_R_lo pm_M170 (pc_q := 61) rfl rfl rfl ?_
  refine pm_R_op pm_M170 (pc_q := 64) (st_q := [.int 1216, .ref 41]) rfl rfl rfl ?_
  refine pm_R_newa pm_M170 (pc_q := 66) (N := 1216) rfl rfl (by decide) rfl (Nat.le_of_ble_eq_true rfl) rfl ?_
  show pm_R _ 170 66 [.ref 41] [.ref 49, .ref 41] _ _
  refine pm_R_put pm_M170 (pc_q := 69) (fs_q := [.int 0, .ref 42, .ref 43, .ref 44, .ref 45, .ref 46, .ref 47, .ref 48, .ref 49, .null, .int 0, .int 0, .int 0, .int 0, .int 0, .long 0, .int 0, .int 0, .int 0, .null, .null, .int 0, .int 0, .int 0, .int 0, .null, .int 0, .int 0, .null, .null, .null, .int 0, .null, .null, .null, .null, .null, .null, .null, .null, .null, .null, .int 0, .int 0, .int 0, .null, .null, .int 0, .null, .int 0, .int 0, .null, .null]) rfl rfl rfl rfl (Nat.le_of_ble_eq_true rfl) (Nat.le_of_ble_eq_true rfl) (Nat.le_of_ble_eq_true rfl) rfl (Or.inr ⟨pm_N170_ini, rfl, rfl⟩) rfl rfl ?_
  refine pm_R_lo pm_M170 (pc_q := 70) rfl rfl rfl ?_
  refine pm_R_op pm_M170 (pc_q := 73) (st_q := [.int 200, .ref 41]) rfl rfl rfl ?_
  refine pm_R_newa pm_M170 (pc_q := 75) (N := 200) rfl rfl (by decide) rfl (Nat.le_of_ble_eq_true rfl) rfl ?_
  show pm_R _ 170 75 [.ref 41] [.ref 50, .ref 41] _ _
  refine pm_R_put pm_M170 (pc_q := 78) (fs_q := [.int 0, .ref 42, .ref 43, .ref 44, .ref 45, .ref 46, .ref 47, .ref 48, .ref 49, .ref 50, .int 0, .int 0, .int 0, .int 0, .int 0, .long 0, .int 0, .int 0, .int 0, .null, .null, .int 0, .int 0, .int 0, .int 0, .null, .int 0, .int 0, .null, .null, .null, .int 0, .null, .null, .null, .null, .null, .null, .null, .null, .null, .null, .int 0, .int 0, .int 0, .null, .null, .int 0, .null, .int 0, .int 0, .null, .null]) rfl rfl rfl rfl (Nat.le_of_ble_eq_true rfl) (Nat.le_of_ble_eq_true rfl) (Nat.le_of_ble_eq_true rfl) rfl (Or.inr ⟨pm_N170_ini, rfl, rfl⟩) rfl rfl ?_
  refine pm_R_lo pm_M170 (pc_q := 79) rfl rfl rfl ?_
  refine pm_R_op pm_M170 (pc_q := 82) (st_q := [.int 152, .ref 41]) rfl rfl rfl ?_
  refine pm_R_newa pm_M170 (pc_q := 84) (N := 152) rfl rfl (by decide) rfl (Nat.le_of_ble_eq_true rfl) rfl ?_
  show pm_R _ 170 84 [.ref 41] [.ref 51, .ref 41] _ _
  refine pm_R_put pm_M170 (pc_q := 87) (fs_q := [.int 0, .ref 42, .ref 43, .ref 44, .ref 45, .ref 46, .ref 47, .ref 48, .ref 49, .ref 50, .int 0, .int 0, .int 0, .int 0, .int 0, .long 0, .int 0, .int 0, .int 0, .ref 51, .null, .int 0, .int 0, .int 0, .int 0, .null, .int 0, .int 0, .null, .null, .null, .int 0, .null, .null, .null, .null, .null, .null, .null, .null, .null, .null, .int 0, .int 0, .int 0, .null, .null, .int 0, .null, .int 0, .int 0, .null, .null]) rfl rfl rfl rfl (Nat.le_of_ble_eq_true rfl) (Nat.le_of_ble_eq_true rfl) (Nat.le_of_ble_eq_true rfl) rfl (Or.inr ⟨pm_N170_ini, rfl, rfl⟩) rfl rfl ?_
  refine pm_R_lo pm_M170 (pc_q := 88) rfl rfl rfl ?_
  refine pm_R_op pm_M170 (pc_q := 89) (st_q := [.int 4, .ref 41]) rfl rfl rfl ?_
  refine pm_R_newa pm_M170 (pc_q := 91) (N := 4) rfl rfl (by decide) rfl (Nat.le_of_ble_eq_true rfl) rfl ?_
  show pm_R _ 170 91 [.ref 41] [.ref 52, .ref 41] _ _
  refine pm_R_put pm_M170 (pc_q := 94) (fs_q := [.int 0, .ref 42, .ref 43, .ref 44, .ref 45, .ref 46, .ref 47, .ref 48, .ref 49, .ref 50, .int 0, .int 0, .int 0, .int 0, .int 0, .long 0, .int 0, .int 0, .int 0, .ref 51, .ref 52, .int 0, .int 0, .int 0, .int 0, .null, .int 0, .int 0, .null, .null, .null, .int 0, .null, .null, .null, .null, .null, .null, .null, .null, .null, .null, .int 0, .int 0, .int 0, .null, .null, .int 0, .null, .int 0, .int 0, .null, .null]) rfl rfl rfl rfl (Nat.le_of_ble_eq_true rfl) (Nat.le_of_ble_eq_true rfl) (Nat.le_of_ble_eq_true rfl) rfl (Or.inr ⟨pm_N170_ini, rfl, rfl⟩) rfl rfl ?_
  refine pm_R_lo pm_M170 (pc_q := 95) rfl rfl rfl ?_
  refine pm_R_op pm_M170 (pc_q := 97) (st_q := [.int 12, .ref 41]) rfl rfl rfl ?_
  refine pm_R_newa pm_M170 (pc_q := 99) (N := 12) rfl rfl (by decide) rfl (Nat.le_of_ble_eq_true rfl) rfl ?_
  show pm_R _ 170 99 [.ref 41] [.ref 53, .ref 41] _ _
  refine pm_R_put pm_M170 (pc_q := 102) (fs_q := [.int 0, .ref 42, .ref 43, .ref 44, .ref 45, .ref 46, .ref 47, .ref 48, .ref 49, .ref 50, .int 0, .int 0, .int 0, .int 0, .int 0, .long 0, .int 0, .int 0, .int 0, .ref 51, .ref 52, .int 0, .int 0, .int 0, .int 0, .ref 53, .int 0, .int 0, .null, .null, .null, .int 0, .null, .null, .null, .null, .null, .null, .null, .null, .null, .null, .int 0, .int 0, .int 0, .null, .null, .int 0, .null, .int 0, .int 0, .null, .null]) rfl rfl rfl rfl (Nat.le_of_ble_eq_true rfl) (Nat.le_of_ble_eq_true rfl) (Nat.le_of_ble_eq_true rfl) rfl (Or.inr ⟨pm_N170_ini, rfl, rfl⟩) rfl rfl ?_
  refine pm_R_lo pm_M170 (pc_q := 103) rfl rfl rfl ?_
  refine pm_R_op pm_M170 (pc_q := 106) (st_q := [.int 864, .ref 41]) rfl rfl rfl ?_
  refine pm_R_newa pm_M170 (pc_q := 108) (N := 864) rfl rfl (by decide) rfl (Nat.le_of_ble_eq_true rfl) rfl ?_
  show pm_R _ 170 108 [.ref 41] [.ref 54, .ref 41] _ _
  refine pm_R_put pm_M170 (pc_q := 111) (fs_q := [.int 0, .ref 42, .ref 43, .ref 44, .ref 45, .ref 46, .ref 47, .ref 48, .ref 49, .ref 50, .int 0, .int 0, .int 0, .int 0, .int 0, .long 0, .int 0, .int 0, .int 0, .ref 51, .ref 52, .int 0, .int 0, .int 0, .int 0, .ref 53, .int 0, .int 0, .ref 54, .null, .null, .int 0, .null, .null, .null, .null, .null, .null, .null, .null, .null, .null, .int 0, .int 0, .int 0, .null, .null, .int 0, .null, .int 0, .int 0, .null, .null]) rfl rfl rfl rfl (Nat.le_of_ble_eq_true rfl) (Nat.le_of_ble_eq_true rfl) (Nat.le_of_ble_eq_true rfl) rfl (Or.inr ⟨pm_N170_ini, rfl, rfl⟩) rfl rfl ?_
  refine pm_R_lo pm_M170 (pc_q := 112) rfl rfl rfl ?_
  refine pm_R_op pm_M170 (pc_q := 115) (st_q := [.int 864, .ref 41]) rfl rfl rfl ?_
  refine pm_R_newa pm_M170 (pc_q := 117) (N := 864) rfl rfl (by decide) rfl (Nat.le_of_ble_eq_true rfl) rfl ?_
  show pm_R _ 170 117 [.ref 41] [.ref 55, .ref 41] _ _
  refine pm_R_put pm_M170 (pc_q := 120) (fs_q := [.int 0, .ref 42, .ref 43, .ref 44, .ref 45, .ref 46, .ref 47, .ref 48, .ref 49, .ref 50, .int 0, .int 0, .int 0, .int 0, .int 0, .long 0, .int 0, .int 0, .int 0, .ref 51, .ref 52, .int 0, .int 0, .int 0, .int 0, .ref 53, .int 0, .int 0, .ref 54, .ref 55, .null, .int 0, .null, .null, .null, .null, .null, .null, .null, .null, .null, .null, .int 0, .int 0, .int 0, .null, .null, .int 0, .null, .int 0, .int 0, .null, .null]) rfl rfl rfl rfl (Nat.le_of_ble_eq_true rfl) (Nat.le_of_ble_eq_true rfl) (Nat.le_of_ble_eq_true rfl) rfl (Or.inr ⟨pm_N170_ini, rfl, rfl⟩) rfl rfl ?_
  refine pm_R_lo pm_M170 (pc_q := 121) rfl rfl rfl ?_
  refine pm_R_ldc pm_M170 (pc_q := 123) rfl rfl rfl ?_
  refine pm_R_newa pm_M170 (pc_q := 125) (N := 43200) rfl rfl (by decide) rfl (Nat.le_of_ble_eq_true rfl) rfl ?_
  show pm_R _ 170 125 [.ref 41] [.ref 56, .ref 41] _ _
  refine pm_R_put pm_M170 (pc_q := 128) (fs_q := [.int 0, .ref 42, .ref 43, .ref 44, .ref 45, .ref 46, .ref 47, .ref 48, .ref 49, .ref 50, .int 0, .int 0, .int 0, .int 0, .int 0, .long 0, .int 0, .int 0, .int 0, .ref 51, .ref 52, .int 0, .int 0, .int 0, .int 0, .ref 53, .int 0, .int 0, .ref 54, .ref 55, .ref 56, .int 0, .null, .null, .null, .null, .null, .null, .null, .null, .null, .null, .int 0, .int 0, .int 0, .null, .null, .int 0, .null, .int 0, .int 0, .null, .null]) rfl rfl rfl rfl (Nat.le_of_ble_eq_true rfl) (Nat.le_of_ble_eq_true rfl) (Nat.le_of_ble_eq_true rfl) rfl (Or.inr ⟨pm_N170_ini, rfl, rfl⟩) rfl rfl ?_
  refine pm_R_lo pm_M170 (pc_q := 129) rfl rfl rfl ?_
  refine pm_R_op pm_M170 (pc_q := 131) (st_q := [.int 24, .ref 41]) rfl rfl rfl ?_
  refine pm_R_newa pm_M170 (pc_q := 133) (N := 24) rfl rfl (by decide) rfl (Nat.le_of_ble_eq_true rfl) rfl ?_
  show pm_R _ 170 133 [.ref 41] [.ref 57, .ref 41] _ _
  refine pm_R_put pm_M170 (pc_q := 136) (fs_q := [.int 0, .ref 42, .ref 43, .ref 44, .ref 45, .ref 46, .ref 47, .ref 48, .ref 49, .ref 50, .int 0, .int 0, .int 0, .int 0, .int 0, .long 0, .int 0, .int 0, .int 0, .ref 51, .ref 52, .int 0, .int 0, .int 0, .int 0, .ref 53, .int 0, .int 0, .ref 54, .ref 55, .ref 56, .int 0, .ref 57, .null, .null, .null, .null, .null, .null, .null, .null, .null, .int 0, .int 0, .int 0, .null, .null, .int 0, .null, .int 0, .int 0, .null, .null]) rfl rfl rfl rfl (Nat.le_of_ble_eq_true rfl) (Nat.le_of_ble_eq_true rfl) (Nat.le_of_ble_eq_true rfl) rfl (Or.inr ⟨pm_N170_ini, rfl, rfl⟩) rfl rfl ?_
  refine pm_R_lo pm_M170 (pc_q := 137) rfl rfl rfl ?_
  refine pm_R_op pm_M170 (pc_q := 139) (st_q := [.int 24, .ref 41]) rfl rfl rfl ?_
  refine pm_R_newa pm_M170 (pc_q := 141) (N := 24) rfl rfl (by decide) rfl (Nat.le_of_ble_eq_true rfl) rfl ?_
  show pm_R _ 170 141 [.ref 41] [.ref 58, .ref 41] _ _
  refine pm_R_put pm_M170 (pc_q := 144) (fs_q := [.int 0, .ref 42, .ref 43, .ref 44, .ref 45, .ref 46, .ref 47, .ref 48, .ref 49, .ref 50, .int 0, .int 0, .int 0, .int 0, .int 0, .long 0, .int 0, .int 0, .int 0, .ref 51, .ref 52, .int 0, .int 0, .int 0, .int 0, .ref 53, .int 0, .int 0, .ref 54, .ref 55, .ref 56, .int 0, .ref 57, .ref 58, .null, .null, .null, .null, .null, .null, .null, .null, .int 0, .int 0, .int 0, .null, .null, .int 0, .null, .int 0, .int 0, .null, .null]) rfl rfl rfl rfl (Nat.le_of_ble_eq_true rfl) (Nat.le_of_ble_eq_true rfl) (Nat.le_of_ble_eq_true rfl) rfl (Or.inr ⟨pm_N170_ini, rfl, rfl⟩) rfl rfl ?_
  refine pm_R_lo pm_M170 (pc_q := 145) rfl rfl rfl ?_
  refine pm_R_op pm_M170 (pc_q := 147) (st_q := [.int 24, .ref 41]) rfl rfl rfl ?_
  refine pm_R_newa pm_M170 (pc_q := 149) (N := 24) rfl rfl (by decide) rfl (Nat.le_of_ble_eq_true rfl) rfl ?_
  show pm_R _ 170 149 [.ref 41] [.ref 59, .ref 41] _ _
  refine pm_R_put pm_M170 (pc_q := 152) (fs_q := [.int 0, .ref 42, .ref 43, .ref 44, .ref 45, .ref 46, .ref 47, .ref 48, .ref 49, .ref 50, .int 0, .int 0, .int 0, .int 0, .int 0, .long 0, .int 0, .int 0, .int 0, .ref 51, .ref 52, .int 0, .int 0, .int 0, .int 0, .ref 53, .int 0, .int 0, .ref 54, .ref 55, .ref 56, .int 0, .ref 57, .ref 58, .ref 59, .null, .null, .null, .null, .null, .null, .null, .int 0, .int 0, .int 0, .null, .null, .int 0, .null, .int 0, .int 0, .null, .null]) rfl rfl rfl rfl (Nat.le_of_ble_eq_true rfl) (Nat.le_of_ble_eq_true rfl) (Nat.le_of_ble_eq_true rfl) rfl (Or.inr ⟨pm_N170_ini, rfl, rfl⟩) rfl rfl ?_
  refine pm_R_lo pm_M170 (pc_q := 153) rfl rfl rfl ?_
  refine pm_R_op pm_M170 (pc_q := 155) (st_q := [.int 24, .ref 41]) rfl rfl rfl ?_
  refine pm_R_newa pm_M170 (pc_q := 157) (N := 24) rfl rfl (by decide) rfl (Nat.le_of_ble_eq_true rfl) rfl ?_
  show pm_R _ 170 157 [.ref 41] [.ref 60, .ref 41] _ _
  refine pm_R_put pm_M170 (pc_q := 160) (fs_q := [.int 0, .ref 42, .ref 43, .ref 44, .ref 45, .ref 46, .ref 47, .ref 48, .ref 49, .ref 50, .int 0, .int 0, .int 0, .int 0, .int 0, .long 0, .int 0, .int 0, .int 0, .ref 51, .ref 52, .int 0, .int 0, .int 0, .int 0, .ref 53, .int 0, .int 0, .ref 54, .ref 55, .ref 56, .int 0, .ref 57, .ref 58, .ref 59, .ref 60, .null, .null, .null, .null, .null, .null, .int 0, .int 0, .int 0, .null, .null, .int 0, .null, .int 0, .int 0, .null, .null]) rfl rfl rfl rfl (Nat.le_of_ble_eq_true rfl) (Nat.le_of_ble_eq_true rfl) (Nat.le_of_ble_eq_true rfl) rfl (Or.inr ⟨pm_N170_ini, rfl, rfl⟩) rfl rfl ?_
  refine pm_R_lo pm_M170 (pc_q := 161) rfl rfl rfl ?_
  refine pm_R_op pm_M170 (pc_q := 163) (st_q := [.int 24, .ref 41]) rfl rfl rfl ?_
  refine pm_R_newa pm_M170 (pc_q := 165) (N := 24) rfl rfl (by decide) rfl (Nat.le_of_ble_eq_true rfl) rfl ?_
  show pm_R _ 170 165 [.ref 41] [.ref 61, .ref 41] _ _
  refine pm_R_put pm_M170 (pc_q := 168) (fs_q := [.int 0, .ref 42, .ref 43, .ref 44, .ref 45, .ref 46, .ref 47, .ref 48, .ref 49, .ref 50, .int 0, .int 0, .int 0, .int 0, .int 0, .long 0, .int 0, .int 0, .int 0, .ref 51, .ref 52, .int 0, .int 0, .int 0, .int 0, .ref 53, .int 0, .int 0, .ref 54, .ref 55, .ref 56, .int 0, .ref 57, .ref 58, .ref 59, .ref 60, .ref 61, .null, .null, .null, .null, .null, .int 0, .int 0, .int 0, .null, .null, .int 0, .null, .int 0, .int 0, .null, .null]) rfl rfl rfl rfl (Nat.le_of_ble_eq_true rfl) (Nat.le_of_ble_eq_true rfl) (Nat.le_of_ble_eq_true rfl) rfl (Or.inr ⟨pm_N170_ini, rfl, rfl⟩) rfl rfl ?_
  refine pm_R_lo pm_M170 (pc_q := 169) rfl rfl rfl ?_
  refine pm_R_op pm_M170 (pc_q := 171) (st_q := [.int 24, .ref 41]) rfl rfl rfl ?_
  refine pm_R_newa pm_M170 (pc_q := 173) (N := 24) rfl rfl (by decide) rfl (Nat.le_of_ble_eq_true rfl) rfl ?_
  show pm_R _ 170 173 [.ref 41] [.ref 62, .ref 41] _ _
  refine pm_R_put pm_M170 (pc_q := 176) (fs_q := [.int 0, .ref 42, .ref 43, .ref 44, .ref 45, .ref 46, .ref 47, .ref 48, .ref 49, .ref 50, .int 0, .int 0, .int 0, .int 0, .int 0, .long 0, .int 0, .int 0, .int 0, .ref 51, .ref 52, .int 0, .int 0, .int 0, .int 0, .ref 53, .int 0, .int 0, .ref 54, .ref 55, .ref 56, .int 0, .ref 57, .ref 58, .ref 59, .ref 60, .ref 61, .ref 62, .null, .null, .null, .null, .int 0, .int 0, .int 0, .null, .null, .int 0, .null, .int 0, .int 0, .null, .null]) rfl rfl rfl rfl (Nat.le_of_ble_eq_true rfl) (Nat.le_of_ble_eq_true rfl) (Nat.le_of_ble_eq_true rfl) rfl (Or.inr ⟨pm_N170_ini, rfl, rfl⟩) rfl rfl ?_
  refine pm_R_lo pm_M170 (pc_q := 177) rfl rfl rfl ?_
  refine pm_R_op pm_M170 (pc_q := 179) (st_q := [.int 24, .ref 41]) rfl rfl rfl ?_
  refine pm_R_newa pm_M170 (pc_q := 181) (N := 24) rfl rfl (by decide) rfl (Nat.le_of_ble_eq_true rfl) rfl ?_
  show pm_R _ 170 181 [.ref 41] [.ref 63, .ref 41] _ _
  refine pm_R_put pm_M170 (pc_q := 184) (fs_q := [.int 0, .ref 42, .ref 43, .ref 44, .ref 45, .ref 46, .ref 47, .ref 48, .ref 49, .ref 50, .int 0, .int 0, .int 0, .int 0, .int 0, .long 0, .int 0, .int 0, .int 0, .ref 51, .ref 52, .int 0, .int 0, .int 0, .int 0, .ref 53, .int 0, .int 0, .ref 54, .ref 55, .ref 56, .int 0, .ref 57, .ref 58, .ref 59, .ref 60, .ref 61, .ref 62, .ref 63, .null, .null, .null, .int 0, .int 0, .int 0, .null, .null, .int 0, .null, .int 0, .int 0, .null, .null]) rfl rfl rfl rfl (Nat.le_of_ble_eq_true rfl) (Nat.le_of_ble_eq_true rfl) (Nat.le_of_ble_eq_true rfl) rfl (Or.inr ⟨pm_N170_ini, rfl, rfl⟩) rfl rfl ?_
  refine pm_R_lo pm_M170 (pc_q := 185) rfl rfl rfl ?_
  refine pm_R_op pm_M170 (pc_q := 187) (st_q := [.int 24, .ref 41]) rfl rfl rfl ?_
  refine pm_R_newa pm_M170 (pc_q := 189) (N := 24) rfl rfl (by decide) rfl (Nat.le_of_ble_eq_true rfl) rfl ?_
  show pm_R _ 170 189 [.ref 41] [.ref 64, .ref 41] _ _
  refine pm_R_put pm_M170 (pc_q := 192) (fs_q := [.int 0, .ref 42, .ref 43, .ref 44, .ref 45, .ref 46, .ref 47, .ref 48, .ref 49, .ref 50, .int 0, .int 0, .int 0, .int 0, .int 0, .long 0, .int 0, .int 0, .int 0, .ref 51, .ref 52, .int 0, .int 0, .int 0, .int 0, .ref 53, .int 0, .int 0, .ref 54, .ref 55, .ref 56, .int 0, .ref 57, .ref 58, .ref 59, .ref 60, .ref 61, .ref 62, .ref 63, .ref 64, .null, .null, .int 0, .int 0, .int 0, .null, .null, .int 0, .null, .int 0, .int 0, .null, .null]) rfl rfl rfl rfl (Nat.le_of_ble_eq_true rfl) (Nat.le_of_ble_eq_true rfl) (Nat.le_of_ble_eq_true rfl) rfl (Or.inr ⟨pm_N170_ini, rfl, rfl⟩) rfl rfl ?_
  refine pm_R_lo pm_M170 (pc_q := 193) rfl rfl rfl ?_
  refine pm_R_op pm_M170 (pc_q := 195) (st_q := [.int 12, .ref 41]) rfl rfl rfl ?_
  refine pm_R_newa pm_M170 (pc_q := 197) (N := 12) rfl rfl (by decide) rfl (Nat.le_of_ble_eq_true rfl) rfl ?_
  show pm_R _ 170 197 [.ref 41] [.ref 65, .ref 41] _ _
  refine pm_R_put pm_M170 (pc_q := 200) (fs_q := [.int 0, .ref 42, .ref 43, .ref 44, .ref 45, .ref 46, .ref 47, .ref 48, .ref 49, .ref 50, .int 0, .int 0, .int 0, .int 0, .int 0, .long 0, .int 0, .int 0, .int 0, .ref 51, .ref 52, .int 0, .int 0, .int 0, .int 0, .ref 53, .int 0, .int 0, .ref 54, .ref 55, .ref 56, .int 0, .ref 57, .ref 58, .ref 59, .ref 60, .ref 61, .ref 62, .ref 63, .ref 64, .ref 65, .null, .int 0, .int 0, .int 0, .null, .null, .int 0, .null, .int 0, .int 0, .null, .null]) rfl rfl rfl rfl (Nat.le_of_ble_eq_true rfl) (Nat.le_of_ble_eq_true rfl) (Nat.le_of_ble_eq_true rfl) rfl (Or.inr ⟨pm_N170_ini, rfl, rfl⟩) rfl rfl ?_
  refine pm_R_lo pm_M170 (pc_q := 201) rfl rfl rfl ?_
  refine pm_R_op pm_M170 (pc_q := 202) (st_q := [.int 5, .ref 41]) rfl rfl rfl ?_
  refine pm_R_newa pm_M170 (pc_q := 204) (N := 5) rfl rfl (by decide) rfl (Nat.le_of_ble_eq_true rfl) rfl ?_
  show pm_R _ 170 204 [.ref 41] [.ref 66, .ref 41] _ _
  refine pm_R_put pm_M170 (pc_q := 207) (fs_q := [.int 0, .ref 42, .ref 43, .ref 44, .ref 45, .ref 46, .ref 47, .ref 48, .ref 49, .ref 50, .int 0, .int 0, .int 0, .int 0, .int 0, .long 0, .int 0, .int 0, .int 0, .ref 51, .ref 52, .int 0, .int 0, .int 0, .int 0, .ref 53, .int 0, .int 0, .ref 54, .ref 55, .ref 56, .int 0, .ref 57, .ref 58, .ref 59, .ref 60, .ref 61, .ref 62, .ref 63, .ref 64, .ref 65, .ref 66, .int 0, .int 0, .int 0, .null, .null, .int 0, .null, .int 0, .int 0, .null, .null]) rfl rfl rfl rfl (Nat.le_of_ble_eq_true rfl) (Nat.le_of_ble_eq_true rfl) (Nat.le_of_ble_eq_true rfl) rfl (Or.inr ⟨pm_N170_ini, rfl, rfl⟩) rfl rfl ?_
  refine pm_R_lo pm_M170 (pc_q := 208) rfl rfl rfl ?_
  refine pm_R_op pm_M170 (pc_q := 211) (st_q := [.int 306, .ref 41]) rfl rfl rfl ?_
  refine pm_R_newa pm_M170 (pc_q := 213) (N := 306) rfl rfl (by decide) rfl (Nat.le_of_ble_eq_true rfl) rfl ?_
  show pm_R _ 170 213 [.ref 41] [.ref 67, .ref 41] _ _
  refine pm_R_put pm_M170 (pc_q := 216) (fs_q := [.int 0, .ref 42, .ref 43, .ref 44, .ref 45, .ref 46, .ref 47, .ref 48, .ref 49, .ref 50, .int 0, .int 0, .int 0, .int 0, .int 0, .long 0, .int 0, .int 0, .int 0, .ref 51, .ref 52, .int 0, .int 0, .int 0, .int 0, .ref 53, .int 0, .int 0, .ref 54, .ref 55, .ref 56, .int 0, .ref 57, .ref 58, .ref 59, .ref 60, .ref 61, .ref 62, .ref 63, .ref 64, .ref 65, .ref 66, .int 0, .int 0, .int 0, .ref 67, .null, .int 0, .null, .int 0, .int 0, .null, .null]) rfl rfl rfl rfl (Nat.le_of_ble_eq_true rfl) (Nat.le_of_ble_eq_true rfl) (Nat.le_of_ble_eq_true rfl) rfl (Or.inr ⟨pm_N170_ini, rfl, rfl⟩) rfl rfl ?_
  refine pm_R_lo pm_M170 (pc_q := 217) rfl rfl rfl ?_
  refine pm_R_op pm_M170 (pc_q := 219) (st_q := [.int 50, .ref 41]) rfl rfl rfl ?_
  refine pm_R_newa pm_M170 (pc_q := 221) (N := 50) rfl rfl (by decide) rfl (Nat.le_of_ble_eq_true rfl) rfl ?_
  show pm_R _ 170 221 [.ref 41] [.ref 68, .ref 41] _ _
  refine pm_R_put pm_M170 (pc_q := 224) (fs_q := [.int 0, .ref 42, .ref 43, .ref 44, .ref 45, .ref 46, .ref 47, .ref 48, .ref 49, .ref 50, .int 0, .int 0, .int 0, .int 0, .int 0, .long 0, .int 0, .int 0, .int 0, .ref 51, .ref 52, .int 0, .int 0, .int 0, .int 0, .ref 53, .int 0, .int 0, .ref 54, .ref 55, .ref 56, .int 0, .ref 57, .ref 58, .ref 59, .ref 60, .ref 61, .ref 62, .ref 63, .ref 64, .ref 65, .ref 66, .int 0, .int 0, .int 0, .ref 67, .ref 68, .int 0, .null, .int 0, .int 0, .null, .null]) rfl rfl rfl rfl (Nat.le_of_ble_eq_true rfl) (Nat.le_of_ble_eq_true rfl) (Nat.le_of_ble_eq_true rfl) rfl (Or.inr ⟨pm_N170_ini, rfl, rfl⟩) rfl rfl ?_
  refine pm_R_lo pm_M170 (pc_q := 225) rfl rfl rfl ?_
  refine pm_R_op pm_M170 (pc_q := 227) (st_q := [.int 50, .ref 41]) rfl rfl rfl ?_
  refine pm_R_newa pm_M170 (pc_q := 229) (N := 50) rfl rfl (by decide) rfl (Nat.le_of_ble_eq_true rfl) rfl ?_
  show pm_R _ 170 229 [.ref 41] [.ref 69, .ref 41] _ _
  refine pm_R_put pm_M170 (pc_q := 232) (fs_q := [.int 0, .ref 42, .ref 43, .ref 44, .ref 45, .ref 46, .ref 47, .ref 48, .ref 49, .ref 50, .int 0, .int 0, .int 0, .int 0, .int 0, .long 0, .int 0, .int 0, .int 0, .ref 51, .ref 52, .int 0, .int 0, .int 0, .int 0, .ref 53, .int 0, .int 0, .ref 54, .ref 55, .ref 56, .int 0, .ref 57, .ref 58, .ref 59, .ref 60, .ref 61, .ref 62, .ref 63, .ref 64, .ref 65, .ref 66, .int 0, .int 0, .int 0, .ref 67, .ref 68, .int 0, .ref 69, .int 0, .int 0, .null, .null]) rfl rfl rfl rfl (Nat.le_of_ble_eq_true rfl) (Nat.le_of_ble_eq_true rfl) (Nat.le_of_ble_eq_true rfl) rfl (Or.inr ⟨pm_N170_ini, rfl, rfl⟩) rfl rfl ?_
  refine pm_R_lo pm_M170 (pc_q := 233) rfl rfl rfl ?_
  refine pm_R_op pm_M170 (pc_q := 235) (st_q := [.int 12, .ref 41]) rfl rfl rfl ?_
  refine pm_R_newa pm_M170 (pc_q := 237) (N := 12) rfl rfl (by decide) rfl (Nat.le_of_ble_eq_true rfl) rfl ?_
  show pm_R _ 170 237 [.ref 41] [.ref 70, .ref 41] _ _
  refine pm_R_put pm_M170 (pc_q := 240) (fs_q := [.int 0, .ref 42, .ref 43, .ref 44, .ref 45, .ref 46, .ref 47, .ref 48, .ref 49, .ref 50, .int 0, .int 0, .int 0, .int 0, .int 0, .long 0, .int 0, .int 0, .int 0, .ref 51, .ref 52, .int 0, .int 0, .int 0, .int 0, .ref 53, .int 0, .int 0, .ref 54, .ref 55, .ref 56, .int 0, .ref 57, .ref 58, .ref 59, .ref 60, .ref 61, .ref 62, .ref 63, .ref 64, .ref 65, .ref 66, .int 0, .int 0, .int 0, .ref 67, .ref 68, .int 0, .ref 69, .int 0, .int 0, .ref 70, .null]) rfl rfl rfl rfl (Nat.le_of_ble_eq_true rfl) (Nat.le_of_ble_eq_true rfl) (Nat.le_of_ble_eq_true rfl) rfl (Or.inr ⟨pm_N170_ini, rfl, rfl⟩) rfl rfl ?_
  refine pm_R_lo pm_M170 (pc_q := 241) rfl rfl rfl ?_
  refine pm_R_op pm_M170 (pc_q := 242) (st_q := [.int 3, .ref 41]) rfl rfl rfl ?_
  refine pm_R_newa pm_M170 (pc_q := 244) (N := 3) rfl rfl (by decide) rfl (Nat.le_of_ble_eq_true rfl) rfl ?_
  show pm_R _ 170 244 [.ref 41] [.ref 71, .ref 41] _ _
  refine pm_R_put pm_M170 (pc_q := 247) (fs_q := [.int 0, .ref 42, .ref 43, .ref 44, .ref 45, .ref 46, .ref 47, .ref 48, .ref 49, .ref 50, .int 0, .int 0, .int 0, .int 0, .int 0, .long 0, .int 0, .int 0, .int 0, .ref 51, .ref 52, .int 0, .int 0, .int 0, .int 0, .ref 53, .int 0, .int 0, .ref 54, .ref 55, .ref 56, .int 0, .ref 57, .ref 58, .ref 59, .ref 60, .ref 61, .ref 62, .ref 63, .ref 64, .ref 65, .ref 66, .int 0, .int 0, .int 0, .ref 67, .ref 68, .int 0, .ref 69, .int 0, .int 0, .ref 70, .ref 71]) rfl rfl rfl rfl (Nat.le_of_ble_eq_true rfl) (Nat.le_of_ble_eq_true rfl) (Nat.le_of_ble_eq_true rfl) rfl (Or.inr ⟨pm_N170_ini, rfl, rfl⟩) rfl rfl ?_
  refine pm_R_lo pm_M170 (pc_q := 248) rfl rfl rfl ?_
  refine pm_R_get pm_M170 (pc_q := 251) (v := .ref 45) rfl rfl rfl (Nat.le_of_ble_eq_true rfl) (Nat.le_of_ble_eq_true rfl) rfl rfl ?_
  refine pm_R_op pm_M170 (pc_q := 252) (st_q := [.int 0, .ref 45]) rfl rfl rfl ?_
  refine pm_R_op pm_M170 (pc_q := 253) (st_q := [.int (-1), .int 0, .ref 45]) rfl rfl rfl ?_
  refine pm_R_iast pm_M170 (pc_q := 254) rfl rfl (Nat.le_of_ble_eq_true rfl) (Nat.le_of_ble_eq_true rfl) rfl rfl ?_
  refine pm_R_ret pm_M170 (r := none) rfl rfl ?_
  show pm_R _ 0 15 [.ref 0, .ref 16, pm_no, pm_no] [.ref 41] _ _
  refine pm_R_lo pm_M0 (pc_q := 16) (ls_q := [.ref 0, .ref 16, .ref 41, pm_no]) (st_q := []) rfl rfl rfl ?_
  refine pm_R_op pm_M0 (pc_q := 17) (st_q := [.int 0]) rfl rfl rfl ?_
  refine pm_R_lo pm_M0 (pc_q := 18) (ls_q := [.ref 0, .ref 16, .ref 41, .int 0]) (st_q := []) rfl rfl rfl ?_
  exact hK _ (fun i hi => by
    match i, hi with
    | 0, _ => rfl
    | 1, _ => rfl
    | 2, _ => rfl
    | 3, _ => rfl
    | 4, _ => rfl
    | 5, _ => rfl
    | 6, _ => rfl
    | 7, _ => rfl
    | 8, _ => rfl
    | 9, _ => rfl
    | 10, _ => rfl
    | 11, _ => rfl
    | 12, _ => rfl
    | 13, _ => rfl
    | 14, _ => rfl
    | 15, _ => rfl
    | 16, _ => rfl
    | 17, _ => rfl
    | 18, _ => rfl
    | 19, _ => rfl
    | 20, _ => rfl
    | 21, _ => rfl
    | 22, _ => rfl
    | 23, _ => rfl
    | 24, _ => rfl
    | 25, _ => rfl
    | 26, _ => rfl
    | 27, _ => rfl
    | 28, _ => rfl
    | 29, _ => rfl
    | 30, _ => rfl
    | 31, _ => rfl
    | 32, _ => rfl
    | 33, _ => rfl
    | 34, _ => rfl
    | 35, _ => rfl
    | 36, _ => rfl
    | 37, _ => rfl
    | 38, _ => rfl
    | 39, _ => rfl
    | 40, _ => rfl
    | 41, _ => rfl
    | 42, _ => rfl
    | 43, _ => rfl
    | 44, _ => rfl
    | 45, _ => rfl
    | 46, _ => rfl
    | 47, _ => rfl
    | 48, _ => rfl
    | 49, _ => rfl
    | 50, _ => rfl
    | 51, _ => rfl
    | 52, _ => rfl
    | 53, _ => rfl
    | 54, _ => rfl
    | 55, _ => rfl
    | 56, _ => rfl
    | 57, _ => rfl
    | 58, _ => rfl
    | 59, _ => rfl
    | 60, _ => rfl
    | 61, _ => rfl
    | 62, _ => rfl
    | 63, _ => rfl
    | 64, _ => rfl
    | 65, _ => rfl
    | 66, _ => rfl
    | 67, _ => rfl
    | 68, _ => rfl
    | 69, _ => rfl
    | 70, _ => rfl
    | 71, _ => rfl
    | n + 72, h => exact absurd h (by omega))
end
section
theorem rf_b0 (k : Nat) : sf_B (rf_lo k) (rf_hi k) 0 := by
  have e0 : (0 : Int32).toInt = 0 := rfl
  have h1 : rf_lo k ≤ 0 := by unfold rf_lo; split <;> decide
  have h2 : 0 ≤ rf_hi k := by unfold rf_hi; split <;> decide
  exact ⟨by rw [e0]; exact h1, by rw [e0]; exact h2⟩
theorem sf_z {a b : Int} (h1 : a ≤ 0) (h2 : 0 ≤ b) : sf_B a b 0 := by
  have e0 : (0 : Int32).toInt = 0 := rfl
  exact ⟨by rw [e0]; exact h1, by rw [e0]; exact h2⟩
set_option maxRecDepth 100000 in
set_option maxHeartbeats 4000000 in
/-- the reference, new -/
theorem rf_T0 {fm : Bool} {L : Nat} {xs : Nat → Int32} {f : Nat → pm_E} (hf : ∀ i, i < 72 → f i = pm_fF fm L xs i) : rf_T (fun _ => 0) 0 (72, 52657, f) := by
  refine ⟨Nat.le_refl _, hf 41 (by decide), rf_b0, fun a h1 h2 => ?_, ?_⟩
  · show rf_C a (f a)
    rw [hf a h2]
    match a, h1, h2 with
    | 42, _, _ => exact ⟨_, rfl⟩
    | 43, _, _ => exact ⟨_, rfl, fun j => sf_z (by decide) (by decide)⟩
    | 44, _, _ => exact ⟨_, rfl, fun j => sf_z (by decide) (by decide)⟩
    | 45, _, _ => exact ⟨_, rfl, sf_upd (fun j => sf_z (by decide) (by decide)) ⟨by decide, by decide⟩ 0⟩
    | 46, _, _ => exact ⟨_, rfl, fun j => sf_z (by decide) (by split <;> decide)⟩
    | 47, _, _ => exact ⟨_, rfl, fun j => sf_z (by unfold rf_l0; repeat (first | decide | split)) (by unfold rf_l1; repeat (first | decide | split))⟩
    | 48, _, _ => exact ⟨_, rfl, fun j => sf_z (by decide) (by split <;> decide)⟩
    | 49, _, _ => exact ⟨_, rfl, fun j => sf_z (by unfold rf_m0; repeat (first | decide | split)) (by unfold rf_m1; repeat (first | decide | split))⟩
    | 50, _, _ => exact ⟨_, rfl, fun j => sf_z (by unfold rf_h0; repeat (first | decide | split)) (by unfold rf_h1; repeat (first | decide | split))⟩
    | 51, _, _ => exact ⟨_, rfl⟩
    | 52, _, _ => exact ⟨_, rfl, fun j => sf_z (by decide) (by decide)⟩
    | 53, _, _ => exact ⟨_, rfl⟩
    | 54, _, _ => exact ⟨_, rfl⟩
    | 55, _, _ => exact ⟨_, rfl, fun j => ⟨by decide +kernel, by decide +kernel⟩⟩
    | 56, _, _ => exact ⟨_, rfl⟩
    | 57, _, _ => exact ⟨_, rfl, fun j => sf_z (by decide) (by decide)⟩
    | 58, _, _ => exact ⟨_, rfl, fun j => sf_z (by decide) (by decide)⟩
    | 59, _, _ => exact ⟨_, rfl, fun j => sf_z (by decide) (by decide)⟩
    | 60, _, _ => exact ⟨_, rfl, fun j => ⟨by decide +kernel, by decide +kernel⟩⟩
    | 61, _, _ => exact ⟨_, rfl, fun j => sf_z (by decide) (by decide)⟩
    | 62, _, _ => exact ⟨_, rfl, fun j => sf_z (by decide) (by decide)⟩
    | 63, _, _ => exact ⟨_, rfl, fun j => sf_z (by decide) (by decide)⟩
    | 64, _, _ => exact ⟨_, rfl⟩
    | 65, _, _ => exact ⟨_, rfl, fun j => sf_z (by decide) (by decide)⟩
    | 66, _, _ => exact ⟨_, rfl, fun j => sf_z (by decide) (by split <;> decide)⟩
    | 67, _, _ => exact ⟨_, rfl⟩
    | 68, _, _ => exact ⟨_, rfl⟩
    | 69, _, _ => exact ⟨_, rfl⟩
    | 70, _, _ => exact ⟨_, rfl, fun j => sf_z (by decide) (by decide)⟩
    | 71, _, _ => exact ⟨_, rfl⟩
    | n + 72, _, h => exact absurd h (by omega)
  · show rf_X (f 46) (f 48)
    rw [hf 46 (by decide), hf 48 (by decide)]
    intro g g_q e1 e2 c r hc hr hlt
    cases e1
    exfalso
    have e0 : (0 : Int32).toInt = 0 := rfl
    have h9 : (r : Int) < (0 : Int32).toInt := hlt
    rw [e0] at h9
    omega
end
section
theorem lf_toInt_0 : (0 : Int64).toInt = 0 := by decide +kernel
theorem lf_leT {a b c e : Int} {x : Int64} {y : Int32} (h : x.toInt ≤ y.toInt) (Bx : lf_B a b x) (By : sf_B c e y) : lf_B a e x := by
  have h1 := Bx.1; have h2 := By.2
  unfold lf_B; omega
section LFR
variable {d mid pc pc_q : Nat} {ls st : List Value} {h : pm_H} {Q : Option Value → pm_H → Prop} {q : pm_M} {l : List (Nat × Instr × Nat)} {L : Nat} {a b c e : Int}
theorem sf_R_ladd (hM : pm_Mt mid q l) {x y : Int64} (hf : pm_find l pc = some (.ladd, L)) (hp : pc + 1 = pc_q) (hx : lf_B a b x) (hy : lf_B c e y) (lo : -9223372036854775808 ≤ a + c) (up : b + e ≤ 9223372036854775807) (k : ∀ z : Int64, z.toInt = x.toInt + y.toInt → lf_B (a + c) (b + e) z → pm_R d mid pc_q ls (.long z :: st) h Q) : pm_R d mid pc ls (.long y :: .long x :: st) h Q := by
  have h1 := hx.1; have h2 := hx.2; have h3 := hy.1; have h4 := hy.2
  have e1 : (x + y).toInt = x.toInt + y.toInt := Jvm.Kit.i64_add (by omega) (by omega)
  exact pm_R_op hM hf (st_q := .long (x + y) :: st) rfl hp (k _ e1 ⟨by omega, by omega⟩)
theorem sf_R_lsub (hM : pm_Mt mid q l) {x y : Int64} (hf : pm_find l pc = some (.lsub, L)) (hp : pc + 1 = pc_q) (hx : lf_B a b x) (hy : lf_B c e y) (lo : -9223372036854775808 ≤ a - e) (up : b - c ≤ 9223372036854775807) (k : ∀ z : Int64, z.toInt = x.toInt - y.toInt → lf_B (a - e) (b - c) z → pm_R d mid pc_q ls (.long z :: st) h Q) : pm_R d mid pc ls (.long y :: .long x :: st) h Q := by
  have h1 := hx.1; have h2 := hx.2; have h3 := hy.1; have h4 := hy.2
  have e1 : (x - y).toInt = x.toInt - y.toInt := Jvm.Kit.i64_sub (by omega) (by omega)
  exact pm_R_op hM hf (st_q := .long (x - y) :: st) rfl hp (k _ e1 ⟨by omega, by omega⟩)
theorem sf_R_i2l (hM : pm_Mt mid q l) {x : Int32} (hf : pm_find l pc = some (.i2l, L)) (hp : pc + 1 = pc_q) (hx : sf_B a b x) (k : ∀ z : Int64, z.toInt = x.toInt → lf_B a b z → pm_R d mid pc_q ls (.long z :: st) h Q) : pm_R d mid pc ls (.int x :: st) h Q := by
  have e1 : x.toInt64.toInt = x.toInt := Int32.toInt_toInt64 x
  exact pm_R_op hM hf (st_q := .long x.toInt64 :: st) rfl hp (k _ e1 ⟨by rw [e1]; exact hx.1, by rw [e1]; exact hx.2⟩)
theorem sf_R_lsubN (hM : pm_Mt mid q l) {x y : Int64} (hf : pm_find l pc = some (.lsub, L)) (hp : pc + 1 = pc_q) (hx : lf_B a b x) (hy : lf_B c e y) (hc : 0 ≤ c) (hle : y.toInt ≤ x.toInt) (k : ∀ z : Int64, z.toInt = x.toInt - y.toInt → lf_B 0 b z → pm_R d mid pc_q ls (.long z :: st) h Q) : pm_R d mid pc ls (.long y :: .long x :: st) h Q := by
  have h2 := hx.2; have h3 := hy.1
  have h5 := x.toInt_lt
  have e1 : (x - y).toInt = x.toInt - y.toInt := Jvm.Kit.i64_sub (by omega) (by omega)
  exact pm_R_op hM hf (st_q := .long (x - y) :: st) rfl hp (k _ e1 ⟨by omega, by omega⟩)
theorem sf_R_ldiv (hM : pm_Mt mid q l) {x y : Int64} (hf : pm_find l pc = some (.ldiv, L)) (hp : pc + 1 = pc_q) (hx : lf_B a b x) (hy : lf_B c e y) (ha : 0 ≤ a) (hc : 1 ≤ c) (k : ∀ z : Int64, z.toInt = x.toInt / y.toInt → lf_B 0 b z → pm_R d mid pc_q ls (.long z :: st) h Q) : pm_R d mid pc ls (.long y :: .long x :: st) h Q := by
  have h1 := hx.1; have h2 := hx.2; have h3 := hy.1
  have hy0 : ¬ y = 0 := fun z => by rw [z, lf_toInt_0] at h3; omega
  have e1 : (x / y).toInt = x.toInt / y.toInt := lg_ldiv_nonneg (by omega) (by omega)
  have l0 : 0 ≤ x.toInt / y.toInt := Int.ediv_nonneg (by omega) (by omega)
  have l1 : x.toInt / y.toInt ≤ x.toInt := Int.ediv_le_self _ (by omega)
  exact pm_R_op hM hf (st_q := .long (x / y) :: st) (if_neg hy0) hp (k _ e1 ⟨by omega, by omega⟩)
theorem sf_R_lrem (hM : pm_Mt mid q l) {x y : Int64} (hf : pm_find l pc = some (.lrem, L)) (hp : pc + 1 = pc_q) (hx : lf_B a b x) (hy : lf_B c e y) (ha : 0 ≤ a) (hc : 1 ≤ c) (k : ∀ z : Int64, z.toInt = x.toInt % y.toInt → lf_B 0 (e - 1) z → pm_R d mid pc_q ls (.long z :: st) h Q) : pm_R d mid pc ls (.long y :: .long x :: st) h Q := by
  have h1 := hx.1; have h2 := hx.2; have h3 := hy.1; have h4 := hy.2
  have h5 := x.toInt_lt
  have hy0 : ¬ y = 0 := fun z => by rw [z, lf_toInt_0] at h3; omega
  have e1 : (x / y).toInt = x.toInt / y.toInt := lg_ldiv_nonneg (by omega) (by omega)
  have l0 : 0 ≤ x.toInt / y.toInt := Int.ediv_nonneg (by omega) (by omega)
  have l5 : x.toInt / y.toInt * y.toInt ≤ x.toInt := Int.ediv_mul_le _ (by omega)
  have l6 : 0 ≤ x.toInt / y.toInt * y.toInt := Int.mul_nonneg l0 (by omega)
  have e2 : (x / y * y).toInt = x.toInt / y.toInt * y.toInt := by rw [Jvm.Kit.i64_mul (by rw [e1]; omega) (by rw [e1]; omega), e1]
  have e3 : (x - x / y * y).toInt = x.toInt - x.toInt / y.toInt * y.toInt := by rw [Jvm.Kit.i64_sub (by rw [e2]; omega) (by rw [e2]; omega), e2]
  have e4 : x.toInt - x.toInt / y.toInt * y.toInt = x.toInt % y.toInt := by
    have := Int.emod_add_mul_ediv x.toInt y.toInt
    rw [Int.mul_comm] at this
    omega
  have m0 := Int.emod_nonneg x.toInt (show y.toInt ≠ 0 by omega)
  have m1 := Int.emod_lt_of_pos x.toInt (show 0 < y.toInt by omega)
  exact pm_R_op hM hf (st_q := .long (x - x / y * y) :: st) (if_neg hy0) hp (k _ (by rw [e3, e4]) ⟨by rw [e3, e4]; exact m0, by rw [e3, e4]; omega⟩)
end LFR
theorem lf_cmpGe {a b c e : Int} {x y : Int64} {z : Int32} (hz : z = lg_cmp x y) (hx : lf_B a b x) (hy : lf_B c e y) (h : e ≤ a) : ¬ z < 0 := by
  rw [hz]
  intro h0
  have := Int64.lt_iff_toInt_lt.mp ((lg_cmp_lt x y).mp h0)
  have h1 := hx.1; have h2 := hy.2
  omega
theorem lf_cmpLe {a b c e : Int} {x y : Int64} {z : Int32} (hz : z = lg_cmp x y) (hx : lf_B a b x) (hy : lf_B c e y) (h : b ≤ c) : ¬ 0 < z := by
  rw [hz]
  intro h0
  have := Int64.lt_iff_toInt_lt.mp ((lg_cmp_gt x y).mp h0)
  have h1 := hx.2; have h2 := hy.1
  omega
theorem lf_ge {a b : Int} {x y : Int64} {z : Int32} (hz : z = lg_cmp x y) (B : sf_B a b z) (h : 0 ≤ a) : y.toInt ≤ x.toInt := by
  have e0 : (0 : Int32).toInt = 0 := rfl
  have h0 : 0 ≤ z := Int32.le_iff_toInt_le.mpr (by rw [e0]; exact Int.le_trans h B.1)
  rw [hz] at h0
  exact Int64.le_iff_toInt_le.mp ((lg_cmp_ge x y).mp h0)
theorem lf_lt {a b : Int} {x y : Int64} {z : Int32} (hz : z = lg_cmp x y) (B : sf_B a b z) (h : b < 0) : x.toInt < y.toInt := by
  have e0 : (0 : Int32).toInt = 0 := rfl
  have h0 : z < 0 := Int32.lt_iff_toInt_lt.mpr (by rw [e0]; exact Int.lt_of_le_of_lt B.2 h)
  rw [hz] at h0
  exact Int64.lt_iff_toInt_lt.mp ((lg_cmp_lt x y).mp h0)
theorem lf_nz {a b : Int} {x : Int64} (B : lf_B a b x) (ha : 0 ≤ a) (h : ¬ x = 0) : lf_B 1 b x := by
  have h1 := B.1; have h2 := B.2
  have : x.toInt ≠ 0 := fun e => h (Int64.toInt_inj.mp (by rw [e]; exact lf_toInt_0.symm))
  unfold lf_B; omega
theorem lf_upd {a b : Int} {f : Nat → Int64} (h : ∀ j, lf_B a b (f j)) {v : Int64} (hv : lf_B a b v) (k : Nat) : ∀ j, lf_B a b (vp_updL f k v j) := by
  intro j
  unfold vp_updL
  split
  · exact hv
  · exact h j
def rf_sum (x y : Int64) : Int64 := if 1000000000000 ≤ x + y then 1000000000000 else x + y
def rf_prod (x y : Int64) : Int64 := if 0 < y ∧ 1000000000000 / y < x then 1000000000000 else rf_sum (x * y) 0
theorem lf_toInt_most : (1000000000000 : Int64).toInt = 1000000000000 := by decide +kernel
theorem rf_x213 {d : Nat} {h : pm_H} {Q : Option Value → pm_H → Prop} {a0 a1 : Int64} (K : Q (some (.long (rf_sum a0 a1))) h) : pm_R (d + 0) 213 0 [.long a0, pm_no, .long a1, pm_no] [] h Q := by
  refine pm_R_lo pm_M213 (pc_q := 1) rfl rfl rfl ?_
  refine pm_R_lo pm_M213 (pc_q := 2) rfl rfl rfl ?_
  refine pm_R_op pm_M213 (pc_q := 3) (st_q := [.long (a0 + a1)]) rfl rfl rfl ?_
  refine pm_R_ldc2 pm_M213 (pc_q := 6) rfl rfl rfl ?_
  refine pm_R_op pm_M213 (pc_q := 7) (st_q := [.int (lg_cmp (a0 + a1) 1000000000000)]) rfl rfl rfl ?_
  refine pm_R_ifc pm_M213 (t := 16) (pc_q := 10) rfl rfl rfl (fun c => ?_) (fun c => ?_)
  · have c2 : 1000000000000 ≤ a0 + a1 := (lg_cmp_ge _ _).mp c
    refine pm_R_ldc2 pm_M213 (pc_q := 19) rfl rfl rfl ?_
    refine pm_R_ret pm_M213 (r := some (.long 1000000000000)) rfl rfl ?_
    unfold rf_sum at K
    rw [if_pos c2] at K
    exact K
  · have c2 : ¬ 1000000000000 ≤ a0 + a1 := fun z => c ((lg_cmp_ge _ _).mpr z)
    refine pm_R_lo pm_M213 (pc_q := 11) rfl rfl rfl ?_
    refine pm_R_lo pm_M213 (pc_q := 12) rfl rfl rfl ?_
    refine pm_R_op pm_M213 (pc_q := 13) (st_q := [.long (a0 + a1)]) rfl rfl rfl ?_
    refine pm_R_br pm_M213 (pc_q := 19) rfl rfl ?_
    refine pm_R_ret pm_M213 (r := some (.long (a0 + a1))) rfl rfl ?_
    unfold rf_sum at K
    rw [if_neg c2] at K
    exact K
theorem rf_x212 {d : Nat} {h : pm_H} {Q : Option Value → pm_H → Prop} {a0 a1 : Int64} (K : Q (some (.long (rf_prod a0 a1))) h) : pm_R (d + 1) 212 0 [.long a0, pm_no, .long a1, pm_no] [] h Q := by
  have tail : ¬ (0 < a1 ∧ 1000000000000 / a1 < a0) → pm_R (d + 1) 212 22 [.long a0, pm_no, .long a1, pm_no] [] h Q := by
    intro hn
    refine pm_R_lo pm_M212 (pc_q := 23) rfl rfl rfl ?_
    refine pm_R_lo pm_M212 (pc_q := 24) rfl rfl rfl ?_
    refine pm_R_op pm_M212 (pc_q := 25) (st_q := [.long (a0 * a1)]) rfl rfl rfl ?_
    refine pm_R_op pm_M212 (pc_q := 26) (st_q := [.long 0, .long (a0 * a1)]) rfl rfl rfl ?_
    refine pm_R_cs pm_M212 (pc_q := 29) (ra := [.long 0, .long (a0 * a1)]) (rest := []) (ls_q := [.long (a0 * a1), pm_no, .long 0, pm_no]) rfl rfl (Or.inl rfl) pm_M213 rfl rfl (Nat.le_of_ble_eq_true rfl) rfl rfl ?_
    refine rf_x213 (d := d) ?_
    show pm_R _ 212 29 _ [.long (rf_sum (a0 * a1) 0)] _ _
    refine pm_R_ret pm_M212 (r := some (.long (rf_sum (a0 * a1) 0))) rfl rfl ?_
    unfold rf_prod at K
    rw [if_neg hn] at K
    exact K
  refine pm_R_lo pm_M212 (pc_q := 1) rfl rfl rfl ?_
  refine pm_R_op pm_M212 (pc_q := 2) (st_q := [.long 0, .long a1]) rfl rfl rfl ?_
  refine pm_R_op pm_M212 (pc_q := 3) (st_q := [.int (lg_cmp a1 0)]) rfl rfl rfl ?_
  refine pm_R_ifc pm_M212 (t := 22) (pc_q := 6) rfl rfl rfl (fun c => ?_) (fun c => ?_)
  · have c2 : a1 ≤ 0 := (lg_cmp_le _ _).mp c
    exact tail (fun z => lg_le_not_lt c2 z.1)
  · have c2 : 0 < a1 := by
      have c3 : ¬ a1 ≤ 0 := fun z => c ((lg_cmp_le _ _).mpr z)
      rcases lg_tri a1 0 with z | z | z
      · exact absurd (Int64.le_of_lt z) c3
      · exact absurd (Int64.le_of_eq z) c3
      · exact z
    have hne : ¬ a1 = 0 := fun z => lg_lt_ne c2 z.symm
    refine pm_R_lo pm_M212 (pc_q := 7) rfl rfl rfl ?_
    refine pm_R_ldc2 pm_M212 (pc_q := 10) rfl rfl rfl ?_
    refine pm_R_lo pm_M212 (pc_q := 11) rfl rfl rfl ?_
    refine pm_R_op pm_M212 (pc_q := 12) (st_q := [.long (1000000000000 / a1), .long a0]) rfl (if_neg hne) rfl ?_
    refine pm_R_op pm_M212 (pc_q := 13) (st_q := [.int (lg_cmp a0 (1000000000000 / a1))]) rfl rfl rfl ?_
    refine pm_R_ifc pm_M212 (t := 22) (pc_q := 16) rfl rfl rfl (fun c => ?_) (fun c => ?_)
    · have c4 : a0 ≤ 1000000000000 / a1 := (lg_cmp_le _ _).mp c
      exact tail (fun z => lg_le_not_lt c4 z.2)
    · have c4 : 1000000000000 / a1 < a0 := by
        have c3 : ¬ a0 ≤ 1000000000000 / a1 := fun z => c ((lg_cmp_le _ _).mpr z)
        rcases lg_tri a0 (1000000000000 / a1) with z | z | z
        · exact absurd (Int64.le_of_lt z) c3
        · exact absurd (Int64.le_of_eq z) c3
        · exact z
      refine pm_R_ldc2 pm_M212 (pc_q := 19) rfl rfl rfl ?_
      refine pm_R_br pm_M212 (pc_q := 29) rfl rfl ?_
      refine pm_R_ret pm_M212 (r := some (.long 1000000000000)) rfl rfl ?_
      unfold rf_prod at K
      rw [if_pos ⟨c2, c4⟩] at K
      exact K
theorem rf_sum_B {x y : Int64} (hx : lf_B 0 1000000000000 x) (hy : lf_B 0 1000000000000 y) : (rf_sum x y).toInt = min (x.toInt + y.toInt) 1000000000000 ∧ lf_B 0 1000000000000 (rf_sum x y) := by
  have h1 := hx.1; have h2 := hx.2; have h3 := hy.1; have h4 := hy.2
  have e1 : (x + y).toInt = x.toInt + y.toInt := Jvm.Kit.i64_add (by omega) (by omega)
  have e2 := lf_toInt_most
  unfold rf_sum lf_B
  by_cases hc : 1000000000000 ≤ x + y
  · rw [if_pos hc, e2]
    have := Int64.le_iff_toInt_le.mp hc
    rw [e1, e2] at this
    omega
  · rw [if_neg hc, e1]
    have : ¬ (1000000000000 : Int64).toInt ≤ (x + y).toInt := fun z => hc (Int64.le_iff_toInt_le.mpr z)
    rw [e1, e2] at this
    omega
theorem rf_prod_B {x y : Int64} (hx : lf_B 0 1000000000000 x) (hy : lf_B 0 1000000000000 y) : (rf_prod x y).toInt = min (x.toInt * y.toInt) 1000000000000 ∧ lf_B 0 1000000000000 (rf_prod x y) := by
  have h1 := hx.1; have h2 := hx.2; have h3 := hy.1; have h4 := hy.2
  have e2 := lf_toInt_most
  have e0 := lf_toInt_0
  have hm : 0 ≤ x.toInt * y.toInt := Int.mul_nonneg h1 h3
  unfold rf_prod
  by_cases hc : 0 < y ∧ 1000000000000 / y < x
  · rw [if_pos hc]
    have y0 := Int64.lt_iff_toInt_lt.mp hc.1
    have d1 := Int64.lt_iff_toInt_lt.mp hc.2
    rw [e0] at y0
    rw [lg_ldiv_nonneg (by rw [e2]; omega) y0, e2] at d1
    have d2 : 1000000000000 < x.toInt * y.toInt := by
      have := Int.lt_mul_of_ediv_lt y0 d1
      exact this
    refine ⟨by rw [e2]; omega, by unfold lf_B; rw [e2]; omega⟩
  · rw [if_neg hc]
    have d2 : x.toInt * y.toInt ≤ 1000000000000 := by
      by_cases y0 : 0 < y
      · have d1 : ¬ 1000000000000 / y < x := fun z => hc ⟨y0, z⟩
        have y1 := Int64.lt_iff_toInt_lt.mp y0
        rw [e0] at y1
        have d3 : ¬ ((1000000000000 : Int64) / y).toInt < x.toInt := fun z => d1 (Int64.lt_iff_toInt_lt.mpr z)
        rw [lg_ldiv_nonneg (by rw [e2]; omega) y1, e2] at d3
        exact (Int.le_ediv_iff_mul_le y1).mp (by omega)
      · have y1 : ¬ (0 : Int64).toInt < y.toInt := fun z => y0 (Int64.lt_iff_toInt_lt.mpr z)
        rw [e0] at y1
        have y2 : y.toInt = 0 := by omega
        rw [y2]; omega
    have e1 : (x * y).toInt = x.toInt * y.toInt := Jvm.Kit.i64_mul (by omega) (by omega)
    have hB := rf_sum_B (x := x * y) (y := 0) ⟨by rw [e1]; exact hm, by rw [e1]; exact d2⟩ ⟨by rw [e0]; omega, by rw [e0]; omega⟩
    refine ⟨?_, hB.2⟩
    rw [hB.1, e1, e0]
    omega
theorem rf_c213 {d : Nat} {h : pm_H} {Q : Option Value → pm_H → Prop} {a0 a1 : Int64} (Ba0 : lf_B 0 1000000000000 a0) (Ba1 : lf_B 0 1000000000000 a1) (K : ∀ r : Int64, lf_B 0 1000000000000 r → Q (some (.long r)) h) : pm_R (d + 0) 213 0 [.long a0, pm_no, .long a1, pm_no] [] h Q := rf_x213 (K _ (rf_sum_B Ba0 Ba1).2)
theorem rf_c212 {d : Nat} {h : pm_H} {Q : Option Value → pm_H → Prop} {a0 a1 : Int64} (Ba0 : lf_B 0 1000000000000 a0) (Ba1 : lf_B 0 1000000000000 a1) (K : ∀ r : Int64, (a1 = 0 → r.toInt = 0) → lf_B 0 1000000000000 r → Q (some (.long r)) h) : pm_R (d + 1) 212 0 [.long a0, pm_no, .long a1, pm_no] [] h Q := rf_x212 (K _ (fun z => by have := (rf_prod_B Ba0 Ba1).1; rw [z] at this ⊢; rw [this, lf_toInt_0, Int.mul_zero]; rfl) (rf_prod_B Ba0 Ba1).2)
theorem rf_u213 {d : Nat} {h : pm_H} {Q : Option Value → pm_H → Prop} {a0 a1 : Int64} (K : ∀ r : Int64, Q (some (.long r)) h) : pm_R (d + 0) 213 0 [.long a0, pm_no, .long a1, pm_no] [] h Q := rf_x213 (K _)
theorem rf_u212 {d : Nat} {h : pm_H} {Q : Option Value → pm_H → Prop} {a0 a1 : Int64} (K : ∀ r : Int64, Q (some (.long r)) h) : pm_R (d + 1) 212 0 [.long a0, pm_no, .long a1, pm_no] [] h Q := rf_x212 (K _)
theorem lf_cmpGt {a b c e : Int} {x y : Int64} {z : Int32} (hz : z = lg_cmp x y) (hx : lf_B a b x) (hy : lf_B c e y) (h : e < a) : sf_B 1 2147483647 z := by
  have h1 := hx.1; have h2 := hy.2
  have h0 : 0 < z := by rw [hz]; exact (lg_cmp_gt x y).mpr (Int64.lt_iff_toInt_lt.mpr (by omega))
  have := Int32.lt_iff_toInt_lt.mp h0
  have e0 : (0 : Int32).toInt = 0 := rfl
  have h5 := z.toInt_lt
  unfold sf_B; omega
theorem lf_cmpLt {a b c e : Int} {x y : Int64} {z : Int32} (hz : z = lg_cmp x y) (hx : lf_B a b x) (hy : lf_B c e y) (h : b < c) : sf_B (-2147483648) (-1) z := by
  have h1 := hx.2; have h2 := hy.1
  have h0 : z < 0 := by rw [hz]; exact (lg_cmp_lt x y).mpr (Int64.lt_iff_toInt_lt.mpr (by omega))
  have := Int32.lt_iff_toInt_lt.mp h0
  have e0 : (0 : Int32).toInt = 0 := rfl
  have h5 := z.le_toInt
  unfold sf_B; omega
theorem lf_cmpEq {a : Int} {x y : Int64} {z : Int32} (hz : z = lg_cmp x y) (hx : lf_B a a x) (hy : lf_B a a y) : sf_B 0 0 z := by
  have h1 := hx.1; have h2 := hx.2; have h3 := hy.1; have h4 := hy.2
  have : x = y := Int64.toInt_inj.mp (by omega)
  subst this
  rw [(lg_cmp_eq x x).mpr rfl] at hz
  subst hz
  exact ⟨by decide, by decide⟩
theorem lf_eqB {a b : Int} {x y : Int64} {z : Int32} (hz : z = lg_cmp x y) (B : sf_B 0 0 z) (hy : lf_B a b y) : lf_B a b x := by
  have h0 : z = 0 := by
    refine Int32.toInt_inj.mp ?_
    have e0 : (0 : Int32).toInt = 0 := rfl
    have h1 := B.1; have h2 := B.2
    omega
  rw [hz] at h0
  rw [(lg_cmp_eq x y).mp h0]
  exact hy
end
section
/-! ROWS OF A WALK WITH INTERVALS, over the reference's cells -/
theorem pm_ret_i (v : Int32) : pm_ret (some .int) .ireturn [.int v] = some (some (.int v)) := by
  simp [pm_ret, narrow]
theorem pm_st1_g {ls : List Value} {k : Nat} {v w : Value} (hl : k + 1 < ls.length) (hv : ls[k]? = some v) (hc : v.category = 1) : pm_st1 ls (k + 1) w = some (ls.set (k + 1) w) := by
  unfold pm_st1
  rw [if_pos hl]
  have e : pm_kill ls (k + 1) = ls := by
    show (match ls[k]? with | some v => if v.category = 2 then ls.set k pm_no else ls | none => ls) = ls
    rw [hv]
    show (if v.category = 2 then ls.set k pm_no else ls) = ls
    rw [if_neg (by omega)]
  rw [e]
theorem sf_nlt {a b c e : Int} {x y : Int32} (hx : sf_B a b x) (hy : sf_B c e y) (h : e ≤ a) : ¬ x < y := by
  intro hl
  have := Int32.lt_iff_toInt_lt.mp hl
  have h1 := hx.1; have h2 := hy.2
  omega
theorem sf_nle {a b c e : Int} {x y : Int32} (hx : sf_B a b x) (hy : sf_B c e y) (h : e < a) : ¬ x ≤ y := by
  intro hl
  have := Int32.le_iff_toInt_le.mp hl
  have h1 := hx.1; have h2 := hy.2
  omega
theorem sf_neq1 {a b c e : Int} {x y : Int32} (hx : sf_B a b x) (hy : sf_B c e y) (h : e < a) : ¬ x = y := by
  intro hl
  subst hl
  have h1 := hx.1; have h2 := hy.2
  omega
theorem sf_neq2 {a b c e : Int} {x y : Int32} (hx : sf_B a b x) (hy : sf_B c e y) (h : b < c) : ¬ x = y := by
  intro hl
  subst hl
  have h1 := hx.2; have h2 := hy.1
  omega
/-- two numbers that are both one -/
theorem sf_pt2 {a : Int} {x y : Int32} (hx : sf_B a a x) (hy : sf_B a a y) : x = y := by
  refine Int32.toInt_inj.mp ?_
  have h1 := hx.1; have h2 := hx.2; have h3 := hy.1; have h4 := hy.2
  omega
theorem sf_eqL {c e : Int} {x y : Int32} (h : x = y) (hy : sf_B c e y) : sf_B c e x := by rw [h]; exact hy
theorem sf_eqR {c e : Int} {x y : Int32} (h : x = y) (hx : sf_B c e x) : sf_B c e y := by rw [← h]; exact hx
theorem sf_neL0 {a b : Int} {x y : Int32} (h : ¬ x = y) (hy : sf_B a a y) (hx : sf_B a b x) : sf_B (a + 1) b x := sf_neLo h (by have h3 := hy.1; have h4 := hy.2; omega) hx
theorem sf_neH0 {a b : Int} {x y : Int32} (h : ¬ x = y) (hy : sf_B b b y) (hx : sf_B a b x) : sf_B a (b - 1) x := sf_neHi h (by have h3 := hy.1; have h4 := hy.2; omega) hx
theorem sf_up {a b c t : Int} {x z : Int32} {N : Nat} (hN : (t - x.toInt).toNat = N) (e : z.toInt = x.toInt + c) (B : sf_B a b x) (hb : b < t) (hc : 0 < c) : (t - z.toInt).toNat < N := by
  have := B.2
  omega
theorem sf_dn {a b c t : Int} {x z : Int32} {N : Nat} (hN : (x.toInt - t).toNat = N) (e : z.toInt = x.toInt + c) (B : sf_B a b x) (hb : t < a) (hc : c < 0) : (z.toInt - t).toNat < N := by
  have := B.1
  omega
theorem lg_cmp_self (x : Int64) : lg_cmp x x = 0 := by
  unfold lg_cmp
  simp
theorem sf_lneA {a b : Int} {x y : Int64} {z : Int32} (e : z = lg_cmp x y) (B : sf_B a b z) (h : 0 < a) : ¬ x = y := by
  intro hx
  subst hx
  rw [lg_cmp_self] at e
  subst e
  have h1 := B.1
  have e0 : (0 : Int32).toInt = 0 := rfl
  omega
theorem sf_lneB {a b : Int} {x y : Int64} {z : Int32} (e : z = lg_cmp x y) (B : sf_B a b z) (h : b < 0) : ¬ x = y := by
  intro hx
  subst hx
  rw [lg_cmp_self] at e
  subst e
  have h1 := B.2
  have e0 : (0 : Int32).toInt = 0 := rfl
  omega
theorem sf_lneC {x y : Int64} {z : Int32} (e : z = lg_cmp x y) (h : ¬ z = 0) : ¬ x = y := by
  intro hx
  subst hx
  rw [lg_cmp_self] at e
  exact h e
def rf_W (l : List Nat) (m m_q : Nat → Int32) : Prop := ∀ k, k ∉ l → m_q k = m k
theorem rf_W.refl (l : List Nat) (m : Nat → Int32) : rf_W l m m := fun _ _ => rfl
theorem rf_W.trans {l l_q : List Nat} {m m1 m2 : Nat → Int32} (x : rf_W l m m1) (y : rf_W l_q m1 m2) (hl : ∀ k ∈ l_q, k ∈ l) : rf_W l m m2 := fun k hk => (y k (fun h => hk (hl k h))).trans (x k hk)
theorem rf_W.put {l : List Nat} {m m1 : Nat → Int32} (x : rf_W l m m1) {k : Nat} {v : Int32} (hk : k ∈ l) : rf_W l m (upd m1 k v) := fun j hj => by
  have e : j ≠ k := fun e => hj (e ▸ hk)
  show (upd m1 k v) j = m j
  unfold upd
  rw [if_neg e]
  exact x j hj
/-- only these cells were written -/
def rf_G (l : List Nat) (h h_q : pm_H) : Prop := h_q.1 = h.1 ∧ h_q.2.1 = h.2.1 ∧ ∀ a, a ∉ l → h_q.2.2 a = h.2.2 a
theorem rf_G.refl (l : List Nat) (h : pm_H) : rf_G l h h := ⟨rfl, rfl, fun _ _ => rfl⟩
theorem rf_G.trans {l l_q : List Nat} {h h1 h2 : pm_H} (x : rf_G l h h1) (y : rf_G l_q h1 h2) (hl : ∀ k ∈ l_q, k ∈ l) : rf_G l h h2 := ⟨y.1.trans x.1, y.2.1.trans x.2.1, fun a ha => (y.2.2 a (fun z => ha (hl a z))).trans (x.2.2 a ha)⟩
theorem rf_G.one (h : pm_H) (a : Nat) (c : pm_E) : rf_G [a] h (pm_set h a c) := ⟨rfl, rfl, fun b hb => by
  have hb2 : b ≠ a := fun e => hb (by rw [e]; exact List.mem_singleton.mpr rfl)
  simp [pm_set, va_up, hb2]⟩
theorem rf_G.cell {l : List Nat} {h h_q : pm_H} (G : rf_G l h h_q) {a : Nat} {x : pm_E} (ha : a ∉ l) (e : h.2.2 a = x) : h_q.2.2 a = x := (G.2.2 a ha).trans e
section RFR
variable {d mid pc pc_q : Nat} {ls st : List Value} {h : pm_H} {Q : Option Value → pm_H → Prop} {q : pm_M} {l : List (Nat × Instr × Nat)} {L : Nat} {x y : Int32} {a b c e : Int} {m : Nat → Int32} {w : Int64}
theorem sf_R_iinc (hM : pm_Mt mid q l) {k : Nat} {n : Int} {ls_q : Int32 → List Value} (hf : pm_find l pc = some (.iinc k n, L)) (hx : sf_B a b x) (hl : ls[k]? = some (.int x)) (lo : -2147483648 ≤ a + n) (up : b + n ≤ 2147483647) (hn : (Int32.ofInt n).toInt = n) (hs : ∀ z, pm_st1 ls k (.int z) = some (ls_q z)) (hp : pc + 3 = pc_q) (kk : ∀ z : Int32, z.toInt = x.toInt + n → sf_B (a + n) (b + n) z → pm_R d mid pc_q (ls_q z) st h Q) : pm_R d mid pc ls st h Q := by
  have h1 := hx.1
  have h2 := hx.2
  have e : (x + Int32.ofInt n).toInt = x.toInt + n := by rw [Jvm.Kit.i32_add (by rw [hn]; omega) (by rw [hn]; omega), hn]
  refine pm_R_lo hM hf (ls_q := ls_q (x + Int32.ofInt n)) (st_q := st) ?_ hp (kk _ e ⟨by rw [e]; omega, by rw [e]; omega⟩)
  show (pm_inc ls k n).map (fun ls => (ls, st)) = _
  unfold pm_inc
  rw [hl]
  show (pm_st1 ls k (.int (x + Int32.ofInt n))).map _ = _
  rw [hs]
  rfl
/-- a number that may run over is counted on -/
theorem sf_R_iincA (hM : pm_Mt mid q l) {k : Nat} {n : Int} {ls_q : Int32 → List Value} (hf : pm_find l pc = some (.iinc k n, L)) (hl : ls[k]? = some (.int x)) (hs : ∀ z, pm_st1 ls k (.int z) = some (ls_q z)) (hp : pc + 3 = pc_q) (kk : ∀ z : Int32, pm_R d mid pc_q (ls_q z) st h Q) : pm_R d mid pc ls st h Q := by
  refine pm_R_lo hM hf (ls_q := ls_q (x + Int32.ofInt n)) (st_q := st) ?_ hp (kk _)
  show (pm_inc ls k n).map (fun ls => (ls, st)) = _
  unfold pm_inc
  rw [hl]
  show (pm_st1 ls k (.int (x + Int32.ofInt n))).map _ = _
  rw [hs]
  rfl
theorem sf_R_idivA (hM : pm_Mt mid q l) (hf : pm_find l pc = some (.idiv, L)) (hp : pc + 1 = pc_q) (hy : ¬ y = 0) (k : ∀ z : Int32, pm_R d mid pc_q ls (.int z :: st) h Q) : pm_R d mid pc ls (.int y :: .int x :: st) h Q :=
  pm_R_op hM hf (st_q := .int (x / y) :: st) (if_neg hy) hp (k _)
theorem sf_R_iremA (hM : pm_Mt mid q l) (hf : pm_find l pc = some (.irem, L)) (hp : pc + 1 = pc_q) (hy : ¬ y = 0) (k : ∀ z : Int32, pm_R d mid pc_q ls (.int z :: st) h Q) : pm_R d mid pc ls (.int y :: .int x :: st) h Q :=
  pm_R_op hM hf (st_q := .int (x - x / y * y) :: st) (if_neg hy) hp (k _)
theorem sf_R_ldivA (hM : pm_Mt mid q l) {x y : Int64} (hf : pm_find l pc = some (.ldiv, L)) (hp : pc + 1 = pc_q) (hy : ¬ y = 0) (k : ∀ z : Int64, pm_R d mid pc_q ls (.long z :: st) h Q) : pm_R d mid pc ls (.long y :: .long x :: st) h Q :=
  pm_R_op hM hf (st_q := .long (x / y) :: st) (if_neg hy) hp (k _)
theorem sf_R_lremA (hM : pm_Mt mid q l) {x y : Int64} (hf : pm_find l pc = some (.lrem, L)) (hp : pc + 1 = pc_q) (hy : ¬ y = 0) (k : ∀ z : Int64, pm_R d mid pc_q ls (.long z :: st) h Q) : pm_R d mid pc ls (.long y :: .long x :: st) h Q :=
  pm_R_op hM hf (st_q := .long (x - x / y * y) :: st) (if_neg hy) hp (k _)
theorem sf_R_lcmp (hM : pm_Mt mid q l) {x y : Int64} (hf : pm_find l pc = some (.lcmp, L)) (hp : pc + 1 = pc_q) (k : ∀ z : Int32, z = lg_cmp x y → pm_R d mid pc_q ls (.int z :: st) h Q) : pm_R d mid pc ls (.long y :: .long x :: st) h Q :=
  pm_R_op hM hf (st_q := .int (lg_cmp x y) :: st) rfl hp (k _ rfl)
/-- a store of an int behind a place of which only its width is known -/
theorem sf_R_sti (hM : pm_Mt mid q l) {i : Instr} {k : Nat} {v : Value} (hf : pm_find l pc = some (i, L)) (hi : pm_lo i ls (.int x :: st) = (pm_st1 ls (k + 1) (.int x)).map (fun l => (l, st))) (hl : k + 1 < ls.length) (hv : ls[k]? = some v) (hc : v.category = 1) {ls_q : List Value} (hs : ls.set (k + 1) (.int x) = ls_q) (hp : pc + pm_len i = pc_q) (kk : pm_R d mid pc_q ls_q st h Q) : pm_R d mid pc ls (.int x :: st) h Q := by
  subst hs
  refine pm_R_lo hM hf (ls_q := ls.set (k + 1) (.int x)) (st_q := st) ?_ hp kk
  rw [hi, pm_st1_g hl hv hc]
  rfl
theorem rf_R_get (hM : pm_Mt mid q l) (T : rf_T m w h) {ix k : Nat} {nb : Bool} {v : Value} (hf : pm_find l pc = some (.getfield ix, L)) (hF : pm_at pm_FL q.2.2.2.2 ix = some (12, k, nb)) (hv : (rf_fs m w)[k]? = some v) (hp : pc + 3 = pc_q) (kk : pm_R d mid pc_q ls (v :: st) h Q) : pm_R d mid pc ls (.ref 41 :: st) h Q :=
  pm_R_get hM hf hF T.2.1 (by decide) (Nat.lt_of_lt_of_le (by decide) T.1) hv hp kk
theorem rf_R_put (hM : pm_Mt mid q l) (T : rf_T m w h) {ix k : Nat} {nb : Bool} {qq : vw_C} (hf : pm_find l pc = some (.putfield ix, L)) (hF : pm_at pm_FL q.2.2.2.2 ix = some (12, k, nb)) (hq : pm_cl[12]? = some qq) (hk : k < 53) (hv : pm_fits (pm_ty qq.2.1 k) (.int x) = true) (hfin : (qq.2.1 k).2.2.2 = false) (hb : sf_B (rf_lo k) (rf_hi k) x) (hs : (rf_fs m w).set k (.int x) = rf_fs (upd m k x) w) (hp : pc + 3 = pc_q) (kk : ∀ h_q m_q, m_q = upd m k x → rf_T m_q w h_q → rf_G [41] h h_q → pm_R d mid pc_q ls st h_q Q) : pm_R d mid pc ls (.int x :: .ref 41 :: st) h Q :=
  pm_R_put hM hf hF hq T.2.1 (by decide) (Nat.lt_of_lt_of_le (by decide) T.1) hk hv (Or.inl hfin) hs hp (kk _ _ rfl (rf_T.num T hb rfl) (rf_G.one _ _ _))
theorem rf_R_putL (hM : pm_Mt mid q l) (T : rf_T m w h) {ix k : Nat} {nb : Bool} {qq : vw_C} {w_q : Int64} (hf : pm_find l pc = some (.putfield ix, L)) (hF : pm_at pm_FL q.2.2.2.2 ix = some (12, k, nb)) (hq : pm_cl[12]? = some qq) (hk : k < 53) (hv : pm_fits (pm_ty qq.2.1 k) (.long w_q) = true) (hfin : (qq.2.1 k).2.2.2 = false) (hs : (rf_fs m w).set k (.long w_q) = rf_fs m w_q) (hp : pc + 3 = pc_q) (kk : ∀ h_q, rf_T m w_q h_q → rf_G [41] h h_q → pm_R d mid pc_q ls st h_q Q) : pm_R d mid pc ls (.long w_q :: .ref 41 :: st) h Q :=
  pm_R_put hM hf hF hq T.2.1 (by decide) (Nat.lt_of_lt_of_le (by decide) T.1) hk hv (Or.inl hfin) hs hp (kk _ (rf_T.word T rfl) (rf_G.one _ _ _))
theorem rf_R_ild (hM : pm_Mt mid q l) (T : rf_T m w h) {a n : Nat} {f : Nat → Int32} {j : Int32} (hf : pm_find l pc = some (.iaload, L)) (hc : h.2.2 a = .inl (0, n, .inl f)) (ha : a < 72) (hj : pm_in j n = true) (hp : pc + 1 = pc_q) (kk : ∀ z, f j.toNatClampNeg = z → pm_R d mid pc_q ls (.int z :: st) h Q) : pm_R d mid pc ls (.int j :: .ref a :: st) h Q :=
  pm_R_iald hM hf hc (Nat.lt_of_lt_of_le ha T.1) hj rfl hp (kk _ rfl)
theorem rf_R_lld (hM : pm_Mt mid q l) (T : rf_T m w h) {a n : Nat} {f : Nat → Int64} {j : Int32} (hf : pm_find l pc = some (.laload, L)) (hc : h.2.2 a = .inl (1, n, .inr (.inl f))) (h1 : 16 ≤ a) (ha : a < 72) (hj : pm_in j n = true) (hp : pc + 1 = pc_q) (kk : ∀ z, f j.toNatClampNeg = z → pm_R d mid pc_q ls (.long z :: st) h Q) : pm_R d mid pc ls (.int j :: .ref a :: st) h Q :=
  pm_R_lald hM hf hc h1 (Nat.lt_of_lt_of_le ha T.1) hj rfl hp (kk _ rfl)
theorem rf_R_ist (hM : pm_Mt mid q l) (T : rf_T m w h) {a n : Nat} {f : Nat → Int32} {j : Int32} (hf : pm_find l pc = some (.iastore, L)) (hc : h.2.2 a = .inl (0, n, .inl f)) (h1 : 51 ≤ a) (h2 : a < 71) (hj : pm_in j n = true) (hC : rf_C a (.inl (0, n, .inl (upd f j.toNatClampNeg x)))) (hp : pc + 1 = pc_q) (kk : ∀ h_q, rf_T m w h_q → rf_G [a] h h_q → h_q.2.2 a = .inl (0, n, .inl (upd f j.toNatClampNeg x)) → pm_R d mid pc_q ls st h_q Q) : pm_R d mid pc ls (.int x :: .int j :: .ref a :: st) h Q :=
  pm_R_iast hM hf hc (Nat.le_trans (by decide) h1) (Nat.lt_of_lt_of_le (Nat.lt_succ_of_lt h2) T.1) hj hp (kk _ (rf_T.arr T h1 (Nat.lt_succ_of_lt h2) hC) (rf_G.one _ _ _) (by simp [pm_set, va_up]))
theorem rf_R_lst (hM : pm_Mt mid q l) (T : rf_T m w h) {a n : Nat} {f : Nat → Int64} {j : Int32} {x : Int64} (hf : pm_find l pc = some (.lastore, L)) (hc : h.2.2 a = .inl (1, n, .inr (.inl f))) (h1 : 51 ≤ a) (h2 : a < 71) (hj : pm_in j n = true) (hC : rf_C a (.inl (1, n, .inr (.inl (vp_updL f j.toNatClampNeg x))))) (hp : pc + 1 = pc_q) (kk : ∀ h_q, rf_T m w h_q → rf_G [a] h h_q → h_q.2.2 a = .inl (1, n, .inr (.inl (vp_updL f j.toNatClampNeg x))) → pm_R d mid pc_q ls st h_q Q) : pm_R d mid pc ls (.long x :: .int j :: .ref a :: st) h Q :=
  pm_R_last hM hf hc (Nat.le_trans (by decide) h1) (Nat.lt_of_lt_of_le (Nat.lt_succ_of_lt h2) T.1) hj hp (kk _ (rf_T.arr T h1 (Nat.lt_succ_of_lt h2) hC) (rf_G.one _ _ _) (by simp [pm_set, va_up]))
end RFR
section RFV
variable {d mid pc pc_q : Nat} {ls st : List Value} {h : pm_H} {Q : Option Value → pm_H → Prop} {q : pm_M} {l : List (Nat × Instr × Nat)} {L : Nat} {x y z : Int32} {a b c e : Int} {m : Nat → Int32} {w : Int64}
theorem sf_R_iandE (hM : pm_Mt mid q l) (hf : pm_find l pc = some (.iand, L)) (hp : pc + 1 = pc_q) (hy : sf_B c e y) (hc : 0 ≤ c) (k : ∀ z : Int32, z = x &&& y → sf_B 0 e z → pm_R d mid pc_q ls (.int z :: st) h Q) : pm_R d mid pc ls (.int y :: .int x :: st) h Q := by
  have h1 := sf_and (x := x) (y := y) (Int.le_trans hc hy.1)
  exact pm_R_op hM hf (st_q := .int (x &&& y) :: st) rfl hp (k _ rfl ⟨h1.1, Int.le_trans h1.2 hy.2⟩)
theorem sf_R_iaddV (hM : pm_Mt mid q l) (hf : pm_find l pc = some (.iadd, L)) (hp : pc + 1 = pc_q) (hx : sf_B a b x) (hy : sf_B c e y) (lo : -2147483648 ≤ a + c) (up : b + e ≤ 2147483647) (he : z.toInt = x.toInt + y.toInt) (k : pm_R d mid pc_q ls (.int z :: st) h Q) : pm_R d mid pc ls (.int y :: .int x :: st) h Q := by
  have e1 : (x + y).toInt = x.toInt + y.toInt := Jvm.Kit.i32_add (by have := hx.1; have := hy.1; omega) (by have := hx.2; have := hy.2; omega)
  have e2 : x + y = z := Int32.toInt_inj.mp (e1.trans he.symm)
  exact pm_R_op hM hf (st_q := .int (x + y) :: st) rfl hp (by rw [e2]; exact k)
theorem sf_R_isubV (hM : pm_Mt mid q l) (hf : pm_find l pc = some (.isub, L)) (hp : pc + 1 = pc_q) (hx : sf_B a b x) (hy : sf_B c e y) (lo : -2147483648 ≤ a - e) (up : b - c ≤ 2147483647) (he : z.toInt = x.toInt - y.toInt) (k : pm_R d mid pc_q ls (.int z :: st) h Q) : pm_R d mid pc ls (.int y :: .int x :: st) h Q := by
  have e1 : (x - y).toInt = x.toInt - y.toInt := Jvm.Kit.i32_sub (by have := hx.1; have := hy.2; omega) (by have := hx.2; have := hy.1; omega)
  have e2 : x - y = z := Int32.toInt_inj.mp (e1.trans he.symm)
  exact pm_R_op hM hf (st_q := .int (x - y) :: st) rfl hp (by rw [e2]; exact k)
theorem sf_R_imulV (hM : pm_Mt mid q l) (hf : pm_find l pc = some (.imul, L)) (hp : pc + 1 = pc_q) (hx : sf_B a b x) (hy : sf_B c e y) (ha : 0 ≤ a) (hc : 0 ≤ c) (up : b * e ≤ 2147483647) (he : z.toInt = x.toInt * y.toInt) (k : pm_R d mid pc_q ls (.int z :: st) h Q) : pm_R d mid pc ls (.int y :: .int x :: st) h Q := by
  have l1 : 0 ≤ x.toInt * y.toInt := Int.mul_nonneg (Int.le_trans ha hx.1) (Int.le_trans hc hy.1)
  have l2 : x.toInt * y.toInt ≤ b * e := Int.mul_le_mul hx.2 hy.2 (Int.le_trans hc hy.1) (Int.le_trans (Int.le_trans ha hx.1) hx.2)
  have e1 : (x * y).toInt = x.toInt * y.toInt := Jvm.Kit.i32_mul (by omega) (by omega)
  have e2 : x * y = z := Int32.toInt_inj.mp (e1.trans he.symm)
  exact pm_R_op hM hf (st_q := .int (x * y) :: st) rfl hp (by rw [e2]; exact k)
theorem rf_R_bld (hM : pm_Mt mid q l) (T : rf_T m w h) {a n t : Nat} {f : Nat → Int32} {j : Int32} (hf : pm_find l pc = some (.baload, L)) (hc : h.2.2 a = .inl (t, n, .inl f)) (ht : t = 2 ∨ t = 3) (h1 : 16 ≤ a) (ha : a < 72) (hj : pm_in j n = true) (hp : pc + 1 = pc_q) (kk : ∀ z, f j.toNatClampNeg = z → pm_R d mid pc_q ls (.int z :: st) h Q) : pm_R d mid pc ls (.int j :: .ref a :: st) h Q :=
  pm_R_bald hM hf hc ht h1 (Nat.lt_of_lt_of_le ha T.1) hj rfl hp (kk _ rfl)
end RFV
end
