theorem pm_str_not {c : Nat} {i : Instr} {st s : List Value} {h : pm_H} (hz : pm_str c i st h = some s) (ret : Option FieldType) : pm_ret ret i st = none ∧ pm_op i st = none ∧ (∀ ls, pm_lo i ls st = none) ∧ (∀ pc, pm_br i pc st = none) ∧ pm_cix i = none := by
  unfold pm_str at hz
  split at hz <;> first | exact ⟨rfl, rfl, fun _ => rfl, fun _ => rfl, rfl⟩ | cases hz
section PMS2
variable {d mid pc pc' : Nat} {ls st : List Value} {h : pm_H} {Q : Option Value → pm_H → Prop} {q : pm_M} {l : List (Nat × Instr × Nat)} {i : Instr} {L : Nat}
/-- a row over String constants -/
theorem pm_R_str (hM : pm_Mt mid q l) (hf : pm_find l pc = some (i, L)) {st' : List Value} (h0 : pm_hb (decide (q.1.name = "<init>")) q.2.2.2.2 i st h = none) (ho : pm_str q.2.2.2.2 i st h = some st') (hp : pc + pm_len i = pc') (k : pm_R d mid pc' ls st' h Q) : pm_R d mid pc ls st h Q := by
  subst hp
  obtain ⟨n1, n2, n3, n4, n5⟩ := pm_str_not ho q.2.2.2.1
  refine pm_R_step hM hf n1 (pm_nocall2 n5) (z := (pc + pm_len i, ls, st', h)) ?_ k
  have e : pm_hp (decide (q.1.name = "<init>")) q.2.2.2.2 i st h = some (st', h) := by
    unfold pm_hp
    rw [h0, ho]
    rfl
  unfold pm_step
  rw [n2, n3, n4, e]
end PMS2
