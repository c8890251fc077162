/-- an int that is handed back -/
theorem pm_ret_i (v : Int32) : pm_ret (some .int) .ireturn [.int v] = some (some (.int v)) := by
  simp [pm_ret, narrow]
theorem pm_hp_acp {ini : Bool} {c ix : Nat} {n dp sp : Int32} {a b : Nat} {st : List Value} {h : pm_H} {k n0 n1 : Nat} {f g : Nat → Int32} (hx : pm_at pm_XL c ix = some 1) (ha : h.2.2 a = .inl (k, n0, .inl f)) (hb : h.2.2 b = .inl (k, n1, .inl g)) (hk : k = 0 ∨ k = 2) (hc : 16 ≤ a ∧ a < h.1 ∧ 16 ≤ b ∧ b < h.1 ∧ ¬ sp < 0 ∧ ¬ dp < 0 ∧ ¬ n < 0 ∧ sp.toNatClampNeg + n.toNatClampNeg ≤ n0 ∧ dp.toNatClampNeg + n.toNatClampNeg ≤ n1 ∧ (st.map fun v => v.category).sum ≤ 8) :
    pm_hp ini c (.invokestatic ix) (.int n :: .int dp :: .ref b :: .int sp :: .ref a :: st) h = some (st, pm_set h b (.inl (k, n1, .inl (va_cpy f g sp.toNatClampNeg dp.toNatClampNeg n.toNatClampNeg)))) := by
  unfold pm_hp
  dsimp only
  rw [hx]
  rcases hk with rfl | rfl
  · simp only [Option.bind, ha, hb]; exact if_pos hc
  · simp only [Option.bind, ha, hb]; exact if_pos hc
section PMX
variable {d mid pc pc' : Nat} {ls st : List Value} {h : pm_H} {Q : Option Value → pm_H → Prop} {q : pm_M} {l : List (Nat × Instr × Nat)} {L : Nat}
/-- arraycopy of ints or bytes -/
theorem pm_R_acp (hM : pm_Mt mid q l) {ix : Nat} (hf : pm_find l pc = some (.invokestatic ix, L)) (hn : pm_at pm_CL q.2.2.2.2 ix = none) (hx : pm_at pm_XL q.2.2.2.2 ix = some 1) {n dp sp : Int32} {a b k n0 n1 N S D : Nat} {f g : Nat → Int32} (ha : h.2.2 a = .inl (k, n0, .inl f)) (hb : h.2.2 b = .inl (k, n1, .inl g)) (hk : k = 0 ∨ k = 2) (la : 16 ≤ a) (la' : a < h.1) (lb : 16 ≤ b) (lb' : b < h.1) (hs : sp.toNatClampNeg = S) (hd : dp.toNatClampNeg = D) (hN : n.toNatClampNeg = N) (ps : ¬ sp < 0) (pd : ¬ dp < 0) (pn : ¬ n < 0) (h0 : S + N ≤ n0) (h1 : D + N ≤ n1) (hc : (st.map fun v => v.category).sum ≤ 8) (hp : pc + 3 = pc') (kk : pm_R d mid pc' ls st (pm_set h b (.inl (k, n1, .inl (va_cpy f g S D N)))) Q) : pm_R d mid pc ls (.int n :: .int dp :: .ref b :: .int sp :: .ref a :: st) h Q := by
  subst hs hd hN
  exact pm_R_nat hM hf rfl hn (pm_hp_acp hx ha hb hk ⟨la, la', lb, lb', ps, pd, pn, h0, h1, hc⟩) hp kk
end PMX
