theorem sf_n0 : Int32.toNatClampNeg 0 = 0 := rfl
theorem sf_neT {a b c e : Int} {x y : Int32} (hx : sf_B a b x) (hy : sf_B c e y) (h : b < c ∨ e < a) : ¬ x.toInt = y.toInt := by
  have h1 := hx.1; have h2 := hx.2; have h3 := hy.1; have h4 := hy.2
  omega
section RFB
variable {d mid pc pc' : Nat} {ls st : List Value} {h : pm_H} {Q : Option Value → pm_H → Prop} {q : pm_M} {l : List (Nat × Instr × Nat)} {L : Nat} {x : Int32} {m : Nat → Int32} {w : Int64}
theorem rf_R_bst (hM : pm_Mt mid q l) (T : rf_T m w h) {f : Nat → Int32} {j : Int32} (hf : pm_find l pc = some (.bastore, L)) (hc : h.2.2 42 = .inl (2, 2400, .inl f)) (hj : pm_in j 2400 = true) (hp : pc + 1 = pc') (kk : ∀ h', rf_T m w h' → rf_G [42] h h' → h'.2.2 42 = .inl (2, 2400, .inl (upd f j.toNatClampNeg x.toInt8.toInt32)) → pm_R d mid pc' ls st h' Q) : pm_R d mid pc ls (.int x :: .int j :: .ref 42 :: st) h Q :=
  pm_R_bast hM hf hc (by decide) (Nat.lt_of_lt_of_le (by decide) T.1) hj hp (kk _ (rf_T.arr2 T (by decide) (by decide) (by decide) (by decide) ⟨_, rfl⟩) (rf_G.one _ _ _) (by simp [pm_set, va_up]))
theorem rf_R_zst (hM : pm_Mt mid q l) (T : rf_T m w h) {f : Nat → Int32} {j : Int32} (hf : pm_find l pc = some (.bastore, L)) (hc : h.2.2 71 = .inl (3, 3, .inl f)) (hj : pm_in j 3 = true) (hp : pc + 1 = pc') (kk : ∀ h', rf_T m w h' → rf_G [71] h h' → h'.2.2 71 = .inl (3, 3, .inl (upd f j.toNatClampNeg (x &&& 1))) → pm_R d mid pc' ls st h' Q) : pm_R d mid pc ls (.int x :: .int j :: .ref 71 :: st) h Q :=
  pm_R_zast hM hf hc (by decide) (Nat.lt_of_lt_of_le (by decide) T.1) hj hp (kk _ (rf_T.arr2 T (by decide) (by decide) (by decide) (by decide) ⟨_, rfl⟩) (rf_G.one _ _ _) (by simp [pm_set, va_up]))
end RFB
