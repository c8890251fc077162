/-! all short ROWS under a LIST: the chart at c has a LIST -/
def cl_NN (ck : cl_K) (h : pm_H) (c : Nat) : Prop := ∃ (lo : Nat) (fi av ah an : Int32), ck lo = 1 ∧ sf_B 0 4 fi ∧ sf_B (-1) 11109 an ∧ h.2.2 c = .inr (3, [.ref (c + 1), .ref (c + 2), .ref (c + 3), .ref (c + 4), .ref lo, .int fi, .int av, .int ah, .int an])
def cl_NT (ck : cl_K) (h h' : pm_H) : Prop := ∀ c, ck c = 24 → cl_NN ck h c → cl_NN ck h' c
theorem cl_NT.refl (ck : cl_K) (h : pm_H) : cl_NT ck h h := fun _ _ x => x
theorem cl_NT.trans {ck : cl_K} {h h1 h2 : pm_H} (x : cl_NT ck h h1) (y : cl_NT ck h1 h2) : cl_NT ck h h2 := fun c hc z => y c hc (x c hc z)
theorem cl_NT.same {ck : cl_K} {h h' : pm_H} (x : ∀ c, ck c = 24 → h'.2.2 c = h.2.2 c) : cl_NT ck h h' := fun c hc z => by
  obtain ⟨lo, fi, av, ah, an, h1, h2, h3, h4⟩ := z
  exact ⟨lo, fi, av, ah, an, h1, h2, h3, (x c hc).trans h4⟩
section CLS
variable {d mid pc pc' : Nat} {ls st : List Value} {h : pm_H} {Q : Option Value → pm_H → Prop} {q : pm_M} {l' : List (Nat × Instr × Nat)} {L : Nat} {ck : cl_K} {E : Nat → pm_E} {m : Nat → Int32} {o : Nat → Option Nat}
theorem cl_G.s25 (G : cl_G ck E) {b : Nat} (hk : ck b = 24) : ck (b + 1) = 25 ∧ ck (b + 2) = 26 ∧ ck (b + 3) = 27 ∧ ck (b + 4) = 28 := G.2.2.2.2.2.2.2.1 b hk
theorem cl_R_sst25 (G : cl_G ck E) (hM : pm_Mt mid q l') (T : cl_T ck E m o h) {b : Nat} {f : Nat → Int32} {j x : Int32} (hf : pm_find l' pc = some (.iastore, L)) (hk : ck b = 24) (hc : h.2.2 (b + 1) = .inl (0, 15, .inl f)) (hj : pm_in j 15 = true) (hp : pc + 1 = pc') (kk : ∀ h', cl_T ck E m o h' → cl_F ck [] 0 0 h h' → (∀ c, ck c = 24 → h'.2.2 c = h.2.2 c) → pm_R d mid pc' ls st h' Q) : pm_R d mid pc ls (.int x :: .int j :: .ref (b + 1) :: st) h Q := by
  have k := (G.s25 hk).1
  exact pm_R_iast hM hf hc (G.ge k (by decide)) (T.al k (by decide)) hj hp (kk _ (T.mut G k (by decide) (T.D.keep G k (by decide) (by decide) (by decide) (by decide) (fun _ => ⟨_, rfl⟩) (by decide) (by decide) (by decide))) ((rf_G.one _ _ _).mut T.1 k (by decide)) (fun c hc => cl_set_ne (fun e => by subst e; omega)))
theorem cl_R_sst26 (G : cl_G ck E) (hM : pm_Mt mid q l') (T : cl_T ck E m o h) {b : Nat} {f : Nat → Int64} {j : Int32} {x : Int64} (hf : pm_find l' pc = some (.lastore, L)) (hk : ck b = 24) (hc : h.2.2 (b + 2) = .inl (1, 6666, .inr (.inl f))) (hj : pm_in j 6666 = true) (hp : pc + 1 = pc') (kk : ∀ h', cl_T ck E m o h' → cl_F ck [] 0 0 h h' → (∀ c, ck c = 24 → h'.2.2 c = h.2.2 c) → pm_R d mid pc' ls st h' Q) : pm_R d mid pc ls (.long x :: .int j :: .ref (b + 2) :: st) h Q := by
  have k := (G.s25 hk).2.1
  exact pm_R_last hM hf hc (G.ge k (by decide)) (T.al k (by decide)) hj hp (kk _ (T.mut G k (by decide) (T.D.keep G k (by decide) (by decide) (by decide) (by decide) (by decide) (fun _ => ⟨_, rfl⟩) (by decide) (by decide))) ((rf_G.one _ _ _).mut T.1 k (by decide)) (fun c hc => cl_set_ne (fun e => by subst e; omega)))
theorem cl_R_sst27 (G : cl_G ck E) (hM : pm_Mt mid q l') (T : cl_T ck E m o h) {b : Nat} {f : Nat → Int32} {j x : Int32} (hf : pm_find l' pc = some (.iastore, L)) (hk : ck b = 24) (hc : h.2.2 (b + 3) = .inl (0, 6666, .inl f)) (hj : pm_in j 6666 = true) (hp : pc + 1 = pc') (kk : ∀ h', cl_T ck E m o h' → cl_F ck [] 0 0 h h' → (∀ c, ck c = 24 → h'.2.2 c = h.2.2 c) → pm_R d mid pc' ls st h' Q) : pm_R d mid pc ls (.int x :: .int j :: .ref (b + 3) :: st) h Q := by
  have k := (G.s25 hk).2.2.1
  exact pm_R_iast hM hf hc (G.ge k (by decide)) (T.al k (by decide)) hj hp (kk _ (T.mut G k (by decide) (T.D.keep G k (by decide) (by decide) (by decide) (by decide) (by decide) (by decide) (fun _ => ⟨_, rfl⟩) (by decide))) ((rf_G.one _ _ _).mut T.1 k (by decide)) (fun c hc => cl_set_ne (fun e => by subst e; omega)))
theorem cl_R_sst28 (G : cl_G ck E) (hM : pm_Mt mid q l') (T : cl_T ck E m o h) {b : Nat} {f : Nat → Int32} {j x : Int32} (hf : pm_find l' pc = some (.bastore, L)) (hk : ck b = 24) (hc : h.2.2 (b + 4) = .inl (2, 11110, .inl f)) (hj : pm_in j 11110 = true) (hp : pc + 1 = pc') (kk : ∀ h', cl_T ck E m o h' → cl_F ck [] 0 0 h h' → (∀ c, ck c = 24 → h'.2.2 c = h.2.2 c) → pm_R d mid pc' ls st h' Q) : pm_R d mid pc ls (.int x :: .int j :: .ref (b + 4) :: st) h Q := by
  have k := (G.s25 hk).2.2.2
  exact pm_R_bast hM hf hc (G.ge k (by decide)) (T.al k (by decide)) hj hp (kk _ (T.mut G k (by decide) (T.D.keep G k (by decide) (by decide) (by decide) (by decide) (by decide) (by decide) (by decide) (fun _ => ⟨_, rfl⟩))) ((rf_G.one _ _ _).mut T.1 k (by decide)) (fun c hc => cl_set_ne (fun e => by subst e; omega)))
end CLS
