/-! ROWS over references that may be null; clone, casts -/
/-- a new cell that holds what cell a holds -/
def ex_cl (S : ex_S) (a : Nat) : ex_S := (fun b j => if b = S.2.2.2.2 then S.1 a j else S.1 b j, fun b j => if b = S.2.2.2.2 then 0 else S.2.1 b j, fun b j => if b = S.2.2.2.2 then none else S.2.2.1 b j, fun b => if b = S.2.2.2.2 then S.2.2.2.1 a else S.2.2.2.1 b, S.2.2.2.2 + 1)
theorem ex_V_cl {h : pm_H} {a n s : Nat} {f : Nat → Int32} (ha : h.2.2 a = .inl (0, n, .inl f)) : ex_V (pm_push h (.inl (0, n, .inl f)) s) = ex_cl (ex_V h) a := by
  have q : ∀ b, (pm_push h (.inl (0, n, .inl f)) s).2.2 b = if b = h.1 then .inl (0, n, .inl f) else h.2.2 b := fun _ => rfl
  refine Prod.ext ?_ (Prod.ext ?_ (Prod.ext ?_ (Prod.ext ?_ rfl)))
  · funext b j
    show ex_eX ((pm_push h (.inl (0, n, .inl f)) s).2.2 b) j = if b = h.1 then ex_eX (h.2.2 a) j else ex_eX (h.2.2 b) j
    rw [q, ha]; by_cases hb : b = h.1
    · rw [if_pos hb, if_pos hb]
    · rw [if_neg hb, if_neg hb]
  · funext b j
    show ex_eY ((pm_push h (.inl (0, n, .inl f)) s).2.2 b) j = if b = h.1 then 0 else ex_eY (h.2.2 b) j
    rw [q]; by_cases hb : b = h.1
    · rw [if_pos hb, if_pos hb]; rfl
    · rw [if_neg hb, if_neg hb]
  · funext b j
    show ex_eZ ((pm_push h (.inl (0, n, .inl f)) s).2.2 b) j = if b = h.1 then none else ex_eZ (h.2.2 b) j
    rw [q]; by_cases hb : b = h.1
    · rw [if_pos hb, if_pos hb]; rfl
    · rw [if_neg hb, if_neg hb]
  · funext b
    show ex_eL ((pm_push h (.inl (0, n, .inl f)) s).2.2 b) = if b = h.1 then ex_eL (h.2.2 a) else ex_eL (h.2.2 b)
    rw [q, ha]; by_cases hb : b = h.1
    · rw [if_pos hb, if_pos hb]
    · rw [if_neg hb, if_neg hb]
section EXN
variable {N d mid pc pc' : Nat} {ls st : List Value} {S : ex_S} {Q : Option Value → ex_S → Prop} {q : pm_M} {l : List (Nat × Instr × Nat)} {i : Instr} {L : Nat}
theorem ex_oc {o : Option Nat} (k0 : o = none → ex_P N d mid pc ls st S Q) (k1 : ∀ b, o = some b → ex_P N d mid pc ls st S Q) : ex_P N d mid pc ls st S Q := by
  have key : ∀ o' : Option Nat, o = o' → ex_P N d mid pc ls st S Q := fun o' => match o' with
    | none => fun e => k0 e
    | some b => fun e => k1 b e
  exact key o rfl
theorem ex_stc {st' : List Value} (e : st = st') (k : ex_P N d mid pc ls st' S Q) : ex_P N d mid pc ls st S Q := by subst e; exact k
theorem ex_nul (hM : pm_Mt mid q l) (hf : pm_find l pc = some (i, L)) (hc : ∀ h, pm_call q.2.2.2.2 i st h = none) (hr : pm_ret q.2.2.2.1 i st = none) (h1 : pm_op i st = none) (h2 : pm_lo i ls st = none) (h3 : pm_br i pc st = none) (h4 : ∀ a b h, pm_hp a b i st h = none) : ex_P N d mid pc ls st S Q :=
  ex_hp hM hf hc hr h1 h2 h3 (fun h _ _ _ z hz => by rw [h4] at hz; cases hz)
theorem ex_K_put {ini : Bool} {c ix a : Nat} {h h' : pm_H} {v : Value} (hv : pm_pf ini c ix h a v = some h') (ha : 72 ≤ a) (K : ex_K h) : ex_K h' := by
  obtain ⟨ci, k, nb, fs, q, e1, e2, e3, e4, e5, e6, e7, e8⟩ := ex_pf hv
  subst e8
  obtain ⟨k1, k2, k3, k4⟩ := K
  refine ⟨fun b b1 b2 => by rw [ex_set_at, if_neg (by omega)]; exact k1 b b1 b2, k2, fun t ht => ?_, fun t ht => ?_⟩
  · obtain ⟨fs', f1, f2⟩ := k3 t ht
    have := ex_tab_lt t ht
    rw [ex_set_at, if_neg (by omega)]; exact ⟨fs', f1, f2⟩
  · obtain ⟨n, w, f1⟩ := k4 t ht
    have := ex_bts_lt t ht
    rw [ex_set_at, if_neg (by omega)]; exact ⟨n, w, f1⟩
theorem ex_top (k : 72 ≤ S.2.2.2.2 → ex_P N d mid pc ls st S Q) : ex_P N d mid pc ls st S Q := fun h eV W K n hn x hx => k (by rw [← eV]; exact K.2.1) h eV W K n hn x hx
theorem ex_put7 (hM : pm_Mt mid q l) {ix a ci k : Nat} {nb : Bool} {v : Value} (hf : pm_find l pc = some (.putfield ix, L)) (hF : pm_at pm_FL q.2.2.2.2 ix = some (ci, k, nb)) (hr : pm_ret q.2.2.2.1 (.putfield ix) (v :: .ref a :: st) = none) (ha : 72 ≤ a) (kk : ∀ h, ex_V h = S → ∀ fs v0, h.2.2 a = .inr (ci, fs) → k < fs.length → fs[k]? = some v0 → ex_kv (ex_ft ci k) v0 → ex_kv (ex_ft ci k) v → ex_P N d mid (pc + 3) ls st (ex_V (pm_set h a (.inr (ci, fs.set k v)))) Q) : ex_P N d mid pc ls (v :: .ref a :: st) S Q := by
  refine ex_hp hM hf (fun h => pm_nocall2 rfl) hr rfl rfl rfl (fun h eV W K z hz => ?_)
  rcases pm_hp_cases hz with hz | ⟨s, hz, _⟩
  · obtain ⟨h', hv, e⟩ := Option.map_eq_some_iff.mp (show (pm_pf (decide (q.1.name = "<init>")) q.2.2.2.2 ix h a v).map (fun h => (st, h)) = some z from hz)
    subst e
    refine ⟨ex_W_ch (ex_hb_ch hz) W, ex_K_put hv ha K, ?_⟩
    obtain ⟨ci', k', nb', fs, qq, e1, e2, e3, e4, e5, e6, e7, e8⟩ := ex_pf hv
    rw [hF] at e1
    cases e1
    subst e8
    exact kk h eV fs fs[k] e3 e6 (List.getElem?_eq_getElem e6) (W a ci fs e3 e4 e5 k _ (List.getElem?_eq_getElem e6)) (ex_fit e2 e7)
  · cases (show (none : Option (List Value)) = some s from hz)
theorem ex_putI7 (hM : pm_Mt mid q l) {ix a ci k : Nat} {nb : Bool} {x : Int32} (hf : pm_find l pc = some (.putfield ix, L)) (hF : pm_at pm_FL q.2.2.2.2 ix = some (ci, k, nb)) (ha : 72 ≤ a) (ht : ex_ft ci k = 0) (hp : pc + 3 = pc') (kk : ex_P N d mid pc' ls st (ex_sx S a k x) Q) : ex_P N d mid pc ls (.int x :: .ref a :: st) S Q := by
  subst hp
  refine ex_put7 hM hf hF rfl ha (fun h eV fs v0 g1 g2 g3 w w' => ?_)
  rw [ht] at w
  obtain ⟨y, rfl⟩ := w
  rw [ex_V_sx (k := k) (v := x), eV]
  · exact kk
  · intro j; rw [g1]; show ex_i (fs.set k (.int x))[j]? = if j = k then x else ex_i fs[j]?
    rw [ex_setget g2]; split <;> rfl
  · intro j; rw [g1]; show ex_l (fs.set k (.int x))[j]? = ex_l fs[j]?
    rw [ex_setget g2]; split
    · rename_i e; rw [e, g3]; rfl
    · rfl
  · intro j; rw [g1]; show ex_r (fs.set k (.int x))[j]? = ex_r fs[j]?
    rw [ex_setget g2]; split
    · rename_i e; rw [e, g3]; rfl
    · rfl
  · rw [g1]; rfl
theorem ex_putR7 (hM : pm_Mt mid q l) {ix a ci k : Nat} {nb : Bool} {v : Value} {x : Option Nat} (hv : v = va_rf x) (hf : pm_find l pc = some (.putfield ix, L)) (hF : pm_at pm_FL q.2.2.2.2 ix = some (ci, k, nb)) (ha : 72 ≤ a) (ht : ex_ft ci k = 2) (hp : pc + 3 = pc') (kk : ex_P N d mid pc' ls st (ex_sz S a k x) Q) : ex_P N d mid pc ls (v :: .ref a :: st) S Q := by
  subst hp
  subst hv
  refine ex_put7 hM hf hF rfl ha (fun h eV fs v0 g1 g2 g3 w w' => ?_)
  rw [ht] at w
  obtain ⟨y, rfl⟩ := w
  rw [ex_V_sz (k := k) (v := x), eV]
  · exact kk
  · intro j; rw [g1]; show ex_i (fs.set k (va_rf x))[j]? = ex_i fs[j]?
    rw [ex_setget g2]; split
    · rename_i e; rw [e, g3]; cases x <;> cases y <;> rfl
    · rfl
  · intro j; rw [g1]; show ex_l (fs.set k (va_rf x))[j]? = ex_l fs[j]?
    rw [ex_setget g2]; split
    · rename_i e; rw [e, g3]; cases x <;> cases y <;> rfl
    · rfl
  · intro j; rw [g1]; show ex_r (fs.set k (va_rf x))[j]? = if j = k then x else ex_r fs[j]?
    rw [ex_setget g2]; split
    · cases x <;> rfl
    · rfl
  · rw [g1]; rfl
theorem ex_clone (hM : pm_Mt mid q l) {ix a : Nat} (hf : pm_find l pc = some (.invokevirtual ix, L)) (hn : pm_at pm_CL q.2.2.2.2 ix = none) (hp : pc + 3 = pc') (kk : ex_P N d mid pc' ls (.ref S.2.2.2.2 :: st) (ex_cl S a) Q) : ex_P N d mid pc ls (.ref a :: st) S Q := by
  subst hp
  refine ex_hb hM hf (fun h => pm_nocall3 rfl hn) rfl rfl rfl rfl (fun h => rfl) (fun ix z => by cases z) (fun h eV W K z hz => ?_)
  unfold pm_hb at hz
  dsimp only at hz
  obtain ⟨k, e1, e⟩ := Option.bind_eq_some_iff.mp hz
  split at e
  · rename_i ea
    split at e
    · cases e
      show ex_P N d mid (pc + 3) ls (.ref (ex_V h).2.2.2.2 :: st) (ex_V (pm_push h _ _)) Q
      rw [ex_V_cl ea, eV]; exact kk
    · cases e
  · cases e
/-- clone of null -/
theorem ex_nulX (hM : pm_Mt mid q l) {ix : Nat} (hf : pm_find l pc = some (.invokevirtual ix, L)) (hn : pm_at pm_CL q.2.2.2.2 ix = none) (_hp : pc + 3 = pc + 3) : ex_P N d mid pc ls (.null :: st) S Q :=
  ex_nul hM hf (fun h => pm_nocall3 rfl hn) rfl rfl rfl rfl (fun _ _ _ => rfl)
/-- arraycopy into null, out of null -/
theorem ex_cpn1 (hM : pm_Mt mid q l) {ix : Nat} {n dp sp : Int32} {v : Value} (hf : pm_find l pc = some (.invokestatic ix, L)) (hn : pm_at pm_CL q.2.2.2.2 ix = none) (hX : pm_at pm_XL q.2.2.2.2 ix = some 1) : ex_P N d mid pc ls (.int n :: .int dp :: .null :: .int sp :: v :: st) S Q := by
  refine ex_hb hM hf (fun h => pm_nocall3 rfl hn) rfl rfl rfl rfl (fun h => rfl) (fun ix z => by cases z) (fun h eV W K z hz => ?_)
  have e : pm_hb (decide (q.1.name = "<init>")) q.2.2.2.2 (.invokestatic ix) (.int n :: .int dp :: .null :: .int sp :: v :: st) h = none := by
    show (pm_at pm_XL q.2.2.2.2 ix).bind _ = none
    rw [hX]; rfl
  rw [e] at hz; cases hz
theorem ex_cpn2 (hM : pm_Mt mid q l) {ix b : Nat} {n dp sp : Int32} (hf : pm_find l pc = some (.invokestatic ix, L)) (hn : pm_at pm_CL q.2.2.2.2 ix = none) (hX : pm_at pm_XL q.2.2.2.2 ix = some 1) : ex_P N d mid pc ls (.int n :: .int dp :: .ref b :: .int sp :: .null :: st) S Q := by
  refine ex_hb hM hf (fun h => pm_nocall3 rfl hn) rfl rfl rfl rfl (fun h => rfl) (fun ix z => by cases z) (fun h eV W K z hz => ?_)
  have e : pm_hb (decide (q.1.name = "<init>")) q.2.2.2.2 (.invokestatic ix) (.int n :: .int dp :: .ref b :: .int sp :: .null :: st) h = none := by
    show (pm_at pm_XL q.2.2.2.2 ix).bind _ = none
    rw [hX]; rfl
  rw [e] at hz; cases hz
theorem ex_cast (hM : pm_Mt mid q l) {ix a : Nat} (hf : pm_find l pc = some (.checkcast ix, L)) (hp : pc + 3 = pc') (kk : ex_P N d mid pc' ls (.ref a :: st) S Q) : ex_P N d mid pc ls (.ref a :: st) S Q := by
  subst hp
  refine ex_hb hM hf (fun h => pm_nocall2 rfl) rfl rfl rfl rfl (fun h => rfl) (fun ix z => by cases z) (fun h eV W K z hz => ?_)
  unfold pm_hb at hz
  dsimp only at hz
  obtain ⟨k, e1, e⟩ := Option.bind_eq_some_iff.mp hz
  split at e
  · split at e
    · cases e
      show ex_P N d mid (pc + 3) ls (.ref a :: st) (ex_V h) Q
      rw [eV]; exact kk
    · cases e
  · cases e
/-- an object of a class that is not of the list -/
theorem ex_nonew (hM : pm_Mt mid q l) {ix : Nat} (hf : pm_find l pc = some (.new ix, L)) (hF : pm_at pm_NL q.2.2.2.2 ix = none) : ex_P N d mid pc ls st S Q := by
  refine ex_hp hM hf (fun h => pm_nocall2 rfl) (pm_noret _ (Or.inl (by show 3 ≠ 1; decide))) rfl rfl rfl (fun h eV W K z hz => ?_)
  rcases pm_hp_cases hz with hz | ⟨s, hz, _⟩
  · have e : pm_hb (decide (q.1.name = "<init>")) q.2.2.2.2 (.new ix) st h = none := by
      show (pm_at pm_NL q.2.2.2.2 ix).bind _ = none
      rw [hF]; rfl
    rw [e] at hz; cases hz
  · cases (show (none : Option (List Value)) = some s from hz)
/-- a call on null -/
theorem ex_ncn (hM : pm_Mt mid q l) {ix callee np kd : Nat} {ra rest : List Value} (hf : pm_find l pc = some (i, L)) (hi : pm_ix i kd = some ix) (hC : pm_at pm_CL q.2.2.2.2 ix = some (callee, np, kd)) (hX : pm_at pm_XL q.2.2.2.2 ix = none) (hst : st = ra ++ rest) (hl : ra.length = np + 1) (hk : ¬ (kd = 2 ∨ kd = 5)) (hra : ∀ q h, pm_rcv kd q h ra.reverse = false) : ex_P N d mid pc ls st S Q := by
  have hcix : pm_cix i = some ix := by
    unfold pm_ix at hi
    split at hi <;> first | exact hi | cases hi
  refine (ex_step hM hf (pm_noret_call hi) (fun h => ?_) (fun h eV W K z hz => ?_)).weak
  · cases hc : pm_call q.2.2.2.2 i st h with
    | none => rfl
    | some y =>
      exfalso
      unfold pm_call at hc
      rw [hcix] at hc
      obtain ⟨ix', c1, hc⟩ := Option.bind_eq_some_iff.mp hc
      cases c1
      obtain ⟨y', c1, hc⟩ := Option.bind_eq_some_iff.mp hc
      rw [hC] at c1
      cases c1
      obtain ⟨q', c1, hc⟩ := Option.bind_eq_some_iff.mp hc
      dsimp only at hc
      simp only [if_neg hk] at hc
      split at hc
      · rename_i g
        have g4 := g.2.2.2
        rw [hst, ← hl, List.take_left, hra] at g4
        cases g4
      · cases hc
  · rw [ex_noX hcix hX] at hz; cases hz
end EXN
