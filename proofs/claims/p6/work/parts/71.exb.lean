/-! ROWS of exact runs -/
def ex_P (N d mid pc : Nat) (ls st : List Value) (S : ex_S) (Q : Option Value → ex_S → Prop) : Prop := ∀ h, ex_V h = S → ex_W h → ex_K h → ∀ n, n ≤ N → ∀ x, pm_run n d mid pc ls st h = some x → ex_W x.2 ∧ ex_K x.2 ∧ Q x.1 (ex_V x.2)
section EXR
variable {N d mid pc pc' : Nat} {ls st : List Value} {S : ex_S} {Q : Option Value → ex_S → Prop} {q : pm_M} {l : List (Nat × Instr × Nat)} {i : Instr} {L : Nat}
theorem ex_zero : ex_P 0 d mid pc ls st S Q := by
  intro h _ _ _ n hn x hx
  have : n = 0 := by omega
  subst this; cases hx
theorem ex_P.weak (k : ex_P (N + 1) d mid pc ls st S Q) : ex_P N d mid pc ls st S Q := fun h a b c n hn => k h a b c n (by omega)
theorem ex_P.mono {Q' : Option Value → ex_S → Prop} (k : ex_P N d mid pc ls st S Q) (hQ : ∀ r S', Q r S' → Q' r S') : ex_P N d mid pc ls st S Q' := fun h a b c n hn x hx => have z := k h a b c n hn x hx; ⟨z.1, z.2.1, hQ _ _ z.2.2⟩
theorem ex_step (hM : pm_Mt mid q l) (hf : pm_find l pc = some (i, L)) (hr : pm_ret q.2.2.2.1 i st = none) (hc : ∀ h, pm_call q.2.2.2.2 i st h = none) (k : ∀ h, ex_V h = S → ex_W h → ex_K h → ∀ z, pm_step (decide (q.1.name = "<init>")) q.2.2.2.2 i pc ls st h = some z → ex_W z.2.2.2 ∧ ex_K z.2.2.2 ∧ ex_P N d mid z.1 z.2.1 z.2.2.1 (ex_V z.2.2.2) Q) : ex_P (N + 1) d mid pc ls st S Q := by
  intro h eV W K n hn x hx
  match n, hn, hx with
  | 0, _, hx => cases hx
  | n + 1, hn, hx =>
    unfold pm_run at hx
    rw [hM.1, hM.code hf] at hx
    dsimp only at hx
    rw [hr] at hx
    dsimp only at hx
    rw [hc] at hx
    dsimp only at hx
    split at hx
    · rename_i pc' ls' st' h' hs
      obtain ⟨W', K', P'⟩ := k h eV W K _ hs
      exact P' h' rfl W' K' n (by omega) x hx
    · cases hx
theorem ex_ret (hM : pm_Mt mid q l) (hf : pm_find l pc = some (i, L)) {r : Option Value} (hr : pm_ret q.2.2.2.1 i st = some r) (k : Q r S) : ex_P N d mid pc ls st S Q := by
  intro h eV W K n hn x hx
  match n, hn, hx with
  | 0, _, hx => cases hx
  | n + 1, hn, hx =>
    unfold pm_run at hx
    rw [hM.1, hM.code hf] at hx
    dsimp only at hx
    rw [hr] at hx
    dsimp only at hx
    cases hx
    refine ⟨W, K, ?_⟩
    show Q r (ex_V h)
    rw [eV]; exact k
theorem ex_op (hM : pm_Mt mid q l) (hf : pm_find l pc = some (i, L)) {st' : List Value} (ho : pm_op i st = some st') (hp : pc + pm_len i = pc') (k : ex_P N d mid pc' ls st' S Q) : ex_P N d mid pc ls st S Q := by
  subst hp
  refine (ex_step hM hf (pm_noret _ (Or.inr (Or.inl (by rw [ho]; rfl)))) (fun h => pm_nocall _ (Or.inl (by rw [ho]; rfl))) (fun h eV W K z hz => ?_)).weak
  unfold pm_step at hz
  rw [ho] at hz
  cases hz
  refine ⟨W, K, ?_⟩
  show ex_P N d mid (pc + pm_len i) ls st' (ex_V h) Q
  rw [eV]; exact k
theorem ex_lo (hM : pm_Mt mid q l) (hf : pm_find l pc = some (i, L)) {ls' st' : List Value} (ho : pm_lo i ls st = some (ls', st')) (hp : pc + pm_len i = pc') (k : ex_P N d mid pc' ls' st' S Q) : ex_P N d mid pc ls st S Q := by
  subst hp
  refine (ex_step hM hf (pm_noret _ (Or.inr (Or.inr (Or.inl ⟨ls, by rw [ho]; rfl⟩)))) (fun h => pm_nocall _ (Or.inr (Or.inl ⟨ls, by rw [ho]; rfl⟩))) (fun h eV W K z hz => ?_)).weak
  unfold pm_step at hz
  rw [pm_op_lo ho, ho] at hz
  cases hz
  refine ⟨W, K, ?_⟩
  show ex_P N d mid (pc + pm_len i) ls' st' (ex_V h) Q
  rw [eV]; exact k
theorem ex_goS (hM : pm_Mt mid q l) (hf : pm_find l pc = some (i, L)) {st' : List Value} (ho : pm_br i pc st = some (pc', st')) (k : ex_P N d mid pc' ls st' S Q) : ex_P (N + 1) d mid pc ls st S Q := by
  refine (ex_step hM hf (pm_noret _ (Or.inr (Or.inr (Or.inr (Or.inl ⟨pc, by rw [ho]; rfl⟩))))) (fun h => pm_nocall _ (Or.inr (Or.inr ⟨pc, by rw [ho]; rfl⟩))) (fun h eV W K z hz => ?_))
  unfold pm_step at hz
  rw [(pm_op_br ho).1, (pm_op_br ho).2, ho] at hz
  cases hz
  refine ⟨W, K, ?_⟩
  show ex_P N d mid pc' ls st' (ex_V h) Q
  rw [eV]; exact k
theorem ex_br (hM : pm_Mt mid q l) (hf : pm_find l pc = some (i, L)) {st' : List Value} (ho : pm_br i pc st = some (pc', st')) (k : ex_P N d mid pc' ls st' S Q) : ex_P N d mid pc ls st S Q := (ex_goS hM hf ho k).weak
/-- a switch: where it goes is told by what is known of the number -/
theorem ex_sw (hM : pm_Mt mid q l) (hf : pm_find l pc = some (i, L)) (h1 : pm_op i st = none) (h2 : pm_lo i ls st = none) (hi : pm_cix i = none) (hr : pm_ret q.2.2.2.1 i st = none) (h4 : ∀ a b h, pm_hp a b i st h = none) (k : ∀ z, pm_br i pc st = some z → ex_P N d mid z.1 ls z.2 S Q) : ex_P N d mid pc ls st S Q := by
  refine (ex_step hM hf hr (fun h => pm_nocall2 hi) (fun h eV W K z hz => ?_)).weak
  unfold pm_step at hz
  rw [h1, h2] at hz
  dsimp only at hz
  split at hz
  · rename_i x hx
    cases hz
    refine ⟨W, K, ?_⟩
    show ex_P N d mid x.1 ls x.2 (ex_V h) Q
    rw [eV]; exact k x hx
  · rw [h4] at hz; cases hz
theorem ex_icmp (hM : pm_Mt mid q l) {c : Jvm.ClassFile.Cond} {off : Int} {x y : Int32} {t : Nat} (hf : pm_find l pc = some (.if_icmp c off, L)) (ht : pm_to pc off = some t) (hp : pc + 3 = pc') (kt : pm_cnd c x y → ex_P N d mid t ls st S Q) (kf : ¬ pm_cnd c x y → ex_P N d mid pc' ls st S Q) : ex_P N d mid pc ls (.int y :: .int x :: st) S Q := by
  subst hp
  have e : pm_br (.if_icmp c off) pc (.int y :: .int x :: st) = some (@ite Nat (pm_cnd c x y) (pm_cndD c x y) t (pc + 3), st) := by
    show pm_if _ _ _ _ _ = _
    unfold pm_if
    rw [ht]
    rfl
  refine ex_br hM hf e ?_
  by_cases hc : pm_cnd c x y
  · rw [if_pos hc]; exact kt hc
  · rw [if_neg hc]; exact kf hc
theorem ex_ifc (hM : pm_Mt mid q l) {c : Jvm.ClassFile.Cond} {off : Int} {x : Int32} {t : Nat} (hf : pm_find l pc = some (.ifCond c off, L)) (ht : pm_to pc off = some t) (hp : pc + 3 = pc') (kt : pm_cnd c x 0 → ex_P N d mid t ls st S Q) (kf : ¬ pm_cnd c x 0 → ex_P N d mid pc' ls st S Q) : ex_P N d mid pc ls (.int x :: st) S Q := by
  subst hp
  have e : pm_br (.ifCond c off) pc (.int x :: st) = some (@ite Nat (pm_cnd c x 0) (pm_cndD c x 0) t (pc + 3), st) := by
    show pm_if _ _ _ _ _ = _
    unfold pm_if
    rw [ht]
    rfl
  refine ex_br hM hf e ?_
  by_cases hc : pm_cnd c x 0
  · rw [if_pos hc]; exact kt hc
  · rw [if_neg hc]; exact kf hc
theorem ex_ifn (hM : pm_Mt mid q l) {off : Int} {o : Option Nat} {v : Value} {t : Nat} (hv : v = va_rf o) (hf : pm_find l pc = some (.ifnull off, L)) (ht : pm_to pc off = some t) (hp : pc + 3 = pc') (kt : o = none → ex_P N d mid t ls st S Q) (kf : ∀ b, o = some b → ex_P N d mid pc' ls st S Q) : ex_P N d mid pc ls (v :: st) S Q := by
  subst hp
  subst hv
  cases o with
  | none => exact ex_br hM hf (by show (pm_to pc off).map _ = _; rw [ht]; rfl) (kt rfl)
  | some b => exact ex_br hM hf (pc' := pc + 3) (st' := st) rfl (kf b rfl)
theorem ex_ifnn (hM : pm_Mt mid q l) {off : Int} {o : Option Nat} {v : Value} {t : Nat} (hv : v = va_rf o) (hf : pm_find l pc = some (.ifnonnull off, L)) (ht : pm_to pc off = some t) (hp : pc + 3 = pc') (kt : ∀ b, o = some b → ex_P N d mid t ls st S Q) (kf : o = none → ex_P N d mid pc' ls st S Q) : ex_P N d mid pc ls (v :: st) S Q := by
  subst hp
  subst hv
  cases o with
  | none => exact ex_br hM hf (pc' := pc + 3) (st' := st) rfl (kf rfl)
  | some b => exact ex_br hM hf (by show (pm_to pc off).map _ = _; rw [ht]; rfl) (kt b rfl)
/-- division: what comes back was no division by 0 -/
theorem ex_dv (hM : pm_Mt mid q l) (hf : pm_find l pc = some (i, L)) {c : Prop} {hd : Decidable c} {st' : List Value} (ho : pm_op i st = if c then none else some st') (h2 : pm_lo i ls st = none) (h3 : pm_br i pc st = none) (h4 : ∀ a b h, pm_hp a b i st h = none) (hi : pm_cix i = none) (hr : pm_ret q.2.2.2.1 i st = none) (hp : pc + pm_len i = pc') (k : ¬ c → ex_P N d mid pc' ls st' S Q) : ex_P N d mid pc ls st S Q := by
  by_cases hc : c
  · refine (ex_step hM hf hr (fun h => pm_nocall2 hi) (fun h eV W K z hz => ?_)).weak
    exfalso
    unfold pm_step at hz
    rw [ho, if_pos hc, h2, h3, h4] at hz
    cases hz
  · rw [if_neg hc] at ho
    exact ex_op hM hf ho hp (k hc)
theorem ex_hp (hM : pm_Mt mid q l) (hf : pm_find l pc = some (i, L)) (hc : ∀ h, pm_call q.2.2.2.2 i st h = none) (hr : pm_ret q.2.2.2.1 i st = none) (h1 : pm_op i st = none) (h2 : pm_lo i ls st = none) (h3 : pm_br i pc st = none) (k : ∀ h, ex_V h = S → ex_W h → ex_K h → ∀ z, pm_hp (decide (q.1.name = "<init>")) q.2.2.2.2 i st h = some z → ex_W z.2 ∧ ex_K z.2 ∧ ex_P N d mid (pc + pm_len i) ls z.1 (ex_V z.2) Q) : ex_P N d mid pc ls st S Q := by
  refine (ex_step hM hf hr hc (fun h eV W K z hz => ?_)).weak
  unfold pm_step at hz
  rw [h1, h2, h3] at hz
  dsimp only at hz
  split at hz
  · rename_i x hx; cases hz; exact k h eV W K x hx
  · cases hz
theorem ex_hb (hM : pm_Mt mid q l) (hf : pm_find l pc = some (i, L)) (hc : ∀ h, pm_call q.2.2.2.2 i st h = none) (hr : pm_ret q.2.2.2.1 i st = none) (h1 : pm_op i st = none) (h2 : pm_lo i ls st = none) (h3 : pm_br i pc st = none) (hs : ∀ h, pm_str q.2.2.2.2 i st h = none) (hpf : ∀ ix, i = .putfield ix → ex_free q.2.2.2.2 ix = true) (k : ∀ h, ex_V h = S → ex_W h → ex_K h → ∀ z, pm_hb (decide (q.1.name = "<init>")) q.2.2.2.2 i st h = some z → ex_P N d mid (pc + pm_len i) ls z.1 (ex_V z.2) Q) : ex_P N d mid pc ls st S Q := by
  refine ex_hp hM hf hc hr h1 h2 h3 (fun h eV W K z hz => ?_)
  rcases pm_hp_cases hz with hz | ⟨s, hz, _⟩
  · exact ⟨ex_W_ch (ex_hb_ch hz) W, ex_K_ch (ex_hb_ch hz) K hpf, k h eV W K z hz⟩
  · rw [hs] at hz; cases hz
theorem ex_gf {c ix a ci k : Nat} {nb : Bool} {h : pm_H} {v : Value} (hF : pm_at pm_FL c ix = some (ci, k, nb)) (hv : pm_gf c ix h a = some v) : ∃ fs, h.2.2 a = .inr (ci, fs) ∧ 16 ≤ a ∧ a < h.1 ∧ fs[k]? = some v := by
  unfold pm_gf at hv
  rw [hF] at hv
  obtain ⟨x, e1, e⟩ := Option.bind_eq_some_iff.mp hv
  cases e1
  split at e
  · rename_i ci' fs e3
    split at e
    · rename_i g
      obtain ⟨g1, g2, g3⟩ := g
      dsimp only at g3
      subst g3
      exact ⟨fs, e3, g1, g2, e⟩
    · cases e
  · cases e
theorem ex_get0 (hM : pm_Mt mid q l) {ix a ci k : Nat} {nb : Bool} (hf : pm_find l pc = some (.getfield ix, L)) (hF : pm_at pm_FL q.2.2.2.2 ix = some (ci, k, nb)) (h8 : Nat.beq q.2.2.2.2 8 = false) (kk : ∀ h, ex_V h = S → ex_K h → ∀ fs v, h.2.2 a = .inr (ci, fs) → fs[k]? = some v → ex_kv (ex_ft ci k) v → ex_P N d mid (pc + 3) ls (v :: st) S Q) : ex_P N d mid pc ls (.ref a :: st) S Q := by
  refine ex_hb hM hf (fun h => pm_nocall2 rfl) rfl rfl rfl rfl (fun h => ?_) (fun ix z => by cases z) (fun h eV W K z hz => ?_)
  · have n8 : ¬ q.2.2.2.2 = 8 := Nat.ne_of_beq_eq_false h8
    show (if q.2.2.2.2 = 8 ∧ 7 ≤ a ∧ a < 11 ∧ ix = 9 then some (Value.ref (a + 4) :: st) else if q.2.2.2.2 = 8 ∧ 7 ≤ a ∧ a < 11 ∧ ix = 15 then some (Value.int 0 :: st) else none) = none
    rw [if_neg (fun z => n8 z.1), if_neg (fun z => n8 z.1)]
  · obtain ⟨v, hv, e⟩ := Option.map_eq_some_iff.mp (show (pm_gf q.2.2.2.2 ix h a).map (fun v => (v :: st, h)) = some z from hz)
    subst e
    obtain ⟨fs, g1, g2, g3, g4⟩ := ex_gf hF hv
    show ex_P N d mid (pc + 3) ls (v :: st) (ex_V h) Q
    rw [eV]
    exact kk h eV K fs v g1 g4 (W a ci fs g1 g2 g3 k v g4)
theorem ex_getI (hM : pm_Mt mid q l) {ix a ci k : Nat} {nb : Bool} (hf : pm_find l pc = some (.getfield ix, L)) (hF : pm_at pm_FL q.2.2.2.2 ix = some (ci, k, nb)) (h8 : Nat.beq q.2.2.2.2 8 = false) (ht : ex_ft ci k = 0) (hp : pc + 3 = pc') (kk : ex_P N d mid pc' ls (.int (S.1 a k) :: st) S Q) : ex_P N d mid pc ls (.ref a :: st) S Q := by
  subst hp
  refine ex_get0 hM hf hF h8 (fun h eV K fs v g1 g4 w => ?_)
  rw [ht] at w
  obtain ⟨x, rfl⟩ := w
  have e1 : x = S.1 a k := by rw [← eV]; show x = ex_eX (h.2.2 a) k; rw [g1]; show x = ex_i fs[k]?; rw [g4]; rfl
  rw [e1]; exact kk
theorem ex_getL (hM : pm_Mt mid q l) {ix a ci k : Nat} {nb : Bool} (hf : pm_find l pc = some (.getfield ix, L)) (hF : pm_at pm_FL q.2.2.2.2 ix = some (ci, k, nb)) (h8 : Nat.beq q.2.2.2.2 8 = false) (ht : ex_ft ci k = 1) (hp : pc + 3 = pc') (kk : ex_P N d mid pc' ls (.long (S.2.1 a k) :: st) S Q) : ex_P N d mid pc ls (.ref a :: st) S Q := by
  subst hp
  refine ex_get0 hM hf hF h8 (fun h eV K fs v g1 g4 w => ?_)
  rw [ht] at w
  obtain ⟨x, rfl⟩ := w
  have e1 : x = S.2.1 a k := by rw [← eV]; show x = ex_eY (h.2.2 a) k; rw [g1]; show x = ex_l fs[k]?; rw [g4]; rfl
  rw [e1]; exact kk
theorem ex_getR (hM : pm_Mt mid q l) {ix a ci k : Nat} {nb : Bool} (hf : pm_find l pc = some (.getfield ix, L)) (hF : pm_at pm_FL q.2.2.2.2 ix = some (ci, k, nb)) (h8 : Nat.beq q.2.2.2.2 8 = false) (ht : ex_ft ci k = 2) (hp : pc + 3 = pc') (kk : ex_P N d mid pc' ls (va_rf (S.2.2.1 a k) :: st) S Q) : ex_P N d mid pc ls (.ref a :: st) S Q := by
  subst hp
  refine ex_get0 hM hf hF h8 (fun h eV K fs v g1 g4 w => ?_)
  rw [ht] at w
  obtain ⟨x, rfl⟩ := w
  have e1 : x = S.2.2.1 a k := by
    rw [← eV]; show x = ex_eZ (h.2.2 a) k; rw [g1]; show x = ex_r fs[k]?; rw [g4]
    cases x <;> rfl
  rw [← e1] at kk; exact kk
/-- a reference that stays what it is -/
theorem ex_getK (hM : pm_Mt mid q l) {ix a ci k b j : Nat} {nb : Bool} (hf : pm_find l pc = some (.getfield ix, L)) (hF : pm_at pm_FL q.2.2.2.2 ix = some (ci, k, nb)) (h8 : Nat.beq q.2.2.2.2 8 = false) (hx : ex_tab[j]? = some (a, ci, k, b)) (hp : pc + 3 = pc') (kk : ex_P N d mid pc' ls (.ref b :: st) S Q) : ex_P N d mid pc ls (.ref a :: st) S Q := by
  subst hp
  refine ex_get0 hM hf hF h8 (fun h eV K fs v g1 g4 w => ?_)
  obtain ⟨fs', f1, f2⟩ := K.2.2.1 (a, ci, k, b) (List.mem_of_getElem? hx)
  have f1' : h.2.2 a = .inr (ci, fs') := f1
  rw [g1] at f1'
  injection f1' with f3
  injection f3 with f3 f4
  subst f4
  have f2' : fs[k]? = some (.ref b) := f2
  rw [g4] at f2'
  cases f2'
  exact kk
/-- a reference whose cell is known -/
theorem ex_getA (hM : pm_Mt mid q l) {ix a ci k b : Nat} {nb : Bool} (hf : pm_find l pc = some (.getfield ix, L)) (hF : pm_at pm_FL q.2.2.2.2 ix = some (ci, k, nb)) (h8 : Nat.beq q.2.2.2.2 8 = false) (ht : ex_ft ci k = 2) (hx : S.2.2.1 a k = some b) (hp : pc + 3 = pc') (kk : ex_P N d mid pc' ls (.ref b :: st) S Q) : ex_P N d mid pc ls (.ref a :: st) S Q := by
  refine ex_getR hM hf hF h8 ht hp ?_
  rw [hx]; exact kk
theorem ex_put0 (hM : pm_Mt mid q l) {ix a ci k : Nat} {nb : Bool} {v : Value} (hf : pm_find l pc = some (.putfield ix, L)) (hF : pm_at pm_FL q.2.2.2.2 ix = some (ci, k, nb)) (hr : pm_ret q.2.2.2.1 (.putfield ix) (v :: .ref a :: st) = none) (hfr : ex_free q.2.2.2.2 ix = true) (kk : ∀ h, ex_V h = S → ∀ fs v0, h.2.2 a = .inr (ci, fs) → k < fs.length → fs[k]? = some v0 → ex_kv (ex_ft ci k) v0 → ex_kv (ex_ft ci k) v → ex_P N d mid (pc + 3) ls st (ex_V (pm_set h a (.inr (ci, fs.set k v)))) Q) : ex_P N d mid pc ls (v :: .ref a :: st) S Q := by
  refine ex_hb hM hf (fun h => pm_nocall2 rfl) hr rfl rfl rfl (fun h => rfl) (fun ix' z => by cases z; exact hfr) (fun h eV W K z hz => ?_)
  obtain ⟨h', hv, e⟩ := Option.map_eq_some_iff.mp (show (pm_pf (decide (q.1.name = "<init>")) q.2.2.2.2 ix h a v).map (fun h => (st, h)) = some z from hz)
  subst e
  obtain ⟨ci', k', nb', fs, qq, e1, e2, e3, e4, e5, e6, e7, e8⟩ := ex_pf hv
  rw [hF] at e1
  cases e1
  subst e8
  exact kk h eV fs fs[k] e3 e6 (List.getElem?_eq_getElem e6) (W a ci fs e3 e4 e5 k _ (List.getElem?_eq_getElem e6)) (ex_fit e2 e7)
theorem ex_setget {fs : List Value} {k j : Nat} {v : Value} (h : k < fs.length) : (fs.set k v)[j]? = if j = k then some v else fs[j]? := by
  by_cases hj : j = k
  · subst hj; rw [if_pos rfl, List.getElem?_set_self h]
  · rw [if_neg hj, List.getElem?_set_ne (fun z => hj z.symm)]
theorem ex_putI (hM : pm_Mt mid q l) {ix a ci k : Nat} {nb : Bool} {x : Int32} (hf : pm_find l pc = some (.putfield ix, L)) (hF : pm_at pm_FL q.2.2.2.2 ix = some (ci, k, nb)) (hfr : ex_free q.2.2.2.2 ix = true) (ht : ex_ft ci k = 0) (hp : pc + 3 = pc') (kk : ex_P N d mid pc' ls st (ex_sx S a k x) Q) : ex_P N d mid pc ls (.int x :: .ref a :: st) S Q := by
  subst hp
  refine ex_put0 hM hf hF rfl hfr (fun h eV fs v0 g1 g2 g3 w w' => ?_)
  rw [ht] at w
  obtain ⟨y, rfl⟩ := w
  rw [ex_V_sx (k := k) (v := x), eV]
  · exact kk
  · intro j; rw [g1]; show ex_i (fs.set k (.int x))[j]? = if j = k then x else ex_i fs[j]?
    rw [ex_setget g2]; split <;> rfl
  · intro j; rw [g1]; show ex_l (fs.set k (.int x))[j]? = ex_l fs[j]?
    rw [ex_setget g2]; split
    · rename_i e; rw [e, g3]; rfl
    · rfl
  · intro j; rw [g1]; show ex_r (fs.set k (.int x))[j]? = ex_r fs[j]?
    rw [ex_setget g2]; split
    · rename_i e; rw [e, g3]; rfl
    · rfl
  · rw [g1]; rfl
theorem ex_putL (hM : pm_Mt mid q l) {ix a ci k : Nat} {nb : Bool} {x : Int64} (hf : pm_find l pc = some (.putfield ix, L)) (hF : pm_at pm_FL q.2.2.2.2 ix = some (ci, k, nb)) (hfr : ex_free q.2.2.2.2 ix = true) (ht : ex_ft ci k = 1) (hp : pc + 3 = pc') (kk : ex_P N d mid pc' ls st (ex_sy S a k x) Q) : ex_P N d mid pc ls (.long x :: .ref a :: st) S Q := by
  subst hp
  refine ex_put0 hM hf hF rfl hfr (fun h eV fs v0 g1 g2 g3 w w' => ?_)
  rw [ht] at w
  obtain ⟨y, rfl⟩ := w
  rw [ex_V_sy (k := k) (v := x), eV]
  · exact kk
  · intro j; rw [g1]; show ex_i (fs.set k (.long x))[j]? = ex_i fs[j]?
    rw [ex_setget g2]; split
    · rename_i e; rw [e, g3]; rfl
    · rfl
  · intro j; rw [g1]; show ex_l (fs.set k (.long x))[j]? = if j = k then x else ex_l fs[j]?
    rw [ex_setget g2]; split <;> rfl
  · intro j; rw [g1]; show ex_r (fs.set k (.long x))[j]? = ex_r fs[j]?
    rw [ex_setget g2]; split
    · rename_i e; rw [e, g3]; rfl
    · rfl
  · rw [g1]; rfl
theorem ex_putR (hM : pm_Mt mid q l) {ix a ci k : Nat} {nb : Bool} {v : Value} {x : Option Nat} (hv : v = va_rf x) (hf : pm_find l pc = some (.putfield ix, L)) (hF : pm_at pm_FL q.2.2.2.2 ix = some (ci, k, nb)) (hfr : ex_free q.2.2.2.2 ix = true) (ht : ex_ft ci k = 2) (hp : pc + 3 = pc') (kk : ex_P N d mid pc' ls st (ex_sz S a k x) Q) : ex_P N d mid pc ls (v :: .ref a :: st) S Q := by
  subst hp
  subst hv
  refine ex_put0 hM hf hF rfl hfr (fun h eV fs v0 g1 g2 g3 w w' => ?_)
  rw [ht] at w
  obtain ⟨y, rfl⟩ := w
  rw [ex_V_sz (k := k) (v := x), eV]
  · exact kk
  · intro j; rw [g1]; show ex_i (fs.set k (va_rf x))[j]? = ex_i fs[j]?
    rw [ex_setget g2]; split
    · rename_i e; rw [e, g3]; cases x <;> cases y <;> rfl
    · rfl
  · intro j; rw [g1]; show ex_l (fs.set k (va_rf x))[j]? = ex_l fs[j]?
    rw [ex_setget g2]; split
    · rename_i e; rw [e, g3]; cases x <;> cases y <;> rfl
    · rfl
  · intro j; rw [g1]; show ex_r (fs.set k (va_rf x))[j]? = if j = k then x else ex_r fs[j]?
    rw [ex_setget g2]; split
    · cases x <;> rfl
    · rfl
  · rw [g1]; rfl
theorem ex_stat (hM : pm_Mt mid q l) {ix : Nat} {x : Nat × Bool} (hf : pm_find l pc = some (.getstatic ix, L)) (hF : pm_at pm_SL q.2.2.2.2 ix = some x) (h8 : Nat.beq q.2.2.2.2 8 = false) (hp : pc + 3 = pc') (kk : ex_P N d mid pc' ls (.ref x.1 :: st) S Q) : ex_P N d mid pc ls st S Q := by
  subst hp
  have n8 : ¬ q.2.2.2.2 = 8 := Nat.ne_of_beq_eq_false h8
  refine ex_hb hM hf (fun h => pm_nocall2 rfl) (pm_noret _ (Or.inl (by show 3 ≠ 1; decide))) rfl rfl rfl (fun h => ?_) (fun ix z => by cases z) (fun h eV W K z hz => ?_)
  · show (if q.2.2.2.2 = 8 ∧ ix = 38 then some (Value.int 1 :: st) else if q.2.2.2.2 = 8 ∧ ix = 1053 then some (pm_fmt h :: st) else none) = none
    rw [if_neg (fun z => n8 z.1), if_neg (fun z => n8 z.1)]
  · have e : some (Value.ref x.1 :: st, h) = some z := by
      rw [← hz]; show _ = (pm_at pm_SL q.2.2.2.2 ix).map _; rw [hF]; rfl
    cases e
    show ex_P N d mid (pc + 3) ls (.ref x.1 :: st) (ex_V h) Q
    rw [eV]; exact kk
theorem ex_ldc (hM : pm_Mt mid q l) {ix : Nat} {x : Int32} (hf : pm_find l pc = some (.ldc ix, L)) (hF : pm_at pm_KL q.2.2.2.2 ix = some x) (h3 : Nat.beq q.2.2.2.2 3 = false) (hp : pc + 2 = pc') (kk : ex_P N d mid pc' ls (.int x :: st) S Q) : ex_P N d mid pc ls st S Q := by
  subst hp
  have n3 : ¬ q.2.2.2.2 = 3 := Nat.ne_of_beq_eq_false h3
  refine ex_hb hM hf (fun h => pm_nocall2 rfl) (pm_noret _ (Or.inl (by show 2 ≠ 1; decide))) rfl rfl rfl (fun h => ?_) (fun ix z => by cases z) (fun h eV W K z hz => ?_)
  · show (if q.2.2.2.2 = 3 then (pm_ks ix).map (fun j => Value.ref j :: st) else none) = none
    rw [if_neg n3]
  · have e : some (Value.int x :: st, h) = some z := by
      rw [← hz]; show _ = (pm_at pm_KL q.2.2.2.2 ix).map _; rw [hF]; rfl
    cases e
    show ex_P N d mid (pc + 2) ls (.int x :: st) (ex_V h) Q
    rw [eV]; exact kk
theorem ex_ldcw (hM : pm_Mt mid q l) {ix : Nat} {x : Int32} (hf : pm_find l pc = some (.ldc_w ix, L)) (hF : pm_at pm_KL q.2.2.2.2 ix = some x) (hp : pc + 3 = pc') (kk : ex_P N d mid pc' ls (.int x :: st) S Q) : ex_P N d mid pc ls st S Q := by
  subst hp
  refine ex_hb hM hf (fun h => pm_nocall2 rfl) (pm_noret _ (Or.inl (by show 3 ≠ 1; decide))) rfl rfl rfl (fun h => rfl) (fun ix z => by cases z) (fun h eV W K z hz => ?_)
  have e : some (Value.int x :: st, h) = some z := by
    rw [← hz]; show _ = (pm_at pm_KL q.2.2.2.2 ix).map _; rw [hF]; rfl
  cases e
  show ex_P N d mid (pc + 3) ls (.int x :: st) (ex_V h) Q
  rw [eV]; exact kk
theorem ex_ldc2 (hM : pm_Mt mid q l) {ix : Nat} {x : Int64} (hf : pm_find l pc = some (.ldc2_w ix, L)) (hF : pm_at pm_LL q.2.2.2.2 ix = some x) (hp : pc + 3 = pc') (kk : ex_P N d mid pc' ls (.long x :: st) S Q) : ex_P N d mid pc ls st S Q := by
  subst hp
  refine ex_hb hM hf (fun h => pm_nocall2 rfl) (pm_noret _ (Or.inl (by show 3 ≠ 1; decide))) rfl rfl rfl (fun h => rfl) (fun ix z => by cases z) (fun h eV W K z hz => ?_)
  have e : some (Value.long x :: st, h) = some z := by
    rw [← hz]; show _ = (pm_at pm_LL q.2.2.2.2 ix).map _; rw [hF]; rfl
  cases e
  show ex_P N d mid (pc + 3) ls (.long x :: st) (ex_V h) Q
  rw [eV]; exact kk
/-- a String constant -/
theorem ex_ldcs (hM : pm_Mt mid q l) {ix j : Nat} (hf : pm_find l pc = some (.ldc ix, L)) (hF : pm_at pm_KL q.2.2.2.2 ix = none) (h3 : q.2.2.2.2 = 3) (hk : pm_ks ix = some j) (hp : pc + 2 = pc') (kk : ex_P N d mid pc' ls (.ref j :: st) S Q) : ex_P N d mid pc ls st S Q := by
  subst hp
  refine ex_hp hM hf (fun h => pm_nocall2 rfl) (pm_noret _ (Or.inl (by show 2 ≠ 1; decide))) rfl rfl rfl (fun h eV W K z hz => ?_)
  rcases pm_hp_cases hz with hz | ⟨s, hz, e⟩
  · exfalso
    have e : none = some z := by
      rw [← hz]; show _ = (pm_at pm_KL q.2.2.2.2 ix).map _; rw [hF]; rfl
    cases e
  · have e2 : some (Value.ref j :: st) = some s := by
      rw [← hz]; show _ = if q.2.2.2.2 = 3 then (pm_ks ix).map (fun j => Value.ref j :: st) else none
      rw [if_pos h3, hk]; rfl
    cases e2
    subst e
    refine ⟨W, K, ?_⟩
    show ex_P N d mid (pc + 2) ls (.ref j :: st) (ex_V h) Q
    rw [eV]; exact kk
theorem ex_alen (hM : pm_Mt mid q l) {a : Nat} (hf : pm_find l pc = some (.arraylength, L)) (hp : pc + 1 = pc') (kk : ex_P N d mid pc' ls (.int (Int32.ofNat (S.2.2.2.1 a)) :: st) S Q) : ex_P N d mid pc ls (.ref a :: st) S Q := by
  subst hp
  refine ex_hp hM hf (fun h => pm_nocall2 rfl) rfl rfl rfl rfl (fun h eV W K z hz => ?_)
  have key : ∀ n t x, h.2.2 a = .inl (t, n, x) → z = (.int (Int32.ofNat n) :: st, h) → ex_W z.2 ∧ ex_K z.2 ∧ ex_P N d mid (pc + 1) ls z.1 (ex_V z.2) Q := by
    intro n t x e ez
    subst ez
    have e1 : n = S.2.2.2.1 a := by rw [← eV]; show n = ex_eL (h.2.2 a); rw [e]; rfl
    refine ⟨W, K, ?_⟩
    show ex_P N d mid (pc + 1) ls (.int (Int32.ofNat n) :: st) (ex_V h) Q
    rw [eV, e1]; exact kk
  rcases pm_hp_cases hz with hz | ⟨s, hz, e⟩
  · unfold pm_hb at hz
    dsimp only at hz
    split at hz
    · rename_i e
      split at hz
      · cases hz; exact key _ _ _ e rfl
      · cases hz
    · rename_i e
      split at hz
      · cases hz; exact key _ _ _ e rfl
      · cases hz
    · cases hz
  · unfold pm_str at hz
    dsimp only at hz
    split at hz
    · rename_i e3
      split at hz
      · cases hz; exact key _ _ _ e3 e
      · cases hz
    · cases hz
theorem ex_iald (hM : pm_Mt mid q l) {a : Nat} {j : Int32} (hf : pm_find l pc = some (.iaload, L)) (hp : pc + 1 = pc') (kk : ex_P N d mid pc' ls (.int (S.1 a j.toNatClampNeg) :: st) S Q) : ex_P N d mid pc ls (.int j :: .ref a :: st) S Q := by
  subst hp
  refine ex_hb hM hf (fun h => pm_nocall2 rfl) rfl rfl rfl rfl (fun h => rfl) (fun ix z => by cases z) (fun h eV W K z hz => ?_)
  unfold pm_hb at hz
  dsimp only at hz
  split at hz
  · rename_i n f e
    split at hz
    · cases hz
      have e1 : f j.toNatClampNeg = S.1 a j.toNatClampNeg := by rw [← eV]; show _ = ex_eX (h.2.2 a) _; rw [e]; rfl
      show ex_P N d mid (pc + 1) ls (.int (f j.toNatClampNeg) :: st) (ex_V h) Q
      rw [eV, e1]; exact kk
    · cases hz
  · cases hz
theorem ex_lald (hM : pm_Mt mid q l) {a : Nat} {j : Int32} (hf : pm_find l pc = some (.laload, L)) (hp : pc + 1 = pc') (kk : ex_P N d mid pc' ls (.long (S.2.1 a j.toNatClampNeg) :: st) S Q) : ex_P N d mid pc ls (.int j :: .ref a :: st) S Q := by
  subst hp
  refine ex_hb hM hf (fun h => pm_nocall2 rfl) rfl rfl rfl rfl (fun h => rfl) (fun ix z => by cases z) (fun h eV W K z hz => ?_)
  unfold pm_hb at hz
  dsimp only at hz
  split at hz
  · rename_i n f e
    split at hz
    · cases hz
      have e1 : f j.toNatClampNeg = S.2.1 a j.toNatClampNeg := by rw [← eV]; show _ = ex_eY (h.2.2 a) _; rw [e]; rfl
      show ex_P N d mid (pc + 1) ls (.long (f j.toNatClampNeg) :: st) (ex_V h) Q
      rw [eV, e1]; exact kk
    · cases hz
  · cases hz
theorem ex_aald (hM : pm_Mt mid q l) {a : Nat} {j : Int32} (hf : pm_find l pc = some (.aaload, L)) (hp : pc + 1 = pc') (kk : ex_P N d mid pc' ls (va_rf (S.2.2.1 a j.toNatClampNeg) :: st) S Q) : ex_P N d mid pc ls (.int j :: .ref a :: st) S Q := by
  subst hp
  refine ex_hb hM hf (fun h => pm_nocall2 rfl) rfl rfl rfl rfl (fun h => rfl) (fun ix z => by cases z) (fun h eV W K z hz => ?_)
  unfold pm_hb at hz
  dsimp only at hz
  split at hz
  · rename_i t n f e
    split at hz
    · cases hz
      have e1 : f j.toNatClampNeg = S.2.2.1 a j.toNatClampNeg := by rw [← eV]; show _ = ex_eZ (h.2.2 a) _; rw [e]; rfl
      show ex_P N d mid (pc + 1) ls (va_rf (f j.toNatClampNeg) :: st) (ex_V h) Q
      rw [eV, e1]; exact kk
    · cases hz
  · cases hz
theorem ex_bald (hM : pm_Mt mid q l) {a : Nat} {j : Int32} (hf : pm_find l pc = some (.baload, L)) (hp : pc + 1 = pc') (kk : ex_P N d mid pc' ls (.int (S.1 a j.toNatClampNeg) :: st) S Q) : ex_P N d mid pc ls (.int j :: .ref a :: st) S Q := by
  subst hp
  refine ex_hp hM hf (fun h => pm_nocall2 rfl) rfl rfl rfl rfl (fun h eV W K z hz => ?_)
  have key : ∀ n t f, h.2.2 a = .inl (t, n, .inl f) → z = (.int (f j.toNatClampNeg) :: st, h) → ex_W z.2 ∧ ex_K z.2 ∧ ex_P N d mid (pc + 1) ls z.1 (ex_V z.2) Q := by
    intro n t f e ez
    subst ez
    have e1 : f j.toNatClampNeg = S.1 a j.toNatClampNeg := by rw [← eV]; show _ = ex_eX (h.2.2 a) _; rw [e]; rfl
    refine ⟨W, K, ?_⟩
    show ex_P N d mid (pc + 1) ls (.int (f j.toNatClampNeg) :: st) (ex_V h) Q
    rw [eV, e1]; exact kk
  rcases pm_hp_cases hz with hz | ⟨s, hz, e⟩
  · unfold pm_hb at hz
    dsimp only at hz
    split at hz
    · rename_i e
      split at hz
      · cases hz; exact key _ _ _ e rfl
      · cases hz
    · rename_i e
      split at hz
      · cases hz; exact key _ _ _ e rfl
      · cases hz
    · cases hz
  · unfold pm_str at hz
    dsimp only at hz
    split at hz
    · rename_i e3
      split at hz
      · cases hz; exact key _ _ _ e3 e
      · cases hz
    · cases hz
theorem ex_upd_eX {e : pm_E} {t n k : Nat} {f : Nat → Int32} {x : Int32} (he : e = .inl (t, n, .inl f)) (j : Nat) : ex_eX (.inl (t, n, .inl (upd f k x))) j = if j = k then x else ex_eX e j := by rw [he]; rfl
theorem ex_iast (hM : pm_Mt mid q l) {a : Nat} {j x : Int32} (hf : pm_find l pc = some (.iastore, L)) (hp : pc + 1 = pc') (kk : ex_P N d mid pc' ls st (ex_sx S a j.toNatClampNeg x) Q) : ex_P N d mid pc ls (.int x :: .int j :: .ref a :: st) S Q := by
  subst hp
  refine ex_hb hM hf (fun h => pm_nocall2 rfl) rfl rfl rfl rfl (fun h => rfl) (fun ix z => by cases z) (fun h eV W K z hz => ?_)
  unfold pm_hb at hz
  dsimp only at hz
  split at hz
  · rename_i n f e
    split at hz
    · cases hz
      show ex_P N d mid (pc + 1) ls st (ex_V (pm_set h a (.inl (0, n, .inl (upd f j.toNatClampNeg x))))) Q
      rw [ex_V_sx (k := j.toNatClampNeg) (v := x) (ex_upd_eX e) (fun j => by rw [e]; rfl) (fun j => by rw [e]; rfl) (by rw [e]; rfl), eV]
      exact kk
    · cases hz
  · cases hz
theorem ex_last (hM : pm_Mt mid q l) {a : Nat} {j : Int32} {x : Int64} (hf : pm_find l pc = some (.lastore, L)) (hp : pc + 1 = pc') (kk : ex_P N d mid pc' ls st (ex_sy S a j.toNatClampNeg x) Q) : ex_P N d mid pc ls (.long x :: .int j :: .ref a :: st) S Q := by
  subst hp
  refine ex_hb hM hf (fun h => pm_nocall2 rfl) rfl rfl rfl rfl (fun h => rfl) (fun ix z => by cases z) (fun h eV W K z hz => ?_)
  unfold pm_hb at hz
  dsimp only at hz
  split at hz
  · rename_i n f e
    split at hz
    · cases hz
      show ex_P N d mid (pc + 1) ls st (ex_V (pm_set h a (.inl (1, n, .inr (.inl (vp_updL f j.toNatClampNeg x)))))) Q
      rw [ex_V_sy (k := j.toNatClampNeg) (v := x) (fun j => by rw [e]; rfl) (fun j => by rw [e]; rfl) (fun j => by rw [e]; rfl) (by rw [e]; rfl), eV]
      exact kk
    · cases hz
  · cases hz
/-- bytes of the tapes, and what is kept -/
theorem ex_bast (hM : pm_Mt mid q l) {a t jx : Nat} {j x y : Int32} (hf : pm_find l pc = some (.bastore, L)) (hx : ex_bts[jx]? = some (a, t)) (hy : (if t = 2 then x.toInt8.toInt32 else x &&& 1) = y) (hp : pc + 1 = pc') (kk : ex_P N d mid pc' ls st (ex_sx S a j.toNatClampNeg y) Q) : ex_P N d mid pc ls (.int x :: .int j :: .ref a :: st) S Q := by
  subst hp
  refine ex_hb hM hf (fun h => pm_nocall2 rfl) rfl rfl rfl rfl (fun h => rfl) (fun ix z => by cases z) (fun h eV W K z hz => ?_)
  obtain ⟨n0, y0, k0⟩ := K.2.2.2 (a, t) (List.mem_of_getElem? hx)
  have k0' : h.2.2 a = .inl (t, n0, y0) := k0
  unfold pm_hb at hz
  dsimp only at hz
  split at hz
  · rename_i n f e
    rw [e] at k0'; injection k0' with k1; injection k1 with k1 k2
    subst k1
    rw [if_pos rfl] at hy
    subst hy
    split at hz
    · cases hz
      show ex_P N d mid (pc + 1) ls st (ex_V (pm_set h a (.inl (2, n, .inl (upd f j.toNatClampNeg x.toInt8.toInt32))))) Q
      rw [ex_V_sx (k := j.toNatClampNeg) (v := x.toInt8.toInt32) (ex_upd_eX e) (fun j => by rw [e]; rfl) (fun j => by rw [e]; rfl) (by rw [e]; rfl), eV]
      exact kk
    · cases hz
  · rename_i n f e
    rw [e] at k0'; injection k0' with k1; injection k1 with k1 k2
    subst k1
    rw [if_neg (by decide)] at hy
    subst hy
    split at hz
    · cases hz
      show ex_P N d mid (pc + 1) ls st (ex_V (pm_set h a (.inl (3, n, .inl (upd f j.toNatClampNeg (x &&& 1)))))) Q
      rw [ex_V_sx (k := j.toNatClampNeg) (v := x &&& 1) (ex_upd_eX e) (fun j => by rw [e]; rfl) (fun j => by rw [e]; rfl) (by rw [e]; rfl), eV]
      exact kk
    · cases hz
  · cases hz
theorem ex_aast (hM : pm_Mt mid q l) {a : Nat} {j : Int32} {v : Value} {o : Option Nat} (hv : v = va_rf o) (hf : pm_find l pc = some (.aastore, L)) (hp : pc + 1 = pc') (kk : ex_P N d mid pc' ls st (ex_sz S a j.toNatClampNeg o) Q) : ex_P N d mid pc ls (v :: .int j :: .ref a :: st) S Q := by
  subst hp
  subst hv
  refine ex_hb hM hf (fun h => pm_nocall2 rfl) (by cases o <;> rfl) (by cases o <;> rfl) (by cases o <;> rfl) (by cases o <;> rfl) (fun h => by cases o <;> rfl) (fun ix z => by cases z) (fun h eV W K z hz => ?_)
  unfold pm_hb at hz
  dsimp only at hz
  split at hz
  · rename_i t n f e
    have key : z = (st, pm_set h a (.inl (t, n, .inr (.inr (.inr (.inr (va_up f j.toNatClampNeg o))))))) → ex_P N d mid (pc + 1) ls z.1 (ex_V z.2) Q := by
      intro ez
      subst ez
      show ex_P N d mid (pc + 1) ls st (ex_V (pm_set h a (.inl (t, n, .inr (.inr (.inr (.inr (va_up f j.toNatClampNeg o)))))))) Q
      rw [ex_V_sz (k := j.toNatClampNeg) (v := o) (fun j => by rw [e]; rfl) (fun j => by rw [e]; rfl) (fun j => by rw [e]; rfl) (by rw [e]; rfl), eV]
      exact kk
    split at hz
    · cases o with
      | none => dsimp only [va_rf] at hz; cases hz; exact key rfl
      | some b =>
        dsimp only [va_rf] at hz
        split at hz
        · split at hz
          · cases hz; exact key rfl
          · cases hz
        · cases hz
    · cases hz
  · cases hz
theorem ex_newa (hM : pm_Mt mid q l) {at_ : ArrayType} {k : Nat} {n : Int32} (hf : pm_find l pc = some (.newarray at_, L)) (hk : pm_aty at_ = some k) (hp : pc + 2 = pc') (kk : ex_P N d mid pc' ls (.ref S.2.2.2.2 :: st) (ex_new S n.toNatClampNeg) Q) : ex_P N d mid pc ls (.int n :: st) S Q := by
  subst hp
  refine ex_hb hM hf (fun h => pm_nocall2 rfl) rfl rfl rfl rfl (fun h => rfl) (fun ix z => by cases z) (fun h eV W K z hz => ?_)
  obtain ⟨k', e1, e⟩ := Option.bind_eq_some_iff.mp (show (pm_aty at_).bind _ = some z from hz)
  rw [hk] at e1
  cases e1
  split at e
  · cases e
    have et : h.1 = S.2.2.2.2 := by rw [← eV]; rfl
    show ex_P N d mid (pc + 2) ls (.ref h.1 :: st) (ex_V (pm_push h (.inl (k, pm_newty k n.toNatClampNeg)) n.toNatClampNeg)) Q
    rw [et, ex_V_push (n := n.toNatClampNeg), eV]
    · exact kk
    · intro j; unfold pm_newty; split <;> rfl
    · intro j; unfold pm_newty; split <;> rfl
    · intro j; unfold pm_newty; split <;> rfl
    · unfold pm_newty; split <;> rfl
  · cases e
theorem ex_newq (hM : pm_Mt mid q l) {ix ci k : Nat} {n : Int32} (hf : pm_find l pc = some (.anewarray ix, L)) (hF : pm_at pm_NL q.2.2.2.2 ix = some ci) (hk : pm_oty ci = some k) (hp : pc + 3 = pc') (kk : ex_P N d mid pc' ls (.ref S.2.2.2.2 :: st) (ex_new S n.toNatClampNeg) Q) : ex_P N d mid pc ls (.int n :: st) S Q := by
  subst hp
  refine ex_hb hM hf (fun h => pm_nocall2 rfl) rfl rfl rfl rfl (fun h => rfl) (fun ix z => by cases z) (fun h eV W K z hz => ?_)
  obtain ⟨ci', e1, e⟩ := Option.bind_eq_some_iff.mp (show (pm_at pm_NL q.2.2.2.2 ix).bind _ = some z from hz)
  rw [hF] at e1
  cases e1
  obtain ⟨k', e1, e⟩ := Option.bind_eq_some_iff.mp e
  rw [hk] at e1
  cases e1
  split at e
  · cases e
    have et : h.1 = S.2.2.2.2 := by rw [← eV]; rfl
    show ex_P N d mid (pc + 3) ls (.ref h.1 :: st) (ex_V (pm_push h (.inl (k, pm_newty k n.toNatClampNeg)) n.toNatClampNeg)) Q
    rw [et, ex_V_push (n := n.toNatClampNeg), eV]
    · exact kk
    · intro j; unfold pm_newty; split <;> rfl
    · intro j; unfold pm_newty; split <;> rfl
    · intro j; unfold pm_newty; split <;> rfl
    · unfold pm_newty; split <;> rfl
  · cases e
theorem ex_dfI (ty : FieldType) : ex_i (some (defaultValue ty)) = 0 ∧ ex_l (some (defaultValue ty)) = 0 ∧ ex_r (some (defaultValue ty)) = none := by cases ty <;> exact ⟨rfl, rfl, rfl⟩
theorem ex_new1 (hM : pm_Mt mid q l) {ix ci : Nat} {qq : vw_C} (hf : pm_find l pc = some (.new ix, L)) (hF : pm_at pm_NL q.2.2.2.2 ix = some ci) (hk : pm_cl[ci]? = some qq) (hp : pc + 3 = pc') (kk : ex_P N d mid pc' ls (.ref S.2.2.2.2 :: st) (ex_new S 0) Q) : ex_P N d mid pc ls st S Q := by
  subst hp
  refine ex_hb hM hf (fun h => pm_nocall2 rfl) (pm_noret _ (Or.inl (by show 3 ≠ 1; decide))) rfl rfl rfl (fun h => rfl) (fun ix z => by cases z) (fun h eV W K z hz => ?_)
  obtain ⟨ci', e1, e⟩ := Option.bind_eq_some_iff.mp (show (pm_at pm_NL q.2.2.2.2 ix).bind _ = some z from hz)
  rw [hF] at e1
  cases e1
  obtain ⟨k', e1, e⟩ := Option.map_eq_some_iff.mp e
  rw [hk] at e1
  cases e1
  cases e
  have et : h.1 = S.2.2.2.2 := by rw [← eV]; rfl
  show ex_P N d mid (pc + 3) ls (.ref h.1 :: st) (ex_V (pm_push h (.inr (ci, (List.range qq.2.2).map (fun k => defaultValue (pm_ty qq.2.1 k)))) qq.2.2)) Q
  have key : ∀ j : Nat, ((List.range qq.2.2).map (fun k => defaultValue (pm_ty qq.2.1 k)))[j]? = none ∨ ∃ ty, ((List.range qq.2.2).map (fun k => defaultValue (pm_ty qq.2.1 k)))[j]? = some (defaultValue ty) := by
    intro j
    rw [List.getElem?_map]
    cases (List.range qq.2.2)[j]? with
    | none => exact Or.inl rfl
    | some k => exact Or.inr ⟨_, rfl⟩
  rw [et, ex_V_push (n := 0), eV]
  · exact kk
  · intro j; show ex_i ((List.range qq.2.2).map (fun k => defaultValue (pm_ty qq.2.1 k)))[j]? = 0
    rcases key j with e | ⟨ty, e⟩ <;> rw [e]
    · rfl
    · exact (ex_dfI ty).1
  · intro j; show ex_l ((List.range qq.2.2).map (fun k => defaultValue (pm_ty qq.2.1 k)))[j]? = 0
    rcases key j with e | ⟨ty, e⟩ <;> rw [e]
    · rfl
    · exact (ex_dfI ty).2.1
  · intro j; show ex_r ((List.range qq.2.2).map (fun k => defaultValue (pm_ty qq.2.1 k)))[j]? = none
    rcases key j with e | ⟨ty, e⟩ <;> rw [e]
    · rfl
    · exact (ex_dfI ty).2.2
  · rfl
/-- Object() -/
theorem ex_obj (hM : pm_Mt mid q l) {ix a : Nat} (hf : pm_find l pc = some (.invokespecial ix, L)) (hn : pm_at pm_CL q.2.2.2.2 ix = none) (hp : pc + 3 = pc') (kk : ex_P N d mid pc' ls st S Q) : ex_P N d mid pc ls (.ref a :: st) S Q := by
  subst hp
  refine ex_hb hM hf (fun h => pm_nocall3 rfl hn) rfl rfl rfl rfl (fun h => rfl) (fun ix z => by cases z) (fun h eV W K z hz => ?_)
  obtain ⟨k, e1, e⟩ := Option.bind_eq_some_iff.mp (show (pm_at pm_XL q.2.2.2.2 ix).bind _ = some z from hz)
  split at e
  · cases e
    show ex_P N d mid (pc + 3) ls st (ex_V h) Q
    rw [eV]; exact kk
  · cases e
theorem ex_hbm {ini : Bool} {c ix : Nat} {h : pm_H} {x y : Int32} (hX : pm_at pm_XL c ix = some 3) : pm_hb ini c (.invokestatic ix) (.int y :: .int x :: st) h = if (st.map fun v => v.category).sum ≤ 8 then some (.int (if y < x then y else x) :: st, h) else none := by
  show (pm_at pm_XL c ix).bind _ = _
  rw [hX]; rfl
theorem ex_hbx {ini : Bool} {c ix : Nat} {h : pm_H} {x y : Int32} (hX : pm_at pm_XL c ix = some 4) : pm_hb ini c (.invokestatic ix) (.int y :: .int x :: st) h = if (st.map fun v => v.category).sum ≤ 8 then some (.int (if x < y then y else x) :: st, h) else none := by
  show (pm_at pm_XL c ix).bind _ = _
  rw [hX]; rfl
theorem ex_hbl {ini : Bool} {c ix : Nat} {h : pm_H} {x y : Int64} (hX : pm_at pm_XL c ix = some 5) : pm_hb ini c (.invokestatic ix) (.long y :: .long x :: st) h = if (st.map fun v => v.category).sum ≤ 8 then some (.long (if y < x then y else x) :: st, h) else none := by
  show (pm_at pm_XL c ix).bind _ = _
  rw [hX]; rfl
theorem ex_min (hM : pm_Mt mid q l) {ix : Nat} {x y : Int32} (hf : pm_find l pc = some (.invokestatic ix, L)) (hn : pm_at pm_CL q.2.2.2.2 ix = none) (hX : pm_at pm_XL q.2.2.2.2 ix = some 3) (hp : pc + 3 = pc') (kk : ex_P N d mid pc' ls (.int (if y < x then y else x) :: st) S Q) : ex_P N d mid pc ls (.int y :: .int x :: st) S Q := by
  subst hp
  refine ex_hb hM hf (fun h => pm_nocall3 rfl hn) rfl rfl rfl rfl (fun h => rfl) (fun ix z => by cases z) (fun h eV W K z hz => ?_)
  rw [ex_hbm hX] at hz
  split at hz
  · cases hz
    show ex_P N d mid (pc + 3) ls (.int (if y < x then y else x) :: st) (ex_V h) Q
    rw [eV]; exact kk
  · cases hz
theorem ex_max (hM : pm_Mt mid q l) {ix : Nat} {x y : Int32} (hf : pm_find l pc = some (.invokestatic ix, L)) (hn : pm_at pm_CL q.2.2.2.2 ix = none) (hX : pm_at pm_XL q.2.2.2.2 ix = some 4) (hp : pc + 3 = pc') (kk : ex_P N d mid pc' ls (.int (if x < y then y else x) :: st) S Q) : ex_P N d mid pc ls (.int y :: .int x :: st) S Q := by
  subst hp
  refine ex_hb hM hf (fun h => pm_nocall3 rfl hn) rfl rfl rfl rfl (fun h => rfl) (fun ix z => by cases z) (fun h eV W K z hz => ?_)
  rw [ex_hbx hX] at hz
  split at hz
  · cases hz
    show ex_P N d mid (pc + 3) ls (.int (if x < y then y else x) :: st) (ex_V h) Q
    rw [eV]; exact kk
  · cases hz
theorem ex_minl (hM : pm_Mt mid q l) {ix : Nat} {x y : Int64} (hf : pm_find l pc = some (.invokestatic ix, L)) (hn : pm_at pm_CL q.2.2.2.2 ix = none) (hX : pm_at pm_XL q.2.2.2.2 ix = some 5) (hp : pc + 3 = pc') (kk : ex_P N d mid pc' ls (.long (if y < x then y else x) :: st) S Q) : ex_P N d mid pc ls (.long y :: .long x :: st) S Q := by
  subst hp
  refine ex_hb hM hf (fun h => pm_nocall3 rfl hn) rfl rfl rfl rfl (fun h => rfl) (fun ix z => by cases z) (fun h eV W K z hz => ?_)
  rw [ex_hbl hX] at hz
  split at hz
  · cases hz
    show ex_P N d mid (pc + 3) ls (.long (if y < x then y else x) :: st) (ex_V h) Q
    rw [eV]; exact kk
  · cases hz
theorem ex_V_cp {h : pm_H} {a b sp dp n t n1 : Nat} {f g : Nat → Int32} {t0 n0 : Nat} (ha : h.2.2 a = .inl (t0, n0, .inl f)) (hb : h.2.2 b = .inl (t, n1, .inl g)) : ex_V (pm_set h b (.inl (t, n1, .inl (va_cpy f g sp dp n)))) = ex_cp (ex_V h) a sp b dp n := by
  refine ex_V_set (fun c j => ?_) (fun c j => ?_) (fun c j => ?_) (fun c => ?_) rfl
  · show (if c = b ∧ dp ≤ j ∧ j < dp + n then ex_eX (h.2.2 a) (sp + (j - dp)) else ex_eX (h.2.2 c) j) = _
    by_cases hc : c = b
    · subst hc; rw [if_pos rfl, ha, hb]; show _ = (if dp ≤ j ∧ j < dp + n then f (sp + (j - dp)) else g j)
      by_cases hj : dp ≤ j ∧ j < dp + n
      · rw [if_pos ⟨rfl, hj⟩, if_pos hj]; rfl
      · rw [if_neg (fun z => hj z.2), if_neg hj]; rfl
    · rw [if_neg hc, if_neg (fun z => hc z.1)]
  · show ex_eY (h.2.2 c) j = _
    by_cases hc : c = b
    · subst hc; rw [if_pos rfl, hb]; rfl
    · rw [if_neg hc]
  · show ex_eZ (h.2.2 c) j = _
    by_cases hc : c = b
    · subst hc; rw [if_pos rfl, hb]; rfl
    · rw [if_neg hc]
  · show ex_eL (h.2.2 c) = _
    by_cases hc : c = b
    · subst hc; rw [if_pos rfl, hb]; rfl
    · rw [if_neg hc]
def ex_cpf (h : pm_H) (a b : Nat) (sp dp n : Int32) (st : List Value) : Option (List Value × pm_H) := match h.2.2 a, h.2.2 b with
  | .inl (0, n0, .inl f), .inl (0, n1, .inl g) => if 16 ≤ a ∧ a < h.1 ∧ 16 ≤ b ∧ b < h.1 ∧ ¬ sp < 0 ∧ ¬ dp < 0 ∧ ¬ n < 0 ∧ sp.toNatClampNeg + n.toNatClampNeg ≤ n0 ∧ dp.toNatClampNeg + n.toNatClampNeg ≤ n1 ∧ (st.map fun v => v.category).sum ≤ 8 then some (st, pm_set h b (.inl (0, n1, .inl (va_cpy f g sp.toNatClampNeg dp.toNatClampNeg n.toNatClampNeg)))) else none
  | .inl (2, n0, .inl f), .inl (2, n1, .inl g) => if 16 ≤ a ∧ a < h.1 ∧ 16 ≤ b ∧ b < h.1 ∧ ¬ sp < 0 ∧ ¬ dp < 0 ∧ ¬ n < 0 ∧ sp.toNatClampNeg + n.toNatClampNeg ≤ n0 ∧ dp.toNatClampNeg + n.toNatClampNeg ≤ n1 ∧ (st.map fun v => v.category).sum ≤ 8 then some (st, pm_set h b (.inl (2, n1, .inl (va_cpy f g sp.toNatClampNeg dp.toNatClampNeg n.toNatClampNeg)))) else none
  | _, _ => none
theorem ex_hbc {ini : Bool} {c ix a b : Nat} {h : pm_H} {n dp sp : Int32} (hX : pm_at pm_XL c ix = some 1) : pm_hb ini c (.invokestatic ix) (.int n :: .int dp :: .ref b :: .int sp :: .ref a :: st) h = ex_cpf h a b sp dp n st := by
  show (pm_at pm_XL c ix).bind _ = _
  rw [hX]; rfl
theorem ex_copy (hM : pm_Mt mid q l) {ix a b : Nat} {n dp sp : Int32} (hf : pm_find l pc = some (.invokestatic ix, L)) (hn : pm_at pm_CL q.2.2.2.2 ix = none) (hX : pm_at pm_XL q.2.2.2.2 ix = some 1) (hp : pc + 3 = pc') (kk : ex_P N d mid pc' ls st (ex_cp S a sp.toNatClampNeg b dp.toNatClampNeg n.toNatClampNeg) Q) : ex_P N d mid pc ls (.int n :: .int dp :: .ref b :: .int sp :: .ref a :: st) S Q := by
  subst hp
  refine ex_hb hM hf (fun h => pm_nocall3 rfl hn) rfl rfl rfl rfl (fun h => rfl) (fun ix z => by cases z) (fun h eV W K z hz => ?_)
  rw [ex_hbc hX] at hz
  unfold ex_cpf at hz
  split at hz
  · rename_i ea eb
    split at hz
    · cases hz
      show ex_P N d mid (pc + 3) ls st (ex_V (pm_set h b _)) Q
      rw [ex_V_cp ea eb, eV]; exact kk
    · cases hz
  · rename_i ea eb
    split at hz
    · cases hz
      show ex_P N d mid (pc + 3) ls st (ex_V (pm_set h b _)) Q
      rw [ex_V_cp ea eb, eV]; exact kk
    · cases hz
  · cases hz
theorem ex_getI' (hM : pm_Mt mid q l) {ix a ci k : Nat} {nb : Bool} {v : Int32} (hf : pm_find l pc = some (.getfield ix, L)) (hF : pm_at pm_FL q.2.2.2.2 ix = some (ci, k, nb)) (h8 : Nat.beq q.2.2.2.2 8 = false) (ht : ex_ft ci k = 0) (hp : pc + 3 = pc') (hv : S.1 a k = v) (kk : ex_P N d mid pc' ls (.int v :: st) S Q) : ex_P N d mid pc ls (.ref a :: st) S Q := ex_getI hM hf hF h8 ht hp (by rw [hv]; exact kk)
theorem ex_getL' (hM : pm_Mt mid q l) {ix a ci k : Nat} {nb : Bool} {v : Int64} (hf : pm_find l pc = some (.getfield ix, L)) (hF : pm_at pm_FL q.2.2.2.2 ix = some (ci, k, nb)) (h8 : Nat.beq q.2.2.2.2 8 = false) (ht : ex_ft ci k = 1) (hp : pc + 3 = pc') (hv : S.2.1 a k = v) (kk : ex_P N d mid pc' ls (.long v :: st) S Q) : ex_P N d mid pc ls (.ref a :: st) S Q := ex_getL hM hf hF h8 ht hp (by rw [hv]; exact kk)
theorem ex_getR' (hM : pm_Mt mid q l) {ix a ci k : Nat} {nb : Bool} {v : Option Nat} (hf : pm_find l pc = some (.getfield ix, L)) (hF : pm_at pm_FL q.2.2.2.2 ix = some (ci, k, nb)) (h8 : Nat.beq q.2.2.2.2 8 = false) (ht : ex_ft ci k = 2) (hp : pc + 3 = pc') (hv : S.2.2.1 a k = v) (kk : ex_P N d mid pc' ls (va_rf v :: st) S Q) : ex_P N d mid pc ls (.ref a :: st) S Q := ex_getR hM hf hF h8 ht hp (by rw [hv]; exact kk)
theorem ex_iald' (hM : pm_Mt mid q l) {a : Nat} {j v : Int32} (hf : pm_find l pc = some (.iaload, L)) (hp : pc + 1 = pc') (hv : S.1 a j.toNatClampNeg = v) (kk : ex_P N d mid pc' ls (.int v :: st) S Q) : ex_P N d mid pc ls (.int j :: .ref a :: st) S Q := ex_iald hM hf hp (by rw [hv]; exact kk)
theorem ex_bald' (hM : pm_Mt mid q l) {a : Nat} {j v : Int32} (hf : pm_find l pc = some (.baload, L)) (hp : pc + 1 = pc') (hv : S.1 a j.toNatClampNeg = v) (kk : ex_P N d mid pc' ls (.int v :: st) S Q) : ex_P N d mid pc ls (.int j :: .ref a :: st) S Q := ex_bald hM hf hp (by rw [hv]; exact kk)
theorem ex_lald' (hM : pm_Mt mid q l) {a : Nat} {j : Int32} {v : Int64} (hf : pm_find l pc = some (.laload, L)) (hp : pc + 1 = pc') (hv : S.2.1 a j.toNatClampNeg = v) (kk : ex_P N d mid pc' ls (.long v :: st) S Q) : ex_P N d mid pc ls (.int j :: .ref a :: st) S Q := ex_lald hM hf hp (by rw [hv]; exact kk)
theorem ex_aald' (hM : pm_Mt mid q l) {a : Nat} {j : Int32} {v : Option Nat} (hf : pm_find l pc = some (.aaload, L)) (hp : pc + 1 = pc') (hv : S.2.2.1 a j.toNatClampNeg = v) (kk : ex_P N d mid pc' ls (va_rf v :: st) S Q) : ex_P N d mid pc ls (.int j :: .ref a :: st) S Q := ex_aald hM hf hp (by rw [hv]; exact kk)
/-- tables and words that were there before -/
def ex_st (a j : Nat) : Int32 := ex_eX (pm_f0 false 0 (fun _ => 0) a) j
def ex_KV (S : ex_S) : Prop := ∀ a, 1 ≤ a → a < 15 → (∀ j, S.1 a j = ex_st a j) ∧ S.2.2.2.1 a = ex_eL (pm_f0 false 0 (fun _ => 0) a)
theorem ex_kw (k : ex_KV S → ex_P N d mid pc ls st S Q) : ex_P N d mid pc ls st S Q := by
  intro h eV W K n hn x hx
  refine k (fun a a1 a2 => ?_) h eV W K n hn x hx
  subst eV
  refine ⟨fun j => ?_, ?_⟩
  · show ex_eX (h.2.2 a) j = _
    rw [K.1 a a1 a2]; rfl
  · show ex_eL (h.2.2 a) = _
    rw [K.1 a a1 a2]
theorem ex_iaK (hM : pm_Mt mid q l) {a : Nat} {j v : Int32} (hf : pm_find l pc = some (.iaload, L)) (h1 : 1 ≤ a) (h2 : a < 15) (hp : pc + 1 = pc') (hv : ex_st a j.toNatClampNeg = v) (kk : ex_P N d mid pc' ls (.int v :: st) S Q) : ex_P N d mid pc ls (.int j :: .ref a :: st) S Q := ex_kw (fun kv => ex_iald hM hf hp (by rw [(kv a h1 h2).1, hv]; exact kk))
/-- a road that only throws -/
theorem ex_dead (hM : pm_Mt mid q l) (hf : pm_find l pc = none) : ex_P N d mid pc ls st S Q := by
  intro h eV W K n hn x hx
  match n, hn, hx with
  | 0, _, hx => cases hx
  | n + 1, hn, hx =>
    unfold pm_run at hx
    have e : pm_code mid pc = none := by unfold pm_code; rw [hM.2]; exact hf
    rw [hM.1, e] at hx
    cases hx
theorem ex_retI (hM : pm_Mt mid q l) {v : Int32} (hf : pm_find l pc = some (.ireturn, L)) (k : Q (some (.int v)) S) : ex_P N d mid pc ls [.int v] S Q := by
  intro h eV W K n hn x hx
  match n, hn, hx with
  | 0, _, hx => cases hx
  | n + 1, hn, hx =>
    unfold pm_run at hx
    rw [hM.1, hM.code hf] at hx
    dsimp only at hx
    have e : pm_ret q.2.2.2.1 .ireturn [.int v] = some (some (.int v)) ∨ pm_ret q.2.2.2.1 .ireturn [.int v] = none := by
      cases q.2.2.2.1 with
      | none => exact Or.inr rfl
      | some ty =>
        show (if _ then _ else _) = _ ∨ (if _ then _ else _) = _
        split
        · exact Or.inl rfl
        · exact Or.inr rfl
    rcases e with e | e
    · rw [e] at hx
      dsimp only at hx
      cases hx
      refine ⟨W, K, ?_⟩
      show Q (some (.int v)) (ex_V h)
      rw [eV]; exact k
    · rw [e] at hx
      dsimp only at hx
      rw [pm_nocall2 rfl] at hx
      dsimp only at hx
      have e2 : pm_step (decide (q.1.name = "<init>")) q.2.2.2.2 .ireturn pc ls [.int v] h = none := rfl
      rw [e2] at hx
      cases hx
theorem ex_tswD {dd lo hi : Int} {offs : Array Int} {x : Int32} {z : Nat × List Value} (hz : pm_br (.tableswitch dd lo hi offs) pc (.int x :: st) = some z) (hx : x.toInt < lo ∨ hi < x.toInt) : (pm_to pc dd).map (fun t => (t, st)) = some z := by
  have e : (if x.toInt < lo ∨ hi < x.toInt then (pm_to pc dd).map (fun t => (t, st)) else (offs[(x.toInt - lo).toNat]?).bind (fun o => (pm_to pc o).map (fun t => (t, st)))) = some z := hz
  rw [if_pos hx] at e; exact e
theorem ex_lswD {dd a b oa ob : Int} {x : Int32} {z : Nat × List Value} (hz : pm_br (.lookupswitch dd #[(a, oa), (b, ob)]) pc (.int x :: st) = some z) (hx : ¬ a = x.toInt ∧ ¬ b = x.toInt) : (pm_to pc dd).map (fun t => (t, st)) = some z := by
  have e : (if ((#[(a, oa), (b, ob)] : Array (Int × Int)).toList.zip ((#[(a, oa), (b, ob)] : Array (Int × Int)).toList.drop 1)).all (fun (a, next) => a.1 < next.1) = true then (pm_to pc (Op.lookupswitch.offset [(a, oa), (b, ob)] dd x.toInt)).map (fun t => (t, st)) else none) = some z := hz
  split at e
  · rw [Op.lookupswitch.offset_cons, if_neg hx.1, Op.lookupswitch.offset_cons, if_neg hx.2, Op.lookupswitch.offset_nil] at e; exact e
  · cases e
/-- what a String constant is made of -/
theorem ex_strg (hM : pm_Mt mid q l) {ix a : Nat} {v : Value} (hf : pm_find l pc = some (.getfield ix, L)) (hc : q.2.2.2.2 = 8) (hF : pm_at pm_FL 8 ix = none) (hv : (ix = 9 ∧ v = .ref (a + 4)) ∨ (ix = 15 ∧ v = .int 0)) (hp : pc + 3 = pc') (kk : ex_P N d mid pc' ls (v :: st) S Q) : ex_P N d mid pc ls (.ref a :: st) S Q := by
  subst hp
  refine ex_hp hM hf (fun h => pm_nocall2 rfl) rfl rfl rfl rfl (fun h eV W K z hz => ?_)
  rcases pm_hp_cases hz with hz | ⟨s, hz, e⟩
  · exfalso
    have e : none = some z := by
      rw [← hz]; show _ = (pm_gf q.2.2.2.2 ix h a).map _
      unfold pm_gf; rw [hc, hF]; rfl
    cases e
  · have e2 : (if q.2.2.2.2 = 8 ∧ 7 ≤ a ∧ a < 11 ∧ ix = 9 then some (Value.ref (a + 4) :: st) else if q.2.2.2.2 = 8 ∧ 7 ≤ a ∧ a < 11 ∧ ix = 15 then some (Value.int 0 :: st) else none) = some s := hz
    subst e
    refine ⟨W, K, ?_⟩
    show ex_P N d mid (pc + 3) ls s (ex_V h) Q
    rw [eV]
    rcases hv with ⟨rfl, rfl⟩ | ⟨rfl, rfl⟩
    · split at e2
      · cases e2; exact kk
      · rw [if_neg (fun w => absurd w.2.2.2 (by decide))] at e2; cases e2
    · rw [if_neg (fun w => absurd w.2.2.2 (by decide))] at e2
      split at e2
      · cases e2; exact kk
      · cases e2
theorem ex_strs (hM : pm_Mt mid q l) {ix : Nat} (hf : pm_find l pc = some (.getstatic ix, L)) (hc : q.2.2.2.2 = 8) (hF : pm_at pm_SL 8 ix = none) (hp : pc + 3 = pc') (k1 : ix = 38 → ex_P N d mid pc' ls (.int 1 :: st) S Q) (k2 : ix = 1053 → ∀ v, (v = .null ∨ v = .ref 15) → ex_P N d mid pc' ls (v :: st) S Q) : ex_P N d mid pc ls st S Q := by
  subst hp
  refine ex_hp hM hf (fun h => pm_nocall2 rfl) (pm_noret _ (Or.inl (by show 3 ≠ 1; decide))) rfl rfl rfl (fun h eV W K z hz => ?_)
  rcases pm_hp_cases hz with hz | ⟨s, hz, e⟩
  · exfalso
    have e : none = some z := by
      rw [← hz]; show _ = (pm_at pm_SL q.2.2.2.2 ix).map _
      rw [hc, hF]; rfl
    cases e
  · have e2 : (if q.2.2.2.2 = 8 ∧ ix = 38 then some (Value.int 1 :: st) else if q.2.2.2.2 = 8 ∧ ix = 1053 then some (pm_fmt h :: st) else none) = some s := hz
    subst e
    refine ⟨W, K, ?_⟩
    show ex_P N d mid (pc + 3) ls s (ex_V h) Q
    rw [eV]
    split at e2
    · rename_i w; cases e2; exact k1 w.2
    · split at e2
      · rename_i w; cases e2
        refine k2 w.2 _ ?_
        unfold pm_fmt; split
        · exact Or.inl rfl
        · exact Or.inr rfl
      · cases e2
theorem ex_noX {ini : Bool} {c ix : Nat} {h : pm_H} (hi : pm_cix i = some ix) (hX : pm_at pm_XL c ix = none) : pm_step ini c i pc ls st h = none := by
  have fin : ∀ j : Instr, pm_op j st = none → pm_lo j ls st = none → pm_br j pc st = none → pm_hb ini c j st h = none → pm_str c j st h = none → pm_step ini c j pc ls st h = none := by
    intro j a1 a2 a3 a4 a5
    have a6 : pm_hp ini c j st h = none := by unfold pm_hp; rw [a4, a5]; rfl
    unfold pm_step
    rw [a1, a2, a3, a6]
  unfold pm_cix at hi
  split at hi
  · cases hi
    refine fin _ rfl rfl rfl ?_ rfl
    cases st with
    | nil => rfl
    | cons v st => cases v <;> first | (show (pm_at pm_XL c ix).bind _ = none; rw [hX]; rfl) | rfl
  · cases hi
    refine fin _ rfl rfl rfl ?_ rfl
    cases st with
    | nil => rfl
    | cons v st => cases v <;> first | (show (pm_at pm_XL c ix).bind _ = none; rw [hX]; rfl) | rfl
  · cases hi
    refine fin _ rfl rfl rfl ?_ rfl
    show (pm_at pm_XL c ix).bind _ = none
    rw [hX]; rfl
  · cases hi
/-- a call of what is not there -/
theorem ex_nc (hM : pm_Mt mid q l) {ix : Nat} (hf : pm_find l pc = some (i, L)) (hi : pm_cix i = some ix) (hC : pm_at pm_CL q.2.2.2.2 ix = none) (hX : pm_at pm_XL q.2.2.2.2 ix = none) : ex_P N d mid pc ls st S Q := by
  refine (ex_step hM hf (pm_noret _ (Or.inl ?_)) (fun h => pm_nocall3 hi hC) (fun h eV W K z hz => ?_)).weak
  · unfold pm_cix at hi
    split at hi <;> first | (intro hh; cases hh; done) | cases hi
  · rw [ex_noX hi hX] at hz; cases hz
/-- a call of a method of the list -/
theorem ex_call (hM : pm_Mt mid q l) {ix callee np kd : Nat} {ra rest ls' : List Value} {qc : pm_M} {lc : List (Nat × Instr × Nat)} (hf : pm_find l pc = some (i, L)) (hi : pm_ix i kd = some ix) (hC : pm_at pm_CL q.2.2.2.2 ix = some (callee, np, kd)) (hX : pm_at pm_XL q.2.2.2.2 ix = none) (hMc : pm_Mt callee qc lc) (hst : st = ra ++ rest) (hl : ra.length = (if kd = 2 ∨ kd = 5 then np else np + 1)) (he : pm_ent qc.2.2.1 ra.reverse = some ls') (hp : pc + 3 = pc') (kk : ∀ d', ex_P N d' callee 0 ls' [] S (fun r S' => ex_P N d mid pc' ls (r.toList ++ rest) S' Q)) : ex_P N d mid pc ls st S Q := by
  subst hp
  intro h eV W K n hn x hx
  match n, hn, hx with
  | 0, _, hx => cases hx
  | n + 1, hn, hx =>
    unfold pm_run at hx
    rw [hM.1, hM.code hf] at hx
    dsimp only at hx
    rw [pm_noret_call hi] at hx
    dsimp only at hx
    split at hx
    · rename_i callee' args rest' hc
      have hcix : pm_cix i = some ix := by
        unfold pm_ix at hi
        split at hi <;> first | exact hi | cases hi
      obtain ⟨rfl, rfl, rfl⟩ : callee' = callee ∧ args = ra.reverse ∧ rest' = rest := by
        unfold pm_call at hc
        rw [hcix] at hc
        obtain ⟨ix', c1, hc⟩ := Option.bind_eq_some_iff.mp hc
        cases c1
        obtain ⟨y, c1, hc⟩ := Option.bind_eq_some_iff.mp hc
        rw [hC] at c1
        cases c1
        obtain ⟨q', c1, hc⟩ := Option.bind_eq_some_iff.mp hc
        dsimp only at hc
        generalize (if kd = 2 ∨ kd = 5 then np else np + 1) = kk0 at hc hl
        split at hc
        · cases hc
          rw [hst, ← hl, List.take_left, List.drop_left]
          exact ⟨rfl, rfl, rfl⟩
        · cases hc
      cases d with
      | zero => rw [hMc.1] at hx; cases hx
      | succ d' =>
        rw [hMc.1] at hx
        dsimp only at hx
        rw [he] at hx
        dsimp only at hx
        split at hx
        · rename_i r h' hr
          obtain ⟨W', K', P'⟩ := kk d' h eV W K n (by omega) _ hr
          exact P' h' rfl W' K' n (by omega) x hx
        · cases hx
    · have hcix : pm_cix i = some ix := by
        unfold pm_ix at hi
        split at hi <;> first | exact hi | cases hi
      rw [ex_noX hcix hX] at hx
      cases hx
end EXR
