set_option maxRecDepth 100000 in
theorem pm_len_all : ∀ l ∈ pm_is, ∀ x ∈ l, pm_len x.2.1 = 0 ∨ x.2.2 = pm_len x.2.1 := by decide +kernel
theorem pm_len_ok {mid pc : Nat} {i : Instr} {L : Nat} (h : pm_code mid pc = some (i, L)) : pm_len i = 0 ∨ L = pm_len i := by
  unfold pm_code at h
  cases hl : pm_is[mid]? with
  | none => rw [hl] at h; cases h
  | some l =>
    rw [hl] at h
    exact pm_len_all l (List.mem_of_getElem? hl) _ (pm_find_mem _ _ _ h)
/-- the run only makes cells -/
theorem pm_hb_mono {ini : Bool} {c : Nat} {i : Instr} {st : List Value} {h : pm_H} {z : List Value × pm_H} (hz : pm_hb ini c i st h = some z) : h.1 ≤ z.2.1 ∧ h.2.1 ≤ z.2.2.1 := by
  have t0 : h.1 ≤ h.1 ∧ h.2.1 ≤ h.2.1 := ⟨Nat.le_refl _, Nat.le_refl _⟩
  have t1 : ∀ (a : Nat) (x : pm_E), h.1 ≤ (pm_set h a x).1 ∧ h.2.1 ≤ (pm_set h a x).2.1 := fun a x => t0
  have t2 : ∀ (x : pm_E) (k : Nat), h.1 ≤ (pm_push h x k).1 ∧ h.2.1 ≤ (pm_push h x k).2.1 := fun x k => ⟨Nat.le_succ _, Nat.le_add_right _ _⟩
  unfold pm_hb at hz
  split at hz
  · obtain ⟨v, -, rfl⟩ := Option.map_eq_some_iff.mp hz; exact t0
  · obtain ⟨h', h1, rfl⟩ := Option.map_eq_some_iff.mp hz
    unfold pm_pf at h1
    obtain ⟨x, -, h1⟩ := Option.bind_eq_some_iff.mp h1
    obtain ⟨q, -, h1⟩ := Option.bind_eq_some_iff.mp h1
    split at h1
    · split at h1
      · cases h1; exact t1 _ _
      · cases h1
    · cases h1
  · obtain ⟨v, -, rfl⟩ := Option.map_eq_some_iff.mp hz; exact t0
  · obtain ⟨v, -, rfl⟩ := Option.map_eq_some_iff.mp hz; exact t0
  · obtain ⟨v, -, rfl⟩ := Option.map_eq_some_iff.mp hz; exact t0
  · obtain ⟨v, -, rfl⟩ := Option.map_eq_some_iff.mp hz; exact t0
  · split at hz
    · split at hz <;> cases hz; exact t0
    · split at hz <;> cases hz; exact t0
    · cases hz
  · split at hz
    · split at hz <;> cases hz; exact t0
    · cases hz
  · split at hz
    · split at hz <;> cases hz; exact t0
    · split at hz <;> cases hz; exact t0
    · cases hz
  · split at hz
    · split at hz <;> cases hz; exact t0
    · cases hz
  · split at hz
    · split at hz <;> cases hz; exact t0
    · cases hz
  · split at hz
    · split at hz <;> cases hz; exact t1 _ _
    · cases hz
  · split at hz
    · split at hz <;> cases hz; exact t1 _ _
    · split at hz <;> cases hz; exact t1 _ _
    · cases hz
  · split at hz
    · split at hz <;> cases hz; exact t1 _ _
    · cases hz
  · split at hz
    · split at hz
      · split at hz
        · cases hz; exact t1 _ _
        · split at hz
          · split at hz
            · cases hz; exact t1 _ _
            · cases hz
          · cases hz
        · cases hz
      · cases hz
    · cases hz
  · obtain ⟨t, -, hz⟩ := Option.bind_eq_some_iff.mp hz
    split at hz <;> cases hz; exact t2 _ _
  · obtain ⟨t, -, hz⟩ := Option.bind_eq_some_iff.mp hz
    obtain ⟨t, -, hz⟩ := Option.bind_eq_some_iff.mp hz
    split at hz <;> cases hz; exact t2 _ _
  · obtain ⟨t, -, hz⟩ := Option.bind_eq_some_iff.mp hz
    obtain ⟨q, -, rfl⟩ := Option.map_eq_some_iff.mp hz
    exact t2 _ _
  · obtain ⟨t, -, hz⟩ := Option.bind_eq_some_iff.mp hz
    split at hz
    · split at hz <;> cases hz; exact t0
    · cases hz
  · obtain ⟨t, -, hz⟩ := Option.bind_eq_some_iff.mp hz
    split at hz <;> cases hz; exact t0
  · obtain ⟨t, -, hz⟩ := Option.bind_eq_some_iff.mp hz
    split at hz
    · split at hz <;> cases hz; exact t2 _ _
    · cases hz
  · obtain ⟨t, -, hz⟩ := Option.bind_eq_some_iff.mp hz
    split at hz
    · split at hz
      · split at hz <;> cases hz; exact t1 _ _
      · split at hz <;> cases hz; exact t1 _ _
      · cases hz
    · split at hz <;> cases hz; exact t0
    · split at hz <;> cases hz; exact t0
    · split at hz <;> cases hz; exact t0
    · cases hz
  · cases hz
theorem pm_step_mono {ini : Bool} {c : Nat} {i : Instr} {pc : Nat} {ls st : List Value} {h : pm_H} {z : Nat × List Value × List Value × pm_H} (hz : pm_step ini c i pc ls st h = some z) : h.1 ≤ z.2.2.2.1 ∧ h.2.1 ≤ z.2.2.2.2.1 := by
  unfold pm_step at hz
  split at hz
  · cases hz; exact ⟨Nat.le_refl _, Nat.le_refl _⟩
  · split at hz
    · cases hz; exact ⟨Nat.le_refl _, Nat.le_refl _⟩
    · split at hz
      · cases hz; exact ⟨Nat.le_refl _, Nat.le_refl _⟩
      · split at hz
        · rename_i hh
          cases hz
          rcases pm_hp_cases hh with hh | ⟨s9, -, rfl⟩
          · exact pm_hb_mono hh
          · exact ⟨Nat.le_refl _, Nat.le_refl _⟩
        · cases hz
/-- the three ways of a run's first step -/
theorem pm_run_cases {n d mid pc : Nat} {ls st : List Value} {h : pm_H} {x : Option Value × pm_H} (hz : pm_run (n + 1) d mid pc ls st h = some x) : ∃ (q : pm_M) (i : Instr) (L : Nat), pm_ms[mid]? = some q ∧ pm_code mid pc = some (i, L) ∧
    ((∃ r, pm_ret q.2.2.2.1 i st = some r ∧ x = (r, h)) ∨
     (∃ (callee : Nat) (args rest : List Value) (d' : Nat) (qc : pm_M) (ls' : List Value) (r : Option Value) (h' : pm_H), pm_call q.2.2.2.2 i st h = some (callee, args, rest) ∧ d = d' + 1 ∧ pm_ms[callee]? = some qc ∧ pm_ent qc.2.2.1 args = some ls' ∧ pm_run n d' callee 0 ls' [] h = some (r, h') ∧ pm_run n d mid (pc + 3) ls (r.toList ++ rest) h' = some x) ∨
     (∃ z, pm_step (decide (q.1.name = "<init>")) q.2.2.2.2 i pc ls st h = some z ∧ pm_run n d mid z.1 z.2.1 z.2.2.1 z.2.2.2 = some x)) := by
  unfold pm_run at hz
  split at hz
  · rename_i q i L hq hi
    refine ⟨q, i, L, hq, hi, ?_⟩
    split at hz
    · rename_i r hr
      cases hz
      exact Or.inl ⟨r, hr, rfl⟩
    · split at hz
      · rename_i callee args rest hc
        split at hz
        · rename_i d' qc hqc
          split at hz
          · rename_i ls' hls
            split at hz
            · rename_i r h' hr
              exact Or.inr (Or.inl ⟨callee, args, rest, d', qc, ls', r, h', hc, rfl, hqc, hls, hr, hz⟩)
            · cases hz
          · cases hz
        · cases hz
      · split at hz
        · rename_i pc' ls' st' h' hs
          exact Or.inr (Or.inr ⟨_, hs, hz⟩)
        · cases hz
  · cases hz
theorem pm_run_mono : ∀ (n d mid pc : Nat) (ls st : List Value) (h : pm_H) (x : Option Value × pm_H), pm_run n d mid pc ls st h = some x → h.1 ≤ x.2.1 ∧ h.2.1 ≤ x.2.2.1
  | 0, _, _, _, _, _, _, _, hz => by cases hz
  | n + 1, d, mid, pc, ls, st, h, x, hz => by
    obtain ⟨q, i, L, hq, hi, hz⟩ := pm_run_cases hz
    rcases hz with ⟨r, -, rfl⟩ | ⟨callee, args, rest, d', qc, ls', r, h', -, -, -, -, h1, h2⟩ | ⟨z, h1, h2⟩
    · exact ⟨Nat.le_refl _, Nat.le_refl _⟩
    · have a1 := pm_run_mono n d' callee 0 ls' [] h _ h1
      have a2 := pm_run_mono n d mid (pc + 3) ls _ h' x h2
      exact ⟨Nat.le_trans a1.1 a2.1, Nat.le_trans a1.2 a2.2⟩
    · have a1 := pm_step_mono h1
      have a2 := pm_run_mono n d mid _ _ _ _ x h2
      exact ⟨Nat.le_trans a1.1 a2.1, Nat.le_trans a1.2 a2.2⟩
/-! a method's contract -/
def pm_ws (q : pm_M) : List Cond := .code q.1 q.2.1 q.2.2.1 q.2.2.2.1 :: pm_good
def pm_rm (d mc ms : Nat) : Room := { frames := d + 1, cells := mc, slots := ms, locals := 64 * (d + 1) }
def pm_Pc (D : va_G) (aC : Nat → ClassId) (E : Nat → Nat) (base : Nat) (h : pm_H) (pa : List Value) : Array Value → State → Prop := va_Pc (pa.map (pm_tr E base)) (fun U => pm_GS D aC U ∧ pm_GD D aC E base h U U.heap)
def pm_Qc (D : va_G) (aC : Nat → ClassId) (E : Nat → Nat) (base : Nat) (r : Option Value) (h' : pm_H) : Array Value → State → Outcome → State → Prop := fun _ _ o t => o = .returned (r.map (pm_tr E base)) ∧ pm_GD D aC E base h' t t.heap
theorem pm_goodIn {q : pm_M} (hq : pm_Mok q) : GoodIn pm_good (pm_ws q) := by
  intro w hw
  rcases List.mem_cons.mp hw with rfl | hw
  · exact ⟨pm_G_in hq.1, Or.inl rfl⟩
  · exact ⟨hw, good_of_word (pm_in_G hw).2⟩
theorem pm_blind (D : va_G) (aC : Nat → ClassId) (E : Nat → Nat) (base : Nat) (h : pm_H) (pa : List Value) : FrameBlind (pm_Pc D aC E base h pa) := by
  intro a U g mk q
  obtain ⟨q1, q2, q3⟩ := q
  exact ⟨q1, pm_GS.same (s := U) (U := U.calling g mk a) rfl q2, pm_GD.moved (u := U) (U := U.calling g mk a) (Vm.Alike.refl U.vm) q3⟩
/-- the entry's locals -/
theorem pm_sl_len (E : Nat → Nat) (base : Nat) (pa : List Value) : (lg_sl (pa.map (pm_tr E base))).length = (pm_sl pa).length := by
  induction pa with
  | nil => rfl
  | cons v pa ih =>
    have h1 : (lg_sl ((v :: pa).map (pm_tr E base))).length = (if v.category = 2 then 2 else 1) + (lg_sl (pa.map (pm_tr E base))).length := by
      show (lg_sl (pm_tr E base v :: pa.map (pm_tr E base))).length = _
      unfold lg_sl
      rw [List.flatMap_cons, List.length_append, pm_tr_cat]
      split <;> rfl
    have h2 : (pm_sl (v :: pa)).length = (if v.category = 2 then 2 else 1) + (pm_sl pa).length := by
      unfold pm_sl
      rw [List.flatMap_cons, List.length_append]
      split <;> rfl
    rw [h1, h2, ih]
theorem pm_sl_mem (E : Nat → Nat) (base : Nat) : ∀ (pa : List Value) (off i : Nat) (v : Value), (pm_sl pa)[i]? = some v → pm_isV v = true → (off + i, pm_tr E base v) ∈ lv_args off (pa.map (pm_tr E base))
  | [], _, i, v, h, _ => by simp [pm_sl] at h
  | u :: pa, off, i, v, h, hv => by
    show (off + i, pm_tr E base v) ∈ (off, pm_tr E base u) :: lv_args (if (pm_tr E base u).category = 2 then off + 2 else off + 1) (pa.map (pm_tr E base))
    rw [pm_tr_cat]
    have he : pm_sl (u :: pa) = (if u.category = 2 then [u, pm_no] else [u]) ++ pm_sl pa := by unfold pm_sl; rw [List.flatMap_cons]
    rw [he] at h
    by_cases hc : u.category = 2
    · rw [if_pos hc] at h ⊢
      match i, h with
      | 0, h => cases h; exact List.mem_cons_self
      | 1, h => cases h; cases hv
      | j + 2, h =>
        have := pm_sl_mem E base pa (off + 2) j v h hv
        rw [show off + (j + 2) = off + 2 + j by omega]
        exact List.mem_cons_of_mem _ this
    · rw [if_neg hc] at h ⊢
      match i, h with
      | 0, h => cases h; exact List.mem_cons_self
      | j + 1, h =>
        have := pm_sl_mem E base pa (off + 1) j v h hv
        rw [show off + (j + 1) = off + 1 + j by omega]
        exact List.mem_cons_of_mem _ this
theorem pm_entry (E : Nat → Nat) (base : Nat) {n : Nat} {pa pl : List Value} (h : pm_ent n pa = some pl) : pl.length = n ∧ pm_LR E base ((lg_sl (pa.map (pm_tr E base)) ++ List.replicate (n - (lg_sl (pa.map (pm_tr E base))).length) Slot.unset).toArray) pl := by
  unfold pm_ent at h
  split at h
  case isFalse => cases h
  case isTrue hn =>
    cases h
    have hlen : (pm_sl pa ++ List.replicate (n - (pm_sl pa).length) pm_no).length = n := by rw [List.length_append, List.length_replicate]; omega
    refine ⟨hlen, ?_⟩
    have he := lv_entry (pa.map (pm_tr E base)) (n := n) (by rw [pm_sl_len]; exact hn)
    refine ⟨by rw [hlen]; exact he.1, he.2.1, fun i v hi hv => ?_⟩
    by_cases hil : i < (pm_sl pa).length
    · rw [List.getElem?_append_left hil] at hi
      have := he.2.2 _ (pm_sl_mem E base pa 0 i v hi hv)
      rw [Nat.zero_add] at this
      exact this
    · rw [List.getElem?_append_right (by omega), List.getElem?_replicate] at hi
      split at hi
      · cases hi; cases hv
      · cases hi
section PMR
variable {p : Program} {l : Launch} {e : Env} {R : Room} {s : State} {m : MethodId} {args : Array Value} {below : List Frame} {meth : Method} {c : Code} {H : Heap} {locs : List Loc} {cells slots : Nat} {Q : State → Prop}
variable {cc : ByteArray} {pc : Nat} {ls : Array Slot} {E : Nat → Nat} {base : Nat} {D : va_G} {aC : Nat → ClassId} {h h' : pm_H}
/-- behind a call -/
theorem pm_called {mc ms : Nat} {st0 rest : List Value} {a : Array Value} {r : Option Value} (hr : va_Run p l e R s m args below meth c H locs cells slots mc ms (F0 m pc ls st0) (rest.map (pm_tr E base)) (pm_Qc D aC E base r h' a) (fun q => base ≤ q)) (hlo : ∀ q ∈ locs, base ≤ q.base)
    (k : ∀ (H' : Heap) (locs' : List Loc), pm_GD D aC E base h' s H' → (∀ q ∈ locs', base ≤ q.base) → W p l e R s m args below meth c H' locs' (cells + mc) (slots + ms) Q (F0 m (pc + 3) ls ((r.toList ++ rest).map (pm_tr E base)))) : W p l e R s m args below meth c H locs cells slots Q (F0 m pc ls st0) := by
  intro T hT X
  obtain ⟨v, st₀, t, T', L, h0, X', hL, e1, e2, ⟨hv, hg⟩, st⟩ := hr T hT X
  have hv : v = r.map (pm_tr E base) := by injection hv
  subst hv
  have ha : t.vm.Alike s.vm := by rw [← e2]; exact X'.warmed.alike.symm
  obtain ⟨t2, a1, b1⟩ := k T'.heap (locs ++ L) (by rw [e1]; exact pm_GD.moved ha hg) (fun q hq => by
    rcases List.mem_append.mp hq with hq | hq
    · exact hlo q hq
    · exact hL q hq) T' rfl X'
  refine ⟨t2, st t2 ?_, b1⟩
  have e3 : ((r.toList ++ rest).map (pm_tr E base)) = (r.map (pm_tr E base)).toList ++ rest.map (pm_tr E base) := by cases r <;> simp
  rw [e3] at a1
  exact a1
theorem pm_call_spec {k0 : Nat} {i : Instr} {st : List Value} {x : Nat × List Value × List Value} (hz : pm_call k0 i st h = some x) : ∃ (ix : Nat) (y : Nat × Nat × Nat) (q : pm_M), pm_at pm_CL k0 ix = some y ∧ pm_ms[y.1]? = some q ∧ pm_ix i y.2.2 = some ix ∧ x.1 = y.1 ∧ x.2.1.length = (if y.2.2 = 2 ∨ y.2.2 = 5 then y.2.1 else y.2.1 + 1) ∧ st = x.2.1.reverse ++ x.2.2 ∧ (x.2.2.map fun v => v.category).sum ≤ 8 ∧ pm_rcv y.2.2 q h x.2.1 = true := by
  unfold pm_call at hz
  obtain ⟨ix, h1, hz⟩ := Option.bind_eq_some_iff.mp hz
  obtain ⟨y, h2, hz⟩ := Option.bind_eq_some_iff.mp hz
  obtain ⟨q, h3, hz⟩ := Option.bind_eq_some_iff.mp hz
  dsimp only at hz
  generalize hk : (if y.2.2 = 2 ∨ y.2.2 = 5 then y.2.1 else y.2.1 + 1) = k at hz
  split at hz
  · rename_i hh
    cases hz
    refine ⟨ix, y, q, h2, h3, hh.1, rfl, ?_, ?_, hh.2.2.1, hh.2.2.2⟩
    · rw [hk, List.length_reverse, List.length_take]; omega
    · rw [List.reverse_reverse, List.take_append_drop]
  · cases hz
end PMR
