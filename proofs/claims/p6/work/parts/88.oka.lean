/-! WHAT EVERY RUN KEEPS, and how a safe run and an exact one meet -/
/-- methods that write no field that stays for ever, nor call one that does: all but the makers of the fixed objects, image and the law -/
def ex_okm (m : Nat) : Bool := !(Nat.beq m 0 || Nat.beq m 1 || Nat.beq m 2 || Nat.beq m 3 || Nat.beq m 4 || Nat.beq m 5 || Nat.beq m 6 || Nat.beq m 57 || Nat.beq m 170)
def ex_gi (c : Nat) (i : Instr) : Bool := match i with
  | .putfield ix => ex_free c ix
  | .invokevirtual ix => (match pm_at pm_CL c ix with | some x => ex_okm x.1 | none => true)
  | .invokespecial ix => (match pm_at pm_CL c ix with | some x => ex_okm x.1 | none => true)
  | .invokestatic ix => (match pm_at pm_CL c ix with | some x => ex_okm x.1 | none => true)
  | _ => true
def ex_gm (m : Nat) : Bool := !ex_okm m || (match pm_ms[m]?, pm_is[m]? with | some q, some l => l.all (fun x => ex_gi q.2.2.2.2 x.2.1) | _, _ => true)
set_option maxRecDepth 1000000 in
set_option maxHeartbeats 4000000 in
theorem ex_gall : (List.range 299).all ex_gm = true := by decide +kernel
set_option maxRecDepth 1000000 in
theorem ex_ms_lt {m : Nat} {q : pm_M} (h : pm_ms[m]? = some q) : m < 299 := (List.getElem?_eq_some_iff.mp h).1
theorem ex_good {mid pc L : Nat} {q : pm_M} {i : Instr} (ok : ex_okm mid = true) (hq : pm_ms[mid]? = some q) (hc : pm_code mid pc = some (i, L)) : ex_gi q.2.2.2.2 i = true := by
  have g := List.all_eq_true.mp ex_gall mid (List.mem_range.mpr (ex_ms_lt hq))
  unfold ex_gm at g
  unfold pm_code at hc
  split at hc
  · rename_i l hl
    rw [ok, hq, hl] at g
    exact List.all_eq_true.mp (show l.all (fun x => ex_gi q.2.2.2.2 x.2.1) = true from g) _ (pm_find_mem _ _ _ hc)
  · cases hc
theorem ex_good_call {c callee : Nat} {i : Instr} {st args rest : List Value} {h : pm_H} (g : ex_gi c i = true) (hc : pm_call c i st h = some (callee, args, rest)) : ex_okm callee = true := by
  unfold pm_call at hc
  obtain ⟨ix, c1, hc⟩ := Option.bind_eq_some_iff.mp hc
  obtain ⟨x, c2, hc⟩ := Option.bind_eq_some_iff.mp hc
  obtain ⟨q, c3, hc⟩ := Option.bind_eq_some_iff.mp hc
  have e : callee = x.1 := by
    dsimp only at hc
    generalize (if x.2.2 = 2 ∨ x.2.2 = 5 then x.2.1 else x.2.1 + 1) = kk0 at hc
    split at hc
    · cases hc; rfl
    · cases hc
  subst e
  unfold pm_cix at c1
  split at c1
  · cases c1
    have g1 : (match pm_at pm_CL c ix with | some x => ex_okm x.1 | none => true) = true := g
    rw [c2] at g1; exact g1
  · cases c1
    have g1 : (match pm_at pm_CL c ix with | some x => ex_okm x.1 | none => true) = true := g
    rw [c2] at g1; exact g1
  · cases c1
    have g1 : (match pm_at pm_CL c ix with | some x => ex_okm x.1 | none => true) = true := g
    rw [c2] at g1; exact g1
  · cases c1
theorem ex_step_ch {ini : Bool} {c pc : Nat} {i : Instr} {ls st : List Value} {h : pm_H} {z : Nat × List Value × List Value × pm_H} (hz : pm_step ini c i pc ls st h = some z) : z.2.2.2 = h ∨ ∃ w, pm_hb ini c i st h = some w ∧ z.2.2.2 = w.2 := by
  unfold pm_step at hz
  split at hz
  · cases hz; exact Or.inl rfl
  · split at hz
    · cases hz; exact Or.inl rfl
    · split at hz
      · cases hz; exact Or.inl rfl
      · split at hz
        · rename_i x hx
          cases hz
          rcases pm_hp_cases hx with e | ⟨s, _, e⟩
          · exact Or.inr ⟨x, e, rfl⟩
          · exact Or.inl (by rw [e])
        · cases hz
theorem ex_run_ok : ∀ (n d mid pc : Nat) (ls st : List Value) (h : pm_H) (x : Option Value × pm_H), ex_okm mid = true → pm_run n d mid pc ls st h = some x → ex_W h → ex_K h → ex_W x.2 ∧ ex_K x.2
  | 0, _, _, _, _, _, _, _, _, hz, _, _ => by cases hz
  | n + 1, d, mid, pc, ls, st, h, x, ok, hz, W, K => by
    have ih := ex_run_ok n
    unfold pm_run at hz
    split at hz
    · rename_i q i L hq hi
      have g := ex_good ok hq hi
      split at hz
      · cases hz; exact ⟨W, K⟩
      · split at hz
        · rename_i callee args rest hc
          split at hz
          · split at hz
            · split at hz
              · rename_i r2 h2 hr2
                obtain ⟨W2, K2⟩ := ih _ _ _ _ _ _ _ (ex_good_call g hc) hr2 W K
                exact ih _ _ _ _ _ _ _ ok hz W2 K2
              · cases hz
            · cases hz
          · cases hz
        · split at hz
          · rename_i pc' ls' st' h' hs
            have WK : ex_W h' ∧ ex_K h' := by
              rcases ex_step_ch hs with e | ⟨w, e, e2⟩
              · have e' : h' = h := e
                rw [e']; exact ⟨W, K⟩
              · have e' : h' = w.2 := e2
                rw [e']
                exact ⟨ex_W_ch (ex_hb_ch e) W, ex_K_ch (ex_hb_ch e) K (fun ix ei => by subst ei; exact g)⟩
            exact ih _ _ _ _ _ _ _ ok hz WK.1 WK.2
          · cases hz
    · cases hz
/-- a safe run of such a method keeps what stays for ever -/
theorem ex_inj {d mid pc : Nat} {ls st : List Value} {h : pm_H} {Q : Option Value → pm_H → Prop} (W : ex_W h) (K : ex_K h) (ok : ex_okm mid = true) (k : pm_R d mid pc ls st h (fun r h' => ex_W h' → ex_K h' → Q r h')) : pm_R d mid pc ls st h Q := by
  obtain ⟨n, x, h1, h2⟩ := k
  obtain ⟨W1, K1⟩ := ex_run_ok _ _ _ _ _ _ _ _ ok h1 W K
  exact ⟨n, x, h1, h2 W1 K1⟩
/-- a safe run does what an exact one does -/
theorem ex_injP {d mid pc : Nat} {ls st : List Value} {h : pm_H} {Q : Option Value → pm_H → Prop} {P : Option Value → ex_S → Prop} (W : ex_W h) (K : ex_K h) (e : ∀ N, ex_P N d mid pc ls st (ex_V h) P) (k : pm_R d mid pc ls st h (fun r h' => ex_W h' → ex_K h' → P r (ex_V h') → Q r h')) : pm_R d mid pc ls st h Q := by
  obtain ⟨n, x, h1, h2⟩ := k
  obtain ⟨W1, K1, p1⟩ := e n h rfl W K n (Nat.le_refl n) x h1
  exact ⟨n, x, h1, h2 W1 K1 p1⟩
