/-- what a frame of method q knows -/
def pm_Fr (D : va_G) (aC : Nat → ClassId) (q : pm_M) (p : Program) (s : State) (m : MethodId) (args : Array Value) (meth : Method) (c : Code) : Prop :=
  p.tables.exec = Jvm.exec ∧ c.code = q.2.1 ∧ meth.sig.returnType = q.2.2.2.1 ∧ c.maxLocals = q.2.2.1 ∧ s.vm.findClass (pm_ow q.2.2.2.2) = some m.cls ∧ (∀ w ∈ pm_good, w.before args s = true) ∧ (decide (q.1.name = "<init>") = true → meth.name = "<init>") ∧ pm_GS D aC s
/-- a contract of a method of the list, by a run -/
def pm_Met (l : Launch) (D : va_G) (aC : Nat → ClassId) (E : Nat → Nat) (base : Nat) (q : pm_M) (d : Nat) (pa : List Value) (r : Option Value) (h h' : pm_H) : Prop := Met l q.1 (pm_ws q) (pm_rm d (h'.1 - h.1) (h'.2.1 - h.2.1)) (pm_Pc D aC E base h pa) (pm_Qc D aC E base r h') (h'.1 - h.1) (h'.2.1 - h.2.1) (fun z => base ≤ z)
theorem pm_ix_0 {i : Instr} {ix : Nat} (h : pm_ix i 0 = some ix ∨ pm_ix i 3 = some ix) : i = .invokevirtual ix := by
  rcases h with h | h <;> unfold pm_ix at h <;> split at h <;> first | (cases h; rfl) | (exfalso; omega) | cases h
theorem pm_ix_1 {i : Instr} {ix : Nat} (h : pm_ix i 1 = some ix ∨ pm_ix i 4 = some ix) : i = .invokespecial ix := by
  rcases h with h | h <;> unfold pm_ix at h <;> split at h <;> first | (cases h; rfl) | (exfalso; omega) | cases h
theorem pm_ix_2 {i : Instr} {ix : Nat} (h : pm_ix i 2 = some ix ∨ pm_ix i 5 = some ix) : i = .invokestatic ix := by
  rcases h with h | h <;> unfold pm_ix at h <;> split at h <;> first | (cases h; rfl) | (exfalso; omega) | cases h
theorem pm_rcv_0 {s : State} {H : Heap} {E : Nat → Nat} {base : Nat} {D : va_G} {aC : Nat → ClassId} {q : pm_M} {h : pm_H} {a : Nat} {pa : List Value} (hGS : pm_GS D aC s) (g : pm_GD D aC E base h s H) (h8 : pm_rcv 0 q h (.ref a :: pa) = true ∨ pm_rcv 3 q h (.ref a :: pa) = true) : ∃ cell : Cell, H[pm_ad E base a]? = some cell ∧ cell.vm.isStatics = false ∧ s.vm.findClass q.1.cls = some cell.cls := by
  have h9 : pm_rc q h a = true := by
    rcases h8 with h8 | h8 <;> exact h8
  unfold pm_rc at h9
  split at h9
  · rename_i ci fs hc
    simp only [Bool.and_eq_true, decide_eq_true_eq] at h9
    obtain ⟨rr, hrr, he⟩ := Option.map_eq_some_iff.mp h9.2
    have hrec := va_recv (D := D) (ws := [(pm_ad E base a, .inr (ci, fs.map (pm_tr E base)))]) hGS.1 (pm_P1 (pm_cell g h9.1.1 h9.1.2 hc)) hrr (q0 := 0) rfl
    rw [he] at hrec
    exact hrec
  · simp only [Bool.and_eq_true, decide_eq_true_eq] at h9
    obtain ⟨cell, c1, c2, c3, -⟩ := (g.2.2.2.1.2.2.1 a h9.1.1 h9.1.2).2.1
    have e : pm_ad E base a = E a := if_pos (by omega)
    rw [e, h9.2]
    exact ⟨cell, c1, c2, c3⟩
theorem pm_rcv_any {k : Nat} {q : pm_M} {h : pm_H} {pa : List Value} (hk : k = 0 ∨ k = 1 ∨ k = 3 ∨ k = 4) (h8 : pm_rcv k q h pa = true) : ∃ a pa', pa = .ref a :: pa' := by
  unfold pm_rcv at h8
  split at h8 <;> first | exact ⟨_, _, rfl⟩ | (exfalso; omega) | cases h8
set_option maxHeartbeats 4000000 in
/-- a call, by the callee's contract -/
theorem pm_sim_call {p : Program} {l : Launch} {e : Env} {R : Room} {s : State} {m : MethodId} {args : Array Value} {below : List Frame} {meth : Method} {c : Code} {H : Heap} {locs : List Loc} {cells slots : Nat} {Q : State → Prop} {pc d : Nat} {ls : Array Slot} {E : Nat → Nat} {base : Nat} {D : va_G} {aC : Nat → ClassId} {h h' : pm_H} {q qc : pm_M} {i : Instr} {st pl : List Value} {callee : Nat} {pa rest : List Value} {r : Option Value}
    (F : pm_Fr D aC q p s m args meth c) (hl : pm_LR E base ls pl) (hpl : pl.length = q.2.2.1) (g : pm_GD D aC E base h s H) (hlo : ∀ z ∈ locs, base ≤ z.base) (hRf : d + 2 ≤ R.frames) (hRl : 64 * (d + 2) ≤ R.locals) (hdg : decode q.2.1 pc = .ok (i, pm_len i)) (hcall : pm_call q.2.2.2.2 i st h = some (callee, pa, rest)) (hqc : pm_ms[callee]? = some qc) (hM : pm_Met l D aC E base qc d pa r h h') (hR1 : cells + (h'.1 - h.1) ≤ R.cells) (hR2 : slots + (h'.2.1 - h.2.1) ≤ R.slots)
    (k : ∀ (H' : Heap) (locs' : List Loc), pm_GD D aC E base h' s H' → (∀ z ∈ locs', base ≤ z.base) → W p l e R s m args below meth c H' locs' (cells + (h'.1 - h.1)) (slots + (h'.2.1 - h.2.1)) Q (F0 m (pc + 3) ls ((r.toList ++ rest).map (pm_tr E base)))) : W p l e R s m args below meth c H locs cells slots Q (F0 m pc ls (st.map (pm_tr E base))) := by
  obtain ⟨hx, hb, hr, hml, hown, hts, hini, hGS⟩ := F
  obtain ⟨ix, y, q2, h1, h2, h3, h4, h5, h6, h7, h8⟩ := pm_call_spec hcall
  have h4 : callee = y.1 := h4
  have h5 : pa.length = (if y.2.2 = 2 ∨ y.2.2 = 5 then y.2.1 else y.2.1 + 1) := h5
  have h6 : st = pa.reverse ++ rest := h6
  have h7 : (rest.map fun v => v.category).sum ≤ 8 := h7
  have h8 : pm_rcv y.2.2 q2 h pa = true := h8
  subst h4
  cases hqc.symm.trans h2
  obtain ⟨q3, hq3, hpos, hpar, hkind⟩ := pm_C_spec h1
  cases hqc.symm.trans hq3
  have hMok : pm_Mok qc := by
    obtain ⟨j, hj⟩ : ∃ j, y.1 = j + 1 := ⟨y.1 - 1, by have : 0 < y.1 := hpos; omega⟩
    exact pm_ms_ok j qc (by rw [← hj]; exact hqc)
  obtain ⟨m1, m2, m3, m4, m5, m6⟩ := hMok
  have hGI : GoodIn pm_good (pm_ws qc) := pm_goodIn ⟨m1, m2, m3, m4, m5, m6⟩
  have hroom : (pm_rm d (h'.1 - h.1) (h'.2.1 - h.2.1)).frames + 1 ≤ R.frames ∧ 8 + (qc.2.2.1 + 11) + (pm_rm d (h'.1 - h.1) (h'.2.1 - h.2.1)).locals ≤ R.locals := by
    refine ⟨hRf, ?_⟩
    show 8 + (qc.2.2.1 + 11) + 64 * (d + 1) ≤ R.locals
    omega
  have hW : 2 * (F0 m pc ls (st.map (pm_tr E base))).monitorRoom + ((rest.map (pm_tr E base)).map fun v => v.category).sum ≤ 8 := by
    rw [pm_tr_sum]
    show 2 * 0 + _ ≤ 8
    omega
  have hpre : ∀ U : State, U.heap = H → s.WarmedH U.vm → pm_Pc D aC E base h pa (pa.map (pm_tr E base)).toArray U := fun U hU hW => ⟨rfl, hGS.warm hW, by rw [hU]; exact pm_GD.moved hW.alike g⟩
  have hst : st.map (pm_tr E base) = (pa.map (pm_tr E base)).reverse ++ rest.map (pm_tr E base) := by rw [h6, List.map_append, List.map_reverse]
  have hsz : ls.size = q.2.2.1 := hl.1.trans hpl
  have S : CallFix p m c q.2.1 q.2.2.1 s args pm_good (pm_ow q.2.2.2.2) := ⟨hx, hb, hml, hown, hts⟩
  have hdd : qc.1.cls ≠ "java/lang/invoke/MethodHandle" ∧ qc.1.cls ≠ "java/lang/invoke/VarHandle" ∧ (parseMethodDescriptor qc.1.desc).map (fun d => d.parameters.length) = some y.2.1 := ⟨m5.1, m5.2, hpar⟩
  have hini2 := hts _ (pm_G_in m2)
  obtain ⟨y1, y2, y3⟩ := y
  match y3, h3, h5, h8, hkind with
  | 0, h3, h5, h8, hkind =>
    obtain ⟨k1, k2, k3⟩ := hkind
    have hi : i = .invokevirtual ix := pm_ix_0 (by first | exact Or.inl h3 | exact Or.inr h3)
    subst hi
    obtain ⟨a, pa, rfl⟩ := pm_rcv_any (k := 0) (by decide) h8
    · skip
      have hrec := pm_rcv_0 (q := qc) (pa := pa) hGS g (by first | exact Or.inl h8 | exact Or.inr h8)
      refine pm_called (va_runV (C := qc.1.cls) (b := pm_ad E base a) (As := pa.map (pm_tr E base)) S hM ⟨callB_of y2 hts hGI rfl rfl rfl hini2 (hts _ (pm_G_in k1)) hdd hroom, hts _ (pm_G_in k2), hts _ (pm_G_in k3)⟩ ⟨pm_blind D aC E base h _, hrec, hpre⟩ rfl ?_ hsz ?_ hW hdg ⟨hR1, hR2⟩) hlo k
      · rw [List.length_map]
        have : pa.length + 1 = y2 + 1 := h5
        omega
      · show st.map (pm_tr E base) = _
        rw [hst, List.map_cons, List.reverse_cons, List.append_assoc]
        rfl
  | 1, h3, h5, h8, hkind =>
    obtain ⟨k1, k2, k3, k4⟩ := hkind
    have hi : i = .invokespecial ix := pm_ix_1 (by first | exact Or.inl h3 | exact Or.inr h3)
    subst hi
    obtain ⟨a, pa, rfl⟩ := pm_rcv_any (k := 1) (by decide) h8
    · skip
      refine pm_called (va_runI (bytes := qc.2.1) (maxL := qc.2.2.1) (b := pm_ad E base a) (As := pa.map (pm_tr E base)) S hM ⟨callB_of y2 hts hGI (by rw [← k4]; rfl) rfl rfl hini2 (hts _ (pm_G_in k1)) hdd hroom, k3, hts _ (pm_G_in k2)⟩ ⟨pm_blind D aC E base h _, hpre⟩ rfl ?_ hsz ?_ hW hdg ⟨hR1, hR2⟩) hlo k
      · rw [List.length_map]
        have : pa.length + 1 = y2 + 1 := h5
        omega
      · show st.map (pm_tr E base) = _
        rw [hst, List.map_cons, List.reverse_cons, List.append_assoc]
        rfl
  | 2, h3, h5, h8, hkind =>
    obtain ⟨k1, k2⟩ := hkind
    have hi : i = .invokestatic ix := pm_ix_2 (by first | exact Or.inl h3 | exact Or.inr h3)
    subst hi
    refine pm_called (va_runS (As := pa.map (pm_tr E base)) S hM ⟨callB_of y2 hts hGI rfl rfl rfl hini2 (hts _ (pm_G_in k1)) hdd hroom, hts _ (pm_G_in k2)⟩ ⟨pm_blind D aC E base h _, hpre⟩ rfl ?_ hsz hst hW hdg ⟨hR1, hR2⟩) hlo k
    rw [List.length_map]
    exact h5
  | 3, h3, h5, h8, hkind =>
    obtain ⟨k1, k2, k3⟩ := hkind
    have hi : i = .invokevirtual ix := pm_ix_0 (by first | exact Or.inl h3 | exact Or.inr h3)
    subst hi
    obtain ⟨a, pa, rfl⟩ := pm_rcv_any (k := 3) (by decide) h8
    · skip
      have hrec := pm_rcv_0 (q := qc) (pa := pa) hGS g (by first | exact Or.inl h8 | exact Or.inr h8)
      refine pm_called (va_runVN (C := qc.1.cls) (b := pm_ad E base a) (As := pa.map (pm_tr E base)) S hM ⟨va_cnB y2 hts hGI rfl rfl rfl (hGS.2.1 _ k1 rfl) hini2 hdd hroom, hts _ (pm_G_in k2), hts _ (pm_G_in k3)⟩ ⟨pm_blind D aC E base h _, hrec, hpre⟩ rfl ?_ hsz ?_ hW hdg ⟨hR1, hR2⟩) hlo k
      · rw [List.length_map]
        have : pa.length + 1 = y2 + 1 := h5
        omega
      · show st.map (pm_tr E base) = _
        rw [hst, List.map_cons, List.reverse_cons, List.append_assoc]
        rfl
  | 4, h3, h5, h8, hkind =>
    obtain ⟨k1, k2, k3, k4⟩ := hkind
    have hi : i = .invokespecial ix := pm_ix_1 (by first | exact Or.inl h3 | exact Or.inr h3)
    subst hi
    obtain ⟨a, pa, rfl⟩ := pm_rcv_any (k := 4) (by decide) h8
    · skip
      refine pm_called (va_runIN (bytes := qc.2.1) (maxL := qc.2.2.1) (b := pm_ad E base a) (As := pa.map (pm_tr E base)) S hM ⟨va_cnB y2 hts hGI (by rw [← k4]; rfl) rfl rfl (hGS.2.1 _ k1 rfl) hini2 hdd hroom, k3, hts _ (pm_G_in k2)⟩ ⟨pm_blind D aC E base h _, hpre⟩ rfl ?_ hsz ?_ hW hdg ⟨hR1, hR2⟩) hlo k
      · rw [List.length_map]
        have : pa.length + 1 = y2 + 1 := h5
        omega
      · show st.map (pm_tr E base) = _
        rw [hst, List.map_cons, List.reverse_cons, List.append_assoc]
        rfl
  | 5, h3, h5, h8, hkind =>
    obtain ⟨k1, k2⟩ := hkind
    have hi : i = .invokestatic ix := pm_ix_2 (by first | exact Or.inl h3 | exact Or.inr h3)
    subst hi
    refine pm_called (va_runSN (As := pa.map (pm_tr E base)) S hM ⟨va_cnB y2 hts hGI rfl rfl rfl (hGS.2.1 _ k1 rfl) hini2 hdd hroom, hts _ (pm_G_in k2), trivial⟩ ⟨pm_blind D aC E base h _, hpre⟩ rfl ?_ hsz hst hW hdg ⟨hR1, hR2⟩) hlo k
    rw [List.length_map]
    exact h5
  | n + 6, h3, h5, h8, hkind => exact absurd hkind id
theorem pm_call_len {k0 : Nat} {i : Instr} {st : List Value} {h : pm_H} {x : Nat × List Value × List Value} (hz : pm_call k0 i st h = some x) : pm_len i = 3 := by
  obtain ⟨ix, y, q, -, -, h3, -⟩ := pm_call_spec hz
  unfold pm_ix at h3
  split at h3 <;> first | rfl | cases h3
theorem pm_ret_len {ret : Option FieldType} {i : Instr} {st : List Value} {r : Option Value} (hz : pm_ret ret i st = some r) : pm_len i = 1 := by
  unfold pm_ret at hz
  split at hz <;> first | rfl | cases hz
/-- THE SIMULATION: a run of the pure machine is a run of the machine -/
def pm_Walk (l : Launch) (D : va_G) (aC : Nat → ClassId) (E : Nat → Nat) (base n : Nat) : Prop := ∀ (d mid pc : Nat) (pl st : List Value) (h : pm_H) (r : Option Value) (h' : pm_H) (q : pm_M), pm_run n d mid pc pl st h = some (r, h') → pm_ms[mid]? = some q →
      ∀ (p : Program) (e : Env) (R : Room) (s : State) (m : MethodId) (args : Array Value) (below : List Frame) (meth : Method) (c : Code) (ls : Array Slot) (H : Heap) (locs : List Loc) (cells slots : Nat) (Q : State → Prop),
        pm_Fr D aC q p s m args meth c → pm_LR E base ls pl → pl.length = q.2.2.1 → pm_GD D aC E base h s H → (∀ z ∈ locs, base ≤ z.base) → d + 1 ≤ R.frames → 64 * (d + 1) ≤ R.locals → cells + (h'.1 - h.1) ≤ R.cells → slots + (h'.2.1 - h.2.1) ≤ R.slots →
        (∀ (pc' : Nat) (i : Instr) (st' : List Value) (ls' : Array Slot) (H' : Heap) (locs' : List Loc), decode q.2.1 pc' = .ok (i, 1) → pm_ret q.2.2.2.1 i st' = some r → pm_GD D aC E base h' s H' → (∀ z ∈ locs', base ≤ z.base) → W p l e R s m args below meth c H' locs' (cells + (h'.1 - h.1)) (slots + (h'.2.1 - h.2.1)) Q (F0 m pc' ls' (st'.map (pm_tr E base)))) →
        W p l e R s m args below meth c H locs cells slots Q (F0 m pc ls (st.map (pm_tr E base)))
set_option maxHeartbeats 4000000 in
theorem pm_met_of {l : Launch} {D : va_G} {aC : Nat → ClassId} {E : Nat → Nat} {base n : Nat} (walk : pm_Walk l D aC E base n) {d k : Nat} {pa pl : List Value} {h : pm_H} {r : Option Value} {h' : pm_H} {q : pm_M} (hrun : pm_run n d (k + 1) 0 pl [] h = some (r, h')) (hq : pm_ms[k + 1]? = some q) (hent : pm_ent q.2.2.1 pa = some pl) : pm_Met l D aC E base q d pa r h h' := by
  have hok := pm_ms_ok k q hq
  unfold pm_Met
  refine Met.ofW (cc := q.2.1) (maxL := q.2.2.1) (ret := q.2.2.2.1) hok.2.2.2.1 rfl ?_
  intro p e s m args below meth c s₁ B hml hv
  obtain ⟨rfl, hGS, hGD⟩ := hv
  have hts0 := atoms_spec (ws := pm_ws q) B.pre
  have hts : ∀ w ∈ pm_good, w.before (pa.map (pm_tr E base)).toArray s = true := fun w hw => hts0 w (List.mem_cons_of_mem _ hw)
  have hown : s.vm.findClass (pm_ow q.2.2.2.2) = some m.cls := by rw [← hok.2.2.1]; exact findClass_of_methodNamed B.named
  have hF : pm_Fr D aC q p s m (pa.map (pm_tr E base)).toArray meth c := ⟨B.exec, B.bytes, B.returns, hml, hown, hts, fun hn => by
    rw [(name_of_methodNamed B.named B.method).1]
    exact of_decide_eq_true hn, hGS⟩
  obtain ⟨hpl, hLR⟩ := pm_entry E base hent
  rw [lg_entry_eq]
  have hlocks := B.notSynchronized
  have hr := B.returns
  refine walk d (k + 1) 0 pl [] h r h' q hrun hq p e _ s m _ below meth c _ s.heap [] 0 0 _ hF hLR hpl hGD (fun z hz => by cases hz) (Nat.le_refl _) (Nat.le_refl _) (by show 0 + _ ≤ h'.1 - h.1; omega) (by show 0 + _ ≤ h'.2.1 - h.2.1; omega) ?_
  intro pc' i st' ls' H' locs' hdg hret hg' hlo'
  rw [Nat.zero_add, Nat.zero_add]
  have fin : ∀ (v : Option Value), v = r.map (pm_tr E base) → ∀ t : State, t.heap = H' → s.WarmedH t.vm → pm_Qc D aC E base r h' (pa.map (pm_tr E base)).toArray s (.returned v) t := fun v hv t ht hW => ⟨by rw [hv], by rw [ht]; exact pm_GD.moved hW.alike hg'⟩
  unfold pm_ret at hret
  split at hret
  · rename_i e1; cases hret
    exact W.vret B.exec B.bytes (hr.trans e1) (fin none rfl) hlo' hdg
  · rename_i v ty e1
    split at hret
    · rename_i hty; cases hret
      exact W.zret B.exec B.bytes (hr.trans e1) hty.2 (fin (some (.int v)) rfl) hlo' hdg
    · cases hret
  · rename_i v e1; cases hret
    exact W.lret B.exec B.bytes (hr.trans e1) (fin (some (.long v)) rfl) hlo' hdg
  · rename_i e1; cases hret
    exact W.aret B.exec B.bytes (hr.trans e1) (Or.inl ⟨_, rfl⟩) (Or.inl rfl) (fin (some .null) rfl) hlo' hdg
  · rename_i a _ e1; cases hret
    exact W.aret B.exec B.bytes (hr.trans e1) (Or.inl ⟨_, rfl⟩) (Or.inr ⟨_, rfl⟩) (fin (some (.ref (pm_ad E base a))) rfl) hlo' hdg
  · rename_i e1; cases hret
    exact W.aret B.exec B.bytes (hr.trans e1) (Or.inr ⟨_, rfl⟩) (Or.inl rfl) (fin (some .null) rfl) hlo' hdg
  · rename_i a _ e1; cases hret
    exact W.aret B.exec B.bytes (hr.trans e1) (Or.inr ⟨_, rfl⟩) (Or.inr ⟨_, rfl⟩) (fin (some (.ref (pm_ad E base a))) rfl) hlo' hdg
  · cases hret
set_option maxHeartbeats 4000000 in
theorem pm_walk (l : Launch) (D : va_G) (aC : Nat → ClassId) (E : Nat → Nat) (base : Nat) : ∀ n, pm_Walk l D aC E base n
  | 0 => by
    intro d mid pc pl st h r h' q hrun
    cases hrun
  | n + 1 => by
    have ih := pm_walk l D aC E base n
    intro d mid pc pl st h r h' q hrun hq p e R s m args below meth c ls H locs cells slots Q F hl hpl g hlo hRf hRl hR1 hR2 hret
    obtain ⟨q', i, L, hq', hi, hz⟩ := pm_run_cases hrun
    cases hq.symm.trans hq'
    have hdg := pm_code_ok hq hi
    have hL := pm_len_ok hi
    rcases hz with ⟨r', hr', hx⟩ | ⟨callee, pa, rest, d', qc, ls', r1, h1, hcall, rfl, hqc, hent, hrun1, hrun2⟩ | ⟨z, hs, hrun2⟩
    · cases hx
      have h1 := pm_ret_len hr'
      have hL1 : L = 1 := by rcases hL with hL | hL; omega; omega
      rw [hL1] at hdg
      have e0 : cells + (h.1 - h.1) = cells := by omega
      have e1 : slots + (h.2.1 - h.2.1) = slots := by omega
      have := hret pc i st ls H locs hdg hr' g hlo
      rw [e0, e1] at this
      exact this
    · have h3 := pm_call_len hcall
      have hL1 : L = pm_len i := by rcases hL with hL | hL; omega; exact hL
      rw [hL1] at hdg
      have mo1 := pm_run_mono _ _ _ _ _ _ _ _ hrun1
      have mo2 := pm_run_mono _ _ _ _ _ _ _ _ hrun2
      obtain ⟨j, hj⟩ : ∃ j, callee = j + 1 := by
        obtain ⟨ix, y, q2, c1, c2, c3, c4, -⟩ := pm_call_spec hcall
        obtain ⟨q3, -, hpos, -⟩ := pm_C_spec c1
        have hpos : 0 < y.1 := hpos
        have c4 : callee = y.1 := c4
        exact ⟨callee - 1, by omega⟩
      subst hj
      have hM := pm_met_of ih hrun1 hqc hent
      have a1 : h.1 ≤ h1.1 := mo1.1
      have a2 : h.2.1 ≤ h1.2.1 := mo1.2
      have a3 : h1.1 ≤ h'.1 := mo2.1
      have a4 : h1.2.1 ≤ h'.2.1 := mo2.2
      refine pm_sim_call F hl hpl g hlo hRf hRl hdg hcall hqc hM (by omega) (by omega) ?_
      intro H' locs' g' hlo'
      refine ih (d' + 1) mid (pc + 3) pl (r1.toList ++ rest) h1 r h' q hrun2 hq p e R s m args below meth c ls H' locs' _ _ Q F hl hpl g' hlo' hRf hRl (by omega) (by omega) ?_
      intro pc' i' st' ls2 H2 locs2 hd hr2 g2 hlo2
      have := hret pc' i' st' ls2 H2 locs2 hd hr2 g2 hlo2
      have e0 : cells + (h1.1 - h.1) + (h'.1 - h1.1) = cells + (h'.1 - h.1) := by omega
      have e1 : slots + (h1.2.1 - h.2.1) + (h'.2.1 - h1.2.1) = slots + (h'.2.1 - h.2.1) := by omega
      rw [e0, e1]
      exact this
    · have mo1 := pm_step_mono hs
      have mo2 := pm_run_mono _ _ _ _ _ _ _ _ hrun2
      have a1 : h.1 ≤ z.2.2.2.1 := mo1.1
      have a2 : h.2.1 ≤ z.2.2.2.2.1 := mo1.2
      have a3 : z.2.2.2.1 ≤ h'.1 := mo2.1
      have a4 : z.2.2.2.2.1 ≤ h'.2.1 := mo2.2
      obtain ⟨hx, hb, hr, hml, hown, hts, hini, hGS⟩ := id F
      refine pm_sim_step hx hb (hml.trans hpl.symm) hl hts hown hGS g hlo hini (by omega) (by omega) hdg hL hs (by omega) (by omega) ?_
      intro ls' H' locs' nc ns hnc hns hl' hlen g' hlo'
      refine ih d mid z.1 z.2.1 z.2.2.1 z.2.2.2 r h' q hrun2 hq p e R s m args below meth c ls' H' locs' nc ns Q F hl' (hlen.trans hpl) g' hlo' hRf hRl (by omega) (by omega) ?_
      intro pc' i' st' ls2 H2 locs2 hd hr2 g2 hlo2
      have := hret pc' i' st' ls2 H2 locs2 hd hr2 g2 hlo2
      have e0 : nc + (h'.1 - z.2.2.2.1) = cells + (h'.1 - h.1) := by omega
      have e1 : ns + (h'.2.1 - z.2.2.2.2.1) = slots + (h'.2.1 - h.2.1) := by omega
      rw [e0, e1]
      exact this
