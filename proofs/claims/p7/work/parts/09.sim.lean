/-! THE PURE MACHINE AND THE MACHINE: how a pure state stands for one of the machine's -/
def pm_ad (E : Nat → Nat) (base i : Nat) : Nat := if i < 16 then E i else base + (i - 16)
def pm_tr (E : Nat → Nat) (base : Nat) (v : Value) : Value := match v with | .ref a => .ref (pm_ad E base a) | v => v
def pm_trA (E : Nat → Nat) (base : Nat) (a : vp_A) : vp_A := match a with
  | (n, .inl f) => (n, .inl f)
  | (n, .inr (.inl f)) => (n, .inr (.inl f))
  | (n, .inr (.inr (.inl f))) => (n, .inr (.inr (.inl f)))
  | (n, .inr (.inr (.inr (.inl f)))) => (n, .inr (.inr (.inr (.inl f))))
  | (n, .inr (.inr (.inr (.inr f)))) => (n, .inr (.inr (.inr (.inr (fun j => (f j).map (pm_ad E base))))))
def pm_trE (aC : Nat → ClassId) (E : Nat → Nat) (base : Nat) (e : pm_E) : va_E := match e with
  | .inl (t, a) => .inl (aC t, pm_trA E base a)
  | .inr (ci, fs) => .inr (ci, fs.map (pm_tr E base))
def pm_tys (aC : Nat → ClassId) : List (ClassId × FieldType) := (List.range 10).map (fun t => (aC t, pm_aT t))
def pm_nest (w : Cond) : Bool := match w with | .fieldLinkNest .. => true | .methodLinkNest .. => true | .castable .. => true | _ => false
/-- what the tables say, at a state -/
def pm_GS (D : va_G) (aC : Nat → ClassId) (U : State) : Prop := va_K D pm_cl (pm_tys aC) U ∧ (∀ w ∈ lw_tbl, pm_nest w = true → va_Nw w U) ∧ (∀ C, (Cond.arrayOver (.object C)) ∈ lw_tbl → va_AO C U) ∧ (∀ i, 7 ≤ i → i < 11 → vk_R "SilentTable$TextReader" (pm_kix i) (pm_ktx i) (aC (20 + i)) U)
def pm_byt (h : pm_H) : Prop := ∀ (i n : Nat) (f : Nat → Int32), h.2.2 i = .inl (2, n, .inl f) → ∀ j, fits .byte (.int (f j)) = true
/-- Strings, their bytes, two statics of the JDK -/
def pm_GX (aC : Nat → ClassId) (E : Nat → Nat) (base : Nat) (h : pm_H) (U : State) (H : Heap) : Prop :=
  (∀ (i n : Nat) (f : Nat → Int32), i < 16 → h.2.2 i = .inl (2, n, .inl f) → va_T .byte (E i) n (fun j => .int (f j)) (fun q => base ≤ q) U H) ∧
  (∀ i, 7 ≤ i → i < 11 → E i = aC (20 + i) ∧ va_O "java/lang/String" (E i) (fun q => base ≤ q) U H ∧ va_OF "java/lang/String" "coder" "B" (.int 0) (E i) (fun q => base ≤ q) U H ∧ va_OF "java/lang/String" "value" "[B" (.ref (E (i + 4))) (E i) (fun q => base ≤ q) U H) ∧
  va_Z "java/lang/String" "COMPACT_STRINGS" "Z" (.int 1) (fun q => base ≤ q) U H ∧
  va_Z "jdk/internal/util/Preconditions" "SIOOBE_FORMATTER" "Ljava/util/function/BiFunction;" (pm_tr E base (pm_fmt h)) (fun q => base ≤ q) U H
theorem pm_GX.moved {aC : Nat → ClassId} {E : Nat → Nat} {base : Nat} {h : pm_H} {u U : State} {H : Heap} (ha : u.vm.Alike U.vm) (g : pm_GX aC E base h u H) : pm_GX aC E base h U H :=
  ⟨fun i n f h1 h2 => va_T.moved ha (g.1 i n f h1 h2), fun i h1 h2 => ⟨(g.2.1 i h1 h2).1, va_O.moved ha (g.2.1 i h1 h2).2.1, va_OF.moved ha (g.2.1 i h1 h2).2.2.1, va_OF.moved ha (g.2.1 i h1 h2).2.2.2⟩, va_Z.moved ha g.2.2.1, va_Z.moved ha g.2.2.2⟩
theorem pm_GX.to {aC : Nat → ClassId} {E : Nat → Nat} {base : Nat} {h h' : pm_H} {U : State} {H H1 : Heap} (hh : ∀ i, i < 16 → h'.2.2 i = h.2.2 i) (hold : ∀ a : Nat, a < H.size → ¬ base ≤ a → H1[a]? = H[a]?) (g : pm_GX aC E base h U H) : pm_GX aC E base h' U H1 := by
  have ef : pm_fmt h' = pm_fmt h := by unfold pm_fmt; rw [hh 15 (by decide)]
  refine ⟨fun i n f h1 h2 => (g.1 i n f h1 (by rw [← hh i h1]; exact h2)).kept hold, fun i h1 h2 => ⟨(g.2.1 i h1 h2).1, (g.2.1 i h1 h2).2.1.kept hold, (g.2.1 i h1 h2).2.2.1.kept hold, (g.2.1 i h1 h2).2.2.2.kept hold⟩, g.2.2.1.kept hold, ?_⟩
  rw [ef]
  exact g.2.2.2.kept hold
/-- the heap stands for the pure one -/
def pm_GD (D : va_G) (aC : Nat → ClassId) (E : Nat → Nat) (base : Nat) (h : pm_H) (U : State) (H : Heap) : Prop := H.size + 16 = base + h.1 ∧ 16 ≤ h.1 ∧ (∀ i, 16 ≤ i → i < h.1 → va_at D pm_cl (pm_ad E base i, pm_trE aC E base (h.2.2 i)) H) ∧ ((∀ i, 1 ≤ i → i < 7 → va_Z "SilentTable" (pm_sn i) "[I" (.ref (E i)) (fun q => base ≤ q) U H) ∧ pm_GX aC E base h U H) ∧ (∀ (i n : Nat) (f : Nat → Int32), i < 16 → h.2.2 i = .inl (0, n, .inl f) → va_T .int (E i) n (fun j => .int (f j)) (fun q => base ≤ q) U H) ∧ pm_byt h
theorem pm_GS.warm {D : va_G} {aC : Nat → ClassId} {s U : State} (hW : s.WarmedH U.vm) (h : pm_GS D aC s) : pm_GS D aC U := by
  refine ⟨va_K.moved hW.alike h.1, fun w hw hn => ?_, fun C hC => va_AO.moved hW.alike (h.2.2.1 C hC), fun i h1 h2 => vk_R.warm hW (h.2.2.2 i h1 h2)⟩
  have h0 := h.2.1 w hw hn
  cases w <;> first | (simp [pm_nest] at hn; done) | exact va_Nw.warmF hW h0 | exact va_Nw.warmM hW h0 | exact va_Nw.warmC hW h0
theorem pm_GS.same {D : va_G} {aC : Nat → ClassId} {s U : State} (hv : s.vm = U.vm) (h : pm_GS D aC s) : pm_GS D aC U := by
  have ha : s.vm.Alike U.vm := by rw [hv]; exact Vm.Alike.refl _
  refine ⟨va_K.moved ha h.1, fun w hw hn => ?_, fun C hC => va_AO.moved ha (h.2.2.1 C hC), fun i h1 h2 => vk_R.same hv.symm (h.2.2.2 i h1 h2)⟩
  have h0 := h.2.1 w hw hn
  refine va_Nw.same ?_ hv h0
  cases w <;> first | (simp [pm_nest] at hn; done) | rfl
theorem pm_GD.moved {D : va_G} {aC : Nat → ClassId} {E : Nat → Nat} {base : Nat} {h : pm_H} {u U : State} {H : Heap} (ha : u.vm.Alike U.vm) (g : pm_GD D aC E base h u H) : pm_GD D aC E base h U H :=
  ⟨g.1, g.2.1, g.2.2.1, ⟨fun i h1 h2 => va_Z.moved ha (g.2.2.2.1.1 i h1 h2), g.2.2.2.1.2.moved ha⟩, fun i n f h1 h2 => va_T.moved ha (g.2.2.2.2.1 i n f h1 h2), g.2.2.2.2.2⟩
theorem pm_ad_new {E : Nat → Nat} {base i : Nat} (h : 16 ≤ i) : pm_ad E base i = base + (i - 16) := if_neg (by omega)
theorem pm_ad_inj {E : Nat → Nat} {base i j : Nat} (hi : 16 ≤ i) (hj : 16 ≤ j) (h : pm_ad E base i = pm_ad E base j) : i = j := by
  rw [pm_ad_new hi, pm_ad_new hj] at h
  omega
theorem pm_tr_cat (E : Nat → Nat) (base : Nat) (v : Value) : (pm_tr E base v).category = v.category := by cases v <;> rfl
theorem pm_tr_sum (E : Nat → Nat) (base : Nat) (st : List Value) : ((st.map (pm_tr E base)).map fun v => v.category).sum = (st.map fun v => v.category).sum := by
  rw [List.map_map]
  congr 1
  exact List.map_congr_left (fun v _ => pm_tr_cat E base v)
/-- one cell is written -/
theorem pm_GD.put {D : va_G} {aC : Nat → ClassId} {E : Nat → Nat} {base : Nat} {h : pm_H} {U : State} {H H1 : Heap} {i : Nat} {e : pm_E} (g : pm_GD D aC E base h U H) (hi : 16 ≤ i) (hn : i < h.1) (hc : va_at D pm_cl (pm_ad E base i, pm_trE aC E base e) H1) (z : H1.size = H.size) (o : ∀ q, q ≠ pm_ad E base i → H1[q]? = H[q]?) (hby : ∀ (n : Nat) (f : Nat → Int32), e = .inl (2, n, .inl f) → ∀ j, fits .byte (.int (f j)) = true) : pm_GD D aC E base (pm_set h i e) U H1 := by
  have hold : ∀ a : Nat, a < H.size → ¬ base ≤ a → H1[a]? = H[a]? := fun a _ ha => o a (by rw [pm_ad_new hi]; omega)
  refine ⟨by rw [z]; exact g.1, g.2.1, fun j h1 h2 => ?_, ⟨fun j h1 h2 => (g.2.2.2.1.1 j h1 h2).kept hold, g.2.2.2.1.2.to (fun j hj => by simp [pm_set, va_up, show ¬ j = i by omega]) hold⟩, fun j n f h1 h2 => ?_, fun j n f h2 => ?_⟩
  · by_cases hj : j = i
    · subst hj
      have : (pm_set h j e).2.2 j = e := by simp [pm_set, va_up]
      rw [this]
      exact hc
    · have : (pm_set h i e).2.2 j = h.2.2 j := by simp [pm_set, va_up, hj]
      rw [this]
      exact (g.2.2.1 j h1 h2).kept (o _ (fun q => hj (pm_ad_inj h1 hi q)))
  · have : (pm_set h i e).2.2 j = h.2.2 j := by simp [pm_set, va_up, show ¬ j = i by omega]
    rw [this] at h2
    exact (g.2.2.2.2.1 j n f h1 h2).kept hold
  · by_cases hj : j = i
    · subst hj
      have : (pm_set h j e).2.2 j = e := by simp [pm_set, va_up]
      rw [this] at h2
      exact hby n f h2
    · have : (pm_set h i e).2.2 j = h.2.2 j := by simp [pm_set, va_up, hj]
      rw [this] at h2
      exact g.2.2.2.2.2 j n f h2
/-- one cell is made -/
theorem pm_GD.push {D : va_G} {aC : Nat → ClassId} {E : Nat → Nat} {base : Nat} {h : pm_H} {U : State} {H H1 : Heap} {e : pm_E} {k : Nat} (g : pm_GD D aC E base h U H) (hc : va_at D pm_cl (H.size, pm_trE aC E base e) H1) (z : H1.size = H.size + 1) (o : ∀ q, q < H.size → H1[q]? = H[q]?) (hby : ∀ (n : Nat) (f : Nat → Int32), e = .inl (2, n, .inl f) → ∀ j, fits .byte (.int (f j)) = true) : pm_GD D aC E base (pm_push h e k) U H1 := by
  have hs := g.1
  have h16 := g.2.1
  have hold : ∀ a : Nat, a < H.size → ¬ base ≤ a → H1[a]? = H[a]? := fun a ha _ => o a ha
  have hsz : pm_ad E base h.1 = H.size := by rw [pm_ad_new h16]; omega
  refine ⟨by show H1.size + 16 = base + (h.1 + 1); omega, by show 16 ≤ h.1 + 1; omega, fun j h1 h2 => ?_, ⟨fun j h1 h2 => (g.2.2.2.1.1 j h1 h2).kept hold, g.2.2.2.1.2.to (fun j hj => by simp [pm_push, va_up, show ¬ j = h.1 by omega]) hold⟩, fun j n f h1 h2 => ?_, fun j n f h2 => ?_⟩
  · by_cases hj : j = h.1
    · subst hj
      have : (pm_push h e k).2.2 h.1 = e := by simp [pm_push, va_up]
      rw [this, hsz]
      exact hc
    · have : (pm_push h e k).2.2 j = h.2.2 j := by simp [pm_push, va_up, hj]
      rw [this]
      have h2' : j < h.1 + 1 := h2
      have hjl : j < h.1 := by omega
      exact (g.2.2.1 j h1 hjl).kept (o _ (by rw [pm_ad_new h1]; omega))
  · have : (pm_push h e k).2.2 j = h.2.2 j := by simp [pm_push, va_up, show ¬ j = h.1 by omega]
    rw [this] at h2
    exact (g.2.2.2.2.1 j n f h1 h2).kept hold
  · by_cases hj : j = h.1
    · subst hj
      have : (pm_push h e k).2.2 h.1 = e := by simp [pm_push, va_up]
      rw [this] at h2
      exact hby n f h2
    · have : (pm_push h e k).2.2 j = h.2.2 j := by simp [pm_push, va_up, hj]
      rw [this] at h2
      exact g.2.2.2.2.2 j n f h2
/-- locals -/
def pm_LR (E : Nat → Nat) (base : Nat) (ls : Array Slot) (pl : List Value) : Prop := ls.size = pl.length ∧ lv_wf ls ∧ ∀ (i : Nat) (v : Value), pl[i]? = some v → pm_isV v = true → ls[i]? = some (.val (pm_tr E base v))
def pm_as (E : Nat → Nat) (base : Nat) (pl : List Value) : List (Nat × Value) := ((List.range pl.length).filter (fun i => pm_isV (pl.getD i pm_no))).map (fun i => (i, pm_tr E base (pl.getD i pm_no)))
theorem pm_as_mem {E : Nat → Nat} {base : Nat} {pl : List Value} {i : Nat} {v : Value} (h : pl[i]? = some v) (hv : pm_isV v = true) : (i, pm_tr E base v) ∈ pm_as E base pl := by
  have hi : i < pl.length := (List.getElem?_eq_some_iff.mp h).1
  have e : pl.getD i pm_no = v := by rw [List.getD_eq_getElem?_getD, h]; rfl
  exact List.mem_map.mpr ⟨i, List.mem_filter.mpr ⟨List.mem_range.mpr hi, by rw [e]; exact hv⟩, by rw [e]⟩
theorem pm_as_has {E : Nat → Nat} {base : Nat} {ls : Array Slot} {pl : List Value} (h : pm_LR E base ls pl) : lv_has ls pl.length (pm_as E base pl) := by
  refine ⟨h.1, h.2.1, fun q hq => ?_⟩
  obtain ⟨i, hi, rfl⟩ := List.mem_map.mp hq
  obtain ⟨hr, hv⟩ := List.mem_filter.mp hi
  have hr := List.mem_range.mp hr
  exact h.2.2 i _ (by rw [List.getD_eq_getElem?_getD, List.getElem?_eq_getElem hr]; rfl) hv
theorem pm_kill_len (pl : List Value) (i : Nat) : (pm_kill pl i).length = pl.length := by
  unfold pm_kill
  cases i with
  | zero => rfl
  | succ j =>
    dsimp only
    cases pl[j]? with
    | none => rfl
    | some v =>
      dsimp only
      split
      · exact List.length_set
      · rfl
theorem pm_kill_get {pl : List Value} {i j : Nat} {v : Value} (h : (pm_kill pl i)[j]? = some v) (hv : pm_isV v = true) : pl[j]? = some v ∧ ¬ (j + 1 = i ∧ v.category = 2) := by
  unfold pm_kill at h
  cases i with
  | zero => exact ⟨h, fun q => by omega⟩
  | succ k =>
    dsimp only at h
    cases hk : pl[k]? with
    | none =>
      rw [hk] at h
      refine ⟨h, fun q => ?_⟩
      have hjk : j = k := by omega
      subst hjk
      rw [hk] at h
      cases h
    | some u =>
      rw [hk] at h
      dsimp only at h
      by_cases hu : u.category = 2
      · rw [if_pos hu] at h
        by_cases hjk : j = k
        · subst hjk
          have hl : j < pl.length := (List.getElem?_eq_some_iff.mp hk).1
          rw [List.getElem?_set_self hl] at h
          cases h
          cases hv
        · rw [List.getElem?_set_ne (fun q => hjk q.symm)] at h
          exact ⟨h, fun q => hjk (by omega)⟩
      · rw [if_neg hu] at h
        refine ⟨h, fun q => hu ?_⟩
        have hjk : j = k := by omega
        subst hjk
        cases hk.symm.trans h
        exact q.2
theorem pm_LR_st1 {E : Nat → Nat} {base : Nat} {ls' : Array Slot} {pl pl' : List Value} {i : Nat} {v : Value} (h : pm_st1 pl i v = some pl') (hl : lv_has ls' pl.length ((i, pm_tr E base v) :: (pm_as E base pl).filter (fun q => !(q.1 == i) && !(q.1 + 1 == i && q.2.category == 2)))) : pm_LR E base ls' pl' := by
  unfold pm_st1 at h
  split at h
  case isFalse => cases h
  case isTrue hi =>
    cases h
    refine ⟨by rw [List.length_set, pm_kill_len]; exact hl.1, hl.2.1, fun j w hj hw => ?_⟩
    by_cases hji : j = i
    · subst hji
      rw [List.getElem?_set_self (by rw [pm_kill_len]; exact hi)] at hj
      cases hj
      exact hl.2.2 (j, pm_tr E base v) List.mem_cons_self
    · rw [List.getElem?_set_ne (fun q => hji q.symm)] at hj
      obtain ⟨h1, h2⟩ := pm_kill_get hj hw
      refine hl.2.2 (j, pm_tr E base w) (List.mem_cons_of_mem _ (List.mem_filter.mpr ⟨pm_as_mem h1 hw, ?_⟩))
      simp only [Bool.and_eq_true, Bool.not_eq_true', Bool.and_eq_false_imp, beq_eq_false_iff_ne, beq_iff_eq, ne_eq, pm_tr_cat]
      exact ⟨hji, fun q r => h2 ⟨q, r⟩⟩
theorem pm_LR_st2 {E : Nat → Nat} {base : Nat} {ls' : Array Slot} {pl pl' : List Value} {i : Nat} {v : Value} (h : pm_st2 pl i v = some pl') (hl : lv_has ls' pl.length ((i, pm_tr E base v) :: (pm_as E base pl).filter (fun q => !(q.1 == i) && (!(q.1 == i + 1) && !(q.1 + 1 == i && q.2.category == 2))))) : pm_LR E base ls' pl' := by
  unfold pm_st2 at h
  split at h
  case isFalse => cases h
  case isTrue hi =>
    cases h
    refine ⟨by rw [List.length_set, List.length_set, pm_kill_len]; exact hl.1, hl.2.1, fun j w hj hw => ?_⟩
    by_cases hj1 : j = i + 1
    · subst hj1
      rw [List.getElem?_set_self (by rw [List.length_set, pm_kill_len]; exact hi)] at hj
      cases hj
      cases hw
    · rw [List.getElem?_set_ne (fun q => hj1 q.symm)] at hj
      by_cases hji : j = i
      · subst hji
        rw [List.getElem?_set_self (by rw [pm_kill_len]; omega)] at hj
        cases hj
        exact hl.2.2 (j, pm_tr E base v) List.mem_cons_self
      · rw [List.getElem?_set_ne (fun q => hji q.symm)] at hj
        obtain ⟨h1, h2⟩ := pm_kill_get hj hw
        refine hl.2.2 (j, pm_tr E base w) (List.mem_cons_of_mem _ (List.mem_filter.mpr ⟨pm_as_mem h1 hw, ?_⟩))
        simp only [Bool.and_eq_true, Bool.not_eq_true', Bool.and_eq_false_imp, beq_eq_false_iff_ne, beq_iff_eq, ne_eq, pm_tr_cat]
        exact ⟨hji, hj1, fun q r => h2 ⟨q, r⟩⟩
section PMS
variable {p : Program} {l : Launch} {e : Env} {R : Room} {s : State} {m : MethodId} {args : Array Value} {below : List Frame} {meth : Method} {c : Code} {H : Heap} {locs : List Loc} {cells slots : Nat} {Q : State → Prop}
variable {cc : ByteArray} {pc : Nat} {ls : Array Slot} {E : Nat → Nat} {base : Nat}
set_option maxHeartbeats 4000000 in
/-- the stack alone -/
theorem pm_sim_op (hx : p.tables.exec = Jvm.exec) (hb : c.code = cc) {i : Instr} {st st' : List Value} (hdg : decode cc pc = .ok (i, pm_len i)) (h : pm_op i st = some st') (k : W p l e R s m args below meth c H locs cells slots Q (F0 m (pc + pm_len i) ls (st'.map (pm_tr E base)))) : W p l e R s m args below meth c H locs cells slots Q (F0 m pc ls (st.map (pm_tr E base))) := by
  unfold pm_op at h
  split at h
  · cases h; exact lv_iconst hx hb hdg rfl k
  · cases h; exact lv_bipush hx hb hdg rfl k
  · cases h; exact lv_sipush hx hb hdg rfl k
  · cases h; exact lv_lconst hx hb hdg rfl k
  · cases h; exact lv_null hx hb hdg k
  · cases h; exact lv_iadd hx hb hdg k
  · cases h; exact lv_isub hx hb hdg k
  · cases h; exact lv_imul hx hb hdg k
  · cases h; exact lv_iand hx hb hdg k
  · cases h; exact lv_ior hx hb hdg k
  · cases h; exact lv_ixor hx hb hdg k
  · split at h
    · cases h
    · rename_i hne; cases h; exact lv_idiv hx hb hdg hne k
  · split at h
    · cases h
    · rename_i hne; cases h; exact lv_irem hx hb hdg hne k
  · cases h; exact lv_ishl hx hb hdg k
  · cases h; exact lv_ishr hx hb hdg k
  · cases h; exact lv_iushr hx hb hdg rfl k
  · cases h; exact lv_ladd hx hb hdg k
  · cases h; exact lv_lsub hx hb hdg k
  · cases h; exact lv_lmul hx hb hdg k
  · cases h; exact lv_land hx hb hdg k
  · cases h; exact lv_lor hx hb hdg k
  · split at h
    · cases h
    · rename_i hne; cases h; exact lv_ldiv hx hb hdg hne k
  · split at h
    · cases h
    · rename_i hne; cases h; exact lv_lrem hx hb hdg hne k
  · cases h; exact lv_lushr hx hb hdg rfl k
  · cases h; exact lv_lshl hx hb hdg rfl k
  · cases h; exact lv_lshr hx hb hdg rfl k
  · cases h; exact W.lcmp hx hb hdg k
  · cases h; exact lv_i2l hx hb hdg rfl k
  · cases h; exact lv_l2i hx hb hdg rfl k
  · cases h; exact lv_i2b hx hb hdg rfl k
  · cases h; exact lv_i2c hx hb hdg rfl k
  · split at h
    · rename_i hv; cases h; exact lv_dup hx hb hdg (by rw [pm_tr_cat]; exact hv) k
    · cases h
  · split at h
    · rename_i hv; cases h; exact lv_pop hx hb hdg (by rw [pm_tr_cat]; exact hv) k
    · cases h
  · split at h
    · rename_i hv; cases h; exact lv_dup2_11 hx hb hdg (by rw [pm_tr_cat]; exact hv.1) (by rw [pm_tr_cat]; exact hv.2) k
    · split at h
      · rename_i hv; cases h; exact lv_dup2_2 hx hb hdg (by rw [pm_tr_cat]; exact hv) k
      · cases h
  · split at h
    · rename_i hv; cases h; exact lv_dup2_2 hx hb hdg (by rw [pm_tr_cat]; exact hv) k
    · cases h
  · split at h
    · rename_i hv; cases h; exact lv_pop2_2 hx hb hdg (by rw [pm_tr_cat]; exact hv) k
    · cases h
  · cases h
theorem pm_ldi_spec {pl st st' : List Value} {i : Nat} (h : pm_ldi pl i st = some st') : ∃ x, pl[i]? = some (.int x) ∧ st' = .int x :: st := by
  unfold pm_ldi at h
  split at h
  case h_1 x hx => cases h; exact ⟨x, hx, rfl⟩
  case h_2 => cases h
theorem pm_ldl_spec {pl st st' : List Value} {i : Nat} (h : pm_ldl pl i st = some st') : ∃ x, pl[i]? = some (.long x) ∧ st' = .long x :: st := by
  unfold pm_ldl at h
  split at h
  case h_1 x hx => cases h; exact ⟨x, hx, rfl⟩
  case h_2 => cases h
theorem pm_lda_spec {pl st st' : List Value} {i : Nat} (h : pm_lda pl i st = some st') : (∃ x, pl[i]? = some (.ref x) ∧ st' = .ref x :: st) ∨ (pl[i]? = some .null ∧ st' = .null :: st) := by
  unfold pm_lda at h
  split at h
  case h_1 x hx => cases h; exact Or.inl ⟨x, hx, rfl⟩
  case h_2 hx => cases h; exact Or.inr ⟨hx, rfl⟩
  case h_3 => cases h
theorem pm_sti_spec {pl st : List Value} {i : Nat} {z : List Value × List Value} (h : pm_sti pl i st = some z) : ∃ x, st = .int x :: z.2 ∧ pm_st1 pl i (.int x) = some z.1 := by
  unfold pm_sti at h
  split at h
  case h_1 x st =>
    obtain ⟨a, h1, rfl⟩ := Option.map_eq_some_iff.mp h
    exact ⟨x, rfl, h1⟩
  case h_2 => cases h
theorem pm_stl_spec {pl st : List Value} {i : Nat} {z : List Value × List Value} (h : pm_stl pl i st = some z) : ∃ x, st = .long x :: z.2 ∧ pm_st2 pl i (.long x) = some z.1 := by
  unfold pm_stl at h
  split at h
  case h_1 x st =>
    obtain ⟨a, h1, rfl⟩ := Option.map_eq_some_iff.mp h
    exact ⟨x, rfl, h1⟩
  case h_2 => cases h
theorem pm_sta_spec {pl st : List Value} {i : Nat} {z : List Value × List Value} (h : pm_sta pl i st = some z) : (∃ x, st = .ref x :: z.2 ∧ pm_st1 pl i (.ref x) = some z.1) ∨ (st = .null :: z.2 ∧ pm_st1 pl i .null = some z.1) := by
  unfold pm_sta at h
  split at h
  case h_1 x st =>
    obtain ⟨a, h1, rfl⟩ := Option.map_eq_some_iff.mp h
    exact Or.inl ⟨x, rfl, h1⟩
  case h_2 st =>
    obtain ⟨a, h1, rfl⟩ := Option.map_eq_some_iff.mp h
    exact Or.inr ⟨rfl, h1⟩
  case h_3 => cases h
theorem pm_st1_lt {pl pl' : List Value} {i : Nat} {v : Value} (h : pm_st1 pl i v = some pl') : i < pl.length := by
  unfold pm_st1 at h
  split at h
  · assumption
  · cases h
theorem pm_st2_lt {pl pl' : List Value} {i : Nat} {v : Value} (h : pm_st2 pl i v = some pl') : i + 1 < pl.length := by
  unfold pm_st2 at h
  split at h
  · assumption
  · cases h
set_option maxHeartbeats 4000000 in
/-- the locals -/
theorem pm_sim_lo (hx : p.tables.exec = Jvm.exec) (hb : c.code = cc) {i : Instr} {pl st : List Value} {z : List Value × List Value} (hdg : decode cc pc = .ok (i, pm_len i)) (hl : pm_LR E base ls pl) (h : pm_lo i pl st = some z) (k : ∀ ls' : Array Slot, pm_LR E base ls' z.1 → W p l e R s m args below meth c H locs cells slots Q (F0 m (pc + pm_len i) ls' (z.2.map (pm_tr E base)))) : W p l e R s m args below meth c H locs cells slots Q (F0 m pc ls (st.map (pm_tr E base))) := by
  unfold pm_lo at h
  split at h
  · obtain ⟨a, h1, rfl⟩ := Option.map_eq_some_iff.mp h
    obtain ⟨x, h2, rfl⟩ := pm_ldi_spec h1
    exact lv_iload hx hb hdg (hl.2.2 _ _ h2 rfl) (k ls hl)
  · obtain ⟨a, h1, rfl⟩ := Option.map_eq_some_iff.mp h
    obtain ⟨x, h2, rfl⟩ := pm_ldi_spec h1
    exact lv_iload_n hx hb hdg rfl (hl.2.2 _ _ h2 rfl) (k ls hl)
  · obtain ⟨a, h1, rfl⟩ := Option.map_eq_some_iff.mp h
    obtain ⟨x, h2, rfl⟩ := pm_ldl_spec h1
    exact lv_lload hx hb hdg (hl.2.2 _ _ h2 rfl) (k ls hl)
  · obtain ⟨a, h1, rfl⟩ := Option.map_eq_some_iff.mp h
    obtain ⟨x, h2, rfl⟩ := pm_ldl_spec h1
    exact lv_lload_n hx hb hdg rfl (hl.2.2 _ _ h2 rfl) (k ls hl)
  · obtain ⟨a, h1, rfl⟩ := Option.map_eq_some_iff.mp h
    rcases pm_lda_spec h1 with ⟨x, h2, rfl⟩ | ⟨h2, rfl⟩
    · exact lv_aload hx hb hdg (hl.2.2 _ _ h2 rfl) (k ls hl)
    · exact lv_aloadN hx hb hdg (hl.2.2 _ _ h2 rfl) (k ls hl)
  · obtain ⟨a, h1, rfl⟩ := Option.map_eq_some_iff.mp h
    rcases pm_lda_spec h1 with ⟨x, h2, rfl⟩ | ⟨h2, rfl⟩
    · exact lv_aload_n hx hb hdg rfl (hl.2.2 _ _ h2 rfl) (k ls hl)
    · exact lv_aload_nN hx hb hdg rfl (hl.2.2 _ _ h2 rfl) (k ls hl)
  · obtain ⟨x, rfl, h2⟩ := pm_sti_spec h
    exact lv_istore hx hb hdg (pm_as_has hl) (pm_st1_lt h2) rfl (fun ls' hl' => k ls' (pm_LR_st1 h2 hl'))
  · obtain ⟨x, rfl, h2⟩ := pm_sti_spec h
    exact lv_istore_n hx hb hdg rfl (pm_as_has hl) (pm_st1_lt h2) rfl (fun ls' hl' => k ls' (pm_LR_st1 h2 hl'))
  · obtain ⟨x, rfl, h2⟩ := pm_stl_spec h
    exact lv_lstore hx hb hdg (pm_as_has hl) (pm_st2_lt h2) rfl (fun ls' hl' => k ls' (pm_LR_st2 h2 hl'))
  · obtain ⟨x, rfl, h2⟩ := pm_stl_spec h
    exact lv_lstore_n hx hb hdg rfl (pm_as_has hl) (pm_st2_lt h2) rfl (fun ls' hl' => k ls' (pm_LR_st2 h2 hl'))
  · rcases pm_sta_spec h with ⟨x, rfl, h2⟩ | ⟨rfl, h2⟩
    · exact lv_astore hx hb hdg (pm_as_has hl) (pm_st1_lt h2) rfl (fun ls' hl' => k ls' (pm_LR_st1 h2 hl'))
    · exact lv_astoreN hx hb hdg (pm_as_has hl) (pm_st1_lt h2) rfl (fun ls' hl' => k ls' (pm_LR_st1 h2 hl'))
  · rcases pm_sta_spec h with ⟨x, rfl, h2⟩ | ⟨rfl, h2⟩
    · exact lv_astore_n hx hb hdg rfl (pm_as_has hl) (pm_st1_lt h2) rfl (fun ls' hl' => k ls' (pm_LR_st1 h2 hl'))
    · exact lv_astore_nN hx hb hdg rfl (pm_as_has hl) (pm_st1_lt h2) rfl (fun ls' hl' => k ls' (pm_LR_st1 h2 hl'))
  · obtain ⟨a, h1, rfl⟩ := Option.map_eq_some_iff.mp h
    unfold pm_inc at h1
    split at h1
    case h_1 x hx2 =>
      obtain ⟨j, hj⟩ := List.getElem?_of_mem (pm_as_mem (E := E) (base := base) hx2 rfl)
      exact lv_iinc hx hb hdg (pm_as_has hl) hj rfl (pm_st1_lt h1) rfl (fun ls' hl' => k ls' (pm_LR_st1 h1 hl'))
    case h_2 => cases h1
  · cases h
theorem pm_to_spec {pc t : Nat} {off : Int} (h : pm_to pc off = some t) : (pc : Int) + off = (t : Int) := by
  unfold pm_to at h
  split at h
  · cases h; omega
  · cases h
theorem pm_if_spec {c : Prop} {d : Decidable c} {pc : Nat} {off : Int} {st : List Value} {z : Nat × List Value} (h : pm_if c d pc off st = some z) : ∃ t : Nat, (pc : Int) + off = (t : Int) ∧ z.2 = st ∧ (c → z.1 = t) ∧ (¬ c → z.1 = pc + 3) := by
  unfold pm_if at h
  obtain ⟨t, h1, h2⟩ := Option.bind_eq_some_iff.mp h
  cases h2
  exact ⟨t, pm_to_spec h1, rfl, fun hc => if_pos hc, fun hc => if_neg hc⟩
theorem pm_ref_spec {v : Value} {r : Option Nat} (h : pm_ref v = some r) : v = va_rf r ∧ ∀ a, r = some a → 16 ≤ a := by
  unfold pm_ref at h
  split at h
  · cases h; exact ⟨rfl, fun a h => by cases h⟩
  · split at h
    · rename_i h16; cases h; exact ⟨rfl, fun a h => by cases h; exact h16⟩
    · cases h
  · cases h
theorem pm_ref_tr (E : Nat → Nat) (base : Nat) (r : Option Nat) : pm_tr E base (va_rf r) = va_rf (r.map (pm_ad E base)) := by cases r <;> rfl
theorem pm_ref_eq {E : Nat → Nat} {base : Nat} {a b : Option Nat} (ha : ∀ x, a = some x → 16 ≤ x) (hb : ∀ x, b = some x → 16 ≤ x) : a.map (pm_ad E base) = b.map (pm_ad E base) ↔ a = b := by
  constructor
  · intro h
    cases a with
    | none => cases b with
      | none => rfl
      | some y => cases h
    | some x => cases b with
      | none => cases h
      | some y => rw [pm_ad_inj (ha x rfl) (hb y rfl) (Option.some.inj h)]
  · intro h; rw [h]
set_option maxHeartbeats 4000000 in
/-- branches -/
theorem pm_sim_br (hx : p.tables.exec = Jvm.exec) (hb : c.code = cc) {i : Instr} {L : Nat} {st : List Value} {z : Nat × List Value} (hdg : decode cc pc = .ok (i, L)) (hL : pm_len i = 0 ∨ L = pm_len i) (h : pm_br i pc st = some z) (k : W p l e R s m args below meth c H locs cells slots Q (F0 m z.1 ls (z.2.map (pm_tr E base)))) : W p l e R s m args below meth c H locs cells slots Q (F0 m pc ls (st.map (pm_tr E base))) := by
  unfold pm_br at h
  split at h
  · rcases hL with hL | rfl
    · cases hL
    obtain ⟨t, h1, rfl⟩ := Option.map_eq_some_iff.mp h
    exact lv_goto hx hb hdg (pm_to_spec h1) k
  · rename_i cd off x st
    rcases hL with hL | rfl
    · cases hL
    obtain ⟨t, h1, h2, h3, h4⟩ := pm_if_spec h
    rw [h2] at k
    cases cd
    · exact lv_if_eq hx hb hdg h1 (fun q => by rw [h3 q] at k; exact k) (fun q => by rw [h4 q] at k; exact k)
    · exact lv_if_ne hx hb hdg h1 (fun q => by rw [h3 q] at k; exact k) (fun q => by rw [h4 (fun z => z q)] at k; exact k)
    · exact lv_if_lt hx hb hdg h1 (fun q => by rw [h3 q] at k; exact k) (fun q => by rw [h4 q] at k; exact k)
    · exact lv_if_ge hx hb hdg h1 (fun q => by rw [h3 q] at k; exact k) (fun q => by rw [h4 q] at k; exact k)
    · exact lv_if_gt hx hb hdg h1 (fun q => by rw [h3 q] at k; exact k) (fun q => by rw [h4 q] at k; exact k)
    · exact lv_if_le hx hb hdg h1 (fun q => by rw [h3 q] at k; exact k) (fun q => by rw [h4 q] at k; exact k)
  · rename_i cd off y x st
    rcases hL with hL | rfl
    · cases hL
    obtain ⟨t, h1, h2, h3, h4⟩ := pm_if_spec h
    rw [h2] at k
    cases cd
    · exact lv_icmp_eq hx hb hdg h1 (fun q => by rw [h3 q] at k; exact k) (fun q => by rw [h4 q] at k; exact k)
    · exact lv_icmp_ne hx hb hdg h1 (fun q => by rw [h3 q] at k; exact k) (fun q => by rw [h4 (fun z => z q)] at k; exact k)
    · exact lv_icmp_lt hx hb hdg h1 (fun q => by rw [h3 q] at k; exact k) (fun q => by rw [h4 q] at k; exact k)
    · exact lv_icmp_ge hx hb hdg h1 (fun q => by rw [h3 q] at k; exact k) (fun q => by rw [h4 q] at k; exact k)
    · exact lv_icmp_gt hx hb hdg h1 (fun q => by rw [h3 q] at k; exact k) (fun q => by rw [h4 q] at k; exact k)
    · exact lv_icmp_le hx hb hdg h1 (fun q => by rw [h3 q] at k; exact k) (fun q => by rw [h4 q] at k; exact k)
  · rcases hL with hL | rfl
    · cases hL
    obtain ⟨t, h1, rfl⟩ := Option.map_eq_some_iff.mp h
    exact lv_ifnullN hx hb hdg (pm_to_spec h1) k
  · rcases hL with hL | rfl
    · cases hL
    cases h
    exact lv_ifnull hx hb hdg k
  · rcases hL with hL | rfl
    · cases hL
    obtain ⟨t, h1, rfl⟩ := Option.map_eq_some_iff.mp h
    exact lv_ifnonnull hx hb hdg (pm_to_spec h1) k
  · rcases hL with hL | rfl
    · cases hL
    cases h
    exact lv_ifnonnullN hx hb hdg k
  · rename_i cd off y x st
    rcases hL with hL | rfl
    · cases hL
    obtain ⟨b, hb1, hz1⟩ := Option.bind_eq_some_iff.mp h
    obtain ⟨a, ha1, hz2⟩ := Option.bind_eq_some_iff.mp hz1
    clear h hz1
    obtain ⟨rfl, hb2⟩ := pm_ref_spec hb1
    obtain ⟨rfl, ha2⟩ := pm_ref_spec ha1
    have hq : a.map (pm_ad E base) = b.map (pm_ad E base) ↔ a = b := pm_ref_eq ha2 hb2
    show W p l e R s m args below meth c H locs cells slots Q (F0 m pc ls (pm_tr E base (va_rf b) :: pm_tr E base (va_rf a) :: st.map (pm_tr E base)))
    rw [pm_ref_tr, pm_ref_tr]
    cases cd
    · obtain ⟨t, h1, h2, h3, h4⟩ := pm_if_spec hz2
      rw [h2] at k
      exact lv_acmp_eq hx hb hdg h1 (fun q => by rw [h3 (hq.mp q)] at k; exact k) (fun q => by rw [h4 (fun z => q (hq.mpr z))] at k; exact k)
    · obtain ⟨t, h1, h2, h3, h4⟩ := pm_if_spec hz2
      rw [h2] at k
      exact lv_acmp_ne hx hb hdg h1 (fun q => by rw [h3 (fun z => q (hq.mpr z))] at k; exact k) (fun q => by rw [h4 (fun z => z (hq.mp q))] at k; exact k)
  · split at h
    · rename_i hd
      obtain ⟨t, h1, rfl⟩ := Option.map_eq_some_iff.mp h
      exact lv_tableOut hx hb hdg hd (pm_to_spec h1) k
    · rename_i hd
      obtain ⟨o, ho, h⟩ := Option.bind_eq_some_iff.mp h
      obtain ⟨t, h1, rfl⟩ := Option.map_eq_some_iff.mp h
      exact lv_tableIn hx hb hdg (fun q => hd (Or.inl q)) (fun q => hd (Or.inr q)) ho (pm_to_spec h1) k
  · split at h
    · rename_i hd
      obtain ⟨t, h1, rfl⟩ := Option.map_eq_some_iff.mp h
      exact lv_lookup hx hb hdg hd rfl (pm_to_spec h1) k
    · cases h
  · cases h
end PMS
