section PMT
variable {p : Program} {l : Launch} {e : Env} {R : Room} {s : State} {m : MethodId} {args : Array Value} {below : List Frame} {meth : Method} {c : Code} {H : Heap} {locs : List Loc} {cells slots : Nat} {Q : State → Prop}
variable {cc : ByteArray} {pc : Nat} {ls : Array Slot} {E : Nat → Nat} {base : Nat} {D : va_G} {aC : Nat → ClassId} {h : pm_H} {k0 : Nat} {rest : List Value}
set_option maxHeartbeats 8000000 in
/-- all instructions of the heap -/
theorem pm_sim_hb (hx : p.tables.exec = Jvm.exec) (hb : c.code = cc) (hml : c.maxLocals = ls.size) (hts : ∀ w ∈ pm_good, w.before args s = true) (hown : s.vm.findClass (pm_ow k0) = some m.cls) (hGS : pm_GS D aC s) (g : pm_GD D aC E base h s H) (hlo : ∀ q ∈ locs, base ≤ q.base) {ini : Bool} (hini : ini = true → meth.name = "<init>") (hRf : 1 ≤ R.frames) (hRl : 40 ≤ R.locals)
    {i : Instr} {st : List Value} {z : List Value × pm_H} (hdg : decode cc pc = .ok (i, pm_len i)) (hz : pm_hb ini k0 i st h = some z) (hR1 : cells + (z.2.1 - h.1) ≤ R.cells) (hR2 : slots + (z.2.2.1 - h.2.1) ≤ R.slots)
    (k : ∀ (H' : Heap) (locs' : List Loc) (nc ns : Nat), nc = cells + (z.2.1 - h.1) → ns = slots + (z.2.2.1 - h.2.1) → pm_GD D aC E base z.2 s H' → (∀ q ∈ locs', base ≤ q.base) → W p l e R s m args below meth c H' locs' nc ns Q (F0 m (pc + pm_len i) ls (z.1.map (pm_tr E base)))) : W p l e R s m args below meth c H locs cells slots Q (F0 m pc ls (st.map (pm_tr E base))) := by
  have e0 : ∀ a : Nat, a = a + (h.1 - h.1) := fun a => by omega
  have e1 : ∀ a : Nat, a = a + (h.2.1 - h.2.1) := fun a => by omega
  have e2 : ∀ a : Nat, a + 1 = a + (h.1 + 1 - h.1) := fun a => by omega
  have e3 : ∀ a b : Nat, a + b = a + (h.2.1 + b - h.2.1) := fun a b => by omega
  have hsum : ∀ st : List Value, (st.map fun v => v.category).sum ≤ 8 → ((st.map (pm_tr E base)).map fun v => v.category).sum ≤ 8 := fun st hs => by rw [pm_tr_sum]; exact hs
  unfold pm_hb at hz
  split at hz
  · -- getfield
    obtain ⟨v, h1, rfl⟩ := Option.map_eq_some_iff.mp hz
    exact pm_s_get hx hb hts hown hGS g h1 hdg (k H locs cells slots (e0 _) (e1 _) g hlo)
  · -- putfield
    obtain ⟨h', h1, rfl⟩ := Option.map_eq_some_iff.mp hz
    have hs : h'.1 = h.1 ∧ h'.2.1 = h.2.1 := by
      unfold pm_pf at h1
      obtain ⟨x, -, h1⟩ := Option.bind_eq_some_iff.mp h1
      obtain ⟨q, -, h1⟩ := Option.bind_eq_some_iff.mp h1
      split at h1
      · split at h1
        · cases h1; exact ⟨rfl, rfl⟩
        · cases h1
      · cases h1
    exact pm_s_put hx hb hts hown hGS g hlo hini h1 hdg (fun H' locs' g' hl' => k H' locs' cells slots (by rw [hs.1]; exact e0 _) (by rw [hs.2]; exact e1 _) g' hl')
  · -- getstatic
    obtain ⟨x, h1, rfl⟩ := Option.map_eq_some_iff.mp hz
    exact pm_s_static hx hb hts hown hGS g h1 hdg (k H locs cells slots (e0 _) (e1 _) g hlo)
  · -- ldc
    obtain ⟨x, h1, rfl⟩ := Option.map_eq_some_iff.mp hz
    exact lv_ldc hx hb hown (hts _ (pm_G_in (pm_K_spec h1))) hdg (k H locs cells slots (e0 _) (e1 _) g hlo)
  · obtain ⟨x, h1, rfl⟩ := Option.map_eq_some_iff.mp hz
    exact lv_ldcw hx hb hown (hts _ (pm_G_in (pm_K_spec h1))) hdg (k H locs cells slots (e0 _) (e1 _) g hlo)
  · obtain ⟨x, h1, rfl⟩ := Option.map_eq_some_iff.mp hz
    exact lv_ldc2 hx hb hown (hts _ (pm_G_in (pm_L_spec h1))) hdg (k H locs cells slots (e0 _) (e1 _) g hlo)
  · -- arraylength
    split at hz
    · rename_i ha
      split at hz
      · rename_i h2; cases hz
        exact pm_s_alen0 hx hb hGS g h2 ha hdg (k H locs cells slots (e0 _) (e1 _) g hlo)
      · cases hz
    · rename_i ha
      split at hz
      · rename_i h2; cases hz
        exact pm_s_alen hx hb hGS g h2.1 h2.2.1 h2.2.2 ha hdg (k H locs cells slots (e0 _) (e1 _) g hlo)
      · cases hz
    · cases hz
  · -- iaload
    split at hz
    · rename_i ha
      split at hz
      · rename_i h2; cases hz
        exact pm_s_iald hx hb hGS g h2.1 ha h2.2 hdg (k H locs cells slots (e0 _) (e1 _) g hlo)
      · cases hz
    · cases hz
  · -- baload
    split at hz
    · rename_i ha
      split at hz
      · rename_i h2; cases hz
        exact pm_s_bald hx hb hGS g (Or.inl rfl) h2.1 h2.2.1 ha h2.2.2 hdg (k H locs cells slots (e0 _) (e1 _) g hlo)
      · cases hz
    · rename_i ha
      split at hz
      · rename_i h2; cases hz
        exact pm_s_bald hx hb hGS g (Or.inr rfl) h2.1 h2.2.1 ha h2.2.2 hdg (k H locs cells slots (e0 _) (e1 _) g hlo)
      · cases hz
    · cases hz
  · -- laload
    split at hz
    · rename_i ha
      split at hz
      · rename_i h2; cases hz
        exact pm_s_lald hx hb hGS g h2.1 h2.2.1 ha h2.2.2 hdg (k H locs cells slots (e0 _) (e1 _) g hlo)
      · cases hz
    · cases hz
  · -- aaload
    split at hz
    · rename_i ha
      split at hz
      · rename_i h2; cases hz
        exact pm_s_aald hx hb hGS g h2.1 h2.2.1 h2.2.2.1 h2.2.2.2.1 ha h2.2.2.2.2 hdg (k H locs cells slots (e0 _) (e1 _) g hlo)
      · cases hz
    · cases hz
  · -- iastore
    split at hz
    · rename_i ha
      split at hz
      · rename_i h2; cases hz
        exact pm_s_iast hx hb hGS g hlo h2.1 h2.2.1 ha h2.2.2 hdg (fun H' locs' g' hl' => k H' locs' cells slots (e0 _) (e1 _) g' hl')
      · cases hz
    · cases hz
  · -- bastore
    split at hz
    · rename_i ha
      split at hz
      · rename_i h2; cases hz
        exact pm_s_bast hx hb hGS g hlo h2.1 h2.2.1 ha h2.2.2 hdg (fun H' locs' g' hl' => k H' locs' cells slots (e0 _) (e1 _) g' hl')
      · cases hz
    · rename_i ha
      split at hz
      · rename_i h2; cases hz
        exact pm_s_zast hx hb hGS g hlo h2.1 h2.2.1 ha h2.2.2 hdg (fun H' locs' g' hl' => k H' locs' cells slots (e0 _) (e1 _) g' hl')
      · cases hz
    · cases hz
  · -- lastore
    split at hz
    · rename_i ha
      split at hz
      · rename_i h2; cases hz
        exact pm_s_last hx hb hGS g hlo h2.1 h2.2.1 ha h2.2.2 hdg (fun H' locs' g' hl' => k H' locs' cells slots (e0 _) (e1 _) g' hl')
      · cases hz
    · cases hz
  · -- aastore
    split at hz
    · rename_i ha
      split at hz
      · rename_i h2
        split at hz
        · cases hz
          exact pm_s_aastN hx hb hGS g hlo h2.2.2.2.1 h2.2.2.2.2 h2.1 h2.2.1 ha h2.2.2.1 hdg (fun H' locs' g' hl' => k H' locs' cells slots (e0 _) (e1 _) g' hl')
        · split at hz
          · rename_i hbc
            split at hz
            · rename_i h3; cases hz
              exact pm_s_aast hx hb hGS g hlo h2.1 h2.2.1 ha h3.1 h3.2.1 hbc h3.2.2 h2.2.2.1 hdg (fun H' locs' g' hl' => k H' locs' cells slots (e0 _) (e1 _) g' hl')
            · cases hz
          · cases hz
        · cases hz
      · cases hz
    · cases hz
  · -- newarray
    obtain ⟨t, ht, hz⟩ := Option.bind_eq_some_iff.mp hz
    split at hz
    · rename_i h2; cases hz
      exact pm_s_newa hx hb hts hGS g ht h2.1 h2.2 (by rw [e2]; exact hR1) (by rw [e3]; exact hR2) hdg (fun H' g' => k H' locs _ _ (e2 _) (e3 _ _) g' hlo)
    · cases hz
  · -- anewarray
    obtain ⟨ci, hci, hz⟩ := Option.bind_eq_some_iff.mp hz
    obtain ⟨t, ht, hz⟩ := Option.bind_eq_some_iff.mp hz
    split at hz
    · rename_i h2; cases hz
      exact pm_s_newq hx hb hts hown hGS g hci ht h2.1 h2.2 (by rw [e2]; exact hR1) (by rw [e3]; exact hR2) hdg (fun H' g' => k H' locs _ _ (e2 _) (e3 _ _) g' hlo)
    · cases hz
  · -- new
    obtain ⟨ci, hci, hz⟩ := Option.bind_eq_some_iff.mp hz
    obtain ⟨q, hq, rfl⟩ := Option.map_eq_some_iff.mp hz
    exact pm_s_new hx hb hts hown hGS g hci hq (by rw [e2]; exact hR1) (by rw [e3]; exact hR2) hdg (fun H' g' => k H' locs _ _ (e2 _) (e3 _ _) g' hlo)
  · -- checkcast
    obtain ⟨x, hx1, hz⟩ := Option.bind_eq_some_iff.mp hz
    split at hz
    · rename_i y ha
      split at hz
      · rename_i h2; cases hz
        have hat := pm_cell g h2.1 h2.2 ha
        exact va_castA (D := D) (ws := [(_, .inl (aC 0, pm_trA E base y))]) hx hb hown (hts _ (pm_G_in (pm_I_spec hx1))) (pm_P1 hat) 0 rfl (hGS.1.2 0 _ (pm_tys_at aC (t := 0) (by decide))).2 hdg (k H locs cells slots (e0 _) (e1 _) g hlo)
      · cases hz
    · cases hz
  · -- Object()
    obtain ⟨x, hx1, hz⟩ := Option.bind_eq_some_iff.mp hz
    split at hz
    · rename_i h2; obtain ⟨rfl, h2⟩ := h2; cases hz
      have hs := hsum _ h2
      exact W.objInit hx hb hown (hts _ (pm_G_in (pm_X_spec hx1))) (hts _ (pm_G_in pm_obj.1)) (hts _ (pm_G_in pm_obj.2)) rfl hml.symm rfl hdg hRf (by show 2 * 0 + _ + 12 ≤ _; omega) (k H locs cells slots (e0 _) (e1 _) g hlo)
    · cases hz
  · -- clone
    obtain ⟨x, hx1, hz⟩ := Option.bind_eq_some_iff.mp hz
    split at hz
    · rename_i ha
      split at hz
      · rename_i h2; obtain ⟨rfl, h2, h3, h4⟩ := h2; cases hz
        have hs := hsum _ h4
        exact pm_s_clone hx hb hml hts hown hGS g hx1 h2 h3 ha hRf (by omega) (by rw [e2]; exact hR1) (by rw [e3]; exact hR2) hdg (fun H' g' => k H' locs _ _ (e2 _) (e3 _ _) g' hlo)
      · cases hz
    · cases hz
  · -- static natives
    obtain ⟨x, hx1, hz⟩ := Option.bind_eq_some_iff.mp hz
    split at hz
    · split at hz
      · rename_i ha hbc
        split at hz
        · rename_i h2; obtain ⟨q1, q2, q3, q4, q5, q6, q7, q8, q9, q10⟩ := h2; cases hz
          have hs := hsum _ q10
          exact pm_s_copy hx hb hml hts hown hGS g hlo hx1 (Or.inl rfl) q1 q2 q3 q4 ha hbc q5 q6 q7 q8 q9 hRf (by show _ + (7 + 11) ≤ _; omega) hdg (fun H' locs' g' hl' => k H' locs' cells slots (e0 _) (e1 _) g' hl')
        · cases hz
      · rename_i ha hbc
        split at hz
        · rename_i h2; obtain ⟨q1, q2, q3, q4, q5, q6, q7, q8, q9, q10⟩ := h2; cases hz
          have hs := hsum _ q10
          exact pm_s_copy hx hb hml hts hown hGS g hlo hx1 (Or.inr rfl) q1 q2 q3 q4 ha hbc q5 q6 q7 q8 q9 hRf (by show _ + (7 + 11) ≤ _; omega) hdg (fun H' locs' g' hl' => k H' locs' cells slots (e0 _) (e1 _) g' hl')
        · cases hz
      · cases hz
    · split at hz
      · rename_i h2; cases hz
        have hs := hsum _ h2
        exact va_mmin hx hb hml hown (hts _ (pm_G_in (pm_X_spec hx1))) (hts _ (pm_G_in pm_min.1)) (hts _ (pm_G_in pm_min.2.1)) (hts _ (pm_G_in pm_min.2.2)) hRf (by omega) (by omega) (by omega) hdg (k H locs cells slots (e0 _) (e1 _) g hlo)
      · cases hz
    · split at hz
      · rename_i h2; cases hz
        have hs := hsum _ h2
        exact va_mmax hx hb hml hown (hts _ (pm_G_in (pm_X_spec hx1))) (hts _ (pm_G_in pm_max.1)) (hts _ (pm_G_in pm_max.2.1)) (hts _ (pm_G_in pm_max.2.2)) hRf (by omega) (by omega) (by omega) hdg (k H locs cells slots (e0 _) (e1 _) g hlo)
      · cases hz
    · split at hz
      · rename_i h2; cases hz
        have hs := hsum _ h2
        exact va_mmin_long hx hb hml hown (hts _ (pm_G_in (pm_X_spec hx1))) (hts _ (pm_G_in pm_minl.1)) (hts _ (pm_G_in pm_minl.2.1)) (hts _ (pm_G_in pm_minl.2.2)) hRf (by omega) (by omega) (by omega) hdg (k H locs cells slots (e0 _) (e1 _) g hlo)
      · cases hz
    · cases hz
  · cases hz
theorem pm_ks_spec {ix j : Nat} (h : pm_ks ix = some j) : 7 ≤ j ∧ j < 11 ∧ pm_kix j = ix := by
  unfold pm_ks at h
  split at h <;> first | (cases h; exact ⟨by decide, by decide, rfl⟩) | cases h
set_option maxRecDepth 100000 in
theorem pm_l_val : pm_G (.fieldLink "java/lang/String" 9 "java/lang/String" "value" "[B") := ⟨by decide +kernel, rfl⟩
set_option maxRecDepth 100000 in
theorem pm_l_cod : pm_G (.fieldLink "java/lang/String" 15 "java/lang/String" "coder" "B") := ⟨by decide +kernel, rfl⟩
set_option maxRecDepth 100000 in
theorem pm_l_cmp : pm_G (.fieldLink "java/lang/String" 38 "java/lang/String" "COMPACT_STRINGS" "Z") := ⟨by decide +kernel, rfl⟩
set_option maxRecDepth 100000 in
theorem pm_l_fmt : pm_G (.fieldLink "java/lang/String" 1053 "jdk/internal/util/Preconditions" "SIOOBE_FORMATTER" "Ljava/util/function/BiFunction;") := ⟨by decide +kernel, rfl⟩
set_option maxHeartbeats 4000000 in
/-- over String constants -/
theorem pm_sim_str (hx : p.tables.exec = Jvm.exec) (hb : c.code = cc) (hts : ∀ w ∈ pm_good, w.before args s = true) (hown : s.vm.findClass (pm_ow k0) = some m.cls) (hGS : pm_GS D aC s) (g : pm_GD D aC E base h s H)
    {i : Instr} {st st' : List Value} (hdg : decode cc pc = .ok (i, pm_len i)) (hz : pm_str k0 i st h = some st') (k : W p l e R s m args below meth c H locs cells slots Q (F0 m (pc + pm_len i) ls (st'.map (pm_tr E base)))) : W p l e R s m args below meth c H locs cells slots Q (F0 m pc ls (st.map (pm_tr E base))) := by
  have gx := g.2.2.2.1.2
  have ead : ∀ j, j < 16 → pm_ad E base j = E j := fun j hj => if_pos hj
  unfold pm_str at hz
  split at hz
  · split at hz
    · rename_i st ix hk0
      subst hk0
      obtain ⟨j, hj, rfl⟩ := Option.map_eq_some_iff.mp hz
      obtain ⟨h7, h11, hix⟩ := pm_ks_spec hj
      have hR := hGS.2.2.2 j h7 h11
      rw [hix, ← (gx.2.1 j h7 h11).1] at hR
      have e9 : pm_tr E base (.ref j) = .ref (E j) := by
        show Value.ref (pm_ad E base j) = _
        rw [ead j (Nat.lt_trans h11 (by decide))]
      rw [List.map_cons, e9] at k
      exact va_ldcS hx hb hown hR hdg k
    · cases hz
  · split at hz
    · rename_i hc; obtain ⟨rfl, rfl⟩ := hc
      cases hz
      obtain ⟨cf, kf, fi, f, a, cell, z1, z2, z3, z4, z5, z6, z7, z8⟩ := gx.2.2.1
      exact W.gets hx hb hown (hts _ (pm_G_in pm_l_cmp)) z1 z2 z3 z4 z5 (fun e => by rw [e] at z6; cases z6) z7 rfl hdg k
    · split at hz
      · rename_i hc; obtain ⟨rfl, rfl⟩ := hc
        cases hz
        obtain ⟨cf, kf, fi, f, a, cell, z1, z2, z3, z4, z5, z6, z7, z8⟩ := gx.2.2.2
        exact W.gets hx hb hown (hts _ (pm_G_in pm_l_fmt)) z1 z2 z3 z4 z5 (fun e => by rw [e] at z6; cases z6) z7 rfl hdg k
      · cases hz
  · rename_i ix a st
    split at hz
    · rename_i hc; obtain ⟨rfl, h7, h11, rfl⟩ := hc
      cases hz
      obtain ⟨cf, kf, fi, f, cell, q1, q2, q3, q4, q5, q6⟩ := (gx.2.1 a h7 h11).2.2.2
      have k : W p l e R s m args below meth c H locs cells slots Q (F0 m (pc + 3) ls (.ref (pm_ad E base (a + 4)) :: st.map (pm_tr E base))) := k
      rw [ead (a + 4) (Nat.lt_of_lt_of_le (Nat.add_lt_add_right h11 4) (by decide))] at k
      show W p l e R s m args below meth c H locs cells slots Q (F0 m pc ls (.ref (pm_ad E base a) :: st.map (pm_tr E base)))
      rw [ead a (Nat.lt_trans h11 (by decide))]
      exact W.getf hx hb hown (hts _ (pm_G_in pm_l_val)) q1 q2 q3 q4 (v := .ref (E (a + 4))) q5 rfl rfl hdg k
    · split at hz
      · rename_i hc; obtain ⟨rfl, h7, h11, rfl⟩ := hc
        cases hz
        obtain ⟨cf, kf, fi, f, cell, q1, q2, q3, q4, q5, q6⟩ := (gx.2.1 a h7 h11).2.2.1
        show W p l e R s m args below meth c H locs cells slots Q (F0 m pc ls (.ref (pm_ad E base a) :: st.map (pm_tr E base)))
        rw [ead a (Nat.lt_trans h11 (by decide))]
        exact W.getf hx hb hown (hts _ (pm_G_in pm_l_cod)) q1 q2 q3 q4 (v := .int 0) q5 rfl rfl hdg k
      · cases hz
  · rename_i a st
    split at hz
    · rename_i n f hc
      split at hz
      · rename_i ha
        cases hz
        obtain ⟨cell, c1, c2, c3, c4, c5, c6, c7⟩ := gx.1 a n f ha hc
        show W p l e R s m args below meth c H locs cells slots Q (F0 m pc ls (.ref (pm_ad E base a) :: st.map (pm_tr E base)))
        rw [ead a ha]
        exact W.alen (n := Int32.ofNat n) hx hb c1 c2 c5 rfl rfl hdg k
      · cases hz
    · cases hz
  · rename_i j a st
    split at hz
    · rename_i n f hc
      split at hz
      · rename_i ha
        cases hz
        obtain ⟨cell, c1, c2, c3, c4, c5, c6, c7⟩ := gx.1 a n f ha.1 hc
        have hin := pm_in_spec ha.2
        have hlt : j.toNatClampNeg < n := Nat.not_le.mp fun q => hin (Or.inr q)
        show W p l e R s m args below meth c H locs cells slots Q (F0 m pc ls (.int j :: .ref (pm_ad E base a) :: st.map (pm_tr E base)))
        rw [ead a ha.1]
        exact W.bald (v := .int (f j.toNatClampNeg)) hx hb c1 c2 c3 (fun q => by rcases q with q | q; exact hin (Or.inl q); omega) (c6 _ hlt) rfl rfl hdg k
      · cases hz
    · cases hz
  · cases hz
set_option maxHeartbeats 2000000 in
/-- one instruction -/
theorem pm_sim_step (hx : p.tables.exec = Jvm.exec) (hb : c.code = cc) {pl : List Value} (hml : c.maxLocals = pl.length) (hl : pm_LR E base ls pl) (hts : ∀ w ∈ pm_good, w.before args s = true) (hown : s.vm.findClass (pm_ow k0) = some m.cls) (hGS : pm_GS D aC s) (g : pm_GD D aC E base h s H) (hlo : ∀ q ∈ locs, base ≤ q.base) {ini : Bool} (hini : ini = true → meth.name = "<init>") (hRf : 1 ≤ R.frames) (hRl : 40 ≤ R.locals)
    {i : Instr} {L : Nat} {st : List Value} {z : Nat × List Value × List Value × pm_H} (hdg : decode cc pc = .ok (i, L)) (hL : pm_len i = 0 ∨ L = pm_len i) (hz : pm_step ini k0 i pc pl st h = some z) (hR1 : cells + (z.2.2.2.1 - h.1) ≤ R.cells) (hR2 : slots + (z.2.2.2.2.1 - h.2.1) ≤ R.slots)
    (k : ∀ (ls' : Array Slot) (H' : Heap) (locs' : List Loc) (nc ns : Nat), nc = cells + (z.2.2.2.1 - h.1) → ns = slots + (z.2.2.2.2.1 - h.2.1) → pm_LR E base ls' z.2.1 → z.2.1.length = pl.length → pm_GD D aC E base z.2.2.2 s H' → (∀ q ∈ locs', base ≤ q.base) → W p l e R s m args below meth c H' locs' nc ns Q (F0 m z.1 ls' (z.2.2.1.map (pm_tr E base)))) : W p l e R s m args below meth c H locs cells slots Q (F0 m pc ls (st.map (pm_tr E base))) := by
  have e0 : ∀ a : Nat, a = a + (h.1 - h.1) := fun a => by omega
  have e1 : ∀ a : Nat, a = a + (h.2.1 - h.2.1) := fun a => by omega
  have hll : ∀ {z : List Value × List Value}, pm_lo i pl st = some z → z.1.length = pl.length := by
    intro z hz
    have s1 : ∀ {j : Nat} {v : Value} {pl' : List Value}, pm_st1 pl j v = some pl' → pl'.length = pl.length := by
      intro j v pl' hh
      unfold pm_st1 at hh
      split at hh
      · cases hh; rw [List.length_set, pm_kill_len]
      · cases hh
    have s2 : ∀ {j : Nat} {v : Value} {pl' : List Value}, pm_st2 pl j v = some pl' → pl'.length = pl.length := by
      intro j v pl' hh
      unfold pm_st2 at hh
      split at hh
      · cases hh; rw [List.length_set, List.length_set, pm_kill_len]
      · cases hh
    unfold pm_lo at hz
    split at hz
    · obtain ⟨a, -, rfl⟩ := Option.map_eq_some_iff.mp hz; rfl
    · obtain ⟨a, -, rfl⟩ := Option.map_eq_some_iff.mp hz; rfl
    · obtain ⟨a, -, rfl⟩ := Option.map_eq_some_iff.mp hz; rfl
    · obtain ⟨a, -, rfl⟩ := Option.map_eq_some_iff.mp hz; rfl
    · obtain ⟨a, -, rfl⟩ := Option.map_eq_some_iff.mp hz; rfl
    · obtain ⟨a, -, rfl⟩ := Option.map_eq_some_iff.mp hz; rfl
    · obtain ⟨x, -, h2⟩ := pm_sti_spec hz; exact s1 h2
    · obtain ⟨x, -, h2⟩ := pm_sti_spec hz; exact s1 h2
    · obtain ⟨x, -, h2⟩ := pm_stl_spec hz; exact s2 h2
    · obtain ⟨x, -, h2⟩ := pm_stl_spec hz; exact s2 h2
    · rcases pm_sta_spec hz with ⟨x, -, h2⟩ | ⟨-, h2⟩ <;> exact s1 h2
    · rcases pm_sta_spec hz with ⟨x, -, h2⟩ | ⟨-, h2⟩ <;> exact s1 h2
    · obtain ⟨a, h1, rfl⟩ := Option.map_eq_some_iff.mp hz
      unfold pm_inc at h1
      split at h1
      · exact s1 h1
      · cases h1
    · cases hz
  unfold pm_step at hz
  split at hz
  · rename_i st' hop
    cases hz
    have hd : decode cc pc = .ok (i, pm_len i) := by
      rcases hL with hL | hL
      · exfalso
        unfold pm_op at hop
        split at hop <;> first | (cases hL; done) | cases hop
      · rw [hL] at hdg; exact hdg
    exact pm_sim_op (E := E) (base := base) hx hb hd hop (k ls H locs cells slots (e0 _) (e1 _) hl rfl g hlo)
  · split at hz
    · rename_i x hlo2
      cases hz
      have hd : decode cc pc = .ok (i, pm_len i) := by
        rcases hL with hL | hL
        · exfalso
          unfold pm_lo at hlo2
          split at hlo2 <;> first | (cases hL; done) | cases hlo2
        · rw [hL] at hdg; exact hdg
      exact pm_sim_lo hx hb hd hl hlo2 (fun ls' hl' => k ls' H locs cells slots (e0 _) (e1 _) hl' (hll hlo2) g hlo)
    · split at hz
      · rename_i x hbr
        cases hz
        exact pm_sim_br (E := E) (base := base) hx hb hdg hL hbr (k ls H locs cells slots (e0 _) (e1 _) hl rfl g hlo)
      · split at hz
        · rename_i x hhp
          cases hz
          rcases pm_hp_cases hhp with hhp | ⟨s9, hst9, rfl⟩
          · have hd : decode cc pc = .ok (i, pm_len i) := by
              rcases hL with hL | hL
              · exfalso
                unfold pm_hb at hhp
                split at hhp <;> first | (cases hL; done) | cases hhp
              · rw [hL] at hdg; exact hdg
            exact pm_sim_hb hx hb (hml.trans hl.1.symm) hts hown hGS g hlo hini hRf hRl hd hhp hR1 hR2 (fun H' locs' nc ns h1 h2 g' hl' => k ls H' locs' nc ns h1 h2 hl rfl g' hl')
          · have hd : decode cc pc = .ok (i, pm_len i) := by
              rcases hL with hL | hL
              · exfalso
                unfold pm_str at hst9
                split at hst9 <;> first | (cases hL; done) | cases hst9
              · rw [hL] at hdg; exact hdg
            exact pm_sim_str hx hb hts hown hGS g hd hst9 (k ls H locs cells slots (e0 _) (e1 _) hl rfl g hlo)
        · cases hz
end PMT
