/-! the pure machine's instructions that touch the heap, the tables or the constant pool -/
theorem pm_at_mem {α : Type} {L : List (List (Nat × α))} {c ix : Nat} {x : α} (h : pm_at L c ix = some x) : ∃ l, L[c]? = some l ∧ (ix, x) ∈ l := by
  obtain ⟨l, h1, h2⟩ := Option.bind_eq_some_iff.mp h
  exact ⟨l, h1, pm_find_mem _ _ _ h2⟩
theorem pm_F_spec {c ix : Nat} {x : Nat × Nat × Bool} (h : pm_at pm_FL c ix = some x) : pm_Fok c (ix, x) := by
  obtain ⟨l, h1, h2⟩ := pm_at_mem h
  exact pm_FL_ok c l h1 _ h2
theorem pm_S_spec {c ix : Nat} {x : Nat × Bool} (h : pm_at pm_SL c ix = some x) : pm_Sok c (ix, x) := by
  obtain ⟨l, h1, h2⟩ := pm_at_mem h
  exact pm_SL_ok c l h1 _ h2
theorem pm_N_spec {c ix : Nat} {x : Nat} (h : pm_at pm_NL c ix = some x) : pm_Nok c (ix, x) := by
  obtain ⟨l, h1, h2⟩ := pm_at_mem h
  exact pm_NL_ok c l h1 _ h2
theorem pm_K_spec {c ix : Nat} {x : Int32} (h : pm_at pm_KL c ix = some x) : pm_Kok c (ix, x) := by
  obtain ⟨l, h1, h2⟩ := pm_at_mem h
  exact pm_KL_ok c l h1 _ h2
theorem pm_L_spec {c ix : Nat} {x : Int64} (h : pm_at pm_LL c ix = some x) : pm_Lok c (ix, x) := by
  obtain ⟨l, h1, h2⟩ := pm_at_mem h
  exact pm_LL_ok c l h1 _ h2
theorem pm_X_spec {c ix : Nat} {x : Nat} (h : pm_at pm_XL c ix = some x) : pm_Xok c (ix, x) := by
  obtain ⟨l, h1, h2⟩ := pm_at_mem h
  exact pm_XL_ok c l h1 _ h2
theorem pm_I_spec {c ix : Nat} {x : Nat} (h : pm_at pm_IL c ix = some x) : pm_Iok c (ix, x) := by
  obtain ⟨l, h1, h2⟩ := pm_at_mem h
  exact pm_IL_ok c l h1 _ h2
theorem pm_C_spec {c ix : Nat} {x : Nat × Nat × Nat} (h : pm_at pm_CL c ix = some x) : pm_Cl c (ix, x) := by
  obtain ⟨l, h1, h2⟩ := pm_at_mem h
  exact pm_CL_ok c l h1 _ h2
theorem pm_cl_at {ci : Nat} {q : vw_C} (h : pm_cl[ci]? = some q) : pm_Cok q := pm_cl_ok q (List.mem_of_getElem? h)
theorem pm_tys_at (aC : Nat → ClassId) {t : Nat} (h : t < 10) : (pm_tys aC)[t]? = some (aC t, pm_aT t) := by
  unfold pm_tys
  rw [List.getElem?_map, List.getElem?_range h]
  rfl
theorem pm_in_spec {j : Int32} {n : Nat} (h : pm_in j n = true) : vp_in j n := by
  simp only [pm_in, Bool.and_eq_true, decide_eq_true_eq] at h
  intro q
  rcases q with q | q
  · exact absurd h.1 (Int32.not_le.mpr q)
  · omega
theorem pm_fits_nar {ty : FieldType} {v : Value} (E : Nat → Nat) (base : Nat) (h : pm_fits ty v = true) : narrow ty (pm_tr E base v) = pm_tr E base v ∧ fits ty (pm_tr E base v) = true := by
  unfold pm_fits at h
  split at h
  · exact ⟨rfl, rfl⟩
  · exact ⟨rfl, rfl⟩
  · rename_i x
    simp only [Bool.or_eq_true, beq_iff_eq] at h
    rcases h with rfl | rfl <;> exact ⟨rfl, rfl⟩
  · exact ⟨rfl, rfl⟩
  · exact ⟨rfl, rfl⟩
  · exact ⟨rfl, rfl⟩
  · exact ⟨rfl, rfl⟩
  · cases h
theorem pm_hb0 {t n : Nat} {f : Nat → Int32} (ht : ¬ t = 2) : ∀ (n' : Nat) (f' : Nat → Int32), (Sum.inl (t, n, .inl f) : pm_E) = .inl (2, n', .inl f') → ∀ j, fits .byte (.int (f' j)) = true := by
  intro n' f' h
  injection h with h
  injection h with h1 h2
  exact absurd h1 ht
theorem pm_nn {z : Int32} (hz : ¬ z < 0) : z.toInt = (z.toNatClampNeg : Int) := by
  have hz0 : (0 : Int) ≤ z.toInt := by
    have := Int32.not_lt.mp hz
    simpa using Int32.le_iff_toInt_le.mp this
  show z.toInt = ((z.toInt.toNat : Nat) : Int)
  omega
theorem pm_fitb (x : Int32) : fits .byte (.int x.toInt8.toInt32) = true := pk_fb x
section PMH
variable {p : Program} {l : Launch} {e : Env} {R : Room} {s : State} {m : MethodId} {args : Array Value} {below : List Frame} {meth : Method} {c : Code} {H : Heap} {locs : List Loc} {cells slots : Nat} {Q : State → Prop}
variable {cc : ByteArray} {pc : Nat} {ls : Array Slot} {E : Nat → Nat} {base : Nat} {D : va_G} {aC : Nat → ClassId} {h : pm_H} {k0 : Nat} {rest : List Value}
/-- a cell of the pure heap, at the machine's -/
theorem pm_cell (g : pm_GD D aC E base h s H) {a : Nat} (h1 : 16 ≤ a) (h2 : a < h.1) {x : pm_E} (hx : h.2.2 a = x) : va_at D pm_cl (pm_ad E base a, pm_trE aC E base x) H := by
  have := g.2.2.1 a h1 h2
  rw [hx] at this
  exact this
theorem pm_P1 {q : Nat × va_E} (hq : va_at D pm_cl q H) : va_P D pm_cl [q] H := by
  intro k r hk
  match k, hk with
  | 0, hk => cases hk; exact hq
  | n + 1, hk => simp at hk
set_option maxHeartbeats 1000000 in
theorem pm_s_get (hx : p.tables.exec = Jvm.exec) (hb : c.code = cc) (hts : ∀ w ∈ pm_good, w.before args s = true) (hown : s.vm.findClass (pm_ow k0) = some m.cls) (hGS : pm_GS D aC s) (g : pm_GD D aC E base h s H) {ix a : Nat} {v : Value} (hv : pm_gf k0 ix h a = some v) (hdg : decode cc pc = .ok (.getfield ix, 3))
    (k : W p l e R s m args below meth c H locs cells slots Q (F0 m (pc + 3) ls (pm_tr E base v :: rest))) : W p l e R s m args below meth c H locs cells slots Q (F0 m pc ls (.ref (pm_ad E base a) :: rest)) := by
  obtain ⟨x, h1, h2⟩ := Option.bind_eq_some_iff.mp hv
  cases hc : h.2.2 a with
  | inl y => rw [hc] at h2; cases h2
  | inr y =>
    obtain ⟨ci, fs⟩ := y
    rw [hc] at h2
    dsimp only at h2
    split at h2
    case isFalse => cases h2
    case isTrue hh =>
      obtain ⟨ha1, ha2, rfl⟩ := hh
      obtain ⟨q, hq, hk, hl⟩ := pm_F_spec h1
      have hcok := pm_cl_at hq
      have hat := pm_cell g ha1 ha2 hc
      have hfv : (fs.map (pm_tr E base))[x.2.1]? = some (pm_tr E base v) := by rw [List.getElem?_map, h2]; rfl
      by_cases hn : x.2.2 = true
      · rw [if_pos hn] at hl
        exact va_getN (D := D) (ws := [(pm_ad E base a, .inr (x.1, fs.map (pm_tr E base)))]) hx hb hts hcok.1 hown hGS.1 (pm_P1 hat) 0 rfl hq x.2.1 hk (va_Nw.use rfl (hGS.2.1 _ hl rfl)) (fun _ h9 => h9) hfv hdg k
      · rw [if_neg hn] at hl
        exact va_get (D := D) (ws := [(pm_ad E base a, .inr (x.1, fs.map (pm_tr E base)))]) hx hb hts hcok.1 hown hGS.1 (pm_P1 hat) 0 rfl hq x.2.1 hk (hts _ (pm_G_in hl)) (fun _ h9 => h9) hfv hdg k
set_option maxHeartbeats 2000000 in
theorem pm_s_put (hx : p.tables.exec = Jvm.exec) (hb : c.code = cc) (hts : ∀ w ∈ pm_good, w.before args s = true) (hown : s.vm.findClass (pm_ow k0) = some m.cls) (hGS : pm_GS D aC s) (g : pm_GD D aC E base h s H) (hlo : ∀ q ∈ locs, base ≤ q.base) {ini : Bool} (hini : ini = true → meth.name = "<init>") {ix a : Nat} {v : Value} {h' : pm_H} (hv : pm_pf ini k0 ix h a v = some h') (hdg : decode cc pc = .ok (.putfield ix, 3))
    (k : ∀ (H' : Heap) (locs' : List Loc), pm_GD D aC E base h' s H' → (∀ q ∈ locs', base ≤ q.base) → W p l e R s m args below meth c H' locs' cells slots Q (F0 m (pc + 3) ls rest)) : W p l e R s m args below meth c H locs cells slots Q (F0 m pc ls (pm_tr E base v :: .ref (pm_ad E base a) :: rest)) := by
  obtain ⟨x, h1, h2⟩ := Option.bind_eq_some_iff.mp hv
  obtain ⟨q, hq, h2⟩ := Option.bind_eq_some_iff.mp h2
  cases hc : h.2.2 a with
  | inl y => rw [hc] at h2; cases h2
  | inr y =>
    obtain ⟨ci, fs⟩ := y
    rw [hc] at h2
    dsimp only at h2
    split at h2
    case isFalse => cases h2
    case isTrue hh =>
      obtain ⟨ha1, ha2, rfl, hl0, hfit, hfin⟩ := hh
      cases h2
      obtain ⟨q', hq', hk, hl⟩ := pm_F_spec h1
      cases hq.symm.trans hq'
      obtain ⟨C, T, N⟩ := q
      obtain ⟨hin, hty, hnm, -, -⟩ := pm_cl_at hq
      obtain ⟨hn, hft⟩ := pm_fits_nar E base hfit
      have hd := hty x.2.1 hk
      have hap := va_apart (own := pm_ow k0) (D := D) (args := args) hts hin (pm_ty T) hty hnm hGS.1 hq
      obtain ⟨r, hr1, cell, q1, q2, q3, q4⟩ := pm_cell g ha1 ha2 hc
      have hr : r = (C, T, N) := Option.some.inj (hr1.symm.trans hq)
      subst hr
      obtain ⟨hS, hfc, kC, hkC, hkind⟩ := hGS.1.1 x.1 _ hq
      obtain ⟨cf, kf, fi, f, hi, hsl⟩ := hS x.2.1 hk
      have hst := (u_facts hfc hkC (u_lays hts hin hk) hi).1
      have hbl : base ≤ pm_ad E base a := by rw [pm_ad_new ha1]; omega
      have fin : ∀ (H' : Heap), H'[pm_ad E base a]? = some (cell.setSlot f.slot (pm_tr E base v)) → H'.size = H.size → (∀ q, q ≠ pm_ad E base a → H'[q]? = H[q]?) → W p l e R s m args below meth c H' (locs ++ [⟨pm_ad E base a, f.slot⟩]) cells slots Q (F0 m (pc + 3) ls rest) := by
        intro H' e1 e2 e3
        rw [hsl] at e1
        refine k H' _ (g.put ha1 ha2 (e := .inr (x.1, fs.set x.2.1 v)) ?_ e2 e3 (fun n f h => by cases h)) (fun z hz => ?_)
        · refine ⟨_, hq, ?_⟩
          show t_OB _ _ _ _ _ (vp_V ((fs.set x.2.1 v).map (pm_tr E base)))
          rw [List.map_set]
          exact t_OB.to (V := updV (vp_V (fs.map (pm_tr E base))) x.2.1 (pm_tr E base v)) ⟨_, e1, q2, q3, t_set q4 hap hk _⟩ (fun j _ => vp_updV_set (by rw [List.length_map]; exact hl0) _ j)
        · rcases List.mem_append.mp hz with hz | hz
          · exact hlo z hz
          · rw [List.mem_singleton.mp hz]; exact hbl
      have hlay := hts _ (hin _ (u_in_lay hk))
      unfold u_lay at hlay
      by_cases hff : (T x.2.1).2.2.2 = false
      · rw [if_neg (by rw [hff]; decide)] at hlay
        have h6 := u_store hfc hkC hkind hlay hi hd hn hft
        by_cases hn2 : x.2.2 = true
        · rw [if_pos hn2] at hl
          exact va_WputK hx hb (f := f) hown (va_Nw.use rfl (hGS.2.1 _ hl rfl)) hi hst (by rw [q2]; exact h6) q1 q3 (by rw [hsl]; exact k2_hasslot (q4 x.2.1 hk)) rfl rfl hdg fin
        · rw [if_neg hn2] at hl
          exact W.putK hx hb (f := f) ⟨hown, hts _ (pm_G_in hl), ⟨_, _, _, hi⟩, hst⟩ (by rw [q2]; exact h6) q1 q3 (by rw [hsl]; exact k2_hasslot (q4 x.2.1 hk)) rfl rfl hdg fin
      · rcases hfin with hfin | ⟨hi1, hi2, hi3⟩
        · exact absurd hfin hff
        have hft2 : (T x.2.1).2.2.2 = true := by cases hz : (T x.2.1).2.2.2 with
          | true => rfl
          | false => exact absurd hz hff
        rw [if_pos hft2] at hlay
        rw [if_neg (by rw [hi2]; decide)] at hl
        have hcf : m.cls = cf := by
          obtain ⟨_, _, c', _, _, _, -, -, hf', -, -, -, hown2, -⟩ := Cond.laysFinal_spec hlay
          have e1 : c' = cf := by have := hi.symm.trans hf'; simp at this; exact this.1.symm
          have hi3' : (T x.2.1).1 = pm_ow k0 := hi3
          rw [hi3'] at hown2
          rw [← e1]; exact Option.some.inj (hown.symm.trans hown2)
        have h6 := u_fits hfc hkC hkind (Or.inr hlay) hi hd hn hft
        exact W.putFinK hx hb hown (hts _ (pm_G_in hl)) hi hst hcf (hini hi1) (by rw [q2]; exact h6) q1 q3 (by rw [hsl]; exact k2_hasslot (q4 x.2.1 hk)) rfl rfl hdg fin
theorem pm_s_static (hx : p.tables.exec = Jvm.exec) (hb : c.code = cc) (hts : ∀ w ∈ pm_good, w.before args s = true) (hown : s.vm.findClass (pm_ow k0) = some m.cls) (hGS : pm_GS D aC s) (g : pm_GD D aC E base h s H) {ix : Nat} {x : Nat × Bool} (hv : pm_at pm_SL k0 ix = some x) (hdg : decode cc pc = .ok (.getstatic ix, 3))
    (k : W p l e R s m args below meth c H locs cells slots Q (F0 m (pc + 3) ls (.ref (pm_ad E base x.1) :: rest))) : W p l e R s m args below meth c H locs cells slots Q (F0 m pc ls rest) := by
  obtain ⟨h1, h2, hl⟩ := pm_S_spec hv
  have h1 : 1 ≤ x.1 := h1
  have h2 : x.1 < 7 := h2
  have e : pm_ad E base x.1 = E x.1 := if_pos (by omega)
  rw [e] at k
  obtain ⟨cf, kf, fi, f, a, cell, z1, z2, z3, z4, z5, z6, z7, z8⟩ := g.2.2.2.1.1 x.1 h1 h2
  by_cases hn : x.2 = true
  · rw [if_pos hn] at hl
    exact va_WgetsN hx hb hown (va_Nw.use rfl (hGS.2.1 _ hl rfl)) z1 z2 z3 z4 z5 (fun e => by rw [e] at z6; cases z6) z7 rfl hdg k
  · rw [if_neg hn] at hl
    exact W.gets hx hb hown (hts _ (pm_G_in hl)) z1 z2 z3 z4 z5 (fun e => by rw [e] at z6; cases z6) z7 rfl hdg k
end PMH
