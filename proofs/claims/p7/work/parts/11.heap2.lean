section PMH2
variable {p : Program} {l : Launch} {e : Env} {R : Room} {s : State} {m : MethodId} {args : Array Value} {below : List Frame} {meth : Method} {c : Code} {H : Heap} {locs : List Loc} {cells slots : Nat} {Q : State → Prop}
variable {cc : ByteArray} {pc : Nat} {ls : Array Slot} {E : Nat → Nat} {base : Nat} {D : va_G} {aC : Nat → ClassId} {h : pm_H} {k0 : Nat} {rest : List Value}
/-- a write of one cell, seen by the pure heap -/
theorem pm_wr (g : pm_GD D aC E base h s H) (hlo : ∀ q ∈ locs, base ≤ q.base) {a i : Nat} {x : pm_E} (h1 : 16 ≤ a) (h2 : a < h.1) (hby : ∀ (n : Nat) (f : Nat → Int32), x = .inl (2, n, .inl f) → ∀ j, fits .byte (.int (f j)) = true) {W' : Heap → List Loc → Prop} (k : ∀ (H' : Heap) (locs' : List Loc), pm_GD D aC E base (pm_set h a x) s H' → (∀ q ∈ locs', base ≤ q.base) → W' H' locs') {H' : Heap} (hc : va_at D pm_cl (pm_ad E base a, pm_trE aC E base x) H') (z : H'.size = H.size) (o : ∀ q, q ≠ pm_ad E base a → H'[q]? = H[q]?) : W' H' (locs ++ [⟨pm_ad E base a, i⟩]) := by
  refine k H' _ (g.put h1 h2 hc z o hby) (fun q hq => ?_)
  rcases List.mem_append.mp hq with hq | hq
  · exact hlo q hq
  · rw [List.mem_singleton.mp hq]
    show base ≤ pm_ad E base a
    rw [pm_ad_new h1]; omega
theorem pm_s_alen (hx : p.tables.exec = Jvm.exec) (hb : c.code = cc) (hGS : pm_GS D aC s) (g : pm_GD D aC E base h s H) {a t : Nat} {x : vp_A} (h1 : 16 ≤ a) (h2 : a < h.1) (ht : t < 10) (ha : h.2.2 a = .inl (t, x)) (hdg : decode cc pc = .ok (.arraylength, 1))
    (k : W p l e R s m args below meth c H locs cells slots Q (F0 m (pc + 1) ls (.int (Int32.ofNat x.1) :: rest))) : W p l e R s m args below meth c H locs cells slots Q (F0 m pc ls (.ref (pm_ad E base a) :: rest)) := by
  have hat := pm_cell g h1 h2 ha
  have e1 : (pm_trA E base x).1 = x.1 := by obtain ⟨n, f | f | f | f | f⟩ := x <;> rfl
  exact va_alen (D := D) (ws := [(pm_ad E base a, .inl (aC t, pm_trA E base x))]) hx hb hGS.1 (pm_P1 hat) 0 t rfl (pm_tys_at aC ht) (by rw [e1]) hdg k
/-- an int array, new or old -/
theorem pm_intarr (hGS : pm_GS D aC s) (g : pm_GD D aC E base h s H) {a n : Nat} {f : Nat → Int32} (h2 : a < h.1) (ha : h.2.2 a = .inl (0, n, .inl f)) : ∃ cell : Cell, H[pm_ad E base a]? = some cell ∧ s.isArrayOf cell .int ∧ cell.vm ≠ .unknown ∧ n ≤ cell.slots.size ∧ cell.slots.size.toInt32 = Int32.ofNat n ∧ ∀ j, j < n → cell.slots[j]? = some (.int (f j)) := by
  by_cases h1 : 16 ≤ a
  · have hat : H[pm_ad E base a]? = some (vp_cell (aC 0) (n, .inl f)) := pm_cell g h1 h2 ha
    refine ⟨_, hat, (hGS.1.2 0 _ (pm_tys_at aC (t := 0) (by decide))).1 n (fun j => .int (f j)), fun q => (by cases q), ?_, ?_, fun j hj => ?_⟩
    · show n ≤ (arrV _ _ _).slots.size; rw [arrV_size]; exact Nat.le_refl n
    · show (arrV _ _ _).slots.size.toInt32 = _; rw [arrV_size] <;> rfl
    · show (arrV _ _ _).slots[j]? = _; rw [arrV_read _ _ hj]
  · obtain ⟨cell, c1, c2, c3, c4, c5, c6, c7⟩ := g.2.2.2.2.1 a n f (by omega) ha
    have e1 : pm_ad E base a = E a := if_pos (by omega)
    rw [e1]
    exact ⟨cell, c1, c2, c3, c4, c5, c6⟩
theorem pm_s_alen0 (hx : p.tables.exec = Jvm.exec) (hb : c.code = cc) (hGS : pm_GS D aC s) (g : pm_GD D aC E base h s H) {a n : Nat} {f : Nat → Int32} (h2 : a < h.1) (ha : h.2.2 a = .inl (0, n, .inl f)) (hdg : decode cc pc = .ok (.arraylength, 1))
    (k : W p l e R s m args below meth c H locs cells slots Q (F0 m (pc + 1) ls (.int (Int32.ofNat n) :: rest))) : W p l e R s m args below meth c H locs cells slots Q (F0 m pc ls (.ref (pm_ad E base a) :: rest)) := by
  obtain ⟨cell, c1, c2, c3, c4, c5, c6⟩ := pm_intarr hGS g h2 ha
  exact W.alen (n := Int32.ofNat n) hx hb c1 c2 c5 rfl rfl hdg k
theorem pm_s_iald (hx : p.tables.exec = Jvm.exec) (hb : c.code = cc) (hGS : pm_GS D aC s) (g : pm_GD D aC E base h s H) {a n : Nat} {f : Nat → Int32} {j : Int32} (h2 : a < h.1) (ha : h.2.2 a = .inl (0, n, .inl f)) (hj : pm_in j n = true) (hdg : decode cc pc = .ok (.iaload, 1))
    (k : W p l e R s m args below meth c H locs cells slots Q (F0 m (pc + 1) ls (.int (f j.toNatClampNeg) :: rest))) : W p l e R s m args below meth c H locs cells slots Q (F0 m pc ls (.int j :: .ref (pm_ad E base a) :: rest)) := by
  obtain ⟨cell, c1, c2, c3, c4, c5, c6⟩ := pm_intarr hGS g h2 ha
  have hin := pm_in_spec hj
  have hlt : j.toNatClampNeg < n := Nat.not_le.mp fun q => hin (Or.inr q)
  exact W.iald (v := .int (f j.toNatClampNeg)) hx hb c1 c2 c3 (fun q => by rcases q with q | q; exact hin (Or.inl q); omega) (c6 _ hlt) rfl rfl hdg k
theorem pm_s_bald (hx : p.tables.exec = Jvm.exec) (hb : c.code = cc) (hGS : pm_GS D aC s) (g : pm_GD D aC E base h s H) {a n t : Nat} {f : Nat → Int32} {j : Int32} (ht : t = 2 ∨ t = 3) (h1 : 16 ≤ a) (h2 : a < h.1) (ha : h.2.2 a = .inl (t, n, .inl f)) (hj : pm_in j n = true) (hdg : decode cc pc = .ok (.baload, 1))
    (k : W p l e R s m args below meth c H locs cells slots Q (F0 m (pc + 1) ls (.int (f j.toNatClampNeg) :: rest))) : W p l e R s m args below meth c H locs cells slots Q (F0 m pc ls (.int j :: .ref (pm_ad E base a) :: rest)) := by
  have hat := pm_cell g h1 h2 ha
  rcases ht with rfl | rfl
  · exact va_bald (D := D) (ws := [(pm_ad E base a, .inl (aC 2, n, .inl f))]) hx hb hGS.1 (pm_P1 hat) 0 2 rfl (pm_tys_at aC (by decide)) (pm_in_spec hj) hdg k
  · exact va_zald (D := D) (ws := [(pm_ad E base a, .inl (aC 3, n, .inl f))]) hx hb hGS.1 (pm_P1 hat) 0 3 rfl (pm_tys_at aC (by decide)) (pm_in_spec hj) hdg k
theorem pm_s_lald (hx : p.tables.exec = Jvm.exec) (hb : c.code = cc) (hGS : pm_GS D aC s) (g : pm_GD D aC E base h s H) {a n : Nat} {f : Nat → Int64} {j : Int32} (h1 : 16 ≤ a) (h2 : a < h.1) (ha : h.2.2 a = .inl (1, n, .inr (.inl f))) (hj : pm_in j n = true) (hdg : decode cc pc = .ok (.laload, 1))
    (k : W p l e R s m args below meth c H locs cells slots Q (F0 m (pc + 1) ls (.long (f j.toNatClampNeg) :: rest))) : W p l e R s m args below meth c H locs cells slots Q (F0 m pc ls (.int j :: .ref (pm_ad E base a) :: rest)) := by
  have hat := pm_cell g h1 h2 ha
  exact va_lald (D := D) (ws := [(pm_ad E base a, .inl (aC 1, n, .inr (.inl f)))]) hx hb hGS.1 (pm_P1 hat) 0 1 rfl (pm_tys_at aC (by decide)) (pm_in_spec hj) hdg k
theorem pm_aT_obj {t : Nat} (h1 : 4 ≤ t) (h2 : t < 10) : ∃ C, pm_aT t = .object C := by
  match t, h1, h2 with
  | 4, _, _ => exact ⟨_, rfl⟩
  | 5, _, _ => exact ⟨_, rfl⟩
  | 6, _, _ => exact ⟨_, rfl⟩
  | 7, _, _ => exact ⟨_, rfl⟩
  | 8, _, _ => exact ⟨_, rfl⟩
  | 9, _, _ => exact ⟨_, rfl⟩
theorem pm_s_aald (hx : p.tables.exec = Jvm.exec) (hb : c.code = cc) (hGS : pm_GS D aC s) (g : pm_GD D aC E base h s H) {a n t : Nat} {f : Nat → Option Nat} {j : Int32} (ht1 : 4 ≤ t) (ht2 : t < 10) (h1 : 16 ≤ a) (h2 : a < h.1) (ha : h.2.2 a = .inl (t, n, .inr (.inr (.inr (.inr f))))) (hj : pm_in j n = true) (hdg : decode cc pc = .ok (.aaload, 1))
    (k : W p l e R s m args below meth c H locs cells slots Q (F0 m (pc + 1) ls (pm_tr E base (va_rf (f j.toNatClampNeg)) :: rest))) : W p l e R s m args below meth c H locs cells slots Q (F0 m pc ls (.int j :: .ref (pm_ad E base a) :: rest)) := by
  have hat := pm_cell g h1 h2 ha
  obtain ⟨C, hC⟩ := pm_aT_obj ht1 ht2
  rw [pm_ref_tr] at k
  exact va_aldq (D := D) (C := C) (ws := [(pm_ad E base a, .inl (aC t, n, .inr (.inr (.inr (.inr (fun j => (f j).map (pm_ad E base)))))))]) hx hb hGS.1 (pm_P1 hat) 0 t rfl (by rw [pm_tys_at aC ht2, hC]) (pm_in_spec hj) hdg k
theorem pm_s_iast (hx : p.tables.exec = Jvm.exec) (hb : c.code = cc) (hGS : pm_GS D aC s) (g : pm_GD D aC E base h s H) (hlo : ∀ q ∈ locs, base ≤ q.base) {a n : Nat} {f : Nat → Int32} {j x : Int32} (h1 : 16 ≤ a) (h2 : a < h.1) (ha : h.2.2 a = .inl (0, n, .inl f)) (hj : pm_in j n = true) (hdg : decode cc pc = .ok (.iastore, 1))
    (k : ∀ (H' : Heap) (locs' : List Loc), pm_GD D aC E base (pm_set h a (.inl (0, n, .inl (upd f j.toNatClampNeg x)))) s H' → (∀ q ∈ locs', base ≤ q.base) → W p l e R s m args below meth c H' locs' cells slots Q (F0 m (pc + 1) ls rest)) : W p l e R s m args below meth c H locs cells slots Q (F0 m pc ls (.int x :: .int j :: .ref (pm_ad E base a) :: rest)) := by
  have hat : H[pm_ad E base a]? = some (vp_cell (aC 0) (n, .inl f)) := pm_cell g h1 h2 ha
  refine W.iast hx hb hat ((hGS.1.2 0 _ (pm_tys_at aC (t := 0) (by decide))).1 n (fun j => .int (f j))) (fun q => by cases q) (by show ¬ (j < 0 ∨ (arrV _ _ _).slots.size ≤ _); rw [arrV_size]; exact pm_in_spec hj) rfl rfl hdg fun H1 e1 z oq => ?_
  refine pm_wr g hlo h1 h2 (pm_hb0 (by decide)) k ?_ z oq
  show H1[pm_ad E base a]? = some (vp_cell (aC 0) (n, .inl (upd f j.toNatClampNeg x)))
  rw [e1, vp_cell_i, vp_cell_i, arrV_store]
  congr 2
  funext q
  by_cases hq : q = j.toNatClampNeg
  · subst hq
    simp [updV, upd]
  · simp [updV, upd, hq]
theorem pm_s_bast (hx : p.tables.exec = Jvm.exec) (hb : c.code = cc) (hGS : pm_GS D aC s) (g : pm_GD D aC E base h s H) (hlo : ∀ q ∈ locs, base ≤ q.base) {a n : Nat} {f : Nat → Int32} {j x : Int32} (h1 : 16 ≤ a) (h2 : a < h.1) (ha : h.2.2 a = .inl (2, n, .inl f)) (hj : pm_in j n = true) (hdg : decode cc pc = .ok (.bastore, 1))
    (k : ∀ (H' : Heap) (locs' : List Loc), pm_GD D aC E base (pm_set h a (.inl (2, n, .inl (upd f j.toNatClampNeg x.toInt8.toInt32)))) s H' → (∀ q ∈ locs', base ≤ q.base) → W p l e R s m args below meth c H' locs' cells slots Q (F0 m (pc + 1) ls rest)) : W p l e R s m args below meth c H locs cells slots Q (F0 m pc ls (.int x :: .int j :: .ref (pm_ad E base a) :: rest)) := by
  have hat : H[pm_ad E base a]? = some (vp_cell (aC 2) (n, .inl f)) := pm_cell g h1 h2 ha
  have hold := g.2.2.2.2.2 a n f ha
  refine W.bast hx hb hat ((hGS.1.2 2 _ (pm_tys_at aC (t := 2) (by decide))).1 n (fun j => .int (f j))) (fun q => by cases q) (by show ¬ (j < 0 ∨ (arrV _ _ _).slots.size ≤ _); rw [arrV_size]; exact pm_in_spec hj) rfl rfl hdg fun H1 e1 z oq => ?_
  refine pm_wr g hlo h1 h2 (fun n' f' hh i => ?_) k ?_ z oq
  · injection hh with hh
    injection hh with hh1 hh2
    injection hh2 with hh2 hh3
    injection hh3 with hh3
    rw [← hh3]
    by_cases hi : i = j.toNatClampNeg
    · subst hi
      rw [pk_us]; exact pm_fitb x
    · rw [pk_un hi]; exact hold i
  show H1[pm_ad E base a]? = some (vp_cell (aC 2) (n, .inl (upd f j.toNatClampNeg x.toInt8.toInt32)))
  rw [e1, vp_cell_i, vp_cell_i, arrV_store]
  congr 2
  funext q
  by_cases hq : q = j.toNatClampNeg
  · subst hq
    simp [updV, upd]
    try rfl
  · simp [updV, upd, hq]
theorem pm_s_zast (hx : p.tables.exec = Jvm.exec) (hb : c.code = cc) (hGS : pm_GS D aC s) (g : pm_GD D aC E base h s H) (hlo : ∀ q ∈ locs, base ≤ q.base) {a n : Nat} {f : Nat → Int32} {j x : Int32} (h1 : 16 ≤ a) (h2 : a < h.1) (ha : h.2.2 a = .inl (3, n, .inl f)) (hj : pm_in j n = true) (hdg : decode cc pc = .ok (.bastore, 1))
    (k : ∀ (H' : Heap) (locs' : List Loc), pm_GD D aC E base (pm_set h a (.inl (3, n, .inl (upd f j.toNatClampNeg (x &&& 1))))) s H' → (∀ q ∈ locs', base ≤ q.base) → W p l e R s m args below meth c H' locs' cells slots Q (F0 m (pc + 1) ls rest)) : W p l e R s m args below meth c H locs cells slots Q (F0 m pc ls (.int x :: .int j :: .ref (pm_ad E base a) :: rest)) := by
  have hat : H[pm_ad E base a]? = some (vp_cell (aC 3) (n, .inl f)) := pm_cell g h1 h2 ha
  refine W.zast hx hb hat ((hGS.1.2 3 _ (pm_tys_at aC (t := 3) (by decide))).1 n (fun j => .int (f j))) (fun q => by cases q) (by show ¬ (j < 0 ∨ (arrV _ _ _).slots.size ≤ _); rw [arrV_size]; exact pm_in_spec hj) rfl rfl hdg fun H1 e1 z oq => ?_
  refine pm_wr g hlo h1 h2 (pm_hb0 (by decide)) k ?_ z oq
  show H1[pm_ad E base a]? = some (vp_cell (aC 3) (n, .inl (upd f j.toNatClampNeg (x &&& 1))))
  rw [e1, vp_cell_i, vp_cell_i, arrV_store]
  congr 2
  funext q
  by_cases hq : q = j.toNatClampNeg
  · subst hq
    simp [updV, upd]
    try rfl
  · simp [updV, upd, hq]
theorem pm_s_last (hx : p.tables.exec = Jvm.exec) (hb : c.code = cc) (hGS : pm_GS D aC s) (g : pm_GD D aC E base h s H) (hlo : ∀ q ∈ locs, base ≤ q.base) {a n : Nat} {f : Nat → Int64} {j : Int32} {x : Int64} (h1 : 16 ≤ a) (h2 : a < h.1) (ha : h.2.2 a = .inl (1, n, .inr (.inl f))) (hj : pm_in j n = true) (hdg : decode cc pc = .ok (.lastore, 1))
    (k : ∀ (H' : Heap) (locs' : List Loc), pm_GD D aC E base (pm_set h a (.inl (1, n, .inr (.inl (vp_updL f j.toNatClampNeg x))))) s H' → (∀ q ∈ locs', base ≤ q.base) → W p l e R s m args below meth c H' locs' cells slots Q (F0 m (pc + 1) ls rest)) : W p l e R s m args below meth c H locs cells slots Q (F0 m pc ls (.long x :: .int j :: .ref (pm_ad E base a) :: rest)) := by
  have hat : H[pm_ad E base a]? = some (vp_cell (aC 1) (n, .inr (.inl f))) := pm_cell g h1 h2 ha
  refine W.last hx hb hat ((hGS.1.2 1 _ (pm_tys_at aC (t := 1) (by decide))).1 n (fun j => .long (f j))) (fun q => by cases q) (by show ¬ (j < 0 ∨ (arrV _ _ _).slots.size ≤ _); rw [arrV_size]; exact pm_in_spec hj) rfl rfl hdg fun H1 e1 z oq => ?_
  refine pm_wr g hlo h1 h2 (fun n f hh => by injection hh with hh; injection hh with hh1 hh2; cases hh1) k ?_ z oq
  show H1[pm_ad E base a]? = some (vp_cell (aC 1) (n, .inr (.inl (vp_updL f j.toNatClampNeg x))))
  rw [e1, vp_cell_l, vp_cell_l, arrV_store]
  congr 2
  funext q
  by_cases hq : q = j.toNatClampNeg
  · subst hq
    simp [updV, vp_updL]
  · simp [updV, vp_updL, hq]
theorem pm_s_aastN (hx : p.tables.exec = Jvm.exec) (hb : c.code = cc) (hGS : pm_GS D aC s) (g : pm_GD D aC E base h s H) (hlo : ∀ q ∈ locs, base ≤ q.base) {a n t : Nat} {f : Nat → Option Nat} {j : Int32} (ht1 : 4 ≤ t) (ht2 : t < 10) (h1 : 16 ≤ a) (h2 : a < h.1) (ha : h.2.2 a = .inl (t, n, .inr (.inr (.inr (.inr f))))) (hj : pm_in j n = true) (hdg : decode cc pc = .ok (.aastore, 1))
    (k : ∀ (H' : Heap) (locs' : List Loc), pm_GD D aC E base (pm_set h a (.inl (t, n, .inr (.inr (.inr (.inr (va_up f j.toNatClampNeg none))))))) s H' → (∀ q ∈ locs', base ≤ q.base) → W p l e R s m args below meth c H' locs' cells slots Q (F0 m (pc + 1) ls rest)) : W p l e R s m args below meth c H locs cells slots Q (F0 m pc ls (.null :: .int j :: .ref (pm_ad E base a) :: rest)) := by
  have hat : H[pm_ad E base a]? = some (vp_cell (aC t) (n, .inr (.inr (.inr (.inr (fun j => (f j).map (pm_ad E base))))))) := pm_cell g h1 h2 ha
  obtain ⟨C, hC⟩ := pm_aT_obj ht1 ht2
  have hty := hGS.1.2 t _ (pm_tys_at aC ht2)
  have hty1 : ArrOfT s (aC t) (.object C) := by have := hty.1; rw [hC] at this; exact this
  refine va_WaastN (C := C) hx hb hat (hty1 n (fun j => va_rf ((f j).map (pm_ad E base)))) (fun q => by cases q) (by show ¬ (j < 0 ∨ (arrV _ _ _).slots.size ≤ _); rw [arrV_size]; exact pm_in_spec hj) rfl rfl hdg fun H1 e1 z oq => ?_
  refine pm_wr g hlo h1 h2 (fun n f hh => by injection hh with hh; injection hh with hh1 hh2; omega) k ?_ z oq
  show H1[pm_ad E base a]? = some (vp_cell (aC t) (n, .inr (.inr (.inr (.inr (fun i => (va_up f j.toNatClampNeg none i).map (pm_ad E base)))))))
  rw [e1, vp_cell_q, vp_cell_q, arrV_store]
  congr 2
  funext q
  by_cases hq : q = j.toNatClampNeg
  · subst hq
    simp [updV, va_up, va_rf]
  · simp [updV, va_up, hq]
theorem pm_oty_spec {ci t : Nat} (h : pm_oty ci = some t) : 4 ≤ t ∧ t < 10 ∧ ∃ q : vw_C, pm_cl[ci]? = some q ∧ pm_aT t = .object q.1 := by
  unfold pm_oty at h
  split at h <;> first | (cases h; exact ⟨by decide, by decide, _, rfl, rfl⟩) | cases h
set_option maxHeartbeats 1000000 in
theorem pm_s_aast (hx : p.tables.exec = Jvm.exec) (hb : c.code = cc) (hGS : pm_GS D aC s) (g : pm_GD D aC E base h s H) (hlo : ∀ q ∈ locs, base ≤ q.base) {a b n t ci : Nat} {fs : List Value} {f : Nat → Option Nat} {j : Int32} (h1 : 16 ≤ a) (h2 : a < h.1) (ha : h.2.2 a = .inl (t, n, .inr (.inr (.inr (.inr f))))) (hb1 : 16 ≤ b) (hb2 : b < h.1) (hbc : h.2.2 b = .inr (ci, fs)) (hot : pm_oty ci = some t) (hj : pm_in j n = true) (hdg : decode cc pc = .ok (.aastore, 1))
    (k : ∀ (H' : Heap) (locs' : List Loc), pm_GD D aC E base (pm_set h a (.inl (t, n, .inr (.inr (.inr (.inr (va_up f j.toNatClampNeg (some b)))))))) s H' → (∀ q ∈ locs', base ≤ q.base) → W p l e R s m args below meth c H' locs' cells slots Q (F0 m (pc + 1) ls rest)) : W p l e R s m args below meth c H locs cells slots Q (F0 m pc ls (.ref (pm_ad E base b) :: .int j :: .ref (pm_ad E base a) :: rest)) := by
  obtain ⟨ht1, ht2, r, hc, hC⟩ := pm_oty_spec hot
  have hat : H[pm_ad E base a]? = some (vp_cell (aC t) (n, .inr (.inr (.inr (.inr (fun j => (f j).map (pm_ad E base))))))) := pm_cell g h1 h2 ha
  have hin := pm_in_spec hj
  have hlt : j.toNatClampNeg < n := Nat.not_le.mp fun q => hin (Or.inr q)
  have h0 : ¬ j < 0 := fun q => hin (Or.inl q)
  obtain ⟨r', hr', cellV, g1, g2, g3, -⟩ := pm_cell g hb1 hb2 hbc
  have hcls := (hGS.1.1 ci r hc).2
  have hty := hGS.1.2 t _ (pm_tys_at aC ht2)
  have hra : va_RA s (aC t) (.object r.1) := by have := hty.2; rw [hC] at this; exact this
  obtain ⟨kA, comp, k1, k2, k3, -⟩ := hra
  have hcomp : comp = D.1 ci := Option.some.inj (k3.symm.trans hcls.1)
  subst hcomp
  obtain ⟨kC, hkC, -⟩ := hcls.2
  refine W.aast hx hb hat (fun q h => by cases h) (fun h => by cases h) k1 k2 rfl hkC ⟨h0, by show _ < (arrV _ _ _).slots.size; rw [arrV_size]; exact hlt⟩ g1 (fun q h => by rw [g3] at h; cases h) (by rw [g2]; exact hkC) (by rw [g2]; exact va_assign hcls) rfl rfl hdg fun H1 e1 z oq => ?_
  refine pm_wr g hlo h1 h2 (fun n f hh => by injection hh with hh; injection hh with hh1 hh2; omega) k ?_ z oq
  show H1[pm_ad E base a]? = some (vp_cell (aC t) (n, .inr (.inr (.inr (.inr (fun i => (va_up f j.toNatClampNeg (some b) i).map (pm_ad E base)))))))
  rw [e1, vp_cell_q, vp_cell_q, arrV_store]
  congr 2
  funext q
  by_cases hq : q = j.toNatClampNeg
  · subst hq
    simp [updV, va_up, va_rf]
  · simp [updV, va_up, hq]
theorem pm_s_newa (hx : p.tables.exec = Jvm.exec) (hb : c.code = cc) (hts : ∀ w ∈ pm_good, w.before args s = true) (hGS : pm_GS D aC s) (g : pm_GD D aC E base h s H) {at_ : ArrayType} {t : Nat} {n : Int32} (ht : pm_aty at_ = some t) (hn : ¬ n < 0) (hN : n.toNatClampNeg ≤ 67108864) (hcells : cells + 1 ≤ R.cells) (hslots : slots + n.toNatClampNeg ≤ R.slots) (hdg : decode cc pc = .ok (.newarray at_, 2))
    (k : ∀ (H' : Heap), pm_GD D aC E base (pm_push h (.inl (t, pm_newty t n.toNatClampNeg)) n.toNatClampNeg) s H' → W p l e R s m args below meth c H' locs (cells + 1) (slots + n.toNatClampNeg) Q (F0 m (pc + 2) ls (.ref (pm_ad E base h.1) :: rest))) : W p l e R s m args below meth c H locs cells slots Q (F0 m pc ls (.int n :: rest)) := by
  have hs := g.1
  have h16 := g.2.1
  have hsz : pm_ad E base h.1 = H.size := by rw [pm_ad_new h16]; omega
  rw [hsz] at k
  unfold pm_aty at ht
  split at ht <;> first | cases ht | skip
  · refine va_newaK (atype := .int) hx hb (hts _ (pm_G_in pm_arr.1)) rfl hdg rfl hn rfl (by show _ * 4 ≤ _; omega) hcells hslots rfl fun H1 cA e1 z1 o1 hAr hNm => ?_
    have hra : s.vm.findClass ("[" ++ (FieldType.int).toString) = some (aC 0) := (hGS.1.2 0 _ (pm_tys_at aC (t := 0) (by decide))).2
    cases hra.symm.trans hNm
    exact k H1 (g.push (e := .inl (0, pm_newty 0 n.toNatClampNeg)) (show H1[H.size]? = some (vp_cell _ _) from e1) z1 o1 (fun n f hh => by injection hh with hh; injection hh with hh1 hh2; cases hh1))
  · refine va_newaK (atype := .long) hx hb (hts _ (pm_G_in pm_arr.2.1)) rfl hdg rfl hn rfl (by show _ * 8 ≤ _; omega) hcells hslots rfl fun H1 cA e1 z1 o1 hAr hNm => ?_
    have hra : s.vm.findClass ("[" ++ (FieldType.long).toString) = some (aC 1) := (hGS.1.2 1 _ (pm_tys_at aC (t := 1) (by decide))).2
    cases hra.symm.trans hNm
    exact k H1 (g.push (e := .inl (1, pm_newty 1 n.toNatClampNeg)) (show H1[H.size]? = some (vp_cell _ _) from e1) z1 o1 (fun n f hh => by injection hh with hh; injection hh with hh1 hh2; cases hh1))
  · refine va_newaK (atype := .byte) hx hb (hts _ (pm_G_in pm_arr.2.2.1)) rfl hdg rfl hn rfl (by show _ * 1 ≤ _; omega) hcells hslots rfl fun H1 cA e1 z1 o1 hAr hNm => ?_
    have hra : s.vm.findClass ("[" ++ (FieldType.byte).toString) = some (aC 2) := (hGS.1.2 2 _ (pm_tys_at aC (t := 2) (by decide))).2
    cases hra.symm.trans hNm
    exact k H1 (g.push (e := .inl (2, pm_newty 2 n.toNatClampNeg)) (show H1[H.size]? = some (vp_cell _ _) from e1) z1 o1 (fun n f hh i => by injection hh with hh; injection hh with hh1 hh2; injection hh2 with hh2 hh3; injection hh3 with hh3; rw [← hh3]; rfl))
  · refine va_newaK (atype := .boolean) hx hb (hts _ (pm_G_in pm_arr.2.2.2)) rfl hdg rfl hn rfl (by show _ * 1 ≤ _; omega) hcells hslots rfl fun H1 cA e1 z1 o1 hAr hNm => ?_
    have hra : s.vm.findClass ("[" ++ (FieldType.boolean).toString) = some (aC 3) := (hGS.1.2 3 _ (pm_tys_at aC (t := 3) (by decide))).2
    cases hra.symm.trans hNm
    exact k H1 (g.push (e := .inl (3, pm_newty 3 n.toNatClampNeg)) (show H1[H.size]? = some (vp_cell _ _) from e1) z1 o1 (fun n f hh => by injection hh with hh; injection hh with hh1 hh2; cases hh1))
theorem pm_oty_over {ci t : Nat} {q : vw_C} (h : pm_oty ci = some t) (hq : pm_cl[ci]? = some q) : (Cond.arrayOver (.object q.1)) ∈ lw_tbl ∧ pm_newty t = fun n => (n, .inr (.inr (.inr (.inr (fun _ => none))))) := by
  obtain ⟨o1, o2, o3, o4, o5, o6⟩ := pm_over
  unfold pm_oty at h
  split at h
  · cases h; cases hq; exact ⟨o1, rfl⟩
  · cases h; cases hq; exact ⟨o2, rfl⟩
  · cases h; cases hq; exact ⟨o3, rfl⟩
  · cases h; cases hq; exact ⟨o4, rfl⟩
  · cases h; cases hq; exact ⟨o5, rfl⟩
  · cases h; cases hq; exact ⟨o6, rfl⟩
  · cases h
theorem pm_s_newq (hx : p.tables.exec = Jvm.exec) (hb : c.code = cc) (hts : ∀ w ∈ pm_good, w.before args s = true) (hown : s.vm.findClass (pm_ow k0) = some m.cls) (hGS : pm_GS D aC s) (g : pm_GD D aC E base h s H) {ix ci t : Nat} {n : Int32} (hci : pm_at pm_NL k0 ix = some ci) (ht : pm_oty ci = some t) (hn : ¬ n < 0) (hN : n.toNatClampNeg ≤ 67108864) (hcells : cells + 1 ≤ R.cells) (hslots : slots + n.toNatClampNeg ≤ R.slots) (hdg : decode cc pc = .ok (.anewarray ix, 3))
    (k : ∀ (H' : Heap), pm_GD D aC E base (pm_push h (.inl (t, pm_newty t n.toNatClampNeg)) n.toNatClampNeg) s H' → W p l e R s m args below meth c H' locs (cells + 1) (slots + n.toNatClampNeg) Q (F0 m (pc + 3) ls (.ref (pm_ad E base h.1) :: rest))) : W p l e R s m args below meth c H locs cells slots Q (F0 m pc ls (.int n :: rest)) := by
  have hs := g.1
  have h16 := g.2.1
  have hsz : pm_ad E base h.1 = H.size := by rw [pm_ad_new h16]; omega
  rw [hsz] at k
  obtain ⟨q, hq, hlk⟩ := pm_N_spec hci
  obtain ⟨hov, hnt⟩ := pm_oty_over ht hq
  obtain ⟨ht1, ht2, q', hq', hC⟩ := pm_oty_spec ht
  cases hq.symm.trans hq'
  refine W.anew hx hb hown (hts _ (pm_G_in hlk)) (va_AO.use (hGS.2.2.1 _ hov)) rfl hdg rfl hn (by omega) hcells hslots fun cA kA comp f1 f2 f3 f4 => ?_
  have hra : va_RA s (aC t) (.object q.1) := by have := (hGS.1.2 t _ (pm_tys_at aC ht2)).2; rw [hC] at this; exact this
  obtain ⟨kA2, comp2, k1, k2, k3, k4⟩ := hra
  cases k4.symm.trans f1
  rw [hnt] at k
  refine k _ (g.push (e := .inl (t, (n.toNatClampNeg, .inr (.inr (.inr (.inr (fun _ => none))))))) ?_ (by rw [Array.size_push]) (fun q hq => by rw [Array.getElem?_push, if_neg (Nat.ne_of_lt hq)]) (fun n f hh => by injection hh with hh; injection hh with hh1 hh2; omega))
  show (H.push _)[H.size]? = some (vp_cell _ _)
  rw [Array.getElem?_push_size, arrV_new]
  rfl
theorem pm_s_new (hx : p.tables.exec = Jvm.exec) (hb : c.code = cc) (hts : ∀ w ∈ pm_good, w.before args s = true) (hown : s.vm.findClass (pm_ow k0) = some m.cls) (hGS : pm_GS D aC s) (g : pm_GD D aC E base h s H) {ix ci : Nat} {q : vw_C} (hci : pm_at pm_NL k0 ix = some ci) (hq : pm_cl[ci]? = some q) (hcells : cells + 1 ≤ R.cells) (hslots : slots + q.2.2 ≤ R.slots) (hdg : decode cc pc = .ok (.new ix, 3))
    (k : ∀ (H' : Heap), pm_GD D aC E base (pm_push h (.inr (ci, (List.range q.2.2).map (fun k => defaultValue (pm_ty q.2.1 k)))) q.2.2) s H' → W p l e R s m args below meth c H' locs (cells + 1) (slots + q.2.2) Q (F0 m (pc + 3) ls (.ref (pm_ad E base h.1) :: rest))) : W p l e R s m args below meth c H locs cells slots Q (F0 m pc ls rest) := by
  have hs := g.1
  have h16 := g.2.1
  have hsz : pm_ad E base h.1 = H.size := by rw [pm_ad_new h16]; omega
  rw [hsz] at k
  obtain ⟨q', hq', hlk⟩ := pm_N_spec hci
  cases hq.symm.trans hq'
  obtain ⟨hin, hty, hnm, hi1, hi2⟩ := pm_cl_at hq
  obtain ⟨C, T, N⟩ := q
  have hKn := hGS.1.1 ci _ hq
  refine W.newcK hx hb hown (hts _ (pm_G_in hlk)) (hts _ (pm_G_in hi1)) (hts _ (pm_G_in hi2)) rfl hdg hcells hslots hKn.2.1 rfl fun H1 kC hkC e1 z1 o1 => ?_
  refine k H1 (g.push (e := .inr (ci, (List.range N).map (fun k => defaultValue (pm_ty T k)))) ?_ z1 o1 (fun n f hh => by cases hh))
  refine ⟨_, hq, ?_⟩
  refine (u_born (pm_ty T) hts hin hKn hkC e1 hty).to (fun j hj => ?_)
  show defaultValue (pm_ty T j) = vp_V (((List.range N).map (fun k => defaultValue (pm_ty T k))).map (pm_tr E base)) j
  have hj' : j < N := hj
  unfold vp_V
  rw [List.getD_eq_getElem?_getD, List.getElem?_map, List.getElem?_map, List.getElem?_range hj']
  show defaultValue (pm_ty T j) = pm_tr E base (defaultValue (pm_ty T j))
  cases pm_ty T j <;> rfl
end PMH2
