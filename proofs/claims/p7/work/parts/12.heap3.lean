section PMH3
variable {p : Program} {l : Launch} {e : Env} {R : Room} {s : State} {m : MethodId} {args : Array Value} {below : List Frame} {meth : Method} {c : Code} {H : Heap} {locs : List Loc} {cells slots : Nat} {Q : State → Prop}
variable {cc : ByteArray} {pc : Nat} {ls : Array Slot} {E : Nat → Nat} {base : Nat} {D : va_G} {aC : Nat → ClassId} {h : pm_H} {k0 : Nat} {rest : List Value}
set_option maxHeartbeats 1000000 in
/-- System.arraycopy of ints or bytes, between two cells of the pure heap -/
theorem pm_s_copy (hx : p.tables.exec = Jvm.exec) (hb : c.code = cc) (hml : c.maxLocals = ls.size) (hts : ∀ w ∈ pm_good, w.before args s = true) (hown : s.vm.findClass (pm_ow k0) = some m.cls) (hGS : pm_GS D aC s) (g : pm_GD D aC E base h s H) (hlo : ∀ q ∈ locs, base ≤ q.base) {ix a b n0 n1 t : Nat} {f g0 : Nat → Int32} {sp dp n : Int32} (hk : pm_at pm_XL k0 ix = some 1) (ht : t = 0 ∨ t = 2) (ha1 : 16 ≤ a) (ha2 : a < h.1) (hb1 : 16 ≤ b) (hb2 : b < h.1) (ha : h.2.2 a = .inl (t, n0, .inl f)) (hbc : h.2.2 b = .inl (t, n1, .inl g0)) (h1 : ¬ sp < 0) (h2 : ¬ dp < 0) (h3 : ¬ n < 0) (h4 : sp.toNatClampNeg + n.toNatClampNeg ≤ n0) (h5 : dp.toNatClampNeg + n.toNatClampNeg ≤ n1)
    (hframes : 1 ≤ R.frames) (hlocals : (rest.map fun v => v.category).sum + (nativeFrameWords "java/lang/System" "arraycopy" 5 + 11) ≤ R.locals) (hdg : decode cc pc = .ok (.invokestatic ix, 3))
    (k : ∀ (H' : Heap) (locs' : List Loc), pm_GD D aC E base (pm_set h b (.inl (t, n1, .inl (va_cpy f g0 sp.toNatClampNeg dp.toNatClampNeg n.toNatClampNeg)))) s H' → (∀ q ∈ locs', base ≤ q.base) → W p l e R s m args below meth c H' locs' cells slots Q (F0 m (pc + 3) ls rest)) : W p l e R s m args below meth c H locs cells slots Q (F0 m pc ls (.int n :: .int dp :: .ref (pm_ad E base b) :: .int sp :: .ref (pm_ad E base a) :: rest)) := by
  have hlk := hts _ (pm_G_in (pm_X_spec hk))
  have ht10 : t < 10 := by omega
  have hprim : refKind (pm_aT t) = false := by rcases ht with rfl | rfl <;> rfl
  have hfa : ∀ i, fits (pm_aT t) (.int (f i)) = true := by
    rcases ht with rfl | rfl
    · intro i; rfl
    · exact g.2.2.2.2.2 a n0 f ha
  have hfb : t = 2 → ∀ i, fits .byte (.int (g0 i)) = true := fun e => g.2.2.2.2.2 b n1 g0 (by rw [hbc, e])
  have hc0 : H[pm_ad E base a]? = some (vp_cell (aC t) (n0, .inl f)) := pm_cell g ha1 ha2 ha
  have hc1 : H[pm_ad E base b]? = some (vp_cell (aC t) (n1, .inl g0)) := pm_cell g hb1 hb2 hbc
  obtain ⟨-, kk0, hk0, cm0, hkk0⟩ := (hGS.1.2 t _ (pm_tys_at aC ht10)).1 n0 (fun j => .int (f j))
  obtain ⟨-, kk1, hk1, cm1, hkk1⟩ := (hGS.1.2 t _ (pm_tys_at aC ht10)).1 n1 (fun j => .int (g0 j))
  intro T hT X
  obtain ⟨vm', X', step⟩ := X.arraycopy hx hown hlk (hts _ (pm_G_in pm_cpy.1)) (hts _ (pm_G_in pm_cpy.2.1)) (hts _ (pm_G_in pm_cpy.2.2)) (src := pm_ad E base a) (dst := pm_ad E base b) (cs := vp_cell (aC t) (n0, .inl f)) (cd := vp_cell (aC t) (n1, .inl g0)) (srcPos := sp) (destPos := dp) (n := n) (by rw [hT]; exact hc0) (by rw [hT]; exact hc1)
    (fun _ h => by cases h) (fun _ h => by cases h) (fun h => by cases h) (fun h => by cases h) hk0 hk1 hkk0 hkk1 (by simp [hprim]) h1 h2 h3
    (by rw [pm_nn h1, pm_nn h3]; show ¬ _ > ((arrV _ n0 (fun j => .int (f j))).slots.size : Int); rw [arrV_size]; omega)
    (by rw [pm_nn h2, pm_nn h3]; show ¬ _ > ((arrV _ n1 (fun j => .int (g0 j))).slots.size : Int); rw [arrV_size]; omega)
    (fun vm₁ _ i hi => by
      have e : (vp_cell (aC t) (n0, .inl f)).slots.getD (sp.toNatClampNeg + i) .null = .int (f (sp.toNatClampNeg + i)) := by
        show (arrV _ n0 (fun j => .int (f j))).slots.getD _ _ = _
        rw [Array.getD_eq_getD_getElem?, arrV_read _ _ (by omega)]
        rfl
      refine ⟨?_, ?_⟩
      · rw [e]
        exact hfa _
      · rw [e]
        exact trivial)
    (g := F0 m pc ls (.int n :: .int dp :: .ref (pm_ad E base b) :: .int sp :: .ref (pm_ad E base a) :: rest)) rfl (by rw [hml]) (rest := rest) rfl (by rw [hb]; exact hdg) hframes (by show 2 * 0 + _ + _ ≤ _; omega)
  have e1 : copied (vp_cell (aC t) (n0, .inl f)) (vp_cell (aC t) (n1, .inl g0)) sp dp n = vp_cell (aC t) (n1, .inl (va_cpy f g0 sp.toNatClampNeg dp.toNatClampNeg n.toNatClampNeg)) := va_copied (fun z => .int z) (aC t) (aC t) f g0 h4
  rw [e1] at X' step
  have hl : pm_ad E base b < H.size := (Array.getElem?_eq_some_iff.mp hc1).1
  have hheap : ((T.setVm vm').setCell (pm_ad E base b) (vp_cell (aC t) (n1, .inl (va_cpy f g0 sp.toNatClampNeg dp.toNatClampNeg n.toNatClampNeg)))).heap = H.setIfInBounds (pm_ad E base b) (vp_cell (aC t) (n1, .inl (va_cpy f g0 sp.toNatClampNeg dp.toNatClampNeg n.toNatClampNeg))) := by rw [← hT]; rfl
  have oq : ∀ q : Nat, q ≠ pm_ad E base b → (H.setIfInBounds (pm_ad E base b) (vp_cell (aC t) (n1, .inl (va_cpy f g0 sp.toNatClampNeg dp.toNatClampNeg n.toNatClampNeg))))[q]? = H[q]? := fun q hq => by simp [Array.getElem?_setIfInBounds, Ne.symm hq]
  obtain ⟨t2, a1, b1⟩ := k _ _ (g.put (e := .inl (t, n1, .inl (va_cpy f g0 sp.toNatClampNeg dp.toNatClampNeg n.toNatClampNeg))) hb1 hb2 (show (H.setIfInBounds (pm_ad E base b) _)[pm_ad E base b]? = some _ by simp [Array.getElem?_setIfInBounds, hl]; rfl) (by simp) oq (fun n' f' hh i => by
      injection hh with hh
      injection hh with hh1 hh2
      injection hh2 with hh2 hh3
      injection hh3 with hh3
      rw [← hh3]
      unfold va_cpy
      split
      · have := hfa (sp.toNatClampNeg + (i - dp.toNatClampNeg)); rw [hh1] at this; exact this
      · exact hfb hh1 i)) (fun q hq => by
      rcases List.mem_append.mp hq with h | h
      · exact hlo q h
      · obtain ⟨z, -, hz⟩ := List.mem_map.mp h
        rw [← hz]
        show base ≤ pm_ad E base b
        rw [pm_ad_new hb1]; omega) _ hheap X'
  exact ⟨t2, step t2 a1, b1⟩
set_option maxHeartbeats 1000000 in
theorem pm_s_clone (hx : p.tables.exec = Jvm.exec) (hb : c.code = cc) (hml : c.maxLocals = ls.size) (hts : ∀ w ∈ pm_good, w.before args s = true) (hown : s.vm.findClass (pm_ow k0) = some m.cls) (hGS : pm_GS D aC s) (g : pm_GD D aC E base h s H) {ix a n : Nat} {f : Nat → Int32} (hk : pm_at pm_XL k0 ix = some 2) (ha1 : 16 ≤ a) (ha2 : a < h.1) (ha : h.2.2 a = .inl (0, n, .inl f))
    (hframes : 1 ≤ R.frames) (hlocals : (rest.map fun v => v.category).sum + 14 ≤ R.locals) (hcells : cells + 1 ≤ R.cells) (hslots : slots + n ≤ R.slots) (hdg : decode cc pc = .ok (.invokevirtual ix, 3))
    (k : ∀ (H' : Heap), pm_GD D aC E base (pm_push h (.inl (0, n, .inl f)) n) s H' → W p l e R s m args below meth c H' locs (cells + 1) (slots + n) Q (F0 m (pc + 3) ls (.ref (pm_ad E base h.1) :: rest))) : W p l e R s m args below meth c H locs cells slots Q (F0 m pc ls (.ref (pm_ad E base a) :: rest)) := by
  have hs := g.1
  have h16 := g.2.1
  have hsz : pm_ad E base h.1 = H.size := by rw [pm_ad_new h16]; omega
  rw [hsz] at k
  have hlk := hts _ (pm_G_in (pm_X_spec hk))
  obtain ⟨w1, w2, w3, w4, w5⟩ := pm_cln
  have hat : H[pm_ad E base a]? = some (vp_cell (aC 0) (n, .inl f)) := pm_cell g ha1 ha2 ha
  have htys := hGS.1.2 0 _ (pm_tys_at aC (t := 0) (by decide))
  have hnm : s.vm.findClass "[I" = some (aC 0) := htys.2
  have hcl : va_Nw (.castable "[I" "java/lang/Cloneable") s := hGS.2.1 _ w5 rfl
  obtain ⟨c0, t0', f1, f2, f3⟩ := Cond.castable_spec (va_Nw.use (A := args) rfl hcl)
  cases hnm.symm.trans f1
  intro T hT X
  have hcellT : T.heap[pm_ad E base a]? = some (vp_cell (aC 0) (n, .inl f)) := by rw [hT]; exact hat
  obtain ⟨-, kA, hkA, comp, hkind⟩ := State.isArrayOf_alike X.warmed.alike (htys.1 0 (fun _ => .null))
  obtain ⟨-, kS, hkS, compS, hkindS⟩ := htys.1 0 (fun _ => .null)
  have hss : (vp_cell (aC 0) (n, .inl f)).slots.size = n := arrV_size _ _ _
  obtain ⟨vm', X', st⟩ := X.cloneArray hx hown hlk (hts _ (pm_G_in w1)) (hts _ (pm_G_in w2)) (hts _ (pm_G_in w3)) (hts _ (pm_G_in w4)) (a := pm_ad E base a) (cell := vp_cell (aC 0) (n, .inl f)) hcellT (fun k h => by cases h) (fun h => by cases h) hnm f2 f3
    (fun i v hv => by
      have hk' : T.vm.classes[aC 0]? = some kA := hkA
      have hv' : (arrV (aC 0) n (fun j => .int (f j))).slots[i]? = some v := hv
      have hf := va_fit (ty := .int) (fun _ _ => rfl) i v hv'
      have hkind' : kA.kind = .array comp .int := hkind
      show T.fitsSlot (aC 0) .none i v = true
      simpa [State.fitsSlot, State.slotType?, hk', hkind'] using hf)
    (g := F0 m pc ls (.ref (pm_ad E base a) :: rest)) rfl (by rw [hml]) rfl (by rw [hb]; exact hdg) hframes (by show 2 * 0 + _ + 14 ≤ _; omega) hcells (by rw [hss]; exact hslots) (hloader := Vm.clonesLoader_of_array hkS hkindS)
  have hcellE : ({ cls := (vp_cell (aC 0) (n, .inl f)).cls, slots := (vp_cell (aC 0) (n, .inl f)).slots } : Cell) = vp_cell (aC 0) (n, .inl f) := rfl
  rw [hcellE, hss] at X'
  obtain ⟨t, b1, b2⟩ := k (H.push (vp_cell (aC 0) (n, .inl f))) (g.push (e := .inl (0, n, .inl f)) (show (H.push _)[H.size]? = some _ by rw [Array.getElem?_push_size]; rfl) (by rw [Array.size_push]) (fun q hq => by rw [Array.getElem?_push, if_neg (Nat.ne_of_lt hq)]) (pm_hb0 (by decide)))
    ((T.setVm vm').pushCell (vp_cell (aC 0) (n, .inl f))) (by rw [← hT]; rfl) X'
  refine ⟨t, st t ?_, b2⟩
  rw [hcellE, hT]
  exact b1
end PMH3
