section PMV
variable {d mid pc pc' : Nat} {ls st : List Value} {h : pm_H} {Q : Option Value → pm_H → Prop} {q : pm_M} {l : List (Nat × Instr × Nat)} {L : Nat}
theorem pm_R_get (hM : pm_Mt mid q l) {ix a ci k : Nat} {nb : Bool} {fs : List Value} {v : Value} (hf : pm_find l pc = some (.getfield ix, L)) (hF : pm_at pm_FL q.2.2.2.2 ix = some (ci, k, nb)) (hc : h.2.2 a = .inr (ci, fs)) (h1 : 16 ≤ a) (h2 : a < h.1) (hv : fs[k]? = some v) (hp : pc + 3 = pc') (kk : pm_R d mid pc' ls (v :: st) h Q) : pm_R d mid pc ls (.ref a :: st) h Q := by
  refine pm_R_hp hM hf rfl (st' := v :: st) (h' := h) ?_ hp kk
  show (pm_gf _ ix h a).map (fun v => (v :: st, h)) = _
  have e : pm_gf q.2.2.2.2 ix h a = some v := by
    unfold pm_gf
    rw [hF]
    show (match h.2.2 a with | .inr (ci', fs) => if 16 ≤ a ∧ a < h.1 ∧ ci' = ci then fs[k]? else none | .inl _ => none) = _
    rw [hc]
    show (if 16 ≤ a ∧ a < h.1 ∧ ci = ci then fs[k]? else none) = _
    rw [if_pos ⟨h1, h2, rfl⟩, hv]
  rw [e]
  rfl
theorem pm_R_put (hM : pm_Mt mid q l) {ix a ci k : Nat} {nb : Bool} {fs fs' : List Value} {v : Value} {qq : vw_C} (hf : pm_find l pc = some (.putfield ix, L)) (hF : pm_at pm_FL q.2.2.2.2 ix = some (ci, k, nb)) (hq : pm_cl[ci]? = some qq) (hc : h.2.2 a = .inr (ci, fs)) (h1 : 16 ≤ a) (h2 : a < h.1) (hk : k < fs.length) (hv : pm_fits (pm_ty qq.2.1 k) v = true) (hfin : (qq.2.1 k).2.2.2 = false ∨ (decide (q.1.name = "<init>") = true ∧ nb = false ∧ (qq.2.1 k).1 = pm_ow q.2.2.2.2)) (hs : fs.set k v = fs') (hp : pc + 3 = pc') (kk : pm_R d mid pc' ls st (pm_set h a (.inr (ci, fs'))) Q) : pm_R d mid pc ls (v :: .ref a :: st) h Q := by
  refine pm_R_hp hM hf rfl (st' := st) (h' := pm_set h a (.inr (ci, fs'))) ?_ hp kk
  have e : pm_pf (decide (q.1.name = "<init>")) q.2.2.2.2 ix h a v = some (pm_set h a (.inr (ci, fs'))) := by
    unfold pm_pf
    rw [hF]
    show (pm_cl[ci]?).bind _ = _
    rw [hq]
    show (match h.2.2 a with | .inr (ci', fs) => if 16 ≤ a ∧ a < h.1 ∧ ci' = ci ∧ k < fs.length ∧ pm_fits (pm_ty qq.2.1 k) v = true ∧ ((qq.2.1 k).2.2.2 = false ∨ (decide (q.1.name = "<init>") = true ∧ nb = false ∧ (qq.2.1 k).1 = pm_ow q.2.2.2.2)) then some (pm_set h a (.inr (ci', fs.set k v))) else none | .inl _ => none) = _
    rw [hc]
    show (if _ then _ else _) = _
    rw [if_pos ⟨h1, h2, rfl, hk, hv, hfin⟩, hs]
  show (pm_pf _ _ ix h a v).map (fun h => (st, h)) = _
  rw [e]
  rfl
theorem pm_R_stat (hM : pm_Mt mid q l) {ix : Nat} {x : Nat × Bool} (hf : pm_find l pc = some (.getstatic ix, L)) (hF : pm_at pm_SL q.2.2.2.2 ix = some x) (hp : pc + 3 = pc') (kk : pm_R d mid pc' ls (.ref x.1 :: st) h Q) : pm_R d mid pc ls st h Q := by
  refine pm_R_hp hM hf rfl (st' := .ref x.1 :: st) (h' := h) ?_ hp kk
  show (pm_at pm_SL _ ix).map _ = _
  rw [hF]
  rfl
theorem pm_R_ldc (hM : pm_Mt mid q l) {ix : Nat} {x : Int32} (hf : pm_find l pc = some (.ldc ix, L)) (hF : pm_at pm_KL q.2.2.2.2 ix = some x) (hp : pc + 2 = pc') (kk : pm_R d mid pc' ls (.int x :: st) h Q) : pm_R d mid pc ls st h Q := by
  refine pm_R_hp hM hf rfl (st' := .int x :: st) (h' := h) ?_ hp kk
  show (pm_at pm_KL _ ix).map _ = _
  rw [hF]
  rfl
theorem pm_R_ldcw (hM : pm_Mt mid q l) {ix : Nat} {x : Int32} (hf : pm_find l pc = some (.ldc_w ix, L)) (hF : pm_at pm_KL q.2.2.2.2 ix = some x) (hp : pc + 3 = pc') (kk : pm_R d mid pc' ls (.int x :: st) h Q) : pm_R d mid pc ls st h Q := by
  refine pm_R_hp hM hf rfl (st' := .int x :: st) (h' := h) ?_ hp kk
  show (pm_at pm_KL _ ix).map _ = _
  rw [hF]
  rfl
theorem pm_R_ldc2 (hM : pm_Mt mid q l) {ix : Nat} {x : Int64} (hf : pm_find l pc = some (.ldc2_w ix, L)) (hF : pm_at pm_LL q.2.2.2.2 ix = some x) (hp : pc + 3 = pc') (kk : pm_R d mid pc' ls (.long x :: st) h Q) : pm_R d mid pc ls st h Q := by
  refine pm_R_hp hM hf rfl (st' := .long x :: st) (h' := h) ?_ hp kk
  show (pm_at pm_LL _ ix).map _ = _
  rw [hF]
  rfl
theorem pm_R_alen (hM : pm_Mt mid q l) {a n t : Nat} {x : (Nat → Int32) ⊕ (Nat → Int64) ⊕ (Nat → UInt32) ⊕ (Nat → UInt64) ⊕ (Nat → Option Nat)} {v : Int32} (hf : pm_find l pc = some (.arraylength, L)) (hc : h.2.2 a = .inl (t, n, x)) (h1 : 16 ≤ a) (h2 : a < h.1) (ht : t < 10) (hv : Int32.ofNat n = v) (hp : pc + 1 = pc') (kk : pm_R d mid pc' ls (.int v :: st) h Q) : pm_R d mid pc ls (.ref a :: st) h Q := by
  subst hv
  refine pm_R_hp hM hf rfl (st' := .int (Int32.ofNat n) :: st) (h' := h) ?_ hp kk
  unfold pm_hb
  dsimp only
  rw [hc]
  split
  · rename_i e
    injection e with e
    injection e with e1 e2
    injection e2 with e2 e3
    rw [if_pos h2, e2]
  · rename_i e
    injection e with e
    injection e with e1 e2
    subst e1
    subst e2
    rw [if_pos ⟨h1, h2, ht⟩]
  · rename_i e; cases e
theorem pm_R_alen0 (hM : pm_Mt mid q l) {a n : Nat} {f : Nat → Int32} {v : Int32} (hf : pm_find l pc = some (.arraylength, L)) (hc : h.2.2 a = .inl (0, n, .inl f)) (h2 : a < h.1) (hv : Int32.ofNat n = v) (hp : pc + 1 = pc') (kk : pm_R d mid pc' ls (.int v :: st) h Q) : pm_R d mid pc ls (.ref a :: st) h Q := by
  subst hv
  refine pm_R_hp hM hf rfl (st' := .int (Int32.ofNat n) :: st) (h' := h) ?_ hp kk
  unfold pm_hb
  dsimp only
  rw [hc]
  show (if _ then _ else _) = _
  rw [if_pos h2]
theorem pm_R_iald (hM : pm_Mt mid q l) {a n : Nat} {f : Nat → Int32} {j v : Int32} (hf : pm_find l pc = some (.iaload, L)) (hc : h.2.2 a = .inl (0, n, .inl f)) (h2 : a < h.1) (hj : pm_in j n = true) (hv : f j.toNatClampNeg = v) (hp : pc + 1 = pc') (kk : pm_R d mid pc' ls (.int v :: st) h Q) : pm_R d mid pc ls (.int j :: .ref a :: st) h Q := by
  subst hv
  refine pm_R_hp hM hf rfl (st' := .int (f j.toNatClampNeg) :: st) (h' := h) ?_ hp kk
  unfold pm_hb
  dsimp only
  rw [hc]
  show (if _ then _ else _) = _
  rw [if_pos ⟨h2, hj⟩]
theorem pm_R_bald (hM : pm_Mt mid q l) {a n t : Nat} {f : Nat → Int32} {j v : Int32} (hf : pm_find l pc = some (.baload, L)) (hc : h.2.2 a = .inl (t, n, .inl f)) (ht : t = 2 ∨ t = 3) (h1 : 16 ≤ a) (h2 : a < h.1) (hj : pm_in j n = true) (hv : f j.toNatClampNeg = v) (hp : pc + 1 = pc') (kk : pm_R d mid pc' ls (.int v :: st) h Q) : pm_R d mid pc ls (.int j :: .ref a :: st) h Q := by
  subst hv
  refine pm_R_hp hM hf rfl (st' := .int (f j.toNatClampNeg) :: st) (h' := h) ?_ hp kk
  unfold pm_hb
  dsimp only
  rw [hc]
  rcases ht with rfl | rfl
  · show (if _ then _ else _) = _
    rw [if_pos ⟨h1, h2, hj⟩]
  · show (if _ then _ else _) = _
    rw [if_pos ⟨h1, h2, hj⟩]
theorem pm_R_lald (hM : pm_Mt mid q l) {a n : Nat} {f : Nat → Int64} {j : Int32} {v : Int64} (hf : pm_find l pc = some (.laload, L)) (hc : h.2.2 a = .inl (1, n, .inr (.inl f))) (h1 : 16 ≤ a) (h2 : a < h.1) (hj : pm_in j n = true) (hv : f j.toNatClampNeg = v) (hp : pc + 1 = pc') (kk : pm_R d mid pc' ls (.long v :: st) h Q) : pm_R d mid pc ls (.int j :: .ref a :: st) h Q := by
  subst hv
  refine pm_R_hp hM hf rfl (st' := .long (f j.toNatClampNeg) :: st) (h' := h) ?_ hp kk
  unfold pm_hb
  dsimp only
  rw [hc]
  show (if _ then _ else _) = _
  rw [if_pos ⟨h1, h2, hj⟩]
theorem pm_R_aald (hM : pm_Mt mid q l) {a n t : Nat} {f : Nat → Option Nat} {j : Int32} {v : Value} (hf : pm_find l pc = some (.aaload, L)) (hc : h.2.2 a = .inl (t, n, .inr (.inr (.inr (.inr f))))) (ht1 : 4 ≤ t) (ht2 : t < 10) (h1 : 16 ≤ a) (h2 : a < h.1) (hj : pm_in j n = true) (hv : va_rf (f j.toNatClampNeg) = v) (hp : pc + 1 = pc') (kk : pm_R d mid pc' ls (v :: st) h Q) : pm_R d mid pc ls (.int j :: .ref a :: st) h Q := by
  subst hv
  refine pm_R_hp hM hf rfl (st' := va_rf (f j.toNatClampNeg) :: st) (h' := h) ?_ hp kk
  unfold pm_hb
  dsimp only
  rw [hc]
  show (if _ then _ else _) = _
  rw [if_pos ⟨ht1, ht2, h1, h2, hj⟩]
theorem pm_R_iast (hM : pm_Mt mid q l) {a n : Nat} {f : Nat → Int32} {j x : Int32} (hf : pm_find l pc = some (.iastore, L)) (hc : h.2.2 a = .inl (0, n, .inl f)) (h1 : 16 ≤ a) (h2 : a < h.1) (hj : pm_in j n = true) (hp : pc + 1 = pc') (kk : pm_R d mid pc' ls st (pm_set h a (.inl (0, n, .inl (upd f j.toNatClampNeg x)))) Q) : pm_R d mid pc ls (.int x :: .int j :: .ref a :: st) h Q := by
  refine pm_R_hp hM hf rfl (st' := st) (h' := _) ?_ hp kk
  unfold pm_hb
  dsimp only
  rw [hc]
  show (if _ then _ else _) = _
  rw [if_pos ⟨h1, h2, hj⟩]
theorem pm_R_bast (hM : pm_Mt mid q l) {a n : Nat} {f : Nat → Int32} {j x : Int32} (hf : pm_find l pc = some (.bastore, L)) (hc : h.2.2 a = .inl (2, n, .inl f)) (h1 : 16 ≤ a) (h2 : a < h.1) (hj : pm_in j n = true) (hp : pc + 1 = pc') (kk : pm_R d mid pc' ls st (pm_set h a (.inl (2, n, .inl (upd f j.toNatClampNeg x.toInt8.toInt32)))) Q) : pm_R d mid pc ls (.int x :: .int j :: .ref a :: st) h Q := by
  refine pm_R_hp hM hf rfl (st' := st) (h' := _) ?_ hp kk
  unfold pm_hb
  dsimp only
  rw [hc]
  show (if _ then _ else _) = _
  rw [if_pos ⟨h1, h2, hj⟩]
theorem pm_R_zast (hM : pm_Mt mid q l) {a n : Nat} {f : Nat → Int32} {j x : Int32} (hf : pm_find l pc = some (.bastore, L)) (hc : h.2.2 a = .inl (3, n, .inl f)) (h1 : 16 ≤ a) (h2 : a < h.1) (hj : pm_in j n = true) (hp : pc + 1 = pc') (kk : pm_R d mid pc' ls st (pm_set h a (.inl (3, n, .inl (upd f j.toNatClampNeg (x &&& 1))))) Q) : pm_R d mid pc ls (.int x :: .int j :: .ref a :: st) h Q := by
  refine pm_R_hp hM hf rfl (st' := st) (h' := _) ?_ hp kk
  unfold pm_hb
  dsimp only
  rw [hc]
  show (if _ then _ else _) = _
  rw [if_pos ⟨h1, h2, hj⟩]
theorem pm_R_last (hM : pm_Mt mid q l) {a n : Nat} {f : Nat → Int64} {j : Int32} {x : Int64} (hf : pm_find l pc = some (.lastore, L)) (hc : h.2.2 a = .inl (1, n, .inr (.inl f))) (h1 : 16 ≤ a) (h2 : a < h.1) (hj : pm_in j n = true) (hp : pc + 1 = pc') (kk : pm_R d mid pc' ls st (pm_set h a (.inl (1, n, .inr (.inl (vp_updL f j.toNatClampNeg x))))) Q) : pm_R d mid pc ls (.long x :: .int j :: .ref a :: st) h Q := by
  refine pm_R_hp hM hf rfl (st' := st) (h' := _) ?_ hp kk
  unfold pm_hb
  dsimp only
  rw [hc]
  show (if _ then _ else _) = _
  rw [if_pos ⟨h1, h2, hj⟩]
theorem pm_R_aast (hM : pm_Mt mid q l) {a b n t ci : Nat} {fs : List Value} {f : Nat → Option Nat} {j : Int32} (hf : pm_find l pc = some (.aastore, L)) (hc : h.2.2 a = .inl (t, n, .inr (.inr (.inr (.inr f))))) (hb : h.2.2 b = .inr (ci, fs)) (ho : pm_oty ci = some t) (h1 : 16 ≤ a) (h2 : a < h.1) (hb1 : 16 ≤ b) (hb2 : b < h.1) (hj : pm_in j n = true) (hp : pc + 1 = pc') (kk : pm_R d mid pc' ls st (pm_set h a (.inl (t, n, .inr (.inr (.inr (.inr (va_up f j.toNatClampNeg (some b)))))))) Q) : pm_R d mid pc ls (.ref b :: .int j :: .ref a :: st) h Q := by
  obtain ⟨t1, t2, -⟩ := pm_oty_spec ho
  refine pm_R_hp hM hf rfl (st' := st) (h' := _) ?_ hp kk
  unfold pm_hb
  dsimp only
  rw [hc]
  show (if _ then _ else _) = _
  rw [if_pos ⟨h1, h2, hj, t1, t2⟩, hb]
  dsimp only
  rw [if_pos ⟨hb1, hb2, ho⟩]
theorem pm_R_aastN (hM : pm_Mt mid q l) {a n t : Nat} {f : Nat → Option Nat} {j : Int32} (hf : pm_find l pc = some (.aastore, L)) (hc : h.2.2 a = .inl (t, n, .inr (.inr (.inr (.inr f))))) (t1 : 4 ≤ t) (t2 : t < 10) (h1 : 16 ≤ a) (h2 : a < h.1) (hj : pm_in j n = true) (hp : pc + 1 = pc') (kk : pm_R d mid pc' ls st (pm_set h a (.inl (t, n, .inr (.inr (.inr (.inr (va_up f j.toNatClampNeg none))))))) Q) : pm_R d mid pc ls (.null :: .int j :: .ref a :: st) h Q := by
  refine pm_R_hp hM hf rfl (st' := st) (h' := _) ?_ hp kk
  unfold pm_hb
  dsimp only
  rw [hc]
  show (if _ then _ else _) = _
  rw [if_pos ⟨h1, h2, hj, t1, t2⟩]
theorem pm_R_newa (hM : pm_Mt mid q l) {at_ : ArrayType} {k N : Nat} {n : Int32} (hf : pm_find l pc = some (.newarray at_, L)) (hk : pm_aty at_ = some k) (hn : ¬ n < 0) (hN : n.toNatClampNeg = N) (hb : N ≤ 67108864) (hp : pc + 2 = pc') (kk : pm_R d mid pc' ls (.ref h.1 :: st) (pm_push h (.inl (k, pm_newty k N)) N) Q) : pm_R d mid pc ls (.int n :: st) h Q := by
  subst hN
  refine pm_R_hp hM hf rfl (st' := .ref h.1 :: st) (h' := _) ?_ hp kk
  show (pm_aty at_).bind _ = _
  rw [hk]
  show (if _ then _ else _) = _
  rw [if_pos ⟨hn, hb⟩]
theorem pm_R_newq (hM : pm_Mt mid q l) {ix ci k N : Nat} {n : Int32} (hf : pm_find l pc = some (.anewarray ix, L)) (hF : pm_at pm_NL q.2.2.2.2 ix = some ci) (hk : pm_oty ci = some k) (hn : ¬ n < 0) (hN : n.toNatClampNeg = N) (hb : N ≤ 67108864) (hp : pc + 3 = pc') (kk : pm_R d mid pc' ls (.ref h.1 :: st) (pm_push h (.inl (k, pm_newty k N)) N) Q) : pm_R d mid pc ls (.int n :: st) h Q := by
  subst hN
  refine pm_R_hp hM hf rfl (st' := .ref h.1 :: st) (h' := _) ?_ hp kk
  show (pm_at pm_NL _ ix).bind _ = _
  rw [hF]
  show (pm_oty ci).bind _ = _
  rw [hk]
  show (if _ then _ else _) = _
  rw [if_pos ⟨hn, hb⟩]
theorem pm_R_new (hM : pm_Mt mid q l) {ix ci : Nat} {qq : vw_C} {fs : List Value} (hf : pm_find l pc = some (.new ix, L)) (hF : pm_at pm_NL q.2.2.2.2 ix = some ci) (hk : pm_cl[ci]? = some qq) (hs : (List.range qq.2.2).map (fun k => defaultValue (pm_ty qq.2.1 k)) = fs) (hp : pc + 3 = pc') (kk : pm_R d mid pc' ls (.ref h.1 :: st) (pm_push h (.inr (ci, fs)) qq.2.2) Q) : pm_R d mid pc ls st h Q := by
  subst hs
  refine pm_R_hp hM hf rfl (st' := .ref h.1 :: st) (h' := _) ?_ hp kk
  show (pm_at pm_NL _ ix).bind _ = _
  rw [hF]
  show (pm_cl[ci]?).map _ = _
  rw [hk]
  rfl
/-- Object() -/
theorem pm_R_obj (hM : pm_Mt mid q l) {ix a : Nat} (hf : pm_find l pc = some (.invokespecial ix, L)) (hn : pm_at pm_CL q.2.2.2.2 ix = none) (hX : pm_at pm_XL q.2.2.2.2 ix = some 0) (hs : (st.map fun v => v.category).sum ≤ 8) (hp : pc + 3 = pc') (kk : pm_R d mid pc' ls st h Q) : pm_R d mid pc ls (.ref a :: st) h Q := by
  refine pm_R_nat hM hf rfl hn (st' := st) (h' := h) ?_ hp kk
  show (pm_at pm_XL _ ix).bind _ = _
  rw [hX]
  show (if _ then _ else _) = _
  rw [if_pos ⟨rfl, hs⟩]
end PMV
