section
/-! words: String constants at 7 to 10, their bytes at 11 to 14 -/
variable {d mid pc pc' : Nat} {ls st : List Value} {h : pm_H} {Q : Option Value → pm_H → Prop} {q : pm_M} {l : List (Nat × Instr × Nat)} {L : Nat}
theorem cl_R_cvS (hM : pm_Mt mid q l) {ix callee np kd a t n : Nat} {x : (Nat → Int32) ⊕ (Nat → Int64) ⊕ (Nat → UInt32) ⊕ (Nat → UInt64) ⊕ (Nat → Option Nat)} {ra rest ls' : List Value} {qc : pm_M} {lc : List (Nat × Instr × Nat)} (hf : pm_find l pc = some (.invokevirtual ix, L)) (hC : pm_at pm_CL q.2.2.2.2 ix = some (callee, np, kd)) (hk : kd = 0 ∨ kd = 3) (hMc : pm_Mt callee qc lc) (hrc : h.2.2 a = .inl (t, n, x)) (hcl : qc.1.cls = "java/lang/String") (h1 : 7 ≤ a) (h2 : a < 11) (hst : st = (ra ++ [.ref a]) ++ rest) (hn : ra.length = np) (hs : (rest.map fun v => v.category).sum ≤ 8) (he : pm_ent qc.2.2.1 (.ref a :: ra.reverse) = some ls') (hp : pc + 3 = pc') (kk : pm_R d callee 0 ls' [] h (fun r h' => pm_R (d + 1) mid pc' ls (r.toList ++ rest) h' Q)) : pm_R (d + 1) mid pc ls st h Q := by
  subst hst
  have hi : pm_ix (.invokevirtual ix) kd = some ix := by rcases hk with rfl | rfl <;> rfl
  have hrev : (ra ++ [Value.ref a]).reverse = .ref a :: ra.reverse := by rw [List.reverse_append]; rfl
  have hr : pm_rcv kd qc h (ra ++ [Value.ref a]).reverse = true := by
    rw [hrev]
    have e : pm_rc qc h a = true := by
      unfold pm_rc
      rw [hrc]
      show (decide (7 ≤ a ∧ a < 11) && decide (qc.1.cls = "java/lang/String")) = true
      rw [decide_eq_true ⟨h1, h2⟩, decide_eq_true hcl]
      rfl
    rcases hk with rfl | rfl <;> exact e
  have hc := pm_call_mk (ra := ra ++ [.ref a]) (rest := rest) hi hC hMc.1 (by rw [List.length_append, if_neg (by omega), hn]; rfl) hs hr
  rw [hrev] at hc
  exact pm_R_call hM hf (pm_noret_call hi) hc hMc he hp kk
theorem cl_R_sal (hM : pm_Mt mid q l) {a n : Nat} {f : Nat → Int32} {v : Int32} (hf : pm_find l pc = some (.arraylength, L)) (hc : h.2.2 a = .inl (2, n, .inl f)) (ha : a < 16) (hv : Int32.ofNat n = v) (hp : pc + 1 = pc') (kk : pm_R d mid pc' ls (.int v :: st) h Q) : pm_R d mid pc ls (.ref a :: st) h Q := by
  subst hv
  refine pm_R_str hM hf (st' := .int (Int32.ofNat n) :: st) ?_ ?_ hp kk
  · unfold pm_hb
    dsimp only
    rw [hc]
    show (if 16 ≤ a ∧ a < h.1 ∧ 2 < 10 then _ else _) = _
    rw [if_neg (by omega)]
  · unfold pm_str
    dsimp only
    rw [hc]
    show (if a < 16 then _ else _) = _
    rw [if_pos ha]
theorem cl_R_sbl (hM : pm_Mt mid q l) {a n : Nat} {f : Nat → Int32} {j v : Int32} (hf : pm_find l pc = some (.baload, L)) (hc : h.2.2 a = .inl (2, n, .inl f)) (ha : a < 16) (hj : pm_in j n = true) (hv : f j.toNatClampNeg = v) (hp : pc + 1 = pc') (kk : pm_R d mid pc' ls (.int v :: st) h Q) : pm_R d mid pc ls (.int j :: .ref a :: st) h Q := by
  subst hv
  refine pm_R_str hM hf (st' := .int (f j.toNatClampNeg) :: st) ?_ ?_ hp kk
  · unfold pm_hb
    dsimp only
    rw [hc]
    show (if 16 ≤ a ∧ a < h.1 ∧ pm_in j n = true then _ else _) = _
    rw [if_neg (by omega)]
  · unfold pm_str
    dsimp only
    rw [hc]
    show (if a < 16 ∧ pm_in j n = true then _ else _) = _
    rw [if_pos ⟨ha, hj⟩]
theorem cl_R_sgf (hM : pm_Mt mid q l) {a ix : Nat} {v : Value} (hf : pm_find l pc = some (.getfield ix, L)) (hF : pm_at pm_FL q.2.2.2.2 ix = none) (ho : pm_str q.2.2.2.2 (.getfield ix) (.ref a :: st) h = some (v :: st)) (hp : pc + 3 = pc') (kk : pm_R d mid pc' ls (v :: st) h Q) : pm_R d mid pc ls (.ref a :: st) h Q := by
  refine pm_R_str hM hf ?_ ho hp kk
  show ((pm_at pm_FL q.2.2.2.2 ix).bind _).map _ = none
  rw [hF]; rfl
theorem cl_R_sgs (hM : pm_Mt mid q l) {ix : Nat} {v : Value} (hf : pm_find l pc = some (.getstatic ix, L)) (hF : pm_at pm_SL q.2.2.2.2 ix = none) (ho : pm_str q.2.2.2.2 (.getstatic ix) st h = some (v :: st)) (hp : pc + 3 = pc') (kk : pm_R d mid pc' ls (v :: st) h Q) : pm_R d mid pc ls st h Q := by
  refine pm_R_str hM hf ?_ ho hp kk
  show (pm_at pm_SL q.2.2.2.2 ix).map _ = none
  rw [hF]; rfl
theorem cl_R_sldc (hM : pm_Mt mid q l) {ix : Nat} {v : Value} (hf : pm_find l pc = some (.ldc ix, L)) (hF : pm_at pm_KL q.2.2.2.2 ix = none) (ho : pm_str q.2.2.2.2 (.ldc ix) st h = some (v :: st)) (hp : pc + 2 = pc') (kk : pm_R d mid pc' ls (v :: st) h Q) : pm_R d mid pc ls st h Q := by
  refine pm_R_str hM hf ?_ ho hp kk
  show (pm_at pm_KL q.2.2.2.2 ix).map _ = none
  rw [hF]; rfl
theorem cl_st9 {c s : Nat} (hc : c = 8) (h1 : 7 ≤ s) (h2 : s < 11) : pm_str c (.getfield 9) (.ref s :: st) h = some (.ref (s + 4) :: st) := by
  subst hc
  show (if 8 = 8 ∧ 7 ≤ s ∧ s < 11 ∧ 9 = 9 then some (Value.ref (s + 4) :: st) else if 8 = 8 ∧ 7 ≤ s ∧ s < 11 ∧ 9 = 15 then some (Value.int 0 :: st) else none) = _
  rw [if_pos ⟨rfl, h1, h2, rfl⟩]
theorem cl_st15 {c s : Nat} (hc : c = 8) (h1 : 7 ≤ s) (h2 : s < 11) : pm_str c (.getfield 15) (.ref s :: st) h = some (.int 0 :: st) := by
  subst hc
  show (if 8 = 8 ∧ 7 ≤ s ∧ s < 11 ∧ 15 = 9 then some (Value.ref (s + 4) :: st) else if 8 = 8 ∧ 7 ≤ s ∧ s < 11 ∧ 15 = 15 then some (Value.int 0 :: st) else none) = _
  rw [if_neg (fun z => absurd z.2.2.2 (by decide)), if_pos ⟨rfl, h1, h2, rfl⟩]
/-- coder -/
theorem cl_e26 {s : Nat} (h1 : 7 ≤ s) (h2 : s < 11) (K : Q (some (.int 0)) h) : pm_R (d + 0) 26 0 [.ref s] [] h Q := by
  refine cl_R_sgs pm_M26 (pc' := 3) (v := .int 1) rfl rfl rfl rfl ?_
  refine pm_R_br pm_M26 (pc' := 6) rfl rfl ?_
  refine pm_R_lo pm_M26 (pc' := 7) rfl rfl rfl ?_
  refine cl_R_sgf pm_M26 (pc' := 10) (v := .int 0) rfl rfl ?_ rfl ?_
  · exact cl_st15 rfl h1 h2
  refine pm_R_br pm_M26 (pc' := 14) rfl rfl ?_
  exact pm_R_ret pm_M26 (r := some (.int 0)) rfl rfl K
/-- isLatin1 -/
theorem cl_e28 {s : Nat} (h1 : 7 ≤ s) (h2 : s < 11) (K : Q (some (.int 1)) h) : pm_R (d + 0) 28 0 [.ref s] [] h Q := by
  refine cl_R_sgs pm_M28 (pc' := 3) (v := .int 1) rfl rfl rfl rfl ?_
  refine pm_R_br pm_M28 (pc' := 6) rfl rfl ?_
  refine pm_R_lo pm_M28 (pc' := 7) rfl rfl rfl ?_
  refine cl_R_sgf pm_M28 (pc' := 10) (v := .int 0) rfl rfl ?_ rfl ?_
  · exact cl_st15 rfl h1 h2
  refine pm_R_br pm_M28 (pc' := 13) rfl rfl ?_
  refine pm_R_op pm_M28 (pc' := 14) (st' := [.int 1]) rfl rfl rfl ?_
  refine pm_R_br pm_M28 (pc' := 18) rfl rfl ?_
  exact pm_R_ret pm_M28 (r := some (.int 1)) rfl rfl K
/-- length -/
theorem cl_e25 {s n t k : Nat} {f : Nat → Int32} {x : (Nat → Int32) ⊕ (Nat → Int64) ⊕ (Nat → UInt32) ⊕ (Nat → UInt64) ⊕ (Nat → Option Nat)} {v : Int32} (h1 : 7 ≤ s) (h2 : s < 11) (h7 : h.2.2 s = .inl (t, k, x)) (hc : h.2.2 (s + 4) = .inl (2, n, .inl f)) (hv : Int32.ofNat n = v) (hz : v >>> (0 &&& 31) = v) (K : Q (some (.int v)) h) : pm_R (d + 1) 25 0 [.ref s] [] h Q := by
  refine pm_R_lo pm_M25 (pc' := 1) rfl rfl rfl ?_
  refine cl_R_sgf pm_M25 (pc' := 4) (v := .ref (s + 4)) rfl rfl ?_ rfl ?_
  · exact cl_st9 rfl h1 h2
  refine cl_R_sal pm_M25 (pc' := 5) (v := v) rfl hc (by omega) hv rfl ?_
  refine pm_R_lo pm_M25 (pc' := 6) rfl rfl rfl ?_
  refine cl_R_cvS pm_M25 (pc' := 9) (a := s) (ra := []) (rest := [.int v]) (ls' := [.ref s]) rfl rfl (Or.inl rfl) pm_M26 h7 rfl h1 h2 rfl rfl (Nat.le_of_ble_eq_true rfl) rfl rfl ?_
  refine cl_e26 h1 h2 ?_
  show pm_R _ 25 9 [.ref s] [.int 0, .int v] _ _
  refine pm_R_op pm_M25 (pc' := 10) (st' := [.int v]) rfl (congrArg (fun z => some [Value.int z]) hz) rfl ?_
  exact pm_R_ret pm_M25 (r := some (.int v)) rfl (pm_ret_i _) K
/-- charAt -/
theorem cl_e27 {s n t k : Nat} {f : Nat → Int32} {x : (Nat → Int32) ⊕ (Nat → Int64) ⊕ (Nat → UInt32) ⊕ (Nat → UInt64) ⊕ (Nat → Option Nat)} {v j : Int32} (h1 : 7 ≤ s) (h2 : s < 11) (h7 : h.2.2 s = .inl (t, k, x)) (hc : h.2.2 (s + 4) = .inl (2, n, .inl f)) (hv : Int32.ofNat n = v) (hj : pm_in j n = true) (j0 : 0 ≤ j.toInt) (jn : j.toInt < v.toInt) (hb : ((f j.toNatClampNeg &&& 255).toUInt32 % 65536).toInt32 = f j.toNatClampNeg) (hw : narrow .char (.int (f j.toNatClampNeg)) = .int (f j.toNatClampNeg)) (K : Q (some (.int (f j.toNatClampNeg))) h) : pm_R (d + 4) 27 0 [.ref s, .int j] [] h Q := by
  have rc : ∀ (q : pm_M), q.2.2.2.1 = some .char → pm_ret q.2.2.2.1 .ireturn [.int (f j.toNatClampNeg)] = some (some (.int (f j.toNatClampNeg))) := fun q hq => by
    rw [hq]
    show (if _ then _ else _) = _
    rw [if_pos ⟨Or.inr (Or.inr (Or.inr rfl)), hw⟩]
  refine pm_R_lo pm_M27 (pc' := 1) rfl rfl rfl ?_
  refine cl_R_cvS pm_M27 (pc' := 4) (a := s) (ra := []) (rest := []) (ls' := [.ref s]) rfl rfl (Or.inl rfl) pm_M28 h7 rfl h1 h2 rfl rfl (Nat.le_of_ble_eq_true rfl) rfl rfl ?_
  refine cl_e28 (d := d + 3) h1 h2 ?_
  show pm_R _ 27 4 [.ref s, .int j] [.int 1] _ _
  refine pm_R_br pm_M27 (pc' := 7) rfl rfl ?_
  refine pm_R_lo pm_M27 (pc' := 8) rfl rfl rfl ?_
  refine cl_R_sgf pm_M27 (pc' := 11) (v := .ref (s + 4)) rfl rfl ?_ rfl ?_
  · exact cl_st9 rfl h1 h2
  refine pm_R_lo pm_M27 (pc' := 12) rfl rfl rfl ?_
  refine pm_R_cs pm_M27 (pc' := 15) (ra := [.int j, .ref (s + 4)]) (rest := []) (ls' := [.ref (s + 4), .int j]) rfl rfl (Or.inl rfl) pm_M29 rfl rfl (Nat.le_of_ble_eq_true rfl) rfl rfl ?_
  refine pm_R_lo pm_M29 (pc' := 1) rfl rfl rfl ?_
  refine pm_R_lo pm_M29 (pc' := 2) rfl rfl rfl ?_
  refine cl_R_sal pm_M29 (pc' := 3) (v := v) rfl hc (by omega) hv rfl ?_
  refine pm_R_cs pm_M29 (pc' := 6) (ra := [.int v, .int j]) (rest := []) (ls' := [.int j, .int v]) rfl rfl (Or.inl rfl) pm_M30 rfl rfl (Nat.le_of_ble_eq_true rfl) rfl rfl ?_
  refine pm_R_lo pm_M30 (pc' := 1) rfl rfl rfl ?_
  refine pm_R_lo pm_M30 (pc' := 2) rfl rfl rfl ?_
  refine cl_R_sgs pm_M30 (pc' := 5) (v := pm_fmt h) rfl rfl rfl rfl ?_
  refine pm_R_cs pm_M30 (pc' := 8) (ra := [pm_fmt h, .int v, .int j]) (rest := []) (ls' := [.int j, .int v, pm_fmt h]) rfl rfl (Or.inl rfl) pm_M31 rfl rfl (Nat.le_of_ble_eq_true rfl) ?_ rfl ?_
  · unfold pm_fmt; split <;> rfl
  refine pm_R_lo pm_M31 (pc' := 1) rfl rfl rfl ?_
  refine pm_R_ifc pm_M31 (t := 9) (pc' := 4) rfl rfl rfl (fun c => absurd (Int32.lt_iff_toInt_lt.mp c) (by show ¬ j.toInt < 0; omega)) (fun _ => ?_)
  refine pm_R_lo pm_M31 (pc' := 5) rfl rfl rfl ?_
  refine pm_R_lo pm_M31 (pc' := 6) rfl rfl rfl ?_
  refine pm_R_icmp pm_M31 (t := 16) (pc' := 9) rfl rfl rfl (fun _ => ?_) (fun c => absurd (Int32.lt_iff_toInt_lt.mpr jn) c)
  refine pm_R_lo pm_M31 (pc' := 17) rfl rfl rfl ?_
  refine pm_R_ret pm_M31 (r := some (.int j)) rfl (pm_ret_i _) ?_
  show pm_R _ 30 8 [.int j, .int v] [.int j] _ _
  refine pm_R_op pm_M30 (pc' := 9) (st' := []) rfl rfl rfl ?_
  refine pm_R_ret pm_M30 (r := none) rfl rfl ?_
  show pm_R _ 29 6 [.ref (s + 4), .int j] [] _ _
  refine pm_R_lo pm_M29 (pc' := 7) rfl rfl rfl ?_
  refine pm_R_lo pm_M29 (pc' := 8) rfl rfl rfl ?_
  refine cl_R_sbl pm_M29 (pc' := 9) (v := f j.toNatClampNeg) rfl hc (by omega) hj rfl rfl ?_
  refine pm_R_op pm_M29 (pc' := 12) (st' := [.int 255, .int (f j.toNatClampNeg)]) rfl rfl rfl ?_
  refine pm_R_op pm_M29 (pc' := 13) (st' := [.int (f j.toNatClampNeg &&& 255)]) rfl rfl rfl ?_
  refine pm_R_op pm_M29 (pc' := 14) (st' := [.int (f j.toNatClampNeg)]) rfl (congrArg (fun z => some [Value.int z]) hb) rfl ?_
  refine pm_R_ret pm_M29 (r := some (.int (f j.toNatClampNeg))) rfl (rc _ rfl) ?_
  show pm_R _ 27 15 [.ref s, .int j] [.int (f j.toNatClampNeg)] _ _
  exact pm_R_ret pm_M27 (r := some (.int (f j.toNatClampNeg))) rfl (rc _ rfl) K
end
