section
/-! all short ROWS: what is written, what is made -/
variable {d mid pc pc' : Nat} {ls st : List Value} {h : pm_H} {Q : Option Value → pm_H → Prop} {q : pm_M} {l' : List (Nat × Instr × Nat)} {L : Nat} {ck : cl_K} {E : Nat → pm_E} {m : Nat → Int32} {o : Nat → Option Nat}
theorem sf_subP1 {x y z : Int32} {a b : Int} (e : z.toInt = x.toInt - y.toInt) (p : y < x) (B : sf_B a b z) : sf_B 1 b z := by
  have := Int32.lt_iff_toInt_lt.mp p
  exact ⟨by omega, B.2⟩
theorem cl_tab {l : List Int32} {lo hi a b : Int} {j : Int32} (h : sf_B lo hi j) (h0 : 0 ≤ lo) (hd : ((List.range (hi.toNat + 1)).all (fun k => decide ((k : Int) < lo) || (decide (a ≤ (l.getD k 0).toInt) && decide ((l.getD k 0).toInt ≤ b)))) = true) : sf_B a b (l.getD j.toNatClampNeg 0) := by
  have e : j.toNatClampNeg = j.toInt.toNat := rfl
  have h1 := h.1
  have h2 := h.2
  have := List.all_eq_true.mp hd j.toNatClampNeg (List.mem_range.mpr (by rw [e]; omega))
  simp only [Bool.or_eq_true, Bool.and_eq_true, decide_eq_true_eq] at this
  rcases this with x | x
  · exfalso; rw [e] at x; omega
  · exact ⟨x.1, x.2⟩
theorem cl_R_sput (G : cl_G ck E) (hM : pm_Mt mid q l') (T : cl_T ck E m o h) {ix b k lo : Nat} {nb : Bool} {qq : vw_C} {v x0 : Value} {fi av ah an fi' av' ah' an' : Int32} (hf : pm_find l' pc = some (.putfield ix, L)) (hF : pm_at pm_FL q.2.2.2.2 ix = some (3, k, nb)) (hq : pm_cl[3]? = some qq) (h3 : k < 9) (hv : pm_fits (pm_ty qq.2.1 k) v = true) (hfin : (qq.2.1 k).2.2.2 = false) (hk : ck b = 24) (hc : h.2.2 b = .inr (3, [.ref (b + 1), .ref (b + 2), .ref (b + 3), .ref (b + 4), x0, .int fi, .int av, .int ah, .int an])) (kl : ck lo = 1) (B1 : sf_B 0 4 fi') (B2 : sf_B (-1) 11109 an') (hs : List.set [.ref (b + 1), .ref (b + 2), .ref (b + 3), .ref (b + 4), x0, .int fi, .int av, .int ah, .int an] k v = [.ref (b + 1), .ref (b + 2), .ref (b + 3), .ref (b + 4), .ref lo, .int fi', .int av', .int ah', .int an']) (hp : pc + 3 = pc') (kk : ∀ h', cl_T ck E m o h' → cl_F ck [] 0 0 h h' → h'.2.2 b = .inr (3, [.ref (b + 1), .ref (b + 2), .ref (b + 3), .ref (b + 4), .ref lo, .int fi', .int av', .int ah', .int an']) → cl_NT ck h h' → pm_R d mid pc' ls st h' Q) : pm_R d mid pc ls (v :: .ref b :: st) h Q := by
  refine pm_R_put hM hf hF hq hc (G.ge hk (by decide)) (T.al hk (by decide)) h3 hv (Or.inl hfin) hs hp (kk _ (T.mut G hk (by decide) (T.D.keep G hk (by decide) (fun z => absurd z (by decide)) (fun z => absurd z (by decide)) (fun _ => ⟨some lo, fi', av', ah', an', B1, B2, rfl, fun z hz => by cases hz; exact kl⟩) (fun z => absurd z (by decide)) (fun z => absurd z (by decide)) (fun z => absurd z (by decide)) (fun z => absurd z (by decide)))) ((rf_G.one _ _ _).mut T.1 hk (by decide)) cl_set_eq (fun c hc9 z => ?_))
  by_cases e : c = b
  · subst e; exact ⟨lo, fi', av', ah', an', kl, B1, B2, cl_set_eq⟩
  · obtain ⟨lo2, fi2, av2, ah2, an2, z1, z2, z3, z4⟩ := z
    exact ⟨lo2, fi2, av2, ah2, an2, z1, z2, z3, (cl_set_ne e).trans z4⟩
theorem rf_G.NT {A : List Nat} {h' : pm_H} (G : cl_G ck E) (x : rf_G A h h') (hA : ∀ a ∈ A, a < 72) : ∀ c, ck c = 24 → h'.2.2 c = h.2.2 c := fun c hc => x.2.2 c (fun z => by have := hA c z; have := G.1 c (by rw [hc]; decide); omega)
theorem cl_NN.lift {ck' : cl_K} {h' : pm_H} {c : Nat} (hck : ∀ b, ck b ≠ 0 → ck' b = ck b) (hh : h'.2.2 c = h.2.2 c) (x : cl_NN ck h c) : cl_NN ck' h' c := by
  obtain ⟨lo, fi, av, ah, an, z1, z2, z3, z4⟩ := x
  exact ⟨lo, fi, av, ah, an, (hck lo (by rw [z1]; decide)).trans z1, z2, z3, hh.trans z4⟩
theorem cl_T.put37 (G : cl_G ck E) (T : cl_T ck E m o h) {f : Nat → Option Nat} (hx : cl_O ck 24 f) : cl_T ck E m o (pm_set h 37 (.inl (9, 2, .inr (.inr (.inr (.inr f)))))) := by
  refine ⟨T.1, by rw [cl_set_ne (by omega)]; exact T.e16, by rw [cl_set_ne (by omega)]; exact T.e17, by rw [cl_set_ne (by omega)]; exact T.e25, by rw [cl_set_ne (by omega)]; exact T.e30, by rw [cl_set_ne (by omega)]; exact T.e31, by rw [cl_set_ne (by omega)]; exact T.e33, T.B, fun b b1 b2 => ?_, ?_, T.2.2.2.2.2.2.2.2.2.2.1, fun b b1 b2 => ?_, cl_D.low G T.D (fun b hb => cl_set_ne (by omega)), T.oo, fun b hb => by rw [cl_set_ne (by omega)]; exact T.old hb⟩
  · by_cases hb : b = 37
    · subst hb; rw [cl_set_eq]; exact ⟨f, rfl, hx⟩
    · rw [cl_set_ne hb]; exact T.C b b1 b2
  · rw [cl_set_ne (by omega), cl_set_ne (by omega), cl_set_ne (by omega), cl_set_ne (by omega), cl_set_ne (by omega)]; exact T.N
  · have := G.1 b (by omega)
    rw [cl_set_ne (by omega)]
    exact T.2.2.2.2.2.2.2.2.2.2.2.1 b b1 b2
theorem cl_R_acmpE (hM : pm_Mt mid q l') {off : Int} {x : Option Nat} {a t : Nat} (hf : pm_find l' pc = some (.if_acmp .eq off, L)) (ht : pm_to pc off = some t) (hp : pc + 3 = pc') (ha : 16 ≤ a) (hx : ∀ b, x = some b → 16 ≤ b) (kt : x = some a → pm_R d mid t ls st h Q) (kf : ¬ x = some a → pm_R d mid pc' ls st h Q) : pm_R d mid pc ls (.ref a :: va_rf x :: st) h Q := by
  subst hp
  have e1 : pm_ref (.ref a) = some (some a) := by show (if 16 ≤ a then some (some a) else none) = _; rw [if_pos ha]
  have e2 : pm_ref (va_rf x) = some x := by
    cases x with
    | none => rfl
    | some b => show (if 16 ≤ b then some (some b) else none) = _; rw [if_pos (hx b rfl)]
  have e : pm_br (.if_acmp .eq off) pc (.ref a :: va_rf x :: st) = pm_if (x = some a) inferInstance pc off st := by
    show (pm_ref (.ref a)).bind (fun b => (pm_ref (va_rf x)).bind (fun a => pm_if (a = b) inferInstance pc off st)) = _
    rw [e1, e2]
    rfl
  have e3 : pm_if (x = some a) inferInstance pc off st = some (if x = some a then t else pc + 3, st) := by
    unfold pm_if
    rw [ht]
    rfl
  refine pm_R_br hM hf (e.trans e3) ?_
  by_cases hc : x = some a
  · rw [if_pos hc]; exact kt hc
  · rw [if_neg hc]; exact kf hc
/-- serve -/
theorem cl_c124 {b lo : Nat} (G : cl_G ck E) (T : cl_T ck E m o h) (hk : ck b = 24) (hkl : ck lo = 1) (K : ∀ h', cl_T ck E m o h' → cl_F ck [] 0 0 h h' → cl_NN ck h' b → cl_NT ck h h' → Q none h') : pm_R (d + 0) 124 0 [.ref b, .ref lo] [] h Q := by
  obtain ⟨l, fi, av, ah, an, B1, B2, e, kl⟩ := T.D.2.2.2.1 b hk
  refine pm_R_lo pm_M124 (pc' := 1) rfl rfl rfl ?_
  refine pm_R_get pm_M124 (pc' := 4) (v := va_rf l) rfl rfl e (G.ge hk (by decide)) (T.al hk (by decide)) rfl rfl ?_
  refine pm_R_lo pm_M124 (pc' := 5) rfl rfl rfl ?_
  have put : ∀ x0, h.2.2 b = .inr (3, [.ref (b + 1), .ref (b + 2), .ref (b + 3), .ref (b + 4), x0, .int fi, .int av, .int ah, .int an]) → pm_R (d + 0) 124 8 [.ref b, .ref lo] [] h Q := fun x0 e => by
    refine pm_R_lo pm_M124 (pc' := 9) rfl rfl rfl ?_
    refine pm_R_lo pm_M124 (pc' := 10) rfl rfl rfl ?_
    refine cl_R_sput (lo := lo) (fi' := fi) (av' := av) (ah' := ah) (an' := an) G pm_M124 T (pc' := 13) rfl rfl rfl (by decide) rfl rfl hk e hkl B1 B2 rfl rfl (fun h1 T1 F1 e1 N1 => ?_)
    refine pm_R_lo pm_M124 (pc' := 14) rfl rfl rfl ?_
    refine pm_R_op pm_M124 (pc' := 15) (st' := [.int 0, .ref b]) rfl rfl rfl ?_
    refine cl_R_sput (lo := lo) (fi' := 0) (av' := av) (ah' := ah) (an' := an) G pm_M124 T1 (pc' := 18) rfl rfl rfl (by decide) rfl rfl hk e1 hkl ⟨by decide, by decide⟩ B2 rfl rfl (fun h2 T2 F2 e2 N2 => ?_)
    refine pm_R_lo pm_M124 (pc' := 19) rfl rfl rfl ?_
    refine pm_R_op pm_M124 (pc' := 20) (st' := [.int (-1), .ref b]) rfl rfl rfl ?_
    refine cl_R_sput (lo := lo) (fi' := 0) (av' := -1) (ah' := ah) (an' := an) G pm_M124 T2 (pc' := 23) rfl rfl rfl (by decide) rfl rfl hk e2 hkl ⟨by decide, by decide⟩ B2 rfl rfl (fun h3 T3 F3 e3 N3 => ?_)
    refine pm_R_ret pm_M124 (r := none) rfl rfl (K _ T3 ((F1.trans F2 (by decide) (Nat.le_refl _) (Nat.le_refl _)).trans F3 (by decide) (Nat.le_refl _) (Nat.le_refl _)) ⟨lo, 0, -1, ah, an, hkl, ⟨by decide, by decide⟩, B2, e3⟩ ((N1.trans N2).trans N3))
  refine cl_R_acmpE pm_M124 (x := l) (t := 23) (pc' := 8) rfl rfl rfl (G.ge hkl (by decide)) (fun z hz => G.ge (kl z hz) (by decide)) (fun hl => ?_) (fun hl => put _ e)
  subst hl
  exact pm_R_ret pm_M124 (r := none) rfl rfl (K _ T (cl_F.refl T.1) ⟨lo, fi, av, ah, an, hkl, B1, B2, e⟩ (cl_NT.refl _ _))
end
