section
/-! room: charts are made once -/
def cl_p37 (f : Nat → Option Nat) : Nat := (if f 0 = none then 24466 else 0) + (if f 1 = none then 24466 else 0)
def cl_p0 (x : Option Nat) : Nat := if x = none then 23403 else 0
theorem cl_p37_up {f : Nat → Option Nat} {a0 : Int32} {c : Nat} (hj : pm_in a0 2 = true) (hs : f a0.toNatClampNeg = none) : cl_p37 (va_up f a0.toNatClampNeg (some c)) + 24466 = cl_p37 f := by
  unfold pm_in at hj
  rw [Bool.and_eq_true] at hj
  have hlt := of_decide_eq_true hj.2
  generalize a0.toNatClampNeg = k at hs hlt
  unfold cl_p37
  rcases (show k = 0 ∨ k = 1 by omega) with z | z
  · subst z
    have e1 : va_up f 0 (some c) 1 = f 1 := cl_upO (by decide)
    have e0 : va_up f 0 (some c) 0 = some c := cl_upS
    simp [e0, e1, hs]
    try omega
  · subst z
    have e1 : va_up f 1 (some c) 1 = some c := cl_upS
    have e0 : va_up f 1 (some c) 0 = f 0 := cl_upO (by decide)
    simp [e0, e1, hs]
theorem cl_p0x {o o9 oc : Nat → Option Nat} {a b c d : Nat} (q6 : ∀ x, oc 0 = some x → o9 0 = some x ∧ c = d ∧ a ≤ b) (q7 : ∃ x, o9 0 = some x) (q8 : a ≤ b + 23403) (e0 : oc 0 = o 0) {s : Nat} (hs : b ≤ s) : cl_p0 (o9 0) + a ≤ cl_p0 (o 0) + s := by
  obtain ⟨x, hx⟩ := q7
  unfold cl_p0
  rw [hx, if_neg (by simp)]
  rw [← e0]
  cases e : oc 0 with
  | none => rw [if_pos rfl]; omega
  | some y => have := (q6 y e).2.2; rw [if_neg (by simp)]; omega
theorem cl_o0 {o o' : Nat → Option Nat} {x : pm_E} (h1 : x = .inr (11, cl_f16 o)) (h2 : x = .inr (11, cl_f16 o')) : o' 0 = o 0 := by
  rw [h1] at h2
  have h3 : cl_f16 o = cl_f16 o' := by injection h2 with h; injection h
  unfold cl_f16 at h3
  have h4 : va_rf (o 0) = va_rf (o' 0) := by
    injection h3 with _ h; injection h with _ h; injection h with _ h; injection h with _ h; injection h with _ h; injection h
  cases ha : o 0 with
  | none =>
    cases hb : o' 0 with
    | none => rfl
    | some y => rw [ha, hb] at h4; exact absurd h4 (by simp [va_rf])
  | some x =>
    cases hb : o' 0 with
    | none => rw [ha, hb] at h4; exact absurd h4 (by simp [va_rf])
    | some y =>
      rw [ha, hb] at h4
      have h5 : x = y := by simpa [va_rf] using h4
      rw [h5]
/-- shortRows: the chart is there, or made -/
theorem cl_c122x {d : Nat} {ck : cl_K} {E : Nat → pm_E} {m : Nat → Int32} {o : Nat → Option Nat} {h : pm_H} {Q : Option Value → pm_H → Prop} {a0 : Int32} {lo : Nat} {fl : Nat → Option Nat} (G : cl_G ck E) (T : cl_T ck E m o h) (hj : pm_in a0 2 = true) (el : h.2.2 19 = .inl (4, 2, .inr (.inr (.inr (.inr fl))))) (hl : fl a0.toNatClampNeg = some lo) (hkl : ck lo = 1) {fs : Nat → Option Nat} (es : h.2.2 37 = .inl (9, 2, .inr (.inr (.inr (.inr fs))))) (K : ∀ (c : Nat) (ck' : cl_K) (h' : pm_H), (∀ b, b < h.1 → ck' b = ck b) → cl_G ck' E → cl_T ck' E m o h' → cl_F ck [37] 5 24466 h h' → ck' c = 24 → cl_NN ck' h' c → (∀ c, ck c = 24 → cl_NN ck h c → cl_NN ck' h' c) → (∀ a, a < 72 → a ≠ 37 → h'.2.2 a = h.2.2 a) → (∃ fs', h'.2.2 37 = .inl (9, 2, .inr (.inr (.inr (.inr fs')))) ∧ cl_p37 fs' + h'.2.1 ≤ cl_p37 fs + h.2.1) → Q (some (.ref c)) h') : pm_R (d + 1) 122 0 [.ref 16, .int a0] [] h Q := by
  obtain ⟨fs0, es0, hO⟩ := T.C 37 (by decide) (by decide)
  rw [es] at es0
  cases es0
  refine pm_R_lo pm_M122 (pc' := 1) rfl rfl rfl ?_
  refine pm_R_get pm_M122 (pc' := 4) (v := .ref 37) rfl rfl T.e16 (by decide) (T.lt (by decide)) rfl rfl ?_
  refine pm_R_lo pm_M122 (pc' := 5) rfl rfl rfl ?_
  rcases hs : fs a0.toNatClampNeg with _ | c
  · refine pm_R_aald pm_M122 (pc' := 6) (v := .null) rfl es (by decide) (by decide) (by decide) (T.lt (by decide)) hj (by rw [hs]; rfl) rfl ?_
    refine pm_R_br pm_M122 (pc' := 9) rfl rfl ?_
    refine pm_R_lo pm_M122 (pc' := 10) rfl rfl rfl ?_
    refine pm_R_get pm_M122 (pc' := 13) (v := .ref 37) rfl rfl T.e16 (by decide) (T.lt (by decide)) rfl rfl ?_
    refine pm_R_lo pm_M122 (pc' := 14) rfl rfl rfl ?_
    refine pm_R_new pm_M122 (pc' := 17) (fs := [.null, .null, .null, .null, .null, .int 0, .int 0, .int 0, .int 0]) rfl rfl rfl rfl rfl ?_
    refine pm_R_op pm_M122 (pc' := 18) (st' := [.ref h.1, .ref h.1, .int a0, .ref 37]) rfl rfl rfl ?_
    refine pm_R_ci pm_M122 (pc' := 21) (a := h.1) (ra := []) (rest := [.ref h.1, .int a0, .ref 37]) (ls' := [.ref h.1]) rfl rfl (Or.inr rfl) pm_M123 rfl rfl (Nat.le_of_ble_eq_true rfl) rfl rfl ?_
    have h72 := T.1
    refine cl_x123 (d := d) (t := h.1) (by simp [pm_push, va_up]) (by omega) (Nat.lt_succ_self _) (fun h2 e1 e2 t2 c1 c2 c3 c4 oo => ?_)
    have e1' : h2.1 = h.1 + 5 := e1
    have e2' : h2.2.1 = h.2.1 + 24466 := e2.trans (by show h.2.1 + 9 + 24457 = _; omega)
    have hh : ∀ a, a < h.1 → h2.2.2 a = h.2.2 a := fun a ha => by
      rw [oo a (by omega) (by show a < h.1 + 1; omega)]
      have : a ≠ h.1 := by omega
      simp [pm_push, va_up, this]
    have G2 : cl_G (cl_gr ck h.1 5 24) E := cl_gr_G G T.2.2.2.2.2.2.2.2.2.2.1 h72 (by unfold cl_gp; omega) (fun _ _ => rfl) (fun z => absurd z (by decide)) (fun z => absurd z (by decide)) (fun z => absurd z (by decide)) (fun z => absurd z (by decide))
    have T2 : cl_T (cl_gr ck h.1 5 24) E m o h2 := T.grow G (by unfold cl_gp; omega) (fun _ _ => rfl) hh (by omega) (fun z => absurd z (by decide)) (fun z => absurd z (by decide)) (fun z => absurd z (by decide)) (fun _ => ⟨⟨0, -1, -1, -1, ⟨by decide, by decide⟩, ⟨by decide, by decide⟩, t2⟩, ⟨_, c1⟩, ⟨_, c2⟩, ⟨_, c3⟩, ⟨_, c4⟩⟩)
    have lt : ∀ b, b < h.1 → cl_gr ck h.1 5 24 b = ck b := fun b hb => cl_gr_lt hb
    have old := cl_gr_old (n := 5) (k0 := 24) T.2.2.2.2.2.2.2.2.2.2.1
    have kc : cl_gr ck h.1 5 24 h.1 = 24 := cl_gr_new0 (by decide)
    show pm_R _ 122 21 [.ref 16, .int a0] [.ref h.1, .int a0, .ref 37] _ _
    refine pm_R_aast pm_M122 (pc' := 22) rfl ((hh 37 (by omega)).trans es) t2 rfl (by decide) (T2.lt (by decide)) (by omega) (by omega) hj rfl ?_
    have T3 := T2.put37 G2 (f := va_up fs a0.toNatClampNeg (some h.1)) (fun i b hb => by
      by_cases e : i = a0.toNatClampNeg
      · rw [e] at hb; rw [show va_up fs a0.toNatClampNeg (some h.1) a0.toNatClampNeg = some h.1 by simp [va_up]] at hb; cases hb; exact kc
      · rw [show va_up fs a0.toNatClampNeg (some h.1) i = fs i by simp [va_up, e]] at hb
        have := hO i b hb
        rw [old b (by rw [this]; decide)]; exact this)
    have F3 : cl_F ck [37] 5 24466 h (pm_set h2 37 (.inl (9, 2, .inr (.inr (.inr (.inr (va_up fs a0.toNatClampNeg (some h.1)))))))) := by
      refine ⟨h72, by show h.1 ≤ h2.1; omega, by show h2.1 ≤ _; omega, by show h2.2.1 ≤ _; omega, fun a b1 b2 b3 => ?_⟩
      have : a ≠ 37 := fun e => b2 (by rw [e]; exact List.mem_singleton.mpr rfl)
      rw [cl_set_ne this]; exact hh a b1
    refine cl_c122_t (d := d) (lo := lo) (c := h.1) G2 T3 hj (by rw [cl_set_ne (by decide), hh 19 (by omega)]; exact el) hl cl_set_eq (by simp [va_up]) (by rw [old lo (by rw [hkl]; decide)]; exact hkl) kc (fun h' T' F' N' NT' => ?_)
    refine K h.1 _ h' lt G2 T' (F3.transG F' lt (by decide) (by decide) (by decide)) kc N' (fun c hc z => NT' c (by rw [old c (by rw [hc]; decide)]; exact hc) (z.lift old ?_)) (fun a ha hn => ?_) ⟨_, F'.cell G2 List.not_mem_nil (by decide) cl_set_eq, ?_⟩
    · have hc72 := G.1 c (by rw [hc]; decide)
      rw [cl_set_ne (by omega), hh c (T.al hc (by decide))]
    · rw [F'.cell G2 List.not_mem_nil ha rfl, cl_set_ne hn, hh a (by omega)]
    · have q1 : h'.2.1 ≤ h2.2.1 + 0 := F'.2.2.2.1
      have q2 := cl_p37_up (c := h.1) hj hs
      omega
  · refine pm_R_aald pm_M122 (pc' := 6) (v := .ref c) rfl es (by decide) (by decide) (by decide) (T.lt (by decide)) hj (by rw [hs]; rfl) rfl ?_
    refine pm_R_br pm_M122 (pc' := 22) rfl rfl ?_
    refine cl_c122_t (d := d) (lo := lo) (c := c) G T hj el hl es hs hkl (hO _ _ hs) (fun h' T' F' N' NT' => ?_)
    exact K c ck h' (fun _ _ => rfl) G T' ((cl_F.refl (ck := ck) (A := [37]) (n := 5) (s := 24466) T.1).trans F' (by decide) (by decide) (by decide)) (hO _ _ hs) N' NT' (fun a ha _ => F'.cell G List.not_mem_nil ha rfl) ⟨_, F'.cell G List.not_mem_nil (by decide) es, by have := F'.2.2.2.1; omega⟩
end
