section
/-! a text is kept, and counted -/
variable {d mid pc pc_q : Nat} {ls st : List Value} {h : pm_H} {Q : Option Value → pm_H → Prop} {q : pm_M} {l : List (Nat × Instr × Nat)} {L : Nat} {ck : cl_K} {E : Nat → pm_E} {m : Nat → Int32} {o : Nat → Option Nat}
theorem cl_upS {f : Nat → Option Nat} {j b : Nat} : va_up f j (some b) j = some b := by simp [va_up]
theorem cl_upO {f : Nat → Option Nat} {j b i : Nat} (h : i ≠ j) : va_up f j (some b) i = f i := by simp [va_up, h]
theorem cl_O.up {k j b : Nat} {f : Nat → Option Nat} (h : cl_O ck k f) (hb : ck b = k) : cl_O ck k (va_up f j (some b)) := fun i x hx => by
  by_cases e : i = j
  · rw [e, cl_upS] at hx; cases hx; exact hb
  · rw [cl_upO e] at hx; exact h i x hx
theorem cl_T.putr19 (G : cl_G ck E) (T : cl_T ck E m o h) {f : Nat → Option Nat} {j b : Nat} (e : h.2.2 19 = .inl (4, 2, .inr (.inr (.inr (.inr f))))) (hb : ck b = 1) : cl_T ck E m o (pm_set h 19 (.inl (4, 2, .inr (.inr (.inr (.inr (va_up f j (some b)))))))) := by
  obtain ⟨g, eg, hO⟩ := T.C 19 (by decide) (by decide)
  rw [e] at eg
  cases eg
  refine ⟨T.1, by rw [cl_set_ne (by omega)]; exact T.e16, by rw [cl_set_ne (by omega)]; exact T.e17, by rw [cl_set_ne (by omega)]; exact T.e25, by rw [cl_set_ne (by omega)]; exact T.e30, by rw [cl_set_ne (by omega)]; exact T.e31, by rw [cl_set_ne (by omega)]; exact T.e33, T.B, fun b b1 b2 => ?_, ?_, T.2.2.2.2.2.2.2.2.2.2.1, fun b b1 b2 => ?_, cl_D.low G T.D (fun b hb => cl_set_ne (by omega)), T.oo, fun b hb => by rw [cl_set_ne (by omega)]; exact T.old hb⟩
  · by_cases hz : b = 19
    · subst hz; rw [cl_set_eq]; exact ⟨_, rfl, hO.up hb⟩
    · rw [cl_set_ne hz]; exact T.C b b1 b2
  · have N := T.N
    intro c hc
    rw [cl_set_ne (by decide)] at hc
    obtain ⟨n1, n2, n3, n4⟩ := N c hc
    rw [cl_set_ne (a := 19) (b := 20) (by decide), cl_set_ne (a := 19) (b := 21) (by decide), cl_set_ne (a := 19) (b := 22) (by decide)]
    refine ⟨fun f' hf' i hi => ?_, n2, n3, n4⟩
    rw [cl_set_eq] at hf'
    cases hf'
    by_cases ei : i = j
    · rw [ei, cl_upS]; exact ⟨_, rfl⟩
    · rw [cl_upO ei]; exact n1 _ e i hi
  · have := G.1 b (by omega)
    rw [cl_set_ne (by omega)]
    exact T.2.2.2.2.2.2.2.2.2.2.2.1 b b1 b2
theorem cl_T.cnt19 (G : cl_G ck E) (T : cl_T ck E m o h) {c : Nat → Int32} {f : Nat → Option Nat} {v : Int32} (e : h.2.2 23 = .inl (0, 4, .inl c)) (ef : h.2.2 19 = .inl (4, 2, .inr (.inr (.inr (.inr f))))) (hf : ∃ b, f (c 0).toInt.toNat = some b) (hv : v.toInt = (c 0).toInt + 1) (hm : v.toInt ≤ 2) : cl_T ck E m o (pm_set h 23 (.inl (0, 4, .inl (upd c 0 v)))) := by
  obtain ⟨g, eg, hO⟩ := T.C 23 (by decide) (by decide)
  rw [e] at eg
  cases eg
  have c0 := hO 0
  refine ⟨T.1, by rw [cl_set_ne (by omega)]; exact T.e16, by rw [cl_set_ne (by omega)]; exact T.e17, by rw [cl_set_ne (by omega)]; exact T.e25, by rw [cl_set_ne (by omega)]; exact T.e30, by rw [cl_set_ne (by omega)]; exact T.e31, by rw [cl_set_ne (by omega)]; exact T.e33, T.B, fun b b1 b2 => ?_, ?_, T.2.2.2.2.2.2.2.2.2.2.1, fun b b1 b2 => ?_, cl_D.low G T.D (fun b hb => cl_set_ne (by omega)), T.oo, fun b hb => by rw [cl_set_ne (by omega)]; exact T.old hb⟩
  · by_cases hz : b = 23
    · subst hz; rw [cl_set_eq]
      refine ⟨_, rfl, fun j => ?_⟩
      by_cases ej : j = 0
      · have u : upd c 0 v j = v := by unfold upd; rw [if_pos ej]
        rw [u, ej]; exact ⟨by have := c0.1; omega, by simpa using hm⟩
      · have u : upd c 0 v j = c j := by unfold upd; rw [if_neg ej]
        rw [u]; exact hO j
    · rw [cl_set_ne hz]; exact T.C b b1 b2
  · have N := T.N
    intro c_q hc
    rw [cl_set_eq] at hc
    cases hc
    rw [cl_set_ne (a := 23) (b := 19) (by decide), cl_set_ne (a := 23) (b := 20) (by decide), cl_set_ne (a := 23) (b := 21) (by decide), cl_set_ne (a := 23) (b := 22) (by decide)]
    obtain ⟨n1, n2, n3, n4⟩ := N c e
    refine ⟨fun f' hf' i hi => ?_, n2, n3, n4⟩
    rw [ef] at hf'
    cases hf'
    have u : upd c 0 v 0 = v := by unfold upd; rw [if_pos rfl]
    rw [u] at hi
    by_cases ei : (i : Int) = (c 0).toInt
    · have : i = (c 0).toInt.toNat := by omega
      rw [this]; exact hf
    · exact n1 _ ef i (by omega)
  · have := G.1 b (by omega)
    rw [cl_set_ne (by omega)]
    exact T.2.2.2.2.2.2.2.2.2.2.2.1 b b1 b2
theorem cl_T.putr20 (G : cl_G ck E) (T : cl_T ck E m o h) {f : Nat → Option Nat} {j b : Nat} (e : h.2.2 20 = .inl (5, 3, .inr (.inr (.inr (.inr f))))) (hb : ck b = 7) : cl_T ck E m o (pm_set h 20 (.inl (5, 3, .inr (.inr (.inr (.inr (va_up f j (some b)))))))) := by
  obtain ⟨g, eg, hO⟩ := T.C 20 (by decide) (by decide)
  rw [e] at eg
  cases eg
  refine ⟨T.1, by rw [cl_set_ne (by omega)]; exact T.e16, by rw [cl_set_ne (by omega)]; exact T.e17, by rw [cl_set_ne (by omega)]; exact T.e25, by rw [cl_set_ne (by omega)]; exact T.e30, by rw [cl_set_ne (by omega)]; exact T.e31, by rw [cl_set_ne (by omega)]; exact T.e33, T.B, fun b b1 b2 => ?_, ?_, T.2.2.2.2.2.2.2.2.2.2.1, fun b b1 b2 => ?_, cl_D.low G T.D (fun b hb => cl_set_ne (by omega)), T.oo, fun b hb => by rw [cl_set_ne (by omega)]; exact T.old hb⟩
  · by_cases hz : b = 20
    · subst hz; rw [cl_set_eq]; exact ⟨_, rfl, hO.up hb⟩
    · rw [cl_set_ne hz]; exact T.C b b1 b2
  · have N := T.N
    intro c hc
    rw [cl_set_ne (by decide)] at hc
    obtain ⟨n1, n2, n3, n4⟩ := N c hc
    rw [cl_set_ne (a := 20) (b := 19) (by decide), cl_set_ne (a := 20) (b := 21) (by decide), cl_set_ne (a := 20) (b := 22) (by decide)]
    refine ⟨n1, fun f' hf' i hi => ?_, n3, n4⟩
    rw [cl_set_eq] at hf'
    cases hf'
    by_cases ei : i = j
    · rw [ei, cl_upS]; exact ⟨_, rfl⟩
    · rw [cl_upO ei]; exact n2 _ e i hi
  · have := G.1 b (by omega)
    rw [cl_set_ne (by omega)]
    exact T.2.2.2.2.2.2.2.2.2.2.2.1 b b1 b2
theorem cl_T.cnt20 (G : cl_G ck E) (T : cl_T ck E m o h) {c : Nat → Int32} {f : Nat → Option Nat} {v : Int32} (e : h.2.2 23 = .inl (0, 4, .inl c)) (ef : h.2.2 20 = .inl (5, 3, .inr (.inr (.inr (.inr f))))) (hf : ∃ b, f (c 1).toInt.toNat = some b) (hv : v.toInt = (c 1).toInt + 1) (hm : v.toInt ≤ 3) : cl_T ck E m o (pm_set h 23 (.inl (0, 4, .inl (upd c 1 v)))) := by
  obtain ⟨g, eg, hO⟩ := T.C 23 (by decide) (by decide)
  rw [e] at eg
  cases eg
  have c0 := hO 1
  refine ⟨T.1, by rw [cl_set_ne (by omega)]; exact T.e16, by rw [cl_set_ne (by omega)]; exact T.e17, by rw [cl_set_ne (by omega)]; exact T.e25, by rw [cl_set_ne (by omega)]; exact T.e30, by rw [cl_set_ne (by omega)]; exact T.e31, by rw [cl_set_ne (by omega)]; exact T.e33, T.B, fun b b1 b2 => ?_, ?_, T.2.2.2.2.2.2.2.2.2.2.1, fun b b1 b2 => ?_, cl_D.low G T.D (fun b hb => cl_set_ne (by omega)), T.oo, fun b hb => by rw [cl_set_ne (by omega)]; exact T.old hb⟩
  · by_cases hz : b = 23
    · subst hz; rw [cl_set_eq]
      refine ⟨_, rfl, fun j => ?_⟩
      by_cases ej : j = 1
      · have u : upd c 1 v j = v := by unfold upd; rw [if_pos ej]
        rw [u, ej]; exact ⟨by have := c0.1; omega, by simpa using hm⟩
      · have u : upd c 1 v j = c j := by unfold upd; rw [if_neg ej]
        rw [u]; exact hO j
    · rw [cl_set_ne hz]; exact T.C b b1 b2
  · have N := T.N
    intro c_q hc
    rw [cl_set_eq] at hc
    cases hc
    rw [cl_set_ne (a := 23) (b := 19) (by decide), cl_set_ne (a := 23) (b := 20) (by decide), cl_set_ne (a := 23) (b := 21) (by decide), cl_set_ne (a := 23) (b := 22) (by decide)]
    obtain ⟨n1, n2, n3, n4⟩ := N c e
    refine ⟨n1, fun f' hf' i hi => ?_, n3, n4⟩
    rw [ef] at hf'
    cases hf'
    have u : upd c 1 v 1 = v := by unfold upd; rw [if_pos rfl]
    rw [u] at hi
    by_cases ei : (i : Int) = (c 1).toInt
    · have : i = (c 1).toInt.toNat := by omega
      rw [this]; exact hf
    · exact n2 _ ef i (by omega)
  · have := G.1 b (by omega)
    rw [cl_set_ne (by omega)]
    exact T.2.2.2.2.2.2.2.2.2.2.2.1 b b1 b2
theorem cl_T.putr21 (G : cl_G ck E) (T : cl_T ck E m o h) {f : Nat → Option Nat} {j b : Nat} (e : h.2.2 21 = .inl (6, 2, .inr (.inr (.inr (.inr f))))) (hb : ck b = 9) : cl_T ck E m o (pm_set h 21 (.inl (6, 2, .inr (.inr (.inr (.inr (va_up f j (some b)))))))) := by
  obtain ⟨g, eg, hO⟩ := T.C 21 (by decide) (by decide)
  rw [e] at eg
  cases eg
  refine ⟨T.1, by rw [cl_set_ne (by omega)]; exact T.e16, by rw [cl_set_ne (by omega)]; exact T.e17, by rw [cl_set_ne (by omega)]; exact T.e25, by rw [cl_set_ne (by omega)]; exact T.e30, by rw [cl_set_ne (by omega)]; exact T.e31, by rw [cl_set_ne (by omega)]; exact T.e33, T.B, fun b b1 b2 => ?_, ?_, T.2.2.2.2.2.2.2.2.2.2.1, fun b b1 b2 => ?_, cl_D.low G T.D (fun b hb => cl_set_ne (by omega)), T.oo, fun b hb => by rw [cl_set_ne (by omega)]; exact T.old hb⟩
  · by_cases hz : b = 21
    · subst hz; rw [cl_set_eq]; exact ⟨_, rfl, hO.up hb⟩
    · rw [cl_set_ne hz]; exact T.C b b1 b2
  · have N := T.N
    intro c hc
    rw [cl_set_ne (by decide)] at hc
    obtain ⟨n1, n2, n3, n4⟩ := N c hc
    rw [cl_set_ne (a := 21) (b := 19) (by decide), cl_set_ne (a := 21) (b := 20) (by decide), cl_set_ne (a := 21) (b := 22) (by decide)]
    refine ⟨n1, n2, fun f' hf' i hi => ?_, n4⟩
    rw [cl_set_eq] at hf'
    cases hf'
    by_cases ei : i = j
    · rw [ei, cl_upS]; exact ⟨_, rfl⟩
    · rw [cl_upO ei]; exact n3 _ e i hi
  · have := G.1 b (by omega)
    rw [cl_set_ne (by omega)]
    exact T.2.2.2.2.2.2.2.2.2.2.2.1 b b1 b2
theorem cl_T.cnt21 (G : cl_G ck E) (T : cl_T ck E m o h) {c : Nat → Int32} {f : Nat → Option Nat} {v : Int32} (e : h.2.2 23 = .inl (0, 4, .inl c)) (ef : h.2.2 21 = .inl (6, 2, .inr (.inr (.inr (.inr f))))) (hf : ∃ b, f (c 2).toInt.toNat = some b) (hv : v.toInt = (c 2).toInt + 1) (hm : v.toInt ≤ 2) : cl_T ck E m o (pm_set h 23 (.inl (0, 4, .inl (upd c 2 v)))) := by
  obtain ⟨g, eg, hO⟩ := T.C 23 (by decide) (by decide)
  rw [e] at eg
  cases eg
  have c0 := hO 2
  refine ⟨T.1, by rw [cl_set_ne (by omega)]; exact T.e16, by rw [cl_set_ne (by omega)]; exact T.e17, by rw [cl_set_ne (by omega)]; exact T.e25, by rw [cl_set_ne (by omega)]; exact T.e30, by rw [cl_set_ne (by omega)]; exact T.e31, by rw [cl_set_ne (by omega)]; exact T.e33, T.B, fun b b1 b2 => ?_, ?_, T.2.2.2.2.2.2.2.2.2.2.1, fun b b1 b2 => ?_, cl_D.low G T.D (fun b hb => cl_set_ne (by omega)), T.oo, fun b hb => by rw [cl_set_ne (by omega)]; exact T.old hb⟩
  · by_cases hz : b = 23
    · subst hz; rw [cl_set_eq]
      refine ⟨_, rfl, fun j => ?_⟩
      by_cases ej : j = 2
      · have u : upd c 2 v j = v := by unfold upd; rw [if_pos ej]
        rw [u, ej]; exact ⟨by have := c0.1; omega, by simpa using hm⟩
      · have u : upd c 2 v j = c j := by unfold upd; rw [if_neg ej]
        rw [u]; exact hO j
    · rw [cl_set_ne hz]; exact T.C b b1 b2
  · have N := T.N
    intro c_q hc
    rw [cl_set_eq] at hc
    cases hc
    rw [cl_set_ne (a := 23) (b := 19) (by decide), cl_set_ne (a := 23) (b := 20) (by decide), cl_set_ne (a := 23) (b := 21) (by decide), cl_set_ne (a := 23) (b := 22) (by decide)]
    obtain ⟨n1, n2, n3, n4⟩ := N c e
    refine ⟨n1, n2, fun f' hf' i hi => ?_, n4⟩
    rw [ef] at hf'
    cases hf'
    have u : upd c 2 v 2 = v := by unfold upd; rw [if_pos rfl]
    rw [u] at hi
    by_cases ei : (i : Int) = (c 2).toInt
    · have : i = (c 2).toInt.toNat := by omega
      rw [this]; exact hf
    · exact n3 _ ef i (by omega)
  · have := G.1 b (by omega)
    rw [cl_set_ne (by omega)]
    exact T.2.2.2.2.2.2.2.2.2.2.2.1 b b1 b2
theorem cl_T.putr22 (G : cl_G ck E) (T : cl_T ck E m o h) {f : Nat → Option Nat} {j b : Nat} (e : h.2.2 22 = .inl (7, 2, .inr (.inr (.inr (.inr f))))) (hb : ck b = 13) : cl_T ck E m o (pm_set h 22 (.inl (7, 2, .inr (.inr (.inr (.inr (va_up f j (some b)))))))) := by
  obtain ⟨g, eg, hO⟩ := T.C 22 (by decide) (by decide)
  rw [e] at eg
  cases eg
  refine ⟨T.1, by rw [cl_set_ne (by omega)]; exact T.e16, by rw [cl_set_ne (by omega)]; exact T.e17, by rw [cl_set_ne (by omega)]; exact T.e25, by rw [cl_set_ne (by omega)]; exact T.e30, by rw [cl_set_ne (by omega)]; exact T.e31, by rw [cl_set_ne (by omega)]; exact T.e33, T.B, fun b b1 b2 => ?_, ?_, T.2.2.2.2.2.2.2.2.2.2.1, fun b b1 b2 => ?_, cl_D.low G T.D (fun b hb => cl_set_ne (by omega)), T.oo, fun b hb => by rw [cl_set_ne (by omega)]; exact T.old hb⟩
  · by_cases hz : b = 22
    · subst hz; rw [cl_set_eq]; exact ⟨_, rfl, hO.up hb⟩
    · rw [cl_set_ne hz]; exact T.C b b1 b2
  · have N := T.N
    intro c hc
    rw [cl_set_ne (by decide)] at hc
    obtain ⟨n1, n2, n3, n4⟩ := N c hc
    rw [cl_set_ne (a := 22) (b := 19) (by decide), cl_set_ne (a := 22) (b := 20) (by decide), cl_set_ne (a := 22) (b := 21) (by decide)]
    refine ⟨n1, n2, n3, fun f' hf' i hi => ?_⟩
    rw [cl_set_eq] at hf'
    cases hf'
    by_cases ei : i = j
    · rw [ei, cl_upS]; exact ⟨_, rfl⟩
    · rw [cl_upO ei]; exact n4 _ e i hi
  · have := G.1 b (by omega)
    rw [cl_set_ne (by omega)]
    exact T.2.2.2.2.2.2.2.2.2.2.2.1 b b1 b2
theorem cl_T.cnt22 (G : cl_G ck E) (T : cl_T ck E m o h) {c : Nat → Int32} {f : Nat → Option Nat} {v : Int32} (e : h.2.2 23 = .inl (0, 4, .inl c)) (ef : h.2.2 22 = .inl (7, 2, .inr (.inr (.inr (.inr f))))) (hf : ∃ b, f (c 3).toInt.toNat = some b) (hv : v.toInt = (c 3).toInt + 1) (hm : v.toInt ≤ 2) : cl_T ck E m o (pm_set h 23 (.inl (0, 4, .inl (upd c 3 v)))) := by
  obtain ⟨g, eg, hO⟩ := T.C 23 (by decide) (by decide)
  rw [e] at eg
  cases eg
  have c0 := hO 3
  refine ⟨T.1, by rw [cl_set_ne (by omega)]; exact T.e16, by rw [cl_set_ne (by omega)]; exact T.e17, by rw [cl_set_ne (by omega)]; exact T.e25, by rw [cl_set_ne (by omega)]; exact T.e30, by rw [cl_set_ne (by omega)]; exact T.e31, by rw [cl_set_ne (by omega)]; exact T.e33, T.B, fun b b1 b2 => ?_, ?_, T.2.2.2.2.2.2.2.2.2.2.1, fun b b1 b2 => ?_, cl_D.low G T.D (fun b hb => cl_set_ne (by omega)), T.oo, fun b hb => by rw [cl_set_ne (by omega)]; exact T.old hb⟩
  · by_cases hz : b = 23
    · subst hz; rw [cl_set_eq]
      refine ⟨_, rfl, fun j => ?_⟩
      by_cases ej : j = 3
      · have u : upd c 3 v j = v := by unfold upd; rw [if_pos ej]
        rw [u, ej]; exact ⟨by have := c0.1; omega, by simpa using hm⟩
      · have u : upd c 3 v j = c j := by unfold upd; rw [if_neg ej]
        rw [u]; exact hO j
    · rw [cl_set_ne hz]; exact T.C b b1 b2
  · have N := T.N
    intro c_q hc
    rw [cl_set_eq] at hc
    cases hc
    rw [cl_set_ne (a := 23) (b := 19) (by decide), cl_set_ne (a := 23) (b := 20) (by decide), cl_set_ne (a := 23) (b := 21) (by decide), cl_set_ne (a := 23) (b := 22) (by decide)]
    obtain ⟨n1, n2, n3, n4⟩ := N c e
    refine ⟨n1, n2, n3, fun f' hf' i hi => ?_⟩
    rw [ef] at hf'
    cases hf'
    have u : upd c 3 v 3 = v := by unfold upd; rw [if_pos rfl]
    rw [u] at hi
    by_cases ei : (i : Int) = (c 3).toInt
    · have : i = (c 3).toInt.toNat := by omega
      rw [this]; exact hf
    · exact n4 _ ef i (by omega)
  · have := G.1 b (by omega)
    rw [cl_set_ne (by omega)]
    exact T.2.2.2.2.2.2.2.2.2.2.2.1 b b1 b2
theorem cl_R_cnt19 (G : cl_G ck E) (hM : pm_Mt mid q l) (T : cl_T ck E m o h) {c : Nat → Int32} {f : Nat → Option Nat} {v : Int32} (hf : pm_find l pc = some (.iastore, L)) (e : h.2.2 23 = .inl (0, 4, .inl c)) (ef : h.2.2 19 = .inl (4, 2, .inr (.inr (.inr (.inr f))))) (hx : ∃ b, f (c 0).toInt.toNat = some b) (hv : v.toInt = (c 0).toInt + 1) (hm : v.toInt ≤ 2) (hp : pc + 1 = pc_q) (kk : ∀ h_q, cl_T ck E m o h_q → rf_G [23] h h_q → pm_R d mid pc_q ls st h_q Q) : pm_R d mid pc ls (.int v :: .int 0 :: .ref 23 :: st) h Q :=
  pm_R_iast hM hf e (by decide) (T.lt (by decide)) rfl hp (kk _ (T.cnt19 G e ef hx hv hm) (rf_G.one _ _ _))
theorem cl_R_cnt20 (G : cl_G ck E) (hM : pm_Mt mid q l) (T : cl_T ck E m o h) {c : Nat → Int32} {f : Nat → Option Nat} {v : Int32} (hf : pm_find l pc = some (.iastore, L)) (e : h.2.2 23 = .inl (0, 4, .inl c)) (ef : h.2.2 20 = .inl (5, 3, .inr (.inr (.inr (.inr f))))) (hx : ∃ b, f (c 1).toInt.toNat = some b) (hv : v.toInt = (c 1).toInt + 1) (hm : v.toInt ≤ 3) (hp : pc + 1 = pc_q) (kk : ∀ h_q, cl_T ck E m o h_q → rf_G [23] h h_q → pm_R d mid pc_q ls st h_q Q) : pm_R d mid pc ls (.int v :: .int 1 :: .ref 23 :: st) h Q :=
  pm_R_iast hM hf e (by decide) (T.lt (by decide)) rfl hp (kk _ (T.cnt20 G e ef hx hv hm) (rf_G.one _ _ _))
theorem cl_R_cnt21 (G : cl_G ck E) (hM : pm_Mt mid q l) (T : cl_T ck E m o h) {c : Nat → Int32} {f : Nat → Option Nat} {v : Int32} (hf : pm_find l pc = some (.iastore, L)) (e : h.2.2 23 = .inl (0, 4, .inl c)) (ef : h.2.2 21 = .inl (6, 2, .inr (.inr (.inr (.inr f))))) (hx : ∃ b, f (c 2).toInt.toNat = some b) (hv : v.toInt = (c 2).toInt + 1) (hm : v.toInt ≤ 2) (hp : pc + 1 = pc_q) (kk : ∀ h_q, cl_T ck E m o h_q → rf_G [23] h h_q → pm_R d mid pc_q ls st h_q Q) : pm_R d mid pc ls (.int v :: .int 2 :: .ref 23 :: st) h Q :=
  pm_R_iast hM hf e (by decide) (T.lt (by decide)) rfl hp (kk _ (T.cnt21 G e ef hx hv hm) (rf_G.one _ _ _))
theorem cl_R_cnt22 (G : cl_G ck E) (hM : pm_Mt mid q l) (T : cl_T ck E m o h) {c : Nat → Int32} {f : Nat → Option Nat} {v : Int32} (hf : pm_find l pc = some (.iastore, L)) (e : h.2.2 23 = .inl (0, 4, .inl c)) (ef : h.2.2 22 = .inl (7, 2, .inr (.inr (.inr (.inr f))))) (hx : ∃ b, f (c 3).toInt.toNat = some b) (hv : v.toInt = (c 3).toInt + 1) (hm : v.toInt ≤ 2) (hp : pc + 1 = pc_q) (kk : ∀ h_q, cl_T ck E m o h_q → rf_G [23] h h_q → pm_R d mid pc_q ls st h_q Q) : pm_R d mid pc ls (.int v :: .int 3 :: .ref 23 :: st) h Q :=
  pm_R_iast hM hf e (by decide) (T.lt (by decide)) rfl hp (kk _ (T.cnt22 G e ef hx hv hm) (rf_G.one _ _ _))
/-- keepText, sort 0 -/
theorem cl_c43_0 {a1 : Int32} (G : cl_G ck E) (T : cl_T ck E m o h) (Y : cl_Y h) {f26 f27 : Nat → Int32} (e26 : h.2.2 26 = .inl (0, 200, .inl f26)) (e27 : h.2.2 27 = .inl (0, 64, .inl f27)) (R : cl_RF 0 (m 5).toInt (m 6).toInt (m 7).toInt (m 8).toInt f26 f27) {f : Nat → Option Nat} (ef : h.2.2 19 = .inl (4, 2, .inr (.inr (.inr (.inr f))))) (hj : pm_in a1 2 = true) (K : ∀ (t : Nat) (ck_q : cl_K) (E_q : Nat → pm_E) (h_q : pm_H), (∀ b, b < h.1 → ck_q b = ck b) → (∀ a, a < h.1 → E_q a = E a) → cl_G ck_q E_q → cl_T ck_q E_q m o h_q → cl_F ck [19] 6 282 h h_q → h_q.2.2 19 = .inl (4, 2, .inr (.inr (.inr (.inr (va_up f a1.toNatClampNeg (some t)))))) → (∀ a, a < 72 → a ≠ 19 → h_q.2.2 a = h.2.2 a) → Q none h_q) : pm_R (d + 3) 43 0 [.ref 16, .int 0, .int a1] [] h Q := by
  have h72 := T.1
  refine pm_R_lo pm_M43 (pc_q := 1) rfl rfl rfl ?_
  refine pm_R_br pm_M43 (pc_q := 28) (st_q := []) rfl rfl ?_
  refine pm_R_lo pm_M43 (pc_q := 29) rfl rfl rfl ?_
  refine pm_R_get pm_M43 (pc_q := 32) (v := .ref 17) rfl rfl T.e16 (by decide) (T.lt (by decide)) rfl rfl ?_
  refine pm_R_get pm_M43 (pc_q := 35) (v := .ref 19) rfl rfl T.e17 (by decide) (T.lt (by decide)) rfl rfl ?_
  refine pm_R_lo pm_M43 (pc_q := 36) rfl rfl rfl ?_
  refine pm_R_new pm_M43 (pc_q := 39) (fs := [.int 0, .null, .int 0, .null, .null, .null, .null, .int 0]) rfl rfl rfl rfl rfl ?_
  refine pm_R_op pm_M43 (pc_q := 40) (st_q := [.ref h.1, .ref h.1, .int a1, .ref 19]) rfl rfl rfl ?_
  obtain ⟨h1, e1⟩ : ∃ z, pm_push h (.inr (4, [.int 0, .null, .int 0, .null, .null, .null, .null, .int 0])) 8 = z := ⟨_, rfl⟩
  have a1' : h1.1 = h.1 + 1 := by rw [← e1]; rfl
  have s1 : h1.2.1 = h.2.1 + 8 := by rw [← e1]; rfl
  have o1 : ∀ b, b < h.1 → h1.2.2 b = h.2.2 b := fun b hb => by rw [← e1]; exact cl_push_lt hb
  have t1 : h1.2.2 h.1 = .inr (4, [.int 0, .null, .int 0, .null, .null, .null, .null, .int 0]) := by rw [← e1]; exact cl_push_eq
  show pm_R _ 43 40 _ _ (pm_push h (.inr (4, [.int 0, .null, .int 0, .null, .null, .null, .null, .int 0])) 8) _
  rw [e1]
  refine pm_R_lo pm_M43 (pc_q := 41) rfl rfl rfl ?_
  refine pm_R_get pm_M43 (pc_q := 44) (v := .ref 25) rfl rfl ((o1 16 (by omega)).trans T.e16) (by decide) (by omega) rfl rfl ?_
  refine pm_R_ci pm_M43 (pc_q := 47) (a := h.1) (ra := [.ref 25]) (rest := [.ref h.1, .int a1, .ref 19]) (ls_q := [.ref h.1, .ref 25, pm_no, pm_no]) rfl rfl (Or.inl rfl) pm_M44 rfl rfl (Nat.le_of_ble_eq_true rfl) rfl rfl ?_
  have q5 : m 5 = Int32.ofNat (m 5).toInt.toNat := cl_nat32 (T.B 5) (by decide)
  have q6 : m 6 = Int32.ofNat (m 6).toInt.toNat := cl_nat32 (T.B 6) (by decide)
  have b6 := T.B 6
  have b6h : (m 6).toInt ≤ 16 := b6.2
  have b50 : 0 ≤ (m 5).toInt := (T.B 5).1
  obtain ⟨r1, r2, r3⟩ := R
  obtain ⟨fn, ey, by_⟩ := Y
  refine cl_c44 (d := d + 1) (t := h.1) ((o1 25 (by omega)).trans T.e25) ((o1 26 (by omega)).trans e26) ((o1 27 (by omega)).trans e27) ((o1 28 (by omega)).trans ey) q5 q6 (by omega) (by omega) (fun k hk => r2 k (by omega)) (fun k hk => r3 k (by omega)) by_ t1 h72 a1' (fun h2 a2 s2 o2 w2 => ?_)
  have hh : ∀ b, b < h.1 → h2.2.2 b = h.2.2 b := fun b hb => (o2 b hb).trans (o1 b hb)
  obtain ⟨E2, hE2⟩ : ∃ z : Nat → pm_E, z = fun a => if a < h.1 then E a else h2.2.2 a := ⟨_, rfl⟩
  have eo : ∀ a, a < h.1 → E2 a = E a := fun a ha => by rw [hE2]; exact if_pos ha
  have en : ∀ a, h.1 ≤ a → E2 a = h2.2.2 a := fun a ha => by rw [hE2]; exact if_neg (by omega)
  have lt0 := T.2.2.2.2.2.2.2.2.2.2.1
  have G2 : cl_G (cl_gr ck h.1 6 1) E2 := cl_gr_G G lt0 h72 (by unfold cl_gp; omega) eo (fun _ => w2.congr (en _ (by omega)) (en _ (by omega)) (en _ (by omega)) (en _ (by omega)) (en _ (by omega)) (en _ (by omega))) (fun z => absurd z (by decide)) (fun z => absurd z (by decide)) (fun z => absurd z (by decide))
  have T2 : cl_T (cl_gr ck h.1 6 1) E2 m o h2 := T.grow G (by unfold cl_gp; omega) eo hh (by omega) (fun _ i hi => (en _ (by omega)).symm) (fun z => absurd z (by decide)) (fun z => absurd z (by decide)) (fun z => absurd z (by decide))
  have kc : cl_gr ck h.1 6 1 h.1 = 1 := cl_gr_new0 (by decide)
  have ef2 := (hh 19 (by omega)).trans ef
  have T3 := T2.putr19 G2 (j := a1.toNatClampNeg) ef2 kc
  obtain ⟨_, _, _, _, _, _, _, _, _, _, _, ob, _⟩ := w2
  show pm_R _ 43 47 [.ref 16, .int 0, .int a1] [.ref h.1, .int a1, .ref 19] _ _
  refine pm_R_aast pm_M43 (pc_q := 48) rfl ef2 ob rfl (by decide) (by omega) (by omega) (by omega) hj rfl ?_
  refine pm_R_br pm_M43 (pc_q := 117) (st_q := []) rfl rfl ?_
  refine pm_R_ret pm_M43 (r := none) rfl rfl (K h.1 _ E2 _ (fun b hb => cl_gr_lt hb) eo G2 T3 ⟨h72, by show h.1 ≤ h2.1; omega, by show h2.1 ≤ _; omega, by show h2.2.1 ≤ _; omega, fun a b1 b2 b3 => ?_⟩ cl_set_eq (fun a ha hn => ?_))
  · rw [cl_set_ne (fun z => b2 (by rw [z]; exact List.mem_singleton.mpr rfl))]; exact hh a b1
  · rw [cl_set_ne hn]; exact hh a (by omega)
/-- keepText, sort 1 -/
theorem cl_c43_1 {a1 : Int32} (G : cl_G ck E) (T : cl_T ck E m o h) (Y : cl_Y h) {f26 f27 : Nat → Int32} (e26 : h.2.2 26 = .inl (0, 200, .inl f26)) (h1n : 1 ≤ (m 5).toInt) (R : cl_RF 1 (m 5).toInt (m 6).toInt (m 7).toInt (m 8).toInt f26 f27) {f : Nat → Option Nat} (ef : h.2.2 20 = .inl (5, 3, .inr (.inr (.inr (.inr f))))) (hj : pm_in a1 3 = true) (K : ∀ (t : Nat) (ck_q : cl_K) (E_q : Nat → pm_E) (h_q : pm_H), (∀ b, b < h.1 → ck_q b = ck b) → (∀ a, a < h.1 → E_q a = E a) → cl_G ck_q E_q → cl_T ck_q E_q m o h_q → cl_F ck [20] 2 14 h h_q → h_q.2.2 20 = .inl (5, 3, .inr (.inr (.inr (.inr (va_up f a1.toNatClampNeg (some t)))))) → (∀ a, a < 72 → a ≠ 20 → h_q.2.2 a = h.2.2 a) → Q none h_q) : pm_R (d + 3) 43 0 [.ref 16, .int 1, .int a1] [] h Q := by
  have h72 := T.1
  refine pm_R_lo pm_M43 (pc_q := 1) rfl rfl rfl ?_
  refine pm_R_br pm_M43 (pc_q := 51) (st_q := []) rfl rfl ?_
  refine pm_R_lo pm_M43 (pc_q := 52) rfl rfl rfl ?_
  refine pm_R_get pm_M43 (pc_q := 55) (v := .ref 17) rfl rfl T.e16 (by decide) (T.lt (by decide)) rfl rfl ?_
  refine pm_R_get pm_M43 (pc_q := 58) (v := .ref 20) rfl rfl T.e17 (by decide) (T.lt (by decide)) rfl rfl ?_
  refine pm_R_lo pm_M43 (pc_q := 59) rfl rfl rfl ?_
  refine pm_R_new pm_M43 (pc_q := 62) (fs := [.int 0, .null]) rfl rfl rfl rfl rfl ?_
  refine pm_R_op pm_M43 (pc_q := 63) (st_q := [.ref h.1, .ref h.1, .int a1, .ref 20]) rfl rfl rfl ?_
  obtain ⟨h1, e1⟩ : ∃ z, pm_push h (.inr (5, [.int 0, .null])) 2 = z := ⟨_, rfl⟩
  have a1' : h1.1 = h.1 + 1 := by rw [← e1]; rfl
  have s1 : h1.2.1 = h.2.1 + 2 := by rw [← e1]; rfl
  have o1 : ∀ b, b < h.1 → h1.2.2 b = h.2.2 b := fun b hb => by rw [← e1]; exact cl_push_lt hb
  have t1 : h1.2.2 h.1 = .inr (5, [.int 0, .null]) := by rw [← e1]; exact cl_push_eq
  show pm_R _ 43 63 _ _ (pm_push h (.inr (5, [.int 0, .null])) 2) _
  rw [e1]
  refine pm_R_lo pm_M43 (pc_q := 64) rfl rfl rfl ?_
  refine pm_R_get pm_M43 (pc_q := 67) (v := .ref 25) rfl rfl ((o1 16 (by omega)).trans T.e16) (by decide) (by omega) rfl rfl ?_
  refine pm_R_ci pm_M43 (pc_q := 70) (a := h.1) (ra := [.ref 25]) (rest := [.ref h.1, .int a1, .ref 20]) (ls_q := [.ref h.1, .ref 25]) rfl rfl (Or.inl rfl) pm_M47 rfl rfl (Nat.le_of_ble_eq_true rfl) rfl rfl ?_
  have q5 : m 5 = Int32.ofNat (m 5).toInt.toNat := cl_nat32 (T.B 5) (by decide)
  have b50 : 0 ≤ (m 5).toInt := (T.B 5).1
  obtain ⟨r1, r2⟩ := R
  refine cl_c47 (d := d + 1) (t := h.1) ((o1 25 (by omega)).trans T.e25) ((o1 26 (by omega)).trans e26) q5 (by omega) (by omega) (fun k hk => r2 k (by omega)) t1 h72 a1' (fun h2 a2 s2 o2 w2 => ?_)
  have hh : ∀ b, b < h.1 → h2.2.2 b = h.2.2 b := fun b hb => (o2 b hb).trans (o1 b hb)
  obtain ⟨E2, hE2⟩ : ∃ z : Nat → pm_E, z = fun a => if a < h.1 then E a else h2.2.2 a := ⟨_, rfl⟩
  have eo : ∀ a, a < h.1 → E2 a = E a := fun a ha => by rw [hE2]; exact if_pos ha
  have en : ∀ a, h.1 ≤ a → E2 a = h2.2.2 a := fun a ha => by rw [hE2]; exact if_neg (by omega)
  have lt0 := T.2.2.2.2.2.2.2.2.2.2.1
  have G2 : cl_G (cl_gr ck h.1 2 7) E2 := cl_gr_G G lt0 h72 (by unfold cl_gp; omega) eo (fun z => absurd z (by decide)) (fun _ => w2.congr (en _ (by omega)) (en _ (by omega))) (fun z => absurd z (by decide)) (fun z => absurd z (by decide))
  have T2 : cl_T (cl_gr ck h.1 2 7) E2 m o h2 := T.grow G (by unfold cl_gp; omega) eo hh (by omega) (fun _ i hi => (en _ (by omega)).symm) (fun z => absurd z (by decide)) (fun z => absurd z (by decide)) (fun z => absurd z (by decide))
  have kc : cl_gr ck h.1 2 7 h.1 = 7 := cl_gr_new0 (by decide)
  have ef2 := (hh 20 (by omega)).trans ef
  have T3 := T2.putr20 G2 (j := a1.toNatClampNeg) ef2 kc
  obtain ⟨_, _, _, _, ob, _⟩ := w2
  show pm_R _ 43 70 [.ref 16, .int 1, .int a1] [.ref h.1, .int a1, .ref 20] _ _
  refine pm_R_aast pm_M43 (pc_q := 71) rfl ef2 ob rfl (by decide) (by omega) (by omega) (by omega) hj rfl ?_
  refine pm_R_br pm_M43 (pc_q := 117) (st_q := []) rfl rfl ?_
  refine pm_R_ret pm_M43 (r := none) rfl rfl (K h.1 _ E2 _ (fun b hb => cl_gr_lt hb) eo G2 T3 ⟨h72, by show h.1 ≤ h2.1; omega, by show h2.1 ≤ _; omega, by show h2.2.1 ≤ _; omega, fun a b1 b2 b3 => ?_⟩ cl_set_eq (fun a ha hn => ?_))
  · rw [cl_set_ne (fun z => b2 (by rw [z]; exact List.mem_singleton.mpr rfl))]; exact hh a b1
  · rw [cl_set_ne hn]; exact hh a (by omega)
/-- keepText, sort 2 -/
theorem cl_c43_2 {a1 : Int32} (G : cl_G ck E) (T : cl_T ck E m o h) (Y : cl_Y h) {f26 f27 : Nat → Int32} (e26 : h.2.2 26 = .inl (0, 200, .inl f26)) (h87 : (m 8).toInt < (m 7).toInt) (R : cl_RF 2 (m 5).toInt (m 6).toInt (m 7).toInt (m 8).toInt f26 f27) {f : Nat → Option Nat} (ef : h.2.2 21 = .inl (6, 2, .inr (.inr (.inr (.inr f))))) (hj : pm_in a1 2 = true) (K : ∀ (t : Nat) (ck_q : cl_K) (E_q : Nat → pm_E) (h_q : pm_H), (∀ b, b < h.1 → ck_q b = ck b) → (∀ a, a < h.1 → E_q a = E a) → cl_G ck_q E_q → cl_T ck_q E_q m o h_q → cl_F ck [21] 4 561 h h_q → h_q.2.2 21 = .inl (6, 2, .inr (.inr (.inr (.inr (va_up f a1.toNatClampNeg (some t)))))) → (∀ a, a < 72 → a ≠ 21 → h_q.2.2 a = h.2.2 a) → Q none h_q) : pm_R (d + 3) 43 0 [.ref 16, .int 2, .int a1] [] h Q := by
  have h72 := T.1
  refine pm_R_lo pm_M43 (pc_q := 1) rfl rfl rfl ?_
  refine pm_R_br pm_M43 (pc_q := 74) (st_q := []) rfl rfl ?_
  refine pm_R_lo pm_M43 (pc_q := 75) rfl rfl rfl ?_
  refine pm_R_get pm_M43 (pc_q := 78) (v := .ref 17) rfl rfl T.e16 (by decide) (T.lt (by decide)) rfl rfl ?_
  refine pm_R_get pm_M43 (pc_q := 81) (v := .ref 21) rfl rfl T.e17 (by decide) (T.lt (by decide)) rfl rfl ?_
  refine pm_R_lo pm_M43 (pc_q := 82) rfl rfl rfl ?_
  refine pm_R_new pm_M43 (pc_q := 85) (fs := [.int 0, .int 0, .null, .null, .null]) rfl rfl rfl rfl rfl ?_
  refine pm_R_op pm_M43 (pc_q := 86) (st_q := [.ref h.1, .ref h.1, .int a1, .ref 21]) rfl rfl rfl ?_
  obtain ⟨h1, e1⟩ : ∃ z, pm_push h (.inr (1, [.int 0, .int 0, .null, .null, .null])) 5 = z := ⟨_, rfl⟩
  have a1' : h1.1 = h.1 + 1 := by rw [← e1]; rfl
  have s1 : h1.2.1 = h.2.1 + 5 := by rw [← e1]; rfl
  have o1 : ∀ b, b < h.1 → h1.2.2 b = h.2.2 b := fun b hb => by rw [← e1]; exact cl_push_lt hb
  have t1 : h1.2.2 h.1 = .inr (1, [.int 0, .int 0, .null, .null, .null]) := by rw [← e1]; exact cl_push_eq
  show pm_R _ 43 86 _ _ (pm_push h (.inr (1, [.int 0, .int 0, .null, .null, .null])) 5) _
  rw [e1]
  refine pm_R_lo pm_M43 (pc_q := 87) rfl rfl rfl ?_
  refine pm_R_get pm_M43 (pc_q := 90) (v := .ref 25) rfl rfl ((o1 16 (by omega)).trans T.e16) (by decide) (by omega) rfl rfl ?_
  refine pm_R_ci pm_M43 (pc_q := 93) (a := h.1) (ra := [.ref 25]) (rest := [.ref h.1, .int a1, .ref 21]) (ls_q := [.ref h.1, .ref 25, pm_no]) rfl rfl (Or.inl rfl) pm_M48 rfl rfl (Nat.le_of_ble_eq_true rfl) rfl rfl ?_
  have q5 : m 5 = Int32.ofNat (m 5).toInt.toNat := cl_nat32 (T.B 5) (by decide)
  have q7 : m 7 = Int32.ofNat (m 7).toInt.toNat := cl_nat32 (T.B 7) (by decide)
  have b5 : (m 5).toInt ≤ 50 := (T.B 5).2
  have b50 : 0 ≤ (m 5).toInt := (T.B 5).1
  obtain ⟨⟨r0, r1⟩, r2⟩ := R
  refine cl_c48 (d := d) (t := h.1) ((o1 25 (by omega)).trans T.e25) ((o1 26 (by omega)).trans e26) q5 q7 (by omega) (by omega) (by omega) (fun k hk => by obtain ⟨x1, x2, x3, x4⟩ := r2 k (by omega); exact ⟨x1, ⟨x2.1, by omega⟩, x3, x4⟩) t1 h72 a1' (fun h2 a2 s2 o2 w2 => ?_)
  have hh : ∀ b, b < h.1 → h2.2.2 b = h.2.2 b := fun b hb => (o2 b hb).trans (o1 b hb)
  obtain ⟨E2, hE2⟩ : ∃ z : Nat → pm_E, z = fun a => if a < h.1 then E a else h2.2.2 a := ⟨_, rfl⟩
  have eo : ∀ a, a < h.1 → E2 a = E a := fun a ha => by rw [hE2]; exact if_pos ha
  have en : ∀ a, h.1 ≤ a → E2 a = h2.2.2 a := fun a ha => by rw [hE2]; exact if_neg (by omega)
  have lt0 := T.2.2.2.2.2.2.2.2.2.2.1
  have G2 : cl_G (cl_gr ck h.1 4 9) E2 := cl_gr_G G lt0 h72 (by unfold cl_gp; omega) eo (fun z => absurd z (by decide)) (fun z => absurd z (by decide)) (fun _ => w2.congr (en _ (by omega)) (en _ (by omega)) (en _ (by omega)) (en _ (by omega))) (fun z => absurd z (by decide))
  have T2 : cl_T (cl_gr ck h.1 4 9) E2 m o h2 := T.grow G (by unfold cl_gp; omega) eo hh (by omega) (fun _ i hi => (en _ (by omega)).symm) (fun z => absurd z (by decide)) (fun z => absurd z (by decide)) (fun z => absurd z (by decide))
  have kc : cl_gr ck h.1 4 9 h.1 = 9 := cl_gr_new0 (by decide)
  have ef2 := (hh 21 (by omega)).trans ef
  have T3 := T2.putr21 G2 (j := a1.toNatClampNeg) ef2 kc
  obtain ⟨_, _, _, _, _, _, _, _, ob, _⟩ := w2
  show pm_R _ 43 93 [.ref 16, .int 2, .int a1] [.ref h.1, .int a1, .ref 21] _ _
  refine pm_R_aast pm_M43 (pc_q := 94) rfl ef2 ob rfl (by decide) (by omega) (by omega) (by omega) hj rfl ?_
  refine pm_R_br pm_M43 (pc_q := 117) (st_q := []) rfl rfl ?_
  refine pm_R_ret pm_M43 (r := none) rfl rfl (K h.1 _ E2 _ (fun b hb => cl_gr_lt hb) eo G2 T3 ⟨h72, by show h.1 ≤ h2.1; omega, by show h2.1 ≤ _; omega, by show h2.2.1 ≤ _; omega, fun a b1 b2 b3 => ?_⟩ cl_set_eq (fun a ha hn => ?_))
  · rw [cl_set_ne (fun z => b2 (by rw [z]; exact List.mem_singleton.mpr rfl))]; exact hh a b1
  · rw [cl_set_ne hn]; exact hh a (by omega)
/-- keepText, sort 3 -/
theorem cl_c43_3 {a1 : Int32} (G : cl_G ck E) (T : cl_T ck E m o h) (Y : cl_Y h) {f26 f27 : Nat → Int32} (e26 : h.2.2 26 = .inl (0, 200, .inl f26)) (R : cl_RF 3 (m 5).toInt (m 6).toInt (m 7).toInt (m 8).toInt f26 f27) {f : Nat → Option Nat} (ef : h.2.2 22 = .inl (7, 2, .inr (.inr (.inr (.inr f))))) (hj : pm_in a1 2 = true) (K : ∀ (t : Nat) (ck_q : cl_K) (E_q : Nat → pm_E) (h_q : pm_H), (∀ b, b < h.1 → ck_q b = ck b) → (∀ a, a < h.1 → E_q a = E a) → cl_G ck_q E_q → cl_T ck_q E_q m o h_q → cl_F ck [22] 2 34 h h_q → h_q.2.2 22 = .inl (7, 2, .inr (.inr (.inr (.inr (va_up f a1.toNatClampNeg (some t)))))) → (∀ a, a < 72 → a ≠ 22 → h_q.2.2 a = h.2.2 a) → Q none h_q) : pm_R (d + 3) 43 0 [.ref 16, .int 3, .int a1] [] h Q := by
  have h72 := T.1
  refine pm_R_lo pm_M43 (pc_q := 1) rfl rfl rfl ?_
  refine pm_R_br pm_M43 (pc_q := 97) (st_q := []) rfl rfl ?_
  refine pm_R_lo pm_M43 (pc_q := 98) rfl rfl rfl ?_
  refine pm_R_get pm_M43 (pc_q := 101) (v := .ref 17) rfl rfl T.e16 (by decide) (T.lt (by decide)) rfl rfl ?_
  refine pm_R_get pm_M43 (pc_q := 104) (v := .ref 22) rfl rfl T.e17 (by decide) (T.lt (by decide)) rfl rfl ?_
  refine pm_R_lo pm_M43 (pc_q := 105) rfl rfl rfl ?_
  refine pm_R_new pm_M43 (pc_q := 108) (fs := [.int 0, .null]) rfl rfl rfl rfl rfl ?_
  refine pm_R_op pm_M43 (pc_q := 109) (st_q := [.ref h.1, .ref h.1, .int a1, .ref 22]) rfl rfl rfl ?_
  obtain ⟨h1, e1⟩ : ∃ z, pm_push h (.inr (0, [.int 0, .null])) 2 = z := ⟨_, rfl⟩
  have a1' : h1.1 = h.1 + 1 := by rw [← e1]; rfl
  have s1 : h1.2.1 = h.2.1 + 2 := by rw [← e1]; rfl
  have o1 : ∀ b, b < h.1 → h1.2.2 b = h.2.2 b := fun b hb => by rw [← e1]; exact cl_push_lt hb
  have t1 : h1.2.2 h.1 = .inr (0, [.int 0, .null]) := by rw [← e1]; exact cl_push_eq
  show pm_R _ 43 109 _ _ (pm_push h (.inr (0, [.int 0, .null])) 2) _
  rw [e1]
  refine pm_R_lo pm_M43 (pc_q := 110) rfl rfl rfl ?_
  refine pm_R_get pm_M43 (pc_q := 113) (v := .ref 25) rfl rfl ((o1 16 (by omega)).trans T.e16) (by decide) (by omega) rfl rfl ?_
  refine pm_R_ci pm_M43 (pc_q := 116) (a := h.1) (ra := [.ref 25]) (rest := [.ref h.1, .int a1, .ref 22]) (ls_q := [.ref h.1, .ref 25]) rfl rfl (Or.inl rfl) pm_M54 rfl rfl (Nat.le_of_ble_eq_true rfl) rfl rfl ?_
  have q5 : m 5 = Int32.ofNat (m 5).toInt.toNat := cl_nat32 (T.B 5) (by decide)
  have b50 : 0 ≤ (m 5).toInt := (T.B 5).1
  obtain ⟨r1, r2⟩ := R
  refine cl_c54 (d := d + 1) (t := h.1) ((o1 25 (by omega)).trans T.e25) ((o1 26 (by omega)).trans e26) q5 (by omega) (fun k hk => r2 k (by omega)) t1 h72 a1' (fun h2 a2 s2 o2 w2 => ?_)
  have hh : ∀ b, b < h.1 → h2.2.2 b = h.2.2 b := fun b hb => (o2 b hb).trans (o1 b hb)
  obtain ⟨E2, hE2⟩ : ∃ z : Nat → pm_E, z = fun a => if a < h.1 then E a else h2.2.2 a := ⟨_, rfl⟩
  have eo : ∀ a, a < h.1 → E2 a = E a := fun a ha => by rw [hE2]; exact if_pos ha
  have en : ∀ a, h.1 ≤ a → E2 a = h2.2.2 a := fun a ha => by rw [hE2]; exact if_neg (by omega)
  have lt0 := T.2.2.2.2.2.2.2.2.2.2.1
  have G2 : cl_G (cl_gr ck h.1 2 13) E2 := cl_gr_G G lt0 h72 (by unfold cl_gp; omega) eo (fun z => absurd z (by decide)) (fun z => absurd z (by decide)) (fun z => absurd z (by decide)) (fun _ => w2.congr (en _ (by omega)) (en _ (by omega)))
  have T2 : cl_T (cl_gr ck h.1 2 13) E2 m o h2 := T.grow G (by unfold cl_gp; omega) eo hh (by omega) (fun _ i hi => (en _ (by omega)).symm) (fun z => absurd z (by decide)) (fun z => absurd z (by decide)) (fun z => absurd z (by decide))
  have kc : cl_gr ck h.1 2 13 h.1 = 13 := cl_gr_new0 (by decide)
  have ef2 := (hh 22 (by omega)).trans ef
  have T3 := T2.putr22 G2 (j := a1.toNatClampNeg) ef2 kc
  obtain ⟨_, _, _, ob, _⟩ := w2
  show pm_R _ 43 116 [.ref 16, .int 3, .int a1] [.ref h.1, .int a1, .ref 22] _ _
  refine pm_R_aast pm_M43 (pc_q := 117) rfl ef2 ob rfl (by decide) (by omega) (by omega) (by omega) hj rfl ?_
  refine pm_R_ret pm_M43 (r := none) rfl rfl (K h.1 _ E2 _ (fun b hb => cl_gr_lt hb) eo G2 T3 ⟨h72, by show h.1 ≤ h2.1; omega, by show h2.1 ≤ _; omega, by show h2.2.1 ≤ _; omega, fun a b1 b2 b3 => ?_⟩ cl_set_eq (fun a ha hn => ?_))
  · rw [cl_set_ne (fun z => b2 (by rw [z]; exact List.mem_singleton.mpr rfl))]; exact hh a b1
  · rw [cl_set_ne hn]; exact hh a (by omega)
end
