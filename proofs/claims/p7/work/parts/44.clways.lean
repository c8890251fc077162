section
/-! ways from the look for its chart on: made new, or there -/
theorem cl_T.puto16 {ck : cl_K} {E : Nat → pm_E} {m : Nat → Int32} {o o_q : Nat → Option Nat} {h : pm_H} (G : cl_G ck E) (T : cl_T ck E m o h) {fs : List Value} (q0 : fs = cl_f16 o_q) (h33 : cl_f33 m o_q = cl_f33 m o) (hO : (∀ b, o_q 0 = some b → ck b = 22) ∧ (∀ b, o_q 1 = some b → ck b = 1) ∧ (∀ b, o_q 2 = some b → ck b = 7)) : cl_T ck E m o_q (pm_set h 16 (.inr (11, fs))) := by
  subst q0
  have nn : ∀ a, a ≠ 16 → (pm_set h 16 (.inr (11, cl_f16 o_q))).2.2 a = h.2.2 a := fun a ha => by simp [pm_set, va_up, ha]
  have h1 : (pm_set h 16 (.inr (11, cl_f16 o_q))).1 = h.1 := rfl
  obtain ⟨t1, t2, t3, t4, t5, t6, t7, t8, t9, t10, t11, t12, t13, t14, t15⟩ := T
  have ge : ∀ a, ck a ≠ 0 → a ≠ 16 := fun a ha e => by have := G.1 a ha; omega
  refine ⟨t1, by simp [pm_set, va_up], by rw [nn 17 (by decide)]; exact t3, by rw [nn 25 (by decide)]; exact t4, by rw [nn 30 (by decide)]; exact t5, by rw [nn 31 (by decide)]; exact t6, by rw [nn 33 (by decide), h33]; exact t7, t8, ?_, ?_, t11, ?_, ?_, hO, ?_⟩
  · intro a a1 a2
    by_cases e : a = 16
    · have := t9 a a1 a2
      subst e
      unfold cl_C at this ⊢
      exact this
    · rw [nn a e]; exact t9 a a1 a2
  · rw [nn 19 (by decide), nn 20 (by decide), nn 21 (by decide), nn 22 (by decide), nn 23 (by decide)]; exact t10
  · intro a a1 a2
    rw [nn a (ge a (by omega))]; exact t12 a a1 a2
  · exact cl_D.low G t13 (fun b hb => nn b (by omega))
  · intro a ha
    rw [nn a (by omega)]; exact t15 a ha
theorem cl_c81_m {d : Nat} {ck : cl_K} {E : Nat → pm_E} {m : Nat → Int32} {o : Nat → Option Nat} {h : pm_H} {Q : Option Value → pm_H → Prop} {a0 : Int32} {a1 : Int32} {a2 : Int32} (G : cl_G ck E) (T : cl_T ck E m o h) (Ba2 : sf_B 0 49 a2) {lo ro : Nat} (ol : o 1 = some lo) (orr : o 2 = some ro) (K : ∀ (r : Int64) (m_q : Nat → Int32) (o_q : Nat → Option Nat) (ck_q : cl_K) (h_q : pm_H), (∀ b, b < h.1 → ck_q b = ck b) → cl_G ck_q E → cl_T ck_q E m_q o_q h_q → o_q 1 = o 1 → o_q 2 = o 2 → (∀ b, o 0 = some b → o_q 0 = some b ∧ h_q.1 = h.1 ∧ h_q.2.1 ≤ h.2.1) → (∃ b, o_q 0 = some b) → cl_F ck [16] 2 23403 h h_q → rf_W [] m m_q → Q (some (.long r)) h_q) : pm_R (d + 4) 81 46 [.ref 16, .int a0, .int a1, .int a2, .ref lo, .ref ro] [] h Q := by
  refine pm_R_lo pm_M81 (pc_q := 47) rfl rfl rfl ?_
  rcases ho : o 0 with _ | b
  · refine pm_R_get pm_M81 (pc_q := 50) (v := .null) rfl rfl T.e16 (by decide) (T.lt (by decide)) (by show some (va_rf (o 0)) = _; rw [ho]; rfl) rfl ?_
    refine pm_R_br pm_M81 (pc_q := 53) rfl rfl ?_
    refine pm_R_lo pm_M81 (pc_q := 54) rfl rfl rfl ?_
    refine pm_R_new pm_M81 (pc_q := 57) (fs := [.null, .null, .null]) rfl rfl rfl rfl rfl ?_
    refine pm_R_op pm_M81 (pc_q := 58) (st_q := [.ref h.1, .ref h.1, .ref 16]) rfl rfl rfl ?_
    refine pm_R_ci pm_M81 (pc_q := 61) (a := h.1) (ra := []) (rest := [.ref h.1, .ref 16]) (ls_q := [.ref h.1]) rfl rfl (Or.inr rfl) pm_M83 rfl rfl (Nat.le_of_ble_eq_true rfl) rfl rfl ?_
    have h72 := T.1
    have k0 : ck h.1 = 0 := Decidable.byContradiction (fun hn => Nat.lt_irrefl _ (T.2.2.2.2.2.2.2.2.2.2.1 h.1 hn))
    have k1 : ck (h.1 + 1) = 0 := Decidable.byContradiction (fun hn => by have := T.2.2.2.2.2.2.2.2.2.2.1 (h.1 + 1) hn; omega)
    refine cl_x83 (d := d + 3) (t := h.1) (by simp [pm_push, va_up]) (by omega) (Nat.lt_succ_self _) (fun h2 e1 e2 e3 e4 e5 => ?_)
    have hh : ∀ a, a < h.1 → h2.2.2 a = h.2.2 a := fun a ha => by
      rw [e5 a (by omega) (by show a ≠ h.1 + 1; omega)]
      have : a ≠ h.1 := by omega
      simp [pm_push, va_up, this]
    have e1' : h2.1 = h.1 + 2 := e1
    have e2' : h2.2.1 = h.2.1 + 23403 := e2.trans (by show h.2.1 + 3 + 23400 = _; omega)
    have G2 := cl_kW_G G k0 k1 h72
    have old := cl_kW_old k0 k1
    have T2 : cl_T (cl_kW ck h.1) E m o h2 := by
      refine T.ext old (fun _ _ => rfl) hh (by omega) (fun a ha => ?_) (fun a b1 b2 => ?_) (cl_kW_D T.D T.2.2.2.2.2.2.2.2.2.2.1 (fun a ha => G.2.2.2.2.2.1 a ha) k0 k1 hh e3 e4)
      · by_cases x : a = h.1
        · omega
        · by_cases y : a = h.1 + 1
          · omega
          · have := T.2.2.2.2.2.2.2.2.2.2.1 a (fun hz => ha (by unfold cl_kW; rw [if_neg x, if_neg y]; exact hz))
            omega
      · have z := cl_kW_back (k := cl_kW ck h.1 a) (by omega) (by omega) rfl
        rw [← z] at b1 b2
        rw [hh a (T.2.2.2.2.2.2.2.2.2.2.1 a (by omega))]
        exact T.2.2.2.2.2.2.2.2.2.2.2.1 a b1 b2
    show pm_R _ 81 61 [.ref 16, .int a0, .int a1, .int a2, .ref lo, .ref ro] [.ref h.1, .ref 16] _ _
    refine pm_R_put pm_M81 (pc_q := 64) (fs_q := cl_f16 (va_up o 0 (some h.1))) rfl rfl rfl T2.e16 (by decide) (T2.lt (by decide)) (Nat.le_of_ble_eq_true rfl) rfl (Or.inl rfl) rfl rfl ?_
    have T3 := T2.puto16 (o_q := va_up o 0 (some h.1)) G2 rfl rfl ⟨fun b hb => by cases hb; unfold cl_kW; rw [if_pos rfl], T2.oo.2.1, T2.oo.2.2⟩
    refine cl_c81_t (d := d) G2 T3 Ba2 ol orr rfl (fun r m_q h_q T' F' W' => ?_)
    have F0 : cl_F ck [16] 2 23403 h (pm_set h2 16 (.inr (11, cl_f16 (va_up o 0 (some h.1))))) := by
      refine ⟨h72, by show h.1 ≤ h2.1; omega, by show h2.1 ≤ _; omega, by show h2.2.1 ≤ _; omega, fun a b1 b2 b3 => ?_⟩
      have : a ≠ 16 := fun e => b2 (by rw [e]; exact List.mem_singleton.mpr rfl)
      rw [← hh a b1]
      simp [pm_set, va_up, this]
    exact K r m_q (va_up o 0 (some h.1)) (cl_kW ck h.1) h_q (fun b hb => cl_kW_lt hb) G2 T' rfl rfl (fun c hc => by rw [ho] at hc; cases hc) ⟨h.1, rfl⟩ (F0.transG F' (fun a ha => cl_kW_lt ha) (by decide) (by decide) (by decide)) W'
  · refine pm_R_get pm_M81 (pc_q := 50) (v := .ref b) rfl rfl T.e16 (by decide) (T.lt (by decide)) (by show some (va_rf (o 0)) = _; rw [ho]; rfl) rfl ?_
    refine pm_R_br pm_M81 (pc_q := 64) rfl rfl ?_
    refine cl_c81_t (d := d) G T Ba2 ol orr ho (fun r m_q h_q T' F' W' => ?_)
    exact K r m_q o ck h_q (fun _ _ => rfl) G T' rfl rfl (fun c hc => ⟨hc, by have := F'.2.1; have := F'.2.2.1; omega, F'.2.2.2.1⟩) ⟨b, ho⟩ ((cl_F.refl (ck := ck) (A := [16]) (n := 0) (s := 0) T.1).trans F' (by decide) (by decide) (by decide)) W'
end
