theorem p1_W3 {d : Nat} {h : pm_H} {fs : List Value} {g0 : Nat → Int32} {Q : Option Value → pm_H → Prop} (hthis : h.2.2 72 = .inr (4, fs)) (hf : fs[4]? = some (.ref 77)) (hf2 : fs[6]? = some (.ref 74)) (hnr : h.2.2 77 = .inl (0, 10, .inl g0)) (hn : 78 ≤ h.1) (kk : ∀ (re : Int32) (g' : Nat → Int32), pm_R (d + 1) 44 191 [.ref 72, .ref 25, .int re, .int 10] [] (pm_set h 74 (.inl (0, 100, .inl g'))) Q) : ∀ (k hd : Nat) (re : Int32) (g : Nat → Int32), hd + k = 9 → pm_R (d + 1) 44 169 [.ref 72, .ref 25, .int re, .int (nI (hd + 1))] [] (pm_set h 74 (.inl (0, 100, .inl g))) Q := by
  intro k
  induction k with
  | zero =>
    intro hd re g hi
    have hi : hd = 9 := by omega
    subst hi
    refine pm_R_lo pm_M44 (pc' := 170) rfl rfl rfl ?_
    refine pm_R_op pm_M44 (pc' := 172) (st' := [.int 9, .int 10]) rfl rfl rfl ?_
    refine pm_R_br pm_M44 (pc' := 191) (st' := []) rfl rfl ?_
    exact kk re g
  | succ k ih =>
    intro hd re g hi
    have hlt : hd < 9 := by omega
    refine pm_R_lo pm_M44 (pc' := 170) (pm_q44_1 (Nat.le_of_ble_eq_true rfl)) rfl rfl ?_
    refine pm_R_op pm_M44 (pc' := 172) (st' := [.int 9, .int (nI (hd + 1))]) (pm_q44_1 (Nat.le_of_ble_eq_true rfl)) rfl rfl ?_
    refine pm_R_icmp pm_M44 (t := 191) (pc' := 175) (pm_q44_1 (Nat.le_of_ble_eq_true rfl)) rfl rfl (fun c_1 => absurd c_1 (nI_nlt (b := hd + 1) (a := 9) (by omega) (by decide))) (fun c_1 => ?_)
    refine pm_R_lo pm_M44 (pc' := 176) (pm_q44_1 (Nat.le_of_ble_eq_true rfl)) rfl rfl ?_
    refine pm_R_lo pm_M44 (pc' := 177) (pm_q44_1 (Nat.le_of_ble_eq_true rfl)) rfl rfl ?_
    refine pm_R_cv pm_M44 (pc' := 180) (a := 72) (ra := [.int (nI (hd + 1))]) (rest := []) (ls' := [.ref 72, .int (nI (hd + 1)), pm_no, pm_no, pm_no, pm_no, pm_no]) (pm_q44_1 (Nat.le_of_ble_eq_true rfl)) rfl (Or.inl rfl) pm_M46 hthis rfl (Nat.le_of_ble_eq_true rfl) (Nat.lt_of_lt_of_le (Nat.le_of_ble_eq_true rfl : 72 < 78) hn) rfl rfl (Nat.le_of_ble_eq_true rfl) rfl rfl ?_
    refine p1_wear hlt hthis hf hf2 hnr hn (fun g' b hb => ?_) g
    show pm_R _ 44 180 [.ref 72, .ref 25, .int re, .int (nI (hd + 1))] [.int b] _ _
    refine pm_R_ifc pm_M44 (t := 185) (pc' := 183) (pm_q44_1 (Nat.le_of_ble_eq_true rfl)) rfl rfl (fun c_2 => ?_) (fun c_2 => ?_)
    · have c_2 : b = 0 := c_2
      subst c_2
      show pm_R _ 44 185 [.ref 72, .ref 25, .int re, .int (nI (hd + 1))] [] _ _
      refine pm_R_lo pm_M44 (pc' := 188) (ls' := [.ref 72, .ref 25, .int re, .int ((nI (hd + 1)) + 1)]) (st' := []) (pm_q44_1 (Nat.le_of_ble_eq_true rfl)) rfl rfl ?_
      refine pm_R_br pm_M44 (pc' := 169) (pm_q44_1 (Nat.le_of_ble_eq_true rfl)) rfl ?_
      rw [nI_1]
      exact ih (hd + 1) _ _ (by omega)
    · refine pm_R_lo pm_M44 (pc' := 184) (pm_q44_1 (Nat.le_of_ble_eq_true rfl)) rfl rfl ?_
      refine pm_R_lo pm_M44 (pc' := 185) (ls' := [.ref 72, .ref 25, .int (nI (hd + 1)), .int (nI (hd + 1))]) (st' := []) (pm_q44_1 (Nat.le_of_ble_eq_true rfl)) rfl rfl ?_
      refine pm_R_lo pm_M44 (pc' := 188) (ls' := [.ref 72, .ref 25, .int (nI (hd + 1)), .int ((nI (hd + 1)) + 1)]) (st' := []) (pm_q44_1 (Nat.le_of_ble_eq_true rfl)) rfl rfl ?_
      refine pm_R_br pm_M44 (pc' := 169) (pm_q44_1 (Nat.le_of_ble_eq_true rfl)) rfl ?_
      rw [nI_1]
      exact ih (hd + 1) _ _ (by omega)
def p1_Q (r : Option Value) (h : pm_H) : Prop := r = some (.int 1) ∧ h.1 ≤ 600016 ∧ h.2.1 ≤ 7302250
/-- behind the call: the loop ends, the law answers 1 -/
theorem p1_tail {d : Nat} {xs : Nat → Int32} {h : pm_H} (hs : h.2.2 0 = .inl (0, 7, .inl xs)) (h0 : 0 < h.1) (h1 : h.1 ≤ 600016) (h2 : h.2.1 ≤ 7302250) : pm_R d 0 2121 [.ref 0, .ref 16, .ref 41, .int 0] [] h p1_Q := by
  refine pm_R_lo pm_M0 (pc' := 2124) (ls' := [.ref 0, .ref 16, .ref 41, .int 7]) (st' := []) (pm_q0_27 (Nat.le_of_ble_eq_true rfl)) rfl rfl ?_
  refine pm_R_br pm_M0 (pc' := 18) (pm_q0_27 (Nat.le_of_ble_eq_true rfl)) rfl ?_
  refine pm_R_lo pm_M0 (pc' := 19) rfl rfl rfl ?_
  refine pm_R_lo pm_M0 (pc' := 20) rfl rfl rfl ?_
  refine pm_R_alen0 pm_M0 (pc' := 21) (v := 7) rfl hs h0 rfl rfl ?_
  refine pm_R_op pm_M0 (pc' := 23) (st' := [.int 7, .int 7, .int 7]) rfl rfl rfl ?_
  refine pm_R_op pm_M0 (pc' := 24) (st' := [.int 0, .int 7]) rfl rfl rfl ?_
  refine pm_R_br pm_M0 (pc' := 2127) (st' := []) rfl rfl ?_
  refine pm_R_op pm_M0 (pc' := 2128) (st' := [.int 1]) (pm_q0_27 (Nat.le_of_ble_eq_true rfl)) rfl rfl ?_
  exact pm_R_ret pm_M0 (r := some (.int 1)) (pm_q0_27 (Nat.le_of_ble_eq_true rfl)) rfl ⟨rfl, h1, h2⟩
