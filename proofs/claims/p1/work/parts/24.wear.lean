theorem p1_W1 {d : Nat} {h : pm_H} {fs : List Value} {g0 : Nat → Int32} {x1 fu x3 be : Int32} {Q : Option Value → pm_H → Prop} (hthis : h.2.2 72 = .inr (4, fs)) (hf : fs[4]? = some (.ref 77)) (hnr : h.2.2 77 = .inl (0, 10, .inl g0)) (hn : 78 ≤ h.1) (kk : ∀ bi : Int32, pm_R d 46 67 [.ref 72, .int x1, .int fu, .int x3, .int be, .int bi, .int 10] [] h Q) : ∀ (k j : Nat) (bi : Int32), j + k = 10 → pm_R d 46 32 [.ref 72, .int x1, .int fu, .int x3, .int be, .int bi, .int (nI j)] [] h Q := by
  intro k
  induction k with
  | zero =>
    intro j bi hi
    have hi : j = 10 := by omega
    subst hi
    refine pm_R_lo pm_M46 (pc' := 34) rfl rfl rfl ?_
    refine pm_R_op pm_M46 (pc' := 36) (st' := [.int 10, .int 10]) rfl rfl rfl ?_
    refine pm_R_br pm_M46 (pc' := 67) (st' := []) rfl rfl ?_
    exact kk bi
  | succ k ih =>
    intro j bi hi
    have hlt : j < 10 := by omega
    refine pm_R_lo pm_M46 (pc' := 34) rfl rfl rfl ?_
    refine pm_R_op pm_M46 (pc' := 36) (st' := [.int 10, .int (nI j)]) rfl rfl rfl ?_
    refine pm_R_icmp pm_M46 (t := 67) (pc' := 39) rfl rfl rfl (fun c_1 => absurd c_1 (nI_ge hlt (by decide))) (fun c_1 => ?_)
    refine pm_R_lo pm_M46 (pc' := 41) rfl rfl rfl ?_
    refine pm_R_lo pm_M46 (pc' := 43) rfl rfl rfl ?_
    refine pm_R_op pm_M46 (pc' := 44) (st' := [.int (((be).toUInt32 >>> (((nI j)).toUInt32 &&& Int32.toUInt32 31)).toInt32)]) rfl rfl rfl ?_
    refine pm_R_op pm_M46 (pc' := 45) (st' := [.int 1, .int (((be).toUInt32 >>> (((nI j)).toUInt32 &&& Int32.toUInt32 31)).toInt32)]) rfl rfl rfl ?_
    refine pm_R_op pm_M46 (pc' := 46) (st' := [.int ((((be).toUInt32 >>> (((nI j)).toUInt32 &&& Int32.toUInt32 31)).toInt32) &&& 1)]) rfl rfl rfl ?_
    refine pm_R_ifc pm_M46 (t := 61) (pc' := 49) rfl rfl rfl (fun c_2 => ?_) (fun c_2 => ?_)
    · refine pm_R_lo pm_M46 (pc' := 64) (ls' := [.ref 72, .int x1, .int fu, .int x3, .int be, .int bi, .int ((nI j) + 1)]) (st' := []) rfl rfl rfl ?_
      refine pm_R_br pm_M46 (pc' := 32) rfl rfl ?_
      rw [nI_1]
      exact ih (j + 1) _ (by omega)
    · refine pm_R_lo pm_M46 (pc' := 51) rfl rfl rfl ?_
      refine pm_R_lo pm_M46 (pc' := 52) rfl rfl rfl ?_
      refine pm_R_get pm_M46 (pc' := 55) (v := .ref 77) rfl rfl hthis (Nat.le_of_ble_eq_true rfl) (Nat.lt_of_lt_of_le (Nat.le_of_ble_eq_true rfl : 72 < 78) hn) hf rfl ?_
      refine pm_R_lo pm_M46 (pc' := 57) rfl rfl rfl ?_
      obtain ⟨v_3, ev_3⟩ : ∃ y, g0 ((nI j)).toNatClampNeg = y := ⟨_, rfl⟩
      refine pm_R_iald pm_M46 (pc' := 58) (v := v_3) rfl hnr (Nat.lt_of_lt_of_le (Nat.le_of_ble_eq_true rfl : 77 < 78) hn) (pm_in_nI hlt (by decide)) ev_3 rfl ?_
      refine pm_R_op pm_M46 (pc' := 59) (st' := [.int (bi ||| v_3)]) rfl rfl rfl ?_
      refine pm_R_lo pm_M46 (pc' := 61) (ls' := [.ref 72, .int x1, .int fu, .int x3, .int be, .int (bi ||| v_3), .int (nI j)]) (st' := []) rfl rfl rfl ?_
      refine pm_R_lo pm_M46 (pc' := 64) (ls' := [.ref 72, .int x1, .int fu, .int x3, .int be, .int (bi ||| v_3), .int ((nI j) + 1)]) (st' := []) rfl rfl rfl ?_
      refine pm_R_br pm_M46 (pc' := 32) rfl rfl ?_
      rw [nI_1]
      exact ih (j + 1) _ (by omega)
theorem p1_W2 {d hd : Nat} {h : pm_H} {fs : List Value} {g0 : Nat → Int32} {Q : Option Value → pm_H → Prop} (hhd : hd < 9) (hthis : h.2.2 72 = .inr (4, fs)) (hf : fs[4]? = some (.ref 77)) (hf2 : fs[6]? = some (.ref 74)) (hnr : h.2.2 77 = .inl (0, 10, .inl g0)) (hn : 78 ≤ h.1) (kk : ∀ (g' : Nat → Int32) (b : Int32), (b = 0 ∨ b = 1) → Q (some (.int b)) (pm_set h 74 (.inl (0, 100, .inl g')))) : ∀ (k i : Nat) (g : Nat → Int32) (fu : Int32) (v4 v5 v6 : Value), i + k = 10 → (fu = 0 ∨ fu = 1) → pm_R d 46 4 [.ref 72, .int (nI (hd + 1)), .int fu, .int (nI i), v4, v5, v6] [] (pm_set h 74 (.inl (0, 100, .inl g))) Q := by
  intro k
  induction k with
  | zero =>
    intro i g fu v4 v5 v6 hi hfu
    have hi : i = 10 := by omega
    subst hi
    refine pm_R_lo pm_M46 (pc' := 5) rfl rfl rfl ?_
    refine pm_R_op pm_M46 (pc' := 7) (st' := [.int 10, .int 10]) rfl rfl rfl ?_
    refine pm_R_br pm_M46 (pc' := 101) (st' := []) rfl rfl ?_
    refine pm_R_lo pm_M46 (pc' := 102) rfl rfl rfl ?_
    rcases hfu with rfl | rfl
    · exact pm_R_ret pm_M46 (r := some (.int 0)) rfl rfl (kk g 0 (Or.inl rfl))
    · exact pm_R_ret pm_M46 (r := some (.int 1)) rfl rfl (kk g 1 (Or.inr rfl))
  | succ k ih =>
    intro i g fu v4 v5 v6 hi hfu
    have hlt : i < 10 := by omega
    refine pm_R_lo pm_M46 (pc' := 5) rfl rfl rfl ?_
    refine pm_R_op pm_M46 (pc' := 7) (st' := [.int 10, .int (nI i)]) rfl rfl rfl ?_
    refine pm_R_icmp pm_M46 (t := 101) (pc' := 10) rfl rfl rfl (fun c_1 => absurd c_1 (nI_ge hlt (by decide))) (fun c_1 => ?_)
    refine pm_R_lo pm_M46 (pc' := 11) rfl rfl rfl ?_
    refine pm_R_get pm_M46 (pc' := 14) (v := .ref 74) rfl rfl hthis (Nat.le_of_ble_eq_true rfl) (Nat.lt_of_lt_of_le (Nat.le_of_ble_eq_true rfl : 72 < 78) hn) hf2 rfl ?_
    refine pm_R_lo pm_M46 (pc' := 15) rfl rfl rfl ?_
    refine pm_R_op pm_M46 (pc' := 16) (st' := [.int 1, .int (nI (hd + 1)), .ref 74]) rfl rfl rfl ?_
    refine pm_R_op pm_M46 (pc' := 17) (st' := [.int ((nI (hd + 1)) - 1), .ref 74]) rfl rfl rfl ?_
    refine pm_R_op pm_M46 (pc' := 19) (st' := [.int 10, .int ((nI (hd + 1)) - 1), .ref 74]) rfl rfl rfl ?_
    refine pm_R_op pm_M46 (pc' := 20) (st' := [.int (((nI (hd + 1)) - 1) * 10), .ref 74]) rfl rfl rfl ?_
    refine pm_R_lo pm_M46 (pc' := 21) rfl rfl rfl ?_
    refine pm_R_op pm_M46 (pc' := 22) (st' := [.int ((((nI (hd + 1)) - 1) * 10) + (nI i)), .ref 74]) rfl rfl rfl ?_
    obtain ⟨v_2, ev_2⟩ : ∃ y, g (((((nI (hd + 1)) - 1) * 10) + (nI i))).toNatClampNeg = y := ⟨_, rfl⟩
    refine pm_R_iald pm_M46 (pc' := 23) (v := v_2) rfl rfl (Nat.lt_of_lt_of_le (Nat.le_of_ble_eq_true rfl : 74 < 78) hn) (pm_in_of (k := hd * 10 + i) (by rw [nI_pred, show nI hd * (10 : Int32) = nI (hd * 10) from pk_mul hd 10, nI_add]) (by omega) (by decide)) ev_2 rfl ?_
    refine pm_R_lo pm_M46 (pc' := 25) (ls' := [.ref 72, .int (nI (hd + 1)), .int fu, .int (nI i), .int v_2, v5, v6]) (st' := []) rfl rfl rfl ?_
    refine pm_R_lo pm_M46 (pc' := 27) rfl rfl rfl ?_
    refine pm_R_lo pm_M46 (pc' := 29) (ls' := [.ref 72, .int (nI (hd + 1)), .int fu, .int (nI i), .int v_2, .int v_2, v6]) (st' := []) rfl rfl rfl ?_
    refine pm_R_op pm_M46 (pc' := 30) (st' := [.int 0]) rfl rfl rfl ?_
    refine pm_R_lo pm_M46 (pc' := 32) (ls' := [.ref 72, .int (nI (hd + 1)), .int fu, .int (nI i), .int v_2, .int v_2, .int 0]) (st' := []) rfl rfl rfl ?_
    refine p1_W1 (h := pm_set h 74 (.inl (0, 100, .inl g))) (g0 := g0) hthis hf hnr hn (fun bi => ?_) 10 0 _ rfl
    refine pm_R_lo pm_M46 (pc' := 68) rfl rfl rfl ?_
    refine pm_R_get pm_M46 (pc' := 71) (v := .ref 74) rfl rfl hthis (Nat.le_of_ble_eq_true rfl) (Nat.lt_of_lt_of_le (Nat.le_of_ble_eq_true rfl : 72 < 78) hn) hf2 rfl ?_
    refine pm_R_lo pm_M46 (pc' := 72) rfl rfl rfl ?_
    refine pm_R_op pm_M46 (pc' := 74) (st' := [.int 10, .int (nI (hd + 1)), .ref 74]) rfl rfl rfl ?_
    refine pm_R_op pm_M46 (pc' := 75) (st' := [.int ((nI (hd + 1)) * 10), .ref 74]) rfl rfl rfl ?_
    refine pm_R_lo pm_M46 (pc' := 76) rfl rfl rfl ?_
    refine pm_R_op pm_M46 (pc' := 77) (st' := [.int (((nI (hd + 1)) * 10) + (nI i)), .ref 74]) rfl rfl rfl ?_
    refine pm_R_lo pm_M46 (pc' := 79) rfl rfl rfl ?_
    refine pm_R_iast pm_M46 (pc' := 80) rfl rfl (Nat.le_of_ble_eq_true rfl) (Nat.lt_of_lt_of_le (Nat.le_of_ble_eq_true rfl : 74 < 78) hn) (pm_in_of (k := (hd + 1) * 10 + i) (by rw [show nI (hd + 1) * (10 : Int32) = nI ((hd + 1) * 10) from pk_mul (hd + 1) 10, nI_add]) (by omega) (by decide)) rfl ?_
    refine pm_R_lo pm_M46 (pc' := 81) rfl rfl rfl ?_
    refine pm_R_lo pm_M46 (pc' := 83) rfl rfl rfl ?_
    refine pm_R_lo pm_M46 (pc' := 85) rfl rfl rfl ?_
    refine pm_R_icmp pm_M46 (t := 92) (pc' := 88) rfl rfl rfl (fun c_3 => ?_) (fun c_3 => ?_)
    · refine pm_R_op pm_M46 (pc' := 93) (st' := [.int 0, .int fu]) rfl rfl rfl ?_
      refine pm_R_op pm_M46 (pc' := 94) (st' := [.int (fu ||| 0)]) rfl rfl rfl ?_
      refine pm_R_lo pm_M46 (pc' := 95) (ls' := [.ref 72, .int (nI (hd + 1)), .int (fu ||| 0), .int (nI i), .int v_2, .int bi, .int 10]) (st' := []) rfl rfl rfl ?_
      refine pm_R_lo pm_M46 (pc' := 98) (ls' := [.ref 72, .int (nI (hd + 1)), .int (fu ||| 0), .int ((nI i) + 1), .int v_2, .int bi, .int 10]) (st' := []) rfl rfl rfl ?_
      refine pm_R_br pm_M46 (pc' := 4) rfl rfl ?_
      refine pm_R_heq (pm_set_set _ _ _ _) ?_
      rw [nI_1]
      exact ih (i + 1) _ _ _ _ _ (by omega) (by rcases hfu with rfl | rfl <;> first | exact Or.inl rfl | exact Or.inr rfl)
    · refine pm_R_op pm_M46 (pc' := 89) (st' := [.int 1, .int fu]) rfl rfl rfl ?_
      refine pm_R_br pm_M46 (pc' := 93) rfl rfl ?_
      refine pm_R_op pm_M46 (pc' := 94) (st' := [.int (fu ||| 1)]) rfl rfl rfl ?_
      refine pm_R_lo pm_M46 (pc' := 95) (ls' := [.ref 72, .int (nI (hd + 1)), .int (fu ||| 1), .int (nI i), .int v_2, .int bi, .int 10]) (st' := []) rfl rfl rfl ?_
      refine pm_R_lo pm_M46 (pc' := 98) (ls' := [.ref 72, .int (nI (hd + 1)), .int (fu ||| 1), .int ((nI i) + 1), .int v_2, .int bi, .int 10]) (st' := []) rfl rfl rfl ?_
      refine pm_R_br pm_M46 (pc' := 4) rfl rfl ?_
      refine pm_R_heq (pm_set_set _ _ _ _) ?_
      rw [nI_1]
      exact ih (i + 1) _ _ _ _ _ (by omega) (by rcases hfu with rfl | rfl <;> first | exact Or.inl rfl | exact Or.inr rfl)
theorem p1_wear {d hd : Nat} {h : pm_H} {fs : List Value} {g0 : Nat → Int32} {Q : Option Value → pm_H → Prop} (hhd : hd < 9) (hthis : h.2.2 72 = .inr (4, fs)) (hf : fs[4]? = some (.ref 77)) (hf2 : fs[6]? = some (.ref 74)) (hnr : h.2.2 77 = .inl (0, 10, .inl g0)) (hn : 78 ≤ h.1) (kk : ∀ (g' : Nat → Int32) (b : Int32), (b = 0 ∨ b = 1) → Q (some (.int b)) (pm_set h 74 (.inl (0, 100, .inl g')))) (g : Nat → Int32) : pm_R d 46 0 [.ref 72, .int (nI (hd + 1)), pm_no, pm_no, pm_no, pm_no, pm_no] [] (pm_set h 74 (.inl (0, 100, .inl g))) Q := by
  refine pm_R_op pm_M46 (pc' := 1) (st' := [.int 0]) rfl rfl rfl ?_
  refine pm_R_lo pm_M46 (pc' := 2) (ls' := [.ref 72, .int (nI (hd + 1)), .int 0, pm_no, pm_no, pm_no, pm_no]) (st' := []) rfl rfl rfl ?_
  refine pm_R_op pm_M46 (pc' := 3) (st' := [.int 0]) rfl rfl rfl ?_
  refine pm_R_lo pm_M46 (pc' := 4) (ls' := [.ref 72, .int (nI (hd + 1)), .int 0, .int 0, pm_no, pm_no, pm_no]) (st' := []) rfl rfl rfl ?_
  exact p1_W2 hhd hthis hf hf2 hnr hn kk 10 0 g 0 _ _ _ rfl (Or.inl rfl)
