theorem p1_L1 {d : Nat} {h : pm_H} {fs : List Value} {x1 : Int32} {Q : Option Value → pm_H → Prop} (hthis : h.2.2 41 = .inr (12, fs)) (hf : fs[19]? = some (.ref 51)) (hn : 72 ≤ h.1) (kk : ∀ g' : Nat → Int32, pm_R d 178 22 [.ref 41, .int x1, .int 152, pm_no] [] (pm_set h 51 (.inl (0, 152, .inl g'))) Q) : ∀ (k i : Nat) (g : Nat → Int32), i + k = 152 → pm_R d 178 2 [.ref 41, .int x1, .int (nI i), pm_no] [] (pm_set h 51 (.inl (0, 152, .inl g))) Q := by
  intro k
  induction k with
  | zero =>
    intro i g hi
    have hi : i = 152 := by omega
    subst hi
    refine pm_R_lo pm_M178 (pc' := 3) rfl rfl rfl ?_
    refine pm_R_op pm_M178 (pc' := 6) (st' := [.int 152, .int 152]) rfl rfl rfl ?_
    refine pm_R_br pm_M178 (pc' := 22) (st' := []) rfl rfl ?_
    exact kk g
  | succ k ih =>
    intro i g hi
    have hlt : i < 152 := by omega
    refine pm_R_lo pm_M178 (pc' := 3) rfl rfl rfl ?_
    refine pm_R_op pm_M178 (pc' := 6) (st' := [.int 152, .int (nI i)]) rfl rfl rfl ?_
    refine pm_R_icmp pm_M178 (t := 22) (pc' := 9) rfl rfl rfl (fun c_1 => absurd c_1 (nI_ge hlt (by decide))) (fun c_1 => ?_)
    refine pm_R_lo pm_M178 (pc' := 10) rfl rfl rfl ?_
    refine pm_R_get pm_M178 (pc' := 13) (v := .ref 51) rfl rfl hthis (Nat.le_of_ble_eq_true rfl) (Nat.lt_of_lt_of_le (Nat.le_of_ble_eq_true rfl : 41 < 72) hn) hf rfl ?_
    refine pm_R_lo pm_M178 (pc' := 14) rfl rfl rfl ?_
    refine pm_R_op pm_M178 (pc' := 15) (st' := [.int 0, .int (nI i), .ref 51]) rfl rfl rfl ?_
    refine pm_R_iast pm_M178 (pc' := 16) rfl rfl (Nat.le_of_ble_eq_true rfl) (Nat.lt_of_lt_of_le (Nat.le_of_ble_eq_true rfl : 51 < 72) hn) (pm_in_nI hlt (by decide)) rfl ?_
    refine pm_R_lo pm_M178 (pc' := 19) (ls' := [.ref 41, .int x1, .int ((nI i) + 1), pm_no]) (st' := []) rfl rfl rfl ?_
    refine pm_R_br pm_M178 (pc' := 2) rfl rfl ?_
    refine pm_R_heq (pm_set_set _ _ _ _) ?_
    rw [nI_1]
    exact ih (i + 1) _ (by omega)
theorem p1_L2 {d a w N : Nat} {h : pm_H} {fs : List Value} {t : Nat → Int32} {Q : Option Value → pm_H → Prop} (hthis : h.2.2 41 = .inr (12, fs)) (hf : fs[19]? = some (.ref 51)) (ht : h.2.2 51 = .inl (0, 152, .inl t)) (hn : 72 ≤ h.1) (ha1 : 16 ≤ a) (ha2 : a < h.1) (ha3 : 41 ≠ a) (ha4 : 51 ≠ a) (hw : w ≤ 152) (hN : w ≤ N) (hN2 : N < 2 ^ 31) (kk : ∀ g' : Nat → Int32, Q none (pm_set h a (.inl (0, N, .inl g')))) : ∀ (k i : Nat) (g : Nat → Int32), i + k = w → pm_R d 193 3 [.ref 41, .ref a, .int (nI w), .int 0, .int (nI i)] [] (pm_set h a (.inl (0, N, .inl g))) Q := by
  intro k
  induction k with
  | zero =>
    intro i g hi
    have hi : i = w := by omega
    subst hi
    refine pm_R_lo pm_M193 (pc' := 5) rfl rfl rfl ?_
    refine pm_R_lo pm_M193 (pc' := 6) rfl rfl rfl ?_
    refine pm_R_icmp pm_M193 (t := 30) (pc' := 9) rfl rfl rfl (fun c => ?_) (fun c => absurd (nI_le (Nat.le_refl _) (by omega)) c)
    exact pm_R_ret pm_M193 (r := none) rfl rfl (kk g)
  | succ k ih =>
    intro i g hi
    have hlt : i < w := by omega
    have hthis' : (pm_set h a (.inl (0, N, .inl g))).2.2 41 = .inr (12, fs) := (pm_set_ne ha3).trans hthis
    have ht' : (pm_set h a (.inl (0, N, .inl g))).2.2 51 = .inl (0, 152, .inl t) := (pm_set_ne ha4).trans ht
    have hn : 72 ≤ (pm_set h a (.inl (0, N, .inl g))).1 := hn
    refine pm_R_lo pm_M193 (pc' := 5) rfl rfl rfl ?_
    refine pm_R_lo pm_M193 (pc' := 6) rfl rfl rfl ?_
    refine pm_R_icmp pm_M193 (t := 30) (pc' := 9) rfl rfl rfl (fun c_1 => absurd c_1 (nI_ge hlt (by omega))) (fun c_1 => ?_)
    refine pm_R_lo pm_M193 (pc' := 10) rfl rfl rfl ?_
    refine pm_R_lo pm_M193 (pc' := 11) rfl rfl rfl ?_
    refine pm_R_lo pm_M193 (pc' := 12) rfl rfl rfl ?_
    refine pm_R_op pm_M193 (pc' := 13) (st' := [.int ((nI w) * 0), .ref a]) rfl rfl rfl ?_
    refine pm_R_lo pm_M193 (pc' := 15) rfl rfl rfl ?_
    refine pm_R_op pm_M193 (pc' := 16) (st' := [.int (((nI w) * 0) + (nI i)), .ref a]) rfl rfl rfl ?_
    refine pm_R_lo pm_M193 (pc' := 17) rfl rfl rfl ?_
    refine pm_R_get pm_M193 (pc' := 20) (v := .ref 51) rfl rfl hthis' (Nat.le_of_ble_eq_true rfl) (Nat.lt_of_lt_of_le (Nat.le_of_ble_eq_true rfl : 41 < 72) hn) hf rfl ?_
    refine pm_R_lo pm_M193 (pc' := 22) rfl rfl rfl ?_
    obtain ⟨v_2, ev_2⟩ : ∃ y, t ((nI i)).toNatClampNeg = y := ⟨_, rfl⟩
    refine pm_R_iald pm_M193 (pc' := 23) (v := v_2) rfl ht' (Nat.lt_of_lt_of_le (Nat.le_of_ble_eq_true rfl : 51 < 72) hn) (pm_in_nI (n := 152) (by omega) (by decide)) ev_2 rfl ?_
    refine pm_R_iast pm_M193 (pc' := 24) rfl (pm_set_get _ _ _) ha1 ha2 (pm_in_of (k := i) (by rw [show nI w * 0 = 0 from Int32.mul_zero, Int32.zero_add]) (by omega) hN2) rfl ?_
    refine pm_R_lo pm_M193 (pc' := 27) (ls' := [.ref 41, .ref a, .int (nI w), .int 0, .int ((nI i) + 1)]) (st' := []) rfl rfl rfl ?_
    refine pm_R_br pm_M193 (pc' := 3) rfl rfl ?_
    refine pm_R_heq (pm_set_set _ _ _ _) ?_
    rw [nI_1]
    exact ih (i + 1) _ (by omega)
theorem p1_L3 {d a w to N : Nat} {h : pm_H} {Q : Option Value → pm_H → Prop} (ha1 : 16 ≤ a) (ha2 : a < h.1) (hN : w * to + w ≤ N) (hN2 : N < 2 ^ 31) (kk : ∀ g' : Nat → Int32, Q none (pm_set h a (.inl (0, N, .inl g')))) : ∀ (k i : Nat) (g : Nat → Int32), i + k = w → pm_R d 297 3 [.ref a, .int (nI w), .int 0, .int (nI to), .int (nI i)] [] (pm_set h a (.inl (0, N, .inl g))) Q := by
  have hw0 : w ≤ N := by omega
  intro k
  induction k with
  | zero =>
    intro i g hi
    have hi : i = w := by omega
    subst hi
    refine pm_R_lo pm_M297 (pc' := 5) rfl rfl rfl ?_
    refine pm_R_lo pm_M297 (pc' := 6) rfl rfl rfl ?_
    refine pm_R_icmp pm_M297 (t := 31) (pc' := 9) rfl rfl rfl (fun c => ?_) (fun c => absurd (nI_le (Nat.le_refl _) (by omega)) c)
    exact pm_R_ret pm_M297 (r := none) rfl rfl (kk g)
  | succ k ih =>
    intro i g hi
    have hlt : i < w := by omega
    refine pm_R_lo pm_M297 (pc' := 5) rfl rfl rfl ?_
    refine pm_R_lo pm_M297 (pc' := 6) rfl rfl rfl ?_
    refine pm_R_icmp pm_M297 (t := 31) (pc' := 9) rfl rfl rfl (fun c_1 => absurd c_1 (nI_ge hlt (by omega))) (fun c_1 => ?_)
    refine pm_R_lo pm_M297 (pc' := 10) rfl rfl rfl ?_
    refine pm_R_lo pm_M297 (pc' := 11) rfl rfl rfl ?_
    refine pm_R_lo pm_M297 (pc' := 12) rfl rfl rfl ?_
    refine pm_R_op pm_M297 (pc' := 13) (st' := [.int ((nI w) * (nI to)), .ref a]) rfl rfl rfl ?_
    refine pm_R_lo pm_M297 (pc' := 15) rfl rfl rfl ?_
    refine pm_R_op pm_M297 (pc' := 16) (st' := [.int (((nI w) * (nI to)) + (nI i)), .ref a]) rfl rfl rfl ?_
    refine pm_R_lo pm_M297 (pc' := 17) rfl rfl rfl ?_
    refine pm_R_lo pm_M297 (pc' := 18) rfl rfl rfl ?_
    refine pm_R_lo pm_M297 (pc' := 19) rfl rfl rfl ?_
    refine pm_R_op pm_M297 (pc' := 20) (st' := [.int ((nI w) * 0), .ref a, .int (((nI w) * (nI to)) + (nI i)), .ref a]) rfl rfl rfl ?_
    refine pm_R_lo pm_M297 (pc' := 22) rfl rfl rfl ?_
    refine pm_R_op pm_M297 (pc' := 23) (st' := [.int (((nI w) * 0) + (nI i)), .ref a, .int (((nI w) * (nI to)) + (nI i)), .ref a]) rfl rfl rfl ?_
    obtain ⟨v_2, ev_2⟩ : ∃ y, g ((((nI w) * 0) + (nI i))).toNatClampNeg = y := ⟨_, rfl⟩
    refine pm_R_iald pm_M297 (pc' := 24) (v := v_2) rfl (pm_set_get _ _ _) ha2 (pm_in_of (k := i) (by rw [show nI w * 0 = 0 from Int32.mul_zero, Int32.zero_add]) (by omega) hN2) ev_2 rfl ?_
    refine pm_R_iast pm_M297 (pc' := 25) rfl (pm_set_get _ _ _) ha1 ha2 (pm_in_of (k := w * to + i) (by rw [pk_mul, nI_add]) (by omega) hN2) rfl ?_
    refine pm_R_lo pm_M297 (pc' := 28) (ls' := [.ref a, .int (nI w), .int 0, .int (nI to), .int ((nI i) + 1)]) (st' := []) rfl rfl rfl ?_
    refine pm_R_br pm_M297 (pc' := 3) rfl rfl ?_
    refine pm_R_heq (pm_set_set _ _ _ _) ?_
    rw [nI_1]
    exact ih (i + 1) _ (by omega)
theorem p1_L4 {d to : Nat} {h : pm_H} {fs : List Value} {Q : Option Value → pm_H → Prop} (hthis : h.2.2 41 = .inr (12, fs)) (hf : fs[1]? = some (.ref 42)) (hn : 72 ≤ h.1) (hto : to ≤ 3) (kk : ∀ g' : Nat → Int32, pm_R d 296 39 [.ref 41, .int 0, .int (nI to), .int 600] [] (pm_set h 42 (.inl (2, 2400, .inl g'))) Q) : ∀ (k i : Nat) (g : Nat → Int32), i + k = 600 → pm_R d 296 2 [.ref 41, .int 0, .int (nI to), .int (nI i)] [] (pm_set h 42 (.inl (2, 2400, .inl g))) Q := by
  intro k
  induction k with
  | zero =>
    intro i g hi
    have hi : i = 600 := by omega
    subst hi
    refine pm_R_lo pm_M296 (pc' := 3) rfl rfl rfl ?_
    refine pm_R_op pm_M296 (pc' := 6) (st' := [.int 600, .int 600]) rfl rfl rfl ?_
    refine pm_R_br pm_M296 (pc' := 39) (st' := []) rfl rfl ?_
    exact kk g
  | succ k ih =>
    intro i g hi
    have hlt : i < 600 := by omega
    refine pm_R_lo pm_M296 (pc' := 3) rfl rfl rfl ?_
    refine pm_R_op pm_M296 (pc' := 6) (st' := [.int 600, .int (nI i)]) rfl rfl rfl ?_
    refine pm_R_icmp pm_M296 (t := 39) (pc' := 9) rfl rfl rfl (fun c_1 => absurd c_1 (nI_ge hlt (by decide))) (fun c_1 => ?_)
    refine pm_R_lo pm_M296 (pc' := 10) rfl rfl rfl ?_
    refine pm_R_get pm_M296 (pc' := 13) (v := .ref 42) rfl rfl hthis (Nat.le_of_ble_eq_true rfl) (Nat.lt_of_lt_of_le (Nat.le_of_ble_eq_true rfl : 41 < 72) hn) hf rfl ?_
    refine pm_R_op pm_M296 (pc' := 16) (st' := [.int 600, .ref 42]) rfl rfl rfl ?_
    refine pm_R_lo pm_M296 (pc' := 17) rfl rfl rfl ?_
    refine pm_R_op pm_M296 (pc' := 18) (st' := [.int (600 * (nI to)), .ref 42]) rfl rfl rfl ?_
    refine pm_R_lo pm_M296 (pc' := 19) rfl rfl rfl ?_
    refine pm_R_op pm_M296 (pc' := 20) (st' := [.int ((600 * (nI to)) + (nI i)), .ref 42]) rfl rfl rfl ?_
    refine pm_R_lo pm_M296 (pc' := 21) rfl rfl rfl ?_
    refine pm_R_get pm_M296 (pc' := 24) (v := .ref 42) rfl rfl hthis (Nat.le_of_ble_eq_true rfl) (Nat.lt_of_lt_of_le (Nat.le_of_ble_eq_true rfl : 41 < 72) hn) hf rfl ?_
    refine pm_R_op pm_M296 (pc' := 27) (st' := [.int 600, .ref 42, .int ((600 * (nI to)) + (nI i)), .ref 42]) rfl rfl rfl ?_
    refine pm_R_lo pm_M296 (pc' := 28) rfl rfl rfl ?_
    refine pm_R_op pm_M296 (pc' := 29) (st' := [.int 0, .ref 42, .int ((600 * (nI to)) + (nI i)), .ref 42]) rfl rfl rfl ?_
    refine pm_R_lo pm_M296 (pc' := 30) rfl rfl rfl ?_
    refine pm_R_op pm_M296 (pc' := 31) (st' := [.int (0 + (nI i)), .ref 42, .int ((600 * (nI to)) + (nI i)), .ref 42]) rfl rfl rfl ?_
    obtain ⟨v_2, ev_2⟩ : ∃ y, g ((0 + (nI i))).toNatClampNeg = y := ⟨_, rfl⟩
    refine pm_R_bald pm_M296 (pc' := 32) (v := v_2) rfl rfl (Or.inl rfl) (Nat.le_of_ble_eq_true rfl) (Nat.lt_of_lt_of_le (Nat.le_of_ble_eq_true rfl : 42 < 72) hn) (pm_in_of (k := i) (by rw [Int32.zero_add]) (by omega) (by decide)) ev_2 rfl ?_
    refine pm_R_bast pm_M296 (pc' := 33) rfl rfl (Nat.le_of_ble_eq_true rfl) (Nat.lt_of_lt_of_le (Nat.le_of_ble_eq_true rfl : 42 < 72) hn) (pm_in_of (k := 600 * to + i) (by rw [show (600 : Int32) * nI to = nI (600 * to) from pk_mul 600 to, nI_add]) (by omega) (by decide)) rfl ?_
    refine pm_R_lo pm_M296 (pc' := 36) (ls' := [.ref 41, .int 0, .int (nI to), .int ((nI i) + 1)]) (st' := []) rfl rfl rfl ?_
    refine pm_R_br pm_M296 (pc' := 2) rfl rfl ?_
    refine pm_R_heq (pm_set_set _ _ _ _) ?_
    rw [nI_1]
    exact ih (i + 1) _ (by omega)
