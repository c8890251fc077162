/-! copyAll -/
def rf_by (x : Int32) : Int32 := x.toInt8.toInt32
theorem rf_x296t {d : Nat} {m : Nat → Int32} {w : Int64} {h : pm_H} {Q : Option Value → pm_H → Prop} {kf kt : Nat} {g : Nat → Int32} {f t : Int32} (h41 : h.2.2 41 = .inr (12, rf_fs m w)) (h72 : 72 ≤ h.1) (ea : h.2.2 42 = .inl (2, 2400, .inl g)) (hf : f.toInt = kf) (ht : t.toInt = kt) (hf4 : kf < 4) (ht4 : kt < 4) (hne : kf ≠ kt) (K : ∀ (h' : pm_H) (i : Int32), rf_G [42] h h' → h'.2.2 42 = .inl (2, 2400, .inl (rf_put g (fun i => rf_by (g (600 * kf + i))) (600 * kt) 600)) → pm_R (d + 1) 296 39 [.ref 41, .int f, .int t, .int i] [] h' Q) : pm_R (d + 1) 296 0 [.ref 41, .int f, .int t, pm_no] [] h Q := by
  have e600 : (600 : Int32).toInt = 600 := rfl
  have L : ∀ (u : Nat) (hc : pm_H) (i : Int32) (n : Nat), rf_G [42] h hc → hc.2.2 42 = .inl (2, 2400, .inl (rf_put g (fun i => rf_by (g (600 * kf + i))) (600 * kt) n)) → i.toInt = n → n ≤ 600 → 600 - n = u → pm_R (d + 1) 296 2 [.ref 41, .int f, .int t, .int i] [] hc Q := by
    intro u
    induction u with
    | zero =>
      intro hc i n G ec hi hn hu
      have : n = 600 := by omega
      subst this
      refine pm_R_lo pm_M296 (pc' := 3) rfl rfl rfl ?_
      refine pm_R_op pm_M296 (pc' := 6) (st' := [.int 600, .int i]) rfl rfl rfl ?_
      refine pm_R_icmp pm_M296 (t := 39) (pc' := 9) rfl rfl rfl (fun c => ?_) (fun c => absurd (Int32.le_iff_toInt_le.mpr (by omega)) c)
      exact K hc i G ec
    | succ u ih =>
      intro hc i n G ec hi hn hu
      have c41 : hc.2.2 41 = .inr (12, rf_fs m w) := (G.2.2 41 (by decide)).trans h41
      have c1 : hc.1 = h.1 := G.1
      refine pm_R_lo pm_M296 (pc' := 3) rfl rfl rfl ?_
      refine pm_R_op pm_M296 (pc' := 6) (st' := [.int 600, .int i]) rfl rfl rfl ?_
      refine pm_R_icmp pm_M296 (t := 39) (pc' := 9) rfl rfl rfl (fun c => absurd (Int32.le_iff_toInt_le.mp c) (by omega)) (fun c => ?_)
      refine pm_R_lo pm_M296 (pc' := 10) rfl rfl rfl ?_
      refine pm_R_get pm_M296 (pc' := 13) (v := .ref 42) rfl rfl c41 (by decide) (by omega) rfl rfl ?_
      refine pm_R_op pm_M296 (pc' := 16) (st' := [.int 600, .ref 42]) rfl rfl rfl ?_
      refine pm_R_lo pm_M296 (pc' := 17) rfl rfl rfl ?_
      refine pm_R_op pm_M296 (pc' := 18) (st' := [.int (600 * t), .ref 42]) rfl rfl rfl ?_
      refine pm_R_lo pm_M296 (pc' := 19) rfl rfl rfl ?_
      refine pm_R_op pm_M296 (pc' := 20) (st' := [.int (600 * t + i), .ref 42]) rfl rfl rfl ?_
      have e1 : ((600 : Int32) * t).toInt = 600 * t.toInt := by rw [Jvm.Kit.i32_mul (by rw [e600]; omega) (by rw [e600]; omega), e600]
      have e2 : (600 * t + i).toInt = ((600 * kt + n : Nat) : Int) := by rw [Jvm.Kit.i32_add (by omega) (by omega), e1, hi]; omega
      refine pm_R_lo pm_M296 (pc' := 21) rfl rfl rfl ?_
      refine pm_R_get pm_M296 (pc' := 24) (v := .ref 42) rfl rfl c41 (by decide) (by omega) rfl rfl ?_
      refine pm_R_op pm_M296 (pc' := 27) (st' := [.int 600, .ref 42, .int (600 * t + i), .ref 42]) rfl rfl rfl ?_
      refine pm_R_lo pm_M296 (pc' := 28) rfl rfl rfl ?_
      refine pm_R_op pm_M296 (pc' := 29) (st' := [.int (600 * f), .ref 42, .int (600 * t + i), .ref 42]) rfl rfl rfl ?_
      refine pm_R_lo pm_M296 (pc' := 30) rfl rfl rfl ?_
      refine pm_R_op pm_M296 (pc' := 31) (st' := [.int (600 * f + i), .ref 42, .int (600 * t + i), .ref 42]) rfl rfl rfl ?_
      have e4 : ((600 : Int32) * f).toInt = 600 * f.toInt := by rw [Jvm.Kit.i32_mul (by rw [e600]; omega) (by rw [e600]; omega), e600]
      have e5 : (600 * f + i).toInt = ((600 * kf + n : Nat) : Int) := by rw [Jvm.Kit.i32_add (by omega) (by omega), e4, hi]; omega
      have e6 : rf_put g (fun i => rf_by (g (600 * kf + i))) (600 * kt) n (600 * kf + n) = g (600 * kf + n) := by unfold rf_put; rw [if_neg (by omega)]
      refine pm_R_bald pm_M296 (pc' := 32) (v := g (600 * kf + n)) rfl ec (Or.inl rfl) (by decide) (by omega) (rf_inN e5 (by omega)) (by rw [rf_natN e5]; exact e6) rfl ?_
      refine pm_R_bast pm_M296 (pc' := 33) rfl ec (by decide) (by omega) (rf_inN e2 (by omega)) rfl ?_
      rw [rf_natN e2]
      show pm_R _ 296 33 _ _ (pm_set hc 42 (.inl (2, 2400, .inl (upd (rf_put g (fun i => rf_by (g (600 * kf + i))) (600 * kt) n) (600 * kt + n) ((fun i => rf_by (g (600 * kf + i))) n))))) _
      rw [rf_put_step g (fun i => rf_by (g (600 * kf + i))) (600 * kt) n]
      refine pm_R_lo pm_M296 (pc' := 36) (ls' := [.ref 41, .int f, .int t, .int (i + 1)]) (st' := []) rfl rfl rfl ?_
      refine pm_R_br pm_M296 (pc' := 2) rfl rfl ?_
      have e3 : (i + 1).toInt = ((n + 1 : Nat) : Int) := by
        have e0 : (1 : Int32).toInt = 1 := rfl
        rw [Jvm.Kit.i32_add (by omega) (by omega), hi, e0]; omega
      exact ih _ (i + 1) (n + 1) (G.trans (rf_G.one _ _ _) (fun k hk => hk)) (by simp [pm_set, va_up]) e3 (by omega) (by omega)
  refine pm_R_op pm_M296 (pc' := 1) (st' := [.int 0]) rfl rfl rfl ?_
  refine pm_R_lo pm_M296 (pc' := 2) (ls' := [.ref 41, .int f, .int t, .int 0]) (st' := []) rfl rfl rfl ?_
  exact L _ h 0 0 (rf_G.refl _ _) (by rw [rf_put_0]; exact ea) rfl (Nat.zero_le _) rfl
theorem rf_x296 {d : Nat} {m : Nat → Int32} {w : Int64} {h : pm_H} {Q : Option Value → pm_H → Prop} {kf kt : Nat} {g g43 g44 g45 g46 g47 g48 g49 g50 : Nat → Int32} {f t : Int32} (h41 : h.2.2 41 = .inr (12, rf_fs m w)) (h72 : 72 ≤ h.1) (e42 : h.2.2 42 = .inl (2, 2400, .inl g)) (e43 : h.2.2 43 = .inl (0, 4, .inl g43)) (e44 : h.2.2 44 = .inl (0, 4, .inl g44)) (e45 : h.2.2 45 = .inl (0, 4, .inl g45)) (e46 : h.2.2 46 = .inl (0, 16, .inl g46)) (e47 : h.2.2 47 = .inl (0, 800, .inl g47)) (e48 : h.2.2 48 = .inl (0, 156, .inl g48)) (e49 : h.2.2 49 = .inl (0, 1216, .inl g49)) (e50 : h.2.2 50 = .inl (0, 200, .inl g50)) (hf : f.toInt = kf) (ht : t.toInt = kt) (hf4 : kf < 4) (ht4 : kt < 4) (hne : kf ≠ kt) (K : ∀ h', rf_G [42, 43, 44, 45, 46, 47, 48, 49, 50] h h' → h'.2.2 42 = .inl (2, 2400, .inl (rf_put g (fun i => rf_by (g (600 * kf + i))) (600 * kt) 600)) → h'.2.2 43 = .inl (0, 4, .inl (rf_put g43 (fun i => g43 (1 * kf + i)) (1 * kt) 1)) → h'.2.2 44 = .inl (0, 4, .inl (rf_put g44 (fun i => g44 (1 * kf + i)) (1 * kt) 1)) → h'.2.2 45 = .inl (0, 4, .inl (rf_put g45 (fun i => g45 (1 * kf + i)) (1 * kt) 1)) → h'.2.2 46 = .inl (0, 16, .inl (rf_put g46 (fun i => g46 (4 * kf + i)) (4 * kt) 4)) → h'.2.2 47 = .inl (0, 800, .inl (rf_put g47 (fun i => g47 (200 * kf + i)) (200 * kt) 200)) → h'.2.2 48 = .inl (0, 156, .inl (rf_put g48 (fun i => g48 (39 * kf + i)) (39 * kt) 39)) → h'.2.2 49 = .inl (0, 1216, .inl (rf_put g49 (fun i => g49 (304 * kf + i)) (304 * kt) 304)) → h'.2.2 50 = .inl (0, 200, .inl (rf_put g50 (fun i => g50 (50 * kf + i)) (50 * kt) 50)) → Q none h') : pm_R (d + 1) 296 0 [.ref 41, .int f, .int t, pm_no] [] h Q := by
  refine rf_x296t h41 h72 e42 hf ht hf4 ht4 hne (fun h0 i G0 c42 => ?_)
  have k0 : h0.2.2 41 = .inr (12, rf_fs m w) := (G0.2.2 41 (by decide)).trans h41
  have s0 : h0.1 = h.1 := G0.1
  have a0 : h0.2.2 43 = .inl (0, 4, .inl g43) := ((G0.2.2 43 (by decide)).trans e43)
  refine pm_R_lo pm_M296 (pc' := 40) rfl rfl rfl ?_
  refine pm_R_get pm_M296 (pc' := 43) (v := .ref 43) rfl rfl k0 (by decide) (by omega) rfl rfl ?_
  refine pm_R_op pm_M296 (pc' := 44) (st' := [.int 1, .ref 43]) rfl rfl rfl ?_
  refine pm_R_lo pm_M296 (pc' := 45) rfl rfl rfl ?_
  refine pm_R_lo pm_M296 (pc' := 46) rfl rfl rfl ?_
  refine pm_R_cs pm_M296 (pc' := 49) (ra := [.int t, .int f, .int 1, .ref 43]) (rest := []) (ls' := [.ref 43, .int 1, .int f, .int t, pm_no]) rfl rfl (Or.inl rfl) pm_M297 rfl rfl (Nat.le_of_ble_eq_true rfl) rfl rfl ?_
  refine rf_x297 (W := 1) (kf := kf) (kt := kt) (by omega) (by decide) (by decide) a0 rfl hf ht (by omega) (by omega) (by decide) hne (fun h1 G1 b0 => ?_)
  show pm_R _ 296 49 [.ref 41, .int f, .int t, .int i] [] h1 _
  have k1 : h1.2.2 41 = .inr (12, rf_fs m w) := (G1.2.2 41 (by decide)).trans k0
  have s1 : h1.1 = h.1 := G1.1.trans s0
  have a1 : h1.2.2 44 = .inl (0, 4, .inl g44) := ((G1.2.2 44 (by decide)).trans ((G0.2.2 44 (by decide)).trans e44))
  refine pm_R_lo pm_M296 (pc' := 50) rfl rfl rfl ?_
  refine pm_R_get pm_M296 (pc' := 53) (v := .ref 44) rfl rfl k1 (by decide) (by omega) rfl rfl ?_
  refine pm_R_op pm_M296 (pc' := 54) (st' := [.int 1, .ref 44]) rfl rfl rfl ?_
  refine pm_R_lo pm_M296 (pc' := 55) rfl rfl rfl ?_
  refine pm_R_lo pm_M296 (pc' := 56) rfl rfl rfl ?_
  refine pm_R_cs pm_M296 (pc' := 59) (ra := [.int t, .int f, .int 1, .ref 44]) (rest := []) (ls' := [.ref 44, .int 1, .int f, .int t, pm_no]) rfl rfl (Or.inl rfl) pm_M297 rfl rfl (Nat.le_of_ble_eq_true rfl) rfl rfl ?_
  refine rf_x297 (W := 1) (kf := kf) (kt := kt) (by omega) (by decide) (by decide) a1 rfl hf ht (by omega) (by omega) (by decide) hne (fun h2 G2 b1 => ?_)
  show pm_R _ 296 59 [.ref 41, .int f, .int t, .int i] [] h2 _
  have k2 : h2.2.2 41 = .inr (12, rf_fs m w) := (G2.2.2 41 (by decide)).trans k1
  have s2 : h2.1 = h.1 := G2.1.trans s1
  have a2 : h2.2.2 45 = .inl (0, 4, .inl g45) := ((G2.2.2 45 (by decide)).trans ((G1.2.2 45 (by decide)).trans ((G0.2.2 45 (by decide)).trans e45)))
  refine pm_R_lo pm_M296 (pc' := 60) rfl rfl rfl ?_
  refine pm_R_get pm_M296 (pc' := 63) (v := .ref 45) rfl rfl k2 (by decide) (by omega) rfl rfl ?_
  refine pm_R_op pm_M296 (pc' := 64) (st' := [.int 1, .ref 45]) rfl rfl rfl ?_
  refine pm_R_lo pm_M296 (pc' := 65) rfl rfl rfl ?_
  refine pm_R_lo pm_M296 (pc' := 66) rfl rfl rfl ?_
  refine pm_R_cs pm_M296 (pc' := 69) (ra := [.int t, .int f, .int 1, .ref 45]) (rest := []) (ls' := [.ref 45, .int 1, .int f, .int t, pm_no]) rfl rfl (Or.inl rfl) pm_M297 rfl rfl (Nat.le_of_ble_eq_true rfl) rfl rfl ?_
  refine rf_x297 (W := 1) (kf := kf) (kt := kt) (by omega) (by decide) (by decide) a2 rfl hf ht (by omega) (by omega) (by decide) hne (fun h3 G3 b2 => ?_)
  show pm_R _ 296 69 [.ref 41, .int f, .int t, .int i] [] h3 _
  have k3 : h3.2.2 41 = .inr (12, rf_fs m w) := (G3.2.2 41 (by decide)).trans k2
  have s3 : h3.1 = h.1 := G3.1.trans s2
  have a3 : h3.2.2 46 = .inl (0, 16, .inl g46) := ((G3.2.2 46 (by decide)).trans ((G2.2.2 46 (by decide)).trans ((G1.2.2 46 (by decide)).trans ((G0.2.2 46 (by decide)).trans e46))))
  refine pm_R_lo pm_M296 (pc' := 70) rfl rfl rfl ?_
  refine pm_R_get pm_M296 (pc' := 73) (v := .ref 46) rfl rfl k3 (by decide) (by omega) rfl rfl ?_
  refine pm_R_op pm_M296 (pc' := 74) (st' := [.int 4, .ref 46]) rfl rfl rfl ?_
  refine pm_R_lo pm_M296 (pc' := 75) rfl rfl rfl ?_
  refine pm_R_lo pm_M296 (pc' := 76) rfl rfl rfl ?_
  refine pm_R_cs pm_M296 (pc' := 79) (ra := [.int t, .int f, .int 4, .ref 46]) (rest := []) (ls' := [.ref 46, .int 4, .int f, .int t, pm_no]) rfl rfl (Or.inl rfl) pm_M297 rfl rfl (Nat.le_of_ble_eq_true rfl) rfl rfl ?_
  refine rf_x297 (W := 4) (kf := kf) (kt := kt) (by omega) (by decide) (by decide) a3 rfl hf ht (by omega) (by omega) (by decide) hne (fun h4 G4 b3 => ?_)
  show pm_R _ 296 79 [.ref 41, .int f, .int t, .int i] [] h4 _
  have k4 : h4.2.2 41 = .inr (12, rf_fs m w) := (G4.2.2 41 (by decide)).trans k3
  have s4 : h4.1 = h.1 := G4.1.trans s3
  have a4 : h4.2.2 47 = .inl (0, 800, .inl g47) := ((G4.2.2 47 (by decide)).trans ((G3.2.2 47 (by decide)).trans ((G2.2.2 47 (by decide)).trans ((G1.2.2 47 (by decide)).trans ((G0.2.2 47 (by decide)).trans e47)))))
  refine pm_R_lo pm_M296 (pc' := 80) rfl rfl rfl ?_
  refine pm_R_get pm_M296 (pc' := 83) (v := .ref 47) rfl rfl k4 (by decide) (by omega) rfl rfl ?_
  refine pm_R_op pm_M296 (pc' := 86) (st' := [.int 200, .ref 47]) rfl rfl rfl ?_
  refine pm_R_lo pm_M296 (pc' := 87) rfl rfl rfl ?_
  refine pm_R_lo pm_M296 (pc' := 88) rfl rfl rfl ?_
  refine pm_R_cs pm_M296 (pc' := 91) (ra := [.int t, .int f, .int 200, .ref 47]) (rest := []) (ls' := [.ref 47, .int 200, .int f, .int t, pm_no]) rfl rfl (Or.inl rfl) pm_M297 rfl rfl (Nat.le_of_ble_eq_true rfl) rfl rfl ?_
  refine rf_x297 (W := 200) (kf := kf) (kt := kt) (by omega) (by decide) (by decide) a4 rfl hf ht (by omega) (by omega) (by decide) hne (fun h5 G5 b4 => ?_)
  show pm_R _ 296 91 [.ref 41, .int f, .int t, .int i] [] h5 _
  have k5 : h5.2.2 41 = .inr (12, rf_fs m w) := (G5.2.2 41 (by decide)).trans k4
  have s5 : h5.1 = h.1 := G5.1.trans s4
  have a5 : h5.2.2 48 = .inl (0, 156, .inl g48) := ((G5.2.2 48 (by decide)).trans ((G4.2.2 48 (by decide)).trans ((G3.2.2 48 (by decide)).trans ((G2.2.2 48 (by decide)).trans ((G1.2.2 48 (by decide)).trans ((G0.2.2 48 (by decide)).trans e48))))))
  refine pm_R_lo pm_M296 (pc' := 92) rfl rfl rfl ?_
  refine pm_R_get pm_M296 (pc' := 95) (v := .ref 48) rfl rfl k5 (by decide) (by omega) rfl rfl ?_
  refine pm_R_op pm_M296 (pc' := 97) (st' := [.int 39, .ref 48]) rfl rfl rfl ?_
  refine pm_R_lo pm_M296 (pc' := 98) rfl rfl rfl ?_
  refine pm_R_lo pm_M296 (pc' := 99) rfl rfl rfl ?_
  refine pm_R_cs pm_M296 (pc' := 102) (ra := [.int t, .int f, .int 39, .ref 48]) (rest := []) (ls' := [.ref 48, .int 39, .int f, .int t, pm_no]) rfl rfl (Or.inl rfl) pm_M297 rfl rfl (Nat.le_of_ble_eq_true rfl) rfl rfl ?_
  refine rf_x297 (W := 39) (kf := kf) (kt := kt) (by omega) (by decide) (by decide) a5 rfl hf ht (by omega) (by omega) (by decide) hne (fun h6 G6 b5 => ?_)
  show pm_R _ 296 102 [.ref 41, .int f, .int t, .int i] [] h6 _
  have k6 : h6.2.2 41 = .inr (12, rf_fs m w) := (G6.2.2 41 (by decide)).trans k5
  have s6 : h6.1 = h.1 := G6.1.trans s5
  have a6 : h6.2.2 49 = .inl (0, 1216, .inl g49) := ((G6.2.2 49 (by decide)).trans ((G5.2.2 49 (by decide)).trans ((G4.2.2 49 (by decide)).trans ((G3.2.2 49 (by decide)).trans ((G2.2.2 49 (by decide)).trans ((G1.2.2 49 (by decide)).trans ((G0.2.2 49 (by decide)).trans e49)))))))
  refine pm_R_lo pm_M296 (pc' := 103) rfl rfl rfl ?_
  refine pm_R_get pm_M296 (pc' := 106) (v := .ref 49) (pm_q296_1 (Nat.le_of_ble_eq_true rfl)) rfl k6 (by decide) (by omega) rfl rfl ?_
  refine pm_R_op pm_M296 (pc' := 109) (st' := [.int 304, .ref 49]) (pm_q296_1 (Nat.le_of_ble_eq_true rfl)) rfl rfl ?_
  refine pm_R_lo pm_M296 (pc' := 110) (pm_q296_1 (Nat.le_of_ble_eq_true rfl)) rfl rfl ?_
  refine pm_R_lo pm_M296 (pc' := 111) (pm_q296_1 (Nat.le_of_ble_eq_true rfl)) rfl rfl ?_
  refine pm_R_cs pm_M296 (pc' := 114) (ra := [.int t, .int f, .int 304, .ref 49]) (rest := []) (ls' := [.ref 49, .int 304, .int f, .int t, pm_no]) (pm_q296_1 (Nat.le_of_ble_eq_true rfl)) rfl (Or.inl rfl) pm_M297 rfl rfl (Nat.le_of_ble_eq_true rfl) rfl rfl ?_
  refine rf_x297 (W := 304) (kf := kf) (kt := kt) (by omega) (by decide) (by decide) a6 rfl hf ht (by omega) (by omega) (by decide) hne (fun h7 G7 b6 => ?_)
  show pm_R _ 296 114 [.ref 41, .int f, .int t, .int i] [] h7 _
  have k7 : h7.2.2 41 = .inr (12, rf_fs m w) := (G7.2.2 41 (by decide)).trans k6
  have s7 : h7.1 = h.1 := G7.1.trans s6
  have a7 : h7.2.2 50 = .inl (0, 200, .inl g50) := ((G7.2.2 50 (by decide)).trans ((G6.2.2 50 (by decide)).trans ((G5.2.2 50 (by decide)).trans ((G4.2.2 50 (by decide)).trans ((G3.2.2 50 (by decide)).trans ((G2.2.2 50 (by decide)).trans ((G1.2.2 50 (by decide)).trans ((G0.2.2 50 (by decide)).trans e50))))))))
  refine pm_R_lo pm_M296 (pc' := 115) (pm_q296_1 (Nat.le_of_ble_eq_true rfl)) rfl rfl ?_
  refine pm_R_get pm_M296 (pc' := 118) (v := .ref 50) (pm_q296_1 (Nat.le_of_ble_eq_true rfl)) rfl k7 (by decide) (by omega) rfl rfl ?_
  refine pm_R_op pm_M296 (pc' := 120) (st' := [.int 50, .ref 50]) (pm_q296_1 (Nat.le_of_ble_eq_true rfl)) rfl rfl ?_
  refine pm_R_lo pm_M296 (pc' := 121) (pm_q296_1 (Nat.le_of_ble_eq_true rfl)) rfl rfl ?_
  refine pm_R_lo pm_M296 (pc' := 122) (pm_q296_1 (Nat.le_of_ble_eq_true rfl)) rfl rfl ?_
  refine pm_R_cs pm_M296 (pc' := 125) (ra := [.int t, .int f, .int 50, .ref 50]) (rest := []) (ls' := [.ref 50, .int 50, .int f, .int t, pm_no]) (pm_q296_1 (Nat.le_of_ble_eq_true rfl)) rfl (Or.inl rfl) pm_M297 rfl rfl (Nat.le_of_ble_eq_true rfl) rfl rfl ?_
  refine rf_x297 (W := 50) (kf := kf) (kt := kt) (by omega) (by decide) (by decide) a7 rfl hf ht (by omega) (by omega) (by decide) hne (fun h8 G8 b7 => ?_)
  show pm_R _ 296 125 [.ref 41, .int f, .int t, .int i] [] h8 _
  have G : rf_G [42, 43, 44, 45, 46, 47, 48, 49, 50] h h8 := (rf_G.refl [42, 43, 44, 45, 46, 47, 48, 49, 50] h) |>.trans G0 (by decide) |>.trans G1 (by decide) |>.trans G2 (by decide) |>.trans G3 (by decide) |>.trans G4 (by decide) |>.trans G5 (by decide) |>.trans G6 (by decide) |>.trans G7 (by decide) |>.trans G8 (by decide)
  exact pm_R_ret pm_M296 (r := none) (pm_q296_1 (Nat.le_of_ble_eq_true rfl)) rfl (K h8 G ((G8.2.2 42 (by decide)).trans ((G7.2.2 42 (by decide)).trans ((G6.2.2 42 (by decide)).trans ((G5.2.2 42 (by decide)).trans ((G4.2.2 42 (by decide)).trans ((G3.2.2 42 (by decide)).trans ((G2.2.2 42 (by decide)).trans ((G1.2.2 42 (by decide)).trans c42)))))))) ((G8.2.2 43 (by decide)).trans ((G7.2.2 43 (by decide)).trans ((G6.2.2 43 (by decide)).trans ((G5.2.2 43 (by decide)).trans ((G4.2.2 43 (by decide)).trans ((G3.2.2 43 (by decide)).trans ((G2.2.2 43 (by decide)).trans b0))))))) ((G8.2.2 44 (by decide)).trans ((G7.2.2 44 (by decide)).trans ((G6.2.2 44 (by decide)).trans ((G5.2.2 44 (by decide)).trans ((G4.2.2 44 (by decide)).trans ((G3.2.2 44 (by decide)).trans b1)))))) ((G8.2.2 45 (by decide)).trans ((G7.2.2 45 (by decide)).trans ((G6.2.2 45 (by decide)).trans ((G5.2.2 45 (by decide)).trans ((G4.2.2 45 (by decide)).trans b2))))) ((G8.2.2 46 (by decide)).trans ((G7.2.2 46 (by decide)).trans ((G6.2.2 46 (by decide)).trans ((G5.2.2 46 (by decide)).trans b3)))) ((G8.2.2 47 (by decide)).trans ((G7.2.2 47 (by decide)).trans ((G6.2.2 47 (by decide)).trans b4))) ((G8.2.2 48 (by decide)).trans ((G7.2.2 48 (by decide)).trans b5)) ((G8.2.2 49 (by decide)).trans b6) b7)
theorem rf_put_U {g : Nat → Int32} {lo hi : Int} {s p n : Nat} (hg : ∀ j, sf_B lo hi (g j)) : ∀ j, sf_B lo hi (rf_put g (fun i => g (s + i)) p n j) := by
  intro j
  unfold rf_put
  split
  · exact hg _
  · exact hg _
theorem rf_put_M {g : Nat → Int32} {lo hi : Nat → Int} {P c kf kt W : Nat} (hW : W = P * c) (hg : ∀ j, sf_B (lo (j % P)) (hi (j % P)) (g j)) : ∀ j, sf_B (lo (j % P)) (hi (j % P)) (rf_put g (fun i => g (W * kf + i)) (W * kt) W j) := by
  intro j
  unfold rf_put
  by_cases h : W * kt ≤ j ∧ j < W * kt + W
  · rw [if_pos h]
    have e1 : j % P = (j - W * kt) % P := by
      have e2 : j = P * (c * kt) + (j - W * kt) := by rw [← Nat.mul_assoc, ← hW]; omega
      rw [e2, Nat.mul_add_mod]
      congr 1
      rw [← Nat.mul_assoc, ← hW]; omega
    have e3 : (W * kf + (j - W * kt)) % P = (j - W * kt) % P := by rw [hW, Nat.mul_assoc, Nat.mul_add_mod]
    have := hg (W * kf + (j - W * kt))
    rw [e3, ← e1] at this
    exact this
  · rw [if_neg h]; exact hg j
theorem rf_c296 {d : Nat} {m : Nat → Int32} {w : Int64} {h : pm_H} {Q : Option Value → pm_H → Prop} {a0 a1 : Int32} (T : rf_T m w h) (Ba0 : sf_B 0 3 a0) (Ba1 : sf_B 0 3 a1) (hne : ¬ a0.toInt = a1.toInt) (K : ∀ (m' : Nat → Int32) (w' : Int64) (h' : pm_H), rf_T m' w' h' → rf_G [42, 43, 44, 45, 46, 47, 48, 49, 50] h h' → rf_W [] m m' → (∀ g : Nat → Int32, h.2.2 43 = .inl (0, 4, .inl g) → h'.2.2 43 = .inl (0, 4, .inl (upd g a1.toNatClampNeg (g a0.toNatClampNeg)))) → Q none h') : pm_R (d + 1) 296 0 [.ref 41, .int a0, .int a1, pm_no] [] h Q := by
  have f1 := Ba0.1; have f2 := Ba0.2; have t1 := Ba1.1; have t2 := Ba1.2
  obtain ⟨g42, e42⟩ := T.2.2.2.1 42 (by decide) (by decide)
  obtain ⟨g43, e43, b43⟩ := T.2.2.2.1 43 (by decide) (by decide)
  obtain ⟨g44, e44, b44⟩ := T.2.2.2.1 44 (by decide) (by decide)
  obtain ⟨g45, e45, b45⟩ := T.2.2.2.1 45 (by decide) (by decide)
  obtain ⟨g46, e46, b46⟩ := T.2.2.2.1 46 (by decide) (by decide)
  obtain ⟨g47, e47, b47⟩ := T.2.2.2.1 47 (by decide) (by decide)
  obtain ⟨g48, e48, b48⟩ := T.2.2.2.1 48 (by decide) (by decide)
  obtain ⟨g49, e49, b49⟩ := T.2.2.2.1 49 (by decide) (by decide)
  obtain ⟨g50, e50, b50⟩ := T.2.2.2.1 50 (by decide) (by decide)
  refine rf_x296 (kf := a0.toInt.toNat) (kt := a1.toInt.toNat) T.2.1 T.1 e42 e43 e44 e45 e46 e47 e48 e49 e50 (by omega) (by omega) (by omega) (by omega) (by omega) (fun h2 G c42 c43 c44 c45 c46 c47 c48 c49 c50 => ?_)
  refine K m w h2 ⟨by rw [G.1]; exact T.1, (G.2.2 41 (by decide)).trans T.2.1, T.2.2.1, fun a h1 h3 => ?_, ?_⟩ G (rf_W.refl _ _) ?_
  · by_cases hb : a < 51
    · match a, h1, hb with
      | 42, _, _ => rw [c42]; exact ⟨_, rfl⟩
      | 43, _, _ => rw [c43]; exact ⟨_, rfl, rf_put_U b43⟩
      | 44, _, _ => rw [c44]; exact ⟨_, rfl, rf_put_U b44⟩
      | 45, _, _ => rw [c45]; exact ⟨_, rfl, rf_put_U b45⟩
      | 46, _, _ => rw [c46]; exact ⟨_, rfl, rf_put_M (P := 4) (c := 1) (lo := fun _ => 0) (hi := fun r => if r = 1 then 3 else 2) rfl b46⟩
      | 47, _, _ => rw [c47]; exact ⟨_, rfl, rf_put_M (P := 100) (c := 2) rfl b47⟩
      | 48, _, _ => rw [c48]; exact ⟨_, rfl, rf_put_M (P := 13) (c := 3) (lo := fun _ => 0) (hi := fun r => if r = 0 then 12 else 9) rfl b48⟩
      | 49, _, _ => rw [c49]; exact ⟨_, rfl, rf_put_M (P := 152) (c := 2) rfl b49⟩
      | 50, _, _ => rw [c50]; exact ⟨_, rfl, rf_put_M (P := 25) (c := 2) rfl b50⟩
      | n + 51, _, h => exact absurd h (by omega)
    · rw [G.2.2 a (by simp; omega)]; exact T.2.2.2.1 a h1 h3
  · intro x y ex ey c r hc hr hlt
    rw [c46] at ex
    rw [c48] at ey
    cases ex
    cases ey
    by_cases hk : c = a1.toInt.toNat
    · subst hk
      have z1 : rf_put g46 (fun i => g46 (4 * a0.toInt.toNat + i)) (4 * a1.toInt.toNat) 4 (4 * a1.toInt.toNat + 1) = g46 (4 * a0.toInt.toNat + 1) := by
        unfold rf_put; rw [if_pos (by omega)]; congr 1; omega
      have z2 : rf_put g48 (fun i => g48 (39 * a0.toInt.toNat + i)) (39 * a1.toInt.toNat) 39 (39 * a1.toInt.toNat + 13 * r) = g48 (39 * a0.toInt.toNat + 13 * r) := by
        unfold rf_put; rw [if_pos (by omega)]; congr 1; omega
      rw [z1] at hlt
      rw [z2]
      exact T.2.2.2.2 g46 g48 e46 e48 _ r (by omega) hr hlt
    · have z1 : rf_put g46 (fun i => g46 (4 * a0.toInt.toNat + i)) (4 * a1.toInt.toNat) 4 (4 * c + 1) = g46 (4 * c + 1) := by
        unfold rf_put; rw [if_neg (by omega)]
      have z2 : rf_put g48 (fun i => g48 (39 * a0.toInt.toNat + i)) (39 * a1.toInt.toNat) 39 (39 * c + 13 * r) = g48 (39 * c + 13 * r) := by
        unfold rf_put; rw [if_neg (by omega)]
      rw [z1] at hlt
      rw [z2]
      exact T.2.2.2.2 g46 g48 e46 e48 c r hc hr hlt
  · intro g eg
    rw [e43] at eg
    cases eg
    rw [c43]
    congr 4
    funext j
    have k0 : a0.toNatClampNeg = a0.toInt.toNat := rfl
    have k1 : a1.toNatClampNeg = a1.toInt.toNat := rfl
    unfold rf_put upd
    by_cases hj : j = a1.toNatClampNeg
    · rw [if_pos hj, if_pos (by omega)]
      show g43 (1 * a0.toInt.toNat + (j - 1 * a1.toInt.toNat)) = g43 a0.toNatClampNeg
      have e9 : 1 * a0.toInt.toNat + (j - 1 * a1.toInt.toNat) = a0.toNatClampNeg := by omega
      rw [e9]
    · rw [if_neg hj, if_neg (by omega)]
