section
set_option maxRecDepth 100000 in
set_option maxHeartbeats 4000000 in
/-- java/util/Arrays.fill -/
theorem cl_c71_w {d : Nat} {ck : cl_K} {E : Nat → pm_E} {m : Nat → Int32} {o : Nat → Option Nat} {h : pm_H} {Q : Option Value → pm_H → Prop} {b : Nat} {a1 : Int64} (G : cl_G ck E) (T : cl_T ck E m o h) (hk : ck b = 22) {xb : pm_E} (eW : h.2.2 b = xb) (K : ∀ (m_q : Nat → Int32) (h_q : pm_H), cl_T ck E m_q o h_q → cl_F ck [] 0 0 h h_q → rf_W [] m m_q → h_q.2.2 b = xb → Q none h_q) : pm_R (d + 0) 71 0 [.ref (b + 1), .long a1, pm_no, pm_no, pm_no] [] h Q := by
  refine pm_R_op pm_M71 (pc_q := 1) (st_q := [.int 0]) rfl rfl rfl ?_
  refine pm_R_lo pm_M71 (pc_q := 2) (ls_q := [.ref (b + 1), .long a1, pm_no, .int 0, pm_no]) (st_q := []) rfl rfl rfl ?_
  refine pm_R_lo pm_M71 (pc_q := 3) rfl rfl rfl ?_
  obtain ⟨f1, e2⟩ := T.D.2.2.1 _ (G.w23 hk)
  refine pm_R_alen pm_M71 (pc_q := 4) (v := 23400) rfl e2 (G.ge (G.w23 hk) (by decide)) (T.al (G.w23 hk) (by decide)) (by decide) rfl rfl ?_
  refine pm_R_lo pm_M71 (pc_q := 6) (ls_q := [.ref (b + 1), .long a1, pm_no, .int 0, .int 23400]) (st_q := []) rfl rfl rfl ?_
  have L_82 : ∀ (N : Nat) (h_82 : pm_H) (m_82 : Nat → Int32) (x3_82 : Int32), cl_T ck E m_82 o h_82 → cl_F ck [] 0 0 h h_82 → rf_W [] m m_82 → sf_B 0 23400 x3_82 → h_82.2.2 b = xb → (23400 - x3_82.toInt).toNat = N → pm_R (d + 0) 71 6 [.ref (b + 1), .long a1, pm_no, .int x3_82, .int 23400] [] h_82 Q := by
    intro N
    induction N using Nat.strongRecOn with
    | ind N ih_82 =>
      intro h_82 m_82 x3_82 T_82 F_82 W_82 Bx3_82 X_82 hN_82
      have W85 : rf_W [] m m_82 := (rf_W.refl [] m).trans W_82 (by decide)
      refine pm_R_lo pm_M71 (pc_q := 7) rfl rfl rfl ?_
      refine pm_R_lo pm_M71 (pc_q := 9) rfl rfl rfl ?_
      refine pm_R_icmp pm_M71 (t := 22) (pc_q := 12) rfl rfl rfl (fun c86 => ?_) (fun c86 => ?_)
      · have B87 : sf_B 23400 23400 x3_82 := sf_leR c86 sf_k23400 Bx3_82
        exact pm_R_ret pm_M71 (r := none) rfl rfl (K m_82 h_82 T_82 F_82 W85 X_82)
      · have B88 : sf_B 0 23399 x3_82 := sf_ltL (Int32.not_le.mp c86) Bx3_82 sf_k23400
        refine pm_R_lo pm_M71 (pc_q := 13) rfl rfl rfl ?_
        refine pm_R_lo pm_M71 (pc_q := 14) rfl rfl rfl ?_
        refine pm_R_lo pm_M71 (pc_q := 15) rfl rfl rfl ?_
        obtain ⟨f89, e90⟩ := T_82.D.2.2.1 _ (G.w23 hk)
        refine cl_R_wst G pm_M71 T_82 (pc_q := 16) rfl hk e90 (sf_in B88 (by decide) (by decide)) rfl (fun h91 T92 F93 hb94 => ?_)
        have eW95 := hb94.trans X_82
        have F96 := F_82.trans (N := 0) (S := 0) F93 (by decide) (by decide) (by decide)
        refine sf_R_iinc pm_M71 (pc_q := 19) (ls_q := fun z => [.ref (b + 1), .long a1, pm_no, .int z, .int 23400]) rfl B88 rfl (by decide) (by decide) (by decide) (fun _ => rfl) rfl (fun z97 e98 B99 => ?_)
        show pm_R _ 71 19 [.ref (b + 1), .long a1, pm_no, .int z97, .int 23400] [] _ _
        refine pm_R_br pm_M71 (pc_q := 6) rfl rfl ?_
        exact ih_82 _ (sf_up hN_82 e98 B88 (by decide) (by decide)) h91 m_82 z97 T92 F96 W_82 (sf_weak B99 (by decide) (by decide)) eW95 rfl
  exact L_82 _ h m 0 T (cl_F.refl (ck := ck) (A := []) (n := 0) (s := 0) T.1) (rf_W.refl _ _) (sf_weak sf_k0 (by decide) (by decide)) eW rfl

set_option maxRecDepth 100000 in
set_option maxHeartbeats 4000000 in
/-- SilentTable$WayChart.countFor -/
theorem cl_c84 {d : Nat} {ck : cl_K} {E : Nat → pm_E} {m : Nat → Int32} {o : Nat → Option Nat} {h : pm_H} {Q : Option Value → pm_H → Prop} {b : Nat} (G : cl_G ck E) (T : cl_T ck E m o h) (hk : ck b = 22) {lo ro : Nat} (ol : o 1 = some lo) (orr : o 2 = some ro) (K : ∀ (m_q : Nat → Int32) (h_q : pm_H), cl_T ck E m_q o h_q → cl_F ck [] 0 0 h h_q → rf_W [] m m_q → h_q.2.2 b = .inr (10, [.ref (b + 1), .ref lo, .ref ro]) → Q none h_q) : pm_R (d + 3) 84 0 [.ref b, .ref 33, pm_no, pm_no] [] h Q := by
  obtain ⟨l, r, eW, kl, kr⟩ := T.D.2.1 b hk
  have hkl := T.oo.2.1 _ ol
  have hkr := T.oo.2.2 _ orr
  refine pm_R_lo pm_M84 (pc_q := 1) rfl rfl rfl ?_
  refine pm_R_get pm_M84 (pc_q := 4) (v := va_rf l) rfl rfl eW (G.ge hk (by decide)) (T.al hk (by decide)) rfl rfl ?_
  refine pm_R_lo pm_M84 (pc_q := 5) rfl rfl rfl ?_
  refine pm_R_get pm_M84 (pc_q := 8) (v := .ref lo) rfl rfl T.e33 (by decide) (T.lt (by decide)) (by show some (va_rf (o 1)) = _; rw [ol]; rfl) rfl ?_
  refine cl_R_acmp pm_M84 (t := 23) (pc_q := 11) rfl rfl rfl (G.ge hkl (by decide)) (fun z hz => G.ge (kl z hz) (by decide)) (fun c1 => ?_) (fun c1 => ?_)
  · skip
    refine pm_R_lo pm_M84 (pc_q := 24) rfl rfl rfl ?_
    refine pm_R_lo pm_M84 (pc_q := 25) rfl rfl rfl ?_
    refine pm_R_get pm_M84 (pc_q := 28) (v := .ref lo) rfl rfl T.e33 (by decide) (T.lt (by decide)) (by show some (va_rf (o 1)) = _; rw [ol]; rfl) rfl ?_
    refine cl_R_wput1 G pm_M84 T (l := (some lo)) (r := r) (pc_q := 31) rfl rfl rfl (by decide) rfl rfl hk eW (fun z hz => by cases hz; exact hkl) kr rfl rfl (fun h2 T3 F4 e5 => ?_)
    have F6 := (cl_F.refl (ck := ck) (A := []) (n := 0) (s := 0) T.1).trans (N := 0) (S := 0) F4 (by decide) (by decide) (by decide)
    refine pm_R_lo pm_M84 (pc_q := 32) rfl rfl rfl ?_
    refine pm_R_lo pm_M84 (pc_q := 33) rfl rfl rfl ?_
    refine pm_R_get pm_M84 (pc_q := 36) (v := .ref ro) rfl rfl T3.e33 (by decide) (T3.lt (by decide)) (by show some (va_rf (o 2)) = _; rw [orr]; rfl) rfl ?_
    refine cl_R_wput2 G pm_M84 T3 (l := (some lo)) (r := (some ro)) (pc_q := 39) rfl rfl rfl (by decide) rfl rfl hk e5 (fun z hz => by cases hz; exact hkl) (fun z hz => by cases hz; exact hkr) rfl rfl (fun h7 T8 F9 e10 => ?_)
    have F11 := F6.trans (N := 0) (S := 0) F9 (by decide) (by decide) (by decide)
    refine pm_R_lo pm_M84 (pc_q := 40) rfl rfl rfl ?_
    refine pm_R_get pm_M84 (pc_q := 43) (v := .ref (b + 1)) rfl rfl e10 (G.ge hk (by decide)) (T8.al hk (by decide)) rfl rfl ?_
    refine pm_R_op pm_M84 (pc_q := 44) (st_q := [.long 0, .ref (b + 1)]) rfl rfl rfl ?_
    refine pm_R_cs pm_M84 (pc_q := 47) (ra := [.long 0, .ref (b + 1)]) (rest := []) (ls_q := [.ref (b + 1), .long 0, pm_no, pm_no, pm_no]) rfl rfl (Or.inl rfl) pm_M71 rfl rfl (Nat.le_of_ble_eq_true rfl) rfl rfl ?_
    refine cl_c71_w (d := d + 2) G T8 hk e10 (fun m14 h15 T16 F17 W18 X19 => ?_)
    have F20 := F11.trans (N := 0) (S := 0) F17 (by decide) (by decide) (by decide)
    have W21 : rf_W [] m m14 := (rf_W.refl [] m).trans W18 (by decide)
    show pm_R _ 84 47 [.ref b, .ref 33, pm_no, pm_no] [] _ _
    refine pm_R_op pm_M84 (pc_q := 48) (st_q := [.int 0]) rfl rfl rfl ?_
    refine pm_R_lo pm_M84 (pc_q := 49) (ls_q := [.ref b, .ref 33, .int 0, pm_no]) (st_q := []) rfl rfl rfl ?_
    have L_422 : ∀ (N : Nat) (h_422 : pm_H) (m_422 : Nat → Int32) (x2_422 : Int32) (g3_422 : Value), cl_T ck E m_422 o h_422 → cl_F ck [] 0 0 h h_422 → rf_W [] m14 m_422 → sf_B 0 12 x2_422 → g3_422.category = 1 → h_422.2.2 b = .inr (10, [.ref (b + 1), .ref lo, .ref ro]) → (12 - x2_422.toInt).toNat = N → pm_R (d + 3) 84 49 [.ref b, .ref 33, .int x2_422, g3_422] [] h_422 Q := by
      intro N
      induction N using Nat.strongRecOn with
      | ind N ih_422 =>
        intro h_422 m_422 x2_422 g3_422 T_422 F_422 W_422 Bx2_422 Cg3_422 X_422 hN_422
        have W425 : rf_W [] m m_422 := W21.trans W_422 (by decide)
        refine pm_R_lo pm_M84 (pc_q := 50) rfl rfl rfl ?_
        refine pm_R_lo pm_M84 (pc_q := 51) rfl rfl rfl ?_
        refine pm_R_get pm_M84 (pc_q := 54) (v := .ref ro) rfl rfl X_422 (G.ge hk (by decide)) (T_422.al hk (by decide)) rfl rfl ?_
        obtain ⟨n426, f427, h428, h429, eE430, eE431, b432⟩ := (G.2.2.1 ro hkr).2
        have kq433 := (G.2.2.1 ro hkr).1
        refine pm_R_get pm_M84 (pc_q := 57) (v := .int (Int32.ofNat n426)) rfl rfl (T_422.im hkr (by decide) (by decide) eE430) (G.ge hkr (by decide)) (T_422.al hkr (by decide)) rfl rfl ?_
        refine pm_R_icmp pm_M84 (t := 95) (pc_q := 60) rfl rfl rfl (fun c434 => ?_) (fun c434 => ?_)
        · have B435 : sf_B 1 12 x2_422 := sf_leR c434 (sf_ofB1 h429 h428 (by decide)) Bx2_422
          exact pm_R_ret pm_M84 (r := none) rfl rfl (K m_422 h_422 T_422 F_422 W425 X_422)
        · have B436 : sf_B 0 11 x2_422 := sf_ltL (Int32.not_le.mp c434) Bx2_422 (sf_ofB1 h429 h428 (by decide))
          refine pm_R_lo pm_M84 (pc_q := 61) rfl rfl rfl ?_
          refine pm_R_lo pm_M84 (pc_q := 62) rfl rfl rfl ?_
          refine pm_R_cv pm_M84 (pc_q := 65) (a := b) (ra := [.int x2_422]) (rest := []) (ls_q := [.ref b, .int x2_422, pm_no, pm_no]) rfl rfl (Or.inl rfl) pm_M85 X_422 rfl (G.ge hk (by decide)) (T_422.al hk (by decide)) rfl rfl (Nat.le_of_ble_eq_true rfl) rfl rfl ?_
          refine cl_c85 (d := d + 1) G T_422 hk B436 X_422 hkl hkr eE430 (Int32.not_le.mp c434) (fun m439 h440 T441 F442 W443 X444 => ?_)
          have F445 := F_422.trans (N := 0) (S := 0) F442 (by decide) (by decide) (by decide)
          have W446 : rf_W [] m m439 := W425.trans W443 (by decide)
          have W447 : rf_W [] m14 m439 := W_422.trans W443 (by decide)
          show pm_R _ 84 65 [.ref b, .ref 33, .int x2_422, g3_422] [] _ _
          refine pm_R_lo pm_M84 (pc_q := 66) rfl rfl rfl ?_
          refine pm_R_op pm_M84 (pc_q := 67) (st_q := [.int 1, .int x2_422]) rfl rfl rfl ?_
          refine sf_R_isub pm_M84 (pc_q := 68) rfl rfl B436 sf_k1 (by decide) (by decide) (fun z448 e449 B450 => ?_)
          refine pm_R_lo pm_M84 (pc_q := 69) (ls_q := [.ref b, .ref 33, .int x2_422, .int z448]) (st_q := []) rfl rfl rfl ?_
          have L_497 : ∀ (N : Nat) (h_497 : pm_H) (m_497 : Nat → Int32) (x3_497 : Int32), cl_T ck E m_497 o h_497 → cl_F ck [] 0 0 h h_497 → rf_W [] m439 m_497 → sf_B (-1) 10 x3_497 → h_497.2.2 b = .inr (10, [.ref (b + 1), .ref lo, .ref ro]) → (x3_497.toInt - (-1)).toNat = N → pm_R (d + 3) 84 69 [.ref b, .ref 33, .int x2_422, .int x3_497] [] h_497 Q := by
            intro N
            induction N using Nat.strongRecOn with
            | ind N ih_497 =>
              intro h_497 m_497 x3_497 T_497 F_497 W_497 Bx3_497 X_497 hN_497
              have W500 : rf_W [] m m_497 := W446.trans W_497 (by decide)
              have W501 : rf_W [] m14 m_497 := W447.trans W_497 (by decide)
              refine pm_R_lo pm_M84 (pc_q := 70) rfl rfl rfl ?_
              refine pm_R_ifc pm_M84 (t := 89) (pc_q := 73) rfl rfl rfl (fun c502 => ?_) (fun c502 => ?_)
              · have B503 : sf_B (-1) (-1) x3_497 := sf_ltL c502 Bx3_497 sf_k0
                refine sf_R_iinc pm_M84 (pc_q := 92) (ls_q := fun z => [.ref b, .ref 33, .int z, .int x3_497]) rfl B436 rfl (by decide) (by decide) (by decide) (fun _ => rfl) rfl (fun z504 e505 B506 => ?_)
                show pm_R _ 84 92 [.ref b, .ref 33, .int z504, .int x3_497] [] _ _
                refine pm_R_br pm_M84 (pc_q := 49) rfl rfl ?_
                exact ih_422 _ (sf_up hN_422 e505 B436 (by decide) (by decide)) h_497 m_497 z504 (.int x3_497) T_497 F_497 W501 (sf_weak B506 (by decide) (by decide)) rfl X_497 rfl
              · have B507 : sf_B 0 10 x3_497 := sf_leR (Int32.not_lt.mp c502) sf_k0 Bx3_497
                refine pm_R_lo pm_M84 (pc_q := 74) rfl rfl rfl ?_
                refine pm_R_lo pm_M84 (pc_q := 75) rfl rfl rfl ?_
                refine pm_R_get pm_M84 (pc_q := 78) (v := .ref 34) rfl rfl T_497.e33 (by decide) (T_497.lt (by decide)) rfl rfl ?_
                refine pm_R_lo pm_M84 (pc_q := 79) rfl rfl rfl ?_
                refine pm_R_lo pm_M84 (pc_q := 80) rfl rfl rfl ?_
                refine pm_R_cv pm_M84 (pc_q := 83) (a := b) (ra := [.int x2_422, .int x3_497, .ref 34]) (rest := []) (ls_q := [.ref b, .ref 34, .int x3_497, .int x2_422, pm_no, pm_no, pm_no, pm_no, pm_no, pm_no]) rfl rfl (Or.inl rfl) pm_M86 X_497 rfl (G.ge hk (by decide)) (T_497.al hk (by decide)) rfl rfl (Nat.le_of_ble_eq_true rfl) rfl rfl ?_
                refine cl_c86 (d := d + 0) G T_497 hk (sf_weak B507 (by decide) (by decide)) B436 X_497 hkl hkr (fun m510 h511 T512 F513 W514 X515 => ?_)
                have F516 := F_497.trans (N := 0) (S := 0) F513 (by decide) (by decide) (by decide)
                have W517 : rf_W [] m m510 := W500.trans W514 (by decide)
                have W518 : rf_W [] m14 m510 := W501.trans W514 (by decide)
                have W519 : rf_W [] m439 m510 := W_497.trans W514 (by decide)
                show pm_R _ 84 83 [.ref b, .ref 33, .int x2_422, .int x3_497] [] _ _
                refine sf_R_iinc pm_M84 (pc_q := 86) (ls_q := fun z => [.ref b, .ref 33, .int x2_422, .int z]) rfl B507 rfl (by decide) (by decide) (by decide) (fun _ => rfl) rfl (fun z520 e521 B522 => ?_)
                show pm_R _ 84 86 [.ref b, .ref 33, .int x2_422, .int z520] [] _ _
                refine pm_R_br pm_M84 (pc_q := 69) rfl rfl ?_
                exact ih_497 _ (sf_dn hN_497 e521 B507 (by decide) (by decide)) h511 m510 z520 T512 F516 W519 (sf_weak B522 (by decide) (by decide)) X515 rfl
          exact L_497 _ h440 m439 z448 T441 F445 (rf_W.refl _ _) B450 X444 rfl
    exact L_422 _ h15 m14 0 (pm_no) T16 F20 (rf_W.refl _ _) (sf_weak sf_k0 (by decide) (by decide)) rfl X19 rfl
  · subst c1
    refine pm_R_lo pm_M84 (pc_q := 12) rfl rfl rfl ?_
    refine pm_R_get pm_M84 (pc_q := 15) (v := va_rf r) rfl rfl eW (G.ge hk (by decide)) (T.al hk (by decide)) rfl rfl ?_
    refine pm_R_lo pm_M84 (pc_q := 16) rfl rfl rfl ?_
    refine pm_R_get pm_M84 (pc_q := 19) (v := .ref ro) rfl rfl T.e33 (by decide) (T.lt (by decide)) (by show some (va_rf (o 2)) = _; rw [orr]; rfl) rfl ?_
    refine cl_R_acmp pm_M84 (t := 23) (pc_q := 22) rfl rfl rfl (G.ge hkr (by decide)) (fun z hz => G.ge (kr z hz) (by decide)) (fun c523 => ?_) (fun c523 => ?_)
    · skip
      refine pm_R_lo pm_M84 (pc_q := 24) rfl rfl rfl ?_
      refine pm_R_lo pm_M84 (pc_q := 25) rfl rfl rfl ?_
      refine pm_R_get pm_M84 (pc_q := 28) (v := .ref lo) rfl rfl T.e33 (by decide) (T.lt (by decide)) (by show some (va_rf (o 1)) = _; rw [ol]; rfl) rfl ?_
      refine cl_R_wput1 G pm_M84 T (l := (some lo)) (r := r) (pc_q := 31) rfl rfl rfl (by decide) rfl rfl hk eW (fun z hz => by cases hz; exact hkl) kr rfl rfl (fun h524 T525 F526 e527 => ?_)
      have F528 := (cl_F.refl (ck := ck) (A := []) (n := 0) (s := 0) T.1).trans (N := 0) (S := 0) F526 (by decide) (by decide) (by decide)
      refine pm_R_lo pm_M84 (pc_q := 32) rfl rfl rfl ?_
      refine pm_R_lo pm_M84 (pc_q := 33) rfl rfl rfl ?_
      refine pm_R_get pm_M84 (pc_q := 36) (v := .ref ro) rfl rfl T525.e33 (by decide) (T525.lt (by decide)) (by show some (va_rf (o 2)) = _; rw [orr]; rfl) rfl ?_
      refine cl_R_wput2 G pm_M84 T525 (l := (some lo)) (r := (some ro)) (pc_q := 39) rfl rfl rfl (by decide) rfl rfl hk e527 (fun z hz => by cases hz; exact hkl) (fun z hz => by cases hz; exact hkr) rfl rfl (fun h529 T530 F531 e532 => ?_)
      have F533 := F528.trans (N := 0) (S := 0) F531 (by decide) (by decide) (by decide)
      refine pm_R_lo pm_M84 (pc_q := 40) rfl rfl rfl ?_
      refine pm_R_get pm_M84 (pc_q := 43) (v := .ref (b + 1)) rfl rfl e532 (G.ge hk (by decide)) (T530.al hk (by decide)) rfl rfl ?_
      refine pm_R_op pm_M84 (pc_q := 44) (st_q := [.long 0, .ref (b + 1)]) rfl rfl rfl ?_
      refine pm_R_cs pm_M84 (pc_q := 47) (ra := [.long 0, .ref (b + 1)]) (rest := []) (ls_q := [.ref (b + 1), .long 0, pm_no, pm_no, pm_no]) rfl rfl (Or.inl rfl) pm_M71 rfl rfl (Nat.le_of_ble_eq_true rfl) rfl rfl ?_
      refine cl_c71_w (d := d + 2) G T530 hk e532 (fun m536 h537 T538 F539 W540 X541 => ?_)
      have F542 := F533.trans (N := 0) (S := 0) F539 (by decide) (by decide) (by decide)
      have W543 : rf_W [] m m536 := (rf_W.refl [] m).trans W540 (by decide)
      show pm_R _ 84 47 [.ref b, .ref 33, pm_no, pm_no] [] _ _
      refine pm_R_op pm_M84 (pc_q := 48) (st_q := [.int 0]) rfl rfl rfl ?_
      refine pm_R_lo pm_M84 (pc_q := 49) (ls_q := [.ref b, .ref 33, .int 0, pm_no]) (st_q := []) rfl rfl rfl ?_
      have L_944 : ∀ (N : Nat) (h_944 : pm_H) (m_944 : Nat → Int32) (x2_944 : Int32) (g3_944 : Value), cl_T ck E m_944 o h_944 → cl_F ck [] 0 0 h h_944 → rf_W [] m536 m_944 → sf_B 0 12 x2_944 → g3_944.category = 1 → h_944.2.2 b = .inr (10, [.ref (b + 1), .ref lo, .ref ro]) → (12 - x2_944.toInt).toNat = N → pm_R (d + 3) 84 49 [.ref b, .ref 33, .int x2_944, g3_944] [] h_944 Q := by
        intro N
        induction N using Nat.strongRecOn with
        | ind N ih_944 =>
          intro h_944 m_944 x2_944 g3_944 T_944 F_944 W_944 Bx2_944 Cg3_944 X_944 hN_944
          have W947 : rf_W [] m m_944 := W543.trans W_944 (by decide)
          refine pm_R_lo pm_M84 (pc_q := 50) rfl rfl rfl ?_
          refine pm_R_lo pm_M84 (pc_q := 51) rfl rfl rfl ?_
          refine pm_R_get pm_M84 (pc_q := 54) (v := .ref ro) rfl rfl X_944 (G.ge hk (by decide)) (T_944.al hk (by decide)) rfl rfl ?_
          obtain ⟨n948, f949, h950, h951, eE952, eE953, b954⟩ := (G.2.2.1 ro hkr).2
          have kq955 := (G.2.2.1 ro hkr).1
          refine pm_R_get pm_M84 (pc_q := 57) (v := .int (Int32.ofNat n948)) rfl rfl (T_944.im hkr (by decide) (by decide) eE952) (G.ge hkr (by decide)) (T_944.al hkr (by decide)) rfl rfl ?_
          refine pm_R_icmp pm_M84 (t := 95) (pc_q := 60) rfl rfl rfl (fun c956 => ?_) (fun c956 => ?_)
          · have B957 : sf_B 1 12 x2_944 := sf_leR c956 (sf_ofB1 h951 h950 (by decide)) Bx2_944
            exact pm_R_ret pm_M84 (r := none) rfl rfl (K m_944 h_944 T_944 F_944 W947 X_944)
          · have B958 : sf_B 0 11 x2_944 := sf_ltL (Int32.not_le.mp c956) Bx2_944 (sf_ofB1 h951 h950 (by decide))
            refine pm_R_lo pm_M84 (pc_q := 61) rfl rfl rfl ?_
            refine pm_R_lo pm_M84 (pc_q := 62) rfl rfl rfl ?_
            refine pm_R_cv pm_M84 (pc_q := 65) (a := b) (ra := [.int x2_944]) (rest := []) (ls_q := [.ref b, .int x2_944, pm_no, pm_no]) rfl rfl (Or.inl rfl) pm_M85 X_944 rfl (G.ge hk (by decide)) (T_944.al hk (by decide)) rfl rfl (Nat.le_of_ble_eq_true rfl) rfl rfl ?_
            refine cl_c85 (d := d + 1) G T_944 hk B958 X_944 hkl hkr eE952 (Int32.not_le.mp c956) (fun m961 h962 T963 F964 W965 X966 => ?_)
            have F967 := F_944.trans (N := 0) (S := 0) F964 (by decide) (by decide) (by decide)
            have W968 : rf_W [] m m961 := W947.trans W965 (by decide)
            have W969 : rf_W [] m536 m961 := W_944.trans W965 (by decide)
            show pm_R _ 84 65 [.ref b, .ref 33, .int x2_944, g3_944] [] _ _
            refine pm_R_lo pm_M84 (pc_q := 66) rfl rfl rfl ?_
            refine pm_R_op pm_M84 (pc_q := 67) (st_q := [.int 1, .int x2_944]) rfl rfl rfl ?_
            refine sf_R_isub pm_M84 (pc_q := 68) rfl rfl B958 sf_k1 (by decide) (by decide) (fun z970 e971 B972 => ?_)
            refine pm_R_lo pm_M84 (pc_q := 69) (ls_q := [.ref b, .ref 33, .int x2_944, .int z970]) (st_q := []) rfl rfl rfl ?_
            have L_1019 : ∀ (N : Nat) (h_1019 : pm_H) (m_1019 : Nat → Int32) (x3_1019 : Int32), cl_T ck E m_1019 o h_1019 → cl_F ck [] 0 0 h h_1019 → rf_W [] m961 m_1019 → sf_B (-1) 10 x3_1019 → h_1019.2.2 b = .inr (10, [.ref (b + 1), .ref lo, .ref ro]) → (x3_1019.toInt - (-1)).toNat = N → pm_R (d + 3) 84 69 [.ref b, .ref 33, .int x2_944, .int x3_1019] [] h_1019 Q := by
              intro N
              induction N using Nat.strongRecOn with
              | ind N ih_1019 =>
                intro h_1019 m_1019 x3_1019 T_1019 F_1019 W_1019 Bx3_1019 X_1019 hN_1019
                have W1022 : rf_W [] m m_1019 := W968.trans W_1019 (by decide)
                have W1023 : rf_W [] m536 m_1019 := W969.trans W_1019 (by decide)
                refine pm_R_lo pm_M84 (pc_q := 70) rfl rfl rfl ?_
                refine pm_R_ifc pm_M84 (t := 89) (pc_q := 73) rfl rfl rfl (fun c1024 => ?_) (fun c1024 => ?_)
                · have B1025 : sf_B (-1) (-1) x3_1019 := sf_ltL c1024 Bx3_1019 sf_k0
                  refine sf_R_iinc pm_M84 (pc_q := 92) (ls_q := fun z => [.ref b, .ref 33, .int z, .int x3_1019]) rfl B958 rfl (by decide) (by decide) (by decide) (fun _ => rfl) rfl (fun z1026 e1027 B1028 => ?_)
                  show pm_R _ 84 92 [.ref b, .ref 33, .int z1026, .int x3_1019] [] _ _
                  refine pm_R_br pm_M84 (pc_q := 49) rfl rfl ?_
                  exact ih_944 _ (sf_up hN_944 e1027 B958 (by decide) (by decide)) h_1019 m_1019 z1026 (.int x3_1019) T_1019 F_1019 W1023 (sf_weak B1028 (by decide) (by decide)) rfl X_1019 rfl
                · have B1029 : sf_B 0 10 x3_1019 := sf_leR (Int32.not_lt.mp c1024) sf_k0 Bx3_1019
                  refine pm_R_lo pm_M84 (pc_q := 74) rfl rfl rfl ?_
                  refine pm_R_lo pm_M84 (pc_q := 75) rfl rfl rfl ?_
                  refine pm_R_get pm_M84 (pc_q := 78) (v := .ref 34) rfl rfl T_1019.e33 (by decide) (T_1019.lt (by decide)) rfl rfl ?_
                  refine pm_R_lo pm_M84 (pc_q := 79) rfl rfl rfl ?_
                  refine pm_R_lo pm_M84 (pc_q := 80) rfl rfl rfl ?_
                  refine pm_R_cv pm_M84 (pc_q := 83) (a := b) (ra := [.int x2_944, .int x3_1019, .ref 34]) (rest := []) (ls_q := [.ref b, .ref 34, .int x3_1019, .int x2_944, pm_no, pm_no, pm_no, pm_no, pm_no, pm_no]) rfl rfl (Or.inl rfl) pm_M86 X_1019 rfl (G.ge hk (by decide)) (T_1019.al hk (by decide)) rfl rfl (Nat.le_of_ble_eq_true rfl) rfl rfl ?_
                  refine cl_c86 (d := d + 0) G T_1019 hk (sf_weak B1029 (by decide) (by decide)) B958 X_1019 hkl hkr (fun m1032 h1033 T1034 F1035 W1036 X1037 => ?_)
                  have F1038 := F_1019.trans (N := 0) (S := 0) F1035 (by decide) (by decide) (by decide)
                  have W1039 : rf_W [] m m1032 := W1022.trans W1036 (by decide)
                  have W1040 : rf_W [] m536 m1032 := W1023.trans W1036 (by decide)
                  have W1041 : rf_W [] m961 m1032 := W_1019.trans W1036 (by decide)
                  show pm_R _ 84 83 [.ref b, .ref 33, .int x2_944, .int x3_1019] [] _ _
                  refine sf_R_iinc pm_M84 (pc_q := 86) (ls_q := fun z => [.ref b, .ref 33, .int x2_944, .int z]) rfl B1029 rfl (by decide) (by decide) (by decide) (fun _ => rfl) rfl (fun z1042 e1043 B1044 => ?_)
                  show pm_R _ 84 86 [.ref b, .ref 33, .int x2_944, .int z1042] [] _ _
                  refine pm_R_br pm_M84 (pc_q := 69) rfl rfl ?_
                  exact ih_1019 _ (sf_dn hN_1019 e1043 B1029 (by decide) (by decide)) h1033 m1032 z1042 T1034 F1038 W1041 (sf_weak B1044 (by decide) (by decide)) X1037 rfl
            exact L_1019 _ h962 m961 z970 T963 F967 (rf_W.refl _ _) B972 X966 rfl
      exact L_944 _ h537 m536 0 (pm_no) T538 F542 (rf_W.refl _ _) (sf_weak sf_k0 (by decide) (by decide)) rfl X541 rfl
    · subst c523
      exact pm_R_ret pm_M84 (r := none) rfl rfl (K m h T (cl_F.refl (ck := ck) (A := []) (n := 0) (s := 0) T.1) (rf_W.refl [] m) eW)

set_option maxRecDepth 100000 in
set_option maxHeartbeats 4000000 in
/-- SilentTable.ways -/
theorem cl_c81_t {d : Nat} {ck : cl_K} {E : Nat → pm_E} {m : Nat → Int32} {o : Nat → Option Nat} {h : pm_H} {Q : Option Value → pm_H → Prop} {a0 : Int32} {a1 : Int32} {a2 : Int32} (G : cl_G ck E) (T : cl_T ck E m o h) (Ba2 : sf_B 0 49 a2) {lo ro : Nat} (ol : o 1 = some lo) (orr : o 2 = some ro) {b : Nat} (ob : o 0 = some b) (K : ∀ (r : Int64) (m_q : Nat → Int32) (h_q : pm_H), cl_T ck E m_q o h_q → cl_F ck [] 0 0 h h_q → rf_W [] m m_q → Q (some (.long r)) h_q) : pm_R (d + 4) 81 64 [.ref 16, .int a0, .int a1, .int a2, .ref lo, .ref ro] [] h Q := by
  have hkl := T.oo.2.1 _ ol
  have hkr := T.oo.2.2 _ orr
  have hkb := T.oo.1 _ ob
  obtain ⟨l0, r0, eW0, kl0, kr0⟩ := T.D.2.1 b hkb
  refine pm_R_lo pm_M81 (pc_q := 65) rfl rfl rfl ?_
  refine pm_R_get pm_M81 (pc_q := 68) (v := .ref b) rfl rfl T.e16 (by decide) (T.lt (by decide)) (by show some (va_rf (o 0)) = _; rw [ob]; rfl) rfl ?_
  refine pm_R_lo pm_M81 (pc_q := 69) rfl rfl rfl ?_
  refine pm_R_get pm_M81 (pc_q := 72) (v := .ref 33) rfl rfl T.e16 (by decide) (T.lt (by decide)) rfl rfl ?_
  refine pm_R_cv pm_M81 (pc_q := 75) (a := b) (ra := [.ref 33]) (rest := []) (ls_q := [.ref b, .ref 33, pm_no, pm_no]) rfl rfl (Or.inl rfl) pm_M84 eW0 rfl (G.ge hkb (by decide)) (T.al hkb (by decide)) rfl rfl (Nat.le_of_ble_eq_true rfl) rfl rfl ?_
  refine cl_c84 (d := d + 0) G T hkb ol orr (fun m3 h4 T5 F6 W7 X8 => ?_)
  have F9 := (cl_F.refl (ck := ck) (A := []) (n := 0) (s := 0) T.1).trans (N := 0) (S := 0) F6 (by decide) (by decide) (by decide)
  have W10 : rf_W [] m m3 := (rf_W.refl [] m).trans W7 (by decide)
  show pm_R _ 81 75 [.ref 16, .int a0, .int a1, .int a2, .ref lo, .ref ro] [] _ _
  refine pm_R_lo pm_M81 (pc_q := 76) rfl rfl rfl ?_
  refine pm_R_get pm_M81 (pc_q := 79) (v := .ref b) rfl rfl T5.e16 (by decide) (T5.lt (by decide)) (by show some (va_rf (o 0)) = _; rw [ob]; rfl) rfl ?_
  refine pm_R_get pm_M81 (pc_q := 82) (v := .ref (b + 1)) rfl rfl X8 (G.ge hkb (by decide)) (T5.al hkb (by decide)) rfl rfl ?_
  refine pm_R_op pm_M81 (pc_q := 83) (st_q := [.int 0, .ref (b + 1)]) rfl rfl rfl ?_
  refine pm_R_lo pm_M81 (pc_q := 85) rfl rfl rfl ?_
  obtain ⟨n11, f12, h13, h14, eE15, eE16, b17⟩ := (G.2.2.1 ro hkr).2
  have kq18 := (G.2.2.1 ro hkr).1
  refine pm_R_get pm_M81 (pc_q := 88) (v := .int (Int32.ofNat n11)) rfl rfl (T5.im hkr (by decide) (by decide) eE15) (G.ge hkr (by decide)) (T5.al hkr (by decide)) rfl rfl ?_
  refine pm_R_op pm_M81 (pc_q := 89) (st_q := [.int 1, .int (Int32.ofNat n11), .int 0, .ref (b + 1)]) rfl rfl rfl ?_
  refine sf_R_isub pm_M81 (pc_q := 90) rfl rfl (sf_ofB1 h14 h13 (by decide)) sf_k1 (by decide) (by decide) (fun z19 e20 B21 => ?_)
  refine pm_R_cs pm_M81 (pc_q := 93) (ra := [.int z19, .int 0]) (rest := [.ref (b + 1)]) (ls_q := [.int 0, .int z19]) rfl rfl (Or.inl rfl) pm_M73 rfl rfl (Nat.le_of_ble_eq_true rfl) rfl rfl ?_
  refine pm_R_lo pm_M73 (pc_q := 1) rfl rfl rfl ?_
  refine pm_R_lo pm_M73 (pc_q := 2) rfl rfl rfl ?_
  refine pm_R_op pm_M73 (pc_q := 3) (st_q := [.int 1, .int z19, .int z19]) rfl rfl rfl ?_
  refine sf_R_iadd pm_M73 (pc_q := 4) rfl rfl B21 sf_k1 (by decide) (by decide) (fun z22 e23 B24 => ?_)
  refine sf_R_imul pm_M73 (pc_q := 5) rfl rfl B21 B24 (by decide) (by decide) (by decide) (fun z25 e26 B27 => ?_)
  refine pm_R_op pm_M73 (pc_q := 6) (st_q := [.int 2, .int z25]) rfl rfl rfl ?_
  refine sf_R_idiv pm_M73 (pc_q := 7) rfl rfl B27 sf_k2 (by decide) (by decide) (fun z28 e29 B30 => ?_)
  refine pm_R_lo pm_M73 (pc_q := 8) rfl rfl rfl ?_
  refine sf_R_iadd pm_M73 (pc_q := 9) rfl rfl B30 sf_k0 (by decide) (by decide) (fun z31 e32 B33 => ?_)
  refine pm_R_ret pm_M73 (r := some (.int z31)) rfl (pm_ret_i _) ?_
  show pm_R _ 81 93 [.ref 16, .int a0, .int a1, .int a2, .ref lo, .ref ro] [.int z31, .ref (b + 1)] _ _
  refine pm_R_op pm_M81 (pc_q := 95) (st_q := [.int 6, .int z31, .ref (b + 1)]) rfl rfl rfl ?_
  refine sf_R_imul pm_M81 (pc_q := 96) rfl rfl B33 sf_k6 (by decide) (by decide) (by decide) (fun z34 e35 B36 => ?_)
  refine pm_R_op pm_M81 (pc_q := 98) (st_q := [.int 50, .int z34, .ref (b + 1)]) rfl rfl rfl ?_
  refine sf_R_imul pm_M81 (pc_q := 99) rfl rfl B36 sf_k50 (by decide) (by decide) (by decide) (fun z37 e38 B39 => ?_)
  refine pm_R_lo pm_M81 (pc_q := 100) rfl rfl rfl ?_
  refine sf_R_iadd pm_M81 (pc_q := 101) rfl rfl B39 Ba2 (by decide) (by decide) (fun z40 e41 B42 => ?_)
  obtain ⟨f46, e47⟩ := T5.D.2.2.1 _ (G.w23 hkb)
  obtain ⟨z43, ez44⟩ : ∃ y, f46 (Int32.toNatClampNeg z40) = y := ⟨_, rfl⟩
  refine pm_R_lald pm_M81 (pc_q := 102) (v := z43) rfl e47 (G.ge (G.w23 hkb) (by decide)) (T5.al (G.w23 hkb) (by decide)) (sf_in B42 (by decide) (by decide)) ez44 rfl ?_
  refine pm_R_cs pm_M81 (pc_q := 105) (ra := [.long z43]) (rest := []) (ls_q := [.long z43, pm_no]) rfl rfl (Or.inl rfl) pm_M79 rfl rfl (Nat.le_of_ble_eq_true rfl) rfl rfl ?_
  refine pm_R_lo pm_M79 (pc_q := 1) rfl rfl rfl ?_
  refine pm_R_ldc2 pm_M79 (pc_q := 4) rfl rfl rfl ?_
  refine sf_R_lcmp pm_M79 (pc_q := 5) rfl rfl (fun z48 e49 => ?_)
  refine pm_R_ifc pm_M79 (t := 14) (pc_q := 8) rfl rfl rfl (fun c50 => ?_) (fun c50 => ?_)
  · have k51 := sf_lneC e49 c50
    refine pm_R_lo pm_M79 (pc_q := 15) rfl rfl rfl ?_
    refine pm_R_ldc2 pm_M79 (pc_q := 18) rfl rfl rfl ?_
    refine cl_R_minl pm_M79 (pc_q := 21) rfl rfl rfl (by decide) rfl (fun z52 => ?_)
    refine pm_R_ret pm_M79 (r := some (.long z52)) rfl rfl ?_
    show pm_R _ 81 105 [.ref 16, .int a0, .int a1, .int a2, .ref lo, .ref ro] [.long z52] _ _
    exact pm_R_ret pm_M81 (r := some (.long z52)) rfl rfl (K z52 m3 h4 T5 F9 W10)
  · have B53 : sf_B 0 0 z48 := sf_eqL (Classical.not_not.mp c50) sf_k0
    have B54 : lf_B (-1) (-1) z43 := lf_eqB e49 B53 (⟨by decide, by decide⟩ : lf_B (-1) (-1) (-1))
    refine pm_R_ldc2 pm_M79 (pc_q := 11) rfl rfl rfl ?_
    refine pm_R_br pm_M79 (pc_q := 21) rfl rfl ?_
    refine pm_R_ret pm_M79 (r := some (.long 1000000000000)) rfl rfl ?_
    show pm_R _ 81 105 [.ref 16, .int a0, .int a1, .int a2, .ref lo, .ref ro] [.long 1000000000000] _ _
    exact pm_R_ret pm_M81 (r := some (.long 1000000000000)) rfl rfl (K 1000000000000 m3 h4 T5 F9 W10)
end
section
/-! the chart of ways is made -/
theorem cl_x83 {d : Nat} {h : pm_H} {Q : Option Value → pm_H → Prop} {t : Nat} (ht : h.2.2 t = .inr (10, [.null, .null, .null])) (h16 : 16 ≤ t) (hlt : t < h.1) (K : ∀ h_q, h_q.1 = h.1 + 1 → h_q.2.1 = h.2.1 + 23400 → h_q.2.2 t = .inr (10, [.ref h.1, .null, .null]) → h_q.2.2 h.1 = .inl (1, 23400, .inr (.inl (fun _ => (0 : Int64)))) → (∀ b, b ≠ t → b ≠ h.1 → h_q.2.2 b = h.2.2 b) → Q none h_q) : pm_R (d + 0) 83 0 [.ref t] [] h Q := by
  have hne : t ≠ h.1 := by omega
  have hne2 : h.1 ≠ t := by omega
  refine pm_R_lo pm_M83 (pc_q := 1) rfl rfl rfl ?_
  refine pm_R_obj pm_M83 (pc_q := 4) rfl rfl rfl (Nat.le_of_ble_eq_true rfl) rfl ?_
  refine pm_R_lo pm_M83 (pc_q := 5) rfl rfl rfl ?_
  refine pm_R_op pm_M83 (pc_q := 8) (st_q := [.int 23400, .ref t]) rfl rfl rfl ?_
  refine pm_R_newa pm_M83 (pc_q := 10) (N := 23400) rfl rfl (by decide) rfl (Nat.le_of_ble_eq_true rfl) rfl ?_
  have c1 : (pm_push h (.inl (1, pm_newty 1 23400)) 23400).2.2 t = .inr (10, [.null, .null, .null]) := by
    have : (pm_push h (.inl (1, pm_newty 1 23400)) 23400).2.2 t = h.2.2 t := by simp [pm_push, va_up, hne]
    rw [this]; exact ht
  refine pm_R_put pm_M83 (pc_q := 13) (fs_q := [.ref h.1, .null, .null]) rfl rfl rfl c1 h16 (Nat.lt_succ_of_lt hlt) (by decide) rfl (Or.inr ⟨pm_N83_ini, rfl, rfl⟩) rfl rfl ?_
  refine pm_R_lo pm_M83 (pc_q := 14) rfl rfl rfl ?_
  refine pm_R_op pm_M83 (pc_q := 15) (st_q := [.null, .ref t]) rfl rfl rfl ?_
  refine pm_R_put pm_M83 (pc_q := 18) (fs_q := [.ref h.1, .null, .null]) rfl rfl rfl cl_set_eq h16 (Nat.lt_succ_of_lt hlt) (Nat.le_of_ble_eq_true rfl) rfl (Or.inl rfl) rfl rfl ?_
  refine pm_R_lo pm_M83 (pc_q := 19) rfl rfl rfl ?_
  refine pm_R_op pm_M83 (pc_q := 20) (st_q := [.null, .ref t]) rfl rfl rfl ?_
  refine pm_R_put pm_M83 (pc_q := 23) (fs_q := [.ref h.1, .null, .null]) rfl rfl rfl cl_set_eq h16 (Nat.lt_succ_of_lt hlt) (Nat.le_of_ble_eq_true rfl) rfl (Or.inl rfl) rfl rfl ?_
  refine pm_R_ret pm_M83 (r := none) rfl rfl (K _ rfl rfl cl_set_eq ?_ (fun b b1 b2 => ?_))
  · simp [pm_set, pm_push, va_up, hne2, pm_newty]
  · simp [pm_set, pm_push, va_up, b1, b2]
end
section
section
/-! two frames in a row, the second over a grown map of kinds -/
theorem cl_F.transG {ck ck_q : cl_K} {A A_q : List Nat} {n s n_q s' N S : Nat} {h h1 h2 : pm_H} (x : cl_F ck A n s h h1) (y : cl_F ck_q A_q n_q s' h1 h2) (hck : ∀ a, a < h.1 → ck_q a = ck a) (hl : ∀ k ∈ A_q, k ∈ A) (hn : n + n_q ≤ N) (hs : s + s' ≤ S) : cl_F ck A N S h h2 := by
  obtain ⟨x1, x2, x3, x4, x5⟩ := x
  obtain ⟨y1, y2, y3, y4, y5⟩ := y
  refine ⟨x1, by omega, by omega, by omega, fun a h1 h2 h3 => ?_⟩
  rw [y5 a (by omega) (fun hh => h2 (hl a hh)) (by rw [hck a h1]; exact h3)]
  exact x5 a h1 h2 h3
def cl_kW (ck : cl_K) (t : Nat) : cl_K := fun a => if a = t then 22 else if a = t + 1 then 23 else ck a
theorem cl_kW_old {ck : cl_K} {t : Nat} (h0 : ck t = 0) (h1 : ck (t + 1) = 0) (b : Nat) (hb : ck b ≠ 0) : cl_kW ck t b = ck b := by
  unfold cl_kW
  by_cases e : b = t
  · rw [e] at hb; exact absurd h0 hb
  · by_cases e_q : b = t + 1
    · rw [e_q] at hb; exact absurd h1 hb
    · rw [if_neg e, if_neg e_q]
theorem cl_kW_back {ck : cl_K} {t a k : Nat} (hk : k ≠ 22) (hk' : k ≠ 23) (h : cl_kW ck t a = k) : ck a = k := by
  unfold cl_kW at h
  by_cases e : a = t
  · rw [if_pos e] at h; exact absurd h.symm hk
  · rw [if_neg e] at h
    by_cases e_q : a = t + 1
    · rw [if_pos e_q] at h; exact absurd h.symm hk'
    · rw [if_neg e_q] at h; exact h
theorem cl_kW_lt {ck : cl_K} {t a : Nat} (h : a < t) : cl_kW ck t a = ck a := by
  unfold cl_kW
  rw [if_neg (by omega), if_neg (by omega)]
end
end
section
section
/-! the map of kinds, grown by a chart of ways, keeps its law -/
theorem cl_kW_G {ck : cl_K} {E : Nat → pm_E} {t : Nat} (G : cl_G ck E) (h0 : ck t = 0) (h1 : ck (t + 1) = 0) (ht : 72 ≤ t) : cl_G (cl_kW ck t) E := by
  obtain ⟨g0, g1, g7, g9, g13, g15, g22, g24, gs⟩ := G
  have old := fun (b k : Nat) (hk : k ≠ 0) (hb : ck b = k) => (cl_kW_old h0 h1 b (by rw [hb]; exact hk)).trans hb
  refine ⟨fun a ha => ?_, fun a ha => ?_, fun a ha => ?_, fun a ha => ?_, fun a ha => ?_, fun a ha => ?_, fun a ha => ?_, fun a ha => ?_, gs⟩
  · by_cases e : a = t
    · omega
    · by_cases e_q : a = t + 1
      · omega
      · refine g0 a (fun hz => ha ?_)
        unfold cl_kW; rw [if_neg e, if_neg e_q]; exact hz
  · obtain ⟨a1, a2, a3, a4, a5, a6⟩ := g1 a (cl_kW_back (by decide) (by decide) ha)
    exact ⟨old _ _ (by decide) a1, old _ _ (by decide) a2, old _ _ (by decide) a3, old _ _ (by decide) a4, old _ _ (by decide) a5, a6⟩
  · obtain ⟨a1, a2⟩ := g7 a (cl_kW_back (by decide) (by decide) ha)
    exact ⟨old _ _ (by decide) a1, a2⟩
  · obtain ⟨a1, a2, a3, a4⟩ := g9 a (cl_kW_back (by decide) (by decide) ha)
    exact ⟨old _ _ (by decide) a1, old _ _ (by decide) a2, old _ _ (by decide) a3, a4⟩
  · obtain ⟨a1, a2⟩ := g13 a (cl_kW_back (by decide) (by decide) ha)
    exact ⟨old _ _ (by decide) a1, a2⟩
  · obtain ⟨a1, a2, a3, a4, a5, a6⟩ := g15 a (cl_kW_back (by decide) (by decide) ha)
    exact ⟨old _ _ (by decide) a1, old _ _ (by decide) a2, old _ _ (by decide) a3, old _ _ (by decide) a4, old _ _ (by decide) a5, old _ _ (by decide) a6⟩
  · by_cases e : a = t
    · rw [e]; unfold cl_kW; rw [if_neg (by omega), if_pos rfl]
    · by_cases e_q : a = t + 1
      · unfold cl_kW at ha; rw [if_neg e, if_pos e_q] at ha; exact absurd ha (by decide)
      · have hz : ck a = 22 := by unfold cl_kW at ha; rw [if_neg e, if_neg e_q] at ha; exact ha
        exact old _ _ (by decide) (g22 a hz)
  · obtain ⟨a1, a2, a3, a4⟩ := g24 a (cl_kW_back (by decide) (by decide) ha)
    exact ⟨old _ _ (by decide) a1, old _ _ (by decide) a2, old _ _ (by decide) a3, old _ _ (by decide) a4⟩
end
end
section
section
/-! what the grown map's cells hold -/
theorem cl_kW_D {ck : cl_K} {h h_q : pm_H} {t : Nat} (D : cl_D ck h) (hlt : ∀ a, ck a ≠ 0 → a < h.1) (hin : ∀ a, ck a = 15 → ck (a + 1) = 16 ∧ ck (a + 2) = 17 ∧ ck (a + 3) = 18 ∧ ck (a + 4) = 19 ∧ ck (a + 5) = 20 ∧ ck (a + 6) = 21) (h0 : ck t = 0) (h1 : ck (t + 1) = 0) (hh : ∀ a, a < h.1 → h_q.2.2 a = h.2.2 a) (e0 : h_q.2.2 t = .inr (10, [.ref (t + 1), .null, .null])) (e1 : h_q.2.2 (t + 1) = .inl (1, 23400, .inr (.inl (fun _ => (0 : Int64))))) : cl_D (cl_kW ck t) h_q := by
  have hck := cl_kW_old h0 h1
  have keep : ∀ a k, k ≠ 0 → ck a = k → h_q.2.2 a = h.2.2 a := fun a k hk e => hh a (hlt a (by rw [e]; exact hk))
  have old := fun (b k : Nat) (hk : k ≠ 0) (hb : ck b = k) => (hck b (by rw [hb]; exact hk)).trans hb
  obtain ⟨d15, d22, d23, d24, d25, d26, d27, d28⟩ := D
  refine ⟨fun a ha => ?_, fun a ha => ?_, fun a ha => ?_, fun a ha => ?_, fun a ha => ?_, fun a ha => ?_, fun a ha => ?_, fun a ha => ?_⟩
  · have hz := cl_kW_back (by decide) (by decide) ha
    obtain ⟨i1, i2, i3, i4, i5, i6⟩ := hin a hz
    obtain ⟨s, t_q, u, b1, b2, b3, e, c1, c2, c3, c4, c5, c6, n⟩ := d15 a hz
    rw [← keep a _ (by decide) hz] at e
    rw [← keep _ _ (by decide) i1] at c1
    rw [← keep _ _ (by decide) i2] at c2
    rw [← keep _ _ (by decide) i3] at c3
    rw [← keep _ _ (by decide) i4] at c4
    rw [← keep _ _ (by decide) i5] at c5
    rw [← keep _ _ (by decide) i6] at c6
    rw [← keep _ _ (by decide) i2, ← keep _ _ (by decide) i3, ← keep _ _ (by decide) i4, ← keep _ _ (by decide) i5, ← keep _ _ (by decide) i6] at n
    exact ⟨s, t_q, u, b1, b2, b3, e, c1.mono hck, c2.mono hck, c3.mono hck, c4.mono hck, c5.mono hck, c6.mono hck, n⟩
  · by_cases e : a = t
    · subst e
      refine ⟨none, none, e0, ?_, ?_⟩
      · intro b hb; exact absurd hb (by simp)
      · intro b hb; exact absurd hb (by simp)
    · by_cases e_q : a = t + 1
      · unfold cl_kW at ha; rw [if_neg e, if_pos e_q] at ha; exact absurd ha (by decide)
      · have hz : ck a = 22 := by unfold cl_kW at ha; rw [if_neg e, if_neg e_q] at ha; exact ha
        obtain ⟨l, r, x, y, z⟩ := d22 a hz
        exact ⟨l, r, by rw [keep a _ (by decide) hz]; exact x, fun b hb => old _ _ (by decide) (y b hb), fun b hb => old _ _ (by decide) (z b hb)⟩
  · by_cases e : a = t
    · unfold cl_kW at ha; rw [if_pos e] at ha; exact absurd ha (by decide)
    · by_cases e_q : a = t + 1
      · rw [e_q]; exact ⟨_, e1⟩
      · have hz : ck a = 23 := by unfold cl_kW at ha; rw [if_neg e, if_neg e_q] at ha; exact ha
        rw [keep a _ (by decide) hz]; exact d23 a hz
  · have hz := cl_kW_back (by decide) (by decide) ha
    obtain ⟨l, fi, av, ah, an, b1, b2, x, y⟩ := d24 a hz
    exact ⟨l, fi, av, ah, an, b1, b2, by rw [keep a _ (by decide) hz]; exact x, fun b hb => old _ _ (by decide) (y b hb)⟩
  · have hz := cl_kW_back (by decide) (by decide) ha
    rw [keep a _ (by decide) hz]; exact d25 a hz
  · have hz := cl_kW_back (by decide) (by decide) ha
    rw [keep a _ (by decide) hz]; exact d26 a hz
  · have hz := cl_kW_back (by decide) (by decide) ha
    rw [keep a _ (by decide) hz]; exact d27 a hz
  · have hz := cl_kW_back (by decide) (by decide) ha
    rw [keep a _ (by decide) hz]; exact d28 a hz
end
end
