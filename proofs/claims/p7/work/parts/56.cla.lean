section
/-! texts are made, whole -/
variable {d : Nat} {h : pm_H} {Q : Option Value → pm_H → Prop}
set_option maxHeartbeats 4000000 in
/-- a LIST is made -/
theorem cl_c44 {t rc tc : Nat} {f26 f27 fn : Nat → Int32} {m : Nat → Int32} (e25 : h.2.2 25 = .inr (6, cl_f25 m)) (e26 : h.2.2 26 = .inl (0, 200, .inl f26)) (e27 : h.2.2 27 = .inl (0, 64, .inl f27)) (e28 : h.2.2 28 = .inl (0, 10, .inl fn)) (n5 : m 5 = Int32.ofNat rc) (n6 : m 6 = Int32.ofNat tc) (hrc : rc ≤ 10) (htc : tc ≤ 16) (hbr : ∀ k, k < rc → sf_B 0 5 (f26 (4 * k)) ∧ sf_B 0 5 (f26 (4 * k + 1)) ∧ sf_B 0 5 (f26 (4 * k + 2))) (hbt : ∀ k, k < tc → sf_B 0 9 (f27 (4 * k)) ∧ sf_B 0 5 (f27 (4 * k + 1)) ∧ sf_B 0 49 (f27 (4 * k + 2))) (hbn : ∀ j, sf_B 0 1023 (fn j)) (et : h.2.2 t = .inr (4, [.int 0, .null, .int 0, .null, .null, .null, .null, .int 0])) (h72 : 72 ≤ t) (ht : h.1 = t + 1) (K : ∀ h_q : pm_H, h_q.1 = t + 6 → h_q.2.1 ≤ h.2.1 + 274 → (∀ b, b < t → h_q.2.2 b = h.2.2 b) → cl_L h_q.2.2 t → Q none h_q) : pm_R (d + 1) 44 0 [.ref t, .ref 25, pm_no, pm_no] [] h Q := by
  have i4 : (Int32.ofNat rc) * 4 = Int32.ofNat (4 * rc) := by rw [Nat.mul_comm, Int32.ofNat_mul]; rfl
  have j4 : (Int32.ofNat tc) * 4 = Int32.ofNat (4 * tc) := by rw [Nat.mul_comm, Int32.ofNat_mul]; rfl
  refine pm_R_lo pm_M44 (pc_q := 1) rfl rfl rfl ?_
  refine pm_R_obj pm_M44 (pc_q := 4) rfl rfl rfl (Nat.le_of_ble_eq_true rfl) rfl ?_
  refine pm_R_lo pm_M44 (pc_q := 5) rfl rfl rfl ?_
  refine pm_R_op pm_M44 (pc_q := 7) (st_q := [.int 60, .ref t]) rfl rfl rfl ?_
  refine pm_R_newa pm_M44 (pc_q := 9) (N := 60) rfl rfl (by decide) rfl (Nat.le_of_ble_eq_true rfl) rfl ?_
  obtain ⟨h1, e1⟩ : ∃ z, pm_push h (.inl (1, pm_newty 1 60)) 60 = z := ⟨_, rfl⟩
  have a1 : h1.1 = t + 2 := by rw [← e1]; show h.1 + 1 = _; omega
  have s1 : h1.2.1 = h.2.1 + 60 := by rw [← e1]; rfl
  have o1 : ∀ b, b < t → h1.2.2 b = h.2.2 b := fun b hb => by rw [← e1, cl_push_lt (by omega)]
  have t1 : h1.2.2 t = .inr (4, [.int 0, .null, .int 0, .null, .null, .null, .null, .int 0]) := by rw [← e1]; rw [cl_push_lt (by omega)]; exact et
  have c1_1 : h1.2.2 (t + 1) = .inl (1, 60, .inr (.inl (fun _ => (0 : Int64)))) := by rw [← e1, ← ht]; exact cl_push_eq
  rw [e1, ht]
  refine pm_R_put pm_M44 (pc_q := 12) (fs_q := [.int 0, .null, .int 0, .null, .null, .ref (t + 1), .null, .int 0]) rfl rfl rfl t1 (by omega) (by omega) (Nat.le_of_ble_eq_true rfl) rfl (Or.inr ⟨pm_N44_ini, rfl, rfl⟩) rfl rfl ?_
  obtain ⟨h2, e2⟩ : ∃ z, pm_set h1 t (.inr (4, [.int 0, .null, .int 0, .null, .null, .ref (t + 1), .null, .int 0])) = z := ⟨_, rfl⟩
  have a2 : h2.1 = t + 2 := by rw [← e2]; exact a1
  have s2 : h2.2.1 = h.2.1 + 60 := by rw [← e2]; exact s1
  have o2 : ∀ b, b < t → h2.2.2 b = h.2.2 b := fun b hb => by rw [← e2, cl_set_ne (by omega)]; exact o1 b hb
  have t2 : h2.2.2 t = .inr (4, [.int 0, .null, .int 0, .null, .null, .ref (t + 1), .null, .int 0]) := by rw [← e2]; exact cl_set_eq
  have c1_2 : h2.2.2 (t + 1) = .inl (1, 60, .inr (.inl (fun _ => (0 : Int64)))) := by rw [← e2, cl_set_ne (by omega)]; exact c1_1
  rw [e2]
  refine pm_R_lo pm_M44 (pc_q := 13) rfl rfl rfl ?_
  refine pm_R_op pm_M44 (pc_q := 15) (st_q := [.int 100, .ref t]) rfl rfl rfl ?_
  refine pm_R_newa pm_M44 (pc_q := 17) (N := 100) rfl rfl (by decide) rfl (Nat.le_of_ble_eq_true rfl) rfl ?_
  obtain ⟨h3, e3⟩ : ∃ z, pm_push h2 (.inl (0, pm_newty 0 100)) 100 = z := ⟨_, rfl⟩
  have a3 : h3.1 = t + 3 := by rw [← e3]; show h2.1 + 1 = _; omega
  have s3 : h3.2.1 = h.2.1 + 60 + 100 := by rw [← e3]; show h2.2.1 + _ = _; rw [s2]
  have o3 : ∀ b, b < t → h3.2.2 b = h.2.2 b := fun b hb => by rw [← e3, cl_push_lt (by omega)]; exact o2 b hb
  have t3 : h3.2.2 t = .inr (4, [.int 0, .null, .int 0, .null, .null, .ref (t + 1), .null, .int 0]) := by rw [← e3]; rw [cl_push_lt (by omega)]; exact t2
  have c1_3 : h3.2.2 (t + 1) = .inl (1, 60, .inr (.inl (fun _ => (0 : Int64)))) := by rw [← e3, cl_push_lt (by omega)]; exact c1_2
  have c2_3 : h3.2.2 (t + 2) = .inl (0, 100, .inl (fun _ => (0 : Int32))) := by rw [← e3, ← a2]; exact cl_push_eq
  rw [e3, a2]
  refine pm_R_put pm_M44 (pc_q := 20) (fs_q := [.int 0, .null, .int 0, .null, .null, .ref (t + 1), .ref (t + 2), .int 0]) rfl rfl rfl t3 (by omega) (by omega) (Nat.le_of_ble_eq_true rfl) rfl (Or.inr ⟨pm_N44_ini, rfl, rfl⟩) rfl rfl ?_
  obtain ⟨h4, e4⟩ : ∃ z, pm_set h3 t (.inr (4, [.int 0, .null, .int 0, .null, .null, .ref (t + 1), .ref (t + 2), .int 0])) = z := ⟨_, rfl⟩
  have a4 : h4.1 = t + 3 := by rw [← e4]; exact a3
  have s4 : h4.2.1 = h.2.1 + 60 + 100 := by rw [← e4]; exact s3
  have o4 : ∀ b, b < t → h4.2.2 b = h.2.2 b := fun b hb => by rw [← e4, cl_set_ne (by omega)]; exact o3 b hb
  have t4 : h4.2.2 t = .inr (4, [.int 0, .null, .int 0, .null, .null, .ref (t + 1), .ref (t + 2), .int 0]) := by rw [← e4]; exact cl_set_eq
  have c1_4 : h4.2.2 (t + 1) = .inl (1, 60, .inr (.inl (fun _ => (0 : Int64)))) := by rw [← e4, cl_set_ne (by omega)]; exact c1_3
  have c2_4 : h4.2.2 (t + 2) = .inl (0, 100, .inl (fun _ => (0 : Int32))) := by rw [← e4, cl_set_ne (by omega)]; exact c2_3
  rw [e4]
  refine pm_R_lo pm_M44 (pc_q := 21) rfl rfl rfl ?_
  refine pm_R_lo pm_M44 (pc_q := 22) rfl rfl rfl ?_
  refine pm_R_get pm_M44 (pc_q := 25) (v := .int (Int32.ofNat rc)) rfl rfl ((o4 25 (by omega)).trans e25) (by decide) (by omega) (congrArg (fun z => some (Value.int z)) n5) rfl ?_
  refine pm_R_put pm_M44 (pc_q := 28) (fs_q := [.int (Int32.ofNat rc), .null, .int 0, .null, .null, .ref (t + 1), .ref (t + 2), .int 0]) rfl rfl rfl t4 (by omega) (by omega) (Nat.le_of_ble_eq_true rfl) rfl (Or.inr ⟨pm_N44_ini, rfl, rfl⟩) rfl rfl ?_
  obtain ⟨h5, e5⟩ : ∃ z, pm_set h4 t (.inr (4, [.int (Int32.ofNat rc), .null, .int 0, .null, .null, .ref (t + 1), .ref (t + 2), .int 0])) = z := ⟨_, rfl⟩
  have a5 : h5.1 = t + 3 := by rw [← e5]; exact a4
  have s5 : h5.2.1 = h.2.1 + 60 + 100 := by rw [← e5]; exact s4
  have o5 : ∀ b, b < t → h5.2.2 b = h.2.2 b := fun b hb => by rw [← e5, cl_set_ne (by omega)]; exact o4 b hb
  have t5 : h5.2.2 t = .inr (4, [.int (Int32.ofNat rc), .null, .int 0, .null, .null, .ref (t + 1), .ref (t + 2), .int 0]) := by rw [← e5]; exact cl_set_eq
  have c1_5 : h5.2.2 (t + 1) = .inl (1, 60, .inr (.inl (fun _ => (0 : Int64)))) := by rw [← e5, cl_set_ne (by omega)]; exact c1_4
  have c2_5 : h5.2.2 (t + 2) = .inl (0, 100, .inl (fun _ => (0 : Int32))) := by rw [← e5, cl_set_ne (by omega)]; exact c2_4
  rw [e5]
  refine pm_R_lo pm_M44 (pc_q := 29) rfl rfl rfl ?_
  refine pm_R_lo pm_M44 (pc_q := 30) rfl rfl rfl ?_
  refine pm_R_get pm_M44 (pc_q := 33) (v := .ref 26) rfl rfl ((o5 25 (by omega)).trans e25) (by decide) (by omega) rfl rfl ?_
  refine pm_R_lo pm_M44 (pc_q := 34) rfl rfl rfl ?_
  refine pm_R_get pm_M44 (pc_q := 37) (v := .int (Int32.ofNat rc)) rfl rfl t5 (by omega) (by omega) rfl rfl ?_
  refine pm_R_op pm_M44 (pc_q := 38) (st_q := [.int 4, .int (Int32.ofNat rc), .ref 26, .ref t]) rfl rfl rfl ?_
  refine pm_R_op pm_M44 (pc_q := 39) (st_q := [.int (Int32.ofNat (4 * rc)), .ref 26, .ref t]) rfl (congrArg (fun z => some [Value.int z, .ref 26, .ref t]) i4) rfl ?_
  refine pm_R_cs pm_M44 (pc_q := 42) (ra := [.int (Int32.ofNat (4 * rc)), .ref 26]) (rest := [.ref t]) (ls_q := [.ref 26, .int (Int32.ofNat (4 * rc)), pm_no]) rfl rfl (Or.inl rfl) pm_M45 rfl rfl (Nat.le_of_ble_eq_true rfl) rfl rfl ?_
  refine cl_c45 (d := d) (n := (4 * rc)) ((o5 26 (by omega)).trans e26) (by decide) (by omega) (by decide) (by omega) rfl (fun h6 gr x6 y6 c3_6 gra grb w6 => ?_)
  have a6 : h6.1 = t + 4 := by omega
  have s6 : h6.2.1 = h.2.1 + 60 + 100 + (4 * rc) := by rw [y6, s5]
  have o6 : ∀ b, b < t → h6.2.2 b = h.2.2 b := fun b hb => by rw [w6 b (by omega)]; exact o5 b hb
  have t6 : h6.2.2 t = .inr (4, [.int (Int32.ofNat rc), .null, .int 0, .null, .null, .ref (t + 1), .ref (t + 2), .int 0]) := by rw [w6 t (by omega)]; exact t5
  have c1_6 : h6.2.2 (t + 1) = .inl (1, 60, .inr (.inl (fun _ => (0 : Int64)))) := by rw [w6 _ (by omega)]; exact c1_5
  have c2_6 : h6.2.2 (t + 2) = .inl (0, 100, .inl (fun _ => (0 : Int32))) := by rw [w6 _ (by omega)]; exact c2_5
  rw [a5] at c3_6
  show pm_R _ 44 42 [.ref t, .ref 25, pm_no, pm_no] [.ref h5.1, .ref t] _ _
  rw [a5]
  refine pm_R_put pm_M44 (pc_q := 45) (fs_q := [.int (Int32.ofNat rc), .ref (t + 3), .int 0, .null, .null, .ref (t + 1), .ref (t + 2), .int 0]) rfl rfl rfl t6 (by omega) (by omega) (Nat.le_of_ble_eq_true rfl) rfl (Or.inr ⟨pm_N44_ini, rfl, rfl⟩) rfl rfl ?_
  obtain ⟨h7, e7⟩ : ∃ z, pm_set h6 t (.inr (4, [.int (Int32.ofNat rc), .ref (t + 3), .int 0, .null, .null, .ref (t + 1), .ref (t + 2), .int 0])) = z := ⟨_, rfl⟩
  have a7 : h7.1 = t + 4 := by rw [← e7]; exact a6
  have s7 : h7.2.1 = h.2.1 + 60 + 100 + (4 * rc) := by rw [← e7]; exact s6
  have o7 : ∀ b, b < t → h7.2.2 b = h.2.2 b := fun b hb => by rw [← e7, cl_set_ne (by omega)]; exact o6 b hb
  have t7 : h7.2.2 t = .inr (4, [.int (Int32.ofNat rc), .ref (t + 3), .int 0, .null, .null, .ref (t + 1), .ref (t + 2), .int 0]) := by rw [← e7]; exact cl_set_eq
  have c1_7 : h7.2.2 (t + 1) = .inl (1, 60, .inr (.inl (fun _ => (0 : Int64)))) := by rw [← e7, cl_set_ne (by omega)]; exact c1_6
  have c2_7 : h7.2.2 (t + 2) = .inl (0, 100, .inl (fun _ => (0 : Int32))) := by rw [← e7, cl_set_ne (by omega)]; exact c2_6
  have c3_7 : h7.2.2 (t + 3) = .inl (0, (4 * rc), .inl gr) := by rw [← e7, cl_set_ne (by omega)]; exact c3_6
  rw [e7]
  refine pm_R_lo pm_M44 (pc_q := 46) rfl rfl rfl ?_
  refine pm_R_lo pm_M44 (pc_q := 47) rfl rfl rfl ?_
  refine pm_R_get pm_M44 (pc_q := 50) (v := .int (Int32.ofNat tc)) rfl rfl ((o7 25 (by omega)).trans e25) (by decide) (by omega) (congrArg (fun z => some (Value.int z)) n6) rfl ?_
  refine pm_R_put pm_M44 (pc_q := 53) (fs_q := [.int (Int32.ofNat rc), .ref (t + 3), .int (Int32.ofNat tc), .null, .null, .ref (t + 1), .ref (t + 2), .int 0]) rfl rfl rfl t7 (by omega) (by omega) (Nat.le_of_ble_eq_true rfl) rfl (Or.inr ⟨pm_N44_ini, rfl, rfl⟩) rfl rfl ?_
  obtain ⟨h8, e8⟩ : ∃ z, pm_set h7 t (.inr (4, [.int (Int32.ofNat rc), .ref (t + 3), .int (Int32.ofNat tc), .null, .null, .ref (t + 1), .ref (t + 2), .int 0])) = z := ⟨_, rfl⟩
  have a8 : h8.1 = t + 4 := by rw [← e8]; exact a7
  have s8 : h8.2.1 = h.2.1 + 60 + 100 + (4 * rc) := by rw [← e8]; exact s7
  have o8 : ∀ b, b < t → h8.2.2 b = h.2.2 b := fun b hb => by rw [← e8, cl_set_ne (by omega)]; exact o7 b hb
  have t8 : h8.2.2 t = .inr (4, [.int (Int32.ofNat rc), .ref (t + 3), .int (Int32.ofNat tc), .null, .null, .ref (t + 1), .ref (t + 2), .int 0]) := by rw [← e8]; exact cl_set_eq
  have c1_8 : h8.2.2 (t + 1) = .inl (1, 60, .inr (.inl (fun _ => (0 : Int64)))) := by rw [← e8, cl_set_ne (by omega)]; exact c1_7
  have c2_8 : h8.2.2 (t + 2) = .inl (0, 100, .inl (fun _ => (0 : Int32))) := by rw [← e8, cl_set_ne (by omega)]; exact c2_7
  have c3_8 : h8.2.2 (t + 3) = .inl (0, (4 * rc), .inl gr) := by rw [← e8, cl_set_ne (by omega)]; exact c3_7
  rw [e8]
  refine pm_R_lo pm_M44 (pc_q := 54) rfl rfl rfl ?_
  refine pm_R_lo pm_M44 (pc_q := 55) rfl rfl rfl ?_
  refine pm_R_get pm_M44 (pc_q := 58) (v := .ref 27) rfl rfl ((o8 25 (by omega)).trans e25) (by decide) (by omega) rfl rfl ?_
  refine pm_R_lo pm_M44 (pc_q := 59) rfl rfl rfl ?_
  refine pm_R_get pm_M44 (pc_q := 62) (v := .int (Int32.ofNat tc)) rfl rfl t8 (by omega) (by omega) rfl rfl ?_
  refine pm_R_op pm_M44 (pc_q := 63) (st_q := [.int 4, .int (Int32.ofNat tc), .ref 27, .ref t]) rfl rfl rfl ?_
  refine pm_R_op pm_M44 (pc_q := 64) (st_q := [.int (Int32.ofNat (4 * tc)), .ref 27, .ref t]) rfl (congrArg (fun z => some [Value.int z, .ref 27, .ref t]) j4) rfl ?_
  refine pm_R_cs pm_M44 (pc_q := 67) (ra := [.int (Int32.ofNat (4 * tc)), .ref 27]) (rest := [.ref t]) (ls_q := [.ref 27, .int (Int32.ofNat (4 * tc)), pm_no]) rfl rfl (Or.inl rfl) pm_M45 rfl rfl (Nat.le_of_ble_eq_true rfl) rfl rfl ?_
  refine cl_c45 (d := d) (n := (4 * tc)) ((o8 27 (by omega)).trans e27) (by decide) (by omega) (by decide) (by omega) rfl (fun h9 gt x9 y9 c4_9 gta gtb w9 => ?_)
  have a9 : h9.1 = t + 5 := by omega
  have s9 : h9.2.1 = h.2.1 + 60 + 100 + (4 * rc) + (4 * tc) := by rw [y9, s8]
  have o9 : ∀ b, b < t → h9.2.2 b = h.2.2 b := fun b hb => by rw [w9 b (by omega)]; exact o8 b hb
  have t9 : h9.2.2 t = .inr (4, [.int (Int32.ofNat rc), .ref (t + 3), .int (Int32.ofNat tc), .null, .null, .ref (t + 1), .ref (t + 2), .int 0]) := by rw [w9 t (by omega)]; exact t8
  have c1_9 : h9.2.2 (t + 1) = .inl (1, 60, .inr (.inl (fun _ => (0 : Int64)))) := by rw [w9 _ (by omega)]; exact c1_8
  have c2_9 : h9.2.2 (t + 2) = .inl (0, 100, .inl (fun _ => (0 : Int32))) := by rw [w9 _ (by omega)]; exact c2_8
  have c3_9 : h9.2.2 (t + 3) = .inl (0, (4 * rc), .inl gr) := by rw [w9 _ (by omega)]; exact c3_8
  rw [a8] at c4_9
  show pm_R _ 44 67 [.ref t, .ref 25, pm_no, pm_no] [.ref h8.1, .ref t] _ _
  rw [a8]
  refine pm_R_put pm_M44 (pc_q := 70) (fs_q := [.int (Int32.ofNat rc), .ref (t + 3), .int (Int32.ofNat tc), .ref (t + 4), .null, .ref (t + 1), .ref (t + 2), .int 0]) rfl rfl rfl t9 (by omega) (by omega) (Nat.le_of_ble_eq_true rfl) rfl (Or.inr ⟨pm_N44_ini, rfl, rfl⟩) rfl rfl ?_
  obtain ⟨h10, e10⟩ : ∃ z, pm_set h9 t (.inr (4, [.int (Int32.ofNat rc), .ref (t + 3), .int (Int32.ofNat tc), .ref (t + 4), .null, .ref (t + 1), .ref (t + 2), .int 0])) = z := ⟨_, rfl⟩
  have a10 : h10.1 = t + 5 := by rw [← e10]; exact a9
  have s10 : h10.2.1 = h.2.1 + 60 + 100 + (4 * rc) + (4 * tc) := by rw [← e10]; exact s9
  have o10 : ∀ b, b < t → h10.2.2 b = h.2.2 b := fun b hb => by rw [← e10, cl_set_ne (by omega)]; exact o9 b hb
  have t10 : h10.2.2 t = .inr (4, [.int (Int32.ofNat rc), .ref (t + 3), .int (Int32.ofNat tc), .ref (t + 4), .null, .ref (t + 1), .ref (t + 2), .int 0]) := by rw [← e10]; exact cl_set_eq
  have c1_10 : h10.2.2 (t + 1) = .inl (1, 60, .inr (.inl (fun _ => (0 : Int64)))) := by rw [← e10, cl_set_ne (by omega)]; exact c1_9
  have c2_10 : h10.2.2 (t + 2) = .inl (0, 100, .inl (fun _ => (0 : Int32))) := by rw [← e10, cl_set_ne (by omega)]; exact c2_9
  have c3_10 : h10.2.2 (t + 3) = .inl (0, (4 * rc), .inl gr) := by rw [← e10, cl_set_ne (by omega)]; exact c3_9
  have c4_10 : h10.2.2 (t + 4) = .inl (0, (4 * tc), .inl gt) := by rw [← e10, cl_set_ne (by omega)]; exact c4_9
  rw [e10]
  refine pm_R_lo pm_M44 (pc_q := 71) rfl rfl rfl ?_
  refine pm_R_lo pm_M44 (pc_q := 72) rfl rfl rfl ?_
  refine pm_R_get pm_M44 (pc_q := 75) (v := .ref 28) rfl rfl ((o10 25 (by omega)).trans e25) (by decide) (by omega) rfl rfl ?_
  refine pm_R_cln pm_M44 (pc_q := 78) rfl rfl rfl ((o10 28 (by omega)).trans e28) (by decide) (by omega) (Nat.le_of_ble_eq_true rfl) rfl ?_
  obtain ⟨h11, e11⟩ : ∃ z, pm_push h10 (.inl (0, 10, .inl fn)) 10 = z := ⟨_, rfl⟩
  have a11 : h11.1 = t + 6 := by rw [← e11]; show h10.1 + 1 = _; omega
  have s11 : h11.2.1 = h.2.1 + 60 + 100 + (4 * rc) + (4 * tc) + 10 := by rw [← e11]; show h10.2.1 + _ = _; rw [s10]
  have o11 : ∀ b, b < t → h11.2.2 b = h.2.2 b := fun b hb => by rw [← e11, cl_push_lt (by omega)]; exact o10 b hb
  have t11 : h11.2.2 t = .inr (4, [.int (Int32.ofNat rc), .ref (t + 3), .int (Int32.ofNat tc), .ref (t + 4), .null, .ref (t + 1), .ref (t + 2), .int 0]) := by rw [← e11]; rw [cl_push_lt (by omega)]; exact t10
  have c1_11 : h11.2.2 (t + 1) = .inl (1, 60, .inr (.inl (fun _ => (0 : Int64)))) := by rw [← e11, cl_push_lt (by omega)]; exact c1_10
  have c2_11 : h11.2.2 (t + 2) = .inl (0, 100, .inl (fun _ => (0 : Int32))) := by rw [← e11, cl_push_lt (by omega)]; exact c2_10
  have c3_11 : h11.2.2 (t + 3) = .inl (0, (4 * rc), .inl gr) := by rw [← e11, cl_push_lt (by omega)]; exact c3_10
  have c4_11 : h11.2.2 (t + 4) = .inl (0, (4 * tc), .inl gt) := by rw [← e11, cl_push_lt (by omega)]; exact c4_10
  have c5_11 : h11.2.2 (t + 5) = .inl (0, 10, .inl fn) := by rw [← e11, ← a10]; exact cl_push_eq
  rw [e11, a10]
  refine cl_R_cast pm_M44 (pc_q := 81) rfl rfl c5_11 (by omega) (by omega) rfl ?_
  refine pm_R_put pm_M44 (pc_q := 84) (fs_q := [.int (Int32.ofNat rc), .ref (t + 3), .int (Int32.ofNat tc), .ref (t + 4), .ref (t + 5), .ref (t + 1), .ref (t + 2), .int 0]) rfl rfl rfl t11 (by omega) (by omega) (Nat.le_of_ble_eq_true rfl) rfl (Or.inr ⟨pm_N44_ini, rfl, rfl⟩) rfl rfl ?_
  obtain ⟨h12, e12⟩ : ∃ z, pm_set h11 t (.inr (4, [.int (Int32.ofNat rc), .ref (t + 3), .int (Int32.ofNat tc), .ref (t + 4), .ref (t + 5), .ref (t + 1), .ref (t + 2), .int 0])) = z := ⟨_, rfl⟩
  have a12 : h12.1 = t + 6 := by rw [← e12]; exact a11
  have s12 : h12.2.1 = h.2.1 + 60 + 100 + (4 * rc) + (4 * tc) + 10 := by rw [← e12]; exact s11
  have o12 : ∀ b, b < t → h12.2.2 b = h.2.2 b := fun b hb => by rw [← e12, cl_set_ne (by omega)]; exact o11 b hb
  have t12 : h12.2.2 t = .inr (4, [.int (Int32.ofNat rc), .ref (t + 3), .int (Int32.ofNat tc), .ref (t + 4), .ref (t + 5), .ref (t + 1), .ref (t + 2), .int 0]) := by rw [← e12]; exact cl_set_eq
  have c1_12 : h12.2.2 (t + 1) = .inl (1, 60, .inr (.inl (fun _ => (0 : Int64)))) := by rw [← e12, cl_set_ne (by omega)]; exact c1_11
  have c2_12 : h12.2.2 (t + 2) = .inl (0, 100, .inl (fun _ => (0 : Int32))) := by rw [← e12, cl_set_ne (by omega)]; exact c2_11
  have c3_12 : h12.2.2 (t + 3) = .inl (0, (4 * rc), .inl gr) := by rw [← e12, cl_set_ne (by omega)]; exact c3_11
  have c4_12 : h12.2.2 (t + 4) = .inl (0, (4 * tc), .inl gt) := by rw [← e12, cl_set_ne (by omega)]; exact c4_11
  have c5_12 : h12.2.2 (t + 5) = .inl (0, 10, .inl fn) := by rw [← e12, cl_set_ne (by omega)]; exact c5_11
  rw [e12]
  have P0 : cl_LW t rc tc gr gt fn h12 h12 := ⟨a12, rfl, fun _ _ => rfl, t12, ⟨_, c1_12⟩, ⟨_, c2_12⟩, c3_12, c4_12, c5_12⟩
  refine cl_c44_l P0 h72 hrc htc (fun k hk => by rw [gta _ (by omega), gta _ (by omega), gta _ (by omega)]; exact hbt k hk) (fun x y h_q P' B => ?_)
  obtain ⟨p1, p2, p3, p4, ⟨fv, p5⟩, ⟨fw, p6⟩, p7, p8, p9⟩ := P'
  refine pm_R_lo pm_M44 (pc_q := 192) (pm_q44_1 (Nat.le_of_ble_eq_true rfl)) rfl rfl ?_
  refine pm_R_lo pm_M44 (pc_q := 193) (pm_q44_1 (Nat.le_of_ble_eq_true rfl)) rfl rfl ?_
  refine pm_R_put pm_M44 (pc_q := 196) (fs_q := [.int (Int32.ofNat rc), .ref (t + 3), .int (Int32.ofNat tc), .ref (t + 4), .ref (t + 5), .ref (t + 1), .ref (t + 2), .int x]) (pm_q44_1 (Nat.le_of_ble_eq_true rfl)) rfl rfl p4 (by omega) (by omega) (Nat.le_of_ble_eq_true rfl) rfl (Or.inr ⟨pm_N44_ini, rfl, rfl⟩) rfl rfl ?_
  refine pm_R_ret pm_M44 (r := none) (pm_q44_1 (Nat.le_of_ble_eq_true rfl)) rfl (K _ p1 (by show h_q.2.1 ≤ _; rw [p2, s12]; omega) (fun b hb => ?_) ⟨rc, tc, x, fv, fw, gr, gt, fn, hrc, htc, B, cl_set_eq, ?_, ?_, ?_, ?_, ?_, fun k hk => ?_, fun k hk => ?_, hbn⟩)
  · rw [cl_set_ne (by omega), p3 b hb]; exact o12 b hb
  · rw [cl_set_ne (by omega)]; exact p5
  · rw [cl_set_ne (by omega)]; exact p6
  · rw [cl_set_ne (by omega)]; exact p7
  · rw [cl_set_ne (by omega)]; exact p8
  · rw [cl_set_ne (by omega)]; exact p9
  · rw [gra _ (by omega), gra _ (by omega), gra _ (by omega)]; exact hbr k hk
  · rw [gta _ (by omega), gta _ (by omega), gta _ (by omega)]; exact hbt k hk
set_option maxHeartbeats 4000000 in
/-- a MEAL is made -/
theorem cl_c48 {t s n : Nat} {f26 : Nat → Int32} {m : Nat → Int32} (e25 : h.2.2 25 = .inr (6, cl_f25 m)) (e26 : h.2.2 26 = .inl (0, 200, .inl f26)) (n5 : m 5 = Int32.ofNat n) (n7 : m 7 = Int32.ofNat s) (hs1 : 1 ≤ s) (hs6 : s ≤ 6) (hn50 : n ≤ 50) (hb : ∀ k, k < n → sf_B 0 2 (f26 (4 * k)) ∧ (0 ≤ (f26 (4 * k + 1)).toInt ∧ (f26 (4 * k + 1)).toInt < s) ∧ sf_B (-1) 9 (f26 (4 * k + 2)) ∧ ((f26 (4 * k)).toInt = 2 → 0 ≤ (f26 (4 * k + 2)).toInt)) (et : h.2.2 t = .inr (1, [.int 0, .int 0, .null, .null, .null])) (h72 : 72 ≤ t) (ht : h.1 = t + 1) (K : ∀ h_q : pm_H, h_q.1 = t + 4 → h_q.2.1 ≤ h.2.1 + 556 → (∀ b, b < t → h_q.2.2 b = h.2.2 b) → cl_M h_q.2.2 t → Q none h_q) : pm_R (d + 2) 48 0 [.ref t, .ref 25, pm_no] [] h Q := by
  have i4 : (Int32.ofNat n) * 4 = Int32.ofNat (4 * n) := by rw [Nat.mul_comm, Int32.ofNat_mul]; rfl
  have i1 : (Int32.ofNat n) + 1 = Int32.ofNat (n + 1) := by rw [Int32.ofNat_add]; rfl
  have ig : Int32.ofNat (n + 1) * (Int32.ofNat s) = Int32.ofNat ((n + 1) * s) := by rw [Int32.ofNat_mul]
  have lg : (n + 1) * s ≤ 51 * 6 := Nat.mul_le_mul (by omega) hs6
  refine pm_R_lo pm_M48 (pc_q := 1) rfl rfl rfl ?_
  refine pm_R_obj pm_M48 (pc_q := 4) rfl rfl rfl (Nat.le_of_ble_eq_true rfl) rfl ?_
  refine pm_R_lo pm_M48 (pc_q := 5) rfl rfl rfl ?_
  refine pm_R_lo pm_M48 (pc_q := 6) rfl rfl rfl ?_
  refine pm_R_get pm_M48 (pc_q := 9) (v := .int (Int32.ofNat s)) rfl rfl e25 (by decide) (by omega) (congrArg (fun z => some (Value.int z)) n7) rfl ?_
  refine pm_R_put pm_M48 (pc_q := 12) (fs_q := [.int (Int32.ofNat s), .int 0, .null, .null, .null]) rfl rfl rfl et (by omega) (by omega) (Nat.le_of_ble_eq_true rfl) rfl (Or.inr ⟨pm_N48_ini, rfl, rfl⟩) rfl rfl ?_
  obtain ⟨h1, e1⟩ : ∃ z, pm_set h t (.inr (1, [.int (Int32.ofNat s), .int 0, .null, .null, .null])) = z := ⟨_, rfl⟩
  have a1 : h1.1 = t + 1 := by rw [← e1]; exact ht
  have s1 : h1.2.1 = h.2.1 := by rw [← e1]; rfl
  have o1 : ∀ b, b < t → h1.2.2 b = h.2.2 b := fun b hb => by rw [← e1, cl_set_ne (by omega)]
  have t1 : h1.2.2 t = .inr (1, [.int (Int32.ofNat s), .int 0, .null, .null, .null]) := by rw [← e1]; exact cl_set_eq
  rw [e1]
  refine pm_R_lo pm_M48 (pc_q := 13) rfl rfl rfl ?_
  refine pm_R_lo pm_M48 (pc_q := 14) rfl rfl rfl ?_
  refine pm_R_get pm_M48 (pc_q := 17) (v := .int (Int32.ofNat n)) rfl rfl ((o1 25 (by omega)).trans e25) (by decide) (by omega) (congrArg (fun z => some (Value.int z)) n5) rfl ?_
  refine pm_R_put pm_M48 (pc_q := 20) (fs_q := [.int (Int32.ofNat s), .int (Int32.ofNat n), .null, .null, .null]) rfl rfl rfl t1 (by omega) (by omega) (Nat.le_of_ble_eq_true rfl) rfl (Or.inr ⟨pm_N48_ini, rfl, rfl⟩) rfl rfl ?_
  obtain ⟨h2, e2⟩ : ∃ z, pm_set h1 t (.inr (1, [.int (Int32.ofNat s), .int (Int32.ofNat n), .null, .null, .null])) = z := ⟨_, rfl⟩
  have a2 : h2.1 = t + 1 := by rw [← e2]; exact a1
  have s2 : h2.2.1 = h.2.1 := by rw [← e2]; exact s1
  have o2 : ∀ b, b < t → h2.2.2 b = h.2.2 b := fun b hb => by rw [← e2, cl_set_ne (by omega)]; exact o1 b hb
  have t2 : h2.2.2 t = .inr (1, [.int (Int32.ofNat s), .int (Int32.ofNat n), .null, .null, .null]) := by rw [← e2]; exact cl_set_eq
  rw [e2]
  refine pm_R_lo pm_M48 (pc_q := 21) rfl rfl rfl ?_
  refine pm_R_lo pm_M48 (pc_q := 22) rfl rfl rfl ?_
  refine pm_R_get pm_M48 (pc_q := 25) (v := .ref 26) rfl rfl ((o2 25 (by omega)).trans e25) (by decide) (by omega) rfl rfl ?_
  refine pm_R_lo pm_M48 (pc_q := 26) rfl rfl rfl ?_
  refine pm_R_get pm_M48 (pc_q := 29) (v := .int (Int32.ofNat n)) rfl rfl t2 (by omega) (by omega) rfl rfl ?_
  refine pm_R_op pm_M48 (pc_q := 30) (st_q := [.int 4, .int (Int32.ofNat n), .ref 26, .ref t]) rfl rfl rfl ?_
  refine pm_R_op pm_M48 (pc_q := 31) (st_q := [.int (Int32.ofNat (4 * n)), .ref 26, .ref t]) rfl (congrArg (fun z => some [Value.int z, .ref 26, .ref t]) i4) rfl ?_
  refine pm_R_cs pm_M48 (pc_q := 34) (ra := [.int (Int32.ofNat (4 * n)), .ref 26]) (rest := [.ref t]) (ls_q := [.ref 26, .int (Int32.ofNat (4 * n)), pm_no]) rfl rfl (Or.inl rfl) pm_M45 rfl rfl (Nat.le_of_ble_eq_true rfl) rfl rfl ?_
  refine cl_c45 (d := d + 1) (n := (4 * n)) ((o2 26 (by omega)).trans e26) (by decide) (by omega) (by decide) (by omega) rfl (fun h3 fd x3 y3 c1_3 fda fdb w3 => ?_)
  have a3 : h3.1 = t + 2 := by omega
  have s3 : h3.2.1 = h.2.1 + (4 * n) := by rw [y3, s2]
  have o3 : ∀ b, b < t → h3.2.2 b = h.2.2 b := fun b hb => by rw [w3 b (by omega)]; exact o2 b hb
  have t3 : h3.2.2 t = .inr (1, [.int (Int32.ofNat s), .int (Int32.ofNat n), .null, .null, .null]) := by rw [w3 t (by omega)]; exact t2
  rw [a2] at c1_3
  show pm_R _ 48 34 [.ref t, .ref 25, pm_no] [.ref h2.1, .ref t] _ _
  rw [a2]
  refine pm_R_put pm_M48 (pc_q := 37) (fs_q := [.int (Int32.ofNat s), .int (Int32.ofNat n), .ref (t + 1), .null, .null]) rfl rfl rfl t3 (by omega) (by omega) (Nat.le_of_ble_eq_true rfl) rfl (Or.inr ⟨pm_N48_ini, rfl, rfl⟩) rfl rfl ?_
  obtain ⟨h4, e4⟩ : ∃ z, pm_set h3 t (.inr (1, [.int (Int32.ofNat s), .int (Int32.ofNat n), .ref (t + 1), .null, .null])) = z := ⟨_, rfl⟩
  have a4 : h4.1 = t + 2 := by rw [← e4]; exact a3
  have s4 : h4.2.1 = h.2.1 + (4 * n) := by rw [← e4]; exact s3
  have o4 : ∀ b, b < t → h4.2.2 b = h.2.2 b := fun b hb => by rw [← e4, cl_set_ne (by omega)]; exact o3 b hb
  have t4 : h4.2.2 t = .inr (1, [.int (Int32.ofNat s), .int (Int32.ofNat n), .ref (t + 1), .null, .null]) := by rw [← e4]; exact cl_set_eq
  have c1_4 : h4.2.2 (t + 1) = .inl (0, (4 * n), .inl fd) := by rw [← e4, cl_set_ne (by omega)]; exact c1_3
  rw [e4]
  refine pm_R_lo pm_M48 (pc_q := 38) rfl rfl rfl ?_
  refine pm_R_lo pm_M48 (pc_q := 39) rfl rfl rfl ?_
  refine pm_R_get pm_M48 (pc_q := 42) (v := .int (Int32.ofNat n)) rfl rfl t4 (by omega) (by omega) rfl rfl ?_
  refine pm_R_op pm_M48 (pc_q := 43) (st_q := [.int 1, .int (Int32.ofNat n), .ref t]) rfl rfl rfl ?_
  refine pm_R_op pm_M48 (pc_q := 44) (st_q := [.int (Int32.ofNat (n + 1)), .ref t]) rfl (congrArg (fun z => some [Value.int z, .ref t]) i1) rfl ?_
  refine pm_R_lo pm_M48 (pc_q := 45) rfl rfl rfl ?_
  refine pm_R_get pm_M48 (pc_q := 48) (v := .int (Int32.ofNat s)) rfl rfl t4 (by omega) (by omega) rfl rfl ?_
  refine pm_R_op pm_M48 (pc_q := 49) (st_q := [.int (Int32.ofNat ((n + 1) * s)), .ref t]) rfl (congrArg (fun z => some [Value.int z, .ref t]) ig) rfl ?_
  refine pm_R_newa pm_M48 (pc_q := 51) (N := (n + 1) * s) rfl rfl (cl_nn (by omega)) (cl_tnN (by omega)) (by omega) rfl ?_
  obtain ⟨h5, e5⟩ : ∃ z, pm_push h4 (.inl (0, pm_newty 0 ((n + 1) * s))) ((n + 1) * s) = z := ⟨_, rfl⟩
  have a5 : h5.1 = t + 3 := by rw [← e5]; show h4.1 + 1 = _; omega
  have s5 : h5.2.1 = h.2.1 + (4 * n) + (n + 1) * s := by rw [← e5]; show h4.2.1 + _ = _; rw [s4]
  have o5 : ∀ b, b < t → h5.2.2 b = h.2.2 b := fun b hb => by rw [← e5, cl_push_lt (by omega)]; exact o4 b hb
  have t5 : h5.2.2 t = .inr (1, [.int (Int32.ofNat s), .int (Int32.ofNat n), .ref (t + 1), .null, .null]) := by rw [← e5]; rw [cl_push_lt (by omega)]; exact t4
  have c1_5 : h5.2.2 (t + 1) = .inl (0, (4 * n), .inl fd) := by rw [← e5, cl_push_lt (by omega)]; exact c1_4
  have c2_5 : h5.2.2 (t + 2) = .inl (0, (n + 1) * s, .inl (fun _ => (0 : Int32))) := by rw [← e5, ← a4]; exact cl_push_eq
  rw [e5, a4]
  refine pm_R_put pm_M48 (pc_q := 54) (fs_q := [.int (Int32.ofNat s), .int (Int32.ofNat n), .ref (t + 1), .ref (t + 2), .null]) rfl rfl rfl t5 (by omega) (by omega) (Nat.le_of_ble_eq_true rfl) rfl (Or.inr ⟨pm_N48_ini, rfl, rfl⟩) rfl rfl ?_
  obtain ⟨h6, e6⟩ : ∃ z, pm_set h5 t (.inr (1, [.int (Int32.ofNat s), .int (Int32.ofNat n), .ref (t + 1), .ref (t + 2), .null])) = z := ⟨_, rfl⟩
  have a6 : h6.1 = t + 3 := by rw [← e6]; exact a5
  have s6 : h6.2.1 = h.2.1 + (4 * n) + (n + 1) * s := by rw [← e6]; exact s5
  have o6 : ∀ b, b < t → h6.2.2 b = h.2.2 b := fun b hb => by rw [← e6, cl_set_ne (by omega)]; exact o5 b hb
  have t6 : h6.2.2 t = .inr (1, [.int (Int32.ofNat s), .int (Int32.ofNat n), .ref (t + 1), .ref (t + 2), .null]) := by rw [← e6]; exact cl_set_eq
  have c1_6 : h6.2.2 (t + 1) = .inl (0, (4 * n), .inl fd) := by rw [← e6, cl_set_ne (by omega)]; exact c1_5
  have c2_6 : h6.2.2 (t + 2) = .inl (0, (n + 1) * s, .inl (fun _ => (0 : Int32))) := by rw [← e6, cl_set_ne (by omega)]; exact c2_5
  rw [e6]
  refine pm_R_lo pm_M48 (pc_q := 55) rfl rfl rfl ?_
  refine pm_R_lo pm_M48 (pc_q := 56) rfl rfl rfl ?_
  refine pm_R_get pm_M48 (pc_q := 59) (v := .int (Int32.ofNat n)) rfl rfl t6 (by omega) (by omega) rfl rfl ?_
  refine pm_R_newa pm_M48 (pc_q := 61) (N := n) rfl rfl (cl_nn (by omega)) (cl_tnN (by omega)) (by omega) rfl ?_
  obtain ⟨h7, e7⟩ : ∃ z, pm_push h6 (.inl (0, pm_newty 0 n)) n = z := ⟨_, rfl⟩
  have a7 : h7.1 = t + 4 := by rw [← e7]; show h6.1 + 1 = _; omega
  have s7 : h7.2.1 = h.2.1 + (4 * n) + (n + 1) * s + n := by rw [← e7]; show h6.2.1 + _ = _; rw [s6]
  have o7 : ∀ b, b < t → h7.2.2 b = h.2.2 b := fun b hb => by rw [← e7, cl_push_lt (by omega)]; exact o6 b hb
  have t7 : h7.2.2 t = .inr (1, [.int (Int32.ofNat s), .int (Int32.ofNat n), .ref (t + 1), .ref (t + 2), .null]) := by rw [← e7]; rw [cl_push_lt (by omega)]; exact t6
  have c1_7 : h7.2.2 (t + 1) = .inl (0, (4 * n), .inl fd) := by rw [← e7, cl_push_lt (by omega)]; exact c1_6
  have c2_7 : h7.2.2 (t + 2) = .inl (0, (n + 1) * s, .inl (fun _ => (0 : Int32))) := by rw [← e7, cl_push_lt (by omega)]; exact c2_6
  have c3_7 : h7.2.2 (t + 3) = .inl (0, n, .inl (fun _ => (0 : Int32))) := by rw [← e7, ← a6]; exact cl_push_eq
  rw [e7, a6]
  refine pm_R_put pm_M48 (pc_q := 64) (fs_q := [.int (Int32.ofNat s), .int (Int32.ofNat n), .ref (t + 1), .ref (t + 2), .ref (t + 3)]) rfl rfl rfl t7 (by omega) (by omega) (Nat.le_of_ble_eq_true rfl) rfl (Or.inr ⟨pm_N48_ini, rfl, rfl⟩) rfl rfl ?_
  obtain ⟨h8, e8⟩ : ∃ z, pm_set h7 t (.inr (1, [.int (Int32.ofNat s), .int (Int32.ofNat n), .ref (t + 1), .ref (t + 2), .ref (t + 3)])) = z := ⟨_, rfl⟩
  have a8 : h8.1 = t + 4 := by rw [← e8]; exact a7
  have s8 : h8.2.1 = h.2.1 + (4 * n) + (n + 1) * s + n := by rw [← e8]; exact s7
  have o8 : ∀ b, b < t → h8.2.2 b = h.2.2 b := fun b hb => by rw [← e8, cl_set_ne (by omega)]; exact o7 b hb
  have t8 : h8.2.2 t = .inr (1, [.int (Int32.ofNat s), .int (Int32.ofNat n), .ref (t + 1), .ref (t + 2), .ref (t + 3)]) := by rw [← e8]; exact cl_set_eq
  have c1_8 : h8.2.2 (t + 1) = .inl (0, (4 * n), .inl fd) := by rw [← e8, cl_set_ne (by omega)]; exact c1_7
  have c2_8 : h8.2.2 (t + 2) = .inl (0, (n + 1) * s, .inl (fun _ => (0 : Int32))) := by rw [← e8, cl_set_ne (by omega)]; exact c2_7
  have c3_8 : h8.2.2 (t + 3) = .inl (0, n, .inl (fun _ => (0 : Int32))) := by rw [← e8, cl_set_ne (by omega)]; exact c3_7
  rw [e8]
  have hbd : ∀ k, k < n → sf_B 0 2 (fd (4 * k)) ∧ (0 ≤ (fd (4 * k + 1)).toInt ∧ (fd (4 * k + 1)).toInt < s) ∧ sf_B (-1) 9 (fd (4 * k + 2)) ∧ ((fd (4 * k)).toInt = 2 → 0 ≤ (fd (4 * k + 2)).toInt) := fun k hk => by rw [fda _ (by omega), fda _ (by omega), fda _ (by omega)]; exact hb k hk
  have P0 : cl_MW t s n fd h8 h8 := ⟨a8, rfl, fun _ _ => rfl, t8, c1_8, ⟨_, c2_8⟩, ⟨_, c3_8⟩⟩
  refine cl_c48_l P0 h72 hs1 hs6 hn50 hbd (fun h_q P' => ?_)
  obtain ⟨p1, p2, p3, p4, p5, ⟨fg, p6⟩, ⟨fs, p7⟩⟩ := P'
  exact K _ p1 (by rw [p2, s8]; omega) (fun b hb => (p3 b hb).trans (o8 b hb)) ⟨s, n, fd, fg, fs, hs1, hs6, hn50, p4, p5, p6, p7, hbd⟩
end
