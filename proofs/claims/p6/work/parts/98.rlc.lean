/-! THE LAW'S LOOP keeps it: from cells to views -/
theorem ex_vi {a b : Int32} (h : some (Value.int a) = some (.int b)) : b = a := by cases h; rfl
theorem ex_vl {a b : Int64} (h : some (Value.long a) = some (.long b)) : b = a := by cases h; rfl
section
variable {ck ck1 : cl_K} {E E1 : Nat → pm_E} {m m1 mr : Nat → Int32} {o o1 : Nat → Option Nat} {wr : Int64} {h h1 h2 : pm_H}
theorem ck_img {b c : Nat} (G : cl_G ck E) (hk : ck b = 15) (c1 : b ≤ c) (c2 : c < b + 7) : 15 ≤ ck c ∧ ck c ≤ 21 ∧ (b < c → ck c ≠ 15) := by
  obtain ⟨g1, g2, g3, g4, g5, g6⟩ := G.2.2.2.2.2.1 b hk
  rcases (show c = b ∨ c = b + 1 ∨ c = b + 2 ∨ c = b + 3 ∨ c = b + 4 ∨ c = b + 5 ∨ c = b + 6 by omega) with w | w | w | w | w | w | w <;> subst w <;> refine ⟨by omega, by omega, fun _ => by omega⟩
theorem img_keep {A : List Nat} {n s : Nat} (G : cl_G ck E) (T : cl_T ck E m o h) (F : cl_F ck A n s h h1) (hA : (A.all fun a => decide (a < 72)) = true) : ∀ i b, i < 3 → (ex_V h).2.2.1 24 i = some b → ∀ c, b ≤ c → c < b + 7 → h1.2.2 c = h.2.2 c := by
  intro i b hi eb c c1 c2
  obtain ⟨f, e, hO⟩ := T.C 24 (by decide) (by decide)
  have eb : ex_eZ (h.2.2 24) i = some b := eb
  rw [e] at eb
  have hk := hO i b eb
  have b72 := G.1 b (by rw [hk]; decide)
  obtain ⟨k1, k2, _⟩ := ck_img G hk c1 c2
  refine F.2.2.2.2 c (T.al rfl (by omega)) (fun z => ?_) (by omega)
  have := List.all_eq_true.mp hA c z
  simp only [decide_eq_true_eq] at this
  omega
theorem R1_cl {A : List Nat} {n s : Nat} (G : cl_G ck E) (T : cl_T ck E m o h) (F : cl_F ck A n s h h1) (hA : (A.all fun a => decide (a < 72) && decide (a < 17 ∨ 24 < a) && decide (a < 41)) = true) (R : R1 (ex_V h)) : R1 (ex_V h1) := by
  have nA : ∀ a ∈ A, (a < 17 ∨ 24 < a) ∧ a < 41 := fun a ha => by
    have := List.all_eq_true.mp hA a ha
    simp only [Bool.and_eq_true, decide_eq_true_eq] at this
    exact ⟨this.1.2, this.2⟩
  have low : ∀ a, (17 ≤ a ∧ a ≤ 24) ∨ (41 ≤ a ∧ a < 72) → h1.2.2 a = h.2.2 a := fun a ha => F.cell G (fun z => by have := nA a z; omega) (by omega) rfl
  refine R.keep (fun c j hc => congrArg (fun e => ex_eX e j) (low c (by omega))) (fun i => congrArg (fun e => ex_eZ e i) (low 24 (by omega))) (fun i b hi eb c j c1 c2 => congrArg (fun e => ex_eX e j) (img_keep G T F ?_ i b hi eb c c1 c2))
  refine List.all_eq_true.mpr (fun a ha => decide_eq_true ?_)
  have := nA a ha
  omega
theorem R1_rf {A : List Nat} (F : rf_G A h h2) (hA : (A.all fun a => decide (41 ≤ a) && decide (a < 71) && decide (a < 42 ∨ 46 < a)) = true) (R : R1 (ex_V h)) : R1 (ex_V h2) := by
  have no : ∀ a, a < 41 ∨ (42 ≤ a ∧ a ≤ 46) ∨ 70 < a → h2.2.2 a = h.2.2 a := fun a ha => F.2.2 a (fun z => by
    have := List.all_eq_true.mp hA a z
    simp only [Bool.and_eq_true, decide_eq_true_eq] at this
    omega)
  exact R.keep (fun c j hc => congrArg (fun e => ex_eX e j) (no c (by omega))) (fun i => congrArg (fun e => ex_eZ e i) (no 24 (by omega))) (fun i b hi eb c j c1 c2 => congrArg (fun e => ex_eX e j) (no c (by have := (R.2.1 i b hi eb).1; omega)))
theorem tW_of (G : cl_G ck E) (T : cl_T ck E m o h) (S : p2_S m h) : tW (ex_V h) := by
  obtain ⟨g, q, f, e1, e2, e3, e4, e5, e6, e7⟩ := S
  obtain ⟨f0, ef0, hO⟩ := T.C 24 (by decide) (by decide)
  rw [e3] at ef0; cases ef0
  have z24 : ∀ i, (ex_V h).2.2.1 24 i = f i := fun i => by
    show ex_eZ (h.2.2 24) i = f i
    rw [e3]; rfl
  refine ⟨⟨?_, ?_, fun x hx => ?_⟩, T.1, fun i b hi eb => ?_, fun i k b c hi hk hne eb ec => ?_⟩
  · show ex_eZ (h.2.2 17) 0 = some 18
    rw [T.e17]; rfl
  · show ex_eZ (h.2.2 17) 8 = some 23
    rw [T.e17]; rfl
  · match x, hx with
    | 0, _ =>
      obtain ⟨f', e, _⟩ := T.C 19 (by decide) (by decide)
      refine ⟨?_, ?_⟩
      · show ex_eZ (h.2.2 17) 4 = some 19
        rw [T.e17]; rfl
      · show ex_eL (h.2.2 19) = 2
        rw [e]; rfl
    | 1, _ =>
      obtain ⟨f', e, _⟩ := T.C 20 (by decide) (by decide)
      refine ⟨?_, ?_⟩
      · show ex_eZ (h.2.2 17) 5 = some 20
        rw [T.e17]; rfl
      · show ex_eL (h.2.2 20) = 3
        rw [e]; rfl
    | 2, _ =>
      obtain ⟨f', e, _⟩ := T.C 21 (by decide) (by decide)
      refine ⟨?_, ?_⟩
      · show ex_eZ (h.2.2 17) 6 = some 21
        rw [T.e17]; rfl
      · show ex_eL (h.2.2 21) = 2
        rw [e]; rfl
    | 3, _ =>
      obtain ⟨f', e, _⟩ := T.C 22 (by decide) (by decide)
      refine ⟨?_, ?_⟩
      · show ex_eZ (h.2.2 17) 7 = some 22
        rw [T.e17]; rfl
      · show ex_eL (h.2.2 22) = 2
        rw [e]; rfl
    | x + 4, hx => exact absurd hx (by omega)
  · rw [z24] at eb
    have hk := hO i b eb
    obtain ⟨g1, g2, g3, g4, g5, g6⟩ := G.2.2.2.2.2.1 b hk
    have b6 := T.al g6 (by decide)
    obtain ⟨s, t, u, _, _, _, d1, d2, d3, d4, d5, d6, d7, _⟩ := T.D.1 b hk
    refine ⟨G.1 b (by rw [hk]; decide), ?_, ?_, ?_, fun x hx => ?_⟩
    · show b + 7 ≤ h.1
      omega
    · show ex_eZ (h.2.2 b) 0 = some (b + 1)
      rw [d1]; rfl
    · show ex_eZ (h.2.2 b) 8 = some (b + 6)
      rw [d1]; rfl
    · match x, hx with
      | 0, _ =>
        obtain ⟨f', e, _⟩ := d3
        refine ⟨?_, ?_⟩
        · show ex_eZ (h.2.2 b) 4 = some (b + 2)
          rw [d1]; rfl
        · show ex_eL (h.2.2 (b + 2)) = 2
          rw [e]; rfl
      | 1, _ =>
        obtain ⟨f', e, _⟩ := d4
        refine ⟨?_, ?_⟩
        · show ex_eZ (h.2.2 b) 5 = some (b + 3)
          rw [d1]; rfl
        · show ex_eL (h.2.2 (b + 3)) = 3
          rw [e]; rfl
      | 2, _ =>
        obtain ⟨f', e, _⟩ := d5
        refine ⟨?_, ?_⟩
        · show ex_eZ (h.2.2 b) 6 = some (b + 4)
          rw [d1]; rfl
        · show ex_eL (h.2.2 (b + 4)) = 2
          rw [e]; rfl
      | 3, _ =>
        obtain ⟨f', e, _⟩ := d6
        refine ⟨?_, ?_⟩
        · show ex_eZ (h.2.2 b) 7 = some (b + 5)
          rw [d1]; rfl
        · show ex_eL (h.2.2 (b + 5)) = 2
          rw [e]; rfl
      | x + 4, hx => exact absurd hx (by omega)
  · rw [z24] at eb ec
    have hb := hO i b eb
    have hc := hO k c ec
    have n1 : ¬ (b < c ∧ c < b + 7) := fun z => (ck_img G hb (by omega) z.2).2.2 z.1 hc
    have n2 : ¬ (c < b ∧ b < c + 7) := fun z => (ck_img G hc (by omega) z.2).2.2 z.1 hb
    have n3 : b ≠ c := fun z => hne (e7 i k b hi hk eb (by rw [z]; exact ec))
    unfold tD
    omega
theorem sz_of (T : cl_T ck E m o h) : ∃ n, (ex_V h).1 17 1 = Int32.ofNat n ∧ n ≤ 600 := by
  have b0 : 0 ≤ (m 0).toInt := (T.B 0).1
  have b1 : (m 0).toInt ≤ 600 := (T.B 0).2
  refine ⟨(m 0).toInt.toNat, ?_, by omega⟩
  show ex_eX (h.2.2 17) 1 = _
  rw [T.e17]
  show m 0 = _
  apply Int32.toInt_inj.mp
  rw [n32_i (by omega)]
  omega
theorem KV_of (K : ex_K h) : ex_KV (ex_V h) := fun a a1 a2 => ⟨fun j => by
  show ex_eX (h.2.2 a) j = _
  rw [K.1 a a1 a2]; rfl, by
  show ex_eL (h.2.2 a) = _
  rw [K.1 a a1 a2]⟩
theorem cq11_of {n : Nat} (T : cl_T ck E m o h) (K : ex_K h) (hn : n ≤ 600) : cq11 (ex_V h) n := by
  obtain ⟨f18, e18⟩ := T.C 18 (by decide) (by decide)
  obtain ⟨f28, e28⟩ := T.C 28 (by decide) (by decide)
  obtain ⟨f29, e29⟩ := T.C 29 (by decide) (by decide)
  refine ⟨hn, ?_, ?_, ?_, KV_of K⟩
  · show ex_eL (h.2.2 18) = 600
    rw [e18]; rfl
  · show ex_eL (h.2.2 28) = 10
    rw [e28]; rfl
  · show ex_eL (h.2.2 29) = 4
    rw [e29]; rfl
theorem rxq_of {n : Nat} (Tr : rf_T mr wr h) (e43 : (ex_V h).1 43 0 = Int32.ofNat n) (hn : n ≤ 600) (hB : ∀ i, sf_B (-128) 127 ((ex_V h).1 42 i)) : rxq (ex_V h) n := by
  obtain ⟨f, e, b⟩ := Tr.2.2.2.1 46 (by decide) (by decide)
  refine ⟨e43, hn, hB, fun k hk => ?_⟩
  have ef : (ex_V h).1 46 k = f k := by
    show ex_eX (h.2.2 46) k = f k
    rw [e]; rfl
  rw [ef]
  have bk := b k
  match k, hk, bk with
  | 0, _, bk => exact ⟨⟨bk.1, Int.le_trans bk.2 (by decide)⟩, Int32.le_iff_toInt_le.mpr bk.2⟩
  | 1, _, bk => exact ⟨⟨bk.1, bk.2⟩, Int32.le_iff_toInt_le.mpr bk.2⟩
  | 2, _, bk => exact ⟨⟨bk.1, Int.le_trans bk.2 (by decide)⟩, Int32.le_iff_toInt_le.mpr bk.2⟩
  | 3, _, bk => exact ⟨⟨bk.1, Int.le_trans bk.2 (by decide)⟩, Int32.le_iff_toInt_le.mpr bk.2⟩
  | k + 4, hk, _ => exact absurd hk (by omega)
theorem R_text_h {A : List Nat} {n s nn : Nat} {x1 x2 r1 r2 : Int32} (G : cl_G ck E) (T : cl_T ck E m o h) (F : cl_F ck A n s h h1) (hA : (A.all fun a => decide (a < 72)) = true) (en : (ex_V h).1 17 1 = Int32.ofNat nn) (hnn : nn ≤ 600) (K : ex_K h) (R : R1 (ex_V h)) (P1 : cxC x1 x2 (ex_V h) r1 (ex_V h1)) (ot : ∀ a, 41 ≤ a → a < 72 → h1.2.2 a = h.2.2 a) (g24 : h1.2.2 24 = h.2.2 24) (Tr1 : rf_T mr wr h1) (P2 : rxC x1 x2 (ex_V h1) r2 (ex_V h2)) (hi2 : ∀ a, (a < 41 ∨ 71 < a) → h2.2.2 a = h1.2.2 a) : r1 = r2 ∧ R1 (ex_V h2) := by
  have v1 : ∀ c j, 41 ≤ c → c < 72 → (ex_V h1).1 c j = (ex_V h).1 c j := fun c j c1 c2 => congrArg (fun e => ex_eX e j) (ot c c1 c2)
  have e43 : (ex_V h1).1 43 0 = Int32.ofNat nn := (v1 43 0 (by decide) (by decide)).trans ((R.1.2.1 1 (by decide) (by decide)).symm.trans en)
  have hB : ∀ i, sf_B (-128) 127 ((ex_V h1).1 42 i) := fun i => by rw [v1 42 i (by decide) (by decide)]; exact R.2.2.2 i
  exact R_text en (cq11_of T K hnn) R P1 v1 (fun i => congrArg (fun e => ex_eZ e i) g24) (fun i b hi eb c j c1 c2 => congrArg (fun e => ex_eX e j) (img_keep G T F hA i b hi eb c c1 c2)) (rxq_of Tr1 e43 hnn hB) P2 (fun c j hc => congrArg (fun e => ex_eX e j) (hi2 c hc)) (fun i => congrArg (fun e => ex_eZ e i) (hi2 24 (by omega)))
end
def p4_I (L : Nat) (xs : Nat → Int32) (j : Nat) (h : pm_H) : Prop := p2_I L xs j h ∧ ex_W h ∧ ex_K h ∧ R1 (ex_V h)
/-- how it begins -/
def iwv (k : Nat) (v : Value) : Bool := match k with | 0 => (match v with | .int _ => true | _ => false) | 1 => (match v with | .long _ => true | _ => false) | 2 => (match v with | .null => true | .ref _ => true | _ => false) | _ => true
theorem iwv_ok {k : Nat} {v : Value} (h : iwv k v = true) : ex_kv k v := by
  match k, v, h with
  | 0, .int x, _ => exact ⟨x, rfl⟩
  | 1, .long x, _ => exact ⟨x, rfl⟩
  | 2, .null, _ => exact ⟨none, rfl⟩
  | 2, .ref a, _ => exact ⟨some a, rfl⟩
  | k + 3, _, _ => trivial
def iwb (e : pm_E) : Bool := match e with | .inr (ci, fs) => (List.range fs.length).all (fun k => match fs[k]? with | some v => iwv (ex_ft ci k) v | none => true) | .inl _ => true
set_option maxRecDepth 100000 in
theorem iwb_all (fm : Bool) (L : Nat) (xs : Nat → Int32) : ∀ a, 16 ≤ a → a < 72 → iwb (pm_fF fm L xs a) = true := fun a h1 h2 => by
  match a, h1, h2 with
  | 16, _, _ => rfl
  | 17, _, _ => rfl
  | 18, _, _ => rfl
  | 19, _, _ => rfl
  | 20, _, _ => rfl
  | 21, _, _ => rfl
  | 22, _, _ => rfl
  | 23, _, _ => rfl
  | 24, _, _ => rfl
  | 25, _, _ => rfl
  | 26, _, _ => rfl
  | 27, _, _ => rfl
  | 28, _, _ => rfl
  | 29, _, _ => rfl
  | 30, _, _ => rfl
  | 31, _, _ => rfl
  | 32, _, _ => rfl
  | 33, _, _ => rfl
  | 34, _, _ => rfl
  | 35, _, _ => rfl
  | 36, _, _ => rfl
  | 37, _, _ => rfl
  | 38, _, _ => rfl
  | 39, _, _ => rfl
  | 40, _, _ => rfl
  | 41, _, _ => rfl
  | 42, _, _ => rfl
  | 43, _, _ => rfl
  | 44, _, _ => rfl
  | 45, _, _ => rfl
  | 46, _, _ => rfl
  | 47, _, _ => rfl
  | 48, _, _ => rfl
  | 49, _, _ => rfl
  | 50, _, _ => rfl
  | 51, _, _ => rfl
  | 52, _, _ => rfl
  | 53, _, _ => rfl
  | 54, _, _ => rfl
  | 55, _, _ => rfl
  | 56, _, _ => rfl
  | 57, _, _ => rfl
  | 58, _, _ => rfl
  | 59, _, _ => rfl
  | 60, _, _ => rfl
  | 61, _, _ => rfl
  | 62, _, _ => rfl
  | 63, _, _ => rfl
  | 64, _, _ => rfl
  | 65, _, _ => rfl
  | 66, _, _ => rfl
  | 67, _, _ => rfl
  | 68, _, _ => rfl
  | 69, _, _ => rfl
  | 70, _, _ => rfl
  | 71, _, _ => rfl
  | a + 72, _, h => exact absurd h (by omega)
def itb (F : Nat → pm_E) (x : Nat × Nat × Nat × Nat) : Bool := match F x.1 with | .inr (ci, fs) => Nat.beq ci x.2.1 && (match fs[x.2.2.1]? with | some (.ref b) => Nat.beq b x.2.2.2 | _ => false) | .inl _ => false
set_option maxRecDepth 100000 in
theorem itb_all (fm : Bool) (L : Nat) (xs : Nat → Int32) : ex_tab.all (itb (pm_fF fm L xs)) = true := rfl
theorem itb_ok {F : Nat → pm_E} {x : Nat × Nat × Nat × Nat} (h : itb F x = true) : ∃ fs, F x.1 = .inr (x.2.1, fs) ∧ fs[x.2.2.1]? = some (.ref x.2.2.2) := by
  unfold itb at h
  split at h
  · rename_i ci fs e
    rw [Bool.and_eq_true] at h
    obtain ⟨h1, h2⟩ := h
    have h1 := Nat.eq_of_beq_eq_true h1
    subst h1
    split at h2
    · rename_i b e2
      have h2 := Nat.eq_of_beq_eq_true h2
      exact ⟨fs, e, by rw [e2, h2]⟩
    · cases h2
  · cases h
set_option maxRecDepth 100000 in
theorem p4_K0 {fm : Bool} {L : Nat} {xs : Nat → Int32} {f : Nat → pm_E} (hf : ∀ i, i < 72 → f i = pm_fF fm L xs i) : ex_W (72, 52657, f) ∧ ex_K (72, 52657, f) := by
  refine ⟨fun a ci fs hb b1 b2 k v hv => ?_, fun a a1 a2 => ?_, Nat.le_refl _, fun x hx => ?_, fun x hx => ?_⟩
  · have hb : f a = .inr (ci, fs) := hb
    have w := iwb_all fm L xs a b1 b2
    rw [← hf a b2, hb] at w
    have hk : k < fs.length := (List.getElem?_eq_some_iff.mp hv).1
    have w2 := List.all_eq_true.mp (show (List.range fs.length).all (fun k => match fs[k]? with | some v => iwv (ex_ft ci k) v | none => true) = true from w) k (List.mem_range.mpr hk)
    rw [hv] at w2
    exact iwv_ok w2
  · show f a = _
    rw [hf a (by omega)]
    match a, a1, a2 with
    | 1, _, _ => rfl
    | 2, _, _ => rfl
    | 3, _, _ => rfl
    | 4, _, _ => rfl
    | 5, _, _ => rfl
    | 6, _, _ => rfl
    | 7, _, _ => rfl
    | 8, _, _ => rfl
    | 9, _, _ => rfl
    | 10, _, _ => rfl
    | 11, _, _ => rfl
    | 12, _, _ => rfl
    | 13, _, _ => rfl
    | 14, _, _ => rfl
    | a + 15, _, h => exact absurd h (by omega)
  · have w := itb_ok (List.all_eq_true.mp (itb_all fm L xs) x hx)
    have := ex_tab_lt x hx
    rw [← hf x.1 (by omega)] at w
    exact w
  · show ∃ n y, f x.1 = .inl (x.2, n, y)
    have := ex_bts_lt x hx
    rw [hf x.1 (by omega)]
    rcases List.mem_cons.mp hx with e | hx
    · rw [e]; exact ⟨_, _, rfl⟩
    rcases List.mem_cons.mp hx with e | hx
    · rw [e]; exact ⟨_, _, rfl⟩
    rcases List.mem_cons.mp hx with e | hx
    · rw [e]; exact ⟨_, _, rfl⟩
    cases hx
theorem p4_R0 {fm : Bool} {L : Nat} {xs : Nat → Int32} {f : Nat → pm_E} (hf : ∀ i, i < 72 → f i = pm_fF fm L xs i) : R1 (ex_V (72, 52657, f)) := by
  refine ⟨⟨fun j _ => ?_, fun j j1 j3 => ?_, fun s _ => ?_⟩, fun i b hi eb => ?_, fun i hi => ?_, fun i => ?_⟩
  · show ex_eX (f 18) j = ex_eX (f 42) _
    rw [hf 18 (by decide), hf 42 (by decide)]; rfl
  · rcases (show j = 1 ∨ j = 2 ∨ j = 3 by omega) with rfl | rfl | rfl
    · show ex_eX (f 17) 1 = ex_eX (f 43) 0
      rw [hf 17 (by decide), hf 43 (by decide)]; rfl
    · show ex_eX (f 17) 2 = ex_eX (f 44) 0
      rw [hf 17 (by decide), hf 44 (by decide)]; rfl
    · show ex_eX (f 17) 3 = ex_eX (f 45) 0
      rw [hf 17 (by decide), hf 45 (by decide)]; rfl
  · show ex_eX (f 23) s = ex_eX (f 46) _
    rw [hf 23 (by decide), hf 46 (by decide)]; rfl
  · have e : ex_eZ (f 24) i = some b := eb
    rw [hf 24 (by decide)] at e
    have e2 : (none : Option Nat) = some b := e
    cases e2
  · show ex_eZ (f 24) i = none ↔ ex_eX (f 71) i = 0
    rw [hf 24 (by decide), hf 71 (by decide)]
    exact ⟨fun _ => rfl, fun _ => rfl⟩
  · show sf_B _ _ (ex_eX (f 42) i)
    rw [hf 42 (by decide)]
    exact sf_z (by decide) (by decide)
theorem p4_I0 {fm : Bool} {L : Nat} {xs : Nat → Int32} {f : Nat → pm_E} (hf : ∀ i, i < 72 → f i = pm_fF fm L xs i) (I : p2_I L xs 0 (72, 52657, f)) : p4_I L xs 0 (72, 52657, f) := ⟨I, (p4_K0 hf).1, (p4_K0 hf).2, p4_R0 hf⟩
