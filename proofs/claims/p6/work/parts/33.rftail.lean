/-! the end of text(): a text that is told -/
theorem rf_put_B {g f : Nat → Int32} {P k : Nat} {lo hi : Nat → Int} (hg : ∀ j, sf_B (lo (j % P)) (hi (j % P)) (g j)) (hf : ∀ i, i < P → sf_B (lo i) (hi i) (f i)) : ∀ j, sf_B (lo (j % P)) (hi (j % P)) (rf_put g f (P * k) P j) := by
  intro j
  unfold rf_put
  by_cases h : P * k ≤ j ∧ j < P * k + P
  · rw [if_pos h]
    have e : j % P = j - P * k := by
      have e1 : j = P * k + (j - P * k) := by omega
      rw [e1, Nat.mul_add_mod, Nat.mod_eq_of_lt (by omega)]
      omega
    rw [e]
    exact hf _ (by omega)
  · rw [if_neg h]; exact hg j
theorem rf_T.tell {m : Nat → Int32} {w : Int64} {h h2 : pm_H} {a : Nat} (T : rf_T m w h) (h1 : h2.1 = h.1) (hG : ∀ b, b ≠ 46 → b ≠ a → h2.2.2 b = h.2.2 b) (ha : 47 ≤ a ∧ a ≤ 50) (h46 : rf_C 46 (h2.2.2 46)) (hC : rf_C a (h2.2.2 a)) (hX : rf_X (h2.2.2 46) (h2.2.2 48)) : rf_T m w h2 := by
  refine ⟨by rw [h1]; exact T.1, by rw [hG 41 (by omega) (by omega)]; exact T.2.1, T.2.2.1, fun b b1 b2 => ?_, hX⟩
  by_cases e1 : b = 46
  · subst e1; exact h46
  · by_cases e2 : b = a
    · subst e2; exact hC
    · rw [hG b e1 e2]; exact T.2.2.2.1 b b1 b2
theorem rf_C46 {g : Nat → Int32} (hb : ∀ j, sf_B 0 (if j % 4 = 1 then 3 else 2) (g j)) {s n : Int32} {k : Nat} (hs : s.toNatClampNeg = k) (hk : k < 4) (hn : sf_B 0 (if k % 4 = 1 then 3 else 2) n) : rf_C 46 (.inl (0, 16, .inl (upd g s.toNatClampNeg n))) := by
  refine ⟨_, rfl, fun j => ?_⟩
  unfold upd
  by_cases e : j = s.toNatClampNeg
  · rw [if_pos e, e, hs]; exact hn
  · rw [if_neg e]; exact hb j
theorem rf_Xno {m : Nat → Int32} {w : Int64} {h h2 : pm_H} {g : Nat → Int32} {s n : Int32} {k : Nat} (T : rf_T m w h) (e46 : h.2.2 46 = .inl (0, 16, .inl g)) (e2 : h2.2.2 46 = .inl (0, 16, .inl (upd g s.toNatClampNeg n))) (e48 : h2.2.2 48 = h.2.2 48) (hs : s.toNatClampNeg = k) (hk : k = 0 ∨ k = 2 ∨ k = 3) : rf_X (h2.2.2 46) (h2.2.2 48) := by
  intro f f2 ef ef2 c r hc hr hlt
  rw [e2] at ef
  cases ef
  rw [e48] at ef2
  have : upd g s.toNatClampNeg n (4 * c + 1) = g (4 * c + 1) := by unfold upd; rw [if_neg (by omega)]
  rw [this] at hlt
  exact T.2.2.2.2 g f2 e46 ef2 c r hc hr hlt
theorem rf_Xrow {m : Nat → Int32} {w : Int64} {h h2 : pm_H} {g g2 f : Nat → Int32} {s n : Int32} {k : Nat} (T : rf_T m w h) (e46 : h.2.2 46 = .inl (0, 16, .inl g)) (e48 : h.2.2 48 = .inl (0, 156, .inl g2)) (e2 : h2.2.2 46 = .inl (0, 16, .inl (upd g s.toNatClampNeg n))) (e4 : h2.2.2 48 = .inl (0, 156, .inl (rf_put g2 f (13 * k) 13))) (hs : s.toNatClampNeg = 1) (hk : k < 3) (hf : 1 ≤ (f 0).toInt) (hn : ((g 1).toInt = k ∧ n.toInt = k + 1) ∨ n.toInt = (g 1).toInt) : rf_X (h2.2.2 46) (h2.2.2 48) := by
  intro a b ea eb c r hc hr hlt
  rw [e2] at ea
  cases ea
  rw [e4] at eb
  cases eb
  unfold rf_put
  by_cases h1 : 13 * k ≤ 39 * c + 13 * r ∧ 39 * c + 13 * r < 13 * k + 13
  · rw [if_pos h1]
    have : 39 * c + 13 * r - 13 * k = 0 := by omega
    rw [this]; exact hf
  · rw [if_neg h1]
    unfold upd at hlt
    by_cases h2 : 4 * c + 1 = s.toNatClampNeg
    · rw [if_pos h2] at hlt
      have c0 : c = 0 := by omega
      subst c0
      refine T.2.2.2.2 g g2 e46 e48 0 r hc hr ?_
      show (r : Int) < (g 1).toInt
      rcases hn with ⟨n1, n2⟩ | n1
      · omega
      · omega
    · rw [if_neg h2] at hlt
      exact T.2.2.2.2 g g2 e46 e48 c r hc hr hlt
def rf_fun (x : pm_E) : Nat → Int32 := match x with | .inl (_, _, .inl f) => f | _ => fun _ => 0
section TAIL
variable {d : Nat} {m : Nat → Int32} {w : Int64} {h : pm_H} {Q : Option Value → pm_H → Prop} {g f : Nat → Int32} {n k at_ : Int32}
theorem rf_tail0 (T : rf_T m w h) (e46 : h.2.2 46 = .inl (0, 16, .inl g)) (e51 : h.2.2 51 = .inl (0, 152, .inl f)) (hf : rf_bd 0 f) (Bn : sf_B 0 2 n) (Bk : sf_B 0 1 k) (K : ∀ h', rf_T m w h' → rf_G [46, 47] h h' → h'.2.2 46 = .inl (0, 16, .inl (upd g (Int32.toNatClampNeg 0) n)) → h'.2.2 47 = .inl (0, 800, .inl (rf_put (rf_fun (h.2.2 47)) f (100 * k.toInt.toNat) 100)) → Q (some (.int k)) h') : pm_R (d + 1) 175 122 [.ref 41, .int 0, .int at_, .int k] [.int n, .int 0, .ref 46] h Q := by
  obtain ⟨g', eg', bg⟩ := T.2.2.2.1 46 (by decide) (by decide)
  rw [e46] at eg'
  cases eg'
  obtain ⟨gl, el, bl⟩ := T.2.2.2.1 47 (by decide) (by decide)
  have k1 := Bk.1; have k2 := Bk.2
  have h72 := T.1
  refine pm_R_iast pm_M175 (pc' := 123) (pm_q175_1 (Nat.le_of_ble_eq_true rfl)) e46 (by decide) (by omega) rfl rfl ?_
  obtain ⟨h1, eh1⟩ : ∃ y, y = pm_set h 46 (.inl (0, 16, .inl (upd g (Int32.toNatClampNeg 0) n))) := ⟨_, rfl⟩
  rw [← eh1]
  have G1 : rf_G [46] h h1 := by rw [eh1]; exact rf_G.one _ _ _
  have c46 : h1.2.2 46 = .inl (0, 16, .inl (upd g (Int32.toNatClampNeg 0) n)) := by rw [eh1]; simp [pm_set, va_up]
  have c41 : h1.2.2 41 = .inr (12, rf_fs m w) := (G1.2.2 41 (by decide)).trans T.2.1
  have c1 : h1.1 = h.1 := G1.1
  refine pm_R_lo pm_M175 (pc' := 124) (pm_q175_1 (Nat.le_of_ble_eq_true rfl)) rfl rfl ?_
  refine pm_R_br pm_M175 (pc' := 152) (st' := []) (pm_q175_1 (Nat.le_of_ble_eq_true rfl)) rfl ?_
  refine pm_R_lo pm_M175 (pc' := 153) (pm_q175_1 (Nat.le_of_ble_eq_true rfl)) rfl rfl ?_
  refine pm_R_lo pm_M175 (pc' := 154) (pm_q175_1 (Nat.le_of_ble_eq_true rfl)) rfl rfl ?_
  refine pm_R_get pm_M175 (pc' := 157) (v := .ref 47) (pm_q175_1 (Nat.le_of_ble_eq_true rfl)) rfl c41 (by decide) (by omega) rfl rfl ?_
  refine pm_R_op pm_M175 (pc' := 159) (st' := [.int 100, .ref 47, .ref 41]) (pm_q175_1 (Nat.le_of_ble_eq_true rfl)) rfl rfl ?_
  refine pm_R_lo pm_M175 (pc' := 160) (pm_q175_1 (Nat.le_of_ble_eq_true rfl)) rfl rfl ?_
  refine pm_R_cv pm_M175 (pc' := 163) (a := 41) (ra := [.int k, .int 100, .ref 47]) (rest := []) (ls' := [.ref 41, .ref 47, .int 100, .int k, pm_no]) (pm_q175_1 (Nat.le_of_ble_eq_true rfl)) rfl (Or.inl rfl) pm_M193 c41 rfl (by decide) (by omega) rfl rfl (Nat.le_of_ble_eq_true rfl) rfl rfl ?_
  have hkk : k.toInt = (k.toInt.toNat : Int) := by omega
  refine rf_x193 (W := 100) (kk := k.toInt.toNat) c41 (by omega) (by decide) (by decide) (by decide) ((G1.2.2 47 (by decide)).trans el) ((G1.2.2 51 (by decide)).trans e51) rfl hkk (by omega) (by decide) (by decide) (fun h2 G2 c47 => ?_)
  show pm_R _ 175 163 [.ref 41, .int 0, .int at_, .int k] [] h2 _
  refine pm_R_br pm_M175 (pc' := 206) (pm_q175_1 (Nat.le_of_ble_eq_true rfl)) rfl ?_
  refine pm_R_lo pm_M175 (pc' := 207) (pm_q175_1 (Nat.le_of_ble_eq_true rfl)) rfl rfl ?_
  have d46 : h2.2.2 46 = .inl (0, 16, .inl (upd g (Int32.toNatClampNeg 0) n)) := (G2.2.2 46 (by decide)).trans c46
  refine pm_R_ret pm_M175 (r := some (.int k)) (pm_q175_1 (Nat.le_of_ble_eq_true rfl)) (pm_ret_i _) (K h2 ?_ ⟨G2.1.trans c1, G2.2.1.trans G1.2.1, fun b hb => by rw [G2.2.2 b (fun z => hb (by simp at z; simp [z])), G1.2.2 b (fun z => hb (by simp at z; simp [z]))]⟩ d46 (by rw [c47, el]; rfl))
  refine T.tell (a := 47) (by rw [G2.1, c1]) (fun b b1 b2 => ?_) (by decide) ?_ ?_ ?_
  · rw [G2.2.2 b (by simp; exact b2), G1.2.2 b (by simp; exact b1)]
  · rw [d46]; exact rf_C46 bg rfl (by decide) Bn
  · rw [c47]; exact ⟨_, rfl, rf_put_B bl (fun i hi => hf i hi)⟩
  · exact rf_Xno T e46 d46 ((G2.2.2 48 (by decide)).trans (G1.2.2 48 (by decide))) rfl (by decide)
theorem rf_tail1 (T : rf_T m w h) (e46 : h.2.2 46 = .inl (0, 16, .inl g)) (e51 : h.2.2 51 = .inl (0, 152, .inl f)) (hf : rf_bd 1 f) (Bn : sf_B 0 3 n) (Bk : sf_B 0 2 k) (hf0 : 1 ≤ (f 0).toInt) (hn : ((g 1).toInt = k.toInt ∧ n.toInt = k.toInt + 1) ∨ n.toInt = (g 1).toInt) (K : ∀ h', rf_T m w h' → rf_G [46, 48] h h' → h'.2.2 46 = .inl (0, 16, .inl (upd g (Int32.toNatClampNeg 1) n)) → h'.2.2 48 = .inl (0, 156, .inl (rf_put (rf_fun (h.2.2 48)) f (13 * k.toInt.toNat) 13)) → Q (some (.int k)) h') : pm_R (d + 1) 175 122 [.ref 41, .int 1, .int at_, .int k] [.int n, .int 1, .ref 46] h Q := by
  obtain ⟨g', eg', bg⟩ := T.2.2.2.1 46 (by decide) (by decide)
  rw [e46] at eg'
  cases eg'
  obtain ⟨gl, el, bl⟩ := T.2.2.2.1 48 (by decide) (by decide)
  have k1 := Bk.1; have k2 := Bk.2
  have h72 := T.1
  refine pm_R_iast pm_M175 (pc' := 123) (pm_q175_1 (Nat.le_of_ble_eq_true rfl)) e46 (by decide) (by omega) rfl rfl ?_
  obtain ⟨h1, eh1⟩ : ∃ y, y = pm_set h 46 (.inl (0, 16, .inl (upd g (Int32.toNatClampNeg 1) n))) := ⟨_, rfl⟩
  rw [← eh1]
  have G1 : rf_G [46] h h1 := by rw [eh1]; exact rf_G.one _ _ _
  have c46 : h1.2.2 46 = .inl (0, 16, .inl (upd g (Int32.toNatClampNeg 1) n)) := by rw [eh1]; simp [pm_set, va_up]
  have c41 : h1.2.2 41 = .inr (12, rf_fs m w) := (G1.2.2 41 (by decide)).trans T.2.1
  have c1 : h1.1 = h.1 := G1.1
  refine pm_R_lo pm_M175 (pc' := 124) (pm_q175_1 (Nat.le_of_ble_eq_true rfl)) rfl rfl ?_
  refine pm_R_br pm_M175 (pc' := 166) (st' := []) (pm_q175_1 (Nat.le_of_ble_eq_true rfl)) rfl ?_
  refine pm_R_lo pm_M175 (pc' := 167) (pm_q175_1 (Nat.le_of_ble_eq_true rfl)) rfl rfl ?_
  refine pm_R_lo pm_M175 (pc' := 168) (pm_q175_1 (Nat.le_of_ble_eq_true rfl)) rfl rfl ?_
  refine pm_R_get pm_M175 (pc' := 171) (v := .ref 48) (pm_q175_1 (Nat.le_of_ble_eq_true rfl)) rfl c41 (by decide) (by omega) rfl rfl ?_
  refine pm_R_op pm_M175 (pc' := 173) (st' := [.int 13, .ref 48, .ref 41]) (pm_q175_1 (Nat.le_of_ble_eq_true rfl)) rfl rfl ?_
  refine pm_R_lo pm_M175 (pc' := 174) (pm_q175_1 (Nat.le_of_ble_eq_true rfl)) rfl rfl ?_
  refine pm_R_cv pm_M175 (pc' := 177) (a := 41) (ra := [.int k, .int 13, .ref 48]) (rest := []) (ls' := [.ref 41, .ref 48, .int 13, .int k, pm_no]) (pm_q175_1 (Nat.le_of_ble_eq_true rfl)) rfl (Or.inl rfl) pm_M193 c41 rfl (by decide) (by omega) rfl rfl (Nat.le_of_ble_eq_true rfl) rfl rfl ?_
  have hkk : k.toInt = (k.toInt.toNat : Int) := by omega
  refine rf_x193 (W := 13) (kk := k.toInt.toNat) c41 (by omega) (by decide) (by decide) (by decide) ((G1.2.2 48 (by decide)).trans el) ((G1.2.2 51 (by decide)).trans e51) rfl hkk (by omega) (by decide) (by decide) (fun h2 G2 c47 => ?_)
  show pm_R _ 175 177 [.ref 41, .int 1, .int at_, .int k] [] h2 _
  refine pm_R_br pm_M175 (pc' := 206) (pm_q175_1 (Nat.le_of_ble_eq_true rfl)) rfl ?_
  refine pm_R_lo pm_M175 (pc' := 207) (pm_q175_1 (Nat.le_of_ble_eq_true rfl)) rfl rfl ?_
  have d46 : h2.2.2 46 = .inl (0, 16, .inl (upd g (Int32.toNatClampNeg 1) n)) := (G2.2.2 46 (by decide)).trans c46
  refine pm_R_ret pm_M175 (r := some (.int k)) (pm_q175_1 (Nat.le_of_ble_eq_true rfl)) (pm_ret_i _) (K h2 ?_ ⟨G2.1.trans c1, G2.2.1.trans G1.2.1, fun b hb => by rw [G2.2.2 b (fun z => hb (by simp at z; simp [z])), G1.2.2 b (fun z => hb (by simp at z; simp [z]))]⟩ d46 (by rw [c47, el]; rfl))
  refine T.tell (a := 48) (by rw [G2.1, c1]) (fun b b1 b2 => ?_) (by decide) ?_ ?_ ?_
  · rw [G2.2.2 b (by simp; exact b2), G1.2.2 b (by simp; exact b1)]
  · rw [d46]; exact rf_C46 bg rfl (by decide) Bn
  · rw [c47]; exact ⟨_, rfl, rf_put_B (lo := fun _ => 0) (hi := fun r => if r = 0 then 12 else 9) bl (fun i hi => hf i hi)⟩
  · exact rf_Xrow T e46 el d46 c47 rfl (by omega) hf0 (by rcases hn with ⟨z1, z2⟩ | z1; exact Or.inl ⟨by omega, by omega⟩; exact Or.inr z1)
theorem rf_tail2 (T : rf_T m w h) (e46 : h.2.2 46 = .inl (0, 16, .inl g)) (e51 : h.2.2 51 = .inl (0, 152, .inl f)) (hf : rf_bd 2 f) (Bn : sf_B 0 2 n) (Bk : sf_B 0 1 k) (K : ∀ h', rf_T m w h' → rf_G [46, 49] h h' → h'.2.2 46 = .inl (0, 16, .inl (upd g (Int32.toNatClampNeg 2) n)) → h'.2.2 49 = .inl (0, 1216, .inl (rf_put (rf_fun (h.2.2 49)) f (152 * k.toInt.toNat) 152)) → Q (some (.int k)) h') : pm_R (d + 1) 175 122 [.ref 41, .int 2, .int at_, .int k] [.int n, .int 2, .ref 46] h Q := by
  obtain ⟨g', eg', bg⟩ := T.2.2.2.1 46 (by decide) (by decide)
  rw [e46] at eg'
  cases eg'
  obtain ⟨gl, el, bl⟩ := T.2.2.2.1 49 (by decide) (by decide)
  have k1 := Bk.1; have k2 := Bk.2
  have h72 := T.1
  refine pm_R_iast pm_M175 (pc' := 123) (pm_q175_1 (Nat.le_of_ble_eq_true rfl)) e46 (by decide) (by omega) rfl rfl ?_
  obtain ⟨h1, eh1⟩ : ∃ y, y = pm_set h 46 (.inl (0, 16, .inl (upd g (Int32.toNatClampNeg 2) n))) := ⟨_, rfl⟩
  rw [← eh1]
  have G1 : rf_G [46] h h1 := by rw [eh1]; exact rf_G.one _ _ _
  have c46 : h1.2.2 46 = .inl (0, 16, .inl (upd g (Int32.toNatClampNeg 2) n)) := by rw [eh1]; simp [pm_set, va_up]
  have c41 : h1.2.2 41 = .inr (12, rf_fs m w) := (G1.2.2 41 (by decide)).trans T.2.1
  have c1 : h1.1 = h.1 := G1.1
  refine pm_R_lo pm_M175 (pc' := 124) (pm_q175_1 (Nat.le_of_ble_eq_true rfl)) rfl rfl ?_
  refine pm_R_br pm_M175 (pc' := 180) (st' := []) (pm_q175_1 (Nat.le_of_ble_eq_true rfl)) rfl ?_
  refine pm_R_lo pm_M175 (pc' := 181) (pm_q175_1 (Nat.le_of_ble_eq_true rfl)) rfl rfl ?_
  refine pm_R_lo pm_M175 (pc' := 182) (pm_q175_1 (Nat.le_of_ble_eq_true rfl)) rfl rfl ?_
  refine pm_R_get pm_M175 (pc' := 185) (v := .ref 49) (pm_q175_1 (Nat.le_of_ble_eq_true rfl)) rfl c41 (by decide) (by omega) rfl rfl ?_
  refine pm_R_op pm_M175 (pc' := 188) (st' := [.int 152, .ref 49, .ref 41]) (pm_q175_1 (Nat.le_of_ble_eq_true rfl)) rfl rfl ?_
  refine pm_R_lo pm_M175 (pc' := 189) (pm_q175_1 (Nat.le_of_ble_eq_true rfl)) rfl rfl ?_
  refine pm_R_cv pm_M175 (pc' := 192) (a := 41) (ra := [.int k, .int 152, .ref 49]) (rest := []) (ls' := [.ref 41, .ref 49, .int 152, .int k, pm_no]) (pm_q175_1 (Nat.le_of_ble_eq_true rfl)) rfl (Or.inl rfl) pm_M193 c41 rfl (by decide) (by omega) rfl rfl (Nat.le_of_ble_eq_true rfl) rfl rfl ?_
  have hkk : k.toInt = (k.toInt.toNat : Int) := by omega
  refine rf_x193 (W := 152) (kk := k.toInt.toNat) c41 (by omega) (by decide) (by decide) (by decide) ((G1.2.2 49 (by decide)).trans el) ((G1.2.2 51 (by decide)).trans e51) rfl hkk (by omega) (by decide) (by decide) (fun h2 G2 c47 => ?_)
  show pm_R _ 175 192 [.ref 41, .int 2, .int at_, .int k] [] h2 _
  refine pm_R_br pm_M175 (pc' := 206) (pm_q175_1 (Nat.le_of_ble_eq_true rfl)) rfl ?_
  refine pm_R_lo pm_M175 (pc' := 207) (pm_q175_1 (Nat.le_of_ble_eq_true rfl)) rfl rfl ?_
  have d46 : h2.2.2 46 = .inl (0, 16, .inl (upd g (Int32.toNatClampNeg 2) n)) := (G2.2.2 46 (by decide)).trans c46
  refine pm_R_ret pm_M175 (r := some (.int k)) (pm_q175_1 (Nat.le_of_ble_eq_true rfl)) (pm_ret_i _) (K h2 ?_ ⟨G2.1.trans c1, G2.2.1.trans G1.2.1, fun b hb => by rw [G2.2.2 b (fun z => hb (by simp at z; simp [z])), G1.2.2 b (fun z => hb (by simp at z; simp [z]))]⟩ d46 (by rw [c47, el]; rfl))
  refine T.tell (a := 49) (by rw [G2.1, c1]) (fun b b1 b2 => ?_) (by decide) ?_ ?_ ?_
  · rw [G2.2.2 b (by simp; exact b2), G1.2.2 b (by simp; exact b1)]
  · rw [d46]; exact rf_C46 bg rfl (by decide) Bn
  · rw [c47]; exact ⟨_, rfl, rf_put_B bl (fun i hi => hf i hi)⟩
  · exact rf_Xno T e46 d46 ((G2.2.2 48 (by decide)).trans (G1.2.2 48 (by decide))) rfl (by decide)
theorem rf_tail3 (T : rf_T m w h) (e46 : h.2.2 46 = .inl (0, 16, .inl g)) (e51 : h.2.2 51 = .inl (0, 152, .inl f)) (hf : rf_bd 3 f) (Bn : sf_B 0 2 n) (Bk : sf_B 0 1 k) (K : ∀ h', rf_T m w h' → rf_G [46, 50] h h' → h'.2.2 46 = .inl (0, 16, .inl (upd g (Int32.toNatClampNeg 3) n)) → h'.2.2 50 = .inl (0, 200, .inl (rf_put (rf_fun (h.2.2 50)) f (25 * k.toInt.toNat) 25)) → Q (some (.int k)) h') : pm_R (d + 1) 175 122 [.ref 41, .int 3, .int at_, .int k] [.int n, .int 3, .ref 46] h Q := by
  obtain ⟨g', eg', bg⟩ := T.2.2.2.1 46 (by decide) (by decide)
  rw [e46] at eg'
  cases eg'
  obtain ⟨gl, el, bl⟩ := T.2.2.2.1 50 (by decide) (by decide)
  have k1 := Bk.1; have k2 := Bk.2
  have h72 := T.1
  refine pm_R_iast pm_M175 (pc' := 123) (pm_q175_1 (Nat.le_of_ble_eq_true rfl)) e46 (by decide) (by omega) rfl rfl ?_
  obtain ⟨h1, eh1⟩ : ∃ y, y = pm_set h 46 (.inl (0, 16, .inl (upd g (Int32.toNatClampNeg 3) n))) := ⟨_, rfl⟩
  rw [← eh1]
  have G1 : rf_G [46] h h1 := by rw [eh1]; exact rf_G.one _ _ _
  have c46 : h1.2.2 46 = .inl (0, 16, .inl (upd g (Int32.toNatClampNeg 3) n)) := by rw [eh1]; simp [pm_set, va_up]
  have c41 : h1.2.2 41 = .inr (12, rf_fs m w) := (G1.2.2 41 (by decide)).trans T.2.1
  have c1 : h1.1 = h.1 := G1.1
  refine pm_R_lo pm_M175 (pc' := 124) (pm_q175_1 (Nat.le_of_ble_eq_true rfl)) rfl rfl ?_
  refine pm_R_br pm_M175 (pc' := 195) (st' := []) (pm_q175_1 (Nat.le_of_ble_eq_true rfl)) rfl ?_
  refine pm_R_lo pm_M175 (pc' := 196) (pm_q175_1 (Nat.le_of_ble_eq_true rfl)) rfl rfl ?_
  refine pm_R_lo pm_M175 (pc' := 197) (pm_q175_1 (Nat.le_of_ble_eq_true rfl)) rfl rfl ?_
  refine pm_R_get pm_M175 (pc' := 200) (v := .ref 50) (pm_q175_1 (Nat.le_of_ble_eq_true rfl)) rfl c41 (by decide) (by omega) rfl rfl ?_
  refine pm_R_op pm_M175 (pc' := 202) (st' := [.int 25, .ref 50, .ref 41]) (pm_q175_1 (Nat.le_of_ble_eq_true rfl)) rfl rfl ?_
  refine pm_R_lo pm_M175 (pc' := 203) (pm_q175_1 (Nat.le_of_ble_eq_true rfl)) rfl rfl ?_
  refine pm_R_cv pm_M175 (pc' := 206) (a := 41) (ra := [.int k, .int 25, .ref 50]) (rest := []) (ls' := [.ref 41, .ref 50, .int 25, .int k, pm_no]) (pm_q175_1 (Nat.le_of_ble_eq_true rfl)) rfl (Or.inl rfl) pm_M193 c41 rfl (by decide) (by omega) rfl rfl (Nat.le_of_ble_eq_true rfl) rfl rfl ?_
  have hkk : k.toInt = (k.toInt.toNat : Int) := by omega
  refine rf_x193 (W := 25) (kk := k.toInt.toNat) c41 (by omega) (by decide) (by decide) (by decide) ((G1.2.2 50 (by decide)).trans el) ((G1.2.2 51 (by decide)).trans e51) rfl hkk (by omega) (by decide) (by decide) (fun h2 G2 c47 => ?_)
  show pm_R _ 175 206 [.ref 41, .int 3, .int at_, .int k] [] h2 _
  refine pm_R_lo pm_M175 (pc' := 207) (pm_q175_1 (Nat.le_of_ble_eq_true rfl)) rfl rfl ?_
  have d46 : h2.2.2 46 = .inl (0, 16, .inl (upd g (Int32.toNatClampNeg 3) n)) := (G2.2.2 46 (by decide)).trans c46
  refine pm_R_ret pm_M175 (r := some (.int k)) (pm_q175_1 (Nat.le_of_ble_eq_true rfl)) (pm_ret_i _) (K h2 ?_ ⟨G2.1.trans c1, G2.2.1.trans G1.2.1, fun b hb => by rw [G2.2.2 b (fun z => hb (by simp at z; simp [z])), G1.2.2 b (fun z => hb (by simp at z; simp [z]))]⟩ d46 (by rw [c47, el]; rfl))
  refine T.tell (a := 50) (by rw [G2.1, c1]) (fun b b1 b2 => ?_) (by decide) ?_ ?_ ?_
  · rw [G2.2.2 b (by simp; exact b2), G1.2.2 b (by simp; exact b1)]
  · rw [d46]; exact rf_C46 bg rfl (by decide) Bn
  · rw [c47]; exact ⟨_, rfl, rf_put_B bl (fun i hi => hf i hi)⟩
  · exact rf_Xno T e46 d46 ((G2.2.2 48 (by decide)).trans (G1.2.2 48 (by decide))) rfl (by decide)
end TAIL
