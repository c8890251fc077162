theorem rf_b0 (k : Nat) : sf_B (rf_lo k) (rf_hi k) 0 := by
  have e0 : (0 : Int32).toInt = 0 := rfl
  have h1 : rf_lo k ≤ 0 := by unfold rf_lo; split <;> decide
  have h2 : 0 ≤ rf_hi k := by unfold rf_hi; split <;> decide
  exact ⟨by rw [e0]; exact h1, by rw [e0]; exact h2⟩
theorem sf_z {a b : Int} (h1 : a ≤ 0) (h2 : 0 ≤ b) : sf_B a b 0 := by
  have e0 : (0 : Int32).toInt = 0 := rfl
  exact ⟨by rw [e0]; exact h1, by rw [e0]; exact h2⟩
set_option maxRecDepth 100000 in
set_option maxHeartbeats 4000000 in
/-- the reference, new -/
theorem rf_T0 {fm : Bool} {L : Nat} {xs : Nat → Int32} {f : Nat → pm_E} (hf : ∀ i, i < 72 → f i = pm_fF fm L xs i) : rf_T (fun _ => 0) 0 (72, 52657, f) := by
  refine ⟨Nat.le_refl _, hf 41 (by decide), rf_b0, fun a h1 h2 => ?_, ?_⟩
  · show rf_C a (f a)
    rw [hf a h2]
    match a, h1, h2 with
    | 42, _, _ => exact ⟨_, rfl⟩
    | 43, _, _ => exact ⟨_, rfl, fun j => sf_z (by decide) (by decide)⟩
    | 44, _, _ => exact ⟨_, rfl, fun j => sf_z (by decide) (by decide)⟩
    | 45, _, _ => exact ⟨_, rfl, sf_upd (fun j => sf_z (by decide) (by decide)) ⟨by decide, by decide⟩ 0⟩
    | 46, _, _ => exact ⟨_, rfl, fun j => sf_z (by decide) (by split <;> decide)⟩
    | 47, _, _ => exact ⟨_, rfl, fun j => sf_z (by unfold rf_l0; repeat (first | decide | split)) (by unfold rf_l1; repeat (first | decide | split))⟩
    | 48, _, _ => exact ⟨_, rfl, fun j => sf_z (by decide) (by split <;> decide)⟩
    | 49, _, _ => exact ⟨_, rfl, fun j => sf_z (by unfold rf_m0; repeat (first | decide | split)) (by unfold rf_m1; repeat (first | decide | split))⟩
    | 50, _, _ => exact ⟨_, rfl, fun j => sf_z (by unfold rf_h0; repeat (first | decide | split)) (by unfold rf_h1; repeat (first | decide | split))⟩
    | 51, _, _ => exact ⟨_, rfl⟩
    | 52, _, _ => exact ⟨_, rfl, fun j => sf_z (by decide) (by decide)⟩
    | 53, _, _ => exact ⟨_, rfl⟩
    | 54, _, _ => exact ⟨_, rfl⟩
    | 55, _, _ => exact ⟨_, rfl, fun j => ⟨by decide +kernel, by decide +kernel⟩⟩
    | 56, _, _ => exact ⟨_, rfl⟩
    | 57, _, _ => exact ⟨_, rfl, fun j => sf_z (by decide) (by decide)⟩
    | 58, _, _ => exact ⟨_, rfl, fun j => sf_z (by decide) (by decide)⟩
    | 59, _, _ => exact ⟨_, rfl, fun j => sf_z (by decide) (by decide)⟩
    | 60, _, _ => exact ⟨_, rfl, fun j => ⟨by decide +kernel, by decide +kernel⟩⟩
    | 61, _, _ => exact ⟨_, rfl, fun j => sf_z (by decide) (by decide)⟩
    | 62, _, _ => exact ⟨_, rfl, fun j => sf_z (by decide) (by decide)⟩
    | 63, _, _ => exact ⟨_, rfl, fun j => sf_z (by decide) (by decide)⟩
    | 64, _, _ => exact ⟨_, rfl⟩
    | 65, _, _ => exact ⟨_, rfl, fun j => sf_z (by decide) (by decide)⟩
    | 66, _, _ => exact ⟨_, rfl, fun j => sf_z (by decide) (by split <;> decide)⟩
    | 67, _, _ => exact ⟨_, rfl⟩
    | 68, _, _ => exact ⟨_, rfl⟩
    | 69, _, _ => exact ⟨_, rfl⟩
    | 70, _, _ => exact ⟨_, rfl, fun j => sf_z (by decide) (by decide)⟩
    | 71, _, _ => exact ⟨_, rfl⟩
    | n + 72, _, h => exact absurd h (by omega)
  · show rf_X (f 46) (f 48)
    rw [hf 46 (by decide), hf 48 (by decide)]
    intro g g' e1 e2 c r hc hr hlt
    cases e1
    exfalso
    have e0 : (0 : Int32).toInt = 0 := rfl
    have h9 : (r : Int) < (0 : Int32).toInt := hlt
    rw [e0] at h9
    omega
