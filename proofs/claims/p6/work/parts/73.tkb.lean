theorem vf17_0 {x : Int32} : vf17 x = 0 ↔ ¬ tk_bl x = true := vf_0
theorem vf18_0 {x : Int32} : vf18 x = 0 ↔ ¬ tk_le x = true := vf_0
theorem vf19_0 {x : Int32} : vf19 x = 0 ↔ ¬ tk_di x = true := vf_0
theorem ef17 (N d : Nat) (a0 : Int32) (S : ex_S) : ex_P N d 17 0 [.int a0] [] S (fun r S' => r = some (.int (vf17 a0)) ∧ S' = S) := by
  refine (ev17 (C := fun a S v S' => v = vf17 a ∧ S' = S) ?_ ?_ ?_ N d a0 S).mono (fun r S' ⟨v, e, e1, e2⟩ => ⟨by rw [e, e1], e2⟩)
  · intro a S c; exact ⟨by unfold vf17 tk_bl; rw [if_pos (by simp [c])], rfl⟩
  · intro a S c c'; exact ⟨by unfold vf17 tk_bl; rw [if_neg (by simp [c, c'])], rfl⟩
  · intro a S c c'; exact ⟨by unfold vf17 tk_bl; rw [if_pos (by simp [Classical.not_not.mp c'])], rfl⟩
theorem ef18 (N d : Nat) (a0 : Int32) (S : ex_S) : ex_P N d 18 0 [.int a0] [] S (fun r S' => r = some (.int (vf18 a0)) ∧ S' = S) := by
  refine (ev18 (C := fun a S v S' => v = vf18 a ∧ S' = S) ?_ ?_ ?_ N d a0 S).mono (fun r S' ⟨v, e, e1, e2⟩ => ⟨by rw [e, e1], e2⟩)
  · intro a S c; exact ⟨by unfold vf18 tk_le; rw [if_neg (by simp [Int32.not_le.mpr c])], rfl⟩
  · intro a S c c'; exact ⟨by unfold vf18 tk_le; rw [if_neg (by simp [Int32.not_le.mpr c'])], rfl⟩
  · intro a S c c'; exact ⟨by unfold vf18 tk_le; rw [if_pos (by simp [Int32.not_lt.mp c, Int32.not_lt.mp c'])], rfl⟩
theorem ef19 (N d : Nat) (a0 : Int32) (S : ex_S) : ex_P N d 19 0 [.int a0] [] S (fun r S' => r = some (.int (vf19 a0)) ∧ S' = S) := by
  refine (ev19 (C := fun a S v S' => v = vf19 a ∧ S' = S) ?_ ?_ ?_ N d a0 S).mono (fun r S' ⟨v, e, e1, e2⟩ => ⟨by rw [e, e1], e2⟩)
  · intro a S c; exact ⟨by unfold vf19 tk_di; rw [if_neg (by simp [Int32.not_le.mpr c])], rfl⟩
  · intro a S c c'; exact ⟨by unfold vf19 tk_di; rw [if_neg (by simp [Int32.not_le.mpr c'])], rfl⟩
  · intro a S c c'; exact ⟨by unfold vf19 tk_di; rw [if_pos (by simp [Int32.not_lt.mp c, Int32.not_lt.mp c'])], rfl⟩
theorem ef174 (N d : Nat) (a0 a1 a2 : Int32) (S : ex_S) : ex_P N d 174 0 [.int a0, .int a1, .int a2] [] S (fun r S' => r = some (.int (vf174 a0 a1 a2)) ∧ S' = S) := by
  refine (ev174 (C := fun a b c S v S' => v = vf174 a b c ∧ S' = S) ?_ ?_ ?_ N d a0 a1 a2 S).mono (fun r S' ⟨v, e, e1, e2⟩ => ⟨by rw [e, e1], e2⟩)
  · intro a b c S w; exact ⟨by unfold vf174; rw [if_neg (fun z => Int32.not_le.mpr w z.1)], rfl⟩
  · intro a b c S w w'; exact ⟨by unfold vf174; rw [if_neg (fun z => Int32.not_le.mpr w' z.2)], rfl⟩
  · intro a b c S w w'; exact ⟨by unfold vf174; rw [if_pos ⟨Int32.not_lt.mp w, Int32.not_lt.mp w'⟩], rfl⟩
theorem ef176 (N d : Nat) (a0 : Int32) (S : ex_S) : ex_P N d 176 0 [.int a0] [] S (fun r S' => r = some (.int (vf176 a0)) ∧ S' = S) := by
  refine (ev176 (C := fun a S v S' => v = vf176 a ∧ S' = S) ?_ ?_ N d a0 S).mono (fun r S' ⟨v, e, e1, e2⟩ => ⟨by rw [e, e1], e2⟩)
  · intro a S c; exact ⟨by unfold vf176; rw [if_neg c], rfl⟩
  · intro a S c; exact ⟨by unfold vf176; rw [if_pos (Classical.not_not.mp c)], rfl⟩
theorem ef180 (N d : Nat) (S : ex_S) : ex_P N d 180 0 [.ref 41] [] S (fun r S' => r = some (.int (vf180 S)) ∧ S' = S) := by
  refine (ev180 (C := fun S v S' => v = vf180 S ∧ S' = S) ?_ ?_ N d S).mono (fun r S' ⟨v, e, e1, e2⟩ => ⟨by rw [e, e1], e2⟩)
  · intro S c; exact ⟨by unfold vf180; rw [if_pos c], rfl⟩
  · intro S c; exact ⟨by unfold vf180; rw [if_neg c], rfl⟩
