set_option maxRecDepth 100000 in
set_option maxHeartbeats 4000000 in
/-- SilentTable$Tokens.isBlank -/
theorem ev17 {C : Int32 → ex_S → Int32 → ex_S → Prop} 
    (v0 : ∀ (a0 : Int32) (S : ex_S), a0 = 10 → C a0 S 1 S) 
    (v1 : ∀ (a0 : Int32) (S : ex_S), ¬ (a0 = 10) → ¬ a0 = 32 → C a0 S 0 S) 
    (v2 : ∀ (a0 : Int32) (S : ex_S), ¬ (a0 = 10) → ¬ (¬ a0 = 32) → C a0 S 1 S) : es17 C := by
  intro N d a0 S
  refine ex_lo pm_M17 (pc' := 1) (ls' := [.int a0]) (st' := [.int a0]) rfl rfl rfl ?_
  refine ex_op pm_M17 (pc' := 3) (st' := [.int 10, .int a0]) rfl rfl rfl ?_
  refine ex_icmp pm_M17 (t := 12) (pc' := 6) rfl rfl rfl (fun c1 => ?_) (fun c1 => ?_)
  · -- a0 = 10
    refine ex_op pm_M17 (pc' := 13) (st' := [.int 1]) rfl rfl rfl ?_
    refine ex_br pm_M17 (pc' := 17) (st' := [.int 1]) rfl rfl ?_
    exact ex_retI pm_M17 rfl (⟨_, rfl, v0 a0 S c1⟩)
  · -- not
    refine ex_lo pm_M17 (pc' := 7) (ls' := [.int a0]) (st' := [.int a0]) rfl rfl rfl ?_
    refine ex_op pm_M17 (pc' := 9) (st' := [.int 32, .int a0]) rfl rfl rfl ?_
    refine ex_icmp pm_M17 (t := 16) (pc' := 12) rfl rfl rfl (fun c2 => ?_) (fun c2 => ?_)
    · -- ¬ a0 = 32
      refine ex_op pm_M17 (pc' := 17) (st' := [.int 0]) rfl rfl rfl ?_
      exact ex_retI pm_M17 rfl (⟨_, rfl, v1 a0 S c1 c2⟩)
    · -- not
      refine ex_op pm_M17 (pc' := 13) (st' := [.int 1]) rfl rfl rfl ?_
      refine ex_br pm_M17 (pc' := 17) (st' := [.int 1]) rfl rfl ?_
      exact ex_retI pm_M17 rfl (⟨_, rfl, v2 a0 S c1 c2⟩)
set_option maxRecDepth 100000 in
set_option maxHeartbeats 4000000 in
/-- SilentTable$Tokens.isLetter -/
theorem ev18 {C : Int32 → ex_S → Int32 → ex_S → Prop} 
    (v0 : ∀ (a0 : Int32) (S : ex_S), a0 < 97 → C a0 S 0 S) 
    (v1 : ∀ (a0 : Int32) (S : ex_S), ¬ (a0 < 97) → 122 < a0 → C a0 S 0 S) 
    (v2 : ∀ (a0 : Int32) (S : ex_S), ¬ (a0 < 97) → ¬ (122 < a0) → C a0 S 1 S) : es18 C := by
  intro N d a0 S
  refine ex_lo pm_M18 (pc' := 1) (ls' := [.int a0]) (st' := [.int a0]) rfl rfl rfl ?_
  refine ex_op pm_M18 (pc' := 3) (st' := [.int 97, .int a0]) rfl rfl rfl ?_
  refine ex_icmp pm_M18 (t := 16) (pc' := 6) rfl rfl rfl (fun c1 => ?_) (fun c1 => ?_)
  · -- a0 < 97
    refine ex_op pm_M18 (pc' := 17) (st' := [.int 0]) rfl rfl rfl ?_
    exact ex_retI pm_M18 rfl (⟨_, rfl, v0 a0 S c1⟩)
  · -- not
    refine ex_lo pm_M18 (pc' := 7) (ls' := [.int a0]) (st' := [.int a0]) rfl rfl rfl ?_
    refine ex_op pm_M18 (pc' := 9) (st' := [.int 122, .int a0]) rfl rfl rfl ?_
    refine ex_icmp pm_M18 (t := 16) (pc' := 12) rfl rfl rfl (fun c2 => ?_) (fun c2 => ?_)
    · -- 122 < a0
      refine ex_op pm_M18 (pc' := 17) (st' := [.int 0]) rfl rfl rfl ?_
      exact ex_retI pm_M18 rfl (⟨_, rfl, v1 a0 S c1 c2⟩)
    · -- not
      refine ex_op pm_M18 (pc' := 13) (st' := [.int 1]) rfl rfl rfl ?_
      refine ex_br pm_M18 (pc' := 17) (st' := [.int 1]) rfl rfl ?_
      exact ex_retI pm_M18 rfl (⟨_, rfl, v2 a0 S c1 c2⟩)
set_option maxRecDepth 100000 in
set_option maxHeartbeats 4000000 in
/-- SilentTable$Tokens.isDigit -/
theorem ev19 {C : Int32 → ex_S → Int32 → ex_S → Prop} 
    (v0 : ∀ (a0 : Int32) (S : ex_S), a0 < 48 → C a0 S 0 S) 
    (v1 : ∀ (a0 : Int32) (S : ex_S), ¬ (a0 < 48) → 57 < a0 → C a0 S 0 S) 
    (v2 : ∀ (a0 : Int32) (S : ex_S), ¬ (a0 < 48) → ¬ (57 < a0) → C a0 S 1 S) : es19 C := by
  intro N d a0 S
  refine ex_lo pm_M19 (pc' := 1) (ls' := [.int a0]) (st' := [.int a0]) rfl rfl rfl ?_
  refine ex_op pm_M19 (pc' := 3) (st' := [.int 48, .int a0]) rfl rfl rfl ?_
  refine ex_icmp pm_M19 (t := 16) (pc' := 6) rfl rfl rfl (fun c1 => ?_) (fun c1 => ?_)
  · -- a0 < 48
    refine ex_op pm_M19 (pc' := 17) (st' := [.int 0]) rfl rfl rfl ?_
    exact ex_retI pm_M19 rfl (⟨_, rfl, v0 a0 S c1⟩)
  · -- not
    refine ex_lo pm_M19 (pc' := 7) (ls' := [.int a0]) (st' := [.int a0]) rfl rfl rfl ?_
    refine ex_op pm_M19 (pc' := 9) (st' := [.int 57, .int a0]) rfl rfl rfl ?_
    refine ex_icmp pm_M19 (t := 16) (pc' := 12) rfl rfl rfl (fun c2 => ?_) (fun c2 => ?_)
    · -- 57 < a0
      refine ex_op pm_M19 (pc' := 17) (st' := [.int 0]) rfl rfl rfl ?_
      exact ex_retI pm_M19 rfl (⟨_, rfl, v1 a0 S c1 c2⟩)
    · -- not
      refine ex_op pm_M19 (pc' := 13) (st' := [.int 1]) rfl rfl rfl ?_
      refine ex_br pm_M19 (pc' := 17) (st' := [.int 1]) rfl rfl ?_
      exact ex_retI pm_M19 rfl (⟨_, rfl, v2 a0 S c1 c2⟩)
set_option maxRecDepth 100000 in
set_option maxHeartbeats 4000000 in
/-- SilentTableModel.in -/
theorem ev174 {C : Int32 → Int32 → Int32 → ex_S → Int32 → ex_S → Prop} 
    (v0 : ∀ (a0 : Int32) (a1 : Int32) (a2 : Int32) (S : ex_S), a0 < a1 → C a0 a1 a2 S 0 S) 
    (v1 : ∀ (a0 : Int32) (a1 : Int32) (a2 : Int32) (S : ex_S), ¬ (a0 < a1) → a2 < a0 → C a0 a1 a2 S 0 S) 
    (v2 : ∀ (a0 : Int32) (a1 : Int32) (a2 : Int32) (S : ex_S), ¬ (a0 < a1) → ¬ (a2 < a0) → C a0 a1 a2 S 1 S) : es174 C := by
  intro N d a0 a1 a2 S
  refine ex_lo pm_M174 (pc' := 1) (ls' := [.int a0, .int a1, .int a2]) (st' := [.int a0]) rfl rfl rfl ?_
  refine ex_lo pm_M174 (pc' := 2) (ls' := [.int a0, .int a1, .int a2]) (st' := [.int a1, .int a0]) rfl rfl rfl ?_
  refine ex_icmp pm_M174 (t := 14) (pc' := 5) rfl rfl rfl (fun c1 => ?_) (fun c1 => ?_)
  · -- a0 < a1
    refine ex_op pm_M174 (pc' := 15) (st' := [.int 0]) rfl rfl rfl ?_
    exact ex_retI pm_M174 rfl (⟨_, rfl, v0 a0 a1 a2 S c1⟩)
  · -- not
    refine ex_lo pm_M174 (pc' := 6) (ls' := [.int a0, .int a1, .int a2]) (st' := [.int a0]) rfl rfl rfl ?_
    refine ex_lo pm_M174 (pc' := 7) (ls' := [.int a0, .int a1, .int a2]) (st' := [.int a2, .int a0]) rfl rfl rfl ?_
    refine ex_icmp pm_M174 (t := 14) (pc' := 10) rfl rfl rfl (fun c2 => ?_) (fun c2 => ?_)
    · -- a2 < a0
      refine ex_op pm_M174 (pc' := 15) (st' := [.int 0]) rfl rfl rfl ?_
      exact ex_retI pm_M174 rfl (⟨_, rfl, v1 a0 a1 a2 S c1 c2⟩)
    · -- not
      refine ex_op pm_M174 (pc' := 11) (st' := [.int 1]) rfl rfl rfl ?_
      refine ex_br pm_M174 (pc' := 15) (st' := [.int 1]) rfl rfl ?_
      exact ex_retI pm_M174 rfl (⟨_, rfl, v2 a0 a1 a2 S c1 c2⟩)
set_option maxRecDepth 100000 in
set_option maxHeartbeats 4000000 in
/-- SilentTableModel.mostOf -/
theorem ev176 {C : Int32 → ex_S → Int32 → ex_S → Prop} 
    (v0 : ∀ (a0 : Int32) (S : ex_S), ¬ a0 = 1 → C a0 S 2 S) 
    (v1 : ∀ (a0 : Int32) (S : ex_S), ¬ (¬ a0 = 1) → C a0 S 3 S) : es176 C := by
  intro N d a0 S
  refine ex_lo pm_M176 (pc' := 1) (ls' := [.int a0]) (st' := [.int a0]) rfl rfl rfl ?_
  refine ex_op pm_M176 (pc' := 2) (st' := [.int 1, .int a0]) rfl rfl rfl ?_
  refine ex_icmp pm_M176 (t := 9) (pc' := 5) rfl rfl rfl (fun c1 => ?_) (fun c1 => ?_)
  · -- ¬ a0 = 1
    refine ex_op pm_M176 (pc' := 10) (st' := [.int 2]) rfl rfl rfl ?_
    exact ex_retI pm_M176 rfl (⟨_, rfl, v0 a0 S c1⟩)
  · -- not
    refine ex_op pm_M176 (pc' := 6) (st' := [.int 3]) rfl rfl rfl ?_
    refine ex_br pm_M176 (pc' := 10) (st' := [.int 3]) rfl rfl ?_
    exact ex_retI pm_M176 rfl (⟨_, rfl, v1 a0 S c1⟩)
set_option maxRecDepth 100000 in
set_option maxHeartbeats 4000000 in
/-- SilentTableModel.see -/
theorem ev180 {C : ex_S → Int32 → ex_S → Prop} 
    (v0 : ∀ (S : ex_S), S.1 41 11 ≤ S.1 41 10 → C S (-1) S) 
    (v1 : ∀ (S : ex_S), ¬ (S.1 41 11 ≤ S.1 41 10) → C S ((S.1 42 ((S.1 41 10).toNatClampNeg)) &&& 255) S) : es180 C := by
  intro N d  S
  refine ex_lo pm_M180 (pc' := 1) (ls' := [.ref 41]) (st' := [.ref 41]) rfl rfl rfl ?_
  refine ex_getI' pm_M180 (pc' := 4) (v := S.1 41 10) rfl rfl rfl rfl rfl rfl ?_
  refine ex_lo pm_M180 (pc' := 5) (ls' := [.ref 41]) (st' := [.ref 41, .int (S.1 41 10)]) rfl rfl rfl ?_
  refine ex_getI' pm_M180 (pc' := 8) (v := S.1 41 11) rfl rfl rfl rfl rfl rfl ?_
  refine ex_icmp pm_M180 (t := 27) (pc' := 11) rfl rfl rfl (fun c1 => ?_) (fun c1 => ?_)
  · -- S.1 41 11 ≤ S.1 41 10
    refine ex_op pm_M180 (pc' := 28) (st' := [.int (-1)]) rfl rfl rfl ?_
    exact ex_retI pm_M180 rfl (⟨_, rfl, v0 S c1⟩)
  · -- not
    refine ex_lo pm_M180 (pc' := 12) (ls' := [.ref 41]) (st' := [.ref 41]) rfl rfl rfl ?_
    refine ex_getK pm_M180 (pc' := 15) (j := 25) (b := 42) rfl rfl rfl rfl rfl ?_
    refine ex_lo pm_M180 (pc' := 16) (ls' := [.ref 41]) (st' := [.ref 41, .ref 42]) rfl rfl rfl ?_
    refine ex_getI' pm_M180 (pc' := 19) (v := S.1 41 10) rfl rfl rfl rfl rfl rfl ?_
    refine ex_bald' pm_M180 (pc' := 20) (v := S.1 42 ((S.1 41 10).toNatClampNeg)) rfl rfl rfl ?_
    refine ex_op pm_M180 (pc' := 23) (st' := [.int 255, .int (S.1 42 ((S.1 41 10).toNatClampNeg))]) rfl rfl rfl ?_
    refine ex_op pm_M180 (pc' := 24) (st' := [.int ((S.1 42 ((S.1 41 10).toNatClampNeg)) &&& 255)]) rfl rfl rfl ?_
    refine ex_br pm_M180 (pc' := 28) (st' := [.int ((S.1 42 ((S.1 41 10).toNatClampNeg)) &&& 255)]) rfl rfl ?_
    exact ex_retI pm_M180 rfl (⟨_, rfl, v1 S c1⟩)
