/-- SilentTable.list(II)I -/
def es61 (C : Int32 → Int32 → ex_S → Int32 → ex_S → Prop) : Prop := ∀ (N d : Nat) (a0 : Int32) (a1 : Int32) (S : ex_S), ex_P N d 61 0 [.ref 16, .int a0, .int a1, pm_no] [] S (fun r S' => ∃ v, r = some (.int v) ∧ C a0 a1 S v S')
/-- SilentTable.rule(III)I -/
def es63 (C : Int32 → Int32 → Int32 → ex_S → Int32 → ex_S → Prop) : Prop := ∀ (N d : Nat) (a0 : Int32) (a1 : Int32) (a2 : Int32) (S : ex_S), ex_P N d 63 0 [.ref 16, .int a0, .int a1, .int a2, pm_no] [] S (fun r S' => ∃ v, r = some (.int v) ∧ C a0 a1 a2 S v S')
/-- SilentTable.reading(III)I -/
def es64 (C : Int32 → Int32 → Int32 → ex_S → Int32 → ex_S → Prop) : Prop := ∀ (N d : Nat) (a0 : Int32) (a1 : Int32) (a2 : Int32) (S : ex_S), ex_P N d 64 0 [.ref 16, .int a0, .int a1, .int a2, pm_no] [] S (fun r S' => ∃ v, r = some (.int v) ∧ C a0 a1 a2 S v S')
/-- SilentTable.row(II)I -/
def es65 (C : Int32 → Int32 → ex_S → Int32 → ex_S → Prop) : Prop := ∀ (N d : Nat) (a0 : Int32) (a1 : Int32) (S : ex_S), ex_P N d 65 0 [.ref 16, .int a0, .int a1, pm_no] [] S (fun r S' => ∃ v, r = some (.int v) ∧ C a0 a1 S v S')
/-- SilentTable.countOrOne(JI)I -/
def es107 (C : Int64 → Int32 → ex_S → Int32 → ex_S → Prop) : Prop := ∀ (N d : Nat) (a0 : Int64) (a1 : Int32) (S : ex_S), ex_P N d 107 0 [.long a0, pm_no, .int a1, pm_no, pm_no, pm_no] [] S (fun r S' => ∃ v, r = some (.int v) ∧ C a0 a1 S v S')
/-- java/lang/Long.bitCount(J)I -/
def es108 (C : Int64 → ex_S → Int32 → ex_S → Prop) : Prop := ∀ (N d : Nat) (a0 : Int64) (S : ex_S), ex_P N d 108 0 [.long a0, pm_no] [] S (fun r S' => ∃ v, r = some (.int v) ∧ C a0 S v S')
/-- java/lang/Integer.bitCount(I)I -/
def es116 (C : Int32 → ex_S → Int32 → ex_S → Prop) : Prop := ∀ (N d : Nat) (a0 : Int32) (S : ex_S), ex_P N d 116 0 [.int a0] [] S (fun r S' => ∃ v, r = some (.int v) ∧ C a0 S v S')
/-- SilentTable.law(III)I -/
def es162 (C : Int32 → Int32 → Int32 → ex_S → Int32 → ex_S → Prop) : Prop := ∀ (N d : Nat) (a0 : Int32) (a1 : Int32) (a2 : Int32) (S : ex_S), ex_P N d 162 0 [.ref 16, .int a0, .int a1, .int a2, pm_no] [] S (fun r S' => ∃ v, r = some (.int v) ∧ C a0 a1 a2 S v S')
/-- SilentTableModel.list(II)I -/
def es195 (C : Int32 → Int32 → ex_S → Int32 → ex_S → Prop) : Prop := ∀ (N d : Nat) (a0 : Int32) (a1 : Int32) (S : ex_S), ex_P N d 195 0 [.ref 41, .int a0, .int a1] [] S (fun r S' => ∃ v, r = some (.int v) ∧ C a0 a1 S v S')
/-- SilentTableModel.rule(III)I -/
def es196 (C : Int32 → Int32 → Int32 → ex_S → Int32 → ex_S → Prop) : Prop := ∀ (N d : Nat) (a0 : Int32) (a1 : Int32) (a2 : Int32) (S : ex_S), ex_P N d 196 0 [.ref 41, .int a0, .int a1, .int a2] [] S (fun r S' => ∃ v, r = some (.int v) ∧ C a0 a1 a2 S v S')
/-- SilentTableModel.reading(III)I -/
def es197 (C : Int32 → Int32 → Int32 → ex_S → Int32 → ex_S → Prop) : Prop := ∀ (N d : Nat) (a0 : Int32) (a1 : Int32) (a2 : Int32) (S : ex_S), ex_P N d 197 0 [.ref 41, .int a0, .int a1, .int a2] [] S (fun r S' => ∃ v, r = some (.int v) ∧ C a0 a1 a2 S v S')
/-- SilentTableModel.row(II)I -/
def es198 (C : Int32 → Int32 → ex_S → Int32 → ex_S → Prop) : Prop := ∀ (N d : Nat) (a0 : Int32) (a1 : Int32) (S : ex_S), ex_P N d 198 0 [.ref 41, .int a0, .int a1] [] S (fun r S' => ∃ v, r = some (.int v) ∧ C a0 a1 S v S')
/-- SilentTableModel.tell(JI)I -/
def es221 (C : Int64 → Int32 → ex_S → Int32 → ex_S → Prop) : Prop := ∀ (N d : Nat) (a0 : Int64) (a1 : Int32) (S : ex_S), ex_P N d 221 0 [.long a0, pm_no, .int a1, pm_no, pm_no] [] S (fun r S' => ∃ v, r = some (.int v) ∧ C a0 a1 S v S')
/-- SilentTableModel.manyOf(J)I -/
def es222 (C : Int64 → ex_S → Int32 → ex_S → Prop) : Prop := ∀ (N d : Nat) (a0 : Int64) (S : ex_S), ex_P N d 222 0 [.long a0, pm_no, pm_no, pm_no] [] S (fun r S' => ∃ v, r = some (.int v) ∧ C a0 S v S')
/-- SilentTableModel.law(III)I -/
def es271 (C : Int32 → Int32 → Int32 → ex_S → Int32 → ex_S → Prop) : Prop := ∀ (N d : Nat) (a0 : Int32) (a1 : Int32) (a2 : Int32) (S : ex_S), ex_P N d 271 0 [.ref 41, .int a0, .int a1, .int a2] [] S (fun r S' => ∃ v, r = some (.int v) ∧ C a0 a1 a2 S v S')
