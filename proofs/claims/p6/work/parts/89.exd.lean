/-- SilentTable$Told.<init>()V -/
def es2 (C : Nat → ex_S → ex_S → Prop) : Prop := ∀ (N d : Nat) (t : Nat) (S : ex_S), 72 ≤ t → ex_P N d 2 0 [.ref t] [] S (fun r S' => r = none ∧ C t S S')
/-- SilentTable.feed(IIIII)I -/
def es7 (C : Int32 → Int32 → Int32 → Int32 → Int32 → ex_S → Int32 → ex_S → Prop) : Prop := ∀ (N d : Nat) (a0 : Int32) (a1 : Int32) (a2 : Int32) (a3 : Int32) (a4 : Int32) (S : ex_S), ex_P N d 7 0 [.ref 16, .int a0, .int a1, .int a2, .int a3, .int a4] [] S (fun r S' => ∃ v, r = some (.int v) ∧ C a0 a1 a2 a3 a4 S v S')
/-- SilentTable$Told.append(I)V -/
def es8 (C : Int32 → ex_S → ex_S → Prop) : Prop := ∀ (N d : Nat) (a0 : Int32) (S : ex_S), ex_P N d 8 0 [.ref 17, .int a0, pm_no] [] S (fun r S' => r = none ∧ C a0 S S')
/-- SilentTable.end(I)I -/
def es9 (C : Int32 → ex_S → Int32 → ex_S → Prop) : Prop := ∀ (N d : Nat) (a0 : Int32) (S : ex_S), ex_P N d 9 0 [.ref 16, .int a0] [] S (fun r S' => ∃ v, r = some (.int v) ∧ C a0 S v S')
/-- SilentTable.text(II)I -/
def es10 (C : Int32 → Int32 → ex_S → Int32 → ex_S → Prop) : Prop := ∀ (N d : Nat) (a0 : Int32) (a1 : Int32) (S : ex_S), ex_P N d 10 0 [.ref 16, .int a0, .int a1, pm_no, pm_no, pm_no, pm_no] [] S (fun r S' => ∃ v, r = some (.int v) ∧ C a0 a1 S v S')
/-- SilentTable.keepText(II)V -/
def es43 (C : Int32 → Int32 → ex_S → ex_S → Prop) : Prop := ∀ (N d : Nat) (a0 : Int32) (a1 : Int32) (S : ex_S), ex_P N d 43 0 [.ref 16, .int a0, .int a1] [] S (fun r S' => r = none ∧ C a0 a1 S S')
/-- SilentTable$SignList.<init>(LSilentTable$TextReader;)V -/
def es44 (C : Nat → ex_S → ex_S → Prop) : Prop := ∀ (N d : Nat) (t : Nat) (S : ex_S), ex_P N d 44 0 [.ref t, .ref 25, pm_no, pm_no] [] S (fun r S' => r = none ∧ C t S S')
/-- java/util/Arrays.copyOf([II)[I -/
def es45 (C : Nat → Int32 → ex_S → Option Nat → ex_S → Prop) : Prop := ∀ (N d : Nat) (a0 : Nat) (a1 : Int32) (S : ex_S), ex_P N d 45 0 [.ref a0, .int a1, pm_no] [] S (fun r S' => ∃ v, r = some (va_rf v) ∧ C a0 a1 S v S')
/-- SilentTable$SignList.wear(I)Z -/
def es46 (C : Nat → Int32 → ex_S → Int32 → ex_S → Prop) : Prop := ∀ (N d : Nat) (t : Nat) (a0 : Int32) (S : ex_S), ex_P N d 46 0 [.ref t, .int a0, pm_no, pm_no, pm_no, pm_no, pm_no] [] S (fun r S' => ∃ v, r = some (.int v) ∧ C t a0 S v S')
/-- SilentTable$SignRow.<init>(LSilentTable$TextReader;)V -/
def es47 (C : Nat → ex_S → ex_S → Prop) : Prop := ∀ (N d : Nat) (t : Nat) (S : ex_S), ex_P N d 47 0 [.ref t, .ref 25] [] S (fun r S' => r = none ∧ C t S S')
/-- SilentTable$Meal.<init>(LSilentTable$TextReader;)V -/
def es48 (C : Nat → ex_S → ex_S → Prop) : Prop := ∀ (N d : Nat) (t : Nat) (S : ex_S), ex_P N d 48 0 [.ref t, .ref 25, pm_no] [] S (fun r S' => r = none ∧ C t S S')
/-- java/util/Arrays.fill([IIII)V -/
def es49 (C : Option Nat → Int32 → Int32 → Int32 → ex_S → ex_S → Prop) : Prop := ∀ (N d : Nat) (a0 : Option Nat) (a1 : Int32) (a2 : Int32) (a3 : Int32) (S : ex_S), ex_P N d 49 0 [va_rf a0, .int a1, .int a2, .int a3, pm_no] [] S (fun r S' => r = none ∧ C a0 a1 a2 a3 S S')
/-- java/util/Arrays.rangeCheck(III)V -/
def es50 (C : Int32 → Int32 → Int32 → ex_S → ex_S → Prop) : Prop := ∀ (N d : Nat) (a0 : Int32) (a1 : Int32) (a2 : Int32) (S : ex_S), ex_P N d 50 0 [.int a0, .int a1, .int a2] [] S (fun r S' => r = none ∧ C a0 a1 a2 S S')
/-- SilentTable$Meal.isSign(I)Z -/
def es51 (C : Nat → Int32 → ex_S → Int32 → ex_S → Prop) : Prop := ∀ (N d : Nat) (t : Nat) (a0 : Int32) (S : ex_S), ex_P N d 51 0 [.ref t, .int a0] [] S (fun r S' => ∃ v, r = some (.int v) ∧ C t a0 S v S')
/-- SilentTable$Meal.whoDoes(I)I -/
def es52 (C : Nat → Int32 → ex_S → Int32 → ex_S → Prop) : Prop := ∀ (N d : Nat) (t : Nat) (a0 : Int32) (S : ex_S), ex_P N d 52 0 [.ref t, .int a0] [] S (fun r S' => ∃ v, r = some (.int v) ∧ C t a0 S v S')
/-- SilentTable$Meal.lookersAt(II)I -/
def es53 (C : Nat → Int32 → Int32 → ex_S → Int32 → ex_S → Prop) : Prop := ∀ (N d : Nat) (t : Nat) (a0 : Int32) (a1 : Int32) (S : ex_S), ex_P N d 53 0 [.ref t, .int a0, .int a1, pm_no, pm_no] [] S (fun r S' => ∃ v, r = some (.int v) ∧ C t a0 a1 S v S')
/-- SilentTable$House.<init>(LSilentTable$TextReader;)V -/
def es54 (C : Nat → ex_S → ex_S → Prop) : Prop := ∀ (N d : Nat) (t : Nat) (S : ex_S), ex_P N d 54 0 [.ref t, .ref 25] [] S (fun r S' => r = none ∧ C t S S')
/-- SilentTable.fault(I)I -/
def es55 (C : Int32 → ex_S → Int32 → ex_S → Prop) : Prop := ∀ (N d : Nat) (a0 : Int32) (S : ex_S), ex_P N d 55 0 [.ref 16, .int a0] [] S (fun r S' => ∃ v, r = some (.int v) ∧ C a0 S v S')
/-- SilentTable.count(I)I -/
def es56 (C : Int32 → ex_S → Int32 → ex_S → Prop) : Prop := ∀ (N d : Nat) (a0 : Int32) (S : ex_S), ex_P N d 56 0 [.ref 16, .int a0] [] S (fun r S' => ∃ v, r = some (.int v) ∧ C a0 S v S')
/-- SilentTable.image(I)Z -/
def es57 (C : Int32 → ex_S → Int32 → ex_S → Prop) : Prop := ∀ (N d : Nat) (a0 : Int32) (S : ex_S), ex_P N d 57 0 [.ref 16, .int a0] [] S (fun r S' => ∃ v, r = some (.int v) ∧ C a0 S v S')
/-- SilentTable$Told.takeFrom(LSilentTable$Told;)V -/
def es58 (C : Nat → Nat → ex_S → ex_S → Prop) : Prop := ∀ (N d : Nat) (t : Nat) (a0 : Nat) (S : ex_S), ex_P N d 58 0 [.ref t, .ref a0] [] S (fun r S' => r = none ∧ C t a0 S S')
/-- SilentTable$Told.takeTexts(LSilentTable$Told;)V -/
def es59 (C : Nat → Nat → ex_S → ex_S → Prop) : Prop := ∀ (N d : Nat) (t : Nat) (a0 : Nat) (S : ex_S), ex_P N d 59 0 [.ref t, .ref a0, pm_no] [] S (fun r S' => r = none ∧ C t a0 S S')
/-- SilentTable.again(I)Z -/
def es60 (C : Int32 → ex_S → Int32 → ex_S → Prop) : Prop := ∀ (N d : Nat) (a0 : Int32) (S : ex_S), ex_P N d 60 0 [.ref 16, .int a0] [] S (fun r S' => ∃ v, r = some (.int v) ∧ C a0 S v S')
/-- SilentTableModel.feed(IIIII)I -/
def es171 (C : Int32 → Int32 → Int32 → Int32 → Int32 → ex_S → Int32 → ex_S → Prop) : Prop := ∀ (N d : Nat) (a0 : Int32) (a1 : Int32) (a2 : Int32) (a3 : Int32) (a4 : Int32) (S : ex_S), ex_P N d 171 0 [.ref 41, .int a0, .int a1, .int a2, .int a3, .int a4] [] S (fun r S' => ∃ v, r = some (.int v) ∧ C a0 a1 a2 a3 a4 S v S')
/-- SilentTableModel.four(I)V -/
def es172 (C : Int32 → ex_S → ex_S → Prop) : Prop := ∀ (N d : Nat) (a0 : Int32) (S : ex_S), ex_P N d 172 0 [.ref 41, .int a0, pm_no] [] S (fun r S' => r = none ∧ C a0 S S')
/-- SilentTableModel.end(I)I -/
def es173 (C : Int32 → ex_S → Int32 → ex_S → Prop) : Prop := ∀ (N d : Nat) (a0 : Int32) (S : ex_S), ex_P N d 173 0 [.ref 41, .int a0] [] S (fun r S' => ∃ v, r = some (.int v) ∧ C a0 S v S')
/-- SilentTableModel.text(II)I -/
def es175 (C : Int32 → Int32 → ex_S → Int32 → ex_S → Prop) : Prop := ∀ (N d : Nat) (a0 : Int32) (a1 : Int32) (S : ex_S), ex_P N d 175 0 [.ref 41, .int a0, .int a1, pm_no] [] S (fun r S' => ∃ v, r = some (.int v) ∧ C a0 a1 S v S')
/-- SilentTableModel.store([III)V -/
def es193 (C : Nat → Int32 → Int32 → ex_S → ex_S → Prop) : Prop := ∀ (N d : Nat) (a0 : Nat) (a1 : Int32) (a2 : Int32) (S : ex_S), ex_P N d 193 0 [.ref 41, .ref a0, .int a1, .int a2, pm_no] [] S (fun r S' => r = none ∧ C a0 a1 a2 S S')
/-- SilentTableModel.fault(I)I -/
def es194 (C : Int32 → ex_S → Int32 → ex_S → Prop) : Prop := ∀ (N d : Nat) (a0 : Int32) (S : ex_S), ex_P N d 194 0 [.ref 41, .int a0] [] S (fun r S' => ∃ v, r = some (.int v) ∧ C a0 S v S')
/-- SilentTableModel.count(I)I -/
def es294 (C : Int32 → ex_S → Int32 → ex_S → Prop) : Prop := ∀ (N d : Nat) (a0 : Int32) (S : ex_S), ex_P N d 294 0 [.ref 41, .int a0] [] S (fun r S' => ∃ v, r = some (.int v) ∧ C a0 S v S')
/-- SilentTableModel.image(I)Z -/
def es295 (C : Int32 → ex_S → Int32 → ex_S → Prop) : Prop := ∀ (N d : Nat) (a0 : Int32) (S : ex_S), ex_P N d 295 0 [.ref 41, .int a0] [] S (fun r S' => ∃ v, r = some (.int v) ∧ C a0 S v S')
/-- SilentTableModel.copyAll(II)V -/
def es296 (C : Int32 → Int32 → ex_S → ex_S → Prop) : Prop := ∀ (N d : Nat) (a0 : Int32) (a1 : Int32) (S : ex_S), ex_P N d 296 0 [.ref 41, .int a0, .int a1, pm_no] [] S (fun r S' => r = none ∧ C a0 a1 S S')
/-- SilentTableModel.copyRow([IIII)V -/
def es297 (C : Nat → Int32 → Int32 → Int32 → ex_S → ex_S → Prop) : Prop := ∀ (N d : Nat) (a0 : Nat) (a1 : Int32) (a2 : Int32) (a3 : Int32) (S : ex_S), ex_P N d 297 0 [.ref a0, .int a1, .int a2, .int a3, pm_no] [] S (fun r S' => r = none ∧ C a0 a1 a2 a3 S S')
/-- SilentTableModel.again(I)Z -/
def es298 (C : Int32 → ex_S → Int32 → ex_S → Prop) : Prop := ∀ (N d : Nat) (a0 : Int32) (S : ex_S), ex_P N d 298 0 [.ref 41, .int a0] [] S (fun r S' => ∃ v, r = some (.int v) ∧ C a0 S v S')
