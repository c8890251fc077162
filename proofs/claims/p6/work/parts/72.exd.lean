/-- SilentTable$TextReader.readTape(II)V -/
def es11 (C : Int32 → Int32 → ex_S → ex_S → Prop) : Prop := ∀ (N d : Nat) (a0 : Int32) (a1 : Int32) (S : ex_S), ex_P N d 11 0 [.ref 25, .int a0, .int a1, pm_no] [] S (fun r S' => r = none ∧ C a0 a1 S S')
/-- SilentTable$TextReader.forget()V -/
def es12 (C : ex_S → ex_S → Prop) : Prop := ∀ (N d : Nat) (S : ex_S), ex_P N d 12 0 [.ref 25] [] S (fun r S' => r = none ∧ C S S')
/-- java/util/Arrays.fill([II)V -/
def es13 (C : Nat → Int32 → ex_S → ex_S → Prop) : Prop := ∀ (N d : Nat) (a0 : Nat) (a1 : Int32) (S : ex_S), ex_P N d 13 0 [.ref a0, .int a1, pm_no, pm_no] [] S (fun r S' => r = none ∧ C a0 a1 S S')
/-- SilentTable$Tokens.startOver(I)V -/
def es14 (C : Int32 → ex_S → ex_S → Prop) : Prop := ∀ (N d : Nat) (a0 : Int32) (S : ex_S), ex_P N d 14 0 [.ref 30, .int a0] [] S (fun r S' => r = none ∧ C a0 S S')
/-- SilentTable$TextReader.readSigns()Z -/
def es15 (C : ex_S → Int32 → ex_S → Prop) : Prop := ∀ (N d : Nat) (S : ex_S), ex_P N d 15 0 [.ref 25, pm_no] [] S (fun r S' => ∃ v, r = some (.int v) ∧ C S v S')
/-- SilentTable$Tokens.step()V -/
def es16 (C : ex_S → ex_S → Prop) : Prop := ∀ (N d : Nat) (S : ex_S), ex_P N d 16 0 [.ref 30] [] S (fun r S' => r = none ∧ C S S')
/-- SilentTable$Tokens.isBlank(B)Z -/
def es17 (C : Int32 → ex_S → Int32 → ex_S → Prop) : Prop := ∀ (N d : Nat) (a0 : Int32) (S : ex_S), ex_P N d 17 0 [.int a0] [] S (fun r S' => ∃ v, r = some (.int v) ∧ C a0 S v S')
/-- SilentTable$Tokens.isLetter(B)Z -/
def es18 (C : Int32 → ex_S → Int32 → ex_S → Prop) : Prop := ∀ (N d : Nat) (a0 : Int32) (S : ex_S), ex_P N d 18 0 [.int a0] [] S (fun r S' => ∃ v, r = some (.int v) ∧ C a0 S v S')
/-- SilentTable$Tokens.isDigit(B)Z -/
def es19 (C : Int32 → ex_S → Int32 → ex_S → Prop) : Prop := ∀ (N d : Nat) (a0 : Int32) (S : ex_S), ex_P N d 19 0 [.int a0] [] S (fun r S' => ∃ v, r = some (.int v) ∧ C a0 S v S')
/-- SilentTable$Tokens.takeDigits()V -/
def es20 (C : ex_S → ex_S → Prop) : Prop := ∀ (N d : Nat) (S : ex_S), ex_P N d 20 0 [.ref 30] [] S (fun r S' => r = none ∧ C S S')
/-- SilentTable$TextReader.noteFault(II)V -/
def es21 (C : Int32 → Int32 → ex_S → ex_S → Prop) : Prop := ∀ (N d : Nat) (a0 : Int32) (a1 : Int32) (S : ex_S), ex_P N d 21 0 [.ref 25, .int a0, .int a1] [] S (fun r S' => r = none ∧ C a0 a1 S S')
/-- SilentTable$TextReader.readLines(I)Z -/
def es22 (C : Int32 → ex_S → Int32 → ex_S → Prop) : Prop := ∀ (N d : Nat) (a0 : Int32) (S : ex_S), ex_P N d 22 0 [.ref 25, .int a0, pm_no] [] S (fun r S' => ∃ v, r = some (.int v) ∧ C a0 S v S')
/-- SilentTable$TextReader.firstWord(I)I -/
def es23 (C : Int32 → ex_S → Int32 → ex_S → Prop) : Prop := ∀ (N d : Nat) (a0 : Int32) (S : ex_S), ex_P N d 23 0 [.ref 25, .int a0, pm_no] [] S (fun r S' => ∃ v, r = some (.int v) ∧ C a0 S v S')
/-- SilentTable$Tokens.wordAmong(Ljava/lang/String;)I -/
def es24 (C : Nat → ex_S → Int32 → ex_S → Prop) : Prop := ∀ (N d : Nat) (a0 : Nat) (S : ex_S), ex_P N d 24 0 [.ref 30, .ref a0, pm_no, pm_no, pm_no] [] S (fun r S' => ∃ v, r = some (.int v) ∧ C a0 S v S')
/-- java/lang/String.length()I -/
def es25 (C : Nat → ex_S → Int32 → ex_S → Prop) : Prop := ∀ (N d : Nat) (t : Nat) (S : ex_S), ex_P N d 25 0 [.ref t] [] S (fun r S' => ∃ v, r = some (.int v) ∧ C t S v S')
/-- java/lang/String.charAt(I)C -/
def es27 (C : Nat → Int32 → ex_S → Int32 → ex_S → Prop) : Prop := ∀ (N d : Nat) (t : Nat) (a0 : Int32) (S : ex_S), ex_P N d 27 0 [.ref t, .int a0] [] S (fun r S' => ∃ v, r = some (.int v) ∧ C t a0 S v S')
/-- SilentTable$Tokens.spells(Ljava/lang/String;II)Z -/
def es36 (C : Nat → Int32 → Int32 → ex_S → Int32 → ex_S → Prop) : Prop := ∀ (N d : Nat) (a0 : Nat) (a1 : Int32) (a2 : Int32) (S : ex_S), ex_P N d 36 0 [.ref 30, .ref a0, .int a1, .int a2, pm_no] [] S (fun r S' => ∃ v, r = some (.int v) ∧ C a0 a1 a2 S v S')
/-- SilentTable$TextReader.readLine(I)Z -/
def es37 (C : Int32 → ex_S → Int32 → ex_S → Prop) : Prop := ∀ (N d : Nat) (a0 : Int32) (S : ex_S), ex_P N d 37 0 [.ref 25, .int a0, pm_no] [] S (fun r S' => ∃ v, r = some (.int v) ∧ C a0 S v S')
/-- SilentTable$TextReader.noteMany(I)V -/
def es38 (C : Int32 → ex_S → ex_S → Prop) : Prop := ∀ (N d : Nat) (a0 : Int32) (S : ex_S), ex_P N d 38 0 [.ref 25, .int a0, pm_no, pm_no] [] S (fun r S' => r = none ∧ C a0 S S')
/-- SilentTable$TextReader.noteNumber(II)V -/
def es39 (C : Int32 → Int32 → ex_S → ex_S → Prop) : Prop := ∀ (N d : Nat) (a0 : Int32) (a1 : Int32) (S : ex_S), ex_P N d 39 0 [.ref 25, .int a0, .int a1, pm_no, pm_no, pm_no] [] S (fun r S' => r = none ∧ C a0 a1 S S')
/-- SilentTable$TextReader.keepLine(I)V -/
def es40 (C : Int32 → ex_S → ex_S → Prop) : Prop := ∀ (N d : Nat) (a0 : Int32) (S : ex_S), ex_P N d 40 0 [.ref 25, .int a0] [] S (fun r S' => r = none ∧ C a0 S S')
/-- SilentTable$TextReader.store([III)I -/
def es41 (C : Nat → Int32 → Int32 → ex_S → Int32 → ex_S → Prop) : Prop := ∀ (N d : Nat) (a0 : Nat) (a1 : Int32) (a2 : Int32) (S : ex_S), ex_P N d 41 0 [.ref 25, .ref a0, .int a1, .int a2] [] S (fun r S' => ∃ v, r = some (.int v) ∧ C a0 a1 a2 S v S')
/-- SilentTable$TextReader.keepDeedOrLaw(I)V -/
def es42 (C : Int32 → ex_S → ex_S → Prop) : Prop := ∀ (N d : Nat) (a0 : Int32) (S : ex_S), ex_P N d 42 0 [.ref 25, .int a0] [] S (fun r S' => r = none ∧ C a0 S S')
/-- SilentTableModel.in(III)Z -/
def es174 (C : Int32 → Int32 → Int32 → ex_S → Int32 → ex_S → Prop) : Prop := ∀ (N d : Nat) (a0 : Int32) (a1 : Int32) (a2 : Int32) (S : ex_S), ex_P N d 174 0 [.int a0, .int a1, .int a2] [] S (fun r S' => ∃ v, r = some (.int v) ∧ C a0 a1 a2 S v S')
/-- SilentTableModel.mostOf(I)I -/
def es176 (C : Int32 → ex_S → Int32 → ex_S → Prop) : Prop := ∀ (N d : Nat) (a0 : Int32) (S : ex_S), ex_P N d 176 0 [.int a0] [] S (fun r S' => ∃ v, r = some (.int v) ∧ C a0 S v S')
/-- SilentTableModel.readText(I)Z -/
def es178 (C : Int32 → ex_S → Int32 → ex_S → Prop) : Prop := ∀ (N d : Nat) (a0 : Int32) (S : ex_S), ex_P N d 178 0 [.ref 41, .int a0, pm_no, pm_no] [] S (fun r S' => ∃ v, r = some (.int v) ∧ C a0 S v S')
/-- SilentTableModel.token()V -/
def es179 (C : ex_S → ex_S → Prop) : Prop := ∀ (N d : Nat) (S : ex_S), ex_P N d 179 0 [.ref 41, pm_no, pm_no] [] S (fun r S' => r = none ∧ C S S')
/-- SilentTableModel.see()I -/
def es180 (C : ex_S → Int32 → ex_S → Prop) : Prop := ∀ (N d : Nat) (S : ex_S), ex_P N d 180 0 [.ref 41] [] S (fun r S' => ∃ v, r = some (.int v) ∧ C S v S')
/-- SilentTableModel.rowText()Z -/
def es181 (C : ex_S → Int32 → ex_S → Prop) : Prop := ∀ (N d : Nat) (S : ex_S), ex_P N d 181 0 [.ref 41] [] S (fun r S' => ∃ v, r = some (.int v) ∧ C S v S')
/-- SilentTableModel.later(II)V -/
def es182 (C : Int32 → Int32 → ex_S → ex_S → Prop) : Prop := ∀ (N d : Nat) (a0 : Int32) (a1 : Int32) (S : ex_S), ex_P N d 182 0 [.ref 41, .int a0, .int a1] [] S (fun r S' => r = none ∧ C a0 a1 S S')
/-- SilentTableModel.take(III)Z -/
def es183 (C : Int32 → Int32 → Int32 → ex_S → Int32 → ex_S → Prop) : Prop := ∀ (N d : Nat) (a0 : Int32) (a1 : Int32) (a2 : Int32) (S : ex_S), ex_P N d 183 0 [.ref 41, .int a0, .int a1, .int a2] [] S (fun r S' => ∃ v, r = some (.int v) ∧ C a0 a1 a2 S v S')
/-- SilentTableModel.stops()Z -/
def es184 (C : ex_S → Int32 → ex_S → Prop) : Prop := ∀ (N d : Nat) (S : ex_S), ex_P N d 184 0 [.ref 41] [] S (fun r S' => ∃ v, r = some (.int v) ∧ C S v S')
/-- SilentTableModel.keep(IIIII)V -/
def es185 (C : Int32 → Int32 → Int32 → Int32 → Int32 → ex_S → ex_S → Prop) : Prop := ∀ (N d : Nat) (a0 : Int32) (a1 : Int32) (a2 : Int32) (a3 : Int32) (a4 : Int32) (S : ex_S), ex_P N d 185 0 [.ref 41, .int a0, .int a1, .int a2, .int a3, .int a4, pm_no, pm_no] [] S (fun r S' => r = none ∧ C a0 a1 a2 a3 a4 S S')
/-- SilentTableModel.lines(I)Z -/
def es186 (C : Int32 → ex_S → Int32 → ex_S → Prop) : Prop := ∀ (N d : Nat) (a0 : Int32) (S : ex_S), ex_P N d 186 0 [.ref 41, .int a0, pm_no, pm_no, pm_no, pm_no] [] S (fun r S' => ∃ v, r = some (.int v) ∧ C a0 S v S')
/-- SilentTableModel.listLine(JI)Z -/
def es187 (C : Int64 → Int32 → ex_S → Int32 → ex_S → Prop) : Prop := ∀ (N d : Nat) (a0 : Int64) (a1 : Int32) (S : ex_S), ex_P N d 187 0 [.ref 41, .long a0, pm_no, .int a1] [] S (fun r S' => ∃ v, r = some (.int v) ∧ C a0 a1 S v S')
/-- SilentTableModel.actWord()Z -/
def es188 (C : ex_S → Int32 → ex_S → Prop) : Prop := ∀ (N d : Nat) (S : ex_S), ex_P N d 188 0 [.ref 41, pm_no, pm_no] [] S (fun r S' => ∃ v, r = some (.int v) ∧ C S v S')
/-- SilentTableModel.mealLine(JI)Z -/
def es189 (C : Int64 → Int32 → ex_S → Int32 → ex_S → Prop) : Prop := ∀ (N d : Nat) (a0 : Int64) (a1 : Int32) (S : ex_S), ex_P N d 189 0 [.ref 41, .long a0, pm_no, .int a1, pm_no] [] S (fun r S' => ∃ v, r = some (.int v) ∧ C a0 a1 S v S')
/-- SilentTableModel.clearRead()V -/
def es190 (C : ex_S → ex_S → Prop) : Prop := ∀ (N d : Nat) (S : ex_S), ex_P N d 190 0 [.ref 41, pm_no] [] S (fun r S' => r = none ∧ C S S')
/-- SilentTableModel.seat(II)Z -/
def es191 (C : Int32 → Int32 → ex_S → Int32 → ex_S → Prop) : Prop := ∀ (N d : Nat) (a0 : Int32) (a1 : Int32) (S : ex_S), ex_P N d 191 0 [.ref 41, .int a0, .int a1, pm_no] [] S (fun r S' => ∃ v, r = some (.int v) ∧ C a0 a1 S v S')
/-- SilentTableModel.houseLine(JI)Z -/
def es192 (C : Int64 → Int32 → ex_S → Int32 → ex_S → Prop) : Prop := ∀ (N d : Nat) (a0 : Int64) (a1 : Int32) (S : ex_S), ex_P N d 192 0 [.ref 41, .long a0, pm_no, .int a1, pm_no] [] S (fun r S' => ∃ v, r = some (.int v) ∧ C a0 a1 S v S')
