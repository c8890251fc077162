/-! THE PURE MACHINE: the class's, the law's and the reference's bytecode over a heap that is a function, addresses that are numbers of cells (0 .. 15: cells that were there before, never written) -/
abbrev pm_E : Type := (Nat × vp_A) ⊕ (Nat × List Value)
/-- how many cells, how many slots were made, the cells -/
abbrev pm_H : Type := Nat × Nat × (Nat → pm_E)
def pm_set (h : pm_H) (i : Nat) (c : pm_E) : pm_H := (h.1, h.2.1, va_up h.2.2 i c)
def pm_push (h : pm_H) (c : pm_E) (k : Nat) : pm_H := (h.1 + 1, h.2.1 + k, va_up h.2.2 h.1 c)
def pm_len (i : Instr) : Nat := match i with
  | .tableswitch .. => 0 | .lookupswitch .. => 0
  | .bipush _ => 2 | .iload _ => 2 | .lload _ => 2 | .aload _ => 2 | .istore _ => 2 | .lstore _ => 2 | .astore _ => 2 | .newarray _ => 2 | .ldc _ => 2
  | .sipush _ => 3 | .iinc _ _ => 3 | .getfield _ => 3 | .putfield _ => 3 | .getstatic _ => 3 | .new _ => 3 | .anewarray _ => 3 | .checkcast _ => 3 | .ldc_w _ => 3 | .ldc2_w _ => 3
  | .ifCond _ _ => 3 | .if_icmp _ _ => 3 | .if_acmp _ _ => 3 | .ifnull _ => 3 | .ifnonnull _ => 3 | .goto _ => 3 | .invokevirtual _ => 3 | .invokespecial _ => 3 | .invokestatic _ => 3
  | _ => 1
/-- what goes on on the stack alone -/
def pm_op (i : Instr) (st : List Value) : Option (List Value) := match i, st with
  | .iconst n, st => some (.int (Int32.ofInt n) :: st)
  | .bipush n, st => some (.int (Int8.ofInt n).toInt32 :: st)
  | .sipush n, st => some (.int (Int16.ofInt n).toInt32 :: st)
  | .lconst n, st => some (.long (Int64.ofNat (n : Nat)) :: st)
  | .aconst_null, st => some (.null :: st)
  | .iadd, .int y :: .int x :: st => some (.int (x + y) :: st)
  | .isub, .int y :: .int x :: st => some (.int (x - y) :: st)
  | .imul, .int y :: .int x :: st => some (.int (x * y) :: st)
  | .iand, .int y :: .int x :: st => some (.int (x &&& y) :: st)
  | .ior, .int y :: .int x :: st => some (.int (x ||| y) :: st)
  | .ixor, .int y :: .int x :: st => some (.int (x ^^^ y) :: st)
  | .idiv, .int y :: .int x :: st => if y = 0 then none else some (.int (x / y) :: st)
  | .irem, .int y :: .int x :: st => if y = 0 then none else some (.int (x - x / y * y) :: st)
  | .ishl, .int y :: .int x :: st => some (.int (x <<< (y &&& 31)) :: st)
  | .ishr, .int y :: .int x :: st => some (.int (x >>> (y &&& 31)) :: st)
  | .iushr, .int y :: .int x :: st => some (.int (x.toUInt32 >>> (y.toUInt32 &&& Int32.toUInt32 31)).toInt32 :: st)
  | .ladd, .long y :: .long x :: st => some (.long (x + y) :: st)
  | .lsub, .long y :: .long x :: st => some (.long (x - y) :: st)
  | .lmul, .long y :: .long x :: st => some (.long (x * y) :: st)
  | .land, .long y :: .long x :: st => some (.long (x &&& y) :: st)
  | .lor, .long y :: .long x :: st => some (.long (x ||| y) :: st)
  | .ldiv, .long y :: .long x :: st => if y = 0 then none else some (.long (x / y) :: st)
  | .lrem, .long y :: .long x :: st => if y = 0 then none else some (.long (x - x / y * y) :: st)
  | .lushr, .int y :: .long x :: st => some (.long (x.toUInt64 >>> (y.toInt64.toUInt64 &&& Int64.toUInt64 63)).toInt64 :: st)
  | .lshl, .int y :: .long x :: st => some (.long (x <<< (y.toInt64 &&& 63)) :: st)
  | .lshr, .int y :: .long x :: st => some (.long (x >>> (y.toInt64 &&& 63)) :: st)
  | .lcmp, .long y :: .long x :: st => some (.int (lg_cmp x y) :: st)
  | .i2l, .int x :: st => some (.long x.toInt64 :: st)
  | .l2i, .long x :: st => some (.int x.toInt32 :: st)
  | .i2b, .int x :: st => some (.int x.toInt8.toInt32 :: st)
  | .i2c, .int x :: st => some (.int (x.toUInt32 % 65536).toInt32 :: st)
  | .dup, v :: st => if v.category = 1 then some (v :: v :: st) else none
  | .pop, v :: st => if v.category = 1 then some st else none
  | .dup2, v :: u :: st => if v.category = 1 ∧ u.category = 1 then some (v :: u :: v :: u :: st) else if v.category = 2 then some (v :: v :: u :: st) else none
  | .dup2, [v] => if v.category = 2 then some [v, v] else none
  | .pop2, v :: st => if v.category = 2 then some st else none
  | _, _ => none
/-- the locals: a place that holds nothing is a retAddr -/
def pm_isV (v : Value) : Bool := match v with | .retAddr _ => false | _ => true
def pm_no : Value := .retAddr 0
/-- what a store at i leaves of a value at j -/
def pm_kill (ls : List Value) (i : Nat) : List Value := match i with
  | 0 => ls
  | j + 1 => match ls[j]? with
    | some v => if v.category = 2 then ls.set j pm_no else ls
    | none => ls
def pm_st1 (ls : List Value) (i : Nat) (v : Value) : Option (List Value) := if i < ls.length then some ((pm_kill ls i).set i v) else none
def pm_st2 (ls : List Value) (i : Nat) (v : Value) : Option (List Value) := if i + 1 < ls.length then some (((pm_kill ls i).set i v).set (i + 1) pm_no) else none
def pm_ldi (ls : List Value) (i : Nat) (st : List Value) : Option (List Value) := match ls[i]? with | some (.int x) => some (.int x :: st) | _ => none
def pm_ldl (ls : List Value) (i : Nat) (st : List Value) : Option (List Value) := match ls[i]? with | some (.long x) => some (.long x :: st) | _ => none
def pm_lda (ls : List Value) (i : Nat) (st : List Value) : Option (List Value) := match ls[i]? with | some (.ref x) => some (.ref x :: st) | some .null => some (.null :: st) | _ => none
def pm_sti (ls : List Value) (i : Nat) (st : List Value) : Option (List Value × List Value) := match st with | .int x :: st => (pm_st1 ls i (.int x)).map (fun l => (l, st)) | _ => none
def pm_stl (ls : List Value) (i : Nat) (st : List Value) : Option (List Value × List Value) := match st with | .long x :: st => (pm_st2 ls i (.long x)).map (fun l => (l, st)) | _ => none
def pm_sta (ls : List Value) (i : Nat) (st : List Value) : Option (List Value × List Value) := match st with | .ref x :: st => (pm_st1 ls i (.ref x)).map (fun l => (l, st)) | .null :: st => (pm_st1 ls i .null).map (fun l => (l, st)) | _ => none
def pm_inc (ls : List Value) (i : Nat) (n : Int) : Option (List Value) := match ls[i]? with | some (.int x) => pm_st1 ls i (.int (x + Int32.ofInt n)) | _ => none
def pm_lo (i : Instr) (ls st : List Value) : Option (List Value × List Value) := match i with
  | .iload k => (pm_ldi ls k st).map (fun st => (ls, st))
  | .iload_n k => (pm_ldi ls (k : Nat) st).map (fun st => (ls, st))
  | .lload k => (pm_ldl ls k st).map (fun st => (ls, st))
  | .lload_n k => (pm_ldl ls (k : Nat) st).map (fun st => (ls, st))
  | .aload k => (pm_lda ls k st).map (fun st => (ls, st))
  | .aload_n k => (pm_lda ls (k : Nat) st).map (fun st => (ls, st))
  | .istore k => pm_sti ls k st
  | .istore_n k => pm_sti ls (k : Nat) st
  | .lstore k => pm_stl ls k st
  | .lstore_n k => pm_stl ls (k : Nat) st
  | .astore k => pm_sta ls k st
  | .astore_n k => pm_sta ls (k : Nat) st
  | .iinc k n => (pm_inc ls k n).map (fun ls => (ls, st))
  | _ => none
/-- branches: where it goes on, and the stack -/
def pm_to (pc : Nat) (off : Int) : Option Nat := if 0 ≤ (pc : Int) + off then some ((pc : Int) + off).toNat else none
def pm_cnd (c : Jvm.ClassFile.Cond) (x y : Int32) : Prop := match c with | .eq => x = y | .ne => ¬ x = y | .lt => x < y | .ge => y ≤ x | .gt => y < x | .le => x ≤ y
def pm_cndD (c : Jvm.ClassFile.Cond) (x y : Int32) : Decidable (pm_cnd c x y) := match c with
  | .eq => inferInstanceAs (Decidable (x = y)) | .ne => inferInstanceAs (Decidable (¬ x = y)) | .lt => inferInstanceAs (Decidable (x < y)) | .ge => inferInstanceAs (Decidable (y ≤ x)) | .gt => inferInstanceAs (Decidable (y < x)) | .le => inferInstanceAs (Decidable (x ≤ y))
def pm_if (c : Prop) (d : Decidable c) (pc : Nat) (off : Int) (st : List Value) : Option (Nat × List Value) := (pm_to pc off).bind (fun t => some (@ite Nat c d t (pc + 3), st))
def pm_ref (v : Value) : Option (Option Nat) := match v with | .null => some none | .ref a => if 16 ≤ a then some (some a) else none | _ => none
def pm_br (i : Instr) (pc : Nat) (st : List Value) : Option (Nat × List Value) := match i, st with
  | .goto off, st => (pm_to pc off).map (fun t => (t, st))
  | .ifCond c off, .int x :: st => pm_if (pm_cnd c x 0) (pm_cndD c x 0) pc off st
  | .if_icmp c off, .int y :: .int x :: st => pm_if (pm_cnd c x y) (pm_cndD c x y) pc off st
  | .ifnull off, .null :: st => (pm_to pc off).map (fun t => (t, st))
  | .ifnull _, .ref _ :: st => some (pc + 3, st)
  | .ifnonnull off, .ref _ :: st => (pm_to pc off).map (fun t => (t, st))
  | .ifnonnull _, .null :: st => some (pc + 3, st)
  | .if_acmp c off, y :: x :: st => (pm_ref y).bind (fun b => (pm_ref x).bind (fun a => match c with
    | .eq => pm_if (a = b) inferInstance pc off st
    | .ne => pm_if (¬ a = b) inferInstance pc off st))
  | .tableswitch d lo hi offs, .int x :: st => if x.toInt < lo ∨ hi < x.toInt then (pm_to pc d).map (fun t => (t, st)) else (offs[(x.toInt - lo).toNat]?).bind (fun o => (pm_to pc o).map (fun t => (t, st)))
  | .lookupswitch d ps, .int x :: st => if (ps.toList.zip (ps.toList.drop 1)).all (fun (a, next) => a.1 < next.1) = true then (pm_to pc (Op.lookupswitch.offset ps.toList d x.toInt)).map (fun t => (t, st)) else none
  | _, _ => none
/-- what the constant pool says, by the class that owns the code -/
def pm_at {α : Type} (L : List (List (Nat × α))) (c ix : Nat) : Option α := (L[c]?).bind (fun l => pm_find l ix)
def pm_fits (ty : FieldType) (v : Value) : Bool := match ty, v with
  | .int, .int _ => true
  | .long, .long _ => true
  | .boolean, .int x => x == 0 || x == 1
  | .object _, .null => true
  | .object _, .ref _ => true
  | .array _, .null => true
  | .array _, .ref _ => true
  | _, _ => false
def pm_in (i : Int32) (n : Nat) : Bool := decide (0 ≤ i) && decide (i.toNatClampNeg < n)
def pm_gf (c ix : Nat) (h : pm_H) (a : Nat) : Option Value := (pm_at pm_FL c ix).bind (fun x => match h.2.2 a with
  | .inr (ci, fs) => if 16 ≤ a ∧ a < h.1 ∧ ci = x.1 then fs[x.2.1]? else none
  | .inl _ => none)
def pm_pf (ini : Bool) (c ix : Nat) (h : pm_H) (a : Nat) (v : Value) : Option pm_H := (pm_at pm_FL c ix).bind (fun x => (pm_cl[x.1]?).bind (fun q => match h.2.2 a with
  | .inr (ci, fs) => if 16 ≤ a ∧ a < h.1 ∧ ci = x.1 ∧ x.2.1 < fs.length ∧ pm_fits (pm_ty q.2.1 x.2.1) v = true ∧ ((q.2.1 x.2.1).2.2.2 = false ∨ (ini = true ∧ x.2.2 = false ∧ (q.2.1 x.2.1).1 = pm_ow c)) then some (pm_set h a (.inr (ci, fs.set x.2.1 v))) else none
  | .inl _ => none))
def pm_newty (t : Nat) (n : Nat) : vp_A := match t with
  | 1 => (n, .inr (.inl (fun _ => 0)))
  | 0 => (n, .inl (fun _ => 0))
  | 2 => (n, .inl (fun _ => 0))
  | 3 => (n, .inl (fun _ => 0))
  | _ => (n, .inr (.inr (.inr (.inr (fun _ => none)))))
def pm_aty (t : ArrayType) : Option Nat := match t with | .int => some 0 | .long => some 1 | .byte => some 2 | .boolean => some 3 | _ => none
def pm_oty (ci : Nat) : Option Nat := match ci with | 4 => some 4 | 5 => some 5 | 1 => some 6 | 0 => some 7 | 8 => some 8 | 3 => some 9 | _ => none
def pm_dflt (ty : FieldType) : Value := defaultValue ty
def pm_hb (ini : Bool) (c : Nat) (i : Instr) (st : List Value) (h : pm_H) : Option (List Value × pm_H) := match i, st with
  | .getfield ix, .ref a :: st => (pm_gf c ix h a).map (fun v => (v :: st, h))
  | .putfield ix, v :: .ref a :: st => (pm_pf ini c ix h a v).map (fun h => (st, h))
  | .getstatic ix, st => (pm_at pm_SL c ix).map (fun x => (.ref x.1 :: st, h))
  | .ldc ix, st => (pm_at pm_KL c ix).map (fun v => (.int v :: st, h))
  | .ldc_w ix, st => (pm_at pm_KL c ix).map (fun v => (.int v :: st, h))
  | .ldc2_w ix, st => (pm_at pm_LL c ix).map (fun v => (.long v :: st, h))
  | .arraylength, .ref a :: st => match h.2.2 a with
    | .inl (0, n, .inl _) => if a < h.1 then some (.int (Int32.ofNat n) :: st, h) else none
    | .inl (t, x) => if 16 ≤ a ∧ a < h.1 ∧ t < 10 then some (.int (Int32.ofNat x.1) :: st, h) else none
    | .inr _ => none
  | .iaload, .int j :: .ref a :: st => match h.2.2 a with
    | .inl (0, n, .inl f) => if a < h.1 ∧ pm_in j n = true then some (.int (f j.toNatClampNeg) :: st, h) else none
    | _ => none
  | .baload, .int j :: .ref a :: st => match h.2.2 a with
    | .inl (2, n, .inl f) => if 16 ≤ a ∧ a < h.1 ∧ pm_in j n = true then some (.int (f j.toNatClampNeg) :: st, h) else none
    | .inl (3, n, .inl f) => if 16 ≤ a ∧ a < h.1 ∧ pm_in j n = true then some (.int (f j.toNatClampNeg) :: st, h) else none
    | _ => none
  | .laload, .int j :: .ref a :: st => match h.2.2 a with
    | .inl (1, n, .inr (.inl f)) => if 16 ≤ a ∧ a < h.1 ∧ pm_in j n = true then some (.long (f j.toNatClampNeg) :: st, h) else none
    | _ => none
  | .aaload, .int j :: .ref a :: st => match h.2.2 a with
    | .inl (t, n, .inr (.inr (.inr (.inr f)))) => if 4 ≤ t ∧ t < 10 ∧ 16 ≤ a ∧ a < h.1 ∧ pm_in j n = true then some (va_rf (f j.toNatClampNeg) :: st, h) else none
    | _ => none
  | .iastore, .int x :: .int j :: .ref a :: st => match h.2.2 a with
    | .inl (0, n, .inl f) => if 16 ≤ a ∧ a < h.1 ∧ pm_in j n = true then some (st, pm_set h a (.inl (0, n, .inl (upd f j.toNatClampNeg x)))) else none
    | _ => none
  | .bastore, .int x :: .int j :: .ref a :: st => match h.2.2 a with
    | .inl (2, n, .inl f) => if 16 ≤ a ∧ a < h.1 ∧ pm_in j n = true then some (st, pm_set h a (.inl (2, n, .inl (upd f j.toNatClampNeg x.toInt8.toInt32)))) else none
    | .inl (3, n, .inl f) => if 16 ≤ a ∧ a < h.1 ∧ pm_in j n = true then some (st, pm_set h a (.inl (3, n, .inl (upd f j.toNatClampNeg (x &&& 1))))) else none
    | _ => none
  | .lastore, .long x :: .int j :: .ref a :: st => match h.2.2 a with
    | .inl (1, n, .inr (.inl f)) => if 16 ≤ a ∧ a < h.1 ∧ pm_in j n = true then some (st, pm_set h a (.inl (1, n, .inr (.inl (vp_updL f j.toNatClampNeg x))))) else none
    | _ => none
  | .aastore, v :: .int j :: .ref a :: st => match h.2.2 a with
    | .inl (t, n, .inr (.inr (.inr (.inr f)))) => if 16 ≤ a ∧ a < h.1 ∧ pm_in j n = true ∧ 4 ≤ t ∧ t < 10 then (match v with
      | .null => some (st, pm_set h a (.inl (t, n, .inr (.inr (.inr (.inr (va_up f j.toNatClampNeg none)))))))
      | .ref b => match h.2.2 b with
        | .inr (ci, _) => if 16 ≤ b ∧ b < h.1 ∧ pm_oty ci = some t then some (st, pm_set h a (.inl (t, n, .inr (.inr (.inr (.inr (va_up f j.toNatClampNeg (some b)))))))) else none
        | .inl _ => none
      | _ => none) else none
    | _ => none
  | .newarray t, .int n :: st => (pm_aty t).bind (fun k => if ¬ n < 0 ∧ n.toNatClampNeg ≤ 67108864 then some (.ref h.1 :: st, pm_push h (.inl (k, pm_newty k n.toNatClampNeg)) n.toNatClampNeg) else none)
  | .anewarray ix, .int n :: st => (pm_at pm_NL c ix).bind (fun ci => (pm_oty ci).bind (fun k => if ¬ n < 0 ∧ n.toNatClampNeg ≤ 67108864 then some (.ref h.1 :: st, pm_push h (.inl (k, pm_newty k n.toNatClampNeg)) n.toNatClampNeg) else none))
  | .new ix, st => (pm_at pm_NL c ix).bind (fun ci => (pm_cl[ci]?).map (fun q => (.ref h.1 :: st, pm_push h (.inr (ci, (List.range q.2.2).map (fun k => defaultValue (pm_ty q.2.1 k)))) q.2.2)))
  | .checkcast ix, .ref a :: st => (pm_at pm_IL c ix).bind (fun _ => match h.2.2 a with
    | .inl (0, _) => if 16 ≤ a ∧ a < h.1 then some (.ref a :: st, h) else none
    | _ => none)
  | .invokespecial ix, .ref a :: st => (pm_at pm_XL c ix).bind (fun k => if k = 0 ∧ (st.map fun v => v.category).sum ≤ 8 then some (st, h) else none)
  | .invokevirtual ix, .ref a :: st => (pm_at pm_XL c ix).bind (fun k => match h.2.2 a with
    | .inl (0, n, .inl f) => if k = 2 ∧ 16 ≤ a ∧ a < h.1 ∧ (st.map fun v => v.category).sum ≤ 8 then some (.ref h.1 :: st, pm_push h (.inl (0, n, .inl f)) n) else none
    | _ => none)
  | .invokestatic ix, st => (pm_at pm_XL c ix).bind (fun k => match k, st with
    | 1, .int n :: .int dp :: .ref b :: .int sp :: .ref a :: st => (match h.2.2 a, h.2.2 b with
      | .inl (0, n0, .inl f), .inl (0, n1, .inl g) => if 16 ≤ a ∧ a < h.1 ∧ 16 ≤ b ∧ b < h.1 ∧ ¬ sp < 0 ∧ ¬ dp < 0 ∧ ¬ n < 0 ∧ sp.toNatClampNeg + n.toNatClampNeg ≤ n0 ∧ dp.toNatClampNeg + n.toNatClampNeg ≤ n1 ∧ (st.map fun v => v.category).sum ≤ 8 then some (st, pm_set h b (.inl (0, n1, .inl (va_cpy f g sp.toNatClampNeg dp.toNatClampNeg n.toNatClampNeg)))) else none
      | .inl (2, n0, .inl f), .inl (2, n1, .inl g) => if 16 ≤ a ∧ a < h.1 ∧ 16 ≤ b ∧ b < h.1 ∧ ¬ sp < 0 ∧ ¬ dp < 0 ∧ ¬ n < 0 ∧ sp.toNatClampNeg + n.toNatClampNeg ≤ n0 ∧ dp.toNatClampNeg + n.toNatClampNeg ≤ n1 ∧ (st.map fun v => v.category).sum ≤ 8 then some (st, pm_set h b (.inl (2, n1, .inl (va_cpy f g sp.toNatClampNeg dp.toNatClampNeg n.toNatClampNeg)))) else none
      | _, _ => none)
    | 3, .int y :: .int x :: st => if (st.map fun v => v.category).sum ≤ 8 then some (.int (if y < x then y else x) :: st, h) else none
    | 4, .int y :: .int x :: st => if (st.map fun v => v.category).sum ≤ 8 then some (.int (if x < y then y else x) :: st, h) else none
    | 5, .long y :: .long x :: st => if (st.map fun v => v.category).sum ≤ 8 then some (.long (if y < x then y else x) :: st, h) else none
    | _, _ => none)
  | _, _ => none
/-- which String constant -/
def pm_ks (ix : Nat) : Option Nat := match ix with | 96 => some 7 | 102 => some 8 | 104 => some 9 | 115 => some 10 | _ => none
def pm_kix (i : Nat) : Nat := match i with | 7 => 96 | 8 => 102 | 9 => 104 | _ => 115
def pm_ktx (i : Nat) : String := match i with | 7 => "rule sign near" | 8 => "seats look away says" | 9 => "never most order pair hidden seen" | _ => "head tail plus less not"
def pm_fmt (h : pm_H) : Value := match h.2.2 15 with | .inr _ => .null | .inl _ => .ref 15
/-- what goes on over String constants -/
def pm_str (c : Nat) (i : Instr) (st : List Value) (h : pm_H) : Option (List Value) := match i, st with
  | .ldc ix, st => if c = 3 then (pm_ks ix).map (fun j => .ref j :: st) else none
  | .getstatic ix, st => if c = 8 ∧ ix = 38 then some (.int 1 :: st) else if c = 8 ∧ ix = 1053 then some (pm_fmt h :: st) else none
  | .getfield ix, .ref a :: st => if c = 8 ∧ 7 ≤ a ∧ a < 11 ∧ ix = 9 then some (.ref (a + 4) :: st) else if c = 8 ∧ 7 ≤ a ∧ a < 11 ∧ ix = 15 then some (.int 0 :: st) else none
  | .arraylength, .ref a :: st => match h.2.2 a with
    | .inl (2, n, .inl _) => if a < 16 then some (.int (Int32.ofNat n) :: st) else none
    | _ => none
  | .baload, .int j :: .ref a :: st => match h.2.2 a with
    | .inl (2, n, .inl f) => if a < 16 ∧ pm_in j n = true then some (.int (f j.toNatClampNeg) :: st) else none
    | _ => none
  | _, _ => none
def pm_hp (ini : Bool) (c : Nat) (i : Instr) (st : List Value) (h : pm_H) : Option (List Value × pm_H) := match pm_hb ini c i st h with
  | some z => some z
  | none => (pm_str c i st h).map (fun s => (s, h))
theorem pm_hb_hp {ini : Bool} {c : Nat} {i : Instr} {st : List Value} {h : pm_H} {z : List Value × pm_H} (hz : pm_hb ini c i st h = some z) : pm_hp ini c i st h = some z := by
  unfold pm_hp
  rw [hz]
theorem pm_hp_cases {ini : Bool} {c : Nat} {i : Instr} {st : List Value} {h : pm_H} {z : List Value × pm_H} (hz : pm_hp ini c i st h = some z) : pm_hb ini c i st h = some z ∨ ∃ s, pm_str c i st h = some s ∧ z = (s, h) := by
  unfold pm_hp at hz
  split at hz
  · rename_i x hx; cases hz; exact Or.inl hx
  · obtain ⟨s, h1, h2⟩ := Option.map_eq_some_iff.mp hz
    exact Or.inr ⟨s, h1, h2.symm⟩
/-- a method's own instruction, no call of a method of the list, no return -/
def pm_step (ini : Bool) (c : Nat) (i : Instr) (pc : Nat) (ls st : List Value) (h : pm_H) : Option (Nat × List Value × List Value × pm_H) :=
  match pm_op i st with
  | some st' => some (pc + pm_len i, ls, st', h)
  | none => match pm_lo i ls st with
    | some x => some (pc + pm_len i, x.1, x.2, h)
    | none => match pm_br i pc st with
      | some x => some (x.1, ls, x.2, h)
      | none => match pm_hp ini c i st h with
        | some x => some (pc + pm_len i, ls, x.1, x.2)
        | none => none
/-- the answer of a return -/
def pm_ret (ret : Option FieldType) (i : Instr) (st : List Value) : Option (Option Value) := match i, st, ret with
  | .return_, [], none => some none
  | .ireturn, [.int v], some ty => if (ty = .int ∨ ty = .boolean ∨ ty = .byte ∨ ty = .char) ∧ narrow ty (.int v) = .int v then some (some (.int v)) else none
  | .lreturn, [.long v], some .long => some (some (.long v))
  | .areturn, [.null], some (.object _) => some (some .null)
  | .areturn, [.ref a], some (.object _) => some (some (.ref a))
  | .areturn, [.null], some (.array _) => some (some .null)
  | .areturn, [.ref a], some (.array _) => some (some (.ref a))
  | _, _, _ => none
/-- a call: the method, what is handed over (the receiver first), the rest of the stack -/
def pm_rc (q : pm_M) (h : pm_H) (a : Nat) : Bool := match h.2.2 a with | .inr (ci, _) => decide (16 ≤ a ∧ a < h.1) && decide ((pm_cl[ci]?).map (fun r => r.1) = some q.1.cls) | .inl _ => decide (7 ≤ a ∧ a < 11) && decide (q.1.cls = "java/lang/String")
def pm_rcv (k : Nat) (q : pm_M) (h : pm_H) (args : List Value) : Bool := match k, args with
  | 0, .ref a :: _ => pm_rc q h a
  | 3, .ref a :: _ => pm_rc q h a
  | 1, .ref _ :: _ => true
  | 4, .ref _ :: _ => true
  | 2, _ => true
  | 5, _ => true
  | _, _ => false
def pm_ix (i : Instr) (k : Nat) : Option Nat := match i, k with
  | .invokevirtual ix, 0 => some ix
  | .invokevirtual ix, 3 => some ix
  | .invokespecial ix, 1 => some ix
  | .invokespecial ix, 4 => some ix
  | .invokestatic ix, 2 => some ix
  | .invokestatic ix, 5 => some ix
  | _, _ => none
def pm_cix (i : Instr) : Option Nat := match i with | .invokevirtual ix => some ix | .invokespecial ix => some ix | .invokestatic ix => some ix | _ => none
def pm_call (c : Nat) (i : Instr) (st : List Value) (h : pm_H) : Option (Nat × List Value × List Value) := (pm_cix i).bind (fun ix => (pm_at pm_CL c ix).bind (fun x => (pm_ms[x.1]?).bind (fun q =>
  let k := if x.2.2 = 2 ∨ x.2.2 = 5 then x.2.1 else x.2.1 + 1
  if pm_ix i x.2.2 = some ix ∧ k ≤ st.length ∧ ((st.drop k).map fun v => v.category).sum ≤ 8 ∧ pm_rcv x.2.2 q h (st.take k).reverse = true then some (x.1, (st.take k).reverse, st.drop k) else none)))
/-- the locals with which a method begins -/
def pm_sl (args : List Value) : List Value := args.flatMap fun v => if v.category = 2 then [v, pm_no] else [v]
def pm_ent (n : Nat) (args : List Value) : Option (List Value) := if (pm_sl args).length ≤ n then some (pm_sl args ++ List.replicate (n - (pm_sl args).length) pm_no) else none
/-- the run: fuel, how deep calls may go, the method, the place, locals, stack, heap -/
def pm_run : Nat → Nat → Nat → Nat → List Value → List Value → pm_H → Option (Option Value × pm_H)
  | 0, _, _, _, _, _, _ => none
  | n + 1, d, mid, pc, ls, st, h =>
    match pm_ms[mid]?, pm_code mid pc with
    | some q, some (i, _) =>
      match pm_ret q.2.2.2.1 i st with
      | some r => some (r, h)
      | none =>
        match pm_call q.2.2.2.2 i st h with
        | some (callee, args, rest) =>
          match d, pm_ms[callee]? with
          | d' + 1, some qc =>
            match pm_ent qc.2.2.1 args with
            | some ls' =>
              match pm_run n d' callee 0 ls' [] h with
              | some (r, h') => pm_run n (d' + 1) mid (pc + 3) ls (r.toList ++ rest) h'
              | none => none
            | none => none
          | _, _ => none
        | none =>
          match pm_step (decide (q.1.name = "<init>")) q.2.2.2.2 i pc ls st h with
          | some (pc', ls', st', h') => pm_run n d mid pc' ls' st' h'
          | none => none
    | _, _ => none
