set_option maxRecDepth 100000 in
theorem dc_bindE {α β : Type} (r : Decoder α) (f : α → Decoder β) (b : ByteArray) (p : Nat) : (r >>= f).runAt b p = (match Reader.runAt r b p with | .ok (a, q) => (f a).runAt b q | .error e => .error e) := by
  show (do let (a, q) ← r b p; f a b q : Except DecodeError (β × Nat)) = (match r b p with | .ok (a, q) => f a b q | .error e => .error e)
  cases r b p with
  | ok a => rfl
  | error e => rfl
set_option maxRecDepth 100000 in
theorem dc_u1E (B : List UInt8) (p : Nat) : (Reader.u1 : Decoder Nat).runAt ⟨⟨B⟩⟩ p = if h : p < B.length then .ok ((B[p]'h).toNat, p + 1) else .error (.truncated p) := by
  by_cases h : p < B.length
  · rw [dif_pos h]
    show (dite (p < B.length) (fun h => (do set (p + 1); pure ((⟨⟨B⟩⟩ : ByteArray)[p]'h).toNat : Decoder Nat)) (fun _ => throw (HasTruncated.truncated p))) ⟨⟨B⟩⟩ p = _
    rw [dif_pos h]; rfl
  · rw [dif_neg h]
    show (dite (p < B.length) (fun h => (do set (p + 1); pure ((⟨⟨B⟩⟩ : ByteArray)[p]'h).toNat : Decoder Nat)) (fun _ => throw (HasTruncated.truncated p))) ⟨⟨B⟩⟩ p = _
    rw [dif_neg h]; rfl
/-- a signed number of one byte, of two -/
def nc_s1 : Int → Option Nat
  | .ofNat m => if m < 128 then some m else none
  | .negSucc m => if m < 128 then some (255 - m) else none
def nc_s2 : Int → Option Nat
  | .ofNat m => if m < 32768 then some m else none
  | .negSucc m => if m < 32768 then some (65535 - m) else none
def nc_z1 (c : Nat) : Option Nat → List Nat
  | some u => [c, u]
  | none => []
def nc_z2 (c : Nat) : Option Nat → List Nat
  | some u => [c, u / 256, u % 256]
  | none => []
def nc_z3 (c k : Nat) : Option Nat → List Nat
  | some u => [c, k, u]
  | none => []
def nc_ic : Int → List Nat
  | .ofNat m => if m < 6 then [3 + m] else []
  | .negSucc m => if m < 1 then [2] else []
def nc_cc : Jvm.ClassFile.Cond → Nat
  | .eq => 0
  | .ne => 1
  | .lt => 2
  | .ge => 3
  | .gt => 4
  | .le => 5
def nc_ac : ACond → Nat
  | .eq => 165
  | .ne => 166
def nc_ay : ArrayType → Nat
  | .boolean => 4
  | .char => 5
  | .float => 6
  | .double => 7
  | .byte => 8
  | .short => 9
  | .int => 10
  | .long => 11
/-- an instruction's bytes; none of those that are not shown so -/
def nc_en : Instr → List Nat
  | .aconst_null => [1]
  | .iaload => [46]
  | .laload => [47]
  | .aaload => [50]
  | .baload => [51]
  | .iastore => [79]
  | .lastore => [80]
  | .aastore => [83]
  | .bastore => [84]
  | .pop => [87]
  | .pop2 => [88]
  | .dup => [89]
  | .dup2 => [92]
  | .iadd => [96]
  | .ladd => [97]
  | .isub => [100]
  | .lsub => [101]
  | .imul => [104]
  | .lmul => [105]
  | .idiv => [108]
  | .ldiv => [109]
  | .irem => [112]
  | .lrem => [113]
  | .ishl => [120]
  | .lshl => [121]
  | .ishr => [122]
  | .lshr => [123]
  | .iushr => [124]
  | .lushr => [125]
  | .iand => [126]
  | .land => [127]
  | .ior => [128]
  | .lor => [129]
  | .ixor => [130]
  | .i2l => [133]
  | .l2i => [136]
  | .i2b => [145]
  | .i2c => [146]
  | .lcmp => [148]
  | .ireturn => [172]
  | .lreturn => [173]
  | .areturn => [176]
  | .return_ => [177]
  | .arraylength => [190]
  | .athrow => [191]
  | .aload_n n => [42 + n.val]
  | .iload_n n => [26 + n.val]
  | .lload_n n => [30 + n.val]
  | .istore_n n => [59 + n.val]
  | .astore_n n => [75 + n.val]
  | .lstore_n n => [63 + n.val]
  | .lconst n => [9 + n.val]
  | .iconst z => nc_ic z
  | .iload n => [21, n]
  | .lload n => [22, n]
  | .aload n => [25, n]
  | .istore n => [54, n]
  | .lstore n => [55, n]
  | .astore n => [58, n]
  | .ldc n => [18, n]
  | .ldc_w n => [19, n / 256, n % 256]
  | .ldc2_w n => [20, n / 256, n % 256]
  | .getstatic n => [178, n / 256, n % 256]
  | .getfield n => [180, n / 256, n % 256]
  | .putfield n => [181, n / 256, n % 256]
  | .invokevirtual n => [182, n / 256, n % 256]
  | .invokespecial n => [183, n / 256, n % 256]
  | .invokestatic n => [184, n / 256, n % 256]
  | .new n => [187, n / 256, n % 256]
  | .anewarray n => [189, n / 256, n % 256]
  | .checkcast n => [192, n / 256, n % 256]
  | .goto z => nc_z2 167 (nc_s2 z)
  | .ifnull z => nc_z2 198 (nc_s2 z)
  | .ifnonnull z => nc_z2 199 (nc_s2 z)
  | .sipush z => nc_z2 17 (nc_s2 z)
  | .bipush z => nc_z1 16 (nc_s1 z)
  | .iinc n z => nc_z3 132 n (nc_s1 z)
  | .ifCond c z => nc_z2 (153 + nc_cc c) (nc_s2 z)
  | .if_icmp c z => nc_z2 (159 + nc_cc c) (nc_s2 z)
  | .if_acmp c z => nc_z2 (nc_ac c) (nc_s2 z)
  | .newarray t => [188, nc_ay t]
  | _ => []
/-- byte p is k -/
def nc_at (L : List UInt8) (p k : Nat) : Prop := ∃ h : p < L.length, (L[p]'h).toNat = k
set_option maxRecDepth 100000 in
theorem nc_u1 {L : List UInt8} {p k : Nat} (h : nc_at L p k) : (Reader.u1 : Decoder Nat).runAt ⟨⟨L⟩⟩ p = .ok (k, p + 1) := by
  obtain ⟨h1, h2⟩ := h
  rw [dc_u1E, dif_pos h1, h2]
set_option maxRecDepth 100000 in
theorem nc_b {α β : Type} {r : Decoder α} {f : α → Decoder β} {b : ByteArray} {p q : Nat} {a : α} {x : Except DecodeError (β × Nat)} (hr : r.runAt b p = .ok (a, q)) (hf : (f a).runAt b q = x) : (r >>= f).runAt b p = x := by
  rw [dc_bindE, hr]; exact hf
set_option maxRecDepth 100000 in
theorem nc_u2 {L : List UInt8} {p a b n : Nat} (h : nc_at L p a) (g : nc_at L (p + 1) b) (e : a * 256 + b = n) : (Reader.u2 : Decoder Nat).runAt ⟨⟨L⟩⟩ p = .ok (n, p + 2) := by
  subst e
  exact nc_b (nc_u1 h) (nc_b (nc_u1 g) rfl)
set_option maxRecDepth 100000 in
theorem nc_mp {α β : Type} {r : Decoder α} {f : α → β} {b : ByteArray} {p q : Nat} {a : α} {c : β} (hr : r.runAt b p = .ok (a, q)) (e : f a = c) : (f <$> r : Decoder β).runAt b p = .ok (c, q) := by
  rw [← bind_pure_comp]
  exact nc_b hr (by rw [e]; rfl)
set_option maxRecDepth 100000 in
theorem nc_r1 {L : List UInt8} {p k : Nat} {z : Int} (h : nc_at L p k) (e : nc_s1 z = some k) : (Reader.s1 : Decoder Int).runAt ⟨⟨L⟩⟩ p = .ok (z, p + 1) := by
  refine nc_mp (nc_u1 h) ?_
  unfold Reader.signed
  match z, e with
  | .ofNat m, e =>
    have e : (if m < 128 then some m else none) = some k := e
    by_cases c : m < 128
    · rw [if_pos c] at e; cases e
      rw [if_pos (by omega)]; rfl
    · rw [if_neg c] at e; cases e
  | .negSucc m, e =>
    have e : (if m < 128 then some (255 - m) else none) = some k := e
    by_cases c : m < 128
    · rw [if_pos c] at e; cases e
      rw [if_neg (by omega), Int.negSucc_eq]; omega
    · rw [if_neg c] at e; cases e
set_option maxRecDepth 100000 in
theorem nc_r2 {L : List UInt8} {p k : Nat} {z : Int} (h : nc_at L p (k / 256)) (g : nc_at L (p + 1) (k % 256)) (e : nc_s2 z = some k) : (Reader.s2 : Decoder Int).runAt ⟨⟨L⟩⟩ p = .ok (z, p + 2) := by
  refine nc_mp (nc_u2 (n := k) h g (by omega)) ?_
  unfold Reader.signed
  match z, e with
  | .ofNat m, e =>
    have e : (if m < 32768 then some m else none) = some k := e
    by_cases c : m < 32768
    · rw [if_pos c] at e; cases e
      rw [if_pos (by omega)]; rfl
    · rw [if_neg c] at e; cases e
  | .negSucc m, e =>
    have e : (if m < 32768 then some (65535 - m) else none) = some k := e
    by_cases c : m < 32768
    · rw [if_pos c] at e; cases e
      rw [if_neg (by omega), Int.negSucc_eq]; omega
    · rw [if_neg c] at e; cases e
set_option maxRecDepth 100000 in
theorem nc_fin {L : List UInt8} {p n : Nat} {i : Instr} (z : (Decoder.instr p).runAt ⟨⟨L⟩⟩ p = .ok (i, p + n)) : decode ⟨⟨L⟩⟩ p = .ok (i, n) := by
  show (do let (j, q) ← (Decoder.instr p).runAt ⟨⟨L⟩⟩ p; pure (j, q - p) : Except DecodeError (Instr × Nat)) = .ok (i, n)
  rw [z]
  show (Except.ok (i, p + n - p) : Except DecodeError (Instr × Nat)) = .ok (i, n)
  rw [Nat.add_sub_cancel_left]
set_option maxRecDepth 100000 in
theorem nc_f1 {α β : Type} {f : α → Decoder β} {r : Decoder α} {b : ByteArray} {p q : Nat} {a : α} {x : β} (g : r.runAt b p = .ok (a, q)) (e : (f a).runAt b q = .ok (x, q)) : (r >>= f).runAt b p = .ok (x, q) := nc_b g e
/-- all its bytes stand there -/
def nc_th (L : List UInt8) : Nat → List Nat → Prop
  | _, [] => True
  | p, k :: r => nc_at L p k ∧ nc_th L (p + 1) r
set_option maxRecDepth 100000 in
theorem nc_o_aconst_null {L : List UInt8} {p : Nat} (h : nc_th L p [1]) : decode ⟨⟨L⟩⟩ p = .ok (.aconst_null, 1) := by
  refine nc_fin ?_
  unfold Decoder.instr
  exact nc_b (nc_u1 h.1) (rfl)
set_option maxRecDepth 100000 in
theorem nc_o_iaload {L : List UInt8} {p : Nat} (h : nc_th L p [46]) : decode ⟨⟨L⟩⟩ p = .ok (.iaload, 1) := by
  refine nc_fin ?_
  unfold Decoder.instr
  exact nc_b (nc_u1 h.1) (rfl)
set_option maxRecDepth 100000 in
theorem nc_o_laload {L : List UInt8} {p : Nat} (h : nc_th L p [47]) : decode ⟨⟨L⟩⟩ p = .ok (.laload, 1) := by
  refine nc_fin ?_
  unfold Decoder.instr
  exact nc_b (nc_u1 h.1) (rfl)
set_option maxRecDepth 100000 in
theorem nc_o_aaload {L : List UInt8} {p : Nat} (h : nc_th L p [50]) : decode ⟨⟨L⟩⟩ p = .ok (.aaload, 1) := by
  refine nc_fin ?_
  unfold Decoder.instr
  exact nc_b (nc_u1 h.1) (rfl)
set_option maxRecDepth 100000 in
theorem nc_o_baload {L : List UInt8} {p : Nat} (h : nc_th L p [51]) : decode ⟨⟨L⟩⟩ p = .ok (.baload, 1) := by
  refine nc_fin ?_
  unfold Decoder.instr
  exact nc_b (nc_u1 h.1) (rfl)
set_option maxRecDepth 100000 in
theorem nc_o_iastore {L : List UInt8} {p : Nat} (h : nc_th L p [79]) : decode ⟨⟨L⟩⟩ p = .ok (.iastore, 1) := by
  refine nc_fin ?_
  unfold Decoder.instr
  exact nc_b (nc_u1 h.1) (rfl)
set_option maxRecDepth 100000 in
theorem nc_o_lastore {L : List UInt8} {p : Nat} (h : nc_th L p [80]) : decode ⟨⟨L⟩⟩ p = .ok (.lastore, 1) := by
  refine nc_fin ?_
  unfold Decoder.instr
  exact nc_b (nc_u1 h.1) (rfl)
set_option maxRecDepth 100000 in
theorem nc_o_aastore {L : List UInt8} {p : Nat} (h : nc_th L p [83]) : decode ⟨⟨L⟩⟩ p = .ok (.aastore, 1) := by
  refine nc_fin ?_
  unfold Decoder.instr
  exact nc_b (nc_u1 h.1) (rfl)
set_option maxRecDepth 100000 in
theorem nc_o_bastore {L : List UInt8} {p : Nat} (h : nc_th L p [84]) : decode ⟨⟨L⟩⟩ p = .ok (.bastore, 1) := by
  refine nc_fin ?_
  unfold Decoder.instr
  exact nc_b (nc_u1 h.1) (rfl)
set_option maxRecDepth 100000 in
theorem nc_o_pop {L : List UInt8} {p : Nat} (h : nc_th L p [87]) : decode ⟨⟨L⟩⟩ p = .ok (.pop, 1) := by
  refine nc_fin ?_
  unfold Decoder.instr
  exact nc_b (nc_u1 h.1) (rfl)
set_option maxRecDepth 100000 in
theorem nc_o_pop2 {L : List UInt8} {p : Nat} (h : nc_th L p [88]) : decode ⟨⟨L⟩⟩ p = .ok (.pop2, 1) := by
  refine nc_fin ?_
  unfold Decoder.instr
  exact nc_b (nc_u1 h.1) (rfl)
set_option maxRecDepth 100000 in
theorem nc_o_dup {L : List UInt8} {p : Nat} (h : nc_th L p [89]) : decode ⟨⟨L⟩⟩ p = .ok (.dup, 1) := by
  refine nc_fin ?_
  unfold Decoder.instr
  exact nc_b (nc_u1 h.1) (rfl)
set_option maxRecDepth 100000 in
theorem nc_o_dup2 {L : List UInt8} {p : Nat} (h : nc_th L p [92]) : decode ⟨⟨L⟩⟩ p = .ok (.dup2, 1) := by
  refine nc_fin ?_
  unfold Decoder.instr
  exact nc_b (nc_u1 h.1) (rfl)
set_option maxRecDepth 100000 in
theorem nc_o_iadd {L : List UInt8} {p : Nat} (h : nc_th L p [96]) : decode ⟨⟨L⟩⟩ p = .ok (.iadd, 1) := by
  refine nc_fin ?_
  unfold Decoder.instr
  exact nc_b (nc_u1 h.1) (rfl)
set_option maxRecDepth 100000 in
theorem nc_o_ladd {L : List UInt8} {p : Nat} (h : nc_th L p [97]) : decode ⟨⟨L⟩⟩ p = .ok (.ladd, 1) := by
  refine nc_fin ?_
  unfold Decoder.instr
  exact nc_b (nc_u1 h.1) (rfl)
set_option maxRecDepth 100000 in
theorem nc_o_isub {L : List UInt8} {p : Nat} (h : nc_th L p [100]) : decode ⟨⟨L⟩⟩ p = .ok (.isub, 1) := by
  refine nc_fin ?_
  unfold Decoder.instr
  exact nc_b (nc_u1 h.1) (rfl)
set_option maxRecDepth 100000 in
theorem nc_o_lsub {L : List UInt8} {p : Nat} (h : nc_th L p [101]) : decode ⟨⟨L⟩⟩ p = .ok (.lsub, 1) := by
  refine nc_fin ?_
  unfold Decoder.instr
  exact nc_b (nc_u1 h.1) (rfl)
set_option maxRecDepth 100000 in
theorem nc_o_imul {L : List UInt8} {p : Nat} (h : nc_th L p [104]) : decode ⟨⟨L⟩⟩ p = .ok (.imul, 1) := by
  refine nc_fin ?_
  unfold Decoder.instr
  exact nc_b (nc_u1 h.1) (rfl)
set_option maxRecDepth 100000 in
theorem nc_o_lmul {L : List UInt8} {p : Nat} (h : nc_th L p [105]) : decode ⟨⟨L⟩⟩ p = .ok (.lmul, 1) := by
  refine nc_fin ?_
  unfold Decoder.instr
  exact nc_b (nc_u1 h.1) (rfl)
set_option maxRecDepth 100000 in
theorem nc_o_idiv {L : List UInt8} {p : Nat} (h : nc_th L p [108]) : decode ⟨⟨L⟩⟩ p = .ok (.idiv, 1) := by
  refine nc_fin ?_
  unfold Decoder.instr
  exact nc_b (nc_u1 h.1) (rfl)
set_option maxRecDepth 100000 in
theorem nc_o_ldiv {L : List UInt8} {p : Nat} (h : nc_th L p [109]) : decode ⟨⟨L⟩⟩ p = .ok (.ldiv, 1) := by
  refine nc_fin ?_
  unfold Decoder.instr
  exact nc_b (nc_u1 h.1) (rfl)
set_option maxRecDepth 100000 in
theorem nc_o_irem {L : List UInt8} {p : Nat} (h : nc_th L p [112]) : decode ⟨⟨L⟩⟩ p = .ok (.irem, 1) := by
  refine nc_fin ?_
  unfold Decoder.instr
  exact nc_b (nc_u1 h.1) (rfl)
set_option maxRecDepth 100000 in
theorem nc_o_lrem {L : List UInt8} {p : Nat} (h : nc_th L p [113]) : decode ⟨⟨L⟩⟩ p = .ok (.lrem, 1) := by
  refine nc_fin ?_
  unfold Decoder.instr
  exact nc_b (nc_u1 h.1) (rfl)
set_option maxRecDepth 100000 in
theorem nc_o_ishl {L : List UInt8} {p : Nat} (h : nc_th L p [120]) : decode ⟨⟨L⟩⟩ p = .ok (.ishl, 1) := by
  refine nc_fin ?_
  unfold Decoder.instr
  exact nc_b (nc_u1 h.1) (rfl)
set_option maxRecDepth 100000 in
theorem nc_o_lshl {L : List UInt8} {p : Nat} (h : nc_th L p [121]) : decode ⟨⟨L⟩⟩ p = .ok (.lshl, 1) := by
  refine nc_fin ?_
  unfold Decoder.instr
  exact nc_b (nc_u1 h.1) (rfl)
set_option maxRecDepth 100000 in
theorem nc_o_ishr {L : List UInt8} {p : Nat} (h : nc_th L p [122]) : decode ⟨⟨L⟩⟩ p = .ok (.ishr, 1) := by
  refine nc_fin ?_
  unfold Decoder.instr
  exact nc_b (nc_u1 h.1) (rfl)
set_option maxRecDepth 100000 in
theorem nc_o_lshr {L : List UInt8} {p : Nat} (h : nc_th L p [123]) : decode ⟨⟨L⟩⟩ p = .ok (.lshr, 1) := by
  refine nc_fin ?_
  unfold Decoder.instr
  exact nc_b (nc_u1 h.1) (rfl)
set_option maxRecDepth 100000 in
theorem nc_o_iushr {L : List UInt8} {p : Nat} (h : nc_th L p [124]) : decode ⟨⟨L⟩⟩ p = .ok (.iushr, 1) := by
  refine nc_fin ?_
  unfold Decoder.instr
  exact nc_b (nc_u1 h.1) (rfl)
set_option maxRecDepth 100000 in
theorem nc_o_lushr {L : List UInt8} {p : Nat} (h : nc_th L p [125]) : decode ⟨⟨L⟩⟩ p = .ok (.lushr, 1) := by
  refine nc_fin ?_
  unfold Decoder.instr
  exact nc_b (nc_u1 h.1) (rfl)
set_option maxRecDepth 100000 in
theorem nc_o_iand {L : List UInt8} {p : Nat} (h : nc_th L p [126]) : decode ⟨⟨L⟩⟩ p = .ok (.iand, 1) := by
  refine nc_fin ?_
  unfold Decoder.instr
  exact nc_b (nc_u1 h.1) (rfl)
set_option maxRecDepth 100000 in
theorem nc_o_land {L : List UInt8} {p : Nat} (h : nc_th L p [127]) : decode ⟨⟨L⟩⟩ p = .ok (.land, 1) := by
  refine nc_fin ?_
  unfold Decoder.instr
  exact nc_b (nc_u1 h.1) (rfl)
set_option maxRecDepth 100000 in
theorem nc_o_ior {L : List UInt8} {p : Nat} (h : nc_th L p [128]) : decode ⟨⟨L⟩⟩ p = .ok (.ior, 1) := by
  refine nc_fin ?_
  unfold Decoder.instr
  exact nc_b (nc_u1 h.1) (rfl)
set_option maxRecDepth 100000 in
theorem nc_o_lor {L : List UInt8} {p : Nat} (h : nc_th L p [129]) : decode ⟨⟨L⟩⟩ p = .ok (.lor, 1) := by
  refine nc_fin ?_
  unfold Decoder.instr
  exact nc_b (nc_u1 h.1) (rfl)
set_option maxRecDepth 100000 in
theorem nc_o_ixor {L : List UInt8} {p : Nat} (h : nc_th L p [130]) : decode ⟨⟨L⟩⟩ p = .ok (.ixor, 1) := by
  refine nc_fin ?_
  unfold Decoder.instr
  exact nc_b (nc_u1 h.1) (rfl)
set_option maxRecDepth 100000 in
theorem nc_o_i2l {L : List UInt8} {p : Nat} (h : nc_th L p [133]) : decode ⟨⟨L⟩⟩ p = .ok (.i2l, 1) := by
  refine nc_fin ?_
  unfold Decoder.instr
  exact nc_b (nc_u1 h.1) (rfl)
set_option maxRecDepth 100000 in
theorem nc_o_l2i {L : List UInt8} {p : Nat} (h : nc_th L p [136]) : decode ⟨⟨L⟩⟩ p = .ok (.l2i, 1) := by
  refine nc_fin ?_
  unfold Decoder.instr
  exact nc_b (nc_u1 h.1) (rfl)
set_option maxRecDepth 100000 in
theorem nc_o_i2b {L : List UInt8} {p : Nat} (h : nc_th L p [145]) : decode ⟨⟨L⟩⟩ p = .ok (.i2b, 1) := by
  refine nc_fin ?_
  unfold Decoder.instr
  exact nc_b (nc_u1 h.1) (rfl)
set_option maxRecDepth 100000 in
theorem nc_o_i2c {L : List UInt8} {p : Nat} (h : nc_th L p [146]) : decode ⟨⟨L⟩⟩ p = .ok (.i2c, 1) := by
  refine nc_fin ?_
  unfold Decoder.instr
  exact nc_b (nc_u1 h.1) (rfl)
set_option maxRecDepth 100000 in
theorem nc_o_lcmp {L : List UInt8} {p : Nat} (h : nc_th L p [148]) : decode ⟨⟨L⟩⟩ p = .ok (.lcmp, 1) := by
  refine nc_fin ?_
  unfold Decoder.instr
  exact nc_b (nc_u1 h.1) (rfl)
set_option maxRecDepth 100000 in
theorem nc_o_ireturn {L : List UInt8} {p : Nat} (h : nc_th L p [172]) : decode ⟨⟨L⟩⟩ p = .ok (.ireturn, 1) := by
  refine nc_fin ?_
  unfold Decoder.instr
  exact nc_b (nc_u1 h.1) (rfl)
set_option maxRecDepth 100000 in
theorem nc_o_lreturn {L : List UInt8} {p : Nat} (h : nc_th L p [173]) : decode ⟨⟨L⟩⟩ p = .ok (.lreturn, 1) := by
  refine nc_fin ?_
  unfold Decoder.instr
  exact nc_b (nc_u1 h.1) (rfl)
set_option maxRecDepth 100000 in
theorem nc_o_areturn {L : List UInt8} {p : Nat} (h : nc_th L p [176]) : decode ⟨⟨L⟩⟩ p = .ok (.areturn, 1) := by
  refine nc_fin ?_
  unfold Decoder.instr
  exact nc_b (nc_u1 h.1) (rfl)
set_option maxRecDepth 100000 in
theorem nc_o_return_ {L : List UInt8} {p : Nat} (h : nc_th L p [177]) : decode ⟨⟨L⟩⟩ p = .ok (.return_, 1) := by
  refine nc_fin ?_
  unfold Decoder.instr
  exact nc_b (nc_u1 h.1) (rfl)
set_option maxRecDepth 100000 in
theorem nc_o_arraylength {L : List UInt8} {p : Nat} (h : nc_th L p [190]) : decode ⟨⟨L⟩⟩ p = .ok (.arraylength, 1) := by
  refine nc_fin ?_
  unfold Decoder.instr
  exact nc_b (nc_u1 h.1) (rfl)
set_option maxRecDepth 100000 in
theorem nc_o_athrow {L : List UInt8} {p : Nat} (h : nc_th L p [191]) : decode ⟨⟨L⟩⟩ p = .ok (.athrow, 1) := by
  refine nc_fin ?_
  unfold Decoder.instr
  exact nc_b (nc_u1 h.1) (rfl)
set_option maxRecDepth 100000 in
theorem nc_o_aload_n0 {L : List UInt8} {p : Nat} (h : nc_th L p [42]) : decode ⟨⟨L⟩⟩ p = .ok (.aload_n 0, 1) := by
  refine nc_fin ?_
  unfold Decoder.instr
  exact nc_b (nc_u1 h.1) (rfl)
set_option maxRecDepth 100000 in
theorem nc_o_aload_n1 {L : List UInt8} {p : Nat} (h : nc_th L p [43]) : decode ⟨⟨L⟩⟩ p = .ok (.aload_n 1, 1) := by
  refine nc_fin ?_
  unfold Decoder.instr
  exact nc_b (nc_u1 h.1) (rfl)
set_option maxRecDepth 100000 in
theorem nc_o_aload_n2 {L : List UInt8} {p : Nat} (h : nc_th L p [44]) : decode ⟨⟨L⟩⟩ p = .ok (.aload_n 2, 1) := by
  refine nc_fin ?_
  unfold Decoder.instr
  exact nc_b (nc_u1 h.1) (rfl)
set_option maxRecDepth 100000 in
theorem nc_o_aload_n3 {L : List UInt8} {p : Nat} (h : nc_th L p [45]) : decode ⟨⟨L⟩⟩ p = .ok (.aload_n 3, 1) := by
  refine nc_fin ?_
  unfold Decoder.instr
  exact nc_b (nc_u1 h.1) (rfl)
set_option maxRecDepth 100000 in
theorem nc_o_iload_n0 {L : List UInt8} {p : Nat} (h : nc_th L p [26]) : decode ⟨⟨L⟩⟩ p = .ok (.iload_n 0, 1) := by
  refine nc_fin ?_
  unfold Decoder.instr
  exact nc_b (nc_u1 h.1) (rfl)
set_option maxRecDepth 100000 in
theorem nc_o_iload_n1 {L : List UInt8} {p : Nat} (h : nc_th L p [27]) : decode ⟨⟨L⟩⟩ p = .ok (.iload_n 1, 1) := by
  refine nc_fin ?_
  unfold Decoder.instr
  exact nc_b (nc_u1 h.1) (rfl)
set_option maxRecDepth 100000 in
theorem nc_o_iload_n2 {L : List UInt8} {p : Nat} (h : nc_th L p [28]) : decode ⟨⟨L⟩⟩ p = .ok (.iload_n 2, 1) := by
  refine nc_fin ?_
  unfold Decoder.instr
  exact nc_b (nc_u1 h.1) (rfl)
set_option maxRecDepth 100000 in
theorem nc_o_iload_n3 {L : List UInt8} {p : Nat} (h : nc_th L p [29]) : decode ⟨⟨L⟩⟩ p = .ok (.iload_n 3, 1) := by
  refine nc_fin ?_
  unfold Decoder.instr
  exact nc_b (nc_u1 h.1) (rfl)
set_option maxRecDepth 100000 in
theorem nc_o_lload_n0 {L : List UInt8} {p : Nat} (h : nc_th L p [30]) : decode ⟨⟨L⟩⟩ p = .ok (.lload_n 0, 1) := by
  refine nc_fin ?_
  unfold Decoder.instr
  exact nc_b (nc_u1 h.1) (rfl)
set_option maxRecDepth 100000 in
theorem nc_o_lload_n1 {L : List UInt8} {p : Nat} (h : nc_th L p [31]) : decode ⟨⟨L⟩⟩ p = .ok (.lload_n 1, 1) := by
  refine nc_fin ?_
  unfold Decoder.instr
  exact nc_b (nc_u1 h.1) (rfl)
set_option maxRecDepth 100000 in
theorem nc_o_lload_n2 {L : List UInt8} {p : Nat} (h : nc_th L p [32]) : decode ⟨⟨L⟩⟩ p = .ok (.lload_n 2, 1) := by
  refine nc_fin ?_
  unfold Decoder.instr
  exact nc_b (nc_u1 h.1) (rfl)
set_option maxRecDepth 100000 in
theorem nc_o_lload_n3 {L : List UInt8} {p : Nat} (h : nc_th L p [33]) : decode ⟨⟨L⟩⟩ p = .ok (.lload_n 3, 1) := by
  refine nc_fin ?_
  unfold Decoder.instr
  exact nc_b (nc_u1 h.1) (rfl)
set_option maxRecDepth 100000 in
theorem nc_o_istore_n0 {L : List UInt8} {p : Nat} (h : nc_th L p [59]) : decode ⟨⟨L⟩⟩ p = .ok (.istore_n 0, 1) := by
  refine nc_fin ?_
  unfold Decoder.instr
  exact nc_b (nc_u1 h.1) (rfl)
set_option maxRecDepth 100000 in
theorem nc_o_istore_n1 {L : List UInt8} {p : Nat} (h : nc_th L p [60]) : decode ⟨⟨L⟩⟩ p = .ok (.istore_n 1, 1) := by
  refine nc_fin ?_
  unfold Decoder.instr
  exact nc_b (nc_u1 h.1) (rfl)
set_option maxRecDepth 100000 in
theorem nc_o_istore_n2 {L : List UInt8} {p : Nat} (h : nc_th L p [61]) : decode ⟨⟨L⟩⟩ p = .ok (.istore_n 2, 1) := by
  refine nc_fin ?_
  unfold Decoder.instr
  exact nc_b (nc_u1 h.1) (rfl)
set_option maxRecDepth 100000 in
theorem nc_o_istore_n3 {L : List UInt8} {p : Nat} (h : nc_th L p [62]) : decode ⟨⟨L⟩⟩ p = .ok (.istore_n 3, 1) := by
  refine nc_fin ?_
  unfold Decoder.instr
  exact nc_b (nc_u1 h.1) (rfl)
set_option maxRecDepth 100000 in
theorem nc_o_astore_n0 {L : List UInt8} {p : Nat} (h : nc_th L p [75]) : decode ⟨⟨L⟩⟩ p = .ok (.astore_n 0, 1) := by
  refine nc_fin ?_
  unfold Decoder.instr
  exact nc_b (nc_u1 h.1) (rfl)
set_option maxRecDepth 100000 in
theorem nc_o_astore_n1 {L : List UInt8} {p : Nat} (h : nc_th L p [76]) : decode ⟨⟨L⟩⟩ p = .ok (.astore_n 1, 1) := by
  refine nc_fin ?_
  unfold Decoder.instr
  exact nc_b (nc_u1 h.1) (rfl)
set_option maxRecDepth 100000 in
theorem nc_o_astore_n2 {L : List UInt8} {p : Nat} (h : nc_th L p [77]) : decode ⟨⟨L⟩⟩ p = .ok (.astore_n 2, 1) := by
  refine nc_fin ?_
  unfold Decoder.instr
  exact nc_b (nc_u1 h.1) (rfl)
set_option maxRecDepth 100000 in
theorem nc_o_astore_n3 {L : List UInt8} {p : Nat} (h : nc_th L p [78]) : decode ⟨⟨L⟩⟩ p = .ok (.astore_n 3, 1) := by
  refine nc_fin ?_
  unfold Decoder.instr
  exact nc_b (nc_u1 h.1) (rfl)
set_option maxRecDepth 100000 in
theorem nc_o_lstore_n0 {L : List UInt8} {p : Nat} (h : nc_th L p [63]) : decode ⟨⟨L⟩⟩ p = .ok (.lstore_n 0, 1) := by
  refine nc_fin ?_
  unfold Decoder.instr
  exact nc_b (nc_u1 h.1) (rfl)
set_option maxRecDepth 100000 in
theorem nc_o_lstore_n1 {L : List UInt8} {p : Nat} (h : nc_th L p [64]) : decode ⟨⟨L⟩⟩ p = .ok (.lstore_n 1, 1) := by
  refine nc_fin ?_
  unfold Decoder.instr
  exact nc_b (nc_u1 h.1) (rfl)
set_option maxRecDepth 100000 in
theorem nc_o_lstore_n2 {L : List UInt8} {p : Nat} (h : nc_th L p [65]) : decode ⟨⟨L⟩⟩ p = .ok (.lstore_n 2, 1) := by
  refine nc_fin ?_
  unfold Decoder.instr
  exact nc_b (nc_u1 h.1) (rfl)
set_option maxRecDepth 100000 in
theorem nc_o_lstore_n3 {L : List UInt8} {p : Nat} (h : nc_th L p [66]) : decode ⟨⟨L⟩⟩ p = .ok (.lstore_n 3, 1) := by
  refine nc_fin ?_
  unfold Decoder.instr
  exact nc_b (nc_u1 h.1) (rfl)
set_option maxRecDepth 100000 in
theorem nc_o_lconst0 {L : List UInt8} {p : Nat} (h : nc_th L p [9]) : decode ⟨⟨L⟩⟩ p = .ok (.lconst 0, 1) := by
  refine nc_fin ?_
  unfold Decoder.instr
  exact nc_b (nc_u1 h.1) (rfl)
set_option maxRecDepth 100000 in
theorem nc_o_lconst1 {L : List UInt8} {p : Nat} (h : nc_th L p [10]) : decode ⟨⟨L⟩⟩ p = .ok (.lconst 1, 1) := by
  refine nc_fin ?_
  unfold Decoder.instr
  exact nc_b (nc_u1 h.1) (rfl)
set_option maxRecDepth 100000 in
theorem nc_o_iconstm1 {L : List UInt8} {p : Nat} (h : nc_th L p [2]) : decode ⟨⟨L⟩⟩ p = .ok (.iconst (-1), 1) := by
  refine nc_fin ?_
  unfold Decoder.instr
  exact nc_b (nc_u1 h.1) (rfl)
set_option maxRecDepth 100000 in
theorem nc_o_iconst0 {L : List UInt8} {p : Nat} (h : nc_th L p [3]) : decode ⟨⟨L⟩⟩ p = .ok (.iconst (0), 1) := by
  refine nc_fin ?_
  unfold Decoder.instr
  exact nc_b (nc_u1 h.1) (rfl)
set_option maxRecDepth 100000 in
theorem nc_o_iconst1 {L : List UInt8} {p : Nat} (h : nc_th L p [4]) : decode ⟨⟨L⟩⟩ p = .ok (.iconst (1), 1) := by
  refine nc_fin ?_
  unfold Decoder.instr
  exact nc_b (nc_u1 h.1) (rfl)
set_option maxRecDepth 100000 in
theorem nc_o_iconst2 {L : List UInt8} {p : Nat} (h : nc_th L p [5]) : decode ⟨⟨L⟩⟩ p = .ok (.iconst (2), 1) := by
  refine nc_fin ?_
  unfold Decoder.instr
  exact nc_b (nc_u1 h.1) (rfl)
set_option maxRecDepth 100000 in
theorem nc_o_iconst3 {L : List UInt8} {p : Nat} (h : nc_th L p [6]) : decode ⟨⟨L⟩⟩ p = .ok (.iconst (3), 1) := by
  refine nc_fin ?_
  unfold Decoder.instr
  exact nc_b (nc_u1 h.1) (rfl)
set_option maxRecDepth 100000 in
theorem nc_o_iconst4 {L : List UInt8} {p : Nat} (h : nc_th L p [7]) : decode ⟨⟨L⟩⟩ p = .ok (.iconst (4), 1) := by
  refine nc_fin ?_
  unfold Decoder.instr
  exact nc_b (nc_u1 h.1) (rfl)
set_option maxRecDepth 100000 in
theorem nc_o_iconst5 {L : List UInt8} {p : Nat} (h : nc_th L p [8]) : decode ⟨⟨L⟩⟩ p = .ok (.iconst (5), 1) := by
  refine nc_fin ?_
  unfold Decoder.instr
  exact nc_b (nc_u1 h.1) (rfl)
set_option maxRecDepth 100000 in
theorem nc_o_iload {L : List UInt8} {p : Nat} {n : Nat} (h : nc_th L p [21, n]) : decode ⟨⟨L⟩⟩ p = .ok (.iload n, 2) := by
  refine nc_fin ?_
  unfold Decoder.instr
  exact nc_b (nc_u1 h.1) (nc_b (nc_u1 h.2.1) rfl)
set_option maxRecDepth 100000 in
theorem nc_o_lload {L : List UInt8} {p : Nat} {n : Nat} (h : nc_th L p [22, n]) : decode ⟨⟨L⟩⟩ p = .ok (.lload n, 2) := by
  refine nc_fin ?_
  unfold Decoder.instr
  exact nc_b (nc_u1 h.1) (nc_b (nc_u1 h.2.1) rfl)
set_option maxRecDepth 100000 in
theorem nc_o_aload {L : List UInt8} {p : Nat} {n : Nat} (h : nc_th L p [25, n]) : decode ⟨⟨L⟩⟩ p = .ok (.aload n, 2) := by
  refine nc_fin ?_
  unfold Decoder.instr
  exact nc_b (nc_u1 h.1) (nc_b (nc_u1 h.2.1) rfl)
set_option maxRecDepth 100000 in
theorem nc_o_istore {L : List UInt8} {p : Nat} {n : Nat} (h : nc_th L p [54, n]) : decode ⟨⟨L⟩⟩ p = .ok (.istore n, 2) := by
  refine nc_fin ?_
  unfold Decoder.instr
  exact nc_b (nc_u1 h.1) (nc_b (nc_u1 h.2.1) rfl)
set_option maxRecDepth 100000 in
theorem nc_o_lstore {L : List UInt8} {p : Nat} {n : Nat} (h : nc_th L p [55, n]) : decode ⟨⟨L⟩⟩ p = .ok (.lstore n, 2) := by
  refine nc_fin ?_
  unfold Decoder.instr
  exact nc_b (nc_u1 h.1) (nc_b (nc_u1 h.2.1) rfl)
set_option maxRecDepth 100000 in
theorem nc_o_astore {L : List UInt8} {p : Nat} {n : Nat} (h : nc_th L p [58, n]) : decode ⟨⟨L⟩⟩ p = .ok (.astore n, 2) := by
  refine nc_fin ?_
  unfold Decoder.instr
  exact nc_b (nc_u1 h.1) (nc_b (nc_u1 h.2.1) rfl)
set_option maxRecDepth 100000 in
theorem nc_o_ldc {L : List UInt8} {p : Nat} {n : Nat} (h : nc_th L p [18, n]) : decode ⟨⟨L⟩⟩ p = .ok (.ldc n, 2) := by
  refine nc_fin ?_
  unfold Decoder.instr
  exact nc_b (nc_u1 h.1) (nc_b (nc_u1 h.2.1) rfl)
set_option maxRecDepth 100000 in
theorem nc_o_ldc_w {L : List UInt8} {p : Nat} {n : Nat} (h : nc_th L p [19, n / 256, n % 256]) : decode ⟨⟨L⟩⟩ p = .ok (.ldc_w n, 3) := by
  refine nc_fin ?_
  unfold Decoder.instr
  exact nc_b (nc_u1 h.1) (nc_b (nc_u2 (n := n) h.2.1 h.2.2.1 (by omega)) rfl)
set_option maxRecDepth 100000 in
theorem nc_o_ldc2_w {L : List UInt8} {p : Nat} {n : Nat} (h : nc_th L p [20, n / 256, n % 256]) : decode ⟨⟨L⟩⟩ p = .ok (.ldc2_w n, 3) := by
  refine nc_fin ?_
  unfold Decoder.instr
  exact nc_b (nc_u1 h.1) (nc_b (nc_u2 (n := n) h.2.1 h.2.2.1 (by omega)) rfl)
set_option maxRecDepth 100000 in
theorem nc_o_getstatic {L : List UInt8} {p : Nat} {n : Nat} (h : nc_th L p [178, n / 256, n % 256]) : decode ⟨⟨L⟩⟩ p = .ok (.getstatic n, 3) := by
  refine nc_fin ?_
  unfold Decoder.instr
  exact nc_b (nc_u1 h.1) (nc_b (nc_u2 (n := n) h.2.1 h.2.2.1 (by omega)) rfl)
set_option maxRecDepth 100000 in
theorem nc_o_getfield {L : List UInt8} {p : Nat} {n : Nat} (h : nc_th L p [180, n / 256, n % 256]) : decode ⟨⟨L⟩⟩ p = .ok (.getfield n, 3) := by
  refine nc_fin ?_
  unfold Decoder.instr
  exact nc_b (nc_u1 h.1) (nc_b (nc_u2 (n := n) h.2.1 h.2.2.1 (by omega)) rfl)
set_option maxRecDepth 100000 in
theorem nc_o_putfield {L : List UInt8} {p : Nat} {n : Nat} (h : nc_th L p [181, n / 256, n % 256]) : decode ⟨⟨L⟩⟩ p = .ok (.putfield n, 3) := by
  refine nc_fin ?_
  unfold Decoder.instr
  exact nc_b (nc_u1 h.1) (nc_b (nc_u2 (n := n) h.2.1 h.2.2.1 (by omega)) rfl)
set_option maxRecDepth 100000 in
theorem nc_o_invokevirtual {L : List UInt8} {p : Nat} {n : Nat} (h : nc_th L p [182, n / 256, n % 256]) : decode ⟨⟨L⟩⟩ p = .ok (.invokevirtual n, 3) := by
  refine nc_fin ?_
  unfold Decoder.instr
  exact nc_b (nc_u1 h.1) (nc_b (nc_u2 (n := n) h.2.1 h.2.2.1 (by omega)) rfl)
set_option maxRecDepth 100000 in
theorem nc_o_invokespecial {L : List UInt8} {p : Nat} {n : Nat} (h : nc_th L p [183, n / 256, n % 256]) : decode ⟨⟨L⟩⟩ p = .ok (.invokespecial n, 3) := by
  refine nc_fin ?_
  unfold Decoder.instr
  exact nc_b (nc_u1 h.1) (nc_b (nc_u2 (n := n) h.2.1 h.2.2.1 (by omega)) rfl)
set_option maxRecDepth 100000 in
theorem nc_o_invokestatic {L : List UInt8} {p : Nat} {n : Nat} (h : nc_th L p [184, n / 256, n % 256]) : decode ⟨⟨L⟩⟩ p = .ok (.invokestatic n, 3) := by
  refine nc_fin ?_
  unfold Decoder.instr
  exact nc_b (nc_u1 h.1) (nc_b (nc_u2 (n := n) h.2.1 h.2.2.1 (by omega)) rfl)
set_option maxRecDepth 100000 in
theorem nc_o_new {L : List UInt8} {p : Nat} {n : Nat} (h : nc_th L p [187, n / 256, n % 256]) : decode ⟨⟨L⟩⟩ p = .ok (.new n, 3) := by
  refine nc_fin ?_
  unfold Decoder.instr
  exact nc_b (nc_u1 h.1) (nc_b (nc_u2 (n := n) h.2.1 h.2.2.1 (by omega)) rfl)
set_option maxRecDepth 100000 in
theorem nc_o_anewarray {L : List UInt8} {p : Nat} {n : Nat} (h : nc_th L p [189, n / 256, n % 256]) : decode ⟨⟨L⟩⟩ p = .ok (.anewarray n, 3) := by
  refine nc_fin ?_
  unfold Decoder.instr
  exact nc_b (nc_u1 h.1) (nc_b (nc_u2 (n := n) h.2.1 h.2.2.1 (by omega)) rfl)
set_option maxRecDepth 100000 in
theorem nc_o_checkcast {L : List UInt8} {p : Nat} {n : Nat} (h : nc_th L p [192, n / 256, n % 256]) : decode ⟨⟨L⟩⟩ p = .ok (.checkcast n, 3) := by
  refine nc_fin ?_
  unfold Decoder.instr
  exact nc_b (nc_u1 h.1) (nc_b (nc_u2 (n := n) h.2.1 h.2.2.1 (by omega)) rfl)
set_option maxRecDepth 100000 in
theorem nc_o_goto {L : List UInt8} {p : Nat} {z : Int} {u : Nat} (h : nc_th L p [167, u / 256, u % 256]) (e : nc_s2 z = some u) : decode ⟨⟨L⟩⟩ p = .ok (.goto z, 3) := by
  refine nc_fin ?_
  unfold Decoder.instr
  exact nc_b (nc_u1 h.1) (nc_b (nc_r2 h.2.1 h.2.2.1 e) rfl)
set_option maxRecDepth 100000 in
theorem nc_o_ifnull {L : List UInt8} {p : Nat} {z : Int} {u : Nat} (h : nc_th L p [198, u / 256, u % 256]) (e : nc_s2 z = some u) : decode ⟨⟨L⟩⟩ p = .ok (.ifnull z, 3) := by
  refine nc_fin ?_
  unfold Decoder.instr
  exact nc_b (nc_u1 h.1) (nc_b (nc_r2 h.2.1 h.2.2.1 e) rfl)
set_option maxRecDepth 100000 in
theorem nc_o_ifnonnull {L : List UInt8} {p : Nat} {z : Int} {u : Nat} (h : nc_th L p [199, u / 256, u % 256]) (e : nc_s2 z = some u) : decode ⟨⟨L⟩⟩ p = .ok (.ifnonnull z, 3) := by
  refine nc_fin ?_
  unfold Decoder.instr
  exact nc_b (nc_u1 h.1) (nc_b (nc_r2 h.2.1 h.2.2.1 e) rfl)
set_option maxRecDepth 100000 in
theorem nc_o_sipush {L : List UInt8} {p : Nat} {z : Int} {u : Nat} (h : nc_th L p [17, u / 256, u % 256]) (e : nc_s2 z = some u) : decode ⟨⟨L⟩⟩ p = .ok (.sipush z, 3) := by
  refine nc_fin ?_
  unfold Decoder.instr
  exact nc_b (nc_u1 h.1) (nc_b (nc_r2 h.2.1 h.2.2.1 e) rfl)
set_option maxRecDepth 100000 in
theorem nc_o_ifCondeq {L : List UInt8} {p : Nat} {z : Int} {u : Nat} (h : nc_th L p [153, u / 256, u % 256]) (e : nc_s2 z = some u) : decode ⟨⟨L⟩⟩ p = .ok (.ifCond .eq z, 3) := by
  refine nc_fin ?_
  unfold Decoder.instr
  exact nc_b (nc_u1 h.1) (nc_b (nc_r2 h.2.1 h.2.2.1 e) rfl)
set_option maxRecDepth 100000 in
theorem nc_o_ifCondne {L : List UInt8} {p : Nat} {z : Int} {u : Nat} (h : nc_th L p [154, u / 256, u % 256]) (e : nc_s2 z = some u) : decode ⟨⟨L⟩⟩ p = .ok (.ifCond .ne z, 3) := by
  refine nc_fin ?_
  unfold Decoder.instr
  exact nc_b (nc_u1 h.1) (nc_b (nc_r2 h.2.1 h.2.2.1 e) rfl)
set_option maxRecDepth 100000 in
theorem nc_o_ifCondlt {L : List UInt8} {p : Nat} {z : Int} {u : Nat} (h : nc_th L p [155, u / 256, u % 256]) (e : nc_s2 z = some u) : decode ⟨⟨L⟩⟩ p = .ok (.ifCond .lt z, 3) := by
  refine nc_fin ?_
  unfold Decoder.instr
  exact nc_b (nc_u1 h.1) (nc_b (nc_r2 h.2.1 h.2.2.1 e) rfl)
set_option maxRecDepth 100000 in
theorem nc_o_ifCondge {L : List UInt8} {p : Nat} {z : Int} {u : Nat} (h : nc_th L p [156, u / 256, u % 256]) (e : nc_s2 z = some u) : decode ⟨⟨L⟩⟩ p = .ok (.ifCond .ge z, 3) := by
  refine nc_fin ?_
  unfold Decoder.instr
  exact nc_b (nc_u1 h.1) (nc_b (nc_r2 h.2.1 h.2.2.1 e) rfl)
set_option maxRecDepth 100000 in
theorem nc_o_ifCondgt {L : List UInt8} {p : Nat} {z : Int} {u : Nat} (h : nc_th L p [157, u / 256, u % 256]) (e : nc_s2 z = some u) : decode ⟨⟨L⟩⟩ p = .ok (.ifCond .gt z, 3) := by
  refine nc_fin ?_
  unfold Decoder.instr
  exact nc_b (nc_u1 h.1) (nc_b (nc_r2 h.2.1 h.2.2.1 e) rfl)
set_option maxRecDepth 100000 in
theorem nc_o_ifCondle {L : List UInt8} {p : Nat} {z : Int} {u : Nat} (h : nc_th L p [158, u / 256, u % 256]) (e : nc_s2 z = some u) : decode ⟨⟨L⟩⟩ p = .ok (.ifCond .le z, 3) := by
  refine nc_fin ?_
  unfold Decoder.instr
  exact nc_b (nc_u1 h.1) (nc_b (nc_r2 h.2.1 h.2.2.1 e) rfl)
set_option maxRecDepth 100000 in
theorem nc_o_if_icmpeq {L : List UInt8} {p : Nat} {z : Int} {u : Nat} (h : nc_th L p [159, u / 256, u % 256]) (e : nc_s2 z = some u) : decode ⟨⟨L⟩⟩ p = .ok (.if_icmp .eq z, 3) := by
  refine nc_fin ?_
  unfold Decoder.instr
  exact nc_b (nc_u1 h.1) (nc_b (nc_r2 h.2.1 h.2.2.1 e) rfl)
set_option maxRecDepth 100000 in
theorem nc_o_if_icmpne {L : List UInt8} {p : Nat} {z : Int} {u : Nat} (h : nc_th L p [160, u / 256, u % 256]) (e : nc_s2 z = some u) : decode ⟨⟨L⟩⟩ p = .ok (.if_icmp .ne z, 3) := by
  refine nc_fin ?_
  unfold Decoder.instr
  exact nc_b (nc_u1 h.1) (nc_b (nc_r2 h.2.1 h.2.2.1 e) rfl)
set_option maxRecDepth 100000 in
theorem nc_o_if_icmplt {L : List UInt8} {p : Nat} {z : Int} {u : Nat} (h : nc_th L p [161, u / 256, u % 256]) (e : nc_s2 z = some u) : decode ⟨⟨L⟩⟩ p = .ok (.if_icmp .lt z, 3) := by
  refine nc_fin ?_
  unfold Decoder.instr
  exact nc_b (nc_u1 h.1) (nc_b (nc_r2 h.2.1 h.2.2.1 e) rfl)
set_option maxRecDepth 100000 in
theorem nc_o_if_icmpge {L : List UInt8} {p : Nat} {z : Int} {u : Nat} (h : nc_th L p [162, u / 256, u % 256]) (e : nc_s2 z = some u) : decode ⟨⟨L⟩⟩ p = .ok (.if_icmp .ge z, 3) := by
  refine nc_fin ?_
  unfold Decoder.instr
  exact nc_b (nc_u1 h.1) (nc_b (nc_r2 h.2.1 h.2.2.1 e) rfl)
set_option maxRecDepth 100000 in
theorem nc_o_if_icmpgt {L : List UInt8} {p : Nat} {z : Int} {u : Nat} (h : nc_th L p [163, u / 256, u % 256]) (e : nc_s2 z = some u) : decode ⟨⟨L⟩⟩ p = .ok (.if_icmp .gt z, 3) := by
  refine nc_fin ?_
  unfold Decoder.instr
  exact nc_b (nc_u1 h.1) (nc_b (nc_r2 h.2.1 h.2.2.1 e) rfl)
set_option maxRecDepth 100000 in
theorem nc_o_if_icmple {L : List UInt8} {p : Nat} {z : Int} {u : Nat} (h : nc_th L p [164, u / 256, u % 256]) (e : nc_s2 z = some u) : decode ⟨⟨L⟩⟩ p = .ok (.if_icmp .le z, 3) := by
  refine nc_fin ?_
  unfold Decoder.instr
  exact nc_b (nc_u1 h.1) (nc_b (nc_r2 h.2.1 h.2.2.1 e) rfl)
set_option maxRecDepth 100000 in
theorem nc_o_if_acmpeq {L : List UInt8} {p : Nat} {z : Int} {u : Nat} (h : nc_th L p [165, u / 256, u % 256]) (e : nc_s2 z = some u) : decode ⟨⟨L⟩⟩ p = .ok (.if_acmp .eq z, 3) := by
  refine nc_fin ?_
  unfold Decoder.instr
  exact nc_b (nc_u1 h.1) (nc_b (nc_r2 h.2.1 h.2.2.1 e) rfl)
set_option maxRecDepth 100000 in
theorem nc_o_if_acmpne {L : List UInt8} {p : Nat} {z : Int} {u : Nat} (h : nc_th L p [166, u / 256, u % 256]) (e : nc_s2 z = some u) : decode ⟨⟨L⟩⟩ p = .ok (.if_acmp .ne z, 3) := by
  refine nc_fin ?_
  unfold Decoder.instr
  exact nc_b (nc_u1 h.1) (nc_b (nc_r2 h.2.1 h.2.2.1 e) rfl)
set_option maxRecDepth 100000 in
theorem nc_o_bipush {L : List UInt8} {p : Nat} {z : Int} {u : Nat} (h : nc_th L p [16, u]) (e : nc_s1 z = some u) : decode ⟨⟨L⟩⟩ p = .ok (.bipush z, 2) := by
  refine nc_fin ?_
  unfold Decoder.instr
  exact nc_b (nc_u1 h.1) (nc_b (nc_r1 h.2.1 e) rfl)
set_option maxRecDepth 100000 in
theorem nc_o_iinc {L : List UInt8} {p : Nat} {n : Nat} {z : Int} {u : Nat} (h : nc_th L p [132, n, u]) (e : nc_s1 z = some u) : decode ⟨⟨L⟩⟩ p = .ok (.iinc n z, 3) := by
  refine nc_fin ?_
  unfold Decoder.instr
  exact nc_b (nc_u1 h.1) (nc_b (nc_u1 h.2.1) (nc_b (nc_r1 h.2.2.1 e) rfl))
set_option maxRecDepth 100000 in
theorem nc_o_newarray_boolean {L : List UInt8} {p : Nat} (h : nc_th L p [188, 4]) : decode ⟨⟨L⟩⟩ p = .ok (.newarray .boolean, 2) := by
  refine nc_fin ?_
  unfold Decoder.instr
  exact nc_b (nc_u1 h.1) (nc_b (nc_u1 h.2.1) rfl)
set_option maxRecDepth 100000 in
theorem nc_o_newarray_char {L : List UInt8} {p : Nat} (h : nc_th L p [188, 5]) : decode ⟨⟨L⟩⟩ p = .ok (.newarray .char, 2) := by
  refine nc_fin ?_
  unfold Decoder.instr
  exact nc_b (nc_u1 h.1) (nc_b (nc_u1 h.2.1) rfl)
set_option maxRecDepth 100000 in
theorem nc_o_newarray_float {L : List UInt8} {p : Nat} (h : nc_th L p [188, 6]) : decode ⟨⟨L⟩⟩ p = .ok (.newarray .float, 2) := by
  refine nc_fin ?_
  unfold Decoder.instr
  exact nc_b (nc_u1 h.1) (nc_b (nc_u1 h.2.1) rfl)
set_option maxRecDepth 100000 in
theorem nc_o_newarray_double {L : List UInt8} {p : Nat} (h : nc_th L p [188, 7]) : decode ⟨⟨L⟩⟩ p = .ok (.newarray .double, 2) := by
  refine nc_fin ?_
  unfold Decoder.instr
  exact nc_b (nc_u1 h.1) (nc_b (nc_u1 h.2.1) rfl)
set_option maxRecDepth 100000 in
theorem nc_o_newarray_byte {L : List UInt8} {p : Nat} (h : nc_th L p [188, 8]) : decode ⟨⟨L⟩⟩ p = .ok (.newarray .byte, 2) := by
  refine nc_fin ?_
  unfold Decoder.instr
  exact nc_b (nc_u1 h.1) (nc_b (nc_u1 h.2.1) rfl)
set_option maxRecDepth 100000 in
theorem nc_o_newarray_short {L : List UInt8} {p : Nat} (h : nc_th L p [188, 9]) : decode ⟨⟨L⟩⟩ p = .ok (.newarray .short, 2) := by
  refine nc_fin ?_
  unfold Decoder.instr
  exact nc_b (nc_u1 h.1) (nc_b (nc_u1 h.2.1) rfl)
set_option maxRecDepth 100000 in
theorem nc_o_newarray_int {L : List UInt8} {p : Nat} (h : nc_th L p [188, 10]) : decode ⟨⟨L⟩⟩ p = .ok (.newarray .int, 2) := by
  refine nc_fin ?_
  unfold Decoder.instr
  exact nc_b (nc_u1 h.1) (nc_b (nc_u1 h.2.1) rfl)
set_option maxRecDepth 100000 in
theorem nc_o_newarray_long {L : List UInt8} {p : Nat} (h : nc_th L p [188, 11]) : decode ⟨⟨L⟩⟩ p = .ok (.newarray .long, 2) := by
  refine nc_fin ?_
  unfold Decoder.instr
  exact nc_b (nc_u1 h.1) (nc_b (nc_u1 h.2.1) rfl)
set_option maxRecDepth 100000 in
theorem nc_zz {L : List UInt8} {p c : Nat} {o : Option Nat} (hn : nc_z2 c o ≠ []) (h : nc_th L p (nc_z2 c o)) : ∃ u, o = some u ∧ nc_th L p [c, u / 256, u % 256] ∧ (nc_z2 c o).length = 3 := by
  match o, hn, h with
  | some u, _, h => exact ⟨u, rfl, h, rfl⟩
  | none, hn, _ => exact absurd rfl hn
set_option maxRecDepth 100000 in
theorem nc_ic1 {m : Nat} (h : ¬ m < 6) : nc_ic (.ofNat m) = [] := by
  first
  | exact if_neg h
  | (unfold nc_ic; exact if_neg h)
  | (simp only [nc_ic]; exact if_neg h)
  | simp [nc_ic, h]
set_option maxRecDepth 100000 in
theorem nc_ic2 {m : Nat} (h : ¬ m < 1) : nc_ic (.negSucc m) = [] := by
  first
  | exact if_neg h
  | (unfold nc_ic; exact if_neg h)
  | (simp only [nc_ic]; exact if_neg h)
  | simp [nc_ic, h]
set_option maxRecDepth 100000 in
theorem nc_ok {L : List UInt8} {p : Nat} (i : Instr) (hn : nc_en i ≠ []) (h : nc_th L p (nc_en i)) : decode ⟨⟨L⟩⟩ p = .ok (i, (nc_en i).length) := by
  cases i with
  | aconst_null => exact nc_o_aconst_null h
  | iaload => exact nc_o_iaload h
  | laload => exact nc_o_laload h
  | aaload => exact nc_o_aaload h
  | baload => exact nc_o_baload h
  | iastore => exact nc_o_iastore h
  | lastore => exact nc_o_lastore h
  | aastore => exact nc_o_aastore h
  | bastore => exact nc_o_bastore h
  | pop => exact nc_o_pop h
  | pop2 => exact nc_o_pop2 h
  | dup => exact nc_o_dup h
  | dup2 => exact nc_o_dup2 h
  | iadd => exact nc_o_iadd h
  | ladd => exact nc_o_ladd h
  | isub => exact nc_o_isub h
  | lsub => exact nc_o_lsub h
  | imul => exact nc_o_imul h
  | lmul => exact nc_o_lmul h
  | idiv => exact nc_o_idiv h
  | ldiv => exact nc_o_ldiv h
  | irem => exact nc_o_irem h
  | lrem => exact nc_o_lrem h
  | ishl => exact nc_o_ishl h
  | lshl => exact nc_o_lshl h
  | ishr => exact nc_o_ishr h
  | lshr => exact nc_o_lshr h
  | iushr => exact nc_o_iushr h
  | lushr => exact nc_o_lushr h
  | iand => exact nc_o_iand h
  | land => exact nc_o_land h
  | ior => exact nc_o_ior h
  | lor => exact nc_o_lor h
  | ixor => exact nc_o_ixor h
  | i2l => exact nc_o_i2l h
  | l2i => exact nc_o_l2i h
  | i2b => exact nc_o_i2b h
  | i2c => exact nc_o_i2c h
  | lcmp => exact nc_o_lcmp h
  | ireturn => exact nc_o_ireturn h
  | lreturn => exact nc_o_lreturn h
  | areturn => exact nc_o_areturn h
  | return_ => exact nc_o_return_ h
  | arraylength => exact nc_o_arraylength h
  | athrow => exact nc_o_athrow h
  | aload_n n =>
    match n, h with
    | 0, h => exact nc_o_aload_n0 h
    | 1, h => exact nc_o_aload_n1 h
    | 2, h => exact nc_o_aload_n2 h
    | 3, h => exact nc_o_aload_n3 h
  | iload_n n =>
    match n, h with
    | 0, h => exact nc_o_iload_n0 h
    | 1, h => exact nc_o_iload_n1 h
    | 2, h => exact nc_o_iload_n2 h
    | 3, h => exact nc_o_iload_n3 h
  | lload_n n =>
    match n, h with
    | 0, h => exact nc_o_lload_n0 h
    | 1, h => exact nc_o_lload_n1 h
    | 2, h => exact nc_o_lload_n2 h
    | 3, h => exact nc_o_lload_n3 h
  | istore_n n =>
    match n, h with
    | 0, h => exact nc_o_istore_n0 h
    | 1, h => exact nc_o_istore_n1 h
    | 2, h => exact nc_o_istore_n2 h
    | 3, h => exact nc_o_istore_n3 h
  | astore_n n =>
    match n, h with
    | 0, h => exact nc_o_astore_n0 h
    | 1, h => exact nc_o_astore_n1 h
    | 2, h => exact nc_o_astore_n2 h
    | 3, h => exact nc_o_astore_n3 h
  | lstore_n n =>
    match n, h with
    | 0, h => exact nc_o_lstore_n0 h
    | 1, h => exact nc_o_lstore_n1 h
    | 2, h => exact nc_o_lstore_n2 h
    | 3, h => exact nc_o_lstore_n3 h
  | lconst n =>
    match n, h with
    | 0, h => exact nc_o_lconst0 h
    | 1, h => exact nc_o_lconst1 h
  | iconst z =>
    match z, hn, h with
    | .ofNat 0, _, h => exact nc_o_iconst0 h
    | .ofNat 1, _, h => exact nc_o_iconst1 h
    | .ofNat 2, _, h => exact nc_o_iconst2 h
    | .ofNat 3, _, h => exact nc_o_iconst3 h
    | .ofNat 4, _, h => exact nc_o_iconst4 h
    | .ofNat 5, _, h => exact nc_o_iconst5 h
    | .ofNat (m + 6), hn, _ => exact hn (show nc_en (.iconst (.ofNat (m + 6))) = [] from nc_ic1 (m := m + 6) (by omega)) |>.elim
    | .negSucc 0, _, h => exact nc_o_iconstm1 h
    | .negSucc (m + 1), hn, _ => exact hn (show nc_en (.iconst (.negSucc (m + 1))) = [] from nc_ic2 (m := m + 1) (by omega)) |>.elim
  | iload n => exact nc_o_iload h
  | lload n => exact nc_o_lload h
  | aload n => exact nc_o_aload h
  | istore n => exact nc_o_istore h
  | lstore n => exact nc_o_lstore h
  | astore n => exact nc_o_astore h
  | ldc n => exact nc_o_ldc h
  | ldc_w n => exact nc_o_ldc_w h
  | ldc2_w n => exact nc_o_ldc2_w h
  | getstatic n => exact nc_o_getstatic h
  | getfield n => exact nc_o_getfield h
  | putfield n => exact nc_o_putfield h
  | invokevirtual n => exact nc_o_invokevirtual h
  | invokespecial n => exact nc_o_invokespecial h
  | invokestatic n => exact nc_o_invokestatic h
  | new n => exact nc_o_new h
  | anewarray n => exact nc_o_anewarray h
  | checkcast n => exact nc_o_checkcast h
  | goto z =>
    obtain ⟨u, e, g, l⟩ := nc_zz (c := 167) hn h
    refine (nc_o_goto g e).trans ?_
    exact congrArg (fun n => (Except.ok (_, n) : Except DecodeError (Instr × Nat))) l.symm
  | ifnull z =>
    obtain ⟨u, e, g, l⟩ := nc_zz (c := 198) hn h
    refine (nc_o_ifnull g e).trans ?_
    exact congrArg (fun n => (Except.ok (_, n) : Except DecodeError (Instr × Nat))) l.symm
  | ifnonnull z =>
    obtain ⟨u, e, g, l⟩ := nc_zz (c := 199) hn h
    refine (nc_o_ifnonnull g e).trans ?_
    exact congrArg (fun n => (Except.ok (_, n) : Except DecodeError (Instr × Nat))) l.symm
  | sipush z =>
    obtain ⟨u, e, g, l⟩ := nc_zz (c := 17) hn h
    refine (nc_o_sipush g e).trans ?_
    exact congrArg (fun n => (Except.ok (_, n) : Except DecodeError (Instr × Nat))) l.symm
  | ifCond c z =>
    cases c with
    | eq =>
      obtain ⟨u, e, g, l⟩ := nc_zz (c := 153) hn h
      refine (nc_o_ifCondeq g e).trans ?_
      exact congrArg (fun n => (Except.ok (_, n) : Except DecodeError (Instr × Nat))) l.symm
    | ne =>
      obtain ⟨u, e, g, l⟩ := nc_zz (c := 154) hn h
      refine (nc_o_ifCondne g e).trans ?_
      exact congrArg (fun n => (Except.ok (_, n) : Except DecodeError (Instr × Nat))) l.symm
    | lt =>
      obtain ⟨u, e, g, l⟩ := nc_zz (c := 155) hn h
      refine (nc_o_ifCondlt g e).trans ?_
      exact congrArg (fun n => (Except.ok (_, n) : Except DecodeError (Instr × Nat))) l.symm
    | ge =>
      obtain ⟨u, e, g, l⟩ := nc_zz (c := 156) hn h
      refine (nc_o_ifCondge g e).trans ?_
      exact congrArg (fun n => (Except.ok (_, n) : Except DecodeError (Instr × Nat))) l.symm
    | gt =>
      obtain ⟨u, e, g, l⟩ := nc_zz (c := 157) hn h
      refine (nc_o_ifCondgt g e).trans ?_
      exact congrArg (fun n => (Except.ok (_, n) : Except DecodeError (Instr × Nat))) l.symm
    | le =>
      obtain ⟨u, e, g, l⟩ := nc_zz (c := 158) hn h
      refine (nc_o_ifCondle g e).trans ?_
      exact congrArg (fun n => (Except.ok (_, n) : Except DecodeError (Instr × Nat))) l.symm
  | if_icmp c z =>
    cases c with
    | eq =>
      obtain ⟨u, e, g, l⟩ := nc_zz (c := 159) hn h
      refine (nc_o_if_icmpeq g e).trans ?_
      exact congrArg (fun n => (Except.ok (_, n) : Except DecodeError (Instr × Nat))) l.symm
    | ne =>
      obtain ⟨u, e, g, l⟩ := nc_zz (c := 160) hn h
      refine (nc_o_if_icmpne g e).trans ?_
      exact congrArg (fun n => (Except.ok (_, n) : Except DecodeError (Instr × Nat))) l.symm
    | lt =>
      obtain ⟨u, e, g, l⟩ := nc_zz (c := 161) hn h
      refine (nc_o_if_icmplt g e).trans ?_
      exact congrArg (fun n => (Except.ok (_, n) : Except DecodeError (Instr × Nat))) l.symm
    | ge =>
      obtain ⟨u, e, g, l⟩ := nc_zz (c := 162) hn h
      refine (nc_o_if_icmpge g e).trans ?_
      exact congrArg (fun n => (Except.ok (_, n) : Except DecodeError (Instr × Nat))) l.symm
    | gt =>
      obtain ⟨u, e, g, l⟩ := nc_zz (c := 163) hn h
      refine (nc_o_if_icmpgt g e).trans ?_
      exact congrArg (fun n => (Except.ok (_, n) : Except DecodeError (Instr × Nat))) l.symm
    | le =>
      obtain ⟨u, e, g, l⟩ := nc_zz (c := 164) hn h
      refine (nc_o_if_icmple g e).trans ?_
      exact congrArg (fun n => (Except.ok (_, n) : Except DecodeError (Instr × Nat))) l.symm
  | if_acmp c z =>
    cases c with
    | eq =>
      obtain ⟨u, e, g, l⟩ := nc_zz (c := 165) hn h
      refine (nc_o_if_acmpeq g e).trans ?_
      exact congrArg (fun n => (Except.ok (_, n) : Except DecodeError (Instr × Nat))) l.symm
    | ne =>
      obtain ⟨u, e, g, l⟩ := nc_zz (c := 166) hn h
      refine (nc_o_if_acmpne g e).trans ?_
      exact congrArg (fun n => (Except.ok (_, n) : Except DecodeError (Instr × Nat))) l.symm
  | bipush z =>
    have hn : nc_z1 16 (nc_s1 z) ≠ [] := hn
    have h : nc_th L p (nc_z1 16 (nc_s1 z)) := h
    show decode ⟨⟨L⟩⟩ p = .ok (.bipush z, (nc_z1 16 (nc_s1 z)).length)
    cases e : nc_s1 z with
    | none => rw [e] at hn; exact absurd rfl hn
    | some u => rw [e] at h; exact nc_o_bipush h e
  | iinc n z =>
    have hn : nc_z3 132 n (nc_s1 z) ≠ [] := hn
    have h : nc_th L p (nc_z3 132 n (nc_s1 z)) := h
    show decode ⟨⟨L⟩⟩ p = .ok (.iinc n z, (nc_z3 132 n (nc_s1 z)).length)
    cases e : nc_s1 z with
    | none => rw [e] at hn; exact absurd rfl hn
    | some u => rw [e] at h; exact nc_o_iinc h e
  | newarray t =>
    cases t with
    | boolean => exact nc_o_newarray_boolean h
    | char => exact nc_o_newarray_char h
    | float => exact nc_o_newarray_float h
    | double => exact nc_o_newarray_double h
    | byte => exact nc_o_newarray_byte h
    | short => exact nc_o_newarray_short h
    | int => exact nc_o_newarray_int h
    | long => exact nc_o_newarray_long h
  | _ => exact absurd rfl hn
/-- a code, row by row: its bytes are those of its instructions; where there are none it is passed over -/
def nc_st (k : List UInt8 → Bool) (n : Nat) : List Nat → List UInt8 → Bool
  | [a], b0 :: t => Nat.beq b0.toNat a && (Nat.beq n 1 && k t)
  | [a, b], b0 :: b1 :: t => Nat.beq b0.toNat a && (Nat.beq b1.toNat b && (Nat.beq n 2 && k t))
  | [a, b, c], b0 :: b1 :: b2 :: t => Nat.beq b0.toNat a && (Nat.beq b1.toNat b && (Nat.beq b2.toNat c && (Nat.beq n 3 && k t)))
  | [], bs => k (bs.drop n)
  | _, _ => false
def nc_ck : List (Nat × Instr × Nat) → Nat → List UInt8 → Bool
  | [], _, _ => true
  | x :: r, p, bs => Nat.beq x.1 p && nc_st (fun t => nc_ck r (p + x.2.2) t) x.2.2 (nc_en x.2.1) bs
set_option maxRecDepth 100000 in
theorem nc_dr {L : List UInt8} {p : Nat} {b : UInt8} {t : List UInt8} (h : L.drop p = b :: t) : nc_at L p b.toNat ∧ L.drop (p + 1) = t := by
  have l : p < L.length := by
    rcases Nat.lt_or_ge p L.length with z | z
    · exact z
    · rw [List.drop_eq_nil_of_le z] at h; cases h
  rw [List.drop_eq_getElem_cons l] at h
  injection h with h1 h2
  exact ⟨⟨l, by rw [h1]⟩, h2⟩
set_option maxRecDepth 100000 in
theorem nc_sts {L : List UInt8} {k : List UInt8 → Bool} {n p : Nat} {e : List Nat} {bs : List UInt8} (hb : L.drop p = bs) (h : nc_st k n e bs = true) : (e ≠ [] → nc_th L p e ∧ n = e.length) ∧ k (L.drop (p + n)) = true := by
  match e, bs, hb, h with
  | [a], b0 :: t, hb, h =>
    have h : (Nat.beq b0.toNat a && (Nat.beq n 1 && k t)) = true := h
    simp only [Bool.and_eq_true, Nat.beq_eq_true_eq] at h
    obtain ⟨h0, hn, hk⟩ := h
    have h0 := Nat.eq_of_beq_eq_true h0
    have hn := Nat.eq_of_beq_eq_true hn
    obtain ⟨g0, d0⟩ := nc_dr hb
    subst hn
    rw [h0] at g0
    exact ⟨fun _ => ⟨⟨g0, trivial⟩, rfl⟩, by rw [d0]; exact hk⟩
  | [a, b], b0 :: b1 :: t, hb, h =>
    have h : (Nat.beq b0.toNat a && (Nat.beq b1.toNat b && (Nat.beq n 2 && k t))) = true := h
    simp only [Bool.and_eq_true, Nat.beq_eq_true_eq] at h
    obtain ⟨h0, h1, hn, hk⟩ := h
    have h0 := Nat.eq_of_beq_eq_true h0
    have h1 := Nat.eq_of_beq_eq_true h1
    have hn := Nat.eq_of_beq_eq_true hn
    obtain ⟨g0, d0⟩ := nc_dr hb
    obtain ⟨g1, d1⟩ := nc_dr d0
    subst hn
    rw [h0] at g0
    rw [h1] at g1
    exact ⟨fun _ => ⟨⟨g0, g1, trivial⟩, rfl⟩, by rw [show p + 2 = p + 1 + 1 from rfl, d1]; exact hk⟩
  | [a, b, c], b0 :: b1 :: b2 :: t, hb, h =>
    have h : (Nat.beq b0.toNat a && (Nat.beq b1.toNat b && (Nat.beq b2.toNat c && (Nat.beq n 3 && k t)))) = true := h
    simp only [Bool.and_eq_true, Nat.beq_eq_true_eq] at h
    obtain ⟨h0, h1, h2, hn, hk⟩ := h
    have h0 := Nat.eq_of_beq_eq_true h0
    have h1 := Nat.eq_of_beq_eq_true h1
    have h2 := Nat.eq_of_beq_eq_true h2
    have hn := Nat.eq_of_beq_eq_true hn
    obtain ⟨g0, d0⟩ := nc_dr hb
    obtain ⟨g1, d1⟩ := nc_dr d0
    obtain ⟨g2, d2⟩ := nc_dr d1
    subst hn
    rw [h0] at g0
    rw [h1] at g1
    rw [h2] at g2
    exact ⟨fun _ => ⟨⟨g0, g1, g2, trivial⟩, rfl⟩, by rw [show p + 3 = p + 1 + 1 + 1 from rfl, d2]; exact hk⟩
  | [], bs, hb, h =>
    have h : k (bs.drop n) = true := h
    exact ⟨fun z => absurd rfl z, by rw [← List.drop_drop, hb]; exact h⟩
  | _ :: _ :: _ :: _ :: _, _, _, h => cases h
  | [_], [], _, h => cases h
  | [_, _], [], _, h => cases h
  | [_, _], [_], _, h => cases h
  | [_, _, _], [], _, h => cases h
  | [_, _, _], [_], _, h => cases h
  | [_, _, _], [_, _], _, h => cases h
set_option maxRecDepth 100000 in
theorem nc_run {L : List UInt8} : ∀ (r : List (Nat × Instr × Nat)) (p : Nat), nc_ck r p (L.drop p) = true → ∀ x ∈ r, nc_en x.2.1 ≠ [] → decode ⟨⟨L⟩⟩ x.1 = .ok (x.2.1, x.2.2)
  | [], _, _, x, hx, _ => absurd hx List.not_mem_nil
  | y :: r, p, h, x, hx, hn => by
    have h : (Nat.beq y.1 p && nc_st (fun t => nc_ck r (p + y.2.2) t) y.2.2 (nc_en y.2.1) (L.drop p)) = true := h
    simp only [Bool.and_eq_true, Nat.beq_eq_true_eq] at h
    obtain ⟨h1, h2⟩ := h
    have h1 := Nat.eq_of_beq_eq_true h1
    obtain ⟨h3, h4⟩ := nc_sts rfl h2
    rcases List.mem_cons.mp hx with e | e
    · subst e
      obtain ⟨h5, h6⟩ := h3 hn
      rw [h1, h6]
      exact nc_ok _ hn h5
    · exact nc_run r _ h4 x e hn
set_option maxRecDepth 100000 in
theorem nc_all {code : ByteArray} {r : List (Nat × Instr × Nat)} (h : nc_ck r 0 code.data.toList = true) (g : ∀ x ∈ r.filter (fun x => (nc_en x.2.1).isEmpty), decode code x.1 = .ok (x.2.1, x.2.2)) : ∀ x ∈ r, decode code x.1 = .ok (x.2.1, x.2.2) := fun x hx => by
  by_cases z : nc_en x.2.1 = []
  · exact g x (List.mem_filter.mpr ⟨hx, by rw [z]; rfl⟩)
  · have ec : code = ⟨⟨code.data.toList⟩⟩ := rfl
    rw [ec]
    exact nc_run r 0 h x hx z

def pm_i0_0 : List (Nat × Instr × Nat) := [(0, .new 7, 3), (3, .dup, 1), (4, .invokespecial 9, 3), (7, .astore_n 1, 1), (8, .new 10, 3), (11, .dup, 1), (12, .invokespecial 12, 3), (15, .astore_n 2, 1), (16, .iconst 0, 1), (17, .istore_n 3, 1), (18, .iload_n 3, 1), (19, .aload_n 0, 1), (20, .arraylength, 1), (21, .bipush 7, 2), (23, .isub, 1), (24, .if_icmp .gt 2099, 3), (27, .aload_n 0, 1), (28, .iload_n 3, 1), (29, .iaload, 1), (30, .bipush 63, 2), (32, .iand, 1), (33, .tableswitch 2084 0 42 #[187, 250, 273, 306, 329, 362, 405, 448, 481, 544, 587, 630, 713, 766, 809, 842, 895, 938, 981, 1014, 1057, 1090, 1133, 1176, 1229, 1292, 1335, 1378, 1441, 1500, 1543, 1586, 1629, 1662, 1725, 1768, 1811, 1864, 1939, 1972, 2015, 2038, 2061], 187), (220, .aload_n 1, 1), (221, .aload_n 0, 1), (222, .iload_n 3, 1), (223, .iconst 1, 1), (224, .iadd, 1), (225, .iaload, 1), (226, .aload_n 0, 1), (227, .iload_n 3, 1), (228, .iconst 2, 1), (229, .iadd, 1), (230, .iaload, 1), (231, .aload_n 0, 1), (232, .iload_n 3, 1), (233, .iconst 3, 1), (234, .iadd, 1), (235, .iaload, 1), (236, .aload_n 0, 1), (237, .iload_n 3, 1), (238, .iconst 4, 1), (239, .iadd, 1), (240, .iaload, 1), (241, .aload_n 0, 1), (242, .iload_n 3, 1), (243, .iconst 5, 1), (244, .iadd, 1), (245, .iaload, 1), (246, .invokevirtual 13, 3), (249, .pop, 1), (250, .aload_n 2, 1), (251, .aload_n 0, 1), (252, .iload_n 3, 1), (253, .iconst 1, 1), (254, .iadd, 1), (255, .iaload, 1), (256, .aload_n 0, 1), (257, .iload_n 3, 1), (258, .iconst 2, 1), (259, .iadd, 1)]
def pm_i0_1 : List (Nat × Instr × Nat) := [(260, .iaload, 1), (261, .aload_n 0, 1), (262, .iload_n 3, 1), (263, .iconst 3, 1), (264, .iadd, 1), (265, .iaload, 1), (266, .aload_n 0, 1), (267, .iload_n 3, 1), (268, .iconst 4, 1), (269, .iadd, 1), (270, .iaload, 1), (271, .aload_n 0, 1), (272, .iload_n 3, 1), (273, .iconst 5, 1), (274, .iadd, 1), (275, .iaload, 1), (276, .invokevirtual 17, 3), (279, .pop, 1), (280, .goto 1837, 3), (283, .aload_n 1, 1), (284, .aload_n 0, 1), (285, .iload_n 3, 1), (286, .iconst 1, 1), (287, .iadd, 1), (288, .iaload, 1), (289, .invokevirtual 18, 3), (292, .pop, 1), (293, .aload_n 2, 1), (294, .aload_n 0, 1), (295, .iload_n 3, 1), (296, .iconst 1, 1), (297, .iadd, 1), (298, .iaload, 1), (299, .invokevirtual 22, 3), (302, .pop, 1), (303, .goto 1814, 3), (306, .aload_n 1, 1), (307, .aload_n 0, 1), (308, .iload_n 3, 1), (309, .iconst 1, 1), (310, .iadd, 1), (311, .iaload, 1), (312, .aload_n 0, 1), (313, .iload_n 3, 1), (314, .iconst 2, 1), (315, .iadd, 1), (316, .iaload, 1), (317, .invokevirtual 23, 3), (320, .pop, 1), (321, .aload_n 2, 1), (322, .aload_n 0, 1), (323, .iload_n 3, 1), (324, .iconst 1, 1), (325, .iadd, 1), (326, .iaload, 1), (327, .aload_n 0, 1), (328, .iload_n 3, 1), (329, .iconst 2, 1), (330, .iadd, 1), (331, .iaload, 1)]
def pm_i0_2 : List (Nat × Instr × Nat) := [(332, .invokevirtual 27, 3), (335, .pop, 1), (336, .goto 1781, 3), (339, .aload_n 1, 1), (340, .aload_n 0, 1), (341, .iload_n 3, 1), (342, .iconst 1, 1), (343, .iadd, 1), (344, .iaload, 1), (345, .invokevirtual 28, 3), (348, .pop, 1), (349, .aload_n 2, 1), (350, .aload_n 0, 1), (351, .iload_n 3, 1), (352, .iconst 1, 1), (353, .iadd, 1), (354, .iaload, 1), (355, .invokevirtual 31, 3), (358, .pop, 1), (359, .goto 1758, 3), (362, .aload_n 1, 1), (363, .aload_n 0, 1), (364, .iload_n 3, 1), (365, .iconst 1, 1), (366, .iadd, 1), (367, .iaload, 1), (368, .aload_n 0, 1), (369, .iload_n 3, 1), (370, .iconst 2, 1), (371, .iadd, 1), (372, .iaload, 1), (373, .invokevirtual 32, 3), (376, .pop, 1), (377, .aload_n 2, 1), (378, .aload_n 0, 1), (379, .iload_n 3, 1), (380, .iconst 1, 1), (381, .iadd, 1), (382, .iaload, 1), (383, .aload_n 0, 1), (384, .iload_n 3, 1), (385, .iconst 2, 1), (386, .iadd, 1), (387, .iaload, 1), (388, .invokevirtual 35, 3), (391, .pop, 1), (392, .goto 1725, 3), (395, .aload_n 1, 1), (396, .aload_n 0, 1), (397, .iload_n 3, 1), (398, .iconst 1, 1), (399, .iadd, 1), (400, .iaload, 1), (401, .aload_n 0, 1), (402, .iload_n 3, 1), (403, .iconst 2, 1), (404, .iadd, 1), (405, .iaload, 1), (406, .aload_n 0, 1), (407, .iload_n 3, 1)]
def pm_i0_3 : List (Nat × Instr × Nat) := [(408, .iconst 3, 1), (409, .iadd, 1), (410, .iaload, 1), (411, .invokevirtual 36, 3), (414, .aload_n 2, 1), (415, .aload_n 0, 1), (416, .iload_n 3, 1), (417, .iconst 1, 1), (418, .iadd, 1), (419, .iaload, 1), (420, .aload_n 0, 1), (421, .iload_n 3, 1), (422, .iconst 2, 1), (423, .iadd, 1), (424, .iaload, 1), (425, .aload_n 0, 1), (426, .iload_n 3, 1), (427, .iconst 3, 1), (428, .iadd, 1), (429, .iaload, 1), (430, .invokevirtual 40, 3), (433, .if_icmp .eq 1684, 3), (436, .iconst 0, 1), (437, .ireturn, 1), (438, .aload_n 1, 1), (439, .aload_n 0, 1), (440, .iload_n 3, 1), (441, .iconst 1, 1), (442, .iadd, 1), (443, .iaload, 1), (444, .aload_n 0, 1), (445, .iload_n 3, 1), (446, .iconst 2, 1), (447, .iadd, 1), (448, .iaload, 1), (449, .aload_n 0, 1), (450, .iload_n 3, 1), (451, .iconst 3, 1), (452, .iadd, 1), (453, .iaload, 1), (454, .invokevirtual 41, 3), (457, .pop, 1), (458, .aload_n 2, 1), (459, .aload_n 0, 1), (460, .iload_n 3, 1), (461, .iconst 1, 1), (462, .iadd, 1), (463, .iaload, 1), (464, .aload_n 0, 1), (465, .iload_n 3, 1), (466, .iconst 2, 1), (467, .iadd, 1), (468, .iaload, 1), (469, .aload_n 0, 1), (470, .iload_n 3, 1), (471, .iconst 3, 1), (472, .iadd, 1), (473, .iaload, 1), (474, .invokevirtual 44, 3), (477, .pop, 1)]
def pm_i0_4 : List (Nat × Instr × Nat) := [(478, .goto 1639, 3), (481, .aload_n 1, 1), (482, .aload_n 0, 1), (483, .iload_n 3, 1), (484, .iconst 1, 1), (485, .iadd, 1), (486, .iaload, 1), (487, .aload_n 0, 1), (488, .iload_n 3, 1), (489, .iconst 2, 1), (490, .iadd, 1), (491, .iaload, 1), (492, .invokevirtual 45, 3), (495, .pop, 1), (496, .aload_n 2, 1), (497, .aload_n 0, 1), (498, .iload_n 3, 1), (499, .iconst 1, 1), (500, .iadd, 1), (501, .iaload, 1), (502, .aload_n 0, 1), (503, .iload_n 3, 1), (504, .iconst 2, 1), (505, .iadd, 1), (506, .iaload, 1), (507, .invokevirtual 48, 3), (510, .pop, 1), (511, .goto 1606, 3), (514, .aload_n 1, 1), (515, .aload_n 0, 1), (516, .iload_n 3, 1), (517, .iconst 1, 1), (518, .iadd, 1), (519, .iaload, 1), (520, .aload_n 0, 1), (521, .iload_n 3, 1), (522, .iconst 2, 1), (523, .iadd, 1), (524, .iaload, 1), (525, .aload_n 0, 1), (526, .iload_n 3, 1), (527, .iconst 3, 1), (528, .iadd, 1), (529, .iaload, 1), (530, .aload_n 0, 1), (531, .iload_n 3, 1), (532, .iconst 4, 1), (533, .iadd, 1), (534, .iaload, 1), (535, .aload_n 0, 1), (536, .iload_n 3, 1), (537, .iconst 5, 1), (538, .iadd, 1), (539, .iaload, 1), (540, .invokevirtual 49, 3), (543, .pop2, 1), (544, .aload_n 2, 1), (545, .aload_n 0, 1), (546, .iload_n 3, 1), (547, .iconst 1, 1)]
def pm_i0_5 : List (Nat × Instr × Nat) := [(548, .iadd, 1), (549, .iaload, 1), (550, .aload_n 0, 1), (551, .iload_n 3, 1), (552, .iconst 2, 1), (553, .iadd, 1), (554, .iaload, 1), (555, .aload_n 0, 1), (556, .iload_n 3, 1), (557, .iconst 3, 1), (558, .iadd, 1), (559, .iaload, 1), (560, .aload_n 0, 1), (561, .iload_n 3, 1), (562, .iconst 4, 1), (563, .iadd, 1), (564, .iaload, 1), (565, .aload_n 0, 1), (566, .iload_n 3, 1), (567, .iconst 5, 1), (568, .iadd, 1), (569, .iaload, 1), (570, .invokevirtual 53, 3), (573, .pop2, 1), (574, .goto 1543, 3), (577, .aload_n 1, 1), (578, .aload_n 0, 1), (579, .iload_n 3, 1), (580, .iconst 1, 1), (581, .iadd, 1), (582, .iaload, 1), (583, .aload_n 0, 1), (584, .iload_n 3, 1), (585, .iconst 2, 1), (586, .iadd, 1), (587, .iaload, 1), (588, .aload_n 0, 1), (589, .iload_n 3, 1), (590, .iconst 3, 1), (591, .iadd, 1), (592, .iaload, 1), (593, .invokevirtual 54, 3), (596, .pop, 1), (597, .aload_n 2, 1), (598, .aload_n 0, 1), (599, .iload_n 3, 1), (600, .iconst 1, 1), (601, .iadd, 1), (602, .iaload, 1), (603, .aload_n 0, 1), (604, .iload_n 3, 1), (605, .iconst 2, 1), (606, .iadd, 1), (607, .iaload, 1), (608, .aload_n 0, 1), (609, .iload_n 3, 1), (610, .iconst 3, 1), (611, .iadd, 1), (612, .iaload, 1), (613, .invokevirtual 57, 3)]
def pm_i0_6 : List (Nat × Instr × Nat) := [(616, .pop, 1), (617, .goto 1500, 3), (620, .aload_n 1, 1), (621, .aload_n 0, 1), (622, .iload_n 3, 1), (623, .iconst 1, 1), (624, .iadd, 1), (625, .iaload, 1), (626, .aload_n 0, 1), (627, .iload_n 3, 1), (628, .iconst 2, 1), (629, .iadd, 1), (630, .iaload, 1), (631, .aload_n 0, 1), (632, .iload_n 3, 1), (633, .iconst 3, 1), (634, .iadd, 1), (635, .iaload, 1), (636, .invokevirtual 58, 3), (639, .pop2, 1), (640, .aload_n 2, 1), (641, .aload_n 0, 1), (642, .iload_n 3, 1), (643, .iconst 1, 1), (644, .iadd, 1), (645, .iaload, 1), (646, .aload_n 0, 1), (647, .iload_n 3, 1), (648, .iconst 2, 1), (649, .iadd, 1), (650, .iaload, 1), (651, .aload_n 0, 1), (652, .iload_n 3, 1), (653, .iconst 3, 1), (654, .iadd, 1), (655, .iaload, 1), (656, .invokevirtual 62, 3), (659, .pop2, 1), (660, .goto 1457, 3), (663, .aload_n 1, 1), (664, .aload_n 0, 1), (665, .iload_n 3, 1), (666, .iconst 1, 1), (667, .iadd, 1), (668, .iaload, 1), (669, .aload_n 0, 1), (670, .iload_n 3, 1), (671, .iconst 2, 1), (672, .iadd, 1), (673, .iaload, 1), (674, .aload_n 0, 1), (675, .iload_n 3, 1), (676, .iconst 3, 1), (677, .iadd, 1), (678, .iaload, 1), (679, .i2l, 1), (680, .bipush 32, 2), (682, .lshl, 1), (683, .aload_n 0, 1), (684, .iload_n 3, 1)]
def pm_i0_7 : List (Nat × Instr × Nat) := [(685, .iconst 4, 1), (686, .iadd, 1), (687, .iaload, 1), (688, .i2l, 1), (689, .ldc2_w 63, 3), (692, .land, 1), (693, .lor, 1), (694, .aload_n 0, 1), (695, .iload_n 3, 1), (696, .iconst 5, 1), (697, .iadd, 1), (698, .iaload, 1), (699, .invokevirtual 65, 3), (702, .pop, 1), (703, .aload_n 2, 1), (704, .aload_n 0, 1), (705, .iload_n 3, 1), (706, .iconst 1, 1), (707, .iadd, 1), (708, .iaload, 1), (709, .aload_n 0, 1), (710, .iload_n 3, 1), (711, .iconst 2, 1), (712, .iadd, 1), (713, .iaload, 1), (714, .aload_n 0, 1), (715, .iload_n 3, 1), (716, .iconst 3, 1), (717, .iadd, 1), (718, .iaload, 1), (719, .i2l, 1), (720, .bipush 32, 2), (722, .lshl, 1), (723, .aload_n 0, 1), (724, .iload_n 3, 1), (725, .iconst 4, 1), (726, .iadd, 1), (727, .iaload, 1), (728, .i2l, 1), (729, .ldc2_w 63, 3), (732, .land, 1), (733, .lor, 1), (734, .aload_n 0, 1), (735, .iload_n 3, 1), (736, .iconst 5, 1), (737, .iadd, 1), (738, .iaload, 1), (739, .invokevirtual 69, 3), (742, .pop, 1), (743, .goto 1374, 3), (746, .aload_n 1, 1), (747, .aload_n 0, 1), (748, .iload_n 3, 1), (749, .iconst 1, 1), (750, .iadd, 1), (751, .iaload, 1), (752, .aload_n 0, 1), (753, .iload_n 3, 1), (754, .iconst 2, 1), (755, .iadd, 1)]
def pm_i0_8 : List (Nat × Instr × Nat) := [(756, .iaload, 1), (757, .aload_n 0, 1), (758, .iload_n 3, 1), (759, .iconst 3, 1), (760, .iadd, 1), (761, .iaload, 1), (762, .aload_n 0, 1), (763, .iload_n 3, 1), (764, .iconst 4, 1), (765, .iadd, 1), (766, .iaload, 1), (767, .invokevirtual 70, 3), (770, .pop, 1), (771, .aload_n 2, 1), (772, .aload_n 0, 1), (773, .iload_n 3, 1), (774, .iconst 1, 1), (775, .iadd, 1), (776, .iaload, 1), (777, .aload_n 0, 1), (778, .iload_n 3, 1), (779, .iconst 2, 1), (780, .iadd, 1), (781, .iaload, 1), (782, .aload_n 0, 1), (783, .iload_n 3, 1), (784, .iconst 3, 1), (785, .iadd, 1), (786, .iaload, 1), (787, .aload_n 0, 1), (788, .iload_n 3, 1), (789, .iconst 4, 1), (790, .iadd, 1), (791, .iaload, 1), (792, .invokevirtual 74, 3), (795, .pop, 1), (796, .goto 1321, 3), (799, .aload_n 1, 1), (800, .aload_n 0, 1), (801, .iload_n 3, 1), (802, .iconst 1, 1), (803, .iadd, 1), (804, .iaload, 1), (805, .aload_n 0, 1), (806, .iload_n 3, 1), (807, .iconst 2, 1), (808, .iadd, 1), (809, .iaload, 1), (810, .aload_n 0, 1), (811, .iload_n 3, 1), (812, .iconst 3, 1), (813, .iadd, 1), (814, .iaload, 1), (815, .invokevirtual 75, 3), (818, .pop2, 1), (819, .aload_n 2, 1), (820, .aload_n 0, 1), (821, .iload_n 3, 1), (822, .iconst 1, 1), (823, .iadd, 1)]
def pm_i0_9 : List (Nat × Instr × Nat) := [(824, .iaload, 1), (825, .aload_n 0, 1), (826, .iload_n 3, 1), (827, .iconst 2, 1), (828, .iadd, 1), (829, .iaload, 1), (830, .aload_n 0, 1), (831, .iload_n 3, 1), (832, .iconst 3, 1), (833, .iadd, 1), (834, .iaload, 1), (835, .invokevirtual 78, 3), (838, .pop2, 1), (839, .goto 1278, 3), (842, .aload_n 1, 1), (843, .aload_n 0, 1), (844, .iload_n 3, 1), (845, .iconst 1, 1), (846, .iadd, 1), (847, .iaload, 1), (848, .aload_n 0, 1), (849, .iload_n 3, 1), (850, .iconst 2, 1), (851, .iadd, 1), (852, .iaload, 1), (853, .invokevirtual 79, 3), (856, .pop, 1), (857, .aload_n 2, 1), (858, .aload_n 0, 1), (859, .iload_n 3, 1), (860, .iconst 1, 1), (861, .iadd, 1), (862, .iaload, 1), (863, .aload_n 0, 1), (864, .iload_n 3, 1), (865, .iconst 2, 1), (866, .iadd, 1), (867, .iaload, 1), (868, .invokevirtual 82, 3), (871, .pop, 1), (872, .goto 1245, 3), (875, .aload_n 1, 1), (876, .aload_n 0, 1), (877, .iload_n 3, 1), (878, .iconst 1, 1), (879, .iadd, 1), (880, .iaload, 1), (881, .aload_n 0, 1), (882, .iload_n 3, 1), (883, .iconst 2, 1), (884, .iadd, 1), (885, .iaload, 1), (886, .aload_n 0, 1), (887, .iload_n 3, 1), (888, .iconst 3, 1), (889, .iadd, 1), (890, .iaload, 1), (891, .aload_n 0, 1), (892, .iload_n 3, 1), (893, .iconst 4, 1)]
def pm_i0_10 : List (Nat × Instr × Nat) := [(894, .iadd, 1), (895, .iaload, 1), (896, .invokevirtual 83, 3), (899, .pop, 1), (900, .aload_n 2, 1), (901, .aload_n 0, 1), (902, .iload_n 3, 1), (903, .iconst 1, 1), (904, .iadd, 1), (905, .iaload, 1), (906, .aload_n 0, 1), (907, .iload_n 3, 1), (908, .iconst 2, 1), (909, .iadd, 1), (910, .iaload, 1), (911, .aload_n 0, 1), (912, .iload_n 3, 1), (913, .iconst 3, 1), (914, .iadd, 1), (915, .iaload, 1), (916, .aload_n 0, 1), (917, .iload_n 3, 1), (918, .iconst 4, 1), (919, .iadd, 1), (920, .iaload, 1), (921, .invokevirtual 86, 3), (924, .pop, 1), (925, .goto 1192, 3), (928, .aload_n 1, 1), (929, .aload_n 0, 1), (930, .iload_n 3, 1), (931, .iconst 1, 1), (932, .iadd, 1), (933, .iaload, 1), (934, .aload_n 0, 1), (935, .iload_n 3, 1), (936, .iconst 2, 1), (937, .iadd, 1), (938, .iaload, 1), (939, .aload_n 0, 1), (940, .iload_n 3, 1), (941, .iconst 3, 1), (942, .iadd, 1), (943, .iaload, 1), (944, .invokevirtual 87, 3), (947, .pop, 1), (948, .aload_n 2, 1), (949, .aload_n 0, 1), (950, .iload_n 3, 1), (951, .iconst 1, 1), (952, .iadd, 1), (953, .iaload, 1), (954, .aload_n 0, 1), (955, .iload_n 3, 1), (956, .iconst 2, 1), (957, .iadd, 1), (958, .iaload, 1), (959, .aload_n 0, 1), (960, .iload_n 3, 1), (961, .iconst 3, 1)]
def pm_i0_11 : List (Nat × Instr × Nat) := [(962, .iadd, 1), (963, .iaload, 1), (964, .invokevirtual 90, 3), (967, .pop, 1), (968, .goto 1149, 3), (971, .aload_n 1, 1), (972, .aload_n 0, 1), (973, .iload_n 3, 1), (974, .iconst 1, 1), (975, .iadd, 1), (976, .iaload, 1), (977, .aload_n 0, 1), (978, .iload_n 3, 1), (979, .iconst 2, 1), (980, .iadd, 1), (981, .iaload, 1), (982, .aload_n 0, 1), (983, .iload_n 3, 1), (984, .iconst 3, 1), (985, .iadd, 1), (986, .iaload, 1), (987, .invokevirtual 91, 3), (990, .pop, 1), (991, .aload_n 2, 1), (992, .aload_n 0, 1), (993, .iload_n 3, 1), (994, .iconst 1, 1), (995, .iadd, 1), (996, .iaload, 1), (997, .aload_n 0, 1), (998, .iload_n 3, 1), (999, .iconst 2, 1), (1000, .iadd, 1), (1001, .iaload, 1), (1002, .aload_n 0, 1), (1003, .iload_n 3, 1), (1004, .iconst 3, 1), (1005, .iadd, 1), (1006, .iaload, 1), (1007, .invokevirtual 94, 3), (1010, .pop, 1), (1011, .goto 1106, 3), (1014, .aload_n 1, 1), (1015, .aload_n 0, 1), (1016, .iload_n 3, 1), (1017, .iconst 1, 1), (1018, .iadd, 1), (1019, .iaload, 1), (1020, .aload_n 0, 1), (1021, .iload_n 3, 1), (1022, .iconst 2, 1), (1023, .iadd, 1), (1024, .iaload, 1), (1025, .invokevirtual 95, 3), (1028, .pop, 1), (1029, .aload_n 2, 1), (1030, .aload_n 0, 1), (1031, .iload_n 3, 1), (1032, .iconst 1, 1), (1033, .iadd, 1)]
def pm_i0_12 : List (Nat × Instr × Nat) := [(1034, .iaload, 1), (1035, .aload_n 0, 1), (1036, .iload_n 3, 1), (1037, .iconst 2, 1), (1038, .iadd, 1), (1039, .iaload, 1), (1040, .invokevirtual 98, 3), (1043, .pop, 1), (1044, .goto 1073, 3), (1047, .aload_n 1, 1), (1048, .aload_n 0, 1), (1049, .iload_n 3, 1), (1050, .iconst 1, 1), (1051, .iadd, 1), (1052, .iaload, 1), (1053, .aload_n 0, 1), (1054, .iload_n 3, 1), (1055, .iconst 2, 1), (1056, .iadd, 1), (1057, .iaload, 1), (1058, .aload_n 0, 1), (1059, .iload_n 3, 1), (1060, .iconst 3, 1), (1061, .iadd, 1), (1062, .iaload, 1), (1063, .invokevirtual 99, 3), (1066, .pop, 1), (1067, .aload_n 2, 1), (1068, .aload_n 0, 1), (1069, .iload_n 3, 1), (1070, .iconst 1, 1), (1071, .iadd, 1), (1072, .iaload, 1), (1073, .aload_n 0, 1), (1074, .iload_n 3, 1), (1075, .iconst 2, 1), (1076, .iadd, 1), (1077, .iaload, 1), (1078, .aload_n 0, 1), (1079, .iload_n 3, 1), (1080, .iconst 3, 1), (1081, .iadd, 1), (1082, .iaload, 1), (1083, .invokevirtual 102, 3), (1086, .pop, 1), (1087, .goto 1030, 3), (1090, .aload_n 1, 1), (1091, .aload_n 0, 1), (1092, .iload_n 3, 1), (1093, .iconst 1, 1), (1094, .iadd, 1), (1095, .iaload, 1), (1096, .aload_n 0, 1), (1097, .iload_n 3, 1), (1098, .iconst 2, 1), (1099, .iadd, 1), (1100, .iaload, 1), (1101, .invokevirtual 103, 3), (1104, .pop, 1), (1105, .aload_n 2, 1)]
def pm_i0_13 : List (Nat × Instr × Nat) := [(1106, .aload_n 0, 1), (1107, .iload_n 3, 1), (1108, .iconst 1, 1), (1109, .iadd, 1), (1110, .iaload, 1), (1111, .aload_n 0, 1), (1112, .iload_n 3, 1), (1113, .iconst 2, 1), (1114, .iadd, 1), (1115, .iaload, 1), (1116, .invokevirtual 106, 3), (1119, .pop, 1), (1120, .goto 997, 3), (1123, .aload_n 1, 1), (1124, .aload_n 0, 1), (1125, .iload_n 3, 1), (1126, .iconst 1, 1), (1127, .iadd, 1), (1128, .iaload, 1), (1129, .aload_n 0, 1), (1130, .iload_n 3, 1), (1131, .iconst 2, 1), (1132, .iadd, 1), (1133, .iaload, 1), (1134, .aload_n 0, 1), (1135, .iload_n 3, 1), (1136, .iconst 3, 1), (1137, .iadd, 1), (1138, .iaload, 1), (1139, .invokevirtual 107, 3), (1142, .pop, 1), (1143, .aload_n 2, 1), (1144, .aload_n 0, 1), (1145, .iload_n 3, 1), (1146, .iconst 1, 1), (1147, .iadd, 1), (1148, .iaload, 1), (1149, .aload_n 0, 1), (1150, .iload_n 3, 1), (1151, .iconst 2, 1), (1152, .iadd, 1), (1153, .iaload, 1), (1154, .aload_n 0, 1), (1155, .iload_n 3, 1), (1156, .iconst 3, 1), (1157, .iadd, 1), (1158, .iaload, 1), (1159, .invokevirtual 110, 3), (1162, .pop, 1), (1163, .goto 954, 3), (1166, .aload_n 1, 1), (1167, .aload_n 0, 1), (1168, .iload_n 3, 1), (1169, .iconst 1, 1), (1170, .iadd, 1), (1171, .iaload, 1), (1172, .aload_n 0, 1), (1173, .iload_n 3, 1), (1174, .iconst 2, 1), (1175, .iadd, 1)]
def pm_i0_14 : List (Nat × Instr × Nat) := [(1176, .iaload, 1), (1177, .aload_n 0, 1), (1178, .iload_n 3, 1), (1179, .iconst 3, 1), (1180, .iadd, 1), (1181, .iaload, 1), (1182, .invokevirtual 111, 3), (1185, .pop, 1), (1186, .aload_n 2, 1), (1187, .aload_n 0, 1), (1188, .iload_n 3, 1), (1189, .iconst 1, 1), (1190, .iadd, 1), (1191, .iaload, 1), (1192, .aload_n 0, 1), (1193, .iload_n 3, 1), (1194, .iconst 2, 1), (1195, .iadd, 1), (1196, .iaload, 1), (1197, .aload_n 0, 1), (1198, .iload_n 3, 1), (1199, .iconst 3, 1), (1200, .iadd, 1), (1201, .iaload, 1), (1202, .invokevirtual 114, 3), (1205, .pop, 1), (1206, .goto 911, 3), (1209, .aload_n 1, 1), (1210, .aload_n 0, 1), (1211, .iload_n 3, 1), (1212, .iconst 1, 1), (1213, .iadd, 1), (1214, .iaload, 1), (1215, .aload_n 0, 1), (1216, .iload_n 3, 1), (1217, .iconst 2, 1), (1218, .iadd, 1), (1219, .iaload, 1), (1220, .aload_n 0, 1), (1221, .iload_n 3, 1), (1222, .iconst 3, 1), (1223, .iadd, 1), (1224, .iaload, 1), (1225, .aload_n 0, 1), (1226, .iload_n 3, 1), (1227, .iconst 4, 1), (1228, .iadd, 1), (1229, .iaload, 1), (1230, .invokevirtual 115, 3), (1233, .pop, 1), (1234, .aload_n 2, 1), (1235, .aload_n 0, 1), (1236, .iload_n 3, 1), (1237, .iconst 1, 1), (1238, .iadd, 1), (1239, .iaload, 1), (1240, .aload_n 0, 1), (1241, .iload_n 3, 1), (1242, .iconst 2, 1), (1243, .iadd, 1)]
def pm_i0_15 : List (Nat × Instr × Nat) := [(1244, .iaload, 1), (1245, .aload_n 0, 1), (1246, .iload_n 3, 1), (1247, .iconst 3, 1), (1248, .iadd, 1), (1249, .iaload, 1), (1250, .aload_n 0, 1), (1251, .iload_n 3, 1), (1252, .iconst 4, 1), (1253, .iadd, 1), (1254, .iaload, 1), (1255, .invokevirtual 118, 3), (1258, .pop, 1), (1259, .goto 858, 3), (1262, .aload_n 1, 1), (1263, .aload_n 0, 1), (1264, .iload_n 3, 1), (1265, .iconst 1, 1), (1266, .iadd, 1), (1267, .iaload, 1), (1268, .aload_n 0, 1), (1269, .iload_n 3, 1), (1270, .iconst 2, 1), (1271, .iadd, 1), (1272, .iaload, 1), (1273, .aload_n 0, 1), (1274, .iload_n 3, 1), (1275, .iconst 3, 1), (1276, .iadd, 1), (1277, .iaload, 1), (1278, .aload_n 0, 1), (1279, .iload_n 3, 1), (1280, .iconst 4, 1), (1281, .iadd, 1), (1282, .iaload, 1), (1283, .aload_n 0, 1), (1284, .iload_n 3, 1), (1285, .iconst 5, 1), (1286, .iadd, 1), (1287, .iaload, 1), (1288, .invokevirtual 119, 3), (1291, .pop, 1), (1292, .aload_n 2, 1), (1293, .aload_n 0, 1), (1294, .iload_n 3, 1), (1295, .iconst 1, 1), (1296, .iadd, 1), (1297, .iaload, 1), (1298, .aload_n 0, 1), (1299, .iload_n 3, 1), (1300, .iconst 2, 1), (1301, .iadd, 1), (1302, .iaload, 1), (1303, .aload_n 0, 1), (1304, .iload_n 3, 1), (1305, .iconst 3, 1), (1306, .iadd, 1), (1307, .iaload, 1), (1308, .aload_n 0, 1), (1309, .iload_n 3, 1)]
def pm_i0_16 : List (Nat × Instr × Nat) := [(1310, .iconst 4, 1), (1311, .iadd, 1), (1312, .iaload, 1), (1313, .aload_n 0, 1), (1314, .iload_n 3, 1), (1315, .iconst 5, 1), (1316, .iadd, 1), (1317, .iaload, 1), (1318, .invokevirtual 122, 3), (1321, .pop, 1), (1322, .goto 795, 3), (1325, .aload_n 1, 1), (1326, .aload_n 0, 1), (1327, .iload_n 3, 1), (1328, .iconst 1, 1), (1329, .iadd, 1), (1330, .iaload, 1), (1331, .aload_n 0, 1), (1332, .iload_n 3, 1), (1333, .iconst 2, 1), (1334, .iadd, 1), (1335, .iaload, 1), (1336, .aload_n 0, 1), (1337, .iload_n 3, 1), (1338, .iconst 3, 1), (1339, .iadd, 1), (1340, .iaload, 1), (1341, .invokevirtual 123, 3), (1344, .pop, 1), (1345, .aload_n 2, 1), (1346, .aload_n 0, 1), (1347, .iload_n 3, 1), (1348, .iconst 1, 1), (1349, .iadd, 1), (1350, .iaload, 1), (1351, .aload_n 0, 1), (1352, .iload_n 3, 1), (1353, .iconst 2, 1), (1354, .iadd, 1), (1355, .iaload, 1), (1356, .aload_n 0, 1), (1357, .iload_n 3, 1), (1358, .iconst 3, 1), (1359, .iadd, 1), (1360, .iaload, 1), (1361, .invokevirtual 126, 3), (1364, .pop, 1), (1365, .goto 752, 3), (1368, .aload_n 1, 1), (1369, .aload_n 0, 1), (1370, .iload_n 3, 1), (1371, .iconst 1, 1), (1372, .iadd, 1), (1373, .iaload, 1), (1374, .aload_n 0, 1), (1375, .iload_n 3, 1), (1376, .iconst 2, 1), (1377, .iadd, 1), (1378, .iaload, 1), (1379, .aload_n 0, 1)]
def pm_i0_17 : List (Nat × Instr × Nat) := [(1380, .iload_n 3, 1), (1381, .iconst 3, 1), (1382, .iadd, 1), (1383, .iaload, 1), (1384, .invokevirtual 127, 3), (1387, .pop, 1), (1388, .aload_n 2, 1), (1389, .aload_n 0, 1), (1390, .iload_n 3, 1), (1391, .iconst 1, 1), (1392, .iadd, 1), (1393, .iaload, 1), (1394, .aload_n 0, 1), (1395, .iload_n 3, 1), (1396, .iconst 2, 1), (1397, .iadd, 1), (1398, .iaload, 1), (1399, .aload_n 0, 1), (1400, .iload_n 3, 1), (1401, .iconst 3, 1), (1402, .iadd, 1), (1403, .iaload, 1), (1404, .invokevirtual 130, 3), (1407, .pop, 1), (1408, .goto 709, 3), (1411, .aload_n 1, 1), (1412, .aload_n 0, 1), (1413, .iload_n 3, 1), (1414, .iconst 1, 1), (1415, .iadd, 1), (1416, .iaload, 1), (1417, .aload_n 0, 1), (1418, .iload_n 3, 1), (1419, .iconst 2, 1), (1420, .iadd, 1), (1421, .iaload, 1), (1422, .aload_n 0, 1), (1423, .iload_n 3, 1), (1424, .iconst 3, 1), (1425, .iadd, 1), (1426, .iaload, 1), (1427, .aload_n 0, 1), (1428, .iload_n 3, 1), (1429, .iconst 4, 1), (1430, .iadd, 1), (1431, .iaload, 1), (1432, .aload_n 0, 1), (1433, .iload_n 3, 1), (1434, .iconst 5, 1), (1435, .iadd, 1), (1436, .iaload, 1), (1437, .invokevirtual 131, 3), (1440, .pop, 1), (1441, .aload_n 2, 1), (1442, .aload_n 0, 1), (1443, .iload_n 3, 1), (1444, .iconst 1, 1), (1445, .iadd, 1), (1446, .iaload, 1), (1447, .aload_n 0, 1)]
def pm_i0_18 : List (Nat × Instr × Nat) := [(1448, .iload_n 3, 1), (1449, .iconst 2, 1), (1450, .iadd, 1), (1451, .iaload, 1), (1452, .aload_n 0, 1), (1453, .iload_n 3, 1), (1454, .iconst 3, 1), (1455, .iadd, 1), (1456, .iaload, 1), (1457, .aload_n 0, 1), (1458, .iload_n 3, 1), (1459, .iconst 4, 1), (1460, .iadd, 1), (1461, .iaload, 1), (1462, .aload_n 0, 1), (1463, .iload_n 3, 1), (1464, .iconst 5, 1), (1465, .iadd, 1), (1466, .iaload, 1), (1467, .invokevirtual 135, 3), (1470, .pop, 1), (1471, .goto 646, 3), (1474, .aload_n 1, 1), (1475, .aload_n 0, 1), (1476, .iload_n 3, 1), (1477, .iconst 1, 1), (1478, .iadd, 1), (1479, .iaload, 1), (1480, .aload_n 0, 1), (1481, .iload_n 3, 1), (1482, .iconst 2, 1), (1483, .iadd, 1), (1484, .iaload, 1), (1485, .aload_n 0, 1), (1486, .iload_n 3, 1), (1487, .iconst 3, 1), (1488, .iadd, 1), (1489, .iaload, 1), (1490, .ifCond .eq 7, 3), (1493, .iconst 1, 1), (1494, .goto 4, 3), (1497, .iconst 0, 1), (1498, .invokevirtual 136, 3), (1501, .pop, 1), (1502, .aload_n 2, 1), (1503, .aload_n 0, 1), (1504, .iload_n 3, 1), (1505, .iconst 1, 1), (1506, .iadd, 1), (1507, .iaload, 1), (1508, .aload_n 0, 1), (1509, .iload_n 3, 1), (1510, .iconst 2, 1), (1511, .iadd, 1), (1512, .iaload, 1), (1513, .aload_n 0, 1), (1514, .iload_n 3, 1), (1515, .iconst 3, 1), (1516, .iadd, 1), (1517, .iaload, 1)]
def pm_i0_19 : List (Nat × Instr × Nat) := [(1518, .ifCond .eq 7, 3), (1521, .iconst 1, 1), (1522, .goto 4, 3), (1525, .iconst 0, 1), (1526, .invokevirtual 140, 3), (1529, .pop, 1), (1530, .goto 587, 3), (1533, .aload_n 1, 1), (1534, .aload_n 0, 1), (1535, .iload_n 3, 1), (1536, .iconst 1, 1), (1537, .iadd, 1), (1538, .iaload, 1), (1539, .aload_n 0, 1), (1540, .iload_n 3, 1), (1541, .iconst 2, 1), (1542, .iadd, 1), (1543, .iaload, 1), (1544, .aload_n 0, 1), (1545, .iload_n 3, 1), (1546, .iconst 3, 1), (1547, .iadd, 1), (1548, .iaload, 1), (1549, .invokevirtual 141, 3), (1552, .pop, 1), (1553, .aload_n 2, 1), (1554, .aload_n 0, 1), (1555, .iload_n 3, 1), (1556, .iconst 1, 1), (1557, .iadd, 1), (1558, .iaload, 1), (1559, .aload_n 0, 1), (1560, .iload_n 3, 1), (1561, .iconst 2, 1), (1562, .iadd, 1), (1563, .iaload, 1), (1564, .aload_n 0, 1), (1565, .iload_n 3, 1), (1566, .iconst 3, 1), (1567, .iadd, 1), (1568, .iaload, 1), (1569, .invokevirtual 144, 3), (1572, .pop, 1), (1573, .goto 544, 3), (1576, .aload_n 1, 1), (1577, .aload_n 0, 1), (1578, .iload_n 3, 1), (1579, .iconst 1, 1), (1580, .iadd, 1), (1581, .iaload, 1), (1582, .aload_n 0, 1), (1583, .iload_n 3, 1), (1584, .iconst 2, 1), (1585, .iadd, 1), (1586, .iaload, 1), (1587, .aload_n 0, 1), (1588, .iload_n 3, 1), (1589, .iconst 3, 1), (1590, .iadd, 1), (1591, .iaload, 1)]
def pm_i0_20 : List (Nat × Instr × Nat) := [(1592, .invokevirtual 145, 3), (1595, .pop, 1), (1596, .aload_n 2, 1), (1597, .aload_n 0, 1), (1598, .iload_n 3, 1), (1599, .iconst 1, 1), (1600, .iadd, 1), (1601, .iaload, 1), (1602, .aload_n 0, 1), (1603, .iload_n 3, 1), (1604, .iconst 2, 1), (1605, .iadd, 1), (1606, .iaload, 1), (1607, .aload_n 0, 1), (1608, .iload_n 3, 1), (1609, .iconst 3, 1), (1610, .iadd, 1), (1611, .iaload, 1), (1612, .invokevirtual 148, 3), (1615, .pop, 1), (1616, .goto 501, 3), (1619, .aload_n 1, 1), (1620, .aload_n 0, 1), (1621, .iload_n 3, 1), (1622, .iconst 1, 1), (1623, .iadd, 1), (1624, .iaload, 1), (1625, .aload_n 0, 1), (1626, .iload_n 3, 1), (1627, .iconst 2, 1), (1628, .iadd, 1), (1629, .iaload, 1), (1630, .aload_n 0, 1), (1631, .iload_n 3, 1), (1632, .iconst 3, 1), (1633, .iadd, 1), (1634, .iaload, 1), (1635, .invokevirtual 149, 3), (1638, .pop, 1), (1639, .aload_n 2, 1), (1640, .aload_n 0, 1), (1641, .iload_n 3, 1), (1642, .iconst 1, 1), (1643, .iadd, 1), (1644, .iaload, 1), (1645, .aload_n 0, 1), (1646, .iload_n 3, 1), (1647, .iconst 2, 1), (1648, .iadd, 1), (1649, .iaload, 1), (1650, .aload_n 0, 1), (1651, .iload_n 3, 1), (1652, .iconst 3, 1), (1653, .iadd, 1), (1654, .iaload, 1), (1655, .invokevirtual 152, 3), (1658, .pop, 1), (1659, .goto 458, 3), (1662, .aload_n 1, 1), (1663, .aload_n 0, 1)]
def pm_i0_21 : List (Nat × Instr × Nat) := [(1664, .iload_n 3, 1), (1665, .iconst 1, 1), (1666, .iadd, 1), (1667, .iaload, 1), (1668, .aload_n 0, 1), (1669, .iload_n 3, 1), (1670, .iconst 2, 1), (1671, .iadd, 1), (1672, .iaload, 1), (1673, .invokevirtual 153, 3), (1676, .pop, 1), (1677, .aload_n 2, 1), (1678, .aload_n 0, 1), (1679, .iload_n 3, 1), (1680, .iconst 1, 1), (1681, .iadd, 1), (1682, .iaload, 1), (1683, .aload_n 0, 1), (1684, .iload_n 3, 1), (1685, .iconst 2, 1), (1686, .iadd, 1), (1687, .iaload, 1), (1688, .invokevirtual 156, 3), (1691, .pop, 1), (1692, .goto 425, 3), (1695, .aload_n 1, 1), (1696, .aload_n 0, 1), (1697, .iload_n 3, 1), (1698, .iconst 1, 1), (1699, .iadd, 1), (1700, .iaload, 1), (1701, .aload_n 0, 1), (1702, .iload_n 3, 1), (1703, .iconst 2, 1), (1704, .iadd, 1), (1705, .iaload, 1), (1706, .aload_n 0, 1), (1707, .iload_n 3, 1), (1708, .iconst 3, 1), (1709, .iadd, 1), (1710, .iaload, 1), (1711, .aload_n 0, 1), (1712, .iload_n 3, 1), (1713, .iconst 4, 1), (1714, .iadd, 1), (1715, .iaload, 1), (1716, .aload_n 0, 1), (1717, .iload_n 3, 1), (1718, .iconst 5, 1), (1719, .iadd, 1), (1720, .iaload, 1), (1721, .invokevirtual 157, 3), (1724, .pop, 1), (1725, .aload_n 2, 1), (1726, .aload_n 0, 1), (1727, .iload_n 3, 1), (1728, .iconst 1, 1), (1729, .iadd, 1), (1730, .iaload, 1), (1731, .aload_n 0, 1)]
def pm_i0_22 : List (Nat × Instr × Nat) := [(1732, .iload_n 3, 1), (1733, .iconst 2, 1), (1734, .iadd, 1), (1735, .iaload, 1), (1736, .aload_n 0, 1), (1737, .iload_n 3, 1), (1738, .iconst 3, 1), (1739, .iadd, 1), (1740, .iaload, 1), (1741, .aload_n 0, 1), (1742, .iload_n 3, 1), (1743, .iconst 4, 1), (1744, .iadd, 1), (1745, .iaload, 1), (1746, .aload_n 0, 1), (1747, .iload_n 3, 1), (1748, .iconst 5, 1), (1749, .iadd, 1), (1750, .iaload, 1), (1751, .invokevirtual 160, 3), (1754, .pop, 1), (1755, .goto 362, 3), (1758, .aload_n 1, 1), (1759, .aload_n 0, 1), (1760, .iload_n 3, 1), (1761, .iconst 1, 1), (1762, .iadd, 1), (1763, .iaload, 1), (1764, .aload_n 0, 1), (1765, .iload_n 3, 1), (1766, .iconst 2, 1), (1767, .iadd, 1), (1768, .iaload, 1), (1769, .aload_n 0, 1), (1770, .iload_n 3, 1), (1771, .iconst 3, 1), (1772, .iadd, 1), (1773, .iaload, 1), (1774, .invokevirtual 161, 3), (1777, .pop2, 1), (1778, .aload_n 2, 1), (1779, .aload_n 0, 1), (1780, .iload_n 3, 1), (1781, .iconst 1, 1), (1782, .iadd, 1), (1783, .iaload, 1), (1784, .aload_n 0, 1), (1785, .iload_n 3, 1), (1786, .iconst 2, 1), (1787, .iadd, 1), (1788, .iaload, 1), (1789, .aload_n 0, 1), (1790, .iload_n 3, 1), (1791, .iconst 3, 1), (1792, .iadd, 1), (1793, .iaload, 1), (1794, .invokevirtual 164, 3), (1797, .pop2, 1), (1798, .goto 319, 3), (1801, .aload_n 1, 1)]
def pm_i0_23 : List (Nat × Instr × Nat) := [(1802, .aload_n 0, 1), (1803, .iload_n 3, 1), (1804, .iconst 1, 1), (1805, .iadd, 1), (1806, .iaload, 1), (1807, .aload_n 0, 1), (1808, .iload_n 3, 1), (1809, .iconst 2, 1), (1810, .iadd, 1), (1811, .iaload, 1), (1812, .aload_n 0, 1), (1813, .iload_n 3, 1), (1814, .iconst 3, 1), (1815, .iadd, 1), (1816, .iaload, 1), (1817, .invokevirtual 165, 3), (1820, .pop, 1), (1821, .aload_n 2, 1), (1822, .aload_n 0, 1), (1823, .iload_n 3, 1), (1824, .iconst 1, 1), (1825, .iadd, 1), (1826, .iaload, 1), (1827, .aload_n 0, 1), (1828, .iload_n 3, 1), (1829, .iconst 2, 1), (1830, .iadd, 1), (1831, .iaload, 1), (1832, .aload_n 0, 1), (1833, .iload_n 3, 1), (1834, .iconst 3, 1), (1835, .iadd, 1), (1836, .iaload, 1), (1837, .invokevirtual 168, 3), (1840, .pop, 1), (1841, .goto 276, 3), (1844, .aload_n 1, 1), (1845, .aload_n 0, 1), (1846, .iload_n 3, 1), (1847, .iconst 1, 1), (1848, .iadd, 1), (1849, .iaload, 1), (1850, .aload_n 0, 1), (1851, .iload_n 3, 1), (1852, .iconst 2, 1), (1853, .iadd, 1), (1854, .iaload, 1), (1855, .aload_n 0, 1), (1856, .iload_n 3, 1), (1857, .iconst 3, 1), (1858, .iadd, 1), (1859, .iaload, 1), (1860, .aload_n 0, 1), (1861, .iload_n 3, 1), (1862, .iconst 4, 1), (1863, .iadd, 1), (1864, .iaload, 1), (1865, .invokevirtual 169, 3), (1868, .pop, 1), (1869, .aload_n 2, 1)]
def pm_i0_24 : List (Nat × Instr × Nat) := [(1870, .aload_n 0, 1), (1871, .iload_n 3, 1), (1872, .iconst 1, 1), (1873, .iadd, 1), (1874, .iaload, 1), (1875, .aload_n 0, 1), (1876, .iload_n 3, 1), (1877, .iconst 2, 1), (1878, .iadd, 1), (1879, .iaload, 1), (1880, .aload_n 0, 1), (1881, .iload_n 3, 1), (1882, .iconst 3, 1), (1883, .iadd, 1), (1884, .iaload, 1), (1885, .aload_n 0, 1), (1886, .iload_n 3, 1), (1887, .iconst 4, 1), (1888, .iadd, 1), (1889, .iaload, 1), (1890, .invokevirtual 172, 3), (1893, .pop, 1), (1894, .goto 223, 3), (1897, .aload_n 1, 1), (1898, .aload_n 0, 1), (1899, .iload_n 3, 1), (1900, .iconst 1, 1), (1901, .iadd, 1), (1902, .iaload, 1), (1903, .aload_n 0, 1), (1904, .iload_n 3, 1), (1905, .iconst 2, 1), (1906, .iadd, 1), (1907, .iaload, 1), (1908, .aload_n 0, 1), (1909, .iload_n 3, 1), (1910, .iconst 3, 1), (1911, .iadd, 1), (1912, .iaload, 1), (1913, .aload_n 0, 1), (1914, .iload_n 3, 1), (1915, .iconst 4, 1), (1916, .iadd, 1), (1917, .iaload, 1), (1918, .aload_n 0, 1), (1919, .iload_n 3, 1), (1920, .iconst 5, 1), (1921, .iadd, 1), (1922, .iaload, 1), (1923, .aload_n 0, 1), (1924, .iload_n 3, 1), (1925, .bipush 6, 2), (1927, .iadd, 1), (1928, .iaload, 1), (1929, .invokevirtual 173, 3), (1932, .pop, 1), (1933, .aload_n 2, 1), (1934, .aload_n 0, 1), (1935, .iload_n 3, 1), (1936, .iconst 1, 1)]
def pm_i0_25 : List (Nat × Instr × Nat) := [(1937, .iadd, 1), (1938, .iaload, 1), (1939, .aload_n 0, 1), (1940, .iload_n 3, 1), (1941, .iconst 2, 1), (1942, .iadd, 1), (1943, .iaload, 1), (1944, .aload_n 0, 1), (1945, .iload_n 3, 1), (1946, .iconst 3, 1), (1947, .iadd, 1), (1948, .iaload, 1), (1949, .aload_n 0, 1), (1950, .iload_n 3, 1), (1951, .iconst 4, 1), (1952, .iadd, 1), (1953, .iaload, 1), (1954, .aload_n 0, 1), (1955, .iload_n 3, 1), (1956, .iconst 5, 1), (1957, .iadd, 1), (1958, .iaload, 1), (1959, .aload_n 0, 1), (1960, .iload_n 3, 1), (1961, .bipush 6, 2), (1963, .iadd, 1), (1964, .iaload, 1), (1965, .invokevirtual 177, 3), (1968, .pop, 1), (1969, .goto 148, 3), (1972, .aload_n 1, 1), (1973, .aload_n 0, 1), (1974, .iload_n 3, 1), (1975, .iconst 1, 1), (1976, .iadd, 1), (1977, .iaload, 1), (1978, .aload_n 0, 1), (1979, .iload_n 3, 1), (1980, .iconst 2, 1), (1981, .iadd, 1), (1982, .iaload, 1), (1983, .invokevirtual 178, 3), (1986, .pop, 1), (1987, .aload_n 2, 1), (1988, .aload_n 0, 1), (1989, .iload_n 3, 1), (1990, .iconst 1, 1), (1991, .iadd, 1), (1992, .iaload, 1), (1993, .aload_n 0, 1), (1994, .iload_n 3, 1), (1995, .iconst 2, 1), (1996, .iadd, 1), (1997, .iaload, 1), (1998, .invokevirtual 181, 3), (2001, .pop, 1), (2002, .goto 115, 3), (2005, .aload_n 1, 1), (2006, .aload_n 0, 1), (2007, .iload_n 3, 1)]
def pm_i0_26 : List (Nat × Instr × Nat) := [(2008, .iconst 1, 1), (2009, .iadd, 1), (2010, .iaload, 1), (2011, .aload_n 0, 1), (2012, .iload_n 3, 1), (2013, .iconst 2, 1), (2014, .iadd, 1), (2015, .iaload, 1), (2016, .aload_n 0, 1), (2017, .iload_n 3, 1), (2018, .iconst 3, 1), (2019, .iadd, 1), (2020, .iaload, 1), (2021, .invokevirtual 182, 3), (2024, .pop, 1), (2025, .aload_n 2, 1), (2026, .aload_n 0, 1), (2027, .iload_n 3, 1), (2028, .iconst 1, 1), (2029, .iadd, 1), (2030, .iaload, 1), (2031, .aload_n 0, 1), (2032, .iload_n 3, 1), (2033, .iconst 2, 1), (2034, .iadd, 1), (2035, .iaload, 1), (2036, .aload_n 0, 1), (2037, .iload_n 3, 1), (2038, .iconst 3, 1), (2039, .iadd, 1), (2040, .iaload, 1), (2041, .invokevirtual 185, 3), (2044, .pop, 1), (2045, .goto 72, 3), (2048, .aload_n 1, 1), (2049, .aload_n 0, 1), (2050, .iload_n 3, 1), (2051, .iconst 1, 1), (2052, .iadd, 1), (2053, .iaload, 1), (2054, .invokevirtual 186, 3), (2057, .pop, 1), (2058, .aload_n 2, 1), (2059, .aload_n 0, 1), (2060, .iload_n 3, 1), (2061, .iconst 1, 1), (2062, .iadd, 1), (2063, .iaload, 1), (2064, .invokevirtual 189, 3), (2067, .pop, 1), (2068, .goto 49, 3), (2071, .aload_n 1, 1), (2072, .aload_n 0, 1), (2073, .iload_n 3, 1), (2074, .iconst 1, 1), (2075, .iadd, 1), (2076, .iaload, 1), (2077, .invokevirtual 190, 3), (2080, .pop, 1), (2081, .aload_n 2, 1)]
def pm_i0_27 : List (Nat × Instr × Nat) := [(2082, .aload_n 0, 1), (2083, .iload_n 3, 1), (2084, .iconst 1, 1), (2085, .iadd, 1), (2086, .iaload, 1), (2087, .invokevirtual 194, 3), (2090, .pop, 1), (2091, .goto 26, 3), (2094, .aload_n 1, 1), (2095, .aload_n 0, 1), (2096, .iload_n 3, 1), (2097, .iconst 1, 1), (2098, .iadd, 1), (2099, .iaload, 1), (2100, .invokevirtual 195, 3), (2103, .pop, 1), (2104, .aload_n 2, 1), (2105, .aload_n 0, 1), (2106, .iload_n 3, 1), (2107, .iconst 1, 1), (2108, .iadd, 1), (2109, .iaload, 1), (2110, .invokevirtual 198, 3), (2113, .pop, 1), (2114, .goto 3, 3), (2117, .iinc 3 7, 3), (2120, .goto (-2102), 3), (2123, .iconst 1, 1), (2124, .ireturn, 1)]
def pm_i0 : List (Nat × Instr × Nat) := pm_i0_0 ++ (pm_i0_1 ++ (pm_i0_2 ++ (pm_i0_3 ++ (pm_i0_4 ++ (pm_i0_5 ++ (pm_i0_6 ++ (pm_i0_7 ++ (pm_i0_8 ++ (pm_i0_9 ++ (pm_i0_10 ++ (pm_i0_11 ++ (pm_i0_12 ++ (pm_i0_13 ++ (pm_i0_14 ++ (pm_i0_15 ++ (pm_i0_16 ++ (pm_i0_17 ++ (pm_i0_18 ++ (pm_i0_19 ++ (pm_i0_20 ++ (pm_i0_21 ++ (pm_i0_22 ++ (pm_i0_23 ++ (pm_i0_24 ++ (pm_i0_25 ++ (pm_i0_26 ++ (pm_i0_27)))))))))))))))))))))))))))
set_option maxRecDepth 100000 in
theorem pm_i0_ok : ∀ x ∈ pm_i0, decode code x.1 = .ok (x.2.1, x.2.2) := nc_all (by decide +kernel) (by decide +kernel)
def pm_i1 : List (Nat × Instr × Nat) := [(0, .aload_n 0, 1), (1, .invokespecial 5, 3), (4, .aload_n 0, 1), (5, .new 11, 3), (8, .dup, 1), (9, .invokespecial 13, 3), (12, .putfield 14, 3), (15, .aload_n 0, 1), (16, .iconst 3, 1), (17, .anewarray 11, 3), (20, .putfield 18, 3), (23, .aload_n 0, 1), (24, .new 22, 3), (27, .dup, 1), (28, .aload_n 0, 1), (29, .getfield 14, 3), (32, .getfield 24, 3), (35, .invokespecial 28, 3), (38, .putfield 31, 3), (41, .aload_n 0, 1), (42, .new 35, 3), (45, .dup, 1), (46, .invokespecial 37, 3), (49, .putfield 38, 3), (52, .aload_n 0, 1), (53, .new 42, 3), (56, .dup, 1), (57, .invokespecial 44, 3), (60, .putfield 45, 3), (63, .aload_n 0, 1), (64, .aconst_null, 1), (65, .putfield 49, 3), (68, .aload_n 0, 1), (69, .getstatic 53, 3), (72, .iconst 0, 1), (73, .iaload, 1), (74, .anewarray 57, 3), (77, .putfield 59, 3), (80, .aload_n 0, 1), (81, .bipush 12, 2), (83, .newarray .int, 2), (85, .putfield 63, 3), (88, .aload_n 0, 1), (89, .bipush 50, 2), (91, .newarray .int, 2), (93, .putfield 66, 3), (96, .aload_n 0, 1), (97, .bipush 50, 2), (99, .newarray .int, 2), (101, .putfield 69, 3), (104, .return_, 1)]
set_option maxRecDepth 100000 in
theorem pm_i1_ok : ∀ x ∈ pm_i1, decode prog_1_method_1_code x.1 = .ok (x.2.1, x.2.2) := nc_all (by decide +kernel) (by decide +kernel)
def pm_i2 : List (Nat × Instr × Nat) := [(0, .aload_n 0, 1), (1, .invokespecial 3, 3), (4, .aload_n 0, 1), (5, .sipush 600, 3), (8, .newarray .byte, 2), (10, .putfield 9, 3), (13, .aload_n 0, 1), (14, .iconst 0, 1), (15, .putfield 15, 3), (18, .aload_n 0, 1), (19, .iconst 0, 1), (20, .putfield 19, 3), (23, .aload_n 0, 1), (24, .iconst (-1), 1), (25, .putfield 22, 3), (28, .aload_n 0, 1), (29, .getstatic 25, 3), (32, .iconst 0, 1), (33, .iaload, 1), (34, .anewarray 29, 3), (37, .putfield 31, 3), (40, .aload_n 0, 1), (41, .getstatic 25, 3), (44, .iconst 1, 1), (45, .iaload, 1), (46, .anewarray 35, 3), (49, .putfield 37, 3), (52, .aload_n 0, 1), (53, .getstatic 25, 3), (56, .iconst 2, 1), (57, .iaload, 1), (58, .anewarray 41, 3), (61, .putfield 43, 3), (64, .aload_n 0, 1), (65, .getstatic 25, 3), (68, .iconst 3, 1), (69, .iaload, 1), (70, .anewarray 47, 3), (73, .putfield 49, 3), (76, .aload_n 0, 1), (77, .iconst 4, 1), (78, .newarray .int, 2), (80, .putfield 53, 3), (83, .return_, 1)]
set_option maxRecDepth 100000 in
theorem pm_i2_ok : ∀ x ∈ pm_i2, decode prog_10_method_1_code x.1 = .ok (x.2.1, x.2.2) := nc_all (by decide +kernel) (by decide +kernel)
def pm_i3 : List (Nat × Instr × Nat) := [(0, .aload_n 0, 1), (1, .invokespecial 3, 3), (4, .aload_n 0, 1), (5, .iconst 0, 1), (6, .putfield 9, 3), (9, .aload_n 0, 1), (10, .iconst (-1), 1), (11, .putfield 15, 3), (14, .aload_n 0, 1), (15, .sipush 200, 3), (18, .newarray .int, 2), (20, .putfield 18, 3), (23, .aload_n 0, 1), (24, .iconst 0, 1), (25, .putfield 22, 3), (28, .aload_n 0, 1), (29, .bipush 64, 2), (31, .newarray .int, 2), (33, .putfield 25, 3), (36, .aload_n 0, 1), (37, .iconst 0, 1), (38, .putfield 28, 3), (41, .aload_n 0, 1), (42, .bipush 10, 2), (44, .newarray .int, 2), (46, .putfield 31, 3), (49, .aload_n 0, 1), (50, .iconst 4, 1), (51, .putfield 34, 3), (54, .aload_n 0, 1), (55, .iconst (-1), 1), (56, .putfield 37, 3), (59, .aload_n 0, 1), (60, .iconst 4, 1), (61, .newarray .int, 2), (63, .putfield 40, 3), (66, .aload_n 0, 1), (67, .new 43, 3), (70, .dup, 1), (71, .aload_n 1, 1), (72, .invokespecial 45, 3), (75, .putfield 48, 3), (78, .return_, 1)]
set_option maxRecDepth 100000 in
theorem pm_i3_ok : ∀ x ∈ pm_i3, decode prog_8_method_1_code x.1 = .ok (x.2.1, x.2.2) := nc_all (by decide +kernel) (by decide +kernel)
def pm_i4 : List (Nat × Instr × Nat) := [(0, .aload_n 0, 1), (1, .invokespecial 3, 3), (4, .aload_n 0, 1), (5, .iconst 0, 1), (6, .putfield 9, 3), (9, .aload_n 0, 1), (10, .iconst 0, 1), (11, .putfield 15, 3), (14, .aload_n 0, 1), (15, .iconst 0, 1), (16, .putfield 18, 3), (19, .aload_n 0, 1), (20, .iconst 0, 1), (21, .putfield 21, 3), (24, .aload_n 0, 1), (25, .iconst 0, 1), (26, .putfield 24, 3), (29, .aload_n 0, 1), (30, .aload_n 1, 1), (31, .putfield 27, 3), (34, .return_, 1)]
set_option maxRecDepth 100000 in
theorem pm_i4_ok : ∀ x ∈ pm_i4, decode prog_9_method_1_code x.1 = .ok (x.2.1, x.2.2) := nc_all (by decide +kernel) (by decide +kernel)
def pm_i5 : List (Nat × Instr × Nat) := [(0, .aload_n 0, 1), (1, .invokespecial 3, 3), (4, .aload_n 0, 1), (5, .sipush 468, 3), (8, .newarray .long, 2), (10, .putfield 9, 3), (13, .return_, 1)]
set_option maxRecDepth 100000 in
theorem pm_i5_ok : ∀ x ∈ pm_i5, decode prog_4_method_1_code x.1 = .ok (x.2.1, x.2.2) := nc_all (by decide +kernel) (by decide +kernel)
def pm_i6 : List (Nat × Instr × Nat) := [(0, .aload_n 0, 1), (1, .invokespecial 3, 3), (4, .aload_n 0, 1), (5, .sipush 468, 3), (8, .newarray .long, 2), (10, .putfield 9, 3), (13, .aload_n 0, 1), (14, .bipush 12, 2), (16, .newarray .int, 2), (18, .putfield 15, 3), (21, .aload_n 0, 1), (22, .iconst (-1), 1), (23, .putfield 19, 3), (26, .aload_n 0, 1), (27, .iconst (-1), 1), (28, .putfield 23, 3), (31, .aload_n 0, 1), (32, .bipush 78, 2), (34, .newarray .int, 2), (36, .putfield 26, 3), (39, .aload_n 0, 1), (40, .aconst_null, 1), (41, .putfield 29, 3), (44, .aload_n 0, 1), (45, .aconst_null, 1), (46, .putfield 33, 3), (49, .return_, 1)]
set_option maxRecDepth 100000 in
theorem pm_i6_ok : ∀ x ∈ pm_i6, decode prog_11_method_1_code x.1 = .ok (x.2.1, x.2.2) := nc_all (by decide +kernel) (by decide +kernel)
def pm_i7 : List (Nat × Instr × Nat) := [(0, .aload_n 0, 1), (1, .getfield 14, 3), (4, .getfield 72, 3), (7, .bipush 20, 2), (9, .iadd, 1), (10, .sipush 600, 3), (13, .if_icmp .le 5, 3), (16, .iconst (-1), 1), (17, .ireturn, 1), (18, .aload_n 0, 1), (19, .getfield 14, 3), (22, .iload_n 1, 1), (23, .invokevirtual 76, 3), (26, .aload_n 0, 1), (27, .getfield 14, 3), (30, .iload_n 2, 1), (31, .invokevirtual 76, 3), (34, .aload_n 0, 1), (35, .getfield 14, 3), (38, .iload_n 3, 1), (39, .invokevirtual 76, 3), (42, .aload_n 0, 1), (43, .getfield 14, 3), (46, .iload 4, 2), (48, .invokevirtual 76, 3), (51, .aload_n 0, 1), (52, .getfield 14, 3), (55, .iload 5, 2), (57, .invokevirtual 76, 3), (60, .aload_n 0, 1), (61, .getfield 14, 3), (64, .getfield 72, 3), (67, .ireturn, 1)]
set_option maxRecDepth 100000 in
theorem pm_i7_ok : ∀ x ∈ pm_i7, decode prog_1_method_2_code x.1 = .ok (x.2.1, x.2.2) := nc_all (by decide +kernel) (by decide +kernel)
def pm_i8 : List (Nat × Instr × Nat) := [(0, .bipush 24, 2), (2, .istore_n 2, 1), (3, .iload_n 2, 1), (4, .ifCond .lt 42, 3), (7, .aload_n 0, 1), (8, .getfield 15, 3), (11, .sipush 600, 3), (14, .if_icmp .ge 26, 3), (17, .aload_n 0, 1), (18, .getfield 9, 3), (21, .aload_n 0, 1), (22, .getfield 15, 3), (25, .iload_n 1, 1), (26, .iload_n 2, 1), (27, .iushr, 1), (28, .i2b, 1), (29, .bastore, 1), (30, .aload_n 0, 1), (31, .dup, 1), (32, .getfield 15, 3), (35, .iconst 1, 1), (36, .iadd, 1), (37, .putfield 15, 3), (40, .iinc 2 (-8), 3), (43, .goto (-40), 3), (46, .return_, 1)]
set_option maxRecDepth 100000 in
theorem pm_i8_ok : ∀ x ∈ pm_i8, decode prog_10_method_2_code x.1 = .ok (x.2.1, x.2.2) := nc_all (by decide +kernel) (by decide +kernel)
def pm_i9 : List (Nat × Instr × Nat) := [(0, .iload_n 1, 1), (1, .ifCond .lt 14, 3), (4, .iload_n 1, 1), (5, .aload_n 0, 1), (6, .getfield 14, 3), (9, .getfield 72, 3), (12, .if_icmp .le 5, 3), (15, .iconst (-1), 1), (16, .ireturn, 1), (17, .aload_n 0, 1), (18, .getfield 14, 3), (21, .iload_n 1, 1), (22, .putfield 72, 3), (25, .iload_n 1, 1), (26, .ireturn, 1)]
set_option maxRecDepth 100000 in
theorem pm_i9_ok : ∀ x ∈ pm_i9, decode prog_1_method_3_code x.1 = .ok (x.2.1, x.2.2) := nc_all (by decide +kernel) (by decide +kernel)
def pm_i10_0 : List (Nat × Instr × Nat) := [(0, .aload_n 0, 1), (1, .getfield 14, 3), (4, .getfield 72, 3), (7, .istore_n 3, 1), (8, .aload_n 0, 1), (9, .getfield 14, 3), (12, .iconst 0, 1), (13, .putfield 72, 3), (16, .aload_n 0, 1), (17, .getfield 14, 3), (20, .iconst 0, 1), (21, .putfield 80, 3), (24, .aload_n 0, 1), (25, .getfield 14, 3), (28, .iconst (-1), 1), (29, .putfield 83, 3), (32, .iload_n 1, 1), (33, .ifCond .lt 8, 3), (36, .iload_n 1, 1), (37, .iconst 4, 1), (38, .if_icmp .lt 6, 3), (41, .bipush (-2), 2), (43, .ireturn, 1), (44, .aload_n 0, 1), (45, .getfield 14, 3), (48, .getfield 86, 3), (51, .iload_n 1, 1), (52, .iaload, 1), (53, .istore 4, 2), (55, .iload_n 2, 1), (56, .iconst (-1), 1), (57, .if_icmp .ne 7, 3), (60, .iconst 1, 1), (61, .goto 4, 3), (64, .iconst 0, 1), (65, .istore 5, 2), (67, .iload 5, 2), (69, .ifCond .eq 16, 3), (72, .iload 4, 2), (74, .getstatic 53, 3), (77, .iload_n 1, 1), (78, .iaload, 1), (79, .if_icmp .lt 19, 3), (82, .goto 13, 3), (85, .iload_n 2, 1), (86, .ifCond .lt 9, 3), (89, .iload_n 2, 1), (90, .iload 4, 2), (92, .if_icmp .lt 6, 3), (95, .bipush (-2), 2), (97, .ireturn, 1), (98, .iload 5, 2), (100, .ifCond .eq 8, 3), (103, .iload 4, 2), (105, .goto 4, 3), (108, .iload_n 2, 1), (109, .istore 6, 2), (111, .aload_n 0, 1), (112, .getfield 31, 3), (115, .iload_n 3, 1)]
def pm_i10_1 : List (Nat × Instr × Nat) := [(116, .iload_n 1, 1), (117, .invokevirtual 89, 3), (120, .aload_n 0, 1), (121, .getfield 14, 3), (124, .aload_n 0, 1), (125, .getfield 31, 3), (128, .getfield 93, 3), (131, .putfield 80, 3), (134, .aload_n 0, 1), (135, .getfield 14, 3), (138, .aload_n 0, 1), (139, .getfield 31, 3), (142, .getfield 94, 3), (145, .putfield 83, 3), (148, .aload_n 0, 1), (149, .getfield 14, 3), (152, .getfield 80, 3), (155, .ifCond .eq 5, 3), (158, .iconst (-1), 1), (159, .ireturn, 1), (160, .aload_n 0, 1), (161, .iload_n 1, 1), (162, .iload 6, 2), (164, .invokevirtual 95, 3), (167, .iload 5, 2), (169, .ifCond .eq 16, 3), (172, .aload_n 0, 1), (173, .getfield 14, 3), (176, .getfield 86, 3), (179, .iload_n 1, 1), (180, .dup2, 1), (181, .iaload, 1), (182, .iconst 1, 1), (183, .iadd, 1), (184, .iastore, 1), (185, .iload 6, 2), (187, .ireturn, 1)]
def pm_i10 : List (Nat × Instr × Nat) := pm_i10_0 ++ (pm_i10_1)
set_option maxRecDepth 100000 in
theorem pm_i10_ok : ∀ x ∈ pm_i10, decode prog_1_method_4_code x.1 = .ok (x.2.1, x.2.2) := nc_all (by decide +kernel) (by decide +kernel)
def pm_i11 : List (Nat × Instr × Nat) := [(0, .aload_n 0, 1), (1, .invokevirtual 52, 3), (4, .aload_n 0, 1), (5, .getfield 48, 3), (8, .iload_n 1, 1), (9, .invokevirtual 55, 3), (12, .iload_n 2, 1), (13, .iconst 1, 1), (14, .if_icmp .ne 10, 3), (17, .aload_n 0, 1), (18, .invokevirtual 59, 3), (21, .goto 8, 3), (24, .aload_n 0, 1), (25, .iload_n 2, 1), (26, .invokevirtual 63, 3), (29, .istore_n 3, 1), (30, .iload_n 3, 1), (31, .ifCond .ne 22, 3), (34, .aload_n 0, 1), (35, .iconst 1, 1), (36, .putfield 9, 3), (39, .aload_n 0, 1), (40, .aload_n 0, 1), (41, .getfield 48, 3), (44, .getfield 67, 3), (47, .putfield 15, 3), (50, .goto 37, 3), (53, .iload_n 2, 1), (54, .iconst 1, 1), (55, .if_icmp .ne 10, 3), (58, .aload_n 0, 1), (59, .getfield 22, 3), (62, .ifCond .eq 19, 3), (65, .iload_n 2, 1), (66, .iconst 2, 1), (67, .if_icmp .ne 20, 3), (70, .aload_n 0, 1), (71, .getfield 37, 3), (74, .aload_n 0, 1), (75, .getfield 34, 3), (78, .if_icmp .lt 9, 3), (81, .aload_n 0, 1), (82, .iconst 4, 1), (83, .iload_n 1, 1), (84, .invokevirtual 70, 3), (87, .return_, 1)]
set_option maxRecDepth 100000 in
theorem pm_i11_ok : ∀ x ∈ pm_i11, decode prog_8_method_2_code x.1 = .ok (x.2.1, x.2.2) := nc_all (by decide +kernel) (by decide +kernel)
def pm_i12 : List (Nat × Instr × Nat) := [(0, .aload_n 0, 1), (1, .iconst 0, 1), (2, .putfield 9, 3), (5, .aload_n 0, 1), (6, .iconst (-1), 1), (7, .putfield 15, 3), (10, .aload_n 0, 1), (11, .iconst 0, 1), (12, .putfield 22, 3), (15, .aload_n 0, 1), (16, .iconst 0, 1), (17, .putfield 28, 3), (20, .aload_n 0, 1), (21, .getfield 31, 3), (24, .iconst 0, 1), (25, .invokestatic 74, 3), (28, .aload_n 0, 1), (29, .iconst 4, 1), (30, .putfield 34, 3), (33, .aload_n 0, 1), (34, .iconst (-1), 1), (35, .putfield 37, 3), (38, .return_, 1)]
set_option maxRecDepth 100000 in
theorem pm_i12_ok : ∀ x ∈ pm_i12, decode prog_8_method_3_code x.1 = .ok (x.2.1, x.2.2) := nc_all (by decide +kernel) (by decide +kernel)
def pm_i13 : List (Nat × Instr × Nat) := [(0, .iconst 0, 1), (1, .istore_n 2, 1), (2, .aload_n 0, 1), (3, .arraylength, 1), (4, .istore_n 3, 1), (5, .iload_n 2, 1), (6, .iload_n 3, 1), (7, .if_icmp .ge 13, 3), (10, .aload_n 0, 1), (11, .iload_n 2, 1), (12, .iload_n 1, 1), (13, .iastore, 1), (14, .iinc 2 1, 3), (17, .goto (-12), 3), (20, .return_, 1)]
set_option maxRecDepth 100000 in
theorem pm_i13_ok : ∀ x ∈ pm_i13, decode prog_23_method_103_code x.1 = .ok (x.2.1, x.2.2) := nc_all (by decide +kernel) (by decide +kernel)
def pm_i14 : List (Nat × Instr × Nat) := [(0, .aload_n 0, 1), (1, .iload_n 1, 1), (2, .aload_n 0, 1), (3, .getfield 27, 3), (6, .arraylength, 1), (7, .invokestatic 31, 3), (10, .putfield 9, 3), (13, .aload_n 0, 1), (14, .iconst 0, 1), (15, .putfield 18, 3), (18, .aload_n 0, 1), (19, .iconst 0, 1), (20, .putfield 15, 3), (23, .aload_n 0, 1), (24, .iconst 0, 1), (25, .putfield 21, 3), (28, .return_, 1)]
set_option maxRecDepth 100000 in
theorem pm_i14_ok : ∀ x ∈ pm_i14, decode prog_9_method_2_code x.1 = .ok (x.2.1, x.2.2) := nc_all (by decide +kernel) (by decide +kernel)
def pm_i15_0 : List (Nat × Instr × Nat) := [(0, .aload_n 0, 1), (1, .getfield 48, 3), (4, .invokevirtual 80, 3), (7, .iconst 0, 1), (8, .istore_n 1, 1), (9, .iload_n 1, 1), (10, .sipush 600, 3), (13, .if_icmp .ge 101, 3), (16, .aload_n 0, 1), (17, .getfield 48, 3), (20, .getfield 83, 3), (23, .iconst 2, 1), (24, .if_icmp .ne 90, 3), (27, .aload_n 0, 1), (28, .getfield 48, 3), (31, .getfield 86, 3), (34, .bipush 10, 2), (36, .if_icmp .lt 15, 3), (39, .aload_n 0, 1), (40, .iconst 2, 1), (41, .aload_n 0, 1), (42, .getfield 48, 3), (45, .getfield 67, 3), (48, .invokevirtual 70, 3), (51, .aload_n 0, 1), (52, .getfield 22, 3), (55, .bipush 12, 2), (57, .if_icmp .lt 18, 3), (60, .aload_n 0, 1), (61, .iconst 3, 1), (62, .aload_n 0, 1), (63, .getfield 48, 3), (66, .getfield 67, 3), (69, .invokevirtual 70, 3), (72, .goto 29, 3), (75, .aload_n 0, 1), (76, .getfield 18, 3), (79, .aload_n 0, 1), (80, .getfield 22, 3), (83, .aload_n 0, 1), (84, .getfield 48, 3), (87, .getfield 86, 3), (90, .iastore, 1), (91, .aload_n 0, 1), (92, .dup, 1), (93, .getfield 22, 3), (96, .iconst 1, 1), (97, .iadd, 1), (98, .putfield 22, 3), (101, .aload_n 0, 1), (102, .getfield 48, 3), (105, .invokevirtual 80, 3), (108, .iinc 1 1, 3), (111, .goto (-102), 3), (114, .aload_n 0, 1), (115, .getfield 48, 3), (118, .getfield 83, 3), (121, .ifCond .ne 7, 3), (124, .iconst 1, 1), (125, .goto 4, 3)]
def pm_i15_1 : List (Nat × Instr × Nat) := [(128, .iconst 0, 1), (129, .ireturn, 1)]
def pm_i15 : List (Nat × Instr × Nat) := pm_i15_0 ++ (pm_i15_1)
set_option maxRecDepth 100000 in
theorem pm_i15_ok : ∀ x ∈ pm_i15, decode prog_8_method_5_code x.1 = .ok (x.2.1, x.2.2) := nc_all (by decide +kernel) (by decide +kernel)
def pm_i16_0 : List (Nat × Instr × Nat) := [(0, .aload_n 0, 1), (1, .aload_n 0, 1), (2, .getfield 15, 3), (5, .putfield 18, 3), (8, .aload_n 0, 1), (9, .getfield 18, 3), (12, .aload_n 0, 1), (13, .getfield 9, 3), (16, .if_icmp .ge 31, 3), (19, .aload_n 0, 1), (20, .getfield 27, 3), (23, .aload_n 0, 1), (24, .getfield 18, 3), (27, .baload, 1), (28, .invokestatic 37, 3), (31, .ifCond .eq 16, 3), (34, .aload_n 0, 1), (35, .dup, 1), (36, .getfield 18, 3), (39, .iconst 1, 1), (40, .iadd, 1), (41, .putfield 18, 3), (44, .goto (-36), 3), (47, .aload_n 0, 1), (48, .aload_n 0, 1), (49, .getfield 18, 3), (52, .putfield 15, 3), (55, .aload_n 0, 1), (56, .getfield 18, 3), (59, .aload_n 0, 1), (60, .getfield 9, 3), (63, .if_icmp .lt 11, 3), (66, .aload_n 0, 1), (67, .iconst 0, 1), (68, .putfield 21, 3), (71, .goto 120, 3), (74, .aload_n 0, 1), (75, .getfield 27, 3), (78, .aload_n 0, 1), (79, .getfield 18, 3), (82, .baload, 1), (83, .invokestatic 41, 3), (86, .ifCond .eq 50, 3), (89, .aload_n 0, 1), (90, .getfield 15, 3), (93, .aload_n 0, 1), (94, .getfield 9, 3), (97, .if_icmp .ge 31, 3), (100, .aload_n 0, 1), (101, .getfield 27, 3), (104, .aload_n 0, 1), (105, .getfield 15, 3), (108, .baload, 1), (109, .invokestatic 41, 3), (112, .ifCond .eq 16, 3), (115, .aload_n 0, 1), (116, .dup, 1), (117, .getfield 15, 3), (120, .iconst 1, 1), (121, .iadd, 1)]
def pm_i16_1 : List (Nat × Instr × Nat) := [(122, .putfield 15, 3), (125, .goto (-36), 3), (128, .aload_n 0, 1), (129, .iconst 1, 1), (130, .putfield 21, 3), (133, .goto 58, 3), (136, .aload_n 0, 1), (137, .getfield 27, 3), (140, .aload_n 0, 1), (141, .getfield 18, 3), (144, .baload, 1), (145, .invokestatic 44, 3), (148, .ifCond .eq 10, 3), (151, .aload_n 0, 1), (152, .invokevirtual 47, 3), (155, .goto 36, 3), (158, .aload_n 0, 1), (159, .aload_n 0, 1), (160, .getfield 27, 3), (163, .aload_n 0, 1), (164, .getfield 18, 3), (167, .baload, 1), (168, .bipush 59, 2), (170, .if_icmp .ne 7, 3), (173, .iconst 3, 1), (174, .goto 4, 3), (177, .iconst 4, 1), (178, .putfield 21, 3), (181, .aload_n 0, 1), (182, .dup, 1), (183, .getfield 15, 3), (186, .iconst 1, 1), (187, .iadd, 1), (188, .putfield 15, 3), (191, .return_, 1)]
def pm_i16 : List (Nat × Instr × Nat) := pm_i16_0 ++ (pm_i16_1)
set_option maxRecDepth 100000 in
theorem pm_i16_ok : ∀ x ∈ pm_i16, decode prog_9_method_3_code x.1 = .ok (x.2.1, x.2.2) := nc_all (by decide +kernel) (by decide +kernel)
def pm_i17 : List (Nat × Instr × Nat) := [(0, .iload_n 0, 1), (1, .bipush 10, 2), (3, .if_icmp .eq 9, 3), (6, .iload_n 0, 1), (7, .bipush 32, 2), (9, .if_icmp .ne 7, 3), (12, .iconst 1, 1), (13, .goto 4, 3), (16, .iconst 0, 1), (17, .ireturn, 1)]
set_option maxRecDepth 100000 in
theorem pm_i17_ok : ∀ x ∈ pm_i17, decode prog_9_method_7_code x.1 = .ok (x.2.1, x.2.2) := nc_all (by decide +kernel) (by decide +kernel)
def pm_i18 : List (Nat × Instr × Nat) := [(0, .iload_n 0, 1), (1, .bipush 97, 2), (3, .if_icmp .lt 13, 3), (6, .iload_n 0, 1), (7, .bipush 122, 2), (9, .if_icmp .gt 7, 3), (12, .iconst 1, 1), (13, .goto 4, 3), (16, .iconst 0, 1), (17, .ireturn, 1)]
set_option maxRecDepth 100000 in
theorem pm_i18_ok : ∀ x ∈ pm_i18, decode prog_9_method_8_code x.1 = .ok (x.2.1, x.2.2) := nc_all (by decide +kernel) (by decide +kernel)
def pm_i19 : List (Nat × Instr × Nat) := [(0, .iload_n 0, 1), (1, .bipush 48, 2), (3, .if_icmp .lt 13, 3), (6, .iload_n 0, 1), (7, .bipush 57, 2), (9, .if_icmp .gt 7, 3), (12, .iconst 1, 1), (13, .goto 4, 3), (16, .iconst 0, 1), (17, .ireturn, 1)]
set_option maxRecDepth 100000 in
theorem pm_i19_ok : ∀ x ∈ pm_i19, decode prog_9_method_9_code x.1 = .ok (x.2.1, x.2.2) := nc_all (by decide +kernel) (by decide +kernel)
def pm_i20 : List (Nat × Instr × Nat) := [(0, .aload_n 0, 1), (1, .iconst 0, 1), (2, .putfield 24, 3), (5, .aload_n 0, 1), (6, .getfield 15, 3), (9, .aload_n 0, 1), (10, .getfield 9, 3), (13, .if_icmp .ge 68, 3), (16, .aload_n 0, 1), (17, .getfield 27, 3), (20, .aload_n 0, 1), (21, .getfield 15, 3), (24, .baload, 1), (25, .invokestatic 44, 3), (28, .ifCond .eq 53, 3), (31, .aload_n 0, 1), (32, .getfield 15, 3), (35, .aload_n 0, 1), (36, .getfield 18, 3), (39, .isub, 1), (40, .iconst 2, 1), (41, .if_icmp .ge 27, 3), (44, .aload_n 0, 1), (45, .aload_n 0, 1), (46, .getfield 24, 3), (49, .bipush 10, 2), (51, .imul, 1), (52, .aload_n 0, 1), (53, .getfield 27, 3), (56, .aload_n 0, 1), (57, .getfield 15, 3), (60, .baload, 1), (61, .iadd, 1), (62, .bipush 48, 2), (64, .isub, 1), (65, .putfield 24, 3), (68, .aload_n 0, 1), (69, .dup, 1), (70, .getfield 15, 3), (73, .iconst 1, 1), (74, .iadd, 1), (75, .putfield 15, 3), (78, .goto (-73), 3), (81, .aload_n 0, 1), (82, .aload_n 0, 1), (83, .getfield 15, 3), (86, .aload_n 0, 1), (87, .getfield 18, 3), (90, .isub, 1), (91, .iconst 2, 1), (92, .if_icmp .gt 7, 3), (95, .iconst 2, 1), (96, .goto 4, 3), (99, .iconst 4, 1), (100, .putfield 21, 3), (103, .return_, 1)]
set_option maxRecDepth 100000 in
theorem pm_i20_ok : ∀ x ∈ pm_i20, decode prog_9_method_4_code x.1 = .ok (x.2.1, x.2.2) := nc_all (by decide +kernel) (by decide +kernel)
def pm_i21 : List (Nat × Instr × Nat) := [(0, .aload_n 0, 1), (1, .getfield 9, 3), (4, .ifCond .ne 13, 3), (7, .aload_n 0, 1), (8, .iload_n 1, 1), (9, .putfield 9, 3), (12, .aload_n 0, 1), (13, .iload_n 2, 1), (14, .putfield 15, 3), (17, .return_, 1)]
set_option maxRecDepth 100000 in
theorem pm_i21_ok : ∀ x ∈ pm_i21, decode prog_8_method_4_code x.1 = .ok (x.2.1, x.2.2) := nc_all (by decide +kernel) (by decide +kernel)
def pm_i22 : List (Nat × Instr × Nat) := [(0, .aload_n 0, 1), (1, .getfield 48, 3), (4, .invokevirtual 80, 3), (7, .iconst 0, 1), (8, .istore_n 2, 1), (9, .iload_n 2, 1), (10, .sipush 600, 3), (13, .if_icmp .ge 40, 3), (16, .aload_n 0, 1), (17, .getfield 48, 3), (20, .getfield 83, 3), (23, .ifCond .eq 30, 3), (26, .aload_n 0, 1), (27, .aload_n 0, 1), (28, .iload_n 1, 1), (29, .invokevirtual 89, 3), (32, .invokevirtual 93, 3), (35, .ifCond .ne 5, 3), (38, .iconst 0, 1), (39, .ireturn, 1), (40, .aload_n 0, 1), (41, .getfield 48, 3), (44, .invokevirtual 80, 3), (47, .iinc 2 1, 3), (50, .goto (-41), 3), (53, .iconst 1, 1), (54, .ireturn, 1)]
set_option maxRecDepth 100000 in
theorem pm_i22_ok : ∀ x ∈ pm_i22, decode prog_8_method_6_code x.1 = .ok (x.2.1, x.2.2) := nc_all (by decide +kernel) (by decide +kernel)
def pm_i23 : List (Nat × Instr × Nat) := [(0, .iload_n 1, 1), (1, .lookupswitch 73 #[(0, 27), (2, 50)], 27), (28, .aload_n 0, 1), (29, .getfield 48, 3), (32, .ldc 96, 2), (34, .invokevirtual 98, 3), (37, .istore_n 2, 1), (38, .iload_n 2, 1), (39, .iconst (-1), 1), (40, .if_icmp .ne 7, 3), (43, .iconst (-1), 1), (44, .goto 6, 3), (47, .iconst 0, 1), (48, .iload_n 2, 1), (49, .iadd, 1), (50, .ireturn, 1), (51, .aload_n 0, 1), (52, .getfield 48, 3), (55, .ldc 102, 2), (57, .invokevirtual 98, 3), (60, .istore_n 2, 1), (61, .iload_n 2, 1), (62, .iconst (-1), 1), (63, .if_icmp .ne 7, 3), (66, .iconst (-1), 1), (67, .goto 6, 3), (70, .iconst 3, 1), (71, .iload_n 2, 1), (72, .iadd, 1), (73, .ireturn, 1), (74, .aload_n 0, 1), (75, .getfield 48, 3), (78, .ldc 104, 2), (80, .invokevirtual 98, 3), (83, .istore_n 2, 1), (84, .iload_n 2, 1), (85, .iconst (-1), 1), (86, .if_icmp .ne 7, 3), (89, .iconst (-1), 1), (90, .goto 7, 3), (93, .bipush 7, 2), (95, .iload_n 2, 1), (96, .iadd, 1), (97, .ireturn, 1)]
set_option maxRecDepth 100000 in
theorem pm_i23_ok : ∀ x ∈ pm_i23, decode prog_8_method_7_code x.1 = .ok (x.2.1, x.2.2) := nc_all (by decide +kernel) (by decide +kernel)
def pm_i24 : List (Nat × Instr × Nat) := [(0, .aload_n 0, 1), (1, .getfield 21, 3), (4, .iconst 1, 1), (5, .if_icmp .eq 5, 3), (8, .iconst (-1), 1), (9, .ireturn, 1), (10, .iconst 0, 1), (11, .istore_n 2, 1), (12, .iconst 0, 1), (13, .istore_n 3, 1), (14, .iconst 0, 1), (15, .istore 4, 2), (17, .iload 4, 2), (19, .aload_n 1, 1), (20, .invokevirtual 50, 3), (23, .if_icmp .gt 50, 3), (26, .iload 4, 2), (28, .aload_n 1, 1), (29, .invokevirtual 50, 3), (32, .if_icmp .eq 14, 3), (35, .aload_n 1, 1), (36, .iload 4, 2), (38, .invokevirtual 56, 3), (41, .bipush 32, 2), (43, .if_icmp .ne 24, 3), (46, .aload_n 0, 1), (47, .aload_n 1, 1), (48, .iload_n 3, 1), (49, .iload 4, 2), (51, .invokevirtual 60, 3), (54, .ifCond .eq 5, 3), (57, .iload_n 2, 1), (58, .ireturn, 1), (59, .iinc 2 1, 3), (62, .iload 4, 2), (64, .iconst 1, 1), (65, .iadd, 1), (66, .istore_n 3, 1), (67, .iinc 4 1, 3), (70, .goto (-53), 3), (73, .iconst (-1), 1), (74, .ireturn, 1)]
set_option maxRecDepth 100000 in
theorem pm_i24_ok : ∀ x ∈ pm_i24, decode prog_9_method_5_code x.1 = .ok (x.2.1, x.2.2) := nc_all (by decide +kernel) (by decide +kernel)
def pm_i25 : List (Nat × Instr × Nat) := [(0, .aload_n 0, 1), (1, .getfield 9, 3), (4, .arraylength, 1), (5, .aload_n 0, 1), (6, .invokevirtual 335, 3), (9, .ishr, 1), (10, .ireturn, 1)]
set_option maxRecDepth 100000 in
theorem pm_i25_ok : ∀ x ∈ pm_i25, decode prog_19_method_54_code x.1 = .ok (x.2.1, x.2.2) := nc_all (by decide +kernel) (by decide +kernel)
def pm_i26 : List (Nat × Instr × Nat) := [(0, .getstatic 38, 3), (3, .ifCond .eq 10, 3), (6, .aload_n 0, 1), (7, .getfield 15, 3), (10, .goto 4, 3), (13, .iconst 1, 1), (14, .ireturn, 1)]
set_option maxRecDepth 100000 in
theorem pm_i26_ok : ∀ x ∈ pm_i26, decode prog_19_method_152_code x.1 = .ok (x.2.1, x.2.2) := nc_all (by decide +kernel) (by decide +kernel)
def pm_i27 : List (Nat × Instr × Nat) := [(0, .aload_n 0, 1), (1, .invokevirtual 492, 3), (4, .ifCond .eq 12, 3), (7, .aload_n 0, 1), (8, .getfield 9, 3), (11, .iload_n 1, 1), (12, .invokestatic 495, 3), (15, .ireturn, 1), (16, .aload_n 0, 1), (17, .getfield 9, 3), (20, .iload_n 1, 1), (21, .invokestatic 498, 3), (24, .ireturn, 1)]
set_option maxRecDepth 100000 in
theorem pm_i27_ok : ∀ x ∈ pm_i27, decode prog_19_method_56_code x.1 = .ok (x.2.1, x.2.2) := nc_all (by decide +kernel) (by decide +kernel)
def pm_i28 : List (Nat × Instr × Nat) := [(0, .getstatic 38, 3), (3, .ifCond .eq 14, 3), (6, .aload_n 0, 1), (7, .getfield 15, 3), (10, .ifCond .ne 7, 3), (13, .iconst 1, 1), (14, .goto 4, 3), (17, .iconst 0, 1), (18, .ireturn, 1)]
set_option maxRecDepth 100000 in
theorem pm_i28_ok : ∀ x ∈ pm_i28, decode prog_19_method_154_code x.1 = .ok (x.2.1, x.2.2) := nc_all (by decide +kernel) (by decide +kernel)
def pm_i29 : List (Nat × Instr × Nat) := [(0, .iload_n 1, 1), (1, .aload_n 0, 1), (2, .arraylength, 1), (3, .invokestatic 9, 3), (6, .aload_n 0, 1), (7, .iload_n 1, 1), (8, .baload, 1), (9, .sipush 255, 3), (12, .iand, 1), (13, .i2c, 1), (14, .ireturn, 1)]
set_option maxRecDepth 100000 in
theorem pm_i29_ok : ∀ x ∈ pm_i29, decode prog_20_method_2_code x.1 = .ok (x.2.1, x.2.2) := nc_all (by decide +kernel) (by decide +kernel)
def pm_i30 : List (Nat × Instr × Nat) := [(0, .iload_n 0, 1), (1, .iload_n 1, 1), (2, .getstatic 1053, 3), (5, .invokestatic 1059, 3), (8, .pop, 1), (9, .return_, 1)]
set_option maxRecDepth 100000 in
theorem pm_i30_ok : ∀ x ∈ pm_i30, decode prog_19_method_155_code x.1 = .ok (x.2.1, x.2.2) := nc_all (by decide +kernel) (by decide +kernel)
def pm_i31 : List (Nat × Instr × Nat) := [(0, .iload_n 0, 1), (1, .ifCond .lt 8, 3), (4, .iload_n 0, 1), (5, .iload_n 1, 1), (6, .if_icmp .lt 10, 3), (9, .aload_n 2, 1), (10, .iload_n 0, 1), (11, .iload_n 1, 1), (12, .invokestatic 95, 3), (15, .athrow, 1), (16, .iload_n 0, 1), (17, .ireturn, 1)]
set_option maxRecDepth 100000 in
theorem pm_i31_ok : ∀ x ∈ pm_i31, decode prog_24_method_11_code x.1 = .ok (x.2.1, x.2.2) := nc_all (by decide +kernel) (by decide +kernel)
def pm_i32 : List (Nat × Instr × Nat) := [(0, .iload_n 1, 1), (1, .aload_n 0, 1), (2, .invokestatic 67, 3), (5, .aload_n 0, 1), (6, .iload_n 1, 1), (7, .invokestatic 71, 3), (10, .ireturn, 1)]
set_option maxRecDepth 100000 in
theorem pm_i32_ok : ∀ x ∈ pm_i32, decode prog_21_method_83_code x.1 = .ok (x.2.1, x.2.2) := nc_all (by decide +kernel) (by decide +kernel)
def pm_i33 : List (Nat × Instr × Nat) := [(0, .iload_n 0, 1), (1, .aload_n 1, 1), (2, .invokestatic 48, 3), (5, .invokestatic 414, 3), (8, .return_, 1)]
set_option maxRecDepth 100000 in
theorem pm_i33_ok : ∀ x ∈ pm_i33, decode prog_21_method_91_code x.1 = .ok (x.2.1, x.2.2) := nc_all (by decide +kernel) (by decide +kernel)
def pm_i34 : List (Nat × Instr × Nat) := [(0, .aload_n 0, 1), (1, .arraylength, 1), (2, .iconst 1, 1), (3, .ishr, 1), (4, .ireturn, 1)]
set_option maxRecDepth 100000 in
theorem pm_i34_ok : ∀ x ∈ pm_i34, decode prog_21_method_6_code x.1 = .ok (x.2.1, x.2.2) := nc_all (by decide +kernel) (by decide +kernel)
def pm_i35 : List (Nat × Instr × Nat) := [(0, .getstatic 44, 3), (3, .ifCond .ne 25, 3), (6, .iload_n 1, 1), (7, .ifCond .lt 11, 3), (10, .iload_n 1, 1), (11, .aload_n 0, 1), (12, .invokestatic 48, 3), (15, .if_icmp .lt 13, 3), (18, .new 52, 3), (21, .dup, 1), (22, .ldc 54, 2), (24, .invokespecial 56, 3), (27, .athrow, 1), (28, .iload_n 1, 1), (29, .iconst 1, 1), (30, .ishl, 1), (31, .istore_n 1, 1), (32, .aload_n 0, 1), (33, .iload_n 1, 1), (34, .iinc 1 1, 3), (37, .baload, 1), (38, .sipush 255, 3), (41, .iand, 1), (42, .getstatic 59, 3), (45, .ishl, 1), (46, .aload_n 0, 1), (47, .iload_n 1, 1), (48, .baload, 1), (49, .sipush 255, 3), (52, .iand, 1), (53, .getstatic 63, 3), (56, .ishl, 1), (57, .ior, 1), (58, .i2c, 1), (59, .ireturn, 1)]
set_option maxRecDepth 100000 in
theorem pm_i35_ok : ∀ x ∈ pm_i35, decode prog_21_method_5_code x.1 = .ok (x.2.1, x.2.2) := nc_all (by decide +kernel) (by decide +kernel)
def pm_i36 : List (Nat × Instr × Nat) := [(0, .iload_n 3, 1), (1, .iload_n 2, 1), (2, .isub, 1), (3, .aload_n 0, 1), (4, .getfield 15, 3), (7, .aload_n 0, 1), (8, .getfield 18, 3), (11, .isub, 1), (12, .if_icmp .eq 5, 3), (15, .iconst 0, 1), (16, .ireturn, 1), (17, .iload_n 2, 1), (18, .istore 4, 2), (20, .iload 4, 2), (22, .iload_n 3, 1), (23, .if_icmp .ge 34, 3), (26, .aload_n 1, 1), (27, .iload 4, 2), (29, .invokevirtual 56, 3), (32, .aload_n 0, 1), (33, .getfield 27, 3), (36, .aload_n 0, 1), (37, .getfield 18, 3), (40, .iload 4, 2), (42, .iadd, 1), (43, .iload_n 2, 1), (44, .isub, 1), (45, .baload, 1), (46, .if_icmp .eq 5, 3), (49, .iconst 0, 1), (50, .ireturn, 1), (51, .iinc 4 1, 3), (54, .goto (-34), 3), (57, .iconst 1, 1), (58, .ireturn, 1)]
set_option maxRecDepth 100000 in
theorem pm_i36_ok : ∀ x ∈ pm_i36, decode prog_9_method_6_code x.1 = .ok (x.2.1, x.2.2) := nc_all (by decide +kernel) (by decide +kernel)
def pm_i37_0 : List (Nat × Instr × Nat) := [(0, .iload_n 1, 1), (1, .iconst (-1), 1), (2, .if_icmp .ne 5, 3), (5, .iconst 0, 1), (6, .ireturn, 1), (7, .aload_n 0, 1), (8, .iload_n 1, 1), (9, .invokevirtual 106, 3), (12, .aload_n 0, 1), (13, .getfield 40, 3), (16, .iconst (-1), 1), (17, .invokestatic 74, 3), (20, .iconst 0, 1), (21, .istore_n 2, 1), (22, .iload_n 2, 1), (23, .getstatic 109, 3), (26, .iload_n 1, 1), (27, .iaload, 1), (28, .if_icmp .ge 48, 3), (31, .aload_n 0, 1), (32, .getfield 48, 3), (35, .invokevirtual 80, 3), (38, .aload_n 0, 1), (39, .getfield 48, 3), (42, .getfield 83, 3), (45, .iconst 2, 1), (46, .if_icmp .eq 5, 3), (49, .iconst 0, 1), (50, .ireturn, 1), (51, .aload_n 0, 1), (52, .getfield 40, 3), (55, .iload_n 2, 1), (56, .aload_n 0, 1), (57, .getfield 48, 3), (60, .getfield 86, 3), (63, .iastore, 1), (64, .aload_n 0, 1), (65, .iload_n 1, 1), (66, .iload_n 2, 1), (67, .invokevirtual 112, 3), (70, .iinc 2 1, 3), (73, .goto (-51), 3), (76, .iload_n 1, 1), (77, .ifCond .ne 37, 3), (80, .aload_n 0, 1), (81, .getfield 48, 3), (84, .invokevirtual 80, 3), (87, .aload_n 0, 1), (88, .getfield 40, 3), (91, .iconst 3, 1), (92, .aload_n 0, 1), (93, .getfield 48, 3), (96, .ldc 115, 2), (98, .invokevirtual 98, 3), (101, .iastore, 1), (102, .aload_n 0, 1), (103, .getfield 40, 3), (106, .iconst 3, 1), (107, .iaload, 1), (108, .iconst (-1), 1)]
def pm_i37_1 : List (Nat × Instr × Nat) := [(109, .if_icmp .ne 5, 3), (112, .iconst 0, 1), (113, .ireturn, 1), (114, .aload_n 0, 1), (115, .getfield 48, 3), (118, .invokevirtual 80, 3), (121, .aload_n 0, 1), (122, .getfield 48, 3), (125, .getfield 83, 3), (128, .iconst 3, 1), (129, .if_icmp .eq 5, 3), (132, .iconst 0, 1), (133, .ireturn, 1), (134, .aload_n 0, 1), (135, .iload_n 1, 1), (136, .invokevirtual 117, 3), (139, .iconst 1, 1), (140, .ireturn, 1)]
def pm_i37 : List (Nat × Instr × Nat) := pm_i37_0 ++ (pm_i37_1)
set_option maxRecDepth 100000 in
theorem pm_i37_ok : ∀ x ∈ pm_i37, decode prog_8_method_8_code x.1 = .ok (x.2.1, x.2.2) := nc_all (by decide +kernel) (by decide +kernel)
def pm_i38 : List (Nat × Instr × Nat) := [(0, .getstatic 120, 3), (3, .iload_n 1, 1), (4, .iaload, 1), (5, .istore_n 2, 1), (6, .iload_n 1, 1), (7, .iconst 1, 1), (8, .if_icmp .ne 10, 3), (11, .aload_n 0, 1), (12, .getfield 28, 3), (15, .goto 7, 3), (18, .aload_n 0, 1), (19, .getfield 22, 3), (22, .istore_n 3, 1), (23, .iload_n 2, 1), (24, .ifCond .le 20, 3), (27, .iload_n 3, 1), (28, .iload_n 2, 1), (29, .if_icmp .lt 15, 3), (32, .aload_n 0, 1), (33, .iconst 3, 1), (34, .aload_n 0, 1), (35, .getfield 48, 3), (38, .getfield 67, 3), (41, .invokevirtual 70, 3), (44, .return_, 1)]
set_option maxRecDepth 100000 in
theorem pm_i38_ok : ∀ x ∈ pm_i38, decode prog_8_method_9_code x.1 = .ok (x.2.1, x.2.2) := nc_all (by decide +kernel) (by decide +kernel)
def pm_i39_0 : List (Nat × Instr × Nat) := [(0, .aload_n 0, 1), (1, .getfield 40, 3), (4, .iload_n 2, 1), (5, .iaload, 1), (6, .getstatic 123, 3), (9, .iload_n 1, 1), (10, .iconst 3, 1), (11, .imul, 1), (12, .iload_n 2, 1), (13, .iadd, 1), (14, .iaload, 1), (15, .if_icmp .le 7, 3), (18, .iconst 1, 1), (19, .goto 4, 3), (22, .iconst 0, 1), (23, .istore_n 3, 1), (24, .iload_n 1, 1), (25, .iconst 3, 1), (26, .if_icmp .ne 17, 3), (29, .aload_n 0, 1), (30, .getfield 40, 3), (33, .iload_n 2, 1), (34, .iaload, 1), (35, .iconst 1, 1), (36, .if_icmp .ge 7, 3), (39, .iconst 1, 1), (40, .goto 4, 3), (43, .iconst 0, 1), (44, .istore 4, 2), (46, .iload_n 1, 1), (47, .iconst 2, 1), (48, .if_icmp .eq 8, 3), (51, .iload_n 1, 1), (52, .iconst 4, 1), (53, .if_icmp .ne 27, 3), (56, .iload_n 2, 1), (57, .iconst 1, 1), (58, .if_icmp .ne 22, 3), (61, .aload_n 0, 1), (62, .getfield 40, 3), (65, .iconst 1, 1), (66, .iaload, 1), (67, .aload_n 0, 1), (68, .getfield 40, 3), (71, .iconst 0, 1), (72, .iaload, 1), (73, .if_icmp .ne 7, 3), (76, .iconst 1, 1), (77, .goto 4, 3), (80, .iconst 0, 1), (81, .istore 5, 2), (83, .iload_n 3, 1), (84, .ifCond .ne 13, 3), (87, .iload 4, 2), (89, .ifCond .ne 8, 3), (92, .iload 5, 2), (94, .ifCond .eq 15, 3), (97, .aload_n 0, 1), (98, .iconst 2, 1), (99, .aload_n 0, 1)]
def pm_i39_1 : List (Nat × Instr × Nat) := [(100, .getfield 48, 3), (103, .getfield 67, 3), (106, .invokevirtual 70, 3), (109, .return_, 1)]
def pm_i39 : List (Nat × Instr × Nat) := pm_i39_0 ++ (pm_i39_1)
set_option maxRecDepth 100000 in
theorem pm_i39_ok : ∀ x ∈ pm_i39, decode prog_8_method_10_code x.1 = .ok (x.2.1, x.2.2) := nc_all (by decide +kernel) (by decide +kernel)
def pm_i40 : List (Nat × Instr × Nat) := [(0, .aload_n 0, 1), (1, .getfield 9, 3), (4, .ifCond .eq 4, 3), (7, .return_, 1), (8, .iload_n 1, 1), (9, .tableswitch 109 0 3 #[31, 51, 71, 96], 31), (40, .aload_n 0, 1), (41, .aload_n 0, 1), (42, .aload_n 0, 1), (43, .getfield 18, 3), (46, .aload_n 0, 1), (47, .getfield 22, 3), (50, .iconst 0, 1), (51, .invokevirtual 126, 3), (54, .putfield 22, 3), (57, .goto 66, 3), (60, .aload_n 0, 1), (61, .aload_n 0, 1), (62, .aload_n 0, 1), (63, .getfield 25, 3), (66, .aload_n 0, 1), (67, .getfield 28, 3), (70, .iconst 0, 1), (71, .invokevirtual 126, 3), (74, .putfield 28, 3), (77, .goto 46, 3), (80, .aload_n 0, 1), (81, .getfield 31, 3), (84, .aload_n 0, 1), (85, .getfield 40, 3), (88, .iconst 0, 1), (89, .iaload, 1), (90, .dup2, 1), (91, .iaload, 1), (92, .iconst 1, 1), (93, .aload_n 0, 1), (94, .getfield 40, 3), (97, .iconst 1, 1), (98, .iaload, 1), (99, .ishl, 1), (100, .ior, 1), (101, .iastore, 1), (102, .goto 21, 3), (105, .aload_n 0, 1), (106, .aload_n 0, 1), (107, .getfield 40, 3), (110, .iconst 0, 1), (111, .iaload, 1), (112, .putfield 34, 3), (115, .goto 8, 3), (118, .aload_n 0, 1), (119, .iload_n 1, 1), (120, .invokevirtual 130, 3), (123, .return_, 1)]
set_option maxRecDepth 100000 in
theorem pm_i40_ok : ∀ x ∈ pm_i40, decode prog_8_method_11_code x.1 = .ok (x.2.1, x.2.2) := nc_all (by decide +kernel) (by decide +kernel)
def pm_i41 : List (Nat × Instr × Nat) := [(0, .aload_n 0, 1), (1, .getfield 40, 3), (4, .iconst 0, 1), (5, .aload_n 1, 1), (6, .iload_n 2, 1), (7, .iconst 4, 1), (8, .imul, 1), (9, .iload_n 3, 1), (10, .iadd, 1), (11, .iconst 4, 1), (12, .iload_n 3, 1), (13, .isub, 1), (14, .invokestatic 139, 3), (17, .iload_n 2, 1), (18, .iconst 1, 1), (19, .iadd, 1), (20, .ireturn, 1)]
set_option maxRecDepth 100000 in
theorem pm_i41_ok : ∀ x ∈ pm_i41, decode prog_8_method_13_code x.1 = .ok (x.2.1, x.2.2) := nc_all (by decide +kernel) (by decide +kernel)
def pm_i42 : List (Nat × Instr × Nat) := [(0, .iload_n 1, 1), (1, .bipush 7, 2), (3, .if_icmp .ge 42, 3), (6, .aload_n 0, 1), (7, .aload_n 0, 1), (8, .getfield 37, 3), (11, .aload_n 0, 1), (12, .getfield 40, 3), (15, .iconst 0, 1), (16, .iaload, 1), (17, .invokestatic 133, 3), (20, .putfield 37, 3), (23, .iload_n 1, 1), (24, .iconst 4, 1), (25, .if_icmp .ne 20, 3), (28, .aload_n 0, 1), (29, .aload_n 0, 1), (30, .getfield 37, 3), (33, .aload_n 0, 1), (34, .getfield 40, 3), (37, .iconst 1, 1), (38, .iaload, 1), (39, .invokestatic 133, 3), (42, .putfield 37, 3), (45, .aload_n 0, 1), (46, .getfield 18, 3), (49, .aload_n 0, 1), (50, .getfield 22, 3), (53, .iconst 4, 1), (54, .imul, 1), (55, .iload_n 1, 1), (56, .bipush 7, 2), (58, .if_icmp .ge 9, 3), (61, .iload_n 1, 1), (62, .iconst 4, 1), (63, .isub, 1), (64, .goto 7, 3), (67, .iload_n 1, 1), (68, .bipush 7, 2), (70, .isub, 1), (71, .iastore, 1), (72, .aload_n 0, 1), (73, .aload_n 0, 1), (74, .aload_n 0, 1), (75, .getfield 18, 3), (78, .aload_n 0, 1), (79, .getfield 22, 3), (82, .iconst 1, 1), (83, .invokevirtual 126, 3), (86, .putfield 22, 3), (89, .return_, 1)]
set_option maxRecDepth 100000 in
theorem pm_i42_ok : ∀ x ∈ pm_i42, decode prog_8_method_12_code x.1 = .ok (x.2.1, x.2.2) := nc_all (by decide +kernel) (by decide +kernel)
def pm_i43 : List (Nat × Instr × Nat) := [(0, .iload_n 1, 1), (1, .tableswitch 96 0 2 #[27, 50, 73], 27), (28, .aload_n 0, 1), (29, .getfield 14, 3), (32, .getfield 98, 3), (35, .iload_n 2, 1), (36, .new 102, 3), (39, .dup, 1), (40, .aload_n 0, 1), (41, .getfield 31, 3), (44, .invokespecial 104, 3), (47, .aastore, 1), (48, .goto 69, 3), (51, .aload_n 0, 1), (52, .getfield 14, 3), (55, .getfield 107, 3), (58, .iload_n 2, 1), (59, .new 111, 3), (62, .dup, 1), (63, .aload_n 0, 1), (64, .getfield 31, 3), (67, .invokespecial 113, 3), (70, .aastore, 1), (71, .goto 46, 3), (74, .aload_n 0, 1), (75, .getfield 14, 3), (78, .getfield 114, 3), (81, .iload_n 2, 1), (82, .new 118, 3), (85, .dup, 1), (86, .aload_n 0, 1), (87, .getfield 31, 3), (90, .invokespecial 120, 3), (93, .aastore, 1), (94, .goto 23, 3), (97, .aload_n 0, 1), (98, .getfield 14, 3), (101, .getfield 121, 3), (104, .iload_n 2, 1), (105, .new 125, 3), (108, .dup, 1), (109, .aload_n 0, 1), (110, .getfield 31, 3), (113, .invokespecial 127, 3), (116, .aastore, 1), (117, .return_, 1)]
set_option maxRecDepth 100000 in
theorem pm_i43_ok : ∀ x ∈ pm_i43, decode prog_1_method_5_code x.1 = .ok (x.2.1, x.2.2) := nc_all (by decide +kernel) (by decide +kernel)
def pm_i44_0 : List (Nat × Instr × Nat) := [(0, .aload_n 0, 1), (1, .invokespecial 3, 3), (4, .aload_n 0, 1), (5, .bipush 60, 2), (7, .newarray .long, 2), (9, .putfield 9, 3), (12, .aload_n 0, 1), (13, .bipush 100, 2), (15, .newarray .int, 2), (17, .putfield 15, 3), (20, .aload_n 0, 1), (21, .aload_n 1, 1), (22, .getfield 19, 3), (25, .putfield 25, 3), (28, .aload_n 0, 1), (29, .aload_n 1, 1), (30, .getfield 28, 3), (33, .aload_n 0, 1), (34, .getfield 25, 3), (37, .iconst 4, 1), (38, .imul, 1), (39, .invokestatic 31, 3), (42, .putfield 37, 3), (45, .aload_n 0, 1), (46, .aload_n 1, 1), (47, .getfield 40, 3), (50, .putfield 43, 3), (53, .aload_n 0, 1), (54, .aload_n 1, 1), (55, .getfield 44, 3), (58, .aload_n 0, 1), (59, .getfield 43, 3), (62, .iconst 4, 1), (63, .imul, 1), (64, .invokestatic 31, 3), (67, .putfield 47, 3), (70, .aload_n 0, 1), (71, .aload_n 1, 1), (72, .getfield 48, 3), (75, .invokevirtual 51, 3), (78, .checkcast 52, 3), (81, .putfield 56, 3), (84, .iconst 0, 1), (85, .istore_n 2, 1), (86, .iload_n 2, 1), (87, .aload_n 0, 1), (88, .getfield 43, 3), (91, .if_icmp .ge 51, 3), (94, .aload_n 0, 1), (95, .getfield 9, 3), (98, .aload_n 0, 1), (99, .getfield 47, 3), (102, .iload_n 2, 1), (103, .iconst 4, 1), (104, .imul, 1), (105, .iaload, 1), (106, .bipush 6, 2), (108, .imul, 1), (109, .aload_n 0, 1), (110, .getfield 47, 3)]
def pm_i44_1 : List (Nat × Instr × Nat) := [(113, .iload_n 2, 1), (114, .iconst 4, 1), (115, .imul, 1), (116, .iconst 1, 1), (117, .iadd, 1), (118, .iaload, 1), (119, .iadd, 1), (120, .dup2, 1), (121, .laload, 1), (122, .lconst 1, 1), (123, .aload_n 0, 1), (124, .getfield 47, 3), (127, .iload_n 2, 1), (128, .iconst 4, 1), (129, .imul, 1), (130, .iconst 2, 1), (131, .iadd, 1), (132, .iaload, 1), (133, .lshl, 1), (134, .lor, 1), (135, .lastore, 1), (136, .iinc 2 1, 3), (139, .goto (-53), 3), (142, .iconst 0, 1), (143, .istore_n 2, 1), (144, .iload_n 2, 1), (145, .bipush 10, 2), (147, .if_icmp .ge 18, 3), (150, .aload_n 0, 1), (151, .getfield 15, 3), (154, .iload_n 2, 1), (155, .iconst 1, 1), (156, .iload_n 2, 1), (157, .ishl, 1), (158, .iastore, 1), (159, .iinc 2 1, 3), (162, .goto (-18), 3), (165, .iconst 0, 1), (166, .istore_n 2, 1), (167, .iconst 1, 1), (168, .istore_n 3, 1), (169, .iload_n 3, 1), (170, .bipush 9, 2), (172, .if_icmp .gt 19, 3), (175, .aload_n 0, 1), (176, .iload_n 3, 1), (177, .invokevirtual 57, 3), (180, .ifCond .eq 5, 3), (183, .iload_n 3, 1), (184, .istore_n 2, 1), (185, .iinc 3 1, 3), (188, .goto (-19), 3), (191, .aload_n 0, 1), (192, .iload_n 2, 1), (193, .putfield 61, 3), (196, .return_, 1)]
def pm_i44 : List (Nat × Instr × Nat) := pm_i44_0 ++ (pm_i44_1)
set_option maxRecDepth 100000 in
theorem pm_i44_ok : ∀ x ∈ pm_i44, decode prog_6_method_1_code x.1 = .ok (x.2.1, x.2.2) := nc_all (by decide +kernel) (by decide +kernel)
def pm_i45 : List (Nat × Instr × Nat) := [(0, .iload_n 1, 1), (1, .aload_n 0, 1), (2, .arraylength, 1), (3, .if_icmp .ne 11, 3), (6, .aload_n 0, 1), (7, .invokevirtual 316, 3), (10, .checkcast 317, 3), (13, .areturn, 1), (14, .iload_n 1, 1), (15, .newarray .int, 2), (17, .astore_n 2, 1), (18, .aload_n 0, 1), (19, .iconst 0, 1), (20, .aload_n 2, 1), (21, .iconst 0, 1), (22, .aload_n 0, 1), (23, .arraylength, 1), (24, .iload_n 1, 1), (25, .invokestatic 304, 3), (28, .invokestatic 150, 3), (31, .aload_n 2, 1), (32, .areturn, 1)]
set_option maxRecDepth 100000 in
theorem pm_i45_ok : ∀ x ∈ pm_i45, decode prog_23_method_123_code x.1 = .ok (x.2.1, x.2.2) := nc_all (by decide +kernel) (by decide +kernel)
def pm_i46_0 : List (Nat × Instr × Nat) := [(0, .iconst 0, 1), (1, .istore_n 2, 1), (2, .iconst 0, 1), (3, .istore_n 3, 1), (4, .iload_n 3, 1), (5, .bipush 10, 2), (7, .if_icmp .ge 94, 3), (10, .aload_n 0, 1), (11, .getfield 15, 3), (14, .iload_n 1, 1), (15, .iconst 1, 1), (16, .isub, 1), (17, .bipush 10, 2), (19, .imul, 1), (20, .iload_n 3, 1), (21, .iadd, 1), (22, .iaload, 1), (23, .istore 4, 2), (25, .iload 4, 2), (27, .istore 5, 2), (29, .iconst 0, 1), (30, .istore 6, 2), (32, .iload 6, 2), (34, .bipush 10, 2), (36, .if_icmp .ge 31, 3), (39, .iload 4, 2), (41, .iload 6, 2), (43, .iushr, 1), (44, .iconst 1, 1), (45, .iand, 1), (46, .ifCond .eq 15, 3), (49, .iload 5, 2), (51, .aload_n 0, 1), (52, .getfield 56, 3), (55, .iload 6, 2), (57, .iaload, 1), (58, .ior, 1), (59, .istore 5, 2), (61, .iinc 6 1, 3), (64, .goto (-32), 3), (67, .aload_n 0, 1), (68, .getfield 15, 3), (71, .iload_n 1, 1), (72, .bipush 10, 2), (74, .imul, 1), (75, .iload_n 3, 1), (76, .iadd, 1), (77, .iload 5, 2), (79, .iastore, 1), (80, .iload_n 2, 1), (81, .iload 5, 2), (83, .iload 4, 2), (85, .if_icmp .eq 7, 3), (88, .iconst 1, 1), (89, .goto 4, 3), (92, .iconst 0, 1), (93, .ior, 1), (94, .istore_n 2, 1), (95, .iinc 3 1, 3), (98, .goto (-94), 3)]
def pm_i46_1 : List (Nat × Instr × Nat) := [(101, .iload_n 2, 1), (102, .ireturn, 1)]
def pm_i46 : List (Nat × Instr × Nat) := pm_i46_0 ++ (pm_i46_1)
set_option maxRecDepth 100000 in
theorem pm_i46_ok : ∀ x ∈ pm_i46, decode prog_6_method_2_code x.1 = .ok (x.2.1, x.2.2) := nc_all (by decide +kernel) (by decide +kernel)
def pm_i47 : List (Nat × Instr × Nat) := [(0, .aload_n 0, 1), (1, .invokespecial 1, 3), (4, .aload_n 0, 1), (5, .aload_n 1, 1), (6, .getfield 7, 3), (9, .putfield 13, 3), (12, .aload_n 0, 1), (13, .aload_n 1, 1), (14, .getfield 18, 3), (17, .aload_n 0, 1), (18, .getfield 13, 3), (21, .invokestatic 22, 3), (24, .putfield 28, 3), (27, .return_, 1)]
set_option maxRecDepth 100000 in
theorem pm_i47_ok : ∀ x ∈ pm_i47, decode prog_7_method_1_code x.1 = .ok (x.2.1, x.2.2) := nc_all (by decide +kernel) (by decide +kernel)
def pm_i48_0 : List (Nat × Instr × Nat) := [(0, .aload_n 0, 1), (1, .invokespecial 3, 3), (4, .aload_n 0, 1), (5, .aload_n 1, 1), (6, .getfield 9, 3), (9, .putfield 15, 3), (12, .aload_n 0, 1), (13, .aload_n 1, 1), (14, .getfield 18, 3), (17, .putfield 21, 3), (20, .aload_n 0, 1), (21, .aload_n 1, 1), (22, .getfield 24, 3), (25, .aload_n 0, 1), (26, .getfield 21, 3), (29, .iconst 4, 1), (30, .imul, 1), (31, .invokestatic 28, 3), (34, .putfield 34, 3), (37, .aload_n 0, 1), (38, .aload_n 0, 1), (39, .getfield 21, 3), (42, .iconst 1, 1), (43, .iadd, 1), (44, .aload_n 0, 1), (45, .getfield 15, 3), (48, .imul, 1), (49, .newarray .int, 2), (51, .putfield 37, 3), (54, .aload_n 0, 1), (55, .aload_n 0, 1), (56, .getfield 21, 3), (59, .newarray .int, 2), (61, .putfield 40, 3), (64, .aload_n 0, 1), (65, .getfield 37, 3), (68, .iconst 0, 1), (69, .aload_n 0, 1), (70, .getfield 15, 3), (73, .iconst (-1), 1), (74, .invokestatic 43, 3), (77, .iconst 0, 1), (78, .istore_n 2, 1), (79, .iload_n 2, 1), (80, .aload_n 0, 1), (81, .getfield 21, 3), (84, .if_icmp .ge 94, 3), (87, .aload_n 0, 1), (88, .getfield 37, 3), (91, .iload_n 2, 1), (92, .aload_n 0, 1), (93, .getfield 15, 3), (96, .imul, 1), (97, .aload_n 0, 1), (98, .getfield 37, 3), (101, .iload_n 2, 1), (102, .iconst 1, 1), (103, .iadd, 1), (104, .aload_n 0, 1), (105, .getfield 15, 3)]
def pm_i48_1 : List (Nat × Instr × Nat) := [(108, .imul, 1), (109, .aload_n 0, 1), (110, .getfield 15, 3), (113, .invokestatic 47, 3), (116, .aload_n 0, 1), (117, .iload_n 2, 1), (118, .invokevirtual 53, 3), (121, .ifCond .eq 22, 3), (124, .aload_n 0, 1), (125, .getfield 40, 3), (128, .iload_n 2, 1), (129, .aload_n 0, 1), (130, .aload_n 0, 1), (131, .iload_n 2, 1), (132, .invokevirtual 57, 3), (135, .iload_n 2, 1), (136, .invokevirtual 61, 3), (139, .iastore, 1), (140, .goto 32, 3), (143, .aload_n 0, 1), (144, .getfield 37, 3), (147, .iload_n 2, 1), (148, .iconst 1, 1), (149, .iadd, 1), (150, .aload_n 0, 1), (151, .getfield 15, 3), (154, .imul, 1), (155, .aload_n 0, 1), (156, .iload_n 2, 1), (157, .invokevirtual 57, 3), (160, .iadd, 1), (161, .aload_n 0, 1), (162, .getfield 34, 3), (165, .iload_n 2, 1), (166, .iconst 4, 1), (167, .imul, 1), (168, .iconst 2, 1), (169, .iadd, 1), (170, .iaload, 1), (171, .iastore, 1), (172, .iinc 2 1, 3), (175, .goto (-96), 3), (178, .return_, 1)]
def pm_i48 : List (Nat × Instr × Nat) := pm_i48_0 ++ (pm_i48_1)
set_option maxRecDepth 100000 in
theorem pm_i48_ok : ∀ x ∈ pm_i48, decode prog_3_method_1_code x.1 = .ok (x.2.1, x.2.2) := nc_all (by decide +kernel) (by decide +kernel)
def pm_i49 : List (Nat × Instr × Nat) := [(0, .aload_n 0, 1), (1, .arraylength, 1), (2, .iload_n 1, 1), (3, .iload_n 2, 1), (4, .invokestatic 13, 3), (7, .iload_n 1, 1), (8, .istore 4, 2), (10, .iload 4, 2), (12, .iload_n 2, 1), (13, .if_icmp .ge 14, 3), (16, .aload_n 0, 1), (17, .iload 4, 2), (19, .iload_n 3, 1), (20, .iastore, 1), (21, .iinc 4 1, 3), (24, .goto (-14), 3), (27, .return_, 1)]
set_option maxRecDepth 100000 in
theorem pm_i49_ok : ∀ x ∈ pm_i49, decode prog_23_method_104_code x.1 = .ok (x.2.1, x.2.2) := nc_all (by decide +kernel) (by decide +kernel)
def pm_i50 : List (Nat × Instr × Nat) := [(0, .iload_n 1, 1), (1, .iload_n 2, 1), (2, .if_icmp .le 44, 3), (5, .new 43, 3), (8, .dup, 1), (9, .new 45, 3), (12, .dup, 1), (13, .invokespecial 47, 3), (16, .ldc 48, 2), (18, .invokevirtual 50, 3), (21, .iload_n 1, 1), (22, .invokevirtual 54, 3), (25, .ldc 57, 2), (27, .invokevirtual 50, 3), (30, .iload_n 2, 1), (31, .invokevirtual 54, 3), (34, .ldc 59, 2), (36, .invokevirtual 50, 3), (39, .invokevirtual 61, 3), (42, .invokespecial 65, 3), (45, .athrow, 1), (46, .iload_n 1, 1), (47, .ifCond .ge 12, 3), (50, .new 68, 3), (53, .dup, 1), (54, .iload_n 1, 1), (55, .invokespecial 70, 3), (58, .athrow, 1), (59, .iload_n 2, 1), (60, .iload_n 0, 1), (61, .if_icmp .le 12, 3), (64, .new 68, 3), (67, .dup, 1), (68, .iload_n 2, 1), (69, .invokespecial 70, 3), (72, .athrow, 1), (73, .return_, 1)]
set_option maxRecDepth 100000 in
theorem pm_i50_ok : ∀ x ∈ pm_i50, decode prog_23_method_30_code x.1 = .ok (x.2.1, x.2.2) := nc_all (by decide +kernel) (by decide +kernel)
def pm_i51 : List (Nat × Instr × Nat) := [(0, .aload_n 0, 1), (1, .getfield 34, 3), (4, .iload_n 1, 1), (5, .iconst 4, 1), (6, .imul, 1), (7, .iaload, 1), (8, .iconst 2, 1), (9, .if_icmp .ne 7, 3), (12, .iconst 1, 1), (13, .goto 4, 3), (16, .iconst 0, 1), (17, .ireturn, 1)]
set_option maxRecDepth 100000 in
theorem pm_i51_ok : ∀ x ∈ pm_i51, decode prog_3_method_4_code x.1 = .ok (x.2.1, x.2.2) := nc_all (by decide +kernel) (by decide +kernel)
def pm_i52 : List (Nat × Instr × Nat) := [(0, .aload_n 0, 1), (1, .getfield 34, 3), (4, .iload_n 1, 1), (5, .iconst 4, 1), (6, .imul, 1), (7, .iconst 1, 1), (8, .iadd, 1), (9, .iaload, 1), (10, .ireturn, 1)]
set_option maxRecDepth 100000 in
theorem pm_i52_ok : ∀ x ∈ pm_i52, decode prog_3_method_5_code x.1 = .ok (x.2.1, x.2.2) := nc_all (by decide +kernel) (by decide +kernel)
def pm_i53 : List (Nat × Instr × Nat) := [(0, .iconst 0, 1), (1, .istore_n 3, 1), (2, .iconst 0, 1), (3, .istore 4, 2), (5, .iload 4, 2), (7, .aload_n 0, 1), (8, .getfield 15, 3), (11, .if_icmp .ge 34, 3), (14, .aload_n 0, 1), (15, .getfield 37, 3), (18, .iload_n 2, 1), (19, .aload_n 0, 1), (20, .getfield 15, 3), (23, .imul, 1), (24, .iload 4, 2), (26, .iadd, 1), (27, .iaload, 1), (28, .iload_n 1, 1), (29, .if_icmp .ne 10, 3), (32, .iload_n 3, 1), (33, .iconst 1, 1), (34, .iload 4, 2), (36, .ishl, 1), (37, .ior, 1), (38, .istore_n 3, 1), (39, .iinc 4 1, 3), (42, .goto (-37), 3), (45, .iload_n 3, 1), (46, .ireturn, 1)]
set_option maxRecDepth 100000 in
theorem pm_i53_ok : ∀ x ∈ pm_i53, decode prog_3_method_2_code x.1 = .ok (x.2.1, x.2.2) := nc_all (by decide +kernel) (by decide +kernel)
def pm_i54 : List (Nat × Instr × Nat) := [(0, .aload_n 0, 1), (1, .invokespecial 3, 3), (4, .aload_n 0, 1), (5, .aload_n 1, 1), (6, .getfield 9, 3), (9, .putfield 15, 3), (12, .aload_n 0, 1), (13, .aload_n 1, 1), (14, .getfield 20, 3), (17, .aload_n 0, 1), (18, .getfield 15, 3), (21, .iconst 4, 1), (22, .imul, 1), (23, .invokestatic 24, 3), (26, .putfield 30, 3), (29, .return_, 1)]
set_option maxRecDepth 100000 in
theorem pm_i54_ok : ∀ x ∈ pm_i54, decode prog_2_method_1_code x.1 = .ok (x.2.1, x.2.2) := nc_all (by decide +kernel) (by decide +kernel)
def pm_i55 : List (Nat × Instr × Nat) := [(0, .iload_n 1, 1), (1, .ifCond .ne 11, 3), (4, .aload_n 0, 1), (5, .getfield 14, 3), (8, .getfield 80, 3), (11, .ireturn, 1), (12, .iload_n 1, 1), (13, .iconst 1, 1), (14, .if_icmp .ne 13, 3), (17, .aload_n 0, 1), (18, .getfield 14, 3), (21, .getfield 83, 3), (24, .goto 4, 3), (27, .iconst (-1), 1), (28, .ireturn, 1)]
set_option maxRecDepth 100000 in
theorem pm_i55_ok : ∀ x ∈ pm_i55, decode prog_1_method_6_code x.1 = .ok (x.2.1, x.2.2) := nc_all (by decide +kernel) (by decide +kernel)
def pm_i56 : List (Nat × Instr × Nat) := [(0, .iload_n 1, 1), (1, .ifCond .lt 8, 3), (4, .iload_n 1, 1), (5, .iconst 4, 1), (6, .if_icmp .lt 8, 3), (9, .bipush (-2), 2), (11, .goto 12, 3), (14, .aload_n 0, 1), (15, .getfield 14, 3), (18, .getfield 86, 3), (21, .iload_n 1, 1), (22, .iaload, 1), (23, .ireturn, 1)]
set_option maxRecDepth 100000 in
theorem pm_i56_ok : ∀ x ∈ pm_i56, decode prog_1_method_7_code x.1 = .ok (x.2.1, x.2.2) := nc_all (by decide +kernel) (by decide +kernel)
def pm_i57 : List (Nat × Instr × Nat) := [(0, .iload_n 1, 1), (1, .ifCond .lt 8, 3), (4, .iload_n 1, 1), (5, .iconst 3, 1), (6, .if_icmp .lt 5, 3), (9, .iconst 0, 1), (10, .ireturn, 1), (11, .aload_n 0, 1), (12, .getfield 18, 3), (15, .iload_n 1, 1), (16, .aaload, 1), (17, .ifnonnull 16, 3), (20, .aload_n 0, 1), (21, .getfield 18, 3), (24, .iload_n 1, 1), (25, .new 11, 3), (28, .dup, 1), (29, .invokespecial 13, 3), (32, .aastore, 1), (33, .aload_n 0, 1), (34, .getfield 18, 3), (37, .iload_n 1, 1), (38, .aaload, 1), (39, .aload_n 0, 1), (40, .getfield 14, 3), (43, .invokevirtual 128, 3), (46, .iconst 1, 1), (47, .ireturn, 1)]
set_option maxRecDepth 100000 in
theorem pm_i57_ok : ∀ x ∈ pm_i57, decode prog_1_method_8_code x.1 = .ok (x.2.1, x.2.2) := nc_all (by decide +kernel) (by decide +kernel)
def pm_i58 : List (Nat × Instr × Nat) := [(0, .aload_n 1, 1), (1, .getfield 9, 3), (4, .iconst 0, 1), (5, .aload_n 0, 1), (6, .getfield 9, 3), (9, .iconst 0, 1), (10, .sipush 600, 3), (13, .invokestatic 56, 3), (16, .aload_n 0, 1), (17, .aload_n 1, 1), (18, .getfield 15, 3), (21, .putfield 15, 3), (24, .aload_n 0, 1), (25, .aload_n 1, 1), (26, .getfield 19, 3), (29, .putfield 19, 3), (32, .aload_n 0, 1), (33, .aload_n 1, 1), (34, .getfield 22, 3), (37, .putfield 22, 3), (40, .aload_n 1, 1), (41, .getfield 53, 3), (44, .iconst 0, 1), (45, .aload_n 0, 1), (46, .getfield 53, 3), (49, .iconst 0, 1), (50, .iconst 4, 1), (51, .invokestatic 56, 3), (54, .aload_n 0, 1), (55, .aload_n 1, 1), (56, .invokevirtual 62, 3), (59, .return_, 1)]
set_option maxRecDepth 100000 in
theorem pm_i58_ok : ∀ x ∈ pm_i58, decode prog_10_method_3_code x.1 = .ok (x.2.1, x.2.2) := nc_all (by decide +kernel) (by decide +kernel)
def pm_i59_0 : List (Nat × Instr × Nat) := [(0, .iconst 0, 1), (1, .istore_n 2, 1), (2, .iload_n 2, 1), (3, .aload_n 0, 1), (4, .getfield 31, 3), (7, .arraylength, 1), (8, .if_icmp .ge 21, 3), (11, .aload_n 0, 1), (12, .getfield 31, 3), (15, .iload_n 2, 1), (16, .aload_n 1, 1), (17, .getfield 31, 3), (20, .iload_n 2, 1), (21, .aaload, 1), (22, .aastore, 1), (23, .iinc 2 1, 3), (26, .goto (-24), 3), (29, .iconst 0, 1), (30, .istore_n 2, 1), (31, .iload_n 2, 1), (32, .aload_n 0, 1), (33, .getfield 37, 3), (36, .arraylength, 1), (37, .if_icmp .ge 21, 3), (40, .aload_n 0, 1), (41, .getfield 37, 3), (44, .iload_n 2, 1), (45, .aload_n 1, 1), (46, .getfield 37, 3), (49, .iload_n 2, 1), (50, .aaload, 1), (51, .aastore, 1), (52, .iinc 2 1, 3), (55, .goto (-24), 3), (58, .iconst 0, 1), (59, .istore_n 2, 1), (60, .iload_n 2, 1), (61, .aload_n 0, 1), (62, .getfield 43, 3), (65, .arraylength, 1), (66, .if_icmp .ge 21, 3), (69, .aload_n 0, 1), (70, .getfield 43, 3), (73, .iload_n 2, 1), (74, .aload_n 1, 1), (75, .getfield 43, 3), (78, .iload_n 2, 1), (79, .aaload, 1), (80, .aastore, 1), (81, .iinc 2 1, 3), (84, .goto (-24), 3), (87, .iconst 0, 1), (88, .istore_n 2, 1), (89, .iload_n 2, 1), (90, .aload_n 0, 1), (91, .getfield 49, 3), (94, .arraylength, 1), (95, .if_icmp .ge 21, 3), (98, .aload_n 0, 1), (99, .getfield 49, 3)]
def pm_i59_1 : List (Nat × Instr × Nat) := [(102, .iload_n 2, 1), (103, .aload_n 1, 1), (104, .getfield 49, 3), (107, .iload_n 2, 1), (108, .aaload, 1), (109, .aastore, 1), (110, .iinc 2 1, 3), (113, .goto (-24), 3), (116, .return_, 1)]
def pm_i59 : List (Nat × Instr × Nat) := pm_i59_0 ++ (pm_i59_1)
set_option maxRecDepth 100000 in
theorem pm_i59_ok : ∀ x ∈ pm_i59, decode prog_10_method_4_code x.1 = .ok (x.2.1, x.2.2) := nc_all (by decide +kernel) (by decide +kernel)
def pm_i60 : List (Nat × Instr × Nat) := [(0, .iload_n 1, 1), (1, .ifCond .lt 17, 3), (4, .iload_n 1, 1), (5, .iconst 3, 1), (6, .if_icmp .ge 12, 3), (9, .aload_n 0, 1), (10, .getfield 18, 3), (13, .iload_n 1, 1), (14, .aaload, 1), (15, .ifnonnull 5, 3), (18, .iconst 0, 1), (19, .ireturn, 1), (20, .aload_n 0, 1), (21, .getfield 14, 3), (24, .aload_n 0, 1), (25, .getfield 18, 3), (28, .iload_n 1, 1), (29, .aaload, 1), (30, .invokevirtual 128, 3), (33, .iconst 1, 1), (34, .ireturn, 1)]
set_option maxRecDepth 100000 in
theorem pm_i60_ok : ∀ x ∈ pm_i60, decode prog_1_method_9_code x.1 = .ok (x.2.1, x.2.2) := nc_all (by decide +kernel) (by decide +kernel)
def pm_i61 : List (Nat × Instr × Nat) := [(0, .aload_n 0, 1), (1, .iload_n 1, 1), (2, .invokevirtual 132, 3), (5, .astore_n 3, 1), (6, .aload_n 3, 1), (7, .ifnonnull 5, 3), (10, .iconst (-1), 1), (11, .ireturn, 1), (12, .iload_n 2, 1), (13, .ifCond .ne 8, 3), (16, .aload_n 3, 1), (17, .getfield 136, 3), (20, .ireturn, 1), (21, .iload_n 2, 1), (22, .iconst 1, 1), (23, .if_icmp .ne 8, 3), (26, .aload_n 3, 1), (27, .getfield 139, 3), (30, .ireturn, 1), (31, .iload_n 2, 1), (32, .bipush 10, 2), (34, .if_icmp .lt 21, 3), (37, .iload_n 2, 1), (38, .bipush 20, 2), (40, .if_icmp .ge 15, 3), (43, .aload_n 3, 1), (44, .getfield 142, 3), (47, .iload_n 2, 1), (48, .bipush 10, 2), (50, .isub, 1), (51, .iaload, 1), (52, .goto 4, 3), (55, .iconst (-1), 1), (56, .ireturn, 1)]
set_option maxRecDepth 100000 in
theorem pm_i61_ok : ∀ x ∈ pm_i61, decode prog_1_method_14_code x.1 = .ok (x.2.1, x.2.2) := nc_all (by decide +kernel) (by decide +kernel)
def pm_i62 : List (Nat × Instr × Nat) := [(0, .iload_n 1, 1), (1, .ifCond .lt 16, 3), (4, .iload_n 1, 1), (5, .aload_n 0, 1), (6, .getfield 14, 3), (9, .getfield 86, 3), (12, .iconst 0, 1), (13, .iaload, 1), (14, .if_icmp .lt 7, 3), (17, .aconst_null, 1), (18, .goto 12, 3), (21, .aload_n 0, 1), (22, .getfield 14, 3), (25, .getfield 98, 3), (28, .iload_n 1, 1), (29, .aaload, 1), (30, .areturn, 1)]
set_option maxRecDepth 100000 in
theorem pm_i62_ok : ∀ x ∈ pm_i62, decode prog_1_method_10_code x.1 = .ok (x.2.1, x.2.2) := nc_all (by decide +kernel) (by decide +kernel)
def pm_i63 : List (Nat × Instr × Nat) := [(0, .aload_n 0, 1), (1, .iload_n 1, 1), (2, .invokevirtual 132, 3), (5, .astore 4, 2), (7, .aload 4, 2), (9, .ifnull 25, 3), (12, .iload_n 2, 1), (13, .ifCond .lt 21, 3), (16, .iload_n 2, 1), (17, .aload 4, 2), (19, .getfield 136, 3), (22, .if_icmp .ge 12, 3), (25, .iload_n 3, 1), (26, .ifCond .lt 8, 3), (29, .iload_n 3, 1), (30, .iconst 3, 1), (31, .if_icmp .le 5, 3), (34, .iconst (-1), 1), (35, .ireturn, 1), (36, .aload 4, 2), (38, .getfield 145, 3), (41, .iload_n 2, 1), (42, .iconst 4, 1), (43, .imul, 1), (44, .iload_n 3, 1), (45, .iadd, 1), (46, .iaload, 1), (47, .ireturn, 1)]
set_option maxRecDepth 100000 in
theorem pm_i63_ok : ∀ x ∈ pm_i63, decode prog_1_method_15_code x.1 = .ok (x.2.1, x.2.2) := nc_all (by decide +kernel) (by decide +kernel)
def pm_i64 : List (Nat × Instr × Nat) := [(0, .aload_n 0, 1), (1, .iload_n 1, 1), (2, .invokevirtual 132, 3), (5, .astore 4, 2), (7, .aload 4, 2), (9, .ifnull 25, 3), (12, .iload_n 2, 1), (13, .ifCond .lt 21, 3), (16, .iload_n 2, 1), (17, .aload 4, 2), (19, .getfield 139, 3), (22, .if_icmp .ge 12, 3), (25, .iload_n 3, 1), (26, .ifCond .lt 8, 3), (29, .iload_n 3, 1), (30, .iconst 2, 1), (31, .if_icmp .le 5, 3), (34, .iconst (-1), 1), (35, .ireturn, 1), (36, .aload 4, 2), (38, .getfield 148, 3), (41, .iload_n 2, 1), (42, .iconst 4, 1), (43, .imul, 1), (44, .iload_n 3, 1), (45, .iadd, 1), (46, .iaload, 1), (47, .ireturn, 1)]
set_option maxRecDepth 100000 in
theorem pm_i64_ok : ∀ x ∈ pm_i64, decode prog_1_method_16_code x.1 = .ok (x.2.1, x.2.2) := nc_all (by decide +kernel) (by decide +kernel)
def pm_i65 : List (Nat × Instr × Nat) := [(0, .aload_n 0, 1), (1, .iload_n 1, 1), (2, .invokevirtual 151, 3), (5, .astore_n 3, 1), (6, .aload_n 3, 1), (7, .ifnonnull 6, 3), (10, .bipush (-2), 2), (12, .ireturn, 1), (13, .iload_n 2, 1), (14, .iconst (-1), 1), (15, .if_icmp .ne 8, 3), (18, .aload_n 3, 1), (19, .getfield 155, 3), (22, .ireturn, 1), (23, .aload_n 3, 1), (24, .iload_n 2, 1), (25, .invokevirtual 156, 3), (28, .ifCond .eq 12, 3), (31, .aload_n 3, 1), (32, .getfield 160, 3), (35, .iload_n 2, 1), (36, .iaload, 1), (37, .goto 5, 3), (40, .bipush (-2), 2), (42, .ireturn, 1)]
set_option maxRecDepth 100000 in
theorem pm_i65_ok : ∀ x ∈ pm_i65, decode prog_1_method_17_code x.1 = .ok (x.2.1, x.2.2) := nc_all (by decide +kernel) (by decide +kernel)
def pm_i66 : List (Nat × Instr × Nat) := [(0, .iload_n 1, 1), (1, .ifCond .lt 16, 3), (4, .iload_n 1, 1), (5, .aload_n 0, 1), (6, .getfield 14, 3), (9, .getfield 86, 3), (12, .iconst 1, 1), (13, .iaload, 1), (14, .if_icmp .lt 7, 3), (17, .aconst_null, 1), (18, .goto 12, 3), (21, .aload_n 0, 1), (22, .getfield 14, 3), (25, .getfield 107, 3), (28, .iload_n 1, 1), (29, .aaload, 1), (30, .areturn, 1)]
set_option maxRecDepth 100000 in
theorem pm_i66_ok : ∀ x ∈ pm_i66, decode prog_1_method_11_code x.1 = .ok (x.2.1, x.2.2) := nc_all (by decide +kernel) (by decide +kernel)
def pm_i67 : List (Nat × Instr × Nat) := [(0, .iload_n 1, 1), (1, .ifCond .lt 15, 3), (4, .iload_n 1, 1), (5, .aload_n 0, 1), (6, .getfield 13, 3), (9, .if_icmp .ge 7, 3), (12, .iconst 1, 1), (13, .goto 4, 3), (16, .iconst 0, 1), (17, .ireturn, 1)]
set_option maxRecDepth 100000 in
theorem pm_i67_ok : ∀ x ∈ pm_i67, decode prog_7_method_2_code x.1 = .ok (x.2.1, x.2.2) := nc_all (by decide +kernel) (by decide +kernel)
def pm_i68 : List (Nat × Instr × Nat) := [(0, .aload_n 0, 1), (1, .iload_n 1, 1), (2, .invokevirtual 132, 3), (5, .astore 6, 2), (7, .aload_n 0, 1), (8, .iload_n 2, 1), (9, .invokevirtual 151, 3), (12, .astore 7, 2), (14, .aload 6, 2), (16, .ifnull 30, 3), (19, .aload 7, 2), (21, .ifnull 25, 3), (24, .iload_n 3, 1), (25, .ifCond .lt 21, 3), (28, .iload_n 3, 1), (29, .bipush 6, 2), (31, .if_icmp .ge 15, 3), (34, .aload 7, 2), (36, .iload 4, 2), (38, .iload 5, 2), (40, .invokevirtual 163, 3), (43, .ifCond .ne 7, 3), (46, .ldc2_w 167, 3), (49, .lreturn, 1), (50, .aload_n 0, 1), (51, .getfield 45, 3), (54, .aload 6, 2), (56, .aload 7, 2), (58, .invokevirtual 169, 3), (61, .aload_n 0, 1), (62, .getfield 45, 3), (65, .getfield 173, 3), (68, .iload 4, 2), (70, .iload 5, 2), (72, .invokestatic 177, 3), (75, .bipush 6, 2), (77, .imul, 1), (78, .iload_n 3, 1), (79, .iadd, 1), (80, .laload, 1), (81, .invokestatic 181, 3), (84, .lreturn, 1)]
set_option maxRecDepth 100000 in
theorem pm_i68_ok : ∀ x ∈ pm_i68, decode prog_1_method_18_code x.1 = .ok (x.2.1, x.2.2) := nc_all (by decide +kernel) (by decide +kernel)
def pm_i69 : List (Nat × Instr × Nat) := [(0, .iload_n 1, 1), (1, .ifCond .lt 20, 3), (4, .iload_n 1, 1), (5, .iload_n 2, 1), (6, .if_icmp .gt 15, 3), (9, .iload_n 2, 1), (10, .aload_n 0, 1), (11, .getfield 13, 3), (14, .if_icmp .ge 7, 3), (17, .iconst 1, 1), (18, .goto 4, 3), (21, .iconst 0, 1), (22, .ireturn, 1)]
set_option maxRecDepth 100000 in
theorem pm_i69_ok : ∀ x ∈ pm_i69, decode prog_7_method_3_code x.1 = .ok (x.2.1, x.2.2) := nc_all (by decide +kernel) (by decide +kernel)
def pm_i70 : List (Nat × Instr × Nat) := [(0, .aload_n 0, 1), (1, .getfield 29, 3), (4, .aload_n 1, 1), (5, .if_acmp .ne 12, 3), (8, .aload_n 0, 1), (9, .getfield 33, 3), (12, .aload_n 2, 1), (13, .if_acmp .ne 4, 3), (16, .return_, 1), (17, .aload_n 0, 1), (18, .aload_n 1, 1), (19, .putfield 29, 3), (22, .aload_n 0, 1), (23, .aload_n 2, 1), (24, .putfield 33, 3), (27, .aload_n 0, 1), (28, .getfield 9, 3), (31, .lconst 0, 1), (32, .invokestatic 37, 3), (35, .iconst 0, 1), (36, .istore_n 3, 1), (37, .iload_n 3, 1), (38, .aload_n 0, 1), (39, .getfield 33, 3), (42, .getfield 43, 3), (45, .if_icmp .ge 37, 3), (48, .aload_n 0, 1), (49, .iload_n 3, 1), (50, .invokevirtual 48, 3), (53, .iload_n 3, 1), (54, .iconst 1, 1), (55, .isub, 1), (56, .istore 4, 2), (58, .iload 4, 2), (60, .ifCond .lt 16, 3), (63, .aload_n 0, 1), (64, .iload 4, 2), (66, .iload_n 3, 1), (67, .invokevirtual 52, 3), (70, .iinc 4 (-1), 3), (73, .goto (-15), 3), (76, .iinc 3 1, 3), (79, .goto (-42), 3), (82, .return_, 1)]
set_option maxRecDepth 100000 in
theorem pm_i70_ok : ∀ x ∈ pm_i70, decode prog_11_method_2_code x.1 = .ok (x.2.1, x.2.2) := nc_all (by decide +kernel) (by decide +kernel)
def pm_i71 : List (Nat × Instr × Nat) := [(0, .iconst 0, 1), (1, .istore_n 3, 1), (2, .aload_n 0, 1), (3, .arraylength, 1), (4, .istore 4, 2), (6, .iload_n 3, 1), (7, .iload 4, 2), (9, .if_icmp .ge 13, 3), (12, .aload_n 0, 1), (13, .iload_n 3, 1), (14, .lload_n 1, 1), (15, .lastore, 1), (16, .iinc 3 1, 3), (19, .goto (-13), 3), (22, .return_, 1)]
set_option maxRecDepth 100000 in
theorem pm_i71_ok : ∀ x ∈ pm_i71, decode prog_23_method_101_code x.1 = .ok (x.2.1, x.2.2) := nc_all (by decide +kernel) (by decide +kernel)
def pm_i72 : List (Nat × Instr × Nat) := [(0, .iconst 0, 1), (1, .istore_n 2, 1), (2, .iload_n 2, 1), (3, .aload_n 0, 1), (4, .getfield 29, 3), (7, .getfield 56, 3), (10, .if_icmp .ge 63, 3), (13, .aload_n 0, 1), (14, .getfield 29, 3), (17, .getfield 61, 3), (20, .iload_n 2, 1), (21, .iconst 4, 1), (22, .imul, 1), (23, .iaload, 1), (24, .aload_n 0, 1), (25, .getfield 33, 3), (28, .getfield 64, 3), (31, .iload_n 1, 1), (32, .iaload, 1), (33, .if_icmp .ne 34, 3), (36, .aload_n 0, 1), (37, .getfield 9, 3), (40, .iload_n 1, 1), (41, .iload_n 1, 1), (42, .invokestatic 67, 3), (45, .bipush 6, 2), (47, .imul, 1), (48, .aload_n 0, 1), (49, .getfield 29, 3), (52, .getfield 61, 3), (55, .iload_n 2, 1), (56, .iconst 4, 1), (57, .imul, 1), (58, .iconst 1, 1), (59, .iadd, 1), (60, .iaload, 1), (61, .iadd, 1), (62, .dup2, 1), (63, .laload, 1), (64, .lconst 1, 1), (65, .ladd, 1), (66, .lastore, 1), (67, .iinc 2 1, 3), (70, .goto (-68), 3), (73, .return_, 1)]
set_option maxRecDepth 100000 in
theorem pm_i72_ok : ∀ x ∈ pm_i72, decode prog_11_method_3_code x.1 = .ok (x.2.1, x.2.2) := nc_all (by decide +kernel) (by decide +kernel)
def pm_i73 : List (Nat × Instr × Nat) := [(0, .iload_n 1, 1), (1, .iload_n 1, 1), (2, .iconst 1, 1), (3, .iadd, 1), (4, .imul, 1), (5, .iconst 2, 1), (6, .idiv, 1), (7, .iload_n 0, 1), (8, .iadd, 1), (9, .ireturn, 1)]
set_option maxRecDepth 100000 in
theorem pm_i73_ok : ∀ x ∈ pm_i73, decode prog_1_method_64_code x.1 = .ok (x.2.1, x.2.2) := nc_all (by decide +kernel) (by decide +kernel)
def pm_i74 : List (Nat × Instr × Nat) := [(0, .iload_n 1, 1), (1, .istore_n 3, 1), (2, .iload_n 3, 1), (3, .iload_n 2, 1), (4, .if_icmp .ge 89, 3), (7, .iconst 0, 1), (8, .istore 4, 2), (10, .iload 4, 2), (12, .aload_n 0, 1), (13, .getfield 29, 3), (16, .getfield 71, 3), (19, .if_icmp .ge 68, 3), (22, .iload_n 1, 1), (23, .iload_n 2, 1), (24, .invokestatic 67, 3), (27, .bipush 6, 2), (29, .imul, 1), (30, .aload_n 0, 1), (31, .getfield 29, 3), (34, .getfield 74, 3), (37, .iload 4, 2), (39, .iconst 4, 1), (40, .imul, 1), (41, .iaload, 1), (42, .iadd, 1), (43, .istore 5, 2), (45, .aload_n 0, 1), (46, .getfield 9, 3), (49, .iload 5, 2), (51, .aload_n 0, 1), (52, .getfield 9, 3), (55, .iload 5, 2), (57, .laload, 1), (58, .aload_n 0, 1), (59, .iload 4, 2), (61, .iload_n 1, 1), (62, .iload_n 3, 1), (63, .invokevirtual 77, 3), (66, .aload_n 0, 1), (67, .iload 4, 2), (69, .iload_n 3, 1), (70, .iload_n 2, 1), (71, .invokevirtual 81, 3), (74, .invokestatic 84, 3), (77, .invokestatic 88, 3), (80, .lastore, 1), (81, .iinc 4 1, 3), (84, .goto (-74), 3), (87, .iinc 3 1, 3), (90, .goto (-88), 3), (93, .return_, 1)]
set_option maxRecDepth 100000 in
theorem pm_i74_ok : ∀ x ∈ pm_i74, decode prog_11_method_4_code x.1 = .ok (x.2.1, x.2.2) := nc_all (by decide +kernel) (by decide +kernel)
def pm_i75 : List (Nat × Instr × Nat) := [(0, .aload_n 0, 1), (1, .getfield 9, 3), (4, .iload_n 2, 1), (5, .iload_n 3, 1), (6, .invokestatic 67, 3), (9, .bipush 6, 2), (11, .imul, 1), (12, .aload_n 0, 1), (13, .getfield 29, 3), (16, .getfield 74, 3), (19, .iload_n 1, 1), (20, .iconst 4, 1), (21, .imul, 1), (22, .iconst 1, 1), (23, .iadd, 1), (24, .iaload, 1), (25, .iadd, 1), (26, .laload, 1), (27, .lreturn, 1)]
set_option maxRecDepth 100000 in
theorem pm_i75_ok : ∀ x ∈ pm_i75, decode prog_11_method_5_code x.1 = .ok (x.2.1, x.2.2) := nc_all (by decide +kernel) (by decide +kernel)
def pm_i76 : List (Nat × Instr × Nat) := [(0, .aload_n 0, 1), (1, .getfield 9, 3), (4, .iload_n 2, 1), (5, .iconst 1, 1), (6, .iadd, 1), (7, .iload_n 3, 1), (8, .invokestatic 67, 3), (11, .bipush 6, 2), (13, .imul, 1), (14, .aload_n 0, 1), (15, .getfield 29, 3), (18, .getfield 74, 3), (21, .iload_n 1, 1), (22, .iconst 4, 1), (23, .imul, 1), (24, .iconst 2, 1), (25, .iadd, 1), (26, .iaload, 1), (27, .iadd, 1), (28, .laload, 1), (29, .lreturn, 1)]
set_option maxRecDepth 100000 in
theorem pm_i76_ok : ∀ x ∈ pm_i76, decode prog_11_method_6_code x.1 = .ok (x.2.1, x.2.2) := nc_all (by decide +kernel) (by decide +kernel)
def pm_i77 : List (Nat × Instr × Nat) := [(0, .lload_n 0, 1), (1, .lconst 0, 1), (2, .lcmp, 1), (3, .ifCond .eq 9, 3), (6, .lload_n 2, 1), (7, .lconst 0, 1), (8, .lcmp, 1), (9, .ifCond .ne 5, 3), (12, .lconst 0, 1), (13, .lreturn, 1), (14, .lload_n 0, 1), (15, .ldc2_w 167, 3), (18, .lcmp, 1), (19, .ifCond .eq 21, 3), (22, .lload_n 2, 1), (23, .ldc2_w 167, 3), (26, .lcmp, 1), (27, .ifCond .eq 13, 3), (30, .lload_n 0, 1), (31, .ldc2_w 379, 3), (34, .lload_n 2, 1), (35, .ldiv, 1), (36, .lcmp, 1), (37, .ifCond .le 7, 3), (40, .ldc2_w 167, 3), (43, .lreturn, 1), (44, .lload_n 0, 1), (45, .lload_n 2, 1), (46, .lmul, 1), (47, .lreturn, 1)]
set_option maxRecDepth 100000 in
theorem pm_i77_ok : ∀ x ∈ pm_i77, decode prog_1_method_67_code x.1 = .ok (x.2.1, x.2.2) := nc_all (by decide +kernel) (by decide +kernel)
def pm_i78 : List (Nat × Instr × Nat) := [(0, .lload_n 0, 1), (1, .ldc2_w 167, 3), (4, .lcmp, 1), (5, .ifCond .eq 21, 3), (8, .lload_n 2, 1), (9, .ldc2_w 167, 3), (12, .lcmp, 1), (13, .ifCond .eq 13, 3), (16, .lload_n 0, 1), (17, .ldc2_w 379, 3), (20, .lload_n 2, 1), (21, .lsub, 1), (22, .lcmp, 1), (23, .ifCond .le 7, 3), (26, .ldc2_w 167, 3), (29, .lreturn, 1), (30, .lload_n 0, 1), (31, .lload_n 2, 1), (32, .ladd, 1), (33, .lreturn, 1)]
set_option maxRecDepth 100000 in
theorem pm_i78_ok : ∀ x ∈ pm_i78, decode prog_1_method_66_code x.1 = .ok (x.2.1, x.2.2) := nc_all (by decide +kernel) (by decide +kernel)
def pm_i79 : List (Nat × Instr × Nat) := [(0, .lload_n 0, 1), (1, .ldc2_w 167, 3), (4, .lcmp, 1), (5, .ifCond .ne 9, 3), (8, .ldc2_w 373, 3), (11, .goto 10, 3), (14, .lload_n 0, 1), (15, .ldc2_w 373, 3), (18, .invokestatic 375, 3), (21, .lreturn, 1)]
set_option maxRecDepth 100000 in
theorem pm_i79_ok : ∀ x ∈ pm_i79, decode prog_1_method_62_code x.1 = .ok (x.2.1, x.2.2) := nc_all (by decide +kernel) (by decide +kernel)
def pm_i80 : List (Nat × Instr × Nat) := [(0, .aload_n 0, 1), (1, .iload_n 1, 1), (2, .invokevirtual 132, 3), (5, .astore 5, 2), (7, .aload_n 0, 1), (8, .iload_n 2, 1), (9, .invokevirtual 151, 3), (12, .astore 6, 2), (14, .aload 5, 2), (16, .ifnull 19, 3), (19, .aload 6, 2), (21, .ifnull 14, 3), (24, .aload 6, 2), (26, .iload_n 3, 1), (27, .iload 4, 2), (29, .invokevirtual 163, 3), (32, .ifCond .ne 5, 3), (35, .iconst (-1), 1), (36, .ireturn, 1), (37, .aload_n 0, 1), (38, .getfield 45, 3), (41, .aload 5, 2), (43, .aload 6, 2), (45, .invokevirtual 169, 3), (48, .iconst 0, 1), (49, .istore 7, 2), (51, .iconst 0, 1), (52, .istore 8, 2), (54, .iload 8, 2), (56, .bipush 6, 2), (58, .if_icmp .ge 43, 3), (61, .aload_n 0, 1), (62, .getfield 45, 3), (65, .getfield 173, 3), (68, .iload_n 3, 1), (69, .iload 4, 2), (71, .invokestatic 177, 3), (74, .bipush 6, 2), (76, .imul, 1), (77, .iload 8, 2), (79, .iadd, 1), (80, .laload, 1), (81, .lconst 0, 1), (82, .lcmp, 1), (83, .ifCond .eq 12, 3), (86, .iload 7, 2), (88, .iconst 1, 1), (89, .iload 8, 2), (91, .ishl, 1), (92, .ior, 1), (93, .istore 7, 2), (95, .iinc 8 1, 3), (98, .goto (-44), 3), (101, .iload 7, 2), (103, .ireturn, 1)]
set_option maxRecDepth 100000 in
theorem pm_i80_ok : ∀ x ∈ pm_i80, decode prog_1_method_19_code x.1 = .ok (x.2.1, x.2.2) := nc_all (by decide +kernel) (by decide +kernel)
def pm_i81 : List (Nat × Instr × Nat) := [(0, .aload_n 0, 1), (1, .iload_n 1, 1), (2, .invokevirtual 132, 3), (5, .astore 4, 2), (7, .aload_n 0, 1), (8, .iload_n 2, 1), (9, .invokevirtual 151, 3), (12, .astore 5, 2), (14, .aload 4, 2), (16, .ifnull 15, 3), (19, .aload 5, 2), (21, .ifnull 10, 3), (24, .iload_n 3, 1), (25, .invokestatic 185, 3), (28, .ifCond .ne 7, 3), (31, .ldc2_w 167, 3), (34, .lreturn, 1), (35, .aload_n 0, 1), (36, .getfield 45, 3), (39, .aload 4, 2), (41, .aload 5, 2), (43, .invokevirtual 169, 3), (46, .aload_n 0, 1), (47, .getfield 49, 3), (50, .ifnonnull 14, 3), (53, .aload_n 0, 1), (54, .new 188, 3), (57, .dup, 1), (58, .invokespecial 190, 3), (61, .putfield 49, 3), (64, .aload_n 0, 1), (65, .getfield 49, 3), (68, .aload_n 0, 1), (69, .getfield 45, 3), (72, .invokevirtual 191, 3), (75, .aload_n 0, 1), (76, .getfield 49, 3), (79, .getfield 194, 3), (82, .iconst 0, 1), (83, .aload 5, 2), (85, .getfield 155, 3), (88, .iconst 1, 1), (89, .isub, 1), (90, .invokestatic 177, 3), (93, .bipush 6, 2), (95, .imul, 1), (96, .bipush 50, 2), (98, .imul, 1), (99, .iload_n 3, 1), (100, .iadd, 1), (101, .laload, 1), (102, .invokestatic 181, 3), (105, .lreturn, 1)]
set_option maxRecDepth 100000 in
theorem pm_i81_ok : ∀ x ∈ pm_i81, decode prog_1_method_20_code x.1 = .ok (x.2.1, x.2.2) := nc_all (by decide +kernel) (by decide +kernel)
def pm_i82 : List (Nat × Instr × Nat) := [(0, .iload_n 0, 1), (1, .ifCond .lt 13, 3), (4, .iload_n 0, 1), (5, .bipush 50, 2), (7, .if_icmp .ge 7, 3), (10, .iconst 1, 1), (11, .goto 4, 3), (14, .iconst 0, 1), (15, .ireturn, 1)]
set_option maxRecDepth 100000 in
theorem pm_i82_ok : ∀ x ∈ pm_i82, decode prog_1_method_61_code x.1 = .ok (x.2.1, x.2.2) := nc_all (by decide +kernel) (by decide +kernel)
def pm_i83 : List (Nat × Instr × Nat) := [(0, .aload_n 0, 1), (1, .invokespecial 3, 3), (4, .aload_n 0, 1), (5, .sipush 23400, 3), (8, .newarray .long, 2), (10, .putfield 9, 3), (13, .aload_n 0, 1), (14, .aconst_null, 1), (15, .putfield 15, 3), (18, .aload_n 0, 1), (19, .aconst_null, 1), (20, .putfield 19, 3), (23, .return_, 1)]
set_option maxRecDepth 100000 in
theorem pm_i83_ok : ∀ x ∈ pm_i83, decode prog_12_method_1_code x.1 = .ok (x.2.1, x.2.2) := nc_all (by decide +kernel) (by decide +kernel)
def pm_i84 : List (Nat × Instr × Nat) := [(0, .aload_n 0, 1), (1, .getfield 15, 3), (4, .aload_n 1, 1), (5, .getfield 23, 3), (8, .if_acmp .ne 15, 3), (11, .aload_n 0, 1), (12, .getfield 19, 3), (15, .aload_n 1, 1), (16, .getfield 26, 3), (19, .if_acmp .ne 4, 3), (22, .return_, 1), (23, .aload_n 0, 1), (24, .aload_n 1, 1), (25, .getfield 23, 3), (28, .putfield 15, 3), (31, .aload_n 0, 1), (32, .aload_n 1, 1), (33, .getfield 26, 3), (36, .putfield 19, 3), (39, .aload_n 0, 1), (40, .getfield 9, 3), (43, .lconst 0, 1), (44, .invokestatic 27, 3), (47, .iconst 0, 1), (48, .istore_n 2, 1), (49, .iload_n 2, 1), (50, .aload_n 0, 1), (51, .getfield 19, 3), (54, .getfield 33, 3), (57, .if_icmp .ge 38, 3), (60, .aload_n 0, 1), (61, .iload_n 2, 1), (62, .invokevirtual 39, 3), (65, .iload_n 2, 1), (66, .iconst 1, 1), (67, .isub, 1), (68, .istore_n 3, 1), (69, .iload_n 3, 1), (70, .ifCond .lt 19, 3), (73, .aload_n 0, 1), (74, .aload_n 1, 1), (75, .getfield 43, 3), (78, .iload_n 3, 1), (79, .iload_n 2, 1), (80, .invokevirtual 44, 3), (83, .iinc 3 (-1), 3), (86, .goto (-17), 3), (89, .iinc 2 1, 3), (92, .goto (-43), 3), (95, .return_, 1)]
set_option maxRecDepth 100000 in
theorem pm_i84_ok : ∀ x ∈ pm_i84, decode prog_12_method_2_code x.1 = .ok (x.2.1, x.2.2) := nc_all (by decide +kernel) (by decide +kernel)
def pm_i85 : List (Nat × Instr × Nat) := [(0, .iconst 0, 1), (1, .istore_n 2, 1), (2, .iload_n 2, 1), (3, .aload_n 0, 1), (4, .getfield 15, 3), (7, .getfield 48, 3), (10, .if_icmp .ge 82, 3), (13, .aload_n 0, 1), (14, .getfield 15, 3), (17, .getfield 53, 3), (20, .iload_n 2, 1), (21, .iconst 4, 1), (22, .imul, 1), (23, .iaload, 1), (24, .aload_n 0, 1), (25, .getfield 19, 3), (28, .getfield 57, 3), (31, .iload_n 1, 1), (32, .iaload, 1), (33, .if_icmp .ne 53, 3), (36, .iload_n 1, 1), (37, .iload_n 1, 1), (38, .invokestatic 60, 3), (41, .bipush 6, 2), (43, .imul, 1), (44, .aload_n 0, 1), (45, .getfield 15, 3), (48, .getfield 53, 3), (51, .iload_n 2, 1), (52, .iconst 4, 1), (53, .imul, 1), (54, .iconst 1, 1), (55, .iadd, 1), (56, .iaload, 1), (57, .iadd, 1), (58, .istore_n 3, 1), (59, .aload_n 0, 1), (60, .getfield 9, 3), (63, .iload_n 3, 1), (64, .bipush 50, 2), (66, .imul, 1), (67, .aload_n 0, 1), (68, .getfield 15, 3), (71, .getfield 53, 3), (74, .iload_n 2, 1), (75, .iconst 4, 1), (76, .imul, 1), (77, .iconst 2, 1), (78, .iadd, 1), (79, .iaload, 1), (80, .iadd, 1), (81, .dup2, 1), (82, .laload, 1), (83, .lconst 1, 1), (84, .ladd, 1), (85, .lastore, 1), (86, .iinc 2 1, 3), (89, .goto (-87), 3), (92, .return_, 1)]
set_option maxRecDepth 100000 in
theorem pm_i85_ok : ∀ x ∈ pm_i85, decode prog_12_method_3_code x.1 = .ok (x.2.1, x.2.2) := nc_all (by decide +kernel) (by decide +kernel)
def pm_i86_0 : List (Nat × Instr × Nat) := [(0, .iload_n 2, 1), (1, .istore 4, 2), (3, .iload 4, 2), (5, .iload_n 3, 1), (6, .if_icmp .ge 228, 3), (9, .iconst 0, 1), (10, .istore 5, 2), (12, .iload 5, 2), (14, .aload_n 0, 1), (15, .getfield 15, 3), (18, .getfield 64, 3), (21, .if_icmp .ge 207, 3), (24, .iload_n 2, 1), (25, .iload_n 3, 1), (26, .invokestatic 60, 3), (29, .bipush 6, 2), (31, .imul, 1), (32, .aload_n 0, 1), (33, .getfield 15, 3), (36, .getfield 67, 3), (39, .iload 5, 2), (41, .iconst 4, 1), (42, .imul, 1), (43, .iaload, 1), (44, .iadd, 1), (45, .istore 6, 2), (47, .iload_n 2, 1), (48, .iload 4, 2), (50, .invokestatic 60, 3), (53, .bipush 6, 2), (55, .imul, 1), (56, .aload_n 0, 1), (57, .getfield 15, 3), (60, .getfield 67, 3), (63, .iload 5, 2), (65, .iconst 4, 1), (66, .imul, 1), (67, .iconst 1, 1), (68, .iadd, 1), (69, .iaload, 1), (70, .iadd, 1), (71, .istore 7, 2), (73, .iload 4, 2), (75, .iconst 1, 1), (76, .iadd, 1), (77, .iload_n 3, 1), (78, .invokestatic 60, 3), (81, .bipush 6, 2), (83, .imul, 1), (84, .aload_n 0, 1), (85, .getfield 15, 3), (88, .getfield 67, 3), (91, .iload 5, 2), (93, .iconst 4, 1), (94, .imul, 1), (95, .iconst 2, 1), (96, .iadd, 1), (97, .iaload, 1), (98, .iadd, 1), (99, .istore 8, 2)]
def pm_i86_1 : List (Nat × Instr × Nat) := [(101, .aload_n 0, 1), (102, .getfield 15, 3), (105, .getfield 67, 3), (108, .iload 5, 2), (110, .iconst 4, 1), (111, .imul, 1), (112, .iconst 3, 1), (113, .iadd, 1), (114, .iaload, 1), (115, .istore 9, 2), (117, .aload_n 1, 1), (118, .iload 7, 2), (120, .laload, 1), (121, .lconst 0, 1), (122, .lcmp, 1), (123, .ifCond .eq 99, 3), (126, .aload_n 1, 1), (127, .iload 8, 2), (129, .laload, 1), (130, .lconst 0, 1), (131, .lcmp, 1), (132, .ifCond .ne 6, 3), (135, .goto 87, 3), (138, .iload 9, 2), (140, .iconst 2, 1), (141, .if_icmp .eq 9, 3), (144, .iload 9, 2), (146, .iconst 3, 1), (147, .if_icmp .ne 27, 3), (150, .aload_n 0, 1), (151, .iload 9, 2), (153, .iload 6, 2), (155, .bipush 50, 2), (157, .imul, 1), (158, .iload 7, 2), (160, .bipush 50, 2), (162, .imul, 1), (163, .iload 8, 2), (165, .bipush 50, 2), (167, .imul, 1), (168, .invokevirtual 70, 3), (171, .goto 51, 3), (174, .iload 9, 2), (176, .ifCond .ne 26, 3), (179, .aload_n 0, 1), (180, .iload 9, 2), (182, .iload 6, 2), (184, .bipush 50, 2), (186, .imul, 1), (187, .iload 7, 2), (189, .bipush 50, 2), (191, .imul, 1), (192, .aload_n 1, 1), (193, .iload 8, 2), (195, .laload, 1), (196, .invokevirtual 74, 3), (199, .goto 23, 3), (202, .aload_n 0, 1), (203, .iload 9, 2), (205, .iload 6, 2)]
def pm_i86_2 : List (Nat × Instr × Nat) := [(207, .bipush 50, 2), (209, .imul, 1), (210, .iload 8, 2), (212, .bipush 50, 2), (214, .imul, 1), (215, .aload_n 1, 1), (216, .iload 7, 2), (218, .laload, 1), (219, .invokevirtual 74, 3), (222, .iinc 5 1, 3), (225, .goto (-213), 3), (228, .iinc 4 1, 3), (231, .goto (-228), 3), (234, .return_, 1)]
def pm_i86 : List (Nat × Instr × Nat) := pm_i86_0 ++ (pm_i86_1 ++ (pm_i86_2))
set_option maxRecDepth 100000 in
theorem pm_i86_ok : ∀ x ∈ pm_i86, decode prog_12_method_4_code x.1 = .ok (x.2.1, x.2.2) := nc_all (by decide +kernel) (by decide +kernel)
def pm_i87_0 : List (Nat × Instr × Nat) := [(0, .iconst 0, 1), (1, .istore 5, 2), (3, .iload 5, 2), (5, .bipush 50, 2), (7, .if_icmp .ge 155, 3), (10, .aload_n 0, 1), (11, .getfield 9, 3), (14, .iload_n 3, 1), (15, .iload 5, 2), (17, .iadd, 1), (18, .laload, 1), (19, .lstore 6, 2), (21, .lload 6, 2), (23, .lconst 0, 1), (24, .lcmp, 1), (25, .ifCond .ne 6, 3), (28, .goto 128, 3), (31, .lload 6, 2), (33, .ldc2_w 89, 3), (36, .lcmp, 1), (37, .ifCond .ne 7, 3), (40, .lconst 0, 1), (41, .goto 9, 3), (44, .ldc2_w 91, 3), (47, .lload 6, 2), (49, .ldiv, 1), (50, .lstore 8, 2), (52, .iconst 0, 1), (53, .istore 10, 2), (55, .iload 10, 2), (57, .bipush 50, 2), (59, .if_icmp .ge 97, 3), (62, .aload_n 0, 1), (63, .getfield 9, 3), (66, .iload 4, 2), (68, .iload 10, 2), (70, .iadd, 1), (71, .laload, 1), (72, .lstore 11, 2), (74, .lload 11, 2), (76, .lconst 0, 1), (77, .lcmp, 1), (78, .ifCond .eq 72, 3), (81, .iload_n 2, 1), (82, .iload_n 1, 1), (83, .iload 5, 2), (85, .iload 10, 2), (87, .invokestatic 78, 3), (90, .iadd, 1), (91, .istore 13, 2), (93, .lload 11, 2), (95, .ldc2_w 89, 3), (98, .lcmp, 1), (99, .ifCond .eq 11, 3), (102, .lload 11, 2), (104, .lload 8, 2), (106, .lcmp, 1), (107, .ifCond .le 7, 3), (110, .iconst 1, 1), (111, .goto 4, 3)]
def pm_i87_1 : List (Nat × Instr × Nat) := [(114, .iconst 0, 1), (115, .istore 14, 2), (117, .aload_n 0, 1), (118, .getfield 9, 3), (121, .iload 13, 2), (123, .aload_n 0, 1), (124, .getfield 9, 3), (127, .iload 13, 2), (129, .laload, 1), (130, .iload 14, 2), (132, .ifCond .eq 9, 3), (135, .ldc2_w 89, 3), (138, .goto 8, 3), (141, .lload 6, 2), (143, .lload 11, 2), (145, .lmul, 1), (146, .invokestatic 86, 3), (149, .lastore, 1), (150, .iinc 10 1, 3), (153, .goto (-98), 3), (156, .iinc 5 1, 3), (159, .goto (-156), 3), (162, .return_, 1)]
def pm_i87 : List (Nat × Instr × Nat) := pm_i87_0 ++ (pm_i87_1)
set_option maxRecDepth 100000 in
theorem pm_i87_ok : ∀ x ∈ pm_i87, decode prog_12_method_6_code x.1 = .ok (x.2.1, x.2.2) := nc_all (by decide +kernel) (by decide +kernel)
def pm_i88 : List (Nat × Instr × Nat) := [(0, .iload_n 0, 1), (1, .tableswitch 60 0 3 #[31, 33, 35, 42], 31), (32, .iload_n 1, 1), (33, .ireturn, 1), (34, .iload_n 2, 1), (35, .ireturn, 1), (36, .iload_n 1, 1), (37, .iload_n 2, 1), (38, .iadd, 1), (39, .bipush 50, 2), (41, .irem, 1), (42, .ireturn, 1), (43, .iload_n 1, 1), (44, .iload_n 2, 1), (45, .if_icmp .ge 12, 3), (48, .iload_n 1, 1), (49, .iload_n 2, 1), (50, .isub, 1), (51, .bipush 50, 2), (53, .iadd, 1), (54, .goto 6, 3), (57, .iload_n 1, 1), (58, .iload_n 2, 1), (59, .isub, 1), (60, .ireturn, 1), (61, .bipush 49, 2), (63, .iload_n 2, 1), (64, .isub, 1), (65, .ireturn, 1)]
set_option maxRecDepth 100000 in
theorem pm_i88_ok : ∀ x ∈ pm_i88, decode prog_1_method_65_code x.1 = .ok (x.2.1, x.2.2) := nc_all (by decide +kernel) (by decide +kernel)
def pm_i89 : List (Nat × Instr × Nat) := [(0, .iconst 0, 1), (1, .istore 6, 2), (3, .iload 6, 2), (5, .bipush 50, 2), (7, .if_icmp .ge 52, 3), (10, .iload_n 2, 1), (11, .iload_n 1, 1), (12, .iload 6, 2), (14, .iload 6, 2), (16, .invokestatic 78, 3), (19, .iadd, 1), (20, .istore 7, 2), (22, .aload_n 0, 1), (23, .getfield 9, 3), (26, .iload 7, 2), (28, .aload_n 0, 1), (29, .getfield 9, 3), (32, .iload 7, 2), (34, .laload, 1), (35, .aload_n 0, 1), (36, .getfield 9, 3), (39, .iload_n 3, 1), (40, .iload 6, 2), (42, .iadd, 1), (43, .laload, 1), (44, .lload 4, 2), (46, .invokestatic 82, 3), (49, .invokestatic 86, 3), (52, .lastore, 1), (53, .iinc 6 1, 3), (56, .goto (-53), 3), (59, .return_, 1)]
set_option maxRecDepth 100000 in
theorem pm_i89_ok : ∀ x ∈ pm_i89, decode prog_12_method_5_code x.1 = .ok (x.2.1, x.2.2) := nc_all (by decide +kernel) (by decide +kernel)
def pm_i90_0 : List (Nat × Instr × Nat) := [(0, .aload_n 0, 1), (1, .iload_n 1, 1), (2, .invokevirtual 132, 3), (5, .astore 6, 2), (7, .aload_n 0, 1), (8, .iload_n 2, 1), (9, .invokevirtual 151, 3), (12, .astore 7, 2), (14, .aload 6, 2), (16, .ifnull 14, 3), (19, .aload 7, 2), (21, .ifnull 9, 3), (24, .lload_n 3, 1), (25, .lconst 0, 1), (26, .lcmp, 1), (27, .ifCond .ge 6, 3), (30, .bipush (-2), 2), (32, .ireturn, 1), (33, .iload 5, 2), (35, .ifCond .lt 22, 3), (38, .iload 5, 2), (40, .iconst 2, 1), (41, .if_icmp .le 19, 3), (44, .aload 7, 2), (46, .iload 5, 2), (48, .bipush 10, 2), (50, .isub, 1), (51, .invokevirtual 156, 3), (54, .ifCond .ne 6, 3), (57, .bipush (-2), 2), (59, .ireturn, 1), (60, .aload_n 0, 1), (61, .getfield 45, 3), (64, .aload 6, 2), (66, .aload 7, 2), (68, .invokevirtual 169, 3), (71, .aload_n 0, 1), (72, .getfield 45, 3), (75, .getfield 173, 3), (78, .iconst 0, 1), (79, .aload 7, 2), (81, .getfield 155, 3), (84, .iconst 1, 1), (85, .isub, 1), (86, .invokestatic 177, 3), (89, .bipush 6, 2), (91, .imul, 1), (92, .laload, 1), (93, .lstore 8, 2), (95, .lload_n 3, 1), (96, .lload 8, 2), (98, .lcmp, 1), (99, .ifCond .lt 15, 3), (102, .lload 8, 2), (104, .ldc2_w 167, 3), (107, .lcmp, 1), (108, .ifCond .eq 6, 3), (111, .bipush (-2), 2), (113, .ireturn, 1), (114, .aload_n 0, 1)]
def pm_i90_1 : List (Nat × Instr × Nat) := [(115, .getfield 45, 3), (118, .lload_n 3, 1), (119, .invokevirtual 195, 3), (122, .istore 10, 2), (124, .iload 5, 2), (126, .tableswitch 45 0 2 #[26, 29, 37], 26), (152, .iload 10, 2), (154, .ireturn, 1), (155, .aload_n 0, 1), (156, .getfield 45, 3), (159, .getfield 199, 3), (162, .ireturn, 1), (163, .aload_n 0, 1), (164, .getfield 45, 3), (167, .getfield 202, 3), (170, .ireturn, 1), (171, .aload_n 0, 1), (172, .getfield 45, 3), (175, .getfield 205, 3), (178, .iload 5, 2), (180, .bipush 10, 2), (182, .isub, 1), (183, .iaload, 1), (184, .ireturn, 1)]
def pm_i90 : List (Nat × Instr × Nat) := pm_i90_0 ++ (pm_i90_1)
set_option maxRecDepth 100000 in
theorem pm_i90_ok : ∀ x ∈ pm_i90, decode prog_1_method_21_code x.1 = .ok (x.2.1, x.2.2) := nc_all (by decide +kernel) (by decide +kernel)
def pm_i91 : List (Nat × Instr × Nat) := [(0, .aload_n 0, 1), (1, .iconst (-1), 1), (2, .putfield 19, 3), (5, .aload_n 0, 1), (6, .iconst (-1), 1), (7, .putfield 23, 3), (10, .aload_n 0, 1), (11, .iconst 0, 1), (12, .iconst 0, 1), (13, .aload_n 0, 1), (14, .getfield 33, 3), (17, .getfield 43, 3), (20, .iconst 1, 1), (21, .isub, 1), (22, .lload_n 1, 1), (23, .iconst 1, 1), (24, .invokevirtual 91, 3), (27, .ireturn, 1)]
set_option maxRecDepth 100000 in
theorem pm_i91_ok : ∀ x ∈ pm_i91, decode prog_11_method_7_code x.1 = .ok (x.2.1, x.2.2) := nc_all (by decide +kernel) (by decide +kernel)
def pm_i92_0 : List (Nat × Instr × Nat) := [(0, .iload_n 2, 1), (1, .iload_n 3, 1), (2, .if_icmp .ge 10, 3), (5, .iload 6, 2), (7, .bipush 12, 2), (9, .if_icmp .le 12, 3), (12, .aload_n 0, 1), (13, .iload_n 1, 1), (14, .iload_n 2, 1), (15, .lload 4, 2), (17, .invokevirtual 95, 3), (20, .ireturn, 1), (21, .lload 4, 2), (23, .lstore 7, 2), (25, .iload_n 2, 1), (26, .istore 9, 2), (28, .iload 9, 2), (30, .iload_n 3, 1), (31, .if_icmp .ge 247, 3), (34, .iconst 0, 1), (35, .istore 10, 2), (37, .iload 10, 2), (39, .aload_n 0, 1), (40, .getfield 29, 3), (43, .getfield 71, 3), (46, .if_icmp .ge 226, 3), (49, .aload_n 0, 1), (50, .iload 10, 2), (52, .iload 9, 2), (54, .iload_n 3, 1), (55, .invokevirtual 81, 3), (58, .lstore 11, 2), (60, .aload_n 0, 1), (61, .getfield 29, 3), (64, .getfield 74, 3), (67, .iload 10, 2), (69, .iconst 4, 1), (70, .imul, 1), (71, .iaload, 1), (72, .iload_n 1, 1), (73, .if_icmp .ne 20, 3), (76, .aload_n 0, 1), (77, .iload 10, 2), (79, .iload_n 2, 1), (80, .iload 9, 2), (82, .invokevirtual 77, 3), (85, .lload 11, 2), (87, .invokestatic 84, 3), (90, .goto 4, 3), (93, .lconst 0, 1), (94, .lstore 13, 2), (96, .lload 11, 2), (98, .lconst 0, 1), (99, .lcmp, 1), (100, .ifCond .eq 159, 3), (103, .lload 7, 2), (105, .lload 13, 2), (107, .lcmp, 1), (108, .ifCond .lt 12, 3), (111, .lload 13, 2)]
def pm_i92_1 : List (Nat × Instr × Nat) := [(113, .ldc2_w 99, 3), (116, .lcmp, 1), (117, .ifCond .ne 142, 3), (120, .lload 11, 2), (122, .ldc2_w 99, 3), (125, .lcmp, 1), (126, .ifCond .ne 7, 3), (129, .iconst 1, 1), (130, .goto 4, 3), (133, .iconst 0, 1), (134, .istore 15, 2), (136, .aload_n 0, 1), (137, .aload_n 0, 1), (138, .getfield 29, 3), (141, .getfield 74, 3), (144, .iload 10, 2), (146, .iconst 4, 1), (147, .imul, 1), (148, .iconst 1, 1), (149, .iadd, 1), (150, .iaload, 1), (151, .iload_n 2, 1), (152, .iload 9, 2), (154, .iload 15, 2), (156, .ifCond .eq 7, 3), (159, .lconst 0, 1), (160, .goto 8, 3), (163, .lload 7, 2), (165, .lload 11, 2), (167, .ldiv, 1), (168, .iload 6, 2), (170, .iconst 1, 1), (171, .iadd, 1), (172, .invokevirtual 91, 3), (175, .istore 16, 2), (177, .aload_n 0, 1), (178, .aload_n 0, 1), (179, .getfield 29, 3), (182, .getfield 74, 3), (185, .iload 10, 2), (187, .iconst 4, 1), (188, .imul, 1), (189, .iconst 2, 1), (190, .iadd, 1), (191, .iaload, 1), (192, .iload 9, 2), (194, .iconst 1, 1), (195, .iadd, 1), (196, .iload_n 3, 1), (197, .iload 15, 2), (199, .ifCond .eq 8, 3), (202, .lload 7, 2), (204, .goto 8, 3), (207, .lload 7, 2), (209, .lload 11, 2), (211, .lrem, 1), (212, .iload 6, 2), (214, .iconst 1, 1), (215, .iadd, 1), (216, .invokevirtual 91, 3)]
def pm_i92_2 : List (Nat × Instr × Nat) := [(219, .istore 17, 2), (221, .aload_n 0, 1), (222, .iload 10, 2), (224, .putfield 19, 3), (227, .aload_n 0, 1), (228, .iload 9, 2), (230, .iconst 1, 1), (231, .iadd, 1), (232, .iload_n 2, 1), (233, .isub, 1), (234, .putfield 23, 3), (237, .aload_n 0, 1), (238, .getfield 29, 3), (241, .getfield 74, 3), (244, .iload 10, 2), (246, .iconst 4, 1), (247, .imul, 1), (248, .iconst 3, 1), (249, .iadd, 1), (250, .iaload, 1), (251, .iload 16, 2), (253, .iload 17, 2), (255, .invokestatic 101, 3), (258, .ireturn, 1), (259, .lload 7, 2), (261, .lload 13, 2), (263, .lsub, 1), (264, .lstore 7, 2), (266, .iinc 10 1, 3), (269, .goto (-232), 3), (272, .iinc 9 1, 3), (275, .goto (-247), 3), (278, .iconst (-1), 1), (279, .ireturn, 1)]
def pm_i92 : List (Nat × Instr × Nat) := pm_i92_0 ++ (pm_i92_1 ++ (pm_i92_2))
set_option maxRecDepth 100000 in
theorem pm_i92_ok : ∀ x ∈ pm_i92, decode prog_11_method_8_code x.1 = .ok (x.2.1, x.2.2) := nc_all (by decide +kernel) (by decide +kernel)
def pm_i93 : List (Nat × Instr × Nat) := [(0, .lload_n 3, 1), (1, .lstore 5, 2), (3, .iconst 0, 1), (4, .istore 7, 2), (6, .iload 7, 2), (8, .aload_n 0, 1), (9, .getfield 29, 3), (12, .getfield 56, 3), (15, .if_icmp .ge 87, 3), (18, .aload_n 0, 1), (19, .getfield 29, 3), (22, .getfield 61, 3), (25, .iload 7, 2), (27, .iconst 4, 1), (28, .imul, 1), (29, .iaload, 1), (30, .aload_n 0, 1), (31, .getfield 33, 3), (34, .getfield 64, 3), (37, .iload_n 2, 1), (38, .iaload, 1), (39, .if_icmp .ne 57, 3), (42, .aload_n 0, 1), (43, .getfield 29, 3), (46, .getfield 61, 3), (49, .iload 7, 2), (51, .iconst 4, 1), (52, .imul, 1), (53, .iconst 1, 1), (54, .iadd, 1), (55, .iaload, 1), (56, .iload_n 1, 1), (57, .if_icmp .ne 39, 3), (60, .lload 5, 2), (62, .lconst 0, 1), (63, .lcmp, 1), (64, .ifCond .ne 26, 3), (67, .aload_n 0, 1), (68, .getfield 15, 3), (71, .iload_n 2, 1), (72, .iload 7, 2), (74, .iastore, 1), (75, .aload_n 0, 1), (76, .getfield 29, 3), (79, .getfield 61, 3), (82, .iload 7, 2), (84, .iconst 4, 1), (85, .imul, 1), (86, .iconst 2, 1), (87, .iadd, 1), (88, .iaload, 1), (89, .ireturn, 1), (90, .lload 5, 2), (92, .lconst 1, 1), (93, .lsub, 1), (94, .lstore 5, 2), (96, .iinc 7 1, 3), (99, .goto (-93), 3), (102, .iconst (-1), 1), (103, .ireturn, 1)]
set_option maxRecDepth 100000 in
theorem pm_i93_ok : ∀ x ∈ pm_i93, decode prog_11_method_9_code x.1 = .ok (x.2.1, x.2.2) := nc_all (by decide +kernel) (by decide +kernel)
def pm_i94 : List (Nat × Instr × Nat) := [(0, .aload_n 0, 1), (1, .iload_n 1, 1), (2, .invokevirtual 132, 3), (5, .astore 4, 2), (7, .aload_n 0, 1), (8, .iload_n 2, 1), (9, .invokevirtual 151, 3), (12, .astore 5, 2), (14, .aload 4, 2), (16, .ifnull 17, 3), (19, .aload 5, 2), (21, .ifnull 12, 3), (24, .aload 5, 2), (26, .iload_n 3, 1), (27, .invokevirtual 156, 3), (30, .ifCond .ne 5, 3), (33, .iconst (-1), 1), (34, .ireturn, 1), (35, .aload_n 0, 1), (36, .getfield 45, 3), (39, .aload 4, 2), (41, .aload 5, 2), (43, .invokevirtual 169, 3), (46, .aload_n 0, 1), (47, .getfield 45, 3), (50, .iload_n 3, 1), (51, .invokevirtual 208, 3), (54, .ireturn, 1)]
set_option maxRecDepth 100000 in
theorem pm_i94_ok : ∀ x ∈ pm_i94, decode prog_1_method_22_code x.1 = .ok (x.2.1, x.2.2) := nc_all (by decide +kernel) (by decide +kernel)
def pm_i95_0 : List (Nat × Instr × Nat) := [(0, .aload_n 0, 1), (1, .getfield 26, 3), (4, .iconst 0, 1), (5, .invokestatic 105, 3), (8, .aload_n 0, 1), (9, .getfield 9, 3), (12, .iconst 0, 1), (13, .aload_n 0, 1), (14, .getfield 33, 3), (17, .getfield 43, 3), (20, .iconst 1, 1), (21, .isub, 1), (22, .invokestatic 67, 3), (25, .bipush 6, 2), (27, .imul, 1), (28, .laload, 1), (29, .lconst 0, 1), (30, .lcmp, 1), (31, .ifCond .eq 22, 3), (34, .aload_n 0, 1), (35, .getfield 26, 3), (38, .iconst 0, 1), (39, .aload_n 0, 1), (40, .getfield 33, 3), (43, .getfield 43, 3), (46, .iconst 1, 1), (47, .isub, 1), (48, .invokestatic 67, 3), (51, .iconst 1, 1), (52, .iastore, 1), (53, .aload_n 0, 1), (54, .getfield 33, 3), (57, .getfield 43, 3), (60, .iconst 1, 1), (61, .isub, 1), (62, .istore_n 2, 1), (63, .iload_n 2, 1), (64, .ifCond .le 28, 3), (67, .iconst 0, 1), (68, .istore_n 3, 1), (69, .iload_n 3, 1), (70, .iload_n 2, 1), (71, .if_icmp .ge 15, 3), (74, .aload_n 0, 1), (75, .iload_n 3, 1), (76, .iload_n 2, 1), (77, .invokevirtual 108, 3), (80, .iinc 3 1, 3), (83, .goto (-14), 3), (86, .iinc 2 (-1), 3), (89, .goto (-26), 3), (92, .iconst 0, 1), (93, .istore_n 2, 1), (94, .iconst 0, 1), (95, .istore_n 3, 1), (96, .iload_n 3, 1), (97, .aload_n 0, 1), (98, .getfield 29, 3), (101, .getfield 56, 3), (104, .if_icmp .ge 61, 3)]
def pm_i95_1 : List (Nat × Instr × Nat) := [(107, .aload_n 0, 1), (108, .getfield 29, 3), (111, .getfield 61, 3), (114, .iload_n 3, 1), (115, .iconst 4, 1), (116, .imul, 1), (117, .iaload, 1), (118, .aload_n 0, 1), (119, .getfield 33, 3), (122, .getfield 64, 3), (125, .iload_n 1, 1), (126, .iaload, 1), (127, .if_icmp .ne 32, 3), (130, .iload_n 2, 1), (131, .aload_n 0, 1), (132, .getfield 26, 3), (135, .iload_n 1, 1), (136, .iload_n 1, 1), (137, .invokestatic 67, 3), (140, .iaload, 1), (141, .aload_n 0, 1), (142, .getfield 29, 3), (145, .getfield 61, 3), (148, .iload_n 3, 1), (149, .iconst 4, 1), (150, .imul, 1), (151, .iconst 1, 1), (152, .iadd, 1), (153, .iaload, 1), (154, .iushr, 1), (155, .iconst 1, 1), (156, .iand, 1), (157, .iadd, 1), (158, .istore_n 2, 1), (159, .iinc 3 1, 3), (162, .goto (-66), 3), (165, .iload_n 2, 1), (166, .ireturn, 1)]
def pm_i95 : List (Nat × Instr × Nat) := pm_i95_0 ++ (pm_i95_1)
set_option maxRecDepth 100000 in
theorem pm_i95_ok : ∀ x ∈ pm_i95, decode prog_11_method_10_code x.1 = .ok (x.2.1, x.2.2) := nc_all (by decide +kernel) (by decide +kernel)
