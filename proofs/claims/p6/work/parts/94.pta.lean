/-! TEXT of the class: what is kept leaves all cells below 72 alone -/
def mkp (t : Nat) (S : ex_S) : Prop := 72 ≤ S.2.2.2.2 ∧ ∀ k b, S.2.2.1 t k = some b → 72 ≤ b
def mk (t : Nat) (S T : ex_S) : Prop := (∀ a k, a < 72 → T.1 a k = S.1 a k) ∧ mkp t T
theorem mk.refl {t : Nat} {S : ex_S} (h : mkp t S) : mk t S S := ⟨fun _ _ _ => rfl, h⟩
theorem mk.trans {t : Nat} {S T U : ex_S} (h : mk t S T) (g : mk t T U) : mk t S U := ⟨fun a k ha => (g.1 a k ha).trans (h.1 a k ha), g.2⟩
theorem mk.sx {t b k : Nat} {v : Int32} {S T : ex_S} (h : mk t S T) (hb : 72 ≤ b) : mk t S (ex_sx T b k v) := ⟨fun a j ha => (ex_sx_ne (fun z => by omega)).trans (h.1 a j ha), h.2⟩
theorem mk.sy {t b k : Nat} {v : Int64} {S T : ex_S} (h : mk t S T) : mk t S (ex_sy T b k v) := ⟨h.1, h.2⟩
theorem mk.sz {t b k : Nat} {v : Option Nat} {S T : ex_S} (h : mk t S T) (hv : ∀ c, v = some c → 72 ≤ c) : mk t S (ex_sz T b k v) := by
  refine ⟨h.1, h.2.1, fun j c e => ?_⟩
  have e : (if t = b ∧ j = k then v else T.2.2.1 t j) = some c := e
  split at e
  · exact hv c e
  · exact h.2.2 j c e
theorem mk.new {t n : Nat} {S T : ex_S} (h : mk t S T) : mk t S (ex_new T n) := by
  have t72 := h.2.1
  refine ⟨fun a j ha => ?_, Nat.le_succ_of_le h.2.1, fun j c e => ?_⟩
  · show (if a = T.2.2.2.2 then 0 else T.1 a j) = S.1 a j
    rw [if_neg (by omega)]; exact h.1 a j ha
  · have e : (if t = T.2.2.2.2 then none else T.2.2.1 t j) = some c := e
    split at e
    · cases e
    · exact h.2.2 j c e
theorem mk.cl {t n : Nat} {S T : ex_S} (h : mk t S T) : mk t S (ex_cl T n) := by
  have t72 := h.2.1
  refine ⟨fun a j ha => ?_, Nat.le_succ_of_le h.2.1, fun j c e => ?_⟩
  · show (if a = T.2.2.2.2 then T.1 n j else T.1 a j) = S.1 a j
    rw [if_neg (by omega)]; exact h.1 a j ha
  · have e : (if t = T.2.2.2.2 then none else T.2.2.1 t j) = some c := e
    split at e
    · cases e
    · exact h.2.2 j c e
theorem mk.cp {t a sp b dp n : Nat} {S T : ex_S} (h : mk t S T) (hb : 72 ≤ b) : mk t S (ex_cp T a sp b dp n) := by
  refine ⟨fun c j hc => ?_, h.2⟩
  show (if c = b ∧ dp ≤ j ∧ j < dp + n then T.1 a (sp + (j - dp)) else T.1 c j) = S.1 c j
  rw [if_neg (fun z => by omega)]; exact h.1 c j hc
def mk45 (_a : Nat) (_n : Int32) (S : ex_S) (r : Option Nat) (S' : ex_S) : Prop := ∀ t, mkp t S → mk t S S' ∧ ∀ b, r = some b → 72 ≤ b
theorem ec45m : es45 mk45 := by
  refine ev45 ?_ ?_
  · intro a n S _ t h
    exact ⟨((mk.refl h).new).cp h.1, fun b e => by cases e; exact h.1⟩
  · intro a n S _ t h
    exact ⟨(mk.refl h).cl, fun b e => by cases e; exact h.1⟩
def mk1 (t : Nat) (S S' : ex_S) : Prop := 72 ≤ t → mkp t S → mk t S S'
theorem ec46m : es46 (fun t _ S _ T => mk1 t S T) := by
  refine ev46 (I4 := fun t _ S _ _ T => mk1 t S T) (I32 := fun t _ S _ _ _ _ _ T => mk1 t S T) ?_ ?_ ?_ ?_ ?_ ?_ ?_
  · intro t a S _ h; exact mk.refl h
  · intro t a S x y T h _; exact h
  · intro t a S x y T h _ b _; exact h
  · intro t a S x y z w u T h _ b e _ ht hp
    have g := h ht hp
    exact g.sx (g.2.2 _ _ e)
  · intro t a S x y z w u T h _ b e _ ht hp
    have g := h ht hp
    exact g.sx (g.2.2 _ _ e)
  · intro t a S x y z w u T h _ _; exact h
  · intro t a S x y z w u T h _ _ b _; exact h
theorem ec44m : es44 mk1 := by
  refine ev44 (I86 := fun t S _ T => mk1 t S T) (I144 := fun t S _ T => mk1 t S T) (I169 := fun t S _ _ T => mk1 t S T) ec45m ec46m ?_ ?_ ?_ ?_ ?_ ?_ ?_ ?_
  · intro t S r2 S3 h3 r6 S7 h7 ht hp
    have g1 : mk t S (ex_sx (ex_sz (ex_new (ex_sz (ex_new S 60) t 5 (some S.2.2.2.2)) 100) t 6 (some ((ex_new S 60).2.2.2.2))) t 0 ((ex_new (ex_sz (ex_new S 60) t 5 (some S.2.2.2.2)) 100).1 25 4)) := by
      have a1 := ((mk.refl hp).new (n := 60)).sz (b := t) (k := 5) (v := some S.2.2.2.2) (fun c e => by cases e; exact hp.1)
      have a2 := (a1.new (n := 100)).sz (b := t) (k := 6) (v := some ((ex_new S 60).2.2.2.2)) (fun c e => by cases e; exact Nat.le_succ_of_le hp.1)
      exact a2.sx ht
    have q3 := h3 t g1.2
    have g3 := g1.trans q3.1
    have g4 := (g3.sz (b := t) (k := 1) (v := r2) q3.2).sx (b := t) (k := 2) (v := S3.1 25 6) ht
    have q7 := h7 t g4.2
    have g7 := g4.trans q7.1
    exact ((g7.sz (b := t) (k := 3) (v := r6) q7.2).cl (n := 28)).sz (b := t) (k := 4) (v := some S7.2.2.2.2) (fun c e => by cases e; exact q7.1.2.1)
  · intro t S x T h _; exact h
  · intro t S x T h _ b e b2 e2 ht hp; exact (h ht hp).sy
  · intro t S x T h _; exact h
  · intro t S x T h _ b e ht hp
    have g := h ht hp
    exact g.sx (g.2.2 _ _ e)
  · intro t S x y T h _ ht hp; exact (h ht hp).sx ht
  · intro t S x y T h _ r S2 h2 _ ht hp
    have g := h ht hp
    exact g.trans (h2 ht g.2)
  · intro t S x y T h _ r S2 h2 _ ht hp
    have g := h ht hp
    exact g.trans (h2 ht g.2)
theorem ec47m : es47 mk1 := by
  refine ev47 ec45m ?_
  intro t S r S3 h ht hp
  have g := (mk.refl hp).sx (b := t) (k := 0) (v := S.1 25 4) ht
  have q := h t g.2
  exact (g.trans q.1).sz q.2
theorem ec54m : es54 mk1 := by
  refine ev54 ec45m ?_
  intro t S r S3 h ht hp
  have g := (mk.refl hp).sx (b := t) (k := 0) (v := S.1 25 4) ht
  have q := h t g.2
  exact (g.trans q.1).sz q.2
theorem ec50 : es50 (fun _ _ _ S S' => S' = S) := by
  refine ev50 ?_
  intros; rfl
theorem ec49m : es49 (fun a _ _ _ S S' => ∀ t, (∀ b, a = some b → 72 ≤ b) → mkp t S → mk t S S') := by
  refine ev49 (I10 := fun a _ _ _ S _ T => ∀ t, (∀ b, a = some b → 72 ≤ b) → mkp t S → mk t S T) ec50 ?_ ?_ ?_
  · intro a a1 a2 a3 S b e S5 h t _ hp
    rw [h]; exact mk.refl hp
  · intro a a1 a2 a3 S x T h _; exact h
  · intro a a1 a2 a3 S x T h _ b e t hb hp
    exact (h t hb hp).sx (hb b e)
theorem ec51m : es51 (fun _ _ S _ S' => S' = S) := by
  refine ev51 ?_ ?_ <;> (intros; rfl)
theorem ec52m : es52 (fun _ _ S _ S' => S' = S) := by
  refine ev52 ?_
  intros; rfl
theorem ec53m : es53 (fun _ _ _ S _ S' => S' = S) := by
  refine ev53 (I5 := fun _ _ _ S _ _ T => T = S) ?_ ?_ ?_ ?_
  · intros; rfl
  · intro t a b S x y T h _; exact h
  · intro t a b S x y T h _ _ _ _; exact h
  · intro t a b S x y T h _ _ _ _; exact h
/-- keepText: cells below 72 hold the numbers that they held -/
def cc43 (_s _n : Int32) (S S' : ex_S) : Prop := ∀ a k, a < 72 → S'.1 a k = S.1 a k
theorem cc43_of {S S7 : ex_S} {c i : Nat} {v : Option Nat} (h72 : 72 ≤ S.2.2.2.2) (h : mk1 S.2.2.2.2 (ex_new S 0) S7) : ∀ a k, a < 72 → (ex_sz S7 c i v).1 a k = S.1 a k := by
  intro a k ha
  have hp : mkp S.2.2.2.2 (ex_new S 0) := ⟨Nat.le_succ_of_le h72, fun j b e => by
    have e : (if S.2.2.2.2 = S.2.2.2.2 then none else S.2.2.1 S.2.2.2.2 j) = some b := e
    rw [if_pos rfl] at e; cases e⟩
  refine ((h h72 hp).1 a k ha).trans ?_
  show (if a = S.2.2.2.2 then 0 else S.1 a k) = S.1 a k
  rw [if_neg (by omega)]
theorem ec48m : es48 mk1 := by
  refine ev48 (I79 := fun t S _ T => mk1 t S T) ec45m ec49m ec51m ec52m ec53m ?_ ?_ ?_ ?_
  · intro t S r2 S3 h3 S7 h7 ht hp
    have g1 := ((mk.refl hp).sx (b := t) (k := 0) (v := S.1 25 8) ht).sx (b := t) (k := 1) (v := (ex_sx S t 0 (S.1 25 8)).1 25 4) ht
    have q3 := h3 t g1.2
    have g3 := (g1.trans q3.1).sz (b := t) (k := 2) (v := r2) q3.2
    have g4 := (g3.new (n := (((S3.1 t 1) + 1) * (S3.1 t 0)).toNatClampNeg)).sz (b := t) (k := 3) (v := some S3.2.2.2.2) (fun c e => by cases e; exact q3.1.2.1)
    have g5 := g4.new (n := ((ex_new (ex_sz S3 t 2 r2) ((((S3.1 t 1) + 1) * (S3.1 t 0)).toNatClampNeg)).1 t 1).toNatClampNeg)
    have g6 := g5.sz (b := t) (k := 4) (v := some ((ex_new (ex_sz S3 t 2 r2) ((((S3.1 t 1) + 1) * (S3.1 t 0)).toNatClampNeg)).2.2.2.2)) (fun c e => by cases e; exact Nat.le_succ_of_le q3.1.2.1)
    exact g6.trans (h7 t (fun b e => g5.2.2 3 b e) g6.2)
  · intro t S x T h _; exact h
  · intro t S x T h _ b e r S14 h14 _ r2 S19 h19 b21 e21 b23 e23 ht hp
    have g := h ht hp
    have g1 := g.cp (a := b) (sp := (x * (T.1 t 0)).toNatClampNeg) (b := b) (dp := ((x + 1) * (T.1 t 0)).toNatClampNeg) (n := (T.1 t 0).toNatClampNeg) (g.2.2 _ _ e)
    rw [h19, h14] at e21 ⊢
    rw [h14] at e23
    have g2 := g1.sx (b := b23) (k := (((x + 1) * (S14.1 t 0)) + r2).toNatClampNeg) (v := (ex_cp T b ((x * (T.1 t 0)).toNatClampNeg) b (((x + 1) * (T.1 t 0)).toNatClampNeg) ((T.1 t 0).toNatClampNeg)).1 b21 (((x * 4) + 2).toNatClampNeg)) (g1.2.2 _ _ e23)
    rw [h14] at g2
    exact g2
  · intro t S x T h _ b e r S14 h14 _ r2 S27 h27 r3 S31 h31 b33 e33 ht hp
    have g := h ht hp
    have g1 := g.cp (a := b) (sp := (x * (T.1 t 0)).toNatClampNeg) (b := b) (dp := ((x + 1) * (T.1 t 0)).toNatClampNeg) (n := (T.1 t 0).toNatClampNeg) (g.2.2 _ _ e)
    rw [h14] at e33
    rw [h31, h27, h14]
    exact g1.sx (g1.2.2 _ _ e33)
theorem ec43m : es43 cc43 := by
  refine ev43 ec44m ec47m ec48m ec54m ?_ ?_ ?_ ?_
  · intro s n S _ h72 S7 h; exact cc43_of h72 h
  · intro s n S _ _ h72 S7 h; exact cc43_of h72 h
  · intro s n S _ _ _ h72 S7 h; exact cc43_of h72 h
  · intro s n S _ _ _ h72 S7 h; exact cc43_of h72 h
/-- text: ok says whether a text is read; the answer, FAULT, place, how many there are -/
def txok (s at_ c most : Int32) : Prop := 0 ≤ s ∧ s ≤ 3 ∧ (at_ = -1 → c < most) ∧ (¬ at_ = -1 → 0 ≤ at_ ∧ at_ < c)
def txC (f p : ex_S → Int32) (ct : ex_S → Nat → Int32) (s at_ most : Int32) (A : pA) (S : ex_S) (v : Int32) (S' : ex_S) : Prop :=
  (¬ txok s at_ (ct S s.toNatClampNeg) most → v = -2 ∧ f S' = 0 ∧ p S' = -1 ∧ ∀ k, k < 4 → ct S' k = ct S k) ∧
  (txok s at_ (ct S s.toNatClampNeg) most → f S' = pf A ∧ p S' = pp A ∧ (¬ pf A = 0 → v = -1 ∧ ∀ k, k < 4 → ct S' k = ct S k) ∧ (pf A = 0 → v = (if at_ = -1 then ct S s.toNatClampNeg else at_) ∧ ∀ k, k < 4 → ct S' k = if at_ = -1 ∧ k = s.toNatClampNeg then ct S s.toNatClampNeg + 1 else ct S k))
def cxC (s at_ : Int32) (S : ex_S) (v : Int32) (S' : ex_S) : Prop := (∀ k, S'.1 18 k = S.1 18 k) ∧ S'.1 17 1 = 0 ∧ ∀ n, S.1 17 1 = Int32.ofNat n → cq11 S n → txC (fun S => S.1 17 2) (fun S => S.1 17 3) (fun S => S.1 23) s at_ (ex_st 1 s.toNatClampNeg) (ps_text s (S.1 18) n) S v S'
def cx0 (S : ex_S) : ex_S := ex_sx (ex_sx (ex_sx S 17 1 0) 17 2 0) 17 3 (-1)
theorem cx0_fx (S : ex_S) : ex_fx (fun c k => c = 17 ∧ 1 ≤ k) S (cx0 S) := (((ex_fx.refl _ S).sx ⟨rfl, by decide⟩).sx ⟨rfl, by decide⟩).sx ⟨rfl, by decide⟩
theorem cx_no {s at_ : Int32} {S : ex_S} (h : ¬ txok s at_ (S.1 23 s.toNatClampNeg) (ex_st 1 s.toNatClampNeg)) : cxC s at_ S (-2) (cx0 S) :=
  ⟨fun k => (cx0_fx S).1 18 k (by omega), rfl, fun n _ _ => ⟨fun _ => ⟨rfl, rfl, rfl, fun k _ => (cx0_fx S).1 23 k (by omega)⟩, fun z => absurd z h⟩⟩
theorem cx_q {S : ex_S} {n : Nat} (h : cq11 S n) : cq11 (cx0 S) n := ⟨h.1, by rw [(cx0_fx S).2]; exact h.2.1, by rw [(cx0_fx S).2]; exact h.2.2.1, by rw [(cx0_fx S).2]; exact h.2.2.2.1, KV_fx (cx0_fx S) (fun a k z => by omega) h.2.2.2.2⟩
/-- what the reader has done -/
theorem cx_rd {s : Int32} {S S8 : ex_S} (h : cc11 (S.1 17 1) s (cx0 S) S8) : (∀ a k, ¬ pP11 a k → S8.1 a k = (cx0 S).1 a k) ∧ ∀ n, S.1 17 1 = Int32.ofNat n → cq11 S n → S8.1 25 1 = pf (ps_text s (S.1 18) n) ∧ S8.1 25 2 = pp (ps_text s (S.1 18) n) := by
  refine ⟨h.1.1, fun n e q => ?_⟩
  have e18 : (cx0 S).1 18 = S.1 18 := by funext j; exact (cx0_fx S).1 18 j (by omega)
  have r := h.2 n e (cx_q q)
  rw [e18] at r
  split at r
  · exact ⟨r.1, r.2.1⟩
  · exact ⟨r.1, r.2.1⟩
theorem cx_bad {s at_ : Int32} {S S8 : ex_S} (ok : txok s at_ (S.1 23 s.toNatClampNeg) (ex_st 1 s.toNatClampNeg)) (h : cc11 (S.1 17 1) s (cx0 S) S8) (c : ¬ (S8.1 25 1 = 0)) : cxC s at_ S (-1) (ex_sx (ex_sx S8 17 2 (S8.1 25 1)) 17 3 (S8.1 25 2)) := by
  obtain ⟨F, r⟩ := cx_rd h
  refine ⟨fun k => ?_, ?_, fun n e q => ⟨fun z => absurd ok z, fun _ => ?_⟩⟩
  · rw [ex_sx_ne (by omega), ex_sx_ne (by omega), F 18 k (by unfold pP11; omega)]
    exact (cx0_fx S).1 18 k (by omega)
  · rw [ex_sx_ne (by omega), ex_sx_ne (by omega), F 17 1 (by unfold pP11; omega)]
    rfl
  · obtain ⟨r1, r2⟩ := r n e q
    refine ⟨?_, ?_, fun _ => ⟨rfl, fun k _ => ?_⟩, fun z => absurd (r1.trans z) c⟩
    · show (ex_sx (ex_sx S8 17 2 (S8.1 25 1)) 17 3 (S8.1 25 2)).1 17 2 = _
      rw [ex_sx_ne (by omega), ex_sx_eq]; exact r1
    · show (ex_sx (ex_sx S8 17 2 (S8.1 25 1)) 17 3 (S8.1 25 2)).1 17 3 = _
      rw [ex_sx_eq]; exact r2
    · show (ex_sx (ex_sx S8 17 2 (S8.1 25 1)) 17 3 (S8.1 25 2)).1 23 k = S.1 23 k
      rw [ex_sx_ne (by omega), ex_sx_ne (by omega), F 23 k (by unfold pP11; omega)]
      exact (cx0_fx S).1 23 k (by omega)
theorem cx_good {s at_ : Int32} {S S8 S13 S' : ex_S} {v : Int32} (ok : txok s at_ (S.1 23 s.toNatClampNeg) (ex_st 1 s.toNatClampNeg)) (h : cc11 (S.1 17 1) s (cx0 S) S8) (c : S8.1 25 1 = 0) (h13 : ∀ a k, a < 72 → S13.1 a k = (ex_sx (ex_sx S8 17 2 (S8.1 25 1)) 17 3 (S8.1 25 2)).1 a k) (hS : ∀ a k, ¬ a = 23 → S'.1 a k = S13.1 a k) (h23 : ∀ k, S'.1 23 k = if at_ = -1 ∧ k = s.toNatClampNeg then S13.1 23 s.toNatClampNeg + 1 else S13.1 23 k) (hv : v = if at_ = -1 then S.1 23 s.toNatClampNeg else at_) : cxC s at_ S v S' := by
  obtain ⟨F, r⟩ := cx_rd h
  have k13 : ∀ k, S13.1 23 k = S.1 23 k := fun k => by
    rw [h13 23 k (by omega), ex_sx_ne (by omega), ex_sx_ne (by omega), F 23 k (by unfold pP11; omega)]
    exact (cx0_fx S).1 23 k (by omega)
  refine ⟨fun k => ?_, ?_, fun n e q => ⟨fun z => absurd ok z, fun _ => ?_⟩⟩
  · rw [hS 18 k (by omega), h13 18 k (by omega), ex_sx_ne (by omega), ex_sx_ne (by omega), F 18 k (by unfold pP11; omega)]
    exact (cx0_fx S).1 18 k (by omega)
  · rw [hS 17 1 (by omega), h13 17 1 (by omega), ex_sx_ne (by omega), ex_sx_ne (by omega), F 17 1 (by unfold pP11; omega)]
    rfl
  · obtain ⟨r1, r2⟩ := r n e q
    refine ⟨?_, ?_, fun z => absurd (r1.symm.trans c) z, fun _ => ⟨hv, fun k _ => ?_⟩⟩
    · show S'.1 17 2 = _
      rw [hS 17 2 (by omega), h13 17 2 (by omega), ex_sx_ne (by omega), ex_sx_eq]; exact r1
    · show S'.1 17 3 = _
      rw [hS 17 3 (by omega), h13 17 3 (by omega), ex_sx_eq]; exact r2
    · show S'.1 23 k = if at_ = -1 ∧ k = s.toNatClampNeg then S.1 23 s.toNatClampNeg + 1 else S.1 23 k
      rw [h23, k13, k13]
theorem ec10 : es10 cxC := by
  refine ev10 ec11 ec43m ?_ ?_ ?_ ?_ ?_ ?_ ?_ ?_ ?_
  · intro s a S c
    exact cx_no (fun z => Int32.not_le.mpr c z.1)
  · intro s a S c c2 c3 c4
    exact cx_no (fun z => Int32.not_le.mpr c4 (z.2.2.2 c3).1)
  · intro s a S c c2 c3 c4 c5 S8 h8 c6 S13 h13
    refine cx_good ⟨Int32.not_lt.mp c, lt4_le3.mp c2, fun z => absurd z c3, fun _ => ⟨Int32.not_lt.mp c4, c5⟩⟩ h8 c6 h13 (fun _ _ _ => rfl) (fun k => ?_) (if_neg c3).symm
    rw [if_neg (fun z => c3 z.1)]
  · intro s a S c c2 c3 c4 c5 S8 h8 c6
    exact cx_bad ⟨Int32.not_lt.mp c, lt4_le3.mp c2, fun z => absurd z c3, fun _ => ⟨Int32.not_lt.mp c4, c5⟩⟩ h8 c6
  · intro s a S c c2 c3 c4 c5
    exact cx_no (fun z => c5 (z.2.2.2 c3).2)
  · intro s a S c c2 c3 c4 S8 h8 c6 S13 h13
    have c3 := Classical.not_not.mp c3
    refine cx_good ⟨Int32.not_lt.mp c, lt4_le3.mp c2, fun _ => c4, fun z => absurd c3 z⟩ h8 c6 h13 (fun b k hb => ex_sx_ne (fun z => hb z.1)) (fun k => ?_) (if_pos c3).symm
    rw [ex_sx_at]
    by_cases q : k = s.toNatClampNeg
    · rw [if_pos ⟨rfl, q⟩, if_pos ⟨c3, q⟩]
    · rw [if_neg (fun z => q z.2), if_neg (fun z => q z.2)]
  · intro s a S c c2 c3 c4 S8 h8 c6
    have c3 := Classical.not_not.mp c3
    exact cx_bad ⟨Int32.not_lt.mp c, lt4_le3.mp c2, fun _ => c4, fun z => absurd c3 z⟩ h8 c6
  · intro s a S c c2 c3 c4
    have c3 := Classical.not_not.mp c3
    exact cx_no (fun z => c4 (z.2.2.1 c3))
  · intro s a S c c2
    exact cx_no (fun z => c2 (lt4_le3.mpr z.2.1))
