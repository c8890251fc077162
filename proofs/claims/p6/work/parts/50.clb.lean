section
/-! which word: how many words have ended before a place of a String -/
def cl_bk (l : List Int32) (n : Nat) : Nat := ((l ++ [32]).take n).countP (fun x => decide (x = 32))
theorem cl_tn1 {x y : Int32} (e : y.toInt = x.toInt + 1) (h : 0 ≤ x.toInt) : y.toNatClampNeg = x.toNatClampNeg + 1 := by
  have e1 : y.toNatClampNeg = y.toInt.toNat := rfl
  have e2 : x.toNatClampNeg = x.toInt.toNat := rfl
  omega
def cl_wd (l : List Int32) (n W : Nat) : Bool := (List.range (n + 1)).all (fun k => decide (cl_bk l k ≤ W) && decide (cl_bk l k ≤ cl_bk l (k + 1)) && (!(decide (k = n) || decide (l.getD k 0 = 32)) || decide (cl_bk l k + 1 ≤ cl_bk l (k + 1))))
theorem cl_wd_of {l : List Int32} {n W k : Nat} (h : cl_wd l n W = true) (hk : k ≤ n) : cl_bk l k ≤ W ∧ cl_bk l k ≤ cl_bk l (k + 1) ∧ ((k = n ∨ l.getD k 0 = 32) → cl_bk l k + 1 ≤ cl_bk l (k + 1)) := by
  have := List.all_eq_true.mp h k (List.mem_range.mpr (by omega))
  simp only [Bool.and_eq_true, Bool.or_eq_true, decide_eq_true_eq, Bool.not_eq_true', Bool.or_eq_false_iff, decide_eq_false_iff_not] at this
  obtain ⟨⟨a, b⟩, c⟩ := this
  refine ⟨a, b, fun q => ?_⟩
  rcases c with c | c
  · rcases q with q | q
    · exact absurd q c.1
    · exact absurd q c.2
  · exact c
def cl_cd (l : List Int32) (n : Nat) : Bool := (List.range n).all (fun k => decide (((l.getD k 0 &&& 255).toUInt32 % 65536).toInt32 = l.getD k 0) && decide (0 ≤ l.getD k 0 ∧ l.getD k 0 ≤ 127))
theorem cl_nar {v : Int32} (h0 : 0 ≤ v) (h1 : v ≤ 127) : narrow .char (.int v) = .int v := by
  have e : (v.toUInt32 % 65536).toInt32 = v := by
    have a0 := Int32.le_iff_toInt_le.mp h0
    have a1 := Int32.le_iff_toInt_le.mp h1
    have n0 : v = Int32.ofNat v.toInt.toNat := cl_nat32 (b := 127) ⟨a0, a1⟩ (by decide)
    have n1 : v.toInt.toNat < 128 := by have : v.toInt ≤ 127 := a1; omega
    rw [n0]
    generalize v.toInt.toNat = n at n1
    have : (List.range 128).all (fun n => decide (((Int32.ofNat n).toUInt32 % 65536).toInt32 = Int32.ofNat n)) = true := by decide +kernel
    have := List.all_eq_true.mp this n (List.mem_range.mpr n1)
    exact of_decide_eq_true this
  simp [narrow, e]
theorem cl_cd_of {l : List Int32} {n k : Nat} (h : cl_cd l n = true) (hk : k < n) : ((l.getD k 0 &&& 255).toUInt32 % 65536).toInt32 = l.getD k 0 ∧ narrow .char (.int (l.getD k 0)) = .int (l.getD k 0) := by
  have := List.all_eq_true.mp h k (List.mem_range.mpr hk)
  simp only [Bool.and_eq_true, decide_eq_true_eq] at this
  exact ⟨this.1, cl_nar this.2.1 this.2.2⟩
theorem cl_T.sw7 {ck : cl_K} {E : Nat → pm_E} {m : Nat → Int32} {o : Nat → Option Nat} {h : pm_H} (G : cl_G ck E) (T : cl_T ck E m o h) : h.2.2 7 = .inl (10, 0, .inl (fun _ => 0)) := (T.old (by decide)).trans G.2.2.2.2.2.2.2.2.2.2.2.2.2.2.1
theorem cl_T.sb7 {ck : cl_K} {E : Nat → pm_E} {m : Nat → Int32} {o : Nat → Option Nat} {h : pm_H} (G : cl_G ck E) (T : cl_T ck E m o h) : h.2.2 (7 + 4) = .inl (2, 14, .inl (fun j => (pm_sby.getD 0 []).getD j 0)) := (T.old (a := 11) (by decide)).trans G.2.2.2.2.2.2.2.2.2.2.2.2.2.2.2.2.2.2.1
theorem cl_wd7 : cl_wd (pm_sby.getD 0 []) 14 2 = true := by decide +kernel
theorem cl_cd7 : cl_cd (pm_sby.getD 0 []) 14 = true := by decide +kernel
theorem cl_ch7 {j : Int32} (B : sf_B 0 13 j) : (((pm_sby.getD 0 []).getD j.toNatClampNeg 0 &&& 255).toUInt32 % 65536).toInt32 = (pm_sby.getD 0 []).getD j.toNatClampNeg 0 ∧ narrow .char (.int ((pm_sby.getD 0 []).getD j.toNatClampNeg 0)) = .int ((pm_sby.getD 0 []).getD j.toNatClampNeg 0) := cl_cd_of cl_cd7 (by have e : j.toNatClampNeg = j.toInt.toNat := rfl; have := B.1; have := B.2; omega)
theorem cl_wC7 {w i : Int32} (X : w.toInt ≤ (cl_bk (pm_sby.getD 0 []) i.toNatClampNeg : Int)) (Bi : sf_B 0 14 i) : w.toInt ≤ 2 := by
  have e : i.toNatClampNeg = i.toInt.toNat := rfl
  have := (cl_wd_of cl_wd7 (k := i.toNatClampNeg) (by have := Bi.1; have := Bi.2; omega)).1
  omega
theorem cl_wB7 {w i i' : Int32} (X : w.toInt ≤ (cl_bk (pm_sby.getD 0 []) i.toNatClampNeg : Int)) (Bi : sf_B 0 14 i) (ei : i'.toInt = i.toInt + 1) : w.toInt ≤ (cl_bk (pm_sby.getD 0 []) i'.toNatClampNeg : Int) := by
  have e : i.toNatClampNeg = i.toInt.toNat := rfl
  have := (cl_wd_of cl_wd7 (k := i.toNatClampNeg) (by have := Bi.1; have := Bi.2; omega)).2.1
  rw [cl_tn1 ei Bi.1]
  omega
theorem cl_wA7 {w w' i i' : Int32} (X : w.toInt ≤ (cl_bk (pm_sby.getD 0 []) i.toNatClampNeg : Int)) (Bi : sf_B 0 14 i) (hb : i = 14 ∨ (pm_sby.getD 0 []).getD i.toNatClampNeg 0 = 32) (ew : w'.toInt = w.toInt + 1) (ei : i'.toInt = i.toInt + 1) : w'.toInt ≤ (cl_bk (pm_sby.getD 0 []) i'.toNatClampNeg : Int) := by
  have e : i.toNatClampNeg = i.toInt.toNat := rfl
  have := (cl_wd_of cl_wd7 (k := i.toNatClampNeg) (by have := Bi.1; have := Bi.2; omega)).2.2 (hb.imp (fun z => by rw [z]; rfl) id)
  rw [cl_tn1 ei Bi.1]
  omega
theorem cl_T.sw8 {ck : cl_K} {E : Nat → pm_E} {m : Nat → Int32} {o : Nat → Option Nat} {h : pm_H} (G : cl_G ck E) (T : cl_T ck E m o h) : h.2.2 8 = .inl (10, 0, .inl (fun _ => 0)) := (T.old (by decide)).trans G.2.2.2.2.2.2.2.2.2.2.2.2.2.2.2.1
theorem cl_T.sb8 {ck : cl_K} {E : Nat → pm_E} {m : Nat → Int32} {o : Nat → Option Nat} {h : pm_H} (G : cl_G ck E) (T : cl_T ck E m o h) : h.2.2 (8 + 4) = .inl (2, 20, .inl (fun j => (pm_sby.getD 1 []).getD j 0)) := (T.old (a := 12) (by decide)).trans G.2.2.2.2.2.2.2.2.2.2.2.2.2.2.2.2.2.2.2.1
theorem cl_wd8 : cl_wd (pm_sby.getD 1 []) 20 3 = true := by decide +kernel
theorem cl_cd8 : cl_cd (pm_sby.getD 1 []) 20 = true := by decide +kernel
theorem cl_ch8 {j : Int32} (B : sf_B 0 19 j) : (((pm_sby.getD 1 []).getD j.toNatClampNeg 0 &&& 255).toUInt32 % 65536).toInt32 = (pm_sby.getD 1 []).getD j.toNatClampNeg 0 ∧ narrow .char (.int ((pm_sby.getD 1 []).getD j.toNatClampNeg 0)) = .int ((pm_sby.getD 1 []).getD j.toNatClampNeg 0) := cl_cd_of cl_cd8 (by have e : j.toNatClampNeg = j.toInt.toNat := rfl; have := B.1; have := B.2; omega)
theorem cl_wC8 {w i : Int32} (X : w.toInt ≤ (cl_bk (pm_sby.getD 1 []) i.toNatClampNeg : Int)) (Bi : sf_B 0 20 i) : w.toInt ≤ 3 := by
  have e : i.toNatClampNeg = i.toInt.toNat := rfl
  have := (cl_wd_of cl_wd8 (k := i.toNatClampNeg) (by have := Bi.1; have := Bi.2; omega)).1
  omega
theorem cl_wB8 {w i i' : Int32} (X : w.toInt ≤ (cl_bk (pm_sby.getD 1 []) i.toNatClampNeg : Int)) (Bi : sf_B 0 20 i) (ei : i'.toInt = i.toInt + 1) : w.toInt ≤ (cl_bk (pm_sby.getD 1 []) i'.toNatClampNeg : Int) := by
  have e : i.toNatClampNeg = i.toInt.toNat := rfl
  have := (cl_wd_of cl_wd8 (k := i.toNatClampNeg) (by have := Bi.1; have := Bi.2; omega)).2.1
  rw [cl_tn1 ei Bi.1]
  omega
theorem cl_wA8 {w w' i i' : Int32} (X : w.toInt ≤ (cl_bk (pm_sby.getD 1 []) i.toNatClampNeg : Int)) (Bi : sf_B 0 20 i) (hb : i = 20 ∨ (pm_sby.getD 1 []).getD i.toNatClampNeg 0 = 32) (ew : w'.toInt = w.toInt + 1) (ei : i'.toInt = i.toInt + 1) : w'.toInt ≤ (cl_bk (pm_sby.getD 1 []) i'.toNatClampNeg : Int) := by
  have e : i.toNatClampNeg = i.toInt.toNat := rfl
  have := (cl_wd_of cl_wd8 (k := i.toNatClampNeg) (by have := Bi.1; have := Bi.2; omega)).2.2 (hb.imp (fun z => by rw [z]; rfl) id)
  rw [cl_tn1 ei Bi.1]
  omega
theorem cl_T.sw9 {ck : cl_K} {E : Nat → pm_E} {m : Nat → Int32} {o : Nat → Option Nat} {h : pm_H} (G : cl_G ck E) (T : cl_T ck E m o h) : h.2.2 9 = .inl (10, 0, .inl (fun _ => 0)) := (T.old (by decide)).trans G.2.2.2.2.2.2.2.2.2.2.2.2.2.2.2.2.1
theorem cl_T.sb9 {ck : cl_K} {E : Nat → pm_E} {m : Nat → Int32} {o : Nat → Option Nat} {h : pm_H} (G : cl_G ck E) (T : cl_T ck E m o h) : h.2.2 (9 + 4) = .inl (2, 33, .inl (fun j => (pm_sby.getD 2 []).getD j 0)) := (T.old (a := 13) (by decide)).trans G.2.2.2.2.2.2.2.2.2.2.2.2.2.2.2.2.2.2.2.2.1
theorem cl_wd9 : cl_wd (pm_sby.getD 2 []) 33 5 = true := by decide +kernel
theorem cl_cd9 : cl_cd (pm_sby.getD 2 []) 33 = true := by decide +kernel
theorem cl_ch9 {j : Int32} (B : sf_B 0 32 j) : (((pm_sby.getD 2 []).getD j.toNatClampNeg 0 &&& 255).toUInt32 % 65536).toInt32 = (pm_sby.getD 2 []).getD j.toNatClampNeg 0 ∧ narrow .char (.int ((pm_sby.getD 2 []).getD j.toNatClampNeg 0)) = .int ((pm_sby.getD 2 []).getD j.toNatClampNeg 0) := cl_cd_of cl_cd9 (by have e : j.toNatClampNeg = j.toInt.toNat := rfl; have := B.1; have := B.2; omega)
theorem cl_wC9 {w i : Int32} (X : w.toInt ≤ (cl_bk (pm_sby.getD 2 []) i.toNatClampNeg : Int)) (Bi : sf_B 0 33 i) : w.toInt ≤ 5 := by
  have e : i.toNatClampNeg = i.toInt.toNat := rfl
  have := (cl_wd_of cl_wd9 (k := i.toNatClampNeg) (by have := Bi.1; have := Bi.2; omega)).1
  omega
theorem cl_wB9 {w i i' : Int32} (X : w.toInt ≤ (cl_bk (pm_sby.getD 2 []) i.toNatClampNeg : Int)) (Bi : sf_B 0 33 i) (ei : i'.toInt = i.toInt + 1) : w.toInt ≤ (cl_bk (pm_sby.getD 2 []) i'.toNatClampNeg : Int) := by
  have e : i.toNatClampNeg = i.toInt.toNat := rfl
  have := (cl_wd_of cl_wd9 (k := i.toNatClampNeg) (by have := Bi.1; have := Bi.2; omega)).2.1
  rw [cl_tn1 ei Bi.1]
  omega
theorem cl_wA9 {w w' i i' : Int32} (X : w.toInt ≤ (cl_bk (pm_sby.getD 2 []) i.toNatClampNeg : Int)) (Bi : sf_B 0 33 i) (hb : i = 33 ∨ (pm_sby.getD 2 []).getD i.toNatClampNeg 0 = 32) (ew : w'.toInt = w.toInt + 1) (ei : i'.toInt = i.toInt + 1) : w'.toInt ≤ (cl_bk (pm_sby.getD 2 []) i'.toNatClampNeg : Int) := by
  have e : i.toNatClampNeg = i.toInt.toNat := rfl
  have := (cl_wd_of cl_wd9 (k := i.toNatClampNeg) (by have := Bi.1; have := Bi.2; omega)).2.2 (hb.imp (fun z => by rw [z]; rfl) id)
  rw [cl_tn1 ei Bi.1]
  omega
theorem cl_T.sw10 {ck : cl_K} {E : Nat → pm_E} {m : Nat → Int32} {o : Nat → Option Nat} {h : pm_H} (G : cl_G ck E) (T : cl_T ck E m o h) : h.2.2 10 = .inl (10, 0, .inl (fun _ => 0)) := (T.old (by decide)).trans G.2.2.2.2.2.2.2.2.2.2.2.2.2.2.2.2.2.1
theorem cl_T.sb10 {ck : cl_K} {E : Nat → pm_E} {m : Nat → Int32} {o : Nat → Option Nat} {h : pm_H} (G : cl_G ck E) (T : cl_T ck E m o h) : h.2.2 (10 + 4) = .inl (2, 23, .inl (fun j => (pm_sby.getD 3 []).getD j 0)) := (T.old (a := 14) (by decide)).trans G.2.2.2.2.2.2.2.2.2.2.2.2.2.2.2.2.2.2.2.2.2
theorem cl_wd10 : cl_wd (pm_sby.getD 3 []) 23 4 = true := by decide +kernel
theorem cl_cd10 : cl_cd (pm_sby.getD 3 []) 23 = true := by decide +kernel
theorem cl_ch10 {j : Int32} (B : sf_B 0 22 j) : (((pm_sby.getD 3 []).getD j.toNatClampNeg 0 &&& 255).toUInt32 % 65536).toInt32 = (pm_sby.getD 3 []).getD j.toNatClampNeg 0 ∧ narrow .char (.int ((pm_sby.getD 3 []).getD j.toNatClampNeg 0)) = .int ((pm_sby.getD 3 []).getD j.toNatClampNeg 0) := cl_cd_of cl_cd10 (by have e : j.toNatClampNeg = j.toInt.toNat := rfl; have := B.1; have := B.2; omega)
theorem cl_wC10 {w i : Int32} (X : w.toInt ≤ (cl_bk (pm_sby.getD 3 []) i.toNatClampNeg : Int)) (Bi : sf_B 0 23 i) : w.toInt ≤ 4 := by
  have e : i.toNatClampNeg = i.toInt.toNat := rfl
  have := (cl_wd_of cl_wd10 (k := i.toNatClampNeg) (by have := Bi.1; have := Bi.2; omega)).1
  omega
theorem cl_wB10 {w i i' : Int32} (X : w.toInt ≤ (cl_bk (pm_sby.getD 3 []) i.toNatClampNeg : Int)) (Bi : sf_B 0 23 i) (ei : i'.toInt = i.toInt + 1) : w.toInt ≤ (cl_bk (pm_sby.getD 3 []) i'.toNatClampNeg : Int) := by
  have e : i.toNatClampNeg = i.toInt.toNat := rfl
  have := (cl_wd_of cl_wd10 (k := i.toNatClampNeg) (by have := Bi.1; have := Bi.2; omega)).2.1
  rw [cl_tn1 ei Bi.1]
  omega
theorem cl_wA10 {w w' i i' : Int32} (X : w.toInt ≤ (cl_bk (pm_sby.getD 3 []) i.toNatClampNeg : Int)) (Bi : sf_B 0 23 i) (hb : i = 23 ∨ (pm_sby.getD 3 []).getD i.toNatClampNeg 0 = 32) (ew : w'.toInt = w.toInt + 1) (ei : i'.toInt = i.toInt + 1) : w'.toInt ≤ (cl_bk (pm_sby.getD 3 []) i'.toNatClampNeg : Int) := by
  have e : i.toNatClampNeg = i.toInt.toNat := rfl
  have := (cl_wd_of cl_wd10 (k := i.toNatClampNeg) (by have := Bi.1; have := Bi.2; omega)).2.2 (hb.imp (fun z => by rw [z]; rfl) id)
  rw [cl_tn1 ei Bi.1]
  omega
end
