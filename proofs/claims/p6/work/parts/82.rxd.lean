theorem pl_f_all {T : Nat → Int32} {n : Nat} : ∀ {c b : Nat}, pl_f T n c b = none → ∀ i, i < c → tk_k T n (nb T n b i) = 2
  | 0, _, _, i, hi => absurd hi (by omega)
  | c + 1, b, h, i, hi => by
    have h' : (if tk_k T n b = 2 then pl_f T n c (tk_e T n b) else some (tk_s T n b)) = none := h
    split at h'
    · rename_i k2
      cases i with
      | zero => exact k2
      | succ i =>
        have := pl_f_all h' i (by omega)
        have e : ∀ j, nb T n b (j + 1) = nb T n (tk_e T n b) j := by
          intro j
          induction j with
          | zero => rfl
          | succ j ih => show tk_e T n (nb T n b (j + 1)) = tk_e T n (nb T n (tk_e T n b) j); rw [ih]
        rw [e i]; exact this
    · cases h'
theorem n32_k {n b : Nat} {T : Nat → Int32} (h : tk_k T n b = 2) : ∃ v, v ≤ 99 ∧ tk_v T n b = Int32.ofNat v := by
  have hv := tk_v_b h
  refine ⟨(tk_v T n b).toInt.toNat, by omega, ?_⟩
  rw [← Int32.toInt_inj, n32_i (by omega)]; omega
theorem li_le : ∀ i : Fin 14, i.val ≠ 4 → i.val ≠ 9 → tk_le (ex_st 11 i.val) = true := by decide +kernel
/-- the words of a LIST -/
theorem li_w {T : Nat → Int32} {n b : Nat} (hb : b ≤ n) : (lg_cmp (rwd T n b) 1920298085 = 0 → pfw 0 T n b = Int32.ofNat 0 ∧ tk_k T n b = 1) ∧ (¬ lg_cmp (rwd T n b) 1920298085 = 0 → lg_cmp (rwd T n b) 1936287598 = 0 → pfw 0 T n b = Int32.ofNat 1 ∧ tk_k T n b = 1) ∧ (¬ lg_cmp (rwd T n b) 1920298085 = 0 → ¬ lg_cmp (rwd T n b) 1936287598 = 0 → lg_cmp (rwd T n b) 1852137842 = 0 → pfw 0 T n b = Int32.ofNat 2 ∧ tk_k T n b = 1) ∧ (¬ lg_cmp (rwd T n b) 1920298085 = 0 → ¬ lg_cmp (rwd T n b) 1936287598 = 0 → ¬ lg_cmp (rwd T n b) 1852137842 = 0 → pfw 0 T n b = -1) := by
  have a1 := rwd_eq (T := T) (B := ex_st 11) (f := 0) (l := 4) (c := 1920298085) hb (by decide) (by decide) (fun i hi => li_le ⟨0 + i, by omega⟩ (by show 0 + i ≠ 4; omega) (by show 0 + i ≠ 9; omega)) (by decide +kernel) (by decide)
  have a2 := rwd_eq (T := T) (B := ex_st 11) (f := 5) (l := 9) (c := 1936287598) hb (by decide) (by decide) (fun i hi => li_le ⟨5 + i, by omega⟩ (by show 5 + i ≠ 4; omega) (by show 5 + i ≠ 9; omega)) (by decide +kernel) (by decide)
  have a3 := rwd_eq (T := T) (B := ex_st 11) (f := 10) (l := 14) (c := 1852137842) hb (by decide) (by decide) (fun i hi => li_le ⟨10 + i, by omega⟩ (by show 10 + i ≠ 4; omega) (by show 10 + i ≠ 9; omega)) (by decide +kernel) (by decide)
  have P : tk_k T n b = 1 → pws 7 T n b = wa 7 (fun f l => sp_b (ex_st 11) T f l (tk_s T n b) (tk_e T n b)) := fun h => by unfold pws; rw [if_pos h]
  have Q : pfw 0 T n b = if pws 7 T n b = -1 then -1 else 0 + pws 7 T n b := rfl
  refine ⟨fun h => ?_, fun h1 h => ?_, fun h1 h2 h => ?_, fun h1 h2 h3 => ?_⟩
  · obtain ⟨k, s⟩ := a1.mp h
    refine ⟨?_, k⟩
    rw [Q, P k, wa_7, if_pos s]; decide
  · obtain ⟨k, s⟩ := a2.mp h
    refine ⟨?_, k⟩
    rw [Q, P k, wa_7, if_neg (fun z => h1 (a1.mpr ⟨k, z⟩)), if_pos s]; decide
  · obtain ⟨k, s⟩ := a3.mp h
    refine ⟨?_, k⟩
    rw [Q, P k, wa_7, if_neg (fun z => h1 (a1.mpr ⟨k, z⟩)), if_neg (fun z => h2 (a2.mpr ⟨k, z⟩)), if_pos s]; decide
  · rw [Q]
    by_cases k : tk_k T n b = 1
    · rw [P k, wa_7, if_neg (fun z => h1 (a1.mpr ⟨k, z⟩)), if_neg (fun z => h2 (a2.mpr ⟨k, z⟩)), if_neg (fun z => h3 (a3.mpr ⟨k, z⟩))]; decide
    · have : pws 7 T n b = -1 := by unfold pws; rw [if_neg k]
      rw [this]; decide
def ri187 (w64 : Int64) (at_ : Int32) (S T : ex_S) : Prop := ex_fw rp182 S T ∧ (lg_cmp w64 1920298085 = 0 → ri 0 rqc0 w64 at_ S T) ∧ (¬ lg_cmp w64 1920298085 = 0 → lg_cmp w64 1936287598 = 0 → ri 1 rqc0 w64 at_ S T) ∧ (¬ lg_cmp w64 1920298085 = 0 → ¬ lg_cmp w64 1936287598 = 0 → lg_cmp w64 1852137842 = 0 ∧ ri 2 rqc0 w64 at_ S T)
theorem rqc0.keep {S S' : ex_S} {A : pA} (h : rqc0 S A) (e : ∀ j, S'.1 51 j = S.1 51 j) : rqc0 S' A := by
  obtain ⟨h1, h2, h3, h4, h5, h6, h7⟩ := h
  exact ⟨by rw [e]; exact h1, h2, by rw [e]; exact h3, h4, fun k j hk hj => by rw [e]; exact h5 k j hk hj, fun k j hk hj => by rw [e]; exact h6 k j hk hj, fun k hk => by rw [e]; exact h7 k hk⟩
theorem pmany_0 {A : pA} (h : pic A ≤ 10) : pmany 0 A = decide (pic A = 10) := by
  unfold pmany pthere
  rw [if_neg (by decide), show pmo 0 = 10 from rfl]
  by_cases e : pic A = 10
  · rw [decide_eq_true e, decide_eq_true ⟨by decide, by omega⟩]
  · rw [decide_eq_false e, decide_eq_false (fun z => by omega)]
theorem pmany_1 {A : pA} (h : prc A ≤ 16) : pmany 1 A = decide (prc A = 16) := by
  unfold pmany pthere
  rw [if_pos rfl, show pmo 1 = 16 from rfl]
  by_cases e : prc A = 16
  · rw [decide_eq_true e, decide_eq_true ⟨by decide, by omega⟩]
  · rw [decide_eq_false e, decide_eq_false (fun z => by omega)]
theorem ec187 : es187 (rcl 0 rqc0) := by
  have X : ∀ {a : Int64} {c d : Int64}, c ≠ d → lg_cmp a c = 0 → lg_cmp a d = 0 → False := fun h h1 h2 => h ((lg_0.mp h1).symm.trans (lg_0.mp h2))
  refine ev187 (I73 := ri187) ec179 ec182 ec183 ec184 ec185 ec188 ?_ ?_ ?_ ?_ ?_ ?_ ?_ ?_ ?_ ?_ ?_ ?_ ?_ ?_ ?_ ?_ ?_ ?_ ?_ ?_ ?_
  · intro a at_ S c1 c2 U hU
    refine ⟨hU.fw, fun _ => ri_yes hU (fun A h0 r => ?_), fun z => absurd c1 z, fun z => absurd c1 z⟩
    rw [pmany_0 r.2.1, decide_eq_true]
    exact (n32_eq (by have := r.2.1; omega) (by decide)).mp (r.1.symm.trans (c2.trans (show (10 : Int32) = Int32.ofNat 10 from rfl)))
  · intro a at_ S c1 c2 c3
    refine ⟨ex_fw.refl _ S, fun _ => ri_no (fun A h0 r => ?_), fun z => absurd c1 z, fun z => absurd c1 z⟩
    rw [pmany_0 r.2.1]
    exact decide_eq_false (fun z => c2 (by rw [r.1, z]; rfl))
  · intro a at_ S c1 c2 c3 c4
    exact (X (by decide) c1 (Classical.not_not.mp c3)).elim
  · intro a at_ S c1 c2 c3 c4 U hU
    exact (X (by decide) c1 (Classical.not_not.mp c3)).elim
  · intro a at_ S c1 c2 c3
    refine ⟨ex_fw.refl _ S, fun z => absurd z c1, fun _ _ => ri_no (fun A h0 r => ?_), fun _ z => absurd c2 z⟩
    rw [pmany_1 r.2.2.2.1]
    exact decide_eq_false (fun z => c3 (by rw [r.2.2.1, z]; rfl))
  · intro a at_ S c1 c2 c3 U hU
    refine ⟨hU.fw, fun z => absurd z c1, fun _ _ => ri_yes hU (fun A h0 r => ?_), fun _ z => absurd c2 z⟩
    rw [pmany_1 r.2.2.2.1, decide_eq_true]
    exact (n32_eq (by have := r.2.2.2.1; omega) (by decide)).mp (r.2.2.1.symm.trans ((Classical.not_not.mp c3).trans (show (16 : Int32) = Int32.ofNat 16 from rfl)))
  · intro a at_ S c1 c2 c3
    refine ⟨ex_fw.refl _ S, fun z => absurd z c1, fun _ z => absurd z c2, fun _ _ => ⟨c3, ri_no (fun A h0 r => ?_)⟩⟩
    unfold pmany
    exact decide_eq_false (fun z => absurd z.1 (by decide))
  · intro a at_ S c1 c2 c3 r U hU
    obtain ⟨rfl, rfl⟩ := hU
    refine ⟨(ex_fw.refl _ S).sx (by unfold rpl; omega), fun n b A q hR => ?_⟩
    rw [q.2.2.1] at c1 c2 c3
    have hp := (li_w (T := S.1 42) q.1.2.1).2.2.2 c1 c2 c3
    refine ⟨fun _ => ⟨rfl, by rw [ex_sx_eq, q.1.2.2.2.2.1]⟩, fun w hw e => absurd (e.symm.trans hp) (n32_m1 (by omega))⟩
  -- near
  · intro a at_ S T hI U hU c1 c2 r V hV c3
    obtain ⟨F0, _, _, hI⟩ := hI
    obtain ⟨c4, hi⟩ := hI c1 c2
    refine ⟨((F0.mono rp182_n).trans ((hU.1.mono rp179_n).trans (hV.1.mono rp183_n))).mono rpn_l, fun n b A q hR => ?_⟩
    have q3 := q.2.2.1
    rw [q3] at c1 c2 c4
    obtain ⟨hw, hk⟩ := (li_w (T := S.1 42) q.1.2.1).2.2.1 c1 c2 c4
    have st := hi.start (off := 0) hU q hR (by omega)
    obtain ⟨p, p1, p2⟩ := (st.tp hV (by decide) rfl (by decide) rfl (by decide) (by decide)).1 c3
    exact rcl_stop hw (by decide) rfl (pl_pre_s p1) p2
  · intro a at_ S T hI U hU c1 c2 r V hV c3 r2 W hW c5 c6
    obtain ⟨F0, _, _, hI⟩ := hI
    obtain ⟨c4, hi⟩ := hI c1 c2
    refine ⟨((F0.mono rp182_n).trans ((hU.1.mono rp179_n).trans ((hV.1.mono rp183_n).trans (hW.1.mono rp183_n)))).mono rpn_l, fun n b A q hR => ?_⟩
    have q3 := q.2.2.1
    rw [q3] at c1 c2 c4
    obtain ⟨hw, hk⟩ := (li_w (T := S.1 42) q.1.2.1).2.2.1 c1 c2 c4
    have st := hi.start (off := 0) hU q hR (by omega)
    have s1 := ((st.tp hV (by decide) rfl (by decide) rfl (by decide) (by decide)).2 c3).2
    have s2 := ((s1.ts hW (by decide) rfl (by decide) rfl (Or.inl rfl) rfl).2 c5).2
    obtain ⟨g1, g2, g3, g4, g5, g6⟩ := s2
    refine rcl_goes hw (by decide) rfl (pl_pre_n (by rw [← g5]; rfl) (by decide)) g2 g3.line (fun z => ?_)
    rw [pline_f.1] at z
    exact absurd z (g6 c6)
  · intro a at_ S T hI U hU c1 c2 r V hV c3 r2 W hW c5 c6
    obtain ⟨F0, _, _, hI⟩ := hI
    obtain ⟨c4, hi⟩ := hI c1 c2
    have FW : ex_fw rpn S W := (F0.mono rp182_n).trans ((hU.1.mono rp179_n).trans ((hV.1.mono rp183_n).trans (hW.1.mono rp183_n)))
    refine ⟨(FW.mono rpn_l).sx (by unfold rpl; omega), fun n b A q hR => ?_⟩
    have q3 := q.2.2.1
    rw [q3] at c1 c2 c4
    obtain ⟨hw, hk⟩ := (li_w (T := S.1 42) q.1.2.1).2.2.1 c1 c2 c4
    have st := hi.start (off := 0) hU q hR (by omega)
    have s1 := ((st.tp hV (by decide) rfl (by decide) rfl (by decide) (by decide)).2 c3).2
    have s2 := ((s1.ts hW (by decide) rfl (by decide) rfl (Or.inl rfl) rfl).2 c5).2
    obtain ⟨g1, g2, g3, g4, g5, g6⟩ := s2
    have pn : pl_f (S.1 42) n (pnl 2) (tk_e (S.1 42) n b) = none := by rw [← g5]; rfl
    refine rcl_goes hw (by decide) rfl (pl_pre_n pn (by decide)) ?_ ?_ (fun z => ?_)
    · exact g2.keep (fun k _ _ => ex_sx_ne (by omega)) (fun i => ex_sx_ne (by omega)) rfl
    · exact (g3.keep (ex_sx_ne (by omega)) (ex_sx_ne (by omega)) (Nat.le_refl _)).line
    · obtain ⟨e1, e2, e3⟩ := pline_0 z
      obtain ⟨h1, h2, h3, h4, h5, h6, h7⟩ := hR e2
      rw [e1, pkeep_2]
      have k0 := pl_f_all pn 0 (by decide)
      obtain ⟨v0, v1, v2⟩ := n32_k k0
      have l0 : pll (S.1 42) n 2 (tk_e (S.1 42) n b) 0 = Int32.ofNat v0 := (pll_lt (by decide)).trans v2
      have l1 : pll (S.1 42) n 2 (tk_e (S.1 42) n b) 1 = W.1 52 1 := (pll_lt (by decide)).trans (g4 1 (by decide)).symm
      have r0 : W.1 52 0 = Int32.ofNat v0 := (g4 0 (by decide)).trans v2
      have e90 : (90 + W.1 52 0 : Int32).toNatClampNeg = 90 + v0 := by rw [r0, show (90 : Int32) = Int32.ofNat 90 from rfl, n32_add, n32_tn (by omega)]
      have w51 : ∀ j, W.1 51 j = S.1 51 j := fun j => FW.1 51 j (by unfold rpn; omega)
      refine ⟨?_, h2, ?_, h4, fun k j hk hj => ?_, fun k j hk hj => ?_, fun k hk => ?_⟩
      · rw [ex_sx_ne (by rw [e90]; omega), w51]; exact h1
      · rw [ex_sx_ne (by rw [e90]; omega), w51]; exact h3
      · have hk' : k < pic A := hk
        rw [ex_sx_ne (by rw [e90]; omega), w51]; exact h5 k j hk hj
      · have hk' : k < prc A := hk
        rw [ex_sx_ne (by rw [e90]; omega), w51]; exact h6 k j hk hj
      · show _ = if k = (pll (S.1 42) n 2 (tk_e (S.1 42) n b) 0).toNatClampNeg then pnr A k ||| (1 <<< (pll (S.1 42) n 2 (tk_e (S.1 42) n b) 1 &&& 31)) else pnr A k
        rw [ex_sx_at, e90, l0, l1, n32_tn (by omega), w51]
        by_cases hkk : k = v0
        · rw [if_pos ⟨rfl, by omega⟩, if_pos hkk, ← hkk, h7 k hk]
        · rw [if_neg (by omega), if_neg hkk, w51]; exact h7 k hk
  · intro a at_ S T hI U hU c1 c2 r V hV c3 r2 W hW c5
    obtain ⟨F0, _, _, hI⟩ := hI
    obtain ⟨c4, hi⟩ := hI c1 c2
    refine ⟨((F0.mono rp182_n).trans ((hU.1.mono rp179_n).trans ((hV.1.mono rp183_n).trans (hW.1.mono rp183_n)))).mono rpn_l, fun n b A q hR => ?_⟩
    have q3 := q.2.2.1
    rw [q3] at c1 c2 c4
    obtain ⟨hw, hk⟩ := (li_w (T := S.1 42) q.1.2.1).2.2.1 c1 c2 c4
    have st := hi.start (off := 0) hU q hR (by omega)
    have s1 := ((st.tp hV (by decide) rfl (by decide) rfl (by decide) (by decide)).2 c3).2
    obtain ⟨p, p1, p2⟩ := (s1.ts hW (by decide) rfl (by decide) rfl (Or.inl rfl) rfl).1 (Classical.not_not.mp c5)
    exact rcl_stop hw (by decide) rfl (pl_pre_s p1) p2
  -- sign
  · intro a at_ S T hI U hU c1 c2 r V hV c3
    obtain ⟨F0, _, hI, _⟩ := hI
    have c2 := Classical.not_not.mp c2
    have hi := hI c1 c2
    refine ⟨((F0.mono rp182_n).trans ((hU.1.mono rp179_n).trans (hV.1.mono rp183_n))).mono rpn_l, fun n b A q hR => ?_⟩
    have q3 := q.2.2.1
    rw [q3] at c1 c2
    obtain ⟨hw, hk⟩ := (li_w (T := S.1 42) q.1.2.1).2.1 c1 c2
    have st := hi.start (off := 0) hU q hR (by omega)
    obtain ⟨p, p1, p2⟩ := (st.tp hV (by decide) rfl (by decide) rfl (by decide) (by decide)).1 c3
    exact rcl_stop hw (by decide) rfl (pl_pre_s p1) p2
  · intro a at_ S T hI U hU c1 c2 r V hV c3 r2 W hW c4
    obtain ⟨F0, _, hI, _⟩ := hI
    have c2 := Classical.not_not.mp c2
    have hi := hI c1 c2
    refine ⟨((F0.mono rp182_n).trans ((hU.1.mono rp179_n).trans ((hV.1.mono rp183_n).trans (hW.1.mono rp183_n)))).mono rpn_l, fun n b A q hR => ?_⟩
    have q3 := q.2.2.1
    rw [q3] at c1 c2
    obtain ⟨hw, hk⟩ := (li_w (T := S.1 42) q.1.2.1).2.1 c1 c2
    have st := hi.start (off := 0) hU q hR (by omega)
    have s1 := ((st.tp hV (by decide) rfl (by decide) rfl (by decide) (by decide)).2 c3).2
    obtain ⟨p, p1, p2⟩ := (s1.tp hW (by decide) rfl (by decide) rfl (by decide) (by decide)).1 c4
    exact rcl_stop hw (by decide) rfl (pl_pre_s p1) p2
  · intro a at_ S T hI U hU c1 c2 r V hV c3 r2 W hW c4 r3 X3 hX c5 Y hY
    obtain ⟨F0, _, hI, _⟩ := hI
    have c2 := Classical.not_not.mp c2
    have hi := hI c1 c2
    have FW : ex_fw rpn S X3 := (F0.mono rp182_n).trans ((hU.1.mono rp179_n).trans ((hV.1.mono rp183_n).trans ((hW.1.mono rp183_n).trans (hX.1.mono rp183_n))))
    refine ⟨(FW.mono rpn_l).trans (hY.1.w.mono (fun a k z => by unfold rpl; omega)), fun n b A q hR => ?_⟩
    have q3 := q.2.2.1
    rw [q3] at c1 c2
    obtain ⟨hw, hk⟩ := (li_w (T := S.1 42) q.1.2.1).2.1 c1 c2
    have st := hi.start (off := 0) hU q hR (by omega)
    have s1 := ((st.tp hV (by decide) rfl (by decide) rfl (by decide) (by decide)).2 c3).2
    have s2 := ((s1.tp hW (by decide) rfl (by decide) rfl (by decide) (by decide)).2 c4).2
    have s3 := ((s2.tp hX (by decide) rfl (by decide) rfl (by decide) (by decide)).2 c5).2
    obtain ⟨g1, g2, g3, g4, g5, g6⟩ := s3
    have pn : pl_f (S.1 42) n (pnl 1) (tk_e (S.1 42) n b) = none := by rw [← g5]; rfl
    refine rcl_goes hw (by decide) rfl (pl_pre_n pn (by decide)) ?_ ?_ (fun z => ?_)
    · exact g2.keep (fun k _ _ => hY.1.1 41 k (by omega)) (fun i => hY.1.1 42 i (by omega)) (by rw [hY.1.2])
    · exact (g3.keep (hY.1.1 41 17 (by omega)) (hY.1.1 41 18 (by omega)) (Nat.le_refl _)).line
    · obtain ⟨e1, e2, e3⟩ := pline_0 z
      obtain ⟨h1, h2, h3, h4, h5, h6, h7⟩ := hR e2
      rw [pmany_1 h4] at e3
      have e3 := of_decide_eq_false e3
      rw [e1, pkeep_1]
      have w51 : ∀ j, X3.1 51 j = S.1 51 j := fun j => FW.1 51 j (by unfold rpn; omega)
      have y := hY.2 1 42 3 16 (prc A) rfl rfl rfl rfl rfl (by rw [w51]; exact h3) (by decide) (by decide) (by decide) (by decide) (by omega) (by decide)
      refine ⟨?_, h2, ?_, ?_, fun k j hk hj => ?_, fun k j hk hj => ?_, fun k hk => ?_⟩
      · rw [y, if_neg (by decide), if_neg (by omega), w51]; exact h1
      · rw [y, if_pos rfl]; rfl
      · show prc A + 1 ≤ 16
        omega
      · have hk' : k < pic A := hk
        rw [y, if_neg (by omega), if_neg (by omega), w51]; exact h5 k j hk hj
      · have hk' : k < prc A + 1 := hk
        show _ = if k = prc A then pll (S.1 42) n 1 (tk_e (S.1 42) n b) j else prd A k j
        rw [y, if_neg (by omega)]
        by_cases hkk : k = prc A
        · rw [if_pos (by omega), if_pos hkk, pll_lt (show j < pnl 1 from hj), show 42 + 3 * k + j - (42 + 3 * prc A) = 0 + j by omega]
          exact g4 j hj
        · rw [if_neg (by omega), if_neg hkk, w51]; exact h6 k j (by omega) hj
      · rw [y, if_neg (by omega), if_neg (by omega), w51]; exact h7 k hk
  · intro a at_ S T hI U hU c1 c2 r V hV c3 r2 W hW c4 r3 X3 hX c5
    obtain ⟨F0, _, hI, _⟩ := hI
    have c2 := Classical.not_not.mp c2
    have hi := hI c1 c2
    have FW : ex_fw rpn S X3 := (F0.mono rp182_n).trans ((hU.1.mono rp179_n).trans ((hV.1.mono rp183_n).trans ((hW.1.mono rp183_n).trans (hX.1.mono rp183_n))))
    refine ⟨FW.mono rpn_l, fun n b A q hR => ?_⟩
    have q3 := q.2.2.1
    rw [q3] at c1 c2
    obtain ⟨hw, hk⟩ := (li_w (T := S.1 42) q.1.2.1).2.1 c1 c2
    have st := hi.start (off := 0) hU q hR (by omega)
    have s1 := ((st.tp hV (by decide) rfl (by decide) rfl (by decide) (by decide)).2 c3).2
    have s2 := ((s1.tp hW (by decide) rfl (by decide) rfl (by decide) (by decide)).2 c4).2
    obtain ⟨p, p1, p2⟩ := (s2.tp hX (by decide) rfl (by decide) rfl (by decide) (by decide)).1 (Classical.not_not.mp c5)
    exact rcl_stop hw (by decide) rfl (pl_pre_s p1) p2
  -- rule
  · intro a at_ S T hI U hU c1 r V hV c3
    obtain ⟨F0, hI, _, _⟩ := hI
    have c1 := Classical.not_not.mp c1
    have hi := hI c1
    refine ⟨((F0.mono rp182_n).trans ((hU.1.mono rp179_n).trans (hV.1.mono rp183_n))).mono rpn_l, fun n b A q hR => ?_⟩
    have q3 := q.2.2.1
    rw [q3] at c1
    obtain ⟨hw, hk⟩ := (li_w (T := S.1 42) q.1.2.1).1 c1
    have st := hi.start (off := 0) hU q hR (by omega)
    obtain ⟨p, p1, p2⟩ := (st.tp hV (by decide) rfl (by decide) rfl (by decide) (by decide)).1 c3
    exact rcl_stop hw (by decide) rfl (pl_pre_s p1) p2
  · intro a at_ S T hI U hU c1 r V hV c3 r2 W hW c4
    obtain ⟨F0, hI, _, _⟩ := hI
    have c1 := Classical.not_not.mp c1
    have hi := hI c1
    refine ⟨((F0.mono rp182_n).trans ((hU.1.mono rp179_n).trans ((hV.1.mono rp183_n).trans (hW.1.mono rp183_n)))).mono rpn_l, fun n b A q hR => ?_⟩
    have q3 := q.2.2.1
    rw [q3] at c1
    obtain ⟨hw, hk⟩ := (li_w (T := S.1 42) q.1.2.1).1 c1
    have st := hi.start (off := 0) hU q hR (by omega)
    have s1 := ((st.tp hV (by decide) rfl (by decide) rfl (by decide) (by decide)).2 c3).2
    obtain ⟨p, p1, p2⟩ := (s1.tp hW (by decide) rfl (by decide) rfl (by decide) (by decide)).1 c4
    exact rcl_stop hw (by decide) rfl (pl_pre_s p1) p2
  · intro a at_ S T hI U hU c1 r V hV c3 r2 W hW c4 r3 X3 hX c5
    obtain ⟨F0, hI, _, _⟩ := hI
    have c1 := Classical.not_not.mp c1
    have hi := hI c1
    have FW : ex_fw rpn S X3 := (F0.mono rp182_n).trans ((hU.1.mono rp179_n).trans ((hV.1.mono rp183_n).trans ((hW.1.mono rp183_n).trans (hX.1.mono rp183_n))))
    refine ⟨FW.mono rpn_l, fun n b A q hR => ?_⟩
    have q3 := q.2.2.1
    rw [q3] at c1
    obtain ⟨hw, hk⟩ := (li_w (T := S.1 42) q.1.2.1).1 c1
    have st := hi.start (off := 0) hU q hR (by omega)
    have s1 := ((st.tp hV (by decide) rfl (by decide) rfl (by decide) (by decide)).2 c3).2
    have s2 := ((s1.tp hW (by decide) rfl (by decide) rfl (by decide) (by decide)).2 c4).2
    obtain ⟨p, p1, p2⟩ := (s2.tp hX (by decide) rfl (by decide) rfl (by decide) (by decide)).1 c5
    exact rcl_stop hw (by decide) rfl (pl_pre_s p1) p2
  · intro a at_ S T hI U hU c1 r V hV c3 r2 W hW c4 r3 X3 hX c5 r4 Z hZ c6 Y hY
    obtain ⟨F0, hI, _, _⟩ := hI
    have c1 := Classical.not_not.mp c1
    have hi := hI c1
    have FX : ex_fw rpn S X3 := (F0.mono rp182_n).trans ((hU.1.mono rp179_n).trans ((hV.1.mono rp183_n).trans ((hW.1.mono rp183_n).trans (hX.1.mono rp183_n))))
    have FW : ex_fw rpn S Z := FX.trans (hZ.1.mono rp188_n)
    refine ⟨(FW.mono rpn_l).trans (hY.1.w.mono (fun a k z => by unfold rpl; omega)), fun n b A q hR => ?_⟩
    have q3 := q.2.2.1
    rw [q3] at c1
    obtain ⟨hw, hk⟩ := (li_w (T := S.1 42) q.1.2.1).1 c1
    have st := hi.start (off := 0) hU q hR (by omega)
    have s1 := ((st.tp hV (by decide) rfl (by decide) rfl (by decide) (by decide)).2 c3).2
    have s2 := ((s1.tp hW (by decide) rfl (by decide) rfl (by decide) (by decide)).2 c4).2
    have s3 := ((s2.tp hX (by decide) rfl (by decide) rfl (by decide) (by decide)).2 c5).2
    obtain ⟨g1, g2, g3, g4, g5, g6⟩ := s3
    have pn : pl_f (S.1 42) n (pnl 0) (tk_e (S.1 42) n b) = none := by rw [← g5]; rfl
    obtain ⟨z1, z2⟩ := hZ.2 n _ g2
    rw [g1] at z1 z2
    have na : pws 10 (S.1 42) n (nb (S.1 42) n (tk_e (S.1 42) n b) 3) ≠ -1 := fun z => c6 (z1 z).1
    obtain ⟨_, z3, z4⟩ := z2 na
    have gt := tk_s_ge (T := S.1 42) (n := n) (b := tk_e (S.1 42) n (nb (S.1 42) n (tk_e (S.1 42) n b) 3))
    have gt2 := tk_e_ge (T := S.1 42) (n := n) (b := nb (S.1 42) n (tk_e (S.1 42) n b) 3)
    have pp0 : pl_pre (S.1 42) n 0 (tk_e (S.1 42) n b) = none := by unfold pl_pre; rw [pn]; show (if (0 : Nat) = 0 then _ else _) = _; rw [if_pos rfl, if_neg na]
    have eb : bst (S.1 42) n 0 (tk_e (S.1 42) n b) = tk_e (S.1 42) n (nb (S.1 42) n (tk_e (S.1 42) n b) 3) := if_pos rfl
    refine rcl_goes hw (by decide) rfl pp0 ?_ ?_ (fun z => ?_)
    · rw [eb]; exact z3.keep (fun k _ _ => hY.1.1 41 k (by omega)) (fun i => hY.1.1 42 i (by omega)) (by rw [hY.1.2])
    · rw [eb]
      exact (g3.keep (by rw [hY.1.1 41 17 (by omega), hZ.1.1 41 17 (by unfold rp188; omega)]) (by rw [hY.1.1 41 18 (by omega), hZ.1.1 41 18 (by unfold rp188; omega)]) (by show tk_s (S.1 42) n (nb (S.1 42) n (tk_e (S.1 42) n b) 3) ≤ _; omega)).line
    · obtain ⟨e1, e2, e3⟩ := pline_0 z
      obtain ⟨h1, h2, h3, h4, h5, h6, h7⟩ := hR e2
      rw [pmany_0 h2] at e3
      have e3 := of_decide_eq_false e3
      rw [e1, pkeep_0]
      have w51 : ∀ j, Z.1 51 j = S.1 51 j := fun j => FW.1 51 j (by unfold rpn; omega)
      have y := hY.2 0 2 4 10 (pic A) rfl rfl rfl rfl rfl (by rw [w51]; exact h1) (by decide) (by decide) (by decide) (by decide) (by omega) (by decide)
      have rd : ∀ j, j < 4 → Z.1 52 j = pll (S.1 42) n 0 (tk_e (S.1 42) n b) j := by
        intro j hj
        by_cases h3 : j = 3
        · subst h3; rw [z4]; rfl
        · rw [hZ.1.1 52 j (by unfold rp188; omega), pll_lt (show j < pnl 0 by show j < 3; omega)]
          have := g4 j (by omega)
          rw [show 0 + j = j by omega] at this; exact this
      refine ⟨?_, ?_, ?_, h4, fun k j hk hj => ?_, fun k j hk hj => ?_, fun k hk => ?_⟩
      · rw [y, if_pos rfl]; rfl
      · show pic A + 1 ≤ 10
        omega
      · rw [y, if_neg (by decide), if_neg (by omega), w51]; exact h3
      · have hk' : k < pic A + 1 := hk
        show _ = if k = pic A then pll (S.1 42) n 0 (tk_e (S.1 42) n b) j else pit A k j
        rw [y, if_neg (by omega)]
        by_cases hkk : k = pic A
        · rw [if_pos (by omega), if_pos hkk, show 2 + 4 * k + j - (2 + 4 * pic A) = j by omega]
          exact rd j hj
        · rw [if_neg (by omega), if_neg hkk, w51]; exact h5 k j (by omega) hj
      · have hk' : k < prc A := hk
        rw [y, if_neg (by omega), if_neg (by omega), w51]; exact h6 k j hk hj
      · rw [y, if_neg (by omega), if_neg (by omega), w51]; exact h7 k hk
  · intro a at_ S T hI U hU c1 r V hV c3 r2 W hW c4 r3 X3 hX c5 r4 Z hZ c6
    obtain ⟨F0, hI, _, _⟩ := hI
    have c1 := Classical.not_not.mp c1
    have hi := hI c1
    have FX : ex_fw rpn S X3 := (F0.mono rp182_n).trans ((hU.1.mono rp179_n).trans ((hV.1.mono rp183_n).trans ((hW.1.mono rp183_n).trans (hX.1.mono rp183_n))))
    have FW : ex_fw rpn S Z := FX.trans (hZ.1.mono rp188_n)
    refine ⟨FW.mono rpn_l, fun n b A q hR => ?_⟩
    have q3 := q.2.2.1
    rw [q3] at c1
    obtain ⟨hw, hk⟩ := (li_w (T := S.1 42) q.1.2.1).1 c1
    have st := hi.start (off := 0) hU q hR (by omega)
    have s1 := ((st.tp hV (by decide) rfl (by decide) rfl (by decide) (by decide)).2 c3).2
    have s2 := ((s1.tp hW (by decide) rfl (by decide) rfl (by decide) (by decide)).2 c4).2
    have s3 := ((s2.tp hX (by decide) rfl (by decide) rfl (by decide) (by decide)).2 c5).2
    obtain ⟨g1, g2, g3, g4, g5, g6⟩ := s3
    have pn : pl_f (S.1 42) n (pnl 0) (tk_e (S.1 42) n b) = none := by rw [← g5]; rfl
    obtain ⟨z1, z2⟩ := hZ.2 n _ g2
    rw [g1] at z1 z2
    by_cases na : pws 10 (S.1 42) n (nb (S.1 42) n (tk_e (S.1 42) n b) 3) = -1
    · have pp0 : pl_pre (S.1 42) n 0 (tk_e (S.1 42) n b) = some (tk_s (S.1 42) n (nb (S.1 42) n (tk_e (S.1 42) n b) 3)) := by unfold pl_pre; rw [pn]; show (if (0 : Nat) = 0 then _ else _) = _; rw [if_pos rfl, if_pos na]
      exact rcl_stop hw (by decide) rfl pp0 (z1 na).2
    · exact absurd ((z2 na).1.symm.trans (Classical.not_not.mp c6)) (by decide)
