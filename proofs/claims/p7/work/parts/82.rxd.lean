section
theorem pl_f_all {T : Nat → Int32} {n : Nat} : ∀ {c b : Nat}, pl_f T n c b = none → ∀ i, i < c → tk_k T n (nb T n b i) = 2
  | 0, _, _, i, hi => absurd hi (by omega)
  | c + 1, b, h, i, hi => by
    have h_q : (if tk_k T n b = 2 then pl_f T n c (tk_e T n b) else some (tk_s T n b)) = none := h
    split at h_q
    · rename_i k2
      cases i with
      | zero => exact k2
      | succ i =>
        have := pl_f_all h_q i (by omega)
        have e : ∀ j, nb T n b (j + 1) = nb T n (tk_e T n b) j := by
          intro j
          induction j with
          | zero => rfl
          | succ j ih => show tk_e T n (nb T n b (j + 1)) = tk_e T n (nb T n (tk_e T n b) j); rw [ih]
        rw [e i]; exact this
    · cases h_q
theorem n32_k {n b : Nat} {T : Nat → Int32} (h : tk_k T n b = 2) : ∃ v, v ≤ 99 ∧ tk_v T n b = Int32.ofNat v := by
  have hv := tk_v_b h
  refine ⟨(tk_v T n b).toInt.toNat, by omega, ?_⟩
  rw [← Int32.toInt_inj, n32_i (by omega)]; omega
theorem li_le : ∀ i : Fin 14, i.val ≠ 4 → i.val ≠ 9 → tk_le (ex_st 11 i.val) = true := by decide +kernel
/-- the words of a LIST -/
theorem li_w {T : Nat → Int32} {n b : Nat} (hb : b ≤ n) : (lg_cmp (rwd T n b) 1920298085 = 0 → pfw 0 T n b = Int32.ofNat 0 ∧ tk_k T n b = 1) ∧ (¬ lg_cmp (rwd T n b) 1920298085 = 0 → lg_cmp (rwd T n b) 1936287598 = 0 → pfw 0 T n b = Int32.ofNat 1 ∧ tk_k T n b = 1) ∧ (¬ lg_cmp (rwd T n b) 1920298085 = 0 → ¬ lg_cmp (rwd T n b) 1936287598 = 0 → lg_cmp (rwd T n b) 1852137842 = 0 → pfw 0 T n b = Int32.ofNat 2 ∧ tk_k T n b = 1) ∧ (¬ lg_cmp (rwd T n b) 1920298085 = 0 → ¬ lg_cmp (rwd T n b) 1936287598 = 0 → ¬ lg_cmp (rwd T n b) 1852137842 = 0 → pfw 0 T n b = -1) := by
  have a1 := rwd_eq (T := T) (B := ex_st 11) (f := 0) (l := 4) (c := 1920298085) hb (by decide) (by decide) (fun i hi => li_le ⟨0 + i, by omega⟩ (by show 0 + i ≠ 4; omega) (by show 0 + i ≠ 9; omega)) (by decide +kernel) (by decide)
  have a2 := rwd_eq (T := T) (B := ex_st 11) (f := 5) (l := 9) (c := 1936287598) hb (by decide) (by decide) (fun i hi => li_le ⟨5 + i, by omega⟩ (by show 5 + i ≠ 4; omega) (by show 5 + i ≠ 9; omega)) (by decide +kernel) (by decide)
  have a3 := rwd_eq (T := T) (B := ex_st 11) (f := 10) (l := 14) (c := 1852137842) hb (by decide) (by decide) (fun i hi => li_le ⟨10 + i, by omega⟩ (by show 10 + i ≠ 4; omega) (by show 10 + i ≠ 9; omega)) (by decide +kernel) (by decide)
  have P : tk_k T n b = 1 → pws 7 T n b = wa 7 (fun f l => sp_b (ex_st 11) T f l (tk_s T n b) (tk_e T n b)) := fun h => by unfold pws; rw [if_pos h]
  have Q : pfw 0 T n b = if pws 7 T n b = -1 then -1 else 0 + pws 7 T n b := rfl
  refine ⟨fun h => ?_, fun h1 h => ?_, fun h1 h2 h => ?_, fun h1 h2 h3 => ?_⟩
  · obtain ⟨k, s⟩ := a1.mp h
    refine ⟨?_, k⟩
    rw [Q, P k, wa_7, if_pos s]; decide
  · obtain ⟨k, s⟩ := a2.mp h
    refine ⟨?_, k⟩
    rw [Q, P k, wa_7, if_neg (fun z => h1 (a1.mpr ⟨k, z⟩)), if_pos s]; decide
  · obtain ⟨k, s⟩ := a3.mp h
    refine ⟨?_, k⟩
    rw [Q, P k, wa_7, if_neg (fun z => h1 (a1.mpr ⟨k, z⟩)), if_neg (fun z => h2 (a2.mpr ⟨k, z⟩)), if_pos s]; decide
  · rw [Q]
    by_cases k : tk_k T n b = 1
    · rw [P k, wa_7, if_neg (fun z => h1 (a1.mpr ⟨k, z⟩)), if_neg (fun z => h2 (a2.mpr ⟨k, z⟩)), if_neg (fun z => h3 (a3.mpr ⟨k, z⟩))]; decide
    · have : pws 7 T n b = -1 := by unfold pws; rw [if_neg k]
      rw [this]; decide
def ri187 (w64 : Int64) (at_ : Int32) (S T : ex_S) : Prop := ex_fw rp182 S T ∧ (lg_cmp w64 1920298085 = 0 → ri 0 rqc0 w64 at_ S T) ∧ (¬ lg_cmp w64 1920298085 = 0 → lg_cmp w64 1936287598 = 0 → ri 1 rqc0 w64 at_ S T) ∧ (¬ lg_cmp w64 1920298085 = 0 → ¬ lg_cmp w64 1936287598 = 0 → lg_cmp w64 1852137842 = 0 ∧ ri 2 rqc0 w64 at_ S T)
theorem rqc0.keep {S S_q : ex_S} {A : pA} (h : rqc0 S A) (e : ∀ j, S_q.1 51 j = S.1 51 j) : rqc0 S_q A := by
  obtain ⟨h1, h2, h3, h4, h5, h6, h7⟩ := h
  exact ⟨by rw [e]; exact h1, h2, by rw [e]; exact h3, h4, fun k j hk hj => by rw [e]; exact h5 k j hk hj, fun k j hk hj => by rw [e]; exact h6 k j hk hj, fun k hk => by rw [e]; exact h7 k hk⟩
theorem pmany_0 {A : pA} (h : pic A ≤ 10) : pmany 0 A = decide (pic A = 10) := by
  unfold pmany pthere
  rw [if_neg (by decide), show pmo 0 = 10 from rfl]
  by_cases e : pic A = 10
  · rw [decide_eq_true e, decide_eq_true ⟨by decide, by omega⟩]
  · rw [decide_eq_false e, decide_eq_false (fun z => by omega)]
theorem pmany_1 {A : pA} (h : prc A ≤ 16) : pmany 1 A = decide (prc A = 16) := by
  unfold pmany pthere
  rw [if_pos rfl, show pmo 1 = 16 from rfl]
  by_cases e : prc A = 16
  · rw [decide_eq_true e, decide_eq_true ⟨by decide, by omega⟩]
  · rw [decide_eq_false e, decide_eq_false (fun z => by omega)]
theorem ec187 : es187 (rcl 0 rqc0) := by
  have X : ∀ {a : Int64} {c d : Int64}, c ≠ d → lg_cmp a c = 0 → lg_cmp a d = 0 → False := fun h h1 h2 => h ((lg_0.mp h1).symm.trans (lg_0.mp h2))
  refine ev187 (I73 := ri187) ec179 ec182 ec183 ec184 ec185 ec188 ?_ ?_ ?_ ?_ ?_ ?_ ?_ ?_ ?_ ?_ ?_ ?_ ?_ ?_ ?_ ?_ ?_ ?_ ?_ ?_ ?_
  · intro a at_ S c1 c2 U hU
    refine ⟨hU.fw, fun _ => ri_yes hU (fun A h0 r => ?_), fun z => absurd c1 z, fun z => absurd c1 z⟩
    rw [pmany_0 r.2.1, decide_eq_true]
    exact (n32_eq (by have := r.2.1; omega) (by decide)).mp (r.1.symm.trans (c2.trans (show (10 : Int32) = Int32.ofNat 10 from rfl)))
  · intro a at_ S c1 c2 c3
    refine ⟨ex_fw.refl _ S, fun _ => ri_no (fun A h0 r => ?_), fun z => absurd c1 z, fun z => absurd c1 z⟩
    rw [pmany_0 r.2.1]
    exact decide_eq_false (fun z => c2 (by rw [r.1, z]; rfl))
  · intro a at_ S c1 c2 c3 c4
    exact (X (by decide) c1 (Classical.not_not.mp c3)).elim
  · intro a at_ S c1 c2 c3 c4 U hU
    exact (X (by decide) c1 (Classical.not_not.mp c3)).elim
  · intro a at_ S c1 c2 c3
    refine ⟨ex_fw.refl _ S, fun z => absurd z c1, fun _ _ => ri_no (fun A h0 r => ?_), fun _ z => absurd c2 z⟩
    rw [pmany_1 r.2.2.2.1]
    exact decide_eq_false (fun z => c3 (by rw [r.2.2.1, z]; rfl))
  · intro a at_ S c1 c2 c3 U hU
    refine ⟨hU.fw, fun z => absurd z c1, fun _ _ => ri_yes hU (fun A h0 r => ?_), fun _ z => absurd c2 z⟩
    rw [pmany_1 r.2.2.2.1, decide_eq_true]
    exact (n32_eq (by have := r.2.2.2.1; omega) (by decide)).mp (r.2.2.1.symm.trans ((Classical.not_not.mp c3).trans (show (16 : Int32) = Int32.ofNat 16 from rfl)))
  · intro a at_ S c1 c2 c3
    refine ⟨ex_fw.refl _ S, fun z => absurd z c1, fun _ z => absurd z c2, fun _ _ => ⟨c3, ri_no (fun A h0 r => ?_)⟩⟩
    unfold pmany
    exact decide_eq_false (fun z => absurd z.1 (by decide))
  · intro a at_ S c1 c2 c3 r U hU
    obtain ⟨rfl, rfl⟩ := hU
    refine ⟨(ex_fw.refl _ S).sx (by unfold rpl; omega), fun n b A q hR => ?_⟩
    rw [q.2.2.1] at c1 c2 c3
    have hp := (li_w (T := S.1 42) q.1.2.1).2.2.2 c1 c2 c3
    refine ⟨fun _ => ⟨rfl, by rw [ex_sx_eq, q.1.2.2.2.2.1]⟩, fun w hw e => absurd (e.symm.trans hp) (n32_m1 (by omega))⟩
  -- near
  · intro a at_ S T hI U hU c1 c2 r V hV c3
    obtain ⟨F0, _, _, hI⟩ := hI
    obtain ⟨c4, hi⟩ := hI c1 c2
    refine ⟨((F0.mono rp182_n).trans ((hU.1.mono rp179_n).trans (hV.1.mono rp183_n))).mono rpn_l, fun n b A q hR => ?_⟩
    have q3 := q.2.2.1
    rw [q3] at c1 c2 c4
    obtain ⟨hw, hk⟩ := (li_w (T := S.1 42) q.1.2.1).2.2.1 c1 c2 c4
    have st := hi.start (off := 0) hU q hR (by omega)
    obtain ⟨p, p1, p2⟩ := (st.tp hV (by decide) rfl (by decide) rfl (by decide) (by decide)).1 c3
    exact rcl_stop hw (by decide) rfl (pl_pre_s p1) p2
  · intro a at_ S T hI U hU c1 c2 r V hV c3 r2 W hW c5 c6
    obtain ⟨F0, _, _, hI⟩ := hI
    obtain ⟨c4, hi⟩ := hI c1 c2
    refine ⟨((F0.mono rp182_n).trans ((hU.1.mono rp179_n).trans ((hV.1.mono rp183_n).trans (hW.1.mono rp183_n)))).mono rpn_l, fun n b A q hR => ?_⟩
    have q3 := q.2.2.1
    rw [q3] at c1 c2 c4
    obtain ⟨hw, hk⟩ := (li_w (T := S.1 42) q.1.2.1).2.2.1 c1 c2 c4
    have st := hi.start (off := 0) hU q hR (by omega)
    have s1 := ((st.tp hV (by decide) rfl (by decide) rfl (by decide) (by decide)).2 c3).2
    have s2 := ((s1.ts hW (by decide) rfl (by decide) rfl (Or.inl rfl) rfl).2 c5).2
    obtain ⟨g1, g2, g3, g4, g5, g6⟩ := s2
    refine rcl_goes hw (by decide) rfl (pl_pre_n (by rw [← g5]; rfl) (by decide)) g2 g3.line (fun z => ?_)
    rw [pline_f.1] at z
    exact absurd z (g6 c6)
  · intro a at_ S T hI U hU c1 c2 r V hV c3 r2 W hW c5 c6
    obtain ⟨F0, _, _, hI⟩ := hI
    obtain ⟨c4, hi⟩ := hI c1 c2
    have FW : ex_fw rpn S W := (F0.mono rp182_n).trans ((hU.1.mono rp179_n).trans ((hV.1.mono rp183_n).trans (hW.1.mono rp183_n)))
    refine ⟨(FW.mono rpn_l).sx (by unfold rpl; omega), fun n b A q hR => ?_⟩
    have q3 := q.2.2.1
    rw [q3] at c1 c2 c4
    obtain ⟨hw, hk⟩ := (li_w (T := S.1 42) q.1.2.1).2.2.1 c1 c2 c4
    have st := hi.start (off := 0) hU q hR (by omega)
    have s1 := ((st.tp hV (by decide) rfl (by decide) rfl (by decide) (by decide)).2 c3).2
    have s2 := ((s1.ts hW (by decide) rfl (by decide) rfl (Or.inl rfl) rfl).2 c5).2
    obtain ⟨g1, g2, g3, g4, g5, g6⟩ := s2
    have pn : pl_f (S.1 42) n (pnl 2) (tk_e (S.1 42) n b) = none := by rw [← g5]; rfl
    refine rcl_goes hw (by decide) rfl (pl_pre_n pn (by decide)) ?_ ?_ (fun z => ?_)
    · exact g2.keep (fun k _ _ => ex_sx_ne (by omega)) (fun i => ex_sx_ne (by omega)) rfl
    · exact (g3.keep (ex_sx_ne (by omega)) (ex_sx_ne (by omega)) (Nat.le_refl _)).line
    · obtain ⟨e1, e2, e3⟩ := pline_0 z
      obtain ⟨h1, h2, h3, h4, h5, h6, h7⟩ := hR e2
      rw [e1, pkeep_2]
      have k0 := pl_f_all pn 0 (by decide)
      obtain ⟨v0, v1, v2⟩ := n32_k k0
      have l0 : pll (S.1 42) n 2 (tk_e (S.1 42) n b) 0 = Int32.ofNat v0 := (pll_lt (by decide)).trans v2
      have l1 : pll (S.1 42) n 2 (tk_e (S.1 42) n b) 1 = W.1 52 1 := (pll_lt (by decide)).trans (g4 1 (by decide)).symm
      have r0 : W.1 52 0 = Int32.ofNat v0 := (g4 0 (by decide)).trans v2
      have e90 : (90 + W.1 52 0 : Int32).toNatClampNeg = 90 + v0 := by rw [r0, show (90 : Int32) = Int32.ofNat 90 from rfl, n32_add, n32_tn (by omega)]
      have w51 : ∀ j, W.1 51 j = S.1 51 j := fun j => FW.1 51 j (by unfold rpn; omega)
      refine ⟨?_, h2, ?_, h4, fun k j hk hj => ?_, fun k j hk hj => ?_, fun k hk => ?_⟩
      · rw [ex_sx_ne (by rw [e90]; omega), w51]; exact h1
      · rw [ex_sx_ne (by rw [e90]; omega), w51]; exact h3
      · have hk' : k < pic A := hk
        rw [ex_sx_ne (by rw [e90]; omega), w51]; exact h5 k j hk hj
      · have hk' : k < prc A := hk
        rw [ex_sx_ne (by rw [e90]; omega), w51]; exact h6 k j hk hj
      · show _ = if k = (pll (S.1 42) n 2 (tk_e (S.1 42) n b) 0).toNatClampNeg then pnr A k ||| (1 <<< (pll (S.1 42) n 2 (tk_e (S.1 42) n b) 1 &&& 31)) else pnr A k
        rw [ex_sx_at, e90, l0, l1, n32_tn (by omega), w51]
        by_cases hkk : k = v0
        · rw [if_pos ⟨rfl, by omega⟩, if_pos hkk, ← hkk, h7 k hk]
        · rw [if_neg (by omega), if_neg hkk, w51]; exact h7 k hk
  · intro a at_ S T hI U hU c1 c2 r V hV c3 r2 W hW c5
    obtain ⟨F0, _, _, hI⟩ := hI
    obtain ⟨c4, hi⟩ := hI c1 c2
    refine ⟨((F0.mono rp182_n).trans ((hU.1.mono rp179_n).trans ((hV.1.mono rp183_n).trans (hW.1.mono rp183_n)))).mono rpn_l, fun n b A q hR => ?_⟩
    have q3 := q.2.2.1
    rw [q3] at c1 c2 c4
    obtain ⟨hw, hk⟩ := (li_w (T := S.1 42) q.1.2.1).2.2.1 c1 c2 c4
    have st := hi.start (off := 0) hU q hR (by omega)
    have s1 := ((st.tp hV (by decide) rfl (by decide) rfl (by decide) (by decide)).2 c3).2
    obtain ⟨p, p1, p2⟩ := (s1.ts hW (by decide) rfl (by decide) rfl (Or.inl rfl) rfl).1 (Classical.not_not.mp c5)
    exact rcl_stop hw (by decide) rfl (pl_pre_s p1) p2
  -- sign
  · intro a at_ S T hI U hU c1 c2 r V hV c3
    obtain ⟨F0, _, hI, _⟩ := hI
    have c2 := Classical.not_not.mp c2
    have hi := hI c1 c2
    refine ⟨((F0.mono rp182_n).trans ((hU.1.mono rp179_n).trans (hV.1.mono rp183_n))).mono rpn_l, fun n b A q hR => ?_⟩
    have q3 := q.2.2.1
    rw [q3] at c1 c2
    obtain ⟨hw, hk⟩ := (li_w (T := S.1 42) q.1.2.1).2.1 c1 c2
    have st := hi.start (off := 0) hU q hR (by omega)
    obtain ⟨p, p1, p2⟩ := (st.tp hV (by decide) rfl (by decide) rfl (by decide) (by decide)).1 c3
    exact rcl_stop hw (by decide) rfl (pl_pre_s p1) p2
  · intro a at_ S T hI U hU c1 c2 r V hV c3 r2 W hW c4
    obtain ⟨F0, _, hI, _⟩ := hI
    have c2 := Classical.not_not.mp c2
    have hi := hI c1 c2
    refine ⟨((F0.mono rp182_n).trans ((hU.1.mono rp179_n).trans ((hV.1.mono rp183_n).trans (hW.1.mono rp183_n)))).mono rpn_l, fun n b A q hR => ?_⟩
    have q3 := q.2.2.1
    rw [q3] at c1 c2
    obtain ⟨hw, hk⟩ := (li_w (T := S.1 42) q.1.2.1).2.1 c1 c2
    have st := hi.start (off := 0) hU q hR (by omega)
    have s1 := ((st.tp hV (by decide) rfl (by decide) rfl (by decide) (by decide)).2 c3).2
    obtain ⟨p, p1, p2⟩ := (s1.tp hW (by decide) rfl (by decide) rfl (by decide) (by decide)).1 c4
    exact rcl_stop hw (by decide) rfl (pl_pre_s p1) p2
  · intro a at_ S T hI U hU c1 c2 r V hV c3 r2 W hW c4 r3 X3 hX c5 Y hY
    obtain ⟨F0, _, hI, _⟩ := hI
    have c2 := Classical.not_not.mp c2
    have hi := hI c1 c2
    have FW : ex_fw rpn S X3 := (F0.mono rp182_n).trans ((hU.1.mono rp179_n).trans ((hV.1.mono rp183_n).trans ((hW.1.mono rp183_n).trans (hX.1.mono rp183_n))))
    refine ⟨(FW.mono rpn_l).trans (hY.1.w.mono (fun a k z => by unfold rpl; omega)), fun n b A q hR => ?_⟩
    have q3 := q.2.2.1
    rw [q3] at c1 c2
    obtain ⟨hw, hk⟩ := (li_w (T := S.1 42) q.1.2.1).2.1 c1 c2
    have st := hi.start (off := 0) hU q hR (by omega)
    have s1 := ((st.tp hV (by decide) rfl (by decide) rfl (by decide) (by decide)).2 c3).2
    have s2 := ((s1.tp hW (by decide) rfl (by decide) rfl (by decide) (by decide)).2 c4).2
    have s3 := ((s2.tp hX (by decide) rfl (by decide) rfl (by decide) (by decide)).2 c5).2
    obtain ⟨g1, g2, g3, g4, g5, g6⟩ := s3
    have pn : pl_f (S.1 42) n (pnl 1) (tk_e (S.1 42) n b) = none := by rw [← g5]; rfl
    refine rcl_goes hw (by decide) rfl (pl_pre_n pn (by decide)) ?_ ?_ (fun z => ?_)
    · exact g2.keep (fun k _ _ => hY.1.1 41 k (by omega)) (fun i => hY.1.1 42 i (by omega)) (by rw [hY.1.2])
    · exact (g3.keep (hY.1.1 41 17 (by omega)) (hY.1.1 41 18 (by omega)) (Nat.le_refl _)).line
    · obtain ⟨e1, e2, e3⟩ := pline_0 z
      obtain ⟨h1, h2, h3, h4, h5, h6, h7⟩ := hR e2
      rw [pmany_1 h4] at e3
      have e3 := of_decide_eq_false e3
      rw [e1, pkeep_1]
      have w51 : ∀ j, X3.1 51 j = S.1 51 j := fun j => FW.1 51 j (by unfold rpn; omega)
      have y := hY.2 1 42 3 16 (prc A) rfl rfl rfl rfl rfl (by rw [w51]; exact h3) (by decide) (by decide) (by decide) (by decide) (by omega) (by decide)
      refine ⟨?_, h2, ?_, ?_, fun k j hk hj => ?_, fun k j hk hj => ?_, fun k hk => ?_⟩
      · rw [y, if_neg (by decide), if_neg (by omega), w51]; exact h1
      · rw [y, if_pos rfl]; rfl
      · show prc A + 1 ≤ 16
        omega
      · have hk' : k < pic A := hk
        rw [y, if_neg (by omega), if_neg (by omega), w51]; exact h5 k j hk hj
      · have hk' : k < prc A + 1 := hk
        show _ = if k = prc A then pll (S.1 42) n 1 (tk_e (S.1 42) n b) j else prd A k j
        rw [y, if_neg (by omega)]
        by_cases hkk : k = prc A
        · rw [if_pos (by omega), if_pos hkk, pll_lt (show j < pnl 1 from hj), show 42 + 3 * k + j - (42 + 3 * prc A) = 0 + j by omega]
          exact g4 j hj
        · rw [if_neg (by omega), if_neg hkk, w51]; exact h6 k j (by omega) hj
      · rw [y, if_neg (by omega), if_neg (by omega), w51]; exact h7 k hk
  · intro a at_ S T hI U hU c1 c2 r V hV c3 r2 W hW c4 r3 X3 hX c5
    obtain ⟨F0, _, hI, _⟩ := hI
    have c2 := Classical.not_not.mp c2
    have hi := hI c1 c2
    have FW : ex_fw rpn S X3 := (F0.mono rp182_n).trans ((hU.1.mono rp179_n).trans ((hV.1.mono rp183_n).trans ((hW.1.mono rp183_n).trans (hX.1.mono rp183_n))))
    refine ⟨FW.mono rpn_l, fun n b A q hR => ?_⟩
    have q3 := q.2.2.1
    rw [q3] at c1 c2
    obtain ⟨hw, hk⟩ := (li_w (T := S.1 42) q.1.2.1).2.1 c1 c2
    have st := hi.start (off := 0) hU q hR (by omega)
    have s1 := ((st.tp hV (by decide) rfl (by decide) rfl (by decide) (by decide)).2 c3).2
    have s2 := ((s1.tp hW (by decide) rfl (by decide) rfl (by decide) (by decide)).2 c4).2
    obtain ⟨p, p1, p2⟩ := (s2.tp hX (by decide) rfl (by decide) rfl (by decide) (by decide)).1 (Classical.not_not.mp c5)
    exact rcl_stop hw (by decide) rfl (pl_pre_s p1) p2
  -- rule
  · intro a at_ S T hI U hU c1 r V hV c3
    obtain ⟨F0, hI, _, _⟩ := hI
    have c1 := Classical.not_not.mp c1
    have hi := hI c1
    refine ⟨((F0.mono rp182_n).trans ((hU.1.mono rp179_n).trans (hV.1.mono rp183_n))).mono rpn_l, fun n b A q hR => ?_⟩
    have q3 := q.2.2.1
    rw [q3] at c1
    obtain ⟨hw, hk⟩ := (li_w (T := S.1 42) q.1.2.1).1 c1
    have st := hi.start (off := 0) hU q hR (by omega)
    obtain ⟨p, p1, p2⟩ := (st.tp hV (by decide) rfl (by decide) rfl (by decide) (by decide)).1 c3
    exact rcl_stop hw (by decide) rfl (pl_pre_s p1) p2
  · intro a at_ S T hI U hU c1 r V hV c3 r2 W hW c4
    obtain ⟨F0, hI, _, _⟩ := hI
    have c1 := Classical.not_not.mp c1
    have hi := hI c1
    refine ⟨((F0.mono rp182_n).trans ((hU.1.mono rp179_n).trans ((hV.1.mono rp183_n).trans (hW.1.mono rp183_n)))).mono rpn_l, fun n b A q hR => ?_⟩
    have q3 := q.2.2.1
    rw [q3] at c1
    obtain ⟨hw, hk⟩ := (li_w (T := S.1 42) q.1.2.1).1 c1
    have st := hi.start (off := 0) hU q hR (by omega)
    have s1 := ((st.tp hV (by decide) rfl (by decide) rfl (by decide) (by decide)).2 c3).2
    obtain ⟨p, p1, p2⟩ := (s1.tp hW (by decide) rfl (by decide) rfl (by decide) (by decide)).1 c4
    exact rcl_stop hw (by decide) rfl (pl_pre_s p1) p2
  · intro a at_ S T hI U hU c1 r V hV c3 r2 W hW c4 r3 X3 hX c5
    obtain ⟨F0, hI, _, _⟩ := hI
    have c1 := Classical.not_not.mp c1
    have hi := hI c1
    have FW : ex_fw rpn S X3 := (F0.mono rp182_n).trans ((hU.1.mono rp179_n).trans ((hV.1.mono rp183_n).trans ((hW.1.mono rp183_n).trans (hX.1.mono rp183_n))))
    refine ⟨FW.mono rpn_l, fun n b A q hR => ?_⟩
    have q3 := q.2.2.1
    rw [q3] at c1
    obtain ⟨hw, hk⟩ := (li_w (T := S.1 42) q.1.2.1).1 c1
    have st := hi.start (off := 0) hU q hR (by omega)
    have s1 := ((st.tp hV (by decide) rfl (by decide) rfl (by decide) (by decide)).2 c3).2
    have s2 := ((s1.tp hW (by decide) rfl (by decide) rfl (by decide) (by decide)).2 c4).2
    obtain ⟨p, p1, p2⟩ := (s2.tp hX (by decide) rfl (by decide) rfl (by decide) (by decide)).1 c5
    exact rcl_stop hw (by decide) rfl (pl_pre_s p1) p2
  · intro a at_ S T hI U hU c1 r V hV c3 r2 W hW c4 r3 X3 hX c5 r4 Z hZ c6 Y hY
    obtain ⟨F0, hI, _, _⟩ := hI
    have c1 := Classical.not_not.mp c1
    have hi := hI c1
    have FX : ex_fw rpn S X3 := (F0.mono rp182_n).trans ((hU.1.mono rp179_n).trans ((hV.1.mono rp183_n).trans ((hW.1.mono rp183_n).trans (hX.1.mono rp183_n))))
    have FW : ex_fw rpn S Z := FX.trans (hZ.1.mono rp188_n)
    refine ⟨(FW.mono rpn_l).trans (hY.1.w.mono (fun a k z => by unfold rpl; omega)), fun n b A q hR => ?_⟩
    have q3 := q.2.2.1
    rw [q3] at c1
    obtain ⟨hw, hk⟩ := (li_w (T := S.1 42) q.1.2.1).1 c1
    have st := hi.start (off := 0) hU q hR (by omega)
    have s1 := ((st.tp hV (by decide) rfl (by decide) rfl (by decide) (by decide)).2 c3).2
    have s2 := ((s1.tp hW (by decide) rfl (by decide) rfl (by decide) (by decide)).2 c4).2
    have s3 := ((s2.tp hX (by decide) rfl (by decide) rfl (by decide) (by decide)).2 c5).2
    obtain ⟨g1, g2, g3, g4, g5, g6⟩ := s3
    have pn : pl_f (S.1 42) n (pnl 0) (tk_e (S.1 42) n b) = none := by rw [← g5]; rfl
    obtain ⟨z1, z2⟩ := hZ.2 n _ g2
    rw [g1] at z1 z2
    have na : pws 10 (S.1 42) n (nb (S.1 42) n (tk_e (S.1 42) n b) 3) ≠ -1 := fun z => c6 (z1 z).1
    obtain ⟨_, z3, z4⟩ := z2 na
    have gt := tk_s_ge (T := S.1 42) (n := n) (b := tk_e (S.1 42) n (nb (S.1 42) n (tk_e (S.1 42) n b) 3))
    have gt2 := tk_e_ge (T := S.1 42) (n := n) (b := nb (S.1 42) n (tk_e (S.1 42) n b) 3)
    have pp0 : pl_pre (S.1 42) n 0 (tk_e (S.1 42) n b) = none := by unfold pl_pre; rw [pn]; show (if (0 : Nat) = 0 then _ else _) = _; rw [if_pos rfl, if_neg na]
    have eb : bst (S.1 42) n 0 (tk_e (S.1 42) n b) = tk_e (S.1 42) n (nb (S.1 42) n (tk_e (S.1 42) n b) 3) := if_pos rfl
    refine rcl_goes hw (by decide) rfl pp0 ?_ ?_ (fun z => ?_)
    · rw [eb]; exact z3.keep (fun k _ _ => hY.1.1 41 k (by omega)) (fun i => hY.1.1 42 i (by omega)) (by rw [hY.1.2])
    · rw [eb]
      exact (g3.keep (by rw [hY.1.1 41 17 (by omega), hZ.1.1 41 17 (by unfold rp188; omega)]) (by rw [hY.1.1 41 18 (by omega), hZ.1.1 41 18 (by unfold rp188; omega)]) (by show tk_s (S.1 42) n (nb (S.1 42) n (tk_e (S.1 42) n b) 3) ≤ _; omega)).line
    · obtain ⟨e1, e2, e3⟩ := pline_0 z
      obtain ⟨h1, h2, h3, h4, h5, h6, h7⟩ := hR e2
      rw [pmany_0 h2] at e3
      have e3 := of_decide_eq_false e3
      rw [e1, pkeep_0]
      have w51 : ∀ j, Z.1 51 j = S.1 51 j := fun j => FW.1 51 j (by unfold rpn; omega)
      have y := hY.2 0 2 4 10 (pic A) rfl rfl rfl rfl rfl (by rw [w51]; exact h1) (by decide) (by decide) (by decide) (by decide) (by omega) (by decide)
      have rd : ∀ j, j < 4 → Z.1 52 j = pll (S.1 42) n 0 (tk_e (S.1 42) n b) j := by
        intro j hj
        by_cases h3 : j = 3
        · subst h3; rw [z4]; rfl
        · rw [hZ.1.1 52 j (by unfold rp188; omega), pll_lt (show j < pnl 0 by show j < 3; omega)]
          have := g4 j (by omega)
          rw [show 0 + j = j by omega] at this; exact this
      refine ⟨?_, ?_, ?_, h4, fun k j hk hj => ?_, fun k j hk hj => ?_, fun k hk => ?_⟩
      · rw [y, if_pos rfl]; rfl
      · show pic A + 1 ≤ 10
        omega
      · rw [y, if_neg (by decide), if_neg (by omega), w51]; exact h3
      · have hk' : k < pic A + 1 := hk
        show _ = if k = pic A then pll (S.1 42) n 0 (tk_e (S.1 42) n b) j else pit A k j
        rw [y, if_neg (by omega)]
        by_cases hkk : k = pic A
        · rw [if_pos (by omega), if_pos hkk, show 2 + 4 * k + j - (2 + 4 * pic A) = j by omega]
          exact rd j hj
        · rw [if_neg (by omega), if_neg hkk, w51]; exact h5 k j (by omega) hj
      · have hk' : k < prc A := hk
        rw [y, if_neg (by omega), if_neg (by omega), w51]; exact h6 k j hk hj
      · rw [y, if_neg (by omega), if_neg (by omega), w51]; exact h7 k hk
  · intro a at_ S T hI U hU c1 r V hV c3 r2 W hW c4 r3 X3 hX c5 r4 Z hZ c6
    obtain ⟨F0, hI, _, _⟩ := hI
    have c1 := Classical.not_not.mp c1
    have hi := hI c1
    have FX : ex_fw rpn S X3 := (F0.mono rp182_n).trans ((hU.1.mono rp179_n).trans ((hV.1.mono rp183_n).trans ((hW.1.mono rp183_n).trans (hX.1.mono rp183_n))))
    have FW : ex_fw rpn S Z := FX.trans (hZ.1.mono rp188_n)
    refine ⟨FW.mono rpn_l, fun n b A q hR => ?_⟩
    have q3 := q.2.2.1
    rw [q3] at c1
    obtain ⟨hw, hk⟩ := (li_w (T := S.1 42) q.1.2.1).1 c1
    have st := hi.start (off := 0) hU q hR (by omega)
    have s1 := ((st.tp hV (by decide) rfl (by decide) rfl (by decide) (by decide)).2 c3).2
    have s2 := ((s1.tp hW (by decide) rfl (by decide) rfl (by decide) (by decide)).2 c4).2
    have s3 := ((s2.tp hX (by decide) rfl (by decide) rfl (by decide) (by decide)).2 c5).2
    obtain ⟨g1, g2, g3, g4, g5, g6⟩ := s3
    have pn : pl_f (S.1 42) n (pnl 0) (tk_e (S.1 42) n b) = none := by rw [← g5]; rfl
    obtain ⟨z1, z2⟩ := hZ.2 n _ g2
    rw [g1] at z1 z2
    by_cases na : pws 10 (S.1 42) n (nb (S.1 42) n (tk_e (S.1 42) n b) 3) = -1
    · have pp0 : pl_pre (S.1 42) n 0 (tk_e (S.1 42) n b) = some (tk_s (S.1 42) n (nb (S.1 42) n (tk_e (S.1 42) n b) 3)) := by unfold pl_pre; rw [pn]; show (if (0 : Nat) = 0 then _ else _) = _; rw [if_pos rfl, if_pos na]
      exact rcl_stop hw (by decide) rfl pp0 (z1 na).2
    · exact absurd ((z2 na).1.symm.trans (Classical.not_not.mp c6)) (by decide)
end
section
/-! HOUSE lines -/
theorem ho_le : ∀ i : Fin 33, i.val ≠ 5 → i.val ≠ 10 → i.val ≠ 16 → i.val ≠ 21 → i.val ≠ 28 → tk_le (ex_st 13 i.val) = true := by decide +kernel
theorem ho_r {T : Nat → Int32} {n b f l : Nat} {c : Int64} (hb : b ≤ n) (hm : 1 ≤ l - f) (hm8 : l - f ≤ 8) (hl : l ≤ 33) (hx : ∀ i, i < l - f → f + i ≠ 5 ∧ f + i ≠ 10 ∧ f + i ≠ 16 ∧ f + i ≠ 21 ∧ f + i ≠ 28) (hc : c = tk_pf (ex_st 13) f (l - f)) (h0 : c ≠ 0) : lg_cmp (rwd T n b) c = 0 ↔ tk_k T n b = 1 ∧ sp_b (ex_st 13) T f l (tk_s T n b) (tk_e T n b) = true :=
  rwd_eq hb hm hm8 (fun i hi => ho_le ⟨f + i, by omega⟩ (hx i hi).1 (hx i hi).2.1 (hx i hi).2.2.1 (hx i hi).2.2.2.1 (hx i hi).2.2.2.2) hc h0
theorem ho_w {T : Nat → Int32} {n b : Nat} (hb : b ≤ n) :
    (lg_cmp (rwd T n b) 474148660594 = 0 → pfw 3 T n b = Int32.ofNat 7 ∧ tk_k T n b = 1) ∧
    (¬ lg_cmp (rwd T n b) 474148660594 = 0 → lg_cmp (rwd T n b) 1836020596 = 0 → pfw 3 T n b = Int32.ofNat 8 ∧ tk_k T n b = 1) ∧
    (¬ lg_cmp (rwd T n b) 474148660594 = 0 → ¬ lg_cmp (rwd T n b) 1836020596 = 0 → lg_cmp (rwd T n b) 478660552050 = 0 → pfw 3 T n b = Int32.ofNat 9 ∧ tk_k T n b = 1) ∧
    (¬ lg_cmp (rwd T n b) 474148660594 = 0 → ¬ lg_cmp (rwd T n b) 1836020596 = 0 → ¬ lg_cmp (rwd T n b) 478660552050 = 0 → lg_cmp (rwd T n b) 1885432178 = 0 → pfw 3 T n b = Int32.ofNat 10 ∧ tk_k T n b = 1) ∧
    (¬ lg_cmp (rwd T n b) 474148660594 = 0 → ¬ lg_cmp (rwd T n b) 1836020596 = 0 → ¬ lg_cmp (rwd T n b) 478660552050 = 0 → ¬ lg_cmp (rwd T n b) 1885432178 = 0 → lg_cmp (rwd T n b) 114801865155950 = 0 → pfw 3 T n b = Int32.ofNat 11 ∧ tk_k T n b = 1) ∧
    (¬ lg_cmp (rwd T n b) 474148660594 = 0 → ¬ lg_cmp (rwd T n b) 1836020596 = 0 → ¬ lg_cmp (rwd T n b) 478660552050 = 0 → ¬ lg_cmp (rwd T n b) 1885432178 = 0 → ¬ lg_cmp (rwd T n b) 114801865155950 = 0 → lg_cmp (rwd T n b) 1936024942 = 0 → pfw 3 T n b = Int32.ofNat 12 ∧ tk_k T n b = 1) ∧
    (¬ lg_cmp (rwd T n b) 474148660594 = 0 → ¬ lg_cmp (rwd T n b) 1836020596 = 0 → ¬ lg_cmp (rwd T n b) 478660552050 = 0 → ¬ lg_cmp (rwd T n b) 1885432178 = 0 → ¬ lg_cmp (rwd T n b) 114801865155950 = 0 → ¬ lg_cmp (rwd T n b) 1936024942 = 0 → pfw 3 T n b = -1) := by
  have a1 := ho_r (T := T) (f := 0) (l := 5) (c := 474148660594) hb (by decide) (by decide) (by decide) (fun i hi => by omega) (by decide +kernel) (by decide)
  have a2 := ho_r (T := T) (f := 6) (l := 10) (c := 1836020596) hb (by decide) (by decide) (by decide) (fun i hi => by omega) (by decide +kernel) (by decide)
  have a3 := ho_r (T := T) (f := 11) (l := 16) (c := 478660552050) hb (by decide) (by decide) (by decide) (fun i hi => by omega) (by decide +kernel) (by decide)
  have a4 := ho_r (T := T) (f := 17) (l := 21) (c := 1885432178) hb (by decide) (by decide) (by decide) (fun i hi => by omega) (by decide +kernel) (by decide)
  have a5 := ho_r (T := T) (f := 22) (l := 28) (c := 114801865155950) hb (by decide) (by decide) (by decide) (fun i hi => by omega) (by decide +kernel) (by decide)
  have a6 := ho_r (T := T) (f := 29) (l := 33) (c := 1936024942) hb (by decide) (by decide) (by decide) (fun i hi => by omega) (by decide +kernel) (by decide)
  have P : tk_k T n b = 1 → pws 9 T n b = wa 9 (fun f l => sp_b (ex_st 13) T f l (tk_s T n b) (tk_e T n b)) := fun h => by unfold pws; rw [if_pos h]
  have Q : pfw 3 T n b = if pws 9 T n b = -1 then -1 else 7 + pws 9 T n b := rfl
  refine ⟨fun h => ?_, fun h1 h => ?_, fun h1 h2 h => ?_, fun h1 h2 h3 h => ?_, fun h1 h2 h3 h4 h => ?_, fun h1 h2 h3 h4 h5 h => ?_, fun h1 h2 h3 h4 h5 h6 => ?_⟩
  · obtain ⟨k, s⟩ := a1.mp h
    refine ⟨?_, k⟩
    rw [Q, P k, wa_9, if_pos s]; decide
  · obtain ⟨k, s⟩ := a2.mp h
    refine ⟨?_, k⟩
    rw [Q, P k, wa_9, if_neg (fun z => h1 (a1.mpr ⟨k, z⟩)), if_pos s]; decide
  · obtain ⟨k, s⟩ := a3.mp h
    refine ⟨?_, k⟩
    rw [Q, P k, wa_9, if_neg (fun z => h1 (a1.mpr ⟨k, z⟩)), if_neg (fun z => h2 (a2.mpr ⟨k, z⟩)), if_pos s]; decide
  · obtain ⟨k, s⟩ := a4.mp h
    refine ⟨?_, k⟩
    rw [Q, P k, wa_9, if_neg (fun z => h1 (a1.mpr ⟨k, z⟩)), if_neg (fun z => h2 (a2.mpr ⟨k, z⟩)), if_neg (fun z => h3 (a3.mpr ⟨k, z⟩)), if_pos s]; decide
  · obtain ⟨k, s⟩ := a5.mp h
    refine ⟨?_, k⟩
    rw [Q, P k, wa_9, if_neg (fun z => h1 (a1.mpr ⟨k, z⟩)), if_neg (fun z => h2 (a2.mpr ⟨k, z⟩)), if_neg (fun z => h3 (a3.mpr ⟨k, z⟩)), if_neg (fun z => h4 (a4.mpr ⟨k, z⟩)), if_pos s]; decide
  · obtain ⟨k, s⟩ := a6.mp h
    refine ⟨?_, k⟩
    rw [Q, P k, wa_9, if_neg (fun z => h1 (a1.mpr ⟨k, z⟩)), if_neg (fun z => h2 (a2.mpr ⟨k, z⟩)), if_neg (fun z => h3 (a3.mpr ⟨k, z⟩)), if_neg (fun z => h4 (a4.mpr ⟨k, z⟩)), if_neg (fun z => h5 (a5.mpr ⟨k, z⟩)), if_pos s]; decide
  · rw [Q]
    by_cases k : tk_k T n b = 1
    · rw [P k, wa_9, if_neg (fun z => h1 (a1.mpr ⟨k, z⟩)), if_neg (fun z => h2 (a2.mpr ⟨k, z⟩)), if_neg (fun z => h3 (a3.mpr ⟨k, z⟩)), if_neg (fun z => h4 (a4.mpr ⟨k, z⟩)), if_neg (fun z => h5 (a5.mpr ⟨k, z⟩)), if_neg (fun z => h6 (a6.mpr ⟨k, z⟩))]; decide
    · have : pws 9 T n b = -1 := by unfold pws; rw [if_neg k]
      rw [this]; decide
/-- before its numbers a line may write into 52 -/
theorem rn.zero {S S_q : ex_S} {T : Nat → Int32} {n w b off off' : Nat} {A : pA} (h : rn S T n w b 0 off A) (F : ex_fx (fun a _ => a = 52) S S_q) : rn S_q T n w b 0 off' A := by
  obtain ⟨e, t, r, rd, pl, gd⟩ := h
  refine ⟨?_, t.keep (fun k _ _ => F.1 41 k (by omega)) (fun i => F.1 42 i (by omega)) (by rw [F.2]), r.keep (F.1 41 17 (by omega)) (F.1 41 18 (by omega)) (Nat.le_refl _), fun i hi => absurd hi (by omega), pl, fun z => gd ((F.1 41 22 (by omega)).symm.trans z)⟩
  funext i; rw [F.1 42 i (by omega), e]
theorem pmany_h {w : Nat} {A : pA} (hw : 7 ≤ w) (hw2 : w < 13) (h : pic A ≤ 8) : pmany w A = decide (pic A = 8) := by
  have hm : pmo w = 8 := by
    rcases (show w = 7 ∨ w = 8 ∨ w = 9 ∨ w = 10 ∨ w = 11 ∨ w = 12 by omega) with z | z | z | z | z | z <;> subst z <;> rfl
  unfold pmany pthere
  rw [if_neg (by omega), hm]
  by_cases e : pic A = 8
  · rw [decide_eq_true e, decide_eq_true ⟨by decide, by omega⟩]
  · rw [decide_eq_false e, decide_eq_false (fun z => by omega)]
theorem ho_nl {i : Nat} (h : i < 6) : pnl (7 + i) = (if i = 1 ∨ i = 2 ∨ i = 3 then 2 else 1) ∧ pgr (7 + i) 0 = 9 ∧ pgr (7 + i) 1 = (if i = 1 ∨ i = 2 ∨ i = 3 then 9 else 0) := by
  rcases (show i = 0 ∨ i = 1 ∨ i = 2 ∨ i = 3 ∨ i = 4 ∨ i = 5 by omega) with z | z | z | z | z | z <;> subst z <;> exact ⟨rfl, rfl, rfl⟩
/-- which law, as the reference finds it -/
def ri75 (w64 : Int64) (at_ : Int32) (S : ex_S) (x : Int32) (T : ex_S) : Prop := T = S ∧ ∀ (R : Nat → Int32) n b, b ≤ n → w64 = rwd R n b → (x = -1 → pfw 3 R n b = -1) ∧ (x ≠ -1 → ∃ i, i < 6 ∧ x = Int32.ofNat i ∧ pfw 3 R n b = Int32.ofNat (7 + i) ∧ tk_k R n b = 1)
def ri103 (w64 : Int64) (at_ : Int32) (S : ex_S) (x : Int32) (T : ex_S) : Prop := ex_fw rp182 S T ∧ (∀ i, i < 6 → x = Int32.ofNat i → ri (7 + i) rqc3 w64 at_ S T) ∧ ∀ (R : Nat → Int32) n b, b ≤ n → w64 = rwd R n b → ∃ i, i < 6 ∧ x = Int32.ofNat i ∧ pfw 3 R n b = Int32.ofNat (7 + i) ∧ tk_k R n b = 1
def ri163 (w64 : Int64) (at_ : Int32) (S T : ex_S) : Prop := ex_fw rpn S T ∧ ∀ n b A, rql w64 at_ S n b A → (pf A = 0 → rqc3 S A) → ∃ i, i < 6 ∧ pfw 3 (S.1 42) n b = Int32.ofNat (7 + i) ∧ T.1 52 0 = Int32.ofNat i ∧ (∀ j, pnl (7 + i) ≤ j → j < 2 → T.1 52 (1 + j) = -1) ∧ rn T (S.1 42) n (7 + i) (tk_e (S.1 42) n b) (pnl (7 + i)) 1 (pnote A (pmany (7 + i) A) 3 (Int32.ofNat (tk_s (S.1 42) n b)))
/-- the law's numbers begin -/
theorem ri103.start {w64 : Int64} {at_ x : Int32} {S T U V : ex_S} {n b : Nat} {A : pA} (h : ri103 w64 at_ S x T) (hU : rc179 T U) (hV : rc190 U V) (q : rql w64 at_ S n b A) (hR : pf A = 0 → rqc3 S A) : ∃ i, i < 6 ∧ x = Int32.ofNat i ∧ pfw 3 (S.1 42) n b = Int32.ofNat (7 + i) ∧ rn (ex_sx V 52 0 x) (S.1 42) n (7 + i) (tk_e (S.1 42) n b) 0 1 (pnote A (pmany (7 + i) A) 3 (Int32.ofNat (tk_s (S.1 42) n b))) := by
  obtain ⟨i, hi, hx, hp, hk⟩ := h.2.2 (S.1 42) n b q.1.2.1 q.2.2.1
  have st := (h.2.1 i hi hx).start (off := 1) hU q hR (by omega)
  exact ⟨i, hi, hx, hp, st.zero (hV.1.sx rfl)⟩
/-- a NUMBER that is taken goes to its place alone -/
theorem rn_k2 {S S_q : ex_S} {T : Nat → Int32} {n w b j off i : Nat} {A : pA} {k most but v : Int32} (h : rn S T n w b j off A) (ht : rc183 k most but S v S_q) (hv : ¬ v = 0) (hi : i ≠ k.toNatClampNeg) : S_q.1 52 i = S.1 52 i := by
  obtain ⟨e, t, r, rd, pl, gd⟩ := h
  obtain ⟨g1, g2⟩ := ht.2 n (nb T n b j) t
  rw [e] at g1 g2
  by_cases k2 : tk_k T n (nb T n b j) = 2
  · rw [(g2 k2).2.2.1 i, if_neg hi]
  · exact absurd (g1 k2).1 hv
theorem ec192 : es192 (rcl 3 rqc3) := by
  have FN : ∀ {w64 : Int64} {at_ x : Int32} {S T U V : ex_S}, ri103 w64 at_ S x T → rc179 T U → rc190 U V → ex_fw rpn S (ex_sx V 52 0 x) := fun h hU hV => (((h.1.mono rp182_n).trans (hU.1.mono rp179_n)).trans (hV.1.w.mono (fun a k z => by unfold rpn; omega))).sx (by unfold rpn; omega)
  refine ev192 (I75 := ri75) (I103 := ri103) (I163 := ri163) ec179 ec182 ec183 ec184 ec185 ec190 ?_ ?_ ?_ ?_ ?_ ?_ ?_ ?_ ?_ ?_ ?_ ?_ ?_ ?_ ?_ ?_ ?_ ?_ ?_
  · intro a at_ S c1 c2 c3 c4 c5 c6
    refine ⟨rfl, fun R n b hb e => ⟨fun _ => ?_, fun z => absurd rfl z⟩⟩
    rw [e] at c1 c2 c3 c4 c5 c6
    exact (ho_w hb).2.2.2.2.2.2 c1 c2 c3 c4 c5 c6
  · intro a at_ S c1 c2 c3 c4 c5 c6
    refine ⟨rfl, fun R n b hb e => ⟨fun z => absurd z (by decide), fun _ => ⟨5, by decide, rfl, ?_⟩⟩⟩
    rw [e] at c1 c2 c3 c4 c5 c6
    exact (ho_w hb).2.2.2.2.2.1 c1 c2 c3 c4 c5 (Classical.not_not.mp c6)
  · intro a at_ S c1 c2 c3 c4 c5
    refine ⟨rfl, fun R n b hb e => ⟨fun z => absurd z (by decide), fun _ => ⟨4, by decide, rfl, ?_⟩⟩⟩
    rw [e] at c1 c2 c3 c4 c5
    exact (ho_w hb).2.2.2.2.1 c1 c2 c3 c4 (Classical.not_not.mp c5)
  · intro a at_ S c1 c2 c3 c4
    refine ⟨rfl, fun R n b hb e => ⟨fun z => absurd z (by decide), fun _ => ⟨3, by decide, rfl, ?_⟩⟩⟩
    rw [e] at c1 c2 c3 c4
    exact (ho_w hb).2.2.2.1 c1 c2 c3 (Classical.not_not.mp c4)
  · intro a at_ S c1 c2 c3
    refine ⟨rfl, fun R n b hb e => ⟨fun z => absurd z (by decide), fun _ => ⟨2, by decide, rfl, ?_⟩⟩⟩
    rw [e] at c1 c2 c3
    exact (ho_w hb).2.2.1 c1 c2 (Classical.not_not.mp c3)
  · intro a at_ S c1 c2
    refine ⟨rfl, fun R n b hb e => ⟨fun z => absurd z (by decide), fun _ => ⟨1, by decide, rfl, ?_⟩⟩⟩
    rw [e] at c1 c2
    exact (ho_w hb).2.1 c1 (Classical.not_not.mp c2)
  · intro a at_ S c1
    refine ⟨rfl, fun R n b hb e => ⟨fun z => absurd z (by decide), fun _ => ⟨0, by decide, rfl, ?_⟩⟩⟩
    rw [e] at c1
    exact (ho_w hb).1 (Classical.not_not.mp c1)
  · intro a at_ S x T hI c1 c2
    obtain ⟨rfl, hI⟩ := hI
    refine ⟨ex_fw.refl _ T, fun i hi hx => ri_no (fun A h0 r => ?_), fun R n b hb e => (hI R n b hb e).2 c1⟩
    rw [pmany_h (by omega) (by omega) r.2.1]
    exact decide_eq_false (fun z => c2 (by rw [r.1, z]; rfl))
  · intro a at_ S x T hI c1 c2 U hU
    obtain ⟨rfl, hI⟩ := hI
    refine ⟨hU.fw, fun i hi hx => ri_yes hU (fun A h0 r => ?_), fun R n b hb e => (hI R n b hb e).2 c1⟩
    rw [pmany_h (by omega) (by omega) r.2.1, decide_eq_true]
    exact (n32_eq (by have := r.2.1; omega) (by decide)).mp (r.1.symm.trans ((Classical.not_not.mp c2).trans (show (8 : Int32) = Int32.ofNat 8 from rfl)))
  · intro a at_ S x T hI c1 r U hU
    obtain ⟨rfl, hI⟩ := hI
    obtain ⟨rfl, rfl⟩ := hU
    refine ⟨(ex_fw.refl _ T).sx (by unfold rpl; omega), fun n b A q hR => ?_⟩
    have hp := (hI (T.1 42) n b q.1.2.1 q.2.2.1).1 (Classical.not_not.mp c1)
    refine ⟨fun _ => ⟨rfl, by rw [ex_sx_eq, q.1.2.2.2.2.1]⟩, fun w hw e => absurd (e.symm.trans hp) (n32_m1 (by omega))⟩
  · intro a at_ S x T hI U hU V hV r W hW c1 c2 r2 X hX c3
    have F := FN hI hU hV
    have FX : ex_fw rpn S X := F.trans ((hW.1.mono rp183_n).trans (hX.1.mono rp183_n))
    refine ⟨FX, fun n b A q hR => ?_⟩
    obtain ⟨i, hi, hx, hp, st⟩ := hI.start hU hV q hR
    have i0 : i = 1 := (n32_eq (by omega) (by decide)).mp (hx.symm.trans (c2.trans (show (1 : Int32) = Int32.ofNat 1 from rfl)))
    subst i0
    have s1 := ((st.tp hW (by decide) rfl (by decide) rfl (by decide) (by decide)).2 c1).2
    have s2 := ((s1.tp hX (by decide) rfl (by decide) rfl (by decide) (by decide)).2 c3).2
    refine ⟨1, by decide, hp, ?_, fun j hj1 hj2 => absurd hj1 (by show ¬ 2 ≤ j; omega), s2⟩
    rw [rn_k2 s1 hX c3, rn_k2 st hW c1, ex_sx_eq, hx]
    · decide
    · decide
  · intro a at_ S x T hI U hU V hV r W hW c1 c2 r2 X hX c3
    have F := FN hI hU hV
    have FX : ex_fw rpn S X := F.trans ((hW.1.mono rp183_n).trans (hX.1.mono rp183_n))
    refine ⟨FX.mono rpn_l, fun n b A q hR => ?_⟩
    obtain ⟨i, hi, hx, hp, st⟩ := hI.start hU hV q hR
    have i0 : i = 1 := (n32_eq (by omega) (by decide)).mp (hx.symm.trans (c2.trans (show (1 : Int32) = Int32.ofNat 1 from rfl)))
    subst i0
    have s1 := ((st.tp hW (by decide) rfl (by decide) rfl (by decide) (by decide)).2 c1).2
    obtain ⟨p, p1, p2⟩ := (s1.tp hX (by decide) rfl (by decide) rfl (by decide) (by decide)).1 (Classical.not_not.mp c3)
    exact rcl_stop hp (by decide) rfl (pl_pre_s p1) p2
  · intro a at_ S x T hI U hU V hV r W hW c1 _ c2 r2 X hX c3
    have F := FN hI hU hV
    have FX : ex_fw rpn S X := F.trans ((hW.1.mono rp183_n).trans (hX.1.mono rp183_n))
    refine ⟨FX, fun n b A q hR => ?_⟩
    obtain ⟨i, hi, hx, hp, st⟩ := hI.start hU hV q hR
    have i0 : i = 2 := (n32_eq (by omega) (by decide)).mp (hx.symm.trans (c2.trans (show (2 : Int32) = Int32.ofNat 2 from rfl)))
    subst i0
    have s1 := ((st.tp hW (by decide) rfl (by decide) rfl (by decide) (by decide)).2 c1).2
    have s2 := ((s1.tp hX (by decide) rfl (by decide) rfl (by decide) (by decide)).2 c3).2
    refine ⟨2, by decide, hp, ?_, fun j hj1 hj2 => absurd hj1 (by show ¬ 2 ≤ j; omega), s2⟩
    rw [rn_k2 s1 hX c3, rn_k2 st hW c1, ex_sx_eq, hx]
    · decide
    · decide
  · intro a at_ S x T hI U hU V hV r W hW c1 _ c2 r2 X hX c3
    have F := FN hI hU hV
    have FX : ex_fw rpn S X := F.trans ((hW.1.mono rp183_n).trans (hX.1.mono rp183_n))
    refine ⟨FX.mono rpn_l, fun n b A q hR => ?_⟩
    obtain ⟨i, hi, hx, hp, st⟩ := hI.start hU hV q hR
    have i0 : i = 2 := (n32_eq (by omega) (by decide)).mp (hx.symm.trans (c2.trans (show (2 : Int32) = Int32.ofNat 2 from rfl)))
    subst i0
    have s1 := ((st.tp hW (by decide) rfl (by decide) rfl (by decide) (by decide)).2 c1).2
    obtain ⟨p, p1, p2⟩ := (s1.tp hX (by decide) rfl (by decide) rfl (by decide) (by decide)).1 (Classical.not_not.mp c3)
    exact rcl_stop hp (by decide) rfl (pl_pre_s p1) p2
  · intro a at_ S x T hI U hU V hV r W hW c1 d1 d2 d3
    have F := FN hI hU hV
    have FX : ex_fw rpn S W := F.trans (hW.1.mono rp183_n)
    refine ⟨FX, fun n b A q hR => ?_⟩
    obtain ⟨i, hi, hx, hp, st⟩ := hI.start hU hV q hR
    have i1 : ¬ (i = 1 ∨ i = 2 ∨ i = 3) := fun z => by
      rcases z with z | z | z
      · exact d1 (by rw [hx, z]; rfl)
      · exact d2 (by rw [hx, z]; rfl)
      · exact d3 (by rw [hx, z]; rfl)
    obtain ⟨l1, l2, l3⟩ := ho_nl hi
    rw [if_neg i1] at l1
    have s1 := ((st.tp hW (by rw [l1]; decide) rfl (by decide) l2 (by omega) (by omega)).2 c1).2
    refine ⟨i, hi, hp, ?_, fun j hj1 hj2 => ?_, by rw [l1]; exact s1⟩
    · rw [rn_k2 st hW c1, ex_sx_eq, hx]; decide
    · have j1 : j = 1 := by omega
      subst j1
      rw [rn_k2 st hW c1, ex_sx_ne (by decide), hV.2 2 (by decide)]
      decide
  · intro a at_ S x T hI U hU V hV r W hW c1 _ _ c2 r2 X hX c3
    have F := FN hI hU hV
    have FX : ex_fw rpn S X := F.trans ((hW.1.mono rp183_n).trans (hX.1.mono rp183_n))
    refine ⟨FX, fun n b A q hR => ?_⟩
    obtain ⟨i, hi, hx, hp, st⟩ := hI.start hU hV q hR
    have i0 : i = 3 := (n32_eq (by omega) (by decide)).mp (hx.symm.trans ((Classical.not_not.mp c2).trans (show (3 : Int32) = Int32.ofNat 3 from rfl)))
    subst i0
    have s1 := ((st.tp hW (by decide) rfl (by decide) rfl (by decide) (by decide)).2 c1).2
    have s2 := ((s1.tp hX (by decide) rfl (by decide) rfl (by decide) (by decide)).2 c3).2
    refine ⟨3, by decide, hp, ?_, fun j hj1 hj2 => absurd hj1 (by show ¬ 2 ≤ j; omega), s2⟩
    rw [rn_k2 s1 hX c3, rn_k2 st hW c1, ex_sx_eq, hx]
    · decide
    · decide
  · intro a at_ S x T hI U hU V hV r W hW c1 _ _ c2 r2 X hX c3
    have F := FN hI hU hV
    have FX : ex_fw rpn S X := F.trans ((hW.1.mono rp183_n).trans (hX.1.mono rp183_n))
    refine ⟨FX.mono rpn_l, fun n b A q hR => ?_⟩
    obtain ⟨i, hi, hx, hp, st⟩ := hI.start hU hV q hR
    have i0 : i = 3 := (n32_eq (by omega) (by decide)).mp (hx.symm.trans ((Classical.not_not.mp c2).trans (show (3 : Int32) = Int32.ofNat 3 from rfl)))
    subst i0
    have s1 := ((st.tp hW (by decide) rfl (by decide) rfl (by decide) (by decide)).2 c1).2
    obtain ⟨p, p1, p2⟩ := (s1.tp hX (by decide) rfl (by decide) rfl (by decide) (by decide)).1 (Classical.not_not.mp c3)
    exact rcl_stop hp (by decide) rfl (pl_pre_s p1) p2
  · intro a at_ S x T hI U hU V hV r W hW c1
    have F := FN hI hU hV
    refine ⟨(F.trans (hW.1.mono rp183_n)).mono rpn_l, fun n b A q hR => ?_⟩
    obtain ⟨i, hi, hx, hp, st⟩ := hI.start hU hV q hR
    obtain ⟨l1, l2, l3⟩ := ho_nl hi
    obtain ⟨p, p1, p2⟩ := (st.tp hW (by rw [l1]; split <;> decide) rfl (by decide) l2 (by omega) (by omega)).1 (Classical.not_not.mp c1)
    exact rcl_stop hp (by omega) rfl (pl_pre_s p1) p2
  · intro a at_ S T hI Y hY
    obtain ⟨FW, hI⟩ := hI
    refine ⟨(FW.mono rpn_l).trans (hY.1.w.mono (fun a k z => by unfold rpl; omega)), fun n b A q hR => ?_⟩
    obtain ⟨i, hi, hp, t0, tn, g1, g2, g3, g4, g5, g6⟩ := hI n b A q hR
    have pn : pl_f (S.1 42) n (pnl (7 + i)) (tk_e (S.1 42) n b) = none := by rw [← g5, Nat.sub_self]; rfl
    have eb : bst (S.1 42) n (7 + i) (tk_e (S.1 42) n b) = nb (S.1 42) n (tk_e (S.1 42) n b) (pnl (7 + i)) := if_neg (by omega)
    refine rcl_goes hp (by omega) rfl (pl_pre_n pn (by omega)) ?_ ?_ (fun z => ?_)
    · rw [eb]; exact g2.keep (fun k _ _ => hY.1.1 41 k (by omega)) (fun i => hY.1.1 42 i (by omega)) (by rw [hY.1.2])
    · rw [eb]; exact (g3.keep (hY.1.1 41 17 (by omega)) (hY.1.1 41 18 (by omega)) (Nat.le_refl _)).line
    · obtain ⟨e1, e2, e3⟩ := pline_0 z
      obtain ⟨h1, h2, h3⟩ := hR e2
      rw [pmany_h (by omega) (by omega) h2] at e3
      have e3 := of_decide_eq_false e3
      rw [e1, pkeep_4 (by omega)]
      have w51 : ∀ j, T.1 51 j = S.1 51 j := fun j => FW.1 51 j (by unfold rpn; omega)
      have y := hY.2 0 1 3 8 (pic A) rfl rfl rfl rfl rfl (by rw [w51]; exact h1) (by decide) (by decide) (by decide) (by decide) (by omega) (by decide)
      refine ⟨?_, ?_, fun k j hk hj => ?_⟩
      · rw [y, if_pos rfl]; rfl
      · show pic A + 1 ≤ 8
        omega
      · have hk' : k < pic A + 1 := hk
        show _ = if k = pic A then (if j = 0 then pkt (7 + i) else pll (S.1 42) n (7 + i) (tk_e (S.1 42) n b) (j - 1)) else pit A k j
        rw [y, if_neg (by omega)]
        by_cases hkk : k = pic A
        · rw [if_pos (by omega), if_pos hkk, show 1 + 3 * k + j - (1 + 3 * pic A) = j by omega]
          by_cases hj0 : j = 0
          · rw [if_pos hj0, hj0, t0]; unfold pkt; rw [if_neg (by omega), show 7 + i - 7 = i by omega]
          · rw [if_neg hj0]
            by_cases hl : j - 1 < pnl (7 + i)
            · rw [pll_lt hl, ← g4 (j - 1) hl, show 1 + (j - 1) = j by omega]
            · have := tn (j - 1) (by omega) (by omega)
              rw [show 1 + (j - 1) = j by omega] at this
              rw [this]; unfold pll; rw [if_neg hl, if_neg (by omega)]
        · rw [if_neg (by omega), if_neg hkk, w51]; exact h3 k j (by omega) hj
end
section
/-! MEAL lines -/
theorem me_le : ∀ i : Fin 20, i.val ≠ 5 → i.val ≠ 10 → i.val ≠ 15 → tk_le (ex_st 12 i.val) = true := by decide +kernel
theorem me_r {T : Nat → Int32} {n b f l : Nat} {c : Int64} (hb : b ≤ n) (hm : 1 ≤ l - f) (hm8 : l - f ≤ 8) (hl : l ≤ 20) (hx : ∀ i, i < l - f → f + i ≠ 5 ∧ f + i ≠ 10 ∧ f + i ≠ 15) (hc : c = tk_pf (ex_st 12) f (l - f)) (h0 : c ≠ 0) : lg_cmp (rwd T n b) c = 0 ↔ tk_k T n b = 1 ∧ sp_b (ex_st 12) T f l (tk_s T n b) (tk_e T n b) = true :=
  rwd_eq hb hm hm8 (fun i hi => me_le ⟨f + i, by omega⟩ (hx i hi).1 (hx i hi).2.1 (hx i hi).2.2) hc h0
theorem me_w {T : Nat → Int32} {n b : Nat} (hb : b ≤ n) :
    (lg_cmp (rwd T n b) 495622124659 = 0 → pfw 2 T n b = Int32.ofNat 3 ∧ tk_k T n b = 1) ∧
    (¬ lg_cmp (rwd T n b) 495622124659 = 0 → lg_cmp (rwd T n b) 1819242347 = 0 → pfw 2 T n b = Int32.ofNat 4 ∧ tk_k T n b = 1) ∧
    (¬ lg_cmp (rwd T n b) 495622124659 = 0 → ¬ lg_cmp (rwd T n b) 1819242347 = 0 → lg_cmp (rwd T n b) 1635213689 = 0 → pfw 2 T n b = Int32.ofNat 5 ∧ tk_k T n b = 1) ∧
    (¬ lg_cmp (rwd T n b) 495622124659 = 0 → ¬ lg_cmp (rwd T n b) 1819242347 = 0 → ¬ lg_cmp (rwd T n b) 1635213689 = 0 → lg_cmp (rwd T n b) 1935767923 = 0 → pfw 2 T n b = Int32.ofNat 6 ∧ tk_k T n b = 1) ∧
    (¬ lg_cmp (rwd T n b) 495622124659 = 0 → ¬ lg_cmp (rwd T n b) 1819242347 = 0 → ¬ lg_cmp (rwd T n b) 1635213689 = 0 → ¬ lg_cmp (rwd T n b) 1935767923 = 0 → pfw 2 T n b = -1) := by
  have a1 := me_r (T := T) (f := 0) (l := 5) (c := 495622124659) hb (by decide) (by decide) (by decide) (fun i hi => by omega) (by decide +kernel) (by decide)
  have a2 := me_r (T := T) (f := 6) (l := 10) (c := 1819242347) hb (by decide) (by decide) (by decide) (fun i hi => by omega) (by decide +kernel) (by decide)
  have a3 := me_r (T := T) (f := 11) (l := 15) (c := 1635213689) hb (by decide) (by decide) (by decide) (fun i hi => by omega) (by decide +kernel) (by decide)
  have a4 := me_r (T := T) (f := 16) (l := 20) (c := 1935767923) hb (by decide) (by decide) (by decide) (fun i hi => by omega) (by decide +kernel) (by decide)
  have P : tk_k T n b = 1 → pws 8 T n b = wa 8 (fun f l => sp_b (ex_st 12) T f l (tk_s T n b) (tk_e T n b)) := fun h => by unfold pws; rw [if_pos h]
  have Q : pfw 2 T n b = if pws 8 T n b = -1 then -1 else 3 + pws 8 T n b := rfl
  refine ⟨fun h => ?_, fun h1 h => ?_, fun h1 h2 h => ?_, fun h1 h2 h3 h => ?_, fun h1 h2 h3 h4 => ?_⟩
  · obtain ⟨k, s⟩ := a1.mp h
    refine ⟨?_, k⟩
    rw [Q, P k, wa_8, if_pos s]; decide
  · obtain ⟨k, s⟩ := a2.mp h
    refine ⟨?_, k⟩
    rw [Q, P k, wa_8, if_neg (fun z => h1 (a1.mpr ⟨k, z⟩)), if_pos s]; decide
  · obtain ⟨k, s⟩ := a3.mp h
    refine ⟨?_, k⟩
    rw [Q, P k, wa_8, if_neg (fun z => h1 (a1.mpr ⟨k, z⟩)), if_neg (fun z => h2 (a2.mpr ⟨k, z⟩)), if_pos s]; decide
  · obtain ⟨k, s⟩ := a4.mp h
    refine ⟨?_, k⟩
    rw [Q, P k, wa_8, if_neg (fun z => h1 (a1.mpr ⟨k, z⟩)), if_neg (fun z => h2 (a2.mpr ⟨k, z⟩)), if_neg (fun z => h3 (a3.mpr ⟨k, z⟩)), if_pos s]; decide
  · rw [Q]
    by_cases k : tk_k T n b = 1
    · rw [P k, wa_8, if_neg (fun z => h1 (a1.mpr ⟨k, z⟩)), if_neg (fun z => h2 (a2.mpr ⟨k, z⟩)), if_neg (fun z => h3 (a3.mpr ⟨k, z⟩)), if_neg (fun z => h4 (a4.mpr ⟨k, z⟩))]; decide
    · have : pws 8 T n b = -1 := by unfold pws; rw [if_neg k]
      rw [this]; decide
theorem pmany_m {w : Nat} {A : pA} (hw : 4 ≤ w) (hw2 : w ≤ 6) (h : pic A ≤ 50) : pmany w A = decide (pic A = 50) := by
  have hm : pmo w = 50 := by
    rcases (show w = 4 ∨ w = 5 ∨ w = 6 by omega) with z | z | z <;> subst z <;> rfl
  unfold pmany pthere
  rw [if_neg (by omega), hm]
  by_cases e : pic A = 50
  · rw [decide_eq_true e, decide_eq_true ⟨by decide, by omega⟩]
  · rw [decide_eq_false e, decide_eq_false (fun z => by omega)]
theorem pmany_3 {A : pA} : pmany 3 A = false := by unfold pmany; exact decide_eq_false (fun z => absurd z.1 (by decide))
/-- which word, as the reference sees it, and its FAULT noted -/
def ri62 (w64 : Int64) (at_ : Int32) (S T : ex_S) : Prop := ex_fw rp182 S T ∧ (lg_cmp w64 495622124659 = 0 → ri 3 rqc2 w64 at_ S T) ∧ (¬ lg_cmp w64 495622124659 = 0 → lg_cmp w64 1819242347 = 0 → ri 4 rqc2 w64 at_ S T) ∧ (¬ lg_cmp w64 495622124659 = 0 → ¬ lg_cmp w64 1819242347 = 0 → lg_cmp w64 1635213689 = 0 → ri 5 rqc2 w64 at_ S T) ∧ (¬ lg_cmp w64 495622124659 = 0 → ¬ lg_cmp w64 1819242347 = 0 → ¬ lg_cmp w64 1635213689 = 0 → lg_cmp w64 1935767923 = 0 ∧ ri 6 rqc2 w64 at_ S T)
/-- SEATS: a 0 is noted -/
def rz (T : Nat → Int32) (n b : Nat) : Prop := tk_k T n b = 2 ∧ tk_v T n b = 0
def ri98 (w64 : Int64) (at_ : Int32) (S T : ex_S) : Prop := ex_fw rpn S T ∧ lg_cmp w64 495622124659 = 0 ∧ ∀ n b A, rql w64 at_ S n b A → (pf A = 0 → rqc2 S A) → rtok T n (tk_e (S.1 42) n b) ∧ (¬ rz (S.1 42) n (tk_e (S.1 42) n b) → rqf T A (tk_s (S.1 42) n (tk_e (S.1 42) n b))) ∧ (rz (S.1 42) n (tk_e (S.1 42) n b) → rqf T (pnote A true 2 (Int32.ofNat (tk_s (S.1 42) n (tk_e (S.1 42) n b)))) (tk_s (S.1 42) n (tk_e (S.1 42) n b) + 1))
/-- before the numbers of a DEED -/
def ri172 (w64 : Int64) (at_ : Int32) (S T : ex_S) : Prop := ex_fw rpn S T ∧ ¬ lg_cmp w64 495622124659 = 0 ∧ ∀ n b A, rql w64 at_ S n b A → (pf A = 0 → rqc2 S A) → ∃ w, 4 ≤ w ∧ w ≤ 6 ∧ pfw 2 (S.1 42) n b = Int32.ofNat w ∧ (w = 4 ↔ lg_cmp w64 1819242347 = 0) ∧ (w = 6 ↔ lg_cmp w64 1935767923 = 0) ∧ T.1 52 0 = Int32.ofNat (w - 4) ∧ (∀ j, 1 ≤ j → j < 4 → T.1 52 j = -1) ∧ rn T (S.1 42) n w (tk_e (S.1 42) n b) 0 1 (pnote A (pmany w A) 3 (Int32.ofNat (tk_s (S.1 42) n b)))
def rpm (a k : Nat) : Prop := (a = 41 ∧ 10 ≤ k ∧ k ≤ 22 ∧ k ≠ 11) ∨ a = 52
theorem rpn_m : ∀ a k, rpn a k → rpm a k := fun a k z => by unfold rpn at z; unfold rpm; omega
theorem rpm_l : ∀ a k, rpm a k → rpl a k := fun a k z => by unfold rpm at z; unfold rpl; omega
/-- behind the numbers of a DEED -/
def ri226 (w64 : Int64) (at_ : Int32) (S T : ex_S) : Prop := ex_fw rpm S T ∧ ∀ n b A, rql w64 at_ S n b A → (pf A = 0 → rqc2 S A) → ∃ w, 4 ≤ w ∧ w ≤ 6 ∧ pfw 2 (S.1 42) n b = Int32.ofNat w ∧ T.1 52 0 = Int32.ofNat (w - 4) ∧ (∀ j, pnl w ≤ j → j < 2 → T.1 52 (1 + j) = -1) ∧ rn T (S.1 42) n w (tk_e (S.1 42) n b) (pnl w) 1 (pnote A (pmany w A) 3 (Int32.ofNat (tk_s (S.1 42) n b))) ∧ T.1 41 21 = if w = 4 then pmx (pmx (S.1 41 21) (pll (S.1 42) n w (tk_e (S.1 42) n b) 0)) (pll (S.1 42) n w (tk_e (S.1 42) n b) 1) else pmx (S.1 41 21) (pll (S.1 42) n w (tk_e (S.1 42) n b) 0)
theorem rn.f21 {S : ex_S} {T : Nat → Int32} {n w b j off : Nat} {A : pA} {x : Int32} (h : rn S T n w b j off A) : rn (ex_sx S 41 21 x) T n w b j off A := by
  obtain ⟨e, t, r, rd, pl, gd⟩ := h
  refine ⟨?_, t.keep (fun k _ _ => ex_sx_ne (by omega)) (fun i => ex_sx_ne (by omega)) rfl, r.keep (ex_sx_ne (by omega)) (ex_sx_ne (by omega)) (Nat.le_refl _), fun i hi => by rw [ex_sx_ne (by omega)]; exact rd i hi, pl, fun z => gd (by rw [ex_sx_ne (by omega)] at z; exact z)⟩
  funext i; rw [ex_sx_ne (by omega), e]
theorem me_nl {w : Nat} (h1 : 4 ≤ w) (h2 : w ≤ 6) : pnl w = (if w = 5 then 1 else 2) ∧ pgr w 0 = 5 ∧ pgr w 1 = (if w = 4 then 5 else if w = 6 then 9 else 0) := by
  rcases (show w = 4 ∨ w = 5 ∨ w = 6 by omega) with z | z | z <;> subst z <;> exact ⟨rfl, rfl, rfl⟩
theorem rqc2.keep {S S_q : ex_S} {A : pA} (h : rqc2 S A) (e : ∀ j, S_q.1 51 j = S.1 51 j) (e2 : S_q.1 41 21 = S.1 41 21) : rqc2 S_q A := by
  obtain ⟨h1, h2, h3, h4, h5⟩ := h
  exact ⟨by rw [e]; exact h1, by rw [e]; exact h2, h3, by rw [e2]; exact h4, fun k j hk hj => by rw [e]; exact h5 k j hk hj⟩
theorem ec189 : es189 (rcl 2 rqc2) := by
  have NM : ∀ {w : Nat} {w64 : Int64} {at_ : Int32} {S : ex_S}, 4 ≤ w → w ≤ 6 → ¬ S.1 51 1 = 50 → ri w rqc2 w64 at_ S S := by
    intro w w64 at_ S h1 h2 c
    refine ri_no (fun A h0 r => ?_)
    rw [pmany_m h1 h2 r.2.2.1]
    exact decide_eq_false (fun z => c (by rw [r.2.1, z]; rfl))
  have YM : ∀ {w : Nat} {w64 : Int64} {at_ : Int32} {S U : ex_S}, 4 ≤ w → w ≤ 6 → ¬ ¬ S.1 51 1 = 50 → rc182 3 at_ S U → ri w rqc2 w64 at_ S U := by
    intro w w64 at_ S U h1 h2 c hU
    refine ri_yes hU (fun A h0 r => ?_)
    rw [pmany_m h1 h2 r.2.2.1, decide_eq_true]
    exact (n32_eq (by have := r.2.2.1; omega) (by decide)).mp (r.2.1.symm.trans ((Classical.not_not.mp c).trans (show (50 : Int32) = Int32.ofNat 50 from rfl)))
  refine ev189 (I62 := ri62) (I98 := ri98) (I172 := ri172) (I226 := ri226) ec179 ec182 ec183 ec184 ec185 ec190 ec191 ?_ ?_ ?_ ?_ ?_ ?_ ?_ ?_ ?_ ?_ ?_ ?_ ?_ ?_ ?_ ?_ ?_ ?_ ?_ ?_ ?_ ?_ ?_ ?_ ?_
  · intro a at_ S c
    exact ⟨ex_fw.refl _ S, fun _ => ri_no (fun A h0 r => pmany_3), fun z => absurd c z, fun z => absurd c z, fun z => absurd c z⟩
  · intro a at_ S c1 c2 c
    exact ⟨ex_fw.refl _ S, fun z => absurd z c1, fun _ _ => NM (by decide) (by decide) c, fun _ z => absurd c2 z, fun _ z => absurd c2 z⟩
  · intro a at_ S c1 c2 c U hU
    exact ⟨hU.fw, fun z => absurd z c1, fun _ _ => YM (by decide) (by decide) c hU, fun _ z => absurd c2 z, fun _ z => absurd c2 z⟩
  · intro a at_ S c1 c2 c3 c
    exact ⟨ex_fw.refl _ S, fun z => absurd z c1, fun _ z => absurd z c2, fun _ _ _ => NM (by decide) (by decide) c, fun _ _ z => absurd c3 z⟩
  · intro a at_ S c1 c2 c3 c U hU
    exact ⟨hU.fw, fun z => absurd z c1, fun _ z => absurd z c2, fun _ _ _ => YM (by decide) (by decide) c hU, fun _ _ z => absurd c3 z⟩
  · intro a at_ S c1 c2 c3 c4 c
    exact ⟨ex_fw.refl _ S, fun z => absurd z c1, fun _ z => absurd z c2, fun _ _ z => absurd z c3, fun _ _ _ => ⟨c4, NM (by decide) (by decide) c⟩⟩
  · intro a at_ S c1 c2 c3 c4 c U hU
    exact ⟨hU.fw, fun z => absurd z c1, fun _ z => absurd z c2, fun _ _ z => absurd z c3, fun _ _ _ => ⟨c4, YM (by decide) (by decide) c hU⟩⟩
  · intro a at_ S c1 c2 c3 c4 r U hU
    obtain ⟨rfl, rfl⟩ := hU
    refine ⟨(ex_fw.refl _ S).sx (by unfold rpl; omega), fun n b A q hR => ?_⟩
    rw [q.2.2.1] at c1 c2 c3 c4
    have hp := (me_w (T := S.1 42) q.1.2.1).2.2.2.2 c1 c2 c3 c4
    exact ⟨fun _ => ⟨rfl, by rw [ex_sx_eq, q.1.2.2.2.2.1]⟩, fun w hw e => absurd (e.symm.trans hp) (n32_m1 (by omega))⟩
  -- the sort of a DEED
  · intro a at_ S T hI U hU c1 V hV c2 c3
    obtain ⟨F0, _, _, _, hI⟩ := hI
    obtain ⟨c4, hi⟩ := hI c1 c2 c3
    refine ⟨(((F0.mono rp182_n).trans (hU.1.mono rp179_n)).trans (hV.1.w.mono (fun a k z => by unfold rpn; omega))).sx (by unfold rpn; omega), c1, fun n b A q hR => ?_⟩
    have q3 := q.2.2.1
    obtain ⟨hw, hk⟩ := (me_w (T := S.1 42) q.1.2.1).2.2.2.1 (q3 ▸ c1) (q3 ▸ c2) (q3 ▸ c3) (q3 ▸ c4)
    have st := hi.start (off := 1) hU q hR (by omega)
    exact ⟨6, by decide, by decide, hw, ⟨fun z => absurd z (by decide), fun z => absurd z c2⟩, ⟨fun _ => c4, fun _ => rfl⟩, ex_sx_eq, fun j h1 h4 => by rw [ex_sx_ne (by omega)]; exact hV.2 j h4, st.zero (hV.1.sx rfl)⟩
  · intro a at_ S T hI U hU c1 V hV c2 c3
    obtain ⟨F0, _, _, hI, _⟩ := hI
    have c3 := Classical.not_not.mp c3
    have hi := hI c1 c2 c3
    refine ⟨(((F0.mono rp182_n).trans (hU.1.mono rp179_n)).trans (hV.1.w.mono (fun a k z => by unfold rpn; omega))).sx (by unfold rpn; omega), c1, fun n b A q hR => ?_⟩
    have q3 := q.2.2.1
    obtain ⟨hw, hk⟩ := (me_w (T := S.1 42) q.1.2.1).2.2.1 (q3 ▸ c1) (q3 ▸ c2) (q3 ▸ c3)
    have st := hi.start (off := 1) hU q hR (by omega)
    exact ⟨5, by decide, by decide, hw, ⟨fun z => absurd z (by decide), fun z => absurd z c2⟩, ⟨fun z => absurd z (by decide), fun z => absurd ((lg_0.mp c3).symm.trans (lg_0.mp z)) (by decide)⟩, ex_sx_eq, fun j h1 h4 => by rw [ex_sx_ne (by omega)]; exact hV.2 j h4, st.zero (hV.1.sx rfl)⟩
  · intro a at_ S T hI U hU c1 V hV c2
    obtain ⟨F0, _, hI, _, _⟩ := hI
    have c2 := Classical.not_not.mp c2
    have hi := hI c1 c2
    refine ⟨(((F0.mono rp182_n).trans (hU.1.mono rp179_n)).trans (hV.1.w.mono (fun a k z => by unfold rpn; omega))).sx (by unfold rpn; omega), c1, fun n b A q hR => ?_⟩
    have q3 := q.2.2.1
    obtain ⟨hw, hk⟩ := (me_w (T := S.1 42) q.1.2.1).2.1 (q3 ▸ c1) (q3 ▸ c2)
    have st := hi.start (off := 1) hU q hR (by omega)
    exact ⟨4, by decide, by decide, hw, ⟨fun _ => c2, fun _ => rfl⟩, ⟨fun z => absurd z (by decide), fun z => absurd ((lg_0.mp c2).symm.trans (lg_0.mp z)) (by decide)⟩, ex_sx_eq, fun j h1 h4 => by rw [ex_sx_ne (by omega)]; exact hV.2 j h4, st.zero (hV.1.sx rfl)⟩
  -- seats
  · intro a at_ S T hI U hU c1 c2
    obtain ⟨F0, hI, _⟩ := hI
    have c1 := Classical.not_not.mp c1
    have hi := hI c1
    refine ⟨(F0.mono rp182_n).trans (hU.1.mono rp179_n), c1, fun n b A q hR => ?_⟩
    have q3 := q.2.2.1
    obtain ⟨hw, hk⟩ := (me_w (T := S.1 42) q.1.2.1).1 (q3 ▸ c1)
    obtain ⟨g1, g2, g3, _⟩ := hi.start (off := 0) hU q hR (by omega)
    rw [pmany_3, pnote_f] at g3
    have g2' : rtok U n (tk_e (S.1 42) n b) := g2
    refine ⟨g2', fun _ => g3, fun z => absurd ((g2'.k (k := 2) (by decide)).mpr (by rw [g1]; exact z.1)) c2⟩
  · intro a at_ S T hI U hU c1 c2 c3
    obtain ⟨F0, hI, _⟩ := hI
    have c1 := Classical.not_not.mp c1
    have hi := hI c1
    refine ⟨(F0.mono rp182_n).trans (hU.1.mono rp179_n), c1, fun n b A q hR => ?_⟩
    have q3 := q.2.2.1
    obtain ⟨hw, hk⟩ := (me_w (T := S.1 42) q.1.2.1).1 (q3 ▸ c1)
    obtain ⟨g1, g2, g3, _⟩ := hi.start (off := 0) hU q hR (by omega)
    rw [pmany_3, pnote_f] at g3
    have g2' : rtok U n (tk_e (S.1 42) n b) := g2
    refine ⟨g2', fun _ => g3, fun z => absurd ?_ c3⟩
    have := g2'.2.2.2.2.2.2.2.1 (by rw [g1]; exact z.1)
    rw [g1, z.2] at this; exact this
  · intro a at_ S T hI U hU c1 c2 c3 V hV
    obtain ⟨F0, hI, _⟩ := hI
    have c1 := Classical.not_not.mp c1
    have hi := hI c1
    refine ⟨((F0.mono rp182_n).trans (hU.1.mono rp179_n)).trans (hV.fw.mono rp182_n), c1, fun n b A q hR => ?_⟩
    have q3 := q.2.2.1
    obtain ⟨hw, hk⟩ := (me_w (T := S.1 42) q.1.2.1).1 (q3 ▸ c1)
    obtain ⟨g1, g2, g3, _⟩ := hi.start (off := 0) hU q hR (by omega)
    rw [pmany_3, pnote_f] at g3
    have g2' : rtok U n (tk_e (S.1 42) n b) := g2
    have k2 := (g2'.k (k := 2) (by decide)).mp (Classical.not_not.mp c2)
    rw [g1] at k2
    have v0 := g2'.2.2.2.2.2.2.2.1 (by rw [g1]; exact k2)
    rw [g1] at v0
    have z : rz (S.1 42) n (tk_e (S.1 42) n b) := ⟨k2, v0.symm.trans (Classical.not_not.mp c3)⟩
    refine ⟨g2'.keep (fun k h1 h2 => hV.fw.1 41 k (by unfold rp182; omega)) (fun i => hV.fw.1 42 i (by unfold rp182; omega)) ?_, fun y => absurd z y, fun _ => ?_⟩
    · have hV' : V = _ := hV
      rw [hV']; split <;> rfl
    · have e12 := g2'.2.2.2.2.1
      rw [g1] at e12
      rw [e12] at hV
      have hs := tk_s_le (T := S.1 42) g2'.2.1
      have hn := g2'.2.2.1
      exact hV.note g3 (by omega) (by decide)
  -- numbers of a DEED
  · intro a at_ S T hI r U hU c1 c2 c3
    obtain ⟨F0, d1, hI⟩ := hI
    obtain ⟨X, hX, rfl⟩ := hU
    refine ⟨((F0.trans (hX.1.mono rp183_n)).mono rpn_m).sx (by unfold rpm; omega), fun n b A q hR => ?_⟩
    obtain ⟨w, w1, w2, hw, e4, e6, t0, tn, st⟩ := hI n b A q hR
    have w5 : w = 5 := by
      have n4 : ¬ w = 4 := fun z => c2 (e4.mp z)
      have n6 : ¬ w = 6 := fun z => c3 (e6.mp z)
      omega
    subst w5
    have s1 := ((st.tp hX (by decide) rfl (by decide) rfl (by decide) (by decide)).2 c1).2
    refine ⟨5, by decide, by decide, hw, ?_, fun j h1 h2 => ?_, s1.f21, ?_⟩
    · rw [ex_sx_ne (by omega), rn_k2 st hX c1 (by decide)]; exact t0
    · have h1' : 1 ≤ j := h1
      rw [ex_sx_ne (by omega), rn_k2 st hX c1 (by show ¬ 1 + j = 1; omega)]; exact tn (1 + j) (by omega) (by omega)
    · rw [ex_sx_eq, if_neg c1, if_neg (by decide), pll_lt (by decide), (hX.1.mono rp183_n).1 41 21 (by unfold rpn; omega), F0.1 41 21 (by unfold rpn; omega)]
      exact congrArg _ (s1.2.2.2.1 0 (by decide))
  · intro a at_ S T hI r U hU c1 c2 c3 r2 V hV c4
    obtain ⟨F0, d1, hI⟩ := hI
    obtain ⟨X, hX, rfl⟩ := hU
    refine ⟨(((F0.trans (hX.1.mono rp183_n)).mono rpn_m).sx (by unfold rpm; omega)).trans ((hV.1.mono rp183_n).mono rpn_m), fun n b A q hR => ?_⟩
    obtain ⟨w, w1, w2, hw, e4, e6, t0, tn, st⟩ := hI n b A q hR
    have w6 : w = 6 := e6.mpr (Classical.not_not.mp c3)
    subst w6
    have s1 := ((st.tp hX (by decide) rfl (by decide) rfl (by decide) (by decide)).2 c1).2
    have s1' := s1.f21 (x := (if r = 0 then X.1 41 21 else pmx (X.1 41 21) (X.1 52 (Int32.toNatClampNeg 1))))
    have s2 := ((s1'.tp hV (by decide) rfl (by decide) rfl (by decide) (by decide)).2 c4).2
    refine ⟨6, by decide, by decide, hw, ?_, fun j h1 h2 => absurd h1 (by show ¬ 2 ≤ j; omega), s2, ?_⟩
    · rw [rn_k2 s1' hV c4 (by decide), ex_sx_ne (by omega), rn_k2 st hX c1 (by decide)]; exact t0
    · rw [(hV.1.mono rp183_n).1 41 21 (by unfold rpn; omega), ex_sx_eq, if_neg c1, if_neg (by decide), pll_lt (by decide), (hX.1.mono rp183_n).1 41 21 (by unfold rpn; omega), F0.1 41 21 (by unfold rpn; omega)]
      exact congrArg _ (s1.2.2.2.1 0 (by decide))
  · intro a at_ S T hI r U hU c1 c2 c3 r2 V hV c4
    obtain ⟨F0, d1, hI⟩ := hI
    obtain ⟨X, hX, rfl⟩ := hU
    refine ⟨((((F0.trans (hX.1.mono rp183_n)).mono rpn_m).sx (by unfold rpm; omega)).trans ((hV.1.mono rp183_n).mono rpn_m)).mono rpm_l, fun n b A q hR => ?_⟩
    obtain ⟨w, w1, w2, hw, e4, e6, t0, tn, st⟩ := hI n b A q hR
    have w6 : w = 6 := e6.mpr (Classical.not_not.mp c3)
    subst w6
    have s1 := ((st.tp hX (by decide) rfl (by decide) rfl (by decide) (by decide)).2 c1).2
    have s1' := s1.f21 (x := (if r = 0 then X.1 41 21 else pmx (X.1 41 21) (X.1 52 (Int32.toNatClampNeg 1))))
    obtain ⟨p, p1, p2⟩ := (s1'.tp hV (by decide) rfl (by decide) rfl (by decide) (by decide)).1 (Classical.not_not.mp c4)
    exact rcl_stop hw (by decide) rfl (pl_pre_s p1) p2
  · intro a at_ S T hI r U hU c1 c2 r2 V hV c4
    obtain ⟨F0, d1, hI⟩ := hI
    obtain ⟨X, hX, rfl⟩ := hU
    obtain ⟨Y, hY, rfl⟩ := hV
    refine ⟨(((((F0.trans (hX.1.mono rp183_n)).mono rpn_m).sx (by unfold rpm; omega)).trans ((hY.1.mono rp183_n).mono rpn_m)).sx (by unfold rpm; omega)).mono rpm_l, fun n b A q hR => ?_⟩
    obtain ⟨w, w1, w2, hw, e4, e6, t0, tn, st⟩ := hI n b A q hR
    have w4 : w = 4 := e4.mpr (Classical.not_not.mp c2)
    subst w4
    have s1 := ((st.tp hX (by decide) rfl (by decide) rfl (by decide) (by decide)).2 c1).2
    have s1' := s1.f21 (x := (if r = 0 then X.1 41 21 else pmx (X.1 41 21) (X.1 52 (Int32.toNatClampNeg 1))))
    obtain ⟨p, p1, p2⟩ := (s1'.ts hY (by decide) rfl (by decide) rfl (Or.inr rfl) rfl).1 c4
    exact rcl_stop hw (by decide) rfl (pl_pre_s p1) (by rw [ex_sx_ne (by omega)]; exact p2)
  · intro a at_ S T hI r U hU c1 c2 r2 V hV c4 c5
    obtain ⟨F0, d1, hI⟩ := hI
    obtain ⟨X, hX, rfl⟩ := hU
    obtain ⟨Y, hY, rfl⟩ := hV
    refine ⟨((((F0.trans (hX.1.mono rp183_n)).mono rpn_m).sx (by unfold rpm; omega)).trans ((hY.1.mono rp183_n).mono rpn_m)).sx (by unfold rpm; omega), fun n b A q hR => ?_⟩
    obtain ⟨w, w1, w2, hw, e4, e6, t0, tn, st⟩ := hI n b A q hR
    have w4 : w = 4 := e4.mpr (Classical.not_not.mp c2)
    subst w4
    have s1 := ((st.tp hX (by decide) rfl (by decide) rfl (by decide) (by decide)).2 c1).2
    have s1' := s1.f21 (x := (if r = 0 then X.1 41 21 else pmx (X.1 41 21) (X.1 52 (Int32.toNatClampNeg 1))))
    have s2 := ((s1'.ts hY (by decide) rfl (by decide) rfl (Or.inr rfl) rfl).2 c4).2
    refine ⟨4, by decide, by decide, hw, ?_, fun j h1 h2 => absurd h1 (by show ¬ 2 ≤ j; omega), s2.f21, ?_⟩
    · rw [ex_sx_ne (by omega), rn_k2 s1' hY c4 (by decide), ex_sx_ne (by omega), rn_k2 st hX c1 (by decide)]; exact t0
    · rw [ex_sx_eq, if_neg c4, if_pos rfl, pll_lt (by decide), pll_lt (by decide), (hY.1.mono rp183_n).1 41 21 (by unfold rpn; omega), ex_sx_eq, if_neg c1, (hX.1.mono rp183_n).1 41 21 (by unfold rpn; omega), F0.1 41 21 (by unfold rpn; omega)]
      have h0 : X.1 52 (Int32.toNatClampNeg 1) = tk_v (S.1 42) n (nb (S.1 42) n (tk_e (S.1 42) n b) 0) := s1.2.2.2.1 0 (by decide)
      have h1 : Y.1 52 (Int32.toNatClampNeg 2) = tk_v (S.1 42) n (nb (S.1 42) n (tk_e (S.1 42) n b) 1) := s2.2.2.2.1 1 (by decide)
      rw [h0, h1]
  · intro a at_ S T hI r U hU c1 c2 r2 V hV c4 c5 r3 W hW c6
    have x := (lg_0.mp (Classical.not_not.mp c2)).symm.trans (lg_0.mp (Classical.not_not.mp c5))
    exact absurd x (by decide)
  · intro a at_ S T hI r U hU c1 c2 r2 V hV c4 c5 r3 W hW c6
    have x := (lg_0.mp (Classical.not_not.mp c2)).symm.trans (lg_0.mp (Classical.not_not.mp c5))
    exact absurd x (by decide)
  · intro a at_ S T hI r U hU c1
    obtain ⟨F0, d1, hI⟩ := hI
    obtain ⟨X, hX, rfl⟩ := hU
    refine ⟨(((F0.trans (hX.1.mono rp183_n)).mono rpn_m).sx (by unfold rpm; omega)).mono rpm_l, fun n b A q hR => ?_⟩
    obtain ⟨w, w1, w2, hw, e4, e6, t0, tn, st⟩ := hI n b A q hR
    obtain ⟨l1, l2, l3⟩ := me_nl w1 w2
    obtain ⟨p, p1, p2⟩ := (st.tp hX (by rw [l1]; split <;> decide) rfl (by decide) l2 (by omega) (by omega)).1 (Classical.not_not.mp c1)
    exact rcl_stop hw (by omega) rfl (pl_pre_s p1) (by rw [ex_sx_ne (by omega)]; exact p2)
  -- seats: the number
  · intro a at_ S T hI r U hU c1
    obtain ⟨F0, d1, hI⟩ := hI
    refine ⟨((F0.trans (hU.1.mono rp183_n)).mono rpn_l).sx (by unfold rpl; omega), fun n b A q hR => ?_⟩
    obtain ⟨t, g1, g2⟩ := hI n b A q hR
    have q3 := q.2.2.1
    obtain ⟨hw, hk⟩ := (me_w (T := S.1 42) q.1.2.1).1 (q3 ▸ d1)
    have e42 := fw42 F0
    obtain ⟨h1, h2⟩ := hU.2 n _ t
    rw [e42] at h1 h2
    have nk : tk_k (S.1 42) n (tk_e (S.1 42) n b) ≠ 2 := fun z => absurd ((h2 z).1.symm.trans c1) (by decide)
    refine rcl_stop hw (by decide) c1 (pl_pre_s (p := tk_s (S.1 42) n (tk_e (S.1 42) n b)) ?_) (by rw [ex_sx_ne (by omega)]; exact (h1 nk).2)
    exact if_neg nk
  · intro a at_ S T hI r U hU c1
    obtain ⟨F0, d1, hI⟩ := hI
    have FU : ex_fw rpn S U := F0.trans (hU.1.mono rp183_n)
    refine ⟨(FU.mono rpn_l).sx (by unfold rpl; omega), fun n b A q hR => ?_⟩
    obtain ⟨t, g1, g2⟩ := hI n b A q hR
    have q3 := q.2.2.1
    obtain ⟨hw, hk⟩ := (me_w (T := S.1 42) q.1.2.1).1 (q3 ▸ d1)
    have e42 := fw42 F0
    obtain ⟨h1, h2⟩ := hU.2 n _ t
    rw [e42] at h1 h2
    have k2 : tk_k (S.1 42) n (tk_e (S.1 42) n b) = 2 := by
      apply Classical.byContradiction
      intro z; exact c1 (h1 z).1
    obtain ⟨v1, t2, rd, _, hf, hn⟩ := h2 k2
    have pn : pl_f (S.1 42) n (pnl 3) (tk_e (S.1 42) n b) = none := if_pos k2
    have hv := tk_v_b k2
    have l0 : pll (S.1 42) n 3 (tk_e (S.1 42) n b) 0 = tk_v (S.1 42) n (tk_e (S.1 42) n b) := pll_lt (by decide)
    have ep : pan (S.1 42) n 3 (tk_e (S.1 42) n b) (pnote A (pmany 3 A) 3 (Int32.ofNat (tk_s (S.1 42) n b))) (pnl 3) = pnote A (pbad 3 0 (pll (S.1 42) n 3 (tk_e (S.1 42) n b))) 2 (Int32.ofNat (tk_s (S.1 42) n (tk_e (S.1 42) n b))) := by
      rw [pmany_3, pnote_f]; rfl
    have eb : pbad 3 0 (pll (S.1 42) n 3 (tk_e (S.1 42) n b)) = (decide (6 < tk_v (S.1 42) n (tk_e (S.1 42) n b)) || decide (tk_v (S.1 42) n (tk_e (S.1 42) n b) < 1)) := by
      unfold pbad
      rw [l0, show pgr 3 0 = 6 from rfl]
      simp
    have rq : rqf U (pan (S.1 42) n 3 (tk_e (S.1 42) n b) (pnote A (pmany 3 A) 3 (Int32.ofNat (tk_s (S.1 42) n b))) (pnl 3)) (tk_s (S.1 42) n (tk_e (S.1 42) n b) + 1) := by
      rw [ep, eb]
      by_cases z : rz (S.1 42) n (tk_e (S.1 42) n b)
      · have rb : rbad 6 (-1) (tk_v (S.1 42) n (tk_e (S.1 42) n b)) = false := by rw [z.2]; decide
        obtain ⟨_, f1, f2⟩ := hf rb
        rw [z.2, show (decide ((6 : Int32) < 0) || decide ((0 : Int32) < 1)) = true by decide]
        exact (g2 z).keep f1 f2 (Nat.le_refl _)
      · have := hn A (g1 z)
        have nz : ¬ tk_v (S.1 42) n (tk_e (S.1 42) n b) = 0 := fun y => z ⟨k2, y⟩
        have n1 : ¬ tk_v (S.1 42) n (tk_e (S.1 42) n b) < 1 := fun y => by
          have y' := Int32.lt_iff_toInt_lt.mp y
          have e1 : (1 : Int32).toInt = 1 := rfl
          exact nz (Int32.toInt_inj.mp (show (tk_v (S.1 42) n (tk_e (S.1 42) n b)).toInt = (0 : Int32).toInt by
            have e0 : (0 : Int32).toInt = 0 := rfl
            omega))
        have nm : ¬ tk_v (S.1 42) n (tk_e (S.1 42) n b) = -1 := fun y => by
          have e1 : (-1 : Int32).toInt = -1 := rfl
          rw [y] at hv; omega
        rw [decide_eq_false n1, Bool.or_false]
        have rb : rbad 6 (-1) (tk_v (S.1 42) n (tk_e (S.1 42) n b)) = decide (6 < tk_v (S.1 42) n (tk_e (S.1 42) n b)) := by
          unfold rbad
          by_cases y : 6 < tk_v (S.1 42) n (tk_e (S.1 42) n b)
          · rw [decide_eq_true y, decide_eq_true (Or.inl y)]
          · rw [decide_eq_false y, decide_eq_false (fun x => x.elim y nm)]
        rw [rb] at this; exact this
    have gt := tk_e_gt (T := S.1 42) (n := n) (b := tk_e (S.1 42) n b) (by omega)
    have gs := tk_s_ge (T := S.1 42) (n := n) (b := tk_e (S.1 42) n (tk_e (S.1 42) n b))
    have ebs : bst (S.1 42) n 3 (tk_e (S.1 42) n b) = tk_e (S.1 42) n (tk_e (S.1 42) n b) := rfl
    refine rcl_goes hw (by decide) v1 (pl_pre_n pn (by decide)) ?_ ?_ (fun z => ?_)
    · rw [ebs]; exact t2.keep (fun k _ _ => ex_sx_ne (by omega)) (fun i => ex_sx_ne (by omega)) rfl
    · rw [ebs]; exact (rq.keep (ex_sx_ne (by omega)) (ex_sx_ne (by omega)) (by omega)).line
    · obtain ⟨e1, e2, e3⟩ := pline_0 z
      obtain ⟨h1, h2, h3, h4, h5⟩ := hR e2
      rw [e1, pkeep_3]
      have w51 : ∀ j, U.1 51 j = S.1 51 j := fun j => FU.1 51 j (by unfold rpn; omega)
      refine ⟨?_, ?_, h3, ?_, fun k j hk hj => ?_⟩
      · rw [ex_sx_eq, rd 0, if_pos (show (0 : Nat) = Int32.toNatClampNeg 0 from rfl)]; exact l0.symm
      · rw [ex_sx_ne (by omega), w51]; exact h2
      · rw [ex_sx_ne (by omega), FU.1 41 21 (by unfold rpn; omega)]; exact h4
      · rw [ex_sx_ne (by omega), w51]; exact h5 k j hk hj
  · intro a at_ S T hI Y hY
    obtain ⟨FW, hI⟩ := hI
    refine ⟨(FW.mono rpm_l).trans (hY.1.w.mono (fun a k z => by unfold rpl; omega)), fun n b A q hR => ?_⟩
    obtain ⟨w, w1, w2, hp, t0, tn, ⟨g1, g2, g3, g4, g5, g6⟩, t21⟩ := hI n b A q hR
    have pn : pl_f (S.1 42) n (pnl w) (tk_e (S.1 42) n b) = none := by rw [← g5, Nat.sub_self]; rfl
    have eb : bst (S.1 42) n w (tk_e (S.1 42) n b) = nb (S.1 42) n (tk_e (S.1 42) n b) (pnl w) := if_neg (by omega)
    refine rcl_goes hp (by omega) rfl (pl_pre_n pn (by omega)) ?_ ?_ (fun z => ?_)
    · rw [eb]; exact g2.keep (fun k _ _ => hY.1.1 41 k (by omega)) (fun i => hY.1.1 42 i (by omega)) (by rw [hY.1.2])
    · rw [eb]; exact (g3.keep (hY.1.1 41 17 (by omega)) (hY.1.1 41 18 (by omega)) (Nat.le_refl _)).line
    · obtain ⟨e1, e2, e3⟩ := pline_0 z
      obtain ⟨h1, h2, h3, h4, h5⟩ := hR e2
      rw [pmany_m w1 w2 h3] at e3
      have e3 := of_decide_eq_false e3
      rw [e1, pkeep_4 w1]
      have w51 : ∀ j, T.1 51 j = S.1 51 j := fun j => FW.1 51 j (by unfold rpm; omega)
      have y := hY.2 1 2 3 50 (pic A) rfl rfl rfl rfl rfl (by rw [w51]; exact h2) (by decide) (by decide) (by decide) (by decide) (by omega) (by decide)
      refine ⟨?_, ?_, ?_, ?_, fun k j hk hj => ?_⟩
      · rw [y, if_neg (by decide), if_neg (by omega), w51]; exact h1
      · rw [y, if_pos rfl]; rfl
      · show pic A + 1 ≤ 50
        omega
      · rw [hY.1.1 41 21 (by omega), t21, h4]
        show _ = pkh w (pll (S.1 42) n w (tk_e (S.1 42) n b)) A
        unfold pkh; rw [if_pos (show w < 7 by omega)]
      · have hk' : k < pic A + 1 := hk
        show _ = if k = pic A then (if j = 0 then pkt w else pll (S.1 42) n w (tk_e (S.1 42) n b) (j - 1)) else pit A k j
        rw [y, if_neg (by omega)]
        by_cases hkk : k = pic A
        · rw [if_pos (by omega), if_pos hkk, show 2 + 3 * k + j - (2 + 3 * pic A) = j by omega]
          by_cases hj0 : j = 0
          · rw [if_pos hj0, hj0, t0]; unfold pkt; rw [if_pos (by omega)]
          · rw [if_neg hj0]
            by_cases hl : j - 1 < pnl w
            · rw [pll_lt hl, ← g4 (j - 1) hl, show 1 + (j - 1) = j by omega]
            · have := tn (j - 1) (by omega) (by omega)
              rw [show 1 + (j - 1) = j by omega] at this
              rw [this]; unfold pll; rw [if_neg hl, if_neg (by omega)]
        · rw [if_neg (by omega), if_neg hkk, w51]; exact h5 k j (by omega) hj
end
section
/-! A ROW's text, all lines, a text: the reference -/
def rqc1 (S : ex_S) (A : pA) : Prop := S.1 51 0 = Int32.ofNat (pic A) ∧ pic A ≤ 12 ∧ ∀ k, k < pic A → S.1 51 (1 + k) = pit A k 0
theorem pr_un {T : Nat → Int32} {n m b : Nat} {A : pA} : pr_run T n (m + 1) b A = if tk_k T n b = 0 then .inr A else if tk_k T n b = 2 then pr_run T n m (tk_e T n b) (pr_one T n b A) else .inl (tk_s T n b) := rfl
def rq181 (S : ex_S) (n b k : Nat) (A : pA) : Prop := rtok S n b ∧ rqf S A (tk_s (S.1 42) n b) ∧ (pf A = 0 → rqc1 S A) ∧ n < b + k
def rc181 (S : ex_S) (v : Int32) (S_q : ex_S) : Prop := ex_fw rpl S S_q ∧ ∀ n b k A, rq181 S n b k A → (∀ p, pr_run (S.1 42) n k b A = .inl p → v = 0 ∧ S_q.1 41 16 = Int32.ofNat p) ∧ (∀ A_q, pr_run (S.1 42) n k b A = .inr A_q → v = 1 ∧ S_q.1 41 12 = Int32.ofNat n ∧ rqf S_q A_q n ∧ (pf A_q = 0 → rqc1 S_q A_q))
def ri181 (S T : ex_S) : Prop := ex_fw rpl S T ∧ ∀ n b k A, rq181 S n b k A → ∃ b_q k_q A_q, rq181 T n b_q k_q A_q ∧ pr_run (S.1 42) n k_q b_q A_q = pr_run (S.1 42) n k b A
theorem fw42l {S T : ex_S} (F : ex_fw rpl S T) : T.1 42 = S.1 42 := by funext j; exact F.1 42 j (by unfold rpl; omega)
theorem pr_one_f {T : Nat → Int32} {n b : Nat} {A : pA} : pf (pr_one T n b A) = pf (pnote (pnote A (decide (10 ≤ tk_v T n b)) 2 (Int32.ofNat (tk_s T n b))) (decide (12 ≤ pic A)) 3 (Int32.ofNat (tk_s T n b))) ∧ pp (pr_one T n b A) = pp (pnote (pnote A (decide (10 ≤ tk_v T n b)) 2 (Int32.ofNat (tk_s T n b))) (decide (12 ≤ pic A)) 3 (Int32.ofNat (tk_s T n b))) := by
  unfold pr_one
  split
  · rename_i h
    obtain ⟨e1, _, e3⟩ := pnote_0 (by decide) h
    obtain ⟨_, _, e4⟩ := pnote_0 (by decide) e1
    rw [e3, e4]; exact ⟨rfl, rfl⟩
  · exact ⟨rfl, rfl⟩
theorem pr_one_0 {T : Nat → Int32} {n b : Nat} {A : pA} (h : pf (pr_one T n b A) = 0) : pr_one T n b A = pr_keep (tk_v T n b) A ∧ pf A = 0 ∧ pic A < 12 := by
  have h_q := h
  rw [pr_one_f.1] at h
  obtain ⟨e1, e2, e3⟩ := pnote_0 (by decide) h
  obtain ⟨e4, _, _⟩ := pnote_0 (by decide) e1
  refine ⟨?_, e4, by have := of_decide_eq_false e2; omega⟩
  unfold pr_one
  rw [if_pos h]
/-- what a NUMBER leaves: told row and first FAULT -/
theorem ri181_go {S T U V : ex_S} {r : Int32} {n b k : Nat} {A : pA} (h42 : T.1 42 = S.1 42) (q : rq181 T n b k A) (hk : tk_k (S.1 42) n b = 2) (W : ex_S) (FW : ex_fw rp182 T W) (tW : rtok W n b) (hU : rc183 0 9 (-1) W r U) (hV : rc185 0 1 1 12 0 U V) (hf : rqf U (pr_one (S.1 42) n b A) (tk_s (S.1 42) n b + 1)) : rq181 V n (tk_e (S.1 42) n b) (k - 1) (pr_one (S.1 42) n b A) ∧ V.1 42 = S.1 42 := by
  obtain ⟨q1, q2, q3, q4⟩ := q
  have w42 : W.1 42 = S.1 42 := by funext j; rw [FW.1 42 j (by unfold rp182; omega), h42]
  obtain ⟨_, u⟩ := hU.2 n b tW
  rw [w42] at u
  obtain ⟨u1, u2, u3, _, _, _⟩ := u hk
  have u42 : U.1 42 = S.1 42 := by funext j; rw [hU.1.1 42 j (by unfold rp183; omega), w42]
  have v42 : V.1 42 = S.1 42 := by funext j; rw [hV.1.1 42 j (by omega), u42]
  have gt := tk_e_gt (T := S.1 42) (n := n) (b := b) (by omega)
  have gs := tk_s_ge (T := S.1 42) (n := n) (b := tk_e (S.1 42) n b)
  have gs0 := tk_s_ge (T := S.1 42) (n := n) (b := b)
  refine ⟨⟨u2.keep (fun k _ _ => hV.1.1 41 k (by omega)) (fun i => hV.1.1 42 i (by omega)) (by rw [hV.1.2]), ?_, fun z => ?_, by omega⟩, v42⟩
  · rw [v42]; exact hf.keep (hV.1.1 41 17 (by omega)) (hV.1.1 41 18 (by omega)) (by omega)
  · obtain ⟨e1, e2, e3⟩ := pr_one_0 z
    obtain ⟨h1, h2, h3⟩ := q3 e2
    rw [e1]
    have w51 : ∀ j, U.1 51 j = T.1 51 j := fun j => by rw [hU.1.1 51 j (by unfold rp183; omega), FW.1 51 j (by unfold rp182; omega)]
    have y := hV.2 0 1 1 12 (pic A) rfl rfl rfl rfl rfl (by rw [w51]; exact h1) (by decide) (by decide) (by decide) (by decide) (by omega) (by decide)
    refine ⟨?_, ?_, fun i hi => ?_⟩
    · rw [y, if_pos rfl]; rfl
    · show pic A + 1 ≤ 12
      omega
    · have hi' : i < pic A + 1 := hi
      show _ = if i = pic A then tk_v (S.1 42) n b else pit A i 0
      rw [y, if_neg (by omega)]
      by_cases hii : i = pic A
      · rw [if_pos (by omega), if_pos hii, show 1 + i - (1 + 1 * pic A) = 0 by omega, u3 0, if_pos (show (0 : Nat) = Int32.toNatClampNeg 0 from rfl)]
      · rw [if_neg (by omega), if_neg hii, w51]; exact h3 i (by omega)
theorem i32_9 {v : Int32} : (9 < v) ↔ 10 ≤ v := by
  rw [Int32.lt_iff_toInt_lt, Int32.le_iff_toInt_le]
  have a : (9 : Int32).toInt = 9 := rfl
  have b : (10 : Int32).toInt = 10 := rfl
  omega
theorem rb9 {v : Int32} (hv : 0 ≤ v.toInt) : rbad 9 (-1) v = decide (10 ≤ v) := by
  have nv : ¬ v = -1 := fun z => by
    rw [z] at hv
    have e1 : (-1 : Int32).toInt = -1 := rfl
    omega
  unfold rbad
  by_cases h : 10 ≤ v
  · rw [decide_eq_true h, decide_eq_true (Or.inl (i32_9.mpr h))]
  · rw [decide_eq_false h, decide_eq_false (fun z => z.elim (fun y => h (i32_9.mp y)) nv)]
theorem ec181 : es181 rc181 := by
  have UP : ∀ {S T V : ex_S} {n b k b_q k_q : Nat} {A A_q : pA}, T.1 42 = S.1 42 → tk_k (S.1 42) n b_q = 2 → rq181 T n b_q k_q A_q → pr_run (S.1 42) n k_q b_q A_q = pr_run (S.1 42) n k b A → rq181 V n (tk_e (S.1 42) n b_q) (k_q - 1) (pr_one (S.1 42) n b_q A_q) → ∃ b'' k'' A'', rq181 V n b'' k'' A'' ∧ pr_run (S.1 42) n k'' b'' A'' = pr_run (S.1 42) n k b A := by
    intro S T V n b k b_q k_q A A_q h42 hk q e qV
    have hbn := q.1.2.1
    have q4 := q.2.2.2
    obtain ⟨m, rfl⟩ : ∃ m, k_q = m + 1 := ⟨k_q - 1, by omega⟩
    refine ⟨_, _, _, qV, ?_⟩
    rw [← e, pr_un, if_neg (by omega), if_pos hk]; rfl
  refine ev181 (I0 := ri181) ec182 ec183 ec185 ?_ ?_ ?_ ?_ ?_ ?_ ?_ ?_
  · intro S; exact ⟨ex_fw.refl _ S, fun n b k A q => ⟨b, k, A, q, rfl⟩⟩
  · intro S T hI c
    refine ⟨hI.1, fun n b k A q => ?_⟩
    obtain ⟨b_q, k_q, A_q, q', e⟩ := hI.2 n b k A q
    have e42 := fw42l hI.1
    have k0 := (q'.1.k (k := 0) (by decide)).mp c
    have s0 := tk_k0 k0 q'.1.2.1
    rw [e42] at k0
    rw [← e, pr_0 k0]
    refine ⟨fun p z => (by cases z), fun A'' z => ?_⟩
    cases z
    refine ⟨rfl, ?_, ?_, q'.2.2.1⟩
    · rw [q'.1.2.2.2.2.1, s0]
    · have := q'.2.1; rw [s0] at this; exact this
  · intro S T hI c0 c1 r U hU cr V hV
    refine ⟨(hI.1.trans ((hU.1.mono rp183_n).mono rpn_l)).trans (hV.1.w.mono (fun a k z => by unfold rpl; omega)), fun n b k A q => ?_⟩
    obtain ⟨b_q, k_q, A_q, q', e⟩ := hI.2 n b k A q
    exact absurd ((hU.2 n b_q q'.1).1 (fun z => c1 ((q'.1.k (k := 2) (by decide)).mpr z))).1 cr
  · intro S T hI c0 c1 r U hU cr
    refine ⟨hI.1.trans ((hU.1.mono rp183_n).mono rpn_l), fun n b k A q => ?_⟩
    obtain ⟨b_q, k_q, A_q, q', e⟩ := hI.2 n b k A q
    have e42 := fw42l hI.1
    have nk : tk_k (T.1 42) n b_q ≠ 2 := fun z => c1 ((q'.1.k (k := 2) (by decide)).mpr z)
    have n0 : tk_k (T.1 42) n b_q ≠ 0 := fun z => c0 ((q'.1.k (k := 0) (by decide)).mpr z)
    have h := ((hU.2 n b_q q'.1).1 nk).2
    rw [e42] at nk n0 h
    have hbn := q'.1.2.1
    have q4 := q'.2.2.2
    obtain ⟨m, rfl⟩ : ∃ m, k_q = m + 1 := ⟨k_q - 1, by omega⟩
    rw [← e, pr_un, if_neg n0, if_neg nk]
    refine ⟨fun p z => ?_, fun A'' z => (by cases z)⟩
    cases z
    exact ⟨rfl, h⟩
  · intro S T hI c0 c1 c2 r U hU cr V hV
    refine ⟨(hI.1.trans ((hU.1.mono rp183_n).mono rpn_l)).trans (hV.1.w.mono (fun a k z => by unfold rpl; omega)), fun n b k A q => ?_⟩
    obtain ⟨b_q, k_q, A_q, q', e⟩ := hI.2 n b k A q
    have e42 := fw42l hI.1
    have k2 := (q'.1.k (k := 2) (by decide)).mp (Classical.not_not.mp c1)
    have h6 := ((hU.2 n b_q q'.1).2 k2).2.2.2.2.2 A_q q'.2.1
    rw [e42] at k2 h6
    refine UP e42 k2 q' e (ri181_go e42 q' k2 T (ex_fw.refl _ T) q'.1 hU hV ?_).1
    rw [rb9 (tk_v_b k2).1] at h6
    have d : pf A_q = 0 → decide (12 ≤ pic A_q) = false := fun z => by
      obtain ⟨h1, h2, _⟩ := q'.2.2.1 z
      exact decide_eq_false (fun y => c2 (by rw [h1, show pic A_q = 12 by omega]; rfl))
    obtain ⟨f1, f2⟩ := pr_one_f (T := S.1 42) (n := n) (b := b_q) (A := A_q)
    unfold rqf
    rw [f1, f2]
    by_cases z : pf A_q = 0
    · rw [d z, pnote_f]; exact h6
    · have e1 : pnote A_q (decide (10 ≤ tk_v (S.1 42) n b_q)) 2 (Int32.ofNat (tk_s (S.1 42) n b_q)) = A_q := pnote_ne z
      rw [e1] at h6 ⊢
      rw [pnote_ne z]; exact h6
  · intro S T hI c0 c1 c2 r U hU cr
    refine ⟨hI.1.trans ((hU.1.mono rp183_n).mono rpn_l), fun n b k A q => ?_⟩
    obtain ⟨b_q, k_q, A_q, q', e⟩ := hI.2 n b k A q
    have k2 := (q'.1.k (k := 2) (by decide)).mp (Classical.not_not.mp c1)
    exact absurd (((hU.2 n b_q q'.1).2 k2).1.symm.trans (Classical.not_not.mp cr)) (by decide)
  · intro S T hI c0 c1 c2 W hW r U hU cr V hV
    refine ⟨((hI.1.trans ((hW.fw.mono rp182_n).mono rpn_l)).trans ((hU.1.mono rp183_n).mono rpn_l)).trans (hV.1.w.mono (fun a k z => by unfold rpl; omega)), fun n b k A q => ?_⟩
    obtain ⟨b_q, k_q, A_q, q', e⟩ := hI.2 n b k A q
    have e42 := fw42l hI.1
    have k2 := (q'.1.k (k := 2) (by decide)).mp (Classical.not_not.mp c1)
    have tW : rtok W n b_q := q'.1.keep (fun k h1 h2 => hW.fw.1 41 k (by unfold rp182; omega)) (fun i => hW.fw.1 42 i (by unfold rp182; omega)) (by
      have hW' : W = _ := hW
      rw [hW']; split <;> rfl)
    have w42 : W.1 42 = S.1 42 := by funext j; rw [hW.fw.1 42 j (by unfold rp182; omega), e42]
    rw [e42] at k2
    have uu := (hU.2 n b_q tW).2 (by rw [w42]; exact k2)
    rw [w42] at uu
    obtain ⟨_, _, _, ub, ug, _⟩ := uu
    refine UP e42 k2 q' e (ri181_go e42 q' k2 W hW.fw tW hU hV ?_).1
    rw [rb9 (tk_v_b k2).1] at ub ug
    obtain ⟨f1, f2⟩ := pr_one_f (T := S.1 42) (n := n) (b := b_q) (A := A_q)
    have hs := tk_s_le (T := S.1 42) q'.1.2.1
    have hn := q'.1.2.2.1
    have e12 := q'.1.2.2.2.2.1
    rw [e42] at e12
    have q2 := q'.2.1
    rw [e42] at q2
    rw [e12] at hW
    have wn := hW.note q2 (by omega) (by decide)
    unfold rqf
    rw [f1, f2]
    by_cases z : pf A_q = 0
    · obtain ⟨h1, h2, _⟩ := q'.2.2.1 z
      have p12 : pic A_q = 12 := (n32_eq (by omega) (by decide)).mp (h1.symm.trans ((Classical.not_not.mp c2).trans (show (12 : Int32) = Int32.ofNat 12 from rfl)))
      have w3 : pnote A_q true 3 (Int32.ofNat (tk_s (S.1 42) n b_q)) = (3, Int32.ofNat (tk_s (S.1 42) n b_q), A_q.2.2) := if_pos ⟨z, rfl⟩
      rw [w3] at wn
      have w17 : W.1 41 17 = 3 := wn.1
      have w18 : W.1 41 18 = Int32.ofNat (tk_s (S.1 42) n b_q) := (wn.2 (by show ¬ (3 : Int32) = 0; decide)).1
      rw [decide_eq_true (show 12 ≤ pic A_q by omega)]
      cases hd : decide (10 ≤ tk_v (S.1 42) n b_q) with
      | true =>
        have u2 := (ub hd).2.1 (Or.inr (Or.inr ⟨w18.symm, by rw [w17]; decide⟩))
        have p2 : pnote A_q true 2 (Int32.ofNat (tk_s (S.1 42) n b_q)) = (2, Int32.ofNat (tk_s (S.1 42) n b_q), A_q.2.2) := if_pos ⟨z, rfl⟩
        rw [p2, pnote_ne (show pf (2, Int32.ofNat (tk_s (S.1 42) n b_q), A_q.2.2) ≠ 0 by show ¬ (2 : Int32) = 0; decide)]
        exact ⟨u2.1, fun _ => ⟨u2.2, _, rfl, by omega⟩⟩
      | false =>
        rw [pnote_f, w3]
        obtain ⟨_, g1, g2⟩ := ug hd
        exact ⟨g1.trans w17, fun _ => ⟨g2.trans w18, _, rfl, by omega⟩⟩
    · rw [pnote_ne z] at wn
      rw [show pnote A_q (decide (10 ≤ tk_v (S.1 42) n b_q)) 2 (Int32.ofNat (tk_s (S.1 42) n b_q)) = A_q from pnote_ne z, pnote_ne z]
      obtain ⟨p0, pq, p2, p3⟩ := q2.2 z
      -- the FAULT stands where it stood
      have wf : W.1 41 17 = pf A_q ∧ W.1 41 18 = pp A_q := ⟨wn.1, (wn.2 z).1⟩
      cases hd : decide (10 ≤ tk_v (S.1 42) n b_q) with
      | true =>
        have u2 := (ub hd).2.2 (by
          rw [wf.1, wf.2, p2]
          intro y
          rcases y with y | y | y
          · exact z y
          · rw [n32_lt (by omega) (by omega)] at y; omega
          · have := (n32_eq (by omega) (by omega)).mp y.1; omega)
        exact ⟨u2.1.trans wf.1, fun _ => ⟨u2.2.trans wf.2, pq, p2, by omega⟩⟩
      | false =>
        obtain ⟨_, g1, g2⟩ := ug hd
        exact ⟨g1.trans wf.1, fun _ => ⟨g2.trans wf.2, pq, p2, by omega⟩⟩
  · intro S T hI c0 c1 c2 W hW r U hU cr
    refine ⟨(hI.1.trans ((hW.fw.mono rp182_n).mono rpn_l)).trans ((hU.1.mono rp183_n).mono rpn_l), fun n b k A q => ?_⟩
    obtain ⟨b_q, k_q, A_q, q', e⟩ := hI.2 n b k A q
    have k2 := (q'.1.k (k := 2) (by decide)).mp (Classical.not_not.mp c1)
    have tW : rtok W n b_q := q'.1.keep (fun k h1 h2 => hW.fw.1 41 k (by unfold rp182; omega)) (fun i => hW.fw.1 42 i (by unfold rp182; omega)) (by
      have hW' : W = _ := hW
      rw [hW']; split <;> rfl)
    have w42 : W.1 42 = T.1 42 := by funext j; exact hW.fw.1 42 j (by unfold rp182; omega)
    exact absurd (((hU.2 n b_q tW).2 (by rw [w42]; exact k2)).1.symm.trans (Classical.not_not.mp cr)) (by decide)
end
section
/-- what is told, by sort -/
def rqC (sort : Int32) (S : ex_S) (A : pA) : Prop := if sort = 0 then rqc0 S A else if sort = 2 then rqc2 S A else rqc3 S A
theorem rqC.keep {sort : Int32} {S S_q : ex_S} {A : pA} (h : rqC sort S A) (e : ∀ j, S_q.1 51 j = S.1 51 j) (e2 : S_q.1 41 21 = S.1 41 21) : rqC sort S_q A := by
  unfold rqC at h ⊢
  split at h
  · rename_i h0; rw [if_pos h0]; exact h.keep e
  · rename_i h0; rw [if_neg h0]
    split at h
    · rename_i h2; rw [if_pos h2]; exact h.keep e e2
    · rename_i h2; rw [if_neg h2]
      obtain ⟨h1, h3, h4⟩ := h
      exact ⟨by rw [e]; exact h1, h3, fun k j hk hj => by rw [e]; exact h4 k j hk hj⟩
theorem ps_un {sort : Int32} {T : Nat → Int32} {n m b : Nat} {A : pA} : ps_run sort T n (m + 1) b A = if tk_k T n b = 0 then Sum.inr A else if pfw sort T n b = -1 then Sum.inl (tk_s T n b) else match pl_fail T n (pfw sort T n b).toNatClampNeg (tk_e T n b) with | some p => Sum.inl p | none => ps_run sort T n m (pl_end T n (pfw sort T n b).toNatClampNeg (tk_e T n b)) (pline T n (pfw sort T n b).toNatClampNeg (tk_s T n b) (tk_e T n b) A) := rfl
def rq186 (sort : Int32) (S : ex_S) (n b k : Nat) (A : pA) : Prop := rtok S n b ∧ rqf S A (tk_s (S.1 42) n b) ∧ (pf A = 0 → rqC sort S A) ∧ n < b + k
def rc186 (sort : Int32) (S : ex_S) (v : Int32) (S_q : ex_S) : Prop := ex_fw rpl S S_q ∧ ∀ n b k A, rq186 sort S n b k A → (∀ p, ps_run sort (S.1 42) n k b A = .inl p → v = 0 ∧ S_q.1 41 16 = Int32.ofNat p) ∧ (∀ A_q, ps_run sort (S.1 42) n k b A = .inr A_q → v = 1 ∧ S_q.1 41 12 = Int32.ofNat n ∧ rqf S_q A_q n ∧ (pf A_q = 0 → rqC sort S_q A_q))
def rstop (sort : Int32) (S T : ex_S) (n b k : Nat) (A : pA) : Prop := ∃ p, ps_run sort (S.1 42) n k b A = .inl p ∧ T.1 41 16 = Int32.ofNat p
def ri186 (sort : Int32) (S : ex_S) (x : Int32) (T : ex_S) : Prop := ex_fw rpl S T ∧ ∀ n b k A, rq186 sort S n b k A → (x = 0 → rstop sort S T n b k A) ∧ (x ≠ 0 → x = 1 ∧ ∃ b_q k_q A_q, rq186 sort T n b_q k_q A_q ∧ ps_run sort (S.1 42) n k_q b_q A_q = ps_run sort (S.1 42) n k b A)
def rj186 (sort : Int32) (S : ex_S) (x3 : Int32) (x4 : Int64) (T : ex_S) : Prop := ex_fw rpl S T ∧ ∀ n b k A, rq186 sort S n b k A → ∃ b_q k_q A_q, rq186 sort T n b_q k_q A_q ∧ ps_run sort (S.1 42) n k_q b_q A_q = ps_run sort (S.1 42) n k b A ∧ tk_k (S.1 42) n b_q ≠ 0 ∧ x3 = Int32.ofNat (tk_s (S.1 42) n b_q) ∧ x4 = rwd (S.1 42) n b_q
/-- behind a line, its stop seen -/
def rk186 (sort : Int32) (S : ex_S) (x : Int32) (T : ex_S) : Prop := ex_fw rpl S T ∧ ∀ n b k A, rq186 sort S n b k A → (x = 0 → rstop sort S T n b k A) ∧ (x ≠ 0 → x = 1 ∧ ∃ b_q k_q A_q, rtok T n b_q ∧ rqf T A_q (tk_s (S.1 42) n b_q) ∧ (pf A_q = 0 → rqC sort T A_q) ∧ n < tk_e (S.1 42) n b_q + k_q ∧ (tk_k (S.1 42) n b_q = 3 → ps_run sort (S.1 42) n k_q (tk_e (S.1 42) n b_q) A_q = ps_run sort (S.1 42) n k b A) ∧ (tk_k (S.1 42) n b_q ≠ 3 → ps_run sort (S.1 42) n k b A = .inl (tk_s (S.1 42) n b_q)))
def rm186 (sort : Int32) (S : ex_S) (x : Int32) (T : ex_S) : Prop := ex_fw rpl S T ∧ ∀ n b k A, rq186 sort S n b k A → (x = 0 → rstop sort S T n b k A) ∧ (x ≠ 0 → x = 1 ∧ ∃ b_q k_q A_q, rtok T n b_q ∧ rqf T A_q (tk_s (S.1 42) n b_q) ∧ (pf A_q = 0 → rqC sort T A_q) ∧ n < tk_e (S.1 42) n b_q + k_q ∧ ps_run sort (S.1 42) n k_q (tk_e (S.1 42) n b_q) A_q = ps_run sort (S.1 42) n k b A)
/-- a line's contract makes the loop's step -/
theorem rk186_of {sort : Int32} {S T U : ex_S} {x3 : Int32} {x4 : Int64} {r s3 : Int32} {R : ex_S → pA → Prop} (hI : rj186 sort S x3 x4 T) (hU : rcl s3 R x4 x3 (ex_sx T 41 22 1) r U) (hs : ∀ T n b, pfw s3 T n b = pfw sort T n b) (hR : ∀ S A, R S A ↔ rqC sort S A) : rk186 sort S r U := by
  have F0 : ex_fw rpl S (ex_sx T 41 22 1) := hI.1.sx (by unfold rpl; omega)
  refine ⟨F0.trans hU.1, fun n b k A q => ?_⟩
  obtain ⟨b_q, k_q, A_q, ⟨q1, q2, q3, q4⟩, e, hk, h3, h4⟩ := hI.2 n b k A q
  have e42 := fw42l hI.1
  have e42' : (ex_sx T 41 22 1).1 42 = S.1 42 := fw42l F0
  have ql : rql x4 x3 (ex_sx T 41 22 1) n b_q A_q := by
    refine ⟨q1.keep (fun k h1 h2 => ex_sx_ne (by omega)) (fun i => ex_sx_ne (by omega)) rfl, by rw [e42']; exact h3, by rw [e42']; exact h4, ex_sx_eq, ?_⟩
    rw [e42']; rw [e42] at q2
    exact q2.keep (ex_sx_ne (by omega)) (ex_sx_ne (by omega)) (Nat.le_refl _)
  have hc : pf A_q = 0 → R (ex_sx T 41 22 1) A_q := fun z => (hR _ _).mpr ((q3 z).keep (fun j => ex_sx_ne (by omega)) (ex_sx_ne (by omega)))
  obtain ⟨g1, g2⟩ := hU.2 n b_q A_q ql hc
  rw [e42'] at g1 g2
  rw [hs] at g1
  have hbn := q1.2.1
  obtain ⟨m, rfl⟩ : ∃ m, k_q = m + 1 := ⟨k_q - 1, by omega⟩
  have un := ps_un (sort := sort) (T := S.1 42) (n := n) (m := m) (b := b_q) (A := A_q)
  rw [if_neg hk] at un
  rcases pfw_r sort (S.1 42) n b_q with z | ⟨w, hw, z⟩
  · obtain ⟨v0, w16⟩ := g1 z
    rw [if_pos z] at un
    exact ⟨fun _ => ⟨_, e.symm.trans un, w16⟩, fun y => absurd v0 y⟩
  · rw [z, if_neg (n32_m1 (by omega)), n32_tn (by omega)] at un
    obtain ⟨g3, g4⟩ := g2 w hw ((hs _ _ _).trans z)
    cases hp : pl_pre (S.1 42) n w (tk_e (S.1 42) n b_q) with
    | some p =>
      obtain ⟨v0, w16⟩ := g3 p hp
      rw [pl_fail_s hp] at un
      exact ⟨fun _ => ⟨p, e.symm.trans un, w16⟩, fun y => absurd v0 y⟩
    | none =>
      obtain ⟨v1, t, f, c⟩ := g4 hp
      rw [pl_fail_n hp, pl_end_bst] at un
      refine ⟨fun y => absurd (v1.symm.trans y) (by decide), fun _ => ⟨v1, bst (S.1 42) n w (tk_e (S.1 42) n b_q), m, pline (S.1 42) n w (tk_s (S.1 42) n b_q) (tk_e (S.1 42) n b_q) A_q, t, f, fun y => (hR _ _).mp (c y), ?_, fun k3 => ?_, fun k3 => ?_⟩⟩
      · have gt := tk_e_gt hk
        have g5 := tk_s_ge (T := S.1 42) (n := n) (b := b_q)
        have g6 := pl_end_ge (T := S.1 42) (n := n) (w := w) (b := tk_e (S.1 42) n b_q)
        rw [pl_end_bst] at g6
        omega
      · rw [← e, un]; unfold pl_s; rw [if_pos k3]
      · rw [← e, un]; unfold pl_s; rw [if_neg k3]
theorem ec186 : es186 rc186 := by
  refine ev186 (I2 := ri186) (I36 := rj186) (I78 := rk186) (I95 := rm186) ec179 ec184 ec187 ec189 ec192 ?_ ?_ ?_ ?_ ?_ ?_ ?_ ?_ ?_ ?_ ?_ ?_ ?_
  · intro sort S
    exact ⟨ex_fw.refl _ S, fun n b k A q => ⟨fun z => absurd z (by decide), fun _ => ⟨rfl, b, k, A, q, rfl⟩⟩⟩
  · intro sort S x T hI c
    refine ⟨hI.1, fun n b k A q => ?_⟩
    obtain ⟨p, p1, p2⟩ := (hI.2 n b k A q).1 c
    rw [p1]
    refine ⟨fun p' z => ?_, fun A'' z => (by cases z)⟩
    cases z
    exact ⟨c, p2⟩
  · intro sort S x T hI c c1
    refine ⟨hI.1, fun n b k A q => ?_⟩
    obtain ⟨x1, b_q, k_q, A_q, q', e⟩ := (hI.2 n b k A q).2 c
    have e42 := fw42l hI.1
    have k0 := (q'.1.k (k := 0) (by decide)).mp c1
    have s0 := tk_k0 k0 q'.1.2.1
    rw [e42] at k0
    rw [← e, ps_0 k0]
    refine ⟨fun p z => (by cases z), fun A'' z => ?_⟩
    cases z
    refine ⟨x1, ?_, ?_, q'.2.2.1⟩
    · rw [q'.1.2.2.2.2.1, s0]
    · have := q'.2.1; rw [s0] at this; exact this
  · intro sort S x T hI c c1 c2
    refine ⟨hI.1, fun n b k A q => ?_⟩
    obtain ⟨x1, b_q, k_q, A_q, q', e⟩ := (hI.2 n b k A q).2 c
    have e42 := fw42l hI.1
    have n0 : tk_k (T.1 42) n b_q ≠ 0 := fun z => c1 ((q'.1.k (k := 0) (by decide)).mpr z)
    have n1 : tk_k (T.1 42) n b_q ≠ 1 := fun z => c2 ((q'.1.k (k := 1) (by decide)).mpr z)
    have e12 := q'.1.2.2.2.2.1
    rw [e42] at n0 n1 e12
    refine ⟨b_q, k_q, A_q, q', e, n0, e12, ?_⟩
    unfold rwd; rw [if_neg n1]
  · intro sort S x T hI c c1 c2
    refine ⟨hI.1, fun n b k A q => ?_⟩
    obtain ⟨x1, b_q, k_q, A_q, q', e⟩ := (hI.2 n b k A q).2 c
    have e42 := fw42l hI.1
    have k1 := (q'.1.k (k := 1) (by decide)).mp (Classical.not_not.mp c2)
    have ew := q'.1.2.2.2.2.2.2.2.2 k1
    have e12 := q'.1.2.2.2.2.1
    rw [e42] at k1 ew e12
    refine ⟨b_q, k_q, A_q, q', e, by omega, e12, ?_⟩
    unfold rwd; rw [if_pos k1]; exact ew
  · intro sort S x3 x4 T hI c1 c2 r U hU
    refine rk186_of hI hU (fun T n b => ?_) (fun S A => ?_)
    · unfold pfw pwt pwb; rw [if_neg c1, if_neg c2, if_neg c1, if_neg c2]; rfl
    · unfold rqC; rw [if_neg c1, if_neg c2]
  · intro sort S x3 x4 T hI c1 c2 r U hU
    have c2 := Classical.not_not.mp c2
    refine rk186_of hI hU (fun T n b => by rw [c2]) (fun S A => ?_)
    unfold rqC; rw [if_neg c1, if_pos c2]
  · intro sort S x3 x4 T hI c1 r U hU
    have c1 := Classical.not_not.mp c1
    refine rk186_of hI hU (fun T n b => by rw [c1]) (fun S A => ?_)
    unfold rqC; rw [if_pos c1]
  · intro sort S x T hI c
    exact ⟨hI.1, fun n b k A q => ⟨fun z => (hI.2 n b k A q).1 z, fun z => absurd c z⟩⟩
  · intro sort S x T hI c c1
    refine ⟨hI.1, fun n b k A q => ⟨fun z => absurd z c, fun _ => ?_⟩⟩
    obtain ⟨x1, b_q, k_q, A_q, t, f, cc, hb, h3, h4⟩ := (hI.2 n b k A q).2 c
    have k3 := (t.k (k := 3) (by decide)).mp c1
    rw [fw42l hI.1] at k3
    exact ⟨x1, b_q, k_q, A_q, t, f, cc, hb, h3 k3⟩
  · intro sort S x T hI c c1 r U hU
    obtain ⟨rfl, rfl⟩ := hU
    refine ⟨hI.1.sx (by unfold rpl; omega), fun n b k A q => ⟨fun _ => ?_, fun z => absurd rfl z⟩⟩
    obtain ⟨x1, b_q, k_q, A_q, t, f, cc, hb, h3, h4⟩ := (hI.2 n b k A q).2 c
    have k3 : tk_k (T.1 42) n b_q ≠ 3 := fun z => c1 ((t.k (k := 3) (by decide)).mpr z)
    have e42 := fw42l hI.1
    have e12 := t.2.2.2.2.1
    rw [e42] at k3 e12
    exact ⟨_, h4 k3, by rw [ex_sx_eq, e12]⟩
  · intro sort S x T hI c
    exact ⟨hI.1, fun n b k A q => ⟨fun z => (hI.2 n b k A q).1 z, fun z => absurd c z⟩⟩
  · intro sort S x T hI c U hU
    refine ⟨hI.1.trans ((hU.1.mono rp179_n).mono rpn_l), fun n b k A q => ⟨fun z => absurd z c, fun _ => ?_⟩⟩
    obtain ⟨x1, b_q, k_q, A_q, t, f, cc, hb, h3⟩ := (hI.2 n b k A q).2 c
    have e42 := fw42l hI.1
    have tt := hU.tok t.at
    rw [e42] at tt
    have u42 := hU.t42.trans e42
    refine ⟨x1, tk_e (S.1 42) n b_q, k_q, A_q, ⟨tt, ?_, fun z => (cc z).keep (fun j => hU.1.1 51 j (by unfold rp179; omega)) (hU.1.1 41 21 (by unfold rp179; omega)), hb⟩, h3⟩
    rw [u42]
    have g1 := tk_e_ge (T := S.1 42) (n := n) (b := b_q)
    have g2 := tk_s_ge (T := S.1 42) (n := n) (b := tk_e (S.1 42) n b_q)
    exact f.keep (hU.1.1 41 17 (by unfold rp179; omega)) (hU.1.1 41 18 (by unfold rp179; omega)) (by omega)
/-- no FAULT is no place; a FAULT is above 0 -/
def pok (A : pA) : Prop := (pf A = 0 ∧ pp A = -1) ∨ 0 < pf A
theorem pok.note {A : pA} {c : Bool} {f p : Int32} (h : pok A) (hf : 0 < f) : pok (pnote A c f p) := by
  unfold pnote
  split
  · exact Or.inr hf
  · exact h
theorem pok.pan {T : Nat → Int32} {n w b : Nat} {A : pA} (h : pok A) : ∀ i, pok (pan T n w b A i)
  | 0 => h
  | i + 1 => (pok.pan h i).note (by decide)
theorem pok.keep {w : Nat} {l : Nat → Int32} {A : pA} (h : pok A) : pok (pkeep w l A) := by
  unfold pok; rw [pkeep_f.1, pkeep_f.2]; exact h
theorem pok.line {T : Nat → Int32} {n w s b : Nat} {A : pA} (h : pok A) : pok (pline T n w s b A) := by
  unfold pok; rw [pline_f.1, pline_f.2]; exact (h.note (by decide)).pan _
theorem pok.run {sort : Int32} {T : Nat → Int32} {n : Nat} : ∀ {k b : Nat} {A A_q : pA}, pok A → ps_run sort T n k b A = .inr A_q → pok A_q
  | 0, _, _, _, h, e => by cases e; exact h
  | k + 1, b, A, A_q, h, e => by
    rw [ps_un] at e
    split at e
    · cases e; exact h
    · split at e
      · cases e
      · split at e
        · cases e
        · exact pok.run h.line e
theorem pok.row {T : Nat → Int32} {n : Nat} : ∀ {k b : Nat} {A A_q : pA}, pok A → pr_run T n k b A = .inr A_q → pok A_q
  | 0, _, _, _, h, e => by cases e; exact h
  | k + 1, b, A, A_q, h, e => by
    rw [pr_un] at e
    split at e
    · cases e; exact h
    · split at e
      · refine pok.row ?_ e
        unfold pok; rw [pr_one_f.1, pr_one_f.2]; exact (h.note (by decide)).note (by decide)
      · cases e
theorem pok.all {sort : Int32} {T : Nat → Int32} {n : Nat} {A : pA} (e : ps_all sort T n = .inr A) : pok A := by
  have h0 : pok pA0 := Or.inl ⟨rfl, rfl⟩
  unfold ps_all at e
  split at e
  · exact pok.row h0 e
  · exact pok.run h0 e
/-- readText -/
def rqT (sort : Int32) (S : ex_S) (A : pA) : Prop := if sort = 1 then rqc1 S A else rqC sort S A
def rpt (a k : Nat) : Prop := rpl a k ∨ a = 44 ∨ a = 45
theorem rpl_t : ∀ a k, rpl a k → rpt a k := fun a k z => Or.inl z
def rq178 (S : ex_S) (n : Nat) : Prop := S.1 41 11 = Int32.ofNat n ∧ n ≤ 600 ∧ ∀ i, sf_B (-128) 127 (S.1 42 i)
def rc178 (sort : Int32) (S : ex_S) (v : Int32) (S_q : ex_S) : Prop := ex_fw rpt S S_q ∧ ∀ n, rq178 S n → S_q.1 44 0 = pf (ps_text sort (S.1 42) n) ∧ S_q.1 45 0 = pp (ps_text sort (S.1 42) n) ∧ (∀ j, 1 ≤ j → S_q.1 44 j = S.1 44 j ∧ S_q.1 45 j = S.1 45 j) ∧ (v = 0 ↔ pf (ps_text sort (S.1 42) n) ≠ 0) ∧ (pf (ps_text sort (S.1 42) n) = 0 → rqT sort S_q (ps_text sort (S.1 42) n))
def ra178 (sort : Int32) (S T : ex_S) : Prop := ex_fw rpl S T ∧ (∀ j, j < 152 → T.1 51 j = if j = 0 ∧ sort = 2 then 4 else 0)
/-- behind rows or lines -/
def rb178 (sort : Int32) (S : ex_S) (x : Int32) (T : ex_S) : Prop := ex_fw rpl S T ∧ ∀ n, rq178 S n → (∀ p, ps_all sort (S.1 42) n = .inl p → x = 0 ∧ T.1 41 16 = Int32.ofNat p) ∧ (∀ A, ps_all sort (S.1 42) n = .inr A → x = 1 ∧ T.1 41 12 = Int32.ofNat n ∧ rqf T A n ∧ (pf A = 0 → rqT sort T A))
/-- with what is wrong at the end -/
def rd178 (sort : Int32) (S : ex_S) (x : Int32) (T : ex_S) : Prop := ex_fw rpl S T ∧ ∀ n, rq178 S n → (∀ p, ps_all sort (S.1 42) n = .inl p → x = 0 ∧ T.1 41 16 = Int32.ofNat p) ∧ (∀ A, ps_all sort (S.1 42) n = .inr A → x = 1 ∧ T.1 41 17 = pf (pnote A (ps_last sort A) 4 (Int32.ofNat n)) ∧ (pf (pnote A (ps_last sort A) 4 (Int32.ofNat n)) ≠ 0 → T.1 41 18 = pp (pnote A (ps_last sort A) 4 (Int32.ofNat n))) ∧ (pf (pnote A (ps_last sort A) 4 (Int32.ofNat n)) = 0 → rqT sort T (pnote A (ps_last sort A) 4 (Int32.ofNat n))))
def re178 (sort : Int32) (S : ex_S) (x : Int32) (T : ex_S) : Prop := ∃ U, rd178 sort S x U ∧ T = ex_sx U 44 0 (if x = 0 then 1 else U.1 41 17)
def rf178 (sort : Int32) (S : ex_S) (T : ex_S) : Prop := ∃ x U, rd178 sort S x U ∧ T = ex_sx (ex_sx U 44 0 (if x = 0 then 1 else U.1 41 17)) 45 0 (if x = 0 then U.1 41 16 else if U.1 41 17 ≤ 0 then -1 else U.1 41 18)
theorem rqT.keep {sort : Int32} {S S_q : ex_S} {A : pA} (h : rqT sort S A) (e : ∀ j, S_q.1 51 j = S.1 51 j) (e2 : S_q.1 41 21 = S.1 41 21) : rqT sort S_q A := by
  unfold rqT at h ⊢
  split at h
  · rename_i h0; rw [if_pos h0]
    obtain ⟨h1, h2, h3⟩ := h
    exact ⟨by rw [e]; exact h1, h2, fun k hk => by rw [e]; exact h3 k hk⟩
  · rename_i h0; rw [if_neg h0]; exact h.keep e e2
theorem rf178_c {sort : Int32} {S T : ex_S} (h : rf178 sort S T) {v : Int32} (hv : v = 0 ↔ T.1 44 0 ≠ 0) : rc178 sort S v T := by
  obtain ⟨x, U, hU, rfl⟩ := h
  refine ⟨((hU.1.mono rpl_t).sx (Or.inr (Or.inl rfl))).sx (Or.inr (Or.inr rfl)), fun n q => ?_⟩
  obtain ⟨g1, g2⟩ := hU.2 n q
  have z44 : (ex_sx (ex_sx U 44 0 (if x = 0 then 1 else U.1 41 17)) 45 0 (if x = 0 then U.1 41 16 else if U.1 41 17 ≤ 0 then -1 else U.1 41 18)).1 44 0 = if x = 0 then 1 else U.1 41 17 := by rw [ex_sx_ne (by omega), ex_sx_eq]
  have oth : ∀ j, 1 ≤ j → (ex_sx (ex_sx U 44 0 (if x = 0 then 1 else U.1 41 17)) 45 0 (if x = 0 then U.1 41 16 else if U.1 41 17 ≤ 0 then -1 else U.1 41 18)).1 44 j = S.1 44 j ∧ (ex_sx (ex_sx U 44 0 (if x = 0 then 1 else U.1 41 17)) 45 0 (if x = 0 then U.1 41 16 else if U.1 41 17 ≤ 0 then -1 else U.1 41 18)).1 45 j = S.1 45 j := by
    intro j hj
    refine ⟨?_, ?_⟩
    · rw [ex_sx_ne (by omega), ex_sx_ne (by omega)]; exact hU.1.1 44 j (by unfold rpl; omega)
    · rw [ex_sx_ne (by omega), ex_sx_ne (by omega)]; exact hU.1.1 45 j (by unfold rpl; omega)
  rw [z44] at hv
  unfold ps_text
  cases h : ps_all sort (S.1 42) n with
  | inl p =>
    obtain ⟨x0, w⟩ := g1 p h
    rw [if_pos x0] at hv
    refine ⟨by rw [z44, if_pos x0]; rfl, by rw [ex_sx_eq, if_pos x0, w]; rfl, oth, ?_, fun z => absurd (show (1 : Int32) = 0 from z) (by decide)⟩
    exact hv
  | inr A =>
    obtain ⟨x1, w1, w2, w3⟩ := g2 A h
    have nx : ¬ x = 0 := fun z => absurd (x1.symm.trans z) (by decide)
    rw [if_neg nx, w1] at hv
    refine ⟨by rw [z44, if_neg nx, w1], ?_, oth, hv, fun z => (w3 z).keep (fun j => by rw [ex_sx_ne (by omega), ex_sx_ne (by omega)]) (by rw [ex_sx_ne (by omega), ex_sx_ne (by omega)])⟩
    rw [ex_sx_eq, if_neg nx]
    have ok : pok (pnote A (ps_last sort A) 4 (Int32.ofNat n)) := (pok.all h).note (by decide)
    show _ = pp (pnote A (ps_last sort A) 4 (Int32.ofNat n))
    rcases ok with ⟨o1, o2⟩ | o1
    · rw [if_pos (by rw [w1, o1]; decide), o2]
    · have n0 : pf (pnote A (ps_last sort A) 4 (Int32.ofNat n)) ≠ 0 := fun z => by rw [z] at o1; exact absurd o1 (by decide)
      rw [if_neg (by rw [w1]; exact Int32.not_le.mpr o1)]
      exact w2 n0
/-- the end's FAULT -/
theorem rd178_of {sort : Int32} {S T : ex_S} {x : Int32} (h : rb178 sort S x T) (h0 : ∀ n A, rq178 S n → ps_all sort (S.1 42) n = .inr A → pf A = 0 → ps_last sort A = false) : rd178 sort S x T := by
  refine ⟨h.1, fun n q => ⟨(h.2 n q).1, fun A e => ?_⟩⟩
  obtain ⟨x1, _, f, c⟩ := (h.2 n q).2 A e
  have en : pnote A (ps_last sort A) 4 (Int32.ofNat n) = A := by
    by_cases z : pf A = 0
    · rw [h0 n A q e z, pnote_f]
    · exact pnote_ne z
  rw [en]
  exact ⟨x1, f.1, fun z => (f.2 z).1, c⟩
end
section
def rg178 (sort : Int32) (S : ex_S) (x y : Int32) (T : ex_S) : Prop := rb178 sort S x T ∧ (y = 0 → ∀ n A, rq178 S n → ps_all sort (S.1 42) n = .inr A → pf A = 0 → ps_last sort A = false) ∧ (¬ y = 0 → ∀ n A, rq178 S n → ps_all sort (S.1 42) n = .inr A → pf A = 0 → ps_last sort A = true)
def rh178 (S : ex_S) (x : Int32) (T : ex_S) : Prop := ex_fx (fun a _ => a = 51) S T ∧ ∃ i, i ≤ 152 ∧ x = Int32.ofNat i ∧ ∀ j, j < i → T.1 51 j = 0
/-- the first token of all -/
theorem ra178.start {sort : Int32} {S T U : ex_S} (h : ra178 sort S T) (hU : rc179 (ex_sx (ex_sx (ex_sx T 41 21 (-1)) 41 10 0) 41 17 0) U) : ex_fw rpl S U ∧ ∀ n, rq178 S n → U.1 42 = S.1 42 ∧ rtok U n 0 ∧ (∀ m, rqf U pA0 m) ∧ rqc1 U pA0 = rqc1 U pA0 ∧ (¬ sort = 1 → rqC sort U pA0) ∧ (sort = 1 → rqc1 U pA0) := by
  have F1 : ex_fw rpl S (ex_sx (ex_sx (ex_sx T 41 21 (-1)) 41 10 0) 41 17 0) := ((h.1.sx (by unfold rpl; omega)).sx (by unfold rpl; omega)).sx (by unfold rpl; omega)
  have F2 : ex_fw rpl S U := F1.trans ((hU.1.mono rp179_n).mono rpn_l)
  refine ⟨F2, fun n q => ?_⟩
  have e42 := fw42l F2
  have e1 := fw42l F1
  have t : tr_at (ex_sx (ex_sx (ex_sx T 41 21 (-1)) 41 10 0) 41 17 0) n 0 := ⟨(F1.1 41 11 (by unfold rpl; omega)).trans q.1, rfl, Nat.zero_le _, q.2.1, fun i => by rw [e1]; exact q.2.2 i⟩
  have u51 : ∀ j, j < 152 → U.1 51 j = if j = 0 ∧ sort = 2 then 4 else 0 := fun j hj => by
    rw [hU.1.1 51 j (by unfold rp179; omega), ex_sx_ne (by omega), ex_sx_ne (by omega), ex_sx_ne (by omega)]; exact h.2 j hj
  have u17 : U.1 41 17 = 0 := by rw [hU.1.1 41 17 (by unfold rp179; omega)]; rfl
  have u21 : U.1 41 21 = -1 := by rw [hU.1.1 41 21 (by unfold rp179; omega)]; rfl
  refine ⟨e42, hU.tok t, fun m => ⟨u17, fun z => absurd rfl z⟩, rfl, fun h1 => ?_, fun h1 => ?_⟩
  · unfold rqC
    by_cases h0 : sort = 0
    · rw [if_pos h0]
      have n2 : ¬ sort = 2 := fun z => absurd (h0.symm.trans z) (by decide)
      refine ⟨by rw [u51 0 (by decide), if_neg (fun z => n2 z.2)]; rfl, Nat.zero_le _, by rw [u51 1 (by decide), if_neg (fun z => n2 z.2)]; rfl, Nat.zero_le _, fun k j hk => absurd hk (Nat.not_lt_zero _), fun k j hk => absurd hk (Nat.not_lt_zero _), fun k hk => by rw [u51 (90 + k) (by omega), if_neg (fun z => n2 z.2)]; rfl⟩
    · rw [if_neg h0]
      by_cases h2 : sort = 2
      · rw [if_pos h2]
        exact ⟨by rw [u51 0 (by decide), if_pos ⟨rfl, h2⟩]; rfl, by rw [u51 1 (by decide), if_neg (by omega)]; rfl, Nat.zero_le _, u21, fun k j hk => absurd hk (Nat.not_lt_zero _)⟩
      · rw [if_neg h2]
        exact ⟨by rw [u51 0 (by decide), if_neg (fun z => h2 z.2)]; rfl, Nat.zero_le _, fun k j hk => absurd hk (Nat.not_lt_zero _)⟩
  · have n2 : ¬ sort = 2 := fun z => absurd (h1.symm.trans z) (by decide)
    exact ⟨by rw [u51 0 (by decide), if_neg (fun z => n2 z.2)]; rfl, Nat.zero_le _, fun k hk => absurd hk (Nat.not_lt_zero _)⟩
theorem ec178 : es178 rc178 := by
  refine ev178 (I2 := fun _ S x T => rh178 S x T) (I38 := ra178) (I75 := rb178) (I121 := rg178) (I145 := rd178) (I163 := re178) (I195 := rf178) ec179 ec181 ec182 ec186 ?_ ?_ ?_ ?_ ?_ ?_ ?_ ?_ ?_ ?_ ?_ ?_ ?_ ?_ ?_ ?_ ?_ ?_ ?_ ?_ ?_ ?_
  · intro sort S; exact ⟨ex_fx.refl _ S, 0, by decide, rfl, fun j hj => absurd hj (by omega)⟩
  · intro sort S x T hI c c1
    obtain ⟨F, i, i1, i2, i3⟩ := hI
    rw [i2, show (152 : Int32) = Int32.ofNat 152 from rfl, n32_le (by omega) (by omega)] at c
    refine ⟨(F.w.mono (fun a k z => by unfold rpl; omega)).sx (by unfold rpl; omega), fun j hj => ?_⟩
    rw [ex_sx_at, if_neg (show ¬ (j = 0 ∧ sort = 2) from fun z => c1 z.2)]
    split
    · rfl
    · exact i3 j (by omega)
  · intro sort S x T hI c c1
    obtain ⟨F, i, i1, i2, i3⟩ := hI
    rw [i2, show (152 : Int32) = Int32.ofNat 152 from rfl, n32_le (by omega) (by omega)] at c
    refine ⟨(F.w.mono (fun a k z => by unfold rpl; omega)).sx (by unfold rpl; omega), fun j hj => ?_⟩
    rw [ex_sx_at]
    by_cases h0 : j = 0
    · rw [if_pos ⟨rfl, h0⟩, if_pos ⟨h0, Classical.not_not.mp c1⟩]
    · rw [if_neg (fun z => h0 z.2), if_neg (fun z => h0 z.1)]; exact i3 j (by omega)
  · intro sort S x T hI c
    obtain ⟨F, i, i1, i2, i3⟩ := hI
    rw [i2, show (152 : Int32) = Int32.ofNat 152 from rfl, n32_le (by omega) (by omega)] at c
    refine ⟨F.sx rfl, i + 1, by omega, by rw [i2, n32_s], fun j hj => ?_⟩
    rw [ex_sx_at, i2, n32_tn (by omega)]
    by_cases h : j = i
    · rw [if_pos ⟨rfl, h⟩]
    · rw [if_neg (fun z => h z.2)]; exact i3 j (by omega)
  · intro sort S T hI U hU c r V hV
    obtain ⟨F, st⟩ := hI.start hU
    refine ⟨F.trans hV.1, fun n q => ?_⟩
    obtain ⟨e42, t, f, _, cc, _⟩ := st n q
    have := hV.2 n 0 601 pA0 ⟨t, f _, fun _ => cc c, by have := q.2.1; omega⟩
    rw [e42] at this
    unfold ps_all
    rw [if_neg c]
    refine ⟨this.1, fun A e => ?_⟩
    obtain ⟨a1, a2, a3, a4⟩ := this.2 A e
    exact ⟨a1, a2, a3, fun z => by unfold rqT; rw [if_neg c]; exact a4 z⟩
  · intro sort S T hI U hU c r V hV
    have c := Classical.not_not.mp c
    obtain ⟨F, st⟩ := hI.start hU
    refine ⟨F.trans hV.1, fun n q => ?_⟩
    obtain ⟨e42, t, f, _, _, cc⟩ := st n q
    have := hV.2 n 0 601 pA0 ⟨t, f _, fun _ => cc c, by have := q.2.1; omega⟩
    rw [e42] at this
    unfold ps_all
    rw [if_pos c]
    refine ⟨this.1, fun A e => ?_⟩
    obtain ⟨a1, a2, a3, a4⟩ := this.2 A e
    exact ⟨a1, a2, a3, fun z => by unfold rqT; rw [if_pos c]; exact a4 z⟩
  · intro sort S x T hI c1 c2
    refine ⟨hI, fun _ n A q e h0 => ?_, fun z => absurd rfl z⟩
    unfold ps_last; rw [decide_eq_false c1, decide_eq_false c2]; rfl
  · intro sort S x T hI c1 c2 c3
    have c2 := Classical.not_not.mp c2
    refine ⟨hI, fun _ n A q e h0 => ?_, fun z => absurd rfl z⟩
    have cc := ((hI.2 n q).2 A e).2.2.2 h0
    unfold rqT rqC at cc
    rw [if_neg c1, if_neg (fun z => absurd (z.symm.trans c2) (by decide)), if_pos c2] at cc
    rw [cc.1, cc.2.2.2.1] at c3
    unfold ps_last; rw [decide_eq_false c1, decide_eq_false (Int32.not_le.mpr c3)]; simp
  · intro sort S x T hI c1 c2 c3
    have c2 := Classical.not_not.mp c2
    refine ⟨hI, fun z => absurd z (by decide), fun _ n A q e h0 => ?_⟩
    have cc := ((hI.2 n q).2 A e).2.2.2 h0
    unfold rqT rqC at cc
    rw [if_neg c1, if_neg (fun z => absurd (z.symm.trans c2) (by decide)), if_pos c2] at cc
    rw [cc.1, cc.2.2.2.1] at c3
    unfold ps_last; rw [decide_eq_true c2, decide_eq_true (Int32.not_lt.mp c3)]; simp
  · intro sort S x T hI c1 c2
    have c1 := Classical.not_not.mp c1
    refine ⟨hI, fun _ n A q e h0 => ?_, fun z => absurd rfl z⟩
    have cc := ((hI.2 n q).2 A e).2.2.2 h0
    unfold rqT at cc
    rw [if_pos c1] at cc
    unfold ps_last
    rw [decide_eq_false (show ¬ pic A = 0 from fun z => c2 (by rw [cc.1, z]; rfl)), decide_eq_false (show ¬ sort = 2 from fun z => absurd (c1.symm.trans z) (by decide))]; simp
  · intro sort S x T hI c1 c2
    have c1 := Classical.not_not.mp c1
    refine ⟨hI, fun z => absurd z (by decide), fun _ n A q e h0 => ?_⟩
    have cc := ((hI.2 n q).2 A e).2.2.2 h0
    unfold rqT at cc
    rw [if_pos c1] at cc
    have hz : pic A = 0 := (n32_eq (by have := cc.2.1; omega) (by decide)).mp (cc.1.symm.trans ((Classical.not_not.mp c2).trans (show (0 : Int32) = Int32.ofNat 0 from rfl)))
    unfold ps_last; rw [decide_eq_true c1, decide_eq_true hz]; rfl
  · intro sort S x y T hI c
    refine ⟨hI.1.1, fun n q => ⟨(hI.1.2 n q).1, fun A e => ?_⟩⟩
    exact absurd (((hI.1.2 n q).2 A e).1.symm.trans c) (by decide)
  · intro sort S x y T hI c c1
    refine rd178_of hI.1 (fun n A q e z => ?_)
    exact absurd (((hI.1.2 n q).2 A e).2.2.1.1.trans z) c1
  · intro sort S x y T hI c c1 c2
    exact rd178_of hI.1 (hI.2.1 c2)
  · intro sort S x y T hI c c1 c2 U hU
    obtain ⟨hb, _, hl⟩ := hI
    refine ⟨hb.1.trans ((hU.fw.mono rp182_n).mono rpn_l), fun n q => ⟨fun p e => ?_, fun A e => ?_⟩⟩
    · exact absurd ((hb.2 n q).1 p e).1 c
    · obtain ⟨x1, e12, f, cc⟩ := (hb.2 n q).2 A e
      have h0 : pf A = 0 := f.1.symm.trans (Classical.not_not.mp c1)
      rw [hl c2 n A q e h0]
      rw [e12] at hU
      have := hU.note f q.2.1 (by decide)
      refine ⟨x1, this.1, fun z => (this.2 z).1, fun z => absurd z (pnote_tr (by decide))⟩
  · intro sort S x T hI c
    exact ⟨T, hI, by rw [if_pos c]⟩
  · intro sort S x T hI c
    exact ⟨T, hI, by rw [if_neg c]⟩
  · intro sort S x T hI c c1
    obtain ⟨U, hU, rfl⟩ := hI
    rw [ex_sx_ne (by omega)] at c1
    exact ⟨x, U, hU, by rw [if_neg c, if_neg c, if_pos c1]⟩
  · intro sort S x T hI c c1
    obtain ⟨U, hU, rfl⟩ := hI
    rw [ex_sx_ne (by omega)] at c1
    refine ⟨x, U, hU, ?_⟩
    rw [if_neg c, if_neg c, if_neg c1]
    show ex_sx _ 45 0 ((ex_sx U 44 0 (U.1 41 17)).1 41 18) = _
    rw [ex_sx_ne (by omega)]
  · intro sort S x T hI c
    have c := Classical.not_not.mp c
    obtain ⟨U, hU, rfl⟩ := hI
    refine ⟨x, U, hU, ?_⟩
    rw [if_pos c, if_pos c]
    show ex_sx _ 45 0 ((ex_sx U 44 0 1).1 41 16) = _
    rw [ex_sx_ne (by omega)]
  · intro sort S T hI c
    exact rf178_c hI ⟨fun _ => c, fun _ => rfl⟩
  · intro sort S T hI c
    exact rf178_c hI ⟨fun z => absurd z (by decide), fun z => absurd (Classical.not_not.mp c) z⟩
end
section
/-! A text hangs on its own places of the tape alone -/
section CG
variable {T U : Nat → Int32} {n : Nat}
theorem cg_rf (h : ∀ j, j < n → T j = U j) (p : Int32 → Bool) (k i : Nat) : tk_rf p T n k i = tk_rf p U n k i := by
  induction k generalizing i with
  | zero => rfl
  | succ k ih =>
    show (if i < n ∧ p (T i) = true then tk_rf p T n k (i + 1) else i) = (if i < n ∧ p (U i) = true then tk_rf p U n k (i + 1) else i)
    by_cases hi : i < n
    · rw [h i hi, ih]
    · rw [if_neg (fun z => hi z.1), if_neg (fun z => hi z.1)]
theorem cg_r (h : ∀ j, j < n → T j = U j) (p : Int32 → Bool) (i : Nat) : tk_r p T n i = tk_r p U n i := cg_rf h p _ i
theorem cg_s (h : ∀ j, j < n → T j = U j) (b : Nat) : tk_s T n b = tk_s U n b := cg_r h _ b
theorem cg_k (h : ∀ j, j < n → T j = U j) (b : Nat) : tk_k T n b = tk_k U n b := by
  unfold tk_k
  rw [cg_s h b]
  by_cases hs : tk_s U n b < n
  · rw [h _ hs, cg_r h tk_di]
  · rw [if_neg hs, if_neg hs]
theorem cg_e (h : ∀ j, j < n → T j = U j) (b : Nat) : tk_e T n b = tk_e U n b := by
  unfold tk_e
  rw [cg_s h b]
  by_cases hs : tk_s U n b < n
  · rw [h _ hs, cg_r h tk_di, cg_r h tk_le]
  · rw [if_neg hs, if_neg hs]
theorem cg_dv (h : ∀ j, j < n → T j = U j) {s i : Nat} (hs : s ≤ i) (hi : i ≤ n ∨ i = s) : tk_dv T s i = tk_dv U s i := by
  unfold tk_dv
  by_cases e : i = s
  · rw [if_pos e, if_pos e]
  · have i1 : i ≤ n := hi.resolve_right e
    rw [if_neg e, if_neg e, h s (by omega)]
    by_cases e2 : i = s + 1
    · rw [if_pos e2, if_pos e2]
    · rw [if_neg e2, if_neg e2, h (s + 1) (by omega)]
theorem cg_v (h : ∀ j, j < n → T j = U j) (b : Nat) : tk_v T n b = tk_v U n b := by
  unfold tk_v
  rw [cg_s h b, cg_r h tk_di]
  refine cg_dv h tk_r_ge ?_
  by_cases hb : tk_s U n b ≤ n
  · exact Or.inl (tk_r_le hb)
  · exact Or.inr (tk_rn (fun z => hb (by omega)))
theorem cg_sp (h : ∀ j, j < n → T j = U j) {B : Nat → Int32} {f l s e : Nat} (he : e ≤ n) : sp_b B T f l s e = sp_b B U f l s e := by
  unfold sp_b
  by_cases q : l - f = e - s
  · have w : ∀ i, i < l - f → T (s + i) = U (s + i) := fun i hi => h _ (by omega)
    have e2 : (List.range (l - f)).all (fun i => decide (B (f + i) = T (s + i))) = (List.range (l - f)).all (fun i => decide (B (f + i) = U (s + i))) := by
      rw [Bool.eq_iff_iff, List.all_eq_true, List.all_eq_true]
      constructor
      · intro z i hi
        have y := z i hi
        rw [w i (List.mem_range.mp hi)] at y; exact y
      · intro z i hi
        have y := z i hi
        rw [← w i (List.mem_range.mp hi)] at y; exact y
    rw [e2]
  · rw [decide_eq_false q]; rfl
theorem cg_ws (h : ∀ j, j < n → T j = U j) (t b : Nat) : pws t T n b = pws t U n b := by
  unfold pws
  rw [cg_k h b]
  by_cases k1 : tk_k U n b = 1
  · rw [if_pos k1, if_pos k1, cg_s h b, cg_e h b]
    have hb : b ≤ n := by
      have g := (tk_e_gt (T := U) (n := n) (b := b) (by omega)).2
      have g2 := tk_s_ge (T := U) (n := n) (b := b)
      omega
    have he : tk_e U n b ≤ n := tk_e_le hb
    exact congrArg (wa t) (funext fun f => funext fun l => cg_sp h he)
  · rw [if_neg k1, if_neg k1]
theorem cg_fw (h : ∀ j, j < n → T j = U j) (sort : Int32) (b : Nat) : pfw sort T n b = pfw sort U n b := by
  unfold pfw
  rw [cg_ws h]
theorem cg_nb (h : ∀ j, j < n → T j = U j) (b i : Nat) : nb T n b i = nb U n b i := by
  induction i with
  | zero => rfl
  | succ i ih =>
    show tk_e T n (nb T n b i) = tk_e U n (nb U n b i)
    rw [ih, cg_e h]
theorem cg_f (h : ∀ j, j < n → T j = U j) (c b : Nat) : pl_f T n c b = pl_f U n c b := by
  induction c generalizing b with
  | zero => rfl
  | succ c ih =>
    show (if tk_k T n b = 2 then pl_f T n c (tk_e T n b) else some (tk_s T n b)) = (if tk_k U n b = 2 then pl_f U n c (tk_e U n b) else some (tk_s U n b))
    rw [cg_k h, cg_e h, cg_s h, ih]
theorem cg_ls (h : ∀ j, j < n → T j = U j) (b : Nat) : pl_s T n b = pl_s U n b := by
  unfold pl_s
  rw [cg_k h, cg_s h]
theorem cg_t (h : ∀ j, j < n → T j = U j) (w b : Nat) : pl_t T n w b = pl_t U n w b := by
  unfold pl_t
  rw [cg_ws h, cg_s h, cg_e h, cg_ls h b, cg_ls h]
theorem cg_fail (h : ∀ j, j < n → T j = U j) (w b : Nat) : pl_fail T n w b = pl_fail U n w b := by
  unfold pl_fail
  rw [cg_f h, cg_nb h, cg_t h]
theorem cg_end (h : ∀ j, j < n → T j = U j) (w b : Nat) : pl_end T n w b = pl_end U n w b := by
  unfold pl_end
  rw [cg_nb h, cg_e h (nb U n b (pnl w)), cg_e h]
theorem cg_ll (h : ∀ j, j < n → T j = U j) (w b : Nat) : pll T n w b = pll U n w b := by
  funext j
  unfold pll
  rw [cg_nb h, cg_nb h b 3, cg_v h, cg_ws h]
theorem cg_an (h : ∀ j, j < n → T j = U j) (w b : Nat) (A : pA) (i : Nat) : pan T n w b A i = pan U n w b A i := by
  induction i with
  | zero => rfl
  | succ i ih =>
    show pnote (pan T n w b A i) (pbad w i (pll T n w b)) 2 (Int32.ofNat (tk_s T n (nb T n b i))) = pnote (pan U n w b A i) (pbad w i (pll U n w b)) 2 (Int32.ofNat (tk_s U n (nb U n b i)))
    rw [ih, cg_ll h, cg_nb h, cg_s h]
theorem cg_line (h : ∀ j, j < n → T j = U j) (w s b : Nat) (A : pA) : pline T n w s b A = pline U n w s b A := by
  unfold pline
  rw [cg_an h, cg_ll h]
theorem cg_run (h : ∀ j, j < n → T j = U j) (sort : Int32) (k b : Nat) (A : pA) : ps_run sort T n k b A = ps_run sort U n k b A := by
  induction k generalizing b A with
  | zero => rfl
  | succ k ih =>
    unfold ps_run
    rw [cg_k h, cg_fw h, cg_s h, cg_e h, cg_fail h, cg_end h, cg_line h, ih]
theorem cg_rrun (h : ∀ j, j < n → T j = U j) (k b : Nat) (A : pA) : pr_run T n k b A = pr_run U n k b A := by
  induction k generalizing b A with
  | zero => rfl
  | succ k ih =>
    have e : pr_one T n b A = pr_one U n b A := by
      unfold pr_one
      rw [cg_v h, cg_s h]
    unfold pr_run
    rw [cg_k h, cg_s h, cg_e h, e, ih]
theorem cg_text (h : ∀ j, j < n → T j = U j) (sort : Int32) : ps_text sort T n = ps_text sort U n := by
  unfold ps_text ps_all
  rw [cg_rrun h, cg_run h]
end CG
end
section
/-! WHAT EVERY RUN KEEPS, and how a safe run and an exact one meet -/
/-- methods that write no field that stays for ever, nor call one that does: all but the makers of the fixed objects, image and the law -/
def ex_okm (m : Nat) : Bool := !(Nat.beq m 0 || Nat.beq m 1 || Nat.beq m 2 || Nat.beq m 3 || Nat.beq m 4 || Nat.beq m 5 || Nat.beq m 6 || Nat.beq m 57 || Nat.beq m 170)
def ex_gi (c : Nat) (i : Instr) : Bool := match i with
  | .putfield ix => ex_free c ix
  | .invokevirtual ix => (match pm_at pm_CL c ix with | some x => ex_okm x.1 | none => true)
  | .invokespecial ix => (match pm_at pm_CL c ix with | some x => ex_okm x.1 | none => true)
  | .invokestatic ix => (match pm_at pm_CL c ix with | some x => ex_okm x.1 | none => true)
  | _ => true
def ex_gm (m : Nat) : Bool := !ex_okm m || (match pm_ms[m]?, pm_is[m]? with | some q, some l => l.all (fun x => ex_gi q.2.2.2.2 x.2.1) | _, _ => true)
set_option maxRecDepth 1000000 in
set_option maxHeartbeats 4000000 in
theorem ex_gall : (List.range 299).all ex_gm = true := by decide +kernel
set_option maxRecDepth 1000000 in
theorem ex_ms_lt {m : Nat} {q : pm_M} (h : pm_ms[m]? = some q) : m < 299 := (List.getElem?_eq_some_iff.mp h).1
theorem ex_good {mid pc L : Nat} {q : pm_M} {i : Instr} (ok : ex_okm mid = true) (hq : pm_ms[mid]? = some q) (hc : pm_code mid pc = some (i, L)) : ex_gi q.2.2.2.2 i = true := by
  have g := List.all_eq_true.mp ex_gall mid (List.mem_range.mpr (ex_ms_lt hq))
  unfold ex_gm at g
  unfold pm_code at hc
  split at hc
  · rename_i l hl
    rw [ok, hq, hl] at g
    exact List.all_eq_true.mp (show l.all (fun x => ex_gi q.2.2.2.2 x.2.1) = true from g) _ (pm_find_mem _ _ _ hc)
  · cases hc
theorem ex_good_call {c callee : Nat} {i : Instr} {st args rest : List Value} {h : pm_H} (g : ex_gi c i = true) (hc : pm_call c i st h = some (callee, args, rest)) : ex_okm callee = true := by
  unfold pm_call at hc
  obtain ⟨ix, c1, hc⟩ := Option.bind_eq_some_iff.mp hc
  obtain ⟨x, c2, hc⟩ := Option.bind_eq_some_iff.mp hc
  obtain ⟨q, c3, hc⟩ := Option.bind_eq_some_iff.mp hc
  have e : callee = x.1 := by
    dsimp only at hc
    generalize (if x.2.2 = 2 ∨ x.2.2 = 5 then x.2.1 else x.2.1 + 1) = kk0 at hc
    split at hc
    · cases hc; rfl
    · cases hc
  subst e
  unfold pm_cix at c1
  split at c1
  · cases c1
    have g1 : (match pm_at pm_CL c ix with | some x => ex_okm x.1 | none => true) = true := g
    rw [c2] at g1; exact g1
  · cases c1
    have g1 : (match pm_at pm_CL c ix with | some x => ex_okm x.1 | none => true) = true := g
    rw [c2] at g1; exact g1
  · cases c1
    have g1 : (match pm_at pm_CL c ix with | some x => ex_okm x.1 | none => true) = true := g
    rw [c2] at g1; exact g1
  · cases c1
theorem ex_step_ch {ini : Bool} {c pc : Nat} {i : Instr} {ls st : List Value} {h : pm_H} {z : Nat × List Value × List Value × pm_H} (hz : pm_step ini c i pc ls st h = some z) : z.2.2.2 = h ∨ ∃ w, pm_hb ini c i st h = some w ∧ z.2.2.2 = w.2 := by
  unfold pm_step at hz
  split at hz
  · cases hz; exact Or.inl rfl
  · split at hz
    · cases hz; exact Or.inl rfl
    · split at hz
      · cases hz; exact Or.inl rfl
      · split at hz
        · rename_i x hx
          cases hz
          rcases pm_hp_cases hx with e | ⟨s, _, e⟩
          · exact Or.inr ⟨x, e, rfl⟩
          · exact Or.inl (by rw [e])
        · cases hz
theorem ex_run_ok : ∀ (n d mid pc : Nat) (ls st : List Value) (h : pm_H) (x : Option Value × pm_H), ex_okm mid = true → pm_run n d mid pc ls st h = some x → ex_W h → ex_K h → ex_W x.2 ∧ ex_K x.2
  | 0, _, _, _, _, _, _, _, _, hz, _, _ => by cases hz
  | n + 1, d, mid, pc, ls, st, h, x, ok, hz, W, K => by
    have ih := ex_run_ok n
    unfold pm_run at hz
    split at hz
    · rename_i q i L hq hi
      have g := ex_good ok hq hi
      split at hz
      · cases hz; exact ⟨W, K⟩
      · split at hz
        · rename_i callee args rest hc
          split at hz
          · split at hz
            · split at hz
              · rename_i r2 h2 hr2
                obtain ⟨W2, K2⟩ := ih _ _ _ _ _ _ _ (ex_good_call g hc) hr2 W K
                exact ih _ _ _ _ _ _ _ ok hz W2 K2
              · cases hz
            · cases hz
          · cases hz
        · split at hz
          · rename_i pc_q ls_q st_q h_q hs
            have WK : ex_W h_q ∧ ex_K h_q := by
              rcases ex_step_ch hs with e | ⟨w, e, e2⟩
              · have e_q : h_q = h := e
                rw [e_q]; exact ⟨W, K⟩
              · have e_q : h_q = w.2 := e2
                rw [e_q]
                exact ⟨ex_W_ch (ex_hb_ch e) W, ex_K_ch (ex_hb_ch e) K (fun ix ei => by subst ei; exact g)⟩
            exact ih _ _ _ _ _ _ _ ok hz WK.1 WK.2
          · cases hz
    · cases hz
/-- a safe run of such a method keeps what stays for ever -/
theorem ex_inj {d mid pc : Nat} {ls st : List Value} {h : pm_H} {Q : Option Value → pm_H → Prop} (W : ex_W h) (K : ex_K h) (ok : ex_okm mid = true) (k : pm_R d mid pc ls st h (fun r h_q => ex_W h_q → ex_K h_q → Q r h_q)) : pm_R d mid pc ls st h Q := by
  obtain ⟨n, x, h1, h2⟩ := k
  obtain ⟨W1, K1⟩ := ex_run_ok _ _ _ _ _ _ _ _ ok h1 W K
  exact ⟨n, x, h1, h2 W1 K1⟩
/-- a safe run does what an exact one does -/
theorem ex_injP {d mid pc : Nat} {ls st : List Value} {h : pm_H} {Q : Option Value → pm_H → Prop} {P : Option Value → ex_S → Prop} (W : ex_W h) (K : ex_K h) (e : ∀ N, ex_P N d mid pc ls st (ex_V h) P) (k : pm_R d mid pc ls st h (fun r h_q => ex_W h_q → ex_K h_q → P r (ex_V h_q) → Q r h_q)) : pm_R d mid pc ls st h Q := by
  obtain ⟨n, x, h1, h2⟩ := k
  obtain ⟨W1, K1, p1⟩ := e n h rfl W K n (Nat.le_refl n) x h1
  exact ⟨n, x, h1, h2 W1 K1 p1⟩
end
section
/-- SilentTable$Told.<init>()V -/
def es2 (C : Nat → ex_S → ex_S → Prop) : Prop := ∀ (N d : Nat) (t : Nat) (S : ex_S), 72 ≤ t → ex_P N d 2 0 [.ref t] [] S (fun r S_q => r = none ∧ C t S S_q)
/-- SilentTable.feed(IIIII)I -/
def es7 (C : Int32 → Int32 → Int32 → Int32 → Int32 → ex_S → Int32 → ex_S → Prop) : Prop := ∀ (N d : Nat) (a0 : Int32) (a1 : Int32) (a2 : Int32) (a3 : Int32) (a4 : Int32) (S : ex_S), ex_P N d 7 0 [.ref 16, .int a0, .int a1, .int a2, .int a3, .int a4] [] S (fun r S_q => ∃ v, r = some (.int v) ∧ C a0 a1 a2 a3 a4 S v S_q)
/-- SilentTable$Told.append(I)V -/
def es8 (C : Int32 → ex_S → ex_S → Prop) : Prop := ∀ (N d : Nat) (a0 : Int32) (S : ex_S), ex_P N d 8 0 [.ref 17, .int a0, pm_no] [] S (fun r S_q => r = none ∧ C a0 S S_q)
/-- SilentTable.end(I)I -/
def es9 (C : Int32 → ex_S → Int32 → ex_S → Prop) : Prop := ∀ (N d : Nat) (a0 : Int32) (S : ex_S), ex_P N d 9 0 [.ref 16, .int a0] [] S (fun r S_q => ∃ v, r = some (.int v) ∧ C a0 S v S_q)
/-- SilentTable.text(II)I -/
def es10 (C : Int32 → Int32 → ex_S → Int32 → ex_S → Prop) : Prop := ∀ (N d : Nat) (a0 : Int32) (a1 : Int32) (S : ex_S), ex_P N d 10 0 [.ref 16, .int a0, .int a1, pm_no, pm_no, pm_no, pm_no] [] S (fun r S_q => ∃ v, r = some (.int v) ∧ C a0 a1 S v S_q)
/-- SilentTable.keepText(II)V -/
def es43 (C : Int32 → Int32 → ex_S → ex_S → Prop) : Prop := ∀ (N d : Nat) (a0 : Int32) (a1 : Int32) (S : ex_S), ex_P N d 43 0 [.ref 16, .int a0, .int a1] [] S (fun r S_q => r = none ∧ C a0 a1 S S_q)
/-- SilentTable$SignList.<init>(LSilentTable$TextReader;)V -/
def es44 (C : Nat → ex_S → ex_S → Prop) : Prop := ∀ (N d : Nat) (t : Nat) (S : ex_S), ex_P N d 44 0 [.ref t, .ref 25, pm_no, pm_no] [] S (fun r S_q => r = none ∧ C t S S_q)
/-- java/util/Arrays.copyOf([II)[I -/
def es45 (C : Nat → Int32 → ex_S → Option Nat → ex_S → Prop) : Prop := ∀ (N d : Nat) (a0 : Nat) (a1 : Int32) (S : ex_S), ex_P N d 45 0 [.ref a0, .int a1, pm_no] [] S (fun r S_q => ∃ v, r = some (va_rf v) ∧ C a0 a1 S v S_q)
/-- SilentTable$SignList.wear(I)Z -/
def es46 (C : Nat → Int32 → ex_S → Int32 → ex_S → Prop) : Prop := ∀ (N d : Nat) (t : Nat) (a0 : Int32) (S : ex_S), ex_P N d 46 0 [.ref t, .int a0, pm_no, pm_no, pm_no, pm_no, pm_no] [] S (fun r S_q => ∃ v, r = some (.int v) ∧ C t a0 S v S_q)
/-- SilentTable$SignRow.<init>(LSilentTable$TextReader;)V -/
def es47 (C : Nat → ex_S → ex_S → Prop) : Prop := ∀ (N d : Nat) (t : Nat) (S : ex_S), ex_P N d 47 0 [.ref t, .ref 25] [] S (fun r S_q => r = none ∧ C t S S_q)
/-- SilentTable$Meal.<init>(LSilentTable$TextReader;)V -/
def es48 (C : Nat → ex_S → ex_S → Prop) : Prop := ∀ (N d : Nat) (t : Nat) (S : ex_S), ex_P N d 48 0 [.ref t, .ref 25, pm_no] [] S (fun r S_q => r = none ∧ C t S S_q)
/-- java/util/Arrays.fill([IIII)V -/
def es49 (C : Option Nat → Int32 → Int32 → Int32 → ex_S → ex_S → Prop) : Prop := ∀ (N d : Nat) (a0 : Option Nat) (a1 : Int32) (a2 : Int32) (a3 : Int32) (S : ex_S), ex_P N d 49 0 [va_rf a0, .int a1, .int a2, .int a3, pm_no] [] S (fun r S_q => r = none ∧ C a0 a1 a2 a3 S S_q)
/-- java/util/Arrays.rangeCheck(III)V -/
def es50 (C : Int32 → Int32 → Int32 → ex_S → ex_S → Prop) : Prop := ∀ (N d : Nat) (a0 : Int32) (a1 : Int32) (a2 : Int32) (S : ex_S), ex_P N d 50 0 [.int a0, .int a1, .int a2] [] S (fun r S_q => r = none ∧ C a0 a1 a2 S S_q)
/-- SilentTable$Meal.isSign(I)Z -/
def es51 (C : Nat → Int32 → ex_S → Int32 → ex_S → Prop) : Prop := ∀ (N d : Nat) (t : Nat) (a0 : Int32) (S : ex_S), ex_P N d 51 0 [.ref t, .int a0] [] S (fun r S_q => ∃ v, r = some (.int v) ∧ C t a0 S v S_q)
/-- SilentTable$Meal.whoDoes(I)I -/
def es52 (C : Nat → Int32 → ex_S → Int32 → ex_S → Prop) : Prop := ∀ (N d : Nat) (t : Nat) (a0 : Int32) (S : ex_S), ex_P N d 52 0 [.ref t, .int a0] [] S (fun r S_q => ∃ v, r = some (.int v) ∧ C t a0 S v S_q)
/-- SilentTable$Meal.lookersAt(II)I -/
def es53 (C : Nat → Int32 → Int32 → ex_S → Int32 → ex_S → Prop) : Prop := ∀ (N d : Nat) (t : Nat) (a0 : Int32) (a1 : Int32) (S : ex_S), ex_P N d 53 0 [.ref t, .int a0, .int a1, pm_no, pm_no] [] S (fun r S_q => ∃ v, r = some (.int v) ∧ C t a0 a1 S v S_q)
/-- SilentTable$House.<init>(LSilentTable$TextReader;)V -/
def es54 (C : Nat → ex_S → ex_S → Prop) : Prop := ∀ (N d : Nat) (t : Nat) (S : ex_S), ex_P N d 54 0 [.ref t, .ref 25] [] S (fun r S_q => r = none ∧ C t S S_q)
/-- SilentTable.fault(I)I -/
def es55 (C : Int32 → ex_S → Int32 → ex_S → Prop) : Prop := ∀ (N d : Nat) (a0 : Int32) (S : ex_S), ex_P N d 55 0 [.ref 16, .int a0] [] S (fun r S_q => ∃ v, r = some (.int v) ∧ C a0 S v S_q)
/-- SilentTable.count(I)I -/
def es56 (C : Int32 → ex_S → Int32 → ex_S → Prop) : Prop := ∀ (N d : Nat) (a0 : Int32) (S : ex_S), ex_P N d 56 0 [.ref 16, .int a0] [] S (fun r S_q => ∃ v, r = some (.int v) ∧ C a0 S v S_q)
/-- SilentTable.image(I)Z -/
def es57 (C : Int32 → ex_S → Int32 → ex_S → Prop) : Prop := ∀ (N d : Nat) (a0 : Int32) (S : ex_S), ex_P N d 57 0 [.ref 16, .int a0] [] S (fun r S_q => ∃ v, r = some (.int v) ∧ C a0 S v S_q)
/-- SilentTable$Told.takeFrom(LSilentTable$Told;)V -/
def es58 (C : Nat → Nat → ex_S → ex_S → Prop) : Prop := ∀ (N d : Nat) (t : Nat) (a0 : Nat) (S : ex_S), ex_P N d 58 0 [.ref t, .ref a0] [] S (fun r S_q => r = none ∧ C t a0 S S_q)
/-- SilentTable$Told.takeTexts(LSilentTable$Told;)V -/
def es59 (C : Nat → Nat → ex_S → ex_S → Prop) : Prop := ∀ (N d : Nat) (t : Nat) (a0 : Nat) (S : ex_S), ex_P N d 59 0 [.ref t, .ref a0, pm_no] [] S (fun r S_q => r = none ∧ C t a0 S S_q)
/-- SilentTable.again(I)Z -/
def es60 (C : Int32 → ex_S → Int32 → ex_S → Prop) : Prop := ∀ (N d : Nat) (a0 : Int32) (S : ex_S), ex_P N d 60 0 [.ref 16, .int a0] [] S (fun r S_q => ∃ v, r = some (.int v) ∧ C a0 S v S_q)
/-- SilentTableModel.feed(IIIII)I -/
def es171 (C : Int32 → Int32 → Int32 → Int32 → Int32 → ex_S → Int32 → ex_S → Prop) : Prop := ∀ (N d : Nat) (a0 : Int32) (a1 : Int32) (a2 : Int32) (a3 : Int32) (a4 : Int32) (S : ex_S), ex_P N d 171 0 [.ref 41, .int a0, .int a1, .int a2, .int a3, .int a4] [] S (fun r S_q => ∃ v, r = some (.int v) ∧ C a0 a1 a2 a3 a4 S v S_q)
/-- SilentTableModel.four(I)V -/
def es172 (C : Int32 → ex_S → ex_S → Prop) : Prop := ∀ (N d : Nat) (a0 : Int32) (S : ex_S), ex_P N d 172 0 [.ref 41, .int a0, pm_no] [] S (fun r S_q => r = none ∧ C a0 S S_q)
/-- SilentTableModel.end(I)I -/
def es173 (C : Int32 → ex_S → Int32 → ex_S → Prop) : Prop := ∀ (N d : Nat) (a0 : Int32) (S : ex_S), ex_P N d 173 0 [.ref 41, .int a0] [] S (fun r S_q => ∃ v, r = some (.int v) ∧ C a0 S v S_q)
/-- SilentTableModel.text(II)I -/
def es175 (C : Int32 → Int32 → ex_S → Int32 → ex_S → Prop) : Prop := ∀ (N d : Nat) (a0 : Int32) (a1 : Int32) (S : ex_S), ex_P N d 175 0 [.ref 41, .int a0, .int a1, pm_no] [] S (fun r S_q => ∃ v, r = some (.int v) ∧ C a0 a1 S v S_q)
/-- SilentTableModel.store([III)V -/
def es193 (C : Nat → Int32 → Int32 → ex_S → ex_S → Prop) : Prop := ∀ (N d : Nat) (a0 : Nat) (a1 : Int32) (a2 : Int32) (S : ex_S), ex_P N d 193 0 [.ref 41, .ref a0, .int a1, .int a2, pm_no] [] S (fun r S_q => r = none ∧ C a0 a1 a2 S S_q)
/-- SilentTableModel.fault(I)I -/
def es194 (C : Int32 → ex_S → Int32 → ex_S → Prop) : Prop := ∀ (N d : Nat) (a0 : Int32) (S : ex_S), ex_P N d 194 0 [.ref 41, .int a0] [] S (fun r S_q => ∃ v, r = some (.int v) ∧ C a0 S v S_q)
/-- SilentTableModel.count(I)I -/
def es294 (C : Int32 → ex_S → Int32 → ex_S → Prop) : Prop := ∀ (N d : Nat) (a0 : Int32) (S : ex_S), ex_P N d 294 0 [.ref 41, .int a0] [] S (fun r S_q => ∃ v, r = some (.int v) ∧ C a0 S v S_q)
/-- SilentTableModel.image(I)Z -/
def es295 (C : Int32 → ex_S → Int32 → ex_S → Prop) : Prop := ∀ (N d : Nat) (a0 : Int32) (S : ex_S), ex_P N d 295 0 [.ref 41, .int a0] [] S (fun r S_q => ∃ v, r = some (.int v) ∧ C a0 S v S_q)
/-- SilentTableModel.copyAll(II)V -/
def es296 (C : Int32 → Int32 → ex_S → ex_S → Prop) : Prop := ∀ (N d : Nat) (a0 : Int32) (a1 : Int32) (S : ex_S), ex_P N d 296 0 [.ref 41, .int a0, .int a1, pm_no] [] S (fun r S_q => r = none ∧ C a0 a1 S S_q)
/-- SilentTableModel.copyRow([IIII)V -/
def es297 (C : Nat → Int32 → Int32 → Int32 → ex_S → ex_S → Prop) : Prop := ∀ (N d : Nat) (a0 : Nat) (a1 : Int32) (a2 : Int32) (a3 : Int32) (S : ex_S), ex_P N d 297 0 [.ref a0, .int a1, .int a2, .int a3, pm_no] [] S (fun r S_q => r = none ∧ C a0 a1 a2 a3 S S_q)
/-- SilentTableModel.again(I)Z -/
def es298 (C : Int32 → ex_S → Int32 → ex_S → Prop) : Prop := ∀ (N d : Nat) (a0 : Int32) (S : ex_S), ex_P N d 298 0 [.ref 41, .int a0] [] S (fun r S_q => ∃ v, r = some (.int v) ∧ C a0 S v S_q)
end
