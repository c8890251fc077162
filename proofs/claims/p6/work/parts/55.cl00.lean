set_option maxRecDepth 100000 in
set_option maxHeartbeats 4000000 in
/-- SilentTable$SignList.wear -/
theorem cl_c46 {d : Nat} {t rc tc : Nat} {gr gt fn : Nat → Int32} {h0 : pm_H} {h : pm_H} {Q : Option Value → pm_H → Prop} {a0 : Int32} (P : cl_LW t rc tc gr gt fn h0 h) (h72 : 72 ≤ t) (hrc : rc ≤ 10) (htc : tc ≤ 16) (hb : ∀ k, k < tc → sf_B 0 9 (gt (4 * k)) ∧ sf_B 0 5 (gt (4 * k + 1)) ∧ sf_B 0 49 (gt (4 * k + 2))) (Ba0 : sf_B 1 9 a0)  (K : ∀ (r : Int32) (h' : pm_H), cl_LW t rc tc gr gt fn h0 h' → Q (some (.int r)) h') : pm_R (d + 0) 46 0 [.ref t, .int a0, pm_no, pm_no, pm_no, pm_no, pm_no] [] h Q := by
  refine pm_R_op pm_M46 (pc' := 1) (st' := [.int 0]) rfl rfl rfl ?_
  refine pm_R_lo pm_M46 (pc' := 2) (ls' := [.ref t, .int a0, .int 0, pm_no, pm_no, pm_no, pm_no]) (st' := []) rfl rfl rfl ?_
  refine pm_R_op pm_M46 (pc' := 3) (st' := [.int 0]) rfl rfl rfl ?_
  refine pm_R_lo pm_M46 (pc' := 4) (ls' := [.ref t, .int a0, .int 0, .int 0, pm_no, pm_no, pm_no]) (st' := []) rfl rfl rfl ?_
  have L_990 : ∀ (N : Nat) (h_990 : pm_H) (x2_990 : Int32) (x3_990 : Int32) (g4_990 : Value) (g5_990 : Value) (g6_990 : Value), cl_LW t rc tc gr gt fn h0 h_990 → sf_B 0 1 x2_990 → sf_B 0 10 x3_990 → g4_990.category = 1 → g5_990.category = 1 → g6_990.category = 1 → (10 - x3_990.toInt).toNat = N → pm_R (d + 0) 46 4 [.ref t, .int a0, .int x2_990, .int x3_990, g4_990, g5_990, g6_990] [] h_990 Q := by
    intro N
    induction N using Nat.strongRecOn with
    | ind N ih_990 =>
      intro h_990 x2_990 x3_990 g4_990 g5_990 g6_990 P_990 Bx2_990 Bx3_990 Cg4_990 Cg5_990 Cg6_990 hN_990
      refine pm_R_lo pm_M46 (pc' := 5) rfl rfl rfl ?_
      refine pm_R_op pm_M46 (pc' := 7) (st' := [.int 10, .int x3_990]) rfl rfl rfl ?_
      refine pm_R_icmp pm_M46 (t := 101) (pc' := 10) rfl rfl rfl (fun c992 => ?_) (fun c992 => ?_)
      · have B993 : sf_B 10 10 x3_990 := sf_leR c992 sf_k10 Bx3_990
        refine pm_R_lo pm_M46 (pc' := 102) (pm_q46_1 (Nat.le_of_ble_eq_true rfl)) rfl rfl ?_
        exact pm_R_ret pm_M46 (r := some (.int x2_990)) (pm_q46_1 (Nat.le_of_ble_eq_true rfl)) (cl_retZ Bx2_990) (K x2_990 h_990 P_990)
      · have B994 : sf_B 0 9 x3_990 := sf_ltL (Int32.not_le.mp c992) Bx3_990 sf_k10
        refine pm_R_lo pm_M46 (pc' := 11) rfl rfl rfl ?_
        refine pm_R_get pm_M46 (pc' := 14) (v := .ref (t + 2)) rfl rfl P_990.2.2.2.1 (cl_geT0 h72) (cl_alT0 P_990.1 (by decide)) rfl rfl ?_
        refine pm_R_lo pm_M46 (pc' := 15) rfl rfl rfl ?_
        refine pm_R_op pm_M46 (pc' := 16) (st' := [.int 1, .int a0, .ref (t + 2)]) rfl rfl rfl ?_
        refine sf_R_isub pm_M46 (pc' := 17) rfl rfl Ba0 sf_k1 (by decide) (by decide) (fun z995 e996 B997 => ?_)
        refine pm_R_op pm_M46 (pc' := 19) (st' := [.int 10, .int z995, .ref (t + 2)]) rfl rfl rfl ?_
        refine sf_R_imul pm_M46 (pc' := 20) rfl rfl B997 sf_k10 (by decide) (by decide) (by decide) (fun z998 e999 B1000 => ?_)
        refine pm_R_lo pm_M46 (pc' := 21) rfl rfl rfl ?_
        refine sf_R_iadd pm_M46 (pc' := 22) rfl rfl B1000 B994 (by decide) (by decide) (fun z1001 e1002 B1003 => ?_)
        obtain ⟨f1004, e1005⟩ := P_990.2.2.2.2.2.1
        obtain ⟨z1006, ez1007⟩ : ∃ y, f1004 (Int32.toNatClampNeg z1001) = y := ⟨_, rfl⟩
        refine pm_R_iald pm_M46 (pc' := 23) (v := z1006) rfl e1005 (cl_alT (i := 2) P_990.1 (by decide)) (sf_in B1003 (by decide) (by decide)) ez1007 rfl ?_
        refine pm_R_lo pm_M46 (pc' := 25) (ls' := [.ref t, .int a0, .int x2_990, .int x3_990, .int z1006, g5_990, g6_990]) (st' := []) rfl rfl rfl ?_
        refine pm_R_lo pm_M46 (pc' := 27) rfl rfl rfl ?_
        refine pm_R_lo pm_M46 (pc' := 29) (ls' := [.ref t, .int a0, .int x2_990, .int x3_990, .int z1006, .int z1006, g6_990]) (st' := []) rfl rfl rfl ?_
        refine pm_R_op pm_M46 (pc' := 30) (st' := [.int 0]) rfl rfl rfl ?_
        refine pm_R_lo pm_M46 (pc' := 32) (ls' := [.ref t, .int a0, .int x2_990, .int x3_990, .int z1006, .int z1006, .int 0]) (st' := []) rfl rfl rfl ?_
        have L_1185 : ∀ (N : Nat) (x5_1185 : Int32) (x6_1185 : Int32), sf_B (-2147483648) 2147483647 x5_1185 → sf_B 0 10 x6_1185 → (10 - x6_1185.toInt).toNat = N → pm_R (d + 0) 46 32 [.ref t, .int a0, .int x2_990, .int x3_990, .int z1006, .int x5_1185, .int x6_1185] [] h_990 Q := by
          intro N
          induction N using Nat.strongRecOn with
          | ind N ih_1185 =>
            intro x5_1185 x6_1185 Bx5_1185 Bx6_1185 hN_1185
            refine pm_R_lo pm_M46 (pc' := 34) rfl rfl rfl ?_
            refine pm_R_op pm_M46 (pc' := 36) (st' := [.int 10, .int x6_1185]) rfl rfl rfl ?_
            refine pm_R_icmp pm_M46 (t := 67) (pc' := 39) rfl rfl rfl (fun c1186 => ?_) (fun c1186 => ?_)
            · have B1187 : sf_B 10 10 x6_1185 := sf_leR c1186 sf_k10 Bx6_1185
              refine pm_R_lo pm_M46 (pc' := 68) rfl rfl rfl ?_
              refine pm_R_get pm_M46 (pc' := 71) (v := .ref (t + 2)) rfl rfl P_990.2.2.2.1 (cl_geT0 h72) (cl_alT0 P_990.1 (by decide)) rfl rfl ?_
              refine pm_R_lo pm_M46 (pc' := 72) rfl rfl rfl ?_
              refine pm_R_op pm_M46 (pc' := 74) (st' := [.int 10, .int a0, .ref (t + 2)]) rfl rfl rfl ?_
              refine sf_R_imul pm_M46 (pc' := 75) rfl rfl Ba0 sf_k10 (by decide) (by decide) (by decide) (fun z1188 e1189 B1190 => ?_)
              refine pm_R_lo pm_M46 (pc' := 76) rfl rfl rfl ?_
              refine sf_R_iadd pm_M46 (pc' := 77) rfl rfl B1190 B994 (by decide) (by decide) (fun z1191 e1192 B1193 => ?_)
              refine pm_R_lo pm_M46 (pc' := 79) rfl rfl rfl ?_
              refine P_990.R2 pm_M46 h72 (pc' := 80) rfl e1005 (sf_in B1193 (by decide) (by decide)) rfl (fun h1194 P1195 => ?_)
              refine pm_R_lo pm_M46 (pc' := 81) rfl rfl rfl ?_
              refine pm_R_lo pm_M46 (pc' := 83) rfl rfl rfl ?_
              refine pm_R_lo pm_M46 (pc' := 85) rfl rfl rfl ?_
              refine pm_R_icmp pm_M46 (t := 92) (pc' := 88) rfl rfl rfl (fun c1196 => ?_) (fun c1196 => ?_)
              · refine pm_R_op pm_M46 (pc' := 93) (st' := [.int 0, .int x2_990]) rfl rfl rfl ?_
                refine sf_R_ior1 pm_M46 (pc' := 94) rfl rfl Bx2_990 (sf_weak sf_k0 (by decide) (by decide)) (fun z1197 B1199 => ?_)
                refine pm_R_lo pm_M46 (pc' := 95) (ls' := [.ref t, .int a0, .int z1197, .int x3_990, .int z1006, .int x5_1185, .int x6_1185]) (st' := []) rfl rfl rfl ?_
                refine sf_R_iinc pm_M46 (pc' := 98) (ls' := fun z => [.ref t, .int a0, .int z1197, .int z, .int z1006, .int x5_1185, .int x6_1185]) rfl B994 rfl (by decide) (by decide) (by decide) (fun _ => rfl) rfl (fun z1200 e1201 B1202 => ?_)
                show pm_R _ 46 98 [.ref t, .int a0, .int z1197, .int z1200, .int z1006, .int x5_1185, .int x6_1185] [] _ _
                refine pm_R_br pm_M46 (pc' := 4) rfl rfl ?_
                exact ih_990 _ (sf_up hN_990 e1201 B994 (by decide) (by decide)) h1194 z1197 z1200 (.int z1006) (.int x5_1185) (.int x6_1185) P1195 B1199 (sf_weak B1202 (by decide) (by decide)) rfl rfl rfl rfl
              · skip
                refine pm_R_op pm_M46 (pc' := 89) (st' := [.int 1, .int x2_990]) rfl rfl rfl ?_
                refine pm_R_br pm_M46 (pc' := 93) rfl rfl ?_
                refine sf_R_ior1 pm_M46 (pc' := 94) rfl rfl Bx2_990 (sf_weak sf_k1 (by decide) (by decide)) (fun z1203 B1205 => ?_)
                refine pm_R_lo pm_M46 (pc' := 95) (ls' := [.ref t, .int a0, .int z1203, .int x3_990, .int z1006, .int x5_1185, .int x6_1185]) (st' := []) rfl rfl rfl ?_
                refine sf_R_iinc pm_M46 (pc' := 98) (ls' := fun z => [.ref t, .int a0, .int z1203, .int z, .int z1006, .int x5_1185, .int x6_1185]) rfl B994 rfl (by decide) (by decide) (by decide) (fun _ => rfl) rfl (fun z1206 e1207 B1208 => ?_)
                show pm_R _ 46 98 [.ref t, .int a0, .int z1203, .int z1206, .int z1006, .int x5_1185, .int x6_1185] [] _ _
                refine pm_R_br pm_M46 (pc' := 4) rfl rfl ?_
                exact ih_990 _ (sf_up hN_990 e1207 B994 (by decide) (by decide)) h1194 z1203 z1206 (.int z1006) (.int x5_1185) (.int x6_1185) P1195 B1205 (sf_weak B1208 (by decide) (by decide)) rfl rfl rfl rfl
            · have B1209 : sf_B 0 9 x6_1185 := sf_ltL (Int32.not_le.mp c1186) Bx6_1185 sf_k10
              refine pm_R_lo pm_M46 (pc' := 41) rfl rfl rfl ?_
              refine pm_R_lo pm_M46 (pc' := 43) rfl rfl rfl ?_
              refine sf_R_iany pm_M46 (pc' := 44) (st := []) rfl rfl rfl (fun z1213 => ?_)
              refine pm_R_op pm_M46 (pc' := 45) (st' := [.int 1, .int z1213]) rfl rfl rfl ?_
              refine sf_R_iandE pm_M46 (pc' := 46) rfl rfl sf_k1 (by decide) (fun z1214 e1215 B1216 => ?_)
              refine pm_R_ifc pm_M46 (t := 61) (pc' := 49) rfl rfl rfl (fun c1217 => ?_) (fun c1217 => ?_)
              · have B1218 : sf_B 0 0 z1214 := sf_eqL c1217 sf_k0
                refine sf_R_iinc pm_M46 (pc' := 64) (ls' := fun z => [.ref t, .int a0, .int x2_990, .int x3_990, .int z1006, .int x5_1185, .int z]) rfl B1209 rfl (by decide) (by decide) (by decide) (fun _ => rfl) rfl (fun z1219 e1220 B1221 => ?_)
                show pm_R _ 46 64 [.ref t, .int a0, .int x2_990, .int x3_990, .int z1006, .int x5_1185, .int z1219] [] _ _
                refine pm_R_br pm_M46 (pc' := 32) rfl rfl ?_
                exact ih_1185 _ (sf_up hN_1185 e1220 B1209 (by decide) (by decide)) x5_1185 z1219 Bx5_1185 (sf_weak B1221 (by decide) (by decide)) rfl
              · have B1222 : sf_B 1 1 z1214 := sf_neL0 c1217 sf_k0 B1216
                refine pm_R_lo pm_M46 (pc' := 51) rfl rfl rfl ?_
                refine pm_R_lo pm_M46 (pc' := 52) rfl rfl rfl ?_
                refine pm_R_get pm_M46 (pc' := 55) (v := .ref (t + 5)) rfl rfl P_990.2.2.2.1 (cl_geT0 h72) (cl_alT0 P_990.1 (by decide)) rfl rfl ?_
                refine pm_R_lo pm_M46 (pc' := 57) rfl rfl rfl ?_
                obtain ⟨z1223, ez1224⟩ : ∃ y, fn (Int32.toNatClampNeg x6_1185) = y := ⟨_, rfl⟩
                refine pm_R_iald pm_M46 (pc' := 58) (v := z1223) rfl P_990.2.2.2.2.2.2.2.2 (cl_alT (i := 5) P_990.1 (by decide)) (sf_in B1209 (by decide) (by decide)) ez1224 rfl ?_
                refine sf_R_iany pm_M46 (pc' := 59) (st := []) rfl rfl rfl (fun z1229 => ?_)
                refine pm_R_lo pm_M46 (pc' := 61) (ls' := [.ref t, .int a0, .int x2_990, .int x3_990, .int z1006, .int z1229, .int x6_1185]) (st' := []) rfl rfl rfl ?_
                refine sf_R_iinc pm_M46 (pc' := 64) (ls' := fun z => [.ref t, .int a0, .int x2_990, .int x3_990, .int z1006, .int z1229, .int z]) rfl B1209 rfl (by decide) (by decide) (by decide) (fun _ => rfl) rfl (fun z1230 e1231 B1232 => ?_)
                show pm_R _ 46 64 [.ref t, .int a0, .int x2_990, .int x3_990, .int z1006, .int z1229, .int z1230] [] _ _
                refine pm_R_br pm_M46 (pc' := 32) rfl rfl ?_
                exact ih_1185 _ (sf_up hN_1185 e1231 B1209 (by decide) (by decide)) z1229 z1230 (sf_any z1229) (sf_weak B1232 (by decide) (by decide)) rfl
        exact L_1185 _ z1006 0 (sf_any z1006) (sf_weak sf_k0 (by decide) (by decide)) rfl
  exact L_990 _ h 0 0 (pm_no) (pm_no) (pm_no) P (sf_weak sf_k0 (by decide) (by decide)) (sf_weak sf_k0 (by decide) (by decide)) rfl rfl rfl rfl

set_option maxRecDepth 100000 in
set_option maxHeartbeats 4000000 in
/-- SilentTable$SignList.<init> -/
theorem cl_c44_l {d : Nat} {t rc tc : Nat} {gr gt fn : Nat → Int32} {h0 : pm_H} {h : pm_H} {Q : Option Value → pm_H → Prop}  (P : cl_LW t rc tc gr gt fn h0 h) (h72 : 72 ≤ t) (hrc : rc ≤ 10) (htc : tc ≤ 16) (hb : ∀ k, k < tc → sf_B 0 9 (gt (4 * k)) ∧ sf_B 0 5 (gt (4 * k + 1)) ∧ sf_B 0 49 (gt (4 * k + 2)))   (K : ∀ (x y : Int32) (h' : pm_H), cl_LW t rc tc gr gt fn h0 h' → sf_B 0 9 x → pm_R (d + 1) 44 191 [.ref t, .ref 25, .int x, .int y] [] h' Q) : pm_R (d + 1) 44 84 [.ref t, .ref 25, pm_no, pm_no] [] h Q := by
  refine pm_R_op pm_M44 (pc' := 85) (st' := [.int 0]) rfl rfl rfl ?_
  refine pm_R_lo pm_M44 (pc' := 86) (ls' := [.ref t, .ref 25, .int 0, pm_no]) (st' := []) rfl rfl rfl ?_
  have L_1879 : ∀ (N : Nat) (h_1879 : pm_H) (x2_1879 : Int32), cl_LW t rc tc gr gt fn h0 h_1879 → sf_B 0 16 x2_1879 → (16 - x2_1879.toInt).toNat = N → pm_R (d + 1) 44 86 [.ref t, .ref 25, .int x2_1879, pm_no] [] h_1879 Q := by
    intro N
    induction N using Nat.strongRecOn with
    | ind N ih_1879 =>
      intro h_1879 x2_1879 P_1879 Bx2_1879 hN_1879
      refine pm_R_lo pm_M44 (pc' := 87) rfl rfl rfl ?_
      refine pm_R_lo pm_M44 (pc' := 88) rfl rfl rfl ?_
      refine pm_R_get pm_M44 (pc' := 91) (v := .int (Int32.ofNat tc)) rfl rfl P_1879.2.2.2.1 (cl_geT0 h72) (cl_alT0 P_1879.1 (by decide)) rfl rfl ?_
      refine pm_R_icmp pm_M44 (t := 142) (pc' := 94) rfl rfl rfl (fun c1881 => ?_) (fun c1881 => ?_)
      · skip
        refine pm_R_op pm_M44 (pc' := 143) (st' := [.int 0]) (pm_q44_1 (Nat.le_of_ble_eq_true rfl)) rfl rfl ?_
        refine pm_R_lo pm_M44 (pc' := 144) (ls' := [.ref t, .ref 25, .int 0, pm_no]) (st' := []) (pm_q44_1 (Nat.le_of_ble_eq_true rfl)) rfl rfl ?_
        have L_2151 : ∀ (N : Nat) (h_2151 : pm_H) (x2_2151 : Int32), cl_LW t rc tc gr gt fn h0 h_2151 → sf_B 0 10 x2_2151 → (10 - x2_2151.toInt).toNat = N → pm_R (d + 1) 44 144 [.ref t, .ref 25, .int x2_2151, pm_no] [] h_2151 Q := by
          intro N
          induction N using Nat.strongRecOn with
          | ind N ih_2151 =>
            intro h_2151 x2_2151 P_2151 Bx2_2151 hN_2151
            refine pm_R_lo pm_M44 (pc' := 145) (pm_q44_1 (Nat.le_of_ble_eq_true rfl)) rfl rfl ?_
            refine pm_R_op pm_M44 (pc' := 147) (st' := [.int 10, .int x2_2151]) (pm_q44_1 (Nat.le_of_ble_eq_true rfl)) rfl rfl ?_
            refine pm_R_icmp pm_M44 (t := 165) (pc' := 150) (pm_q44_1 (Nat.le_of_ble_eq_true rfl)) rfl rfl (fun c2153 => ?_) (fun c2153 => ?_)
            · have B2154 : sf_B 10 10 x2_2151 := sf_leR c2153 sf_k10 Bx2_2151
              refine pm_R_op pm_M44 (pc' := 166) (st' := [.int 0]) (pm_q44_1 (Nat.le_of_ble_eq_true rfl)) rfl rfl ?_
              refine pm_R_lo pm_M44 (pc' := 167) (ls' := [.ref t, .ref 25, .int 0, pm_no]) (st' := []) (pm_q44_1 (Nat.le_of_ble_eq_true rfl)) rfl rfl ?_
              refine pm_R_op pm_M44 (pc' := 168) (st' := [.int 1]) (pm_q44_1 (Nat.le_of_ble_eq_true rfl)) rfl rfl ?_
              refine pm_R_lo pm_M44 (pc' := 169) (ls' := [.ref t, .ref 25, .int 0, .int 1]) (st' := []) (pm_q44_1 (Nat.le_of_ble_eq_true rfl)) rfl rfl ?_
              have L_2255 : ∀ (N : Nat) (h_2255 : pm_H) (x2_2255 : Int32) (x3_2255 : Int32), cl_LW t rc tc gr gt fn h0 h_2255 → sf_B 0 9 x2_2255 → sf_B 1 10 x3_2255 → (10 - x3_2255.toInt).toNat = N → pm_R (d + 1) 44 169 [.ref t, .ref 25, .int x2_2255, .int x3_2255] [] h_2255 Q := by
                intro N
                induction N using Nat.strongRecOn with
                | ind N ih_2255 =>
                  intro h_2255 x2_2255 x3_2255 P_2255 Bx2_2255 Bx3_2255 hN_2255
                  refine pm_R_lo pm_M44 (pc' := 170) (pm_q44_1 (Nat.le_of_ble_eq_true rfl)) rfl rfl ?_
                  refine pm_R_op pm_M44 (pc' := 172) (st' := [.int 9, .int x3_2255]) (pm_q44_1 (Nat.le_of_ble_eq_true rfl)) rfl rfl ?_
                  refine pm_R_icmp pm_M44 (t := 191) (pc' := 175) (pm_q44_1 (Nat.le_of_ble_eq_true rfl)) rfl rfl (fun c2257 => ?_) (fun c2257 => ?_)
                  · have B2258 : sf_B 10 10 x3_2255 := sf_ltR c2257 sf_k9 Bx3_2255
                    exact K x2_2255 x3_2255 h_2255 P_2255 Bx2_2255
                  · have B2259 : sf_B 1 9 x3_2255 := sf_leL (Int32.not_lt.mp c2257) Bx3_2255 sf_k9
                    refine pm_R_lo pm_M44 (pc' := 176) (pm_q44_1 (Nat.le_of_ble_eq_true rfl)) rfl rfl ?_
                    refine pm_R_lo pm_M44 (pc' := 177) (pm_q44_1 (Nat.le_of_ble_eq_true rfl)) rfl rfl ?_
                    refine pm_R_cv pm_M44 (pc' := 180) (a := t) (ra := [.int x3_2255]) (rest := []) (ls' := [.ref t, .int x3_2255, pm_no, pm_no, pm_no, pm_no, pm_no]) (pm_q44_1 (Nat.le_of_ble_eq_true rfl)) rfl (Or.inl rfl) pm_M46 P_2255.2.2.2.1 rfl (cl_geT0 h72) (cl_alT0 P_2255.1 (by decide)) rfl rfl (Nat.le_of_ble_eq_true rfl) rfl rfl ?_
                    refine cl_c46 (d := d + 0) P_2255 h72 hrc htc hb B2259 (fun r2260 h2262 P2263 => ?_)
                    show pm_R _ 44 180 [.ref t, .ref 25, .int x2_2255, .int x3_2255] [.int r2260] _ _
                    refine pm_R_ifc pm_M44 (t := 185) (pc' := 183) (pm_q44_1 (Nat.le_of_ble_eq_true rfl)) rfl rfl (fun c2264 => ?_) (fun c2264 => ?_)
                    · have B2265 : sf_B 0 0 r2260 := sf_eqL c2264 sf_k0
                      refine sf_R_iinc pm_M44 (pc' := 188) (ls' := fun z => [.ref t, .ref 25, .int x2_2255, .int z]) (pm_q44_1 (Nat.le_of_ble_eq_true rfl)) B2259 rfl (by decide) (by decide) (by decide) (fun _ => rfl) rfl (fun z2266 e2267 B2268 => ?_)
                      show pm_R _ 44 188 [.ref t, .ref 25, .int x2_2255, .int z2266] [] _ _
                      refine pm_R_br pm_M44 (pc' := 169) (pm_q44_1 (Nat.le_of_ble_eq_true rfl)) rfl ?_
                      exact ih_2255 _ (sf_up hN_2255 e2267 B2259 (by decide) (by decide)) h2262 x2_2255 z2266 P2263 Bx2_2255 (sf_weak B2268 (by decide) (by decide)) rfl
                    · skip
                      refine pm_R_lo pm_M44 (pc' := 184) (pm_q44_1 (Nat.le_of_ble_eq_true rfl)) rfl rfl ?_
                      refine pm_R_lo pm_M44 (pc' := 185) (ls' := [.ref t, .ref 25, .int x3_2255, .int x3_2255]) (st' := []) (pm_q44_1 (Nat.le_of_ble_eq_true rfl)) rfl rfl ?_
                      refine sf_R_iinc pm_M44 (pc' := 188) (ls' := fun z => [.ref t, .ref 25, .int x3_2255, .int z]) (pm_q44_1 (Nat.le_of_ble_eq_true rfl)) B2259 rfl (by decide) (by decide) (by decide) (fun _ => rfl) rfl (fun z2269 e2270 B2271 => ?_)
                      show pm_R _ 44 188 [.ref t, .ref 25, .int x3_2255, .int z2269] [] _ _
                      refine pm_R_br pm_M44 (pc' := 169) (pm_q44_1 (Nat.le_of_ble_eq_true rfl)) rfl ?_
                      exact ih_2255 _ (sf_up hN_2255 e2270 B2259 (by decide) (by decide)) h2262 x3_2255 z2269 P2263 (sf_weak B2259 (by decide) (by decide)) (sf_weak B2271 (by decide) (by decide)) rfl
              exact L_2255 _ h_2151 0 1 P_2151 (sf_weak sf_k0 (by decide) (by decide)) (sf_weak sf_k1 (by decide) (by decide)) rfl
            · have B2272 : sf_B 0 9 x2_2151 := sf_ltL (Int32.not_le.mp c2153) Bx2_2151 sf_k10
              refine pm_R_lo pm_M44 (pc' := 151) (pm_q44_1 (Nat.le_of_ble_eq_true rfl)) rfl rfl ?_
              refine pm_R_get pm_M44 (pc' := 154) (v := .ref (t + 2)) (pm_q44_1 (Nat.le_of_ble_eq_true rfl)) rfl P_2151.2.2.2.1 (cl_geT0 h72) (cl_alT0 P_2151.1 (by decide)) rfl rfl ?_
              refine pm_R_lo pm_M44 (pc' := 155) (pm_q44_1 (Nat.le_of_ble_eq_true rfl)) rfl rfl ?_
              refine pm_R_op pm_M44 (pc' := 156) (st' := [.int 1, .int x2_2151, .ref (t + 2)]) (pm_q44_1 (Nat.le_of_ble_eq_true rfl)) rfl rfl ?_
              refine pm_R_lo pm_M44 (pc' := 157) (pm_q44_1 (Nat.le_of_ble_eq_true rfl)) rfl rfl ?_
              refine sf_R_shl10 pm_M44 (pc' := 158) (pm_q44_1 (Nat.le_of_ble_eq_true rfl)) rfl B2272 (fun z2273 B2275 => ?_)
              obtain ⟨f2276, e2277⟩ := P_2151.2.2.2.2.2.1
              refine P_2151.R2 pm_M44 h72 (pc' := 159) (pm_q44_1 (Nat.le_of_ble_eq_true rfl)) e2277 (sf_in B2272 (by decide) (by decide)) rfl (fun h2278 P2279 => ?_)
              refine sf_R_iinc pm_M44 (pc' := 162) (ls' := fun z => [.ref t, .ref 25, .int z, pm_no]) (pm_q44_1 (Nat.le_of_ble_eq_true rfl)) B2272 rfl (by decide) (by decide) (by decide) (fun _ => rfl) rfl (fun z2280 e2281 B2282 => ?_)
              show pm_R _ 44 162 [.ref t, .ref 25, .int z2280, pm_no] [] _ _
              refine pm_R_br pm_M44 (pc' := 144) (pm_q44_1 (Nat.le_of_ble_eq_true rfl)) rfl ?_
              exact ih_2151 _ (sf_up hN_2151 e2281 B2272 (by decide) (by decide)) h2278 z2280 P2279 (sf_weak B2282 (by decide) (by decide)) rfl
        exact L_2151 _ h_1879 0 P_1879 (sf_weak sf_k0 (by decide) (by decide)) rfl
      · have B2283 : sf_B 0 15 x2_1879 := sf_ltL (Int32.not_le.mp c1881) Bx2_1879 (sf_ofB htc (by decide))
        have B2284 : sf_B 1 16 (Int32.ofNat tc) := sf_ltR (Int32.not_le.mp c1881) Bx2_1879 (sf_ofB htc (by decide))
        refine pm_R_lo pm_M44 (pc' := 95) rfl rfl rfl ?_
        refine pm_R_get pm_M44 (pc' := 98) (v := .ref (t + 1)) rfl rfl P_1879.2.2.2.1 (cl_geT0 h72) (cl_alT0 P_1879.1 (by decide)) rfl rfl ?_
        refine pm_R_lo pm_M44 (pc' := 99) rfl rfl rfl ?_
        refine pm_R_get pm_M44 (pc' := 102) (v := .ref (t + 4)) rfl rfl P_1879.2.2.2.1 (cl_geT0 h72) (cl_alT0 P_1879.1 (by decide)) rfl rfl ?_
        refine pm_R_lo pm_M44 (pc' := 103) rfl rfl rfl ?_
        refine pm_R_op pm_M44 (pc' := 104) (st' := [.int 4, .int x2_1879, .ref (t + 4), .ref (t + 1)]) rfl rfl rfl ?_
        refine sf_R_imul pm_M44 (pc' := 105) rfl rfl B2283 sf_k4 (by decide) (by decide) (by decide) (fun z2285 e2286 B2287 => ?_)
        have q2288 := cl_in4 (n := tc) (Nat.le_trans htc (by decide)) (Int32.not_le.mp c1881) (cl_aux5 _ _ e2286) B2283 (by decide) (by decide)
        obtain ⟨z2289, ez2290⟩ : ∃ y, gt (Int32.toNatClampNeg z2285) = y := ⟨_, rfl⟩
        have B2291 : sf_B 0 9 z2289 := ez2290 ▸ q2288.2.2 ▸ (hb _ q2288.2.1).1
        refine pm_R_iald pm_M44 (pc' := 106) (v := z2289) rfl P_1879.2.2.2.2.2.2.2.1 (cl_alT (i := 4) P_1879.1 (by decide)) q2288.1 ez2290 rfl ?_
        refine pm_R_op pm_M44 (pc' := 108) (st' := [.int 6, .int z2289, .ref (t + 1)]) rfl rfl rfl ?_
        refine sf_R_imul pm_M44 (pc' := 109) rfl rfl B2291 sf_k6 (by decide) (by decide) (by decide) (fun z2292 e2293 B2294 => ?_)
        refine pm_R_lo pm_M44 (pc' := 110) rfl rfl rfl ?_
        refine pm_R_get pm_M44 (pc' := 113) (v := .ref (t + 4)) rfl rfl P_1879.2.2.2.1 (cl_geT0 h72) (cl_alT0 P_1879.1 (by decide)) rfl rfl ?_
        refine pm_R_lo pm_M44 (pc' := 114) (pm_q44_1 (Nat.le_of_ble_eq_true rfl)) rfl rfl ?_
        refine pm_R_op pm_M44 (pc' := 115) (st' := [.int 4, .int x2_1879, .ref (t + 4), .int z2292, .ref (t + 1)]) (pm_q44_1 (Nat.le_of_ble_eq_true rfl)) rfl rfl ?_
        refine sf_R_imulV pm_M44 (pc' := 116) (pm_q44_1 (Nat.le_of_ble_eq_true rfl)) rfl B2283 sf_k4 (by decide) (by decide) (by decide) e2286 ?_
        refine pm_R_op pm_M44 (pc' := 117) (st' := [.int 1, .int z2285, .ref (t + 4), .int z2292, .ref (t + 1)]) (pm_q44_1 (Nat.le_of_ble_eq_true rfl)) rfl rfl ?_
        refine sf_R_iadd pm_M44 (pc' := 118) (pm_q44_1 (Nat.le_of_ble_eq_true rfl)) rfl B2287 sf_k1 (by decide) (by decide) (fun z2295 e2296 B2297 => ?_)
        have q2298 := cl_in4 (n := tc) (Nat.le_trans htc (by decide)) (Int32.not_le.mp c1881) (cl_aux7 _ _ _ e2286 e2296) B2283 (by decide) (by decide)
        obtain ⟨z2299, ez2300⟩ : ∃ y, gt (Int32.toNatClampNeg z2295) = y := ⟨_, rfl⟩
        have B2301 : sf_B 0 5 z2299 := ez2300 ▸ q2298.2.2 ▸ (hb _ q2298.2.1).2.1
        refine pm_R_iald pm_M44 (pc' := 119) (v := z2299) (pm_q44_1 (Nat.le_of_ble_eq_true rfl)) P_1879.2.2.2.2.2.2.2.1 (cl_alT (i := 4) P_1879.1 (by decide)) q2298.1 ez2300 rfl ?_
        refine sf_R_iadd pm_M44 (pc' := 120) (pm_q44_1 (Nat.le_of_ble_eq_true rfl)) rfl B2294 B2301 (by decide) (by decide) (fun z2302 e2303 B2304 => ?_)
        refine pm_R_op pm_M44 (pc' := 121) (st' := [.int z2302, .ref (t + 1), .int z2302, .ref (t + 1)]) (pm_q44_1 (Nat.le_of_ble_eq_true rfl)) rfl rfl ?_
        obtain ⟨f2305, e2306⟩ := P_1879.2.2.2.2.1
        obtain ⟨z2307, ez2308⟩ : ∃ y, f2305 (Int32.toNatClampNeg z2302) = y := ⟨_, rfl⟩
        refine pm_R_lald pm_M44 (pc' := 122) (v := z2307) (pm_q44_1 (Nat.le_of_ble_eq_true rfl)) e2306 (cl_geT (i := 1) h72) (cl_alT (i := 1) P_1879.1 (by decide)) (sf_in B2304 (by decide) (by decide)) ez2308 rfl ?_
        refine pm_R_op pm_M44 (pc' := 123) (st' := [.long 1, .long z2307, .int z2302, .ref (t + 1)]) (pm_q44_1 (Nat.le_of_ble_eq_true rfl)) rfl rfl ?_
        refine pm_R_lo pm_M44 (pc' := 124) (pm_q44_1 (Nat.le_of_ble_eq_true rfl)) rfl rfl ?_
        refine pm_R_get pm_M44 (pc' := 127) (v := .ref (t + 4)) (pm_q44_1 (Nat.le_of_ble_eq_true rfl)) rfl P_1879.2.2.2.1 (cl_geT0 h72) (cl_alT0 P_1879.1 (by decide)) rfl rfl ?_
        refine pm_R_lo pm_M44 (pc' := 128) (pm_q44_1 (Nat.le_of_ble_eq_true rfl)) rfl rfl ?_
        refine pm_R_op pm_M44 (pc' := 129) (st' := [.int 4, .int x2_1879, .ref (t + 4), .long 1, .long z2307, .int z2302, .ref (t + 1)]) (pm_q44_1 (Nat.le_of_ble_eq_true rfl)) rfl rfl ?_
        refine sf_R_imulV pm_M44 (pc' := 130) (pm_q44_1 (Nat.le_of_ble_eq_true rfl)) rfl B2283 sf_k4 (by decide) (by decide) (by decide) e2286 ?_
        refine pm_R_op pm_M44 (pc' := 131) (st' := [.int 2, .int z2285, .ref (t + 4), .long 1, .long z2307, .int z2302, .ref (t + 1)]) (pm_q44_1 (Nat.le_of_ble_eq_true rfl)) rfl rfl ?_
        refine sf_R_iadd pm_M44 (pc' := 132) (pm_q44_1 (Nat.le_of_ble_eq_true rfl)) rfl B2287 sf_k2 (by decide) (by decide) (fun z2310 e2311 B2312 => ?_)
        have q2313 := cl_in4 (n := tc) (Nat.le_trans htc (by decide)) (Int32.not_le.mp c1881) (cl_aux6 _ _ _ e2286 e2311) B2283 (by decide) (by decide)
        obtain ⟨z2314, ez2315⟩ : ∃ y, gt (Int32.toNatClampNeg z2310) = y := ⟨_, rfl⟩
        have B2316 : sf_B 0 49 z2314 := ez2315 ▸ q2313.2.2 ▸ (hb _ q2313.2.1).2.2
        refine pm_R_iald pm_M44 (pc' := 133) (v := z2314) (pm_q44_1 (Nat.le_of_ble_eq_true rfl)) P_1879.2.2.2.2.2.2.2.1 (cl_alT (i := 4) P_1879.1 (by decide)) q2313.1 ez2315 rfl ?_
        refine sf_R_lany pm_M44 (pc' := 134) (st := [.long z2307, .int z2302, .ref (t + 1)]) (pm_q44_1 (Nat.le_of_ble_eq_true rfl)) rfl rfl (fun z2317 => ?_)
        refine sf_R_lany pm_M44 (pc' := 135) (st := [.int z2302, .ref (t + 1)]) (pm_q44_1 (Nat.le_of_ble_eq_true rfl)) rfl rfl (fun z2318 => ?_)
        refine P_1879.R1 pm_M44 h72 (pc' := 136) (pm_q44_1 (Nat.le_of_ble_eq_true rfl)) e2306 (sf_in B2304 (by decide) (by decide)) rfl (fun h2319 P2320 => ?_)
        refine sf_R_iinc pm_M44 (pc' := 139) (ls' := fun z => [.ref t, .ref 25, .int z, pm_no]) (pm_q44_1 (Nat.le_of_ble_eq_true rfl)) B2283 rfl (by decide) (by decide) (by decide) (fun _ => rfl) rfl (fun z2321 e2322 B2323 => ?_)
        show pm_R _ 44 139 [.ref t, .ref 25, .int z2321, pm_no] [] _ _
        refine pm_R_br pm_M44 (pc' := 86) (pm_q44_1 (Nat.le_of_ble_eq_true rfl)) rfl ?_
        exact ih_1879 _ (sf_up hN_1879 e2322 B2283 (by decide) (by decide)) h2319 z2321 P2320 (sf_weak B2323 (by decide) (by decide)) rfl
  exact L_1879 _ h 0 P (sf_weak sf_k0 (by decide) (by decide)) rfl

set_option maxRecDepth 100000 in
set_option maxHeartbeats 4000000 in
/-- java/util/Arrays.fill -/
theorem cl_c49_m {d : Nat} {t s n : Nat} {fd : Nat → Int32} {h0 : pm_H} {h : pm_H} {Q : Option Value → pm_H → Prop} {a3 : Int32} (P : cl_MW t s n fd h0 h) (h72 : 72 ≤ t) (hs1 : 1 ≤ s) (hs6 : s ≤ 6) (hn50 : n ≤ 50) (hb : ∀ k, k < n → sf_B 0 2 (fd (4 * k)) ∧ (0 ≤ (fd (4 * k + 1)).toInt ∧ (fd (4 * k + 1)).toInt < s) ∧ sf_B (-1) 9 (fd (4 * k + 2)) ∧ ((fd (4 * k)).toInt = 2 → 0 ≤ (fd (4 * k + 2)).toInt))   (K : ∀ (h' : pm_H), cl_MW t s n fd h0 h' → Q none h') : pm_R (d + 1) 49 0 [.ref (t + 2), .int 0, .int (Int32.ofNat s), .int a3, pm_no] [] h Q := by
  refine pm_R_lo pm_M49 (pc' := 1) rfl rfl rfl ?_
  obtain ⟨f1, e2⟩ := P.2.2.2.2.2.1
  refine pm_R_alen pm_M49 (pc' := 2) (v := (Int32.ofNat ((n + 1) * s))) rfl e2 (cl_geT (i := 2) h72) (cl_alT (i := 2) P.1 (by decide)) (by decide) rfl rfl ?_
  refine pm_R_lo pm_M49 (pc' := 3) rfl rfl rfl ?_
  refine pm_R_lo pm_M49 (pc' := 4) rfl rfl rfl ?_
  refine pm_R_cs pm_M49 (pc' := 7) (ra := [.int (Int32.ofNat s), .int 0, .int (Int32.ofNat ((n + 1) * s))]) (rest := []) (ls' := [.int (Int32.ofNat ((n + 1) * s)), .int 0, .int (Int32.ofNat s)]) rfl rfl (Or.inl rfl) pm_M50 rfl rfl (Nat.le_of_ble_eq_true rfl) rfl rfl ?_
  refine pm_R_lo pm_M50 (pc' := 1) rfl rfl rfl ?_
  refine pm_R_lo pm_M50 (pc' := 2) rfl rfl rfl ?_
  refine pm_R_icmp pm_M50 (t := 46) (pc' := 5) rfl rfl rfl (fun c3 => ?_) (fun c3 => absurd (Int32.not_le.mp c3) (sf_nlt (sf_ofB1 hs6 hs1 (by decide)) sf_k0 (by decide)))
  skip
  refine pm_R_lo pm_M50 (pc' := 47) rfl rfl rfl ?_
  refine pm_R_br pm_M50 (pc' := 59) (st' := []) rfl rfl ?_
  refine pm_R_lo pm_M50 (pc' := 60) rfl rfl rfl ?_
  refine pm_R_lo pm_M50 (pc' := 61) rfl rfl rfl ?_
  refine pm_R_icmp pm_M50 (t := 73) (pc' := 64) rfl rfl rfl (fun c4 => ?_) (fun c4 => absurd (Int32.not_le.mp c4) (Int32.not_lt.mpr (cl_leL hs6 hn50)))
  have B5 : sf_B 1 306 (Int32.ofNat ((n + 1) * s)) := sf_leR c4 (sf_ofB1 hs6 hs1 (by decide)) (cl_lenB hs6 hn50)
  refine pm_R_ret pm_M50 (r := none) rfl rfl ?_
  show pm_R _ 49 7 [.ref (t + 2), .int 0, .int (Int32.ofNat s), .int a3, pm_no] [] _ _
  refine pm_R_lo pm_M49 (pc' := 8) rfl rfl rfl ?_
  refine pm_R_lo pm_M49 (pc' := 10) (ls' := [.ref (t + 2), .int 0, .int (Int32.ofNat s), .int a3, .int 0]) (st' := []) rfl rfl rfl ?_
  have L_76 : ∀ (N : Nat) (h_76 : pm_H) (x4_76 : Int32), cl_MW t s n fd h0 h_76 → sf_B 0 6 x4_76 → (6 - x4_76.toInt).toNat = N → pm_R (d + 1) 49 10 [.ref (t + 2), .int 0, .int (Int32.ofNat s), .int a3, .int x4_76] [] h_76 Q := by
    intro N
    induction N using Nat.strongRecOn with
    | ind N ih_76 =>
      intro h_76 x4_76 P_76 Bx4_76 hN_76
      refine pm_R_lo pm_M49 (pc' := 12) rfl rfl rfl ?_
      refine pm_R_lo pm_M49 (pc' := 13) rfl rfl rfl ?_
      refine pm_R_icmp pm_M49 (t := 27) (pc' := 16) rfl rfl rfl (fun c78 => ?_) (fun c78 => ?_)
      · have B79 : sf_B 1 6 x4_76 := sf_leR c78 (sf_ofB1 hs6 hs1 (by decide)) Bx4_76
        exact pm_R_ret pm_M49 (r := none) rfl rfl (K h_76 P_76)
      · have B80 : sf_B 0 5 x4_76 := sf_ltL (Int32.not_le.mp c78) Bx4_76 (sf_ofB1 hs6 hs1 (by decide))
        refine pm_R_lo pm_M49 (pc' := 17) rfl rfl rfl ?_
        refine pm_R_lo pm_M49 (pc' := 19) rfl rfl rfl ?_
        refine pm_R_lo pm_M49 (pc' := 20) rfl rfl rfl ?_
        obtain ⟨f81, e82⟩ := P_76.2.2.2.2.2.1
        refine P_76.R2 pm_M49 h72 (pc' := 21) rfl e82 (cl_inS hs6 B80 (Int32.not_le.mp c78)) rfl (fun h83 P84 => ?_)
        refine sf_R_iinc pm_M49 (pc' := 24) (ls' := fun z => [.ref (t + 2), .int 0, .int (Int32.ofNat s), .int a3, .int z]) rfl B80 rfl (by decide) (by decide) (by decide) (fun _ => rfl) rfl (fun z85 e86 B87 => ?_)
        show pm_R _ 49 24 [.ref (t + 2), .int 0, .int (Int32.ofNat s), .int a3, .int z85] [] _ _
        refine pm_R_br pm_M49 (pc' := 10) rfl rfl ?_
        exact ih_76 _ (sf_up hN_76 e86 B80 (by decide) (by decide)) h83 z85 P84 (sf_weak B87 (by decide) (by decide)) rfl
  exact L_76 _ h 0 P (sf_weak sf_k0 (by decide) (by decide)) rfl

set_option maxRecDepth 100000 in
set_option maxHeartbeats 4000000 in
/-- SilentTable$Meal.lookersAt -/
theorem cl_c53 {d : Nat} {t s n : Nat} {fd : Nat → Int32} {h0 : pm_H} {h : pm_H} {Q : Option Value → pm_H → Prop} {a0 : Int32} {a1 : Int32} (P : cl_MW t s n fd h0 h) (h72 : 72 ≤ t) (hs1 : 1 ≤ s) (hs6 : s ≤ 6) (hn50 : n ≤ 50) (hb : ∀ k, k < n → sf_B 0 2 (fd (4 * k)) ∧ (0 ≤ (fd (4 * k + 1)).toInt ∧ (fd (4 * k + 1)).toInt < s) ∧ sf_B (-1) 9 (fd (4 * k + 2)) ∧ ((fd (4 * k)).toInt = 2 → 0 ≤ (fd (4 * k + 2)).toInt)) (Ba1 : sf_B 0 49 a1) (Q1 : a1 ≤ Int32.ofNat n) (K : ∀ (r : Int32) (h' : pm_H), cl_MW t s n fd h0 h' → sf_B 0 1023 r → Q (some (.int r)) h') : pm_R (d + 0) 53 0 [.ref t, .int a0, .int a1, pm_no, pm_no] [] h Q := by
  refine pm_R_op pm_M53 (pc' := 1) (st' := [.int 0]) rfl rfl rfl ?_
  refine pm_R_lo pm_M53 (pc' := 2) (ls' := [.ref t, .int a0, .int a1, .int 0, pm_no]) (st' := []) rfl rfl rfl ?_
  refine pm_R_op pm_M53 (pc' := 3) (st' := [.int 0]) rfl rfl rfl ?_
  refine pm_R_lo pm_M53 (pc' := 5) (ls' := [.ref t, .int a0, .int a1, .int 0, .int 0]) (st' := []) rfl rfl rfl ?_
  have L_173 : ∀ (N : Nat) (x3_173 : Int32) (x4_173 : Int32), sf_B 0 1023 x3_173 → sf_B 0 6 x4_173 → (6 - x4_173.toInt).toNat = N → pm_R (d + 0) 53 5 [.ref t, .int a0, .int a1, .int x3_173, .int x4_173] [] h Q := by
    intro N
    induction N using Nat.strongRecOn with
    | ind N ih_173 =>
      intro x3_173 x4_173 Bx3_173 Bx4_173 hN_173
      refine pm_R_lo pm_M53 (pc' := 7) rfl rfl rfl ?_
      refine pm_R_lo pm_M53 (pc' := 8) rfl rfl rfl ?_
      refine pm_R_get pm_M53 (pc' := 11) (v := .int (Int32.ofNat s)) rfl rfl P.2.2.2.1 (cl_geT0 h72) (cl_alT0 P.1 (by decide)) rfl rfl ?_
      refine pm_R_icmp pm_M53 (t := 45) (pc' := 14) rfl rfl rfl (fun c174 => ?_) (fun c174 => ?_)
      · have B175 : sf_B 1 6 x4_173 := sf_leR c174 (sf_ofB1 hs6 hs1 (by decide)) Bx4_173
        refine pm_R_lo pm_M53 (pc' := 46) rfl rfl rfl ?_
        exact pm_R_ret pm_M53 (r := some (.int x3_173)) rfl (pm_ret_i _) (K x3_173 h P Bx3_173)
      · have B176 : sf_B 0 5 x4_173 := sf_ltL (Int32.not_le.mp c174) Bx4_173 (sf_ofB1 hs6 hs1 (by decide))
        refine pm_R_lo pm_M53 (pc' := 15) rfl rfl rfl ?_
        refine pm_R_get pm_M53 (pc' := 18) (v := .ref (t + 2)) rfl rfl P.2.2.2.1 (cl_geT0 h72) (cl_alT0 P.1 (by decide)) rfl rfl ?_
        refine pm_R_lo pm_M53 (pc' := 19) rfl rfl rfl ?_
        refine pm_R_lo pm_M53 (pc' := 20) rfl rfl rfl ?_
        refine pm_R_get pm_M53 (pc' := 23) (v := .int (Int32.ofNat s)) rfl rfl P.2.2.2.1 (cl_geT0 h72) (cl_alT0 P.1 (by decide)) rfl rfl ?_
        refine sf_R_imul pm_M53 (pc' := 24) rfl rfl Ba1 (sf_ofB1 hs6 hs1 (by decide)) (by decide) (by decide) (by decide) (fun z177 e178 B179 => ?_)
        refine pm_R_lo pm_M53 (pc' := 26) rfl rfl rfl ?_
        refine sf_R_iadd pm_M53 (pc' := 27) rfl rfl B179 B176 (by decide) (by decide) (fun z180 e181 B182 => ?_)
        obtain ⟨f183, e184⟩ := P.2.2.2.2.2.1
        obtain ⟨z185, ez186⟩ : ∃ y, f183 (Int32.toNatClampNeg z180) = y := ⟨_, rfl⟩
        refine pm_R_iald pm_M53 (pc' := 28) (v := z185) rfl e184 (cl_alT (i := 2) P.1 (by decide)) (cl_inG (s := s) (n := n) hs6 hn50 e181 e178 Q1 (cl_ltN hs6 (Int32.not_le.mp c174)) Ba1 B176 (by decide) (by decide)) ez186 rfl ?_
        refine pm_R_lo pm_M53 (pc' := 29) rfl rfl rfl ?_
        refine pm_R_icmp pm_M53 (t := 39) (pc' := 32) rfl rfl rfl (fun c188 => ?_) (fun c188 => ?_)
        · skip
          refine sf_R_iinc pm_M53 (pc' := 42) (ls' := fun z => [.ref t, .int a0, .int a1, .int x3_173, .int z]) rfl B176 rfl (by decide) (by decide) (by decide) (fun _ => rfl) rfl (fun z189 e190 B191 => ?_)
          show pm_R _ 53 42 [.ref t, .int a0, .int a1, .int x3_173, .int z189] [] _ _
          refine pm_R_br pm_M53 (pc' := 5) rfl rfl ?_
          exact ih_173 _ (sf_up hN_173 e190 B176 (by decide) (by decide)) x3_173 z189 Bx3_173 (sf_weak B191 (by decide) (by decide)) rfl
        · refine pm_R_lo pm_M53 (pc' := 33) rfl rfl rfl ?_
          refine pm_R_op pm_M53 (pc' := 34) (st' := [.int 1, .int x3_173]) rfl rfl rfl ?_
          refine pm_R_lo pm_M53 (pc' := 36) rfl rfl rfl ?_
          refine sf_R_shl10 pm_M53 (pc' := 37) rfl rfl (sf_weak B176 (by decide) (by decide)) (fun z192 B194 => ?_)
          refine sf_R_ior10 pm_M53 (pc' := 38) rfl rfl Bx3_173 B194 (fun z195 B197 => ?_)
          refine pm_R_lo pm_M53 (pc' := 39) (ls' := [.ref t, .int a0, .int a1, .int z195, .int x4_173]) (st' := []) rfl rfl rfl ?_
          refine sf_R_iinc pm_M53 (pc' := 42) (ls' := fun z => [.ref t, .int a0, .int a1, .int z195, .int z]) rfl B176 rfl (by decide) (by decide) (by decide) (fun _ => rfl) rfl (fun z198 e199 B200 => ?_)
          show pm_R _ 53 42 [.ref t, .int a0, .int a1, .int z195, .int z198] [] _ _
          refine pm_R_br pm_M53 (pc' := 5) rfl rfl ?_
          exact ih_173 _ (sf_up hN_173 e199 B176 (by decide) (by decide)) z195 z198 B197 (sf_weak B200 (by decide) (by decide)) rfl
  exact L_173 _ 0 0 (sf_weak sf_k0 (by decide) (by decide)) (sf_weak sf_k0 (by decide) (by decide)) rfl

set_option maxRecDepth 100000 in
set_option maxHeartbeats 4000000 in
/-- SilentTable$Meal.<init> -/
theorem cl_c48_l {d : Nat} {t s n : Nat} {fd : Nat → Int32} {h0 : pm_H} {h : pm_H} {Q : Option Value → pm_H → Prop}  (P : cl_MW t s n fd h0 h) (h72 : 72 ≤ t) (hs1 : 1 ≤ s) (hs6 : s ≤ 6) (hn50 : n ≤ 50) (hb : ∀ k, k < n → sf_B 0 2 (fd (4 * k)) ∧ (0 ≤ (fd (4 * k + 1)).toInt ∧ (fd (4 * k + 1)).toInt < s) ∧ sf_B (-1) 9 (fd (4 * k + 2)) ∧ ((fd (4 * k)).toInt = 2 → 0 ≤ (fd (4 * k + 2)).toInt))   (K : ∀ (h' : pm_H), cl_MW t s n fd h0 h' → Q none h') : pm_R (d + 2) 48 64 [.ref t, .ref 25, pm_no] [] h Q := by
  refine pm_R_lo pm_M48 (pc' := 65) rfl rfl rfl ?_
  refine pm_R_get pm_M48 (pc' := 68) (v := .ref (t + 2)) rfl rfl P.2.2.2.1 (cl_geT0 h72) (cl_alT0 P.1 (by decide)) rfl rfl ?_
  refine pm_R_op pm_M48 (pc' := 69) (st' := [.int 0, .ref (t + 2)]) rfl rfl rfl ?_
  refine pm_R_lo pm_M48 (pc' := 70) rfl rfl rfl ?_
  refine pm_R_get pm_M48 (pc' := 73) (v := .int (Int32.ofNat s)) rfl rfl P.2.2.2.1 (cl_geT0 h72) (cl_alT0 P.1 (by decide)) rfl rfl ?_
  refine pm_R_op pm_M48 (pc' := 74) (st' := [.int (-1), .int (Int32.ofNat s), .int 0, .ref (t + 2)]) rfl rfl rfl ?_
  refine pm_R_cs pm_M48 (pc' := 77) (ra := [.int (-1), .int (Int32.ofNat s), .int 0, .ref (t + 2)]) (rest := []) (ls' := [.ref (t + 2), .int 0, .int (Int32.ofNat s), .int (-1), pm_no]) rfl rfl (Or.inl rfl) pm_M49 rfl rfl (Nat.le_of_ble_eq_true rfl) rfl rfl ?_
  refine cl_c49_m (d := d + 0) P h72 hs1 hs6 hn50 hb  (fun h3 P4 => ?_)
  show pm_R _ 48 77 [.ref t, .ref 25, pm_no] [] _ _
  refine pm_R_op pm_M48 (pc' := 78) (st' := [.int 0]) rfl rfl rfl ?_
  refine pm_R_lo pm_M48 (pc' := 79) (ls' := [.ref t, .ref 25, .int 0]) (st' := []) rfl rfl rfl ?_
  have L_360 : ∀ (N : Nat) (h_360 : pm_H) (x2_360 : Int32), cl_MW t s n fd h0 h_360 → sf_B 0 50 x2_360 → (50 - x2_360.toInt).toNat = N → pm_R (d + 2) 48 79 [.ref t, .ref 25, .int x2_360] [] h_360 Q := by
    intro N
    induction N using Nat.strongRecOn with
    | ind N ih_360 =>
      intro h_360 x2_360 P_360 Bx2_360 hN_360
      refine pm_R_lo pm_M48 (pc' := 80) rfl rfl rfl ?_
      refine pm_R_lo pm_M48 (pc' := 81) rfl rfl rfl ?_
      refine pm_R_get pm_M48 (pc' := 84) (v := .int (Int32.ofNat n)) rfl rfl P_360.2.2.2.1 (cl_geT0 h72) (cl_alT0 P_360.1 (by decide)) rfl rfl ?_
      refine pm_R_icmp pm_M48 (t := 178) (pc' := 87) rfl rfl rfl (fun c362 => ?_) (fun c362 => ?_)
      · skip
        exact pm_R_ret pm_M48 (r := none) (pm_q48_1 (Nat.le_of_ble_eq_true rfl)) rfl (K h_360 P_360)
      · have B363 : sf_B 0 49 x2_360 := sf_ltL (Int32.not_le.mp c362) Bx2_360 (sf_ofB hn50 (by decide))
        have B364 : sf_B 1 50 (Int32.ofNat n) := sf_ltR (Int32.not_le.mp c362) Bx2_360 (sf_ofB hn50 (by decide))
        refine pm_R_lo pm_M48 (pc' := 88) rfl rfl rfl ?_
        refine pm_R_get pm_M48 (pc' := 91) (v := .ref (t + 2)) rfl rfl P_360.2.2.2.1 (cl_geT0 h72) (cl_alT0 P_360.1 (by decide)) rfl rfl ?_
        refine pm_R_lo pm_M48 (pc' := 92) rfl rfl rfl ?_
        refine pm_R_lo pm_M48 (pc' := 93) rfl rfl rfl ?_
        refine pm_R_get pm_M48 (pc' := 96) (v := .int (Int32.ofNat s)) rfl rfl P_360.2.2.2.1 (cl_geT0 h72) (cl_alT0 P_360.1 (by decide)) rfl rfl ?_
        refine sf_R_imul pm_M48 (pc' := 97) rfl rfl B363 (sf_ofB1 hs6 hs1 (by decide)) (by decide) (by decide) (by decide) (fun z365 e366 B367 => ?_)
        refine pm_R_lo pm_M48 (pc' := 98) rfl rfl rfl ?_
        refine pm_R_get pm_M48 (pc' := 101) (v := .ref (t + 2)) rfl rfl P_360.2.2.2.1 (cl_geT0 h72) (cl_alT0 P_360.1 (by decide)) rfl rfl ?_
        refine pm_R_lo pm_M48 (pc' := 102) rfl rfl rfl ?_
        refine pm_R_op pm_M48 (pc' := 103) (st' := [.int 1, .int x2_360, .ref (t + 2), .int z365, .ref (t + 2)]) rfl rfl rfl ?_
        refine sf_R_iadd pm_M48 (pc' := 104) rfl rfl B363 sf_k1 (by decide) (by decide) (fun z368 e369 B370 => ?_)
        refine pm_R_lo pm_M48 (pc' := 105) rfl rfl rfl ?_
        refine pm_R_get pm_M48 (pc' := 108) (v := .int (Int32.ofNat s)) rfl rfl P_360.2.2.2.1 (cl_geT0 h72) (cl_alT0 P_360.1 (by decide)) rfl rfl ?_
        refine sf_R_imul pm_M48 (pc' := 109) (pm_q48_1 (Nat.le_of_ble_eq_true rfl)) rfl B370 (sf_ofB1 hs6 hs1 (by decide)) (by decide) (by decide) (by decide) (fun z371 e372 B373 => ?_)
        refine pm_R_lo pm_M48 (pc' := 110) (pm_q48_1 (Nat.le_of_ble_eq_true rfl)) rfl rfl ?_
        refine pm_R_get pm_M48 (pc' := 113) (v := .int (Int32.ofNat s)) (pm_q48_1 (Nat.le_of_ble_eq_true rfl)) rfl P_360.2.2.2.1 (cl_geT0 h72) (cl_alT0 P_360.1 (by decide)) rfl rfl ?_
        obtain ⟨f374, e375⟩ := P_360.2.2.2.2.2.1
        refine P_360.Rc pm_M48 h72 (pc' := 116) (pm_q48_1 (Nat.le_of_ble_eq_true rfl)) rfl rfl e375 e366 e369 e372 (Int32.not_le.mp c362) B363 (by decide) hs6 hn50 (Nat.le_of_ble_eq_true rfl) rfl (fun h376 P377 => ?_)
        refine pm_R_lo pm_M48 (pc' := 117) (pm_q48_1 (Nat.le_of_ble_eq_true rfl)) rfl rfl ?_
        refine pm_R_lo pm_M48 (pc' := 118) (pm_q48_1 (Nat.le_of_ble_eq_true rfl)) rfl rfl ?_
        refine pm_R_cv pm_M48 (pc' := 121) (a := t) (ra := [.int x2_360]) (rest := []) (ls' := [.ref t, .int x2_360]) (pm_q48_1 (Nat.le_of_ble_eq_true rfl)) rfl (Or.inl rfl) pm_M51 P377.2.2.2.1 rfl (cl_geT0 h72) (cl_alT0 P377.1 (by decide)) rfl rfl (Nat.le_of_ble_eq_true rfl) rfl rfl ?_
        refine pm_R_lo pm_M51 (pc' := 1) rfl rfl rfl ?_
        refine pm_R_get pm_M51 (pc' := 4) (v := .ref (t + 1)) rfl rfl P377.2.2.2.1 (cl_geT0 h72) (cl_alT0 P377.1 (by decide)) rfl rfl ?_
        refine pm_R_lo pm_M51 (pc' := 5) rfl rfl rfl ?_
        refine pm_R_op pm_M51 (pc' := 6) (st' := [.int 4, .int x2_360, .ref (t + 1)]) rfl rfl rfl ?_
        refine sf_R_imul pm_M51 (pc' := 7) rfl rfl B363 sf_k4 (by decide) (by decide) (by decide) (fun z378 e379 B380 => ?_)
        have q381 := cl_in4 (n := n) (Nat.le_trans hn50 (by decide)) (Int32.not_le.mp c362) (cl_aux5 _ _ e379) B363 (by decide) (by decide)
        obtain ⟨z382, ez383⟩ : ∃ y, fd (Int32.toNatClampNeg z378) = y := ⟨_, rfl⟩
        have B384 : sf_B 0 2 z382 := ez383 ▸ q381.2.2 ▸ (hb _ q381.2.1).1
        refine pm_R_iald pm_M51 (pc' := 8) (v := z382) rfl P377.2.2.2.2.1 (cl_alT (i := 1) P377.1 (by decide)) q381.1 ez383 rfl ?_
        refine pm_R_op pm_M51 (pc' := 9) (st' := [.int 2, .int z382]) rfl rfl rfl ?_
        refine pm_R_icmp pm_M51 (t := 16) (pc' := 12) rfl rfl rfl (fun c385 => ?_) (fun c385 => ?_)
        · have B386 : sf_B 0 1 z382 := sf_neH0 c385 sf_k2 B384
          refine pm_R_op pm_M51 (pc' := 17) (st' := [.int 0]) rfl rfl rfl ?_
          refine pm_R_ret pm_M51 (r := some (.int 0)) rfl rfl ?_
          show pm_R _ 48 121 [.ref t, .ref 25, .int x2_360] [.int 0] _ _
          refine pm_R_br pm_M48 (pc' := 143) (st' := []) (pm_q48_1 (Nat.le_of_ble_eq_true rfl)) rfl ?_
          refine pm_R_lo pm_M48 (pc' := 144) (pm_q48_1 (Nat.le_of_ble_eq_true rfl)) rfl rfl ?_
          refine pm_R_get pm_M48 (pc' := 147) (v := .ref (t + 2)) (pm_q48_1 (Nat.le_of_ble_eq_true rfl)) rfl P377.2.2.2.1 (cl_geT0 h72) (cl_alT0 P377.1 (by decide)) rfl rfl ?_
          refine pm_R_lo pm_M48 (pc' := 148) (pm_q48_1 (Nat.le_of_ble_eq_true rfl)) rfl rfl ?_
          refine pm_R_op pm_M48 (pc' := 149) (st' := [.int 1, .int x2_360, .ref (t + 2)]) (pm_q48_1 (Nat.le_of_ble_eq_true rfl)) rfl rfl ?_
          refine sf_R_iaddV pm_M48 (pc' := 150) (pm_q48_1 (Nat.le_of_ble_eq_true rfl)) rfl B363 sf_k1 (by decide) (by decide) e369 ?_
          refine pm_R_lo pm_M48 (pc' := 151) (pm_q48_1 (Nat.le_of_ble_eq_true rfl)) rfl rfl ?_
          refine pm_R_get pm_M48 (pc' := 154) (v := .int (Int32.ofNat s)) (pm_q48_1 (Nat.le_of_ble_eq_true rfl)) rfl P377.2.2.2.1 (cl_geT0 h72) (cl_alT0 P377.1 (by decide)) rfl rfl ?_
          refine sf_R_imulV pm_M48 (pc' := 155) (pm_q48_1 (Nat.le_of_ble_eq_true rfl)) rfl B370 (sf_ofB1 hs6 hs1 (by decide)) (by decide) (by decide) (by decide) e372 ?_
          refine pm_R_lo pm_M48 (pc' := 156) (pm_q48_1 (Nat.le_of_ble_eq_true rfl)) rfl rfl ?_
          refine pm_R_lo pm_M48 (pc' := 157) (pm_q48_1 (Nat.le_of_ble_eq_true rfl)) rfl rfl ?_
          refine pm_R_cv pm_M48 (pc' := 160) (a := t) (ra := [.int x2_360]) (rest := [.int z371, .ref (t + 2)]) (ls' := [.ref t, .int x2_360]) (pm_q48_1 (Nat.le_of_ble_eq_true rfl)) rfl (Or.inl rfl) pm_M52 P377.2.2.2.1 rfl (cl_geT0 h72) (cl_alT0 P377.1 (by decide)) rfl rfl (Nat.le_of_ble_eq_true rfl) rfl rfl ?_
          refine pm_R_lo pm_M52 (pc' := 1) rfl rfl rfl ?_
          refine pm_R_get pm_M52 (pc' := 4) (v := .ref (t + 1)) rfl rfl P377.2.2.2.1 (cl_geT0 h72) (cl_alT0 P377.1 (by decide)) rfl rfl ?_
          refine pm_R_lo pm_M52 (pc' := 5) rfl rfl rfl ?_
          refine pm_R_op pm_M52 (pc' := 6) (st' := [.int 4, .int x2_360, .ref (t + 1)]) rfl rfl rfl ?_
          refine sf_R_imulV pm_M52 (pc' := 7) rfl rfl B363 sf_k4 (by decide) (by decide) (by decide) e379 ?_
          refine pm_R_op pm_M52 (pc' := 8) (st' := [.int 1, .int z378, .ref (t + 1)]) rfl rfl rfl ?_
          refine sf_R_iadd pm_M52 (pc' := 9) rfl rfl B380 sf_k1 (by decide) (by decide) (fun z387 e388 B389 => ?_)
          have q390 := cl_in4 (n := n) (Nat.le_trans hn50 (by decide)) (Int32.not_le.mp c362) (cl_aux7 _ _ _ e379 e388) B363 (by decide) (by decide)
          obtain ⟨z391, ez392⟩ : ∃ y, fd (Int32.toNatClampNeg z387) = y := ⟨_, rfl⟩
          have B393 : sf_B 0 5 z391 := ez392 ▸ q390.2.2 ▸ (cl_seat (hb _ q390.2.1).2.1 hs6)
          refine pm_R_iald pm_M52 (pc' := 10) (v := z391) rfl P377.2.2.2.2.1 (cl_alT (i := 1) P377.1 (by decide)) q390.1 ez392 rfl ?_
          refine pm_R_ret pm_M52 (r := some (.int z391)) rfl (pm_ret_i _) ?_
          show pm_R _ 48 160 [.ref t, .ref 25, .int x2_360] [.int z391, .int z371, .ref (t + 2)] _ _
          refine sf_R_iadd pm_M48 (pc' := 161) (pm_q48_1 (Nat.le_of_ble_eq_true rfl)) rfl B373 B393 (by decide) (by decide) (fun z394 e395 B396 => ?_)
          refine pm_R_lo pm_M48 (pc' := 162) (pm_q48_1 (Nat.le_of_ble_eq_true rfl)) rfl rfl ?_
          refine pm_R_get pm_M48 (pc' := 165) (v := .ref (t + 1)) (pm_q48_1 (Nat.le_of_ble_eq_true rfl)) rfl P377.2.2.2.1 (cl_geT0 h72) (cl_alT0 P377.1 (by decide)) rfl rfl ?_
          refine pm_R_lo pm_M48 (pc' := 166) (pm_q48_1 (Nat.le_of_ble_eq_true rfl)) rfl rfl ?_
          refine pm_R_op pm_M48 (pc' := 167) (st' := [.int 4, .int x2_360, .ref (t + 1), .int z394, .ref (t + 2)]) (pm_q48_1 (Nat.le_of_ble_eq_true rfl)) rfl rfl ?_
          refine sf_R_imulV pm_M48 (pc' := 168) (pm_q48_1 (Nat.le_of_ble_eq_true rfl)) rfl B363 sf_k4 (by decide) (by decide) (by decide) e379 ?_
          refine pm_R_op pm_M48 (pc' := 169) (st' := [.int 2, .int z378, .ref (t + 1), .int z394, .ref (t + 2)]) (pm_q48_1 (Nat.le_of_ble_eq_true rfl)) rfl rfl ?_
          refine sf_R_iadd pm_M48 (pc' := 170) (pm_q48_1 (Nat.le_of_ble_eq_true rfl)) rfl B380 sf_k2 (by decide) (by decide) (fun z397 e398 B399 => ?_)
          have q400 := cl_in4 (n := n) (Nat.le_trans hn50 (by decide)) (Int32.not_le.mp c362) (cl_aux6 _ _ _ e379 e398) B363 (by decide) (by decide)
          obtain ⟨z401, ez402⟩ : ∃ y, fd (Int32.toNatClampNeg z397) = y := ⟨_, rfl⟩
          have B403 : sf_B (-1) 9 z401 := ez402 ▸ q400.2.2 ▸ (hb _ q400.2.1).2.2.1
          refine pm_R_iald pm_M48 (pc' := 171) (v := z401) (pm_q48_1 (Nat.le_of_ble_eq_true rfl)) P377.2.2.2.2.1 (cl_alT (i := 1) P377.1 (by decide)) q400.1 ez402 rfl ?_
          obtain ⟨f404, e405⟩ := P377.2.2.2.2.2.1
          refine P377.R2 pm_M48 h72 (pc' := 172) (pm_q48_1 (Nat.le_of_ble_eq_true rfl)) e405 (cl_inG (s := s) (n := n) hs6 hn50 e395 e372 (cl_leS e369 (Int32.not_le.mp c362)) (ez392 ▸ q390.2.2 ▸ (hb _ q390.2.1).2.1.2) B370 B393 (by decide) (by decide)) rfl (fun h406 P407 => ?_)
          refine sf_R_iinc pm_M48 (pc' := 175) (ls' := fun z => [.ref t, .ref 25, .int z]) (pm_q48_1 (Nat.le_of_ble_eq_true rfl)) B363 rfl (by decide) (by decide) (by decide) (fun _ => rfl) rfl (fun z408 e409 B410 => ?_)
          show pm_R _ 48 175 [.ref t, .ref 25, .int z408] [] _ _
          refine pm_R_br pm_M48 (pc' := 79) (pm_q48_1 (Nat.le_of_ble_eq_true rfl)) rfl ?_
          exact ih_360 _ (sf_up hN_360 e409 B363 (by decide) (by decide)) h406 z408 P407 (sf_weak B410 (by decide) (by decide)) rfl
        · have B411 : sf_B 2 2 z382 := sf_eqL (Classical.not_not.mp c385) sf_k2
          refine pm_R_op pm_M51 (pc' := 13) (st' := [.int 1]) rfl rfl rfl ?_
          refine pm_R_br pm_M51 (pc' := 17) rfl rfl ?_
          refine pm_R_ret pm_M51 (r := some (.int 1)) rfl rfl ?_
          show pm_R _ 48 121 [.ref t, .ref 25, .int x2_360] [.int 1] _ _
          refine pm_R_br pm_M48 (pc' := 124) (st' := []) (pm_q48_1 (Nat.le_of_ble_eq_true rfl)) rfl ?_
          refine pm_R_lo pm_M48 (pc' := 125) (pm_q48_1 (Nat.le_of_ble_eq_true rfl)) rfl rfl ?_
          refine pm_R_get pm_M48 (pc' := 128) (v := .ref (t + 3)) (pm_q48_1 (Nat.le_of_ble_eq_true rfl)) rfl P377.2.2.2.1 (cl_geT0 h72) (cl_alT0 P377.1 (by decide)) rfl rfl ?_
          refine pm_R_lo pm_M48 (pc' := 129) (pm_q48_1 (Nat.le_of_ble_eq_true rfl)) rfl rfl ?_
          refine pm_R_lo pm_M48 (pc' := 130) (pm_q48_1 (Nat.le_of_ble_eq_true rfl)) rfl rfl ?_
          refine pm_R_lo pm_M48 (pc' := 131) (pm_q48_1 (Nat.le_of_ble_eq_true rfl)) rfl rfl ?_
          refine pm_R_lo pm_M48 (pc' := 132) (pm_q48_1 (Nat.le_of_ble_eq_true rfl)) rfl rfl ?_
          refine pm_R_cv pm_M48 (pc' := 135) (a := t) (ra := [.int x2_360]) (rest := [.ref t, .int x2_360, .ref (t + 3)]) (ls' := [.ref t, .int x2_360]) (pm_q48_1 (Nat.le_of_ble_eq_true rfl)) rfl (Or.inl rfl) pm_M52 P377.2.2.2.1 rfl (cl_geT0 h72) (cl_alT0 P377.1 (by decide)) rfl rfl (Nat.le_of_ble_eq_true rfl) rfl rfl ?_
          refine pm_R_lo pm_M52 (pc' := 1) rfl rfl rfl ?_
          refine pm_R_get pm_M52 (pc' := 4) (v := .ref (t + 1)) rfl rfl P377.2.2.2.1 (cl_geT0 h72) (cl_alT0 P377.1 (by decide)) rfl rfl ?_
          refine pm_R_lo pm_M52 (pc' := 5) rfl rfl rfl ?_
          refine pm_R_op pm_M52 (pc' := 6) (st' := [.int 4, .int x2_360, .ref (t + 1)]) rfl rfl rfl ?_
          refine sf_R_imulV pm_M52 (pc' := 7) rfl rfl B363 sf_k4 (by decide) (by decide) (by decide) e379 ?_
          refine pm_R_op pm_M52 (pc' := 8) (st' := [.int 1, .int z378, .ref (t + 1)]) rfl rfl rfl ?_
          refine sf_R_iadd pm_M52 (pc' := 9) rfl rfl B380 sf_k1 (by decide) (by decide) (fun z412 e413 B414 => ?_)
          have q415 := cl_in4 (n := n) (Nat.le_trans hn50 (by decide)) (Int32.not_le.mp c362) (cl_aux7 _ _ _ e379 e413) B363 (by decide) (by decide)
          obtain ⟨z416, ez417⟩ : ∃ y, fd (Int32.toNatClampNeg z412) = y := ⟨_, rfl⟩
          have B418 : sf_B 0 5 z416 := ez417 ▸ q415.2.2 ▸ (cl_seat (hb _ q415.2.1).2.1 hs6)
          refine pm_R_iald pm_M52 (pc' := 10) (v := z416) rfl P377.2.2.2.2.1 (cl_alT (i := 1) P377.1 (by decide)) q415.1 ez417 rfl ?_
          refine pm_R_ret pm_M52 (r := some (.int z416)) rfl (pm_ret_i _) ?_
          show pm_R _ 48 135 [.ref t, .ref 25, .int x2_360] [.int z416, .ref t, .int x2_360, .ref (t + 3)] _ _
          refine pm_R_lo pm_M48 (pc' := 136) (pm_q48_1 (Nat.le_of_ble_eq_true rfl)) rfl rfl ?_
          refine pm_R_cv pm_M48 (pc' := 139) (a := t) (ra := [.int x2_360, .int z416]) (rest := [.int x2_360, .ref (t + 3)]) (ls' := [.ref t, .int z416, .int x2_360, pm_no, pm_no]) (pm_q48_1 (Nat.le_of_ble_eq_true rfl)) rfl (Or.inl rfl) pm_M53 P377.2.2.2.1 rfl (cl_geT0 h72) (cl_alT0 P377.1 (by decide)) rfl rfl (Nat.le_of_ble_eq_true rfl) rfl rfl ?_
          refine cl_c53 (d := d + 1) P377 h72 hs1 hs6 hn50 hb B363 (Int32.le_of_lt (Int32.not_le.mp c362)) (fun r419 h421 P422 B420 => ?_)
          show pm_R _ 48 139 [.ref t, .ref 25, .int x2_360] [.int r419, .int x2_360, .ref (t + 3)] _ _
          obtain ⟨f423, e424⟩ := P422.2.2.2.2.2.2
          have q425 := cl_in1 (n := n) (Nat.le_trans hn50 (by decide)) (Int32.not_le.mp c362) B363 (by decide)
          refine P422.R3 pm_M48 h72 (pc' := 140) (pm_q48_1 (Nat.le_of_ble_eq_true rfl)) e424 q425.1 rfl (fun h426 P427 => ?_)
          refine pm_R_br pm_M48 (pc' := 172) (pm_q48_1 (Nat.le_of_ble_eq_true rfl)) rfl ?_
          refine sf_R_iinc pm_M48 (pc' := 175) (ls' := fun z => [.ref t, .ref 25, .int z]) (pm_q48_1 (Nat.le_of_ble_eq_true rfl)) B363 rfl (by decide) (by decide) (by decide) (fun _ => rfl) rfl (fun z428 e429 B430 => ?_)
          show pm_R _ 48 175 [.ref t, .ref 25, .int z428] [] _ _
          refine pm_R_br pm_M48 (pc' := 79) (pm_q48_1 (Nat.le_of_ble_eq_true rfl)) rfl ?_
          exact ih_360 _ (sf_up hN_360 e429 B363 (by decide) (by decide)) h426 z428 P427 (sf_weak B430 (by decide) (by decide)) rfl
  exact L_360 _ h3 0 P4 (sf_weak sf_k0 (by decide) (by decide)) rfl
