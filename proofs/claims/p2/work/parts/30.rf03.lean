set_option maxRecDepth 100000 in
set_option maxHeartbeats 4000000 in
/-- SilentTableModel.broken -/
theorem rf_c276 {d : Nat} {m : Nat → Int32} {w : Int64} {h : pm_H} {Q : Option Value → pm_H → Prop} {a0 : Int32} {a1 : Int32} (T : rf_T m w h) (Ba0 : sf_B 0 49 a0) (K : ∀ (r : Int32), sf_B (-1) 7 r → Q (some (.int r)) h) : pm_R (d + 4) 276 0 [.ref 41, .int a0, .int a1, pm_no] [] h Q := by
  refine pm_R_op pm_M276 (pc' := 1) (st' := [.int 0]) rfl rfl rfl ?_
  refine pm_R_lo pm_M276 (pc' := 2) (ls' := [.ref 41, .int a0, .int a1, .int 0]) (st' := []) rfl rfl rfl ?_
  have L_1146 : ∀ (N : Nat) (x3_1146 : Int32), sf_B 0 8 x3_1146 → (8 - x3_1146.toInt).toNat = N → pm_R (d + 4) 276 2 [.ref 41, .int a0, .int a1, .int x3_1146] [] h Q := by
    intro N
    induction N using Nat.strongRecOn with
    | ind N ih_1146 =>
      intro x3_1146 Bx3_1146 hN_1146
      refine pm_R_lo pm_M276 (pc' := 3) rfl rfl rfl ?_
      refine pm_R_lo pm_M276 (pc' := 4) rfl rfl rfl ?_
      refine pm_R_cv pm_M276 (pc' := 7) (a := 41) (ra := []) (rest := [.int x3_1146]) (ls' := [.ref 41]) rfl rfl (Or.inl rfl) pm_M272 T.2.1 rfl (by decide) (Nat.lt_of_lt_of_le (by decide) T.1) rfl rfl (Nat.le_of_ble_eq_true rfl) rfl rfl ?_
      refine pm_R_lo pm_M272 (pc' := 1) rfl rfl rfl ?_
      refine rf_R_get pm_M272 T (pc' := 4) (v := .ref 50) rfl rfl rfl rfl ?_
      refine pm_R_op pm_M272 (pc' := 6) (st' := [.int 25, .ref 50]) rfl rfl rfl ?_
      refine pm_R_lo pm_M272 (pc' := 7) rfl rfl rfl ?_
      have B1147 : sf_B 0 1 (m 49) := T.2.2.1 49
      refine rf_R_get pm_M272 T (pc' := 10) (v := .int (m 49)) rfl rfl rfl rfl ?_
      refine sf_R_imul pm_M272 (pc' := 11) rfl rfl sf_k25 B1147 (by decide) (by decide) (by decide) (fun z1148 e1149 B1150 => ?_)
      obtain ⟨f1151, e1152, b1153⟩ := T.2.2.2.1 50 (by decide) (by decide)
      refine rf_R_ild pm_M272 T (pc' := 12) rfl e1152 (by decide) (sf_in B1150 (by decide) (by decide)) rfl (fun z1154 ez1155 => ?_)
      have e1156 : (z1148).toInt = 25 * ((m 49)).toInt + 0 := by
        have q0 := e1149
        simp only [(show (25 : Int32).toInt = 25 from rfl)] at q0
        omega
      have B1157 : sf_B 0 8 z1154 := ez1155 ▸ rf_p50a b1153 e1156 B1147 (by decide)
      refine pm_R_ret pm_M272 (r := some (.int z1154)) rfl (pm_ret_i _) ?_
      show pm_R _ 276 7 [.ref 41, .int a0, .int a1, .int x3_1146] [.int z1154, .int x3_1146] _ _
      refine pm_R_icmp pm_M276 (t := 32) (pc' := 10) rfl rfl rfl (fun c1158 => ?_) (fun c1158 => ?_)
      · skip
        refine pm_R_op pm_M276 (pc' := 33) (st' := [.int (-1)]) rfl rfl rfl ?_
        exact pm_R_ret pm_M276 (r := some (.int (-1))) rfl rfl (K (-1) (sf_weak sf_kn1 (by decide) (by decide)))
      · have B1159 : sf_B 0 7 x3_1146 := sf_ltL (Int32.not_le.mp c1158) Bx3_1146 B1157
        have B1160 : sf_B 1 8 z1154 := sf_ltR (Int32.not_le.mp c1158) Bx3_1146 B1157
        refine pm_R_lo pm_M276 (pc' := 11) rfl rfl rfl ?_
        refine pm_R_lo pm_M276 (pc' := 12) rfl rfl rfl ?_
        refine pm_R_icmp pm_M276 (t := 26) (pc' := 15) rfl rfl rfl (fun c1161 => ?_) (fun c1161 => ?_)
        · have B1162 : sf_B 0 7 a1 := sf_eqR c1161 B1159
          refine sf_R_iinc pm_M276 (pc' := 29) (ls' := fun z => [.ref 41, .int a0, .int a1, .int z]) rfl B1159 rfl (by decide) (by decide) (by decide) (fun _ => rfl) rfl (fun z1163 e1164 B1165 => ?_)
          show pm_R _ 276 29 [.ref 41, .int a0, .int a1, .int z1163] [] _ _
          refine pm_R_br pm_M276 (pc' := 2) rfl rfl ?_
          exact ih_1146 _ (sf_up hN_1146 e1164 B1159 (by decide) (by decide)) z1163 (sf_weak B1165 (by decide) (by decide)) rfl
        · skip
          refine pm_R_lo pm_M276 (pc' := 16) rfl rfl rfl ?_
          refine pm_R_lo pm_M276 (pc' := 17) rfl rfl rfl ?_
          refine pm_R_lo pm_M276 (pc' := 18) rfl rfl rfl ?_
          refine pm_R_cv pm_M276 (pc' := 21) (a := 41) (ra := [.int x3_1146, .int a0]) (rest := []) (ls' := [.ref 41, .int a0, .int x3_1146, pm_no, pm_no, pm_no]) rfl rfl (Or.inl rfl) pm_M277 T.2.1 rfl (by decide) (Nat.lt_of_lt_of_le (by decide) T.1) rfl rfl (Nat.le_of_ble_eq_true rfl) rfl rfl ?_
          refine pm_R_lo pm_M277 (pc' := 1) rfl rfl rfl ?_
          refine pm_R_lo pm_M277 (pc' := 2) rfl rfl rfl ?_
          refine pm_R_cv pm_M277 (pc' := 5) (a := 41) (ra := [.int a0]) (rest := []) (ls' := [.ref 41, .int a0]) rfl rfl (Or.inl rfl) pm_M256 T.2.1 rfl (by decide) (Nat.lt_of_lt_of_le (by decide) T.1) rfl rfl (Nat.le_of_ble_eq_true rfl) rfl rfl ?_
          refine pm_R_lo pm_M256 (pc' := 1) rfl rfl rfl ?_
          refine pm_R_lo pm_M256 (pc' := 2) rfl rfl rfl ?_
          refine pm_R_op pm_M256 (pc' := 3) (st' := [.int 0, .int a0, .ref 41]) rfl rfl rfl ?_
          refine pm_R_cv pm_M256 (pc' := 6) (a := 41) (ra := [.int 0, .int a0]) (rest := []) (ls' := [.ref 41, .int a0, .int 0]) rfl rfl (Or.inl rfl) pm_M255 T.2.1 rfl (by decide) (Nat.lt_of_lt_of_le (by decide) T.1) rfl rfl (Nat.le_of_ble_eq_true rfl) rfl rfl ?_
          refine pm_R_lo pm_M255 (pc' := 1) rfl rfl rfl ?_
          refine rf_R_get pm_M255 T (pc' := 4) (v := .ref 49) rfl rfl rfl rfl ?_
          refine pm_R_op pm_M255 (pc' := 7) (st' := [.int 152, .ref 49]) rfl rfl rfl ?_
          refine pm_R_lo pm_M255 (pc' := 8) rfl rfl rfl ?_
          have B1166 : sf_B 0 1 (m 44) := T.2.2.1 44
          refine rf_R_get pm_M255 T (pc' := 11) (v := .int (m 44)) rfl rfl rfl rfl ?_
          refine sf_R_imul pm_M255 (pc' := 12) rfl rfl sf_k152 B1166 (by decide) (by decide) (by decide) (fun z1167 e1168 B1169 => ?_)
          refine pm_R_op pm_M255 (pc' := 13) (st' := [.int 2, .int z1167, .ref 49]) rfl rfl rfl ?_
          refine sf_R_iadd pm_M255 (pc' := 14) rfl rfl B1169 sf_k2 (by decide) (by decide) (fun z1170 e1171 B1172 => ?_)
          refine pm_R_op pm_M255 (pc' := 15) (st' := [.int 3, .int z1170, .ref 49]) rfl rfl rfl ?_
          refine pm_R_lo pm_M255 (pc' := 16) rfl rfl rfl ?_
          refine sf_R_imul pm_M255 (pc' := 17) rfl rfl sf_k3 Ba0 (by decide) (by decide) (by decide) (fun z1173 e1174 B1175 => ?_)
          refine sf_R_iadd pm_M255 (pc' := 18) rfl rfl B1172 B1175 (by decide) (by decide) (fun z1176 e1177 B1178 => ?_)
          refine pm_R_lo pm_M255 (pc' := 19) rfl rfl rfl ?_
          refine sf_R_iadd pm_M255 (pc' := 20) rfl rfl B1178 sf_k0 (by decide) (by decide) (fun z1179 e1180 B1181 => ?_)
          obtain ⟨f1182, e1183, b1184⟩ := T.2.2.2.1 49 (by decide) (by decide)
          refine rf_R_ild pm_M255 T (pc' := 21) rfl e1183 (by decide) (sf_in B1181 (by decide) (by decide)) rfl (fun z1185 ez1186 => ?_)
          have e1187 : (z1179).toInt = 152 * ((m 44)).toInt + 3 * (a0).toInt + 2 := by
            have q0 := e1168
            have q1 := e1171
            have q2 := e1174
            have q3 := e1177
            have q4 := e1180
            simp only [(show (0 : Int32).toInt = 0 from rfl), (show (2 : Int32).toInt = 2 from rfl), (show (3 : Int32).toInt = 3 from rfl), (show (152 : Int32).toInt = 152 from rfl)] at q0 q1 q2 q3 q4
            omega
          have B1188 : sf_B 0 2 z1185 := ez1186 ▸ rf_p49s b1184 e1187 B1166 Ba0 (by decide) (by decide) (by decide)
          refine pm_R_ret pm_M255 (r := some (.int z1185)) rfl (pm_ret_i _) ?_
          show pm_R _ 256 6 [.ref 41, .int a0] [.int z1185] _ _
          refine pm_R_op pm_M256 (pc' := 7) (st' := [.int 2, .int z1185]) rfl rfl rfl ?_
          refine pm_R_icmp pm_M256 (t := 14) (pc' := 10) rfl rfl rfl (fun c1189 => ?_) (fun c1189 => ?_)
          · have B1190 : sf_B 0 1 z1185 := sf_neH0 c1189 sf_k2 B1188
            refine pm_R_op pm_M256 (pc' := 15) (st' := [.int 0]) rfl rfl rfl ?_
            refine pm_R_ret pm_M256 (r := some (.int 0)) rfl rfl ?_
            show pm_R _ 277 5 [.ref 41, .int a0, .int x3_1146, pm_no, pm_no, pm_no] [.int 0] _ _
            refine pm_R_br pm_M277 (pc' := 8) (st' := []) rfl rfl ?_
            refine pm_R_op pm_M277 (pc' := 9) (st' := [.int 0]) rfl rfl rfl ?_
            refine pm_R_ret pm_M277 (r := some (.int 0)) rfl rfl ?_
            show pm_R _ 276 21 [.ref 41, .int a0, .int a1, .int x3_1146] [.int 0] _ _
            refine pm_R_br pm_M276 (pc' := 26) (st' := []) rfl rfl ?_
            refine sf_R_iinc pm_M276 (pc' := 29) (ls' := fun z => [.ref 41, .int a0, .int a1, .int z]) rfl B1159 rfl (by decide) (by decide) (by decide) (fun _ => rfl) rfl (fun z1191 e1192 B1193 => ?_)
            show pm_R _ 276 29 [.ref 41, .int a0, .int a1, .int z1191] [] _ _
            refine pm_R_br pm_M276 (pc' := 2) rfl rfl ?_
            exact ih_1146 _ (sf_up hN_1146 e1192 B1159 (by decide) (by decide)) z1191 (sf_weak B1193 (by decide) (by decide)) rfl
          · have B1194 : sf_B 2 2 z1185 := sf_eqL (Classical.not_not.mp c1189) sf_k2
            refine pm_R_op pm_M256 (pc' := 11) (st' := [.int 1]) rfl rfl rfl ?_
            refine pm_R_br pm_M256 (pc' := 15) rfl rfl ?_
            refine pm_R_ret pm_M256 (r := some (.int 1)) rfl rfl ?_
            show pm_R _ 277 5 [.ref 41, .int a0, .int x3_1146, pm_no, pm_no, pm_no] [.int 1] _ _
            refine pm_R_br pm_M277 (pc' := 10) (st' := []) rfl rfl ?_
            refine pm_R_lo pm_M277 (pc' := 11) rfl rfl rfl ?_
            refine pm_R_lo pm_M277 (pc' := 12) rfl rfl rfl ?_
            refine pm_R_op pm_M277 (pc' := 13) (st' := [.int 2, .int a0, .ref 41]) rfl rfl rfl ?_
            refine pm_R_cv pm_M277 (pc' := 16) (a := 41) (ra := [.int 2, .int a0]) (rest := []) (ls' := [.ref 41, .int a0, .int 2]) rfl rfl (Or.inl rfl) pm_M255 T.2.1 rfl (by decide) (Nat.lt_of_lt_of_le (by decide) T.1) rfl rfl (Nat.le_of_ble_eq_true rfl) rfl rfl ?_
            refine pm_R_lo pm_M255 (pc' := 1) rfl rfl rfl ?_
            refine rf_R_get pm_M255 T (pc' := 4) (v := .ref 49) rfl rfl rfl rfl ?_
            refine pm_R_op pm_M255 (pc' := 7) (st' := [.int 152, .ref 49]) rfl rfl rfl ?_
            refine pm_R_lo pm_M255 (pc' := 8) rfl rfl rfl ?_
            refine rf_R_get pm_M255 T (pc' := 11) (v := .int (m 44)) rfl rfl rfl rfl ?_
            refine sf_R_imul pm_M255 (pc' := 12) rfl rfl sf_k152 B1166 (by decide) (by decide) (by decide) (fun z1195 e1196 B1197 => ?_)
            refine pm_R_op pm_M255 (pc' := 13) (st' := [.int 2, .int z1195, .ref 49]) rfl rfl rfl ?_
            refine sf_R_iadd pm_M255 (pc' := 14) rfl rfl B1197 sf_k2 (by decide) (by decide) (fun z1198 e1199 B1200 => ?_)
            refine pm_R_op pm_M255 (pc' := 15) (st' := [.int 3, .int z1198, .ref 49]) rfl rfl rfl ?_
            refine pm_R_lo pm_M255 (pc' := 16) rfl rfl rfl ?_
            refine sf_R_imul pm_M255 (pc' := 17) rfl rfl sf_k3 Ba0 (by decide) (by decide) (by decide) (fun z1201 e1202 B1203 => ?_)
            refine sf_R_iadd pm_M255 (pc' := 18) rfl rfl B1200 B1203 (by decide) (by decide) (fun z1204 e1205 B1206 => ?_)
            refine pm_R_lo pm_M255 (pc' := 19) rfl rfl rfl ?_
            refine sf_R_iadd pm_M255 (pc' := 20) rfl rfl B1206 sf_k2 (by decide) (by decide) (fun z1207 e1208 B1209 => ?_)
            refine rf_R_ild pm_M255 T (pc' := 21) rfl e1183 (by decide) (sf_in B1209 (by decide) (by decide)) rfl (fun z1210 ez1211 => ?_)
            have e1212 : (z1207).toInt = 152 * ((m 44)).toInt + 3 * (a0).toInt + 4 := by
              have q0 := e1196
              have q1 := e1199
              have q2 := e1202
              have q3 := e1205
              have q4 := e1208
              simp only [(show (2 : Int32).toInt = 2 from rfl), (show (3 : Int32).toInt = 3 from rfl), (show (152 : Int32).toInt = 152 from rfl)] at q0 q1 q2 q3 q4
              omega
            have B1213 : sf_B (-1) 9 z1210 := ez1211 ▸ rf_p49o b1184 e1212 B1166 Ba0 (by decide) (by decide) (by decide)
            refine pm_R_ret pm_M255 (r := some (.int z1210)) rfl (pm_ret_i _) ?_
            show pm_R _ 277 16 [.ref 41, .int a0, .int x3_1146, pm_no, pm_no, pm_no] [.int z1210] _ _
            refine pm_R_lo pm_M277 (pc' := 17) (ls' := [.ref 41, .int a0, .int x3_1146, .int z1210, pm_no, pm_no]) (st' := []) rfl rfl rfl ?_
            refine pm_R_lo pm_M277 (pc' := 18) rfl rfl rfl ?_
            refine pm_R_lo pm_M277 (pc' := 19) rfl rfl rfl ?_
            refine pm_R_op pm_M277 (pc' := 20) (st' := [.int 1, .int x3_1146, .ref 41]) rfl rfl rfl ?_
            refine pm_R_cv pm_M277 (pc' := 23) (a := 41) (ra := [.int 1, .int x3_1146]) (rest := []) (ls' := [.ref 41, .int x3_1146, .int 1]) rfl rfl (Or.inl rfl) pm_M273 T.2.1 rfl (by decide) (Nat.lt_of_lt_of_le (by decide) T.1) rfl rfl (Nat.le_of_ble_eq_true rfl) rfl rfl ?_
            refine pm_R_lo pm_M273 (pc' := 1) rfl rfl rfl ?_
            refine rf_R_get pm_M273 T (pc' := 4) (v := .ref 50) rfl rfl rfl rfl ?_
            refine pm_R_op pm_M273 (pc' := 6) (st' := [.int 25, .ref 50]) rfl rfl rfl ?_
            refine pm_R_lo pm_M273 (pc' := 7) rfl rfl rfl ?_
            refine rf_R_get pm_M273 T (pc' := 10) (v := .int (m 49)) rfl rfl rfl rfl ?_
            refine sf_R_imul pm_M273 (pc' := 11) rfl rfl sf_k25 B1147 (by decide) (by decide) (by decide) (fun z1214 e1215 B1216 => ?_)
            refine pm_R_op pm_M273 (pc' := 12) (st' := [.int 1, .int z1214, .ref 50]) rfl rfl rfl ?_
            refine sf_R_iadd pm_M273 (pc' := 13) rfl rfl B1216 sf_k1 (by decide) (by decide) (fun z1217 e1218 B1219 => ?_)
            refine pm_R_op pm_M273 (pc' := 14) (st' := [.int 3, .int z1217, .ref 50]) rfl rfl rfl ?_
            refine pm_R_lo pm_M273 (pc' := 15) rfl rfl rfl ?_
            refine sf_R_imul pm_M273 (pc' := 16) rfl rfl sf_k3 B1159 (by decide) (by decide) (by decide) (fun z1220 e1221 B1222 => ?_)
            refine sf_R_iadd pm_M273 (pc' := 17) rfl rfl B1219 B1222 (by decide) (by decide) (fun z1223 e1224 B1225 => ?_)
            refine pm_R_lo pm_M273 (pc' := 18) rfl rfl rfl ?_
            refine sf_R_iadd pm_M273 (pc' := 19) rfl rfl B1225 sf_k1 (by decide) (by decide) (fun z1226 e1227 B1228 => ?_)
            refine rf_R_ild pm_M273 T (pc' := 20) rfl e1152 (by decide) (sf_in B1228 (by decide) (by decide)) rfl (fun z1229 ez1230 => ?_)
            have e1231 : (z1226).toInt = 25 * ((m 49)).toInt + 3 * (x3_1146).toInt + 2 := by
              have q0 := e1215
              have q1 := e1218
              have q2 := e1221
              have q3 := e1224
              have q4 := e1227
              simp only [(show (1 : Int32).toInt = 1 from rfl), (show (3 : Int32).toInt = 3 from rfl), (show (25 : Int32).toInt = 25 from rfl)] at q0 q1 q2 q3 q4
              omega
            have B1232 : sf_B 0 9 z1229 := ez1230 ▸ rf_p50f b1153 e1231 B1147 B1159 (by decide) (by decide) (by decide)
            refine pm_R_ret pm_M273 (r := some (.int z1229)) rfl (pm_ret_i _) ?_
            show pm_R _ 277 23 [.ref 41, .int a0, .int x3_1146, .int z1210, pm_no, pm_no] [.int z1229] _ _
            refine pm_R_lo pm_M277 (pc' := 25) (ls' := [.ref 41, .int a0, .int x3_1146, .int z1210, .int z1229, pm_no]) (st' := []) rfl rfl rfl ?_
            refine pm_R_lo pm_M277 (pc' := 26) rfl rfl rfl ?_
            refine pm_R_lo pm_M277 (pc' := 27) rfl rfl rfl ?_
            refine pm_R_op pm_M277 (pc' := 28) (st' := [.int 2, .int x3_1146, .ref 41]) rfl rfl rfl ?_
            refine pm_R_cv pm_M277 (pc' := 31) (a := 41) (ra := [.int 2, .int x3_1146]) (rest := []) (ls' := [.ref 41, .int x3_1146, .int 2]) rfl rfl (Or.inl rfl) pm_M273 T.2.1 rfl (by decide) (Nat.lt_of_lt_of_le (by decide) T.1) rfl rfl (Nat.le_of_ble_eq_true rfl) rfl rfl ?_
            refine pm_R_lo pm_M273 (pc' := 1) rfl rfl rfl ?_
            refine rf_R_get pm_M273 T (pc' := 4) (v := .ref 50) rfl rfl rfl rfl ?_
            refine pm_R_op pm_M273 (pc' := 6) (st' := [.int 25, .ref 50]) rfl rfl rfl ?_
            refine pm_R_lo pm_M273 (pc' := 7) rfl rfl rfl ?_
            refine rf_R_get pm_M273 T (pc' := 10) (v := .int (m 49)) rfl rfl rfl rfl ?_
            refine sf_R_imul pm_M273 (pc' := 11) rfl rfl sf_k25 B1147 (by decide) (by decide) (by decide) (fun z1233 e1234 B1235 => ?_)
            refine pm_R_op pm_M273 (pc' := 12) (st' := [.int 1, .int z1233, .ref 50]) rfl rfl rfl ?_
            refine sf_R_iadd pm_M273 (pc' := 13) rfl rfl B1235 sf_k1 (by decide) (by decide) (fun z1236 e1237 B1238 => ?_)
            refine pm_R_op pm_M273 (pc' := 14) (st' := [.int 3, .int z1236, .ref 50]) rfl rfl rfl ?_
            refine pm_R_lo pm_M273 (pc' := 15) rfl rfl rfl ?_
            refine sf_R_imul pm_M273 (pc' := 16) rfl rfl sf_k3 B1159 (by decide) (by decide) (by decide) (fun z1239 e1240 B1241 => ?_)
            refine sf_R_iadd pm_M273 (pc' := 17) rfl rfl B1238 B1241 (by decide) (by decide) (fun z1242 e1243 B1244 => ?_)
            refine pm_R_lo pm_M273 (pc' := 18) rfl rfl rfl ?_
            refine sf_R_iadd pm_M273 (pc' := 19) rfl rfl B1244 sf_k2 (by decide) (by decide) (fun z1245 e1246 B1247 => ?_)
            refine rf_R_ild pm_M273 T (pc' := 20) rfl e1152 (by decide) (sf_in B1247 (by decide) (by decide)) rfl (fun z1248 ez1249 => ?_)
            have e1250 : (z1245).toInt = 25 * ((m 49)).toInt + 3 * (x3_1146).toInt + 3 := by
              have q0 := e1234
              have q1 := e1237
              have q2 := e1240
              have q3 := e1243
              have q4 := e1246
              simp only [(show (1 : Int32).toInt = 1 from rfl), (show (2 : Int32).toInt = 2 from rfl), (show (3 : Int32).toInt = 3 from rfl), (show (25 : Int32).toInt = 25 from rfl)] at q0 q1 q2 q3 q4
              omega
            have B1251 : sf_B (-1) 9 z1248 := ez1249 ▸ rf_p50o b1153 e1250 B1147 B1159 (by decide) (by decide) (by decide)
            refine pm_R_ret pm_M273 (r := some (.int z1248)) rfl (pm_ret_i _) ?_
            show pm_R _ 277 31 [.ref 41, .int a0, .int x3_1146, .int z1210, .int z1229, pm_no] [.int z1248] _ _
            refine pm_R_lo pm_M277 (pc' := 33) (ls' := [.ref 41, .int a0, .int x3_1146, .int z1210, .int z1229, .int z1248]) (st' := []) rfl rfl rfl ?_
            refine pm_R_lo pm_M277 (pc' := 34) rfl rfl rfl ?_
            refine pm_R_lo pm_M277 (pc' := 35) rfl rfl rfl ?_
            refine pm_R_op pm_M277 (pc' := 36) (st' := [.int 0, .int x3_1146, .ref 41]) rfl rfl rfl ?_
            refine pm_R_cv pm_M277 (pc' := 39) (a := 41) (ra := [.int 0, .int x3_1146]) (rest := []) (ls' := [.ref 41, .int x3_1146, .int 0]) rfl rfl (Or.inl rfl) pm_M273 T.2.1 rfl (by decide) (Nat.lt_of_lt_of_le (by decide) T.1) rfl rfl (Nat.le_of_ble_eq_true rfl) rfl rfl ?_
            refine pm_R_lo pm_M273 (pc' := 1) rfl rfl rfl ?_
            refine rf_R_get pm_M273 T (pc' := 4) (v := .ref 50) rfl rfl rfl rfl ?_
            refine pm_R_op pm_M273 (pc' := 6) (st' := [.int 25, .ref 50]) rfl rfl rfl ?_
            refine pm_R_lo pm_M273 (pc' := 7) rfl rfl rfl ?_
            refine rf_R_get pm_M273 T (pc' := 10) (v := .int (m 49)) rfl rfl rfl rfl ?_
            refine sf_R_imul pm_M273 (pc' := 11) rfl rfl sf_k25 B1147 (by decide) (by decide) (by decide) (fun z1252 e1253 B1254 => ?_)
            refine pm_R_op pm_M273 (pc' := 12) (st' := [.int 1, .int z1252, .ref 50]) rfl rfl rfl ?_
            refine sf_R_iadd pm_M273 (pc' := 13) rfl rfl B1254 sf_k1 (by decide) (by decide) (fun z1255 e1256 B1257 => ?_)
            refine pm_R_op pm_M273 (pc' := 14) (st' := [.int 3, .int z1255, .ref 50]) rfl rfl rfl ?_
            refine pm_R_lo pm_M273 (pc' := 15) rfl rfl rfl ?_
            refine sf_R_imul pm_M273 (pc' := 16) rfl rfl sf_k3 B1159 (by decide) (by decide) (by decide) (fun z1258 e1259 B1260 => ?_)
            refine sf_R_iadd pm_M273 (pc' := 17) rfl rfl B1257 B1260 (by decide) (by decide) (fun z1261 e1262 B1263 => ?_)
            refine pm_R_lo pm_M273 (pc' := 18) rfl rfl rfl ?_
            refine sf_R_iadd pm_M273 (pc' := 19) rfl rfl B1263 sf_k0 (by decide) (by decide) (fun z1264 e1265 B1266 => ?_)
            refine rf_R_ild pm_M273 T (pc' := 20) rfl e1152 (by decide) (sf_in B1266 (by decide) (by decide)) rfl (fun z1267 ez1268 => ?_)
            have e1269 : (z1264).toInt = 25 * ((m 49)).toInt + 3 * (x3_1146).toInt + 1 := by
              have q0 := e1253
              have q1 := e1256
              have q2 := e1259
              have q3 := e1262
              have q4 := e1265
              simp only [(show (0 : Int32).toInt = 0 from rfl), (show (1 : Int32).toInt = 1 from rfl), (show (3 : Int32).toInt = 3 from rfl), (show (25 : Int32).toInt = 25 from rfl)] at q0 q1 q2 q3 q4
              omega
            have B1270 : sf_B 0 5 z1267 := ez1268 ▸ rf_p50s b1153 e1269 B1147 B1159 (by decide) (by decide) (by decide)
            refine pm_R_ret pm_M273 (r := some (.int z1267)) rfl (pm_ret_i _) ?_
            show pm_R _ 277 39 [.ref 41, .int a0, .int x3_1146, .int z1210, .int z1229, .int z1248] [.int z1267] _ _
            by_cases c1271 : z1267 = 0
            · rw [c1271]
              refine pm_R_br pm_M277 (pc' := 72) (st' := []) rfl rfl ?_
              refine pm_R_lo pm_M277 (pc' := 73) rfl rfl rfl ?_
              refine pm_R_lo pm_M277 (pc' := 75) rfl rfl rfl ?_
              refine pm_R_icmp pm_M277 (t := 82) (pc' := 78) rfl rfl rfl (fun c1272 => ?_) (fun c1272 => ?_)
              · skip
                refine pm_R_op pm_M277 (pc' := 83) (st' := [.int 0]) rfl rfl rfl ?_
                refine pm_R_ret pm_M277 (r := some (.int 0)) rfl rfl ?_
                show pm_R _ 276 21 [.ref 41, .int a0, .int a1, .int x3_1146] [.int 0] _ _
                refine pm_R_br pm_M276 (pc' := 26) (st' := []) rfl rfl ?_
                refine sf_R_iinc pm_M276 (pc' := 29) (ls' := fun z => [.ref 41, .int a0, .int a1, .int z]) rfl B1159 rfl (by decide) (by decide) (by decide) (fun _ => rfl) rfl (fun z1273 e1274 B1275 => ?_)
                show pm_R _ 276 29 [.ref 41, .int a0, .int a1, .int z1273] [] _ _
                refine pm_R_br pm_M276 (pc' := 2) rfl rfl ?_
                exact ih_1146 _ (sf_up hN_1146 e1274 B1159 (by decide) (by decide)) z1273 (sf_weak B1275 (by decide) (by decide)) rfl
              · have B1276 : sf_B 0 9 z1210 := sf_eqL (Classical.not_not.mp c1272) B1232
                refine pm_R_op pm_M277 (pc' := 79) (st' := [.int 1]) rfl rfl rfl ?_
                refine pm_R_br pm_M277 (pc' := 83) rfl rfl ?_
                refine pm_R_ret pm_M277 (r := some (.int 1)) rfl rfl ?_
                show pm_R _ 276 21 [.ref 41, .int a0, .int a1, .int x3_1146] [.int 1] _ _
                refine pm_R_br pm_M276 (pc' := 24) (st' := []) rfl rfl ?_
                refine pm_R_lo pm_M276 (pc' := 25) rfl rfl rfl ?_
                exact pm_R_ret pm_M276 (r := some (.int x3_1146)) rfl (pm_ret_i _) (K x3_1146 (sf_weak B1159 (by decide) (by decide)))
            have B1277 : sf_B 1 5 z1267 := sf_neL0 c1271 sf_k0 B1270
            by_cases c1278 : z1267 = 1
            · rw [c1278]
              refine pm_R_br pm_M277 (pc' := 84) (st' := []) rfl rfl ?_
              refine pm_R_lo pm_M277 (pc' := 85) rfl rfl rfl ?_
              refine pm_R_lo pm_M277 (pc' := 87) rfl rfl rfl ?_
              refine pm_R_icmp pm_M277 (t := 105) (pc' := 90) rfl rfl rfl (fun c1279 => ?_) (fun c1279 => ?_)
              · skip
                refine pm_R_op pm_M277 (pc' := 106) (st' := [.int 0]) rfl rfl rfl ?_
                refine pm_R_ret pm_M277 (r := some (.int 0)) rfl rfl ?_
                show pm_R _ 276 21 [.ref 41, .int a0, .int a1, .int x3_1146] [.int 0] _ _
                refine pm_R_br pm_M276 (pc' := 26) (st' := []) rfl rfl ?_
                refine sf_R_iinc pm_M276 (pc' := 29) (ls' := fun z => [.ref 41, .int a0, .int a1, .int z]) rfl B1159 rfl (by decide) (by decide) (by decide) (fun _ => rfl) rfl (fun z1280 e1281 B1282 => ?_)
                show pm_R _ 276 29 [.ref 41, .int a0, .int a1, .int z1280] [] _ _
                refine pm_R_br pm_M276 (pc' := 2) rfl rfl ?_
                exact ih_1146 _ (sf_up hN_1146 e1281 B1159 (by decide) (by decide)) z1280 (sf_weak B1282 (by decide) (by decide)) rfl
              · have B1283 : sf_B 0 9 z1210 := sf_eqL (Classical.not_not.mp c1279) B1232
                refine pm_R_lo pm_M277 (pc' := 91) rfl rfl rfl ?_
                refine pm_R_lo pm_M277 (pc' := 92) rfl rfl rfl ?_
                refine pm_R_lo pm_M277 (pc' := 93) rfl rfl rfl ?_
                refine pm_R_cv pm_M277 (pc' := 96) (a := 41) (ra := [.int z1210, .int a0]) (rest := []) (ls' := [.ref 41, .int a0, .int z1210, pm_no, pm_no]) rfl rfl (Or.inl rfl) pm_M278 T.2.1 rfl (by decide) (Nat.lt_of_lt_of_le (by decide) T.1) rfl rfl (Nat.le_of_ble_eq_true rfl) rfl rfl ?_
                refine rf_c278 (d := d + 0) T (sf_weak Ba0 (by decide) (by decide)) (fun r1284 => ?_)
                show pm_R _ 277 96 [.ref 41, .int a0, .int x3_1146, .int z1210, .int z1229, .int z1248] [.int r1284] _ _
                refine pm_R_lo pm_M277 (pc' := 98) rfl rfl rfl ?_
                refine pm_R_icmp pm_M277 (t := 105) (pc' := 101) rfl rfl rfl (fun c1292 => ?_) (fun c1292 => ?_)
                · have B1293 : sf_B (-2147483648) 8 r1284 := sf_ltL c1292 (sf_any r1284) B1251
                  refine pm_R_op pm_M277 (pc' := 106) (st' := [.int 0]) rfl rfl rfl ?_
                  refine pm_R_ret pm_M277 (r := some (.int 0)) rfl rfl ?_
                  show pm_R _ 276 21 [.ref 41, .int a0, .int a1, .int x3_1146] [.int 0] _ _
                  refine pm_R_br pm_M276 (pc' := 26) (st' := []) rfl rfl ?_
                  refine sf_R_iinc pm_M276 (pc' := 29) (ls' := fun z => [.ref 41, .int a0, .int a1, .int z]) rfl B1159 rfl (by decide) (by decide) (by decide) (fun _ => rfl) rfl (fun z1294 e1295 B1296 => ?_)
                  show pm_R _ 276 29 [.ref 41, .int a0, .int a1, .int z1294] [] _ _
                  refine pm_R_br pm_M276 (pc' := 2) rfl rfl ?_
                  exact ih_1146 _ (sf_up hN_1146 e1295 B1159 (by decide) (by decide)) z1294 (sf_weak B1296 (by decide) (by decide)) rfl
                · have B1297 : sf_B (-1) 2147483647 r1284 := sf_leR (Int32.not_lt.mp c1292) B1251 (sf_any r1284)
                  refine pm_R_op pm_M277 (pc' := 102) (st' := [.int 1]) rfl rfl rfl ?_
                  refine pm_R_br pm_M277 (pc' := 106) rfl rfl ?_
                  refine pm_R_ret pm_M277 (r := some (.int 1)) rfl rfl ?_
                  show pm_R _ 276 21 [.ref 41, .int a0, .int a1, .int x3_1146] [.int 1] _ _
                  refine pm_R_br pm_M276 (pc' := 24) (st' := []) rfl rfl ?_
                  refine pm_R_lo pm_M276 (pc' := 25) rfl rfl rfl ?_
                  exact pm_R_ret pm_M276 (r := some (.int x3_1146)) rfl (pm_ret_i _) (K x3_1146 (sf_weak B1159 (by decide) (by decide)))
            have B1298 : sf_B 2 5 z1267 := sf_neL0 c1278 sf_k1 B1277
            by_cases c1299 : z1267 = 2
            · rw [c1299]
              refine pm_R_br pm_M277 (pc' := 107) (st' := []) rfl rfl ?_
              refine pm_R_lo pm_M277 (pc' := 108) rfl rfl rfl ?_
              refine pm_R_lo pm_M277 (pc' := 110) rfl rfl rfl ?_
              refine pm_R_icmp pm_M277 (t := 127) (pc' := 113) rfl rfl rfl (fun c1300 => ?_) (fun c1300 => ?_)
              · skip
                refine pm_R_op pm_M277 (pc' := 128) (st' := [.int 0]) rfl rfl rfl ?_
                refine pm_R_ret pm_M277 (r := some (.int 0)) rfl rfl ?_
                show pm_R _ 276 21 [.ref 41, .int a0, .int a1, .int x3_1146] [.int 0] _ _
                refine pm_R_br pm_M276 (pc' := 26) (st' := []) rfl rfl ?_
                refine sf_R_iinc pm_M276 (pc' := 29) (ls' := fun z => [.ref 41, .int a0, .int a1, .int z]) rfl B1159 rfl (by decide) (by decide) (by decide) (fun _ => rfl) rfl (fun z1301 e1302 B1303 => ?_)
                show pm_R _ 276 29 [.ref 41, .int a0, .int a1, .int z1301] [] _ _
                refine pm_R_br pm_M276 (pc' := 2) rfl rfl ?_
                exact ih_1146 _ (sf_up hN_1146 e1302 B1159 (by decide) (by decide)) z1301 (sf_weak B1303 (by decide) (by decide)) rfl
              · refine pm_R_lo pm_M277 (pc' := 114) rfl rfl rfl ?_
                refine pm_R_lo pm_M277 (pc' := 115) rfl rfl rfl ?_
                refine pm_R_lo pm_M277 (pc' := 117) rfl rfl rfl ?_
                refine pm_R_cv pm_M277 (pc' := 120) (a := 41) (ra := [.int z1229, .int a0]) (rest := []) (ls' := [.ref 41, .int a0, .int z1229, pm_no, pm_no]) rfl rfl (Or.inl rfl) pm_M278 T.2.1 rfl (by decide) (Nat.lt_of_lt_of_le (by decide) T.1) rfl rfl (Nat.le_of_ble_eq_true rfl) rfl rfl ?_
                refine rf_c278 (d := d + 0) T (sf_weak Ba0 (by decide) (by decide)) (fun r1304 => ?_)
                show pm_R _ 277 120 [.ref 41, .int a0, .int x3_1146, .int z1210, .int z1229, .int z1248] [.int r1304] _ _
                refine pm_R_ifc pm_M277 (t := 127) (pc' := 123) rfl rfl rfl (fun c1312 => ?_) (fun c1312 => ?_)
                · skip
                  refine pm_R_op pm_M277 (pc' := 128) (st' := [.int 0]) rfl rfl rfl ?_
                  refine pm_R_ret pm_M277 (r := some (.int 0)) rfl rfl ?_
                  show pm_R _ 276 21 [.ref 41, .int a0, .int a1, .int x3_1146] [.int 0] _ _
                  refine pm_R_br pm_M276 (pc' := 26) (st' := []) rfl rfl ?_
                  refine sf_R_iinc pm_M276 (pc' := 29) (ls' := fun z => [.ref 41, .int a0, .int a1, .int z]) rfl B1159 rfl (by decide) (by decide) (by decide) (fun _ => rfl) rfl (fun z1313 e1314 B1315 => ?_)
                  show pm_R _ 276 29 [.ref 41, .int a0, .int a1, .int z1313] [] _ _
                  refine pm_R_br pm_M276 (pc' := 2) rfl rfl ?_
                  exact ih_1146 _ (sf_up hN_1146 e1314 B1159 (by decide) (by decide)) z1313 (sf_weak B1315 (by decide) (by decide)) rfl
                · have B1316 : sf_B 0 0 r1304 := sf_eqL (Classical.not_not.mp c1312) sf_k0
                  refine pm_R_op pm_M277 (pc' := 124) (st' := [.int 1]) rfl rfl rfl ?_
                  refine pm_R_br pm_M277 (pc' := 128) rfl rfl ?_
                  refine pm_R_ret pm_M277 (r := some (.int 1)) rfl rfl ?_
                  show pm_R _ 276 21 [.ref 41, .int a0, .int a1, .int x3_1146] [.int 1] _ _
                  refine pm_R_br pm_M276 (pc' := 24) (st' := []) rfl rfl ?_
                  refine pm_R_lo pm_M276 (pc' := 25) rfl rfl rfl ?_
                  exact pm_R_ret pm_M276 (r := some (.int x3_1146)) rfl (pm_ret_i _) (K x3_1146 (sf_weak B1159 (by decide) (by decide)))
            have B1317 : sf_B 3 5 z1267 := sf_neL0 c1299 sf_k2 B1298
            by_cases c1318 : z1267 = 3
            · rw [c1318]
              refine pm_R_br pm_M277 (pc' := 129) (st' := []) rfl rfl ?_
              refine pm_R_lo pm_M277 (pc' := 130) rfl rfl rfl ?_
              refine pm_R_lo pm_M277 (pc' := 132) rfl rfl rfl ?_
              refine pm_R_icmp pm_M277 (t := 149) (pc' := 135) (pm_q277_1 (Nat.le_of_ble_eq_true rfl)) rfl rfl (fun c1319 => ?_) (fun c1319 => ?_)
              · skip
                refine pm_R_op pm_M277 (pc' := 150) (st' := [.int 0]) (pm_q277_1 (Nat.le_of_ble_eq_true rfl)) rfl rfl ?_
                refine pm_R_ret pm_M277 (r := some (.int 0)) (pm_q277_1 (Nat.le_of_ble_eq_true rfl)) rfl ?_
                show pm_R _ 276 21 [.ref 41, .int a0, .int a1, .int x3_1146] [.int 0] _ _
                refine pm_R_br pm_M276 (pc' := 26) (st' := []) rfl rfl ?_
                refine sf_R_iinc pm_M276 (pc' := 29) (ls' := fun z => [.ref 41, .int a0, .int a1, .int z]) rfl B1159 rfl (by decide) (by decide) (by decide) (fun _ => rfl) rfl (fun z1320 e1321 B1322 => ?_)
                show pm_R _ 276 29 [.ref 41, .int a0, .int a1, .int z1320] [] _ _
                refine pm_R_br pm_M276 (pc' := 2) rfl rfl ?_
                exact ih_1146 _ (sf_up hN_1146 e1321 B1159 (by decide) (by decide)) z1320 (sf_weak B1322 (by decide) (by decide)) rfl
              · refine pm_R_lo pm_M277 (pc' := 136) (pm_q277_1 (Nat.le_of_ble_eq_true rfl)) rfl rfl ?_
                refine pm_R_lo pm_M277 (pc' := 137) (pm_q277_1 (Nat.le_of_ble_eq_true rfl)) rfl rfl ?_
                refine pm_R_cv pm_M277 (pc' := 140) (a := 41) (ra := [.int a0]) (rest := []) (ls' := [.ref 41, .int a0, pm_no]) (pm_q277_1 (Nat.le_of_ble_eq_true rfl)) rfl (Or.inl rfl) pm_M279 T.2.1 rfl (by decide) (Nat.lt_of_lt_of_le (by decide) T.1) rfl rfl (Nat.le_of_ble_eq_true rfl) rfl rfl ?_
                refine rf_c279 (d := d + 0) T Ba0 (fun r1323 B1324 => ?_)
                show pm_R _ 277 140 [.ref 41, .int a0, .int x3_1146, .int z1210, .int z1229, .int z1248] [.int r1323] _ _
                refine pm_R_lo pm_M277 (pc' := 142) (pm_q277_1 (Nat.le_of_ble_eq_true rfl)) rfl rfl ?_
                refine pm_R_icmp pm_M277 (t := 149) (pc' := 145) (pm_q277_1 (Nat.le_of_ble_eq_true rfl)) rfl rfl (fun c1331 => ?_) (fun c1331 => ?_)
                · skip
                  refine pm_R_op pm_M277 (pc' := 150) (st' := [.int 0]) (pm_q277_1 (Nat.le_of_ble_eq_true rfl)) rfl rfl ?_
                  refine pm_R_ret pm_M277 (r := some (.int 0)) (pm_q277_1 (Nat.le_of_ble_eq_true rfl)) rfl ?_
                  show pm_R _ 276 21 [.ref 41, .int a0, .int a1, .int x3_1146] [.int 0] _ _
                  refine pm_R_br pm_M276 (pc' := 26) (st' := []) rfl rfl ?_
                  refine sf_R_iinc pm_M276 (pc' := 29) (ls' := fun z => [.ref 41, .int a0, .int a1, .int z]) rfl B1159 rfl (by decide) (by decide) (by decide) (fun _ => rfl) rfl (fun z1332 e1333 B1334 => ?_)
                  show pm_R _ 276 29 [.ref 41, .int a0, .int a1, .int z1332] [] _ _
                  refine pm_R_br pm_M276 (pc' := 2) rfl rfl ?_
                  exact ih_1146 _ (sf_up hN_1146 e1333 B1159 (by decide) (by decide)) z1332 (sf_weak B1334 (by decide) (by decide)) rfl
                · have B1335 : sf_B 0 9 r1323 := sf_eqL (Classical.not_not.mp c1331) B1232
                  refine pm_R_op pm_M277 (pc' := 146) (st' := [.int 1]) (pm_q277_1 (Nat.le_of_ble_eq_true rfl)) rfl rfl ?_
                  refine pm_R_br pm_M277 (pc' := 150) (pm_q277_1 (Nat.le_of_ble_eq_true rfl)) rfl ?_
                  refine pm_R_ret pm_M277 (r := some (.int 1)) (pm_q277_1 (Nat.le_of_ble_eq_true rfl)) rfl ?_
                  show pm_R _ 276 21 [.ref 41, .int a0, .int a1, .int x3_1146] [.int 1] _ _
                  refine pm_R_br pm_M276 (pc' := 24) (st' := []) rfl rfl ?_
                  refine pm_R_lo pm_M276 (pc' := 25) rfl rfl rfl ?_
                  exact pm_R_ret pm_M276 (r := some (.int x3_1146)) rfl (pm_ret_i _) (K x3_1146 (sf_weak B1159 (by decide) (by decide)))
            have B1336 : sf_B 4 5 z1267 := sf_neL0 c1318 sf_k3 B1317
            by_cases c1337 : z1267 = 4
            · rw [c1337]
              refine pm_R_br pm_M277 (pc' := 151) (st' := []) rfl rfl ?_
              refine pm_R_lo pm_M277 (pc' := 152) (pm_q277_1 (Nat.le_of_ble_eq_true rfl)) rfl rfl ?_
              refine pm_R_lo pm_M277 (pc' := 154) (pm_q277_1 (Nat.le_of_ble_eq_true rfl)) rfl rfl ?_
              refine pm_R_icmp pm_M277 (t := 175) (pc' := 157) (pm_q277_1 (Nat.le_of_ble_eq_true rfl)) rfl rfl (fun c1338 => ?_) (fun c1338 => ?_)
              · skip
                refine pm_R_op pm_M277 (pc' := 176) (st' := [.int 0]) (pm_q277_1 (Nat.le_of_ble_eq_true rfl)) rfl rfl ?_
                refine pm_R_ret pm_M277 (r := some (.int 0)) (pm_q277_1 (Nat.le_of_ble_eq_true rfl)) rfl ?_
                show pm_R _ 276 21 [.ref 41, .int a0, .int a1, .int x3_1146] [.int 0] _ _
                refine pm_R_br pm_M276 (pc' := 26) (st' := []) rfl rfl ?_
                refine sf_R_iinc pm_M276 (pc' := 29) (ls' := fun z => [.ref 41, .int a0, .int a1, .int z]) rfl B1159 rfl (by decide) (by decide) (by decide) (fun _ => rfl) rfl (fun z1339 e1340 B1341 => ?_)
                show pm_R _ 276 29 [.ref 41, .int a0, .int a1, .int z1339] [] _ _
                refine pm_R_br pm_M276 (pc' := 2) rfl rfl ?_
                exact ih_1146 _ (sf_up hN_1146 e1340 B1159 (by decide) (by decide)) z1339 (sf_weak B1341 (by decide) (by decide)) rfl
              · have B1342 : sf_B 0 9 z1210 := sf_eqL (Classical.not_not.mp c1338) B1232
                refine pm_R_lo pm_M277 (pc' := 158) (pm_q277_1 (Nat.le_of_ble_eq_true rfl)) rfl rfl ?_
                refine rf_R_get pm_M277 T (pc' := 161) (v := .ref 68) (pm_q277_1 (Nat.le_of_ble_eq_true rfl)) rfl rfl rfl ?_
                refine pm_R_lo pm_M277 (pc' := 162) (pm_q277_1 (Nat.le_of_ble_eq_true rfl)) rfl rfl ?_
                obtain ⟨f1343, e1344⟩ := T.2.2.2.1 68 (by decide) (by decide)
                refine rf_R_ild pm_M277 T (pc' := 163) (pm_q277_1 (Nat.le_of_ble_eq_true rfl)) e1344 (by decide) (sf_in Ba0 (by decide) (by decide)) rfl (fun z1346 ez1347 => ?_)
                refine sf_R_lany pm_M277 (pc' := 164) (st := []) (pm_q277_1 (Nat.le_of_ble_eq_true rfl)) rfl rfl (fun z1348 => ?_)
                refine pm_R_op pm_M277 (pc' := 165) (st' := [.int 0, .long z1348]) (pm_q277_1 (Nat.le_of_ble_eq_true rfl)) rfl rfl ?_
                refine pm_R_cs pm_M277 (pc' := 168) (ra := [.int 0, .long z1348]) (rest := []) (ls' := [.long z1348, pm_no, .int 0]) (pm_q277_1 (Nat.le_of_ble_eq_true rfl)) rfl (Or.inl rfl) pm_M206 rfl rfl (Nat.le_of_ble_eq_true rfl) rfl rfl ?_
                refine pm_R_lo pm_M206 (pc' := 1) rfl rfl rfl ?_
                refine pm_R_lo pm_M206 (pc' := 2) rfl rfl rfl ?_
                refine sf_R_lany pm_M206 (pc' := 3) (st := []) rfl rfl rfl (fun z1349 => ?_)
                refine pm_R_op pm_M206 (pc' := 4) (st' := [.long 1, .long z1349]) rfl rfl rfl ?_
                refine sf_R_lany pm_M206 (pc' := 5) (st := []) rfl rfl rfl (fun z1350 => ?_)
                refine pm_R_op pm_M206 (pc' := 6) (st' := [.long 1, .long z1350]) rfl rfl rfl ?_
                refine sf_R_lcmp pm_M206 (pc' := 7) rfl rfl (fun z1351 e1352 => ?_)
                refine pm_R_ifc pm_M206 (t := 14) (pc' := 10) rfl rfl rfl (fun c1353 => ?_) (fun c1353 => ?_)
                · have k1354 := sf_lneC e1352 c1353
                  refine pm_R_op pm_M206 (pc' := 15) (st' := [.int 0]) rfl rfl rfl ?_
                  refine pm_R_ret pm_M206 (r := some (.int 0)) rfl rfl ?_
                  show pm_R _ 277 168 [.ref 41, .int a0, .int x3_1146, .int z1210, .int z1229, .int z1248] [.int 0] _ _
                  refine pm_R_br pm_M277 (pc' := 175) (st' := []) (pm_q277_1 (Nat.le_of_ble_eq_true rfl)) rfl ?_
                  refine pm_R_op pm_M277 (pc' := 176) (st' := [.int 0]) (pm_q277_1 (Nat.le_of_ble_eq_true rfl)) rfl rfl ?_
                  refine pm_R_ret pm_M277 (r := some (.int 0)) (pm_q277_1 (Nat.le_of_ble_eq_true rfl)) rfl ?_
                  show pm_R _ 276 21 [.ref 41, .int a0, .int a1, .int x3_1146] [.int 0] _ _
                  refine pm_R_br pm_M276 (pc' := 26) (st' := []) rfl rfl ?_
                  refine sf_R_iinc pm_M276 (pc' := 29) (ls' := fun z => [.ref 41, .int a0, .int a1, .int z]) rfl B1159 rfl (by decide) (by decide) (by decide) (fun _ => rfl) rfl (fun z1355 e1356 B1357 => ?_)
                  show pm_R _ 276 29 [.ref 41, .int a0, .int a1, .int z1355] [] _ _
                  refine pm_R_br pm_M276 (pc' := 2) rfl rfl ?_
                  exact ih_1146 _ (sf_up hN_1146 e1356 B1159 (by decide) (by decide)) z1355 (sf_weak B1357 (by decide) (by decide)) rfl
                · have B1358 : sf_B 0 0 z1351 := sf_eqL (Classical.not_not.mp c1353) sf_k0
                  refine pm_R_op pm_M206 (pc' := 11) (st' := [.int 1]) rfl rfl rfl ?_
                  refine pm_R_br pm_M206 (pc' := 15) rfl rfl ?_
                  refine pm_R_ret pm_M206 (r := some (.int 1)) rfl rfl ?_
                  show pm_R _ 277 168 [.ref 41, .int a0, .int x3_1146, .int z1210, .int z1229, .int z1248] [.int 1] _ _
                  refine pm_R_br pm_M277 (pc' := 171) (st' := []) (pm_q277_1 (Nat.le_of_ble_eq_true rfl)) rfl ?_
                  refine pm_R_op pm_M277 (pc' := 172) (st' := [.int 1]) (pm_q277_1 (Nat.le_of_ble_eq_true rfl)) rfl rfl ?_
                  refine pm_R_br pm_M277 (pc' := 176) (pm_q277_1 (Nat.le_of_ble_eq_true rfl)) rfl ?_
                  refine pm_R_ret pm_M277 (r := some (.int 1)) (pm_q277_1 (Nat.le_of_ble_eq_true rfl)) rfl ?_
                  show pm_R _ 276 21 [.ref 41, .int a0, .int a1, .int x3_1146] [.int 1] _ _
                  refine pm_R_br pm_M276 (pc' := 24) (st' := []) rfl rfl ?_
                  refine pm_R_lo pm_M276 (pc' := 25) rfl rfl rfl ?_
                  exact pm_R_ret pm_M276 (r := some (.int x3_1146)) rfl (pm_ret_i _) (K x3_1146 (sf_weak B1159 (by decide) (by decide)))
            have B1359 : sf_B 5 5 z1267 := sf_neL0 c1337 sf_k4 B1336
            rw [sf_pt2 B1359 sf_k5]
            refine pm_R_br pm_M277 (pc' := 177) (st' := []) rfl rfl ?_
            refine pm_R_lo pm_M277 (pc' := 178) (pm_q277_1 (Nat.le_of_ble_eq_true rfl)) rfl rfl ?_
            refine pm_R_lo pm_M277 (pc' := 180) (pm_q277_1 (Nat.le_of_ble_eq_true rfl)) rfl rfl ?_
            refine pm_R_icmp pm_M277 (t := 196) (pc' := 183) (pm_q277_1 (Nat.le_of_ble_eq_true rfl)) rfl rfl (fun c1360 => ?_) (fun c1360 => ?_)
            · skip
              refine pm_R_op pm_M277 (pc' := 197) (st' := [.int 0]) (pm_q277_1 (Nat.le_of_ble_eq_true rfl)) rfl rfl ?_
              refine pm_R_ret pm_M277 (r := some (.int 0)) (pm_q277_1 (Nat.le_of_ble_eq_true rfl)) rfl ?_
              show pm_R _ 276 21 [.ref 41, .int a0, .int a1, .int x3_1146] [.int 0] _ _
              refine pm_R_br pm_M276 (pc' := 26) (st' := []) rfl rfl ?_
              refine sf_R_iinc pm_M276 (pc' := 29) (ls' := fun z => [.ref 41, .int a0, .int a1, .int z]) rfl B1159 rfl (by decide) (by decide) (by decide) (fun _ => rfl) rfl (fun z1361 e1362 B1363 => ?_)
              show pm_R _ 276 29 [.ref 41, .int a0, .int a1, .int z1361] [] _ _
              refine pm_R_br pm_M276 (pc' := 2) rfl rfl ?_
              exact ih_1146 _ (sf_up hN_1146 e1362 B1159 (by decide) (by decide)) z1361 (sf_weak B1363 (by decide) (by decide)) rfl
            · have B1364 : sf_B 0 9 z1210 := sf_eqL (Classical.not_not.mp c1360) B1232
              refine pm_R_lo pm_M277 (pc' := 184) (pm_q277_1 (Nat.le_of_ble_eq_true rfl)) rfl rfl ?_
              refine rf_R_get pm_M277 T (pc' := 187) (v := .ref 68) (pm_q277_1 (Nat.le_of_ble_eq_true rfl)) rfl rfl rfl ?_
              refine pm_R_lo pm_M277 (pc' := 188) (pm_q277_1 (Nat.le_of_ble_eq_true rfl)) rfl rfl ?_
              obtain ⟨f1365, e1366⟩ := T.2.2.2.1 68 (by decide) (by decide)
              refine rf_R_ild pm_M277 T (pc' := 189) (pm_q277_1 (Nat.le_of_ble_eq_true rfl)) e1366 (by decide) (sf_in Ba0 (by decide) (by decide)) rfl (fun z1368 ez1369 => ?_)
              refine pm_R_ifc pm_M277 (t := 196) (pc' := 192) (pm_q277_1 (Nat.le_of_ble_eq_true rfl)) rfl rfl (fun c1370 => ?_) (fun c1370 => ?_)
              · skip
                refine pm_R_op pm_M277 (pc' := 197) (st' := [.int 0]) (pm_q277_1 (Nat.le_of_ble_eq_true rfl)) rfl rfl ?_
                refine pm_R_ret pm_M277 (r := some (.int 0)) (pm_q277_1 (Nat.le_of_ble_eq_true rfl)) rfl ?_
                show pm_R _ 276 21 [.ref 41, .int a0, .int a1, .int x3_1146] [.int 0] _ _
                refine pm_R_br pm_M276 (pc' := 26) (st' := []) rfl rfl ?_
                refine sf_R_iinc pm_M276 (pc' := 29) (ls' := fun z => [.ref 41, .int a0, .int a1, .int z]) rfl B1159 rfl (by decide) (by decide) (by decide) (fun _ => rfl) rfl (fun z1371 e1372 B1373 => ?_)
                show pm_R _ 276 29 [.ref 41, .int a0, .int a1, .int z1371] [] _ _
                refine pm_R_br pm_M276 (pc' := 2) rfl rfl ?_
                exact ih_1146 _ (sf_up hN_1146 e1372 B1159 (by decide) (by decide)) z1371 (sf_weak B1373 (by decide) (by decide)) rfl
              · have B1374 : sf_B 0 0 z1368 := sf_eqL (Classical.not_not.mp c1370) sf_k0
                refine pm_R_op pm_M277 (pc' := 193) (st' := [.int 1]) (pm_q277_1 (Nat.le_of_ble_eq_true rfl)) rfl rfl ?_
                refine pm_R_br pm_M277 (pc' := 197) (pm_q277_1 (Nat.le_of_ble_eq_true rfl)) rfl ?_
                refine pm_R_ret pm_M277 (r := some (.int 1)) (pm_q277_1 (Nat.le_of_ble_eq_true rfl)) rfl ?_
                show pm_R _ 276 21 [.ref 41, .int a0, .int a1, .int x3_1146] [.int 1] _ _
                refine pm_R_br pm_M276 (pc' := 24) (st' := []) rfl rfl ?_
                refine pm_R_lo pm_M276 (pc' := 25) rfl rfl rfl ?_
                exact pm_R_ret pm_M276 (r := some (.int x3_1146)) rfl (pm_ret_i _) (K x3_1146 (sf_weak B1159 (by decide) (by decide)))
  exact L_1146 _ 0 (sf_weak sf_k0 (by decide) (by decide)) rfl

set_option maxRecDepth 100000 in
set_option maxHeartbeats 4000000 in
/-- SilentTableModel.sinsBut -/
theorem rf_c281 {d : Nat} {m : Nat → Int32} {w : Int64} {h : pm_H} {Q : Option Value → pm_H → Prop} {a0 : Int32} {a1 : Int32} (T : rf_T m w h)  (K : ∀ (r : Int32), Q (some (.int r)) h) : pm_R (d + 5) 281 0 [.ref 41, .int a0, .int a1, pm_no, pm_no] [] h Q := by
  refine pm_R_op pm_M281 (pc' := 1) (st' := [.int 0]) rfl rfl rfl ?_
  refine pm_R_lo pm_M281 (pc' := 2) (ls' := [.ref 41, .int a0, .int a1, .int 0, pm_no]) (st' := []) rfl rfl rfl ?_
  refine pm_R_op pm_M281 (pc' := 3) (st' := [.int 0]) rfl rfl rfl ?_
  refine pm_R_lo pm_M281 (pc' := 5) (ls' := [.ref 41, .int a0, .int a1, .int 0, .int 0]) (st' := []) rfl rfl rfl ?_
  have L_432 : ∀ (N : Nat) (x3_432 : Int32) (x4_432 : Int32), sf_B (-2147483648) 2147483647 x3_432 → sf_B 0 50 x4_432 → (50 - x4_432.toInt).toNat = N → pm_R (d + 5) 281 5 [.ref 41, .int a0, .int a1, .int x3_432, .int x4_432] [] h Q := by
    intro N
    induction N using Nat.strongRecOn with
    | ind N ih_432 =>
      intro x3_432 x4_432 Bx3_432 Bx4_432 hN_432
      refine pm_R_lo pm_M281 (pc' := 7) rfl rfl rfl ?_
      refine pm_R_lo pm_M281 (pc' := 8) rfl rfl rfl ?_
      have B433 : sf_B 0 50 (m 43) := T.2.2.1 43
      refine rf_R_get pm_M281 T (pc' := 11) (v := .int (m 43)) rfl rfl rfl rfl ?_
      refine pm_R_icmp pm_M281 (t := 55) (pc' := 14) rfl rfl rfl (fun c434 => ?_) (fun c434 => ?_)
      · skip
        refine pm_R_lo pm_M281 (pc' := 56) rfl rfl rfl ?_
        exact pm_R_ret pm_M281 (r := some (.int x3_432)) rfl (pm_ret_i _) (K x3_432)
      · have B435 : sf_B 0 49 x4_432 := sf_ltL (Int32.not_le.mp c434) Bx4_432 B433
        have B436 : sf_B 1 50 (m 43) := sf_ltR (Int32.not_le.mp c434) Bx4_432 B433
        refine pm_R_lo pm_M281 (pc' := 15) rfl rfl rfl ?_
        refine pm_R_lo pm_M281 (pc' := 16) rfl rfl rfl ?_
        refine pm_R_op pm_M281 (pc' := 17) (st' := [.int (-1), .int a0, .int x3_432]) rfl rfl rfl ?_
        refine pm_R_icmp pm_M281 (t := 31) (pc' := 20) rfl rfl rfl (fun c437 => ?_) (fun c437 => ?_)
        · have B438 : sf_B (-1) (-1) a0 := sf_eqL c437 sf_kn1
          refine pm_R_lo pm_M281 (pc' := 32) rfl rfl rfl ?_
          refine pm_R_lo pm_M281 (pc' := 34) rfl rfl rfl ?_
          refine pm_R_lo pm_M281 (pc' := 35) rfl rfl rfl ?_
          refine pm_R_cv pm_M281 (pc' := 38) (a := 41) (ra := [.int a1, .int x4_432]) (rest := [.int x3_432]) (ls' := [.ref 41, .int x4_432, .int a1, pm_no]) rfl rfl (Or.inl rfl) pm_M276 T.2.1 rfl (by decide) (Nat.lt_of_lt_of_le (by decide) T.1) rfl rfl (Nat.le_of_ble_eq_true rfl) rfl rfl ?_
          refine rf_c276 (d := d + 0) T B435 (fun r439 B440 => ?_)
          show pm_R _ 281 38 [.ref 41, .int a0, .int a1, .int x3_432, .int x4_432] [.int r439, .int x3_432] _ _
          refine pm_R_op pm_M281 (pc' := 39) (st' := [.int (-1), .int r439, .int x3_432]) rfl rfl rfl ?_
          refine pm_R_icmp pm_M281 (t := 46) (pc' := 42) rfl rfl rfl (fun c447 => ?_) (fun c447 => ?_)
          · have B448 : sf_B (-1) (-1) r439 := sf_eqL c447 sf_kn1
            refine pm_R_op pm_M281 (pc' := 47) (st' := [.int 0, .int x3_432]) rfl rfl rfl ?_
            refine sf_R_iadd pm_M281 (pc' := 48) rfl rfl Bx3_432 sf_k0 (by decide) (by decide) (fun z449 e450 B451 => ?_)
            refine pm_R_lo pm_M281 (pc' := 49) (ls' := [.ref 41, .int a0, .int a1, .int z449, .int x4_432]) (st' := []) rfl rfl rfl ?_
            refine sf_R_iinc pm_M281 (pc' := 52) (ls' := fun z => [.ref 41, .int a0, .int a1, .int z449, .int z]) rfl B435 rfl (by decide) (by decide) (by decide) (fun _ => rfl) rfl (fun z452 e453 B454 => ?_)
            show pm_R _ 281 52 [.ref 41, .int a0, .int a1, .int z449, .int z452] [] _ _
            refine pm_R_br pm_M281 (pc' := 5) rfl rfl ?_
            exact ih_432 _ (sf_up hN_432 e453 B435 (by decide) (by decide)) z449 z452 B451 (sf_weak B454 (by decide) (by decide)) rfl
          · have B455 : sf_B 0 7 r439 := sf_neL0 c447 sf_kn1 B440
            refine pm_R_op pm_M281 (pc' := 43) (st' := [.int 1, .int x3_432]) rfl rfl rfl ?_
            refine pm_R_br pm_M281 (pc' := 47) rfl rfl ?_
            refine sf_R_iany pm_M281 (pc' := 48) (st := []) rfl rfl rfl (fun z459 => ?_)
            refine pm_R_lo pm_M281 (pc' := 49) (ls' := [.ref 41, .int a0, .int a1, .int z459, .int x4_432]) (st' := []) rfl rfl rfl ?_
            refine sf_R_iinc pm_M281 (pc' := 52) (ls' := fun z => [.ref 41, .int a0, .int a1, .int z459, .int z]) rfl B435 rfl (by decide) (by decide) (by decide) (fun _ => rfl) rfl (fun z460 e461 B462 => ?_)
            show pm_R _ 281 52 [.ref 41, .int a0, .int a1, .int z459, .int z460] [] _ _
            refine pm_R_br pm_M281 (pc' := 5) rfl rfl ?_
            exact ih_432 _ (sf_up hN_432 e461 B435 (by decide) (by decide)) z459 z460 (sf_any z459) (sf_weak B462 (by decide) (by decide)) rfl
        · skip
          refine pm_R_lo pm_M281 (pc' := 21) rfl rfl rfl ?_
          refine pm_R_lo pm_M281 (pc' := 23) rfl rfl rfl ?_
          refine pm_R_op pm_M281 (pc' := 24) (st' := [.int 1, .int x4_432, .ref 41, .int x3_432]) rfl rfl rfl ?_
          refine pm_R_cv pm_M281 (pc' := 27) (a := 41) (ra := [.int 1, .int x4_432]) (rest := [.int x3_432]) (ls' := [.ref 41, .int x4_432, .int 1]) rfl rfl (Or.inl rfl) pm_M255 T.2.1 rfl (by decide) (Nat.lt_of_lt_of_le (by decide) T.1) rfl rfl (Nat.le_of_ble_eq_true rfl) rfl rfl ?_
          refine pm_R_lo pm_M255 (pc' := 1) rfl rfl rfl ?_
          refine rf_R_get pm_M255 T (pc' := 4) (v := .ref 49) rfl rfl rfl rfl ?_
          refine pm_R_op pm_M255 (pc' := 7) (st' := [.int 152, .ref 49]) rfl rfl rfl ?_
          refine pm_R_lo pm_M255 (pc' := 8) rfl rfl rfl ?_
          have B463 : sf_B 0 1 (m 44) := T.2.2.1 44
          refine rf_R_get pm_M255 T (pc' := 11) (v := .int (m 44)) rfl rfl rfl rfl ?_
          refine sf_R_imul pm_M255 (pc' := 12) rfl rfl sf_k152 B463 (by decide) (by decide) (by decide) (fun z464 e465 B466 => ?_)
          refine pm_R_op pm_M255 (pc' := 13) (st' := [.int 2, .int z464, .ref 49]) rfl rfl rfl ?_
          refine sf_R_iadd pm_M255 (pc' := 14) rfl rfl B466 sf_k2 (by decide) (by decide) (fun z467 e468 B469 => ?_)
          refine pm_R_op pm_M255 (pc' := 15) (st' := [.int 3, .int z467, .ref 49]) rfl rfl rfl ?_
          refine pm_R_lo pm_M255 (pc' := 16) rfl rfl rfl ?_
          refine sf_R_imul pm_M255 (pc' := 17) rfl rfl sf_k3 B435 (by decide) (by decide) (by decide) (fun z470 e471 B472 => ?_)
          refine sf_R_iadd pm_M255 (pc' := 18) rfl rfl B469 B472 (by decide) (by decide) (fun z473 e474 B475 => ?_)
          refine pm_R_lo pm_M255 (pc' := 19) rfl rfl rfl ?_
          refine sf_R_iadd pm_M255 (pc' := 20) rfl rfl B475 sf_k1 (by decide) (by decide) (fun z476 e477 B478 => ?_)
          obtain ⟨f479, e480, b481⟩ := T.2.2.2.1 49 (by decide) (by decide)
          refine rf_R_ild pm_M255 T (pc' := 21) rfl e480 (by decide) (sf_in B478 (by decide) (by decide)) rfl (fun z482 ez483 => ?_)
          have e484 : (z476).toInt = 152 * ((m 44)).toInt + 3 * (x4_432).toInt + 3 := by
            have q0 := e465
            have q1 := e468
            have q2 := e471
            have q3 := e474
            have q4 := e477
            simp only [(show (1 : Int32).toInt = 1 from rfl), (show (2 : Int32).toInt = 2 from rfl), (show (3 : Int32).toInt = 3 from rfl), (show (152 : Int32).toInt = 152 from rfl)] at q0 q1 q2 q3 q4
            omega
          have B485 : sf_B 0 5 z482 := ez483 ▸ rf_p49w b481 e484 B463 B435 (by decide) (by decide) (by decide)
          refine pm_R_ret pm_M255 (r := some (.int z482)) rfl (pm_ret_i _) ?_
          show pm_R _ 281 27 [.ref 41, .int a0, .int a1, .int x3_432, .int x4_432] [.int z482, .int x3_432] _ _
          refine pm_R_lo pm_M281 (pc' := 28) rfl rfl rfl ?_
          refine pm_R_icmp pm_M281 (t := 46) (pc' := 31) rfl rfl rfl (fun c486 => ?_) (fun c486 => ?_)
          · skip
            refine pm_R_op pm_M281 (pc' := 47) (st' := [.int 0, .int x3_432]) rfl rfl rfl ?_
            refine sf_R_iadd pm_M281 (pc' := 48) rfl rfl Bx3_432 sf_k0 (by decide) (by decide) (fun z487 e488 B489 => ?_)
            refine pm_R_lo pm_M281 (pc' := 49) (ls' := [.ref 41, .int a0, .int a1, .int z487, .int x4_432]) (st' := []) rfl rfl rfl ?_
            refine sf_R_iinc pm_M281 (pc' := 52) (ls' := fun z => [.ref 41, .int a0, .int a1, .int z487, .int z]) rfl B435 rfl (by decide) (by decide) (by decide) (fun _ => rfl) rfl (fun z490 e491 B492 => ?_)
            show pm_R _ 281 52 [.ref 41, .int a0, .int a1, .int z487, .int z490] [] _ _
            refine pm_R_br pm_M281 (pc' := 5) rfl rfl ?_
            exact ih_432 _ (sf_up hN_432 e491 B435 (by decide) (by decide)) z487 z490 B489 (sf_weak B492 (by decide) (by decide)) rfl
          · have B493 : sf_B 0 5 a0 := sf_eqR (Classical.not_not.mp c486) B485
            refine pm_R_lo pm_M281 (pc' := 32) rfl rfl rfl ?_
            refine pm_R_lo pm_M281 (pc' := 34) rfl rfl rfl ?_
            refine pm_R_lo pm_M281 (pc' := 35) rfl rfl rfl ?_
            refine pm_R_cv pm_M281 (pc' := 38) (a := 41) (ra := [.int a1, .int x4_432]) (rest := [.int x3_432]) (ls' := [.ref 41, .int x4_432, .int a1, pm_no]) rfl rfl (Or.inl rfl) pm_M276 T.2.1 rfl (by decide) (Nat.lt_of_lt_of_le (by decide) T.1) rfl rfl (Nat.le_of_ble_eq_true rfl) rfl rfl ?_
            refine rf_c276 (d := d + 0) T B435 (fun r494 B495 => ?_)
            show pm_R _ 281 38 [.ref 41, .int a0, .int a1, .int x3_432, .int x4_432] [.int r494, .int x3_432] _ _
            refine pm_R_op pm_M281 (pc' := 39) (st' := [.int (-1), .int r494, .int x3_432]) rfl rfl rfl ?_
            refine pm_R_icmp pm_M281 (t := 46) (pc' := 42) rfl rfl rfl (fun c502 => ?_) (fun c502 => ?_)
            · have B503 : sf_B (-1) (-1) r494 := sf_eqL c502 sf_kn1
              refine pm_R_op pm_M281 (pc' := 47) (st' := [.int 0, .int x3_432]) rfl rfl rfl ?_
              refine sf_R_iadd pm_M281 (pc' := 48) rfl rfl Bx3_432 sf_k0 (by decide) (by decide) (fun z504 e505 B506 => ?_)
              refine pm_R_lo pm_M281 (pc' := 49) (ls' := [.ref 41, .int a0, .int a1, .int z504, .int x4_432]) (st' := []) rfl rfl rfl ?_
              refine sf_R_iinc pm_M281 (pc' := 52) (ls' := fun z => [.ref 41, .int a0, .int a1, .int z504, .int z]) rfl B435 rfl (by decide) (by decide) (by decide) (fun _ => rfl) rfl (fun z507 e508 B509 => ?_)
              show pm_R _ 281 52 [.ref 41, .int a0, .int a1, .int z504, .int z507] [] _ _
              refine pm_R_br pm_M281 (pc' := 5) rfl rfl ?_
              exact ih_432 _ (sf_up hN_432 e508 B435 (by decide) (by decide)) z504 z507 B506 (sf_weak B509 (by decide) (by decide)) rfl
            · have B510 : sf_B 0 7 r494 := sf_neL0 c502 sf_kn1 B495
              refine pm_R_op pm_M281 (pc' := 43) (st' := [.int 1, .int x3_432]) rfl rfl rfl ?_
              refine pm_R_br pm_M281 (pc' := 47) rfl rfl ?_
              refine sf_R_iany pm_M281 (pc' := 48) (st := []) rfl rfl rfl (fun z514 => ?_)
              refine pm_R_lo pm_M281 (pc' := 49) (ls' := [.ref 41, .int a0, .int a1, .int z514, .int x4_432]) (st' := []) rfl rfl rfl ?_
              refine sf_R_iinc pm_M281 (pc' := 52) (ls' := fun z => [.ref 41, .int a0, .int a1, .int z514, .int z]) rfl B435 rfl (by decide) (by decide) (by decide) (fun _ => rfl) rfl (fun z515 e516 B517 => ?_)
              show pm_R _ 281 52 [.ref 41, .int a0, .int a1, .int z514, .int z515] [] _ _
              refine pm_R_br pm_M281 (pc' := 5) rfl rfl ?_
              exact ih_432 _ (sf_up hN_432 e516 B435 (by decide) (by decide)) z514 z515 (sf_any z514) (sf_weak B517 (by decide) (by decide)) rfl
  exact L_432 _ 0 0 (sf_weak sf_k0 (by decide) (by decide)) (sf_weak sf_k0 (by decide) (by decide)) rfl

set_option maxRecDepth 100000 in
set_option maxHeartbeats 4000000 in
/-- SilentTableModel.loudest -/
theorem rf_c292 {d : Nat} {m : Nat → Int32} {w : Int64} {h : pm_H} {Q : Option Value → pm_H → Prop}  (T : rf_T m w h)  (K : ∀ (r : Int32), sf_B (-1) 2147483647 r → Q (some (.int r)) h) : pm_R (d + 3) 292 0 [.ref 41, pm_no, pm_no, pm_no, pm_no] [] h Q := by
  refine pm_R_op pm_M292 (pc' := 1) (st' := [.int (-1)]) rfl rfl rfl ?_
  refine pm_R_lo pm_M292 (pc' := 2) (ls' := [.ref 41, .int (-1), pm_no, pm_no, pm_no]) (st' := []) rfl rfl rfl ?_
  refine pm_R_op pm_M292 (pc' := 3) (st' := [.int 0]) rfl rfl rfl ?_
  refine pm_R_lo pm_M292 (pc' := 4) (ls' := [.ref 41, .int (-1), .int 0, pm_no, pm_no]) (st' := []) rfl rfl rfl ?_
  refine pm_R_op pm_M292 (pc' := 5) (st' := [.int 0]) rfl rfl rfl ?_
  refine pm_R_lo pm_M292 (pc' := 6) (ls' := [.ref 41, .int (-1), .int 0, .int 0, pm_no]) (st' := []) rfl rfl rfl ?_
  have L_170 : ∀ (N : Nat) (x1_170 : Int32) (x2_170 : Int32) (x3_170 : Int32) (g4_170 : Value), sf_B (-1) 2147483647 x1_170 → sf_B 0 2147483647 x2_170 → sf_B 0 10 x3_170 → g4_170.category = 1 → (10 - x3_170.toInt).toNat = N → pm_R (d + 3) 292 6 [.ref 41, .int x1_170, .int x2_170, .int x3_170, g4_170] [] h Q := by
    intro N
    induction N using Nat.strongRecOn with
    | ind N ih_170 =>
      intro x1_170 x2_170 x3_170 g4_170 Bx1_170 Bx2_170 Bx3_170 Cg4_170 hN_170
      refine pm_R_lo pm_M292 (pc' := 7) rfl rfl rfl ?_
      refine pm_R_op pm_M292 (pc' := 9) (st' := [.int 10, .int x3_170]) rfl rfl rfl ?_
      refine pm_R_icmp pm_M292 (t := 54) (pc' := 12) rfl rfl rfl (fun c171 => ?_) (fun c171 => ?_)
      · have B172 : sf_B 10 10 x3_170 := sf_leR c171 sf_k10 Bx3_170
        refine pm_R_lo pm_M292 (pc' := 55) rfl rfl rfl ?_
        exact pm_R_ret pm_M292 (r := some (.int x1_170)) rfl (pm_ret_i _) (K x1_170 Bx1_170)
      · have B173 : sf_B 0 9 x3_170 := sf_ltL (Int32.not_le.mp c171) Bx3_170 sf_k10
        refine pm_R_lo pm_M292 (pc' := 13) rfl rfl rfl ?_
        refine pm_R_lo pm_M292 (pc' := 14) rfl rfl rfl ?_
        have B174 : sf_B 0 50 (m 43) := T.2.2.1 43
        refine rf_R_get pm_M292 T (pc' := 17) (v := .int (m 43)) rfl rfl rfl rfl ?_
        refine pm_R_lo pm_M292 (pc' := 18) rfl rfl rfl ?_
        refine pm_R_cv pm_M292 (pc' := 21) (a := 41) (ra := [.int x3_170, .int (m 43)]) (rest := []) (ls' := [.ref 41, .int (m 43), .int x3_170, pm_no, pm_no]) rfl rfl (Or.inl rfl) pm_M278 T.2.1 rfl (by decide) (Nat.lt_of_lt_of_le (by decide) T.1) rfl rfl (Nat.le_of_ble_eq_true rfl) rfl rfl ?_
        refine rf_c278 (d := d + 0) T B174 (fun r175 => ?_)
        show pm_R _ 292 21 [.ref 41, .int x1_170, .int x2_170, .int x3_170, g4_170] [.int r175] _ _
        refine pm_R_lo pm_M292 (pc' := 23) (ls' := [.ref 41, .int x1_170, .int x2_170, .int x3_170, .int r175]) (st' := []) rfl rfl rfl ?_
        refine pm_R_lo pm_M292 (pc' := 25) rfl rfl rfl ?_
        refine pm_R_lo pm_M292 (pc' := 26) rfl rfl rfl ?_
        refine pm_R_icmp pm_M292 (t := 33) (pc' := 29) rfl rfl rfl (fun c183 => ?_) (fun c183 => ?_)
        · skip
          refine pm_R_lo pm_M292 (pc' := 34) rfl rfl rfl ?_
          refine pm_R_lo pm_M292 (pc' := 35) (ls' := [.ref 41, .int x1_170, .int x2_170, .int x3_170, .int r175]) (st' := []) rfl rfl rfl ?_
          refine pm_R_lo pm_M292 (pc' := 37) rfl rfl rfl ?_
          refine pm_R_lo pm_M292 (pc' := 38) rfl rfl rfl ?_
          refine pm_R_icmp pm_M292 (t := 46) (pc' := 41) rfl rfl rfl (fun c184 => ?_) (fun c184 => ?_)
          · skip
            refine pm_R_lo pm_M292 (pc' := 47) rfl rfl rfl ?_
            refine pm_R_lo pm_M292 (pc' := 48) (ls' := [.ref 41, .int x1_170, .int x2_170, .int x3_170, .int r175]) (st' := []) rfl rfl rfl ?_
            refine sf_R_iinc pm_M292 (pc' := 51) (ls' := fun z => [.ref 41, .int x1_170, .int x2_170, .int z, .int r175]) rfl B173 rfl (by decide) (by decide) (by decide) (fun _ => rfl) rfl (fun z185 e186 B187 => ?_)
            show pm_R _ 292 51 [.ref 41, .int x1_170, .int x2_170, .int z185, .int r175] [] _ _
            refine pm_R_br pm_M292 (pc' := 6) rfl rfl ?_
            exact ih_170 _ (sf_up hN_170 e186 B173 (by decide) (by decide)) x1_170 x2_170 z185 (.int r175) Bx1_170 Bx2_170 (sf_weak B187 (by decide) (by decide)) rfl rfl
          · have B188 : sf_B 0 2147483646 x2_170 := sf_ltL (Int32.not_le.mp c184) Bx2_170 (sf_any r175)
            have B189 : sf_B 1 2147483647 r175 := sf_ltR (Int32.not_le.mp c184) Bx2_170 (sf_any r175)
            refine pm_R_lo pm_M292 (pc' := 43) rfl rfl rfl ?_
            refine pm_R_br pm_M292 (pc' := 47) rfl rfl ?_
            refine pm_R_lo pm_M292 (pc' := 48) (ls' := [.ref 41, .int x1_170, .int r175, .int x3_170, .int r175]) (st' := []) rfl rfl rfl ?_
            refine sf_R_iinc pm_M292 (pc' := 51) (ls' := fun z => [.ref 41, .int x1_170, .int r175, .int z, .int r175]) rfl B173 rfl (by decide) (by decide) (by decide) (fun _ => rfl) rfl (fun z190 e191 B192 => ?_)
            show pm_R _ 292 51 [.ref 41, .int x1_170, .int r175, .int z190, .int r175] [] _ _
            refine pm_R_br pm_M292 (pc' := 6) rfl rfl ?_
            exact ih_170 _ (sf_up hN_170 e191 B173 (by decide) (by decide)) x1_170 r175 z190 (.int r175) Bx1_170 (sf_weak B189 (by decide) (by decide)) (sf_weak B192 (by decide) (by decide)) rfl rfl
        · have B193 : sf_B 0 2147483646 x2_170 := sf_ltL (Int32.not_le.mp c183) Bx2_170 (sf_any r175)
          have B194 : sf_B 1 2147483647 r175 := sf_ltR (Int32.not_le.mp c183) Bx2_170 (sf_any r175)
          refine pm_R_lo pm_M292 (pc' := 30) rfl rfl rfl ?_
          refine pm_R_br pm_M292 (pc' := 34) rfl rfl ?_
          refine pm_R_lo pm_M292 (pc' := 35) (ls' := [.ref 41, .int x3_170, .int x2_170, .int x3_170, .int r175]) (st' := []) rfl rfl rfl ?_
          refine pm_R_lo pm_M292 (pc' := 37) rfl rfl rfl ?_
          refine pm_R_lo pm_M292 (pc' := 38) rfl rfl rfl ?_
          refine pm_R_icmp pm_M292 (t := 46) (pc' := 41) rfl rfl rfl (fun c195 => ?_) (fun c195 => ?_)
          · have B196 : sf_B 1 2147483646 r175 := sf_leL c195 B194 B193
            have B197 : sf_B 1 2147483646 x2_170 := sf_leR c195 B194 B193
            refine pm_R_lo pm_M292 (pc' := 47) rfl rfl rfl ?_
            refine pm_R_lo pm_M292 (pc' := 48) (ls' := [.ref 41, .int x3_170, .int x2_170, .int x3_170, .int r175]) (st' := []) rfl rfl rfl ?_
            refine sf_R_iinc pm_M292 (pc' := 51) (ls' := fun z => [.ref 41, .int x3_170, .int x2_170, .int z, .int r175]) rfl B173 rfl (by decide) (by decide) (by decide) (fun _ => rfl) rfl (fun z198 e199 B200 => ?_)
            show pm_R _ 292 51 [.ref 41, .int x3_170, .int x2_170, .int z198, .int r175] [] _ _
            refine pm_R_br pm_M292 (pc' := 6) rfl rfl ?_
            exact ih_170 _ (sf_up hN_170 e199 B173 (by decide) (by decide)) x3_170 x2_170 z198 (.int r175) (sf_weak B173 (by decide) (by decide)) (sf_weak B197 (by decide) (by decide)) (sf_weak B200 (by decide) (by decide)) rfl rfl
          · skip
            refine pm_R_lo pm_M292 (pc' := 43) rfl rfl rfl ?_
            refine pm_R_br pm_M292 (pc' := 47) rfl rfl ?_
            refine pm_R_lo pm_M292 (pc' := 48) (ls' := [.ref 41, .int x3_170, .int r175, .int x3_170, .int r175]) (st' := []) rfl rfl rfl ?_
            refine sf_R_iinc pm_M292 (pc' := 51) (ls' := fun z => [.ref 41, .int x3_170, .int r175, .int z, .int r175]) rfl B173 rfl (by decide) (by decide) (by decide) (fun _ => rfl) rfl (fun z201 e202 B203 => ?_)
            show pm_R _ 292 51 [.ref 41, .int x3_170, .int r175, .int z201, .int r175] [] _ _
            refine pm_R_br pm_M292 (pc' := 6) rfl rfl ?_
            exact ih_170 _ (sf_up hN_170 e202 B173 (by decide) (by decide)) x3_170 r175 z201 (.int r175) (sf_weak B173 (by decide) (by decide)) (sf_weak B194 (by decide) (by decide)) (sf_weak B203 (by decide) (by decide)) rfl rfl
  exact L_170 _ (-1) 0 0 (pm_no) (sf_weak sf_kn1 (by decide) (by decide)) (sf_weak sf_k0 (by decide) (by decide)) (sf_weak sf_k0 (by decide) (by decide)) rfl rfl

set_option maxRecDepth 100000 in
set_option maxHeartbeats 4000000 in
/-- SilentTableModel.nearAt -/
theorem rf_c286 {d : Nat} {m : Nat → Int32} {w : Int64} {h : pm_H} {Q : Option Value → pm_H → Prop} {a0 : Int32} {a1 : Int32} (T : rf_T m w h) (Ba0 : sf_B 0 9 a0) (K : ∀ (r : Int32), sf_B 0 9 r → Q (some (.int r)) h) : pm_R (d + 1) 286 0 [.ref 41, .int a0, .int a1, pm_no, pm_no] [] h Q := by
  refine pm_R_lo pm_M286 (pc' := 1) rfl rfl rfl ?_
  refine pm_R_lo pm_M286 (pc' := 2) (ls' := [.ref 41, .int a0, .int a1, .int a1, pm_no]) (st' := []) rfl rfl rfl ?_
  refine pm_R_op pm_M286 (pc' := 3) (st' := [.int 0]) rfl rfl rfl ?_
  refine pm_R_lo pm_M286 (pc' := 5) (ls' := [.ref 41, .int a0, .int a1, .int a1, .int 0]) (st' := []) rfl rfl rfl ?_
  have L_190 : ∀ (N : Nat) (x3_190 : Int32) (x4_190 : Int32), sf_B (-2147483648) 2147483647 x3_190 → sf_B 0 10 x4_190 → (10 - x4_190.toInt).toNat = N → pm_R (d + 1) 286 5 [.ref 41, .int a0, .int a1, .int x3_190, .int x4_190] [] h Q := by
    intro N
    induction N using Nat.strongRecOn with
    | ind N ih_190 =>
      intro x3_190 x4_190 Bx3_190 Bx4_190 hN_190
      refine pm_R_lo pm_M286 (pc' := 7) rfl rfl rfl ?_
      refine pm_R_op pm_M286 (pc' := 9) (st' := [.int 10, .int x4_190]) rfl rfl rfl ?_
      refine pm_R_icmp pm_M286 (t := 42) (pc' := 12) rfl rfl rfl (fun c191 => ?_) (fun c191 => ?_)
      · have B192 : sf_B 10 10 x4_190 := sf_leR c191 sf_k10 Bx4_190
        refine pm_R_lo pm_M286 (pc' := 43) rfl rfl rfl ?_
        exact pm_R_ret pm_M286 (r := some (.int a0)) rfl (pm_ret_i _) (K a0 Ba0)
      · have B193 : sf_B 0 9 x4_190 := sf_ltL (Int32.not_le.mp c191) Bx4_190 sf_k10
        refine pm_R_lo pm_M286 (pc' := 13) rfl rfl rfl ?_
        refine pm_R_lo pm_M286 (pc' := 14) rfl rfl rfl ?_
        refine pm_R_cv pm_M286 (pc' := 17) (a := 41) (ra := [.int a0]) (rest := []) (ls' := [.ref 41, .int a0]) rfl rfl (Or.inl rfl) pm_M236 T.2.1 rfl (by decide) (Nat.lt_of_lt_of_le (by decide) T.1) rfl rfl (Nat.le_of_ble_eq_true rfl) rfl rfl ?_
        refine pm_R_lo pm_M236 (pc' := 1) rfl rfl rfl ?_
        refine rf_R_get pm_M236 T (pc' := 4) (v := .ref 47) rfl rfl rfl rfl ?_
        refine pm_R_op pm_M236 (pc' := 6) (st' := [.int 100, .ref 47]) rfl rfl rfl ?_
        refine pm_R_lo pm_M236 (pc' := 7) rfl rfl rfl ?_
        have B194 : sf_B 0 1 (m 23) := T.2.2.1 23
        refine rf_R_get pm_M236 T (pc' := 10) (v := .int (m 23)) rfl rfl rfl rfl ?_
        refine sf_R_imul pm_M236 (pc' := 11) rfl rfl sf_k100 B194 (by decide) (by decide) (by decide) (fun z195 e196 B197 => ?_)
        refine pm_R_op pm_M236 (pc' := 13) (st' := [.int 90, .int z195, .ref 47]) rfl rfl rfl ?_
        refine sf_R_iadd pm_M236 (pc' := 14) rfl rfl B197 sf_k90 (by decide) (by decide) (fun z198 e199 B200 => ?_)
        refine pm_R_lo pm_M236 (pc' := 15) rfl rfl rfl ?_
        refine sf_R_iadd pm_M236 (pc' := 16) rfl rfl B200 Ba0 (by decide) (by decide) (fun z201 e202 B203 => ?_)
        obtain ⟨f204, e205, b206⟩ := T.2.2.2.1 47 (by decide) (by decide)
        refine rf_R_ild pm_M236 T (pc' := 17) rfl e205 (by decide) (sf_in B203 (by decide) (by decide)) rfl (fun z207 ez208 => ?_)
        have e209 : (z201).toInt = 100 * ((m 23)).toInt + 1 * (a0).toInt + 90 := by
          have q0 := e196
          have q1 := e199
          have q2 := e202
          simp only [(show (90 : Int32).toInt = 90 from rfl), (show (100 : Int32).toInt = 100 from rfl)] at q0 q1 q2
          omega
        have B210 : sf_B 0 1023 z207 := ez208 ▸ rf_p47n b206 e209 B194 Ba0 (by decide) (by decide) (by decide)
        refine pm_R_ret pm_M236 (r := some (.int z207)) rfl (pm_ret_i _) ?_
        show pm_R _ 286 17 [.ref 41, .int a0, .int a1, .int x3_190, .int x4_190] [.int z207] _ _
        refine sf_R_lany pm_M286 (pc' := 18) (st := []) rfl rfl rfl (fun z211 => ?_)
        refine pm_R_lo pm_M286 (pc' := 20) rfl rfl rfl ?_
        refine pm_R_cs pm_M286 (pc' := 23) (ra := [.int x4_190, .long z211]) (rest := []) (ls' := [.long z211, pm_no, .int x4_190]) rfl rfl (Or.inl rfl) pm_M206 rfl rfl (Nat.le_of_ble_eq_true rfl) rfl rfl ?_
        refine pm_R_lo pm_M206 (pc' := 1) rfl rfl rfl ?_
        refine pm_R_lo pm_M206 (pc' := 2) rfl rfl rfl ?_
        refine sf_R_lany pm_M206 (pc' := 3) (st := []) rfl rfl rfl (fun z212 => ?_)
        refine pm_R_op pm_M206 (pc' := 4) (st' := [.long 1, .long z212]) rfl rfl rfl ?_
        refine sf_R_lany pm_M206 (pc' := 5) (st := []) rfl rfl rfl (fun z213 => ?_)
        refine pm_R_op pm_M206 (pc' := 6) (st' := [.long 1, .long z213]) rfl rfl rfl ?_
        refine sf_R_lcmp pm_M206 (pc' := 7) rfl rfl (fun z214 e215 => ?_)
        refine pm_R_ifc pm_M206 (t := 14) (pc' := 10) rfl rfl rfl (fun c216 => ?_) (fun c216 => ?_)
        · have k217 := sf_lneC e215 c216
          refine pm_R_op pm_M206 (pc' := 15) (st' := [.int 0]) rfl rfl rfl ?_
          refine pm_R_ret pm_M206 (r := some (.int 0)) rfl rfl ?_
          show pm_R _ 286 23 [.ref 41, .int a0, .int a1, .int x3_190, .int x4_190] [.int 0] _ _
          refine pm_R_br pm_M286 (pc' := 36) (st' := []) rfl rfl ?_
          refine sf_R_iinc pm_M286 (pc' := 39) (ls' := fun z => [.ref 41, .int a0, .int a1, .int x3_190, .int z]) rfl B193 rfl (by decide) (by decide) (by decide) (fun _ => rfl) rfl (fun z218 e219 B220 => ?_)
          show pm_R _ 286 39 [.ref 41, .int a0, .int a1, .int x3_190, .int z218] [] _ _
          refine pm_R_br pm_M286 (pc' := 5) rfl rfl ?_
          exact ih_190 _ (sf_up hN_190 e219 B193 (by decide) (by decide)) x3_190 z218 Bx3_190 (sf_weak B220 (by decide) (by decide)) rfl
        · have B221 : sf_B 0 0 z214 := sf_eqL (Classical.not_not.mp c216) sf_k0
          refine pm_R_op pm_M206 (pc' := 11) (st' := [.int 1]) rfl rfl rfl ?_
          refine pm_R_br pm_M206 (pc' := 15) rfl rfl ?_
          refine pm_R_ret pm_M206 (r := some (.int 1)) rfl rfl ?_
          show pm_R _ 286 23 [.ref 41, .int a0, .int a1, .int x3_190, .int x4_190] [.int 1] _ _
          refine pm_R_br pm_M286 (pc' := 26) (st' := []) rfl rfl ?_
          refine sf_R_iincA pm_M286 (pc' := 29) (ls' := fun z => [.ref 41, .int a0, .int a1, .int z, .int x4_190]) rfl rfl (fun _ => rfl) rfl (fun z222 => ?_)
          show pm_R _ 286 29 [.ref 41, .int a0, .int a1, .int z222, .int x4_190] [] _ _
          refine pm_R_lo pm_M286 (pc' := 30) rfl rfl rfl ?_
          refine pm_R_ifc pm_M286 (t := 36) (pc' := 33) rfl rfl rfl (fun c223 => ?_) (fun c223 => ?_)
          · skip
            refine sf_R_iinc pm_M286 (pc' := 39) (ls' := fun z => [.ref 41, .int a0, .int a1, .int z222, .int z]) rfl B193 rfl (by decide) (by decide) (by decide) (fun _ => rfl) rfl (fun z224 e225 B226 => ?_)
            show pm_R _ 286 39 [.ref 41, .int a0, .int a1, .int z222, .int z224] [] _ _
            refine pm_R_br pm_M286 (pc' := 5) rfl rfl ?_
            exact ih_190 _ (sf_up hN_190 e225 B193 (by decide) (by decide)) z222 z224 (sf_any z222) (sf_weak B226 (by decide) (by decide)) rfl
          · have B227 : sf_B 0 0 z222 := sf_eqL (Classical.not_not.mp c223) sf_k0
            refine pm_R_lo pm_M286 (pc' := 35) rfl rfl rfl ?_
            exact pm_R_ret pm_M286 (r := some (.int x4_190)) rfl (pm_ret_i _) (K x4_190 B193)
  exact L_190 _ a1 0 (sf_any a1) (sf_weak sf_k0 (by decide) (by decide)) rfl

set_option maxRecDepth 100000 in
set_option maxHeartbeats 4000000 in
/-- SilentTableModel.known -/
theorem rf_c263 {d : Nat} {m : Nat → Int32} {w : Int64} {h : pm_H} {Q : Option Value → pm_H → Prop} {a0 : Int32} (T : rf_T m w h) (Ba0 : sf_B 0 1 a0) (K : ∀ (r : Int64) (m' : Nat → Int32) (w' : Int64) (h' : pm_H), rf_T m' w' h' → rf_F h h' → rf_W [23, 24, 26] m m' → Q (some (.long r)) h') : pm_R (d + 6) 263 0 [.ref 41, .int a0, pm_no] [] h Q := by
  refine pm_R_lo pm_M263 (pc' := 1) rfl rfl rfl ?_
  have B1 : sf_B 0 50 (m 47) := T.2.2.1 47
  refine rf_R_get pm_M263 T (pc' := 4) (v := .int (m 47)) rfl rfl rfl rfl ?_
  refine pm_R_op pm_M263 (pc' := 5) (st' := [.int 1, .int (m 47)]) rfl rfl rfl ?_
  refine pm_R_op pm_M263 (pc' := 7) (st' := [.int 12, .int 1, .int (m 47)]) rfl rfl rfl ?_
  refine pm_R_cs pm_M263 (pc' := 10) (ra := [.int 12, .int 1, .int (m 47)]) (rest := []) (ls' := [.int (m 47), .int 1, .int 12]) rfl rfl (Or.inl rfl) pm_M174 rfl rfl (Nat.le_of_ble_eq_true rfl) rfl rfl ?_
  refine pm_R_lo pm_M174 (pc' := 1) rfl rfl rfl ?_
  refine pm_R_lo pm_M174 (pc' := 2) rfl rfl rfl ?_
  refine pm_R_icmp pm_M174 (t := 14) (pc' := 5) rfl rfl rfl (fun c2 => ?_) (fun c2 => ?_)
  · have B3 : sf_B 0 0 (m 47) := sf_ltL c2 B1 sf_k1
    refine pm_R_op pm_M174 (pc' := 15) (st' := [.int 0]) rfl rfl rfl ?_
    refine pm_R_ret pm_M174 (r := some (.int 0)) rfl rfl ?_
    show pm_R _ 263 10 [.ref 41, .int a0, pm_no] [.int 0] _ _
    refine pm_R_br pm_M263 (pc' := 13) (st' := []) rfl rfl ?_
    refine pm_R_op pm_M263 (pc' := 14) (st' := [.long 0]) rfl rfl rfl ?_
    exact pm_R_ret pm_M263 (r := some (.long 0)) rfl rfl (K 0 m w h T (rf_F.refl h) (rf_W.refl [23, 24, 26] m))
  · have B4 : sf_B 1 50 (m 47) := sf_leR (Int32.not_lt.mp c2) sf_k1 B1
    refine pm_R_lo pm_M174 (pc' := 6) rfl rfl rfl ?_
    refine pm_R_lo pm_M174 (pc' := 7) rfl rfl rfl ?_
    refine pm_R_icmp pm_M174 (t := 14) (pc' := 10) rfl rfl rfl (fun c5 => ?_) (fun c5 => ?_)
    · have B6 : sf_B 13 50 (m 47) := sf_ltR c5 sf_k12 B4
      refine pm_R_op pm_M174 (pc' := 15) (st' := [.int 0]) rfl rfl rfl ?_
      refine pm_R_ret pm_M174 (r := some (.int 0)) rfl rfl ?_
      show pm_R _ 263 10 [.ref 41, .int a0, pm_no] [.int 0] _ _
      refine pm_R_br pm_M263 (pc' := 13) (st' := []) rfl rfl ?_
      refine pm_R_op pm_M263 (pc' := 14) (st' := [.long 0]) rfl rfl rfl ?_
      exact pm_R_ret pm_M263 (r := some (.long 0)) rfl rfl (K 0 m w h T (rf_F.refl h) (rf_W.refl [23, 24, 26] m))
    · have B7 : sf_B 1 12 (m 47) := sf_leL (Int32.not_lt.mp c5) B4 sf_k12
      refine pm_R_op pm_M174 (pc' := 11) (st' := [.int 1]) rfl rfl rfl ?_
      refine pm_R_br pm_M174 (pc' := 15) rfl rfl ?_
      refine pm_R_ret pm_M174 (r := some (.int 1)) rfl rfl ?_
      show pm_R _ 263 10 [.ref 41, .int a0, pm_no] [.int 1] _ _
      refine pm_R_br pm_M263 (pc' := 15) (st' := []) rfl rfl ?_
      refine pm_R_lo pm_M263 (pc' := 16) rfl rfl rfl ?_
      refine pm_R_lo pm_M263 (pc' := 17) rfl rfl rfl ?_
      refine rf_R_put pm_M263 T (pc' := 20) rfl rfl rfl (by decide) rfl rfl Ba0 rfl rfl (fun h8 m11 em12 T9 F10 => ?_)
      have F13 := (rf_F.refl h).trans F10
      have B14 : sf_B 1 12 (m11 47) := by rw [em12]; exact B7
      have B15 : sf_B 0 1 (m11 23) := by rw [em12]; exact Ba0
      have W16 : rf_W [23, 24, 26] m m11 := by rw [em12]; exact (rf_W.refl [23, 24, 26] m).put (by decide)
      refine pm_R_lo pm_M263 (pc' := 21) rfl rfl rfl ?_
      refine pm_R_lo pm_M263 (pc' := 22) rfl rfl rfl ?_
      refine rf_R_get pm_M263 T9 (pc' := 25) (v := .int (m11 47)) rfl rfl rfl rfl ?_
      refine rf_R_put pm_M263 T9 (pc' := 28) rfl rfl rfl (by decide) rfl rfl (sf_weak B14 (by decide) (by decide)) rfl rfl (fun h17 m20 em21 T18 F19 => ?_)
      have F22 := F13.trans F19
      have B23 : sf_B 1 12 (m20 47) := by rw [em21]; exact B14
      have B24 : sf_B 1 12 (m20 24) := by rw [em21]; exact B14
      have W25 : rf_W [23, 24, 26] m m20 := by rw [em21]; exact W16.put (by decide)
      refine pm_R_lo pm_M263 (pc' := 29) rfl rfl rfl ?_
      refine pm_R_op pm_M263 (pc' := 30) (st' := [.int (-1), .ref 41]) rfl rfl rfl ?_
      refine rf_R_put pm_M263 T18 (pc' := 33) rfl rfl rfl (by decide) rfl rfl (sf_weak sf_kn1 (by decide) (by decide)) rfl rfl (fun h26 m29 em30 T27 F28 => ?_)
      have F31 := F22.trans F28
      have B32 : sf_B 1 12 (m29 47) := by rw [em30]; exact B23
      have B33 : sf_B 1 12 (m29 24) := by rw [em30]; exact B24
      have B34 : sf_B (-1) (-1) (m29 26) := by rw [em30]; exact sf_kn1
      have W35 : rf_W [23, 24, 26] m m29 := by rw [em30]; exact W25.put (by decide)
      refine pm_R_op pm_M263 (pc' := 34) (st' := [.int 0]) rfl rfl rfl ?_
      refine pm_R_lo pm_M263 (pc' := 35) (ls' := [.ref 41, .int a0, .int 0]) (st' := []) rfl rfl rfl ?_
      have L_243 : ∀ (N : Nat) (h_243 : pm_H) (m_243 : Nat → Int32) (w_243 : Int64) (x2_243 : Int32), rf_T m_243 w_243 h_243 → rf_F h h_243 → rf_W [] m29 m_243 → sf_B 0 12 x2_243 → (12 - x2_243.toInt).toNat = N → pm_R (d + 6) 263 35 [.ref 41, .int a0, .int x2_243] [] h_243 Q := by
        intro N
        induction N using Nat.strongRecOn with
        | ind N ih_243 =>
          intro h_243 m_243 w_243 x2_243 T_243 F_243 W_243 Bx2_243 hN_243
          have B245 : sf_B 1 12 (m_243 47) := by rw [W_243 47 (by decide)]; exact B32
          have B246 : sf_B 1 12 (m_243 24) := by rw [W_243 24 (by decide)]; exact B33
          have B247 : sf_B (-1) (-1) (m_243 26) := by rw [W_243 26 (by decide)]; exact B34
          have W248 : rf_W [23, 24, 26] m m_243 := W35.trans W_243 (by decide)
          refine pm_R_lo pm_M263 (pc' := 36) rfl rfl rfl ?_
          refine pm_R_lo pm_M263 (pc' := 37) rfl rfl rfl ?_
          refine rf_R_get pm_M263 T_243 (pc' := 40) (v := .int (m_243 24)) rfl rfl rfl rfl ?_
          refine pm_R_icmp pm_M263 (t := 63) (pc' := 43) rfl rfl rfl (fun c249 => ?_) (fun c249 => ?_)
          · have B250 : sf_B 1 12 x2_243 := sf_leR c249 B246 Bx2_243
            refine pm_R_lo pm_M263 (pc' := 64) rfl rfl rfl ?_
            refine pm_R_cv pm_M263 (pc' := 67) (a := 41) (ra := []) (rest := []) (ls' := [.ref 41]) rfl rfl (Or.inl rfl) pm_M215 T_243.2.1 rfl (by decide) (Nat.lt_of_lt_of_le (by decide) T_243.1) rfl rfl (Nat.le_of_ble_eq_true rfl) rfl rfl ?_
            refine rf_c215 (d := d + 0) T_243 B246 (fun r251 m253 w254 h255 T256 F257 W258 => ?_)
            have F259 := F_243.trans F257
            have B260 : sf_B 1 12 (m253 47) := by rw [W258 47 (by decide)]; exact B245
            have B261 : sf_B 1 12 (m253 24) := by rw [W258 24 (by decide)]; exact B246
            have B262 : sf_B (-1) (-1) (m253 26) := by rw [W258 26 (by decide)]; exact B247
            have W263 : rf_W [23, 24, 26] m m253 := W248.trans W258 (by decide)
            have W264 : rf_W [] m29 m253 := W_243.trans W258 (by decide)
            show pm_R _ 263 67 [.ref 41, .int a0, .int x2_243] [.long r251] _ _
            exact pm_R_ret pm_M263 (r := some (.long r251)) rfl rfl (K r251 m253 w254 h255 T256 F259 W263)
          · have B265 : sf_B 0 11 x2_243 := sf_ltL (Int32.not_le.mp c249) Bx2_243 B246
            refine pm_R_lo pm_M263 (pc' := 44) rfl rfl rfl ?_
            refine rf_R_get pm_M263 T_243 (pc' := 47) (v := .ref 53) rfl rfl rfl rfl ?_
            refine pm_R_lo pm_M263 (pc' := 48) rfl rfl rfl ?_
            refine pm_R_op pm_M263 (pc' := 49) (st' := [.int 1, .int x2_243, .ref 53]) rfl rfl rfl ?_
            refine pm_R_lo pm_M263 (pc' := 50) rfl rfl rfl ?_
            refine rf_R_get pm_M263 T_243 (pc' := 53) (v := .ref 69) rfl rfl rfl rfl ?_
            refine pm_R_lo pm_M263 (pc' := 54) rfl rfl rfl ?_
            obtain ⟨f266, e267⟩ := T_243.2.2.2.1 69 (by decide) (by decide)
            refine rf_R_ild pm_M263 T_243 (pc' := 55) rfl e267 (by decide) (sf_in B265 (by decide) (by decide)) rfl (fun z269 ez270 => ?_)
            refine sf_R_iany pm_M263 (pc' := 56) (st := [.int x2_243, .ref 53]) rfl rfl rfl (fun z274 => ?_)
            obtain ⟨f275, e276⟩ := T_243.2.2.2.1 53 (by decide) (by decide)
            refine rf_R_ist pm_M263 T_243 (pc' := 57) rfl e276 (by decide) (by decide) (sf_in B265 (by decide) (by decide)) ⟨_, rfl⟩ rfl (fun h278 T279 F280 => ?_)
            have F281 := F_243.trans F280
            refine sf_R_iinc pm_M263 (pc' := 60) (ls' := fun z => [.ref 41, .int a0, .int z]) rfl B265 rfl (by decide) (by decide) (by decide) (fun _ => rfl) rfl (fun z282 e283 B284 => ?_)
            show pm_R _ 263 60 [.ref 41, .int a0, .int z282] [] _ _
            refine pm_R_br pm_M263 (pc' := 35) rfl rfl ?_
            exact ih_243 _ (sf_up hN_243 e283 B265 (by decide) (by decide)) h278 m_243 w_243 z282 T279 F281 W_243 (sf_weak B284 (by decide) (by decide)) rfl
      exact L_243 _ h26 m29 w 0 T27 F31 (rf_W.refl _ _) (sf_weak sf_k0 (by decide) (by decide)) rfl

set_option maxRecDepth 100000 in
set_option maxHeartbeats 4000000 in
/-- SilentTableModel.meal -/
theorem rf_c253 {d : Nat} {m : Nat → Int32} {w : Int64} {h : pm_H} {Q : Option Value → pm_H → Prop} {a0 : Int32} {a1 : Int32} (T : rf_T m w h)  (K : ∀ (r : Int32) (m' : Nat → Int32) (w' : Int64) (h' : pm_H), rf_T m' w' h' → rf_F h h' → rf_W [0, 42, 43, 44] m m' → Q (some (.int r)) h') : pm_R (d + 3) 253 0 [.ref 41, .int a0, .int a1, pm_no, pm_no, pm_no] [] h Q := by
  refine pm_R_lo pm_M253 (pc' := 1) rfl rfl rfl ?_
  refine pm_R_op pm_M253 (pc' := 2) (st' := [.int 0, .ref 41]) rfl rfl rfl ?_
  refine rf_R_put pm_M253 T (pc' := 5) rfl rfl rfl (by decide) rfl rfl sf_k0 rfl rfl (fun h1 m4 em5 T2 F3 => ?_)
  have F6 := (rf_F.refl h).trans F3
  have B7 : sf_B 0 0 (m4 0) := by rw [em5]; exact sf_k0
  have W8 : rf_W [0, 42, 43, 44] m m4 := by rw [em5]; exact (rf_W.refl [0, 42, 43, 44] m).put (by decide)
  refine pm_R_lo pm_M253 (pc' := 6) rfl rfl rfl ?_
  refine pm_R_lo pm_M253 (pc' := 7) rfl rfl rfl ?_
  refine pm_R_cv pm_M253 (pc' := 10) (a := 41) (ra := [.int a0]) (rest := []) (ls' := [.ref 41, .int a0, pm_no, pm_no, pm_no, pm_no]) rfl rfl (Or.inl rfl) pm_M254 T2.2.1 rfl (by decide) (Nat.lt_of_lt_of_le (by decide) T2.1) rfl rfl (Nat.le_of_ble_eq_true rfl) rfl rfl ?_
  refine rf_c254 (d := d + 0) T2  (fun r9 m11 w12 h13 T14 F15 W16 B10 => ?_)
  have F17 := F6.trans F15
  have W18 : rf_W [0, 42, 43, 44] m m11 := W8.trans W16 (by decide)
  show pm_R _ 253 10 [.ref 41, .int a0, .int a1, pm_no, pm_no, pm_no] [.int r9] _ _
  refine pm_R_ifc pm_M253 (t := 22) (pc' := 13) rfl rfl rfl (fun c19 => ?_) (fun c19 => ?_)
  · have B20 : sf_B 0 0 r9 := sf_eqL c19 sf_k0
    refine pm_R_op pm_M253 (pc' := 23) (st' := [.int (-1)]) rfl rfl rfl ?_
    exact pm_R_ret pm_M253 (r := some (.int (-1))) rfl rfl (K (-1) m11 w12 h13 T14 F17 W18)
  · have B21 : sf_B 1 1 r9 := sf_neL0 c19 sf_k0 B10
    refine pm_R_lo pm_M253 (pc' := 14) rfl rfl rfl ?_
    refine pm_R_op pm_M253 (pc' := 15) (st' := [.int 0, .int a1]) rfl rfl rfl ?_
    refine pm_R_op pm_M253 (pc' := 16) (st' := [.int 3, .int 0, .int a1]) rfl rfl rfl ?_
    refine pm_R_cs pm_M253 (pc' := 19) (ra := [.int 3, .int 0, .int a1]) (rest := []) (ls' := [.int a1, .int 0, .int 3]) rfl rfl (Or.inl rfl) pm_M174 rfl rfl (Nat.le_of_ble_eq_true rfl) rfl rfl ?_
    refine pm_R_lo pm_M174 (pc' := 1) rfl rfl rfl ?_
    refine pm_R_lo pm_M174 (pc' := 2) rfl rfl rfl ?_
    refine pm_R_icmp pm_M174 (t := 14) (pc' := 5) rfl rfl rfl (fun c22 => ?_) (fun c22 => ?_)
    · have B23 : sf_B (-2147483648) (-1) a1 := sf_ltL c22 (sf_any a1) sf_k0
      refine pm_R_op pm_M174 (pc' := 15) (st' := [.int 0]) rfl rfl rfl ?_
      refine pm_R_ret pm_M174 (r := some (.int 0)) rfl rfl ?_
      show pm_R _ 253 19 [.ref 41, .int a0, .int a1, pm_no, pm_no, pm_no] [.int 0] _ _
      refine pm_R_br pm_M253 (pc' := 22) (st' := []) rfl rfl ?_
      refine pm_R_op pm_M253 (pc' := 23) (st' := [.int (-1)]) rfl rfl rfl ?_
      exact pm_R_ret pm_M253 (r := some (.int (-1))) rfl rfl (K (-1) m11 w12 h13 T14 F17 W18)
    · have B24 : sf_B 0 2147483647 a1 := sf_leR (Int32.not_lt.mp c22) sf_k0 (sf_any a1)
      refine pm_R_lo pm_M174 (pc' := 6) rfl rfl rfl ?_
      refine pm_R_lo pm_M174 (pc' := 7) rfl rfl rfl ?_
      refine pm_R_icmp pm_M174 (t := 14) (pc' := 10) rfl rfl rfl (fun c25 => ?_) (fun c25 => ?_)
      · have B26 : sf_B 4 2147483647 a1 := sf_ltR c25 sf_k3 B24
        refine pm_R_op pm_M174 (pc' := 15) (st' := [.int 0]) rfl rfl rfl ?_
        refine pm_R_ret pm_M174 (r := some (.int 0)) rfl rfl ?_
        show pm_R _ 253 19 [.ref 41, .int a0, .int a1, pm_no, pm_no, pm_no] [.int 0] _ _
        refine pm_R_br pm_M253 (pc' := 22) (st' := []) rfl rfl ?_
        refine pm_R_op pm_M253 (pc' := 23) (st' := [.int (-1)]) rfl rfl rfl ?_
        exact pm_R_ret pm_M253 (r := some (.int (-1))) rfl rfl (K (-1) m11 w12 h13 T14 F17 W18)
      · have B27 : sf_B 0 3 a1 := sf_leL (Int32.not_lt.mp c25) B24 sf_k3
        refine pm_R_op pm_M174 (pc' := 11) (st' := [.int 1]) rfl rfl rfl ?_
        refine pm_R_br pm_M174 (pc' := 15) rfl rfl ?_
        refine pm_R_ret pm_M174 (r := some (.int 1)) rfl rfl ?_
        show pm_R _ 253 19 [.ref 41, .int a0, .int a1, pm_no, pm_no, pm_no] [.int 1] _ _
        refine pm_R_br pm_M253 (pc' := 24) (st' := []) rfl rfl ?_
        refine pm_R_op pm_M253 (pc' := 25) (st' := [.int 0]) rfl rfl rfl ?_
        refine pm_R_lo pm_M253 (pc' := 26) (ls' := [.ref 41, .int a0, .int a1, .int 0, pm_no, pm_no]) (st' := []) rfl rfl rfl ?_
        refine pm_R_op pm_M253 (pc' := 27) (st' := [.int 0]) rfl rfl rfl ?_
        refine pm_R_lo pm_M253 (pc' := 29) (ls' := [.ref 41, .int a0, .int a1, .int 0, .int 0, pm_no]) (st' := []) rfl rfl rfl ?_
        refine pm_R_op pm_M253 (pc' := 30) (st' := [.int 0]) rfl rfl rfl ?_
        refine pm_R_lo pm_M253 (pc' := 32) (ls' := [.ref 41, .int a0, .int a1, .int 0, .int 0, .int 0]) (st' := []) rfl rfl rfl ?_
        have L_757 : ∀ (N : Nat) (h_757 : pm_H) (m_757 : Nat → Int32) (w_757 : Int64) (x3_757 : Int32) (x4_757 : Int32) (x5_757 : Int32), rf_T m_757 w_757 h_757 → rf_F h h_757 → rf_W [] m11 m_757 → sf_B (-2147483648) 2147483647 x3_757 → sf_B (-2147483648) 2147483647 x4_757 → sf_B 0 50 x5_757 → (50 - x5_757.toInt).toNat = N → pm_R (d + 3) 253 32 [.ref 41, .int a0, .int a1, .int x3_757, .int x4_757, .int x5_757] [] h_757 Q := by
          intro N
          induction N using Nat.strongRecOn with
          | ind N ih_757 =>
            intro h_757 m_757 w_757 x3_757 x4_757 x5_757 T_757 F_757 W_757 Bx3_757 Bx4_757 Bx5_757 hN_757
            have W759 : rf_W [0, 42, 43, 44] m m_757 := W18.trans W_757 (by decide)
            refine pm_R_lo pm_M253 (pc' := 34) rfl rfl rfl ?_
            refine pm_R_lo pm_M253 (pc' := 35) rfl rfl rfl ?_
            have B760 : sf_B 0 50 (m_757 43) := T_757.2.2.1 43
            refine rf_R_get pm_M253 T_757 (pc' := 38) (v := .int (m_757 43)) rfl rfl rfl rfl ?_
            refine pm_R_icmp pm_M253 (t := 93) (pc' := 41) rfl rfl rfl (fun c761 => ?_) (fun c761 => ?_)
            · skip
              refine pm_R_lo pm_M253 (pc' := 94) rfl rfl rfl ?_
              refine pm_R_ifc pm_M253 (t := 104) (pc' := 97) rfl rfl rfl (fun c762 => ?_) (fun c762 => ?_)
              · have B763 : sf_B 1 3 a1 := sf_neL0 c762 sf_k0 B27
                refine pm_R_lo pm_M253 (pc' := 105) rfl rfl rfl ?_
                refine pm_R_op pm_M253 (pc' := 106) (st' := [.int 1, .int a1]) rfl rfl rfl ?_
                refine pm_R_icmp pm_M253 (t := 116) (pc' := 109) rfl rfl rfl (fun c764 => ?_) (fun c764 => ?_)
                · have B765 : sf_B 2 3 a1 := sf_neL0 c764 sf_k1 B763
                  refine pm_R_lo pm_M253 (pc' := 117) (pm_q253_1 (Nat.le_of_ble_eq_true rfl)) rfl rfl ?_
                  refine pm_R_op pm_M253 (pc' := 118) (st' := [.int 2, .int a1]) (pm_q253_1 (Nat.le_of_ble_eq_true rfl)) rfl rfl ?_
                  refine pm_R_icmp pm_M253 (t := 125) (pc' := 121) (pm_q253_1 (Nat.le_of_ble_eq_true rfl)) rfl rfl (fun c766 => ?_) (fun c766 => ?_)
                  · have B767 : sf_B 3 3 a1 := sf_neL0 c766 sf_k2 B765
                    refine pm_R_lo pm_M253 (pc' := 127) (pm_q253_1 (Nat.le_of_ble_eq_true rfl)) rfl rfl ?_
                    exact pm_R_ret pm_M253 (r := some (.int x4_757)) (pm_q253_1 (Nat.le_of_ble_eq_true rfl)) (pm_ret_i _) (K x4_757 m_757 w_757 h_757 T_757 F_757 W759)
                  · have B768 : sf_B 2 2 a1 := sf_eqL (Classical.not_not.mp c766) sf_k2
                    refine pm_R_lo pm_M253 (pc' := 122) (pm_q253_1 (Nat.le_of_ble_eq_true rfl)) rfl rfl ?_
                    refine pm_R_br pm_M253 (pc' := 127) (pm_q253_1 (Nat.le_of_ble_eq_true rfl)) rfl ?_
                    exact pm_R_ret pm_M253 (r := some (.int x3_757)) (pm_q253_1 (Nat.le_of_ble_eq_true rfl)) (pm_ret_i _) (K x3_757 m_757 w_757 h_757 T_757 F_757 W759)
                · have B769 : sf_B 1 1 a1 := sf_eqL (Classical.not_not.mp c764) sf_k1
                  refine pm_R_lo pm_M253 (pc' := 110) rfl rfl rfl ?_
                  refine rf_R_get pm_M253 T_757 (pc' := 113) (v := .int (m_757 43)) (pm_q253_1 (Nat.le_of_ble_eq_true rfl)) rfl rfl rfl ?_
                  refine pm_R_br pm_M253 (pc' := 127) (pm_q253_1 (Nat.le_of_ble_eq_true rfl)) rfl ?_
                  exact pm_R_ret pm_M253 (r := some (.int (m_757 43))) (pm_q253_1 (Nat.le_of_ble_eq_true rfl)) (pm_ret_i _) (K (m_757 43) m_757 w_757 h_757 T_757 F_757 W759)
              · have B770 : sf_B 0 0 a1 := sf_eqL (Classical.not_not.mp c762) sf_k0
                refine pm_R_lo pm_M253 (pc' := 98) rfl rfl rfl ?_
                have B771 : sf_B 0 6 (m_757 42) := T_757.2.2.1 42
                refine rf_R_get pm_M253 T_757 (pc' := 101) (v := .int (m_757 42)) rfl rfl rfl rfl ?_
                refine pm_R_br pm_M253 (pc' := 127) rfl rfl ?_
                exact pm_R_ret pm_M253 (r := some (.int (m_757 42))) (pm_q253_1 (Nat.le_of_ble_eq_true rfl)) (pm_ret_i _) (K (m_757 42) m_757 w_757 h_757 T_757 F_757 W759)
            · have B772 : sf_B 0 49 x5_757 := sf_ltL (Int32.not_le.mp c761) Bx5_757 B760
              have B773 : sf_B 1 50 (m_757 43) := sf_ltR (Int32.not_le.mp c761) Bx5_757 B760
              refine pm_R_lo pm_M253 (pc' := 42) rfl rfl rfl ?_
              refine pm_R_lo pm_M253 (pc' := 43) rfl rfl rfl ?_
              refine pm_R_lo pm_M253 (pc' := 45) rfl rfl rfl ?_
              refine pm_R_cv pm_M253 (pc' := 48) (a := 41) (ra := [.int x5_757]) (rest := [.int x3_757]) (ls' := [.ref 41, .int x5_757]) rfl rfl (Or.inl rfl) pm_M256 T_757.2.1 rfl (by decide) (Nat.lt_of_lt_of_le (by decide) T_757.1) rfl rfl (Nat.le_of_ble_eq_true rfl) rfl rfl ?_
              refine pm_R_lo pm_M256 (pc' := 1) rfl rfl rfl ?_
              refine pm_R_lo pm_M256 (pc' := 2) rfl rfl rfl ?_
              refine pm_R_op pm_M256 (pc' := 3) (st' := [.int 0, .int x5_757, .ref 41]) rfl rfl rfl ?_
              refine pm_R_cv pm_M256 (pc' := 6) (a := 41) (ra := [.int 0, .int x5_757]) (rest := []) (ls' := [.ref 41, .int x5_757, .int 0]) rfl rfl (Or.inl rfl) pm_M255 T_757.2.1 rfl (by decide) (Nat.lt_of_lt_of_le (by decide) T_757.1) rfl rfl (Nat.le_of_ble_eq_true rfl) rfl rfl ?_
              refine pm_R_lo pm_M255 (pc' := 1) rfl rfl rfl ?_
              refine rf_R_get pm_M255 T_757 (pc' := 4) (v := .ref 49) rfl rfl rfl rfl ?_
              refine pm_R_op pm_M255 (pc' := 7) (st' := [.int 152, .ref 49]) rfl rfl rfl ?_
              refine pm_R_lo pm_M255 (pc' := 8) rfl rfl rfl ?_
              have B774 : sf_B 0 1 (m_757 44) := T_757.2.2.1 44
              refine rf_R_get pm_M255 T_757 (pc' := 11) (v := .int (m_757 44)) rfl rfl rfl rfl ?_
              refine sf_R_imul pm_M255 (pc' := 12) rfl rfl sf_k152 B774 (by decide) (by decide) (by decide) (fun z775 e776 B777 => ?_)
              refine pm_R_op pm_M255 (pc' := 13) (st' := [.int 2, .int z775, .ref 49]) rfl rfl rfl ?_
              refine sf_R_iadd pm_M255 (pc' := 14) rfl rfl B777 sf_k2 (by decide) (by decide) (fun z778 e779 B780 => ?_)
              refine pm_R_op pm_M255 (pc' := 15) (st' := [.int 3, .int z778, .ref 49]) rfl rfl rfl ?_
              refine pm_R_lo pm_M255 (pc' := 16) rfl rfl rfl ?_
              refine sf_R_imul pm_M255 (pc' := 17) rfl rfl sf_k3 B772 (by decide) (by decide) (by decide) (fun z781 e782 B783 => ?_)
              refine sf_R_iadd pm_M255 (pc' := 18) rfl rfl B780 B783 (by decide) (by decide) (fun z784 e785 B786 => ?_)
              refine pm_R_lo pm_M255 (pc' := 19) rfl rfl rfl ?_
              refine sf_R_iadd pm_M255 (pc' := 20) rfl rfl B786 sf_k0 (by decide) (by decide) (fun z787 e788 B789 => ?_)
              obtain ⟨f790, e791, b792⟩ := T_757.2.2.2.1 49 (by decide) (by decide)
              refine rf_R_ild pm_M255 T_757 (pc' := 21) rfl e791 (by decide) (sf_in B789 (by decide) (by decide)) rfl (fun z793 ez794 => ?_)
              have e795 : (z787).toInt = 152 * ((m_757 44)).toInt + 3 * (x5_757).toInt + 2 := by
                have q0 := e776
                have q1 := e779
                have q2 := e782
                have q3 := e785
                have q4 := e788
                simp only [(show (0 : Int32).toInt = 0 from rfl), (show (2 : Int32).toInt = 2 from rfl), (show (3 : Int32).toInt = 3 from rfl), (show (152 : Int32).toInt = 152 from rfl)] at q0 q1 q2 q3 q4
                omega
              have B796 : sf_B 0 2 z793 := ez794 ▸ rf_p49s b792 e795 B774 B772 (by decide) (by decide) (by decide)
              refine pm_R_ret pm_M255 (r := some (.int z793)) rfl (pm_ret_i _) ?_
              show pm_R _ 256 6 [.ref 41, .int x5_757] [.int z793] _ _
              refine pm_R_op pm_M256 (pc' := 7) (st' := [.int 2, .int z793]) rfl rfl rfl ?_
              refine pm_R_icmp pm_M256 (t := 14) (pc' := 10) rfl rfl rfl (fun c797 => ?_) (fun c797 => ?_)
              · have B798 : sf_B 0 1 z793 := sf_neH0 c797 sf_k2 B796
                refine pm_R_op pm_M256 (pc' := 15) (st' := [.int 0]) rfl rfl rfl ?_
                refine pm_R_ret pm_M256 (r := some (.int 0)) rfl rfl ?_
                show pm_R _ 253 48 [.ref 41, .int a0, .int a1, .int x3_757, .int x4_757, .int x5_757] [.int 0, .int x3_757] _ _
                refine pm_R_br pm_M253 (pc' := 55) (st' := [.int x3_757]) rfl rfl ?_
                refine pm_R_op pm_M253 (pc' := 56) (st' := [.int 0, .int x3_757]) rfl rfl rfl ?_
                refine sf_R_iadd pm_M253 (pc' := 57) rfl rfl Bx3_757 sf_k0 (by decide) (by decide) (fun z799 e800 B801 => ?_)
                refine pm_R_lo pm_M253 (pc' := 58) (ls' := [.ref 41, .int a0, .int a1, .int z799, .int x4_757, .int x5_757]) (st' := []) rfl rfl rfl ?_
                refine pm_R_lo pm_M253 (pc' := 60) rfl rfl rfl ?_
                refine pm_R_lo pm_M253 (pc' := 61) rfl rfl rfl ?_
                refine pm_R_lo pm_M253 (pc' := 63) rfl rfl rfl ?_
                refine pm_R_cv pm_M253 (pc' := 66) (a := 41) (ra := [.int x5_757]) (rest := [.int x4_757]) (ls' := [.ref 41, .int x5_757]) rfl rfl (Or.inl rfl) pm_M256 T_757.2.1 rfl (by decide) (Nat.lt_of_lt_of_le (by decide) T_757.1) rfl rfl (Nat.le_of_ble_eq_true rfl) rfl rfl ?_
                refine pm_R_lo pm_M256 (pc' := 1) rfl rfl rfl ?_
                refine pm_R_lo pm_M256 (pc' := 2) rfl rfl rfl ?_
                refine pm_R_op pm_M256 (pc' := 3) (st' := [.int 0, .int x5_757, .ref 41]) rfl rfl rfl ?_
                refine pm_R_cv pm_M256 (pc' := 6) (a := 41) (ra := [.int 0, .int x5_757]) (rest := []) (ls' := [.ref 41, .int x5_757, .int 0]) rfl rfl (Or.inl rfl) pm_M255 T_757.2.1 rfl (by decide) (Nat.lt_of_lt_of_le (by decide) T_757.1) rfl rfl (Nat.le_of_ble_eq_true rfl) rfl rfl ?_
                refine pm_R_lo pm_M255 (pc' := 1) rfl rfl rfl ?_
                refine rf_R_get pm_M255 T_757 (pc' := 4) (v := .ref 49) rfl rfl rfl rfl ?_
                refine pm_R_op pm_M255 (pc' := 7) (st' := [.int 152, .ref 49]) rfl rfl rfl ?_
                refine pm_R_lo pm_M255 (pc' := 8) rfl rfl rfl ?_
                refine rf_R_get pm_M255 T_757 (pc' := 11) (v := .int (m_757 44)) rfl rfl rfl rfl ?_
                refine sf_R_imul pm_M255 (pc' := 12) rfl rfl sf_k152 B774 (by decide) (by decide) (by decide) (fun z802 e803 B804 => ?_)
                refine pm_R_op pm_M255 (pc' := 13) (st' := [.int 2, .int z802, .ref 49]) rfl rfl rfl ?_
                refine sf_R_iadd pm_M255 (pc' := 14) rfl rfl B804 sf_k2 (by decide) (by decide) (fun z805 e806 B807 => ?_)
                refine pm_R_op pm_M255 (pc' := 15) (st' := [.int 3, .int z805, .ref 49]) rfl rfl rfl ?_
                refine pm_R_lo pm_M255 (pc' := 16) rfl rfl rfl ?_
                refine sf_R_imul pm_M255 (pc' := 17) rfl rfl sf_k3 B772 (by decide) (by decide) (by decide) (fun z808 e809 B810 => ?_)
                refine sf_R_iadd pm_M255 (pc' := 18) rfl rfl B807 B810 (by decide) (by decide) (fun z811 e812 B813 => ?_)
                refine pm_R_lo pm_M255 (pc' := 19) rfl rfl rfl ?_
                refine sf_R_iadd pm_M255 (pc' := 20) rfl rfl B813 sf_k0 (by decide) (by decide) (fun z814 e815 B816 => ?_)
                refine rf_R_ild pm_M255 T_757 (pc' := 21) rfl e791 (by decide) (sf_in B816 (by decide) (by decide)) rfl (fun z817 ez818 => ?_)
                have e819 : (z814).toInt = 152 * ((m_757 44)).toInt + 3 * (x5_757).toInt + 2 := by
                  have q0 := e803
                  have q1 := e806
                  have q2 := e809
                  have q3 := e812
                  have q4 := e815
                  simp only [(show (0 : Int32).toInt = 0 from rfl), (show (2 : Int32).toInt = 2 from rfl), (show (3 : Int32).toInt = 3 from rfl), (show (152 : Int32).toInt = 152 from rfl)] at q0 q1 q2 q3 q4
                  omega
                have B820 : sf_B 0 2 z817 := ez818 ▸ rf_p49s b792 e819 B774 B772 (by decide) (by decide) (by decide)
                refine pm_R_ret pm_M255 (r := some (.int z817)) rfl (pm_ret_i _) ?_
                show pm_R _ 256 6 [.ref 41, .int x5_757] [.int z817] _ _
                refine pm_R_op pm_M256 (pc' := 7) (st' := [.int 2, .int z817]) rfl rfl rfl ?_
                refine pm_R_icmp pm_M256 (t := 14) (pc' := 10) rfl rfl rfl (fun c821 => ?_) (fun c821 => ?_)
                · have B822 : sf_B 0 1 z817 := sf_neH0 c821 sf_k2 B820
                  refine pm_R_op pm_M256 (pc' := 15) (st' := [.int 0]) rfl rfl rfl ?_
                  refine pm_R_ret pm_M256 (r := some (.int 0)) rfl rfl ?_
                  show pm_R _ 253 66 [.ref 41, .int a0, .int a1, .int z799, .int x4_757, .int x5_757] [.int 0, .int x4_757] _ _
                  refine pm_R_br pm_M253 (pc' := 83) (st' := [.int x4_757]) rfl rfl ?_
                  refine pm_R_op pm_M253 (pc' := 84) (st' := [.int 0, .int x4_757]) rfl rfl rfl ?_
                  refine sf_R_iadd pm_M253 (pc' := 85) rfl rfl Bx4_757 sf_k0 (by decide) (by decide) (fun z823 e824 B825 => ?_)
                  refine pm_R_lo pm_M253 (pc' := 87) (ls' := [.ref 41, .int a0, .int a1, .int z799, .int z823, .int x5_757]) (st' := []) rfl rfl rfl ?_
                  refine sf_R_iinc pm_M253 (pc' := 90) (ls' := fun z => [.ref 41, .int a0, .int a1, .int z799, .int z823, .int z]) rfl B772 rfl (by decide) (by decide) (by decide) (fun _ => rfl) rfl (fun z826 e827 B828 => ?_)
                  show pm_R _ 253 90 [.ref 41, .int a0, .int a1, .int z799, .int z823, .int z826] [] _ _
                  refine pm_R_br pm_M253 (pc' := 32) rfl rfl ?_
                  exact ih_757 _ (sf_up hN_757 e827 B772 (by decide) (by decide)) h_757 m_757 w_757 z799 z823 z826 T_757 F_757 W_757 B801 B825 (sf_weak B828 (by decide) (by decide)) rfl
                · have B829 : sf_B 2 2 z817 := sf_eqL (Classical.not_not.mp c821) sf_k2
                  refine pm_R_op pm_M256 (pc' := 11) (st' := [.int 1]) rfl rfl rfl ?_
                  refine pm_R_br pm_M256 (pc' := 15) rfl rfl ?_
                  refine pm_R_ret pm_M256 (r := some (.int 1)) rfl rfl ?_
                  show pm_R _ 253 66 [.ref 41, .int a0, .int a1, .int z799, .int x4_757, .int x5_757] [.int 1, .int x4_757] _ _
                  refine pm_R_br pm_M253 (pc' := 69) (st' := [.int x4_757]) rfl rfl ?_
                  refine pm_R_lo pm_M253 (pc' := 70) rfl rfl rfl ?_
                  refine rf_R_get pm_M253 T_757 (pc' := 73) (v := .ref 68) rfl rfl rfl rfl ?_
                  refine pm_R_lo pm_M253 (pc' := 75) rfl rfl rfl ?_
                  obtain ⟨f830, e831⟩ := T_757.2.2.2.1 68 (by decide) (by decide)
                  refine rf_R_ild pm_M253 T_757 (pc' := 76) rfl e831 (by decide) (sf_in B772 (by decide) (by decide)) rfl (fun z833 ez834 => ?_)
                  refine pm_R_ifc pm_M253 (t := 83) (pc' := 79) rfl rfl rfl (fun c835 => ?_) (fun c835 => ?_)
                  · skip
                    refine pm_R_op pm_M253 (pc' := 84) (st' := [.int 0, .int x4_757]) rfl rfl rfl ?_
                    refine sf_R_iadd pm_M253 (pc' := 85) rfl rfl Bx4_757 sf_k0 (by decide) (by decide) (fun z836 e837 B838 => ?_)
                    refine pm_R_lo pm_M253 (pc' := 87) (ls' := [.ref 41, .int a0, .int a1, .int z799, .int z836, .int x5_757]) (st' := []) rfl rfl rfl ?_
                    refine sf_R_iinc pm_M253 (pc' := 90) (ls' := fun z => [.ref 41, .int a0, .int a1, .int z799, .int z836, .int z]) rfl B772 rfl (by decide) (by decide) (by decide) (fun _ => rfl) rfl (fun z839 e840 B841 => ?_)
                    show pm_R _ 253 90 [.ref 41, .int a0, .int a1, .int z799, .int z836, .int z839] [] _ _
                    refine pm_R_br pm_M253 (pc' := 32) rfl rfl ?_
                    exact ih_757 _ (sf_up hN_757 e840 B772 (by decide) (by decide)) h_757 m_757 w_757 z799 z836 z839 T_757 F_757 W_757 B801 B838 (sf_weak B841 (by decide) (by decide)) rfl
                  · have B842 : sf_B 0 0 z833 := sf_eqL (Classical.not_not.mp c835) sf_k0
                    refine pm_R_op pm_M253 (pc' := 80) (st' := [.int 1, .int x4_757]) rfl rfl rfl ?_
                    refine pm_R_br pm_M253 (pc' := 84) rfl rfl ?_
                    refine sf_R_iany pm_M253 (pc' := 85) (st := []) rfl rfl rfl (fun z846 => ?_)
                    refine pm_R_lo pm_M253 (pc' := 87) (ls' := [.ref 41, .int a0, .int a1, .int z799, .int z846, .int x5_757]) (st' := []) rfl rfl rfl ?_
                    refine sf_R_iinc pm_M253 (pc' := 90) (ls' := fun z => [.ref 41, .int a0, .int a1, .int z799, .int z846, .int z]) rfl B772 rfl (by decide) (by decide) (by decide) (fun _ => rfl) rfl (fun z847 e848 B849 => ?_)
                    show pm_R _ 253 90 [.ref 41, .int a0, .int a1, .int z799, .int z846, .int z847] [] _ _
                    refine pm_R_br pm_M253 (pc' := 32) rfl rfl ?_
                    exact ih_757 _ (sf_up hN_757 e848 B772 (by decide) (by decide)) h_757 m_757 w_757 z799 z846 z847 T_757 F_757 W_757 B801 (sf_any z846) (sf_weak B849 (by decide) (by decide)) rfl
              · have B850 : sf_B 2 2 z793 := sf_eqL (Classical.not_not.mp c797) sf_k2
                refine pm_R_op pm_M256 (pc' := 11) (st' := [.int 1]) rfl rfl rfl ?_
                refine pm_R_br pm_M256 (pc' := 15) rfl rfl ?_
                refine pm_R_ret pm_M256 (r := some (.int 1)) rfl rfl ?_
                show pm_R _ 253 48 [.ref 41, .int a0, .int a1, .int x3_757, .int x4_757, .int x5_757] [.int 1, .int x3_757] _ _
                refine pm_R_br pm_M253 (pc' := 51) (st' := [.int x3_757]) rfl rfl ?_
                refine pm_R_op pm_M253 (pc' := 52) (st' := [.int 1, .int x3_757]) rfl rfl rfl ?_
                refine pm_R_br pm_M253 (pc' := 56) rfl rfl ?_
                refine sf_R_iany pm_M253 (pc' := 57) (st := []) rfl rfl rfl (fun z854 => ?_)
                refine pm_R_lo pm_M253 (pc' := 58) (ls' := [.ref 41, .int a0, .int a1, .int z854, .int x4_757, .int x5_757]) (st' := []) rfl rfl rfl ?_
                refine pm_R_lo pm_M253 (pc' := 60) rfl rfl rfl ?_
                refine pm_R_lo pm_M253 (pc' := 61) rfl rfl rfl ?_
                refine pm_R_lo pm_M253 (pc' := 63) rfl rfl rfl ?_
                refine pm_R_cv pm_M253 (pc' := 66) (a := 41) (ra := [.int x5_757]) (rest := [.int x4_757]) (ls' := [.ref 41, .int x5_757]) rfl rfl (Or.inl rfl) pm_M256 T_757.2.1 rfl (by decide) (Nat.lt_of_lt_of_le (by decide) T_757.1) rfl rfl (Nat.le_of_ble_eq_true rfl) rfl rfl ?_
                refine pm_R_lo pm_M256 (pc' := 1) rfl rfl rfl ?_
                refine pm_R_lo pm_M256 (pc' := 2) rfl rfl rfl ?_
                refine pm_R_op pm_M256 (pc' := 3) (st' := [.int 0, .int x5_757, .ref 41]) rfl rfl rfl ?_
                refine pm_R_cv pm_M256 (pc' := 6) (a := 41) (ra := [.int 0, .int x5_757]) (rest := []) (ls' := [.ref 41, .int x5_757, .int 0]) rfl rfl (Or.inl rfl) pm_M255 T_757.2.1 rfl (by decide) (Nat.lt_of_lt_of_le (by decide) T_757.1) rfl rfl (Nat.le_of_ble_eq_true rfl) rfl rfl ?_
                refine pm_R_lo pm_M255 (pc' := 1) rfl rfl rfl ?_
                refine rf_R_get pm_M255 T_757 (pc' := 4) (v := .ref 49) rfl rfl rfl rfl ?_
                refine pm_R_op pm_M255 (pc' := 7) (st' := [.int 152, .ref 49]) rfl rfl rfl ?_
                refine pm_R_lo pm_M255 (pc' := 8) rfl rfl rfl ?_
                refine rf_R_get pm_M255 T_757 (pc' := 11) (v := .int (m_757 44)) rfl rfl rfl rfl ?_
                refine sf_R_imul pm_M255 (pc' := 12) rfl rfl sf_k152 B774 (by decide) (by decide) (by decide) (fun z855 e856 B857 => ?_)
                refine pm_R_op pm_M255 (pc' := 13) (st' := [.int 2, .int z855, .ref 49]) rfl rfl rfl ?_
                refine sf_R_iadd pm_M255 (pc' := 14) rfl rfl B857 sf_k2 (by decide) (by decide) (fun z858 e859 B860 => ?_)
                refine pm_R_op pm_M255 (pc' := 15) (st' := [.int 3, .int z858, .ref 49]) rfl rfl rfl ?_
                refine pm_R_lo pm_M255 (pc' := 16) rfl rfl rfl ?_
                refine sf_R_imul pm_M255 (pc' := 17) rfl rfl sf_k3 B772 (by decide) (by decide) (by decide) (fun z861 e862 B863 => ?_)
                refine sf_R_iadd pm_M255 (pc' := 18) rfl rfl B860 B863 (by decide) (by decide) (fun z864 e865 B866 => ?_)
                refine pm_R_lo pm_M255 (pc' := 19) rfl rfl rfl ?_
                refine sf_R_iadd pm_M255 (pc' := 20) rfl rfl B866 sf_k0 (by decide) (by decide) (fun z867 e868 B869 => ?_)
                refine rf_R_ild pm_M255 T_757 (pc' := 21) rfl e791 (by decide) (sf_in B869 (by decide) (by decide)) rfl (fun z870 ez871 => ?_)
                have e872 : (z867).toInt = 152 * ((m_757 44)).toInt + 3 * (x5_757).toInt + 2 := by
                  have q0 := e856
                  have q1 := e859
                  have q2 := e862
                  have q3 := e865
                  have q4 := e868
                  simp only [(show (0 : Int32).toInt = 0 from rfl), (show (2 : Int32).toInt = 2 from rfl), (show (3 : Int32).toInt = 3 from rfl), (show (152 : Int32).toInt = 152 from rfl)] at q0 q1 q2 q3 q4
                  omega
                have B873 : sf_B 0 2 z870 := ez871 ▸ rf_p49s b792 e872 B774 B772 (by decide) (by decide) (by decide)
                refine pm_R_ret pm_M255 (r := some (.int z870)) rfl (pm_ret_i _) ?_
                show pm_R _ 256 6 [.ref 41, .int x5_757] [.int z870] _ _
                refine pm_R_op pm_M256 (pc' := 7) (st' := [.int 2, .int z870]) rfl rfl rfl ?_
                refine pm_R_icmp pm_M256 (t := 14) (pc' := 10) rfl rfl rfl (fun c874 => ?_) (fun c874 => ?_)
                · have B875 : sf_B 0 1 z870 := sf_neH0 c874 sf_k2 B873
                  refine pm_R_op pm_M256 (pc' := 15) (st' := [.int 0]) rfl rfl rfl ?_
                  refine pm_R_ret pm_M256 (r := some (.int 0)) rfl rfl ?_
                  show pm_R _ 253 66 [.ref 41, .int a0, .int a1, .int z854, .int x4_757, .int x5_757] [.int 0, .int x4_757] _ _
                  refine pm_R_br pm_M253 (pc' := 83) (st' := [.int x4_757]) rfl rfl ?_
                  refine pm_R_op pm_M253 (pc' := 84) (st' := [.int 0, .int x4_757]) rfl rfl rfl ?_
                  refine sf_R_iadd pm_M253 (pc' := 85) rfl rfl Bx4_757 sf_k0 (by decide) (by decide) (fun z876 e877 B878 => ?_)
                  refine pm_R_lo pm_M253 (pc' := 87) (ls' := [.ref 41, .int a0, .int a1, .int z854, .int z876, .int x5_757]) (st' := []) rfl rfl rfl ?_
                  refine sf_R_iinc pm_M253 (pc' := 90) (ls' := fun z => [.ref 41, .int a0, .int a1, .int z854, .int z876, .int z]) rfl B772 rfl (by decide) (by decide) (by decide) (fun _ => rfl) rfl (fun z879 e880 B881 => ?_)
                  show pm_R _ 253 90 [.ref 41, .int a0, .int a1, .int z854, .int z876, .int z879] [] _ _
                  refine pm_R_br pm_M253 (pc' := 32) rfl rfl ?_
                  exact ih_757 _ (sf_up hN_757 e880 B772 (by decide) (by decide)) h_757 m_757 w_757 z854 z876 z879 T_757 F_757 W_757 (sf_any z854) B878 (sf_weak B881 (by decide) (by decide)) rfl
                · have B882 : sf_B 2 2 z870 := sf_eqL (Classical.not_not.mp c874) sf_k2
                  refine pm_R_op pm_M256 (pc' := 11) (st' := [.int 1]) rfl rfl rfl ?_
                  refine pm_R_br pm_M256 (pc' := 15) rfl rfl ?_
                  refine pm_R_ret pm_M256 (r := some (.int 1)) rfl rfl ?_
                  show pm_R _ 253 66 [.ref 41, .int a0, .int a1, .int z854, .int x4_757, .int x5_757] [.int 1, .int x4_757] _ _
                  refine pm_R_br pm_M253 (pc' := 69) (st' := [.int x4_757]) rfl rfl ?_
                  refine pm_R_lo pm_M253 (pc' := 70) rfl rfl rfl ?_
                  refine rf_R_get pm_M253 T_757 (pc' := 73) (v := .ref 68) rfl rfl rfl rfl ?_
                  refine pm_R_lo pm_M253 (pc' := 75) rfl rfl rfl ?_
                  obtain ⟨f883, e884⟩ := T_757.2.2.2.1 68 (by decide) (by decide)
                  refine rf_R_ild pm_M253 T_757 (pc' := 76) rfl e884 (by decide) (sf_in B772 (by decide) (by decide)) rfl (fun z886 ez887 => ?_)
                  refine pm_R_ifc pm_M253 (t := 83) (pc' := 79) rfl rfl rfl (fun c888 => ?_) (fun c888 => ?_)
                  · skip
                    refine pm_R_op pm_M253 (pc' := 84) (st' := [.int 0, .int x4_757]) rfl rfl rfl ?_
                    refine sf_R_iadd pm_M253 (pc' := 85) rfl rfl Bx4_757 sf_k0 (by decide) (by decide) (fun z889 e890 B891 => ?_)
                    refine pm_R_lo pm_M253 (pc' := 87) (ls' := [.ref 41, .int a0, .int a1, .int z854, .int z889, .int x5_757]) (st' := []) rfl rfl rfl ?_
                    refine sf_R_iinc pm_M253 (pc' := 90) (ls' := fun z => [.ref 41, .int a0, .int a1, .int z854, .int z889, .int z]) rfl B772 rfl (by decide) (by decide) (by decide) (fun _ => rfl) rfl (fun z892 e893 B894 => ?_)
                    show pm_R _ 253 90 [.ref 41, .int a0, .int a1, .int z854, .int z889, .int z892] [] _ _
                    refine pm_R_br pm_M253 (pc' := 32) rfl rfl ?_
                    exact ih_757 _ (sf_up hN_757 e893 B772 (by decide) (by decide)) h_757 m_757 w_757 z854 z889 z892 T_757 F_757 W_757 (sf_any z854) B891 (sf_weak B894 (by decide) (by decide)) rfl
                  · have B895 : sf_B 0 0 z886 := sf_eqL (Classical.not_not.mp c888) sf_k0
                    refine pm_R_op pm_M253 (pc' := 80) (st' := [.int 1, .int x4_757]) rfl rfl rfl ?_
                    refine pm_R_br pm_M253 (pc' := 84) rfl rfl ?_
                    refine sf_R_iany pm_M253 (pc' := 85) (st := []) rfl rfl rfl (fun z899 => ?_)
                    refine pm_R_lo pm_M253 (pc' := 87) (ls' := [.ref 41, .int a0, .int a1, .int z854, .int z899, .int x5_757]) (st' := []) rfl rfl rfl ?_
                    refine sf_R_iinc pm_M253 (pc' := 90) (ls' := fun z => [.ref 41, .int a0, .int a1, .int z854, .int z899, .int z]) rfl B772 rfl (by decide) (by decide) (by decide) (fun _ => rfl) rfl (fun z900 e901 B902 => ?_)
                    show pm_R _ 253 90 [.ref 41, .int a0, .int a1, .int z854, .int z899, .int z900] [] _ _
                    refine pm_R_br pm_M253 (pc' := 32) rfl rfl ?_
                    exact ih_757 _ (sf_up hN_757 e901 B772 (by decide) (by decide)) h_757 m_757 w_757 z854 z899 z900 T_757 F_757 W_757 (sf_any z854) (sf_any z899) (sf_weak B902 (by decide) (by decide)) rfl
        exact L_757 _ h13 m11 w12 0 0 0 T14 F17 (rf_W.refl _ _) (sf_weak sf_k0 (by decide) (by decide)) (sf_weak sf_k0 (by decide) (by decide)) (sf_weak sf_k0 (by decide) (by decide)) rfl

set_option maxRecDepth 100000 in
set_option maxHeartbeats 4000000 in
/-- SilentTableModel.deed -/
theorem rf_c257 {d : Nat} {m : Nat → Int32} {w : Int64} {h : pm_H} {Q : Option Value → pm_H → Prop} {a0 : Int32} {a1 : Int32} {a2 : Int32} (T : rf_T m w h)  (K : ∀ (r : Int32) (m' : Nat → Int32) (w' : Int64) (h' : pm_H), rf_T m' w' h' → rf_F h h' → rf_W [0, 42, 43, 44] m m' → Q (some (.int r)) h') : pm_R (d + 3) 257 0 [.ref 41, .int a0, .int a1, .int a2] [] h Q := by
  refine pm_R_lo pm_M257 (pc' := 1) rfl rfl rfl ?_
  refine pm_R_op pm_M257 (pc' := 2) (st' := [.int 0, .ref 41]) rfl rfl rfl ?_
  refine rf_R_put pm_M257 T (pc' := 5) rfl rfl rfl (by decide) rfl rfl sf_k0 rfl rfl (fun h1 m4 em5 T2 F3 => ?_)
  have F6 := (rf_F.refl h).trans F3
  have B7 : sf_B 0 0 (m4 0) := by rw [em5]; exact sf_k0
  have W8 : rf_W [0, 42, 43, 44] m m4 := by rw [em5]; exact (rf_W.refl [0, 42, 43, 44] m).put (by decide)
  refine pm_R_lo pm_M257 (pc' := 6) rfl rfl rfl ?_
  refine pm_R_lo pm_M257 (pc' := 7) rfl rfl rfl ?_
  refine pm_R_cv pm_M257 (pc' := 10) (a := 41) (ra := [.int a0]) (rest := []) (ls' := [.ref 41, .int a0, pm_no, pm_no, pm_no, pm_no]) rfl rfl (Or.inl rfl) pm_M254 T2.2.1 rfl (by decide) (Nat.lt_of_lt_of_le (by decide) T2.1) rfl rfl (Nat.le_of_ble_eq_true rfl) rfl rfl ?_
  refine rf_c254 (d := d + 0) T2  (fun r9 m11 w12 h13 T14 F15 W16 B10 => ?_)
  have F17 := F6.trans F15
  have W18 : rf_W [0, 42, 43, 44] m m11 := W8.trans W16 (by decide)
  show pm_R _ 257 10 [.ref 41, .int a0, .int a1, .int a2] [.int r9] _ _
  refine pm_R_ifc pm_M257 (t := 36) (pc' := 13) rfl rfl rfl (fun c19 => ?_) (fun c19 => ?_)
  · have B20 : sf_B 0 0 r9 := sf_eqL c19 sf_k0
    refine pm_R_op pm_M257 (pc' := 38) (st' := [.int (-2)]) rfl rfl rfl ?_
    exact pm_R_ret pm_M257 (r := some (.int (-2))) rfl rfl (K (-2) m11 w12 h13 T14 F17 W18)
  · have B21 : sf_B 1 1 r9 := sf_neL0 c19 sf_k0 B10
    refine pm_R_lo pm_M257 (pc' := 14) rfl rfl rfl ?_
    refine pm_R_op pm_M257 (pc' := 15) (st' := [.int 0, .int a1]) rfl rfl rfl ?_
    refine pm_R_lo pm_M257 (pc' := 16) rfl rfl rfl ?_
    have B22 : sf_B 0 50 (m11 43) := T14.2.2.1 43
    refine rf_R_get pm_M257 T14 (pc' := 19) (v := .int (m11 43)) rfl rfl rfl rfl ?_
    refine pm_R_op pm_M257 (pc' := 20) (st' := [.int 1, .int (m11 43), .int 0, .int a1]) rfl rfl rfl ?_
    refine sf_R_isub pm_M257 (pc' := 21) rfl rfl B22 sf_k1 (by decide) (by decide) (fun z23 e24 B25 => ?_)
    refine pm_R_cs pm_M257 (pc' := 24) (ra := [.int z23, .int 0, .int a1]) (rest := []) (ls' := [.int a1, .int 0, .int z23]) rfl rfl (Or.inl rfl) pm_M174 rfl rfl (Nat.le_of_ble_eq_true rfl) rfl rfl ?_
    refine pm_R_lo pm_M174 (pc' := 1) rfl rfl rfl ?_
    refine pm_R_lo pm_M174 (pc' := 2) rfl rfl rfl ?_
    refine pm_R_icmp pm_M174 (t := 14) (pc' := 5) rfl rfl rfl (fun c26 => ?_) (fun c26 => ?_)
    · have B27 : sf_B (-2147483648) (-1) a1 := sf_ltL c26 (sf_any a1) sf_k0
      refine pm_R_op pm_M174 (pc' := 15) (st' := [.int 0]) rfl rfl rfl ?_
      refine pm_R_ret pm_M174 (r := some (.int 0)) rfl rfl ?_
      show pm_R _ 257 24 [.ref 41, .int a0, .int a1, .int a2] [.int 0] _ _
      refine pm_R_br pm_M257 (pc' := 36) (st' := []) rfl rfl ?_
      refine pm_R_op pm_M257 (pc' := 38) (st' := [.int (-2)]) rfl rfl rfl ?_
      exact pm_R_ret pm_M257 (r := some (.int (-2))) rfl rfl (K (-2) m11 w12 h13 T14 F17 W18)
    · have B28 : sf_B 0 2147483647 a1 := sf_leR (Int32.not_lt.mp c26) sf_k0 (sf_any a1)
      refine pm_R_lo pm_M174 (pc' := 6) rfl rfl rfl ?_
      refine pm_R_lo pm_M174 (pc' := 7) rfl rfl rfl ?_
      refine pm_R_icmp pm_M174 (t := 14) (pc' := 10) rfl rfl rfl (fun c29 => ?_) (fun c29 => ?_)
      · skip
        refine pm_R_op pm_M174 (pc' := 15) (st' := [.int 0]) rfl rfl rfl ?_
        refine pm_R_ret pm_M174 (r := some (.int 0)) rfl rfl ?_
        show pm_R _ 257 24 [.ref 41, .int a0, .int a1, .int a2] [.int 0] _ _
        refine pm_R_br pm_M257 (pc' := 36) (st' := []) rfl rfl ?_
        refine pm_R_op pm_M257 (pc' := 38) (st' := [.int (-2)]) rfl rfl rfl ?_
        exact pm_R_ret pm_M257 (r := some (.int (-2))) rfl rfl (K (-2) m11 w12 h13 T14 F17 W18)
      · have B30 : sf_B 0 49 a1 := sf_leL (Int32.not_lt.mp c29) B28 B25
        have B31 : sf_B 0 49 z23 := sf_leR (Int32.not_lt.mp c29) B28 B25
        refine pm_R_op pm_M174 (pc' := 11) (st' := [.int 1]) rfl rfl rfl ?_
        refine pm_R_br pm_M174 (pc' := 15) rfl rfl ?_
        refine pm_R_ret pm_M174 (r := some (.int 1)) rfl rfl ?_
        show pm_R _ 257 24 [.ref 41, .int a0, .int a1, .int a2] [.int 1] _ _
        refine pm_R_br pm_M257 (pc' := 27) (st' := []) rfl rfl ?_
        refine pm_R_lo pm_M257 (pc' := 28) rfl rfl rfl ?_
        refine pm_R_op pm_M257 (pc' := 29) (st' := [.int 0, .int a2]) rfl rfl rfl ?_
        refine pm_R_op pm_M257 (pc' := 30) (st' := [.int 3, .int 0, .int a2]) rfl rfl rfl ?_
        refine pm_R_cs pm_M257 (pc' := 33) (ra := [.int 3, .int 0, .int a2]) (rest := []) (ls' := [.int a2, .int 0, .int 3]) rfl rfl (Or.inl rfl) pm_M174 rfl rfl (Nat.le_of_ble_eq_true rfl) rfl rfl ?_
        refine pm_R_lo pm_M174 (pc' := 1) rfl rfl rfl ?_
        refine pm_R_lo pm_M174 (pc' := 2) rfl rfl rfl ?_
        refine pm_R_icmp pm_M174 (t := 14) (pc' := 5) rfl rfl rfl (fun c32 => ?_) (fun c32 => ?_)
        · have B33 : sf_B (-2147483648) (-1) a2 := sf_ltL c32 (sf_any a2) sf_k0
          refine pm_R_op pm_M174 (pc' := 15) (st' := [.int 0]) rfl rfl rfl ?_
          refine pm_R_ret pm_M174 (r := some (.int 0)) rfl rfl ?_
          show pm_R _ 257 33 [.ref 41, .int a0, .int a1, .int a2] [.int 0] _ _
          refine pm_R_br pm_M257 (pc' := 36) (st' := []) rfl rfl ?_
          refine pm_R_op pm_M257 (pc' := 38) (st' := [.int (-2)]) rfl rfl rfl ?_
          exact pm_R_ret pm_M257 (r := some (.int (-2))) rfl rfl (K (-2) m11 w12 h13 T14 F17 W18)
        · have B34 : sf_B 0 2147483647 a2 := sf_leR (Int32.not_lt.mp c32) sf_k0 (sf_any a2)
          refine pm_R_lo pm_M174 (pc' := 6) rfl rfl rfl ?_
          refine pm_R_lo pm_M174 (pc' := 7) rfl rfl rfl ?_
          refine pm_R_icmp pm_M174 (t := 14) (pc' := 10) rfl rfl rfl (fun c35 => ?_) (fun c35 => ?_)
          · have B36 : sf_B 4 2147483647 a2 := sf_ltR c35 sf_k3 B34
            refine pm_R_op pm_M174 (pc' := 15) (st' := [.int 0]) rfl rfl rfl ?_
            refine pm_R_ret pm_M174 (r := some (.int 0)) rfl rfl ?_
            show pm_R _ 257 33 [.ref 41, .int a0, .int a1, .int a2] [.int 0] _ _
            refine pm_R_br pm_M257 (pc' := 36) (st' := []) rfl rfl ?_
            refine pm_R_op pm_M257 (pc' := 38) (st' := [.int (-2)]) rfl rfl rfl ?_
            exact pm_R_ret pm_M257 (r := some (.int (-2))) rfl rfl (K (-2) m11 w12 h13 T14 F17 W18)
          · have B37 : sf_B 0 3 a2 := sf_leL (Int32.not_lt.mp c35) B34 sf_k3
            refine pm_R_op pm_M174 (pc' := 11) (st' := [.int 1]) rfl rfl rfl ?_
            refine pm_R_br pm_M174 (pc' := 15) rfl rfl ?_
            refine pm_R_ret pm_M174 (r := some (.int 1)) rfl rfl ?_
            show pm_R _ 257 33 [.ref 41, .int a0, .int a1, .int a2] [.int 1] _ _
            refine pm_R_br pm_M257 (pc' := 39) (st' := []) rfl rfl ?_
            refine pm_R_lo pm_M257 (pc' := 40) rfl rfl rfl ?_
            refine pm_R_op pm_M257 (pc' := 41) (st' := [.int 3, .int a2]) rfl rfl rfl ?_
            refine pm_R_icmp pm_M257 (t := 53) (pc' := 44) rfl rfl rfl (fun c38 => ?_) (fun c38 => ?_)
            · have B39 : sf_B 0 2 a2 := sf_neH0 c38 sf_k3 B37
              refine pm_R_lo pm_M257 (pc' := 54) rfl rfl rfl ?_
              refine pm_R_lo pm_M257 (pc' := 55) rfl rfl rfl ?_
              refine pm_R_lo pm_M257 (pc' := 56) rfl rfl rfl ?_
              refine pm_R_cv pm_M257 (pc' := 59) (a := 41) (ra := [.int a2, .int a1]) (rest := []) (ls' := [.ref 41, .int a1, .int a2]) rfl rfl (Or.inl rfl) pm_M255 T14.2.1 rfl (by decide) (Nat.lt_of_lt_of_le (by decide) T14.1) rfl rfl (Nat.le_of_ble_eq_true rfl) rfl rfl ?_
              refine pm_R_lo pm_M255 (pc' := 1) rfl rfl rfl ?_
              refine rf_R_get pm_M255 T14 (pc' := 4) (v := .ref 49) rfl rfl rfl rfl ?_
              refine pm_R_op pm_M255 (pc' := 7) (st' := [.int 152, .ref 49]) rfl rfl rfl ?_
              refine pm_R_lo pm_M255 (pc' := 8) rfl rfl rfl ?_
              have B40 : sf_B 0 1 (m11 44) := T14.2.2.1 44
              refine rf_R_get pm_M255 T14 (pc' := 11) (v := .int (m11 44)) rfl rfl rfl rfl ?_
              refine sf_R_imul pm_M255 (pc' := 12) rfl rfl sf_k152 B40 (by decide) (by decide) (by decide) (fun z41 e42 B43 => ?_)
              refine pm_R_op pm_M255 (pc' := 13) (st' := [.int 2, .int z41, .ref 49]) rfl rfl rfl ?_
              refine sf_R_iadd pm_M255 (pc' := 14) rfl rfl B43 sf_k2 (by decide) (by decide) (fun z44 e45 B46 => ?_)
              refine pm_R_op pm_M255 (pc' := 15) (st' := [.int 3, .int z44, .ref 49]) rfl rfl rfl ?_
              refine pm_R_lo pm_M255 (pc' := 16) rfl rfl rfl ?_
              refine sf_R_imul pm_M255 (pc' := 17) rfl rfl sf_k3 B30 (by decide) (by decide) (by decide) (fun z47 e48 B49 => ?_)
              refine sf_R_iadd pm_M255 (pc' := 18) rfl rfl B46 B49 (by decide) (by decide) (fun z50 e51 B52 => ?_)
              refine pm_R_lo pm_M255 (pc' := 19) rfl rfl rfl ?_
              refine sf_R_iadd pm_M255 (pc' := 20) rfl rfl B52 B39 (by decide) (by decide) (fun z53 e54 B55 => ?_)
              obtain ⟨f56, e57, b58⟩ := T14.2.2.2.1 49 (by decide) (by decide)
              refine rf_R_ild pm_M255 T14 (pc' := 21) rfl e57 (by decide) (sf_in B55 (by decide) (by decide)) rfl (fun z59 ez60 => ?_)
              refine pm_R_ret pm_M255 (r := some (.int z59)) rfl (pm_ret_i _) ?_
              show pm_R _ 257 59 [.ref 41, .int a0, .int a1, .int a2] [.int z59] _ _
              exact pm_R_ret pm_M257 (r := some (.int z59)) rfl (pm_ret_i _) (K z59 m11 w12 h13 T14 F17 W18)
            · have B61 : sf_B 3 3 a2 := sf_eqL (Classical.not_not.mp c38) sf_k3
              refine pm_R_lo pm_M257 (pc' := 45) rfl rfl rfl ?_
              refine rf_R_get pm_M257 T14 (pc' := 48) (v := .ref 68) rfl rfl rfl rfl ?_
              refine pm_R_lo pm_M257 (pc' := 49) rfl rfl rfl ?_
              obtain ⟨f62, e63⟩ := T14.2.2.2.1 68 (by decide) (by decide)
              refine rf_R_ild pm_M257 T14 (pc' := 50) rfl e63 (by decide) (sf_in B30 (by decide) (by decide)) rfl (fun z65 ez66 => ?_)
              refine pm_R_br pm_M257 (pc' := 59) rfl rfl ?_
              exact pm_R_ret pm_M257 (r := some (.int z65)) rfl (pm_ret_i _) (K z65 m11 w12 h13 T14 F17 W18)

set_option maxRecDepth 100000 in
set_option maxHeartbeats 4000000 in
/-- SilentTableModel.looks -/
theorem rf_c258 {d : Nat} {m : Nat → Int32} {w : Int64} {h : pm_H} {Q : Option Value → pm_H → Prop} {a0 : Int32} {a1 : Int32} {a2 : Int32} (T : rf_T m w h)  (K : ∀ (r : Int32) (m' : Nat → Int32) (w' : Int64) (h' : pm_H), rf_T m' w' h' → rf_F h h' → rf_W [0, 42, 43, 44] m m' → Q (some (.int r)) h') : pm_R (d + 3) 258 0 [.ref 41, .int a0, .int a1, .int a2] [] h Q := by
  refine pm_R_lo pm_M258 (pc' := 1) rfl rfl rfl ?_
  refine pm_R_op pm_M258 (pc' := 2) (st' := [.int 0, .ref 41]) rfl rfl rfl ?_
  refine rf_R_put pm_M258 T (pc' := 5) rfl rfl rfl (by decide) rfl rfl sf_k0 rfl rfl (fun h1 m4 em5 T2 F3 => ?_)
  have F6 := (rf_F.refl h).trans F3
  have B7 : sf_B 0 0 (m4 0) := by rw [em5]; exact sf_k0
  have W8 : rf_W [0, 42, 43, 44] m m4 := by rw [em5]; exact (rf_W.refl [0, 42, 43, 44] m).put (by decide)
  refine pm_R_lo pm_M258 (pc' := 6) rfl rfl rfl ?_
  refine pm_R_lo pm_M258 (pc' := 7) rfl rfl rfl ?_
  refine pm_R_cv pm_M258 (pc' := 10) (a := 41) (ra := [.int a0]) (rest := []) (ls' := [.ref 41, .int a0, pm_no, pm_no, pm_no, pm_no]) rfl rfl (Or.inl rfl) pm_M254 T2.2.1 rfl (by decide) (Nat.lt_of_lt_of_le (by decide) T2.1) rfl rfl (Nat.le_of_ble_eq_true rfl) rfl rfl ?_
  refine rf_c254 (d := d + 0) T2  (fun r9 m11 w12 h13 T14 F15 W16 B10 => ?_)
  have F17 := F6.trans F15
  have W18 : rf_W [0, 42, 43, 44] m m11 := W8.trans W16 (by decide)
  show pm_R _ 258 10 [.ref 41, .int a0, .int a1, .int a2] [.int r9] _ _
  refine pm_R_ifc pm_M258 (t := 47) (pc' := 13) rfl rfl rfl (fun c19 => ?_) (fun c19 => ?_)
  · have B20 : sf_B 0 0 r9 := sf_eqL c19 sf_k0
    refine pm_R_op pm_M258 (pc' := 49) (st' := [.int (-2)]) rfl rfl rfl ?_
    exact pm_R_ret pm_M258 (r := some (.int (-2))) rfl rfl (K (-2) m11 w12 h13 T14 F17 W18)
  · have B21 : sf_B 1 1 r9 := sf_neL0 c19 sf_k0 B10
    refine pm_R_lo pm_M258 (pc' := 14) rfl rfl rfl ?_
    refine pm_R_op pm_M258 (pc' := 15) (st' := [.int 0, .int a1]) rfl rfl rfl ?_
    refine pm_R_lo pm_M258 (pc' := 16) rfl rfl rfl ?_
    have B22 : sf_B 0 50 (m11 43) := T14.2.2.1 43
    refine rf_R_get pm_M258 T14 (pc' := 19) (v := .int (m11 43)) rfl rfl rfl rfl ?_
    refine pm_R_cs pm_M258 (pc' := 22) (ra := [.int (m11 43), .int 0, .int a1]) (rest := []) (ls' := [.int a1, .int 0, .int (m11 43)]) rfl rfl (Or.inl rfl) pm_M174 rfl rfl (Nat.le_of_ble_eq_true rfl) rfl rfl ?_
    refine pm_R_lo pm_M174 (pc' := 1) rfl rfl rfl ?_
    refine pm_R_lo pm_M174 (pc' := 2) rfl rfl rfl ?_
    refine pm_R_icmp pm_M174 (t := 14) (pc' := 5) rfl rfl rfl (fun c23 => ?_) (fun c23 => ?_)
    · have B24 : sf_B (-2147483648) (-1) a1 := sf_ltL c23 (sf_any a1) sf_k0
      refine pm_R_op pm_M174 (pc' := 15) (st' := [.int 0]) rfl rfl rfl ?_
      refine pm_R_ret pm_M174 (r := some (.int 0)) rfl rfl ?_
      show pm_R _ 258 22 [.ref 41, .int a0, .int a1, .int a2] [.int 0] _ _
      refine pm_R_br pm_M258 (pc' := 47) (st' := []) rfl rfl ?_
      refine pm_R_op pm_M258 (pc' := 49) (st' := [.int (-2)]) rfl rfl rfl ?_
      exact pm_R_ret pm_M258 (r := some (.int (-2))) rfl rfl (K (-2) m11 w12 h13 T14 F17 W18)
    · have B25 : sf_B 0 2147483647 a1 := sf_leR (Int32.not_lt.mp c23) sf_k0 (sf_any a1)
      refine pm_R_lo pm_M174 (pc' := 6) rfl rfl rfl ?_
      refine pm_R_lo pm_M174 (pc' := 7) rfl rfl rfl ?_
      refine pm_R_icmp pm_M174 (t := 14) (pc' := 10) rfl rfl rfl (fun c26 => ?_) (fun c26 => ?_)
      · have B27 : sf_B 1 2147483647 a1 := sf_ltR c26 B22 B25
        refine pm_R_op pm_M174 (pc' := 15) (st' := [.int 0]) rfl rfl rfl ?_
        refine pm_R_ret pm_M174 (r := some (.int 0)) rfl rfl ?_
        show pm_R _ 258 22 [.ref 41, .int a0, .int a1, .int a2] [.int 0] _ _
        refine pm_R_br pm_M258 (pc' := 47) (st' := []) rfl rfl ?_
        refine pm_R_op pm_M258 (pc' := 49) (st' := [.int (-2)]) rfl rfl rfl ?_
        exact pm_R_ret pm_M258 (r := some (.int (-2))) rfl rfl (K (-2) m11 w12 h13 T14 F17 W18)
      · have B28 : sf_B 0 50 a1 := sf_leL (Int32.not_lt.mp c26) B25 B22
        refine pm_R_op pm_M174 (pc' := 11) (st' := [.int 1]) rfl rfl rfl ?_
        refine pm_R_br pm_M174 (pc' := 15) rfl rfl ?_
        refine pm_R_ret pm_M174 (r := some (.int 1)) rfl rfl ?_
        show pm_R _ 258 22 [.ref 41, .int a0, .int a1, .int a2] [.int 1] _ _
        refine pm_R_br pm_M258 (pc' := 25) (st' := []) rfl rfl ?_
        refine pm_R_lo pm_M258 (pc' := 26) rfl rfl rfl ?_
        refine pm_R_lo pm_M258 (pc' := 27) rfl rfl rfl ?_
        refine pm_R_cv pm_M258 (pc' := 30) (a := 41) (ra := [.int a2]) (rest := []) (ls' := [.ref 41, .int a2]) rfl rfl (Or.inl rfl) pm_M259 T14.2.1 rfl (by decide) (Nat.lt_of_lt_of_le (by decide) T14.1) rfl rfl (Nat.le_of_ble_eq_true rfl) rfl rfl ?_
        refine pm_R_lo pm_M259 (pc' := 1) rfl rfl rfl ?_
        refine pm_R_op pm_M259 (pc' := 2) (st' := [.int 0, .int a2]) rfl rfl rfl ?_
        refine pm_R_lo pm_M259 (pc' := 3) rfl rfl rfl ?_
        have B29 : sf_B 0 6 (m11 42) := T14.2.2.1 42
        refine rf_R_get pm_M259 T14 (pc' := 6) (v := .int (m11 42)) rfl rfl rfl rfl ?_
        refine pm_R_op pm_M259 (pc' := 7) (st' := [.int 1, .int (m11 42), .int 0, .int a2]) rfl rfl rfl ?_
        refine sf_R_isub pm_M259 (pc' := 8) rfl rfl B29 sf_k1 (by decide) (by decide) (fun z30 e31 B32 => ?_)
        refine pm_R_cs pm_M259 (pc' := 11) (ra := [.int z30, .int 0, .int a2]) (rest := []) (ls' := [.int a2, .int 0, .int z30]) rfl rfl (Or.inl rfl) pm_M174 rfl rfl (Nat.le_of_ble_eq_true rfl) rfl rfl ?_
        refine pm_R_lo pm_M174 (pc' := 1) rfl rfl rfl ?_
        refine pm_R_lo pm_M174 (pc' := 2) rfl rfl rfl ?_
        refine pm_R_icmp pm_M174 (t := 14) (pc' := 5) rfl rfl rfl (fun c33 => ?_) (fun c33 => ?_)
        · have B34 : sf_B (-2147483648) (-1) a2 := sf_ltL c33 (sf_any a2) sf_k0
          refine pm_R_op pm_M174 (pc' := 15) (st' := [.int 0]) rfl rfl rfl ?_
          refine pm_R_ret pm_M174 (r := some (.int 0)) rfl rfl ?_
          show pm_R _ 259 11 [.ref 41, .int a2] [.int 0] _ _
          refine pm_R_ret pm_M259 (r := some (.int 0)) rfl rfl ?_
          show pm_R _ 258 30 [.ref 41, .int a0, .int a1, .int a2] [.int 0] _ _
          refine pm_R_br pm_M258 (pc' := 47) (st' := []) rfl rfl ?_
          refine pm_R_op pm_M258 (pc' := 49) (st' := [.int (-2)]) rfl rfl rfl ?_
          exact pm_R_ret pm_M258 (r := some (.int (-2))) rfl rfl (K (-2) m11 w12 h13 T14 F17 W18)
        · have B35 : sf_B 0 2147483647 a2 := sf_leR (Int32.not_lt.mp c33) sf_k0 (sf_any a2)
          refine pm_R_lo pm_M174 (pc' := 6) rfl rfl rfl ?_
          refine pm_R_lo pm_M174 (pc' := 7) rfl rfl rfl ?_
          refine pm_R_icmp pm_M174 (t := 14) (pc' := 10) rfl rfl rfl (fun c36 => ?_) (fun c36 => ?_)
          · skip
            refine pm_R_op pm_M174 (pc' := 15) (st' := [.int 0]) rfl rfl rfl ?_
            refine pm_R_ret pm_M174 (r := some (.int 0)) rfl rfl ?_
            show pm_R _ 259 11 [.ref 41, .int a2] [.int 0] _ _
            refine pm_R_ret pm_M259 (r := some (.int 0)) rfl rfl ?_
            show pm_R _ 258 30 [.ref 41, .int a0, .int a1, .int a2] [.int 0] _ _
            refine pm_R_br pm_M258 (pc' := 47) (st' := []) rfl rfl ?_
            refine pm_R_op pm_M258 (pc' := 49) (st' := [.int (-2)]) rfl rfl rfl ?_
            exact pm_R_ret pm_M258 (r := some (.int (-2))) rfl rfl (K (-2) m11 w12 h13 T14 F17 W18)
          · have B37 : sf_B 0 5 a2 := sf_leL (Int32.not_lt.mp c36) B35 B32
            have B38 : sf_B 0 5 z30 := sf_leR (Int32.not_lt.mp c36) B35 B32
            refine pm_R_op pm_M174 (pc' := 11) (st' := [.int 1]) rfl rfl rfl ?_
            refine pm_R_br pm_M174 (pc' := 15) rfl rfl ?_
            refine pm_R_ret pm_M174 (r := some (.int 1)) rfl rfl ?_
            show pm_R _ 259 11 [.ref 41, .int a2] [.int 1] _ _
            refine pm_R_ret pm_M259 (r := some (.int 1)) rfl rfl ?_
            show pm_R _ 258 30 [.ref 41, .int a0, .int a1, .int a2] [.int 1] _ _
            refine pm_R_br pm_M258 (pc' := 33) (st' := []) rfl rfl ?_
            refine pm_R_lo pm_M258 (pc' := 34) rfl rfl rfl ?_
            refine rf_R_get pm_M258 T14 (pc' := 37) (v := .ref 67) rfl rfl rfl rfl ?_
            refine pm_R_op pm_M258 (pc' := 39) (st' := [.int 6, .ref 67]) rfl rfl rfl ?_
            refine pm_R_lo pm_M258 (pc' := 40) rfl rfl rfl ?_
            refine sf_R_imul pm_M258 (pc' := 41) rfl rfl sf_k6 B28 (by decide) (by decide) (by decide) (fun z39 e40 B41 => ?_)
            refine pm_R_lo pm_M258 (pc' := 42) rfl rfl rfl ?_
            refine sf_R_iadd pm_M258 (pc' := 43) rfl rfl B41 B37 (by decide) (by decide) (fun z42 e43 B44 => ?_)
            obtain ⟨f45, e46⟩ := T14.2.2.2.1 67 (by decide) (by decide)
            refine rf_R_ild pm_M258 T14 (pc' := 44) rfl e46 (by decide) (sf_in B44 (by decide) (by decide)) rfl (fun z48 ez49 => ?_)
            refine pm_R_br pm_M258 (pc' := 49) rfl rfl ?_
            exact pm_R_ret pm_M258 (r := some (.int z48)) rfl (pm_ret_i _) (K z48 m11 w12 h13 T14 F17 W18)

set_option maxRecDepth 100000 in
set_option maxHeartbeats 4000000 in
/-- SilentTableModel.passed -/
theorem rf_c265 {d : Nat} {m : Nat → Int32} {w : Int64} {h : pm_H} {Q : Option Value → pm_H → Prop} {a0 : Int32} {a1 : Int32} {a2 : Int32} (T : rf_T m w h)  (K : ∀ (r : Int32) (m' : Nat → Int32) (w' : Int64) (h' : pm_H), rf_T m' w' h' → rf_F h h' → rf_W [0, 42, 43, 44] m m' → sf_B (-1) 5 r → Q (some (.int r)) h') : pm_R (d + 4) 265 0 [.ref 41, .int a0, .int a1, .int a2] [] h Q := by
  refine pm_R_lo pm_M265 (pc' := 1) rfl rfl rfl ?_
  refine pm_R_op pm_M265 (pc' := 2) (st' := [.int 0, .ref 41]) rfl rfl rfl ?_
  refine rf_R_put pm_M265 T (pc' := 5) rfl rfl rfl (by decide) rfl rfl sf_k0 rfl rfl (fun h1 m4 em5 T2 F3 => ?_)
  have F6 := (rf_F.refl h).trans F3
  have B7 : sf_B 0 0 (m4 0) := by rw [em5]; exact sf_k0
  have W8 : rf_W [0, 42, 43, 44] m m4 := by rw [em5]; exact (rf_W.refl [0, 42, 43, 44] m).put (by decide)
  refine pm_R_lo pm_M265 (pc' := 6) rfl rfl rfl ?_
  refine pm_R_lo pm_M265 (pc' := 7) rfl rfl rfl ?_
  refine pm_R_lo pm_M265 (pc' := 8) rfl rfl rfl ?_
  refine pm_R_lo pm_M265 (pc' := 9) rfl rfl rfl ?_
  refine pm_R_cv pm_M265 (pc' := 12) (a := 41) (ra := [.int a2, .int a1, .int a0]) (rest := []) (ls' := [.ref 41, .int a0, .int a1, .int a2, pm_no, pm_no, pm_no, pm_no, pm_no]) rfl rfl (Or.inl rfl) pm_M266 T2.2.1 rfl (by decide) (Nat.lt_of_lt_of_le (by decide) T2.1) rfl rfl (Nat.le_of_ble_eq_true rfl) rfl rfl ?_
  refine rf_c266 (d := d + 0) T2  (fun r9 m11 w12 h13 T14 F15 W16 B10 => ?_)
  have F17 := F6.trans F15
  have W18 : rf_W [0, 42, 43, 44] m m11 := W8.trans W16 (by decide)
  show pm_R _ 265 12 [.ref 41, .int a0, .int a1, .int a2] [.int r9] _ _
  exact pm_R_ret pm_M265 (r := some (.int r9)) rfl (pm_ret_i _) (K r9 m11 w12 h13 T14 F17 W18 B10)

set_option maxRecDepth 100000 in
set_option maxHeartbeats 4000000 in
/-- SilentTableModel.watch -/
theorem rf_c269 {d : Nat} {m : Nat → Int32} {w : Int64} {h : pm_H} {Q : Option Value → pm_H → Prop} {a0 : Int32} {a1 : Int32} {a2 : Int32} (T : rf_T m w h)  (K : ∀ (r : Int32) (m' : Nat → Int32) (w' : Int64) (h' : pm_H), rf_T m' w' h' → rf_F h h' → rf_W [0, 42, 43, 44] m m' → sf_B (-1) 2147483647 r → Q (some (.int r)) h') : pm_R (d + 3) 269 0 [.ref 41, .int a0, .int a1, .int a2, pm_no, pm_no, pm_no, pm_no] [] h Q := by
  refine pm_R_lo pm_M269 (pc' := 1) rfl rfl rfl ?_
  refine pm_R_op pm_M269 (pc' := 2) (st' := [.int 0, .ref 41]) rfl rfl rfl ?_
  refine rf_R_put pm_M269 T (pc' := 5) rfl rfl rfl (by decide) rfl rfl sf_k0 rfl rfl (fun h1 m4 em5 T2 F3 => ?_)
  have F6 := (rf_F.refl h).trans F3
  have B7 : sf_B 0 0 (m4 0) := by rw [em5]; exact sf_k0
  have W8 : rf_W [0, 42, 43, 44] m m4 := by rw [em5]; exact (rf_W.refl [0, 42, 43, 44] m).put (by decide)
  refine pm_R_lo pm_M269 (pc' := 6) rfl rfl rfl ?_
  refine pm_R_lo pm_M269 (pc' := 7) rfl rfl rfl ?_
  refine pm_R_cv pm_M269 (pc' := 10) (a := 41) (ra := [.int a0]) (rest := []) (ls' := [.ref 41, .int a0, pm_no, pm_no, pm_no, pm_no]) rfl rfl (Or.inl rfl) pm_M254 T2.2.1 rfl (by decide) (Nat.lt_of_lt_of_le (by decide) T2.1) rfl rfl (Nat.le_of_ble_eq_true rfl) rfl rfl ?_
  refine rf_c254 (d := d + 0) T2  (fun r9 m11 w12 h13 T14 F15 W16 B10 => ?_)
  have F17 := F6.trans F15
  have W18 : rf_W [0, 42, 43, 44] m m11 := W8.trans W16 (by decide)
  show pm_R _ 269 10 [.ref 41, .int a0, .int a1, .int a2, pm_no, pm_no, pm_no, pm_no] [.int r9] _ _
  refine pm_R_ifc pm_M269 (t := 29) (pc' := 13) rfl rfl rfl (fun c19 => ?_) (fun c19 => ?_)
  · have B20 : sf_B 0 0 r9 := sf_eqL c19 sf_k0
    refine pm_R_op pm_M269 (pc' := 30) (st' := [.int (-1)]) rfl rfl rfl ?_
    exact pm_R_ret pm_M269 (r := some (.int (-1))) rfl rfl (K (-1) m11 w12 h13 T14 F17 W18 (sf_weak sf_kn1 (by decide) (by decide)))
  · have B21 : sf_B 1 1 r9 := sf_neL0 c19 sf_k0 B10
    refine pm_R_lo pm_M269 (pc' := 14) rfl rfl rfl ?_
    refine pm_R_lo pm_M269 (pc' := 15) rfl rfl rfl ?_
    refine pm_R_cv pm_M269 (pc' := 18) (a := 41) (ra := [.int a1]) (rest := []) (ls' := [.ref 41, .int a1]) rfl rfl (Or.inl rfl) pm_M259 T14.2.1 rfl (by decide) (Nat.lt_of_lt_of_le (by decide) T14.1) rfl rfl (Nat.le_of_ble_eq_true rfl) rfl rfl ?_
    refine pm_R_lo pm_M259 (pc' := 1) rfl rfl rfl ?_
    refine pm_R_op pm_M259 (pc' := 2) (st' := [.int 0, .int a1]) rfl rfl rfl ?_
    refine pm_R_lo pm_M259 (pc' := 3) rfl rfl rfl ?_
    have B22 : sf_B 0 6 (m11 42) := T14.2.2.1 42
    refine rf_R_get pm_M259 T14 (pc' := 6) (v := .int (m11 42)) rfl rfl rfl rfl ?_
    refine pm_R_op pm_M259 (pc' := 7) (st' := [.int 1, .int (m11 42), .int 0, .int a1]) rfl rfl rfl ?_
    refine sf_R_isub pm_M259 (pc' := 8) rfl rfl B22 sf_k1 (by decide) (by decide) (fun z23 e24 B25 => ?_)
    refine pm_R_cs pm_M259 (pc' := 11) (ra := [.int z23, .int 0, .int a1]) (rest := []) (ls' := [.int a1, .int 0, .int z23]) rfl rfl (Or.inl rfl) pm_M174 rfl rfl (Nat.le_of_ble_eq_true rfl) rfl rfl ?_
    refine pm_R_lo pm_M174 (pc' := 1) rfl rfl rfl ?_
    refine pm_R_lo pm_M174 (pc' := 2) rfl rfl rfl ?_
    refine pm_R_icmp pm_M174 (t := 14) (pc' := 5) rfl rfl rfl (fun c26 => ?_) (fun c26 => ?_)
    · have B27 : sf_B (-2147483648) (-1) a1 := sf_ltL c26 (sf_any a1) sf_k0
      refine pm_R_op pm_M174 (pc' := 15) (st' := [.int 0]) rfl rfl rfl ?_
      refine pm_R_ret pm_M174 (r := some (.int 0)) rfl rfl ?_
      show pm_R _ 259 11 [.ref 41, .int a1] [.int 0] _ _
      refine pm_R_ret pm_M259 (r := some (.int 0)) rfl rfl ?_
      show pm_R _ 269 18 [.ref 41, .int a0, .int a1, .int a2, pm_no, pm_no, pm_no, pm_no] [.int 0] _ _
      refine pm_R_br pm_M269 (pc' := 29) (st' := []) rfl rfl ?_
      refine pm_R_op pm_M269 (pc' := 30) (st' := [.int (-1)]) rfl rfl rfl ?_
      exact pm_R_ret pm_M269 (r := some (.int (-1))) rfl rfl (K (-1) m11 w12 h13 T14 F17 W18 (sf_weak sf_kn1 (by decide) (by decide)))
    · have B28 : sf_B 0 2147483647 a1 := sf_leR (Int32.not_lt.mp c26) sf_k0 (sf_any a1)
      refine pm_R_lo pm_M174 (pc' := 6) rfl rfl rfl ?_
      refine pm_R_lo pm_M174 (pc' := 7) rfl rfl rfl ?_
      refine pm_R_icmp pm_M174 (t := 14) (pc' := 10) rfl rfl rfl (fun c29 => ?_) (fun c29 => ?_)
      · skip
        refine pm_R_op pm_M174 (pc' := 15) (st' := [.int 0]) rfl rfl rfl ?_
        refine pm_R_ret pm_M174 (r := some (.int 0)) rfl rfl ?_
        show pm_R _ 259 11 [.ref 41, .int a1] [.int 0] _ _
        refine pm_R_ret pm_M259 (r := some (.int 0)) rfl rfl ?_
        show pm_R _ 269 18 [.ref 41, .int a0, .int a1, .int a2, pm_no, pm_no, pm_no, pm_no] [.int 0] _ _
        refine pm_R_br pm_M269 (pc' := 29) (st' := []) rfl rfl ?_
        refine pm_R_op pm_M269 (pc' := 30) (st' := [.int (-1)]) rfl rfl rfl ?_
        exact pm_R_ret pm_M269 (r := some (.int (-1))) rfl rfl (K (-1) m11 w12 h13 T14 F17 W18 (sf_weak sf_kn1 (by decide) (by decide)))
      · have B30 : sf_B 0 5 a1 := sf_leL (Int32.not_lt.mp c29) B28 B25
        have B31 : sf_B 0 5 z23 := sf_leR (Int32.not_lt.mp c29) B28 B25
        refine pm_R_op pm_M174 (pc' := 11) (st' := [.int 1]) rfl rfl rfl ?_
        refine pm_R_br pm_M174 (pc' := 15) rfl rfl ?_
        refine pm_R_ret pm_M174 (r := some (.int 1)) rfl rfl ?_
        show pm_R _ 259 11 [.ref 41, .int a1] [.int 1] _ _
        refine pm_R_ret pm_M259 (r := some (.int 1)) rfl rfl ?_
        show pm_R _ 269 18 [.ref 41, .int a0, .int a1, .int a2, pm_no, pm_no, pm_no, pm_no] [.int 1] _ _
        refine pm_R_br pm_M269 (pc' := 21) (st' := []) rfl rfl ?_
        refine pm_R_lo pm_M269 (pc' := 22) rfl rfl rfl ?_
        refine rf_R_get pm_M269 T14 (pc' := 25) (v := .int (m11 42)) rfl rfl rfl rfl ?_
        refine pm_R_op pm_M269 (pc' := 26) (st' := [.int 1, .int (m11 42)]) rfl rfl rfl ?_
        refine pm_R_icmp pm_M269 (t := 31) (pc' := 29) rfl rfl rfl (fun c32 => ?_) (fun c32 => ?_)
        · skip
          refine pm_R_op pm_M269 (pc' := 32) (st' := [.int (-1)]) rfl rfl rfl ?_
          refine pm_R_lo pm_M269 (pc' := 34) (ls' := [.ref 41, .int a0, .int a1, .int a2, .int (-1), pm_no, pm_no, pm_no]) (st' := []) rfl rfl rfl ?_
          refine pm_R_op pm_M269 (pc' := 35) (st' := [.int (-1)]) rfl rfl rfl ?_
          refine pm_R_lo pm_M269 (pc' := 37) (ls' := [.ref 41, .int a0, .int a1, .int a2, .int (-1), .int (-1), pm_no, pm_no]) (st' := []) rfl rfl rfl ?_
          refine pm_R_op pm_M269 (pc' := 38) (st' := [.int 0]) rfl rfl rfl ?_
          refine pm_R_lo pm_M269 (pc' := 40) (ls' := [.ref 41, .int a0, .int a1, .int a2, .int (-1), .int (-1), .int 0, pm_no]) (st' := []) rfl rfl rfl ?_
          have L_296 : ∀ (N : Nat) (h_296 : pm_H) (m_296 : Nat → Int32) (w_296 : Int64) (x4_296 : Int32) (x5_296 : Int32) (x6_296 : Int32) (g7_296 : Value), rf_T m_296 w_296 h_296 → rf_F h h_296 → rf_W [] m11 m_296 → sf_B (-1) 2147483647 x4_296 → sf_B (-1) 2147483647 x5_296 → sf_B 0 6 x6_296 → g7_296.category = 1 → (6 - x6_296.toInt).toNat = N → pm_R (d + 3) 269 40 [.ref 41, .int a0, .int a1, .int a2, .int x4_296, .int x5_296, .int x6_296, g7_296] [] h_296 Q := by
            intro N
            induction N using Nat.strongRecOn with
            | ind N ih_296 =>
              intro h_296 m_296 w_296 x4_296 x5_296 x6_296 g7_296 T_296 F_296 W_296 Bx4_296 Bx5_296 Bx6_296 Cg7_296 hN_296
              have W298 : rf_W [0, 42, 43, 44] m m_296 := W18.trans W_296 (by decide)
              refine pm_R_lo pm_M269 (pc' := 42) rfl rfl rfl ?_
              refine pm_R_lo pm_M269 (pc' := 43) rfl rfl rfl ?_
              have B299 : sf_B 0 6 (m_296 42) := T_296.2.2.1 42
              refine rf_R_get pm_M269 T_296 (pc' := 46) (v := .int (m_296 42)) rfl rfl rfl rfl ?_
              refine pm_R_icmp pm_M269 (t := 105) (pc' := 49) rfl rfl rfl (fun c300 => ?_) (fun c300 => ?_)
              · skip
                refine pm_R_lo pm_M269 (pc' := 106) rfl rfl rfl ?_
                refine pm_R_ifc pm_M269 (t := 114) (pc' := 109) rfl rfl rfl (fun c301 => ?_) (fun c301 => ?_)
                · have B302 : sf_B 0 0 a2 := sf_eqL c301 sf_k0
                  refine pm_R_lo pm_M269 (pc' := 116) rfl rfl rfl ?_
                  exact pm_R_ret pm_M269 (r := some (.int x4_296)) rfl (pm_ret_i _) (K x4_296 m_296 w_296 h_296 T_296 F_296 W298 Bx4_296)
                · skip
                  refine pm_R_lo pm_M269 (pc' := 111) rfl rfl rfl ?_
                  refine pm_R_br pm_M269 (pc' := 116) rfl rfl ?_
                  exact pm_R_ret pm_M269 (r := some (.int x5_296)) rfl (pm_ret_i _) (K x5_296 m_296 w_296 h_296 T_296 F_296 W298 Bx5_296)
              · have B303 : sf_B 0 5 x6_296 := sf_ltL (Int32.not_le.mp c300) Bx6_296 B299
                have B304 : sf_B 1 6 (m_296 42) := sf_ltR (Int32.not_le.mp c300) Bx6_296 B299
                refine pm_R_lo pm_M269 (pc' := 51) rfl rfl rfl ?_
                refine pm_R_lo pm_M269 (pc' := 52) rfl rfl rfl ?_
                refine pm_R_icmp pm_M269 (t := 59) (pc' := 55) rfl rfl rfl (fun c305 => ?_) (fun c305 => ?_)
                · skip
                  refine pm_R_lo pm_M269 (pc' := 60) rfl rfl rfl ?_
                  refine pm_R_lo pm_M269 (pc' := 62) rfl rfl rfl ?_
                  refine pm_R_cv pm_M269 (pc' := 65) (a := 41) (ra := [.int x6_296]) (rest := []) (ls' := [.ref 41, .int x6_296, pm_no, pm_no]) rfl rfl (Or.inl rfl) pm_M270 T_296.2.1 rfl (by decide) (Nat.lt_of_lt_of_le (by decide) T_296.1) rfl rfl (Nat.le_of_ble_eq_true rfl) rfl rfl ?_
                  refine rf_c270 (d := d + 0) T_296  (fun r306 => ?_)
                  show pm_R _ 269 65 [.ref 41, .int a0, .int a1, .int a2, .int x4_296, .int x5_296, .int x6_296, g7_296] [.int r306] _ _
                  refine pm_R_lo pm_M269 (pc' := 67) (ls' := [.ref 41, .int a0, .int a1, .int a2, .int x4_296, .int x5_296, .int x6_296, .int r306]) (st' := []) rfl rfl rfl ?_
                  refine pm_R_lo pm_M269 (pc' := 69) rfl rfl rfl ?_
                  refine pm_R_lo pm_M269 (pc' := 71) rfl rfl rfl ?_
                  refine pm_R_icmp pm_M269 (t := 79) (pc' := 74) rfl rfl rfl (fun c314 => ?_) (fun c314 => ?_)
                  · skip
                    refine pm_R_lo pm_M269 (pc' := 81) rfl rfl rfl ?_
                    refine pm_R_lo pm_M269 (pc' := 83) (ls' := [.ref 41, .int a0, .int a1, .int a2, .int x4_296, .int x5_296, .int x6_296, .int r306]) (st' := []) rfl rfl rfl ?_
                    refine pm_R_lo pm_M269 (pc' := 85) rfl rfl rfl ?_
                    refine pm_R_lo pm_M269 (pc' := 87) rfl rfl rfl ?_
                    refine pm_R_icmp pm_M269 (t := 95) (pc' := 90) rfl rfl rfl (fun c315 => ?_) (fun c315 => ?_)
                    · skip
                      refine pm_R_lo pm_M269 (pc' := 97) rfl rfl rfl ?_
                      refine pm_R_lo pm_M269 (pc' := 99) (ls' := [.ref 41, .int a0, .int a1, .int a2, .int x4_296, .int x5_296, .int x6_296, .int r306]) (st' := []) rfl rfl rfl ?_
                      refine sf_R_iinc pm_M269 (pc' := 102) (ls' := fun z => [.ref 41, .int a0, .int a1, .int a2, .int x4_296, .int x5_296, .int z, .int r306]) rfl B303 rfl (by decide) (by decide) (by decide) (fun _ => rfl) rfl (fun z316 e317 B318 => ?_)
                      show pm_R _ 269 102 [.ref 41, .int a0, .int a1, .int a2, .int x4_296, .int x5_296, .int z316, .int r306] [] _ _
                      refine pm_R_br pm_M269 (pc' := 40) rfl rfl ?_
                      exact ih_296 _ (sf_up hN_296 e317 B303 (by decide) (by decide)) h_296 m_296 w_296 x4_296 x5_296 z316 (.int r306) T_296 F_296 W_296 Bx4_296 Bx5_296 (sf_weak B318 (by decide) (by decide)) rfl rfl
                    · have B319 : sf_B (-1) 2147483646 x5_296 := sf_ltL (Int32.not_le.mp c315) Bx5_296 (sf_any r306)
                      have B320 : sf_B 0 2147483647 r306 := sf_ltR (Int32.not_le.mp c315) Bx5_296 (sf_any r306)
                      refine pm_R_lo pm_M269 (pc' := 92) rfl rfl rfl ?_
                      refine pm_R_br pm_M269 (pc' := 97) rfl rfl ?_
                      refine pm_R_lo pm_M269 (pc' := 99) (ls' := [.ref 41, .int a0, .int a1, .int a2, .int x4_296, .int r306, .int x6_296, .int r306]) (st' := []) rfl rfl rfl ?_
                      refine sf_R_iinc pm_M269 (pc' := 102) (ls' := fun z => [.ref 41, .int a0, .int a1, .int a2, .int x4_296, .int r306, .int z, .int r306]) rfl B303 rfl (by decide) (by decide) (by decide) (fun _ => rfl) rfl (fun z321 e322 B323 => ?_)
                      show pm_R _ 269 102 [.ref 41, .int a0, .int a1, .int a2, .int x4_296, .int r306, .int z321, .int r306] [] _ _
                      refine pm_R_br pm_M269 (pc' := 40) rfl rfl ?_
                      exact ih_296 _ (sf_up hN_296 e322 B303 (by decide) (by decide)) h_296 m_296 w_296 x4_296 r306 z321 (.int r306) T_296 F_296 W_296 Bx4_296 (sf_weak B320 (by decide) (by decide)) (sf_weak B323 (by decide) (by decide)) rfl rfl
                  · have B324 : sf_B (-1) 2147483646 x5_296 := sf_ltL (Int32.not_le.mp c314) Bx5_296 (sf_any r306)
                    have B325 : sf_B 0 2147483647 r306 := sf_ltR (Int32.not_le.mp c314) Bx5_296 (sf_any r306)
                    refine pm_R_lo pm_M269 (pc' := 76) rfl rfl rfl ?_
                    refine pm_R_br pm_M269 (pc' := 81) rfl rfl ?_
                    refine pm_R_lo pm_M269 (pc' := 83) (ls' := [.ref 41, .int a0, .int a1, .int a2, .int x6_296, .int x5_296, .int x6_296, .int r306]) (st' := []) rfl rfl rfl ?_
                    refine pm_R_lo pm_M269 (pc' := 85) rfl rfl rfl ?_
                    refine pm_R_lo pm_M269 (pc' := 87) rfl rfl rfl ?_
                    refine pm_R_icmp pm_M269 (t := 95) (pc' := 90) rfl rfl rfl (fun c326 => ?_) (fun c326 => ?_)
                    · have B327 : sf_B 0 2147483646 r306 := sf_leL c326 B325 B324
                      have B328 : sf_B 0 2147483646 x5_296 := sf_leR c326 B325 B324
                      refine pm_R_lo pm_M269 (pc' := 97) rfl rfl rfl ?_
                      refine pm_R_lo pm_M269 (pc' := 99) (ls' := [.ref 41, .int a0, .int a1, .int a2, .int x6_296, .int x5_296, .int x6_296, .int r306]) (st' := []) rfl rfl rfl ?_
                      refine sf_R_iinc pm_M269 (pc' := 102) (ls' := fun z => [.ref 41, .int a0, .int a1, .int a2, .int x6_296, .int x5_296, .int z, .int r306]) rfl B303 rfl (by decide) (by decide) (by decide) (fun _ => rfl) rfl (fun z329 e330 B331 => ?_)
                      show pm_R _ 269 102 [.ref 41, .int a0, .int a1, .int a2, .int x6_296, .int x5_296, .int z329, .int r306] [] _ _
                      refine pm_R_br pm_M269 (pc' := 40) rfl rfl ?_
                      exact ih_296 _ (sf_up hN_296 e330 B303 (by decide) (by decide)) h_296 m_296 w_296 x6_296 x5_296 z329 (.int r306) T_296 F_296 W_296 (sf_weak B303 (by decide) (by decide)) (sf_weak B328 (by decide) (by decide)) (sf_weak B331 (by decide) (by decide)) rfl rfl
                    · skip
                      refine pm_R_lo pm_M269 (pc' := 92) rfl rfl rfl ?_
                      refine pm_R_br pm_M269 (pc' := 97) rfl rfl ?_
                      refine pm_R_lo pm_M269 (pc' := 99) (ls' := [.ref 41, .int a0, .int a1, .int a2, .int x6_296, .int r306, .int x6_296, .int r306]) (st' := []) rfl rfl rfl ?_
                      refine sf_R_iinc pm_M269 (pc' := 102) (ls' := fun z => [.ref 41, .int a0, .int a1, .int a2, .int x6_296, .int r306, .int z, .int r306]) rfl B303 rfl (by decide) (by decide) (by decide) (fun _ => rfl) rfl (fun z332 e333 B334 => ?_)
                      show pm_R _ 269 102 [.ref 41, .int a0, .int a1, .int a2, .int x6_296, .int r306, .int z332, .int r306] [] _ _
                      refine pm_R_br pm_M269 (pc' := 40) rfl rfl ?_
                      exact ih_296 _ (sf_up hN_296 e333 B303 (by decide) (by decide)) h_296 m_296 w_296 x6_296 r306 z332 (.int r306) T_296 F_296 W_296 (sf_weak B303 (by decide) (by decide)) (sf_weak B325 (by decide) (by decide)) (sf_weak B334 (by decide) (by decide)) rfl rfl
                · refine pm_R_op pm_M269 (pc' := 56) (st' := [.int (-1)]) rfl rfl rfl ?_
                  refine pm_R_br pm_M269 (pc' := 65) rfl rfl ?_
                  refine pm_R_lo pm_M269 (pc' := 67) (ls' := [.ref 41, .int a0, .int a1, .int a2, .int x4_296, .int x5_296, .int x6_296, .int (-1)]) (st' := []) rfl rfl rfl ?_
                  refine pm_R_lo pm_M269 (pc' := 69) rfl rfl rfl ?_
                  refine pm_R_lo pm_M269 (pc' := 71) rfl rfl rfl ?_
                  refine pm_R_icmp pm_M269 (t := 79) (pc' := 74) rfl rfl rfl (fun c335 => ?_) (fun c335 => absurd (Int32.not_le.mp c335) (sf_nlt Bx5_296 sf_kn1 (by decide)))
                  skip
                  refine pm_R_lo pm_M269 (pc' := 81) rfl rfl rfl ?_
                  refine pm_R_lo pm_M269 (pc' := 83) (ls' := [.ref 41, .int a0, .int a1, .int a2, .int x4_296, .int x5_296, .int x6_296, .int (-1)]) (st' := []) rfl rfl rfl ?_
                  refine pm_R_lo pm_M269 (pc' := 85) rfl rfl rfl ?_
                  refine pm_R_lo pm_M269 (pc' := 87) rfl rfl rfl ?_
                  refine pm_R_icmp pm_M269 (t := 95) (pc' := 90) rfl rfl rfl (fun c336 => ?_) (fun c336 => absurd (Int32.not_le.mp c336) (sf_nlt Bx5_296 sf_kn1 (by decide)))
                  skip
                  refine pm_R_lo pm_M269 (pc' := 97) rfl rfl rfl ?_
                  refine pm_R_lo pm_M269 (pc' := 99) (ls' := [.ref 41, .int a0, .int a1, .int a2, .int x4_296, .int x5_296, .int x6_296, .int (-1)]) (st' := []) rfl rfl rfl ?_
                  refine sf_R_iinc pm_M269 (pc' := 102) (ls' := fun z => [.ref 41, .int a0, .int a1, .int a2, .int x4_296, .int x5_296, .int z, .int (-1)]) rfl B303 rfl (by decide) (by decide) (by decide) (fun _ => rfl) rfl (fun z337 e338 B339 => ?_)
                  show pm_R _ 269 102 [.ref 41, .int a0, .int a1, .int a2, .int x4_296, .int x5_296, .int z337, .int (-1)] [] _ _
                  refine pm_R_br pm_M269 (pc' := 40) rfl rfl ?_
                  exact ih_296 _ (sf_up hN_296 e338 B303 (by decide) (by decide)) h_296 m_296 w_296 x4_296 x5_296 z337 (.int (-1)) T_296 F_296 W_296 Bx4_296 Bx5_296 (sf_weak B339 (by decide) (by decide)) rfl rfl
          exact L_296 _ h13 m11 w12 (-1) (-1) 0 (pm_no) T14 F17 (rf_W.refl _ _) (sf_weak sf_kn1 (by decide) (by decide)) (sf_weak sf_kn1 (by decide) (by decide)) (sf_weak sf_k0 (by decide) (by decide)) rfl rfl
        · have B340 : sf_B 1 1 (m11 42) := sf_eqL (Classical.not_not.mp c32) sf_k1
          refine pm_R_op pm_M269 (pc' := 30) (st' := [.int (-1)]) rfl rfl rfl ?_
          exact pm_R_ret pm_M269 (r := some (.int (-1))) rfl rfl (K (-1) m11 w12 h13 T14 F17 W18 (sf_weak sf_kn1 (by decide) (by decide)))

set_option maxRecDepth 100000 in
set_option maxHeartbeats 4000000 in
/-- SilentTableModel.law -/
theorem rf_c271 {d : Nat} {m : Nat → Int32} {w : Int64} {h : pm_H} {Q : Option Value → pm_H → Prop} {a0 : Int32} {a1 : Int32} {a2 : Int32} (T : rf_T m w h)  (K : ∀ (r : Int32) (m' : Nat → Int32) (w' : Int64) (h' : pm_H), rf_T m' w' h' → rf_F h h' → rf_W [0, 49] m m' → Q (some (.int r)) h') : pm_R (d + 2) 271 0 [.ref 41, .int a0, .int a1, .int a2] [] h Q := by
  refine pm_R_lo pm_M271 (pc' := 1) rfl rfl rfl ?_
  refine pm_R_op pm_M271 (pc' := 2) (st' := [.int 0, .ref 41]) rfl rfl rfl ?_
  refine rf_R_put pm_M271 T (pc' := 5) rfl rfl rfl (by decide) rfl rfl sf_k0 rfl rfl (fun h1 m4 em5 T2 F3 => ?_)
  have F6 := (rf_F.refl h).trans F3
  have B7 : sf_B 0 0 (m4 0) := by rw [em5]; exact sf_k0
  have W8 : rf_W [0, 49] m m4 := by rw [em5]; exact (rf_W.refl [0, 49] m).put (by decide)
  refine pm_R_lo pm_M271 (pc' := 6) rfl rfl rfl ?_
  refine pm_R_op pm_M271 (pc' := 7) (st' := [.int 3, .ref 41]) rfl rfl rfl ?_
  refine pm_R_lo pm_M271 (pc' := 8) rfl rfl rfl ?_
  refine pm_R_cv pm_M271 (pc' := 11) (a := 41) (ra := [.int a0, .int 3]) (rest := []) (ls' := [.ref 41, .int 3, .int a0]) rfl rfl (Or.inl rfl) pm_M177 T2.2.1 rfl (by decide) (Nat.lt_of_lt_of_le (by decide) T2.1) rfl rfl (Nat.le_of_ble_eq_true rfl) rfl rfl ?_
  refine pm_R_lo pm_M177 (pc' := 1) rfl rfl rfl ?_
  refine pm_R_op pm_M177 (pc' := 2) (st' := [.int 0, .int a0]) rfl rfl rfl ?_
  refine pm_R_lo pm_M177 (pc' := 3) rfl rfl rfl ?_
  refine rf_R_get pm_M177 T2 (pc' := 6) (v := .ref 46) rfl rfl rfl rfl ?_
  refine pm_R_lo pm_M177 (pc' := 7) rfl rfl rfl ?_
  obtain ⟨f9, e10, b11⟩ := T2.2.2.2.1 46 (by decide) (by decide)
  refine rf_R_ild pm_M177 T2 (pc' := 8) rfl e10 (by decide) rfl rfl (fun z12 ez13 => ?_)
  have B14 : sf_B 0 2 z12 := ez13 ▸ (b11 3)
  refine pm_R_op pm_M177 (pc' := 9) (st' := [.int 1, .int z12, .int 0, .int a0]) rfl rfl rfl ?_
  refine sf_R_isub pm_M177 (pc' := 10) rfl rfl B14 sf_k1 (by decide) (by decide) (fun z15 e16 B17 => ?_)
  refine pm_R_cs pm_M177 (pc' := 13) (ra := [.int z15, .int 0, .int a0]) (rest := []) (ls' := [.int a0, .int 0, .int z15]) rfl rfl (Or.inl rfl) pm_M174 rfl rfl (Nat.le_of_ble_eq_true rfl) rfl rfl ?_
  refine pm_R_lo pm_M174 (pc' := 1) rfl rfl rfl ?_
  refine pm_R_lo pm_M174 (pc' := 2) rfl rfl rfl ?_
  refine pm_R_icmp pm_M174 (t := 14) (pc' := 5) rfl rfl rfl (fun c18 => ?_) (fun c18 => ?_)
  · have B19 : sf_B (-2147483648) (-1) a0 := sf_ltL c18 (sf_any a0) sf_k0
    refine pm_R_op pm_M174 (pc' := 15) (st' := [.int 0]) rfl rfl rfl ?_
    refine pm_R_ret pm_M174 (r := some (.int 0)) rfl rfl ?_
    show pm_R _ 177 13 [.ref 41, .int 3, .int a0] [.int 0] _ _
    refine pm_R_ret pm_M177 (r := some (.int 0)) rfl rfl ?_
    show pm_R _ 271 11 [.ref 41, .int a0, .int a1, .int a2] [.int 0] _ _
    refine pm_R_br pm_M271 (pc' := 14) (st' := []) rfl rfl ?_
    refine pm_R_op pm_M271 (pc' := 16) (st' := [.int (-2)]) rfl rfl rfl ?_
    exact pm_R_ret pm_M271 (r := some (.int (-2))) rfl rfl (K (-2) m4 w h1 T2 F6 W8)
  · have B20 : sf_B 0 2147483647 a0 := sf_leR (Int32.not_lt.mp c18) sf_k0 (sf_any a0)
    refine pm_R_lo pm_M174 (pc' := 6) rfl rfl rfl ?_
    refine pm_R_lo pm_M174 (pc' := 7) rfl rfl rfl ?_
    refine pm_R_icmp pm_M174 (t := 14) (pc' := 10) rfl rfl rfl (fun c21 => ?_) (fun c21 => ?_)
    · skip
      refine pm_R_op pm_M174 (pc' := 15) (st' := [.int 0]) rfl rfl rfl ?_
      refine pm_R_ret pm_M174 (r := some (.int 0)) rfl rfl ?_
      show pm_R _ 177 13 [.ref 41, .int 3, .int a0] [.int 0] _ _
      refine pm_R_ret pm_M177 (r := some (.int 0)) rfl rfl ?_
      show pm_R _ 271 11 [.ref 41, .int a0, .int a1, .int a2] [.int 0] _ _
      refine pm_R_br pm_M271 (pc' := 14) (st' := []) rfl rfl ?_
      refine pm_R_op pm_M271 (pc' := 16) (st' := [.int (-2)]) rfl rfl rfl ?_
      exact pm_R_ret pm_M271 (r := some (.int (-2))) rfl rfl (K (-2) m4 w h1 T2 F6 W8)
    · have B22 : sf_B 0 1 a0 := sf_leL (Int32.not_lt.mp c21) B20 B17
      have B23 : sf_B 0 1 z15 := sf_leR (Int32.not_lt.mp c21) B20 B17
      refine pm_R_op pm_M174 (pc' := 11) (st' := [.int 1]) rfl rfl rfl ?_
      refine pm_R_br pm_M174 (pc' := 15) rfl rfl ?_
      refine pm_R_ret pm_M174 (r := some (.int 1)) rfl rfl ?_
      show pm_R _ 177 13 [.ref 41, .int 3, .int a0] [.int 1] _ _
      refine pm_R_ret pm_M177 (r := some (.int 1)) rfl rfl ?_
      show pm_R _ 271 11 [.ref 41, .int a0, .int a1, .int a2] [.int 1] _ _
      refine pm_R_br pm_M271 (pc' := 17) (st' := []) rfl rfl ?_
      refine pm_R_lo pm_M271 (pc' := 18) rfl rfl rfl ?_
      refine pm_R_lo pm_M271 (pc' := 19) rfl rfl rfl ?_
      refine rf_R_put pm_M271 T2 (pc' := 22) rfl rfl rfl (by decide) rfl rfl B22 rfl rfl (fun h24 m27 em28 T25 F26 => ?_)
      have F29 := F6.trans F26
      have B30 : sf_B 0 1 (m27 49) := by rw [em28]; exact B22
      have W31 : rf_W [0, 49] m m27 := by rw [em28]; exact W8.put (by decide)
      refine pm_R_lo pm_M271 (pc' := 23) rfl rfl rfl ?_
      refine pm_R_op pm_M271 (pc' := 24) (st' := [.int (-1), .int a1]) rfl rfl rfl ?_
      refine pm_R_icmp pm_M271 (t := 41) (pc' := 27) rfl rfl rfl (fun c32 => ?_) (fun c32 => ?_)
      · skip
        refine pm_R_lo pm_M271 (pc' := 42) rfl rfl rfl ?_
        refine pm_R_op pm_M271 (pc' := 43) (st' := [.int 0, .int a1]) rfl rfl rfl ?_
        refine pm_R_lo pm_M271 (pc' := 44) rfl rfl rfl ?_
        refine pm_R_cv pm_M271 (pc' := 47) (a := 41) (ra := []) (rest := [.int 0, .int a1]) (ls' := [.ref 41]) rfl rfl (Or.inl rfl) pm_M272 T25.2.1 rfl (by decide) (Nat.lt_of_lt_of_le (by decide) T25.1) rfl rfl (Nat.le_of_ble_eq_true rfl) rfl rfl ?_
        refine pm_R_lo pm_M272 (pc' := 1) rfl rfl rfl ?_
        refine rf_R_get pm_M272 T25 (pc' := 4) (v := .ref 50) rfl rfl rfl rfl ?_
        refine pm_R_op pm_M272 (pc' := 6) (st' := [.int 25, .ref 50]) rfl rfl rfl ?_
        refine pm_R_lo pm_M272 (pc' := 7) rfl rfl rfl ?_
        refine rf_R_get pm_M272 T25 (pc' := 10) (v := .int (m27 49)) rfl rfl rfl rfl ?_
        refine sf_R_imul pm_M272 (pc' := 11) rfl rfl sf_k25 B30 (by decide) (by decide) (by decide) (fun z33 e34 B35 => ?_)
        obtain ⟨f36, e37, b38⟩ := T25.2.2.2.1 50 (by decide) (by decide)
        refine rf_R_ild pm_M272 T25 (pc' := 12) rfl e37 (by decide) (sf_in B35 (by decide) (by decide)) rfl (fun z39 ez40 => ?_)
        have e41 : (z33).toInt = 25 * ((m27 49)).toInt + 0 := by
          have q0 := e34
          simp only [(show (25 : Int32).toInt = 25 from rfl)] at q0
          omega
        have B42 : sf_B 0 8 z39 := ez40 ▸ rf_p50a b38 e41 B30 (by decide)
        refine pm_R_ret pm_M272 (r := some (.int z39)) rfl (pm_ret_i _) ?_
        show pm_R _ 271 47 [.ref 41, .int a0, .int a1, .int a2] [.int z39, .int 0, .int a1] _ _
        refine pm_R_op pm_M271 (pc' := 48) (st' := [.int 1, .int z39, .int 0, .int a1]) rfl rfl rfl ?_
        refine sf_R_isub pm_M271 (pc' := 49) rfl rfl B42 sf_k1 (by decide) (by decide) (fun z43 e44 B45 => ?_)
        refine pm_R_cs pm_M271 (pc' := 52) (ra := [.int z43, .int 0, .int a1]) (rest := []) (ls' := [.int a1, .int 0, .int z43]) rfl rfl (Or.inl rfl) pm_M174 rfl rfl (Nat.le_of_ble_eq_true rfl) rfl rfl ?_
        refine pm_R_lo pm_M174 (pc' := 1) rfl rfl rfl ?_
        refine pm_R_lo pm_M174 (pc' := 2) rfl rfl rfl ?_
        refine pm_R_icmp pm_M174 (t := 14) (pc' := 5) rfl rfl rfl (fun c46 => ?_) (fun c46 => ?_)
        · have B47 : sf_B (-2147483648) (-1) a1 := sf_ltL c46 (sf_any a1) sf_k0
          refine pm_R_op pm_M174 (pc' := 15) (st' := [.int 0]) rfl rfl rfl ?_
          refine pm_R_ret pm_M174 (r := some (.int 0)) rfl rfl ?_
          show pm_R _ 271 52 [.ref 41, .int a0, .int a1, .int a2] [.int 0] _ _
          refine pm_R_br pm_M271 (pc' := 73) (st' := []) rfl rfl ?_
          refine pm_R_op pm_M271 (pc' := 75) (st' := [.int (-2)]) rfl rfl rfl ?_
          exact pm_R_ret pm_M271 (r := some (.int (-2))) rfl rfl (K (-2) m27 w h24 T25 F29 W31)
        · have B48 : sf_B 0 2147483647 a1 := sf_leR (Int32.not_lt.mp c46) sf_k0 (sf_any a1)
          refine pm_R_lo pm_M174 (pc' := 6) rfl rfl rfl ?_
          refine pm_R_lo pm_M174 (pc' := 7) rfl rfl rfl ?_
          refine pm_R_icmp pm_M174 (t := 14) (pc' := 10) rfl rfl rfl (fun c49 => ?_) (fun c49 => ?_)
          · skip
            refine pm_R_op pm_M174 (pc' := 15) (st' := [.int 0]) rfl rfl rfl ?_
            refine pm_R_ret pm_M174 (r := some (.int 0)) rfl rfl ?_
            show pm_R _ 271 52 [.ref 41, .int a0, .int a1, .int a2] [.int 0] _ _
            refine pm_R_br pm_M271 (pc' := 73) (st' := []) rfl rfl ?_
            refine pm_R_op pm_M271 (pc' := 75) (st' := [.int (-2)]) rfl rfl rfl ?_
            exact pm_R_ret pm_M271 (r := some (.int (-2))) rfl rfl (K (-2) m27 w h24 T25 F29 W31)
          · have B50 : sf_B 0 7 a1 := sf_leL (Int32.not_lt.mp c49) B48 B45
            have B51 : sf_B 0 7 z43 := sf_leR (Int32.not_lt.mp c49) B48 B45
            refine pm_R_op pm_M174 (pc' := 11) (st' := [.int 1]) rfl rfl rfl ?_
            refine pm_R_br pm_M174 (pc' := 15) rfl rfl ?_
            refine pm_R_ret pm_M174 (r := some (.int 1)) rfl rfl ?_
            show pm_R _ 271 52 [.ref 41, .int a0, .int a1, .int a2] [.int 1] _ _
            refine pm_R_br pm_M271 (pc' := 55) (st' := []) rfl rfl ?_
            refine pm_R_lo pm_M271 (pc' := 56) rfl rfl rfl ?_
            refine pm_R_op pm_M271 (pc' := 57) (st' := [.int 0, .int a2]) rfl rfl rfl ?_
            refine pm_R_op pm_M271 (pc' := 58) (st' := [.int 2, .int 0, .int a2]) rfl rfl rfl ?_
            refine pm_R_cs pm_M271 (pc' := 61) (ra := [.int 2, .int 0, .int a2]) (rest := []) (ls' := [.int a2, .int 0, .int 2]) rfl rfl (Or.inl rfl) pm_M174 rfl rfl (Nat.le_of_ble_eq_true rfl) rfl rfl ?_
            refine pm_R_lo pm_M174 (pc' := 1) rfl rfl rfl ?_
            refine pm_R_lo pm_M174 (pc' := 2) rfl rfl rfl ?_
            refine pm_R_icmp pm_M174 (t := 14) (pc' := 5) rfl rfl rfl (fun c52 => ?_) (fun c52 => ?_)
            · have B53 : sf_B (-2147483648) (-1) a2 := sf_ltL c52 (sf_any a2) sf_k0
              refine pm_R_op pm_M174 (pc' := 15) (st' := [.int 0]) rfl rfl rfl ?_
              refine pm_R_ret pm_M174 (r := some (.int 0)) rfl rfl ?_
              show pm_R _ 271 61 [.ref 41, .int a0, .int a1, .int a2] [.int 0] _ _
              refine pm_R_br pm_M271 (pc' := 73) (st' := []) rfl rfl ?_
              refine pm_R_op pm_M271 (pc' := 75) (st' := [.int (-2)]) rfl rfl rfl ?_
              exact pm_R_ret pm_M271 (r := some (.int (-2))) rfl rfl (K (-2) m27 w h24 T25 F29 W31)
            · have B54 : sf_B 0 2147483647 a2 := sf_leR (Int32.not_lt.mp c52) sf_k0 (sf_any a2)
              refine pm_R_lo pm_M174 (pc' := 6) rfl rfl rfl ?_
              refine pm_R_lo pm_M174 (pc' := 7) rfl rfl rfl ?_
              refine pm_R_icmp pm_M174 (t := 14) (pc' := 10) rfl rfl rfl (fun c55 => ?_) (fun c55 => ?_)
              · have B56 : sf_B 3 2147483647 a2 := sf_ltR c55 sf_k2 B54
                refine pm_R_op pm_M174 (pc' := 15) (st' := [.int 0]) rfl rfl rfl ?_
                refine pm_R_ret pm_M174 (r := some (.int 0)) rfl rfl ?_
                show pm_R _ 271 61 [.ref 41, .int a0, .int a1, .int a2] [.int 0] _ _
                refine pm_R_br pm_M271 (pc' := 73) (st' := []) rfl rfl ?_
                refine pm_R_op pm_M271 (pc' := 75) (st' := [.int (-2)]) rfl rfl rfl ?_
                exact pm_R_ret pm_M271 (r := some (.int (-2))) rfl rfl (K (-2) m27 w h24 T25 F29 W31)
              · have B57 : sf_B 0 2 a2 := sf_leL (Int32.not_lt.mp c55) B54 sf_k2
                refine pm_R_op pm_M174 (pc' := 11) (st' := [.int 1]) rfl rfl rfl ?_
                refine pm_R_br pm_M174 (pc' := 15) rfl rfl ?_
                refine pm_R_ret pm_M174 (r := some (.int 1)) rfl rfl ?_
                show pm_R _ 271 61 [.ref 41, .int a0, .int a1, .int a2] [.int 1] _ _
                refine pm_R_br pm_M271 (pc' := 64) (st' := []) rfl rfl ?_
                refine pm_R_lo pm_M271 (pc' := 65) rfl rfl rfl ?_
                refine pm_R_lo pm_M271 (pc' := 66) rfl rfl rfl ?_
                refine pm_R_lo pm_M271 (pc' := 67) rfl rfl rfl ?_
                refine pm_R_cv pm_M271 (pc' := 70) (a := 41) (ra := [.int a2, .int a1]) (rest := []) (ls' := [.ref 41, .int a1, .int a2]) rfl rfl (Or.inl rfl) pm_M273 T25.2.1 rfl (by decide) (Nat.lt_of_lt_of_le (by decide) T25.1) rfl rfl (Nat.le_of_ble_eq_true rfl) rfl rfl ?_
                refine pm_R_lo pm_M273 (pc' := 1) rfl rfl rfl ?_
                refine rf_R_get pm_M273 T25 (pc' := 4) (v := .ref 50) rfl rfl rfl rfl ?_
                refine pm_R_op pm_M273 (pc' := 6) (st' := [.int 25, .ref 50]) rfl rfl rfl ?_
                refine pm_R_lo pm_M273 (pc' := 7) rfl rfl rfl ?_
                refine rf_R_get pm_M273 T25 (pc' := 10) (v := .int (m27 49)) rfl rfl rfl rfl ?_
                refine sf_R_imul pm_M273 (pc' := 11) rfl rfl sf_k25 B30 (by decide) (by decide) (by decide) (fun z58 e59 B60 => ?_)
                refine pm_R_op pm_M273 (pc' := 12) (st' := [.int 1, .int z58, .ref 50]) rfl rfl rfl ?_
                refine sf_R_iadd pm_M273 (pc' := 13) rfl rfl B60 sf_k1 (by decide) (by decide) (fun z61 e62 B63 => ?_)
                refine pm_R_op pm_M273 (pc' := 14) (st' := [.int 3, .int z61, .ref 50]) rfl rfl rfl ?_
                refine pm_R_lo pm_M273 (pc' := 15) rfl rfl rfl ?_
                refine sf_R_imul pm_M273 (pc' := 16) rfl rfl sf_k3 B50 (by decide) (by decide) (by decide) (fun z64 e65 B66 => ?_)
                refine sf_R_iadd pm_M273 (pc' := 17) rfl rfl B63 B66 (by decide) (by decide) (fun z67 e68 B69 => ?_)
                refine pm_R_lo pm_M273 (pc' := 18) rfl rfl rfl ?_
                refine sf_R_iadd pm_M273 (pc' := 19) rfl rfl B69 B57 (by decide) (by decide) (fun z70 e71 B72 => ?_)
                refine rf_R_ild pm_M273 T25 (pc' := 20) rfl e37 (by decide) (sf_in B72 (by decide) (by decide)) rfl (fun z73 ez74 => ?_)
                refine pm_R_ret pm_M273 (r := some (.int z73)) rfl (pm_ret_i _) ?_
                show pm_R _ 271 70 [.ref 41, .int a0, .int a1, .int a2] [.int z73] _ _
                refine pm_R_br pm_M271 (pc' := 75) rfl rfl ?_
                exact pm_R_ret pm_M271 (r := some (.int z73)) rfl (pm_ret_i _) (K z73 m27 w h24 T25 F29 W31)
      · have B75 : sf_B (-1) (-1) a1 := sf_eqL (Classical.not_not.mp c32) sf_kn1
        refine pm_R_lo pm_M271 (pc' := 28) rfl rfl rfl ?_
        refine pm_R_ifc pm_M271 (t := 38) (pc' := 31) rfl rfl rfl (fun c76 => ?_) (fun c76 => ?_)
        · skip
          refine pm_R_op pm_M271 (pc' := 40) (st' := [.int (-2)]) rfl rfl rfl ?_
          exact pm_R_ret pm_M271 (r := some (.int (-2))) rfl rfl (K (-2) m27 w h24 T25 F29 W31)
        · have B77 : sf_B 0 0 a2 := sf_eqL (Classical.not_not.mp c76) sf_k0
          refine pm_R_lo pm_M271 (pc' := 32) rfl rfl rfl ?_
          refine pm_R_cv pm_M271 (pc' := 35) (a := 41) (ra := []) (rest := []) (ls' := [.ref 41]) rfl rfl (Or.inl rfl) pm_M272 T25.2.1 rfl (by decide) (Nat.lt_of_lt_of_le (by decide) T25.1) rfl rfl (Nat.le_of_ble_eq_true rfl) rfl rfl ?_
          refine pm_R_lo pm_M272 (pc' := 1) rfl rfl rfl ?_
          refine rf_R_get pm_M272 T25 (pc' := 4) (v := .ref 50) rfl rfl rfl rfl ?_
          refine pm_R_op pm_M272 (pc' := 6) (st' := [.int 25, .ref 50]) rfl rfl rfl ?_
          refine pm_R_lo pm_M272 (pc' := 7) rfl rfl rfl ?_
          refine rf_R_get pm_M272 T25 (pc' := 10) (v := .int (m27 49)) rfl rfl rfl rfl ?_
          refine sf_R_imul pm_M272 (pc' := 11) rfl rfl sf_k25 B30 (by decide) (by decide) (by decide) (fun z78 e79 B80 => ?_)
          obtain ⟨f81, e82, b83⟩ := T25.2.2.2.1 50 (by decide) (by decide)
          refine rf_R_ild pm_M272 T25 (pc' := 12) rfl e82 (by decide) (sf_in B80 (by decide) (by decide)) rfl (fun z84 ez85 => ?_)
          have e86 : (z78).toInt = 25 * ((m27 49)).toInt + 0 := by
            have q0 := e79
            simp only [(show (25 : Int32).toInt = 25 from rfl)] at q0
            omega
          have B87 : sf_B 0 8 z84 := ez85 ▸ rf_p50a b83 e86 B30 (by decide)
          refine pm_R_ret pm_M272 (r := some (.int z84)) rfl (pm_ret_i _) ?_
          show pm_R _ 271 35 [.ref 41, .int a0, .int a1, .int a2] [.int z84] _ _
          refine pm_R_br pm_M271 (pc' := 40) rfl rfl ?_
          exact pm_R_ret pm_M271 (r := some (.int z84)) rfl (pm_ret_i _) (K z84 m27 w h24 T25 F29 W31)
