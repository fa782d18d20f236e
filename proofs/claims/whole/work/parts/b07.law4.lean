set_option maxHeartbeats 4000000 in
set_option maxRecDepth 100000 in
theorem lc_game {G : GE} {nm : String} {L : Nat} {xs : Nat → Int32} {h : AH} {n m nx : Nat} {W : TD} {S : MS} {f : Nat → Option Nat} {IE : Nat → TD} {u q j : Nat} (hL : L ≤ 3584) (hj : 7 * j + 7 ≤ L) (A : LIv L xs h n m nx W S f IE) (hu : u ≤ 105 + 46 * j) (hq : q ≤ 147210 + 1835 * j) (kk : ∀ (h : AH) (nx : Nat) (W : TD) (S : MS) (f : Nat → Option Nat) (IE : Nat → TD) (u q : Nat), LIv L xs h n m nx W S f IE → u ≤ 105 + 46 * (j + 1) → q ≤ 147210 + 1835 * (j + 1) → WA G (yL nm) code 4 ret room_1 600000 7302250 KL u q 1406 [some (.ref 5), some (.ref n), some (.ref m), some (.int (nI (7 * j)))] [] h) : WA G (yL nm) code 4 ret room_1 600000 7302250 KL u q 1077 [some (.ref 5), some (.ref n), some (.ref m), some (.int (nI (7 * j)))] [] h := by
  obtain ⟨C0, hMA, hR⟩ := A
  obtain ⟨⟨hO, hn, hm⟩, hT, hI, ⟨Zr, hRd, z14, h14⟩, ⟨px, py, Zp, hPl⟩, hS, hOl, h5⟩ := id C0
  obtain ⟨c, VL, WT, BK, SG, GM, len, hq0⟩ := hR.1
  have hN : NT h n W c VL WT BK SG GM := ⟨hO, hT, hq0.1⟩
  have hp : MP S c VL WT BK SG GM := hq0.2.1
  have hM : MW h h m S := ⟨hMA, fun _ _ => rfl⟩
  refine A_aload_n1 d_L_law_1077 ?_
  refine A_aload_n0 d_L_law_1078 ?_
  refine A_iload_n3 d_L_law_1079 ?_
  refine A_iconst (v := nI 1) d_L_law_1080 (by decide) ?_
  first | refine A_iaddN d_L_law_1081 (by with_reducible rfl) (by with_reducible rfl) ?_ | refine A_iadd d_L_law_1081 ?_
  refine A_ialdN d_L_law_1082 h5 ⟨by omega, by omega⟩ ?_
  refine A_aload_n0 d_L_law_1083 ?_
  refine A_iload_n3 d_L_law_1084 ?_
  refine A_iconst (v := nI 2) d_L_law_1085 (by decide) ?_
  first | refine A_iaddN d_L_law_1086 (by with_reducible rfl) (by with_reducible rfl) ?_ | refine A_iadd d_L_law_1086 ?_
  refine A_ialdN d_L_law_1087 h5 ⟨by omega, by omega⟩ ?_
  refine A_aload_n0 d_L_law_1088 ?_
  refine A_iload_n3 d_L_law_1089 ?_
  refine A_iconst (v := nI 3) d_L_law_1090 (by decide) ?_
  first | refine A_iaddN d_L_law_1091 (by with_reducible rfl) (by with_reducible rfl) ?_ | refine A_iadd d_L_law_1091 ?_
  refine A_ialdN d_L_law_1092 h5 ⟨by omega, by omega⟩ ?_
  refine A_callVP d_L_law_1093 (c_N_game hN _ _ _) hO rfl q_1000 q_1001 q_1002 mk_N_game rfl (by decide) rfl (Nat.le_of_ble_eq_true rfl) ⟨show u + 0 ≤ 600000 by omega, show q + 0 ≤ 7302250 by omega⟩ ⟨rfl, rfl⟩ ?_
  refine A_aload_n2 d_L_law_1096 ?_
  refine A_aload_n0 d_L_law_1097 ?_
  refine A_iload_n3 d_L_law_1098 ?_
  refine A_iconst (v := nI 1) d_L_law_1099 (by decide) ?_
  first | refine A_iaddN d_L_law_1100 (by with_reducible rfl) (by with_reducible rfl) ?_ | refine A_iadd d_L_law_1100 ?_
  refine A_ialdN d_L_law_1101 h5 ⟨by omega, by omega⟩ ?_
  refine A_aload_n0 d_L_law_1102 ?_
  refine A_iload_n3 d_L_law_1103 ?_
  refine A_iconst (v := nI 2) d_L_law_1104 (by decide) ?_
  first | refine A_iaddN d_L_law_1105 (by with_reducible rfl) (by with_reducible rfl) ?_ | refine A_iadd d_L_law_1105 ?_
  refine A_ialdN d_L_law_1106 h5 ⟨by omega, by omega⟩ ?_
  refine A_aload_n0 d_L_law_1107 ?_
  refine A_iload_n3 d_L_law_1108 ?_
  refine A_iconst (v := nI 3) d_L_law_1109 (by decide) ?_
  first | refine A_iaddN d_L_law_1110 (by with_reducible rfl) (by with_reducible rfl) ?_ | refine A_iadd d_L_law_1110 ?_
  refine A_ialdN d_L_law_1111 h5 ⟨by omega, by omega⟩ ?_
  refine A_callV0 d_L_law_1112 (c_M_game hM hp _ _ _) hM.o rfl q_1673 q_1674 q_1675 mk_M_game rfl (by decide) rfl (Nat.le_of_ble_eq_true rfl) ⟨show u + 0 ≤ 600000 by omega, show q + 0 ≤ 7302250 by omega⟩ ⟨rfl, rfl⟩ (fun v h1 hv => ?_)
  obtain ⟨rfl, S1, hM1, hk⟩ := hv
  refine A_icmp_eq (tgt := 1406) d_L_law_1115 (by decide) (fun c_1115 => ?_) (fun c => absurd rfl c)
  exact kk _ _ _ _ _ _ _ _ (LIv.tk C0 hR hM1 hk) (by omega) (by omega)
set_option maxHeartbeats 4000000 in
set_option maxRecDepth 100000 in
theorem lc_errand {G : GE} {nm : String} {L : Nat} {xs : Nat → Int32} {h : AH} {n m nx : Nat} {W : TD} {S : MS} {f : Nat → Option Nat} {IE : Nat → TD} {u q j : Nat} (hL : L ≤ 3584) (hj : 7 * j + 7 ≤ L) (A : LIv L xs h n m nx W S f IE) (hu : u ≤ 105 + 46 * j) (hq : q ≤ 147210 + 1835 * j) (kk : ∀ (h : AH) (nx : Nat) (W : TD) (S : MS) (f : Nat → Option Nat) (IE : Nat → TD) (u q : Nat), LIv L xs h n m nx W S f IE → u ≤ 105 + 46 * (j + 1) → q ≤ 147210 + 1835 * (j + 1) → WA G (yL nm) code 4 ret room_1 600000 7302250 KL u q 1406 [some (.ref 5), some (.ref n), some (.ref m), some (.int (nI (7 * j)))] [] h) : WA G (yL nm) code 4 ret room_1 600000 7302250 KL u q 1120 [some (.ref 5), some (.ref n), some (.ref m), some (.int (nI (7 * j)))] [] h := by
  obtain ⟨C0, hMA, hR⟩ := A
  obtain ⟨⟨hO, hn, hm⟩, hT, hI, ⟨Zr, hRd, z14, h14⟩, ⟨px, py, Zp, hPl⟩, hS, hOl, h5⟩ := id C0
  obtain ⟨c, VL, WT, BK, SG, GM, len, hq0⟩ := hR.1
  have hN : NT h n W c VL WT BK SG GM := ⟨hO, hT, hq0.1⟩
  have hp : MP S c VL WT BK SG GM := hq0.2.1
  have hM : MW h h m S := ⟨hMA, fun _ _ => rfl⟩
  by_cases hb : xs (7 * j + 6) = 0
  · refine A_aload_n1 d_L_law_1120 ?_
    refine A_aload_n0 d_L_law_1121 ?_
    refine A_iload_n3 d_L_law_1122 ?_
    refine A_iconst (v := nI 1) d_L_law_1123 (by decide) ?_
    first | refine A_iaddN d_L_law_1124 (by with_reducible rfl) (by with_reducible rfl) ?_ | refine A_iadd d_L_law_1124 ?_
    refine A_ialdN d_L_law_1125 h5 ⟨by omega, by omega⟩ ?_
    refine A_aload_n0 d_L_law_1126 ?_
    refine A_iload_n3 d_L_law_1127 ?_
    refine A_iconst (v := nI 2) d_L_law_1128 (by decide) ?_
    first | refine A_iaddN d_L_law_1129 (by with_reducible rfl) (by with_reducible rfl) ?_ | refine A_iadd d_L_law_1129 ?_
    refine A_ialdN d_L_law_1130 h5 ⟨by omega, by omega⟩ ?_
    refine A_aload_n0 d_L_law_1131 ?_
    refine A_iload_n3 d_L_law_1132 ?_
    refine A_iconst (v := nI 3) d_L_law_1133 (by decide) ?_
    first | refine A_iaddN d_L_law_1134 (by with_reducible rfl) (by with_reducible rfl) ?_ | refine A_iadd d_L_law_1134 ?_
    refine A_ialdN d_L_law_1135 h5 ⟨by omega, by omega⟩ ?_
    refine A_aload_n0 d_L_law_1136 ?_
    refine A_iload_n3 d_L_law_1137 ?_
    refine A_iconst (v := nI 4) d_L_law_1138 (by decide) ?_
    first | refine A_iaddN d_L_law_1139 (by with_reducible rfl) (by with_reducible rfl) ?_ | refine A_iadd d_L_law_1139 ?_
    refine A_ialdN d_L_law_1140 h5 ⟨by omega, by omega⟩ ?_
    refine A_aload_n0 d_L_law_1141 ?_
    refine A_iload_n3 d_L_law_1142 ?_
    refine A_iconst (v := nI 5) d_L_law_1143 (by decide) ?_
    first | refine A_iaddN d_L_law_1144 (by with_reducible rfl) (by with_reducible rfl) ?_ | refine A_iadd d_L_law_1144 ?_
    refine A_ialdN d_L_law_1145 h5 ⟨by omega, by omega⟩ ?_
    refine A_aload_n0 d_L_law_1146 ?_
    refine A_iload_n3 d_L_law_1147 ?_
    refine A_bipush (v := nI 6) d_L_law_1148 (by decide) ?_
    first | refine A_iaddN d_L_law_1150 (by with_reducible rfl) (by with_reducible rfl) ?_ | refine A_iadd d_L_law_1150 ?_
    refine A_ialdN d_L_law_1151 h5 ⟨by omega, by omega⟩ ?_
    refine A_if_eq (tgt := 1159) d_L_law_1152 (by decide) (fun c_1152 => ?_) (fun c => absurd hb c)
    refine A_iconst (v := nI 0) d_L_law_1159 (by decide) ?_
    refine A_callVP d_L_law_1160 (c_N_errand hN _ _ _ _ _ _) hO rfl q_1013 q_1014 q_1015 mk_N_errand rfl (by decide) rfl (Nat.le_of_ble_eq_true rfl) ⟨show u + 0 ≤ 600000 by omega, show q + 0 ≤ 7302250 by omega⟩ ⟨rfl, rfl⟩ ?_
    refine A_aload_n2 d_L_law_1163 ?_
    refine A_aload_n0 d_L_law_1164 ?_
    refine A_iload_n3 d_L_law_1165 ?_
    refine A_iconst (v := nI 1) d_L_law_1166 (by decide) ?_
    first | refine A_iaddN d_L_law_1167 (by with_reducible rfl) (by with_reducible rfl) ?_ | refine A_iadd d_L_law_1167 ?_
    refine A_ialdN d_L_law_1168 h5 ⟨by omega, by omega⟩ ?_
    refine A_aload_n0 d_L_law_1169 ?_
    refine A_iload_n3 d_L_law_1170 ?_
    refine A_iconst (v := nI 2) d_L_law_1171 (by decide) ?_
    first | refine A_iaddN d_L_law_1172 (by with_reducible rfl) (by with_reducible rfl) ?_ | refine A_iadd d_L_law_1172 ?_
    refine A_ialdN d_L_law_1173 h5 ⟨by omega, by omega⟩ ?_
    refine A_aload_n0 d_L_law_1174 ?_
    refine A_iload_n3 d_L_law_1175 ?_
    refine A_iconst (v := nI 3) d_L_law_1176 (by decide) ?_
    first | refine A_iaddN d_L_law_1177 (by with_reducible rfl) (by with_reducible rfl) ?_ | refine A_iadd d_L_law_1177 ?_
    refine A_ialdN d_L_law_1178 h5 ⟨by omega, by omega⟩ ?_
    refine A_aload_n0 d_L_law_1179 ?_
    refine A_iload_n3 d_L_law_1180 ?_
    refine A_iconst (v := nI 4) d_L_law_1181 (by decide) ?_
    first | refine A_iaddN d_L_law_1182 (by with_reducible rfl) (by with_reducible rfl) ?_ | refine A_iadd d_L_law_1182 ?_
    refine A_ialdN d_L_law_1183 h5 ⟨by omega, by omega⟩ ?_
    refine A_aload_n0 d_L_law_1184 ?_
    refine A_iload_n3 d_L_law_1185 ?_
    refine A_iconst (v := nI 5) d_L_law_1186 (by decide) ?_
    first | refine A_iaddN d_L_law_1187 (by with_reducible rfl) (by with_reducible rfl) ?_ | refine A_iadd d_L_law_1187 ?_
    refine A_ialdN d_L_law_1188 h5 ⟨by omega, by omega⟩ ?_
    refine A_aload_n0 d_L_law_1189 ?_
    refine A_iload_n3 d_L_law_1190 ?_
    refine A_bipush (v := nI 6) d_L_law_1191 (by decide) ?_
    first | refine A_iaddN d_L_law_1193 (by with_reducible rfl) (by with_reducible rfl) ?_ | refine A_iadd d_L_law_1193 ?_
    refine A_ialdN d_L_law_1194 h5 ⟨by omega, by omega⟩ ?_
    refine A_if_eq (tgt := 1202) d_L_law_1195 (by decide) (fun c_1195 => ?_) (fun c => absurd hb c)
    refine A_iconst (v := nI 0) d_L_law_1202 (by decide) ?_
    refine A_callV0 d_L_law_1203 (c_M_errand hM hp _ _ _ _ _ _) hM.o rfl q_1689 q_1690 q_1691 mk_M_errand rfl (by decide) rfl (Nat.le_of_ble_eq_true rfl) ⟨show u + 0 ≤ 600000 by omega, show q + 0 ≤ 7302250 by omega⟩ ⟨rfl, rfl⟩ (fun v h1 hv => ?_)
    obtain ⟨rfl, S1, hM1, hk⟩ := hv
    refine A_icmp_eq (tgt := 1406) d_L_law_1206 (by decide) (fun c_1206 => ?_) (fun c => absurd rfl c)
    exact kk _ _ _ _ _ _ _ _ (LIv.tk C0 hR hM1 hk) (by omega) (by omega)
  · refine A_aload_n1 d_L_law_1120 ?_
    refine A_aload_n0 d_L_law_1121 ?_
    refine A_iload_n3 d_L_law_1122 ?_
    refine A_iconst (v := nI 1) d_L_law_1123 (by decide) ?_
    first | refine A_iaddN d_L_law_1124 (by with_reducible rfl) (by with_reducible rfl) ?_ | refine A_iadd d_L_law_1124 ?_
    refine A_ialdN d_L_law_1125 h5 ⟨by omega, by omega⟩ ?_
    refine A_aload_n0 d_L_law_1126 ?_
    refine A_iload_n3 d_L_law_1127 ?_
    refine A_iconst (v := nI 2) d_L_law_1128 (by decide) ?_
    first | refine A_iaddN d_L_law_1129 (by with_reducible rfl) (by with_reducible rfl) ?_ | refine A_iadd d_L_law_1129 ?_
    refine A_ialdN d_L_law_1130 h5 ⟨by omega, by omega⟩ ?_
    refine A_aload_n0 d_L_law_1131 ?_
    refine A_iload_n3 d_L_law_1132 ?_
    refine A_iconst (v := nI 3) d_L_law_1133 (by decide) ?_
    first | refine A_iaddN d_L_law_1134 (by with_reducible rfl) (by with_reducible rfl) ?_ | refine A_iadd d_L_law_1134 ?_
    refine A_ialdN d_L_law_1135 h5 ⟨by omega, by omega⟩ ?_
    refine A_aload_n0 d_L_law_1136 ?_
    refine A_iload_n3 d_L_law_1137 ?_
    refine A_iconst (v := nI 4) d_L_law_1138 (by decide) ?_
    first | refine A_iaddN d_L_law_1139 (by with_reducible rfl) (by with_reducible rfl) ?_ | refine A_iadd d_L_law_1139 ?_
    refine A_ialdN d_L_law_1140 h5 ⟨by omega, by omega⟩ ?_
    refine A_aload_n0 d_L_law_1141 ?_
    refine A_iload_n3 d_L_law_1142 ?_
    refine A_iconst (v := nI 5) d_L_law_1143 (by decide) ?_
    first | refine A_iaddN d_L_law_1144 (by with_reducible rfl) (by with_reducible rfl) ?_ | refine A_iadd d_L_law_1144 ?_
    refine A_ialdN d_L_law_1145 h5 ⟨by omega, by omega⟩ ?_
    refine A_aload_n0 d_L_law_1146 ?_
    refine A_iload_n3 d_L_law_1147 ?_
    refine A_bipush (v := nI 6) d_L_law_1148 (by decide) ?_
    first | refine A_iaddN d_L_law_1150 (by with_reducible rfl) (by with_reducible rfl) ?_ | refine A_iadd d_L_law_1150 ?_
    refine A_ialdN d_L_law_1151 h5 ⟨by omega, by omega⟩ ?_
    refine A_if_eq (tgt := 1159) d_L_law_1152 (by decide) (fun c => absurd c hb) (fun c_1152 => ?_)
    refine A_iconst (v := nI 1) d_L_law_1155 (by decide) ?_
    refine A_goto (tgt := 1160) d_L_law_1156 (by decide) ?_
    refine A_callVP d_L_law_1160 (c_N_errand hN _ _ _ _ _ _) hO rfl q_1013 q_1014 q_1015 mk_N_errand rfl (by decide) rfl (Nat.le_of_ble_eq_true rfl) ⟨show u + 0 ≤ 600000 by omega, show q + 0 ≤ 7302250 by omega⟩ ⟨rfl, rfl⟩ ?_
    refine A_aload_n2 d_L_law_1163 ?_
    refine A_aload_n0 d_L_law_1164 ?_
    refine A_iload_n3 d_L_law_1165 ?_
    refine A_iconst (v := nI 1) d_L_law_1166 (by decide) ?_
    first | refine A_iaddN d_L_law_1167 (by with_reducible rfl) (by with_reducible rfl) ?_ | refine A_iadd d_L_law_1167 ?_
    refine A_ialdN d_L_law_1168 h5 ⟨by omega, by omega⟩ ?_
    refine A_aload_n0 d_L_law_1169 ?_
    refine A_iload_n3 d_L_law_1170 ?_
    refine A_iconst (v := nI 2) d_L_law_1171 (by decide) ?_
    first | refine A_iaddN d_L_law_1172 (by with_reducible rfl) (by with_reducible rfl) ?_ | refine A_iadd d_L_law_1172 ?_
    refine A_ialdN d_L_law_1173 h5 ⟨by omega, by omega⟩ ?_
    refine A_aload_n0 d_L_law_1174 ?_
    refine A_iload_n3 d_L_law_1175 ?_
    refine A_iconst (v := nI 3) d_L_law_1176 (by decide) ?_
    first | refine A_iaddN d_L_law_1177 (by with_reducible rfl) (by with_reducible rfl) ?_ | refine A_iadd d_L_law_1177 ?_
    refine A_ialdN d_L_law_1178 h5 ⟨by omega, by omega⟩ ?_
    refine A_aload_n0 d_L_law_1179 ?_
    refine A_iload_n3 d_L_law_1180 ?_
    refine A_iconst (v := nI 4) d_L_law_1181 (by decide) ?_
    first | refine A_iaddN d_L_law_1182 (by with_reducible rfl) (by with_reducible rfl) ?_ | refine A_iadd d_L_law_1182 ?_
    refine A_ialdN d_L_law_1183 h5 ⟨by omega, by omega⟩ ?_
    refine A_aload_n0 d_L_law_1184 ?_
    refine A_iload_n3 d_L_law_1185 ?_
    refine A_iconst (v := nI 5) d_L_law_1186 (by decide) ?_
    first | refine A_iaddN d_L_law_1187 (by with_reducible rfl) (by with_reducible rfl) ?_ | refine A_iadd d_L_law_1187 ?_
    refine A_ialdN d_L_law_1188 h5 ⟨by omega, by omega⟩ ?_
    refine A_aload_n0 d_L_law_1189 ?_
    refine A_iload_n3 d_L_law_1190 ?_
    refine A_bipush (v := nI 6) d_L_law_1191 (by decide) ?_
    first | refine A_iaddN d_L_law_1193 (by with_reducible rfl) (by with_reducible rfl) ?_ | refine A_iadd d_L_law_1193 ?_
    refine A_ialdN d_L_law_1194 h5 ⟨by omega, by omega⟩ ?_
    refine A_if_eq (tgt := 1202) d_L_law_1195 (by decide) (fun c => absurd c hb) (fun c_1195 => ?_)
    refine A_iconst (v := nI 1) d_L_law_1198 (by decide) ?_
    refine A_goto (tgt := 1203) d_L_law_1199 (by decide) ?_
    refine A_callV0 d_L_law_1203 (c_M_errand hM hp _ _ _ _ _ _) hM.o rfl q_1689 q_1690 q_1691 mk_M_errand rfl (by decide) rfl (Nat.le_of_ble_eq_true rfl) ⟨show u + 0 ≤ 600000 by omega, show q + 0 ≤ 7302250 by omega⟩ ⟨rfl, rfl⟩ (fun v h1 hv => ?_)
    obtain ⟨rfl, S1, hM1, hk⟩ := hv
    refine A_icmp_eq (tgt := 1406) d_L_law_1206 (by decide) (fun c_1206 => ?_) (fun c => absurd rfl c)
    exact kk _ _ _ _ _ _ _ _ (LIv.tk C0 hR hM1 hk) (by omega) (by omega)
set_option maxHeartbeats 4000000 in
set_option maxRecDepth 100000 in
theorem lc_meet {G : GE} {nm : String} {L : Nat} {xs : Nat → Int32} {h : AH} {n m nx : Nat} {W : TD} {S : MS} {f : Nat → Option Nat} {IE : Nat → TD} {u q j : Nat} (hL : L ≤ 3584) (hj : 7 * j + 7 ≤ L) (A : LIv L xs h n m nx W S f IE) (hu : u ≤ 105 + 46 * j) (hq : q ≤ 147210 + 1835 * j) (kk : ∀ (h : AH) (nx : Nat) (W : TD) (S : MS) (f : Nat → Option Nat) (IE : Nat → TD) (u q : Nat), LIv L xs h n m nx W S f IE → u ≤ 105 + 46 * (j + 1) → q ≤ 147210 + 1835 * (j + 1) → WA G (yL nm) code 4 ret room_1 600000 7302250 KL u q 1406 [some (.ref 5), some (.ref n), some (.ref m), some (.int (nI (7 * j)))] [] h) : WA G (yL nm) code 4 ret room_1 600000 7302250 KL u q 1211 [some (.ref 5), some (.ref n), some (.ref m), some (.int (nI (7 * j)))] [] h := by
  obtain ⟨C0, hMA, hR⟩ := A
  obtain ⟨⟨hO, hn, hm⟩, hT, hI, ⟨Zr, hRd, z14, h14⟩, ⟨px, py, Zp, hPl⟩, hS, hOl, h5⟩ := id C0
  obtain ⟨c, VL, WT, BK, SG, GM, len, hq0⟩ := hR.1
  have hN : NT h n W c VL WT BK SG GM := ⟨hO, hT, hq0.1⟩
  have hp : MP S c VL WT BK SG GM := hq0.2.1
  have hM : MW h h m S := ⟨hMA, fun _ _ => rfl⟩
  refine A_aload_n1 d_L_law_1211 ?_
  refine A_aload_n0 d_L_law_1212 ?_
  refine A_iload_n3 d_L_law_1213 ?_
  refine A_iconst (v := nI 1) d_L_law_1214 (by decide) ?_
  first | refine A_iaddN d_L_law_1215 (by with_reducible rfl) (by with_reducible rfl) ?_ | refine A_iadd d_L_law_1215 ?_
  refine A_ialdN d_L_law_1216 h5 ⟨by omega, by omega⟩ ?_
  refine A_aload_n0 d_L_law_1217 ?_
  refine A_iload_n3 d_L_law_1218 ?_
  refine A_iconst (v := nI 2) d_L_law_1219 (by decide) ?_
  first | refine A_iaddN d_L_law_1220 (by with_reducible rfl) (by with_reducible rfl) ?_ | refine A_iadd d_L_law_1220 ?_
  refine A_ialdN d_L_law_1221 h5 ⟨by omega, by omega⟩ ?_
  refine A_aload_n0 d_L_law_1222 ?_
  refine A_iload_n3 d_L_law_1223 ?_
  refine A_iconst (v := nI 3) d_L_law_1224 (by decide) ?_
  first | refine A_iaddN d_L_law_1225 (by with_reducible rfl) (by with_reducible rfl) ?_ | refine A_iadd d_L_law_1225 ?_
  refine A_ialdN d_L_law_1226 h5 ⟨by omega, by omega⟩ ?_
  refine A_aload_n0 d_L_law_1227 ?_
  refine A_iload_n3 d_L_law_1228 ?_
  refine A_iconst (v := nI 4) d_L_law_1229 (by decide) ?_
  first | refine A_iaddN d_L_law_1230 (by with_reducible rfl) (by with_reducible rfl) ?_ | refine A_iadd d_L_law_1230 ?_
  refine A_ialdN d_L_law_1231 h5 ⟨by omega, by omega⟩ ?_
  refine A_aload_n0 d_L_law_1232 ?_
  refine A_iload_n3 d_L_law_1233 ?_
  refine A_iconst (v := nI 5) d_L_law_1234 (by decide) ?_
  first | refine A_iaddN d_L_law_1235 (by with_reducible rfl) (by with_reducible rfl) ?_ | refine A_iadd d_L_law_1235 ?_
  refine A_ialdN d_L_law_1236 h5 ⟨by omega, by omega⟩ ?_
  refine A_callVP d_L_law_1237 (c_N_meet hN _ _ _ _ _) hO rfl q_1020 q_1021 q_1022 mk_N_meet rfl (by decide) rfl (Nat.le_of_ble_eq_true rfl) ⟨show u + 0 ≤ 600000 by omega, show q + 0 ≤ 7302250 by omega⟩ ⟨rfl, rfl⟩ ?_
  refine A_aload_n2 d_L_law_1240 ?_
  refine A_aload_n0 d_L_law_1241 ?_
  refine A_iload_n3 d_L_law_1242 ?_
  refine A_iconst (v := nI 1) d_L_law_1243 (by decide) ?_
  first | refine A_iaddN d_L_law_1244 (by with_reducible rfl) (by with_reducible rfl) ?_ | refine A_iadd d_L_law_1244 ?_
  refine A_ialdN d_L_law_1245 h5 ⟨by omega, by omega⟩ ?_
  refine A_aload_n0 d_L_law_1246 ?_
  refine A_iload_n3 d_L_law_1247 ?_
  refine A_iconst (v := nI 2) d_L_law_1248 (by decide) ?_
  first | refine A_iaddN d_L_law_1249 (by with_reducible rfl) (by with_reducible rfl) ?_ | refine A_iadd d_L_law_1249 ?_
  refine A_ialdN d_L_law_1250 h5 ⟨by omega, by omega⟩ ?_
  refine A_aload_n0 d_L_law_1251 ?_
  refine A_iload_n3 d_L_law_1252 ?_
  refine A_iconst (v := nI 3) d_L_law_1253 (by decide) ?_
  first | refine A_iaddN d_L_law_1254 (by with_reducible rfl) (by with_reducible rfl) ?_ | refine A_iadd d_L_law_1254 ?_
  refine A_ialdN d_L_law_1255 h5 ⟨by omega, by omega⟩ ?_
  refine A_aload_n0 d_L_law_1256 ?_
  refine A_iload_n3 d_L_law_1257 ?_
  refine A_iconst (v := nI 4) d_L_law_1258 (by decide) ?_
  first | refine A_iaddN d_L_law_1259 (by with_reducible rfl) (by with_reducible rfl) ?_ | refine A_iadd d_L_law_1259 ?_
  refine A_ialdN d_L_law_1260 h5 ⟨by omega, by omega⟩ ?_
  refine A_aload_n0 d_L_law_1261 ?_
  refine A_iload_n3 d_L_law_1262 ?_
  refine A_iconst (v := nI 5) d_L_law_1263 (by decide) ?_
  first | refine A_iaddN d_L_law_1264 (by with_reducible rfl) (by with_reducible rfl) ?_ | refine A_iadd d_L_law_1264 ?_
  refine A_ialdN d_L_law_1265 h5 ⟨by omega, by omega⟩ ?_
  refine A_callV0 d_L_law_1266 (c_M_meet hM hp _ _ _ _ _) hM.o rfl q_1701 q_1702 q_1703 mk_M_meet rfl (by decide) rfl (Nat.le_of_ble_eq_true rfl) ⟨show u + 0 ≤ 600000 by omega, show q + 0 ≤ 7302250 by omega⟩ ⟨rfl, rfl⟩ (fun v h1 hv => ?_)
  obtain ⟨rfl, S1, hM1, hk⟩ := hv
  refine A_icmp_eq (tgt := 1406) d_L_law_1269 (by decide) (fun c_1269 => ?_) (fun c => absurd rfl c)
  exact kk _ _ _ _ _ _ _ _ (LIv.tk C0 hR hM1 hk) (by omega) (by omega)
set_option maxHeartbeats 4000000 in
set_option maxRecDepth 100000 in
theorem lc_drawn {G : GE} {nm : String} {L : Nat} {xs : Nat → Int32} {h : AH} {n m nx : Nat} {W : TD} {S : MS} {f : Nat → Option Nat} {IE : Nat → TD} {u q j : Nat} (hL : L ≤ 3584) (hj : 7 * j + 7 ≤ L) (A : LIv L xs h n m nx W S f IE) (hu : u ≤ 105 + 46 * j) (hq : q ≤ 147210 + 1835 * j) (kk : ∀ (h : AH) (nx : Nat) (W : TD) (S : MS) (f : Nat → Option Nat) (IE : Nat → TD) (u q : Nat), LIv L xs h n m nx W S f IE → u ≤ 105 + 46 * (j + 1) → q ≤ 147210 + 1835 * (j + 1) → WA G (yL nm) code 4 ret room_1 600000 7302250 KL u q 1406 [some (.ref 5), some (.ref n), some (.ref m), some (.int (nI (7 * j)))] [] h) : WA G (yL nm) code 4 ret room_1 600000 7302250 KL u q 1274 [some (.ref 5), some (.ref n), some (.ref m), some (.int (nI (7 * j)))] [] h := by
  obtain ⟨C0, hMA, hR⟩ := A
  obtain ⟨⟨hO, hn, hm⟩, hT, hI, ⟨Zr, hRd, z14, h14⟩, ⟨px, py, Zp, hPl⟩, hS, hOl, h5⟩ := id C0
  obtain ⟨c, VL, WT, BK, SG, GM, len, hq0⟩ := hR.1
  have hN : NT h n W c VL WT BK SG GM := ⟨hO, hT, hq0.1⟩
  have hp : MP S c VL WT BK SG GM := hq0.2.1
  have hM : MW h h m S := ⟨hMA, fun _ _ => rfl⟩
  refine A_aload_n1 d_L_law_1274 ?_
  refine A_aload_n0 d_L_law_1275 ?_
  refine A_iload_n3 d_L_law_1276 ?_
  refine A_iconst (v := nI 1) d_L_law_1277 (by decide) ?_
  first | refine A_iaddN d_L_law_1278 (by with_reducible rfl) (by with_reducible rfl) ?_ | refine A_iadd d_L_law_1278 ?_
  refine A_ialdN d_L_law_1279 h5 ⟨by omega, by omega⟩ ?_
  refine A_aload_n0 d_L_law_1280 ?_
  refine A_iload_n3 d_L_law_1281 ?_
  refine A_iconst (v := nI 2) d_L_law_1282 (by decide) ?_
  first | refine A_iaddN d_L_law_1283 (by with_reducible rfl) (by with_reducible rfl) ?_ | refine A_iadd d_L_law_1283 ?_
  refine A_ialdN d_L_law_1284 h5 ⟨by omega, by omega⟩ ?_
  refine A_aload_n0 d_L_law_1285 ?_
  refine A_iload_n3 d_L_law_1286 ?_
  refine A_iconst (v := nI 3) d_L_law_1287 (by decide) ?_
  first | refine A_iaddN d_L_law_1288 (by with_reducible rfl) (by with_reducible rfl) ?_ | refine A_iadd d_L_law_1288 ?_
  refine A_ialdN d_L_law_1289 h5 ⟨by omega, by omega⟩ ?_
  refine A_aload_n0 d_L_law_1290 ?_
  refine A_iload_n3 d_L_law_1291 ?_
  refine A_iconst (v := nI 4) d_L_law_1292 (by decide) ?_
  first | refine A_iaddN d_L_law_1293 (by with_reducible rfl) (by with_reducible rfl) ?_ | refine A_iadd d_L_law_1293 ?_
  refine A_ialdN d_L_law_1294 h5 ⟨by omega, by omega⟩ ?_
  refine A_aload_n0 d_L_law_1295 ?_
  refine A_iload_n3 d_L_law_1296 ?_
  refine A_iconst (v := nI 5) d_L_law_1297 (by decide) ?_
  first | refine A_iaddN d_L_law_1298 (by with_reducible rfl) (by with_reducible rfl) ?_ | refine A_iadd d_L_law_1298 ?_
  refine A_ialdN d_L_law_1299 h5 ⟨by omega, by omega⟩ ?_
  refine A_callVP d_L_law_1300 (c_N_drawn hN _ _ _ _ _) hO rfl q_1024 q_1025 q_1026 mk_N_drawn rfl (by decide) rfl (Nat.le_of_ble_eq_true rfl) ⟨show u + 0 ≤ 600000 by omega, show q + 0 ≤ 7302250 by omega⟩ ⟨rfl, rfl⟩ ?_
  refine A_aload_n2 d_L_law_1303 ?_
  refine A_aload_n0 d_L_law_1304 ?_
  refine A_iload_n3 d_L_law_1305 ?_
  refine A_iconst (v := nI 1) d_L_law_1306 (by decide) ?_
  first | refine A_iaddN d_L_law_1307 (by with_reducible rfl) (by with_reducible rfl) ?_ | refine A_iadd d_L_law_1307 ?_
  refine A_ialdN d_L_law_1308 h5 ⟨by omega, by omega⟩ ?_
  refine A_aload_n0 d_L_law_1309 ?_
  refine A_iload_n3 d_L_law_1310 ?_
  refine A_iconst (v := nI 2) d_L_law_1311 (by decide) ?_
  first | refine A_iaddN d_L_law_1312 (by with_reducible rfl) (by with_reducible rfl) ?_ | refine A_iadd d_L_law_1312 ?_
  refine A_ialdN d_L_law_1313 h5 ⟨by omega, by omega⟩ ?_
  refine A_aload_n0 d_L_law_1314 ?_
  refine A_iload_n3 d_L_law_1315 ?_
  refine A_iconst (v := nI 3) d_L_law_1316 (by decide) ?_
  first | refine A_iaddN d_L_law_1317 (by with_reducible rfl) (by with_reducible rfl) ?_ | refine A_iadd d_L_law_1317 ?_
  refine A_ialdN d_L_law_1318 h5 ⟨by omega, by omega⟩ ?_
  refine A_aload_n0 d_L_law_1319 ?_
  refine A_iload_n3 d_L_law_1320 ?_
  refine A_iconst (v := nI 4) d_L_law_1321 (by decide) ?_
  first | refine A_iaddN d_L_law_1322 (by with_reducible rfl) (by with_reducible rfl) ?_ | refine A_iadd d_L_law_1322 ?_
  refine A_ialdN d_L_law_1323 h5 ⟨by omega, by omega⟩ ?_
  refine A_aload_n0 d_L_law_1324 ?_
  refine A_iload_n3 d_L_law_1325 ?_
  refine A_iconst (v := nI 5) d_L_law_1326 (by decide) ?_
  first | refine A_iaddN d_L_law_1327 (by with_reducible rfl) (by with_reducible rfl) ?_ | refine A_iadd d_L_law_1327 ?_
  refine A_ialdN d_L_law_1328 h5 ⟨by omega, by omega⟩ ?_
  refine A_callV0 d_L_law_1329 (c_M_drawn hM hp _ _ _ _ _) hM.o rfl q_1705 q_1706 q_1707 mk_M_drawn rfl (by decide) rfl (Nat.le_of_ble_eq_true rfl) ⟨show u + 0 ≤ 600000 by omega, show q + 0 ≤ 7302250 by omega⟩ ⟨rfl, rfl⟩ (fun v h1 hv => ?_)
  obtain ⟨rfl, S1, hM1, hk⟩ := hv
  refine A_icmp_eq (tgt := 1406) d_L_law_1332 (by decide) (fun c_1332 => ?_) (fun c => absurd rfl c)
  exact kk _ _ _ _ _ _ _ _ (LIv.tk C0 hR hM1 hk) (by omega) (by omega)
set_option maxHeartbeats 4000000 in
set_option maxRecDepth 100000 in
theorem lc_count {G : GE} {nm : String} {L : Nat} {xs : Nat → Int32} {h : AH} {n m nx : Nat} {W : TD} {S : MS} {f : Nat → Option Nat} {IE : Nat → TD} {u q j : Nat} (hL : L ≤ 3584) (hj : 7 * j + 7 ≤ L) (A : LIv L xs h n m nx W S f IE) (hu : u ≤ 105 + 46 * j) (hq : q ≤ 147210 + 1835 * j) (kk : ∀ (h : AH) (nx : Nat) (W : TD) (S : MS) (f : Nat → Option Nat) (IE : Nat → TD) (u q : Nat), LIv L xs h n m nx W S f IE → u ≤ 105 + 46 * (j + 1) → q ≤ 147210 + 1835 * (j + 1) → WA G (yL nm) code 4 ret room_1 600000 7302250 KL u q 1406 [some (.ref 5), some (.ref n), some (.ref m), some (.int (nI (7 * j)))] [] h) : WA G (yL nm) code 4 ret room_1 600000 7302250 KL u q 1337 [some (.ref 5), some (.ref n), some (.ref m), some (.int (nI (7 * j)))] [] h := by
  obtain ⟨C0, hMA, hR⟩ := A
  obtain ⟨⟨hO, hn, hm⟩, hT, hI, ⟨Zr, hRd, z14, h14⟩, ⟨px, py, Zp, hPl⟩, hS, hOl, h5⟩ := id C0
  obtain ⟨c, VL, WT, BK, SG, GM, len, hq0⟩ := hR.1
  have hN : NT h n W c VL WT BK SG GM := ⟨hO, hT, hq0.1⟩
  have hp : MP S c VL WT BK SG GM := hq0.2.1
  have hM : MW h h m S := ⟨hMA, fun _ _ => rfl⟩
  refine A_aload_n1 d_L_law_1337 ?_
  refine A_aload_n0 d_L_law_1338 ?_
  refine A_iload_n3 d_L_law_1339 ?_
  refine A_iconst (v := nI 1) d_L_law_1340 (by decide) ?_
  first | refine A_iaddN d_L_law_1341 (by with_reducible rfl) (by with_reducible rfl) ?_ | refine A_iadd d_L_law_1341 ?_
  refine A_ialdN d_L_law_1342 h5 ⟨by omega, by omega⟩ ?_
  refine A_callVP d_L_law_1343 (c_N_count hN _) hO rfl q_620 q_621 q_622 mk_N_count rfl (by decide) rfl (Nat.le_of_ble_eq_true rfl) ⟨show u + 0 ≤ 600000 by omega, show q + 0 ≤ 7302250 by omega⟩ ⟨rfl, rfl⟩ ?_
  refine A_aload_n2 d_L_law_1346 ?_
  refine A_aload_n0 d_L_law_1347 ?_
  refine A_iload_n3 d_L_law_1348 ?_
  refine A_iconst (v := nI 1) d_L_law_1349 (by decide) ?_
  first | refine A_iaddN d_L_law_1350 (by with_reducible rfl) (by with_reducible rfl) ?_ | refine A_iadd d_L_law_1350 ?_
  refine A_ialdN d_L_law_1351 h5 ⟨by omega, by omega⟩ ?_
  refine A_callV0 d_L_law_1352 (c_M_count hM hp _) hM.o rfl q_1718 q_1719 q_1720 mk_M_count rfl (by decide) rfl (Nat.le_of_ble_eq_true rfl) ⟨show u + 0 ≤ 600000 by omega, show q + 0 ≤ 7302250 by omega⟩ ⟨rfl, rfl⟩ (fun v h1 hv => ?_)
  obtain ⟨rfl, S1, hM1, hk⟩ := hv
  refine A_icmp_eq (tgt := 1406) d_L_law_1355 (by decide) (fun c_1355 => ?_) (fun c => absurd rfl c)
  exact kk _ _ _ _ _ _ _ _ (LIv.tk C0 hR hM1 hk) (by omega) (by omega)
set_option maxHeartbeats 4000000 in
set_option maxRecDepth 100000 in
theorem lc_image {G : GE} {nm : String} {L : Nat} {xs : Nat → Int32} {h : AH} {n m nx : Nat} {W : TD} {S : MS} {f : Nat → Option Nat} {IE : Nat → TD} {u q j : Nat} (hL : L ≤ 3584) (hj : 7 * j + 7 ≤ L) (A : LIv L xs h n m nx W S f IE) (hu : u ≤ 105 + 46 * j) (hq : q ≤ 147210 + 1835 * j) (kk : ∀ (h : AH) (nx : Nat) (W : TD) (S : MS) (f : Nat → Option Nat) (IE : Nat → TD) (u q : Nat), LIv L xs h n m nx W S f IE → u ≤ 105 + 46 * (j + 1) → q ≤ 147210 + 1835 * (j + 1) → WA G (yL nm) code 4 ret room_1 600000 7302250 KL u q 1406 [some (.ref 5), some (.ref n), some (.ref m), some (.int (nI (7 * j)))] [] h) : WA G (yL nm) code 4 ret room_1 600000 7302250 KL u q 1360 [some (.ref 5), some (.ref n), some (.ref m), some (.int (nI (7 * j)))] [] h := by
  obtain ⟨C0, hMA, hR⟩ := A
  obtain ⟨⟨hO, hn, hm⟩, hT, hI, ⟨Zr, hRd, z14, h14⟩, ⟨px, py, Zp, hPl⟩, hS, hOl, h5⟩ := id C0
  obtain ⟨c, VL, WT, BK, SG, GM, len, hq0⟩ := hR.1
  have hN : NT h n W c VL WT BK SG GM := ⟨hO, hT, hq0.1⟩
  have hp : MP S c VL WT BK SG GM := hq0.2.1
  have hM : MW h h m S := ⟨hMA, fun _ _ => rfl⟩
  refine A_nx (fun nx0 hx => ?_)
  refine A_aload_n1 d_L_law_1360 ?_
  refine A_aload_n0 d_L_law_1361 ?_
  refine A_iload_n3 d_L_law_1362 ?_
  refine A_iconst (v := nI 1) d_L_law_1363 (by decide) ?_
  first | refine A_iaddN d_L_law_1364 (by with_reducible rfl) (by with_reducible rfl) ?_ | refine A_iadd d_L_law_1364 ?_
  refine A_ialdN d_L_law_1365 h5 ⟨by omega, by omega⟩ ?_
  refine A_callV d_L_law_1366 (c_N_image hO hT hq0.2.2.2.1 (hI.nx hx) (by omega) hn hx (by have := (hx.2 (m + 22) (by omega)).mp (hMA.full (by omega) (by omega)); omega) _) hO rfl q_624 q_625 q_626 mk_N_image rfl (by decide) rfl (Nat.le_of_ble_eq_true rfl) ⟨show u + 46 ≤ 600000 by omega, show q + 1835 ≤ 7302250 by omega⟩ (fun v h1 hv => ?_)
  rcases hv with ⟨hf1, rfl, rfl⟩ | ⟨k0, hk0, hke, rfl, p1, E1, nx1, hI1, hx1, hle, hE, e1⟩
  · refine A_aload_n2 d_L_law_1369 ?_
    refine A_aload_n0 d_L_law_1370 ?_
    refine A_iload_n3 d_L_law_1371 ?_
    refine A_iconst (v := nI 1) d_L_law_1372 (by decide) ?_
    first | refine A_iaddN d_L_law_1373 (by with_reducible rfl) (by with_reducible rfl) ?_ | refine A_iadd d_L_law_1373 ?_
    refine A_ialdN d_L_law_1374 h5 ⟨by omega, by omega⟩ ?_
    refine A_callV0 d_L_law_1375 (c_M_image hM hR.2.2.2 _) hM.o rfl q_1722 q_1723 q_1724 mk_M_image rfl (by decide) rfl (Nat.le_of_ble_eq_true rfl) ⟨show u + 46 + 0 ≤ 600000 by omega, show q + 1835 + 0 ≤ 7302250 by omega⟩ ⟨rfl, rfl⟩ (fun v h1 hv => ?_)
    rcases hv with ⟨hf2, rfl, S1, hM1, e⟩ | ⟨k1, hke, hk1, -⟩
    rotate_left
    · rw [hke, inB_N (by omega) (by decide) (by decide), decide_eq_true (Nat.zero_le k1), decide_eq_true hk1] at hf1; cases hf1
    refine A_icmp_eq (tgt := 1406) d_L_law_1378 (by decide) (fun c_1378 => ?_) (fun c => absurd rfl c)
    exact kk _ _ _ _ _ _ _ _ ⟨C0.mod hM1, hM1.1, R_eqS hR e⟩ (show u + 46 ≤ _ by omega) (show q + 1835 ≤ _ by omega)
  · have C1 : CIv L xs h1 n m nx1 W (fup f k0 (some p1)) (fup IE k0 E1) := ⟨⟨(e1 n (by omega)).trans hO, hn, hm⟩, hT.kept (fun i _ _ => e1 i (by omega)), hI1, ⟨Zr, hRd.kept (fun i _ _ => e1 i (by omega)), z14, h14⟩, ⟨px, py, Zp, hPl.kept (fun i _ _ => e1 i (by omega))⟩, hS.kept (fun i _ _ => e1 i (by omega)), hOl.kept (fun i hi => e1 i (by omega)), (e1 5 (by omega)).trans h5⟩
    have h5 := C1.2.2.2.2.2.2.2
    have hM1 : MW h1 h1 m S := ⟨hMA.kept (fun i _ _ => e1 i (by omega)), fun _ _ => rfl⟩
    replace hM := hM1
    clear hM1
    refine A_aload_n2 d_L_law_1369 ?_
    refine A_aload_n0 d_L_law_1370 ?_
    refine A_iload_n3 d_L_law_1371 ?_
    refine A_iconst (v := nI 1) d_L_law_1372 (by decide) ?_
    first | refine A_iaddN d_L_law_1373 (by with_reducible rfl) (by with_reducible rfl) ?_ | refine A_iadd d_L_law_1373 ?_
    refine A_ialdN d_L_law_1374 h5 ⟨by omega, by omega⟩ ?_
    refine A_callV0 d_L_law_1375 (c_M_image hM hR.2.2.2 _) hM.o rfl q_1722 q_1723 q_1724 mk_M_image rfl (by decide) rfl (Nat.le_of_ble_eq_true rfl) ⟨show u + 46 + 0 ≤ 600000 by omega, show q + 1835 + 0 ≤ 7302250 by omega⟩ ⟨rfl, rfl⟩ (fun v h1 hv => ?_)
    rcases hv with ⟨hf2, -⟩ | ⟨k1, hke1, hk1, rfl, S1, hM1, hcp, h55⟩
    · rw [hke, inB_N (by omega) (by decide) (by decide), decide_eq_true (Nat.zero_le k0), decide_eq_true hk0] at hf2; cases hf2
    obtain rfl : k1 = k0 := (nI_eq (by omega) (by omega)).mp (hke1.symm.trans hke)
    refine A_icmp_eq (tgt := 1406) d_L_law_1378 (by decide) (fun c_1378 => ?_) (fun c => absurd rfl c)
    exact kk _ _ _ _ _ _ _ _ ⟨C1.mod hM1, hM1.1, image_R hk0 hR hE hcp h55⟩ (show u + 46 ≤ _ by omega) (show q + 1835 ≤ _ by omega)
set_option maxHeartbeats 4000000 in
set_option maxRecDepth 100000 in
theorem lc_again {G : GE} {nm : String} {L : Nat} {xs : Nat → Int32} {h : AH} {n m nx : Nat} {W : TD} {S : MS} {f : Nat → Option Nat} {IE : Nat → TD} {u q j : Nat} (hL : L ≤ 3584) (hj : 7 * j + 7 ≤ L) (A : LIv L xs h n m nx W S f IE) (hu : u ≤ 105 + 46 * j) (hq : q ≤ 147210 + 1835 * j) (kk : ∀ (h : AH) (nx : Nat) (W : TD) (S : MS) (f : Nat → Option Nat) (IE : Nat → TD) (u q : Nat), LIv L xs h n m nx W S f IE → u ≤ 105 + 46 * (j + 1) → q ≤ 147210 + 1835 * (j + 1) → WA G (yL nm) code 4 ret room_1 600000 7302250 KL u q 1406 [some (.ref 5), some (.ref n), some (.ref m), some (.int (nI (7 * j)))] [] h) : WA G (yL nm) code 4 ret room_1 600000 7302250 KL u q 1383 [some (.ref 5), some (.ref n), some (.ref m), some (.int (nI (7 * j)))] [] h := by
  obtain ⟨C0, hMA, hR⟩ := A
  obtain ⟨⟨hO, hn, hm⟩, hT, hI, ⟨Zr, hRd, z14, h14⟩, ⟨px, py, Zp, hPl⟩, hS, hOl, h5⟩ := id C0
  obtain ⟨c, VL, WT, BK, SG, GM, len, hq0⟩ := hR.1
  have hN : NT h n W c VL WT BK SG GM := ⟨hO, hT, hq0.1⟩
  have hp : MP S c VL WT BK SG GM := hq0.2.1
  have hM : MW h h m S := ⟨hMA, fun _ _ => rfl⟩
  refine A_aload_n1 d_L_law_1383 ?_
  refine A_aload_n0 d_L_law_1384 ?_
  refine A_iload_n3 d_L_law_1385 ?_
  refine A_iconst (v := nI 1) d_L_law_1386 (by decide) ?_
  first | refine A_iaddN d_L_law_1387 (by with_reducible rfl) (by with_reducible rfl) ?_ | refine A_iadd d_L_law_1387 ?_
  refine A_ialdN d_L_law_1388 h5 ⟨by omega, by omega⟩ ?_
  refine A_callV0 d_L_law_1389 (c_N_again hO hT hq0.2.2.2.1 hI (by omega) hn _) hO rfl q_636 q_637 q_638 mk_N_again rfl (by decide) rfl (Nat.le_of_ble_eq_true rfl) ⟨show u + 0 ≤ 600000 by omega, show q + 0 ≤ 7302250 by omega⟩ ⟨rfl, rfl⟩ (fun v h1 hv => ?_)
  rcases hv with ⟨hf1, rfl, rfl⟩ | ⟨k0, p0, hk0, hke, hfk, rfl, W1, M1, hE⟩
  · refine A_aload_n2 d_L_law_1392 ?_
    refine A_aload_n0 d_L_law_1393 ?_
    refine A_iload_n3 d_L_law_1394 ?_
    refine A_iconst (v := nI 1) d_L_law_1395 (by decide) ?_
    first | refine A_iaddN d_L_law_1396 (by with_reducible rfl) (by with_reducible rfl) ?_ | refine A_iadd d_L_law_1396 ?_
    refine A_ialdN d_L_law_1397 h5 ⟨by omega, by omega⟩ ?_
    refine A_callV0 d_L_law_1398 (c_M_again hM hR.2.2.2 (fun k => (f k).isSome) (fun k hk => hR.2.1 k (by omega)) _) hM.o rfl q_1733 q_1734 q_1735 mk_M_again rfl (by decide) rfl (Nat.le_of_ble_eq_true rfl) ⟨show u + 0 ≤ 600000 by omega, show q + 0 ≤ 7302250 by omega⟩ ⟨rfl, rfl⟩ (fun v h1 hv => ?_)
    rcases hv with ⟨-, rfl, S1, hM1, e⟩ | ⟨k1, hke, hk1, hb1, -⟩
    rotate_left
    · exfalso
      rcases hf1 with hf1 | ⟨k2, hk2, hke2, hf2⟩
      · rw [hke, inB_N (by omega) (by decide) (by decide), decide_eq_true (Nat.zero_le k1), decide_eq_true hk1] at hf1; cases hf1
      · obtain rfl : k1 = k2 := (nI_eq (by omega) (by omega)).mp (hke.symm.trans hke2)
        rw [hf2] at hb1; cases hb1
    refine A_icmp_eq (tgt := 1406) d_L_law_1401 (by decide) (fun c_1401 => ?_) (fun c => absurd rfl c)
    exact kk _ _ _ _ _ _ _ _ ⟨C0.mod hM1, hM1.1, R_eqS hR e⟩ (by omega) (by omega)
  · have C1 := C0.tw M1
    have h5 := C1.2.2.2.2.2.2.2
    have hM1 : MW h1 h1 m S := ⟨hMA.kept (fun i _ _ => M1.2 i (by omega)), fun _ _ => rfl⟩
    replace hM := hM1
    clear hM1
    refine A_aload_n2 d_L_law_1392 ?_
    refine A_aload_n0 d_L_law_1393 ?_
    refine A_iload_n3 d_L_law_1394 ?_
    refine A_iconst (v := nI 1) d_L_law_1395 (by decide) ?_
    first | refine A_iaddN d_L_law_1396 (by with_reducible rfl) (by with_reducible rfl) ?_ | refine A_iadd d_L_law_1396 ?_
    refine A_ialdN d_L_law_1397 h5 ⟨by omega, by omega⟩ ?_
    refine A_callV0 d_L_law_1398 (c_M_again hM hR.2.2.2 (fun k => (f k).isSome) (fun k hk => hR.2.1 k (by omega)) _) hM.o rfl q_1733 q_1734 q_1735 mk_M_again rfl (by decide) rfl (Nat.le_of_ble_eq_true rfl) ⟨show u + 0 ≤ 600000 by omega, show q + 0 ≤ 7302250 by omega⟩ ⟨rfl, rfl⟩ (fun v h1 hv => ?_)
    rcases hv with ⟨hf2, -⟩ | ⟨k1, hke1, hk1, hb1, rfl, S1, hM1, hcp, h55⟩
    · exfalso
      rcases hf2 with hf2 | ⟨k2, hke2, hk2, hf2⟩
      · rw [hke, inB_N (by omega) (by decide) (by decide), decide_eq_true (Nat.zero_le k0), decide_eq_true hk0] at hf2; cases hf2
      · obtain rfl : k0 = k2 := (nI_eq (by omega) (by omega)).mp (hke.symm.trans hke2)
        rw [hfk] at hf2; cases hf2
    obtain rfl : k1 = k0 := (nI_eq (by omega) (by omega)).mp (hke1.symm.trans hke)
    refine A_icmp_eq (tgt := 1406) d_L_law_1401 (by decide) (fun c_1401 => ?_) (fun c => absurd rfl c)
    exact kk _ _ _ _ _ _ _ _ ⟨C1.mod hM1, hM1.1, again_R hk0 hR hfk hE hcp h55⟩ (by omega) (by omega)
