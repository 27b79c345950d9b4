/-! the law's cases 13 to 25 -/
set_option maxRecDepth 100000 in
set_option maxHeartbeats 4000000 in
theorem L_13 {Γ : Ga} {p : Program} {l : Launch} {e : Env} {s : State} {m : MethodId} {args : Array Value} {below : List Frame} {meth : Method} {c : Code} {Q : State → Prop} {b Ls : Nat} {xs : Nat → Int32} {i v1 v2 M : Int} {ce sl : Nat} {ω : Wo} : Cs Γ p l e s m args below meth c Q b Ls xs i v1 v2 M ce sl 996 ω := by
  intro u6 u7 u8 u9 C hK3 hsl hX hb hi hLs e1 e2 r1 r2 hI hM hce kx
  show J Γ p l e R9 s m args below meth c Q 254 ce sl 996 [some (.ref b), some (.ref (rl Γ 0)), some (.ref (rl Γ 243)), some (.ref (rl Γ 252)), some (.ref (rl Γ 253)), some (.int (iI i)), u6, u7, u8, u9] [] ω
  refine j_aload1 C dL_law_996 ?_
  refine j_cVI0 C (s_able hsl hI hM) oX8_able (show Lk RL 174 yX8_able from (WS_of 401 (by decide +kernel))) ⟨_, rfl, rfl⟩ at_0 ⟨by decide, by decide⟩ rfl (Nat.le_of_ble_eq_true rfl) ⟨by omega, by omega⟩ dL_law_997 ?_
  intro z W1 hz hP
  refine j_aload2 C dL_law_1000 ?_
  refine j_cVI0 C hP oX9_able (show Lk RL 177 yX9_able from (WS_of 1831 (by decide +kernel))) ⟨_, rfl, rfl⟩ at_243 ⟨by decide, by decide⟩ rfl (Nat.le_of_ble_eq_true rfl) ⟨by omega, by omega⟩ dL_law_1001 ?_
  intro z2 W2 hz2 hQ
  obtain ⟨rfl, hQ2⟩ := hQ
  refine j_icmp_eq C hz hz dL_law_1004 (fun _ => ?_) (fun q => absurd rfl q)
  refine j_widen (ce' := ce + 2) (sl' := sl + 12) (by omega) (by omega) ?_
  exact kx W2 _ _ _ _ hQ2
set_option maxRecDepth 100000 in
set_option maxHeartbeats 4000000 in
theorem L_14 {Γ : Ga} {p : Program} {l : Launch} {e : Env} {s : State} {m : MethodId} {args : Array Value} {below : List Frame} {meth : Method} {c : Code} {Q : State → Prop} {b Ls : Nat} {xs : Nat → Int32} {i v1 v2 M : Int} {ce sl : Nat} {ω : Wo} : Cs Γ p l e s m args below meth c Q b Ls xs i v1 v2 M ce sl 1009 ω := by
  intro u6 u7 u8 u9 C hK3 hsl hX hb hi hLs e1 e2 r1 r2 hI hM hce kx
  show J Γ p l e R9 s m args below meth c Q 254 ce sl 1009 [some (.ref b), some (.ref (rl Γ 0)), some (.ref (rl Γ 243)), some (.ref (rl Γ 252)), some (.ref (rl Γ 253)), some (.int (iI i)), u6, u7, u8, u9] [] ω
  refine j_aload1 C dL_law_1009 ?_
  refine j_aload0 C dL_law_1010 ?_
  refine j_iload5 C dL_law_1011 ?_
  refine j_iconst C dL_law_1013 ?_
  refine j_iadd C dL_law_1014 ?_
  refine j_sldv C hX hb ⟨by omega, by omega⟩ hLs e1 dL_law_1015 ?_
  refine j_aload3 C dL_law_1016 ?_
  refine j_cW (as := [.ref (rl Γ 0), .int (iI v1), .ref (rl Γ 252)]) (S := []) C hK3 (s_wouldGo hsl hI hM r1) o_w_wouldGo (show Lk RL 178 yL_wouldGo from (WS_of 943 (by decide +kernel))) ⟨by omega, by decide⟩ rfl rfl (Nat.le_of_ble_eq_true rfl) ⟨by omega, by omega⟩ dL_law_1017 ?_
  intro z W1 hz hP
  refine j_istore6 C rfl dL_law_1020 ?_
  refine j_aload2 C dL_law_1022 ?_
  refine j_aload0 C dL_law_1023 ?_
  refine j_iload5 C dL_law_1024 ?_
  refine j_iconst C dL_law_1026 ?_
  refine j_iadd C dL_law_1027 ?_
  refine j_sldv C hX hb ⟨by omega, by omega⟩ hLs e1 dL_law_1028 ?_
  refine j_cVI1 C hP oX9_wouldGo (show Lk RL 180 yX9_wouldGo from (WS_of 1835 (by decide +kernel))) ⟨_, rfl, rfl⟩ at_243 ⟨by decide, by decide⟩ rfl (Nat.le_of_ble_eq_true rfl) ⟨by omega, by omega⟩ dL_law_1029 ?_
  intro z2 W2 hz2 hAg
  refine j_istore7 C rfl dL_law_1032 ?_
  refine j_aload2 C dL_law_1034 ?_
  refine j_cVI0 C (c_X9_thrown hAg.1) oX9_thrown (show Lk RL 134 yX9_thrown from (WS_of 1579 (by decide +kernel))) ⟨_, rfl, rfl⟩ at_243 ⟨by decide, by decide⟩ rfl (Nat.le_of_ble_eq_true rfl) ⟨by omega, by omega⟩ dL_law_1035 ?_
  intro t W3 ht hT
  obtain ⟨rfl, rfl⟩ := hT
  refine j_iload6 C dL_law_1038 ?_
  refine j_icmp_eq C ht hz dL_law_1040 (fun _ => ?_) (fun q => absurd hAg.2.1 q)
  refine j_iload6 C dL_law_1045 ?_
  refine j_if_ne C hz dL_law_1047 (fun _ => ?_) (fun hk => ?_)
  · refine j_goto C dL_law_1062 ?_
    refine j_widen (ce' := ce + 2) (sl' := sl + 12) (by omega) (by omega) ?_
    exact kx _ _ _ _ _ hAg.2.2.2
  refine j_aload3 C dL_law_1050 ?_
  refine j_iconst C dL_law_1051 ?_
  refine j_lald C (hAg.2.2.1 hk) dL_law_1052 ?_
  refine j_iload7 C dL_law_1053 ?_
  refine j_i2l C hz2 dL_law_1055 ?_
  refine j_lcmp C dL_law_1056 ?_
  refine j_if_eq C ⟨by decide, by decide⟩ dL_law_1057 (fun _ => ?_) (fun q => absurd rfl q)
  refine j_goto C dL_law_1062 ?_
  refine j_widen (ce' := ce + 2) (sl' := sl + 12) (by omega) (by omega) ?_
  exact kx _ _ _ _ _ hAg.2.2.2
set_option maxRecDepth 100000 in
set_option maxHeartbeats 4000000 in
theorem L_15 {Γ : Ga} {p : Program} {l : Launch} {e : Env} {s : State} {m : MethodId} {args : Array Value} {below : List Frame} {meth : Method} {c : Code} {Q : State → Prop} {b Ls : Nat} {xs : Nat → Int32} {i v1 v2 M : Int} {ce sl : Nat} {ω : Wo} : Cs Γ p l e s m args below meth c Q b Ls xs i v1 v2 M ce sl 1065 ω := by
  intro u6 u7 u8 u9 C hK3 hsl hX hb hi hLs e1 e2 r1 r2 hI hM hce kx
  show J Γ p l e R9 s m args below meth c Q 254 ce sl 1065 [some (.ref b), some (.ref (rl Γ 0)), some (.ref (rl Γ 243)), some (.ref (rl Γ 252)), some (.ref (rl Γ 253)), some (.int (iI i)), u6, u7, u8, u9] [] ω
  refine j_aload1 C dL_law_1065 ?_
  refine j_aload0 C dL_law_1066 ?_
  refine j_iload5 C dL_law_1067 ?_
  refine j_iconst C dL_law_1069 ?_
  refine j_iadd C dL_law_1070 ?_
  refine j_sldv C hX hb ⟨by omega, by omega⟩ hLs e1 dL_law_1071 ?_
  refine j_aload3 C dL_law_1072 ?_
  refine j_cW (as := [.ref (rl Γ 0), .int (iI v1), .ref (rl Γ 252)]) (S := []) C hK3 (s_weariness hsl hI hM r1) o_w_weariness (show Lk RL 181 yL_weariness from (WS_of 973 (by decide +kernel))) ⟨by omega, by decide⟩ rfl rfl (Nat.le_of_ble_eq_true rfl) ⟨by omega, by omega⟩ dL_law_1073 ?_
  intro z W1 hz hP
  refine j_istore6 C rfl dL_law_1076 ?_
  refine j_aload2 C dL_law_1078 ?_
  refine j_aload0 C dL_law_1079 ?_
  refine j_iload5 C dL_law_1080 ?_
  refine j_iconst C dL_law_1082 ?_
  refine j_iadd C dL_law_1083 ?_
  refine j_sldv C hX hb ⟨by omega, by omega⟩ hLs e1 dL_law_1084 ?_
  refine j_cVI1 C hP oX9_weariness (show Lk RL 183 yX9_weariness from (WS_of 1839 (by decide +kernel))) ⟨_, rfl, rfl⟩ at_243 ⟨by decide, by decide⟩ rfl (Nat.le_of_ble_eq_true rfl) ⟨by omega, by omega⟩ dL_law_1085 ?_
  intro z2 W2 hz2 hAg
  refine j_istore7 C rfl dL_law_1088 ?_
  refine j_aload2 C dL_law_1090 ?_
  refine j_cVI0 C (c_X9_thrown hAg.1) oX9_thrown (show Lk RL 134 yX9_thrown from (WS_of 1579 (by decide +kernel))) ⟨_, rfl, rfl⟩ at_243 ⟨by decide, by decide⟩ rfl (Nat.le_of_ble_eq_true rfl) ⟨by omega, by omega⟩ dL_law_1091 ?_
  intro t W3 ht hT
  obtain ⟨rfl, rfl⟩ := hT
  refine j_iload6 C dL_law_1094 ?_
  refine j_icmp_eq C ht hz dL_law_1096 (fun _ => ?_) (fun q => absurd hAg.2.1 q)
  refine j_iload6 C dL_law_1101 ?_
  refine j_if_ne C hz dL_law_1103 (fun _ => ?_) (fun hk => ?_)
  · refine j_goto C dL_law_1118 ?_
    refine j_widen (ce' := ce + 2) (sl' := sl + 12) (by omega) (by omega) ?_
    exact kx _ _ _ _ _ hAg.2.2.2
  refine j_aload3 C dL_law_1106 ?_
  refine j_iconst C dL_law_1107 ?_
  refine j_lald C (hAg.2.2.1 hk) dL_law_1108 ?_
  refine j_iload7 C dL_law_1109 ?_
  refine j_i2l C hz2 dL_law_1111 ?_
  refine j_lcmp C dL_law_1112 ?_
  refine j_if_eq C ⟨by decide, by decide⟩ dL_law_1113 (fun _ => ?_) (fun q => absurd rfl q)
  refine j_goto C dL_law_1118 ?_
  refine j_widen (ce' := ce + 2) (sl' := sl + 12) (by omega) (by omega) ?_
  exact kx _ _ _ _ _ hAg.2.2.2
set_option maxRecDepth 100000 in
set_option maxHeartbeats 4000000 in
theorem L_16 {Γ : Ga} {p : Program} {l : Launch} {e : Env} {s : State} {m : MethodId} {args : Array Value} {below : List Frame} {meth : Method} {c : Code} {Q : State → Prop} {b Ls : Nat} {xs : Nat → Int32} {i v1 v2 M : Int} {ce sl : Nat} {ω : Wo} : Cs Γ p l e s m args below meth c Q b Ls xs i v1 v2 M ce sl 1121 ω := by
  intro u6 u7 u8 u9 C hK3 hsl hX hb hi hLs e1 e2 r1 r2 hI hM hce kx
  show J Γ p l e R9 s m args below meth c Q 254 ce sl 1121 [some (.ref b), some (.ref (rl Γ 0)), some (.ref (rl Γ 243)), some (.ref (rl Γ 252)), some (.ref (rl Γ 253)), some (.int (iI i)), u6, u7, u8, u9] [] ω
  refine j_aload1 C dL_law_1121 ?_
  refine j_aload0 C dL_law_1122 ?_
  refine j_iload5 C dL_law_1123 ?_
  refine j_iconst C dL_law_1125 ?_
  refine j_iadd C dL_law_1126 ?_
  refine j_sldv C hX hb ⟨by omega, by omega⟩ hLs e1 dL_law_1127 ?_
  refine j_aload3 C dL_law_1128 ?_
  refine j_cW (as := [.ref (rl Γ 0), .int (iI v1), .ref (rl Γ 252)]) (S := []) C hK3 (s_wearinessAgain hsl hI hM r1) o_w_wearinessAgain (show Lk RL 184 yL_wearinessAgain from (WS_of 984 (by decide +kernel))) ⟨by omega, by decide⟩ rfl rfl (Nat.le_of_ble_eq_true rfl) ⟨by omega, by omega⟩ dL_law_1129 ?_
  intro z W1 hz hP
  refine j_istore6 C rfl dL_law_1132 ?_
  refine j_aload2 C dL_law_1134 ?_
  refine j_aload0 C dL_law_1135 ?_
  refine j_iload5 C dL_law_1136 ?_
  refine j_iconst C dL_law_1138 ?_
  refine j_iadd C dL_law_1139 ?_
  refine j_sldv C hX hb ⟨by omega, by omega⟩ hLs e1 dL_law_1140 ?_
  refine j_cVI1 C hP oX9_wearinessAgain (show Lk RL 186 yX9_wearinessAgain from (WS_of 1843 (by decide +kernel))) ⟨_, rfl, rfl⟩ at_243 ⟨by decide, by decide⟩ rfl (Nat.le_of_ble_eq_true rfl) ⟨by omega, by omega⟩ dL_law_1141 ?_
  intro z2 W2 hz2 hAg
  refine j_istore7 C rfl dL_law_1144 ?_
  refine j_aload2 C dL_law_1146 ?_
  refine j_cVI0 C (c_X9_thrown hAg.1) oX9_thrown (show Lk RL 134 yX9_thrown from (WS_of 1579 (by decide +kernel))) ⟨_, rfl, rfl⟩ at_243 ⟨by decide, by decide⟩ rfl (Nat.le_of_ble_eq_true rfl) ⟨by omega, by omega⟩ dL_law_1147 ?_
  intro t W3 ht hT
  obtain ⟨rfl, rfl⟩ := hT
  refine j_iload6 C dL_law_1150 ?_
  refine j_icmp_eq C ht hz dL_law_1152 (fun _ => ?_) (fun q => absurd hAg.2.1 q)
  refine j_iload6 C dL_law_1157 ?_
  refine j_if_ne C hz dL_law_1159 (fun _ => ?_) (fun hk => ?_)
  · refine j_goto C dL_law_1174 ?_
    refine j_widen (ce' := ce + 2) (sl' := sl + 12) (by omega) (by omega) ?_
    exact kx _ _ _ _ _ hAg.2.2.2
  refine j_aload3 C dL_law_1162 ?_
  refine j_iconst C dL_law_1163 ?_
  refine j_lald C (hAg.2.2.1 hk) dL_law_1164 ?_
  refine j_iload7 C dL_law_1165 ?_
  refine j_i2l C hz2 dL_law_1167 ?_
  refine j_lcmp C dL_law_1168 ?_
  refine j_if_eq C ⟨by decide, by decide⟩ dL_law_1169 (fun _ => ?_) (fun q => absurd rfl q)
  refine j_goto C dL_law_1174 ?_
  refine j_widen (ce' := ce + 2) (sl' := sl + 12) (by omega) (by omega) ?_
  exact kx _ _ _ _ _ hAg.2.2.2
set_option maxRecDepth 100000 in
set_option maxHeartbeats 4000000 in
theorem L_17 {Γ : Ga} {p : Program} {l : Launch} {e : Env} {s : State} {m : MethodId} {args : Array Value} {below : List Frame} {meth : Method} {c : Code} {Q : State → Prop} {b Ls : Nat} {xs : Nat → Int32} {i v1 v2 M : Int} {ce sl : Nat} {ω : Wo} : Cs Γ p l e s m args below meth c Q b Ls xs i v1 v2 M ce sl 1177 ω := by
  intro u6 u7 u8 u9 C hK3 hsl hX hb hi hLs e1 e2 r1 r2 hI hM hce kx
  show J Γ p l e R9 s m args below meth c Q 254 ce sl 1177 [some (.ref b), some (.ref (rl Γ 0)), some (.ref (rl Γ 243)), some (.ref (rl Γ 252)), some (.ref (rl Γ 253)), some (.int (iI i)), u6, u7, u8, u9] [] ω
  refine j_aload1 C dL_law_1177 ?_
  refine j_aload0 C dL_law_1178 ?_
  refine j_iload5 C dL_law_1179 ?_
  refine j_iconst C dL_law_1181 ?_
  refine j_iadd C dL_law_1182 ?_
  refine j_sldv C hX hb ⟨by omega, by omega⟩ hLs e1 dL_law_1183 ?_
  refine j_aload3 C dL_law_1184 ?_
  refine j_cW (as := [.ref (rl Γ 0), .int (iI v1), .ref (rl Γ 252)]) (S := []) C hK3 (s_wouldRefuse hsl hI hM r1) o_w_wouldRefuse (show Lk RL 187 yL_wouldRefuse from (WS_of 999 (by decide +kernel))) ⟨by omega, by decide⟩ rfl rfl (Nat.le_of_ble_eq_true rfl) ⟨by omega, by omega⟩ dL_law_1185 ?_
  intro z W1 hz hP
  refine j_istore6 C rfl dL_law_1188 ?_
  refine j_aload2 C dL_law_1190 ?_
  refine j_aload0 C dL_law_1191 ?_
  refine j_iload5 C dL_law_1192 ?_
  refine j_iconst C dL_law_1194 ?_
  refine j_iadd C dL_law_1195 ?_
  refine j_sldv C hX hb ⟨by omega, by omega⟩ hLs e1 dL_law_1196 ?_
  refine j_cVI1 C hP oX9_wouldRefuse (show Lk RL 189 yX9_wouldRefuse from (WS_of 1848 (by decide +kernel))) ⟨_, rfl, rfl⟩ at_243 ⟨by decide, by decide⟩ rfl (Nat.le_of_ble_eq_true rfl) ⟨by omega, by omega⟩ dL_law_1197 ?_
  intro z2 W2 hz2 hAg
  refine j_istore7 C rfl dL_law_1200 ?_
  refine j_aload2 C dL_law_1202 ?_
  refine j_cVI0 C (c_X9_thrown hAg.1) oX9_thrown (show Lk RL 134 yX9_thrown from (WS_of 1579 (by decide +kernel))) ⟨_, rfl, rfl⟩ at_243 ⟨by decide, by decide⟩ rfl (Nat.le_of_ble_eq_true rfl) ⟨by omega, by omega⟩ dL_law_1203 ?_
  intro t W3 ht hT
  obtain ⟨rfl, rfl⟩ := hT
  refine j_iload6 C dL_law_1206 ?_
  refine j_icmp_eq C ht hz dL_law_1208 (fun _ => ?_) (fun q => absurd hAg.2.1 q)
  refine j_iload6 C dL_law_1213 ?_
  refine j_if_ne C hz dL_law_1215 (fun _ => ?_) (fun hk => ?_)
  · refine j_goto C dL_law_1230 ?_
    refine j_widen (ce' := ce + 2) (sl' := sl + 12) (by omega) (by omega) ?_
    exact kx _ _ _ _ _ hAg.2.2.2
  refine j_aload3 C dL_law_1218 ?_
  refine j_iconst C dL_law_1219 ?_
  refine j_lald C (hAg.2.2.1 hk) dL_law_1220 ?_
  refine j_iload7 C dL_law_1221 ?_
  refine j_i2l C hz2 dL_law_1223 ?_
  refine j_lcmp C dL_law_1224 ?_
  refine j_if_eq C ⟨by decide, by decide⟩ dL_law_1225 (fun _ => ?_) (fun q => absurd rfl q)
  refine j_goto C dL_law_1230 ?_
  refine j_widen (ce' := ce + 2) (sl' := sl + 12) (by omega) (by omega) ?_
  exact kx _ _ _ _ _ hAg.2.2.2
set_option maxRecDepth 100000 in
set_option maxHeartbeats 4000000 in
theorem L_18 {Γ : Ga} {p : Program} {l : Launch} {e : Env} {s : State} {m : MethodId} {args : Array Value} {below : List Frame} {meth : Method} {c : Code} {Q : State → Prop} {b Ls : Nat} {xs : Nat → Int32} {i v1 v2 M : Int} {ce sl : Nat} {ω : Wo} : Cs Γ p l e s m args below meth c Q b Ls xs i v1 v2 M ce sl 1233 ω := by
  intro u6 u7 u8 u9 C hK3 hsl hX hb hi hLs e1 e2 r1 r2 hI hM hce kx
  show J Γ p l e R9 s m args below meth c Q 254 ce sl 1233 [some (.ref b), some (.ref (rl Γ 0)), some (.ref (rl Γ 243)), some (.ref (rl Γ 252)), some (.ref (rl Γ 253)), some (.int (iI i)), u6, u7, u8, u9] [] ω
  refine j_aload1 C dL_law_1233 ?_
  refine j_aload0 C dL_law_1234 ?_
  refine j_iload5 C dL_law_1235 ?_
  refine j_iconst C dL_law_1237 ?_
  refine j_iadd C dL_law_1238 ?_
  refine j_sldv C hX hb ⟨by omega, by omega⟩ hLs e1 dL_law_1239 ?_
  refine j_aload3 C dL_law_1240 ?_
  refine j_cW (as := [.ref (rl Γ 0), .int (iI v1), .ref (rl Γ 252)]) (S := []) C hK3 (s_callableIn hsl hI hM r1) o_w_callableIn (show Lk RL 190 yL_callableIn from (WS_of 1006 (by decide +kernel))) ⟨by omega, by decide⟩ rfl rfl (Nat.le_of_ble_eq_true rfl) ⟨by omega, by omega⟩ dL_law_1241 ?_
  intro z W1 hz hP
  refine j_istore6 C rfl dL_law_1244 ?_
  refine j_aload2 C dL_law_1246 ?_
  refine j_aload0 C dL_law_1247 ?_
  refine j_iload5 C dL_law_1248 ?_
  refine j_iconst C dL_law_1250 ?_
  refine j_iadd C dL_law_1251 ?_
  refine j_sldv C hX hb ⟨by omega, by omega⟩ hLs e1 dL_law_1252 ?_
  refine j_cVI1 C hP oX9_callableIn (show Lk RL 192 yX9_callableIn from (WS_of 1852 (by decide +kernel))) ⟨_, rfl, rfl⟩ at_243 ⟨by decide, by decide⟩ rfl (Nat.le_of_ble_eq_true rfl) ⟨by omega, by omega⟩ dL_law_1253 ?_
  intro z2 W2 hz2 hAg
  refine j_istore7 C rfl dL_law_1256 ?_
  refine j_aload2 C dL_law_1258 ?_
  refine j_cVI0 C (c_X9_thrown hAg.1) oX9_thrown (show Lk RL 134 yX9_thrown from (WS_of 1579 (by decide +kernel))) ⟨_, rfl, rfl⟩ at_243 ⟨by decide, by decide⟩ rfl (Nat.le_of_ble_eq_true rfl) ⟨by omega, by omega⟩ dL_law_1259 ?_
  intro t W3 ht hT
  obtain ⟨rfl, rfl⟩ := hT
  refine j_iload6 C dL_law_1262 ?_
  refine j_icmp_eq C ht hz dL_law_1264 (fun _ => ?_) (fun q => absurd hAg.2.1 q)
  refine j_iload6 C dL_law_1269 ?_
  refine j_if_ne C hz dL_law_1271 (fun _ => ?_) (fun hk => ?_)
  · refine j_goto C dL_law_1286 ?_
    refine j_widen (ce' := ce + 2) (sl' := sl + 12) (by omega) (by omega) ?_
    exact kx _ _ _ _ _ hAg.2.2.2
  refine j_aload3 C dL_law_1274 ?_
  refine j_iconst C dL_law_1275 ?_
  refine j_lald C (hAg.2.2.1 hk) dL_law_1276 ?_
  refine j_iload7 C dL_law_1277 ?_
  refine j_i2l C hz2 dL_law_1279 ?_
  refine j_lcmp C dL_law_1280 ?_
  refine j_if_eq C ⟨by decide, by decide⟩ dL_law_1281 (fun _ => ?_) (fun q => absurd rfl q)
  refine j_goto C dL_law_1286 ?_
  refine j_widen (ce' := ce + 2) (sl' := sl + 12) (by omega) (by omega) ?_
  exact kx _ _ _ _ _ hAg.2.2.2
set_option maxRecDepth 100000 in
set_option maxHeartbeats 4000000 in
theorem L_19 {Γ : Ga} {p : Program} {l : Launch} {e : Env} {s : State} {m : MethodId} {args : Array Value} {below : List Frame} {meth : Method} {c : Code} {Q : State → Prop} {b Ls : Nat} {xs : Nat → Int32} {i v1 v2 M : Int} {ce sl : Nat} {ω : Wo} : Cs Γ p l e s m args below meth c Q b Ls xs i v1 v2 M ce sl 1289 ω := by
  intro u6 u7 u8 u9 C hK3 hsl hX hb hi hLs e1 e2 r1 r2 hI hM hce kx
  show J Γ p l e R9 s m args below meth c Q 254 ce sl 1289 [some (.ref b), some (.ref (rl Γ 0)), some (.ref (rl Γ 243)), some (.ref (rl Γ 252)), some (.ref (rl Γ 253)), some (.int (iI i)), u6, u7, u8, u9] [] ω
  refine j_aload1 C dL_law_1289 ?_
  refine j_aload0 C dL_law_1290 ?_
  refine j_iload5 C dL_law_1291 ?_
  refine j_iconst C dL_law_1293 ?_
  refine j_iadd C dL_law_1294 ?_
  refine j_sldv C hX hb ⟨by omega, by omega⟩ hLs e1 dL_law_1295 ?_
  refine j_aload3 C dL_law_1296 ?_
  refine j_cW (as := [.ref (rl Γ 0), .int (iI v1), .ref (rl Γ 252)]) (S := []) C hK3 (s_homeIn hsl hI hM r1) o_w_homeIn (show Lk RL 193 yL_homeIn from (WS_of 1014 (by decide +kernel))) ⟨by omega, by decide⟩ rfl rfl (Nat.le_of_ble_eq_true rfl) ⟨by omega, by omega⟩ dL_law_1297 ?_
  intro z W1 hz hP
  refine j_istore6 C rfl dL_law_1300 ?_
  refine j_aload2 C dL_law_1302 ?_
  refine j_aload0 C dL_law_1303 ?_
  refine j_iload5 C dL_law_1304 ?_
  refine j_iconst C dL_law_1306 ?_
  refine j_iadd C dL_law_1307 ?_
  refine j_sldv C hX hb ⟨by omega, by omega⟩ hLs e1 dL_law_1308 ?_
  refine j_cVI1 C hP oX9_homeIn (show Lk RL 195 yX9_homeIn from (WS_of 1856 (by decide +kernel))) ⟨_, rfl, rfl⟩ at_243 ⟨by decide, by decide⟩ rfl (Nat.le_of_ble_eq_true rfl) ⟨by omega, by omega⟩ dL_law_1309 ?_
  intro z2 W2 hz2 hAg
  refine j_istore7 C rfl dL_law_1312 ?_
  refine j_aload2 C dL_law_1314 ?_
  refine j_cVI0 C (c_X9_thrown hAg.1) oX9_thrown (show Lk RL 134 yX9_thrown from (WS_of 1579 (by decide +kernel))) ⟨_, rfl, rfl⟩ at_243 ⟨by decide, by decide⟩ rfl (Nat.le_of_ble_eq_true rfl) ⟨by omega, by omega⟩ dL_law_1315 ?_
  intro t W3 ht hT
  obtain ⟨rfl, rfl⟩ := hT
  refine j_iload6 C dL_law_1318 ?_
  refine j_icmp_eq C ht hz dL_law_1320 (fun _ => ?_) (fun q => absurd hAg.2.1 q)
  refine j_iload6 C dL_law_1325 ?_
  refine j_if_ne C hz dL_law_1327 (fun _ => ?_) (fun hk => ?_)
  · refine j_goto C dL_law_1342 ?_
    refine j_widen (ce' := ce + 2) (sl' := sl + 12) (by omega) (by omega) ?_
    exact kx _ _ _ _ _ hAg.2.2.2
  refine j_aload3 C dL_law_1330 ?_
  refine j_iconst C dL_law_1331 ?_
  refine j_lald C (hAg.2.2.1 hk) dL_law_1332 ?_
  refine j_iload7 C dL_law_1333 ?_
  refine j_i2l C hz2 dL_law_1335 ?_
  refine j_lcmp C dL_law_1336 ?_
  refine j_if_eq C ⟨by decide, by decide⟩ dL_law_1337 (fun _ => ?_) (fun q => absurd rfl q)
  refine j_goto C dL_law_1342 ?_
  refine j_widen (ce' := ce + 2) (sl' := sl + 12) (by omega) (by omega) ?_
  exact kx _ _ _ _ _ hAg.2.2.2
set_option maxRecDepth 100000 in
set_option maxHeartbeats 4000000 in
theorem L_20 {Γ : Ga} {p : Program} {l : Launch} {e : Env} {s : State} {m : MethodId} {args : Array Value} {below : List Frame} {meth : Method} {c : Code} {Q : State → Prop} {b Ls : Nat} {xs : Nat → Int32} {i v1 v2 M : Int} {ce sl : Nat} {ω : Wo} : Cs Γ p l e s m args below meth c Q b Ls xs i v1 v2 M ce sl 1345 ω := by
  intro u6 u7 u8 u9 C hK3 hsl hX hb hi hLs e1 e2 r1 r2 hI hM hce kx
  show J Γ p l e R9 s m args below meth c Q 254 ce sl 1345 [some (.ref b), some (.ref (rl Γ 0)), some (.ref (rl Γ 243)), some (.ref (rl Γ 252)), some (.ref (rl Γ 253)), some (.int (iI i)), u6, u7, u8, u9] [] ω
  refine j_aload1 C dL_law_1345 ?_
  refine j_aload0 C dL_law_1346 ?_
  refine j_iload5 C dL_law_1347 ?_
  refine j_iconst C dL_law_1349 ?_
  refine j_iadd C dL_law_1350 ?_
  refine j_sldv C hX hb ⟨by omega, by omega⟩ hLs e1 dL_law_1351 ?_
  refine j_aload3 C dL_law_1352 ?_
  refine j_cW (as := [.ref (rl Γ 0), .int (iI v1), .ref (rl Γ 252)]) (S := []) C hK3 (s_homeInAgain hsl hI hM r1) o_w_homeInAgain (show Lk RL 196 yL_homeInAgain from (WS_of 1026 (by decide +kernel))) ⟨by omega, by decide⟩ rfl rfl (Nat.le_of_ble_eq_true rfl) ⟨by omega, by omega⟩ dL_law_1353 ?_
  intro z W1 hz hP
  refine j_istore6 C rfl dL_law_1356 ?_
  refine j_aload2 C dL_law_1358 ?_
  refine j_aload0 C dL_law_1359 ?_
  refine j_iload5 C dL_law_1360 ?_
  refine j_iconst C dL_law_1362 ?_
  refine j_iadd C dL_law_1363 ?_
  refine j_sldv C hX hb ⟨by omega, by omega⟩ hLs e1 dL_law_1364 ?_
  refine j_cVI1 C hP oX9_homeInAgain (show Lk RL 198 yX9_homeInAgain from (WS_of 1860 (by decide +kernel))) ⟨_, rfl, rfl⟩ at_243 ⟨by decide, by decide⟩ rfl (Nat.le_of_ble_eq_true rfl) ⟨by omega, by omega⟩ dL_law_1365 ?_
  intro z2 W2 hz2 hAg
  refine j_istore7 C rfl dL_law_1368 ?_
  refine j_aload2 C dL_law_1370 ?_
  refine j_cVI0 C (c_X9_thrown hAg.1) oX9_thrown (show Lk RL 134 yX9_thrown from (WS_of 1579 (by decide +kernel))) ⟨_, rfl, rfl⟩ at_243 ⟨by decide, by decide⟩ rfl (Nat.le_of_ble_eq_true rfl) ⟨by omega, by omega⟩ dL_law_1371 ?_
  intro t W3 ht hT
  obtain ⟨rfl, rfl⟩ := hT
  refine j_iload6 C dL_law_1374 ?_
  refine j_icmp_eq C ht hz dL_law_1376 (fun _ => ?_) (fun q => absurd hAg.2.1 q)
  refine j_iload6 C dL_law_1381 ?_
  refine j_if_ne C hz dL_law_1383 (fun _ => ?_) (fun hk => ?_)
  · refine j_goto C dL_law_1398 ?_
    refine j_widen (ce' := ce + 2) (sl' := sl + 12) (by omega) (by omega) ?_
    exact kx _ _ _ _ _ hAg.2.2.2
  refine j_aload3 C dL_law_1386 ?_
  refine j_iconst C dL_law_1387 ?_
  refine j_lald C (hAg.2.2.1 hk) dL_law_1388 ?_
  refine j_iload7 C dL_law_1389 ?_
  refine j_i2l C hz2 dL_law_1391 ?_
  refine j_lcmp C dL_law_1392 ?_
  refine j_if_eq C ⟨by decide, by decide⟩ dL_law_1393 (fun _ => ?_) (fun q => absurd rfl q)
  refine j_goto C dL_law_1398 ?_
  refine j_widen (ce' := ce + 2) (sl' := sl + 12) (by omega) (by omega) ?_
  exact kx _ _ _ _ _ hAg.2.2.2
set_option maxRecDepth 100000 in
set_option maxHeartbeats 4000000 in
theorem L_21 {Γ : Ga} {p : Program} {l : Launch} {e : Env} {s : State} {m : MethodId} {args : Array Value} {below : List Frame} {meth : Method} {c : Code} {Q : State → Prop} {b Ls : Nat} {xs : Nat → Int32} {i v1 v2 M : Int} {ce sl : Nat} {ω : Wo} : Cs Γ p l e s m args below meth c Q b Ls xs i v1 v2 M ce sl 1401 ω := by
  intro u6 u7 u8 u9 C hK3 hsl hX hb hi hLs e1 e2 r1 r2 hI hM hce kx
  show J Γ p l e R9 s m args below meth c Q 254 ce sl 1401 [some (.ref b), some (.ref (rl Γ 0)), some (.ref (rl Γ 243)), some (.ref (rl Γ 252)), some (.ref (rl Γ 253)), some (.int (iI i)), u6, u7, u8, u9] [] ω
  refine j_aload1 C dL_law_1401 ?_
  refine j_aload0 C dL_law_1402 ?_
  refine j_iload5 C dL_law_1403 ?_
  refine j_iconst C dL_law_1405 ?_
  refine j_iadd C dL_law_1406 ?_
  refine j_sldv C hX hb ⟨by omega, by omega⟩ hLs e1 dL_law_1407 ?_
  refine j_aload0 C dL_law_1408 ?_
  refine j_iload5 C dL_law_1409 ?_
  refine j_iconst C dL_law_1411 ?_
  refine j_iadd C dL_law_1412 ?_
  refine j_sldv C hX hb ⟨by omega, by omega⟩ hLs e2 dL_law_1413 ?_
  refine j_aload3 C dL_law_1414 ?_
  refine j_cW (as := [.ref (rl Γ 0), .int (iI v1), .int (iI v2), .ref (rl Γ 252)]) (S := []) C hK3 (s_loanOf hsl hI hM r1 r2) o_w_loanOf (show Lk RL 199 yL_loanOf from (WS_of 1036 (by decide +kernel))) ⟨by omega, by decide⟩ rfl rfl (Nat.le_of_ble_eq_true rfl) ⟨by omega, by omega⟩ dL_law_1415 ?_
  intro z W1 hz hP
  refine j_istore6 C rfl dL_law_1418 ?_
  refine j_aload2 C dL_law_1420 ?_
  refine j_aload0 C dL_law_1421 ?_
  refine j_iload5 C dL_law_1422 ?_
  refine j_iconst C dL_law_1424 ?_
  refine j_iadd C dL_law_1425 ?_
  refine j_sldv C hX hb ⟨by omega, by omega⟩ hLs e1 dL_law_1426 ?_
  refine j_aload0 C dL_law_1427 ?_
  refine j_iload5 C dL_law_1428 ?_
  refine j_iconst C dL_law_1430 ?_
  refine j_iadd C dL_law_1431 ?_
  refine j_sldv C hX hb ⟨by omega, by omega⟩ hLs e2 dL_law_1432 ?_
  refine j_cVI2 C hP oX9_loanOf (show Lk RL 201 yX9_loanOf from (WS_of 1865 (by decide +kernel))) ⟨_, rfl, rfl⟩ at_243 ⟨by decide, by decide⟩ rfl (Nat.le_of_ble_eq_true rfl) ⟨by omega, by omega⟩ dL_law_1433 ?_
  intro z2 W2 hz2 hAg
  refine j_istore7 C rfl dL_law_1436 ?_
  refine j_aload2 C dL_law_1438 ?_
  refine j_cVI0 C (c_X9_thrown hAg.1) oX9_thrown (show Lk RL 134 yX9_thrown from (WS_of 1579 (by decide +kernel))) ⟨_, rfl, rfl⟩ at_243 ⟨by decide, by decide⟩ rfl (Nat.le_of_ble_eq_true rfl) ⟨by omega, by omega⟩ dL_law_1439 ?_
  intro t W3 ht hT
  obtain ⟨rfl, rfl⟩ := hT
  refine j_iload6 C dL_law_1442 ?_
  refine j_icmp_eq C ht hz dL_law_1444 (fun _ => ?_) (fun q => absurd hAg.2.1 q)
  refine j_iload6 C dL_law_1449 ?_
  refine j_if_ne C hz dL_law_1451 (fun _ => ?_) (fun hk => ?_)
  · refine j_goto C dL_law_1466 ?_
    refine j_widen (ce' := ce + 2) (sl' := sl + 12) (by omega) (by omega) ?_
    exact kx _ _ _ _ _ hAg.2.2.2
  refine j_aload3 C dL_law_1454 ?_
  refine j_iconst C dL_law_1455 ?_
  refine j_lald C (hAg.2.2.1 hk) dL_law_1456 ?_
  refine j_iload7 C dL_law_1457 ?_
  refine j_i2l C hz2 dL_law_1459 ?_
  refine j_lcmp C dL_law_1460 ?_
  refine j_if_eq C ⟨by decide, by decide⟩ dL_law_1461 (fun _ => ?_) (fun q => absurd rfl q)
  refine j_goto C dL_law_1466 ?_
  refine j_widen (ce' := ce + 2) (sl' := sl + 12) (by omega) (by omega) ?_
  exact kx _ _ _ _ _ hAg.2.2.2
set_option maxRecDepth 100000 in
set_option maxHeartbeats 4000000 in
theorem L_22 {Γ : Ga} {p : Program} {l : Launch} {e : Env} {s : State} {m : MethodId} {args : Array Value} {below : List Frame} {meth : Method} {c : Code} {Q : State → Prop} {b Ls : Nat} {xs : Nat → Int32} {i v1 v2 M : Int} {ce sl : Nat} {ω : Wo} : Cs Γ p l e s m args below meth c Q b Ls xs i v1 v2 M ce sl 1469 ω := by
  intro u6 u7 u8 u9 C hK3 hsl hX hb hi hLs e1 e2 r1 r2 hI hM hce kx
  show J Γ p l e R9 s m args below meth c Q 254 ce sl 1469 [some (.ref b), some (.ref (rl Γ 0)), some (.ref (rl Γ 243)), some (.ref (rl Γ 252)), some (.ref (rl Γ 253)), some (.int (iI i)), u6, u7, u8, u9] [] ω
  refine j_aload1 C dL_law_1469 ?_
  refine j_cVI0 C (s_free hsl hI hM) oX8_free (show Lk RL 202 yX8_free from (WS_of 413 (by decide +kernel))) ⟨_, rfl, rfl⟩ at_0 ⟨by decide, by decide⟩ rfl (Nat.le_of_ble_eq_true rfl) ⟨by omega, by omega⟩ dL_law_1470 ?_
  intro z W1 hz hP
  refine j_aload2 C dL_law_1473 ?_
  refine j_cVI0 C hP oX9_free (show Lk RL 205 yX9_free from (WS_of 1869 (by decide +kernel))) ⟨_, rfl, rfl⟩ at_243 ⟨by decide, by decide⟩ rfl (Nat.le_of_ble_eq_true rfl) ⟨by omega, by omega⟩ dL_law_1474 ?_
  intro z2 W2 hz2 hQ
  obtain ⟨rfl, hQ2⟩ := hQ
  refine j_icmp_eq C hz hz dL_law_1477 (fun _ => ?_) (fun q => absurd rfl q)
  refine j_widen (ce' := ce + 2) (sl' := sl + 12) (by omega) (by omega) ?_
  exact kx W2 _ _ _ _ hQ2
set_option maxRecDepth 100000 in
set_option maxHeartbeats 4000000 in
theorem L_23 {Γ : Ga} {p : Program} {l : Launch} {e : Env} {s : State} {m : MethodId} {args : Array Value} {below : List Frame} {meth : Method} {c : Code} {Q : State → Prop} {b Ls : Nat} {xs : Nat → Int32} {i v1 v2 M : Int} {ce sl : Nat} {ω : Wo} : Cs Γ p l e s m args below meth c Q b Ls xs i v1 v2 M ce sl 1482 ω := by
  intro u6 u7 u8 u9 C hK3 hsl hX hb hi hLs e1 e2 r1 r2 hI hM hce kx
  show J Γ p l e R9 s m args below meth c Q 254 ce sl 1482 [some (.ref b), some (.ref (rl Γ 0)), some (.ref (rl Γ 243)), some (.ref (rl Γ 252)), some (.ref (rl Γ 253)), some (.int (iI i)), u6, u7, u8, u9] [] ω
  refine j_aload1 C dL_law_1482 ?_
  refine j_aload0 C dL_law_1483 ?_
  refine j_iload5 C dL_law_1484 ?_
  refine j_iconst C dL_law_1486 ?_
  refine j_iadd C dL_law_1487 ?_
  refine j_sldv C hX hb ⟨by omega, by omega⟩ hLs e1 dL_law_1488 ?_
  refine j_aload3 C dL_law_1489 ?_
  refine j_cW (as := [.ref (rl Γ 0), .int (iI v1), .ref (rl Γ 252)]) (S := []) C hK3 (s_least hsl hI hM r1) o_w_least (show Lk RL 206 yL_least from (WS_of 1046 (by decide +kernel))) ⟨by omega, by decide⟩ rfl rfl (Nat.le_of_ble_eq_true rfl) ⟨by omega, by omega⟩ dL_law_1490 ?_
  intro z W1 hz hP
  refine j_istore6 C rfl dL_law_1493 ?_
  refine j_aload2 C dL_law_1495 ?_
  refine j_aload0 C dL_law_1496 ?_
  refine j_iload5 C dL_law_1497 ?_
  refine j_iconst C dL_law_1499 ?_
  refine j_iadd C dL_law_1500 ?_
  refine j_sldv C hX hb ⟨by omega, by omega⟩ hLs e1 dL_law_1501 ?_
  refine j_cVI1 C hP oX9_least (show Lk RL 208 yX9_least from (WS_of 1873 (by decide +kernel))) ⟨_, rfl, rfl⟩ at_243 ⟨by decide, by decide⟩ rfl (Nat.le_of_ble_eq_true rfl) ⟨by omega, by omega⟩ dL_law_1502 ?_
  intro z2 W2 hz2 hAg
  refine j_istore7 C rfl dL_law_1505 ?_
  refine j_aload2 C dL_law_1507 ?_
  refine j_cVI0 C (c_X9_thrown hAg.1) oX9_thrown (show Lk RL 134 yX9_thrown from (WS_of 1579 (by decide +kernel))) ⟨_, rfl, rfl⟩ at_243 ⟨by decide, by decide⟩ rfl (Nat.le_of_ble_eq_true rfl) ⟨by omega, by omega⟩ dL_law_1508 ?_
  intro t W3 ht hT
  obtain ⟨rfl, rfl⟩ := hT
  refine j_iload6 C dL_law_1511 ?_
  refine j_icmp_eq C ht hz dL_law_1513 (fun _ => ?_) (fun q => absurd hAg.2.1 q)
  refine j_iload6 C dL_law_1518 ?_
  refine j_if_ne C hz dL_law_1520 (fun _ => ?_) (fun hk => ?_)
  · refine j_goto C dL_law_1535 ?_
    refine j_widen (ce' := ce + 2) (sl' := sl + 12) (by omega) (by omega) ?_
    exact kx _ _ _ _ _ hAg.2.2.2
  refine j_aload3 C dL_law_1523 ?_
  refine j_iconst C dL_law_1524 ?_
  refine j_lald C (hAg.2.2.1 hk) dL_law_1525 ?_
  refine j_iload7 C dL_law_1526 ?_
  refine j_i2l C hz2 dL_law_1528 ?_
  refine j_lcmp C dL_law_1529 ?_
  refine j_if_eq C ⟨by decide, by decide⟩ dL_law_1530 (fun _ => ?_) (fun q => absurd rfl q)
  refine j_goto C dL_law_1535 ?_
  refine j_widen (ce' := ce + 2) (sl' := sl + 12) (by omega) (by omega) ?_
  exact kx _ _ _ _ _ hAg.2.2.2
set_option maxRecDepth 100000 in
set_option maxHeartbeats 4000000 in
theorem L_24 {Γ : Ga} {p : Program} {l : Launch} {e : Env} {s : State} {m : MethodId} {args : Array Value} {below : List Frame} {meth : Method} {c : Code} {Q : State → Prop} {b Ls : Nat} {xs : Nat → Int32} {i v1 v2 M : Int} {ce sl : Nat} {ω : Wo} : Cs Γ p l e s m args below meth c Q b Ls xs i v1 v2 M ce sl 1538 ω := by
  intro u6 u7 u8 u9 C hK3 hsl hX hb hi hLs e1 e2 r1 r2 hI hM hce kx
  show J Γ p l e R9 s m args below meth c Q 254 ce sl 1538 [some (.ref b), some (.ref (rl Γ 0)), some (.ref (rl Γ 243)), some (.ref (rl Γ 252)), some (.ref (rl Γ 253)), some (.int (iI i)), u6, u7, u8, u9] [] ω
  refine j_aload1 C dL_law_1538 ?_
  refine j_aload0 C dL_law_1539 ?_
  refine j_iload5 C dL_law_1540 ?_
  refine j_iconst C dL_law_1542 ?_
  refine j_iadd C dL_law_1543 ?_
  refine j_sldv C hX hb ⟨by omega, by omega⟩ hLs e1 dL_law_1544 ?_
  refine j_aload3 C dL_law_1545 ?_
  refine j_cW (as := [.ref (rl Γ 0), .int (iI v1), .ref (rl Γ 252)]) (S := []) C hK3 (s_busiest hsl hI hM r1) o_w_busiest (show Lk RL 209 yL_busiest from (WS_of 1071 (by decide +kernel))) ⟨by omega, by decide⟩ rfl rfl (Nat.le_of_ble_eq_true rfl) ⟨by omega, by omega⟩ dL_law_1546 ?_
  intro z W1 hz hP
  refine j_istore6 C rfl dL_law_1549 ?_
  refine j_aload2 C dL_law_1551 ?_
  refine j_aload0 C dL_law_1552 ?_
  refine j_iload5 C dL_law_1553 ?_
  refine j_iconst C dL_law_1555 ?_
  refine j_iadd C dL_law_1556 ?_
  refine j_sldv C hX hb ⟨by omega, by omega⟩ hLs e1 dL_law_1557 ?_
  refine j_cVI1 C hP oX9_busiest (show Lk RL 211 yX9_busiest from (WS_of 1881 (by decide +kernel))) ⟨_, rfl, rfl⟩ at_243 ⟨by decide, by decide⟩ rfl (Nat.le_of_ble_eq_true rfl) ⟨by omega, by omega⟩ dL_law_1558 ?_
  intro z2 W2 hz2 hAg
  refine j_istore7 C rfl dL_law_1561 ?_
  refine j_aload2 C dL_law_1563 ?_
  refine j_cVI0 C (c_X9_thrown hAg.1) oX9_thrown (show Lk RL 134 yX9_thrown from (WS_of 1579 (by decide +kernel))) ⟨_, rfl, rfl⟩ at_243 ⟨by decide, by decide⟩ rfl (Nat.le_of_ble_eq_true rfl) ⟨by omega, by omega⟩ dL_law_1564 ?_
  intro t W3 ht hT
  obtain ⟨rfl, rfl⟩ := hT
  refine j_iload6 C dL_law_1567 ?_
  refine j_icmp_eq C ht hz dL_law_1569 (fun _ => ?_) (fun q => absurd hAg.2.1 q)
  refine j_iload6 C dL_law_1574 ?_
  refine j_if_ne C hz dL_law_1576 (fun _ => ?_) (fun hk => ?_)
  · refine j_goto C dL_law_1591 ?_
    refine j_widen (ce' := ce + 2) (sl' := sl + 12) (by omega) (by omega) ?_
    exact kx _ _ _ _ _ hAg.2.2.2
  refine j_aload3 C dL_law_1579 ?_
  refine j_iconst C dL_law_1580 ?_
  refine j_lald C (hAg.2.2.1 hk) dL_law_1581 ?_
  refine j_iload7 C dL_law_1582 ?_
  refine j_i2l C hz2 dL_law_1584 ?_
  refine j_lcmp C dL_law_1585 ?_
  refine j_if_eq C ⟨by decide, by decide⟩ dL_law_1586 (fun _ => ?_) (fun q => absurd rfl q)
  refine j_goto C dL_law_1591 ?_
  refine j_widen (ce' := ce + 2) (sl' := sl + 12) (by omega) (by omega) ?_
  exact kx _ _ _ _ _ hAg.2.2.2
set_option maxRecDepth 100000 in
set_option maxHeartbeats 4000000 in
theorem L_25 {Γ : Ga} {p : Program} {l : Launch} {e : Env} {s : State} {m : MethodId} {args : Array Value} {below : List Frame} {meth : Method} {c : Code} {Q : State → Prop} {b Ls : Nat} {xs : Nat → Int32} {i v1 v2 M : Int} {ce sl : Nat} {ω : Wo} : Cs Γ p l e s m args below meth c Q b Ls xs i v1 v2 M ce sl 1594 ω := by
  intro u6 u7 u8 u9 C hK3 hsl hX hb hi hLs e1 e2 r1 r2 hI hM hce kx
  show J Γ p l e R9 s m args below meth c Q 254 ce sl 1594 [some (.ref b), some (.ref (rl Γ 0)), some (.ref (rl Γ 243)), some (.ref (rl Γ 252)), some (.ref (rl Γ 253)), some (.int (iI i)), u6, u7, u8, u9] [] ω
  refine j_aload1 C dL_law_1594 ?_
  refine j_aload0 C dL_law_1595 ?_
  refine j_iload5 C dL_law_1596 ?_
  refine j_iconst C dL_law_1598 ?_
  refine j_iadd C dL_law_1599 ?_
  refine j_sldv C hX hb ⟨by omega, by omega⟩ hLs e1 dL_law_1600 ?_
  refine j_i2c C dL_law_1601 ?_
  refine j_aload3 C dL_law_1602 ?_
  refine j_cW (as := [.ref (rl Γ 0), .int (iI (v1 % 65536)), .ref (rl Γ 252)]) (S := []) C hK3 (s_append hsl hI hM ⟨by omega, by omega⟩) o_w_append (show Lk RL 212 yL_append from (WS_of 1079 (by decide +kernel))) ⟨by omega, by decide⟩ rfl rfl (Nat.le_of_ble_eq_true rfl) ⟨by omega, by omega⟩ dL_law_1603 ?_
  intro z W1 hz hP
  refine j_istore6 C rfl dL_law_1606 ?_
  refine j_aload2 C dL_law_1608 ?_
  refine j_aload0 C dL_law_1609 ?_
  refine j_iload5 C dL_law_1610 ?_
  refine j_iconst C dL_law_1612 ?_
  refine j_iadd C dL_law_1613 ?_
  refine j_sldv C hX hb ⟨by omega, by omega⟩ hLs e1 dL_law_1614 ?_
  refine j_i2c C dL_law_1615 ?_
  refine j_cVI1 C hP oX9_append (show Lk RL 215 yX9_append from (WS_of 1889 (by decide +kernel))) ⟨_, rfl, rfl⟩ at_243 ⟨by decide, by decide⟩ rfl (Nat.le_of_ble_eq_true rfl) ⟨by omega, by omega⟩ dL_law_1616 ?_
  intro z2 W2 hz2 hAg
  refine j_istore7 C rfl dL_law_1619 ?_
  refine j_aload2 C dL_law_1621 ?_
  refine j_cVI0 C (c_X9_thrown hAg.1) oX9_thrown (show Lk RL 134 yX9_thrown from (WS_of 1579 (by decide +kernel))) ⟨_, rfl, rfl⟩ at_243 ⟨by decide, by decide⟩ rfl (Nat.le_of_ble_eq_true rfl) ⟨by omega, by omega⟩ dL_law_1622 ?_
  intro t W3 ht hT
  obtain ⟨rfl, rfl⟩ := hT
  refine j_iload6 C dL_law_1625 ?_
  refine j_icmp_eq C ht hz dL_law_1627 (fun _ => ?_) (fun q => absurd hAg.2.1 q)
  refine j_iload6 C dL_law_1632 ?_
  refine j_if_ne C hz dL_law_1634 (fun _ => ?_) (fun hk => ?_)
  · refine j_goto C dL_law_1649 ?_
    refine j_widen (ce' := ce + 2) (sl' := sl + 12) (by omega) (by omega) ?_
    exact kx _ _ _ _ _ hAg.2.2.2
  refine j_aload3 C dL_law_1637 ?_
  refine j_iconst C dL_law_1638 ?_
  refine j_lald C (hAg.2.2.1 hk) dL_law_1639 ?_
  refine j_iload7 C dL_law_1640 ?_
  refine j_i2l C hz2 dL_law_1642 ?_
  refine j_lcmp C dL_law_1643 ?_
  refine j_if_eq C ⟨by decide, by decide⟩ dL_law_1644 (fun _ => ?_) (fun q => absurd rfl q)
  refine j_goto C dL_law_1649 ?_
  refine j_widen (ce' := ce + 2) (sl' := sl + 12) (by omega) (by omega) ?_
  exact kx _ _ _ _ _ hAg.2.2.2
