set_option maxRecDepth 100000 in
theorem lw_back {X : Cx} (C : Ok X RL cL_law 4 100 91) (hx : x_n X = 0) {i a1 a2 a3 a4 a5 : Int32} (ha : Arg (x_g X) i 1 a1 ∧ Arg (x_g X) i 2 a2 ∧ Arg (x_g X) i 3 a3 ∧ Arg (x_g X) i 4 a4 ∧ Arg (x_g X) i 5 a5) {I : Is} {J : Js} {b : Bool} (hR : Rel I J b) (k : ∀ I2 J2 b2, Rel I2 J2 b2 → Aw X 1506 (LwL i) [] (st9 I2 J2 b2)) : Aw X 1076 (LwL i) [] (st9 I J b) := by
  refine r_aload_n C dL_law_1076 rfl ?_
  refine cW (ci := 9) C hx (sX9_back (d := 99) (by decide) I J b) moX9_back mlL_129 miX9_back msX9_back dL_law_1077 rfl rfl rfl rfl rfl (by decide) rfl rfl (ki (fun v1 I1 q1 => ?_))
  have hi : HI I I1 := hi_back q1
  refine r_aload_n C dL_law_1080 rfl ?_
  refine cW (ci := 10) C hx (sX10_back (d := 99) (by decide) I1 J b) moX10_back mlL_132 miX10_back msX10_back dL_law_1081 rfl rfl rfl rfl rfl (by decide) rfl rfl (ki (fun v2 I2 q2 => ?_))
  have hc := c_back hR q1 q2
  exact r_iceq C (tgt := 1506) dL_law_1084 rfl (fun _ => k I2 J b hc.2) (fun h => absurd hc.1.symm h)
set_option maxRecDepth 100000 in
theorem lw_undo {X : Cx} (C : Ok X RL cL_law 4 100 91) (hx : x_n X = 0) {i a1 a2 a3 a4 a5 : Int32} (ha : Arg (x_g X) i 1 a1 ∧ Arg (x_g X) i 2 a2 ∧ Arg (x_g X) i 3 a3 ∧ Arg (x_g X) i 4 a4 ∧ Arg (x_g X) i 5 a5) {I : Is} {J : Js} {b : Bool} (hR : Rel I J b) (k : ∀ I2 J2 b2, Rel I2 J2 b2 → Aw X 1506 (LwL i) [] (st9 I2 J2 b2)) : Aw X 1089 (LwL i) [] (st9 I J b) := by
  refine r_aload_n C dL_law_1089 rfl ?_
  refine cW (ci := 9) C hx (sX9_undo (d := 99) (by decide) I J b (pc_d4 hR) (pc_un hR)) moX9_undo mlL_133 miX9_undo msX9_undo dL_law_1090 rfl rfl rfl rfl rfl (by decide) rfl rfl (ki (fun v1 I1 q1 => ?_))
  have hi : HI I I1 := by rw [q1.2]; exact hi_undo I
  refine r_aload_n C dL_law_1093 rfl ?_
  refine cW (ci := 10) C hx (sX10_undo (d := 99) (by decide) I1 J b (pm_d0 hR hi) (pm_d4 hR hi) (pm_un hR hi)) moX10_undo mlL_136 miX10_undo msX10_undo dL_law_1094 rfl rfl rfl rfl rfl (by decide) rfl rfl (ki (fun v2 I2 q2 => ?_))
  have hc := c_undo hR q1 q2
  exact r_iceq C (tgt := 1506) dL_law_1097 rfl (fun _ => k I2 J b hc.2) (fun h => absurd hc.1.symm h)
set_option maxRecDepth 100000 in
theorem lw_redo {X : Cx} (C : Ok X RL cL_law 4 100 91) (hx : x_n X = 0) {i a1 a2 a3 a4 a5 : Int32} (ha : Arg (x_g X) i 1 a1 ∧ Arg (x_g X) i 2 a2 ∧ Arg (x_g X) i 3 a3 ∧ Arg (x_g X) i 4 a4 ∧ Arg (x_g X) i 5 a5) {I : Is} {J : Js} {b : Bool} (hR : Rel I J b) (k : ∀ I2 J2 b2, Rel I2 J2 b2 → Aw X 1506 (LwL i) [] (st9 I2 J2 b2)) : Aw X 1102 (LwL i) [] (st9 I J b) := by
  refine r_aload_n C dL_law_1102 rfl ?_
  refine cW (ci := 9) C hx (sX9_redo (d := 99) (by decide) I J b (pc_d0 hR) (pc_m4 hR) (pc_re hR)) moX9_redo mlL_137 miX9_redo msX9_redo dL_law_1103 rfl rfl rfl rfl rfl (by decide) rfl rfl (ki (fun v1 I1 q1 => ?_))
  have hi : HI I I1 := by rw [q1.2]; exact hi_redo I
  refine r_aload_n C dL_law_1106 rfl ?_
  refine cW (ci := 10) C hx (sX10_redo (d := 99) (by decide) I1 J b (pm_d0 hR hi) (pm_d4 hR hi) (pm_rl hR hi) (pm_re hR hi)) moX10_redo mlL_140 miX10_redo msX10_redo dL_law_1107 rfl rfl rfl rfl rfl (by decide) rfl rfl (ki (fun v2 I2 q2 => ?_))
  have hc := c_redo hR q1 q2
  exact r_iceq C (tgt := 1506) dL_law_1110 rfl (fun _ => k I2 J b hc.2) (fun h => absurd hc.1.symm h)
set_option maxRecDepth 100000 in
theorem lw_body {X : Cx} (C : Ok X RL cL_law 4 100 91) (hx : x_n X = 0) {i a1 a2 a3 a4 a5 : Int32} (ha : Arg (x_g X) i 1 a1 ∧ Arg (x_g X) i 2 a2 ∧ Arg (x_g X) i 3 a3 ∧ Arg (x_g X) i 4 a4 ∧ Arg (x_g X) i 5 a5) {I : Is} {J : Js} {b : Bool} (hR : Rel I J b) (k : ∀ I2 J2 b2, Rel I2 J2 b2 → Aw X 1506 (LwL i) [] (st9 I2 J2 b2)) : Aw X 1115 (LwL i) [] (st9 I J b) := by
  refine r_aload_n C dL_law_1115 rfl ?_
  refine r_aload_n C dL_law_1116 rfl ?_
  refine r_iload_n C dL_law_1117 rfl ?_
  refine r_iconst C (v := 1) dL_law_1118 (by decide) ?_
  refine r_iadd C dL_law_1119 ?_
  refine r_arg C dL_law_1120 ha.1 ?_
  refine cW (ci := 9) C hx (sX9_body (d := 99) (by decide) _ I J b (pc_b0 hR)) moX9_body mlL_141 miX9_body msX9_body dL_law_1121 rfl rfl rfl rfl rfl (by decide) rfl rfl (ki (fun v1 I1 q1 => ?_))
  have hi : HI I I1 := by rw [q1.2]; exact hi_body I _
  refine r_aload_n C dL_law_1124 rfl ?_
  refine r_aload_n C dL_law_1125 rfl ?_
  refine r_iload_n C dL_law_1126 rfl ?_
  refine r_iconst C (v := 1) dL_law_1127 (by decide) ?_
  refine r_iadd C dL_law_1128 ?_
  refine r_arg C dL_law_1129 ha.1 ?_
  refine cW (ci := 10) C hx (sX10_body (d := 99) (by decide) _ I1 J b (pm_b0 hR hi) (pm_b5 hR hi)) moX10_body mlL_144 miX10_body msX10_body dL_law_1130 rfl rfl rfl rfl rfl (by decide) rfl rfl (ki (fun v2 I2 q2 => ?_))
  have hc := c_body hR q1 q2
  exact r_iceq C (tgt := 1506) dL_law_1133 rfl (fun _ => k I2 J b hc.2) (fun h => absurd hc.1.symm h)
set_option maxRecDepth 100000 in
theorem lw_act {X : Cx} (C : Ok X RL cL_law 4 100 91) (hx : x_n X = 0) {i a1 a2 a3 a4 a5 : Int32} (ha : Arg (x_g X) i 1 a1 ∧ Arg (x_g X) i 2 a2 ∧ Arg (x_g X) i 3 a3 ∧ Arg (x_g X) i 4 a4 ∧ Arg (x_g X) i 5 a5) {I : Is} {J : Js} {b : Bool} (hR : Rel I J b) (k : ∀ I2 J2 b2, Rel I2 J2 b2 → Aw X 1506 (LwL i) [] (st9 I2 J2 b2)) : Aw X 1138 (LwL i) [] (st9 I J b) := by
  refine r_aload_n C dL_law_1138 rfl ?_
  refine r_aload_n C dL_law_1139 rfl ?_
  refine r_iload_n C dL_law_1140 rfl ?_
  refine r_iconst C (v := 1) dL_law_1141 (by decide) ?_
  refine r_iadd C dL_law_1142 ?_
  refine r_arg C dL_law_1143 ha.1 ?_
  refine r_aload_n C dL_law_1144 rfl ?_
  refine r_iload_n C dL_law_1145 rfl ?_
  refine r_iconst C (v := 2) dL_law_1146 (by decide) ?_
  refine r_iadd C dL_law_1147 ?_
  refine r_arg C dL_law_1148 ha.2.1 ?_
  refine r_aload_n C dL_law_1149 rfl ?_
  refine r_iload_n C dL_law_1150 rfl ?_
  refine r_iconst C (v := 3) dL_law_1151 (by decide) ?_
  refine r_iadd C dL_law_1152 ?_
  refine r_arg C dL_law_1153 ha.2.2.1 ?_
  refine cW (ci := 9) C hx (sX9_act (d := 99) (by decide) _ _ _ I J b (pc_b5 hR)) moX9_act mlL_145 miX9_act msX9_act dL_law_1154 rfl rfl rfl rfl rfl (by decide) rfl rfl (ki (fun v1 I1 q1 => ?_))
  have hi : HI I I1 := by rw [q1.2]; exact hi_act I _ _ _
  refine r_aload_n C dL_law_1157 rfl ?_
  refine r_aload_n C dL_law_1158 rfl ?_
  refine r_iload_n C dL_law_1159 rfl ?_
  refine r_iconst C (v := 1) dL_law_1160 (by decide) ?_
  refine r_iadd C dL_law_1161 ?_
  refine r_arg C dL_law_1162 ha.1 ?_
  refine r_aload_n C dL_law_1163 rfl ?_
  refine r_iload_n C dL_law_1164 rfl ?_
  refine r_iconst C (v := 2) dL_law_1165 (by decide) ?_
  refine r_iadd C dL_law_1166 ?_
  refine r_arg C dL_law_1167 ha.2.1 ?_
  refine r_aload_n C dL_law_1168 rfl ?_
  refine r_iload_n C dL_law_1169 rfl ?_
  refine r_iconst C (v := 3) dL_law_1170 (by decide) ?_
  refine r_iadd C dL_law_1171 ?_
  refine r_arg C dL_law_1172 ha.2.2.1 ?_
  refine cW (ci := 10) C hx (sX10_act (d := 99) (by decide) _ _ _ I1 J b (pm_b0 hR hi) (pm_b5 hR hi)) moX10_act mlL_148 miX10_act msX10_act dL_law_1173 rfl rfl rfl rfl rfl (by decide) rfl rfl (ki (fun v2 I2 q2 => ?_))
  have hc := c_act hR q1 q2
  exact r_iceq C (tgt := 1506) dL_law_1176 rfl (fun _ => k I2 J b hc.2) (fun h => absurd hc.1.symm h)
set_option maxRecDepth 100000 in
theorem lw_trace {X : Cx} (C : Ok X RL cL_law 4 100 91) (hx : x_n X = 0) {i a1 a2 a3 a4 a5 : Int32} (ha : Arg (x_g X) i 1 a1 ∧ Arg (x_g X) i 2 a2 ∧ Arg (x_g X) i 3 a3 ∧ Arg (x_g X) i 4 a4 ∧ Arg (x_g X) i 5 a5) {I : Is} {J : Js} {b : Bool} (hR : Rel I J b) (k : ∀ I2 J2 b2, Rel I2 J2 b2 → Aw X 1506 (LwL i) [] (st9 I2 J2 b2)) : Aw X 1181 (LwL i) [] (st9 I J b) := by
  refine r_aload_n C dL_law_1181 rfl ?_
  refine r_aload_n C dL_law_1182 rfl ?_
  refine r_iload_n C dL_law_1183 rfl ?_
  refine r_iconst C (v := 1) dL_law_1184 (by decide) ?_
  refine r_iadd C dL_law_1185 ?_
  refine r_arg C dL_law_1186 ha.1 ?_
  refine cW (ci := 9) C hx (sX9_trace (d := 99) (by decide) _ I J b (pc_r0 hR)) moX9_trace mlL_149 miX9_trace msX9_trace dL_law_1187 rfl rfl rfl rfl rfl (by decide) rfl rfl (kp ?_)
  have hi : HI I I := HI.rf rfl
  refine r_aload_n C dL_law_1190 rfl ?_
  refine r_aload_n C dL_law_1191 rfl ?_
  refine r_iload_n C dL_law_1192 rfl ?_
  refine r_iconst C (v := 1) dL_law_1193 (by decide) ?_
  refine r_iadd C dL_law_1194 ?_
  refine r_arg C dL_law_1195 ha.1 ?_
  refine cW (ci := 10) C hx (sX10_trace (d := 99) (by decide) _ I J b) moX10_trace mlL_152 miX10_trace msX10_trace dL_law_1196 rfl rfl rfl rfl rfl (by decide) rfl rfl (kp ?_)
  have hc := c_trace (I1 := I) (I2 := I) (i := a1) hR ⟨rfl, rfl⟩ ⟨rfl, rfl⟩
  exact r_iceq C (tgt := 1506) dL_law_1199 rfl (fun _ => k I J b hc.2) (fun h => absurd hc.1.symm h)
set_option maxRecDepth 100000 in
theorem lw_keep {X : Cx} (C : Ok X RL cL_law 4 100 91) (hx : x_n X = 0) {i a1 a2 a3 a4 a5 : Int32} (ha : Arg (x_g X) i 1 a1 ∧ Arg (x_g X) i 2 a2 ∧ Arg (x_g X) i 3 a3 ∧ Arg (x_g X) i 4 a4 ∧ Arg (x_g X) i 5 a5) {I : Is} {J : Js} {b : Bool} (hR : Rel I J b) (k : ∀ I2 J2 b2, Rel I2 J2 b2 → Aw X 1506 (LwL i) [] (st9 I2 J2 b2)) : Aw X 1204 (LwL i) [] (st9 I J b) := by
  refine r_aload_n C dL_law_1204 rfl ?_
  refine r_aload_n C dL_law_1205 rfl ?_
  refine r_iload_n C dL_law_1206 rfl ?_
  refine r_iconst C (v := 1) dL_law_1207 (by decide) ?_
  refine r_iadd C dL_law_1208 ?_
  refine r_arg C dL_law_1209 ha.1 ?_
  refine r_aload_n C dL_law_1210 rfl ?_
  refine r_iload_n C dL_law_1211 rfl ?_
  refine r_iconst C (v := 2) dL_law_1212 (by decide) ?_
  refine r_iadd C dL_law_1213 ?_
  refine r_arg C dL_law_1214 ha.2.1 ?_
  refine cW (ci := 9) C hx (sX9_keep (d := 99) (by decide) _ _ I J b) moX9_keep mlL_153 miX9_keep msX9_keep dL_law_1215 rfl rfl rfl rfl rfl (by decide) rfl rfl (ki (fun v1 I1 q1 => ?_))
  have hi : HI I I1 := hi_keep q1
  refine r_aload_n C dL_law_1218 rfl ?_
  refine r_aload_n C dL_law_1219 rfl ?_
  refine r_iload_n C dL_law_1220 rfl ?_
  refine r_iconst C (v := 1) dL_law_1221 (by decide) ?_
  refine r_iadd C dL_law_1222 ?_
  refine r_arg C dL_law_1223 ha.1 ?_
  refine r_aload_n C dL_law_1224 rfl ?_
  refine r_iload_n C dL_law_1225 rfl ?_
  refine r_iconst C (v := 2) dL_law_1226 (by decide) ?_
  refine r_iadd C dL_law_1227 ?_
  refine r_arg C dL_law_1228 ha.2.1 ?_
  refine cW (ci := 10) C hx (sX10_keep (d := 99) (by decide) _ _ I1 J b (pm_b0 hR hi) (pm_b5 hR hi)) moX10_keep mlL_156 miX10_keep msX10_keep dL_law_1229 rfl rfl rfl rfl rfl (by decide) rfl rfl (ki (fun v2 I2 q2 => ?_))
  have hc := c_keep hR q1 q2
  exact r_iceq C (tgt := 1506) dL_law_1232 rfl (fun _ => k I2 J b hc.2) (fun h => absurd hc.1.symm h)
set_option maxRecDepth 100000 in
theorem lw_row {X : Cx} (C : Ok X RL cL_law 4 100 91) (hx : x_n X = 0) {i a1 a2 a3 a4 a5 : Int32} (ha : Arg (x_g X) i 1 a1 ∧ Arg (x_g X) i 2 a2 ∧ Arg (x_g X) i 3 a3 ∧ Arg (x_g X) i 4 a4 ∧ Arg (x_g X) i 5 a5) {I : Is} {J : Js} {b : Bool} (hR : Rel I J b) (k : ∀ I2 J2 b2, Rel I2 J2 b2 → Aw X 1506 (LwL i) [] (st9 I2 J2 b2)) : Aw X 1237 (LwL i) [] (st9 I J b) := by
  refine r_aload_n C dL_law_1237 rfl ?_
  refine r_aload_n C dL_law_1238 rfl ?_
  refine r_iload_n C dL_law_1239 rfl ?_
  refine r_iconst C (v := 1) dL_law_1240 (by decide) ?_
  refine r_iadd C dL_law_1241 ?_
  refine r_arg C dL_law_1242 ha.1 ?_
  refine r_aload_n C dL_law_1243 rfl ?_
  refine r_iload_n C dL_law_1244 rfl ?_
  refine r_iconst C (v := 2) dL_law_1245 (by decide) ?_
  refine r_iadd C dL_law_1246 ?_
  refine r_arg C dL_law_1247 ha.2.1 ?_
  refine r_aload_n C dL_law_1248 rfl ?_
  refine r_iload_n C dL_law_1249 rfl ?_
  refine r_iconst C (v := 3) dL_law_1250 (by decide) ?_
  refine r_iadd C dL_law_1251 ?_
  refine r_arg C dL_law_1252 ha.2.2.1 ?_
  refine cW (ci := 9) C hx (sX9_row (d := 99) (by decide) _ _ _ I J b) moX9_row mlL_157 miX9_row msX9_row dL_law_1253 rfl rfl rfl rfl rfl (by decide) rfl rfl (kg (fun r1 I1 J1 b1 q1 => ?_))
  have hb : b1 = b := by
    rcases q1 with q | q | q
    · exact q.2.2.2.2
    · exact q.2.2.2.2.2
    · exact q.2.2.2.1
  subst hb
  obtain ⟨v1, hr⟩ : ∃ v1, r1 = some (.int v1) := by
    rcases q1 with q | q | q
    · exact ⟨_, q.2.1⟩
    · exact ⟨_, q.2.2.1⟩
    · exact ⟨_, q.2.2.1⟩
  have q3 : (¬ (inR a1 5 ∧ inR a2 4 ∧ a3.toInt ≤ 60) ∧ r1 = some (.int (-1)) ∧ I1 = I ∧ J1 = J) ∨ ((inR a1 5 ∧ inR a2 4 ∧ a3.toInt ≤ 60) ∧ a3.toInt < 0 ∧ r1 = some (.int (-14)) ∧ I1 = I ∧ J1 = J) ∨ ((inR a1 5 ∧ inR a2 4 ∧ a3.toInt ≤ 60) ∧ 0 ≤ a3.toInt ∧ r1 = some (.int 1) ∧ I1 = u2 (u2 I (shT a1) 0 a2) (shT a1) 1 a3 ∧ (∀ q, q < 60 → J1 (shT a1 + 1) q = 0) ∧ ∀ c, c ≠ shT a1 + 1 → J1 c = J c) := by
    rcases q1 with ⟨x1, x2, x3, x4, -⟩ | ⟨x1, x2, x3, x4, x5, -⟩ | ⟨x1, x2, x3, -, x4, x5, x6⟩
    · exact Or.inl ⟨x1, x2, x3, x4⟩
    · exact Or.inr (Or.inl ⟨x1, x2, x3, x4, x5⟩)
    · exact Or.inr (Or.inr ⟨x1, x2, x3, x4, x5, x6⟩)
  have hi : HI I I1 := hi_row q3
  rw [hr]
  show Aw X 1256 (LwL i) [.int v1] (st9 I1 J1 b1)
  refine r_aload_n C dL_law_1256 rfl ?_
  refine r_aload_n C dL_law_1257 rfl ?_
  refine r_iload_n C dL_law_1258 rfl ?_
  refine r_iconst C (v := 1) dL_law_1259 (by decide) ?_
  refine r_iadd C dL_law_1260 ?_
  refine r_arg C dL_law_1261 ha.1 ?_
  refine r_aload_n C dL_law_1262 rfl ?_
  refine r_iload_n C dL_law_1263 rfl ?_
  refine r_iconst C (v := 2) dL_law_1264 (by decide) ?_
  refine r_iadd C dL_law_1265 ?_
  refine r_arg C dL_law_1266 ha.2.1 ?_
  refine r_aload_n C dL_law_1267 rfl ?_
  refine r_iload_n C dL_law_1268 rfl ?_
  refine r_iconst C (v := 3) dL_law_1269 (by decide) ?_
  refine r_iadd C dL_law_1270 ?_
  refine r_arg C dL_law_1271 ha.2.2.1 ?_
  refine cW (ci := 10) C hx (sX10_row (d := 99) (by decide) _ _ _ I1 J1 b1) moX10_row mlL_160 miX10_row msX10_row dL_law_1272 rfl rfl rfl rfl rfl (by decide) rfl rfl (kg (fun r2 I2 J2 b2 q2 => ?_))
  obtain ⟨hb, q2⟩ := q2
  subst hb
  have hc := c_row hR q3 q2
  rw [hc.1, hr]
  show Aw X 1275 (LwL i) [.int v1, .int v1] (st9 I2 J2 b2)
  exact r_iceq C (tgt := 1506) dL_law_1275 rfl (fun _ => k I2 J2 b2 hc.2) (fun h => absurd rfl h)
set_option maxRecDepth 100000 in
theorem lw_put {X : Cx} (C : Ok X RL cL_law 4 100 91) (hx : x_n X = 0) {i a1 a2 a3 a4 a5 : Int32} (ha : Arg (x_g X) i 1 a1 ∧ Arg (x_g X) i 2 a2 ∧ Arg (x_g X) i 3 a3 ∧ Arg (x_g X) i 4 a4 ∧ Arg (x_g X) i 5 a5) {I : Is} {J : Js} {b : Bool} (hR : Rel I J b) (k : ∀ I2 J2 b2, Rel I2 J2 b2 → Aw X 1506 (LwL i) [] (st9 I2 J2 b2)) : Aw X 1280 (LwL i) [] (st9 I J b) := by
  refine r_aload_n C dL_law_1280 rfl ?_
  refine r_aload_n C dL_law_1281 rfl ?_
  refine r_iload_n C dL_law_1282 rfl ?_
  refine r_iconst C (v := 1) dL_law_1283 (by decide) ?_
  refine r_iadd C dL_law_1284 ?_
  refine r_arg C dL_law_1285 ha.1 ?_
  refine r_aload_n C dL_law_1286 rfl ?_
  refine r_iload_n C dL_law_1287 rfl ?_
  refine r_iconst C (v := 2) dL_law_1288 (by decide) ?_
  refine r_iadd C dL_law_1289 ?_
  refine r_arg C dL_law_1290 ha.2.1 ?_
  refine r_aload_n C dL_law_1291 rfl ?_
  refine r_iload_n C dL_law_1292 rfl ?_
  refine r_iconst C (v := 3) dL_law_1293 (by decide) ?_
  refine r_iadd C dL_law_1294 ?_
  refine r_arg C dL_law_1295 ha.2.2.1 ?_
  refine r_i2l C dL_law_1296 ?_
  refine r_bipush C (v := 32) dL_law_1297 (by decide) ?_
  refine r_lshl C dL_law_1299 ?_
  refine r_aload_n C dL_law_1300 rfl ?_
  refine r_iload_n C dL_law_1301 rfl ?_
  refine r_iconst C (v := 4) dL_law_1302 (by decide) ?_
  refine r_iadd C dL_law_1303 ?_
  refine r_arg C dL_law_1304 ha.2.2.2.1 ?_
  refine r_i2l C dL_law_1305 ?_
  refine r_ldc2 C kkL_161 dL_law_1306 ?_
  refine r_land C dL_law_1309 ?_
  refine r_lor C dL_law_1310 ?_
  refine cW (ci := 9) C hx (sX9_put (d := 99) (by decide) _ _ _ I J b (pc_sz hR)) moX9_put mlL_163 miX9_put msX9_put dL_law_1311 rfl rfl rfl rfl rfl (by decide) rfl rfl (kg (fun r1 I1 J1 b1 q1 => ?_))
  obtain ⟨hI, hb, q1⟩ := q1
  subst hI hb
  have hi : HI I1 I1 := HI.rf rfl
  obtain ⟨v1, hr⟩ : ∃ v1, r1 = some (.int v1) := by rcases q1 with q | q <;> exact ⟨_, q.2.1⟩
  rw [hr]
  show Aw X 1314 (LwL i) [.int v1] (st9 I1 J1 b1)
  refine r_aload_n C dL_law_1314 rfl ?_
  refine r_aload_n C dL_law_1315 rfl ?_
  refine r_iload_n C dL_law_1316 rfl ?_
  refine r_iconst C (v := 1) dL_law_1317 (by decide) ?_
  refine r_iadd C dL_law_1318 ?_
  refine r_arg C dL_law_1319 ha.1 ?_
  refine r_aload_n C dL_law_1320 rfl ?_
  refine r_iload_n C dL_law_1321 rfl ?_
  refine r_iconst C (v := 2) dL_law_1322 (by decide) ?_
  refine r_iadd C dL_law_1323 ?_
  refine r_arg C dL_law_1324 ha.2.1 ?_
  refine r_aload_n C dL_law_1325 rfl ?_
  refine r_iload_n C dL_law_1326 rfl ?_
  refine r_iconst C (v := 3) dL_law_1327 (by decide) ?_
  refine r_iadd C dL_law_1328 ?_
  refine r_arg C dL_law_1329 ha.2.2.1 ?_
  refine r_i2l C dL_law_1330 ?_
  refine r_bipush C (v := 32) dL_law_1331 (by decide) ?_
  refine r_lshl C dL_law_1333 ?_
  refine r_aload_n C dL_law_1334 rfl ?_
  refine r_iload_n C dL_law_1335 rfl ?_
  refine r_iconst C (v := 4) dL_law_1336 (by decide) ?_
  refine r_iadd C dL_law_1337 ?_
  refine r_arg C dL_law_1338 ha.2.2.2.1 ?_
  refine r_i2l C dL_law_1339 ?_
  refine r_ldc2 C kkL_161 dL_law_1340 ?_
  refine r_land C dL_law_1343 ?_
  refine r_lor C dL_law_1344 ?_
  refine cW (ci := 10) C hx (sX10_put (d := 99) (by decide) _ _ _ I1 J1 b1 (pm_sz hR hi)) moX10_put mlL_167 miX10_put msX10_put dL_law_1345 rfl rfl rfl rfl rfl (by decide) rfl rfl (kg (fun r2 I2 J2 b2 q2 => ?_))
  obtain ⟨hI, hb, q2⟩ := q2
  subst hI hb
  have hc := c_put hR q1 q2
  rw [hc.1, hr]
  show Aw X 1348 (LwL i) [.int v1, .int v1] (st9 I2 J2 b2)
  exact r_iceq C (tgt := 1506) dL_law_1348 rfl (fun _ => k I2 J2 b2 hc.2) (fun h => absurd rfl h)
set_option maxRecDepth 100000 in
theorem lw_element {X : Cx} (C : Ok X RL cL_law 4 100 91) (hx : x_n X = 0) {i a1 a2 a3 a4 a5 : Int32} (ha : Arg (x_g X) i 1 a1 ∧ Arg (x_g X) i 2 a2 ∧ Arg (x_g X) i 3 a3 ∧ Arg (x_g X) i 4 a4 ∧ Arg (x_g X) i 5 a5) {I : Is} {J : Js} {b : Bool} (hR : Rel I J b) (k : ∀ I2 J2 b2, Rel I2 J2 b2 → Aw X 1506 (LwL i) [] (st9 I2 J2 b2)) : Aw X 1353 (LwL i) [] (st9 I J b) := by
  refine r_aload_n C dL_law_1353 rfl ?_
  refine r_aload_n C dL_law_1354 rfl ?_
  refine r_iload_n C dL_law_1355 rfl ?_
  refine r_iconst C (v := 1) dL_law_1356 (by decide) ?_
  refine r_iadd C dL_law_1357 ?_
  refine r_arg C dL_law_1358 ha.1 ?_
  refine r_aload_n C dL_law_1359 rfl ?_
  refine r_iload_n C dL_law_1360 rfl ?_
  refine r_iconst C (v := 2) dL_law_1361 (by decide) ?_
  refine r_iadd C dL_law_1362 ?_
  refine r_arg C dL_law_1363 ha.2.1 ?_
  refine cW (ci := 9) C hx (sX9_element (d := 99) (by decide) _ _ I J b (pc_sz hR)) moX9_element mlL_168 miX9_element msX9_element dL_law_1364 rfl rfl rfl rfl rfl (by decide) rfl rfl (kg (fun r1 I1 J1 b1 q1 => ?_))
  obtain ⟨hr, hI, hJ, hb⟩ := q1
  subst hI hJ hb hr
  have hi : HI I1 I1 := HI.rf rfl
  show Aw X 1367 (LwL i) [.long (elF I1 J1 a1 a2)] (st9 I1 J1 b1)
  refine r_aload_n C dL_law_1367 rfl ?_
  refine r_aload_n C dL_law_1368 rfl ?_
  refine r_iload_n C dL_law_1369 rfl ?_
  refine r_iconst C (v := 1) dL_law_1370 (by decide) ?_
  refine r_iadd C dL_law_1371 ?_
  refine r_arg C dL_law_1372 ha.1 ?_
  refine r_aload_n C dL_law_1373 rfl ?_
  refine r_iload_n C dL_law_1374 rfl ?_
  refine r_iconst C (v := 2) dL_law_1375 (by decide) ?_
  refine r_iadd C dL_law_1376 ?_
  refine r_arg C dL_law_1377 ha.2.1 ?_
  refine cW (ci := 10) C hx (sX10_element (d := 99) (by decide) _ _ I1 J1 b1 (pm_sz hR hi)) moX10_element mlL_172 miX10_element msX10_element dL_law_1378 rfl rfl rfl rfl rfl (by decide) rfl rfl (kg (fun r2 I2 J2 b2 q2 => ?_))
  obtain ⟨hI, hJ, hb, hr⟩ := q2
  subst hI hJ hb hr
  show Aw X 1381 (LwL i) [.long (elM I2 J2 a1 a2), .long (elF I2 J2 a1 a2)] (st9 I2 J2 b2)
  refine r_lcmp C dL_law_1381 ?_
  rw [c_element a1 a2 hR, lg_self]
  exact r_ifeq C (tgt := 1506) dL_law_1382 rfl (fun _ => k I2 J2 b2 hR) (fun h => absurd rfl h)
set_option maxRecDepth 100000 in
theorem lw_shift {X : Cx} (C : Ok X RL cL_law 4 100 91) (hx : x_n X = 0) {i a1 a2 a3 a4 a5 : Int32} (ha : Arg (x_g X) i 1 a1 ∧ Arg (x_g X) i 2 a2 ∧ Arg (x_g X) i 3 a3 ∧ Arg (x_g X) i 4 a4 ∧ Arg (x_g X) i 5 a5) {I : Is} {J : Js} {b : Bool} (hR : Rel I J b) (k : ∀ I2 J2 b2, Rel I2 J2 b2 → Aw X 1506 (LwL i) [] (st9 I2 J2 b2)) : Aw X 1387 (LwL i) [] (st9 I J b) := by
  refine r_aload_n C dL_law_1387 rfl ?_
  refine r_aload_n C dL_law_1388 rfl ?_
  refine r_iload_n C dL_law_1389 rfl ?_
  refine r_iconst C (v := 1) dL_law_1390 (by decide) ?_
  refine r_iadd C dL_law_1391 ?_
  refine r_arg C dL_law_1392 ha.1 ?_
  refine r_aload_n C dL_law_1393 rfl ?_
  refine r_iload_n C dL_law_1394 rfl ?_
  refine r_iconst C (v := 2) dL_law_1395 (by decide) ?_
  refine r_iadd C dL_law_1396 ?_
  refine r_arg C dL_law_1397 ha.2.1 ?_
  refine r_aload_n C dL_law_1398 rfl ?_
  refine r_iload_n C dL_law_1399 rfl ?_
  refine r_iconst C (v := 3) dL_law_1400 (by decide) ?_
  refine r_iadd C dL_law_1401 ?_
  refine r_arg C dL_law_1402 ha.2.2.1 ?_
  refine r_aload_n C dL_law_1403 rfl ?_
  refine r_iload_n C dL_law_1404 rfl ?_
  refine r_iconst C (v := 4) dL_law_1405 (by decide) ?_
  refine r_iadd C dL_law_1406 ?_
  refine r_arg C dL_law_1407 ha.2.2.2.1 ?_
  refine r_aload_n C dL_law_1408 rfl ?_
  refine r_iload_n C dL_law_1409 rfl ?_
  refine r_iconst C (v := 5) dL_law_1410 (by decide) ?_
  refine r_iadd C dL_law_1411 ?_
  refine r_arg C dL_law_1412 ha.2.2.2.2 ?_
  refine cW (ci := 9) C hx (sX9_shift (d := 99) (by decide) _ _ _ _ _ I J b (pc_sz hR)) moX9_shift mlL_173 miX9_shift msX9_shift dL_law_1413 rfl rfl rfl rfl rfl (by decide) rfl rfl (kg (fun r1 I1 J1 b1 q1 => ?_))
  obtain ⟨hI, hb, q1⟩ := q1
  subst hI hb
  have hi : HI I1 I1 := HI.rf rfl
  obtain ⟨v1, hr⟩ : ∃ v1, r1 = some (.int v1) := by
    rcases q1 with q | q | q | q | q
    · exact ⟨_, q.2.1⟩
    · exact ⟨_, q.2.2.1⟩
    · exact ⟨_, q.2.2.2.1⟩
    · exact ⟨_, q.2.2.2.2.1⟩
    · exact ⟨_, q.2.2.2.2.1⟩
  rw [hr]
  show Aw X 1416 (LwL i) [.int v1] (st9 I1 J1 b1)
  refine r_aload_n C dL_law_1416 rfl ?_
  refine r_aload_n C dL_law_1417 rfl ?_
  refine r_iload_n C dL_law_1418 rfl ?_
  refine r_iconst C (v := 1) dL_law_1419 (by decide) ?_
  refine r_iadd C dL_law_1420 ?_
  refine r_arg C dL_law_1421 ha.1 ?_
  refine r_aload_n C dL_law_1422 rfl ?_
  refine r_iload_n C dL_law_1423 rfl ?_
  refine r_iconst C (v := 2) dL_law_1424 (by decide) ?_
  refine r_iadd C dL_law_1425 ?_
  refine r_arg C dL_law_1426 ha.2.1 ?_
  refine r_aload_n C dL_law_1427 rfl ?_
  refine r_iload_n C dL_law_1428 rfl ?_
  refine r_iconst C (v := 3) dL_law_1429 (by decide) ?_
  refine r_iadd C dL_law_1430 ?_
  refine r_arg C dL_law_1431 ha.2.2.1 ?_
  refine r_aload_n C dL_law_1432 rfl ?_
  refine r_iload_n C dL_law_1433 rfl ?_
  refine r_iconst C (v := 4) dL_law_1434 (by decide) ?_
  refine r_iadd C dL_law_1435 ?_
  refine r_arg C dL_law_1436 ha.2.2.2.1 ?_
  refine r_aload_n C dL_law_1437 rfl ?_
  refine r_iload_n C dL_law_1438 rfl ?_
  refine r_iconst C (v := 5) dL_law_1439 (by decide) ?_
  refine r_iadd C dL_law_1440 ?_
  refine r_arg C dL_law_1441 ha.2.2.2.2 ?_
  refine cW (ci := 10) C hx (sX10_shift (d := 99) (by decide) _ _ _ _ _ I1 J1 b1 (pm_sz hR hi)) moX10_shift mlL_177 miX10_shift msX10_shift dL_law_1442 rfl rfl rfl rfl rfl (by decide) rfl rfl (kg (fun r2 I2 J2 b2 q2 => ?_))
  have hc := c_shift (b1 := b1) (IA := I1) hR ⟨rfl, rfl, q1⟩ q2
  rw [hc.1, hr]
  show Aw X 1445 (LwL i) [.int v1, .int v1] (st9 I2 J2 b2)
  exact r_iceq C (tgt := 1506) dL_law_1445 rfl (fun _ => k I2 J2 b2 hc.2) (fun h => absurd rfl h)
set_option maxRecDepth 100000 in
theorem lw_taken {X : Cx} (C : Ok X RL cL_law 4 100 91) (hx : x_n X = 0) {i a1 a2 a3 a4 a5 : Int32} (ha : Arg (x_g X) i 1 a1 ∧ Arg (x_g X) i 2 a2 ∧ Arg (x_g X) i 3 a3 ∧ Arg (x_g X) i 4 a4 ∧ Arg (x_g X) i 5 a5) {I : Is} {J : Js} {b : Bool} (hR : Rel I J b) (k : ∀ I2 J2 b2, Rel I2 J2 b2 → Aw X 1506 (LwL i) [] (st9 I2 J2 b2)) : Aw X 1450 (LwL i) [] (st9 I J b) := by
  refine r_aload_n C dL_law_1450 rfl ?_
  refine r_aload_n C dL_law_1451 rfl ?_
  refine r_iload_n C dL_law_1452 rfl ?_
  refine r_iconst C (v := 1) dL_law_1453 (by decide) ?_
  refine r_iadd C dL_law_1454 ?_
  refine r_arg C dL_law_1455 ha.1 ?_
  refine r_aload_n C dL_law_1456 rfl ?_
  refine r_iload_n C dL_law_1457 rfl ?_
  refine r_iconst C (v := 2) dL_law_1458 (by decide) ?_
  refine r_iadd C dL_law_1459 ?_
  refine r_arg C dL_law_1460 ha.2.1 ?_
  refine cW (ci := 9) C hx (sX9_taken (d := 99) (by decide) _ _ I J b (pc_b5 hR)) moX9_taken mlL_178 miX9_taken msX9_taken dL_law_1461 rfl rfl rfl rfl rfl (by decide) rfl rfl (ki (fun v1 I1 q1 => ?_))
  have hi : HI I I1 := hi_taken q1
  refine r_aload_n C dL_law_1464 rfl ?_
  refine r_aload_n C dL_law_1465 rfl ?_
  refine r_iload_n C dL_law_1466 rfl ?_
  refine r_iconst C (v := 1) dL_law_1467 (by decide) ?_
  refine r_iadd C dL_law_1468 ?_
  refine r_arg C dL_law_1469 ha.1 ?_
  refine r_aload_n C dL_law_1470 rfl ?_
  refine r_iload_n C dL_law_1471 rfl ?_
  refine r_iconst C (v := 2) dL_law_1472 (by decide) ?_
  refine r_iadd C dL_law_1473 ?_
  refine r_arg C dL_law_1474 ha.2.1 ?_
  refine cW (ci := 10) C hx (sX10_taken (d := 99) (by decide) _ _ I1 J b (pm_kd hR hi)) moX10_taken mlL_181 miX10_taken msX10_taken dL_law_1475 rfl rfl rfl rfl rfl (by decide) rfl rfl (kp ?_)
  have hc := c_taken (IA := I1) (IB := I1) (k := a1) (w := a2) hR q1 ⟨rfl, rfl⟩
  exact r_iceq C (tgt := 1506) dL_law_1478 rfl (fun _ => k I1 J b hc.2) (fun h => absurd hc.1.symm h)
set_option maxRecDepth 100000 in
theorem lw_count {X : Cx} (C : Ok X RL cL_law 4 100 91) (hx : x_n X = 0) {i a1 a2 a3 a4 a5 : Int32} (ha : Arg (x_g X) i 1 a1 ∧ Arg (x_g X) i 2 a2 ∧ Arg (x_g X) i 3 a3 ∧ Arg (x_g X) i 4 a4 ∧ Arg (x_g X) i 5 a5) {I : Is} {J : Js} {b : Bool} (hR : Rel I J b) (k : ∀ I2 J2 b2, Rel I2 J2 b2 → Aw X 1506 (LwL i) [] (st9 I2 J2 b2)) : Aw X 1483 (LwL i) [] (st9 I J b) := by
  refine r_aload_n C dL_law_1483 rfl ?_
  refine r_aload_n C dL_law_1484 rfl ?_
  refine r_iload_n C dL_law_1485 rfl ?_
  refine r_iconst C (v := 1) dL_law_1486 (by decide) ?_
  refine r_iadd C dL_law_1487 ?_
  refine r_arg C dL_law_1488 ha.1 ?_
  refine cW (ci := 9) C hx (sX9_count (d := 99) (by decide) _ I J b) moX9_count mlL_182 miX9_count msX9_count dL_law_1489 rfl rfl rfl rfl rfl (by decide) rfl rfl (kp ?_)
  have hi : HI I I := HI.rf rfl
  refine r_aload_n C dL_law_1492 rfl ?_
  refine r_aload_n C dL_law_1493 rfl ?_
  refine r_iload_n C dL_law_1494 rfl ?_
  refine r_iconst C (v := 1) dL_law_1495 (by decide) ?_
  refine r_iadd C dL_law_1496 ?_
  refine r_arg C dL_law_1497 ha.1 ?_
  refine cW (ci := 10) C hx (sX10_count (d := 99) (by decide) _ I J b) moX10_count mlL_185 miX10_count msX10_count dL_law_1498 rfl rfl rfl rfl rfl (by decide) rfl rfl (kp ?_)
  have hc := c_count (I1 := I) (I2 := I) (w := a1) hR ⟨rfl, rfl⟩ ⟨rfl, rfl⟩
  exact r_iceq C (tgt := 1506) dL_law_1501 rfl (fun _ => k I J b hc.2) (fun h => absurd hc.1.symm h)
