variable {G : GG} {base : Nat}
set_option maxHeartbeats 4000000 in
set_option maxRecDepth 20000 in
theorem law_18 {X : Cx} {b L : Nat} {xs : Nat → Int32} (hX : okL G base X) (hnc : ncX X) (hsc : scX X base b L xs) : Case G base X b L xs 1104 := by
  intro M x r o T i cs sl σ h hT hi hL9 hcs hsl K
  show J G base X cs sl M 1104 (lcs b x r o i) []
  refine r_aload_n hX dL_law_1104 rfl ?_
  refine r_aload_n hX dL_law_1105 rfl ?_
  refine r_iload hX dL_law_1106 rfl ?_
  refine r_iconst (v := nI 1) hX dL_law_1108 (by decide) ?_
  refine rn_iadd hX dL_law_1109 rfl rfl ?_
  refine r_sld hX hsc dL_law_1110 (by omega) hL9 ?_
  refine r_aload_n hX dL_law_1111 rfl ?_
  refine r_callH (As := [.ref x, .int (xs (i + 1)), .ref o]) (rest := []) hX hnc dL_law_1112 IH_sackValue ml_L_208 rfl (t_L_sackValue h.lx h.ci h.gs.1 (by omega) h.so h.xo h.nt) (by decide) hcs hsl (by decide) rfl (Nat.le_of_ble_eq_true rfl) (fun v N hp => ?_) (fun E N hp => by obtain ⟨kk, h1, -⟩ := hp; cases h1)
  obtain ⟨kk, hv, hk1, hk2, hk3, hk4, hCN, hr⟩ := hp
  cases hv
  have hLN := h.l11 hk2
  have hRN := h.ri hk4
  refine r_istore5 hX dL_law_1115 rfl ?_
  refine r_aload_n hX dL_law_1117 rfl ?_
  refine r_aload_n hX dL_law_1118 rfl ?_
  refine r_iload hX dL_law_1119 rfl ?_
  refine r_iconst (v := nI 1) hX dL_law_1121 (by decide) ?_
  refine rn_iadd hX dL_law_1122 rfl rfl ?_
  refine r_sld hX hsc dL_law_1123 (by omega) hL9 ?_
  refine r_vV1 hX dL_law_1124 IX11_sackValue ml_L_210 rfl (LX11_s hLN) rfl (t_X11_sackValue hLN hRN h.gs.1 (by omega)) (by decide) (by omega) (by omega) (by decide) rfl (Nat.le_of_ble_eq_true rfl) (fun v2 i2 hq => ?_)
  show J G base X _ _ (wI N i2) _ _ _
  obtain ⟨hfin, hth, hval⟩ := lawfin h hk1 hk2 hk3 hCN hr hq (h.gs.mono (show T ≤ T + 168 by omega))
  refine r_istore6 hX dL_law_1127 rfl ?_
  refine r_aload_n hX dL_law_1129 rfl ?_
  refine r_cV0 hX dL_law_1130 IX11_thrown ml_L_153 rfl (LX11_s hLN) rfl (t_X11_thrown (M := wI N i2) hLN) (by decide) (by omega) (by omega) (by decide) rfl (Nat.le_of_ble_eq_true rfl) ?_
  refine r_iload hX dL_law_1133 rfl ?_
  refine r_icmp_eq (tgt := 1140) hX dL_law_1135 (by decide) (fun _ => ?_) (fun z => absurd hth z)
  refine r_iload hX dL_law_1140 rfl ?_
  refine r_if_ne (tgt := 1157) hX dL_law_1142 (by decide) (fun _ => ?_) (fun c0 => ?_)
  · refine r_goto (tgt := 2758) hX dL_law_1157 (by decide) ?_
    exact J.junk (K _ _ hfin) (by repeat first | exact trivial | refine ⟨rfl, ?_⟩)
  · refine r_aload_n hX dL_law_1145 rfl ?_
    refine r_iconst (v := nI 0) hX dL_law_1146 (by decide) ?_
    refine r_lald (n := 1) hX dL_law_1147 (h.on hk2) (vp_in_nI (by omega) (by omega)) ?_
    rw [nI_clamp (by omega)]
    refine r_iload hX dL_law_1148 rfl ?_
    refine r_i2l hX dL_law_1150 ?_
    refine r_lcmp hX dL_law_1151 ?_
    refine r_if_eq (tgt := 1157) hX dL_law_1152 (by decide) (fun _ => ?_) (fun z => absurd ((lg_cmp_eq _ _).mpr (hval c0)) z)
    refine r_goto (tgt := 2758) hX dL_law_1157 (by decide) ?_
    exact J.junk (K _ _ hfin) (by repeat first | exact trivial | refine ⟨rfl, ?_⟩)
set_option maxHeartbeats 4000000 in
set_option maxRecDepth 20000 in
theorem law_19 {X : Cx} {b L : Nat} {xs : Nat → Int32} (hX : okL G base X) (hnc : ncX X) (hsc : scX X base b L xs) : Case G base X b L xs 1160 := by
  intro M x r o T i cs sl σ h hT hi hL9 hcs hsl K
  show J G base X cs sl M 1160 (lcs b x r o i) []
  refine r_aload_n hX dL_law_1160 rfl ?_
  refine r_aload_n hX dL_law_1161 rfl ?_
  refine r_iload hX dL_law_1162 rfl ?_
  refine r_iconst (v := nI 1) hX dL_law_1164 (by decide) ?_
  refine rn_iadd hX dL_law_1165 rfl rfl ?_
  refine r_sld hX hsc dL_law_1166 (by omega) hL9 ?_
  refine r_aload_n hX dL_law_1167 rfl ?_
  refine r_callH (As := [.ref x, .int (xs (i + 1)), .ref o]) (rest := []) hX hnc dL_law_1168 IH_officeCount ml_L_211 rfl (t_L_officeCount h.lx h.ci h.gs.1 (by omega) h.so h.xo h.nt) (by decide) hcs hsl (by decide) rfl (Nat.le_of_ble_eq_true rfl) (fun v N hp => ?_) (fun E N hp => by obtain ⟨kk, h1, -⟩ := hp; cases h1)
  obtain ⟨kk, hv, hk1, hk2, hk3, hk4, hCN, hr⟩ := hp
  cases hv
  have hLN := h.l11 hk2
  have hRN := h.ri hk4
  refine r_istore5 hX dL_law_1171 rfl ?_
  refine r_aload_n hX dL_law_1173 rfl ?_
  refine r_aload_n hX dL_law_1174 rfl ?_
  refine r_iload hX dL_law_1175 rfl ?_
  refine r_iconst (v := nI 1) hX dL_law_1177 (by decide) ?_
  refine rn_iadd hX dL_law_1178 rfl rfl ?_
  refine r_sld hX hsc dL_law_1179 (by omega) hL9 ?_
  refine r_vV1 hX dL_law_1180 IX11_officeCount ml_L_213 rfl (LX11_s hLN) rfl (t_X11_officeCount hLN hRN h.gs.1 (by omega)) (by decide) (by omega) (by omega) (by decide) rfl (Nat.le_of_ble_eq_true rfl) (fun v2 i2 hq => ?_)
  show J G base X _ _ (wI N i2) _ _ _
  obtain ⟨hfin, hth, hval⟩ := lawfin h hk1 hk2 hk3 hCN hr hq (h.gs.mono (show T ≤ T + 168 by omega))
  refine r_istore6 hX dL_law_1183 rfl ?_
  refine r_aload_n hX dL_law_1185 rfl ?_
  refine r_cV0 hX dL_law_1186 IX11_thrown ml_L_153 rfl (LX11_s hLN) rfl (t_X11_thrown (M := wI N i2) hLN) (by decide) (by omega) (by omega) (by decide) rfl (Nat.le_of_ble_eq_true rfl) ?_
  refine r_iload hX dL_law_1189 rfl ?_
  refine r_icmp_eq (tgt := 1196) hX dL_law_1191 (by decide) (fun _ => ?_) (fun z => absurd hth z)
  refine r_iload hX dL_law_1196 rfl ?_
  refine r_if_ne (tgt := 1213) hX dL_law_1198 (by decide) (fun _ => ?_) (fun c0 => ?_)
  · refine r_goto (tgt := 2758) hX dL_law_1213 (by decide) ?_
    exact J.junk (K _ _ hfin) (by repeat first | exact trivial | refine ⟨rfl, ?_⟩)
  · refine r_aload_n hX dL_law_1201 rfl ?_
    refine r_iconst (v := nI 0) hX dL_law_1202 (by decide) ?_
    refine r_lald (n := 1) hX dL_law_1203 (h.on hk2) (vp_in_nI (by omega) (by omega)) ?_
    rw [nI_clamp (by omega)]
    refine r_iload hX dL_law_1204 rfl ?_
    refine r_i2l hX dL_law_1206 ?_
    refine r_lcmp hX dL_law_1207 ?_
    refine r_if_eq (tgt := 1213) hX dL_law_1208 (by decide) (fun _ => ?_) (fun z => absurd ((lg_cmp_eq _ _).mpr (hval c0)) z)
    refine r_goto (tgt := 2758) hX dL_law_1213 (by decide) ?_
    exact J.junk (K _ _ hfin) (by repeat first | exact trivial | refine ⟨rfl, ?_⟩)
set_option maxHeartbeats 4000000 in
set_option maxRecDepth 20000 in
theorem law_20 {X : Cx} {b L : Nat} {xs : Nat → Int32} (hX : okL G base X) (hnc : ncX X) (hsc : scX X base b L xs) : Case G base X b L xs 1216 := by
  intro M x r o T i cs sl σ h hT hi hL9 hcs hsl K
  show J G base X cs sl M 1216 (lcs b x r o i) []
  refine r_aload_n hX dL_law_1216 rfl ?_
  refine r_aload_n hX dL_law_1217 rfl ?_
  refine r_iload hX dL_law_1218 rfl ?_
  refine r_iconst (v := nI 1) hX dL_law_1220 (by decide) ?_
  refine rn_iadd hX dL_law_1221 rfl rfl ?_
  refine r_sld hX hsc dL_law_1222 (by omega) hL9 ?_
  refine r_aload_n hX dL_law_1223 rfl ?_
  refine r_iload hX dL_law_1224 rfl ?_
  refine r_iconst (v := nI 2) hX dL_law_1226 (by decide) ?_
  refine rn_iadd hX dL_law_1227 rfl rfl ?_
  refine r_sld hX hsc dL_law_1228 (by omega) hL9 ?_
  refine r_aload_n hX dL_law_1229 rfl ?_
  refine r_callH (As := [.ref x, .int (xs (i + 1)), .int (xs (i + 2)), .ref o]) (rest := []) hX hnc dL_law_1230 IH_officeLetter ml_L_214 rfl (t_L_officeLetter h.lx h.ci h.gs.1 (by omega) h.so h.xo h.nt) (by decide) hcs hsl (by decide) rfl (Nat.le_of_ble_eq_true rfl) (fun v N hp => ?_) (fun E N hp => by obtain ⟨kk, h1, -⟩ := hp; cases h1)
  obtain ⟨kk, hv, hk1, hk2, hk3, hk4, hCN, hr⟩ := hp
  cases hv
  have hLN := h.l11 hk2
  have hRN := h.ri hk4
  refine r_istore5 hX dL_law_1233 rfl ?_
  refine r_aload_n hX dL_law_1235 rfl ?_
  refine r_aload_n hX dL_law_1236 rfl ?_
  refine r_iload hX dL_law_1237 rfl ?_
  refine r_iconst (v := nI 1) hX dL_law_1239 (by decide) ?_
  refine rn_iadd hX dL_law_1240 rfl rfl ?_
  refine r_sld hX hsc dL_law_1241 (by omega) hL9 ?_
  refine r_aload_n hX dL_law_1242 rfl ?_
  refine r_iload hX dL_law_1243 rfl ?_
  refine r_iconst (v := nI 2) hX dL_law_1245 (by decide) ?_
  refine rn_iadd hX dL_law_1246 rfl rfl ?_
  refine r_sld hX hsc dL_law_1247 (by omega) hL9 ?_
  refine r_vV2 hX dL_law_1248 IX11_officeLetter ml_L_216 rfl (LX11_s hLN) rfl (t_X11_officeLetter hLN hRN h.gs.1 (by omega)) (by decide) (by omega) (by omega) (by decide) rfl (Nat.le_of_ble_eq_true rfl) (fun v2 i2 hq => ?_)
  show J G base X _ _ (wI N i2) _ _ _
  obtain ⟨hfin, hth, hval⟩ := lawfin h hk1 hk2 hk3 hCN hr hq (h.gs.mono (show T ≤ T + 168 by omega))
  refine r_istore6 hX dL_law_1251 rfl ?_
  refine r_aload_n hX dL_law_1253 rfl ?_
  refine r_cV0 hX dL_law_1254 IX11_thrown ml_L_153 rfl (LX11_s hLN) rfl (t_X11_thrown (M := wI N i2) hLN) (by decide) (by omega) (by omega) (by decide) rfl (Nat.le_of_ble_eq_true rfl) ?_
  refine r_iload hX dL_law_1257 rfl ?_
  refine r_icmp_eq (tgt := 1264) hX dL_law_1259 (by decide) (fun _ => ?_) (fun z => absurd hth z)
  refine r_iload hX dL_law_1264 rfl ?_
  refine r_if_ne (tgt := 1281) hX dL_law_1266 (by decide) (fun _ => ?_) (fun c0 => ?_)
  · refine r_goto (tgt := 2758) hX dL_law_1281 (by decide) ?_
    exact J.junk (K _ _ hfin) (by repeat first | exact trivial | refine ⟨rfl, ?_⟩)
  · refine r_aload_n hX dL_law_1269 rfl ?_
    refine r_iconst (v := nI 0) hX dL_law_1270 (by decide) ?_
    refine r_lald (n := 1) hX dL_law_1271 (h.on hk2) (vp_in_nI (by omega) (by omega)) ?_
    rw [nI_clamp (by omega)]
    refine r_iload hX dL_law_1272 rfl ?_
    refine r_i2l hX dL_law_1274 ?_
    refine r_lcmp hX dL_law_1275 ?_
    refine r_if_eq (tgt := 1281) hX dL_law_1276 (by decide) (fun _ => ?_) (fun z => absurd ((lg_cmp_eq _ _).mpr (hval c0)) z)
    refine r_goto (tgt := 2758) hX dL_law_1281 (by decide) ?_
    exact J.junk (K _ _ hfin) (by repeat first | exact trivial | refine ⟨rfl, ?_⟩)
set_option maxHeartbeats 4000000 in
set_option maxRecDepth 20000 in
theorem law_21 {X : Cx} {b L : Nat} {xs : Nat → Int32} (hX : okL G base X) (hnc : ncX X) (hsc : scX X base b L xs) : Case G base X b L xs 1284 := by
  intro M x r o T i cs sl σ h hT hi hL9 hcs hsl K
  show J G base X cs sl M 1284 (lcs b x r o i) []
  refine r_aload_n hX dL_law_1284 rfl ?_
  refine r_aload_n hX dL_law_1285 rfl ?_
  refine r_iload hX dL_law_1286 rfl ?_
  refine r_iconst (v := nI 1) hX dL_law_1288 (by decide) ?_
  refine rn_iadd hX dL_law_1289 rfl rfl ?_
  refine r_sld hX hsc dL_law_1290 (by omega) hL9 ?_
  refine r_aload_n hX dL_law_1291 rfl ?_
  refine r_iload hX dL_law_1292 rfl ?_
  refine r_iconst (v := nI 2) hX dL_law_1294 (by decide) ?_
  refine rn_iadd hX dL_law_1295 rfl rfl ?_
  refine r_sld hX hsc dL_law_1296 (by omega) hL9 ?_
  refine r_aload_n hX dL_law_1297 rfl ?_
  refine r_callH (As := [.ref x, .int (xs (i + 1)), .int (xs (i + 2)), .ref o]) (rest := []) hX hnc dL_law_1298 IH_letter ml_L_217 rfl (t_L_letter h.lx h.ci h.gs.1 (by omega) h.so h.xo h.nt) (by decide) hcs hsl (by decide) rfl (Nat.le_of_ble_eq_true rfl) (fun v N hp => ?_) (fun E N hp => by obtain ⟨kk, h1, -⟩ := hp; cases h1)
  obtain ⟨kk, hv, hk1, hk2, hk3, hk4, hCN, hr⟩ := hp
  cases hv
  have hLN := h.l11 hk2
  have hRN := h.ri hk4
  refine r_istore5 hX dL_law_1301 rfl ?_
  refine r_aload_n hX dL_law_1303 rfl ?_
  refine r_aload_n hX dL_law_1304 rfl ?_
  refine r_iload hX dL_law_1305 rfl ?_
  refine r_iconst (v := nI 1) hX dL_law_1307 (by decide) ?_
  refine rn_iadd hX dL_law_1308 rfl rfl ?_
  refine r_sld hX hsc dL_law_1309 (by omega) hL9 ?_
  refine r_aload_n hX dL_law_1310 rfl ?_
  refine r_iload hX dL_law_1311 rfl ?_
  refine r_iconst (v := nI 2) hX dL_law_1313 (by decide) ?_
  refine rn_iadd hX dL_law_1314 rfl rfl ?_
  refine r_sld hX hsc dL_law_1315 (by omega) hL9 ?_
  refine r_vV2 hX dL_law_1316 IX11_letter ml_L_219 rfl (LX11_s hLN) rfl (t_X11_letter hLN hRN h.gs.1 (by omega)) (by decide) (by omega) (by omega) (by decide) rfl (Nat.le_of_ble_eq_true rfl) (fun v2 i2 hq => ?_)
  show J G base X _ _ (wI N i2) _ _ _
  obtain ⟨hfin, hth, hval⟩ := lawfin h hk1 hk2 hk3 hCN hr hq (h.gs.mono (show T ≤ T + 168 by omega))
  refine r_istore6 hX dL_law_1319 rfl ?_
  refine r_aload_n hX dL_law_1321 rfl ?_
  refine r_cV0 hX dL_law_1322 IX11_thrown ml_L_153 rfl (LX11_s hLN) rfl (t_X11_thrown (M := wI N i2) hLN) (by decide) (by omega) (by omega) (by decide) rfl (Nat.le_of_ble_eq_true rfl) ?_
  refine r_iload hX dL_law_1325 rfl ?_
  refine r_icmp_eq (tgt := 1332) hX dL_law_1327 (by decide) (fun _ => ?_) (fun z => absurd hth z)
  refine r_iload hX dL_law_1332 rfl ?_
  refine r_if_ne (tgt := 1349) hX dL_law_1334 (by decide) (fun _ => ?_) (fun c0 => ?_)
  · refine r_goto (tgt := 2758) hX dL_law_1349 (by decide) ?_
    exact J.junk (K _ _ hfin) (by repeat first | exact trivial | refine ⟨rfl, ?_⟩)
  · refine r_aload_n hX dL_law_1337 rfl ?_
    refine r_iconst (v := nI 0) hX dL_law_1338 (by decide) ?_
    refine r_lald (n := 1) hX dL_law_1339 (h.on hk2) (vp_in_nI (by omega) (by omega)) ?_
    rw [nI_clamp (by omega)]
    refine r_iload hX dL_law_1340 rfl ?_
    refine r_i2l hX dL_law_1342 ?_
    refine r_lcmp hX dL_law_1343 ?_
    refine r_if_eq (tgt := 1349) hX dL_law_1344 (by decide) (fun _ => ?_) (fun z => absurd ((lg_cmp_eq _ _).mpr (hval c0)) z)
    refine r_goto (tgt := 2758) hX dL_law_1349 (by decide) ?_
    exact J.junk (K _ _ hfin) (by repeat first | exact trivial | refine ⟨rfl, ?_⟩)
set_option maxHeartbeats 4000000 in
set_option maxRecDepth 20000 in
theorem law_22 {X : Cx} {b L : Nat} {xs : Nat → Int32} (hX : okL G base X) (hnc : ncX X) (hsc : scX X base b L xs) : Case G base X b L xs 1352 := by
  intro M x r o T i cs sl σ h hT hi hL9 hcs hsl K
  show J G base X cs sl M 1352 (lcs b x r o i) []
  refine r_aload_n hX dL_law_1352 rfl ?_
  refine r_aload_n hX dL_law_1353 rfl ?_
  refine r_iload hX dL_law_1354 rfl ?_
  refine r_iconst (v := nI 1) hX dL_law_1356 (by decide) ?_
  refine rn_iadd hX dL_law_1357 rfl rfl ?_
  refine r_sld hX hsc dL_law_1358 (by omega) hL9 ?_
  refine r_aload_n hX dL_law_1359 rfl ?_
  refine r_callH (As := [.ref x, .int (xs (i + 1)), .ref o]) (rest := []) hX hnc dL_law_1360 IH_trace ml_L_220 rfl (t_L_trace h.lx h.ci h.gs.1 (by omega) h.so h.xo h.nt) (by decide) hcs hsl (by decide) rfl (Nat.le_of_ble_eq_true rfl) (fun v N hp => ?_) (fun E N hp => by obtain ⟨kk, h1, -⟩ := hp; cases h1)
  obtain ⟨kk, hv, hk1, hk2, hk3, hk4, hCN, hr⟩ := hp
  cases hv
  have hLN := h.l11 hk2
  have hRN := h.ri hk4
  refine r_istore5 hX dL_law_1363 rfl ?_
  refine r_aload_n hX dL_law_1365 rfl ?_
  refine r_aload_n hX dL_law_1366 rfl ?_
  refine r_iload hX dL_law_1367 rfl ?_
  refine r_iconst (v := nI 1) hX dL_law_1369 (by decide) ?_
  refine rn_iadd hX dL_law_1370 rfl rfl ?_
  refine r_sld hX hsc dL_law_1371 (by omega) hL9 ?_
  refine r_vV1 hX dL_law_1372 IX11_trace ml_L_222 rfl (LX11_s hLN) rfl (t_X11_trace hLN hRN h.gs.1 (by omega)) (by decide) (by omega) (by omega) (by decide) rfl (Nat.le_of_ble_eq_true rfl) (fun v2 i2 hq => ?_)
  show J G base X _ _ (wI N i2) _ _ _
  obtain ⟨hfin, hth, hval⟩ := lawfin h hk1 hk2 hk3 hCN hr hq (h.gs.mono (show T ≤ T + 168 by omega))
  refine r_istore6 hX dL_law_1375 rfl ?_
  refine r_aload_n hX dL_law_1377 rfl ?_
  refine r_cV0 hX dL_law_1378 IX11_thrown ml_L_153 rfl (LX11_s hLN) rfl (t_X11_thrown (M := wI N i2) hLN) (by decide) (by omega) (by omega) (by decide) rfl (Nat.le_of_ble_eq_true rfl) ?_
  refine r_iload hX dL_law_1381 rfl ?_
  refine r_icmp_eq (tgt := 1388) hX dL_law_1383 (by decide) (fun _ => ?_) (fun z => absurd hth z)
  refine r_iload hX dL_law_1388 rfl ?_
  refine r_if_ne (tgt := 1405) hX dL_law_1390 (by decide) (fun _ => ?_) (fun c0 => ?_)
  · refine r_goto (tgt := 2758) hX dL_law_1405 (by decide) ?_
    exact J.junk (K _ _ hfin) (by repeat first | exact trivial | refine ⟨rfl, ?_⟩)
  · refine r_aload_n hX dL_law_1393 rfl ?_
    refine r_iconst (v := nI 0) hX dL_law_1394 (by decide) ?_
    refine r_lald (n := 1) hX dL_law_1395 (h.on hk2) (vp_in_nI (by omega) (by omega)) ?_
    rw [nI_clamp (by omega)]
    refine r_iload hX dL_law_1396 rfl ?_
    refine r_i2l hX dL_law_1398 ?_
    refine r_lcmp hX dL_law_1399 ?_
    refine r_if_eq (tgt := 1405) hX dL_law_1400 (by decide) (fun _ => ?_) (fun z => absurd ((lg_cmp_eq _ _).mpr (hval c0)) z)
    refine r_goto (tgt := 2758) hX dL_law_1405 (by decide) ?_
    exact J.junk (K _ _ hfin) (by repeat first | exact trivial | refine ⟨rfl, ?_⟩)
set_option maxHeartbeats 4000000 in
set_option maxRecDepth 20000 in
theorem law_23 {X : Cx} {b L : Nat} {xs : Nat → Int32} (hX : okL G base X) (hnc : ncX X) (hsc : scX X base b L xs) : Case G base X b L xs 1408 := by
  intro M x r o T i cs sl σ h hT hi hL9 hcs hsl K
  show J G base X cs sl M 1408 (lcs b x r o i) []
  refine r_aload_n hX dL_law_1408 rfl ?_
  refine r_aload_n hX dL_law_1409 rfl ?_
  refine r_iload hX dL_law_1410 rfl ?_
  refine r_iconst (v := nI 1) hX dL_law_1412 (by decide) ?_
  refine rn_iadd hX dL_law_1413 rfl rfl ?_
  refine r_sld hX hsc dL_law_1414 (by omega) hL9 ?_
  refine r_aload_n hX dL_law_1415 rfl ?_
  refine r_callH (As := [.ref x, .int (xs (i + 1)), .ref o]) (rest := []) hX hnc dL_law_1416 IH_suspects ml_L_223 rfl (t_L_suspects h.lx h.ci h.gs.1 (by omega) h.so h.xo h.nt) (by decide) hcs hsl (by decide) rfl (Nat.le_of_ble_eq_true rfl) (fun v N hp => ?_) (fun E N hp => by obtain ⟨kk, h1, -⟩ := hp; cases h1)
  obtain ⟨kk, hv, hk1, hk2, hk3, hk4, hCN, hr⟩ := hp
  cases hv
  have hLN := h.l11 hk2
  have hRN := h.ri hk4
  refine r_istore5 hX dL_law_1419 rfl ?_
  refine r_aload_n hX dL_law_1421 rfl ?_
  refine r_aload_n hX dL_law_1422 rfl ?_
  refine r_iload hX dL_law_1423 rfl ?_
  refine r_iconst (v := nI 1) hX dL_law_1425 (by decide) ?_
  refine rn_iadd hX dL_law_1426 rfl rfl ?_
  refine r_sld hX hsc dL_law_1427 (by omega) hL9 ?_
  refine r_vV1 hX dL_law_1428 IX11_suspects ml_L_225 rfl (LX11_s hLN) rfl (t_X11_suspects hLN hRN h.gs.1 (by omega)) (by decide) (by omega) (by omega) (by decide) rfl (Nat.le_of_ble_eq_true rfl) (fun v2 i2 hq => ?_)
  show J G base X _ _ (wI N i2) _ _ _
  obtain ⟨hfin, hth, hval⟩ := lawfin h hk1 hk2 hk3 hCN hr hq (h.gs.mono (show T ≤ T + 168 by omega))
  refine r_istore6 hX dL_law_1431 rfl ?_
  refine r_aload_n hX dL_law_1433 rfl ?_
  refine r_cV0 hX dL_law_1434 IX11_thrown ml_L_153 rfl (LX11_s hLN) rfl (t_X11_thrown (M := wI N i2) hLN) (by decide) (by omega) (by omega) (by decide) rfl (Nat.le_of_ble_eq_true rfl) ?_
  refine r_iload hX dL_law_1437 rfl ?_
  refine r_icmp_eq (tgt := 1444) hX dL_law_1439 (by decide) (fun _ => ?_) (fun z => absurd hth z)
  refine r_iload hX dL_law_1444 rfl ?_
  refine r_if_ne (tgt := 1461) hX dL_law_1446 (by decide) (fun _ => ?_) (fun c0 => ?_)
  · refine r_goto (tgt := 2758) hX dL_law_1461 (by decide) ?_
    exact J.junk (K _ _ hfin) (by repeat first | exact trivial | refine ⟨rfl, ?_⟩)
  · refine r_aload_n hX dL_law_1449 rfl ?_
    refine r_iconst (v := nI 0) hX dL_law_1450 (by decide) ?_
    refine r_lald (n := 1) hX dL_law_1451 (h.on hk2) (vp_in_nI (by omega) (by omega)) ?_
    rw [nI_clamp (by omega)]
    refine r_iload hX dL_law_1452 rfl ?_
    refine r_i2l hX dL_law_1454 ?_
    refine r_lcmp hX dL_law_1455 ?_
    refine r_if_eq (tgt := 1461) hX dL_law_1456 (by decide) (fun _ => ?_) (fun z => absurd ((lg_cmp_eq _ _).mpr (hval c0)) z)
    refine r_goto (tgt := 2758) hX dL_law_1461 (by decide) ?_
    exact J.junk (K _ _ hfin) (by repeat first | exact trivial | refine ⟨rfl, ?_⟩)
set_option maxHeartbeats 4000000 in
set_option maxRecDepth 20000 in
theorem law_24 {X : Cx} {b L : Nat} {xs : Nat → Int32} (hX : okL G base X) (hnc : ncX X) (hsc : scX X base b L xs) : Case G base X b L xs 1464 := by
  intro M x r o T i cs sl σ h hT hi hL9 hcs hsl K
  show J G base X cs sl M 1464 (lcs b x r o i) []
  refine r_aload_n hX dL_law_1464 rfl ?_
  refine r_aload_n hX dL_law_1465 rfl ?_
  refine r_iload hX dL_law_1466 rfl ?_
  refine r_iconst (v := nI 1) hX dL_law_1468 (by decide) ?_
  refine rn_iadd hX dL_law_1469 rfl rfl ?_
  refine r_sld hX hsc dL_law_1470 (by omega) hL9 ?_
  refine r_aload_n hX dL_law_1471 rfl ?_
  refine r_callH (As := [.ref x, .int (xs (i + 1)), .ref o]) (rest := []) hX hnc dL_law_1472 IH_isLate ml_L_226 rfl (t_L_isLate h.lx h.ci h.gs.1 (by omega) h.so h.xo h.nt) (by decide) hcs hsl (by decide) rfl (Nat.le_of_ble_eq_true rfl) (fun v N hp => ?_) (fun E N hp => by obtain ⟨kk, h1, -⟩ := hp; cases h1)
  obtain ⟨kk, hv, hk1, hk2, hk3, hk4, hCN, hr⟩ := hp
  cases hv
  have hLN := h.l11 hk2
  have hRN := h.ri hk4
  refine r_istore5 hX dL_law_1475 rfl ?_
  refine r_aload_n hX dL_law_1477 rfl ?_
  refine r_aload_n hX dL_law_1478 rfl ?_
  refine r_iload hX dL_law_1479 rfl ?_
  refine r_iconst (v := nI 1) hX dL_law_1481 (by decide) ?_
  refine rn_iadd hX dL_law_1482 rfl rfl ?_
  refine r_sld hX hsc dL_law_1483 (by omega) hL9 ?_
  refine r_vV1 hX dL_law_1484 IX11_isLate ml_L_228 rfl (LX11_s hLN) rfl (t_X11_isLate hLN hRN h.gs.1 (by omega)) (by decide) (by omega) (by omega) (by decide) rfl (Nat.le_of_ble_eq_true rfl) (fun v2 i2 hq => ?_)
  show J G base X _ _ (wI N i2) _ _ _
  obtain ⟨hfin, hth, hval⟩ := lawfin h hk1 hk2 hk3 hCN hr hq (h.gs.mono (show T ≤ T + 168 by omega))
  refine r_istore6 hX dL_law_1487 rfl ?_
  refine r_aload_n hX dL_law_1489 rfl ?_
  refine r_cV0 hX dL_law_1490 IX11_thrown ml_L_153 rfl (LX11_s hLN) rfl (t_X11_thrown (M := wI N i2) hLN) (by decide) (by omega) (by omega) (by decide) rfl (Nat.le_of_ble_eq_true rfl) ?_
  refine r_iload hX dL_law_1493 rfl ?_
  refine r_icmp_eq (tgt := 1500) hX dL_law_1495 (by decide) (fun _ => ?_) (fun z => absurd hth z)
  refine r_iload hX dL_law_1500 rfl ?_
  refine r_if_ne (tgt := 1524) hX dL_law_1502 (by decide) (fun _ => ?_) (fun c0 => ?_)
  · refine r_goto (tgt := 2758) hX dL_law_1524 (by decide) ?_
    exact J.junk (K _ _ hfin) (by repeat first | exact trivial | refine ⟨rfl, ?_⟩)
  · refine r_aload_n hX dL_law_1505 rfl ?_
    refine r_iconst (v := nI 0) hX dL_law_1506 (by decide) ?_
    refine r_lald (n := 1) hX dL_law_1507 (h.on hk2) (vp_in_nI (by omega) (by omega)) ?_
    rw [nI_clamp (by omega)]
    refine r_iload hX dL_law_1508 rfl ?_
    refine r_if_eq (tgt := 1517) hX dL_law_1510 (by decide) (fun c1 => ?_) (fun c1 => ?_)
    · refine r_lconst (n := 0) hX dL_law_1517 ?_
      refine r_lcmp hX dL_law_1518 ?_
      refine r_if_eq (tgt := 1524) hX dL_law_1519 (by decide) (fun _ => ?_) (fun z => absurd ((lg_cmp_eq _ _).mpr ((hval c0).trans (by unfold fB; rw [if_pos c1]; rfl))) z)
      refine r_goto (tgt := 2758) hX dL_law_1524 (by decide) ?_
      exact J.junk (K _ _ hfin) (by repeat first | exact trivial | refine ⟨rfl, ?_⟩)
    · refine r_lconst (n := 1) hX dL_law_1513 ?_
      refine r_goto (tgt := 1518) hX dL_law_1514 (by decide) ?_
      refine r_lcmp hX dL_law_1518 ?_
      refine r_if_eq (tgt := 1524) hX dL_law_1519 (by decide) (fun _ => ?_) (fun z => absurd ((lg_cmp_eq _ _).mpr ((hval c0).trans (by unfold fB; rw [if_neg c1]; rfl))) z)
      refine r_goto (tgt := 2758) hX dL_law_1524 (by decide) ?_
      exact J.junk (K _ _ hfin) (by repeat first | exact trivial | refine ⟨rfl, ?_⟩)
set_option maxHeartbeats 4000000 in
set_option maxRecDepth 20000 in
theorem law_25 {X : Cx} {b L : Nat} {xs : Nat → Int32} (hX : okL G base X) (hnc : ncX X) (hsc : scX X base b L xs) : Case G base X b L xs 1527 := by
  intro M x r o T i cs sl σ h hT hi hL9 hcs hsl K
  show J G base X cs sl M 1527 (lcs b x r o i) []
  refine r_aload_n hX dL_law_1527 rfl ?_
  refine r_aload_n hX dL_law_1528 rfl ?_
  refine r_iload hX dL_law_1529 rfl ?_
  refine r_iconst (v := nI 1) hX dL_law_1531 (by decide) ?_
  refine rn_iadd hX dL_law_1532 rfl rfl ?_
  refine r_sld hX hsc dL_law_1533 (by omega) hL9 ?_
  refine r_aload_n hX dL_law_1534 rfl ?_
  refine r_callH (As := [.ref x, .int (xs (i + 1)), .ref o]) (rest := []) hX hnc dL_law_1535 IH_letters ml_L_229 rfl (t_L_letters h.lx h.ci h.gs.1 (by omega) h.so h.xo h.nt) (by decide) hcs hsl (by decide) rfl (Nat.le_of_ble_eq_true rfl) (fun v N hp => ?_) (fun E N hp => by obtain ⟨kk, h1, -⟩ := hp; cases h1)
  obtain ⟨kk, hv, hk1, hk2, hk3, hk4, hCN, hr⟩ := hp
  cases hv
  have hLN := h.l11 hk2
  have hRN := h.ri hk4
  refine r_istore5 hX dL_law_1538 rfl ?_
  refine r_aload_n hX dL_law_1540 rfl ?_
  refine r_aload_n hX dL_law_1541 rfl ?_
  refine r_iload hX dL_law_1542 rfl ?_
  refine r_iconst (v := nI 1) hX dL_law_1544 (by decide) ?_
  refine rn_iadd hX dL_law_1545 rfl rfl ?_
  refine r_sld hX hsc dL_law_1546 (by omega) hL9 ?_
  refine r_vV1 hX dL_law_1547 IX11_letters_ ml_L_231 rfl (LX11_s hLN) rfl (t_X11_letters_ hLN hRN h.gs.1 (by omega)) (by decide) (by omega) (by omega) (by decide) rfl (Nat.le_of_ble_eq_true rfl) (fun v2 i2 hq => ?_)
  show J G base X _ _ (wI N i2) _ _ _
  obtain ⟨hfin, hth, hval⟩ := lawfin h hk1 hk2 hk3 hCN hr hq (h.gs.mono (show T ≤ T + 168 by omega))
  refine r_istore6 hX dL_law_1550 rfl ?_
  refine r_aload_n hX dL_law_1552 rfl ?_
  refine r_cV0 hX dL_law_1553 IX11_thrown ml_L_153 rfl (LX11_s hLN) rfl (t_X11_thrown (M := wI N i2) hLN) (by decide) (by omega) (by omega) (by decide) rfl (Nat.le_of_ble_eq_true rfl) ?_
  refine r_iload hX dL_law_1556 rfl ?_
  refine r_icmp_eq (tgt := 1563) hX dL_law_1558 (by decide) (fun _ => ?_) (fun z => absurd hth z)
  refine r_iload hX dL_law_1563 rfl ?_
  refine r_if_ne (tgt := 1580) hX dL_law_1565 (by decide) (fun _ => ?_) (fun c0 => ?_)
  · refine r_goto (tgt := 2758) hX dL_law_1580 (by decide) ?_
    exact J.junk (K _ _ hfin) (by repeat first | exact trivial | refine ⟨rfl, ?_⟩)
  · refine r_aload_n hX dL_law_1568 rfl ?_
    refine r_iconst (v := nI 0) hX dL_law_1569 (by decide) ?_
    refine r_lald (n := 1) hX dL_law_1570 (h.on hk2) (vp_in_nI (by omega) (by omega)) ?_
    rw [nI_clamp (by omega)]
    refine r_iload hX dL_law_1571 rfl ?_
    refine r_i2l hX dL_law_1573 ?_
    refine r_lcmp hX dL_law_1574 ?_
    refine r_if_eq (tgt := 1580) hX dL_law_1575 (by decide) (fun _ => ?_) (fun z => absurd ((lg_cmp_eq _ _).mpr (hval c0)) z)
    refine r_goto (tgt := 2758) hX dL_law_1580 (by decide) ?_
    exact J.junk (K _ _ hfin) (by repeat first | exact trivial | refine ⟨rfl, ?_⟩)
set_option maxHeartbeats 4000000 in
set_option maxRecDepth 20000 in
theorem law_26 {X : Cx} {b L : Nat} {xs : Nat → Int32} (hX : okL G base X) (hnc : ncX X) (hsc : scX X base b L xs) : Case G base X b L xs 1583 := by
  intro M x r o T i cs sl σ h hT hi hL9 hcs hsl K
  show J G base X cs sl M 1583 (lcs b x r o i) []
  refine r_aload_n hX dL_law_1583 rfl ?_
  refine r_callV (As := []) (rest := []) hX dL_law_1584 IX10_punctuality ml_L_232 rfl (LX10_s h.lx) rfl (t_c_punctuality h.lx h.ci h.gs.1 (by omega)) (by decide) hcs hsl (by decide) rfl (Nat.le_of_ble_eq_true rfl) (fun v N hp => ?_) (fun E N hp => by cases hp.1)
  obtain ⟨hv, hN⟩ := hp
  cases hv
  rw [hN]
  refine r_dstore hX dL_law_1587 (Nat.le_of_ble_eq_true rfl) (fun j w hj a b => ?_) ?_
  · intro z
    obtain rfl : j = 4 := by omega
    have hj2 : some (some (Value.int (nI i))) = some (some w) := hj
    cases hj2
    exact absurd z.2 (by simp [Value.category])
  refine r_aload_n hX dL_law_1589 rfl ?_
  refine r_callV (As := []) (rest := []) hX dL_law_1590 IX11_punctuality ml_L_236 rfl (LX11_s h.2.1) rfl (t_X11_punctuality h.2.1 h.2.2.2.2.2.2.1 h.gs.1 (by omega)) (by decide) (by omega) (by omega) (by decide) rfl (Nat.le_of_ble_eq_true rfl) (fun v N2 hp => ?_) (fun E N2 hp => by obtain ⟨_, _, h1, -⟩ := hp; cases h1)
  obtain ⟨u, i2, hv, rfl, hR2, rfl, hth, ho2⟩ := hp
  cases hv
  have hfin : LI (wI M i2) x r o (T + 168) σ := h.both (N := M) h.lx (fun y _ => ⟨rfl, fun _ => rfl⟩) h.nt h.ci hR2 ho2 (h.gs.mono (by omega))
  refine r_dstore hX dL_law_1593 (Nat.le_of_ble_eq_true rfl) (fun j w hj a b => ?_) ?_
  · intro z
    obtain rfl : j = 6 := by omega
    have hj2 : some (none : Option Value) = some (some w) := hj
    cases hj2
  refine r_dload hX dL_law_1595 rfl ?_
  refine r_dload hX dL_law_1597 rfl ?_
  refine r_dcmp hX dL_law_1599 ?_
  refine r_if_eq (tgt := 1621) hX dL_law_1600 (by decide) (fun _ => ?_) (fun c0 => ?_)
  · refine r_goto (tgt := 2758) hX dL_law_1621 (by decide) ?_
    exact J.junk (K _ _ hfin) (by repeat first | exact trivial | refine ⟨rfl, ?_⟩)
  · refine r_dload hX dL_law_1603 rfl ?_
    refine r_dload hX dL_law_1605 rfl ?_
    refine r_dcmp hX dL_law_1607 ?_
    refine r_if_eq (tgt := 1619) hX dL_law_1608 (by decide) (fun z => absurd z c0) (fun _ => ?_)
    refine r_dload hX dL_law_1611 rfl ?_
    refine r_dload hX dL_law_1613 rfl ?_
    refine r_dcmp hX dL_law_1615 ?_
    refine r_if_ne (tgt := 1621) hX dL_law_1616 (by decide) (fun _ => ?_) (fun z => absurd z c0)
    refine r_goto (tgt := 2758) hX dL_law_1621 (by decide) ?_
    exact J.junk (K _ _ hfin) (by repeat first | exact trivial | refine ⟨rfl, ?_⟩)
set_option maxHeartbeats 4000000 in
set_option maxRecDepth 20000 in
theorem law_27 {X : Cx} {b L : Nat} {xs : Nat → Int32} (hX : okL G base X) (hnc : ncX X) (hsc : scX X base b L xs) : Case G base X b L xs 1624 := by
  intro M x r o T i cs sl σ h hT hi hL9 hcs hsl K
  show J G base X cs sl M 1624 (lcs b x r o i) []
  refine r_aload_n hX dL_law_1624 rfl ?_
  refine r_aload_n hX dL_law_1625 rfl ?_
  refine r_iload hX dL_law_1626 rfl ?_
  refine r_iconst (v := nI 1) hX dL_law_1628 (by decide) ?_
  refine rn_iadd hX dL_law_1629 rfl rfl ?_
  refine r_sld hX hsc dL_law_1630 (by omega) hL9 ?_
  refine r_aload_n hX dL_law_1631 rfl ?_
  refine r_iload hX dL_law_1632 rfl ?_
  refine r_iconst (v := nI 2) hX dL_law_1634 (by decide) ?_
  refine rn_iadd hX dL_law_1635 rfl rfl ?_
  refine r_sld hX hsc dL_law_1636 (by omega) hL9 ?_
  refine r_aload_n hX dL_law_1637 rfl ?_
  refine r_callH (As := [.ref x, .int (xs (i + 1)), .int (xs (i + 2)), .ref o]) (rest := []) hX hnc dL_law_1638 IH_promise ml_L_237 rfl (t_L_promise h.lx h.ci h.gs.1 (by omega) h.so h.xo h.nt) (by decide) hcs hsl (by decide) rfl (Nat.le_of_ble_eq_true rfl) (fun v N hp => ?_) (fun E N hp => by obtain ⟨kk, h1, -⟩ := hp; cases h1)
  obtain ⟨kk, hv, hk1, hk2, hk3, hk4, hCN, hr⟩ := hp
  cases hv
  have hLN := h.l11 hk2
  have hRN := h.ri hk4
  refine r_istore5 hX dL_law_1641 rfl ?_
  refine r_aload_n hX dL_law_1643 rfl ?_
  refine r_aload_n hX dL_law_1644 rfl ?_
  refine r_iload hX dL_law_1645 rfl ?_
  refine r_iconst (v := nI 1) hX dL_law_1647 (by decide) ?_
  refine rn_iadd hX dL_law_1648 rfl rfl ?_
  refine r_sld hX hsc dL_law_1649 (by omega) hL9 ?_
  refine r_aload_n hX dL_law_1650 rfl ?_
  refine r_iload hX dL_law_1651 rfl ?_
  refine r_iconst (v := nI 2) hX dL_law_1653 (by decide) ?_
  refine rn_iadd hX dL_law_1654 rfl rfl ?_
  refine r_sld hX hsc dL_law_1655 (by omega) hL9 ?_
  refine r_vV2 hX dL_law_1656 IX11_promise ml_L_239 rfl (LX11_s hLN) rfl (t_X11_promise hLN hRN h.gs.1 (by omega)) (by decide) (by omega) (by omega) (by decide) rfl (Nat.le_of_ble_eq_true rfl) (fun v2 i2 hq => ?_)
  show J G base X _ _ (wI N i2) _ _ _
  obtain ⟨hfin, hth, hval⟩ := lawfin h hk1 hk2 hk3 hCN hr hq (h.gs.mono (show T ≤ T + 168 by omega))
  refine r_istore6 hX dL_law_1659 rfl ?_
  refine r_aload_n hX dL_law_1661 rfl ?_
  refine r_cV0 hX dL_law_1662 IX11_thrown ml_L_153 rfl (LX11_s hLN) rfl (t_X11_thrown (M := wI N i2) hLN) (by decide) (by omega) (by omega) (by decide) rfl (Nat.le_of_ble_eq_true rfl) ?_
  refine r_iload hX dL_law_1665 rfl ?_
  refine r_icmp_eq (tgt := 1672) hX dL_law_1667 (by decide) (fun _ => ?_) (fun z => absurd hth z)
  refine r_iload hX dL_law_1672 rfl ?_
  refine r_if_ne (tgt := 1689) hX dL_law_1674 (by decide) (fun _ => ?_) (fun c0 => ?_)
  · refine r_goto (tgt := 2758) hX dL_law_1689 (by decide) ?_
    exact J.junk (K _ _ hfin) (by repeat first | exact trivial | refine ⟨rfl, ?_⟩)
  · refine r_aload_n hX dL_law_1677 rfl ?_
    refine r_iconst (v := nI 0) hX dL_law_1678 (by decide) ?_
    refine r_lald (n := 1) hX dL_law_1679 (h.on hk2) (vp_in_nI (by omega) (by omega)) ?_
    rw [nI_clamp (by omega)]
    refine r_iload hX dL_law_1680 rfl ?_
    refine r_i2l hX dL_law_1682 ?_
    refine r_lcmp hX dL_law_1683 ?_
    refine r_if_eq (tgt := 1689) hX dL_law_1684 (by decide) (fun _ => ?_) (fun z => absurd ((lg_cmp_eq _ _).mpr (hval c0)) z)
    refine r_goto (tgt := 2758) hX dL_law_1689 (by decide) ?_
    exact J.junk (K _ _ hfin) (by repeat first | exact trivial | refine ⟨rfl, ?_⟩)
