variable {G : GG} {base : Nat}
set_option maxHeartbeats 4000000 in
set_option maxRecDepth 20000 in
theorem law_0 {X : Cx} {b L : Nat} {xs : Nat → Int32} (hX : okL G base X) (hnc : ncX X) (hsc : scX X base b L xs) : Case G base X b L xs 244 := by
  intro M x r o T i cs sl σ h hT hi hL9 hcs hsl K
  show J G base X cs sl M 244 (lcs b x r o i) []
  refine r_aload_n hX dL_law_244 rfl ?_
  refine r_aload_n hX dL_law_245 rfl ?_
  refine r_iload hX dL_law_246 rfl ?_
  refine r_iconst (v := nI 1) hX dL_law_248 (by decide) ?_
  refine rn_iadd hX dL_law_249 rfl rfl ?_
  refine r_sld hX hsc dL_law_250 (by omega) hL9 ?_
  refine r_aload_n hX dL_law_251 rfl ?_
  refine r_iload hX dL_law_252 rfl ?_
  refine r_iconst (v := nI 2) hX dL_law_254 (by decide) ?_
  refine rn_iadd hX dL_law_255 rfl rfl ?_
  refine r_sld hX hsc dL_law_256 (by omega) hL9 ?_
  refine r_aload_n hX dL_law_257 rfl ?_
  refine r_iload hX dL_law_258 rfl ?_
  refine r_iconst (v := nI 3) hX dL_law_260 (by decide) ?_
  refine rn_iadd hX dL_law_261 rfl rfl ?_
  refine r_sld hX hsc dL_law_262 (by omega) hL9 ?_
  refine r_aload_n hX dL_law_263 rfl ?_
  refine r_iload hX dL_law_264 rfl ?_
  refine r_iconst (v := nI 4) hX dL_law_266 (by decide) ?_
  refine rn_iadd hX dL_law_267 rfl rfl ?_
  refine r_sld hX hsc dL_law_268 (by omega) hL9 ?_
  refine r_aload_n hX dL_law_269 rfl ?_
  refine r_iload hX dL_law_270 rfl ?_
  refine r_iconst (v := nI 5) hX dL_law_272 (by decide) ?_
  refine rn_iadd hX dL_law_273 rfl rfl ?_
  refine r_sld hX hsc dL_law_274 (by omega) hL9 ?_
  refine r_callV (As := [.int (xs (i + 1)), .int (xs (i + 2)), .int (xs (i + 3)), .int (xs (i + 4)), .int (xs (i + 5))]) (rest := []) hX dL_law_275 IX10_append ml_L_138 rfl (LX10_s h.lx) rfl (t_c_append h.lx h.ci h.gs.1 (by omega)) (by decide) hcs hsl (by decide) rfl (Nat.le_of_ble_eq_true rfl) (fun v N hp => ?_) (fun E N hp => ?_)
  · obtain ⟨w, hw, rfl, hk, hCN⟩ := hp.ret h.lx h.nt
    have hLN := h.l11 hk.2.1
    have hRN := h.ri hk.2.2.2.1
    refine r_aload_n hX dL_law_278 rfl ?_
    refine r_aload_n hX dL_law_279 rfl ?_
    refine r_iload hX dL_law_280 rfl ?_
    refine r_iconst (v := nI 1) hX dL_law_282 (by decide) ?_
    refine rn_iadd hX dL_law_283 rfl rfl ?_
    refine r_sld hX hsc dL_law_284 (by omega) hL9 ?_
    refine r_aload_n hX dL_law_285 rfl ?_
    refine r_iload hX dL_law_286 rfl ?_
    refine r_iconst (v := nI 2) hX dL_law_288 (by decide) ?_
    refine rn_iadd hX dL_law_289 rfl rfl ?_
    refine r_sld hX hsc dL_law_290 (by omega) hL9 ?_
    refine r_aload_n hX dL_law_291 rfl ?_
    refine r_iload hX dL_law_292 rfl ?_
    refine r_iconst (v := nI 3) hX dL_law_294 (by decide) ?_
    refine rn_iadd hX dL_law_295 rfl rfl ?_
    refine r_sld hX hsc dL_law_296 (by omega) hL9 ?_
    refine r_aload_n hX dL_law_297 rfl ?_
    refine r_iload hX dL_law_298 rfl ?_
    refine r_iconst (v := nI 4) hX dL_law_300 (by decide) ?_
    refine rn_iadd hX dL_law_301 rfl rfl ?_
    refine r_sld hX hsc dL_law_302 (by omega) hL9 ?_
    refine r_aload_n hX dL_law_303 rfl ?_
    refine r_iload hX dL_law_304 rfl ?_
    refine r_iconst (v := nI 5) hX dL_law_306 (by decide) ?_
    refine rn_iadd hX dL_law_307 rfl rfl ?_
    refine r_sld hX hsc dL_law_308 (by omega) hL9 ?_
    refine r_vV5 hX dL_law_309 IX11_append ml_L_142 rfl (LX11_s hLN) rfl (t_X11_append hLN hRN h.gs.1 (by omega)) (by decide) (by omega) (by omega) (by decide) rfl (Nat.le_of_ble_eq_true rfl) (fun v2 i2 hq => ?_)
    show J G base X _ _ (wI N i2) _ _ _
    obtain ⟨hfin, hveq⟩ := lawfin0 h hk hCN hw hq (h.gs.append.mono (show T ≤ T + 168 by omega))
    refine r_icmp_eq (tgt := 2758) hX dL_law_312 (by decide) (fun _ => ?_) (fun z => absurd hveq z)
    exact J.junk (K _ _ hfin) (by repeat first | exact trivial | refine ⟨rfl, ?_⟩)
  · obtain ⟨k, hw, -⟩ := hp.thr h.lx h.nt
    unfold rs_append at hw
    (repeat' split at hw) <;> cases hw
set_option maxHeartbeats 4000000 in
set_option maxRecDepth 20000 in
theorem law_1 {X : Cx} {b L : Nat} {xs : Nat → Int32} (hX : okL G base X) (hnc : ncX X) (hsc : scX X base b L xs) : Case G base X b L xs 317 := by
  intro M x r o T i cs sl σ h hT hi hL9 hcs hsl K
  show J G base X cs sl M 317 (lcs b x r o i) []
  refine r_aload_n hX dL_law_317 rfl ?_
  refine r_aload_n hX dL_law_318 rfl ?_
  refine r_iload hX dL_law_319 rfl ?_
  refine r_iconst (v := nI 1) hX dL_law_321 (by decide) ?_
  refine rn_iadd hX dL_law_322 rfl rfl ?_
  refine r_sld hX hsc dL_law_323 (by omega) hL9 ?_
  refine r_callV (As := [.int (xs (i + 1))]) (rest := []) hX dL_law_324 IX10_truncate ml_L_143 rfl (LX10_s h.lx) rfl (t_c_truncate h.lx h.ci h.gs.1 (by omega)) (by decide) hcs hsl (by decide) rfl (Nat.le_of_ble_eq_true rfl) (fun v N hp => ?_) (fun E N hp => ?_)
  · obtain ⟨w, hw, rfl, hk, hCN⟩ := hp.ret h.lx h.nt
    have hLN := h.l11 hk.2.1
    have hRN := h.ri hk.2.2.2.1
    refine r_aload_n hX dL_law_327 rfl ?_
    refine r_aload_n hX dL_law_328 rfl ?_
    refine r_iload hX dL_law_329 rfl ?_
    refine r_iconst (v := nI 1) hX dL_law_331 (by decide) ?_
    refine rn_iadd hX dL_law_332 rfl rfl ?_
    refine r_sld hX hsc dL_law_333 (by omega) hL9 ?_
    refine r_vV1 hX dL_law_334 IX11_truncate ml_L_146 rfl (LX11_s hLN) rfl (t_X11_truncate hLN hRN h.gs.1 (by omega)) (by decide) (by omega) (by omega) (by decide) rfl (Nat.le_of_ble_eq_true rfl) (fun v2 i2 hq => ?_)
    show J G base X _ _ (wI N i2) _ _ _
    obtain ⟨hfin, hveq⟩ := lawfin0 h hk hCN hw hq (h.gs.truncate.mono (show T ≤ T + 168 by omega))
    refine r_icmp_eq (tgt := 2758) hX dL_law_337 (by decide) (fun _ => ?_) (fun z => absurd hveq z)
    exact J.junk (K _ _ hfin) (by repeat first | exact trivial | refine ⟨rfl, ?_⟩)
  · obtain ⟨k, hw, -⟩ := hp.thr h.lx h.nt
    unfold rs_truncate at hw
    (repeat' split at hw) <;> cases hw
set_option maxHeartbeats 4000000 in
set_option maxRecDepth 20000 in
theorem law_2 {X : Cx} {b L : Nat} {xs : Nat → Int32} (hX : okL G base X) (hnc : ncX X) (hsc : scX X base b L xs) : Case G base X b L xs 342 := by
  intro M x r o T i cs sl σ h hT hi hL9 hcs hsl K
  show J G base X cs sl M 342 (lcs b x r o i) []
  refine r_aload_n hX dL_law_342 rfl ?_
  refine r_aload_n hX dL_law_343 rfl ?_
  refine r_callH (As := [.ref x, .ref o]) (rest := []) hX hnc dL_law_344 IH_load ml_L_147 rfl (t_L_load h.lx h.ci h.gs.1 (by omega) h.so h.xo h.nt) (by decide) hcs hsl (by decide) rfl (Nat.le_of_ble_eq_true rfl) (fun v N hp => ?_) (fun E N hp => by obtain ⟨kk, h1, -⟩ := hp; cases h1)
  obtain ⟨kk, hv, hk1, hk2, hk3, hk4, hCN, hr⟩ := hp
  cases hv
  have hLN := h.l11 hk2
  have hRN := h.ri hk4
  refine r_istore5 hX dL_law_347 rfl ?_
  refine r_aload_n hX dL_law_349 rfl ?_
  refine r_vV0 hX dL_law_350 IX11_load ml_L_152 rfl (LX11_s hLN) rfl (t_X11_load hLN hRN h.gs.1 (by omega)) (by decide) (by omega) (by omega) (by decide) rfl (Nat.le_of_ble_eq_true rfl) (fun v2 i2 hq => ?_)
  show J G base X _ _ (wI N i2) _ _ _
  obtain ⟨hfin, hth, hval⟩ := lawfin h hk1 hk2 hk3 hCN hr hq ((h.gs.load h.te).mono (show T ≤ T + 168 by omega))
  refine r_istore6 hX dL_law_353 rfl ?_
  refine r_aload_n hX dL_law_355 rfl ?_
  refine r_cV0 hX dL_law_356 IX11_thrown ml_L_153 rfl (LX11_s hLN) rfl (t_X11_thrown (M := wI N i2) hLN) (by decide) (by omega) (by omega) (by decide) rfl (Nat.le_of_ble_eq_true rfl) ?_
  refine r_iload hX dL_law_359 rfl ?_
  refine r_icmp_eq (tgt := 366) hX dL_law_361 (by decide) (fun _ => ?_) (fun z => absurd hth z)
  refine r_iload hX dL_law_366 rfl ?_
  refine r_if_ne (tgt := 383) hX dL_law_368 (by decide) (fun _ => ?_) (fun c0 => ?_)
  · refine r_goto (tgt := 2758) hX dL_law_383 (by decide) ?_
    exact J.junk (K _ _ hfin) (by repeat first | exact trivial | refine ⟨rfl, ?_⟩)
  · refine r_aload_n hX dL_law_371 rfl ?_
    refine r_iconst (v := nI 0) hX dL_law_372 (by decide) ?_
    refine r_lald (n := 1) hX dL_law_373 (h.on hk2) (vp_in_nI (by omega) (by omega)) ?_
    rw [nI_clamp (by omega)]
    refine r_iload hX dL_law_374 rfl ?_
    refine r_i2l hX dL_law_376 ?_
    refine r_lcmp hX dL_law_377 ?_
    refine r_if_eq (tgt := 383) hX dL_law_378 (by decide) (fun _ => ?_) (fun z => absurd ((lg_cmp_eq _ _).mpr (hval c0)) z)
    refine r_goto (tgt := 2758) hX dL_law_383 (by decide) ?_
    exact J.junk (K _ _ hfin) (by repeat first | exact trivial | refine ⟨rfl, ?_⟩)
set_option maxHeartbeats 4000000 in
set_option maxRecDepth 20000 in
theorem law_3 {X : Cx} {b L : Nat} {xs : Nat → Int32} (hX : okL G base X) (hnc : ncX X) (hsc : scX X base b L xs) : Case G base X b L xs 386 := by
  intro M x r o T i cs sl σ h hT hi hL9 hcs hsl K
  show J G base X cs sl M 386 (lcs b x r o i) []
  refine r_aload_n hX dL_law_386 rfl ?_
  refine r_callV (As := []) (rest := []) hX dL_law_387 IX10_errorOffset ml_L_156 rfl (LX10_s h.lx) rfl (t_c_errorOffset h.lx h.ci h.gs.1 (by omega)) (by decide) hcs hsl (by decide) rfl (Nat.le_of_ble_eq_true rfl) (fun v N hp => ?_) (fun E N hp => ?_)
  · obtain ⟨w, hw, rfl, hk, hCN⟩ := hp.ret h.lx h.nt
    have hLN := h.l11 hk.2.1
    have hRN := h.ri hk.2.2.2.1
    refine r_aload_n hX dL_law_390 rfl ?_
    refine r_vV0 hX dL_law_391 IX11_errorOffset ml_L_159 rfl (LX11_s hLN) rfl (t_X11_errorOffset hLN hRN h.gs.1 (by omega)) (by decide) (by omega) (by omega) (by decide) rfl (Nat.le_of_ble_eq_true rfl) (fun v2 i2 hq => ?_)
    show J G base X _ _ (wI N i2) _ _ _
    obtain ⟨hfin, hveq⟩ := lawfin0 h hk hCN hw hq (h.gs.mono (show T ≤ T + 168 by omega))
    refine r_icmp_eq (tgt := 2758) hX dL_law_394 (by decide) (fun _ => ?_) (fun z => absurd hveq z)
    exact J.junk (K _ _ hfin) (by repeat first | exact trivial | refine ⟨rfl, ?_⟩)
  · obtain ⟨k, hw, -⟩ := hp.thr h.lx h.nt
    unfold rs_errorOffset at hw
    (repeat' split at hw) <;> cases hw
set_option maxHeartbeats 4000000 in
set_option maxRecDepth 20000 in
theorem law_4 {X : Cx} {b L : Nat} {xs : Nat → Int32} (hX : okL G base X) (hnc : ncX X) (hsc : scX X base b L xs) : Case G base X b L xs 399 := by
  intro M x r o T i cs sl σ h hT hi hL9 hcs hsl K
  show J G base X cs sl M 399 (lcs b x r o i) []
  refine r_aload_n hX dL_law_399 rfl ?_
  refine r_callV (As := []) (rest := []) hX dL_law_400 IX10_errorKind ml_L_160 rfl (LX10_s h.lx) rfl (t_c_errorKind h.lx h.ci h.gs.1 (by omega)) (by decide) hcs hsl (by decide) rfl (Nat.le_of_ble_eq_true rfl) (fun v N hp => ?_) (fun E N hp => ?_)
  · obtain ⟨w, hw, rfl, hk, hCN⟩ := hp.ret h.lx h.nt
    have hLN := h.l11 hk.2.1
    have hRN := h.ri hk.2.2.2.1
    refine r_aload_n hX dL_law_403 rfl ?_
    refine r_vV0 hX dL_law_404 IX11_errorKind ml_L_163 rfl (LX11_s hLN) rfl (t_X11_errorKind hLN hRN h.gs.1 (by omega)) (by decide) (by omega) (by omega) (by decide) rfl (Nat.le_of_ble_eq_true rfl) (fun v2 i2 hq => ?_)
    show J G base X _ _ (wI N i2) _ _ _
    obtain ⟨hfin, hveq⟩ := lawfin0 h hk hCN hw hq (h.gs.mono (show T ≤ T + 168 by omega))
    refine r_icmp_eq (tgt := 2758) hX dL_law_407 (by decide) (fun _ => ?_) (fun z => absurd hveq z)
    exact J.junk (K _ _ hfin) (by repeat first | exact trivial | refine ⟨rfl, ?_⟩)
  · obtain ⟨k, hw, -⟩ := hp.thr h.lx h.nt
    unfold rs_errorKind at hw
    (repeat' split at hw) <;> cases hw
set_option maxHeartbeats 4000000 in
set_option maxRecDepth 20000 in
theorem law_5 {X : Cx} {b L : Nat} {xs : Nat → Int32} (hX : okL G base X) (hnc : ncX X) (hsc : scX X base b L xs) : Case G base X b L xs 412 := by
  intro M x r o T i cs sl σ h hT hi hL9 hcs hsl K
  show J G base X cs sl M 412 (lcs b x r o i) []
  refine r_aload_n hX dL_law_412 rfl ?_
  refine r_aload_n hX dL_law_413 rfl ?_
  refine r_iload hX dL_law_414 rfl ?_
  refine r_iconst (v := nI 1) hX dL_law_416 (by decide) ?_
  refine rn_iadd hX dL_law_417 rfl rfl ?_
  refine r_sld hX hsc dL_law_418 (by omega) hL9 ?_
  refine r_aload_n hX dL_law_419 rfl ?_
  refine r_callH (As := [.ref x, .int (xs (i + 1)), .ref o]) (rest := []) hX hnc dL_law_420 IH_count ml_L_164 rfl (t_L_count h.lx h.ci h.gs.1 (by omega) h.so h.xo h.nt) (by decide) hcs hsl (by decide) rfl (Nat.le_of_ble_eq_true rfl) (fun v N hp => ?_) (fun E N hp => by obtain ⟨kk, h1, -⟩ := hp; cases h1)
  obtain ⟨kk, hv, hk1, hk2, hk3, hk4, hCN, hr⟩ := hp
  cases hv
  have hLN := h.l11 hk2
  have hRN := h.ri hk4
  refine r_istore5 hX dL_law_423 rfl ?_
  refine r_aload_n hX dL_law_425 rfl ?_
  refine r_aload_n hX dL_law_426 rfl ?_
  refine r_iload hX dL_law_427 rfl ?_
  refine r_iconst (v := nI 1) hX dL_law_429 (by decide) ?_
  refine rn_iadd hX dL_law_430 rfl rfl ?_
  refine r_sld hX hsc dL_law_431 (by omega) hL9 ?_
  refine r_vV1 hX dL_law_432 IX11_count ml_L_167 rfl (LX11_s hLN) rfl (t_X11_count hLN hRN h.gs.1 (by omega)) (by decide) (by omega) (by omega) (by decide) rfl (Nat.le_of_ble_eq_true rfl) (fun v2 i2 hq => ?_)
  show J G base X _ _ (wI N i2) _ _ _
  obtain ⟨hfin, hth, hval⟩ := lawfin h hk1 hk2 hk3 hCN hr hq (h.gs.mono (show T ≤ T + 168 by omega))
  refine r_istore6 hX dL_law_435 rfl ?_
  refine r_aload_n hX dL_law_437 rfl ?_
  refine r_cV0 hX dL_law_438 IX11_thrown ml_L_153 rfl (LX11_s hLN) rfl (t_X11_thrown (M := wI N i2) hLN) (by decide) (by omega) (by omega) (by decide) rfl (Nat.le_of_ble_eq_true rfl) ?_
  refine r_iload hX dL_law_441 rfl ?_
  refine r_icmp_eq (tgt := 448) hX dL_law_443 (by decide) (fun _ => ?_) (fun z => absurd hth z)
  refine r_iload hX dL_law_448 rfl ?_
  refine r_if_ne (tgt := 465) hX dL_law_450 (by decide) (fun _ => ?_) (fun c0 => ?_)
  · refine r_goto (tgt := 2758) hX dL_law_465 (by decide) ?_
    exact J.junk (K _ _ hfin) (by repeat first | exact trivial | refine ⟨rfl, ?_⟩)
  · refine r_aload_n hX dL_law_453 rfl ?_
    refine r_iconst (v := nI 0) hX dL_law_454 (by decide) ?_
    refine r_lald (n := 1) hX dL_law_455 (h.on hk2) (vp_in_nI (by omega) (by omega)) ?_
    rw [nI_clamp (by omega)]
    refine r_iload hX dL_law_456 rfl ?_
    refine r_i2l hX dL_law_458 ?_
    refine r_lcmp hX dL_law_459 ?_
    refine r_if_eq (tgt := 465) hX dL_law_460 (by decide) (fun _ => ?_) (fun z => absurd ((lg_cmp_eq _ _).mpr (hval c0)) z)
    refine r_goto (tgt := 2758) hX dL_law_465 (by decide) ?_
    exact J.junk (K _ _ hfin) (by repeat first | exact trivial | refine ⟨rfl, ?_⟩)
set_option maxHeartbeats 4000000 in
set_option maxRecDepth 20000 in
theorem law_6 {X : Cx} {b L : Nat} {xs : Nat → Int32} (hX : okL G base X) (hnc : ncX X) (hsc : scX X base b L xs) : Case G base X b L xs 468 := by
  intro M x r o T i cs sl σ h hT hi hL9 hcs hsl K
  show J G base X cs sl M 468 (lcs b x r o i) []
  refine r_aload_n hX dL_law_468 rfl ?_
  refine r_aload_n hX dL_law_469 rfl ?_
  refine r_iload hX dL_law_470 rfl ?_
  refine r_iconst (v := nI 1) hX dL_law_472 (by decide) ?_
  refine rn_iadd hX dL_law_473 rfl rfl ?_
  refine r_sld hX hsc dL_law_474 (by omega) hL9 ?_
  refine r_aload_n hX dL_law_475 rfl ?_
  refine r_callH (As := [.ref x, .int (xs (i + 1)), .ref o]) (rest := []) hX hnc dL_law_476 IH_isVillage ml_L_168 rfl (t_L_isVillage h.lx h.ci h.gs.1 (by omega) h.so h.xo h.nt) (by decide) hcs hsl (by decide) rfl (Nat.le_of_ble_eq_true rfl) (fun v N hp => ?_) (fun E N hp => by obtain ⟨kk, h1, -⟩ := hp; cases h1)
  obtain ⟨kk, hv, hk1, hk2, hk3, hk4, hCN, hr⟩ := hp
  cases hv
  have hLN := h.l11 hk2
  have hRN := h.ri hk4
  refine r_istore5 hX dL_law_479 rfl ?_
  refine r_aload_n hX dL_law_481 rfl ?_
  refine r_aload_n hX dL_law_482 rfl ?_
  refine r_iload hX dL_law_483 rfl ?_
  refine r_iconst (v := nI 1) hX dL_law_485 (by decide) ?_
  refine rn_iadd hX dL_law_486 rfl rfl ?_
  refine r_sld hX hsc dL_law_487 (by omega) hL9 ?_
  refine r_vV1 hX dL_law_488 IX11_isVillage ml_L_170 rfl (LX11_s hLN) rfl (t_X11_isVillage hLN hRN h.gs.1 (by omega)) (by decide) (by omega) (by omega) (by decide) rfl (Nat.le_of_ble_eq_true rfl) (fun v2 i2 hq => ?_)
  show J G base X _ _ (wI N i2) _ _ _
  obtain ⟨hfin, hth, hval⟩ := lawfin h hk1 hk2 hk3 hCN hr hq (h.gs.mono (show T ≤ T + 168 by omega))
  refine r_istore6 hX dL_law_491 rfl ?_
  refine r_aload_n hX dL_law_493 rfl ?_
  refine r_cV0 hX dL_law_494 IX11_thrown ml_L_153 rfl (LX11_s hLN) rfl (t_X11_thrown (M := wI N i2) hLN) (by decide) (by omega) (by omega) (by decide) rfl (Nat.le_of_ble_eq_true rfl) ?_
  refine r_iload hX dL_law_497 rfl ?_
  refine r_icmp_eq (tgt := 504) hX dL_law_499 (by decide) (fun _ => ?_) (fun z => absurd hth z)
  refine r_iload hX dL_law_504 rfl ?_
  refine r_if_ne (tgt := 528) hX dL_law_506 (by decide) (fun _ => ?_) (fun c0 => ?_)
  · refine r_goto (tgt := 2758) hX dL_law_528 (by decide) ?_
    exact J.junk (K _ _ hfin) (by repeat first | exact trivial | refine ⟨rfl, ?_⟩)
  · refine r_aload_n hX dL_law_509 rfl ?_
    refine r_iconst (v := nI 0) hX dL_law_510 (by decide) ?_
    refine r_lald (n := 1) hX dL_law_511 (h.on hk2) (vp_in_nI (by omega) (by omega)) ?_
    rw [nI_clamp (by omega)]
    refine r_iload hX dL_law_512 rfl ?_
    refine r_if_eq (tgt := 521) hX dL_law_514 (by decide) (fun c1 => ?_) (fun c1 => ?_)
    · refine r_lconst (n := 0) hX dL_law_521 ?_
      refine r_lcmp hX dL_law_522 ?_
      refine r_if_eq (tgt := 528) hX dL_law_523 (by decide) (fun _ => ?_) (fun z => absurd ((lg_cmp_eq _ _).mpr ((hval c0).trans (by unfold fB; rw [if_pos c1]; rfl))) z)
      refine r_goto (tgt := 2758) hX dL_law_528 (by decide) ?_
      exact J.junk (K _ _ hfin) (by repeat first | exact trivial | refine ⟨rfl, ?_⟩)
    · refine r_lconst (n := 1) hX dL_law_517 ?_
      refine r_goto (tgt := 522) hX dL_law_518 (by decide) ?_
      refine r_lcmp hX dL_law_522 ?_
      refine r_if_eq (tgt := 528) hX dL_law_523 (by decide) (fun _ => ?_) (fun z => absurd ((lg_cmp_eq _ _).mpr ((hval c0).trans (by unfold fB; rw [if_neg c1]; rfl))) z)
      refine r_goto (tgt := 2758) hX dL_law_528 (by decide) ?_
      exact J.junk (K _ _ hfin) (by repeat first | exact trivial | refine ⟨rfl, ?_⟩)
set_option maxHeartbeats 4000000 in
set_option maxRecDepth 20000 in
theorem law_7 {X : Cx} {b L : Nat} {xs : Nat → Int32} (hX : okL G base X) (hnc : ncX X) (hsc : scX X base b L xs) : Case G base X b L xs 531 := by
  intro M x r o T i cs sl σ h hT hi hL9 hcs hsl K
  show J G base X cs sl M 531 (lcs b x r o i) []
  refine r_aload_n hX dL_law_531 rfl ?_
  refine r_callV (As := []) (rest := []) hX dL_law_532 IX10_placeNamed ml_L_171 rfl (LX10_s h.lx) rfl (t_c_placeNamed h.lx h.ci h.gs.1 (by omega)) (by decide) hcs hsl (by decide) rfl (Nat.le_of_ble_eq_true rfl) (fun v N hp => ?_) (fun E N hp => ?_)
  · obtain ⟨w, hw, rfl, hk, hCN⟩ := hp.ret h.lx h.nt
    have hLN := h.l11 hk.2.1
    have hRN := h.ri hk.2.2.2.1
    refine r_aload_n hX dL_law_535 rfl ?_
    refine r_vV0 hX dL_law_536 IX11_placeNamed ml_L_174 rfl (LX11_s hLN) rfl (t_X11_placeNamed hLN hRN h.gs.1 (by omega)) (by decide) (by omega) (by omega) (by decide) rfl (Nat.le_of_ble_eq_true rfl) (fun v2 i2 hq => ?_)
    show J G base X _ _ (wI N i2) _ _ _
    obtain ⟨hfin, hveq⟩ := lawfin0 h hk hCN hw hq (h.gs.tl.mono (show T ≤ T + 168 by omega))
    refine r_icmp_eq (tgt := 2758) hX dL_law_539 (by decide) (fun _ => ?_) (fun z => absurd hveq z)
    exact J.junk (K _ _ hfin) (by repeat first | exact trivial | refine ⟨rfl, ?_⟩)
  · obtain ⟨k, hw, -⟩ := hp.thr h.lx h.nt
    unfold rs_placeNamed at hw
    (repeat' split at hw) <;> cases hw
