variable {G : GG} {base : Nat}
set_option maxHeartbeats 4000000 in
set_option maxRecDepth 20000 in
theorem law_38 {X : Cx} {b L : Nat} {xs : Nat → Int32} (hX : okL G base X) (hnc : ncX X) (hsc : scX X base b L xs) : Case G base X b L xs 2324 := by
  intro M x r o T i cs sl σ h hT hi hL9 hcs hsl K
  show J G base X cs sl M 2324 (lcs b x r o i) []
  refine r_aload_n hX dL_law_2324 rfl ?_
  refine r_aload_n hX dL_law_2325 rfl ?_
  refine r_iload hX dL_law_2326 rfl ?_
  refine r_iconst (v := nI 1) hX dL_law_2328 (by decide) ?_
  refine rn_iadd hX dL_law_2329 rfl rfl ?_
  refine r_sld hX hsc dL_law_2330 (by omega) hL9 ?_
  refine r_aload_n hX dL_law_2331 rfl ?_
  refine r_iload hX dL_law_2332 rfl ?_
  refine r_iconst (v := nI 2) hX dL_law_2334 (by decide) ?_
  refine rn_iadd hX dL_law_2335 rfl rfl ?_
  refine r_sld hX hsc dL_law_2336 (by omega) hL9 ?_
  refine r_aload_n hX dL_law_2337 rfl ?_
  refine r_callH (As := [.ref x, .int (xs (i + 1)), .int (xs (i + 2)), .ref o]) (rest := []) hX hnc dL_law_2338 IH_find ml_L_270 rfl (t_L_find h.lx h.ci h.gs.1 (by omega) h.so h.xo h.nt) (by decide) hcs hsl (by decide) rfl (Nat.le_of_ble_eq_true rfl) (fun v N hp => ?_) (fun E N hp => by obtain ⟨kk, h1, -⟩ := hp; cases h1)
  obtain ⟨kk, hv, hk1, hk2, hk3, hk4, hCN, hr⟩ := hp
  cases hv
  have hLN := h.l11 hk2
  have hRN := h.ri hk4
  refine r_istore5 hX dL_law_2341 rfl ?_
  refine r_aload_n hX dL_law_2343 rfl ?_
  refine r_aload_n hX dL_law_2344 rfl ?_
  refine r_iload hX dL_law_2345 rfl ?_
  refine r_iconst (v := nI 1) hX dL_law_2347 (by decide) ?_
  refine rn_iadd hX dL_law_2348 rfl rfl ?_
  refine r_sld hX hsc dL_law_2349 (by omega) hL9 ?_
  refine r_aload_n hX dL_law_2350 rfl ?_
  refine r_iload hX dL_law_2351 rfl ?_
  refine r_iconst (v := nI 2) hX dL_law_2353 (by decide) ?_
  refine rn_iadd hX dL_law_2354 rfl rfl ?_
  refine r_sld hX hsc dL_law_2355 (by omega) hL9 ?_
  refine r_vV2 hX dL_law_2356 IX11_find_ ml_L_272 rfl (LX11_s hLN) rfl (t_X11_find_ hLN hRN h.gs.1 (by omega)) (by decide) (by omega) (by omega) (by decide) rfl (Nat.le_of_ble_eq_true rfl) (fun v2 i2 hq => ?_)
  show J G base X _ _ (wI N i2) _ _ _
  obtain ⟨hfin, hth, hval⟩ := lawfin h hk1 hk2 hk3 hCN hr hq (h.gs.find.mono (show T ≤ T + 168 by omega))
  refine r_istore6 hX dL_law_2359 rfl ?_
  refine r_aload_n hX dL_law_2361 rfl ?_
  refine r_cV0 hX dL_law_2362 IX11_thrown ml_L_153 rfl (LX11_s hLN) rfl (t_X11_thrown (M := wI N i2) hLN) (by decide) (by omega) (by omega) (by decide) rfl (Nat.le_of_ble_eq_true rfl) ?_
  refine r_iload hX dL_law_2365 rfl ?_
  refine r_icmp_eq (tgt := 2372) hX dL_law_2367 (by decide) (fun _ => ?_) (fun z => absurd hth z)
  refine r_iload hX dL_law_2372 rfl ?_
  refine r_if_ne (tgt := 2389) hX dL_law_2374 (by decide) (fun _ => ?_) (fun c0 => ?_)
  · refine r_goto (tgt := 2758) hX dL_law_2389 (by decide) ?_
    exact J.junk (K _ _ hfin) (by repeat first | exact trivial | refine ⟨rfl, ?_⟩)
  · refine r_aload_n hX dL_law_2377 rfl ?_
    refine r_iconst (v := nI 0) hX dL_law_2378 (by decide) ?_
    refine r_lald (n := 1) hX dL_law_2379 (h.on hk2) (vp_in_nI (by omega) (by omega)) ?_
    rw [nI_clamp (by omega)]
    refine r_iload hX dL_law_2380 rfl ?_
    refine r_i2l hX dL_law_2382 ?_
    refine r_lcmp hX dL_law_2383 ?_
    refine r_if_eq (tgt := 2389) hX dL_law_2384 (by decide) (fun _ => ?_) (fun z => absurd ((lg_cmp_eq _ _).mpr (hval c0)) z)
    refine r_goto (tgt := 2758) hX dL_law_2389 (by decide) ?_
    exact J.junk (K _ _ hfin) (by repeat first | exact trivial | refine ⟨rfl, ?_⟩)
set_option maxHeartbeats 4000000 in
set_option maxRecDepth 20000 in
theorem law_39 {X : Cx} {b L : Nat} {xs : Nat → Int32} (hX : okL G base X) (hnc : ncX X) (hsc : scX X base b L xs) : Case G base X b L xs 2392 := by
  intro M x r o T i cs sl σ h hT hi hL9 hcs hsl K
  show J G base X cs sl M 2392 (lcs b x r o i) []
  refine r_aload_n hX dL_law_2392 rfl ?_
  refine r_aload_n hX dL_law_2393 rfl ?_
  refine r_iload hX dL_law_2394 rfl ?_
  refine r_iconst (v := nI 1) hX dL_law_2396 (by decide) ?_
  refine rn_iadd hX dL_law_2397 rfl rfl ?_
  refine r_sld hX hsc dL_law_2398 (by omega) hL9 ?_
  refine r_aload_n hX dL_law_2399 rfl ?_
  refine r_callH (As := [.ref x, .int (xs (i + 1)), .ref o]) (rest := []) hX hnc dL_law_2400 IH_claim ml_L_273 rfl (t_L_claim h.lx h.ci h.gs.1 (by omega) h.so h.xo h.nt) (by decide) hcs hsl (by decide) rfl (Nat.le_of_ble_eq_true rfl) (fun v N hp => ?_) (fun E N hp => by obtain ⟨kk, h1, -⟩ := hp; cases h1)
  obtain ⟨kk, hv, hk1, hk2, hk3, hk4, hCN, hr⟩ := hp
  cases hv
  have hLN := h.l11 hk2
  have hRN := h.ri hk4
  refine r_istore5 hX dL_law_2403 rfl ?_
  refine r_aload_n hX dL_law_2405 rfl ?_
  refine r_aload_n hX dL_law_2406 rfl ?_
  refine r_iload hX dL_law_2407 rfl ?_
  refine r_iconst (v := nI 1) hX dL_law_2409 (by decide) ?_
  refine rn_iadd hX dL_law_2410 rfl rfl ?_
  refine r_sld hX hsc dL_law_2411 (by omega) hL9 ?_
  refine r_vV1 hX dL_law_2412 IX11_claim ml_L_275 rfl (LX11_s hLN) rfl (t_X11_claim hLN hRN h.gs.1 (by omega)) (by decide) (by omega) (by omega) (by decide) rfl (Nat.le_of_ble_eq_true rfl) (fun v2 i2 hq => ?_)
  show J G base X _ _ (wI N i2) _ _ _
  obtain ⟨hfin, hth, hval⟩ := lawfin h hk1 hk2 hk3 hCN hr hq (h.gs.claim.mono (show T ≤ T + 168 by omega))
  refine r_istore6 hX dL_law_2415 rfl ?_
  refine r_aload_n hX dL_law_2417 rfl ?_
  refine r_cV0 hX dL_law_2418 IX11_thrown ml_L_153 rfl (LX11_s hLN) rfl (t_X11_thrown (M := wI N i2) hLN) (by decide) (by omega) (by omega) (by decide) rfl (Nat.le_of_ble_eq_true rfl) ?_
  refine r_iload hX dL_law_2421 rfl ?_
  refine r_icmp_eq (tgt := 2428) hX dL_law_2423 (by decide) (fun _ => ?_) (fun z => absurd hth z)
  refine r_iload hX dL_law_2428 rfl ?_
  refine r_if_ne (tgt := 2445) hX dL_law_2430 (by decide) (fun _ => ?_) (fun c0 => ?_)
  · refine r_goto (tgt := 2758) hX dL_law_2445 (by decide) ?_
    exact J.junk (K _ _ hfin) (by repeat first | exact trivial | refine ⟨rfl, ?_⟩)
  · refine r_aload_n hX dL_law_2433 rfl ?_
    refine r_iconst (v := nI 0) hX dL_law_2434 (by decide) ?_
    refine r_lald (n := 1) hX dL_law_2435 (h.on hk2) (vp_in_nI (by omega) (by omega)) ?_
    rw [nI_clamp (by omega)]
    refine r_iload hX dL_law_2436 rfl ?_
    refine r_i2l hX dL_law_2438 ?_
    refine r_lcmp hX dL_law_2439 ?_
    refine r_if_eq (tgt := 2445) hX dL_law_2440 (by decide) (fun _ => ?_) (fun z => absurd ((lg_cmp_eq _ _).mpr (hval c0)) z)
    refine r_goto (tgt := 2758) hX dL_law_2445 (by decide) ?_
    exact J.junk (K _ _ hfin) (by repeat first | exact trivial | refine ⟨rfl, ?_⟩)
set_option maxHeartbeats 4000000 in
set_option maxRecDepth 20000 in
theorem law_40 {X : Cx} {b L : Nat} {xs : Nat → Int32} (hX : okL G base X) (hnc : ncX X) (hsc : scX X base b L xs) : Case G base X b L xs 2448 := by
  intro M x r o T i cs sl σ h hT hi hL9 hcs hsl K
  show J G base X cs sl M 2448 (lcs b x r o i) []
  by_cases hz : xs (i + 2) = 0
  · refine r_aload_n hX dL_law_2448 rfl ?_
    refine r_aload_n hX dL_law_2449 rfl ?_
    refine r_iload hX dL_law_2450 rfl ?_
    refine r_iconst (v := nI 1) hX dL_law_2452 (by decide) ?_
    refine rn_iadd hX dL_law_2453 rfl rfl ?_
    refine r_sld hX hsc dL_law_2454 (by omega) hL9 ?_
    refine r_aload_n hX dL_law_2455 rfl ?_
    refine r_iload hX dL_law_2456 rfl ?_
    refine r_iconst (v := nI 2) hX dL_law_2458 (by decide) ?_
    refine rn_iadd hX dL_law_2459 rfl rfl ?_
    refine r_sld hX hsc dL_law_2460 (by omega) hL9 ?_
    refine r_if_eq (tgt := 2468) hX dL_law_2461 (by decide) (fun _ => ?_) (fun z => absurd hz z)
    refine r_iconst (v := 0) hX dL_law_2468 (by decide) ?_
    refine r_aload_n hX dL_law_2469 rfl ?_
    refine r_callH (As := [.ref x, .int (xs (i + 1)), .int 0, .ref o]) (rest := []) hX hnc dL_law_2470 IH_strike ml_L_276 rfl (t_L_strike h.lx h.ci h.gs.1 (by omega) h.so h.xo h.nt) (by decide) hcs hsl (by decide) rfl (Nat.le_of_ble_eq_true rfl) (fun v N hp => ?_) (fun E N hp => by obtain ⟨kk, h1, -⟩ := hp; cases h1)
    obtain ⟨kk, hv, hk1, hk2, hk3, hk4, hCN, hr⟩ := hp
    cases hv
    have hLN := h.l11 hk2
    have hRN := h.ri hk4
    refine r_istore5 hX dL_law_2473 rfl ?_
    refine r_aload_n hX dL_law_2475 rfl ?_
    refine r_aload_n hX dL_law_2476 rfl ?_
    refine r_iload hX dL_law_2477 rfl ?_
    refine r_iconst (v := nI 1) hX dL_law_2479 (by decide) ?_
    refine rn_iadd hX dL_law_2480 rfl rfl ?_
    refine r_sld hX hsc dL_law_2481 (by omega) hL9 ?_
    refine r_aload_n hX dL_law_2482 rfl ?_
    refine r_iload hX dL_law_2483 rfl ?_
    refine r_iconst (v := nI 2) hX dL_law_2485 (by decide) ?_
    refine rn_iadd hX dL_law_2486 rfl rfl ?_
    refine r_sld hX hsc dL_law_2487 (by omega) hL9 ?_
    refine r_if_eq (tgt := 2495) hX dL_law_2488 (by decide) (fun _ => ?_) (fun z => absurd hz z)
    refine r_iconst (v := 0) hX dL_law_2495 (by decide) ?_
    refine r_vV2 hX dL_law_2496 IX11_strike ml_L_279 rfl (LX11_s hLN) rfl (t_X11_strike hLN hRN h.gs.1 (by omega)) (by decide) (by omega) (by omega) (by decide) rfl (Nat.le_of_ble_eq_true rfl) (fun v2 i2 hq => ?_)
    show J G base X _ _ (wI N i2) _ _ _
    obtain ⟨hfin, hth, hval⟩ := lawfin h hk1 hk2 hk3 hCN hr hq (h.gs.strike.mono (show T ≤ T + 168 by omega))
    refine r_istore6 hX dL_law_2499 rfl ?_
    refine r_aload_n hX dL_law_2501 rfl ?_
    refine r_cV0 hX dL_law_2502 IX11_thrown ml_L_153 rfl (LX11_s hLN) rfl (t_X11_thrown (M := wI N i2) hLN) (by decide) (by omega) (by omega) (by decide) rfl (Nat.le_of_ble_eq_true rfl) ?_
    refine r_iload hX dL_law_2505 rfl ?_
    refine r_icmp_eq (tgt := 2512) hX dL_law_2507 (by decide) (fun _ => ?_) (fun z => absurd hth z)
    refine r_iload hX dL_law_2512 rfl ?_
    refine r_if_ne (tgt := 2536) hX dL_law_2514 (by decide) (fun _ => ?_) (fun c0 => ?_)
    · refine r_goto (tgt := 2758) hX dL_law_2536 (by decide) ?_
      exact J.junk (K _ _ hfin) (by repeat first | exact trivial | refine ⟨rfl, ?_⟩)
    · refine r_aload_n hX dL_law_2517 rfl ?_
      refine r_iconst (v := nI 0) hX dL_law_2518 (by decide) ?_
      refine r_lald (n := 1) hX dL_law_2519 (h.on hk2) (vp_in_nI (by omega) (by omega)) ?_
      rw [nI_clamp (by omega)]
      refine r_iload hX dL_law_2520 rfl ?_
      refine r_if_eq (tgt := 2529) hX dL_law_2522 (by decide) (fun c1 => ?_) (fun c1 => ?_)
      · refine r_lconst (n := 0) hX dL_law_2529 ?_
        refine r_lcmp hX dL_law_2530 ?_
        refine r_if_eq (tgt := 2536) hX dL_law_2531 (by decide) (fun _ => ?_) (fun z => absurd ((lg_cmp_eq _ _).mpr ((hval c0).trans (by unfold fB; rw [if_pos c1]; rfl))) z)
        refine r_goto (tgt := 2758) hX dL_law_2536 (by decide) ?_
        exact J.junk (K _ _ hfin) (by repeat first | exact trivial | refine ⟨rfl, ?_⟩)
      · refine r_lconst (n := 1) hX dL_law_2525 ?_
        refine r_goto (tgt := 2530) hX dL_law_2526 (by decide) ?_
        refine r_lcmp hX dL_law_2530 ?_
        refine r_if_eq (tgt := 2536) hX dL_law_2531 (by decide) (fun _ => ?_) (fun z => absurd ((lg_cmp_eq _ _).mpr ((hval c0).trans (by unfold fB; rw [if_neg c1]; rfl))) z)
        refine r_goto (tgt := 2758) hX dL_law_2536 (by decide) ?_
        exact J.junk (K _ _ hfin) (by repeat first | exact trivial | refine ⟨rfl, ?_⟩)
  · refine r_aload_n hX dL_law_2448 rfl ?_
    refine r_aload_n hX dL_law_2449 rfl ?_
    refine r_iload hX dL_law_2450 rfl ?_
    refine r_iconst (v := nI 1) hX dL_law_2452 (by decide) ?_
    refine rn_iadd hX dL_law_2453 rfl rfl ?_
    refine r_sld hX hsc dL_law_2454 (by omega) hL9 ?_
    refine r_aload_n hX dL_law_2455 rfl ?_
    refine r_iload hX dL_law_2456 rfl ?_
    refine r_iconst (v := nI 2) hX dL_law_2458 (by decide) ?_
    refine rn_iadd hX dL_law_2459 rfl rfl ?_
    refine r_sld hX hsc dL_law_2460 (by omega) hL9 ?_
    refine r_if_eq (tgt := 2468) hX dL_law_2461 (by decide) (fun z => absurd z hz) (fun _ => ?_)
    refine r_iconst (v := 1) hX dL_law_2464 (by decide) ?_
    refine r_goto (tgt := 2469) hX dL_law_2465 (by decide) ?_
    refine r_aload_n hX dL_law_2469 rfl ?_
    refine r_callH (As := [.ref x, .int (xs (i + 1)), .int 1, .ref o]) (rest := []) hX hnc dL_law_2470 IH_strike ml_L_276 rfl (t_L_strike h.lx h.ci h.gs.1 (by omega) h.so h.xo h.nt) (by decide) hcs hsl (by decide) rfl (Nat.le_of_ble_eq_true rfl) (fun v N hp => ?_) (fun E N hp => by obtain ⟨kk, h1, -⟩ := hp; cases h1)
    obtain ⟨kk, hv, hk1, hk2, hk3, hk4, hCN, hr⟩ := hp
    cases hv
    have hLN := h.l11 hk2
    have hRN := h.ri hk4
    refine r_istore5 hX dL_law_2473 rfl ?_
    refine r_aload_n hX dL_law_2475 rfl ?_
    refine r_aload_n hX dL_law_2476 rfl ?_
    refine r_iload hX dL_law_2477 rfl ?_
    refine r_iconst (v := nI 1) hX dL_law_2479 (by decide) ?_
    refine rn_iadd hX dL_law_2480 rfl rfl ?_
    refine r_sld hX hsc dL_law_2481 (by omega) hL9 ?_
    refine r_aload_n hX dL_law_2482 rfl ?_
    refine r_iload hX dL_law_2483 rfl ?_
    refine r_iconst (v := nI 2) hX dL_law_2485 (by decide) ?_
    refine rn_iadd hX dL_law_2486 rfl rfl ?_
    refine r_sld hX hsc dL_law_2487 (by omega) hL9 ?_
    refine r_if_eq (tgt := 2495) hX dL_law_2488 (by decide) (fun z => absurd z hz) (fun _ => ?_)
    refine r_iconst (v := 1) hX dL_law_2491 (by decide) ?_
    refine r_goto (tgt := 2496) hX dL_law_2492 (by decide) ?_
    refine r_vV2 hX dL_law_2496 IX11_strike ml_L_279 rfl (LX11_s hLN) rfl (t_X11_strike hLN hRN h.gs.1 (by omega)) (by decide) (by omega) (by omega) (by decide) rfl (Nat.le_of_ble_eq_true rfl) (fun v2 i2 hq => ?_)
    show J G base X _ _ (wI N i2) _ _ _
    obtain ⟨hfin, hth, hval⟩ := lawfin h hk1 hk2 hk3 hCN hr hq (h.gs.strike.mono (show T ≤ T + 168 by omega))
    refine r_istore6 hX dL_law_2499 rfl ?_
    refine r_aload_n hX dL_law_2501 rfl ?_
    refine r_cV0 hX dL_law_2502 IX11_thrown ml_L_153 rfl (LX11_s hLN) rfl (t_X11_thrown (M := wI N i2) hLN) (by decide) (by omega) (by omega) (by decide) rfl (Nat.le_of_ble_eq_true rfl) ?_
    refine r_iload hX dL_law_2505 rfl ?_
    refine r_icmp_eq (tgt := 2512) hX dL_law_2507 (by decide) (fun _ => ?_) (fun z => absurd hth z)
    refine r_iload hX dL_law_2512 rfl ?_
    refine r_if_ne (tgt := 2536) hX dL_law_2514 (by decide) (fun _ => ?_) (fun c0 => ?_)
    · refine r_goto (tgt := 2758) hX dL_law_2536 (by decide) ?_
      exact J.junk (K _ _ hfin) (by repeat first | exact trivial | refine ⟨rfl, ?_⟩)
    · refine r_aload_n hX dL_law_2517 rfl ?_
      refine r_iconst (v := nI 0) hX dL_law_2518 (by decide) ?_
      refine r_lald (n := 1) hX dL_law_2519 (h.on hk2) (vp_in_nI (by omega) (by omega)) ?_
      rw [nI_clamp (by omega)]
      refine r_iload hX dL_law_2520 rfl ?_
      refine r_if_eq (tgt := 2529) hX dL_law_2522 (by decide) (fun c1 => ?_) (fun c1 => ?_)
      · refine r_lconst (n := 0) hX dL_law_2529 ?_
        refine r_lcmp hX dL_law_2530 ?_
        refine r_if_eq (tgt := 2536) hX dL_law_2531 (by decide) (fun _ => ?_) (fun z => absurd ((lg_cmp_eq _ _).mpr ((hval c0).trans (by unfold fB; rw [if_pos c1]; rfl))) z)
        refine r_goto (tgt := 2758) hX dL_law_2536 (by decide) ?_
        exact J.junk (K _ _ hfin) (by repeat first | exact trivial | refine ⟨rfl, ?_⟩)
      · refine r_lconst (n := 1) hX dL_law_2525 ?_
        refine r_goto (tgt := 2530) hX dL_law_2526 (by decide) ?_
        refine r_lcmp hX dL_law_2530 ?_
        refine r_if_eq (tgt := 2536) hX dL_law_2531 (by decide) (fun _ => ?_) (fun z => absurd ((lg_cmp_eq _ _).mpr ((hval c0).trans (by unfold fB; rw [if_neg c1]; rfl))) z)
        refine r_goto (tgt := 2758) hX dL_law_2536 (by decide) ?_
        exact J.junk (K _ _ hfin) (by repeat first | exact trivial | refine ⟨rfl, ?_⟩)
set_option maxHeartbeats 4000000 in
set_option maxRecDepth 20000 in
theorem law_41 {X : Cx} {b L : Nat} {xs : Nat → Int32} (hX : okL G base X) (hnc : ncX X) (hsc : scX X base b L xs) : Case G base X b L xs 2539 := by
  intro M x r o T i cs sl σ h hT hi hL9 hcs hsl K
  show J G base X cs sl M 2539 (lcs b x r o i) []
  refine r_aload_n hX dL_law_2539 rfl ?_
  refine r_aload_n hX dL_law_2540 rfl ?_
  refine r_iload hX dL_law_2541 rfl ?_
  refine r_iconst (v := nI 1) hX dL_law_2543 (by decide) ?_
  refine rn_iadd hX dL_law_2544 rfl rfl ?_
  refine r_sld hX hsc dL_law_2545 (by omega) hL9 ?_
  refine r_aload_n hX dL_law_2546 rfl ?_
  refine r_callH (As := [.ref x, .int (xs (i + 1)), .ref o]) (rest := []) hX hnc dL_law_2547 IH_setCapacity ml_L_280 rfl (t_L_setCapacity h.lx h.ci h.gs.1 (by omega) h.so h.xo h.nt) (by decide) hcs hsl (by decide) rfl (Nat.le_of_ble_eq_true rfl) (fun v N hp => ?_) (fun E N hp => by obtain ⟨kk, h1, -⟩ := hp; cases h1)
  obtain ⟨kk, hv, hk1, hk2, hk3, hk4, hCN, hr⟩ := hp
  cases hv
  have hLN := h.l11 hk2
  have hRN := h.ri hk4
  refine r_istore5 hX dL_law_2550 rfl ?_
  refine r_aload_n hX dL_law_2552 rfl ?_
  refine r_aload_n hX dL_law_2553 rfl ?_
  refine r_iload hX dL_law_2554 rfl ?_
  refine r_iconst (v := nI 1) hX dL_law_2556 (by decide) ?_
  refine rn_iadd hX dL_law_2557 rfl rfl ?_
  refine r_sld hX hsc dL_law_2558 (by omega) hL9 ?_
  refine r_vV1 hX dL_law_2559 IX11_setCapacity ml_L_282 rfl (LX11_s hLN) rfl (t_X11_setCapacity hLN hRN h.gs.1 (by omega)) (by decide) (by omega) (by omega) (by decide) rfl (Nat.le_of_ble_eq_true rfl) (fun v2 i2 hq => ?_)
  show J G base X _ _ (wI N i2) _ _ _
  obtain ⟨hfin, hth, hval⟩ := lawfin h hk1 hk2 hk3 hCN hr hq (h.gs.setCapacity.mono (show T ≤ T + 168 by omega))
  refine r_istore6 hX dL_law_2562 rfl ?_
  refine r_aload_n hX dL_law_2564 rfl ?_
  refine r_cV0 hX dL_law_2565 IX11_thrown ml_L_153 rfl (LX11_s hLN) rfl (t_X11_thrown (M := wI N i2) hLN) (by decide) (by omega) (by omega) (by decide) rfl (Nat.le_of_ble_eq_true rfl) ?_
  refine r_iload hX dL_law_2568 rfl ?_
  refine r_icmp_eq (tgt := 2575) hX dL_law_2570 (by decide) (fun _ => ?_) (fun z => absurd hth z)
  refine r_iload hX dL_law_2575 rfl ?_
  refine r_if_ne (tgt := 2592) hX dL_law_2577 (by decide) (fun _ => ?_) (fun c0 => ?_)
  · refine r_goto (tgt := 2758) hX dL_law_2592 (by decide) ?_
    exact J.junk (K _ _ hfin) (by repeat first | exact trivial | refine ⟨rfl, ?_⟩)
  · refine r_aload_n hX dL_law_2580 rfl ?_
    refine r_iconst (v := nI 0) hX dL_law_2581 (by decide) ?_
    refine r_lald (n := 1) hX dL_law_2582 (h.on hk2) (vp_in_nI (by omega) (by omega)) ?_
    rw [nI_clamp (by omega)]
    refine r_iload hX dL_law_2583 rfl ?_
    refine r_i2l hX dL_law_2585 ?_
    refine r_lcmp hX dL_law_2586 ?_
    refine r_if_eq (tgt := 2592) hX dL_law_2587 (by decide) (fun _ => ?_) (fun z => absurd ((lg_cmp_eq _ _).mpr (hval c0)) z)
    refine r_goto (tgt := 2758) hX dL_law_2592 (by decide) ?_
    exact J.junk (K _ _ hfin) (by repeat first | exact trivial | refine ⟨rfl, ?_⟩)
set_option maxHeartbeats 4000000 in
set_option maxRecDepth 20000 in
theorem law_42 {X : Cx} {b L : Nat} {xs : Nat → Int32} (hX : okL G base X) (hnc : ncX X) (hsc : scX X base b L xs) : Case G base X b L xs 2595 := by
  intro M x r o T i cs sl σ h hT hi hL9 hcs hsl K
  show J G base X cs sl M 2595 (lcs b x r o i) []
  by_cases hz : σ.2.2.1 = 0
  · refine r_aload_n hX dL_law_2595 rfl ?_
    refine r_callV (As := []) (rest := []) hX dL_law_2596 IX10_undo ml_L_283 rfl (LX10_s h.lx) rfl (t_c_undoZ h.lx h.ci h.gs.1 (by omega) hz) (by decide) hcs hsl (by decide) rfl (Nat.le_of_ble_eq_true rfl) (fun v N hp => ?_) (fun E N hp => ?_)
    · obtain ⟨w, hw, rfl, hk, hCN⟩ := hp.ret h.lx h.nt
      have hLN := h.l11 hk.2.1
      have hRN := h.ri hk.2.2.2.1
      rw [(zP_rs hz).2.1] at hCN
      replace hCN := hCN.pz hz
      rw [(zP_rs hz).1] at hw
      refine r_aload_n hX dL_law_2599 rfl ?_
      refine r_vV0 hX dL_law_2600 IX11_undo ml_L_286 rfl (LX11_s hLN) rfl (t_X11_undo hLN hRN h.gs.1 (by omega)) (by decide) (by omega) (by omega) (by decide) rfl (Nat.le_of_ble_eq_true rfl) (fun v2 i2 hq => ?_)
      show J G base X _ _ (wI N i2) _ _ _
      rw [(zP_rs hz).2.2] at hq
      obtain ⟨hfin, hveq⟩ := lawfin0 h hk hCN hw hq (h.gs.mono (show T ≤ T + 168 by omega))
      refine r_icmp_eq (tgt := 2758) hX dL_law_2603 (by decide) (fun _ => ?_) (fun z => absurd hveq z)
      exact J.junk (K _ _ hfin) (by repeat first | exact trivial | refine ⟨rfl, ?_⟩)
    · obtain ⟨k, hw, -⟩ := hp.thr h.lx h.nt
      unfold rs_undo at hw
      (repeat' split at hw) <;> cases hw
  · refine r_aload_n hX dL_law_2595 rfl ?_
    refine r_callV (As := []) (rest := []) hX dL_law_2596 IX10_undo ml_L_283 rfl (LX10_s h.lx) rfl (t_c_undo h.lx h.ci h.gs.1 (by omega) (h.gs.undoTT hz h.ci.2.2.2.1)) (by decide) hcs hsl (by decide) rfl (Nat.le_of_ble_eq_true rfl) (fun v N hp => ?_) (fun E N hp => ?_)
    · obtain ⟨w, hw, rfl, hk, hCN⟩ := hp.ret h.lx h.nt
      have hLN := h.l11 hk.2.1
      have hRN := h.ri hk.2.2.2.1
      refine r_aload_n hX dL_law_2599 rfl ?_
      refine r_vV0 hX dL_law_2600 IX11_undo ml_L_286 rfl (LX11_s hLN) rfl (t_X11_undo hLN hRN h.gs.1 (by omega)) (by decide) (by omega) (by omega) (by decide) rfl (Nat.le_of_ble_eq_true rfl) (fun v2 i2 hq => ?_)
      show J G base X _ _ (wI N i2) _ _ _
      obtain ⟨hfin, hveq⟩ := lawfin0 h hk hCN hw hq (h.gs.undo.mono (show T ≤ T + 168 by omega))
      refine r_icmp_eq (tgt := 2758) hX dL_law_2603 (by decide) (fun _ => ?_) (fun z => absurd hveq z)
      exact J.junk (K _ _ hfin) (by repeat first | exact trivial | refine ⟨rfl, ?_⟩)
    · obtain ⟨k, hw, -⟩ := hp.thr h.lx h.nt
      unfold rs_undo at hw
      (repeat' split at hw) <;> cases hw
set_option maxHeartbeats 4000000 in
set_option maxRecDepth 20000 in
theorem law_43 {X : Cx} {b L : Nat} {xs : Nat → Int32} (hX : okL G base X) (hnc : ncX X) (hsc : scX X base b L xs) : Case G base X b L xs 2608 := by
  intro M x r o T i cs sl σ h hT hi hL9 hcs hsl K
  show J G base X cs sl M 2608 (lcs b x r o i) []
  refine r_aload_n hX dL_law_2608 rfl ?_
  refine r_callV (As := []) (rest := []) hX dL_law_2609 IX10_undoDepth ml_L_287 rfl (LX10_s h.lx) rfl (t_c_undoDepth h.lx h.ci h.gs.1 (by omega)) (by decide) hcs hsl (by decide) rfl (Nat.le_of_ble_eq_true rfl) (fun v N hp => ?_) (fun E N hp => ?_)
  · obtain ⟨w, hw, rfl, hk, hCN⟩ := hp.ret h.lx h.nt
    have hLN := h.l11 hk.2.1
    have hRN := h.ri hk.2.2.2.1
    refine r_aload_n hX dL_law_2612 rfl ?_
    refine r_vV0 hX dL_law_2613 IX11_undoDepth ml_L_290 rfl (LX11_s hLN) rfl (t_X11_undoDepth hLN hRN h.gs.1 (by omega)) (by decide) (by omega) (by omega) (by decide) rfl (Nat.le_of_ble_eq_true rfl) (fun v2 i2 hq => ?_)
    show J G base X _ _ (wI N i2) _ _ _
    obtain ⟨hfin, hveq⟩ := lawfin0 h hk hCN hw hq (h.gs.mono (show T ≤ T + 168 by omega))
    refine r_icmp_eq (tgt := 2758) hX dL_law_2616 (by decide) (fun _ => ?_) (fun z => absurd hveq z)
    exact J.junk (K _ _ hfin) (by repeat first | exact trivial | refine ⟨rfl, ?_⟩)
  · obtain ⟨k, hw, -⟩ := hp.thr h.lx h.nt
    unfold rs_undoDepth at hw
    (repeat' split at hw) <;> cases hw
set_option maxHeartbeats 4000000 in
set_option maxRecDepth 20000 in
theorem law_44 {X : Cx} {b L : Nat} {xs : Nat → Int32} (hX : okL G base X) (hnc : ncX X) (hsc : scX X base b L xs) : Case G base X b L xs 2621 := by
  intro M x r o T i cs sl σ h hT hi hL9 hcs hsl K
  show J G base X cs sl M 2621 (lcs b x r o i) []
  refine r_aload_n hX dL_law_2621 rfl ?_
  refine r_aload_n hX dL_law_2622 rfl ?_
  refine r_iload hX dL_law_2623 rfl ?_
  refine r_iconst (v := nI 1) hX dL_law_2625 (by decide) ?_
  refine rn_iadd hX dL_law_2626 rfl rfl ?_
  refine r_sld hX hsc dL_law_2627 (by omega) hL9 ?_
  refine r_aload_n hX dL_law_2628 rfl ?_
  refine r_callH (As := [.ref x, .int (xs (i + 1)), .ref o]) (rest := []) hX hnc dL_law_2629 IH_formatLetter ml_L_291 rfl (t_L_formatLetter h.lx h.ci h.gs.1 (by omega) h.so h.xo h.nt) (by decide) hcs hsl (by decide) rfl (Nat.le_of_ble_eq_true rfl) (fun v N hp => ?_) (fun E N hp => by obtain ⟨kk, h1, -⟩ := hp; cases h1)
  obtain ⟨kk, hv, hk1, hk2, hk3, hk4, hCN, hr⟩ := hp
  cases hv
  have hLN := h.l11 hk2
  have hRN := h.ri hk4
  refine r_istore5 hX dL_law_2632 rfl ?_
  refine r_aload_n hX dL_law_2634 rfl ?_
  refine r_aload_n hX dL_law_2635 rfl ?_
  refine r_iload hX dL_law_2636 rfl ?_
  refine r_iconst (v := nI 1) hX dL_law_2638 (by decide) ?_
  refine rn_iadd hX dL_law_2639 rfl rfl ?_
  refine r_sld hX hsc dL_law_2640 (by omega) hL9 ?_
  refine r_vV1 hX dL_law_2641 IX11_formatLetter ml_L_293 rfl (LX11_s hLN) rfl (t_X11_formatLetter hLN hRN h.gs.1 (by omega)) (by decide) (by omega) (by omega) (by decide) rfl (Nat.le_of_ble_eq_true rfl) (fun v2 i2 hq => ?_)
  show J G base X _ _ (wI N i2) _ _ _
  obtain ⟨hfin, hth, hval⟩ := lawfin h hk1 hk2 hk3 hCN hr hq (h.gs.formatLetter.mono (show T ≤ T + 168 by omega))
  refine r_istore6 hX dL_law_2644 rfl ?_
  refine r_aload_n hX dL_law_2646 rfl ?_
  refine r_cV0 hX dL_law_2647 IX11_thrown ml_L_153 rfl (LX11_s hLN) rfl (t_X11_thrown (M := wI N i2) hLN) (by decide) (by omega) (by omega) (by decide) rfl (Nat.le_of_ble_eq_true rfl) ?_
  refine r_iload hX dL_law_2650 rfl ?_
  refine r_icmp_eq (tgt := 2657) hX dL_law_2652 (by decide) (fun _ => ?_) (fun z => absurd hth z)
  refine r_iload hX dL_law_2657 rfl ?_
  refine r_if_ne (tgt := 2674) hX dL_law_2659 (by decide) (fun _ => ?_) (fun c0 => ?_)
  · refine r_goto (tgt := 2758) hX dL_law_2674 (by decide) ?_
    exact J.junk (K _ _ hfin) (by repeat first | exact trivial | refine ⟨rfl, ?_⟩)
  · refine r_aload_n hX dL_law_2662 rfl ?_
    refine r_iconst (v := nI 0) hX dL_law_2663 (by decide) ?_
    refine r_lald (n := 1) hX dL_law_2664 (h.on hk2) (vp_in_nI (by omega) (by omega)) ?_
    rw [nI_clamp (by omega)]
    refine r_iload hX dL_law_2665 rfl ?_
    refine r_i2l hX dL_law_2667 ?_
    refine r_lcmp hX dL_law_2668 ?_
    refine r_if_eq (tgt := 2674) hX dL_law_2669 (by decide) (fun _ => ?_) (fun z => absurd ((lg_cmp_eq _ _).mpr (hval c0)) z)
    refine r_goto (tgt := 2758) hX dL_law_2674 (by decide) ?_
    exact J.junk (K _ _ hfin) (by repeat first | exact trivial | refine ⟨rfl, ?_⟩)
set_option maxHeartbeats 4000000 in
set_option maxRecDepth 20000 in
theorem law_45 {X : Cx} {b L : Nat} {xs : Nat → Int32} (hX : okL G base X) (hnc : ncX X) (hsc : scX X base b L xs) : Case G base X b L xs 2677 := by
  intro M x r o T i cs sl σ h hT hi hL9 hcs hsl K
  show J G base X cs sl M 2677 (lcs b x r o i) []
  refine r_aload_n hX dL_law_2677 rfl ?_
  refine r_aload_n hX dL_law_2678 rfl ?_
  refine r_iload hX dL_law_2679 rfl ?_
  refine r_iconst (v := nI 1) hX dL_law_2681 (by decide) ?_
  refine rn_iadd hX dL_law_2682 rfl rfl ?_
  refine r_sld hX hsc dL_law_2683 (by omega) hL9 ?_
  refine r_aload_n hX dL_law_2684 rfl ?_
  refine r_callH (As := [.ref x, .int (xs (i + 1)), .ref o]) (rest := []) hX hnc dL_law_2685 IH_formatCarrier ml_L_294 rfl (t_L_formatCarrier h.lx h.ci h.gs.1 (by omega) h.so h.xo h.nt) (by decide) hcs hsl (by decide) rfl (Nat.le_of_ble_eq_true rfl) (fun v N hp => ?_) (fun E N hp => by obtain ⟨kk, h1, -⟩ := hp; cases h1)
  obtain ⟨kk, hv, hk1, hk2, hk3, hk4, hCN, hr⟩ := hp
  cases hv
  have hLN := h.l11 hk2
  have hRN := h.ri hk4
  refine r_istore5 hX dL_law_2688 rfl ?_
  refine r_aload_n hX dL_law_2690 rfl ?_
  refine r_aload_n hX dL_law_2691 rfl ?_
  refine r_iload hX dL_law_2692 rfl ?_
  refine r_iconst (v := nI 1) hX dL_law_2694 (by decide) ?_
  refine rn_iadd hX dL_law_2695 rfl rfl ?_
  refine r_sld hX hsc dL_law_2696 (by omega) hL9 ?_
  refine r_vV1 hX dL_law_2697 IX11_formatCarrier ml_L_296 rfl (LX11_s hLN) rfl (t_X11_formatCarrier hLN hRN h.gs.1 (by omega)) (by decide) (by omega) (by omega) (by decide) rfl (Nat.le_of_ble_eq_true rfl) (fun v2 i2 hq => ?_)
  show J G base X _ _ (wI N i2) _ _ _
  obtain ⟨hfin, hth, hval⟩ := lawfin h hk1 hk2 hk3 hCN hr hq (h.gs.formatCarrier.mono (show T ≤ T + 168 by omega))
  refine r_istore6 hX dL_law_2700 rfl ?_
  refine r_aload_n hX dL_law_2702 rfl ?_
  refine r_cV0 hX dL_law_2703 IX11_thrown ml_L_153 rfl (LX11_s hLN) rfl (t_X11_thrown (M := wI N i2) hLN) (by decide) (by omega) (by omega) (by decide) rfl (Nat.le_of_ble_eq_true rfl) ?_
  refine r_iload hX dL_law_2706 rfl ?_
  refine r_icmp_eq (tgt := 2713) hX dL_law_2708 (by decide) (fun _ => ?_) (fun z => absurd hth z)
  refine r_iload hX dL_law_2713 rfl ?_
  refine r_if_ne (tgt := 2730) hX dL_law_2715 (by decide) (fun _ => ?_) (fun c0 => ?_)
  · refine r_goto (tgt := 2758) hX dL_law_2730 (by decide) ?_
    exact J.junk (K _ _ hfin) (by repeat first | exact trivial | refine ⟨rfl, ?_⟩)
  · refine r_aload_n hX dL_law_2718 rfl ?_
    refine r_iconst (v := nI 0) hX dL_law_2719 (by decide) ?_
    refine r_lald (n := 1) hX dL_law_2720 (h.on hk2) (vp_in_nI (by omega) (by omega)) ?_
    rw [nI_clamp (by omega)]
    refine r_iload hX dL_law_2721 rfl ?_
    refine r_i2l hX dL_law_2723 ?_
    refine r_lcmp hX dL_law_2724 ?_
    refine r_if_eq (tgt := 2730) hX dL_law_2725 (by decide) (fun _ => ?_) (fun z => absurd ((lg_cmp_eq _ _).mpr (hval c0)) z)
    refine r_goto (tgt := 2758) hX dL_law_2730 (by decide) ?_
    exact J.junk (K _ _ hfin) (by repeat first | exact trivial | refine ⟨rfl, ?_⟩)
set_option maxHeartbeats 4000000 in
set_option maxRecDepth 20000 in
theorem law_46 {X : Cx} {b L : Nat} {xs : Nat → Int32} (hX : okL G base X) (hnc : ncX X) (hsc : scX X base b L xs) : Case G base X b L xs 2733 := by
  intro M x r o T i cs sl σ h hT hi hL9 hcs hsl K
  show J G base X cs sl M 2733 (lcs b x r o i) []
  refine r_aload_n hX dL_law_2733 rfl ?_
  refine r_aload_n hX dL_law_2734 rfl ?_
  refine r_iload hX dL_law_2735 rfl ?_
  refine r_iconst (v := nI 1) hX dL_law_2737 (by decide) ?_
  refine rn_iadd hX dL_law_2738 rfl rfl ?_
  refine r_sld hX hsc dL_law_2739 (by omega) hL9 ?_
  refine r_callV (As := [.int (xs (i + 1))]) (rest := []) hX dL_law_2740 IX10_formattedByte ml_L_297 rfl (LX10_s h.lx) rfl (t_c_formattedByte h.lx h.ci h.gs.1 (by omega)) (by decide) hcs hsl (by decide) rfl (Nat.le_of_ble_eq_true rfl) (fun v N hp => ?_) (fun E N hp => ?_)
  · obtain ⟨w, hw, rfl, hk, hCN⟩ := hp.ret h.lx h.nt
    have hLN := h.l11 hk.2.1
    have hRN := h.ri hk.2.2.2.1
    refine r_aload_n hX dL_law_2743 rfl ?_
    refine r_aload_n hX dL_law_2744 rfl ?_
    refine r_iload hX dL_law_2745 rfl ?_
    refine r_iconst (v := nI 1) hX dL_law_2747 (by decide) ?_
    refine rn_iadd hX dL_law_2748 rfl rfl ?_
    refine r_sld hX hsc dL_law_2749 (by omega) hL9 ?_
    refine r_vV1 hX dL_law_2750 IX11_formattedByte ml_L_300 rfl (LX11_s hLN) rfl (t_X11_formattedByte hLN hRN h.gs.1 (by omega)) (by decide) (by omega) (by omega) (by decide) rfl (Nat.le_of_ble_eq_true rfl) (fun v2 i2 hq => ?_)
    show J G base X _ _ (wI N i2) _ _ _
    obtain ⟨hfin, hveq⟩ := lawfin0 h hk hCN hw hq (h.gs.mono (show T ≤ T + 168 by omega))
    refine r_icmp_eq (tgt := 2758) hX dL_law_2753 (by decide) (fun _ => ?_) (fun z => absurd hveq z)
    exact J.junk (K _ _ hfin) (by repeat first | exact trivial | refine ⟨rfl, ?_⟩)
  · obtain ⟨k, hw, -⟩ := hp.thr h.lx h.nt
    unfold rs_formattedByte at hw
    (repeat' split at hw) <;> cases hw
