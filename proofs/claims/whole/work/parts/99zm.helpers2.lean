variable {G : GG} {base : Nat}
theorem IH_isLate : MIh YL_isLate [(0, 16, 19, 25)] := ⟨by decide +kernel, ⟨by decide +kernel, by decide +kernel⟩, by decide +kernel, wt 1072 (by decide +kernel) (by decide +kernel), wt 105 (by decide +kernel) (by decide +kernel), wt 1071 (by decide +kernel) (by decide +kernel)⟩
set_option maxHeartbeats 2000000 in
set_option maxRecDepth 20000 in
theorem t_L_isLate {M : Mm} {x o : Nat} {σ : Sg} {T : Nat} (hL : LX10 M.1 M.2.1 x) (hC : CI (mI M) x σ) (hO : OkN T σ.1) (hT9 : T < 890000) (ho : mS M o = some (14, 1)) (hxo : x + 208 ≤ o) (hT : mT M = none) {p0 : Int32} : CtH G base YL_isLate [(0, 16, 19, 25)] 21 1 6 [.ref x, .int p0, .ref o] M (rH M x o fB (rs_isLate σ p0) σ) := by
  refine CtH.of IH_isLate (by simp [Value.category]) (Nat.le_of_ble_eq_true rfl) (fun X hX hnc => ?_)
  show J G base X 0 0 M 0 [some (.ref x), some (.int p0), some (.ref o), none] []
  refine h_aload_n hX dL_isLate_0 rfl ?_
  refine h_iconst (v := nI 0) hX dL_isLate_1 (by decide) ?_
  refine h_aload_n hX dL_isLate_2 rfl ?_
  refine h_iload_n hX dL_isLate_3 rfl ?_
  refine h_callV (As := [.int p0]) (rest := [.int (nI 0), .ref o]) hX hnc dL_isLate_4 IX10_isLate ml_L_74 rfl (LX10_s hL) rfl (t_c_isLate hL hC hO hT9) (by decide) (by decide) (by decide) (by decide) rfl (Nat.le_of_ble_eq_true rfl) (fun v N hp => ?_) (fun E N hp => ?_)
  · obtain ⟨w, hw, rfl, hk, hCN⟩ := hp.ret hL hT
    have hoN : mS N o = some (14, 1) := (hk.2.1 o (by omega)).1.trans ho
    refine h_if_eq (tgt := 14) hX dL_isLate_7 (by decide) (fun c => ?_) (fun c => ?_)
    · refine h_lconst (n := 0) hX dL_isLate_14 ?_
      refine h_last (n := 1) hX dL_isLate_15 hoN (vp_in_nI (by omega) (by omega)) ?_
      refine h_goto (tgt := 22) hX dL_isLate_16 (by decide) ?_
      refine h_iconst (v := 0) hX dL_isLate_22 (by decide) ?_
      refine h_ireturn hX rfl rfl dL_isLate_23 (by decide) (by decide) ?_
      rw [nI_clamp (by omega)]
      exact rH.y hw hk hCN (by unfold fB; rw [if_pos c]; rfl)
    · refine h_lconst (n := 1) hX dL_isLate_10 ?_
      refine h_goto (tgt := 15) hX dL_isLate_11 (by decide) ?_
      refine h_last (n := 1) hX dL_isLate_15 hoN (vp_in_nI (by omega) (by omega)) ?_
      refine h_goto (tgt := 22) hX dL_isLate_16 (by decide) ?_
      refine h_iconst (v := 0) hX dL_isLate_22 (by decide) ?_
      refine h_ireturn hX rfl rfl dL_isLate_23 (by decide) (by decide) ?_
      rw [nI_clamp (by omega)]
      exact rH.y hw hk hCN (by unfold fB; rw [if_neg c]; rfl)
  · obtain ⟨k, hw, rfl, hk, hCN⟩ := hp.thr hL hT
    obtain rfl : k = 1 := rs_isLate_1 hw
    refine ⟨19, Or.inl ⟨0, 16, 25, [], rfl, by decide, by decide, cl_L_25, by simp [castM, eX]⟩, fun q => ?_⟩
    refine h_astore3 hX dL_isLate_19 rfl ?_
    refine h_iconst (v := nI 1) hX dL_isLate_20 (by decide) ?_
    refine h_ireturn hX rfl rfl dL_isLate_21 (by decide) (by decide) ?_
    exact rH.n hw (by omega) hk hCN
theorem IH_letters : MIh YL_letters [(0, 9, 12, 19)] := ⟨by decide +kernel, ⟨by decide +kernel, by decide +kernel⟩, by decide +kernel, wt 1079 (by decide +kernel) (by decide +kernel), wt 105 (by decide +kernel) (by decide +kernel), wt 1078 (by decide +kernel) (by decide +kernel)⟩
set_option maxHeartbeats 2000000 in
set_option maxRecDepth 20000 in
theorem t_L_letters {M : Mm} {x o : Nat} {σ : Sg} {T : Nat} (hL : LX10 M.1 M.2.1 x) (hC : CI (mI M) x σ) (hO : OkN T σ.1) (hT9 : T < 890000) (ho : mS M o = some (14, 1)) (hxo : x + 208 ≤ o) (hT : mT M = none) {p0 : Int32} : CtH G base YL_letters [(0, 9, 12, 19)] 21 1 6 [.ref x, .int p0, .ref o] M (rH M x o fI (rs_letters σ p0) σ) := by
  refine CtH.of IH_letters (by simp [Value.category]) (Nat.le_of_ble_eq_true rfl) (fun X hX hnc => ?_)
  show J G base X 0 0 M 0 [some (.ref x), some (.int p0), some (.ref o), none] []
  refine h_aload_n hX dL_letters_0 rfl ?_
  refine h_iconst (v := nI 0) hX dL_letters_1 (by decide) ?_
  refine h_aload_n hX dL_letters_2 rfl ?_
  refine h_iload_n hX dL_letters_3 rfl ?_
  refine h_callV (As := [.int p0]) (rest := [.int (nI 0), .ref o]) hX hnc dL_letters_4 IX10_letters ml_L_77 rfl (LX10_s hL) rfl (t_c_letters hL hC hO hT9) (by decide) (by decide) (by decide) (by decide) rfl (Nat.le_of_ble_eq_true rfl) (fun v N hp => ?_) (fun E N hp => ?_)
  · obtain ⟨w, hw, rfl, hk, hCN⟩ := hp.ret hL hT
    have hoN : mS N o = some (14, 1) := (hk.2.1 o (by omega)).1.trans ho
    refine h_i2l hX dL_letters_7 ?_
    refine h_last (n := 1) hX dL_letters_8 hoN (vp_in_nI (by omega) (by omega)) ?_
    refine h_goto (tgt := 15) hX dL_letters_9 (by decide) ?_
    refine h_iconst (v := 0) hX dL_letters_15 (by decide) ?_
    refine h_ireturn hX rfl rfl dL_letters_16 (by decide) (by decide) ?_
    rw [nI_clamp (by omega)]
    exact rH.y hw hk hCN rfl
  · obtain ⟨k, hw, rfl, hk, hCN⟩ := hp.thr hL hT
    obtain rfl : k = 1 := rs_letters_1 hw
    refine ⟨12, Or.inl ⟨0, 9, 19, [], rfl, by decide, by decide, cl_L_19, by simp [castM, eX]⟩, fun q => ?_⟩
    refine h_astore3 hX dL_letters_12 rfl ?_
    refine h_iconst (v := nI 1) hX dL_letters_13 (by decide) ?_
    refine h_ireturn hX rfl rfl dL_letters_14 (by decide) (by decide) ?_
    exact rH.n hw (by omega) hk hCN
theorem IH_promise : MIh YL_promise [(0, 10, 13, 13)] := ⟨by decide +kernel, ⟨by decide +kernel, by decide +kernel⟩, by decide +kernel, wt 1090 (by decide +kernel) (by decide +kernel), wt 105 (by decide +kernel) (by decide +kernel), wt 1089 (by decide +kernel) (by decide +kernel)⟩
set_option maxHeartbeats 2000000 in
set_option maxRecDepth 20000 in
theorem t_L_promise {M : Mm} {x o : Nat} {σ : Sg} {T : Nat} (hL : LX10 M.1 M.2.1 x) (hC : CI (mI M) x σ) (hO : OkN T σ.1) (hT9 : T < 890000) (ho : mS M o = some (14, 1)) (hxo : x + 208 ≤ o) (hT : mT M = none) {p0 p1 : Int32} : CtH G base YL_promise [(0, 10, 13, 13)] 21 1 6 [.ref x, .int p0, .int p1, .ref o] M (rH M x o fI (rs_promise σ p0 p1) σ) := by
  refine CtH.of IH_promise (by simp [Value.category]) (Nat.le_of_ble_eq_true rfl) (fun X hX hnc => ?_)
  show J G base X 0 0 M 0 [some (.ref x), some (.int p0), some (.int p1), some (.ref o), none] []
  refine h_aload_n hX dL_promise_0 rfl ?_
  refine h_iconst (v := nI 0) hX dL_promise_1 (by decide) ?_
  refine h_aload_n hX dL_promise_2 rfl ?_
  refine h_iload_n hX dL_promise_3 rfl ?_
  refine h_iload_n hX dL_promise_4 rfl ?_
  refine h_callV (As := [.int p0, .int p1]) (rest := [.int (nI 0), .ref o]) hX hnc dL_promise_5 IX10_promise ml_L_80 rfl (LX10_s hL) rfl (t_c_promise hL hC hO hT9) (by decide) (by decide) (by decide) (by decide) rfl (Nat.le_of_ble_eq_true rfl) (fun v N hp => ?_) (fun E N hp => ?_)
  · obtain ⟨w, hw, rfl, hk, hCN⟩ := hp.ret hL hT
    have hoN : mS N o = some (14, 1) := (hk.2.1 o (by omega)).1.trans ho
    refine h_i2l hX dL_promise_8 ?_
    refine h_last (n := 1) hX dL_promise_9 hoN (vp_in_nI (by omega) (by omega)) ?_
    refine h_goto (tgt := 17) hX dL_promise_10 (by decide) ?_
    refine h_iconst (v := 0) hX dL_promise_17 (by decide) ?_
    refine h_ireturn hX rfl rfl dL_promise_18 (by decide) (by decide) ?_
    rw [nI_clamp (by omega)]
    exact rH.y hw hk hCN rfl
  · obtain ⟨k, hw, rfl, hk, hCN⟩ := hp.thr hL hT
    obtain rfl : k = 1 := rs_promise_1 hw
    refine ⟨13, Or.inl ⟨0, 10, 13, [], rfl, by decide, by decide, cl_L_13, by simp [castM, eX]⟩, fun q => ?_⟩
    refine h_astore4 hX dL_promise_13 rfl ?_
    refine h_iconst (v := nI 1) hX dL_promise_15 (by decide) ?_
    refine h_ireturn hX rfl rfl dL_promise_16 (by decide) (by decide) ?_
    exact rH.n hw (by omega) hk hCN
theorem IH_promisedDays : MIh YL_promisedDays [(0, 10, 13, 13)] := ⟨by decide +kernel, ⟨by decide +kernel, by decide +kernel⟩, by decide +kernel, wt 1105 (by decide +kernel) (by decide +kernel), wt 105 (by decide +kernel) (by decide +kernel), wt 1104 (by decide +kernel) (by decide +kernel)⟩
set_option maxHeartbeats 2000000 in
set_option maxRecDepth 20000 in
theorem t_L_promisedDays {M : Mm} {x o : Nat} {σ : Sg} {T : Nat} (hL : LX10 M.1 M.2.1 x) (hC : CI (mI M) x σ) (hO : OkN T σ.1) (hT9 : T < 890000) (ho : mS M o = some (14, 1)) (hxo : x + 208 ≤ o) (hT : mT M = none) {p0 p1 : Int32} : CtH G base YL_promisedDays [(0, 10, 13, 13)] 21 1 6 [.ref x, .int p0, .int p1, .ref o] M (rH M x o fI (rs_promisedDays σ p0 p1) σ) := by
  refine CtH.of IH_promisedDays (by simp [Value.category]) (Nat.le_of_ble_eq_true rfl) (fun X hX hnc => ?_)
  show J G base X 0 0 M 0 [some (.ref x), some (.int p0), some (.int p1), some (.ref o), none] []
  refine h_aload_n hX dL_promisedDays_0 rfl ?_
  refine h_iconst (v := nI 0) hX dL_promisedDays_1 (by decide) ?_
  refine h_aload_n hX dL_promisedDays_2 rfl ?_
  refine h_iload_n hX dL_promisedDays_3 rfl ?_
  refine h_iload_n hX dL_promisedDays_4 rfl ?_
  refine h_callV (As := [.int p0, .int p1]) (rest := [.int (nI 0), .ref o]) hX hnc dL_promisedDays_5 IX10_promisedDays ml_L_83 rfl (LX10_s hL) rfl (t_c_promisedDays hL hC hO hT9) (by decide) (by decide) (by decide) (by decide) rfl (Nat.le_of_ble_eq_true rfl) (fun v N hp => ?_) (fun E N hp => ?_)
  · obtain ⟨w, hw, rfl, hk, hCN⟩ := hp.ret hL hT
    have hoN : mS N o = some (14, 1) := (hk.2.1 o (by omega)).1.trans ho
    refine h_i2l hX dL_promisedDays_8 ?_
    refine h_last (n := 1) hX dL_promisedDays_9 hoN (vp_in_nI (by omega) (by omega)) ?_
    refine h_goto (tgt := 17) hX dL_promisedDays_10 (by decide) ?_
    refine h_iconst (v := 0) hX dL_promisedDays_17 (by decide) ?_
    refine h_ireturn hX rfl rfl dL_promisedDays_18 (by decide) (by decide) ?_
    rw [nI_clamp (by omega)]
    exact rH.y hw hk hCN rfl
  · obtain ⟨k, hw, rfl, hk, hCN⟩ := hp.thr hL hT
    obtain rfl : k = 1 := rs_promisedDays_1 hw
    refine ⟨13, Or.inl ⟨0, 10, 13, [], rfl, by decide, by decide, cl_L_13, by simp [castM, eX]⟩, fun q => ?_⟩
    refine h_astore4 hX dL_promisedDays_13 rfl ?_
    refine h_iconst (v := nI 1) hX dL_promisedDays_15 (by decide) ?_
    refine h_ireturn hX rfl rfl dL_promisedDays_16 (by decide) (by decide) ?_
    exact rH.n hw (by omega) hk hCN
theorem IH_reach : MIh YL_reach [(0, 9, 12, 13)] := ⟨by decide +kernel, ⟨by decide +kernel, by decide +kernel⟩, by decide +kernel, wt 1112 (by decide +kernel) (by decide +kernel), wt 105 (by decide +kernel) (by decide +kernel), wt 1111 (by decide +kernel) (by decide +kernel)⟩
set_option maxHeartbeats 2000000 in
set_option maxRecDepth 20000 in
theorem t_L_reach {M : Mm} {x o : Nat} {σ : Sg} {T : Nat} (hL : LX10 M.1 M.2.1 x) (hC : CI (mI M) x σ) (hO : OkN T σ.1) (hT9 : T < 890000) (ho : mS M o = some (14, 1)) (hxo : x + 208 ≤ o) (hT : mT M = none) {p0 : Int32} : CtH G base YL_reach [(0, 9, 12, 13)] 21 1 6 [.ref x, .int p0, .ref o] M (rH M x o fI (rs_reach σ p0) σ) := by
  refine CtH.of IH_reach (by simp [Value.category]) (Nat.le_of_ble_eq_true rfl) (fun X hX hnc => ?_)
  show J G base X 0 0 M 0 [some (.ref x), some (.int p0), some (.ref o), none] []
  refine h_aload_n hX dL_reach_0 rfl ?_
  refine h_iconst (v := nI 0) hX dL_reach_1 (by decide) ?_
  refine h_aload_n hX dL_reach_2 rfl ?_
  refine h_iload_n hX dL_reach_3 rfl ?_
  refine h_callV (As := [.int p0]) (rest := [.int (nI 0), .ref o]) hX hnc dL_reach_4 IX10_reach ml_L_86 rfl (LX10_s hL) rfl (t_c_reach hL hC hO hT9) (by decide) (by decide) (by decide) (by decide) rfl (Nat.le_of_ble_eq_true rfl) (fun v N hp => ?_) (fun E N hp => ?_)
  · obtain ⟨w, hw, rfl, hk, hCN⟩ := hp.ret hL hT
    have hoN : mS N o = some (14, 1) := (hk.2.1 o (by omega)).1.trans ho
    refine h_i2l hX dL_reach_7 ?_
    refine h_last (n := 1) hX dL_reach_8 hoN (vp_in_nI (by omega) (by omega)) ?_
    refine h_goto (tgt := 15) hX dL_reach_9 (by decide) ?_
    refine h_iconst (v := 0) hX dL_reach_15 (by decide) ?_
    refine h_ireturn hX rfl rfl dL_reach_16 (by decide) (by decide) ?_
    rw [nI_clamp (by omega)]
    exact rH.y hw hk hCN rfl
  · obtain ⟨k, hw, rfl, hk, hCN⟩ := hp.thr hL hT
    obtain rfl : k = 1 := rs_reach_1 hw
    refine ⟨12, Or.inl ⟨0, 9, 13, [], rfl, by decide, by decide, cl_L_13, by simp [castM, eX]⟩, fun q => ?_⟩
    refine h_astore3 hX dL_reach_12 rfl ?_
    refine h_iconst (v := nI 1) hX dL_reach_13 (by decide) ?_
    refine h_ireturn hX rfl rfl dL_reach_14 (by decide) (by decide) ?_
    exact rH.n hw (by omega) hk hCN
theorem IH_bestWait : MIh YL_bestWait [(0, 10, 13, 13)] := ⟨by decide +kernel, ⟨by decide +kernel, by decide +kernel⟩, by decide +kernel, wt 1119 (by decide +kernel) (by decide +kernel), wt 105 (by decide +kernel) (by decide +kernel), wt 1118 (by decide +kernel) (by decide +kernel)⟩
set_option maxHeartbeats 2000000 in
set_option maxRecDepth 20000 in
theorem t_L_bestWait {M : Mm} {x o : Nat} {σ : Sg} {T : Nat} (hL : LX10 M.1 M.2.1 x) (hC : CI (mI M) x σ) (hO : OkN T σ.1) (hT9 : T < 890000) (ho : mS M o = some (14, 1)) (hxo : x + 208 ≤ o) (hT : mT M = none) {p0 p1 : Int32} : CtH G base YL_bestWait [(0, 10, 13, 13)] 21 1 6 [.ref x, .int p0, .int p1, .ref o] M (rH M x o fI (rs_bestWait σ p0 p1) σ) := by
  refine CtH.of IH_bestWait (by simp [Value.category]) (Nat.le_of_ble_eq_true rfl) (fun X hX hnc => ?_)
  show J G base X 0 0 M 0 [some (.ref x), some (.int p0), some (.int p1), some (.ref o), none] []
  refine h_aload_n hX dL_bestWait_0 rfl ?_
  refine h_iconst (v := nI 0) hX dL_bestWait_1 (by decide) ?_
  refine h_aload_n hX dL_bestWait_2 rfl ?_
  refine h_iload_n hX dL_bestWait_3 rfl ?_
  refine h_iload_n hX dL_bestWait_4 rfl ?_
  refine h_callV (As := [.int p0, .int p1]) (rest := [.int (nI 0), .ref o]) hX hnc dL_bestWait_5 IX10_bestWait ml_L_89 rfl (LX10_s hL) rfl (t_c_bestWait hL hC hO hT9) (by decide) (by decide) (by decide) (by decide) rfl (Nat.le_of_ble_eq_true rfl) (fun v N hp => ?_) (fun E N hp => ?_)
  · obtain ⟨w, hw, rfl, hk, hCN⟩ := hp.ret hL hT
    have hoN : mS N o = some (14, 1) := (hk.2.1 o (by omega)).1.trans ho
    refine h_i2l hX dL_bestWait_8 ?_
    refine h_last (n := 1) hX dL_bestWait_9 hoN (vp_in_nI (by omega) (by omega)) ?_
    refine h_goto (tgt := 17) hX dL_bestWait_10 (by decide) ?_
    refine h_iconst (v := 0) hX dL_bestWait_17 (by decide) ?_
    refine h_ireturn hX rfl rfl dL_bestWait_18 (by decide) (by decide) ?_
    rw [nI_clamp (by omega)]
    exact rH.y hw hk hCN rfl
  · obtain ⟨k, hw, rfl, hk, hCN⟩ := hp.thr hL hT
    obtain rfl : k = 1 := rs_bestWait_1 hw
    refine ⟨13, Or.inl ⟨0, 10, 13, [], rfl, by decide, by decide, cl_L_13, by simp [castM, eX]⟩, fun q => ?_⟩
    refine h_astore4 hX dL_bestWait_13 rfl ?_
    refine h_iconst (v := nI 1) hX dL_bestWait_15 (by decide) ?_
    refine h_ireturn hX rfl rfl dL_bestWait_16 (by decide) (by decide) ?_
    exact rH.n hw (by omega) hk hCN
theorem IH_expected : MIh YL_expected [(0, 9, 12, 25)] := ⟨by decide +kernel, ⟨by decide +kernel, by decide +kernel⟩, by decide +kernel, wt 1126 (by decide +kernel) (by decide +kernel), wt 105 (by decide +kernel) (by decide +kernel), wt 1125 (by decide +kernel) (by decide +kernel)⟩
set_option maxHeartbeats 2000000 in
set_option maxRecDepth 20000 in
theorem t_L_expected {M : Mm} {x o : Nat} {σ : Sg} {T : Nat} (hL : LX10 M.1 M.2.1 x) (hC : CI (mI M) x σ) (hO : OkN T σ.1) (hT9 : T < 890000) (ho : mS M o = some (14, 1)) (hxo : x + 208 ≤ o) (hT : mT M = none) {p0 : Int32} : CtH G base YL_expected [(0, 9, 12, 25)] 21 1 6 [.ref x, .int p0, .ref o] M (rH M x o fI (rs_expected σ p0) σ) := by
  refine CtH.of IH_expected (by simp [Value.category]) (Nat.le_of_ble_eq_true rfl) (fun X hX hnc => ?_)
  show J G base X 0 0 M 0 [some (.ref x), some (.int p0), some (.ref o), none] []
  refine h_aload_n hX dL_expected_0 rfl ?_
  refine h_iconst (v := nI 0) hX dL_expected_1 (by decide) ?_
  refine h_aload_n hX dL_expected_2 rfl ?_
  refine h_iload_n hX dL_expected_3 rfl ?_
  refine h_callV (As := [.int p0]) (rest := [.int (nI 0), .ref o]) hX hnc dL_expected_4 IX10_expected ml_L_92 rfl (LX10_s hL) rfl (t_c_expected hL hC hO hT9) (by decide) (by decide) (by decide) (by decide) rfl (Nat.le_of_ble_eq_true rfl) (fun v N hp => ?_) (fun E N hp => ?_)
  · obtain ⟨w, hw, rfl, hk, hCN⟩ := hp.ret hL hT
    have hoN : mS N o = some (14, 1) := (hk.2.1 o (by omega)).1.trans ho
    refine h_i2l hX dL_expected_7 ?_
    refine h_last (n := 1) hX dL_expected_8 hoN (vp_in_nI (by omega) (by omega)) ?_
    refine h_goto (tgt := 15) hX dL_expected_9 (by decide) ?_
    refine h_iconst (v := 0) hX dL_expected_15 (by decide) ?_
    refine h_ireturn hX rfl rfl dL_expected_16 (by decide) (by decide) ?_
    rw [nI_clamp (by omega)]
    exact rH.y hw hk hCN rfl
  · obtain ⟨k, hw, rfl, hk, hCN⟩ := hp.thr hL hT
    obtain rfl : k = 1 := rs_expected_1 hw
    refine ⟨12, Or.inl ⟨0, 9, 25, [], rfl, by decide, by decide, cl_L_25, by simp [castM, eX]⟩, fun q => ?_⟩
    refine h_astore3 hX dL_expected_12 rfl ?_
    refine h_iconst (v := nI 1) hX dL_expected_13 (by decide) ?_
    refine h_ireturn hX rfl rfl dL_expected_14 (by decide) (by decide) ?_
    exact rH.n hw (by omega) hk hCN
theorem IH_receipt : MIh YL_receipt [(0, 10, 13, 19)] := ⟨by decide +kernel, ⟨by decide +kernel, by decide +kernel⟩, by decide +kernel, wt 1138 (by decide +kernel) (by decide +kernel), wt 105 (by decide +kernel) (by decide +kernel), wt 1137 (by decide +kernel) (by decide +kernel)⟩
set_option maxHeartbeats 2000000 in
set_option maxRecDepth 20000 in
theorem t_L_receipt {M : Mm} {x o : Nat} {σ : Sg} {T : Nat} (hL : LX10 M.1 M.2.1 x) (hC : CI (mI M) x σ) (hO : OkN T σ.1) (hT9 : T < 890000) (ho : mS M o = some (14, 1)) (hxo : x + 208 ≤ o) (hT : mT M = none) {p0 p1 : Int32} : CtH G base YL_receipt [(0, 10, 13, 19)] 21 1 6 [.ref x, .int p0, .int p1, .ref o] M (rH M x o fI (rs_receipt σ p0 p1) σ) := by
  refine CtH.of IH_receipt (by simp [Value.category]) (Nat.le_of_ble_eq_true rfl) (fun X hX hnc => ?_)
  show J G base X 0 0 M 0 [some (.ref x), some (.int p0), some (.int p1), some (.ref o), none] []
  refine h_aload_n hX dL_receipt_0 rfl ?_
  refine h_iconst (v := nI 0) hX dL_receipt_1 (by decide) ?_
  refine h_aload_n hX dL_receipt_2 rfl ?_
  refine h_iload_n hX dL_receipt_3 rfl ?_
  refine h_iload_n hX dL_receipt_4 rfl ?_
  refine h_callV (As := [.int p0, .int p1]) (rest := [.int (nI 0), .ref o]) hX hnc dL_receipt_5 IX10_receipt ml_L_95 rfl (LX10_s hL) rfl (t_c_receipt hL hC hO hT9) (by decide) (by decide) (by decide) (by decide) rfl (Nat.le_of_ble_eq_true rfl) (fun v N hp => ?_) (fun E N hp => ?_)
  · obtain ⟨w, hw, rfl, hk, hCN⟩ := hp.ret hL hT
    have hoN : mS N o = some (14, 1) := (hk.2.1 o (by omega)).1.trans ho
    refine h_i2l hX dL_receipt_8 ?_
    refine h_last (n := 1) hX dL_receipt_9 hoN (vp_in_nI (by omega) (by omega)) ?_
    refine h_goto (tgt := 17) hX dL_receipt_10 (by decide) ?_
    refine h_iconst (v := 0) hX dL_receipt_17 (by decide) ?_
    refine h_ireturn hX rfl rfl dL_receipt_18 (by decide) (by decide) ?_
    rw [nI_clamp (by omega)]
    exact rH.y hw hk hCN rfl
  · obtain ⟨k, hw, rfl, hk, hCN⟩ := hp.thr hL hT
    obtain rfl : k = 1 := rs_receipt_1 hw
    refine ⟨13, Or.inl ⟨0, 10, 19, [], rfl, by decide, by decide, cl_L_19, by simp [castM, eX]⟩, fun q => ?_⟩
    refine h_astore4 hX dL_receipt_13 rfl ?_
    refine h_iconst (v := nI 1) hX dL_receipt_15 (by decide) ?_
    refine h_ireturn hX rfl rfl dL_receipt_16 (by decide) (by decide) ?_
    exact rH.n hw (by omega) hk hCN
theorem IH_lastReceipt : MIh YL_lastReceipt [(0, 9, 12, 25)] := ⟨by decide +kernel, ⟨by decide +kernel, by decide +kernel⟩, by decide +kernel, wt 1150 (by decide +kernel) (by decide +kernel), wt 105 (by decide +kernel) (by decide +kernel), wt 1149 (by decide +kernel) (by decide +kernel)⟩
set_option maxHeartbeats 2000000 in
set_option maxRecDepth 20000 in
theorem t_L_lastReceipt {M : Mm} {x o : Nat} {σ : Sg} {T : Nat} (hL : LX10 M.1 M.2.1 x) (hC : CI (mI M) x σ) (hO : OkN T σ.1) (hT9 : T < 890000) (ho : mS M o = some (14, 1)) (hxo : x + 208 ≤ o) (hT : mT M = none) {p0 : Int32} : CtH G base YL_lastReceipt [(0, 9, 12, 25)] 21 1 6 [.ref x, .int p0, .ref o] M (rH M x o fI (rs_lastReceipt σ p0) σ) := by
  refine CtH.of IH_lastReceipt (by simp [Value.category]) (Nat.le_of_ble_eq_true rfl) (fun X hX hnc => ?_)
  show J G base X 0 0 M 0 [some (.ref x), some (.int p0), some (.ref o), none] []
  refine h_aload_n hX dL_lastReceipt_0 rfl ?_
  refine h_iconst (v := nI 0) hX dL_lastReceipt_1 (by decide) ?_
  refine h_aload_n hX dL_lastReceipt_2 rfl ?_
  refine h_iload_n hX dL_lastReceipt_3 rfl ?_
  refine h_callV (As := [.int p0]) (rest := [.int (nI 0), .ref o]) hX hnc dL_lastReceipt_4 IX10_lastReceipt ml_L_98 rfl (LX10_s hL) rfl (t_c_lastReceipt hL hC hO hT9) (by decide) (by decide) (by decide) (by decide) rfl (Nat.le_of_ble_eq_true rfl) (fun v N hp => ?_) (fun E N hp => ?_)
  · obtain ⟨w, hw, rfl, hk, hCN⟩ := hp.ret hL hT
    have hoN : mS N o = some (14, 1) := (hk.2.1 o (by omega)).1.trans ho
    refine h_i2l hX dL_lastReceipt_7 ?_
    refine h_last (n := 1) hX dL_lastReceipt_8 hoN (vp_in_nI (by omega) (by omega)) ?_
    refine h_goto (tgt := 15) hX dL_lastReceipt_9 (by decide) ?_
    refine h_iconst (v := 0) hX dL_lastReceipt_15 (by decide) ?_
    refine h_ireturn hX rfl rfl dL_lastReceipt_16 (by decide) (by decide) ?_
    rw [nI_clamp (by omega)]
    exact rH.y hw hk hCN rfl
  · obtain ⟨k, hw, rfl, hk, hCN⟩ := hp.thr hL hT
    obtain rfl : k = 1 := rs_lastReceipt_1 hw
    refine ⟨12, Or.inl ⟨0, 9, 25, [], rfl, by decide, by decide, cl_L_25, by simp [castM, eX]⟩, fun q => ?_⟩
    refine h_astore3 hX dL_lastReceipt_12 rfl ?_
    refine h_iconst (v := nI 1) hX dL_lastReceipt_13 (by decide) ?_
    refine h_ireturn hX rfl rfl dL_lastReceipt_14 (by decide) (by decide) ?_
    exact rH.n hw (by omega) hk hCN
theorem IH_lostSack : MIh YL_lostSack [(0, 10, 13, 25), (0, 10, 17, 19)] := ⟨by decide +kernel, ⟨by decide +kernel, by decide +kernel⟩, by decide +kernel, wt 1157 (by decide +kernel) (by decide +kernel), wt 105 (by decide +kernel) (by decide +kernel), wt 1156 (by decide +kernel) (by decide +kernel)⟩
set_option maxHeartbeats 2000000 in
set_option maxRecDepth 20000 in
theorem t_L_lostSack {M : Mm} {x o : Nat} {σ : Sg} {T : Nat} (hL : LX10 M.1 M.2.1 x) (hC : CI (mI M) x σ) (hO : OkN T σ.1) (hT9 : T < 890000) (ho : mS M o = some (14, 1)) (hxo : x + 208 ≤ o) (hT : mT M = none) {p0 p1 : Int32} : CtH G base YL_lostSack [(0, 10, 13, 25), (0, 10, 17, 19)] 21 1 6 [.ref x, .int p0, .int p1, .ref o] M (rH M x o fI (rs_lostSack σ p0 p1) σ) := by
  refine CtH.of IH_lostSack (by simp [Value.category]) (Nat.le_of_ble_eq_true rfl) (fun X hX hnc => ?_)
  show J G base X 0 0 M 0 [some (.ref x), some (.int p0), some (.int p1), some (.ref o), none] []
  refine h_aload_n hX dL_lostSack_0 rfl ?_
  refine h_iconst (v := nI 0) hX dL_lostSack_1 (by decide) ?_
  refine h_aload_n hX dL_lostSack_2 rfl ?_
  refine h_iload_n hX dL_lostSack_3 rfl ?_
  refine h_iload_n hX dL_lostSack_4 rfl ?_
  refine h_callV (As := [.int p0, .int p1]) (rest := [.int (nI 0), .ref o]) hX hnc dL_lostSack_5 IX10_lostSack ml_L_101 rfl (LX10_s hL) rfl (t_c_lostSack hL hC hO hT9) (by decide) (by decide) (by decide) (by decide) rfl (Nat.le_of_ble_eq_true rfl) (fun v N hp => ?_) (fun E N hp => ?_)
  · obtain ⟨w, hw, rfl, hk, hCN⟩ := hp.ret hL hT
    have hoN : mS N o = some (14, 1) := (hk.2.1 o (by omega)).1.trans ho
    refine h_i2l hX dL_lostSack_8 ?_
    refine h_last (n := 1) hX dL_lostSack_9 hoN (vp_in_nI (by omega) (by omega)) ?_
    refine h_goto (tgt := 21) hX dL_lostSack_10 (by decide) ?_
    refine h_iconst (v := 0) hX dL_lostSack_21 (by decide) ?_
    refine h_ireturn hX rfl rfl dL_lostSack_22 (by decide) (by decide) ?_
    rw [nI_clamp (by omega)]
    exact rH.y hw hk hCN rfl
  · obtain ⟨k, hw, rfl, hk, hCN⟩ := hp.thr hL hT
    rcases rs_lostSack_12 hw with rfl | rfl
    · refine ⟨13, Or.inl ⟨0, 10, 25, [(0, 10, 17, 19)], rfl, by decide, by decide, cl_L_25, by simp [castM, eX]⟩, fun q => ?_⟩
      refine h_astore4 hX dL_lostSack_13 rfl ?_
      refine h_iconst (v := nI 1) hX dL_lostSack_15 (by decide) ?_
      refine h_ireturn hX rfl rfl dL_lostSack_16 (by decide) (by decide) ?_
      exact rH.n hw (by omega) hk hCN
    · refine ⟨17, Or.inr ⟨0, 10, 13, 25, 0, 10, 19, [], "java/lang/IndexOutOfBoundsException", rfl, by decide, cl_L_25, by simp [ncM, eX], by decide, by decide, cl_L_19, by simp [castM, eX]⟩, fun q => ?_⟩
      refine h_astore4 hX dL_lostSack_17 rfl ?_
      refine h_iconst (v := nI 2) hX dL_lostSack_19 (by decide) ?_
      refine h_ireturn hX rfl rfl dL_lostSack_20 (by decide) (by decide) ?_
      exact rH.n hw (by omega) hk hCN
theorem IH_post : MIh YL_post [(0, 12, 15, 13), (0, 12, 19, 107)] := ⟨by decide +kernel, ⟨by decide +kernel, by decide +kernel⟩, by decide +kernel, wt 1168 (by decide +kernel) (by decide +kernel), wt 105 (by decide +kernel) (by decide +kernel), wt 1167 (by decide +kernel) (by decide +kernel)⟩
set_option maxHeartbeats 2000000 in
set_option maxRecDepth 20000 in
theorem t_L_post {M : Mm} {x o : Nat} {σ : Sg} {T : Nat} (hL : LX10 M.1 M.2.1 x) (hC : CI (mI M) x σ) (hO : OkN T σ.1) (hT9 : T < 890000) (ho : mS M o = some (14, 1)) (hxo : x + 208 ≤ o) (hT : mT M = none) {p0 p1 p2 : Int32} : CtH G base YL_post [(0, 12, 15, 13), (0, 12, 19, 107)] 21 1 6 [.ref x, .int p0, .int p1, .int p2, .ref o] M (rH M x o fI (rs_post σ p0 p1 p2) (sg_post σ p0 p1 p2)) := by
  refine CtH.of IH_post (by simp [Value.category]) (Nat.le_of_ble_eq_true rfl) (fun X hX hnc => ?_)
  show J G base X 0 0 M 0 [some (.ref x), some (.int p0), some (.int p1), some (.int p2), some (.ref o), none] []
  refine h_aload hX dL_post_0 rfl ?_
  refine h_iconst (v := nI 0) hX dL_post_2 (by decide) ?_
  refine h_aload_n hX dL_post_3 rfl ?_
  refine h_iload_n hX dL_post_4 rfl ?_
  refine h_iload_n hX dL_post_5 rfl ?_
  refine h_iload_n hX dL_post_6 rfl ?_
  refine h_callV (As := [.int p0, .int p1, .int p2]) (rest := [.int (nI 0), .ref o]) hX hnc dL_post_7 IX10_post ml_L_104 rfl (LX10_s hL) rfl (t_c_post hL hC hO hT9) (by decide) (by decide) (by decide) (by decide) rfl (Nat.le_of_ble_eq_true rfl) (fun v N hp => ?_) (fun E N hp => ?_)
  · obtain ⟨w, hw, rfl, hk, hCN⟩ := hp.ret hL hT
    have hoN : mS N o = some (14, 1) := (hk.2.1 o (by omega)).1.trans ho
    refine h_i2l hX dL_post_10 ?_
    refine h_last (n := 1) hX dL_post_11 hoN (vp_in_nI (by omega) (by omega)) ?_
    refine h_goto (tgt := 23) hX dL_post_12 (by decide) ?_
    refine h_iconst (v := 0) hX dL_post_23 (by decide) ?_
    refine h_ireturn hX rfl rfl dL_post_24 (by decide) (by decide) ?_
    rw [nI_clamp (by omega)]
    exact rH.y hw hk hCN rfl
  · obtain ⟨k, hw, rfl, hk, hCN⟩ := hp.thr hL hT
    rcases rs_post_12 hw with rfl | rfl
    · refine ⟨15, Or.inl ⟨0, 12, 13, [(0, 12, 19, 107)], rfl, by decide, by decide, cl_L_13, by simp [castM, eX]⟩, fun q => ?_⟩
      refine h_astore5 hX dL_post_15 rfl ?_
      refine h_iconst (v := nI 1) hX dL_post_17 (by decide) ?_
      refine h_ireturn hX rfl rfl dL_post_18 (by decide) (by decide) ?_
      exact rH.n hw (by omega) hk hCN
    · refine ⟨19, Or.inr ⟨0, 12, 15, 13, 0, 12, 107, [], "java/lang/IllegalArgumentException", rfl, by decide, cl_L_13, by simp [ncM, eX], by decide, by decide, cl_L_107, by simp [castM, eX]⟩, fun q => ?_⟩
      refine h_astore5 hX dL_post_19 rfl ?_
      refine h_iconst (v := nI 2) hX dL_post_21 (by decide) ?_
      refine h_ireturn hX rfl rfl dL_post_22 (by decide) (by decide) ?_
      exact rH.n hw (by omega) hk hCN
theorem IH_run : MIh YL_run [(0, 9, 12, 13)] := ⟨by decide +kernel, ⟨by decide +kernel, by decide +kernel⟩, by decide +kernel, wt 1197 (by decide +kernel) (by decide +kernel), wt 105 (by decide +kernel) (by decide +kernel), wt 1196 (by decide +kernel) (by decide +kernel)⟩
set_option maxHeartbeats 2000000 in
set_option maxRecDepth 20000 in
theorem t_L_run {M : Mm} {x o : Nat} {σ : Sg} {T : Nat} (hL : LX10 M.1 M.2.1 x) (hC : CI (mI M) x σ) (hO : OkN T σ.1) (hT9 : T < 890000) (ho : mS M o = some (14, 1)) (hxo : x + 208 ≤ o) (hT : mT M = none) {p0 : Int32} : CtH G base YL_run [(0, 9, 12, 13)] 21 1 6 [.ref x, .int p0, .ref o] M (rH M x o fI (rs_run σ p0) (sg_run σ p0)) := by
  refine CtH.of IH_run (by simp [Value.category]) (Nat.le_of_ble_eq_true rfl) (fun X hX hnc => ?_)
  show J G base X 0 0 M 0 [some (.ref x), some (.int p0), some (.ref o), none] []
  refine h_aload_n hX dL_run_0 rfl ?_
  refine h_iconst (v := nI 0) hX dL_run_1 (by decide) ?_
  refine h_aload_n hX dL_run_2 rfl ?_
  refine h_iload_n hX dL_run_3 rfl ?_
  refine h_callV (As := [.int p0]) (rest := [.int (nI 0), .ref o]) hX hnc dL_run_4 IX10_run ml_L_109 rfl (LX10_s hL) rfl (t_c_run hL hC hO hT9) (by decide) (by decide) (by decide) (by decide) rfl (Nat.le_of_ble_eq_true rfl) (fun v N hp => ?_) (fun E N hp => ?_)
  · obtain ⟨w, hw, rfl, hk, hCN⟩ := hp.ret hL hT
    have hoN : mS N o = some (14, 1) := (hk.2.1 o (by omega)).1.trans ho
    refine h_i2l hX dL_run_7 ?_
    refine h_last (n := 1) hX dL_run_8 hoN (vp_in_nI (by omega) (by omega)) ?_
    refine h_goto (tgt := 15) hX dL_run_9 (by decide) ?_
    refine h_iconst (v := 0) hX dL_run_15 (by decide) ?_
    refine h_ireturn hX rfl rfl dL_run_16 (by decide) (by decide) ?_
    rw [nI_clamp (by omega)]
    exact rH.y hw hk hCN rfl
  · obtain ⟨k, hw, rfl, hk, hCN⟩ := hp.thr hL hT
    obtain rfl : k = 1 := rs_run_1 hw
    refine ⟨12, Or.inl ⟨0, 9, 13, [], rfl, by decide, by decide, cl_L_13, by simp [castM, eX]⟩, fun q => ?_⟩
    refine h_astore3 hX dL_run_12 rfl ?_
    refine h_iconst (v := nI 1) hX dL_run_13 (by decide) ?_
    refine h_ireturn hX rfl rfl dL_run_14 (by decide) (by decide) ?_
    exact rH.n hw (by omega) hk hCN
theorem IH_lose : MIh YL_lose [(0, 9, 12, 25)] := ⟨by decide +kernel, ⟨by decide +kernel, by decide +kernel⟩, by decide +kernel, wt 1282 (by decide +kernel) (by decide +kernel), wt 105 (by decide +kernel) (by decide +kernel), wt 1281 (by decide +kernel) (by decide +kernel)⟩
set_option maxHeartbeats 2000000 in
set_option maxRecDepth 20000 in
theorem t_L_lose {M : Mm} {x o : Nat} {σ : Sg} {T : Nat} (hL : LX10 M.1 M.2.1 x) (hC : CI (mI M) x σ) (hO : OkN T σ.1) (hT9 : T < 890000) (ho : mS M o = some (14, 1)) (hxo : x + 208 ≤ o) (hT : mT M = none) {p0 : Int32} : CtH G base YL_lose [(0, 9, 12, 25)] 21 1 6 [.ref x, .int p0, .ref o] M (rH M x o fI (rs_lose σ p0) (sg_lose σ p0)) := by
  refine CtH.of IH_lose (by simp [Value.category]) (Nat.le_of_ble_eq_true rfl) (fun X hX hnc => ?_)
  show J G base X 0 0 M 0 [some (.ref x), some (.int p0), some (.ref o), none] []
  refine h_aload_n hX dL_lose_0 rfl ?_
  refine h_iconst (v := nI 0) hX dL_lose_1 (by decide) ?_
  refine h_aload_n hX dL_lose_2 rfl ?_
  refine h_iload_n hX dL_lose_3 rfl ?_
  refine h_callV (As := [.int p0]) (rest := [.int (nI 0), .ref o]) hX hnc dL_lose_4 IX10_lose ml_L_112 rfl (LX10_s hL) rfl (t_c_lose hL hC hO hT9) (by decide) (by decide) (by decide) (by decide) rfl (Nat.le_of_ble_eq_true rfl) (fun v N hp => ?_) (fun E N hp => ?_)
  · obtain ⟨w, hw, rfl, hk, hCN⟩ := hp.ret hL hT
    have hoN : mS N o = some (14, 1) := (hk.2.1 o (by omega)).1.trans ho
    refine h_i2l hX dL_lose_7 ?_
    refine h_last (n := 1) hX dL_lose_8 hoN (vp_in_nI (by omega) (by omega)) ?_
    refine h_goto (tgt := 15) hX dL_lose_9 (by decide) ?_
    refine h_iconst (v := 0) hX dL_lose_15 (by decide) ?_
    refine h_ireturn hX rfl rfl dL_lose_16 (by decide) (by decide) ?_
    rw [nI_clamp (by omega)]
    exact rH.y hw hk hCN rfl
  · obtain ⟨k, hw, rfl, hk, hCN⟩ := hp.thr hL hT
    obtain rfl : k = 1 := rs_lose_1 hw
    refine ⟨12, Or.inl ⟨0, 9, 25, [], rfl, by decide, by decide, cl_L_25, by simp [castM, eX]⟩, fun q => ?_⟩
    refine h_astore3 hX dL_lose_12 rfl ?_
    refine h_iconst (v := nI 1) hX dL_lose_13 (by decide) ?_
    refine h_ireturn hX rfl rfl dL_lose_14 (by decide) (by decide) ?_
    exact rH.n hw (by omega) hk hCN
theorem IH_find : MIh YL_find [(0, 10, 13, 25), (0, 10, 17, 13)] := ⟨by decide +kernel, ⟨by decide +kernel, by decide +kernel⟩, by decide +kernel, wt 1301 (by decide +kernel) (by decide +kernel), wt 105 (by decide +kernel) (by decide +kernel), wt 1300 (by decide +kernel) (by decide +kernel)⟩
set_option maxHeartbeats 2000000 in
set_option maxRecDepth 20000 in
theorem t_L_find {M : Mm} {x o : Nat} {σ : Sg} {T : Nat} (hL : LX10 M.1 M.2.1 x) (hC : CI (mI M) x σ) (hO : OkN T σ.1) (hT9 : T < 890000) (ho : mS M o = some (14, 1)) (hxo : x + 208 ≤ o) (hT : mT M = none) {p0 p1 : Int32} : CtH G base YL_find [(0, 10, 13, 25), (0, 10, 17, 13)] 21 1 6 [.ref x, .int p0, .int p1, .ref o] M (rH M x o fI (rs_find σ p0 p1) (sg_find σ p0 p1)) := by
  refine CtH.of IH_find (by simp [Value.category]) (Nat.le_of_ble_eq_true rfl) (fun X hX hnc => ?_)
  show J G base X 0 0 M 0 [some (.ref x), some (.int p0), some (.int p1), some (.ref o), none] []
  refine h_aload_n hX dL_find_0 rfl ?_
  refine h_iconst (v := nI 0) hX dL_find_1 (by decide) ?_
  refine h_aload_n hX dL_find_2 rfl ?_
  refine h_iload_n hX dL_find_3 rfl ?_
  refine h_iload_n hX dL_find_4 rfl ?_
  refine h_callV (As := [.int p0, .int p1]) (rest := [.int (nI 0), .ref o]) hX hnc dL_find_5 IX10_find ml_L_115 rfl (LX10_s hL) rfl (t_c_find hL hC hO hT9) (by decide) (by decide) (by decide) (by decide) rfl (Nat.le_of_ble_eq_true rfl) (fun v N hp => ?_) (fun E N hp => ?_)
  · obtain ⟨w, hw, rfl, hk, hCN⟩ := hp.ret hL hT
    have hoN : mS N o = some (14, 1) := (hk.2.1 o (by omega)).1.trans ho
    refine h_i2l hX dL_find_8 ?_
    refine h_last (n := 1) hX dL_find_9 hoN (vp_in_nI (by omega) (by omega)) ?_
    refine h_goto (tgt := 21) hX dL_find_10 (by decide) ?_
    refine h_iconst (v := 0) hX dL_find_21 (by decide) ?_
    refine h_ireturn hX rfl rfl dL_find_22 (by decide) (by decide) ?_
    rw [nI_clamp (by omega)]
    exact rH.y hw hk hCN rfl
  · obtain ⟨k, hw, rfl, hk, hCN⟩ := hp.thr hL hT
    rcases rs_find_12 hw with rfl | rfl
    · refine ⟨13, Or.inl ⟨0, 10, 25, [(0, 10, 17, 13)], rfl, by decide, by decide, cl_L_25, by simp [castM, eX]⟩, fun q => ?_⟩
      refine h_astore4 hX dL_find_13 rfl ?_
      refine h_iconst (v := nI 1) hX dL_find_15 (by decide) ?_
      refine h_ireturn hX rfl rfl dL_find_16 (by decide) (by decide) ?_
      exact rH.n hw (by omega) hk hCN
    · refine ⟨17, Or.inr ⟨0, 10, 13, 25, 0, 10, 13, [], "java/lang/IndexOutOfBoundsException", rfl, by decide, cl_L_25, by simp [ncM, eX], by decide, by decide, cl_L_13, by simp [castM, eX]⟩, fun q => ?_⟩
      refine h_astore4 hX dL_find_17 rfl ?_
      refine h_iconst (v := nI 2) hX dL_find_19 (by decide) ?_
      refine h_ireturn hX rfl rfl dL_find_20 (by decide) (by decide) ?_
      exact rH.n hw (by omega) hk hCN
theorem IH_claim : MIh YL_claim [(0, 9, 12, 25), (0, 9, 15, 107)] := ⟨by decide +kernel, ⟨by decide +kernel, by decide +kernel⟩, by decide +kernel, wt 1322 (by decide +kernel) (by decide +kernel), wt 105 (by decide +kernel) (by decide +kernel), wt 1321 (by decide +kernel) (by decide +kernel)⟩
set_option maxHeartbeats 2000000 in
set_option maxRecDepth 20000 in
theorem t_L_claim {M : Mm} {x o : Nat} {σ : Sg} {T : Nat} (hL : LX10 M.1 M.2.1 x) (hC : CI (mI M) x σ) (hO : OkN T σ.1) (hT9 : T < 890000) (ho : mS M o = some (14, 1)) (hxo : x + 208 ≤ o) (hT : mT M = none) {p0 : Int32} : CtH G base YL_claim [(0, 9, 12, 25), (0, 9, 15, 107)] 21 1 6 [.ref x, .int p0, .ref o] M (rH M x o fI (rs_claim σ p0) (sg_claim σ p0)) := by
  refine CtH.of IH_claim (by simp [Value.category]) (Nat.le_of_ble_eq_true rfl) (fun X hX hnc => ?_)
  show J G base X 0 0 M 0 [some (.ref x), some (.int p0), some (.ref o), none] []
  refine h_aload_n hX dL_claim_0 rfl ?_
  refine h_iconst (v := nI 0) hX dL_claim_1 (by decide) ?_
  refine h_aload_n hX dL_claim_2 rfl ?_
  refine h_iload_n hX dL_claim_3 rfl ?_
  refine h_callV (As := [.int p0]) (rest := [.int (nI 0), .ref o]) hX hnc dL_claim_4 IX10_claim ml_L_118 rfl (LX10_s hL) rfl (t_c_claim hL hC hO hT9) (by decide) (by decide) (by decide) (by decide) rfl (Nat.le_of_ble_eq_true rfl) (fun v N hp => ?_) (fun E N hp => ?_)
  · obtain ⟨w, hw, rfl, hk, hCN⟩ := hp.ret hL hT
    have hoN : mS N o = some (14, 1) := (hk.2.1 o (by omega)).1.trans ho
    refine h_i2l hX dL_claim_7 ?_
    refine h_last (n := 1) hX dL_claim_8 hoN (vp_in_nI (by omega) (by omega)) ?_
    refine h_goto (tgt := 18) hX dL_claim_9 (by decide) ?_
    refine h_iconst (v := 0) hX dL_claim_18 (by decide) ?_
    refine h_ireturn hX rfl rfl dL_claim_19 (by decide) (by decide) ?_
    rw [nI_clamp (by omega)]
    exact rH.y hw hk hCN rfl
  · obtain ⟨k, hw, rfl, hk, hCN⟩ := hp.thr hL hT
    rcases rs_claim_12 hw with rfl | rfl
    · refine ⟨12, Or.inl ⟨0, 9, 25, [(0, 9, 15, 107)], rfl, by decide, by decide, cl_L_25, by simp [castM, eX]⟩, fun q => ?_⟩
      refine h_astore3 hX dL_claim_12 rfl ?_
      refine h_iconst (v := nI 1) hX dL_claim_13 (by decide) ?_
      refine h_ireturn hX rfl rfl dL_claim_14 (by decide) (by decide) ?_
      exact rH.n hw (by omega) hk hCN
    · refine ⟨15, Or.inr ⟨0, 9, 12, 25, 0, 9, 107, [], "java/lang/IndexOutOfBoundsException", rfl, by decide, cl_L_25, by simp [ncM, eX], by decide, by decide, cl_L_107, by simp [castM, eX]⟩, fun q => ?_⟩
      refine h_astore3 hX dL_claim_15 rfl ?_
      refine h_iconst (v := nI 2) hX dL_claim_16 (by decide) ?_
      refine h_ireturn hX rfl rfl dL_claim_17 (by decide) (by decide) ?_
      exact rH.n hw (by omega) hk hCN
theorem IH_strike : MIh YL_strike [(0, 17, 20, 25)] := ⟨by decide +kernel, ⟨by decide +kernel, by decide +kernel⟩, by decide +kernel, wt 1329 (by decide +kernel) (by decide +kernel), wt 105 (by decide +kernel) (by decide +kernel), wt 1328 (by decide +kernel) (by decide +kernel)⟩
set_option maxHeartbeats 2000000 in
set_option maxRecDepth 20000 in
theorem t_L_strike {M : Mm} {x o : Nat} {σ : Sg} {T : Nat} (hL : LX10 M.1 M.2.1 x) (hC : CI (mI M) x σ) (hO : OkN T σ.1) (hT9 : T < 890000) (ho : mS M o = some (14, 1)) (hxo : x + 208 ≤ o) (hT : mT M = none) {p0 p1 : Int32} : CtH G base YL_strike [(0, 17, 20, 25)] 21 1 6 [.ref x, .int p0, .int p1, .ref o] M (rH M x o fB (rs_strike σ p0 p1) (sg_strike σ p0 p1)) := by
  refine CtH.of IH_strike (by simp [Value.category]) (Nat.le_of_ble_eq_true rfl) (fun X hX hnc => ?_)
  show J G base X 0 0 M 0 [some (.ref x), some (.int p0), some (.int p1), some (.ref o), none] []
  refine h_aload_n hX dL_strike_0 rfl ?_
  refine h_iconst (v := nI 0) hX dL_strike_1 (by decide) ?_
  refine h_aload_n hX dL_strike_2 rfl ?_
  refine h_iload_n hX dL_strike_3 rfl ?_
  refine h_iload_n hX dL_strike_4 rfl ?_
  refine h_callV (As := [.int p0, .int p1]) (rest := [.int (nI 0), .ref o]) hX hnc dL_strike_5 IX10_strike ml_L_121 rfl (LX10_s hL) rfl (t_c_strike hL hC hO hT9) (by decide) (by decide) (by decide) (by decide) rfl (Nat.le_of_ble_eq_true rfl) (fun v N hp => ?_) (fun E N hp => ?_)
  · obtain ⟨w, hw, rfl, hk, hCN⟩ := hp.ret hL hT
    have hoN : mS N o = some (14, 1) := (hk.2.1 o (by omega)).1.trans ho
    refine h_if_eq (tgt := 15) hX dL_strike_8 (by decide) (fun c => ?_) (fun c => ?_)
    · refine h_lconst (n := 0) hX dL_strike_15 ?_
      refine h_last (n := 1) hX dL_strike_16 hoN (vp_in_nI (by omega) (by omega)) ?_
      refine h_goto (tgt := 24) hX dL_strike_17 (by decide) ?_
      refine h_iconst (v := 0) hX dL_strike_24 (by decide) ?_
      refine h_ireturn hX rfl rfl dL_strike_25 (by decide) (by decide) ?_
      rw [nI_clamp (by omega)]
      exact rH.y hw hk hCN (by unfold fB; rw [if_pos c]; rfl)
    · refine h_lconst (n := 1) hX dL_strike_11 ?_
      refine h_goto (tgt := 16) hX dL_strike_12 (by decide) ?_
      refine h_last (n := 1) hX dL_strike_16 hoN (vp_in_nI (by omega) (by omega)) ?_
      refine h_goto (tgt := 24) hX dL_strike_17 (by decide) ?_
      refine h_iconst (v := 0) hX dL_strike_24 (by decide) ?_
      refine h_ireturn hX rfl rfl dL_strike_25 (by decide) (by decide) ?_
      rw [nI_clamp (by omega)]
      exact rH.y hw hk hCN (by unfold fB; rw [if_neg c]; rfl)
  · obtain ⟨k, hw, rfl, hk, hCN⟩ := hp.thr hL hT
    obtain rfl : k = 1 := rs_strike_1 hw
    refine ⟨20, Or.inl ⟨0, 17, 25, [], rfl, by decide, by decide, cl_L_25, by simp [castM, eX]⟩, fun q => ?_⟩
    refine h_astore4 hX dL_strike_20 rfl ?_
    refine h_iconst (v := nI 1) hX dL_strike_22 (by decide) ?_
    refine h_ireturn hX rfl rfl dL_strike_23 (by decide) (by decide) ?_
    exact rH.n hw (by omega) hk hCN
theorem IH_setCapacity : MIh YL_setCapacity [(0, 9, 12, 13)] := ⟨by decide +kernel, ⟨by decide +kernel, by decide +kernel⟩, by decide +kernel, wt 1336 (by decide +kernel) (by decide +kernel), wt 105 (by decide +kernel) (by decide +kernel), wt 1335 (by decide +kernel) (by decide +kernel)⟩
set_option maxHeartbeats 2000000 in
set_option maxRecDepth 20000 in
theorem t_L_setCapacity {M : Mm} {x o : Nat} {σ : Sg} {T : Nat} (hL : LX10 M.1 M.2.1 x) (hC : CI (mI M) x σ) (hO : OkN T σ.1) (hT9 : T < 890000) (ho : mS M o = some (14, 1)) (hxo : x + 208 ≤ o) (hT : mT M = none) {p0 : Int32} : CtH G base YL_setCapacity [(0, 9, 12, 13)] 21 1 6 [.ref x, .int p0, .ref o] M (rH M x o fI (rs_setCapacity σ p0) (sg_setCapacity σ p0)) := by
  refine CtH.of IH_setCapacity (by simp [Value.category]) (Nat.le_of_ble_eq_true rfl) (fun X hX hnc => ?_)
  show J G base X 0 0 M 0 [some (.ref x), some (.int p0), some (.ref o), none] []
  refine h_aload_n hX dL_setCapacity_0 rfl ?_
  refine h_iconst (v := nI 0) hX dL_setCapacity_1 (by decide) ?_
  refine h_aload_n hX dL_setCapacity_2 rfl ?_
  refine h_iload_n hX dL_setCapacity_3 rfl ?_
  refine h_callV (As := [.int p0]) (rest := [.int (nI 0), .ref o]) hX hnc dL_setCapacity_4 IX10_setCapacity ml_L_125 rfl (LX10_s hL) rfl (t_c_setCapacity hL hC hO hT9) (by decide) (by decide) (by decide) (by decide) rfl (Nat.le_of_ble_eq_true rfl) (fun v N hp => ?_) (fun E N hp => ?_)
  · obtain ⟨w, hw, rfl, hk, hCN⟩ := hp.ret hL hT
    have hoN : mS N o = some (14, 1) := (hk.2.1 o (by omega)).1.trans ho
    refine h_i2l hX dL_setCapacity_7 ?_
    refine h_last (n := 1) hX dL_setCapacity_8 hoN (vp_in_nI (by omega) (by omega)) ?_
    refine h_goto (tgt := 15) hX dL_setCapacity_9 (by decide) ?_
    refine h_iconst (v := 0) hX dL_setCapacity_15 (by decide) ?_
    refine h_ireturn hX rfl rfl dL_setCapacity_16 (by decide) (by decide) ?_
    rw [nI_clamp (by omega)]
    exact rH.y hw hk hCN rfl
  · obtain ⟨k, hw, rfl, hk, hCN⟩ := hp.thr hL hT
    obtain rfl : k = 1 := rs_setCapacity_1 hw
    refine ⟨12, Or.inl ⟨0, 9, 13, [], rfl, by decide, by decide, cl_L_13, by simp [castM, eX]⟩, fun q => ?_⟩
    refine h_astore3 hX dL_setCapacity_12 rfl ?_
    refine h_iconst (v := nI 1) hX dL_setCapacity_13 (by decide) ?_
    refine h_ireturn hX rfl rfl dL_setCapacity_14 (by decide) (by decide) ?_
    exact rH.n hw (by omega) hk hCN
theorem IH_formatLetter : MIh YL_formatLetter [(0, 9, 12, 25)] := ⟨by decide +kernel, ⟨by decide +kernel, by decide +kernel⟩, by decide +kernel, wt 1343 (by decide +kernel) (by decide +kernel), wt 105 (by decide +kernel) (by decide +kernel), wt 1342 (by decide +kernel) (by decide +kernel)⟩
set_option maxHeartbeats 2000000 in
set_option maxRecDepth 20000 in
theorem t_L_formatLetter {M : Mm} {x o : Nat} {σ : Sg} {T : Nat} (hL : LX10 M.1 M.2.1 x) (hC : CI (mI M) x σ) (hO : OkN T σ.1) (hT9 : T < 890000) (ho : mS M o = some (14, 1)) (hxo : x + 208 ≤ o) (hT : mT M = none) {p0 : Int32} : CtH G base YL_formatLetter [(0, 9, 12, 25)] 21 1 6 [.ref x, .int p0, .ref o] M (rH M x o fI (rs_formatLetter σ p0) (sg_formatLetter σ p0)) := by
  refine CtH.of IH_formatLetter (by simp [Value.category]) (Nat.le_of_ble_eq_true rfl) (fun X hX hnc => ?_)
  show J G base X 0 0 M 0 [some (.ref x), some (.int p0), some (.ref o), none] []
  refine h_aload_n hX dL_formatLetter_0 rfl ?_
  refine h_iconst (v := nI 0) hX dL_formatLetter_1 (by decide) ?_
  refine h_aload_n hX dL_formatLetter_2 rfl ?_
  refine h_iload_n hX dL_formatLetter_3 rfl ?_
  refine h_callV (As := [.int p0]) (rest := [.int (nI 0), .ref o]) hX hnc dL_formatLetter_4 IX10_formatLetter ml_L_128 rfl (LX10_s hL) rfl (t_c_formatLetter hL hC hO hT9) (by decide) (by decide) (by decide) (by decide) rfl (Nat.le_of_ble_eq_true rfl) (fun v N hp => ?_) (fun E N hp => ?_)
  · obtain ⟨w, hw, rfl, hk, hCN⟩ := hp.ret hL hT
    have hoN : mS N o = some (14, 1) := (hk.2.1 o (by omega)).1.trans ho
    refine h_i2l hX dL_formatLetter_7 ?_
    refine h_last (n := 1) hX dL_formatLetter_8 hoN (vp_in_nI (by omega) (by omega)) ?_
    refine h_goto (tgt := 15) hX dL_formatLetter_9 (by decide) ?_
    refine h_iconst (v := 0) hX dL_formatLetter_15 (by decide) ?_
    refine h_ireturn hX rfl rfl dL_formatLetter_16 (by decide) (by decide) ?_
    rw [nI_clamp (by omega)]
    exact rH.y hw hk hCN rfl
  · obtain ⟨k, hw, rfl, hk, hCN⟩ := hp.thr hL hT
    obtain rfl : k = 1 := rs_formatLetter_1 hw
    refine ⟨12, Or.inl ⟨0, 9, 25, [], rfl, by decide, by decide, cl_L_25, by simp [castM, eX]⟩, fun q => ?_⟩
    refine h_astore3 hX dL_formatLetter_12 rfl ?_
    refine h_iconst (v := nI 1) hX dL_formatLetter_13 (by decide) ?_
    refine h_ireturn hX rfl rfl dL_formatLetter_14 (by decide) (by decide) ?_
    exact rH.n hw (by omega) hk hCN
theorem IH_formatCarrier : MIh YL_formatCarrier [(0, 9, 12, 25)] := ⟨by decide +kernel, ⟨by decide +kernel, by decide +kernel⟩, by decide +kernel, wt 1382 (by decide +kernel) (by decide +kernel), wt 105 (by decide +kernel) (by decide +kernel), wt 1381 (by decide +kernel) (by decide +kernel)⟩
set_option maxHeartbeats 2000000 in
set_option maxRecDepth 20000 in
theorem t_L_formatCarrier {M : Mm} {x o : Nat} {σ : Sg} {T : Nat} (hL : LX10 M.1 M.2.1 x) (hC : CI (mI M) x σ) (hO : OkN T σ.1) (hT9 : T < 890000) (ho : mS M o = some (14, 1)) (hxo : x + 208 ≤ o) (hT : mT M = none) {p0 : Int32} : CtH G base YL_formatCarrier [(0, 9, 12, 25)] 21 1 6 [.ref x, .int p0, .ref o] M (rH M x o fI (rs_formatCarrier σ p0) (sg_formatCarrier σ p0)) := by
  refine CtH.of IH_formatCarrier (by simp [Value.category]) (Nat.le_of_ble_eq_true rfl) (fun X hX hnc => ?_)
  show J G base X 0 0 M 0 [some (.ref x), some (.int p0), some (.ref o), none] []
  refine h_aload_n hX dL_formatCarrier_0 rfl ?_
  refine h_iconst (v := nI 0) hX dL_formatCarrier_1 (by decide) ?_
  refine h_aload_n hX dL_formatCarrier_2 rfl ?_
  refine h_iload_n hX dL_formatCarrier_3 rfl ?_
  refine h_callV (As := [.int p0]) (rest := [.int (nI 0), .ref o]) hX hnc dL_formatCarrier_4 IX10_formatCarrier ml_L_131 rfl (LX10_s hL) rfl (t_c_formatCarrier hL hC hO hT9) (by decide) (by decide) (by decide) (by decide) rfl (Nat.le_of_ble_eq_true rfl) (fun v N hp => ?_) (fun E N hp => ?_)
  · obtain ⟨w, hw, rfl, hk, hCN⟩ := hp.ret hL hT
    have hoN : mS N o = some (14, 1) := (hk.2.1 o (by omega)).1.trans ho
    refine h_i2l hX dL_formatCarrier_7 ?_
    refine h_last (n := 1) hX dL_formatCarrier_8 hoN (vp_in_nI (by omega) (by omega)) ?_
    refine h_goto (tgt := 15) hX dL_formatCarrier_9 (by decide) ?_
    refine h_iconst (v := 0) hX dL_formatCarrier_15 (by decide) ?_
    refine h_ireturn hX rfl rfl dL_formatCarrier_16 (by decide) (by decide) ?_
    rw [nI_clamp (by omega)]
    exact rH.y hw hk hCN rfl
  · obtain ⟨k, hw, rfl, hk, hCN⟩ := hp.thr hL hT
    obtain rfl : k = 1 := rs_formatCarrier_1 hw
    refine ⟨12, Or.inl ⟨0, 9, 25, [], rfl, by decide, by decide, cl_L_25, by simp [castM, eX]⟩, fun q => ?_⟩
    refine h_astore3 hX dL_formatCarrier_12 rfl ?_
    refine h_iconst (v := nI 1) hX dL_formatCarrier_13 (by decide) ?_
    refine h_ireturn hX rfl rfl dL_formatCarrier_14 (by decide) (by decide) ?_
    exact rH.n hw (by omega) hk hCN
