variable {G : GG} {base : Nat}
theorem rs_load_1 {σ : Sg}  {k : Nat} (h : rs_load σ  = .inr k) : k = 1 := by
  unfold rs_load at h
  repeat' split at h
  all_goals first
    | (cases h; done)
    | (cases h; simp; done)
    | (cases h; rfl)
theorem rs_count_1 {σ : Sg} {p0 : Int32} {k : Nat} (h : rs_count σ p0 = .inr k) : k = 1 := by
  unfold rs_count at h
  repeat' split at h
  all_goals first
    | (cases h; done)
    | (cases h; simp; done)
    | (cases h; rfl)
theorem rs_isVillage_1 {σ : Sg} {p0 : Int32} {k : Nat} (h : rs_isVillage σ p0 = .inr k) : k = 1 := by
  unfold rs_isVillage at h
  repeat' split at h
  all_goals first
    | (cases h; done)
    | (cases h; simp; done)
    | (cases h; rfl)
theorem rs_stop_12 {σ : Sg} {p0 p1 p2 : Int32} {k : Nat} (h : rs_stop σ p0 p1 p2 = .inr k) : k = 1 ∨ k = 2 := by
  unfold rs_stop at h
  repeat' split at h
  all_goals first
    | (cases h; done)
    | (cases h; simp; done)
    | (cases h; rfl)
theorem rs_placeOf_1 {σ : Sg} {p0 : Int32} {k : Nat} (h : rs_placeOf σ p0 = .inr k) : k = 1 := by
  unfold rs_placeOf at h
  repeat' split at h
  all_goals first
    | (cases h; done)
    | (cases h; simp; done)
    | (cases h; rfl)
theorem rs_nextStop_1 {σ : Sg} {p0 : Int32} {k : Nat} (h : rs_nextStop σ p0 = .inr k) : k = 1 := by
  unfold rs_nextStop at h
  repeat' split at h
  all_goals first
    | (cases h; done)
    | (cases h; simp; done)
    | (cases h; rfl)
theorem rs_isOnStrike_1 {σ : Sg} {p0 : Int32} {k : Nat} (h : rs_isOnStrike σ p0 = .inr k) : k = 1 := by
  unfold rs_isOnStrike at h
  repeat' split at h
  all_goals first
    | (cases h; done)
    | (cases h; simp; done)
    | (cases h; rfl)
theorem rs_carriersAt_1 {σ : Sg} {p0 : Int32} {k : Nat} (h : rs_carriersAt σ p0 = .inr k) : k = 1 := by
  unfold rs_carriersAt at h
  repeat' split at h
  all_goals first
    | (cases h; done)
    | (cases h; simp; done)
    | (cases h; rfl)
theorem rs_sackOf_1 {σ : Sg} {p0 : Int32} {k : Nat} (h : rs_sackOf σ p0 = .inr k) : k = 1 := by
  unfold rs_sackOf at h
  repeat' split at h
  all_goals first
    | (cases h; done)
    | (cases h; simp; done)
    | (cases h; rfl)
theorem rs_carrierOf_1 {σ : Sg} {p0 : Int32} {k : Nat} (h : rs_carrierOf σ p0 = .inr k) : k = 1 := by
  unfold rs_carrierOf at h
  repeat' split at h
  all_goals first
    | (cases h; done)
    | (cases h; simp; done)
    | (cases h; rfl)
theorem rs_many_1 {σ : Sg} {q : Nat} {kd p0 : Int32} {k : Nat} (h : rs_many σ q kd p0 = .inr k) : k = 1 := by
  unfold rs_many at h
  repeat' split at h
  all_goals first
    | (cases h; done)
    | (cases h; simp; done)
    | (cases h; rfl)
theorem rs_nth_1 {σ : Sg} {q : Nat} {kd p0 p1 : Int32} {k : Nat} (h : rs_nth σ q kd p0 p1 = .inr k) : k = 1 := by
  unfold rs_nth at h
  repeat' split at h
  all_goals first
    | (cases h; done)
    | (cases h; simp; done)
    | (cases h; rfl)
theorem rs_sackValue_1 {σ : Sg} {p0 : Int32} {k : Nat} (h : rs_sackValue σ p0 = .inr k) : k = 1 := by
  unfold rs_sackValue at h
  repeat' split at h
  all_goals first
    | (cases h; done)
    | (cases h; simp; done)
    | (cases h; rfl)
theorem rs_letter_12 {σ : Sg} {p0 p1 : Int32} {k : Nat} (h : rs_letter σ p0 p1 = .inr k) : k = 1 ∨ k = 2 := by
  unfold rs_letter at h
  repeat' split at h
  all_goals first
    | (cases h; done)
    | (cases h; simp; done)
    | (cases h; rfl)
theorem rs_trace_1 {σ : Sg} {p0 : Int32} {k : Nat} (h : rs_trace σ p0 = .inr k) : k = 1 := by
  unfold rs_trace at h
  repeat' split at h
  all_goals first
    | (cases h; done)
    | (cases h; simp; done)
    | (cases h; rfl)
theorem rs_suspects_1 {σ : Sg} {p0 : Int32} {k : Nat} (h : rs_suspects σ p0 = .inr k) : k = 1 := by
  unfold rs_suspects at h
  repeat' split at h
  all_goals first
    | (cases h; done)
    | (cases h; simp; done)
    | (cases h; rfl)
theorem rs_isLate_1 {σ : Sg} {p0 : Int32} {k : Nat} (h : rs_isLate σ p0 = .inr k) : k = 1 := by
  unfold rs_isLate at h
  repeat' split at h
  all_goals first
    | (cases h; done)
    | (cases h; simp; done)
    | (cases h; rfl)
theorem rs_letters_1 {σ : Sg} {p0 : Int32} {k : Nat} (h : rs_letters σ p0 = .inr k) : k = 1 := by
  unfold rs_letters at h
  repeat' split at h
  all_goals first
    | (cases h; done)
    | (cases h; simp; done)
    | (cases h; rfl)
theorem rs_promise_1 {σ : Sg} {p0 p1 : Int32} {k : Nat} (h : rs_promise σ p0 p1 = .inr k) : k = 1 := by
  unfold rs_promise at h
  repeat' split at h
  all_goals first
    | (cases h; done)
    | (cases h; simp; done)
    | (cases h; rfl)
theorem rs_promisedDays_1 {σ : Sg} {p0 p1 : Int32} {k : Nat} (h : rs_promisedDays σ p0 p1 = .inr k) : k = 1 := by
  unfold rs_promisedDays at h
  repeat' split at h
  all_goals first
    | (cases h; done)
    | (cases h; simp; done)
    | (cases h; rfl)
theorem rs_reach_1 {σ : Sg} {p0 : Int32} {k : Nat} (h : rs_reach σ p0 = .inr k) : k = 1 := by
  unfold rs_reach at h
  repeat' split at h
  all_goals first
    | (cases h; done)
    | (cases h; simp; done)
    | (cases h; rfl)
theorem rs_bestWait_1 {σ : Sg} {p0 p1 : Int32} {k : Nat} (h : rs_bestWait σ p0 p1 = .inr k) : k = 1 := by
  unfold rs_bestWait at h
  repeat' split at h
  all_goals first
    | (cases h; done)
    | (cases h; simp; done)
    | (cases h; rfl)
theorem rs_expected_1 {σ : Sg} {p0 : Int32} {k : Nat} (h : rs_expected σ p0 = .inr k) : k = 1 := by
  unfold rs_expected at h
  repeat' split at h
  all_goals first
    | (cases h; done)
    | (cases h; simp; done)
    | (cases h; rfl)
theorem rs_receipt_1 {σ : Sg} {p0 p1 : Int32} {k : Nat} (h : rs_receipt σ p0 p1 = .inr k) : k = 1 := by
  unfold rs_receipt at h
  repeat' split at h
  all_goals first
    | (cases h; done)
    | (cases h; simp; done)
    | (cases h; rfl)
theorem rs_lastReceipt_1 {σ : Sg} {p0 : Int32} {k : Nat} (h : rs_lastReceipt σ p0 = .inr k) : k = 1 := by
  unfold rs_lastReceipt at h
  repeat' split at h
  all_goals first
    | (cases h; done)
    | (cases h; simp; done)
    | (cases h; rfl)
theorem rs_lostSack_12 {σ : Sg} {p0 p1 : Int32} {k : Nat} (h : rs_lostSack σ p0 p1 = .inr k) : k = 1 ∨ k = 2 := by
  unfold rs_lostSack at h
  repeat' split at h
  all_goals first
    | (cases h; done)
    | (cases h; simp; done)
    | (cases h; rfl)
theorem rs_post_12 {σ : Sg} {p0 p1 p2 : Int32} {k : Nat} (h : rs_post σ p0 p1 p2 = .inr k) : k = 1 ∨ k = 2 := by
  unfold rs_post at h
  repeat' split at h
  all_goals first
    | (cases h; done)
    | (cases h; simp; done)
    | (cases h; rfl)
theorem rs_run_1 {σ : Sg} {p0 : Int32} {k : Nat} (h : rs_run σ p0 = .inr k) : k = 1 := by
  unfold rs_run at h
  repeat' split at h
  all_goals first
    | (cases h; done)
    | (cases h; simp; done)
    | (cases h; rfl)
theorem rs_lose_1 {σ : Sg} {p0 : Int32} {k : Nat} (h : rs_lose σ p0 = .inr k) : k = 1 := by
  unfold rs_lose at h
  repeat' split at h
  all_goals first
    | (cases h; done)
    | (cases h; simp; done)
    | (cases h; rfl)
theorem rs_find_12 {σ : Sg} {p0 p1 : Int32} {k : Nat} (h : rs_find σ p0 p1 = .inr k) : k = 1 ∨ k = 2 := by
  unfold rs_find at h
  repeat' split at h
  all_goals first
    | (cases h; done)
    | (cases h; simp; done)
    | (cases h; rfl)
theorem rs_claim_12 {σ : Sg} {p0 : Int32} {k : Nat} (h : rs_claim σ p0 = .inr k) : k = 1 ∨ k = 2 := by
  unfold rs_claim at h
  repeat' split at h
  all_goals first
    | (cases h; done)
    | (cases h; simp; done)
    | (cases h; rfl)
theorem rs_strike_1 {σ : Sg} {p0 p1 : Int32} {k : Nat} (h : rs_strike σ p0 p1 = .inr k) : k = 1 := by
  unfold rs_strike at h
  repeat' split at h
  all_goals first
    | (cases h; done)
    | (cases h; simp; done)
    | (cases h; rfl)
theorem rs_setCapacity_1 {σ : Sg} {p0 : Int32} {k : Nat} (h : rs_setCapacity σ p0 = .inr k) : k = 1 := by
  unfold rs_setCapacity at h
  repeat' split at h
  all_goals first
    | (cases h; done)
    | (cases h; simp; done)
    | (cases h; rfl)
theorem rs_formatLetter_1 {σ : Sg} {p0 : Int32} {k : Nat} (h : rs_formatLetter σ p0 = .inr k) : k = 1 := by
  unfold rs_formatLetter at h
  repeat' split at h
  all_goals first
    | (cases h; done)
    | (cases h; simp; done)
    | (cases h; rfl)
theorem rs_formatCarrier_1 {σ : Sg} {p0 : Int32} {k : Nat} (h : rs_formatCarrier σ p0 = .inr k) : k = 1 := by
  unfold rs_formatCarrier at h
  repeat' split at h
  all_goals first
    | (cases h; done)
    | (cases h; simp; done)
    | (cases h; rfl)
theorem kX.ld {M N : Mm} {x : Nat} (h : kX (uR M (x + 2) 4 (some (x + 1))) N x) : kX M N x :=
  ⟨h.1, fun y hy => ⟨(h.2.1 y hy).1, fun k => ((h.2.1 y hy).2 k).trans (by rw [mR_uR, if_neg (by omega)])⟩, h.2.2.1, h.2.2.2.1, h.2.2.2.2⟩
theorem IH_load : MIh YL_load [(0, 8, 11, 13)] := ⟨by decide +kernel, ⟨by decide +kernel, by decide +kernel⟩, by decide +kernel, wt 575 (by decide +kernel) (by decide +kernel), wt 105 (by decide +kernel) (by decide +kernel), wt 574 (by decide +kernel) (by decide +kernel)⟩
set_option maxHeartbeats 2000000 in
set_option maxRecDepth 20000 in
theorem t_L_load {M : Mm} {x o : Nat} {σ : Sg} {T : Nat} (hL : LX10 M.1 M.2.1 x) (hC : CI (mI M) x σ) (hO : OkN T σ.1) (hT9 : T < 890000) (ho : mS M o = some (14, 1)) (hxo : x + 208 ≤ o) (hT : mT M = none) : CtH G base YL_load [(0, 8, 11, 13)] 21 1 6 [.ref x, .ref o] M (rH M x o fI (rs_load σ) (sg_load σ)) := by
  refine CtH.of IH_load (by simp [Value.category]) (Nat.le_of_ble_eq_true rfl) (fun X hX hnc => ?_)
  show J G base X 0 0 M 0 [some (.ref x), some (.ref o), none] []
  refine h_aload_n hX dL_load_0 rfl ?_
  refine h_iconst (v := nI 0) hX dL_load_1 (by decide) ?_
  refine h_aload_n hX dL_load_2 rfl ?_
  refine h_callV (As := []) (rest := [.int (nI 0), .ref o]) hX hnc dL_load_3 IX10_load ml_L_7 rfl (LX10_s hL) rfl (t_c_load hL hC hO hT9) (by decide) (by decide) (by decide) (by decide) rfl (Nat.le_of_ble_eq_true rfl) (fun v N hp => ?_) (fun E N hp => ?_)
  · obtain ⟨w, hw, rfl, hk0, hCN⟩ := hp.ret (LX10.ld hL) hT
    have hk := kX.ld hk0
    have hoN : mS N o = some (14, 1) := (hk.2.1 o (by omega)).1.trans ho
    refine h_i2l hX dL_load_6 ?_
    refine h_last (n := 1) hX dL_load_7 hoN (vp_in_nI (by omega) (by omega)) ?_
    refine h_goto (tgt := 14) hX dL_load_8 (by decide) ?_
    refine h_iconst (v := 0) hX dL_load_14 (by decide) ?_
    refine h_ireturn hX rfl rfl dL_load_15 (by decide) (by decide) ?_
    rw [nI_clamp (by omega)]
    exact rH.y hw hk hCN rfl
  · obtain ⟨k, hw, rfl, hk0, hCN⟩ := hp.thr (LX10.ld hL) hT
    have hk := kX.ld hk0
    obtain rfl : k = 1 := rs_load_1 hw
    refine ⟨11, Or.inl ⟨0, 8, 13, [], rfl, by decide, by decide, cl_L_13, by simp [castM, eX]⟩, fun q => ?_⟩
    refine h_astore2 hX dL_load_11 rfl ?_
    refine h_iconst (v := nI 1) hX dL_load_12 (by decide) ?_
    refine h_ireturn hX rfl rfl dL_load_13 (by decide) (by decide) ?_
    exact rH.n hw (by omega) hk hCN
theorem IH_count : MIh YL_count [(0, 9, 12, 19)] := ⟨by decide +kernel, ⟨by decide +kernel, by decide +kernel⟩, by decide +kernel, wt 880 (by decide +kernel) (by decide +kernel), wt 105 (by decide +kernel) (by decide +kernel), wt 879 (by decide +kernel) (by decide +kernel)⟩
set_option maxHeartbeats 2000000 in
set_option maxRecDepth 20000 in
theorem t_L_count {M : Mm} {x o : Nat} {σ : Sg} {T : Nat} (hL : LX10 M.1 M.2.1 x) (hC : CI (mI M) x σ) (hO : OkN T σ.1) (hT9 : T < 890000) (ho : mS M o = some (14, 1)) (hxo : x + 208 ≤ o) (hT : mT M = none) {p0 : Int32} : CtH G base YL_count [(0, 9, 12, 19)] 21 1 6 [.ref x, .int p0, .ref o] M (rH M x o fI (rs_count σ p0) σ) := by
  refine CtH.of IH_count (by simp [Value.category]) (Nat.le_of_ble_eq_true rfl) (fun X hX hnc => ?_)
  show J G base X 0 0 M 0 [some (.ref x), some (.int p0), some (.ref o), none] []
  refine h_aload_n hX dL_count_0 rfl ?_
  refine h_iconst (v := nI 0) hX dL_count_1 (by decide) ?_
  refine h_aload_n hX dL_count_2 rfl ?_
  refine h_iload_n hX dL_count_3 rfl ?_
  refine h_callV (As := [.int p0]) (rest := [.int (nI 0), .ref o]) hX hnc dL_count_4 IX10_count ml_L_15 rfl (LX10_s hL) rfl (t_c_count hL hC hO hT9) (by decide) (by decide) (by decide) (by decide) rfl (Nat.le_of_ble_eq_true rfl) (fun v N hp => ?_) (fun E N hp => ?_)
  · obtain ⟨w, hw, rfl, hk, hCN⟩ := hp.ret hL hT
    have hoN : mS N o = some (14, 1) := (hk.2.1 o (by omega)).1.trans ho
    refine h_i2l hX dL_count_7 ?_
    refine h_last (n := 1) hX dL_count_8 hoN (vp_in_nI (by omega) (by omega)) ?_
    refine h_goto (tgt := 15) hX dL_count_9 (by decide) ?_
    refine h_iconst (v := 0) hX dL_count_15 (by decide) ?_
    refine h_ireturn hX rfl rfl dL_count_16 (by decide) (by decide) ?_
    rw [nI_clamp (by omega)]
    exact rH.y hw hk hCN rfl
  · obtain ⟨k, hw, rfl, hk, hCN⟩ := hp.thr hL hT
    obtain rfl : k = 1 := rs_count_1 hw
    refine ⟨12, Or.inl ⟨0, 9, 19, [], rfl, by decide, by decide, cl_L_19, by simp [castM, eX]⟩, fun q => ?_⟩
    refine h_astore3 hX dL_count_12 rfl ?_
    refine h_iconst (v := nI 1) hX dL_count_13 (by decide) ?_
    refine h_ireturn hX rfl rfl dL_count_14 (by decide) (by decide) ?_
    exact rH.n hw (by omega) hk hCN
theorem IH_isVillage : MIh YL_isVillage [(0, 16, 19, 25)] := ⟨by decide +kernel, ⟨by decide +kernel, by decide +kernel⟩, by decide +kernel, wt 903 (by decide +kernel) (by decide +kernel), wt 105 (by decide +kernel) (by decide +kernel), wt 902 (by decide +kernel) (by decide +kernel)⟩
set_option maxHeartbeats 2000000 in
set_option maxRecDepth 20000 in
theorem t_L_isVillage {M : Mm} {x o : Nat} {σ : Sg} {T : Nat} (hL : LX10 M.1 M.2.1 x) (hC : CI (mI M) x σ) (hO : OkN T σ.1) (hT9 : T < 890000) (ho : mS M o = some (14, 1)) (hxo : x + 208 ≤ o) (hT : mT M = none) {p0 : Int32} : CtH G base YL_isVillage [(0, 16, 19, 25)] 21 1 6 [.ref x, .int p0, .ref o] M (rH M x o fB (rs_isVillage σ p0) σ) := by
  refine CtH.of IH_isVillage (by simp [Value.category]) (Nat.le_of_ble_eq_true rfl) (fun X hX hnc => ?_)
  show J G base X 0 0 M 0 [some (.ref x), some (.int p0), some (.ref o), none] []
  refine h_aload_n hX dL_isVillage_0 rfl ?_
  refine h_iconst (v := nI 0) hX dL_isVillage_1 (by decide) ?_
  refine h_aload_n hX dL_isVillage_2 rfl ?_
  refine h_iload_n hX dL_isVillage_3 rfl ?_
  refine h_callV (As := [.int p0]) (rest := [.int (nI 0), .ref o]) hX hnc dL_isVillage_4 IX10_isVillage ml_L_21 rfl (LX10_s hL) rfl (t_c_isVillage hL hC hO hT9) (by decide) (by decide) (by decide) (by decide) rfl (Nat.le_of_ble_eq_true rfl) (fun v N hp => ?_) (fun E N hp => ?_)
  · obtain ⟨w, hw, rfl, hk, hCN⟩ := hp.ret hL hT
    have hoN : mS N o = some (14, 1) := (hk.2.1 o (by omega)).1.trans ho
    refine h_if_eq (tgt := 14) hX dL_isVillage_7 (by decide) (fun c => ?_) (fun c => ?_)
    · refine h_lconst (n := 0) hX dL_isVillage_14 ?_
      refine h_last (n := 1) hX dL_isVillage_15 hoN (vp_in_nI (by omega) (by omega)) ?_
      refine h_goto (tgt := 22) hX dL_isVillage_16 (by decide) ?_
      refine h_iconst (v := 0) hX dL_isVillage_22 (by decide) ?_
      refine h_ireturn hX rfl rfl dL_isVillage_23 (by decide) (by decide) ?_
      rw [nI_clamp (by omega)]
      exact rH.y hw hk hCN (by unfold fB; rw [if_pos c]; rfl)
    · refine h_lconst (n := 1) hX dL_isVillage_10 ?_
      refine h_goto (tgt := 15) hX dL_isVillage_11 (by decide) ?_
      refine h_last (n := 1) hX dL_isVillage_15 hoN (vp_in_nI (by omega) (by omega)) ?_
      refine h_goto (tgt := 22) hX dL_isVillage_16 (by decide) ?_
      refine h_iconst (v := 0) hX dL_isVillage_22 (by decide) ?_
      refine h_ireturn hX rfl rfl dL_isVillage_23 (by decide) (by decide) ?_
      rw [nI_clamp (by omega)]
      exact rH.y hw hk hCN (by unfold fB; rw [if_neg c]; rfl)
  · obtain ⟨k, hw, rfl, hk, hCN⟩ := hp.thr hL hT
    obtain rfl : k = 1 := rs_isVillage_1 hw
    refine ⟨19, Or.inl ⟨0, 16, 25, [], rfl, by decide, by decide, cl_L_25, by simp [castM, eX]⟩, fun q => ?_⟩
    refine h_astore3 hX dL_isVillage_19 rfl ?_
    refine h_iconst (v := nI 1) hX dL_isVillage_20 (by decide) ?_
    refine h_ireturn hX rfl rfl dL_isVillage_21 (by decide) (by decide) ?_
    exact rH.n hw (by omega) hk hCN
theorem IH_stop : MIh YL_stop [(0, 12, 15, 25), (0, 12, 19, 19)] := ⟨by decide +kernel, ⟨by decide +kernel, by decide +kernel⟩, by decide +kernel, wt 929 (by decide +kernel) (by decide +kernel), wt 105 (by decide +kernel) (by decide +kernel), wt 928 (by decide +kernel) (by decide +kernel)⟩
set_option maxHeartbeats 2000000 in
set_option maxRecDepth 20000 in
theorem t_L_stop {M : Mm} {x o : Nat} {σ : Sg} {T : Nat} (hL : LX10 M.1 M.2.1 x) (hC : CI (mI M) x σ) (hO : OkN T σ.1) (hT9 : T < 890000) (hIn : RtIn σ.1) (ho : mS M o = some (14, 1)) (hxo : x + 208 ≤ o) (hT : mT M = none) {p0 p1 p2 : Int32} : CtH G base YL_stop [(0, 12, 15, 25), (0, 12, 19, 19)] 21 1 6 [.ref x, .int p0, .int p1, .int p2, .ref o] M (rH M x o fI (rs_stop σ p0 p1 p2) σ) := by
  refine CtH.of IH_stop (by simp [Value.category]) (Nat.le_of_ble_eq_true rfl) (fun X hX hnc => ?_)
  show J G base X 0 0 M 0 [some (.ref x), some (.int p0), some (.int p1), some (.int p2), some (.ref o), none] []
  refine h_aload hX dL_stop_0 rfl ?_
  refine h_iconst (v := nI 0) hX dL_stop_2 (by decide) ?_
  refine h_aload_n hX dL_stop_3 rfl ?_
  refine h_iload_n hX dL_stop_4 rfl ?_
  refine h_iload_n hX dL_stop_5 rfl ?_
  refine h_iload_n hX dL_stop_6 rfl ?_
  refine h_callV (As := [.int p0, .int p1, .int p2]) (rest := [.int (nI 0), .ref o]) hX hnc dL_stop_7 IX10_stop ml_L_27 rfl (LX10_s hL) rfl (t_c_stop hL hC hO hT9 hIn) (by decide) (by decide) (by decide) (by decide) rfl (Nat.le_of_ble_eq_true rfl) (fun v N hp => ?_) (fun E N hp => ?_)
  · obtain ⟨w, hw, rfl, hk, hCN⟩ := hp.ret hL hT
    have hoN : mS N o = some (14, 1) := (hk.2.1 o (by omega)).1.trans ho
    refine h_i2l hX dL_stop_10 ?_
    refine h_last (n := 1) hX dL_stop_11 hoN (vp_in_nI (by omega) (by omega)) ?_
    refine h_goto (tgt := 23) hX dL_stop_12 (by decide) ?_
    refine h_iconst (v := 0) hX dL_stop_23 (by decide) ?_
    refine h_ireturn hX rfl rfl dL_stop_24 (by decide) (by decide) ?_
    rw [nI_clamp (by omega)]
    exact rH.y hw hk hCN rfl
  · obtain ⟨k, hw, rfl, hk, hCN⟩ := hp.thr hL hT
    rcases rs_stop_12 hw with rfl | rfl
    · refine ⟨15, Or.inl ⟨0, 12, 25, [(0, 12, 19, 19)], rfl, by decide, by decide, cl_L_25, by simp [castM, eX]⟩, fun q => ?_⟩
      refine h_astore5 hX dL_stop_15 rfl ?_
      refine h_iconst (v := nI 1) hX dL_stop_17 (by decide) ?_
      refine h_ireturn hX rfl rfl dL_stop_18 (by decide) (by decide) ?_
      exact rH.n hw (by omega) hk hCN
    · refine ⟨19, Or.inr ⟨0, 12, 15, 25, 0, 12, 19, [], "java/lang/IndexOutOfBoundsException", rfl, by decide, cl_L_25, by simp [ncM, eX], by decide, by decide, cl_L_19, by simp [castM, eX]⟩, fun q => ?_⟩
      refine h_astore5 hX dL_stop_19 rfl ?_
      refine h_iconst (v := nI 2) hX dL_stop_21 (by decide) ?_
      refine h_ireturn hX rfl rfl dL_stop_22 (by decide) (by decide) ?_
      exact rH.n hw (by omega) hk hCN
theorem IH_placeOf : MIh YL_placeOf [(0, 9, 12, 25)] := ⟨by decide +kernel, ⟨by decide +kernel, by decide +kernel⟩, by decide +kernel, wt 941 (by decide +kernel) (by decide +kernel), wt 105 (by decide +kernel) (by decide +kernel), wt 940 (by decide +kernel) (by decide +kernel)⟩
set_option maxHeartbeats 2000000 in
set_option maxRecDepth 20000 in
theorem t_L_placeOf {M : Mm} {x o : Nat} {σ : Sg} {T : Nat} (hL : LX10 M.1 M.2.1 x) (hC : CI (mI M) x σ) (hO : OkN T σ.1) (hT9 : T < 890000) (ho : mS M o = some (14, 1)) (hxo : x + 208 ≤ o) (hT : mT M = none) {p0 : Int32} : CtH G base YL_placeOf [(0, 9, 12, 25)] 21 1 6 [.ref x, .int p0, .ref o] M (rH M x o fI (rs_placeOf σ p0) σ) := by
  refine CtH.of IH_placeOf (by simp [Value.category]) (Nat.le_of_ble_eq_true rfl) (fun X hX hnc => ?_)
  show J G base X 0 0 M 0 [some (.ref x), some (.int p0), some (.ref o), none] []
  refine h_aload_n hX dL_placeOf_0 rfl ?_
  refine h_iconst (v := nI 0) hX dL_placeOf_1 (by decide) ?_
  refine h_aload_n hX dL_placeOf_2 rfl ?_
  refine h_iload_n hX dL_placeOf_3 rfl ?_
  refine h_callV (As := [.int p0]) (rest := [.int (nI 0), .ref o]) hX hnc dL_placeOf_4 IX10_placeOf ml_L_31 rfl (LX10_s hL) rfl (t_c_placeOf hL hC hO hT9) (by decide) (by decide) (by decide) (by decide) rfl (Nat.le_of_ble_eq_true rfl) (fun v N hp => ?_) (fun E N hp => ?_)
  · obtain ⟨w, hw, rfl, hk, hCN⟩ := hp.ret hL hT
    have hoN : mS N o = some (14, 1) := (hk.2.1 o (by omega)).1.trans ho
    refine h_i2l hX dL_placeOf_7 ?_
    refine h_last (n := 1) hX dL_placeOf_8 hoN (vp_in_nI (by omega) (by omega)) ?_
    refine h_goto (tgt := 15) hX dL_placeOf_9 (by decide) ?_
    refine h_iconst (v := 0) hX dL_placeOf_15 (by decide) ?_
    refine h_ireturn hX rfl rfl dL_placeOf_16 (by decide) (by decide) ?_
    rw [nI_clamp (by omega)]
    exact rH.y hw hk hCN rfl
  · obtain ⟨k, hw, rfl, hk, hCN⟩ := hp.thr hL hT
    obtain rfl : k = 1 := rs_placeOf_1 hw
    refine ⟨12, Or.inl ⟨0, 9, 25, [], rfl, by decide, by decide, cl_L_25, by simp [castM, eX]⟩, fun q => ?_⟩
    refine h_astore3 hX dL_placeOf_12 rfl ?_
    refine h_iconst (v := nI 1) hX dL_placeOf_13 (by decide) ?_
    refine h_ireturn hX rfl rfl dL_placeOf_14 (by decide) (by decide) ?_
    exact rH.n hw (by omega) hk hCN
theorem IH_nextStop : MIh YL_nextStop [(0, 9, 12, 25)] := ⟨by decide +kernel, ⟨by decide +kernel, by decide +kernel⟩, by decide +kernel, wt 949 (by decide +kernel) (by decide +kernel), wt 105 (by decide +kernel) (by decide +kernel), wt 948 (by decide +kernel) (by decide +kernel)⟩
set_option maxHeartbeats 2000000 in
set_option maxRecDepth 20000 in
theorem t_L_nextStop {M : Mm} {x o : Nat} {σ : Sg} {T : Nat} (hL : LX10 M.1 M.2.1 x) (hC : CI (mI M) x σ) (hO : OkN T σ.1) (hT9 : T < 890000) (ho : mS M o = some (14, 1)) (hxo : x + 208 ≤ o) (hT : mT M = none) {p0 : Int32} : CtH G base YL_nextStop [(0, 9, 12, 25)] 21 1 6 [.ref x, .int p0, .ref o] M (rH M x o fI (rs_nextStop σ p0) σ) := by
  refine CtH.of IH_nextStop (by simp [Value.category]) (Nat.le_of_ble_eq_true rfl) (fun X hX hnc => ?_)
  show J G base X 0 0 M 0 [some (.ref x), some (.int p0), some (.ref o), none] []
  refine h_aload_n hX dL_nextStop_0 rfl ?_
  refine h_iconst (v := nI 0) hX dL_nextStop_1 (by decide) ?_
  refine h_aload_n hX dL_nextStop_2 rfl ?_
  refine h_iload_n hX dL_nextStop_3 rfl ?_
  refine h_callV (As := [.int p0]) (rest := [.int (nI 0), .ref o]) hX hnc dL_nextStop_4 IX10_nextStop ml_L_34 rfl (LX10_s hL) rfl (t_c_nextStop hL hC hO hT9) (by decide) (by decide) (by decide) (by decide) rfl (Nat.le_of_ble_eq_true rfl) (fun v N hp => ?_) (fun E N hp => ?_)
  · obtain ⟨w, hw, rfl, hk, hCN⟩ := hp.ret hL hT
    have hoN : mS N o = some (14, 1) := (hk.2.1 o (by omega)).1.trans ho
    refine h_i2l hX dL_nextStop_7 ?_
    refine h_last (n := 1) hX dL_nextStop_8 hoN (vp_in_nI (by omega) (by omega)) ?_
    refine h_goto (tgt := 15) hX dL_nextStop_9 (by decide) ?_
    refine h_iconst (v := 0) hX dL_nextStop_15 (by decide) ?_
    refine h_ireturn hX rfl rfl dL_nextStop_16 (by decide) (by decide) ?_
    rw [nI_clamp (by omega)]
    exact rH.y hw hk hCN rfl
  · obtain ⟨k, hw, rfl, hk, hCN⟩ := hp.thr hL hT
    obtain rfl : k = 1 := rs_nextStop_1 hw
    refine ⟨12, Or.inl ⟨0, 9, 25, [], rfl, by decide, by decide, cl_L_25, by simp [castM, eX]⟩, fun q => ?_⟩
    refine h_astore3 hX dL_nextStop_12 rfl ?_
    refine h_iconst (v := nI 1) hX dL_nextStop_13 (by decide) ?_
    refine h_ireturn hX rfl rfl dL_nextStop_14 (by decide) (by decide) ?_
    exact rH.n hw (by omega) hk hCN
theorem IH_isOnStrike : MIh YL_isOnStrike [(0, 16, 19, 25)] := ⟨by decide +kernel, ⟨by decide +kernel, by decide +kernel⟩, by decide +kernel, wt 956 (by decide +kernel) (by decide +kernel), wt 105 (by decide +kernel) (by decide +kernel), wt 955 (by decide +kernel) (by decide +kernel)⟩
set_option maxHeartbeats 2000000 in
set_option maxRecDepth 20000 in
theorem t_L_isOnStrike {M : Mm} {x o : Nat} {σ : Sg} {T : Nat} (hL : LX10 M.1 M.2.1 x) (hC : CI (mI M) x σ) (hO : OkN T σ.1) (hT9 : T < 890000) (ho : mS M o = some (14, 1)) (hxo : x + 208 ≤ o) (hT : mT M = none) {p0 : Int32} : CtH G base YL_isOnStrike [(0, 16, 19, 25)] 21 1 6 [.ref x, .int p0, .ref o] M (rH M x o fB (rs_isOnStrike σ p0) σ) := by
  refine CtH.of IH_isOnStrike (by simp [Value.category]) (Nat.le_of_ble_eq_true rfl) (fun X hX hnc => ?_)
  show J G base X 0 0 M 0 [some (.ref x), some (.int p0), some (.ref o), none] []
  refine h_aload_n hX dL_isOnStrike_0 rfl ?_
  refine h_iconst (v := nI 0) hX dL_isOnStrike_1 (by decide) ?_
  refine h_aload_n hX dL_isOnStrike_2 rfl ?_
  refine h_iload_n hX dL_isOnStrike_3 rfl ?_
  refine h_callV (As := [.int p0]) (rest := [.int (nI 0), .ref o]) hX hnc dL_isOnStrike_4 IX10_isOnStrike ml_L_37 rfl (LX10_s hL) rfl (t_c_isOnStrike hL hC hO hT9) (by decide) (by decide) (by decide) (by decide) rfl (Nat.le_of_ble_eq_true rfl) (fun v N hp => ?_) (fun E N hp => ?_)
  · obtain ⟨w, hw, rfl, hk, hCN⟩ := hp.ret hL hT
    have hoN : mS N o = some (14, 1) := (hk.2.1 o (by omega)).1.trans ho
    refine h_if_eq (tgt := 14) hX dL_isOnStrike_7 (by decide) (fun c => ?_) (fun c => ?_)
    · refine h_lconst (n := 0) hX dL_isOnStrike_14 ?_
      refine h_last (n := 1) hX dL_isOnStrike_15 hoN (vp_in_nI (by omega) (by omega)) ?_
      refine h_goto (tgt := 22) hX dL_isOnStrike_16 (by decide) ?_
      refine h_iconst (v := 0) hX dL_isOnStrike_22 (by decide) ?_
      refine h_ireturn hX rfl rfl dL_isOnStrike_23 (by decide) (by decide) ?_
      rw [nI_clamp (by omega)]
      exact rH.y hw hk hCN (by unfold fB; rw [if_pos c]; rfl)
    · refine h_lconst (n := 1) hX dL_isOnStrike_10 ?_
      refine h_goto (tgt := 15) hX dL_isOnStrike_11 (by decide) ?_
      refine h_last (n := 1) hX dL_isOnStrike_15 hoN (vp_in_nI (by omega) (by omega)) ?_
      refine h_goto (tgt := 22) hX dL_isOnStrike_16 (by decide) ?_
      refine h_iconst (v := 0) hX dL_isOnStrike_22 (by decide) ?_
      refine h_ireturn hX rfl rfl dL_isOnStrike_23 (by decide) (by decide) ?_
      rw [nI_clamp (by omega)]
      exact rH.y hw hk hCN (by unfold fB; rw [if_neg c]; rfl)
  · obtain ⟨k, hw, rfl, hk, hCN⟩ := hp.thr hL hT
    obtain rfl : k = 1 := rs_isOnStrike_1 hw
    refine ⟨19, Or.inl ⟨0, 16, 25, [], rfl, by decide, by decide, cl_L_25, by simp [castM, eX]⟩, fun q => ?_⟩
    refine h_astore3 hX dL_isOnStrike_19 rfl ?_
    refine h_iconst (v := nI 1) hX dL_isOnStrike_20 (by decide) ?_
    refine h_ireturn hX rfl rfl dL_isOnStrike_21 (by decide) (by decide) ?_
    exact rH.n hw (by omega) hk hCN
theorem IH_carriersAt : MIh YL_carriersAt [(0, 9, 12, 25)] := ⟨by decide +kernel, ⟨by decide +kernel, by decide +kernel⟩, by decide +kernel, wt 963 (by decide +kernel) (by decide +kernel), wt 105 (by decide +kernel) (by decide +kernel), wt 962 (by decide +kernel) (by decide +kernel)⟩
set_option maxHeartbeats 2000000 in
set_option maxRecDepth 20000 in
theorem t_L_carriersAt {M : Mm} {x o : Nat} {σ : Sg} {T : Nat} (hL : LX10 M.1 M.2.1 x) (hC : CI (mI M) x σ) (hO : OkN T σ.1) (hT9 : T < 890000) (ho : mS M o = some (14, 1)) (hxo : x + 208 ≤ o) (hT : mT M = none) {p0 : Int32} : CtH G base YL_carriersAt [(0, 9, 12, 25)] 21 1 6 [.ref x, .int p0, .ref o] M (rH M x o fI (rs_carriersAt σ p0) σ) := by
  refine CtH.of IH_carriersAt (by simp [Value.category]) (Nat.le_of_ble_eq_true rfl) (fun X hX hnc => ?_)
  show J G base X 0 0 M 0 [some (.ref x), some (.int p0), some (.ref o), none] []
  refine h_aload_n hX dL_carriersAt_0 rfl ?_
  refine h_iconst (v := nI 0) hX dL_carriersAt_1 (by decide) ?_
  refine h_aload_n hX dL_carriersAt_2 rfl ?_
  refine h_iload_n hX dL_carriersAt_3 rfl ?_
  refine h_callV (As := [.int p0]) (rest := [.int (nI 0), .ref o]) hX hnc dL_carriersAt_4 IX10_carriersAt ml_L_40 rfl (LX10_s hL) rfl (t_c_carriersAt hL hC hO hT9) (by decide) (by decide) (by decide) (by decide) rfl (Nat.le_of_ble_eq_true rfl) (fun v N hp => ?_) (fun E N hp => ?_)
  · obtain ⟨w, hw, rfl, hk, hCN⟩ := hp.ret hL hT
    have hoN : mS N o = some (14, 1) := (hk.2.1 o (by omega)).1.trans ho
    refine h_i2l hX dL_carriersAt_7 ?_
    refine h_last (n := 1) hX dL_carriersAt_8 hoN (vp_in_nI (by omega) (by omega)) ?_
    refine h_goto (tgt := 15) hX dL_carriersAt_9 (by decide) ?_
    refine h_iconst (v := 0) hX dL_carriersAt_15 (by decide) ?_
    refine h_ireturn hX rfl rfl dL_carriersAt_16 (by decide) (by decide) ?_
    rw [nI_clamp (by omega)]
    exact rH.y hw hk hCN rfl
  · obtain ⟨k, hw, rfl, hk, hCN⟩ := hp.thr hL hT
    obtain rfl : k = 1 := rs_carriersAt_1 hw
    refine ⟨12, Or.inl ⟨0, 9, 25, [], rfl, by decide, by decide, cl_L_25, by simp [castM, eX]⟩, fun q => ?_⟩
    refine h_astore3 hX dL_carriersAt_12 rfl ?_
    refine h_iconst (v := nI 1) hX dL_carriersAt_13 (by decide) ?_
    refine h_ireturn hX rfl rfl dL_carriersAt_14 (by decide) (by decide) ?_
    exact rH.n hw (by omega) hk hCN
theorem IH_sackOf : MIh YL_sackOf [(0, 9, 12, 25)] := ⟨by decide +kernel, ⟨by decide +kernel, by decide +kernel⟩, by decide +kernel, wt 970 (by decide +kernel) (by decide +kernel), wt 105 (by decide +kernel) (by decide +kernel), wt 969 (by decide +kernel) (by decide +kernel)⟩
set_option maxHeartbeats 2000000 in
set_option maxRecDepth 20000 in
theorem t_L_sackOf {M : Mm} {x o : Nat} {σ : Sg} {T : Nat} (hL : LX10 M.1 M.2.1 x) (hC : CI (mI M) x σ) (hO : OkN T σ.1) (hT9 : T < 890000) (ho : mS M o = some (14, 1)) (hxo : x + 208 ≤ o) (hT : mT M = none) {p0 : Int32} : CtH G base YL_sackOf [(0, 9, 12, 25)] 21 1 6 [.ref x, .int p0, .ref o] M (rH M x o fI (rs_sackOf σ p0) σ) := by
  refine CtH.of IH_sackOf (by simp [Value.category]) (Nat.le_of_ble_eq_true rfl) (fun X hX hnc => ?_)
  show J G base X 0 0 M 0 [some (.ref x), some (.int p0), some (.ref o), none] []
  refine h_aload_n hX dL_sackOf_0 rfl ?_
  refine h_iconst (v := nI 0) hX dL_sackOf_1 (by decide) ?_
  refine h_aload_n hX dL_sackOf_2 rfl ?_
  refine h_iload_n hX dL_sackOf_3 rfl ?_
  refine h_callV (As := [.int p0]) (rest := [.int (nI 0), .ref o]) hX hnc dL_sackOf_4 IX10_sackOf ml_L_43 rfl (LX10_s hL) rfl (t_c_sackOf hL hC hO hT9) (by decide) (by decide) (by decide) (by decide) rfl (Nat.le_of_ble_eq_true rfl) (fun v N hp => ?_) (fun E N hp => ?_)
  · obtain ⟨w, hw, rfl, hk, hCN⟩ := hp.ret hL hT
    have hoN : mS N o = some (14, 1) := (hk.2.1 o (by omega)).1.trans ho
    refine h_i2l hX dL_sackOf_7 ?_
    refine h_last (n := 1) hX dL_sackOf_8 hoN (vp_in_nI (by omega) (by omega)) ?_
    refine h_goto (tgt := 15) hX dL_sackOf_9 (by decide) ?_
    refine h_iconst (v := 0) hX dL_sackOf_15 (by decide) ?_
    refine h_ireturn hX rfl rfl dL_sackOf_16 (by decide) (by decide) ?_
    rw [nI_clamp (by omega)]
    exact rH.y hw hk hCN rfl
  · obtain ⟨k, hw, rfl, hk, hCN⟩ := hp.thr hL hT
    obtain rfl : k = 1 := rs_sackOf_1 hw
    refine ⟨12, Or.inl ⟨0, 9, 25, [], rfl, by decide, by decide, cl_L_25, by simp [castM, eX]⟩, fun q => ?_⟩
    refine h_astore3 hX dL_sackOf_12 rfl ?_
    refine h_iconst (v := nI 1) hX dL_sackOf_13 (by decide) ?_
    refine h_ireturn hX rfl rfl dL_sackOf_14 (by decide) (by decide) ?_
    exact rH.n hw (by omega) hk hCN
theorem IH_carrierOf : MIh YL_carrierOf [(0, 9, 12, 25)] := ⟨by decide +kernel, ⟨by decide +kernel, by decide +kernel⟩, by decide +kernel, wt 981 (by decide +kernel) (by decide +kernel), wt 105 (by decide +kernel) (by decide +kernel), wt 980 (by decide +kernel) (by decide +kernel)⟩
set_option maxHeartbeats 2000000 in
set_option maxRecDepth 20000 in
theorem t_L_carrierOf {M : Mm} {x o : Nat} {σ : Sg} {T : Nat} (hL : LX10 M.1 M.2.1 x) (hC : CI (mI M) x σ) (hO : OkN T σ.1) (hT9 : T < 890000) (ho : mS M o = some (14, 1)) (hxo : x + 208 ≤ o) (hT : mT M = none) {p0 : Int32} : CtH G base YL_carrierOf [(0, 9, 12, 25)] 21 1 6 [.ref x, .int p0, .ref o] M (rH M x o fI (rs_carrierOf σ p0) σ) := by
  refine CtH.of IH_carrierOf (by simp [Value.category]) (Nat.le_of_ble_eq_true rfl) (fun X hX hnc => ?_)
  show J G base X 0 0 M 0 [some (.ref x), some (.int p0), some (.ref o), none] []
  refine h_aload_n hX dL_carrierOf_0 rfl ?_
  refine h_iconst (v := nI 0) hX dL_carrierOf_1 (by decide) ?_
  refine h_aload_n hX dL_carrierOf_2 rfl ?_
  refine h_iload_n hX dL_carrierOf_3 rfl ?_
  refine h_callV (As := [.int p0]) (rest := [.int (nI 0), .ref o]) hX hnc dL_carrierOf_4 IX10_carrierOf ml_L_46 rfl (LX10_s hL) rfl (t_c_carrierOf hL hC hO hT9) (by decide) (by decide) (by decide) (by decide) rfl (Nat.le_of_ble_eq_true rfl) (fun v N hp => ?_) (fun E N hp => ?_)
  · obtain ⟨w, hw, rfl, hk, hCN⟩ := hp.ret hL hT
    have hoN : mS N o = some (14, 1) := (hk.2.1 o (by omega)).1.trans ho
    refine h_i2l hX dL_carrierOf_7 ?_
    refine h_last (n := 1) hX dL_carrierOf_8 hoN (vp_in_nI (by omega) (by omega)) ?_
    refine h_goto (tgt := 15) hX dL_carrierOf_9 (by decide) ?_
    refine h_iconst (v := 0) hX dL_carrierOf_15 (by decide) ?_
    refine h_ireturn hX rfl rfl dL_carrierOf_16 (by decide) (by decide) ?_
    rw [nI_clamp (by omega)]
    exact rH.y hw hk hCN rfl
  · obtain ⟨k, hw, rfl, hk, hCN⟩ := hp.thr hL hT
    obtain rfl : k = 1 := rs_carrierOf_1 hw
    refine ⟨12, Or.inl ⟨0, 9, 25, [], rfl, by decide, by decide, cl_L_25, by simp [castM, eX]⟩, fun q => ?_⟩
    refine h_astore3 hX dL_carrierOf_12 rfl ?_
    refine h_iconst (v := nI 1) hX dL_carrierOf_13 (by decide) ?_
    refine h_ireturn hX rfl rfl dL_carrierOf_14 (by decide) (by decide) ?_
    exact rH.n hw (by omega) hk hCN
theorem IH_sackCount : MIh YL_sackCount [(0, 9, 12, 25)] := ⟨by decide +kernel, ⟨by decide +kernel, by decide +kernel⟩, by decide +kernel, wt 992 (by decide +kernel) (by decide +kernel), wt 105 (by decide +kernel) (by decide +kernel), wt 991 (by decide +kernel) (by decide +kernel)⟩
set_option maxHeartbeats 2000000 in
set_option maxRecDepth 20000 in
theorem t_L_sackCount {M : Mm} {x o : Nat} {σ : Sg} {T : Nat} (hL : LX10 M.1 M.2.1 x) (hC : CI (mI M) x σ) (hO : OkN T σ.1) (hT9 : T < 890000) (ho : mS M o = some (14, 1)) (hxo : x + 208 ≤ o) (hT : mT M = none) {p0 : Int32} : CtH G base YL_sackCount [(0, 9, 12, 25)] 21 1 6 [.ref x, .int p0, .ref o] M (rH M x o fI (rs_many σ 1 1 p0) σ) := by
  refine CtH.of IH_sackCount (by simp [Value.category]) (Nat.le_of_ble_eq_true rfl) (fun X hX hnc => ?_)
  show J G base X 0 0 M 0 [some (.ref x), some (.int p0), some (.ref o), none] []
  refine h_aload_n hX dL_sackCount_0 rfl ?_
  refine h_iconst (v := nI 0) hX dL_sackCount_1 (by decide) ?_
  refine h_aload_n hX dL_sackCount_2 rfl ?_
  refine h_iload_n hX dL_sackCount_3 rfl ?_
  refine h_callV (As := [.int p0]) (rest := [.int (nI 0), .ref o]) hX hnc dL_sackCount_4 IX10_sackCount ml_L_49 rfl (LX10_s hL) rfl (t_c_sackCount hL hC hO hT9) (by decide) (by decide) (by decide) (by decide) rfl (Nat.le_of_ble_eq_true rfl) (fun v N hp => ?_) (fun E N hp => ?_)
  · obtain ⟨w, hw, rfl, hk, hCN⟩ := hp.ret hL hT
    have hoN : mS N o = some (14, 1) := (hk.2.1 o (by omega)).1.trans ho
    refine h_i2l hX dL_sackCount_7 ?_
    refine h_last (n := 1) hX dL_sackCount_8 hoN (vp_in_nI (by omega) (by omega)) ?_
    refine h_goto (tgt := 15) hX dL_sackCount_9 (by decide) ?_
    refine h_iconst (v := 0) hX dL_sackCount_15 (by decide) ?_
    refine h_ireturn hX rfl rfl dL_sackCount_16 (by decide) (by decide) ?_
    rw [nI_clamp (by omega)]
    exact rH.y hw hk hCN rfl
  · obtain ⟨k, hw, rfl, hk, hCN⟩ := hp.thr hL hT
    obtain rfl : k = 1 := rs_many_1 hw
    refine ⟨12, Or.inl ⟨0, 9, 25, [], rfl, by decide, by decide, cl_L_25, by simp [castM, eX]⟩, fun q => ?_⟩
    refine h_astore3 hX dL_sackCount_12 rfl ?_
    refine h_iconst (v := nI 1) hX dL_sackCount_13 (by decide) ?_
    refine h_ireturn hX rfl rfl dL_sackCount_14 (by decide) (by decide) ?_
    exact rH.n hw (by omega) hk hCN
theorem IH_sackLetter : MIh YL_sackLetter [(0, 10, 13, 25)] := ⟨by decide +kernel, ⟨by decide +kernel, by decide +kernel⟩, by decide +kernel, wt 1007 (by decide +kernel) (by decide +kernel), wt 105 (by decide +kernel) (by decide +kernel), wt 1006 (by decide +kernel) (by decide +kernel)⟩
set_option maxHeartbeats 2000000 in
set_option maxRecDepth 20000 in
theorem t_L_sackLetter {M : Mm} {x o : Nat} {σ : Sg} {T : Nat} (hL : LX10 M.1 M.2.1 x) (hC : CI (mI M) x σ) (hO : OkN T σ.1) (hT9 : T < 890000) (ho : mS M o = some (14, 1)) (hxo : x + 208 ≤ o) (hT : mT M = none) {p0 p1 : Int32} : CtH G base YL_sackLetter [(0, 10, 13, 25)] 21 1 6 [.ref x, .int p0, .int p1, .ref o] M (rH M x o fI (rs_nth σ 1 1 p0 p1) σ) := by
  refine CtH.of IH_sackLetter (by simp [Value.category]) (Nat.le_of_ble_eq_true rfl) (fun X hX hnc => ?_)
  show J G base X 0 0 M 0 [some (.ref x), some (.int p0), some (.int p1), some (.ref o), none] []
  refine h_aload_n hX dL_sackLetter_0 rfl ?_
  refine h_iconst (v := nI 0) hX dL_sackLetter_1 (by decide) ?_
  refine h_aload_n hX dL_sackLetter_2 rfl ?_
  refine h_iload_n hX dL_sackLetter_3 rfl ?_
  refine h_iload_n hX dL_sackLetter_4 rfl ?_
  refine h_callV (As := [.int p0, .int p1]) (rest := [.int (nI 0), .ref o]) hX hnc dL_sackLetter_5 IX10_sackLetter ml_L_52 rfl (LX10_s hL) rfl (t_c_sackLetter hL hC hO hT9) (by decide) (by decide) (by decide) (by decide) rfl (Nat.le_of_ble_eq_true rfl) (fun v N hp => ?_) (fun E N hp => ?_)
  · obtain ⟨w, hw, rfl, hk, hCN⟩ := hp.ret hL hT
    have hoN : mS N o = some (14, 1) := (hk.2.1 o (by omega)).1.trans ho
    refine h_i2l hX dL_sackLetter_8 ?_
    refine h_last (n := 1) hX dL_sackLetter_9 hoN (vp_in_nI (by omega) (by omega)) ?_
    refine h_goto (tgt := 17) hX dL_sackLetter_10 (by decide) ?_
    refine h_iconst (v := 0) hX dL_sackLetter_17 (by decide) ?_
    refine h_ireturn hX rfl rfl dL_sackLetter_18 (by decide) (by decide) ?_
    rw [nI_clamp (by omega)]
    exact rH.y hw hk hCN rfl
  · obtain ⟨k, hw, rfl, hk, hCN⟩ := hp.thr hL hT
    obtain rfl : k = 1 := rs_nth_1 hw
    refine ⟨13, Or.inl ⟨0, 10, 25, [], rfl, by decide, by decide, cl_L_25, by simp [castM, eX]⟩, fun q => ?_⟩
    refine h_astore4 hX dL_sackLetter_13 rfl ?_
    refine h_iconst (v := nI 1) hX dL_sackLetter_15 (by decide) ?_
    refine h_ireturn hX rfl rfl dL_sackLetter_16 (by decide) (by decide) ?_
    exact rH.n hw (by omega) hk hCN
theorem IH_sackValue : MIh YL_sackValue [(0, 9, 12, 25)] := ⟨by decide +kernel, ⟨by decide +kernel, by decide +kernel⟩, by decide +kernel, wt 1018 (by decide +kernel) (by decide +kernel), wt 105 (by decide +kernel) (by decide +kernel), wt 1017 (by decide +kernel) (by decide +kernel)⟩
set_option maxHeartbeats 2000000 in
set_option maxRecDepth 20000 in
theorem t_L_sackValue {M : Mm} {x o : Nat} {σ : Sg} {T : Nat} (hL : LX10 M.1 M.2.1 x) (hC : CI (mI M) x σ) (hO : OkN T σ.1) (hT9 : T < 890000) (ho : mS M o = some (14, 1)) (hxo : x + 208 ≤ o) (hT : mT M = none) {p0 : Int32} : CtH G base YL_sackValue [(0, 9, 12, 25)] 21 1 6 [.ref x, .int p0, .ref o] M (rH M x o fI (rs_sackValue σ p0) σ) := by
  refine CtH.of IH_sackValue (by simp [Value.category]) (Nat.le_of_ble_eq_true rfl) (fun X hX hnc => ?_)
  show J G base X 0 0 M 0 [some (.ref x), some (.int p0), some (.ref o), none] []
  refine h_aload_n hX dL_sackValue_0 rfl ?_
  refine h_iconst (v := nI 0) hX dL_sackValue_1 (by decide) ?_
  refine h_aload_n hX dL_sackValue_2 rfl ?_
  refine h_iload_n hX dL_sackValue_3 rfl ?_
  refine h_callV (As := [.int p0]) (rest := [.int (nI 0), .ref o]) hX hnc dL_sackValue_4 IX10_sackValue ml_L_56 rfl (LX10_s hL) rfl (t_c_sackValue hL hC hO hT9) (by decide) (by decide) (by decide) (by decide) rfl (Nat.le_of_ble_eq_true rfl) (fun v N hp => ?_) (fun E N hp => ?_)
  · obtain ⟨w, hw, rfl, hk, hCN⟩ := hp.ret hL hT
    have hoN : mS N o = some (14, 1) := (hk.2.1 o (by omega)).1.trans ho
    refine h_i2l hX dL_sackValue_7 ?_
    refine h_last (n := 1) hX dL_sackValue_8 hoN (vp_in_nI (by omega) (by omega)) ?_
    refine h_goto (tgt := 15) hX dL_sackValue_9 (by decide) ?_
    refine h_iconst (v := 0) hX dL_sackValue_15 (by decide) ?_
    refine h_ireturn hX rfl rfl dL_sackValue_16 (by decide) (by decide) ?_
    rw [nI_clamp (by omega)]
    exact rH.y hw hk hCN rfl
  · obtain ⟨k, hw, rfl, hk, hCN⟩ := hp.thr hL hT
    obtain rfl : k = 1 := rs_sackValue_1 hw
    refine ⟨12, Or.inl ⟨0, 9, 25, [], rfl, by decide, by decide, cl_L_25, by simp [castM, eX]⟩, fun q => ?_⟩
    refine h_astore3 hX dL_sackValue_12 rfl ?_
    refine h_iconst (v := nI 1) hX dL_sackValue_13 (by decide) ?_
    refine h_ireturn hX rfl rfl dL_sackValue_14 (by decide) (by decide) ?_
    exact rH.n hw (by omega) hk hCN
theorem IH_officeCount : MIh YL_officeCount [(0, 9, 12, 25)] := ⟨by decide +kernel, ⟨by decide +kernel, by decide +kernel⟩, by decide +kernel, wt 1029 (by decide +kernel) (by decide +kernel), wt 105 (by decide +kernel) (by decide +kernel), wt 1028 (by decide +kernel) (by decide +kernel)⟩
set_option maxHeartbeats 2000000 in
set_option maxRecDepth 20000 in
theorem t_L_officeCount {M : Mm} {x o : Nat} {σ : Sg} {T : Nat} (hL : LX10 M.1 M.2.1 x) (hC : CI (mI M) x σ) (hO : OkN T σ.1) (hT9 : T < 890000) (ho : mS M o = some (14, 1)) (hxo : x + 208 ≤ o) (hT : mT M = none) {p0 : Int32} : CtH G base YL_officeCount [(0, 9, 12, 25)] 21 1 6 [.ref x, .int p0, .ref o] M (rH M x o fI (rs_many σ 0 0 p0) σ) := by
  refine CtH.of IH_officeCount (by simp [Value.category]) (Nat.le_of_ble_eq_true rfl) (fun X hX hnc => ?_)
  show J G base X 0 0 M 0 [some (.ref x), some (.int p0), some (.ref o), none] []
  refine h_aload_n hX dL_officeCount_0 rfl ?_
  refine h_iconst (v := nI 0) hX dL_officeCount_1 (by decide) ?_
  refine h_aload_n hX dL_officeCount_2 rfl ?_
  refine h_iload_n hX dL_officeCount_3 rfl ?_
  refine h_callV (As := [.int p0]) (rest := [.int (nI 0), .ref o]) hX hnc dL_officeCount_4 IX10_officeCount ml_L_59 rfl (LX10_s hL) rfl (t_c_officeCount hL hC hO hT9) (by decide) (by decide) (by decide) (by decide) rfl (Nat.le_of_ble_eq_true rfl) (fun v N hp => ?_) (fun E N hp => ?_)
  · obtain ⟨w, hw, rfl, hk, hCN⟩ := hp.ret hL hT
    have hoN : mS N o = some (14, 1) := (hk.2.1 o (by omega)).1.trans ho
    refine h_i2l hX dL_officeCount_7 ?_
    refine h_last (n := 1) hX dL_officeCount_8 hoN (vp_in_nI (by omega) (by omega)) ?_
    refine h_goto (tgt := 15) hX dL_officeCount_9 (by decide) ?_
    refine h_iconst (v := 0) hX dL_officeCount_15 (by decide) ?_
    refine h_ireturn hX rfl rfl dL_officeCount_16 (by decide) (by decide) ?_
    rw [nI_clamp (by omega)]
    exact rH.y hw hk hCN rfl
  · obtain ⟨k, hw, rfl, hk, hCN⟩ := hp.thr hL hT
    obtain rfl : k = 1 := rs_many_1 hw
    refine ⟨12, Or.inl ⟨0, 9, 25, [], rfl, by decide, by decide, cl_L_25, by simp [castM, eX]⟩, fun q => ?_⟩
    refine h_astore3 hX dL_officeCount_12 rfl ?_
    refine h_iconst (v := nI 1) hX dL_officeCount_13 (by decide) ?_
    refine h_ireturn hX rfl rfl dL_officeCount_14 (by decide) (by decide) ?_
    exact rH.n hw (by omega) hk hCN
theorem IH_officeLetter : MIh YL_officeLetter [(0, 10, 13, 25)] := ⟨by decide +kernel, ⟨by decide +kernel, by decide +kernel⟩, by decide +kernel, wt 1036 (by decide +kernel) (by decide +kernel), wt 105 (by decide +kernel) (by decide +kernel), wt 1035 (by decide +kernel) (by decide +kernel)⟩
set_option maxHeartbeats 2000000 in
set_option maxRecDepth 20000 in
theorem t_L_officeLetter {M : Mm} {x o : Nat} {σ : Sg} {T : Nat} (hL : LX10 M.1 M.2.1 x) (hC : CI (mI M) x σ) (hO : OkN T σ.1) (hT9 : T < 890000) (ho : mS M o = some (14, 1)) (hxo : x + 208 ≤ o) (hT : mT M = none) {p0 p1 : Int32} : CtH G base YL_officeLetter [(0, 10, 13, 25)] 21 1 6 [.ref x, .int p0, .int p1, .ref o] M (rH M x o fI (rs_nth σ 0 0 p0 p1) σ) := by
  refine CtH.of IH_officeLetter (by simp [Value.category]) (Nat.le_of_ble_eq_true rfl) (fun X hX hnc => ?_)
  show J G base X 0 0 M 0 [some (.ref x), some (.int p0), some (.int p1), some (.ref o), none] []
  refine h_aload_n hX dL_officeLetter_0 rfl ?_
  refine h_iconst (v := nI 0) hX dL_officeLetter_1 (by decide) ?_
  refine h_aload_n hX dL_officeLetter_2 rfl ?_
  refine h_iload_n hX dL_officeLetter_3 rfl ?_
  refine h_iload_n hX dL_officeLetter_4 rfl ?_
  refine h_callV (As := [.int p0, .int p1]) (rest := [.int (nI 0), .ref o]) hX hnc dL_officeLetter_5 IX10_officeLetter ml_L_62 rfl (LX10_s hL) rfl (t_c_officeLetter hL hC hO hT9) (by decide) (by decide) (by decide) (by decide) rfl (Nat.le_of_ble_eq_true rfl) (fun v N hp => ?_) (fun E N hp => ?_)
  · obtain ⟨w, hw, rfl, hk, hCN⟩ := hp.ret hL hT
    have hoN : mS N o = some (14, 1) := (hk.2.1 o (by omega)).1.trans ho
    refine h_i2l hX dL_officeLetter_8 ?_
    refine h_last (n := 1) hX dL_officeLetter_9 hoN (vp_in_nI (by omega) (by omega)) ?_
    refine h_goto (tgt := 17) hX dL_officeLetter_10 (by decide) ?_
    refine h_iconst (v := 0) hX dL_officeLetter_17 (by decide) ?_
    refine h_ireturn hX rfl rfl dL_officeLetter_18 (by decide) (by decide) ?_
    rw [nI_clamp (by omega)]
    exact rH.y hw hk hCN rfl
  · obtain ⟨k, hw, rfl, hk, hCN⟩ := hp.thr hL hT
    obtain rfl : k = 1 := rs_nth_1 hw
    refine ⟨13, Or.inl ⟨0, 10, 25, [], rfl, by decide, by decide, cl_L_25, by simp [castM, eX]⟩, fun q => ?_⟩
    refine h_astore4 hX dL_officeLetter_13 rfl ?_
    refine h_iconst (v := nI 1) hX dL_officeLetter_15 (by decide) ?_
    refine h_ireturn hX rfl rfl dL_officeLetter_16 (by decide) (by decide) ?_
    exact rH.n hw (by omega) hk hCN
theorem IH_letter : MIh YL_letter [(0, 10, 13, 25), (0, 10, 17, 19)] := ⟨by decide +kernel, ⟨by decide +kernel, by decide +kernel⟩, by decide +kernel, wt 1043 (by decide +kernel) (by decide +kernel), wt 105 (by decide +kernel) (by decide +kernel), wt 1042 (by decide +kernel) (by decide +kernel)⟩
set_option maxHeartbeats 2000000 in
set_option maxRecDepth 20000 in
theorem t_L_letter {M : Mm} {x o : Nat} {σ : Sg} {T : Nat} (hL : LX10 M.1 M.2.1 x) (hC : CI (mI M) x σ) (hO : OkN T σ.1) (hT9 : T < 890000) (ho : mS M o = some (14, 1)) (hxo : x + 208 ≤ o) (hT : mT M = none) {p0 p1 : Int32} : CtH G base YL_letter [(0, 10, 13, 25), (0, 10, 17, 19)] 21 1 6 [.ref x, .int p0, .int p1, .ref o] M (rH M x o fI (rs_letter σ p0 p1) σ) := by
  refine CtH.of IH_letter (by simp [Value.category]) (Nat.le_of_ble_eq_true rfl) (fun X hX hnc => ?_)
  show J G base X 0 0 M 0 [some (.ref x), some (.int p0), some (.int p1), some (.ref o), none] []
  refine h_aload_n hX dL_letter_0 rfl ?_
  refine h_iconst (v := nI 0) hX dL_letter_1 (by decide) ?_
  refine h_aload_n hX dL_letter_2 rfl ?_
  refine h_iload_n hX dL_letter_3 rfl ?_
  refine h_iload_n hX dL_letter_4 rfl ?_
  refine h_callV (As := [.int p0, .int p1]) (rest := [.int (nI 0), .ref o]) hX hnc dL_letter_5 IX10_letter ml_L_65 rfl (LX10_s hL) rfl (t_c_letter hL hC hO hT9) (by decide) (by decide) (by decide) (by decide) rfl (Nat.le_of_ble_eq_true rfl) (fun v N hp => ?_) (fun E N hp => ?_)
  · obtain ⟨w, hw, rfl, hk, hCN⟩ := hp.ret hL hT
    have hoN : mS N o = some (14, 1) := (hk.2.1 o (by omega)).1.trans ho
    refine h_i2l hX dL_letter_8 ?_
    refine h_last (n := 1) hX dL_letter_9 hoN (vp_in_nI (by omega) (by omega)) ?_
    refine h_goto (tgt := 21) hX dL_letter_10 (by decide) ?_
    refine h_iconst (v := 0) hX dL_letter_21 (by decide) ?_
    refine h_ireturn hX rfl rfl dL_letter_22 (by decide) (by decide) ?_
    rw [nI_clamp (by omega)]
    exact rH.y hw hk hCN rfl
  · obtain ⟨k, hw, rfl, hk, hCN⟩ := hp.thr hL hT
    rcases rs_letter_12 hw with rfl | rfl
    · refine ⟨13, Or.inl ⟨0, 10, 25, [(0, 10, 17, 19)], rfl, by decide, by decide, cl_L_25, by simp [castM, eX]⟩, fun q => ?_⟩
      refine h_astore4 hX dL_letter_13 rfl ?_
      refine h_iconst (v := nI 1) hX dL_letter_15 (by decide) ?_
      refine h_ireturn hX rfl rfl dL_letter_16 (by decide) (by decide) ?_
      exact rH.n hw (by omega) hk hCN
    · refine ⟨17, Or.inr ⟨0, 10, 13, 25, 0, 10, 19, [], "java/lang/IndexOutOfBoundsException", rfl, by decide, cl_L_25, by simp [ncM, eX], by decide, by decide, cl_L_19, by simp [castM, eX]⟩, fun q => ?_⟩
      refine h_astore4 hX dL_letter_17 rfl ?_
      refine h_iconst (v := nI 2) hX dL_letter_19 (by decide) ?_
      refine h_ireturn hX rfl rfl dL_letter_20 (by decide) (by decide) ?_
      exact rH.n hw (by omega) hk hCN
theorem IH_trace : MIh YL_trace [(0, 9, 12, 25)] := ⟨by decide +kernel, ⟨by decide +kernel, by decide +kernel⟩, by decide +kernel, wt 1054 (by decide +kernel) (by decide +kernel), wt 105 (by decide +kernel) (by decide +kernel), wt 1053 (by decide +kernel) (by decide +kernel)⟩
set_option maxHeartbeats 2000000 in
set_option maxRecDepth 20000 in
theorem t_L_trace {M : Mm} {x o : Nat} {σ : Sg} {T : Nat} (hL : LX10 M.1 M.2.1 x) (hC : CI (mI M) x σ) (hO : OkN T σ.1) (hT9 : T < 890000) (ho : mS M o = some (14, 1)) (hxo : x + 208 ≤ o) (hT : mT M = none) {p0 : Int32} : CtH G base YL_trace [(0, 9, 12, 25)] 21 1 6 [.ref x, .int p0, .ref o] M (rH M x o fI (rs_trace σ p0) σ) := by
  refine CtH.of IH_trace (by simp [Value.category]) (Nat.le_of_ble_eq_true rfl) (fun X hX hnc => ?_)
  show J G base X 0 0 M 0 [some (.ref x), some (.int p0), some (.ref o), none] []
  refine h_aload_n hX dL_trace_0 rfl ?_
  refine h_iconst (v := nI 0) hX dL_trace_1 (by decide) ?_
  refine h_aload_n hX dL_trace_2 rfl ?_
  refine h_iload_n hX dL_trace_3 rfl ?_
  refine h_callV (As := [.int p0]) (rest := [.int (nI 0), .ref o]) hX hnc dL_trace_4 IX10_trace ml_L_68 rfl (LX10_s hL) rfl (t_c_trace hL hC hO hT9) (by decide) (by decide) (by decide) (by decide) rfl (Nat.le_of_ble_eq_true rfl) (fun v N hp => ?_) (fun E N hp => ?_)
  · obtain ⟨w, hw, rfl, hk, hCN⟩ := hp.ret hL hT
    have hoN : mS N o = some (14, 1) := (hk.2.1 o (by omega)).1.trans ho
    refine h_i2l hX dL_trace_7 ?_
    refine h_last (n := 1) hX dL_trace_8 hoN (vp_in_nI (by omega) (by omega)) ?_
    refine h_goto (tgt := 15) hX dL_trace_9 (by decide) ?_
    refine h_iconst (v := 0) hX dL_trace_15 (by decide) ?_
    refine h_ireturn hX rfl rfl dL_trace_16 (by decide) (by decide) ?_
    rw [nI_clamp (by omega)]
    exact rH.y hw hk hCN rfl
  · obtain ⟨k, hw, rfl, hk, hCN⟩ := hp.thr hL hT
    obtain rfl : k = 1 := rs_trace_1 hw
    refine ⟨12, Or.inl ⟨0, 9, 25, [], rfl, by decide, by decide, cl_L_25, by simp [castM, eX]⟩, fun q => ?_⟩
    refine h_astore3 hX dL_trace_12 rfl ?_
    refine h_iconst (v := nI 1) hX dL_trace_13 (by decide) ?_
    refine h_ireturn hX rfl rfl dL_trace_14 (by decide) (by decide) ?_
    exact rH.n hw (by omega) hk hCN
theorem IH_suspects : MIh YL_suspects [(0, 9, 12, 25)] := ⟨by decide +kernel, ⟨by decide +kernel, by decide +kernel⟩, by decide +kernel, wt 1061 (by decide +kernel) (by decide +kernel), wt 105 (by decide +kernel) (by decide +kernel), wt 1060 (by decide +kernel) (by decide +kernel)⟩
set_option maxHeartbeats 2000000 in
set_option maxRecDepth 20000 in
theorem t_L_suspects {M : Mm} {x o : Nat} {σ : Sg} {T : Nat} (hL : LX10 M.1 M.2.1 x) (hC : CI (mI M) x σ) (hO : OkN T σ.1) (hT9 : T < 890000) (ho : mS M o = some (14, 1)) (hxo : x + 208 ≤ o) (hT : mT M = none) {p0 : Int32} : CtH G base YL_suspects [(0, 9, 12, 25)] 21 1 6 [.ref x, .int p0, .ref o] M (rH M x o fI (rs_suspects σ p0) σ) := by
  refine CtH.of IH_suspects (by simp [Value.category]) (Nat.le_of_ble_eq_true rfl) (fun X hX hnc => ?_)
  show J G base X 0 0 M 0 [some (.ref x), some (.int p0), some (.ref o), none] []
  refine h_aload_n hX dL_suspects_0 rfl ?_
  refine h_iconst (v := nI 0) hX dL_suspects_1 (by decide) ?_
  refine h_aload_n hX dL_suspects_2 rfl ?_
  refine h_iload_n hX dL_suspects_3 rfl ?_
  refine h_callV (As := [.int p0]) (rest := [.int (nI 0), .ref o]) hX hnc dL_suspects_4 IX10_suspects ml_L_71 rfl (LX10_s hL) rfl (t_c_suspects hL hC hO hT9) (by decide) (by decide) (by decide) (by decide) rfl (Nat.le_of_ble_eq_true rfl) (fun v N hp => ?_) (fun E N hp => ?_)
  · obtain ⟨w, hw, rfl, hk, hCN⟩ := hp.ret hL hT
    have hoN : mS N o = some (14, 1) := (hk.2.1 o (by omega)).1.trans ho
    refine h_i2l hX dL_suspects_7 ?_
    refine h_last (n := 1) hX dL_suspects_8 hoN (vp_in_nI (by omega) (by omega)) ?_
    refine h_goto (tgt := 15) hX dL_suspects_9 (by decide) ?_
    refine h_iconst (v := 0) hX dL_suspects_15 (by decide) ?_
    refine h_ireturn hX rfl rfl dL_suspects_16 (by decide) (by decide) ?_
    rw [nI_clamp (by omega)]
    exact rH.y hw hk hCN rfl
  · obtain ⟨k, hw, rfl, hk, hCN⟩ := hp.thr hL hT
    obtain rfl : k = 1 := rs_suspects_1 hw
    refine ⟨12, Or.inl ⟨0, 9, 25, [], rfl, by decide, by decide, cl_L_25, by simp [castM, eX]⟩, fun q => ?_⟩
    refine h_astore3 hX dL_suspects_12 rfl ?_
    refine h_iconst (v := nI 1) hX dL_suspects_13 (by decide) ?_
    refine h_ireturn hX rfl rfl dL_suspects_14 (by decide) (by decide) ?_
    exact rH.n hw (by omega) hk hCN
