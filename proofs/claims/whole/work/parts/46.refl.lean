variable {G : GG} {base : Nat}
set_option maxHeartbeats 2000000 in
set_option maxRecDepth 20000 in
theorem t_X11_errorOffset {M : Mm} {a : Nat} {σ : Sg} {T : Nat} (hL : LX11 M.1 M.2.1 a) (hR : RI (mI M) a σ) (hO : OkN T σ.1) (hT9 : T < 890000) : Ct G base YX11_errorOffset 1 0 0 [.ref a] M (rV M (pQ M a (rs_errorOffset σ) σ)) := by
  obtain ⟨hT, hS, hLt, h4, h5, h6, hLo, hSt, hN⟩ := hO
  have h0 := hT.1
  have h1 := hT.2.1
  have hr := hT.2.2
  have h2 := hLt.1
  have h3 := hLt.2.1
  have hb0 := h0.2
  have hb1 := h1.2
  have hb2 := h2.2
  have hb3 := h3.2
  have hb4 := h4.2
  have ht6 : σ.1 6 = nI (nv σ.1 6) := h6.1
  have hh6 : nv σ.1 6 ≤ T := h6.2
  refine Ct.of IX11_errorOffset.1 (by simp [Value.category]) (Nat.le_of_ble_eq_true rfl) (fun X hX hN => ?_)
  show J G base X 0 0 M 0 [some (.ref a)] []
  refine r_aload_n hX dX11_errorOffset_0 rfl ?_
  refine r_iconst (v := nI 0) hX dX11_errorOffset_1 (by decide) ?_
  refine r_puti hX dX11_errorOffset_2 fl_X11_3 rfl rfl (LX11_s hL) ?_
  refine J.gen (M0 := M) rfl (fun i0 h00 => ?_)
  obtain ⟨hR0, hn0, ht0, ho0⟩ := pub0 hR h00
  clear h00
  refine r_aload_n hX dX11_errorOffset_5 rfl ?_
  refine r_geti hX dX11_errorOffset_6 fl_X11_30 rfl (LX11_s hL) ?_
  refine r_ireturn hX rfl rfl dX11_errorOffset_9 (by decide) (by decide) ?_
  exact ⟨_, i0, rfl, rfl, hR0, ⟨hR0.2.2.2.2.2.2.1, ht0⟩, ho0⟩

set_option maxHeartbeats 2000000 in
set_option maxRecDepth 20000 in
theorem t_X11_errorKind {M : Mm} {a : Nat} {σ : Sg} {T : Nat} (hL : LX11 M.1 M.2.1 a) (hR : RI (mI M) a σ) (hO : OkN T σ.1) (hT9 : T < 890000) : Ct G base YX11_errorKind 1 0 0 [.ref a] M (rV M (pQ M a (rs_errorKind σ) σ)) := by
  obtain ⟨hT, hS, hLt, h4, h5, h6, hLo, hSt, hN⟩ := hO
  have h0 := hT.1
  have h1 := hT.2.1
  have hr := hT.2.2
  have h2 := hLt.1
  have h3 := hLt.2.1
  have hb0 := h0.2
  have hb1 := h1.2
  have hb2 := h2.2
  have hb3 := h3.2
  have hb4 := h4.2
  have ht6 : σ.1 6 = nI (nv σ.1 6) := h6.1
  have hh6 : nv σ.1 6 ≤ T := h6.2
  refine Ct.of IX11_errorKind.1 (by simp [Value.category]) (Nat.le_of_ble_eq_true rfl) (fun X hX hN => ?_)
  show J G base X 0 0 M 0 [some (.ref a)] []
  refine r_aload_n hX dX11_errorKind_0 rfl ?_
  refine r_iconst (v := nI 0) hX dX11_errorKind_1 (by decide) ?_
  refine r_puti hX dX11_errorKind_2 fl_X11_3 rfl rfl (LX11_s hL) ?_
  refine J.gen (M0 := M) rfl (fun i0 h00 => ?_)
  obtain ⟨hR0, hn0, ht0, ho0⟩ := pub0 hR h00
  clear h00
  refine r_aload_n hX dX11_errorKind_5 rfl ?_
  refine r_geti hX dX11_errorKind_6 fl_X11_92 rfl (LX11_s hL) ?_
  refine r_ireturn hX rfl rfl dX11_errorKind_9 (by decide) (by decide) ?_
  exact ⟨_, i0, rfl, rfl, hR0, ⟨hR0.2.2.2.2.2.2.2.1, ht0⟩, ho0⟩

set_option maxHeartbeats 2000000 in
set_option maxRecDepth 20000 in
theorem t_X11_undoDepth {M : Mm} {a : Nat} {σ : Sg} {T : Nat} (hL : LX11 M.1 M.2.1 a) (hR : RI (mI M) a σ) (hO : OkN T σ.1) (hT9 : T < 890000) : Ct G base YX11_undoDepth 1 0 0 [.ref a] M (rV M (pQ M a (rs_undoDepth σ) σ)) := by
  obtain ⟨hT, hS, hLt, h4, h5, h6, hLo, hSt, hN⟩ := hO
  have h0 := hT.1
  have h1 := hT.2.1
  have hr := hT.2.2
  have h2 := hLt.1
  have h3 := hLt.2.1
  have hb0 := h0.2
  have hb1 := h1.2
  have hb2 := h2.2
  have hb3 := h3.2
  have hb4 := h4.2
  have ht6 : σ.1 6 = nI (nv σ.1 6) := h6.1
  have hh6 : nv σ.1 6 ≤ T := h6.2
  refine Ct.of IX11_undoDepth.1 (by simp [Value.category]) (Nat.le_of_ble_eq_true rfl) (fun X hX hN => ?_)
  show J G base X 0 0 M 0 [some (.ref a)] []
  refine r_aload_n hX dX11_undoDepth_0 rfl ?_
  refine r_iconst (v := nI 0) hX dX11_undoDepth_1 (by decide) ?_
  refine r_puti hX dX11_undoDepth_2 fl_X11_3 rfl rfl (LX11_s hL) ?_
  refine J.gen (M0 := M) rfl (fun i0 h00 => ?_)
  obtain ⟨hR0, hn0, ht0, ho0⟩ := pub0 hR h00
  clear h00
  refine r_aload_n hX dX11_undoDepth_5 rfl ?_
  refine r_geti hX dX11_undoDepth_6 fl_X11_60 rfl (LX11_s hL) ?_
  refine r_ireturn hX rfl rfl dX11_undoDepth_9 (by decide) (by decide) ?_
  exact ⟨_, i0, rfl, rfl, hR0, ⟨hR0.2.2.1.1, ht0⟩, ho0⟩

set_option maxHeartbeats 2000000 in
set_option maxRecDepth 20000 in
theorem t_X11_sackOf {M : Mm} {a : Nat} {σ : Sg} {T : Nat} (hL : LX11 M.1 M.2.1 a) (hR : RI (mI M) a σ) (hO : OkN T σ.1) (hT9 : T < 890000) {x : Int32} : Ct G base YX11_sackOf 4 0 0 [.ref a, .int x] M (rV M (pQ M a (rs_sackOf σ x) σ)) := by
  obtain ⟨hT, hS, hLt, h4, h5, h6, hLo, hSt, hN⟩ := hO
  have h0 := hT.1
  have h1 := hT.2.1
  have hr := hT.2.2
  have h2 := hLt.1
  have h3 := hLt.2.1
  have hb0 := h0.2
  have hb1 := h1.2
  have hb2 := h2.2
  have hb3 := h3.2
  have hb4 := h4.2
  have ht6 : σ.1 6 = nI (nv σ.1 6) := h6.1
  have hh6 : nv σ.1 6 ≤ T := h6.2
  by_cases hx : ∃ c, c < nv σ.1 1 ∧ x = nI c
  · obtain ⟨c, hc, rfl⟩ := hx
    refine Ct.of IX11_sackOf.1 (by simp [Value.category]) (Nat.le_of_ble_eq_true rfl) (fun X hX hN => ?_)
    show J G base X 0 0 M 0 [some (.ref a), some (.int (nI c))] []
    refine r_aload_n hX dX11_sackOf_0 rfl ?_
    refine r_iconst (v := nI 0) hX dX11_sackOf_1 (by decide) ?_
    refine r_puti hX dX11_sackOf_2 fl_X11_3 rfl rfl (LX11_s hL) ?_
    refine J.gen (M0 := M) rfl (fun i0 h00 => ?_)
    obtain ⟨hR0, hn0, ht0, ho0⟩ := pub0 hR h00
    clear h00
    refine r_aload_n hX dX11_sackOf_5 rfl ?_
    refine r_iload_n hX dX11_sackOf_6 rfl ?_
    refine r_cV1 hX dX11_sackOf_7 IX11_noCarrier ml_X11_286 rfl (LX11_s hL) rfl (t_X11_noCarrier1 (M := wI M i0) hL hn0 h1 ⟨c, hc, rfl⟩) (by decide) (by decide) (by decide) (by decide) rfl (Nat.le_of_ble_eq_true rfl) ?_
    refine r_if_eq (tgt := 17) hX dX11_sackOf_10 (by decide) (fun c10 => ?_) (fun c10 => absurd c10 (by decide))
    refine r_aload_n hX dX11_sackOf_17 rfl ?_
    refine r_getr hX dX11_sackOf_18 fl_X11_13 rfl (LX11_s hL) (LX11_r1 hL) ?_
    refine r_bipush (v := nI 33) hX dX11_sackOf_21 (by decide) ?_
    refine r_iload_n hX dX11_sackOf_23 rfl ?_
    refine rn_iadd hX dX11_sackOf_24 rfl rfl ?_
    refine rn_iald hX dX11_sackOf_25 (LX11_a1 hL) rfl (by omega) (by omega) ?_
    rw [hn0]
    refine r_ireturn hX rfl rfl dX11_sackOf_26 (by decide) (by decide) ?_
    refine ⟨_, i0, rfl, rfl, hR0, ?_, ho0⟩
    unfold rs_sackOf
    rw [ix_of hc (by omega)]
    exact ⟨rfl, ht0⟩
  · refine Ct.of IX11_sackOf.1 (by simp [Value.category]) (Nat.le_of_ble_eq_true rfl) (fun X hX hN => ?_)
    show J G base X 0 0 M 0 [some (.ref a), some (.int x)] []
    refine r_aload_n hX dX11_sackOf_0 rfl ?_
    refine r_iconst (v := nI 0) hX dX11_sackOf_1 (by decide) ?_
    refine r_puti hX dX11_sackOf_2 fl_X11_3 rfl rfl (LX11_s hL) ?_
    refine J.gen (M0 := M) rfl (fun i0 h00 => ?_)
    obtain ⟨hR0, hn0, ht0, ho0⟩ := pub0 hR h00
    clear h00
    refine r_aload_n hX dX11_sackOf_5 rfl ?_
    refine r_iload_n hX dX11_sackOf_6 rfl ?_
    refine r_cV1 hX dX11_sackOf_7 IX11_noCarrier ml_X11_286 rfl (LX11_s hL) rfl (t_X11_noCarrier0 (M := wI M i0) hL hn0 h1 hx) (by decide) (by decide) (by decide) (by decide) rfl (Nat.le_of_ble_eq_true rfl) ?_
    refine r_if_eq (tgt := 17) hX dX11_sackOf_10 (by decide) (fun c10 => absurd c10 (by decide)) (fun c10 => ?_)
    refine r_iconst (v := 0) hX dX11_sackOf_13 (by decide) ?_
    refine r_goto (tgt := 26) hX dX11_sackOf_14 (by decide) ?_
    refine r_ireturn hX rfl rfl dX11_sackOf_26 (by decide) (by decide) ?_
    obtain ⟨q1, q2, q3⟩ := pub1 hR0 ho0 1
    refine ⟨_, mI (uI (wI M i0) a 0 1), rfl, rfl, q1, ?_, q3⟩
    unfold rs_sackOf
    rw [ix_no hx]
    exact q2

set_option maxHeartbeats 2000000 in
set_option maxRecDepth 20000 in
theorem t_X11_carrierOf {M : Mm} {a : Nat} {σ : Sg} {T : Nat} (hL : LX11 M.1 M.2.1 a) (hR : RI (mI M) a σ) (hO : OkN T σ.1) (hT9 : T < 890000) {x : Int32} : Ct G base YX11_carrierOf 4 0 0 [.ref a, .int x] M (rV M (pQ M a (rs_carrierOf σ x) σ)) := by
  obtain ⟨hT, hS, hLt, h4, h5, h6, hLo, hSt, hN⟩ := hO
  have h0 := hT.1
  have h1 := hT.2.1
  have hr := hT.2.2
  have h2 := hLt.1
  have h3 := hLt.2.1
  have hb0 := h0.2
  have hb1 := h1.2
  have hb2 := h2.2
  have hb3 := h3.2
  have hb4 := h4.2
  have ht6 : σ.1 6 = nI (nv σ.1 6) := h6.1
  have hh6 : nv σ.1 6 ≤ T := h6.2
  by_cases hx : ∃ c, c < nv σ.1 1 ∧ x = nI c
  · obtain ⟨s, hs, rfl⟩ := hx
    refine Ct.of IX11_carrierOf.1 (by simp [Value.category]) (Nat.le_of_ble_eq_true rfl) (fun X hX hN => ?_)
    show J G base X 0 0 M 0 [some (.ref a), some (.int (nI s))] []
    refine r_aload_n hX dX11_carrierOf_0 rfl ?_
    refine r_iconst (v := nI 0) hX dX11_carrierOf_1 (by decide) ?_
    refine r_puti hX dX11_carrierOf_2 fl_X11_3 rfl rfl (LX11_s hL) ?_
    refine J.gen (M0 := M) rfl (fun i0 h00 => ?_)
    obtain ⟨hR0, hn0, ht0, ho0⟩ := pub0 hR h00
    clear h00
    refine r_aload_n hX dX11_carrierOf_5 rfl ?_
    refine r_iload_n hX dX11_carrierOf_6 rfl ?_
    refine r_cV1 hX dX11_carrierOf_7 IX11_noCarrier ml_X11_286 rfl (LX11_s hL) rfl (t_X11_noCarrier1 (M := wI M i0) hL hn0 h1 ⟨s, hs, rfl⟩) (by decide) (by decide) (by decide) (by decide) rfl (Nat.le_of_ble_eq_true rfl) ?_
    refine r_if_eq (tgt := 17) hX dX11_carrierOf_10 (by decide) (fun c10 => ?_) (fun c10 => absurd c10 (by decide))
    refine r_aload_n hX dX11_carrierOf_17 rfl ?_
    refine r_iload_n hX dX11_carrierOf_18 rfl ?_
    refine r_cV1 hX dX11_carrierOf_19 IX11_carrierWith ml_X11_249 rfl (LX11_s hL) rfl (t_X11_carrierWith (M := wI M i0) hL hn0 (hS.has (by omega))) (by decide) (by decide) (by decide) (by decide) rfl (Nat.le_of_ble_eq_true rfl) ?_
    refine r_ireturn hX rfl rfl dX11_carrierOf_22 (by decide) (by decide) ?_
    refine ⟨_, i0, rfl, rfl, hR0, ?_, ho0⟩
    unfold rs_carrierOf
    rw [ix_of hs (by omega)]
    exact ⟨rfl, ht0⟩
  · refine Ct.of IX11_carrierOf.1 (by simp [Value.category]) (Nat.le_of_ble_eq_true rfl) (fun X hX hN => ?_)
    show J G base X 0 0 M 0 [some (.ref a), some (.int x)] []
    refine r_aload_n hX dX11_carrierOf_0 rfl ?_
    refine r_iconst (v := nI 0) hX dX11_carrierOf_1 (by decide) ?_
    refine r_puti hX dX11_carrierOf_2 fl_X11_3 rfl rfl (LX11_s hL) ?_
    refine J.gen (M0 := M) rfl (fun i0 h00 => ?_)
    obtain ⟨hR0, hn0, ht0, ho0⟩ := pub0 hR h00
    clear h00
    refine r_aload_n hX dX11_carrierOf_5 rfl ?_
    refine r_iload_n hX dX11_carrierOf_6 rfl ?_
    refine r_cV1 hX dX11_carrierOf_7 IX11_noCarrier ml_X11_286 rfl (LX11_s hL) rfl (t_X11_noCarrier0 (M := wI M i0) hL hn0 h1 hx) (by decide) (by decide) (by decide) (by decide) rfl (Nat.le_of_ble_eq_true rfl) ?_
    refine r_if_eq (tgt := 17) hX dX11_carrierOf_10 (by decide) (fun c10 => absurd c10 (by decide)) (fun c10 => ?_)
    refine r_iconst (v := 0) hX dX11_carrierOf_13 (by decide) ?_
    refine r_goto (tgt := 22) hX dX11_carrierOf_14 (by decide) ?_
    refine r_ireturn hX rfl rfl dX11_carrierOf_22 (by decide) (by decide) ?_
    obtain ⟨q1, q2, q3⟩ := pub1 hR0 ho0 1
    refine ⟨_, mI (uI (wI M i0) a 0 1), rfl, rfl, q1, ?_, q3⟩
    unfold rs_carrierOf
    rw [ix_no hx]
    exact q2

set_option maxHeartbeats 2000000 in
set_option maxRecDepth 20000 in
theorem t_X11_isOnStrike {M : Mm} {a : Nat} {σ : Sg} {T : Nat} (hL : LX11 M.1 M.2.1 a) (hR : RI (mI M) a σ) (hO : OkN T σ.1) (hT9 : T < 890000) {x : Int32} : Ct G base YX11_isOnStrike 4 0 0 [.ref a, .int x] M (rV M (pQ M a (rs_isOnStrike σ x) σ)) := by
  obtain ⟨hT, hS, hLt, h4, h5, h6, hLo, hSt, hN⟩ := hO
  have h0 := hT.1
  have h1 := hT.2.1
  have hr := hT.2.2
  have h2 := hLt.1
  have h3 := hLt.2.1
  have hb0 := h0.2
  have hb1 := h1.2
  have hb2 := h2.2
  have hb3 := h3.2
  have hb4 := h4.2
  have ht6 : σ.1 6 = nI (nv σ.1 6) := h6.1
  have hh6 : nv σ.1 6 ≤ T := h6.2
  by_cases hx : ∃ c, c < nv σ.1 1 ∧ x = nI c
  · obtain ⟨c, hc, rfl⟩ := hx
    refine Ct.of IX11_isOnStrike.1 (by simp [Value.category]) (Nat.le_of_ble_eq_true rfl) (fun X hX hN => ?_)
    show J G base X 0 0 M 0 [some (.ref a), some (.int (nI c))] []
    refine r_aload_n hX dX11_isOnStrike_0 rfl ?_
    refine r_iconst (v := nI 0) hX dX11_isOnStrike_1 (by decide) ?_
    refine r_puti hX dX11_isOnStrike_2 fl_X11_3 rfl rfl (LX11_s hL) ?_
    refine J.gen (M0 := M) rfl (fun i0 h00 => ?_)
    obtain ⟨hR0, hn0, ht0, ho0⟩ := pub0 hR h00
    clear h00
    refine r_aload_n hX dX11_isOnStrike_5 rfl ?_
    refine r_iload_n hX dX11_isOnStrike_6 rfl ?_
    refine r_cV1 hX dX11_isOnStrike_7 IX11_noCarrier ml_X11_286 rfl (LX11_s hL) rfl (t_X11_noCarrier1 (M := wI M i0) hL hn0 h1 ⟨c, hc, rfl⟩) (by decide) (by decide) (by decide) (by decide) rfl (Nat.le_of_ble_eq_true rfl) ?_
    refine r_if_ne (tgt := 30) hX dX11_isOnStrike_10 (by decide) (fun c10 => absurd c10 (by decide)) (fun c10 => ?_)
    refine r_aload_n hX dX11_isOnStrike_13 rfl ?_
    refine r_getr hX dX11_isOnStrike_14 fl_X11_13 rfl (LX11_s hL) (LX11_r1 hL) ?_
    refine r_bipush (v := nI 38) hX dX11_isOnStrike_17 (by decide) ?_
    refine r_iload_n hX dX11_isOnStrike_19 rfl ?_
    refine rn_iadd hX dX11_isOnStrike_20 rfl rfl ?_
    refine rn_iald hX dX11_isOnStrike_21 (LX11_a1 hL) rfl (by omega) (by omega) ?_
    rw [hn0]
    refine r_iconst (v := 1) hX dX11_isOnStrike_22 (by decide) ?_
    refine r_icmp_ne (tgt := 30) hX dX11_isOnStrike_23 (by decide) (fun c23 => ?_) (fun c23 => ?_)
    · refine r_iconst (v := 0) hX dX11_isOnStrike_30 (by decide) ?_
      refine r_ireturn hX rfl rfl dX11_isOnStrike_31 (by decide) (by decide) ?_
      refine ⟨_, i0, rfl, rfl, hR0, ?_, ho0⟩
      unfold rs_isOnStrike
      rw [ix_of hc (by omega)]
      exact ⟨by first | exact (if_pos c23).symm | exact (if_neg c23).symm, ht0⟩
    · refine r_iconst (v := 1) hX dX11_isOnStrike_26 (by decide) ?_
      refine r_goto (tgt := 31) hX dX11_isOnStrike_27 (by decide) ?_
      refine r_ireturn hX rfl rfl dX11_isOnStrike_31 (by decide) (by decide) ?_
      refine ⟨_, i0, rfl, rfl, hR0, ?_, ho0⟩
      unfold rs_isOnStrike
      rw [ix_of hc (by omega)]
      exact ⟨by first | exact (if_pos c23).symm | exact (if_neg c23).symm, ht0⟩
  · refine Ct.of IX11_isOnStrike.1 (by simp [Value.category]) (Nat.le_of_ble_eq_true rfl) (fun X hX hN => ?_)
    show J G base X 0 0 M 0 [some (.ref a), some (.int x)] []
    refine r_aload_n hX dX11_isOnStrike_0 rfl ?_
    refine r_iconst (v := nI 0) hX dX11_isOnStrike_1 (by decide) ?_
    refine r_puti hX dX11_isOnStrike_2 fl_X11_3 rfl rfl (LX11_s hL) ?_
    refine J.gen (M0 := M) rfl (fun i0 h00 => ?_)
    obtain ⟨hR0, hn0, ht0, ho0⟩ := pub0 hR h00
    clear h00
    refine r_aload_n hX dX11_isOnStrike_5 rfl ?_
    refine r_iload_n hX dX11_isOnStrike_6 rfl ?_
    refine r_cV1 hX dX11_isOnStrike_7 IX11_noCarrier ml_X11_286 rfl (LX11_s hL) rfl (t_X11_noCarrier0 (M := wI M i0) hL hn0 h1 hx) (by decide) (by decide) (by decide) (by decide) rfl (Nat.le_of_ble_eq_true rfl) ?_
    refine r_if_ne (tgt := 30) hX dX11_isOnStrike_10 (by decide) (fun c10 => ?_) (fun c10 => absurd c10 (by decide))
    refine r_iconst (v := 0) hX dX11_isOnStrike_30 (by decide) ?_
    refine r_ireturn hX rfl rfl dX11_isOnStrike_31 (by decide) (by decide) ?_
    obtain ⟨q1, q2, q3⟩ := pub1 hR0 ho0 1
    refine ⟨_, mI (uI (wI M i0) a 0 1), rfl, rfl, q1, ?_, q3⟩
    unfold rs_isOnStrike
    rw [ix_no hx]
    exact q2

set_option maxHeartbeats 2000000 in
set_option maxRecDepth 20000 in
theorem t_X11_placeOf {M : Mm} {a : Nat} {σ : Sg} {T : Nat} (hL : LX11 M.1 M.2.1 a) (hR : RI (mI M) a σ) (hO : OkN T σ.1) (hT9 : T < 890000) {x : Int32} : Ct G base YX11_placeOf 4 0 0 [.ref a, .int x] M (rV M (pQ M a (rs_placeOf σ x) σ)) := by
  obtain ⟨hT, hS, hLt, h4, h5, h6, hLo, hSt, hN⟩ := hO
  have h0 := hT.1
  have h1 := hT.2.1
  have hr := hT.2.2
  have h2 := hLt.1
  have h3 := hLt.2.1
  have hb0 := h0.2
  have hb1 := h1.2
  have hb2 := h2.2
  have hb3 := h3.2
  have hb4 := h4.2
  have ht6 : σ.1 6 = nI (nv σ.1 6) := h6.1
  have hh6 : nv σ.1 6 ≤ T := h6.2
  by_cases hx : ∃ c, c < nv σ.1 1 ∧ x = nI c
  · obtain ⟨c, hc, rfl⟩ := hx
    refine Ct.of IX11_placeOf.1 (by simp [Value.category]) (Nat.le_of_ble_eq_true rfl) (fun X hX hN => ?_)
    show J G base X 0 0 M 0 [some (.ref a), some (.int (nI c))] []
    refine r_aload_n hX dX11_placeOf_0 rfl ?_
    refine r_iconst (v := nI 0) hX dX11_placeOf_1 (by decide) ?_
    refine r_puti hX dX11_placeOf_2 fl_X11_3 rfl rfl (LX11_s hL) ?_
    refine J.gen (M0 := M) rfl (fun i0 h00 => ?_)
    obtain ⟨hR0, hn0, ht0, ho0⟩ := pub0 hR h00
    clear h00
    refine r_aload_n hX dX11_placeOf_5 rfl ?_
    refine r_iload_n hX dX11_placeOf_6 rfl ?_
    refine r_cV1 hX dX11_placeOf_7 IX11_noCarrier ml_X11_286 rfl (LX11_s hL) rfl (t_X11_noCarrier1 (M := wI M i0) hL hn0 h1 ⟨c, hc, rfl⟩) (by decide) (by decide) (by decide) (by decide) rfl (Nat.le_of_ble_eq_true rfl) ?_
    refine r_if_eq (tgt := 17) hX dX11_placeOf_10 (by decide) (fun c10 => ?_) (fun c10 => absurd c10 (by decide))
    refine r_aload_n hX dX11_placeOf_17 rfl ?_
    refine r_iload_n hX dX11_placeOf_18 rfl ?_
    refine r_aload_n hX dX11_placeOf_19 rfl ?_
    refine r_getr hX dX11_placeOf_20 fl_X11_13 rfl (LX11_s hL) (LX11_r1 hL) ?_
    refine r_bipush (v := nI 6) hX dX11_placeOf_23 (by decide) ?_
    refine rn_iald hX dX11_placeOf_25 (LX11_a1 hL) rfl (by omega) (by omega) ?_
    rw [hn0]
    rw [ht6]
    refine r_cV2 hX dX11_placeOf_26 IX11_placeIn ml_X11_228 rfl (LX11_s hL) rfl (t_X11_placeIn (M := wI M i0) hL hn0 hr (by omega) (by omega)) (by decide) (by decide) (by decide) (by decide) rfl (Nat.le_of_ble_eq_true rfl) ?_
    refine r_ireturn hX rfl rfl dX11_placeOf_29 (by decide) (by decide) ?_
    refine ⟨_, i0, rfl, rfl, hR0, ?_, ho0⟩
    unfold rs_placeOf
    rw [ix_of hc (by omega)]
    exact ⟨rfl, ht0⟩
  · refine Ct.of IX11_placeOf.1 (by simp [Value.category]) (Nat.le_of_ble_eq_true rfl) (fun X hX hN => ?_)
    show J G base X 0 0 M 0 [some (.ref a), some (.int x)] []
    refine r_aload_n hX dX11_placeOf_0 rfl ?_
    refine r_iconst (v := nI 0) hX dX11_placeOf_1 (by decide) ?_
    refine r_puti hX dX11_placeOf_2 fl_X11_3 rfl rfl (LX11_s hL) ?_
    refine J.gen (M0 := M) rfl (fun i0 h00 => ?_)
    obtain ⟨hR0, hn0, ht0, ho0⟩ := pub0 hR h00
    clear h00
    refine r_aload_n hX dX11_placeOf_5 rfl ?_
    refine r_iload_n hX dX11_placeOf_6 rfl ?_
    refine r_cV1 hX dX11_placeOf_7 IX11_noCarrier ml_X11_286 rfl (LX11_s hL) rfl (t_X11_noCarrier0 (M := wI M i0) hL hn0 h1 hx) (by decide) (by decide) (by decide) (by decide) rfl (Nat.le_of_ble_eq_true rfl) ?_
    refine r_if_eq (tgt := 17) hX dX11_placeOf_10 (by decide) (fun c10 => absurd c10 (by decide)) (fun c10 => ?_)
    refine r_iconst (v := 0) hX dX11_placeOf_13 (by decide) ?_
    refine r_goto (tgt := 29) hX dX11_placeOf_14 (by decide) ?_
    refine r_ireturn hX rfl rfl dX11_placeOf_29 (by decide) (by decide) ?_
    obtain ⟨q1, q2, q3⟩ := pub1 hR0 ho0 1
    refine ⟨_, mI (uI (wI M i0) a 0 1), rfl, rfl, q1, ?_, q3⟩
    unfold rs_placeOf
    rw [ix_no hx]
    exact q2

set_option maxHeartbeats 2000000 in
set_option maxRecDepth 20000 in
theorem t_X11_trace {M : Mm} {a : Nat} {σ : Sg} {T : Nat} (hL : LX11 M.1 M.2.1 a) (hR : RI (mI M) a σ) (hO : OkN T σ.1) (hT9 : T < 890000) {x : Int32} : Ct G base YX11_trace 4 0 0 [.ref a, .int x] M (rV M (pQ M a (rs_trace σ x) σ)) := by
  obtain ⟨hT, hS, hLt, h4, h5, h6, hLo, hSt, hN⟩ := hO
  have h0 := hT.1
  have h1 := hT.2.1
  have hr := hT.2.2
  have h2 := hLt.1
  have h3 := hLt.2.1
  have hb0 := h0.2
  have hb1 := h1.2
  have hb2 := h2.2
  have hb3 := h3.2
  have hb4 := h4.2
  have ht6 : σ.1 6 = nI (nv σ.1 6) := h6.1
  have hh6 : nv σ.1 6 ≤ T := h6.2
  by_cases hx : ∃ c, c < nv σ.1 2 ∧ x = nI c
  · obtain ⟨l, hl, rfl⟩ := hx
    refine Ct.of IX11_trace.1 (by simp [Value.category]) (Nat.le_of_ble_eq_true rfl) (fun X hX hN => ?_)
    show J G base X 0 0 M 0 [some (.ref a), some (.int (nI l))] []
    refine r_aload_n hX dX11_trace_0 rfl ?_
    refine r_iconst (v := nI 0) hX dX11_trace_1 (by decide) ?_
    refine r_puti hX dX11_trace_2 fl_X11_3 rfl rfl (LX11_s hL) ?_
    refine J.gen (M0 := M) rfl (fun i0 h00 => ?_)
    obtain ⟨hR0, hn0, ht0, ho0⟩ := pub0 hR h00
    clear h00
    refine r_aload_n hX dX11_trace_5 rfl ?_
    refine r_iload_n hX dX11_trace_6 rfl ?_
    refine r_cV1 hX dX11_trace_7 IX11_noLetter ml_X11_298 rfl (LX11_s hL) rfl (t_X11_noLetter1 (M := wI M i0) hL hn0 h2 ⟨l, hl, rfl⟩) (by decide) (by decide) (by decide) (by decide) rfl (Nat.le_of_ble_eq_true rfl) ?_
    refine r_if_eq (tgt := 17) hX dX11_trace_10 (by decide) (fun c10 => ?_) (fun c10 => absurd c10 (by decide))
    refine r_aload_n hX dX11_trace_17 rfl ?_
    refine r_iload_n hX dX11_trace_18 rfl ?_
    refine r_bipush (v := nI 9) hX dX11_trace_19 (by decide) ?_
    refine r_cV2 hX dX11_trace_21 IX11_of ml_X11_67 rfl (LX11_s hL) rfl (t_X11_of (M := wI M i0) hL hn0 (by omega) (by decide)) (by decide) (by decide) (by decide) (by decide) rfl (Nat.le_of_ble_eq_true rfl) ?_
    refine r_ireturn hX rfl rfl dX11_trace_24 (by decide) (by decide) ?_
    refine ⟨_, i0, rfl, rfl, hR0, ?_, ho0⟩
    unfold rs_trace
    rw [ix_of hl (by omega)]
    exact ⟨rfl, ht0⟩
  · refine Ct.of IX11_trace.1 (by simp [Value.category]) (Nat.le_of_ble_eq_true rfl) (fun X hX hN => ?_)
    show J G base X 0 0 M 0 [some (.ref a), some (.int x)] []
    refine r_aload_n hX dX11_trace_0 rfl ?_
    refine r_iconst (v := nI 0) hX dX11_trace_1 (by decide) ?_
    refine r_puti hX dX11_trace_2 fl_X11_3 rfl rfl (LX11_s hL) ?_
    refine J.gen (M0 := M) rfl (fun i0 h00 => ?_)
    obtain ⟨hR0, hn0, ht0, ho0⟩ := pub0 hR h00
    clear h00
    refine r_aload_n hX dX11_trace_5 rfl ?_
    refine r_iload_n hX dX11_trace_6 rfl ?_
    refine r_cV1 hX dX11_trace_7 IX11_noLetter ml_X11_298 rfl (LX11_s hL) rfl (t_X11_noLetter0 (M := wI M i0) hL hn0 h2 hx) (by decide) (by decide) (by decide) (by decide) rfl (Nat.le_of_ble_eq_true rfl) ?_
    refine r_if_eq (tgt := 17) hX dX11_trace_10 (by decide) (fun c10 => absurd c10 (by decide)) (fun c10 => ?_)
    refine r_iconst (v := 0) hX dX11_trace_13 (by decide) ?_
    refine r_goto (tgt := 24) hX dX11_trace_14 (by decide) ?_
    refine r_ireturn hX rfl rfl dX11_trace_24 (by decide) (by decide) ?_
    obtain ⟨q1, q2, q3⟩ := pub1 hR0 ho0 1
    refine ⟨_, mI (uI (wI M i0) a 0 1), rfl, rfl, q1, ?_, q3⟩
    unfold rs_trace
    rw [ix_no hx]
    exact q2

set_option maxHeartbeats 2000000 in
set_option maxRecDepth 20000 in
theorem t_X11_isLate {M : Mm} {a : Nat} {σ : Sg} {T : Nat} (hL : LX11 M.1 M.2.1 a) (hR : RI (mI M) a σ) (hO : OkN T σ.1) (hT9 : T < 890000) {x : Int32} : Ct G base YX11_isLate 4 0 0 [.ref a, .int x] M (rV M (pQ M a (rs_isLate σ x) σ)) := by
  obtain ⟨hT, hS, hLt, h4, h5, h6, hLo, hSt, hN⟩ := hO
  have h0 := hT.1
  have h1 := hT.2.1
  have hr := hT.2.2
  have h2 := hLt.1
  have h3 := hLt.2.1
  have hb0 := h0.2
  have hb1 := h1.2
  have hb2 := h2.2
  have hb3 := h3.2
  have hb4 := h4.2
  have ht6 : σ.1 6 = nI (nv σ.1 6) := h6.1
  have hh6 : nv σ.1 6 ≤ T := h6.2
  by_cases hx : ∃ c, c < nv σ.1 2 ∧ x = nI c
  · obtain ⟨l, hl, rfl⟩ := hx
    refine Ct.of IX11_isLate.1 (by simp [Value.category]) (Nat.le_of_ble_eq_true rfl) (fun X hX hN => ?_)
    show J G base X 0 0 M 0 [some (.ref a), some (.int (nI l))] []
    refine r_aload_n hX dX11_isLate_0 rfl ?_
    refine r_iconst (v := nI 0) hX dX11_isLate_1 (by decide) ?_
    refine r_puti hX dX11_isLate_2 fl_X11_3 rfl rfl (LX11_s hL) ?_
    refine J.gen (M0 := M) rfl (fun i0 h00 => ?_)
    obtain ⟨hR0, hn0, ht0, ho0⟩ := pub0 hR h00
    clear h00
    refine r_aload_n hX dX11_isLate_5 rfl ?_
    refine r_iload_n hX dX11_isLate_6 rfl ?_
    refine r_cV1 hX dX11_isLate_7 IX11_noLetter ml_X11_298 rfl (LX11_s hL) rfl (t_X11_noLetter1 (M := wI M i0) hL hn0 h2 ⟨l, hl, rfl⟩) (by decide) (by decide) (by decide) (by decide) rfl (Nat.le_of_ble_eq_true rfl) ?_
    refine r_if_ne (tgt := 25) hX dX11_isLate_10 (by decide) (fun c10 => absurd c10 (by decide)) (fun c10 => ?_)
    refine r_aload_n hX dX11_isLate_13 rfl ?_
    refine r_iload_n hX dX11_isLate_14 rfl ?_
    refine r_cV1 hX dX11_isLate_15 IX11_comesLate ml_X11_301 rfl (LX11_s hL) rfl (t_X11_comesLate (M := wI M i0) hL hn0 (by omega)) (by decide) (by decide) (by decide) (by decide) rfl (Nat.le_of_ble_eq_true rfl) ?_
    refine rb_if_eq (tgt := 25) hX dX11_isLate_18 (by decide) rfl (fun c18 => ?_) (fun c18 => ?_)
    · refine r_iconst (v := 0) hX dX11_isLate_25 (by decide) ?_
      refine r_ireturn hX rfl rfl dX11_isLate_26 (by decide) (by decide) ?_
      refine ⟨_, i0, rfl, rfl, hR0, ?_, ho0⟩
      unfold rs_isLate
      rw [ix_of hl (by omega)]
      exact ⟨by first | exact (if_pos c18).symm | exact (if_neg c18).symm, ht0⟩
    · refine r_iconst (v := 1) hX dX11_isLate_21 (by decide) ?_
      refine r_goto (tgt := 26) hX dX11_isLate_22 (by decide) ?_
      refine r_ireturn hX rfl rfl dX11_isLate_26 (by decide) (by decide) ?_
      refine ⟨_, i0, rfl, rfl, hR0, ?_, ho0⟩
      unfold rs_isLate
      rw [ix_of hl (by omega)]
      exact ⟨by first | exact (if_pos c18).symm | exact (if_neg c18).symm, ht0⟩
  · refine Ct.of IX11_isLate.1 (by simp [Value.category]) (Nat.le_of_ble_eq_true rfl) (fun X hX hN => ?_)
    show J G base X 0 0 M 0 [some (.ref a), some (.int x)] []
    refine r_aload_n hX dX11_isLate_0 rfl ?_
    refine r_iconst (v := nI 0) hX dX11_isLate_1 (by decide) ?_
    refine r_puti hX dX11_isLate_2 fl_X11_3 rfl rfl (LX11_s hL) ?_
    refine J.gen (M0 := M) rfl (fun i0 h00 => ?_)
    obtain ⟨hR0, hn0, ht0, ho0⟩ := pub0 hR h00
    clear h00
    refine r_aload_n hX dX11_isLate_5 rfl ?_
    refine r_iload_n hX dX11_isLate_6 rfl ?_
    refine r_cV1 hX dX11_isLate_7 IX11_noLetter ml_X11_298 rfl (LX11_s hL) rfl (t_X11_noLetter0 (M := wI M i0) hL hn0 h2 hx) (by decide) (by decide) (by decide) (by decide) rfl (Nat.le_of_ble_eq_true rfl) ?_
    refine r_if_ne (tgt := 25) hX dX11_isLate_10 (by decide) (fun c10 => ?_) (fun c10 => absurd c10 (by decide))
    refine r_iconst (v := 0) hX dX11_isLate_25 (by decide) ?_
    refine r_ireturn hX rfl rfl dX11_isLate_26 (by decide) (by decide) ?_
    obtain ⟨q1, q2, q3⟩ := pub1 hR0 ho0 1
    refine ⟨_, mI (uI (wI M i0) a 0 1), rfl, rfl, q1, ?_, q3⟩
    unfold rs_isLate
    rw [ix_no hx]
    exact q2

set_option maxHeartbeats 2000000 in
set_option maxRecDepth 20000 in
theorem t_X11_isVillage {M : Mm} {a : Nat} {σ : Sg} {T : Nat} (hL : LX11 M.1 M.2.1 a) (hR : RI (mI M) a σ) (hO : OkN T σ.1) (hT9 : T < 890000) {x : Int32} : Ct G base YX11_isVillage 4 0 0 [.ref a, .int x] M (rV M (pQ M a (rs_isVillage σ x) σ)) := by
  obtain ⟨hT, hS, hLt, h4, h5, h6, hLo, hSt, hN⟩ := hO
  have h0 := hT.1
  have h1 := hT.2.1
  have hr := hT.2.2
  have h2 := hLt.1
  have h3 := hLt.2.1
  have hb0 := h0.2
  have hb1 := h1.2
  have hb2 := h2.2
  have hb3 := h3.2
  have hb4 := h4.2
  have ht6 : σ.1 6 = nI (nv σ.1 6) := h6.1
  have hh6 : nv σ.1 6 ≤ T := h6.2
  by_cases hx : ∃ c, c < nv σ.1 0 ∧ x = nI c
  · obtain ⟨p, hp, rfl⟩ := hx
    refine Ct.of IX11_isVillage.1 (by simp [Value.category]) (Nat.le_of_ble_eq_true rfl) (fun X hX hN => ?_)
    show J G base X 0 0 M 0 [some (.ref a), some (.int (nI p))] []
    refine r_aload_n hX dX11_isVillage_0 rfl ?_
    refine r_iconst (v := nI 0) hX dX11_isVillage_1 (by decide) ?_
    refine r_puti hX dX11_isVillage_2 fl_X11_3 rfl rfl (LX11_s hL) ?_
    refine J.gen (M0 := M) rfl (fun i0 h00 => ?_)
    obtain ⟨hR0, hn0, ht0, ho0⟩ := pub0 hR h00
    clear h00
    refine r_aload_n hX dX11_isVillage_5 rfl ?_
    refine r_iload_n hX dX11_isVillage_6 rfl ?_
    refine r_cV1 hX dX11_isVillage_7 IX11_noPlace ml_X11_283 rfl (LX11_s hL) rfl (t_X11_noPlace1 (M := wI M i0) hL hn0 h0 ⟨p, hp, rfl⟩) (by decide) (by decide) (by decide) (by decide) rfl (Nat.le_of_ble_eq_true rfl) ?_
    refine r_if_ne (tgt := 25) hX dX11_isVillage_10 (by decide) (fun c10 => absurd c10 (by decide)) (fun c10 => ?_)
    refine r_aload_n hX dX11_isVillage_13 rfl ?_
    refine r_iload_n hX dX11_isVillage_14 rfl ?_
    refine r_cV1 hX dX11_isVillage_15 IX11_isTown ml_X11_166 rfl (LX11_s hL) rfl (t_X11_isTown (M := wI M i0) hL hn0 h0) (by decide) (by decide) (by decide) (by decide) rfl (Nat.le_of_ble_eq_true rfl) ?_
    refine rb_if_eq (tgt := 25) hX dX11_isVillage_18 (by decide) rfl (fun c18 => ?_) (fun c18 => ?_)
    · refine r_iconst (v := 0) hX dX11_isVillage_25 (by decide) ?_
      refine r_ireturn hX rfl rfl dX11_isVillage_26 (by decide) (by decide) ?_
      refine ⟨_, i0, rfl, rfl, hR0, ?_, ho0⟩
      unfold rs_isVillage
      rw [ix_of hp (by omega)]
      exact ⟨by first | exact (if_pos ((town_iff h0 hp).mp c18)).symm | exact (if_neg (fun z => c18 ((town_iff h0 hp).mpr z))).symm, ht0⟩
    · refine r_iconst (v := 1) hX dX11_isVillage_21 (by decide) ?_
      refine r_goto (tgt := 26) hX dX11_isVillage_22 (by decide) ?_
      refine r_ireturn hX rfl rfl dX11_isVillage_26 (by decide) (by decide) ?_
      refine ⟨_, i0, rfl, rfl, hR0, ?_, ho0⟩
      unfold rs_isVillage
      rw [ix_of hp (by omega)]
      exact ⟨by first | exact (if_pos ((town_iff h0 hp).mp c18)).symm | exact (if_neg (fun z => c18 ((town_iff h0 hp).mpr z))).symm, ht0⟩
  · refine Ct.of IX11_isVillage.1 (by simp [Value.category]) (Nat.le_of_ble_eq_true rfl) (fun X hX hN => ?_)
    show J G base X 0 0 M 0 [some (.ref a), some (.int x)] []
    refine r_aload_n hX dX11_isVillage_0 rfl ?_
    refine r_iconst (v := nI 0) hX dX11_isVillage_1 (by decide) ?_
    refine r_puti hX dX11_isVillage_2 fl_X11_3 rfl rfl (LX11_s hL) ?_
    refine J.gen (M0 := M) rfl (fun i0 h00 => ?_)
    obtain ⟨hR0, hn0, ht0, ho0⟩ := pub0 hR h00
    clear h00
    refine r_aload_n hX dX11_isVillage_5 rfl ?_
    refine r_iload_n hX dX11_isVillage_6 rfl ?_
    refine r_cV1 hX dX11_isVillage_7 IX11_noPlace ml_X11_283 rfl (LX11_s hL) rfl (t_X11_noPlace0 (M := wI M i0) hL hn0 h0 hx) (by decide) (by decide) (by decide) (by decide) rfl (Nat.le_of_ble_eq_true rfl) ?_
    refine r_if_ne (tgt := 25) hX dX11_isVillage_10 (by decide) (fun c10 => ?_) (fun c10 => absurd c10 (by decide))
    refine r_iconst (v := 0) hX dX11_isVillage_25 (by decide) ?_
    refine r_ireturn hX rfl rfl dX11_isVillage_26 (by decide) (by decide) ?_
    obtain ⟨q1, q2, q3⟩ := pub1 hR0 ho0 1
    refine ⟨_, mI (uI (wI M i0) a 0 1), rfl, rfl, q1, ?_, q3⟩
    unfold rs_isVillage
    rw [ix_no hx]
    exact q2

set_option maxHeartbeats 2000000 in
set_option maxRecDepth 20000 in
theorem t_X11_sackCount {M : Mm} {a : Nat} {σ : Sg} {T : Nat} (hL : LX11 M.1 M.2.1 a) (hR : RI (mI M) a σ) (hO : OkN T σ.1) (hT9 : T < 890000) {x : Int32} : Ct G base YX11_sackCount 4 0 0 [.ref a, .int x] M (rV M (pQ M a (rs_many σ 1 1 x) σ)) := by
  obtain ⟨hT, hS, hLt, h4, h5, h6, hLo, hSt, hN⟩ := hO
  have h0 := hT.1
  have h1 := hT.2.1
  have hr := hT.2.2
  have h2 := hLt.1
  have h3 := hLt.2.1
  have hb0 := h0.2
  have hb1 := h1.2
  have hb2 := h2.2
  have hb3 := h3.2
  have hb4 := h4.2
  have ht6 : σ.1 6 = nI (nv σ.1 6) := h6.1
  have hh6 : nv σ.1 6 ≤ T := h6.2
  by_cases hx : ∃ c, c < nv σ.1 1 ∧ x = nI c
  · obtain ⟨s, hs, rfl⟩ := hx
    refine Ct.of IX11_sackCount.1 (by simp [Value.category]) (Nat.le_of_ble_eq_true rfl) (fun X hX hN => ?_)
    show J G base X 0 0 M 0 [some (.ref a), some (.int (nI s))] []
    refine r_aload_n hX dX11_sackCount_0 rfl ?_
    refine r_iconst (v := nI 0) hX dX11_sackCount_1 (by decide) ?_
    refine r_puti hX dX11_sackCount_2 fl_X11_3 rfl rfl (LX11_s hL) ?_
    refine J.gen (M0 := M) rfl (fun i0 h00 => ?_)
    obtain ⟨hR0, hn0, ht0, ho0⟩ := pub0 hR h00
    clear h00
    refine r_aload_n hX dX11_sackCount_5 rfl ?_
    refine r_iload_n hX dX11_sackCount_6 rfl ?_
    refine r_cV1 hX dX11_sackCount_7 IX11_noCarrier ml_X11_286 rfl (LX11_s hL) rfl (t_X11_noCarrier1 (M := wI M i0) hL hn0 h1 ⟨s, hs, rfl⟩) (by decide) (by decide) (by decide) (by decide) rfl (Nat.le_of_ble_eq_true rfl) ?_
    refine r_if_eq (tgt := 17) hX dX11_sackCount_10 (by decide) (fun c10 => ?_) (fun c10 => absurd c10 (by decide))
    refine r_aload_n hX dX11_sackCount_17 rfl ?_
    refine r_iconst (v := nI 1) hX dX11_sackCount_18 (by decide) ?_
    refine r_iload_n hX dX11_sackCount_19 rfl ?_
    refine r_cV2 hX dX11_sackCount_20 IX11_manyIn ml_X11_289 rfl (LX11_s hL) rfl (t_X11_manyIn (M := wI M i0) hL hn0 h2) (by decide) (by decide) (by decide) (by decide) rfl (Nat.le_of_ble_eq_true rfl) ?_
    refine r_ireturn hX rfl rfl dX11_sackCount_23 (by decide) (by decide) ?_
    refine ⟨_, i0, rfl, rfl, hR0, ?_, ho0⟩
    unfold rs_many
    rw [ix_of hs (by omega)]
    exact ⟨rfl, ht0⟩
  · refine Ct.of IX11_sackCount.1 (by simp [Value.category]) (Nat.le_of_ble_eq_true rfl) (fun X hX hN => ?_)
    show J G base X 0 0 M 0 [some (.ref a), some (.int x)] []
    refine r_aload_n hX dX11_sackCount_0 rfl ?_
    refine r_iconst (v := nI 0) hX dX11_sackCount_1 (by decide) ?_
    refine r_puti hX dX11_sackCount_2 fl_X11_3 rfl rfl (LX11_s hL) ?_
    refine J.gen (M0 := M) rfl (fun i0 h00 => ?_)
    obtain ⟨hR0, hn0, ht0, ho0⟩ := pub0 hR h00
    clear h00
    refine r_aload_n hX dX11_sackCount_5 rfl ?_
    refine r_iload_n hX dX11_sackCount_6 rfl ?_
    refine r_cV1 hX dX11_sackCount_7 IX11_noCarrier ml_X11_286 rfl (LX11_s hL) rfl (t_X11_noCarrier0 (M := wI M i0) hL hn0 h1 hx) (by decide) (by decide) (by decide) (by decide) rfl (Nat.le_of_ble_eq_true rfl) ?_
    refine r_if_eq (tgt := 17) hX dX11_sackCount_10 (by decide) (fun c10 => absurd c10 (by decide)) (fun c10 => ?_)
    refine r_iconst (v := 0) hX dX11_sackCount_13 (by decide) ?_
    refine r_goto (tgt := 23) hX dX11_sackCount_14 (by decide) ?_
    refine r_ireturn hX rfl rfl dX11_sackCount_23 (by decide) (by decide) ?_
    obtain ⟨q1, q2, q3⟩ := pub1 hR0 ho0 1
    refine ⟨_, mI (uI (wI M i0) a 0 1), rfl, rfl, q1, ?_, q3⟩
    unfold rs_many
    rw [ix_no hx]
    exact q2

set_option maxHeartbeats 2000000 in
set_option maxRecDepth 20000 in
theorem t_X11_officeCount {M : Mm} {a : Nat} {σ : Sg} {T : Nat} (hL : LX11 M.1 M.2.1 a) (hR : RI (mI M) a σ) (hO : OkN T σ.1) (hT9 : T < 890000) {x : Int32} : Ct G base YX11_officeCount 4 0 0 [.ref a, .int x] M (rV M (pQ M a (rs_many σ 0 0 x) σ)) := by
  obtain ⟨hT, hS, hLt, h4, h5, h6, hLo, hSt, hN⟩ := hO
  have h0 := hT.1
  have h1 := hT.2.1
  have hr := hT.2.2
  have h2 := hLt.1
  have h3 := hLt.2.1
  have hb0 := h0.2
  have hb1 := h1.2
  have hb2 := h2.2
  have hb3 := h3.2
  have hb4 := h4.2
  have ht6 : σ.1 6 = nI (nv σ.1 6) := h6.1
  have hh6 : nv σ.1 6 ≤ T := h6.2
  by_cases hx : ∃ c, c < nv σ.1 0 ∧ x = nI c
  · obtain ⟨p, hp, rfl⟩ := hx
    refine Ct.of IX11_officeCount.1 (by simp [Value.category]) (Nat.le_of_ble_eq_true rfl) (fun X hX hN => ?_)
    show J G base X 0 0 M 0 [some (.ref a), some (.int (nI p))] []
    refine r_aload_n hX dX11_officeCount_0 rfl ?_
    refine r_iconst (v := nI 0) hX dX11_officeCount_1 (by decide) ?_
    refine r_puti hX dX11_officeCount_2 fl_X11_3 rfl rfl (LX11_s hL) ?_
    refine J.gen (M0 := M) rfl (fun i0 h00 => ?_)
    obtain ⟨hR0, hn0, ht0, ho0⟩ := pub0 hR h00
    clear h00
    refine r_aload_n hX dX11_officeCount_5 rfl ?_
    refine r_iload_n hX dX11_officeCount_6 rfl ?_
    refine r_cV1 hX dX11_officeCount_7 IX11_noPlace ml_X11_283 rfl (LX11_s hL) rfl (t_X11_noPlace1 (M := wI M i0) hL hn0 h0 ⟨p, hp, rfl⟩) (by decide) (by decide) (by decide) (by decide) rfl (Nat.le_of_ble_eq_true rfl) ?_
    refine r_if_eq (tgt := 17) hX dX11_officeCount_10 (by decide) (fun c10 => ?_) (fun c10 => absurd c10 (by decide))
    refine r_aload_n hX dX11_officeCount_17 rfl ?_
    refine r_iconst (v := nI 0) hX dX11_officeCount_18 (by decide) ?_
    refine r_iload_n hX dX11_officeCount_19 rfl ?_
    refine r_cV2 hX dX11_officeCount_20 IX11_manyIn ml_X11_289 rfl (LX11_s hL) rfl (t_X11_manyIn (M := wI M i0) hL hn0 h2) (by decide) (by decide) (by decide) (by decide) rfl (Nat.le_of_ble_eq_true rfl) ?_
    refine r_ireturn hX rfl rfl dX11_officeCount_23 (by decide) (by decide) ?_
    refine ⟨_, i0, rfl, rfl, hR0, ?_, ho0⟩
    unfold rs_many
    rw [ix_of hp (by omega)]
    exact ⟨rfl, ht0⟩
  · refine Ct.of IX11_officeCount.1 (by simp [Value.category]) (Nat.le_of_ble_eq_true rfl) (fun X hX hN => ?_)
    show J G base X 0 0 M 0 [some (.ref a), some (.int x)] []
    refine r_aload_n hX dX11_officeCount_0 rfl ?_
    refine r_iconst (v := nI 0) hX dX11_officeCount_1 (by decide) ?_
    refine r_puti hX dX11_officeCount_2 fl_X11_3 rfl rfl (LX11_s hL) ?_
    refine J.gen (M0 := M) rfl (fun i0 h00 => ?_)
    obtain ⟨hR0, hn0, ht0, ho0⟩ := pub0 hR h00
    clear h00
    refine r_aload_n hX dX11_officeCount_5 rfl ?_
    refine r_iload_n hX dX11_officeCount_6 rfl ?_
    refine r_cV1 hX dX11_officeCount_7 IX11_noPlace ml_X11_283 rfl (LX11_s hL) rfl (t_X11_noPlace0 (M := wI M i0) hL hn0 h0 hx) (by decide) (by decide) (by decide) (by decide) rfl (Nat.le_of_ble_eq_true rfl) ?_
    refine r_if_eq (tgt := 17) hX dX11_officeCount_10 (by decide) (fun c10 => absurd c10 (by decide)) (fun c10 => ?_)
    refine r_iconst (v := 0) hX dX11_officeCount_13 (by decide) ?_
    refine r_goto (tgt := 23) hX dX11_officeCount_14 (by decide) ?_
    refine r_ireturn hX rfl rfl dX11_officeCount_23 (by decide) (by decide) ?_
    obtain ⟨q1, q2, q3⟩ := pub1 hR0 ho0 1
    refine ⟨_, mI (uI (wI M i0) a 0 1), rfl, rfl, q1, ?_, q3⟩
    unfold rs_many
    rw [ix_no hx]
    exact q2

set_option maxHeartbeats 2000000 in
set_option maxRecDepth 20000 in
theorem t_X11_sackLetter {M : Mm} {a : Nat} {σ : Sg} {T : Nat} (hL : LX11 M.1 M.2.1 a) (hR : RI (mI M) a σ) (hO : OkN T σ.1) (hT9 : T < 890000) {x k : Int32} : Ct G base YX11_sackLetter 4 0 0 [.ref a, .int x, .int k] M (rV M (pQ M a (rs_nth σ 1 1 x k) σ)) := by
  obtain ⟨hT, hS, hLt, h4, h5, h6, hLo, hSt, hN⟩ := hO
  have h0 := hT.1
  have h1 := hT.2.1
  have hr := hT.2.2
  have h2 := hLt.1
  have h3 := hLt.2.1
  have hb0 := h0.2
  have hb1 := h1.2
  have hb2 := h2.2
  have hb3 := h3.2
  have hb4 := h4.2
  have ht6 : σ.1 6 = nI (nv σ.1 6) := h6.1
  have hh6 : nv σ.1 6 ≤ T := h6.2
  by_cases hx : ∃ c, c < nv σ.1 1 ∧ x = nI c
  · obtain ⟨s, hs, rfl⟩ := hx
    refine Ct.of IX11_sackLetter.1 (by simp [Value.category]) (Nat.le_of_ble_eq_true rfl) (fun X hX hN => ?_)
    show J G base X 0 0 M 0 [some (.ref a), some (.int (nI s)), some (.int k)] []
    refine r_aload_n hX dX11_sackLetter_0 rfl ?_
    refine r_iconst (v := nI 0) hX dX11_sackLetter_1 (by decide) ?_
    refine r_puti hX dX11_sackLetter_2 fl_X11_3 rfl rfl (LX11_s hL) ?_
    refine J.gen (M0 := M) rfl (fun i0 h00 => ?_)
    obtain ⟨hR0, hn0, ht0, ho0⟩ := pub0 hR h00
    clear h00
    refine r_aload_n hX dX11_sackLetter_5 rfl ?_
    refine r_iload_n hX dX11_sackLetter_6 rfl ?_
    refine r_cV1 hX dX11_sackLetter_7 IX11_noCarrier ml_X11_286 rfl (LX11_s hL) rfl (t_X11_noCarrier1 (M := wI M i0) hL hn0 h1 ⟨s, hs, rfl⟩) (by decide) (by decide) (by decide) (by decide) rfl (Nat.le_of_ble_eq_true rfl) ?_
    refine r_if_eq (tgt := 17) hX dX11_sackLetter_10 (by decide) (fun c10 => ?_) (fun c10 => absurd c10 (by decide))
    refine r_aload_n hX dX11_sackLetter_17 rfl ?_
    refine r_iconst (v := nI 1) hX dX11_sackLetter_18 (by decide) ?_
    refine r_iload_n hX dX11_sackLetter_19 rfl ?_
    refine r_iload_n hX dX11_sackLetter_20 rfl ?_
    refine r_cV3 hX dX11_sackLetter_21 IX11_nthIn ml_X11_292 rfl (LX11_s hL) rfl (t_X11_nthIn (M := wI M i0) hL hn0 h2) (by decide) (by decide) (by decide) (by decide) rfl (Nat.le_of_ble_eq_true rfl) ?_
    refine r_ireturn hX rfl rfl dX11_sackLetter_24 (by decide) (by decide) ?_
    refine ⟨_, i0, rfl, rfl, hR0, ?_, ho0⟩
    unfold rs_nth
    rw [ix_of hs (by omega)]
    exact ⟨rfl, ht0⟩
  · refine Ct.of IX11_sackLetter.1 (by simp [Value.category]) (Nat.le_of_ble_eq_true rfl) (fun X hX hN => ?_)
    show J G base X 0 0 M 0 [some (.ref a), some (.int x), some (.int k)] []
    refine r_aload_n hX dX11_sackLetter_0 rfl ?_
    refine r_iconst (v := nI 0) hX dX11_sackLetter_1 (by decide) ?_
    refine r_puti hX dX11_sackLetter_2 fl_X11_3 rfl rfl (LX11_s hL) ?_
    refine J.gen (M0 := M) rfl (fun i0 h00 => ?_)
    obtain ⟨hR0, hn0, ht0, ho0⟩ := pub0 hR h00
    clear h00
    refine r_aload_n hX dX11_sackLetter_5 rfl ?_
    refine r_iload_n hX dX11_sackLetter_6 rfl ?_
    refine r_cV1 hX dX11_sackLetter_7 IX11_noCarrier ml_X11_286 rfl (LX11_s hL) rfl (t_X11_noCarrier0 (M := wI M i0) hL hn0 h1 hx) (by decide) (by decide) (by decide) (by decide) rfl (Nat.le_of_ble_eq_true rfl) ?_
    refine r_if_eq (tgt := 17) hX dX11_sackLetter_10 (by decide) (fun c10 => absurd c10 (by decide)) (fun c10 => ?_)
    refine r_iconst (v := 0) hX dX11_sackLetter_13 (by decide) ?_
    refine r_goto (tgt := 24) hX dX11_sackLetter_14 (by decide) ?_
    refine r_ireturn hX rfl rfl dX11_sackLetter_24 (by decide) (by decide) ?_
    obtain ⟨q1, q2, q3⟩ := pub1 hR0 ho0 1
    refine ⟨_, mI (uI (wI M i0) a 0 1), rfl, rfl, q1, ?_, q3⟩
    unfold rs_nth
    rw [ix_no hx]
    exact q2

set_option maxHeartbeats 2000000 in
set_option maxRecDepth 20000 in
theorem t_X11_officeLetter {M : Mm} {a : Nat} {σ : Sg} {T : Nat} (hL : LX11 M.1 M.2.1 a) (hR : RI (mI M) a σ) (hO : OkN T σ.1) (hT9 : T < 890000) {x k : Int32} : Ct G base YX11_officeLetter 4 0 0 [.ref a, .int x, .int k] M (rV M (pQ M a (rs_nth σ 0 0 x k) σ)) := by
  obtain ⟨hT, hS, hLt, h4, h5, h6, hLo, hSt, hN⟩ := hO
  have h0 := hT.1
  have h1 := hT.2.1
  have hr := hT.2.2
  have h2 := hLt.1
  have h3 := hLt.2.1
  have hb0 := h0.2
  have hb1 := h1.2
  have hb2 := h2.2
  have hb3 := h3.2
  have hb4 := h4.2
  have ht6 : σ.1 6 = nI (nv σ.1 6) := h6.1
  have hh6 : nv σ.1 6 ≤ T := h6.2
  by_cases hx : ∃ c, c < nv σ.1 0 ∧ x = nI c
  · obtain ⟨p, hp, rfl⟩ := hx
    refine Ct.of IX11_officeLetter.1 (by simp [Value.category]) (Nat.le_of_ble_eq_true rfl) (fun X hX hN => ?_)
    show J G base X 0 0 M 0 [some (.ref a), some (.int (nI p)), some (.int k)] []
    refine r_aload_n hX dX11_officeLetter_0 rfl ?_
    refine r_iconst (v := nI 0) hX dX11_officeLetter_1 (by decide) ?_
    refine r_puti hX dX11_officeLetter_2 fl_X11_3 rfl rfl (LX11_s hL) ?_
    refine J.gen (M0 := M) rfl (fun i0 h00 => ?_)
    obtain ⟨hR0, hn0, ht0, ho0⟩ := pub0 hR h00
    clear h00
    refine r_aload_n hX dX11_officeLetter_5 rfl ?_
    refine r_iload_n hX dX11_officeLetter_6 rfl ?_
    refine r_cV1 hX dX11_officeLetter_7 IX11_noPlace ml_X11_283 rfl (LX11_s hL) rfl (t_X11_noPlace1 (M := wI M i0) hL hn0 h0 ⟨p, hp, rfl⟩) (by decide) (by decide) (by decide) (by decide) rfl (Nat.le_of_ble_eq_true rfl) ?_
    refine r_if_eq (tgt := 17) hX dX11_officeLetter_10 (by decide) (fun c10 => ?_) (fun c10 => absurd c10 (by decide))
    refine r_aload_n hX dX11_officeLetter_17 rfl ?_
    refine r_iconst (v := nI 0) hX dX11_officeLetter_18 (by decide) ?_
    refine r_iload_n hX dX11_officeLetter_19 rfl ?_
    refine r_iload_n hX dX11_officeLetter_20 rfl ?_
    refine r_cV3 hX dX11_officeLetter_21 IX11_nthIn ml_X11_292 rfl (LX11_s hL) rfl (t_X11_nthIn (M := wI M i0) hL hn0 h2) (by decide) (by decide) (by decide) (by decide) rfl (Nat.le_of_ble_eq_true rfl) ?_
    refine r_ireturn hX rfl rfl dX11_officeLetter_24 (by decide) (by decide) ?_
    refine ⟨_, i0, rfl, rfl, hR0, ?_, ho0⟩
    unfold rs_nth
    rw [ix_of hp (by omega)]
    exact ⟨rfl, ht0⟩
  · refine Ct.of IX11_officeLetter.1 (by simp [Value.category]) (Nat.le_of_ble_eq_true rfl) (fun X hX hN => ?_)
    show J G base X 0 0 M 0 [some (.ref a), some (.int x), some (.int k)] []
    refine r_aload_n hX dX11_officeLetter_0 rfl ?_
    refine r_iconst (v := nI 0) hX dX11_officeLetter_1 (by decide) ?_
    refine r_puti hX dX11_officeLetter_2 fl_X11_3 rfl rfl (LX11_s hL) ?_
    refine J.gen (M0 := M) rfl (fun i0 h00 => ?_)
    obtain ⟨hR0, hn0, ht0, ho0⟩ := pub0 hR h00
    clear h00
    refine r_aload_n hX dX11_officeLetter_5 rfl ?_
    refine r_iload_n hX dX11_officeLetter_6 rfl ?_
    refine r_cV1 hX dX11_officeLetter_7 IX11_noPlace ml_X11_283 rfl (LX11_s hL) rfl (t_X11_noPlace0 (M := wI M i0) hL hn0 h0 hx) (by decide) (by decide) (by decide) (by decide) rfl (Nat.le_of_ble_eq_true rfl) ?_
    refine r_if_eq (tgt := 17) hX dX11_officeLetter_10 (by decide) (fun c10 => absurd c10 (by decide)) (fun c10 => ?_)
    refine r_iconst (v := 0) hX dX11_officeLetter_13 (by decide) ?_
    refine r_goto (tgt := 24) hX dX11_officeLetter_14 (by decide) ?_
    refine r_ireturn hX rfl rfl dX11_officeLetter_24 (by decide) (by decide) ?_
    obtain ⟨q1, q2, q3⟩ := pub1 hR0 ho0 1
    refine ⟨_, mI (uI (wI M i0) a 0 1), rfl, rfl, q1, ?_, q3⟩
    unfold rs_nth
    rw [ix_no hx]
    exact q2

set_option maxHeartbeats 2000000 in
set_option maxRecDepth 20000 in
theorem t_X11_sackValue {M : Mm} {a : Nat} {σ : Sg} {T : Nat} (hL : LX11 M.1 M.2.1 a) (hR : RI (mI M) a σ) (hO : OkN T σ.1) (hT9 : T < 890000) {x : Int32} : Ct G base YX11_sackValue 4 0 0 [.ref a, .int x] M (rV M (pQ M a (rs_sackValue σ x) σ)) := by
  obtain ⟨hT, hS, hLt, h4, h5, h6, hLo, hSt, hN⟩ := hO
  have h0 := hT.1
  have h1 := hT.2.1
  have hr := hT.2.2
  have h2 := hLt.1
  have h3 := hLt.2.1
  have hb0 := h0.2
  have hb1 := h1.2
  have hb2 := h2.2
  have hb3 := h3.2
  have hb4 := h4.2
  have ht6 : σ.1 6 = nI (nv σ.1 6) := h6.1
  have hh6 : nv σ.1 6 ≤ T := h6.2
  by_cases hx : ∃ c, c < nv σ.1 1 ∧ x = nI c
  · obtain ⟨s, hs, rfl⟩ := hx
    refine Ct.of IX11_sackValue.1 (by simp [Value.category]) (Nat.le_of_ble_eq_true rfl) (fun X hX hN => ?_)
    show J G base X 0 0 M 0 [some (.ref a), some (.int (nI s))] []
    refine r_aload_n hX dX11_sackValue_0 rfl ?_
    refine r_iconst (v := nI 0) hX dX11_sackValue_1 (by decide) ?_
    refine r_puti hX dX11_sackValue_2 fl_X11_3 rfl rfl (LX11_s hL) ?_
    refine J.gen (M0 := M) rfl (fun i0 h00 => ?_)
    obtain ⟨hR0, hn0, ht0, ho0⟩ := pub0 hR h00
    clear h00
    refine r_aload_n hX dX11_sackValue_5 rfl ?_
    refine r_iload_n hX dX11_sackValue_6 rfl ?_
    refine r_cV1 hX dX11_sackValue_7 IX11_noCarrier ml_X11_286 rfl (LX11_s hL) rfl (t_X11_noCarrier1 (M := wI M i0) hL hn0 h1 ⟨s, hs, rfl⟩) (by decide) (by decide) (by decide) (by decide) rfl (Nat.le_of_ble_eq_true rfl) ?_
    refine r_if_eq (tgt := 17) hX dX11_sackValue_10 (by decide) (fun c10 => ?_) (fun c10 => absurd c10 (by decide))
    refine r_aload_n hX dX11_sackValue_17 rfl ?_
    refine r_iconst (v := nI 1) hX dX11_sackValue_18 (by decide) ?_
    refine r_iload_n hX dX11_sackValue_19 rfl ?_
    refine r_cV2 hX dX11_sackValue_20 IX11_valueIn ml_X11_295 rfl (LX11_s hL) rfl (t_X11_valueIn (M := wI M i0) hL hn0 h2) (by decide) (by decide) (by decide) (by decide) rfl (Nat.le_of_ble_eq_true rfl) ?_
    refine r_ireturn hX rfl rfl dX11_sackValue_23 (by decide) (by decide) ?_
    refine ⟨_, i0, rfl, rfl, hR0, ?_, ho0⟩
    unfold rs_sackValue
    rw [ix_of hs (by omega)]
    exact ⟨rfl, ht0⟩
  · refine Ct.of IX11_sackValue.1 (by simp [Value.category]) (Nat.le_of_ble_eq_true rfl) (fun X hX hN => ?_)
    show J G base X 0 0 M 0 [some (.ref a), some (.int x)] []
    refine r_aload_n hX dX11_sackValue_0 rfl ?_
    refine r_iconst (v := nI 0) hX dX11_sackValue_1 (by decide) ?_
    refine r_puti hX dX11_sackValue_2 fl_X11_3 rfl rfl (LX11_s hL) ?_
    refine J.gen (M0 := M) rfl (fun i0 h00 => ?_)
    obtain ⟨hR0, hn0, ht0, ho0⟩ := pub0 hR h00
    clear h00
    refine r_aload_n hX dX11_sackValue_5 rfl ?_
    refine r_iload_n hX dX11_sackValue_6 rfl ?_
    refine r_cV1 hX dX11_sackValue_7 IX11_noCarrier ml_X11_286 rfl (LX11_s hL) rfl (t_X11_noCarrier0 (M := wI M i0) hL hn0 h1 hx) (by decide) (by decide) (by decide) (by decide) rfl (Nat.le_of_ble_eq_true rfl) ?_
    refine r_if_eq (tgt := 17) hX dX11_sackValue_10 (by decide) (fun c10 => absurd c10 (by decide)) (fun c10 => ?_)
    refine r_iconst (v := 0) hX dX11_sackValue_13 (by decide) ?_
    refine r_goto (tgt := 23) hX dX11_sackValue_14 (by decide) ?_
    refine r_ireturn hX rfl rfl dX11_sackValue_23 (by decide) (by decide) ?_
    obtain ⟨q1, q2, q3⟩ := pub1 hR0 ho0 1
    refine ⟨_, mI (uI (wI M i0) a 0 1), rfl, rfl, q1, ?_, q3⟩
    unfold rs_sackValue
    rw [ix_no hx]
    exact q2

set_option maxHeartbeats 2000000 in
set_option maxRecDepth 20000 in
theorem t_X11_nextStop {M : Mm} {a : Nat} {σ : Sg} {T : Nat} (hL : LX11 M.1 M.2.1 a) (hR : RI (mI M) a σ) (hO : OkN T σ.1) (hT9 : T < 890000) {x : Int32} : Ct G base YX11_nextStop 4 0 0 [.ref a, .int x] M (rV M (pQ M a (rs_nextStop σ x) σ)) := by
  obtain ⟨hT, hS, hLt, h4, h5, h6, hLo, hSt, hN⟩ := hO
  have h0 := hT.1
  have h1 := hT.2.1
  have hr := hT.2.2
  have h2 := hLt.1
  have h3 := hLt.2.1
  have hb0 := h0.2
  have hb1 := h1.2
  have hb2 := h2.2
  have hb3 := h3.2
  have hb4 := h4.2
  have ht6 : σ.1 6 = nI (nv σ.1 6) := h6.1
  have hh6 : nv σ.1 6 ≤ T := h6.2
  by_cases hx : ∃ c, c < nv σ.1 1 ∧ x = nI c
  · obtain ⟨c, hc, rfl⟩ := hx
    refine Ct.of IX11_nextStop.1 (by simp [Value.category]) (Nat.le_of_ble_eq_true rfl) (fun X hX hN => ?_)
    show J G base X 0 0 M 0 [some (.ref a), some (.int (nI c)), none] []
    refine r_aload_n hX dX11_nextStop_0 rfl ?_
    refine r_iconst (v := nI 0) hX dX11_nextStop_1 (by decide) ?_
    refine r_puti hX dX11_nextStop_2 fl_X11_3 rfl rfl (LX11_s hL) ?_
    refine J.gen (M0 := M) rfl (fun i0 h00 => ?_)
    obtain ⟨hR0, hn0, ht0, ho0⟩ := pub0 hR h00
    clear h00
    refine r_aload_n hX dX11_nextStop_5 rfl ?_
    refine r_iload_n hX dX11_nextStop_6 rfl ?_
    refine r_cV1 hX dX11_nextStop_7 IX11_noCarrier ml_X11_286 rfl (LX11_s hL) rfl (t_X11_noCarrier1 (M := wI M i0) hL hn0 h1 ⟨c, hc, rfl⟩) (by decide) (by decide) (by decide) (by decide) rfl (Nat.le_of_ble_eq_true rfl) ?_
    refine r_if_eq (tgt := 15) hX dX11_nextStop_10 (by decide) (fun c10 => ?_) (fun c10 => absurd c10 (by decide))
    refine r_iconst (v := nI 0) hX dX11_nextStop_15 (by decide) ?_
    refine r_istore2 hX dX11_nextStop_16 rfl ?_
    refine loop_up (P := fun j => fstF (fun w => decide (¬ stopN σ.1 c (nv σ.1 6 + w) = -1)) j = -1 → J G base X 0 0 (wI M i0) 17 [some (.ref a), some (.int (nI c)), some (.int (nI j))] []) 168 (fun j hj ih hno => ?_) 0 (Nat.zero_le _) rfl
    refine r_iload_n hX dX11_nextStop_17 rfl ?_
    refine r_sipush (v := nI 168) hX dX11_nextStop_18 (by decide) ?_
    refine rn_icmp_ge (tgt := 50) hX dX11_nextStop_21 (by decide) rfl rfl (by omega) (by omega) (fun c21 => ?_) (fun c21 => ?_)
    · refine r_iconst (v := (-1)) hX dX11_nextStop_50 (by decide) ?_
      refine r_ireturn hX rfl rfl dX11_nextStop_51 (by decide) (by decide) ?_
      obtain rfl : j = 168 := by omega
      refine ⟨_, i0, rfl, rfl, hR0, ?_, ho0⟩
      unfold rs_nextStop
      rw [ix_of hc (by omega)]
      exact ⟨hno.symm, ht0⟩
    · refine r_aload_n hX dX11_nextStop_24 rfl ?_
      refine r_iload_n hX dX11_nextStop_25 rfl ?_
      refine r_aload_n hX dX11_nextStop_26 rfl ?_
      refine r_getr hX dX11_nextStop_27 fl_X11_13 rfl (LX11_s hL) (LX11_r1 hL) ?_
      refine r_bipush (v := nI 6) hX dX11_nextStop_30 (by decide) ?_
      refine rn_iald hX dX11_nextStop_32 (LX11_a1 hL) rfl (by omega) (by omega) ?_
      rw [hn0]
      rw [ht6]
      refine r_iload_n hX dX11_nextStop_33 rfl ?_
      refine rn_iadd hX dX11_nextStop_34 rfl rfl ?_
      refine r_cV2 hX dX11_nextStop_35 IX11_stopIn ml_X11_86 rfl (LX11_s hL) rfl (t_X11_stopIn (M := wI M i0) hL hn0 hr (by omega) (by omega)) (by decide) (by decide) (by decide) (by decide) rfl (Nat.le_of_ble_eq_true rfl) ?_
      refine r_iconst (v := (-1)) hX dX11_nextStop_38 (by decide) ?_
      refine r_icmp_eq (tgt := 44) hX dX11_nextStop_39 (by decide) (fun c39 => ?_) (fun c39 => ?_)
      · refine rn_iinc2 hX dX11_nextStop_44 rfl rfl ?_
        refine r_goto (tgt := 17) hX dX11_nextStop_47 (by decide) ?_
        exact ih (by omega) (fstF_no hno (by simp only [decide_eq_true_eq]; exact fun z => z c39))
      · refine r_iload_n hX dX11_nextStop_42 rfl ?_
        refine r_ireturn hX rfl rfl dX11_nextStop_43 (by decide) (by decide) ?_
        refine ⟨_, i0, rfl, rfl, hR0, ?_, ho0⟩
        unfold rs_nextStop
        rw [ix_of hc (by omega)]
        exact ⟨(fstF_stay (by omega) hno (by simp only [decide_eq_true_eq]; exact c39) (by omega)).symm, ht0⟩
  · refine Ct.of IX11_nextStop.1 (by simp [Value.category]) (Nat.le_of_ble_eq_true rfl) (fun X hX hN => ?_)
    show J G base X 0 0 M 0 [some (.ref a), some (.int x), none] []
    refine r_aload_n hX dX11_nextStop_0 rfl ?_
    refine r_iconst (v := nI 0) hX dX11_nextStop_1 (by decide) ?_
    refine r_puti hX dX11_nextStop_2 fl_X11_3 rfl rfl (LX11_s hL) ?_
    refine J.gen (M0 := M) rfl (fun i0 h00 => ?_)
    obtain ⟨hR0, hn0, ht0, ho0⟩ := pub0 hR h00
    clear h00
    refine r_aload_n hX dX11_nextStop_5 rfl ?_
    refine r_iload_n hX dX11_nextStop_6 rfl ?_
    refine r_cV1 hX dX11_nextStop_7 IX11_noCarrier ml_X11_286 rfl (LX11_s hL) rfl (t_X11_noCarrier0 (M := wI M i0) hL hn0 h1 hx) (by decide) (by decide) (by decide) (by decide) rfl (Nat.le_of_ble_eq_true rfl) ?_
    refine r_if_eq (tgt := 15) hX dX11_nextStop_10 (by decide) (fun c10 => absurd c10 (by decide)) (fun c10 => ?_)
    refine r_iconst (v := 0) hX dX11_nextStop_13 (by decide) ?_
    refine r_ireturn hX rfl rfl dX11_nextStop_14 (by decide) (by decide) ?_
    obtain ⟨q1, q2, q3⟩ := pub1 hR0 ho0 1
    refine ⟨_, mI (uI (wI M i0) a 0 1), rfl, rfl, q1, ?_, q3⟩
    unfold rs_nextStop
    rw [ix_no hx]
    exact q2

theorem setB_step {f : Nat → Bool} {c : Nat} : setB f (c + 1) = setB f c ||| (if f c = true then b1 c else 0) := rfl
theorem or_b1s (x : Int32) (k : Nat) : x ||| b1 k ||| b1 k = x ||| b1 k := by
  apply b_ext
  intro i _
  simp only [b_or]
  cases bt x i <;> cases bt (b1 k) i <;> rfl
theorem any_step {S : Int32} {f : Nat → Bool} {h c : Nat} : (f h = false → (S ||| (if anyB f h = true then b1 c else 0)) ||| 0 = S ||| (if anyB f (h + 1) = true then b1 c else 0)) ∧ (f h = true → (S ||| (if anyB f h = true then b1 c else 0)) ||| b1 c = S ||| (if anyB f (h + 1) = true then b1 c else 0)) := by
  have e : anyB f (h + 1) = (anyB f h || f h) := rfl
  constructor
  · intro hf
    rw [b_or0, e, hf, Bool.or_false]
  · intro hf
    rw [e, hf, Bool.or_true, if_pos rfl]
    split
    · exact or_b1s _ _
    · rw [b_or0]
set_option maxHeartbeats 2000000 in
set_option maxRecDepth 20000 in
theorem t_X11_carriersAt {M : Mm} {a : Nat} {σ : Sg} {T : Nat} (hL : LX11 M.1 M.2.1 a) (hR : RI (mI M) a σ) (hO : OkN T σ.1) (hT9 : T < 890000) {x : Int32} : Ct G base YX11_carriersAt 5 0 0 [.ref a, .int x] M (rV M (pQ M a (rs_carriersAt σ x) σ)) := by
  obtain ⟨hT, hS, hLt, h4, h5, h6, hLo, hSt, hN⟩ := hO
  have h0 := hT.1
  have h1 := hT.2.1
  have hr := hT.2.2
  have h2 := hLt.1
  have h3 := hLt.2.1
  have hb0 := h0.2
  have hb1 := h1.2
  have hb2 := h2.2
  have hb3 := h3.2
  have hb4 := h4.2
  have ht6 : σ.1 6 = nI (nv σ.1 6) := h6.1
  have hh6 : nv σ.1 6 ≤ T := h6.2
  by_cases hx : ∃ c, c < nv σ.1 0 ∧ x = nI c
  · obtain ⟨p, hp, rfl⟩ := hx
    refine Ct.of IX11_carriersAt.1 (by simp [Value.category]) (Nat.le_of_ble_eq_true rfl) (fun X hX hN => ?_)
    show J G base X 0 0 M 0 [some (.ref a), some (.int (nI p)), none, none, none] []
    refine r_aload_n hX dX11_carriersAt_0 rfl ?_
    refine r_iconst (v := nI 0) hX dX11_carriersAt_1 (by decide) ?_
    refine r_puti hX dX11_carriersAt_2 fl_X11_3 rfl rfl (LX11_s hL) ?_
    refine J.gen (M0 := M) rfl (fun i0 h00 => ?_)
    obtain ⟨hR0, hn0, ht0, ho0⟩ := pub0 hR h00
    clear h00
    refine r_aload_n hX dX11_carriersAt_5 rfl ?_
    refine r_iload_n hX dX11_carriersAt_6 rfl ?_
    refine r_cV1 hX dX11_carriersAt_7 IX11_noPlace ml_X11_283 rfl (LX11_s hL) rfl (t_X11_noPlace1 (M := wI M i0) hL hn0 h0 ⟨p, hp, rfl⟩) (by decide) (by decide) (by decide) (by decide) rfl (Nat.le_of_ble_eq_true rfl) ?_
    refine r_if_eq (tgt := 15) hX dX11_carriersAt_10 (by decide) (fun c10 => ?_) (fun c10 => absurd c10 (by decide))
    refine r_iconst (v := 0) hX dX11_carriersAt_15 (by decide) ?_
    refine r_istore2 hX dX11_carriersAt_16 rfl ?_
    refine r_iconst (v := nI 0) hX dX11_carriersAt_17 (by decide) ?_
    refine r_istore3 hX dX11_carriersAt_18 rfl ?_
    generalize hF : (fun c => anyB (fun h => decide (stopN σ.1 c h = nI p)) 168) = F
    refine loop_up (P := fun c => J G base X 0 0 (wI M i0) 19 [some (.ref a), some (.int (nI p)), some (.int (setB F c)), some (.int (nI c)), none] []) (nv σ.1 1) (fun c hc ih => ?_) 0 (Nat.zero_le _)
    refine r_iload_n hX dX11_carriersAt_19 rfl ?_
    refine r_aload_n hX dX11_carriersAt_20 rfl ?_
    refine r_cV0 hX dX11_carriersAt_21 IX11_carriers ml_X11_151 rfl (LX11_s hL) rfl (t_X11_carriers (M := wI M i0) hL hn0 h1) (by decide) (by decide) (by decide) (by decide) rfl (Nat.le_of_ble_eq_true rfl) ?_
    refine rn_icmp_ge (tgt := 71) hX dX11_carriersAt_24 (by decide) rfl rfl (by omega) (by omega) (fun c24 => ?_) (fun c24 => ?_)
    · refine r_iload_n hX dX11_carriersAt_71 rfl ?_
      refine r_ireturn hX rfl rfl dX11_carriersAt_72 (by decide) (by decide) ?_
      obtain rfl : c = nv σ.1 1 := by omega
      refine ⟨_, i0, rfl, rfl, hR0, ?_, ho0⟩
      unfold rs_carriersAt
      rw [ix_of hp (by omega)]
      exact ⟨by rw [← hF], ht0⟩
    · refine r_iconst (v := nI 0) hX dX11_carriersAt_27 (by decide) ?_
      refine r_istore4 hX dX11_carriersAt_28 rfl ?_
      have main : ∀ h, h ≤ 168 → J G base X 0 0 (wI M i0) 30 [some (.ref a), some (.int (nI p)), some (.int (setB F c ||| (if anyB (fun h => decide (stopN σ.1 c h = nI p)) h = true then b1 c else 0))), some (.int (nI c)), some (.int (nI h))] [] := ?_
      · have z := main 0 (by omega)
        rw [show setB F c ||| (if anyB (fun h => decide (stopN σ.1 c h = nI p)) 0 = true then b1 c else 0) = setB F c from b_or0 _] at z
        exact z
      refine loop_up 168 (fun h hh ihh => ?_)
      refine r_iload hX dX11_carriersAt_30 rfl ?_
      refine r_sipush (v := nI 168) hX dX11_carriersAt_32 (by decide) ?_
      refine rn_icmp_ge (tgt := 65) hX dX11_carriersAt_35 (by decide) rfl rfl (by omega) (by omega) (fun c35 => ?_) (fun c35 => ?_)
      · obtain rfl : h = 168 := by omega
        refine rn_iinc3 hX dX11_carriersAt_65 rfl rfl ?_
        refine r_goto (tgt := 19) hX dX11_carriersAt_68 (by decide) ?_
        have z := ih (by omega)
        rw [setB_step] at z
        have e : F c = anyB (fun h => decide (stopN σ.1 c h = nI p)) 168 := by rw [← hF]
        rw [e] at z
        exact J.junk z (by repeat first | exact trivial | refine ⟨rfl, ?_⟩)
      · refine r_iload_n hX dX11_carriersAt_38 rfl ?_
        refine r_aload_n hX dX11_carriersAt_39 rfl ?_
        refine r_iload_n hX dX11_carriersAt_40 rfl ?_
        refine r_iload hX dX11_carriersAt_41 rfl ?_
        refine r_cV2 hX dX11_carriersAt_43 IX11_stopIn ml_X11_86 rfl (LX11_s hL) rfl (t_X11_stopIn (M := wI M i0) hL hn0 hr (by omega) (by omega)) (by decide) (by decide) (by decide) (by decide) rfl (Nat.le_of_ble_eq_true rfl) ?_
        refine r_iload_n hX dX11_carriersAt_46 rfl ?_
        refine r_icmp_ne (tgt := 56) hX dX11_carriersAt_47 (by decide) (fun c47 => ?_) (fun c47 => ?_)
        · refine r_iconst (v := 0) hX dX11_carriersAt_56 (by decide) ?_
          refine r_ior hX dX11_carriersAt_57 ?_
          refine r_istore2 hX dX11_carriersAt_58 rfl ?_
          refine rn_iinc4 hX dX11_carriersAt_59 rfl rfl ?_
          refine r_goto (tgt := 30) hX dX11_carriersAt_62 (by decide) ?_
          have z := ihh (by omega)
          first
            | (rw [← (any_step (S := setB F c) (f := fun h => decide (stopN σ.1 c h = nI p)) (h := h) (c := c)).1 (decide_eq_false c47)] at z
               exact z)
            | (rw [← (any_step (S := setB F c) (f := fun h => decide (stopN σ.1 c h = nI p)) (h := h) (c := c)).2 (decide_eq_true c47)] at z
               exact z)
        · refine r_iconst (v := 1) hX dX11_carriersAt_50 (by decide) ?_
          refine r_iload_n hX dX11_carriersAt_51 rfl ?_
          refine r_ishl hX dX11_carriersAt_52 ?_
          refine r_goto (tgt := 57) hX dX11_carriersAt_53 (by decide) ?_
          refine r_ior hX dX11_carriersAt_57 ?_
          refine r_istore2 hX dX11_carriersAt_58 rfl ?_
          refine rn_iinc4 hX dX11_carriersAt_59 rfl rfl ?_
          refine r_goto (tgt := 30) hX dX11_carriersAt_62 (by decide) ?_
          have z := ihh (by omega)
          first
            | (rw [← (any_step (S := setB F c) (f := fun h => decide (stopN σ.1 c h = nI p)) (h := h) (c := c)).1 (decide_eq_false c47)] at z
               exact z)
            | (rw [← (any_step (S := setB F c) (f := fun h => decide (stopN σ.1 c h = nI p)) (h := h) (c := c)).2 (decide_eq_true c47)] at z
               exact z)
  · refine Ct.of IX11_carriersAt.1 (by simp [Value.category]) (Nat.le_of_ble_eq_true rfl) (fun X hX hN => ?_)
    show J G base X 0 0 M 0 [some (.ref a), some (.int x), none, none, none] []
    refine r_aload_n hX dX11_carriersAt_0 rfl ?_
    refine r_iconst (v := nI 0) hX dX11_carriersAt_1 (by decide) ?_
    refine r_puti hX dX11_carriersAt_2 fl_X11_3 rfl rfl (LX11_s hL) ?_
    refine J.gen (M0 := M) rfl (fun i0 h00 => ?_)
    obtain ⟨hR0, hn0, ht0, ho0⟩ := pub0 hR h00
    clear h00
    refine r_aload_n hX dX11_carriersAt_5 rfl ?_
    refine r_iload_n hX dX11_carriersAt_6 rfl ?_
    refine r_cV1 hX dX11_carriersAt_7 IX11_noPlace ml_X11_283 rfl (LX11_s hL) rfl (t_X11_noPlace0 (M := wI M i0) hL hn0 h0 hx) (by decide) (by decide) (by decide) (by decide) rfl (Nat.le_of_ble_eq_true rfl) ?_
    refine r_if_eq (tgt := 15) hX dX11_carriersAt_10 (by decide) (fun c10 => absurd c10 (by decide)) (fun c10 => ?_)
    refine r_iconst (v := 0) hX dX11_carriersAt_13 (by decide) ?_
    refine r_ireturn hX rfl rfl dX11_carriersAt_14 (by decide) (by decide) ?_
    obtain ⟨q1, q2, q3⟩ := pub1 hR0 ho0 1
    refine ⟨_, mI (uI (wI M i0) a 0 1), rfl, rfl, q1, ?_, q3⟩
    unfold rs_carriersAt
    rw [ix_no hx]
    exact q2

