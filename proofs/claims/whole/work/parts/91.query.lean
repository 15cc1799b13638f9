variable {G : GG} {base : Nat}
/-- the hours of a route rise -/
def RtIn (n : Nat → Int32) : Prop := ∀ c, c < 5 → ∀ w, w < 7 → ∀ j k, j < k → k < nv n (rtA c w) → nv n (rtA c w + 1 + 2 * j) < nv n (rtA c w + 1 + 2 * k)
theorem RtIn.eq {n m : Nat → Int32} (h : RtIn n) (hr : RtOk n) (e : ∀ q, 43 ≤ q → q < 498 → m q = n q) : RtIn m := fun c hc w hw j k hjk hk => by
  have eA : rtA c w = 43 + 13 * (7 * c + w) := rfl
  have h6 := (hr c hc w hw).1.2
  have e0 : nv m (rtA c w) = nv n (rtA c w) := nv_eq (e _ (by omega) (by omega))
  rw [e0] at hk
  rw [nv_eq (e _ (by omega) (by omega)), nv_eq (e _ (by omega) (by omega))]
  exact h c hc w hw j k hjk hk
theorem cntB_more {f : Nat → Bool} {k m : Nat} (hk : k ≤ m) (h : ∀ j, k ≤ j → j < m → f j = false) : cntB f m = cntB f k := by
  induction m with
  | zero => rw [show k = 0 by omega]
  | succ m ih =>
    by_cases hkm : k = m + 1
    · rw [hkm]
    · rw [cnt_no (by rw [h m (by omega) (by omega)]; decide), ih (by omega) (fun j h1 h2 => h j h1 (by omega))]
theorem town_false {n : Nat → Int32} {p : Nat} (h : nv n 0 ≤ p) : town n p = false := by
  unfold town
  exact decide_eq_false (fun z => absurd z.1 (by omega))
theorem cnt_town {n : Nat → Int32} (h : nv n 0 ≤ 10) : cntB (town n) 10 = cntB (town n) (nv n 0) := cntB_more h (fun j h1 _ => town_false h1)
theorem gst_eq {n : Nat → Int32} {h p c : Nat} (hc : c < nv n 1) : gstN n h p c = decide (stopN n c h = nI p) := by
  unfold gstN
  by_cases z : stopN n c h = nI p
  · rw [decide_eq_true z, decide_eq_true ⟨hc, z⟩]
  · rw [decide_eq_false z, decide_eq_false (fun y => z y.2)]
theorem gst_no {n : Nat → Int32} {h p c : Nat} (hc : nv n 1 ≤ c) : gstN n h p c = false := decide_eq_false (fun z => absurd z.1 (by omega))
theorem cnt_gst {n : Nat → Int32} {h p : Nat} (h5 : nv n 1 ≤ 5) : cntB (gstN n h p) 5 = cntB (fun c => decide (stopN n c h = nI p)) (nv n 1) := by
  rw [cntB_more h5 (fun j h1 _ => gst_no h1)]
  exact cntB_congr (fun j hj => gst_eq hj)
/-- the carriers that stop there in the first j hours -/
def caB (n : Nat → Int32) (p j : Nat) : Nat → Bool := fun c => anyB (fun h => gstN n h p c) j
theorem ca_step {n : Nat → Int32} {p j : Nat} : setB (caB n p j) 5 ||| setB (gstN n j p) 5 = setB (caB n p (j + 1)) 5 := setB_or _ _ (by omega)
theorem anyB_false {f : Nat → Bool} : ∀ {k : Nat}, (∀ j, j < k → f j = false) → anyB f k = false := fun {k} h => by
  cases e : anyB f k with
  | false => rfl
  | true =>
    obtain ⟨j, hj, z⟩ := anyB_iff.mp e
    rw [h j hj] at z
    cases z
theorem ca_end {n : Nat → Int32} {p : Nat} (h5 : nv n 1 ≤ 5) : setB (caB n p 168) 5 = setB (fun c => anyB (fun h => decide (stopN n c h = nI p)) 168) (nv n 1) := by
  rw [setB_more (f := caB n p 168) h5 (fun j h1 h2 => anyB_false (fun h _ => gst_no h1))]
  exact setB_congr (fun c hc => anyB_congr (fun h _ => gst_eq hc))
set_option maxHeartbeats 2000000 in
set_option maxRecDepth 20000 in
theorem t_c_placeOf {M : Mm} {a : Nat} {σ : Sg} {T : Nat} (hL : LX10 M.1 M.2.1 a) (hC : CI (mI M) a σ) (hO : OkN T σ.1) (hT9 : T < 890000) {x : Int32} : Ct G base YX10_placeOf 20 1 6 [.ref a, .int x] M (rC M a 1 4 (rs_placeOf σ x) σ) := by
  obtain ⟨hT, hS, hLt, h4, h5, h6, hLo, hSt, hNa⟩ := hO
  have h0 := hT.1
  have h1 := hT.2.1
  have hr := hT.2.2
  have h2 := hLt.1
  have h3 := hLt.2.1
  have hb0 := h0.2
  have hb1 := h1.2
  have hb2 := h2.2
  have hb3 := h3.2
  have hb4 := h4.2
  have ht6 : σ.1 6 = nI (nv σ.1 6) := h6.1
  have hh6 : nv σ.1 6 ≤ T := h6.2
  have hTT : TT (mI M) (a + 28) σ.1 := hC.2.2.2.1
  have hRS : RS (mI M) (a + 34) σ.1 := hC.2.2.2.2.1
  have hHR : HR (mI M) (a + 52) σ.2.1 σ.2.2.1 := hC.2.2.2.2.2.1
  have hpc : mI M (a + 28) 0 = nI (nv σ.1 0) := hTT.1.trans h0.1
  have hcc : mI M (a + 28) 2 = nI (nv σ.1 1) := hTT.2.2.1.trans h1.1
  have hlc : mI M (a + 34 + 2) 0 = nI (nv σ.1 2) := hRS.2.2.1.1.trans h2.1
  have hkc : mI M (a + 34 + 15) 0 = nI (nv σ.1 3) := hRS.2.2.2.2.1.trans h3.1
  have hrc : mI M (a + 34 + 13) 0 = nI (nv σ.1 4) := hRS.2.2.2.1.1.trans h4.1
  have htm : mI M (a + 34) 0 = nI (nv σ.1 6) := hRS.1.1.trans ht6
  by_cases hx : ∃ c, c < nv σ.1 1 ∧ x = nI c
  · obtain ⟨c, hc, rfl⟩ := hx
    refine Ct.of IX10_placeOf.1 (by simp [Value.category]) (Nat.le_of_ble_eq_true rfl) (fun X hX hN => ?_)
    show J G base X 0 0 M 0 [some (.ref a), some (.int (nI c))] []
    refine r_iload_n hX dX10_placeOf_0 rfl ?_
    refine r_aload_n hX dX10_placeOf_1 rfl ?_
    refine r_getr hX dX10_placeOf_2 fl_X10_33 rfl (LX10_s hL) (LX10_r5 hL) ?_
    refine rn_geti (v := nI (nv σ.1 1)) hX dX10_placeOf_5 fl_X10_138 rfl (LX9_s (LX10_o5 hL)) hcc ?_
    refine r_cS2 hX dX10_placeOf_8 IX10_needIndex ml_X10_169 rfl (t_ni1 hc (by omega)) (by decide) (by decide) (by decide) (by decide) rfl (Nat.le_of_ble_eq_true rfl) ?_
    refine r_aload_n hX dX10_placeOf_11 rfl ?_
    refine r_getr hX dX10_placeOf_12 fl_X10_40 rfl (LX10_s hL) (LX10_r6 hL) ?_
    refine r_geti hX dX10_placeOf_15 fl_X10_187 rfl (LX8_s (LX10_o6 hL)) ?_
    refine r_iload_n hX dX10_placeOf_18 rfl ?_
    refine r_cS2 hX dX10_placeOf_19 IX10_has ml_X10_190 rfl (t_X10_has) (by decide) (by decide) (by decide) (by decide) rfl (Nat.le_of_ble_eq_true rfl) ?_
    rw [itec (show hasP (mI M (a + 34) 3) (nI c) ↔ σ.1 (38 + c) = 1 from by rw [hasP_nI (by omega), hRS.1.2.2.2 c (by omega), decide_eq_true_iff])]
    refine rb_if_eq (tgt := 29) hX dX10_placeOf_22 (by decide) rfl (fun c22 => ?_) (fun c22 => ?_)
    · refine r_aload_n hX dX10_placeOf_29 rfl ?_
      refine r_getr hX dX10_placeOf_30 fl_X10_33 rfl (LX10_s hL) (LX10_r5 hL) ?_
      refine r_iload_n hX dX10_placeOf_33 rfl ?_
      refine r_aload_n hX dX10_placeOf_34 rfl ?_
      refine r_getr hX dX10_placeOf_35 fl_X10_40 rfl (LX10_s hL) (LX10_r6 hL) ?_
      refine rn_geti (v := nI (nv σ.1 6)) hX dX10_placeOf_38 fl_X10_160 rfl (LX8_s (LX10_o6 hL)) htm ?_
      refine r_cV2 hX dX10_placeOf_41 IX9_stopPlace ml_X10_184 rfl (LX9_s (LX10_o5 hL)) rfl (t_X9_stopPlace (LX10_o5 hL) hTT hT hc (by omega)) (by decide) (by decide) (by decide) (by decide) rfl (Nat.le_of_ble_eq_true rfl) ?_
      refine r_ireturn hX rfl rfl dX10_placeOf_44 (by decide) (by decide) ?_
      exact rC.y0 (by unfold rs_placeOf; rw [ix_of hc (by omega)]; unfold placeN; dsimp only; rw [if_neg c22]) hC
    · refine r_iconst (v := (-1)) hX dX10_placeOf_25 (by decide) ?_
      refine r_goto (tgt := 44) hX dX10_placeOf_26 (by decide) ?_
      refine r_ireturn hX rfl rfl dX10_placeOf_44 (by decide) (by decide) ?_
      exact rC.y0 (by unfold rs_placeOf; rw [ix_of hc (by omega)]; unfold placeN; dsimp only; rw [if_pos c22]) hC
  · refine Ct.of IX10_placeOf.1 (by simp [Value.category]) (Nat.le_of_ble_eq_true rfl) (fun X hX hN => ?_)
    show J G base X 0 0 M 0 [some (.ref a), some (.int x)] []
    refine r_iload_n hX dX10_placeOf_0 rfl ?_
    refine r_aload_n hX dX10_placeOf_1 rfl ?_
    refine r_getr hX dX10_placeOf_2 fl_X10_33 rfl (LX10_s hL) (LX10_r5 hL) ?_
    refine rn_geti (v := nI (nv σ.1 1)) hX dX10_placeOf_5 fl_X10_138 rfl (LX9_s (LX10_o5 hL)) hcc ?_
    refine r_tS2 hX dX10_placeOf_8 IX10_needIndex ml_X10_169 rfl (t_ni0 hx (by omega)) (by decide) (by decide) (by decide) (by decide) rfl (Nat.le_of_ble_eq_true rfl) ?_
    exact rC.n0 (k := 1) (by unfold rs_placeOf; rw [ix_no hx]) rfl hC

set_option maxHeartbeats 2000000 in
set_option maxRecDepth 20000 in
theorem t_c_nextStop {M : Mm} {a : Nat} {σ : Sg} {T : Nat} (hL : LX10 M.1 M.2.1 a) (hC : CI (mI M) a σ) (hO : OkN T σ.1) (hT9 : T < 890000) {x : Int32} : Ct G base YX10_nextStop 20 1 6 [.ref a, .int x] M (rC M a 1 4 (rs_nextStop σ x) σ) := by
  obtain ⟨hT, hS, hLt, h4, h5, h6, hLo, hSt, hNa⟩ := hO
  have h0 := hT.1
  have h1 := hT.2.1
  have hr := hT.2.2
  have h2 := hLt.1
  have h3 := hLt.2.1
  have hb0 := h0.2
  have hb1 := h1.2
  have hb2 := h2.2
  have hb3 := h3.2
  have hb4 := h4.2
  have ht6 : σ.1 6 = nI (nv σ.1 6) := h6.1
  have hh6 : nv σ.1 6 ≤ T := h6.2
  have hTT : TT (mI M) (a + 28) σ.1 := hC.2.2.2.1
  have hRS : RS (mI M) (a + 34) σ.1 := hC.2.2.2.2.1
  have hHR : HR (mI M) (a + 52) σ.2.1 σ.2.2.1 := hC.2.2.2.2.2.1
  have hpc : mI M (a + 28) 0 = nI (nv σ.1 0) := hTT.1.trans h0.1
  have hcc : mI M (a + 28) 2 = nI (nv σ.1 1) := hTT.2.2.1.trans h1.1
  have hlc : mI M (a + 34 + 2) 0 = nI (nv σ.1 2) := hRS.2.2.1.1.trans h2.1
  have hkc : mI M (a + 34 + 15) 0 = nI (nv σ.1 3) := hRS.2.2.2.2.1.trans h3.1
  have hrc : mI M (a + 34 + 13) 0 = nI (nv σ.1 4) := hRS.2.2.2.1.1.trans h4.1
  have htm : mI M (a + 34) 0 = nI (nv σ.1 6) := hRS.1.1.trans ht6
  by_cases hx : ∃ c, c < nv σ.1 1 ∧ x = nI c
  · obtain ⟨c, hc, rfl⟩ := hx
    refine Ct.of IX10_nextStop.1 (by simp [Value.category]) (Nat.le_of_ble_eq_true rfl) (fun X hX hN => ?_)
    show J G base X 0 0 M 0 [some (.ref a), some (.int (nI c)), none] []
    refine r_iload_n hX dX10_nextStop_0 rfl ?_
    refine r_aload_n hX dX10_nextStop_1 rfl ?_
    refine r_getr hX dX10_nextStop_2 fl_X10_33 rfl (LX10_s hL) (LX10_r5 hL) ?_
    refine rn_geti (v := nI (nv σ.1 1)) hX dX10_nextStop_5 fl_X10_138 rfl (LX9_s (LX10_o5 hL)) hcc ?_
    refine r_cS2 hX dX10_nextStop_8 IX10_needIndex ml_X10_169 rfl (t_ni1 hc (by omega)) (by decide) (by decide) (by decide) (by decide) rfl (Nat.le_of_ble_eq_true rfl) ?_
    refine r_iconst (v := nI 0) hX dX10_nextStop_11 (by decide) ?_
    refine r_istore2 hX dX10_nextStop_12 rfl ?_
    refine loop_up (P := fun j => fstF (fun w => decide (¬ stopN σ.1 c (nv σ.1 6 + w) = -1)) j = -1 → J G base X 0 0 M 13 [some (.ref a), some (.int (nI c)), some (.int (nI j))] []) 168 (fun j hj ih hno => ?_) 0 (Nat.zero_le _) rfl
    refine r_iload_n hX dX10_nextStop_13 rfl ?_
    refine r_sipush (v := nI 168) hX dX10_nextStop_14 (by decide) ?_
    refine rn_icmp_ge (tgt := 49) hX dX10_nextStop_17 (by decide) rfl rfl (by omega) (by omega) (fun c17 => ?_) (fun c17 => ?_)
    · refine r_iconst (v := (-1)) hX dX10_nextStop_49 (by decide) ?_
      refine r_ireturn hX rfl rfl dX10_nextStop_50 (by decide) (by decide) ?_
      obtain rfl : j = 168 := by omega
      exact rC.y0 (by unfold rs_nextStop; rw [ix_of hc (by omega)]; dsimp only; rw [hno]) hC
    · refine r_aload_n hX dX10_nextStop_20 rfl ?_
      refine r_getr hX dX10_nextStop_21 fl_X10_33 rfl (LX10_s hL) (LX10_r5 hL) ?_
      refine r_iload_n hX dX10_nextStop_24 rfl ?_
      refine r_aload_n hX dX10_nextStop_25 rfl ?_
      refine r_getr hX dX10_nextStop_26 fl_X10_40 rfl (LX10_s hL) (LX10_r6 hL) ?_
      refine rn_geti (v := nI (nv σ.1 6)) hX dX10_nextStop_29 fl_X10_160 rfl (LX8_s (LX10_o6 hL)) htm ?_
      refine r_iload_n hX dX10_nextStop_32 rfl ?_
      refine rn_iadd hX dX10_nextStop_33 rfl rfl ?_
      refine r_cV2 hX dX10_nextStop_34 IX9_stopPlace ml_X10_184 rfl (LX9_s (LX10_o5 hL)) rfl (t_X9_stopPlace (LX10_o5 hL) hTT hT hc (by omega)) (by decide) (by decide) (by decide) (by decide) rfl (Nat.le_of_ble_eq_true rfl) ?_
      refine r_iconst (v := (-1)) hX dX10_nextStop_37 (by decide) ?_
      refine r_icmp_eq (tgt := 43) hX dX10_nextStop_38 (by decide) (fun c38 => ?_) (fun c38 => ?_)
      · refine rn_iinc2 hX dX10_nextStop_43 rfl rfl ?_
        refine r_goto (tgt := 13) hX dX10_nextStop_46 (by decide) ?_
        exact ih (by omega) (fstF_no hno (by simp only [decide_eq_true_eq]; exact fun z => z c38))
      · refine r_iload_n hX dX10_nextStop_41 rfl ?_
        refine r_ireturn hX rfl rfl dX10_nextStop_42 (by decide) (by decide) ?_
        exact rC.y0 (by unfold rs_nextStop; rw [ix_of hc (by omega)]; dsimp only; rw [fstF_stay (by omega) hno (by simp only [decide_eq_true_eq]; exact c38) (by omega)]) hC
  · refine Ct.of IX10_nextStop.1 (by simp [Value.category]) (Nat.le_of_ble_eq_true rfl) (fun X hX hN => ?_)
    show J G base X 0 0 M 0 [some (.ref a), some (.int x), none] []
    refine r_iload_n hX dX10_nextStop_0 rfl ?_
    refine r_aload_n hX dX10_nextStop_1 rfl ?_
    refine r_getr hX dX10_nextStop_2 fl_X10_33 rfl (LX10_s hL) (LX10_r5 hL) ?_
    refine rn_geti (v := nI (nv σ.1 1)) hX dX10_nextStop_5 fl_X10_138 rfl (LX9_s (LX10_o5 hL)) hcc ?_
    refine r_tS2 hX dX10_nextStop_8 IX10_needIndex ml_X10_169 rfl (t_ni0 hx (by omega)) (by decide) (by decide) (by decide) (by decide) rfl (Nat.le_of_ble_eq_true rfl) ?_
    exact rC.n0 (k := 1) (by unfold rs_nextStop; rw [ix_no hx]) rfl hC

set_option maxHeartbeats 2000000 in
set_option maxRecDepth 20000 in
theorem t_c_carriersAt {M : Mm} {a : Nat} {σ : Sg} {T : Nat} (hL : LX10 M.1 M.2.1 a) (hC : CI (mI M) a σ) (hO : OkN T σ.1) (hT9 : T < 890000) {x : Int32} : Ct G base YX10_carriersAt 20 1 6 [.ref a, .int x] M (rC M a 1 4 (rs_carriersAt σ x) σ) := by
  obtain ⟨hT, hS, hLt, h4, h5, h6, hLo, hSt, hNa⟩ := hO
  have h0 := hT.1
  have h1 := hT.2.1
  have hr := hT.2.2
  have h2 := hLt.1
  have h3 := hLt.2.1
  have hb0 := h0.2
  have hb1 := h1.2
  have hb2 := h2.2
  have hb3 := h3.2
  have hb4 := h4.2
  have ht6 : σ.1 6 = nI (nv σ.1 6) := h6.1
  have hh6 : nv σ.1 6 ≤ T := h6.2
  have hTT : TT (mI M) (a + 28) σ.1 := hC.2.2.2.1
  have hRS : RS (mI M) (a + 34) σ.1 := hC.2.2.2.2.1
  have hHR : HR (mI M) (a + 52) σ.2.1 σ.2.2.1 := hC.2.2.2.2.2.1
  have hpc : mI M (a + 28) 0 = nI (nv σ.1 0) := hTT.1.trans h0.1
  have hcc : mI M (a + 28) 2 = nI (nv σ.1 1) := hTT.2.2.1.trans h1.1
  have hlc : mI M (a + 34 + 2) 0 = nI (nv σ.1 2) := hRS.2.2.1.1.trans h2.1
  have hkc : mI M (a + 34 + 15) 0 = nI (nv σ.1 3) := hRS.2.2.2.2.1.trans h3.1
  have hrc : mI M (a + 34 + 13) 0 = nI (nv σ.1 4) := hRS.2.2.2.1.1.trans h4.1
  have htm : mI M (a + 34) 0 = nI (nv σ.1 6) := hRS.1.1.trans ht6
  by_cases hx : ∃ c, c < nv σ.1 0 ∧ x = nI c
  · obtain ⟨p, hp, rfl⟩ := hx
    refine Ct.of IX10_carriersAt.1 (by simp [Value.category]) (Nat.le_of_ble_eq_true rfl) (fun X hX hN => ?_)
    show J G base X 0 0 M 0 [some (.ref a), some (.int (nI p)), none, none] []
    refine r_iload_n hX dX10_carriersAt_0 rfl ?_
    refine r_aload_n hX dX10_carriersAt_1 rfl ?_
    refine r_getr hX dX10_carriersAt_2 fl_X10_33 rfl (LX10_s hL) (LX10_r5 hL) ?_
    refine rn_geti (v := nI (nv σ.1 0)) hX dX10_carriersAt_5 fl_X10_104 rfl (LX9_s (LX10_o5 hL)) hpc ?_
    refine r_cS2 hX dX10_carriersAt_8 IX10_needIndex ml_X10_169 rfl (t_ni1 hp (by omega)) (by decide) (by decide) (by decide) (by decide) rfl (Nat.le_of_ble_eq_true rfl) ?_
    refine r_iconst (v := nI 0) hX dX10_carriersAt_11 (by decide) ?_
    refine r_istore2 hX dX10_carriersAt_12 rfl ?_
    refine r_iconst (v := nI 0) hX dX10_carriersAt_13 (by decide) ?_
    refine r_istore3 hX dX10_carriersAt_14 rfl ?_
    suffices hz : J G base X 0 0 M 15 [some (.ref a), some (.int (nI p)), some (.int (setB (caB σ.1 p 0) 5)), some (.int (nI 0))] [] from by
      rw [show setB (caB σ.1 p 0) 5 = nI 0 from setB_none] at hz
      exact hz
    refine loop_up (P := fun j => J G base X 0 0 M 15 [some (.ref a), some (.int (nI p)), some (.int (setB (caB σ.1 p j) 5)), some (.int (nI j))] []) 168 (fun j hj ih => ?_) 0 (Nat.zero_le _)
    refine r_iload_n hX dX10_carriersAt_15 rfl ?_
    refine r_sipush (v := nI 168) hX dX10_carriersAt_16 (by decide) ?_
    refine rn_icmp_ge (tgt := 40) hX dX10_carriersAt_19 (by decide) rfl rfl (by omega) (by omega) (fun c19 => ?_) (fun c19 => ?_)
    · refine r_iload_n hX dX10_carriersAt_40 rfl ?_
      refine r_ireturn hX rfl rfl dX10_carriersAt_41 (by decide) (by decide) ?_
      obtain rfl : j = 168 := by omega
      exact rC.y0 (by unfold rs_carriersAt; rw [ix_of hp (by omega)]; dsimp only; rw [ca_end hb1]) hC
    · refine r_iload_n hX dX10_carriersAt_22 rfl ?_
      refine r_aload_n hX dX10_carriersAt_23 rfl ?_
      refine r_getr hX dX10_carriersAt_24 fl_X10_33 rfl (LX10_s hL) (LX10_r5 hL) ?_
      refine r_iload_n hX dX10_carriersAt_27 rfl ?_
      refine r_iload_n hX dX10_carriersAt_28 rfl ?_
      refine r_cV2 hX dX10_carriersAt_29 IX9_carriersStopping ml_X10_194 rfl (LX9_s (LX10_o5 hL)) rfl (t_X9_carriersStopping (LX10_o5 hL) (by omega) (by omega)) (by decide) (by decide) (by decide) (by decide) rfl (Nat.le_of_ble_eq_true rfl) ?_
      rw [hTT.gs j (by omega)]
      refine r_ior hX dX10_carriersAt_32 ?_
      refine r_istore2 hX dX10_carriersAt_33 rfl ?_
      refine rn_iinc3 hX dX10_carriersAt_34 rfl rfl ?_
      refine r_goto (tgt := 15) hX dX10_carriersAt_37 (by decide) ?_
      have z := ih (by omega)
      rw [← ca_step] at z
      exact z
  · refine Ct.of IX10_carriersAt.1 (by simp [Value.category]) (Nat.le_of_ble_eq_true rfl) (fun X hX hN => ?_)
    show J G base X 0 0 M 0 [some (.ref a), some (.int x), none, none] []
    refine r_iload_n hX dX10_carriersAt_0 rfl ?_
    refine r_aload_n hX dX10_carriersAt_1 rfl ?_
    refine r_getr hX dX10_carriersAt_2 fl_X10_33 rfl (LX10_s hL) (LX10_r5 hL) ?_
    refine rn_geti (v := nI (nv σ.1 0)) hX dX10_carriersAt_5 fl_X10_104 rfl (LX9_s (LX10_o5 hL)) hpc ?_
    refine r_tS2 hX dX10_carriersAt_8 IX10_needIndex ml_X10_169 rfl (t_ni0 hx (by omega)) (by decide) (by decide) (by decide) (by decide) rfl (Nat.le_of_ble_eq_true rfl) ?_
    exact rC.n0 (k := 1) (by unfold rs_carriersAt; rw [ix_no hx]) rfl hC

set_option maxHeartbeats 2000000 in
set_option maxRecDepth 20000 in
theorem t_c_meetings {M : Mm} {a : Nat} {σ : Sg} {T : Nat} (hL : LX10 M.1 M.2.1 a) (hC : CI (mI M) a σ) (hO : OkN T σ.1) (hT9 : T < 890000) : Ct G base YX10_meetings 20 1 6 [.ref a] M (rC M a 1 4 (rs_meetings σ) σ) := by
  obtain ⟨hT, hS, hLt, h4, h5, h6, hLo, hSt, hNa⟩ := hO
  have h0 := hT.1
  have h1 := hT.2.1
  have hr := hT.2.2
  have h2 := hLt.1
  have h3 := hLt.2.1
  have hb0 := h0.2
  have hb1 := h1.2
  have hb2 := h2.2
  have hb3 := h3.2
  have hb4 := h4.2
  have ht6 : σ.1 6 = nI (nv σ.1 6) := h6.1
  have hh6 : nv σ.1 6 ≤ T := h6.2
  have hTT : TT (mI M) (a + 28) σ.1 := hC.2.2.2.1
  have hRS : RS (mI M) (a + 34) σ.1 := hC.2.2.2.2.1
  have hHR : HR (mI M) (a + 52) σ.2.1 σ.2.2.1 := hC.2.2.2.2.2.1
  have hpc : mI M (a + 28) 0 = nI (nv σ.1 0) := hTT.1.trans h0.1
  have hcc : mI M (a + 28) 2 = nI (nv σ.1 1) := hTT.2.2.1.trans h1.1
  have hlc : mI M (a + 34 + 2) 0 = nI (nv σ.1 2) := hRS.2.2.1.1.trans h2.1
  have hkc : mI M (a + 34 + 15) 0 = nI (nv σ.1 3) := hRS.2.2.2.2.1.trans h3.1
  have hrc : mI M (a + 34 + 13) 0 = nI (nv σ.1 4) := hRS.2.2.2.1.1.trans h4.1
  have htm : mI M (a + 34) 0 = nI (nv σ.1 6) := hRS.1.1.trans ht6
  refine Ct.of IX10_meetings.1 (by simp [Value.category]) (Nat.le_of_ble_eq_true rfl) (fun X hX hN => ?_)
  show J G base X 0 0 M 0 [some (.ref a), none, none, none] []
  refine r_iconst (v := nI 0) hX dX10_meetings_0 (by decide) ?_
  refine r_istore1 hX dX10_meetings_1 rfl ?_
  refine r_iconst (v := nI 0) hX dX10_meetings_2 (by decide) ?_
  refine r_istore2 hX dX10_meetings_3 rfl ?_
  show J G base X 0 0 M 4 [some (.ref a), some (.int (nI (sumF (fun h => cntB (metB σ.1 h) (nv σ.1 0)) 0))), some (.int (nI 0)), none] []
  refine loop_up (P := fun h => J G base X 0 0 M 4 [some (.ref a), some (.int (nI (sumF (fun h => cntB (metB σ.1 h) (nv σ.1 0)) h))), some (.int (nI h)), none] []) 168 (fun h hh ih => ?_) 0 (Nat.zero_le _)
  refine r_iload_n hX dX10_meetings_4 rfl ?_
  refine r_sipush (v := nI 168) hX dX10_meetings_5 (by decide) ?_
  refine rn_icmp_ge (tgt := 66) hX dX10_meetings_8 (by decide) rfl rfl (by omega) (by omega) (fun c8 => ?_) (fun c8 => ?_)
  · refine r_iload_n hX dX10_meetings_66 rfl ?_
    refine r_ireturn hX rfl rfl dX10_meetings_67 (by decide) (by decide) ?_
    obtain rfl : h = 168 := by omega
    exact rC.y0 rfl hC
  · refine r_iconst (v := nI 0) hX dX10_meetings_11 (by decide) ?_
    refine r_istore3 hX dX10_meetings_12 rfl ?_
    generalize hS0 : sumF (fun h => cntB (metB σ.1 h) (nv σ.1 0)) h = S
    show J G base X 0 0 M 13 [some (.ref a), some (.int (nI (S + cntB (metB σ.1 h) 0))), some (.int (nI h)), some (.int (nI 0))] []
    refine loop_up (P := fun q => J G base X 0 0 M 13 [some (.ref a), some (.int (nI (S + cntB (metB σ.1 h) q))), some (.int (nI h)), some (.int (nI q))] []) (nv σ.1 0) (fun q hq ih2 => ?_) 0 (Nat.zero_le _)
    have hcb := cntB_le (f := gstN σ.1 h q) 5
    refine r_iload_n hX dX10_meetings_13 rfl ?_
    refine r_aload_n hX dX10_meetings_14 rfl ?_
    refine r_getr hX dX10_meetings_15 fl_X10_33 rfl (LX10_s hL) (LX10_r5 hL) ?_
    refine rn_geti (v := nI (nv σ.1 0)) hX dX10_meetings_18 fl_X10_104 rfl (LX9_s (LX10_o5 hL)) hpc ?_
    refine rn_icmp_ge (tgt := 60) hX dX10_meetings_21 (by decide) rfl rfl (by omega) (by omega) (fun c21 => ?_) (fun c21 => ?_)
    · refine rn_iinc2 hX dX10_meetings_60 rfl rfl ?_
      refine r_goto (tgt := 4) hX dX10_meetings_63 (by decide) ?_
      obtain rfl : q = nv σ.1 0 := by omega
      have z := ih (by omega)
      rw [show sumF (fun h => cntB (metB σ.1 h) (nv σ.1 0)) (h + 1) = S + cntB (metB σ.1 h) (nv σ.1 0) from by rw [← hS0]; rfl] at z
      exact J.junk z (by repeat first | exact trivial | refine ⟨rfl, ?_⟩)
    · refine r_aload_n hX dX10_meetings_24 rfl ?_
      refine r_getr hX dX10_meetings_25 fl_X10_33 rfl (LX10_s hL) (LX10_r5 hL) ?_
      refine r_iload_n hX dX10_meetings_28 rfl ?_
      refine r_cV1 hX dX10_meetings_29 IX9_hasOffice ml_X10_173 rfl (LX9_s (LX10_o5 hL)) rfl (t_X9_hasOffice (LX10_o5 hL) hTT h0) (by decide) (by decide) (by decide) (by decide) rfl (Nat.le_of_ble_eq_true rfl) ?_
      rw [itec (townP_t h0 (by omega))]
      refine rb_if_ne (tgt := 54) hX dX10_meetings_32 (by decide) rfl (fun c32 => ?_) (fun c32 => ?_)
      · refine rn_iinc3 hX dX10_meetings_54 rfl rfl ?_
        refine r_goto (tgt := 13) hX dX10_meetings_57 (by decide) ?_
        have z := ih2 (by omega)
        rw [cnt_no (show ¬ metB σ.1 h q = true from fun y => by unfold metB at y; rw [c32] at y; simp at y)] at z
        exact z
      · refine r_aload_n hX dX10_meetings_35 rfl ?_
        refine r_getr hX dX10_meetings_36 fl_X10_33 rfl (LX10_s hL) (LX10_r5 hL) ?_
        refine r_iload_n hX dX10_meetings_39 rfl ?_
        refine r_iload_n hX dX10_meetings_40 rfl ?_
        refine r_cV2 hX dX10_meetings_41 IX9_carriersStopping ml_X10_194 rfl (LX9_s (LX10_o5 hL)) rfl (t_X9_carriersStopping (LX10_o5 hL) (by omega) (by omega)) (by decide) (by decide) (by decide) (by decide) rfl (Nat.le_of_ble_eq_true rfl) ?_
        rw [hTT.gs h (by omega)]
        refine r_cS1 hX dX10_meetings_44 IJ6_bitCount_0f7a4 ml_X10_132 rfl (t_bitCount (M := M)) (by decide) (by decide) (by decide) (by decide) rfl (Nat.le_of_ble_eq_true rfl) ?_
        rw [bcI_5]
        refine r_iconst (v := nI 2) hX dX10_meetings_47 (by decide) ?_
        refine rn_icmp_lt (tgt := 54) hX dX10_meetings_48 (by decide) rfl rfl (by omega) (by omega) (fun c48 => ?_) (fun c48 => ?_)
        · refine rn_iinc3 hX dX10_meetings_54 rfl rfl ?_
          refine r_goto (tgt := 13) hX dX10_meetings_57 (by decide) ?_
          have z := ih2 (by omega)
          rw [cnt_no (show ¬ metB σ.1 h q = true from fun y => by unfold metB at y; rw [← cnt_gst hb1, decide_eq_false (by omega), Bool.and_false] at y; cases y)] at z
          exact z
        · refine rn_iinc1 hX dX10_meetings_51 rfl rfl ?_
          refine rn_iinc3 hX dX10_meetings_54 rfl rfl ?_
          refine r_goto (tgt := 13) hX dX10_meetings_57 (by decide) ?_
          have z := ih2 (by omega)
          rw [cnt_yes (show metB σ.1 h q = true from by unfold metB; rw [← cnt_gst hb1, decide_eq_true (by omega), show town σ.1 q = false from by simpa using c32]; rfl), ← Nat.add_assoc] at z
          exact z

set_option maxHeartbeats 2000000 in
set_option maxRecDepth 20000 in
theorem t_c_suspects {M : Mm} {a : Nat} {σ : Sg} {T : Nat} (hL : LX10 M.1 M.2.1 a) (hC : CI (mI M) a σ) (hO : OkN T σ.1) (hT9 : T < 890000) {x : Int32} : Ct G base YX10_suspects 20 1 6 [.ref a, .int x] M (rC M a 1 4 (rs_suspects σ x) σ) := by
  obtain ⟨hT, hS, hLt, h4, h5, h6, hLo, hSt, hNa⟩ := hO
  have h0 := hT.1
  have h1 := hT.2.1
  have hr := hT.2.2
  have h2 := hLt.1
  have h3 := hLt.2.1
  have hb0 := h0.2
  have hb1 := h1.2
  have hb2 := h2.2
  have hb3 := h3.2
  have hb4 := h4.2
  have ht6 : σ.1 6 = nI (nv σ.1 6) := h6.1
  have hh6 : nv σ.1 6 ≤ T := h6.2
  have hTT : TT (mI M) (a + 28) σ.1 := hC.2.2.2.1
  have hRS : RS (mI M) (a + 34) σ.1 := hC.2.2.2.2.1
  have hHR : HR (mI M) (a + 52) σ.2.1 σ.2.2.1 := hC.2.2.2.2.2.1
  have hpc : mI M (a + 28) 0 = nI (nv σ.1 0) := hTT.1.trans h0.1
  have hcc : mI M (a + 28) 2 = nI (nv σ.1 1) := hTT.2.2.1.trans h1.1
  have hlc : mI M (a + 34 + 2) 0 = nI (nv σ.1 2) := hRS.2.2.1.1.trans h2.1
  have hkc : mI M (a + 34 + 15) 0 = nI (nv σ.1 3) := hRS.2.2.2.2.1.trans h3.1
  have hrc : mI M (a + 34 + 13) 0 = nI (nv σ.1 4) := hRS.2.2.2.1.1.trans h4.1
  have htm : mI M (a + 34) 0 = nI (nv σ.1 6) := hRS.1.1.trans ht6
  by_cases hx : ∃ c, c < nv σ.1 2 ∧ x = nI c
  · obtain ⟨l, hl, rfl⟩ := hx
    refine Ct.of IX10_suspects.1 (by simp [Value.category]) (Nat.le_of_ble_eq_true rfl) (fun X hX hN => ?_)
    show J G base X 0 0 M 0 [some (.ref a), some (.int (nI l)), none] []
    refine r_aload_n hX dX10_suspects_0 rfl ?_
    refine r_getr hX dX10_suspects_1 fl_X10_40 rfl (LX10_s hL) (LX10_r6 hL) ?_
    refine r_getr hX dX10_suspects_4 fl_X10_107 rfl (LX8_s (LX10_o6 hL)) (LX8_r5 (LX10_o6 hL)) ?_
    refine r_astore2 hX dX10_suspects_7 rfl ?_
    refine r_iload_n hX dX10_suspects_8 rfl ?_
    refine r_aload_n hX dX10_suspects_9 rfl ?_
    refine rn_geti (v := nI (nv σ.1 2)) hX dX10_suspects_10 fl_X10_111 rfl (LX2_s (LX8_o5 (LX10_o6 hL))) hlc ?_
    refine r_cS2 hX dX10_suspects_13 IX10_needIndex ml_X10_169 rfl (t_ni1 hl (by omega)) (by decide) (by decide) (by decide) (by decide) rfl (Nat.le_of_ble_eq_true rfl) ?_
    refine r_aload_n hX dX10_suspects_16 rfl ?_
    refine r_getr hX dX10_suspects_17 fl_X10_219 rfl (LX2_s (LX8_o5 (LX10_o6 hL))) (LX2_r4 (LX8_o5 (LX10_o6 hL))) ?_
    refine r_iload_n hX dX10_suspects_20 rfl ?_
    refine rn_iald hX dX10_suspects_21 (LX2_a4 (LX8_o5 (LX10_o6 hL))) rfl (by omega) (by omega) ?_
    rw [show mI M (a + 34 + 2 + 4) l = σ.1 (498 + 10 * l + 3) from hRS.2.2.1.2.2 l hl 3 (by omega)]
    refine r_iconst (v := 3) hX dX10_suspects_22 (by decide) ?_
    refine r_icmp_eq (tgt := 28) hX dX10_suspects_23 (by decide) (fun c23 => ?_) (fun c23 => ?_)
    · refine r_aload_n hX dX10_suspects_28 rfl ?_
      refine r_getr hX dX10_suspects_29 fl_X10_221 rfl (LX2_s (LX8_o5 (LX10_o6 hL))) (LX2_r3 (LX8_o5 (LX10_o6 hL))) ?_
      refine r_iload_n hX dX10_suspects_32 rfl ?_
      refine rn_iald hX dX10_suspects_33 (LX2_a3 (LX8_o5 (LX10_o6 hL))) rfl (by omega) (by omega) ?_
      rw [show mI M (a + 34 + 2 + 3) l = σ.1 (498 + 10 * l + 2) from hRS.2.2.1.2.2 l hl 2 (by omega)]
      refine r_if_ne (tgt := 44) hX dX10_suspects_34 (by decide) (fun c34 => ?_) (fun c34 => ?_)
      · obtain ⟨f, t, v', s', w', g1, g2, g3, g4, g5, g6, g7, g8, g9, g10, g11, g12, g13, g14, g15⟩ := hLt.2.2 l hl
        have hs3 : s' = 3 := by
          rw [g4] at c23
          exact (nI_eq (by omega) (by omega)).mp c23
        have hw3 := g14 hs3
        obtain ⟨⟨cc, hcc5, ecc⟩, -⟩ := hLo w' hw3
        have ew : nv σ.1 (498 + 10 * l + 4) = w' := nv_of g5 (by omega)
        
        refine r_aload_n hX dX10_suspects_44 rfl ?_
        refine r_getr hX dX10_suspects_45 fl_X10_40 rfl (LX10_s hL) (LX10_r6 hL) ?_
        refine r_getr hX dX10_suspects_48 fl_X10_141 rfl (LX8_s (LX10_o6 hL)) (LX8_r7 (LX10_o6 hL)) ?_
        refine r_aload_n hX dX10_suspects_51 rfl ?_
        refine r_getr hX dX10_suspects_52 fl_X10_224 rfl (LX2_s (LX8_o5 (LX10_o6 hL))) (LX2_r5 (LX8_o5 (LX10_o6 hL))) ?_
        refine r_iload_n hX dX10_suspects_55 rfl ?_
        refine rn_iald hX dX10_suspects_56 (LX2_a5 (LX8_o5 (LX10_o6 hL))) rfl (by omega) (by omega) ?_
        rw [show mI M (a + 34 + 2 + 5) l = σ.1 (498 + 10 * l + 4) from hRS.2.2.1.2.2 l hl 4 (by omega)]
        rw [g5]
        refine r_cV1 hX dX10_suspects_57 IX4_carrierOfLost ml_X10_227 rfl (LX4_s (LX8_o7 (LX10_o6 hL))) rfl (t_X4_carrierOfLost (LX8_o7 (LX10_o6 hL)) hkc hb3 hw3) (by decide) (by decide) (by decide) (by decide) rfl (Nat.le_of_ble_eq_true rfl) ?_
        rw [show mI M (a + 34 + 15 + 1) w' = nI cc from (hRS.2.2.2.2.2.2 w' hw3).1.trans ecc]
        refine r_cS1 hX dX10_suspects_60 IX10_bit ml_X10_230 rfl (t_X10_bit) (by decide) (by decide) (by decide) (by decide) rfl (Nat.le_of_ble_eq_true rfl) ?_
        rw [bitI_nI (by omega)]
        refine r_ireturn hX rfl rfl dX10_suspects_63 (by decide) (by decide) ?_
        exact rC.y0 (by unfold rs_suspects; rw [ix_of hl (by omega)]; dsimp only; rw [if_pos c23, if_neg c34, ew, ecc]; rfl) hC
      · refine r_aload_n hX dX10_suspects_37 rfl ?_
        refine r_getr hX dX10_suspects_38 fl_X10_216 rfl (LX2_s (LX8_o5 (LX10_o6 hL))) (LX2_r10 (LX8_o5 (LX10_o6 hL))) ?_
        refine r_iload_n hX dX10_suspects_41 rfl ?_
        refine rn_iald hX dX10_suspects_42 (LX2_a10 (LX8_o5 (LX10_o6 hL))) rfl (by omega) (by omega) ?_
        rw [show mI M (a + 34 + 2 + 10) l = σ.1 (498 + 10 * l + 9) from hRS.2.2.1.2.2 l hl 9 (by omega)]
        refine r_ireturn hX rfl rfl dX10_suspects_43 (by decide) (by decide) ?_
        exact rC.y0 (by unfold rs_suspects; rw [ix_of hl (by omega)]; dsimp only; rw [if_pos c23, if_pos c34]) hC
    · refine r_iconst (v := 0) hX dX10_suspects_26 (by decide) ?_
      refine r_ireturn hX rfl rfl dX10_suspects_27 (by decide) (by decide) ?_
      exact rC.y0 (by unfold rs_suspects; rw [ix_of hl (by omega)]; dsimp only; rw [if_neg c23]) hC
  · refine Ct.of IX10_suspects.1 (by simp [Value.category]) (Nat.le_of_ble_eq_true rfl) (fun X hX hN => ?_)
    show J G base X 0 0 M 0 [some (.ref a), some (.int x), none] []
    refine r_aload_n hX dX10_suspects_0 rfl ?_
    refine r_getr hX dX10_suspects_1 fl_X10_40 rfl (LX10_s hL) (LX10_r6 hL) ?_
    refine r_getr hX dX10_suspects_4 fl_X10_107 rfl (LX8_s (LX10_o6 hL)) (LX8_r5 (LX10_o6 hL)) ?_
    refine r_astore2 hX dX10_suspects_7 rfl ?_
    refine r_iload_n hX dX10_suspects_8 rfl ?_
    refine r_aload_n hX dX10_suspects_9 rfl ?_
    refine rn_geti (v := nI (nv σ.1 2)) hX dX10_suspects_10 fl_X10_111 rfl (LX2_s (LX8_o5 (LX10_o6 hL))) hlc ?_
    refine r_tS2 hX dX10_suspects_13 IX10_needIndex ml_X10_169 rfl (t_ni0 hx (by omega)) (by decide) (by decide) (by decide) (by decide) rfl (Nat.le_of_ble_eq_true rfl) ?_
    exact rC.n0 (k := 1) (by unfold rs_suspects; rw [ix_no hx]) rfl hC

set_option maxHeartbeats 2000000 in
set_option maxRecDepth 20000 in
theorem t_c_isLate {M : Mm} {a : Nat} {σ : Sg} {T : Nat} (hL : LX10 M.1 M.2.1 a) (hC : CI (mI M) a σ) (hO : OkN T σ.1) (hT9 : T < 890000) {x : Int32} : Ct G base YX10_isLate 20 1 6 [.ref a, .int x] M (rC M a 1 4 (rs_isLate σ x) σ) := by
  obtain ⟨hT, hS, hLt, h4, h5, h6, hLo, hSt, hNa⟩ := hO
  have h0 := hT.1
  have h1 := hT.2.1
  have hr := hT.2.2
  have h2 := hLt.1
  have h3 := hLt.2.1
  have hb0 := h0.2
  have hb1 := h1.2
  have hb2 := h2.2
  have hb3 := h3.2
  have hb4 := h4.2
  have ht6 : σ.1 6 = nI (nv σ.1 6) := h6.1
  have hh6 : nv σ.1 6 ≤ T := h6.2
  have hTT : TT (mI M) (a + 28) σ.1 := hC.2.2.2.1
  have hRS : RS (mI M) (a + 34) σ.1 := hC.2.2.2.2.1
  have hHR : HR (mI M) (a + 52) σ.2.1 σ.2.2.1 := hC.2.2.2.2.2.1
  have hpc : mI M (a + 28) 0 = nI (nv σ.1 0) := hTT.1.trans h0.1
  have hcc : mI M (a + 28) 2 = nI (nv σ.1 1) := hTT.2.2.1.trans h1.1
  have hlc : mI M (a + 34 + 2) 0 = nI (nv σ.1 2) := hRS.2.2.1.1.trans h2.1
  have hkc : mI M (a + 34 + 15) 0 = nI (nv σ.1 3) := hRS.2.2.2.2.1.trans h3.1
  have hrc : mI M (a + 34 + 13) 0 = nI (nv σ.1 4) := hRS.2.2.2.1.1.trans h4.1
  have htm : mI M (a + 34) 0 = nI (nv σ.1 6) := hRS.1.1.trans ht6
  by_cases hx : ∃ c, c < nv σ.1 2 ∧ x = nI c
  · obtain ⟨l, hl, rfl⟩ := hx
    refine Ct.of IX10_isLate.1 (by simp [Value.category]) (Nat.le_of_ble_eq_true rfl) (fun X hX hN => ?_)
    show J G base X 0 0 M 0 [some (.ref a), some (.int (nI l))] []
    refine r_iload_n hX dX10_isLate_0 rfl ?_
    refine r_aload_n hX dX10_isLate_1 rfl ?_
    refine r_getr hX dX10_isLate_2 fl_X10_40 rfl (LX10_s hL) (LX10_r6 hL) ?_
    refine r_getr hX dX10_isLate_5 fl_X10_107 rfl (LX8_s (LX10_o6 hL)) (LX8_r5 (LX10_o6 hL)) ?_
    refine rn_geti (v := nI (nv σ.1 2)) hX dX10_isLate_8 fl_X10_111 rfl (LX2_s (LX8_o5 (LX10_o6 hL))) hlc ?_
    refine r_cS2 hX dX10_isLate_11 IX10_needIndex ml_X10_169 rfl (t_ni1 hl (by omega)) (by decide) (by decide) (by decide) (by decide) rfl (Nat.le_of_ble_eq_true rfl) ?_
    refine r_aload_n hX dX10_isLate_14 rfl ?_
    refine r_getr hX dX10_isLate_15 fl_X10_40 rfl (LX10_s hL) (LX10_r6 hL) ?_
    refine r_getr hX dX10_isLate_18 fl_X10_107 rfl (LX8_s (LX10_o6 hL)) (LX8_r5 (LX10_o6 hL)) ?_
    refine r_iload_n hX dX10_isLate_21 rfl ?_
    refine r_aload_n hX dX10_isLate_22 rfl ?_
    refine r_getr hX dX10_isLate_23 fl_X10_40 rfl (LX10_s hL) (LX10_r6 hL) ?_
    refine rn_geti (v := σ.1 6) hX dX10_isLate_26 fl_X10_160 rfl (LX8_s (LX10_o6 hL)) hRS.1.1 ?_
    refine r_cV2 hX dX10_isLate_29 IX2_lateAt ml_X10_233 rfl (LX2_s (LX8_o5 (LX10_o6 hL))) rfl (t_X2_lateAt (LX8_o5 (LX10_o6 hL)) hlc hb2 hl) (by decide) (by decide) (by decide) (by decide) rfl (Nat.le_of_ble_eq_true rfl) ?_
    rw [hRS.2.2.1.2.2 l hl 3 (by omega), hRS.2.2.1.2.2 l hl 7 (by omega), hRS.2.2.1.2.2 l hl 6 (by omega)]
    refine r_ireturn hX rfl nar_b dX10_isLate_32 (by decide) (by decide) ?_
    exact rC.y0 (by unfold rs_isLate; rw [ix_of hl (by omega)]; dsimp only; rw [itec (show lateB σ.1 l = true ↔ _ from decide_eq_true_iff)]) hC
  · refine Ct.of IX10_isLate.1 (by simp [Value.category]) (Nat.le_of_ble_eq_true rfl) (fun X hX hN => ?_)
    show J G base X 0 0 M 0 [some (.ref a), some (.int x)] []
    refine r_iload_n hX dX10_isLate_0 rfl ?_
    refine r_aload_n hX dX10_isLate_1 rfl ?_
    refine r_getr hX dX10_isLate_2 fl_X10_40 rfl (LX10_s hL) (LX10_r6 hL) ?_
    refine r_getr hX dX10_isLate_5 fl_X10_107 rfl (LX8_s (LX10_o6 hL)) (LX8_r5 (LX10_o6 hL)) ?_
    refine rn_geti (v := nI (nv σ.1 2)) hX dX10_isLate_8 fl_X10_111 rfl (LX2_s (LX8_o5 (LX10_o6 hL))) hlc ?_
    refine r_tS2 hX dX10_isLate_11 IX10_needIndex ml_X10_169 rfl (t_ni0 hx (by omega)) (by decide) (by decide) (by decide) (by decide) rfl (Nat.le_of_ble_eq_true rfl) ?_
    exact rC.n0 (k := 1) (by unfold rs_isLate; rw [ix_no hx]) rfl hC

