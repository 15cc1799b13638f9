variable {G : GG} {base : Nat}
/-- only what is reckoned with has changed -/
def spO (M : Mm) (a : Nat) (i : Nat → Nat → Int32) : Prop := ∀ y, (y < a + 198 ∨ a + 200 ≤ y) → ∀ k, i y k = mI M y k
theorem spO.ci {M : Mm} {a : Nat} {σ : Sg} {i : Nat → Nat → Int32} (h : spO M a i) (hC : CI (mI M) a σ) : CI i a σ := hC.kept (fun x _ _ h3 k => h x (by omega) k)
theorem spO.out {M : Mm} {a : Nat} {i : Nat → Nat → Int32} (h : spO M a i) : outB i (mI M) a 208 := fun x hx k => h x (by omega) k
theorem spO.tt {M : Mm} {a : Nat} {n : Nat → Int32} {i : Nat → Nat → Int32} (h : spO M a i) (hT : TT (mI M) (a + 28) n) : TT i (a + 28) n := hT.kept (fun x _ _ k => h x (by omega) k)
theorem spO.rs {M : Mm} {a : Nat} {n : Nat → Int32} {i : Nat → Nat → Int32} (h : spO M a i) (hT : RS (mI M) (a + 34) n) : RS i (a + 34) n := hT.kept (fun x _ _ k => h x (by omega) k)
theorem spO.tr {M : Mm} {a : Nat} {i j : Nat → Nat → Int32} (h : spO M a i) (h2 : spO (wI M i) a j) : spO M a j := fun y hy k => (h2 y hy k).trans (h y hy k)
theorem pair_is {n : Nat → Int32} (h0 : Rn n 0 10) {x y : Int32} (hx : townP n x) (hy : townP n y) (hne : ¬ x = y) : ∃ p q, x = nI p ∧ y = nI q ∧ town n p = true ∧ town n q = true ∧ p ≠ q := by
  obtain ⟨p, hp, rfl, tp⟩ := townP_of h0 hx
  obtain ⟨q, hq, rfl, tq⟩ := townP_of h0 hy
  exact ⟨p, q, rfl, rfl, town_i.mpr ⟨hp, tp⟩, town_i.mpr ⟨hq, tq⟩, fun e => hne (by rw [e])⟩
set_option maxHeartbeats 2000000 in
set_option maxRecDepth 20000 in
theorem t_nv1 {M : Mm} {a : Nat} {n : Nat → Int32} (hL : LX10 M.1 M.2.1 a) (hTT : TT (mI M) (a + 28) n) (h0 : Rn n 0 10) {x : Int32} (hx : townP n x) : Ct G base YX10_needVillage 7 0 0 [.ref a, .int x] M (rE none M) := by
  refine Ct.of IX10_needVillage.1 (by simp [Value.category]) (Nat.le_of_ble_eq_true rfl) (fun X hX hN => ?_)
  show J G base X 0 0 M 0 [some (.ref a), some (.int x)] []
  refine r_aload_n hX dX10_needVillage_0 rfl ?_
  refine r_getr hX dX10_needVillage_1 fl_X10_33 rfl (LX10_s hL) (LX10_r5 hL) ?_
  refine r_iload_n hX dX10_needVillage_4 rfl ?_
  refine r_cV1 hX dX10_needVillage_5 IX9_hasOffice ml_X10_173 rfl (LX9_s (LX10_o5 hL)) rfl (t_X9_hasOffice (LX10_o5 hL) hTT h0) (by decide) (by decide) (by decide) (by decide) rfl (Nat.le_of_ble_eq_true rfl) ?_
  refine rb_if_ne (tgt := 19) hX dX10_needVillage_8 (by decide) rfl (fun c8 => ?_) (fun c8 => absurd hx c8)
  refine r_return hX rfl dX10_needVillage_19 (by decide) (by decide) ?_
  exact ⟨rfl, rfl⟩
set_option maxHeartbeats 2000000 in
set_option maxRecDepth 20000 in
theorem t_nv0 {M : Mm} {a : Nat} {n : Nat → Int32} (hL : LX10 M.1 M.2.1 a) (hTT : TT (mI M) (a + 28) n) (h0 : Rn n 0 10) {x : Int32} (hx : ¬ townP n x) : Ct G base YX10_needVillage 7 1 6 [.ref a, .int x] M (rT (eX 3) M) := by
  refine Ct.of IX10_needVillage.1 (by simp [Value.category]) (Nat.le_of_ble_eq_true rfl) (fun X hX hN => ?_)
  show J G base X 0 0 M 0 [some (.ref a), some (.int x)] []
  refine r_aload_n hX dX10_needVillage_0 rfl ?_
  refine r_getr hX dX10_needVillage_1 fl_X10_33 rfl (LX10_s hL) (LX10_r5 hL) ?_
  refine r_iload_n hX dX10_needVillage_4 rfl ?_
  refine r_cV1 hX dX10_needVillage_5 IX9_hasOffice ml_X10_173 rfl (LX9_s (LX10_o5 hL)) rfl (t_X9_hasOffice (LX10_o5 hL) hTT h0) (by decide) (by decide) (by decide) (by decide) rfl (Nat.le_of_ble_eq_true rfl) ?_
  refine rb_if_ne (tgt := 19) hX dX10_needVillage_8 (by decide) rfl (fun c8 => absurd c8 hx) (fun c8 => ?_)
  refine r_throw hX thI0 dX10_needVillage_11 dX10_needVillage_14 dX10_needVillage_15 dX10_needVillage_18 (by decide) (by decide) (by decide) rfl ?_ (Nat.le_of_ble_eq_true rfl)
  exact ⟨rfl, rfl⟩
set_option maxHeartbeats 2000000 in
set_option maxRecDepth 20000 in
theorem t_nj1 {M : Mm} {a : Nat} {n : Nat → Int32} (hL : LX10 M.1 M.2.1 a) (hTT : TT (mI M) (a + 28) n) (h0 : Rn n 0 10) {p q : Nat} (hp : town n p = true) (hq : town n q = true) (hne : p ≠ q) : Ct G base YX10_needJourney 8 0 0 [.ref a, .int (nI p), .int (nI q)] M (rE none M) := by
  refine Ct.of IX10_needJourney.1 (by simp [Value.category]) (Nat.le_of_ble_eq_true rfl) (fun X hX hN => ?_)
  show J G base X 0 0 M 0 [some (.ref a), some (.int (nI p)), some (.int (nI q))] []
  have hb0 := h0.2
  have hp1 := town_lt hp
  have hq1 := town_lt hq
  refine r_aload_n hX dX10_needJourney_0 rfl ?_
  refine r_iload_n hX dX10_needJourney_1 rfl ?_
  refine r_cV1 hX dX10_needJourney_2 IX10_needVillage ml_X10_245 rfl (LX10_s hL) rfl (t_nv1 hL hTT h0 ((townP_t h0 (by omega)).mpr hp)) (by decide) (by decide) (by decide) (by decide) rfl (Nat.le_of_ble_eq_true rfl) ?_
  refine r_aload_n hX dX10_needJourney_5 rfl ?_
  refine r_iload_n hX dX10_needJourney_6 rfl ?_
  refine r_cV1 hX dX10_needJourney_7 IX10_needVillage ml_X10_245 rfl (LX10_s hL) rfl (t_nv1 hL hTT h0 ((townP_t h0 (by omega)).mpr hq)) (by decide) (by decide) (by decide) (by decide) rfl (Nat.le_of_ble_eq_true rfl) ?_
  refine r_iload_n hX dX10_needJourney_10 rfl ?_
  refine r_iload_n hX dX10_needJourney_11 rfl ?_
  refine rn_icmp_ne (tgt := 23) hX dX10_needJourney_12 (by decide) rfl rfl (by omega) (by omega) (fun c12 => ?_) (fun c12 => absurd c12 hne)
  refine r_return hX rfl dX10_needJourney_23 (by decide) (by decide) ?_
  exact ⟨rfl, rfl⟩
set_option maxHeartbeats 2000000 in
set_option maxRecDepth 20000 in
theorem t_nj0 {M : Mm} {a : Nat} {n : Nat → Int32} (hL : LX10 M.1 M.2.1 a) (hTT : TT (mI M) (a + 28) n) (h0 : Rn n 0 10) {x y : Int32} (hx : ¬ ∃ p q, x = nI p ∧ y = nI q ∧ town n p = true ∧ town n q = true ∧ p ≠ q) : Ct G base YX10_needJourney 8 1 6 [.ref a, .int x, .int y] M (rT (eX 3) M) := by
  by_cases h1 : townP n x
  · by_cases h2 : townP n y
    · refine Ct.of IX10_needJourney.1 (by simp [Value.category]) (Nat.le_of_ble_eq_true rfl) (fun X hX hN => ?_)
      show J G base X 0 0 M 0 [some (.ref a), some (.int x), some (.int y)] []
      refine r_aload_n hX dX10_needJourney_0 rfl ?_
      refine r_iload_n hX dX10_needJourney_1 rfl ?_
      refine r_cV1 hX dX10_needJourney_2 IX10_needVillage ml_X10_245 rfl (LX10_s hL) rfl (t_nv1 hL hTT h0 h1) (by decide) (by decide) (by decide) (by decide) rfl (Nat.le_of_ble_eq_true rfl) ?_
      refine r_aload_n hX dX10_needJourney_5 rfl ?_
      refine r_iload_n hX dX10_needJourney_6 rfl ?_
      refine r_cV1 hX dX10_needJourney_7 IX10_needVillage ml_X10_245 rfl (LX10_s hL) rfl (t_nv1 hL hTT h0 h2) (by decide) (by decide) (by decide) (by decide) rfl (Nat.le_of_ble_eq_true rfl) ?_
      refine r_iload_n hX dX10_needJourney_10 rfl ?_
      refine r_iload_n hX dX10_needJourney_11 rfl ?_
      refine r_icmp_ne (tgt := 23) hX dX10_needJourney_12 (by decide) (fun c12 => absurd (pair_is h0 h1 h2 c12) hx) (fun c12 => ?_)
      refine r_throw hX thI0 dX10_needJourney_15 dX10_needJourney_18 dX10_needJourney_19 dX10_needJourney_22 (by decide) (by decide) (by decide) rfl ?_ (Nat.le_of_ble_eq_true rfl)
      exact ⟨rfl, rfl⟩
    · refine Ct.of IX10_needJourney.1 (by simp [Value.category]) (Nat.le_of_ble_eq_true rfl) (fun X hX hN => ?_)
      show J G base X 0 0 M 0 [some (.ref a), some (.int x), some (.int y)] []
      refine r_aload_n hX dX10_needJourney_0 rfl ?_
      refine r_iload_n hX dX10_needJourney_1 rfl ?_
      refine r_cV1 hX dX10_needJourney_2 IX10_needVillage ml_X10_245 rfl (LX10_s hL) rfl (t_nv1 hL hTT h0 h1) (by decide) (by decide) (by decide) (by decide) rfl (Nat.le_of_ble_eq_true rfl) ?_
      refine r_aload_n hX dX10_needJourney_5 rfl ?_
      refine r_iload_n hX dX10_needJourney_6 rfl ?_
      refine r_tV1 hX dX10_needJourney_7 IX10_needVillage ml_X10_245 rfl (LX10_s hL) rfl (t_nv0 hL hTT h0 h2) (by decide) (by decide) (by decide) (by decide) rfl (Nat.le_of_ble_eq_true rfl) ?_
      exact ⟨rfl, rfl⟩
  · refine Ct.of IX10_needJourney.1 (by simp [Value.category]) (Nat.le_of_ble_eq_true rfl) (fun X hX hN => ?_)
    show J G base X 0 0 M 0 [some (.ref a), some (.int x), some (.int y)] []
    refine r_aload_n hX dX10_needJourney_0 rfl ?_
    refine r_iload_n hX dX10_needJourney_1 rfl ?_
    refine r_tV1 hX dX10_needJourney_2 IX10_needVillage ml_X10_245 rfl (LX10_s hL) rfl (t_nv0 hL hTT h0 h1) (by decide) (by decide) (by decide) (by decide) rfl (Nat.le_of_ble_eq_true rfl) ?_
    exact ⟨rfl, rfl⟩
set_option maxHeartbeats 2000000 in
set_option maxRecDepth 20000 in
theorem t_X10_arrivalFromOffice {M : Mm} {a : Nat} {n : Nat → Int32} (hL : LX10 M.1 M.2.1 a) (hTT : TT (mI M) (a + 28) n) (hRS : RS (mI M) (a + 34) n) (hO : TbOk n) {h p q : Nat} (ht6 : n 6 = nI h) (hh : h < 1000000) (hp : p < 10) (hq : q < 10) (hne : ¬ p = q) : Ct G base YX10_arrivalFromOffice 7 0 0 [.ref a, .int (nI p), .int (nI q)] M (rI (some (.int (arN n h (fun _ => false) (fun x => decide (x = p)) 240 q))) M (spO M a)) := by
  refine Ct.of IX10_arrivalFromOffice.1 (by simp [Value.category]) (Nat.le_of_ble_eq_true rfl) (fun X hX hN => ?_)
  show J G base X 0 0 M 0 [some (.ref a), some (.int (nI p)), some (.int (nI q))] []
  refine r_aload_n hX dX10_arrivalFromOffice_0 rfl ?_
  refine r_getr hX dX10_arrivalFromOffice_1 fl_X10_54 rfl (LX10_s hL) (LX10_r8 hL) ?_
  refine r_iload_n hX dX10_arrivalFromOffice_4 rfl ?_
  refine r_cS1 hX dX10_arrivalFromOffice_5 IX10_bit ml_X10_230 rfl (t_X10_bit) (by decide) (by decide) (by decide) (by decide) rfl (Nat.le_of_ble_eq_true rfl) ?_
  refine r_iconst (v := 0) hX dX10_arrivalFromOffice_8 (by decide) ?_
  refine r_iV2 hX dX10_arrivalFromOffice_9 IX7_begin ml_X10_248 rfl (LX7_s (LX10_o8 hL)) rfl (t_X7_begin (M := M) (LX10_o8 hL)) (by decide) (by decide) (by decide) (by decide) rfl (Nat.le_of_ble_eq_true rfl) (fun i1 h1 => ?_)
  show J G base X _ _ (wI M i1) _ _ _
  have ho1 : spO M a i1 := fun y hy k => h1.2.2.2 y (by omega) k
  refine r_aload_n hX dX10_arrivalFromOffice_12 rfl ?_
  refine r_getr hX dX10_arrivalFromOffice_13 fl_X10_54 rfl (LX10_s hL) (LX10_r8 hL) ?_
  refine r_aload_n hX dX10_arrivalFromOffice_16 rfl ?_
  refine r_getr hX dX10_arrivalFromOffice_17 fl_X10_33 rfl (LX10_s hL) (LX10_r5 hL) ?_
  refine r_aload_n hX dX10_arrivalFromOffice_20 rfl ?_
  refine r_getr hX dX10_arrivalFromOffice_21 fl_X10_40 rfl (LX10_s hL) (LX10_r6 hL) ?_
  refine r_geti hX dX10_arrivalFromOffice_24 fl_X10_187 rfl (LX8_s (LX10_o6 hL)) ?_
  refine r_iconst (v := (-1)) hX dX10_arrivalFromOffice_27 (by decide) ?_
  refine r_ixor hX dX10_arrivalFromOffice_28 ?_
  refine r_aload_n hX dX10_arrivalFromOffice_29 rfl ?_
  refine r_getr hX dX10_arrivalFromOffice_30 fl_X10_40 rfl (LX10_s hL) (LX10_r6 hL) ?_
  refine rn_geti (v := nI h) hX dX10_arrivalFromOffice_33 fl_X10_160 rfl (LX8_s (LX10_o6 hL)) ((ho1.rs hRS).1.1.trans ht6) ?_
  refine r_sipush (v := nI 240) hX dX10_arrivalFromOffice_36 (by decide) ?_
  refine r_iload_n hX dX10_arrivalFromOffice_39 rfl ?_
  refine r_cS1 hX dX10_arrivalFromOffice_40 IX10_bit ml_X10_230 rfl (t_X10_bit (M := wI M i1)) (by decide) (by decide) (by decide) (by decide) rfl (Nat.le_of_ble_eq_true rfl) ?_
  rw [bit_set (m := 10) (by omega) hq]
  refine r_iV5 hX dX10_arrivalFromOffice_43 IX7_follow ml_X10_251 rfl (LX7_s (LX10_o8 hL)) rfl (t_X7_follow (M := wI M i1) (C := fun _ => false) (O := fun x => decide (x = p)) (W := fun x => decide (x = q)) (m := 240) (LX10_o8 hL) (LX10_o5 hL) (by omega) (ho1.tt hTT) hO (wk_of (ho1.rs hRS)) (by omega) ⟨h1.1.trans (bit_set (by omega) (by omega)), h1.2.1.trans setB_none.symm, h1.2.2.1⟩) (by decide) (by decide) (by decide) (by decide) rfl (Nat.le_of_ble_eq_true rfl) (fun i2 h2 => ?_)
  show J G base X _ _ (wI M i2) _ _ _
  have ho2 : spO M a i2 := fun y hy k => (h2.2 y (by omega) k).trans (ho1 y hy k)
  refine r_aload_n hX dX10_arrivalFromOffice_46 rfl ?_
  refine r_getr hX dX10_arrivalFromOffice_47 fl_X10_54 rfl (LX10_s hL) (LX10_r8 hL) ?_
  refine r_iload_n hX dX10_arrivalFromOffice_50 rfl ?_
  refine r_cV1 hX dX10_arrivalFromOffice_51 IX7_arrivalAt ml_X10_258 rfl (LX7_s (LX10_o8 hL)) rfl (t_X7_arrivalAt (M := wI M i2) (LX10_o8 hL) hq) (by decide) (by decide) (by decide) (by decide) rfl (Nat.le_of_ble_eq_true rfl) ?_
  refine r_ireturn hX rfl rfl dX10_arrivalFromOffice_54 (by decide) (by decide) ?_
  obtain ⟨k, hk1, hk2, hk3⟩ := h2.1
  refine ⟨?_, i2, rfl, ho2⟩
  rw [show mI (wI M i2) (a + 198 + 1) q = _ from fw_ar (O := fun x => decide (x = p)) (W := fun x => decide (x = q)) (by omega) hk1 hk2 hk3 hq (decide_eq_true rfl) (decide_eq_false (fun e => hne e.symm))]
set_option maxHeartbeats 2000000 in
set_option maxRecDepth 20000 in
theorem t_c_promise {M : Mm} {a : Nat} {σ : Sg} {T : Nat} (hL : LX10 M.1 M.2.1 a) (hC : CI (mI M) a σ) (hO : OkN T σ.1) (hT9 : T < 890000) {x y : Int32} : Ct G base YX10_promise 20 1 6 [.ref a, .int x, .int y] M (rC M a 3 4 (rs_promise σ x y) σ) := by
  obtain ⟨hT, hS, hLt, h4, h5, h6, hLo, hSt, hNa⟩ := hO
  have h0 := hT.1
  have h1 := hT.2.1
  have hr := hT.2.2
  have h2 := hLt.1
  have h3 := hLt.2.1
  have hb0 := h0.2
  have hb1 := h1.2
  have hb2 := h2.2
  have hb3 := h3.2
  have hb4 := h4.2
  have ht6 : σ.1 6 = nI (nv σ.1 6) := h6.1
  have hh6 : nv σ.1 6 ≤ T := h6.2
  have hTT : TT (mI M) (a + 28) σ.1 := hC.2.2.2.1
  have hRS : RS (mI M) (a + 34) σ.1 := hC.2.2.2.2.1
  have hHR : HR (mI M) (a + 52) σ.2.1 σ.2.2.1 := hC.2.2.2.2.2.1
  have hpc : mI M (a + 28) 0 = nI (nv σ.1 0) := hTT.1.trans h0.1
  have hcc : mI M (a + 28) 2 = nI (nv σ.1 1) := hTT.2.2.1.trans h1.1
  have hlc : mI M (a + 34 + 2) 0 = nI (nv σ.1 2) := hRS.2.2.1.1.trans h2.1
  have hkc : mI M (a + 34 + 15) 0 = nI (nv σ.1 3) := hRS.2.2.2.2.1.trans h3.1
  have hrc : mI M (a + 34 + 13) 0 = nI (nv σ.1 4) := hRS.2.2.2.1.1.trans h4.1
  have htm : mI M (a + 34) 0 = nI (nv σ.1 6) := hRS.1.1.trans ht6
  by_cases hx : ∃ p q, x = nI p ∧ y = nI q ∧ town σ.1 p = true ∧ town σ.1 q = true ∧ p ≠ q
  · obtain ⟨p, q, rfl, rfl, hp, hq, hne⟩ := hx
    have hpt := town_lt hp
    have hqt := town_lt hq
    refine Ct.of IX10_promise.1 (by simp [Value.category]) (Nat.le_of_ble_eq_true rfl) (fun X hX hN => ?_)
    show J G base X 0 0 M 0 [some (.ref a), some (.int (nI p)), some (.int (nI q)), none] []
    refine r_aload_n hX dX10_promise_0 rfl ?_
    refine r_iload_n hX dX10_promise_1 rfl ?_
    refine r_iload_n hX dX10_promise_2 rfl ?_
    refine r_cV2 hX dX10_promise_3 IX10_needJourney ml_X10_242 rfl (LX10_s hL) rfl (t_nj1 hL hTT h0 hp hq hne) (by decide) (by decide) (by decide) (by decide) rfl (Nat.le_of_ble_eq_true rfl) ?_
    refine r_aload_n hX dX10_promise_6 rfl ?_
    refine r_iload_n hX dX10_promise_7 rfl ?_
    refine r_iload_n hX dX10_promise_8 rfl ?_
    refine r_iV2 hX dX10_promise_9 IX10_arrivalFromOffice ml_X10_125 rfl (LX10_s hL) rfl (t_X10_arrivalFromOffice (M := M) hL hTT hRS hT ht6 (by omega) (by omega) (by omega) hne) (by decide) (by decide) (by decide) (by decide) rfl (Nat.le_of_ble_eq_true rfl) (fun i1 h1 => ?_)
    show J G base X _ _ (wI M i1) _ _ _
    rw [show arN σ.1 (nv σ.1 6) (fun _ => false) (fun x => decide (x = p)) 240 q = arP σ.1 p q from rfl]
    generalize hA : arP σ.1 p q = A
    refine r_istore3 hX dX10_promise_12 rfl ?_
    refine r_iload_n hX dX10_promise_13 rfl ?_
    refine r_iconst (v := (-1)) hX dX10_promise_14 (by decide) ?_
    refine r_icmp_ne (tgt := 22) hX dX10_promise_15 (by decide) (fun c15 => ?_) (fun c15 => ?_)
    · refine r_iload_n hX dX10_promise_22 rfl ?_
      refine r_aload_n hX dX10_promise_23 rfl ?_
      refine r_getr hX dX10_promise_24 fl_X10_40 rfl (LX10_s hL) (LX10_r6 hL) ?_
      refine rn_geti (v := σ.1 6) hX dX10_promise_27 fl_X10_160 rfl (LX8_s (LX10_o6 hL)) ((h1.rs hRS).1.1) ?_
      refine r_isub hX dX10_promise_30 ?_
      refine r_ireturn hX rfl rfl dX10_promise_31 (by decide) (by decide) ?_
      exact rC.y (by unfold rs_promise; rw [pair_ok hb0 hp hq hne]; dsimp only; rw [hA, if_neg c15]) (h1.ci hC) h1.out
    · refine r_iconst (v := (-1)) hX dX10_promise_18 (by decide) ?_
      refine r_goto (tgt := 31) hX dX10_promise_19 (by decide) ?_
      refine r_ireturn hX rfl rfl dX10_promise_31 (by decide) (by decide) ?_
      exact rC.y (by unfold rs_promise; rw [pair_ok hb0 hp hq hne]; dsimp only; rw [hA, if_pos c15]) (h1.ci hC) h1.out
  · refine Ct.of IX10_promise.1 (by simp [Value.category]) (Nat.le_of_ble_eq_true rfl) (fun X hX hN => ?_)
    show J G base X 0 0 M 0 [some (.ref a), some (.int x), some (.int y), none] []
    refine r_aload_n hX dX10_promise_0 rfl ?_
    refine r_iload_n hX dX10_promise_1 rfl ?_
    refine r_iload_n hX dX10_promise_2 rfl ?_
    refine r_tV2 hX dX10_promise_3 IX10_needJourney ml_X10_242 rfl (LX10_s hL) rfl (t_nj0 hL hTT h0 hx) (by decide) (by decide) (by decide) (by decide) rfl (Nat.le_of_ble_eq_true rfl) ?_
    exact rC.n0 (k := 1) (by unfold rs_promise; rw [pair_no hb0 hx]) rfl hC

set_option maxHeartbeats 2000000 in
set_option maxRecDepth 20000 in
theorem t_c_promisedDays {M : Mm} {a : Nat} {σ : Sg} {T : Nat} (hL : LX10 M.1 M.2.1 a) (hC : CI (mI M) a σ) (hO : OkN T σ.1) (hT9 : T < 890000) {x y : Int32} : Ct G base YX10_promisedDays 20 1 6 [.ref a, .int x, .int y] M (rC M a 3 4 (rs_promisedDays σ x y) σ) := by
  obtain ⟨hT, hS, hLt, h4, h5, h6, hLo, hSt, hNa⟩ := hO
  have h0 := hT.1
  have h1 := hT.2.1
  have hr := hT.2.2
  have h2 := hLt.1
  have h3 := hLt.2.1
  have hb0 := h0.2
  have hb1 := h1.2
  have hb2 := h2.2
  have hb3 := h3.2
  have hb4 := h4.2
  have ht6 : σ.1 6 = nI (nv σ.1 6) := h6.1
  have hh6 : nv σ.1 6 ≤ T := h6.2
  have hTT : TT (mI M) (a + 28) σ.1 := hC.2.2.2.1
  have hRS : RS (mI M) (a + 34) σ.1 := hC.2.2.2.2.1
  have hHR : HR (mI M) (a + 52) σ.2.1 σ.2.2.1 := hC.2.2.2.2.2.1
  have hpc : mI M (a + 28) 0 = nI (nv σ.1 0) := hTT.1.trans h0.1
  have hcc : mI M (a + 28) 2 = nI (nv σ.1 1) := hTT.2.2.1.trans h1.1
  have hlc : mI M (a + 34 + 2) 0 = nI (nv σ.1 2) := hRS.2.2.1.1.trans h2.1
  have hkc : mI M (a + 34 + 15) 0 = nI (nv σ.1 3) := hRS.2.2.2.2.1.trans h3.1
  have hrc : mI M (a + 34 + 13) 0 = nI (nv σ.1 4) := hRS.2.2.2.1.1.trans h4.1
  have htm : mI M (a + 34) 0 = nI (nv σ.1 6) := hRS.1.1.trans ht6
  by_cases hx : ∃ p q, x = nI p ∧ y = nI q ∧ town σ.1 p = true ∧ town σ.1 q = true ∧ p ≠ q
  · obtain ⟨p, q, rfl, rfl, hp, hq, hne⟩ := hx
    have hpt := town_lt hp
    have hqt := town_lt hq
    refine Ct.of IX10_promisedDays.1 (by simp [Value.category]) (Nat.le_of_ble_eq_true rfl) (fun X hX hN => ?_)
    show J G base X 0 0 M 0 [some (.ref a), some (.int (nI p)), some (.int (nI q)), none] []
    refine r_aload_n hX dX10_promisedDays_0 rfl ?_
    refine r_iload_n hX dX10_promisedDays_1 rfl ?_
    refine r_iload_n hX dX10_promisedDays_2 rfl ?_
    refine r_cV2 hX dX10_promisedDays_3 IX10_needJourney ml_X10_242 rfl (LX10_s hL) rfl (t_nj1 hL hTT h0 hp hq hne) (by decide) (by decide) (by decide) (by decide) rfl (Nat.le_of_ble_eq_true rfl) ?_
    refine r_aload_n hX dX10_promisedDays_6 rfl ?_
    refine r_iload_n hX dX10_promisedDays_7 rfl ?_
    refine r_iload_n hX dX10_promisedDays_8 rfl ?_
    refine r_iV2 hX dX10_promisedDays_9 IX10_arrivalFromOffice ml_X10_125 rfl (LX10_s hL) rfl (t_X10_arrivalFromOffice (M := M) hL hTT hRS hT ht6 (by omega) (by omega) (by omega) hne) (by decide) (by decide) (by decide) (by decide) rfl (Nat.le_of_ble_eq_true rfl) (fun i1 h1 => ?_)
    show J G base X _ _ (wI M i1) _ _ _
    rw [show arN σ.1 (nv σ.1 6) (fun _ => false) (fun x => decide (x = p)) 240 q = arP σ.1 p q from rfl]
    generalize hA : arP σ.1 p q = A
    refine r_istore3 hX dX10_promisedDays_12 rfl ?_
    refine r_iload_n hX dX10_promisedDays_13 rfl ?_
    refine r_iconst (v := (-1)) hX dX10_promisedDays_14 (by decide) ?_
    refine r_icmp_ne (tgt := 22) hX dX10_promisedDays_15 (by decide) (fun c15 => ?_) (fun c15 => ?_)
    · refine r_iload_n hX dX10_promisedDays_22 rfl ?_
      refine r_bipush (v := 24) hX dX10_promisedDays_23 (by decide) ?_
      refine r_idiv hX dX10_promisedDays_25 (by decide) ?_
      refine r_aload_n hX dX10_promisedDays_26 rfl ?_
      refine r_getr hX dX10_promisedDays_27 fl_X10_40 rfl (LX10_s hL) (LX10_r6 hL) ?_
      refine rn_geti (v := σ.1 6) hX dX10_promisedDays_30 fl_X10_160 rfl (LX8_s (LX10_o6 hL)) ((h1.rs hRS).1.1) ?_
      refine r_bipush (v := 24) hX dX10_promisedDays_33 (by decide) ?_
      refine r_idiv hX dX10_promisedDays_35 (by decide) ?_
      refine r_isub hX dX10_promisedDays_36 ?_
      refine r_ireturn hX rfl rfl dX10_promisedDays_37 (by decide) (by decide) ?_
      exact rC.y (by unfold rs_promisedDays; rw [pair_ok hb0 hp hq hne]; dsimp only; rw [hA, if_neg c15]) (h1.ci hC) h1.out
    · refine r_iconst (v := (-1)) hX dX10_promisedDays_18 (by decide) ?_
      refine r_goto (tgt := 37) hX dX10_promisedDays_19 (by decide) ?_
      refine r_ireturn hX rfl rfl dX10_promisedDays_37 (by decide) (by decide) ?_
      exact rC.y (by unfold rs_promisedDays; rw [pair_ok hb0 hp hq hne]; dsimp only; rw [hA, if_pos c15]) (h1.ci hC) h1.out
  · refine Ct.of IX10_promisedDays.1 (by simp [Value.category]) (Nat.le_of_ble_eq_true rfl) (fun X hX hN => ?_)
    show J G base X 0 0 M 0 [some (.ref a), some (.int x), some (.int y), none] []
    refine r_aload_n hX dX10_promisedDays_0 rfl ?_
    refine r_iload_n hX dX10_promisedDays_1 rfl ?_
    refine r_iload_n hX dX10_promisedDays_2 rfl ?_
    refine r_tV2 hX dX10_promisedDays_3 IX10_needJourney ml_X10_242 rfl (LX10_s hL) rfl (t_nj0 hL hTT h0 hx) (by decide) (by decide) (by decide) (by decide) rfl (Nat.le_of_ble_eq_true rfl) ?_
    exact rC.n0 (k := 1) (by unfold rs_promisedDays; rw [pair_no hb0 hx]) rfl hC

