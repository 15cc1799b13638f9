variable {G : GG} {base : Nat}
theorem has_ite {y : Int32} : (if y = 0 then (0 : Int32) else 1) = 1 ↔ ¬ y = 0 := by
  by_cases h : y = 0
  · rw [if_pos h]
    exact ⟨fun z => absurd z (by decide), fun z => absurd h z⟩
  · rw [if_neg h]
    exact ⟨fun _ => h, fun _ => rfl⟩
theorem loseTT {i : Nat → Nat → Int32} {b c : Nat} {n : Nat → Int32} (h : TT i b n) (hO : TbOk n) (h4 : Rn n 4 60) : TT i b (loseN n c) := by
  unfold loseN
  split
  · exact h
  · have hr : Rn (los0 n (nI c)) 4 60 := h4.eq (by unfold los0; rw [upd_o (by omega), upd_o (by omega), upd_o (by omega)])
    have hs := losL_sm (s := n (33 + c)) (lo := nI (nv n 3)) (c := nI c) hr (nv n 2)
    have e : ∀ q, q < 498 → q ≠ 3 → los0 n (nI c) q = n q := fun q h1 h2 => by unfold los0; rw [upd_o (by omega), upd_o (by omega), upd_o h2]
    have et : tabEq (los0 n (nI c)) n := ⟨e 0 (by omega) (by omega), e 1 (by omega) (by omega), fun q a b => e q (by omega) (by omega), fun q a b => e q (by omega) (by omega)⟩
    exact tabEq.TT h (hs.tab.tr et).sm hO
theorem findTT {i : Nat → Nat → Int32} {b k p : Nat} {n : Nat → Int32} (h : TT i b n) (hO : TbOk n) (h4 : Rn n 4 60) : TT i b (findN n k p) := by
  have hs := fouL_sm (k := k) (p := p) h4 (nv n 2)
  have e : ∀ q, q < 498 → q ≠ 3 → findN n k p q = fouL n k p (nv n 2) q := fun q h1 h2 => by
    unfold findN mvN
    rw [if_neg (by omega), upd_o h2]
  have et : tabEq (findN n k p) (fouL n k p (nv n 2)) := ⟨e 0 (by omega) (by omega), e 1 (by omega) (by omega), fun q a b => e q (by omega) (by omega), fun q a b => e q (by omega) (by omega)⟩
  exact tabEq.TT h (et.tr hs.tab).sm hO
theorem RS.add {M : Mm} {a : Nat} {n : Nat → Int32} {fr to vl pr : Int32} (h : RS (mI M) a n) (hno : ¬ noP n) (hm : nv n 2 < 30) : RS (mI (addL M (a + 2) (nv n 2) fr to vl (n 6) pr)) a (upd (postN n fr to vl) (498 + 10 * nv n 2 + 6) pr) := by
  obtain ⟨⟨a1, a2, a3, a4⟩, b1, ⟨c1, c2, c3⟩, ⟨d1, d2, x, d3, d4, d5⟩, e1, e2, e3⟩ := h
  obtain ⟨w0, w1, w2, w3, w4, w5, w6, w7, w8, w9⟩ := postN_new (n := n) (fr := fr) (to := to) (vl := vl)
  have hold : ∀ l f, l < nv n 2 → f < 10 → upd (postN n fr to vl) (498 + 10 * nv n 2 + 6) pr (498 + 10 * l + f) = n (498 + 10 * l + f) := fun l f hl hf => by rw [upd_o (by omega)]; exact postN_old hl hf
  have hlo : ∀ q, q < 498 → q ≠ 2 → upd (postN n fr to vl) (498 + 10 * nv n 2 + 6) pr q = n q := fun q h1 h2 => by rw [upd_o (by omega)]; exact postN_lo h1 h2
  have hhi : ∀ q, 798 ≤ q → upd (postN n fr to vl) (498 + 10 * nv n 2 + 6) pr q = n q := fun q h1 => by rw [upd_o (by omega)]; exact postN_hi (by omega)
  have r2 : upd (postN n fr to vl) (498 + 10 * nv n 2 + 6) pr 2 = nI (nv n 2 + 1) := by rw [upd_o (by omega)]; exact postN_2
  have hnew : ∀ f, f < 10 → upd (postN n fr to vl) (498 + 10 * nv n 2 + 6) pr (498 + 10 * nv n 2 + f) = if f = 6 then pr else postN n fr to vl (498 + 10 * nv n 2 + f) := fun f hf => by
    by_cases e : f = 6
    · rw [e, if_pos rfl, upd_s]
    · rw [if_neg e, upd_o (by omega)]
  generalize hN : addL M (a + 2) (nv n 2) fr to vl (n 6) pr = N
  have hD : N = addL M (a + 2) (nv n 2) fr to vl (n 6) pr := hN.symm
  unfold addL at hD
  have eo : ∀ x, (x < a + 2 ∨ a + 13 ≤ x) → mI N x = mI M x := fun x hx => by
    rw [hD]
    exact (uIo (by omega)).trans ((uIo (by omega)).trans ((uIo (by omega)).trans ((uIo (by omega)).trans ((uIo (by omega)).trans ((uIo (by omega)).trans ((uIo (by omega)).trans ((uIo (by omega)).trans ((uIo (by omega)).trans ((uIo (by omega)).trans (uIo (by omega)))))))))))
  have e0 : mI N (a + 2) 0 = nI (nv n 2 + 1) := by rw [hD, mI_uI, if_pos rfl, if_pos rfl]
  have ef : ∀ f j, f < 10 → mI N (a + 2 + (f + 1)) j = if j = nv n 2 then (if f = 0 then fr else if f = 1 then to else if f = 2 then vl else if f = 3 then 0 else if f = 4 then fr else if f = 5 then n 6 else if f = 6 then pr else if f = 7 then -1 else 0) else mI M (a + 2 + (f + 1)) j := fun f j hf => by
    rw [hD]
    rcases (show f = 0 ∨ f = 1 ∨ f = 2 ∨ f = 3 ∨ f = 4 ∨ f = 5 ∨ f = 6 ∨ f = 7 ∨ f = 8 ∨ f = 9 by omega) with rfl | rfl | rfl | rfl | rfl | rfl | rfl | rfl | rfl | rfl <;> simp [mI_uI]
  have n2 : nv (upd (postN n fr to vl) (498 + 10 * nv n 2 + 6) pr) 2 = nv n 2 + 1 := nv_of r2 (by omega)
  have n4 : nv (upd (postN n fr to vl) (498 + 10 * nv n 2 + 6) pr) 4 = nv n 4 := nv_eq (hlo _ (by omega) (by omega))
  have n3 : nv (upd (postN n fr to vl) (498 + 10 * nv n 2 + 6) pr) 3 = nv n 3 := nv_eq (hlo _ (by omega) (by omega))
  clear hN hD
  generalize upd (postN n fr to vl) (498 + 10 * nv n 2 + 6) pr = m at *
  refine ⟨⟨?_, ?_, ?_, fun c hc => ?_⟩, Or.inl (fun c hc => ?_), ⟨?_, Rn.mk r2 (by omega), fun l' hl' f' hf' => ?_⟩, ⟨?_, d2.eq (hlo _ (by omega) (by omega)), x, d3, ?_, fun g hg w hw => ?_⟩, ?_, e2.eq (hlo _ (by omega) (by omega)), fun j hj => ?_⟩
  · rw [eo _ (by omega), hlo _ (by omega) (by omega)]; exact a1
  · rw [eo _ (by omega), hlo _ (by omega) (by omega)]; exact a2
  · rw [eo _ (by omega), hlo _ (by omega) (by omega)]; exact a3
  · rw [eo _ (by omega), hlo _ (by omega) (by omega)]; exact a4 c hc
  · rw [eo _ (by omega), hlo _ (by omega) (by omega)]; exact b1.resolve_right hno c hc
  · rw [e0, r2]
  · rw [n2] at hl'
    rw [ef f' l' hf']
    by_cases e : l' = nv n 2
    · subst e
      rw [if_pos rfl, hnew f' hf']
      rcases (show f' = 0 ∨ f' = 1 ∨ f' = 2 ∨ f' = 3 ∨ f' = 4 ∨ f' = 5 ∨ f' = 6 ∨ f' = 7 ∨ f' = 8 ∨ f' = 9 by omega) with rfl | rfl | rfl | rfl | rfl | rfl | rfl | rfl | rfl | rfl
      · simpa using w0.symm
      · simpa using w1.symm
      · simpa using w2.symm
      · simpa using w3.symm
      · simpa using w4.symm
      · simpa using w5.symm
      · rfl
      · simpa using w7.symm
      · simpa using w8.symm
      · simpa using w9.symm
    · rw [if_neg e, hold l' f' (by omega) hf']
      exact c3 l' (by omega) f' hf'
  · rw [eo _ (by omega), hlo _ (by omega) (by omega)]; exact d1
  · rw [eo _ (by omega)]; exact d4
  · rw [n4] at hg
    rw [eo _ (by omega), hhi _ (by omega)]; exact d5 g hg w hw
  · rw [eo _ (by omega), hlo _ (by omega) (by omega)]; exact e1
  · rw [n3] at hj
    rw [eo _ (by omega), eo _ (by omega), hhi _ (by omega), hhi _ (by omega)]; exact e3 j hj
theorem add_out {M : Mm} {a m : Nat} {fr to vl hr pr : Int32} : outB (mI (addL M (a + 2) m fr to vl hr pr)) (mI M) a 18 := fun x hx k => by
  unfold addL
  exact (congrFun (uIo (by omega)) k).trans ((congrFun (uIo (by omega)) k).trans ((congrFun (uIo (by omega)) k).trans ((congrFun (uIo (by omega)) k).trans ((congrFun (uIo (by omega)) k).trans ((congrFun (uIo (by omega)) k).trans ((congrFun (uIo (by omega)) k).trans ((congrFun (uIo (by omega)) k).trans ((congrFun (uIo (by omega)) k).trans ((congrFun (uIo (by omega)) k).trans (congrFun (uIo (by omega)) k))))))))))
set_option maxHeartbeats 2000000 in
set_option maxRecDepth 20000 in
theorem t_c_strike {M : Mm} {a : Nat} {σ : Sg} {T : Nat} (hL : LX10 M.1 M.2.1 a) (hC : CI (mI M) a σ) (hO : OkN T σ.1) (hT9 : T < 890000) {x y : Int32} : Ct G base YX10_strike 20 1 6 [.ref a, .int x, .int y] M (rC M a 1 4 (rs_strike σ x y) (sg_strike σ x y)) := by
  obtain ⟨hT, hS, hLt, h4, h5, h6, hLo, hSt, hNa⟩ := hO
  have h0 := hT.1
  have h1 := hT.2.1
  have hr := hT.2.2
  have h2 := hLt.1
  have h3 := hLt.2.1
  have hb0 := h0.2
  have hb1 := h1.2
  have hb2 := h2.2
  have hb3 := h3.2
  have hb4 := h4.2
  have ht6 : σ.1 6 = nI (nv σ.1 6) := h6.1
  have hh6 : nv σ.1 6 ≤ T := h6.2
  have hTT : TT (mI M) (a + 28) σ.1 := hC.2.2.2.1
  have hRS : RS (mI M) (a + 34) σ.1 := hC.2.2.2.2.1
  have hHR : HR (mI M) (a + 52) σ.2.1 σ.2.2.1 := hC.2.2.2.2.2.1
  have hpc : mI M (a + 28) 0 = nI (nv σ.1 0) := hTT.1.trans h0.1
  have hcc : mI M (a + 28) 2 = nI (nv σ.1 1) := hTT.2.2.1.trans h1.1
  have hlc : mI M (a + 34 + 2) 0 = nI (nv σ.1 2) := hRS.2.2.1.1.trans h2.1
  have hkc : mI M (a + 34 + 15) 0 = nI (nv σ.1 3) := hRS.2.2.2.2.1.trans h3.1
  have hrc : mI M (a + 34 + 13) 0 = nI (nv σ.1 4) := hRS.2.2.2.1.1.trans h4.1
  have htm : mI M (a + 34) 0 = nI (nv σ.1 6) := hRS.1.1.trans ht6
  by_cases hx : ∃ c, c < nv σ.1 1 ∧ x = nI c
  · obtain ⟨c, hc, rfl⟩ := hx
    refine Ct.of IX10_strike.1 (by simp [Value.category]) (Nat.le_of_ble_eq_true rfl) (fun X hX hN => ?_)
    show J G base X 0 0 M 0 [some (.ref a), some (.int (nI c)), some (.int y), none] []
    refine r_iload_n hX dX10_strike_0 rfl ?_
    refine r_aload_n hX dX10_strike_1 rfl ?_
    refine r_getr hX dX10_strike_2 fl_X10_33 rfl (LX10_s hL) (LX10_r5 hL) ?_
    refine rn_geti (v := nI (nv σ.1 1)) hX dX10_strike_5 fl_X10_138 rfl (LX9_s (LX10_o5 hL)) hcc ?_
    refine r_cS2 hX dX10_strike_8 IX10_needIndex ml_X10_169 rfl (t_ni1 hc (by omega)) (by decide) (by decide) (by decide) (by decide) rfl (Nat.le_of_ble_eq_true rfl) ?_
    refine r_aload_n hX dX10_strike_11 rfl ?_
    refine r_getr hX dX10_strike_12 fl_X10_47 rfl (LX10_s hL) (LX10_r7 hL) ?_
    refine r_aload_n hX dX10_strike_15 rfl ?_
    refine r_getr hX dX10_strike_16 fl_X10_40 rfl (LX10_s hL) (LX10_r6 hL) ?_
    refine r_iV1 hX dX10_strike_19 IX0_keep ml_X10_273 rfl (LX0_s (LX10_o7 hL)) rfl (t_X0_keep (M := M) (LX10_o7 hL) (LX10_o6 hL) (by omega) hRS (σ := σ) rfl hHR) (by decide) (by decide) (by decide) (by decide) rfl (Nat.le_of_ble_eq_true rfl) (fun i1 h1 => ?_)
    show J G base X _ _ (wI M i1) _ _ _
    have hC1 : CI i1 a (keepS σ) := hC.keep h1.1 h1.2.1 h1.2.2
    have ho1 : outB i1 (mI M) a 208 := fun y hy k => h1.2.2 y (by omega) k
    refine r_aload_n hX dX10_strike_22 rfl ?_
    refine r_getr hX dX10_strike_23 fl_X10_40 rfl (LX10_s hL) (LX10_r6 hL) ?_
    refine r_geti hX dX10_strike_26 fl_X10_187 rfl (LX8_s (LX10_o6 hL)) ?_
    refine r_iload_n hX dX10_strike_29 rfl ?_
    refine r_cS2 hX dX10_strike_30 IX10_has ml_X10_190 rfl (t_X10_has (M := wI M i1)) (by decide) (by decide) (by decide) (by decide) rfl (Nat.le_of_ble_eq_true rfl) ?_
    rw [itec (show hasP (mI (wI M i1) (a + 34) 3) (nI c) ↔ σ.1 (38 + c) = 1 from by rw [hasP_nI (by omega), show bt (mI (wI M i1) (a + 34) 3) c = _ from h1.2.1.1.2.2.2 c (by omega), decide_eq_true_iff])]
    refine r_istore3 hX dX10_strike_33 rfl ?_
    refine r_aload_n hX dX10_strike_34 rfl ?_
    refine r_getr hX dX10_strike_35 fl_X10_40 rfl (LX10_s hL) (LX10_r6 hL) ?_
    refine r_iload_n hX dX10_strike_38 rfl ?_
    refine r_if_eq (tgt := 57) hX dX10_strike_39 (by decide) (fun c39 => ?_) (fun c39 => ?_)
    · refine r_aload_n hX dX10_strike_57 rfl ?_
      refine r_getr hX dX10_strike_58 fl_X10_40 rfl (LX10_s hL) (LX10_r6 hL) ?_
      refine r_geti hX dX10_strike_61 fl_X10_187 rfl (LX8_s (LX10_o6 hL)) ?_
      refine r_iload_n hX dX10_strike_64 rfl ?_
      refine r_cS1 hX dX10_strike_65 IX10_bit ml_X10_230 rfl (t_X10_bit (M := wI M i1)) (by decide) (by decide) (by decide) (by decide) rfl (Nat.le_of_ble_eq_true rfl) ?_
      refine r_iconst (v := (-1)) hX dX10_strike_68 (by decide) ?_
      refine r_ixor hX dX10_strike_69 ?_
      refine r_iand hX dX10_strike_70 ?_
      refine r_puti hX dX10_strike_71 fl_X10_187 rfl rfl (LX8_s (LX10_o6 hL)) ?_
      refine r_iload_n hX dX10_strike_74 rfl ?_
      refine r_ireturn hX rfl nar_b dX10_strike_75 (by decide) (by decide) ?_
      refine rC.y (i := mI (uI (wI M i1) (a + 34) 3 (mI (wI M i1) (a + 34) 3 &&& (bitI (nI c) ^^^ -1)))) ?_ ?_ (fun y hy q => (congrFun (uIo (by omega)) q).trans (ho1 y hy q))
      · unfold rs_strike
        rw [ix_of hc (by omega)]
      · unfold sg_strike
        rw [ix_of hc (by omega)]
        refine hC1.row (strTT hC1.2.2.2.1 hT (by omega)) (RS.str (M := wI M i1) h1.2.1 (by omega) (fun d hd => ?_)) (fun y h1 h2 q => congrFun (uIo (by omega)) q)
        rw [if_pos c39, b_and, b_xor, b_m1 d (by omega), bitI_nI (by omega), bt_b1 (by omega)]
        by_cases e : d = c
        · subst e
          rw [if_pos rfl, decide_eq_true rfl]
          simp
        · rw [if_neg e, decide_eq_false e]
          simp
    · refine r_aload_n hX dX10_strike_42 rfl ?_
      refine r_getr hX dX10_strike_43 fl_X10_40 rfl (LX10_s hL) (LX10_r6 hL) ?_
      refine r_geti hX dX10_strike_46 fl_X10_187 rfl (LX8_s (LX10_o6 hL)) ?_
      refine r_iload_n hX dX10_strike_49 rfl ?_
      refine r_cS1 hX dX10_strike_50 IX10_bit ml_X10_230 rfl (t_X10_bit (M := wI M i1)) (by decide) (by decide) (by decide) (by decide) rfl (Nat.le_of_ble_eq_true rfl) ?_
      refine r_ior hX dX10_strike_53 ?_
      refine r_goto (tgt := 71) hX dX10_strike_54 (by decide) ?_
      refine r_puti hX dX10_strike_71 fl_X10_187 rfl rfl (LX8_s (LX10_o6 hL)) ?_
      refine r_iload_n hX dX10_strike_74 rfl ?_
      refine r_ireturn hX rfl nar_b dX10_strike_75 (by decide) (by decide) ?_
      refine rC.y (i := mI (uI (wI M i1) (a + 34) 3 (mI (wI M i1) (a + 34) 3 ||| bitI (nI c)))) ?_ ?_ (fun y hy q => (congrFun (uIo (by omega)) q).trans (ho1 y hy q))
      · unfold rs_strike
        rw [ix_of hc (by omega)]
      · unfold sg_strike
        rw [ix_of hc (by omega)]
        refine hC1.row (strTT hC1.2.2.2.1 hT (by omega)) (RS.str (M := wI M i1) h1.2.1 (by omega) (fun d hd => ?_)) (fun y h1 h2 q => congrFun (uIo (by omega)) q)
        rw [if_neg c39, b_or, bitI_nI (by omega), bt_b1 (by omega)]
        by_cases e : d = c
        · subst e
          rw [if_pos rfl, decide_eq_true rfl]
          simp
        · rw [if_neg e, decide_eq_false e]
          simp
  · refine Ct.of IX10_strike.1 (by simp [Value.category]) (Nat.le_of_ble_eq_true rfl) (fun X hX hN => ?_)
    show J G base X 0 0 M 0 [some (.ref a), some (.int x), some (.int y), none] []
    refine r_iload_n hX dX10_strike_0 rfl ?_
    refine r_aload_n hX dX10_strike_1 rfl ?_
    refine r_getr hX dX10_strike_2 fl_X10_33 rfl (LX10_s hL) (LX10_r5 hL) ?_
    refine rn_geti (v := nI (nv σ.1 1)) hX dX10_strike_5 fl_X10_138 rfl (LX9_s (LX10_o5 hL)) hcc ?_
    refine r_tS2 hX dX10_strike_8 IX10_needIndex ml_X10_169 rfl (t_ni0 hx (by omega)) (by decide) (by decide) (by decide) (by decide) rfl (Nat.le_of_ble_eq_true rfl) ?_
    exact rC.n0 (k := 1) (by unfold rs_strike; rw [ix_no hx]) rfl (by unfold sg_strike; rw [ix_no hx]; exact hC)

set_option maxHeartbeats 2000000 in
set_option maxRecDepth 20000 in
theorem t_c_lose {M : Mm} {a : Nat} {σ : Sg} {T : Nat} (hL : LX10 M.1 M.2.1 a) (hC : CI (mI M) a σ) (hO : OkN T σ.1) (hT9 : T < 890000) {x : Int32} : Ct G base YX10_lose 20 1 6 [.ref a, .int x] M (rC M a 1 4 (rs_lose σ x) (sg_lose σ x)) := by
  obtain ⟨hT, hS, hLt, h4, h5, h6, hLo, hSt, hNa⟩ := hO
  have h0 := hT.1
  have h1 := hT.2.1
  have hr := hT.2.2
  have h2 := hLt.1
  have h3 := hLt.2.1
  have hb0 := h0.2
  have hb1 := h1.2
  have hb2 := h2.2
  have hb3 := h3.2
  have hb4 := h4.2
  have ht6 : σ.1 6 = nI (nv σ.1 6) := h6.1
  have hh6 : nv σ.1 6 ≤ T := h6.2
  have hTT : TT (mI M) (a + 28) σ.1 := hC.2.2.2.1
  have hRS : RS (mI M) (a + 34) σ.1 := hC.2.2.2.2.1
  have hHR : HR (mI M) (a + 52) σ.2.1 σ.2.2.1 := hC.2.2.2.2.2.1
  have hpc : mI M (a + 28) 0 = nI (nv σ.1 0) := hTT.1.trans h0.1
  have hcc : mI M (a + 28) 2 = nI (nv σ.1 1) := hTT.2.2.1.trans h1.1
  have hlc : mI M (a + 34 + 2) 0 = nI (nv σ.1 2) := hRS.2.2.1.1.trans h2.1
  have hkc : mI M (a + 34 + 15) 0 = nI (nv σ.1 3) := hRS.2.2.2.2.1.trans h3.1
  have hrc : mI M (a + 34 + 13) 0 = nI (nv σ.1 4) := hRS.2.2.2.1.1.trans h4.1
  have htm : mI M (a + 34) 0 = nI (nv σ.1 6) := hRS.1.1.trans ht6
  by_cases hx : ∃ c, c < nv σ.1 1 ∧ x = nI c
  · obtain ⟨c, hc, rfl⟩ := hx
    refine Ct.of IX10_lose.1 (by simp [Value.category]) (Nat.le_of_ble_eq_true rfl) (fun X hX hN => ?_)
    show J G base X 0 0 M 0 [some (.ref a), some (.int (nI c))] []
    refine r_iload_n hX dX10_lose_0 rfl ?_
    refine r_aload_n hX dX10_lose_1 rfl ?_
    refine r_getr hX dX10_lose_2 fl_X10_33 rfl (LX10_s hL) (LX10_r5 hL) ?_
    refine rn_geti (v := nI (nv σ.1 1)) hX dX10_lose_5 fl_X10_138 rfl (LX9_s (LX10_o5 hL)) hcc ?_
    refine r_cS2 hX dX10_lose_8 IX10_needIndex ml_X10_169 rfl (t_ni1 hc (by omega)) (by decide) (by decide) (by decide) (by decide) rfl (Nat.le_of_ble_eq_true rfl) ?_
    refine r_aload_n hX dX10_lose_11 rfl ?_
    refine r_getr hX dX10_lose_12 fl_X10_47 rfl (LX10_s hL) (LX10_r7 hL) ?_
    refine r_aload_n hX dX10_lose_15 rfl ?_
    refine r_getr hX dX10_lose_16 fl_X10_40 rfl (LX10_s hL) (LX10_r6 hL) ?_
    refine r_iV1 hX dX10_lose_19 IX0_keep ml_X10_273 rfl (LX0_s (LX10_o7 hL)) rfl (t_X0_keep (M := M) (LX10_o7 hL) (LX10_o6 hL) (by omega) hRS (σ := σ) rfl hHR) (by decide) (by decide) (by decide) (by decide) rfl (Nat.le_of_ble_eq_true rfl) (fun i1 h1 => ?_)
    show J G base X _ _ (wI M i1) _ _ _
    have hC1 : CI i1 a (keepS σ) := hC.keep h1.1 h1.2.1 h1.2.2
    have ho1 : outB i1 (mI M) a 208 := fun y hy k => h1.2.2 y (by omega) k
    refine r_aload_n hX dX10_lose_22 rfl ?_
    refine r_getr hX dX10_lose_23 fl_X10_40 rfl (LX10_s hL) (LX10_r6 hL) ?_
    refine r_iload_n hX dX10_lose_26 rfl ?_
    refine r_iV1 hX dX10_lose_27 IX8_loseSack ml_X10_284 rfl (LX8_s (LX10_o6 hL)) rfl (t_X8_loseSack (M := wI M i1) (LX10_o6 hL) h1.2.1 (noP_c hc) hLt hLo (by omega)) (by decide) (by decide) (by decide) (by decide) rfl (Nat.le_of_ble_eq_true rfl) (fun i2 h2 => ?_)
    show J G base X _ _ (wI M i2) _ _ _
    
    refine r_ireturn hX rfl rfl dX10_lose_30 (by decide) (by decide) ?_
    refine rC.y (i := i2) ?_ ?_ (fun y hy q => (h2.2 y (by omega) q).trans (ho1 y hy q))
    · unfold rs_lose
      rw [ix_of hc (by omega)]
    · unfold sg_lose
      rw [ix_of hc (by omega)]
      exact hC1.row (loseTT hC1.2.2.2.1 hT h4) h2.1 (fun y h3 h4 q => h2.2 y (by omega) q)
  · refine Ct.of IX10_lose.1 (by simp [Value.category]) (Nat.le_of_ble_eq_true rfl) (fun X hX hN => ?_)
    show J G base X 0 0 M 0 [some (.ref a), some (.int x)] []
    refine r_iload_n hX dX10_lose_0 rfl ?_
    refine r_aload_n hX dX10_lose_1 rfl ?_
    refine r_getr hX dX10_lose_2 fl_X10_33 rfl (LX10_s hL) (LX10_r5 hL) ?_
    refine rn_geti (v := nI (nv σ.1 1)) hX dX10_lose_5 fl_X10_138 rfl (LX9_s (LX10_o5 hL)) hcc ?_
    refine r_tS2 hX dX10_lose_8 IX10_needIndex ml_X10_169 rfl (t_ni0 hx (by omega)) (by decide) (by decide) (by decide) (by decide) rfl (Nat.le_of_ble_eq_true rfl) ?_
    exact rC.n0 (k := 1) (by unfold rs_lose; rw [ix_no hx]) rfl (by unfold sg_lose; rw [ix_no hx]; exact hC)

set_option maxHeartbeats 2000000 in
set_option maxRecDepth 20000 in
theorem t_c_find {M : Mm} {a : Nat} {σ : Sg} {T : Nat} (hL : LX10 M.1 M.2.1 a) (hC : CI (mI M) a σ) (hO : OkN T σ.1) (hT9 : T < 890000) {x y : Int32} : Ct G base YX10_find 20 1 6 [.ref a, .int x, .int y] M (rC M a 1 3 (rs_find σ x y) (sg_find σ x y)) := by
  obtain ⟨hT, hS, hLt, h4, h5, h6, hLo, hSt, hNa⟩ := hO
  have h0 := hT.1
  have h1 := hT.2.1
  have hr := hT.2.2
  have h2 := hLt.1
  have h3 := hLt.2.1
  have hb0 := h0.2
  have hb1 := h1.2
  have hb2 := h2.2
  have hb3 := h3.2
  have hb4 := h4.2
  have ht6 : σ.1 6 = nI (nv σ.1 6) := h6.1
  have hh6 : nv σ.1 6 ≤ T := h6.2
  have hTT : TT (mI M) (a + 28) σ.1 := hC.2.2.2.1
  have hRS : RS (mI M) (a + 34) σ.1 := hC.2.2.2.2.1
  have hHR : HR (mI M) (a + 52) σ.2.1 σ.2.2.1 := hC.2.2.2.2.2.1
  have hpc : mI M (a + 28) 0 = nI (nv σ.1 0) := hTT.1.trans h0.1
  have hcc : mI M (a + 28) 2 = nI (nv σ.1 1) := hTT.2.2.1.trans h1.1
  have hlc : mI M (a + 34 + 2) 0 = nI (nv σ.1 2) := hRS.2.2.1.1.trans h2.1
  have hkc : mI M (a + 34 + 15) 0 = nI (nv σ.1 3) := hRS.2.2.2.2.1.trans h3.1
  have hrc : mI M (a + 34 + 13) 0 = nI (nv σ.1 4) := hRS.2.2.2.1.1.trans h4.1
  have htm : mI M (a + 34) 0 = nI (nv σ.1 6) := hRS.1.1.trans ht6
  by_cases hx : ∃ c, c < nv σ.1 3 ∧ x = nI c
  · obtain ⟨k, hk, rfl⟩ := hx
    by_cases hy : townP σ.1 y
    · obtain ⟨p, hp, rfl, tp⟩ := townP_of h0 hy
      have htp : town σ.1 p = true := town_i.mpr ⟨hp, tp⟩
      refine Ct.of IX10_find.1 (by simp [Value.category]) (Nat.le_of_ble_eq_true rfl) (fun X hX hN => ?_)
      show J G base X 0 0 M 0 [some (.ref a), some (.int (nI k)), some (.int (nI p))] []
      refine r_iload_n hX dX10_find_0 rfl ?_
      refine r_aload_n hX dX10_find_1 rfl ?_
      refine r_getr hX dX10_find_2 fl_X10_40 rfl (LX10_s hL) (LX10_r6 hL) ?_
      refine r_getr hX dX10_find_5 fl_X10_141 rfl (LX8_s (LX10_o6 hL)) (LX8_r7 (LX10_o6 hL)) ?_
      refine rn_geti (v := nI (nv σ.1 3)) hX dX10_find_8 fl_X10_145 rfl (LX4_s (LX8_o7 (LX10_o6 hL))) hkc ?_
      refine r_cS2 hX dX10_find_11 IX10_needIndex ml_X10_169 rfl (t_ni1 hk (by omega)) (by decide) (by decide) (by decide) (by decide) rfl (Nat.le_of_ble_eq_true rfl) ?_
      refine r_aload_n hX dX10_find_14 rfl ?_
      refine r_iload_n hX dX10_find_15 rfl ?_
      refine r_cV1 hX dX10_find_16 IX10_needVillage ml_X10_245 rfl (LX10_s hL) rfl (t_nv1 hL hTT h0 hy) (by decide) (by decide) (by decide) (by decide) rfl (Nat.le_of_ble_eq_true rfl) ?_
      refine r_aload_n hX dX10_find_19 rfl ?_
      refine r_getr hX dX10_find_20 fl_X10_47 rfl (LX10_s hL) (LX10_r7 hL) ?_
      refine r_aload_n hX dX10_find_23 rfl ?_
      refine r_getr hX dX10_find_24 fl_X10_40 rfl (LX10_s hL) (LX10_r6 hL) ?_
      refine r_iV1 hX dX10_find_27 IX0_keep ml_X10_273 rfl (LX0_s (LX10_o7 hL)) rfl (t_X0_keep (M := M) (LX10_o7 hL) (LX10_o6 hL) (by omega) hRS (σ := σ) rfl hHR) (by decide) (by decide) (by decide) (by decide) rfl (Nat.le_of_ble_eq_true rfl) (fun i1 h1 => ?_)
      show J G base X _ _ (wI M i1) _ _ _
      have hC1 : CI i1 a (keepS σ) := hC.keep h1.1 h1.2.1 h1.2.2
      have ho1 : outB i1 (mI M) a 208 := fun y hy k => h1.2.2 y (by omega) k
      refine r_aload_n hX dX10_find_30 rfl ?_
      refine r_getr hX dX10_find_31 fl_X10_40 rfl (LX10_s hL) (LX10_r6 hL) ?_
      refine r_iload_n hX dX10_find_34 rfl ?_
      refine r_iload_n hX dX10_find_35 rfl ?_
      refine r_iV2 hX dX10_find_36 IX8_findSack ml_X10_287 rfl (LX8_s (LX10_o6 hL)) rfl (t_X8_findSack (M := wI M i1) (LX10_o6 hL) h1.2.1 hk (p := p) (by omega)) (by decide) (by decide) (by decide) (by decide) rfl (Nat.le_of_ble_eq_true rfl) (fun i2 h2 => ?_)
      show J G base X _ _ (wI M i2) _ _ _
      
      refine r_ireturn hX rfl rfl dX10_find_39 (by decide) (by decide) ?_
      refine rC.y (i := i2) ?_ ?_ (fun y hy q => (h2.2 y (by omega) q).trans (ho1 y hy q))
      · unfold rs_find
        rw [ix_of hk (by omega)]
        dsimp only
        rw [ix_of hp (by omega)]
        dsimp only
        rw [if_pos htp]
      · unfold sg_find
        rw [ix_of hk (by omega)]
        dsimp only
        rw [ix_of hp (by omega)]
        dsimp only
        rw [if_pos htp]
        exact hC1.row (findTT hC1.2.2.2.1 hT h4) h2.1 (fun y h3 h4 q => h2.2 y (by omega) q)
    · refine Ct.of IX10_find.1 (by simp [Value.category]) (Nat.le_of_ble_eq_true rfl) (fun X hX hN => ?_)
      show J G base X 0 0 M 0 [some (.ref a), some (.int (nI k)), some (.int y)] []
      refine r_iload_n hX dX10_find_0 rfl ?_
      refine r_aload_n hX dX10_find_1 rfl ?_
      refine r_getr hX dX10_find_2 fl_X10_40 rfl (LX10_s hL) (LX10_r6 hL) ?_
      refine r_getr hX dX10_find_5 fl_X10_141 rfl (LX8_s (LX10_o6 hL)) (LX8_r7 (LX10_o6 hL)) ?_
      refine rn_geti (v := nI (nv σ.1 3)) hX dX10_find_8 fl_X10_145 rfl (LX4_s (LX8_o7 (LX10_o6 hL))) hkc ?_
      refine r_cS2 hX dX10_find_11 IX10_needIndex ml_X10_169 rfl (t_ni1 hk (by omega)) (by decide) (by decide) (by decide) (by decide) rfl (Nat.le_of_ble_eq_true rfl) ?_
      refine r_aload_n hX dX10_find_14 rfl ?_
      refine r_iload_n hX dX10_find_15 rfl ?_
      refine r_tV1 hX dX10_find_16 IX10_needVillage ml_X10_245 rfl (LX10_s hL) rfl (t_nv0 hL hTT h0 hy) (by decide) (by decide) (by decide) (by decide) rfl (Nat.le_of_ble_eq_true rfl) ?_
      refine rC.n0 (k := 2) ?_ rfl ?_
      · unfold rs_find
        rw [ix_of hk (by omega)]
        dsimp only
        by_cases hc : ∃ c, c < nv σ.1 0 ∧ y = nI c
        · obtain ⟨c, hc, rfl⟩ := hc
          rw [ix_of hc (by omega)]
          dsimp only
          rw [if_neg (fun z => hy ((townP_t h0 (by omega)).mpr z))]
        · rw [ix_no hc]
      · unfold sg_find
        rw [ix_of hk (by omega)]
        dsimp only
        by_cases hc : ∃ c, c < nv σ.1 0 ∧ y = nI c
        · obtain ⟨c, hc, rfl⟩ := hc
          rw [ix_of hc (by omega)]
          dsimp only
          rw [if_neg (fun z => hy ((townP_t h0 (by omega)).mpr z))]
          exact hC
        · rw [ix_no hc]
          exact hC
  · refine Ct.of IX10_find.1 (by simp [Value.category]) (Nat.le_of_ble_eq_true rfl) (fun X hX hN => ?_)
    show J G base X 0 0 M 0 [some (.ref a), some (.int x), some (.int y)] []
    refine r_iload_n hX dX10_find_0 rfl ?_
    refine r_aload_n hX dX10_find_1 rfl ?_
    refine r_getr hX dX10_find_2 fl_X10_40 rfl (LX10_s hL) (LX10_r6 hL) ?_
    refine r_getr hX dX10_find_5 fl_X10_141 rfl (LX8_s (LX10_o6 hL)) (LX8_r7 (LX10_o6 hL)) ?_
    refine rn_geti (v := nI (nv σ.1 3)) hX dX10_find_8 fl_X10_145 rfl (LX4_s (LX8_o7 (LX10_o6 hL))) hkc ?_
    refine r_tS2 hX dX10_find_11 IX10_needIndex ml_X10_169 rfl (t_ni0 hx (by omega)) (by decide) (by decide) (by decide) (by decide) rfl (Nat.le_of_ble_eq_true rfl) ?_
    exact rC.n0 (k := 1) (by unfold rs_find; rw [ix_no hx]) rfl (by unfold sg_find; rw [ix_no hx]; exact hC)

set_option maxHeartbeats 2000000 in
set_option maxRecDepth 20000 in
theorem t_c_claim {M : Mm} {a : Nat} {σ : Sg} {T : Nat} (hL : LX10 M.1 M.2.1 a) (hC : CI (mI M) a σ) (hO : OkN T σ.1) (hT9 : T < 890000) {x : Int32} : Ct G base YX10_claim 20 1 6 [.ref a, .int x] M (rC M a 1 4 (rs_claim σ x) (sg_claim σ x)) := by
  obtain ⟨hT, hS, hLt, h4, h5, h6, hLo, hSt, hNa⟩ := hO
  have h0 := hT.1
  have h1 := hT.2.1
  have hr := hT.2.2
  have h2 := hLt.1
  have h3 := hLt.2.1
  have hb0 := h0.2
  have hb1 := h1.2
  have hb2 := h2.2
  have hb3 := h3.2
  have hb4 := h4.2
  have ht6 : σ.1 6 = nI (nv σ.1 6) := h6.1
  have hh6 : nv σ.1 6 ≤ T := h6.2
  have hTT : TT (mI M) (a + 28) σ.1 := hC.2.2.2.1
  have hRS : RS (mI M) (a + 34) σ.1 := hC.2.2.2.2.1
  have hHR : HR (mI M) (a + 52) σ.2.1 σ.2.2.1 := hC.2.2.2.2.2.1
  have hpc : mI M (a + 28) 0 = nI (nv σ.1 0) := hTT.1.trans h0.1
  have hcc : mI M (a + 28) 2 = nI (nv σ.1 1) := hTT.2.2.1.trans h1.1
  have hlc : mI M (a + 34 + 2) 0 = nI (nv σ.1 2) := hRS.2.2.1.1.trans h2.1
  have hkc : mI M (a + 34 + 15) 0 = nI (nv σ.1 3) := hRS.2.2.2.2.1.trans h3.1
  have hrc : mI M (a + 34 + 13) 0 = nI (nv σ.1 4) := hRS.2.2.2.1.1.trans h4.1
  have htm : mI M (a + 34) 0 = nI (nv σ.1 6) := hRS.1.1.trans ht6
  by_cases hx : ∃ c, c < nv σ.1 2 ∧ x = nI c
  · obtain ⟨l, hl, rfl⟩ := hx
    refine Ct.of IX10_claim.1 (by simp [Value.category]) (Nat.le_of_ble_eq_true rfl) (fun X hX hN => ?_)
    show J G base X 0 0 M 0 [some (.ref a), some (.int (nI l)), none] []
    refine r_aload_n hX dX10_claim_0 rfl ?_
    refine r_getr hX dX10_claim_1 fl_X10_40 rfl (LX10_s hL) (LX10_r6 hL) ?_
    refine r_getr hX dX10_claim_4 fl_X10_107 rfl (LX8_s (LX10_o6 hL)) (LX8_r5 (LX10_o6 hL)) ?_
    refine r_astore2 hX dX10_claim_7 rfl ?_
    refine r_iload_n hX dX10_claim_8 rfl ?_
    refine r_aload_n hX dX10_claim_9 rfl ?_
    refine rn_geti (v := nI (nv σ.1 2)) hX dX10_claim_10 fl_X10_111 rfl (LX2_s (LX8_o5 (LX10_o6 hL))) hlc ?_
    refine r_cS2 hX dX10_claim_13 IX10_needIndex ml_X10_169 rfl (t_ni1 hl (by omega)) (by decide) (by decide) (by decide) (by decide) rfl (Nat.le_of_ble_eq_true rfl) ?_
    refine r_aload_n hX dX10_claim_16 rfl ?_
    refine r_getr hX dX10_claim_17 fl_X10_221 rfl (LX2_s (LX8_o5 (LX10_o6 hL))) (LX2_r3 (LX8_o5 (LX10_o6 hL))) ?_
    refine r_iload_n hX dX10_claim_20 rfl ?_
    refine rn_iald hX dX10_claim_21 (LX2_a3 (LX8_o5 (LX10_o6 hL))) rfl (by omega) (by omega) ?_
    rw [show mI M (a + 34 + 2 + 3) l = σ.1 (498 + 10 * l + 2) from hRS.2.2.1.2.2 l hl 2 (by omega)]
    refine r_if_eq (tgt := 73) hX dX10_claim_22 (by decide) (fun c22 => ?_) (fun c22 => ?_)
    · refine r_throw hX thI3 dX10_claim_73 dX10_claim_76 dX10_claim_77 dX10_claim_80 (by decide) (by decide) (by decide) rfl ?_ (Nat.le_of_ble_eq_true rfl)
      have hno : ¬ (σ.1 (498 + 10 * l + 3) = 3 ∧ ¬ σ.1 (498 + 10 * l + 2) = 0 ∧ σ.1 (498 + 10 * l + 8) = 0 ∧ 72 ≤ σ.1 6 - σ.1 (798 + 2 * nv σ.1 (498 + 10 * l + 4) + 1)) := fun z => z.2.1 c22
      exact rC.n0 (k := 2) (by unfold rs_claim; rw [ix_of hl (by omega)]; dsimp only; rw [if_neg hno]) rfl (by unfold sg_claim; rw [ix_of hl (by omega)]; dsimp only; rw [if_neg hno]; exact hC)
    · refine r_aload_n hX dX10_claim_25 rfl ?_
      refine r_getr hX dX10_claim_26 fl_X10_239 rfl (LX2_s (LX8_o5 (LX10_o6 hL))) (LX2_r9 (LX8_o5 (LX10_o6 hL))) ?_
      refine r_iload_n hX dX10_claim_29 rfl ?_
      refine rn_iald hX dX10_claim_30 (LX2_a9 (LX8_o5 (LX10_o6 hL))) rfl (by omega) (by omega) ?_
      rw [show mI M (a + 34 + 2 + 9) l = σ.1 (498 + 10 * l + 8) from hRS.2.2.1.2.2 l hl 8 (by omega)]
      refine r_if_ne (tgt := 73) hX dX10_claim_31 (by decide) (fun c31 => ?_) (fun c31 => ?_)
      · refine r_throw hX thI3 dX10_claim_73 dX10_claim_76 dX10_claim_77 dX10_claim_80 (by decide) (by decide) (by decide) rfl ?_ (Nat.le_of_ble_eq_true rfl)
        have hno : ¬ (σ.1 (498 + 10 * l + 3) = 3 ∧ ¬ σ.1 (498 + 10 * l + 2) = 0 ∧ σ.1 (498 + 10 * l + 8) = 0 ∧ 72 ≤ σ.1 6 - σ.1 (798 + 2 * nv σ.1 (498 + 10 * l + 4) + 1)) := fun z => c31 z.2.2.1
        exact rC.n0 (k := 2) (by unfold rs_claim; rw [ix_of hl (by omega)]; dsimp only; rw [if_neg hno]) rfl (by unfold sg_claim; rw [ix_of hl (by omega)]; dsimp only; rw [if_neg hno]; exact hC)
      · refine r_aload_n hX dX10_claim_34 rfl ?_
        refine r_getr hX dX10_claim_35 fl_X10_219 rfl (LX2_s (LX8_o5 (LX10_o6 hL))) (LX2_r4 (LX8_o5 (LX10_o6 hL))) ?_
        refine r_iload_n hX dX10_claim_38 rfl ?_
        refine rn_iald hX dX10_claim_39 (LX2_a4 (LX8_o5 (LX10_o6 hL))) rfl (by omega) (by omega) ?_
        rw [show mI M (a + 34 + 2 + 4) l = σ.1 (498 + 10 * l + 3) from hRS.2.2.1.2.2 l hl 3 (by omega)]
        refine r_iconst (v := 3) hX dX10_claim_40 (by decide) ?_
        refine r_icmp_ne (tgt := 73) hX dX10_claim_41 (by decide) (fun c41 => ?_) (fun c41 => ?_)
        · refine r_throw hX thI3 dX10_claim_73 dX10_claim_76 dX10_claim_77 dX10_claim_80 (by decide) (by decide) (by decide) rfl ?_ (Nat.le_of_ble_eq_true rfl)
          have hno : ¬ (σ.1 (498 + 10 * l + 3) = 3 ∧ ¬ σ.1 (498 + 10 * l + 2) = 0 ∧ σ.1 (498 + 10 * l + 8) = 0 ∧ 72 ≤ σ.1 6 - σ.1 (798 + 2 * nv σ.1 (498 + 10 * l + 4) + 1)) := fun z => c41 z.1
          exact rC.n0 (k := 2) (by unfold rs_claim; rw [ix_of hl (by omega)]; dsimp only; rw [if_neg hno]) rfl (by unfold sg_claim; rw [ix_of hl (by omega)]; dsimp only; rw [if_neg hno]; exact hC)
        · obtain ⟨f, t, v', s', w', g1, g2, g3, g4, g5, g6, g7, g8, g9, g10, g11, g12, g13, g14, g15⟩ := hLt.2.2 l hl
          have hs3 : s' = 3 := by
            rw [g4] at c41
            exact (nI_eq (a := s') (b := 3) (by omega) (by omega)).mp c41
          have hw3 := g14 hs3
          have ew : nv σ.1 (498 + 10 * l + 4) = w' := nv_of g5 (by omega)
          refine r_aload_n hX dX10_claim_44 rfl ?_
          refine r_getr hX dX10_claim_45 fl_X10_40 rfl (LX10_s hL) (LX10_r6 hL) ?_
          refine rn_geti (v := σ.1 6) hX dX10_claim_48 fl_X10_160 rfl (LX8_s (LX10_o6 hL)) hRS.1.1 ?_
          refine r_aload_n hX dX10_claim_51 rfl ?_
          refine r_getr hX dX10_claim_52 fl_X10_40 rfl (LX10_s hL) (LX10_r6 hL) ?_
          refine r_getr hX dX10_claim_55 fl_X10_141 rfl (LX8_s (LX10_o6 hL)) (LX8_r7 (LX10_o6 hL)) ?_
          refine r_aload_n hX dX10_claim_58 rfl ?_
          refine r_getr hX dX10_claim_59 fl_X10_224 rfl (LX2_s (LX8_o5 (LX10_o6 hL))) (LX2_r5 (LX8_o5 (LX10_o6 hL))) ?_
          refine r_iload_n hX dX10_claim_62 rfl ?_
          refine rn_iald hX dX10_claim_63 (LX2_a5 (LX8_o5 (LX10_o6 hL))) rfl (by omega) (by omega) ?_
          rw [show mI M (a + 34 + 2 + 5) l = nI w' from (hRS.2.2.1.2.2 l hl 4 (by omega)).trans g5]
          refine r_cV1 hX dX10_claim_64 IX4_hourOfLost ml_X10_267 rfl (LX4_s (LX8_o7 (LX10_o6 hL))) rfl (t_X4_hourOfLost (LX8_o7 (LX10_o6 hL)) hkc hb3 hw3) (by decide) (by decide) (by decide) (by decide) rfl (Nat.le_of_ble_eq_true rfl) ?_
          rw [(hRS.2.2.2.2.2.2 w' hw3).2]
          refine r_isub hX dX10_claim_67 ?_
          refine r_bipush (v := 72) hX dX10_claim_68 (by decide) ?_
          refine r_icmp_ge (tgt := 81) hX dX10_claim_70 (by decide) (fun c70 => ?_) (fun c70 => ?_)
          · refine r_aload_n hX dX10_claim_81 rfl ?_
            refine r_getr hX dX10_claim_82 fl_X10_47 rfl (LX10_s hL) (LX10_r7 hL) ?_
            refine r_aload_n hX dX10_claim_85 rfl ?_
            refine r_getr hX dX10_claim_86 fl_X10_40 rfl (LX10_s hL) (LX10_r6 hL) ?_
            refine r_iV1 hX dX10_claim_89 IX0_keep ml_X10_273 rfl (LX0_s (LX10_o7 hL)) rfl (t_X0_keep (M := M) (LX10_o7 hL) (LX10_o6 hL) (by omega) hRS (σ := σ) rfl hHR) (by decide) (by decide) (by decide) (by decide) rfl (Nat.le_of_ble_eq_true rfl) (fun i1 h1 => ?_)
            show J G base X _ _ (wI M i1) _ _ _
            have hC1 : CI i1 a (keepS σ) := hC.keep h1.1 h1.2.1 h1.2.2
            have ho1 : outB i1 (mI M) a 208 := fun y hy k => h1.2.2 y (by omega) k
            refine r_aload_n hX dX10_claim_92 rfl ?_
            refine r_getr hX dX10_claim_93 fl_X10_239 rfl (LX2_s (LX8_o5 (LX10_o6 hL))) (LX2_r9 (LX8_o5 (LX10_o6 hL))) ?_
            refine r_iload_n hX dX10_claim_96 rfl ?_
            refine r_iconst (v := 1) hX dX10_claim_97 (by decide) ?_
            refine rn_iast hX dX10_claim_98 (LX2_a9 (LX8_o5 (LX10_o6 hL))) rfl (by omega) (by omega) ?_
            refine r_aload_n hX dX10_claim_99 rfl ?_
            refine r_getr hX dX10_claim_100 fl_X10_221 rfl (LX2_s (LX8_o5 (LX10_o6 hL))) (LX2_r3 (LX8_o5 (LX10_o6 hL))) ?_
            refine r_iload_n hX dX10_claim_103 rfl ?_
            refine rn_iald hX dX10_claim_104 (LX2_a3 (LX8_o5 (LX10_o6 hL))) rfl (by omega) (by omega) ?_
            rw [show mI (uI (wI M i1) (a + 34 + 2 + 9) l 1) (a + 34 + 2 + 3) l = σ.1 (498 + 10 * l + 2) from (congrFun (uIo (by omega)) l).trans (h1.2.1.2.2.1.2.2 l hl 2 (by omega))]
            refine r_ireturn hX rfl rfl dX10_claim_105 (by decide) (by decide) ?_
            have hcnd : σ.1 (498 + 10 * l + 3) = 3 ∧ ¬ σ.1 (498 + 10 * l + 2) = 0 ∧ σ.1 (498 + 10 * l + 8) = 0 ∧ 72 ≤ σ.1 6 - σ.1 (798 + 2 * nv σ.1 (498 + 10 * l + 4) + 1) := ⟨c41, c22, c31, by rw [ew]; exact c70⟩
            refine rC.y (i := mI (uI (wI M i1) (a + 34 + 2 + (8 + 1)) l 1)) ?_ ?_ (fun y hy q => (congrFun (uIo (by omega)) q).trans (ho1 y hy q))
            · unfold rs_claim
              rw [ix_of hl (by omega)]
              dsimp only
              rw [if_pos hcnd]
            · unfold sg_claim
              rw [ix_of hl (by omega)]
              dsimp only
              rw [if_pos hcnd]
              exact hC1.row (capTT hC1.2.2.2.1 hT (Or.inr (by omega))) (RS.lf (M := wI M i1) h1.2.1 (l := l) (f := 8) (v := 1) (by omega) (by omega)) (fun y h1 h2 q => congrFun (uIo (by omega)) q)
          · refine r_throw hX thI3 dX10_claim_73 dX10_claim_76 dX10_claim_77 dX10_claim_80 (by decide) (by decide) (by decide) rfl ?_ (Nat.le_of_ble_eq_true rfl)
            have hno : ¬ (σ.1 (498 + 10 * l + 3) = 3 ∧ ¬ σ.1 (498 + 10 * l + 2) = 0 ∧ σ.1 (498 + 10 * l + 8) = 0 ∧ 72 ≤ σ.1 6 - σ.1 (798 + 2 * nv σ.1 (498 + 10 * l + 4) + 1)) := fun z => by rw [ew] at z; exact c70 z.2.2.2
            exact rC.n0 (k := 2) (by unfold rs_claim; rw [ix_of hl (by omega)]; dsimp only; rw [if_neg hno]) rfl (by unfold sg_claim; rw [ix_of hl (by omega)]; dsimp only; rw [if_neg hno]; exact hC)
  · refine Ct.of IX10_claim.1 (by simp [Value.category]) (Nat.le_of_ble_eq_true rfl) (fun X hX hN => ?_)
    show J G base X 0 0 M 0 [some (.ref a), some (.int x), none] []
    refine r_aload_n hX dX10_claim_0 rfl ?_
    refine r_getr hX dX10_claim_1 fl_X10_40 rfl (LX10_s hL) (LX10_r6 hL) ?_
    refine r_getr hX dX10_claim_4 fl_X10_107 rfl (LX8_s (LX10_o6 hL)) (LX8_r5 (LX10_o6 hL)) ?_
    refine r_astore2 hX dX10_claim_7 rfl ?_
    refine r_iload_n hX dX10_claim_8 rfl ?_
    refine r_aload_n hX dX10_claim_9 rfl ?_
    refine rn_geti (v := nI (nv σ.1 2)) hX dX10_claim_10 fl_X10_111 rfl (LX2_s (LX8_o5 (LX10_o6 hL))) hlc ?_
    refine r_tS2 hX dX10_claim_13 IX10_needIndex ml_X10_169 rfl (t_ni0 hx (by omega)) (by decide) (by decide) (by decide) (by decide) rfl (Nat.le_of_ble_eq_true rfl) ?_
    exact rC.n0 (k := 1) (by unfold rs_claim; rw [ix_no hx]) rfl (by unfold sg_claim; rw [ix_no hx]; exact hC)

