variable {G : GG} {base : Nat}
theorem rp_eq {x g : Nat} : (if g + 1 ≤ x then x - 1 - g else x + 59 - g) = rp x g := rfl
set_option maxHeartbeats 2000000 in
set_option maxRecDepth 20000 in
theorem t_c_receipt {M : Mm} {a : Nat} {σ : Sg} {T : Nat} (hL : LX10 M.1 M.2.1 a) (hC : CI (mI M) a σ) (hO : OkN T σ.1) (hT9 : T < 890000) {x y : Int32} : Ct G base YX10_receipt 20 1 6 [.ref a, .int x, .int y] M (rC M a 2 4 (rs_receipt σ x y) σ) := by
  obtain ⟨hT, hS, hLt, h4, h5, h6, hLo, hSt, hNa⟩ := hO
  have h0 := hT.1
  have h1 := hT.2.1
  have hr := hT.2.2
  have h2 := hLt.1
  have h3 := hLt.2.1
  have hb0 := h0.2
  have hb1 := h1.2
  have hb2 := h2.2
  have hb3 := h3.2
  have hb4 := h4.2
  have ht6 : σ.1 6 = nI (nv σ.1 6) := h6.1
  have hh6 : nv σ.1 6 ≤ T := h6.2
  have hTT : TT (mI M) (a + 28) σ.1 := hC.2.2.2.1
  have hRS : RS (mI M) (a + 34) σ.1 := hC.2.2.2.2.1
  have hHR : HR (mI M) (a + 52) σ.2.1 σ.2.2.1 := hC.2.2.2.2.2.1
  have hpc : mI M (a + 28) 0 = nI (nv σ.1 0) := hTT.1.trans h0.1
  have hcc : mI M (a + 28) 2 = nI (nv σ.1 1) := hTT.2.2.1.trans h1.1
  have hlc : mI M (a + 34 + 2) 0 = nI (nv σ.1 2) := hRS.2.2.1.1.trans h2.1
  have hkc : mI M (a + 34 + 15) 0 = nI (nv σ.1 3) := hRS.2.2.2.2.1.trans h3.1
  have hrc : mI M (a + 34 + 13) 0 = nI (nv σ.1 4) := hRS.2.2.2.1.1.trans h4.1
  have htm : mI M (a + 34) 0 = nI (nv σ.1 6) := hRS.1.1.trans ht6
  by_cases hw : ∃ w, w < 5 ∧ y = nI w
  · obtain ⟨w, hw, rfl⟩ := hw
    by_cases hx : ∃ g, g < nv σ.1 4 ∧ x = nI g
    · obtain ⟨g, hg, rfl⟩ := hx
      obtain ⟨xr, hxr, hxr1, hrg⟩ := hRS.ring
      refine Ct.of IX10_receipt.1 (by simp [Value.category]) (Nat.le_of_ble_eq_true rfl) (fun X hX hN => ?_)
      show J G base X 0 0 M 0 [some (.ref a), some (.int (nI g)), some (.int (nI w))] []
      refine r_iload_n hX dX10_receipt_0 rfl ?_
      refine rn_if_lt (tgt := 9) hX dX10_receipt_1 (by decide) rfl (by omega) ?_
      refine r_iload_n hX dX10_receipt_4 rfl ?_
      refine r_iconst (v := nI 5) hX dX10_receipt_5 (by decide) ?_
      refine rn_icmp_lt (tgt := 17) hX dX10_receipt_6 (by decide) rfl rfl (by omega) (by omega) (fun c6 => ?_) (fun c6 => absurd hw (by omega))
      refine r_aload_n hX dX10_receipt_17 rfl ?_
      refine r_getr hX dX10_receipt_18 fl_X10_40 rfl (LX10_s hL) (LX10_r6 hL) ?_
      refine r_getr hX dX10_receipt_21 fl_X10_148 rfl (LX8_s (LX10_o6 hL)) (LX8_r6 (LX10_o6 hL)) ?_
      refine r_iload_n hX dX10_receipt_24 rfl ?_
      refine r_iload_n hX dX10_receipt_25 rfl ?_
      refine r_cV2 hX dX10_receipt_26 IX6_part ml_X10_264 rfl (LX6_s (LX8_o6 (LX10_o6 hL))) rfl (t_X6_part (LX8_o6 (LX10_o6 hL)) hxr1 hxr hrc hb4 hg hw) (by decide) (by decide) (by decide) (by decide) rfl (Nat.le_of_ble_eq_true rfl) ?_
      rw [rp_eq, hrg g hg w hw]
      refine r_ireturn hX rfl rfl dX10_receipt_29 (by decide) (by decide) ?_
      exact rC.y0 (by unfold rs_receipt; rw [ix_of hw (by omega)]; dsimp only; rw [ix_of hg (by omega)]) hC
    · refine Ct.of IX10_receipt.1 (by simp [Value.category]) (Nat.le_of_ble_eq_true rfl) (fun X hX hN => ?_)
      show J G base X 0 0 M 0 [some (.ref a), some (.int x), some (.int (nI w))] []
      refine r_iload_n hX dX10_receipt_0 rfl ?_
      refine rn_if_lt (tgt := 9) hX dX10_receipt_1 (by decide) rfl (by omega) ?_
      refine r_iload_n hX dX10_receipt_4 rfl ?_
      refine r_iconst (v := nI 5) hX dX10_receipt_5 (by decide) ?_
      refine rn_icmp_lt (tgt := 17) hX dX10_receipt_6 (by decide) rfl rfl (by omega) (by omega) (fun c6 => ?_) (fun c6 => absurd hw (by omega))
      refine r_aload_n hX dX10_receipt_17 rfl ?_
      refine r_getr hX dX10_receipt_18 fl_X10_40 rfl (LX10_s hL) (LX10_r6 hL) ?_
      refine r_getr hX dX10_receipt_21 fl_X10_148 rfl (LX8_s (LX10_o6 hL)) (LX8_r6 (LX10_o6 hL)) ?_
      refine r_iload_n hX dX10_receipt_24 rfl ?_
      refine r_iload_n hX dX10_receipt_25 rfl ?_
      refine r_cV2 hX dX10_receipt_26 IX6_part ml_X10_264 rfl (LX6_s (LX8_o6 (LX10_o6 hL))) rfl (t_X6_part0 (LX8_o6 (LX10_o6 hL)) hrc hb4 hx hw) (by decide) (by decide) (by decide) (by decide) rfl (Nat.le_of_ble_eq_true rfl) ?_
      refine r_ireturn hX rfl rfl dX10_receipt_29 (by decide) (by decide) ?_
      exact rC.y0 (by unfold rs_receipt; rw [ix_of hw (by omega)]; dsimp only; rw [ix_no hx]) hC
  · refine Ct.of IX10_receipt.1 (by simp [Value.category]) (Nat.le_of_ble_eq_true rfl) (fun X hX hN => ?_)
    show J G base X 0 0 M 0 [some (.ref a), some (.int x), some (.int y)] []
    refine r_iload_n hX dX10_receipt_0 rfl ?_
    refine r_if_lt (tgt := 9) hX dX10_receipt_1 (by decide) (fun c1 => ?_) (fun c1 => ?_)
    · refine r_throw hX thI1 dX10_receipt_9 dX10_receipt_12 dX10_receipt_13 dX10_receipt_16 (by decide) (by decide) (by decide) rfl ?_ (Nat.le_of_ble_eq_true rfl)
      exact rC.n0 (k := 1) (by unfold rs_receipt; rw [ix_no hw]) rfl hC
    · refine r_iload_n hX dX10_receipt_4 rfl ?_
      refine r_iconst (v := 5) hX dX10_receipt_5 (by decide) ?_
      refine r_icmp_lt (tgt := 17) hX dX10_receipt_6 (by decide) (fun c6 => by obtain ⟨q, hq, e⟩ := nI_of (x := y) c1; subst e; rw [show (5 : Int32) = nI 5 from rfl, nI_ltI hq (by omega)] at c6; exact absurd ⟨q, c6, rfl⟩ hw) (fun c6 => ?_)
      refine r_throw hX thI1 dX10_receipt_9 dX10_receipt_12 dX10_receipt_13 dX10_receipt_16 (by decide) (by decide) (by decide) rfl ?_ (Nat.le_of_ble_eq_true rfl)
      exact rC.n0 (k := 1) (by unfold rs_receipt; rw [ix_no hw]) rfl hC

set_option maxHeartbeats 2000000 in
set_option maxRecDepth 20000 in
theorem t_c_lastReceipt {M : Mm} {a : Nat} {σ : Sg} {T : Nat} (hL : LX10 M.1 M.2.1 a) (hC : CI (mI M) a σ) (hO : OkN T σ.1) (hT9 : T < 890000) {x : Int32} : Ct G base YX10_lastReceipt 20 1 6 [.ref a, .int x] M (rC M a 1 4 (rs_lastReceipt σ x) σ) := by
  obtain ⟨hT, hS, hLt, h4, h5, h6, hLo, hSt, hNa⟩ := hO
  have h0 := hT.1
  have h1 := hT.2.1
  have hr := hT.2.2
  have h2 := hLt.1
  have h3 := hLt.2.1
  have hb0 := h0.2
  have hb1 := h1.2
  have hb2 := h2.2
  have hb3 := h3.2
  have hb4 := h4.2
  have ht6 : σ.1 6 = nI (nv σ.1 6) := h6.1
  have hh6 : nv σ.1 6 ≤ T := h6.2
  have hTT : TT (mI M) (a + 28) σ.1 := hC.2.2.2.1
  have hRS : RS (mI M) (a + 34) σ.1 := hC.2.2.2.2.1
  have hHR : HR (mI M) (a + 52) σ.2.1 σ.2.2.1 := hC.2.2.2.2.2.1
  have hpc : mI M (a + 28) 0 = nI (nv σ.1 0) := hTT.1.trans h0.1
  have hcc : mI M (a + 28) 2 = nI (nv σ.1 1) := hTT.2.2.1.trans h1.1
  have hlc : mI M (a + 34 + 2) 0 = nI (nv σ.1 2) := hRS.2.2.1.1.trans h2.1
  have hkc : mI M (a + 34 + 15) 0 = nI (nv σ.1 3) := hRS.2.2.2.2.1.trans h3.1
  have hrc : mI M (a + 34 + 13) 0 = nI (nv σ.1 4) := hRS.2.2.2.1.1.trans h4.1
  have htm : mI M (a + 34) 0 = nI (nv σ.1 6) := hRS.1.1.trans ht6
  by_cases hx : ∃ c, c < nv σ.1 2 ∧ x = nI c
  · obtain ⟨l, hl, rfl⟩ := hx
    obtain ⟨xr, hxr, hxr1, hrg⟩ := hRS.ring
    refine Ct.of IX10_lastReceipt.1 (by simp [Value.category]) (Nat.le_of_ble_eq_true rfl) (fun X hX hN => ?_)
    show J G base X 0 0 M 0 [some (.ref a), some (.int (nI l)), none] []
    refine r_iload_n hX dX10_lastReceipt_0 rfl ?_
    refine r_aload_n hX dX10_lastReceipt_1 rfl ?_
    refine r_getr hX dX10_lastReceipt_2 fl_X10_40 rfl (LX10_s hL) (LX10_r6 hL) ?_
    refine r_getr hX dX10_lastReceipt_5 fl_X10_107 rfl (LX8_s (LX10_o6 hL)) (LX8_r5 (LX10_o6 hL)) ?_
    refine rn_geti (v := nI (nv σ.1 2)) hX dX10_lastReceipt_8 fl_X10_111 rfl (LX2_s (LX8_o5 (LX10_o6 hL))) hlc ?_
    refine r_cS2 hX dX10_lastReceipt_11 IX10_needIndex ml_X10_169 rfl (t_ni1 hl (by omega)) (by decide) (by decide) (by decide) (by decide) rfl (Nat.le_of_ble_eq_true rfl) ?_
    refine r_iconst (v := nI 0) hX dX10_lastReceipt_14 (by decide) ?_
    refine r_istore2 hX dX10_lastReceipt_15 rfl ?_
    refine loop_up (P := fun j => fstF (fun g => decide (σ.1 (858 + 5 * g + 1) = nI l)) j = -1 → J G base X 0 0 M 16 [some (.ref a), some (.int (nI l)), some (.int (nI j))] []) (nv σ.1 4) (fun j hj ih hno => ?_) 0 (Nat.zero_le _) rfl
    refine r_iload_n hX dX10_lastReceipt_16 rfl ?_
    refine r_aload_n hX dX10_lastReceipt_17 rfl ?_
    refine r_getr hX dX10_lastReceipt_18 fl_X10_40 rfl (LX10_s hL) (LX10_r6 hL) ?_
    refine r_getr hX dX10_lastReceipt_21 fl_X10_148 rfl (LX8_s (LX10_o6 hL)) (LX8_r6 (LX10_o6 hL)) ?_
    refine rn_geti (v := nI (nv σ.1 4)) hX dX10_lastReceipt_24 fl_X10_152 rfl (LX6_s (LX8_o6 (LX10_o6 hL))) hrc ?_
    refine rn_icmp_ge (tgt := 54) hX dX10_lastReceipt_27 (by decide) rfl rfl (by omega) (by omega) (fun c27 => ?_) (fun c27 => ?_)
    · refine r_iconst (v := (-1)) hX dX10_lastReceipt_54 (by decide) ?_
      refine r_ireturn hX rfl rfl dX10_lastReceipt_55 (by decide) (by decide) ?_
      obtain rfl : j = nv σ.1 4 := by omega
      exact rC.y0 (by unfold rs_lastReceipt; rw [ix_of hl (by omega)]; dsimp only; rw [hno]) hC
    · refine r_aload_n hX dX10_lastReceipt_30 rfl ?_
      refine r_getr hX dX10_lastReceipt_31 fl_X10_40 rfl (LX10_s hL) (LX10_r6 hL) ?_
      refine r_getr hX dX10_lastReceipt_34 fl_X10_148 rfl (LX8_s (LX10_o6 hL)) (LX8_r6 (LX10_o6 hL)) ?_
      refine r_iload_n hX dX10_lastReceipt_37 rfl ?_
      refine r_iconst (v := nI 1) hX dX10_lastReceipt_38 (by decide) ?_
      refine r_cV2 hX dX10_lastReceipt_39 IX6_part ml_X10_264 rfl (LX6_s (LX8_o6 (LX10_o6 hL))) rfl (t_X6_part (LX8_o6 (LX10_o6 hL)) hxr1 hxr hrc hb4 (g := j) (w := 1) (by omega) (by omega)) (by decide) (by decide) (by decide) (by decide) rfl (Nat.le_of_ble_eq_true rfl) ?_
      rw [rp_eq, hrg j (by omega) 1 (by omega)]
      refine r_iload_n hX dX10_lastReceipt_42 rfl ?_
      refine r_icmp_ne (tgt := 48) hX dX10_lastReceipt_43 (by decide) (fun c43 => ?_) (fun c43 => ?_)
      · refine rn_iinc2 hX dX10_lastReceipt_48 rfl rfl ?_
        refine r_goto (tgt := 16) hX dX10_lastReceipt_51 (by decide) ?_
        exact ih (by omega) (fstF_no hno (by simp only [decide_eq_true_eq]; exact c43))
      · refine r_iload_n hX dX10_lastReceipt_46 rfl ?_
        refine r_ireturn hX rfl rfl dX10_lastReceipt_47 (by decide) (by decide) ?_
        exact rC.y0 (by unfold rs_lastReceipt; rw [ix_of hl (by omega)]; dsimp only; rw [fstF_stay (by omega) hno (by simp only [decide_eq_true_eq]; exact c43) (by omega)]) hC
  · refine Ct.of IX10_lastReceipt.1 (by simp [Value.category]) (Nat.le_of_ble_eq_true rfl) (fun X hX hN => ?_)
    show J G base X 0 0 M 0 [some (.ref a), some (.int x), none] []
    refine r_iload_n hX dX10_lastReceipt_0 rfl ?_
    refine r_aload_n hX dX10_lastReceipt_1 rfl ?_
    refine r_getr hX dX10_lastReceipt_2 fl_X10_40 rfl (LX10_s hL) (LX10_r6 hL) ?_
    refine r_getr hX dX10_lastReceipt_5 fl_X10_107 rfl (LX8_s (LX10_o6 hL)) (LX8_r5 (LX10_o6 hL)) ?_
    refine rn_geti (v := nI (nv σ.1 2)) hX dX10_lastReceipt_8 fl_X10_111 rfl (LX2_s (LX8_o5 (LX10_o6 hL))) hlc ?_
    refine r_tS2 hX dX10_lastReceipt_11 IX10_needIndex ml_X10_169 rfl (t_ni0 hx (by omega)) (by decide) (by decide) (by decide) (by decide) rfl (Nat.le_of_ble_eq_true rfl) ?_
    exact rC.n0 (k := 1) (by unfold rs_lastReceipt; rw [ix_no hx]) rfl hC

theorem tab_no {x : Int32} {m : Nat} (h : ¬ ∃ c, c < m + 1 ∧ x = nI c) (hm : m < 1000) : x.toInt < 0 ∨ (m : Int) < x.toInt := by
  by_cases h0 : x < 0
  · left
    have := i_ltI.mp h0
    simpa using this
  · right
    obtain ⟨k, hk, rfl⟩ := nI_of h0
    rw [nI_toInt hk]
    have : ¬ k < m + 1 := fun z => h ⟨k, z, rfl⟩
    omega
set_option maxHeartbeats 2000000 in
set_option maxRecDepth 20000 in
theorem t_c_lostSack {M : Mm} {a : Nat} {σ : Sg} {T : Nat} (hL : LX10 M.1 M.2.1 a) (hC : CI (mI M) a σ) (hO : OkN T σ.1) (hT9 : T < 890000) {x y : Int32} : Ct G base YX10_lostSack 20 1 6 [.ref a, .int x, .int y] M (rC M a 1 2 (rs_lostSack σ x y) σ) := by
  obtain ⟨hT, hS, hLt, h4, h5, h6, hLo, hSt, hNa⟩ := hO
  have h0 := hT.1
  have h1 := hT.2.1
  have hr := hT.2.2
  have h2 := hLt.1
  have h3 := hLt.2.1
  have hb0 := h0.2
  have hb1 := h1.2
  have hb2 := h2.2
  have hb3 := h3.2
  have hb4 := h4.2
  have ht6 : σ.1 6 = nI (nv σ.1 6) := h6.1
  have hh6 : nv σ.1 6 ≤ T := h6.2
  have hTT : TT (mI M) (a + 28) σ.1 := hC.2.2.2.1
  have hRS : RS (mI M) (a + 34) σ.1 := hC.2.2.2.2.1
  have hHR : HR (mI M) (a + 52) σ.2.1 σ.2.2.1 := hC.2.2.2.2.2.1
  have hpc : mI M (a + 28) 0 = nI (nv σ.1 0) := hTT.1.trans h0.1
  have hcc : mI M (a + 28) 2 = nI (nv σ.1 1) := hTT.2.2.1.trans h1.1
  have hlc : mI M (a + 34 + 2) 0 = nI (nv σ.1 2) := hRS.2.2.1.1.trans h2.1
  have hkc : mI M (a + 34 + 15) 0 = nI (nv σ.1 3) := hRS.2.2.2.2.1.trans h3.1
  have hrc : mI M (a + 34 + 13) 0 = nI (nv σ.1 4) := hRS.2.2.2.1.1.trans h4.1
  have htm : mI M (a + 34) 0 = nI (nv σ.1 6) := hRS.1.1.trans ht6
  by_cases hx : ∃ c, c < nv σ.1 3 ∧ x = nI c
  · obtain ⟨k, hk, rfl⟩ := hx
    by_cases hw : ∃ w, w < 4 ∧ y = nI w
    · obtain ⟨w, hw, rfl⟩ := hw
      rcases (show w = 0 ∨ w = 1 ∨ w = 2 ∨ w = 3 by omega) with rfl | rfl | rfl | rfl
      · refine Ct.of IX10_lostSack.1 (by simp [Value.category]) (Nat.le_of_ble_eq_true rfl) (fun X hX hN => ?_)
        show J G base X 0 0 M 0 [some (.ref a), some (.int (nI k)), some (.int (nI 0))] []
        refine r_iload_n hX dX10_lostSack_0 rfl ?_
        refine r_aload_n hX dX10_lostSack_1 rfl ?_
        refine r_getr hX dX10_lostSack_2 fl_X10_40 rfl (LX10_s hL) (LX10_r6 hL) ?_
        refine r_getr hX dX10_lostSack_5 fl_X10_141 rfl (LX8_s (LX10_o6 hL)) (LX8_r7 (LX10_o6 hL)) ?_
        refine rn_geti (v := nI (nv σ.1 3)) hX dX10_lostSack_8 fl_X10_145 rfl (LX4_s (LX8_o7 (LX10_o6 hL))) hkc ?_
        refine r_cS2 hX dX10_lostSack_11 IX10_needIndex ml_X10_169 rfl (t_ni1 hk (by omega)) (by decide) (by decide) (by decide) (by decide) rfl (Nat.le_of_ble_eq_true rfl) ?_
        refine r_iload_n hX dX10_lostSack_14 rfl ?_
        refine r_tabIn (off := 29) (tgt := 44) hX dX10_lostSack_15 (by decide) (by decide) (by decide) (by decide) ?_
        refine r_aload_n hX dX10_lostSack_44 rfl ?_
        refine r_getr hX dX10_lostSack_45 fl_X10_40 rfl (LX10_s hL) (LX10_r6 hL) ?_
        refine r_getr hX dX10_lostSack_48 fl_X10_141 rfl (LX8_s (LX10_o6 hL)) (LX8_r7 (LX10_o6 hL)) ?_
        refine r_iload_n hX dX10_lostSack_51 rfl ?_
        refine r_cV1 hX dX10_lostSack_52 IX4_carrierOfLost ml_X10_227 rfl (LX4_s (LX8_o7 (LX10_o6 hL))) rfl (t_X4_carrierOfLost (LX8_o7 (LX10_o6 hL)) hkc hb3 hk) (by decide) (by decide) (by decide) (by decide) rfl (Nat.le_of_ble_eq_true rfl) ?_
        rw [(hRS.2.2.2.2.2.2 k hk).1]
        refine r_ireturn hX rfl rfl dX10_lostSack_55 (by decide) (by decide) ?_
        exact rC.y0 (by unfold rs_lostSack; rw [ix_of hk (by omega)]; dsimp only; rw [ix_of (c := 0) (by omega) (by omega)]; rfl) hC
      · refine Ct.of IX10_lostSack.1 (by simp [Value.category]) (Nat.le_of_ble_eq_true rfl) (fun X hX hN => ?_)
        show J G base X 0 0 M 0 [some (.ref a), some (.int (nI k)), some (.int (nI 1))] []
        refine r_iload_n hX dX10_lostSack_0 rfl ?_
        refine r_aload_n hX dX10_lostSack_1 rfl ?_
        refine r_getr hX dX10_lostSack_2 fl_X10_40 rfl (LX10_s hL) (LX10_r6 hL) ?_
        refine r_getr hX dX10_lostSack_5 fl_X10_141 rfl (LX8_s (LX10_o6 hL)) (LX8_r7 (LX10_o6 hL)) ?_
        refine rn_geti (v := nI (nv σ.1 3)) hX dX10_lostSack_8 fl_X10_145 rfl (LX4_s (LX8_o7 (LX10_o6 hL))) hkc ?_
        refine r_cS2 hX dX10_lostSack_11 IX10_needIndex ml_X10_169 rfl (t_ni1 hk (by omega)) (by decide) (by decide) (by decide) (by decide) rfl (Nat.le_of_ble_eq_true rfl) ?_
        refine r_iload_n hX dX10_lostSack_14 rfl ?_
        refine r_tabIn (off := 41) (tgt := 56) hX dX10_lostSack_15 (by decide) (by decide) (by decide) (by decide) ?_
        refine r_aload_n hX dX10_lostSack_56 rfl ?_
        refine r_getr hX dX10_lostSack_57 fl_X10_40 rfl (LX10_s hL) (LX10_r6 hL) ?_
        refine r_getr hX dX10_lostSack_60 fl_X10_141 rfl (LX8_s (LX10_o6 hL)) (LX8_r7 (LX10_o6 hL)) ?_
        refine r_iload_n hX dX10_lostSack_63 rfl ?_
        refine r_cV1 hX dX10_lostSack_64 IX4_hourOfLost ml_X10_267 rfl (LX4_s (LX8_o7 (LX10_o6 hL))) rfl (t_X4_hourOfLost (LX8_o7 (LX10_o6 hL)) hkc hb3 hk) (by decide) (by decide) (by decide) (by decide) rfl (Nat.le_of_ble_eq_true rfl) ?_
        rw [(hRS.2.2.2.2.2.2 k hk).2]
        refine r_ireturn hX rfl rfl dX10_lostSack_67 (by decide) (by decide) ?_
        exact rC.y0 (by unfold rs_lostSack; rw [ix_of hk (by omega)]; dsimp only; rw [ix_of (c := 1) (by omega) (by omega)]; rfl) hC
      · refine Ct.of IX10_lostSack.1 (by simp [Value.category]) (Nat.le_of_ble_eq_true rfl) (fun X hX hN => ?_)
        show J G base X 0 0 M 0 [some (.ref a), some (.int (nI k)), some (.int (nI 2))] []
        refine r_iload_n hX dX10_lostSack_0 rfl ?_
        refine r_aload_n hX dX10_lostSack_1 rfl ?_
        refine r_getr hX dX10_lostSack_2 fl_X10_40 rfl (LX10_s hL) (LX10_r6 hL) ?_
        refine r_getr hX dX10_lostSack_5 fl_X10_141 rfl (LX8_s (LX10_o6 hL)) (LX8_r7 (LX10_o6 hL)) ?_
        refine rn_geti (v := nI (nv σ.1 3)) hX dX10_lostSack_8 fl_X10_145 rfl (LX4_s (LX8_o7 (LX10_o6 hL))) hkc ?_
        refine r_cS2 hX dX10_lostSack_11 IX10_needIndex ml_X10_169 rfl (t_ni1 hk (by omega)) (by decide) (by decide) (by decide) (by decide) rfl (Nat.le_of_ble_eq_true rfl) ?_
        refine r_iload_n hX dX10_lostSack_14 rfl ?_
        refine r_tabIn (off := 53) (tgt := 68) hX dX10_lostSack_15 (by decide) (by decide) (by decide) (by decide) ?_
        refine r_aload_n hX dX10_lostSack_68 rfl ?_
        refine r_getr hX dX10_lostSack_69 fl_X10_40 rfl (LX10_s hL) (LX10_r6 hL) ?_
        refine r_getr hX dX10_lostSack_72 fl_X10_107 rfl (LX8_s (LX10_o6 hL)) (LX8_r5 (LX10_o6 hL)) ?_
        refine r_iconst (v := 3) hX dX10_lostSack_75 (by decide) ?_
        refine r_iload_n hX dX10_lostSack_76 rfl ?_
        refine r_cV2 hX dX10_lostSack_77 IX2_countIn ml_X10_203 rfl (LX2_s (LX8_o5 (LX10_o6 hL))) rfl (t_X2_countIn (LX8_o5 (LX10_o6 hL)) hlc (by omega)) (by decide) (by decide) (by decide) (by decide) rfl (Nat.le_of_ble_eq_true rfl) ?_
        rw [show cntK (mI M (a + 34 + 2 + 4)) (mI M (a + 34 + 2 + 5)) 3 (nI k) (nv σ.1 2) = cntK (lK σ.1) (lW σ.1) 3 (nI k) (nv σ.1 2) from cntK_congr fun l hl => ⟨hRS.2.2.1.2.2 l hl 3 (by omega), hRS.2.2.1.2.2 l hl 4 (by omega)⟩]
        refine r_ireturn hX rfl rfl dX10_lostSack_80 (by decide) (by decide) ?_
        exact rC.y0 (by unfold rs_lostSack; rw [ix_of hk (by omega)]; dsimp only; rw [ix_of (c := 2) (by omega) (by omega)]; rfl) hC
      · refine Ct.of IX10_lostSack.1 (by simp [Value.category]) (Nat.le_of_ble_eq_true rfl) (fun X hX hN => ?_)
        show J G base X 0 0 M 0 [some (.ref a), some (.int (nI k)), some (.int (nI 3))] []
        refine r_iload_n hX dX10_lostSack_0 rfl ?_
        refine r_aload_n hX dX10_lostSack_1 rfl ?_
        refine r_getr hX dX10_lostSack_2 fl_X10_40 rfl (LX10_s hL) (LX10_r6 hL) ?_
        refine r_getr hX dX10_lostSack_5 fl_X10_141 rfl (LX8_s (LX10_o6 hL)) (LX8_r7 (LX10_o6 hL)) ?_
        refine rn_geti (v := nI (nv σ.1 3)) hX dX10_lostSack_8 fl_X10_145 rfl (LX4_s (LX8_o7 (LX10_o6 hL))) hkc ?_
        refine r_cS2 hX dX10_lostSack_11 IX10_needIndex ml_X10_169 rfl (t_ni1 hk (by omega)) (by decide) (by decide) (by decide) (by decide) rfl (Nat.le_of_ble_eq_true rfl) ?_
        refine r_iload_n hX dX10_lostSack_14 rfl ?_
        refine r_tabIn (off := 66) (tgt := 81) hX dX10_lostSack_15 (by decide) (by decide) (by decide) (by decide) ?_
        refine r_aload_n hX dX10_lostSack_81 rfl ?_
        refine r_getr hX dX10_lostSack_82 fl_X10_40 rfl (LX10_s hL) (LX10_r6 hL) ?_
        refine r_getr hX dX10_lostSack_85 fl_X10_107 rfl (LX8_s (LX10_o6 hL)) (LX8_r5 (LX10_o6 hL)) ?_
        refine r_iconst (v := 3) hX dX10_lostSack_88 (by decide) ?_
        refine r_iload_n hX dX10_lostSack_89 rfl ?_
        refine r_cV2 hX dX10_lostSack_90 IX2_valueIn ml_X10_210 rfl (LX2_s (LX8_o5 (LX10_o6 hL))) rfl (t_X2_valueIn (LX8_o5 (LX10_o6 hL)) hlc (by omega)) (by decide) (by decide) (by decide) (by decide) rfl (Nat.le_of_ble_eq_true rfl) ?_
        rw [show sumK (mI M (a + 34 + 2 + 4)) (mI M (a + 34 + 2 + 5)) (mI M (a + 34 + 2 + 3)) 3 (nI k) (nv σ.1 2) = sumK (lK σ.1) (lW σ.1) (lV σ.1) 3 (nI k) (nv σ.1 2) from sumK_congr fun l hl => ⟨hRS.2.2.1.2.2 l hl 3 (by omega), hRS.2.2.1.2.2 l hl 4 (by omega), hRS.2.2.1.2.2 l hl 2 (by omega)⟩]
        refine r_ireturn hX rfl rfl dX10_lostSack_93 (by decide) (by decide) ?_
        exact rC.y0 (by unfold rs_lostSack; rw [ix_of hk (by omega)]; dsimp only; rw [ix_of (c := 3) (by omega) (by omega)]; rfl) hC
    · refine Ct.of IX10_lostSack.1 (by simp [Value.category]) (Nat.le_of_ble_eq_true rfl) (fun X hX hN => ?_)
      show J G base X 0 0 M 0 [some (.ref a), some (.int (nI k)), some (.int y)] []
      refine r_iload_n hX dX10_lostSack_0 rfl ?_
      refine r_aload_n hX dX10_lostSack_1 rfl ?_
      refine r_getr hX dX10_lostSack_2 fl_X10_40 rfl (LX10_s hL) (LX10_r6 hL) ?_
      refine r_getr hX dX10_lostSack_5 fl_X10_141 rfl (LX8_s (LX10_o6 hL)) (LX8_r7 (LX10_o6 hL)) ?_
      refine rn_geti (v := nI (nv σ.1 3)) hX dX10_lostSack_8 fl_X10_145 rfl (LX4_s (LX8_o7 (LX10_o6 hL))) hkc ?_
      refine r_cS2 hX dX10_lostSack_11 IX10_needIndex ml_X10_169 rfl (t_ni1 hk (by omega)) (by decide) (by decide) (by decide) (by decide) rfl (Nat.le_of_ble_eq_true rfl) ?_
      refine r_iload_n hX dX10_lostSack_14 rfl ?_
      refine r_tabOut (tgt := 94) hX dX10_lostSack_15 (tab_no (m := 3) hw (by omega)) (by decide) ?_
      refine r_throw hX thI1 dX10_lostSack_94 dX10_lostSack_97 dX10_lostSack_98 dX10_lostSack_101 (by decide) (by decide) (by decide) rfl ?_ (Nat.le_of_ble_eq_true rfl)
      exact rC.n0 (k := 2) (by unfold rs_lostSack; rw [ix_of hk (by omega)]; dsimp only; rw [ix_no hw]) rfl hC
  · refine Ct.of IX10_lostSack.1 (by simp [Value.category]) (Nat.le_of_ble_eq_true rfl) (fun X hX hN => ?_)
    show J G base X 0 0 M 0 [some (.ref a), some (.int x), some (.int y)] []
    refine r_iload_n hX dX10_lostSack_0 rfl ?_
    refine r_aload_n hX dX10_lostSack_1 rfl ?_
    refine r_getr hX dX10_lostSack_2 fl_X10_40 rfl (LX10_s hL) (LX10_r6 hL) ?_
    refine r_getr hX dX10_lostSack_5 fl_X10_141 rfl (LX8_s (LX10_o6 hL)) (LX8_r7 (LX10_o6 hL)) ?_
    refine rn_geti (v := nI (nv σ.1 3)) hX dX10_lostSack_8 fl_X10_145 rfl (LX4_s (LX8_o7 (LX10_o6 hL))) hkc ?_
    refine r_tS2 hX dX10_lostSack_11 IX10_needIndex ml_X10_169 rfl (t_ni0 hx (by omega)) (by decide) (by decide) (by decide) (by decide) rfl (Nat.le_of_ble_eq_true rfl) ?_
    exact rC.n0 (k := 1) (by unfold rs_lostSack; rw [ix_no hx]) rfl hC

set_option maxHeartbeats 2000000 in
set_option maxRecDepth 20000 in
theorem t_c_count {M : Mm} {a : Nat} {σ : Sg} {T : Nat} (hL : LX10 M.1 M.2.1 a) (hC : CI (mI M) a σ) (hO : OkN T σ.1) (hT9 : T < 890000) {x : Int32} : Ct G base YX10_count 20 1 6 [.ref a, .int x] M (rC M a 2 4 (rs_count σ x) σ) := by
  obtain ⟨hT, hS, hLt, h4, h5, h6, hLo, hSt, hNa⟩ := hO
  have h0 := hT.1
  have h1 := hT.2.1
  have hr := hT.2.2
  have h2 := hLt.1
  have h3 := hLt.2.1
  have hb0 := h0.2
  have hb1 := h1.2
  have hb2 := h2.2
  have hb3 := h3.2
  have hb4 := h4.2
  have ht6 : σ.1 6 = nI (nv σ.1 6) := h6.1
  have hh6 : nv σ.1 6 ≤ T := h6.2
  have hTT : TT (mI M) (a + 28) σ.1 := hC.2.2.2.1
  have hRS : RS (mI M) (a + 34) σ.1 := hC.2.2.2.2.1
  have hHR : HR (mI M) (a + 52) σ.2.1 σ.2.2.1 := hC.2.2.2.2.2.1
  have hpc : mI M (a + 28) 0 = nI (nv σ.1 0) := hTT.1.trans h0.1
  have hcc : mI M (a + 28) 2 = nI (nv σ.1 1) := hTT.2.2.1.trans h1.1
  have hlc : mI M (a + 34 + 2) 0 = nI (nv σ.1 2) := hRS.2.2.1.1.trans h2.1
  have hkc : mI M (a + 34 + 15) 0 = nI (nv σ.1 3) := hRS.2.2.2.2.1.trans h3.1
  have hrc : mI M (a + 34 + 13) 0 = nI (nv σ.1 4) := hRS.2.2.2.1.1.trans h4.1
  have htm : mI M (a + 34) 0 = nI (nv σ.1 6) := hRS.1.1.trans ht6
  by_cases hw : ∃ w, w < 9 ∧ x = nI w
  · obtain ⟨w, hw, rfl⟩ := hw
    rcases (show w = 0 ∨ w = 1 ∨ w = 2 ∨ w = 3 ∨ w = 4 ∨ w = 5 ∨ w = 6 ∨ w = 7 ∨ w = 8 by omega) with rfl | rfl | rfl | rfl | rfl | rfl | rfl | rfl | rfl
    · refine Ct.of IX10_count.1 (by simp [Value.category]) (Nat.le_of_ble_eq_true rfl) (fun X hX hN => ?_)
      show J G base X 0 0 M 0 [some (.ref a), some (.int (nI 0))] []
      refine r_iload_n hX dX10_count_0 rfl ?_
      refine r_tabIn (off := 51) (tgt := 52) hX dX10_count_1 (by decide) (by decide) (by decide) (by decide) ?_
      refine r_aload_n hX dX10_count_52 rfl ?_
      refine r_getr hX dX10_count_53 fl_X10_33 rfl (LX10_s hL) (LX10_r5 hL) ?_
      refine rn_geti (v := σ.1 0) hX dX10_count_56 fl_X10_104 rfl (LX9_s (LX10_o5 hL)) hTT.1 ?_
      refine r_ireturn hX rfl rfl dX10_count_59 (by decide) (by decide) ?_
      exact rC.y0 (by unfold rs_count; rw [ix_of (c := 0) (by omega) (by omega)]; rfl) hC
    · refine Ct.of IX10_count.1 (by simp [Value.category]) (Nat.le_of_ble_eq_true rfl) (fun X hX hN => ?_)
      show J G base X 0 0 M 0 [some (.ref a), some (.int (nI 1))] []
      refine r_iload_n hX dX10_count_0 rfl ?_
      refine r_tabIn (off := 59) (tgt := 60) hX dX10_count_1 (by decide) (by decide) (by decide) (by decide) ?_
      refine r_aload_n hX dX10_count_60 rfl ?_
      refine r_getr hX dX10_count_61 fl_X10_33 rfl (LX10_s hL) (LX10_r5 hL) ?_
      refine rn_geti (v := setB (town σ.1) 10) hX dX10_count_64 fl_X10_129 rfl (LX9_s (LX10_o5 hL)) hTT.2.1 ?_
      refine r_cS1 hX dX10_count_67 IJ6_bitCount_0f7a4 ml_X10_132 rfl (t_bitCount (M := M)) (by decide) (by decide) (by decide) (by decide) rfl (Nat.le_of_ble_eq_true rfl) ?_
      rw [bcI_10, cnt_town hb0]
      refine r_ireturn hX rfl rfl dX10_count_70 (by decide) (by decide) ?_
      exact rC.y0 (by unfold rs_count; rw [ix_of (c := 1) (by omega) (by omega)]; rfl) hC
    · refine Ct.of IX10_count.1 (by simp [Value.category]) (Nat.le_of_ble_eq_true rfl) (fun X hX hN => ?_)
      show J G base X 0 0 M 0 [some (.ref a), some (.int (nI 2))] []
      refine r_iload_n hX dX10_count_0 rfl ?_
      refine r_tabIn (off := 70) (tgt := 71) hX dX10_count_1 (by decide) (by decide) (by decide) (by decide) ?_
      refine r_aload_n hX dX10_count_71 rfl ?_
      refine r_getr hX dX10_count_72 fl_X10_33 rfl (LX10_s hL) (LX10_r5 hL) ?_
      refine rn_geti (v := σ.1 1) hX dX10_count_75 fl_X10_138 rfl (LX9_s (LX10_o5 hL)) hTT.2.2.1 ?_
      refine r_ireturn hX rfl rfl dX10_count_78 (by decide) (by decide) ?_
      exact rC.y0 (by unfold rs_count; rw [ix_of (c := 2) (by omega) (by omega)]; rfl) hC
    · refine Ct.of IX10_count.1 (by simp [Value.category]) (Nat.le_of_ble_eq_true rfl) (fun X hX hN => ?_)
      show J G base X 0 0 M 0 [some (.ref a), some (.int (nI 3))] []
      refine r_iload_n hX dX10_count_0 rfl ?_
      refine r_tabIn (off := 78) (tgt := 79) hX dX10_count_1 (by decide) (by decide) (by decide) (by decide) ?_
      refine r_aload_n hX dX10_count_79 rfl ?_
      refine r_getr hX dX10_count_80 fl_X10_40 rfl (LX10_s hL) (LX10_r6 hL) ?_
      refine r_getr hX dX10_count_83 fl_X10_107 rfl (LX8_s (LX10_o6 hL)) (LX8_r5 (LX10_o6 hL)) ?_
      refine rn_geti (v := σ.1 2) hX dX10_count_86 fl_X10_111 rfl (LX2_s (LX8_o5 (LX10_o6 hL))) hRS.2.2.1.1 ?_
      refine r_ireturn hX rfl rfl dX10_count_89 (by decide) (by decide) ?_
      exact rC.y0 (by unfold rs_count; rw [ix_of (c := 3) (by omega) (by omega)]; rfl) hC
    · refine Ct.of IX10_count.1 (by simp [Value.category]) (Nat.le_of_ble_eq_true rfl) (fun X hX hN => ?_)
      show J G base X 0 0 M 0 [some (.ref a), some (.int (nI 4))] []
      refine r_iload_n hX dX10_count_0 rfl ?_
      refine r_tabIn (off := 89) (tgt := 90) hX dX10_count_1 (by decide) (by decide) (by decide) (by decide) ?_
      refine r_aload_n hX dX10_count_90 rfl ?_
      refine r_getr hX dX10_count_91 fl_X10_40 rfl (LX10_s hL) (LX10_r6 hL) ?_
      refine r_getr hX dX10_count_94 fl_X10_141 rfl (LX8_s (LX10_o6 hL)) (LX8_r7 (LX10_o6 hL)) ?_
      refine rn_geti (v := σ.1 3) hX dX10_count_97 fl_X10_145 rfl (LX4_s (LX8_o7 (LX10_o6 hL))) hRS.2.2.2.2.1 ?_
      refine r_ireturn hX rfl rfl dX10_count_100 (by decide) (by decide) ?_
      exact rC.y0 (by unfold rs_count; rw [ix_of (c := 4) (by omega) (by omega)]; rfl) hC
    · refine Ct.of IX10_count.1 (by simp [Value.category]) (Nat.le_of_ble_eq_true rfl) (fun X hX hN => ?_)
      show J G base X 0 0 M 0 [some (.ref a), some (.int (nI 5))] []
      refine r_iload_n hX dX10_count_0 rfl ?_
      refine r_tabIn (off := 100) (tgt := 101) hX dX10_count_1 (by decide) (by decide) (by decide) (by decide) ?_
      refine r_aload_n hX dX10_count_101 rfl ?_
      refine r_getr hX dX10_count_102 fl_X10_40 rfl (LX10_s hL) (LX10_r6 hL) ?_
      refine r_getr hX dX10_count_105 fl_X10_148 rfl (LX8_s (LX10_o6 hL)) (LX8_r6 (LX10_o6 hL)) ?_
      refine rn_geti (v := σ.1 4) hX dX10_count_108 fl_X10_152 rfl (LX6_s (LX8_o6 (LX10_o6 hL))) hRS.2.2.2.1.1 ?_
      refine r_ireturn hX rfl rfl dX10_count_111 (by decide) (by decide) ?_
      exact rC.y0 (by unfold rs_count; rw [ix_of (c := 5) (by omega) (by omega)]; rfl) hC
    · refine Ct.of IX10_count.1 (by simp [Value.category]) (Nat.le_of_ble_eq_true rfl) (fun X hX hN => ?_)
      show J G base X 0 0 M 0 [some (.ref a), some (.int (nI 6))] []
      refine r_iload_n hX dX10_count_0 rfl ?_
      refine r_tabIn (off := 111) (tgt := 112) hX dX10_count_1 (by decide) (by decide) (by decide) (by decide) ?_
      refine r_aload_n hX dX10_count_112 rfl ?_
      refine r_getr hX dX10_count_113 fl_X10_40 rfl (LX10_s hL) (LX10_r6 hL) ?_
      refine rn_geti (v := σ.1 5) hX dX10_count_116 fl_X10_157 rfl (LX8_s (LX10_o6 hL)) hRS.1.2.1 ?_
      refine r_ireturn hX rfl rfl dX10_count_119 (by decide) (by decide) ?_
      exact rC.y0 (by unfold rs_count; rw [ix_of (c := 6) (by omega) (by omega)]; rfl) hC
    · refine Ct.of IX10_count.1 (by simp [Value.category]) (Nat.le_of_ble_eq_true rfl) (fun X hX hN => ?_)
      show J G base X 0 0 M 0 [some (.ref a), some (.int (nI 7))] []
      refine r_iload_n hX dX10_count_0 rfl ?_
      refine r_tabIn (off := 119) (tgt := 120) hX dX10_count_1 (by decide) (by decide) (by decide) (by decide) ?_
      refine r_aload_n hX dX10_count_120 rfl ?_
      refine r_getr hX dX10_count_121 fl_X10_40 rfl (LX10_s hL) (LX10_r6 hL) ?_
      refine rn_geti (v := σ.1 6) hX dX10_count_124 fl_X10_160 rfl (LX8_s (LX10_o6 hL)) hRS.1.1 ?_
      refine r_ireturn hX rfl rfl dX10_count_127 (by decide) (by decide) ?_
      exact rC.y0 (by unfold rs_count; rw [ix_of (c := 7) (by omega) (by omega)]; rfl) hC
    · refine Ct.of IX10_count.1 (by simp [Value.category]) (Nat.le_of_ble_eq_true rfl) (fun X hX hN => ?_)
      show J G base X 0 0 M 0 [some (.ref a), some (.int (nI 8))] []
      refine r_iload_n hX dX10_count_0 rfl ?_
      refine r_tabIn (off := 127) (tgt := 128) hX dX10_count_1 (by decide) (by decide) (by decide) (by decide) ?_
      refine r_aload_n hX dX10_count_128 rfl ?_
      refine r_getr hX dX10_count_129 fl_X10_40 rfl (LX10_s hL) (LX10_r6 hL) ?_
      refine rn_geti (v := σ.1 7) hX dX10_count_132 fl_X10_163 rfl (LX8_s (LX10_o6 hL)) hRS.1.2.2.1 ?_
      refine r_ireturn hX rfl rfl dX10_count_135 (by decide) (by decide) ?_
      exact rC.y0 (by unfold rs_count; rw [ix_of (c := 8) (by omega) (by omega)]; rfl) hC
  · refine Ct.of IX10_count.1 (by simp [Value.category]) (Nat.le_of_ble_eq_true rfl) (fun X hX hN => ?_)
    show J G base X 0 0 M 0 [some (.ref a), some (.int x)] []
    refine r_iload_n hX dX10_count_0 rfl ?_
    refine r_tabOut (tgt := 136) hX dX10_count_1 (tab_no (m := 8) hw (by omega)) (by decide) ?_
    refine r_throw hX thI1 dX10_count_136 dX10_count_139 dX10_count_140 dX10_count_143 (by decide) (by decide) (by decide) rfl ?_ (Nat.le_of_ble_eq_true rfl)
    exact rC.n0 (k := 1) (by unfold rs_count; rw [ix_no hw]) rfl hC

set_option maxHeartbeats 2000000 in
set_option maxRecDepth 20000 in
theorem t_X10_isCounted0 {M : Mm} {a l : Nat} {n : Nat → Int32} (hL : LX10 M.1 M.2.1 a) (hRS : RS (mI M) (a + 34) n) (hl : l < nv n 2) (h89 : n (498 + 10 * l + 8) = 0 ∨ n (498 + 10 * l + 8) = 1) : Ct G base YX10_isCounted 2 0 0 [.ref a, .int (nI l), .int (nI 0)] M (rE (some (.int (if soB n 0 l = true then 1 else 0))) M) := by
  refine Ct.of IX10_isCounted.1 (by simp [Value.category]) (Nat.le_of_ble_eq_true rfl) (fun X hX hN => ?_)
  show J G base X 0 0 M 0 [some (.ref a), some (.int (nI l)), some (.int (nI 0)), none] []
  have hlc : mI M (a + 34 + 2) 0 = nI (nv n 2) := hRS.2.2.1.1.trans hRS.2.2.1.2.1.1
  have hl30 := hRS.2.2.1.2.1.2
  refine r_aload_n hX dX10_isCounted_0 rfl ?_
  refine r_getr hX dX10_isCounted_1 fl_X10_40 rfl (LX10_s hL) (LX10_r6 hL) ?_
  refine r_getr hX dX10_isCounted_4 fl_X10_107 rfl (LX8_s (LX10_o6 hL)) (LX8_r5 (LX10_o6 hL)) ?_
  refine r_astore3 hX dX10_isCounted_7 rfl ?_
  refine r_iload_n hX dX10_isCounted_8 rfl ?_
  refine r_tabOut (tgt := 122) hX dX10_isCounted_9 (by rw [nI_toInt (by omega)]; omega) (by decide) ?_
  refine r_aload_n hX dX10_isCounted_122 rfl ?_
  refine r_getr hX dX10_isCounted_123 fl_X10_219 rfl (LX2_s (LX8_o5 (LX10_o6 hL))) (LX2_r4 (LX8_o5 (LX10_o6 hL))) ?_
  refine r_iload_n hX dX10_isCounted_126 rfl ?_
  refine rn_iald hX dX10_isCounted_127 (LX2_a4 (LX8_o5 (LX10_o6 hL))) rfl (by omega) (by omega) ?_
  rw [show mI M (a + 34 + 2 + 4) l = n (498 + 10 * l + 3) from hRS.2.2.1.2.2 l hl 3 (by omega)]
  refine r_iload_n hX dX10_isCounted_128 rfl ?_
  refine r_icmp_ne (tgt := 136) hX dX10_isCounted_129 (by decide) (fun c129 => ?_) (fun c129 => ?_)
  · refine r_iconst (v := 0) hX dX10_isCounted_136 (by decide) ?_
    refine r_ireturn hX rfl rfl dX10_isCounted_137 (by decide) (by decide) ?_
    refine ⟨?_, rfl⟩
    rw [if_neg (show ¬ soB n 0 l = true from fun z => c129 (of_decide_eq_true z))]
    first | done | rfl
  · refine r_iconst (v := 1) hX dX10_isCounted_132 (by decide) ?_
    refine r_goto (tgt := 137) hX dX10_isCounted_133 (by decide) ?_
    refine r_ireturn hX rfl rfl dX10_isCounted_137 (by decide) (by decide) ?_
    refine ⟨?_, rfl⟩
    rw [if_pos (show soB n 0 l = true from decide_eq_true c129)]
    first | done | rfl
set_option maxHeartbeats 2000000 in
set_option maxRecDepth 20000 in
theorem t_X10_isCounted1 {M : Mm} {a l : Nat} {n : Nat → Int32} (hL : LX10 M.1 M.2.1 a) (hRS : RS (mI M) (a + 34) n) (hl : l < nv n 2) (h89 : n (498 + 10 * l + 8) = 0 ∨ n (498 + 10 * l + 8) = 1) : Ct G base YX10_isCounted 2 0 0 [.ref a, .int (nI l), .int (nI 1)] M (rE (some (.int (if soB n 1 l = true then 1 else 0))) M) := by
  refine Ct.of IX10_isCounted.1 (by simp [Value.category]) (Nat.le_of_ble_eq_true rfl) (fun X hX hN => ?_)
  show J G base X 0 0 M 0 [some (.ref a), some (.int (nI l)), some (.int (nI 1)), none] []
  have hlc : mI M (a + 34 + 2) 0 = nI (nv n 2) := hRS.2.2.1.1.trans hRS.2.2.1.2.1.1
  have hl30 := hRS.2.2.1.2.1.2
  refine r_aload_n hX dX10_isCounted_0 rfl ?_
  refine r_getr hX dX10_isCounted_1 fl_X10_40 rfl (LX10_s hL) (LX10_r6 hL) ?_
  refine r_getr hX dX10_isCounted_4 fl_X10_107 rfl (LX8_s (LX10_o6 hL)) (LX8_r5 (LX10_o6 hL)) ?_
  refine r_astore3 hX dX10_isCounted_7 rfl ?_
  refine r_iload_n hX dX10_isCounted_8 rfl ?_
  refine r_tabOut (tgt := 122) hX dX10_isCounted_9 (by rw [nI_toInt (by omega)]; omega) (by decide) ?_
  refine r_aload_n hX dX10_isCounted_122 rfl ?_
  refine r_getr hX dX10_isCounted_123 fl_X10_219 rfl (LX2_s (LX8_o5 (LX10_o6 hL))) (LX2_r4 (LX8_o5 (LX10_o6 hL))) ?_
  refine r_iload_n hX dX10_isCounted_126 rfl ?_
  refine rn_iald hX dX10_isCounted_127 (LX2_a4 (LX8_o5 (LX10_o6 hL))) rfl (by omega) (by omega) ?_
  rw [show mI M (a + 34 + 2 + 4) l = n (498 + 10 * l + 3) from hRS.2.2.1.2.2 l hl 3 (by omega)]
  refine r_iload_n hX dX10_isCounted_128 rfl ?_
  refine r_icmp_ne (tgt := 136) hX dX10_isCounted_129 (by decide) (fun c129 => ?_) (fun c129 => ?_)
  · refine r_iconst (v := 0) hX dX10_isCounted_136 (by decide) ?_
    refine r_ireturn hX rfl rfl dX10_isCounted_137 (by decide) (by decide) ?_
    refine ⟨?_, rfl⟩
    rw [if_neg (show ¬ soB n 1 l = true from fun z => c129 (of_decide_eq_true z))]
    first | done | rfl
  · refine r_iconst (v := 1) hX dX10_isCounted_132 (by decide) ?_
    refine r_goto (tgt := 137) hX dX10_isCounted_133 (by decide) ?_
    refine r_ireturn hX rfl rfl dX10_isCounted_137 (by decide) (by decide) ?_
    refine ⟨?_, rfl⟩
    rw [if_pos (show soB n 1 l = true from decide_eq_true c129)]
    first | done | rfl
set_option maxHeartbeats 2000000 in
set_option maxRecDepth 20000 in
theorem t_X10_isCounted2 {M : Mm} {a l : Nat} {n : Nat → Int32} (hL : LX10 M.1 M.2.1 a) (hRS : RS (mI M) (a + 34) n) (hl : l < nv n 2) (h89 : n (498 + 10 * l + 8) = 0 ∨ n (498 + 10 * l + 8) = 1) : Ct G base YX10_isCounted 2 0 0 [.ref a, .int (nI l), .int (nI 2)] M (rE (some (.int (if soB n 2 l = true then 1 else 0))) M) := by
  refine Ct.of IX10_isCounted.1 (by simp [Value.category]) (Nat.le_of_ble_eq_true rfl) (fun X hX hN => ?_)
  show J G base X 0 0 M 0 [some (.ref a), some (.int (nI l)), some (.int (nI 2)), none] []
  have hlc : mI M (a + 34 + 2) 0 = nI (nv n 2) := hRS.2.2.1.1.trans hRS.2.2.1.2.1.1
  have hl30 := hRS.2.2.1.2.1.2
  refine r_aload_n hX dX10_isCounted_0 rfl ?_
  refine r_getr hX dX10_isCounted_1 fl_X10_40 rfl (LX10_s hL) (LX10_r6 hL) ?_
  refine r_getr hX dX10_isCounted_4 fl_X10_107 rfl (LX8_s (LX10_o6 hL)) (LX8_r5 (LX10_o6 hL)) ?_
  refine r_astore3 hX dX10_isCounted_7 rfl ?_
  refine r_iload_n hX dX10_isCounted_8 rfl ?_
  refine r_tabOut (tgt := 122) hX dX10_isCounted_9 (by rw [nI_toInt (by omega)]; omega) (by decide) ?_
  refine r_aload_n hX dX10_isCounted_122 rfl ?_
  refine r_getr hX dX10_isCounted_123 fl_X10_219 rfl (LX2_s (LX8_o5 (LX10_o6 hL))) (LX2_r4 (LX8_o5 (LX10_o6 hL))) ?_
  refine r_iload_n hX dX10_isCounted_126 rfl ?_
  refine rn_iald hX dX10_isCounted_127 (LX2_a4 (LX8_o5 (LX10_o6 hL))) rfl (by omega) (by omega) ?_
  rw [show mI M (a + 34 + 2 + 4) l = n (498 + 10 * l + 3) from hRS.2.2.1.2.2 l hl 3 (by omega)]
  refine r_iload_n hX dX10_isCounted_128 rfl ?_
  refine r_icmp_ne (tgt := 136) hX dX10_isCounted_129 (by decide) (fun c129 => ?_) (fun c129 => ?_)
  · refine r_iconst (v := 0) hX dX10_isCounted_136 (by decide) ?_
    refine r_ireturn hX rfl rfl dX10_isCounted_137 (by decide) (by decide) ?_
    refine ⟨?_, rfl⟩
    rw [if_neg (show ¬ soB n 2 l = true from fun z => c129 (of_decide_eq_true z))]
    first | done | rfl
  · refine r_iconst (v := 1) hX dX10_isCounted_132 (by decide) ?_
    refine r_goto (tgt := 137) hX dX10_isCounted_133 (by decide) ?_
    refine r_ireturn hX rfl rfl dX10_isCounted_137 (by decide) (by decide) ?_
    refine ⟨?_, rfl⟩
    rw [if_pos (show soB n 2 l = true from decide_eq_true c129)]
    first | done | rfl
set_option maxHeartbeats 2000000 in
set_option maxRecDepth 20000 in
theorem t_X10_isCounted3 {M : Mm} {a l : Nat} {n : Nat → Int32} (hL : LX10 M.1 M.2.1 a) (hRS : RS (mI M) (a + 34) n) (hl : l < nv n 2) (h89 : n (498 + 10 * l + 8) = 0 ∨ n (498 + 10 * l + 8) = 1) : Ct G base YX10_isCounted 2 0 0 [.ref a, .int (nI l), .int (nI 3)] M (rE (some (.int (if soB n 3 l = true then 1 else 0))) M) := by
  refine Ct.of IX10_isCounted.1 (by simp [Value.category]) (Nat.le_of_ble_eq_true rfl) (fun X hX hN => ?_)
  show J G base X 0 0 M 0 [some (.ref a), some (.int (nI l)), some (.int (nI 3)), none] []
  have hlc : mI M (a + 34 + 2) 0 = nI (nv n 2) := hRS.2.2.1.1.trans hRS.2.2.1.2.1.1
  have hl30 := hRS.2.2.1.2.1.2
  refine r_aload_n hX dX10_isCounted_0 rfl ?_
  refine r_getr hX dX10_isCounted_1 fl_X10_40 rfl (LX10_s hL) (LX10_r6 hL) ?_
  refine r_getr hX dX10_isCounted_4 fl_X10_107 rfl (LX8_s (LX10_o6 hL)) (LX8_r5 (LX10_o6 hL)) ?_
  refine r_astore3 hX dX10_isCounted_7 rfl ?_
  refine r_iload_n hX dX10_isCounted_8 rfl ?_
  refine r_tabOut (tgt := 122) hX dX10_isCounted_9 (by rw [nI_toInt (by omega)]; omega) (by decide) ?_
  refine r_aload_n hX dX10_isCounted_122 rfl ?_
  refine r_getr hX dX10_isCounted_123 fl_X10_219 rfl (LX2_s (LX8_o5 (LX10_o6 hL))) (LX2_r4 (LX8_o5 (LX10_o6 hL))) ?_
  refine r_iload_n hX dX10_isCounted_126 rfl ?_
  refine rn_iald hX dX10_isCounted_127 (LX2_a4 (LX8_o5 (LX10_o6 hL))) rfl (by omega) (by omega) ?_
  rw [show mI M (a + 34 + 2 + 4) l = n (498 + 10 * l + 3) from hRS.2.2.1.2.2 l hl 3 (by omega)]
  refine r_iload_n hX dX10_isCounted_128 rfl ?_
  refine r_icmp_ne (tgt := 136) hX dX10_isCounted_129 (by decide) (fun c129 => ?_) (fun c129 => ?_)
  · refine r_iconst (v := 0) hX dX10_isCounted_136 (by decide) ?_
    refine r_ireturn hX rfl rfl dX10_isCounted_137 (by decide) (by decide) ?_
    refine ⟨?_, rfl⟩
    rw [if_neg (show ¬ soB n 3 l = true from fun z => c129 (of_decide_eq_true z))]
    first | done | rfl
  · refine r_iconst (v := 1) hX dX10_isCounted_132 (by decide) ?_
    refine r_goto (tgt := 137) hX dX10_isCounted_133 (by decide) ?_
    refine r_ireturn hX rfl rfl dX10_isCounted_137 (by decide) (by decide) ?_
    refine ⟨?_, rfl⟩
    rw [if_pos (show soB n 3 l = true from decide_eq_true c129)]
    first | done | rfl
set_option maxHeartbeats 2000000 in
set_option maxRecDepth 20000 in
theorem t_X10_isCounted4 {M : Mm} {a l : Nat} {n : Nat → Int32} (hL : LX10 M.1 M.2.1 a) (hRS : RS (mI M) (a + 34) n) (hl : l < nv n 2) (h89 : n (498 + 10 * l + 8) = 0 ∨ n (498 + 10 * l + 8) = 1) : Ct G base YX10_isCounted 2 0 0 [.ref a, .int (nI l), .int (nI 4)] M (rE (some (.int (if soB n 4 l = true then 1 else 0))) M) := by
  refine Ct.of IX10_isCounted.1 (by simp [Value.category]) (Nat.le_of_ble_eq_true rfl) (fun X hX hN => ?_)
  show J G base X 0 0 M 0 [some (.ref a), some (.int (nI l)), some (.int (nI 4)), none] []
  have hlc : mI M (a + 34 + 2) 0 = nI (nv n 2) := hRS.2.2.1.1.trans hRS.2.2.1.2.1.1
  have hl30 := hRS.2.2.1.2.1.2
  refine r_aload_n hX dX10_isCounted_0 rfl ?_
  refine r_getr hX dX10_isCounted_1 fl_X10_40 rfl (LX10_s hL) (LX10_r6 hL) ?_
  refine r_getr hX dX10_isCounted_4 fl_X10_107 rfl (LX8_s (LX10_o6 hL)) (LX8_r5 (LX10_o6 hL)) ?_
  refine r_astore3 hX dX10_isCounted_7 rfl ?_
  refine r_iload_n hX dX10_isCounted_8 rfl ?_
  refine r_tabIn (off := 35) (tgt := 44) hX dX10_isCounted_9 (by decide) (by decide) (by decide) (by decide) ?_
  refine r_aload_n hX dX10_isCounted_44 rfl ?_
  refine r_getr hX dX10_isCounted_45 fl_X10_221 rfl (LX2_s (LX8_o5 (LX10_o6 hL))) (LX2_r3 (LX8_o5 (LX10_o6 hL))) ?_
  refine r_iload_n hX dX10_isCounted_48 rfl ?_
  refine rn_iald hX dX10_isCounted_49 (LX2_a3 (LX8_o5 (LX10_o6 hL))) rfl (by omega) (by omega) ?_
  rw [show mI M (a + 34 + 2 + 3) l = n (498 + 10 * l + 2) from hRS.2.2.1.2.2 l hl 2 (by omega)]
  refine r_if_eq (tgt := 57) hX dX10_isCounted_50 (by decide) (fun c50 => ?_) (fun c50 => ?_)
  · refine r_iconst (v := 0) hX dX10_isCounted_57 (by decide) ?_
    refine r_ireturn hX rfl rfl dX10_isCounted_58 (by decide) (by decide) ?_
    refine ⟨?_, rfl⟩
    rw [if_neg (show ¬ soB n 4 l = true from fun z => (of_decide_eq_true z) c50)]
    first | done | rfl
  · refine r_iconst (v := 1) hX dX10_isCounted_53 (by decide) ?_
    refine r_goto (tgt := 58) hX dX10_isCounted_54 (by decide) ?_
    refine r_ireturn hX rfl rfl dX10_isCounted_58 (by decide) (by decide) ?_
    refine ⟨?_, rfl⟩
    rw [if_pos (show soB n 4 l = true from decide_eq_true c50)]
    first | done | rfl
set_option maxHeartbeats 2000000 in
set_option maxRecDepth 20000 in
theorem t_X10_isCounted5 {M : Mm} {a l : Nat} {n : Nat → Int32} (hL : LX10 M.1 M.2.1 a) (hRS : RS (mI M) (a + 34) n) (hl : l < nv n 2) (h89 : n (498 + 10 * l + 8) = 0 ∨ n (498 + 10 * l + 8) = 1) : Ct G base YX10_isCounted 2 0 0 [.ref a, .int (nI l), .int (nI 5)] M (rE (some (.int (if soB n 5 l = true then 1 else 0))) M) := by
  refine Ct.of IX10_isCounted.1 (by simp [Value.category]) (Nat.le_of_ble_eq_true rfl) (fun X hX hN => ?_)
  show J G base X 0 0 M 0 [some (.ref a), some (.int (nI l)), some (.int (nI 5)), none] []
  have hlc : mI M (a + 34 + 2) 0 = nI (nv n 2) := hRS.2.2.1.1.trans hRS.2.2.1.2.1.1
  have hl30 := hRS.2.2.1.2.1.2
  refine r_aload_n hX dX10_isCounted_0 rfl ?_
  refine r_getr hX dX10_isCounted_1 fl_X10_40 rfl (LX10_s hL) (LX10_r6 hL) ?_
  refine r_getr hX dX10_isCounted_4 fl_X10_107 rfl (LX8_s (LX10_o6 hL)) (LX8_r5 (LX10_o6 hL)) ?_
  refine r_astore3 hX dX10_isCounted_7 rfl ?_
  refine r_iload_n hX dX10_isCounted_8 rfl ?_
  refine r_tabIn (off := 50) (tgt := 59) hX dX10_isCounted_9 (by decide) (by decide) (by decide) (by decide) ?_
  refine r_aload_n hX dX10_isCounted_59 rfl ?_
  refine r_iload_n hX dX10_isCounted_60 rfl ?_
  refine r_aload_n hX dX10_isCounted_61 rfl ?_
  refine r_getr hX dX10_isCounted_62 fl_X10_40 rfl (LX10_s hL) (LX10_r6 hL) ?_
  refine rn_geti (v := n 6) hX dX10_isCounted_65 fl_X10_160 rfl (LX8_s (LX10_o6 hL)) hRS.1.1 ?_
  refine r_cV2 hX dX10_isCounted_68 IX2_lateAt ml_X10_233 rfl (LX2_s (LX8_o5 (LX10_o6 hL))) rfl (t_X2_lateAt (LX8_o5 (LX10_o6 hL)) hlc hl30 hl) (by decide) (by decide) (by decide) (by decide) rfl (Nat.le_of_ble_eq_true rfl) ?_
  rw [hRS.2.2.1.2.2 l hl 3 (by omega), hRS.2.2.1.2.2 l hl 7 (by omega), hRS.2.2.1.2.2 l hl 6 (by omega)]
  refine r_ireturn hX rfl nar_b dX10_isCounted_71 (by decide) (by decide) ?_
  exact ⟨by rw [itec (show soB n 5 l = true ↔ _ from decide_eq_true_iff)], rfl⟩
set_option maxHeartbeats 2000000 in
set_option maxRecDepth 20000 in
theorem t_X10_isCounted6 {M : Mm} {a l : Nat} {n : Nat → Int32} (hL : LX10 M.1 M.2.1 a) (hRS : RS (mI M) (a + 34) n) (hl : l < nv n 2) (h89 : n (498 + 10 * l + 8) = 0 ∨ n (498 + 10 * l + 8) = 1) : Ct G base YX10_isCounted 2 0 0 [.ref a, .int (nI l), .int (nI 6)] M (rE (some (.int (if soB n 6 l = true then 1 else 0))) M) := by
  refine Ct.of IX10_isCounted.1 (by simp [Value.category]) (Nat.le_of_ble_eq_true rfl) (fun X hX hN => ?_)
  show J G base X 0 0 M 0 [some (.ref a), some (.int (nI l)), some (.int (nI 6)), none] []
  have hlc : mI M (a + 34 + 2) 0 = nI (nv n 2) := hRS.2.2.1.1.trans hRS.2.2.1.2.1.1
  have hl30 := hRS.2.2.1.2.1.2
  refine r_aload_n hX dX10_isCounted_0 rfl ?_
  refine r_getr hX dX10_isCounted_1 fl_X10_40 rfl (LX10_s hL) (LX10_r6 hL) ?_
  refine r_getr hX dX10_isCounted_4 fl_X10_107 rfl (LX8_s (LX10_o6 hL)) (LX8_r5 (LX10_o6 hL)) ?_
  refine r_astore3 hX dX10_isCounted_7 rfl ?_
  refine r_iload_n hX dX10_isCounted_8 rfl ?_
  refine r_tabIn (off := 63) (tgt := 72) hX dX10_isCounted_9 (by decide) (by decide) (by decide) (by decide) ?_
  refine r_aload_n hX dX10_isCounted_72 rfl ?_
  refine r_getr hX dX10_isCounted_73 fl_X10_116 rfl (LX2_s (LX8_o5 (LX10_o6 hL))) (LX2_r7 (LX8_o5 (LX10_o6 hL))) ?_
  refine r_iload_n hX dX10_isCounted_76 rfl ?_
  refine rn_iald hX dX10_isCounted_77 (LX2_a7 (LX8_o5 (LX10_o6 hL))) rfl (by omega) (by omega) ?_
  rw [show mI M (a + 34 + 2 + 7) l = n (498 + 10 * l + 6) from hRS.2.2.1.2.2 l hl 6 (by omega)]
  refine r_iconst (v := (-1)) hX dX10_isCounted_78 (by decide) ?_
  refine r_icmp_ne (tgt := 86) hX dX10_isCounted_79 (by decide) (fun c79 => ?_) (fun c79 => ?_)
  · refine r_iconst (v := 0) hX dX10_isCounted_86 (by decide) ?_
    refine r_ireturn hX rfl rfl dX10_isCounted_87 (by decide) (by decide) ?_
    refine ⟨?_, rfl⟩
    rw [if_neg (show ¬ soB n 6 l = true from fun z => c79 (of_decide_eq_true z))]
    first | done | rfl
  · refine r_iconst (v := 1) hX dX10_isCounted_82 (by decide) ?_
    refine r_goto (tgt := 87) hX dX10_isCounted_83 (by decide) ?_
    refine r_ireturn hX rfl rfl dX10_isCounted_87 (by decide) (by decide) ?_
    refine ⟨?_, rfl⟩
    rw [if_pos (show soB n 6 l = true from decide_eq_true c79)]
    first | done | rfl
set_option maxHeartbeats 2000000 in
set_option maxRecDepth 20000 in
theorem t_X10_isCounted7 {M : Mm} {a l : Nat} {n : Nat → Int32} (hL : LX10 M.1 M.2.1 a) (hRS : RS (mI M) (a + 34) n) (hl : l < nv n 2) (h89 : n (498 + 10 * l + 8) = 0 ∨ n (498 + 10 * l + 8) = 1) : Ct G base YX10_isCounted 2 0 0 [.ref a, .int (nI l), .int (nI 7)] M (rE (some (.int (if soB n 7 l = true then 1 else 0))) M) := by
  refine Ct.of IX10_isCounted.1 (by simp [Value.category]) (Nat.le_of_ble_eq_true rfl) (fun X hX hN => ?_)
  show J G base X 0 0 M 0 [some (.ref a), some (.int (nI l)), some (.int (nI 7)), none] []
  have hlc : mI M (a + 34 + 2) 0 = nI (nv n 2) := hRS.2.2.1.1.trans hRS.2.2.1.2.1.1
  have hl30 := hRS.2.2.1.2.1.2
  refine r_aload_n hX dX10_isCounted_0 rfl ?_
  refine r_getr hX dX10_isCounted_1 fl_X10_40 rfl (LX10_s hL) (LX10_r6 hL) ?_
  refine r_getr hX dX10_isCounted_4 fl_X10_107 rfl (LX8_s (LX10_o6 hL)) (LX8_r5 (LX10_o6 hL)) ?_
  refine r_astore3 hX dX10_isCounted_7 rfl ?_
  refine r_iload_n hX dX10_isCounted_8 rfl ?_
  refine r_tabIn (off := 79) (tgt := 88) hX dX10_isCounted_9 (by decide) (by decide) (by decide) (by decide) ?_
  refine r_aload_n hX dX10_isCounted_88 rfl ?_
  refine r_getr hX dX10_isCounted_89 fl_X10_239 rfl (LX2_s (LX8_o5 (LX10_o6 hL))) (LX2_r9 (LX8_o5 (LX10_o6 hL))) ?_
  refine r_iload_n hX dX10_isCounted_92 rfl ?_
  refine rn_iald hX dX10_isCounted_93 (LX2_a9 (LX8_o5 (LX10_o6 hL))) rfl (by omega) (by omega) ?_
  rw [show mI M (a + 34 + 2 + 9) l = n (498 + 10 * l + 8) from hRS.2.2.1.2.2 l hl 8 (by omega)]
  refine r_if_eq (tgt := 101) hX dX10_isCounted_94 (by decide) (fun c94 => ?_) (fun c94 => ?_)
  · refine r_iconst (v := 0) hX dX10_isCounted_101 (by decide) ?_
    refine r_ireturn hX rfl rfl dX10_isCounted_102 (by decide) (by decide) ?_
    refine ⟨?_, rfl⟩
    rw [if_neg (show ¬ soB n 7 l = true from fun z => by have z2 := of_decide_eq_true z; rw [c94] at z2; exact absurd z2 (by decide))]
    first | done | rfl
  · refine r_iconst (v := 1) hX dX10_isCounted_97 (by decide) ?_
    refine r_goto (tgt := 102) hX dX10_isCounted_98 (by decide) ?_
    refine r_ireturn hX rfl rfl dX10_isCounted_102 (by decide) (by decide) ?_
    refine ⟨?_, rfl⟩
    rw [if_pos (show soB n 7 l = true from decide_eq_true (h89.resolve_left c94))]
    first | done | rfl
set_option maxHeartbeats 2000000 in
set_option maxRecDepth 20000 in
theorem t_X10_isCounted8 {M : Mm} {a l : Nat} {n : Nat → Int32} (hL : LX10 M.1 M.2.1 a) (hRS : RS (mI M) (a + 34) n) (hl : l < nv n 2) (h89 : n (498 + 10 * l + 8) = 0 ∨ n (498 + 10 * l + 8) = 1) : Ct G base YX10_isCounted 2 0 0 [.ref a, .int (nI l), .int (nI 8)] M (rE (some (.int (if soB n 8 l = true then 1 else 0))) M) := by
  refine Ct.of IX10_isCounted.1 (by simp [Value.category]) (Nat.le_of_ble_eq_true rfl) (fun X hX hN => ?_)
  show J G base X 0 0 M 0 [some (.ref a), some (.int (nI l)), some (.int (nI 8)), none] []
  have hlc : mI M (a + 34 + 2) 0 = nI (nv n 2) := hRS.2.2.1.1.trans hRS.2.2.1.2.1.1
  have hl30 := hRS.2.2.1.2.1.2
  refine r_aload_n hX dX10_isCounted_0 rfl ?_
  refine r_getr hX dX10_isCounted_1 fl_X10_40 rfl (LX10_s hL) (LX10_r6 hL) ?_
  refine r_getr hX dX10_isCounted_4 fl_X10_107 rfl (LX8_s (LX10_o6 hL)) (LX8_r5 (LX10_o6 hL)) ?_
  refine r_astore3 hX dX10_isCounted_7 rfl ?_
  refine r_iload_n hX dX10_isCounted_8 rfl ?_
  refine r_tabIn (off := 94) (tgt := 103) hX dX10_isCounted_9 (by decide) (by decide) (by decide) (by decide) ?_
  refine r_aload_n hX dX10_isCounted_103 rfl ?_
  refine r_getr hX dX10_isCounted_104 fl_X10_216 rfl (LX2_s (LX8_o5 (LX10_o6 hL))) (LX2_r10 (LX8_o5 (LX10_o6 hL))) ?_
  refine r_iload_n hX dX10_isCounted_107 rfl ?_
  refine rn_iald hX dX10_isCounted_108 (LX2_a10 (LX8_o5 (LX10_o6 hL))) rfl (by omega) (by omega) ?_
  rw [show mI M (a + 34 + 2 + 10) l = n (498 + 10 * l + 9) from hRS.2.2.1.2.2 l hl 9 (by omega)]
  refine r_cS1 hX dX10_isCounted_109 IJ6_bitCount_0f7a4 ml_X10_132 rfl (t_bitCount (M := M)) (by decide) (by decide) (by decide) (by decide) rfl (Nat.le_of_ble_eq_true rfl) ?_
  refine r_iconst (v := 2) hX dX10_isCounted_112 (by decide) ?_
  refine r_icmp_lt (tgt := 120) hX dX10_isCounted_113 (by decide) (fun c113 => ?_) (fun c113 => ?_)
  · refine r_iconst (v := 0) hX dX10_isCounted_120 (by decide) ?_
    refine r_ireturn hX rfl rfl dX10_isCounted_121 (by decide) (by decide) ?_
    refine ⟨?_, rfl⟩
    rw [if_neg (show ¬ soB n 8 l = true from fun z => by have z2 := of_decide_eq_true z; rw [i_ltI] at z2 c113; have e1 : (1 : Int32).toInt = 1 := rfl; have e2 : (2 : Int32).toInt = 2 := rfl; omega)]
    first | done | rfl
  · refine r_iconst (v := 1) hX dX10_isCounted_116 (by decide) ?_
    refine r_goto (tgt := 121) hX dX10_isCounted_117 (by decide) ?_
    refine r_ireturn hX rfl rfl dX10_isCounted_121 (by decide) (by decide) ?_
    refine ⟨?_, rfl⟩
    rw [if_pos (show soB n 8 l = true from decide_eq_true (by rw [i_ltI] at c113 ⊢; have e1 : (1 : Int32).toInt = 1 := rfl; have e2 : (2 : Int32).toInt = 2 := rfl; omega))]
    first | done | rfl
set_option maxHeartbeats 2000000 in
set_option maxRecDepth 20000 in
theorem t_X10_isCounted {M : Mm} {a l : Nat} {n : Nat → Int32} (hL : LX10 M.1 M.2.1 a) (hRS : RS (mI M) (a + 34) n) {w : Nat} (hw : w < 9) (hl : l < nv n 2) (h89 : n (498 + 10 * l + 8) = 0 ∨ n (498 + 10 * l + 8) = 1) : Ct G base YX10_isCounted 2 0 0 [.ref a, .int (nI l), .int (nI w)] M (rE (some (.int (if soB n w l = true then 1 else 0))) M) := by
  rcases (show w = 0 ∨ w = 1 ∨ w = 2 ∨ w = 3 ∨ w = 4 ∨ w = 5 ∨ w = 6 ∨ w = 7 ∨ w = 8 by omega) with rfl | rfl | rfl | rfl | rfl | rfl | rfl | rfl | rfl
  · exact t_X10_isCounted0 hL hRS hl h89
  · exact t_X10_isCounted1 hL hRS hl h89
  · exact t_X10_isCounted2 hL hRS hl h89
  · exact t_X10_isCounted3 hL hRS hl h89
  · exact t_X10_isCounted4 hL hRS hl h89
  · exact t_X10_isCounted5 hL hRS hl h89
  · exact t_X10_isCounted6 hL hRS hl h89
  · exact t_X10_isCounted7 hL hRS hl h89
  · exact t_X10_isCounted8 hL hRS hl h89
set_option maxHeartbeats 2000000 in
set_option maxRecDepth 20000 in
theorem t_c_letters {M : Mm} {a : Nat} {σ : Sg} {T : Nat} (hL : LX10 M.1 M.2.1 a) (hC : CI (mI M) a σ) (hO : OkN T σ.1) (hT9 : T < 890000) {x : Int32} : Ct G base YX10_letters 20 1 6 [.ref a, .int x] M (rC M a 2 4 (rs_letters σ x) σ) := by
  obtain ⟨hT, hS, hLt, h4, h5, h6, hLo, hSt, hNa⟩ := hO
  have h0 := hT.1
  have h1 := hT.2.1
  have hr := hT.2.2
  have h2 := hLt.1
  have h3 := hLt.2.1
  have hb0 := h0.2
  have hb1 := h1.2
  have hb2 := h2.2
  have hb3 := h3.2
  have hb4 := h4.2
  have ht6 : σ.1 6 = nI (nv σ.1 6) := h6.1
  have hh6 : nv σ.1 6 ≤ T := h6.2
  have hTT : TT (mI M) (a + 28) σ.1 := hC.2.2.2.1
  have hRS : RS (mI M) (a + 34) σ.1 := hC.2.2.2.2.1
  have hHR : HR (mI M) (a + 52) σ.2.1 σ.2.2.1 := hC.2.2.2.2.2.1
  have hpc : mI M (a + 28) 0 = nI (nv σ.1 0) := hTT.1.trans h0.1
  have hcc : mI M (a + 28) 2 = nI (nv σ.1 1) := hTT.2.2.1.trans h1.1
  have hlc : mI M (a + 34 + 2) 0 = nI (nv σ.1 2) := hRS.2.2.1.1.trans h2.1
  have hkc : mI M (a + 34 + 15) 0 = nI (nv σ.1 3) := hRS.2.2.2.2.1.trans h3.1
  have hrc : mI M (a + 34 + 13) 0 = nI (nv σ.1 4) := hRS.2.2.2.1.1.trans h4.1
  have htm : mI M (a + 34) 0 = nI (nv σ.1 6) := hRS.1.1.trans ht6
  by_cases hw : ∃ w, w < 9 ∧ x = nI w
  · obtain ⟨w, hw, rfl⟩ := hw
    refine Ct.of IX10_letters.1 (by simp [Value.category]) (Nat.le_of_ble_eq_true rfl) (fun X hX hN => ?_)
    show J G base X 0 0 M 0 [some (.ref a), some (.int (nI w)), none, none] []
    refine r_iload_n hX dX10_letters_0 rfl ?_
    refine rn_if_lt (tgt := 10) hX dX10_letters_1 (by decide) rfl (by omega) ?_
    refine r_iload_n hX dX10_letters_4 rfl ?_
    refine r_bipush (v := nI 8) hX dX10_letters_5 (by decide) ?_
    refine rn_icmp_le (tgt := 18) hX dX10_letters_7 (by decide) rfl rfl (by omega) (by omega) (fun c7 => ?_) (fun c7 => by omega)
    refine r_iconst (v := nI 0) hX dX10_letters_18 (by decide) ?_
    refine r_istore2 hX dX10_letters_19 rfl ?_
    refine r_iconst (v := nI 0) hX dX10_letters_20 (by decide) ?_
    refine r_istore3 hX dX10_letters_21 rfl ?_
    show J G base X 0 0 M 22 [some (.ref a), some (.int (nI w)), some (.int (nI (cntB (soB σ.1 w) 0))), some (.int (nI 0))] []
    refine loop_up (P := fun j => J G base X 0 0 M 22 [some (.ref a), some (.int (nI w)), some (.int (nI (cntB (soB σ.1 w) j))), some (.int (nI j))] []) (nv σ.1 2) (fun j hj ih => ?_) 0 (Nat.zero_le _)
    have hcb := cntB_le (soB σ.1 w) j
    refine r_iload_n hX dX10_letters_22 rfl ?_
    refine r_aload_n hX dX10_letters_23 rfl ?_
    refine r_getr hX dX10_letters_24 fl_X10_40 rfl (LX10_s hL) (LX10_r6 hL) ?_
    refine r_getr hX dX10_letters_27 fl_X10_107 rfl (LX8_s (LX10_o6 hL)) (LX8_r5 (LX10_o6 hL)) ?_
    refine rn_geti (v := nI (nv σ.1 2)) hX dX10_letters_30 fl_X10_111 rfl (LX2_s (LX8_o5 (LX10_o6 hL))) hlc ?_
    refine rn_icmp_ge (tgt := 54) hX dX10_letters_33 (by decide) rfl rfl (by omega) (by omega) (fun c33 => ?_) (fun c33 => ?_)
    · refine r_iload_n hX dX10_letters_54 rfl ?_
      refine r_ireturn hX rfl rfl dX10_letters_55 (by decide) (by decide) ?_
      obtain rfl : j = nv σ.1 2 := by omega
      exact rC.y0 (by unfold rs_letters; rw [ix_of hw (by omega)]) hC
    · refine r_aload_n hX dX10_letters_36 rfl ?_
      refine r_iload_n hX dX10_letters_37 rfl ?_
      refine r_iload_n hX dX10_letters_38 rfl ?_
      refine r_cV2 hX dX10_letters_39 IX10_isCounted ml_X10_236 rfl (LX10_s hL) rfl (t_X10_isCounted hL hRS hw (by omega) (by obtain ⟨f, t, v, s, w9, g⟩ := hLt.2.2 j (by omega); exact g.2.2.2.2.2.2.2.2.2.2.2.2.2.2)) (by decide) (by decide) (by decide) (by decide) rfl (Nat.le_of_ble_eq_true rfl) ?_
      refine rb_if_eq (tgt := 48) hX dX10_letters_42 (by decide) rfl (fun c42 => ?_) (fun c42 => ?_)
      · refine rn_iinc3 hX dX10_letters_48 rfl rfl ?_
        refine r_goto (tgt := 22) hX dX10_letters_51 (by decide) ?_
        have z := ih (by omega)
        rw [cnt_no c42] at z
        exact z
      · refine rn_iinc2 hX dX10_letters_45 rfl rfl ?_
        refine rn_iinc3 hX dX10_letters_48 rfl rfl ?_
        refine r_goto (tgt := 22) hX dX10_letters_51 (by decide) ?_
        have z := ih (by omega)
        rw [cnt_yes c42] at z
        exact z
  · refine Ct.of IX10_letters.1 (by simp [Value.category]) (Nat.le_of_ble_eq_true rfl) (fun X hX hN => ?_)
    show J G base X 0 0 M 0 [some (.ref a), some (.int x), none, none] []
    refine r_iload_n hX dX10_letters_0 rfl ?_
    refine r_if_lt (tgt := 10) hX dX10_letters_1 (by decide) (fun c1 => ?_) (fun c1 => ?_)
    · refine r_throw hX thI1 dX10_letters_10 dX10_letters_13 dX10_letters_14 dX10_letters_17 (by decide) (by decide) (by decide) rfl ?_ (Nat.le_of_ble_eq_true rfl)
      exact rC.n0 (k := 1) (by unfold rs_letters; rw [ix_no hw]) rfl hC
    · refine r_iload_n hX dX10_letters_4 rfl ?_
      refine r_bipush (v := 8) hX dX10_letters_5 (by decide) ?_
      refine r_icmp_le (tgt := 18) hX dX10_letters_7 (by decide) (fun c7 => by obtain ⟨q, hq, e⟩ := nI_of (x := x) c1; subst e; rw [show (8 : Int32) = nI 8 from rfl, nI_leI hq (by omega)] at c7; exact absurd ⟨q, by omega, rfl⟩ hw) (fun c7 => ?_)
      refine r_throw hX thI1 dX10_letters_10 dX10_letters_13 dX10_letters_14 dX10_letters_17 (by decide) (by decide) (by decide) rfl ?_ (Nat.le_of_ble_eq_true rfl)
      exact rC.n0 (k := 1) (by unfold rs_letters; rw [ix_no hw]) rfl hC

