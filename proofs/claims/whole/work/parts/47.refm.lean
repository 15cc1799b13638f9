variable {G : GG} {base : Nat}
set_option maxHeartbeats 2000000 in
set_option maxRecDepth 20000 in
theorem t_X11_stop {M : Mm} {a : Nat} {σ : Sg} {T : Nat} (hL : LX11 M.1 M.2.1 a) (hR : RI (mI M) a σ) (hO : OkN T σ.1) (hT9 : T < 890000) {x y z : Int32} : Ct G base YX11_stop 4 0 0 [.ref a, .int x, .int y, .int z] M (rV M (pQ M a (rs_stop σ x y z) σ)) := by
  obtain ⟨hT, hS, hLt, h4, h5, h6, hLo, hSt, hN⟩ := hO
  have h0 := hT.1
  have h1 := hT.2.1
  have hr := hT.2.2
  have h2 := hLt.1
  have h3 := hLt.2.1
  have hb0 := h0.2
  have hb1 := h1.2
  have hb2 := h2.2
  have hb3 := h3.2
  have hb4 := h4.2
  have ht6 : σ.1 6 = nI (nv σ.1 6) := h6.1
  have hh6 : nv σ.1 6 ≤ T := h6.2
  by_cases hx : ∃ c, c < nv σ.1 1 ∧ x = nI c
  · obtain ⟨c, hc, rfl⟩ := hx
    by_cases hw : ∃ w, w < 7 ∧ y = nI w
    · obtain ⟨w, hw, rfl⟩ := hw
      have hct := (hr c (by omega) w hw).1
      have hcb := hct.2
      have hat := rtA_b (c := c) (w := w) (by omega) hw
      by_cases hk : ∃ k, k < nv σ.1 (rtA c w) ∧ z = nI k
      · obtain ⟨k, hk, rfl⟩ := hk
        refine Ct.of IX11_stop.1 (by simp [Value.category]) (Nat.le_of_ble_eq_true rfl) (fun X hX hN => ?_)
        show J G base X 0 0 M 0 [some (.ref a), some (.int (nI c)), some (.int (nI w)), some (.int (nI k)), none] []
        refine r_aload_n hX dX11_stop_0 rfl ?_
        refine r_iconst (v := nI 0) hX dX11_stop_1 (by decide) ?_
        refine r_puti hX dX11_stop_2 fl_X11_3 rfl rfl (LX11_s hL) ?_
        refine J.gen (M0 := M) rfl (fun i0 h00 => ?_)
        obtain ⟨hR0, hn0, ht0, ho0⟩ := pub0 hR h00
        clear h00
        refine r_aload_n hX dX11_stop_5 rfl ?_
        refine r_iload_n hX dX11_stop_6 rfl ?_
        refine r_cV1 hX dX11_stop_7 IX11_noCarrier ml_X11_286 rfl (LX11_s hL) rfl (t_X11_noCarrier1 (M := wI M i0) hL hn0 h1 ⟨c, hc, rfl⟩) (by decide) (by decide) (by decide) (by decide) rfl (Nat.le_of_ble_eq_true rfl) ?_
        refine r_if_ne (tgt := 36) hX dX11_stop_10 (by decide) (fun c10 => absurd c10 (by decide)) (fun c10 => ?_)
        refine r_aload_n hX dX11_stop_13 rfl ?_
        refine r_iload_n hX dX11_stop_14 rfl ?_
        refine r_iconst (v := nI 0) hX dX11_stop_15 (by decide) ?_
        refine r_bipush (v := nI 6) hX dX11_stop_16 (by decide) ?_
        refine r_cS3 hX dX11_stop_18 IX11_in ml_X11_79 rfl (t_X11_in (M := wI M i0) ) (by decide) (by decide) (by decide) (by decide) rfl (Nat.le_of_ble_eq_true rfl) ?_
        refine rb_if_ne (tgt := 28) hX dX11_stop_21 (by decide) rfl (fun c21 => ?_) (fun c21 => absurd ((rng2 (m := 6) (by omega)).mpr ⟨w, hw, rfl⟩) c21)
        refine r_iconst (v := nI 0) hX dX11_stop_28 (by decide) ?_
        refine r_iconst (v := nI 2) hX dX11_stop_29 (by decide) ?_
        refine r_cV2 hX dX11_stop_30 IX11_throwsIf ml_X11_215 rfl (LX11_s hL) rfl (t_X11_throwsIf0 (M := wI M i0) hL) (by decide) (by decide) (by decide) (by decide) rfl (Nat.le_of_ble_eq_true rfl) ?_
        refine r_if_eq (tgt := 38) hX dX11_stop_33 (by decide) (fun c33 => ?_) (fun c33 => absurd c33 (by decide))
        refine r_aload_n hX dX11_stop_38 rfl ?_
        refine r_iload_n hX dX11_stop_39 rfl ?_
        refine r_iload_n hX dX11_stop_40 rfl ?_
        refine r_cV2 hX dX11_stop_41 IX11_routeAt ml_X11_83 rfl (LX11_s hL) rfl (t_X11_routeAt (M := wI M i0) ) (by decide) (by decide) (by decide) (by decide) rfl (Nat.le_of_ble_eq_true rfl) ?_
        refine r_istore4 hX dX11_stop_44 rfl ?_
        refine r_iload_n hX dX11_stop_46 rfl ?_
        refine r_iconst (v := nI 0) hX dX11_stop_47 (by decide) ?_
        refine r_aload_n hX dX11_stop_48 rfl ?_
        refine r_getr hX dX11_stop_49 fl_X11_13 rfl (LX11_s hL) (LX11_r1 hL) ?_
        refine r_iload hX dX11_stop_52 rfl ?_
        refine rn_iald hX dX11_stop_54 (LX11_a1 hL) rfl (by omega) (by omega) ?_
        rw [hn0]
        rw [hct.1]
        refine r_iconst (v := 1) hX dX11_stop_55 (by decide) ?_
        refine r_isub hX dX11_stop_56 ?_
        refine r_cS3 hX dX11_stop_57 IX11_in ml_X11_79 rfl (t_X11_in (M := wI M i0) ) (by decide) (by decide) (by decide) (by decide) rfl (Nat.le_of_ble_eq_true rfl) ?_
        refine rb_if_eq (tgt := 96) hX dX11_stop_60 (by decide) rfl (fun c60 => absurd ((rng (by omega)).mpr ⟨k, hk, rfl⟩) c60) (fun c60 => ?_)
        refine r_bipush (v := 100) hX dX11_stop_63 (by decide) ?_
        refine r_aload_n hX dX11_stop_65 rfl ?_
        refine r_getr hX dX11_stop_66 fl_X11_13 rfl (LX11_s hL) (LX11_r1 hL) ?_
        refine r_iload hX dX11_stop_69 rfl ?_
        refine r_iconst (v := nI 1) hX dX11_stop_71 (by decide) ?_
        refine rn_iadd hX dX11_stop_72 rfl rfl ?_
        refine r_iconst (v := nI 2) hX dX11_stop_73 (by decide) ?_
        refine r_iload_n hX dX11_stop_74 rfl ?_
        refine rn_imul hX dX11_stop_75 rfl rfl ?_
        refine rn_iadd hX dX11_stop_76 rfl rfl ?_
        refine rn_iald hX dX11_stop_77 (LX11_a1 hL) rfl (by omega) (by omega) ?_
        rw [hn0]
        refine r_imul hX dX11_stop_78 ?_
        refine r_aload_n hX dX11_stop_79 rfl ?_
        refine r_getr hX dX11_stop_80 fl_X11_13 rfl (LX11_s hL) (LX11_r1 hL) ?_
        refine r_iload hX dX11_stop_83 rfl ?_
        refine r_iconst (v := nI 2) hX dX11_stop_85 (by decide) ?_
        refine rn_iadd hX dX11_stop_86 rfl rfl ?_
        refine r_iconst (v := nI 2) hX dX11_stop_87 (by decide) ?_
        refine r_iload_n hX dX11_stop_88 rfl ?_
        refine rn_imul hX dX11_stop_89 rfl rfl ?_
        refine rn_iadd hX dX11_stop_90 rfl rfl ?_
        refine rn_iald hX dX11_stop_91 (LX11_a1 hL) rfl (by omega) (by omega) ?_
        rw [hn0]
        refine r_iadd hX dX11_stop_92 ?_
        refine r_goto (tgt := 97) hX dX11_stop_93 (by decide) ?_
        refine r_ireturn hX rfl rfl dX11_stop_97 (by decide) (by decide) ?_
        refine ⟨_, i0, rfl, rfl, hR0, ?_, ho0⟩
        unfold rs_stop
        rw [ix_of hc (by omega)]
        dsimp only
        rw [ix_of hw (by omega)]
        dsimp only
        rw [ix_of hk (by omega)]
        exact ⟨rfl, ht0⟩
      · refine Ct.of IX11_stop.1 (by simp [Value.category]) (Nat.le_of_ble_eq_true rfl) (fun X hX hN => ?_)
        show J G base X 0 0 M 0 [some (.ref a), some (.int (nI c)), some (.int (nI w)), some (.int z), none] []
        refine r_aload_n hX dX11_stop_0 rfl ?_
        refine r_iconst (v := nI 0) hX dX11_stop_1 (by decide) ?_
        refine r_puti hX dX11_stop_2 fl_X11_3 rfl rfl (LX11_s hL) ?_
        refine J.gen (M0 := M) rfl (fun i0 h00 => ?_)
        obtain ⟨hR0, hn0, ht0, ho0⟩ := pub0 hR h00
        clear h00
        refine r_aload_n hX dX11_stop_5 rfl ?_
        refine r_iload_n hX dX11_stop_6 rfl ?_
        refine r_cV1 hX dX11_stop_7 IX11_noCarrier ml_X11_286 rfl (LX11_s hL) rfl (t_X11_noCarrier1 (M := wI M i0) hL hn0 h1 ⟨c, hc, rfl⟩) (by decide) (by decide) (by decide) (by decide) rfl (Nat.le_of_ble_eq_true rfl) ?_
        refine r_if_ne (tgt := 36) hX dX11_stop_10 (by decide) (fun c10 => absurd c10 (by decide)) (fun c10 => ?_)
        refine r_aload_n hX dX11_stop_13 rfl ?_
        refine r_iload_n hX dX11_stop_14 rfl ?_
        refine r_iconst (v := nI 0) hX dX11_stop_15 (by decide) ?_
        refine r_bipush (v := nI 6) hX dX11_stop_16 (by decide) ?_
        refine r_cS3 hX dX11_stop_18 IX11_in ml_X11_79 rfl (t_X11_in (M := wI M i0) ) (by decide) (by decide) (by decide) (by decide) rfl (Nat.le_of_ble_eq_true rfl) ?_
        refine rb_if_ne (tgt := 28) hX dX11_stop_21 (by decide) rfl (fun c21 => ?_) (fun c21 => absurd ((rng2 (m := 6) (by omega)).mpr ⟨w, hw, rfl⟩) c21)
        refine r_iconst (v := nI 0) hX dX11_stop_28 (by decide) ?_
        refine r_iconst (v := nI 2) hX dX11_stop_29 (by decide) ?_
        refine r_cV2 hX dX11_stop_30 IX11_throwsIf ml_X11_215 rfl (LX11_s hL) rfl (t_X11_throwsIf0 (M := wI M i0) hL) (by decide) (by decide) (by decide) (by decide) rfl (Nat.le_of_ble_eq_true rfl) ?_
        refine r_if_eq (tgt := 38) hX dX11_stop_33 (by decide) (fun c33 => ?_) (fun c33 => absurd c33 (by decide))
        refine r_aload_n hX dX11_stop_38 rfl ?_
        refine r_iload_n hX dX11_stop_39 rfl ?_
        refine r_iload_n hX dX11_stop_40 rfl ?_
        refine r_cV2 hX dX11_stop_41 IX11_routeAt ml_X11_83 rfl (LX11_s hL) rfl (t_X11_routeAt (M := wI M i0) ) (by decide) (by decide) (by decide) (by decide) rfl (Nat.le_of_ble_eq_true rfl) ?_
        refine r_istore4 hX dX11_stop_44 rfl ?_
        refine r_iload_n hX dX11_stop_46 rfl ?_
        refine r_iconst (v := nI 0) hX dX11_stop_47 (by decide) ?_
        refine r_aload_n hX dX11_stop_48 rfl ?_
        refine r_getr hX dX11_stop_49 fl_X11_13 rfl (LX11_s hL) (LX11_r1 hL) ?_
        refine r_iload hX dX11_stop_52 rfl ?_
        refine rn_iald hX dX11_stop_54 (LX11_a1 hL) rfl (by omega) (by omega) ?_
        rw [hn0]
        rw [hct.1]
        refine r_iconst (v := 1) hX dX11_stop_55 (by decide) ?_
        refine r_isub hX dX11_stop_56 ?_
        refine r_cS3 hX dX11_stop_57 IX11_in ml_X11_79 rfl (t_X11_in (M := wI M i0) ) (by decide) (by decide) (by decide) (by decide) rfl (Nat.le_of_ble_eq_true rfl) ?_
        refine rb_if_eq (tgt := 96) hX dX11_stop_60 (by decide) rfl (fun c60 => ?_) (fun c60 => absurd ((rng (by omega)).mp c60) hk)
        refine r_iconst (v := (-1)) hX dX11_stop_96 (by decide) ?_
        refine r_ireturn hX rfl rfl dX11_stop_97 (by decide) (by decide) ?_
        refine ⟨_, i0, rfl, rfl, hR0, ?_, ho0⟩
        unfold rs_stop
        rw [ix_of hc (by omega)]
        dsimp only
        rw [ix_of hw (by omega)]
        dsimp only
        rw [ix_no hk]
        exact ⟨rfl, ht0⟩
    · refine Ct.of IX11_stop.1 (by simp [Value.category]) (Nat.le_of_ble_eq_true rfl) (fun X hX hN => ?_)
      show J G base X 0 0 M 0 [some (.ref a), some (.int (nI c)), some (.int y), some (.int z), none] []
      refine r_aload_n hX dX11_stop_0 rfl ?_
      refine r_iconst (v := nI 0) hX dX11_stop_1 (by decide) ?_
      refine r_puti hX dX11_stop_2 fl_X11_3 rfl rfl (LX11_s hL) ?_
      refine J.gen (M0 := M) rfl (fun i0 h00 => ?_)
      obtain ⟨hR0, hn0, ht0, ho0⟩ := pub0 hR h00
      clear h00
      refine r_aload_n hX dX11_stop_5 rfl ?_
      refine r_iload_n hX dX11_stop_6 rfl ?_
      refine r_cV1 hX dX11_stop_7 IX11_noCarrier ml_X11_286 rfl (LX11_s hL) rfl (t_X11_noCarrier1 (M := wI M i0) hL hn0 h1 ⟨c, hc, rfl⟩) (by decide) (by decide) (by decide) (by decide) rfl (Nat.le_of_ble_eq_true rfl) ?_
      refine r_if_ne (tgt := 36) hX dX11_stop_10 (by decide) (fun c10 => absurd c10 (by decide)) (fun c10 => ?_)
      refine r_aload_n hX dX11_stop_13 rfl ?_
      refine r_iload_n hX dX11_stop_14 rfl ?_
      refine r_iconst (v := nI 0) hX dX11_stop_15 (by decide) ?_
      refine r_bipush (v := nI 6) hX dX11_stop_16 (by decide) ?_
      refine r_cS3 hX dX11_stop_18 IX11_in ml_X11_79 rfl (t_X11_in (M := wI M i0) ) (by decide) (by decide) (by decide) (by decide) rfl (Nat.le_of_ble_eq_true rfl) ?_
      refine rb_if_ne (tgt := 28) hX dX11_stop_21 (by decide) rfl (fun c21 => absurd ((rng2 (m := 6) (by omega)).mp c21) hw) (fun c21 => ?_)
      refine r_iconst (v := nI 1) hX dX11_stop_24 (by decide) ?_
      refine r_goto (tgt := 29) hX dX11_stop_25 (by decide) ?_
      refine r_iconst (v := nI 2) hX dX11_stop_29 (by decide) ?_
      refine r_cV2 hX dX11_stop_30 IX11_throwsIf ml_X11_215 rfl (LX11_s hL) rfl (t_X11_throwsIf1 (M := wI M i0) hL) (by decide) (by decide) (by decide) (by decide) rfl (Nat.le_of_ble_eq_true rfl) ?_
      refine r_if_eq (tgt := 38) hX dX11_stop_33 (by decide) (fun c33 => absurd c33 (by decide)) (fun c33 => ?_)
      refine r_iconst (v := 0) hX dX11_stop_36 (by decide) ?_
      refine r_ireturn hX rfl rfl dX11_stop_37 (by decide) (by decide) ?_
      obtain ⟨q1, q2, q3⟩ := pub1 hR0 ho0 2
      refine ⟨_, mI (uI (wI M i0) a 0 2), rfl, rfl, q1, ?_, q3⟩
      unfold rs_stop
      rw [ix_of hc (by omega)]
      dsimp only
      rw [ix_no hw]
      exact q2
  · refine Ct.of IX11_stop.1 (by simp [Value.category]) (Nat.le_of_ble_eq_true rfl) (fun X hX hN => ?_)
    show J G base X 0 0 M 0 [some (.ref a), some (.int x), some (.int y), some (.int z), none] []
    refine r_aload_n hX dX11_stop_0 rfl ?_
    refine r_iconst (v := nI 0) hX dX11_stop_1 (by decide) ?_
    refine r_puti hX dX11_stop_2 fl_X11_3 rfl rfl (LX11_s hL) ?_
    refine J.gen (M0 := M) rfl (fun i0 h00 => ?_)
    obtain ⟨hR0, hn0, ht0, ho0⟩ := pub0 hR h00
    clear h00
    refine r_aload_n hX dX11_stop_5 rfl ?_
    refine r_iload_n hX dX11_stop_6 rfl ?_
    refine r_cV1 hX dX11_stop_7 IX11_noCarrier ml_X11_286 rfl (LX11_s hL) rfl (t_X11_noCarrier0 (M := wI M i0) hL hn0 h1 hx) (by decide) (by decide) (by decide) (by decide) rfl (Nat.le_of_ble_eq_true rfl) ?_
    refine r_if_ne (tgt := 36) hX dX11_stop_10 (by decide) (fun c10 => ?_) (fun c10 => absurd c10 (by decide))
    refine r_iconst (v := 0) hX dX11_stop_36 (by decide) ?_
    refine r_ireturn hX rfl rfl dX11_stop_37 (by decide) (by decide) ?_
    obtain ⟨q1, q2, q3⟩ := pub1 hR0 ho0 1
    refine ⟨_, mI (uI (wI M i0) a 0 1), rfl, rfl, q1, ?_, q3⟩
    unfold rs_stop
    rw [ix_no hx]
    exact q2

set_option maxHeartbeats 2000000 in
set_option maxRecDepth 20000 in
theorem t_X11_letter {M : Mm} {a : Nat} {σ : Sg} {T : Nat} (hL : LX11 M.1 M.2.1 a) (hR : RI (mI M) a σ) (hO : OkN T σ.1) (hT9 : T < 890000) {x y : Int32} : Ct G base YX11_letter 4 0 0 [.ref a, .int x, .int y] M (rV M (pQ M a (rs_letter σ x y) σ)) := by
  obtain ⟨hT, hS, hLt, h4, h5, h6, hLo, hSt, hN⟩ := hO
  have h0 := hT.1
  have h1 := hT.2.1
  have hr := hT.2.2
  have h2 := hLt.1
  have h3 := hLt.2.1
  have hb0 := h0.2
  have hb1 := h1.2
  have hb2 := h2.2
  have hb3 := h3.2
  have hb4 := h4.2
  have ht6 : σ.1 6 = nI (nv σ.1 6) := h6.1
  have hh6 : nv σ.1 6 ≤ T := h6.2
  by_cases hx : ∃ c, c < nv σ.1 2 ∧ x = nI c
  · obtain ⟨l, hl, rfl⟩ := hx
    by_cases hw : ∃ w, w < 9 ∧ y = nI w
    · obtain ⟨w, hw, rfl⟩ := hw
      refine Ct.of IX11_letter.1 (by simp [Value.category]) (Nat.le_of_ble_eq_true rfl) (fun X hX hN => ?_)
      show J G base X 0 0 M 0 [some (.ref a), some (.int (nI l)), some (.int (nI w))] []
      refine r_aload_n hX dX11_letter_0 rfl ?_
      refine r_iconst (v := nI 0) hX dX11_letter_1 (by decide) ?_
      refine r_puti hX dX11_letter_2 fl_X11_3 rfl rfl (LX11_s hL) ?_
      refine J.gen (M0 := M) rfl (fun i0 h00 => ?_)
      obtain ⟨hR0, hn0, ht0, ho0⟩ := pub0 hR h00
      clear h00
      refine r_aload_n hX dX11_letter_5 rfl ?_
      refine r_iload_n hX dX11_letter_6 rfl ?_
      refine r_cV1 hX dX11_letter_7 IX11_noLetter ml_X11_298 rfl (LX11_s hL) rfl (t_X11_noLetter1 (M := wI M i0) hL hn0 h2 ⟨l, hl, rfl⟩) (by decide) (by decide) (by decide) (by decide) rfl (Nat.le_of_ble_eq_true rfl) ?_
      refine r_if_ne (tgt := 36) hX dX11_letter_10 (by decide) (fun c10 => absurd c10 (by decide)) (fun c10 => ?_)
      refine r_aload_n hX dX11_letter_13 rfl ?_
      refine r_iload_n hX dX11_letter_14 rfl ?_
      refine r_iconst (v := nI 0) hX dX11_letter_15 (by decide) ?_
      refine r_bipush (v := nI 8) hX dX11_letter_16 (by decide) ?_
      refine r_cS3 hX dX11_letter_18 IX11_in ml_X11_79 rfl (t_X11_in (M := wI M i0) ) (by decide) (by decide) (by decide) (by decide) rfl (Nat.le_of_ble_eq_true rfl) ?_
      refine rb_if_ne (tgt := 28) hX dX11_letter_21 (by decide) rfl (fun c21 => ?_) (fun c21 => absurd ((rng2 (m := 8) (by omega)).mpr ⟨w, hw, rfl⟩) c21)
      refine r_iconst (v := nI 0) hX dX11_letter_28 (by decide) ?_
      refine r_iconst (v := nI 2) hX dX11_letter_29 (by decide) ?_
      refine r_cV2 hX dX11_letter_30 IX11_throwsIf ml_X11_215 rfl (LX11_s hL) rfl (t_X11_throwsIf0 (M := wI M i0) hL) (by decide) (by decide) (by decide) (by decide) rfl (Nat.le_of_ble_eq_true rfl) ?_
      refine r_if_eq (tgt := 40) hX dX11_letter_33 (by decide) (fun c33 => ?_) (fun c33 => absurd c33 (by decide))
      refine r_aload_n hX dX11_letter_40 rfl ?_
      refine r_iload_n hX dX11_letter_41 rfl ?_
      refine r_iload_n hX dX11_letter_42 rfl ?_
      refine r_cV2 hX dX11_letter_43 IX11_of ml_X11_67 rfl (LX11_s hL) rfl (t_X11_of (M := wI M i0) hL hn0 (by omega) (by omega)) (by decide) (by decide) (by decide) (by decide) rfl (Nat.le_of_ble_eq_true rfl) ?_
      refine r_ireturn hX rfl rfl dX11_letter_46 (by decide) (by decide) ?_
      refine ⟨_, i0, rfl, rfl, hR0, ?_, ho0⟩
      unfold rs_letter
      rw [ix_of hl (by omega)]
      dsimp only
      rw [ix_of hw (by omega)]
      exact ⟨rfl, ht0⟩
    · refine Ct.of IX11_letter.1 (by simp [Value.category]) (Nat.le_of_ble_eq_true rfl) (fun X hX hN => ?_)
      show J G base X 0 0 M 0 [some (.ref a), some (.int (nI l)), some (.int y)] []
      refine r_aload_n hX dX11_letter_0 rfl ?_
      refine r_iconst (v := nI 0) hX dX11_letter_1 (by decide) ?_
      refine r_puti hX dX11_letter_2 fl_X11_3 rfl rfl (LX11_s hL) ?_
      refine J.gen (M0 := M) rfl (fun i0 h00 => ?_)
      obtain ⟨hR0, hn0, ht0, ho0⟩ := pub0 hR h00
      clear h00
      refine r_aload_n hX dX11_letter_5 rfl ?_
      refine r_iload_n hX dX11_letter_6 rfl ?_
      refine r_cV1 hX dX11_letter_7 IX11_noLetter ml_X11_298 rfl (LX11_s hL) rfl (t_X11_noLetter1 (M := wI M i0) hL hn0 h2 ⟨l, hl, rfl⟩) (by decide) (by decide) (by decide) (by decide) rfl (Nat.le_of_ble_eq_true rfl) ?_
      refine r_if_ne (tgt := 36) hX dX11_letter_10 (by decide) (fun c10 => absurd c10 (by decide)) (fun c10 => ?_)
      refine r_aload_n hX dX11_letter_13 rfl ?_
      refine r_iload_n hX dX11_letter_14 rfl ?_
      refine r_iconst (v := nI 0) hX dX11_letter_15 (by decide) ?_
      refine r_bipush (v := nI 8) hX dX11_letter_16 (by decide) ?_
      refine r_cS3 hX dX11_letter_18 IX11_in ml_X11_79 rfl (t_X11_in (M := wI M i0) ) (by decide) (by decide) (by decide) (by decide) rfl (Nat.le_of_ble_eq_true rfl) ?_
      refine rb_if_ne (tgt := 28) hX dX11_letter_21 (by decide) rfl (fun c21 => absurd ((rng2 (m := 8) (by omega)).mp c21) hw) (fun c21 => ?_)
      refine r_iconst (v := nI 1) hX dX11_letter_24 (by decide) ?_
      refine r_goto (tgt := 29) hX dX11_letter_25 (by decide) ?_
      refine r_iconst (v := nI 2) hX dX11_letter_29 (by decide) ?_
      refine r_cV2 hX dX11_letter_30 IX11_throwsIf ml_X11_215 rfl (LX11_s hL) rfl (t_X11_throwsIf1 (M := wI M i0) hL) (by decide) (by decide) (by decide) (by decide) rfl (Nat.le_of_ble_eq_true rfl) ?_
      refine r_if_eq (tgt := 40) hX dX11_letter_33 (by decide) (fun c33 => absurd c33 (by decide)) (fun c33 => ?_)
      refine r_iconst (v := 0) hX dX11_letter_36 (by decide) ?_
      refine r_goto (tgt := 46) hX dX11_letter_37 (by decide) ?_
      refine r_ireturn hX rfl rfl dX11_letter_46 (by decide) (by decide) ?_
      obtain ⟨q1, q2, q3⟩ := pub1 hR0 ho0 2
      refine ⟨_, mI (uI (wI M i0) a 0 2), rfl, rfl, q1, ?_, q3⟩
      unfold rs_letter
      rw [ix_of hl (by omega)]
      dsimp only
      rw [ix_no hw]
      exact q2
  · refine Ct.of IX11_letter.1 (by simp [Value.category]) (Nat.le_of_ble_eq_true rfl) (fun X hX hN => ?_)
    show J G base X 0 0 M 0 [some (.ref a), some (.int x), some (.int y)] []
    refine r_aload_n hX dX11_letter_0 rfl ?_
    refine r_iconst (v := nI 0) hX dX11_letter_1 (by decide) ?_
    refine r_puti hX dX11_letter_2 fl_X11_3 rfl rfl (LX11_s hL) ?_
    refine J.gen (M0 := M) rfl (fun i0 h00 => ?_)
    obtain ⟨hR0, hn0, ht0, ho0⟩ := pub0 hR h00
    clear h00
    refine r_aload_n hX dX11_letter_5 rfl ?_
    refine r_iload_n hX dX11_letter_6 rfl ?_
    refine r_cV1 hX dX11_letter_7 IX11_noLetter ml_X11_298 rfl (LX11_s hL) rfl (t_X11_noLetter0 (M := wI M i0) hL hn0 h2 hx) (by decide) (by decide) (by decide) (by decide) rfl (Nat.le_of_ble_eq_true rfl) ?_
    refine r_if_ne (tgt := 36) hX dX11_letter_10 (by decide) (fun c10 => ?_) (fun c10 => absurd c10 (by decide))
    refine r_iconst (v := 0) hX dX11_letter_36 (by decide) ?_
    refine r_goto (tgt := 46) hX dX11_letter_37 (by decide) ?_
    refine r_ireturn hX rfl rfl dX11_letter_46 (by decide) (by decide) ?_
    obtain ⟨q1, q2, q3⟩ := pub1 hR0 ho0 1
    refine ⟨_, mI (uI (wI M i0) a 0 1), rfl, rfl, q1, ?_, q3⟩
    unfold rs_letter
    rw [ix_no hx]
    exact q2

set_option maxHeartbeats 2000000 in
set_option maxRecDepth 20000 in
theorem t_X11_suspects {M : Mm} {a : Nat} {σ : Sg} {T : Nat} (hL : LX11 M.1 M.2.1 a) (hR : RI (mI M) a σ) (hO : OkN T σ.1) (hT9 : T < 890000) {x : Int32} : Ct G base YX11_suspects 4 0 0 [.ref a, .int x] M (rV M (pQ M a (rs_suspects σ x) σ)) := by
  obtain ⟨hT, hS, hLt, h4, h5, h6, hLo, hSt, hN⟩ := hO
  have h0 := hT.1
  have h1 := hT.2.1
  have hr := hT.2.2
  have h2 := hLt.1
  have h3 := hLt.2.1
  have hb0 := h0.2
  have hb1 := h1.2
  have hb2 := h2.2
  have hb3 := h3.2
  have hb4 := h4.2
  have ht6 : σ.1 6 = nI (nv σ.1 6) := h6.1
  have hh6 : nv σ.1 6 ≤ T := h6.2
  by_cases hx : ∃ c, c < nv σ.1 2 ∧ x = nI c
  · obtain ⟨l, hl, rfl⟩ := hx
    refine Ct.of IX11_suspects.1 (by simp [Value.category]) (Nat.le_of_ble_eq_true rfl) (fun X hX hN => ?_)
    show J G base X 0 0 M 0 [some (.ref a), some (.int (nI l))] []
    refine r_aload_n hX dX11_suspects_0 rfl ?_
    refine r_iconst (v := nI 0) hX dX11_suspects_1 (by decide) ?_
    refine r_puti hX dX11_suspects_2 fl_X11_3 rfl rfl (LX11_s hL) ?_
    refine J.gen (M0 := M) rfl (fun i0 h00 => ?_)
    obtain ⟨hR0, hn0, ht0, ho0⟩ := pub0 hR h00
    clear h00
    refine r_aload_n hX dX11_suspects_5 rfl ?_
    refine r_iload_n hX dX11_suspects_6 rfl ?_
    refine r_cV1 hX dX11_suspects_7 IX11_noLetter ml_X11_298 rfl (LX11_s hL) rfl (t_X11_noLetter1 (M := wI M i0) hL hn0 h2 ⟨l, hl, rfl⟩) (by decide) (by decide) (by decide) (by decide) rfl (Nat.le_of_ble_eq_true rfl) ?_
    refine r_if_ne (tgt := 23) hX dX11_suspects_10 (by decide) (fun c10 => absurd c10 (by decide)) (fun c10 => ?_)
    refine r_aload_n hX dX11_suspects_13 rfl ?_
    refine r_iload_n hX dX11_suspects_14 rfl ?_
    refine r_iconst (v := nI 3) hX dX11_suspects_15 (by decide) ?_
    refine r_cV2 hX dX11_suspects_16 IX11_of ml_X11_67 rfl (LX11_s hL) rfl (t_X11_of (M := wI M i0) hL hn0 (by omega) (by decide)) (by decide) (by decide) (by decide) (by decide) rfl (Nat.le_of_ble_eq_true rfl) ?_
    refine r_iconst (v := 3) hX dX11_suspects_19 (by decide) ?_
    refine r_icmp_eq (tgt := 25) hX dX11_suspects_20 (by decide) (fun c20 => ?_) (fun c20 => ?_)
    · refine r_aload_n hX dX11_suspects_25 rfl ?_
      refine r_iload_n hX dX11_suspects_26 rfl ?_
      refine r_iconst (v := nI 2) hX dX11_suspects_27 (by decide) ?_
      refine r_cV2 hX dX11_suspects_28 IX11_of ml_X11_67 rfl (LX11_s hL) rfl (t_X11_of (M := wI M i0) hL hn0 (by omega) (by decide)) (by decide) (by decide) (by decide) (by decide) rfl (Nat.le_of_ble_eq_true rfl) ?_
      refine r_if_ne (tgt := 44) hX dX11_suspects_31 (by decide) (fun c31 => ?_) (fun c31 => ?_)
      · have e3 : σ.1 (498 + 10 * l + 3) = 3 := c20
        have e4 : σ.1 (498 + 10 * l + 4) = nI (nv σ.1 (498 + 10 * l + 4)) ∧ nv σ.1 (498 + 10 * l + 4) < 30 := by
          obtain ⟨f, t, v, s, w, -, -, -, k3, k4, -, -, -, -, k5, -, -, -, k9, -⟩ := hLt.2.2 l hl
          have hs : s = 3 := by
            rw [k3] at e3
            exact (nI_eq (a := s) (b := 3) (by omega) (by omega)).mp e3
          have hw := k9 hs
          rw [nv_of k4 (by omega)]
          exact ⟨k4, by omega⟩
        refine r_iconst (v := 1) hX dX11_suspects_44 (by decide) ?_
        refine r_aload_n hX dX11_suspects_45 rfl ?_
        refine r_getr hX dX11_suspects_46 fl_X11_13 rfl (LX11_s hL) (LX11_r1 hL) ?_
        refine r_sipush (v := nI 798) hX dX11_suspects_49 (by decide) ?_
        refine r_iconst (v := nI 2) hX dX11_suspects_52 (by decide) ?_
        refine r_aload_n hX dX11_suspects_53 rfl ?_
        refine r_iload_n hX dX11_suspects_54 rfl ?_
        refine r_iconst (v := nI 4) hX dX11_suspects_55 (by decide) ?_
        refine r_cV2 hX dX11_suspects_56 IX11_of ml_X11_67 rfl (LX11_s hL) rfl (t_X11_of (M := wI M i0) hL hn0 (by omega) (by decide)) (by decide) (by decide) (by decide) (by decide) rfl (Nat.le_of_ble_eq_true rfl) ?_
        rw [e4.1]
        refine rn_imul hX dX11_suspects_59 rfl rfl ?_
        refine rn_iadd hX dX11_suspects_60 rfl rfl ?_
        refine rn_iald hX dX11_suspects_61 (LX11_a1 hL) rfl (by omega) (by omega) ?_
        rw [hn0]
        refine r_ishl hX dX11_suspects_62 ?_
        refine r_ireturn hX rfl rfl dX11_suspects_63 (by decide) (by decide) ?_
        refine ⟨_, i0, rfl, rfl, hR0, ?_, ho0⟩
        unfold rs_suspects
        rw [ix_of hl (by omega)]
        exact ⟨by first | exact ((if_pos c20).trans (if_pos c31)).symm | exact ((if_pos c20).trans (if_neg c31)).symm, ht0⟩
      · refine r_aload_n hX dX11_suspects_34 rfl ?_
        refine r_iload_n hX dX11_suspects_35 rfl ?_
        refine r_bipush (v := nI 9) hX dX11_suspects_36 (by decide) ?_
        refine r_cV2 hX dX11_suspects_38 IX11_of ml_X11_67 rfl (LX11_s hL) rfl (t_X11_of (M := wI M i0) hL hn0 (by omega) (by decide)) (by decide) (by decide) (by decide) (by decide) rfl (Nat.le_of_ble_eq_true rfl) ?_
        refine r_goto (tgt := 63) hX dX11_suspects_41 (by decide) ?_
        refine r_ireturn hX rfl rfl dX11_suspects_63 (by decide) (by decide) ?_
        refine ⟨_, i0, rfl, rfl, hR0, ?_, ho0⟩
        unfold rs_suspects
        rw [ix_of hl (by omega)]
        exact ⟨by first | exact ((if_pos c20).trans (if_pos c31)).symm | exact ((if_pos c20).trans (if_neg c31)).symm, ht0⟩
    · refine r_iconst (v := 0) hX dX11_suspects_23 (by decide) ?_
      refine r_ireturn hX rfl rfl dX11_suspects_24 (by decide) (by decide) ?_
      refine ⟨_, i0, rfl, rfl, hR0, ?_, ho0⟩
      unfold rs_suspects
      rw [ix_of hl (by omega)]
      exact ⟨(if_neg c20).symm, ht0⟩
  · refine Ct.of IX11_suspects.1 (by simp [Value.category]) (Nat.le_of_ble_eq_true rfl) (fun X hX hN => ?_)
    show J G base X 0 0 M 0 [some (.ref a), some (.int x)] []
    refine r_aload_n hX dX11_suspects_0 rfl ?_
    refine r_iconst (v := nI 0) hX dX11_suspects_1 (by decide) ?_
    refine r_puti hX dX11_suspects_2 fl_X11_3 rfl rfl (LX11_s hL) ?_
    refine J.gen (M0 := M) rfl (fun i0 h00 => ?_)
    obtain ⟨hR0, hn0, ht0, ho0⟩ := pub0 hR h00
    clear h00
    refine r_aload_n hX dX11_suspects_5 rfl ?_
    refine r_iload_n hX dX11_suspects_6 rfl ?_
    refine r_cV1 hX dX11_suspects_7 IX11_noLetter ml_X11_298 rfl (LX11_s hL) rfl (t_X11_noLetter0 (M := wI M i0) hL hn0 h2 hx) (by decide) (by decide) (by decide) (by decide) rfl (Nat.le_of_ble_eq_true rfl) ?_
    refine r_if_ne (tgt := 23) hX dX11_suspects_10 (by decide) (fun c10 => ?_) (fun c10 => absurd c10 (by decide))
    refine r_iconst (v := 0) hX dX11_suspects_23 (by decide) ?_
    refine r_ireturn hX rfl rfl dX11_suspects_24 (by decide) (by decide) ?_
    obtain ⟨q1, q2, q3⟩ := pub1 hR0 ho0 1
    refine ⟨_, mI (uI (wI M i0) a 0 1), rfl, rfl, q1, ?_, q3⟩
    unfold rs_suspects
    rw [ix_no hx]
    exact q2

set_option maxHeartbeats 2000000 in
set_option maxRecDepth 20000 in
theorem t_X11_letters_ {M : Mm} {a : Nat} {σ : Sg} {T : Nat} (hL : LX11 M.1 M.2.1 a) (hR : RI (mI M) a σ) (hO : OkN T σ.1) (hT9 : T < 890000) {x : Int32} : Ct G base YX11_letters_ 4 0 0 [.ref a, .int x] M (rV M (pQ M a (rs_letters σ x) σ)) := by
  obtain ⟨hT, hS, hLt, h4, h5, h6, hLo, hSt, hN⟩ := hO
  have h0 := hT.1
  have h1 := hT.2.1
  have hr := hT.2.2
  have h2 := hLt.1
  have h3 := hLt.2.1
  have hb0 := h0.2
  have hb1 := h1.2
  have hb2 := h2.2
  have hb3 := h3.2
  have hb4 := h4.2
  have ht6 : σ.1 6 = nI (nv σ.1 6) := h6.1
  have hh6 : nv σ.1 6 ≤ T := h6.2
  by_cases hx : ∃ w, w < 9 ∧ x = nI w
  · obtain ⟨w, hw, rfl⟩ := hx
    refine Ct.of IX11_letters_.1 (by simp [Value.category]) (Nat.le_of_ble_eq_true rfl) (fun X hX hN => ?_)
    show J G base X 0 0 M 0 [some (.ref a), some (.int (nI w)), none, none] []
    refine r_aload_n hX dX11_letters__0 rfl ?_
    refine r_iconst (v := nI 0) hX dX11_letters__1 (by decide) ?_
    refine r_puti hX dX11_letters__2 fl_X11_3 rfl rfl (LX11_s hL) ?_
    refine J.gen (M0 := M) rfl (fun i0 h00 => ?_)
    obtain ⟨hR0, hn0, ht0, ho0⟩ := pub0 hR h00
    clear h00
    refine r_aload_n hX dX11_letters__5 rfl ?_
    refine r_iload_n hX dX11_letters__6 rfl ?_
    refine r_iconst (v := nI 0) hX dX11_letters__7 (by decide) ?_
    refine r_bipush (v := nI 8) hX dX11_letters__8 (by decide) ?_
    refine r_cS3 hX dX11_letters__10 IX11_in ml_X11_79 rfl (t_X11_in (M := wI M i0) ) (by decide) (by decide) (by decide) (by decide) rfl (Nat.le_of_ble_eq_true rfl) ?_
    refine rb_if_ne (tgt := 20) hX dX11_letters__13 (by decide) rfl (fun c13 => ?_) (fun c13 => absurd ((rng2 (m := 8) (by omega)).mpr ⟨w, hw, rfl⟩) c13)
    refine r_iconst (v := nI 0) hX dX11_letters__20 (by decide) ?_
    refine r_iconst (v := nI 1) hX dX11_letters__21 (by decide) ?_
    refine r_cV2 hX dX11_letters__22 IX11_throwsIf ml_X11_215 rfl (LX11_s hL) rfl (t_X11_throwsIf0 (M := wI M i0) hL) (by decide) (by decide) (by decide) (by decide) rfl (Nat.le_of_ble_eq_true rfl) ?_
    refine r_if_eq (tgt := 30) hX dX11_letters__25 (by decide) (fun c25 => ?_) (fun c25 => absurd c25 (by decide))
    refine r_iconst (v := nI 0) hX dX11_letters__30 (by decide) ?_
    refine r_istore2 hX dX11_letters__31 rfl ?_
    refine r_iconst (v := nI 0) hX dX11_letters__32 (by decide) ?_
    refine r_istore3 hX dX11_letters__33 rfl ?_
    refine loop_up (P := fun j => J G base X 0 0 (wI M i0) 34 [some (.ref a), some (.int (nI w)), some (.int (nI (cntB (soB σ.1 w) j))), some (.int (nI j))] []) (nv σ.1 2) (fun j hj ih => ?_) 0 (Nat.zero_le _)
    refine r_iload_n hX dX11_letters__34 rfl ?_
    refine r_aload_n hX dX11_letters__35 rfl ?_
    refine r_cV0 hX dX11_letters__36 IX11_letters ml_X11_170 rfl (LX11_s hL) rfl (t_X11_letters (M := wI M i0) hL hn0 h2) (by decide) (by decide) (by decide) (by decide) rfl (Nat.le_of_ble_eq_true rfl) ?_
    refine rn_icmp_ge (tgt := 65) hX dX11_letters__39 (by decide) rfl rfl (by omega) (by omega) (fun c39 => ?_) (fun c39 => ?_)
    · refine r_iload_n hX dX11_letters__65 rfl ?_
      refine r_ireturn hX rfl rfl dX11_letters__66 (by decide) (by decide) ?_
      obtain rfl : j = nv σ.1 2 := by omega
      refine ⟨_, i0, rfl, rfl, hR0, ?_, ho0⟩
      unfold rs_letters
      rw [ix_of hw (by omega)]
      exact ⟨rfl, ht0⟩
    · refine r_iload_n hX dX11_letters__42 rfl ?_
      refine r_aload_n hX dX11_letters__43 rfl ?_
      refine r_iload_n hX dX11_letters__44 rfl ?_
      refine r_iload_n hX dX11_letters__45 rfl ?_
      refine r_cV2 hX dX11_letters__46 IX11_isSo ml_X11_304 rfl (LX11_s hL) rfl (t_X11_isSo (M := wI M i0) hL hn0 (by omega) (by omega)) (by decide) (by decide) (by decide) (by decide) rfl (Nat.le_of_ble_eq_true rfl) ?_
      refine rb_if_eq (tgt := 56) hX dX11_letters__49 (by decide) rfl (fun c49 => ?_) (fun c49 => ?_)
      · refine r_iconst (v := nI 0) hX dX11_letters__56 (by decide) ?_
        refine rn_iadd hX dX11_letters__57 rfl rfl ?_
        refine r_istore2 hX dX11_letters__58 rfl ?_
        refine rn_iinc3 hX dX11_letters__59 rfl rfl ?_
        refine r_goto (tgt := 34) hX dX11_letters__62 (by decide) ?_
        have h9 := ih (by omega)
        simp only [cntB] at h9
        first
          | (rw [if_pos c49] at h9; exact h9)
          | (rw [if_neg c49] at h9; exact h9)
      · refine r_iconst (v := nI 1) hX dX11_letters__52 (by decide) ?_
        refine r_goto (tgt := 57) hX dX11_letters__53 (by decide) ?_
        refine rn_iadd hX dX11_letters__57 rfl rfl ?_
        refine r_istore2 hX dX11_letters__58 rfl ?_
        refine rn_iinc3 hX dX11_letters__59 rfl rfl ?_
        refine r_goto (tgt := 34) hX dX11_letters__62 (by decide) ?_
        have h9 := ih (by omega)
        simp only [cntB] at h9
        first
          | (rw [if_pos c49] at h9; exact h9)
          | (rw [if_neg c49] at h9; exact h9)
  · refine Ct.of IX11_letters_.1 (by simp [Value.category]) (Nat.le_of_ble_eq_true rfl) (fun X hX hN => ?_)
    show J G base X 0 0 M 0 [some (.ref a), some (.int x), none, none] []
    refine r_aload_n hX dX11_letters__0 rfl ?_
    refine r_iconst (v := nI 0) hX dX11_letters__1 (by decide) ?_
    refine r_puti hX dX11_letters__2 fl_X11_3 rfl rfl (LX11_s hL) ?_
    refine J.gen (M0 := M) rfl (fun i0 h00 => ?_)
    obtain ⟨hR0, hn0, ht0, ho0⟩ := pub0 hR h00
    clear h00
    refine r_aload_n hX dX11_letters__5 rfl ?_
    refine r_iload_n hX dX11_letters__6 rfl ?_
    refine r_iconst (v := nI 0) hX dX11_letters__7 (by decide) ?_
    refine r_bipush (v := nI 8) hX dX11_letters__8 (by decide) ?_
    refine r_cS3 hX dX11_letters__10 IX11_in ml_X11_79 rfl (t_X11_in (M := wI M i0) ) (by decide) (by decide) (by decide) (by decide) rfl (Nat.le_of_ble_eq_true rfl) ?_
    refine rb_if_ne (tgt := 20) hX dX11_letters__13 (by decide) rfl (fun c13 => absurd ((rng2 (m := 8) (by omega)).mp c13) hx) (fun c13 => ?_)
    refine r_iconst (v := nI 1) hX dX11_letters__16 (by decide) ?_
    refine r_goto (tgt := 21) hX dX11_letters__17 (by decide) ?_
    refine r_iconst (v := nI 1) hX dX11_letters__21 (by decide) ?_
    refine r_cV2 hX dX11_letters__22 IX11_throwsIf ml_X11_215 rfl (LX11_s hL) rfl (t_X11_throwsIf1 (M := wI M i0) hL) (by decide) (by decide) (by decide) (by decide) rfl (Nat.le_of_ble_eq_true rfl) ?_
    refine r_if_eq (tgt := 30) hX dX11_letters__25 (by decide) (fun c25 => absurd c25 (by decide)) (fun c25 => ?_)
    refine r_iconst (v := 0) hX dX11_letters__28 (by decide) ?_
    refine r_ireturn hX rfl rfl dX11_letters__29 (by decide) (by decide) ?_
    obtain ⟨q1, q2, q3⟩ := pub1 hR0 ho0 1
    refine ⟨_, mI (uI (wI M i0) a 0 1), rfl, rfl, q1, ?_, q3⟩
    unfold rs_letters
    rw [ix_no hx]
    exact q2

set_option maxHeartbeats 2000000 in
set_option maxRecDepth 20000 in
theorem t_X11_receipt {M : Mm} {a : Nat} {σ : Sg} {T : Nat} (hL : LX11 M.1 M.2.1 a) (hR : RI (mI M) a σ) (hO : OkN T σ.1) (hT9 : T < 890000) {x y : Int32} : Ct G base YX11_receipt 4 0 0 [.ref a, .int x, .int y] M (rV M (pQ M a (rs_receipt σ x y) σ)) := by
  obtain ⟨hT, hS, hLt, h4, h5, h6, hLo, hSt, hN⟩ := hO
  have h0 := hT.1
  have h1 := hT.2.1
  have hr := hT.2.2
  have h2 := hLt.1
  have h3 := hLt.2.1
  have hb0 := h0.2
  have hb1 := h1.2
  have hb2 := h2.2
  have hb3 := h3.2
  have hb4 := h4.2
  have ht6 : σ.1 6 = nI (nv σ.1 6) := h6.1
  have hh6 : nv σ.1 6 ≤ T := h6.2
  by_cases hw : ∃ w, w < 5 ∧ y = nI w
  · obtain ⟨w, hw, rfl⟩ := hw
    by_cases hx : ∃ c, c < nv σ.1 4 ∧ x = nI c
    · obtain ⟨g, hg, rfl⟩ := hx
      refine Ct.of IX11_receipt.1 (by simp [Value.category]) (Nat.le_of_ble_eq_true rfl) (fun X hX hN => ?_)
      show J G base X 0 0 M 0 [some (.ref a), some (.int (nI g)), some (.int (nI w))] []
      refine r_aload_n hX dX11_receipt_0 rfl ?_
      refine r_iconst (v := nI 0) hX dX11_receipt_1 (by decide) ?_
      refine r_puti hX dX11_receipt_2 fl_X11_3 rfl rfl (LX11_s hL) ?_
      refine J.gen (M0 := M) rfl (fun i0 h00 => ?_)
      obtain ⟨hR0, hn0, ht0, ho0⟩ := pub0 hR h00
      clear h00
      refine r_aload_n hX dX11_receipt_5 rfl ?_
      refine r_iload_n hX dX11_receipt_6 rfl ?_
      refine r_iconst (v := nI 0) hX dX11_receipt_7 (by decide) ?_
      refine r_iconst (v := nI 4) hX dX11_receipt_8 (by decide) ?_
      refine r_cS3 hX dX11_receipt_9 IX11_in ml_X11_79 rfl (t_X11_in (M := wI M i0) ) (by decide) (by decide) (by decide) (by decide) rfl (Nat.le_of_ble_eq_true rfl) ?_
      refine rb_if_ne (tgt := 19) hX dX11_receipt_12 (by decide) rfl (fun c12 => ?_) (fun c12 => absurd ((rng2 (m := 4) (by omega)).mpr ⟨w, hw, rfl⟩) c12)
      refine r_iconst (v := nI 0) hX dX11_receipt_19 (by decide) ?_
      refine r_iconst (v := nI 1) hX dX11_receipt_20 (by decide) ?_
      refine r_cV2 hX dX11_receipt_21 IX11_throwsIf ml_X11_215 rfl (LX11_s hL) rfl (t_X11_throwsIf0 (M := wI M i0) hL) (by decide) (by decide) (by decide) (by decide) rfl (Nat.le_of_ble_eq_true rfl) ?_
      refine r_if_eq (tgt := 29) hX dX11_receipt_24 (by decide) (fun c24 => ?_) (fun c24 => absurd c24 (by decide))
      refine r_iload_n hX dX11_receipt_29 rfl ?_
      refine r_iconst (v := nI 0) hX dX11_receipt_30 (by decide) ?_
      refine r_aload_n hX dX11_receipt_31 rfl ?_
      refine r_getr hX dX11_receipt_32 fl_X11_13 rfl (LX11_s hL) (LX11_r1 hL) ?_
      refine r_iconst (v := nI 4) hX dX11_receipt_35 (by decide) ?_
      refine rn_iald hX dX11_receipt_36 (LX11_a1 hL) rfl (by omega) (by omega) ?_
      rw [hn0]
      rw [h4.1]
      refine r_iconst (v := 1) hX dX11_receipt_37 (by decide) ?_
      refine r_isub hX dX11_receipt_38 ?_
      refine r_cS3 hX dX11_receipt_39 IX11_in ml_X11_79 rfl (t_X11_in (M := wI M i0) ) (by decide) (by decide) (by decide) (by decide) rfl (Nat.le_of_ble_eq_true rfl) ?_
      refine rb_if_eq (tgt := 62) hX dX11_receipt_42 (by decide) rfl (fun c42 => absurd ((rng (by omega)).mpr ⟨g, hg, rfl⟩) c42) (fun c42 => ?_)
      refine r_aload_n hX dX11_receipt_45 rfl ?_
      refine r_getr hX dX11_receipt_46 fl_X11_13 rfl (LX11_s hL) (LX11_r1 hL) ?_
      refine r_sipush (v := nI 858) hX dX11_receipt_49 (by decide) ?_
      refine r_iconst (v := nI 5) hX dX11_receipt_52 (by decide) ?_
      refine r_iload_n hX dX11_receipt_53 rfl ?_
      refine rn_imul hX dX11_receipt_54 rfl rfl ?_
      refine rn_iadd hX dX11_receipt_55 rfl rfl ?_
      refine r_iload_n hX dX11_receipt_56 rfl ?_
      refine rn_iadd hX dX11_receipt_57 rfl rfl ?_
      refine rn_iald hX dX11_receipt_58 (LX11_a1 hL) rfl (by omega) (by omega) ?_
      rw [hn0]
      refine r_goto (tgt := 63) hX dX11_receipt_59 (by decide) ?_
      refine r_ireturn hX rfl rfl dX11_receipt_63 (by decide) (by decide) ?_
      refine ⟨_, i0, rfl, rfl, hR0, ?_, ho0⟩
      unfold rs_receipt
      rw [ix_of hw (by omega)]
      dsimp only
      rw [ix_of hg (by omega)]
      exact ⟨rfl, ht0⟩
    · refine Ct.of IX11_receipt.1 (by simp [Value.category]) (Nat.le_of_ble_eq_true rfl) (fun X hX hN => ?_)
      show J G base X 0 0 M 0 [some (.ref a), some (.int x), some (.int (nI w))] []
      refine r_aload_n hX dX11_receipt_0 rfl ?_
      refine r_iconst (v := nI 0) hX dX11_receipt_1 (by decide) ?_
      refine r_puti hX dX11_receipt_2 fl_X11_3 rfl rfl (LX11_s hL) ?_
      refine J.gen (M0 := M) rfl (fun i0 h00 => ?_)
      obtain ⟨hR0, hn0, ht0, ho0⟩ := pub0 hR h00
      clear h00
      refine r_aload_n hX dX11_receipt_5 rfl ?_
      refine r_iload_n hX dX11_receipt_6 rfl ?_
      refine r_iconst (v := nI 0) hX dX11_receipt_7 (by decide) ?_
      refine r_iconst (v := nI 4) hX dX11_receipt_8 (by decide) ?_
      refine r_cS3 hX dX11_receipt_9 IX11_in ml_X11_79 rfl (t_X11_in (M := wI M i0) ) (by decide) (by decide) (by decide) (by decide) rfl (Nat.le_of_ble_eq_true rfl) ?_
      refine rb_if_ne (tgt := 19) hX dX11_receipt_12 (by decide) rfl (fun c12 => ?_) (fun c12 => absurd ((rng2 (m := 4) (by omega)).mpr ⟨w, hw, rfl⟩) c12)
      refine r_iconst (v := nI 0) hX dX11_receipt_19 (by decide) ?_
      refine r_iconst (v := nI 1) hX dX11_receipt_20 (by decide) ?_
      refine r_cV2 hX dX11_receipt_21 IX11_throwsIf ml_X11_215 rfl (LX11_s hL) rfl (t_X11_throwsIf0 (M := wI M i0) hL) (by decide) (by decide) (by decide) (by decide) rfl (Nat.le_of_ble_eq_true rfl) ?_
      refine r_if_eq (tgt := 29) hX dX11_receipt_24 (by decide) (fun c24 => ?_) (fun c24 => absurd c24 (by decide))
      refine r_iload_n hX dX11_receipt_29 rfl ?_
      refine r_iconst (v := nI 0) hX dX11_receipt_30 (by decide) ?_
      refine r_aload_n hX dX11_receipt_31 rfl ?_
      refine r_getr hX dX11_receipt_32 fl_X11_13 rfl (LX11_s hL) (LX11_r1 hL) ?_
      refine r_iconst (v := nI 4) hX dX11_receipt_35 (by decide) ?_
      refine rn_iald hX dX11_receipt_36 (LX11_a1 hL) rfl (by omega) (by omega) ?_
      rw [hn0]
      rw [h4.1]
      refine r_iconst (v := 1) hX dX11_receipt_37 (by decide) ?_
      refine r_isub hX dX11_receipt_38 ?_
      refine r_cS3 hX dX11_receipt_39 IX11_in ml_X11_79 rfl (t_X11_in (M := wI M i0) ) (by decide) (by decide) (by decide) (by decide) rfl (Nat.le_of_ble_eq_true rfl) ?_
      refine rb_if_eq (tgt := 62) hX dX11_receipt_42 (by decide) rfl (fun c42 => ?_) (fun c42 => absurd ((rng (by omega)).mp c42) hx)
      refine r_iconst (v := (-1)) hX dX11_receipt_62 (by decide) ?_
      refine r_ireturn hX rfl rfl dX11_receipt_63 (by decide) (by decide) ?_
      refine ⟨_, i0, rfl, rfl, hR0, ?_, ho0⟩
      unfold rs_receipt
      rw [ix_of hw (by omega)]
      dsimp only
      rw [ix_no hx]
      exact ⟨rfl, ht0⟩
  · refine Ct.of IX11_receipt.1 (by simp [Value.category]) (Nat.le_of_ble_eq_true rfl) (fun X hX hN => ?_)
    show J G base X 0 0 M 0 [some (.ref a), some (.int x), some (.int y)] []
    refine r_aload_n hX dX11_receipt_0 rfl ?_
    refine r_iconst (v := nI 0) hX dX11_receipt_1 (by decide) ?_
    refine r_puti hX dX11_receipt_2 fl_X11_3 rfl rfl (LX11_s hL) ?_
    refine J.gen (M0 := M) rfl (fun i0 h00 => ?_)
    obtain ⟨hR0, hn0, ht0, ho0⟩ := pub0 hR h00
    clear h00
    refine r_aload_n hX dX11_receipt_5 rfl ?_
    refine r_iload_n hX dX11_receipt_6 rfl ?_
    refine r_iconst (v := nI 0) hX dX11_receipt_7 (by decide) ?_
    refine r_iconst (v := nI 4) hX dX11_receipt_8 (by decide) ?_
    refine r_cS3 hX dX11_receipt_9 IX11_in ml_X11_79 rfl (t_X11_in (M := wI M i0) ) (by decide) (by decide) (by decide) (by decide) rfl (Nat.le_of_ble_eq_true rfl) ?_
    refine rb_if_ne (tgt := 19) hX dX11_receipt_12 (by decide) rfl (fun c12 => absurd ((rng2 (m := 4) (by omega)).mp c12) hw) (fun c12 => ?_)
    refine r_iconst (v := nI 1) hX dX11_receipt_15 (by decide) ?_
    refine r_goto (tgt := 20) hX dX11_receipt_16 (by decide) ?_
    refine r_iconst (v := nI 1) hX dX11_receipt_20 (by decide) ?_
    refine r_cV2 hX dX11_receipt_21 IX11_throwsIf ml_X11_215 rfl (LX11_s hL) rfl (t_X11_throwsIf1 (M := wI M i0) hL) (by decide) (by decide) (by decide) (by decide) rfl (Nat.le_of_ble_eq_true rfl) ?_
    refine r_if_eq (tgt := 29) hX dX11_receipt_24 (by decide) (fun c24 => absurd c24 (by decide)) (fun c24 => ?_)
    refine r_iconst (v := 0) hX dX11_receipt_27 (by decide) ?_
    refine r_ireturn hX rfl rfl dX11_receipt_28 (by decide) (by decide) ?_
    obtain ⟨q1, q2, q3⟩ := pub1 hR0 ho0 1
    refine ⟨_, mI (uI (wI M i0) a 0 1), rfl, rfl, q1, ?_, q3⟩
    unfold rs_receipt
    rw [ix_no hw]
    exact q2

set_option maxHeartbeats 2000000 in
set_option maxRecDepth 20000 in
theorem t_X11_lastReceipt {M : Mm} {a : Nat} {σ : Sg} {T : Nat} (hL : LX11 M.1 M.2.1 a) (hR : RI (mI M) a σ) (hO : OkN T σ.1) (hT9 : T < 890000) {x : Int32} : Ct G base YX11_lastReceipt 4 0 0 [.ref a, .int x] M (rV M (pQ M a (rs_lastReceipt σ x) σ)) := by
  obtain ⟨hT, hS, hLt, h4, h5, h6, hLo, hSt, hN⟩ := hO
  have h0 := hT.1
  have h1 := hT.2.1
  have hr := hT.2.2
  have h2 := hLt.1
  have h3 := hLt.2.1
  have hb0 := h0.2
  have hb1 := h1.2
  have hb2 := h2.2
  have hb3 := h3.2
  have hb4 := h4.2
  have ht6 : σ.1 6 = nI (nv σ.1 6) := h6.1
  have hh6 : nv σ.1 6 ≤ T := h6.2
  by_cases hx : ∃ c, c < nv σ.1 2 ∧ x = nI c
  · obtain ⟨l, hl, rfl⟩ := hx
    refine Ct.of IX11_lastReceipt.1 (by simp [Value.category]) (Nat.le_of_ble_eq_true rfl) (fun X hX hN => ?_)
    show J G base X 0 0 M 0 [some (.ref a), some (.int (nI l)), none] []
    refine r_aload_n hX dX11_lastReceipt_0 rfl ?_
    refine r_iconst (v := nI 0) hX dX11_lastReceipt_1 (by decide) ?_
    refine r_puti hX dX11_lastReceipt_2 fl_X11_3 rfl rfl (LX11_s hL) ?_
    refine J.gen (M0 := M) rfl (fun i0 h00 => ?_)
    obtain ⟨hR0, hn0, ht0, ho0⟩ := pub0 hR h00
    clear h00
    refine r_aload_n hX dX11_lastReceipt_5 rfl ?_
    refine r_iload_n hX dX11_lastReceipt_6 rfl ?_
    refine r_cV1 hX dX11_lastReceipt_7 IX11_noLetter ml_X11_298 rfl (LX11_s hL) rfl (t_X11_noLetter1 (M := wI M i0) hL hn0 h2 ⟨l, hl, rfl⟩) (by decide) (by decide) (by decide) (by decide) rfl (Nat.le_of_ble_eq_true rfl) ?_
    refine r_if_eq (tgt := 15) hX dX11_lastReceipt_10 (by decide) (fun c10 => ?_) (fun c10 => absurd c10 (by decide))
    refine r_iconst (v := nI 0) hX dX11_lastReceipt_15 (by decide) ?_
    refine r_istore2 hX dX11_lastReceipt_16 rfl ?_
    refine loop_up (P := fun j => fstF (fun g => decide (σ.1 (858 + 5 * g + 1) = nI l)) j = -1 → J G base X 0 0 (wI M i0) 17 [some (.ref a), some (.int (nI l)), some (.int (nI j))] []) (nv σ.1 4) (fun j hj ih hno => ?_) 0 (Nat.zero_le _) rfl
    refine r_iload_n hX dX11_lastReceipt_17 rfl ?_
    refine r_aload_n hX dX11_lastReceipt_18 rfl ?_
    refine r_getr hX dX11_lastReceipt_19 fl_X11_13 rfl (LX11_s hL) (LX11_r1 hL) ?_
    refine r_iconst (v := nI 4) hX dX11_lastReceipt_22 (by decide) ?_
    refine rn_iald hX dX11_lastReceipt_23 (LX11_a1 hL) rfl (by omega) (by omega) ?_
    rw [hn0]
    rw [h4.1]
    refine rn_icmp_ge (tgt := 53) hX dX11_lastReceipt_24 (by decide) rfl rfl (by omega) (by omega) (fun c24 => ?_) (fun c24 => ?_)
    · refine r_iconst (v := (-1)) hX dX11_lastReceipt_53 (by decide) ?_
      refine r_ireturn hX rfl rfl dX11_lastReceipt_54 (by decide) (by decide) ?_
      obtain rfl : j = nv σ.1 4 := by omega
      refine ⟨_, i0, rfl, rfl, hR0, ?_, ho0⟩
      unfold rs_lastReceipt
      rw [ix_of hl (by omega)]
      exact ⟨hno.symm, ht0⟩
    · refine r_aload_n hX dX11_lastReceipt_27 rfl ?_
      refine r_getr hX dX11_lastReceipt_28 fl_X11_13 rfl (LX11_s hL) (LX11_r1 hL) ?_
      refine r_sipush (v := nI 858) hX dX11_lastReceipt_31 (by decide) ?_
      refine r_iconst (v := nI 5) hX dX11_lastReceipt_34 (by decide) ?_
      refine r_iload_n hX dX11_lastReceipt_35 rfl ?_
      refine rn_imul hX dX11_lastReceipt_36 rfl rfl ?_
      refine rn_iadd hX dX11_lastReceipt_37 rfl rfl ?_
      refine r_iconst (v := nI 1) hX dX11_lastReceipt_38 (by decide) ?_
      refine rn_iadd hX dX11_lastReceipt_39 rfl rfl ?_
      refine rn_iald hX dX11_lastReceipt_40 (LX11_a1 hL) rfl (by omega) (by omega) ?_
      rw [hn0]
      refine r_iload_n hX dX11_lastReceipt_41 rfl ?_
      refine r_icmp_ne (tgt := 47) hX dX11_lastReceipt_42 (by decide) (fun c42 => ?_) (fun c42 => ?_)
      · refine rn_iinc2 hX dX11_lastReceipt_47 rfl rfl ?_
        refine r_goto (tgt := 17) hX dX11_lastReceipt_50 (by decide) ?_
        exact ih (by omega) (fstF_no hno (by simp only [decide_eq_true_eq]; exact c42))
      · refine r_iload_n hX dX11_lastReceipt_45 rfl ?_
        refine r_ireturn hX rfl rfl dX11_lastReceipt_46 (by decide) (by decide) ?_
        refine ⟨_, i0, rfl, rfl, hR0, ?_, ho0⟩
        unfold rs_lastReceipt
        rw [ix_of hl (by omega)]
        exact ⟨(fstF_stay (by omega) hno (by simp only [decide_eq_true_eq]; exact c42) (by omega)).symm, ht0⟩
  · refine Ct.of IX11_lastReceipt.1 (by simp [Value.category]) (Nat.le_of_ble_eq_true rfl) (fun X hX hN => ?_)
    show J G base X 0 0 M 0 [some (.ref a), some (.int x), none] []
    refine r_aload_n hX dX11_lastReceipt_0 rfl ?_
    refine r_iconst (v := nI 0) hX dX11_lastReceipt_1 (by decide) ?_
    refine r_puti hX dX11_lastReceipt_2 fl_X11_3 rfl rfl (LX11_s hL) ?_
    refine J.gen (M0 := M) rfl (fun i0 h00 => ?_)
    obtain ⟨hR0, hn0, ht0, ho0⟩ := pub0 hR h00
    clear h00
    refine r_aload_n hX dX11_lastReceipt_5 rfl ?_
    refine r_iload_n hX dX11_lastReceipt_6 rfl ?_
    refine r_cV1 hX dX11_lastReceipt_7 IX11_noLetter ml_X11_298 rfl (LX11_s hL) rfl (t_X11_noLetter0 (M := wI M i0) hL hn0 h2 hx) (by decide) (by decide) (by decide) (by decide) rfl (Nat.le_of_ble_eq_true rfl) ?_
    refine r_if_eq (tgt := 15) hX dX11_lastReceipt_10 (by decide) (fun c10 => absurd c10 (by decide)) (fun c10 => ?_)
    refine r_iconst (v := 0) hX dX11_lastReceipt_13 (by decide) ?_
    refine r_ireturn hX rfl rfl dX11_lastReceipt_14 (by decide) (by decide) ?_
    obtain ⟨q1, q2, q3⟩ := pub1 hR0 ho0 1
    refine ⟨_, mI (uI (wI M i0) a 0 1), rfl, rfl, q1, ?_, q3⟩
    unfold rs_lastReceipt
    rw [ix_no hx]
    exact q2

set_option maxHeartbeats 2000000 in
set_option maxRecDepth 20000 in
theorem t_X11_lostSack {M : Mm} {a : Nat} {σ : Sg} {T : Nat} (hL : LX11 M.1 M.2.1 a) (hR : RI (mI M) a σ) (hO : OkN T σ.1) (hT9 : T < 890000) {x y : Int32} : Ct G base YX11_lostSack 4 0 0 [.ref a, .int x, .int y] M (rV M (pQ M a (rs_lostSack σ x y) σ)) := by
  obtain ⟨hT, hS, hLt, h4, h5, h6, hLo, hSt, hN⟩ := hO
  have h0 := hT.1
  have h1 := hT.2.1
  have hr := hT.2.2
  have h2 := hLt.1
  have h3 := hLt.2.1
  have hb0 := h0.2
  have hb1 := h1.2
  have hb2 := h2.2
  have hb3 := h3.2
  have hb4 := h4.2
  have ht6 : σ.1 6 = nI (nv σ.1 6) := h6.1
  have hh6 : nv σ.1 6 ≤ T := h6.2
  by_cases hx : ∃ c, c < nv σ.1 3 ∧ x = nI c
  · obtain ⟨k, hk, rfl⟩ := hx
    by_cases hw : ∃ w, w < 4 ∧ y = nI w
    · obtain ⟨w, hw, rfl⟩ := hw
      rcases (show w = 0 ∨ w = 1 ∨ w = 2 ∨ w = 3 by omega) with rfl | rfl | rfl | rfl
      · refine Ct.of IX11_lostSack.1 (by simp [Value.category]) (Nat.le_of_ble_eq_true rfl) (fun X hX hN => ?_)
        show J G base X 0 0 M 0 [some (.ref a), some (.int (nI k)), some (.int (nI 0))] []
        refine r_aload_n hX dX11_lostSack_0 rfl ?_
        refine r_iconst (v := nI 0) hX dX11_lostSack_1 (by decide) ?_
        refine r_puti hX dX11_lostSack_2 fl_X11_3 rfl rfl (LX11_s hL) ?_
        refine J.gen (M0 := M) rfl (fun i0 h00 => ?_)
        obtain ⟨hR0, hn0, ht0, ho0⟩ := pub0 hR h00
        clear h00
        refine r_aload_n hX dX11_lostSack_5 rfl ?_
        refine r_iload_n hX dX11_lostSack_6 rfl ?_
        refine r_cV1 hX dX11_lostSack_7 IX11_noLost ml_X11_313 rfl (LX11_s hL) rfl (t_X11_noLost1 (M := wI M i0) hL hn0 h3 ⟨k, hk, rfl⟩) (by decide) (by decide) (by decide) (by decide) rfl (Nat.le_of_ble_eq_true rfl) ?_
        refine r_if_ne (tgt := 35) hX dX11_lostSack_10 (by decide) (fun c10 => absurd c10 (by decide)) (fun c10 => ?_)
        refine r_aload_n hX dX11_lostSack_13 rfl ?_
        refine r_iload_n hX dX11_lostSack_14 rfl ?_
        refine r_iconst (v := nI 0) hX dX11_lostSack_15 (by decide) ?_
        refine r_iconst (v := nI 3) hX dX11_lostSack_16 (by decide) ?_
        refine r_cS3 hX dX11_lostSack_17 IX11_in ml_X11_79 rfl (t_X11_in (M := wI M i0) ) (by decide) (by decide) (by decide) (by decide) rfl (Nat.le_of_ble_eq_true rfl) ?_
        refine rb_if_ne (tgt := 27) hX dX11_lostSack_20 (by decide) rfl (fun c20 => ?_) (fun c20 => absurd ((rng2 (m := 3) (by omega)).mpr ⟨0, by omega, rfl⟩) c20)
        refine r_iconst (v := nI 0) hX dX11_lostSack_27 (by decide) ?_
        refine r_iconst (v := nI 2) hX dX11_lostSack_28 (by decide) ?_
        refine r_cV2 hX dX11_lostSack_29 IX11_throwsIf ml_X11_215 rfl (LX11_s hL) rfl (t_X11_throwsIf0 (M := wI M i0) hL) (by decide) (by decide) (by decide) (by decide) rfl (Nat.le_of_ble_eq_true rfl) ?_
        refine r_if_eq (tgt := 37) hX dX11_lostSack_32 (by decide) (fun c32 => ?_) (fun c32 => absurd c32 (by decide))
        refine r_iload_n hX dX11_lostSack_37 rfl ?_
        refine r_iconst (v := nI 2) hX dX11_lostSack_38 (by decide) ?_
        refine rn_icmp_ge (tgt := 59) hX dX11_lostSack_39 (by decide) rfl rfl (by omega) (by omega) (fun c39 => by omega) (fun c39 => ?_)
        refine r_aload_n hX dX11_lostSack_42 rfl ?_
        refine r_getr hX dX11_lostSack_43 fl_X11_13 rfl (LX11_s hL) (LX11_r1 hL) ?_
        refine r_sipush (v := nI 798) hX dX11_lostSack_46 (by decide) ?_
        refine r_iconst (v := nI 2) hX dX11_lostSack_49 (by decide) ?_
        refine r_iload_n hX dX11_lostSack_50 rfl ?_
        refine rn_imul hX dX11_lostSack_51 rfl rfl ?_
        refine rn_iadd hX dX11_lostSack_52 rfl rfl ?_
        refine r_iload_n hX dX11_lostSack_53 rfl ?_
        refine rn_iadd hX dX11_lostSack_54 rfl rfl ?_
        refine rn_iald hX dX11_lostSack_55 (LX11_a1 hL) rfl (by omega) (by omega) ?_
        rw [hn0]
        refine r_goto (tgt := 79) hX dX11_lostSack_56 (by decide) ?_
        refine r_ireturn hX rfl rfl dX11_lostSack_79 (by decide) (by decide) ?_
        refine ⟨_, i0, rfl, rfl, hR0, ?_, ho0⟩
        unfold rs_lostSack
        rw [ix_of hk (by omega)]
        dsimp only
        rw [ix_of (c := 0) (m := 4) (by omega) (by omega)]
        exact ⟨rfl, ht0⟩
      · refine Ct.of IX11_lostSack.1 (by simp [Value.category]) (Nat.le_of_ble_eq_true rfl) (fun X hX hN => ?_)
        show J G base X 0 0 M 0 [some (.ref a), some (.int (nI k)), some (.int (nI 1))] []
        refine r_aload_n hX dX11_lostSack_0 rfl ?_
        refine r_iconst (v := nI 0) hX dX11_lostSack_1 (by decide) ?_
        refine r_puti hX dX11_lostSack_2 fl_X11_3 rfl rfl (LX11_s hL) ?_
        refine J.gen (M0 := M) rfl (fun i0 h00 => ?_)
        obtain ⟨hR0, hn0, ht0, ho0⟩ := pub0 hR h00
        clear h00
        refine r_aload_n hX dX11_lostSack_5 rfl ?_
        refine r_iload_n hX dX11_lostSack_6 rfl ?_
        refine r_cV1 hX dX11_lostSack_7 IX11_noLost ml_X11_313 rfl (LX11_s hL) rfl (t_X11_noLost1 (M := wI M i0) hL hn0 h3 ⟨k, hk, rfl⟩) (by decide) (by decide) (by decide) (by decide) rfl (Nat.le_of_ble_eq_true rfl) ?_
        refine r_if_ne (tgt := 35) hX dX11_lostSack_10 (by decide) (fun c10 => absurd c10 (by decide)) (fun c10 => ?_)
        refine r_aload_n hX dX11_lostSack_13 rfl ?_
        refine r_iload_n hX dX11_lostSack_14 rfl ?_
        refine r_iconst (v := nI 0) hX dX11_lostSack_15 (by decide) ?_
        refine r_iconst (v := nI 3) hX dX11_lostSack_16 (by decide) ?_
        refine r_cS3 hX dX11_lostSack_17 IX11_in ml_X11_79 rfl (t_X11_in (M := wI M i0) ) (by decide) (by decide) (by decide) (by decide) rfl (Nat.le_of_ble_eq_true rfl) ?_
        refine rb_if_ne (tgt := 27) hX dX11_lostSack_20 (by decide) rfl (fun c20 => ?_) (fun c20 => absurd ((rng2 (m := 3) (by omega)).mpr ⟨1, by omega, rfl⟩) c20)
        refine r_iconst (v := nI 0) hX dX11_lostSack_27 (by decide) ?_
        refine r_iconst (v := nI 2) hX dX11_lostSack_28 (by decide) ?_
        refine r_cV2 hX dX11_lostSack_29 IX11_throwsIf ml_X11_215 rfl (LX11_s hL) rfl (t_X11_throwsIf0 (M := wI M i0) hL) (by decide) (by decide) (by decide) (by decide) rfl (Nat.le_of_ble_eq_true rfl) ?_
        refine r_if_eq (tgt := 37) hX dX11_lostSack_32 (by decide) (fun c32 => ?_) (fun c32 => absurd c32 (by decide))
        refine r_iload_n hX dX11_lostSack_37 rfl ?_
        refine r_iconst (v := nI 2) hX dX11_lostSack_38 (by decide) ?_
        refine rn_icmp_ge (tgt := 59) hX dX11_lostSack_39 (by decide) rfl rfl (by omega) (by omega) (fun c39 => by omega) (fun c39 => ?_)
        refine r_aload_n hX dX11_lostSack_42 rfl ?_
        refine r_getr hX dX11_lostSack_43 fl_X11_13 rfl (LX11_s hL) (LX11_r1 hL) ?_
        refine r_sipush (v := nI 798) hX dX11_lostSack_46 (by decide) ?_
        refine r_iconst (v := nI 2) hX dX11_lostSack_49 (by decide) ?_
        refine r_iload_n hX dX11_lostSack_50 rfl ?_
        refine rn_imul hX dX11_lostSack_51 rfl rfl ?_
        refine rn_iadd hX dX11_lostSack_52 rfl rfl ?_
        refine r_iload_n hX dX11_lostSack_53 rfl ?_
        refine rn_iadd hX dX11_lostSack_54 rfl rfl ?_
        refine rn_iald hX dX11_lostSack_55 (LX11_a1 hL) rfl (by omega) (by omega) ?_
        rw [hn0]
        refine r_goto (tgt := 79) hX dX11_lostSack_56 (by decide) ?_
        refine r_ireturn hX rfl rfl dX11_lostSack_79 (by decide) (by decide) ?_
        refine ⟨_, i0, rfl, rfl, hR0, ?_, ho0⟩
        unfold rs_lostSack
        rw [ix_of hk (by omega)]
        dsimp only
        rw [ix_of (c := 1) (m := 4) (by omega) (by omega)]
        exact ⟨rfl, ht0⟩
      · refine Ct.of IX11_lostSack.1 (by simp [Value.category]) (Nat.le_of_ble_eq_true rfl) (fun X hX hN => ?_)
        show J G base X 0 0 M 0 [some (.ref a), some (.int (nI k)), some (.int (nI 2))] []
        refine r_aload_n hX dX11_lostSack_0 rfl ?_
        refine r_iconst (v := nI 0) hX dX11_lostSack_1 (by decide) ?_
        refine r_puti hX dX11_lostSack_2 fl_X11_3 rfl rfl (LX11_s hL) ?_
        refine J.gen (M0 := M) rfl (fun i0 h00 => ?_)
        obtain ⟨hR0, hn0, ht0, ho0⟩ := pub0 hR h00
        clear h00
        refine r_aload_n hX dX11_lostSack_5 rfl ?_
        refine r_iload_n hX dX11_lostSack_6 rfl ?_
        refine r_cV1 hX dX11_lostSack_7 IX11_noLost ml_X11_313 rfl (LX11_s hL) rfl (t_X11_noLost1 (M := wI M i0) hL hn0 h3 ⟨k, hk, rfl⟩) (by decide) (by decide) (by decide) (by decide) rfl (Nat.le_of_ble_eq_true rfl) ?_
        refine r_if_ne (tgt := 35) hX dX11_lostSack_10 (by decide) (fun c10 => absurd c10 (by decide)) (fun c10 => ?_)
        refine r_aload_n hX dX11_lostSack_13 rfl ?_
        refine r_iload_n hX dX11_lostSack_14 rfl ?_
        refine r_iconst (v := nI 0) hX dX11_lostSack_15 (by decide) ?_
        refine r_iconst (v := nI 3) hX dX11_lostSack_16 (by decide) ?_
        refine r_cS3 hX dX11_lostSack_17 IX11_in ml_X11_79 rfl (t_X11_in (M := wI M i0) ) (by decide) (by decide) (by decide) (by decide) rfl (Nat.le_of_ble_eq_true rfl) ?_
        refine rb_if_ne (tgt := 27) hX dX11_lostSack_20 (by decide) rfl (fun c20 => ?_) (fun c20 => absurd ((rng2 (m := 3) (by omega)).mpr ⟨2, by omega, rfl⟩) c20)
        refine r_iconst (v := nI 0) hX dX11_lostSack_27 (by decide) ?_
        refine r_iconst (v := nI 2) hX dX11_lostSack_28 (by decide) ?_
        refine r_cV2 hX dX11_lostSack_29 IX11_throwsIf ml_X11_215 rfl (LX11_s hL) rfl (t_X11_throwsIf0 (M := wI M i0) hL) (by decide) (by decide) (by decide) (by decide) rfl (Nat.le_of_ble_eq_true rfl) ?_
        refine r_if_eq (tgt := 37) hX dX11_lostSack_32 (by decide) (fun c32 => ?_) (fun c32 => absurd c32 (by decide))
        refine r_iload_n hX dX11_lostSack_37 rfl ?_
        refine r_iconst (v := nI 2) hX dX11_lostSack_38 (by decide) ?_
        refine rn_icmp_ge (tgt := 59) hX dX11_lostSack_39 (by decide) rfl rfl (by omega) (by omega) (fun c39 => ?_) (fun c39 => by omega)
        refine r_iload_n hX dX11_lostSack_59 rfl ?_
        refine r_iconst (v := nI 2) hX dX11_lostSack_60 (by decide) ?_
        refine rn_icmp_ne (tgt := 73) hX dX11_lostSack_61 (by decide) rfl rfl (by omega) (by omega) (fun c61 => by omega) (fun c61 => ?_)
        refine r_aload_n hX dX11_lostSack_64 rfl ?_
        refine r_iconst (v := nI 3) hX dX11_lostSack_65 (by decide) ?_
        refine r_iload_n hX dX11_lostSack_66 rfl ?_
        refine r_cV2 hX dX11_lostSack_67 IX11_manyIn ml_X11_289 rfl (LX11_s hL) rfl (t_X11_manyIn (M := wI M i0) hL hn0 h2) (by decide) (by decide) (by decide) (by decide) rfl (Nat.le_of_ble_eq_true rfl) ?_
        refine r_goto (tgt := 79) hX dX11_lostSack_70 (by decide) ?_
        refine r_ireturn hX rfl rfl dX11_lostSack_79 (by decide) (by decide) ?_
        refine ⟨_, i0, rfl, rfl, hR0, ?_, ho0⟩
        unfold rs_lostSack
        rw [ix_of hk (by omega)]
        dsimp only
        rw [ix_of (c := 2) (m := 4) (by omega) (by omega)]
        exact ⟨rfl, ht0⟩
      · refine Ct.of IX11_lostSack.1 (by simp [Value.category]) (Nat.le_of_ble_eq_true rfl) (fun X hX hN => ?_)
        show J G base X 0 0 M 0 [some (.ref a), some (.int (nI k)), some (.int (nI 3))] []
        refine r_aload_n hX dX11_lostSack_0 rfl ?_
        refine r_iconst (v := nI 0) hX dX11_lostSack_1 (by decide) ?_
        refine r_puti hX dX11_lostSack_2 fl_X11_3 rfl rfl (LX11_s hL) ?_
        refine J.gen (M0 := M) rfl (fun i0 h00 => ?_)
        obtain ⟨hR0, hn0, ht0, ho0⟩ := pub0 hR h00
        clear h00
        refine r_aload_n hX dX11_lostSack_5 rfl ?_
        refine r_iload_n hX dX11_lostSack_6 rfl ?_
        refine r_cV1 hX dX11_lostSack_7 IX11_noLost ml_X11_313 rfl (LX11_s hL) rfl (t_X11_noLost1 (M := wI M i0) hL hn0 h3 ⟨k, hk, rfl⟩) (by decide) (by decide) (by decide) (by decide) rfl (Nat.le_of_ble_eq_true rfl) ?_
        refine r_if_ne (tgt := 35) hX dX11_lostSack_10 (by decide) (fun c10 => absurd c10 (by decide)) (fun c10 => ?_)
        refine r_aload_n hX dX11_lostSack_13 rfl ?_
        refine r_iload_n hX dX11_lostSack_14 rfl ?_
        refine r_iconst (v := nI 0) hX dX11_lostSack_15 (by decide) ?_
        refine r_iconst (v := nI 3) hX dX11_lostSack_16 (by decide) ?_
        refine r_cS3 hX dX11_lostSack_17 IX11_in ml_X11_79 rfl (t_X11_in (M := wI M i0) ) (by decide) (by decide) (by decide) (by decide) rfl (Nat.le_of_ble_eq_true rfl) ?_
        refine rb_if_ne (tgt := 27) hX dX11_lostSack_20 (by decide) rfl (fun c20 => ?_) (fun c20 => absurd ((rng2 (m := 3) (by omega)).mpr ⟨3, by omega, rfl⟩) c20)
        refine r_iconst (v := nI 0) hX dX11_lostSack_27 (by decide) ?_
        refine r_iconst (v := nI 2) hX dX11_lostSack_28 (by decide) ?_
        refine r_cV2 hX dX11_lostSack_29 IX11_throwsIf ml_X11_215 rfl (LX11_s hL) rfl (t_X11_throwsIf0 (M := wI M i0) hL) (by decide) (by decide) (by decide) (by decide) rfl (Nat.le_of_ble_eq_true rfl) ?_
        refine r_if_eq (tgt := 37) hX dX11_lostSack_32 (by decide) (fun c32 => ?_) (fun c32 => absurd c32 (by decide))
        refine r_iload_n hX dX11_lostSack_37 rfl ?_
        refine r_iconst (v := nI 2) hX dX11_lostSack_38 (by decide) ?_
        refine rn_icmp_ge (tgt := 59) hX dX11_lostSack_39 (by decide) rfl rfl (by omega) (by omega) (fun c39 => ?_) (fun c39 => by omega)
        refine r_iload_n hX dX11_lostSack_59 rfl ?_
        refine r_iconst (v := nI 2) hX dX11_lostSack_60 (by decide) ?_
        refine rn_icmp_ne (tgt := 73) hX dX11_lostSack_61 (by decide) rfl rfl (by omega) (by omega) (fun c61 => ?_) (fun c61 => by omega)
        refine r_aload_n hX dX11_lostSack_73 rfl ?_
        refine r_iconst (v := nI 3) hX dX11_lostSack_74 (by decide) ?_
        refine r_iload_n hX dX11_lostSack_75 rfl ?_
        refine r_cV2 hX dX11_lostSack_76 IX11_valueIn ml_X11_295 rfl (LX11_s hL) rfl (t_X11_valueIn (M := wI M i0) hL hn0 h2) (by decide) (by decide) (by decide) (by decide) rfl (Nat.le_of_ble_eq_true rfl) ?_
        refine r_ireturn hX rfl rfl dX11_lostSack_79 (by decide) (by decide) ?_
        refine ⟨_, i0, rfl, rfl, hR0, ?_, ho0⟩
        unfold rs_lostSack
        rw [ix_of hk (by omega)]
        dsimp only
        rw [ix_of (c := 3) (m := 4) (by omega) (by omega)]
        exact ⟨rfl, ht0⟩
    · refine Ct.of IX11_lostSack.1 (by simp [Value.category]) (Nat.le_of_ble_eq_true rfl) (fun X hX hN => ?_)
      show J G base X 0 0 M 0 [some (.ref a), some (.int (nI k)), some (.int y)] []
      refine r_aload_n hX dX11_lostSack_0 rfl ?_
      refine r_iconst (v := nI 0) hX dX11_lostSack_1 (by decide) ?_
      refine r_puti hX dX11_lostSack_2 fl_X11_3 rfl rfl (LX11_s hL) ?_
      refine J.gen (M0 := M) rfl (fun i0 h00 => ?_)
      obtain ⟨hR0, hn0, ht0, ho0⟩ := pub0 hR h00
      clear h00
      refine r_aload_n hX dX11_lostSack_5 rfl ?_
      refine r_iload_n hX dX11_lostSack_6 rfl ?_
      refine r_cV1 hX dX11_lostSack_7 IX11_noLost ml_X11_313 rfl (LX11_s hL) rfl (t_X11_noLost1 (M := wI M i0) hL hn0 h3 ⟨k, hk, rfl⟩) (by decide) (by decide) (by decide) (by decide) rfl (Nat.le_of_ble_eq_true rfl) ?_
      refine r_if_ne (tgt := 35) hX dX11_lostSack_10 (by decide) (fun c10 => absurd c10 (by decide)) (fun c10 => ?_)
      refine r_aload_n hX dX11_lostSack_13 rfl ?_
      refine r_iload_n hX dX11_lostSack_14 rfl ?_
      refine r_iconst (v := nI 0) hX dX11_lostSack_15 (by decide) ?_
      refine r_iconst (v := nI 3) hX dX11_lostSack_16 (by decide) ?_
      refine r_cS3 hX dX11_lostSack_17 IX11_in ml_X11_79 rfl (t_X11_in (M := wI M i0) ) (by decide) (by decide) (by decide) (by decide) rfl (Nat.le_of_ble_eq_true rfl) ?_
      refine rb_if_ne (tgt := 27) hX dX11_lostSack_20 (by decide) rfl (fun c20 => absurd ((rng2 (m := 3) (by omega)).mp c20) hw) (fun c20 => ?_)
      refine r_iconst (v := nI 1) hX dX11_lostSack_23 (by decide) ?_
      refine r_goto (tgt := 28) hX dX11_lostSack_24 (by decide) ?_
      refine r_iconst (v := nI 2) hX dX11_lostSack_28 (by decide) ?_
      refine r_cV2 hX dX11_lostSack_29 IX11_throwsIf ml_X11_215 rfl (LX11_s hL) rfl (t_X11_throwsIf1 (M := wI M i0) hL) (by decide) (by decide) (by decide) (by decide) rfl (Nat.le_of_ble_eq_true rfl) ?_
      refine r_if_eq (tgt := 37) hX dX11_lostSack_32 (by decide) (fun c32 => absurd c32 (by decide)) (fun c32 => ?_)
      refine r_iconst (v := 0) hX dX11_lostSack_35 (by decide) ?_
      refine r_ireturn hX rfl rfl dX11_lostSack_36 (by decide) (by decide) ?_
      obtain ⟨q1, q2, q3⟩ := pub1 hR0 ho0 2
      refine ⟨_, mI (uI (wI M i0) a 0 2), rfl, rfl, q1, ?_, q3⟩
      unfold rs_lostSack
      rw [ix_of hk (by omega)]
      dsimp only
      rw [ix_no hw]
      exact q2
  · refine Ct.of IX11_lostSack.1 (by simp [Value.category]) (Nat.le_of_ble_eq_true rfl) (fun X hX hN => ?_)
    show J G base X 0 0 M 0 [some (.ref a), some (.int x), some (.int y)] []
    refine r_aload_n hX dX11_lostSack_0 rfl ?_
    refine r_iconst (v := nI 0) hX dX11_lostSack_1 (by decide) ?_
    refine r_puti hX dX11_lostSack_2 fl_X11_3 rfl rfl (LX11_s hL) ?_
    refine J.gen (M0 := M) rfl (fun i0 h00 => ?_)
    obtain ⟨hR0, hn0, ht0, ho0⟩ := pub0 hR h00
    clear h00
    refine r_aload_n hX dX11_lostSack_5 rfl ?_
    refine r_iload_n hX dX11_lostSack_6 rfl ?_
    refine r_cV1 hX dX11_lostSack_7 IX11_noLost ml_X11_313 rfl (LX11_s hL) rfl (t_X11_noLost0 (M := wI M i0) hL hn0 h3 hx) (by decide) (by decide) (by decide) (by decide) rfl (Nat.le_of_ble_eq_true rfl) ?_
    refine r_if_ne (tgt := 35) hX dX11_lostSack_10 (by decide) (fun c10 => ?_) (fun c10 => absurd c10 (by decide))
    refine r_iconst (v := 0) hX dX11_lostSack_35 (by decide) ?_
    refine r_ireturn hX rfl rfl dX11_lostSack_36 (by decide) (by decide) ?_
    obtain ⟨q1, q2, q3⟩ := pub1 hR0 ho0 1
    refine ⟨_, mI (uI (wI M i0) a 0 1), rfl, rfl, q1, ?_, q3⟩
    unfold rs_lostSack
    rw [ix_no hx]
    exact q2

set_option maxHeartbeats 2000000 in
set_option maxRecDepth 20000 in
theorem t_X11_count {M : Mm} {a : Nat} {σ : Sg} {T : Nat} (hL : LX11 M.1 M.2.1 a) (hR : RI (mI M) a σ) (hO : OkN T σ.1) (hT9 : T < 890000) {x : Int32} : Ct G base YX11_count 4 0 0 [.ref a, .int x] M (rV M (pQ M a (rs_count σ x) σ)) := by
  obtain ⟨hT, hS, hLt, h4, h5, h6, hLo, hSt, hN⟩ := hO
  have h0 := hT.1
  have h1 := hT.2.1
  have hr := hT.2.2
  have h2 := hLt.1
  have h3 := hLt.2.1
  have hb0 := h0.2
  have hb1 := h1.2
  have hb2 := h2.2
  have hb3 := h3.2
  have hb4 := h4.2
  have ht6 : σ.1 6 = nI (nv σ.1 6) := h6.1
  have hh6 : nv σ.1 6 ≤ T := h6.2
  by_cases hx : ∃ w, w < 9 ∧ x = nI w
  · obtain ⟨w, hw, rfl⟩ := hx
    rcases (show w = 0 ∨ w = 1 ∨ w = 2 ∨ w = 3 ∨ w = 4 ∨ w = 5 ∨ w = 6 ∨ w = 7 ∨ w = 8 by omega) with rfl | rfl | rfl | rfl | rfl | rfl | rfl | rfl | rfl
    · refine Ct.of IX11_count.1 (by simp [Value.category]) (Nat.le_of_ble_eq_true rfl) (fun X hX hN => ?_)
      show J G base X 0 0 M 0 [some (.ref a), some (.int (nI 0))] []
      refine r_aload_n hX dX11_count_0 rfl ?_
      refine r_iconst (v := nI 0) hX dX11_count_1 (by decide) ?_
      refine r_puti hX dX11_count_2 fl_X11_3 rfl rfl (LX11_s hL) ?_
      refine J.gen (M0 := M) rfl (fun i0 h00 => ?_)
      obtain ⟨hR0, hn0, ht0, ho0⟩ := pub0 hR h00
      clear h00
      refine r_aload_n hX dX11_count_5 rfl ?_
      refine r_iload_n hX dX11_count_6 rfl ?_
      refine r_iconst (v := nI 0) hX dX11_count_7 (by decide) ?_
      refine r_bipush (v := nI 8) hX dX11_count_8 (by decide) ?_
      refine r_cS3 hX dX11_count_10 IX11_in ml_X11_79 rfl (t_X11_in (M := wI M i0) ) (by decide) (by decide) (by decide) (by decide) rfl (Nat.le_of_ble_eq_true rfl) ?_
      refine rb_if_ne (tgt := 20) hX dX11_count_13 (by decide) rfl (fun c13 => ?_) (fun c13 => absurd ((rng2 (m := 8) (by omega)).mpr ⟨0, by omega, rfl⟩) c13)
      refine r_iconst (v := nI 0) hX dX11_count_20 (by decide) ?_
      refine r_iconst (v := nI 1) hX dX11_count_21 (by decide) ?_
      refine r_cV2 hX dX11_count_22 IX11_throwsIf ml_X11_215 rfl (LX11_s hL) rfl (t_X11_throwsIf0 (M := wI M i0) hL) (by decide) (by decide) (by decide) (by decide) rfl (Nat.le_of_ble_eq_true rfl) ?_
      refine r_if_eq (tgt := 30) hX dX11_count_25 (by decide) (fun c25 => ?_) (fun c25 => absurd c25 (by decide))
      refine r_iload_n hX dX11_count_30 rfl ?_
      refine r_tabIn (off := 45) (tgt := 76) hX dX11_count_31 (by decide) (by decide) (by decide) (by decide) ?_
      refine r_aload_n hX dX11_count_76 rfl ?_
      refine r_cV0 hX dX11_count_77 IX11_places ml_X11_75 rfl (LX11_s hL) rfl (t_X11_places (M := wI M i0) hL hn0 h0) (by decide) (by decide) (by decide) (by decide) rfl (Nat.le_of_ble_eq_true rfl) ?_
      refine r_ireturn hX rfl rfl dX11_count_80 (by decide) (by decide) ?_
      refine ⟨_, i0, rfl, rfl, hR0, ?_, ho0⟩
      unfold rs_count
      rw [ix_of (c := 0) (m := 9) (by omega) (by omega)]
      exact ⟨h0.1.symm, ht0⟩
    · refine Ct.of IX11_count.1 (by simp [Value.category]) (Nat.le_of_ble_eq_true rfl) (fun X hX hN => ?_)
      show J G base X 0 0 M 0 [some (.ref a), some (.int (nI 1))] []
      refine r_aload_n hX dX11_count_0 rfl ?_
      refine r_iconst (v := nI 0) hX dX11_count_1 (by decide) ?_
      refine r_puti hX dX11_count_2 fl_X11_3 rfl rfl (LX11_s hL) ?_
      refine J.gen (M0 := M) rfl (fun i0 h00 => ?_)
      obtain ⟨hR0, hn0, ht0, ho0⟩ := pub0 hR h00
      clear h00
      refine r_aload_n hX dX11_count_5 rfl ?_
      refine r_iload_n hX dX11_count_6 rfl ?_
      refine r_iconst (v := nI 0) hX dX11_count_7 (by decide) ?_
      refine r_bipush (v := nI 8) hX dX11_count_8 (by decide) ?_
      refine r_cS3 hX dX11_count_10 IX11_in ml_X11_79 rfl (t_X11_in (M := wI M i0) ) (by decide) (by decide) (by decide) (by decide) rfl (Nat.le_of_ble_eq_true rfl) ?_
      refine rb_if_ne (tgt := 20) hX dX11_count_13 (by decide) rfl (fun c13 => ?_) (fun c13 => absurd ((rng2 (m := 8) (by omega)).mpr ⟨1, by omega, rfl⟩) c13)
      refine r_iconst (v := nI 0) hX dX11_count_20 (by decide) ?_
      refine r_iconst (v := nI 1) hX dX11_count_21 (by decide) ?_
      refine r_cV2 hX dX11_count_22 IX11_throwsIf ml_X11_215 rfl (LX11_s hL) rfl (t_X11_throwsIf0 (M := wI M i0) hL) (by decide) (by decide) (by decide) (by decide) rfl (Nat.le_of_ble_eq_true rfl) ?_
      refine r_if_eq (tgt := 30) hX dX11_count_25 (by decide) (fun c25 => ?_) (fun c25 => absurd c25 (by decide))
      refine r_iload_n hX dX11_count_30 rfl ?_
      refine r_tabIn (off := 50) (tgt := 81) hX dX11_count_31 (by decide) (by decide) (by decide) (by decide) ?_
      refine r_aload_n hX dX11_count_81 rfl ?_
      refine r_cV0 hX dX11_count_82 IX11_villages ml_X11_280 rfl (LX11_s hL) rfl (t_X11_villages (M := wI M i0) hL hn0 h0) (by decide) (by decide) (by decide) (by decide) rfl (Nat.le_of_ble_eq_true rfl) ?_
      refine r_ireturn hX rfl rfl dX11_count_85 (by decide) (by decide) ?_
      refine ⟨_, i0, rfl, rfl, hR0, ?_, ho0⟩
      unfold rs_count
      rw [ix_of (c := 1) (m := 9) (by omega) (by omega)]
      exact ⟨rfl, ht0⟩
    · refine Ct.of IX11_count.1 (by simp [Value.category]) (Nat.le_of_ble_eq_true rfl) (fun X hX hN => ?_)
      show J G base X 0 0 M 0 [some (.ref a), some (.int (nI 2))] []
      refine r_aload_n hX dX11_count_0 rfl ?_
      refine r_iconst (v := nI 0) hX dX11_count_1 (by decide) ?_
      refine r_puti hX dX11_count_2 fl_X11_3 rfl rfl (LX11_s hL) ?_
      refine J.gen (M0 := M) rfl (fun i0 h00 => ?_)
      obtain ⟨hR0, hn0, ht0, ho0⟩ := pub0 hR h00
      clear h00
      refine r_aload_n hX dX11_count_5 rfl ?_
      refine r_iload_n hX dX11_count_6 rfl ?_
      refine r_iconst (v := nI 0) hX dX11_count_7 (by decide) ?_
      refine r_bipush (v := nI 8) hX dX11_count_8 (by decide) ?_
      refine r_cS3 hX dX11_count_10 IX11_in ml_X11_79 rfl (t_X11_in (M := wI M i0) ) (by decide) (by decide) (by decide) (by decide) rfl (Nat.le_of_ble_eq_true rfl) ?_
      refine rb_if_ne (tgt := 20) hX dX11_count_13 (by decide) rfl (fun c13 => ?_) (fun c13 => absurd ((rng2 (m := 8) (by omega)).mpr ⟨2, by omega, rfl⟩) c13)
      refine r_iconst (v := nI 0) hX dX11_count_20 (by decide) ?_
      refine r_iconst (v := nI 1) hX dX11_count_21 (by decide) ?_
      refine r_cV2 hX dX11_count_22 IX11_throwsIf ml_X11_215 rfl (LX11_s hL) rfl (t_X11_throwsIf0 (M := wI M i0) hL) (by decide) (by decide) (by decide) (by decide) rfl (Nat.le_of_ble_eq_true rfl) ?_
      refine r_if_eq (tgt := 30) hX dX11_count_25 (by decide) (fun c25 => ?_) (fun c25 => absurd c25 (by decide))
      refine r_iload_n hX dX11_count_30 rfl ?_
      refine r_tabIn (off := 55) (tgt := 86) hX dX11_count_31 (by decide) (by decide) (by decide) (by decide) ?_
      refine r_aload_n hX dX11_count_86 rfl ?_
      refine r_cV0 hX dX11_count_87 IX11_carriers ml_X11_151 rfl (LX11_s hL) rfl (t_X11_carriers (M := wI M i0) hL hn0 h1) (by decide) (by decide) (by decide) (by decide) rfl (Nat.le_of_ble_eq_true rfl) ?_
      refine r_ireturn hX rfl rfl dX11_count_90 (by decide) (by decide) ?_
      refine ⟨_, i0, rfl, rfl, hR0, ?_, ho0⟩
      unfold rs_count
      rw [ix_of (c := 2) (m := 9) (by omega) (by omega)]
      exact ⟨h1.1.symm, ht0⟩
    · refine Ct.of IX11_count.1 (by simp [Value.category]) (Nat.le_of_ble_eq_true rfl) (fun X hX hN => ?_)
      show J G base X 0 0 M 0 [some (.ref a), some (.int (nI 3))] []
      refine r_aload_n hX dX11_count_0 rfl ?_
      refine r_iconst (v := nI 0) hX dX11_count_1 (by decide) ?_
      refine r_puti hX dX11_count_2 fl_X11_3 rfl rfl (LX11_s hL) ?_
      refine J.gen (M0 := M) rfl (fun i0 h00 => ?_)
      obtain ⟨hR0, hn0, ht0, ho0⟩ := pub0 hR h00
      clear h00
      refine r_aload_n hX dX11_count_5 rfl ?_
      refine r_iload_n hX dX11_count_6 rfl ?_
      refine r_iconst (v := nI 0) hX dX11_count_7 (by decide) ?_
      refine r_bipush (v := nI 8) hX dX11_count_8 (by decide) ?_
      refine r_cS3 hX dX11_count_10 IX11_in ml_X11_79 rfl (t_X11_in (M := wI M i0) ) (by decide) (by decide) (by decide) (by decide) rfl (Nat.le_of_ble_eq_true rfl) ?_
      refine rb_if_ne (tgt := 20) hX dX11_count_13 (by decide) rfl (fun c13 => ?_) (fun c13 => absurd ((rng2 (m := 8) (by omega)).mpr ⟨3, by omega, rfl⟩) c13)
      refine r_iconst (v := nI 0) hX dX11_count_20 (by decide) ?_
      refine r_iconst (v := nI 1) hX dX11_count_21 (by decide) ?_
      refine r_cV2 hX dX11_count_22 IX11_throwsIf ml_X11_215 rfl (LX11_s hL) rfl (t_X11_throwsIf0 (M := wI M i0) hL) (by decide) (by decide) (by decide) (by decide) rfl (Nat.le_of_ble_eq_true rfl) ?_
      refine r_if_eq (tgt := 30) hX dX11_count_25 (by decide) (fun c25 => ?_) (fun c25 => absurd c25 (by decide))
      refine r_iload_n hX dX11_count_30 rfl ?_
      refine r_tabIn (off := 60) (tgt := 91) hX dX11_count_31 (by decide) (by decide) (by decide) (by decide) ?_
      refine r_aload_n hX dX11_count_91 rfl ?_
      refine r_cV0 hX dX11_count_92 IX11_letters ml_X11_170 rfl (LX11_s hL) rfl (t_X11_letters (M := wI M i0) hL hn0 h2) (by decide) (by decide) (by decide) (by decide) rfl (Nat.le_of_ble_eq_true rfl) ?_
      refine r_ireturn hX rfl rfl dX11_count_95 (by decide) (by decide) ?_
      refine ⟨_, i0, rfl, rfl, hR0, ?_, ho0⟩
      unfold rs_count
      rw [ix_of (c := 3) (m := 9) (by omega) (by omega)]
      exact ⟨h2.1.symm, ht0⟩
    · refine Ct.of IX11_count.1 (by simp [Value.category]) (Nat.le_of_ble_eq_true rfl) (fun X hX hN => ?_)
      show J G base X 0 0 M 0 [some (.ref a), some (.int (nI 4))] []
      refine r_aload_n hX dX11_count_0 rfl ?_
      refine r_iconst (v := nI 0) hX dX11_count_1 (by decide) ?_
      refine r_puti hX dX11_count_2 fl_X11_3 rfl rfl (LX11_s hL) ?_
      refine J.gen (M0 := M) rfl (fun i0 h00 => ?_)
      obtain ⟨hR0, hn0, ht0, ho0⟩ := pub0 hR h00
      clear h00
      refine r_aload_n hX dX11_count_5 rfl ?_
      refine r_iload_n hX dX11_count_6 rfl ?_
      refine r_iconst (v := nI 0) hX dX11_count_7 (by decide) ?_
      refine r_bipush (v := nI 8) hX dX11_count_8 (by decide) ?_
      refine r_cS3 hX dX11_count_10 IX11_in ml_X11_79 rfl (t_X11_in (M := wI M i0) ) (by decide) (by decide) (by decide) (by decide) rfl (Nat.le_of_ble_eq_true rfl) ?_
      refine rb_if_ne (tgt := 20) hX dX11_count_13 (by decide) rfl (fun c13 => ?_) (fun c13 => absurd ((rng2 (m := 8) (by omega)).mpr ⟨4, by omega, rfl⟩) c13)
      refine r_iconst (v := nI 0) hX dX11_count_20 (by decide) ?_
      refine r_iconst (v := nI 1) hX dX11_count_21 (by decide) ?_
      refine r_cV2 hX dX11_count_22 IX11_throwsIf ml_X11_215 rfl (LX11_s hL) rfl (t_X11_throwsIf0 (M := wI M i0) hL) (by decide) (by decide) (by decide) (by decide) rfl (Nat.le_of_ble_eq_true rfl) ?_
      refine r_if_eq (tgt := 30) hX dX11_count_25 (by decide) (fun c25 => ?_) (fun c25 => absurd c25 (by decide))
      refine r_iload_n hX dX11_count_30 rfl ?_
      refine r_tabIn (off := 65) (tgt := 96) hX dX11_count_31 (by decide) (by decide) (by decide) (by decide) ?_
      refine r_aload_n hX dX11_count_96 rfl ?_
      refine r_getr hX dX11_count_97 fl_X11_13 rfl (LX11_s hL) (LX11_r1 hL) ?_
      refine r_iconst (v := nI 3) hX dX11_count_100 (by decide) ?_
      refine rn_iald hX dX11_count_101 (LX11_a1 hL) rfl (by omega) (by omega) ?_
      rw [hn0]
      refine r_ireturn hX rfl rfl dX11_count_102 (by decide) (by decide) ?_
      refine ⟨_, i0, rfl, rfl, hR0, ?_, ho0⟩
      unfold rs_count
      rw [ix_of (c := 4) (m := 9) (by omega) (by omega)]
      exact ⟨rfl, ht0⟩
    · refine Ct.of IX11_count.1 (by simp [Value.category]) (Nat.le_of_ble_eq_true rfl) (fun X hX hN => ?_)
      show J G base X 0 0 M 0 [some (.ref a), some (.int (nI 5))] []
      refine r_aload_n hX dX11_count_0 rfl ?_
      refine r_iconst (v := nI 0) hX dX11_count_1 (by decide) ?_
      refine r_puti hX dX11_count_2 fl_X11_3 rfl rfl (LX11_s hL) ?_
      refine J.gen (M0 := M) rfl (fun i0 h00 => ?_)
      obtain ⟨hR0, hn0, ht0, ho0⟩ := pub0 hR h00
      clear h00
      refine r_aload_n hX dX11_count_5 rfl ?_
      refine r_iload_n hX dX11_count_6 rfl ?_
      refine r_iconst (v := nI 0) hX dX11_count_7 (by decide) ?_
      refine r_bipush (v := nI 8) hX dX11_count_8 (by decide) ?_
      refine r_cS3 hX dX11_count_10 IX11_in ml_X11_79 rfl (t_X11_in (M := wI M i0) ) (by decide) (by decide) (by decide) (by decide) rfl (Nat.le_of_ble_eq_true rfl) ?_
      refine rb_if_ne (tgt := 20) hX dX11_count_13 (by decide) rfl (fun c13 => ?_) (fun c13 => absurd ((rng2 (m := 8) (by omega)).mpr ⟨5, by omega, rfl⟩) c13)
      refine r_iconst (v := nI 0) hX dX11_count_20 (by decide) ?_
      refine r_iconst (v := nI 1) hX dX11_count_21 (by decide) ?_
      refine r_cV2 hX dX11_count_22 IX11_throwsIf ml_X11_215 rfl (LX11_s hL) rfl (t_X11_throwsIf0 (M := wI M i0) hL) (by decide) (by decide) (by decide) (by decide) rfl (Nat.le_of_ble_eq_true rfl) ?_
      refine r_if_eq (tgt := 30) hX dX11_count_25 (by decide) (fun c25 => ?_) (fun c25 => absurd c25 (by decide))
      refine r_iload_n hX dX11_count_30 rfl ?_
      refine r_tabIn (off := 72) (tgt := 103) hX dX11_count_31 (by decide) (by decide) (by decide) (by decide) ?_
      refine r_aload_n hX dX11_count_103 rfl ?_
      refine r_getr hX dX11_count_104 fl_X11_13 rfl (LX11_s hL) (LX11_r1 hL) ?_
      refine r_iconst (v := nI 4) hX dX11_count_107 (by decide) ?_
      refine rn_iald hX dX11_count_108 (LX11_a1 hL) rfl (by omega) (by omega) ?_
      rw [hn0]
      refine r_ireturn hX rfl rfl dX11_count_109 (by decide) (by decide) ?_
      refine ⟨_, i0, rfl, rfl, hR0, ?_, ho0⟩
      unfold rs_count
      rw [ix_of (c := 5) (m := 9) (by omega) (by omega)]
      exact ⟨rfl, ht0⟩
    · refine Ct.of IX11_count.1 (by simp [Value.category]) (Nat.le_of_ble_eq_true rfl) (fun X hX hN => ?_)
      show J G base X 0 0 M 0 [some (.ref a), some (.int (nI 6))] []
      refine r_aload_n hX dX11_count_0 rfl ?_
      refine r_iconst (v := nI 0) hX dX11_count_1 (by decide) ?_
      refine r_puti hX dX11_count_2 fl_X11_3 rfl rfl (LX11_s hL) ?_
      refine J.gen (M0 := M) rfl (fun i0 h00 => ?_)
      obtain ⟨hR0, hn0, ht0, ho0⟩ := pub0 hR h00
      clear h00
      refine r_aload_n hX dX11_count_5 rfl ?_
      refine r_iload_n hX dX11_count_6 rfl ?_
      refine r_iconst (v := nI 0) hX dX11_count_7 (by decide) ?_
      refine r_bipush (v := nI 8) hX dX11_count_8 (by decide) ?_
      refine r_cS3 hX dX11_count_10 IX11_in ml_X11_79 rfl (t_X11_in (M := wI M i0) ) (by decide) (by decide) (by decide) (by decide) rfl (Nat.le_of_ble_eq_true rfl) ?_
      refine rb_if_ne (tgt := 20) hX dX11_count_13 (by decide) rfl (fun c13 => ?_) (fun c13 => absurd ((rng2 (m := 8) (by omega)).mpr ⟨6, by omega, rfl⟩) c13)
      refine r_iconst (v := nI 0) hX dX11_count_20 (by decide) ?_
      refine r_iconst (v := nI 1) hX dX11_count_21 (by decide) ?_
      refine r_cV2 hX dX11_count_22 IX11_throwsIf ml_X11_215 rfl (LX11_s hL) rfl (t_X11_throwsIf0 (M := wI M i0) hL) (by decide) (by decide) (by decide) (by decide) rfl (Nat.le_of_ble_eq_true rfl) ?_
      refine r_if_eq (tgt := 30) hX dX11_count_25 (by decide) (fun c25 => ?_) (fun c25 => absurd c25 (by decide))
      refine r_iload_n hX dX11_count_30 rfl ?_
      refine r_tabIn (off := 79) (tgt := 110) hX dX11_count_31 (by decide) (by decide) (by decide) (by decide) ?_
      refine r_aload_n hX dX11_count_110 rfl ?_
      refine r_getr hX dX11_count_111 fl_X11_13 rfl (LX11_s hL) (LX11_r1 hL) ?_
      refine r_iconst (v := nI 5) hX dX11_count_114 (by decide) ?_
      refine rn_iald hX dX11_count_115 (LX11_a1 hL) rfl (by omega) (by omega) ?_
      rw [hn0]
      refine r_ireturn hX rfl rfl dX11_count_116 (by decide) (by decide) ?_
      refine ⟨_, i0, rfl, rfl, hR0, ?_, ho0⟩
      unfold rs_count
      rw [ix_of (c := 6) (m := 9) (by omega) (by omega)]
      exact ⟨rfl, ht0⟩
    · refine Ct.of IX11_count.1 (by simp [Value.category]) (Nat.le_of_ble_eq_true rfl) (fun X hX hN => ?_)
      show J G base X 0 0 M 0 [some (.ref a), some (.int (nI 7))] []
      refine r_aload_n hX dX11_count_0 rfl ?_
      refine r_iconst (v := nI 0) hX dX11_count_1 (by decide) ?_
      refine r_puti hX dX11_count_2 fl_X11_3 rfl rfl (LX11_s hL) ?_
      refine J.gen (M0 := M) rfl (fun i0 h00 => ?_)
      obtain ⟨hR0, hn0, ht0, ho0⟩ := pub0 hR h00
      clear h00
      refine r_aload_n hX dX11_count_5 rfl ?_
      refine r_iload_n hX dX11_count_6 rfl ?_
      refine r_iconst (v := nI 0) hX dX11_count_7 (by decide) ?_
      refine r_bipush (v := nI 8) hX dX11_count_8 (by decide) ?_
      refine r_cS3 hX dX11_count_10 IX11_in ml_X11_79 rfl (t_X11_in (M := wI M i0) ) (by decide) (by decide) (by decide) (by decide) rfl (Nat.le_of_ble_eq_true rfl) ?_
      refine rb_if_ne (tgt := 20) hX dX11_count_13 (by decide) rfl (fun c13 => ?_) (fun c13 => absurd ((rng2 (m := 8) (by omega)).mpr ⟨7, by omega, rfl⟩) c13)
      refine r_iconst (v := nI 0) hX dX11_count_20 (by decide) ?_
      refine r_iconst (v := nI 1) hX dX11_count_21 (by decide) ?_
      refine r_cV2 hX dX11_count_22 IX11_throwsIf ml_X11_215 rfl (LX11_s hL) rfl (t_X11_throwsIf0 (M := wI M i0) hL) (by decide) (by decide) (by decide) (by decide) rfl (Nat.le_of_ble_eq_true rfl) ?_
      refine r_if_eq (tgt := 30) hX dX11_count_25 (by decide) (fun c25 => ?_) (fun c25 => absurd c25 (by decide))
      refine r_iload_n hX dX11_count_30 rfl ?_
      refine r_tabIn (off := 86) (tgt := 117) hX dX11_count_31 (by decide) (by decide) (by decide) (by decide) ?_
      refine r_aload_n hX dX11_count_117 rfl ?_
      refine r_getr hX dX11_count_118 fl_X11_13 rfl (LX11_s hL) (LX11_r1 hL) ?_
      refine r_bipush (v := nI 6) hX dX11_count_121 (by decide) ?_
      refine rn_iald hX dX11_count_123 (LX11_a1 hL) rfl (by omega) (by omega) ?_
      rw [hn0]
      refine r_ireturn hX rfl rfl dX11_count_124 (by decide) (by decide) ?_
      refine ⟨_, i0, rfl, rfl, hR0, ?_, ho0⟩
      unfold rs_count
      rw [ix_of (c := 7) (m := 9) (by omega) (by omega)]
      exact ⟨rfl, ht0⟩
    · refine Ct.of IX11_count.1 (by simp [Value.category]) (Nat.le_of_ble_eq_true rfl) (fun X hX hN => ?_)
      show J G base X 0 0 M 0 [some (.ref a), some (.int (nI 8))] []
      refine r_aload_n hX dX11_count_0 rfl ?_
      refine r_iconst (v := nI 0) hX dX11_count_1 (by decide) ?_
      refine r_puti hX dX11_count_2 fl_X11_3 rfl rfl (LX11_s hL) ?_
      refine J.gen (M0 := M) rfl (fun i0 h00 => ?_)
      obtain ⟨hR0, hn0, ht0, ho0⟩ := pub0 hR h00
      clear h00
      refine r_aload_n hX dX11_count_5 rfl ?_
      refine r_iload_n hX dX11_count_6 rfl ?_
      refine r_iconst (v := nI 0) hX dX11_count_7 (by decide) ?_
      refine r_bipush (v := nI 8) hX dX11_count_8 (by decide) ?_
      refine r_cS3 hX dX11_count_10 IX11_in ml_X11_79 rfl (t_X11_in (M := wI M i0) ) (by decide) (by decide) (by decide) (by decide) rfl (Nat.le_of_ble_eq_true rfl) ?_
      refine rb_if_ne (tgt := 20) hX dX11_count_13 (by decide) rfl (fun c13 => ?_) (fun c13 => absurd ((rng2 (m := 8) (by omega)).mpr ⟨8, by omega, rfl⟩) c13)
      refine r_iconst (v := nI 0) hX dX11_count_20 (by decide) ?_
      refine r_iconst (v := nI 1) hX dX11_count_21 (by decide) ?_
      refine r_cV2 hX dX11_count_22 IX11_throwsIf ml_X11_215 rfl (LX11_s hL) rfl (t_X11_throwsIf0 (M := wI M i0) hL) (by decide) (by decide) (by decide) (by decide) rfl (Nat.le_of_ble_eq_true rfl) ?_
      refine r_if_eq (tgt := 30) hX dX11_count_25 (by decide) (fun c25 => ?_) (fun c25 => absurd c25 (by decide))
      refine r_iload_n hX dX11_count_30 rfl ?_
      refine r_tabOut (tgt := 125) hX dX11_count_31 (by decide) (by decide) ?_
      refine r_aload_n hX dX11_count_125 rfl ?_
      refine r_getr hX dX11_count_126 fl_X11_13 rfl (LX11_s hL) (LX11_r1 hL) ?_
      refine r_bipush (v := nI 7) hX dX11_count_129 (by decide) ?_
      refine rn_iald hX dX11_count_131 (LX11_a1 hL) rfl (by omega) (by omega) ?_
      rw [hn0]
      refine r_ireturn hX rfl rfl dX11_count_132 (by decide) (by decide) ?_
      refine ⟨_, i0, rfl, rfl, hR0, ?_, ho0⟩
      unfold rs_count
      rw [ix_of (c := 8) (m := 9) (by omega) (by omega)]
      exact ⟨rfl, ht0⟩
  · refine Ct.of IX11_count.1 (by simp [Value.category]) (Nat.le_of_ble_eq_true rfl) (fun X hX hN => ?_)
    show J G base X 0 0 M 0 [some (.ref a), some (.int x)] []
    refine r_aload_n hX dX11_count_0 rfl ?_
    refine r_iconst (v := nI 0) hX dX11_count_1 (by decide) ?_
    refine r_puti hX dX11_count_2 fl_X11_3 rfl rfl (LX11_s hL) ?_
    refine J.gen (M0 := M) rfl (fun i0 h00 => ?_)
    obtain ⟨hR0, hn0, ht0, ho0⟩ := pub0 hR h00
    clear h00
    refine r_aload_n hX dX11_count_5 rfl ?_
    refine r_iload_n hX dX11_count_6 rfl ?_
    refine r_iconst (v := nI 0) hX dX11_count_7 (by decide) ?_
    refine r_bipush (v := nI 8) hX dX11_count_8 (by decide) ?_
    refine r_cS3 hX dX11_count_10 IX11_in ml_X11_79 rfl (t_X11_in (M := wI M i0) ) (by decide) (by decide) (by decide) (by decide) rfl (Nat.le_of_ble_eq_true rfl) ?_
    refine rb_if_ne (tgt := 20) hX dX11_count_13 (by decide) rfl (fun c13 => absurd ((rng2 (m := 8) (by omega)).mp c13) hx) (fun c13 => ?_)
    refine r_iconst (v := nI 1) hX dX11_count_16 (by decide) ?_
    refine r_goto (tgt := 21) hX dX11_count_17 (by decide) ?_
    refine r_iconst (v := nI 1) hX dX11_count_21 (by decide) ?_
    refine r_cV2 hX dX11_count_22 IX11_throwsIf ml_X11_215 rfl (LX11_s hL) rfl (t_X11_throwsIf1 (M := wI M i0) hL) (by decide) (by decide) (by decide) (by decide) rfl (Nat.le_of_ble_eq_true rfl) ?_
    refine r_if_eq (tgt := 30) hX dX11_count_25 (by decide) (fun c25 => absurd c25 (by decide)) (fun c25 => ?_)
    refine r_iconst (v := 0) hX dX11_count_28 (by decide) ?_
    refine r_ireturn hX rfl rfl dX11_count_29 (by decide) (by decide) ?_
    obtain ⟨q1, q2, q3⟩ := pub1 hR0 ho0 1
    refine ⟨_, mI (uI (wI M i0) a 0 1), rfl, rfl, q1, ?_, q3⟩
    unfold rs_count
    rw [ix_no hx]
    exact q2

theorem town_f {n : Nat → Int32} {p : Nat} (h : town n p = false) {b : Bool} : (!town n p && b) = b := by rw [h]; rfl
theorem town_t {n : Nat → Int32} {p : Nat} (h : town n p = true) {b : Bool} : (!town n p && b) = false := by rw [h]; rfl
set_option maxHeartbeats 2000000 in
set_option maxRecDepth 20000 in
theorem t_X11_meetings {M : Mm} {a : Nat} {σ : Sg} {T : Nat} (hL : LX11 M.1 M.2.1 a) (hR : RI (mI M) a σ) (hO : OkN T σ.1) (hT9 : T < 890000) : Ct G base YX11_meetings 4 0 0 [.ref a] M (rV M (pQ M a (rs_meetings σ) σ)) := by
  obtain ⟨hT, hS, hLt, h4, h5, h6, hLo, hSt, hN⟩ := hO
  have h0 := hT.1
  have h1 := hT.2.1
  have hr := hT.2.2
  have h2 := hLt.1
  have h3 := hLt.2.1
  have hb0 := h0.2
  have hb1 := h1.2
  have hb2 := h2.2
  have hb3 := h3.2
  have hb4 := h4.2
  have ht6 : σ.1 6 = nI (nv σ.1 6) := h6.1
  have hh6 : nv σ.1 6 ≤ T := h6.2
  refine Ct.of IX11_meetings.1 (by simp [Value.category]) (Nat.le_of_ble_eq_true rfl) (fun X hX hN => ?_)
  show J G base X 0 0 M 0 [some (.ref a), none, none, none, none, none] []
  refine r_aload_n hX dX11_meetings_0 rfl ?_
  refine r_iconst (v := nI 0) hX dX11_meetings_1 (by decide) ?_
  refine r_puti hX dX11_meetings_2 fl_X11_3 rfl rfl (LX11_s hL) ?_
  refine J.gen (M0 := M) rfl (fun i0 h00 => ?_)
  obtain ⟨hR0, hn0, ht0, ho0⟩ := pub0 hR h00
  clear h00
  refine r_iconst (v := nI 0) hX dX11_meetings_5 (by decide) ?_
  refine r_istore1 hX dX11_meetings_6 rfl ?_
  refine r_iconst (v := nI 0) hX dX11_meetings_7 (by decide) ?_
  refine r_istore2 hX dX11_meetings_8 rfl ?_
  refine loop_up (P := fun h => J G base X 0 0 (wI M i0) 9 [some (.ref a), some (.int (nI (sumF (fun h => cntB (metB σ.1 h) (nv σ.1 0)) h))), some (.int (nI h)), none, none, none] []) 168 (fun h hh ih => ?_) 0 (Nat.zero_le _)
  have hsl := sumF_le (f := fun h => cntB (metB σ.1 h) (nv σ.1 0)) (b := 10) (fun j => Nat.le_trans (cntB_le _ _) hb0) h
  generalize hS0 : sumF (fun h => cntB (metB σ.1 h) (nv σ.1 0)) h = S at hsl ⊢
  refine r_iload_n hX dX11_meetings_9 rfl ?_
  refine r_sipush (v := nI 168) hX dX11_meetings_10 (by decide) ?_
  refine rn_icmp_ge (tgt := 102) hX dX11_meetings_13 (by decide) rfl rfl (by omega) (by omega) (fun c13 => ?_) (fun c13 => ?_)
  · refine r_iload_n hX dX11_meetings_102 rfl ?_
    refine r_ireturn hX rfl rfl dX11_meetings_103 (by decide) (by decide) ?_
    obtain rfl : h = 168 := by omega
    refine ⟨_, i0, rfl, rfl, hR0, ?_, ho0⟩
    unfold rs_meetings
    exact ⟨by rw [hS0], ht0⟩
  · refine r_iconst (v := nI 0) hX dX11_meetings_16 (by decide) ?_
    refine r_istore3 hX dX11_meetings_17 rfl ?_
    have main : ∀ p, p ≤ nv σ.1 0 → J G base X 0 0 (wI M i0) 18 [some (.ref a), some (.int (nI (S + cntB (metB σ.1 h) p))), some (.int (nI h)), some (.int (nI p)), none, none] [] := ?_
    · exact main 0 (by omega)
    refine loop_up (nv σ.1 0) (fun p hp ihp => ?_)
    have hcl := cntB_le (metB σ.1 h) p
    refine r_iload_n hX dX11_meetings_18 rfl ?_
    refine r_aload_n hX dX11_meetings_19 rfl ?_
    refine r_cV0 hX dX11_meetings_20 IX11_places ml_X11_75 rfl (LX11_s hL) rfl (t_X11_places (M := wI M i0) hL hn0 h0) (by decide) (by decide) (by decide) (by decide) rfl (Nat.le_of_ble_eq_true rfl) ?_
    refine rn_icmp_ge (tgt := 96) hX dX11_meetings_23 (by decide) rfl rfl (by omega) (by omega) (fun c23 => ?_) (fun c23 => ?_)
    · obtain rfl : p = nv σ.1 0 := by omega
      refine rn_iinc2 hX dX11_meetings_96 rfl rfl ?_
      refine r_goto (tgt := 9) hX dX11_meetings_99 (by decide) ?_
      have z := ih (by omega)
      simp only [sumF] at z
      rw [hS0] at z
      exact J.junk z (by repeat first | exact trivial | refine ⟨rfl, ?_⟩)
    · refine r_iconst (v := nI 0) hX dX11_meetings_26 (by decide) ?_
      refine r_istore4 hX dX11_meetings_27 rfl ?_
      refine r_iconst (v := nI 0) hX dX11_meetings_29 (by decide) ?_
      refine r_istore5 hX dX11_meetings_30 rfl ?_
      by_cases ht : town σ.1 p = true
      · have htp : townP σ.1 (nI p) := (town_iff h0 c23).mpr ht
        refine r_iload hX dX11_meetings_32 rfl ?_
        refine r_aload_n hX dX11_meetings_34 rfl ?_
        refine r_cV0 hX dX11_meetings_35 IX11_carriers ml_X11_151 rfl (LX11_s hL) rfl (t_X11_carriers (M := wI M i0) hL hn0 h1) (by decide) (by decide) (by decide) (by decide) rfl (Nat.le_of_ble_eq_true rfl) ?_
        refine rn_icmp_ge (tgt := 76) hX dX11_meetings_38 (by decide) rfl rfl (by omega) (by omega) (fun c38 => ?_) (fun c38 => ?_)
        · refine r_iload_n hX dX11_meetings_76 rfl ?_
          refine r_iload hX dX11_meetings_77 rfl ?_
          refine r_iconst (v := nI 1) hX dX11_meetings_79 (by decide) ?_
          refine rn_icmp_le (tgt := 87) hX dX11_meetings_80 (by decide) rfl rfl (by omega) (by omega) (fun c80 => ?_) (fun c80 => by omega)
          refine r_iconst (v := nI 0) hX dX11_meetings_87 (by decide) ?_
          refine rn_iadd hX dX11_meetings_88 rfl rfl ?_
          refine r_istore1 hX dX11_meetings_89 rfl ?_
          refine rn_iinc3 hX dX11_meetings_90 rfl rfl ?_
          refine r_goto (tgt := 18) hX dX11_meetings_93 (by decide) ?_
          have hm : metB σ.1 h p = false := by unfold metB; rw [town_t ht]
          have z := ihp (by omega)
          simp only [cntB] at z
          rw [if_neg (by rw [hm]; decide), Nat.add_zero] at z
          exact J.junk z (by repeat first | exact trivial | refine ⟨rfl, ?_⟩)
        · refine r_aload_n hX dX11_meetings_41 rfl ?_
          refine r_iload_n hX dX11_meetings_42 rfl ?_
          refine r_cV1 hX dX11_meetings_43 IX11_isTown ml_X11_166 rfl (LX11_s hL) rfl (t_X11_isTown (M := wI M i0) hL hn0 h0) (by decide) (by decide) (by decide) (by decide) rfl (Nat.le_of_ble_eq_true rfl) ?_
          refine rb_if_ne (tgt := 76) hX dX11_meetings_46 (by decide) rfl (fun c46 => ?_) (fun c46 => absurd htp c46)
          refine r_iload_n hX dX11_meetings_76 rfl ?_
          refine r_iload hX dX11_meetings_77 rfl ?_
          refine r_iconst (v := nI 1) hX dX11_meetings_79 (by decide) ?_
          refine rn_icmp_le (tgt := 87) hX dX11_meetings_80 (by decide) rfl rfl (by omega) (by omega) (fun c80 => ?_) (fun c80 => by omega)
          refine r_iconst (v := nI 0) hX dX11_meetings_87 (by decide) ?_
          refine rn_iadd hX dX11_meetings_88 rfl rfl ?_
          refine r_istore1 hX dX11_meetings_89 rfl ?_
          refine rn_iinc3 hX dX11_meetings_90 rfl rfl ?_
          refine r_goto (tgt := 18) hX dX11_meetings_93 (by decide) ?_
          have hm : metB σ.1 h p = false := by unfold metB; rw [town_t ht]
          have z := ihp (by omega)
          simp only [cntB] at z
          rw [if_neg (by rw [hm]; decide), Nat.add_zero] at z
          exact J.junk z (by repeat first | exact trivial | refine ⟨rfl, ?_⟩)
      · have ht2 : town σ.1 p = false := by simpa using ht
        have htp : ¬ townP σ.1 (nI p) := fun q => ht ((town_iff h0 c23).mp q)
        refine loop_up (P := fun c => J G base X 0 0 (wI M i0) 32 [some (.ref a), some (.int (nI (S + cntB (metB σ.1 h) p))), some (.int (nI h)), some (.int (nI p)), some (.int (nI (cntB (fun c => decide (stopN σ.1 c h = nI p)) c))), some (.int (nI c))] []) (nv σ.1 1) (fun c hc ihc => ?_) 0 (Nat.zero_le _)
        have hcc := cntB_le (fun c => decide (stopN σ.1 c h = nI p)) c
        refine r_iload hX dX11_meetings_32 rfl ?_
        refine r_aload_n hX dX11_meetings_34 rfl ?_
        refine r_cV0 hX dX11_meetings_35 IX11_carriers ml_X11_151 rfl (LX11_s hL) rfl (t_X11_carriers (M := wI M i0) hL hn0 h1) (by decide) (by decide) (by decide) (by decide) rfl (Nat.le_of_ble_eq_true rfl) ?_
        refine rn_icmp_ge (tgt := 76) hX dX11_meetings_38 (by decide) rfl rfl (by omega) (by omega) (fun c38 => ?_) (fun c38 => ?_)
        · obtain rfl : c = nv σ.1 1 := by omega
          refine r_iload_n hX dX11_meetings_76 rfl ?_
          refine r_iload hX dX11_meetings_77 rfl ?_
          refine r_iconst (v := nI 1) hX dX11_meetings_79 (by decide) ?_
          refine rn_icmp_le (tgt := 87) hX dX11_meetings_80 (by decide) rfl rfl (by omega) (by omega) (fun c80 => ?_) (fun c80 => ?_)
          · refine r_iconst (v := nI 0) hX dX11_meetings_87 (by decide) ?_
            refine rn_iadd hX dX11_meetings_88 rfl rfl ?_
            refine r_istore1 hX dX11_meetings_89 rfl ?_
            refine rn_iinc3 hX dX11_meetings_90 rfl rfl ?_
            refine r_goto (tgt := 18) hX dX11_meetings_93 (by decide) ?_
            have hm : metB σ.1 h p = decide (2 ≤ cntB (fun c => decide (stopN σ.1 c h = nI p)) (nv σ.1 1)) := by unfold metB; rw [town_f ht2]
            have z := ihp (by omega)
            simp only [cntB] at z
            first
              | (rw [if_pos (by rw [hm]; simp only [decide_eq_true_eq]; omega)] at z
                 exact J.junk z (by repeat first | exact trivial | refine ⟨rfl, ?_⟩))
              | (rw [if_neg (by rw [hm]; simp only [decide_eq_true_eq]; omega)] at z
                 exact J.junk z (by repeat first | exact trivial | refine ⟨rfl, ?_⟩))
          · refine r_iconst (v := nI 1) hX dX11_meetings_83 (by decide) ?_
            refine r_goto (tgt := 88) hX dX11_meetings_84 (by decide) ?_
            refine rn_iadd hX dX11_meetings_88 rfl rfl ?_
            refine r_istore1 hX dX11_meetings_89 rfl ?_
            refine rn_iinc3 hX dX11_meetings_90 rfl rfl ?_
            refine r_goto (tgt := 18) hX dX11_meetings_93 (by decide) ?_
            have hm : metB σ.1 h p = decide (2 ≤ cntB (fun c => decide (stopN σ.1 c h = nI p)) (nv σ.1 1)) := by unfold metB; rw [town_f ht2]
            have z := ihp (by omega)
            simp only [cntB] at z
            first
              | (rw [if_pos (by rw [hm]; simp only [decide_eq_true_eq]; omega)] at z
                 exact J.junk z (by repeat first | exact trivial | refine ⟨rfl, ?_⟩))
              | (rw [if_neg (by rw [hm]; simp only [decide_eq_true_eq]; omega)] at z
                 exact J.junk z (by repeat first | exact trivial | refine ⟨rfl, ?_⟩))
        · refine r_aload_n hX dX11_meetings_41 rfl ?_
          refine r_iload_n hX dX11_meetings_42 rfl ?_
          refine r_cV1 hX dX11_meetings_43 IX11_isTown ml_X11_166 rfl (LX11_s hL) rfl (t_X11_isTown (M := wI M i0) hL hn0 h0) (by decide) (by decide) (by decide) (by decide) rfl (Nat.le_of_ble_eq_true rfl) ?_
          refine rb_if_ne (tgt := 76) hX dX11_meetings_46 (by decide) rfl (fun c46 => absurd c46 htp) (fun c46 => ?_)
          refine r_iload hX dX11_meetings_49 rfl ?_
          refine r_aload_n hX dX11_meetings_51 rfl ?_
          refine r_iload hX dX11_meetings_52 rfl ?_
          refine r_iload_n hX dX11_meetings_54 rfl ?_
          refine r_cV2 hX dX11_meetings_55 IX11_stopIn ml_X11_86 rfl (LX11_s hL) rfl (t_X11_stopIn (M := wI M i0) hL hn0 hr (by omega) (by omega)) (by decide) (by decide) (by decide) (by decide) rfl (Nat.le_of_ble_eq_true rfl) ?_
          refine r_iload_n hX dX11_meetings_58 rfl ?_
          refine r_icmp_ne (tgt := 66) hX dX11_meetings_59 (by decide) (fun c59 => ?_) (fun c59 => ?_)
          · refine r_iconst (v := nI 0) hX dX11_meetings_66 (by decide) ?_
            refine rn_iadd hX dX11_meetings_67 rfl rfl ?_
            refine r_istore4 hX dX11_meetings_68 rfl ?_
            refine rn_iinc5 hX dX11_meetings_70 rfl rfl ?_
            refine r_goto (tgt := 32) hX dX11_meetings_73 (by decide) ?_
            have z := ihc (by omega)
            simp only [cntB] at z
            first
              | (rw [if_pos (by simp only [decide_eq_true_eq]; exact c59)] at z; exact z)
              | (rw [if_neg (by simp only [decide_eq_true_eq]; exact c59)] at z; exact z)
          · refine r_iconst (v := nI 1) hX dX11_meetings_62 (by decide) ?_
            refine r_goto (tgt := 67) hX dX11_meetings_63 (by decide) ?_
            refine rn_iadd hX dX11_meetings_67 rfl rfl ?_
            refine r_istore4 hX dX11_meetings_68 rfl ?_
            refine rn_iinc5 hX dX11_meetings_70 rfl rfl ?_
            refine r_goto (tgt := 32) hX dX11_meetings_73 (by decide) ?_
            have z := ihc (by omega)
            simp only [cntB] at z
            first
              | (rw [if_pos (by simp only [decide_eq_true_eq]; exact c59)] at z; exact z)
              | (rw [if_neg (by simp only [decide_eq_true_eq]; exact c59)] at z; exact z)

