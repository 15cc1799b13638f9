variable {G : GG} {base : Nat}
set_option maxHeartbeats 2000000 in
set_option maxRecDepth 20000 in
theorem t_c_formatLetter {M : Mm} {a : Nat} {σ : Sg} {T : Nat} (hL : LX10 M.1 M.2.1 a) (hC : CI (mI M) a σ) (hO : OkN T σ.1) (hT9 : T < 890000) {x : Int32} : Ct G base YX10_formatLetter 20 1 6 [.ref a, .int x] M (rC M a 1 4 (rs_formatLetter σ x) (sg_formatLetter σ x)) := by
  obtain ⟨hT, hS, hLt, h4, h5, h6, hLo, hSt, hNa⟩ := hO
  have h0 := hT.1
  have h1 := hT.2.1
  have hr := hT.2.2
  have h2 := hLt.1
  have h3 := hLt.2.1
  have hb0 := h0.2
  have hb1 := h1.2
  have hb2 := h2.2
  have hb3 := h3.2
  have hb4 := h4.2
  have ht6 : σ.1 6 = nI (nv σ.1 6) := h6.1
  have hh6 : nv σ.1 6 ≤ T := h6.2
  have hTT : TT (mI M) (a + 28) σ.1 := hC.2.2.2.1
  have hRS : RS (mI M) (a + 34) σ.1 := hC.2.2.2.2.1
  have hHR : HR (mI M) (a + 52) σ.2.1 σ.2.2.1 := hC.2.2.2.2.2.1
  have hpc : mI M (a + 28) 0 = nI (nv σ.1 0) := hTT.1.trans h0.1
  have hcc : mI M (a + 28) 2 = nI (nv σ.1 1) := hTT.2.2.1.trans h1.1
  have hlc : mI M (a + 34 + 2) 0 = nI (nv σ.1 2) := hRS.2.2.1.1.trans h2.1
  have hkc : mI M (a + 34 + 15) 0 = nI (nv σ.1 3) := hRS.2.2.2.2.1.trans h3.1
  have hrc : mI M (a + 34 + 13) 0 = nI (nv σ.1 4) := hRS.2.2.2.1.1.trans h4.1
  have htm : mI M (a + 34) 0 = nI (nv σ.1 6) := hRS.1.1.trans ht6
  by_cases hx : ∃ c, c < nv σ.1 2 ∧ x = nI c
  · obtain ⟨l, hl, rfl⟩ := hx
    obtain ⟨f, t, v', s', w', g1', g2', g3', g4', g5', g6', g7', g8', g9', g10', g11', g12', g13', g14', g15'⟩ := hLt.2.2 l hl
    have hft := town_lt g6'
    have htt := town_lt g7'
    have hw9 : w' < 100 := by
      rcases (show s' = 0 ∨ s' = 1 ∨ s' = 2 ∨ s' = 3 by omega) with z | z | z | z
      · have := town_lt (g11' z).1; omega
      · have := g12' z; omega
      · have := g13' z; omega
      · have := g14' z; omega
    have hl1 := (hTT.2.2.2.1 f hft).len
    have hl2 := (hTT.2.2.2.1 t htt).len
    have hw0 : s' = 0 → w' < nv σ.1 0 := fun z => town_lt (g11' z).1
    have hwl : (whC σ.1 s' w').length ≤ 20 := by
      unfold whC
      rcases (show s' = 0 ∨ s' = 1 ∨ s' = 2 ∨ s' = 3 by omega) with z | z | z | z
      · rw [if_pos z, List.length_append, show (txw 7).length = 7 from rfl]
        have := (hTT.2.2.2.1 w' (hw0 z)).len
        omega
      · rw [if_neg (by omega), if_pos z, List.length_append, show (txw 8).length = 5 from rfl]
        have := @numT_len w'
        omega
      · rw [if_neg (by omega), if_neg (by omega), if_pos z, show (txw 9).length = 4 from rfl]
        omega
      · rw [if_neg (by omega), if_neg (by omega), if_neg (by omega), show (txw 10).length = 4 from rfl]
        omega
    have hev : txLt σ.1 l = nmT (σ.1 (18 + f)) ++ [62] ++ nmT (σ.1 (18 + t)) ++ [32] ++ whC σ.1 s' w' ++ (if lateB σ.1 l = true then txw 11 else []) := by
      unfold txLt
      rw [nv_of g1' (by omega), nv_of g2' (by omega), whT_is g4' g5' g10' (by omega)]
    refine Ct.of IX10_formatLetter.1 (by simp [Value.category]) (Nat.le_of_ble_eq_true rfl) (fun X hX hN => ?_)
    show J G base X 0 0 M 0 [some (.ref a), some (.int (nI l)), none] []
    refine r_aload_n hX dX10_formatLetter_0 rfl ?_
    refine r_getr hX dX10_formatLetter_1 fl_X10_40 rfl (LX10_s hL) (LX10_r6 hL) ?_
    refine r_getr hX dX10_formatLetter_4 fl_X10_107 rfl (LX8_s (LX10_o6 hL)) (LX8_r5 (LX10_o6 hL)) ?_
    refine r_astore2 hX dX10_formatLetter_7 rfl ?_
    refine r_iload_n hX dX10_formatLetter_8 rfl ?_
    refine r_aload_n hX dX10_formatLetter_9 rfl ?_
    refine rn_geti (v := nI (nv σ.1 2)) hX dX10_formatLetter_10 fl_X10_111 rfl (LX2_s (LX8_o5 (LX10_o6 hL))) hlc ?_
    refine r_cS2 hX dX10_formatLetter_13 IX10_needIndex ml_X10_169 rfl (t_ni1 hl (by omega)) (by decide) (by decide) (by decide) (by decide) rfl (Nat.le_of_ble_eq_true rfl) ?_
    refine r_aload_n hX dX10_formatLetter_16 rfl ?_
    refine r_getr hX dX10_formatLetter_17 fl_X10_68 rfl (LX10_s hL) (LX10_r10 hL) ?_
    refine r_iconst (v := nI 0) hX dX10_formatLetter_20 (by decide) ?_
    refine r_puti hX dX10_formatLetter_21 fl_X10_297 rfl rfl (LX3_s (LX10_o10 hL)) ?_
    refine r_aload_n hX dX10_formatLetter_24 rfl ?_
    refine r_getr hX dX10_formatLetter_25 fl_X10_68 rfl (LX10_s hL) (LX10_r10 hL) ?_
    refine r_aload_n hX dX10_formatLetter_28 rfl ?_
    refine r_getr hX dX10_formatLetter_29 fl_X10_33 rfl (LX10_s hL) (LX10_r5 hL) ?_
    refine r_aload_n hX dX10_formatLetter_32 rfl ?_
    refine r_getr hX dX10_formatLetter_33 fl_X10_119 rfl (LX2_s (LX8_o5 (LX10_o6 hL))) (LX2_r1 (LX8_o5 (LX10_o6 hL))) ?_
    refine r_iload_n hX dX10_formatLetter_36 rfl ?_
    refine rn_iald hX dX10_formatLetter_37 (LX2_a1 (LX8_o5 (LX10_o6 hL))) rfl (by omega) (by omega) ?_
    rw [show mI (uI M (a + 206) 0 (nI 0)) (a + 34 + 2 + 1) l = nI f from (congrFun (uIo (by omega)) l).trans ((hRS.2.2.1.2.2 l hl 0 (by omega)).trans g1')]
    refine r_cV1 hX dX10_formatLetter_38 IX9_nameOfPlace ml_X10_300 rfl (LX9_s (LX10_o5 hL)) rfl (t_X9_nameOfPlace (M := uI M (a + 206) 0 (nI 0)) (LX10_o5 hL) ((congrFun (uIo (by omega)) 0).trans hpc) hb0 hft) (by decide) (by decide) (by decide) (by decide) rfl (Nat.le_of_ble_eq_true rfl) ?_
    refine r_iV1 hX dX10_formatLetter_41 IX3_putName ml_X10_303 rfl (LX3_s (LX10_o10 hL)) rfl (t_X3_putNm (M := uI M (a + 206) 0 (nI 0)) (LX10_o10 hL) lP.start.1 (s := []) (by show 0 < 150; omega) (show NmR (mI (uI M (a + 206) 0 (nI 0)) (a + 28 + 1) f) (σ.1 (18 + f)) from by rw [show mI (uI M (a + 206) 0 (nI 0)) (a + 28 + 1) = mI M (a + 28 + 1) from uIo (by omega)]; exact hTT.2.2.2.1 f hft)) (by decide) (by decide) (by decide) (by decide) rfl (Nat.le_of_ble_eq_true rfl) (fun i1 g1 => ?_)
    show J G base X _ _ (wI M i1) _ _ _
    have k1 : lP M (a + 206) (nmT (σ.1 (18 + f))) i1 := lP.start.tr (i := mI (uI M (a + 206) 0 (nI 0))) g1
    refine r_aload_n hX dX10_formatLetter_44 rfl ?_
    refine r_getr hX dX10_formatLetter_45 fl_X10_68 rfl (LX10_s hL) (LX10_r10 hL) ?_
    refine r_bipush (v := nI 62) hX dX10_formatLetter_48 (by decide) ?_
    refine r_iV1 hX dX10_formatLetter_50 IX3_put ml_X10_306 rfl (LX3_s (LX10_o10 hL)) rfl (t_X3_put (M := wI M i1) (LX10_o10 hL) k1.1 (by first | omega | (simp only [List.length_append, List.length_cons, List.length_nil]; omega))) (by decide) (by decide) (by decide) (by decide) rfl (Nat.le_of_ble_eq_true rfl) (fun i2 g2 => ?_)
    show J G base X _ _ (wI M i2) _ _ _
    have k2 : lP M (a + 206) (nmT (σ.1 (18 + f)) ++ [62]) i2 := k1.tr g2
    refine r_aload_n hX dX10_formatLetter_53 rfl ?_
    refine r_getr hX dX10_formatLetter_54 fl_X10_68 rfl (LX10_s hL) (LX10_r10 hL) ?_
    refine r_aload_n hX dX10_formatLetter_57 rfl ?_
    refine r_getr hX dX10_formatLetter_58 fl_X10_33 rfl (LX10_s hL) (LX10_r5 hL) ?_
    refine r_aload_n hX dX10_formatLetter_61 rfl ?_
    refine r_getr hX dX10_formatLetter_62 fl_X10_122 rfl (LX2_s (LX8_o5 (LX10_o6 hL))) (LX2_r2 (LX8_o5 (LX10_o6 hL))) ?_
    refine r_iload_n hX dX10_formatLetter_65 rfl ?_
    refine rn_iald hX dX10_formatLetter_66 (LX2_a2 (LX8_o5 (LX10_o6 hL))) rfl (by omega) (by omega) ?_
    rw [show mI (wI M i2) (a + 34 + 2 + 2) l = nI t from (congrFun (k2.2 _ (by omega) (by omega)) l).trans ((hRS.2.2.1.2.2 l hl 1 (by omega)).trans g2')]
    refine r_cV1 hX dX10_formatLetter_67 IX9_nameOfPlace ml_X10_300 rfl (LX9_s (LX10_o5 hL)) rfl (t_X9_nameOfPlace (M := wI M i2) (LX10_o5 hL) ((congrFun (k2.2 _ (by omega) (by omega)) 0).trans hpc) hb0 htt) (by decide) (by decide) (by decide) (by decide) rfl (Nat.le_of_ble_eq_true rfl) ?_
    refine r_iV1 hX dX10_formatLetter_70 IX3_putName ml_X10_303 rfl (LX3_s (LX10_o10 hL)) rfl (t_X3_putNm (M := wI M i2) (LX10_o10 hL) k2.1 (by first | omega | (simp only [List.length_append, List.length_cons, List.length_nil]; omega)) (show NmR (mI (wI M i2) (a + 28 + 1) t) (σ.1 (18 + t)) from by rw [show mI (wI M i2) (a + 28 + 1) = mI M (a + 28 + 1) from (k2.2 _ (by omega) (by omega))]; exact hTT.2.2.2.1 t htt)) (by decide) (by decide) (by decide) (by decide) rfl (Nat.le_of_ble_eq_true rfl) (fun i3 g3 => ?_)
    show J G base X _ _ (wI M i3) _ _ _
    have k3 : lP M (a + 206) (nmT (σ.1 (18 + f)) ++ [62] ++ nmT (σ.1 (18 + t))) i3 := k2.tr g3
    refine r_aload_n hX dX10_formatLetter_73 rfl ?_
    refine r_getr hX dX10_formatLetter_74 fl_X10_68 rfl (LX10_s hL) (LX10_r10 hL) ?_
    refine r_bipush (v := nI 32) hX dX10_formatLetter_77 (by decide) ?_
    refine r_iV1 hX dX10_formatLetter_79 IX3_put ml_X10_306 rfl (LX3_s (LX10_o10 hL)) rfl (t_X3_put (M := wI M i3) (LX10_o10 hL) k3.1 (by first | omega | (simp only [List.length_append, List.length_cons, List.length_nil]; omega))) (by decide) (by decide) (by decide) (by decide) rfl (Nat.le_of_ble_eq_true rfl) (fun i4 g4 => ?_)
    show J G base X _ _ (wI M i4) _ _ _
    have k4 : lP M (a + 206) (nmT (σ.1 (18 + f)) ++ [62] ++ nmT (σ.1 (18 + t)) ++ [32]) i4 := k3.tr g4
    refine r_aload_n hX dX10_formatLetter_82 rfl ?_
    refine r_aload_n hX dX10_formatLetter_83 rfl ?_
    refine r_getr hX dX10_formatLetter_84 fl_X10_219 rfl (LX2_s (LX8_o5 (LX10_o6 hL))) (LX2_r4 (LX8_o5 (LX10_o6 hL))) ?_
    refine r_iload_n hX dX10_formatLetter_87 rfl ?_
    refine rn_iald hX dX10_formatLetter_88 (LX2_a4 (LX8_o5 (LX10_o6 hL))) rfl (by omega) (by omega) ?_
    rw [show mI (wI M i4) (a + 34 + 2 + 4) l = nI s' from (congrFun (k4.2 _ (by omega) (by omega)) l).trans ((hRS.2.2.1.2.2 l hl 3 (by omega)).trans g4')]
    refine r_aload_n hX dX10_formatLetter_89 rfl ?_
    refine r_getr hX dX10_formatLetter_90 fl_X10_224 rfl (LX2_s (LX8_o5 (LX10_o6 hL))) (LX2_r5 (LX8_o5 (LX10_o6 hL))) ?_
    refine r_iload_n hX dX10_formatLetter_93 rfl ?_
    refine rn_iald hX dX10_formatLetter_94 (LX2_a5 (LX8_o5 (LX10_o6 hL))) rfl (by omega) (by omega) ?_
    rw [show mI (wI M i4) (a + 34 + 2 + 5) l = nI w' from (congrFun (k4.2 _ (by omega) (by omega)) l).trans ((hRS.2.2.1.2.2 l hl 4 (by omega)).trans g5')]
    refine r_iV2 hX dX10_formatLetter_95 IX10_putWhereabouts ml_X10_309 rfl (LX10_s hL) rfl (t_X10_where (M := wI M i4) (n := σ.1) hL k4.1 (by first | omega | (simp only [List.length_append, List.length_cons, List.length_nil]; omega)) (hTT.kept (fun x _ _ z => congrFun (k4.2 x (by omega) (by omega)) z)) h0 g10' hw0 (fun _ => hw9)) (by decide) (by decide) (by decide) (by decide) rfl (Nat.le_of_ble_eq_true rfl) (fun i5 g5 => ?_)
    show J G base X _ _ (wI M i5) _ _ _
    have k5 : lP M (a + 206) (nmT (σ.1 (18 + f)) ++ [62] ++ nmT (σ.1 (18 + t)) ++ [32] ++ whC σ.1 s' w') i5 := k4.tr g5
    refine r_aload_n hX dX10_formatLetter_98 rfl ?_
    refine r_iload_n hX dX10_formatLetter_99 rfl ?_
    refine r_aload_n hX dX10_formatLetter_100 rfl ?_
    refine r_getr hX dX10_formatLetter_101 fl_X10_40 rfl (LX10_s hL) (LX10_r6 hL) ?_
    refine rn_geti (v := σ.1 6) hX dX10_formatLetter_104 fl_X10_160 rfl (LX8_s (LX10_o6 hL)) ((congrFun (k5.2 _ (by omega) (by omega)) 0).trans hRS.1.1) ?_
    refine r_cV2 hX dX10_formatLetter_107 IX2_lateAt ml_X10_233 rfl (LX2_s (LX8_o5 (LX10_o6 hL))) rfl (t_X2_lateAt (M := wI M i5) (LX8_o5 (LX10_o6 hL)) ((congrFun (k5.2 _ (by omega) (by omega)) 0).trans hlc) hb2 hl) (by decide) (by decide) (by decide) (by decide) rfl (Nat.le_of_ble_eq_true rfl) ?_
    rw [show mI (wI M i5) (a + 34 + 2 + 4) l = _ from (congrFun (k5.2 _ (by omega) (by omega)) l).trans (hRS.2.2.1.2.2 l hl 3 (by omega)), show mI (wI M i5) (a + 34 + 2 + 8) l = _ from (congrFun (k5.2 _ (by omega) (by omega)) l).trans (hRS.2.2.1.2.2 l hl 7 (by omega)), show mI (wI M i5) (a + 34 + 2 + 7) l = _ from (congrFun (k5.2 _ (by omega) (by omega)) l).trans (hRS.2.2.1.2.2 l hl 6 (by omega)), itec (show _ ↔ lateB σ.1 l = true from decide_eq_true_iff.symm)]
    refine rb_if_eq (tgt := 123) hX dX10_formatLetter_110 (by decide) rfl (fun c110 => ?_) (fun c110 => ?_)
    · refine r_aload_n hX dX10_formatLetter_123 rfl ?_
      refine r_getr hX dX10_formatLetter_124 fl_X10_68 rfl (LX10_s hL) (LX10_r10 hL) ?_
      refine rn_geti hX dX10_formatLetter_127 fl_X10_297 rfl (LX3_s (LX10_o10 hL)) (show mI (wI M i5) (a + 206) 0 = _ from k5.1.1) ?_
      refine r_ireturn hX rfl rfl dX10_formatLetter_130 (by decide) (by decide) ?_
      refine rC.y (i := i5) ?_ ?_ (fun y hy z => congrFun (k5.2 y (by omega) (by omega)) z)
      · unfold rs_formatLetter
        rw [ix_of hl (by omega)]
        dsimp only
        rw [hev, if_neg c110, List.append_nil]
      · unfold sg_formatLetter
        rw [ix_of hl (by omega)]
        dsimp only
        rw [hev, if_neg c110, List.append_nil]
        exact hC.line k5.1 (by first | omega | (simp only [List.length_append, List.length_cons, List.length_nil]; omega)) k5.2
    · refine r_aload_n hX dX10_formatLetter_113 rfl ?_
      refine r_getr hX dX10_formatLetter_114 fl_X10_68 rfl (LX10_s hL) (LX10_r10 hL) ?_
      refine r_ldcSW (i := 11) hX dX10_formatLetter_117 (show (RX10, 312, 11) ∈ txR by simp [txR]) ?_
      refine r_iV1 hX dX10_formatLetter_120 IX3_putText ml_X10_314 rfl (LX3_s (LX10_o10 hL)) rfl (t_X3_putText (M := wI M i5) (LX10_o10 hL) k5.1 (by first | omega | (simp only [List.length_append, List.length_cons, List.length_nil]; omega)) (w := 11) (by decide)) (by decide) (by decide) (by decide) (by decide) rfl (Nat.le_of_ble_eq_true rfl) (fun i6 g6 => ?_)
      show J G base X _ _ (wI M i6) _ _ _
      have k6 : lP M (a + 206) (nmT (σ.1 (18 + f)) ++ [62] ++ nmT (σ.1 (18 + t)) ++ [32] ++ whC σ.1 s' w' ++ txw 11) i6 := k5.tr g6
      refine r_aload_n hX dX10_formatLetter_123 rfl ?_
      refine r_getr hX dX10_formatLetter_124 fl_X10_68 rfl (LX10_s hL) (LX10_r10 hL) ?_
      refine rn_geti hX dX10_formatLetter_127 fl_X10_297 rfl (LX3_s (LX10_o10 hL)) (show mI (wI M i6) (a + 206) 0 = _ from k6.1.1) ?_
      refine r_ireturn hX rfl rfl dX10_formatLetter_130 (by decide) (by decide) ?_
      refine rC.y (i := i6) ?_ ?_ (fun y hy z => congrFun (k6.2 y (by omega) (by omega)) z)
      · unfold rs_formatLetter
        rw [ix_of hl (by omega)]
        dsimp only
        rw [hev, if_pos c110]
      · unfold sg_formatLetter
        rw [ix_of hl (by omega)]
        dsimp only
        rw [hev, if_pos c110]
        exact hC.line k6.1 (by simp only [List.length_append, List.length_cons, List.length_nil, show (txw 11).length = 2 from rfl]; omega) k6.2
  · refine Ct.of IX10_formatLetter.1 (by simp [Value.category]) (Nat.le_of_ble_eq_true rfl) (fun X hX hN => ?_)
    show J G base X 0 0 M 0 [some (.ref a), some (.int x), none] []
    refine r_aload_n hX dX10_formatLetter_0 rfl ?_
    refine r_getr hX dX10_formatLetter_1 fl_X10_40 rfl (LX10_s hL) (LX10_r6 hL) ?_
    refine r_getr hX dX10_formatLetter_4 fl_X10_107 rfl (LX8_s (LX10_o6 hL)) (LX8_r5 (LX10_o6 hL)) ?_
    refine r_astore2 hX dX10_formatLetter_7 rfl ?_
    refine r_iload_n hX dX10_formatLetter_8 rfl ?_
    refine r_aload_n hX dX10_formatLetter_9 rfl ?_
    refine rn_geti (v := nI (nv σ.1 2)) hX dX10_formatLetter_10 fl_X10_111 rfl (LX2_s (LX8_o5 (LX10_o6 hL))) hlc ?_
    refine r_tS2 hX dX10_formatLetter_13 IX10_needIndex ml_X10_169 rfl (t_ni0 hx (by omega)) (by decide) (by decide) (by decide) (by decide) rfl (Nat.le_of_ble_eq_true rfl) ?_
    exact rC.n0 (k := 1) (by unfold rs_formatLetter; rw [ix_no hx]) rfl (by unfold sg_formatLetter; rw [ix_no hx]; exact hC)

