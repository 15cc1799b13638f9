variable {G : GG} {base : Nat}
theorem lsT_no {n : Nat → Int32} {sk l : Nat} (h : ¬ (n (498 + 10 * l + 3) = 1 ∧ n (498 + 10 * l + 4) = nI sk)) : lsT n sk (l + 1) = lsT n sk l := by
  conv => lhs; unfold lsT
  rw [if_neg h, List.append_nil]
theorem lsT_0 {n : Nat → Int32} {sk l : Nat} (h : n (498 + 10 * l + 3) = 1 ∧ n (498 + 10 * l + 4) = nI sk) (hv : n (498 + 10 * l + 2) = 0) : lsT n sk (l + 1) = lsT n sk l ++ [32] ++ numT l := by
  conv => lhs; unfold lsT
  rw [if_pos h, if_pos hv, List.append_nil, List.append_assoc]
theorem lsT_1 {n : Nat → Int32} {sk l : Nat} (h : n (498 + 10 * l + 3) = 1 ∧ n (498 + 10 * l + 4) = nI sk) (hv : ¬ n (498 + 10 * l + 2) = 0) : lsT n sk (l + 1) = lsT n sk l ++ [32] ++ numT l ++ [42] := by
  conv => lhs; unfold lsT
  rw [if_pos h, if_neg hv]
  simp only [List.append_assoc]
set_option maxHeartbeats 2000000 in
set_option maxRecDepth 20000 in
theorem t_c_formatCarrier {M : Mm} {a : Nat} {σ : Sg} {T : Nat} (hL : LX10 M.1 M.2.1 a) (hC : CI (mI M) a σ) (hO : OkN T σ.1) (hT9 : T < 890000) {x : Int32} : Ct G base YX10_formatCarrier 20 1 6 [.ref a, .int x] M (rC M a 1 4 (rs_formatCarrier σ x) (sg_formatCarrier σ x)) := by
  obtain ⟨hT, hS, hLt, h4, h5, h6, hLo, hSt, hNa⟩ := hO
  have h0 := hT.1
  have h1 := hT.2.1
  have hr := hT.2.2
  have h2 := hLt.1
  have h3 := hLt.2.1
  have hb0 := h0.2
  have hb1 := h1.2
  have hb2 := h2.2
  have hb3 := h3.2
  have hb4 := h4.2
  have ht6 : σ.1 6 = nI (nv σ.1 6) := h6.1
  have hh6 : nv σ.1 6 ≤ T := h6.2
  have hTT : TT (mI M) (a + 28) σ.1 := hC.2.2.2.1
  have hRS : RS (mI M) (a + 34) σ.1 := hC.2.2.2.2.1
  have hHR : HR (mI M) (a + 52) σ.2.1 σ.2.2.1 := hC.2.2.2.2.2.1
  have hpc : mI M (a + 28) 0 = nI (nv σ.1 0) := hTT.1.trans h0.1
  have hcc : mI M (a + 28) 2 = nI (nv σ.1 1) := hTT.2.2.1.trans h1.1
  have hlc : mI M (a + 34 + 2) 0 = nI (nv σ.1 2) := hRS.2.2.1.1.trans h2.1
  have hkc : mI M (a + 34 + 15) 0 = nI (nv σ.1 3) := hRS.2.2.2.2.1.trans h3.1
  have hrc : mI M (a + 34 + 13) 0 = nI (nv σ.1 4) := hRS.2.2.2.1.1.trans h4.1
  have htm : mI M (a + 34) 0 = nI (nv σ.1 6) := hRS.1.1.trans ht6
  by_cases hx : ∃ c, c < nv σ.1 1 ∧ x = nI c
  · obtain ⟨c, hc, rfl⟩ := hx
    obtain ⟨sk, hsk5, hsk⟩ := hS.1 c (by omega)
    have hnl := (hTT.2.2.2.2.1 c hc).len
    have hsv : nv σ.1 (33 + c) = sk := nv_of hsk (by omega)
    have hnt := @numT_len sk
    have hev : txCr σ.1 c = nmT (σ.1 (28 + c)) ++ txw 12 ++ numT sk ++ lsT σ.1 sk (nv σ.1 2) := by
      unfold txCr
      rw [hsv, List.append_assoc (nmT (σ.1 (28 + c)))]
      rfl
    refine Ct.of IX10_formatCarrier.1 (by simp [Value.category]) (Nat.le_of_ble_eq_true rfl) (fun X hX hN => ?_)
    show J G base X 0 0 M 0 [some (.ref a), some (.int (nI c)), none, none, none] []
    refine r_iload_n hX dX10_formatCarrier_0 rfl ?_
    refine r_aload_n hX dX10_formatCarrier_1 rfl ?_
    refine r_getr hX dX10_formatCarrier_2 fl_X10_33 rfl (LX10_s hL) (LX10_r5 hL) ?_
    refine rn_geti (v := nI (nv σ.1 1)) hX dX10_formatCarrier_5 fl_X10_138 rfl (LX9_s (LX10_o5 hL)) hcc ?_
    refine r_cS2 hX dX10_formatCarrier_8 IX10_needIndex ml_X10_169 rfl (t_ni1 hc (by omega)) (by decide) (by decide) (by decide) (by decide) rfl (Nat.le_of_ble_eq_true rfl) ?_
    refine r_aload_n hX dX10_formatCarrier_11 rfl ?_
    refine r_getr hX dX10_formatCarrier_12 fl_X10_40 rfl (LX10_s hL) (LX10_r6 hL) ?_
    refine r_getr hX dX10_formatCarrier_15 fl_X10_107 rfl (LX8_s (LX10_o6 hL)) (LX8_r5 (LX10_o6 hL)) ?_
    refine r_astore2 hX dX10_formatCarrier_18 rfl ?_
    refine r_aload_n hX dX10_formatCarrier_19 rfl ?_
    refine r_getr hX dX10_formatCarrier_20 fl_X10_40 rfl (LX10_s hL) (LX10_r6 hL) ?_
    refine r_iload_n hX dX10_formatCarrier_23 rfl ?_
    refine r_cV1 hX dX10_formatCarrier_24 IX8_sackWith ml_X10_197 rfl (LX8_s (LX10_o6 hL)) rfl (t_X8_sackWith (LX10_o6 hL) (by omega)) (by decide) (by decide) (by decide) (by decide) rfl (Nat.le_of_ble_eq_true rfl) ?_
    rw [show mI M (a + 34 + 1) c = nI sk from (hRS.sk1 (noP_c hc) (by omega)).trans hsk]
    refine r_istore3 hX dX10_formatCarrier_27 rfl ?_
    refine r_aload_n hX dX10_formatCarrier_28 rfl ?_
    refine r_getr hX dX10_formatCarrier_29 fl_X10_68 rfl (LX10_s hL) (LX10_r10 hL) ?_
    refine r_iconst (v := nI 0) hX dX10_formatCarrier_32 (by decide) ?_
    refine r_puti hX dX10_formatCarrier_33 fl_X10_297 rfl rfl (LX3_s (LX10_o10 hL)) ?_
    refine r_aload_n hX dX10_formatCarrier_36 rfl ?_
    refine r_getr hX dX10_formatCarrier_37 fl_X10_68 rfl (LX10_s hL) (LX10_r10 hL) ?_
    refine r_aload_n hX dX10_formatCarrier_40 rfl ?_
    refine r_getr hX dX10_formatCarrier_41 fl_X10_33 rfl (LX10_s hL) (LX10_r5 hL) ?_
    refine r_iload_n hX dX10_formatCarrier_44 rfl ?_
    refine r_cV1 hX dX10_formatCarrier_45 IX9_nameOfCarrier ml_X10_329 rfl (LX9_s (LX10_o5 hL)) rfl (t_X9_nameOfCarrier (M := uI M (a + 206) 0 (nI 0)) (LX10_o5 hL) ((congrFun (uIo (by omega)) 2).trans hcc) hb1 hc) (by decide) (by decide) (by decide) (by decide) rfl (Nat.le_of_ble_eq_true rfl) ?_
    refine r_iV1 hX dX10_formatCarrier_48 IX3_putName ml_X10_303 rfl (LX3_s (LX10_o10 hL)) rfl (t_X3_putNm (M := uI M (a + 206) 0 (nI 0)) (LX10_o10 hL) lP.start.1 (s := []) (by show 0 < 150; omega) (show NmR (mI (uI M (a + 206) 0 (nI 0)) (a + 28 + 2) c) (σ.1 (28 + c)) from by rw [show mI (uI M (a + 206) 0 (nI 0)) (a + 28 + 2) = mI M (a + 28 + 2) from uIo (by omega)]; exact hTT.2.2.2.2.1 c hc)) (by decide) (by decide) (by decide) (by decide) rfl (Nat.le_of_ble_eq_true rfl) (fun i1 g1 => ?_)
    show J G base X _ _ (wI M i1) _ _ _
    have k1 : lP M (a + 206) (nmT (σ.1 (28 + c))) i1 := lP.start.tr (i := mI (uI M (a + 206) 0 (nI 0))) g1
    refine r_aload_n hX dX10_formatCarrier_51 rfl ?_
    refine r_getr hX dX10_formatCarrier_52 fl_X10_68 rfl (LX10_s hL) (LX10_r10 hL) ?_
    refine r_ldcSW (i := 12) hX dX10_formatCarrier_55 (show (RX10, 332, 12) ∈ txR by simp [txR]) ?_
    refine r_iV1 hX dX10_formatCarrier_58 IX3_putText ml_X10_314 rfl (LX3_s (LX10_o10 hL)) rfl (t_X3_putText (M := wI M i1) (LX10_o10 hL) k1.1 (by first | omega | (simp only [List.length_append, List.length_cons, List.length_nil, show (txw 12).length = 2 from rfl]; omega)) (w := 12) (by decide)) (by decide) (by decide) (by decide) (by decide) rfl (Nat.le_of_ble_eq_true rfl) (fun i2 g2 => ?_)
    show J G base X _ _ (wI M i2) _ _ _
    have k2 : lP M (a + 206) (nmT (σ.1 (28 + c)) ++ txw 12) i2 := k1.tr g2
    refine r_aload_n hX dX10_formatCarrier_61 rfl ?_
    refine r_getr hX dX10_formatCarrier_62 fl_X10_68 rfl (LX10_s hL) (LX10_r10 hL) ?_
    refine r_iload_n hX dX10_formatCarrier_65 rfl ?_
    refine r_iV1 hX dX10_formatCarrier_66 IX3_putNumber ml_X10_322 rfl (LX3_s (LX10_o10 hL)) rfl (t_X3_putNumber (M := wI M i2) (LX10_o10 hL) k2.1 (by first | omega | (simp only [List.length_append, List.length_cons, List.length_nil, show (txw 12).length = 2 from rfl]; omega)) (v := sk) (by omega)) (by decide) (by decide) (by decide) (by decide) rfl (Nat.le_of_ble_eq_true rfl) (fun i3 g3 => ?_)
    show J G base X _ _ (wI M i3) _ _ _
    have k3 : lP M (a + 206) (nmT (σ.1 (28 + c)) ++ txw 12 ++ numT sk) i3 := k2.tr g3
    refine r_iconst (v := nI 0) hX dX10_formatCarrier_69 (by decide) ?_
    refine r_istore4 hX dX10_formatCarrier_70 rfl ?_
    refine loop_us (σ := Nat → Nat → Int32) (P := fun j i => (lP M (a + 206) (nmT (σ.1 (28 + c)) ++ txw 12 ++ numT sk ++ lsT σ.1 sk j) i) → J G base X 0 0 (wI M i) 72 [some (.ref a), some (.int (nI c)), some (.ref (a + 34 + 2)), some (.int (nI sk)), some (.int (nI j))] []) (nv σ.1 2) (fun j i hj ih hi => ?_) 0 i3 (Nat.zero_le _) (by rw [show lsT σ.1 sk 0 = [] from rfl, List.append_nil]; exact k3)
    have hll := @lsT_len σ.1 sk j
    have hnj := @numT_len j
    refine r_iload hX dX10_formatCarrier_72 rfl ?_
    refine r_aload_n hX dX10_formatCarrier_74 rfl ?_
    refine rn_geti (v := nI (nv σ.1 2)) hX dX10_formatCarrier_75 fl_X10_111 rfl (LX2_s (LX8_o5 (LX10_o6 hL))) ((congrFun (hi.2 _ (by omega) (by omega)) 0).trans hlc) ?_
    refine rn_icmp_ge (tgt := 135) hX dX10_formatCarrier_78 (by decide) rfl rfl (by omega) (by omega) (fun c78 => ?_) (fun c78 => ?_)
    · refine r_aload_n hX dX10_formatCarrier_135 rfl ?_
      refine r_getr hX dX10_formatCarrier_136 fl_X10_68 rfl (LX10_s hL) (LX10_r10 hL) ?_
      refine rn_geti hX dX10_formatCarrier_139 fl_X10_297 rfl (LX3_s (LX10_o10 hL)) (show mI (wI M i) (a + 206) 0 = _ from hi.1.1) ?_
      refine r_ireturn hX rfl rfl dX10_formatCarrier_142 (by decide) (by decide) ?_
      obtain rfl : j = nv σ.1 2 := by omega
      refine rC.y (i := i) ?_ ?_ (fun y hy z => congrFun (hi.2 y (by omega) (by omega)) z)
      · unfold rs_formatCarrier
        rw [ix_of hc (by omega)]
        dsimp only
        rw [hev]
      · unfold sg_formatCarrier
        rw [ix_of hc (by omega)]
        dsimp only
        rw [hev]
        exact hC.line hi.1 (by first | omega | (simp only [List.length_append, List.length_cons, List.length_nil, show (txw 12).length = 2 from rfl]; omega)) hi.2
    · refine r_aload_n hX dX10_formatCarrier_81 rfl ?_
      refine r_iload hX dX10_formatCarrier_82 rfl ?_
      refine r_iconst (v := 1) hX dX10_formatCarrier_84 (by decide) ?_
      refine r_iload_n hX dX10_formatCarrier_85 rfl ?_
      refine r_cV3 hX dX10_formatCarrier_86 IX2_isIn ml_X10_334 rfl (LX2_s (LX8_o5 (LX10_o6 hL))) rfl (t_X2_isIn (M := wI M i) (LX8_o5 (LX10_o6 hL)) ((congrFun (hi.2 _ (by omega) (by omega)) 0).trans hlc) hb2 c78) (by decide) (by decide) (by decide) (by decide) rfl (Nat.le_of_ble_eq_true rfl) ?_
      rw [show mI (wI M i) (a + 34 + 2 + 4) j = σ.1 (498 + 10 * j + 3) from (congrFun (hi.2 _ (by omega) (by omega)) j).trans (hRS.2.2.1.2.2 j c78 3 (by omega)), show mI (wI M i) (a + 34 + 2 + 5) j = σ.1 (498 + 10 * j + 4) from (congrFun (hi.2 _ (by omega) (by omega)) j).trans (hRS.2.2.1.2.2 j c78 4 (by omega))]
      refine rb_if_eq (tgt := 129) hX dX10_formatCarrier_89 (by decide) rfl (fun c89 => ?_) (fun c89 => ?_)
      · refine rn_iinc4 hX dX10_formatCarrier_129 rfl rfl ?_
        refine r_goto (tgt := 72) hX dX10_formatCarrier_132 (by decide) ?_
        refine ih (by omega) i ?_
        rw [lsT_no c89]
        exact hi
      · refine r_aload_n hX dX10_formatCarrier_92 rfl ?_
        refine r_getr hX dX10_formatCarrier_93 fl_X10_68 rfl (LX10_s hL) (LX10_r10 hL) ?_
        refine r_bipush (v := nI 32) hX dX10_formatCarrier_96 (by decide) ?_
        refine r_iV1 hX dX10_formatCarrier_98 IX3_put ml_X10_306 rfl (LX3_s (LX10_o10 hL)) rfl (t_X3_put (M := wI M i) (LX10_o10 hL) hi.1 (by first | omega | (simp only [List.length_append, List.length_cons, List.length_nil, show (txw 12).length = 2 from rfl]; omega))) (by decide) (by decide) (by decide) (by decide) rfl (Nat.le_of_ble_eq_true rfl) (fun i4 g4 => ?_)
        show J G base X _ _ (wI M i4) _ _ _
        have k4 : lP M (a + 206) ((nmT (σ.1 (28 + c)) ++ txw 12 ++ numT sk ++ lsT σ.1 sk j) ++ [32]) i4 := hi.tr g4
        refine r_aload_n hX dX10_formatCarrier_101 rfl ?_
        refine r_getr hX dX10_formatCarrier_102 fl_X10_68 rfl (LX10_s hL) (LX10_r10 hL) ?_
        refine r_iload hX dX10_formatCarrier_105 rfl ?_
        refine r_iV1 hX dX10_formatCarrier_107 IX3_putNumber ml_X10_322 rfl (LX3_s (LX10_o10 hL)) rfl (t_X3_putNumber (M := wI M i4) (LX10_o10 hL) k4.1 (by first | omega | (simp only [List.length_append, List.length_cons, List.length_nil, show (txw 12).length = 2 from rfl]; omega)) (v := j) (by omega)) (by decide) (by decide) (by decide) (by decide) rfl (Nat.le_of_ble_eq_true rfl) (fun i5 g5 => ?_)
        show J G base X _ _ (wI M i5) _ _ _
        have k5 : lP M (a + 206) ((nmT (σ.1 (28 + c)) ++ txw 12 ++ numT sk ++ lsT σ.1 sk j) ++ [32] ++ numT j) i5 := k4.tr g5
        refine r_aload_n hX dX10_formatCarrier_110 rfl ?_
        refine r_getr hX dX10_formatCarrier_111 fl_X10_221 rfl (LX2_s (LX8_o5 (LX10_o6 hL))) (LX2_r3 (LX8_o5 (LX10_o6 hL))) ?_
        refine r_iload hX dX10_formatCarrier_114 rfl ?_
        refine rn_iald hX dX10_formatCarrier_116 (LX2_a3 (LX8_o5 (LX10_o6 hL))) rfl (by omega) (by omega) ?_
        rw [show mI (wI M i5) (a + 34 + 2 + 3) j = σ.1 (498 + 10 * j + 2) from (congrFun (k5.2 _ (by omega) (by omega)) j).trans (hRS.2.2.1.2.2 j c78 2 (by omega))]
        refine r_if_eq (tgt := 129) hX dX10_formatCarrier_117 (by decide) (fun c117 => ?_) (fun c117 => ?_)
        · refine rn_iinc4 hX dX10_formatCarrier_129 rfl rfl ?_
          refine r_goto (tgt := 72) hX dX10_formatCarrier_132 (by decide) ?_
          refine ih (by omega) i5 ?_
          rw [lsT_0 c89 c117]
          simp only [← List.append_assoc]
          exact k5
        · refine r_aload_n hX dX10_formatCarrier_120 rfl ?_
          refine r_getr hX dX10_formatCarrier_121 fl_X10_68 rfl (LX10_s hL) (LX10_r10 hL) ?_
          refine r_bipush (v := nI 42) hX dX10_formatCarrier_124 (by decide) ?_
          refine r_iV1 hX dX10_formatCarrier_126 IX3_put ml_X10_306 rfl (LX3_s (LX10_o10 hL)) rfl (t_X3_put (M := wI M i5) (LX10_o10 hL) k5.1 (by first | omega | (simp only [List.length_append, List.length_cons, List.length_nil, show (txw 12).length = 2 from rfl]; omega))) (by decide) (by decide) (by decide) (by decide) rfl (Nat.le_of_ble_eq_true rfl) (fun i6 g6 => ?_)
          show J G base X _ _ (wI M i6) _ _ _
          have k6 : lP M (a + 206) ((nmT (σ.1 (28 + c)) ++ txw 12 ++ numT sk ++ lsT σ.1 sk j) ++ [32] ++ numT j ++ [42]) i6 := k5.tr g6
          refine rn_iinc4 hX dX10_formatCarrier_129 rfl rfl ?_
          refine r_goto (tgt := 72) hX dX10_formatCarrier_132 (by decide) ?_
          refine ih (by omega) i6 ?_
          rw [lsT_1 c89 c117]
          simp only [← List.append_assoc]
          exact k6
  · refine Ct.of IX10_formatCarrier.1 (by simp [Value.category]) (Nat.le_of_ble_eq_true rfl) (fun X hX hN => ?_)
    show J G base X 0 0 M 0 [some (.ref a), some (.int x), none, none, none] []
    refine r_iload_n hX dX10_formatCarrier_0 rfl ?_
    refine r_aload_n hX dX10_formatCarrier_1 rfl ?_
    refine r_getr hX dX10_formatCarrier_2 fl_X10_33 rfl (LX10_s hL) (LX10_r5 hL) ?_
    refine rn_geti (v := nI (nv σ.1 1)) hX dX10_formatCarrier_5 fl_X10_138 rfl (LX9_s (LX10_o5 hL)) hcc ?_
    refine r_tS2 hX dX10_formatCarrier_8 IX10_needIndex ml_X10_169 rfl (t_ni0 hx (by omega)) (by decide) (by decide) (by decide) (by decide) rfl (Nat.le_of_ble_eq_true rfl) ?_
    exact rC.n0 (k := 1) (by unfold rs_formatCarrier; rw [ix_no hx]) rfl (by unfold sg_formatCarrier; rw [ix_no hx]; exact hC)

theorem bl8 {x : Int32} {k : Nat} (hk : k < 4) : (x.toUInt32 >>> ((l8 k).toUInt32 &&& Int32.toUInt32 31)).toInt32 &&& 255 = nI (byW x k) := by
  rw [l8_v k hk]
  exact (byW_s hk).2.1
set_option maxHeartbeats 2000000 in
set_option maxRecDepth 20000 in
theorem t_X10_appendWord {M : Mm} {a e : Nat} (hL : LX10 M.1 M.2.1 a) (he : mI M a 1 = nI e) (he4 : e + 4 ≤ 900) {x : Int32} : Ct G base YX10_appendWord 2 0 0 [.ref a, .int x] M (rI none M (fun i => (∀ k, k < e → i (a + 1) k = mI M (a + 1) k) ∧ (∀ k, k < 4 → i (a + 1) (e + k) = nI (byW x k)) ∧ i a 1 = nI (e + 4) ∧ (∀ y, y ≠ a → y ≠ a + 1 → i y = mI M y) ∧ ∀ k, k ≠ 1 → i a k = mI M a k)) := by
  refine Ct.of IX10_appendWord.1 (by simp [Value.category]) (Nat.le_of_ble_eq_true rfl) (fun X hX hN => ?_)
  show J G base X 0 0 M 0 [some (.ref a), some (.int x), none] []
  refine r_bipush (v := nI 24) hX dX10_appendWord_0 (by decide) ?_
  refine r_istore2 hX dX10_appendWord_2 rfl ?_
  show J G base X 0 0 (wI M (mI M)) 3 [some (.ref a), some (.int x), some (.int (l8 0))] []
  refine loop_us (σ := Nat → Nat → Int32) (P := fun j i => ((∀ k, k < e → i (a + 1) k = mI M (a + 1) k) ∧ (∀ k, k < j → i (a + 1) (e + k) = nI (byW x k)) ∧ i a 1 = nI (e + j) ∧ (∀ y, y ≠ a → y ≠ a + 1 → i y = mI M y) ∧ ∀ k, k ≠ 1 → i a k = mI M a k) → J G base X 0 0 (wI M i) 3 [some (.ref a), some (.int x), some (.int (l8 j))] []) 4 (fun j i hj ih hi => ?_) 0 (mI M) (Nat.zero_le _) ⟨fun _ _ => rfl, fun k hk => absurd hk (Nat.not_lt_zero _), he, fun _ _ _ => rfl, fun _ _ => rfl⟩
  refine r_iload_n hX dX10_appendWord_3 rfl ?_
  refine r_if_lt (tgt := 49) hX dX10_appendWord_4 (by decide) (fun c4 => ?_) (fun c4 => ?_)
  · refine r_return hX rfl dX10_appendWord_49 (by decide) (by decide) ?_
    obtain rfl : j = 4 := Classical.byContradiction fun z => l8_n j (by omega) c4
    exact ⟨rfl, i, rfl, hi⟩
  · have hj4 : j < 4 := Classical.byContradiction fun z => c4 (by rw [show j = 4 by omega]; exact l8_e)
    refine r_aload_n hX dX10_appendWord_7 rfl ?_
    refine rn_geti (v := nI (e + j)) hX dX10_appendWord_8 fl_X10_13 rfl (LX10_s hL) hi.2.2.1 ?_
    refine r_sipush (v := nI 900) hX dX10_appendWord_11 (by decide) ?_
    refine rn_icmp_ge (tgt := 43) hX dX10_appendWord_14 (by decide) rfl rfl (by omega) (by omega) (fun c14 => by omega) (fun c14 => ?_)
    refine r_aload_n hX dX10_appendWord_17 rfl ?_
    refine r_getr hX dX10_appendWord_18 fl_X10_9 rfl (LX10_s hL) (LX10_r0 hL) ?_
    refine r_aload_n hX dX10_appendWord_21 rfl ?_
    refine rn_geti (v := nI (e + j)) hX dX10_appendWord_22 fl_X10_13 rfl (LX10_s hL) hi.2.2.1 ?_
    refine r_iload_n hX dX10_appendWord_25 rfl ?_
    refine r_iload_n hX dX10_appendWord_26 rfl ?_
    refine r_iushr hX dX10_appendWord_27 ?_
    refine r_sipush (v := 255) hX dX10_appendWord_28 (by decide) ?_
    refine r_iand hX dX10_appendWord_31 ?_
    rw [bl8 hj4]
    refine rn_iast hX dX10_appendWord_32 (LX10_a0 hL) rfl (by omega) (by omega) ?_
    refine r_aload_n hX dX10_appendWord_33 rfl ?_
    refine r_dup hX dX10_appendWord_34 rfl ?_
    refine rn_geti (v := nI (e + j)) hX dX10_appendWord_35 fl_X10_13 rfl (LX10_s hL) ((congrFun (uIo (by omega)) 1).trans hi.2.2.1) ?_
    refine r_iconst (v := nI 1) hX dX10_appendWord_38 (by decide) ?_
    refine rn_iadd hX dX10_appendWord_39 rfl rfl ?_
    refine r_puti hX dX10_appendWord_40 fl_X10_13 rfl rfl (LX10_s hL) ?_
    refine r_iinc2 hX dX10_appendWord_43 rfl ?_
    refine r_goto (tgt := 3) hX dX10_appendWord_46 (by decide) ?_
    have hj4 : j < 4 := Classical.byContradiction fun z => c4 (by rw [show j = 4 by omega]; exact l8_e)
    have z := ih (by omega) (mI (uI (uI (wI M i) (a + 1) (e + j) (nI (byW x j))) a 1 (nI (e + j + 1))))
    rw [← l8_s j hj4] at z
    refine z ⟨fun k hk => ?_, fun k hk => ?_, by simp [mI_uI]; rw [Nat.add_assoc], fun y h1 h2 => (uIo h1).trans ((uIo h2).trans (hi.2.2.2.1 y h1 h2)), fun k hk => ?_⟩
    · rw [uIo (by omega), mI_uI, if_pos rfl, if_neg (by omega)]
      exact hi.1 k hk
    · rw [uIo (by omega), mI_uI, if_pos rfl]
      by_cases z : k = j
      · rw [z, if_pos rfl]
      · rw [if_neg (by omega)]
        exact hi.2.1 k (by omega)
    · rw [mI_uI, if_pos rfl, if_neg hk, uIo (by omega)]
      exact hi.2.2.2.2 k hk
