variable {G : GG} {base : Nat}
/-! ===== THE CLASS: texts ===== -/
theorem CI.line {i i' : Nat → Nat → Int32} {a : Nat} {σ : Sg} {s : List Nat} (h : CI i a σ) (h1 : LT i' (a + 206) s) (hl : s.length ≤ 150) (ho : ∀ x, x ≠ a + 206 → x ≠ a + 207 → i' x = i x) : CI i' a (txS σ s) := by
  obtain ⟨⟨g1, g2, g3⟩, g4, g5, g6, g7, g8, g9, g10, g11⟩ := h
  exact ⟨⟨fun k hk2 => ⟨(g1 k hk2).1, (congrFun (ho _ (by omega) (by omega)) k).trans (g1 k hk2).2⟩, (congrFun (ho _ (by omega) (by omega)) _).trans g2, g3⟩, (congrFun (ho _ (by omega) (by omega)) _).trans g4, (congrFun (ho _ (by omega) (by omega)) _).trans g5, g6.kept (fun x _ _ k => congrFun (ho x (by omega) (by omega)) k), g7.kept (fun x _ _ k => congrFun (ho x (by omega) (by omega)) k), g8.kept (fun x _ _ k => congrFun (ho x (by omega) (by omega)) k), h1.1, hl, h1.2⟩
/-- a letter's whereabouts -/
def whC (n : Nat → Int32) (s w : Nat) : List Nat := if s = 0 then txw 7 ++ nmT (n (18 + w)) else if s = 1 then txw 8 ++ numT w else if s = 2 then txw 9 else txw 10
theorem whT_is {n : Nat → Int32} {l s w : Nat} (h3 : n (498 + 10 * l + 3) = nI s) (h4 : n (498 + 10 * l + 4) = nI w) (hs : s < 4) (hw : w < 1000) : whT n l = whC n s w := by
  unfold whT whC
  rw [h3, nv_of h4 (by omega)]
  rcases (show s = 0 ∨ s = 1 ∨ s = 2 ∨ s = 3 by omega) with rfl | rfl | rfl | rfl <;> rfl
theorem nmT_is {x y : Int32} (h : NmR x y) : ∃ w : List Nat, w.length ≤ 6 ∧ (∀ z, z ∈ w → 1 ≤ z ∧ z ≤ 26) ∧ x = nI (e32 w) ∧ nmT y = w.map (fun z => 96 + z) := by
  obtain ⟨w, h1, h6, hz, hx, hy⟩ := h
  refine ⟨w, h6, hz, hx, ?_⟩
  unfold nmT
  rw [hy, nmW_e h6 hz]
theorem lP.start {M : Mm} {q : Nat} : lP M q [] (mI (uI M q 0 (nI 0))) := ⟨⟨by simp [mI_uI], fun k hk => absurd hk (Nat.not_lt_zero _)⟩, fun x h1 _ => uIo h1⟩
set_option maxHeartbeats 2000000 in
set_option maxRecDepth 20000 in
theorem t_X3_putNm {M : Mm} {q : Nat} (hq : LX3 M.1 M.2.1 q) {s : List Nat} (hs : LT (mI M) q s) (hl : s.length < 150) {x y : Int32} (h : NmR x y) : Ct G base YX3_putName 2 0 0 [.ref q, .int x] M (rI none M (lP M q (s ++ nmT y))) := by
  obtain ⟨w, h6, hz, hx, e⟩ := nmT_is h
  rw [e, hx]
  exact t_X3_putName hq hs hl h6 hz
theorem NmR.len {x y : Int32} (h : NmR x y) : (nmT y).length ≤ 6 := by
  obtain ⟨w, h6, hz, hx, e⟩ := nmT_is h
  rw [e, List.length_map]
  exact h6
set_option maxHeartbeats 2000000 in
set_option maxRecDepth 20000 in
theorem t_c_formattedByte {M : Mm} {a : Nat} {σ : Sg} {T : Nat} (hL : LX10 M.1 M.2.1 a) (hC : CI (mI M) a σ) (hO : OkN T σ.1) (hT9 : T < 890000) {x : Int32} : Ct G base YX10_formattedByte 20 1 6 [.ref a, .int x] M (rC M a 1 4 (rs_formattedByte σ x) σ) := by
  obtain ⟨hT, hS, hLt, h4, h5, h6, hLo, hSt, hNa⟩ := hO
  have h0 := hT.1
  have h1 := hT.2.1
  have hr := hT.2.2
  have h2 := hLt.1
  have h3 := hLt.2.1
  have hb0 := h0.2
  have hb1 := h1.2
  have hb2 := h2.2
  have hb3 := h3.2
  have hb4 := h4.2
  have ht6 : σ.1 6 = nI (nv σ.1 6) := h6.1
  have hh6 : nv σ.1 6 ≤ T := h6.2
  have hTT : TT (mI M) (a + 28) σ.1 := hC.2.2.2.1
  have hRS : RS (mI M) (a + 34) σ.1 := hC.2.2.2.2.1
  have hHR : HR (mI M) (a + 52) σ.2.1 σ.2.2.1 := hC.2.2.2.2.2.1
  have hpc : mI M (a + 28) 0 = nI (nv σ.1 0) := hTT.1.trans h0.1
  have hcc : mI M (a + 28) 2 = nI (nv σ.1 1) := hTT.2.2.1.trans h1.1
  have hlc : mI M (a + 34 + 2) 0 = nI (nv σ.1 2) := hRS.2.2.1.1.trans h2.1
  have hkc : mI M (a + 34 + 15) 0 = nI (nv σ.1 3) := hRS.2.2.2.2.1.trans h3.1
  have hrc : mI M (a + 34 + 13) 0 = nI (nv σ.1 4) := hRS.2.2.2.1.1.trans h4.1
  have htm : mI M (a + 34) 0 = nI (nv σ.1 6) := hRS.1.1.trans ht6
  have hm := hC.2.2.2.2.2.2.1
  have hm1 := hC.2.2.2.2.2.2.2.1
  have htx := hC.2.2.2.2.2.2.2.2
  by_cases hx : ∃ k, k < σ.2.2.2.2.2.2.2.2.2 ∧ x = nI k
  · obtain ⟨k, hk, rfl⟩ := hx
    refine Ct.of IX10_formattedByte.1 (by simp [Value.category]) (Nat.le_of_ble_eq_true rfl) (fun X hX hN => ?_)
    show J G base X 0 0 M 0 [some (.ref a), some (.int (nI k))] []
    refine r_aload_n hX dX10_formattedByte_0 rfl ?_
    refine r_getr hX dX10_formattedByte_1 fl_X10_68 rfl (LX10_s hL) (LX10_r10 hL) ?_
    refine r_iload_n hX dX10_formattedByte_4 rfl ?_
    refine r_cV1 hX dX10_formattedByte_5 IX3_signAt ml_X10_338 rfl (LX3_s (LX10_o10 hL)) rfl (t_X3_signAt1 (LX10_o10 hL) hm hm1 hk) (by decide) (by decide) (by decide) (by decide) rfl (Nat.le_of_ble_eq_true rfl) ?_
    rw [htx k hk]
    refine r_ireturn hX rfl rfl dX10_formattedByte_8 (by decide) (by decide) ?_
    exact rC.y0 (by unfold rs_formattedByte; rw [ix_of hk (by omega)]) hC
  · refine Ct.of IX10_formattedByte.1 (by simp [Value.category]) (Nat.le_of_ble_eq_true rfl) (fun X hX hN => ?_)
    show J G base X 0 0 M 0 [some (.ref a), some (.int x)] []
    refine r_aload_n hX dX10_formattedByte_0 rfl ?_
    refine r_getr hX dX10_formattedByte_1 fl_X10_68 rfl (LX10_s hL) (LX10_r10 hL) ?_
    refine r_iload_n hX dX10_formattedByte_4 rfl ?_
    refine r_cV1 hX dX10_formattedByte_5 IX3_signAt ml_X10_338 rfl (LX3_s (LX10_o10 hL)) rfl (t_X3_signAt0 (LX10_o10 hL) hm hm1 hx) (by decide) (by decide) (by decide) (by decide) rfl (Nat.le_of_ble_eq_true rfl) ?_
    refine r_ireturn hX rfl rfl dX10_formattedByte_8 (by decide) (by decide) ?_
    exact rC.y0 (by unfold rs_formattedByte; rw [ix_no hx]) hC

set_option maxHeartbeats 2000000 in
set_option maxRecDepth 20000 in
theorem t_X10_where0 {M : Mm} {a : Nat} {n : Nat → Int32} (hL : LX10 M.1 M.2.1 a) {s : List Nat} (hs : LT (mI M) (a + 206) s) (hl : s.length < 100) (hTT : TT (mI M) (a + 28) n) (h0 : Rn n 0 10) {w : Nat} (hw : w < nv n 0) : Ct G base YX10_putWhereabouts 8 0 0 [.ref a, .int (nI 0), .int (nI w)] M (rI none M (lP M (a + 206) (s ++ whC n 0 w))) := by
  refine Ct.of IX10_putWhereabouts.1 (by simp [Value.category]) (Nat.le_of_ble_eq_true rfl) (fun X hX hN => ?_)
  show J G base X 0 0 M 0 [some (.ref a), some (.int (nI 0)), some (.int (nI w))] []
  have hb0 := h0.2
  refine r_iload_n hX dX10_putWhereabouts_0 rfl ?_
  refine rn_if_ne (tgt := 32) hX dX10_putWhereabouts_1 (by decide) rfl (by omega) (fun c1 => absurd rfl c1) (fun c1 => ?_)
  refine r_aload_n hX dX10_putWhereabouts_4 rfl ?_
  refine r_getr hX dX10_putWhereabouts_5 fl_X10_68 rfl (LX10_s hL) (LX10_r10 hL) ?_
  refine r_ldcSW (i := 7) hX dX10_putWhereabouts_8 (show (RX10, 318, 7) ∈ txR by simp [txR]) ?_
  refine r_iV1 hX dX10_putWhereabouts_11 IX3_putText ml_X10_314 rfl (LX3_s (LX10_o10 hL)) rfl (t_X3_putText (M := M) (LX10_o10 hL) hs (by omega) (by decide)) (by decide) (by decide) (by decide) (by decide) rfl (Nat.le_of_ble_eq_true rfl) (fun i1 h1 => ?_)
  show J G base X _ _ (wI M i1) _ _ _
  
  refine r_aload_n hX dX10_putWhereabouts_14 rfl ?_
  refine r_getr hX dX10_putWhereabouts_15 fl_X10_68 rfl (LX10_s hL) (LX10_r10 hL) ?_
  refine r_aload_n hX dX10_putWhereabouts_18 rfl ?_
  refine r_getr hX dX10_putWhereabouts_19 fl_X10_33 rfl (LX10_s hL) (LX10_r5 hL) ?_
  refine r_iload_n hX dX10_putWhereabouts_22 rfl ?_
  refine r_cV1 hX dX10_putWhereabouts_23 IX9_nameOfPlace ml_X10_300 rfl (LX9_s (LX10_o5 hL)) rfl (t_X9_nameOfPlace (M := wI M i1) (LX10_o5 hL) ((congrFun (h1.2 _ (by omega) (by omega)) 0).trans (hTT.1.trans h0.1)) hb0 hw) (by decide) (by decide) (by decide) (by decide) rfl (Nat.le_of_ble_eq_true rfl) ?_
  refine r_iV1 hX dX10_putWhereabouts_26 IX3_putName ml_X10_303 rfl (LX3_s (LX10_o10 hL)) rfl (t_X3_putNm (M := wI M i1) (LX10_o10 hL) h1.1 (by rw [List.length_append, show (txw 7).length = 7 from rfl]; omega) (show NmR (mI (wI M i1) (a + 28 + 1) w) (n (18 + w)) from by rw [show mI (wI M i1) (a + 28 + 1) = mI M (a + 28 + 1) from h1.2 _ (by omega) (by omega)]; exact hTT.2.2.2.1 w hw)) (by decide) (by decide) (by decide) (by decide) rfl (Nat.le_of_ble_eq_true rfl) (fun i2 h2 => ?_)
  show J G base X _ _ (wI M i2) _ _ _
  
  refine r_goto (tgt := 79) hX dX10_putWhereabouts_29 (by decide) ?_
  refine r_return hX rfl dX10_putWhereabouts_79 (by decide) (by decide) ?_
  refine ⟨rfl, i2, rfl, ?_⟩
  rw [show whC n 0 w = txw 7 ++ nmT (n (18 + w)) from rfl, ← List.append_assoc]
  exact h1.tr h2
set_option maxHeartbeats 2000000 in
set_option maxRecDepth 20000 in
theorem t_X10_where1 {M : Mm} {a : Nat} {n : Nat → Int32} (hL : LX10 M.1 M.2.1 a) {s : List Nat} (hs : LT (mI M) (a + 206) s) (hl : s.length < 100) {w : Nat} (hw : w < 100) : Ct G base YX10_putWhereabouts 8 0 0 [.ref a, .int (nI 1), .int (nI w)] M (rI none M (lP M (a + 206) (s ++ whC n 1 w))) := by
  refine Ct.of IX10_putWhereabouts.1 (by simp [Value.category]) (Nat.le_of_ble_eq_true rfl) (fun X hX hN => ?_)
  show J G base X 0 0 M 0 [some (.ref a), some (.int (nI 1)), some (.int (nI w))] []
  refine r_iload_n hX dX10_putWhereabouts_0 rfl ?_
  refine rn_if_ne (tgt := 32) hX dX10_putWhereabouts_1 (by decide) rfl (by omega) (fun c1 => ?_) (fun c1 => by omega)
  refine r_iload_n hX dX10_putWhereabouts_32 rfl ?_
  refine r_iconst (v := nI 1) hX dX10_putWhereabouts_33 (by decide) ?_
  refine rn_icmp_ne (tgt := 58) hX dX10_putWhereabouts_34 (by decide) rfl rfl (by omega) (by omega) (fun c34 => absurd rfl c34) (fun c34 => ?_)
  refine r_aload_n hX dX10_putWhereabouts_37 rfl ?_
  refine r_getr hX dX10_putWhereabouts_38 fl_X10_68 rfl (LX10_s hL) (LX10_r10 hL) ?_
  refine r_ldcSW (i := 8) hX dX10_putWhereabouts_41 (show (RX10, 320, 8) ∈ txR by simp [txR]) ?_
  refine r_iV1 hX dX10_putWhereabouts_44 IX3_putText ml_X10_314 rfl (LX3_s (LX10_o10 hL)) rfl (t_X3_putText (M := M) (LX10_o10 hL) hs (by omega) (by decide)) (by decide) (by decide) (by decide) (by decide) rfl (Nat.le_of_ble_eq_true rfl) (fun i1 h1 => ?_)
  show J G base X _ _ (wI M i1) _ _ _
  
  refine r_aload_n hX dX10_putWhereabouts_47 rfl ?_
  refine r_getr hX dX10_putWhereabouts_48 fl_X10_68 rfl (LX10_s hL) (LX10_r10 hL) ?_
  refine r_iload_n hX dX10_putWhereabouts_51 rfl ?_
  refine r_iV1 hX dX10_putWhereabouts_52 IX3_putNumber ml_X10_322 rfl (LX3_s (LX10_o10 hL)) rfl (t_X3_putNumber (M := wI M i1) (LX10_o10 hL) h1.1 (by rw [List.length_append, show (txw 8).length = 5 from rfl]; omega) hw) (by decide) (by decide) (by decide) (by decide) rfl (Nat.le_of_ble_eq_true rfl) (fun i2 h2 => ?_)
  show J G base X _ _ (wI M i2) _ _ _
  
  refine r_goto (tgt := 79) hX dX10_putWhereabouts_55 (by decide) ?_
  refine r_return hX rfl dX10_putWhereabouts_79 (by decide) (by decide) ?_
  refine ⟨rfl, i2, rfl, ?_⟩
  rw [show whC n 1 w = txw 8 ++ numT w from rfl, ← List.append_assoc]
  exact h1.tr h2
set_option maxHeartbeats 2000000 in
set_option maxRecDepth 20000 in
theorem t_X10_where2 {M : Mm} {a : Nat} {n : Nat → Int32} (hL : LX10 M.1 M.2.1 a) {s : List Nat} (hs : LT (mI M) (a + 206) s) (hl : s.length < 100) {w : Nat} : Ct G base YX10_putWhereabouts 8 0 0 [.ref a, .int (nI 2), .int (nI w)] M (rI none M (lP M (a + 206) (s ++ whC n 2 w))) := by
  refine Ct.of IX10_putWhereabouts.1 (by simp [Value.category]) (Nat.le_of_ble_eq_true rfl) (fun X hX hN => ?_)
  show J G base X 0 0 M 0 [some (.ref a), some (.int (nI 2)), some (.int (nI w))] []
  refine r_iload_n hX dX10_putWhereabouts_0 rfl ?_
  refine rn_if_ne (tgt := 32) hX dX10_putWhereabouts_1 (by decide) rfl (by omega) (fun c1 => ?_) (fun c1 => by omega)
  refine r_iload_n hX dX10_putWhereabouts_32 rfl ?_
  refine r_iconst (v := nI 1) hX dX10_putWhereabouts_33 (by decide) ?_
  refine rn_icmp_ne (tgt := 58) hX dX10_putWhereabouts_34 (by decide) rfl rfl (by omega) (by omega) (fun c34 => ?_) (fun c34 => by omega)
  refine r_aload_n hX dX10_putWhereabouts_58 rfl ?_
  refine r_getr hX dX10_putWhereabouts_59 fl_X10_68 rfl (LX10_s hL) (LX10_r10 hL) ?_
  refine r_iload_n hX dX10_putWhereabouts_62 rfl ?_
  refine r_iconst (v := nI 2) hX dX10_putWhereabouts_63 (by decide) ?_
  refine rn_icmp_ne (tgt := 73) hX dX10_putWhereabouts_64 (by decide) rfl rfl (by omega) (by omega) (fun c64 => absurd rfl c64) (fun c64 => ?_)
  refine r_ldcSW (i := 9) hX dX10_putWhereabouts_67 (show (RX10, 325, 9) ∈ txR by simp [txR]) ?_
  refine r_goto (tgt := 76) hX dX10_putWhereabouts_70 (by decide) ?_
  refine r_iV1 hX dX10_putWhereabouts_76 IX3_putText ml_X10_314 rfl (LX3_s (LX10_o10 hL)) rfl (t_X3_putText (M := M) (LX10_o10 hL) hs (by omega) (by decide)) (by decide) (by decide) (by decide) (by decide) rfl (Nat.le_of_ble_eq_true rfl) (fun i1 h1 => ?_)
  show J G base X _ _ (wI M i1) _ _ _
  
  refine r_return hX rfl dX10_putWhereabouts_79 (by decide) (by decide) ?_
  exact ⟨rfl, i1, rfl, h1⟩
set_option maxHeartbeats 2000000 in
set_option maxRecDepth 20000 in
theorem t_X10_where3 {M : Mm} {a : Nat} {n : Nat → Int32} (hL : LX10 M.1 M.2.1 a) {s : List Nat} (hs : LT (mI M) (a + 206) s) (hl : s.length < 100) {w : Nat} : Ct G base YX10_putWhereabouts 8 0 0 [.ref a, .int (nI 3), .int (nI w)] M (rI none M (lP M (a + 206) (s ++ whC n 3 w))) := by
  refine Ct.of IX10_putWhereabouts.1 (by simp [Value.category]) (Nat.le_of_ble_eq_true rfl) (fun X hX hN => ?_)
  show J G base X 0 0 M 0 [some (.ref a), some (.int (nI 3)), some (.int (nI w))] []
  refine r_iload_n hX dX10_putWhereabouts_0 rfl ?_
  refine rn_if_ne (tgt := 32) hX dX10_putWhereabouts_1 (by decide) rfl (by omega) (fun c1 => ?_) (fun c1 => by omega)
  refine r_iload_n hX dX10_putWhereabouts_32 rfl ?_
  refine r_iconst (v := nI 1) hX dX10_putWhereabouts_33 (by decide) ?_
  refine rn_icmp_ne (tgt := 58) hX dX10_putWhereabouts_34 (by decide) rfl rfl (by omega) (by omega) (fun c34 => ?_) (fun c34 => by omega)
  refine r_aload_n hX dX10_putWhereabouts_58 rfl ?_
  refine r_getr hX dX10_putWhereabouts_59 fl_X10_68 rfl (LX10_s hL) (LX10_r10 hL) ?_
  refine r_iload_n hX dX10_putWhereabouts_62 rfl ?_
  refine r_iconst (v := nI 2) hX dX10_putWhereabouts_63 (by decide) ?_
  refine rn_icmp_ne (tgt := 73) hX dX10_putWhereabouts_64 (by decide) rfl rfl (by omega) (by omega) (fun c64 => ?_) (fun c64 => by omega)
  refine r_ldcSW (i := 10) hX dX10_putWhereabouts_73 (show (RX10, 327, 10) ∈ txR by simp [txR]) ?_
  refine r_iV1 hX dX10_putWhereabouts_76 IX3_putText ml_X10_314 rfl (LX3_s (LX10_o10 hL)) rfl (t_X3_putText (M := M) (LX10_o10 hL) hs (by omega) (by decide)) (by decide) (by decide) (by decide) (by decide) rfl (Nat.le_of_ble_eq_true rfl) (fun i1 h1 => ?_)
  show J G base X _ _ (wI M i1) _ _ _
  
  refine r_return hX rfl dX10_putWhereabouts_79 (by decide) (by decide) ?_
  exact ⟨rfl, i1, rfl, h1⟩
set_option maxHeartbeats 2000000 in
set_option maxRecDepth 20000 in
theorem t_X10_where {M : Mm} {a : Nat} {n : Nat → Int32} (hL : LX10 M.1 M.2.1 a) {s : List Nat} (hs : LT (mI M) (a + 206) s) (hl : s.length < 100) (hTT : TT (mI M) (a + 28) n) (h0 : Rn n 0 10) {k w : Nat} (hk : k < 4) (h00 : k = 0 → w < nv n 0) (h11 : k = 1 → w < 100) : Ct G base YX10_putWhereabouts 8 0 0 [.ref a, .int (nI k), .int (nI w)] M (rI none M (lP M (a + 206) (s ++ whC n k w))) := by
  rcases (show k = 0 ∨ k = 1 ∨ k = 2 ∨ k = 3 by omega) with rfl | rfl | rfl | rfl
  · exact t_X10_where0 hL hs hl hTT h0 (h00 rfl)
  · exact t_X10_where1 hL hs hl (h11 rfl)
  · exact t_X10_where2 hL hs hl
  · exact t_X10_where3 hL hs hl
