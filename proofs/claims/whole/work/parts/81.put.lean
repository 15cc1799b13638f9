variable {G : GG} {base : Nat}
theorem arN_nn {n : Nat → Int32} {h : Nat} {C O : Nat → Bool} {k p : Nat} (hk : h + k < 2147483648) : arN n h C O k p = -1 ∨ 0 ≤ arN n h C O k p := by
  rcases arN_spec (n := n) (h := h) (C := C) (O := O) (p := p) k hk with ⟨z, -⟩ | ⟨j, hj, z, -⟩
  · exact Or.inl z
  · exact Or.inr (by rw [z]; exact nI_pos' (by omega))
theorem wyN_nn {n : Nat → Int32} {h p w t : Nat} (hh : h < 1000000) : wyN n h p w t = -1 ∨ 0 ≤ wyN n h p w t := by
  unfold wyN
  split
  · exact arN_nn (by omega)
  · exact arN_nn (by omega)
theorem oc_c {y : Nat → Int32} (hS : SkOk y) {s c : Nat} (hs : s < 5) (hc : c < 5) (e : y (33 + c) = nI s) : ocN y (nI s) = nI c := by
  rw [ocN_s hs]
  exact crS_is hS hc e
theorem oc_back {y : Nat → Int32} (hS : SkOk y) {o : Int32} (ho : o = -1 ∨ ∃ s, s < 5 ∧ o = nI s) {s c : Nat} (hs : s < 5) (hc : c < 5) (e : y (33 + c) = nI s) : ocN y o = nI c ↔ o = nI s := by
  constructor
  · intro z
    rcases ho with rfl | ⟨s', hs', rfl⟩
    · rw [ocN_m1] at z
      exact absurd z.symm (nI_ne_m1 (by omega))
    · obtain ⟨c', hc', e1, e2⟩ := crS_of hS hs'
      rw [ocN_s hs', e1] at z
      have : c' = c := (nI_eq (by omega) (by omega)).mp z
      rw [← e2, this, e]
  · intro z
    rw [z]
    exact oc_c hS hs hc e
theorem oc_m1 {y : Nat → Int32} (hS : SkOk y) {o : Int32} (ho : o = -1 ∨ ∃ s, s < 5 ∧ o = nI s) : ocN y o = -1 ↔ o = -1 := by
  constructor
  · intro z
    rcases ho with rfl | ⟨s', hs', rfl⟩
    · rfl
    · obtain ⟨c', hc', e1, -⟩ := crS_of hS hs'
      rw [ocN_s hs', e1] at z
      exact absurd z (nI_ne_m1 (by omega))
  · intro z
    rw [z, ocN_m1]
/-- the loads behind it -/
def flN (fl : Nat → Int32) (b : Int32) : Nat → Int32 := if b = -1 then fl else upd fl b.toNatClampNeg (fl b.toNatClampNeg + 1)
theorem flN_s {fl : Nat → Int32} {s : Nat} (hs : s < 5) : flN fl (nI s) = upd fl s (fl s + 1) := by
  unfold flN
  rw [if_neg (nI_ne_m1 (by omega)), nI_clamp (by omega)]
set_option maxHeartbeats 2000000 in
set_option maxRecDepth 20000 in
theorem t_X1_putAwayS {M : Mm} {w a : Nat} {x y : Nat → Int32} (hw : LX1 M.1 M.2.1 w) (hL : LX8 M.1 M.2.1 a) (hd : w + 6 ≤ a ∨ a + 18 ≤ w) (hR : RS (mI M) a x) (hx : sm x y) (hS : SkOk y) {l p : Nat} (hl : l < nv x 2) {o : Int32} (ho : o = -1 ∨ ∃ s, s < 5 ∧ o = nI s) (hog : mI M (w + 4) l = ocN y o) {fl : Nat → Int32} (hfl : ∀ c, c < 5 → mI M (w + 5) c = fl (nv y (33 + c))) {s c : Nat} (hs : s < 5) (hc : c < 5) (e : y (33 + c) = nI s) : Ct G base YX1_putAway 4 0 0 [.ref w, .ref a, .int (nI l), .int (nI p), .int (nI c)] M (rI none M (fun i => RS i a (putN x l p o (nI s)) ∧ (∀ c, c < 5 → i (w + 5) c = flN fl (nI s) (nv y (33 + c))) ∧ ∀ z, (z < a ∨ a + 18 ≤ z) → z ≠ w + 5 → ∀ k, i z k = mI M z k)) := by
  refine Ct.of IX1_putAway.1 (by simp [Value.category]) (Nat.le_of_ble_eq_true rfl) (fun X hX hN => ?_)
  show J G base X 0 0 M 0 [some (.ref w), some (.ref a), some (.int (nI l)), some (.int (nI p)), some (.int (nI c)), none] []
  have h30 := hR.2.2.1.2.1.2
  have hm : mI M (a + 2) 0 = nI (nv x 2) := hR.2.2.1.1.trans hR.2.2.1.2.1.1
  have hcx : crS x (nI s) = nI c := (hx.cr _).trans (crS_is hS hc e)
  have hxs : x (33 + c) = nI s := (hx.1 _ (by omega) (by omega) (by omega)).trans e
  have hv : nv y (33 + c) = s := nv_of e (by omega)
  have hR1 : RS (mI (uI M (w + 5) c (fl s + 1))) a x := hR.kept (fun z h1 h2 k => congrFun (uIo (by omega)) k)
  have hRS : RS (mI (sackL (uI M (w + 5) c (fl s + 1)) (a + 2) l (nI s) (nI c))) a (tosN x l (nI s) (nI c)) := hR1.sack hl
  have hl2 : nv (tosN x l (nI s) (nI c)) 2 = nv x 2 := nv_eq (by unfold tosN liesN; rw [upd_o (by omega), upd_o (by omega), upd_o (by omega)])
  have hfl' : ∀ d, d < 5 → mI (uI M (w + 5) c (fl s + 1)) (w + 5) d = flN fl (nI s) (nv y (33 + d)) := fun d hd' => by
    rw [flN_s hs, mI_uI, if_pos rfl]
    obtain ⟨s', hs', e'⟩ := hS.1 d hd'
    rw [nv_of e' (by omega)]
    by_cases z : d = c
    · have : s' = s := by
        rw [z, e] at e'
        exact ((nI_eq (by omega) (by omega)).mp e').symm
      rw [if_pos z, this, upd_s]
    · have : s' ≠ s := fun q => z (hS.2.1 d c hd' hc (by rw [e', e, q]))
      rw [if_neg z, upd_o this, hfl d hd', nv_of e' (by omega)]
  
  refine r_iload_n hX dX1_putAway_0 rfl ?_
  refine rn_if_lt (tgt := 10) hX dX1_putAway_1 (by decide) rfl (by omega) ?_
  refine r_iload_n hX dX1_putAway_4 rfl ?_
  refine r_bipush (v := nI 30) hX dX1_putAway_5 (by decide) ?_
  refine rn_icmp_lt (tgt := 11) hX dX1_putAway_7 (by decide) rfl rfl (by omega) (by omega) (fun c7 => ?_) (fun c7 => absurd hl (by omega))
  refine r_aload_n hX dX1_putAway_11 rfl ?_
  refine r_getr hX dX1_putAway_12 fl_X1_22 rfl (LX1_s hw) (LX1_r2 hw) ?_
  refine r_iload_n hX dX1_putAway_15 rfl ?_
  refine rn_iald hX dX1_putAway_16 (LX1_a2 hw) rfl (by omega) (by omega) ?_
  rw [hog]
  refine r_istore5 hX dX1_putAway_17 rfl ?_
  refine r_iload hX dX1_putAway_19 rfl ?_
  refine rn_if_lt (tgt := 76) hX dX1_putAway_21 (by decide) rfl (by omega) ?_
  refine r_iload hX dX1_putAway_24 rfl ?_
  refine r_iconst (v := nI 5) hX dX1_putAway_26 (by decide) ?_
  refine rn_icmp_ge (tgt := 76) hX dX1_putAway_27 (by decide) rfl rfl (by omega) (by omega) (fun c27 => absurd c27 (by omega)) (fun c27 => ?_)
  refine r_aload_n hX dX1_putAway_30 rfl ?_
  refine r_getr hX dX1_putAway_31 fl_X1_25 rfl (LX1_s hw) (LX1_r3 hw) ?_
  refine r_iload hX dX1_putAway_34 rfl ?_
  refine r_dup2 hX dX1_putAway_36 rfl rfl ?_
  refine rn_iald hX dX1_putAway_37 (LX1_a3 hw) rfl (by omega) (by omega) ?_
  rw [hfl c hc, hv]
  refine r_iconst (v := 1) hX dX1_putAway_38 (by decide) ?_
  refine r_iadd hX dX1_putAway_39 ?_
  refine rn_iast hX dX1_putAway_40 (LX1_a3 hw) rfl (by omega) (by omega) ?_
  refine r_aload_n hX dX1_putAway_41 rfl ?_
  refine r_getr hX dX1_putAway_42 fl_X1_82 rfl (LX8_s hL) (LX8_r5 hL) ?_
  refine r_iload_n hX dX1_putAway_45 rfl ?_
  refine r_aload_n hX dX1_putAway_46 rfl ?_
  refine r_iload hX dX1_putAway_47 rfl ?_
  refine r_cV1 hX dX1_putAway_49 IX8_sackWith ml_X1_145 rfl (LX8_s hL) rfl (t_X8_sackWith (M := uI M (w + 5) c (fl s + 1)) hL hc) (by decide) (by decide) (by decide) (by decide) rfl (Nat.le_of_ble_eq_true rfl) ?_
  rw [show mI (uI M (w + 5) c (fl s + 1)) (a + 1) c = nI s from (hR1.sk1 (noP_l hl) hc).trans hxs]
  refine r_iload hX dX1_putAway_52 rfl ?_
  refine r_cV3 hX dX1_putAway_54 IX2_toSack ml_X1_148 rfl (LX2_s (LX8_o5 hL)) rfl (t_X2_toSack (M := uI M (w + 5) c (fl s + 1)) (LX8_o5 hL) ((congrFun (uIo (by omega)) 0).trans hm) h30 hl) (by decide) (by decide) (by decide) (by decide) rfl (Nat.le_of_ble_eq_true rfl) ?_
  refine r_iload hX dX1_putAway_57 rfl ?_
  refine r_iload hX dX1_putAway_59 rfl ?_
  refine r_icmp_eq (tgt := 100) hX dX1_putAway_61 (by decide) (fun c61 => ?_) (fun c61 => ?_)
  · refine r_return hX rfl dX1_putAway_100 (by decide) (by decide) ?_
    refine ⟨rfl, mI (sackL (uI M (w + 5) c (fl s + 1)) (a + 2) l (nI s) (nI c)), rfl, ?_, fun d hd' => ?_, fun z hz hz2 k => (sack_out (M := uI M (w + 5) c (fl s + 1)) z hz k).trans (congrFun (uIo hz2) k)⟩
    · rw [show putN x l p o (nI s) = tosN x l (nI s) (nI c) from by
        unfold putN tosN
        rw [if_neg (nI_ne_m1 (by omega)), if_pos ((oc_back hS ho hs hc e).mp c61), hcx, nI_clamp (by omega), bitI_nI (by omega)]]
      exact hRS
    · exact (sack_out (M := uI M (w + 5) c (fl s + 1)) _ (by omega) d).trans (hfl' d hd')
  · refine r_aload_n hX dX1_putAway_64 rfl ?_
    refine r_iload_n hX dX1_putAway_65 rfl ?_
    refine r_iconst (v := nI 0) hX dX1_putAway_66 (by decide) ?_
    refine r_iload hX dX1_putAway_67 rfl ?_
    refine r_iload_n hX dX1_putAway_69 rfl ?_
    refine r_iV4 hX dX1_putAway_70 IX8_writeReceipt ml_X1_104 rfl (LX8_s hL) rfl (t_X8_writeReceipt (M := sackL (uI M (w + 5) c (fl s + 1)) (a + 2) l (nI s) (nI c)) hL hRS (by rw [hl2]; exact hl)) (by decide) (by decide) (by decide) (by decide) rfl (Nat.le_of_ble_eq_true rfl) (fun i7 h7 => ?_)
    show J G base X _ _ (wI M i7) _ _ _
    
    refine r_goto (tgt := 100) hX dX1_putAway_73 (by decide) ?_
    refine r_return hX rfl dX1_putAway_100 (by decide) (by decide) ?_
    refine ⟨rfl, i7, rfl, ?_, fun d hd' => ?_, fun z hz hz2 k => (h7.2 z hz k).trans ((sack_out (M := uI M (w + 5) c (fl s + 1)) z hz k).trans (congrFun (uIo hz2) k))⟩
    · rw [show putN x l p o (nI s) = wrL (tosN x l (nI s) (nI c)) l 0 (nI c) (nI p) from by
        unfold putN tosN
        rw [if_neg (nI_ne_m1 (by omega)), if_neg (fun z => c61 ((oc_back hS ho hs hc e).mpr z)), hcx, nI_clamp (by omega), bitI_nI (by omega)]]
      exact h7.1
    · exact (h7.2 _ (by omega) d).trans ((sack_out (M := uI M (w + 5) c (fl s + 1)) _ (by omega) d).trans (hfl' d hd'))
set_option maxHeartbeats 2000000 in
set_option maxRecDepth 20000 in
theorem t_X1_putAwayO {M : Mm} {w a : Nat} {x y : Nat → Int32} (hw : LX1 M.1 M.2.1 w) (hL : LX8 M.1 M.2.1 a) (hd : w + 6 ≤ a ∨ a + 18 ≤ w) (hR : RS (mI M) a x) (hx : sm x y) (hS : SkOk y) {l p : Nat} (hl : l < nv x 2) {o : Int32} (ho : o = -1 ∨ ∃ s, s < 5 ∧ o = nI s) (hog : mI M (w + 4) l = ocN y o) {fl : Nat → Int32} (hfl : ∀ c, c < 5 → mI M (w + 5) c = fl (nv y (33 + c))) : Ct G base YX1_putAway 4 0 0 [.ref w, .ref a, .int (nI l), .int (nI p), .int (-1)] M (rI none M (fun i => RS i a (putN x l p o (-1)) ∧ (∀ c, c < 5 → i (w + 5) c = flN fl (-1) (nv y (33 + c))) ∧ ∀ z, (z < a ∨ a + 18 ≤ z) → z ≠ w + 5 → ∀ k, i z k = mI M z k)) := by
  refine Ct.of IX1_putAway.1 (by simp [Value.category]) (Nat.le_of_ble_eq_true rfl) (fun X hX hN => ?_)
  show J G base X 0 0 M 0 [some (.ref w), some (.ref a), some (.int (nI l)), some (.int (nI p)), some (.int (-1)), none] []
  have h30 := hR.2.2.1.2.1.2
  have hm : mI M (a + 2) 0 = nI (nv x 2) := hR.2.2.1.1.trans hR.2.2.1.2.1.1
  have hRO : RS (mI (offL M (a + 2) l (nI p))) a (liesN x l 0 (nI p)) := hR.off (by omega)
  have hl2 : nv (liesN x l 0 (nI p)) 2 = nv x 2 := nv_eq (by unfold liesN; rw [upd_o (by omega), upd_o (by omega)])
  refine r_iload_n hX dX1_putAway_0 rfl ?_
  refine rn_if_lt (tgt := 10) hX dX1_putAway_1 (by decide) rfl (by omega) ?_
  refine r_iload_n hX dX1_putAway_4 rfl ?_
  refine r_bipush (v := nI 30) hX dX1_putAway_5 (by decide) ?_
  refine rn_icmp_lt (tgt := 11) hX dX1_putAway_7 (by decide) rfl rfl (by omega) (by omega) (fun c7 => ?_) (fun c7 => absurd hl (by omega))
  refine r_aload_n hX dX1_putAway_11 rfl ?_
  refine r_getr hX dX1_putAway_12 fl_X1_22 rfl (LX1_s hw) (LX1_r2 hw) ?_
  refine r_iload_n hX dX1_putAway_15 rfl ?_
  refine rn_iald hX dX1_putAway_16 (LX1_a2 hw) rfl (by omega) (by omega) ?_
  rw [hog]
  refine r_istore5 hX dX1_putAway_17 rfl ?_
  refine r_iload hX dX1_putAway_19 rfl ?_
  refine r_if_lt (tgt := 76) hX dX1_putAway_21 (by decide) (fun c21 => ?_) (fun c21 => absurd c21 (by decide))
  refine r_aload_n hX dX1_putAway_76 rfl ?_
  refine r_getr hX dX1_putAway_77 fl_X1_82 rfl (LX8_s hL) (LX8_r5 hL) ?_
  refine r_iload_n hX dX1_putAway_80 rfl ?_
  refine r_iload_n hX dX1_putAway_81 rfl ?_
  refine r_cV2 hX dX1_putAway_82 IX2_toOffice ml_X1_152 rfl (LX2_s (LX8_o5 hL)) rfl (t_X2_toOffice (LX8_o5 hL) hm h30 hl) (by decide) (by decide) (by decide) (by decide) rfl (Nat.le_of_ble_eq_true rfl) ?_
  refine r_iload hX dX1_putAway_85 rfl ?_
  refine r_iconst (v := (-1)) hX dX1_putAway_87 (by decide) ?_
  refine r_icmp_eq (tgt := 100) hX dX1_putAway_88 (by decide) (fun c88 => ?_) (fun c88 => ?_)
  · refine r_return hX rfl dX1_putAway_100 (by decide) (by decide) ?_
    refine ⟨rfl, mI (offL M (a + 2) l (nI p)), rfl, ?_, fun d hd' => ?_, fun z hz hz2 k => off_out z hz k⟩
    · rw [show putN x l p o (-1) = liesN x l 0 (nI p) from by
        unfold putN
        rw [if_pos rfl, if_pos ((oc_m1 hS ho).mp c88)]]
      exact hRO
    · unfold flN
      rw [if_pos rfl]
      exact (off_out _ (by omega) d).trans (hfl d hd')
  · refine r_aload_n hX dX1_putAway_91 rfl ?_
    refine r_iload_n hX dX1_putAway_92 rfl ?_
    refine r_iconst (v := nI 1) hX dX1_putAway_93 (by decide) ?_
    refine r_iload hX dX1_putAway_94 rfl ?_
    refine r_iload_n hX dX1_putAway_96 rfl ?_
    refine r_iV4 hX dX1_putAway_97 IX8_writeReceipt ml_X1_104 rfl (LX8_s hL) rfl (t_X8_writeReceipt (M := offL M (a + 2) l (nI p)) hL hRO (by rw [hl2]; exact hl)) (by decide) (by decide) (by decide) (by decide) rfl (Nat.le_of_ble_eq_true rfl) (fun i7 h7 => ?_)
    show J G base X _ _ (wI M i7) _ _ _
    
    refine r_return hX rfl dX1_putAway_100 (by decide) (by decide) ?_
    refine ⟨rfl, i7, rfl, ?_, fun d hd' => ?_, fun z hz hz2 k => (h7.2 z hz k).trans (off_out z hz k)⟩
    · have ho' := fun z => c88 ((oc_m1 hS ho).mpr z)
      have hs2 : sm (liesN x l 0 (nI p)) y := hx.lies l 0 (nI p)
      have hce : crS (liesN x l 0 (nI p)) o = ocN y o := by
        rw [hs2.cr]
        rcases ho with z | ⟨s, hs, z⟩
        · exact absurd z ho'
        · rw [z, ocN_s hs]
      rw [show putN x l p o (-1) = wrL (liesN x l 0 (nI p)) l 1 (ocN y o) (nI p) from by
        unfold putN
        rw [if_pos rfl, if_neg ho', hce]]
      exact h7.1
    · unfold flN
      rw [if_pos rfl]
      exact (h7.2 _ (by omega) d).trans ((off_out _ (by omega) d).trans (hfl d hd'))
set_option maxHeartbeats 2000000 in
set_option maxRecDepth 20000 in
theorem t_X1_putAway {M : Mm} {w a : Nat} {x y : Nat → Int32} (hw : LX1 M.1 M.2.1 w) (hL : LX8 M.1 M.2.1 a) (hd : w + 6 ≤ a ∨ a + 18 ≤ w) (hR : RS (mI M) a x) (hx : sm x y) (hS : SkOk y) {l p : Nat} (hl : l < nv x 2) {o : Int32} (ho : o = -1 ∨ ∃ s, s < 5 ∧ o = nI s) (hog : mI M (w + 4) l = ocN y o) {fl : Nat → Int32} (hfl : ∀ c, c < 5 → mI M (w + 5) c = fl (nv y (33 + c))) {b : Int32} (hb : b = -1 ∨ ∃ s, s < 5 ∧ b = nI s) : Ct G base YX1_putAway 4 0 0 [.ref w, .ref a, .int (nI l), .int (nI p), .int (ocN y b)] M (rI none M (fun i => RS i a (putN x l p o b) ∧ (∀ c, c < 5 → i (w + 5) c = flN fl b (nv y (33 + c))) ∧ ∀ z, (z < a ∨ a + 18 ≤ z) → z ≠ w + 5 → ∀ k, i z k = mI M z k)) := by
  rcases hb with rfl | ⟨s, hs, rfl⟩
  · rw [ocN_m1]
    exact t_X1_putAwayO hw hL hd hR hx hS hl ho hog hfl
  · obtain ⟨c, hc, e1, e2⟩ := crS_of hS hs
    rw [ocN_s hs, e1]
    exact t_X1_putAwayS hw hL hd hR hx hS hl ho hog hfl hs hc e2
