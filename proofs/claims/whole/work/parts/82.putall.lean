variable {G : GG} {base : Nat}
theorem srtL_skip {n : Nat → Int32} {h p : Nat} {sb : Nat → Int32} {l : Nat} (e : sb l = -2) : srtL n h p sb (l + 1) = srtL n h p sb l := by
  conv => lhs; unfold srtL
  rw [if_pos e]
theorem srtL_do {n : Nat → Int32} {h p : Nat} {sb : Nat → Int32} {l t : Nat} (e : ¬ sb l = -2) (ht : nv n (498 + 10 * l + 1) = t) : srtL n h p sb (l + 1) = (putN (srtL n h p sb l).1 l p (sb l) (bstS n h p (srtL n h p sb l).2 t), flN (srtL n h p sb l).2 (bstS n h p (srtL n h p sb l).2 t)) := by
  conv => lhs; unfold srtL
  rw [if_neg e, ht]
  rfl
theorem oc_m2 {y : Nat → Int32} (hS : SkOk y) {o : Int32} (ho : o = -2 ∨ o = -1 ∨ ∃ s, s < 5 ∧ o = nI s) : ocN y o = -2 ↔ o = -2 := by
  constructor
  · intro z
    rcases ho with rfl | rfl | ⟨s', hs', rfl⟩
    · rfl
    · rw [ocN_m1] at z
      exact absurd z (by decide)
    · obtain ⟨c', hc', e1, -⟩ := crS_of hS hs'
      rw [ocN_s hs', e1] at z
      exact absurd (show (0 : Int32) ≤ nI c' from nI_pos' (by omega)) (by rw [z]; decide)
  · intro z
    rw [z]
    unfold ocN
    rw [if_pos rfl]
/-- all are put away, or stay -/
theorem srtL_none {n : Nat → Int32} {h p : Nat} {sb : Nat → Int32} : ∀ {k : Nat}, (∀ l, l < k → sb l = -2) → (srtL n h p sb k).1 = n
  | 0, _ => rfl
  | k + 1, e => by
    rw [srtL_skip (e k (by omega))]
    exact srtL_none (fun l hl => e l (by omega))
set_option maxHeartbeats 2000000 in
set_option maxRecDepth 20000 in
theorem t_X1_choose {M : Mm} {w a : Nat} (hw : LX1 M.1 M.2.1 w) (hL : LX8 M.1 M.2.1 a) {g : Nat → Bool} {t : Nat} (ht : t < 10) {cap : Int32} (hcap : mI M a 1 = cap) {ar sk : Nat → Int32} (har : ∀ c, c < 5 → mI M (w + 3) (c * 10 + t) = ar c) (hsk : ∀ c, c < 5 → mI M (a + 1) c = sk c) {v : Int32} (hv : (if ¬ mI M (w + 3) (50 + t) = -1 ∧ mI M (w + 3) (50 + t) < (chP g (mI M (w + 5)) cap ar sk 5).2 then -1 else (chP g (mI M (w + 5)) cap ar sk 5).1) = v) : Ct G base YX1_chooseCarrier 4 0 0 [.ref w, .ref a, .int (setB g 5), .int (nI t)] M (rE (some (.int v)) M) := by
  rw [← hv]
  exact t_X1_chooseCarrier (n := fun _ => 0) hw hL ht hcap har hsk
set_option maxHeartbeats 2000000 in
set_option maxRecDepth 20000 in
theorem t_X1_putAllAway {M : Mm} {w a : Nat} {y : Nat → Int32} (hw : LX1 M.1 M.2.1 w) (hL : LX8 M.1 M.2.1 a) (hd : w + 6 ≤ a ∨ a + 18 ≤ w) (hR : RS (mI M) a y) (hO : TbOk y) (hS : SkOk y) {h p : Nat} (hh : h < 1000000) (hp : p < 10) {sb : Nat → Int32} {W : Nat → Bool} (hto : ∀ l, l < nv y 2 → ∃ t, t < 10 ∧ y (498 + 10 * l + 1) = nI t ∧ (¬ sb l = -2 → W t = true ∧ ¬ t = p)) (hsb : ∀ l, l < nv y 2 → sb l = -2 ∨ sb l = -1 ∨ ∃ s, s < 5 ∧ sb l = nI s) (hog : ∀ l, l < nv y 2 → mI M (w + 4) l = ocN y (sb l)) (hld : ∀ c, c < 5 → mI M (w + 5) c = nI 0) (hA : ∀ c, c < 5 → grpB y h p c = true → ∀ t, t < 10 → W t = true → mI M (w + 3) (c * 10 + t) = wyN y h p c t) (h5 : ∀ t, t < 10 → W t = true → ¬ t = p → mI M (w + 3) (50 + t) = wyN y h p 5 t) : Ct G base YX1_putAllAway 5 0 0 [.ref w, .ref a, .int (nI p), .int (setB (grpB y h p) 5)] M (rI none M (fun i => RS i a (srtL y h p sb (nv y 2)).1 ∧ ∀ z, (z < a ∨ a + 18 ≤ z) → z ≠ w + 5 → ∀ k, i z k = mI M z k)) := by
  refine Ct.of IX1_putAllAway.1 (by simp [Value.category]) (Nat.le_of_ble_eq_true rfl) (fun X hX hN => ?_)
  show J G base X 0 0 M 0 [some (.ref w), some (.ref a), some (.int (nI p)), some (.int (setB (grpB y h p) 5)), none, none] []
  have h30 := hR.2.2.1.2.1.2
  have h4n := hR.2.2.2.1.2.1
  refine r_aload_n hX dX1_putAllAway_0 rfl ?_
  refine r_getr hX dX1_putAllAway_1 fl_X1_82 rfl (LX8_s hL) (LX8_r5 hL) ?_
  refine r_astore4 hX dX1_putAllAway_4 rfl ?_
  refine r_iconst (v := nI 0) hX dX1_putAllAway_6 (by decide) ?_
  refine r_istore5 hX dX1_putAllAway_7 rfl ?_
  show J G base X 0 0 (wI M (mI M)) 9 _ []
  refine loop_us (σ := Nat → Nat → Int32) (P := fun j i => (RS i a (srtL y h p sb j).1 ∧ (∀ c, c < 5 → i (w + 5) c = (srtL y h p sb j).2 (nv y (33 + c))) ∧ ∀ z, (z < a ∨ a + 18 ≤ z) → z ≠ w + 5 → ∀ k, i z k = mI M z k) → J G base X 0 0 (wI M i) 9 [some (.ref w), some (.ref a), some (.int (nI p)), some (.int (setB (grpB y h p) 5)), some (.ref (a + 2)), some (.int (nI j))] []) (nv y 2) (fun j i hj ih hi => ?_) 0 (mI M) (Nat.zero_le _) ⟨hR, fun c hc => hld c hc, fun _ _ _ _ => rfl⟩
  have hsm : sm (srtL y h p sb j).1 y := srtL_sm h4n j
  have hv2 : nv (srtL y h p sb j).1 2 = nv y 2 := hsm.nv (by omega) (by omega) (by omega)
  refine r_iload hX dX1_putAllAway_9 rfl ?_
  refine r_aload hX dX1_putAllAway_11 rfl ?_
  refine rn_geti (v := nI (nv y 2)) hX dX1_putAllAway_13 fl_X1_86 rfl (LX2_s (LX8_o5 hL)) (hi.1.2.2.1.1.trans (hi.1.2.2.1.2.1.1.trans (by rw [hv2]))) ?_
  refine rn_icmp_ge (tgt := 66) hX dX1_putAllAway_16 (by decide) rfl rfl (by omega) (by omega) (fun c16 => ?_) (fun c16 => ?_)
  · refine r_return hX rfl dX1_putAllAway_66 (by decide) (by decide) ?_
    obtain rfl : j = nv y 2 := by omega
    exact ⟨rfl, i, rfl, hi.1, hi.2.2⟩
  · refine r_iload hX dX1_putAllAway_19 rfl ?_
    refine r_bipush (v := nI 30) hX dX1_putAllAway_21 (by decide) ?_
    refine rn_icmp_ge (tgt := 66) hX dX1_putAllAway_23 (by decide) rfl rfl (by omega) (by omega) (fun c23 => absurd c23 (by omega)) (fun c23 => ?_)
    refine r_aload_n hX dX1_putAllAway_26 rfl ?_
    refine r_getr hX dX1_putAllAway_27 fl_X1_22 rfl (LX1_s hw) (LX1_r2 hw) ?_
    refine r_iload hX dX1_putAllAway_30 rfl ?_
    refine rn_iald hX dX1_putAllAway_32 (LX1_a2 hw) rfl (by omega) (by omega) ?_
    rw [show mI (wI M i) (w + 4) j = ocN y (sb j) from (hi.2.2 _ (by omega) (by omega) _).trans (hog j c16)]
    refine r_bipush (v := (-2)) hX dX1_putAllAway_33 (by decide) ?_
    refine r_icmp_eq (tgt := 60) hX dX1_putAllAway_35 (by decide) (fun c35 => ?_) (fun c35 => ?_)
    · refine rn_iinc5 hX dX1_putAllAway_60 rfl rfl ?_
      refine r_goto (tgt := 9) hX dX1_putAllAway_63 (by decide) ?_
      have z := ih (by omega) i
      rw [srtL_skip ((oc_m2 hS (hsb j c16)).mp c35)] at z
      exact z hi
    · have hno : ¬ sb j = -2 := fun z => c35 ((oc_m2 hS (hsb j c16)).mpr z)
      have hos := (hsb j c16).resolve_left hno
      obtain ⟨t, ht, hty, hWt⟩ := hto j c16
      obtain ⟨hW, htp⟩ := hWt hno
      have e5 : mI (wI M i) (w + 3) (50 + t) = wyN y h p 5 t := (hi.2.2 _ (by omega) (by omega) _).trans (h5 t ht hW htp)
      have hv := ch_fin (n := y) (h := h) (p := p) (t := t) (fl := (srtL y h p sb j).2) (ld := mI (wI M i) (w + 5)) (ar := fun c => mI M (w + 3) (c * 10 + t)) hO hS hp hi.2.1 (fun c hc hg => hA c hc hg t ht hW) e5 (by rw [e5]; exact wyN_nn hh)
      have hbs : (bstS y h p (srtL y h p sb j).2 t) = -1 ∨ ∃ s, s < 5 ∧ (bstS y h p (srtL y h p sb j).2 t) = nI s := by
        have := hO.2.1.2
        rcases bstS_is (n := y) (h := h) (p := p) (fl := (srtL y h p sb j).2) (t := t) with z | ⟨s, hs, z, -⟩
        · exact Or.inl z
        · exact Or.inr ⟨s, by omega, z⟩
      refine r_aload_n hX dX1_putAllAway_38 rfl ?_
      refine r_aload_n hX dX1_putAllAway_39 rfl ?_
      refine r_iload hX dX1_putAllAway_40 rfl ?_
      refine r_iload_n hX dX1_putAllAway_42 rfl ?_
      refine r_aload_n hX dX1_putAllAway_43 rfl ?_
      refine r_aload_n hX dX1_putAllAway_44 rfl ?_
      refine r_iload_n hX dX1_putAllAway_45 rfl ?_
      refine r_aload hX dX1_putAllAway_46 rfl ?_
      refine r_getr hX dX1_putAllAway_48 fl_X1_112 rfl (LX2_s (LX8_o5 hL)) (LX2_r2 (LX8_o5 hL)) ?_
      refine r_iload hX dX1_putAllAway_51 rfl ?_
      refine rn_iald hX dX1_putAllAway_53 (LX2_a2 (LX8_o5 hL)) rfl (by omega) (by omega) ?_
      rw [show mI (wI M i) (a + 2 + 2) j = nI t from (hi.1.2.2.1.2.2 j (by rw [hv2]; exact c16) 1 (by omega)).trans ((srtL_to (by omega) j).trans hty)]
      refine r_cV3 hX dX1_putAllAway_54 IX1_chooseCarrier ml_X1_132 rfl (LX1_s hw) rfl (t_X1_choose (M := wI M i) (cap := y 5) (ar := fun c => mI M (w + 3) (c * 10 + t)) (sk := fun c => y (33 + c)) (v := ocN y (bstS y h p (srtL y h p sb j).2 t)) hw hL ht (hi.1.1.2.1.trans (hsm.1 5 (by omega) (by omega) (by omega))) (fun c hc => hi.2.2 _ (by omega) (by omega) _) (fun c hc => (hi.1.sk1 (noP_l (k := j) (by rw [hv2]; exact c16)) hc).trans (hsm.1 _ (by omega) (by omega) (by omega))) hv) (by decide) (by decide) (by decide) (by decide) rfl (Nat.le_of_ble_eq_true rfl) ?_
      refine r_iV4 hX dX1_putAllAway_57 IX1_putAway ml_X1_135 rfl (LX1_s hw) rfl (t_X1_putAway (M := wI M i) hw hL hd hi.1 hsm hS (by rw [hv2]; exact c16) hos ((hi.2.2 _ (by omega) (by omega) _).trans (hog j c16)) hi.2.1 (b := (bstS y h p (srtL y h p sb j).2 t)) hbs) (by decide) (by decide) (by decide) (by decide) rfl (Nat.le_of_ble_eq_true rfl) (fun i7 h7 => ?_)
      show J G base X _ _ (wI M i7) _ _ _
      
      refine rn_iinc5 hX dX1_putAllAway_60 rfl rfl ?_
      refine r_goto (tgt := 9) hX dX1_putAllAway_63 (by decide) ?_
      refine ih (by omega) i7 ?_
      rw [srtL_do hno (nv_of hty (by omega))]
      exact ⟨h7.1, h7.2.1, fun z hz hz2 k => (h7.2.2 z hz hz2 k).trans (hi.2.2 z hz hz2 k)⟩
