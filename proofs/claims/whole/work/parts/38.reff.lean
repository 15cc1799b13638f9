variable {G : GG} {base : Nat}
theorem t_X11_cw {M : Mm} {a : Nat} {n : Nat → Int32} (hL : LX11 M.1 M.2.1 a) (hn : mI M (a + 1) = n) (hS : SkOk n) {c : Nat} (hc : c < 5) {s : Int32} (e : n (33 + c) = s) : Ct G base YX11_carrierWith 1 0 0 [.ref a, .int s] M (rE (some (.int (nI c))) M) := by
  rw [← crS_is hS hc e]
  exact t_X11_carrierWith hL hn ⟨c, hc, e⟩
theorem markL_f {n : Nat → Int32} {p : Nat} {g : Nat → Bool} {l f : Nat} (hl : l < 30) (hf : f < 9) : ∀ k, markL n p g k (498 + 10 * l + f) = n (498 + 10 * l + f)
  | 0 => rfl
  | k + 1 => by
    simp only [markL]
    split
    · rw [wrL_lo (by omega) (by omega)]
      simp only [upd]
      rw [if_neg (by omega)]
      exact markL_f hl hf k
    · exact markL_f hl hf k
theorem rotN_eq {n : Nat → Int32} {h q : Nat} (hq : q < 33 ∨ 38 ≤ q) : rotN n h q = n q := by
  unfold rotN
  rw [if_neg (by omega)]
theorem rotN_tab {n : Nat → Int32} {h : Nat} : tabEq (rotN n h) n := ⟨rotN_eq (by omega), rotN_eq (by omega), fun q a b => rotN_eq (by omega), fun q a b => rotN_eq (by omega)⟩
theorem rotN_Sk {n : Nat → Int32} {h : Nat} (hS : SkOk n) : SkOk (rotN n h) := by
  have e : ∀ c, c < 5 → rotN n h (33 + c) = n (33 + nxP n h c) := fun c hc => by
    unfold rotN
    rw [if_pos (by omega), show 33 + c - 33 = c by omega]
  have e1 : nv (rotN n h) 1 = nv n 1 := by show (rotN n h 1).toNatClampNeg = _; rw [rotN_eq (by omega)]
  refine ⟨fun c hc => by rw [e c hc]; exact hS.1 _ (nxP_lt hc), fun c d hc hd z => ?_, fun c hc hm => ?_⟩
  · rw [e c hc, e d hd] at z
    exact nxP_inj hc hd (hS.2.1 _ _ (nxP_lt hc) (nxP_lt hd) z)
  · rw [e1] at hm
    rw [e c hc, nxP_out hm]
    exact hS.2.2 c hc hm
theorem TbOk.tab {n m : Nat → Int32} (h : tabEq n m) (hT : TbOk n) : TbOk m := by
  refine ⟨⟨?_, ?_⟩, ⟨?_, ?_⟩, RtOk.eq h hT.2.2⟩
  · show m 0 = nI ((m 0).toNatClampNeg); rw [← h.1]; exact hT.1.1
  · show (m 0).toNatClampNeg ≤ 10; rw [← h.1]; exact hT.1.2
  · show m 1 = nI ((m 1).toNatClampNeg); rw [← h.2.1]; exact hT.2.1.1
  · show (m 1).toNatClampNeg ≤ 5; rw [← h.2.1]; exact hT.2.1.2
/-- behind the swaps: what stays -/
theorem swpN_sm {n : Nat → Int32} {h : Nat} (h4 : Rn n 4 60) : ∀ k, sm (swpN n h k) (rotN n h)
  | 0 => sm.rf ⟨by show rotN n h 4 = nI ((rotN n h 4).toNatClampNeg); rw [rotN_eq (by omega)]; exact h4.1, by show (rotN n h 4).toNatClampNeg ≤ 60; rw [rotN_eq (by omega)]; exact h4.2⟩
  | k + 1 => by
    simp only [swpN]
    split
    · exact (markL_sm ((swpN_sm h4 k).up7 _).2 _).tr ((swpN_sm h4 k).up7 _)
    · exact swpN_sm h4 k
theorem swpN_f {n : Nat → Int32} {h : Nat} {l f : Nat} (hl : l < 30) (hf : f < 9) : ∀ k, swpN n h k (498 + 10 * l + f) = n (498 + 10 * l + f)
  | 0 => rotN_eq (by omega)
  | k + 1 => by
    simp only [swpN]
    split
    · rw [markL_f hl hf]
      simp only [upd]
      rw [if_neg (by omega)]
      exact swpN_f hl hf k
    · exact swpN_f hl hf k
theorem cnt_any {g : Nat → Bool} : setB g 5 = 0 ↔ anyB g 5 = false := by
  rw [setB_0 (by omega)]
  constructor
  · intro h
    cases e : anyB g 5
    · rfl
    · obtain ⟨j, hj, e2⟩ := anyB_iff.mp e
      rw [h j hj] at e2; cases e2
  · intro h i hi
    cases e : g i
    · rfl
    · rw [anyB_iff.mpr ⟨i, hi, e⟩] at h; cases h
/-- the carrier of letter l's sack -/
theorem LtOk.sack {n y : Nat → Int32} (hLt : LtOk n) (hm : nv n 1 ≤ 5) (hS : SkOk y) {l : Nat} (hl : l < nv n 2) (h3 : n (498 + 10 * l + 3) = 1) : ∃ c w, c < 5 ∧ w < nv n 1 ∧ n (498 + 10 * l + 4) = nI w ∧ y (33 + c) = nI w ∧ crS y (nI w) = nI c := by
  obtain ⟨f, t, v, s, w, -, -, -, e3, e4, -, -, -, -, hs, -, k1, -⟩ := hLt.2.2 l hl
  have : s = 1 := by
    rw [e3] at h3
    exact (nI_eq (a := s) (b := 1) (by omega) (by omega)).mp h3
  have hw := k1 this
  obtain ⟨c, hc, e5, e6⟩ := crS_of hS (s := w) (by omega)
  exact ⟨c, w, hc, hw, e4, e6, e5⟩
theorem hcN_is {y : Nat → Int32} {l c : Nat} {w : Int32} (e4 : y (498 + 10 * l + 4) = w) (e : crS y w = nI c) (hc : c < 5) : hcN y l = c := by
  unfold hcN
  rw [e4, e]
  exact nI_clamp (by omega)
set_option maxHeartbeats 2000000 in
set_option maxRecDepth 20000 in
theorem t_X11_swapsNow {M : Mm} {a : Nat} {n : Nat → Int32} (hL : LX11 M.1 M.2.1 a) (hn : mI M (a + 1) = n) (hT : TbOk n) (hS : SkOk n) (hLt : LtOk n) (h4 : Rn n 4 60) {h : Nat} (ht : n 6 = nI h) (hh : h < 1000000) : Ct G base YX11_swapsNow 5 0 0 [.ref a] M (rI none M (fun i => i (a + 1) = swpN n h (nv n 0) ∧ ∀ x, x ≠ a + 1 ∧ x ≠ a + 8 → i x = mI M x)) := by
  refine Ct.of IX11_swapsNow.1 (by simp [Value.category]) (Nat.le_of_ble_eq_true rfl) (fun X hX hN => ?_)
  show J G base X 0 0 M 0 [some (.ref a), none, none, none] []
  have h0 := hT.1
  have h1 := hT.2.1
  have hr := hT.2.2
  have hp10 := h0.2
  have hm5 := h1.2
  have h2n := hLt.1
  have h2b := h2n.2
  refine r_aload_n hX dX11_swapsNow_0 rfl ?_
  refine r_iV0 hX dX11_swapsNow_1 IX11_takesSacks ml_X11_231 rfl (LX11_s hL) rfl (t_X11_takesSacks hL hn) (by decide) (by decide) (by decide) (by decide) rfl (Nat.le_of_ble_eq_true rfl) (fun i1 h1' => ?_)
  show J G base X _ _ (wI M i1) _ _ _
  have hn1 : mI (wI M i1) (a + 1) = n := (h1'.2 _ (by omega)).trans hn
  refine r_aload_n hX dX11_swapsNow_4 rfl ?_
  refine r_aload_n hX dX11_swapsNow_5 rfl ?_
  refine r_getr hX dX11_swapsNow_6 fl_X11_13 rfl (LX11_s hL) (LX11_r1 hL) ?_
  refine r_bipush (v := nI 6) hX dX11_swapsNow_9 (by decide) ?_
  refine rn_iald hX dX11_swapsNow_11 (LX11_a1 hL) rfl (by omega) (by omega) ?_
  rw [hn1]
  rw [ht]
  refine r_aload_n hX dX11_swapsNow_12 rfl ?_
  refine r_getr hX dX11_swapsNow_13 fl_X11_39 rfl (LX11_s hL) (LX11_r17 hL) ?_
  refine r_iV2 hX dX11_swapsNow_16 IX11_swaps ml_X11_237 rfl (LX11_s hL) rfl (t_X11_swaps (M := wI M i1) hL hn1 hT (by omega) (LX11_a17 hL) (by omega)) (by decide) (by decide) (by decide) (by decide) rfl (Nat.le_of_ble_eq_true rfl) (fun i2 h2' => ?_)
  show J G base X _ _ (wI M i2) _ _ _
  have k8 : ∀ c, c < 5 → i2 (a + 8) c = n (33 + nxP n h c) := fun c hc => by
    rw [h2'.1 c hc]
    exact h1'.1 _ (nxP_lt hc)
  have k9 : ∀ x, x ≠ a + 8 → i2 x = mI M x := fun x hx => (h2'.2 x hx).trans (h1'.2 x hx)
  clear h1' h2' hn1
  
  refine r_iconst (v := nI 0) hX dX11_swapsNow_19 (by decide) ?_
  refine r_istore1 hX dX11_swapsNow_20 rfl ?_
  refine loop_us (σ := Nat → Nat → Int32) (P := fun j i => ((∀ q, i (a + 1) q = if 33 ≤ q ∧ q < 33 + j then n (33 + nxP n h (q - 33)) else n q) ∧ ∀ x, x ≠ a + 1 → i x = i2 x) → J G base X 0 0 (wI M i) 21 [some (.ref a), some (.int (nI j)), none, none] []) 5 (fun j i hj ih hi => ?_) 0 i2 (Nat.zero_le _) ⟨fun q => by rw [if_neg (by omega), k9 _ (by omega)]; exact congrFun hn q, fun _ _ => rfl⟩
  have k8i : ∀ c, c < 5 → mI (wI M i) (a + 8) c = n (33 + nxP n h c) := fun c hc => by show i (a + 8) c = _; rw [hi.2 _ (by omega)]; exact k8 c hc
  refine r_iload_n hX dX11_swapsNow_21 rfl ?_
  refine r_iconst (v := nI 5) hX dX11_swapsNow_22 (by decide) ?_
  refine rn_icmp_ge (tgt := 47) hX dX11_swapsNow_23 (by decide) rfl rfl (by omega) (by omega) (fun c23 => ?_) (fun c23 => ?_)
  · obtain rfl : j = 5 := by omega
    have g1 : i (a + 1) = swpN n h 0 := funext fun q => hi.1 q
    have g2 : ∀ x, x ≠ a + 1 ∧ x ≠ a + 8 → i x = mI M x := fun x hx => (hi.2 x hx.1).trans (k9 x hx.2)
    clear ih hi k8i
    refine r_iconst (v := nI 0) hX dX11_swapsNow_47 (by decide) ?_
    refine r_istore1 hX dX11_swapsNow_48 rfl ?_
    refine loop_us (σ := Nat → Nat → Int32) (P := fun p i => (i (a + 1) = swpN n h p ∧ ∀ x, x ≠ a + 1 ∧ x ≠ a + 8 → i x = mI M x) → J G base X 0 0 (wI M i) 49 [some (.ref a), some (.int (nI p)), none, none] []) (nv n 0) (fun p i hp ih hi => ?_) 0 i (Nat.zero_le _) ⟨g1, g2⟩
    have hni : mI (wI M i) (a + 1) = swpN n h p := hi.1
    have hsx := swpN_sm (n := n) (h := h) h4 p
    have htb : tabEq (swpN n h p) n := hsx.tab.tr rotN_tab
    have hTx : TbOk (swpN n h p) := TbOk.tab htb.sm hT
    have e0 : nv (swpN n h p) 0 = nv n 0 := by show (swpN n h p 0).toNatClampNeg = _; rw [htb.1]
    have e6 : swpN n h p 6 = nI h := by rw [hsx.1 6 (by omega) (by omega) (by omega), rotN_eq (by omega)]; exact ht
    have etw : townP (swpN n h p) (nI p) ↔ townP n (nI p) := by
      show 0 ≤ nI p ∧ nI p < swpN n h p 0 ∧ swpN n h p (8 + (nI p).toNatClampNeg) = 1 ↔ 0 ≤ nI p ∧ nI p < n 0 ∧ n (8 + (nI p).toNatClampNeg) = 1
      rw [htb.1, htb.2.2.1 (8 + (nI p).toNatClampNeg) (by omega) (by rw [nI_clamp (by omega)]; omega)]
    refine r_iload_n hX dX11_swapsNow_49 rfl ?_
    refine r_aload_n hX dX11_swapsNow_50 rfl ?_
    refine r_cV0 hX dX11_swapsNow_51 IX11_places ml_X11_75 rfl (LX11_s hL) rfl (t_X11_places (M := wI M i) hL hni hTx.1) (by decide) (by decide) (by decide) (by decide) rfl (Nat.le_of_ble_eq_true rfl) ?_
    rw [e0]
    refine rn_icmp_ge (tgt := 181) hX dX11_swapsNow_54 (by decide) rfl rfl (by omega) (by omega) (fun c54 => ?_) (fun c54 => ?_)
    · refine r_return hX rfl dX11_swapsNow_181 (by decide) (by decide) ?_
      obtain rfl : p = nv n 0 := by omega
      exact ⟨rfl, i, rfl, hi.1, hi.2⟩
    · refine r_aload_n hX dX11_swapsNow_57 rfl ?_
      refine r_iload_n hX dX11_swapsNow_58 rfl ?_
      refine r_cV1 hX dX11_swapsNow_59 IX11_isTown ml_X11_166 rfl (LX11_s hL) rfl (t_X11_isTown (M := wI M i) hL hni hTx.1) (by decide) (by decide) (by decide) (by decide) rfl (Nat.le_of_ble_eq_true rfl) ?_
      rw [show (if townP (swpN n h p) (nI p) then (1 : Int32) else 0) = if townP n (nI p) then 1 else 0 from by simp only [etw]]
      refine rb_if_eq (tgt := 69) hX dX11_swapsNow_62 (by decide) rfl (fun c62 => ?_) (fun c62 => ?_)
      · refine r_aload_n hX dX11_swapsNow_69 rfl ?_
        refine r_iload_n hX dX11_swapsNow_70 rfl ?_
        refine r_cV1 hX dX11_swapsNow_71 IX11_carriersHere ml_X11_241 rfl (LX11_s hL) rfl (t_X11_carriersHere (M := wI M i) hL hni hTx e6 (by omega) (by omega)) (by decide) (by decide) (by decide) (by decide) rfl (Nat.le_of_ble_eq_true rfl) ?_
        refine r_istore2 hX dX11_swapsNow_74 rfl ?_
        have hcl := cntB_le (grpB n h p) 5
        have htp : town n p = false := townI h0 c54 c62
        have hgr : grpB (swpN n h p) h p = grpB n h p := grpB_eq htb hTx.2.2 hTx.2.1.2
        rw [hgr]
        refine r_iload_n hX dX11_swapsNow_75 rfl ?_
        refine r_cS1 hX dX11_swapsNow_76 IJ6_bitCount_0f7a4 ml_X11_244 rfl (t_bitCount (M := wI M i) ) (by decide) (by decide) (by decide) (by decide) rfl (Nat.le_of_ble_eq_true rfl) ?_
        rw [bcI_5]
        refine r_iconst (v := nI 2) hX dX11_swapsNow_79 (by decide) ?_
        refine rn_icmp_ge (tgt := 86) hX dX11_swapsNow_80 (by decide) rfl rfl (by omega) (by omega) (fun c80 => ?_) (fun c80 => ?_)
        · generalize hy0 : upd (swpN n h p) 7 (swpN n h p 7 + 1) = y0
          have hs0 : sm y0 (rotN n h) := by rw [← hy0]; exact (swpN_sm h4 p).up7 _
          have hf0 : ∀ l, l < 30 → ∀ f, f < 9 → y0 (498 + 10 * l + f) = n (498 + 10 * l + f) := fun l hl f hf => by
            rw [← hy0]
            simp only [upd]
            rw [if_neg (by omega)]
            exact swpN_f hl hf p
          refine r_aload_n hX dX11_swapsNow_86 rfl ?_
          refine r_getr hX dX11_swapsNow_87 fl_X11_13 rfl (LX11_s hL) (LX11_r1 hL) ?_
          refine r_bipush (v := nI 7) hX dX11_swapsNow_90 (by decide) ?_
          refine r_dup2 hX dX11_swapsNow_92 rfl rfl ?_
          refine rn_iald hX dX11_swapsNow_93 (LX11_a1 hL) rfl (by omega) (by omega) ?_
          rw [hni]
          refine r_iconst (v := 1) hX dX11_swapsNow_94 (by decide) ?_
          refine r_iadd hX dX11_swapsNow_95 ?_
          refine rn_iast hX dX11_swapsNow_96 (LX11_a1 hL) rfl (by omega) (by omega) ?_
          refine J.gen (M0 := M) rfl (fun i2 h2 => ?_)
          have g1 : i2 (a + 1) = y0 := by
            rw [← hy0, ← uIA (v := swpN n h p 7 + 1) hni]
            funext q
            exact h2 (a + 1) q
          have g2 : ∀ x, x ≠ a + 1 ∧ x ≠ a + 8 → i2 x = mI M x := fun x hx => by
            rw [← hi.2 x hx]
            funext q
            rw [h2]
            exact congrFun (uIo hx.1) q
          refine r_iconst (v := nI 0) hX dX11_swapsNow_97 (by decide) ?_
          refine r_istore3 hX dX11_swapsNow_98 rfl ?_
          refine loop_us (σ := Nat → Nat → Int32) (P := fun l i => (i (a + 1) = markL y0 p (grpB n h p) l ∧ ∀ x, x ≠ a + 1 ∧ x ≠ a + 8 → i x = mI M x) → J G base X 0 0 (wI M i) 99 [some (.ref a), some (.int (nI p)), some (.int (setB (grpB n h p) 5)), some (.int (nI l))] []) (nv n 2) (fun l i3 hl ih2 hi3 => ?_) 0 i2 (Nat.zero_le _) ⟨g1, g2⟩
          have hn3 : mI (wI M i3) (a + 1) = markL y0 p (grpB n h p) l := hi3.1
          generalize hy : markL y0 p (grpB n h p) l = y at hn3
          have hsy : sm y (rotN n h) := by rw [← hy]; exact (markL_sm hs0.2 l).tr hs0
          have h4y := hsy.2
          have e2y : nv y 2 = nv n 2 := by rw [hsy.nv (by omega) (by omega) (by omega)]; show (rotN n h 2).toNatClampNeg = _; rw [rotN_eq (by omega)]
          have h2y : Rn y 2 30 := ⟨by rw [e2y, hsy.1 2 (by omega) (by omega) (by omega), rotN_eq (by omega)]; exact h2n.1, by rw [e2y]; exact h2n.2⟩
          have hSy : SkOk y := hsy.Sk (rotN_Sk hS)
          have hfy : ∀ f, f < 9 → l < nv n 2 → y (498 + 10 * l + f) = n (498 + 10 * l + f) := fun f hf hl => by rw [← hy, markL_f (by omega) hf, hf0 l (by omega) f hf]
          refine r_iload_n hX dX11_swapsNow_99 rfl ?_
          refine r_aload_n hX dX11_swapsNow_100 rfl ?_
          refine r_cV0 hX dX11_swapsNow_101 IX11_letters ml_X11_170 rfl (LX11_s hL) rfl (t_X11_letters (M := wI M i3) hL hn3 h2y) (by decide) (by decide) (by decide) (by decide) rfl (Nat.le_of_ble_eq_true rfl) ?_
          rw [e2y]
          refine rn_icmp_ge (tgt := 175) hX dX11_swapsNow_104 (by decide) rfl rfl (by omega) (by omega) (fun c104 => ?_) (fun c104 => ?_)
          · obtain rfl : l = nv n 2 := by omega
            refine rn_iinc1 hX dX11_swapsNow_175 rfl rfl ?_
            refine r_goto (tgt := 49) hX dX11_swapsNow_178 (by decide) ?_
            refine J.junk (ih (by omega) i3 ⟨?_, hi3.2⟩) (by repeat first | exact trivial | refine ⟨rfl, ?_⟩)
            rw [hi3.1, ← hy0]
            simp only [swpN]
            rw [if_pos ⟨htp, by omega⟩]
          · refine r_aload_n hX dX11_swapsNow_107 rfl ?_
            refine r_iload_n hX dX11_swapsNow_108 rfl ?_
            refine r_iconst (v := nI 3) hX dX11_swapsNow_109 (by decide) ?_
            refine r_cV2 hX dX11_swapsNow_110 IX11_of ml_X11_67 rfl (LX11_s hL) rfl (t_X11_of (M := wI M i3) hL hn3 (by omega) (by decide)) (by decide) (by decide) (by decide) (by decide) rfl (Nat.le_of_ble_eq_true rfl) ?_
            refine r_iconst (v := 1) hX dX11_swapsNow_113 (by decide) ?_
            refine r_icmp_ne (tgt := 169) hX dX11_swapsNow_114 (by decide) (fun c114 => ?_) (fun c114 => ?_)
            · have e9 : markL y0 p (grpB n h p) (l + 1) = y := by
                simp only [markL]
                rw [hy, if_neg]
                exact fun z => c114 z.1
              refine rn_iinc3 hX dX11_swapsNow_169 rfl rfl ?_
              refine r_goto (tgt := 99) hX dX11_swapsNow_172 (by decide) ?_
              refine J.junk (ih2 (by omega) i3 ⟨hn3.trans e9.symm, hi3.2⟩) (by repeat first | exact trivial | refine ⟨rfl, ?_⟩)
            · have e3 : y (498 + 10 * l + 3) = 1 := c114
              obtain ⟨c, w, hc, hw, e4', e6, e5⟩ := hLt.sack hm5 hSy c104 (by rw [← hfy 3 (by omega) c104]; exact e3)
              have e4 : y (498 + 10 * l + 4) = nI w := by rw [hfy 4 (by omega) c104]; exact e4'
              have hcy : hcN y l = c := hcN_is e4 e5 hc
              refine r_iload_n hX dX11_swapsNow_117 rfl ?_
              refine r_aload_n hX dX11_swapsNow_118 rfl ?_
              refine r_aload_n hX dX11_swapsNow_119 rfl ?_
              refine r_iload_n hX dX11_swapsNow_120 rfl ?_
              refine r_iconst (v := nI 4) hX dX11_swapsNow_121 (by decide) ?_
              refine r_cV2 hX dX11_swapsNow_122 IX11_of ml_X11_67 rfl (LX11_s hL) rfl (t_X11_of (M := wI M i3) hL hn3 (by omega) (by decide)) (by decide) (by decide) (by decide) (by decide) rfl (Nat.le_of_ble_eq_true rfl) ?_
              refine r_cV1 hX dX11_swapsNow_125 IX11_carrierWith ml_X11_249 rfl (LX11_s hL) rfl (t_X11_cw (M := wI M i3) hL hn3 hSy hc (e6.trans e4.symm)) (by decide) (by decide) (by decide) (by decide) rfl (Nat.le_of_ble_eq_true rfl) ?_
              refine r_cS2 hX dX11_swapsNow_128 IX11_has ml_X11_160 rfl (t_X11_has (M := wI M i3) (by omega)) (by decide) (by decide) (by decide) (by decide) rfl (Nat.le_of_ble_eq_true rfl) ?_
              refine rb_if_ne (tgt := 137) hX dX11_swapsNow_131 (by decide) rfl (fun c131 => ?_) (fun c131 => ?_)
              · refine r_aload_n hX dX11_swapsNow_137 rfl ?_
                refine r_iload_n hX dX11_swapsNow_138 rfl ?_
                refine r_aload_n hX dX11_swapsNow_139 rfl ?_
                refine r_aload_n hX dX11_swapsNow_140 rfl ?_
                refine r_iload_n hX dX11_swapsNow_141 rfl ?_
                refine r_iconst (v := nI 4) hX dX11_swapsNow_142 (by decide) ?_
                refine r_cV2 hX dX11_swapsNow_143 IX11_of ml_X11_67 rfl (LX11_s hL) rfl (t_X11_of (M := wI M i3) hL hn3 (by omega) (by decide)) (by decide) (by decide) (by decide) (by decide) rfl (Nat.le_of_ble_eq_true rfl) ?_
                refine r_cV1 hX dX11_swapsNow_146 IX11_carrierWith ml_X11_249 rfl (LX11_s hL) rfl (t_X11_cw (M := wI M i3) hL hn3 hSy hc (e6.trans e4.symm)) (by decide) (by decide) (by decide) (by decide) rfl (Nat.le_of_ble_eq_true rfl) ?_
                refine r_iV2 hX dX11_swapsNow_149 IX11_traces ml_X11_252 rfl (LX11_s hL) rfl (t_X11_traces (M := wI M i3) hL hn3 (by omega) hc) (by decide) (by decide) (by decide) (by decide) rfl (Nat.le_of_ble_eq_true rfl) (fun i149 h149 => ?_)
                show J G base X _ _ (wI M i149) _ _ _
                have hn149 : mI (wI M i149) (a + 1) = _ := h149.1
                have hsu := hsy.up (q := 498 + 10 * l + 9) (by omega) (y (498 + 10 * l + 9) ||| b1 c)
                have hSu := hsu.Sk (rotN_Sk hS)
                have hu : ∀ b q, b + q ≠ 498 + 10 * l + 9 → b + q < 1158 → upd y (498 + 10 * l + 9) (y (498 + 10 * l + 9) ||| b1 c) (b + q) = y (b + q) := fun b q h1 _ => by simp only [upd]; rw [if_neg h1]
                refine r_aload_n hX dX11_swapsNow_152 rfl ?_
                refine r_iload_n hX dX11_swapsNow_153 rfl ?_
                refine r_iconst (v := nI 3) hX dX11_swapsNow_154 (by decide) ?_
                refine r_aload_n hX dX11_swapsNow_155 rfl ?_
                refine r_aload_n hX dX11_swapsNow_156 rfl ?_
                refine r_iload_n hX dX11_swapsNow_157 rfl ?_
                refine r_iconst (v := nI 4) hX dX11_swapsNow_158 (by decide) ?_
                refine r_cV2 hX dX11_swapsNow_159 IX11_of ml_X11_67 rfl (LX11_s hL) rfl (t_X11_of (M := wI M i149) hL hn149 (by omega) (by decide)) (by decide) (by decide) (by decide) (by decide) rfl (Nat.le_of_ble_eq_true rfl) ?_
                refine r_cV1 hX dX11_swapsNow_162 IX11_carrierWith ml_X11_249 rfl (LX11_s hL) rfl (t_X11_cw (M := wI M i149) hL hn149 hSu hc ((hu 33 c (by omega) (by omega)).trans ((e6.trans e4.symm).trans (hu 498 (10 * l + 4) (by omega) (by omega)).symm))) (by decide) (by decide) (by decide) (by decide) rfl (Nat.le_of_ble_eq_true rfl) ?_
                refine r_iload_n hX dX11_swapsNow_165 rfl ?_
                refine r_iV4 hX dX11_swapsNow_166 IX11_writes ml_X11_255 rfl (LX11_s hL) rfl (t_X11_writes (M := wI M i149) hL hn149 (by omega) hsu.2) (by decide) (by decide) (by decide) (by decide) rfl (Nat.le_of_ble_eq_true rfl) (fun i166 h166 => ?_)
                show J G base X _ _ (wI M i166) _ _ _
                have hn166 : mI (wI M i166) (a + 1) = _ := h166.1
                have e9 : markL y0 p (grpB n h p) (l + 1) = wrL (upd y (498 + 10 * l + 9) (y (498 + 10 * l + 9) ||| b1 c)) l 3 (nI c) (nI p) := by
                  simp only [markL]
                  rw [hy, hcy, if_pos ⟨e3, by have := c131; rw [bt_setB _ 5 (by omega)] at this; simpa [hc] using this⟩]
                refine rn_iinc3 hX dX11_swapsNow_169 rfl rfl ?_
                refine r_goto (tgt := 99) hX dX11_swapsNow_172 (by decide) ?_
                refine J.junk (ih2 (by omega) i166 ⟨h166.1.trans e9.symm, fun x hx => (h166.2 x hx.1).trans ((h149.2 x hx.1).trans (hi3.2 x hx))⟩) (by repeat first | exact trivial | refine ⟨rfl, ?_⟩)
              · refine r_goto (tgt := 169) hX dX11_swapsNow_134 (by decide) ?_
                have e9 : markL y0 p (grpB n h p) (l + 1) = y := by
                  simp only [markL]
                  rw [hy, if_neg]
                  rintro ⟨-, z⟩
                  rw [hcy] at z
                  exact c131 (by rw [bt_setB _ 5 (by omega), z, decide_eq_true hc]; rfl)
                refine rn_iinc3 hX dX11_swapsNow_169 rfl rfl ?_
                refine r_goto (tgt := 99) hX dX11_swapsNow_172 (by decide) ?_
                refine J.junk (ih2 (by omega) i3 ⟨hn3.trans e9.symm, hi3.2⟩) (by repeat first | exact trivial | refine ⟨rfl, ?_⟩)
        · refine r_goto (tgt := 175) hX dX11_swapsNow_83 (by decide) ?_
          refine rn_iinc1 hX dX11_swapsNow_175 rfl rfl ?_
          refine r_goto (tgt := 49) hX dX11_swapsNow_178 (by decide) ?_
          refine J.junk (ih (by omega) i ⟨?_, hi.2⟩) (by repeat first | exact trivial | refine ⟨rfl, ?_⟩)
          rw [hi.1]
          simp only [swpN]
          rw [if_neg (fun z => by omega)]
      · refine r_iconst (v := 0) hX dX11_swapsNow_65 (by decide) ?_
        refine r_goto (tgt := 74) hX dX11_swapsNow_66 (by decide) ?_
        refine r_istore2 hX dX11_swapsNow_74 rfl ?_
        have htp : ¬ (town n p = false ∧ 2 ≤ cntB (grpB n h p) 5) := fun z => by rw [townI' h0 c54 c62] at z; exact absurd z.1 (by decide)
        refine r_iload_n hX dX11_swapsNow_75 rfl ?_
        refine r_cS1 hX dX11_swapsNow_76 IJ6_bitCount_0f7a4 ml_X11_244 rfl (t_bitCount (M := wI M i) ) (by decide) (by decide) (by decide) (by decide) rfl (Nat.le_of_ble_eq_true rfl) ?_
        rw [show bcI 0 = nI 0 from by decide +kernel]
        refine r_iconst (v := nI 2) hX dX11_swapsNow_79 (by decide) ?_
        refine rn_icmp_ge (tgt := 86) hX dX11_swapsNow_80 (by decide) rfl rfl (by omega) (by omega) (fun c80 => by omega) (fun c80 => ?_)
        refine r_goto (tgt := 175) hX dX11_swapsNow_83 (by decide) ?_
        refine rn_iinc1 hX dX11_swapsNow_175 rfl rfl ?_
        refine r_goto (tgt := 49) hX dX11_swapsNow_178 (by decide) ?_
        refine J.junk (ih (by omega) i ⟨?_, hi.2⟩) (by repeat first | exact trivial | refine ⟨rfl, ?_⟩)
        rw [hi.1]
        simp only [swpN]
        rw [if_neg htp]
  · refine r_aload_n hX dX11_swapsNow_26 rfl ?_
    refine r_getr hX dX11_swapsNow_27 fl_X11_13 rfl (LX11_s hL) (LX11_r1 hL) ?_
    refine r_bipush (v := nI 33) hX dX11_swapsNow_30 (by decide) ?_
    refine r_iload_n hX dX11_swapsNow_32 rfl ?_
    refine rn_iadd hX dX11_swapsNow_33 rfl rfl ?_
    refine r_aload_n hX dX11_swapsNow_34 rfl ?_
    refine r_getr hX dX11_swapsNow_35 fl_X11_39 rfl (LX11_s hL) (LX11_r17 hL) ?_
    refine r_iload_n hX dX11_swapsNow_38 rfl ?_
    refine rn_iald hX dX11_swapsNow_39 (LX11_a17 hL) rfl (by omega) (by omega) ?_
    rw [k8i j (by omega)]
    refine rn_iast hX dX11_swapsNow_40 (LX11_a1 hL) rfl (by omega) (by omega) ?_
    refine rn_iinc1 hX dX11_swapsNow_41 rfl rfl ?_
    refine r_goto (tgt := 21) hX dX11_swapsNow_44 (by decide) ?_
    refine ih (by omega) _ ⟨fun q => ?_, fun x hx => ?_⟩
    · show mI (uI (wI M i) (a + 1) (33 + j) (n (33 + nxP n h j))) (a + 1) q = _
      simp only [mI_uI, if_true]
      by_cases e : q = 33 + j
      · rw [if_pos e, if_pos (by omega), e, show 33 + j - 33 = j by omega]
      · rw [if_neg e]
        show i (a + 1) q = _
        rw [hi.1 q]
        by_cases e2 : 33 ≤ q ∧ q < 33 + j
        · rw [if_pos e2, if_pos (by omega)]
        · rw [if_neg e2, if_neg (by omega)]
    · rw [← hi.2 x hx]
      exact uIo hx
  
