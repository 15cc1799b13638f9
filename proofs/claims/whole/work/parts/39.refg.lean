variable {G : GG} {base : Nat}
theorem delL_f {n : Nat → Int32} {p : Nat} {sb : Nat → Int32} {l f : Nat} (hl : l < 30) (hf : f < 3 ∨ f = 8 ∨ f = 9) : ∀ k, delL n p sb k (498 + 10 * l + f) = n (498 + 10 * l + f)
  | 0 => rfl
  | k + 1 => by
    simp only [delL]
    split
    · rw [wrL_lo (by omega) (by omega)]
      simp only [handN, liesN, upd]
      rw [if_neg (by omega), if_neg (by omega), if_neg (by omega)]
      exact delL_f hl hf k
    · exact delL_f hl hf k
theorem dlB_eq {n : Nat → Int32} {p : Nat} {sb : Nat → Int32} {l : Nat} (hl : l < 30) (k : Nat) : dlB (delL n p sb k) p sb l = dlB n p sb l := by
  unfold dlB
  rw [delL_f hl (by omega)]
/-- the sacks' row as numbers -/
theorem SkOk.k {n : Nat → Int32} (h : SkOk n) : KOk (fun c => nv n (33 + c)) ∧ ∀ c, c < 5 → n (33 + c) = nI (nv n (33 + c)) := by
  have e : ∀ c, c < 5 → n (33 + c) = nI (nv n (33 + c)) ∧ nv n (33 + c) < 5 := fun c hc => by
    obtain ⟨s, h1, h2⟩ := h.1 c hc
    have : nv n (33 + c) = s := nv_of h2 (by omega)
    rw [this]
    exact ⟨h2, h1⟩
  exact ⟨⟨fun c hc => (e c hc).2, fun c d hc hd z => h.2.1 c d hc hd (by rw [(e c hc).1, (e d hd).1]; exact congrArg nI z)⟩, fun c hc => (e c hc).1⟩
theorem ciN_of {n : Nat → Int32} (h : SkOk n) {s : Nat} (hs : s < 5) : ciN n s < 5 ∧ crS n (nI s) = nI (ciN n s) ∧ n (33 + ciN n s) = nI s := by
  obtain ⟨c, hc, e1, e2⟩ := crS_of h hs
  have : ciN n s = c := by unfold ciN; rw [e1]; exact nI_clamp (by omega)
  rw [this]
  exact ⟨hc, e1, e2⟩
theorem ciN_iff {n : Nat → Int32} (h : SkOk n) {s c : Nat} (hs : s < 5) (hc : c < 5) : nv n (33 + c) = s ↔ c = ciN n s := by
  obtain ⟨h1, h2, h3⟩ := ciN_of h hs
  constructor
  · intro e
    exact h.2.1 c _ hc h1 (((h.k.2 c hc).trans (congrArg nI e)).trans h3.symm)
  · intro e
    rw [e]
    exact nv_of (n := n) (p := 33 + ciN n s) (x := s) h3 (Nat.lt_trans hs (by decide))
set_option maxHeartbeats 2000000 in
set_option maxRecDepth 20000 in
theorem t_X11_delivers {M : Mm} {a : Nat} {n : Nat → Int32} (hL : LX11 M.1 M.2.1 a) (hn : mI M (a + 1) = n) (hLt : Rn n 2 30) (hS : SkOk n) (h4 : Rn n 4 60) {sb : Nat → Int32} (hsb : ∀ l, l < nv n 2 → mI M (a + 10) l = sb l) (hsk : ∀ l, l < nv n 2 → ¬ sb l < 0 → ∃ w, w < 5 ∧ sb l = nI w) {p : Nat} (hp : p < 10) : Ct G base YX11_delivers 5 0 0 [.ref a, .int (nI p)] M (rI (some (.int (nI (cntB (dlB n p sb) (nv n 2))))) M (fun i => i (a + 1) = delL n p sb (nv n 2) ∧ (∀ l, l < nv n 2 → i (a + 10) l = sb2 n p sb l) ∧ ∀ x, x ≠ a + 1 ∧ x ≠ a + 10 → i x = mI M x)) := by
  refine Ct.of IX11_delivers.1 (by simp [Value.category]) (Nat.le_of_ble_eq_true rfl) (fun X hX hN => ?_)
  show J G base X 0 0 M 0 [some (.ref a), some (.int (nI p)), none, none] []
  refine r_iconst (v := nI 0) hX dX11_delivers_0 (by decide) ?_
  refine r_istore2 hX dX11_delivers_1 rfl ?_
  refine r_iconst (v := nI 0) hX dX11_delivers_2 (by decide) ?_
  refine r_istore3 hX dX11_delivers_3 rfl ?_
  show J G base X 0 0 (wI M (mI M)) 4 _ []
  have h2b := hLt.2
  refine loop_us (σ := Nat → Nat → Int32) (P := fun l i => (i (a + 1) = delL n p sb l ∧ (∀ l', l' < nv n 2 → i (a + 10) l' = if l' < l then sb2 n p sb l' else sb l') ∧ ∀ x, x ≠ a + 1 ∧ x ≠ a + 10 → i x = mI M x) → J G base X 0 0 (wI M i) 4 [some (.ref a), some (.int (nI p)), some (.int (nI (cntB (dlB n p sb) l))), some (.int (nI l))] []) (nv n 2) (fun l i hl ih hi => ?_) 0 (mI M) (Nat.zero_le _) ⟨hn, fun l' hl' => by rw [if_neg (by omega)]; exact hsb l' hl', fun _ _ => rfl⟩
  have hni : mI (wI M i) (a + 1) = delL n p sb l := hi.1
  have hd := dlB_eq (n := n) (p := p) (sb := sb) (l := l)
  generalize hy : delL n p sb l = y at hni
  have hsy : sm y n := by rw [← hy]; exact delL_sm h4 l
  have h4y := hsy.2
  have e2y : nv y 2 = nv n 2 := hsy.nv (by omega) (by omega) (by omega)
  have h2y : Rn y 2 30 := hsy.Rn (by omega) (by omega) (by omega) hLt
  have hcur : l < nv n 2 → mI (wI M i) (a + 10) l = sb l := fun hl => by show i (a + 10) l = _; rw [hi.2.1 l hl, if_neg (by omega)]
  refine r_iload_n hX dX11_delivers_4 rfl ?_
  refine r_aload_n hX dX11_delivers_5 rfl ?_
  refine r_cV0 hX dX11_delivers_6 IX11_letters ml_X11_170 rfl (LX11_s hL) rfl (t_X11_letters (M := wI M i) hL hni h2y) (by decide) (by decide) (by decide) (by decide) rfl (Nat.le_of_ble_eq_true rfl) ?_
  rw [e2y]
  refine rn_icmp_ge (tgt := 89) hX dX11_delivers_9 (by decide) rfl rfl (by omega) (by omega) (fun c9 => ?_) (fun c9 => ?_)
  · refine r_iload_n hX dX11_delivers_89 rfl ?_
    refine r_ireturn hX rfl rfl dX11_delivers_90 (by decide) (by decide) ?_
    obtain rfl : l = nv n 2 := by omega
    refine ⟨rfl, i, rfl, hi.1, fun l hl => ?_, hi.2.2⟩
    rw [hi.2.1 l hl, if_pos hl]
  · refine r_aload_n hX dX11_delivers_12 rfl ?_
    refine r_getr hX dX11_delivers_13 fl_X11_45 rfl (LX11_s hL) (LX11_r19 hL) ?_
    refine r_iload_n hX dX11_delivers_16 rfl ?_
    refine rn_iald hX dX11_delivers_17 (LX11_a19 hL) rfl (by omega) (by omega) ?_
    rw [hcur c9]
    refine r_if_lt (tgt := 83) hX dX11_delivers_18 (by decide) (fun c18 => ?_) (fun c18 => ?_)
    · have hdl : ¬ dlB n p sb l = true := by
        rw [← hd (by omega) l, hy]
        simp only [dlB, decide_eq_true_eq]
        first
          | exact fun z => z.1 c18
          | exact fun z => c28 z.2
      refine rn_iinc3 hX dX11_delivers_83 rfl rfl ?_
      refine r_goto (tgt := 4) hX dX11_delivers_86 (by decide) ?_
      have hc1 : cntB (dlB n p sb) (l + 1) = cntB (dlB n p sb) l := by simp only [cntB]; rw [if_neg hdl, Nat.add_zero]
      rw [← hc1]
      refine ih (by omega) i ⟨?_, fun l' hl' => ?_, hi.2.2⟩
      · simp only [delL]
        rw [if_neg (by rw [hd (by omega) l]; exact hdl), hy]
        exact hni
      · rw [hi.2.1 l' hl']
        by_cases e : l' = l
        · rw [if_neg (by omega), if_pos (by omega), e, sb2, if_neg hdl]
        · by_cases e2 : l' < l
          · rw [if_pos e2, if_pos (by omega)]
          · rw [if_neg e2, if_neg (by omega)]
    · refine r_aload_n hX dX11_delivers_21 rfl ?_
      refine r_iload_n hX dX11_delivers_22 rfl ?_
      refine r_iconst (v := nI 1) hX dX11_delivers_23 (by decide) ?_
      refine r_cV2 hX dX11_delivers_24 IX11_of ml_X11_67 rfl (LX11_s hL) rfl (t_X11_of (M := wI M i) hL hni (by omega) (by decide)) (by decide) (by decide) (by decide) (by decide) rfl (Nat.le_of_ble_eq_true rfl) ?_
      refine r_iload_n hX dX11_delivers_27 rfl ?_
      refine r_icmp_eq (tgt := 34) hX dX11_delivers_28 (by decide) (fun c28 => ?_) (fun c28 => ?_)
      · have hdl : dlB n p sb l = true := by
          rw [← hd (by omega) l, hy]
          simp only [dlB, decide_eq_true_eq]
          exact ⟨c18, c28⟩
        obtain ⟨w, hw, ew⟩ := hsk l c9 c18
        
        refine r_aload_n hX dX11_delivers_34 rfl ?_
        refine r_iload_n hX dX11_delivers_35 rfl ?_
        refine r_iconst (v := nI 2) hX dX11_delivers_36 (by decide) ?_
        refine r_iload_n hX dX11_delivers_37 rfl ?_
        refine r_iV3 hX dX11_delivers_38 IX11_lies ml_X11_222 rfl (LX11_s hL) rfl (t_X11_lies (M := wI M i) hL hni (by omega)) (by decide) (by decide) (by decide) (by decide) rfl (Nat.le_of_ble_eq_true rfl) (fun i38 h38 => ?_)
        show J G base X _ _ (wI M i38) _ _ _
        have hn38 : mI (wI M i38) (a + 1) = _ := h38.1
        refine r_aload_n hX dX11_delivers_41 rfl ?_
        refine r_iload_n hX dX11_delivers_42 rfl ?_
        refine r_bipush (v := nI 7) hX dX11_delivers_43 (by decide) ?_
        refine r_aload_n hX dX11_delivers_45 rfl ?_
        refine r_getr hX dX11_delivers_46 fl_X11_13 rfl (LX11_s hL) (LX11_r1 hL) ?_
        refine r_bipush (v := nI 6) hX dX11_delivers_49 (by decide) ?_
        refine rn_iald hX dX11_delivers_51 (LX11_a1 hL) rfl (by omega) (by omega) ?_
        rw [hn38]
        refine r_iV3 hX dX11_delivers_52 IX11_sets ml_X11_71 rfl (LX11_s hL) rfl (t_X11_sets (M := wI M i38) hL hn38 (by omega) (by decide)) (by decide) (by decide) (by decide) (by decide) rfl (Nat.le_of_ble_eq_true rfl) (fun i52 h52 => ?_)
        show J G base X _ _ (wI M i52) _ _ _
        have hn52 : mI (wI M i52) (a + 1) = _ := h52.1
        refine r_aload_n hX dX11_delivers_55 rfl ?_
        refine r_iload_n hX dX11_delivers_56 rfl ?_
        refine r_iconst (v := nI 2) hX dX11_delivers_57 (by decide) ?_
        refine r_aload_n hX dX11_delivers_58 rfl ?_
        refine r_aload_n hX dX11_delivers_59 rfl ?_
        refine r_getr hX dX11_delivers_60 fl_X11_45 rfl (LX11_s hL) (LX11_r19 hL) ?_
        refine r_iload_n hX dX11_delivers_63 rfl ?_
        refine rn_iald hX dX11_delivers_64 (LX11_a19 hL) rfl (by omega) (by omega) ?_
        rw [show mI (wI M i52) (a + 10) l = sb l from (congrFun ((h52.2 (a + 10) (by omega)).trans (h38.2 (a + 10) (by omega))) l).trans (hcur c9)]
        have hsu := (hsy.lies l 2 (nI p)).up (q := 498 + 10 * l + 7) (by omega) (liesN y l 2 (nI p) 6)
        have hSu := hsu.Sk hS
        obtain ⟨c, hc, e5, e6⟩ := crS_of hSu (s := w) hw
        rw [← ew] at e6 e5
        refine r_cV1 hX dX11_delivers_65 IX11_carrierWith ml_X11_249 rfl (LX11_s hL) rfl (t_X11_cw (M := wI M i52) hL hn52 hSu hc e6) (by decide) (by decide) (by decide) (by decide) rfl (Nat.le_of_ble_eq_true rfl) ?_
        refine r_iload_n hX dX11_delivers_68 rfl ?_
        refine r_iV4 hX dX11_delivers_69 IX11_writes ml_X11_255 rfl (LX11_s hL) rfl (t_X11_writes (M := wI M i52) hL hn52 (by omega) hsu.2) (by decide) (by decide) (by decide) (by decide) rfl (Nat.le_of_ble_eq_true rfl) (fun i69 h69 => ?_)
        show J G base X _ _ (wI M i69) _ _ _
        have hn69 : mI (wI M i69) (a + 1) = _ := h69.1
        refine r_aload_n hX dX11_delivers_72 rfl ?_
        refine r_getr hX dX11_delivers_73 fl_X11_45 rfl (LX11_s hL) (LX11_r19 hL) ?_
        refine r_iload_n hX dX11_delivers_76 rfl ?_
        refine r_bipush (v := (-2)) hX dX11_delivers_77 (by decide) ?_
        refine rn_iast hX dX11_delivers_79 (LX11_a19 hL) rfl (by omega) (by omega) ?_
        refine J.gen (M0 := M) rfl (fun i2 h2 => ?_)
        refine rn_iinc2 hX dX11_delivers_80 rfl rfl ?_
        refine rn_iinc3 hX dX11_delivers_83 rfl rfl ?_
        refine r_goto (tgt := 4) hX dX11_delivers_86 (by decide) ?_
        have hc1 : cntB (dlB n p sb) (l + 1) = cntB (dlB n p sb) l + 1 := by simp only [cntB]; rw [if_pos hdl]
        rw [← hc1]
        refine ih (by omega) i2 ⟨?_, fun l' hl' => ?_, fun x hx => ?_⟩
        · funext q
          rw [h2]
          rw [show mI (uI (wI M i69) (a + 10) l (-2)) (a + 1) q = mI (wI M i69) (a + 1) q from congrFun (uIo (by omega)) q]
          rw [hn69]
          simp only [delL]
          rw [hy, if_pos (by rw [← hy, hd (by omega) l]; exact hdl)]
          show wrL (handN y l p) l 2 (nI c) (nI p) q = _
          rw [show crS (handN y l p) (sb l) = nI c from e5]
        · rw [h2]
          show mI (uI (wI M i69) (a + 10) l (-2)) (a + 10) l' = _
          simp only [mI_uI, if_true]
          have h10 : i69 (a + 10) = i (a + 10) := (h69.2 (a + 10) (by omega)).trans ((h52.2 (a + 10) (by omega)).trans (h38.2 (a + 10) (by omega)))
          by_cases e : l' = l
          · rw [if_pos e, if_pos (by omega), e, sb2, if_pos hdl]
          · rw [if_neg e]
            show i69 (a + 10) l' = _
            rw [h10, hi.2.1 l' hl']
            by_cases e2 : l' < l
            · rw [if_pos e2, if_pos (by omega)]
            · rw [if_neg e2, if_neg (by omega)]
        · rw [← hi.2.2 x hx]
          funext j
          rw [h2, congrFun (uIo hx.2) j]
          exact congrFun ((h69.2 x hx.1).trans ((h52.2 x hx.1).trans (h38.2 x hx.1))) j
      · refine r_goto (tgt := 83) hX dX11_delivers_31 (by decide) ?_
        have hdl : ¬ dlB n p sb l = true := by
          rw [← hd (by omega) l, hy]
          simp only [dlB, decide_eq_true_eq]
          first
            | exact fun z => z.1 c18
            | exact fun z => c28 z.2
        refine rn_iinc3 hX dX11_delivers_83 rfl rfl ?_
        refine r_goto (tgt := 4) hX dX11_delivers_86 (by decide) ?_
        have hc1 : cntB (dlB n p sb) (l + 1) = cntB (dlB n p sb) l := by simp only [cntB]; rw [if_neg hdl, Nat.add_zero]
        rw [← hc1]
        refine ih (by omega) i ⟨?_, fun l' hl' => ?_, hi.2.2⟩
        · simp only [delL]
          rw [if_neg (by rw [hd (by omega) l]; exact hdl), hy]
          exact hni
        · rw [hi.2.1 l' hl']
          by_cases e : l' = l
          · rw [if_neg (by omega), if_pos (by omega), e, sb2, if_neg hdl]
          · by_cases e2 : l' < l
            · rw [if_pos e2, if_pos (by omega)]
            · rw [if_neg e2, if_neg (by omega)]
set_option maxHeartbeats 2000000 in
set_option maxRecDepth 20000 in
theorem t_X11_laysWays {M : Mm} {a : Nat} {n : Nat → Int32} (hL : LX11 M.1 M.2.1 a) (hn : mI M (a + 1) = n) (hT : TbOk n) (hS : SkOk n) {h p : Nat} (ht : n 6 = nI h) (hh : h < 900000) (hp : p < 10) : Ct G base YX11_laysWays 7 0 0 [.ref a, .int (nI p), .int (setB (grpB n h p) 5)] M (rI none M (fun i => (∀ s, s < 5 → s < nv n 1 → grpB n h p (ciN n s) = true → ∀ t, t < nv n 0 → i (a + 12) (10 * s + t) = wyN n h p (ciN n s) t) ∧ (∀ t, t < nv n 0 → i (a + 12) (50 + t) = wyN n h p 5 t) ∧ ∀ x, x ≠ a + 7 ∧ x ≠ a + 8 ∧ x ≠ a + 9 ∧ x ≠ a + 12 → i x = mI M x)) := by
  refine Ct.of IX11_laysWays.1 (by simp [Value.category]) (Nat.le_of_ble_eq_true rfl) (fun X hX hN => ?_)
  show J G base X 0 0 M 0 [some (.ref a), some (.int (nI p)), some (.int (setB (grpB n h p) 5)), none, none] []
  refine r_iconst (v := nI 0) hX dX11_laysWays_0 (by decide) ?_
  refine r_istore3 hX dX11_laysWays_1 rfl ?_
  show J G base X 0 0 (wI M (mI M)) 2 _ []
  have h0 := hT.1
  have h1 := hT.2.1
  have hp10 := h0.2
  have hm5 := h1.2
  obtain ⟨hK, hK0⟩ := hS.k
  refine loop_us (σ := Nat → Nat → Int32) (P := fun s i => ((∀ s', s' < s → s' < nv n 1 → grpB n h p (ciN n s') = true → ∀ t, t < nv n 0 → i (a + 12) (10 * s' + t) = wyN n h p (ciN n s') t) ∧ (s = 6 → ∀ t, t < nv n 0 → i (a + 12) (50 + t) = wyN n h p 5 t) ∧ ∀ x, x ≠ a + 7 ∧ x ≠ a + 8 ∧ x ≠ a + 9 ∧ x ≠ a + 12 → i x = mI M x) → J G base X 0 0 (wI M i) 2 [some (.ref a), some (.int (nI p)), some (.int (setB (grpB n h p) 5)), some (.int (nI s)), none] []) 6 (fun s i hs ih hi => ?_) 0 (mI M) (Nat.zero_le _) ⟨fun s' h1 => by omega, fun h6 => by omega, fun _ _ => rfl⟩
  have hni : mI (wI M i) (a + 1) = n := (hi.2.2 _ ⟨by omega, by omega, by omega, by omega⟩).trans hn
  refine r_iload_n hX dX11_laysWays_2 rfl ?_
  refine r_iconst (v := nI 5) hX dX11_laysWays_3 (by decide) ?_
  refine rn_icmp_gt (tgt := 113) hX dX11_laysWays_4 (by decide) rfl rfl (by omega) (by omega) (fun c4 => ?_) (fun c4 => ?_)
  · refine r_return hX rfl dX11_laysWays_113 (by decide) (by decide) ?_
    obtain rfl : s = 6 := by omega
    exact ⟨rfl, i, rfl, fun s h1 => hi.1 s (by omega), hi.2.1 rfl, hi.2.2⟩
  · refine r_iload_n hX dX11_laysWays_7 rfl ?_
    refine r_iconst (v := nI 5) hX dX11_laysWays_8 (by decide) ?_
    refine rn_icmp_ge (tgt := 35) hX dX11_laysWays_9 (by decide) rfl rfl (by omega) (by omega) (fun c9 => ?_) (fun c9 => ?_)
    · refine r_aload_n hX dX11_laysWays_35 rfl ?_
      refine r_iload_n hX dX11_laysWays_36 rfl ?_
      refine r_iconst (v := nI 5) hX dX11_laysWays_37 (by decide) ?_
      refine rn_icmp_ge (tgt := 47) hX dX11_laysWays_38 (by decide) rfl rfl (by omega) (by omega) (fun c38 => ?_) (fun c38 => by omega)
      refine r_iconst (v := 0) hX dX11_laysWays_47 (by decide) ?_
      refine r_iload_n hX dX11_laysWays_48 rfl ?_
      refine r_iconst (v := nI 5) hX dX11_laysWays_49 (by decide) ?_
      refine rn_icmp_ge (tgt := 57) hX dX11_laysWays_50 (by decide) rfl rfl (by omega) (by omega) (fun c50 => ?_) (fun c50 => by omega)
      refine r_iconst (v := 1) hX dX11_laysWays_57 (by decide) ?_
      refine r_iload_n hX dX11_laysWays_58 rfl ?_
      refine r_ishl hX dX11_laysWays_59 ?_
      refine r_aload_n hX dX11_laysWays_60 rfl ?_
      refine r_getr hX dX11_laysWays_61 fl_X11_13 rfl (LX11_s hL) (LX11_r1 hL) ?_
      refine r_bipush (v := nI 6) hX dX11_laysWays_64 (by decide) ?_
      refine rn_iald hX dX11_laysWays_66 (LX11_a1 hL) rfl (by omega) (by omega) ?_
      rw [hni]
      rw [ht]
      refine r_iconst (v := nI 1) hX dX11_laysWays_67 (by decide) ?_
      refine rn_iadd hX dX11_laysWays_68 rfl rfl ?_
      refine r_iV3 hX dX11_laysWays_69 IX11_laysArrivals ml_X11_225 rfl (LX11_s hL) rfl (t_X11_laysArrivals (M := wI M i) hL hni hT hK hK0 (C0 := fun _ => false) (O0 := fun q => decide (q = p)) (fun c hc => b_0 _) (fun q hq => bt_b1 (by omega) q) (by omega)) (by decide) (by decide) (by decide) (by decide) rfl (Nat.le_of_ble_eq_true rfl) (fun i69 h69 => ?_)
      show J G base X _ _ (wI M i69) _ _ _
      have hold : ∀ s', s' < s → s' < nv n 1 → grpB n h p (ciN n s') = true → ∀ t, t < nv n 0 → i69 (a + 12) (10 * s' + t) = wyN n h p (ciN n s') t := fun s' h1 h2 h3 t ht => by rw [h69.2 (a + 12) ⟨by omega, by omega, by omega⟩]; exact hi.1 s' h1 h2 h3 t ht
      refine r_iconst (v := nI 0) hX dX11_laysWays_72 (by decide) ?_
      refine r_istore4 hX dX11_laysWays_73 rfl ?_
      refine loop_us (σ := Nat → Nat → Int32) (P := fun j i4 => ((∀ q, i4 (a + 12) q = if 10 * s ≤ q ∧ q < 10 * s + j then i69 (a + 9) (q - 10 * s) else i69 (a + 12) q) ∧ ∀ x, x ≠ a + 12 → i4 x = i69 x) → J G base X 0 0 (wI M i4) 75 [some (.ref a), some (.int (nI p)), some (.int (setB (grpB n h p) 5)), some (.int (nI s)), some (.int (nI j))] []) 10 (fun j i4 hj ihj hi4 => ?_) 0 i69 (Nat.zero_le _) ⟨fun q => by rw [if_neg (by omega)], fun _ _ => rfl⟩
      refine r_iload hX dX11_laysWays_75 rfl ?_
      refine r_bipush (v := nI 10) hX dX11_laysWays_77 (by decide) ?_
      refine rn_icmp_ge (tgt := 107) hX dX11_laysWays_79 (by decide) rfl rfl (by omega) (by omega) (fun c79 => ?_) (fun c79 => ?_)
      · obtain rfl : j = 10 := by omega
        refine rn_iinc3 hX dX11_laysWays_107 rfl rfl ?_
        refine r_goto (tgt := 2) hX dX11_laysWays_110 (by decide) ?_
        obtain rfl : s = 5 := by omega
        refine J.junk (ih (by omega) i4 ⟨fun s' h1 h2 h3 t ht => ?_, fun _ t ht => ?_, fun x hx => (hi4.2 x hx.2.2.2).trans ((h69.2 x ⟨hx.1, hx.2.1, hx.2.2.1⟩).trans (hi.2.2 x hx))⟩) (by repeat first | exact trivial | refine ⟨rfl, ?_⟩)
        · have := hold s' (by omega) h2 h3 t ht
          rw [hi4.1, if_neg (by omega)]
          exact this
        · rw [hi4.1, if_pos (by omega), show 50 + t - 10 * 5 = t by omega, h69.1 t ht]
          unfold wyN
          rw [if_neg (by omega)]
      · refine r_aload_n hX dX11_laysWays_82 rfl ?_
        refine r_getr hX dX11_laysWays_83 fl_X11_51 rfl (LX11_s hL) (LX11_r21 hL) ?_
        refine r_bipush (v := nI 10) hX dX11_laysWays_86 (by decide) ?_
        refine r_iload_n hX dX11_laysWays_88 rfl ?_
        refine rn_imul hX dX11_laysWays_89 rfl rfl ?_
        refine r_iload hX dX11_laysWays_90 rfl ?_
        refine rn_iadd hX dX11_laysWays_92 rfl rfl ?_
        refine r_aload_n hX dX11_laysWays_93 rfl ?_
        refine r_getr hX dX11_laysWays_94 fl_X11_42 rfl (LX11_s hL) (LX11_r18 hL) ?_
        refine r_iload hX dX11_laysWays_97 rfl ?_
        refine rn_iald hX dX11_laysWays_99 (LX11_a18 hL) rfl (by omega) (by omega) ?_
        refine rn_iast hX dX11_laysWays_100 (LX11_a21 hL) rfl (by omega) (by omega) ?_
        refine rn_iinc4 hX dX11_laysWays_101 rfl rfl ?_
        refine r_goto (tgt := 75) hX dX11_laysWays_104 (by decide) ?_
        refine ihj (by omega) _ ⟨fun q => ?_, fun x hx => (uIo hx).trans (hi4.2 x hx)⟩
        show mI (uI (wI M i4) (a + 12) (10 * s + j) (i4 (a + 9) j)) (a + 12) q = _
        simp only [mI_uI, if_true]
        by_cases e : q = 10 * s + j
        · rw [if_pos e, if_pos (by omega), e, show 10 * s + j - 10 * s = j by omega, hi4.2 (a + 9) (by omega)]
        · rw [if_neg e]
          show i4 (a + 12) q = _
          rw [hi4.1]
          by_cases e2 : 10 * s ≤ q ∧ q < 10 * s + j
          · rw [if_pos e2, if_pos (by omega)]
          · rw [if_neg e2, if_neg (by omega)]
    · refine r_iload_n hX dX11_laysWays_12 rfl ?_
      refine r_aload_n hX dX11_laysWays_13 rfl ?_
      refine r_cV0 hX dX11_laysWays_14 IX11_carriers ml_X11_151 rfl (LX11_s hL) rfl (t_X11_carriers (M := wI M i) hL hni h1) (by decide) (by decide) (by decide) (by decide) rfl (Nat.le_of_ble_eq_true rfl) ?_
      refine rn_icmp_ge (tgt := 107) hX dX11_laysWays_17 (by decide) rfl rfl (by omega) (by omega) (fun c17 => ?_) (fun c17 => ?_)
      · refine rn_iinc3 hX dX11_laysWays_107 rfl rfl ?_
        refine r_goto (tgt := 2) hX dX11_laysWays_110 (by decide) ?_
        refine J.junk (ih (by omega) i ⟨fun s' h1 h2 h3 t ht => ?_, fun h6 => by omega, hi.2.2⟩) (by repeat first | exact trivial | refine ⟨rfl, ?_⟩)
        by_cases e : s' = s
        · subst e
          first
            | omega
            | (exfalso
               have h5 := (ciN_of hS (s := s') (by omega)).1
               apply c29
               rw [bt_setB _ 5 (by omega), h3, decide_eq_true h5]
               rfl)
        · exact hi.1 s' (by omega) h2 h3 t ht
      · refine r_iload_n hX dX11_laysWays_20 rfl ?_
        refine r_aload_n hX dX11_laysWays_21 rfl ?_
        refine r_iload_n hX dX11_laysWays_22 rfl ?_
        refine r_cV1 hX dX11_laysWays_23 IX11_carrierWith ml_X11_249 rfl (LX11_s hL) rfl (t_X11_cw (M := wI M i) hL hni hS (ciN_of hS (s := s) (by omega)).1 (ciN_of hS (s := s) (by omega)).2.2) (by decide) (by decide) (by decide) (by decide) rfl (Nat.le_of_ble_eq_true rfl) ?_
        refine r_cS2 hX dX11_laysWays_26 IX11_has ml_X11_160 rfl (t_X11_has (M := wI M i) (by have := (ciN_of hS (s := s) (by omega)).1; omega)) (by decide) (by decide) (by decide) (by decide) rfl (Nat.le_of_ble_eq_true rfl) ?_
        refine rb_if_ne (tgt := 35) hX dX11_laysWays_29 (by decide) rfl (fun c29 => ?_) (fun c29 => ?_)
        · refine r_aload_n hX dX11_laysWays_35 rfl ?_
          refine r_iload_n hX dX11_laysWays_36 rfl ?_
          refine r_iconst (v := nI 5) hX dX11_laysWays_37 (by decide) ?_
          refine rn_icmp_ge (tgt := 47) hX dX11_laysWays_38 (by decide) rfl rfl (by omega) (by omega) (fun c38 => by omega) (fun c38 => ?_)
          refine r_iconst (v := 1) hX dX11_laysWays_41 (by decide) ?_
          refine r_iload_n hX dX11_laysWays_42 rfl ?_
          refine r_ishl hX dX11_laysWays_43 ?_
          refine r_goto (tgt := 48) hX dX11_laysWays_44 (by decide) ?_
          refine r_iload_n hX dX11_laysWays_48 rfl ?_
          refine r_iconst (v := nI 5) hX dX11_laysWays_49 (by decide) ?_
          refine rn_icmp_ge (tgt := 57) hX dX11_laysWays_50 (by decide) rfl rfl (by omega) (by omega) (fun c50 => by omega) (fun c50 => ?_)
          refine r_iconst (v := 0) hX dX11_laysWays_53 (by decide) ?_
          refine r_goto (tgt := 60) hX dX11_laysWays_54 (by decide) ?_
          refine r_aload_n hX dX11_laysWays_60 rfl ?_
          refine r_getr hX dX11_laysWays_61 fl_X11_13 rfl (LX11_s hL) (LX11_r1 hL) ?_
          refine r_bipush (v := nI 6) hX dX11_laysWays_64 (by decide) ?_
          refine rn_iald hX dX11_laysWays_66 (LX11_a1 hL) rfl (by omega) (by omega) ?_
          rw [hni]
          rw [ht]
          refine r_iconst (v := nI 1) hX dX11_laysWays_67 (by decide) ?_
          refine rn_iadd hX dX11_laysWays_68 rfl rfl ?_
          refine r_iV3 hX dX11_laysWays_69 IX11_laysArrivals ml_X11_225 rfl (LX11_s hL) rfl (t_X11_laysArrivals (M := wI M i) hL hni hT hK hK0 (C0 := fun c => decide (c = ciN n s)) (O0 := fun _ => false) (fun c hc => (bt_b1 (k := s) (by omega) _).trans (show decide (nv n (33 + c) = s) = decide (c = ciN n s) by congr 1; exact propext (ciN_iff hS (by omega) hc))) (fun q hq => b_0 _) (by omega)) (by decide) (by decide) (by decide) (by decide) rfl (Nat.le_of_ble_eq_true rfl) (fun i69 h69 => ?_)
          show J G base X _ _ (wI M i69) _ _ _
          have hold : ∀ s', s' < s → s' < nv n 1 → grpB n h p (ciN n s') = true → ∀ t, t < nv n 0 → i69 (a + 12) (10 * s' + t) = wyN n h p (ciN n s') t := fun s' h1 h2 h3 t ht => by rw [h69.2 (a + 12) ⟨by omega, by omega, by omega⟩]; exact hi.1 s' h1 h2 h3 t ht
          refine r_iconst (v := nI 0) hX dX11_laysWays_72 (by decide) ?_
          refine r_istore4 hX dX11_laysWays_73 rfl ?_
          refine loop_us (σ := Nat → Nat → Int32) (P := fun j i4 => ((∀ q, i4 (a + 12) q = if 10 * s ≤ q ∧ q < 10 * s + j then i69 (a + 9) (q - 10 * s) else i69 (a + 12) q) ∧ ∀ x, x ≠ a + 12 → i4 x = i69 x) → J G base X 0 0 (wI M i4) 75 [some (.ref a), some (.int (nI p)), some (.int (setB (grpB n h p) 5)), some (.int (nI s)), some (.int (nI j))] []) 10 (fun j i4 hj ihj hi4 => ?_) 0 i69 (Nat.zero_le _) ⟨fun q => by rw [if_neg (by omega)], fun _ _ => rfl⟩
          refine r_iload hX dX11_laysWays_75 rfl ?_
          refine r_bipush (v := nI 10) hX dX11_laysWays_77 (by decide) ?_
          refine rn_icmp_ge (tgt := 107) hX dX11_laysWays_79 (by decide) rfl rfl (by omega) (by omega) (fun c79 => ?_) (fun c79 => ?_)
          · obtain rfl : j = 10 := by omega
            refine rn_iinc3 hX dX11_laysWays_107 rfl rfl ?_
            refine r_goto (tgt := 2) hX dX11_laysWays_110 (by decide) ?_
            refine J.junk (ih (by omega) i4 ⟨fun s' h1 h2 h3 t ht => ?_, fun h6 t ht => absurd h6 (by omega), fun x hx => (hi4.2 x hx.2.2.2).trans ((h69.2 x ⟨hx.1, hx.2.1, hx.2.2.1⟩).trans (hi.2.2 x hx))⟩) (by repeat first | exact trivial | refine ⟨rfl, ?_⟩)
            by_cases e : s' = s
            · subst e
              rw [hi4.1, if_pos (by omega), show 10 * s' + t - 10 * s' = t by omega, h69.1 t ht]
              have h5 := (ciN_of hS (s := s') (by omega)).1
              unfold wyN
              rw [if_pos h5]
            · have := hold s' (by omega) h2 h3 t ht
              rw [hi4.1, if_neg (by omega)]
              exact this
          · refine r_aload_n hX dX11_laysWays_82 rfl ?_
            refine r_getr hX dX11_laysWays_83 fl_X11_51 rfl (LX11_s hL) (LX11_r21 hL) ?_
            refine r_bipush (v := nI 10) hX dX11_laysWays_86 (by decide) ?_
            refine r_iload_n hX dX11_laysWays_88 rfl ?_
            refine rn_imul hX dX11_laysWays_89 rfl rfl ?_
            refine r_iload hX dX11_laysWays_90 rfl ?_
            refine rn_iadd hX dX11_laysWays_92 rfl rfl ?_
            refine r_aload_n hX dX11_laysWays_93 rfl ?_
            refine r_getr hX dX11_laysWays_94 fl_X11_42 rfl (LX11_s hL) (LX11_r18 hL) ?_
            refine r_iload hX dX11_laysWays_97 rfl ?_
            refine rn_iald hX dX11_laysWays_99 (LX11_a18 hL) rfl (by omega) (by omega) ?_
            refine rn_iast hX dX11_laysWays_100 (LX11_a21 hL) rfl (by omega) (by omega) ?_
            refine rn_iinc4 hX dX11_laysWays_101 rfl rfl ?_
            refine r_goto (tgt := 75) hX dX11_laysWays_104 (by decide) ?_
            refine ihj (by omega) _ ⟨fun q => ?_, fun x hx => (uIo hx).trans (hi4.2 x hx)⟩
            show mI (uI (wI M i4) (a + 12) (10 * s + j) (i4 (a + 9) j)) (a + 12) q = _
            simp only [mI_uI, if_true]
            by_cases e : q = 10 * s + j
            · rw [if_pos e, if_pos (by omega), e, show 10 * s + j - 10 * s = j by omega, hi4.2 (a + 9) (by omega)]
            · rw [if_neg e]
              show i4 (a + 12) q = _
              rw [hi4.1]
              by_cases e2 : 10 * s ≤ q ∧ q < 10 * s + j
              · rw [if_pos e2, if_pos (by omega)]
              · rw [if_neg e2, if_neg (by omega)]
        · refine r_goto (tgt := 107) hX dX11_laysWays_32 (by decide) ?_
          refine rn_iinc3 hX dX11_laysWays_107 rfl rfl ?_
          refine r_goto (tgt := 2) hX dX11_laysWays_110 (by decide) ?_
          refine J.junk (ih (by omega) i ⟨fun s' h1 h2 h3 t ht => ?_, fun h6 => by omega, hi.2.2⟩) (by repeat first | exact trivial | refine ⟨rfl, ?_⟩)
          by_cases e : s' = s
          · subst e
            first
              | omega
              | (exfalso
                 have h5 := (ciN_of hS (s := s') (by omega)).1
                 apply c29
                 rw [bt_setB _ 5 (by omega), h3, decide_eq_true h5]
                 rfl)
          · exact hi.1 s' (by omega) h2 h3 t ht
