variable {G : GG} {base : Nat}
/-! ===== THE CLASS: the timetable is written ===== -/
theorem stF_hi {n m : Nat → Int32} (h : ∀ q, 43 ≤ q → q < 498 → m q = n q) (h6 : ∀ c, c < 5 → ∀ w, w < 7 → nv n (rtA c w) ≤ 6) {c hh : Nat} (hc : c < 5) : stopN m c hh = stopN n c hh := by
  unfold stopN
  have hw : hh / 24 % 7 < 7 := Nat.mod_lt _ (by decide)
  have eA : rtA c (hh / 24 % 7) = 43 + 13 * (7 * c + hh / 24 % 7) := rfl
  have h6' := h6 c hc _ hw
  rw [nv_eq (h _ (by omega) (by omega))]
  exact stF_congr (fun q q1 q2 => h q (by omega) (by omega))
theorem gst_hi {n m : Nat → Int32} (h : ∀ q, 43 ≤ q → q < 498 → m q = n q) (h6 : ∀ c, c < 5 → ∀ w, w < 7 → nv n (rtA c w) ≤ 6) (h1 : nv m 1 = nv n 1) (hn : nv n 1 ≤ 5) (hh p : Nat) : gstN m hh p = gstN n hh p := by
  unfold gstN
  funext c
  rw [h1]
  by_cases hc : c < nv n 1
  · rw [stF_hi h h6 (by omega)]
  · rw [decide_eq_false (fun z => hc z.1), decide_eq_false (fun z => hc z.1)]
theorem RtOk.l6 {n : Nat → Int32} (h : RtOk n) : ∀ c, c < 5 → ∀ w, w < 7 → nv n (rtA c w) ≤ 6 := fun c hc w hw => (h c hc w hw).1.2
/-- the place's row -/
abbrev plN' (n : Nat → Int32) (v : Nat) (y : Int32) : Nat → Int32 := upd (upd (upd n (8 + nv n 0) (nI v)) (18 + nv n 0) y) 0 (nI (nv n 0 + 1))
theorem TT.place {i i' : Nat → Nat → Int32} {b : Nat} {n : Nat → Int32} {v : Nat} {x y : Int32} (h : TT i b n) (hR : RtOk n) (hk : nv n 0 < 10) (h1 : nv n 1 ≤ 5) (hxy : NmR x y) (hv : v < 2)
    (g0 : i' b 0 = nI (nv n 0 + 1)) (g1 : i' b 1 = if v = 0 then i b 1 else i b 1 ||| bitI (nI (nv n 0))) (g2 : i' b 2 = i b 2) (gn : ∀ p, i' (b + 1) p = if p = nv n 0 then x else i (b + 1) p) (go : ∀ z, z ≠ b → z ≠ b + 1 → i' z = i z) : TT i' b (plN' n v y) := by
  obtain ⟨a1, a2, a3, a4, a5, a6, a7⟩ := h
  have e0 : nv (plN' n v y) 0 = nv n 0 + 1 := nv_of upd_s (by omega)
  have e1 : nv (plN' n v y) 1 = nv n 1 := nv_eq (by simp only [plN']; rw [upd_o (by omega), upd_o (by omega), upd_o (by omega)])
  have eg : ∀ h p, gstN (plN' n v y) h p = gstN n h p := gst_hi (fun q q1 q2 => by simp only [plN']; rw [upd_o (by omega), upd_o (by omega), upd_o (by omega)]) hR.l6 e1 h1
  refine ⟨g0.trans upd_s.symm, ?_, ?_, fun p hp => ?_, fun c hc => ?_, fun hh h2 p hp => ?_, fun hh h2 => ?_⟩
  · have et : ∀ p, p < 10 → town (plN' n v y) p = (town n p || decide (p = nv n 0 ∧ v = 1)) := fun p hp => by
      unfold town
      rw [e0]
      have e8 : plN' n v y (8 + p) = if p = nv n 0 then nI v else n (8 + p) := by
        simp only [plN']
        rw [upd_o (by omega), upd_o (by omega)]
        split
        · rename_i hpe; subst hpe; exact upd_s
        · exact upd_o (by omega)
      rw [e8]
      by_cases hpe : p = nv n 0
      · rw [if_pos hpe, decide_eq_false (p := p < nv n 0 ∧ _) (fun z => by omega), Bool.false_or]
        refine decide_eq_decide.mpr ⟨fun z => ⟨hpe, ?_⟩, fun z => ⟨by omega, by rw [z.2]; rfl⟩⟩
        rcases (show v = 0 ∨ v = 1 by omega) with hv0 | hv1
        · rw [hv0] at z; exact absurd z.2 (by decide)
        · exact hv1
      · rw [if_neg hpe, decide_eq_false (p := p = nv n 0 ∧ _) (fun z => hpe z.1), Bool.or_false]
        exact decide_eq_decide.mpr ⟨fun z => ⟨by omega, z.2⟩, fun z => ⟨by omega, z.2⟩⟩
    rw [g1, a2]
    split
    · rename_i hv0
      refine setB_congr (fun p hp => ?_)
      rw [et p hp, decide_eq_false (fun z => by omega), Bool.or_false]
    · rename_i hv0
      rw [setB_or1 _ (by omega) (by omega)]
      refine setB_congr (fun p hp => ?_)
      rw [et p hp]
      congr 1
      exact decide_eq_decide.mpr ⟨fun z => ⟨z, by omega⟩, fun z => z.1⟩
  · rw [g2, a3]
    simp only [plN']
    rw [upd_o (by omega), upd_o (by omega), upd_o (by omega)]
  · rw [e0] at hp
    rw [gn]
    by_cases hpe : p = nv n 0
    · subst hpe
      rw [if_pos rfl]
      simp only [plN']
      rw [upd_o (by omega), upd_s]
      exact hxy
    · rw [if_neg hpe]
      simp only [plN']
      rw [upd_o (by omega), upd_o (by omega), upd_o (by omega)]
      exact a4 p (by omega)
  · rw [e1] at hc
    rw [go _ (by omega) (by omega)]
    simp only [plN']
    rw [upd_o (by omega), upd_o (by omega), upd_o (by omega)]
    exact a5 c hc
  · rw [go _ (by omega) (by omega), eg]
    exact a6 hh h2 p hp
  · rw [go _ (by omega) (by omega), a7 hh h2]
    exact setB_congr (fun p hp => by rw [eg])
/-- a carrier without number has no stops -/
def EC (n : Nat → Int32) : Prop := ∀ c, nv n 1 ≤ c → c < 5 → ∀ w, w < 7 → n (rtA c w) = 0
abbrev caN' (n : Nat → Int32) (y : Int32) : Nat → Int32 := upd (upd n (28 + nv n 1) y) 1 (nI (nv n 1 + 1))
theorem TT.carr {i i' : Nat → Nat → Int32} {b : Nat} {n : Nat → Int32} {x y : Int32} (h : TT i b n) (hR : RtOk n) (hE : EC n) (hk : nv n 1 < 5) (h0 : nv n 0 ≤ 10) (hxy : NmR x y)
    (g0 : i' b 0 = i b 0) (g1 : i' b 1 = i b 1) (g2 : i' b 2 = nI (nv n 1 + 1)) (gn : ∀ c, i' (b + 2) c = if c = nv n 1 then x else i (b + 2) c) (go : ∀ z, z ≠ b → z ≠ b + 2 → z ≠ b + 3 → i' z = i z) : TT i' b (caN' n y) := by
  obtain ⟨a1, a2, a3, a4, a5, a6, a7⟩ := h
  have e1 : nv (caN' n y) 1 = nv n 1 + 1 := nv_of upd_s (by omega)
  have e00 : caN' n y 0 = n 0 := by simp only [caN']; rw [upd_o (by omega), upd_o (by omega)]
  have e0 : nv (caN' n y) 0 = nv n 0 := nv_eq e00
  have eq : ∀ q, 43 ≤ q → q < 498 → caN' n y q = n q := fun q q1 q2 => by simp only [caN']; rw [upd_o (by omega), upd_o (by omega)]
  have eg : ∀ h p, p < 10 → ∀ c, c < 5 → gstN (caN' n y) h p c = gstN n h p c := fun h p hp c hc => by
    unfold gstN
    rw [e1, stF_hi eq hR.l6 hc]
    by_cases hce : c = nv n 1
    · subst hce
      rw [decide_eq_false (p := nv n 1 < nv n 1 ∧ _) (fun z => by omega)]
      refine decide_eq_false (fun z => ?_)
      have hz := hE (nv n 1) (Nat.le_refl _) hc (h / 24 % 7) (Nat.mod_lt _ (by decide))
      have : stopN n (nv n 1) h = -1 := by
        unfold stopN
        rw [nv_of (x := 0) hz (by decide)]
        rfl
      rw [this] at z
      exact nI_ne_m1 (by omega) z.2.symm
    · exact decide_eq_decide.mpr ⟨fun z => ⟨by omega, z.2⟩, fun z => ⟨by omega, z.2⟩⟩
  refine ⟨(g0.trans a1).trans e00.symm, ?_, g2.trans upd_s.symm, fun p hp => ?_, fun c hc => ?_, fun hh h2 p hp => ?_, fun hh h2 => ?_⟩
  · rw [g1, a2]
    refine setB_congr (fun p hp => ?_)
    unfold town
    rw [e0]
    have e8 : caN' n y (8 + p) = n (8 + p) := by simp only [caN']; rw [upd_o (by omega), upd_o (by omega)]
    rw [e8]
  · rw [e0] at hp
    rw [go _ (by omega) (by omega) (by omega)]
    simp only [caN']
    rw [upd_o (by omega), upd_o (by omega)]
    exact a4 p hp
  · rw [e1] at hc
    rw [gn]
    by_cases hce : c = nv n 1
    · subst hce
      rw [if_pos rfl]
      simp only [caN']
      rw [upd_o (by omega), upd_s]
      exact hxy
    · rw [if_neg hce]
      simp only [caN']
      rw [upd_o (by omega), upd_o (by omega)]
      exact a5 c (by omega)
  · rw [go _ (by omega) (by omega) (by omega), a6 hh h2 p hp]
    exact setB_congr (fun c hc => (eg hh p hp c hc).symm)
  · rw [go _ (by omega) (by omega) (by omega), a7 hh h2]
    refine setB_congr (fun p hp => ?_)
    exact anyB_congr (fun c hc => (eg hh p hp c hc).symm)
set_option maxHeartbeats 2000000 in
set_option maxRecDepth 20000 in
theorem t_X9_addPlace0 {M : Mm} {b : Nat} {n : Nat → Int32} (hL : LX9 M.1 M.2.1 b) (hT : TT (mI M) b n) (hR : RtOk n) (hk : nv n 0 < 10) (h0 : n 0 = nI (nv n 0)) (h1 : nv n 1 ≤ 5) {x y : Int32} (hxy : NmR x y) : Ct G base YX9_addPlace 2 0 0 [.ref b, .int x, .int (nI 0)] M (rI none M (fun i => TT i b (plN' n 0 y) ∧ ∀ z, z ≠ b → z ≠ b + 1 → i z = mI M z)) := by
  refine Ct.of IX9_addPlace.1 (by simp [Value.category]) (Nat.le_of_ble_eq_true rfl) (fun X hX hN => ?_)
  show J G base X 0 0 M 0 [some (.ref b), some (.int x), some (.int (nI 0))] []
  have hb0 : mI M b 0 = nI (nv n 0) := hT.1.trans h0
  refine r_aload_n hX dX9_addPlace_0 rfl ?_
  refine rn_geti (v := nI (nv n 0)) hX dX9_addPlace_1 fl_X9_9 rfl (LX9_s hL) hb0 ?_
  refine r_bipush (v := nI 10) hX dX9_addPlace_4 (by decide) ?_
  refine rn_icmp_ge (tgt := 49) hX dX9_addPlace_6 (by decide) rfl rfl (by omega) (by omega) (fun c6 => by omega) (fun c6 => ?_)
  refine r_aload_n hX dX9_addPlace_9 rfl ?_
  refine r_getr hX dX9_addPlace_10 fl_X9_21 rfl (LX9_s hL) (LX9_r3 hL) ?_
  refine r_aload_n hX dX9_addPlace_13 rfl ?_
  refine rn_geti (v := nI (nv n 0)) hX dX9_addPlace_14 fl_X9_9 rfl (LX9_s hL) hb0 ?_
  refine r_iload_n hX dX9_addPlace_17 rfl ?_
  refine rn_iast hX dX9_addPlace_18 (LX9_a3 hL) rfl (by omega) (by omega) ?_
  refine r_iload_n hX dX9_addPlace_19 rfl ?_
  refine r_if_eq (tgt := 39) hX dX9_addPlace_20 (by decide) (fun c20 => ?_) (fun c20 => absurd c20 (by decide))
  refine r_aload_n hX dX9_addPlace_39 rfl ?_
  refine r_dup hX dX9_addPlace_40 rfl ?_
  refine rn_geti (v := nI (nv n 0)) hX dX9_addPlace_41 fl_X9_9 rfl (LX9_s hL) (by simp [mI_uI]; exact hb0) ?_
  refine r_iconst (v := nI 1) hX dX9_addPlace_44 (by decide) ?_
  refine rn_iadd hX dX9_addPlace_45 rfl rfl ?_
  refine r_puti hX dX9_addPlace_46 fl_X9_9 rfl rfl (LX9_s hL) ?_
  refine r_return hX rfl dX9_addPlace_49 (by decide) (by decide) ?_
  refine ⟨rfl, mI (uI (uI M (b + 1) (nv n 0) x) b 0 (nI (nv n 0 + 1))), rfl, ?_, fun z h2 h3 => ?_⟩
  · refine TT.place hT hR hk h1 hxy (by omega) ?_ ?_ ?_ (fun p => ?_) (fun z h2 h3 => ?_)
    · simp [mI_uI]
    · simp [mI_uI]
    · simp [mI_uI]
    · simp [mI_uI]
    · rw [uIo h2, uIo h3]
  · rw [uIo h2, uIo h3]
set_option maxHeartbeats 2000000 in
set_option maxRecDepth 20000 in
theorem t_X9_addPlace1 {M : Mm} {b : Nat} {n : Nat → Int32} (hL : LX9 M.1 M.2.1 b) (hT : TT (mI M) b n) (hR : RtOk n) (hk : nv n 0 < 10) (h0 : n 0 = nI (nv n 0)) (h1 : nv n 1 ≤ 5) {x y : Int32} (hxy : NmR x y) : Ct G base YX9_addPlace 2 0 0 [.ref b, .int x, .int (nI 1)] M (rI none M (fun i => TT i b (plN' n 1 y) ∧ ∀ z, z ≠ b → z ≠ b + 1 → i z = mI M z)) := by
  refine Ct.of IX9_addPlace.1 (by simp [Value.category]) (Nat.le_of_ble_eq_true rfl) (fun X hX hN => ?_)
  show J G base X 0 0 M 0 [some (.ref b), some (.int x), some (.int (nI 1))] []
  have hb0 : mI M b 0 = nI (nv n 0) := hT.1.trans h0
  refine r_aload_n hX dX9_addPlace_0 rfl ?_
  refine rn_geti (v := nI (nv n 0)) hX dX9_addPlace_1 fl_X9_9 rfl (LX9_s hL) hb0 ?_
  refine r_bipush (v := nI 10) hX dX9_addPlace_4 (by decide) ?_
  refine rn_icmp_ge (tgt := 49) hX dX9_addPlace_6 (by decide) rfl rfl (by omega) (by omega) (fun c6 => by omega) (fun c6 => ?_)
  refine r_aload_n hX dX9_addPlace_9 rfl ?_
  refine r_getr hX dX9_addPlace_10 fl_X9_21 rfl (LX9_s hL) (LX9_r3 hL) ?_
  refine r_aload_n hX dX9_addPlace_13 rfl ?_
  refine rn_geti (v := nI (nv n 0)) hX dX9_addPlace_14 fl_X9_9 rfl (LX9_s hL) hb0 ?_
  refine r_iload_n hX dX9_addPlace_17 rfl ?_
  refine rn_iast hX dX9_addPlace_18 (LX9_a3 hL) rfl (by omega) (by omega) ?_
  refine r_iload_n hX dX9_addPlace_19 rfl ?_
  refine r_if_eq (tgt := 39) hX dX9_addPlace_20 (by decide) (fun c20 => absurd c20 (by decide)) (fun c20 => ?_)
  refine r_aload_n hX dX9_addPlace_23 rfl ?_
  refine r_dup hX dX9_addPlace_24 rfl ?_
  refine r_geti hX dX9_addPlace_25 fl_X9_15 rfl (LX9_s hL) ?_
  refine r_aload_n hX dX9_addPlace_28 rfl ?_
  refine rn_geti (v := nI (nv n 0)) hX dX9_addPlace_29 fl_X9_9 rfl (LX9_s hL) (by simp [mI_uI]; exact hb0) ?_
  refine r_cN1 (host := RX10) hX dX9_addPlace_32 IX10_bit (by decide +kernel) rfl (t_X10_bit) (by decide) (by decide) (by decide) (by decide) rfl (Nat.le_of_ble_eq_true rfl) ?_
  refine r_ior hX dX9_addPlace_35 ?_
  refine r_puti hX dX9_addPlace_36 fl_X9_15 rfl rfl (LX9_s hL) ?_
  refine r_aload_n hX dX9_addPlace_39 rfl ?_
  refine r_dup hX dX9_addPlace_40 rfl ?_
  refine rn_geti (v := nI (nv n 0)) hX dX9_addPlace_41 fl_X9_9 rfl (LX9_s hL) (by simp [mI_uI]; exact hb0) ?_
  refine r_iconst (v := nI 1) hX dX9_addPlace_44 (by decide) ?_
  refine rn_iadd hX dX9_addPlace_45 rfl rfl ?_
  refine r_puti hX dX9_addPlace_46 fl_X9_9 rfl rfl (LX9_s hL) ?_
  refine r_return hX rfl dX9_addPlace_49 (by decide) (by decide) ?_
  refine ⟨rfl, mI (uI (uI (uI M (b + 1) (nv n 0) x) b 1 (mI (uI M (b + 1) (nv n 0) x) b 1 ||| bitI (nI (nv n 0)))) b 0 (nI (nv n 0 + 1))), rfl, ?_, fun z h2 h3 => ?_⟩
  · refine TT.place hT hR hk h1 hxy (by omega) ?_ ?_ ?_ (fun p => ?_) (fun z h2 h3 => ?_)
    · simp [mI_uI]
    · simp [mI_uI]
    · simp [mI_uI]
    · simp [mI_uI]
    · rw [uIo h2, uIo h2, uIo h3]
  · rw [uIo h2, uIo h2, uIo h3]
set_option maxHeartbeats 2000000 in
set_option maxRecDepth 20000 in
theorem t_X9_addCarrier {M : Mm} {b : Nat} {n : Nat → Int32} (hL : LX9 M.1 M.2.1 b) (hT : TT (mI M) b n) (hR : RtOk n) (hE : EC n) (hk : nv n 1 < 5) (h1 : n 1 = nI (nv n 1)) (h0 : nv n 0 ≤ 10) {x y : Int32} (hxy : NmR x y) : Ct G base YX9_addCarrier 0 0 0 [.ref b, .int x] M (rI none M (fun i => TT i b (caN' n y) ∧ i (b + 3) (nv n 1) = 0 ∧ ∀ z, z ≠ b → z ≠ b + 2 → z ≠ b + 3 → i z = mI M z)) := by
  refine Ct.of IX9_addCarrier.1 (by simp [Value.category]) (Nat.le_of_ble_eq_true rfl) (fun X hX hN => ?_)
  show J G base X 0 0 M 0 [some (.ref b), some (.int x)] []
  have hb2 : mI M b 2 = nI (nv n 1) := hT.2.2.1.trans h1
  refine r_aload_n hX dX9_addCarrier_0 rfl ?_
  refine rn_geti (v := nI (nv n 1)) hX dX9_addCarrier_1 fl_X9_18 rfl (LX9_s hL) hb2 ?_
  refine r_iconst (v := nI 5) hX dX9_addCarrier_4 (by decide) ?_
  refine rn_icmp_ge (tgt := 38) hX dX9_addCarrier_5 (by decide) rfl rfl (by omega) (by omega) (fun c5 => by omega) (fun c5 => ?_)
  refine r_aload_n hX dX9_addCarrier_8 rfl ?_
  refine r_getr hX dX9_addCarrier_9 fl_X9_25 rfl (LX9_s hL) (LX9_r4 hL) ?_
  refine r_aload_n hX dX9_addCarrier_12 rfl ?_
  refine rn_geti (v := nI (nv n 1)) hX dX9_addCarrier_13 fl_X9_18 rfl (LX9_s hL) hb2 ?_
  refine r_iload_n hX dX9_addCarrier_16 rfl ?_
  refine rn_iast hX dX9_addCarrier_17 (LX9_a4 hL) rfl (by omega) (by omega) ?_
  refine r_aload_n hX dX9_addCarrier_18 rfl ?_
  refine r_getr hX dX9_addCarrier_19 fl_X9_28 rfl (LX9_s hL) (LX9_r5 hL) ?_
  refine r_aload_n hX dX9_addCarrier_22 rfl ?_
  refine rn_geti (v := nI (nv n 1)) hX dX9_addCarrier_23 fl_X9_18 rfl (LX9_s hL) (by simp [mI_uI]; exact hb2) ?_
  refine r_iconst (v := nI 0) hX dX9_addCarrier_26 (by decide) ?_
  refine rn_iast hX dX9_addCarrier_27 (LX9_a5 hL) rfl (by omega) (by omega) ?_
  refine r_aload_n hX dX9_addCarrier_28 rfl ?_
  refine r_dup hX dX9_addCarrier_29 rfl ?_
  refine rn_geti (v := nI (nv n 1)) hX dX9_addCarrier_30 fl_X9_18 rfl (LX9_s hL) (by simp [mI_uI]; exact hb2) ?_
  refine r_iconst (v := nI 1) hX dX9_addCarrier_33 (by decide) ?_
  refine rn_iadd hX dX9_addCarrier_34 rfl rfl ?_
  refine r_puti hX dX9_addCarrier_35 fl_X9_18 rfl rfl (LX9_s hL) ?_
  refine r_return hX rfl dX9_addCarrier_38 (by decide) (by decide) ?_
  refine ⟨rfl, mI (uI (uI (uI M (b + 2) (nv n 1) x) (b + 3) (nv n 1) (nI 0)) b 2 (nI (nv n 1 + 1))), rfl, ?_, ?_, fun z h2 h3 h4 => ?_⟩
  · refine TT.carr hT hR hE hk h0 hxy ?_ ?_ ?_ (fun p => ?_) (fun z h2 h3 h4 => ?_)
    · simp [mI_uI]
    · simp [mI_uI]
    · simp [mI_uI]
    · simp [mI_uI]
    · rw [uIo h2, uIo h4, uIo h3]
  · simp [mI_uI]; rfl
  · rw [uIo h2, uIo h4, uIo h3]
set_option maxHeartbeats 2000000 in
set_option maxRecDepth 20000 in
theorem t_X9_daysOfLastCarrier {M : Mm} {b C : Nat} (hL : LX9 M.1 M.2.1 b) (hc : mI M b 2 = nI (C + 1)) (hC : C < 5) : Ct G base YX9_daysOfLastCarrier 0 0 0 [.ref b] M (rE (some (.int (mI M (b + 3) C))) M) := by
  refine Ct.of IX9_daysOfLastCarrier.1 (by simp [Value.category]) (Nat.le_of_ble_eq_true rfl) (fun X hX hN => ?_)
  show J G base X 0 0 M 0 [some (.ref b), none] []
  refine r_aload_n hX dX9_daysOfLastCarrier_0 rfl ?_
  refine rn_geti (v := nI (C + 1)) hX dX9_daysOfLastCarrier_1 fl_X9_18 rfl (LX9_s hL) hc ?_
  refine r_iconst (v := nI 1) hX dX9_daysOfLastCarrier_4 (by decide) ?_
  refine rn_isub hX dX9_daysOfLastCarrier_5 rfl rfl (by omega) ?_
  refine r_istore1 hX dX9_daysOfLastCarrier_6 rfl ?_
  refine r_iload_n hX dX9_daysOfLastCarrier_7 rfl ?_
  refine rn_if_lt (tgt := 16) hX dX9_daysOfLastCarrier_8 (by decide) rfl (by omega) ?_
  refine r_iload_n hX dX9_daysOfLastCarrier_11 rfl ?_
  refine r_iconst (v := nI 5) hX dX9_daysOfLastCarrier_12 (by decide) ?_
  refine rn_icmp_lt (tgt := 20) hX dX9_daysOfLastCarrier_13 (by decide) rfl rfl (by omega) (by omega) (fun c13 => ?_) (fun c13 => by omega)
  refine r_aload_n hX dX9_daysOfLastCarrier_20 rfl ?_
  refine r_getr hX dX9_daysOfLastCarrier_21 fl_X9_28 rfl (LX9_s hL) (LX9_r5 hL) ?_
  refine r_iload_n hX dX9_daysOfLastCarrier_24 rfl ?_
  refine rn_iald hX dX9_daysOfLastCarrier_25 (LX9_a5 hL) rfl (by omega) (by omega) ?_
  refine r_ireturn hX rfl rfl dX9_daysOfLastCarrier_26 (by decide) (by decide) ?_
  exact ⟨rfl, rfl⟩
set_option maxHeartbeats 2000000 in
set_option maxRecDepth 20000 in
theorem t_X9_addRouteDays {M : Mm} {b C : Nat} (hL : LX9 M.1 M.2.1 b) (hc : mI M b 2 = nI (C + 1)) (hC : C < 5) {x : Int32} : Ct G base YX9_addRouteDays 0 0 0 [.ref b, .int x] M (rE none (uI M (b + 3) C (mI M (b + 3) C ||| x))) := by
  refine Ct.of IX9_addRouteDays.1 (by simp [Value.category]) (Nat.le_of_ble_eq_true rfl) (fun X hX hN => ?_)
  show J G base X 0 0 M 0 [some (.ref b), some (.int x), none] []
  refine r_aload_n hX dX9_addRouteDays_0 rfl ?_
  refine rn_geti (v := nI (C + 1)) hX dX9_addRouteDays_1 fl_X9_18 rfl (LX9_s hL) hc ?_
  refine r_iconst (v := nI 1) hX dX9_addRouteDays_4 (by decide) ?_
  refine rn_isub hX dX9_addRouteDays_5 rfl rfl (by omega) ?_
  refine r_istore2 hX dX9_addRouteDays_6 rfl ?_
  refine r_iload_n hX dX9_addRouteDays_7 rfl ?_
  refine rn_if_lt (tgt := 26) hX dX9_addRouteDays_8 (by decide) rfl (by omega) ?_
  refine r_iload_n hX dX9_addRouteDays_11 rfl ?_
  refine r_iconst (v := nI 5) hX dX9_addRouteDays_12 (by decide) ?_
  refine rn_icmp_ge (tgt := 26) hX dX9_addRouteDays_13 (by decide) rfl rfl (by omega) (by omega) (fun c13 => by omega) (fun c13 => ?_)
  refine r_aload_n hX dX9_addRouteDays_16 rfl ?_
  refine r_getr hX dX9_addRouteDays_17 fl_X9_28 rfl (LX9_s hL) (LX9_r5 hL) ?_
  refine r_iload_n hX dX9_addRouteDays_20 rfl ?_
  refine r_dup2 hX dX9_addRouteDays_21 rfl rfl ?_
  refine rn_iald hX dX9_addRouteDays_22 (LX9_a5 hL) rfl (by omega) (by omega) ?_
  refine r_iload_n hX dX9_addRouteDays_23 rfl ?_
  refine r_ior hX dX9_addRouteDays_24 ?_
  refine rn_iast hX dX9_addRouteDays_25 (LX9_a5 hL) rfl (by omega) (by omega) ?_
  refine r_return hX rfl dX9_addRouteDays_26 (by decide) (by decide) ?_
  exact ⟨rfl, rfl⟩
