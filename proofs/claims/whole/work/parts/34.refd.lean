variable {G : GG} {base : Nat}
/-- two truths -/
theorem tB {P : Prop} [Decidable P] {b : Bool} (h : P ↔ b = true) : (if P then (1 : Int32) else 0) = if b = true then 1 else 0 := by
  by_cases hp : P
  · rw [if_pos hp, if_pos (h.mp hp)]
  · rw [if_neg hp, if_neg (fun z => hp (h.mpr z))]
/-- isTown, of a number -/
theorem townI {n : Nat → Int32} (h0 : Rn n 0 10) {p : Nat} (hp : p < nv n 0) (h : ¬ townP n (nI p)) : town n p = false := by
  cases e : town n p
  · rfl
  · exact absurd ((town_iff h0 hp).mpr e) h
theorem townI' {n : Nat → Int32} (h0 : Rn n 0 10) {p : Nat} (hp : p < nv n 0) (h : townP n (nI p)) : town n p = true := (town_iff h0 hp).mp h
/-- the row of sacks behind the crossings below p -/
def swR (n : Nat → Int32) (h : Nat) (r0 : Nat → Int32) (p : Nat) : Nat → Int32 := fun c => if plQ n h c < p ∧ town n (plQ n h c) = false then r0 (nxG (grpB n h (plQ n h c)) c) else r0 c
theorem swR_nx {n : Nat → Int32} (hT : TbOk n) {h : Nat} {r0 : Nat → Int32} {c : Nat} : swR n h r0 (nv n 0) c = r0 (nxP n h c) := by
  unfold swR nxP
  rcases plQ_lt hT.2.2 hT.2.1.2 (h := h) (c := c) with e | ⟨e1, e2, -⟩
  · have h0 := hT.1.2
    rw [e, if_neg (fun z => absurd z.1 (by omega)), if_neg (fun z => absurd z.1 (by omega))]
  · by_cases z : town n (plQ n h c) = false
    · rw [if_pos ⟨e1, z⟩, if_pos ⟨e2, z⟩]
    · rw [if_neg (fun q => z q.2), if_neg (fun q => z q.2)]
theorem swR_s {n : Nat → Int32} (hT : TbOk n) {h : Nat} {r0 r : Nat → Int32} {p : Nat} (hp : p < 10) (ht : town n p = false) (hr : ∀ c, c < 5 → r c = swR n h r0 p c) {c : Nat} (hc : c < 5) : (swF (grpB n h p) r 5).2.2 c = swR n h r0 (p + 1) c := by
  have hx : nxG (grpB n h p) c < 5 := by
    by_cases hg : grpB n h p c = true
    · exact (nxG_in hc hg).1
    · rw [nxG_out (by simpa using hg)]; exact hc
  rw [swF_rot hc, hr _ hx]
  have := nxPp (n := n) (h := h) (p := p) (c := c) hc hp (by rcases plQ_lt hT.2.2 hT.2.1.2 (h := h) (c := c) with e | ⟨e1, e2, -⟩; exact Or.inl e; exact Or.inr e2) r0
  rw [if_pos ht] at this
  exact this
theorem swR_t {n : Nat → Int32} {h : Nat} {r0 : Nat → Int32} {p : Nat} (ht : ¬ town n p = false) {c : Nat} : swR n h r0 p c = swR n h r0 (p + 1) c := by
  unfold swR
  by_cases z : plQ n h c = p
  · rw [z, if_neg (fun q => ht q.2), if_neg (fun q => ht q.2)]
  · by_cases z3 : plQ n h c < p
    · by_cases z2 : town n (plQ n h c) = false
      · rw [if_pos ⟨z3, z2⟩, if_pos ⟨by omega, z2⟩]
      · rw [if_neg (fun q => z2 q.2), if_neg (fun q => z2 q.2)]
    · rw [if_neg (fun q => z3 q.1), if_neg (fun q => absurd q.1 (by omega))]
/-- the last of a group so far, as it stands in a local -/
def lsI (x : Int32 × Nat × (Nat → Int32)) : Int32 := if x.1 = -1 then -1 else nI x.2.1
set_option maxHeartbeats 2000000 in
set_option maxRecDepth 20000 in
theorem t_X11_swaps {M : Mm} {a : Nat} {n : Nat → Int32} (hL : LX11 M.1 M.2.1 a) (hn : mI M (a + 1) = n) (hT : TbOk n) {h r : Nat} (hh : h < 2147483648) (hs : mS M r = some (12, 5)) (hra : r ≠ a + 1) : Ct G base YX11_swaps 4 0 0 [.ref a, .int (nI h), .ref r] M (rI none M (fun i => (∀ c, c < 5 → i r c = mI M r (nxP n h c)) ∧ ∀ x, x ≠ r → i x = mI M x)) := by
  refine Ct.of IX11_swaps.1 (by simp [Value.category]) (Nat.le_of_ble_eq_true rfl) (fun X hX hN => ?_)
  show J G base X 0 0 M 0 [some (.ref a), some (.int (nI h)), some (.ref r), none, none, none, none, none] []
  have h0 := hT.1
  have h1 := hT.2.1
  have hr := hT.2.2
  have hp10 := h0.2
  have hm5 := h1.2
  have hpr : ∀ i : Nat → Nat → Int32, (∀ x, x ≠ r → i x = mI M x) → mI (wI M i) (a + 1) = n := fun i hi => (hi _ (Ne.symm hra)).trans hn
  refine r_iconst (v := nI 0) hX dX11_swaps_0 (by decide) ?_
  refine r_istore3 hX dX11_swaps_1 rfl ?_
  show J G base X 0 0 (wI M (mI M)) 2 _ []
  refine loop_us (σ := Nat → Nat → Int32) (P := fun p i => ((∀ c, c < 5 → i r c = swR n h (mI M r) p c) ∧ ∀ x, x ≠ r → i x = mI M x) → J G base X 0 0 (wI M i) 2 [some (.ref a), some (.int (nI h)), some (.ref r), some (.int (nI p)), none, none, none, none] []) (nv n 0) (fun p i hp ih hi => ?_) 0 (mI M) (Nat.zero_le _) ⟨fun c hc => by unfold swR; rw [if_neg (fun z => absurd z.1 (by omega))], fun _ _ => rfl⟩
  have hni := hpr i hi.2
  refine r_iload_n hX dX11_swaps_2 rfl ?_
  refine r_aload_n hX dX11_swaps_3 rfl ?_
  refine r_cV0 hX dX11_swaps_4 IX11_places ml_X11_75 rfl (LX11_s hL) rfl (t_X11_places (M := wI M i) hL hni h0) (by decide) (by decide) (by decide) (by decide) rfl (Nat.le_of_ble_eq_true rfl) ?_
  refine rn_icmp_ge (tgt := 99) hX dX11_swaps_7 (by decide) rfl rfl (by omega) (by omega) (fun c7 => ?_) (fun c7 => ?_)
  · refine r_return hX rfl dX11_swaps_99 (by decide) (by decide) ?_
    obtain rfl : p = nv n 0 := by omega
    exact ⟨rfl, i, rfl, fun c hc => by rw [hi.1 c hc, swR_nx hT], hi.2⟩
  · refine r_iconst (v := (-1)) hX dX11_swaps_10 (by decide) ?_
    refine r_istore4 hX dX11_swaps_11 rfl ?_
    refine r_iconst (v := (-1)) hX dX11_swaps_13 (by decide) ?_
    refine r_istore5 hX dX11_swaps_14 rfl ?_
    refine r_iconst (v := nI 0) hX dX11_swaps_16 (by decide) ?_
    refine r_istore6 hX dX11_swaps_17 rfl ?_
    by_cases ht : town n p = false
    · refine loop_us (σ := Nat → Nat → Int32) (P := fun c i2 => (i2 r = (swF (grpB n h p) (i r) c).2.2 ∧ ∀ x, x ≠ r → i2 x = mI M x) → J G base X 0 0 (wI M i2) 19 [some (.ref a), some (.int (nI h)), some (.ref r), some (.int (nI p)), some (.int (swF (grpB n h p) (i r) c).1), some (.int (lsI (swF (grpB n h p) (i r) c))), some (.int (nI c)), none] []) (nv n 1) (fun c i2 hc ih2 hi2 => ?_) 0 i (Nat.zero_le _) ⟨rfl, hi.2⟩
      have hn2 := hpr i2 hi2.2
      refine r_iload hX dX11_swaps_19 rfl ?_
      refine r_aload_n hX dX11_swaps_21 rfl ?_
      refine r_cV0 hX dX11_swaps_22 IX11_carriers ml_X11_151 rfl (LX11_s hL) rfl (t_X11_carriers (M := wI M i2) hL hn2 h1) (by decide) (by decide) (by decide) (by decide) rfl (Nat.le_of_ble_eq_true rfl) ?_
      refine rn_icmp_ge (tgt := 93) hX dX11_swaps_25 (by decide) rfl rfl (by omega) (by omega) (fun c25 => ?_) (fun c25 => ?_)
      · refine rn_iinc3 hX dX11_swaps_93 rfl rfl ?_
        refine r_goto (tgt := 2) hX dX11_swaps_96 (by decide) ?_
        obtain rfl : c = nv n 1 := by omega
        refine J.junk (ih (by omega) i2 ⟨fun c hc => ?_, hi2.2⟩) (by simp [lcSub])
        rw [hi2.1, ← swF_more (g := grpB n h p) (r := i r) (k := nv n 1) (m := 5) hm5 (fun c z1 z2 => by simp only [grpB, plQ_out z1]; exact decide_eq_false (by omega))]
        exact swR_s hT (by omega) ht hi.1 hc
      · refine r_aload_n hX dX11_swaps_28 rfl ?_
        refine r_iload_n hX dX11_swaps_29 rfl ?_
        refine r_cV1 hX dX11_swaps_30 IX11_isTown ml_X11_166 rfl (LX11_s hL) rfl (t_X11_isTown (M := wI M i2) hL hn2 h0) (by decide) (by decide) (by decide) (by decide) rfl (Nat.le_of_ble_eq_true rfl) ?_
        refine rb_if_ne (tgt := 93) hX dX11_swaps_33 (by decide) rfl (fun c33 => absurd ht (by rw [townI' h0 c7 c33]; decide)) (fun c33 => ?_)
        refine r_aload_n hX dX11_swaps_36 rfl ?_
        refine r_iload hX dX11_swaps_37 rfl ?_
        refine r_iload_n hX dX11_swaps_39 rfl ?_
        refine r_cV2 hX dX11_swaps_40 IX11_placeIn ml_X11_228 rfl (LX11_s hL) rfl (t_X11_placeIn (M := wI M i2) hL hn2 hr (by omega) (by omega)) (by decide) (by decide) (by decide) (by decide) rfl (Nat.le_of_ble_eq_true rfl) ?_
        refine r_iload_n hX dX11_swaps_43 rfl ?_
        refine r_icmp_eq (tgt := 50) hX dX11_swaps_44 (by decide) (fun c44 => ?_) (fun c44 => ?_)
        · have hg : grpB n h p c = true := (at_iff hT c25 (by omega)).mp c44
          rcases swF_first (g := grpB n h p) (r := i r) c (by omega) with hf | ⟨j, hj, hf⟩
          · have hls : lsI (swF (grpB n h p) (i r) c) = -1 := by rw [lsI, if_pos hf]
            refine r_iload hX dX11_swaps_50 rfl ?_
            refine r_iconst (v := (-1)) hX dX11_swaps_52 (by decide) ?_
            refine r_icmp_ne (tgt := 63) hX dX11_swaps_53 (by decide) (fun c53 => absurd hf c53) (fun c53 => ?_)
            refine r_iload hX dX11_swaps_56 rfl ?_
            refine r_istore4 hX dX11_swaps_58 rfl ?_
            refine r_goto (tgt := 83) hX dX11_swaps_60 (by decide) ?_
            refine r_iload hX dX11_swaps_83 rfl ?_
            refine r_istore5 hX dX11_swaps_85 rfl ?_
            refine rn_iinc6 hX dX11_swaps_87 rfl rfl ?_
            refine r_goto (tgt := 19) hX dX11_swaps_90 (by decide) ?_
            have h9 := ih2 (by omega) i2
            simp only [swF, if_pos hg, if_pos hf] at h9
            refine J.junk (h9 hi2) ?_
            simp [lcSub, lsI, nI_ne_m1 (show c < 2147483648 by omega)]
          · have hne : ¬ (swF (grpB n h p) (i r) c).1 = -1 := by rw [hf]; exact nI_ne_m1 (by omega)
            have hls : lsI (swF (grpB n h p) (i r) c) = nI (swF (grpB n h p) (i r) c).2.1 := by rw [lsI, if_neg hne]
            have hlt := swF_last (g := grpB n h p) (r := i r) c hne
            rw [hls]
            refine r_iload hX dX11_swaps_50 rfl ?_
            refine r_iconst (v := (-1)) hX dX11_swaps_52 (by decide) ?_
            refine r_icmp_ne (tgt := 63) hX dX11_swaps_53 (by decide) (fun c53 => ?_) (fun c53 => absurd (by simpa using c53) hne)
            refine r_aload_n hX dX11_swaps_63 rfl ?_
            refine r_iload hX dX11_swaps_64 rfl ?_
            refine rn_iald hX dX11_swaps_66 hs rfl (by omega) (by omega) ?_
            refine r_istore7 hX dX11_swaps_67 rfl ?_
            refine r_aload_n hX dX11_swaps_69 rfl ?_
            refine r_iload hX dX11_swaps_70 rfl ?_
            refine r_aload_n hX dX11_swaps_72 rfl ?_
            refine r_iload hX dX11_swaps_73 rfl ?_
            refine rn_iald hX dX11_swaps_75 hs rfl (by omega) (by omega) ?_
            refine rn_iast hX dX11_swaps_76 hs rfl (by omega) (by omega) ?_
            refine r_aload_n hX dX11_swaps_77 rfl ?_
            refine r_iload hX dX11_swaps_78 rfl ?_
            refine r_iload hX dX11_swaps_80 rfl ?_
            refine rn_iast hX dX11_swaps_82 hs rfl (by omega) (by omega) ?_
            refine J.gen (M0 := M) rfl (fun i3 h3 => ?_)
            refine r_iload hX dX11_swaps_83 rfl ?_
            refine r_istore5 hX dX11_swaps_85 rfl ?_
            refine rn_iinc6 hX dX11_swaps_87 rfl rfl ?_
            refine r_goto (tgt := 19) hX dX11_swaps_90 (by decide) ?_
            have h9 := ih2 (by omega) i3
            simp only [swF, if_pos hg, if_neg hne] at h9
            refine J.junk (h9 ⟨?_, fun x hx => ?_⟩) ?_
            · have hr2 : mI (wI M i2) r = (swF (grpB n h p) (i r) c).2.2 := hi2.1
              funext q
              rw [h3]
              rw [uIA (uIA hr2)]
              simp only [mI_uI, if_true, hr2]
            · rw [← hi2.2 x hx]
              funext j
              rw [h3]
              simp [mI_uI, hx, mI_wI]
            · simp [lcSub, lsI, hne]
        · refine r_goto (tgt := 87) hX dX11_swaps_47 (by decide) ?_
          refine rn_iinc6 hX dX11_swaps_87 rfl rfl ?_
          refine r_goto (tgt := 19) hX dX11_swaps_90 (by decide) ?_
          have hg : ¬ grpB n h p c = true := fun z => c44 ((at_iff hT c25 (by omega)).mpr z)
          have h9 := ih2 (by omega) i2
          simp only [swF, if_neg hg] at h9
          exact h9 hi2
    · have hi' : ∀ c, c < 5 → i r c = swR n h (mI M r) (p + 1) c := fun c hc => by rw [hi.1 c hc]; exact swR_t ht
      have htt : townP n (nI p) := (town_iff h0 c7).mpr (by simpa using ht)
      refine r_iload hX dX11_swaps_19 rfl ?_
      refine r_aload_n hX dX11_swaps_21 rfl ?_
      refine r_cV0 hX dX11_swaps_22 IX11_carriers ml_X11_151 rfl (LX11_s hL) rfl (t_X11_carriers (M := wI M i) hL hni h1) (by decide) (by decide) (by decide) (by decide) rfl (Nat.le_of_ble_eq_true rfl) ?_
      refine rn_icmp_ge (tgt := 93) hX dX11_swaps_25 (by decide) rfl rfl (by omega) (by omega) (fun c25 => ?_) (fun c25 => ?_)
      · refine rn_iinc3 hX dX11_swaps_93 rfl rfl ?_
        refine r_goto (tgt := 2) hX dX11_swaps_96 (by decide) ?_
        exact J.junk (ih (by omega) i ⟨hi', hi.2⟩) (by simp [lcSub])
      · refine r_aload_n hX dX11_swaps_28 rfl ?_
        refine r_iload_n hX dX11_swaps_29 rfl ?_
        refine r_cV1 hX dX11_swaps_30 IX11_isTown ml_X11_166 rfl (LX11_s hL) rfl (t_X11_isTown (M := wI M i) hL hni h0) (by decide) (by decide) (by decide) (by decide) rfl (Nat.le_of_ble_eq_true rfl) ?_
        refine rb_if_ne (tgt := 93) hX dX11_swaps_33 (by decide) rfl (fun c33 => ?_) (fun c33 => absurd htt c33)
        refine rn_iinc3 hX dX11_swaps_93 rfl rfl ?_
        refine r_goto (tgt := 2) hX dX11_swaps_96 (by decide) ?_
        exact J.junk (ih (by omega) i ⟨hi', hi.2⟩) (by simp [lcSub])
set_option maxHeartbeats 2000000 in
set_option maxRecDepth 20000 in
theorem t_X11_takesSacks {M : Mm} {a : Nat} {n : Nat → Int32} (hL : LX11 M.1 M.2.1 a) (hn : mI M (a + 1) = n) : Ct G base YX11_takesSacks 1 0 0 [.ref a] M (rI none M (fun i => (∀ c, c < 5 → i (a + 8) c = n (33 + c)) ∧ ∀ x, x ≠ a + 8 → i x = mI M x)) := by
  refine Ct.of IX11_takesSacks.1 (by simp [Value.category]) (Nat.le_of_ble_eq_true rfl) (fun X hX hN => ?_)
  show J G base X 0 0 M 0 [some (.ref a), none] []
  refine r_iconst (v := nI 0) hX dX11_takesSacks_0 (by decide) ?_
  refine r_istore1 hX dX11_takesSacks_1 rfl ?_
  show J G base X 0 0 (wI M (mI M)) 2 _ []
  refine loop_us (σ := Nat → Nat → Int32) (P := fun j i => ((∀ c, c < j → i (a + 8) c = n (33 + c)) ∧ ∀ x, x ≠ a + 8 → i x = mI M x) → J G base X 0 0 (wI M i) 2 [some (.ref a), some (.int (nI j))] []) 5 (fun j i hj ih hi => ?_) 0 (mI M) (Nat.zero_le _) ⟨fun c hc => by omega, fun _ _ => rfl⟩
  have hni : mI (wI M i) (a + 1) = n := (hi.2 _ (by omega)).trans hn
  refine r_iload_n hX dX11_takesSacks_2 rfl ?_
  refine r_iconst (v := nI 5) hX dX11_takesSacks_3 (by decide) ?_
  refine rn_icmp_ge (tgt := 28) hX dX11_takesSacks_4 (by decide) rfl rfl (by omega) (by omega) (fun c4 => ?_) (fun c4 => ?_)
  · refine r_return hX rfl dX11_takesSacks_28 (by decide) (by decide) ?_
    obtain rfl : j = 5 := by omega
    exact ⟨rfl, i, rfl, hi.1, hi.2⟩
  · refine r_aload_n hX dX11_takesSacks_7 rfl ?_
    refine r_getr hX dX11_takesSacks_8 fl_X11_39 rfl (LX11_s hL) (LX11_r17 hL) ?_
    refine r_iload_n hX dX11_takesSacks_11 rfl ?_
    refine r_aload_n hX dX11_takesSacks_12 rfl ?_
    refine r_getr hX dX11_takesSacks_13 fl_X11_13 rfl (LX11_s hL) (LX11_r1 hL) ?_
    refine r_bipush (v := nI 33) hX dX11_takesSacks_16 (by decide) ?_
    refine r_iload_n hX dX11_takesSacks_18 rfl ?_
    refine rn_iadd hX dX11_takesSacks_19 rfl rfl ?_
    refine rn_iald hX dX11_takesSacks_20 (LX11_a1 hL) rfl (by omega) (by omega) ?_
    rw [hni]
    refine rn_iast hX dX11_takesSacks_21 (LX11_a17 hL) rfl (by omega) (by omega) ?_
    refine rn_iinc1 hX dX11_takesSacks_22 rfl rfl ?_
    refine r_goto (tgt := 2) hX dX11_takesSacks_25 (by decide) ?_
    refine ih (by omega) _ ⟨fun c hc => ?_, fun x hx => ?_⟩
    · show mI (uI (wI M i) (a + 8) j (n (33 + j))) (a + 8) c = _
      simp only [mI_uI, if_true]
      by_cases h : c = j
      · rw [if_pos h, h]
      · rw [if_neg h]; exact hi.1 c (by omega)
    · rw [← hi.2 x hx]
      exact uIo hx
