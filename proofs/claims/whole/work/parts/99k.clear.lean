variable {G : GG} {base : Nat}
theorem TT.empty {i : Nat → Nat → Int32} {b : Nat} {m : Nat → Int32} (m0 : m 0 = 0) (m1 : m 1 = 0) (h0 : i b 0 = 0) (h1 : i b 1 = 0) (h2 : i b 2 = 0) (h4 : ∀ k, k < 1680 → i (b + 4) k = 0) (h5 : ∀ k, k < 168 → i (b + 5) k = 0) : TT i b m := by
  have e0 : nv m 0 = 0 := nv_of (x := 0) m0 (by decide)
  have e1 : nv m 1 = 0 := nv_of (x := 0) m1 (by decide)
  have eg : ∀ h p c, gstN m h p c = false := fun h p c => decide_eq_false (fun z => by omega)
  refine ⟨h0.trans m0.symm, ?_, h2.trans m1.symm, fun p hp => by omega, fun c hc => by omega, fun h hh p hp => ?_, fun h hh => ?_⟩
  · rw [h1]
    exact ((setB_0 (by omega)).mpr (fun p hp => decide_eq_false (fun z => by omega))).symm
  · rw [h4 _ (by omega)]
    exact ((setB_0 (by omega)).mpr (fun c hc => eg h p c)).symm
  · rw [h5 _ hh]
    refine ((setB_0 (by omega)).mpr (fun p hp => ?_)).symm
    cases hz : anyB (gstN m h p) 5 with
    | false => rfl
    | true =>
      obtain ⟨j, hj, z⟩ := anyB_iff.mp hz
      rw [eg] at z
      cases z
set_option maxHeartbeats 2000000 in
set_option maxRecDepth 20000 in
theorem t_X9_clear {M : Mm} {b : Nat} (hL : LX9 M.1 M.2.1 b) : Ct G base YX9_clear 0 0 0 [.ref b] M (rI none M (fun i => (∀ m, m 0 = 0 → m 1 = 0 → TT i b m) ∧ ∀ z, z ≠ b → z ≠ b + 4 → z ≠ b + 5 → i z = mI M z)) := by
  refine Ct.of IX9_clear.1 (by simp [Value.category]) (Nat.le_of_ble_eq_true rfl) (fun X hX hN => ?_)
  show J G base X 0 0 M 0 [some (.ref b), none] []
  refine r_aload_n hX dX9_clear_0 rfl ?_
  refine r_iconst (v := nI 0) hX dX9_clear_1 (by decide) ?_
  refine r_puti hX dX9_clear_2 fl_X9_9 rfl rfl (LX9_s hL) ?_
  refine r_aload_n hX dX9_clear_5 rfl ?_
  refine r_iconst (v := nI 0) hX dX9_clear_6 (by decide) ?_
  refine r_puti hX dX9_clear_7 fl_X9_15 rfl rfl (LX9_s hL) ?_
  refine r_aload_n hX dX9_clear_10 rfl ?_
  refine r_iconst (v := nI 0) hX dX9_clear_11 (by decide) ?_
  refine r_puti hX dX9_clear_12 fl_X9_18 rfl rfl (LX9_s hL) ?_
  refine r_iconst (v := nI 0) hX dX9_clear_15 (by decide) ?_
  refine r_istore1 hX dX9_clear_16 rfl ?_
  show J G base X 0 0 (wI M (mI (uI (uI (uI M b 0 (nI 0)) b 1 (nI 0)) b 2 (nI 0)))) 17 _ []
  refine loop_us (σ := Nat → Nat → Int32) (P := fun j i => ((∀ k, k < j → i (b + 4) k = nI 0) ∧ ∀ z, z ≠ b + 4 → i z = mI (uI (uI (uI M b 0 (nI 0)) b 1 (nI 0)) b 2 (nI 0)) z) → J G base X 0 0 (wI M i) 17 [some (.ref b), some (.int (nI j))] []) 1680 (fun j i hj ih hi => ?_) 0 (mI (uI (uI (uI M b 0 (nI 0)) b 1 (nI 0)) b 2 (nI 0))) (Nat.zero_le _) ⟨fun k hk => absurd hk (Nat.not_lt_zero _), fun _ _ => rfl⟩
  refine r_iload_n hX dX9_clear_17 rfl ?_
  refine r_aload_n hX dX9_clear_18 rfl ?_
  refine r_getr hX dX9_clear_19 fl_X9_31 rfl (LX9_s hL) (LX9_r6 hL) ?_
  refine r_alen hX dX9_clear_22 (LX9_a6 hL) ?_
  refine rn_icmp_ge (tgt := 39) hX dX9_clear_23 (by decide) rfl rfl (by omega) (by omega) (fun c23 => ?_) (fun c23 => ?_)
  · refine r_iconst (v := nI 0) hX dX9_clear_39 (by decide) ?_
    refine r_istore1 hX dX9_clear_40 rfl ?_
    show J G base X 0 0 (wI M i) 41 _ []
    have hk1 : ∀ k, k < 1680 → i (b + 4) k = nI 0 := fun k hk => hi.1 k (by omega)
    refine loop_us (σ := Nat → Nat → Int32) (P := fun j i => ((∀ k, k < j → i (b + 5) k = nI 0) ∧ (∀ k, k < 1680 → i (b + 4) k = nI 0) ∧ ∀ z, z ≠ b + 4 → z ≠ b + 5 → i z = mI (uI (uI (uI M b 0 (nI 0)) b 1 (nI 0)) b 2 (nI 0)) z) → J G base X 0 0 (wI M i) 41 [some (.ref b), some (.int (nI j))] []) 168 (fun j i hj ih hi => ?_) 0 i (Nat.zero_le _) ⟨fun k hk => absurd hk (Nat.not_lt_zero _), hk1, fun z h4 h5 => hi.2 z h4⟩
    refine r_iload_n hX dX9_clear_41 rfl ?_
    refine r_sipush (v := nI 168) hX dX9_clear_42 (by decide) ?_
    refine rn_icmp_ge (tgt := 61) hX dX9_clear_45 (by decide) rfl rfl (by omega) (by omega) (fun c45 => ?_) (fun c45 => ?_)
    · refine r_return hX rfl dX9_clear_61 (by decide) (by decide) ?_
      have hk2 : ∀ k, k < 168 → i (b + 5) k = nI 0 := fun k hk => hi.1 k (by omega)
      have hb : ∀ k, i b k = mI (uI (uI (uI M b 0 (nI 0)) b 1 (nI 0)) b 2 (nI 0)) b k := fun k => congrFun (hi.2.2 b (by omega) (by omega)) k
      refine ⟨rfl, i, rfl, fun m m0 m1 => TT.empty m0 m1 ((hb 0).trans ?_) ((hb 1).trans ?_) ((hb 2).trans ?_) hi.2.1 hk2, fun z z1 z2 z3 => ?_⟩
      · simp [mI_uI]; rfl
      · simp [mI_uI]; rfl
      · simp [mI_uI]; rfl
      · rw [hi.2.2 z z2 z3, uIo z1, uIo z1, uIo z1]
    · refine r_aload_n hX dX9_clear_48 rfl ?_
      refine r_getr hX dX9_clear_49 fl_X9_34 rfl (LX9_s hL) (LX9_r7 hL) ?_
      refine r_iload_n hX dX9_clear_52 rfl ?_
      refine r_iconst (v := nI 0) hX dX9_clear_53 (by decide) ?_
      refine rn_iast hX dX9_clear_54 (LX9_a7 hL) rfl (by omega) (by omega) ?_
      refine rn_iinc1 hX dX9_clear_55 rfl rfl ?_
      refine r_goto (tgt := 41) hX dX9_clear_58 (by decide) ?_
      refine ih (by omega) _ ⟨fun k hk => ?_, fun k hk => (congrFun (uIo (by omega)) k).trans (hi.2.1 k hk), fun z h4 h5 => (uIo h5).trans (hi.2.2 z h4 h5)⟩
      show mI (uI _ (b + 5) j (nI 0)) (b + 5) k = _
      rw [mI_uI, if_pos rfl]
      split
      · rfl
      · exact hi.1 k (by omega)
  · refine r_aload_n hX dX9_clear_26 rfl ?_
    refine r_getr hX dX9_clear_27 fl_X9_31 rfl (LX9_s hL) (LX9_r6 hL) ?_
    refine r_iload_n hX dX9_clear_30 rfl ?_
    refine r_iconst (v := nI 0) hX dX9_clear_31 (by decide) ?_
    refine rn_iast hX dX9_clear_32 (LX9_a6 hL) rfl (by omega) (by omega) ?_
    refine rn_iinc1 hX dX9_clear_33 rfl rfl ?_
    refine r_goto (tgt := 17) hX dX9_clear_36 (by decide) ?_
    refine ih (by omega) _ ⟨fun k hk => ?_, fun z h4 => (uIo h4).trans (hi.2 z h4)⟩
    show mI (uI _ (b + 4) j (nI 0)) (b + 4) k = _
    rw [mI_uI, if_pos rfl]
    split
    · rfl
    · exact hi.1 k (by omega)
theorem RS.empty {i : Nat → Nat → Int32} {a : Nat} (h0 : i a 0 = 0) (h1 : i a 1 = nI 8) (h2 : i a 2 = 0) (h3 : i a 3 = 0) (h5 : i (a + 2) 0 = 0) (h6 : i (a + 13) 0 = 0) (h7 : i (a + 13) 1 = 0) (h8 : i (a + 15) 0 = 0) : RS i a row0 := by
  have z : ∀ q, q ≠ 5 → ¬ (33 ≤ q ∧ q < 38) → row0 q = nI 0 := fun q g1 g2 => row0_z g1 g2
  have zr : ∀ q x, q ≠ 5 → ¬ (33 ≤ q ∧ q < 38) → x < 2147483648 → Rn row0 q x := fun q x g1 g2 hx => Rn.mk (x := 0) (z q g1 g2) (Nat.zero_le _) hx
  have zn : ∀ q, q ≠ 5 → ¬ (33 ≤ q ∧ q < 38) → nv row0 q = 0 := fun q g1 g2 => nv_of (z q g1 g2) (by decide)
  refine ⟨⟨h0.trans (z 6 (by omega) (by omega)).symm, h1.trans rfl, h2.trans (z 7 (by omega) (by omega)).symm, fun c hc => ?_⟩, Or.inr ⟨z 0 (by omega) (by omega), z 1 (by omega) (by omega), z 2 (by omega) (by omega)⟩, ⟨h5.trans (z 2 (by omega) (by omega)).symm, zr 2 30 (by omega) (by omega) (by omega), fun l hl => by rw [zn 2 (by omega) (by omega)] at hl; omega⟩, ⟨h6.trans (z 4 (by omega) (by omega)).symm, zr 4 60 (by omega) (by omega) (by omega), 0, by omega, h7, fun g hg => by rw [zn 4 (by omega) (by omega)] at hg; omega⟩, h8.trans (z 3 (by omega) (by omega)).symm, zr 3 30 (by omega) (by omega) (by omega), fun j hj => by rw [zn 3 (by omega) (by omega)] at hj; omega⟩
  rw [h3, z (38 + c) (by omega) (by omega)]
  rw [decide_eq_false (by decide)]
  exact (show ∀ c, c < 5 → bt 0 c = false by decide) c hc
set_option maxHeartbeats 2000000 in
set_option maxRecDepth 20000 in
theorem t_X8_clear {M : Mm} {b : Nat} (hL : LX8 M.1 M.2.1 b) : Ct G base YX8_clear 2 0 0 [.ref b] M (rI none M (fun i => RS i b row0 ∧ (∀ c, c < 5 → i (b + 1) c = row0 (33 + c)) ∧ ∀ z, z ≠ b → z ≠ b + 1 → z ≠ b + 2 → z ≠ b + 13 → z ≠ b + 15 → i z = mI M z)) := by
  refine Ct.of IX8_clear.1 (by simp [Value.category]) (Nat.le_of_ble_eq_true rfl) (fun X hX hN => ?_)
  show J G base X 0 0 M 0 [some (.ref b), none] []
  refine r_aload_n hX dX8_clear_0 rfl ?_
  refine r_iconst (v := nI 0) hX dX8_clear_1 (by decide) ?_
  refine r_puti hX dX8_clear_2 fl_X8_9 rfl rfl (LX8_s hL) ?_
  refine r_aload_n hX dX8_clear_5 rfl ?_
  refine r_bipush (v := nI 8) hX dX8_clear_6 (by decide) ?_
  refine r_puti hX dX8_clear_8 fl_X8_15 rfl rfl (LX8_s hL) ?_
  refine r_aload_n hX dX8_clear_11 rfl ?_
  refine r_iconst (v := nI 0) hX dX8_clear_12 (by decide) ?_
  refine r_puti hX dX8_clear_13 fl_X8_18 rfl rfl (LX8_s hL) ?_
  refine r_aload_n hX dX8_clear_16 rfl ?_
  refine r_iconst (v := nI 0) hX dX8_clear_17 (by decide) ?_
  refine r_puti hX dX8_clear_18 fl_X8_21 rfl rfl (LX8_s hL) ?_
  refine r_iconst (v := nI 0) hX dX8_clear_21 (by decide) ?_
  refine r_istore1 hX dX8_clear_22 rfl ?_
  show J G base X 0 0 (wI M (mI (uI (uI (uI (uI M b 0 (nI 0)) b 1 (nI 8)) b 2 (nI 0)) b 3 (nI 0)))) 23 _ []
  refine loop_us (σ := Nat → Nat → Int32) (P := fun j i => ((∀ k, k < j → i (b + 1) k = nI k) ∧ ∀ z, z ≠ b + 1 → i z = mI (uI (uI (uI (uI M b 0 (nI 0)) b 1 (nI 8)) b 2 (nI 0)) b 3 (nI 0)) z) → J G base X 0 0 (wI M i) 23 [some (.ref b), some (.int (nI j))] []) 5 (fun j i hj ih hi => ?_) 0 (mI (uI (uI (uI (uI M b 0 (nI 0)) b 1 (nI 8)) b 2 (nI 0)) b 3 (nI 0))) (Nat.zero_le _) ⟨fun k hk => absurd hk (Nat.not_lt_zero _), fun _ _ => rfl⟩
  refine r_iload_n hX dX8_clear_23 rfl ?_
  refine r_iconst (v := nI 5) hX dX8_clear_24 (by decide) ?_
  refine rn_icmp_ge (tgt := 41) hX dX8_clear_25 (by decide) rfl rfl (by omega) (by omega) (fun c25 => ?_) (fun c25 => ?_)
  · refine r_aload_n hX dX8_clear_41 rfl ?_
    refine r_getr hX dX8_clear_42 fl_X8_31 rfl (LX8_s hL) (LX8_r5 hL) ?_
    refine r_iconst (v := nI 0) hX dX8_clear_45 (by decide) ?_
    refine r_puti hX dX8_clear_46 fl_X8_49 rfl rfl (LX2_s (LX8_o5 hL)) ?_
    refine r_aload_n hX dX8_clear_49 rfl ?_
    refine r_getr hX dX8_clear_50 fl_X8_38 rfl (LX8_s hL) (LX8_r6 hL) ?_
    refine r_cV0 hX dX8_clear_53 IX6_clear ml_X8_52 rfl (LX6_s (LX8_o6 hL)) rfl (t_X6_clear (M := _) (LX8_o6 hL)) (by decide) (by decide) (by decide) (by decide) rfl (Nat.le_of_ble_eq_true rfl) ?_
    refine r_aload_n hX dX8_clear_56 rfl ?_
    refine r_getr hX dX8_clear_57 fl_X8_45 rfl (LX8_s hL) (LX8_r7 hL) ?_
    refine r_iconst (v := nI 0) hX dX8_clear_60 (by decide) ?_
    refine r_puti hX dX8_clear_61 fl_X8_55 rfl rfl (LX4_s (LX8_o7 hL)) ?_
    refine r_return hX rfl dX8_clear_64 (by decide) (by decide) ?_
    have hb1 : ∀ k, k < 5 → i (b + 1) k = nI k := fun k hk => hi.1 k (by omega)
    have hb : ∀ k, i b k = mI (uI (uI (uI (uI M b 0 (nI 0)) b 1 (nI 8)) b 2 (nI 0)) b 3 (nI 0)) b k := fun k => congrFun (hi.2 b (by omega)) k
    refine ⟨rfl, mI (uI (uI (uI (uI (wI M i) (b + 2) 0 (nI 0)) (b + 13) 0 0) (b + 13) 1 0) (b + 15) 0 (nI 0)), rfl, ?_, fun c hc => ?_, fun z z1 z2 z3 z4 z5 => ?_⟩
    · refine RS.empty ?_ ?_ ?_ ?_ ?_ ?_ ?_ ?_
      · exact ((congrFun (by rw [uIo (by omega), uIo (by omega), uIo (by omega), uIo (by omega)]; rfl) 0).trans (hb 0)).trans (by simp [mI_uI]; rfl)
      · exact ((congrFun (by rw [uIo (by omega), uIo (by omega), uIo (by omega), uIo (by omega)]; rfl) 1).trans (hb 1)).trans (by simp [mI_uI])
      · exact ((congrFun (by rw [uIo (by omega), uIo (by omega), uIo (by omega), uIo (by omega)]; rfl) 2).trans (hb 2)).trans (by simp [mI_uI]; rfl)
      · exact ((congrFun (by rw [uIo (by omega), uIo (by omega), uIo (by omega), uIo (by omega)]; rfl) 3).trans (hb 3)).trans (by simp [mI_uI]; rfl)
      · simp [mI_uI]; rfl
      · simp [mI_uI]
      · simp [mI_uI]
      · simp [mI_uI]; rfl
    · rw [row0_s hc]
      exact (congrFun (by rw [uIo (by omega), uIo (by omega), uIo (by omega), uIo (by omega)]; rfl) c).trans (hb1 c hc)
    · rw [uIo z5, uIo z4, uIo z4, uIo z3]
      exact ((hi.2 z z2).trans (by rw [uIo z1, uIo z1, uIo z1, uIo z1]))
  · refine r_aload_n hX dX8_clear_28 rfl ?_
    refine r_getr hX dX8_clear_29 fl_X8_24 rfl (LX8_s hL) (LX8_r4 hL) ?_
    refine r_iload_n hX dX8_clear_32 rfl ?_
    refine r_iload_n hX dX8_clear_33 rfl ?_
    refine rn_iast hX dX8_clear_34 (LX8_a4 hL) rfl (by omega) (by omega) ?_
    refine rn_iinc1 hX dX8_clear_35 rfl rfl ?_
    refine r_goto (tgt := 23) hX dX8_clear_38 (by decide) ?_
    refine ih (by omega) _ ⟨fun k hk => ?_, fun z h4 => (uIo h4).trans (hi.2 z h4)⟩
    show mI (uI _ (b + 1) j (nI j)) (b + 1) k = _
    rw [mI_uI, if_pos rfl]
    split
    · rename_i he; rw [he]
    · exact hi.1 k (by omega)
