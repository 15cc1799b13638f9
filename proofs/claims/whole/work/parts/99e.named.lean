variable {G : GG} {base : Nat}
theorem nm_R {u : Nat → Nat} {p k : Nat} (h1 : 1 ≤ k) (h6 : k ≤ 6) (hl : ∀ j, j < k → isL (u (p + j))) : NmR (nI (nm32 u p k)) (nI (nmV u p k)) := by
  unfold nm32
  rw [if_pos ⟨h1, h6, hl⟩, nmV_e]
  exact ⟨_, by rw [List.length_map, List.length_range]; exact h1, by rw [List.length_map, List.length_range]; exact h6, e32_r hl, rfl, rfl⟩
/-- the place of a name, in the class and in the reference -/
theorem fst_nm {i : Nat → Nat → Int32} {b : Nat} {n : Nat → Int32} (h : TT i b n) {u : Nat → Nat} {p k : Nat} : fstF (fun j => decide (i (b + 1) j = nI (nm32 u p k))) (nv n 0) = if 1 ≤ k ∧ k ≤ 6 ∧ ∀ j, j < k → isL (u (p + j)) then fnN n 18 (nI (nmV u p k)) (nv n 0) else -1 := by
  by_cases hk : 1 ≤ k ∧ k ≤ 6 ∧ ∀ j, j < k → isL (u (p + j))
  · rw [if_pos hk]
    unfold fnN
    refine fstF_congr (fun j hj => ?_)
    have z := nm_inj (h.2.2.2.1 j hj) (nm_R hk.1 hk.2.1 hk.2.2)
    by_cases y : n (18 + j) = nI (nmV u p k)
    · rw [decide_eq_true y, decide_eq_true (z.mpr y)]
    · rw [decide_eq_false y, decide_eq_false (fun q => y (z.mp q))]
  · rw [if_neg hk]
    unfold nm32
    rw [if_neg hk]
    have hno : ∀ m, m ≤ nv n 0 → fstF (fun j => decide (i (b + 1) j = nI 0)) m = -1 := by
      intro m
      induction m with
      | zero => intro _; rfl
      | succ m ih =>
        intro hm
        exact fstF_no (ih (by omega)) (fun z => nm_ne0 (h.2.2.2.1 m (by omega)) (of_decide_eq_true z))
    exact hno _ (Nat.le_refl _)
theorem fst_cr {i : Nat → Nat → Int32} {b : Nat} {n : Nat → Int32} (h : TT i b n) {u : Nat → Nat} {p k : Nat} (hk : 1 ≤ k ∧ k ≤ 6 ∧ ∀ j, j < k → isL (u (p + j))) : fstF (fun j => decide (i (b + 2) j = nI (nm32 u p k))) (nv n 1) = fnN n 28 (nI (nmV u p k)) (nv n 1) := by
  unfold fnN
  refine fstF_congr (fun j hj => ?_)
  have z := nm_inj (h.2.2.2.2.1 j hj) (nm_R hk.1 hk.2.1 hk.2.2)
  by_cases y : n (28 + j) = nI (nmV u p k)
  · rw [decide_eq_true y, decide_eq_true (z.mpr y)]
  · rw [decide_eq_false y, decide_eq_false (fun q => y (z.mp q))]
set_option maxHeartbeats 2000000 in
set_option maxRecDepth 20000 in
theorem t_c_placeNamed {M : Mm} {a : Nat} {σ : Sg} {T : Nat} (hL : LX10 M.1 M.2.1 a) (hC : CI (mI M) a σ) (hO : OkN T σ.1) (hT9 : T < 890000) : Ct G base YX10_placeNamed 20 1 6 [.ref a] M (rC M a 1 4 (rs_placeNamed σ) (tlS σ 0)) := by
  obtain ⟨hT, hS, hLt, h4, h5, h6, hLo, hSt, hNa⟩ := hO
  have h0 := hT.1
  have h1 := hT.2.1
  have hr := hT.2.2
  have h2 := hLt.1
  have h3 := hLt.2.1
  have hb0 := h0.2
  have hb1 := h1.2
  have hb2 := h2.2
  have hb3 := h3.2
  have hb4 := h4.2
  have ht6 : σ.1 6 = nI (nv σ.1 6) := h6.1
  have hh6 : nv σ.1 6 ≤ T := h6.2
  have hTT : TT (mI M) (a + 28) σ.1 := hC.2.2.2.1
  have hRS : RS (mI M) (a + 34) σ.1 := hC.2.2.2.2.1
  have hHR : HR (mI M) (a + 52) σ.2.1 σ.2.2.1 := hC.2.2.2.2.2.1
  have hpc : mI M (a + 28) 0 = nI (nv σ.1 0) := hTT.1.trans h0.1
  have hcc : mI M (a + 28) 2 = nI (nv σ.1 1) := hTT.2.2.1.trans h1.1
  have hlc : mI M (a + 34 + 2) 0 = nI (nv σ.1 2) := hRS.2.2.1.1.trans h2.1
  have hkc : mI M (a + 34 + 15) 0 = nI (nv σ.1 3) := hRS.2.2.2.2.1.trans h3.1
  have hrc : mI M (a + 34 + 13) 0 = nI (nv σ.1 4) := hRS.2.2.2.1.1.trans h4.1
  have htm : mI M (a + 34) 0 = nI (nv σ.1 6) := hRS.1.1.trans ht6
  have hlen := hC.1.2.1
  have h900 := hC.1.2.2
  have hby := hC.1.1
  refine Ct.of IX10_placeNamed.1 (by simp [Value.category]) (Nat.le_of_ble_eq_true rfl) (fun X hX hN => ?_)
  show J G base X 0 0 M 0 [some (.ref a), none] []
  refine r_aload_n hX dX10_placeNamed_0 rfl ?_
  refine r_getr hX dX10_placeNamed_1 fl_X10_9 rfl (LX10_s hL) (LX10_r0 hL) ?_
  refine r_iconst (v := nI 0) hX dX10_placeNamed_4 (by decide) ?_
  refine r_aload_n hX dX10_placeNamed_5 rfl ?_
  refine rn_geti (v := nI σ.2.2.2.2.1) hX dX10_placeNamed_6 fl_X10_13 rfl (LX10_s hL) hlen ?_
  refine r_cS3 hX dX10_placeNamed_9 IX5_nameIn ml_X10_177 rfl (t_X5_nameIn (M := M) (u := σ.2.2.2.1) (LX10_a0 hL) (by omega) (Nat.zero_le _) h900 (fun k _ hk => hby k hk)) (by decide) (by decide) (by decide) (by decide) rfl (Nat.le_of_ble_eq_true rfl) ?_
  rw [Nat.sub_zero]
  refine r_istore1 hX dX10_placeNamed_12 rfl ?_
  refine r_aload_n hX dX10_placeNamed_13 rfl ?_
  refine r_iconst (v := nI 0) hX dX10_placeNamed_14 (by decide) ?_
  refine r_puti hX dX10_placeNamed_15 fl_X10_13 rfl rfl (LX10_s hL) ?_
  refine r_aload_n hX dX10_placeNamed_18 rfl ?_
  refine r_getr hX dX10_placeNamed_19 fl_X10_33 rfl (LX10_s hL) (LX10_r5 hL) ?_
  refine r_iload_n hX dX10_placeNamed_22 rfl ?_
  refine r_cV1 hX dX10_placeNamed_23 IX9_placeOfName ml_X10_181 rfl (LX9_s (LX10_o5 hL)) rfl (t_X9_placeOfName (M := uI M a 1 (nI 0)) (LX10_o5 hL) ((congrFun (uIo (by omega)) 0).trans hpc) hb0) (by decide) (by decide) (by decide) (by decide) rfl (Nat.le_of_ble_eq_true rfl) ?_
  refine r_ireturn hX rfl rfl dX10_placeNamed_26 (by decide) (by decide) ?_
  rw [show mI (uI M a 1 (nI 0)) (a + 28 + 1) = mI M (a + 28 + 1) from uIo (by omega)]
  refine rC.y (i := mI (uI M a 1 (nI 0))) ?_ ?_ (fun y hy z => congrFun (uIo (by omega)) z)
  · rw [fst_nm hTT]
    unfold rs_placeNamed plN
    simp only [Nat.zero_add]
  · exact hC.text (fun k hk => absurd hk (Nat.not_lt_zero _)) (by simp [mI_uI]) (Nat.zero_le _) (fun y h1 h2 z => congrFun (uIo h1) z) (fun k hk => by rw [mI_uI, if_pos rfl, if_neg hk])

