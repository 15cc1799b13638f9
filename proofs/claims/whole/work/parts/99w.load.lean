variable {G : GG} {base : Nat}
/-! ===== THE CLASS: load ===== -/
theorem prm_tab {n : Nat → Int32} : ∀ k, tabEq n (prmN n k) ∧ prmN n k 6 = n 6 ∧ ∀ l f, f < 10 → f ≠ 6 → prmN n k (498 + 10 * l + f) = n (498 + 10 * l + f)
  | 0 => ⟨⟨rfl, rfl, fun _ _ _ => rfl, fun _ _ _ => rfl⟩, rfl, fun _ _ _ _ => rfl⟩
  | k + 1 => by
    obtain ⟨⟨a1, a2, a3, a4⟩, b, c⟩ := prm_tab (n := n) k
    unfold prmN
    refine ⟨⟨a1.trans (upd_o (by omega)).symm, a2.trans (upd_o (by omega)).symm, fun q q1 q2 => (a3 q q1 q2).trans (upd_o (by omega)).symm, fun q q1 q2 => (a4 q q1 q2).trans (upd_o (by omega)).symm⟩, (upd_o (by omega)).trans b, fun l f hf h6 => (upd_o (by omega)).trans (c l f hf h6)⟩
set_option maxHeartbeats 2000000 in
set_option maxRecDepth 20000 in
theorem t_X10_promiseLetters {M : Mm} {a : Nat} {n : Nat → Int32} (hL : LX10 M.1 M.2.1 a) (hTT : TT (mI M) (a + 28) n) (hRS : RS (mI M) (a + 34) n) (hO : OkN 0 n) : Ct G base YX10_promiseLetters 8 0 0 [.ref a] M (rI none M (fun i => RS i (a + 34) (prmN n (nv n 2)) ∧ ∀ x, (x < a + 34 ∨ a + 52 ≤ x) → (x < a + 198 ∨ a + 200 ≤ x) → ∀ k, i x k = mI M x k)) := by
  refine Ct.of IX10_promiseLetters.1 (by simp [Value.category]) (Nat.le_of_ble_eq_true rfl) (fun X hX hN => ?_)
  show J G base X 0 0 M 0 [some (.ref a), none, none] []
  have hb2 := hRS.2.2.1.2.1.2
  refine r_aload_n hX dX10_promiseLetters_0 rfl ?_
  refine r_getr hX dX10_promiseLetters_1 fl_X10_40 rfl (LX10_s hL) (LX10_r6 hL) ?_
  refine r_getr hX dX10_promiseLetters_4 fl_X10_107 rfl (LX8_s (LX10_o6 hL)) (LX8_r5 (LX10_o6 hL)) ?_
  refine r_astore1 hX dX10_promiseLetters_7 rfl ?_
  refine r_iconst (v := nI 0) hX dX10_promiseLetters_8 (by decide) ?_
  refine r_istore2 hX dX10_promiseLetters_9 rfl ?_
  show J G base X 0 0 (wI M (mI M)) 10 _ []
  refine loop_us (σ := Nat → Nat → Int32) (P := fun j i => (RS i (a + 34) (prmN n j) ∧ ∀ x, (x < a + 34 ∨ a + 52 ≤ x) → (x < a + 198 ∨ a + 200 ≤ x) → ∀ k, i x k = mI M x k) → J G base X 0 0 (wI M i) 10 [some (.ref a), some (.ref (a + 34 + 2)), some (.int (nI j))] []) (nv n 2) (fun j i hj ih hi => ?_) 0 (mI M) (Nat.zero_le _) ⟨hRS, fun _ _ _ _ => rfl⟩
  obtain ⟨hp1, hp2, hp3⟩ := prm_ok hO j (by omega)
  obtain ⟨ht1, ht2, ht3⟩ := prm_tab (n := n) j
  have hTi : TT (mI (wI M i)) (a + 28) (prmN n j) := tabEq.TT (hTT.kept (fun x x1 x2 k => hi.2 x (by omega) (by omega) k)) ht1 hO.1
  have hlc : mI (wI M i) (a + 34 + 2) 0 = nI (nv n 2) := by
    have z := hi.1.2.2.1.1
    rw [(hi.1.2.2.1.2.1).1, hp2] at z
    exact z
  refine r_iload_n hX dX10_promiseLetters_10 rfl ?_
  refine r_aload_n hX dX10_promiseLetters_11 rfl ?_
  refine rn_geti (v := nI (nv n 2)) hX dX10_promiseLetters_12 fl_X10_111 rfl (LX2_s (LX8_o5 (LX10_o6 hL))) hlc ?_
  refine rn_icmp_ge (tgt := 46) hX dX10_promiseLetters_15 (by decide) rfl rfl (by omega) (by omega) (fun c15 => ?_) (fun c15 => ?_)
  · refine r_return hX rfl dX10_promiseLetters_46 (by decide) (by decide) ?_
    obtain rfl : j = nv n 2 := by omega
    exact ⟨rfl, i, rfl, hi⟩
  · obtain ⟨fr, to, vl, s, w, l1, l2, l3, l4, l5, l6, l7, l8, -⟩ := hp1.2.2.1.2.2 j (by rw [hp2]; omega)
    have hb0' := hp1.1.1.2
    have hfr := town_lt l6
    have hto := town_lt l7
    have e1 : mI (wI M i) (a + 34 + 2 + 1) j = nI fr := (hi.1.2.2.1.2.2 j (by rw [hp2]; omega) 0 (by omega)).trans l1
    have e2 : mI (wI M i) (a + 34 + 2 + 2) j = nI to := (hi.1.2.2.1.2.2 j (by rw [hp2]; omega) 1 (by omega)).trans l2
    have hv2 := hb2
    refine r_aload_n hX dX10_promiseLetters_18 rfl ?_
    refine r_getr hX dX10_promiseLetters_19 fl_X10_116 rfl (LX2_s (LX8_o5 (LX10_o6 hL))) (LX2_r7 (LX8_o5 (LX10_o6 hL))) ?_
    refine r_iload_n hX dX10_promiseLetters_22 rfl ?_
    refine r_aload_n hX dX10_promiseLetters_23 rfl ?_
    refine r_aload_n hX dX10_promiseLetters_24 rfl ?_
    refine r_getr hX dX10_promiseLetters_25 fl_X10_119 rfl (LX2_s (LX8_o5 (LX10_o6 hL))) (LX2_r1 (LX8_o5 (LX10_o6 hL))) ?_
    refine r_iload_n hX dX10_promiseLetters_28 rfl ?_
    refine rn_iald hX dX10_promiseLetters_29 (LX2_a1 (LX8_o5 (LX10_o6 hL))) rfl (by omega) (by omega) ?_
    rw [e1]
    refine r_aload_n hX dX10_promiseLetters_30 rfl ?_
    refine r_getr hX dX10_promiseLetters_31 fl_X10_122 rfl (LX2_s (LX8_o5 (LX10_o6 hL))) (LX2_r2 (LX8_o5 (LX10_o6 hL))) ?_
    refine r_iload_n hX dX10_promiseLetters_34 rfl ?_
    refine rn_iald hX dX10_promiseLetters_35 (LX2_a2 (LX8_o5 (LX10_o6 hL))) rfl (by omega) (by omega) ?_
    rw [e2]
    refine r_iV2 hX dX10_promiseLetters_36 IX10_arrivalFromOffice ml_X10_125 rfl (LX10_s hL) rfl (t_X10_arrivalFromOffice (M := wI M i) (n := prmN n j) hL hTi hi.1 hp1.1 (h := nv (prmN n j) 6) hp1.2.2.2.2.2.1.1 (by have := hp1.2.2.2.2.2.1.2; omega) (p := fr) (q := to) (by omega) (by omega) l8) (by decide) (by decide) (by decide) (by decide) rfl (Nat.le_of_ble_eq_true rfl) (fun i2 h2 => ?_)
    show J G base X _ _ (wI M i2) _ _ _
    
    refine rn_iast hX dX10_promiseLetters_39 (LX2_a7 (LX8_o5 (LX10_o6 hL))) rfl (by omega) (by omega) ?_
    refine rn_iinc2 hX dX10_promiseLetters_40 rfl rfl ?_
    refine r_goto (tgt := 10) hX dX10_promiseLetters_43 (by decide) ?_
    refine ih (by omega) (mI (uI (wI M i2) (a + 34 + 2 + 7) j (arP (prmN n j) fr to))) ⟨?_, fun x x1 x2 k => (congrFun (uIo (by omega)) k).trans ((h2 x (by omega) k).trans (hi.2 x x1 x2 k))⟩
    have z := RS.lf (M := wI M i2) (a := a + 34) (f := 6) (v := arP (prmN n j) fr to) (h2.rs hi.1) (l := j) (by omega) (by omega)
    have ep : prmN n (j + 1) = upd (prmN n j) (498 + 10 * j + 6) (arP (prmN n j) fr to) := by
      show upd (prmN n j) _ (arP (prmN n j) (nv (prmN n j) (498 + 10 * j + 0)) (nv (prmN n j) (498 + 10 * j + 1))) = _
      rw [nv_of (x := fr) (show prmN n j (498 + 10 * j + 0) = _ from l1) (by omega), nv_of l2 (by omega)]
    rw [ep]
    exact z
