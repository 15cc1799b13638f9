variable {G : GG} {base : Nat}
theorem setB_none {k : Nat} : setB (fun _ => false) k = 0 := by
  induction k with
  | zero => rfl
  | succ k ih => simp only [setB]; rw [ih, if_neg (by decide)]; exact b_0or 0
theorem bit_set {c m : Nat} (hm : m ≤ 31) (hc : c < m) : bitI (nI c) = setB (fun k => decide (k = c)) m := by
  have z := setB_or1 (fun _ => false) hm hc
  rw [setB_none, b_0or] at z
  rw [z]
  exact setB_congr (fun i _ => by simp)
theorem wk_of {i : Nat → Nat → Int32} {a : Nat} {n : Nat → Int32} (h : RS i a n) : wkO n (i a 3 ^^^ -1) := fun c hc => by
  rw [b_xor, b_m1 c (by omega), h.1.2.2.2 c hc]
  by_cases e : n (38 + c) = 1 <;> simp [e]
/-- the villages to which letters go that come from somewhere -/
def wtB (x og : Nat → Int32) (m : Nat) : Nat → Bool := fun t => anyB (fun l => decide (¬ og l = -2 ∧ x (498 + 10 * l + 1) = nI t)) m
theorem wtB_step {x og : Nat → Int32} {m t : Nat} (ht : t < 10) (hx : x (498 + 10 * m + 1) = nI t) (ho : ¬ og m = -2) : setB (wtB x og m) 10 ||| bitI (nI t) = setB (wtB x og (m + 1)) 10 := by
  rw [setB_or1 _ (by omega) ht]
  refine setB_congr (fun i hi => ?_)
  show (anyB _ m || decide (i = t)) = (anyB _ m || decide (¬ og m = -2 ∧ x (498 + 10 * m + 1) = nI i))
  congr 1
  rw [hx]
  by_cases e : i = t
  · rw [decide_eq_true e, decide_eq_true ⟨ho, by rw [e]⟩]
  · rw [decide_eq_false e, decide_eq_false (fun z => e ((nI_eq (by omega) (by omega)).mp z.2).symm)]
theorem wtB_same {x og : Nat → Int32} {m : Nat} (ho : og m = -2) : wtB x og (m + 1) = wtB x og m := by
  funext t
  show (anyB _ m || decide (¬ og m = -2 ∧ x (498 + 10 * m + 1) = nI t)) = anyB _ m
  rw [decide_eq_false (fun z => z.1 ho), Bool.or_false]
set_option maxHeartbeats 2000000 in
set_option maxRecDepth 20000 in
theorem t_X1_wantedVillages {M : Mm} {w a : Nat} {n : Nat → Int32} (hw : LX1 M.1 M.2.1 w) (hL : LX8 M.1 M.2.1 a) (hR : RS (mI M) a n) {og : Nat → Int32} (hg : ∀ l, l < nv n 2 → mI M (w + 4) l = og l) (hto : ∀ l, l < nv n 2 → ∃ t, t < 10 ∧ n (498 + 10 * l + 1) = nI t) : Ct G base YX1_wantedVillages 2 0 0 [.ref w, .ref a] M (rE (some (.int (setB (wtB n og (nv n 2)) 10))) M) := by
  refine Ct.of IX1_wantedVillages.1 (by simp [Value.category]) (Nat.le_of_ble_eq_true rfl) (fun X hX hN => ?_)
  show J G base X 0 0 M 0 [some (.ref w), some (.ref a), none, none, none] []
  have h30 := hR.2.2.1.2.1.2
  refine r_aload_n hX dX1_wantedVillages_0 rfl ?_
  refine r_getr hX dX1_wantedVillages_1 fl_X1_82 rfl (LX8_s hL) (LX8_r5 hL) ?_
  refine r_astore2 hX dX1_wantedVillages_4 rfl ?_
  refine r_iconst (v := nI 0) hX dX1_wantedVillages_5 (by decide) ?_
  refine r_istore3 hX dX1_wantedVillages_6 rfl ?_
  refine r_iconst (v := nI 0) hX dX1_wantedVillages_7 (by decide) ?_
  refine r_istore4 hX dX1_wantedVillages_8 rfl ?_
  suffices hz : J G base X 0 0 M 10 [some (.ref w), some (.ref a), some (.ref (a + 2)), some (.int (setB (wtB n og 0) 10)), some (.int (nI 0))] [] from by
    rw [show setB (wtB n og 0) 10 = nI 0 from setB_none] at hz
    exact hz
  refine loop_up (P := fun j => J G base X 0 0 M 10 [some (.ref w), some (.ref a), some (.ref (a + 2)), some (.int (setB (wtB n og j) 10)), some (.int (nI j))] []) (nv n 2) (fun j hj ih => ?_) 0 (Nat.zero_le _)
  refine r_iload hX dX1_wantedVillages_10 rfl ?_
  refine r_aload_n hX dX1_wantedVillages_12 rfl ?_
  refine rn_geti (v := nI (nv n 2)) hX dX1_wantedVillages_13 fl_X1_86 rfl (LX2_s (LX8_o5 hL)) (hR.2.2.1.1.trans hR.2.2.1.2.1.1) ?_
  refine rn_icmp_ge (tgt := 57) hX dX1_wantedVillages_16 (by decide) rfl rfl (by omega) (by omega) (fun c16 => ?_) (fun c16 => ?_)
  · refine r_iload_n hX dX1_wantedVillages_57 rfl ?_
    refine r_ireturn hX rfl rfl dX1_wantedVillages_58 (by decide) (by decide) ?_
    obtain rfl : j = nv n 2 := by omega
    exact ⟨rfl, rfl⟩
  · refine r_iload hX dX1_wantedVillages_19 rfl ?_
    refine r_bipush (v := nI 30) hX dX1_wantedVillages_21 (by decide) ?_
    refine rn_icmp_ge (tgt := 57) hX dX1_wantedVillages_23 (by decide) rfl rfl (by omega) (by omega) (fun c23 => absurd c23 (by omega)) (fun c23 => ?_)
    refine r_aload_n hX dX1_wantedVillages_26 rfl ?_
    refine r_getr hX dX1_wantedVillages_27 fl_X1_22 rfl (LX1_s hw) (LX1_r2 hw) ?_
    refine r_iload hX dX1_wantedVillages_30 rfl ?_
    refine rn_iald hX dX1_wantedVillages_32 (LX1_a2 hw) rfl (by omega) (by omega) ?_
    rw [hg j c16]
    refine r_bipush (v := (-2)) hX dX1_wantedVillages_33 (by decide) ?_
    refine r_icmp_eq (tgt := 51) hX dX1_wantedVillages_35 (by decide) (fun c35 => ?_) (fun c35 => ?_)
    · refine rn_iinc4 hX dX1_wantedVillages_51 rfl rfl ?_
      refine r_goto (tgt := 10) hX dX1_wantedVillages_54 (by decide) ?_
      have z := ih (by omega)
      rw [wtB_same c35] at z
      exact z
    · obtain ⟨t, ht, he⟩ := hto j c16
      refine r_iload_n hX dX1_wantedVillages_38 rfl ?_
      refine r_aload_n hX dX1_wantedVillages_39 rfl ?_
      refine r_getr hX dX1_wantedVillages_40 fl_X1_112 rfl (LX2_s (LX8_o5 hL)) (LX2_r2 (LX8_o5 hL)) ?_
      refine r_iload hX dX1_wantedVillages_43 rfl ?_
      refine rn_iald hX dX1_wantedVillages_45 (LX2_a2 (LX8_o5 hL)) rfl (by omega) (by omega) ?_
      rw [show mI M (a + 2 + 2) j = nI t from (hR.2.2.1.2.2 j c16 1 (by omega)).trans he]
      refine r_cN1 (host := RX10) hX dX1_wantedVillages_46 IX10_bit (by decide +kernel) rfl (t_X10_bit) (by decide) (by decide) (by decide) (by decide) rfl (Nat.le_of_ble_eq_true rfl) ?_
      refine r_ior hX dX1_wantedVillages_49 ?_
      refine r_istore3 hX dX1_wantedVillages_50 rfl ?_
      refine rn_iinc4 hX dX1_wantedVillages_51 rfl rfl ?_
      refine r_goto (tgt := 10) hX dX1_wantedVillages_54 (by decide) ?_
      have z := ih (by omega)
      rw [← wtB_step ht he c35] at z
      exact z
set_option maxHeartbeats 2000000 in
set_option maxRecDepth 20000 in
theorem t_X1_noteArrivals {M : Mm} {w v : Nat} (hw : LX1 M.1 M.2.1 w) (hv : v < 6) : Ct G base YX1_noteArrivals 3 0 0 [.ref w, .int (nI v)] M (rI none M (fun i => (∀ t, t < 10 → i (w + 3) (v * 10 + t) = mI M (w + 2) t) ∧ (∀ k, k < v * 10 ∨ v * 10 + 10 ≤ k → i (w + 3) k = mI M (w + 3) k) ∧ ∀ x, x ≠ w + 3 → i x = mI M x)) := by
  refine Ct.of IX1_noteArrivals.1 (by simp [Value.category]) (Nat.le_of_ble_eq_true rfl) (fun X hX hN => ?_)
  show J G base X 0 0 M 0 [some (.ref w), some (.int (nI v)), none] []
  refine r_iload_n hX dX1_noteArrivals_0 rfl ?_
  refine rn_if_lt (tgt := 42) hX dX1_noteArrivals_1 (by decide) rfl (by omega) ?_
  refine r_iload_n hX dX1_noteArrivals_4 rfl ?_
  refine r_iconst (v := nI 5) hX dX1_noteArrivals_5 (by decide) ?_
  refine rn_icmp_gt (tgt := 42) hX dX1_noteArrivals_6 (by decide) rfl rfl (by omega) (by omega) (fun c6 => absurd c6 (by omega)) (fun c6 => ?_)
  refine r_iconst (v := nI 0) hX dX1_noteArrivals_9 (by decide) ?_
  refine r_istore2 hX dX1_noteArrivals_10 rfl ?_
  show J G base X 0 0 (wI M (mI M)) 11 _ []
  refine loop_us (σ := Nat → Nat → Int32) (P := fun j i => ((∀ t, t < j → i (w + 3) (v * 10 + t) = mI M (w + 2) t) ∧ (∀ k, k < v * 10 ∨ v * 10 + j ≤ k → i (w + 3) k = mI M (w + 3) k) ∧ ∀ x, x ≠ w + 3 → i x = mI M x) → J G base X 0 0 (wI M i) 11 [some (.ref w), some (.int (nI v)), some (.int (nI j))] []) 10 (fun j i hj ih hi => ?_) 0 (mI M) (Nat.zero_le _) ⟨fun t ht => absurd ht (Nat.not_lt_zero _), fun _ _ => rfl, fun _ _ => rfl⟩
  refine r_iload_n hX dX1_noteArrivals_11 rfl ?_
  refine r_bipush (v := nI 10) hX dX1_noteArrivals_12 (by decide) ?_
  refine rn_icmp_ge (tgt := 42) hX dX1_noteArrivals_14 (by decide) rfl rfl (by omega) (by omega) (fun c14 => ?_) (fun c14 => ?_)
  · refine r_return hX rfl dX1_noteArrivals_42 (by decide) (by decide) ?_
    obtain rfl : j = 10 := by omega
    exact ⟨rfl, i, rfl, hi⟩
  · refine r_aload_n hX dX1_noteArrivals_17 rfl ?_
    refine r_getr hX dX1_noteArrivals_18 fl_X1_18 rfl (LX1_s hw) (LX1_r1 hw) ?_
    refine r_iload_n hX dX1_noteArrivals_21 rfl ?_
    refine r_bipush (v := nI 10) hX dX1_noteArrivals_22 (by decide) ?_
    refine rn_imul hX dX1_noteArrivals_24 rfl rfl ?_
    refine r_iload_n hX dX1_noteArrivals_25 rfl ?_
    refine rn_iadd hX dX1_noteArrivals_26 rfl rfl ?_
    refine r_aload_n hX dX1_noteArrivals_27 rfl ?_
    refine r_getr hX dX1_noteArrivals_28 fl_X1_12 rfl (LX1_s hw) (LX1_r0 hw) ?_
    refine r_iload_n hX dX1_noteArrivals_31 rfl ?_
    refine r_cV1 hX dX1_noteArrivals_32 IX7_arrivalAt ml_X1_129 rfl (LX7_s (LX1_o0 hw)) rfl (t_X7_arrivalAt (M := wI M i) (LX1_o0 hw) (by omega)) (by decide) (by decide) (by decide) (by decide) rfl (Nat.le_of_ble_eq_true rfl) ?_
    refine rn_iast hX dX1_noteArrivals_35 (LX1_a1 hw) rfl (by omega) (by omega) ?_
    refine rn_iinc2 hX dX1_noteArrivals_36 rfl rfl ?_
    refine r_goto (tgt := 11) hX dX1_noteArrivals_39 (by decide) ?_
    refine ih (by omega) (mI (uI (wI M i) (w + 3) (v * 10 + j) (mI (wI M i) (w + 1 + 1) j))) ⟨fun t ht => ?_, fun k hk => ?_, fun x hx => (uIo hx).trans (hi.2.2 x hx)⟩
    · rw [mI_uI, if_pos rfl]
      by_cases e : t = j
      · subst e
        rw [if_pos rfl]
        exact congrFun (hi.2.2 (w + 2) (by omega)) t
      · rw [if_neg (by omega)]
        exact hi.1 t (by omega)
    · rw [mI_uI, if_pos rfl, if_neg (by omega)]
      exact hi.2.1 k (by omega)
set_option maxHeartbeats 2000000 in
set_option maxRecDepth 20000 in
theorem t_X1_arrivalBy {M : Mm} {w v t : Nat} (hw : LX1 M.1 M.2.1 w) (hv : v < 6) (ht : t < 10) : Ct G base YX1_arrivalBy 1 0 0 [.ref w, .int (nI v), .int (nI t)] M (rE (some (.int (mI M (w + 3) (v * 10 + t)))) M) := by
  refine Ct.of IX1_arrivalBy.1 (by simp [Value.category]) (Nat.le_of_ble_eq_true rfl) (fun X hX hN => ?_)
  show J G base X 0 0 M 0 [some (.ref w), some (.int (nI v)), some (.int (nI t))] []
  refine r_iload_n hX dX1_arrivalBy_0 rfl ?_
  refine rn_if_lt (tgt := 19) hX dX1_arrivalBy_1 (by decide) rfl (by omega) ?_
  refine r_iload_n hX dX1_arrivalBy_4 rfl ?_
  refine r_iconst (v := nI 5) hX dX1_arrivalBy_5 (by decide) ?_
  refine rn_icmp_gt (tgt := 19) hX dX1_arrivalBy_6 (by decide) rfl rfl (by omega) (by omega) (fun c6 => absurd c6 (by omega)) (fun c6 => ?_)
  refine r_iload_n hX dX1_arrivalBy_9 rfl ?_
  refine rn_if_lt (tgt := 19) hX dX1_arrivalBy_10 (by decide) rfl (by omega) ?_
  refine r_iload_n hX dX1_arrivalBy_13 rfl ?_
  refine r_bipush (v := nI 10) hX dX1_arrivalBy_14 (by decide) ?_
  refine rn_icmp_lt (tgt := 21) hX dX1_arrivalBy_16 (by decide) rfl rfl (by omega) (by omega) (fun c16 => ?_) (fun c16 => absurd ht (by omega))
  refine r_aload_n hX dX1_arrivalBy_21 rfl ?_
  refine r_getr hX dX1_arrivalBy_22 fl_X1_18 rfl (LX1_s hw) (LX1_r1 hw) ?_
  refine r_iload_n hX dX1_arrivalBy_25 rfl ?_
  refine r_bipush (v := nI 10) hX dX1_arrivalBy_26 (by decide) ?_
  refine rn_imul hX dX1_arrivalBy_28 rfl rfl ?_
  refine r_iload_n hX dX1_arrivalBy_29 rfl ?_
  refine rn_iadd hX dX1_arrivalBy_30 rfl rfl ?_
  refine rn_iald hX dX1_arrivalBy_31 (LX1_a1 hw) rfl (by omega) (by omega) ?_
  refine r_ireturn hX rfl rfl dX1_arrivalBy_32 (by decide) (by decide) ?_
  exact ⟨rfl, rfl⟩
set_option maxHeartbeats 2000000 in
set_option maxRecDepth 20000 in
theorem t_X1_foresee {M : Mm} {w a b : Nat} {n : Nat → Int32} (hw : LX1 M.1 M.2.1 w) (hL : LX8 M.1 M.2.1 a) (hb : LX9 M.1 M.2.1 b) (hd : w + 6 ≤ a ∨ a + 18 ≤ w) (hd2 : w + 6 ≤ b ∨ b + 6 ≤ w) (hR : RS (mI M) a n) (hT : TT (mI M) b n) (hO : TbOk n) {h p : Nat} (ht6 : n 6 = nI h) (hh : h < 1000000) (hp : p < 10) {g W : Nat → Bool} : Ct G base YX1_foresee 6 0 0 [.ref w, .ref b, .ref a, .int (nI p), .int (setB g 5), .int (setB W 10)] M (rI none M (fun i => (∀ d, d < 5 → i (w + 5) d = nI 0) ∧ (∀ d, d < 5 → g d = true → ∀ t, t < 10 → W t = true → i (w + 3) (d * 10 + t) = wyN n h p d t) ∧ (∀ t, t < 10 → W t = true → ¬ t = p → i (w + 3) (50 + t) = wyN n h p 5 t) ∧ ∀ y, (y ≤ w ∨ w + 6 ≤ y ∨ y = w + 4) → ∀ k, i y k = mI M y k)) := by
  refine Ct.of IX1_foresee.1 (by simp [Value.category]) (Nat.le_of_ble_eq_true rfl) (fun X hX hN => ?_)
  show J G base X 0 0 M 0 [some (.ref w), some (.ref b), some (.ref a), some (.int (nI p)), some (.int (setB g 5)), some (.int (setB W 10)), none] []
  refine r_iconst (v := nI 0) hX dX1_foresee_0 (by decide) ?_
  refine r_istore6 hX dX1_foresee_1 rfl ?_
  show J G base X 0 0 (wI M (mI M)) 3 _ []
  refine loop_us (σ := Nat → Nat → Int32) (P := fun c i => ((∀ d, d < c → i (w + 5) d = nI 0) ∧ (∀ d, d < c → g d = true → ∀ t, t < 10 → W t = true → i (w + 3) (d * 10 + t) = wyN n h p d t) ∧ ∀ y, (y ≤ w ∨ w + 6 ≤ y ∨ y = w + 4) → ∀ k, i y k = mI M y k) → J G base X 0 0 (wI M i) 3 [some (.ref w), some (.ref b), some (.ref a), some (.int (nI p)), some (.int (setB g 5)), some (.int (setB W 10)), some (.int (nI c))] []) 5 (fun c i hc ih hi => ?_) 0 (mI M) (Nat.zero_le _) ⟨fun d hd => absurd hd (Nat.not_lt_zero _), fun d hd => absurd hd (Nat.not_lt_zero _), fun _ _ _ => rfl⟩
  refine r_iload hX dX1_foresee_3 rfl ?_
  refine r_iconst (v := nI 5) hX dX1_foresee_5 (by decide) ?_
  refine rn_icmp_ge (tgt := 77) hX dX1_foresee_6 (by decide) rfl rfl (by omega) (by omega) (fun c6 => ?_) (fun c6 => ?_)
  · refine r_aload_n hX dX1_foresee_77 rfl ?_
    refine r_getr hX dX1_foresee_78 fl_X1_12 rfl (LX1_s hw) (LX1_r0 hw) ?_
    refine r_iload_n hX dX1_foresee_81 rfl ?_
    refine r_cN1 (host := RX10) hX dX1_foresee_82 IX10_bit (by decide +kernel) rfl (t_X10_bit (M := wI M i)) (by decide) (by decide) (by decide) (by decide) rfl (Nat.le_of_ble_eq_true rfl) ?_
    refine r_iconst (v := 0) hX dX1_foresee_85 (by decide) ?_
    refine r_iV2 hX dX1_foresee_86 IX7_begin ml_X1_119 rfl (LX7_s (LX1_o0 hw)) rfl (t_X7_begin (M := wI M i) (LX1_o0 hw)) (by decide) (by decide) (by decide) (by decide) rfl (Nat.le_of_ble_eq_true rfl) (fun i1 h1 => ?_)
    show J G base X _ _ (wI M i1) _ _ _
    
    have ho1 : ∀ y, (y ≤ w ∨ w + 6 ≤ y ∨ y = w + 4) → ∀ k, i1 y k = mI M y k := fun y hy k => (h1.2.2.2 _ (by omega) k).trans (hi.2.2 y hy k)
    refine r_aload_n hX dX1_foresee_89 rfl ?_
    refine r_getr hX dX1_foresee_90 fl_X1_12 rfl (LX1_s hw) (LX1_r0 hw) ?_
    refine r_aload_n hX dX1_foresee_93 rfl ?_
    refine r_aload_n hX dX1_foresee_94 rfl ?_
    refine r_geti hX dX1_foresee_95 fl_X1_43 rfl (LX8_s hL) ?_
    refine r_iconst (v := (-1)) hX dX1_foresee_98 (by decide) ?_
    refine r_ixor hX dX1_foresee_99 ?_
    refine r_aload_n hX dX1_foresee_100 rfl ?_
    refine rn_geti (v := nI h) hX dX1_foresee_101 fl_X1_34 rfl (LX8_s hL) ((hR.kept (fun y hy hy2 k => ho1 y (by omega) k)).1.1.trans ht6) ?_
    refine r_iconst (v := nI 1) hX dX1_foresee_104 (by decide) ?_
    refine rn_iadd hX dX1_foresee_105 rfl rfl ?_
    refine r_sipush (v := nI 240) hX dX1_foresee_106 (by decide) ?_
    refine r_iload hX dX1_foresee_109 rfl ?_
    refine r_iV5 hX dX1_foresee_111 IX7_follow ml_X1_122 rfl (LX7_s (LX1_o0 hw)) rfl (t_X7_follow (M := wI M i1) (C := fun _ => false) (O := fun q => decide (q = p)) (W := W) (m := 240) (LX1_o0 hw) hb (by omega) (hT.kept (fun y hy hy2 k => ho1 y (by omega) k)) hO (wk_of (hR.kept (fun y hy hy2 k => ho1 y (by omega) k))) (by omega) ⟨h1.1.trans (bit_set (by omega) (by omega)), h1.2.1.trans setB_none.symm, h1.2.2.1⟩) (by decide) (by decide) (by decide) (by decide) rfl (Nat.le_of_ble_eq_true rfl) (fun i2 h2 => ?_)
    show J G base X _ _ (wI M i2) _ _ _
    
    refine r_aload_n hX dX1_foresee_114 rfl ?_
    refine r_iconst (v := nI 5) hX dX1_foresee_115 (by decide) ?_
    refine r_iV1 hX dX1_foresee_116 IX1_noteArrivals ml_X1_126 rfl (LX1_s hw) rfl (t_X1_noteArrivals (M := wI M i2) (v := 5) hw (by omega)) (by decide) (by decide) (by decide) (by decide) rfl (Nat.le_of_ble_eq_true rfl) (fun i3 h3 => ?_)
    show J G base X _ _ (wI M i3) _ _ _
    
    refine r_return hX rfl dX1_foresee_119 (by decide) (by decide) ?_
    obtain rfl : c = 5 := by omega
    obtain ⟨k, hk1, hk2, hk3⟩ := h2.1
    refine ⟨rfl, i3, rfl, fun d hd => ?_, fun d hd hgd t ht hWt => ?_, fun t ht hWt htp => ?_, fun y hy k => (congrFun (h3.2.2 _ (by omega)) k).trans ((h2.2 _ (by omega) k).trans (ho1 y hy k))⟩
    · exact (congrFun (h3.2.2 _ (by omega)) d).trans ((h2.2 _ (by omega) d).trans ((h1.2.2.2 _ (by omega) d).trans (hi.1 d hd)))
    · exact (h3.2.1 _ (by omega)).trans ((h2.2 _ (by omega) _).trans ((h1.2.2.2 _ (by omega) _).trans (hi.2.1 d hd hgd t ht hWt)))
    · have z := h3.1 t ht
      rw [show 5 * 10 + t = 50 + t by omega] at z
      rw [z]
      refine (fw_ar (O := fun q => decide (q = p)) (W := W) (by omega) hk1 hk2 hk3 ht hWt (decide_eq_false htp)).trans ?_
      unfold wyN
      rw [if_neg (by omega)]
  · refine r_aload_n hX dX1_foresee_9 rfl ?_
    refine r_getr hX dX1_foresee_10 fl_X1_25 rfl (LX1_s hw) (LX1_r3 hw) ?_
    refine r_iload hX dX1_foresee_13 rfl ?_
    refine r_iconst (v := nI 0) hX dX1_foresee_15 (by decide) ?_
    refine rn_iast hX dX1_foresee_16 (LX1_a3 hw) rfl (by omega) (by omega) ?_
    refine r_iload hX dX1_foresee_17 rfl ?_
    refine r_iload hX dX1_foresee_19 rfl ?_
    refine r_cN2 (host := RX10) hX dX1_foresee_21 IX10_has (by decide +kernel) rfl (t_X10_has (M := uI (wI M i) (w + 5) c (nI 0))) (by decide) (by decide) (by decide) (by decide) rfl (Nat.le_of_ble_eq_true rfl) ?_
    rw [itec (hasP_set (f := g) (by omega) (by omega)), itec (show (c < 5 ∧ c ≤ 30 ∧ g c = true) ↔ g c = true from ⟨fun z => z.2.2, fun z => ⟨by omega, by omega, z⟩⟩)]
    refine rb_if_eq (tgt := 71) hX dX1_foresee_24 (by decide) rfl (fun c24 => ?_) (fun c24 => ?_)
    · refine rn_iinc6 hX dX1_foresee_71 rfl rfl ?_
      refine r_goto (tgt := 3) hX dX1_foresee_74 (by decide) ?_
      refine ih (by omega) (mI (uI (wI M i) (w + 5) c (nI 0))) ⟨fun d hd => ?_, fun d hd hgd t ht hWt => ?_, fun y hy k => (congrFun (uIo (by omega)) k).trans (hi.2.2 y hy k)⟩
      · rw [mI_uI, if_pos rfl]
        by_cases e : d = c
        · rw [if_pos e]
        · rw [if_neg e]
          exact hi.1 d (by omega)
      · rw [mI_uI, if_neg (by omega)]
        exact hi.2.1 d (by have : ¬ d = c := fun e => c24 (by rw [← e]; exact hgd); omega) hgd t ht hWt
    · refine r_aload_n hX dX1_foresee_27 rfl ?_
      refine r_getr hX dX1_foresee_28 fl_X1_12 rfl (LX1_s hw) (LX1_r0 hw) ?_
      refine r_iconst (v := 0) hX dX1_foresee_31 (by decide) ?_
      refine r_iload hX dX1_foresee_32 rfl ?_
      refine r_cN1 (host := RX10) hX dX1_foresee_34 IX10_bit (by decide +kernel) rfl (t_X10_bit (M := uI (wI M i) (w + 5) c (nI 0))) (by decide) (by decide) (by decide) (by decide) rfl (Nat.le_of_ble_eq_true rfl) ?_
      refine r_iV2 hX dX1_foresee_37 IX7_begin ml_X1_119 rfl (LX7_s (LX1_o0 hw)) rfl (t_X7_begin (M := uI (wI M i) (w + 5) c (nI 0)) (LX1_o0 hw)) (by decide) (by decide) (by decide) (by decide) rfl (Nat.le_of_ble_eq_true rfl) (fun i1 h1 => ?_)
      show J G base X _ _ (wI M i1) _ _ _
      
      have ho1 : ∀ y, (y ≤ w ∨ w + 6 ≤ y ∨ y = w + 4) → ∀ k, i1 y k = mI M y k := fun y hy k => (h1.2.2.2 _ (by omega) k).trans ((congrFun (uIo (by omega)) k).trans (hi.2.2 y hy k))
      refine r_aload_n hX dX1_foresee_40 rfl ?_
      refine r_getr hX dX1_foresee_41 fl_X1_12 rfl (LX1_s hw) (LX1_r0 hw) ?_
      refine r_aload_n hX dX1_foresee_44 rfl ?_
      refine r_aload_n hX dX1_foresee_45 rfl ?_
      refine r_geti hX dX1_foresee_46 fl_X1_43 rfl (LX8_s hL) ?_
      refine r_iconst (v := (-1)) hX dX1_foresee_49 (by decide) ?_
      refine r_ixor hX dX1_foresee_50 ?_
      refine r_aload_n hX dX1_foresee_51 rfl ?_
      refine rn_geti (v := nI h) hX dX1_foresee_52 fl_X1_34 rfl (LX8_s hL) ((hR.kept (fun y hy hy2 k => ho1 y (by omega) k)).1.1.trans ht6) ?_
      refine r_iconst (v := nI 1) hX dX1_foresee_55 (by decide) ?_
      refine rn_iadd hX dX1_foresee_56 rfl rfl ?_
      refine r_sipush (v := nI 240) hX dX1_foresee_57 (by decide) ?_
      refine r_iload hX dX1_foresee_60 rfl ?_
      refine r_iV5 hX dX1_foresee_62 IX7_follow ml_X1_122 rfl (LX7_s (LX1_o0 hw)) rfl (t_X7_follow (M := wI M i1) (C := fun k => decide (k = c)) (O := fun _ => false) (W := W) (m := 240) (LX1_o0 hw) hb (by omega) (hT.kept (fun y hy hy2 k => ho1 y (by omega) k)) hO (wk_of (hR.kept (fun y hy hy2 k => ho1 y (by omega) k))) (by omega) ⟨h1.1.trans setB_none.symm, h1.2.1.trans (bit_set (by omega) (by omega)), h1.2.2.1⟩) (by decide) (by decide) (by decide) (by decide) rfl (Nat.le_of_ble_eq_true rfl) (fun i2 h2 => ?_)
      show J G base X _ _ (wI M i2) _ _ _
      
      refine r_aload_n hX dX1_foresee_65 rfl ?_
      refine r_iload hX dX1_foresee_66 rfl ?_
      refine r_iV1 hX dX1_foresee_68 IX1_noteArrivals ml_X1_126 rfl (LX1_s hw) rfl (t_X1_noteArrivals (M := wI M i2) (v := c) hw (by omega)) (by decide) (by decide) (by decide) (by decide) rfl (Nat.le_of_ble_eq_true rfl) (fun i3 h3 => ?_)
      show J G base X _ _ (wI M i3) _ _ _
      
      refine rn_iinc6 hX dX1_foresee_71 rfl rfl ?_
      refine r_goto (tgt := 3) hX dX1_foresee_74 (by decide) ?_
      refine ih (by omega) i3 ⟨fun d hd => ?_, fun d hd hgd t ht hWt => ?_, fun y hy k => ?_⟩
      · refine (congrFun (h3.2.2 _ (by omega)) d).trans ((h2.2 _ (by omega) d).trans ((h1.2.2.2 _ (by omega) d).trans ?_))
        rw [mI_uI, if_pos rfl]
        by_cases e : d = c
        · rw [if_pos e]
        · rw [if_neg e]
          exact hi.1 d (by omega)
      · by_cases e : d = c
        · subst e
          obtain ⟨k, hk1, hk2, hk3⟩ := h2.1
          rw [h3.1 t ht]
          refine (fw_ar (O := fun _ => false) (W := W) (by omega) hk1 hk2 hk3 ht hWt rfl).trans ?_
          unfold wyN
          rw [if_pos (by omega)]
        · refine (h3.2.1 _ (by omega)).trans ((h2.2 _ (by omega) _).trans ((h1.2.2.2 _ (by omega) _).trans ?_))
          rw [mI_uI, if_neg (by omega)]
          exact hi.2.1 d (by omega) hgd t ht hWt
      · exact (congrFun (h3.2.2 _ (by omega)) k).trans ((h2.2 _ (by omega) k).trans (ho1 y hy k))
