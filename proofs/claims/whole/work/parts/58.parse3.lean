variable {G : GG} {base : Nat}
theorem nuQ1_ok {u : Nat → Nat} {e : Nat} {q : Q4} (h : (nuQ1 u e q).2.2.1 = -1) (hp : q.1 ≤ e) (he : e ≤ 900) : q.2.2.1 = -1 ∧ nuQ1 u e q = blQ u e q ∧ (blQ u e q).2.1 = (blQ u e q).1 ∧ (blQ u e q).1 < e ∧ dgB u (blQ u e q).1 = true := by
  by_cases hf : q.2.2.1 = -1
  · have hb := blQ_le (u := u) hp
    have e2 : (blQ u e q).2.1 = (blQ u e q).1 := by unfold blQ; rw [if_pos hf]
    obtain ⟨h1, h2, h3⟩ := muQ_ok (c := decide ((blQ u e q).1 < e ∧ dgB u (blQ u e q).1 = true)) (k := 1) (q := blQ u e q) h (by omega)
    exact ⟨hf, h1, e2, (of_decide_eq_true h2).1, (of_decide_eq_true h2).2⟩
  · refine absurd ?_ hf
    have hq : blQ u e q = q := by unfold blQ; rw [if_neg hf]
    unfold nuQ1 at h
    rw [hq] at h
    unfold muQ at h
    rw [if_pos (Or.inr hf)] at h
    exact h
theorem nuQ_le {u : Nat → Nat} {e lo hi : Nat} {q : Q4} (h : q.1 ≤ e) : (nuQ u e lo hi q).1 ≤ e := by
  have h1 := blQ_le (u := u) h
  unfold nuQ
  split
  · unfold nuQ2
    rw [muQ_1]
    exact eo_le h1
  · unfold nuQ1
    rw [muQ_1]
    exact h1
set_option maxHeartbeats 2000000 in
set_option maxRecDepth 20000 in
theorem t_X11_number {M : Mm} {a e : Nat} {u : Nat → Nat} {q : Q4} (hL : LX11 M.1 M.2.1 a) (hT : Tt (mI M) a u e) (hq : Pq (mI M) a q) (hp : q.1 ≤ e) {lo hh : Nat} (hlo : lo < 2000) (hhh : hh < 2000) : Ct G base YX11_number 3 0 0 [.ref a, .int (nI lo), .int (nI hh)] M (rI (some (.int (nI (nuW u e lo hh q)))) M (pS M a (nuQ u e lo hh q))) := by
  refine Ct.of IX11_number.1 (by simp [Value.category]) (Nat.le_of_ble_eq_true rfl) (fun X hX hN => ?_)
  show J G base X 0 0 M 0 [some (.ref a), some (.int (nI lo)), some (.int (nI hh)), none] []
  have he := hT.2.2
  have hb := blQ_le (u := u) hp
  refine r_aload_n hX dX11_number_0 rfl ?_
  refine r_iV0 hX dX11_number_1 IX11_blanks ml_X11_118 rfl (LX11_s hL) rfl (t_X11_blanks hL hT hq hp) (by decide) (by decide) (by decide) (by decide) rfl (Nat.le_of_ble_eq_true rfl) (fun i1 h1 => ?_)
  show J G base X _ _ (wI M i1) _ _ _
  have hT1 := h1.tt hT
  refine r_aload_n hX dX11_number_4 rfl ?_
  refine r_aload_n hX dX11_number_5 rfl ?_
  refine r_bipush (v := nI 48) hX dX11_number_6 (by decide) ?_
  refine r_bipush (v := nI 57) hX dX11_number_8 (by decide) ?_
  refine r_cV2 hX dX11_number_10 IX11_isAt ml_X11_108 rfl (LX11_s hL) rfl (t_X11_isAt (M := wI M i1) hL hT1 h1.1 (by omega) (by omega) (by omega)) (by decide) (by decide) (by decide) (by decide) rfl (Nat.le_of_ble_eq_true rfl) ?_
  refine r_iconst (v := nI 1) hX dX11_number_13 (by decide) ?_
  refine r_iV2 hX dX11_number_14 IX11_must ml_X11_133 rfl (LX11_s hL) rfl (t_X11_must (M := wI M i1) (P := (blQ u e q).1 < e ∧ dgB u (blQ u e q).1 = true) (k := 1) hL h1.1) (by decide) (by decide) (by decide) (by decide) rfl (Nat.le_of_ble_eq_true rfl) (fun i2 h2 => ?_)
  show J G base X _ _ (wI M i2) _ _ _
  replace h2 := h1.tr h2
  change pS M a (nuQ1 u e q) i2 at h2
  refine r_aload_n hX dX11_number_17 rfl ?_
  refine r_cV0 hX dX11_number_18 IX11_hasFailed ml_X11_104 rfl (LX11_s hL) rfl (t_X11_hasFailed (M := wI M i2) hL h2.1) (by decide) (by decide) (by decide) (by decide) rfl (Nat.le_of_ble_eq_true rfl) ?_
  refine rb_if_eq (tgt := 26) hX dX11_number_21 (by decide) rfl (fun c21 => ?_) (fun c21 => ?_)
  · have hf : (nuQ1 u e q).2.2.1 = -1 := Classical.not_not.mp c21
    obtain ⟨-, hqb, e9, hbe, hbd⟩ := nuQ1_ok hf hp he
    have e1 : nuQ1 u e q = ((blQ u e q).1, (nuQ1 u e q).2) := Prod.ext muQ_1 rfl
    have e2 : (nuQ1 u e q).2.1 = (blQ u e q).1 := by rw [hqb]; exact e9
    refine r_iconst (v := nI 0) hX dX11_number_26 (by decide) ?_
    refine r_istore3 hX dX11_number_27 rfl ?_
    have start : J G base X 0 0 (wI M i2) 28 [some (.ref a), some (.int (nI lo)), some (.int (nI hh)), some (.int (nI (nuV u (blQ u e q).1 ((blQ u e q).1 - (blQ u e q).1))))] [] := ?_
    · rw [Nat.sub_self] at start
      exact start
    refine loop_us (σ := Nat → Nat → Int32) (P := fun j i => ((blQ u e q).1 ≤ j ∧ pS M a (j, (nuQ1 u e q).2) i ∧ eo (dgB u) e j = nuE u e q ∧ ∀ k, k < j - (blQ u e q).1 → dgB u ((blQ u e q).1 + k) = true) → J G base X 0 0 (wI M i) 28 [some (.ref a), some (.int (nI lo)), some (.int (nI hh)), some (.int (nI (nuV u (blQ u e q).1 (j - (blQ u e q).1))))] []) e (fun j i hj ih hi => ?_) (blQ u e q).1 i2 hb ⟨Nat.le_refl _, by rw [← e1]; exact h2, rfl, fun k hk => absurd hk (by omega)⟩
    have hTi := hi.2.1.tt hT
    refine r_aload_n hX dX11_number_28 rfl ?_
    refine r_bipush (v := nI 48) hX dX11_number_29 (by decide) ?_
    refine r_bipush (v := nI 57) hX dX11_number_31 (by decide) ?_
    refine r_cV2 hX dX11_number_33 IX11_isAt ml_X11_108 rfl (LX11_s hL) rfl (t_X11_isAt (M := wI M i) hL hTi hi.2.1.1 (by show j < 100000; omega) (by omega) (by omega)) (by decide) (by decide) (by decide) (by decide) rfl (Nat.le_of_ble_eq_true rfl) ?_
    refine rb_if_eq (tgt := 83) hX dX11_number_36 (by decide) rfl (fun c36 => ?_) (fun c36 => ?_)
    · obtain ⟨hge, hS, hE, hall⟩ := hi
      have hjE : nuE u e q = j := by rw [← hE]; exact eo_stop (by
        rcases Nat.lt_or_ge j e with h | h
        · refine Or.inr ?_
          cases hc : dgB u j with
          | false => rfl
          | true => exact absurd ⟨h, hc⟩ c36
        · exact Or.inl h)
      have hX9 : nuV u (blQ u e q).1 (j - (blQ u e q).1) = nuX u e q := by unfold nuX; rw [hjE]
      have hXb := (nuV_b (u := u) (p := (blQ u e q).1) (j - (blQ u e q).1) hall).1
      rw [hX9] at hXb ⊢
      rw [← hjE] at hS hge
      have h9 : i a 9 = nI (blQ u e q).1 := hS.1.2.1.trans (by rw [e2])
      have main : J G base X 0 0 (wI M i) 111 [some (.ref a), some (.int (nI lo)), some (.int (nI hh)), some (.int (nI (nuX u e q)))] [.int (if nuE u e q - (blQ u e q).1 ≤ 3 ∧ lo ≤ nuX u e q ∧ nuX u e q ≤ hh then 1 else 0), .ref a] := by
        refine r_iconst (v := nI 2) hX dX11_number_111 (by decide) ?_
        refine r_iV2 hX dX11_number_112 IX11_must ml_X11_133 rfl (LX11_s hL) rfl (t_X11_must (M := wI M i) (P := nuE u e q - (blQ u e q).1 ≤ 3 ∧ lo ≤ nuX u e q ∧ nuX u e q ≤ hh) (k := 2) hL hS.1) (by decide) (by decide) (by decide) (by decide) rfl (Nat.le_of_ble_eq_true rfl) (fun i4 h4 => ?_)
        show J G base X _ _ (wI M i4) _ _ _
        replace h4 := hS.tr h4
        change pS M a (nuQ2 u e lo hh q) i4 at h4
        refine r_aload_n hX dX11_number_115 rfl ?_
        refine r_cV0 hX dX11_number_116 IX11_hasFailed ml_X11_104 rfl (LX11_s hL) rfl (t_X11_hasFailed (M := wI M i4) hL h4.1) (by decide) (by decide) (by decide) (by decide) rfl (Nat.le_of_ble_eq_true rfl) ?_
        refine rb_if_eq (tgt := 126) hX dX11_number_119 (by decide) rfl (fun c119 => ?_) (fun c119 => ?_)
        · refine r_iload_n hX dX11_number_126 rfl ?_
          refine r_ireturn hX rfl rfl dX11_number_127 (by decide) (by decide) ?_
          refine ⟨?_, i4, rfl, ?_⟩
          · unfold nuW
            rw [if_pos ⟨hf, Classical.not_not.mp c119⟩]
          · unfold nuQ
            rw [if_pos hf]
            exact h4
        · refine r_iload_n hX dX11_number_122 rfl ?_
          refine r_goto (tgt := 127) hX dX11_number_123 (by decide) ?_
          refine r_ireturn hX rfl rfl dX11_number_127 (by decide) (by decide) ?_
          refine ⟨?_, i4, rfl, ?_⟩
          · unfold nuW
            rw [if_neg (fun y => c119 y.2)]
          · unfold nuQ
            rw [if_pos hf]
            exact h4
      refine r_aload_n hX dX11_number_83 rfl ?_
      refine r_aload_n hX dX11_number_84 rfl ?_
      refine rn_geti (v := nI (nuE u e q)) hX dX11_number_85 fl_X11_98 rfl (LX11_s hL) hS.1.1 ?_
      refine r_aload_n hX dX11_number_88 rfl ?_
      refine rn_geti (v := nI (blQ u e q).1) hX dX11_number_89 fl_X11_112 rfl (LX11_s hL) h9 ?_
      refine rn_isub hX dX11_number_92 rfl rfl (by omega) ?_
      refine r_iconst (v := nI 3) hX dX11_number_93 (by decide) ?_
      refine rn_icmp_gt (tgt := 110) hX dX11_number_94 (by decide) rfl rfl (by omega) (by omega) (fun c94 => ?_) (fun c94 => ?_)
      · refine r_iconst (v := nI 0) hX dX11_number_110 (by decide) ?_
        have hP : ¬ (nuE u e q - (blQ u e q).1 ≤ 3 ∧ lo ≤ nuX u e q ∧ nuX u e q ≤ hh) := fun y => by omega
        have z := main
        rw [if_neg hP] at z
        exact z
      · refine r_iload_n hX dX11_number_97 rfl ?_
        refine r_iload_n hX dX11_number_98 rfl ?_
        refine r_iload_n hX dX11_number_99 rfl ?_
        refine r_cS3 hX dX11_number_100 IX11_in ml_X11_79 rfl (t_X11_in (M := wI M i)) (by decide) (by decide) (by decide) (by decide) rfl (Nat.le_of_ble_eq_true rfl) ?_
        rw [show (if nI lo ≤ nI (nuX u e q) ∧ nI (nuX u e q) ≤ nI hh then (1 : Int32) else 0) = if lo ≤ nuX u e q ∧ nuX u e q ≤ hh then 1 else 0 from itec (and_congr (nI_leI (by omega) (by omega)) (nI_leI (by omega) (by omega)))]
        refine rb_if_eq (tgt := 110) hX dX11_number_103 (by decide) rfl (fun c103 => ?_) (fun c103 => ?_)
        · refine r_iconst (v := nI 0) hX dX11_number_110 (by decide) ?_
          have hP : ¬ (nuE u e q - (blQ u e q).1 ≤ 3 ∧ lo ≤ nuX u e q ∧ nuX u e q ≤ hh) := fun y => c103 y.2
          have z := main
          rw [if_neg hP] at z
          exact z
        · refine r_iconst (v := nI 1) hX dX11_number_106 (by decide) ?_
          refine r_goto (tgt := 111) hX dX11_number_107 (by decide) ?_
          have hP : (nuE u e q - (blQ u e q).1 ≤ 3 ∧ lo ≤ nuX u e q ∧ nuX u e q ≤ hh) := ⟨by omega, c103⟩
          have z := main
          rw [if_pos hP] at z
          exact z
    · have h36 : 48 ≤ u j ∧ u j ≤ 57 := of_decide_eq_true c36.2
      have hlt : j < e := c36.1
      have hge := hi.1
      have h9 : i a 9 = nI (blQ u e q).1 := hi.2.1.1.2.1.trans (by rw [e2])
      have hvb := (nuV_b (u := u) (p := (blQ u e q).1) (j - (blQ u e q).1) hi.2.2.2).1
      have hsb : sbI (u j) = nI (u j) := by unfold sbI; rw [if_pos (by omega)]
      refine r_aload_n hX dX11_number_39 rfl ?_
      refine rn_geti (v := nI j) hX dX11_number_40 fl_X11_98 rfl (LX11_s hL) hi.2.1.1.1 ?_
      refine r_aload_n hX dX11_number_43 rfl ?_
      refine rn_geti (v := nI (blQ u e q).1) hX dX11_number_44 fl_X11_112 rfl (LX11_s hL) h9 ?_
      refine rn_isub hX dX11_number_47 rfl rfl (by omega) ?_
      refine r_iconst (v := nI 3) hX dX11_number_48 (by decide) ?_
      refine rn_icmp_ge (tgt := 70) hX dX11_number_49 (by decide) rfl rfl (by omega) (by omega) (fun c49 => ?_) (fun c49 => ?_)
      · refine r_aload_n hX dX11_number_70 rfl ?_
        refine r_dup hX dX11_number_71 rfl ?_
        refine rn_geti (v := nI j) hX dX11_number_72 fl_X11_98 rfl (LX11_s hL) hi.2.1.1.1 ?_
        refine r_iconst (v := nI 1) hX dX11_number_75 (by decide) ?_
        refine rn_iadd hX dX11_number_76 rfl rfl ?_
        refine r_puti hX dX11_number_77 fl_X11_98 rfl rfl (LX11_s hL) ?_
        refine r_goto (tgt := 28) hX dX11_number_80 (by decide) ?_
        have z := ih (by omega) _ ⟨by omega, hi.2.1.put (by omega) (Pq8 (M := wI M i) (q := (j, (nuQ1 u e q).2)) hi.2.1.1), (eo_step c36.1 c36.2).symm.trans hi.2.2.1, fun k hk => by
          rcases (show k < j - (blQ u e q).1 ∨ (blQ u e q).1 + k = j by omega) with h | h
          · exact hi.2.2.2 k h
          · rw [h]; exact c36.2⟩
        rw [show j + 1 - (blQ u e q).1 = (j - (blQ u e q).1) + 1 by omega, show nuV u (blQ u e q).1 ((j - (blQ u e q).1) + 1) = nuV u (blQ u e q).1 (j - (blQ u e q).1) by show (if _ then _ else _) = _; exact if_neg (by omega)] at z
        exact z
      · refine r_bipush (v := nI 10) hX dX11_number_52 (by decide) ?_
        refine r_iload_n hX dX11_number_54 rfl ?_
        refine rn_imul hX dX11_number_55 rfl rfl ?_
        refine r_aload_n hX dX11_number_56 rfl ?_
        refine r_getr hX dX11_number_57 fl_X11_23 rfl (LX11_s hL) (LX11_r5 hL) ?_
        refine r_aload_n hX dX11_number_60 rfl ?_
        refine rn_geti (v := nI j) hX dX11_number_61 fl_X11_98 rfl (LX11_s hL) hi.2.1.1.1 ?_
        refine rn_bald hX dX11_number_64 (LX11_a5 hL) rfl (by omega) (by omega) ?_
        rw [show mI (wI M i) (a + 4) j = sbI (u j) from (hTi.1 _ hlt).2, hsb]
        refine rn_iadd hX dX11_number_65 rfl rfl ?_
        refine r_bipush (v := nI 48) hX dX11_number_66 (by decide) ?_
        refine rn_isub hX dX11_number_68 rfl rfl (by omega) ?_
        refine r_istore3 hX dX11_number_69 rfl ?_
        refine r_aload_n hX dX11_number_70 rfl ?_
        refine r_dup hX dX11_number_71 rfl ?_
        refine rn_geti (v := nI j) hX dX11_number_72 fl_X11_98 rfl (LX11_s hL) hi.2.1.1.1 ?_
        refine r_iconst (v := nI 1) hX dX11_number_75 (by decide) ?_
        refine rn_iadd hX dX11_number_76 rfl rfl ?_
        refine r_puti hX dX11_number_77 fl_X11_98 rfl rfl (LX11_s hL) ?_
        refine r_goto (tgt := 28) hX dX11_number_80 (by decide) ?_
        have z := ih (by omega) _ ⟨by omega, hi.2.1.put (by omega) (Pq8 (M := wI M i) (q := (j, (nuQ1 u e q).2)) hi.2.1.1), (eo_step c36.1 c36.2).symm.trans hi.2.2.1, fun k hk => by
          rcases (show k < j - (blQ u e q).1 ∨ (blQ u e q).1 + k = j by omega) with h | h
          · exact hi.2.2.2 k h
          · rw [h]; exact c36.2⟩
        rw [show j + 1 - (blQ u e q).1 = (j - (blQ u e q).1) + 1 by omega, show nuV u (blQ u e q).1 ((j - (blQ u e q).1) + 1) = 10 * nuV u (blQ u e q).1 (j - (blQ u e q).1) + u j - 48 by (show (if _ then _ else _) = _; rw [if_pos (show j - (blQ u e q).1 < 3 by omega), show (blQ u e q).1 + (j - (blQ u e q).1) = j by omega]; omega)] at z
        exact z
  · refine r_iload_n hX dX11_number_24 rfl ?_
    refine r_ireturn hX rfl rfl dX11_number_25 (by decide) (by decide) ?_
    refine ⟨?_, i2, rfl, ?_⟩
    · unfold nuW
      rw [if_neg (fun y => c21 y.1)]
    · unfold nuQ
      rw [if_neg c21]
      exact h2
