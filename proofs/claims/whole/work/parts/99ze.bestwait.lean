variable {G : GG} {base : Nat}
theorem bwS9 {n : Nat → Int32} {p q w m : Nat} (h9 : nv n 6 < 900000) (hw : w < 168) (hm : m ≤ 240) (st : ((bwF n p q w).1 = -1 ∧ m = 240) ∨ (¬ (bwF n p q w).1 = -1 ∧ (bwF n p q w).2 = nI m)) :
    (arN n (nv n 6 + w) (fun _ => false) (fun x => decide (x = p)) m q = -1 → bwF n p q (w + 1) = bwF n p q w) ∧
    (¬ arN n (nv n 6 + w) (fun _ => false) (fun x => decide (x = p)) m q = -1 → ∃ j, j < m ∧ arN n (nv n 6 + w) (fun _ => false) (fun x => decide (x = p)) m q = nI (nv n 6 + w + j) ∧ bwF n p q (w + 1) = (nI w, nI j)) := by
  generalize hh : nv n 6 + w = h
  have hB : bwA n p q w = arN n h (fun _ => false) (fun x => decide (x = p)) 240 q := by unfold bwA; rw [hh]
  have e1 : bwF n p q (w + 1) = if ¬ bwA n p q w = -1 ∧ ((bwF n p q w).1 = -1 ∨ bwA n p q w - nI (nv n 6 + w) < (bwF n p q w).2) then (nI w, bwA n p q w - nI (nv n 6 + w)) else bwF n p q w := rfl
  rw [hh] at e1
  refine ⟨fun hA => ?_, fun hA => ?_⟩
  · rw [e1, if_neg (fun z => ?_)]
    obtain ⟨z1, z2⟩ := z
    rcases st with ⟨s1, s2⟩ | ⟨s1, s2⟩
    · rw [s2] at hA
      exact z1 (hB.trans hA)
    · have z3 := z2.resolve_left s1
      rw [hB] at z1 z3
      rcases arN_spec (n := n) (h := h) (C := fun _ => false) (O := fun x => decide (x = p)) (p := q) 240 (by omega) with ⟨k1, -⟩ | ⟨j, j1, j2, j3, -⟩
      · exact z1 k1
      · rw [j2, s2, show nI (h + j) - nI h = nI j from (pk_sub (by omega)).trans (congrArg nI (by omega)), nI_ltI (by omega) (by omega)] at z3
        rcases arN_spec (n := n) (h := h) (C := fun _ => false) (O := fun x => decide (x = p)) (p := q) m (by omega) with ⟨-, k2⟩ | ⟨j', q1, q2, -⟩
        · rw [k2 j z3] at j3
          cases j3
        · rw [hA] at q2
          exact nI_ne_m1 (by omega) q2.symm
  · rcases arN_spec (n := n) (h := h) (C := fun _ => false) (O := fun x => decide (x = p)) (p := q) m (by omega) with ⟨k1, -⟩ | ⟨j, j1, j2, -⟩
    · exact absurd k1 hA
    · refine ⟨j, j1, j2, ?_⟩
      have hB2 : bwA n p q w = nI (h + j) := hB.trans ((arN_stay hm hA).trans j2)
      have e3 : nI (h + j) - nI h = nI j := (pk_sub (by omega)).trans (congrArg nI (by omega))
      rw [e1, hB2, e3, if_pos ⟨nI_ne_m1 (by omega), st.elim (fun z => Or.inl z.1) (fun z => Or.inr (by rw [z.2, nI_ltI (by omega) (by omega)]; exact j1))⟩]
set_option maxHeartbeats 2000000 in
set_option maxRecDepth 20000 in
theorem t_c_bestWait {M : Mm} {a : Nat} {σ : Sg} {T : Nat} (hL : LX10 M.1 M.2.1 a) (hC : CI (mI M) a σ) (hO : OkN T σ.1) (hT9 : T < 890000) {x y : Int32} : Ct G base YX10_bestWait 20 1 6 [.ref a, .int x, .int y] M (rC M a 3 4 (rs_bestWait σ x y) σ) := by
  obtain ⟨hT, hS, hLt, h4, h5, h6, hLo, hSt, hNa⟩ := hO
  have h0 := hT.1
  have h1 := hT.2.1
  have hr := hT.2.2
  have h2 := hLt.1
  have h3 := hLt.2.1
  have hb0 := h0.2
  have hb1 := h1.2
  have hb2 := h2.2
  have hb3 := h3.2
  have hb4 := h4.2
  have ht6 : σ.1 6 = nI (nv σ.1 6) := h6.1
  have hh6 : nv σ.1 6 ≤ T := h6.2
  have hTT : TT (mI M) (a + 28) σ.1 := hC.2.2.2.1
  have hRS : RS (mI M) (a + 34) σ.1 := hC.2.2.2.2.1
  have hHR : HR (mI M) (a + 52) σ.2.1 σ.2.2.1 := hC.2.2.2.2.2.1
  have hpc : mI M (a + 28) 0 = nI (nv σ.1 0) := hTT.1.trans h0.1
  have hcc : mI M (a + 28) 2 = nI (nv σ.1 1) := hTT.2.2.1.trans h1.1
  have hlc : mI M (a + 34 + 2) 0 = nI (nv σ.1 2) := hRS.2.2.1.1.trans h2.1
  have hkc : mI M (a + 34 + 15) 0 = nI (nv σ.1 3) := hRS.2.2.2.2.1.trans h3.1
  have hrc : mI M (a + 34 + 13) 0 = nI (nv σ.1 4) := hRS.2.2.2.1.1.trans h4.1
  have htm : mI M (a + 34) 0 = nI (nv σ.1 6) := hRS.1.1.trans ht6
  by_cases hx : ∃ p q, x = nI p ∧ y = nI q ∧ town σ.1 p = true ∧ town σ.1 q = true ∧ p ≠ q
  · obtain ⟨p, q, rfl, rfl, hp, hq, hne⟩ := hx
    have hpt := town_lt hp
    have hqt := town_lt hq
    refine Ct.of IX10_bestWait.1 (by simp [Value.category]) (Nat.le_of_ble_eq_true rfl) (fun X hX hN => ?_)
    show J G base X 0 0 M 0 [some (.ref a), some (.int (nI p)), some (.int (nI q)), none, none, none, none, none] []
    refine r_aload_n hX dX10_bestWait_0 rfl ?_
    refine r_iload_n hX dX10_bestWait_1 rfl ?_
    refine r_iload_n hX dX10_bestWait_2 rfl ?_
    refine r_cV2 hX dX10_bestWait_3 IX10_needJourney ml_X10_242 rfl (LX10_s hL) rfl (t_nj1 hL hTT h0 hp hq hne) (by decide) (by decide) (by decide) (by decide) rfl (Nat.le_of_ble_eq_true rfl) ?_
    refine r_iconst (v := (-1)) hX dX10_bestWait_6 (by decide) ?_
    refine r_istore3 hX dX10_bestWait_7 rfl ?_
    refine r_sipush (v := nI 240) hX dX10_bestWait_8 (by decide) ?_
    refine r_istore4 hX dX10_bestWait_11 rfl ?_
    refine r_iconst (v := nI 0) hX dX10_bestWait_13 (by decide) ?_
    refine r_istore5 hX dX10_bestWait_14 rfl ?_
    have hpt9 : p < 10 := by omega
    have hqt9 : q < 10 := by omega
    show J G base X 0 0 (wI M (mI M)) 16 _ []
    refine loop_us (σ := (Nat → Nat → Int32) × Int32 × Nat) (P := fun w s => (spO M a s.1 ∧ s.2.1 = (bwF σ.1 p q w).1 ∧ s.2.2 ≤ 240 ∧ (((bwF σ.1 p q w).1 = -1 ∧ s.2.2 = 240) ∨ (¬ (bwF σ.1 p q w).1 = -1 ∧ (bwF σ.1 p q w).2 = nI s.2.2))) → J G base X 0 0 (wI M s.1) 16 [some (.ref a), some (.int (nI p)), some (.int (nI q)), some (.int s.2.1), some (.int (nI s.2.2)), some (.int (nI w)), none, none] []) 168 (fun w s hj ih hi => ?_) 0 (mI M, -1, 240) (Nat.zero_le _) ⟨fun _ _ _ => rfl, rfl, Nat.le_refl _, Or.inl ⟨rfl, rfl⟩⟩
    obtain ⟨i, b, m⟩ := s
    dsimp only at hi ih ⊢
    refine r_iload hX dX10_bestWait_16 rfl ?_
    refine r_sipush (v := nI 168) hX dX10_bestWait_18 (by decide) ?_
    refine rn_icmp_ge (tgt := 108) hX dX10_bestWait_21 (by decide) rfl rfl (by omega) (by omega) (fun c21 => ?_) (fun c21 => ?_)
    · refine r_iload_n hX dX10_bestWait_108 rfl ?_
      refine r_ireturn hX rfl rfl dX10_bestWait_109 (by decide) (by decide) ?_
      obtain rfl : w = 168 := by omega
      refine rC.y ?_ (hi.1.ci hC) hi.1.out
      unfold rs_bestWait
      rw [pair_ok hb0 hp hq hne]
      dsimp only
      rw [hi.2.1]
    · refine r_aload_n hX dX10_bestWait_24 rfl ?_
      refine r_getr hX dX10_bestWait_25 fl_X10_40 rfl (LX10_s hL) (LX10_r6 hL) ?_
      refine rn_geti (v := nI (nv σ.1 6)) hX dX10_bestWait_28 fl_X10_160 rfl (LX8_s (LX10_o6 hL)) ((hi.1.rs hRS).1.1.trans ht6) ?_
      refine r_iload hX dX10_bestWait_31 rfl ?_
      refine rn_iadd hX dX10_bestWait_33 rfl rfl ?_
      refine r_istore6 hX dX10_bestWait_34 rfl ?_
      refine r_aload_n hX dX10_bestWait_36 rfl ?_
      refine r_getr hX dX10_bestWait_37 fl_X10_54 rfl (LX10_s hL) (LX10_r8 hL) ?_
      refine r_iload_n hX dX10_bestWait_40 rfl ?_
      refine r_cS1 hX dX10_bestWait_41 IX10_bit ml_X10_230 rfl (t_X10_bit (M := wI M i)) (by decide) (by decide) (by decide) (by decide) rfl (Nat.le_of_ble_eq_true rfl) ?_
      refine r_iconst (v := 0) hX dX10_bestWait_44 (by decide) ?_
      refine r_iV2 hX dX10_bestWait_45 IX7_begin ml_X10_248 rfl (LX7_s (LX10_o8 hL)) rfl (t_X7_begin (M := wI M i) (LX10_o8 hL)) (by decide) (by decide) (by decide) (by decide) rfl (Nat.le_of_ble_eq_true rfl) (fun i1 h1 => ?_)
      show J G base X _ _ (wI M i1) _ _ _
      have ho1 : spO M a i1 := fun y hy k => (h1.2.2.2 y (by omega) k).trans (hi.1 y hy k)
      refine r_aload_n hX dX10_bestWait_48 rfl ?_
      refine r_getr hX dX10_bestWait_49 fl_X10_54 rfl (LX10_s hL) (LX10_r8 hL) ?_
      refine r_aload_n hX dX10_bestWait_52 rfl ?_
      refine r_getr hX dX10_bestWait_53 fl_X10_33 rfl (LX10_s hL) (LX10_r5 hL) ?_
      refine r_aload_n hX dX10_bestWait_56 rfl ?_
      refine r_getr hX dX10_bestWait_57 fl_X10_40 rfl (LX10_s hL) (LX10_r6 hL) ?_
      refine r_geti hX dX10_bestWait_60 fl_X10_187 rfl (LX8_s (LX10_o6 hL)) ?_
      refine r_iconst (v := (-1)) hX dX10_bestWait_63 (by decide) ?_
      refine r_ixor hX dX10_bestWait_64 ?_
      refine r_iload hX dX10_bestWait_65 rfl ?_
      refine r_iload hX dX10_bestWait_67 rfl ?_
      refine r_iload_n hX dX10_bestWait_69 rfl ?_
      refine r_cS1 hX dX10_bestWait_70 IX10_bit ml_X10_230 rfl (t_X10_bit (M := wI M i1)) (by decide) (by decide) (by decide) (by decide) rfl (Nat.le_of_ble_eq_true rfl) ?_
      rw [bit_set (m := 10) (by omega) hqt9]
      refine r_iV5 hX dX10_bestWait_73 IX7_follow ml_X10_251 rfl (LX7_s (LX10_o8 hL)) rfl (t_X7_follow (M := wI M i1) (C := fun _ => false) (O := fun x => decide (x = p)) (W := fun x => decide (x = q)) (m := m) (LX10_o8 hL) (LX10_o5 hL) (by omega) (ho1.tt hTT) hT (wk_of (ho1.rs hRS)) (by omega) ⟨h1.1.trans (bit_set (by omega) (by omega)), h1.2.1.trans setB_none.symm, h1.2.2.1⟩) (by decide) (by decide) (by decide) (by decide) rfl (Nat.le_of_ble_eq_true rfl) (fun i2 h2 => ?_)
      show J G base X _ _ (wI M i2) _ _ _
      have ho2 : spO M a i2 := fun y hy k => (h2.2 y (by omega) k).trans (ho1 y hy k)
      refine r_aload_n hX dX10_bestWait_76 rfl ?_
      refine r_getr hX dX10_bestWait_77 fl_X10_54 rfl (LX10_s hL) (LX10_r8 hL) ?_
      refine r_iload_n hX dX10_bestWait_80 rfl ?_
      refine r_cV1 hX dX10_bestWait_81 IX7_arrivalAt ml_X10_258 rfl (LX7_s (LX10_o8 hL)) rfl (t_X7_arrivalAt (M := wI M i2) (LX10_o8 hL) hqt9) (by decide) (by decide) (by decide) (by decide) rfl (Nat.le_of_ble_eq_true rfl) ?_
      rw [show mI (wI M i2) (a + 198 + 1) q = arN σ.1 (nv σ.1 6 + w) (fun _ => false) (fun x => decide (x = p)) m q from by
        obtain ⟨k, hk1, hk2, hk3⟩ := h2.1
        exact fw_ar (O := fun x => decide (x = p)) (W := fun x => decide (x = q)) (by omega) hk1 hk2 hk3 hqt9 (decide_eq_true rfl) (decide_eq_false (fun e => hne e.symm))]
      have hst := bwS9 (n := σ.1) (p := p) (q := q) (w := w) (m := m) (by omega) (by omega) hi.2.2.1 hi.2.2.2
      refine r_istore7 hX dX10_bestWait_84 rfl ?_
      refine r_iload hX dX10_bestWait_86 rfl ?_
      refine r_iconst (v := (-1)) hX dX10_bestWait_88 (by decide) ?_
      refine r_icmp_eq (tgt := 102) hX dX10_bestWait_89 (by decide) (fun c89 => ?_) (fun c89 => ?_)
      · refine rn_iinc5 hX dX10_bestWait_102 rfl rfl ?_
        refine r_goto (tgt := 16) hX dX10_bestWait_105 (by decide) ?_
        have eB := hst.1 c89
        exact J.junk (ih (by omega) (i2, b, m) ⟨ho2, by rw [eB]; exact hi.2.1, hi.2.2.1, by rw [eB]; exact hi.2.2.2⟩) (by repeat first | exact trivial | refine ⟨rfl, ?_⟩)
      · obtain ⟨j, hj, eA, eB⟩ := hst.2 c89
        rw [eA]
        refine r_iload hX dX10_bestWait_92 rfl ?_
        refine r_istore3 hX dX10_bestWait_94 rfl ?_
        refine r_iload hX dX10_bestWait_95 rfl ?_
        refine r_iload hX dX10_bestWait_97 rfl ?_
        refine rn_isub hX dX10_bestWait_99 rfl rfl (by omega) ?_
        refine r_istore4 hX dX10_bestWait_100 rfl ?_
        refine rn_iinc5 hX dX10_bestWait_102 rfl rfl ?_
        refine r_goto (tgt := 16) hX dX10_bestWait_105 (by decide) ?_
        refine J.junk (ih (by omega) (i2, nI w, nv σ.1 6 + w + j - (nv σ.1 6 + w)) ⟨ho2, by rw [eB], by show nv σ.1 6 + w + j - (nv σ.1 6 + w) ≤ 240; omega, Or.inr ⟨by rw [eB]; exact nI_ne_m1 (by omega), ?_⟩⟩) (by repeat first | exact trivial | refine ⟨rfl, ?_⟩)
        rw [eB]
        show nI j = nI (nv σ.1 6 + w + j - (nv σ.1 6 + w))
        exact congrArg nI (by omega)
  · refine Ct.of IX10_bestWait.1 (by simp [Value.category]) (Nat.le_of_ble_eq_true rfl) (fun X hX hN => ?_)
    show J G base X 0 0 M 0 [some (.ref a), some (.int x), some (.int y), none, none, none, none, none] []
    refine r_aload_n hX dX10_bestWait_0 rfl ?_
    refine r_iload_n hX dX10_bestWait_1 rfl ?_
    refine r_iload_n hX dX10_bestWait_2 rfl ?_
    refine r_tV2 hX dX10_bestWait_3 IX10_needJourney ml_X10_242 rfl (LX10_s hL) rfl (t_nj0 hL hTT h0 hx) (by decide) (by decide) (by decide) (by decide) rfl (Nat.le_of_ble_eq_true rfl) ?_
    exact rC.n0 (k := 1) (by unfold rs_bestWait; rw [pair_no hb0 hx]) rfl hC

