variable {G : GG} {base : Nat}
theorem setB_diff (f g : Nat → Bool) {k : Nat} (hk : k ≤ 32) : setB f k &&& (setB g k ^^^ -1) = setB (fun i => f i && !g i) k := by
  apply b_ext
  intro i hi
  rw [b_and, b_xor, b_m1 i hi, bt_setB f k hk, bt_setB g k hk, bt_setB _ k hk]
  cases decide (i < k) <;> simp
/-- reached in k hours -/
theorem sp_ar {n : Nat → Int32} {h : Nat} {C O W : Nat → Bool} {k m q : Nat} (hm : h + m < 2147483648) (hk : k ≤ m) (hx : k = m ∨ ∀ p, p < 10 → W p = true → (spN n h C O k).2 p = true) (hq : q < 10) (hW : W q = true) (hO : O q = false) : (spN n h C O k).2 q = true ↔ ¬ arN n h C O m q = -1 := by
  constructor
  · intro z
    exact arN_is hm hO (spN_mono hk z)
  · intro z
    rcases hx with rfl | hx
    · rcases arN_spec (n := n) (h := h) (C := C) (O := O) (p := q) k (by omega) with ⟨y, -⟩ | ⟨j, hj, -, y, -⟩
      · exact absurd y z
      · exact spN_mono (by omega) y
    · exact hx q hq hW
theorem reach_is {n : Nat → Int32} {p k : Nat} (h0 : nv n 0 ≤ 10) (hh : nv n 6 < 1000000) (hk : k ≤ 240) (hx : k = 240 ∨ ∀ q, q < 10 → (town n q && !decide (q = p)) = true → (spN n (nv n 6) (fun _ => false) (fun x => decide (x = p)) k).2 q = true) : setB (spN n (nv n 6) (fun _ => false) (fun x => decide (x = p)) k).2 10 &&& setB (fun q => town n q && !decide (q = p)) 10 = setB (fun q => decide (¬ q = p) && town n q && decide (¬ arP n p q = -1)) (nv n 0) := by
  have key : ∀ q, q < 10 → ((spN n (nv n 6) (fun _ => false) (fun x => decide (x = p)) k).2 q && (town n q && !decide (q = p))) = (decide (¬ q = p) && town n q && decide (¬ arP n p q = -1)) := fun q hq => by
    by_cases e : q = p
    · rw [decide_eq_true e, decide_eq_false (fun z => z e)]
      simp
    · rw [decide_eq_false e, decide_eq_true e]
      cases ht : town n q with
      | false => simp
      | true =>
        have z := sp_ar (W := fun q => town n q && !decide (q = p)) (O := fun x => decide (x = p)) (C := fun _ => false) (h := nv n 6) (n := n) (q := q) (by omega) hk hx hq (by show (town n q && !decide (q = p)) = true; rw [ht, decide_eq_false e]; rfl) (decide_eq_false e)
        have z2 : (spN n (nv n 6) (fun _ => false) (fun x => decide (x = p)) k).2 q = decide (¬ arP n p q = -1) := by
          apply Bool.eq_iff_iff.mpr
          rw [decide_eq_true_iff]
          exact z
        rw [z2]
        simp
  rw [setB_and _ _ (by omega), setB_congr key]
  refine setB_more h0 (fun j h1 h2 => ?_)
  rw [town_false h1]
  simp
set_option maxHeartbeats 2000000 in
set_option maxRecDepth 20000 in
theorem t_c_reach {M : Mm} {a : Nat} {σ : Sg} {T : Nat} (hL : LX10 M.1 M.2.1 a) (hC : CI (mI M) a σ) (hO : OkN T σ.1) (hT9 : T < 890000) {x : Int32} : Ct G base YX10_reach 20 1 6 [.ref a, .int x] M (rC M a 3 4 (rs_reach σ x) σ) := by
  obtain ⟨hT, hS, hLt, h4, h5, h6, hLo, hSt, hNa⟩ := hO
  have h0 := hT.1
  have h1 := hT.2.1
  have hr := hT.2.2
  have h2 := hLt.1
  have h3 := hLt.2.1
  have hb0 := h0.2
  have hb1 := h1.2
  have hb2 := h2.2
  have hb3 := h3.2
  have hb4 := h4.2
  have ht6 : σ.1 6 = nI (nv σ.1 6) := h6.1
  have hh6 : nv σ.1 6 ≤ T := h6.2
  have hTT : TT (mI M) (a + 28) σ.1 := hC.2.2.2.1
  have hRS : RS (mI M) (a + 34) σ.1 := hC.2.2.2.2.1
  have hHR : HR (mI M) (a + 52) σ.2.1 σ.2.2.1 := hC.2.2.2.2.2.1
  have hpc : mI M (a + 28) 0 = nI (nv σ.1 0) := hTT.1.trans h0.1
  have hcc : mI M (a + 28) 2 = nI (nv σ.1 1) := hTT.2.2.1.trans h1.1
  have hlc : mI M (a + 34 + 2) 0 = nI (nv σ.1 2) := hRS.2.2.1.1.trans h2.1
  have hkc : mI M (a + 34 + 15) 0 = nI (nv σ.1 3) := hRS.2.2.2.2.1.trans h3.1
  have hrc : mI M (a + 34 + 13) 0 = nI (nv σ.1 4) := hRS.2.2.2.1.1.trans h4.1
  have htm : mI M (a + 34) 0 = nI (nv σ.1 6) := hRS.1.1.trans ht6
  by_cases hx : ∃ p, x = nI p ∧ town σ.1 p = true
  · obtain ⟨p, rfl, hp⟩ := hx
    have hpt := town_lt hp
    refine Ct.of IX10_reach.1 (by simp [Value.category]) (Nat.le_of_ble_eq_true rfl) (fun X hX hN => ?_)
    show J G base X 0 0 M 0 [some (.ref a), some (.int (nI p)), none] []
    refine r_aload_n hX dX10_reach_0 rfl ?_
    refine r_iload_n hX dX10_reach_1 rfl ?_
    refine r_cV1 hX dX10_reach_2 IX10_needVillage ml_X10_245 rfl (LX10_s hL) rfl (t_nv1 hL hTT h0 ((townP_t h0 (by omega)).mpr hp)) (by decide) (by decide) (by decide) (by decide) rfl (Nat.le_of_ble_eq_true rfl) ?_
    refine r_aload_n hX dX10_reach_5 rfl ?_
    refine r_getr hX dX10_reach_6 fl_X10_33 rfl (LX10_s hL) (LX10_r5 hL) ?_
    refine rn_geti (v := setB (town σ.1) 10) hX dX10_reach_9 fl_X10_129 rfl (LX9_s (LX10_o5 hL)) hTT.2.1 ?_
    refine r_iload_n hX dX10_reach_12 rfl ?_
    refine r_cS1 hX dX10_reach_13 IX10_bit ml_X10_230 rfl (t_X10_bit) (by decide) (by decide) (by decide) (by decide) rfl (Nat.le_of_ble_eq_true rfl) ?_
    rw [bit_set (m := 10) (by omega) (by omega)]
    refine r_iconst (v := (-1)) hX dX10_reach_16 (by decide) ?_
    refine r_ixor hX dX10_reach_17 ?_
    refine r_iand hX dX10_reach_18 ?_
    rw [setB_diff _ _ (by omega)]
    refine r_istore2 hX dX10_reach_19 rfl ?_
    refine r_aload_n hX dX10_reach_20 rfl ?_
    refine r_getr hX dX10_reach_21 fl_X10_54 rfl (LX10_s hL) (LX10_r8 hL) ?_
    refine r_iload_n hX dX10_reach_24 rfl ?_
    refine r_cS1 hX dX10_reach_25 IX10_bit ml_X10_230 rfl (t_X10_bit) (by decide) (by decide) (by decide) (by decide) rfl (Nat.le_of_ble_eq_true rfl) ?_
    refine r_iconst (v := 0) hX dX10_reach_28 (by decide) ?_
    refine r_iV2 hX dX10_reach_29 IX7_begin ml_X10_248 rfl (LX7_s (LX10_o8 hL)) rfl (t_X7_begin (M := M) (LX10_o8 hL)) (by decide) (by decide) (by decide) (by decide) rfl (Nat.le_of_ble_eq_true rfl) (fun i1 h1 => ?_)
    show J G base X _ _ (wI M i1) _ _ _
    have ho1 : spO M a i1 := fun y hy k => h1.2.2.2 y (by omega) k
    refine r_aload_n hX dX10_reach_32 rfl ?_
    refine r_getr hX dX10_reach_33 fl_X10_54 rfl (LX10_s hL) (LX10_r8 hL) ?_
    refine r_aload_n hX dX10_reach_36 rfl ?_
    refine r_getr hX dX10_reach_37 fl_X10_33 rfl (LX10_s hL) (LX10_r5 hL) ?_
    refine r_aload_n hX dX10_reach_40 rfl ?_
    refine r_getr hX dX10_reach_41 fl_X10_40 rfl (LX10_s hL) (LX10_r6 hL) ?_
    refine r_geti hX dX10_reach_44 fl_X10_187 rfl (LX8_s (LX10_o6 hL)) ?_
    refine r_iconst (v := (-1)) hX dX10_reach_47 (by decide) ?_
    refine r_ixor hX dX10_reach_48 ?_
    refine r_aload_n hX dX10_reach_49 rfl ?_
    refine r_getr hX dX10_reach_50 fl_X10_40 rfl (LX10_s hL) (LX10_r6 hL) ?_
    refine rn_geti (v := nI (nv σ.1 6)) hX dX10_reach_53 fl_X10_160 rfl (LX8_s (LX10_o6 hL)) ((ho1.rs hRS).1.1.trans ht6) ?_
    refine r_sipush (v := nI 240) hX dX10_reach_56 (by decide) ?_
    refine r_iload_n hX dX10_reach_59 rfl ?_
    refine r_iV5 hX dX10_reach_60 IX7_follow ml_X10_251 rfl (LX7_s (LX10_o8 hL)) rfl (t_X7_follow (M := wI M i1) (C := fun _ => false) (O := fun x => decide (x = p)) (W := fun q => town σ.1 q && !decide (q = p)) (m := 240) (LX10_o8 hL) (LX10_o5 hL) (by omega) (ho1.tt hTT) hT (wk_of (ho1.rs hRS)) (by omega) ⟨h1.1.trans (bit_set (by omega) (by omega)), h1.2.1.trans setB_none.symm, h1.2.2.1⟩) (by decide) (by decide) (by decide) (by decide) rfl (Nat.le_of_ble_eq_true rfl) (fun i2 h2 => ?_)
    show J G base X _ _ (wI M i2) _ _ _
    have ho2 : spO M a i2 := fun y hy k => (h2.2 y (by omega) k).trans (ho1 y hy k)
    obtain ⟨k, hk1, hk2, hk3⟩ := h2.1
    refine r_aload_n hX dX10_reach_63 rfl ?_
    refine r_getr hX dX10_reach_64 fl_X10_54 rfl (LX10_s hL) (LX10_r8 hL) ?_
    refine rn_geti (v := setB (spN σ.1 (nv σ.1 6) (fun _ => false) (fun x => decide (x = p)) k).2 10) hX dX10_reach_67 fl_X10_255 rfl (LX7_s (LX10_o8 hL)) hk3.1 ?_
    refine r_iload_n hX dX10_reach_70 rfl ?_
    refine r_iand hX dX10_reach_71 ?_
    rw [reach_is hb0 (by omega) hk1 hk2]
    refine r_ireturn hX rfl rfl dX10_reach_72 (by decide) (by decide) ?_
    exact rC.y (by unfold rs_reach; rw [ix_of hpt (by omega)]; dsimp only; rw [if_pos hp]) (ho2.ci hC) ho2.out
  · refine Ct.of IX10_reach.1 (by simp [Value.category]) (Nat.le_of_ble_eq_true rfl) (fun X hX hN => ?_)
    show J G base X 0 0 M 0 [some (.ref a), some (.int x), none] []
    refine r_aload_n hX dX10_reach_0 rfl ?_
    refine r_iload_n hX dX10_reach_1 rfl ?_
    refine r_tV1 hX dX10_reach_2 IX10_needVillage ml_X10_245 rfl (LX10_s hL) rfl (t_nv0 hL hTT h0 (fun z => hx (by obtain ⟨q, hq, e, tq⟩ := townP_of h0 z; exact ⟨q, e, town_i.mpr ⟨hq, tq⟩⟩))) (by decide) (by decide) (by decide) (by decide) rfl (Nat.le_of_ble_eq_true rfl) ?_
    refine rC.n0 (k := 1) ?_ rfl hC
    unfold rs_reach
    by_cases hc : ∃ c, c < nv σ.1 0 ∧ x = nI c
    · obtain ⟨c, hc, rfl⟩ := hc
      rw [ix_of hc (by omega)]
      dsimp only
      rw [if_neg (fun z => hx ⟨c, rfl, z⟩)]
    · rw [ix_no hc]

set_option maxHeartbeats 2000000 in
set_option maxRecDepth 20000 in
theorem t_c_expected {M : Mm} {a : Nat} {σ : Sg} {T : Nat} (hL : LX10 M.1 M.2.1 a) (hC : CI (mI M) a σ) (hO : OkN T σ.1) (hT9 : T < 890000) {x : Int32} : Ct G base YX10_expected 20 1 6 [.ref a, .int x] M (rC M a 1 4 (rs_expected σ x) σ) := by
  obtain ⟨hT, hS, hLt, h4, h5, h6, hLo, hSt, hNa⟩ := hO
  have h0 := hT.1
  have h1 := hT.2.1
  have hr := hT.2.2
  have h2 := hLt.1
  have h3 := hLt.2.1
  have hb0 := h0.2
  have hb1 := h1.2
  have hb2 := h2.2
  have hb3 := h3.2
  have hb4 := h4.2
  have ht6 : σ.1 6 = nI (nv σ.1 6) := h6.1
  have hh6 : nv σ.1 6 ≤ T := h6.2
  have hTT : TT (mI M) (a + 28) σ.1 := hC.2.2.2.1
  have hRS : RS (mI M) (a + 34) σ.1 := hC.2.2.2.2.1
  have hHR : HR (mI M) (a + 52) σ.2.1 σ.2.2.1 := hC.2.2.2.2.2.1
  have hpc : mI M (a + 28) 0 = nI (nv σ.1 0) := hTT.1.trans h0.1
  have hcc : mI M (a + 28) 2 = nI (nv σ.1 1) := hTT.2.2.1.trans h1.1
  have hlc : mI M (a + 34 + 2) 0 = nI (nv σ.1 2) := hRS.2.2.1.1.trans h2.1
  have hkc : mI M (a + 34 + 15) 0 = nI (nv σ.1 3) := hRS.2.2.2.2.1.trans h3.1
  have hrc : mI M (a + 34 + 13) 0 = nI (nv σ.1 4) := hRS.2.2.2.1.1.trans h4.1
  have htm : mI M (a + 34) 0 = nI (nv σ.1 6) := hRS.1.1.trans ht6
  by_cases hx : ∃ c, c < nv σ.1 2 ∧ x = nI c
  · obtain ⟨l, hl, rfl⟩ := hx
    obtain ⟨f, t, v', s', w', g1, g2, g3, g4, g5, g6, g7, g8, g9, g10, g11, g12, g13, g14, g15⟩ := hLt.2.2 l hl
    have htt := town_lt g7
    have ev1 : nv σ.1 (498 + 10 * l + 1) = t := nv_of g2 (by omega)
    have e3 : mI M (a + 34 + 2 + 4) l = σ.1 (498 + 10 * l + 3) := hRS.2.2.1.2.2 l hl 3 (by omega)
    have e2 : mI M (a + 34 + 2 + 2) l = nI t := (hRS.2.2.1.2.2 l hl 1 (by omega)).trans g2
    refine Ct.of IX10_expected.1 (by simp [Value.category]) (Nat.le_of_ble_eq_true rfl) (fun X hX hN => ?_)
    show J G base X 0 0 M 0 [some (.ref a), some (.int (nI l)), none, none, none] []
    refine r_aload_n hX dX10_expected_0 rfl ?_
    refine r_getr hX dX10_expected_1 fl_X10_40 rfl (LX10_s hL) (LX10_r6 hL) ?_
    refine r_getr hX dX10_expected_4 fl_X10_107 rfl (LX8_s (LX10_o6 hL)) (LX8_r5 (LX10_o6 hL)) ?_
    refine r_astore2 hX dX10_expected_7 rfl ?_
    refine r_iload_n hX dX10_expected_8 rfl ?_
    refine r_aload_n hX dX10_expected_9 rfl ?_
    refine rn_geti (v := nI (nv σ.1 2)) hX dX10_expected_10 fl_X10_111 rfl (LX2_s (LX8_o5 (LX10_o6 hL))) hlc ?_
    refine r_cS2 hX dX10_expected_13 IX10_needIndex ml_X10_169 rfl (t_ni1 hl (by omega)) (by decide) (by decide) (by decide) (by decide) rfl (Nat.le_of_ble_eq_true rfl) ?_
    refine r_iconst (v := (-1)) hX dX10_expected_16 (by decide) ?_
    refine r_istore3 hX dX10_expected_17 rfl ?_
    refine r_aload_n hX dX10_expected_18 rfl ?_
    refine r_getr hX dX10_expected_19 fl_X10_219 rfl (LX2_s (LX8_o5 (LX10_o6 hL))) (LX2_r4 (LX8_o5 (LX10_o6 hL))) ?_
    refine r_iload_n hX dX10_expected_22 rfl ?_
    refine rn_iald hX dX10_expected_23 (LX2_a4 (LX8_o5 (LX10_o6 hL))) rfl (by omega) (by omega) ?_
    rw [e3]
    refine r_if_ne (tgt := 47) hX dX10_expected_24 (by decide) (fun c24 => ?_) (fun c24 => ?_)
    · refine r_aload_n hX dX10_expected_47 rfl ?_
      refine r_getr hX dX10_expected_48 fl_X10_219 rfl (LX2_s (LX8_o5 (LX10_o6 hL))) (LX2_r4 (LX8_o5 (LX10_o6 hL))) ?_
      refine r_iload_n hX dX10_expected_51 rfl ?_
      refine rn_iald hX dX10_expected_52 (LX2_a4 (LX8_o5 (LX10_o6 hL))) rfl (by omega) (by omega) ?_
      rw [e3]
      refine r_iconst (v := 1) hX dX10_expected_53 (by decide) ?_
      refine r_icmp_ne (tgt := 129) hX dX10_expected_54 (by decide) (fun c54 => ?_) (fun c54 => ?_)
      · have hEx : exA σ.1 l = -1 := by
          unfold exA
          rw [if_neg c24, if_neg c54]
        refine r_iload_n hX dX10_expected_129 rfl ?_
        refine r_iconst (v := (-1)) hX dX10_expected_130 (by decide) ?_
        refine r_icmp_ne (tgt := 138) hX dX10_expected_131 (by decide) (fun c131 => absurd rfl c131) (fun c131 => ?_)
        refine r_iconst (v := (-1)) hX dX10_expected_134 (by decide) ?_
        refine r_goto (tgt := 147) hX dX10_expected_135 (by decide) ?_
        refine r_ireturn hX rfl rfl dX10_expected_147 (by decide) (by decide) ?_
        exact rC.y0 (by unfold rs_expected; rw [ix_of hl (by omega)]; dsimp only; rw [hEx, if_pos rfl]) hC
      · obtain ⟨c, w9, hc5, -, ec4, -, ecr⟩ := hLt.sack hb1 hS hl c54
        have hcc : hcN σ.1 l = c := hcN_is ec4 ecr hc5
        have hEx : exA σ.1 l = arN σ.1 (nv σ.1 6) (fun x => decide (x = c)) (fun _ => false) 240 t := by
          unfold exA
          rw [if_neg c24, if_pos c54, ev1, hcc]
        refine r_aload_n hX dX10_expected_57 rfl ?_
        refine r_getr hX dX10_expected_58 fl_X10_122 rfl (LX2_s (LX8_o5 (LX10_o6 hL))) (LX2_r2 (LX8_o5 (LX10_o6 hL))) ?_
        refine r_iload_n hX dX10_expected_61 rfl ?_
        refine rn_iald hX dX10_expected_62 (LX2_a2 (LX8_o5 (LX10_o6 hL))) rfl (by omega) (by omega) ?_
        rw [e2]
        refine r_istore4 hX dX10_expected_63 rfl ?_
        refine r_aload_n hX dX10_expected_65 rfl ?_
        refine r_getr hX dX10_expected_66 fl_X10_54 rfl (LX10_s hL) (LX10_r8 hL) ?_
        refine r_iconst (v := 0) hX dX10_expected_69 (by decide) ?_
        refine r_aload_n hX dX10_expected_70 rfl ?_
        refine r_getr hX dX10_expected_71 fl_X10_40 rfl (LX10_s hL) (LX10_r6 hL) ?_
        refine r_iload_n hX dX10_expected_74 rfl ?_
        refine r_cV1 hX dX10_expected_75 IX8_holderOf ml_X10_261 rfl (LX8_s (LX10_o6 hL)) rfl (t_X8_holderOf (LX10_o6 hL) hRS hl) (by decide) (by decide) (by decide) (by decide) rfl (Nat.le_of_ble_eq_true rfl) ?_
        rw [if_pos c54, show cwF (fun c => σ.1 (33 + c)) (σ.1 (498 + 10 * l + 4)) 5 = nI c from by rw [ec4]; exact ecr]
        refine r_cS1 hX dX10_expected_78 IX10_bit ml_X10_230 rfl (t_X10_bit) (by decide) (by decide) (by decide) (by decide) rfl (Nat.le_of_ble_eq_true rfl) ?_
        refine r_iV2 hX dX10_expected_81 IX7_begin ml_X10_248 rfl (LX7_s (LX10_o8 hL)) rfl (t_X7_begin (M := M) (LX10_o8 hL)) (by decide) (by decide) (by decide) (by decide) rfl (Nat.le_of_ble_eq_true rfl) (fun i1 h1 => ?_)
        show J G base X _ _ (wI M i1) _ _ _
        have ho1 : spO M a i1 := fun y hy k => h1.2.2.2 y (by omega) k
        refine r_aload_n hX dX10_expected_84 rfl ?_
        refine r_getr hX dX10_expected_85 fl_X10_54 rfl (LX10_s hL) (LX10_r8 hL) ?_
        refine r_aload_n hX dX10_expected_88 rfl ?_
        refine r_getr hX dX10_expected_89 fl_X10_33 rfl (LX10_s hL) (LX10_r5 hL) ?_
        refine r_aload_n hX dX10_expected_92 rfl ?_
        refine r_getr hX dX10_expected_93 fl_X10_40 rfl (LX10_s hL) (LX10_r6 hL) ?_
        refine r_geti hX dX10_expected_96 fl_X10_187 rfl (LX8_s (LX10_o6 hL)) ?_
        refine r_iconst (v := (-1)) hX dX10_expected_99 (by decide) ?_
        refine r_ixor hX dX10_expected_100 ?_
        refine r_aload_n hX dX10_expected_101 rfl ?_
        refine r_getr hX dX10_expected_102 fl_X10_40 rfl (LX10_s hL) (LX10_r6 hL) ?_
        refine rn_geti (v := nI (nv σ.1 6)) hX dX10_expected_105 fl_X10_160 rfl (LX8_s (LX10_o6 hL)) ((ho1.rs hRS).1.1.trans ht6) ?_
        refine r_sipush (v := nI 240) hX dX10_expected_108 (by decide) ?_
        refine r_iload hX dX10_expected_111 rfl ?_
        refine r_cS1 hX dX10_expected_113 IX10_bit ml_X10_230 rfl (t_X10_bit (M := wI M i1)) (by decide) (by decide) (by decide) (by decide) rfl (Nat.le_of_ble_eq_true rfl) ?_
        rw [bit_set (m := 10) (by omega) (by omega)]
        refine r_iV5 hX dX10_expected_116 IX7_follow ml_X10_251 rfl (LX7_s (LX10_o8 hL)) rfl (t_X7_follow (M := wI M i1) (C := fun x => decide (x = c)) (O := fun _ => false) (W := fun x => decide (x = t)) (m := 240) (LX10_o8 hL) (LX10_o5 hL) (by omega) (ho1.tt hTT) hT (wk_of (ho1.rs hRS)) (by omega) ⟨h1.1.trans setB_none.symm, h1.2.1.trans (bit_set (by omega) (by omega)), h1.2.2.1⟩) (by decide) (by decide) (by decide) (by decide) rfl (Nat.le_of_ble_eq_true rfl) (fun i2 h2 => ?_)
        show J G base X _ _ (wI M i2) _ _ _
        have ho2 : spO M a i2 := fun y hy k => (h2.2 y (by omega) k).trans (ho1 y hy k)
        obtain ⟨k, hk1, hk2, hk3⟩ := h2.1
        have har : mI (wI M i2) (a + 198 + 1) t = exA σ.1 l := (fw_ar (O := fun _ => false) (W := fun x => decide (x = t)) (by omega) hk1 hk2 hk3 (by omega) (decide_eq_true rfl) rfl).trans hEx.symm
        generalize hA : exA σ.1 l = A at har
        refine r_aload_n hX dX10_expected_119 rfl ?_
        refine r_getr hX dX10_expected_120 fl_X10_54 rfl (LX10_s hL) (LX10_r8 hL) ?_
        refine r_iload hX dX10_expected_123 rfl ?_
        refine r_cV1 hX dX10_expected_125 IX7_arrivalAt ml_X10_258 rfl (LX7_s (LX10_o8 hL)) rfl (t_X7_arrivalAt (M := wI M i2) (LX10_o8 hL) (by omega)) (by decide) (by decide) (by decide) (by decide) rfl (Nat.le_of_ble_eq_true rfl) ?_
        rw [har]
        refine r_istore3 hX dX10_expected_128 rfl ?_
        refine r_iload_n hX dX10_expected_129 rfl ?_
        refine r_iconst (v := (-1)) hX dX10_expected_130 (by decide) ?_
        refine r_icmp_ne (tgt := 138) hX dX10_expected_131 (by decide) (fun c131 => ?_) (fun c131 => ?_)
        · refine r_iload_n hX dX10_expected_138 rfl ?_
          refine r_aload_n hX dX10_expected_139 rfl ?_
          refine r_getr hX dX10_expected_140 fl_X10_40 rfl (LX10_s hL) (LX10_r6 hL) ?_
          refine rn_geti (v := σ.1 6) hX dX10_expected_143 fl_X10_160 rfl (LX8_s (LX10_o6 hL)) ((ho2.rs hRS).1.1) ?_
          refine r_isub hX dX10_expected_146 ?_
          refine r_ireturn hX rfl rfl dX10_expected_147 (by decide) (by decide) ?_
          exact rC.y (by unfold rs_expected; rw [ix_of hl (by omega)]; dsimp only; rw [hA, if_neg c131]) (ho2.ci hC) ho2.out
        · refine r_iconst (v := (-1)) hX dX10_expected_134 (by decide) ?_
          refine r_goto (tgt := 147) hX dX10_expected_135 (by decide) ?_
          refine r_ireturn hX rfl rfl dX10_expected_147 (by decide) (by decide) ?_
          exact rC.y (by unfold rs_expected; rw [ix_of hl (by omega)]; dsimp only; rw [hA, if_pos c131]) (ho2.ci hC) ho2.out
    · have hs0 : s' = 0 := by
        rw [g4] at c24
        exact (nI_eq (a := s') (b := 0) (by omega) (by omega)).mp c24
      have hwl := town_lt (g11 hs0).1
      have ev4 : nv σ.1 (498 + 10 * l + 4) = w' := nv_of g5 (by omega)
      have e4 : mI M (a + 34 + 2 + 5) l = nI w' := (hRS.2.2.1.2.2 l hl 4 (by omega)).trans g5
      have hEx : exA σ.1 l = arN σ.1 (nv σ.1 6) (fun _ => false) (fun x => decide (x = w')) 240 t := by
        unfold exA
        rw [if_pos c24, ev1, ev4]
      refine r_aload_n hX dX10_expected_27 rfl ?_
      refine r_aload_n hX dX10_expected_28 rfl ?_
      refine r_getr hX dX10_expected_29 fl_X10_224 rfl (LX2_s (LX8_o5 (LX10_o6 hL))) (LX2_r5 (LX8_o5 (LX10_o6 hL))) ?_
      refine r_iload_n hX dX10_expected_32 rfl ?_
      refine rn_iald hX dX10_expected_33 (LX2_a5 (LX8_o5 (LX10_o6 hL))) rfl (by omega) (by omega) ?_
      rw [e4]
      refine r_aload_n hX dX10_expected_34 rfl ?_
      refine r_getr hX dX10_expected_35 fl_X10_122 rfl (LX2_s (LX8_o5 (LX10_o6 hL))) (LX2_r2 (LX8_o5 (LX10_o6 hL))) ?_
      refine r_iload_n hX dX10_expected_38 rfl ?_
      refine rn_iald hX dX10_expected_39 (LX2_a2 (LX8_o5 (LX10_o6 hL))) rfl (by omega) (by omega) ?_
      rw [e2]
      refine r_iV2 hX dX10_expected_40 IX10_arrivalFromOffice ml_X10_125 rfl (LX10_s hL) rfl (t_X10_arrivalFromOffice (M := M) hL hTT hRS hT ht6 (by omega) (p := w') (q := t) (by omega) (by omega) (g11 hs0).2) (by decide) (by decide) (by decide) (by decide) rfl (Nat.le_of_ble_eq_true rfl) (fun i1 h1 => ?_)
      show J G base X _ _ (wI M i1) _ _ _
      rw [← hEx]
      generalize hA : exA σ.1 l = A
      refine r_istore3 hX dX10_expected_43 rfl ?_
      refine r_goto (tgt := 129) hX dX10_expected_44 (by decide) ?_
      refine r_iload_n hX dX10_expected_129 rfl ?_
      refine r_iconst (v := (-1)) hX dX10_expected_130 (by decide) ?_
      refine r_icmp_ne (tgt := 138) hX dX10_expected_131 (by decide) (fun c131 => ?_) (fun c131 => ?_)
      · refine r_iload_n hX dX10_expected_138 rfl ?_
        refine r_aload_n hX dX10_expected_139 rfl ?_
        refine r_getr hX dX10_expected_140 fl_X10_40 rfl (LX10_s hL) (LX10_r6 hL) ?_
        refine rn_geti (v := σ.1 6) hX dX10_expected_143 fl_X10_160 rfl (LX8_s (LX10_o6 hL)) ((h1.rs hRS).1.1) ?_
        refine r_isub hX dX10_expected_146 ?_
        refine r_ireturn hX rfl rfl dX10_expected_147 (by decide) (by decide) ?_
        exact rC.y (by unfold rs_expected; rw [ix_of hl (by omega)]; dsimp only; rw [hA, if_neg c131]) (h1.ci hC) h1.out
      · refine r_iconst (v := (-1)) hX dX10_expected_134 (by decide) ?_
        refine r_goto (tgt := 147) hX dX10_expected_135 (by decide) ?_
        refine r_ireturn hX rfl rfl dX10_expected_147 (by decide) (by decide) ?_
        exact rC.y (by unfold rs_expected; rw [ix_of hl (by omega)]; dsimp only; rw [hA, if_pos c131]) (h1.ci hC) h1.out
  · refine Ct.of IX10_expected.1 (by simp [Value.category]) (Nat.le_of_ble_eq_true rfl) (fun X hX hN => ?_)
    show J G base X 0 0 M 0 [some (.ref a), some (.int x), none, none, none] []
    refine r_aload_n hX dX10_expected_0 rfl ?_
    refine r_getr hX dX10_expected_1 fl_X10_40 rfl (LX10_s hL) (LX10_r6 hL) ?_
    refine r_getr hX dX10_expected_4 fl_X10_107 rfl (LX8_s (LX10_o6 hL)) (LX8_r5 (LX10_o6 hL)) ?_
    refine r_astore2 hX dX10_expected_7 rfl ?_
    refine r_iload_n hX dX10_expected_8 rfl ?_
    refine r_aload_n hX dX10_expected_9 rfl ?_
    refine rn_geti (v := nI (nv σ.1 2)) hX dX10_expected_10 fl_X10_111 rfl (LX2_s (LX8_o5 (LX10_o6 hL))) hlc ?_
    refine r_tS2 hX dX10_expected_13 IX10_needIndex ml_X10_169 rfl (t_ni0 hx (by omega)) (by decide) (by decide) (by decide) (by decide) rfl (Nat.le_of_ble_eq_true rfl) ?_
    exact rC.n0 (k := 1) (by unfold rs_expected; rw [ix_no hx]) rfl hC

