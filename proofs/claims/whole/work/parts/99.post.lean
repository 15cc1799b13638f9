variable {G : GG} {base : Nat}
/-- the counter of a word's bytes -/
def l8 (k : Nat) : Int32 := nI 24 - nI (8 * k)
theorem l8_s : ∀ k, k < 4 → l8 k + Int32.ofInt (-8) = l8 (k + 1) := by decide +kernel
theorem l8_v : ∀ k, k < 4 → l8 k = nI (24 - 8 * k) := by decide +kernel
theorem l8_n : ∀ k, k < 4 → ¬ l8 k < 0 := by decide +kernel
theorem l8_e : l8 4 < 0 := by decide +kernel
theorem postTT {i : Nat → Nat → Int32} {b : Nat} {n : Nat → Int32} {fr to vl pr : Int32} (h : TT i b n) (hO : TbOk n) : TT i b (upd (postN n fr to vl) (498 + 10 * nv n 2 + 6) pr) := by
  have et := postN_tab (n := n) (fr := fr) (to := to) (vl := vl)
  have e2 : tabEq (upd (postN n fr to vl) (498 + 10 * nv n 2 + 6) pr) (postN n fr to vl) := ⟨upd_o (by omega), upd_o (by omega), fun q a b => upd_o (by omega), fun q a b => upd_o (by omega)⟩
  exact tabEq.TT h (e2.tr et).sm hO
set_option maxHeartbeats 2000000 in
set_option maxRecDepth 20000 in
theorem t_c_post {M : Mm} {a : Nat} {σ : Sg} {T : Nat} (hL : LX10 M.1 M.2.1 a) (hC : CI (mI M) a σ) (hO : OkN T σ.1) (hT9 : T < 890000) {x y z : Int32} : Ct G base YX10_post 20 1 6 [.ref a, .int x, .int y, .int z] M (rC M a 3 4 (rs_post σ x y z) (sg_post σ x y z)) := by
  obtain ⟨hT, hS, hLt, h4, h5, h6, hLo, hSt, hNa⟩ := hO
  have h0 := hT.1
  have h1 := hT.2.1
  have hr := hT.2.2
  have h2 := hLt.1
  have h3 := hLt.2.1
  have hb0 := h0.2
  have hb1 := h1.2
  have hb2 := h2.2
  have hb3 := h3.2
  have hb4 := h4.2
  have ht6 : σ.1 6 = nI (nv σ.1 6) := h6.1
  have hh6 : nv σ.1 6 ≤ T := h6.2
  have hTT : TT (mI M) (a + 28) σ.1 := hC.2.2.2.1
  have hRS : RS (mI M) (a + 34) σ.1 := hC.2.2.2.2.1
  have hHR : HR (mI M) (a + 52) σ.2.1 σ.2.2.1 := hC.2.2.2.2.2.1
  have hpc : mI M (a + 28) 0 = nI (nv σ.1 0) := hTT.1.trans h0.1
  have hcc : mI M (a + 28) 2 = nI (nv σ.1 1) := hTT.2.2.1.trans h1.1
  have hlc : mI M (a + 34 + 2) 0 = nI (nv σ.1 2) := hRS.2.2.1.1.trans h2.1
  have hkc : mI M (a + 34 + 15) 0 = nI (nv σ.1 3) := hRS.2.2.2.2.1.trans h3.1
  have hrc : mI M (a + 34 + 13) 0 = nI (nv σ.1 4) := hRS.2.2.2.1.1.trans h4.1
  have htm : mI M (a + 34) 0 = nI (nv σ.1 6) := hRS.1.1.trans ht6
  have h2r := h2
  by_cases hx : ∃ p q, x = nI p ∧ y = nI q ∧ town σ.1 p = true ∧ town σ.1 q = true ∧ p ≠ q
  · obtain ⟨p, q, rfl, rfl, hp, hq, hne⟩ := hx
    have hpt := town_lt hp
    have hqt := town_lt hq
    by_cases hv : ∃ v, v < 1000 ∧ z = nI v
    · obtain ⟨v, hv, rfl⟩ := hv
      by_cases h30 : nv σ.1 2 < 30
      · refine Ct.of IX10_post.1 (by simp [Value.category]) (Nat.le_of_ble_eq_true rfl) (fun X hX hN => ?_)
        show J G base X 0 0 M 0 [some (.ref a), some (.int (nI p)), some (.int (nI q)), some (.int (nI v))] []
        refine r_aload_n hX dX10_post_0 rfl ?_
        refine r_iload_n hX dX10_post_1 rfl ?_
        refine r_iload_n hX dX10_post_2 rfl ?_
        refine r_cV2 hX dX10_post_3 IX10_needJourney ml_X10_242 rfl (LX10_s hL) rfl (t_nj1 hL hTT h0 hp hq hne) (by decide) (by decide) (by decide) (by decide) rfl (Nat.le_of_ble_eq_true rfl) ?_
        refine r_iload_n hX dX10_post_6 rfl ?_
        refine rn_if_lt (tgt := 17) hX dX10_post_7 (by decide) rfl (by omega) ?_
        refine r_iload_n hX dX10_post_10 rfl ?_
        refine r_sipush (v := nI 999) hX dX10_post_11 (by decide) ?_
        refine rn_icmp_le (tgt := 25) hX dX10_post_14 (by decide) rfl rfl (by omega) (by omega) (fun c14 => ?_) (fun c14 => absurd hv (by omega))
        refine r_aload_n hX dX10_post_25 rfl ?_
        refine r_getr hX dX10_post_26 fl_X10_40 rfl (LX10_s hL) (LX10_r6 hL) ?_
        refine r_getr hX dX10_post_29 fl_X10_107 rfl (LX8_s (LX10_o6 hL)) (LX8_r5 (LX10_o6 hL)) ?_
        refine rn_geti (v := nI (nv σ.1 2)) hX dX10_post_32 fl_X10_111 rfl (LX2_s (LX8_o5 (LX10_o6 hL))) hlc ?_
        refine r_bipush (v := nI 30) hX dX10_post_35 (by decide) ?_
        refine rn_icmp_lt (tgt := 48) hX dX10_post_37 (by decide) rfl rfl (by omega) (by omega) (fun c37 => ?_) (fun c37 => absurd h30 (by omega))
        refine r_aload_n hX dX10_post_48 rfl ?_
        refine r_getr hX dX10_post_49 fl_X10_47 rfl (LX10_s hL) (LX10_r7 hL) ?_
        refine r_aload_n hX dX10_post_52 rfl ?_
        refine r_getr hX dX10_post_53 fl_X10_40 rfl (LX10_s hL) (LX10_r6 hL) ?_
        refine r_iV1 hX dX10_post_56 IX0_keep ml_X10_273 rfl (LX0_s (LX10_o7 hL)) rfl (t_X0_keep (M := M) (LX10_o7 hL) (LX10_o6 hL) (by omega) hRS (σ := σ) rfl hHR) (by decide) (by decide) (by decide) (by decide) rfl (Nat.le_of_ble_eq_true rfl) (fun i1 h1 => ?_)
        show J G base X _ _ (wI M i1) _ _ _
        have hC1 : CI i1 a (keepS σ) := hC.keep h1.1 h1.2.1 h1.2.2
        have ho1 : outB i1 (mI M) a 208 := fun y hy k => h1.2.2 y (by omega) k
        refine r_aload_n hX dX10_post_59 rfl ?_
        refine r_getr hX dX10_post_60 fl_X10_40 rfl (LX10_s hL) (LX10_r6 hL) ?_
        refine r_getr hX dX10_post_63 fl_X10_107 rfl (LX8_s (LX10_o6 hL)) (LX8_r5 (LX10_o6 hL)) ?_
        refine r_iload_n hX dX10_post_66 rfl ?_
        refine r_iload_n hX dX10_post_67 rfl ?_
        refine r_iload_n hX dX10_post_68 rfl ?_
        refine r_aload_n hX dX10_post_69 rfl ?_
        refine r_getr hX dX10_post_70 fl_X10_40 rfl (LX10_s hL) (LX10_r6 hL) ?_
        refine rn_geti (v := σ.1 6) hX dX10_post_73 fl_X10_160 rfl (LX8_s (LX10_o6 hL)) h1.2.1.1.1 ?_
        refine r_aload_n hX dX10_post_76 rfl ?_
        refine r_iload_n hX dX10_post_77 rfl ?_
        refine r_iload_n hX dX10_post_78 rfl ?_
        refine r_iV2 hX dX10_post_79 IX10_arrivalFromOffice ml_X10_125 rfl (LX10_s hL) rfl (t_X10_arrivalFromOffice (M := wI M i1) (n := σ.1) hL hC1.2.2.2.1 h1.2.1 hT ht6 (by omega) (p := p) (q := q) (by omega) (by omega) hne) (by decide) (by decide) (by decide) (by decide) rfl (Nat.le_of_ble_eq_true rfl) (fun i2 h2 => ?_)
        show J G base X _ _ (wI M i2) _ _ _
        
        rw [show arN σ.1 (nv σ.1 6) (fun _ => false) (fun x => decide (x = p)) 240 q = arP σ.1 p q from rfl]
        have hm2 : i2 (a + 34 + 2) 0 = nI (nv σ.1 2) := (h2.rs h1.2.1).2.2.1.1.trans h2r.1
        refine r_cV5 hX dX10_post_82 IX2_add ml_X10_276 rfl (LX2_s (LX8_o5 (LX10_o6 hL))) rfl (t_X2_add (M := wI M i2) (LX8_o5 (LX10_o6 hL)) hm2 h30) (by decide) (by decide) (by decide) (by decide) rfl (Nat.le_of_ble_eq_true rfl) ?_
        refine r_ireturn hX rfl rfl dX10_post_85 (by decide) (by decide) ?_
        refine rC.y (i := mI (addL (wI M i2) (a + 34 + 2) (nv σ.1 2) (nI p) (nI q) (nI v) (σ.1 6) (arP σ.1 p q))) ?_ ?_ (fun y hy z => (add_out y (by omega) z).trans ((h2 y (by omega) z).trans (ho1 y hy z)))
        · unfold rs_post
          rw [pair_ok hb0 hp hq hne]
          dsimp only
          rw [ix_of hv (by omega)]
          dsimp only
          rw [if_neg (by omega)]
        · unfold sg_post
          rw [pair_ok hb0 hp hq hne]
          dsimp only
          rw [ix_of hv (by omega)]
          dsimp only
          rw [if_neg (by omega)]
          exact hC1.row (postTT hC1.2.2.2.1 hT) (RS.add (M := wI M i2) (h2.rs h1.2.1) (noP_p (town_lt hp)) h30) (fun y h3 h4 z => (add_out y (by omega) z).trans (h2 y (by omega) z))
      · refine Ct.of IX10_post.1 (by simp [Value.category]) (Nat.le_of_ble_eq_true rfl) (fun X hX hN => ?_)
        show J G base X 0 0 M 0 [some (.ref a), some (.int (nI p)), some (.int (nI q)), some (.int (nI v))] []
        refine r_aload_n hX dX10_post_0 rfl ?_
        refine r_iload_n hX dX10_post_1 rfl ?_
        refine r_iload_n hX dX10_post_2 rfl ?_
        refine r_cV2 hX dX10_post_3 IX10_needJourney ml_X10_242 rfl (LX10_s hL) rfl (t_nj1 hL hTT h0 hp hq hne) (by decide) (by decide) (by decide) (by decide) rfl (Nat.le_of_ble_eq_true rfl) ?_
        refine r_iload_n hX dX10_post_6 rfl ?_
        refine rn_if_lt (tgt := 17) hX dX10_post_7 (by decide) rfl (by omega) ?_
        refine r_iload_n hX dX10_post_10 rfl ?_
        refine r_sipush (v := nI 999) hX dX10_post_11 (by decide) ?_
        refine rn_icmp_le (tgt := 25) hX dX10_post_14 (by decide) rfl rfl (by omega) (by omega) (fun c14 => ?_) (fun c14 => absurd hv (by omega))
        refine r_aload_n hX dX10_post_25 rfl ?_
        refine r_getr hX dX10_post_26 fl_X10_40 rfl (LX10_s hL) (LX10_r6 hL) ?_
        refine r_getr hX dX10_post_29 fl_X10_107 rfl (LX8_s (LX10_o6 hL)) (LX8_r5 (LX10_o6 hL)) ?_
        refine rn_geti (v := nI (nv σ.1 2)) hX dX10_post_32 fl_X10_111 rfl (LX2_s (LX8_o5 (LX10_o6 hL))) hlc ?_
        refine r_bipush (v := nI 30) hX dX10_post_35 (by decide) ?_
        refine rn_icmp_lt (tgt := 48) hX dX10_post_37 (by decide) rfl rfl (by omega) (by omega) (fun c37 => absurd c37 h30) (fun c37 => ?_)
        refine r_throw hX thI3 dX10_post_40 dX10_post_43 dX10_post_44 dX10_post_47 (by decide) (by decide) (by decide) rfl ?_ (Nat.le_of_ble_eq_true rfl)
        refine rC.n0 (k := 2) ?_ rfl ?_
        · unfold rs_post
          rw [pair_ok hb0 hp hq hne]
          dsimp only
          rw [ix_of hv (by omega)]
          dsimp only
          rw [if_pos (by omega)]
        · unfold sg_post
          rw [pair_ok hb0 hp hq hne]
          dsimp only
          rw [ix_of hv (by omega)]
          dsimp only
          rw [if_pos (by omega)]
          exact hC
    · refine Ct.of IX10_post.1 (by simp [Value.category]) (Nat.le_of_ble_eq_true rfl) (fun X hX hN => ?_)
      show J G base X 0 0 M 0 [some (.ref a), some (.int (nI p)), some (.int (nI q)), some (.int z)] []
      refine r_aload_n hX dX10_post_0 rfl ?_
      refine r_iload_n hX dX10_post_1 rfl ?_
      refine r_iload_n hX dX10_post_2 rfl ?_
      refine r_cV2 hX dX10_post_3 IX10_needJourney ml_X10_242 rfl (LX10_s hL) rfl (t_nj1 hL hTT h0 hp hq hne) (by decide) (by decide) (by decide) (by decide) rfl (Nat.le_of_ble_eq_true rfl) ?_
      refine r_iload_n hX dX10_post_6 rfl ?_
      refine r_if_lt (tgt := 17) hX dX10_post_7 (by decide) (fun c7 => ?_) (fun c7 => ?_)
      · refine r_throw hX thI0 dX10_post_17 dX10_post_20 dX10_post_21 dX10_post_24 (by decide) (by decide) (by decide) rfl ?_ (Nat.le_of_ble_eq_true rfl)
        refine rC.n0 (k := 1) ?_ rfl ?_
        · unfold rs_post
          rw [pair_ok hb0 hp hq hne]
          dsimp only
          rw [ix_no hv]
        · unfold sg_post
          rw [pair_ok hb0 hp hq hne]
          dsimp only
          rw [ix_no hv]
          exact hC
      · refine r_iload_n hX dX10_post_10 rfl ?_
        refine r_sipush (v := 999) hX dX10_post_11 (by decide) ?_
        refine r_icmp_le (tgt := 25) hX dX10_post_14 (by decide) (fun c14 => by obtain ⟨k, hk, e⟩ := nI_of (x := z) c7; subst e; rw [show (999 : Int32) = nI 999 from rfl, nI_leI hk (by omega)] at c14; exact absurd ⟨k, by omega, rfl⟩ hv) (fun c14 => ?_)
        refine r_throw hX thI0 dX10_post_17 dX10_post_20 dX10_post_21 dX10_post_24 (by decide) (by decide) (by decide) rfl ?_ (Nat.le_of_ble_eq_true rfl)
        refine rC.n0 (k := 1) ?_ rfl ?_
        · unfold rs_post
          rw [pair_ok hb0 hp hq hne]
          dsimp only
          rw [ix_no hv]
        · unfold sg_post
          rw [pair_ok hb0 hp hq hne]
          dsimp only
          rw [ix_no hv]
          exact hC
  · refine Ct.of IX10_post.1 (by simp [Value.category]) (Nat.le_of_ble_eq_true rfl) (fun X hX hN => ?_)
    show J G base X 0 0 M 0 [some (.ref a), some (.int x), some (.int y), some (.int z)] []
    refine r_aload_n hX dX10_post_0 rfl ?_
    refine r_iload_n hX dX10_post_1 rfl ?_
    refine r_iload_n hX dX10_post_2 rfl ?_
    refine r_tV2 hX dX10_post_3 IX10_needJourney ml_X10_242 rfl (LX10_s hL) rfl (t_nj0 hL hTT h0 hx) (by decide) (by decide) (by decide) (by decide) rfl (Nat.le_of_ble_eq_true rfl) ?_
    refine rC.n0 (k := 1) ?_ rfl ?_
    · unfold rs_post
      rw [pair_no hb0 hx]
    · unfold sg_post
      rw [pair_no hb0 hx]
      exact hC

set_option maxHeartbeats 2000000 in
set_option maxRecDepth 20000 in
theorem t_c_run {M : Mm} {a : Nat} {σ : Sg} {T : Nat} (hL : LX10 M.1 M.2.1 a) (hC : CI (mI M) a σ) (hO : OkN T σ.1) (hT9 : T < 890000) {x : Int32} : Ct G base YX10_run 20 1 6 [.ref a, .int x] M (rC M a 3 4 (rs_run σ x) (sg_run σ x)) := by
  obtain ⟨hT, hS, hLt, h4, h5, h6, hLo, hSt, hNa⟩ := hO
  have h0 := hT.1
  have h1 := hT.2.1
  have hr := hT.2.2
  have h2 := hLt.1
  have h3 := hLt.2.1
  have hb0 := h0.2
  have hb1 := h1.2
  have hb2 := h2.2
  have hb3 := h3.2
  have hb4 := h4.2
  have ht6 : σ.1 6 = nI (nv σ.1 6) := h6.1
  have hh6 : nv σ.1 6 ≤ T := h6.2
  have hTT : TT (mI M) (a + 28) σ.1 := hC.2.2.2.1
  have hRS : RS (mI M) (a + 34) σ.1 := hC.2.2.2.2.1
  have hHR : HR (mI M) (a + 52) σ.2.1 σ.2.2.1 := hC.2.2.2.2.2.1
  have hpc : mI M (a + 28) 0 = nI (nv σ.1 0) := hTT.1.trans h0.1
  have hcc : mI M (a + 28) 2 = nI (nv σ.1 1) := hTT.2.2.1.trans h1.1
  have hlc : mI M (a + 34 + 2) 0 = nI (nv σ.1 2) := hRS.2.2.1.1.trans h2.1
  have hkc : mI M (a + 34 + 15) 0 = nI (nv σ.1 3) := hRS.2.2.2.2.1.trans h3.1
  have hrc : mI M (a + 34 + 13) 0 = nI (nv σ.1 4) := hRS.2.2.2.1.1.trans h4.1
  have htm : mI M (a + 34) 0 = nI (nv σ.1 6) := hRS.1.1.trans ht6
  have hO9 : OkN T σ.1 := ⟨hT, hS, hLt, h4, h5, h6, hLo, hSt, hNa⟩
  by_cases hx : 1 ≤ x ∧ x ≤ 168
  · obtain ⟨k, hk, rfl⟩ := nI_of (x := x) (fun z => absurd hx.1 (i_nle.mpr (by rw [i_ltI] at z ⊢; have e1 : (1 : Int32).toInt = 1 := rfl; have e0 : (0 : Int32).toInt = 0 := rfl; omega)))
    have hk168 : k ≤ 168 := (nI_leI (a := k) (b := 168) hk (by omega)).mp hx.2
    have hk1 : 1 ≤ k := (nI_leI (a := 1) (b := k) (by omega) hk).mp hx.1
    refine Ct.of IX10_run.1 (by simp [Value.category]) (Nat.le_of_ble_eq_true rfl) (fun X hX hN => ?_)
    show J G base X 0 0 M 0 [some (.ref a), some (.int (nI k)), none, none] []
    refine r_iload_n hX dX10_run_0 rfl ?_
    refine r_iconst (v := nI 1) hX dX10_run_1 (by decide) ?_
    refine rn_icmp_lt (tgt := 12) hX dX10_run_2 (by decide) rfl rfl (by omega) (by omega) (fun c2 => by omega) (fun c2 => ?_)
    refine r_iload_n hX dX10_run_5 rfl ?_
    refine r_sipush (v := nI 168) hX dX10_run_6 (by decide) ?_
    refine rn_icmp_le (tgt := 20) hX dX10_run_9 (by decide) rfl rfl (by omega) (by omega) (fun c9 => ?_) (fun c9 => by omega)
    refine r_aload_n hX dX10_run_20 rfl ?_
    refine r_getr hX dX10_run_21 fl_X10_47 rfl (LX10_s hL) (LX10_r7 hL) ?_
    refine r_aload_n hX dX10_run_24 rfl ?_
    refine r_getr hX dX10_run_25 fl_X10_40 rfl (LX10_s hL) (LX10_r6 hL) ?_
    refine r_iV1 hX dX10_run_28 IX0_keep ml_X10_273 rfl (LX0_s (LX10_o7 hL)) rfl (t_X0_keep (M := M) (LX10_o7 hL) (LX10_o6 hL) (by omega) hRS (σ := σ) rfl hHR) (by decide) (by decide) (by decide) (by decide) rfl (Nat.le_of_ble_eq_true rfl) (fun i1 h1 => ?_)
    show J G base X _ _ (wI M i1) _ _ _
    have hC1 : CI i1 a (keepS σ) := hC.keep h1.1 h1.2.1 h1.2.2
    have ho1 : outB i1 (mI M) a 208 := fun y hy k => h1.2.2 y (by omega) k
    refine r_iconst (v := nI 0) hX dX10_run_31 (by decide) ?_
    refine r_istore2 hX dX10_run_32 rfl ?_
    refine r_iconst (v := nI 0) hX dX10_run_33 (by decide) ?_
    refine r_istore3 hX dX10_run_34 rfl ?_
    show J G base X 0 0 (wI M i1) 35 [some (.ref a), some (.int (nI k)), some (.int (nI (runN σ.1 0).2)), some (.int (nI 0))] []
    refine loop_us (σ := Nat → Nat → Int32) (P := fun j i => (CI i a (rowS (keepS σ) (runN σ.1 j).1) ∧ outB i (mI M) a 208) → J G base X 0 0 (wI M i) 35 [some (.ref a), some (.int (nI k)), some (.int (nI (runN σ.1 j).2)), some (.int (nI j))] []) k (fun j i hj ih hi => ?_) 0 i1 (Nat.zero_le _) ⟨hC1, ho1⟩
    refine r_iload_n hX dX10_run_35 rfl ?_
    refine r_iload_n hX dX10_run_36 rfl ?_
    refine rn_icmp_ge (tgt := 64) hX dX10_run_37 (by decide) rfl rfl (by omega) (by omega) (fun c37 => ?_) (fun c37 => ?_)
    · refine r_iload_n hX dX10_run_64 rfl ?_
      refine r_ireturn hX rfl rfl dX10_run_65 (by decide) (by decide) ?_
      obtain rfl : j = k := by omega
      refine rC.y ?_ ?_ hi.2
      · unfold rs_run
        rw [if_pos hx, nI_clamp hk]
      · unfold sg_run
        rw [if_pos hx, nI_clamp hk]
        exact hi.1
    · refine r_iload_n hX dX10_run_40 rfl ?_
      refine r_aload_n hX dX10_run_41 rfl ?_
      refine r_getr hX dX10_run_42 fl_X10_61 rfl (LX10_s hL) (LX10_r9 hL) ?_
      refine r_aload_n hX dX10_run_45 rfl ?_
      refine r_getr hX dX10_run_46 fl_X10_33 rfl (LX10_s hL) (LX10_r5 hL) ?_
      refine r_aload_n hX dX10_run_49 rfl ?_
      refine r_getr hX dX10_run_50 fl_X10_40 rfl (LX10_s hL) (LX10_r6 hL) ?_
      refine r_iV2 hX dX10_run_53 IX1_processHour ml_X10_280 rfl (LX1_s (LX10_o9 hL)) rfl (t_X1_processHour (M := wI M i) (LX10_o9 hL) (LX10_o6 hL) (LX10_o5 hL) (by omega) (by omega) (by omega) hi.1.2.2.2.2.1 hi.1.2.2.2.1 (run_ok hO9 j (by omega)) (by omega)) (by decide) (by decide) (by decide) (by decide) rfl (Nat.le_of_ble_eq_true rfl) (fun i2 h2 => ?_)
      show J G base X _ _ (wI M i2) _ _ _
      
      refine rn_iadd hX dX10_run_56 rfl rfl ?_
      refine r_istore2 hX dX10_run_57 rfl ?_
      refine rn_iinc3 hX dX10_run_58 rfl rfl ?_
      refine r_goto (tgt := 35) hX dX10_run_61 (by decide) ?_
      refine ih (by omega) i2 ⟨?_, fun y hy z => (h2.2 y (by omega) z).trans (hi.2 y hy z)⟩
      have hOj := run_ok hO9 j (by omega)
      have z := hi.1.row (tabEq.TT hi.1.2.2.2.1 (hour_tab hOj).sm hOj.1) h2.1 (fun y h3 h4 z => h2.2 y (by omega) z)
      exact z
  · refine Ct.of IX10_run.1 (by simp [Value.category]) (Nat.le_of_ble_eq_true rfl) (fun X hX hN => ?_)
    show J G base X 0 0 M 0 [some (.ref a), some (.int x), none, none] []
    refine r_iload_n hX dX10_run_0 rfl ?_
    refine r_iconst (v := 1) hX dX10_run_1 (by decide) ?_
    refine r_icmp_lt (tgt := 12) hX dX10_run_2 (by decide) (fun c2 => ?_) (fun c2 => ?_)
    · refine r_throw hX thI0 dX10_run_12 dX10_run_15 dX10_run_16 dX10_run_19 (by decide) (by decide) (by decide) rfl ?_ (Nat.le_of_ble_eq_true rfl)
      refine rC.n0 (k := 1) ?_ rfl ?_
      · unfold rs_run
        rw [if_neg hx]
      · unfold sg_run
        rw [if_neg hx]
        exact hC
    · refine r_iload_n hX dX10_run_5 rfl ?_
      refine r_sipush (v := 168) hX dX10_run_6 (by decide) ?_
      refine r_icmp_le (tgt := 20) hX dX10_run_9 (by decide) (fun c9 => absurd ⟨i_nlt.mp c2, c9⟩ hx) (fun c9 => ?_)
      refine r_throw hX thI0 dX10_run_12 dX10_run_15 dX10_run_16 dX10_run_19 (by decide) (by decide) (by decide) rfl ?_ (Nat.le_of_ble_eq_true rfl)
      refine rC.n0 (k := 1) ?_ rfl ?_
      · unfold rs_run
        rw [if_neg hx]
      · unfold sg_run
        rw [if_neg hx]
        exact hC

