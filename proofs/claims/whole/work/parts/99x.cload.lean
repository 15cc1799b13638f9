variable {G : GG} {base : Nat}
theorem LX10.ld {M : Mm} {a : Nat} (h : LX10 M.1 M.2.1 a) : LX10 (uR M (a + 2) 4 (some (a + 1))).1 (uR M (a + 2) 4 (some (a + 1))).2.1 a := LX10.mono (P := a + 2) (fun x k hx => by
  show (if x = a + 2 then (if k = 4 then some (a + 1) else M.2.1 x k) else M.2.1 x k) = M.2.1 x k
  split
  · rename_i h1
    split
    · rename_i h2; exact absurd ⟨h1, h2⟩ hx
    · rfl
  · rfl) h rfl
set_option maxHeartbeats 2000000 in
set_option maxRecDepth 20000 in
theorem t_c_load {M : Mm} {a : Nat} {σ : Sg} {T : Nat} (hL : LX10 M.1 M.2.1 a) (hC : CI (mI M) a σ) (hO : OkN T σ.1) (hT9 : T < 890000) : Ct G base YX10_load 20 1 6 [.ref a] M (rC (uR M (a + 2) 4 (some (a + 1))) a 3 4 (rs_load σ) (sg_load σ)) := by
  obtain ⟨hT, hS, hLt, h4, h5, h6, hLo, hSt, hNa⟩ := hO
  have h0 := hT.1
  have h1 := hT.2.1
  have hr := hT.2.2
  have h2 := hLt.1
  have h3 := hLt.2.1
  have hb0 := h0.2
  have hb1 := h1.2
  have hb2 := h2.2
  have hb3 := h3.2
  have hb4 := h4.2
  have ht6 : σ.1 6 = nI (nv σ.1 6) := h6.1
  have hh6 : nv σ.1 6 ≤ T := h6.2
  have hTT : TT (mI M) (a + 28) σ.1 := hC.2.2.2.1
  have hRS : RS (mI M) (a + 34) σ.1 := hC.2.2.2.2.1
  have hHR : HR (mI M) (a + 52) σ.2.1 σ.2.2.1 := hC.2.2.2.2.2.1
  have hpc : mI M (a + 28) 0 = nI (nv σ.1 0) := hTT.1.trans h0.1
  have hcc : mI M (a + 28) 2 = nI (nv σ.1 1) := hTT.2.2.1.trans h1.1
  have hlc : mI M (a + 34 + 2) 0 = nI (nv σ.1 2) := hRS.2.2.1.1.trans h2.1
  have hkc : mI M (a + 34 + 15) 0 = nI (nv σ.1 3) := hRS.2.2.2.2.1.trans h3.1
  have hrc : mI M (a + 34 + 13) 0 = nI (nv σ.1 4) := hRS.2.2.2.1.1.trans h4.1
  have htm : mI M (a + 34) 0 = nI (nv σ.1 6) := hRS.1.1.trans ht6
  refine Ct.of IX10_load.1 (by simp [Value.category]) (Nat.le_of_ble_eq_true rfl) (fun X hX hN => ?_)
  show J G base X 0 0 M 0 [some (.ref a), none] []
  refine r_aload_n hX dX10_load_0 rfl ?_
  refine r_getr hX dX10_load_1 fl_X10_26 rfl (LX10_s hL) (LX10_r4 hL) ?_
  refine r_aload_n hX dX10_load_4 rfl ?_
  refine r_getr hX dX10_load_5 fl_X10_9 rfl (LX10_s hL) (LX10_r0 hL) ?_
  refine r_aload_n hX dX10_load_8 rfl ?_
  refine rn_geti (v := nI σ.2.2.2.2.1) hX dX10_load_9 fl_X10_13 rfl (LX10_s hL) hC.1.2.1 ?_
  refine r_gV2 hX dX10_load_12 IX5_parse ml_X10_76 rfl (LX5_s (LX10_o4 hL)) rfl (t_X5_parse (M := M) (LX10_o4 hL) (LX10_a0 hL) (by omega) hC.1.2.2 (by omega) hC.1.2.2 hC.1.1 (n := σ.1) (rd := σ.2.2.2.2.2.1) (Z := ldS σ) rfl) (by decide) (by decide) (by decide) (by decide) rfl (Nat.le_of_ble_eq_true rfl) (fun E N9 h9 => by obtain ⟨i9, -, h9, -⟩ := h9; cases h9) (fun v N9 hP => ?_)
  obtain ⟨i1, rfl, hv, q1, q2, q3, q4⟩ := hP
  obtain rfl : v = _ := Sum.inl.inj hv
  show J G base X _ _ (wI (uR M (a + 2) 4 (some (a + 1))) i1) 15 [some (.ref a), none] [.int (if (ldS σ).2.2.2.2.1 = -1 then 1 else 0)]
  have hL1 := LX10.ld hL
  refine r_istore1 hX dX10_load_15 rfl ?_
  refine r_aload_n hX dX10_load_16 rfl ?_
  refine r_iconst (v := nI 0) hX dX10_load_17 (by decide) ?_
  refine r_puti hX dX10_load_18 fl_X10_13 rfl rfl (LX10_s hL1) ?_
  refine r_aload_n hX dX10_load_21 rfl ?_
  refine r_aload_n hX dX10_load_22 rfl ?_
  refine r_getr hX dX10_load_23 fl_X10_26 rfl (LX10_s hL1) (LX10_r4 hL1) ?_
  refine rn_geti (v := (ldS σ).2.2.2.2.1) hX dX10_load_26 fl_X10_80 rfl (LX5_s (LX10_o4 hL1)) ((congrFun (uIo (by omega)) 2).trans q2) ?_
  refine r_puti hX dX10_load_29 fl_X10_17 rfl rfl (LX10_s hL1) ?_
  refine r_aload_n hX dX10_load_32 rfl ?_
  refine r_aload_n hX dX10_load_33 rfl ?_
  refine r_getr hX dX10_load_34 fl_X10_26 rfl (LX10_s hL1) (LX10_r4 hL1) ?_
  refine rn_geti (v := (ldS σ).2.2.2.2.2) hX dX10_load_37 fl_X10_83 rfl (LX5_s (LX10_o4 hL1)) ((congrFun (uIo (by omega)) 3).trans ((congrFun (uIo (by omega)) 3).trans q3)) ?_
  refine r_puti hX dX10_load_40 fl_X10_20 rfl rfl (LX10_s hL1) ?_
  refine r_iload_n hX dX10_load_43 rfl ?_
  refine rb_if_ne (tgt := 55) hX dX10_load_44 (by decide) rfl (fun c44 => ?_) (fun c44 => ?_)
  · refine r_aload_n hX dX10_load_55 rfl ?_
    refine r_getr hX dX10_load_56 fl_X10_33 rfl (LX10_s hL1) (LX10_r5 hL1) ?_
    refine r_aload_n hX dX10_load_59 rfl ?_
    refine r_getr hX dX10_load_60 fl_X10_26 rfl (LX10_s hL1) (LX10_r4 hL1) ?_
    refine r_getr hX dX10_load_63 fl_X10_89 rfl (LX5_s (LX10_o4 hL1)) (LX5_r0 (LX10_o4 hL1)) ?_
    refine r_iV1 hX dX10_load_66 IX9_copyFrom ml_X10_90 rfl (LX9_s (LX10_o5 hL1)) rfl (t_X9_copyFrom (M := (uI (uI (uI (wI (uR M (a + 2) 4 (some (a + 1))) i1) a 1 (nI 0)) a 2 (ldS σ).2.2.2.2.1) a 3 (ldS σ).2.2.2.2.2)) (LX10_o5 hL1) (LX5_o0 (LX10_o4 hL1)) (by omega)) (by decide) (by decide) (by decide) (by decide) rfl (Nat.le_of_ble_eq_true rfl) (fun i2 h2 => ?_)
    show J G base X _ _ (wI (uR M (a + 2) 4 (some (a + 1))) i2) _ _ _
    
    refine r_aload_n hX dX10_load_69 rfl ?_
    refine r_getr hX dX10_load_70 fl_X10_40 rfl (LX10_s hL1) (LX10_r6 hL1) ?_
    refine r_aload_n hX dX10_load_73 rfl ?_
    refine r_getr hX dX10_load_74 fl_X10_26 rfl (LX10_s hL1) (LX10_r4 hL1) ?_
    refine r_getr hX dX10_load_77 fl_X10_94 rfl (LX5_s (LX10_o4 hL1)) (LX5_r1 (LX10_o4 hL1)) ?_
    refine r_iV1 hX dX10_load_80 IX8_copyFrom ml_X10_95 rfl (LX8_s (LX10_o6 hL1)) rfl (t_X8_copyFrom (M := wI (uR M (a + 2) 4 (some (a + 1))) i2) (LX10_o6 hL1) (LX5_o1 (LX10_o4 hL1)) (by omega)) (by decide) (by decide) (by decide) (by decide) rfl (Nat.le_of_ble_eq_true rfl) (fun i3 h3 => ?_)
    show J G base X _ _ (wI (uR M (a + 2) 4 (some (a + 1))) i3) _ _ _
    
    refine r_aload_n hX dX10_load_83 rfl ?_
    refine r_getr hX dX10_load_84 fl_X10_47 rfl (LX10_s hL1) (LX10_r7 hL1) ?_
    refine r_cV0 hX dX10_load_87 IX0_forget ml_X10_98 rfl (LX0_s (LX10_o7 hL1)) rfl (t_X0_forget (M := wI (uR M (a + 2) 4 (some (a + 1))) i3) (LX10_o7 hL1)) (by decide) (by decide) (by decide) (by decide) rfl (Nat.le_of_ble_eq_true rfl) ?_
    have hg := c44
    obtain ⟨hT1, hS1⟩ := q4 hg
    have hOk : OkN 0 (ldS σ).1 := ldS_ok hC.1.2.2 hg
    have e0 : ∀ k, mI (uI (uI (uI (wI (uR M (a + 2) 4 (some (a + 1))) i1) a 1 (nI 0)) a 2 (ldS σ).2.2.2.2.1) a 3 (ldS σ).2.2.2.2.2) a k = if k = 3 then (ldS σ).2.2.2.2.2 else if k = 2 then (ldS σ).2.2.2.2.1 else if k = 1 then nI 0 else i1 a k := fun k => by simp [mI_uI]; rfl
    have eo : ∀ x, x ≠ a → mI (uI (uI (uI (wI (uR M (a + 2) 4 (some (a + 1))) i1) a 1 (nI 0)) a 2 (ldS σ).2.2.2.2.1) a 3 (ldS σ).2.2.2.2.2) x = i1 x := fun x hx => by rw [uIo hx, uIo hx, uIo hx]; rfl
    have hT2 : TT i2 (a + 28) (ldS σ).1 := TT.copy (hT1.kept (i' := mI (uI (uI (uI (wI (uR M (a + 2) 4 (some (a + 1))) i1) a 1 (nI 0)) a 2 (ldS σ).2.2.2.2.1) a 3 (ldS σ).2.2.2.2.2)) (fun x x1 x2 k => congrFun (eo x (by omega)) k)) h2
    have e3 : ∀ x, (x < a + 34 ∨ a + 52 ≤ x) → i3 x = i2 x := fun x hx => funext fun k => h3.2.2.2.2.2.2.2.2.2.2 x (by omega) k
    have hS3 : RS i3 (a + 34) (ldS σ).1 := RS.copy (hS1.kept (i' := i2) (fun x x1 x2 k => congrFun ((h2.2.2 x (by omega)).trans (eo x (by omega))) k)) h3
    have e4 : ∀ x, x ≠ a + 52 → mI (uI (wI (uR M (a + 2) 4 (some (a + 1))) i3) (a + 52) 0 (nI 0)) x = i3 x := fun x hx => uIo hx
    have hT4 : TT (mI (uI (wI (uR M (a + 2) 4 (some (a + 1))) i3) (a + 52) 0 (nI 0))) (a + 28) (ldS σ).1 := hT2.kept (fun x x1 x2 k => congrFun ((e4 x (by omega)).trans (e3 x (by omega))) k)
    have hS4 : RS (mI (uI (wI (uR M (a + 2) 4 (some (a + 1))) i3) (a + 52) 0 (nI 0))) (a + 34) (ldS σ).1 := hS3.kept (fun x x1 x2 k => congrFun (e4 x (by omega)) k)
    have hTb := hOk.1
    have hc4 : mI (uI (wI (uR M (a + 2) 4 (some (a + 1))) i3) (a + 52) 0 (nI 0)) (a + 28) 0 = nI (nv (ldS σ).1 0) := hT4.1.trans hTb.1.1
    refine r_aload_n hX dX10_load_90 rfl ?_
    refine r_iV0 hX dX10_load_91 IX10_promiseLetters ml_X10_101 rfl (LX10_s hL1) rfl (t_X10_promiseLetters (M := (uI (wI (uR M (a + 2) 4 (some (a + 1))) i3) (a + 52) 0 (nI 0))) hL1 hT4 hS4 hOk) (by decide) (by decide) (by decide) (by decide) rfl (Nat.le_of_ble_eq_true rfl) (fun i5 h5 => ?_)
    show J G base X _ _ (wI (uR M (a + 2) 4 (some (a + 1))) i5) _ _ _
    
    refine r_aload_n hX dX10_load_94 rfl ?_
    refine r_getr hX dX10_load_95 fl_X10_33 rfl (LX10_s hL1) (LX10_r5 hL1) ?_
    refine rn_geti (v := nI (nv (ldS σ).1 0)) hX dX10_load_98 fl_X10_104 rfl (LX9_s (LX10_o5 hL1)) ((h5.2 (a + 28) (by omega) (by omega) 0).trans hc4) ?_
    refine r_ireturn hX rfl rfl dX10_load_101 (by decide) (by decide) ?_
    have hz : rs_load σ = .inl (nI (nv (ldS σ).1 0)) := if_pos c44
    have ef : ∀ x, (x < a + 28 ∨ a + 53 ≤ x) → (x < a + 198 ∨ a + 200 ≤ x) → x ≠ a → (x < a + 2 ∨ a + 27 ≤ x) → i5 x = mI M x := fun x x1 x2 x3 x4 => (funext fun k => h5.2 x (by omega) (by omega) k).trans ((e4 x (by omega)).trans ((e3 x (by omega)).trans ((h2.2.2 x (by omega)).trans ((eo x x3).trans (q1 x (by omega))))))
    have ea : ∀ k, i5 a k = mI (uI (uI (uI (wI (uR M (a + 2) 4 (some (a + 1))) i1) a 1 (nI 0)) a 2 (ldS σ).2.2.2.2.1) a 3 (ldS σ).2.2.2.2.2) a k := fun k => (h5.2 a (by omega) (by omega) k).trans (congrFun ((e4 a (by omega)).trans ((e3 a (by omega)).trans (h2.2.2 a (by omega)))) k)
    refine rC.y (M := (uR M (a + 2) 4 (some (a + 1)))) (i := i5) hz ?_ (fun x hx z => congrFun (ef x (by omega) (by omega) (by omega) (by omega)) z)
    rw [show sg_load σ = (prmN (ldS σ).1 (nv (ldS σ).1 2), σ.2.1, 0, σ.2.2.2.1, 0, (ldS σ).2.1, (ldS σ).2.2.2.2.1, (ldS σ).2.2.2.2.2, σ.2.2.2.2.2.2.2.2) from if_pos c44]
    obtain ⟨⟨v1, v2, v3⟩, v4, v5, v6, v7, v8, v9, v10, v11⟩ := hC
    refine ⟨⟨fun k hk => absurd hk (Nat.not_lt_zero _), by rw [ea, e0]; rfl, Nat.zero_le _⟩, by rw [ea, e0]; rfl, by rw [ea, e0]; rfl, ?_, h5.1, ?_, ?_, v10, fun k hk => ?_⟩
    · exact tabEq.TT (hT4.kept (fun x x1 x2 k => h5.2 x (by omega) (by omega) k)) (prm_tab _).1 hTb
    · obtain ⟨w1, w2, x, w3, w4, w5⟩ := v8
      refine HR.zero (x := x) ?_ w3 ?_
      · rw [h5.2 (a + 52) (by omega) (by omega) 0]
        simp [mI_uI]
      · rw [h5.2 (a + 52) (by omega) (by omega) 1]
        have z : mI (uI (wI (uR M (a + 2) 4 (some (a + 1))) i3) (a + 52) 0 (nI 0)) (a + 52) 1 = i3 (a + 52) 1 := by simp [mI_uI]; rfl
        rw [z, e3 (a + 52) (by omega), h2.2.2 (a + 52) (by omega), eo (a + 52) (by omega), q1 (a + 52) (by omega)]
        exact w4
    · exact (congrFun (ef (a + 206) (by omega) (by omega) (by omega) (by omega)) 0).trans v9
    · exact (congrFun (ef (a + 207) (by omega) (by omega) (by omega) (by omega)) k).trans (v11 k hk)
  · refine r_throw hX thI0 dX10_load_47 dX10_load_50 dX10_load_51 dX10_load_54 (by decide) (by decide) (by decide) rfl ?_ (Nat.le_of_ble_eq_true rfl)
    have hz : rs_load σ = .inr 1 := if_neg c44
    have e0 : ∀ k, mI (uI (uI (uI (wI (uR M (a + 2) 4 (some (a + 1))) i1) a 1 (nI 0)) a 2 (ldS σ).2.2.2.2.1) a 3 (ldS σ).2.2.2.2.2) a k = if k = 3 then (ldS σ).2.2.2.2.2 else if k = 2 then (ldS σ).2.2.2.2.1 else if k = 1 then nI 0 else i1 a k := fun k => by simp [mI_uI]; rfl
    have eo : ∀ x, x ≠ a → mI (uI (uI (uI (wI (uR M (a + 2) 4 (some (a + 1))) i1) a 1 (nI 0)) a 2 (ldS σ).2.2.2.2.1) a 3 (ldS σ).2.2.2.2.2) x = i1 x := fun x hx => by rw [uIo hx, uIo hx, uIo hx]; rfl
    have ep : ∀ x, (x < a + 2 ∨ a + 27 ≤ x) → x ≠ a → mI (uI (uI (uI (wI (uR M (a + 2) 4 (some (a + 1))) i1) a 1 (nI 0)) a 2 (ldS σ).2.2.2.2.1) a 3 (ldS σ).2.2.2.2.2) x = mI M x := fun x h1 h2 => (eo x h2).trans (q1 x (by omega))
    refine rC.n (M := (uR M (a + 2) 4 (some (a + 1)))) (k := 1) (i := mI (uI (uI (uI (wI (uR M (a + 2) 4 (some (a + 1))) i1) a 1 (nI 0)) a 2 (ldS σ).2.2.2.2.1) a 3 (ldS σ).2.2.2.2.2)) hz rfl ?_ (fun x hx z => congrFun (ep x (by omega) (by omega)) z)
    rw [show sg_load σ = ((fun q => if q < 1158 then σ.1 q else (ldS σ).1 q), σ.2.1, σ.2.2.1, σ.2.2.2.1, 0, (ldS σ).2.1, (ldS σ).2.2.2.2.1, (ldS σ).2.2.2.2.2, σ.2.2.2.2.2.2.2.2) from if_neg c44]
    have eN : ∀ q, q < 1158 → (fun q => if q < 1158 then σ.1 q else (ldS σ).1 q) q = σ.1 q := fun q hq => if_pos hq
    obtain ⟨⟨v1, v2, v3⟩, v4, v5, v6, v7, v8, v9, v10, v11⟩ := hC
    refine ⟨⟨fun k hk => absurd hk (Nat.not_lt_zero _), by rw [e0]; rfl, Nat.zero_le _⟩, by rw [e0]; rfl, by rw [e0]; rfl, ?_, ?_, ?_, ?_, v10, fun k hk => ?_⟩
    · refine TT.eq (n := σ.1) (v6.kept (fun x x1 x2 k => congrFun (ep x (by omega) (by omega)) k)) ⟨(eN 0 (by omega)).symm, (eN 1 (by omega)).symm, fun q h1 h2 => (eN q (by omega)).symm, fun q h1 h2 => (eN q (by omega)).symm⟩ hb0 hb1 hr
    · exact (v7.kept (fun x x1 x2 k => congrFun (ep x (by omega) (by omega)) k)).eqr (fun q hq => if_pos hq)
    · exact v8.kept (fun x x1 x2 k => congrFun (ep x (by omega) (by omega)) k)
    · exact (congrFun (ep (a + 206) (by omega) (by omega)) 0).trans v9
    · exact (congrFun (ep (a + 207) (by omega) (by omega)) k).trans (v11 k hk)

