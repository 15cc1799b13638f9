variable {G : GG} {base : Nat}
/-! ===== THE CLASS: the history ===== -/
theorem RS.eqr {i : Nat → Nat → Int32} {a : Nat} {n m : Nat → Int32} (h : RS i a n) (e : ∀ q, q < 1158 → m q = n q) : RS i a m := by
  obtain ⟨⟨a1, a2, a3, a4⟩, b1, ⟨c1, c2, c3⟩, ⟨d1, d2, x, d3, d4, d5⟩, e1, e2, e3⟩ := h
  have g2 := c2.2
  have g4 := d2.2
  have g3 := e2.2
  refine ⟨⟨?_, ?_, ?_, fun c hc => ?_⟩, b1.imp (fun z c hc => ?_) (fun z => z.eq (e _ (by omega)) (e _ (by omega)) (e _ (by omega))), ⟨?_, c2.eq (e _ (by omega)), fun l' hl' f' hf' => ?_⟩, ⟨?_, d2.eq (e _ (by omega)), x, d3, d4, fun g hg w hw => ?_⟩, ?_, e2.eq (e _ (by omega)), fun j hj => ?_⟩
  · rw [e _ (by omega)]; exact a1
  · rw [e _ (by omega)]; exact a2
  · rw [e _ (by omega)]; exact a3
  · rw [e _ (by omega)]; exact a4 c hc
  · rw [e _ (by omega)]; exact z c hc
  · rw [e _ (by omega)]; exact c1
  · rw [nv_eq (e _ (by omega))] at hl'
    rw [e _ (by omega)]; exact c3 l' hl' f' hf'
  · rw [e _ (by omega)]; exact d1
  · rw [nv_eq (e _ (by omega))] at hg
    rw [e _ (by omega)]; exact d5 g hg w hw
  · rw [e _ (by omega)]; exact e1
  · rw [nv_eq (e _ (by omega))] at hj
    rw [e _ (by omega), e _ (by omega)]; exact e3 j hj
/-- the j-th of d kept states lies here, the next one at x -/
abbrev hsl (x d j : Nat) : Nat := (x + 8 - d + j) % 8
/-- the class's history at g keeps the d rows ps -/
def HR (i : Nat → Nat → Int32) (g : Nat) (ps : Nat → Int32) (d : Nat) : Prop := i g 0 = nI d ∧ d ≤ 8 ∧ ∃ x, x < 8 ∧ i g 1 = nI x ∧ ∀ j, j < d → RS i (g + (2 + 18 * hsl x d j)) (fun q => ps (1158 * j + q))
theorem HR.kept {i i' : Nat → Nat → Int32} {g : Nat} {ps : Nat → Int32} {d : Nat} (h : HR i g ps d) (hk : ∀ x, g ≤ x → x < g + 146 → ∀ k, i' x k = i x k) : HR i' g ps d := by
  obtain ⟨h1, h2, x, h3, h4, h5⟩ := h
  refine ⟨(hk _ (by omega) (by omega) _).trans h1, h2, x, h3, (hk _ (by omega) (by omega) _).trans h4, fun j hj => ?_⟩
  have h8 : hsl x d j < 8 := Nat.mod_lt _ (by omega)
  exact (h5 j hj).kept (fun y hy hy2 k => hk y (by omega) (by omega) k)
theorem HR.zero {i : Nat → Nat → Int32} {g : Nat} {ps : Nat → Int32} {x : Nat} (h0 : i g 0 = nI 0) (hx : x < 8) (h1 : i g 1 = nI x) : HR i g ps 0 := ⟨h0, by omega, x, hx, h1, fun j hj => absurd hj (Nat.not_lt_zero _)⟩
set_option maxHeartbeats 2000000 in
set_option maxRecDepth 20000 in
theorem t_X0_slotAt {M : Mm} {g x : Nat} (hg : LX0 M.1 M.2.1 g) (hx : x < 8) : Ct G base YX0_slotAt 1 0 0 [.ref g, .int (nI x)] M (rE (some (.ref (g + (2 + 18 * x)))) M) := by
  refine Ct.of IX0_slotAt.1 (by simp [Value.category]) (Nat.le_of_ble_eq_true rfl) (fun X hX hN => ?_)
  show J G base X 0 0 M 0 [some (.ref g), some (.int (nI x))] []
  refine r_iload_n hX dX0_slotAt_0 rfl ?_
  refine rn_if_lt (tgt := 10) hX dX0_slotAt_1 (by decide) rfl (by omega) ?_
  refine r_iload_n hX dX0_slotAt_4 rfl ?_
  refine r_bipush (v := nI 8) hX dX0_slotAt_5 (by decide) ?_
  refine rn_icmp_lt (tgt := 14) hX dX0_slotAt_7 (by decide) rfl rfl (by omega) (by omega) (fun c7 => ?_) (fun c7 => absurd hx (by omega))
  refine r_aload_n hX dX0_slotAt_14 rfl ?_
  refine r_getr hX dX0_slotAt_15 fl_X0_20 rfl (LX0_s hg) (LX0_r2 hg) ?_
  refine r_iload_n hX dX0_slotAt_18 rfl ?_
  refine rn_aald hX dX0_slotAt_19 (LX0_a2 hg) rfl (by decide) (by omega) (LX0_e hg x hx).1 ?_
  refine r_areturn hX rfl (by first | exact Or.inl ⟨_, rfl⟩ | exact Or.inr ⟨_, rfl⟩) dX0_slotAt_20 (by decide) (by decide) ?_
  exact ⟨rfl, rfl⟩
set_option maxHeartbeats 2000000 in
set_option maxRecDepth 20000 in
theorem t_X0_forget {M : Mm} {g : Nat} (hg : LX0 M.1 M.2.1 g) : Ct G base YX0_forget 1 0 0 [.ref g] M (rE none (uI M g 0 (nI 0))) := by
  refine Ct.of IX0_forget.1 (by simp [Value.category]) (Nat.le_of_ble_eq_true rfl) (fun X hX hN => ?_)
  show J G base X 0 0 M 0 [some (.ref g)] []
  refine r_aload_n hX dX0_forget_0 rfl ?_
  refine r_iconst (v := nI 0) hX dX0_forget_1 (by decide) ?_
  refine r_puti hX dX0_forget_2 fl_X0_9 rfl rfl (LX0_s hg) ?_
  refine r_return hX rfl dX0_forget_5 (by decide) (by decide) ?_
  exact ⟨rfl, rfl⟩
theorem hist_keep {i i' : Nat → Nat → Int32} {g d x x' : Nat} {σ : Sg} {n : Nat → Int32} (hn : σ.1 = n) (hσ : σ.2.2.1 = d) (hd8 : d ≤ 8) (hx : x < 8) (hx' : x' = (x + 1) % 8) (hrow : RS i (g + (2 + 18 * x)) n) (hold : ∀ j, j < d → ¬ hsl x d j = x → RS i (g + (2 + 18 * hsl x d j)) (fun q => σ.2.1 (1158 * j + q))) (h0 : i' g 0 = nI (if d = 8 then 8 else d + 1)) (h1 : i' g 1 = nI x') (ho : ∀ y, y ≠ g → ∀ k, i' y k = i y k) : HR i' g (keepS σ).2.1 (keepS σ).2.2.1 := by
  subst hn
  unfold keepS
  dsimp only
  rw [hσ]
  by_cases e : d = 8
  · rw [if_pos e] at h0
    rw [if_pos e, if_pos e]
    refine ⟨h0, by omega, x', by omega, h1, fun j hj => ?_⟩
    by_cases e7 : j = 7
    · have es : hsl x' 8 j = x := by show (x' + 8 - 8 + j) % 8 = x; omega
      rw [es]
      refine RS.eqr (hrow.kept (fun y hy hy2 k => ho y (by omega) k)) (fun q hq => ?_)
      unfold cpP
      rw [if_pos (by omega)]
      exact congrArg σ.1 (by omega)
    · have es : hsl x' 8 j = hsl x d (j + 1) := by show (x' + 8 - 8 + j) % 8 = (x + 8 - d + (j + 1)) % 8; omega
      rw [es]
      refine RS.eqr ((hold (j + 1) (by omega) (by show ¬ (x + 8 - d + (j + 1)) % 8 = x; omega)).kept (fun y hy hy2 k => ho y (by omega) k)) (fun q hq => ?_)
      unfold cpP shP
      rw [if_neg (by omega), if_pos (by omega)]
      exact congrArg σ.2.1 (by omega)
  · rw [if_neg e] at h0
    rw [if_neg e, if_neg e]
    refine ⟨h0, by omega, x', by omega, h1, fun j hj => ?_⟩
    have es : hsl x' (d + 1) j = hsl x d j := by show (x' + 8 - (d + 1) + j) % 8 = (x + 8 - d + j) % 8; omega
    rw [es]
    by_cases ej : j = d
    · have e2 : hsl x d j = x := by show (x + 8 - d + j) % 8 = x; omega
      rw [e2]
      refine RS.eqr (hrow.kept (fun y hy hy2 k => ho y (by omega) k)) (fun q hq => ?_)
      unfold cpP
      rw [if_pos (by omega)]
      exact congrArg σ.1 (by omega)
    · refine RS.eqr ((hold j (by omega) (by show ¬ (x + 8 - d + j) % 8 = x; omega)).kept (fun y hy hy2 k => ho y (by omega) k)) (fun q hq => ?_)
      unfold cpP
      rw [if_neg (by omega)]
theorem min8 {d : Nat} (hd : d ≤ 8) : (if nI 8 < nI (d + 1) then nI 8 else nI (d + 1)) = nI (if d = 8 then 8 else d + 1) := by
  by_cases e : d = 8
  · rw [if_pos e, if_pos (by rw [nI_ltI (by omega) (by omega)]; omega)]
  · rw [if_neg e, if_neg (by rw [nI_ltI (by omega) (by omega)]; omega)]
set_option maxHeartbeats 2000000 in
set_option maxRecDepth 20000 in
theorem t_X0_keep {M : Mm} {g a : Nat} {n : Nat → Int32} (hg : LX0 M.1 M.2.1 g) (hL : LX8 M.1 M.2.1 a) (hdj : a + 18 ≤ g ∨ g + 146 ≤ a) (hR : RS (mI M) a n) {σ : Sg} (hσn : σ.1 = n) (hH : HR (mI M) g σ.2.1 σ.2.2.1) : Ct G base YX0_keep 4 0 0 [.ref g, .ref a] M (rI none M (fun i => HR i g (keepS σ).2.1 (keepS σ).2.2.1 ∧ RS i a n ∧ ∀ y, (y < g ∨ g + 146 ≤ y) → ∀ k, i y k = mI M y k)) := by
  refine Ct.of IX0_keep.1 (by simp [Value.category]) (Nat.le_of_ble_eq_true rfl) (fun X hX hN => ?_)
  show J G base X 0 0 M 0 [some (.ref g), some (.ref a), none] []
  obtain ⟨hd0, hd8, x, hx8, hx1, hrows⟩ := hH
  obtain ⟨d, hσd⟩ : ∃ d, σ.2.2.1 = d := ⟨_, rfl⟩
  rw [hσd] at hd0 hd8 hrows
  refine r_aload_n hX dX0_keep_0 rfl ?_
  refine r_aload_n hX dX0_keep_1 rfl ?_
  refine rn_geti (v := nI x) hX dX0_keep_2 fl_X0_15 rfl (LX0_s hg) hx1 ?_
  refine r_cV1 hX dX0_keep_5 IX0_slotAt ml_X0_25 rfl (LX0_s hg) rfl (t_X0_slotAt (M := M) hg hx8) (by decide) (by decide) (by decide) (by decide) rfl (Nat.le_of_ble_eq_true rfl) ?_
  refine r_astore2 hX dX0_keep_8 rfl ?_
  refine r_aload_n hX dX0_keep_9 rfl ?_
  refine r_ifnull hX dX0_keep_10 ?_
  refine r_aload_n hX dX0_keep_13 rfl ?_
  refine r_aload_n hX dX0_keep_14 rfl ?_
  refine r_iV1 hX dX0_keep_15 IX8_copyFrom ml_X0_29 rfl (LX8_s (LX0_e hg x hx8).2) rfl (t_X8_copyFrom (M := M) (LX0_e hg x hx8).2 hL (by omega)) (by decide) (by decide) (by decide) (by decide) rfl (Nat.le_of_ble_eq_true rfl) (fun i1 h1 => ?_)
  show J G base X _ _ (wI M i1) _ _ _
  have ho1 : outB i1 (mI M) (g + (2 + 18 * x)) 18 := h1.2.2.2.2.2.2.2.2.2.2
  have hg1 : i1 g 1 = nI x := (ho1 _ (by omega) _).trans hx1
  have hg0 : i1 g 0 = nI d := (ho1 _ (by omega) _).trans hd0
  have hnew : RS i1 (g + (2 + 18 * x)) n := hR.copy h1
  have hold : ∀ j, j < d → ¬ hsl x d j = x → RS i1 (g + (2 + 18 * hsl x d j)) (fun q => σ.2.1 (1158 * j + q)) := fun j hj hne => (hrows j hj).kept (fun y hy hy2 k => ho1 y (by omega) k)
  refine r_aload_n hX dX0_keep_18 rfl ?_
  refine r_aload_n hX dX0_keep_19 rfl ?_
  refine rn_geti (v := nI x) hX dX0_keep_20 fl_X0_15 rfl (LX0_s hg) hg1 ?_
  refine r_iconst (v := nI 1) hX dX0_keep_23 (by decide) ?_
  refine rn_iadd hX dX0_keep_24 rfl rfl ?_
  refine r_bipush (v := nI 8) hX dX0_keep_25 (by decide) ?_
  refine rn_icmp_ge (tgt := 39) hX dX0_keep_27 (by decide) rfl rfl (by omega) (by omega) (fun c27 => ?_) (fun c27 => ?_)
  · refine r_iconst (v := nI 0) hX dX0_keep_39 (by decide) ?_
    refine r_puti hX dX0_keep_40 fl_X0_15 rfl rfl (LX0_s hg) ?_
    refine r_aload_n hX dX0_keep_43 rfl ?_
    refine r_aload_n hX dX0_keep_44 rfl ?_
    refine rn_geti (v := nI d) hX dX0_keep_45 fl_X0_9 rfl (LX0_s hg) (by simp [mI_uI]; exact hg0) ?_
    refine r_iconst (v := nI 1) hX dX0_keep_48 (by decide) ?_
    refine rn_iadd hX dX0_keep_49 rfl rfl ?_
    refine r_bipush (v := nI 8) hX dX0_keep_50 (by decide) ?_
    refine r_mmin hX dX0_keep_52 ml_X0_33 rfl ⟨by decide, Nat.le_of_ble_eq_true rfl, by decide, by decide⟩ ?_
    rw [min8 hd8]
    refine r_puti hX dX0_keep_55 fl_X0_9 rfl rfl (LX0_s hg) ?_
    refine r_return hX rfl dX0_keep_58 (by decide) (by decide) ?_
    refine ⟨rfl, mI (uI (uI (wI M i1) g 1 (nI 0)) g 0 (nI (if d = 8 then 8 else d + 1))), rfl, hist_keep hσn hσd hd8 hx8 (x' := 0) (by omega) hnew hold (by simp [mI_uI]) (by simp [mI_uI]) (fun y hy k => (congrFun (uIo hy) k).trans (congrFun (uIo hy) k)), hR.kept (fun y hy hy2 k => (congrFun (uIo (by omega)) k).trans ((congrFun (uIo (by omega)) k).trans (ho1 y (by omega) k))), fun y hy k => (congrFun (uIo (by omega)) k).trans ((congrFun (uIo (by omega)) k).trans (ho1 y (by omega) k))⟩
  · refine r_aload_n hX dX0_keep_30 rfl ?_
    refine rn_geti (v := nI x) hX dX0_keep_31 fl_X0_15 rfl (LX0_s hg) hg1 ?_
    refine r_iconst (v := nI 1) hX dX0_keep_34 (by decide) ?_
    refine rn_iadd hX dX0_keep_35 rfl rfl ?_
    refine r_goto (tgt := 40) hX dX0_keep_36 (by decide) ?_
    refine r_puti hX dX0_keep_40 fl_X0_15 rfl rfl (LX0_s hg) ?_
    refine r_aload_n hX dX0_keep_43 rfl ?_
    refine r_aload_n hX dX0_keep_44 rfl ?_
    refine rn_geti (v := nI d) hX dX0_keep_45 fl_X0_9 rfl (LX0_s hg) (by simp [mI_uI]; exact hg0) ?_
    refine r_iconst (v := nI 1) hX dX0_keep_48 (by decide) ?_
    refine rn_iadd hX dX0_keep_49 rfl rfl ?_
    refine r_bipush (v := nI 8) hX dX0_keep_50 (by decide) ?_
    refine r_mmin hX dX0_keep_52 ml_X0_33 rfl ⟨by decide, Nat.le_of_ble_eq_true rfl, by decide, by decide⟩ ?_
    rw [min8 hd8]
    refine r_puti hX dX0_keep_55 fl_X0_9 rfl rfl (LX0_s hg) ?_
    refine r_return hX rfl dX0_keep_58 (by decide) (by decide) ?_
    refine ⟨rfl, mI (uI (uI (wI M i1) g 1 (nI (x + 1))) g 0 (nI (if d = 8 then 8 else d + 1))), rfl, hist_keep hσn hσd hd8 hx8 (x' := (x + 1)) (by omega) hnew hold (by simp [mI_uI]) (by simp [mI_uI]) (fun y hy k => (congrFun (uIo hy) k).trans (congrFun (uIo hy) k)), hR.kept (fun y hy hy2 k => (congrFun (uIo (by omega)) k).trans ((congrFun (uIo (by omega)) k).trans (ho1 y (by omega) k))), fun y hy k => (congrFun (uIo (by omega)) k).trans ((congrFun (uIo (by omega)) k).trans (ho1 y (by omega) k))⟩
