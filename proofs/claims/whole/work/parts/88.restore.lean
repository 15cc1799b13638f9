variable {G : GG} {base : Nat}
theorem hist_back {i i' : Nat → Nat → Int32} {g d x : Nat} {ps : Nat → Int32} (hd8 : d ≤ 8) (hd0 : ¬ d = 0) (hx : x < 8) (hold : ∀ j, j < d → RS i (g + (2 + 18 * hsl x d j)) (fun q => ps (1158 * j + q))) (h0 : i' g 0 = nI (d - 1)) (h1 : i' g 1 = nI ((x + 7) % 8)) (ho : ∀ y, g < y → y < g + 146 → ∀ k, i' y k = i y k) : HR i' g ps (d - 1) := by
  refine ⟨h0, by omega, (x + 7) % 8, Nat.mod_lt _ (by omega), h1, fun j hj => ?_⟩
  have h8 : hsl x d j < 8 := Nat.mod_lt _ (by omega)
  have es : hsl ((x + 7) % 8) (d - 1) j = hsl x d j := by show ((x + 7) % 8 + 8 - (d - 1) + j) % 8 = (x + 8 - d + j) % 8; omega
  rw [es]
  exact (hold j (by omega)).kept (fun y hy hy2 k => ho y (by omega) (by omega) k)
set_option maxHeartbeats 2000000 in
set_option maxRecDepth 20000 in
theorem t_X0_restore0 {M : Mm} {g a : Nat} {σ : Sg} (hg : LX0 M.1 M.2.1 g) (hL : LX8 M.1 M.2.1 a) (hdj : a + 18 ≤ g ∨ g + 146 ≤ a) (hH : HR (mI M) g σ.2.1 σ.2.2.1) (hz : σ.2.2.1 = 0) : Ct G base YX0_restore 3 0 0 [.ref g, .ref a] M (rE (some (.int 0)) M) := by
  refine Ct.of IX0_restore.1 (by simp [Value.category]) (Nat.le_of_ble_eq_true rfl) (fun X hX hN => ?_)
  show J G base X 0 0 M 0 [some (.ref g), some (.ref a), none, none] []
  obtain ⟨hd0, hd8, x, hx8, hx1, hrows⟩ := hH
  obtain ⟨d, hσd⟩ : ∃ d, σ.2.2.1 = d := ⟨_, rfl⟩
  rw [hσd] at hd0 hd8 hrows hz
  have hx7 : (x + 7) % 8 < 8 := Nat.mod_lt _ (by omega)
  have main : J G base X 0 0 M 18 [some (.ref g), some (.ref a), none, none] [.int (nI ((x + 7) % 8))] := by
    refine r_istore2 hX dX0_restore_18 rfl ?_
    refine r_aload_n hX dX0_restore_19 rfl ?_
    refine r_iload_n hX dX0_restore_20 rfl ?_
    refine r_cV1 hX dX0_restore_21 IX0_slotAt ml_X0_25 rfl (LX0_s hg) rfl (t_X0_slotAt (M := M) hg hx7) (by decide) (by decide) (by decide) (by decide) rfl (Nat.le_of_ble_eq_true rfl) ?_
    refine r_astore3 hX dX0_restore_24 rfl ?_
    refine r_aload_n hX dX0_restore_25 rfl ?_
    refine rn_geti (v := nI d) hX dX0_restore_26 fl_X0_9 rfl (LX0_s hg) hd0 ?_
    refine rn_if_le (tgt := 36) hX dX0_restore_29 (by decide) rfl (by omega) (fun c29 => ?_) (fun c29 => by omega)
    refine r_iconst (v := 0) hX dX0_restore_36 (by decide) ?_
    refine r_ireturn hX rfl rfl dX0_restore_37 (by decide) (by decide) ?_
    exact ⟨rfl, rfl⟩
  
  refine r_aload_n hX dX0_restore_0 rfl ?_
  refine rn_geti (v := nI x) hX dX0_restore_1 fl_X0_15 rfl (LX0_s hg) hx1 ?_
  refine rn_if_le (tgt := 16) hX dX0_restore_4 (by decide) rfl (by omega) (fun c4 => ?_) (fun c4 => ?_)
  · refine r_bipush (v := nI 7) hX dX0_restore_16 (by decide) ?_
    have e : (x + 7) % 8 = 7 := by omega
    rw [e] at main
    exact main
  · refine r_aload_n hX dX0_restore_7 rfl ?_
    refine rn_geti (v := nI x) hX dX0_restore_8 fl_X0_15 rfl (LX0_s hg) hx1 ?_
    refine r_iconst (v := nI 1) hX dX0_restore_11 (by decide) ?_
    refine rn_isub hX dX0_restore_12 rfl rfl (by omega) ?_
    refine r_goto (tgt := 18) hX dX0_restore_13 (by decide) ?_
    have e : (x + 7) % 8 = x - 1 := by omega
    rw [e] at main
    exact main
set_option maxHeartbeats 2000000 in
set_option maxRecDepth 20000 in
theorem t_X0_restore1 {M : Mm} {g a : Nat} {σ : Sg} (hg : LX0 M.1 M.2.1 g) (hL : LX8 M.1 M.2.1 a) (hdj : a + 18 ≤ g ∨ g + 146 ≤ a) (hH : HR (mI M) g σ.2.1 σ.2.2.1) (hz : ¬ σ.2.2.1 = 0) : Ct G base YX0_restore 3 0 0 [.ref g, .ref a] M (rI (some (.int 1)) M (fun i => HR i g σ.2.1 (σ.2.2.1 - 1) ∧ RS i a (undoS σ).1 ∧ ∀ y, (y < g ∨ g + 146 ≤ y) → (y < a ∨ a + 18 ≤ y) → ∀ k, i y k = mI M y k)) := by
  refine Ct.of IX0_restore.1 (by simp [Value.category]) (Nat.le_of_ble_eq_true rfl) (fun X hX hN => ?_)
  show J G base X 0 0 M 0 [some (.ref g), some (.ref a), none, none] []
  obtain ⟨hd0, hd8, x, hx8, hx1, hrows⟩ := hH
  obtain ⟨d, hσd⟩ : ∃ d, σ.2.2.1 = d := ⟨_, rfl⟩
  rw [hσd] at hd0 hd8 hrows hz
  have hx7 : (x + 7) % 8 < 8 := Nat.mod_lt _ (by omega)
  have main : J G base X 0 0 M 18 [some (.ref g), some (.ref a), none, none] [.int (nI ((x + 7) % 8))] := by
    refine r_istore2 hX dX0_restore_18 rfl ?_
    refine r_aload_n hX dX0_restore_19 rfl ?_
    refine r_iload_n hX dX0_restore_20 rfl ?_
    refine r_cV1 hX dX0_restore_21 IX0_slotAt ml_X0_25 rfl (LX0_s hg) rfl (t_X0_slotAt (M := M) hg hx7) (by decide) (by decide) (by decide) (by decide) rfl (Nat.le_of_ble_eq_true rfl) ?_
    refine r_astore3 hX dX0_restore_24 rfl ?_
    refine r_aload_n hX dX0_restore_25 rfl ?_
    refine rn_geti (v := nI d) hX dX0_restore_26 fl_X0_9 rfl (LX0_s hg) hd0 ?_
    refine rn_if_le (tgt := 36) hX dX0_restore_29 (by decide) rfl (by omega) (fun c29 => by omega) (fun c29 => ?_)
    refine r_aload_n hX dX0_restore_32 rfl ?_
    refine r_ifnonnull (tgt := 38) hX dX0_restore_33 (by decide) ?_
    refine r_aload_n hX dX0_restore_38 rfl ?_
    refine r_aload_n hX dX0_restore_39 rfl ?_
    refine r_iV1 hX dX0_restore_40 IX8_copyFrom ml_X0_29 rfl (LX8_s hL) rfl (t_X8_copyFrom (M := M) hL (LX0_e hg _ hx7).2 (by omega)) (by decide) (by decide) (by decide) (by decide) rfl (Nat.le_of_ble_eq_true rfl) (fun i1 h1 => ?_)
    show J G base X _ _ (wI M i1) _ _ _
    have ho1 : outB i1 (mI M) a 18 := h1.2.2.2.2.2.2.2.2.2.2
    have es : hsl x d (d - 1) = (x + 7) % 8 := by show (x + 8 - d + (d - 1)) % 8 = (x + 7) % 8; omega
    have hnew : RS i1 a (fun q => σ.2.1 (1158 * (d - 1) + q)) := by
      have z := hrows (d - 1) (by omega)
      rw [es] at z
      exact z.copy h1
    have hg0 : i1 g 0 = nI d := (ho1 _ (by omega) _).trans hd0
    refine r_aload_n hX dX0_restore_43 rfl ?_
    refine r_iload_n hX dX0_restore_44 rfl ?_
    refine r_puti hX dX0_restore_45 fl_X0_15 rfl rfl (LX0_s hg) ?_
    refine r_aload_n hX dX0_restore_48 rfl ?_
    refine r_dup hX dX0_restore_49 rfl ?_
    refine rn_geti (v := nI d) hX dX0_restore_50 fl_X0_9 rfl (LX0_s hg) (by simp [mI_uI]; exact hg0) ?_
    refine r_iconst (v := nI 1) hX dX0_restore_53 (by decide) ?_
    refine rn_isub hX dX0_restore_54 rfl rfl (by omega) ?_
    refine r_puti hX dX0_restore_55 fl_X0_9 rfl rfl (LX0_s hg) ?_
    refine r_iconst (v := 1) hX dX0_restore_58 (by decide) ?_
    refine r_ireturn hX rfl rfl dX0_restore_59 (by decide) (by decide) ?_
    refine ⟨rfl, mI (uI (uI (wI M i1) g 1 (nI ((x + 7) % 8))) g 0 (nI (d - 1))), rfl, ?_, ?_, fun y hy hy2 k => (congrFun (uIo (by omega)) k).trans ((congrFun (uIo (by omega)) k).trans (ho1 y (by omega) k))⟩
    · rw [hσd]
      exact hist_back hd8 hz hx8 hrows (by simp [mI_uI]) (by simp [mI_uI]) (fun y h1 h2 k => (congrFun (uIo (by omega)) k).trans ((congrFun (uIo (by omega)) k).trans (ho1 y (by omega) k)))
    · unfold undoS rowP
      rw [hσd]
      exact RS.eqr (hnew.kept (fun y hy hy2 k => (congrFun (uIo (by omega)) k).trans (congrFun (uIo (by omega)) k))) (fun q hq => if_pos hq)
  
  refine r_aload_n hX dX0_restore_0 rfl ?_
  refine rn_geti (v := nI x) hX dX0_restore_1 fl_X0_15 rfl (LX0_s hg) hx1 ?_
  refine rn_if_le (tgt := 16) hX dX0_restore_4 (by decide) rfl (by omega) (fun c4 => ?_) (fun c4 => ?_)
  · refine r_bipush (v := nI 7) hX dX0_restore_16 (by decide) ?_
    have e : (x + 7) % 8 = 7 := by omega
    rw [e] at main
    exact main
  · refine r_aload_n hX dX0_restore_7 rfl ?_
    refine rn_geti (v := nI x) hX dX0_restore_8 fl_X0_15 rfl (LX0_s hg) hx1 ?_
    refine r_iconst (v := nI 1) hX dX0_restore_11 (by decide) ?_
    refine rn_isub hX dX0_restore_12 rfl rfl (by omega) ?_
    refine r_goto (tgt := 18) hX dX0_restore_13 (by decide) ?_
    have e : (x + 7) % 8 = x - 1 := by omega
    rw [e] at main
    exact main
