variable {G : GG} {base : Nat}
set_option maxHeartbeats 2000000 in
set_option maxRecDepth 20000 in
theorem t_X8_init {M : Mm} {a : Nat} (hs : mS M a = some (8, 0)) (hz : ∀ j, mI M a j = 0) (ht : mT M = some (a + 1)) (hb : base ≤ a) : Ct G base YX8_init 3 17 682 [.ref a] M (pNw M a 18 (fun N => LX8 N.1 N.2.1 a ∧ RS (mI N) a row0)) := by
  refine Ct.of IX8_init.1 (by simp [Value.category]) (Nat.le_of_ble_eq_true rfl) (fun X hX hN => ?_)
  show J G base X 0 0 M 0 [some (.ref a)] []
  refine r_aload_n hX dX8_init_0 rfl ?_
  refine r_oinit hX dX8_init_1 oi_8 (by decide) rfl (by decide) ?_
  refine r_aload_n hX dX8_init_4 rfl ?_
  refine r_iconst (v := nI 0) hX dX8_init_5 (by decide) ?_
  refine r_puti (n := 0) hX dX8_init_6 fl_X8_9 rfl rfl (by simp [mS_uN, mR_uN, mI_uN, mS_uR, mR_uR, mI_uR, mS_uI, mR_uI, mI_uI, hs]) ?_
  refine r_aload_n hX dX8_init_9 rfl ?_
  refine r_bipush (v := nI 8) hX dX8_init_10 (by decide) ?_
  refine r_puti (n := 0) hX dX8_init_12 fl_X8_15 rfl rfl (by simp [mS_uN, mR_uN, mI_uN, mS_uR, mR_uR, mI_uR, mS_uI, mR_uI, mI_uI, hs]) ?_
  refine r_aload_n hX dX8_init_15 rfl ?_
  refine r_iconst (v := nI 0) hX dX8_init_16 (by decide) ?_
  refine r_puti (n := 0) hX dX8_init_17 fl_X8_18 rfl rfl (by simp [mS_uN, mR_uN, mI_uN, mS_uR, mR_uR, mI_uR, mS_uI, mR_uI, mI_uI, hs]) ?_
  refine r_aload_n hX dX8_init_20 rfl ?_
  refine r_iconst (v := nI 0) hX dX8_init_21 (by decide) ?_
  refine r_puti (n := 0) hX dX8_init_22 fl_X8_21 rfl rfl (by simp [mS_uN, mR_uN, mI_uN, mS_uR, mR_uR, mI_uR, mS_uI, mR_uI, mI_uI, hs]) ?_
  refine r_aload_n hX dX8_init_25 rfl ?_
  refine r_iconst (v := nI 5) hX dX8_init_26 (by decide) ?_
  refine r_newI (q := (a + 1)) (N := 5) hX dX8_init_27 ht (Nat.le_trans hb (Nat.le_add_right _ _)) (Nat.le_of_ble_eq_true rfl) (Nat.le_of_ble_eq_true rfl) (Nat.le_of_ble_eq_true rfl) ?_
  refine r_putF (n := 0) hX dX8_init_29 fl_X8_24 rfl rfl hN (fun C T N h => by cases h; rfl) (by simp [mS_uN, mR_uN, mI_uN, mS_uR, mR_uR, mI_uR, mS_uI, mR_uI, mI_uI, hs]) ?_
  refine r_aload_n hX dX8_init_32 rfl ?_
  refine r_new (q := (a + 2)) (ci := 2) hX rfl dX8_init_33 cl_X8_28 nw_X2 rfl (Nat.le_trans hb (Nat.le_add_right _ _)) (Nat.le_of_ble_eq_true rfl) (Nat.le_of_ble_eq_true rfl) ?_
  refine r_dup hX dX8_init_36 rfl ?_
  refine r_gI0 hX dX8_init_37 IX2_init ml_X8_30 rfl (t_X2_init (M := (uN (uR (uN (uI (uI (uI (uI M a 0 (nI 0)) a 1 (nI 8)) a 2 (nI 0)) a 3 (nI 0)) (a + 1) (12, 5)) a 4 (some (a + 1))) (a + 2) (2, 0))) (a := (a + 2)) (by simp [mS_uN]) (by simp [mI_uN]) rfl (Nat.le_trans hb (Nat.le_add_right _ _))) (by decide) (Nat.le_of_ble_eq_true rfl) (Nat.le_of_ble_eq_true rfl) (by decide) rfl (Nat.le_of_ble_eq_true rfl) (fun E N9 h9 => by obtain ⟨h9, -⟩ := h9; cases h9) (fun v N1 hB => ?_)
  obtain ⟨hv, ⟨ht_N1, hS_N1, hR_N1, hI_N1, hL_N1⟩, hP_N1⟩ := hB
  cases hv
  show J G base X _ _ N1 _ _ [.ref (a + 2), .ref a]
  have hs_N1 : mS N1 a = some (8, 0) := (hS_N1 a (by omega)).trans (by simp [mS_uN, mR_uN, mI_uN, mS_uR, mR_uR, mI_uR, mS_uI, mR_uI, mI_uI, hs])
  refine r_putF (n := 0) hX dX8_init_40 fl_X8_31 rfl rfl hN (fun C T N h => by cases h; rfl) (by simp [mS_uN, mR_uN, mI_uN, mS_uR, mR_uR, mI_uR, mS_uI, mR_uI, mI_uI, hs_N1]) ?_
  refine r_aload_n hX dX8_init_43 rfl ?_
  refine r_new (q := (a + 13)) (ci := 6) hX rfl dX8_init_44 cl_X8_35 nw_X6 ht_N1 (Nat.le_trans hb (Nat.le_add_right _ _)) (Nat.le_of_ble_eq_true rfl) (Nat.le_of_ble_eq_true rfl) ?_
  refine r_dup hX dX8_init_47 rfl ?_
  refine r_gI0 hX dX8_init_48 IX6_init ml_X8_37 rfl (t_X6_init (M := (uN (uR N1 a 5 (some (a + 2))) (a + 13) (6, 0))) (a := (a + 13)) (by simp [mS_uN]) (by simp [mI_uN]) rfl (Nat.le_trans hb (Nat.le_add_right _ _))) (by decide) (Nat.le_of_ble_eq_true rfl) (Nat.le_of_ble_eq_true rfl) (by decide) rfl (Nat.le_of_ble_eq_true rfl) (fun E N9 h9 => by obtain ⟨h9, -⟩ := h9; cases h9) (fun v N2 hB => ?_)
  obtain ⟨hv, ⟨ht_N2, hS_N2, hR_N2, hI_N2, hL_N2⟩, hP_N2⟩ := hB
  cases hv
  show J G base X _ _ N2 _ _ [.ref (a + 13), .ref a]
  have hs_N2 : mS N2 a = some (8, 0) := (hS_N2 a (by omega)).trans (by simp [mS_uN, mR_uN, mI_uN, mS_uR, mR_uR, mI_uR, mS_uI, mR_uI, mI_uI, hs_N1])
  refine r_putF (n := 0) hX dX8_init_51 fl_X8_38 rfl rfl hN (fun C T N h => by cases h; rfl) (by simp [mS_uN, mR_uN, mI_uN, mS_uR, mR_uR, mI_uR, mS_uI, mR_uI, mI_uI, hs_N2]) ?_
  refine r_aload_n hX dX8_init_54 rfl ?_
  refine r_new (q := (a + 15)) (ci := 4) hX rfl dX8_init_55 cl_X8_42 nw_X4 ht_N2 (Nat.le_trans hb (Nat.le_add_right _ _)) (Nat.le_of_ble_eq_true rfl) (Nat.le_of_ble_eq_true rfl) ?_
  refine r_dup hX dX8_init_58 rfl ?_
  refine r_gI0 hX dX8_init_59 IX4_init ml_X8_44 rfl (t_X4_init (M := (uN (uR N2 a 6 (some (a + 13))) (a + 15) (4, 0))) (a := (a + 15)) (by simp [mS_uN]) (by simp [mI_uN]) rfl (Nat.le_trans hb (Nat.le_add_right _ _))) (by decide) (Nat.le_of_ble_eq_true rfl) (Nat.le_of_ble_eq_true rfl) (by decide) rfl (Nat.le_of_ble_eq_true rfl) (fun E N9 h9 => by obtain ⟨h9, -⟩ := h9; cases h9) (fun v N3 hB => ?_)
  obtain ⟨hv, ⟨ht_N3, hS_N3, hR_N3, hI_N3, hL_N3⟩, hP_N3⟩ := hB
  cases hv
  show J G base X _ _ N3 _ _ [.ref (a + 15), .ref a]
  have hs_N3 : mS N3 a = some (8, 0) := (hS_N3 a (by omega)).trans (by simp [mS_uN, mR_uN, mI_uN, mS_uR, mR_uR, mI_uR, mS_uI, mR_uI, mI_uI, hs_N2])
  refine r_putF (n := 0) hX dX8_init_62 fl_X8_45 rfl rfl hN (fun C T N h => by cases h; rfl) (by simp [mS_uN, mR_uN, mI_uN, mS_uR, mR_uR, mI_uR, mS_uI, mR_uI, mI_uI, hs_N3]) ?_
  refine r_return hX rfl dX8_init_65 (Nat.le_of_ble_eq_true rfl) (Nat.le_of_ble_eq_true rfl) ?_
  refine ⟨rfl, ⟨ht_N3, fun x hx => ?_, fun x hx k => ?_, fun x hx k => ?_, fun x hx k => ?_⟩, ?_⟩
  · simp only [mS_uN, mS_uR, mS_uI]
    repeat rw [if_neg (by omega)]
    rw [hS_N3 x (by omega)]
    simp only [mS_uN, mS_uR, mS_uI]
    repeat rw [if_neg (by omega)]
    rw [hS_N2 x (by omega)]
    simp only [mS_uN, mS_uR, mS_uI]
    repeat rw [if_neg (by omega)]
    rw [hS_N1 x (by omega)]
    simp only [mS_uN, mS_uR, mS_uI]
    repeat rw [if_neg (by omega)]
  · simp only [mR_uN, mR_uR, mR_uI]
    repeat rw [if_neg (by omega)]
    rw [hR_N3 x (by omega) k]
    simp only [mR_uN, mR_uR, mR_uI]
    repeat rw [if_neg (by omega)]
    rw [hR_N2 x (by omega) k]
    simp only [mR_uN, mR_uR, mR_uI]
    repeat rw [if_neg (by omega)]
    rw [hR_N1 x (by omega) k]
    simp only [mR_uN, mR_uR, mR_uI]
    repeat rw [if_neg (by omega)]
  · simp only [mI_uN, mI_uR, mI_uI]
    repeat rw [if_neg (by omega)]
    rw [hI_N3 x (by omega) k]
    simp only [mI_uN, mI_uR, mI_uI]
    repeat rw [if_neg (by omega)]
    rw [hI_N2 x (by omega) k]
    simp only [mI_uN, mI_uR, mI_uI]
    repeat rw [if_neg (by omega)]
    rw [hI_N1 x (by omega) k]
    simp only [mI_uN, mI_uR, mI_uI]
    repeat rw [if_neg (by omega)]
  · simp only [mL_uN, mL_uR, mL_uI]
    repeat rw [if_neg (by omega)]
    rw [hL_N3 x (by omega) k]
    simp only [mL_uN, mL_uR, mL_uI]
    repeat rw [if_neg (by omega)]
    rw [hL_N2 x (by omega) k]
    simp only [mL_uN, mL_uR, mL_uI]
    repeat rw [if_neg (by omega)]
    rw [hL_N1 x (by omega) k]
    simp only [mL_uN, mL_uR, mL_uI]
    repeat rw [if_neg (by omega)]
  have eS_N1 : ∀ x, a + 2 ≤ x → x < a + 13 → mS (uR N3 a 7 (some (a + 15))) x = mS N1 x := fun x h1 h2 => by
    simp only [mS_uN, mS_uR, mS_uI]
    repeat rw [if_neg (by omega)]
    rw [hS_N3 x (by omega)]
    simp only [mS_uN, mS_uR, mS_uI]
    repeat rw [if_neg (by omega)]
    rw [hS_N2 x (by omega)]
    simp only [mS_uN, mS_uR, mS_uI]
    repeat rw [if_neg (by omega)]
  have eR_N1 : ∀ x, a + 2 ≤ x → x < a + 13 → ∀ k, mR (uR N3 a 7 (some (a + 15))) x k = mR N1 x k := fun x h1 h2 k => by
    simp only [mR_uN, mR_uR, mR_uI]
    repeat rw [if_neg (by omega)]
    rw [hR_N3 x (by omega) k]
    simp only [mR_uN, mR_uR, mR_uI]
    repeat rw [if_neg (by omega)]
    rw [hR_N2 x (by omega) k]
    simp only [mR_uN, mR_uR, mR_uI]
    repeat rw [if_neg (by omega)]
  have eI_N1 : ∀ x, a + 2 ≤ x → x < a + 13 → ∀ k, mI (uR N3 a 7 (some (a + 15))) x k = mI N1 x k := fun x h1 h2 k => by
    simp only [mI_uN, mI_uR, mI_uI]
    repeat rw [if_neg (by omega)]
    rw [hI_N3 x (by omega) k]
    simp only [mI_uN, mI_uR, mI_uI]
    repeat rw [if_neg (by omega)]
    rw [hI_N2 x (by omega) k]
    simp only [mI_uN, mI_uR, mI_uI]
    repeat rw [if_neg (by omega)]
  have eS_N2 : ∀ x, a + 13 ≤ x → x < a + 15 → mS (uR N3 a 7 (some (a + 15))) x = mS N2 x := fun x h1 h2 => by
    simp only [mS_uN, mS_uR, mS_uI]
    repeat rw [if_neg (by omega)]
    rw [hS_N3 x (by omega)]
    simp only [mS_uN, mS_uR, mS_uI]
    repeat rw [if_neg (by omega)]
  have eR_N2 : ∀ x, a + 13 ≤ x → x < a + 15 → ∀ k, mR (uR N3 a 7 (some (a + 15))) x k = mR N2 x k := fun x h1 h2 k => by
    simp only [mR_uN, mR_uR, mR_uI]
    repeat rw [if_neg (by omega)]
    rw [hR_N3 x (by omega) k]
    simp only [mR_uN, mR_uR, mR_uI]
    repeat rw [if_neg (by omega)]
  have eI_N2 : ∀ x, a + 13 ≤ x → x < a + 15 → ∀ k, mI (uR N3 a 7 (some (a + 15))) x k = mI N2 x k := fun x h1 h2 k => by
    simp only [mI_uN, mI_uR, mI_uI]
    repeat rw [if_neg (by omega)]
    rw [hI_N3 x (by omega) k]
    simp only [mI_uN, mI_uR, mI_uI]
    repeat rw [if_neg (by omega)]
  have eS_N3 : ∀ x, a + 15 ≤ x → x < a + 18 → mS (uR N3 a 7 (some (a + 15))) x = mS N3 x := fun x h1 h2 => by
    simp only [mS_uN, mS_uR, mS_uI]
    repeat rw [if_neg (by omega)]
  have eR_N3 : ∀ x, a + 15 ≤ x → x < a + 18 → ∀ k, mR (uR N3 a 7 (some (a + 15))) x k = mR N3 x k := fun x h1 h2 k => by
    simp only [mR_uN, mR_uR, mR_uI]
    repeat rw [if_neg (by omega)]
  have eI_N3 : ∀ x, a + 15 ≤ x → x < a + 18 → ∀ k, mI (uR N3 a 7 (some (a + 15))) x k = mI N3 x k := fun x h1 h2 k => by
    simp only [mI_uN, mI_uR, mI_uI]
    repeat rw [if_neg (by omega)]
  exact ⟨⟨(by show mS (uR N3 a 7 (some (a + 15))) a = some (8, 0); simp [mS_uN, mR_uN, mI_uN, mS_uR, mR_uR, mI_uR, mS_uI, mR_uI, mI_uI, hs, hS_N1, hR_N1, hI_N1, hS_N2, hR_N2, hI_N2, hS_N3, hR_N3, hI_N3]), (by show mR (uR N3 a 7 (some (a + 15))) a 4 = some (a + 1); simp [mS_uN, mR_uN, mI_uN, mS_uR, mR_uR, mI_uR, mS_uI, mR_uI, mI_uI, hs, hS_N1, hR_N1, hI_N1, hS_N2, hR_N2, hI_N2, hS_N3, hR_N3, hI_N3]), (by show mS (uR N3 a 7 (some (a + 15))) (a + 1) = some (12, 5); simp [mS_uN, mR_uN, mI_uN, mS_uR, mR_uR, mI_uR, mS_uI, mR_uI, mI_uI, hs, hS_N1, hR_N1, hI_N1, hS_N2, hR_N2, hI_N2, hS_N3, hR_N3, hI_N3]), (by show mR (uR N3 a 7 (some (a + 15))) a 5 = some (a + 2); simp [mS_uN, mR_uN, mI_uN, mS_uR, mR_uR, mI_uR, mS_uI, mR_uI, mI_uI, hs, hS_N1, hR_N1, hI_N1, hS_N2, hR_N2, hI_N2, hS_N3, hR_N3, hI_N3]), LX2.cong eS_N1 eR_N1 hP_N1.1, (by show mR (uR N3 a 7 (some (a + 15))) a 6 = some (a + 13); simp [mS_uN, mR_uN, mI_uN, mS_uR, mR_uR, mI_uR, mS_uI, mR_uI, mI_uI, hs, hS_N1, hR_N1, hI_N1, hS_N2, hR_N2, hI_N2, hS_N3, hR_N3, hI_N3]), LX6.cong eS_N2 eR_N2 hP_N2.1, (by show mR (uR N3 a 7 (some (a + 15))) a 7 = some (a + 15); simp [mS_uN, mR_uN, mI_uN, mS_uR, mR_uR, mI_uR, mS_uI, mR_uI, mI_uI, hs, hS_N1, hR_N1, hI_N1, hS_N2, hR_N2, hI_N2, hS_N3, hR_N3, hI_N3]), LX4.cong eS_N3 eR_N3 hP_N3.1⟩, RS.empty (by show mI (uR N3 a 7 (some (a + 15))) a 0 = _; simp [mS_uN, mR_uN, mI_uN, mS_uR, mR_uR, mI_uR, mS_uI, mR_uI, mI_uI, hz, hS_N1, hR_N1, hI_N1, hS_N2, hR_N2, hI_N2, hS_N3, hR_N3, hI_N3] <;> rfl) (by show mI (uR N3 a 7 (some (a + 15))) a 1 = _; simp [mS_uN, mR_uN, mI_uN, mS_uR, mR_uR, mI_uR, mS_uI, mR_uI, mI_uI, hz, hS_N1, hR_N1, hI_N1, hS_N2, hR_N2, hI_N2, hS_N3, hR_N3, hI_N3] <;> rfl) (by show mI (uR N3 a 7 (some (a + 15))) a 2 = _; simp [mS_uN, mR_uN, mI_uN, mS_uR, mR_uR, mI_uR, mS_uI, mR_uI, mI_uI, hz, hS_N1, hR_N1, hI_N1, hS_N2, hR_N2, hI_N2, hS_N3, hR_N3, hI_N3] <;> rfl) (by show mI (uR N3 a 7 (some (a + 15))) a 3 = _; simp [mS_uN, mR_uN, mI_uN, mS_uR, mR_uR, mI_uR, mS_uI, mR_uI, mI_uI, hz, hS_N1, hR_N1, hI_N1, hS_N2, hR_N2, hI_N2, hS_N3, hR_N3, hI_N3] <;> rfl) ((eI_N1 (a + 2) (by omega) (by omega) 0).trans hP_N1.2) ((eI_N2 (a + 13) (by omega) (by omega) 0).trans hP_N2.2.1) ((eI_N2 (a + 13) (by omega) (by omega) 1).trans hP_N2.2.2) ((eI_N3 (a + 15) (by omega) (by omega) 0).trans hP_N3.2)⟩
set_option maxHeartbeats 2000000 in
set_option maxRecDepth 20000 in
theorem t_X5_init {M : Mm} {a : Nat} (hs : mS M a = some (5, 0)) (hz : ∀ j, mI M a j = 0) (ht : mT M = some (a + 1)) (hb : base ≤ a) : Ct G base YX5_init 4 25 2566 [.ref a] M (pNw M a 26 (fun N => LX5 N.1 N.2.1 a)) := by
  refine Ct.of IX5_init.1 (by simp [Value.category]) (Nat.le_of_ble_eq_true rfl) (fun X hX hN => ?_)
  show J G base X 0 0 M 0 [some (.ref a)] []
  refine r_aload_n hX dX5_init_0 rfl ?_
  refine r_oinit hX dX5_init_1 oi_5 (by decide) rfl (by decide) ?_
  refine r_aload_n hX dX5_init_4 rfl ?_
  refine r_new (q := (a + 1)) (ci := 9) hX rfl dX5_init_5 cl_X5_9 nw_X9 ht (Nat.le_trans hb (Nat.le_add_right _ _)) (Nat.le_of_ble_eq_true rfl) (Nat.le_of_ble_eq_true rfl) ?_
  refine r_dup hX dX5_init_8 rfl ?_
  refine r_gI0 hX dX5_init_9 IX9_init ml_X5_11 rfl (t_X9_init (M := (uN M (a + 1) (9, 0))) (a := (a + 1)) (by simp [mS_uN]) (by simp [mI_uN]) rfl (Nat.le_trans hb (Nat.le_add_right _ _))) (by decide) (Nat.le_of_ble_eq_true rfl) (Nat.le_of_ble_eq_true rfl) (by decide) rfl (Nat.le_of_ble_eq_true rfl) (fun E N9 h9 => by obtain ⟨h9, -⟩ := h9; cases h9) (fun v N1 hB => ?_)
  obtain ⟨hv, ⟨ht_N1, hS_N1, hR_N1, hI_N1, hL_N1⟩, hP_N1⟩ := hB
  cases hv
  show J G base X _ _ N1 _ _ [.ref (a + 1), .ref a]
  have hs_N1 : mS N1 a = some (5, 0) := (hS_N1 a (by omega)).trans (by simp [mS_uN, mR_uN, mI_uN, mS_uR, mR_uR, mI_uR, mS_uI, mR_uI, mI_uI, hs])
  refine r_putF (n := 0) hX dX5_init_12 fl_X5_12 rfl rfl hN (fun C T N h => by cases h; rfl) (by simp [mS_uN, mR_uN, mI_uN, mS_uR, mR_uR, mI_uR, mS_uI, mR_uI, mI_uI, hs_N1]) ?_
  refine r_aload_n hX dX5_init_15 rfl ?_
  refine r_new (q := (a + 7)) (ci := 8) hX rfl dX5_init_16 cl_X5_18 nw_X8 ht_N1 (Nat.le_trans hb (Nat.le_add_right _ _)) (Nat.le_of_ble_eq_true rfl) (Nat.le_of_ble_eq_true rfl) ?_
  refine r_dup hX dX5_init_19 rfl ?_
  refine r_gI0 hX dX5_init_20 IX8_init ml_X5_20 rfl (t_X8_init (M := (uN (uR N1 a 0 (some (a + 1))) (a + 7) (8, 0))) (a := (a + 7)) (by simp [mS_uN]) (by simp [mI_uN]) rfl (Nat.le_trans hb (Nat.le_add_right _ _))) (by decide) (Nat.le_of_ble_eq_true rfl) (Nat.le_of_ble_eq_true rfl) (by decide) rfl (Nat.le_of_ble_eq_true rfl) (fun E N9 h9 => by obtain ⟨h9, -⟩ := h9; cases h9) (fun v N2 hB => ?_)
  obtain ⟨hv, ⟨ht_N2, hS_N2, hR_N2, hI_N2, hL_N2⟩, hP_N2⟩ := hB
  cases hv
  show J G base X _ _ N2 _ _ [.ref (a + 7), .ref a]
  have hs_N2 : mS N2 a = some (5, 0) := (hS_N2 a (by omega)).trans (by simp [mS_uN, mR_uN, mI_uN, mS_uR, mR_uR, mI_uR, mS_uI, mR_uI, mI_uI, hs_N1])
  refine r_putF (n := 0) hX dX5_init_23 fl_X5_21 rfl rfl hN (fun C T N h => by cases h; rfl) (by simp [mS_uN, mR_uN, mI_uN, mS_uR, mR_uR, mI_uR, mS_uI, mR_uI, mI_uI, hs_N2]) ?_
  refine r_aload_n hX dX5_init_26 rfl ?_
  refine r_iconst (v := (-1)) hX dX5_init_27 (by decide) ?_
  refine r_puti (n := 0) hX dX5_init_28 fl_X5_25 rfl rfl (by simp [mS_uN, mR_uN, mI_uN, mS_uR, mR_uR, mI_uR, mS_uI, mR_uI, mI_uI, hs_N2]) ?_
  refine r_aload_n hX dX5_init_31 rfl ?_
  refine r_iconst (v := nI 0) hX dX5_init_32 (by decide) ?_
  refine r_puti (n := 0) hX dX5_init_33 fl_X5_29 rfl rfl (by simp [mS_uN, mR_uN, mI_uN, mS_uR, mR_uR, mI_uR, mS_uI, mR_uI, mI_uI, hs_N2]) ?_
  refine r_aload_n hX dX5_init_36 rfl ?_
  refine r_iconst (v := nI 0) hX dX5_init_37 (by decide) ?_
  refine r_newI (q := (a + 25)) (N := 0) hX dX5_init_38 ht_N2 (Nat.le_trans hb (Nat.le_add_right _ _)) (Nat.le_of_ble_eq_true rfl) (Nat.le_of_ble_eq_true rfl) (Nat.le_of_ble_eq_true rfl) ?_
  refine r_putr (n := 0) hX dX5_init_40 fl_X5_32 rfl rfl (by simp [mS_uN, mR_uN, mI_uN, mS_uR, mR_uR, mI_uR, mS_uI, mR_uI, mI_uI, hs_N2]) ?_
  refine r_aload_n hX dX5_init_43 rfl ?_
  refine r_iconst (v := nI 0) hX dX5_init_44 (by decide) ?_
  refine r_puti (n := 0) hX dX5_init_45 fl_X5_36 rfl rfl (by simp [mS_uN, mR_uN, mI_uN, mS_uR, mR_uR, mI_uR, mS_uI, mR_uI, mI_uI, hs_N2]) ?_
  refine r_aload_n hX dX5_init_48 rfl ?_
  refine r_iconst (v := nI 0) hX dX5_init_49 (by decide) ?_
  refine r_puti (n := 0) hX dX5_init_50 fl_X5_39 rfl rfl (by simp [mS_uN, mR_uN, mI_uN, mS_uR, mR_uR, mI_uR, mS_uI, mR_uI, mI_uI, hs_N2]) ?_
  refine r_aload_n hX dX5_init_53 rfl ?_
  refine r_iconst (v := nI 0) hX dX5_init_54 (by decide) ?_
  refine r_puti (n := 0) hX dX5_init_55 fl_X5_42 rfl rfl (by simp [mS_uN, mR_uN, mI_uN, mS_uR, mR_uR, mI_uR, mS_uI, mR_uI, mI_uI, hs_N2]) ?_
  refine r_aload_n hX dX5_init_58 rfl ?_
  refine r_iconst (v := nI 0) hX dX5_init_59 (by decide) ?_
  refine r_puti (n := 0) hX dX5_init_60 fl_X5_45 rfl rfl (by simp [mS_uN, mR_uN, mI_uN, mS_uR, mR_uR, mI_uR, mS_uI, mR_uI, mI_uI, hs_N2]) ?_
  refine r_return hX rfl dX5_init_63 (Nat.le_of_ble_eq_true rfl) (Nat.le_of_ble_eq_true rfl) ?_
  refine ⟨rfl, ⟨rfl, fun x hx => ?_, fun x hx k => ?_, fun x hx k => ?_, fun x hx k => ?_⟩, ?_⟩
  · simp only [mS_uN, mS_uR, mS_uI]
    repeat rw [if_neg (by omega)]
    rw [hS_N2 x (by omega)]
    simp only [mS_uN, mS_uR, mS_uI]
    repeat rw [if_neg (by omega)]
    rw [hS_N1 x (by omega)]
    simp only [mS_uN, mS_uR, mS_uI]
    repeat rw [if_neg (by omega)]
  · simp only [mR_uN, mR_uR, mR_uI]
    repeat rw [if_neg (by omega)]
    rw [hR_N2 x (by omega) k]
    simp only [mR_uN, mR_uR, mR_uI]
    repeat rw [if_neg (by omega)]
    rw [hR_N1 x (by omega) k]
    simp only [mR_uN, mR_uR, mR_uI]
    repeat rw [if_neg (by omega)]
  · simp only [mI_uN, mI_uR, mI_uI]
    repeat rw [if_neg (by omega)]
    rw [hI_N2 x (by omega) k]
    simp only [mI_uN, mI_uR, mI_uI]
    repeat rw [if_neg (by omega)]
    rw [hI_N1 x (by omega) k]
    simp only [mI_uN, mI_uR, mI_uI]
    repeat rw [if_neg (by omega)]
  · simp only [mL_uN, mL_uR, mL_uI]
    repeat rw [if_neg (by omega)]
    rw [hL_N2 x (by omega) k]
    simp only [mL_uN, mL_uR, mL_uI]
    repeat rw [if_neg (by omega)]
    rw [hL_N1 x (by omega) k]
    simp only [mL_uN, mL_uR, mL_uI]
    repeat rw [if_neg (by omega)]
  have eS_N1 : ∀ x, a + 1 ≤ x → x < a + 7 → mS (uI (uI (uI (uI (uR (uN (uI (uI (uR N2 a 1 (some (a + 7))) a 2 (-1)) a 3 (nI 0)) (a + 25) (12, 0)) a 4 (some (a + 25))) a 5 (nI 0)) a 6 (nI 0)) a 7 (nI 0)) a 8 (nI 0)) x = mS N1 x := fun x h1 h2 => by
    simp only [mS_uN, mS_uR, mS_uI]
    repeat rw [if_neg (by omega)]
    rw [hS_N2 x (by omega)]
    simp only [mS_uN, mS_uR, mS_uI]
    repeat rw [if_neg (by omega)]
  have eR_N1 : ∀ x, a + 1 ≤ x → x < a + 7 → ∀ k, mR (uI (uI (uI (uI (uR (uN (uI (uI (uR N2 a 1 (some (a + 7))) a 2 (-1)) a 3 (nI 0)) (a + 25) (12, 0)) a 4 (some (a + 25))) a 5 (nI 0)) a 6 (nI 0)) a 7 (nI 0)) a 8 (nI 0)) x k = mR N1 x k := fun x h1 h2 k => by
    simp only [mR_uN, mR_uR, mR_uI]
    repeat rw [if_neg (by omega)]
    rw [hR_N2 x (by omega) k]
    simp only [mR_uN, mR_uR, mR_uI]
    repeat rw [if_neg (by omega)]
  have eI_N1 : ∀ x, a + 1 ≤ x → x < a + 7 → ∀ k, mI (uI (uI (uI (uI (uR (uN (uI (uI (uR N2 a 1 (some (a + 7))) a 2 (-1)) a 3 (nI 0)) (a + 25) (12, 0)) a 4 (some (a + 25))) a 5 (nI 0)) a 6 (nI 0)) a 7 (nI 0)) a 8 (nI 0)) x k = mI N1 x k := fun x h1 h2 k => by
    simp only [mI_uN, mI_uR, mI_uI]
    repeat rw [if_neg (by omega)]
    rw [hI_N2 x (by omega) k]
    simp only [mI_uN, mI_uR, mI_uI]
    repeat rw [if_neg (by omega)]
  have eS_N2 : ∀ x, a + 7 ≤ x → x < a + 25 → mS (uI (uI (uI (uI (uR (uN (uI (uI (uR N2 a 1 (some (a + 7))) a 2 (-1)) a 3 (nI 0)) (a + 25) (12, 0)) a 4 (some (a + 25))) a 5 (nI 0)) a 6 (nI 0)) a 7 (nI 0)) a 8 (nI 0)) x = mS N2 x := fun x h1 h2 => by
    simp only [mS_uN, mS_uR, mS_uI]
    repeat rw [if_neg (by omega)]
  have eR_N2 : ∀ x, a + 7 ≤ x → x < a + 25 → ∀ k, mR (uI (uI (uI (uI (uR (uN (uI (uI (uR N2 a 1 (some (a + 7))) a 2 (-1)) a 3 (nI 0)) (a + 25) (12, 0)) a 4 (some (a + 25))) a 5 (nI 0)) a 6 (nI 0)) a 7 (nI 0)) a 8 (nI 0)) x k = mR N2 x k := fun x h1 h2 k => by
    simp only [mR_uN, mR_uR, mR_uI]
    repeat rw [if_neg (by omega)]
  have eI_N2 : ∀ x, a + 7 ≤ x → x < a + 25 → ∀ k, mI (uI (uI (uI (uI (uR (uN (uI (uI (uR N2 a 1 (some (a + 7))) a 2 (-1)) a 3 (nI 0)) (a + 25) (12, 0)) a 4 (some (a + 25))) a 5 (nI 0)) a 6 (nI 0)) a 7 (nI 0)) a 8 (nI 0)) x k = mI N2 x k := fun x h1 h2 k => by
    simp only [mI_uN, mI_uR, mI_uI]
    repeat rw [if_neg (by omega)]
  exact ⟨(by show mS (uI (uI (uI (uI (uR (uN (uI (uI (uR N2 a 1 (some (a + 7))) a 2 (-1)) a 3 (nI 0)) (a + 25) (12, 0)) a 4 (some (a + 25))) a 5 (nI 0)) a 6 (nI 0)) a 7 (nI 0)) a 8 (nI 0)) a = some (5, 0); simp [mS_uN, mR_uN, mI_uN, mS_uR, mR_uR, mI_uR, mS_uI, mR_uI, mI_uI, hs, hS_N1, hR_N1, hI_N1, hS_N2, hR_N2, hI_N2]), (by show mR (uI (uI (uI (uI (uR (uN (uI (uI (uR N2 a 1 (some (a + 7))) a 2 (-1)) a 3 (nI 0)) (a + 25) (12, 0)) a 4 (some (a + 25))) a 5 (nI 0)) a 6 (nI 0)) a 7 (nI 0)) a 8 (nI 0)) a 0 = some (a + 1); simp [mS_uN, mR_uN, mI_uN, mS_uR, mR_uR, mI_uR, mS_uI, mR_uI, mI_uI, hs, hS_N1, hR_N1, hI_N1, hS_N2, hR_N2, hI_N2]), LX9.cong eS_N1 eR_N1 hP_N1.1, (by show mR (uI (uI (uI (uI (uR (uN (uI (uI (uR N2 a 1 (some (a + 7))) a 2 (-1)) a 3 (nI 0)) (a + 25) (12, 0)) a 4 (some (a + 25))) a 5 (nI 0)) a 6 (nI 0)) a 7 (nI 0)) a 8 (nI 0)) a 1 = some (a + 7); simp [mS_uN, mR_uN, mI_uN, mS_uR, mR_uR, mI_uR, mS_uI, mR_uI, mI_uI, hs, hS_N1, hR_N1, hI_N1, hS_N2, hR_N2, hI_N2]), LX8.cong eS_N2 eR_N2 hP_N2.1⟩
theorem J.cast {X : Cx} {cs sl cs' sl' : Nat} {M : Mm} {pc : Nat} {ls : List (Option Value)} {st : List Value} (h : J G base X cs sl M pc ls st) (e1 : cs = cs') (e2 : sl = sl') : J G base X cs' sl' M pc ls st := by
  subst e1
  subst e2
  exact h
/-- j slots of the history are made -/
def hi0 (M N : Mm) (g j : Nat) : Prop := mT N = some (g + (2 + 18 * j)) ∧ ((∀ x, x < g → mS N x = mS M x) ∧ (∀ x, x < g → ∀ k, mR N x k = mR M x k) ∧ (∀ x, x < g → ∀ k, mI N x k = mI M x k) ∧ ∀ x, x < g → ∀ k, mL N x k = mL M x k) ∧ mS N g = some (0, 0) ∧ mR N g 2 = some (g + 1) ∧ mS N (g + 1) = some (15, 8) ∧ mI N g 0 = 0 ∧ mI N g 1 = 0 ∧ ∀ i, i < j → mR N (g + 1) i = some (g + (2 + 18 * i)) ∧ LX8 N.1 N.2.1 (g + (2 + 18 * i))
set_option maxHeartbeats 2000000 in
set_option maxRecDepth 20000 in
theorem t_X0_init {M : Mm} {a : Nat} (hs : mS M a = some (0, 0)) (hz : ∀ j, mI M a j = 0) (ht : mT M = some (a + 1)) (hb : base ≤ a) : Ct2 G base YX0_init 4 145 5528 [.ref a] M (pNw M a 146 (fun N => LX0 N.1 N.2.1 a ∧ mI N a 0 = 0 ∧ mI N a 1 = 0)) := by
  refine Ct2.of IX0_init.1 (by simp [Value.category]) (Nat.le_of_ble_eq_true rfl) (fun X hX hN hao => ?_)
  show J G base X 0 0 M 0 [some (.ref a), none] []
  refine r_aload_n hX dX0_init_0 rfl ?_
  refine r_oinit hX dX0_init_1 oi_0 (by decide) rfl (by decide) ?_
  refine r_aload_n hX dX0_init_4 rfl ?_
  refine r_iconst (v := nI 0) hX dX0_init_5 (by decide) ?_
  refine r_puti (n := 0) hX dX0_init_6 fl_X0_9 rfl rfl (by simp [mS_uN, mS_uR, mS_uI, hs]) ?_
  refine r_aload_n hX dX0_init_9 rfl ?_
  refine r_iconst (v := nI 0) hX dX0_init_10 (by decide) ?_
  refine r_puti (n := 0) hX dX0_init_11 fl_X0_15 rfl rfl (by simp [mS_uN, mS_uR, mS_uI, hs]) ?_
  refine r_aload_n hX dX0_init_14 rfl ?_
  refine r_bipush (v := nI 8) hX dX0_init_15 (by decide) ?_
  refine r_newQ (q := a + 1) (N := 8) hX hao dX0_init_17 cl_X0_18 ht (Nat.le_trans hb (Nat.le_add_right _ _)) (by decide) (Nat.le_of_ble_eq_true rfl) (Nat.le_of_ble_eq_true rfl) ?_
  refine r_putF (n := 0) hX dX0_init_20 fl_X0_20 rfl rfl hN (fun C T N h => by cases h; rfl) (by simp [mS_uN, mS_uR, mS_uI, hs]) ?_
  refine r_iconst (v := nI 0) hX dX0_init_23 (by decide) ?_
  refine r_istore1 hX dX0_init_24 rfl ?_
  show J G base X (1 + 18 * 0) (8 + 690 * 0) (uR (uN (uI (uI M a 0 (nI 0)) a 1 (nI 0)) (a + 1) (15, 8)) a 2 (some (a + 1))) 25 [some (.ref a), some (.int (nI 0))] []
  refine loop_us (σ := Mm) (P := fun j N => hi0 M N a j → J G base X (1 + 18 * j) (8 + 690 * j) N 25 [some (.ref a), some (.int (nI j))] []) 8 (fun j N hj ih hi => ?_) 0 _ (Nat.zero_le _) ?_
  rotate_left
  · refine ⟨rfl, ⟨fun x hx => ?_, fun x hx k => ?_, fun x hx k => ?_, fun x hx k => ?_⟩, by simp [mS_uN, mS_uR, mS_uI, hs], by simp [mR_uR], by simp [mS_uN, mS_uR], by simp [mI_uN, mI_uR, mI_uI]; rfl, by simp [mI_uN, mI_uR, mI_uI]; rfl, fun i hi => absurd hi (Nat.not_lt_zero _)⟩
    · simp only [mS_uN, mS_uR, mS_uI]
      repeat rw [if_neg (by omega)]
    · simp only [mR_uN, mR_uR, mR_uI]
      repeat rw [if_neg (by omega)]
    · simp only [mI_uN, mI_uR, mI_uI]
      repeat rw [if_neg (by omega)]
    · simp only [mL_uN, mL_uR, mL_uI]
      repeat rw [if_neg (by omega)]
  obtain ⟨i1, ⟨f1, f2, f3, f4⟩, i2, i3, i4, i5, i6, i7⟩ := hi
  refine r_iload_n hX dX0_init_25 rfl ?_
  refine r_bipush (v := nI 8) hX dX0_init_26 (by decide) ?_
  refine rn_icmp_ge (tgt := 50) hX dX0_init_28 (by decide) rfl rfl (by omega) (by omega) (fun c28 => ?_) (fun c28 => ?_)
  · obtain rfl : j = 8 := by omega
    refine r_return hX rfl dX0_init_50 (Nat.le_of_ble_eq_true rfl) (Nat.le_of_ble_eq_true rfl) ?_
    exact ⟨rfl, ⟨i1, f1, f2, f3, f4⟩, ⟨i2, i3, i4, i7⟩, i5, i6⟩
  · refine r_aload_n hX dX0_init_31 rfl ?_
    refine r_getr hX dX0_init_32 fl_X0_20 rfl i2 i3 ?_
    refine r_iload_n hX dX0_init_35 rfl ?_
    refine r_new (q := a + (2 + 18 * j)) (ci := 8) hX rfl dX0_init_36 cl_X0_18 nw_X8 i1 (Nat.le_trans hb (Nat.le_add_right _ _)) (by omega) (by omega) ?_
    refine r_dup hX dX0_init_39 rfl ?_
    refine r_gI0 hX dX0_init_40 IX8_init ml_X0_24 rfl (t_X8_init (M := uN N (a + (2 + 18 * j)) (8, 0)) (a := a + (2 + 18 * j)) (by simp [mS_uN]) (by simp [mI_uN]) rfl (Nat.le_trans hb (Nat.le_add_right _ _))) (by decide) (by omega) (by omega) (by decide) rfl (Nat.le_of_ble_eq_true rfl) (fun E N9 h9 => by obtain ⟨h9, -⟩ := h9; cases h9) (fun v N2 hB => ?_)
    obtain ⟨hv, ⟨h1, h2, h3, h4, h5⟩, h6, -⟩ := hB
    cases hv
    have g2 : ∀ x, x < a + (2 + 18 * j) → mS N2 x = mS N x := fun x hx => (h2 x hx).trans (by rw [mS_uN, if_neg (by omega)])
    have g3 : ∀ x, x < a + (2 + 18 * j) → ∀ k, mR N2 x k = mR N x k := fun x hx k => (h3 x hx k).trans (by rw [mR_uN, if_neg (by omega)])
    have g4 : ∀ x, x < a + (2 + 18 * j) → ∀ k, mI N2 x k = mI N x k := fun x hx k => (h4 x hx k).trans (by rw [mI_uN, if_neg (by omega)])
    have g5 : ∀ x, x < a + (2 + 18 * j) → ∀ k, mL N2 x k = mL N x k := fun x hx k => (h5 x hx k).trans (by rw [mL_uN, if_neg (by omega)])
    show J G base X _ _ N2 43 _ [.ref (a + (2 + 18 * j)), .int (nI j), .ref (a + 1)]
    refine r_aast hX dX0_init_43 ((g2 (a + 1) (by omega)).trans i4) (LX8_s h6) (vp_in_nI (by omega) (by omega)) ?_
    rw [nI_clamp (by omega)]
    refine rn_iinc1 hX dX0_init_44 rfl rfl ?_
    refine r_goto (tgt := 25) hX dX0_init_47 (by decide) ?_
    have eS : ∀ x, mS (uR N2 (a + 1) j (some (a + (2 + 18 * j)))) x = mS N2 x := fun x => rfl
    have eR : ∀ x, x ≠ a + 1 → ∀ k, mR (uR N2 (a + 1) j (some (a + (2 + 18 * j)))) x k = mR N2 x k := fun x hx k => by rw [mR_uR, if_neg hx]
    refine (ih (by omega) (uR N2 (a + 1) j (some (a + (2 + 18 * j)))) ⟨?_, ⟨fun x hx => (g2 x (by omega)).trans (f1 x hx), fun x hx k => (eR x (by omega) k).trans ((g3 x (by omega) k).trans (f2 x hx k)), fun x hx k => (g4 x (by omega) k).trans (f3 x hx k), fun x hx k => (g5 x (by omega) k).trans (f4 x hx k)⟩, (g2 a (by omega)).trans i2, (eR a (by omega) 2).trans ((g3 a (by omega) 2).trans i3), (g2 (a + 1) (by omega)).trans i4, (g4 a (by omega) 0).trans i5, (g4 a (by omega) 1).trans i6, fun i hi => ?_⟩).cast (by omega) (by omega)
    · exact (show mT N2 = _ from h1).trans (congrArg some (by omega))
    · by_cases e : i = j
      · subst e
        refine ⟨by rw [mR_uR, if_pos rfl, if_pos rfl], LX8.cong (fun x _ _ => rfl) (fun x x1 x2 k => eR x (by omega) k) h6⟩
      · obtain ⟨k1, k2⟩ := i7 i (by omega)
        exact ⟨by rw [mR_uR, if_pos rfl, if_neg e]; exact (g3 (a + 1) (by omega) i).trans k1, LX8.cong (fun x x1 x2 => (eS x).trans (g2 x (by omega))) (fun x x1 x2 k => (eR x (by omega) k).trans (g3 x (by omega) k)) k2⟩

section CR3
variable {X : Cx} {cc : ByteArray} {own : String} {nL : Nat} {ret : Option FieldType} {d mc ms : Nat} {post : Ot → Mm → Prop} {cs sl : Nat} {M : Mm} {pc : Nat} {ls : List (Option Value)} {st : List Value}
theorem r_gI02 (hX : okX G base X cc own nL ret d mc ms post) (hao : aoX X) {Y : MD} {idx d2 mc2 ms2 : Nat} {rest : List Value} {b : Nat} {post2 : Ot → Mm → Prop} (hd : decode cc pc = .ok (.invokespecial idx, 3)) (hI : MIi Y) (hl9 : Cond.methodLink own idx Y.1 ∈ WT) (hn9 : 0 = Y.2.2.2.2) (hct : Ct2 G base Y d2 mc2 ms2 (.ref b :: []) M post2) (hd2 : d2 < d) (hcs : cs + mc2 ≤ mc) (hsl : sl + ms2 ≤ ms) (hml2 : Y.2.2.1 ≤ 45) (hlen : ls.length = nL) (hW : (rest.map fun v => v.category).sum ≤ 8) (hnx : ∀ (E : String) (N : Mm), ¬ post2 (.inr E) N) (k : ∀ (v : Option Value) (N : Mm), post2 (.inl v) N → J G base X (cs + mc2) (sl + ms2) N (pc + 3) ls (v.toList ++ rest)) : J G base X cs sl M pc ls (.ref b :: rest) :=
  r_callI2 hX hao (As := []) hd hI hl9 hn9 hct hd2 hcs hsl hml2 hlen hW k (fun E N hp => absurd hp (hnx E N))
end CR3
/-- the state that both begin with -/
def iniS (n ps : Nat → Int32) (u : Nat → Nat) (rd : Nat → Int32) (tx : Nat → Nat) : Sg := (n, ps, 0, u, 0, rd, -1, 0, tx, 0)
set_option maxHeartbeats 2000000 in
set_option maxRecDepth 20000 in
theorem t_X10_init {M : Mm} {a : Nat} (hs : mS M a = some (10, 0)) (hz : ∀ j, mI M a j = 0) (ht : mT M = some (a + 1)) (hb : base ≤ a) : Ct2 G base YX10_init 5 207 11859 [.ref a] M (pNw M a 208 (fun N => LX10 N.1 N.2.1 a ∧ ∀ n ps u rd tx, (∀ q, q < 1158 → n q = row0 q) → CI (mI N) a (iniS n ps u rd tx))) := by
  refine Ct2.of IX10_init.1 (by simp [Value.category]) (Nat.le_of_ble_eq_true rfl) (fun X hX hN hao => ?_)
  show J G base X 0 0 M 0 [some (.ref a)] []
  refine r_aload_n hX dX10_init_0 rfl ?_
  refine r_oinit hX dX10_init_1 oi_10 (by decide) rfl (by decide) ?_
  refine r_aload_n hX dX10_init_4 rfl ?_
  refine r_sipush (v := nI 900) hX dX10_init_5 (by decide) ?_
  refine r_newI (q := (a + 1)) (N := 900) hX dX10_init_8 ht (Nat.le_trans hb (Nat.le_add_right _ _)) (Nat.le_of_ble_eq_true rfl) (Nat.le_of_ble_eq_true rfl) (Nat.le_of_ble_eq_true rfl) ?_
  refine r_putF (n := 0) hX dX10_init_10 fl_X10_9 rfl rfl hN (fun C T N h => by cases h; rfl) (by simp [mS_uN, mR_uN, mI_uN, mS_uR, mR_uR, mI_uR, mS_uI, mR_uI, mI_uI, hs]) ?_
  refine r_aload_n hX dX10_init_13 rfl ?_
  refine r_iconst (v := nI 0) hX dX10_init_14 (by decide) ?_
  refine r_puti (n := 0) hX dX10_init_15 fl_X10_13 rfl rfl (by simp [mS_uN, mR_uN, mI_uN, mS_uR, mR_uR, mI_uR, mS_uI, mR_uI, mI_uI, hs]) ?_
  refine r_aload_n hX dX10_init_18 rfl ?_
  refine r_iconst (v := (-1)) hX dX10_init_19 (by decide) ?_
  refine r_puti (n := 0) hX dX10_init_20 fl_X10_17 rfl rfl (by simp [mS_uN, mR_uN, mI_uN, mS_uR, mR_uR, mI_uR, mS_uI, mR_uI, mI_uI, hs]) ?_
  refine r_aload_n hX dX10_init_23 rfl ?_
  refine r_iconst (v := nI 0) hX dX10_init_24 (by decide) ?_
  refine r_puti (n := 0) hX dX10_init_25 fl_X10_20 rfl rfl (by simp [mS_uN, mR_uN, mI_uN, mS_uR, mR_uR, mI_uR, mS_uI, mR_uI, mI_uI, hs]) ?_
  refine r_aload_n hX dX10_init_28 rfl ?_
  refine r_new (q := (a + 2)) (ci := 5) hX rfl dX10_init_29 cl_X10_23 nw_X5 rfl (Nat.le_trans hb (Nat.le_add_right _ _)) (Nat.le_of_ble_eq_true rfl) (Nat.le_of_ble_eq_true rfl) ?_
  refine r_dup hX dX10_init_32 rfl ?_
  refine r_gI0 hX dX10_init_33 IX5_init ml_X10_25 rfl (t_X5_init (M := (uN (uI (uI (uI (uR (uN M (a + 1) (12, 900)) a 0 (some (a + 1))) a 1 (nI 0)) a 2 (-1)) a 3 (nI 0)) (a + 2) (5, 0))) (a := (a + 2)) (by simp [mS_uN]) (by simp [mI_uN]) rfl (Nat.le_trans hb (Nat.le_add_right _ _))) (by decide) (Nat.le_of_ble_eq_true rfl) (Nat.le_of_ble_eq_true rfl) (by decide) rfl (Nat.le_of_ble_eq_true rfl) (fun E N9 h9 => by obtain ⟨h9, -⟩ := h9; cases h9) (fun v N1 hB => ?_)
  obtain ⟨hv, ⟨ht_N1, hS_N1, hR_N1, hI_N1, hL_N1⟩, hP_N1⟩ := hB
  cases hv
  show J G base X _ _ N1 _ _ [.ref (a + 2), .ref a]
  have hs_N1 : mS N1 a = some (10, 0) := (hS_N1 a (by omega)).trans (by simp [mS_uN, mR_uN, mI_uN, mS_uR, mR_uR, mI_uR, mS_uI, mR_uI, mI_uI, hs])
  refine r_putF (n := 0) hX dX10_init_36 fl_X10_26 rfl rfl hN (fun C T N h => by cases h; rfl) (by simp [mS_uN, mR_uN, mI_uN, mS_uR, mR_uR, mI_uR, mS_uI, mR_uI, mI_uI, hs_N1]) ?_
  refine r_aload_n hX dX10_init_39 rfl ?_
  refine r_new (q := (a + 28)) (ci := 9) hX rfl dX10_init_40 cl_X10_30 nw_X9 ht_N1 (Nat.le_trans hb (Nat.le_add_right _ _)) (Nat.le_of_ble_eq_true rfl) (Nat.le_of_ble_eq_true rfl) ?_
  refine r_dup hX dX10_init_43 rfl ?_
  refine r_gI0 hX dX10_init_44 IX9_init ml_X10_32 rfl (t_X9_init (M := (uN (uR N1 a 4 (some (a + 2))) (a + 28) (9, 0))) (a := (a + 28)) (by simp [mS_uN]) (by simp [mI_uN]) rfl (Nat.le_trans hb (Nat.le_add_right _ _))) (by decide) (Nat.le_of_ble_eq_true rfl) (Nat.le_of_ble_eq_true rfl) (by decide) rfl (Nat.le_of_ble_eq_true rfl) (fun E N9 h9 => by obtain ⟨h9, -⟩ := h9; cases h9) (fun v N2 hB => ?_)
  obtain ⟨hv, ⟨ht_N2, hS_N2, hR_N2, hI_N2, hL_N2⟩, hP_N2⟩ := hB
  cases hv
  show J G base X _ _ N2 _ _ [.ref (a + 28), .ref a]
  have hs_N2 : mS N2 a = some (10, 0) := (hS_N2 a (by omega)).trans (by simp [mS_uN, mR_uN, mI_uN, mS_uR, mR_uR, mI_uR, mS_uI, mR_uI, mI_uI, hs_N1])
  refine r_putF (n := 0) hX dX10_init_47 fl_X10_33 rfl rfl hN (fun C T N h => by cases h; rfl) (by simp [mS_uN, mR_uN, mI_uN, mS_uR, mR_uR, mI_uR, mS_uI, mR_uI, mI_uI, hs_N2]) ?_
  refine r_aload_n hX dX10_init_50 rfl ?_
  refine r_new (q := (a + 34)) (ci := 8) hX rfl dX10_init_51 cl_X10_37 nw_X8 ht_N2 (Nat.le_trans hb (Nat.le_add_right _ _)) (Nat.le_of_ble_eq_true rfl) (Nat.le_of_ble_eq_true rfl) ?_
  refine r_dup hX dX10_init_54 rfl ?_
  refine r_gI0 hX dX10_init_55 IX8_init ml_X10_39 rfl (t_X8_init (M := (uN (uR N2 a 5 (some (a + 28))) (a + 34) (8, 0))) (a := (a + 34)) (by simp [mS_uN]) (by simp [mI_uN]) rfl (Nat.le_trans hb (Nat.le_add_right _ _))) (by decide) (Nat.le_of_ble_eq_true rfl) (Nat.le_of_ble_eq_true rfl) (by decide) rfl (Nat.le_of_ble_eq_true rfl) (fun E N9 h9 => by obtain ⟨h9, -⟩ := h9; cases h9) (fun v N3 hB => ?_)
  obtain ⟨hv, ⟨ht_N3, hS_N3, hR_N3, hI_N3, hL_N3⟩, hP_N3⟩ := hB
  cases hv
  show J G base X _ _ N3 _ _ [.ref (a + 34), .ref a]
  have hs_N3 : mS N3 a = some (10, 0) := (hS_N3 a (by omega)).trans (by simp [mS_uN, mR_uN, mI_uN, mS_uR, mR_uR, mI_uR, mS_uI, mR_uI, mI_uI, hs_N2])
  refine r_putF (n := 0) hX dX10_init_58 fl_X10_40 rfl rfl hN (fun C T N h => by cases h; rfl) (by simp [mS_uN, mR_uN, mI_uN, mS_uR, mR_uR, mI_uR, mS_uI, mR_uI, mI_uI, hs_N3]) ?_
  refine r_aload_n hX dX10_init_61 rfl ?_
  refine r_new (q := (a + 52)) (ci := 0) hX rfl dX10_init_62 cl_X10_44 nw_X0 ht_N3 (Nat.le_trans hb (Nat.le_add_right _ _)) (Nat.le_of_ble_eq_true rfl) (Nat.le_of_ble_eq_true rfl) ?_
  refine r_dup hX dX10_init_65 rfl ?_
  refine r_gI02 hX hao dX10_init_66 IX0_init ml_X10_46 rfl (t_X0_init (M := (uN (uR N3 a 6 (some (a + 34))) (a + 52) (0, 0))) (a := (a + 52)) (by simp [mS_uN]) (by simp [mI_uN]) rfl (Nat.le_trans hb (Nat.le_add_right _ _))) (by decide) (Nat.le_of_ble_eq_true rfl) (Nat.le_of_ble_eq_true rfl) (by decide) rfl (Nat.le_of_ble_eq_true rfl) (fun E N9 h9 => by obtain ⟨h9, -⟩ := h9; cases h9) (fun v N4 hB => ?_)
  obtain ⟨hv, ⟨ht_N4, hS_N4, hR_N4, hI_N4, hL_N4⟩, hP_N4⟩ := hB
  cases hv
  show J G base X _ _ N4 _ _ [.ref (a + 52), .ref a]
  have hs_N4 : mS N4 a = some (10, 0) := (hS_N4 a (by omega)).trans (by simp [mS_uN, mR_uN, mI_uN, mS_uR, mR_uR, mI_uR, mS_uI, mR_uI, mI_uI, hs_N3])
  refine r_putF (n := 0) hX dX10_init_69 fl_X10_47 rfl rfl hN (fun C T N h => by cases h; rfl) (by simp [mS_uN, mR_uN, mI_uN, mS_uR, mR_uR, mI_uR, mS_uI, mR_uI, mI_uI, hs_N4]) ?_
  refine r_aload_n hX dX10_init_72 rfl ?_
  refine r_new (q := (a + 198)) (ci := 7) hX rfl dX10_init_73 cl_X10_51 nw_X7 ht_N4 (Nat.le_trans hb (Nat.le_add_right _ _)) (Nat.le_of_ble_eq_true rfl) (Nat.le_of_ble_eq_true rfl) ?_
  refine r_dup hX dX10_init_76 rfl ?_
  refine r_gI0 hX dX10_init_77 IX7_init ml_X10_53 rfl (t_X7_init (M := (uN (uR N4 a 7 (some (a + 52))) (a + 198) (7, 0))) (a := (a + 198)) (by simp [mS_uN]) (by simp [mI_uN]) rfl (Nat.le_trans hb (Nat.le_add_right _ _))) (by decide) (Nat.le_of_ble_eq_true rfl) (Nat.le_of_ble_eq_true rfl) (by decide) rfl (Nat.le_of_ble_eq_true rfl) (fun E N9 h9 => by obtain ⟨h9, -⟩ := h9; cases h9) (fun v N5 hB => ?_)
  obtain ⟨hv, ⟨ht_N5, hS_N5, hR_N5, hI_N5, hL_N5⟩, hP_N5⟩ := hB
  cases hv
  show J G base X _ _ N5 _ _ [.ref (a + 198), .ref a]
  have hs_N5 : mS N5 a = some (10, 0) := (hS_N5 a (by omega)).trans (by simp [mS_uN, mR_uN, mI_uN, mS_uR, mR_uR, mI_uR, mS_uI, mR_uI, mI_uI, hs_N4])
  refine r_putF (n := 0) hX dX10_init_80 fl_X10_54 rfl rfl hN (fun C T N h => by cases h; rfl) (by simp [mS_uN, mR_uN, mI_uN, mS_uR, mR_uR, mI_uR, mS_uI, mR_uI, mI_uI, hs_N5]) ?_
  refine r_aload_n hX dX10_init_83 rfl ?_
  refine r_new (q := (a + 200)) (ci := 1) hX rfl dX10_init_84 cl_X10_58 nw_X1 ht_N5 (Nat.le_trans hb (Nat.le_add_right _ _)) (Nat.le_of_ble_eq_true rfl) (Nat.le_of_ble_eq_true rfl) ?_
  refine r_dup hX dX10_init_87 rfl ?_
  refine r_gI0 hX dX10_init_88 IX1_init ml_X10_60 rfl (t_X1_init (M := (uN (uR N5 a 8 (some (a + 198))) (a + 200) (1, 0))) (a := (a + 200)) (by simp [mS_uN]) (by simp [mI_uN]) rfl (Nat.le_trans hb (Nat.le_add_right _ _))) (by decide) (Nat.le_of_ble_eq_true rfl) (Nat.le_of_ble_eq_true rfl) (by decide) rfl (Nat.le_of_ble_eq_true rfl) (fun E N9 h9 => by obtain ⟨h9, -⟩ := h9; cases h9) (fun v N6 hB => ?_)
  obtain ⟨hv, ⟨ht_N6, hS_N6, hR_N6, hI_N6, hL_N6⟩, hP_N6⟩ := hB
  cases hv
  show J G base X _ _ N6 _ _ [.ref (a + 200), .ref a]
  have hs_N6 : mS N6 a = some (10, 0) := (hS_N6 a (by omega)).trans (by simp [mS_uN, mR_uN, mI_uN, mS_uR, mR_uR, mI_uR, mS_uI, mR_uI, mI_uI, hs_N5])
  refine r_putF (n := 0) hX dX10_init_91 fl_X10_61 rfl rfl hN (fun C T N h => by cases h; rfl) (by simp [mS_uN, mR_uN, mI_uN, mS_uR, mR_uR, mI_uR, mS_uI, mR_uI, mI_uI, hs_N6]) ?_
  refine r_aload_n hX dX10_init_94 rfl ?_
  refine r_new (q := (a + 206)) (ci := 3) hX rfl dX10_init_95 cl_X10_65 nw_X3 ht_N6 (Nat.le_trans hb (Nat.le_add_right _ _)) (Nat.le_of_ble_eq_true rfl) (Nat.le_of_ble_eq_true rfl) ?_
  refine r_dup hX dX10_init_98 rfl ?_
  refine r_gI0 hX dX10_init_99 IX3_init ml_X10_67 rfl (t_X3_init (M := (uN (uR N6 a 9 (some (a + 200))) (a + 206) (3, 0))) (a := (a + 206)) (by simp [mS_uN]) (by simp [mI_uN]) rfl (Nat.le_trans hb (Nat.le_add_right _ _))) (by decide) (Nat.le_of_ble_eq_true rfl) (Nat.le_of_ble_eq_true rfl) (by decide) rfl (Nat.le_of_ble_eq_true rfl) (fun E N9 h9 => by obtain ⟨h9, -⟩ := h9; cases h9) (fun v N7 hB => ?_)
  obtain ⟨hv, ⟨ht_N7, hS_N7, hR_N7, hI_N7, hL_N7⟩, hP_N7⟩ := hB
  cases hv
  show J G base X _ _ N7 _ _ [.ref (a + 206), .ref a]
  have hs_N7 : mS N7 a = some (10, 0) := (hS_N7 a (by omega)).trans (by simp [mS_uN, mR_uN, mI_uN, mS_uR, mR_uR, mI_uR, mS_uI, mR_uI, mI_uI, hs_N6])
  refine r_putF (n := 0) hX dX10_init_102 fl_X10_68 rfl rfl hN (fun C T N h => by cases h; rfl) (by simp [mS_uN, mR_uN, mI_uN, mS_uR, mR_uR, mI_uR, mS_uI, mR_uI, mI_uI, hs_N7]) ?_
  refine r_return hX rfl dX10_init_105 (Nat.le_of_ble_eq_true rfl) (Nat.le_of_ble_eq_true rfl) ?_
  refine ⟨rfl, ⟨ht_N7, fun x hx => ?_, fun x hx k => ?_, fun x hx k => ?_, fun x hx k => ?_⟩, ?_⟩
  · simp only [mS_uN, mS_uR, mS_uI]
    repeat rw [if_neg (by omega)]
    rw [hS_N7 x (by omega)]
    simp only [mS_uN, mS_uR, mS_uI]
    repeat rw [if_neg (by omega)]
    rw [hS_N6 x (by omega)]
    simp only [mS_uN, mS_uR, mS_uI]
    repeat rw [if_neg (by omega)]
    rw [hS_N5 x (by omega)]
    simp only [mS_uN, mS_uR, mS_uI]
    repeat rw [if_neg (by omega)]
    rw [hS_N4 x (by omega)]
    simp only [mS_uN, mS_uR, mS_uI]
    repeat rw [if_neg (by omega)]
    rw [hS_N3 x (by omega)]
    simp only [mS_uN, mS_uR, mS_uI]
    repeat rw [if_neg (by omega)]
    rw [hS_N2 x (by omega)]
    simp only [mS_uN, mS_uR, mS_uI]
    repeat rw [if_neg (by omega)]
    rw [hS_N1 x (by omega)]
    simp only [mS_uN, mS_uR, mS_uI]
    repeat rw [if_neg (by omega)]
  · simp only [mR_uN, mR_uR, mR_uI]
    repeat rw [if_neg (by omega)]
    rw [hR_N7 x (by omega) k]
    simp only [mR_uN, mR_uR, mR_uI]
    repeat rw [if_neg (by omega)]
    rw [hR_N6 x (by omega) k]
    simp only [mR_uN, mR_uR, mR_uI]
    repeat rw [if_neg (by omega)]
    rw [hR_N5 x (by omega) k]
    simp only [mR_uN, mR_uR, mR_uI]
    repeat rw [if_neg (by omega)]
    rw [hR_N4 x (by omega) k]
    simp only [mR_uN, mR_uR, mR_uI]
    repeat rw [if_neg (by omega)]
    rw [hR_N3 x (by omega) k]
    simp only [mR_uN, mR_uR, mR_uI]
    repeat rw [if_neg (by omega)]
    rw [hR_N2 x (by omega) k]
    simp only [mR_uN, mR_uR, mR_uI]
    repeat rw [if_neg (by omega)]
    rw [hR_N1 x (by omega) k]
    simp only [mR_uN, mR_uR, mR_uI]
    repeat rw [if_neg (by omega)]
  · simp only [mI_uN, mI_uR, mI_uI]
    repeat rw [if_neg (by omega)]
    rw [hI_N7 x (by omega) k]
    simp only [mI_uN, mI_uR, mI_uI]
    repeat rw [if_neg (by omega)]
    rw [hI_N6 x (by omega) k]
    simp only [mI_uN, mI_uR, mI_uI]
    repeat rw [if_neg (by omega)]
    rw [hI_N5 x (by omega) k]
    simp only [mI_uN, mI_uR, mI_uI]
    repeat rw [if_neg (by omega)]
    rw [hI_N4 x (by omega) k]
    simp only [mI_uN, mI_uR, mI_uI]
    repeat rw [if_neg (by omega)]
    rw [hI_N3 x (by omega) k]
    simp only [mI_uN, mI_uR, mI_uI]
    repeat rw [if_neg (by omega)]
    rw [hI_N2 x (by omega) k]
    simp only [mI_uN, mI_uR, mI_uI]
    repeat rw [if_neg (by omega)]
    rw [hI_N1 x (by omega) k]
    simp only [mI_uN, mI_uR, mI_uI]
    repeat rw [if_neg (by omega)]
  · simp only [mL_uN, mL_uR, mL_uI]
    repeat rw [if_neg (by omega)]
    rw [hL_N7 x (by omega) k]
    simp only [mL_uN, mL_uR, mL_uI]
    repeat rw [if_neg (by omega)]
    rw [hL_N6 x (by omega) k]
    simp only [mL_uN, mL_uR, mL_uI]
    repeat rw [if_neg (by omega)]
    rw [hL_N5 x (by omega) k]
    simp only [mL_uN, mL_uR, mL_uI]
    repeat rw [if_neg (by omega)]
    rw [hL_N4 x (by omega) k]
    simp only [mL_uN, mL_uR, mL_uI]
    repeat rw [if_neg (by omega)]
    rw [hL_N3 x (by omega) k]
    simp only [mL_uN, mL_uR, mL_uI]
    repeat rw [if_neg (by omega)]
    rw [hL_N2 x (by omega) k]
    simp only [mL_uN, mL_uR, mL_uI]
    repeat rw [if_neg (by omega)]
    rw [hL_N1 x (by omega) k]
    simp only [mL_uN, mL_uR, mL_uI]
    repeat rw [if_neg (by omega)]
  have eS_N1 : ∀ x, a + 2 ≤ x → x < a + 28 → mS (uR N7 a 10 (some (a + 206))) x = mS N1 x := fun x h1 h2 => by
    simp only [mS_uN, mS_uR, mS_uI]
    repeat rw [if_neg (by omega)]
    rw [hS_N7 x (by omega)]
    simp only [mS_uN, mS_uR, mS_uI]
    repeat rw [if_neg (by omega)]
    rw [hS_N6 x (by omega)]
    simp only [mS_uN, mS_uR, mS_uI]
    repeat rw [if_neg (by omega)]
    rw [hS_N5 x (by omega)]
    simp only [mS_uN, mS_uR, mS_uI]
    repeat rw [if_neg (by omega)]
    rw [hS_N4 x (by omega)]
    simp only [mS_uN, mS_uR, mS_uI]
    repeat rw [if_neg (by omega)]
    rw [hS_N3 x (by omega)]
    simp only [mS_uN, mS_uR, mS_uI]
    repeat rw [if_neg (by omega)]
    rw [hS_N2 x (by omega)]
    simp only [mS_uN, mS_uR, mS_uI]
    repeat rw [if_neg (by omega)]
  have eR_N1 : ∀ x, a + 2 ≤ x → x < a + 28 → ∀ k, mR (uR N7 a 10 (some (a + 206))) x k = mR N1 x k := fun x h1 h2 k => by
    simp only [mR_uN, mR_uR, mR_uI]
    repeat rw [if_neg (by omega)]
    rw [hR_N7 x (by omega) k]
    simp only [mR_uN, mR_uR, mR_uI]
    repeat rw [if_neg (by omega)]
    rw [hR_N6 x (by omega) k]
    simp only [mR_uN, mR_uR, mR_uI]
    repeat rw [if_neg (by omega)]
    rw [hR_N5 x (by omega) k]
    simp only [mR_uN, mR_uR, mR_uI]
    repeat rw [if_neg (by omega)]
    rw [hR_N4 x (by omega) k]
    simp only [mR_uN, mR_uR, mR_uI]
    repeat rw [if_neg (by omega)]
    rw [hR_N3 x (by omega) k]
    simp only [mR_uN, mR_uR, mR_uI]
    repeat rw [if_neg (by omega)]
    rw [hR_N2 x (by omega) k]
    simp only [mR_uN, mR_uR, mR_uI]
    repeat rw [if_neg (by omega)]
  have eI_N1 : ∀ x, a + 2 ≤ x → x < a + 28 → ∀ k, mI (uR N7 a 10 (some (a + 206))) x k = mI N1 x k := fun x h1 h2 k => by
    simp only [mI_uN, mI_uR, mI_uI]
    repeat rw [if_neg (by omega)]
    rw [hI_N7 x (by omega) k]
    simp only [mI_uN, mI_uR, mI_uI]
    repeat rw [if_neg (by omega)]
    rw [hI_N6 x (by omega) k]
    simp only [mI_uN, mI_uR, mI_uI]
    repeat rw [if_neg (by omega)]
    rw [hI_N5 x (by omega) k]
    simp only [mI_uN, mI_uR, mI_uI]
    repeat rw [if_neg (by omega)]
    rw [hI_N4 x (by omega) k]
    simp only [mI_uN, mI_uR, mI_uI]
    repeat rw [if_neg (by omega)]
    rw [hI_N3 x (by omega) k]
    simp only [mI_uN, mI_uR, mI_uI]
    repeat rw [if_neg (by omega)]
    rw [hI_N2 x (by omega) k]
    simp only [mI_uN, mI_uR, mI_uI]
    repeat rw [if_neg (by omega)]
  have eS_N2 : ∀ x, a + 28 ≤ x → x < a + 34 → mS (uR N7 a 10 (some (a + 206))) x = mS N2 x := fun x h1 h2 => by
    simp only [mS_uN, mS_uR, mS_uI]
    repeat rw [if_neg (by omega)]
    rw [hS_N7 x (by omega)]
    simp only [mS_uN, mS_uR, mS_uI]
    repeat rw [if_neg (by omega)]
    rw [hS_N6 x (by omega)]
    simp only [mS_uN, mS_uR, mS_uI]
    repeat rw [if_neg (by omega)]
    rw [hS_N5 x (by omega)]
    simp only [mS_uN, mS_uR, mS_uI]
    repeat rw [if_neg (by omega)]
    rw [hS_N4 x (by omega)]
    simp only [mS_uN, mS_uR, mS_uI]
    repeat rw [if_neg (by omega)]
    rw [hS_N3 x (by omega)]
    simp only [mS_uN, mS_uR, mS_uI]
    repeat rw [if_neg (by omega)]
  have eR_N2 : ∀ x, a + 28 ≤ x → x < a + 34 → ∀ k, mR (uR N7 a 10 (some (a + 206))) x k = mR N2 x k := fun x h1 h2 k => by
    simp only [mR_uN, mR_uR, mR_uI]
    repeat rw [if_neg (by omega)]
    rw [hR_N7 x (by omega) k]
    simp only [mR_uN, mR_uR, mR_uI]
    repeat rw [if_neg (by omega)]
    rw [hR_N6 x (by omega) k]
    simp only [mR_uN, mR_uR, mR_uI]
    repeat rw [if_neg (by omega)]
    rw [hR_N5 x (by omega) k]
    simp only [mR_uN, mR_uR, mR_uI]
    repeat rw [if_neg (by omega)]
    rw [hR_N4 x (by omega) k]
    simp only [mR_uN, mR_uR, mR_uI]
    repeat rw [if_neg (by omega)]
    rw [hR_N3 x (by omega) k]
    simp only [mR_uN, mR_uR, mR_uI]
    repeat rw [if_neg (by omega)]
  have eI_N2 : ∀ x, a + 28 ≤ x → x < a + 34 → ∀ k, mI (uR N7 a 10 (some (a + 206))) x k = mI N2 x k := fun x h1 h2 k => by
    simp only [mI_uN, mI_uR, mI_uI]
    repeat rw [if_neg (by omega)]
    rw [hI_N7 x (by omega) k]
    simp only [mI_uN, mI_uR, mI_uI]
    repeat rw [if_neg (by omega)]
    rw [hI_N6 x (by omega) k]
    simp only [mI_uN, mI_uR, mI_uI]
    repeat rw [if_neg (by omega)]
    rw [hI_N5 x (by omega) k]
    simp only [mI_uN, mI_uR, mI_uI]
    repeat rw [if_neg (by omega)]
    rw [hI_N4 x (by omega) k]
    simp only [mI_uN, mI_uR, mI_uI]
    repeat rw [if_neg (by omega)]
    rw [hI_N3 x (by omega) k]
    simp only [mI_uN, mI_uR, mI_uI]
    repeat rw [if_neg (by omega)]
  have eS_N3 : ∀ x, a + 34 ≤ x → x < a + 52 → mS (uR N7 a 10 (some (a + 206))) x = mS N3 x := fun x h1 h2 => by
    simp only [mS_uN, mS_uR, mS_uI]
    repeat rw [if_neg (by omega)]
    rw [hS_N7 x (by omega)]
    simp only [mS_uN, mS_uR, mS_uI]
    repeat rw [if_neg (by omega)]
    rw [hS_N6 x (by omega)]
    simp only [mS_uN, mS_uR, mS_uI]
    repeat rw [if_neg (by omega)]
    rw [hS_N5 x (by omega)]
    simp only [mS_uN, mS_uR, mS_uI]
    repeat rw [if_neg (by omega)]
    rw [hS_N4 x (by omega)]
    simp only [mS_uN, mS_uR, mS_uI]
    repeat rw [if_neg (by omega)]
  have eR_N3 : ∀ x, a + 34 ≤ x → x < a + 52 → ∀ k, mR (uR N7 a 10 (some (a + 206))) x k = mR N3 x k := fun x h1 h2 k => by
    simp only [mR_uN, mR_uR, mR_uI]
    repeat rw [if_neg (by omega)]
    rw [hR_N7 x (by omega) k]
    simp only [mR_uN, mR_uR, mR_uI]
    repeat rw [if_neg (by omega)]
    rw [hR_N6 x (by omega) k]
    simp only [mR_uN, mR_uR, mR_uI]
    repeat rw [if_neg (by omega)]
    rw [hR_N5 x (by omega) k]
    simp only [mR_uN, mR_uR, mR_uI]
    repeat rw [if_neg (by omega)]
    rw [hR_N4 x (by omega) k]
    simp only [mR_uN, mR_uR, mR_uI]
    repeat rw [if_neg (by omega)]
  have eI_N3 : ∀ x, a + 34 ≤ x → x < a + 52 → ∀ k, mI (uR N7 a 10 (some (a + 206))) x k = mI N3 x k := fun x h1 h2 k => by
    simp only [mI_uN, mI_uR, mI_uI]
    repeat rw [if_neg (by omega)]
    rw [hI_N7 x (by omega) k]
    simp only [mI_uN, mI_uR, mI_uI]
    repeat rw [if_neg (by omega)]
    rw [hI_N6 x (by omega) k]
    simp only [mI_uN, mI_uR, mI_uI]
    repeat rw [if_neg (by omega)]
    rw [hI_N5 x (by omega) k]
    simp only [mI_uN, mI_uR, mI_uI]
    repeat rw [if_neg (by omega)]
    rw [hI_N4 x (by omega) k]
    simp only [mI_uN, mI_uR, mI_uI]
    repeat rw [if_neg (by omega)]
  have eS_N4 : ∀ x, a + 52 ≤ x → x < a + 198 → mS (uR N7 a 10 (some (a + 206))) x = mS N4 x := fun x h1 h2 => by
    simp only [mS_uN, mS_uR, mS_uI]
    repeat rw [if_neg (by omega)]
    rw [hS_N7 x (by omega)]
    simp only [mS_uN, mS_uR, mS_uI]
    repeat rw [if_neg (by omega)]
    rw [hS_N6 x (by omega)]
    simp only [mS_uN, mS_uR, mS_uI]
    repeat rw [if_neg (by omega)]
    rw [hS_N5 x (by omega)]
    simp only [mS_uN, mS_uR, mS_uI]
    repeat rw [if_neg (by omega)]
  have eR_N4 : ∀ x, a + 52 ≤ x → x < a + 198 → ∀ k, mR (uR N7 a 10 (some (a + 206))) x k = mR N4 x k := fun x h1 h2 k => by
    simp only [mR_uN, mR_uR, mR_uI]
    repeat rw [if_neg (by omega)]
    rw [hR_N7 x (by omega) k]
    simp only [mR_uN, mR_uR, mR_uI]
    repeat rw [if_neg (by omega)]
    rw [hR_N6 x (by omega) k]
    simp only [mR_uN, mR_uR, mR_uI]
    repeat rw [if_neg (by omega)]
    rw [hR_N5 x (by omega) k]
    simp only [mR_uN, mR_uR, mR_uI]
    repeat rw [if_neg (by omega)]
  have eI_N4 : ∀ x, a + 52 ≤ x → x < a + 198 → ∀ k, mI (uR N7 a 10 (some (a + 206))) x k = mI N4 x k := fun x h1 h2 k => by
    simp only [mI_uN, mI_uR, mI_uI]
    repeat rw [if_neg (by omega)]
    rw [hI_N7 x (by omega) k]
    simp only [mI_uN, mI_uR, mI_uI]
    repeat rw [if_neg (by omega)]
    rw [hI_N6 x (by omega) k]
    simp only [mI_uN, mI_uR, mI_uI]
    repeat rw [if_neg (by omega)]
    rw [hI_N5 x (by omega) k]
    simp only [mI_uN, mI_uR, mI_uI]
    repeat rw [if_neg (by omega)]
  have eS_N5 : ∀ x, a + 198 ≤ x → x < a + 200 → mS (uR N7 a 10 (some (a + 206))) x = mS N5 x := fun x h1 h2 => by
    simp only [mS_uN, mS_uR, mS_uI]
    repeat rw [if_neg (by omega)]
    rw [hS_N7 x (by omega)]
    simp only [mS_uN, mS_uR, mS_uI]
    repeat rw [if_neg (by omega)]
    rw [hS_N6 x (by omega)]
    simp only [mS_uN, mS_uR, mS_uI]
    repeat rw [if_neg (by omega)]
  have eR_N5 : ∀ x, a + 198 ≤ x → x < a + 200 → ∀ k, mR (uR N7 a 10 (some (a + 206))) x k = mR N5 x k := fun x h1 h2 k => by
    simp only [mR_uN, mR_uR, mR_uI]
    repeat rw [if_neg (by omega)]
    rw [hR_N7 x (by omega) k]
    simp only [mR_uN, mR_uR, mR_uI]
    repeat rw [if_neg (by omega)]
    rw [hR_N6 x (by omega) k]
    simp only [mR_uN, mR_uR, mR_uI]
    repeat rw [if_neg (by omega)]
  have eI_N5 : ∀ x, a + 198 ≤ x → x < a + 200 → ∀ k, mI (uR N7 a 10 (some (a + 206))) x k = mI N5 x k := fun x h1 h2 k => by
    simp only [mI_uN, mI_uR, mI_uI]
    repeat rw [if_neg (by omega)]
    rw [hI_N7 x (by omega) k]
    simp only [mI_uN, mI_uR, mI_uI]
    repeat rw [if_neg (by omega)]
    rw [hI_N6 x (by omega) k]
    simp only [mI_uN, mI_uR, mI_uI]
    repeat rw [if_neg (by omega)]
  have eS_N6 : ∀ x, a + 200 ≤ x → x < a + 206 → mS (uR N7 a 10 (some (a + 206))) x = mS N6 x := fun x h1 h2 => by
    simp only [mS_uN, mS_uR, mS_uI]
    repeat rw [if_neg (by omega)]
    rw [hS_N7 x (by omega)]
    simp only [mS_uN, mS_uR, mS_uI]
    repeat rw [if_neg (by omega)]
  have eR_N6 : ∀ x, a + 200 ≤ x → x < a + 206 → ∀ k, mR (uR N7 a 10 (some (a + 206))) x k = mR N6 x k := fun x h1 h2 k => by
    simp only [mR_uN, mR_uR, mR_uI]
    repeat rw [if_neg (by omega)]
    rw [hR_N7 x (by omega) k]
    simp only [mR_uN, mR_uR, mR_uI]
    repeat rw [if_neg (by omega)]
  have eI_N6 : ∀ x, a + 200 ≤ x → x < a + 206 → ∀ k, mI (uR N7 a 10 (some (a + 206))) x k = mI N6 x k := fun x h1 h2 k => by
    simp only [mI_uN, mI_uR, mI_uI]
    repeat rw [if_neg (by omega)]
    rw [hI_N7 x (by omega) k]
    simp only [mI_uN, mI_uR, mI_uI]
    repeat rw [if_neg (by omega)]
  have eS_N7 : ∀ x, a + 206 ≤ x → x < a + 208 → mS (uR N7 a 10 (some (a + 206))) x = mS N7 x := fun x h1 h2 => by
    simp only [mS_uN, mS_uR, mS_uI]
    repeat rw [if_neg (by omega)]
  have eR_N7 : ∀ x, a + 206 ≤ x → x < a + 208 → ∀ k, mR (uR N7 a 10 (some (a + 206))) x k = mR N7 x k := fun x h1 h2 k => by
    simp only [mR_uN, mR_uR, mR_uI]
    repeat rw [if_neg (by omega)]
  have eI_N7 : ∀ x, a + 206 ≤ x → x < a + 208 → ∀ k, mI (uR N7 a 10 (some (a + 206))) x k = mI N7 x k := fun x h1 h2 k => by
    simp only [mI_uN, mI_uR, mI_uI]
    repeat rw [if_neg (by omega)]
  exact ⟨⟨(by show mS (uR N7 a 10 (some (a + 206))) a = some (10, 0); simp [mS_uN, mR_uN, mI_uN, mS_uR, mR_uR, mI_uR, mS_uI, mR_uI, mI_uI, hs, hS_N1, hR_N1, hI_N1, hS_N2, hR_N2, hI_N2, hS_N3, hR_N3, hI_N3, hS_N4, hR_N4, hI_N4, hS_N5, hR_N5, hI_N5, hS_N6, hR_N6, hI_N6, hS_N7, hR_N7, hI_N7]), (by show mR (uR N7 a 10 (some (a + 206))) a 0 = some (a + 1); simp [mS_uN, mR_uN, mI_uN, mS_uR, mR_uR, mI_uR, mS_uI, mR_uI, mI_uI, hs, hS_N1, hR_N1, hI_N1, hS_N2, hR_N2, hI_N2, hS_N3, hR_N3, hI_N3, hS_N4, hR_N4, hI_N4, hS_N5, hR_N5, hI_N5, hS_N6, hR_N6, hI_N6, hS_N7, hR_N7, hI_N7]), (by show mS (uR N7 a 10 (some (a + 206))) (a + 1) = some (12, 900); simp [mS_uN, mR_uN, mI_uN, mS_uR, mR_uR, mI_uR, mS_uI, mR_uI, mI_uI, hs, hS_N1, hR_N1, hI_N1, hS_N2, hR_N2, hI_N2, hS_N3, hR_N3, hI_N3, hS_N4, hR_N4, hI_N4, hS_N5, hR_N5, hI_N5, hS_N6, hR_N6, hI_N6, hS_N7, hR_N7, hI_N7]), (by show mR (uR N7 a 10 (some (a + 206))) a 4 = some (a + 2); simp [mS_uN, mR_uN, mI_uN, mS_uR, mR_uR, mI_uR, mS_uI, mR_uI, mI_uI, hs, hS_N1, hR_N1, hI_N1, hS_N2, hR_N2, hI_N2, hS_N3, hR_N3, hI_N3, hS_N4, hR_N4, hI_N4, hS_N5, hR_N5, hI_N5, hS_N6, hR_N6, hI_N6, hS_N7, hR_N7, hI_N7]), LX5.cong eS_N1 eR_N1 hP_N1, (by show mR (uR N7 a 10 (some (a + 206))) a 5 = some (a + 28); simp [mS_uN, mR_uN, mI_uN, mS_uR, mR_uR, mI_uR, mS_uI, mR_uI, mI_uI, hs, hS_N1, hR_N1, hI_N1, hS_N2, hR_N2, hI_N2, hS_N3, hR_N3, hI_N3, hS_N4, hR_N4, hI_N4, hS_N5, hR_N5, hI_N5, hS_N6, hR_N6, hI_N6, hS_N7, hR_N7, hI_N7]), LX9.cong eS_N2 eR_N2 hP_N2.1, (by show mR (uR N7 a 10 (some (a + 206))) a 6 = some (a + 34); simp [mS_uN, mR_uN, mI_uN, mS_uR, mR_uR, mI_uR, mS_uI, mR_uI, mI_uI, hs, hS_N1, hR_N1, hI_N1, hS_N2, hR_N2, hI_N2, hS_N3, hR_N3, hI_N3, hS_N4, hR_N4, hI_N4, hS_N5, hR_N5, hI_N5, hS_N6, hR_N6, hI_N6, hS_N7, hR_N7, hI_N7]), LX8.cong eS_N3 eR_N3 hP_N3.1, (by show mR (uR N7 a 10 (some (a + 206))) a 7 = some (a + 52); simp [mS_uN, mR_uN, mI_uN, mS_uR, mR_uR, mI_uR, mS_uI, mR_uI, mI_uI, hs, hS_N1, hR_N1, hI_N1, hS_N2, hR_N2, hI_N2, hS_N3, hR_N3, hI_N3, hS_N4, hR_N4, hI_N4, hS_N5, hR_N5, hI_N5, hS_N6, hR_N6, hI_N6, hS_N7, hR_N7, hI_N7]), LX0.cong eS_N4 eR_N4 hP_N4.1, (by show mR (uR N7 a 10 (some (a + 206))) a 8 = some (a + 198); simp [mS_uN, mR_uN, mI_uN, mS_uR, mR_uR, mI_uR, mS_uI, mR_uI, mI_uI, hs, hS_N1, hR_N1, hI_N1, hS_N2, hR_N2, hI_N2, hS_N3, hR_N3, hI_N3, hS_N4, hR_N4, hI_N4, hS_N5, hR_N5, hI_N5, hS_N6, hR_N6, hI_N6, hS_N7, hR_N7, hI_N7]), LX7.cong eS_N5 eR_N5 hP_N5, (by show mR (uR N7 a 10 (some (a + 206))) a 9 = some (a + 200); simp [mS_uN, mR_uN, mI_uN, mS_uR, mR_uR, mI_uR, mS_uI, mR_uI, mI_uI, hs, hS_N1, hR_N1, hI_N1, hS_N2, hR_N2, hI_N2, hS_N3, hR_N3, hI_N3, hS_N4, hR_N4, hI_N4, hS_N5, hR_N5, hI_N5, hS_N6, hR_N6, hI_N6, hS_N7, hR_N7, hI_N7]), LX1.cong eS_N6 eR_N6 hP_N6, (by show mR (uR N7 a 10 (some (a + 206))) a 10 = some (a + 206); simp [mS_uN, mR_uN, mI_uN, mS_uR, mR_uR, mI_uR, mS_uI, mR_uI, mI_uI, hs, hS_N1, hR_N1, hI_N1, hS_N2, hR_N2, hI_N2, hS_N3, hR_N3, hI_N3, hS_N4, hR_N4, hI_N4, hS_N5, hR_N5, hI_N5, hS_N6, hR_N6, hI_N6, hS_N7, hR_N7, hI_N7]), LX3.cong eS_N7 eR_N7 hP_N7.1⟩, fun n ps u rd tx hn => ⟨⟨fun k hk => absurd hk (Nat.not_lt_zero _), (by show mI (uR N7 a 10 (some (a + 206))) a 1 = _; simp [mS_uN, mR_uN, mI_uN, mS_uR, mR_uR, mI_uR, mS_uI, mR_uI, mI_uI, hz, hS_N1, hR_N1, hI_N1, hS_N2, hR_N2, hI_N2, hS_N3, hR_N3, hI_N3, hS_N4, hR_N4, hI_N4, hS_N5, hR_N5, hI_N5, hS_N6, hR_N6, hI_N6, hS_N7, hR_N7, hI_N7] <;> rfl), Nat.zero_le _⟩, (by show mI (uR N7 a 10 (some (a + 206))) a 2 = _; simp [mS_uN, mR_uN, mI_uN, mS_uR, mR_uR, mI_uR, mS_uI, mR_uI, mI_uI, hz, hS_N1, hR_N1, hI_N1, hS_N2, hR_N2, hI_N2, hS_N3, hR_N3, hI_N3, hS_N4, hR_N4, hI_N4, hS_N5, hR_N5, hI_N5, hS_N6, hR_N6, hI_N6, hS_N7, hR_N7, hI_N7] <;> rfl), (by show mI (uR N7 a 10 (some (a + 206))) a 3 = _; simp [mS_uN, mR_uN, mI_uN, mS_uR, mR_uR, mI_uR, mS_uI, mR_uI, mI_uI, hz, hS_N1, hR_N1, hI_N1, hS_N2, hR_N2, hI_N2, hS_N3, hR_N3, hI_N3, hS_N4, hR_N4, hI_N4, hS_N5, hR_N5, hI_N5, hS_N6, hR_N6, hI_N6, hS_N7, hR_N7, hI_N7] <;> rfl), TT.kept (hP_N2.2 n ((hn 0 (by omega)).trans (row0_z (by omega) (by omega))) ((hn 1 (by omega)).trans (row0_z (by omega) (by omega)))) (fun x h1 h2 k => eI_N2 x (by omega) (by omega) k), (RS.kept hP_N3.2 (fun x h1 h2 k => eI_N3 x (by omega) (by omega) k)).eqr hn, HR.zero (x := 0) ((eI_N4 (a + 52) (by omega) (by omega) 0).trans hP_N4.2.1) (by omega) ((eI_N4 (a + 52) (by omega) (by omega) 1).trans hP_N4.2.2), ((eI_N7 (a + 206) (by omega) (by omega) 0).trans hP_N7.2), Nat.zero_le _, fun k hk => absurd hk (Nat.not_lt_zero _)⟩⟩
