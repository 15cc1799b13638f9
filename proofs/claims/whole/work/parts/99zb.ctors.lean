variable {G : GG} {base : Nat}
/-! ===== CONSTRUCTORS ===== -/
/-- below a nothing has changed; s cells from a on -/
def nwC (M N : Mm) (a s : Nat) : Prop := mT N = some (a + s) ∧ (∀ x, x < a → mS N x = mS M x) ∧ (∀ x, x < a → ∀ k, mR N x k = mR M x k) ∧ (∀ x, x < a → ∀ k, mI N x k = mI M x k) ∧ ∀ x, x < a → ∀ k, mL N x k = mL M x k
def pNw (M : Mm) (a s : Nat) (P : Mm → Prop) : Ot → Mm → Prop := fun o N => o = .inl none ∧ nwC M N a s ∧ P N
theorem oi_10 : Cond.methodLink RX10 1 Lib.objectInit ∈ WT := wt 137 (by decide +kernel) (by decide +kernel)
theorem oi_5 : Cond.methodLink RX5 3 Lib.objectInit ∈ WT := wt 145 (by decide +kernel) (by decide +kernel)
theorem oi_9 : Cond.methodLink RX9 3 Lib.objectInit ∈ WT := wt 151 (by decide +kernel) (by decide +kernel)
theorem oi_8 : Cond.methodLink RX8 3 Lib.objectInit ∈ WT := wt 189 (by decide +kernel) (by decide +kernel)
theorem oi_2 : Cond.methodLink RX2 3 Lib.objectInit ∈ WT := wt 195 (by decide +kernel) (by decide +kernel)
theorem oi_6 : Cond.methodLink RX6 3 Lib.objectInit ∈ WT := wt 253 (by decide +kernel) (by decide +kernel)
theorem oi_4 : Cond.methodLink RX4 3 Lib.objectInit ∈ WT := wt 270 (by decide +kernel) (by decide +kernel)
theorem oi_0 : Cond.methodLink RX0 3 Lib.objectInit ∈ WT := wt 363 (by decide +kernel) (by decide +kernel)
theorem oi_7 : Cond.methodLink RX7 3 Lib.objectInit ∈ WT := wt 383 (by decide +kernel) (by decide +kernel)
theorem oi_1 : Cond.methodLink RX1 3 Lib.objectInit ∈ WT := wt 400 (by decide +kernel) (by decide +kernel)
theorem oi_3 : Cond.methodLink RX3 3 Lib.objectInit ∈ WT := wt 421 (by decide +kernel) (by decide +kernel)
theorem oi_11 : Cond.methodLink RX11 7 Lib.objectInit ∈ WT := wt 1402 (by decide +kernel) (by decide +kernel)
theorem LX2.cong {S S' : Sh} {R R' : Rf} {a : Nat} (eS : ∀ x, a ≤ x → x < a + 11 → S' x = S x) (eR : ∀ x, a ≤ x → x < a + 11 → ∀ k, R' x k = R x k) (h : LX2 S R a) : LX2 S' R' a := ⟨(eS _ (by omega) (by omega)).trans h.1, (eR _ (by omega) (by omega) _).trans h.2.1, (eS _ (by omega) (by omega)).trans h.2.2.1, (eR _ (by omega) (by omega) _).trans h.2.2.2.1, (eS _ (by omega) (by omega)).trans h.2.2.2.2.1, (eR _ (by omega) (by omega) _).trans h.2.2.2.2.2.1, (eS _ (by omega) (by omega)).trans h.2.2.2.2.2.2.1, (eR _ (by omega) (by omega) _).trans h.2.2.2.2.2.2.2.1, (eS _ (by omega) (by omega)).trans h.2.2.2.2.2.2.2.2.1, (eR _ (by omega) (by omega) _).trans h.2.2.2.2.2.2.2.2.2.1, (eS _ (by omega) (by omega)).trans h.2.2.2.2.2.2.2.2.2.2.1, (eR _ (by omega) (by omega) _).trans h.2.2.2.2.2.2.2.2.2.2.2.1, (eS _ (by omega) (by omega)).trans h.2.2.2.2.2.2.2.2.2.2.2.2.1, (eR _ (by omega) (by omega) _).trans h.2.2.2.2.2.2.2.2.2.2.2.2.2.1, (eS _ (by omega) (by omega)).trans h.2.2.2.2.2.2.2.2.2.2.2.2.2.2.1, (eR _ (by omega) (by omega) _).trans h.2.2.2.2.2.2.2.2.2.2.2.2.2.2.2.1, (eS _ (by omega) (by omega)).trans h.2.2.2.2.2.2.2.2.2.2.2.2.2.2.2.2.1, (eR _ (by omega) (by omega) _).trans h.2.2.2.2.2.2.2.2.2.2.2.2.2.2.2.2.2.1, (eS _ (by omega) (by omega)).trans h.2.2.2.2.2.2.2.2.2.2.2.2.2.2.2.2.2.2.1, (eR _ (by omega) (by omega) _).trans h.2.2.2.2.2.2.2.2.2.2.2.2.2.2.2.2.2.2.2.1, (eS _ (by omega) (by omega)).trans h.2.2.2.2.2.2.2.2.2.2.2.2.2.2.2.2.2.2.2.2⟩
theorem LX3.cong {S S' : Sh} {R R' : Rf} {a : Nat} (eS : ∀ x, a ≤ x → x < a + 2 → S' x = S x) (eR : ∀ x, a ≤ x → x < a + 2 → ∀ k, R' x k = R x k) (h : LX3 S R a) : LX3 S' R' a := ⟨(eS _ (by omega) (by omega)).trans h.1, (eR _ (by omega) (by omega) _).trans h.2.1, (eS _ (by omega) (by omega)).trans h.2.2⟩
theorem LX4.cong {S S' : Sh} {R R' : Rf} {a : Nat} (eS : ∀ x, a ≤ x → x < a + 3 → S' x = S x) (eR : ∀ x, a ≤ x → x < a + 3 → ∀ k, R' x k = R x k) (h : LX4 S R a) : LX4 S' R' a := ⟨(eS _ (by omega) (by omega)).trans h.1, (eR _ (by omega) (by omega) _).trans h.2.1, (eS _ (by omega) (by omega)).trans h.2.2.1, (eR _ (by omega) (by omega) _).trans h.2.2.2.1, (eS _ (by omega) (by omega)).trans h.2.2.2.2⟩
theorem LX6.cong {S S' : Sh} {R R' : Rf} {a : Nat} (eS : ∀ x, a ≤ x → x < a + 2 → S' x = S x) (eR : ∀ x, a ≤ x → x < a + 2 → ∀ k, R' x k = R x k) (h : LX6 S R a) : LX6 S' R' a := ⟨(eS _ (by omega) (by omega)).trans h.1, (eR _ (by omega) (by omega) _).trans h.2.1, (eS _ (by omega) (by omega)).trans h.2.2⟩
theorem LX7.cong {S S' : Sh} {R R' : Rf} {a : Nat} (eS : ∀ x, a ≤ x → x < a + 2 → S' x = S x) (eR : ∀ x, a ≤ x → x < a + 2 → ∀ k, R' x k = R x k) (h : LX7 S R a) : LX7 S' R' a := ⟨(eS _ (by omega) (by omega)).trans h.1, (eR _ (by omega) (by omega) _).trans h.2.1, (eS _ (by omega) (by omega)).trans h.2.2⟩
theorem LX9.cong {S S' : Sh} {R R' : Rf} {a : Nat} (eS : ∀ x, a ≤ x → x < a + 6 → S' x = S x) (eR : ∀ x, a ≤ x → x < a + 6 → ∀ k, R' x k = R x k) (h : LX9 S R a) : LX9 S' R' a := ⟨(eS _ (by omega) (by omega)).trans h.1, (eR _ (by omega) (by omega) _).trans h.2.1, (eS _ (by omega) (by omega)).trans h.2.2.1, (eR _ (by omega) (by omega) _).trans h.2.2.2.1, (eS _ (by omega) (by omega)).trans h.2.2.2.2.1, (eR _ (by omega) (by omega) _).trans h.2.2.2.2.2.1, (eS _ (by omega) (by omega)).trans h.2.2.2.2.2.2.1, (eR _ (by omega) (by omega) _).trans h.2.2.2.2.2.2.2.1, (eS _ (by omega) (by omega)).trans h.2.2.2.2.2.2.2.2.1, (eR _ (by omega) (by omega) _).trans h.2.2.2.2.2.2.2.2.2.1, (eS _ (by omega) (by omega)).trans h.2.2.2.2.2.2.2.2.2.2⟩
theorem LX8.cong {S S' : Sh} {R R' : Rf} {a : Nat} (eS : ∀ x, a ≤ x → x < a + 18 → S' x = S x) (eR : ∀ x, a ≤ x → x < a + 18 → ∀ k, R' x k = R x k) (h : LX8 S R a) : LX8 S' R' a := ⟨(eS _ (by omega) (by omega)).trans h.1, (eR _ (by omega) (by omega) _).trans h.2.1, (eS _ (by omega) (by omega)).trans h.2.2.1, (eR _ (by omega) (by omega) _).trans h.2.2.2.1, LX2.cong (fun x h1 h2 => eS x (by omega) (by omega)) (fun x h1 h2 => eR x (by omega) (by omega)) h.2.2.2.2.1, (eR _ (by omega) (by omega) _).trans h.2.2.2.2.2.1, LX6.cong (fun x h1 h2 => eS x (by omega) (by omega)) (fun x h1 h2 => eR x (by omega) (by omega)) h.2.2.2.2.2.2.1, (eR _ (by omega) (by omega) _).trans h.2.2.2.2.2.2.2.1, LX4.cong (fun x h1 h2 => eS x (by omega) (by omega)) (fun x h1 h2 => eR x (by omega) (by omega)) h.2.2.2.2.2.2.2.2⟩
theorem LX0.cong {S S' : Sh} {R R' : Rf} {a : Nat} (eS : ∀ x, a ≤ x → x < a + 146 → S' x = S x) (eR : ∀ x, a ≤ x → x < a + 146 → ∀ k, R' x k = R x k) (h : LX0 S R a) : LX0 S' R' a := ⟨(eS _ (by omega) (by omega)).trans h.1, (eR _ (by omega) (by omega) _).trans h.2.1, (eS _ (by omega) (by omega)).trans h.2.2.1, fun j hj => ⟨(eR _ (by omega) (by omega) _).trans (h.2.2.2 j hj).1, LX8.cong (fun x h1 h2 => eS x (by omega) (by omega)) (fun x h1 h2 => eR x (by omega) (by omega)) (h.2.2.2 j hj).2⟩⟩
theorem LX1.cong {S S' : Sh} {R R' : Rf} {a : Nat} (eS : ∀ x, a ≤ x → x < a + 6 → S' x = S x) (eR : ∀ x, a ≤ x → x < a + 6 → ∀ k, R' x k = R x k) (h : LX1 S R a) : LX1 S' R' a := ⟨(eS _ (by omega) (by omega)).trans h.1, (eR _ (by omega) (by omega) _).trans h.2.1, LX7.cong (fun x h1 h2 => eS x (by omega) (by omega)) (fun x h1 h2 => eR x (by omega) (by omega)) h.2.2.1, (eR _ (by omega) (by omega) _).trans h.2.2.2.1, (eS _ (by omega) (by omega)).trans h.2.2.2.2.1, (eR _ (by omega) (by omega) _).trans h.2.2.2.2.2.1, (eS _ (by omega) (by omega)).trans h.2.2.2.2.2.2.1, (eR _ (by omega) (by omega) _).trans h.2.2.2.2.2.2.2.1, (eS _ (by omega) (by omega)).trans h.2.2.2.2.2.2.2.2⟩
theorem LX5.cong {S S' : Sh} {R R' : Rf} {a : Nat} (eS : ∀ x, a ≤ x → x < a + 26 → S' x = S x) (eR : ∀ x, a ≤ x → x < a + 26 → ∀ k, R' x k = R x k) (h : LX5 S R a) : LX5 S' R' a := ⟨(eS _ (by omega) (by omega)).trans h.1, (eR _ (by omega) (by omega) _).trans h.2.1, LX9.cong (fun x h1 h2 => eS x (by omega) (by omega)) (fun x h1 h2 => eR x (by omega) (by omega)) h.2.2.1, (eR _ (by omega) (by omega) _).trans h.2.2.2.1, LX8.cong (fun x h1 h2 => eS x (by omega) (by omega)) (fun x h1 h2 => eR x (by omega) (by omega)) h.2.2.2.2⟩
set_option maxHeartbeats 2000000 in
set_option maxRecDepth 20000 in
theorem t_X2_init {M : Mm} {a : Nat} (hs : mS M a = some (2, 0)) (hz : ∀ j, mI M a j = 0) (ht : mT M = some (a + 1)) (hb : base ≤ a) : Ct G base YX2_init 2 10 300 [.ref a] M (pNw M a 11 (fun N => LX2 N.1 N.2.1 a ∧ mI N a 0 = 0)) := by
  refine Ct.of IX2_init.1 (by simp [Value.category]) (Nat.le_of_ble_eq_true rfl) (fun X hX hN => ?_)
  show J G base X 0 0 M 0 [some (.ref a)] []
  refine r_aload_n hX dX2_init_0 rfl ?_
  refine r_oinit hX dX2_init_1 oi_2 (by decide) rfl (by decide) ?_
  refine r_aload_n hX dX2_init_4 rfl ?_
  refine r_iconst (v := nI 0) hX dX2_init_5 (by decide) ?_
  refine r_puti (n := 0) hX dX2_init_6 fl_X2_9 rfl rfl (by simp [mS_uN, mR_uN, mI_uN, mS_uR, mR_uR, mI_uR, mS_uI, mR_uI, mI_uI, hs]) ?_
  refine r_aload_n hX dX2_init_9 rfl ?_
  refine r_bipush (v := nI 30) hX dX2_init_10 (by decide) ?_
  refine r_newI (q := (a + 1)) (N := 30) hX dX2_init_12 ht (Nat.le_trans hb (Nat.le_add_right _ _)) (Nat.le_of_ble_eq_true rfl) (Nat.le_of_ble_eq_true rfl) (Nat.le_of_ble_eq_true rfl) ?_
  refine r_putF (n := 0) hX dX2_init_14 fl_X2_15 rfl rfl hN (fun C T N h => by cases h; rfl) (by simp [mS_uN, mR_uN, mI_uN, mS_uR, mR_uR, mI_uR, mS_uI, mR_uI, mI_uI, hs]) ?_
  refine r_aload_n hX dX2_init_17 rfl ?_
  refine r_bipush (v := nI 30) hX dX2_init_18 (by decide) ?_
  refine r_newI (q := (a + 2)) (N := 30) hX dX2_init_20 rfl (Nat.le_trans hb (Nat.le_add_right _ _)) (Nat.le_of_ble_eq_true rfl) (Nat.le_of_ble_eq_true rfl) (Nat.le_of_ble_eq_true rfl) ?_
  refine r_putF (n := 0) hX dX2_init_22 fl_X2_19 rfl rfl hN (fun C T N h => by cases h; rfl) (by simp [mS_uN, mR_uN, mI_uN, mS_uR, mR_uR, mI_uR, mS_uI, mR_uI, mI_uI, hs]) ?_
  refine r_aload_n hX dX2_init_25 rfl ?_
  refine r_bipush (v := nI 30) hX dX2_init_26 (by decide) ?_
  refine r_newI (q := (a + 3)) (N := 30) hX dX2_init_28 rfl (Nat.le_trans hb (Nat.le_add_right _ _)) (Nat.le_of_ble_eq_true rfl) (Nat.le_of_ble_eq_true rfl) (Nat.le_of_ble_eq_true rfl) ?_
  refine r_putF (n := 0) hX dX2_init_30 fl_X2_22 rfl rfl hN (fun C T N h => by cases h; rfl) (by simp [mS_uN, mR_uN, mI_uN, mS_uR, mR_uR, mI_uR, mS_uI, mR_uI, mI_uI, hs]) ?_
  refine r_aload_n hX dX2_init_33 rfl ?_
  refine r_bipush (v := nI 30) hX dX2_init_34 (by decide) ?_
  refine r_newI (q := (a + 4)) (N := 30) hX dX2_init_36 rfl (Nat.le_trans hb (Nat.le_add_right _ _)) (Nat.le_of_ble_eq_true rfl) (Nat.le_of_ble_eq_true rfl) (Nat.le_of_ble_eq_true rfl) ?_
  refine r_putF (n := 0) hX dX2_init_38 fl_X2_25 rfl rfl hN (fun C T N h => by cases h; rfl) (by simp [mS_uN, mR_uN, mI_uN, mS_uR, mR_uR, mI_uR, mS_uI, mR_uI, mI_uI, hs]) ?_
  refine r_aload_n hX dX2_init_41 rfl ?_
  refine r_bipush (v := nI 30) hX dX2_init_42 (by decide) ?_
  refine r_newI (q := (a + 5)) (N := 30) hX dX2_init_44 rfl (Nat.le_trans hb (Nat.le_add_right _ _)) (Nat.le_of_ble_eq_true rfl) (Nat.le_of_ble_eq_true rfl) (Nat.le_of_ble_eq_true rfl) ?_
  refine r_putF (n := 0) hX dX2_init_46 fl_X2_28 rfl rfl hN (fun C T N h => by cases h; rfl) (by simp [mS_uN, mR_uN, mI_uN, mS_uR, mR_uR, mI_uR, mS_uI, mR_uI, mI_uI, hs]) ?_
  refine r_aload_n hX dX2_init_49 rfl ?_
  refine r_bipush (v := nI 30) hX dX2_init_50 (by decide) ?_
  refine r_newI (q := (a + 6)) (N := 30) hX dX2_init_52 rfl (Nat.le_trans hb (Nat.le_add_right _ _)) (Nat.le_of_ble_eq_true rfl) (Nat.le_of_ble_eq_true rfl) (Nat.le_of_ble_eq_true rfl) ?_
  refine r_putF (n := 0) hX dX2_init_54 fl_X2_31 rfl rfl hN (fun C T N h => by cases h; rfl) (by simp [mS_uN, mR_uN, mI_uN, mS_uR, mR_uR, mI_uR, mS_uI, mR_uI, mI_uI, hs]) ?_
  refine r_aload_n hX dX2_init_57 rfl ?_
  refine r_bipush (v := nI 30) hX dX2_init_58 (by decide) ?_
  refine r_newI (q := (a + 7)) (N := 30) hX dX2_init_60 rfl (Nat.le_trans hb (Nat.le_add_right _ _)) (Nat.le_of_ble_eq_true rfl) (Nat.le_of_ble_eq_true rfl) (Nat.le_of_ble_eq_true rfl) ?_
  refine r_putF (n := 0) hX dX2_init_62 fl_X2_34 rfl rfl hN (fun C T N h => by cases h; rfl) (by simp [mS_uN, mR_uN, mI_uN, mS_uR, mR_uR, mI_uR, mS_uI, mR_uI, mI_uI, hs]) ?_
  refine r_aload_n hX dX2_init_65 rfl ?_
  refine r_bipush (v := nI 30) hX dX2_init_66 (by decide) ?_
  refine r_newI (q := (a + 8)) (N := 30) hX dX2_init_68 rfl (Nat.le_trans hb (Nat.le_add_right _ _)) (Nat.le_of_ble_eq_true rfl) (Nat.le_of_ble_eq_true rfl) (Nat.le_of_ble_eq_true rfl) ?_
  refine r_putF (n := 0) hX dX2_init_70 fl_X2_37 rfl rfl hN (fun C T N h => by cases h; rfl) (by simp [mS_uN, mR_uN, mI_uN, mS_uR, mR_uR, mI_uR, mS_uI, mR_uI, mI_uI, hs]) ?_
  refine r_aload_n hX dX2_init_73 rfl ?_
  refine r_bipush (v := nI 30) hX dX2_init_74 (by decide) ?_
  refine r_newI (q := (a + 9)) (N := 30) hX dX2_init_76 rfl (Nat.le_trans hb (Nat.le_add_right _ _)) (Nat.le_of_ble_eq_true rfl) (Nat.le_of_ble_eq_true rfl) (Nat.le_of_ble_eq_true rfl) ?_
  refine r_putF (n := 0) hX dX2_init_78 fl_X2_40 rfl rfl hN (fun C T N h => by cases h; rfl) (by simp [mS_uN, mR_uN, mI_uN, mS_uR, mR_uR, mI_uR, mS_uI, mR_uI, mI_uI, hs]) ?_
  refine r_aload_n hX dX2_init_81 rfl ?_
  refine r_bipush (v := nI 30) hX dX2_init_82 (by decide) ?_
  refine r_newI (q := (a + 10)) (N := 30) hX dX2_init_84 rfl (Nat.le_trans hb (Nat.le_add_right _ _)) (Nat.le_of_ble_eq_true rfl) (Nat.le_of_ble_eq_true rfl) (Nat.le_of_ble_eq_true rfl) ?_
  refine r_putF (n := 0) hX dX2_init_86 fl_X2_43 rfl rfl hN (fun C T N h => by cases h; rfl) (by simp [mS_uN, mR_uN, mI_uN, mS_uR, mR_uR, mI_uR, mS_uI, mR_uI, mI_uI, hs]) ?_
  refine r_return hX rfl dX2_init_89 (Nat.le_of_ble_eq_true rfl) (Nat.le_of_ble_eq_true rfl) ?_
  refine ⟨rfl, ⟨rfl, fun x hx => ?_, fun x hx k => ?_, fun x hx k => ?_, fun x hx k => ?_⟩, ?_⟩
  · simp only [mS_uN, mS_uR, mS_uI]
    repeat rw [if_neg (by omega)]
  · simp only [mR_uN, mR_uR, mR_uI]
    repeat rw [if_neg (by omega)]
  · simp only [mI_uN, mI_uR, mI_uI]
    repeat rw [if_neg (by omega)]
  · simp only [mL_uN, mL_uR, mL_uI]
    repeat rw [if_neg (by omega)]
  exact ⟨⟨(by show mS (uR (uN (uR (uN (uR (uN (uR (uN (uR (uN (uR (uN (uR (uN (uR (uN (uR (uN (uR (uN (uI M a 0 (nI 0)) (a + 1) (12, 30)) a 1 (some (a + 1))) (a + 2) (12, 30)) a 2 (some (a + 2))) (a + 3) (12, 30)) a 3 (some (a + 3))) (a + 4) (12, 30)) a 4 (some (a + 4))) (a + 5) (12, 30)) a 5 (some (a + 5))) (a + 6) (12, 30)) a 6 (some (a + 6))) (a + 7) (12, 30)) a 7 (some (a + 7))) (a + 8) (12, 30)) a 8 (some (a + 8))) (a + 9) (12, 30)) a 9 (some (a + 9))) (a + 10) (12, 30)) a 10 (some (a + 10))) a = some (2, 0); simp [mS_uN, mR_uN, mI_uN, mS_uR, mR_uR, mI_uR, mS_uI, mR_uI, mI_uI, hs]), (by show mR (uR (uN (uR (uN (uR (uN (uR (uN (uR (uN (uR (uN (uR (uN (uR (uN (uR (uN (uR (uN (uI M a 0 (nI 0)) (a + 1) (12, 30)) a 1 (some (a + 1))) (a + 2) (12, 30)) a 2 (some (a + 2))) (a + 3) (12, 30)) a 3 (some (a + 3))) (a + 4) (12, 30)) a 4 (some (a + 4))) (a + 5) (12, 30)) a 5 (some (a + 5))) (a + 6) (12, 30)) a 6 (some (a + 6))) (a + 7) (12, 30)) a 7 (some (a + 7))) (a + 8) (12, 30)) a 8 (some (a + 8))) (a + 9) (12, 30)) a 9 (some (a + 9))) (a + 10) (12, 30)) a 10 (some (a + 10))) a 1 = some (a + 1); simp [mS_uN, mR_uN, mI_uN, mS_uR, mR_uR, mI_uR, mS_uI, mR_uI, mI_uI, hs]), (by show mS (uR (uN (uR (uN (uR (uN (uR (uN (uR (uN (uR (uN (uR (uN (uR (uN (uR (uN (uR (uN (uI M a 0 (nI 0)) (a + 1) (12, 30)) a 1 (some (a + 1))) (a + 2) (12, 30)) a 2 (some (a + 2))) (a + 3) (12, 30)) a 3 (some (a + 3))) (a + 4) (12, 30)) a 4 (some (a + 4))) (a + 5) (12, 30)) a 5 (some (a + 5))) (a + 6) (12, 30)) a 6 (some (a + 6))) (a + 7) (12, 30)) a 7 (some (a + 7))) (a + 8) (12, 30)) a 8 (some (a + 8))) (a + 9) (12, 30)) a 9 (some (a + 9))) (a + 10) (12, 30)) a 10 (some (a + 10))) (a + 1) = some (12, 30); simp [mS_uN, mR_uN, mI_uN, mS_uR, mR_uR, mI_uR, mS_uI, mR_uI, mI_uI, hs]), (by show mR (uR (uN (uR (uN (uR (uN (uR (uN (uR (uN (uR (uN (uR (uN (uR (uN (uR (uN (uR (uN (uI M a 0 (nI 0)) (a + 1) (12, 30)) a 1 (some (a + 1))) (a + 2) (12, 30)) a 2 (some (a + 2))) (a + 3) (12, 30)) a 3 (some (a + 3))) (a + 4) (12, 30)) a 4 (some (a + 4))) (a + 5) (12, 30)) a 5 (some (a + 5))) (a + 6) (12, 30)) a 6 (some (a + 6))) (a + 7) (12, 30)) a 7 (some (a + 7))) (a + 8) (12, 30)) a 8 (some (a + 8))) (a + 9) (12, 30)) a 9 (some (a + 9))) (a + 10) (12, 30)) a 10 (some (a + 10))) a 2 = some (a + 2); simp [mS_uN, mR_uN, mI_uN, mS_uR, mR_uR, mI_uR, mS_uI, mR_uI, mI_uI, hs]), (by show mS (uR (uN (uR (uN (uR (uN (uR (uN (uR (uN (uR (uN (uR (uN (uR (uN (uR (uN (uR (uN (uI M a 0 (nI 0)) (a + 1) (12, 30)) a 1 (some (a + 1))) (a + 2) (12, 30)) a 2 (some (a + 2))) (a + 3) (12, 30)) a 3 (some (a + 3))) (a + 4) (12, 30)) a 4 (some (a + 4))) (a + 5) (12, 30)) a 5 (some (a + 5))) (a + 6) (12, 30)) a 6 (some (a + 6))) (a + 7) (12, 30)) a 7 (some (a + 7))) (a + 8) (12, 30)) a 8 (some (a + 8))) (a + 9) (12, 30)) a 9 (some (a + 9))) (a + 10) (12, 30)) a 10 (some (a + 10))) (a + 2) = some (12, 30); simp [mS_uN, mR_uN, mI_uN, mS_uR, mR_uR, mI_uR, mS_uI, mR_uI, mI_uI, hs]), (by show mR (uR (uN (uR (uN (uR (uN (uR (uN (uR (uN (uR (uN (uR (uN (uR (uN (uR (uN (uR (uN (uI M a 0 (nI 0)) (a + 1) (12, 30)) a 1 (some (a + 1))) (a + 2) (12, 30)) a 2 (some (a + 2))) (a + 3) (12, 30)) a 3 (some (a + 3))) (a + 4) (12, 30)) a 4 (some (a + 4))) (a + 5) (12, 30)) a 5 (some (a + 5))) (a + 6) (12, 30)) a 6 (some (a + 6))) (a + 7) (12, 30)) a 7 (some (a + 7))) (a + 8) (12, 30)) a 8 (some (a + 8))) (a + 9) (12, 30)) a 9 (some (a + 9))) (a + 10) (12, 30)) a 10 (some (a + 10))) a 3 = some (a + 3); simp [mS_uN, mR_uN, mI_uN, mS_uR, mR_uR, mI_uR, mS_uI, mR_uI, mI_uI, hs]), (by show mS (uR (uN (uR (uN (uR (uN (uR (uN (uR (uN (uR (uN (uR (uN (uR (uN (uR (uN (uR (uN (uI M a 0 (nI 0)) (a + 1) (12, 30)) a 1 (some (a + 1))) (a + 2) (12, 30)) a 2 (some (a + 2))) (a + 3) (12, 30)) a 3 (some (a + 3))) (a + 4) (12, 30)) a 4 (some (a + 4))) (a + 5) (12, 30)) a 5 (some (a + 5))) (a + 6) (12, 30)) a 6 (some (a + 6))) (a + 7) (12, 30)) a 7 (some (a + 7))) (a + 8) (12, 30)) a 8 (some (a + 8))) (a + 9) (12, 30)) a 9 (some (a + 9))) (a + 10) (12, 30)) a 10 (some (a + 10))) (a + 3) = some (12, 30); simp [mS_uN, mR_uN, mI_uN, mS_uR, mR_uR, mI_uR, mS_uI, mR_uI, mI_uI, hs]), (by show mR (uR (uN (uR (uN (uR (uN (uR (uN (uR (uN (uR (uN (uR (uN (uR (uN (uR (uN (uR (uN (uI M a 0 (nI 0)) (a + 1) (12, 30)) a 1 (some (a + 1))) (a + 2) (12, 30)) a 2 (some (a + 2))) (a + 3) (12, 30)) a 3 (some (a + 3))) (a + 4) (12, 30)) a 4 (some (a + 4))) (a + 5) (12, 30)) a 5 (some (a + 5))) (a + 6) (12, 30)) a 6 (some (a + 6))) (a + 7) (12, 30)) a 7 (some (a + 7))) (a + 8) (12, 30)) a 8 (some (a + 8))) (a + 9) (12, 30)) a 9 (some (a + 9))) (a + 10) (12, 30)) a 10 (some (a + 10))) a 4 = some (a + 4); simp [mS_uN, mR_uN, mI_uN, mS_uR, mR_uR, mI_uR, mS_uI, mR_uI, mI_uI, hs]), (by show mS (uR (uN (uR (uN (uR (uN (uR (uN (uR (uN (uR (uN (uR (uN (uR (uN (uR (uN (uR (uN (uI M a 0 (nI 0)) (a + 1) (12, 30)) a 1 (some (a + 1))) (a + 2) (12, 30)) a 2 (some (a + 2))) (a + 3) (12, 30)) a 3 (some (a + 3))) (a + 4) (12, 30)) a 4 (some (a + 4))) (a + 5) (12, 30)) a 5 (some (a + 5))) (a + 6) (12, 30)) a 6 (some (a + 6))) (a + 7) (12, 30)) a 7 (some (a + 7))) (a + 8) (12, 30)) a 8 (some (a + 8))) (a + 9) (12, 30)) a 9 (some (a + 9))) (a + 10) (12, 30)) a 10 (some (a + 10))) (a + 4) = some (12, 30); simp [mS_uN, mR_uN, mI_uN, mS_uR, mR_uR, mI_uR, mS_uI, mR_uI, mI_uI, hs]), (by show mR (uR (uN (uR (uN (uR (uN (uR (uN (uR (uN (uR (uN (uR (uN (uR (uN (uR (uN (uR (uN (uI M a 0 (nI 0)) (a + 1) (12, 30)) a 1 (some (a + 1))) (a + 2) (12, 30)) a 2 (some (a + 2))) (a + 3) (12, 30)) a 3 (some (a + 3))) (a + 4) (12, 30)) a 4 (some (a + 4))) (a + 5) (12, 30)) a 5 (some (a + 5))) (a + 6) (12, 30)) a 6 (some (a + 6))) (a + 7) (12, 30)) a 7 (some (a + 7))) (a + 8) (12, 30)) a 8 (some (a + 8))) (a + 9) (12, 30)) a 9 (some (a + 9))) (a + 10) (12, 30)) a 10 (some (a + 10))) a 5 = some (a + 5); simp [mS_uN, mR_uN, mI_uN, mS_uR, mR_uR, mI_uR, mS_uI, mR_uI, mI_uI, hs]), (by show mS (uR (uN (uR (uN (uR (uN (uR (uN (uR (uN (uR (uN (uR (uN (uR (uN (uR (uN (uR (uN (uI M a 0 (nI 0)) (a + 1) (12, 30)) a 1 (some (a + 1))) (a + 2) (12, 30)) a 2 (some (a + 2))) (a + 3) (12, 30)) a 3 (some (a + 3))) (a + 4) (12, 30)) a 4 (some (a + 4))) (a + 5) (12, 30)) a 5 (some (a + 5))) (a + 6) (12, 30)) a 6 (some (a + 6))) (a + 7) (12, 30)) a 7 (some (a + 7))) (a + 8) (12, 30)) a 8 (some (a + 8))) (a + 9) (12, 30)) a 9 (some (a + 9))) (a + 10) (12, 30)) a 10 (some (a + 10))) (a + 5) = some (12, 30); simp [mS_uN, mR_uN, mI_uN, mS_uR, mR_uR, mI_uR, mS_uI, mR_uI, mI_uI, hs]), (by show mR (uR (uN (uR (uN (uR (uN (uR (uN (uR (uN (uR (uN (uR (uN (uR (uN (uR (uN (uR (uN (uI M a 0 (nI 0)) (a + 1) (12, 30)) a 1 (some (a + 1))) (a + 2) (12, 30)) a 2 (some (a + 2))) (a + 3) (12, 30)) a 3 (some (a + 3))) (a + 4) (12, 30)) a 4 (some (a + 4))) (a + 5) (12, 30)) a 5 (some (a + 5))) (a + 6) (12, 30)) a 6 (some (a + 6))) (a + 7) (12, 30)) a 7 (some (a + 7))) (a + 8) (12, 30)) a 8 (some (a + 8))) (a + 9) (12, 30)) a 9 (some (a + 9))) (a + 10) (12, 30)) a 10 (some (a + 10))) a 6 = some (a + 6); simp [mS_uN, mR_uN, mI_uN, mS_uR, mR_uR, mI_uR, mS_uI, mR_uI, mI_uI, hs]), (by show mS (uR (uN (uR (uN (uR (uN (uR (uN (uR (uN (uR (uN (uR (uN (uR (uN (uR (uN (uR (uN (uI M a 0 (nI 0)) (a + 1) (12, 30)) a 1 (some (a + 1))) (a + 2) (12, 30)) a 2 (some (a + 2))) (a + 3) (12, 30)) a 3 (some (a + 3))) (a + 4) (12, 30)) a 4 (some (a + 4))) (a + 5) (12, 30)) a 5 (some (a + 5))) (a + 6) (12, 30)) a 6 (some (a + 6))) (a + 7) (12, 30)) a 7 (some (a + 7))) (a + 8) (12, 30)) a 8 (some (a + 8))) (a + 9) (12, 30)) a 9 (some (a + 9))) (a + 10) (12, 30)) a 10 (some (a + 10))) (a + 6) = some (12, 30); simp [mS_uN, mR_uN, mI_uN, mS_uR, mR_uR, mI_uR, mS_uI, mR_uI, mI_uI, hs]), (by show mR (uR (uN (uR (uN (uR (uN (uR (uN (uR (uN (uR (uN (uR (uN (uR (uN (uR (uN (uR (uN (uI M a 0 (nI 0)) (a + 1) (12, 30)) a 1 (some (a + 1))) (a + 2) (12, 30)) a 2 (some (a + 2))) (a + 3) (12, 30)) a 3 (some (a + 3))) (a + 4) (12, 30)) a 4 (some (a + 4))) (a + 5) (12, 30)) a 5 (some (a + 5))) (a + 6) (12, 30)) a 6 (some (a + 6))) (a + 7) (12, 30)) a 7 (some (a + 7))) (a + 8) (12, 30)) a 8 (some (a + 8))) (a + 9) (12, 30)) a 9 (some (a + 9))) (a + 10) (12, 30)) a 10 (some (a + 10))) a 7 = some (a + 7); simp [mS_uN, mR_uN, mI_uN, mS_uR, mR_uR, mI_uR, mS_uI, mR_uI, mI_uI, hs]), (by show mS (uR (uN (uR (uN (uR (uN (uR (uN (uR (uN (uR (uN (uR (uN (uR (uN (uR (uN (uR (uN (uI M a 0 (nI 0)) (a + 1) (12, 30)) a 1 (some (a + 1))) (a + 2) (12, 30)) a 2 (some (a + 2))) (a + 3) (12, 30)) a 3 (some (a + 3))) (a + 4) (12, 30)) a 4 (some (a + 4))) (a + 5) (12, 30)) a 5 (some (a + 5))) (a + 6) (12, 30)) a 6 (some (a + 6))) (a + 7) (12, 30)) a 7 (some (a + 7))) (a + 8) (12, 30)) a 8 (some (a + 8))) (a + 9) (12, 30)) a 9 (some (a + 9))) (a + 10) (12, 30)) a 10 (some (a + 10))) (a + 7) = some (12, 30); simp [mS_uN, mR_uN, mI_uN, mS_uR, mR_uR, mI_uR, mS_uI, mR_uI, mI_uI, hs]), (by show mR (uR (uN (uR (uN (uR (uN (uR (uN (uR (uN (uR (uN (uR (uN (uR (uN (uR (uN (uR (uN (uI M a 0 (nI 0)) (a + 1) (12, 30)) a 1 (some (a + 1))) (a + 2) (12, 30)) a 2 (some (a + 2))) (a + 3) (12, 30)) a 3 (some (a + 3))) (a + 4) (12, 30)) a 4 (some (a + 4))) (a + 5) (12, 30)) a 5 (some (a + 5))) (a + 6) (12, 30)) a 6 (some (a + 6))) (a + 7) (12, 30)) a 7 (some (a + 7))) (a + 8) (12, 30)) a 8 (some (a + 8))) (a + 9) (12, 30)) a 9 (some (a + 9))) (a + 10) (12, 30)) a 10 (some (a + 10))) a 8 = some (a + 8); simp [mS_uN, mR_uN, mI_uN, mS_uR, mR_uR, mI_uR, mS_uI, mR_uI, mI_uI, hs]), (by show mS (uR (uN (uR (uN (uR (uN (uR (uN (uR (uN (uR (uN (uR (uN (uR (uN (uR (uN (uR (uN (uI M a 0 (nI 0)) (a + 1) (12, 30)) a 1 (some (a + 1))) (a + 2) (12, 30)) a 2 (some (a + 2))) (a + 3) (12, 30)) a 3 (some (a + 3))) (a + 4) (12, 30)) a 4 (some (a + 4))) (a + 5) (12, 30)) a 5 (some (a + 5))) (a + 6) (12, 30)) a 6 (some (a + 6))) (a + 7) (12, 30)) a 7 (some (a + 7))) (a + 8) (12, 30)) a 8 (some (a + 8))) (a + 9) (12, 30)) a 9 (some (a + 9))) (a + 10) (12, 30)) a 10 (some (a + 10))) (a + 8) = some (12, 30); simp [mS_uN, mR_uN, mI_uN, mS_uR, mR_uR, mI_uR, mS_uI, mR_uI, mI_uI, hs]), (by show mR (uR (uN (uR (uN (uR (uN (uR (uN (uR (uN (uR (uN (uR (uN (uR (uN (uR (uN (uR (uN (uI M a 0 (nI 0)) (a + 1) (12, 30)) a 1 (some (a + 1))) (a + 2) (12, 30)) a 2 (some (a + 2))) (a + 3) (12, 30)) a 3 (some (a + 3))) (a + 4) (12, 30)) a 4 (some (a + 4))) (a + 5) (12, 30)) a 5 (some (a + 5))) (a + 6) (12, 30)) a 6 (some (a + 6))) (a + 7) (12, 30)) a 7 (some (a + 7))) (a + 8) (12, 30)) a 8 (some (a + 8))) (a + 9) (12, 30)) a 9 (some (a + 9))) (a + 10) (12, 30)) a 10 (some (a + 10))) a 9 = some (a + 9); simp [mS_uN, mR_uN, mI_uN, mS_uR, mR_uR, mI_uR, mS_uI, mR_uI, mI_uI, hs]), (by show mS (uR (uN (uR (uN (uR (uN (uR (uN (uR (uN (uR (uN (uR (uN (uR (uN (uR (uN (uR (uN (uI M a 0 (nI 0)) (a + 1) (12, 30)) a 1 (some (a + 1))) (a + 2) (12, 30)) a 2 (some (a + 2))) (a + 3) (12, 30)) a 3 (some (a + 3))) (a + 4) (12, 30)) a 4 (some (a + 4))) (a + 5) (12, 30)) a 5 (some (a + 5))) (a + 6) (12, 30)) a 6 (some (a + 6))) (a + 7) (12, 30)) a 7 (some (a + 7))) (a + 8) (12, 30)) a 8 (some (a + 8))) (a + 9) (12, 30)) a 9 (some (a + 9))) (a + 10) (12, 30)) a 10 (some (a + 10))) (a + 9) = some (12, 30); simp [mS_uN, mR_uN, mI_uN, mS_uR, mR_uR, mI_uR, mS_uI, mR_uI, mI_uI, hs]), (by show mR (uR (uN (uR (uN (uR (uN (uR (uN (uR (uN (uR (uN (uR (uN (uR (uN (uR (uN (uR (uN (uI M a 0 (nI 0)) (a + 1) (12, 30)) a 1 (some (a + 1))) (a + 2) (12, 30)) a 2 (some (a + 2))) (a + 3) (12, 30)) a 3 (some (a + 3))) (a + 4) (12, 30)) a 4 (some (a + 4))) (a + 5) (12, 30)) a 5 (some (a + 5))) (a + 6) (12, 30)) a 6 (some (a + 6))) (a + 7) (12, 30)) a 7 (some (a + 7))) (a + 8) (12, 30)) a 8 (some (a + 8))) (a + 9) (12, 30)) a 9 (some (a + 9))) (a + 10) (12, 30)) a 10 (some (a + 10))) a 10 = some (a + 10); simp [mS_uN, mR_uN, mI_uN, mS_uR, mR_uR, mI_uR, mS_uI, mR_uI, mI_uI, hs]), (by show mS (uR (uN (uR (uN (uR (uN (uR (uN (uR (uN (uR (uN (uR (uN (uR (uN (uR (uN (uR (uN (uI M a 0 (nI 0)) (a + 1) (12, 30)) a 1 (some (a + 1))) (a + 2) (12, 30)) a 2 (some (a + 2))) (a + 3) (12, 30)) a 3 (some (a + 3))) (a + 4) (12, 30)) a 4 (some (a + 4))) (a + 5) (12, 30)) a 5 (some (a + 5))) (a + 6) (12, 30)) a 6 (some (a + 6))) (a + 7) (12, 30)) a 7 (some (a + 7))) (a + 8) (12, 30)) a 8 (some (a + 8))) (a + 9) (12, 30)) a 9 (some (a + 9))) (a + 10) (12, 30)) a 10 (some (a + 10))) (a + 10) = some (12, 30); simp [mS_uN, mR_uN, mI_uN, mS_uR, mR_uR, mI_uR, mS_uI, mR_uI, mI_uI, hs])⟩, (by show mI (uR (uN (uR (uN (uR (uN (uR (uN (uR (uN (uR (uN (uR (uN (uR (uN (uR (uN (uR (uN (uI M a 0 (nI 0)) (a + 1) (12, 30)) a 1 (some (a + 1))) (a + 2) (12, 30)) a 2 (some (a + 2))) (a + 3) (12, 30)) a 3 (some (a + 3))) (a + 4) (12, 30)) a 4 (some (a + 4))) (a + 5) (12, 30)) a 5 (some (a + 5))) (a + 6) (12, 30)) a 6 (some (a + 6))) (a + 7) (12, 30)) a 7 (some (a + 7))) (a + 8) (12, 30)) a 8 (some (a + 8))) (a + 9) (12, 30)) a 9 (some (a + 9))) (a + 10) (12, 30)) a 10 (some (a + 10))) a 0 = _; simp [mS_uN, mR_uN, mI_uN, mS_uR, mR_uR, mI_uR, mS_uI, mR_uI, mI_uI, hz] <;> rfl)⟩
set_option maxHeartbeats 2000000 in
set_option maxRecDepth 20000 in
theorem t_X3_init {M : Mm} {a : Nat} (hs : mS M a = some (3, 0)) (hz : ∀ j, mI M a j = 0) (ht : mT M = some (a + 1)) (hb : base ≤ a) : Ct G base YX3_init 2 1 160 [.ref a] M (pNw M a 2 (fun N => LX3 N.1 N.2.1 a ∧ mI N a 0 = 0)) := by
  refine Ct.of IX3_init.1 (by simp [Value.category]) (Nat.le_of_ble_eq_true rfl) (fun X hX hN => ?_)
  show J G base X 0 0 M 0 [some (.ref a)] []
  refine r_aload_n hX dX3_init_0 rfl ?_
  refine r_oinit hX dX3_init_1 oi_3 (by decide) rfl (by decide) ?_
  refine r_aload_n hX dX3_init_4 rfl ?_
  refine r_iconst (v := nI 0) hX dX3_init_5 (by decide) ?_
  refine r_puti (n := 0) hX dX3_init_6 fl_X3_9 rfl rfl (by simp [mS_uN, mR_uN, mI_uN, mS_uR, mR_uR, mI_uR, mS_uI, mR_uI, mI_uI, hs]) ?_
  refine r_aload_n hX dX3_init_9 rfl ?_
  refine r_sipush (v := nI 160) hX dX3_init_10 (by decide) ?_
  refine r_newI (q := (a + 1)) (N := 160) hX dX3_init_13 ht (Nat.le_trans hb (Nat.le_add_right _ _)) (Nat.le_of_ble_eq_true rfl) (Nat.le_of_ble_eq_true rfl) (Nat.le_of_ble_eq_true rfl) ?_
  refine r_putF (n := 0) hX dX3_init_15 fl_X3_15 rfl rfl hN (fun C T N h => by cases h; rfl) (by simp [mS_uN, mR_uN, mI_uN, mS_uR, mR_uR, mI_uR, mS_uI, mR_uI, mI_uI, hs]) ?_
  refine r_return hX rfl dX3_init_18 (Nat.le_of_ble_eq_true rfl) (Nat.le_of_ble_eq_true rfl) ?_
  refine ⟨rfl, ⟨rfl, fun x hx => ?_, fun x hx k => ?_, fun x hx k => ?_, fun x hx k => ?_⟩, ?_⟩
  · simp only [mS_uN, mS_uR, mS_uI]
    repeat rw [if_neg (by omega)]
  · simp only [mR_uN, mR_uR, mR_uI]
    repeat rw [if_neg (by omega)]
  · simp only [mI_uN, mI_uR, mI_uI]
    repeat rw [if_neg (by omega)]
  · simp only [mL_uN, mL_uR, mL_uI]
    repeat rw [if_neg (by omega)]
  exact ⟨⟨(by show mS (uR (uN (uI M a 0 (nI 0)) (a + 1) (12, 160)) a 1 (some (a + 1))) a = some (3, 0); simp [mS_uN, mR_uN, mI_uN, mS_uR, mR_uR, mI_uR, mS_uI, mR_uI, mI_uI, hs]), (by show mR (uR (uN (uI M a 0 (nI 0)) (a + 1) (12, 160)) a 1 (some (a + 1))) a 1 = some (a + 1); simp [mS_uN, mR_uN, mI_uN, mS_uR, mR_uR, mI_uR, mS_uI, mR_uI, mI_uI, hs]), (by show mS (uR (uN (uI M a 0 (nI 0)) (a + 1) (12, 160)) a 1 (some (a + 1))) (a + 1) = some (12, 160); simp [mS_uN, mR_uN, mI_uN, mS_uR, mR_uR, mI_uR, mS_uI, mR_uI, mI_uI, hs])⟩, (by show mI (uR (uN (uI M a 0 (nI 0)) (a + 1) (12, 160)) a 1 (some (a + 1))) a 0 = _; simp [mS_uN, mR_uN, mI_uN, mS_uR, mR_uR, mI_uR, mS_uI, mR_uI, mI_uI, hz] <;> rfl)⟩
set_option maxHeartbeats 2000000 in
set_option maxRecDepth 20000 in
theorem t_X4_init {M : Mm} {a : Nat} (hs : mS M a = some (4, 0)) (hz : ∀ j, mI M a j = 0) (ht : mT M = some (a + 1)) (hb : base ≤ a) : Ct G base YX4_init 2 2 60 [.ref a] M (pNw M a 3 (fun N => LX4 N.1 N.2.1 a ∧ mI N a 0 = 0)) := by
  refine Ct.of IX4_init.1 (by simp [Value.category]) (Nat.le_of_ble_eq_true rfl) (fun X hX hN => ?_)
  show J G base X 0 0 M 0 [some (.ref a)] []
  refine r_aload_n hX dX4_init_0 rfl ?_
  refine r_oinit hX dX4_init_1 oi_4 (by decide) rfl (by decide) ?_
  refine r_aload_n hX dX4_init_4 rfl ?_
  refine r_iconst (v := nI 0) hX dX4_init_5 (by decide) ?_
  refine r_puti (n := 0) hX dX4_init_6 fl_X4_9 rfl rfl (by simp [mS_uN, mR_uN, mI_uN, mS_uR, mR_uR, mI_uR, mS_uI, mR_uI, mI_uI, hs]) ?_
  refine r_aload_n hX dX4_init_9 rfl ?_
  refine r_bipush (v := nI 30) hX dX4_init_10 (by decide) ?_
  refine r_newI (q := (a + 1)) (N := 30) hX dX4_init_12 ht (Nat.le_trans hb (Nat.le_add_right _ _)) (Nat.le_of_ble_eq_true rfl) (Nat.le_of_ble_eq_true rfl) (Nat.le_of_ble_eq_true rfl) ?_
  refine r_putF (n := 0) hX dX4_init_14 fl_X4_15 rfl rfl hN (fun C T N h => by cases h; rfl) (by simp [mS_uN, mR_uN, mI_uN, mS_uR, mR_uR, mI_uR, mS_uI, mR_uI, mI_uI, hs]) ?_
  refine r_aload_n hX dX4_init_17 rfl ?_
  refine r_bipush (v := nI 30) hX dX4_init_18 (by decide) ?_
  refine r_newI (q := (a + 2)) (N := 30) hX dX4_init_20 rfl (Nat.le_trans hb (Nat.le_add_right _ _)) (Nat.le_of_ble_eq_true rfl) (Nat.le_of_ble_eq_true rfl) (Nat.le_of_ble_eq_true rfl) ?_
  refine r_putF (n := 0) hX dX4_init_22 fl_X4_19 rfl rfl hN (fun C T N h => by cases h; rfl) (by simp [mS_uN, mR_uN, mI_uN, mS_uR, mR_uR, mI_uR, mS_uI, mR_uI, mI_uI, hs]) ?_
  refine r_return hX rfl dX4_init_25 (Nat.le_of_ble_eq_true rfl) (Nat.le_of_ble_eq_true rfl) ?_
  refine ⟨rfl, ⟨rfl, fun x hx => ?_, fun x hx k => ?_, fun x hx k => ?_, fun x hx k => ?_⟩, ?_⟩
  · simp only [mS_uN, mS_uR, mS_uI]
    repeat rw [if_neg (by omega)]
  · simp only [mR_uN, mR_uR, mR_uI]
    repeat rw [if_neg (by omega)]
  · simp only [mI_uN, mI_uR, mI_uI]
    repeat rw [if_neg (by omega)]
  · simp only [mL_uN, mL_uR, mL_uI]
    repeat rw [if_neg (by omega)]
  exact ⟨⟨(by show mS (uR (uN (uR (uN (uI M a 0 (nI 0)) (a + 1) (12, 30)) a 1 (some (a + 1))) (a + 2) (12, 30)) a 2 (some (a + 2))) a = some (4, 0); simp [mS_uN, mR_uN, mI_uN, mS_uR, mR_uR, mI_uR, mS_uI, mR_uI, mI_uI, hs]), (by show mR (uR (uN (uR (uN (uI M a 0 (nI 0)) (a + 1) (12, 30)) a 1 (some (a + 1))) (a + 2) (12, 30)) a 2 (some (a + 2))) a 1 = some (a + 1); simp [mS_uN, mR_uN, mI_uN, mS_uR, mR_uR, mI_uR, mS_uI, mR_uI, mI_uI, hs]), (by show mS (uR (uN (uR (uN (uI M a 0 (nI 0)) (a + 1) (12, 30)) a 1 (some (a + 1))) (a + 2) (12, 30)) a 2 (some (a + 2))) (a + 1) = some (12, 30); simp [mS_uN, mR_uN, mI_uN, mS_uR, mR_uR, mI_uR, mS_uI, mR_uI, mI_uI, hs]), (by show mR (uR (uN (uR (uN (uI M a 0 (nI 0)) (a + 1) (12, 30)) a 1 (some (a + 1))) (a + 2) (12, 30)) a 2 (some (a + 2))) a 2 = some (a + 2); simp [mS_uN, mR_uN, mI_uN, mS_uR, mR_uR, mI_uR, mS_uI, mR_uI, mI_uI, hs]), (by show mS (uR (uN (uR (uN (uI M a 0 (nI 0)) (a + 1) (12, 30)) a 1 (some (a + 1))) (a + 2) (12, 30)) a 2 (some (a + 2))) (a + 2) = some (12, 30); simp [mS_uN, mR_uN, mI_uN, mS_uR, mR_uR, mI_uR, mS_uI, mR_uI, mI_uI, hs])⟩, (by show mI (uR (uN (uR (uN (uI M a 0 (nI 0)) (a + 1) (12, 30)) a 1 (some (a + 1))) (a + 2) (12, 30)) a 2 (some (a + 2))) a 0 = _; simp [mS_uN, mR_uN, mI_uN, mS_uR, mR_uR, mI_uR, mS_uI, mR_uI, mI_uI, hz] <;> rfl)⟩
set_option maxHeartbeats 2000000 in
set_option maxRecDepth 20000 in
theorem t_X6_init {M : Mm} {a : Nat} (hs : mS M a = some (6, 0)) (hz : ∀ j, mI M a j = 0) (ht : mT M = some (a + 1)) (hb : base ≤ a) : Ct G base YX6_init 2 1 300 [.ref a] M (pNw M a 2 (fun N => LX6 N.1 N.2.1 a ∧ mI N a 0 = 0 ∧ mI N a 1 = 0)) := by
  refine Ct.of IX6_init.1 (by simp [Value.category]) (Nat.le_of_ble_eq_true rfl) (fun X hX hN => ?_)
  show J G base X 0 0 M 0 [some (.ref a)] []
  refine r_aload_n hX dX6_init_0 rfl ?_
  refine r_oinit hX dX6_init_1 oi_6 (by decide) rfl (by decide) ?_
  refine r_aload_n hX dX6_init_4 rfl ?_
  refine r_iconst (v := nI 0) hX dX6_init_5 (by decide) ?_
  refine r_puti (n := 0) hX dX6_init_6 fl_X6_9 rfl rfl (by simp [mS_uN, mR_uN, mI_uN, mS_uR, mR_uR, mI_uR, mS_uI, mR_uI, mI_uI, hs]) ?_
  refine r_aload_n hX dX6_init_9 rfl ?_
  refine r_iconst (v := nI 0) hX dX6_init_10 (by decide) ?_
  refine r_puti (n := 0) hX dX6_init_11 fl_X6_15 rfl rfl (by simp [mS_uN, mR_uN, mI_uN, mS_uR, mR_uR, mI_uR, mS_uI, mR_uI, mI_uI, hs]) ?_
  refine r_aload_n hX dX6_init_14 rfl ?_
  refine r_sipush (v := nI 300) hX dX6_init_15 (by decide) ?_
  refine r_newI (q := (a + 1)) (N := 300) hX dX6_init_18 ht (Nat.le_trans hb (Nat.le_add_right _ _)) (Nat.le_of_ble_eq_true rfl) (Nat.le_of_ble_eq_true rfl) (Nat.le_of_ble_eq_true rfl) ?_
  refine r_putF (n := 0) hX dX6_init_20 fl_X6_18 rfl rfl hN (fun C T N h => by cases h; rfl) (by simp [mS_uN, mR_uN, mI_uN, mS_uR, mR_uR, mI_uR, mS_uI, mR_uI, mI_uI, hs]) ?_
  refine r_return hX rfl dX6_init_23 (Nat.le_of_ble_eq_true rfl) (Nat.le_of_ble_eq_true rfl) ?_
  refine ⟨rfl, ⟨rfl, fun x hx => ?_, fun x hx k => ?_, fun x hx k => ?_, fun x hx k => ?_⟩, ?_⟩
  · simp only [mS_uN, mS_uR, mS_uI]
    repeat rw [if_neg (by omega)]
  · simp only [mR_uN, mR_uR, mR_uI]
    repeat rw [if_neg (by omega)]
  · simp only [mI_uN, mI_uR, mI_uI]
    repeat rw [if_neg (by omega)]
  · simp only [mL_uN, mL_uR, mL_uI]
    repeat rw [if_neg (by omega)]
  exact ⟨⟨(by show mS (uR (uN (uI (uI M a 0 (nI 0)) a 1 (nI 0)) (a + 1) (12, 300)) a 2 (some (a + 1))) a = some (6, 0); simp [mS_uN, mR_uN, mI_uN, mS_uR, mR_uR, mI_uR, mS_uI, mR_uI, mI_uI, hs]), (by show mR (uR (uN (uI (uI M a 0 (nI 0)) a 1 (nI 0)) (a + 1) (12, 300)) a 2 (some (a + 1))) a 2 = some (a + 1); simp [mS_uN, mR_uN, mI_uN, mS_uR, mR_uR, mI_uR, mS_uI, mR_uI, mI_uI, hs]), (by show mS (uR (uN (uI (uI M a 0 (nI 0)) a 1 (nI 0)) (a + 1) (12, 300)) a 2 (some (a + 1))) (a + 1) = some (12, 300); simp [mS_uN, mR_uN, mI_uN, mS_uR, mR_uR, mI_uR, mS_uI, mR_uI, mI_uI, hs])⟩, (by show mI (uR (uN (uI (uI M a 0 (nI 0)) a 1 (nI 0)) (a + 1) (12, 300)) a 2 (some (a + 1))) a 0 = _; simp [mS_uN, mR_uN, mI_uN, mS_uR, mR_uR, mI_uR, mS_uI, mR_uI, mI_uI, hz] <;> rfl), (by show mI (uR (uN (uI (uI M a 0 (nI 0)) a 1 (nI 0)) (a + 1) (12, 300)) a 2 (some (a + 1))) a 1 = _; simp [mS_uN, mR_uN, mI_uN, mS_uR, mR_uR, mI_uR, mS_uI, mR_uI, mI_uI, hz] <;> rfl)⟩
set_option maxHeartbeats 2000000 in
set_option maxRecDepth 20000 in
theorem t_X7_init {M : Mm} {a : Nat} (hs : mS M a = some (7, 0)) (hz : ∀ j, mI M a j = 0) (ht : mT M = some (a + 1)) (hb : base ≤ a) : Ct G base YX7_init 2 1 10 [.ref a] M (pNw M a 2 (fun N => LX7 N.1 N.2.1 a)) := by
  refine Ct.of IX7_init.1 (by simp [Value.category]) (Nat.le_of_ble_eq_true rfl) (fun X hX hN => ?_)
  show J G base X 0 0 M 0 [some (.ref a)] []
  refine r_aload_n hX dX7_init_0 rfl ?_
  refine r_oinit hX dX7_init_1 oi_7 (by decide) rfl (by decide) ?_
  refine r_aload_n hX dX7_init_4 rfl ?_
  refine r_iconst (v := nI 0) hX dX7_init_5 (by decide) ?_
  refine r_puti (n := 0) hX dX7_init_6 fl_X7_9 rfl rfl (by simp [mS_uN, mR_uN, mI_uN, mS_uR, mR_uR, mI_uR, mS_uI, mR_uI, mI_uI, hs]) ?_
  refine r_aload_n hX dX7_init_9 rfl ?_
  refine r_iconst (v := nI 0) hX dX7_init_10 (by decide) ?_
  refine r_puti (n := 0) hX dX7_init_11 fl_X7_15 rfl rfl (by simp [mS_uN, mR_uN, mI_uN, mS_uR, mR_uR, mI_uR, mS_uI, mR_uI, mI_uI, hs]) ?_
  refine r_aload_n hX dX7_init_14 rfl ?_
  refine r_bipush (v := nI 10) hX dX7_init_15 (by decide) ?_
  refine r_newI (q := (a + 1)) (N := 10) hX dX7_init_17 ht (Nat.le_trans hb (Nat.le_add_right _ _)) (Nat.le_of_ble_eq_true rfl) (Nat.le_of_ble_eq_true rfl) (Nat.le_of_ble_eq_true rfl) ?_
  refine r_putF (n := 0) hX dX7_init_19 fl_X7_18 rfl rfl hN (fun C T N h => by cases h; rfl) (by simp [mS_uN, mR_uN, mI_uN, mS_uR, mR_uR, mI_uR, mS_uI, mR_uI, mI_uI, hs]) ?_
  refine r_return hX rfl dX7_init_22 (Nat.le_of_ble_eq_true rfl) (Nat.le_of_ble_eq_true rfl) ?_
  refine ⟨rfl, ⟨rfl, fun x hx => ?_, fun x hx k => ?_, fun x hx k => ?_, fun x hx k => ?_⟩, ?_⟩
  · simp only [mS_uN, mS_uR, mS_uI]
    repeat rw [if_neg (by omega)]
  · simp only [mR_uN, mR_uR, mR_uI]
    repeat rw [if_neg (by omega)]
  · simp only [mI_uN, mI_uR, mI_uI]
    repeat rw [if_neg (by omega)]
  · simp only [mL_uN, mL_uR, mL_uI]
    repeat rw [if_neg (by omega)]
  exact ⟨(by show mS (uR (uN (uI (uI M a 0 (nI 0)) a 1 (nI 0)) (a + 1) (12, 10)) a 2 (some (a + 1))) a = some (7, 0); simp [mS_uN, mR_uN, mI_uN, mS_uR, mR_uR, mI_uR, mS_uI, mR_uI, mI_uI, hs]), (by show mR (uR (uN (uI (uI M a 0 (nI 0)) a 1 (nI 0)) (a + 1) (12, 10)) a 2 (some (a + 1))) a 2 = some (a + 1); simp [mS_uN, mR_uN, mI_uN, mS_uR, mR_uR, mI_uR, mS_uI, mR_uI, mI_uI, hs]), (by show mS (uR (uN (uI (uI M a 0 (nI 0)) a 1 (nI 0)) (a + 1) (12, 10)) a 2 (some (a + 1))) (a + 1) = some (12, 10); simp [mS_uN, mR_uN, mI_uN, mS_uR, mR_uR, mI_uR, mS_uI, mR_uI, mI_uI, hs])⟩
set_option maxHeartbeats 2000000 in
set_option maxRecDepth 20000 in
theorem t_X9_init {M : Mm} {a : Nat} (hs : mS M a = some (9, 0)) (hz : ∀ j, mI M a j = 0) (ht : mT M = some (a + 1)) (hb : base ≤ a) : Ct G base YX9_init 2 5 1868 [.ref a] M (pNw M a 6 (fun N => LX9 N.1 N.2.1 a ∧ ∀ m, m 0 = 0 → m 1 = 0 → TT (mI N) a m)) := by
  refine Ct.of IX9_init.1 (by simp [Value.category]) (Nat.le_of_ble_eq_true rfl) (fun X hX hN => ?_)
  show J G base X 0 0 M 0 [some (.ref a)] []
  refine r_aload_n hX dX9_init_0 rfl ?_
  refine r_oinit hX dX9_init_1 oi_9 (by decide) rfl (by decide) ?_
  refine r_aload_n hX dX9_init_4 rfl ?_
  refine r_iconst (v := nI 0) hX dX9_init_5 (by decide) ?_
  refine r_puti (n := 0) hX dX9_init_6 fl_X9_9 rfl rfl (by simp [mS_uN, mR_uN, mI_uN, mS_uR, mR_uR, mI_uR, mS_uI, mR_uI, mI_uI, hs]) ?_
  refine r_aload_n hX dX9_init_9 rfl ?_
  refine r_iconst (v := nI 0) hX dX9_init_10 (by decide) ?_
  refine r_puti (n := 0) hX dX9_init_11 fl_X9_15 rfl rfl (by simp [mS_uN, mR_uN, mI_uN, mS_uR, mR_uR, mI_uR, mS_uI, mR_uI, mI_uI, hs]) ?_
  refine r_aload_n hX dX9_init_14 rfl ?_
  refine r_iconst (v := nI 0) hX dX9_init_15 (by decide) ?_
  refine r_puti (n := 0) hX dX9_init_16 fl_X9_18 rfl rfl (by simp [mS_uN, mR_uN, mI_uN, mS_uR, mR_uR, mI_uR, mS_uI, mR_uI, mI_uI, hs]) ?_
  refine r_aload_n hX dX9_init_19 rfl ?_
  refine r_bipush (v := nI 10) hX dX9_init_20 (by decide) ?_
  refine r_newI (q := (a + 1)) (N := 10) hX dX9_init_22 ht (Nat.le_trans hb (Nat.le_add_right _ _)) (Nat.le_of_ble_eq_true rfl) (Nat.le_of_ble_eq_true rfl) (Nat.le_of_ble_eq_true rfl) ?_
  refine r_putF (n := 0) hX dX9_init_24 fl_X9_21 rfl rfl hN (fun C T N h => by cases h; rfl) (by simp [mS_uN, mR_uN, mI_uN, mS_uR, mR_uR, mI_uR, mS_uI, mR_uI, mI_uI, hs]) ?_
  refine r_aload_n hX dX9_init_27 rfl ?_
  refine r_iconst (v := nI 5) hX dX9_init_28 (by decide) ?_
  refine r_newI (q := (a + 2)) (N := 5) hX dX9_init_29 rfl (Nat.le_trans hb (Nat.le_add_right _ _)) (Nat.le_of_ble_eq_true rfl) (Nat.le_of_ble_eq_true rfl) (Nat.le_of_ble_eq_true rfl) ?_
  refine r_putF (n := 0) hX dX9_init_31 fl_X9_25 rfl rfl hN (fun C T N h => by cases h; rfl) (by simp [mS_uN, mR_uN, mI_uN, mS_uR, mR_uR, mI_uR, mS_uI, mR_uI, mI_uI, hs]) ?_
  refine r_aload_n hX dX9_init_34 rfl ?_
  refine r_iconst (v := nI 5) hX dX9_init_35 (by decide) ?_
  refine r_newI (q := (a + 3)) (N := 5) hX dX9_init_36 rfl (Nat.le_trans hb (Nat.le_add_right _ _)) (Nat.le_of_ble_eq_true rfl) (Nat.le_of_ble_eq_true rfl) (Nat.le_of_ble_eq_true rfl) ?_
  refine r_putF (n := 0) hX dX9_init_38 fl_X9_28 rfl rfl hN (fun C T N h => by cases h; rfl) (by simp [mS_uN, mR_uN, mI_uN, mS_uR, mR_uR, mI_uR, mS_uI, mR_uI, mI_uI, hs]) ?_
  refine r_aload_n hX dX9_init_41 rfl ?_
  refine r_sipush (v := nI 1680) hX dX9_init_42 (by decide) ?_
  refine r_newI (q := (a + 4)) (N := 1680) hX dX9_init_45 rfl (Nat.le_trans hb (Nat.le_add_right _ _)) (Nat.le_of_ble_eq_true rfl) (Nat.le_of_ble_eq_true rfl) (Nat.le_of_ble_eq_true rfl) ?_
  refine r_putF (n := 0) hX dX9_init_47 fl_X9_31 rfl rfl hN (fun C T N h => by cases h; rfl) (by simp [mS_uN, mR_uN, mI_uN, mS_uR, mR_uR, mI_uR, mS_uI, mR_uI, mI_uI, hs]) ?_
  refine r_aload_n hX dX9_init_50 rfl ?_
  refine r_sipush (v := nI 168) hX dX9_init_51 (by decide) ?_
  refine r_newI (q := (a + 5)) (N := 168) hX dX9_init_54 rfl (Nat.le_trans hb (Nat.le_add_right _ _)) (Nat.le_of_ble_eq_true rfl) (Nat.le_of_ble_eq_true rfl) (Nat.le_of_ble_eq_true rfl) ?_
  refine r_putF (n := 0) hX dX9_init_56 fl_X9_34 rfl rfl hN (fun C T N h => by cases h; rfl) (by simp [mS_uN, mR_uN, mI_uN, mS_uR, mR_uR, mI_uR, mS_uI, mR_uI, mI_uI, hs]) ?_
  refine r_return hX rfl dX9_init_59 (Nat.le_of_ble_eq_true rfl) (Nat.le_of_ble_eq_true rfl) ?_
  refine ⟨rfl, ⟨rfl, fun x hx => ?_, fun x hx k => ?_, fun x hx k => ?_, fun x hx k => ?_⟩, ?_⟩
  · simp only [mS_uN, mS_uR, mS_uI]
    repeat rw [if_neg (by omega)]
  · simp only [mR_uN, mR_uR, mR_uI]
    repeat rw [if_neg (by omega)]
  · simp only [mI_uN, mI_uR, mI_uI]
    repeat rw [if_neg (by omega)]
  · simp only [mL_uN, mL_uR, mL_uI]
    repeat rw [if_neg (by omega)]
  exact ⟨⟨(by show mS (uR (uN (uR (uN (uR (uN (uR (uN (uR (uN (uI (uI (uI M a 0 (nI 0)) a 1 (nI 0)) a 2 (nI 0)) (a + 1) (12, 10)) a 3 (some (a + 1))) (a + 2) (12, 5)) a 4 (some (a + 2))) (a + 3) (12, 5)) a 5 (some (a + 3))) (a + 4) (12, 1680)) a 6 (some (a + 4))) (a + 5) (12, 168)) a 7 (some (a + 5))) a = some (9, 0); simp [mS_uN, mR_uN, mI_uN, mS_uR, mR_uR, mI_uR, mS_uI, mR_uI, mI_uI, hs]), (by show mR (uR (uN (uR (uN (uR (uN (uR (uN (uR (uN (uI (uI (uI M a 0 (nI 0)) a 1 (nI 0)) a 2 (nI 0)) (a + 1) (12, 10)) a 3 (some (a + 1))) (a + 2) (12, 5)) a 4 (some (a + 2))) (a + 3) (12, 5)) a 5 (some (a + 3))) (a + 4) (12, 1680)) a 6 (some (a + 4))) (a + 5) (12, 168)) a 7 (some (a + 5))) a 3 = some (a + 1); simp [mS_uN, mR_uN, mI_uN, mS_uR, mR_uR, mI_uR, mS_uI, mR_uI, mI_uI, hs]), (by show mS (uR (uN (uR (uN (uR (uN (uR (uN (uR (uN (uI (uI (uI M a 0 (nI 0)) a 1 (nI 0)) a 2 (nI 0)) (a + 1) (12, 10)) a 3 (some (a + 1))) (a + 2) (12, 5)) a 4 (some (a + 2))) (a + 3) (12, 5)) a 5 (some (a + 3))) (a + 4) (12, 1680)) a 6 (some (a + 4))) (a + 5) (12, 168)) a 7 (some (a + 5))) (a + 1) = some (12, 10); simp [mS_uN, mR_uN, mI_uN, mS_uR, mR_uR, mI_uR, mS_uI, mR_uI, mI_uI, hs]), (by show mR (uR (uN (uR (uN (uR (uN (uR (uN (uR (uN (uI (uI (uI M a 0 (nI 0)) a 1 (nI 0)) a 2 (nI 0)) (a + 1) (12, 10)) a 3 (some (a + 1))) (a + 2) (12, 5)) a 4 (some (a + 2))) (a + 3) (12, 5)) a 5 (some (a + 3))) (a + 4) (12, 1680)) a 6 (some (a + 4))) (a + 5) (12, 168)) a 7 (some (a + 5))) a 4 = some (a + 2); simp [mS_uN, mR_uN, mI_uN, mS_uR, mR_uR, mI_uR, mS_uI, mR_uI, mI_uI, hs]), (by show mS (uR (uN (uR (uN (uR (uN (uR (uN (uR (uN (uI (uI (uI M a 0 (nI 0)) a 1 (nI 0)) a 2 (nI 0)) (a + 1) (12, 10)) a 3 (some (a + 1))) (a + 2) (12, 5)) a 4 (some (a + 2))) (a + 3) (12, 5)) a 5 (some (a + 3))) (a + 4) (12, 1680)) a 6 (some (a + 4))) (a + 5) (12, 168)) a 7 (some (a + 5))) (a + 2) = some (12, 5); simp [mS_uN, mR_uN, mI_uN, mS_uR, mR_uR, mI_uR, mS_uI, mR_uI, mI_uI, hs]), (by show mR (uR (uN (uR (uN (uR (uN (uR (uN (uR (uN (uI (uI (uI M a 0 (nI 0)) a 1 (nI 0)) a 2 (nI 0)) (a + 1) (12, 10)) a 3 (some (a + 1))) (a + 2) (12, 5)) a 4 (some (a + 2))) (a + 3) (12, 5)) a 5 (some (a + 3))) (a + 4) (12, 1680)) a 6 (some (a + 4))) (a + 5) (12, 168)) a 7 (some (a + 5))) a 5 = some (a + 3); simp [mS_uN, mR_uN, mI_uN, mS_uR, mR_uR, mI_uR, mS_uI, mR_uI, mI_uI, hs]), (by show mS (uR (uN (uR (uN (uR (uN (uR (uN (uR (uN (uI (uI (uI M a 0 (nI 0)) a 1 (nI 0)) a 2 (nI 0)) (a + 1) (12, 10)) a 3 (some (a + 1))) (a + 2) (12, 5)) a 4 (some (a + 2))) (a + 3) (12, 5)) a 5 (some (a + 3))) (a + 4) (12, 1680)) a 6 (some (a + 4))) (a + 5) (12, 168)) a 7 (some (a + 5))) (a + 3) = some (12, 5); simp [mS_uN, mR_uN, mI_uN, mS_uR, mR_uR, mI_uR, mS_uI, mR_uI, mI_uI, hs]), (by show mR (uR (uN (uR (uN (uR (uN (uR (uN (uR (uN (uI (uI (uI M a 0 (nI 0)) a 1 (nI 0)) a 2 (nI 0)) (a + 1) (12, 10)) a 3 (some (a + 1))) (a + 2) (12, 5)) a 4 (some (a + 2))) (a + 3) (12, 5)) a 5 (some (a + 3))) (a + 4) (12, 1680)) a 6 (some (a + 4))) (a + 5) (12, 168)) a 7 (some (a + 5))) a 6 = some (a + 4); simp [mS_uN, mR_uN, mI_uN, mS_uR, mR_uR, mI_uR, mS_uI, mR_uI, mI_uI, hs]), (by show mS (uR (uN (uR (uN (uR (uN (uR (uN (uR (uN (uI (uI (uI M a 0 (nI 0)) a 1 (nI 0)) a 2 (nI 0)) (a + 1) (12, 10)) a 3 (some (a + 1))) (a + 2) (12, 5)) a 4 (some (a + 2))) (a + 3) (12, 5)) a 5 (some (a + 3))) (a + 4) (12, 1680)) a 6 (some (a + 4))) (a + 5) (12, 168)) a 7 (some (a + 5))) (a + 4) = some (12, 1680); simp [mS_uN, mR_uN, mI_uN, mS_uR, mR_uR, mI_uR, mS_uI, mR_uI, mI_uI, hs]), (by show mR (uR (uN (uR (uN (uR (uN (uR (uN (uR (uN (uI (uI (uI M a 0 (nI 0)) a 1 (nI 0)) a 2 (nI 0)) (a + 1) (12, 10)) a 3 (some (a + 1))) (a + 2) (12, 5)) a 4 (some (a + 2))) (a + 3) (12, 5)) a 5 (some (a + 3))) (a + 4) (12, 1680)) a 6 (some (a + 4))) (a + 5) (12, 168)) a 7 (some (a + 5))) a 7 = some (a + 5); simp [mS_uN, mR_uN, mI_uN, mS_uR, mR_uR, mI_uR, mS_uI, mR_uI, mI_uI, hs]), (by show mS (uR (uN (uR (uN (uR (uN (uR (uN (uR (uN (uI (uI (uI M a 0 (nI 0)) a 1 (nI 0)) a 2 (nI 0)) (a + 1) (12, 10)) a 3 (some (a + 1))) (a + 2) (12, 5)) a 4 (some (a + 2))) (a + 3) (12, 5)) a 5 (some (a + 3))) (a + 4) (12, 1680)) a 6 (some (a + 4))) (a + 5) (12, 168)) a 7 (some (a + 5))) (a + 5) = some (12, 168); simp [mS_uN, mR_uN, mI_uN, mS_uR, mR_uR, mI_uR, mS_uI, mR_uI, mI_uI, hs])⟩, fun m m0 m1 => TT.empty m0 m1 (by show mI (uR (uN (uR (uN (uR (uN (uR (uN (uR (uN (uI (uI (uI M a 0 (nI 0)) a 1 (nI 0)) a 2 (nI 0)) (a + 1) (12, 10)) a 3 (some (a + 1))) (a + 2) (12, 5)) a 4 (some (a + 2))) (a + 3) (12, 5)) a 5 (some (a + 3))) (a + 4) (12, 1680)) a 6 (some (a + 4))) (a + 5) (12, 168)) a 7 (some (a + 5))) a 0 = _; simp [mS_uN, mR_uN, mI_uN, mS_uR, mR_uR, mI_uR, mS_uI, mR_uI, mI_uI, hz] <;> rfl) (by show mI (uR (uN (uR (uN (uR (uN (uR (uN (uR (uN (uI (uI (uI M a 0 (nI 0)) a 1 (nI 0)) a 2 (nI 0)) (a + 1) (12, 10)) a 3 (some (a + 1))) (a + 2) (12, 5)) a 4 (some (a + 2))) (a + 3) (12, 5)) a 5 (some (a + 3))) (a + 4) (12, 1680)) a 6 (some (a + 4))) (a + 5) (12, 168)) a 7 (some (a + 5))) a 1 = _; simp [mS_uN, mR_uN, mI_uN, mS_uR, mR_uR, mI_uR, mS_uI, mR_uI, mI_uI, hz] <;> rfl) (by show mI (uR (uN (uR (uN (uR (uN (uR (uN (uR (uN (uI (uI (uI M a 0 (nI 0)) a 1 (nI 0)) a 2 (nI 0)) (a + 1) (12, 10)) a 3 (some (a + 1))) (a + 2) (12, 5)) a 4 (some (a + 2))) (a + 3) (12, 5)) a 5 (some (a + 3))) (a + 4) (12, 1680)) a 6 (some (a + 4))) (a + 5) (12, 168)) a 7 (some (a + 5))) a 2 = _; simp [mS_uN, mR_uN, mI_uN, mS_uR, mR_uR, mI_uR, mS_uI, mR_uI, mI_uI, hz] <;> rfl) (fun k _ => (by show mI (uR (uN (uR (uN (uR (uN (uR (uN (uR (uN (uI (uI (uI M a 0 (nI 0)) a 1 (nI 0)) a 2 (nI 0)) (a + 1) (12, 10)) a 3 (some (a + 1))) (a + 2) (12, 5)) a 4 (some (a + 2))) (a + 3) (12, 5)) a 5 (some (a + 3))) (a + 4) (12, 1680)) a 6 (some (a + 4))) (a + 5) (12, 168)) a 7 (some (a + 5))) (a + 4) k = _; simp [mS_uN, mR_uN, mI_uN, mS_uR, mR_uR, mI_uR, mS_uI, mR_uI, mI_uI, hz] <;> rfl)) (fun k _ => (by show mI (uR (uN (uR (uN (uR (uN (uR (uN (uR (uN (uI (uI (uI M a 0 (nI 0)) a 1 (nI 0)) a 2 (nI 0)) (a + 1) (12, 10)) a 3 (some (a + 1))) (a + 2) (12, 5)) a 4 (some (a + 2))) (a + 3) (12, 5)) a 5 (some (a + 3))) (a + 4) (12, 1680)) a 6 (some (a + 4))) (a + 5) (12, 168)) a 7 (some (a + 5))) (a + 5) k = _; simp [mS_uN, mR_uN, mI_uN, mS_uR, mR_uR, mI_uR, mS_uI, mR_uI, mI_uI, hz] <;> rfl))⟩
set_option maxHeartbeats 2000000 in
set_option maxRecDepth 20000 in
theorem t_X1_init {M : Mm} {a : Nat} (hs : mS M a = some (1, 0)) (hz : ∀ j, mI M a j = 0) (ht : mT M = some (a + 1)) (hb : base ≤ a) : Ct G base YX1_init 3 5 108 [.ref a] M (pNw M a 6 (fun N => LX1 N.1 N.2.1 a)) := by
  refine Ct.of IX1_init.1 (by simp [Value.category]) (Nat.le_of_ble_eq_true rfl) (fun X hX hN => ?_)
  show J G base X 0 0 M 0 [some (.ref a)] []
  refine r_aload_n hX dX1_init_0 rfl ?_
  refine r_oinit hX dX1_init_1 oi_1 (by decide) rfl (by decide) ?_
  refine r_aload_n hX dX1_init_4 rfl ?_
  refine r_new (q := (a + 1)) (ci := 7) hX rfl dX1_init_5 cl_X1_9 nw_X7 ht (Nat.le_trans hb (Nat.le_add_right _ _)) (Nat.le_of_ble_eq_true rfl) (Nat.le_of_ble_eq_true rfl) ?_
  refine r_dup hX dX1_init_8 rfl ?_
  refine r_gI0 hX dX1_init_9 IX7_init ml_X1_11 rfl (t_X7_init (M := (uN M (a + 1) (7, 0))) (a := (a + 1)) (by simp [mS_uN]) (by simp [mI_uN]) rfl (Nat.le_trans hb (Nat.le_add_right _ _))) (by decide) (Nat.le_of_ble_eq_true rfl) (Nat.le_of_ble_eq_true rfl) (by decide) rfl (Nat.le_of_ble_eq_true rfl) (fun E N9 h9 => by obtain ⟨h9, -⟩ := h9; cases h9) (fun v N1 hB => ?_)
  obtain ⟨hv, ⟨ht_N1, hS_N1, hR_N1, hI_N1, hL_N1⟩, hP_N1⟩ := hB
  cases hv
  show J G base X _ _ N1 _ _ [.ref (a + 1), .ref a]
  have hs_N1 : mS N1 a = some (1, 0) := (hS_N1 a (by omega)).trans (by simp [mS_uN, mR_uN, mI_uN, mS_uR, mR_uR, mI_uR, mS_uI, mR_uI, mI_uI, hs])
  refine r_putF (n := 0) hX dX1_init_12 fl_X1_12 rfl rfl hN (fun C T N h => by cases h; rfl) (by simp [mS_uN, mR_uN, mI_uN, mS_uR, mR_uR, mI_uR, mS_uI, mR_uI, mI_uI, hs_N1]) ?_
  refine r_aload_n hX dX1_init_15 rfl ?_
  refine r_bipush (v := nI 60) hX dX1_init_16 (by decide) ?_
  refine r_newI (q := (a + 3)) (N := 60) hX dX1_init_18 ht_N1 (Nat.le_trans hb (Nat.le_add_right _ _)) (Nat.le_of_ble_eq_true rfl) (Nat.le_of_ble_eq_true rfl) (Nat.le_of_ble_eq_true rfl) ?_
  refine r_putF (n := 0) hX dX1_init_20 fl_X1_18 rfl rfl hN (fun C T N h => by cases h; rfl) (by simp [mS_uN, mR_uN, mI_uN, mS_uR, mR_uR, mI_uR, mS_uI, mR_uI, mI_uI, hs_N1]) ?_
  refine r_aload_n hX dX1_init_23 rfl ?_
  refine r_bipush (v := nI 30) hX dX1_init_24 (by decide) ?_
  refine r_newI (q := (a + 4)) (N := 30) hX dX1_init_26 rfl (Nat.le_trans hb (Nat.le_add_right _ _)) (Nat.le_of_ble_eq_true rfl) (Nat.le_of_ble_eq_true rfl) (Nat.le_of_ble_eq_true rfl) ?_
  refine r_putF (n := 0) hX dX1_init_28 fl_X1_22 rfl rfl hN (fun C T N h => by cases h; rfl) (by simp [mS_uN, mR_uN, mI_uN, mS_uR, mR_uR, mI_uR, mS_uI, mR_uI, mI_uI, hs_N1]) ?_
  refine r_aload_n hX dX1_init_31 rfl ?_
  refine r_iconst (v := nI 5) hX dX1_init_32 (by decide) ?_
  refine r_newI (q := (a + 5)) (N := 5) hX dX1_init_33 rfl (Nat.le_trans hb (Nat.le_add_right _ _)) (Nat.le_of_ble_eq_true rfl) (Nat.le_of_ble_eq_true rfl) (Nat.le_of_ble_eq_true rfl) ?_
  refine r_putF (n := 0) hX dX1_init_35 fl_X1_25 rfl rfl hN (fun C T N h => by cases h; rfl) (by simp [mS_uN, mR_uN, mI_uN, mS_uR, mR_uR, mI_uR, mS_uI, mR_uI, mI_uI, hs_N1]) ?_
  refine r_return hX rfl dX1_init_38 (Nat.le_of_ble_eq_true rfl) (Nat.le_of_ble_eq_true rfl) ?_
  refine ⟨rfl, ⟨rfl, fun x hx => ?_, fun x hx k => ?_, fun x hx k => ?_, fun x hx k => ?_⟩, ?_⟩
  · simp only [mS_uN, mS_uR, mS_uI]
    repeat rw [if_neg (by omega)]
    rw [hS_N1 x (by omega)]
    simp only [mS_uN, mS_uR, mS_uI]
    repeat rw [if_neg (by omega)]
  · simp only [mR_uN, mR_uR, mR_uI]
    repeat rw [if_neg (by omega)]
    rw [hR_N1 x (by omega) k]
    simp only [mR_uN, mR_uR, mR_uI]
    repeat rw [if_neg (by omega)]
  · simp only [mI_uN, mI_uR, mI_uI]
    repeat rw [if_neg (by omega)]
    rw [hI_N1 x (by omega) k]
    simp only [mI_uN, mI_uR, mI_uI]
    repeat rw [if_neg (by omega)]
  · simp only [mL_uN, mL_uR, mL_uI]
    repeat rw [if_neg (by omega)]
    rw [hL_N1 x (by omega) k]
    simp only [mL_uN, mL_uR, mL_uI]
    repeat rw [if_neg (by omega)]
  have eS_N1 : ∀ x, a + 1 ≤ x → x < a + 3 → mS (uR (uN (uR (uN (uR (uN (uR N1 a 0 (some (a + 1))) (a + 3) (12, 60)) a 1 (some (a + 3))) (a + 4) (12, 30)) a 2 (some (a + 4))) (a + 5) (12, 5)) a 3 (some (a + 5))) x = mS N1 x := fun x h1 h2 => by
    simp only [mS_uN, mS_uR, mS_uI]
    repeat rw [if_neg (by omega)]
  have eR_N1 : ∀ x, a + 1 ≤ x → x < a + 3 → ∀ k, mR (uR (uN (uR (uN (uR (uN (uR N1 a 0 (some (a + 1))) (a + 3) (12, 60)) a 1 (some (a + 3))) (a + 4) (12, 30)) a 2 (some (a + 4))) (a + 5) (12, 5)) a 3 (some (a + 5))) x k = mR N1 x k := fun x h1 h2 k => by
    simp only [mR_uN, mR_uR, mR_uI]
    repeat rw [if_neg (by omega)]
  have eI_N1 : ∀ x, a + 1 ≤ x → x < a + 3 → ∀ k, mI (uR (uN (uR (uN (uR (uN (uR N1 a 0 (some (a + 1))) (a + 3) (12, 60)) a 1 (some (a + 3))) (a + 4) (12, 30)) a 2 (some (a + 4))) (a + 5) (12, 5)) a 3 (some (a + 5))) x k = mI N1 x k := fun x h1 h2 k => by
    simp only [mI_uN, mI_uR, mI_uI]
    repeat rw [if_neg (by omega)]
  exact ⟨(by show mS (uR (uN (uR (uN (uR (uN (uR N1 a 0 (some (a + 1))) (a + 3) (12, 60)) a 1 (some (a + 3))) (a + 4) (12, 30)) a 2 (some (a + 4))) (a + 5) (12, 5)) a 3 (some (a + 5))) a = some (1, 0); simp [mS_uN, mR_uN, mI_uN, mS_uR, mR_uR, mI_uR, mS_uI, mR_uI, mI_uI, hs, hS_N1, hR_N1, hI_N1]), (by show mR (uR (uN (uR (uN (uR (uN (uR N1 a 0 (some (a + 1))) (a + 3) (12, 60)) a 1 (some (a + 3))) (a + 4) (12, 30)) a 2 (some (a + 4))) (a + 5) (12, 5)) a 3 (some (a + 5))) a 0 = some (a + 1); simp [mS_uN, mR_uN, mI_uN, mS_uR, mR_uR, mI_uR, mS_uI, mR_uI, mI_uI, hs, hS_N1, hR_N1, hI_N1]), LX7.cong eS_N1 eR_N1 hP_N1, (by show mR (uR (uN (uR (uN (uR (uN (uR N1 a 0 (some (a + 1))) (a + 3) (12, 60)) a 1 (some (a + 3))) (a + 4) (12, 30)) a 2 (some (a + 4))) (a + 5) (12, 5)) a 3 (some (a + 5))) a 1 = some (a + 3); simp [mS_uN, mR_uN, mI_uN, mS_uR, mR_uR, mI_uR, mS_uI, mR_uI, mI_uI, hs, hS_N1, hR_N1, hI_N1]), (by show mS (uR (uN (uR (uN (uR (uN (uR N1 a 0 (some (a + 1))) (a + 3) (12, 60)) a 1 (some (a + 3))) (a + 4) (12, 30)) a 2 (some (a + 4))) (a + 5) (12, 5)) a 3 (some (a + 5))) (a + 3) = some (12, 60); simp [mS_uN, mR_uN, mI_uN, mS_uR, mR_uR, mI_uR, mS_uI, mR_uI, mI_uI, hs, hS_N1, hR_N1, hI_N1]), (by show mR (uR (uN (uR (uN (uR (uN (uR N1 a 0 (some (a + 1))) (a + 3) (12, 60)) a 1 (some (a + 3))) (a + 4) (12, 30)) a 2 (some (a + 4))) (a + 5) (12, 5)) a 3 (some (a + 5))) a 2 = some (a + 4); simp [mS_uN, mR_uN, mI_uN, mS_uR, mR_uR, mI_uR, mS_uI, mR_uI, mI_uI, hs, hS_N1, hR_N1, hI_N1]), (by show mS (uR (uN (uR (uN (uR (uN (uR N1 a 0 (some (a + 1))) (a + 3) (12, 60)) a 1 (some (a + 3))) (a + 4) (12, 30)) a 2 (some (a + 4))) (a + 5) (12, 5)) a 3 (some (a + 5))) (a + 4) = some (12, 30); simp [mS_uN, mR_uN, mI_uN, mS_uR, mR_uR, mI_uR, mS_uI, mR_uI, mI_uI, hs, hS_N1, hR_N1, hI_N1]), (by show mR (uR (uN (uR (uN (uR (uN (uR N1 a 0 (some (a + 1))) (a + 3) (12, 60)) a 1 (some (a + 3))) (a + 4) (12, 30)) a 2 (some (a + 4))) (a + 5) (12, 5)) a 3 (some (a + 5))) a 3 = some (a + 5); simp [mS_uN, mR_uN, mI_uN, mS_uR, mR_uR, mI_uR, mS_uI, mR_uI, mI_uI, hs, hS_N1, hR_N1, hI_N1]), (by show mS (uR (uN (uR (uN (uR (uN (uR N1 a 0 (some (a + 1))) (a + 3) (12, 60)) a 1 (some (a + 3))) (a + 4) (12, 30)) a 2 (some (a + 4))) (a + 5) (12, 5)) a 3 (some (a + 5))) (a + 5) = some (12, 5); simp [mS_uN, mR_uN, mI_uN, mS_uR, mR_uR, mI_uR, mS_uI, mR_uI, mI_uI, hs, hS_N1, hR_N1, hI_N1])⟩
