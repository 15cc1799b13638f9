variable {G : GG} {base : Nat}
/-- how many of the first letters are of this kind at this place -/
def cntK (K W : Nat → Int32) (kd pl : Int32) : Nat → Nat
  | 0 => 0
  | j + 1 => cntK K W kd pl j + (if K j = kd ∧ W j = pl then 1 else 0)
theorem cntK_le (K W : Nat → Int32) (kd pl : Int32) : ∀ j, cntK K W kd pl j ≤ j
  | 0 => Nat.le_refl 0
  | j + 1 => by
    have := cntK_le K W kd pl j
    simp only [cntK]
    split <;> omega
theorem cntK_congr {K W K' W' : Nat → Int32} {kd pl : Int32} : ∀ {m : Nat}, (∀ l, l < m → K l = K' l ∧ W l = W' l) → cntK K W kd pl m = cntK K' W' kd pl m
  | 0, _ => rfl
  | j + 1, h => by
    simp only [cntK]
    rw [cntK_congr (m := j) (fun l hl => h l (by omega)), (h j (by omega)).1, (h j (by omega)).2]
/-- the k-th of them; -1 -/
def nthK (K W : Nat → Int32) (kd pl k : Int32) : Nat → Int32
  | 0 => -1
  | j + 1 => if nthK K W kd pl k j = -1 then (if (K j = kd ∧ W j = pl) ∧ nI (cntK K W kd pl j) = k then nI j else -1) else nthK K W kd pl k j
theorem nthK_congr {K W K' W' : Nat → Int32} {kd pl k : Int32} : ∀ {m : Nat}, (∀ l, l < m → K l = K' l ∧ W l = W' l) → nthK K W kd pl k m = nthK K' W' kd pl k m
  | 0, _ => rfl
  | j + 1, h => by
    simp only [nthK]
    rw [nthK_congr (m := j) (fun l hl => h l (by omega)), cntK_congr (m := j) (fun l hl => h l (by omega)), (h j (by omega)).1, (h j (by omega)).2]
theorem nI_ne_m1 {j : Nat} (h : j < 2147483648) : ¬ nI j = -1 := fun e => by
  have h1 := nI_pos (n := j) (by omega)
  rw [e] at h1
  exact h1 (by decide)
theorem nthK_stay {K W : Nat → Int32} {kd pl k : Int32} {j : Nat} (hj : j < 1000) : ∀ {m : Nat}, nthK K W kd pl k (j + 1) = nI j → j + 1 ≤ m → nthK K W kd pl k m = nI j := by
  intro m h1 h2
  induction m with
  | zero => omega
  | succ m ih =>
    by_cases h : j + 1 = m + 1
    · rw [← h]; exact h1
    · have := ih (by omega)
      simp only [nthK, this]
      rw [if_neg (nI_ne_m1 (by omega))]
/-- the sum of their values -/
def sumK (K W V : Nat → Int32) (kd pl : Int32) : Nat → Int32
  | 0 => 0
  | j + 1 => sumK K W V kd pl j + (if K j = kd ∧ W j = pl then V j else 0)
theorem sumK_congr {K W V K' W' V' : Nat → Int32} {kd pl : Int32} : ∀ {m : Nat}, (∀ l, l < m → K l = K' l ∧ W l = W' l ∧ V l = V' l) → sumK K W V kd pl m = sumK K' W' V' kd pl m
  | 0, _ => rfl
  | j + 1, h => by
    simp only [sumK]
    rw [sumK_congr (m := j) (fun l hl => h l (by omega)), (h j (by omega)).1, (h j (by omega)).2.1, (h j (by omega)).2.2]
/-- a letter is late: its state, the hour since which it is in a hand, its promised hour, the time -/
abbrev lateK (k h p t : Int32) : Prop := ¬ p = -1 ∧ p < (if k = 2 then h else t)
set_option maxHeartbeats 2000000 in
set_option maxRecDepth 20000 in
theorem t_X2_isIn {M : Mm} {a l : Nat} (hL : LX2 M.1 M.2.1 a) {m : Nat} (hm : mI M a 0 = nI m) (hm30 : m ≤ 30) (hl : l < m) {kd pl : Int32} : Ct G base YX2_isIn 1 0 0 [.ref a, .int (nI l), .int kd, .int pl] M (rE (some (.int (if mI M (a + 4) l = kd ∧ mI M (a + 5) l = pl then 1 else 0))) M) := by
  refine Ct.of IX2_isIn.1 (by simp [Value.category]) (Nat.le_of_ble_eq_true rfl) (fun X hX hN => ?_)
  show J G base X 0 0 M 0 [some (.ref a), some (.int (nI l)), some (.int kd), some (.int pl)] []
  refine r_iload_n hX dX2_isIn_0 rfl ?_
  refine rn_if_lt (tgt := 36) hX dX2_isIn_1 (by decide) rfl (by omega) ?_
  refine r_iload_n hX dX2_isIn_4 rfl ?_
  refine r_aload_n hX dX2_isIn_5 rfl ?_
  refine rn_geti hX dX2_isIn_6 fl_X2_9 rfl (LX2_s hL) hm ?_
  refine rn_icmp_ge (tgt := 36) hX dX2_isIn_9 (by decide) rfl rfl (by omega) (by omega) (fun c9 => absurd hl (by omega)) (fun c9 => ?_)
  refine r_aload_n hX dX2_isIn_12 rfl ?_
  refine r_getr hX dX2_isIn_13 fl_X2_25 rfl (LX2_s hL) (LX2_r4 hL) ?_
  refine r_iload_n hX dX2_isIn_16 rfl ?_
  refine rn_iald hX dX2_isIn_17 (LX2_a4 hL) rfl (by decide) (by omega) ?_
  refine r_iload_n hX dX2_isIn_18 rfl ?_
  refine r_icmp_ne (tgt := 36) hX dX2_isIn_19 (by decide) (fun c19 => ?_) (fun c19 => ?_)
  · refine r_iconst (v := 0) hX dX2_isIn_36 (by decide) ?_
    refine r_ireturn hX rfl rfl dX2_isIn_37 (by decide) (by decide) ?_
    exact ⟨by rw [if_neg (fun h => c19 h.1)], rfl⟩
  · refine r_aload_n hX dX2_isIn_22 rfl ?_
    refine r_getr hX dX2_isIn_23 fl_X2_28 rfl (LX2_s hL) (LX2_r5 hL) ?_
    refine r_iload_n hX dX2_isIn_26 rfl ?_
    refine rn_iald hX dX2_isIn_27 (LX2_a5 hL) rfl (by decide) (by omega) ?_
    refine r_iload_n hX dX2_isIn_28 rfl ?_
    refine r_icmp_ne (tgt := 36) hX dX2_isIn_29 (by decide) (fun c29 => ?_) (fun c29 => ?_)
    · refine r_iconst (v := 0) hX dX2_isIn_36 (by decide) ?_
      refine r_ireturn hX rfl rfl dX2_isIn_37 (by decide) (by decide) ?_
      exact ⟨by rw [if_neg (fun h => c29 h.2)], rfl⟩
    · refine r_iconst (v := 1) hX dX2_isIn_32 (by decide) ?_
      refine r_goto (tgt := 37) hX dX2_isIn_33 (by decide) ?_
      refine r_ireturn hX rfl rfl dX2_isIn_37 (by decide) (by decide) ?_
      exact ⟨by rw [if_pos ⟨c19, c29⟩], rfl⟩
set_option maxHeartbeats 2000000 in
set_option maxRecDepth 20000 in
theorem t_X2_countIn {M : Mm} {a : Nat} (hL : LX2 M.1 M.2.1 a) {m : Nat} (hm : mI M a 0 = nI m) (hm30 : m ≤ 30) {kd pl : Int32} : Ct G base YX2_countIn 2 0 0 [.ref a, .int kd, .int pl] M (rE (some (.int (nI (cntK (mI M (a + 4)) (mI M (a + 5)) kd pl m)))) M) := by
  refine Ct.of IX2_countIn.1 (by simp [Value.category]) (Nat.le_of_ble_eq_true rfl) (fun X hX hN => ?_)
  show J G base X 0 0 M 0 [some (.ref a), some (.int kd), some (.int pl), none, none] []
  refine r_iconst (v := nI 0) hX dX2_countIn_0 (by decide) ?_
  refine r_istore3 hX dX2_countIn_1 rfl ?_
  refine r_iconst (v := nI 0) hX dX2_countIn_2 (by decide) ?_
  refine r_istore4 hX dX2_countIn_3 rfl ?_
  refine loop_up (P := fun j => J G base X 0 0 M 5 [some (.ref a), some (.int kd), some (.int pl), some (.int (nI (cntK (mI M (a + 4)) (mI M (a + 5)) kd pl j))), some (.int (nI j))] []) m (fun j hj ih => ?_) 0 (Nat.zero_le _)
  have hcl := cntK_le (mI M (a + 4)) (mI M (a + 5)) kd pl j
  refine r_iload hX dX2_countIn_5 rfl ?_
  refine r_aload_n hX dX2_countIn_7 rfl ?_
  refine rn_geti hX dX2_countIn_8 fl_X2_9 rfl (LX2_s hL) hm ?_
  refine rn_icmp_ge (tgt := 34) hX dX2_countIn_11 (by decide) rfl rfl (by omega) (by omega) (fun c11 => ?_) (fun c11 => ?_)
  · refine r_iload_n hX dX2_countIn_34 rfl ?_
    refine r_ireturn hX rfl rfl dX2_countIn_35 (by decide) (by decide) ?_
    obtain rfl : j = m := by omega
    exact ⟨rfl, rfl⟩
  · refine r_aload_n hX dX2_countIn_14 rfl ?_
    refine r_iload hX dX2_countIn_15 rfl ?_
    refine r_iload_n hX dX2_countIn_17 rfl ?_
    refine r_iload_n hX dX2_countIn_18 rfl ?_
    refine r_cV3 hX dX2_countIn_19 IX2_isIn ml_X2_52 rfl (LX2_s hL) rfl (t_X2_isIn hL hm hm30 (l := j) (by omega)) (by decide) (by decide) (by decide) (by decide) rfl (Nat.le_of_ble_eq_true rfl) ?_
    refine rb_if_eq (tgt := 28) hX dX2_countIn_22 (by decide) rfl (fun c22 => ?_) (fun c22 => ?_)
    · refine rn_iinc4 hX dX2_countIn_28 rfl rfl ?_
      refine r_goto (tgt := 5) hX dX2_countIn_31 (by decide) ?_
      have := ih (by omega)
      simp only [cntK] at this
      first
        | (rw [if_pos c22] at this; exact this)
        | (rw [if_neg c22] at this; exact this)
    · refine rn_iinc3 hX dX2_countIn_25 rfl rfl ?_
      refine rn_iinc4 hX dX2_countIn_28 rfl rfl ?_
      refine r_goto (tgt := 5) hX dX2_countIn_31 (by decide) ?_
      have := ih (by omega)
      simp only [cntK] at this
      first
        | (rw [if_pos c22] at this; exact this)
        | (rw [if_neg c22] at this; exact this)
set_option maxHeartbeats 2000000 in
set_option maxRecDepth 20000 in
theorem t_X2_numberIn {M : Mm} {a : Nat} (hL : LX2 M.1 M.2.1 a) {m : Nat} (hm : mI M a 0 = nI m) (hm30 : m ≤ 30) {kd pl k : Int32} : Ct G base YX2_numberIn 2 0 0 [.ref a, .int kd, .int pl, .int k] M (rE (some (.int (nthK (mI M (a + 4)) (mI M (a + 5)) kd pl k m))) M) := by
  refine Ct.of IX2_numberIn.1 (by simp [Value.category]) (Nat.le_of_ble_eq_true rfl) (fun X hX hN => ?_)
  show J G base X 0 0 M 0 [some (.ref a), some (.int kd), some (.int pl), some (.int k), none, none] []
  refine r_iconst (v := nI 0) hX dX2_numberIn_0 (by decide) ?_
  refine r_istore4 hX dX2_numberIn_1 rfl ?_
  refine r_iconst (v := nI 0) hX dX2_numberIn_3 (by decide) ?_
  refine r_istore5 hX dX2_numberIn_4 rfl ?_
  refine loop_up (P := fun j => nthK (mI M (a + 4)) (mI M (a + 5)) kd pl k j = -1 → J G base X 0 0 M 6 [some (.ref a), some (.int kd), some (.int pl), some (.int k), some (.int (nI (cntK (mI M (a + 4)) (mI M (a + 5)) kd pl j))), some (.int (nI j))] []) m (fun j hj ih hno => ?_) 0 (Nat.zero_le _) rfl
  have hcl := cntK_le (mI M (a + 4)) (mI M (a + 5)) kd pl j
  refine r_iload hX dX2_numberIn_6 rfl ?_
  refine r_aload_n hX dX2_numberIn_8 rfl ?_
  refine rn_geti hX dX2_numberIn_9 fl_X2_9 rfl (LX2_s hL) hm ?_
  refine rn_icmp_ge (tgt := 44) hX dX2_numberIn_12 (by decide) rfl rfl (by omega) (by omega) (fun c12 => ?_) (fun c12 => ?_)
  · refine r_iconst (v := (-1)) hX dX2_numberIn_44 (by decide) ?_
    refine r_ireturn hX rfl rfl dX2_numberIn_45 (by decide) (by decide) ?_
    obtain rfl : j = m := by omega
    exact ⟨by rw [hno], rfl⟩
  · refine r_aload_n hX dX2_numberIn_15 rfl ?_
    refine r_iload hX dX2_numberIn_16 rfl ?_
    refine r_iload_n hX dX2_numberIn_18 rfl ?_
    refine r_iload_n hX dX2_numberIn_19 rfl ?_
    refine r_cV3 hX dX2_numberIn_20 IX2_isIn ml_X2_52 rfl (LX2_s hL) rfl (t_X2_isIn hL hm hm30 (l := j) (by omega)) (by decide) (by decide) (by decide) (by decide) rfl (Nat.le_of_ble_eq_true rfl) ?_
    refine rb_if_eq (tgt := 38) hX dX2_numberIn_23 (by decide) rfl (fun c23 => ?_) (fun c23 => ?_)
    · refine rn_iinc5 hX dX2_numberIn_38 rfl rfl ?_
      refine r_goto (tgt := 6) hX dX2_numberIn_41 (by decide) ?_
      have h9 := ih (by omega)
      simp only [nthK, cntK] at h9
      first
        | (rw [if_pos hno, if_pos c23, if_neg (fun h => c29 h.2)] at h9; exact h9 rfl)
        | (rw [if_pos hno, if_neg (fun h => c23 h.1), if_neg c23] at h9; exact h9 rfl)
    · refine r_iload hX dX2_numberIn_26 rfl ?_
      refine r_iload_n hX dX2_numberIn_28 rfl ?_
      refine r_icmp_ne (tgt := 35) hX dX2_numberIn_29 (by decide) (fun c29 => ?_) (fun c29 => ?_)
      · refine rn_iinc4 hX dX2_numberIn_35 rfl rfl ?_
        refine rn_iinc5 hX dX2_numberIn_38 rfl rfl ?_
        refine r_goto (tgt := 6) hX dX2_numberIn_41 (by decide) ?_
        have h9 := ih (by omega)
        simp only [nthK, cntK] at h9
        first
          | (rw [if_pos hno, if_pos c23, if_neg (fun h => c29 h.2)] at h9; exact h9 rfl)
          | (rw [if_pos hno, if_neg (fun h => c23 h.1), if_neg c23] at h9; exact h9 rfl)
      · refine r_iload hX dX2_numberIn_32 rfl ?_
        refine r_ireturn hX rfl rfl dX2_numberIn_34 (by decide) (by decide) ?_
        refine ⟨?_, rfl⟩
        rw [nthK_stay (j := j) (by omega) ?_ (by omega)]
        simp only [nthK]
        rw [if_pos hno, if_pos ⟨c23, c29⟩]
set_option maxHeartbeats 2000000 in
set_option maxRecDepth 20000 in
theorem t_X2_valueIn {M : Mm} {a : Nat} (hL : LX2 M.1 M.2.1 a) {m : Nat} (hm : mI M a 0 = nI m) (hm30 : m ≤ 30) {kd pl : Int32} : Ct G base YX2_valueIn 2 0 0 [.ref a, .int kd, .int pl] M (rE (some (.int (sumK (mI M (a + 4)) (mI M (a + 5)) (mI M (a + 3)) kd pl m))) M) := by
  refine Ct.of IX2_valueIn.1 (by simp [Value.category]) (Nat.le_of_ble_eq_true rfl) (fun X hX hN => ?_)
  show J G base X 0 0 M 0 [some (.ref a), some (.int kd), some (.int pl), none, none] []
  refine r_iconst (v := 0) hX dX2_valueIn_0 (by decide) ?_
  refine r_istore3 hX dX2_valueIn_1 rfl ?_
  refine r_iconst (v := nI 0) hX dX2_valueIn_2 (by decide) ?_
  refine r_istore4 hX dX2_valueIn_3 rfl ?_
  refine loop_up (P := fun j => J G base X 0 0 M 5 [some (.ref a), some (.int kd), some (.int pl), some (.int (sumK (mI M (a + 4)) (mI M (a + 5)) (mI M (a + 3)) kd pl j)), some (.int (nI j))] []) m (fun j hj ih => ?_) 0 (Nat.zero_le _)
  refine r_iload hX dX2_valueIn_5 rfl ?_
  refine r_aload_n hX dX2_valueIn_7 rfl ?_
  refine rn_geti hX dX2_valueIn_8 fl_X2_9 rfl (LX2_s hL) hm ?_
  refine rn_icmp_ge (tgt := 41) hX dX2_valueIn_11 (by decide) rfl rfl (by omega) (by omega) (fun c11 => ?_) (fun c11 => ?_)
  · refine r_iload_n hX dX2_valueIn_41 rfl ?_
    refine r_ireturn hX rfl rfl dX2_valueIn_42 (by decide) (by decide) ?_
    obtain rfl : j = m := by omega
    exact ⟨rfl, rfl⟩
  · refine r_aload_n hX dX2_valueIn_14 rfl ?_
    refine r_iload hX dX2_valueIn_15 rfl ?_
    refine r_iload_n hX dX2_valueIn_17 rfl ?_
    refine r_iload_n hX dX2_valueIn_18 rfl ?_
    refine r_cV3 hX dX2_valueIn_19 IX2_isIn ml_X2_52 rfl (LX2_s hL) rfl (t_X2_isIn hL hm hm30 (l := j) (by omega)) (by decide) (by decide) (by decide) (by decide) rfl (Nat.le_of_ble_eq_true rfl) ?_
    refine rb_if_eq (tgt := 35) hX dX2_valueIn_22 (by decide) rfl (fun c22 => ?_) (fun c22 => ?_)
    · refine rn_iinc4 hX dX2_valueIn_35 rfl rfl ?_
      refine r_goto (tgt := 5) hX dX2_valueIn_38 (by decide) ?_
      have := ih (by omega)
      simp only [sumK] at this
      first
        | (rw [if_pos c22] at this; exact this)
        | (rw [if_neg c22, Int32.add_zero] at this; exact this)
    · refine r_iload_n hX dX2_valueIn_25 rfl ?_
      refine r_aload_n hX dX2_valueIn_26 rfl ?_
      refine r_getr hX dX2_valueIn_27 fl_X2_22 rfl (LX2_s hL) (LX2_r3 hL) ?_
      refine r_iload hX dX2_valueIn_30 rfl ?_
      refine rn_iald hX dX2_valueIn_32 (LX2_a3 hL) rfl (by decide) (by omega) ?_
      refine r_iadd hX dX2_valueIn_33 ?_
      refine r_istore3 hX dX2_valueIn_34 rfl ?_
      refine rn_iinc4 hX dX2_valueIn_35 rfl rfl ?_
      refine r_goto (tgt := 5) hX dX2_valueIn_38 (by decide) ?_
      have := ih (by omega)
      simp only [sumK] at this
      first
        | (rw [if_pos c22] at this; exact this)
        | (rw [if_neg c22, Int32.add_zero] at this; exact this)
/-- a letter more, the m-th -/
def addL (M : Mm) (a m : Nat) (fr to vl hr pr : Int32) : Mm := uI (uI (uI (uI (uI (uI (uI (uI (uI (uI (uI M (a + 1) m fr) (a + 2) m to) (a + 3) m vl) (a + 4) m 0) (a + 5) m fr) (a + 6) m hr) (a + 7) m pr) (a + 8) m (-1)) (a + 9) m 0) (a + 10) m 0) a 0 (nI (m + 1))
set_option maxHeartbeats 2000000 in
set_option maxRecDepth 20000 in
theorem t_X2_add {M : Mm} {a : Nat} (hL : LX2 M.1 M.2.1 a) {m : Nat} (hm : mI M a 0 = nI m) (hm30 : m < 30) {fr to vl hr pr : Int32} : Ct G base YX2_add 1 0 0 [.ref a, .int fr, .int to, .int vl, .int hr, .int pr] M (rE (some (.int (nI m))) (addL M a m fr to vl hr pr)) := by
  refine Ct.of IX2_add.1 (by simp [Value.category]) (Nat.le_of_ble_eq_true rfl) (fun X hX hN => ?_)
  show J G base X 0 0 M 0 [some (.ref a), some (.int fr), some (.int to), some (.int vl), some (.int hr), some (.int pr), none] []
  refine r_aload_n hX dX2_add_0 rfl ?_
  refine rn_geti hX dX2_add_1 fl_X2_9 rfl (LX2_s hL) hm ?_
  refine r_bipush (v := nI 30) hX dX2_add_4 (by decide) ?_
  refine rn_icmp_lt (tgt := 11) hX dX2_add_6 (by decide) rfl rfl (by omega) (by omega) (fun c6 => ?_) (fun c6 => absurd hm30 (by omega))
  refine r_aload_n hX dX2_add_11 rfl ?_
  refine rn_geti hX dX2_add_12 fl_X2_9 rfl (LX2_s hL) hm ?_
  refine r_istore6 hX dX2_add_15 rfl ?_
  refine r_aload_n hX dX2_add_17 rfl ?_
  refine r_getr hX dX2_add_18 fl_X2_15 rfl (LX2_s hL) (LX2_r1 hL) ?_
  refine r_iload hX dX2_add_21 rfl ?_
  refine r_iload_n hX dX2_add_23 rfl ?_
  refine rn_iast hX dX2_add_24 (LX2_a1 hL) rfl (by decide) (by omega) ?_
  refine r_aload_n hX dX2_add_25 rfl ?_
  refine r_getr hX dX2_add_26 fl_X2_19 rfl (LX2_s hL) (LX2_r2 hL) ?_
  refine r_iload hX dX2_add_29 rfl ?_
  refine r_iload_n hX dX2_add_31 rfl ?_
  refine rn_iast hX dX2_add_32 (LX2_a2 hL) rfl (by decide) (by omega) ?_
  refine r_aload_n hX dX2_add_33 rfl ?_
  refine r_getr hX dX2_add_34 fl_X2_22 rfl (LX2_s hL) (LX2_r3 hL) ?_
  refine r_iload hX dX2_add_37 rfl ?_
  refine r_iload_n hX dX2_add_39 rfl ?_
  refine rn_iast hX dX2_add_40 (LX2_a3 hL) rfl (by decide) (by omega) ?_
  refine r_aload_n hX dX2_add_41 rfl ?_
  refine r_getr hX dX2_add_42 fl_X2_25 rfl (LX2_s hL) (LX2_r4 hL) ?_
  refine r_iload hX dX2_add_45 rfl ?_
  refine r_iconst (v := 0) hX dX2_add_47 (by decide) ?_
  refine rn_iast hX dX2_add_48 (LX2_a4 hL) rfl (by decide) (by omega) ?_
  refine r_aload_n hX dX2_add_49 rfl ?_
  refine r_getr hX dX2_add_50 fl_X2_28 rfl (LX2_s hL) (LX2_r5 hL) ?_
  refine r_iload hX dX2_add_53 rfl ?_
  refine r_iload_n hX dX2_add_55 rfl ?_
  refine rn_iast hX dX2_add_56 (LX2_a5 hL) rfl (by decide) (by omega) ?_
  refine r_aload_n hX dX2_add_57 rfl ?_
  refine r_getr hX dX2_add_58 fl_X2_31 rfl (LX2_s hL) (LX2_r6 hL) ?_
  refine r_iload hX dX2_add_61 rfl ?_
  refine r_iload hX dX2_add_63 rfl ?_
  refine rn_iast hX dX2_add_65 (LX2_a6 hL) rfl (by decide) (by omega) ?_
  refine r_aload_n hX dX2_add_66 rfl ?_
  refine r_getr hX dX2_add_67 fl_X2_34 rfl (LX2_s hL) (LX2_r7 hL) ?_
  refine r_iload hX dX2_add_70 rfl ?_
  refine r_iload hX dX2_add_72 rfl ?_
  refine rn_iast hX dX2_add_74 (LX2_a7 hL) rfl (by decide) (by omega) ?_
  refine r_aload_n hX dX2_add_75 rfl ?_
  refine r_getr hX dX2_add_76 fl_X2_37 rfl (LX2_s hL) (LX2_r8 hL) ?_
  refine r_iload hX dX2_add_79 rfl ?_
  refine r_iconst (v := (-1)) hX dX2_add_81 (by decide) ?_
  refine rn_iast hX dX2_add_82 (LX2_a8 hL) rfl (by decide) (by omega) ?_
  refine r_aload_n hX dX2_add_83 rfl ?_
  refine r_getr hX dX2_add_84 fl_X2_40 rfl (LX2_s hL) (LX2_r9 hL) ?_
  refine r_iload hX dX2_add_87 rfl ?_
  refine r_iconst (v := 0) hX dX2_add_89 (by decide) ?_
  refine rn_iast hX dX2_add_90 (LX2_a9 hL) rfl (by decide) (by omega) ?_
  refine r_aload_n hX dX2_add_91 rfl ?_
  refine r_getr hX dX2_add_92 fl_X2_43 rfl (LX2_s hL) (LX2_r10 hL) ?_
  refine r_iload hX dX2_add_95 rfl ?_
  refine r_iconst (v := 0) hX dX2_add_97 (by decide) ?_
  refine rn_iast hX dX2_add_98 (LX2_a10 hL) rfl (by decide) (by omega) ?_
  refine r_aload_n hX dX2_add_99 rfl ?_
  refine r_dup hX dX2_add_100 rfl ?_
  refine rn_geti (v := nI m) hX dX2_add_101 fl_X2_9 rfl (LX2_s hL) (by simp [mI_uI, hm]) ?_
  refine r_iconst (v := nI 1) hX dX2_add_104 (by decide) ?_
  refine rn_iadd hX dX2_add_105 rfl rfl ?_
  refine r_puti hX dX2_add_106 fl_X2_9 rfl rfl (LX2_s hL) ?_
  refine r_iload hX dX2_add_109 rfl ?_
  refine r_ireturn hX rfl rfl dX2_add_111 (by decide) (by decide) ?_
  exact ⟨rfl, rfl⟩
set_option maxHeartbeats 2000000 in
set_option maxRecDepth 20000 in
theorem t_X2_property0 {M : Mm} {a l : Nat} (hL : LX2 M.1 M.2.1 a) {m : Nat} (hm : mI M a 0 = nI m) (hm30 : m ≤ 30) (hl : l < m) : Ct G base YX2_property 1 0 0 [.ref a, .int (nI l), .int (nI 0)] M (rE (some (.int (mI M (a + 1) l))) M) := by
  refine Ct.of IX2_property.1 (by simp [Value.category]) (Nat.le_of_ble_eq_true rfl) (fun X hX hN => ?_)
  show J G base X 0 0 M 0 [some (.ref a), some (.int (nI l)), some (.int (nI 0))] []
  refine r_iload_n hX dX2_property_0 rfl ?_
  refine rn_if_lt (tgt := 12) hX dX2_property_1 (by decide) rfl (by omega) ?_
  refine r_iload_n hX dX2_property_4 rfl ?_
  refine r_aload_n hX dX2_property_5 rfl ?_
  refine rn_geti hX dX2_property_6 fl_X2_9 rfl (LX2_s hL) hm ?_
  refine rn_icmp_lt (tgt := 14) hX dX2_property_9 (by decide) rfl rfl (by omega) (by omega) (fun c9 => ?_) (fun c9 => absurd hl (by omega))
  refine r_iload_n hX dX2_property_14 rfl ?_
  refine r_tabIn (off := 45) (tgt := 60) hX dX2_property_15 (by decide) (by decide) (by decide) (by decide) ?_
  refine r_aload_n hX dX2_property_60 rfl ?_
  refine r_getr hX dX2_property_61 fl_X2_15 rfl (LX2_s hL) (LX2_r1 hL) ?_
  refine r_iload_n hX dX2_property_64 rfl ?_
  refine rn_iald hX dX2_property_65 (LX2_a1 hL) rfl (by decide) (by omega) ?_
  refine r_ireturn hX rfl rfl dX2_property_66 (by decide) (by decide) ?_
  exact ⟨rfl, rfl⟩
set_option maxHeartbeats 2000000 in
set_option maxRecDepth 20000 in
theorem t_X2_property1 {M : Mm} {a l : Nat} (hL : LX2 M.1 M.2.1 a) {m : Nat} (hm : mI M a 0 = nI m) (hm30 : m ≤ 30) (hl : l < m) : Ct G base YX2_property 1 0 0 [.ref a, .int (nI l), .int (nI 1)] M (rE (some (.int (mI M (a + 2) l))) M) := by
  refine Ct.of IX2_property.1 (by simp [Value.category]) (Nat.le_of_ble_eq_true rfl) (fun X hX hN => ?_)
  show J G base X 0 0 M 0 [some (.ref a), some (.int (nI l)), some (.int (nI 1))] []
  refine r_iload_n hX dX2_property_0 rfl ?_
  refine rn_if_lt (tgt := 12) hX dX2_property_1 (by decide) rfl (by omega) ?_
  refine r_iload_n hX dX2_property_4 rfl ?_
  refine r_aload_n hX dX2_property_5 rfl ?_
  refine rn_geti hX dX2_property_6 fl_X2_9 rfl (LX2_s hL) hm ?_
  refine rn_icmp_lt (tgt := 14) hX dX2_property_9 (by decide) rfl rfl (by omega) (by omega) (fun c9 => ?_) (fun c9 => absurd hl (by omega))
  refine r_iload_n hX dX2_property_14 rfl ?_
  refine r_tabIn (off := 52) (tgt := 67) hX dX2_property_15 (by decide) (by decide) (by decide) (by decide) ?_
  refine r_aload_n hX dX2_property_67 rfl ?_
  refine r_getr hX dX2_property_68 fl_X2_19 rfl (LX2_s hL) (LX2_r2 hL) ?_
  refine r_iload_n hX dX2_property_71 rfl ?_
  refine rn_iald hX dX2_property_72 (LX2_a2 hL) rfl (by decide) (by omega) ?_
  refine r_ireturn hX rfl rfl dX2_property_73 (by decide) (by decide) ?_
  exact ⟨rfl, rfl⟩
set_option maxHeartbeats 2000000 in
set_option maxRecDepth 20000 in
theorem t_X2_property2 {M : Mm} {a l : Nat} (hL : LX2 M.1 M.2.1 a) {m : Nat} (hm : mI M a 0 = nI m) (hm30 : m ≤ 30) (hl : l < m) : Ct G base YX2_property 1 0 0 [.ref a, .int (nI l), .int (nI 2)] M (rE (some (.int (mI M (a + 3) l))) M) := by
  refine Ct.of IX2_property.1 (by simp [Value.category]) (Nat.le_of_ble_eq_true rfl) (fun X hX hN => ?_)
  show J G base X 0 0 M 0 [some (.ref a), some (.int (nI l)), some (.int (nI 2))] []
  refine r_iload_n hX dX2_property_0 rfl ?_
  refine rn_if_lt (tgt := 12) hX dX2_property_1 (by decide) rfl (by omega) ?_
  refine r_iload_n hX dX2_property_4 rfl ?_
  refine r_aload_n hX dX2_property_5 rfl ?_
  refine rn_geti hX dX2_property_6 fl_X2_9 rfl (LX2_s hL) hm ?_
  refine rn_icmp_lt (tgt := 14) hX dX2_property_9 (by decide) rfl rfl (by omega) (by omega) (fun c9 => ?_) (fun c9 => absurd hl (by omega))
  refine r_iload_n hX dX2_property_14 rfl ?_
  refine r_tabIn (off := 59) (tgt := 74) hX dX2_property_15 (by decide) (by decide) (by decide) (by decide) ?_
  refine r_aload_n hX dX2_property_74 rfl ?_
  refine r_getr hX dX2_property_75 fl_X2_22 rfl (LX2_s hL) (LX2_r3 hL) ?_
  refine r_iload_n hX dX2_property_78 rfl ?_
  refine rn_iald hX dX2_property_79 (LX2_a3 hL) rfl (by decide) (by omega) ?_
  refine r_ireturn hX rfl rfl dX2_property_80 (by decide) (by decide) ?_
  exact ⟨rfl, rfl⟩
set_option maxHeartbeats 2000000 in
set_option maxRecDepth 20000 in
theorem t_X2_property3 {M : Mm} {a l : Nat} (hL : LX2 M.1 M.2.1 a) {m : Nat} (hm : mI M a 0 = nI m) (hm30 : m ≤ 30) (hl : l < m) : Ct G base YX2_property 1 0 0 [.ref a, .int (nI l), .int (nI 3)] M (rE (some (.int (mI M (a + 4) l))) M) := by
  refine Ct.of IX2_property.1 (by simp [Value.category]) (Nat.le_of_ble_eq_true rfl) (fun X hX hN => ?_)
  show J G base X 0 0 M 0 [some (.ref a), some (.int (nI l)), some (.int (nI 3))] []
  refine r_iload_n hX dX2_property_0 rfl ?_
  refine rn_if_lt (tgt := 12) hX dX2_property_1 (by decide) rfl (by omega) ?_
  refine r_iload_n hX dX2_property_4 rfl ?_
  refine r_aload_n hX dX2_property_5 rfl ?_
  refine rn_geti hX dX2_property_6 fl_X2_9 rfl (LX2_s hL) hm ?_
  refine rn_icmp_lt (tgt := 14) hX dX2_property_9 (by decide) rfl rfl (by omega) (by omega) (fun c9 => ?_) (fun c9 => absurd hl (by omega))
  refine r_iload_n hX dX2_property_14 rfl ?_
  refine r_tabIn (off := 66) (tgt := 81) hX dX2_property_15 (by decide) (by decide) (by decide) (by decide) ?_
  refine r_aload_n hX dX2_property_81 rfl ?_
  refine r_getr hX dX2_property_82 fl_X2_25 rfl (LX2_s hL) (LX2_r4 hL) ?_
  refine r_iload_n hX dX2_property_85 rfl ?_
  refine rn_iald hX dX2_property_86 (LX2_a4 hL) rfl (by decide) (by omega) ?_
  refine r_ireturn hX rfl rfl dX2_property_87 (by decide) (by decide) ?_
  exact ⟨rfl, rfl⟩
set_option maxHeartbeats 2000000 in
set_option maxRecDepth 20000 in
theorem t_X2_property4 {M : Mm} {a l : Nat} (hL : LX2 M.1 M.2.1 a) {m : Nat} (hm : mI M a 0 = nI m) (hm30 : m ≤ 30) (hl : l < m) : Ct G base YX2_property 1 0 0 [.ref a, .int (nI l), .int (nI 4)] M (rE (some (.int (mI M (a + 5) l))) M) := by
  refine Ct.of IX2_property.1 (by simp [Value.category]) (Nat.le_of_ble_eq_true rfl) (fun X hX hN => ?_)
  show J G base X 0 0 M 0 [some (.ref a), some (.int (nI l)), some (.int (nI 4))] []
  refine r_iload_n hX dX2_property_0 rfl ?_
  refine rn_if_lt (tgt := 12) hX dX2_property_1 (by decide) rfl (by omega) ?_
  refine r_iload_n hX dX2_property_4 rfl ?_
  refine r_aload_n hX dX2_property_5 rfl ?_
  refine rn_geti hX dX2_property_6 fl_X2_9 rfl (LX2_s hL) hm ?_
  refine rn_icmp_lt (tgt := 14) hX dX2_property_9 (by decide) rfl rfl (by omega) (by omega) (fun c9 => ?_) (fun c9 => absurd hl (by omega))
  refine r_iload_n hX dX2_property_14 rfl ?_
  refine r_tabIn (off := 73) (tgt := 88) hX dX2_property_15 (by decide) (by decide) (by decide) (by decide) ?_
  refine r_aload_n hX dX2_property_88 rfl ?_
  refine r_getr hX dX2_property_89 fl_X2_28 rfl (LX2_s hL) (LX2_r5 hL) ?_
  refine r_iload_n hX dX2_property_92 rfl ?_
  refine rn_iald hX dX2_property_93 (LX2_a5 hL) rfl (by decide) (by omega) ?_
  refine r_ireturn hX rfl rfl dX2_property_94 (by decide) (by decide) ?_
  exact ⟨rfl, rfl⟩
set_option maxHeartbeats 2000000 in
set_option maxRecDepth 20000 in
theorem t_X2_property5 {M : Mm} {a l : Nat} (hL : LX2 M.1 M.2.1 a) {m : Nat} (hm : mI M a 0 = nI m) (hm30 : m ≤ 30) (hl : l < m) : Ct G base YX2_property 1 0 0 [.ref a, .int (nI l), .int (nI 5)] M (rE (some (.int (mI M (a + 6) l))) M) := by
  refine Ct.of IX2_property.1 (by simp [Value.category]) (Nat.le_of_ble_eq_true rfl) (fun X hX hN => ?_)
  show J G base X 0 0 M 0 [some (.ref a), some (.int (nI l)), some (.int (nI 5))] []
  refine r_iload_n hX dX2_property_0 rfl ?_
  refine rn_if_lt (tgt := 12) hX dX2_property_1 (by decide) rfl (by omega) ?_
  refine r_iload_n hX dX2_property_4 rfl ?_
  refine r_aload_n hX dX2_property_5 rfl ?_
  refine rn_geti hX dX2_property_6 fl_X2_9 rfl (LX2_s hL) hm ?_
  refine rn_icmp_lt (tgt := 14) hX dX2_property_9 (by decide) rfl rfl (by omega) (by omega) (fun c9 => ?_) (fun c9 => absurd hl (by omega))
  refine r_iload_n hX dX2_property_14 rfl ?_
  refine r_tabIn (off := 80) (tgt := 95) hX dX2_property_15 (by decide) (by decide) (by decide) (by decide) ?_
  refine r_aload_n hX dX2_property_95 rfl ?_
  refine r_getr hX dX2_property_96 fl_X2_31 rfl (LX2_s hL) (LX2_r6 hL) ?_
  refine r_iload_n hX dX2_property_99 rfl ?_
  refine rn_iald hX dX2_property_100 (LX2_a6 hL) rfl (by decide) (by omega) ?_
  refine r_ireturn hX rfl rfl dX2_property_101 (by decide) (by decide) ?_
  exact ⟨rfl, rfl⟩
set_option maxHeartbeats 2000000 in
set_option maxRecDepth 20000 in
theorem t_X2_property6 {M : Mm} {a l : Nat} (hL : LX2 M.1 M.2.1 a) {m : Nat} (hm : mI M a 0 = nI m) (hm30 : m ≤ 30) (hl : l < m) : Ct G base YX2_property 1 0 0 [.ref a, .int (nI l), .int (nI 6)] M (rE (some (.int (mI M (a + 7) l))) M) := by
  refine Ct.of IX2_property.1 (by simp [Value.category]) (Nat.le_of_ble_eq_true rfl) (fun X hX hN => ?_)
  show J G base X 0 0 M 0 [some (.ref a), some (.int (nI l)), some (.int (nI 6))] []
  refine r_iload_n hX dX2_property_0 rfl ?_
  refine rn_if_lt (tgt := 12) hX dX2_property_1 (by decide) rfl (by omega) ?_
  refine r_iload_n hX dX2_property_4 rfl ?_
  refine r_aload_n hX dX2_property_5 rfl ?_
  refine rn_geti hX dX2_property_6 fl_X2_9 rfl (LX2_s hL) hm ?_
  refine rn_icmp_lt (tgt := 14) hX dX2_property_9 (by decide) rfl rfl (by omega) (by omega) (fun c9 => ?_) (fun c9 => absurd hl (by omega))
  refine r_iload_n hX dX2_property_14 rfl ?_
  refine r_tabIn (off := 87) (tgt := 102) hX dX2_property_15 (by decide) (by decide) (by decide) (by decide) ?_
  refine r_aload_n hX dX2_property_102 rfl ?_
  refine r_getr hX dX2_property_103 fl_X2_34 rfl (LX2_s hL) (LX2_r7 hL) ?_
  refine r_iload_n hX dX2_property_106 rfl ?_
  refine rn_iald hX dX2_property_107 (LX2_a7 hL) rfl (by decide) (by omega) ?_
  refine r_ireturn hX rfl rfl dX2_property_108 (by decide) (by decide) ?_
  exact ⟨rfl, rfl⟩
set_option maxHeartbeats 2000000 in
set_option maxRecDepth 20000 in
theorem t_X2_property7 {M : Mm} {a l : Nat} (hL : LX2 M.1 M.2.1 a) {m : Nat} (hm : mI M a 0 = nI m) (hm30 : m ≤ 30) (hl : l < m) : Ct G base YX2_property 1 0 0 [.ref a, .int (nI l), .int (nI 7)] M (rE (some (.int (mI M (a + 8) l))) M) := by
  refine Ct.of IX2_property.1 (by simp [Value.category]) (Nat.le_of_ble_eq_true rfl) (fun X hX hN => ?_)
  show J G base X 0 0 M 0 [some (.ref a), some (.int (nI l)), some (.int (nI 7))] []
  refine r_iload_n hX dX2_property_0 rfl ?_
  refine rn_if_lt (tgt := 12) hX dX2_property_1 (by decide) rfl (by omega) ?_
  refine r_iload_n hX dX2_property_4 rfl ?_
  refine r_aload_n hX dX2_property_5 rfl ?_
  refine rn_geti hX dX2_property_6 fl_X2_9 rfl (LX2_s hL) hm ?_
  refine rn_icmp_lt (tgt := 14) hX dX2_property_9 (by decide) rfl rfl (by omega) (by omega) (fun c9 => ?_) (fun c9 => absurd hl (by omega))
  refine r_iload_n hX dX2_property_14 rfl ?_
  refine r_tabIn (off := 94) (tgt := 109) hX dX2_property_15 (by decide) (by decide) (by decide) (by decide) ?_
  refine r_aload_n hX dX2_property_109 rfl ?_
  refine r_getr hX dX2_property_110 fl_X2_37 rfl (LX2_s hL) (LX2_r8 hL) ?_
  refine r_iload_n hX dX2_property_113 rfl ?_
  refine rn_iald hX dX2_property_114 (LX2_a8 hL) rfl (by decide) (by omega) ?_
  refine r_ireturn hX rfl rfl dX2_property_115 (by decide) (by decide) ?_
  exact ⟨rfl, rfl⟩
set_option maxHeartbeats 2000000 in
set_option maxRecDepth 20000 in
theorem t_X2_property8 {M : Mm} {a l : Nat} (hL : LX2 M.1 M.2.1 a) {m : Nat} (hm : mI M a 0 = nI m) (hm30 : m ≤ 30) (hl : l < m) : Ct G base YX2_property 1 0 0 [.ref a, .int (nI l), .int (nI 8)] M (rE (some (.int (mI M (a + 9) l))) M) := by
  refine Ct.of IX2_property.1 (by simp [Value.category]) (Nat.le_of_ble_eq_true rfl) (fun X hX hN => ?_)
  show J G base X 0 0 M 0 [some (.ref a), some (.int (nI l)), some (.int (nI 8))] []
  refine r_iload_n hX dX2_property_0 rfl ?_
  refine rn_if_lt (tgt := 12) hX dX2_property_1 (by decide) rfl (by omega) ?_
  refine r_iload_n hX dX2_property_4 rfl ?_
  refine r_aload_n hX dX2_property_5 rfl ?_
  refine rn_geti hX dX2_property_6 fl_X2_9 rfl (LX2_s hL) hm ?_
  refine rn_icmp_lt (tgt := 14) hX dX2_property_9 (by decide) rfl rfl (by omega) (by omega) (fun c9 => ?_) (fun c9 => absurd hl (by omega))
  refine r_iload_n hX dX2_property_14 rfl ?_
  refine r_tabOut (tgt := 116) hX dX2_property_15 (by decide) (by decide) ?_
  refine r_aload_n hX dX2_property_116 rfl ?_
  refine r_getr hX dX2_property_117 fl_X2_40 rfl (LX2_s hL) (LX2_r9 hL) ?_
  refine r_iload_n hX dX2_property_120 rfl ?_
  refine rn_iald hX dX2_property_121 (LX2_a9 hL) rfl (by decide) (by omega) ?_
  refine r_ireturn hX rfl rfl dX2_property_122 (by decide) (by decide) ?_
  exact ⟨rfl, rfl⟩
theorem t_X2_property {M : Mm} {a l : Nat} (hL : LX2 M.1 M.2.1 a) {m : Nat} (hm : mI M a 0 = nI m) (hm30 : m ≤ 30) (hl : l < m) {w : Nat} (hw : w ≤ 8) : Ct G base YX2_property 1 0 0 [.ref a, .int (nI l), .int (nI w)] M (rE (some (.int (mI M (a + (w + 1)) l))) M) := by
  rcases (show w = 0 ∨ w = 1 ∨ w = 2 ∨ w = 3 ∨ w = 4 ∨ w = 5 ∨ w = 6 ∨ w = 7 ∨ w = 8 by omega) with rfl | rfl | rfl | rfl | rfl | rfl | rfl | rfl | rfl
  · exact t_X2_property0 hL hm hm30 hl
  · exact t_X2_property1 hL hm hm30 hl
  · exact t_X2_property2 hL hm hm30 hl
  · exact t_X2_property3 hL hm hm30 hl
  · exact t_X2_property4 hL hm hm30 hl
  · exact t_X2_property5 hL hm hm30 hl
  · exact t_X2_property6 hL hm hm30 hl
  · exact t_X2_property7 hL hm hm30 hl
  · exact t_X2_property8 hL hm hm30 hl
set_option maxHeartbeats 2000000 in
set_option maxRecDepth 20000 in
theorem t_X2_lateAt {M : Mm} {a l : Nat} (hL : LX2 M.1 M.2.1 a) {m : Nat} (hm : mI M a 0 = nI m) (hm30 : m ≤ 30) (hl : l < m) {t : Int32} : Ct G base YX2_lateAt 1 0 0 [.ref a, .int (nI l), .int t] M (rE (some (.int (if lateK (mI M (a + 4) l) (mI M (a + 8) l) (mI M (a + 7) l) t then 1 else 0))) M) := by
  refine Ct.of IX2_lateAt.1 (by simp [Value.category]) (Nat.le_of_ble_eq_true rfl) (fun X hX hN => ?_)
  show J G base X 0 0 M 0 [some (.ref a), some (.int (nI l)), some (.int t)] []
  refine r_iload_n hX dX2_lateAt_0 rfl ?_
  refine rn_if_lt (tgt := 22) hX dX2_lateAt_1 (by decide) rfl (by omega) ?_
  refine r_iload_n hX dX2_lateAt_4 rfl ?_
  refine r_aload_n hX dX2_lateAt_5 rfl ?_
  refine rn_geti hX dX2_lateAt_6 fl_X2_9 rfl (LX2_s hL) hm ?_
  refine rn_icmp_ge (tgt := 22) hX dX2_lateAt_9 (by decide) rfl rfl (by omega) (by omega) (fun c9 => absurd hl (by omega)) (fun c9 => ?_)
  refine r_aload_n hX dX2_lateAt_12 rfl ?_
  refine r_getr hX dX2_lateAt_13 fl_X2_34 rfl (LX2_s hL) (LX2_r7 hL) ?_
  refine r_iload_n hX dX2_lateAt_16 rfl ?_
  refine rn_iald hX dX2_lateAt_17 (LX2_a7 hL) rfl (by decide) (by omega) ?_
  refine r_iconst (v := (-1)) hX dX2_lateAt_18 (by decide) ?_
  refine r_icmp_ne (tgt := 24) hX dX2_lateAt_19 (by decide) (fun c19 => ?_) (fun c19 => ?_)
  · refine r_aload_n hX dX2_lateAt_24 rfl ?_
    refine r_getr hX dX2_lateAt_25 fl_X2_25 rfl (LX2_s hL) (LX2_r4 hL) ?_
    refine r_iload_n hX dX2_lateAt_28 rfl ?_
    refine rn_iald hX dX2_lateAt_29 (LX2_a4 hL) rfl (by decide) (by omega) ?_
    refine r_iconst (v := 2) hX dX2_lateAt_30 (by decide) ?_
    refine r_icmp_ne (tgt := 43) hX dX2_lateAt_31 (by decide) (fun c31 => ?_) (fun c31 => ?_)
    · refine r_iload_n hX dX2_lateAt_43 rfl ?_
      refine r_aload_n hX dX2_lateAt_44 rfl ?_
      refine r_getr hX dX2_lateAt_45 fl_X2_34 rfl (LX2_s hL) (LX2_r7 hL) ?_
      refine r_iload_n hX dX2_lateAt_48 rfl ?_
      refine rn_iald hX dX2_lateAt_49 (LX2_a7 hL) rfl (by decide) (by omega) ?_
      refine r_icmp_le (tgt := 57) hX dX2_lateAt_50 (by decide) (fun c50 => ?_) (fun c50 => ?_)
      · refine r_iconst (v := 0) hX dX2_lateAt_57 (by decide) ?_
        refine r_ireturn hX rfl rfl dX2_lateAt_58 (by decide) (by decide) ?_
        exact ⟨by rw [if_neg (fun h => absurd h.2 (by rw [if_neg c31]; exact i_nlt.mpr c50))], rfl⟩
      · refine r_iconst (v := 1) hX dX2_lateAt_53 (by decide) ?_
        refine r_goto (tgt := 58) hX dX2_lateAt_54 (by decide) ?_
        refine r_ireturn hX rfl rfl dX2_lateAt_58 (by decide) (by decide) ?_
        exact ⟨by rw [if_pos ⟨c19, by rw [if_neg c31]; exact i_nle.mp c50⟩], rfl⟩
    · refine r_aload_n hX dX2_lateAt_34 rfl ?_
      refine r_getr hX dX2_lateAt_35 fl_X2_37 rfl (LX2_s hL) (LX2_r8 hL) ?_
      refine r_iload_n hX dX2_lateAt_38 rfl ?_
      refine rn_iald hX dX2_lateAt_39 (LX2_a8 hL) rfl (by decide) (by omega) ?_
      refine r_goto (tgt := 44) hX dX2_lateAt_40 (by decide) ?_
      refine r_aload_n hX dX2_lateAt_44 rfl ?_
      refine r_getr hX dX2_lateAt_45 fl_X2_34 rfl (LX2_s hL) (LX2_r7 hL) ?_
      refine r_iload_n hX dX2_lateAt_48 rfl ?_
      refine rn_iald hX dX2_lateAt_49 (LX2_a7 hL) rfl (by decide) (by omega) ?_
      refine r_icmp_le (tgt := 57) hX dX2_lateAt_50 (by decide) (fun c50 => ?_) (fun c50 => ?_)
      · refine r_iconst (v := 0) hX dX2_lateAt_57 (by decide) ?_
        refine r_ireturn hX rfl rfl dX2_lateAt_58 (by decide) (by decide) ?_
        exact ⟨by rw [if_neg (fun h => absurd h.2 (by rw [if_pos c31]; exact i_nlt.mpr c50))], rfl⟩
      · refine r_iconst (v := 1) hX dX2_lateAt_53 (by decide) ?_
        refine r_goto (tgt := 58) hX dX2_lateAt_54 (by decide) ?_
        refine r_ireturn hX rfl rfl dX2_lateAt_58 (by decide) (by decide) ?_
        exact ⟨by rw [if_pos ⟨c19, by rw [if_pos c31]; exact i_nle.mp c50⟩], rfl⟩
  · refine r_iconst (v := 0) hX dX2_lateAt_22 (by decide) ?_
    refine r_ireturn hX rfl rfl dX2_lateAt_23 (by decide) (by decide) ?_
    exact ⟨by rw [if_neg (fun h => h.1 c19)], rfl⟩
def handL (M : Mm) (a l : Nat) (hr : Int32) : Mm := uI (uI (uI M (a + 4) l 2) (a + 5) l (mI M (a + 2) l)) (a + 8) l hr
def offL (M : Mm) (a l : Nat) (v : Int32) : Mm := uI (uI M (a + 4) l 0) (a + 5) l v
def sackL (M : Mm) (a l : Nat) (s : Int32) (c : Int32) : Mm := uI (uI (uI M (a + 4) l 1) (a + 5) l s) (a + 10) l (mI M (a + 10) l ||| bitI c)
set_option maxHeartbeats 2000000 in
set_option maxRecDepth 20000 in
theorem t_X2_toHand {M : Mm} {a l : Nat} (hL : LX2 M.1 M.2.1 a) {m : Nat} (hm : mI M a 0 = nI m) (hm30 : m ≤ 30) (hl : l < m) {hr : Int32} : Ct G base YX2_toHand 1 0 0 [.ref a, .int (nI l), .int hr] M (rE none (handL M a l hr)) := by
  refine Ct.of IX2_toHand.1 (by simp [Value.category]) (Nat.le_of_ble_eq_true rfl) (fun X hX hN => ?_)
  show J G base X 0 0 M 0 [some (.ref a), some (.int (nI l)), some (.int hr)] []
  refine r_iload_n hX dX2_toHand_0 rfl ?_
  refine rn_if_lt (tgt := 38) hX dX2_toHand_1 (by decide) rfl (by omega) ?_
  refine r_iload_n hX dX2_toHand_4 rfl ?_
  refine r_aload_n hX dX2_toHand_5 rfl ?_
  refine rn_geti hX dX2_toHand_6 fl_X2_9 rfl (LX2_s hL) hm ?_
  refine rn_icmp_ge (tgt := 38) hX dX2_toHand_9 (by decide) rfl rfl (by omega) (by omega) (fun c9 => absurd hl (by omega)) (fun c9 => ?_)
  refine r_aload_n hX dX2_toHand_12 rfl ?_
  refine r_getr hX dX2_toHand_13 fl_X2_25 rfl (LX2_s hL) (LX2_r4 hL) ?_
  refine r_iload_n hX dX2_toHand_16 rfl ?_
  refine r_iconst (v := 2) hX dX2_toHand_17 (by decide) ?_
  refine rn_iast hX dX2_toHand_18 (LX2_a4 hL) rfl (by decide) (by omega) ?_
  refine r_aload_n hX dX2_toHand_19 rfl ?_
  refine r_getr hX dX2_toHand_20 fl_X2_28 rfl (LX2_s hL) (LX2_r5 hL) ?_
  refine r_iload_n hX dX2_toHand_23 rfl ?_
  refine r_aload_n hX dX2_toHand_24 rfl ?_
  refine r_getr hX dX2_toHand_25 fl_X2_19 rfl (LX2_s hL) (LX2_r2 hL) ?_
  refine r_iload_n hX dX2_toHand_28 rfl ?_
  refine rn_iald hX dX2_toHand_29 (LX2_a2 hL) rfl (by decide) (by omega) ?_
  refine rn_iast hX dX2_toHand_30 (LX2_a5 hL) rfl (by decide) (by omega) ?_
  refine r_aload_n hX dX2_toHand_31 rfl ?_
  refine r_getr hX dX2_toHand_32 fl_X2_37 rfl (LX2_s hL) (LX2_r8 hL) ?_
  refine r_iload_n hX dX2_toHand_35 rfl ?_
  refine r_iload_n hX dX2_toHand_36 rfl ?_
  refine rn_iast hX dX2_toHand_37 (LX2_a8 hL) rfl (by decide) (by omega) ?_
  refine r_return hX rfl dX2_toHand_38 (by decide) (by decide) ?_
  exact ⟨rfl, by simp [handL, mI_uI]⟩
set_option maxHeartbeats 2000000 in
set_option maxRecDepth 20000 in
theorem t_X2_toOffice {M : Mm} {a l : Nat} (hL : LX2 M.1 M.2.1 a) {m : Nat} (hm : mI M a 0 = nI m) (hm30 : m ≤ 30) (hl : l < m) {v : Int32} : Ct G base YX2_toOffice 1 0 0 [.ref a, .int (nI l), .int v] M (rE none (offL M a l v)) := by
  refine Ct.of IX2_toOffice.1 (by simp [Value.category]) (Nat.le_of_ble_eq_true rfl) (fun X hX hN => ?_)
  show J G base X 0 0 M 0 [some (.ref a), some (.int (nI l)), some (.int v)] []
  refine r_iload_n hX dX2_toOffice_0 rfl ?_
  refine rn_if_lt (tgt := 26) hX dX2_toOffice_1 (by decide) rfl (by omega) ?_
  refine r_iload_n hX dX2_toOffice_4 rfl ?_
  refine r_aload_n hX dX2_toOffice_5 rfl ?_
  refine rn_geti hX dX2_toOffice_6 fl_X2_9 rfl (LX2_s hL) hm ?_
  refine rn_icmp_ge (tgt := 26) hX dX2_toOffice_9 (by decide) rfl rfl (by omega) (by omega) (fun c9 => absurd hl (by omega)) (fun c9 => ?_)
  refine r_aload_n hX dX2_toOffice_12 rfl ?_
  refine r_getr hX dX2_toOffice_13 fl_X2_25 rfl (LX2_s hL) (LX2_r4 hL) ?_
  refine r_iload_n hX dX2_toOffice_16 rfl ?_
  refine r_iconst (v := 0) hX dX2_toOffice_17 (by decide) ?_
  refine rn_iast hX dX2_toOffice_18 (LX2_a4 hL) rfl (by decide) (by omega) ?_
  refine r_aload_n hX dX2_toOffice_19 rfl ?_
  refine r_getr hX dX2_toOffice_20 fl_X2_28 rfl (LX2_s hL) (LX2_r5 hL) ?_
  refine r_iload_n hX dX2_toOffice_23 rfl ?_
  refine r_iload_n hX dX2_toOffice_24 rfl ?_
  refine rn_iast hX dX2_toOffice_25 (LX2_a5 hL) rfl (by decide) (by omega) ?_
  refine r_return hX rfl dX2_toOffice_26 (by decide) (by decide) ?_
  exact ⟨rfl, rfl⟩
set_option maxHeartbeats 2000000 in
set_option maxRecDepth 20000 in
theorem t_X2_toSack {M : Mm} {a l : Nat} (hL : LX2 M.1 M.2.1 a) {m : Nat} (hm : mI M a 0 = nI m) (hm30 : m ≤ 30) (hl : l < m) {sk c : Int32} : Ct G base YX2_toSack 2 0 0 [.ref a, .int (nI l), .int sk, .int c] M (rE none (sackL M a l sk c)) := by
  refine Ct.of IX2_toSack.1 (by simp [Value.category]) (Nat.le_of_ble_eq_true rfl) (fun X hX hN => ?_)
  show J G base X 0 0 M 0 [some (.ref a), some (.int (nI l)), some (.int sk), some (.int c)] []
  refine r_iload_n hX dX2_toSack_0 rfl ?_
  refine rn_if_lt (tgt := 39) hX dX2_toSack_1 (by decide) rfl (by omega) ?_
  refine r_iload_n hX dX2_toSack_4 rfl ?_
  refine r_aload_n hX dX2_toSack_5 rfl ?_
  refine rn_geti hX dX2_toSack_6 fl_X2_9 rfl (LX2_s hL) hm ?_
  refine rn_icmp_ge (tgt := 39) hX dX2_toSack_9 (by decide) rfl rfl (by omega) (by omega) (fun c9 => absurd hl (by omega)) (fun c9 => ?_)
  refine r_aload_n hX dX2_toSack_12 rfl ?_
  refine r_getr hX dX2_toSack_13 fl_X2_25 rfl (LX2_s hL) (LX2_r4 hL) ?_
  refine r_iload_n hX dX2_toSack_16 rfl ?_
  refine r_iconst (v := 1) hX dX2_toSack_17 (by decide) ?_
  refine rn_iast hX dX2_toSack_18 (LX2_a4 hL) rfl (by decide) (by omega) ?_
  refine r_aload_n hX dX2_toSack_19 rfl ?_
  refine r_getr hX dX2_toSack_20 fl_X2_28 rfl (LX2_s hL) (LX2_r5 hL) ?_
  refine r_iload_n hX dX2_toSack_23 rfl ?_
  refine r_iload_n hX dX2_toSack_24 rfl ?_
  refine rn_iast hX dX2_toSack_25 (LX2_a5 hL) rfl (by decide) (by omega) ?_
  refine r_aload_n hX dX2_toSack_26 rfl ?_
  refine r_getr hX dX2_toSack_27 fl_X2_43 rfl (LX2_s hL) (LX2_r10 hL) ?_
  refine r_iload_n hX dX2_toSack_30 rfl ?_
  refine r_dup2 hX dX2_toSack_31 rfl rfl ?_
  refine rn_iald hX dX2_toSack_32 (LX2_a10 hL) rfl (by decide) (by omega) ?_
  refine r_iload_n hX dX2_toSack_33 rfl ?_
  refine r_cN1 (host := RX10) hX dX2_toSack_34 IX10_bit (by decide +kernel) rfl (t_X10_bit) (by decide) (by decide) (by decide) (by decide) rfl (Nat.le_of_ble_eq_true rfl) ?_
  refine r_ior hX dX2_toSack_37 ?_
  refine rn_iast hX dX2_toSack_38 (LX2_a10 hL) rfl (by decide) (by omega) ?_
  refine r_return hX rfl dX2_toSack_39 (by decide) (by decide) ?_
  exact ⟨rfl, by simp [sackL, mI_uI]⟩
