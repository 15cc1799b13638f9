variable {G : GG} {base : Nat}
/-! ===== THE CLASS: lost sacks ===== -/
theorem RS.addLost {M : Mm} {a : Nat} {n : Nat → Int32} (h : RS (mI M) a n) (hm : nv n 3 < 30) {c : Int32} : RS (mI (uI (uI (uI M (a + 15 + 1) (nv n 3) c) (a + 15 + 2) (nv n 3) (n 6)) (a + 15) 0 (nI (nv n 3 + 1)))) a (los0 n c) := by
  obtain ⟨⟨a1, a2, a3, a4⟩, b1, ⟨c1, c2, c3⟩, ⟨d1, d2, x, d3, d4, d5⟩, e1, e2, e3⟩ := h
  generalize hM : uI (uI (uI M (a + 15 + 1) (nv n 3) c) (a + 15 + 2) (nv n 3) (n 6)) (a + 15) 0 (nI (nv n 3 + 1)) = N
  have eo : ∀ x, x ≠ a + 15 → x ≠ a + 16 → x ≠ a + 17 → mI N x = mI M x := fun x h1 h2 h3 => by
    rw [← hM]
    exact (uIo h1).trans ((uIo h3).trans (uIo h2))
  have e16 : ∀ j, mI N (a + 15 + 1) j = if j = nv n 3 then c else mI M (a + 15 + 1) j := fun j => by
    rw [← hM, uIo (by omega), uIo (by omega), mI_uI, if_pos rfl]
  have e17 : ∀ j, mI N (a + 15 + 2) j = if j = nv n 3 then n 6 else mI M (a + 15 + 2) j := fun j => by
    rw [← hM, uIo (by omega), mI_uI, if_pos rfl, uIo (by omega)]
  have e15 : mI N (a + 15) 0 = nI (nv n 3 + 1) := by rw [← hM, mI_uI, if_pos rfl, if_pos rfl]
  have er : ∀ q, q ≠ 3 → q ≠ 798 + 2 * nv n 3 → q ≠ 798 + 2 * nv n 3 + 1 → los0 n c q = n q := fun q h1 h2 h3 => by
    unfold los0
    rw [upd_o h3, upd_o h2, upd_o h1]
  have r3 : los0 n c 3 = nI (nv n 3 + 1) := by
    unfold los0
    rw [upd_o (by omega), upd_o (by omega), upd_s]
  have rc : los0 n c (798 + 2 * nv n 3) = c := by
    unfold los0
    rw [upd_o (by omega), upd_s]
  have rh : los0 n c (798 + 2 * nv n 3 + 1) = n 6 := by
    unfold los0
    rw [upd_s]
  have n3 : nv (los0 n c) 3 = nv n 3 + 1 := nv_of r3 (by omega)
  generalize los0 n c = m at *
  refine ⟨⟨?_, ?_, ?_, fun c hc => ?_⟩, b1.imp (fun z c hc => ?_) (fun z => z.eq (er _ (by omega) (by omega) (by omega)) (er _ (by omega) (by omega) (by omega)) (er _ (by omega) (by omega) (by omega))), ⟨?_, c2.eq (er _ (by omega) (by omega) (by omega)), fun l' hl' f' hf' => ?_⟩, ⟨?_, d2.eq (er _ (by omega) (by omega) (by omega)), x, d3, ?_, fun g hg w hw => ?_⟩, ?_, Rn.mk r3 (by omega), fun j hj => ?_⟩
  · rw [eo _ (by omega) (by omega) (by omega), er _ (by omega) (by omega) (by omega)]; exact a1
  · rw [eo _ (by omega) (by omega) (by omega), er _ (by omega) (by omega) (by omega)]; exact a2
  · rw [eo _ (by omega) (by omega) (by omega), er _ (by omega) (by omega) (by omega)]; exact a3
  · rw [eo _ (by omega) (by omega) (by omega), er _ (by omega) (by omega) (by omega)]; exact a4 c hc
  · rw [eo _ (by omega) (by omega) (by omega), er _ (by omega) (by omega) (by omega)]; exact z c hc
  · rw [eo _ (by omega) (by omega) (by omega), er _ (by omega) (by omega) (by omega)]; exact c1
  · have h2 : nv m 2 = nv n 2 := nv_eq (er _ (by omega) (by omega) (by omega))
    rw [h2] at hl'
    have := c2.2
    rw [eo _ (by omega) (by omega) (by omega), er _ (by omega) (by omega) (by omega)]
    exact c3 l' hl' f' hf'
  · rw [eo _ (by omega) (by omega) (by omega), er _ (by omega) (by omega) (by omega)]; exact d1
  · rw [eo _ (by omega) (by omega) (by omega)]; exact d4
  · have h2 : nv m 4 = nv n 4 := nv_eq (er _ (by omega) (by omega) (by omega))
    rw [h2] at hg
    rw [eo _ (by omega) (by omega) (by omega), er _ (by omega) (by omega) (by omega)]
    exact d5 g hg w hw
  · rw [e15, r3]
  · rw [n3] at hj
    by_cases e : j = nv n 3
    · subst e
      rw [e16, e17, if_pos rfl, if_pos rfl, rc, rh]
      exact ⟨rfl, rfl⟩
    · rw [e16, e17, if_neg e, if_neg e, er _ (by omega) (by omega) (by omega), er _ (by omega) (by omega) (by omega)]
      exact e3 j (by omega)
/-- a lost sack less -/
theorem RS.delLost {i i' : Nat → Nat → Int32} {a : Nat} {n : Nat → Int32} (h : RS i a n) {k : Nat} (hk : k < nv n 3) (h15 : i' (a + 15) 0 = nI (nv n 3 - 1)) (h16 : ∀ j, j < nv n 3 - 1 → i' (a + 15 + 1) j = if k ≤ j then i (a + 15 + 1) (j + 1) else i (a + 15 + 1) j) (h17 : ∀ j, j < nv n 3 - 1 → i' (a + 15 + 2) j = if k ≤ j then i (a + 15 + 2) (j + 1) else i (a + 15 + 2) j) (eo : ∀ x, x ≠ a + 15 → x ≠ a + 16 → x ≠ a + 17 → i' x = i x) : RS i' a (mvN (upd n 3 (nI (nv n 3 - 1))) k) := by
  obtain ⟨⟨a1, a2, a3, a4⟩, b1, ⟨c1, c2, c3⟩, ⟨d1, d2, x, d3, d4, d5⟩, e1, e2, e3⟩ := h
  have h30 := e2.2
  have v3 : nv (upd n 3 (nI (nv n 3 - 1))) 3 = nv n 3 - 1 := nv_of upd_s (by omega)
  have er : ∀ q, q ≠ 3 → ¬ (798 + 2 * k ≤ q ∧ q < 798 + 2 * (nv n 3 - 1)) → mvN (upd n 3 (nI (nv n 3 - 1))) k q = n q := fun q h1 h2 => by
    unfold mvN
    rw [v3, if_neg h2, upd_o h1]
  have r3 : mvN (upd n 3 (nI (nv n 3 - 1))) k 3 = nI (nv n 3 - 1) := by
    unfold mvN
    rw [if_neg (by omega), upd_s]
  have rm : ∀ q, 798 + 2 * k ≤ q → q < 798 + 2 * (nv n 3 - 1) → mvN (upd n 3 (nI (nv n 3 - 1))) k q = n (q + 2) := fun q h1 h2 => by
    unfold mvN
    rw [v3, if_pos ⟨h1, h2⟩, upd_o (by omega)]
  have n3 : nv (mvN (upd n 3 (nI (nv n 3 - 1))) k) 3 = nv n 3 - 1 := nv_of r3 (by omega)
  generalize mvN (upd n 3 (nI (nv n 3 - 1))) k = m at *
  refine ⟨⟨?_, ?_, ?_, fun c hc => ?_⟩, b1.imp (fun z c hc => ?_) (fun z => z.eq (er _ (by omega) (by omega)) (er _ (by omega) (by omega)) (er _ (by omega) (by omega))), ⟨?_, c2.eq (er _ (by omega) (by omega)), fun l' hl' f' hf' => ?_⟩, ⟨?_, d2.eq (er _ (by omega) (by omega)), x, d3, ?_, fun g hg w hw => ?_⟩, ?_, Rn.mk r3 (by omega), fun j hj => ?_⟩
  · rw [eo _ (by omega) (by omega) (by omega), er _ (by omega) (by omega)]; exact a1
  · rw [eo _ (by omega) (by omega) (by omega), er _ (by omega) (by omega)]; exact a2
  · rw [eo _ (by omega) (by omega) (by omega), er _ (by omega) (by omega)]; exact a3
  · rw [eo _ (by omega) (by omega) (by omega), er _ (by omega) (by omega)]; exact a4 c hc
  · rw [eo _ (by omega) (by omega) (by omega), er _ (by omega) (by omega)]; exact z c hc
  · rw [eo _ (by omega) (by omega) (by omega), er _ (by omega) (by omega)]; exact c1
  · have h2 : nv m 2 = nv n 2 := nv_eq (er _ (by omega) (by omega))
    rw [h2] at hl'
    have := c2.2
    rw [eo _ (by omega) (by omega) (by omega), er _ (by omega) (by omega)]
    exact c3 l' hl' f' hf'
  · rw [eo _ (by omega) (by omega) (by omega), er _ (by omega) (by omega)]; exact d1
  · rw [eo _ (by omega) (by omega) (by omega)]; exact d4
  · have h2 : nv m 4 = nv n 4 := nv_eq (er _ (by omega) (by omega))
    rw [h2] at hg
    rw [eo _ (by omega) (by omega) (by omega), er _ (by omega) (by omega)]
    exact d5 g hg w hw
  · rw [h15, r3]
  · rw [n3] at hj
    rw [h16 j hj, h17 j hj]
    by_cases e : k ≤ j
    · rw [if_pos e, if_pos e, rm _ (by omega) (by omega), rm _ (by omega) (by omega)]
      obtain ⟨z1, z2⟩ := e3 (j + 1) (by omega)
      exact ⟨z1.trans (congrArg n (by omega)), z2.trans (congrArg n (by omega))⟩
    · rw [if_neg e, if_neg e, er _ (by omega) (by omega), er _ (by omega) (by omega)]
      exact e3 j (by omega)
theorem losL_yes {n : Nat → Int32} {s lo c : Int32} {l : Nat} (h : losL n s lo c l (498 + 10 * l + 3) = 1 ∧ losL n s lo c l (498 + 10 * l + 4) = s) : losL n s lo c (l + 1) = wrL (liesN (losL n s lo c l) l 3 lo) l 4 c (-1) := by
  conv => lhs; unfold losL
  rw [if_pos h]
theorem losL_no {n : Nat → Int32} {s lo c : Int32} {l : Nat} (h : ¬ (losL n s lo c l (498 + 10 * l + 3) = 1 ∧ losL n s lo c l (498 + 10 * l + 4) = s)) : losL n s lo c (l + 1) = losL n s lo c l := by
  conv => lhs; unfold losL
  rw [if_neg h]
theorem un_fou {x : Nat → Int32} {l l' p : Nat} (h : l' ≠ l) : unL (fouN x l p) x l' := by
  unfold fouN
  split
  · exact (un_up (f' := 7) h (by omega)).tr (un_lies h)
  · exact un_lies h
/-- the letters behind are as they were -/
theorem fouL_un {n : Nat → Int32} {k p : Nat} {l : Nat} (hl : l < 30) : ∀ j, j ≤ l → unL (fouL n k p j) n l
  | 0, _ => unL.rf
  | j + 1, h => by
    have ih := fouL_un (n := n) (k := k) (p := p) hl j (by omega)
    simp only [fouL]
    split
    · exact (un_wr hl).tr ((un_fou (by omega)).tr ih)
    · split
      · exact (un_up (f' := 4) (by omega) (by omega)).tr ih
      · exact ih
theorem fouL_a {n : Nat → Int32} {k p l : Nat} (h : fouL n k p l (498 + 10 * l + 3) = 3 ∧ fouL n k p l (498 + 10 * l + 4) = nI k) : fouL n k p (l + 1) = wrL (fouN (fouL n k p l) l p) l 5 (-1) (nI p) := by
  conv => lhs; unfold fouL
  rw [if_pos h]
theorem fouL_b {n : Nat → Int32} {k p l : Nat} (h : ¬ (fouL n k p l (498 + 10 * l + 3) = 3 ∧ fouL n k p l (498 + 10 * l + 4) = nI k)) (h2 : fouL n k p l (498 + 10 * l + 3) = 3 ∧ nI k < fouL n k p l (498 + 10 * l + 4)) : fouL n k p (l + 1) = upd (fouL n k p l) (498 + 10 * l + 4) (fouL n k p l (498 + 10 * l + 4) - 1) := by
  conv => lhs; unfold fouL
  rw [if_neg h, if_pos h2]
theorem fouL_c {n : Nat → Int32} {k p l : Nat} (h : ¬ (fouL n k p l (498 + 10 * l + 3) = 3 ∧ fouL n k p l (498 + 10 * l + 4) = nI k)) (h2 : ¬ (fouL n k p l (498 + 10 * l + 3) = 3 ∧ nI k < fouL n k p l (498 + 10 * l + 4))) : fouL n k p (l + 1) = fouL n k p l := by
  conv => lhs; unfold fouL
  rw [if_neg h, if_neg h2]
theorem cntK_yes {K W : Nat → Int32} {kd pl : Int32} {j : Nat} (h : K j = kd ∧ W j = pl) : cntK K W kd pl (j + 1) = cntK K W kd pl j + 1 := by simp only [cntK]; rw [if_pos h]
theorem cntK_no {K W : Nat → Int32} {kd pl : Int32} {j : Nat} (h : ¬ (K j = kd ∧ W j = pl)) : cntK K W kd pl (j + 1) = cntK K W kd pl j := by simp only [cntK]; rw [if_neg h, Nat.add_zero]
set_option maxHeartbeats 2000000 in
set_option maxRecDepth 20000 in
theorem t_X4_add {M : Mm} {e : Nat} (he : LX4 M.1 M.2.1 e) {m : Nat} (hm : mI M e 0 = nI m) (hm30 : m < 30) {c h : Int32} : Ct G base YX4_add 1 0 0 [.ref e, .int c, .int h] M (rE (some (.int (nI m))) (uI (uI (uI M (e + 1) m c) (e + 2) m h) e 0 (nI (m + 1)))) := by
  refine Ct.of IX4_add.1 (by simp [Value.category]) (Nat.le_of_ble_eq_true rfl) (fun X hX hN => ?_)
  show J G base X 0 0 M 0 [some (.ref e), some (.int c), some (.int h)] []
  refine r_aload_n hX dX4_add_0 rfl ?_
  refine rn_geti (v := nI m) hX dX4_add_1 fl_X4_9 rfl (LX4_s he) hm ?_
  refine r_bipush (v := nI 30) hX dX4_add_4 (by decide) ?_
  refine rn_icmp_lt (tgt := 11) hX dX4_add_6 (by decide) rfl rfl (by omega) (by omega) (fun c6 => ?_) (fun c6 => absurd hm30 (by omega))
  refine r_aload_n hX dX4_add_11 rfl ?_
  refine r_getr hX dX4_add_12 fl_X4_15 rfl (LX4_s he) (LX4_r1 he) ?_
  refine r_aload_n hX dX4_add_15 rfl ?_
  refine rn_geti (v := nI m) hX dX4_add_16 fl_X4_9 rfl (LX4_s he) hm ?_
  refine r_iload_n hX dX4_add_19 rfl ?_
  refine rn_iast hX dX4_add_20 (LX4_a1 he) rfl (by omega) (by omega) ?_
  refine r_aload_n hX dX4_add_21 rfl ?_
  refine r_getr hX dX4_add_22 fl_X4_19 rfl (LX4_s he) (LX4_r2 he) ?_
  refine r_aload_n hX dX4_add_25 rfl ?_
  refine rn_geti (v := nI m) hX dX4_add_26 fl_X4_9 rfl (LX4_s he) (by rw [uIo (by omega)]; exact hm) ?_
  refine r_iload_n hX dX4_add_29 rfl ?_
  refine rn_iast hX dX4_add_30 (LX4_a2 he) rfl (by omega) (by omega) ?_
  refine r_aload_n hX dX4_add_31 rfl ?_
  refine r_dup hX dX4_add_32 rfl ?_
  refine rn_geti (v := nI m) hX dX4_add_33 fl_X4_9 rfl (LX4_s he) (by rw [uIo (by omega), uIo (by omega)]; exact hm) ?_
  refine r_iconst (v := nI 1) hX dX4_add_36 (by decide) ?_
  refine rn_iadd hX dX4_add_37 rfl rfl ?_
  refine r_puti hX dX4_add_38 fl_X4_9 rfl rfl (LX4_s he) ?_
  refine r_aload_n hX dX4_add_41 rfl ?_
  refine rn_geti (v := nI (m + 1)) hX dX4_add_42 fl_X4_9 rfl (LX4_s he) (by simp [mI_uI]) ?_
  refine r_iconst (v := nI 1) hX dX4_add_45 (by decide) ?_
  refine rn_isub hX dX4_add_46 rfl rfl (by omega) ?_
  refine r_ireturn hX rfl rfl dX4_add_47 (by decide) (by decide) ?_
  exact ⟨by rw [Nat.add_sub_cancel], rfl⟩
set_option maxHeartbeats 2000000 in
set_option maxRecDepth 20000 in
theorem t_X4_carrierOfLost {M : Mm} {e k : Nat} (he : LX4 M.1 M.2.1 e) {m : Nat} (hm : mI M e 0 = nI m) (hm30 : m ≤ 30) (hk : k < m) : Ct G base YX4_carrierOfLost 1 0 0 [.ref e, .int (nI k)] M (rE (some (.int (mI M (e + 1) k))) M) := by
  refine Ct.of IX4_carrierOfLost.1 (by simp [Value.category]) (Nat.le_of_ble_eq_true rfl) (fun X hX hN => ?_)
  show J G base X 0 0 M 0 [some (.ref e), some (.int (nI k))] []
  refine r_iload_n hX dX4_carrierOfLost_0 rfl ?_
  refine rn_if_lt (tgt := 12) hX dX4_carrierOfLost_1 (by decide) rfl (by omega) ?_
  refine r_iload_n hX dX4_carrierOfLost_4 rfl ?_
  refine r_aload_n hX dX4_carrierOfLost_5 rfl ?_
  refine rn_geti (v := nI m) hX dX4_carrierOfLost_6 fl_X4_9 rfl (LX4_s he) hm ?_
  refine rn_icmp_lt (tgt := 16) hX dX4_carrierOfLost_9 (by decide) rfl rfl (by omega) (by omega) (fun c9 => ?_) (fun c9 => absurd hk (by omega))
  refine r_aload_n hX dX4_carrierOfLost_16 rfl ?_
  refine r_getr hX dX4_carrierOfLost_17 fl_X4_15 rfl (LX4_s he) (LX4_r1 he) ?_
  refine r_iload_n hX dX4_carrierOfLost_20 rfl ?_
  refine rn_iald hX dX4_carrierOfLost_21 (LX4_a1 he) rfl (by omega) (by omega) ?_
  refine r_ireturn hX rfl rfl dX4_carrierOfLost_22 (by decide) (by decide) ?_
  exact ⟨rfl, rfl⟩
set_option maxHeartbeats 2000000 in
set_option maxRecDepth 20000 in
theorem t_X4_hourOfLost {M : Mm} {e k : Nat} (he : LX4 M.1 M.2.1 e) {m : Nat} (hm : mI M e 0 = nI m) (hm30 : m ≤ 30) (hk : k < m) : Ct G base YX4_hourOfLost 1 0 0 [.ref e, .int (nI k)] M (rE (some (.int (mI M (e + 2) k))) M) := by
  refine Ct.of IX4_hourOfLost.1 (by simp [Value.category]) (Nat.le_of_ble_eq_true rfl) (fun X hX hN => ?_)
  show J G base X 0 0 M 0 [some (.ref e), some (.int (nI k))] []
  refine r_iload_n hX dX4_hourOfLost_0 rfl ?_
  refine rn_if_lt (tgt := 12) hX dX4_hourOfLost_1 (by decide) rfl (by omega) ?_
  refine r_iload_n hX dX4_hourOfLost_4 rfl ?_
  refine r_aload_n hX dX4_hourOfLost_5 rfl ?_
  refine rn_geti (v := nI m) hX dX4_hourOfLost_6 fl_X4_9 rfl (LX4_s he) hm ?_
  refine rn_icmp_lt (tgt := 16) hX dX4_hourOfLost_9 (by decide) rfl rfl (by omega) (by omega) (fun c9 => ?_) (fun c9 => absurd hk (by omega))
  refine r_aload_n hX dX4_hourOfLost_16 rfl ?_
  refine r_getr hX dX4_hourOfLost_17 fl_X4_19 rfl (LX4_s he) (LX4_r2 he) ?_
  refine r_iload_n hX dX4_hourOfLost_20 rfl ?_
  refine rn_iald hX dX4_hourOfLost_21 (LX4_a2 he) rfl (by omega) (by omega) ?_
  refine r_ireturn hX rfl rfl dX4_hourOfLost_22 (by decide) (by decide) ?_
  exact ⟨rfl, rfl⟩
set_option maxHeartbeats 2000000 in
set_option maxRecDepth 20000 in
theorem t_X4_removeAt {M : Mm} {e k : Nat} (he : LX4 M.1 M.2.1 e) {m : Nat} (hm : mI M e 0 = nI m) (hm30 : m ≤ 30) (hk : k < m) : Ct G base YX4_removeAt 2 0 0 [.ref e, .int (nI k)] M (rI none M (fun i => i e 0 = nI (m - 1) ∧ (∀ j, j < m - 1 → i (e + 1) j = if k ≤ j then mI M (e + 1) (j + 1) else mI M (e + 1) j) ∧ (∀ j, j < m - 1 → i (e + 2) j = if k ≤ j then mI M (e + 2) (j + 1) else mI M (e + 2) j) ∧ ∀ x, x ≠ e → x ≠ e + 1 → x ≠ e + 2 → i x = mI M x)) := by
  refine Ct.of IX4_removeAt.1 (by simp [Value.category]) (Nat.le_of_ble_eq_true rfl) (fun X hX hN => ?_)
  show J G base X 0 0 M 0 [some (.ref e), some (.int (nI k)), none] []
  refine r_iload_n hX dX4_removeAt_0 rfl ?_
  refine rn_if_lt (tgt := 12) hX dX4_removeAt_1 (by decide) rfl (by omega) ?_
  refine r_iload_n hX dX4_removeAt_4 rfl ?_
  refine r_aload_n hX dX4_removeAt_5 rfl ?_
  refine rn_geti (v := nI m) hX dX4_removeAt_6 fl_X4_9 rfl (LX4_s he) hm ?_
  refine rn_icmp_lt (tgt := 13) hX dX4_removeAt_9 (by decide) rfl rfl (by omega) (by omega) (fun c9 => ?_) (fun c9 => absurd hk (by omega))
  refine r_iload_n hX dX4_removeAt_13 rfl ?_
  refine r_iconst (v := nI 1) hX dX4_removeAt_14 (by decide) ?_
  refine rn_iadd hX dX4_removeAt_15 rfl rfl ?_
  refine r_istore2 hX dX4_removeAt_16 rfl ?_
  show J G base X 0 0 (wI M (mI M)) 17 _ []
  refine loop_us (σ := Nat → Nat → Int32) (P := fun j i => (k + 1 ≤ j ∧ (∀ q, i (e + 1) q = if k ≤ q ∧ q + 1 < j then mI M (e + 1) (q + 1) else mI M (e + 1) q) ∧ (∀ q, i (e + 2) q = if k ≤ q ∧ q + 1 < j then mI M (e + 2) (q + 1) else mI M (e + 2) q) ∧ ∀ x, x ≠ e + 1 → x ≠ e + 2 → i x = mI M x) → J G base X 0 0 (wI M i) 17 [some (.ref e), some (.int (nI k)), some (.int (nI j))] []) m (fun j i hj ih hi => ?_) (k + 1) (mI M) (by omega) ⟨Nat.le_refl _, fun q => by rw [if_neg (by omega)], fun q => by rw [if_neg (by omega)], fun _ _ _ => rfl⟩
  obtain ⟨hkj, hi1, hi2, hi3⟩ := hi
  have hmi : mI (wI M i) e 0 = nI m := (congrFun (hi3 e (by omega) (by omega)) 0).trans hm
  refine r_iload_n hX dX4_removeAt_17 rfl ?_
  refine r_aload_n hX dX4_removeAt_18 rfl ?_
  refine rn_geti (v := nI m) hX dX4_removeAt_19 fl_X4_9 rfl (LX4_s he) hmi ?_
  refine rn_icmp_ge (tgt := 59) hX dX4_removeAt_22 (by decide) rfl rfl (by omega) (by omega) (fun c22 => ?_) (fun c22 => ?_)
  · refine r_aload_n hX dX4_removeAt_59 rfl ?_
    refine r_dup hX dX4_removeAt_60 rfl ?_
    refine rn_geti (v := nI m) hX dX4_removeAt_61 fl_X4_9 rfl (LX4_s he) hmi ?_
    refine r_iconst (v := nI 1) hX dX4_removeAt_64 (by decide) ?_
    refine rn_isub hX dX4_removeAt_65 rfl rfl (by omega) ?_
    refine r_puti hX dX4_removeAt_66 fl_X4_9 rfl rfl (LX4_s he) ?_
    refine r_return hX rfl dX4_removeAt_69 (by decide) (by decide) ?_
    obtain rfl : j = m := by omega
    refine ⟨rfl, mI (uI (wI M i) e 0 (nI (j - 1))), rfl, by simp [mI_uI], fun q hq => ?_, fun q hq => ?_, fun x h1 h2 h3 => (uIo h1).trans (hi3 x h2 h3)⟩
    · rw [uIo (by omega)]
      refine (hi1 q).trans ?_
      by_cases y : k ≤ q
      · rw [if_pos y, if_pos (by omega)]
      · rw [if_neg y, if_neg (by omega)]
    · rw [uIo (by omega)]
      refine (hi2 q).trans ?_
      by_cases y : k ≤ q
      · rw [if_pos y, if_pos (by omega)]
      · rw [if_neg y, if_neg (by omega)]
  · refine r_aload_n hX dX4_removeAt_25 rfl ?_
    refine r_getr hX dX4_removeAt_26 fl_X4_15 rfl (LX4_s he) (LX4_r1 he) ?_
    refine r_iload_n hX dX4_removeAt_29 rfl ?_
    refine r_iconst (v := nI 1) hX dX4_removeAt_30 (by decide) ?_
    refine rn_isub hX dX4_removeAt_31 rfl rfl (by omega) ?_
    refine r_aload_n hX dX4_removeAt_32 rfl ?_
    refine r_getr hX dX4_removeAt_33 fl_X4_15 rfl (LX4_s he) (LX4_r1 he) ?_
    refine r_iload_n hX dX4_removeAt_36 rfl ?_
    refine rn_iald hX dX4_removeAt_37 (LX4_a1 he) rfl (by omega) (by omega) ?_
    refine rn_iast hX dX4_removeAt_38 (LX4_a1 he) rfl (by omega) (by omega) ?_
    refine r_aload_n hX dX4_removeAt_39 rfl ?_
    refine r_getr hX dX4_removeAt_40 fl_X4_19 rfl (LX4_s he) (LX4_r2 he) ?_
    refine r_iload_n hX dX4_removeAt_43 rfl ?_
    refine r_iconst (v := nI 1) hX dX4_removeAt_44 (by decide) ?_
    refine rn_isub hX dX4_removeAt_45 rfl rfl (by omega) ?_
    refine r_aload_n hX dX4_removeAt_46 rfl ?_
    refine r_getr hX dX4_removeAt_47 fl_X4_19 rfl (LX4_s he) (LX4_r2 he) ?_
    refine r_iload_n hX dX4_removeAt_50 rfl ?_
    refine rn_iald hX dX4_removeAt_51 (LX4_a2 he) rfl (by omega) (by omega) ?_
    refine rn_iast hX dX4_removeAt_52 (LX4_a2 he) rfl (by omega) (by omega) ?_
    refine rn_iinc2 hX dX4_removeAt_53 rfl rfl ?_
    refine r_goto (tgt := 17) hX dX4_removeAt_56 (by decide) ?_
    refine ih (by omega) (mI (uI (uI (wI M i) (e + 1) (j - 1) (i (e + 1) j)) (e + 2) (j - 1) (mI (uI (wI M i) (e + 1) (j - 1) (i (e + 1) j)) (e + 2) j))) ⟨by omega, fun q => ?_, fun q => ?_, fun x h1 h2 => (uIo h2).trans ((uIo h1).trans (hi3 x h1 h2))⟩
    · rw [uIo (by omega), mI_uI, if_pos rfl]
      by_cases z : q = j - 1
      · rw [if_pos z, if_pos (by omega), show q + 1 = j by omega, hi1 j, if_neg (by omega)]
      · rw [if_neg z]
        refine (hi1 q).trans ?_
        by_cases y : k ≤ q ∧ q + 1 < j
        · rw [if_pos y, if_pos (by omega)]
        · rw [if_neg y, if_neg (by omega)]
    · rw [mI_uI, if_pos rfl, uIo (by omega)]
      by_cases z : q = j - 1
      · rw [if_pos z, if_pos (by omega), show q + 1 = j by omega, show mI (wI M i) (e + 2) j = _ from hi2 j, if_neg (by omega)]
      · rw [if_neg z]
        refine (hi2 q).trans ?_
        by_cases y : k ≤ q ∧ q + 1 < j
        · rw [if_pos y, if_pos (by omega)]
        · rw [if_neg y, if_neg (by omega)]
