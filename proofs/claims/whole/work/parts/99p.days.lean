variable {G : GG} {base : Nat}
theorem bt0 (i : Nat) : bt 0 i = false := by unfold bt; simp
theorem and_0 {x y : Int32} : x &&& y = 0 ↔ ∀ i, i < 32 → ¬ (bt x i = true ∧ bt y i = true) := by
  constructor
  · intro h i hi z
    have e := b_and x y i
    rw [h, bt0, z.1, z.2] at e
    cases e
  · intro h
    refine b_ext (fun i hi => ?_)
    rw [b_and, bt0]
    cases hx : bt x i with
    | false => rfl
    | true =>
      cases hy : bt y i with
      | false => rfl
      | true => exact absurd ⟨hx, hy⟩ (h i hi)
theorem bt_hi {V i : Nat} (hV : V < 128) (h7 : 7 ≤ i) (hi : i < 32) : bt (nI V) i = false := by
  rw [bt_nat hi]
  exact Nat.testBit_lt_two_pow (Nat.lt_of_lt_of_le hV (Nat.pow_le_pow_right (by decide) h7 : 2 ^ 7 ≤ 2 ^ i))
theorem or_set {f : Nat → Bool} {V : Nat} (hV : V < 128) : setB f 7 ||| nI V = setB (fun w => f w || bt (nI V) w) 7 := by
  refine b_ext (fun i hi => ?_)
  rw [b_or, bt_setB _ 7 (by omega), bt_setB _ 7 (by omega)]
  by_cases h : i < 7
  · rw [decide_eq_true h, Bool.true_and, Bool.true_and]
  · rw [decide_eq_false h, Bool.false_and, Bool.false_and, bt_hi hV (by omega) hi]
    rfl
theorem nuQ_x {u : Nat → Nat} {e lo hi : Nat} {q : Q4} (hg : q.2.2.1 = -1) (hp : q.1 ≤ e) (he : e ≤ 900) : (nuQ u e lo hi q).2.1 = eo (blB u) e q.1 := by
  obtain ⟨a, b, c⟩ := nuQ_c (u := u) (lo := lo) (hi := hi) hg hp he
  by_cases h : eo (blB u) e q.1 < e ∧ dgB u (eo (blB u) e q.1) = true
  · by_cases h2 : eo (dgB u) e (eo (blB u) e q.1) - eo (blB u) e q.1 ≤ 3 ∧ lo ≤ nuV u (eo (blB u) e q.1) (eo (dgB u) e (eo (blB u) e q.1) - eo (blB u) e q.1) ∧ nuV u (eo (blB u) e q.1) (eo (dgB u) e (eo (blB u) e q.1) - eo (blB u) e q.1) ≤ hi
    · rw [(b h h2).1]
    · rw [c h h2]
  · rw [a (by
      rcases Nat.lt_or_ge (eo (blB u) e q.1) e with y | y
      · refine Or.inr ?_
        cases hc : dgB u (eo (blB u) e q.1) with
        | false => rfl
        | true => exact absurd ⟨y, hc⟩ h
      · exact Or.inl y)]
theorem rtD_f {n : Nat → Int32} {c V : Nat} {q : Q4} (h : ¬ q.2.2.1 = -1) : ∀ k, rtD n c V k q = q
  | 0 => rfl
  | k + 1 => by
    unfold rtD
    rw [rtD_f h k, fl_mu h]
theorem rtD_g {n : Nat → Int32} {c V : Nat} {q : Q4} (hg : q.2.2.1 = -1) : ∀ k, (∀ j, j < k → ¬ bt (nI V) j = true ∨ n (rtA c j) = 0) → rtD n c V k q = q
  | 0, _ => rfl
  | k + 1, h => by
    unfold rtD
    rw [rtD_g hg k (fun j hj => h j (by omega)), decide_eq_true (h k (by omega)), muQ_t]
theorem rtD_b {n : Nat → Int32} {c V : Nat} {q : Q4} (hg : q.2.2.1 = -1) (hx : q.2.1 < 100000) : ∀ k, ¬ (∀ j, j < k → ¬ bt (nI V) j = true ∨ n (rtA c j) = 0) → (rtD n c V k q).2.2 = (nI q.2.1, nI 2)
  | 0, h => absurd (fun j hj => absurd hj (Nat.not_lt_zero _)) h
  | k + 1, h => by
    unfold rtD
    by_cases h2 : ∀ j, j < k → ¬ bt (nI V) j = true ∨ n (rtA c j) = 0
    · rw [rtD_g hg k h2, muQ_d hg, if_neg (fun z => h (fun j hj => by
        rcases (show j < k ∨ j = k by omega) with y | rfl
        · exact h2 j y
        · exact z))]
    · have z := rtD_b hg hx k h2
      rw [fl_mu (by rw [show (rtD n c V k q).2.2.1 = nI q.2.1 from congrArg Prod.fst z]; exact nI_m1 hx)]
      exact z
/-- behind a route's days -/
def rdD (n : Nat → Int32) (u : Nat → Nat) (e : Nat) (q : Q4) : Q4 := rtD n (nv n 1 - 1) (rtV n q.2.1 u e q) 7 (rtB n q.2.1 u e q)
theorem rt_eq {n : Nat → Int32} {u : Nat → Nat} {e : Nat} {q : Q4} (hg : q.2.2.1 = -1) (hx9 : q.2.1 < 100000) :
    (¬ 0 < nv n 1 → (rdD n u e q).2.2 = (nI q.2.1, nI 1)) ∧ (0 < nv n 1 → rtB n q.2.1 u e q = nuQ u e 1 127 q ∧ rtV n q.2.1 u e q = nuW u e 1 127 q) := by
  have hs : rtM n q.2.1 q = if 0 < nv n 1 then q else (q.1, q.2.1, nI q.2.1, nI 1) := by unfold rtM; rw [muQ_d (q := (q.1, q.2.1, q.2.2)) hg]
  refine ⟨fun h => ?_, fun h => ?_⟩
  · rw [if_neg h] at hs
    have hf : ¬ (rtM n q.2.1 q).2.2.1 = -1 := by rw [hs]; exact nI_m1 hx9
    have hb : rtB n q.2.1 u e q = rtM n q.2.1 q := fl_nu hf
    unfold rdD
    rw [rtD_f (by rw [hb]; exact hf), hb, hs]
  · rw [if_pos h] at hs
    unfold rtB rtV
    rw [hs]
    exact ⟨rfl, rfl⟩
/-- what readDays leaves -/
def pD (M : Mm) (p : Nat) (n : Nat → Int32) (u : Nat → Nat) (e : Nat) (q : Q4) (i : Nat → Nat → Int32) : Prop :=
  (∀ x, x ≠ p → x ≠ p + 4 → i x = mI M x) ∧ i p 5 = mI M p 5 ∧ (∃ at_ st, cQ i p (at_, st, (rdD n u e q).2.2)) ∧
  ((rdD n u e q).2.2.1 = -1 → rdD n u e q = nuQ u e 1 127 q ∧ (nuQ u e 1 127 q).2.2.1 = -1 ∧ cQ i p (nuQ u e 1 127 q) ∧ i p 8 = nI (nuW u e 1 127 q) ∧ 0 < nv n 1 ∧ (∀ j, j < 7 → ¬ bt (nI (nuW u e 1 127 q)) j = true ∨ n (rtA (nv n 1 - 1) j) = 0) ∧ i (p + 4) (nv n 1 - 1) = setB (fun w => decide (¬ n (rtA (nv n 1 - 1) w) = 0) || bt (nI (nuW u e 1 127 q)) w) 7)
set_option maxHeartbeats 2000000 in
set_option maxRecDepth 20000 in
theorem t_X5_readDays {M : Mm} {p b N e : Nat} {u : Nat → Nat} (hp : LX5 M.1 M.2.1 p) (hT : PT M p b N e u) {q : Q4} (hg : q.2.2.1 = -1) (hq : cQ (mI M) p q) (hp9 : q.1 ≤ e) (he : e ≤ 900) (hx9 : q.2.1 < 100000) {n : Nat → Int32} (hP : PI (mI M) p n) : Ct G base YX5_readDays 5 0 0 [.ref p] M (rI (some (.int (if (rdD n u e q).2.2.1 = -1 then 1 else 0))) M (pD M p n u e q)) := by
  refine Ct.of IX5_readDays.1 (by simp [Value.category]) (Nat.le_of_ble_eq_true rfl) (fun X hX hN => ?_)
  show J G base X 0 0 M 0 [some (.ref p)] []
  obtain ⟨hTT, hQS, hDY, hEC, hO⟩ := hP
  have hP : PI (mI M) p n := ⟨hTT, hQS, hDY, hEC, hO⟩
  have hTb := hO.1
  have h0 := hTb.1
  have h1n := hTb.2.1
  have hRt := hTb.2.2
  have hc0 : mI M (p + 1) 0 = nI (nv n 0) := hTT.1.trans h0.1
  have hc1 : mI M (p + 1) 2 = nI (nv n 1) := hTT.2.2.1.trans h1n.1
  have hb0 := h0.2
  have hb1 := h1n.2
  
  refine r_aload_n hX dX5_readDays_0 rfl ?_
  refine r_getr hX dX5_readDays_1 fl_X5_12 rfl (LX5_s hp) (LX5_r0 hp) ?_
  refine rn_geti (v := nI (nv n 1)) hX dX5_readDays_4 fl_X5_126 rfl (LX9_s (LX5_o0 hp)) hc1 ?_
  refine rn_if_ne (tgt := 20) hX dX5_readDays_7 (by decide) rfl (by omega) (fun c7 => ?_) (fun c7 => ?_)
  · refine r_aload_n hX dX5_readDays_20 rfl ?_
    refine r_aload_n hX dX5_readDays_21 rfl ?_
    refine r_iconst (v := nI 1) hX dX5_readDays_22 (by decide) ?_
    refine r_bipush (v := nI 127) hX dX5_readDays_23 (by decide) ?_
    refine r_iV2 hX dX5_readDays_25 IX5_readNumber ml_X5_137 rfl (LX5_s hp) rfl (t_X5_readNumber (M := M) hp hT hg hq hp9 he (lo := 1) (hi9 := 127) (by omega) (by omega)) (by decide) (by decide) (by decide) (by decide) rfl (Nat.le_of_ble_eq_true rfl) (fun i1 h1 => ?_)
    show J G base X _ _ (wI M i1) _ _ _
    
    have hpos : 0 < nv n 1 := by omega
    obtain ⟨hr1, hr2⟩ := (rt_eq (n := n) (u := u) (e := e) hg hx9).2 hpos
    have hR9 : rdD n u e q = rtD n (nv n 1 - 1) (nuW u e 1 127 q) 7 (nuQ u e 1 127 q) := by unfold rdD; rw [hr1, hr2]
    by_cases hgd : (nuQ u e 1 127 q).2.2.1 = -1
    · rw [if_pos hgd]
      obtain ⟨-, nw1, nw2⟩ := nuW_hi (u := u) (lo := 1) (hi := 127) hp9 he hgd
      generalize hVV : nuW u e 1 127 q = V at *
      have hd4 : mI (uI (wI M i1) p 8 (nI V)) (p + 1 + 3) (nv n 1 - 1) = setB (fun w => decide (¬ n (rtA (nv n 1 - 1) w) = 0)) 7 := (congrFun (uIo (by omega)) _).trans ((congrFun (h1.2.1 _ (by omega)) _).trans (hDY hpos))
      have hkey : (nI V &&& setB (fun w => decide (¬ n (rtA (nv n 1 - 1) w) = 0)) 7 = 0) ↔ (∀ j, j < 7 → ¬ bt (nI V) j = true ∨ n (rtA (nv n 1 - 1) j) = 0) := by
        rw [and_0]
        constructor
        · intro h j hj
          refine Classical.byContradiction (fun z => h j (by omega) ⟨Classical.not_not.mp (fun y => z (Or.inl y)), ?_⟩)
          rw [bt_setB _ 7 (by omega), decide_eq_true hj, Bool.true_and]
          exact decide_eq_true (fun y => z (Or.inr y))
        · intro h i hi z
          rw [bt_setB _ 7 (by omega), Bool.and_eq_true] at z
          obtain ⟨z1, z2, z3⟩ := z
          rcases h i (of_decide_eq_true z2) with y | y
          · exact y z1
          · exact absurd y (of_decide_eq_true z3)
      have hx2 : (nuQ u e 1 127 q).2.1 < 100000 := by
        rw [nuQ_x hg hp9 he]
        have := eo_le (f := blB u) hp9
        omega
      have hc2 : mI (uI (wI M i1) p 8 (nI V)) (p + 1) 2 = nI (nv n 1 - 1 + 1) := by
        rw [show nv n 1 - 1 + 1 = nv n 1 by omega]
        exact (congrFun (uIo (by omega)) _).trans ((congrFun (h1.2.1 _ (by omega)) _).trans hc1)
      have hq2 : cQ (mI (uI (wI M i1) p 8 (nI V))) p (nuQ u e 1 127 q) := by
        have z := h1.1
        unfold cQ at z ⊢
        simp only [mI_uI]
        simp
        exact z
      refine r_puti hX dX5_readDays_28 fl_X5_45 rfl rfl (LX5_s hp) ?_
      refine r_aload_n hX dX5_readDays_31 rfl ?_
      refine rn_geti (v := nI V) hX dX5_readDays_32 fl_X5_45 rfl (LX5_s hp) (show mI (uI (wI M i1) p 8 (nI V)) p 8 = nI V by simp [mI_uI]) ?_
      refine r_iconst (v := (-1)) hX dX5_readDays_35 (by decide) ?_
      refine r_icmp_ne (tgt := 41) hX dX5_readDays_36 (by decide) (fun c36 => ?_) (fun c36 => absurd c36 (nI_m1 (by omega)))
      refine r_aload_n hX dX5_readDays_41 rfl ?_
      refine rn_geti (v := nI V) hX dX5_readDays_42 fl_X5_45 rfl (LX5_s hp) (show mI (uI (wI M i1) p 8 (nI V)) p 8 = nI V by simp [mI_uI]) ?_
      refine r_aload_n hX dX5_readDays_45 rfl ?_
      refine r_getr hX dX5_readDays_46 fl_X5_12 rfl (LX5_s hp) (LX5_r0 hp) ?_
      refine r_cV0 hX dX5_readDays_49 IX9_daysOfLastCarrier ml_X5_140 rfl (LX9_s (LX5_o0 hp)) rfl (t_X9_daysOfLastCarrier (M := (uI (wI M i1) p 8 (nI V))) (LX5_o0 hp) hc2 (by omega)) (by decide) (by decide) (by decide) (by decide) rfl (Nat.le_of_ble_eq_true rfl) ?_
      rw [hd4]
      refine r_iand hX dX5_readDays_52 ?_
      refine r_if_eq (tgt := 66) hX dX5_readDays_53 (by decide) (fun c53 => ?_) (fun c53 => ?_)
      · refine r_aload_n hX dX5_readDays_66 rfl ?_
        refine r_getr hX dX5_readDays_67 fl_X5_12 rfl (LX5_s hp) (LX5_r0 hp) ?_
        refine r_aload_n hX dX5_readDays_70 rfl ?_
        refine rn_geti (v := nI V) hX dX5_readDays_71 fl_X5_45 rfl (LX5_s hp) (show mI (uI (wI M i1) p 8 (nI V)) p 8 = nI V by simp [mI_uI]) ?_
        refine r_cV1 hX dX5_readDays_74 IX9_addRouteDays ml_X5_143 rfl (LX9_s (LX5_o0 hp)) rfl (t_X9_addRouteDays (M := (uI (wI M i1) p 8 (nI V))) (LX5_o0 hp) hc2 (by omega)) (by decide) (by decide) (by decide) (by decide) rfl (Nat.le_of_ble_eq_true rfl) ?_
        refine r_iconst (v := 1) hX dX5_readDays_77 (by decide) ?_
        refine r_ireturn hX rfl rfl dX5_readDays_78 (by decide) (by decide) ?_
        have hyes := hkey.mp c53
        have hr : rdD n u e q = nuQ u e 1 127 q := by rw [hR9]; exact rtD_g hgd 7 hyes
        have e1 : ∀ k, mI (uI (uI (wI M i1) p 8 (nI V)) (p + 1 + 3) (nv n 1 - 1) (mI (uI (wI M i1) p 8 (nI V)) (p + 1 + 3) (nv n 1 - 1) ||| nI V)) p k = mI (uI (wI M i1) p 8 (nI V)) p k := fun k => congrFun (uIo (by omega)) k
        refine ⟨by rw [hr, if_pos hgd], mI (uI (uI (wI M i1) p 8 (nI V)) (p + 1 + 3) (nv n 1 - 1) (mI (uI (wI M i1) p 8 (nI V)) (p + 1 + 3) (nv n 1 - 1) ||| nI V)), rfl, fun x h5 h6 => (uIo (by omega)).trans ((uIo h5).trans (h1.2.1 x h5)), ?_, ⟨(nuQ u e 1 127 q).1, (nuQ u e 1 127 q).2.1, ?_⟩, fun _ => ⟨hr, hgd, ?_, ?_, hpos, ?_, ?_⟩⟩
        · rw [e1, mI_uI, if_pos rfl, if_neg (by omega)]
          exact h1.2.2 5 (by omega) (by omega) (by omega) (by omega)
        · rw [hr]
          unfold cQ at hq2 ⊢
          simp only [e1]
          exact hq2
        · unfold cQ at hq2 ⊢
          simp only [e1]
          exact hq2
        · rw [e1, hVV]
          exact (show mI (uI (wI M i1) p 8 (nI V)) p 8 = nI V by simp [mI_uI])
        · rw [hVV]; exact hyes
        · rw [mI_uI, if_pos rfl, if_pos rfl, hd4, hVV]
          exact or_set (by omega)
      · refine r_aload_n hX dX5_readDays_56 rfl ?_
        refine r_iconst (v := nI 2) hX dX5_readDays_57 (by decide) ?_
        refine r_aload_n hX dX5_readDays_58 rfl ?_
        refine rn_geti (v := nI (nuQ u e 1 127 q).2.1) hX dX5_readDays_59 fl_X5_42 rfl (LX5_s hp) hq2.2.1 ?_
        refine r_iV2 hX dX5_readDays_62 IX5_fail ml_X5_91 rfl (LX5_s hp) rfl (t_X5_fail (M := (uI (wI M i1) p 8 (nI V))) hp hq2 (k := 2) (f := (nuQ u e 1 127 q).2.1)) (by decide) (by decide) (by decide) (by decide) rfl (Nat.le_of_ble_eq_true rfl) (fun i4 h4 => ?_)
        show J G base X _ _ (wI M i4) _ _ _
        
        refine r_ireturn hX rfl rfl dX5_readDays_65 (by decide) (by decide) ?_
        have hno : ¬ (∀ j, j < 7 → ¬ bt (nI V) j = true ∨ n (rtA (nv n 1 - 1) j) = 0) := fun z => c53 (hkey.mpr z)
        have hr : (rdD n u e q).2.2 = (nI (nuQ u e 1 127 q).2.1, nI 2) := by rw [hR9]; exact rtD_b hgd hx2 7 hno
        refine ⟨by rw [show (rdD n u e q).2.2.1 = nI (nuQ u e 1 127 q).2.1 from congrArg Prod.fst hr, if_neg (nI_m1 hx2)]; first | done | rfl, i4, rfl, fun x h5 h6 => (h4.2.1 x h5).trans ((uIo h5).trans (h1.2.1 x h5)), ?_, ⟨_, _, by rw [hr]; exact h4.1⟩, fun z => ?_⟩
        · refine (h4.2.2 5 (by omega) (by omega) (by omega) (by omega)).trans ?_
          rw [mI_uI, if_pos rfl, if_neg (by omega)]
          exact h1.2.2 5 (by omega) (by omega) (by omega) (by omega)
        · rw [show (rdD n u e q).2.2.1 = nI (nuQ u e 1 127 q).2.1 from congrArg Prod.fst hr] at z
          exact absurd z (nI_m1 hx2)
    · rw [if_neg hgd]
      have hR8 : rdD n u e q = nuQ u e 1 127 q := hR9.trans (rtD_f hgd 7)
      refine r_puti hX dX5_readDays_28 fl_X5_45 rfl rfl (LX5_s hp) ?_
      refine r_aload_n hX dX5_readDays_31 rfl ?_
      refine rn_geti (v := -1) hX dX5_readDays_32 fl_X5_45 rfl (LX5_s hp) (show mI (uI (wI M i1) p 8 (-1)) p 8 = -1 by simp [mI_uI]) ?_
      refine r_iconst (v := (-1)) hX dX5_readDays_35 (by decide) ?_
      refine r_icmp_ne (tgt := 41) hX dX5_readDays_36 (by decide) (fun c36 => absurd rfl c36) (fun c36 => ?_)
      refine r_iconst (v := 0) hX dX5_readDays_39 (by decide) ?_
      refine r_ireturn hX rfl rfl dX5_readDays_40 (by decide) (by decide) ?_
      refine ⟨by rw [hR8, if_neg hgd], mI (uI (wI M i1) p 8 (-1)), rfl, fun x h5 h6 => (uIo h5).trans (h1.2.1 x h5), ?_, ⟨(nuQ u e 1 127 q).1, (nuQ u e 1 127 q).2.1, ?_⟩, fun z => ?_⟩
      · rw [mI_uI, if_pos rfl, if_neg (by omega)]
        exact h1.2.2 5 (by omega) (by omega) (by omega) (by omega)
      · rw [hR8]
        have z := h1.1
        unfold cQ at z ⊢
        simp only [mI_uI]
        simp
        exact z
      · rw [hR8] at z
        exact absurd z hgd
  · refine r_aload_n hX dX5_readDays_10 rfl ?_
    refine r_iconst (v := nI 1) hX dX5_readDays_11 (by decide) ?_
    refine r_aload_n hX dX5_readDays_12 rfl ?_
    refine rn_geti (v := nI q.2.1) hX dX5_readDays_13 fl_X5_42 rfl (LX5_s hp) hq.2.1 ?_
    refine r_iV2 hX dX5_readDays_16 IX5_fail ml_X5_91 rfl (LX5_s hp) rfl (t_X5_fail (M := M) hp hq (k := 1) (f := q.2.1)) (by decide) (by decide) (by decide) (by decide) rfl (Nat.le_of_ble_eq_true rfl) (fun i4 h4 => ?_)
    show J G base X _ _ (wI M i4) _ _ _
    
    refine r_ireturn hX rfl rfl dX5_readDays_19 (by decide) (by decide) ?_
    have hr : (rdD n u e q).2.2 = (nI q.2.1, nI 1) := (rt_eq hg hx9).1 (by omega)
    refine ⟨by rw [show (rdD n u e q).2.2.1 = nI q.2.1 from congrArg Prod.fst hr, if_neg (nI_m1 (by omega))]; first | done | rfl, i4, rfl, fun x h1 h2 => h4.2.1 x h1, h4.2.2 5 (by omega) (by omega) (by omega) (by omega), ⟨q.1, q.2.1, by rw [hr]; exact h4.1⟩, fun z => ?_⟩
    rw [show (rdD n u e q).2.2.1 = nI q.2.1 from congrArg Prod.fst hr] at z
    exact absurd z (nI_m1 (by omega))
