variable {G : GG} {base : Nat}
/-- the name that is seen: its number, and where that leaves the reader -/
def snR (u : Nat → Nat) (e : Nat) (q : Q4) : Q4 := muQ (decide (1 ≤ whN u e q ∧ whN u e q ≤ 6)) 1 (blQ u e q)
def snV (u : Nat → Nat) (e : Nat) (q : Q4) : Nat := if (snR u e q).2.2.1 = -1 then nmV u (blQ u e q).1 (whN u e q) else 0
theorem snR_le {u : Nat → Nat} {e : Nat} {q : Q4} (h : q.1 ≤ e) : (snR u e q).1 ≤ e := by
  unfold snR
  rw [muQ_1]
  exact blQ_le h
theorem muQ_ok {c : Bool} {k : Nat} {q : Q4} (h : (muQ c k q).2.2.1 = -1) (hb : q.2.1 < 2147483648) : muQ c k q = q ∧ c = true ∧ q.2.2.1 = -1 := by
  unfold muQ at h ⊢
  by_cases hc : c = true ∨ ¬ q.2.2.1 = -1
  · rw [if_pos hc] at h ⊢
    exact ⟨rfl, hc.resolve_right (fun z => z h), h⟩
  · rw [if_neg hc] at h
    exact absurd h (nI_ne_m1 hb)
/-- a number's value: of three digits at most -/
def nuV (u : Nat → Nat) (p : Nat) : Nat → Nat
  | 0 => 0
  | k + 1 => if k < 3 then 10 * nuV u p k + (u (p + k) - 48) else nuV u p k
theorem nuV_b {u : Nat → Nat} {p : Nat} : ∀ k, (∀ j, j < k → dgB u (p + j) = true) → nuV u p k < 1000 ∧ (k < 3 → nuV u p k < 10 ^ k)
  | 0, _ => ⟨by show 0 < 1000; omega, fun _ => by show 0 < 1; omega⟩
  | k + 1, h => by
    have ih := nuV_b k (fun j hj => h j (by omega))
    have hk : 48 ≤ u (p + k) ∧ u (p + k) ≤ 57 := of_decide_eq_true (h k (by omega))
    unfold nuV
    split
    · rename_i h3
      rcases (show k = 0 ∨ k = 1 ∨ k = 2 by omega) with rfl | rfl | rfl
      · have := ih.2 (by omega)
        simp only [Nat.pow_zero] at this
        refine ⟨by omega, fun _ => ?_⟩
        show _ < 10 ^ 1
        omega
      · have := ih.2 (by omega)
        simp only [Nat.pow_one] at this
        refine ⟨by omega, fun _ => ?_⟩
        show _ < 10 ^ 2
        omega
      · have := ih.2 (by omega)
        have e2 : 10 ^ 2 = 100 := by decide
        exact ⟨by omega, fun hh => absurd hh (by omega)⟩
    · exact ⟨ih.1, fun hh => absurd hh (by omega)⟩
/-- a number from lo to hi -/
def nuQ1 (u : Nat → Nat) (e : Nat) (q : Q4) : Q4 := muQ (decide ((blQ u e q).1 < e ∧ dgB u (blQ u e q).1 = true)) 1 (blQ u e q)
def nuE (u : Nat → Nat) (e : Nat) (q : Q4) : Nat := eo (dgB u) e (blQ u e q).1
def nuX (u : Nat → Nat) (e : Nat) (q : Q4) : Nat := nuV u (blQ u e q).1 (nuE u e q - (blQ u e q).1)
def nuQ2 (u : Nat → Nat) (e lo hi : Nat) (q : Q4) : Q4 := muQ (decide (nuE u e q - (blQ u e q).1 ≤ 3 ∧ lo ≤ nuX u e q ∧ nuX u e q ≤ hi)) 2 (nuE u e q, (nuQ1 u e q).2)
def nuQ (u : Nat → Nat) (e lo hi : Nat) (q : Q4) : Q4 := if (nuQ1 u e q).2.2.1 = -1 then nuQ2 u e lo hi q else nuQ1 u e q
def nuW (u : Nat → Nat) (e lo hi : Nat) (q : Q4) : Nat := if (nuQ1 u e q).2.2.1 = -1 ∧ (nuQ2 u e lo hi q).2.2.1 = -1 then nuX u e q else lo
theorem snR_ok {u : Nat → Nat} {e : Nat} {q : Q4} (h : (snR u e q).2.2.1 = -1) (hp : q.1 ≤ e) (he : e ≤ 900) : q.2.2.1 = -1 ∧ 1 ≤ whN u e q ∧ whN u e q ≤ 6 ∧ snR u e q = blQ u e q := by
  by_cases hf : q.2.2.1 = -1
  · have hb := blQ_le (u := u) hp
    have e2 : (blQ u e q).2.1 = (blQ u e q).1 := by unfold blQ; rw [if_pos hf]
    obtain ⟨h1, h2, h3⟩ := muQ_ok (c := decide (1 ≤ whN u e q ∧ whN u e q ≤ 6)) (k := 1) (q := blQ u e q) h (by omega)
    exact ⟨hf, (of_decide_eq_true h2).1, (of_decide_eq_true h2).2, h1⟩
  · refine absurd ?_ hf
    have hq : blQ u e q = q := by unfold blQ; rw [if_neg hf]
    unfold snR at h
    rw [hq] at h
    unfold muQ at h
    rw [if_pos (Or.inr hf)] at h
    exact h
set_option maxHeartbeats 2000000 in
set_option maxRecDepth 20000 in
theorem t_X11_seesName {M : Mm} {a e : Nat} {u : Nat → Nat} {q : Q4} (hL : LX11 M.1 M.2.1 a) (hT : Tt (mI M) a u e) (hq : Pq (mI M) a q) (hp : q.1 ≤ e) : Ct G base YX11_seesName 4 0 0 [.ref a] M (rI (some (.int (nI (snV u e q)))) M (pS M a (snR u e q))) := by
  refine Ct.of IX11_seesName.1 (by simp [Value.category]) (Nat.le_of_ble_eq_true rfl) (fun X hX hN => ?_)
  show J G base X 0 0 M 0 [some (.ref a), none, none, none] []
  have he := hT.2.2
  have hw := whN_le (u := u) hp
  have hb := blQ_le (u := u) hp
  refine r_aload_n hX dX11_seesName_0 rfl ?_
  refine r_iV0 hX dX11_seesName_1 IX11_wordHere ml_X11_121 rfl (LX11_s hL) rfl (t_X11_wordHere hL hT hq hp) (by decide) (by decide) (by decide) (by decide) rfl (Nat.le_of_ble_eq_true rfl) (fun i1 h1 => ?_)
  show J G base X _ _ (wI M i1) _ _ _
  refine r_istore1 hX dX11_seesName_4 rfl ?_
  refine r_aload_n hX dX11_seesName_5 rfl ?_
  refine r_iload_n hX dX11_seesName_6 rfl ?_
  refine r_iconst (v := 1) hX dX11_seesName_7 (by decide) ?_
  refine r_bipush (v := 6) hX dX11_seesName_8 (by decide) ?_
  refine r_cS3 hX dX11_seesName_10 IX11_in ml_X11_79 rfl (t_X11_in) (by decide) (by decide) (by decide) (by decide) rfl (Nat.le_of_ble_eq_true rfl) ?_
  rw [show (if (1 : Int32) ≤ nI (whN u e q) ∧ nI (whN u e q) ≤ 6 then (1 : Int32) else 0) = if 1 ≤ whN u e q ∧ whN u e q ≤ 6 then 1 else 0 from itec (and_congr (nI_leI (a := 1) (b := whN u e q) (by omega) (by omega)) (nI_leI (a := whN u e q) (b := 6) (by omega) (by omega)))]
  refine r_iconst (v := nI 1) hX dX11_seesName_13 (by decide) ?_
  refine r_iV2 hX dX11_seesName_14 IX11_must ml_X11_133 rfl (LX11_s hL) rfl (t_X11_must (M := wI M i1) (P := 1 ≤ whN u e q ∧ whN u e q ≤ 6) (k := 1) hL h1.1) (by decide) (by decide) (by decide) (by decide) rfl (Nat.le_of_ble_eq_true rfl) (fun i2 h2 => ?_)
  show J G base X _ _ (wI M i2) _ _ _
  replace h2 := h1.tr h2
  change pS M a (snR u e q) i2 at h2
  refine r_iconst (v := nI 0) hX dX11_seesName_17 (by decide) ?_
  refine r_istore2 hX dX11_seesName_18 rfl ?_
  refine r_iconst (v := nI 0) hX dX11_seesName_19 (by decide) ?_
  refine r_istore3 hX dX11_seesName_20 rfl ?_
  have hT2 := h2.tt hT
  refine loop_up (P := fun j => ((snR u e q).2.2.1 = -1 ∨ j = 0) → J G base X 0 0 (wI M i2) 21 [some (.ref a), some (.int (nI (whN u e q))), some (.int (nI (nmV u (blQ u e q).1 j))), some (.int (nI j))] []) (whN u e q) (fun j hj ih hj0 => ?_) 0 (Nat.zero_le _) (Or.inr rfl)
  refine r_iload_n hX dX11_seesName_21 rfl ?_
  refine r_iload_n hX dX11_seesName_22 rfl ?_
  refine rn_icmp_ge (tgt := 61) hX dX11_seesName_23 (by decide) rfl rfl (by omega) (by omega) (fun c23 => ?_) (fun c23 => ?_)
  · refine r_iload_n hX dX11_seesName_61 rfl ?_
    refine r_ireturn hX rfl rfl dX11_seesName_62 (by decide) (by decide) ?_
    refine ⟨?_, i2, rfl, h2⟩
    have hv : snV u e q = nmV u (blQ u e q).1 j := by
      unfold snV
      by_cases hf : (snR u e q).2.2.1 = -1
      · rw [if_pos hf, show whN u e q = j by omega]
      · rw [if_neg hf]
        obtain rfl := hj0.resolve_left hf
        rfl
    rw [hv]
  · refine r_aload_n hX dX11_seesName_26 rfl ?_
    refine r_cV0 hX dX11_seesName_27 IX11_hasFailed ml_X11_104 rfl (LX11_s hL) rfl (t_X11_hasFailed (M := wI M i2) hL h2.1) (by decide) (by decide) (by decide) (by decide) rfl (Nat.le_of_ble_eq_true rfl) ?_
    refine rb_if_ne (tgt := 61) hX dX11_seesName_30 (by decide) rfl (fun c30 => ?_) (fun c30 => ?_)
    · refine r_iload_n hX dX11_seesName_61 rfl ?_
      refine r_ireturn hX rfl rfl dX11_seesName_62 (by decide) (by decide) ?_
      refine ⟨?_, i2, rfl, h2⟩
      have hv : snV u e q = nmV u (blQ u e q).1 j := by
        unfold snV
        by_cases hf : (snR u e q).2.2.1 = -1
        · rw [if_pos hf, show whN u e q = j from absurd hf c30]
        · rw [if_neg hf]
          obtain rfl := hj0.resolve_left hf
          rfl
      rw [hv]
    · have hf : (snR u e q).2.2.1 = -1 := Classical.not_not.mp c30
      obtain ⟨-, -, h6, hsq⟩ := snR_ok hf hp he
      have hlj := whN_l (u := u) (e := e) (q := q) (j := j) (by omega)
      have hvb := nmV_b (u := u) (p := (blQ u e q).1) (k := j) (by omega) (fun k hk => whN_l (by omega))
      have hs1 : (snR u e q).1 = (blQ u e q).1 := by rw [hsq]
      refine r_bipush (v := nI 27) hX dX11_seesName_33 (by decide) ?_
      refine r_iload_n hX dX11_seesName_35 rfl ?_
      refine rn_imul hX dX11_seesName_36 rfl rfl ?_
      refine r_aload_n hX dX11_seesName_37 rfl ?_
      refine r_getr hX dX11_seesName_38 fl_X11_23 rfl (LX11_s hL) (LX11_r5 hL) ?_
      refine r_aload_n hX dX11_seesName_41 rfl ?_
      refine rn_geti (v := nI (snR u e q).1) hX dX11_seesName_42 fl_X11_98 rfl (LX11_s hL) h2.1.1 ?_
      refine r_iload_n hX dX11_seesName_45 rfl ?_
      refine rn_iadd hX dX11_seesName_46 rfl rfl ?_
      refine rn_bald hX dX11_seesName_47 (LX11_a5 hL) rfl (by omega) (by omega) ?_
      rw [show mI (wI M i2) (a + 4) ((snR u e q).1 + j) = sbI (u ((blQ u e q).1 + j)) from by rw [hs1]; exact (hT2.1 _ (by omega)).2, sbI_l hlj]
      refine rn_iadd hX dX11_seesName_48 rfl rfl ?_
      refine r_bipush (v := nI 97) hX dX11_seesName_49 (by decide) ?_
      refine rn_isub hX dX11_seesName_51 rfl rfl (by omega) ?_
      refine r_iconst (v := nI 1) hX dX11_seesName_52 (by decide) ?_
      refine rn_iadd hX dX11_seesName_53 rfl rfl ?_
      refine r_istore2 hX dX11_seesName_54 rfl ?_
      refine rn_iinc3 hX dX11_seesName_55 rfl rfl ?_
      refine r_goto (tgt := 21) hX dX11_seesName_58 (by decide) ?_
      have z := ih (by omega) (Or.inl hf)
      rw [show nmV u (blQ u e q).1 (j + 1) = 27 * nmV u (blQ u e q).1 j + u ((blQ u e q).1 + j) - 97 + 1 by show 27 * nmV u (blQ u e q).1 j + (u ((blQ u e q).1 + j) - 96) = _; omega] at z
      exact z
