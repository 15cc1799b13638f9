variable {G : GG} {base : Nat}
/-- the place that is named -/
def rpI (n : Nat → Int32) (u : Nat → Nat) (e : Nat) (q : Q4) : Int32 := fnN n 18 (nI (snV u e q)) (nv n 0)
def rpQ (n : Nat → Int32) (u : Nat → Nat) (e : Nat) (q : Q4) : Q4 := pnQ u e (muQ (decide (¬ rpI n u e q = -1)) 3 (snR u e q))
def rvQ (n : Nat → Int32) (u : Nat → Nat) (e : Nat) (other : Int32) (q : Q4) : Q4 := pnQ u e (muQ (decide (townP n (rpI n u e q) ∧ ¬ rpI n u e q = other)) 3 (snR u e q))
theorem pnQ_le {u : Nat → Nat} {e : Nat} {q : Q4} (h : q.1 ≤ e) (hb : q.2.2.1 = -1 → q.1 = (blQ u e q).1) : (pnQ u e q).1 ≤ e := by
  have h2 := whN_le (u := u) h
  unfold pnQ
  split
  · rename_i hf
    have := hb hf
    show q.1 + whN u e q ≤ e
    omega
  · exact h
theorem bl_bl {u : Nat → Nat} {e : Nat} {q : Q4} (h : q.1 ≤ e) : blQ u e (blQ u e q) = blQ u e q := by
  unfold blQ
  split
  · dsimp only
    rw [eo_eo h]
  · rfl
theorem snmu_le {u : Nat → Nat} {e k : Nat} {c : Bool} {q : Q4} (h : q.1 ≤ e) (he : e ≤ 900) : (pnQ u e (muQ c k (snR u e q))).1 ≤ e := by
  have h1 := snR_le (u := u) h
  refine pnQ_le (by rw [muQ_1]; exact h1) (fun hf => ?_)
  have hb : (snR u e q).2.1 < 2147483648 ∨ ¬ (snR u e q).2.2.1 = -1 := by
    by_cases hs : (snR u e q).2.2.1 = -1
    · obtain ⟨h3, -, -, h4⟩ := snR_ok hs h he
      have hbl := blQ_le (u := u) h
      refine Or.inl ?_
      rw [h4]
      unfold blQ
      rw [if_pos h3]
      have := eo_le (f := blB u) h
      show eo (blB u) e q.1 < _
      omega
    · exact Or.inr hs
  have hs : (snR u e q).2.2.1 = -1 := by
    rcases hb with hb | hb
    · exact (muQ_ok hf hb).2.2
    · exfalso
      unfold muQ at hf
      rw [if_pos (Or.inr hb)] at hf
      exact hb hf
  have hm : muQ c k (snR u e q) = snR u e q := (muQ_ok hf (hb.resolve_right (fun z => z hs))).1
  rw [hm, (snR_ok hs h he).2.2.2, bl_bl h]
set_option maxHeartbeats 2000000 in
set_option maxRecDepth 20000 in
theorem t_X11_readPlaceName {M : Mm} {a e : Nat} {u : Nat → Nat} {q : Q4} {n : Nat → Int32} (hL : LX11 M.1 M.2.1 a) (hn : mI M (a + 1) = n) (h0 : Rn n 0 10) (hT : Tt (mI M) a u e) (hq : Pq (mI M) a q) (hp : q.1 ≤ e) : Ct G base YX11_readPlaceName 5 0 0 [.ref a] M (rI (some (.int (rpI n u e q))) M (pS M a (rpQ n u e q))) := by
  refine Ct.of IX11_readPlaceName.1 (by simp [Value.category]) (Nat.le_of_ble_eq_true rfl) (fun X hX hN => ?_)
  show J G base X 0 0 M 0 [some (.ref a), none] []
  have he := hT.2.2
  have hb0 := h0.2
  refine r_aload_n hX dX11_readPlaceName_0 rfl ?_
  refine r_bipush (v := nI 18) hX dX11_readPlaceName_1 (by decide) ?_
  refine r_aload_n hX dX11_readPlaceName_3 rfl ?_
  refine r_cV0 hX dX11_readPlaceName_4 IX11_places ml_X11_75 rfl (LX11_s hL) rfl (t_X11_places (M := M) hL hn h0) (by decide) (by decide) (by decide) (by decide) rfl (Nat.le_of_ble_eq_true rfl) ?_
  refine r_aload_n hX dX11_readPlaceName_7 rfl ?_
  refine r_iV0 hX dX11_readPlaceName_8 IX11_seesName ml_X11_137 rfl (LX11_s hL) rfl (t_X11_seesName (M := M) hL hT hq hp) (by decide) (by decide) (by decide) (by decide) rfl (Nat.le_of_ble_eq_true rfl) (fun i1 h1 => ?_)
  show J G base X _ _ (wI M i1) _ _ _
  have hn1 : mI (wI M i1) (a + 1) = n := (h1.2.1 _ (by omega)).trans hn
  have hT1 := h1.tt hT
  refine r_cV3 hX dX11_readPlaceName_11 IX11_find ml_X11_140 rfl (LX11_s hL) rfl (t_X11_find (M := wI M i1) hL hn1 (by omega) (by omega)) (by decide) (by decide) (by decide) (by decide) rfl (Nat.le_of_ble_eq_true rfl) ?_
  show J G base X 0 0 (wI M i1) 14 [some (.ref a), none] [.int (rpI n u e q)]
  have main : J G base X 0 0 (wI M i1) 26 [some (.ref a), some (.int (rpI n u e q))] [.int (if ¬ rpI n u e q = -1 then 1 else 0), .ref a] := by
    refine r_iconst (v := nI 3) hX dX11_readPlaceName_26 (by decide) ?_
    refine r_iV2 hX dX11_readPlaceName_27 IX11_must ml_X11_133 rfl (LX11_s hL) rfl (t_X11_must (M := wI M i1) (P := ¬ rpI n u e q = -1) (k := 3) hL h1.1) (by decide) (by decide) (by decide) (by decide) rfl (Nat.le_of_ble_eq_true rfl) (fun i2 h2 => ?_)
    show J G base X _ _ (wI M i2) _ _ _
    replace h2 := h1.tr h2
    refine r_aload_n hX dX11_readPlaceName_30 rfl ?_
    refine r_iV0 hX dX11_readPlaceName_31 IX11_passesName ml_X11_144 rfl (LX11_s hL) rfl (t_X11_passesName (M := wI M i2) hL (h2.tt hT) h2.1 (by rw [muQ_1]; exact snR_le hp)) (by decide) (by decide) (by decide) (by decide) rfl (Nat.le_of_ble_eq_true rfl) (fun i3 h3 => ?_)
    show J G base X _ _ (wI M i3) _ _ _
    replace h3 := h2.tr h3
    refine r_iload_n hX dX11_readPlaceName_34 rfl ?_
    refine r_ireturn hX rfl rfl dX11_readPlaceName_35 (by decide) (by decide) ?_
    exact ⟨rfl, i3, rfl, h3⟩
  refine r_istore1 hX dX11_readPlaceName_14 rfl ?_
  refine r_aload_n hX dX11_readPlaceName_15 rfl ?_
  refine r_iload_n hX dX11_readPlaceName_16 rfl ?_
  refine r_iconst (v := (-1)) hX dX11_readPlaceName_17 (by decide) ?_
  refine r_icmp_eq (tgt := 25) hX dX11_readPlaceName_18 (by decide) (fun c18 => ?_) (fun c18 => ?_)
  · refine r_iconst (v := nI 0) hX dX11_readPlaceName_25 (by decide) ?_
    have hP : ¬ (¬ rpI n u e q = -1) := fun y => y c18
    have z := main
    rw [if_neg hP] at z
    exact z
  · refine r_iconst (v := nI 1) hX dX11_readPlaceName_21 (by decide) ?_
    refine r_goto (tgt := 26) hX dX11_readPlaceName_22 (by decide) ?_
    have hP : (¬ rpI n u e q = -1) := c18
    have z := main
    rw [if_pos hP] at z
    exact z
set_option maxHeartbeats 2000000 in
set_option maxRecDepth 20000 in
theorem t_X11_readVillage {M : Mm} {a e : Nat} {u : Nat → Nat} {q : Q4} {n : Nat → Int32} (hL : LX11 M.1 M.2.1 a) (hn : mI M (a + 1) = n) (h0 : Rn n 0 10) (hT : Tt (mI M) a u e) (hq : Pq (mI M) a q) (hp : q.1 ≤ e) {other : Int32} : Ct G base YX11_readVillage 5 0 0 [.ref a, .int other] M (rI (some (.int (rpI n u e q))) M (pS M a (rvQ n u e other q))) := by
  refine Ct.of IX11_readVillage.1 (by simp [Value.category]) (Nat.le_of_ble_eq_true rfl) (fun X hX hN => ?_)
  show J G base X 0 0 M 0 [some (.ref a), some (.int other), none] []
  have he := hT.2.2
  have hb0 := h0.2
  refine r_aload_n hX dX11_readVillage_0 rfl ?_
  refine r_bipush (v := nI 18) hX dX11_readVillage_1 (by decide) ?_
  refine r_aload_n hX dX11_readVillage_3 rfl ?_
  refine r_cV0 hX dX11_readVillage_4 IX11_places ml_X11_75 rfl (LX11_s hL) rfl (t_X11_places (M := M) hL hn h0) (by decide) (by decide) (by decide) (by decide) rfl (Nat.le_of_ble_eq_true rfl) ?_
  refine r_aload_n hX dX11_readVillage_7 rfl ?_
  refine r_iV0 hX dX11_readVillage_8 IX11_seesName ml_X11_137 rfl (LX11_s hL) rfl (t_X11_seesName (M := M) hL hT hq hp) (by decide) (by decide) (by decide) (by decide) rfl (Nat.le_of_ble_eq_true rfl) (fun i1 h1 => ?_)
  show J G base X _ _ (wI M i1) _ _ _
  have hn1 : mI (wI M i1) (a + 1) = n := (h1.2.1 _ (by omega)).trans hn
  have hT1 := h1.tt hT
  refine r_cV3 hX dX11_readVillage_11 IX11_find ml_X11_140 rfl (LX11_s hL) rfl (t_X11_find (M := wI M i1) hL hn1 (by omega) (by omega)) (by decide) (by decide) (by decide) (by decide) rfl (Nat.le_of_ble_eq_true rfl) ?_
  show J G base X 0 0 (wI M i1) 14 [some (.ref a), some (.int other), none] [.int (rpI n u e q)]
  have main : J G base X 0 0 (wI M i1) 34 [some (.ref a), some (.int other), some (.int (rpI n u e q))] [.int (if townP n (rpI n u e q) ∧ ¬ rpI n u e q = other then 1 else 0), .ref a] := by
    refine r_iconst (v := nI 3) hX dX11_readVillage_34 (by decide) ?_
    refine r_iV2 hX dX11_readVillage_35 IX11_must ml_X11_133 rfl (LX11_s hL) rfl (t_X11_must (M := wI M i1) (P := townP n (rpI n u e q) ∧ ¬ rpI n u e q = other) (k := 3) hL h1.1) (by decide) (by decide) (by decide) (by decide) rfl (Nat.le_of_ble_eq_true rfl) (fun i2 h2 => ?_)
    show J G base X _ _ (wI M i2) _ _ _
    replace h2 := h1.tr h2
    refine r_aload_n hX dX11_readVillage_38 rfl ?_
    refine r_iV0 hX dX11_readVillage_39 IX11_passesName ml_X11_144 rfl (LX11_s hL) rfl (t_X11_passesName (M := wI M i2) hL (h2.tt hT) h2.1 (by rw [muQ_1]; exact snR_le hp)) (by decide) (by decide) (by decide) (by decide) rfl (Nat.le_of_ble_eq_true rfl) (fun i3 h3 => ?_)
    show J G base X _ _ (wI M i3) _ _ _
    replace h3 := h2.tr h3
    refine r_iload_n hX dX11_readVillage_42 rfl ?_
    refine r_ireturn hX rfl rfl dX11_readVillage_43 (by decide) (by decide) ?_
    exact ⟨rfl, i3, rfl, h3⟩
  refine r_istore2 hX dX11_readVillage_14 rfl ?_
  refine r_aload_n hX dX11_readVillage_15 rfl ?_
  refine r_aload_n hX dX11_readVillage_16 rfl ?_
  refine r_iload_n hX dX11_readVillage_17 rfl ?_
  refine r_cV1 hX dX11_readVillage_18 IX11_isTown ml_X11_166 rfl (LX11_s hL) rfl (t_X11_isTown (M := wI M i1) hL hn1 h0) (by decide) (by decide) (by decide) (by decide) rfl (Nat.le_of_ble_eq_true rfl) ?_
  refine rb_if_eq (tgt := 33) hX dX11_readVillage_21 (by decide) rfl (fun c21 => ?_) (fun c21 => ?_)
  · refine r_iconst (v := nI 0) hX dX11_readVillage_33 (by decide) ?_
    have hP : ¬ (townP n (rpI n u e q) ∧ ¬ rpI n u e q = other) := fun y => c21 y.1
    have z := main
    rw [if_neg hP] at z
    exact z
  · refine r_iload_n hX dX11_readVillage_24 rfl ?_
    refine r_iload_n hX dX11_readVillage_25 rfl ?_
    refine r_icmp_eq (tgt := 33) hX dX11_readVillage_26 (by decide) (fun c26 => ?_) (fun c26 => ?_)
    · refine r_iconst (v := nI 0) hX dX11_readVillage_33 (by decide) ?_
      have hP : ¬ (townP n (rpI n u e q) ∧ ¬ rpI n u e q = other) := fun y => y.2 c26
      have z := main
      rw [if_neg hP] at z
      exact z
    · refine r_iconst (v := nI 1) hX dX11_readVillage_29 (by decide) ?_
      refine r_goto (tgt := 34) hX dX11_readVillage_30 (by decide) ?_
      have hP : (townP n (rpI n u e q) ∧ ¬ rpI n u e q = other) := ⟨c21, c26⟩
      have z := main
      rw [if_pos hP] at z
      exact z
