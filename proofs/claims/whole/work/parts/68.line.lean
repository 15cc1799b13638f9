variable {G : GG} {base : Nat}
/-- a line: row, read row, registers, before its end -/
def lnX (n rd : Nat → Int32) (u : Nat → Nat) (e : Nat) (q : Q4) : (Nat → Int32) × (Nat → Int32) × Q4 :=
  if hasW u e 0 q = true then (pcN n q.2.1 1 u e (tkQ u e 0 q), rd, plR n q.2.1 1 u e (tkQ u e 0 q))
  else if hasW u e 1 (tkQ u e 0 q) = true then (pcN n q.2.1 0 u e (tkQ u e 1 (tkQ u e 0 q)), rd, plR n q.2.1 0 u e (tkQ u e 1 (tkQ u e 0 q)))
  else if hasW u e 2 (tkQ u e 1 (tkQ u e 0 q)) = true then (crN n q.2.1 u e (tkQ u e 2 (tkQ u e 1 (tkQ u e 0 q))), rd, crR n q.2.1 u e (tkQ u e 2 (tkQ u e 1 (tkQ u e 0 q))))
  else if hasW u e 3 (tkQ u e 2 (tkQ u e 1 (tkQ u e 0 q))) = true then (rtN n rd q.2.1 u e (tkQ u e 3 (tkQ u e 2 (tkQ u e 1 (tkQ u e 0 q)))), rtE n rd q.2.1 u e (tkQ u e 3 (tkQ u e 2 (tkQ u e 1 (tkQ u e 0 q)))), rtR n rd q.2.1 u e (tkQ u e 3 (tkQ u e 2 (tkQ u e 1 (tkQ u e 0 q)))))
  else if hasW u e 4 (tkQ u e 3 (tkQ u e 2 (tkQ u e 1 (tkQ u e 0 q)))) = true then (upd n 5 (nI (nuW u e 1 20 (tkQ u e 4 (tkQ u e 3 (tkQ u e 2 (tkQ u e 1 (tkQ u e 0 q))))))), rd, nuQ u e 1 20 (tkQ u e 4 (tkQ u e 3 (tkQ u e 2 (tkQ u e 1 (tkQ u e 0 q))))))
  else if hasW u e 5 (tkQ u e 4 (tkQ u e 3 (tkQ u e 2 (tkQ u e 1 (tkQ u e 0 q))))) = true then (ltN n q.2.1 u e (tkQ u e 5 (tkQ u e 4 (tkQ u e 3 (tkQ u e 2 (tkQ u e 1 (tkQ u e 0 q)))))), rd, ltR n q.2.1 u e (tkQ u e 5 (tkQ u e 4 (tkQ u e 3 (tkQ u e 2 (tkQ u e 1 (tkQ u e 0 q)))))))
  else (n, rd, muQ false 1 (tkQ u e 5 (tkQ u e 4 (tkQ u e 3 (tkQ u e 2 (tkQ u e 1 (tkQ u e 0 q)))))))
/-- a line's end -/
def edM (u : Nat → Nat) (e : Nat) (q : Q4) : Q4 := muQ (decide ((blQ u e q).1 < e ∧ cl u 59 59 (blQ u e q).1 = true)) 1 (blQ u e q)
def edQ (u : Nat → Nat) (e : Nat) (q : Q4) : Q4 := blQ u e ((edM u e q).1 + 1, (edM u e q).2)
theorem nwQ_le {n : Nat → Int32} {f m : Nat} {u : Nat → Nat} {e : Nat} {q : Q4} (h : q.1 ≤ e) (he : e ≤ 900) : (nwQ n f m u e q).1 ≤ e := snmu_le h he
theorem plR_le {n : Nat → Int32} {x v : Nat} {u : Nat → Nat} {e : Nat} {q : Q4} (h : q.1 ≤ e) (he : e ≤ 900) : (plR n x v u e q).1 ≤ e := by
  have hs : (plS n x q).1 ≤ e := by unfold plS; rw [muQ_1]; exact h
  unfold plR
  split
  · exact nwQ_le hs he
  · exact hs
theorem crR_le {n : Nat → Int32} {x : Nat} {u : Nat → Nat} {e : Nat} {q : Q4} (h : q.1 ≤ e) (he : e ≤ 900) : (crR n x u e q).1 ≤ e := by
  have hs : (crS9 n x q).1 ≤ e := by unfold crS9; rw [muQ_1]; exact h
  unfold crR
  split
  · exact nwQ_le hs he
  · exact hs
theorem ltR_le {n : Nat → Int32} {x : Nat} {u : Nat → Nat} {e : Nat} {q : Q4} (h : q.1 ≤ e) (he : e ≤ 900) : (ltR n x u e q).1 ≤ e := by
  have hs : (ltS n x q).1 ≤ e := by unfold ltS; rw [muQ_1]; exact h
  have hb : (ltB n u e (ltS n x q)).1 ≤ e := rvQ_le (rvQ_le hs he) he
  unfold ltR
  split
  · unfold ltD
    split
    · exact nuQ_le (tkQ_le hb)
    · exact tkQ_le hb
  · exact hs
theorem stZ_le {n : Nat → Int32} {u : Nat → Nat} {e : Nat} (he : e ≤ 900) : ∀ (f lo c : Nat) (rd : Nat → Int32) (q : Q4), q.1 ≤ e → (stZ n u e f lo c rd q).2.1 ≤ e
  | 0, _, _, _, _, h => h
  | f + 1, lo, c, rd, q, h => by
    have hC : (stC n u e lo c q).1 ≤ e := rpQ_le (nuQ_le (stA_le h)) he
    by_cases h1 : (stC n u e lo c q).2.2.1 = -1
    · by_cases h2 : (blQ u e (stC n u e lo c q)).1 < e ∧ dgB u (blQ u e (stC n u e lo c q)).1 = true
      · rw [stZ_more h1 h2]
        exact stZ_le he f _ _ _ _ (blQ_le hC)
      · rw [stZ_end h1 h2]
        exact blQ_le hC
    · rw [stZ_bad h1]
      exact hC
theorem rtR_le {n rd : Nat → Int32} {x : Nat} {u : Nat → Nat} {e : Nat} {q : Q4} (h : q.1 ≤ e) (he : e ≤ 900) : (rtR n rd x u e q).1 ≤ e := by
  have hs : (rtM n x q).1 ≤ e := by unfold rtM; rw [muQ_1]; exact h
  have hb : (rtB n x u e q).1 ≤ e := nuQ_le hs
  unfold rtR
  split
  · unfold rtZ
    exact stZ_le he _ _ _ _ _ (by rw [rtD_1]; exact hb)
  · exact hb
theorem lnX_le {n rd : Nat → Int32} {u : Nat → Nat} {e : Nat} {q : Q4} (h : q.1 ≤ e) (he : e ≤ 900) : (lnX n rd u e q).2.2.1 ≤ e := by
  have h0 : (tkQ u e 0 q).1 ≤ e := tkQ_le h
  have h1 : (tkQ u e 1 (tkQ u e 0 q)).1 ≤ e := tkQ_le h0
  have h2 : (tkQ u e 2 (tkQ u e 1 (tkQ u e 0 q))).1 ≤ e := tkQ_le h1
  have h3 : (tkQ u e 3 (tkQ u e 2 (tkQ u e 1 (tkQ u e 0 q)))).1 ≤ e := tkQ_le h2
  have h4 : (tkQ u e 4 (tkQ u e 3 (tkQ u e 2 (tkQ u e 1 (tkQ u e 0 q))))).1 ≤ e := tkQ_le h3
  have h5 : (tkQ u e 5 (tkQ u e 4 (tkQ u e 3 (tkQ u e 2 (tkQ u e 1 (tkQ u e 0 q)))))).1 ≤ e := tkQ_le h4
  unfold lnX
  split
  · exact plR_le h0 he
  split
  · exact plR_le h1 he
  split
  · exact crR_le h2 he
  split
  · exact rtR_le h3 he
  split
  · exact nuQ_le h4
  split
  · exact ltR_le h5 he
  · rw [muQ_1]
    exact h5
set_option maxHeartbeats 2000000 in
set_option maxRecDepth 20000 in
theorem t_X11_blanksF {M : Mm} {a : Nat} {q : Q4} {u : Nat → Nat} {e : Nat} (hL : LX11 M.1 M.2.1 a) (hq : Pq (mI M) a q) (hf : ¬ q.2.2.1 = -1) : Ct G base YX11_blanks 2 0 0 [.ref a] M (rI none M (pS M a (blQ u e q))) := by
  refine Ct.of IX11_blanks.1 (by simp [Value.category]) (Nat.le_of_ble_eq_true rfl) (fun X hX hN => ?_)
  show J G base X 0 0 M 0 [some (.ref a)] []
  refine r_aload_n hX dX11_blanks_0 rfl ?_
  refine r_cV0 hX dX11_blanks_1 IX11_hasFailed ml_X11_104 rfl (LX11_s hL) rfl (t_X11_hasFailed hL hq) (by decide) (by decide) (by decide) (by decide) rfl (Nat.le_of_ble_eq_true rfl) ?_
  refine rb_if_eq (tgt := 8) hX dX11_blanks_4 (by decide) rfl (fun c4 => absurd c4 (fun z => z hf)) (fun c4 => ?_)
  refine r_return hX rfl dX11_blanks_7 (by decide) (by decide) ?_
  refine ⟨rfl, mI M, rfl, ?_⟩
  rw [fl_bl hf]
  exact pS.rf hq
theorem edM_ok {u : Nat → Nat} {e : Nat} {q : Q4} (h : q.1 ≤ e) (he : e ≤ 900) (hf : (edM u e q).2.2.1 = -1) : (edM u e q).1 < e ∧ edM u e q = blQ u e q ∧ q.2.2.1 = -1 ∧ u (blQ u e q).1 = 59 := by
  have hq : q.2.2.1 = -1 := Classical.byContradiction fun z => z (by
    have hs : edM u e q = q := by unfold edM; rw [fl_bl z, fl_mu z]
    rw [← hs]
    exact hf)
  have hb := blQ_le (u := u) h
  have e2 : (blQ u e q).2.1 = (blQ u e q).1 := by unfold blQ; rw [if_pos hq]
  obtain ⟨h1, h2, -⟩ := muQ_ok (c := decide ((blQ u e q).1 < e ∧ cl u 59 59 (blQ u e q).1 = true)) (k := 1) (q := blQ u e q) hf (by omega)
  obtain ⟨g1, g2⟩ := of_decide_eq_true h2
  have g3 : 59 ≤ u (blQ u e q).1 ∧ u (blQ u e q).1 ≤ 59 := of_decide_eq_true g2
  exact ⟨by rw [show edM u e q = blQ u e q from h1]; exact g1, h1, hq, by omega⟩
theorem t_X11_blanksX {M : Mm} {a e : Nat} {u : Nat → Nat} {q : Q4} (hL : LX11 M.1 M.2.1 a) (hT : Tt (mI M) a u e) (hq : Pq (mI M) a q) (hp : q.2.2.1 = -1 → q.1 ≤ e) : Ct G base YX11_blanks 2 0 0 [.ref a] M (rI none M (pS M a (blQ u e q))) := by
  by_cases h : q.2.2.1 = -1
  · exact t_X11_blanks hL hT hq (hp h)
  · exact t_X11_blanksF hL hq h
set_option maxHeartbeats 2000000 in
set_option maxRecDepth 20000 in
theorem t_X11_readLine {M : Mm} {a e : Nat} {u : Nat → Nat} {q : Q4} {n : Nat → Int32} (hL : LX11 M.1 M.2.1 a) (hn : mI M (a + 1) = n) (h0 : Rn n 0 10) (hT : Tt (mI M) a u e) (hq : Pq (mI M) a q) (hp : q.1 ≤ e) (h1 : Rn n 1 5) (h2 : Rn n 2 30) (hx : q.2.1 < 100000) {rd : Nat → Int32} (hrd : mI M (a + 6) = rd) : Ct G base YX11_readLine 8 0 0 [.ref a] M (rI none M (pX M a (lnX n rd u e q).1 (lnX n rd u e q).2.1 (edQ u e (lnX n rd u e q).2.2))) := by
  refine Ct.of IX11_readLine.1 (by simp [Value.category]) (Nat.le_of_ble_eq_true rfl) (fun X hX hN => ?_)
  show J G base X 0 0 M 0 [some (.ref a), none] []
  have he := hT.2.2
  have h0n := h0
  have h1n := h1
  have h2n := h2
  clear h1 h2
  have fin : ∀ (i : Nat → Nat → Int32) (n' rd' : Nat → Int32) (q' : Q4), pX M a n' rd' q' i → (n', rd', q') = lnX n rd u e q → J G base X 0 0 (wI M i) 123 [some (.ref a), some (.int (nI q.2.1))] [] := by
    intro i n' rd' q' h hz
    have hle : q'.1 ≤ e := by
      have z := lnX_le (n := n) (rd := rd) (u := u) hp he
      rw [← hz] at z
      exact z
    refine r_aload_n hX dX11_readLine_123 rfl ?_
    refine r_iV0 hX dX11_readLine_124 IX11_blanks ml_X11_118 rfl (LX11_s hL) rfl (t_X11_blanks (M := wI M i) hL (h.tt hT) h.1 hle) (by decide) (by decide) (by decide) (by decide) rfl (Nat.le_of_ble_eq_true rfl) (fun i1 h1 => ?_)
    show J G base X _ _ (wI M i1) _ _ _
    replace h1 := h.trS h1
    have hb1 := blQ_le (u := u) hle
    refine r_aload_n hX dX11_readLine_127 rfl ?_
    refine r_aload_n hX dX11_readLine_128 rfl ?_
    refine r_bipush (v := nI 59) hX dX11_readLine_129 (by decide) ?_
    refine r_bipush (v := nI 59) hX dX11_readLine_131 (by decide) ?_
    refine r_cV2 hX dX11_readLine_133 IX11_isAt ml_X11_108 rfl (LX11_s hL) rfl (t_X11_isAt (M := wI M i1) hL (h1.tt hT) h1.1 (by omega) (by omega) (by omega)) (by decide) (by decide) (by decide) (by decide) rfl (Nat.le_of_ble_eq_true rfl) ?_
    refine r_iconst (v := nI 1) hX dX11_readLine_136 (by decide) ?_
    refine r_iV2 hX dX11_readLine_137 IX11_must ml_X11_133 rfl (LX11_s hL) rfl (t_X11_must (M := wI M i1) (P := (blQ u e q').1 < e ∧ cl u 59 59 (blQ u e q').1 = true) (k := 1) hL h1.1) (by decide) (by decide) (by decide) (by decide) rfl (Nat.le_of_ble_eq_true rfl) (fun i2 h2 => ?_)
    show J G base X _ _ (wI M i2) _ _ _
    replace h2 := h1.trS h2
    change pX M a n' rd' (edM u e q') i2 at h2
    refine r_aload_n hX dX11_readLine_140 rfl ?_
    refine r_dup hX dX11_readLine_141 rfl ?_
    refine rn_geti (v := nI (edM u e q').1) hX dX11_readLine_142 fl_X11_98 rfl (LX11_s hL) h2.1.1 ?_
    refine r_iconst (v := nI 1) hX dX11_readLine_145 (by decide) ?_
    refine rn_iadd hX dX11_readLine_146 rfl rfl ?_
    refine r_puti hX dX11_readLine_147 fl_X11_98 rfl rfl (LX11_s hL) ?_
    have h3 : pX M a n' rd' ((edM u e q').1 + 1, (edM u e q').2) (mI (uI (wI M i2) a 8 (nI ((edM u e q').1 + 1)))) := h2.put (by omega) (Pq8 (M := wI M i2) h2.1)
    have hle3 : (edM u e q').2.2.1 = -1 → (edM u e q').1 + 1 ≤ e := by
      intro z
      obtain ⟨z1, z2⟩ := edM_ok hle he z
      omega
    refine r_aload_n hX dX11_readLine_150 rfl ?_
    refine r_iV0 hX dX11_readLine_151 IX11_blanks ml_X11_118 rfl (LX11_s hL) rfl (t_X11_blanksX (M := uI (wI M i2) a 8 (nI ((edM u e q').1 + 1))) hL (h3.tt hT) h3.1 hle3) (by decide) (by decide) (by decide) (by decide) rfl (Nat.le_of_ble_eq_true rfl) (fun i4 h4 => ?_)
    show J G base X _ _ (wI M i4) _ _ _
    replace h4 := h3.trS (i := mI (uI (wI M i2) a 8 (nI ((edM u e q').1 + 1)))) h4
    refine r_return hX rfl dX11_readLine_154 (by decide) (by decide) ?_
    refine ⟨rfl, i4, rfl, ?_⟩
    rw [← hz]
    exact h4
  refine r_aload_n hX dX11_readLine_0 rfl ?_
  refine rn_geti (v := nI q.2.1) hX dX11_readLine_1 fl_X11_112 rfl (LX11_s hL) hq.2.1 ?_
  refine r_istore1 hX dX11_readLine_4 rfl ?_
  refine r_aload_n hX dX11_readLine_5 rfl ?_
  refine r_ldcS (i := 0) hX dX11_readLine_6 (show (RX11, 186, 0) ∈ txR by simp [txR]) ?_
  refine r_iV1 hX dX11_readLine_8 IX11_takes ml_X11_179 rfl (LX11_s hL) rfl (t_X11_takes (M := M) hL hT hq hp (w := 0) (by decide)) (by decide) (by decide) (by decide) (by decide) rfl (Nat.le_of_ble_eq_true rfl) (fun i0 h0 => ?_)
  show J G base X _ _ (wI M i0) _ _ _
  have hp0 : (tkQ u e 0 q).1 ≤ e := tkQ_le hp
  have hn0 : mI (wI M i0) (a + 1) = n := (h0.2.1 _ (by omega)).trans hn
  refine rb_if_eq (tgt := 23) hX dX11_readLine_11 (by decide) rfl (fun c11 => ?_) (fun c11 => ?_)
  · refine r_aload_n hX dX11_readLine_23 rfl ?_
    refine r_ldcS (i := 1) hX dX11_readLine_24 (show (RX11, 192, 1) ∈ txR by simp [txR]) ?_
    refine r_iV1 hX dX11_readLine_26 IX11_takes ml_X11_179 rfl (LX11_s hL) rfl (t_X11_takes (M := wI M i0) hL (h0.tt hT) h0.1 hp0 (w := 1) (by decide)) (by decide) (by decide) (by decide) (by decide) rfl (Nat.le_of_ble_eq_true rfl) (fun i1 h1 => ?_)
    show J G base X _ _ (wI M i1) _ _ _
    replace h1 := h0.tr h1
    have hp1 : (tkQ u e 1 (tkQ u e 0 q)).1 ≤ e := tkQ_le hp0
    have hn1 : mI (wI M i1) (a + 1) = n := (h1.2.1 _ (by omega)).trans hn
    refine rb_if_eq (tgt := 41) hX dX11_readLine_29 (by decide) rfl (fun c29 => ?_) (fun c29 => ?_)
    · refine r_aload_n hX dX11_readLine_41 rfl ?_
      refine r_ldcS (i := 2) hX dX11_readLine_42 (show (RX11, 194, 2) ∈ txR by simp [txR]) ?_
      refine r_iV1 hX dX11_readLine_44 IX11_takes ml_X11_179 rfl (LX11_s hL) rfl (t_X11_takes (M := wI M i1) hL (h1.tt hT) h1.1 hp1 (w := 2) (by decide)) (by decide) (by decide) (by decide) (by decide) rfl (Nat.le_of_ble_eq_true rfl) (fun i2 h2 => ?_)
      show J G base X _ _ (wI M i2) _ _ _
      replace h2 := h1.tr h2
      have hp2 : (tkQ u e 2 (tkQ u e 1 (tkQ u e 0 q))).1 ≤ e := tkQ_le hp1
      have hn2 : mI (wI M i2) (a + 1) = n := (h2.2.1 _ (by omega)).trans hn
      refine rb_if_eq (tgt := 58) hX dX11_readLine_47 (by decide) rfl (fun c47 => ?_) (fun c47 => ?_)
      · refine r_aload_n hX dX11_readLine_58 rfl ?_
        refine r_ldcS (i := 3) hX dX11_readLine_59 (show (RX11, 200, 3) ∈ txR by simp [txR]) ?_
        refine r_iV1 hX dX11_readLine_61 IX11_takes ml_X11_179 rfl (LX11_s hL) rfl (t_X11_takes (M := wI M i2) hL (h2.tt hT) h2.1 hp2 (w := 3) (by decide)) (by decide) (by decide) (by decide) (by decide) rfl (Nat.le_of_ble_eq_true rfl) (fun i3 h3 => ?_)
        show J G base X _ _ (wI M i3) _ _ _
        replace h3 := h2.tr h3
        have hp3 : (tkQ u e 3 (tkQ u e 2 (tkQ u e 1 (tkQ u e 0 q)))).1 ≤ e := tkQ_le hp2
        have hn3 : mI (wI M i3) (a + 1) = n := (h3.2.1 _ (by omega)).trans hn
        refine rb_if_eq (tgt := 75) hX dX11_readLine_64 (by decide) rfl (fun c64 => ?_) (fun c64 => ?_)
        · refine r_aload_n hX dX11_readLine_75 rfl ?_
          refine r_ldcS (i := 4) hX dX11_readLine_76 (show (RX11, 205, 4) ∈ txR by simp [txR]) ?_
          refine r_iV1 hX dX11_readLine_78 IX11_takes ml_X11_179 rfl (LX11_s hL) rfl (t_X11_takes (M := wI M i3) hL (h3.tt hT) h3.1 hp3 (w := 4) (by decide)) (by decide) (by decide) (by decide) (by decide) rfl (Nat.le_of_ble_eq_true rfl) (fun i4 h4 => ?_)
          show J G base X _ _ (wI M i4) _ _ _
          replace h4 := h3.tr h4
          have hp4 : (tkQ u e 4 (tkQ u e 3 (tkQ u e 2 (tkQ u e 1 (tkQ u e 0 q))))).1 ≤ e := tkQ_le hp3
          have hn4 : mI (wI M i4) (a + 1) = n := (h4.2.1 _ (by omega)).trans hn
          refine rb_if_eq (tgt := 100) hX dX11_readLine_81 (by decide) rfl (fun c81 => ?_) (fun c81 => ?_)
          · refine r_aload_n hX dX11_readLine_100 rfl ?_
            refine r_ldcS (i := 5) hX dX11_readLine_101 (show (RX11, 207, 5) ∈ txR by simp [txR]) ?_
            refine r_iV1 hX dX11_readLine_103 IX11_takes ml_X11_179 rfl (LX11_s hL) rfl (t_X11_takes (M := wI M i4) hL (h4.tt hT) h4.1 hp4 (w := 5) (by decide)) (by decide) (by decide) (by decide) (by decide) rfl (Nat.le_of_ble_eq_true rfl) (fun i5 h5 => ?_)
            show J G base X _ _ (wI M i5) _ _ _
            replace h5 := h4.tr h5
            have hp5 : (tkQ u e 5 (tkQ u e 4 (tkQ u e 3 (tkQ u e 2 (tkQ u e 1 (tkQ u e 0 q)))))).1 ≤ e := tkQ_le hp4
            have hn5 : mI (wI M i5) (a + 1) = n := (h5.2.1 _ (by omega)).trans hn
            refine rb_if_eq (tgt := 117) hX dX11_readLine_106 (by decide) rfl (fun c106 => ?_) (fun c106 => ?_)
            · refine r_aload_n hX dX11_readLine_117 rfl ?_
              refine r_iconst (v := nI 0) hX dX11_readLine_118 (by decide) ?_
              refine r_iconst (v := nI 1) hX dX11_readLine_119 (by decide) ?_
              refine r_iV2 hX dX11_readLine_120 IX11_must ml_X11_133 rfl (LX11_s hL) rfl (t_X11_must (M := wI M i5) (P := False) (k := 1) hL h5.1) (by decide) (by decide) (by decide) (by decide) rfl (Nat.le_of_ble_eq_true rfl) (fun j1 g1 => ?_)
              show J G base X _ _ (wI M j1) _ _ _
              replace g1 := h5.tr g1
              refine fin _ _ _ _ ((g1.w hn).x hrd) (?_ : _ = lnX n rd u e q)
              unfold lnX
              rw [if_neg c11, if_neg c29, if_neg c47, if_neg c64, if_neg c81, if_neg c106]
              rfl
            · refine r_aload_n hX dX11_readLine_109 rfl ?_
              refine r_iload_n hX dX11_readLine_110 rfl ?_
              refine r_iV1 hX dX11_readLine_111 IX11_readLetter ml_X11_209 rfl (LX11_s hL) rfl (t_X11_readLetter (M := wI M i5) hL hn5 h0n (h5.tt hT) h5.1 hp5 hx h2n) (by decide) (by decide) (by decide) (by decide) rfl (Nat.le_of_ble_eq_true rfl) (fun j1 g1 => ?_)
              show J G base X _ _ (wI M j1) _ _ _
              
              refine r_goto (tgt := 123) hX dX11_readLine_114 (by decide) ?_
              refine fin _ _ _ _ ((h5.w hn).x hrd |>.tr (pW.x g1 ((h5.2.1 _ (by omega)).trans hrd))) (?_ : _ = lnX n rd u e q)
              unfold lnX
              rw [if_neg c11, if_neg c29, if_neg c47, if_neg c64, if_neg c81, if_pos c106]
          · refine r_aload_n hX dX11_readLine_84 rfl ?_
            refine r_getr hX dX11_readLine_85 fl_X11_13 rfl (LX11_s hL) (LX11_r1 hL) ?_
            refine r_iconst (v := nI 5) hX dX11_readLine_88 (by decide) ?_
            refine r_aload_n hX dX11_readLine_89 rfl ?_
            refine r_iconst (v := nI 1) hX dX11_readLine_90 (by decide) ?_
            refine r_bipush (v := nI 20) hX dX11_readLine_91 (by decide) ?_
            refine r_iV2 hX dX11_readLine_93 IX11_number ml_X11_154 rfl (LX11_s hL) rfl (t_X11_number (M := wI M i4) hL (h4.tt hT) h4.1 hp4 (lo := 1) (hh := 20) (by omega) (by omega)) (by decide) (by decide) (by decide) (by decide) rfl (Nat.le_of_ble_eq_true rfl) (fun j1 g1 => ?_)
            show J G base X _ _ (wI M j1) _ _ _
            replace g1 := h4.tr g1
            refine rn_iast hX dX11_readLine_96 (LX11_a1 hL) rfl (by omega) (by omega) ?_
            refine r_goto (tgt := 123) hX dX11_readLine_97 (by decide) ?_
            refine fin (mI (uI (wI M j1) (a + 1) 5 (nI (nuW u e 1 20 (tkQ u e 4 (tkQ u e 3 (tkQ u e 2 (tkQ u e 1 (tkQ u e 0 q))))))))) _ _ _ (((g1.w hn).x hrd).row) (?_ : _ = lnX n rd u e q)
            unfold lnX
            rw [if_neg c11, if_neg c29, if_neg c47, if_neg c64, if_pos c81]
        · refine r_aload_n hX dX11_readLine_67 rfl ?_
          refine r_iload_n hX dX11_readLine_68 rfl ?_
          refine r_iV1 hX dX11_readLine_69 IX11_readRoute ml_X11_202 rfl (LX11_s hL) rfl (t_X11_readRoute (M := wI M i3) hL hn3 h0n (h3.tt hT) h3.1 hp3 h1n hx ((h3.2.1 _ (by omega)).trans hrd)) (by decide) (by decide) (by decide) (by decide) rfl (Nat.le_of_ble_eq_true rfl) (fun j1 g1 => ?_)
          show J G base X _ _ (wI M j1) _ _ _
          
          refine r_goto (tgt := 123) hX dX11_readLine_72 (by decide) ?_
          refine fin _ _ _ _ (((h3.w hn).x hrd).tr g1) (?_ : _ = lnX n rd u e q)
          unfold lnX
          rw [if_neg c11, if_neg c29, if_neg c47, if_pos c64]
      · refine r_aload_n hX dX11_readLine_50 rfl ?_
        refine r_iload_n hX dX11_readLine_51 rfl ?_
        refine r_iV1 hX dX11_readLine_52 IX11_readCarrier ml_X11_196 rfl (LX11_s hL) rfl (t_X11_readCarrier (M := wI M i2) hL hn2 h0n (h2.tt hT) h2.1 hp2 hx h1n) (by decide) (by decide) (by decide) (by decide) rfl (Nat.le_of_ble_eq_true rfl) (fun j1 g1 => ?_)
        show J G base X _ _ (wI M j1) _ _ _
        
        refine r_goto (tgt := 123) hX dX11_readLine_55 (by decide) ?_
        refine fin _ _ _ _ ((h2.w hn).x hrd |>.tr (pW.x g1 ((h2.2.1 _ (by omega)).trans hrd))) (?_ : _ = lnX n rd u e q)
        unfold lnX
        rw [if_neg c11, if_neg c29, if_pos c47]
    · refine r_aload_n hX dX11_readLine_32 rfl ?_
      refine r_iload_n hX dX11_readLine_33 rfl ?_
      refine r_iconst (v := nI 0) hX dX11_readLine_34 (by decide) ?_
      refine r_iV2 hX dX11_readLine_35 IX11_readPlace ml_X11_188 rfl (LX11_s hL) rfl (t_X11_readPlace0 (M := wI M i1) hL hn1 h0n (h1.tt hT) h1.1 hp1 hx) (by decide) (by decide) (by decide) (by decide) rfl (Nat.le_of_ble_eq_true rfl) (fun j1 g1 => ?_)
      show J G base X _ _ (wI M j1) _ _ _
      
      refine r_goto (tgt := 123) hX dX11_readLine_38 (by decide) ?_
      refine fin _ _ _ _ ((h1.w hn).x hrd |>.tr (pW.x g1 ((h1.2.1 _ (by omega)).trans hrd))) (?_ : _ = lnX n rd u e q)
      unfold lnX
      rw [if_neg c11, if_pos c29]
  · refine r_aload_n hX dX11_readLine_14 rfl ?_
    refine r_iload_n hX dX11_readLine_15 rfl ?_
    refine r_iconst (v := nI 1) hX dX11_readLine_16 (by decide) ?_
    refine r_iV2 hX dX11_readLine_17 IX11_readPlace ml_X11_188 rfl (LX11_s hL) rfl (t_X11_readPlace1 (M := wI M i0) hL hn0 h0n (h0.tt hT) h0.1 hp0 hx) (by decide) (by decide) (by decide) (by decide) rfl (Nat.le_of_ble_eq_true rfl) (fun j1 g1 => ?_)
    show J G base X _ _ (wI M j1) _ _ _
    
    refine r_goto (tgt := 123) hX dX11_readLine_20 (by decide) ?_
    refine fin _ _ _ _ ((h0.w hn).x hrd |>.tr (pW.x g1 ((h0.2.1 _ (by omega)).trans hrd))) (?_ : _ = lnX n rd u e q)
    unfold lnX
    rw [if_pos c11]
