variable {G : GG} {base : Nat}
theorem rtR_bad {n rd : Nat → Int32} {u : Nat → Nat} {e : Nat} {q : Q4} (h : ¬ (rdD n u e q).2.2.1 = -1) : (rtR n rd q.2.1 u e q).2.2 = (rdD n u e q).2.2 := by
  unfold rtR
  split
  · rename_i hb
    have hz : rtZ n rd q.2.1 u e q = (upd rd 0 0, rdD n u e q) := by
      show stZ n u e 7 0 0 (upd rd 0 0) (rdD n u e q) = _
      have hA : stA u e 0 (rdD n u e q) = rdD n u e q := by unfold stA; rw [fl_bl h, fl_mu h]
      have hB : stB u e 0 0 (rdD n u e q) = rdD n u e q := by unfold stB; rw [hA, fl_nu h]
      have hC : stC n u e 0 0 (rdD n u e q) = rdD n u e q := by unfold stC; rw [hB, fl_rp h]
      rw [stZ_bad (by rw [hC]; exact h), hC]
    rw [hz]
  · rename_i hb
    have hd : rdD n u e q = rtB n q.2.1 u e q := rtD_f hb 7
    rw [hd]
theorem rtR_ok {n rd : Nat → Int32} {u : Nat → Nat} {e : Nat} {q : Q4} (hg : q.2.2.1 = -1) (hx9 : q.2.1 < 100000) (hpos : 0 < nv n 1) (h : rdD n u e q = nuQ u e 1 127 q) (h2 : (nuQ u e 1 127 q).2.2.1 = -1) :
    rtR n rd q.2.1 u e q = (stZ n u e 7 0 0 (upd rd 0 0) (nuQ u e 1 127 q)).2 ∧ ((stZ n u e 7 0 0 (upd rd 0 0) (nuQ u e 1 127 q)).2.2.2.1 = -1 → rtN n rd q.2.1 u e q = rcN n (nv n 1 - 1) (nuW u e 1 127 q) (stZ n u e 7 0 0 (upd rd 0 0) (nuQ u e 1 127 q)).1 7) := by
  obtain ⟨e1, e2⟩ := (rt_eq (n := n) (u := u) (e := e) hg hx9).2 hpos
  have hz : rtZ n rd q.2.1 u e q = stZ n u e 7 0 0 (upd rd 0 0) (nuQ u e 1 127 q) := by
    rw [← h]
    rfl
  refine ⟨?_, fun hgd => ?_⟩
  · unfold rtR
    rw [e1, if_pos h2, hz]
  · unfold rtN
    rw [e1, hz, if_pos ⟨h2, hgd⟩, e2]
theorem pZ.route {M : Mm} {p e : Nat} {n rd : Nat → Int32} {u : Nat → Nat} {q : Q4} {i1 i2 : Nat → Nat → Int32} (hg : q.2.2.1 = -1) (hp9 : q.1 ≤ e) (he : e ≤ 900) (hx9 : q.2.1 < 100000) (hP : PI (mI M) p n) (h1 : pD M p n u e q i1) (hgd : (rdD n u e q).2.2.1 = -1)
    (h2 : pT (wI M i1) p n (nv n 1 - 1) (nuW u e 1 127 q) (stZ n u e 7 0 0 (upd rd 0 0) (nuQ u e 1 127 q)) i2) : pZ M p (rtN n rd q.2.1 u e q) (rtR n rd q.2.1 u e q) i2 := by
  obtain ⟨d1, d2, -, d4⟩ := h1
  obtain ⟨k1, k2, k3, k4, k5, k6, k7⟩ := d4 hgd
  obtain ⟨r1, r2⟩ := rtR_ok (rd := rd) hg hx9 k5 k1 k2
  obtain ⟨t1, t2, t3, t4⟩ := h2
  obtain ⟨hTT, hQS, hDY, hEC, hO⟩ := hP
  have hTb := hO.1
  have hb1 := hTb.2.1.2
  obtain ⟨-, nw1, nw2⟩ := nuW_hi (u := u) (lo := 1) (hi := 127) hp9 he k2
  rw [r1]
  refine ⟨fun x hx => (t1 x (by omega) (by omega) (by omega)).trans (d1 x (by omega) (by omega)), t2.trans d2, t3, fun hz => ?_⟩
  rw [r2 hz]
  obtain ⟨g1, c, c1, c6, c0⟩ := t4 hz
  have hOk := rtL_ok (rd := rd) hO hp9 he hx9 (by rw [r1]; exact hz)
  rw [r2 hz] at hOk
  have eo : ∀ q', q' < 43 ∨ 498 ≤ q' → rcN n (nv n 1 - 1) (nuW u e 1 127 q) (stZ n u e 7 0 0 (upd rd 0 0) (nuQ u e 1 127 q)).1 7 q' = n q' := fun q' hq' => rcN_o (by omega) hq' 7 (Nat.le_refl _)
  have e1 : nv (rcN n (nv n 1 - 1) (nuW u e 1 127 q) (stZ n u e 7 0 0 (upd rd 0 0) (nuQ u e 1 127 q)).1 7) 1 = nv n 1 := nv_eq (eo 1 (by omega))
  refine ⟨g1, ?_, ?_, ?_, hOk⟩
  · refine (hQS.kept (fun x x1 x2 k => ?_)).eq (fun q' q1 q2 => ?_)
    · exact congrFun ((t1 x (by omega) (by omega) (by omega)).trans (d1 x (by omega) (by omega))) k
    · obtain ⟨a1, a2, a3⟩ := q2
      exact eo q' (by omega)
  · unfold DY
    rw [e1]
    intro _
    rw [t1 (p + 4) (by omega) (by omega) (by omega)]
    refine k7.trans (setB_congr (fun w hw => ?_))
    have z := rcN_r (n := n) (rd := (stZ n u e 7 0 0 (upd rd 0 0) (nuQ u e 1 127 q)).1) (c := nv n 1 - 1) (V := nuW u e 1 127 q) (c' := nv n 1 - 1) (by omega) (by omega) hw (j := 0) (by omega) 7 (Nat.le_refl _)
    rw [Nat.add_zero] at z
    by_cases hb : bt (nI (nuW u e 1 127 q)) w = true
    · rw [if_pos ⟨rfl, hw, hb⟩, c0] at z
      rw [hb, Bool.or_true]
      exact (decide_eq_true (by rw [z]; exact fun y => by have := (nI_eq (a := c) (b := 0) (by omega) (by omega)).mp y; omega)).symm
    · rw [if_neg (fun y => hb y.2.2)] at z
      rw [show bt (nI (nuW u e 1 127 q)) w = false by cases hc : bt (nI (nuW u e 1 127 q)) w with | false => rfl | true => exact absurd hc hb, Bool.or_false]
      exact decide_eq_decide.mpr (by rw [z])
  · intro c' hc hc5 w hw
    rw [e1] at hc
    have z := rcN_r (n := n) (rd := (stZ n u e 7 0 0 (upd rd 0 0) (nuQ u e 1 127 q)).1) (c := nv n 1 - 1) (V := nuW u e 1 127 q) (c' := c') (by omega) hc5 hw (j := 0) (by omega) 7 (Nat.le_refl _)
    rw [Nat.add_zero, if_neg (fun y => by omega)] at z
    rw [z]
    exact hEC c' hc hc5 w hw
theorem pZ.routeB {M : Mm} {p e : Nat} {n n' rd : Nat → Int32} {u : Nat → Nat} {q : Q4} {i1 : Nat → Nat → Int32} (h1 : pD M p n u e q i1) (hgd : ¬ (rdD n u e q).2.2.1 = -1) (hk : ∀ x, x ≠ p → x ≠ p + 4 → i1 x = mI M x) : pZ M p n' (rtR n rd q.2.1 u e q) i1 := by
  obtain ⟨d1, d2, ⟨x, y, d3⟩, -⟩ := h1
  have hr := rtR_bad (rd := rd) hgd
  have hf : ¬ (rtR n rd q.2.1 u e q).2.2.1 = -1 := by rw [hr]; exact hgd
  exact ⟨fun z hz => d1 z (by omega) (by omega), d2, ⟨x, y, by rw [hr]; exact d3, fun z => absurd z hf⟩, fun z => absurd z hf⟩
theorem edM_f {u : Nat → Nat} {e : Nat} {r : Q4} (h : ¬ r.2.2.1 = -1) : edM u e r = r := by
  unfold edM
  rw [fl_bl h, fl_mu h]
theorem edM_st {u : Nat → Nat} {e x y y' : Nat} {f : Int32 × Int32} (h : f.1 = -1) : edM u e (x, y, f) = edM u e (x, y', f) := by
  unfold edM
  rw [bl_1 (q := (x, y, f)) h, bl_1 (q := (x, y', f)) h]
theorem ltX_ok {n : Nat → Int32} {u : Nat → Nat} {e : Nat} {q : Q4} (he : e ≤ 900) : ((ltX n u e q).2.2.1 = -1 → ltX n u e q = ltR n q.2.1 u e q) ∧ (q.2.2.1 = -1 → q.2.1 < 100000 → q.1 ≤ e → ¬ (ltX n u e q).2.2.1 = -1 → (edM u e (ltR n q.2.1 u e q)).2.2 = (ltX n u e q).2.2) := by
  by_cases hs : nv n 2 < 30 ∧ (ltB n u e q).2.2.1 = -1 ∧ ((blQ u e (ltB n u e q)).1 < e ∧ lwB u (blQ u e (ltB n u e q)).1 = true) ∧ ¬ hasW u e 6 (ltB n u e q) = true
  · have hX : ltX n u e q = ((blQ u e (ltB n u e q)).1, (blQ u e (ltB n u e q)).1, nI (blQ u e (ltB n u e q)).1, nI 1) := by unfold ltX; rw [if_pos hs]
    obtain ⟨s1, s2, s3, s4⟩ := hs
    refine ⟨fun z => ?_, fun hg hx9 hp hz => ?_⟩
    · rw [hX] at z
      exact absurd z (nI_m1 (by show (blQ u e (ltB n u e q)).1 < 100000; omega))
    · have hR : ltR n q.2.1 u e q = blQ u e (ltB n u e q) := by
        rw [((lt_eq hg hx9).2 s1).1]
        unfold ltD tkQ
        rw [if_neg s4, if_pos s2, if_neg s4]
      rw [hR, hX]
      have hB : (ltB n u e q).1 ≤ e := rvQ_le (rvQ_le hp he) he
      have hbl : blQ u e (blQ u e (ltB n u e q)) = blQ u e (ltB n u e q) := bl_bl hB
      unfold edM
      rw [hbl, muQ_d (q := blQ u e (ltB n u e q)) (by rw [blQ_f]; exact s2), if_neg (fun z => by
        have z1 := of_decide_eq_true z.2
        have z2 := of_decide_eq_true s3.2
        unfold isL at z2
        omega)]
      have e2 : (blQ u e (ltB n u e q)).2.1 = (blQ u e (ltB n u e q)).1 := by unfold blQ; rw [if_pos s2]
      rw [e2]
  · have hX : ltX n u e q = ltR n q.2.1 u e q := by unfold ltX; rw [if_neg hs]
    refine ⟨fun _ => hX, fun hg hx9 hp hz => ?_⟩
    rw [hX] at hz
    rw [edM_f hz, hX]
/-- the line at B, the first word of it ending at W -/
theorem lnC {n rd : Nat → Int32} {u : Nat → Nat} {e B : Nat} {f : Int32 × Int32} (hg : f.1 = -1) (hB : eo (blB u) e B = B) :
    lnX n rd u e (B, B, f) = if hasW u e 0 (B, B, f) = true then (pcN n B 1 u e (eo (lwB u) e B, B, f), rd, plR n B 1 u e (eo (lwB u) e B, B, f))
      else if hasW u e 1 (B, B, f) = true then (pcN n B 0 u e (eo (lwB u) e B, B, f), rd, plR n B 0 u e (eo (lwB u) e B, B, f))
      else if hasW u e 2 (B, B, f) = true then (crN n B u e (eo (lwB u) e B, B, f), rd, crR n B u e (eo (lwB u) e B, B, f))
      else if hasW u e 3 (B, B, f) = true then (rtN n rd B u e (eo (lwB u) e B, B, f), rtE n rd B u e (eo (lwB u) e B, B, f), rtR n rd B u e (eo (lwB u) e B, B, f))
      else if hasW u e 4 (B, B, f) = true then (upd n 5 (nI (nuW u e 1 20 (eo (lwB u) e B, B, f))), rd, nuQ u e 1 20 (eo (lwB u) e B, B, f))
      else if hasW u e 5 (B, B, f) = true then (ltN n B u e (eo (lwB u) e B, B, f), rd, ltR n B u e (eo (lwB u) e B, B, f))
      else (n, rd, (B, B, nI B, nI 1)) := by
  have hbl : blQ u e (B, B, f) = (B, B, f) := by
    rw [bl_1 (q := (B, B, f)) hg]
    show (eo (blB u) e B, eo (blB u) e B, f) = _
    rw [hB]
  have hge := eo_ge (f := lwB u) (e := e) (p := B)
  have hwh : whN u e (B, B, f) = eo (lwB u) e B - B := by unfold whN; rw [hbl]
  have tn : ∀ w, ¬ hasW u e w (B, B, f) = true → tkQ u e w (B, B, f) = (B, B, f) := fun w h => by
    unfold tkQ
    rw [if_pos hg, if_neg h, hbl]
  have ty : ∀ w, hasW u e w (B, B, f) = true → tkQ u e w (B, B, f) = (eo (lwB u) e B, B, f) := fun w h => by
    have z := (of_decide_eq_true h).2.1
    rw [hwh] at z
    unfold tkQ
    rw [if_pos hg, if_pos h, hbl, show (B, B, f).1 + (txw w).length = eo (lwB u) e B by show B + _ = _; omega]
  unfold lnX
  by_cases h0 : hasW u e 0 (B, B, f) = true
  · rw [if_pos h0, if_pos h0, ty 0 h0]
  · rw [if_neg h0, if_neg h0, tn 0 h0]
    by_cases h1 : hasW u e 1 (B, B, f) = true
    · rw [if_pos h1, if_pos h1, ty 1 h1]
    · rw [if_neg h1, if_neg h1, tn 1 h1]
      by_cases h2 : hasW u e 2 (B, B, f) = true
      · rw [if_pos h2, if_pos h2, ty 2 h2]
      · rw [if_neg h2, if_neg h2, tn 2 h2]
        by_cases h3 : hasW u e 3 (B, B, f) = true
        · rw [if_pos h3, if_pos h3, ty 3 h3]
        · rw [if_neg h3, if_neg h3, tn 3 h3]
          by_cases h4 : hasW u e 4 (B, B, f) = true
          · rw [if_pos h4, if_pos h4, ty 4 h4]
          · rw [if_neg h4, if_neg h4, tn 4 h4]
            by_cases h5 : hasW u e 5 (B, B, f) = true
            · rw [if_pos h5, if_pos h5, ty 5 h5]
            · rw [if_neg h5, if_neg h5, tn 5 h5, muQ_n (q := (B, B, f)) hg]
theorem hasW_i {u : Nat → Nat} {e B w : Nat} {f : Int32 × Int32} (hg : f.1 = -1) (hB : eo (blB u) e B = B) : (eo (lwB u) e B - B = (txw w).length ∧ ∀ j, j < (txw w).length → u (B + j) = (txw w).getD j 0) ↔ hasW u e w (B, B, f) = true := by
  have hbl : blQ u e (B, B, f) = (B, B, f) := by
    rw [bl_1 (q := (B, B, f)) hg]
    show (eo (blB u) e B, eo (blB u) e B, f) = _
    rw [hB]
  have hwh : whN u e (B, B, f) = eo (lwB u) e B - B := by unfold whN; rw [hbl]
  unfold hasW
  rw [decide_eq_true_iff, hwh, hbl]
  exact ⟨fun z => ⟨hg, z⟩, fun z => z.2⟩
