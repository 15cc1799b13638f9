variable {G : GG} {base : Nat}
/-- c stops are read -/
def RdOk (n rd : Nat → Int32) (c : Nat) : Prop := rd 0 = nI c ∧ c ≤ 6 ∧ ∀ k, k < c → ∃ h q, h < 24 ∧ q < nv n 0 ∧ q < 10 ∧ rd (1 + 2 * k) = nI h ∧ rd (2 + 2 * k) = nI q
theorem fstF_in {f : Nat → Bool} : ∀ {m : Nat}, ¬ fstF f m = -1 → ∃ j, j < m ∧ fstF f m = nI j ∧ f j = true
  | 0, h => absurd rfl h
  | m + 1, h => by
    by_cases h1 : fstF f m = -1
    · by_cases h2 : f m = true
      · exact ⟨m, by omega, by simp only [fstF]; rw [if_pos h1, if_pos h2], h2⟩
      · exact absurd (by simp only [fstF]; rw [if_pos h1, if_neg h2]) h
    · obtain ⟨j, a, b, c⟩ := fstF_in (m := m) h1
      exact ⟨j, by omega, by simp only [fstF]; rw [if_neg h1]; exact b, c⟩
theorem rp_in {n : Nat → Int32} {u : Nat → Nat} {e : Nat} {q : Q4} (h : ¬ rpI n u e q = -1) : ∃ j, j < nv n 0 ∧ rpI n u e q = nI j := by
  obtain ⟨j, a, b, -⟩ := fstF_in h
  exact ⟨j, a, b⟩
theorem st_in {n : Nat → Int32} {u : Nat → Nat} {e lo c : Nat} {q : Q4} (hp : q.1 ≤ e) (he : e ≤ 900) (h : (stC n u e lo c q).2.2.1 = -1) : ∃ j, j < nv n 0 ∧ stP n u e lo c q = nI j := by
  obtain ⟨-, h1, -⟩ := snmu_ok (q := stB u e lo c q) (k := 3) (c := decide (¬ rpI n u e (stB u e lo c q) = -1)) h (nuQ_le (stA_le hp)) he
  exact rp_in (of_decide_eq_true h1)
theorem stD_ok {n rd : Nat → Int32} {u : Nat → Nat} {e lo c : Nat} {q : Q4} (h0 : Rn n 0 10) (hp : q.1 ≤ e) (he : e ≤ 900) (h : (stC n u e lo c q).2.2.1 = -1) (hr : RdOk n rd c) : RdOk n (stD n u e lo c rd q) (c + 1) := by
  obtain ⟨hc, hv⟩ := st_ok hp he h
  obtain ⟨j, hj, hj2⟩ := st_in hp he h
  have := h0.2
  refine ⟨by unfold stD; exact upd_s, by omega, fun k hk => ?_⟩
  by_cases e1 : k = c
  · subst e1
    refine ⟨stV u e lo k q, j, by omega, hj, by omega, ?_, ?_⟩
    · unfold stD
      rw [upd_o (by omega), upd_o (by omega), upd_s]
    · unfold stD
      rw [upd_o (by omega), upd_s]
      exact hj2
  · obtain ⟨hh, p, a1, a2, a3, a4, a5⟩ := hr.2.2 k (by omega)
    refine ⟨hh, p, a1, a2, a3, ?_, ?_⟩
    · unfold stD
      rw [upd_o (by omega), upd_o (by omega), upd_o (by omega)]
      exact a4
    · unfold stD
      rw [upd_o (by omega), upd_o (by omega), upd_o (by omega)]
      exact a5
theorem stZ_ok {n : Nat → Int32} {u : Nat → Nat} {e : Nat} (h0 : Rn n 0 10) (he : e ≤ 900) : ∀ (f lo c : Nat) (rd : Nat → Int32) (q : Q4), q.1 ≤ e → RdOk n rd c → (stZ n u e f lo c rd q).2.2.2.1 = -1 → ∃ c', RdOk n (stZ n u e f lo c rd q).1 c'
  | 0, _, c, rd, _, _, h, _ => ⟨c, h⟩
  | f + 1, lo, c, rd, q, hp, h, hg => by
    have hC : (stC n u e lo c q).1 ≤ e := rpQ_le (nuQ_le (stA_le hp)) he
    by_cases h1 : (stC n u e lo c q).2.2.1 = -1
    · have hD := stD_ok h0 hp he h1 h
      by_cases h2 : (blQ u e (stC n u e lo c q)).1 < e ∧ dgB u (blQ u e (stC n u e lo c q)).1 = true
      · rw [stZ_more h1 h2] at hg ⊢
        exact stZ_ok h0 he f _ _ _ _ (blQ_le hC) hD hg
      · rw [stZ_end h1 h2]
        exact ⟨c + 1, hD⟩
    · rw [stZ_bad h1] at hg
      exact absurd hg h1
theorem rcN_o {n rd : Nat → Int32} {c V : Nat} {q : Nat} (hc : c < 5) (hq : q < 43 ∨ 498 ≤ q) : ∀ k, k ≤ 7 → rcN n c V rd k q = n q
  | 0, _ => rfl
  | k + 1, hk => by
    have ih := rcN_o (n := n) (rd := rd) (V := V) hc hq k (by omega)
    unfold rcN
    split
    · unfold rcW
      have e : rtA c k = 43 + 13 * (7 * c + k) := rfl
      rw [if_neg (by omega)]
      exact ih
    · exact ih
theorem rcN_r {n rd : Nat → Int32} {c V : Nat} {c' w j : Nat} (hc : c < 5) (hc' : c' < 5) (hw : w < 7) (hj : j < 13) : ∀ k, k ≤ 7 → rcN n c V rd k (rtA c' w + j) = if c' = c ∧ w < k ∧ bt (nI V) w = true then rd j else n (rtA c' w + j)
  | 0, _ => by
    rw [if_neg (by omega)]
    rfl
  | k + 1, hk => by
    have ih := rcN_r (n := n) (rd := rd) (V := V) hc hc' hw hj k (by omega)
    have e1 : rtA c k = 43 + 13 * (7 * c + k) := rfl
    have e2 : rtA c' w = 43 + 13 * (7 * c' + w) := rfl
    unfold rcN
    by_cases hb : bt (nI V) k = true
    · rw [if_pos hb]
      unfold rcW
      by_cases h : c' = c ∧ w = k
      · obtain ⟨rfl, rfl⟩ := h
        rw [if_pos (by omega), if_pos ⟨rfl, by omega, hb⟩, show rtA c' w + j - rtA c' w = j by omega]
      · rw [if_neg (by omega), ih]
        by_cases h2 : c' = c ∧ w < k ∧ bt (nI V) w = true
        · rw [if_pos h2, if_pos ⟨h2.1, by omega, h2.2.2⟩]
        · rw [if_neg h2, if_neg (fun z => h2 ⟨z.1, by have := z.2.1; have : ¬ w = k := fun y => h ⟨z.1, y⟩; omega, z.2.2⟩)]
    · rw [if_neg hb, ih]
      by_cases h2 : c' = c ∧ w < k ∧ bt (nI V) w = true
      · rw [if_pos h2, if_pos ⟨h2.1, by omega, h2.2.2⟩]
      · rw [if_neg h2, if_neg (fun z => h2 ⟨z.1, by
          have := z.2.1
          have : ¬ w = k := fun y => hb (by rw [← y]; exact z.2.2)
          omega, z.2.2⟩)]
/-- a carrier's route anew -/
theorem route_ok {T : Nat} {n rd : Nat → Int32} {c V m : Nat} (h : OkN T n) (hc : c < 5) (hr : RdOk n rd m) : OkN T (rcN n c V rd 7) := by
  obtain ⟨⟨h0, h1, hR⟩, ⟨s1, s2, s3⟩, ⟨l2, l3, hl⟩, h4, h5, h6, hLo, hSt, hN⟩ := h
  have eo : ∀ q, q < 43 ∨ 498 ≤ q → rcN n c V rd 7 q = n q := fun q hq => rcN_o hc hq 7 (by omega)
  have er : ∀ c' w j, c' < 5 → w < 7 → j < 13 → rcN n c V rd 7 (rtA c' w + j) = if c' = c ∧ w < 7 ∧ bt (nI V) w = true then rd j else n (rtA c' w + j) := fun c' w j a b d => rcN_r hc a b d 7 (by omega)
  generalize rcN n c V rd 7 = x at eo er ⊢
  have n0 : nv x 0 = nv n 0 := nv_eq (eo _ (by omega))
  have n1 : nv x 1 = nv n 1 := nv_eq (eo _ (by omega))
  have n2 : nv x 2 = nv n 2 := nv_eq (eo _ (by omega))
  have n3 : nv x 3 = nv n 3 := nv_eq (eo _ (by omega))
  have h10 := h0.2
  have h15 := h1.2
  have tw : ∀ p, town n p = true → town x p = true := fun p hp => by
    obtain ⟨a, b⟩ := town_i.mp hp
    exact town_i.mpr ⟨by omega, by rw [eo _ (by omega)]; exact b⟩
  refine ⟨⟨h0.eq (eo _ (by omega)), h1.eq (eo _ (by omega)), fun c' hc' w hw => ?_⟩, ⟨fun c hc => by rw [eo _ (by omega)]; exact s1 c hc, fun c d hc hd e => ?_, fun c hc hc2 => ?_⟩, ⟨l2.eq (eo _ (by omega)), l3.eq (eo _ (by omega)), fun l hl2 => ?_⟩, h4.eq (eo _ (by omega)), h5.eq (eo _ (by omega)), h6.eq (eo _ (by omega)), fun k hk3 => ?_, fun c hc => ?_, fun p hp => ?_, fun c hc => ?_⟩
  · by_cases hb : c' = c ∧ w < 7 ∧ bt (nI V) w = true
    · have e0 : x (rtA c' w) = nI m := by
        have z := er c' w 0 hc' hw (by omega)
        rw [if_pos hb, Nat.add_zero] at z
        exact z.trans hr.1
      have hm := hr.2.1
      refine ⟨Rn.mk e0 hm, fun k hk => ?_⟩
      rw [nv_of e0 (by omega)] at hk
      obtain ⟨hh, q, g1, g2, g3, g4, g5⟩ := hr.2.2 k hk
      refine ⟨hh, q, g1, by omega, g3, ?_, ?_⟩
      · have z := er c' w (1 + 2 * k) hc' hw (by omega)
        rw [if_pos hb] at z
        rw [Nat.add_assoc]
        exact z.trans g4
      · have z := er c' w (2 + 2 * k) hc' hw (by omega)
        rw [if_pos hb] at z
        rw [Nat.add_assoc]
        exact z.trans g5
    · have e0 : x (rtA c' w) = n (rtA c' w) := by
        have z := er c' w 0 hc' hw (by omega)
        rw [if_neg hb, Nat.add_zero] at z
        exact z
      obtain ⟨a, b⟩ := hR c' hc' w hw
      have ha := a.2
      refine ⟨a.eq e0, fun k hk => ?_⟩
      rw [nv_eq e0] at hk
      obtain ⟨hh, q, g1, g2, g3, g4, g5⟩ := b k hk
      refine ⟨hh, q, g1, by omega, g3, ?_, ?_⟩
      · have z := er c' w (1 + 2 * k) hc' hw (by omega)
        rw [if_neg hb] at z
        rw [Nat.add_assoc] at g4 ⊢
        exact z.trans g4
      · have z := er c' w (2 + 2 * k) hc' hw (by omega)
        rw [if_neg hb] at z
        rw [Nat.add_assoc] at g5 ⊢
        exact z.trans g5
  · rw [eo _ (by omega), eo _ (by omega)] at e
    exact s2 c d hc hd e
  · rw [eo _ (by omega)]
    exact s3 c hc (by omega)
  · rw [n2] at hl2
    obtain ⟨f, t, v', s, w, g1, g2, g3, g4, g5, g6, g7, g8, g9, g10, g11, g12, g13, g14, g15⟩ := hl l hl2
    refine ⟨f, t, v', s, w, by rw [eo _ (by omega)]; exact g1, by rw [eo _ (by omega)]; exact g2, by rw [eo _ (by omega)]; exact g3, by rw [eo _ (by omega)]; exact g4, by rw [eo _ (by omega)]; exact g5, tw _ g6, tw _ g7, g8, g9, g10, fun z => ⟨tw _ (g11 z).1, (g11 z).2⟩, fun z => by rw [n1]; exact g12 z, g13, fun z => by rw [n3]; exact g14 z, ?_⟩
    rw [eo _ (by omega)]
    exact g15
  · rw [n3] at hk3
    obtain ⟨⟨c, a, b⟩, l, g1, g2, g3⟩ := hLo k hk3
    exact ⟨⟨c, a, by rw [eo _ (by omega)]; exact b⟩, l, by rw [n2]; exact g1, by rw [eo _ (by omega)]; exact g2, by rw [eo _ (by omega)]; exact g3⟩
  · rw [eo _ (by omega)]
    exact hSt c hc
  · rw [n0] at hp
    rw [eo _ (by omega)]
    exact hN.1 p hp
  · rw [n1] at hc
    rw [eo _ (by omega)]
    exact hN.2 c hc
/-- the name is one -/
theorem nm_ok {u : Nat → Nat} {e : Nat} {q : Q4} (hw : 1 ≤ whN u e q ∧ whN u e q ≤ 6) (hs : (snR u e q).2.2.1 = -1) : Nm27 (nI (snV u e q)) := by
  unfold snV
  rw [if_pos hs, nmV_e]
  refine ⟨_, by rw [List.length_map, List.length_range]; exact hw.1, by rw [List.length_map, List.length_range]; exact hw.2, fun z hz => ?_, rfl⟩
  obtain ⟨j, hj, rfl⟩ := List.mem_map.mp hz
  have h1 := whN_l (u := u) (e := e) (q := q) (List.mem_range.mp hj)
  have h2 : 97 ≤ u ((blQ u e q).1 + j) ∧ u ((blQ u e q).1 + j) ≤ 122 := h1
  exact ⟨by omega, by omega⟩
theorem nw_ok {n : Nat → Int32} {f m : Nat} {u : Nat → Nat} {e : Nat} {q : Q4} (h : (nwQ n f m u e q).2.2.1 = -1) (hp : q.1 ≤ e) (he : e ≤ 900) : nwN n f m u e q = upd (upd n (f + nv n m) (nI (snV u e q))) m (nI (nv n m + 1)) ∧ Nm27 (nI (snV u e q)) ∧ q.2.2.1 = -1 := by
  obtain ⟨h1, -, h3, h4, h5, -⟩ := snmu_ok h hp he
  refine ⟨by unfold nwN; rw [if_pos h], nm_ok ⟨h3, h4⟩ ?_, h1⟩
  rw [h5, blQ_f]
  exact h1
theorem rd0_ok {n rd : Nat → Int32} : RdOk n (upd rd 0 0) 0 := ⟨upd_s, Nat.zero_le _, fun k hk => absurd hk (Nat.not_lt_zero _)⟩
theorem rtZ_ok {n rd : Nat → Int32} {x : Nat} {u : Nat → Nat} {e : Nat} {q : Q4} (h0 : Rn n 0 10) (he : e ≤ 900) (hp : (rtB n x u e q).1 ≤ e) (h : (rtZ n rd x u e q).2.2.2.1 = -1) : ∃ m, RdOk n (rtZ n rd x u e q).1 m := by
  unfold rtZ at h ⊢
  have hp2 : (rtD n (nv n 1 - 1) (rtV n x u e q) 7 (rtB n x u e q)).1 ≤ e := by
    rw [rtD_1]
    exact hp
  have hr := rd0_ok (n := n) (rd := rd)
  generalize rtD n (nv n 1 - 1) (rtV n x u e q) 7 (rtB n x u e q) = r at h hp2 ⊢
  generalize upd rd 0 0 = rd' at h hr ⊢
  generalize 7 = f at h ⊢
  exact stZ_ok h0 he f 0 0 rd' r hp2 hr h
theorem plL_ok {n : Nat → Int32} {x v : Nat} {u : Nat → Nat} {e : Nat} {r : Q4} (hO : OkN 0 n) (hr : r.1 ≤ e) (he : e ≤ 900) (hx : x < 100000) (h : (plR n x v u e r).2.2.1 = -1) : OkN 0 (pcN n x v u e r) := by
  unfold plR at h
  split at h
  · rename_i hs
    have h10 : nv n 0 < 10 := of_decide_eq_true (muQ_c hs (by omega))
    have hsl : (plS n x r).1 ≤ e := by unfold plS; rw [muQ_1]; exact hr
    obtain ⟨g1, g2, -⟩ := nw_ok h hsl he
    unfold pcN
    rw [if_pos hs, g1]
    have e0 : nv (upd n (8 + nv n 0) (nI v)) 0 = nv n 0 := nv_eq (upd_o (by omega))
    rw [e0]
    exact place_ok hO h10 g2
  · rename_i hs
    exact absurd h hs
theorem crL_ok {n : Nat → Int32} {x : Nat} {u : Nat → Nat} {e : Nat} {r : Q4} (hO : OkN 0 n) (hr : r.1 ≤ e) (he : e ≤ 900) (hx : x < 100000) (h : (crR n x u e r).2.2.1 = -1) : OkN 0 (crN n x u e r) := by
  unfold crR at h
  split at h
  · rename_i hs
    have h5 : nv n 1 < 5 := of_decide_eq_true (muQ_c hs (by omega))
    have hsl : (crS9 n x r).1 ≤ e := by unfold crS9; rw [muQ_1]; exact hr
    obtain ⟨g1, g2, -⟩ := nw_ok h hsl he
    unfold crN
    rw [if_pos hs, g1]
    exact carr_ok hO h5 g2
  · rename_i hs
    exact absurd h hs
theorem rtL_ok {n rd : Nat → Int32} {x : Nat} {u : Nat → Nat} {e : Nat} {r : Q4} (hO : OkN 0 n) (hr : r.1 ≤ e) (he : e ≤ 900) (hx : x < 100000) (h : (rtR n rd x u e r).2.2.1 = -1) : OkN 0 (rtN n rd x u e r) := by
  unfold rtR at h
  split at h
  · rename_i hs
    have hsl : (rtM n x r).1 ≤ e := by unfold rtM; rw [muQ_1]; exact hr
    have hM : (rtM n x r).2.2.1 = -1 := (nuW_hi (q := rtM n x r) hsl he hs).1
    have hpos : 0 < nv n 1 := of_decide_eq_true (muQ_c hM (by omega))
    have h15 := hO.1.2.1.2
    unfold rtN
    rw [if_pos ⟨hs, h⟩]
    obtain ⟨m, hm⟩ := rtZ_ok hO.1.1 he (nuQ_le hsl) h
    exact route_ok hO (by omega) hm
  · rename_i hs
    exact absurd h hs
theorem tk_f {u : Nat → Nat} {e w : Nat} {r : Q4} : (tkQ u e w r).2.2 = r.2.2 := by
  unfold tkQ
  split
  · split
    · exact blQ_f
    · exact blQ_f
  · rfl
theorem ltL_ok {n : Nat → Int32} {x : Nat} {u : Nat → Nat} {e : Nat} {r : Q4} (hO : OkN 0 n) (hr : r.1 ≤ e) (he : e ≤ 900) (hx : x < 100000) (h : (ltR n x u e r).2.2.1 = -1) : OkN 0 (ltN n x u e r) := by
  unfold ltR at h
  split at h
  · rename_i hs
    have hsl : (ltS n x r).1 ≤ e := by unfold ltS; rw [muQ_1]; exact hr
    have h30 : nv n 2 < 30 := of_decide_eq_true (muQ_c hs (by omega))
    unfold ltN
    rw [if_pos ⟨hs, h⟩]
    generalize ltS n x r = s at h hsl ⊢
    have hB : (ltB n u e s).2.2.1 = -1 ∧ ltV n u e s < 1000 := by
      have pB : (ltB n u e s).1 ≤ e := rvQ_le (rvQ_le hsl he) he
      unfold ltD at h
      unfold ltV
      split at h
      · rename_i hw
        obtain ⟨a1, a2, a3⟩ := nuW_hi (q := tkQ u e 6 (ltB n u e s)) (tkQ_le pB) he h
        rw [tk_f] at a1
        rw [if_pos hw]
        exact ⟨a1, by omega⟩
      · rename_i hw
        rw [tk_f] at h
        rw [if_neg hw]
        exact ⟨h, by omega⟩
    obtain ⟨b1, b2, -⟩ := snmu_ok (q := rvQ n u e (-1) s) hB.1 (rvQ_le hsl he) he
    obtain ⟨b3, b4, -⟩ := snmu_ok (q := s) b1 hsl he
    obtain ⟨b5, b6⟩ := of_decide_eq_true b2
    obtain ⟨b7, -⟩ := of_decide_eq_true b4
    obtain ⟨f, hf, ef, tf⟩ := townP_of hO.1.1 b7
    obtain ⟨t, ht, et, tt⟩ := townP_of hO.1.1 b5
    rw [ef, et]
    rw [ef, et] at b6
    exact post_ok hO h30 (town_i.mpr ⟨hf, tf⟩) (town_i.mpr ⟨ht, tt⟩) (fun z => b6 (by rw [z])) hB.2
  · rename_i hs
    exact absurd h hs
theorem cpL_ok {n : Nat → Int32} {u : Nat → Nat} {e : Nat} {r : Q4} (hO : OkN 0 n) (hr : r.1 ≤ e) (he : e ≤ 900) (h : (nuQ u e 1 20 r).2.2.1 = -1) : OkN 0 (upd n 5 (nI (nuW u e 1 20 r))) := capa_ok hO (nuW_hi hr he h).2.2
/-- a good line keeps the row in order -/
theorem ln_ok {n rd : Nat → Int32} {u : Nat → Nat} {e : Nat} {q : Q4} (hO : OkN 0 n) (hp : q.1 ≤ e) (he : e ≤ 900) (hx : q.2.1 < 100000) (hg : (lnX n rd u e q).2.2.2.2.1 = -1) : OkN 0 (lnX n rd u e q).1 := by
  revert hg
  unfold lnX
  have p0 : (tkQ u e 0 q).1 ≤ e := tkQ_le hp
  have p1 : (tkQ u e 1 (tkQ u e 0 q)).1 ≤ e := tkQ_le p0
  have p2 : (tkQ u e 2 (tkQ u e 1 (tkQ u e 0 q))).1 ≤ e := tkQ_le p1
  have p3 : (tkQ u e 3 (tkQ u e 2 (tkQ u e 1 (tkQ u e 0 q)))).1 ≤ e := tkQ_le p2
  have p4 : (tkQ u e 4 (tkQ u e 3 (tkQ u e 2 (tkQ u e 1 (tkQ u e 0 q))))).1 ≤ e := tkQ_le p3
  have p5 : (tkQ u e 5 (tkQ u e 4 (tkQ u e 3 (tkQ u e 2 (tkQ u e 1 (tkQ u e 0 q)))))).1 ≤ e := tkQ_le p4
  generalize (tkQ u e 5 (tkQ u e 4 (tkQ u e 3 (tkQ u e 2 (tkQ u e 1 (tkQ u e 0 q)))))) = r5 at *
  generalize (tkQ u e 4 (tkQ u e 3 (tkQ u e 2 (tkQ u e 1 (tkQ u e 0 q))))) = r4 at *
  generalize (tkQ u e 3 (tkQ u e 2 (tkQ u e 1 (tkQ u e 0 q)))) = r3 at *
  generalize (tkQ u e 2 (tkQ u e 1 (tkQ u e 0 q))) = r2 at *
  generalize (tkQ u e 1 (tkQ u e 0 q)) = r1 at *
  generalize (tkQ u e 0 q) = r0 at *
  intro hg
  split at hg
  · rename_i c0
    rw [if_pos c0]
    exact plL_ok hO p0 he hx hg
  rename_i c0
  rw [if_neg c0]
  split at hg
  · rename_i c1
    rw [if_pos c1]
    exact plL_ok hO p1 he hx hg
  rename_i c1
  rw [if_neg c1]
  split at hg
  · rename_i c2
    rw [if_pos c2]
    exact crL_ok hO p2 he hx hg
  rename_i c2
  rw [if_neg c2]
  split at hg
  · rename_i c3
    rw [if_pos c3]
    exact rtL_ok hO p3 he hx hg
  rename_i c3
  rw [if_neg c3]
  split at hg
  · rename_i c4
    rw [if_pos c4]
    exact cpL_ok hO p4 he hg
  rename_i c4
  rw [if_neg c4]
  split at hg
  · rename_i c5
    rw [if_pos c5]
    exact ltL_ok hO p5 he hx hg
  · rename_i c5
    rw [if_neg c5]
    exact hO
