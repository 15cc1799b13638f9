variable {G : GG} {base : Nat}
/-! ===== THE CLASS: the state ===== -/
/-- a field of a letter -/
theorem RS.lf {M : Mm} {a : Nat} {n : Nat → Int32} (h : RS (mI M) a n) {l f : Nat} {v : Int32} (hl : l < 30) (hf : f < 10) : RS (mI (uI M (a + 2 + (f + 1)) l v)) a (upd n (498 + 10 * l + f) v) := by
  obtain ⟨⟨a1, a2, a3, a4⟩, b1, ⟨c1, c2, c3⟩, ⟨d1, d2, x, d3, d4, d5⟩, e1, e2, e3⟩ := h
  have eo : ∀ x, x ≠ a + 2 + (f + 1) → mI (uI M (a + 2 + (f + 1)) l v) x = mI M x := fun x hx => uIo hx
  have er : ∀ q, q ≠ 498 + 10 * l + f → upd n (498 + 10 * l + f) v q = n q := fun q hq => upd_o hq
  have ev : ∀ q, q ≠ 498 + 10 * l + f → nv (upd n (498 + 10 * l + f) v) q = nv n q := fun q hq => nv_eq (er q hq)
  refine ⟨⟨?_, ?_, ?_, fun c hc => ?_⟩, b1.imp (fun z c hc => ?_) (fun z => z.eq (er _ (by omega)) (er _ (by omega)) (er _ (by omega))), ⟨?_, c2.eq (er _ (by omega)), fun l' hl' f' hf' => ?_⟩, ⟨?_, d2.eq (er _ (by omega)), x, d3, ?_, fun g hg w hw => ?_⟩, ?_, e2.eq (er _ (by omega)), fun j hj => ?_⟩
  · rw [eo _ (by omega), er _ (by omega)]; exact a1
  · rw [eo _ (by omega), er _ (by omega)]; exact a2
  · rw [eo _ (by omega), er _ (by omega)]; exact a3
  · rw [eo _ (by omega), er _ (by omega)]; exact a4 c hc
  · rw [eo _ (by omega), er _ (by omega)]; exact z c hc
  · rw [eo _ (by omega), er _ (by omega)]; exact c1
  · rw [ev _ (by omega)] at hl'
    by_cases e : f' = f
    · subst e
      rw [mI_uI, if_pos rfl]
      by_cases e2 : l' = l
      · subst e2
        rw [if_pos rfl, upd_s]
      · rw [if_neg e2, er _ (by omega)]
        exact c3 l' hl' f' hf'
    · rw [eo _ (by omega), er _ (by omega)]
      exact c3 l' hl' f' hf'
  · rw [eo _ (by omega), er _ (by omega)]; exact d1
  · rw [eo _ (by omega)]; exact d4
  · have := d2.2
    rw [ev _ (by omega)] at hg
    rw [eo _ (by omega), er _ (by omega)]
    exact d5 g hg w hw
  · rw [eo _ (by omega), er _ (by omega)]; exact e1
  · rw [ev _ (by omega)] at hj
    have := e2.2
    rw [eo _ (by omega), eo _ (by omega), er _ (by omega), er _ (by omega)]
    exact e3 j hj
/-- time, capacity, swaps -/
theorem RS.nf {M : Mm} {a : Nat} {n : Nat → Int32} (h : RS (mI M) a n) {k q : Nat} {v : Int32} (hk : (k = 0 ∧ q = 6) ∨ (k = 1 ∧ q = 5) ∨ (k = 2 ∧ q = 7)) : RS (mI (uI M a k v)) a (upd n q v) := by
  obtain ⟨⟨a1, a2, a3, a4⟩, b1, ⟨c1, c2, c3⟩, ⟨d1, d2, x, d3, d4, d5⟩, e1, e2, e3⟩ := h
  have eo : ∀ x, x ≠ a → mI (uI M a k v) x = mI M x := fun x hx => uIo hx
  have ea : ∀ j, mI (uI M a k v) a j = if j = k then v else mI M a j := fun j => by rw [mI_uI, if_pos rfl]
  have er : ∀ p, p ≠ q → upd n q v p = n p := fun p hp => upd_o hp
  have ev : ∀ p, p ≠ q → nv (upd n q v) p = nv n p := fun p hp => nv_eq (er p hp)
  refine ⟨⟨?_, ?_, ?_, fun c hc => ?_⟩, b1.imp (fun z c hc => ?_) (fun z => z.eq (er _ (by omega)) (er _ (by omega)) (er _ (by omega))), ⟨?_, c2.eq (er _ (by omega)), fun l' hl' f' hf' => ?_⟩, ⟨?_, d2.eq (er _ (by omega)), x, d3, ?_, fun g hg w hw => ?_⟩, ?_, e2.eq (er _ (by omega)), fun j hj => ?_⟩
  · rw [ea]
    rcases hk with ⟨rfl, rfl⟩ | ⟨rfl, rfl⟩ | ⟨rfl, rfl⟩
    · rw [if_pos rfl, upd_s]
    · rw [if_neg (by omega), er _ (by omega)]; exact a1
    · rw [if_neg (by omega), er _ (by omega)]; exact a1
  · rw [ea]
    rcases hk with ⟨rfl, rfl⟩ | ⟨rfl, rfl⟩ | ⟨rfl, rfl⟩
    · rw [if_neg (by omega), er _ (by omega)]; exact a2
    · rw [if_pos rfl, upd_s]
    · rw [if_neg (by omega), er _ (by omega)]; exact a2
  · rw [ea]
    rcases hk with ⟨rfl, rfl⟩ | ⟨rfl, rfl⟩ | ⟨rfl, rfl⟩
    · rw [if_neg (by omega), er _ (by omega)]; exact a3
    · rw [if_neg (by omega), er _ (by omega)]; exact a3
    · rw [if_pos rfl, upd_s]
  · rw [ea, if_neg (by omega), er _ (by omega)]; exact a4 c hc
  · rw [eo _ (by omega), er _ (by omega)]; exact z c hc
  · rw [eo _ (by omega), er _ (by omega)]; exact c1
  · rw [ev _ (by omega)] at hl'
    rw [eo _ (by omega), er _ (by omega)]; exact c3 l' hl' f' hf'
  · rw [eo _ (by omega), er _ (by omega)]; exact d1
  · rw [eo _ (by omega)]; exact d4
  · rw [ev _ (by omega)] at hg
    rw [eo _ (by omega), er _ (by omega)]; exact d5 g hg w hw
  · rw [eo _ (by omega), er _ (by omega)]; exact e1
  · rw [ev _ (by omega)] at hj
    rw [eo _ (by omega), eo _ (by omega), er _ (by omega), er _ (by omega)]; exact e3 j hj
/-- other sacks -/
def skN (n : Nat → Int32) (K : Nat → Int32) : Nat → Int32 := fun q => if 33 ≤ q ∧ q < 38 then K (q - 33) else n q
theorem skN_o {n K : Nat → Int32} {q : Nat} (h : ¬ (33 ≤ q ∧ q < 38)) : skN n K q = n q := by unfold skN; rw [if_neg h]
theorem skN_s {n K : Nat → Int32} {c : Nat} (h : c < 5) : skN n K (33 + c) = K c := by unfold skN; rw [if_pos (by omega), show 33 + c - 33 = c by omega]
theorem RS.sk {i i' : Nat → Nat → Int32} {a : Nat} {n K : Nat → Int32} (h : RS i a n) (hK : ∀ c, c < 5 → i' (a + 1) c = K c) (ho : ∀ x, x ≠ a + 1 → i' x = i x) : RS i' a (skN n K) := by
  obtain ⟨⟨a1, a2, a3, a4⟩, b1, ⟨c1, c2, c3⟩, ⟨d1, d2, x, d3, d4, d5⟩, e1, e2, e3⟩ := h
  have er : ∀ q, ¬ (33 ≤ q ∧ q < 38) → skN n K q = n q := fun q hq => skN_o hq
  have ev : ∀ q, ¬ (33 ≤ q ∧ q < 38) → nv (skN n K) q = nv n q := fun q hq => nv_eq (er q hq)
  refine ⟨⟨?_, ?_, ?_, fun c hc => ?_⟩, Or.inl (fun c hc => ?_), ⟨?_, c2.eq (er _ (by omega)), fun l' hl' f' hf' => ?_⟩, ⟨?_, d2.eq (er _ (by omega)), x, d3, ?_, fun g hg w hw => ?_⟩, ?_, e2.eq (er _ (by omega)), fun j hj => ?_⟩
  · rw [ho _ (by omega), er _ (by omega)]; exact a1
  · rw [ho _ (by omega), er _ (by omega)]; exact a2
  · rw [ho _ (by omega), er _ (by omega)]; exact a3
  · rw [ho _ (by omega), er _ (by omega)]; exact a4 c hc
  · rw [skN_s hc]; exact hK c hc
  · rw [ho _ (by omega), er _ (by omega)]; exact c1
  · rw [ev _ (by omega)] at hl'
    rw [ho _ (by omega), er _ (by omega)]; exact c3 l' hl' f' hf'
  · rw [ho _ (by omega), er _ (by omega)]; exact d1
  · rw [ho _ (by omega)]; exact d4
  · rw [ev _ (by omega)] at hg
    rw [ho _ (by omega), er _ (by omega)]; exact d5 g hg w hw
  · rw [ho _ (by omega), er _ (by omega)]; exact e1
  · rw [ev _ (by omega)] at hj
    rw [ho _ (by omega), ho _ (by omega), er _ (by omega), er _ (by omega)]; exact e3 j hj
/-- into a hand, an office, a sack -/
def tohN (n : Nat → Int32) (l : Nat) (hr : Int32) : Nat → Int32 := upd (upd (upd n (498 + 10 * l + 3) 2) (498 + 10 * l + 4) (n (498 + 10 * l + 1))) (498 + 10 * l + 7) hr
theorem RS.hand {M : Mm} {a : Nat} {n : Nat → Int32} (h : RS (mI M) a n) {l : Nat} (hl : l < nv n 2) {hr : Int32} : RS (mI (handL M (a + 2) l hr)) a (tohN n l hr) := by
  have h30 := h.2.2.1.2.1.2
  have e : mI M (a + 2 + 2) l = n (498 + 10 * l + 1) := h.2.2.1.2.2 l hl 1 (by omega)
  have g1 := h.lf (l := l) (f := 3) (v := 2) (by omega) (by omega)
  have g2 := g1.lf (l := l) (f := 4) (v := n (498 + 10 * l + 1)) (by omega) (by omega)
  have g3 := g2.lf (l := l) (f := 7) (v := hr) (by omega) (by omega)
  unfold handL
  rw [e]
  exact g3
theorem RS.off {M : Mm} {a : Nat} {n : Nat → Int32} (h : RS (mI M) a n) {l : Nat} (hl : l < 30) {v : Int32} : RS (mI (offL M (a + 2) l v)) a (liesN n l 0 v) :=
  (h.lf (l := l) (f := 3) (v := 0) hl (by omega)).lf (l := l) (f := 4) (v := v) hl (by omega)
def tosN (n : Nat → Int32) (l : Nat) (s c : Int32) : Nat → Int32 := upd (liesN n l 1 s) (498 + 10 * l + 9) (liesN n l 1 s (498 + 10 * l + 9) ||| bitI c)
theorem RS.sack {M : Mm} {a : Nat} {n : Nat → Int32} (h : RS (mI M) a n) {l : Nat} (hl : l < nv n 2) {s c : Int32} : RS (mI (sackL M (a + 2) l s c)) a (tosN n l s c) := by
  have h30 := h.2.2.1.2.1.2
  have e : mI M (a + 2 + 10) l = n (498 + 10 * l + 9) := h.2.2.1.2.2 l hl 9 (by omega)
  have g1 := h.lf (l := l) (f := 3) (v := 1) (by omega) (by omega)
  have g2 := g1.lf (l := l) (f := 4) (v := s) (by omega) (by omega)
  have g3 := g2.lf (l := l) (f := 9) (v := n (498 + 10 * l + 9) ||| bitI c) (by omega) (by omega)
  unfold sackL tosN
  rw [e, show liesN n l 1 s (498 + 10 * l + 9) = n (498 + 10 * l + 9) from by unfold liesN; rw [upd_o (by omega), upd_o (by omega)]]
  exact g3
/-- what changes lies in the letters -/
theorem hand_out {M : Mm} {a l : Nat} {hr : Int32} : outB (mI (handL M (a + 2) l hr)) (mI M) a 18 := fun x hx k => (congrFun (uIo (by omega)) k).trans ((congrFun (uIo (by omega)) k).trans (congrFun (uIo (by omega)) k))
theorem off_out {M : Mm} {a l : Nat} {v : Int32} : outB (mI (offL M (a + 2) l v)) (mI M) a 18 := fun x hx k => (congrFun (uIo (by omega)) k).trans (congrFun (uIo (by omega)) k)
theorem sack_out {M : Mm} {a l : Nat} {s c : Int32} : outB (mI (sackL M (a + 2) l s c)) (mI M) a 18 := fun x hx k => (congrFun (uIo (by omega)) k).trans ((congrFun (uIo (by omega)) k).trans (congrFun (uIo (by omega)) k))
/-- the rotation of the sacks, as the loop does it: the first sack, the one before (9: none), the sacks -/
def rtF (g : Nat → Bool) (K : Nat → Int32) : Nat → Int32 × Nat × (Nat → Int32)
  | 0 => (-1, 9, K)
  | j + 1 => if g j = true then (if (rtF g K j).2.1 = 9 then ((rtF g K j).2.2 j, j, (rtF g K j).2.2) else ((rtF g K j).1, j, upd (rtF g K j).2.2 (rtF g K j).2.1 ((rtF g K j).2.2 j))) else rtF g K j
def rtK (g : Nat → Bool) (K : Nat → Int32) : Nat → Int32 := if (rtF g K 5).2.1 = 9 then (rtF g K 5).2.2 else upd (rtF g K 5).2.2 (rtF g K 5).2.1 (rtF g K 5).1
theorem rtK_is (g : Nat → Bool) (K : Nat → Int32) {c : Nat} (hc : c < 5) : rtK g K c = if g c = true then K (nxG g c) else K c := by
  rcases (show c = 0 ∨ c = 1 ∨ c = 2 ∨ c = 3 ∨ c = 4 by omega) with rfl | rfl | rfl | rfl | rfl
  all_goals (cases h0 : g 0 <;> cases h1 : g 1 <;> cases h2 : g 2 <;> cases h3 : g 3 <;> cases h4 : g 4 <;> simp [rtK, rtF, nxG, fstG, h0, h1, h2, h3, h4, upd])
theorem rtF_b (g : Nat → Bool) (K : Nat → Int32) : ∀ j, j ≤ 5 → (rtF g K j).2.1 = 9 ∨ (rtF g K j).2.1 < j
  | 0, _ => Or.inl rfl
  | j + 1, hj => by
    rcases rtF_b g K j (by omega) with h | h
    · unfold rtF
      by_cases hg : g j = true
      · rw [if_pos hg, if_pos h]
        exact Or.inr (by show j < j + 1; omega)
      · rw [if_neg hg]
        exact Or.inl h
    · unfold rtF
      by_cases hg : g j = true
      · rw [if_pos hg, if_neg (by omega)]
        exact Or.inr (by show j < j + 1; omega)
      · rw [if_neg hg]
        exact Or.inr (by omega)
/-- the one before, as a number -/
def b9 (b : Nat) : Int32 := if b = 9 then -1 else nI b
theorem b9_no {b : Nat} (h : b = 9 ∨ b < 5) (z : 0 ≤ b9 b) : b < 5 ∧ b9 b = nI b := by
  unfold b9 at z ⊢
  rcases h with h | h
  · rw [if_pos h] at z
    exact absurd z (by decide)
  · rw [if_neg (by omega)]
    exact ⟨h, rfl⟩
theorem b9_yes {b : Nat} (h : b = 9 ∨ b < 5) (z : ¬ 0 ≤ b9 b) : b = 9 := by
  unfold b9 at z
  rcases h with h | h
  · exact h
  · rw [if_neg (by omega)] at z
    exact absurd (nI_pos' (by omega)) z
set_option maxHeartbeats 2000000 in
set_option maxRecDepth 20000 in
theorem t_X8_rotateSacks {M : Mm} {a : Nat} {n : Nat → Int32} (hL : LX8 M.1 M.2.1 a) (hR : RS (mI M) a n) {g : Nat → Bool} : Ct G base YX8_rotateSacks 2 0 0 [.ref a, .int (setB g 5)] M (rI none M (fun i => RS i a (skN n (fun c => if g c = true then mI M (a + 1) (nxG g c) else mI M (a + 1) c)) ∧ outB i (mI M) a 18)) := by
  refine Ct.of IX8_rotateSacks.1 (by simp [Value.category]) (Nat.le_of_ble_eq_true rfl) (fun X hX hN => ?_)
  show J G base X 0 0 M 0 [some (.ref a), some (.int (setB g 5)), none, none, none] []
  refine r_iconst (v := (-1)) hX dX8_rotateSacks_0 (by decide) ?_
  refine r_istore2 hX dX8_rotateSacks_1 rfl ?_
  refine r_iconst (v := (-1)) hX dX8_rotateSacks_2 (by decide) ?_
  refine r_istore3 hX dX8_rotateSacks_3 rfl ?_
  refine r_iconst (v := nI 0) hX dX8_rotateSacks_4 (by decide) ?_
  refine r_istore4 hX dX8_rotateSacks_5 rfl ?_
  show J G base X 0 0 (wI M (mI M)) 7 _ []
  refine loop_us (σ := Nat → Nat → Int32) (P := fun j i => ((∀ c, c < 5 → i (a + 1) c = (rtF g (mI M (a + 1)) j).2.2 c) ∧ ∀ x, x ≠ a + 1 → i x = mI M x) → J G base X 0 0 (wI M i) 7 [some (.ref a), some (.int (setB g 5)), some (.int (rtF g (mI M (a + 1)) j).1), some (.int (b9 (rtF g (mI M (a + 1)) j).2.1)), some (.int (nI j))] []) 5 (fun j i hj ih hi => ?_) 0 (mI M) (Nat.zero_le _) ⟨fun _ _ => rfl, fun _ _ => rfl⟩
  have hb9 : (rtF g (mI M (a + 1)) j).2.1 = 9 ∨ (rtF g (mI M (a + 1)) j).2.1 < 5 := by
    have := rtF_b g (mI M (a + 1)) j hj
    omega
  refine r_iload hX dX8_rotateSacks_7 rfl ?_
  refine r_iconst (v := nI 5) hX dX8_rotateSacks_9 (by decide) ?_
  refine rn_icmp_ge (tgt := 59) hX dX8_rotateSacks_10 (by decide) rfl rfl (by omega) (by omega) (fun c10 => ?_) (fun c10 => ?_)
  · refine r_iload_n hX dX8_rotateSacks_59 rfl ?_
    refine r_if_lt (tgt := 70) hX dX8_rotateSacks_60 (by decide) (fun c60 => ?_) (fun c60 => ?_)
    · refine r_return hX rfl dX8_rotateSacks_70 (by decide) (by decide) ?_
      obtain rfl : j = 5 := by omega
      refine ⟨rfl, i, rfl, ?_, fun x hx k => congrFun (hi.2 x (by omega)) k⟩
      refine hR.sk (fun c hc => ?_) hi.2
      rw [← rtK_is g _ hc]
      unfold rtK
      rw [if_pos (b9_yes hb9 (i_nle.mpr c60))]
      exact hi.1 c hc
    · obtain rfl : j = 5 := by omega
      obtain ⟨hb5, hbe⟩ := b9_no hb9 (i_nlt.mp c60)
      rw [hbe]
      refine r_aload_n hX dX8_rotateSacks_63 rfl ?_
      refine r_getr hX dX8_rotateSacks_64 fl_X8_24 rfl (LX8_s hL) (LX8_r4 hL) ?_
      refine r_iload_n hX dX8_rotateSacks_67 rfl ?_
      refine r_iload_n hX dX8_rotateSacks_68 rfl ?_
      refine rn_iast hX dX8_rotateSacks_69 (LX8_a4 hL) rfl (by omega) (by omega) ?_
      refine r_return hX rfl dX8_rotateSacks_70 (by decide) (by decide) ?_
      refine ⟨rfl, mI (uI (wI M i) (a + 1) (rtF g (mI M (a + 1)) 5).2.1 (rtF g (mI M (a + 1)) 5).1), rfl, ?_, fun x hx k => (congrFun (uIo (by omega)) k).trans (congrFun (hi.2 x (by omega)) k)⟩
      refine hR.sk (fun c hc => ?_) (fun x hx => (uIo hx).trans (hi.2 x hx))
      rw [← rtK_is g _ hc]
      unfold rtK
      rw [if_neg (by omega), mI_uI, if_pos rfl]
      show (if c = (rtF g (mI M (a + 1)) 5).2.1 then (rtF g (mI M (a + 1)) 5).1 else i (a + 1) c) = upd (rtF g (mI M (a + 1)) 5).2.2 (rtF g (mI M (a + 1)) 5).2.1 (rtF g (mI M (a + 1)) 5).1 c
      unfold upd
      rw [hi.1 c hc]
  · refine r_iload_n hX dX8_rotateSacks_13 rfl ?_
    refine r_iload hX dX8_rotateSacks_14 rfl ?_
    refine r_cN2 (host := RX10) hX dX8_rotateSacks_16 IX10_has (by decide +kernel) rfl (t_X10_has (M := wI M i)) (by decide) (by decide) (by decide) (by decide) rfl (Nat.le_of_ble_eq_true rfl) ?_
    rw [itec (hasP_set (f := g) (by omega) (by omega)), itec (show (j < 5 ∧ j ≤ 30 ∧ g j = true) ↔ g j = true from ⟨fun z => z.2.2, fun z => ⟨by omega, by omega, z⟩⟩)]
    refine rb_if_eq (tgt := 53) hX dX8_rotateSacks_19 (by decide) rfl (fun c19 => ?_) (fun c19 => ?_)
    · refine rn_iinc4 hX dX8_rotateSacks_53 rfl rfl ?_
      refine r_goto (tgt := 7) hX dX8_rotateSacks_56 (by decide) ?_
      have e9 : rtF g (mI M (a + 1)) (j + 1) = rtF g (mI M (a + 1)) j := by
        conv => lhs; unfold rtF
        rw [if_neg c19]
      have z := ih (by omega) i ⟨fun c hc => by rw [e9]; exact hi.1 c hc, hi.2⟩
      rw [e9] at z
      exact z
    · refine r_iload_n hX dX8_rotateSacks_22 rfl ?_
      refine r_if_ge (tgt := 37) hX dX8_rotateSacks_23 (by decide) (fun c23 => ?_) (fun c23 => ?_)
      · obtain ⟨hb5, hbe⟩ := b9_no hb9 c23
        rw [hbe]
        refine r_aload_n hX dX8_rotateSacks_37 rfl ?_
        refine r_getr hX dX8_rotateSacks_38 fl_X8_24 rfl (LX8_s hL) (LX8_r4 hL) ?_
        refine r_iload_n hX dX8_rotateSacks_41 rfl ?_
        refine r_aload_n hX dX8_rotateSacks_42 rfl ?_
        refine r_getr hX dX8_rotateSacks_43 fl_X8_24 rfl (LX8_s hL) (LX8_r4 hL) ?_
        refine r_iload hX dX8_rotateSacks_46 rfl ?_
        refine rn_iald hX dX8_rotateSacks_48 (LX8_a4 hL) rfl (by omega) (by omega) ?_
        rw [show mI (wI M i) (a + 1) j = (rtF g (mI M (a + 1)) j).2.2 j from hi.1 j (by omega)]
        refine rn_iast hX dX8_rotateSacks_49 (LX8_a4 hL) rfl (by omega) (by omega) ?_
        refine r_iload hX dX8_rotateSacks_50 rfl ?_
        refine r_istore3 hX dX8_rotateSacks_52 rfl ?_
        refine rn_iinc4 hX dX8_rotateSacks_53 rfl rfl ?_
        refine r_goto (tgt := 7) hX dX8_rotateSacks_56 (by decide) ?_
        have e9 : rtF g (mI M (a + 1)) (j + 1) = ((rtF g (mI M (a + 1)) j).1, j, upd (rtF g (mI M (a + 1)) j).2.2 (rtF g (mI M (a + 1)) j).2.1 ((rtF g (mI M (a + 1)) j).2.2 j)) := by
          conv => lhs; unfold rtF
          rw [if_pos c19, if_neg (by omega)]
        have z := ih (by omega) (mI (uI (wI M i) (a + 1) (rtF g (mI M (a + 1)) j).2.1 ((rtF g (mI M (a + 1)) j).2.2 j))) ⟨fun c hc => ?_, fun x hx => (uIo hx).trans (hi.2 x hx)⟩
        · rw [e9] at z
          simp only [b9] at z
          rw [if_neg (by omega)] at z
          exact z
        · rw [e9, mI_uI, if_pos rfl]
          show (if c = (rtF g (mI M (a + 1)) j).2.1 then (rtF g (mI M (a + 1)) j).2.2 j else i (a + 1) c) = upd (rtF g (mI M (a + 1)) j).2.2 (rtF g (mI M (a + 1)) j).2.1 ((rtF g (mI M (a + 1)) j).2.2 j) c
          unfold upd
          rw [hi.1 c hc]
      · refine r_aload_n hX dX8_rotateSacks_26 rfl ?_
        refine r_getr hX dX8_rotateSacks_27 fl_X8_24 rfl (LX8_s hL) (LX8_r4 hL) ?_
        refine r_iload hX dX8_rotateSacks_30 rfl ?_
        refine rn_iald hX dX8_rotateSacks_32 (LX8_a4 hL) rfl (by omega) (by omega) ?_
        rw [show mI (wI M i) (a + 1) j = (rtF g (mI M (a + 1)) j).2.2 j from hi.1 j (by omega)]
        refine r_istore2 hX dX8_rotateSacks_33 rfl ?_
        refine r_goto (tgt := 50) hX dX8_rotateSacks_34 (by decide) ?_
        refine r_iload hX dX8_rotateSacks_50 rfl ?_
        refine r_istore3 hX dX8_rotateSacks_52 rfl ?_
        refine rn_iinc4 hX dX8_rotateSacks_53 rfl rfl ?_
        refine r_goto (tgt := 7) hX dX8_rotateSacks_56 (by decide) ?_
        have hb0 : (rtF g (mI M (a + 1)) j).2.1 = 9 := b9_yes hb9 c23
        have e9 : rtF g (mI M (a + 1)) (j + 1) = ((rtF g (mI M (a + 1)) j).2.2 j, j, (rtF g (mI M (a + 1)) j).2.2) := by
          conv => lhs; unfold rtF
          rw [if_pos c19, if_pos hb0]
        have z := ih (by omega) i ⟨fun c hc => by rw [e9]; exact hi.1 c hc, hi.2⟩
        rw [e9] at z
        simp only [b9] at z
        rw [if_neg (by omega)] at z
        exact z
