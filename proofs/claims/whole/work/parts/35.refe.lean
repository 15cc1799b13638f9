variable {G : GG} {base : Nat}
/-- the offices so far, the carriers below c looked at -/
def oA (n : Nat → Int32) (h : Nat) (C O : Nat → Bool) (c p : Nat) : Bool := O p || (town n p && anyB (fun c => grpB n h p c && c1B n h C c) c)
theorem oA_yes {n : Nat → Int32} {h : Nat} {C O : Nat → Bool} {c q : Nat} {oo : Int32} (hq : plQ n h c = q) (hq10 : q < 10) (ht : town n q = true) (hc : c1B n h C c = true) (h9 : ∀ p, p < 10 → bt oo p = oA n h C O c p) : ∀ p, p < 10 → bt (oo ||| b1 q) p = oA n h C O (c + 1) p := by
  intro p hp
  rw [bt_or_b1 (by omega), h9 p hp]
  unfold oA
  simp only [anyB]
  by_cases e : p = q
  · subst e
    simp [ht, grpB, hq, hc]
  · have : grpB n h p c = false := by simp [grpB, hq]; omega
    simp [this, e]
theorem oA_no {n : Nat → Int32} {h : Nat} {C O : Nat → Bool} {c : Nat} {oo : Int32} (hno : ¬ (town n (plQ n h c) = true ∧ c1B n h C c = true)) (h9 : ∀ p, p < 10 → bt oo p = oA n h C O c p) : ∀ p, p < 10 → bt oo p = oA n h C O (c + 1) p := by
  intro p hp
  rw [h9 p hp]
  unfold oA
  simp only [anyB]
  by_cases e : plQ n h c = p
  · rw [e] at hno
    by_cases ht : town n p = true
    · have hc : c1B n h C c = false := by
        cases z : c1B n h C c
        · rfl
        · exact absurd ⟨ht, z⟩ hno
      simp [hc]
    · simp [show town n p = false by simpa using ht]
  · have : grpB n h p c = false := by simp [grpB, e]
    simp [this]
theorem oA_end {n : Nat → Int32} {h : Nat} {C O : Nat → Bool} (hm : nv n 1 ≤ 5) {p : Nat} (hp : p < 10) : oA n h C O (nv n 1) p = o1B n h C O p := by
  unfold oA o1B
  rw [anyB_more (k := nv n 1) (m := 5) hm (fun c z1 z2 => by simp only [grpB, plQ_out z1]; rw [decide_eq_false (by omega), Bool.false_and])]
/-- the sacks so far -/
def sA (n : Nat → Int32) (h : Nat) (C O : Nat → Bool) (c c' : Nat) : Bool := c1B n h C c' || (decide (c' < c) && (town n (plQ n h c') && o1B n h C O (plQ n h c')))
theorem sA_yes {n : Nat → Int32} {h : Nat} {C O : Nat → Bool} {c : Nat} {ss : Int32} {K : Nat → Nat} (hK : KOk K) (hc5 : c < 5) (ht : town n (plQ n h c) = true) (ho : o1B n h C O (plQ n h c) = true) (h9 : ∀ c', c' < 5 → bt ss (K c') = sA n h C O c c') : ∀ c', c' < 5 → bt (ss ||| b1 (K c)) (K c') = sA n h C O (c + 1) c' := by
  intro c' hc'
  have := hK.1 c hc5
  rw [bt_or_b1 (by omega), h9 c' hc']
  unfold sA
  by_cases e : c' = c
  · subst e
    simp [ht, ho]
  · have hne : K c' ≠ K c := fun z => e (hK.2 _ _ hc' hc5 z)
    rw [decide_eq_false hne, Bool.or_false, show decide (c' < c + 1) = decide (c' < c) by congr 1; exact propext ⟨fun _ => by omega, fun _ => by omega⟩]
theorem sA_no {n : Nat → Int32} {h : Nat} {C O : Nat → Bool} {c : Nat} {ss : Int32} {K : Nat → Nat} (hno : ¬ (town n (plQ n h c) = true ∧ o1B n h C O (plQ n h c) = true)) (h9 : ∀ c', c' < 5 → bt ss (K c') = sA n h C O c c') : ∀ c', c' < 5 → bt ss (K c') = sA n h C O (c + 1) c' := by
  intro c' hc'
  rw [h9 c' hc']
  unfold sA
  by_cases e : c' = c
  · subst e
    have : (town n (plQ n h c') && o1B n h C O (plQ n h c')) = false := by
      cases z1 : town n (plQ n h c')
      · rfl
      · cases z2 : o1B n h C O (plQ n h c')
        · rfl
        · exact absurd ⟨z1, z2⟩ hno
    rw [this, Bool.and_false, Bool.and_false]
  · rw [show decide (c' < c + 1) = decide (c' < c) by congr 1; exact propext ⟨fun _ => by omega, fun _ => by omega⟩]
theorem sA_end {n : Nat → Int32} {h : Nat} {C O : Nat → Bool} (h0 : nv n 0 ≤ 10) {c' : Nat} : sA n h C O (nv n 1) c' = c2B n h C O c' := by
  unfold sA c2B
  by_cases hc : c' < nv n 1
  · rw [decide_eq_true hc, Bool.true_and]
  · rw [decide_eq_false hc, plQ_out (by omega), town_10 h0]
    rfl
/-- the place of a carrier is a town -/
theorem plTown {n : Nat → Int32} (hT : TbOk n) {c h : Nat} (hc : c < nv n 1) : townP n (placeN n c h) ↔ town n (plQ n h c) = true := by
  have h5 := hT.2.1.2
  rcases placeN_of hT.2.2 (by omega) hc h with ⟨e1, e2⟩ | ⟨q, q1, q2, e1, e2⟩
  · rw [e1, e2, town_10 hT.1.2]
    exact ⟨fun z => absurd z.1 (by decide), fun z => by cases z⟩
  · rw [e1, e2]
    exact town_iff hT.1 q1
theorem plIs {n : Nat → Int32} (hT : TbOk n) {c h : Nat} (hc : c < nv n 1) (ht : townP n (placeN n c h)) : placeN n c h = nI (plQ n h c) ∧ plQ n h c < 10 ∧ plQ n h c < nv n 0 := by
  have h5 := hT.2.1.2
  rcases placeN_of hT.2.2 (by omega) hc h with ⟨e1, e2⟩ | ⟨q, q1, q2, e1, e2⟩
  · rw [e1] at ht
    exact absurd ht.1 (by decide)
  · rw [e2]
    exact ⟨e1, q2, q1⟩
set_option maxHeartbeats 2000000 in
set_option maxRecDepth 20000 in
theorem t_X11_laysArrivalsBy {M : Mm} {a : Nat} {n : Nat → Int32} (hL : LX11 M.1 M.2.1 a) (hn : mI M (a + 1) = n) (hT : TbOk n) {C0 O0 : Nat → Bool} {K0 : Nat → Nat} (hK : KOk K0) (hK0 : ∀ c, c < 5 → mI M (a + 8) c = nI (K0 c)) {ss0 oo0 : Int32} (hC : ∀ c, c < 5 → bt ss0 (K0 c) = C0 c) (hO : ∀ p, p < 10 → bt oo0 p = O0 p) {h : Nat} (hh : h < 1000000) : Ct G base YX11_laysArrivalsBy 5 0 0 [.ref a, .int ss0, .int oo0, .int (nI h)] M (rI none M (fun i => (∀ p, p < nv n 0 → i (a + 9) p = arN n h C0 O0 240 p) ∧ ∀ x, x ≠ a + 7 ∧ x ≠ a + 9 → i x = mI M x)) := by
  refine Ct.of IX11_laysArrivalsBy.1 (by simp [Value.category]) (Nat.le_of_ble_eq_true rfl) (fun X hX hN => ?_)
  show J G base X 0 0 M 0 [some (.ref a), some (.int ss0), some (.int oo0), some (.int (nI h)), none, none, none, none, none] []
  have h0 := hT.1
  have h1 := hT.2.1
  have hr := hT.2.2
  have hp10 := h0.2
  have hm5 := h1.2
  have hpr : ∀ i : Nat → Nat → Int32, (∀ x, x ≠ a + 7 ∧ x ≠ a + 9 → i x = mI M x) → mI (wI M i) (a + 1) = n := fun i hi => (hi _ ⟨by omega, by omega⟩).trans hn
  refine r_iload_n hX dX11_laysArrivalsBy_0 rfl ?_
  refine r_istore4 hX dX11_laysArrivalsBy_1 rfl ?_
  refine r_iload_n hX dX11_laysArrivalsBy_3 rfl ?_
  refine r_istore5 hX dX11_laysArrivalsBy_4 rfl ?_
  refine r_iconst (v := nI 0) hX dX11_laysArrivalsBy_6 (by decide) ?_
  refine r_istore6 hX dX11_laysArrivalsBy_7 rfl ?_
  show J G base X 0 0 (wI M (mI M)) 9 _ []
  refine loop_us (σ := Nat → Nat → Int32) (P := fun j i => ((∀ p, p < j → i (a + 9) p = -1) ∧ ∀ x, x ≠ a + 9 → i x = mI M x) → J G base X 0 0 (wI M i) 9 [some (.ref a), some (.int ss0), some (.int oo0), some (.int (nI h)), some (.int ss0), some (.int oo0), some (.int (nI j)), none, none] []) 10 (fun j i hj ih hi => ?_) 0 (mI M) (Nat.zero_le _) ⟨fun p hp => by omega, fun _ _ => rfl⟩
  refine r_iload hX dX11_laysArrivalsBy_9 rfl ?_
  refine r_bipush (v := nI 10) hX dX11_laysArrivalsBy_11 (by decide) ?_
  refine rn_icmp_ge (tgt := 30) hX dX11_laysArrivalsBy_13 (by decide) rfl rfl (by omega) (by omega) (fun c13 => ?_) (fun c13 => ?_)
  · obtain rfl : j = 10 := by omega
    have hi9 := hi
    clear ih
    refine r_iconst (v := nI 0) hX dX11_laysArrivalsBy_30 (by decide) ?_
    refine r_istore6 hX dX11_laysArrivalsBy_31 rfl ?_
    refine loop_us (σ := Nat → Nat → Int32) (P := fun j i2 => ((∀ c, c < j → i2 (a + 7) c = nI (K0 c)) ∧ ∀ x, x ≠ a + 7 → i2 x = i x) → J G base X 0 0 (wI M i2) 33 [some (.ref a), some (.int ss0), some (.int oo0), some (.int (nI h)), some (.int ss0), some (.int oo0), some (.int (nI j)), none, none] []) 5 (fun j i2 hj ih hi => ?_) 0 i (Nat.zero_le _) ⟨fun c hc => by omega, fun _ _ => rfl⟩
    have h8 : ∀ c, c < 5 → mI (wI M i2) (a + 8) c = nI (K0 c) := fun c hc => by show i2 (a + 8) c = _; rw [hi.2 _ (by omega), hi9.2 _ (by omega)]; exact hK0 c hc
    refine r_iload hX dX11_laysArrivalsBy_33 rfl ?_
    refine r_iconst (v := nI 5) hX dX11_laysArrivalsBy_35 (by decide) ?_
    refine rn_icmp_ge (tgt := 59) hX dX11_laysArrivalsBy_36 (by decide) rfl rfl (by omega) (by omega) (fun c36 => ?_) (fun c36 => ?_)
    · obtain rfl : j = 5 := by omega
      have g1 : ∀ c, c < 5 → i2 (a + 7) c = nI (K0 c) := hi.1
      have g2 : ∀ p, p < nv n 0 → i2 (a + 9) p = arN n h C0 O0 0 p := fun p hp => by rw [hi.2 _ (by omega)]; exact hi9.1 p (by omega)
      have g3 : ∀ x, x ≠ a + 7 ∧ x ≠ a + 9 → i2 x = mI M x := fun x hx => by rw [hi.2 x hx.1, hi9.2 x hx.2]
      clear ih hi hi9 h8
      refine r_iload_n hX dX11_laysArrivalsBy_59 rfl ?_
      refine r_istore6 hX dX11_laysArrivalsBy_60 rfl ?_
      have main : ∀ k, k ≤ 240 → ∀ z : (Nat → Nat → Int32) × Int32 × Int32 × (Nat → Nat), ((∀ c, c < 5 → z.1 (a + 7) c = nI (z.2.2.2 c)) ∧ KOk z.2.2.2 ∧ (∀ c, c < 5 → bt z.2.1 (z.2.2.2 c) = (spN n h C0 O0 k).1 c) ∧ (∀ p, p < 10 → bt z.2.2.1 p = (spN n h C0 O0 k).2 p) ∧ (∀ p, p < nv n 0 → z.1 (a + 9) p = arN n h C0 O0 k p) ∧ ∀ x, x ≠ a + 7 ∧ x ≠ a + 9 → z.1 x = mI M x) → J G base X 0 0 (wI M z.1) 62 [some (.ref a), some (.int ss0), some (.int oo0), some (.int (nI h)), some (.int z.2.1), some (.int z.2.2.1), some (.int (nI (h + k))), none, none] [] := ?_
      · exact main 0 (by omega) (i2, ss0, oo0, K0) ⟨g1, hK, hC, hO, g2, g3⟩
      refine loop_up 240 (fun k hk ih z hz => ?_)
      obtain ⟨i3, ss, oo, K⟩ := z
      obtain ⟨z1, z2, z3, z4, z5, z6⟩ := hz
      have hn3 := hpr i3 z6
      dsimp only at z1 z2 z3 z4 z5 z6 hn3 ⊢
      refine r_iload hX dX11_laysArrivalsBy_62 rfl ?_
      refine r_iload_n hX dX11_laysArrivalsBy_64 rfl ?_
      refine r_sipush (v := nI 240) hX dX11_laysArrivalsBy_65 (by decide) ?_
      refine rn_iadd hX dX11_laysArrivalsBy_68 rfl rfl ?_
      refine rn_icmp_ge (tgt := 258) hX dX11_laysArrivalsBy_69 (by decide) rfl rfl (by omega) (by omega) (fun c69 => ?_) (fun c69 => ?_)
      · refine r_return hX rfl dX11_laysArrivalsBy_258 (by decide) (by decide) ?_
        obtain rfl : k = 240 := by omega
        exact ⟨rfl, i3, rfl, z5, z6⟩
      · refine r_aload_n hX dX11_laysArrivalsBy_72 rfl ?_
        refine r_iload hX dX11_laysArrivalsBy_73 rfl ?_
        refine r_aload_n hX dX11_laysArrivalsBy_75 rfl ?_
        refine r_getr hX dX11_laysArrivalsBy_76 fl_X11_36 rfl (LX11_s hL) (LX11_r16 hL) ?_
        refine r_iV2 hX dX11_laysArrivalsBy_79 IX11_swaps ml_X11_237 rfl (LX11_s hL) rfl (t_X11_swaps (M := wI M i3) hL hn3 hT (by omega) (LX11_a16 hL) (by omega)) (by decide) (by decide) (by decide) (by decide) rfl (Nat.le_of_ble_eq_true rfl) (fun i4 h4 => ?_)
        show J G base X _ _ (wI M i4) _ _ _
        have hn4 : mI (wI M i4) (a + 1) = n := (h4.2 _ (by omega)).trans hn3
        generalize hK' : (fun c => K (nxP n (h + k) c)) = K'
        have hKo : KOk K' := by rw [← hK']; exact z2.nx n (h + k)
        have y1 : ∀ c, c < 5 → mI (wI M i4) (a + 7) c = nI (K' c) := fun c hc => by
          show i4 (a + 7) c = _
          rw [h4.1 c hc, ← hK']
          exact z1 _ (nxP_lt hc)
        have y2 : ∀ c, c < 5 → bt ss (K' c) = c1B n (h + k) (spN n h C0 O0 k).1 c := fun c hc => by
          rw [← hK']
          exact z3 _ (nxP_lt hc)
        have y5 : ∀ p, p < nv n 0 → i4 (a + 9) p = arN n h C0 O0 k p := fun p hp => by rw [h4.2 _ (by omega)]; exact z5 p hp
        have y6 : ∀ x, x ≠ a + 7 ∧ x ≠ a + 9 → i4 x = mI M x := fun x hx => by rw [h4.2 x hx.1]; exact z6 x hx
        clear h4 z1 z2 z5 z6 hn3
        generalize hC9 : (spN n h C0 O0 k).1 = C at y2 z3
        generalize hO9 : (spN n h C0 O0 k).2 = O at z4
        have e1 : (spN n h C0 O0 (k + 1)).1 = c2B n (h + k) C O := by rw [← hC9, ← hO9]; rfl
        have e2 : (spN n h C0 O0 (k + 1)).2 = o1B n (h + k) C O := by rw [← hC9, ← hO9]; rfl
        refine r_iconst (v := nI 0) hX dX11_laysArrivalsBy_82 (by decide) ?_
        refine r_istore7 hX dX11_laysArrivalsBy_83 rfl ?_
        refine loop_us (σ := Int32) (P := fun c oo => (∀ p, p < 10 → bt oo p = oA n (h + k) C O c p) → J G base X 0 0 (wI M i4) 85 [some (.ref a), some (.int ss0), some (.int oo0), some (.int (nI h)), some (.int ss), some (.int oo), some (.int (nI (h + k))), some (.int (nI c)), none] []) (nv n 1) (fun c oo hc ihc ho => ?_) 0 oo (Nat.zero_le _) (fun p hp => by rw [z4 p hp]; simp [oA, anyB])
        refine r_iload hX dX11_laysArrivalsBy_85 rfl ?_
        refine r_aload_n hX dX11_laysArrivalsBy_87 rfl ?_
        refine r_cV0 hX dX11_laysArrivalsBy_88 IX11_carriers ml_X11_151 rfl (LX11_s hL) rfl (t_X11_carriers (M := wI M i4) hL hn4 h1) (by decide) (by decide) (by decide) (by decide) rfl (Nat.le_of_ble_eq_true rfl) ?_
        refine rn_icmp_ge (tgt := 143) hX dX11_laysArrivalsBy_91 (by decide) rfl rfl (by omega) (by omega) (fun c91 => ?_) (fun c91 => ?_)
        · obtain rfl : c = nv n 1 := by omega
          have o1 : ∀ p, p < 10 → bt oo p = o1B n (h + k) C O p := fun p hp => by rw [ho p hp, oA_end hm5 hp]
          clear ihc ho
          refine r_iconst (v := nI 0) hX dX11_laysArrivalsBy_143 (by decide) ?_
          refine r_istore7 hX dX11_laysArrivalsBy_144 rfl ?_
          refine loop_us (σ := Int32) (P := fun c ss => (∀ c', c' < 5 → bt ss (K' c') = sA n (h + k) C O c c') → J G base X 0 0 (wI M i4) 146 [some (.ref a), some (.int ss0), some (.int oo0), some (.int (nI h)), some (.int ss), some (.int oo), some (.int (nI (h + k))), some (.int (nI c)), none] []) (nv n 1) (fun c ss hc ihc hs => ?_) 0 ss (Nat.zero_le _) (fun c' hc' => by rw [y2 c' hc']; simp [sA])
          refine r_iload hX dX11_laysArrivalsBy_146 rfl ?_
          refine r_aload_n hX dX11_laysArrivalsBy_148 rfl ?_
          refine r_cV0 hX dX11_laysArrivalsBy_149 IX11_carriers ml_X11_151 rfl (LX11_s hL) rfl (t_X11_carriers (M := wI M i4) hL hn4 h1) (by decide) (by decide) (by decide) (by decide) rfl (Nat.le_of_ble_eq_true rfl) ?_
          refine rn_icmp_ge (tgt := 204) hX dX11_laysArrivalsBy_152 (by decide) rfl rfl (by omega) (by omega) (fun c152 => ?_) (fun c152 => ?_)
          · obtain rfl : c = nv n 1 := by omega
            have s1 : ∀ c', c' < 5 → bt ss (K' c') = c2B n (h + k) C O c' := fun c' hc' => by rw [hs c' hc', sA_end hp10]
            clear ihc hs
            refine r_iconst (v := nI 0) hX dX11_laysArrivalsBy_204 (by decide) ?_
            refine r_istore7 hX dX11_laysArrivalsBy_205 rfl ?_
            refine loop_us (σ := Nat → Nat → Int32) (P := fun p i5 => ((∀ p', p' < nv n 0 → i5 (a + 9) p' = if p' < p then arN n h C0 O0 (k + 1) p' else arN n h C0 O0 k p') ∧ ∀ x, x ≠ a + 9 → i5 x = i4 x) → J G base X 0 0 (wI M i5) 207 [some (.ref a), some (.int ss0), some (.int oo0), some (.int (nI h)), some (.int ss), some (.int oo), some (.int (nI (h + k))), some (.int (nI p)), none] []) (nv n 0) (fun p i5 hp ihp hi5 => ?_) 0 i4 (Nat.zero_le _) ⟨fun p' hp' => by rw [if_neg (by omega)]; exact y5 p' hp', fun _ _ => rfl⟩
            have hn5 : mI (wI M i5) (a + 1) = n := (hi5.2 _ (by omega)).trans hn4
            have hst : p < nv n 0 → ∀ w, w = arN n h C0 O0 (k + 1) p → ∀ p', p' < nv n 0 → (if p' = p then w else i5 (a + 9) p') = if p' < p + 1 then arN n h C0 O0 (k + 1) p' else arN n h C0 O0 k p' := fun hp9 w hw p' hp' => by
              by_cases e : p' = p
              · subst e
                rw [if_pos rfl, if_pos (by omega), hw]
              · rw [if_neg e, hi5.1 p' hp']
                by_cases e2 : p' < p
                · rw [if_pos e2, if_pos (by omega)]
                · rw [if_neg e2, if_neg (by omega)]
            have hself : ∀ p', i5 (a + 9) p' = if p' = p then i5 (a + 9) p else i5 (a + 9) p' := fun p' => by
              by_cases e : p' = p
              · rw [if_pos e, e]
              · rw [if_neg e]
            have hcur : p < nv n 0 → i5 (a + 9) p = arN n h C0 O0 k p := fun hp9 => by rw [hi5.1 p hp9, if_neg (by omega)]
            refine r_iload hX dX11_laysArrivalsBy_207 rfl ?_
            refine r_aload_n hX dX11_laysArrivalsBy_209 rfl ?_
            refine r_cV0 hX dX11_laysArrivalsBy_210 IX11_places ml_X11_75 rfl (LX11_s hL) rfl (t_X11_places (M := wI M i5) hL hn5 h0) (by decide) (by decide) (by decide) (by decide) rfl (Nat.le_of_ble_eq_true rfl) ?_
            refine rn_icmp_ge (tgt := 252) hX dX11_laysArrivalsBy_213 (by decide) rfl rfl (by omega) (by omega) (fun c213 => ?_) (fun c213 => ?_)
            · obtain rfl : p = nv n 0 := by omega
              refine rn_iinc6 hX dX11_laysArrivalsBy_252 rfl rfl ?_
              refine r_goto (tgt := 62) hX dX11_laysArrivalsBy_255 (by decide) ?_
              refine J.junk (ih (by omega) (i5, ss, oo, K') ⟨fun c hc => ?_, hKo, ?_, ?_, fun p hp => ?_, fun x hx => ?_⟩) (by repeat first | exact trivial | refine ⟨rfl, ?_⟩)
              · show i5 (a + 7) c = _
                rw [hi5.2 _ (by omega)]; exact y1 c hc
              · rw [e1]; exact s1
              · rw [e2]; exact o1
              · show i5 (a + 9) p = _
                rw [hi5.1 p hp, if_pos hp]
              · show i5 x = _
                rw [hi5.2 x hx.2]; exact y6 x hx
            · refine r_aload_n hX dX11_laysArrivalsBy_216 rfl ?_
              refine r_getr hX dX11_laysArrivalsBy_217 fl_X11_42 rfl (LX11_s hL) (LX11_r18 hL) ?_
              refine r_iload hX dX11_laysArrivalsBy_220 rfl ?_
              refine rn_iald hX dX11_laysArrivalsBy_222 (LX11_a18 hL) rfl (by omega) (by omega) ?_
              refine r_iconst (v := (-1)) hX dX11_laysArrivalsBy_223 (by decide) ?_
              refine r_icmp_ne (tgt := 246) hX dX11_laysArrivalsBy_224 (by decide) (fun c224 => ?_) (fun c224 => ?_)
              · refine rn_iinc7 hX dX11_laysArrivalsBy_246 rfl rfl ?_
                refine r_goto (tgt := 207) hX dX11_laysArrivalsBy_249 (by decide) ?_
                refine ihp (by omega) i5 ⟨fun p' hp' => ?_, hi5.2⟩
                rw [hself p']
                refine hst c213 _ ?_ p' hp'
                rw [hcur c213]
                have hx : ¬ arN n h C0 O0 k p = -1 := by rw [← hcur c213]; exact c224
                simp only [arN]
                rw [if_neg hx]
              · refine r_iload hX dX11_laysArrivalsBy_227 rfl ?_
                refine r_iload hX dX11_laysArrivalsBy_229 rfl ?_
                refine r_cS2 hX dX11_laysArrivalsBy_231 IX11_has ml_X11_160 rfl (t_X11_has (M := wI M i5) (by omega)) (by decide) (by decide) (by decide) (by decide) rfl (Nat.le_of_ble_eq_true rfl) ?_
                refine rb_if_eq (tgt := 246) hX dX11_laysArrivalsBy_234 (by decide) rfl (fun c234 => ?_) (fun c234 => ?_)
                · refine rn_iinc7 hX dX11_laysArrivalsBy_246 rfl rfl ?_
                  refine r_goto (tgt := 207) hX dX11_laysArrivalsBy_249 (by decide) ?_
                  refine ihp (by omega) i5 ⟨fun p' hp' => ?_, hi5.2⟩
                  rw [hself p']
                  refine hst c213 _ ?_ p' hp'
                  have hx : arN n h C0 O0 k p = -1 := by rw [← hcur c213]; exact c224
                  have ho : ¬ (spN n h C0 O0 (k + 1)).2 p = true := by rw [e2, ← o1 p (by omega)]; exact c234
                  rw [hcur c213]
                  simp only [arN]
                  rw [if_pos hx, if_neg ho, hx]
                · refine r_aload_n hX dX11_laysArrivalsBy_237 rfl ?_
                  refine r_getr hX dX11_laysArrivalsBy_238 fl_X11_42 rfl (LX11_s hL) (LX11_r18 hL) ?_
                  refine r_iload hX dX11_laysArrivalsBy_241 rfl ?_
                  refine r_iload hX dX11_laysArrivalsBy_243 rfl ?_
                  refine rn_iast hX dX11_laysArrivalsBy_245 (LX11_a18 hL) rfl (by omega) (by omega) ?_
                  refine rn_iinc7 hX dX11_laysArrivalsBy_246 rfl rfl ?_
                  refine r_goto (tgt := 207) hX dX11_laysArrivalsBy_249 (by decide) ?_
                  refine ihp (by omega) (mI (uI (wI M i5) (a + 9) p (nI (h + k)))) ⟨fun p' hp' => ?_, fun x hx => (uIo hx).trans (hi5.2 x hx)⟩
                  rw [show mI (uI (wI M i5) (a + 9) p (nI (h + k))) (a + 9) p' = if p' = p then nI (h + k) else i5 (a + 9) p' from by simp [mI_uI, mI_wI]]
                  refine hst c213 _ ?_ p' hp'
                  have hx : arN n h C0 O0 k p = -1 := by rw [← hcur c213]; exact c224
                  have ho : (spN n h C0 O0 (k + 1)).2 p = true := by rw [e2, ← o1 p (by omega)]; exact c234
                  simp only [arN]
                  rw [if_pos hx, if_pos ho]
          · refine r_aload_n hX dX11_laysArrivalsBy_155 rfl ?_
            refine r_iload hX dX11_laysArrivalsBy_156 rfl ?_
            refine r_iload hX dX11_laysArrivalsBy_158 rfl ?_
            refine r_cV2 hX dX11_laysArrivalsBy_160 IX11_placeIn ml_X11_228 rfl (LX11_s hL) rfl (t_X11_placeIn (M := wI M i4) hL hn4 hr (by omega) (by omega)) (by decide) (by decide) (by decide) (by decide) rfl (Nat.le_of_ble_eq_true rfl) ?_
            refine r_istore8 hX dX11_laysArrivalsBy_163 rfl ?_
            refine r_aload_n hX dX11_laysArrivalsBy_165 rfl ?_
            refine r_iload hX dX11_laysArrivalsBy_166 rfl ?_
            refine r_cV1 hX dX11_laysArrivalsBy_168 IX11_isTown ml_X11_166 rfl (LX11_s hL) rfl (t_X11_isTown (M := wI M i4) hL hn4 h0) (by decide) (by decide) (by decide) (by decide) rfl (Nat.le_of_ble_eq_true rfl) ?_
            refine rb_if_eq (tgt := 198) hX dX11_laysArrivalsBy_171 (by decide) rfl (fun c171 => ?_) (fun c171 => ?_)
            · refine rn_iinc7 hX dX11_laysArrivalsBy_198 rfl rfl ?_
              refine r_goto (tgt := 146) hX dX11_laysArrivalsBy_201 (by decide) ?_
              refine J.junk (ihc (by omega) _ ?_) (by repeat first | exact trivial | refine ⟨rfl, ?_⟩)
              exact sA_no (fun z => c171 ((plTown hT c152).mpr z.1)) hs
            · obtain ⟨pe, p10, -⟩ := plIs hT c152 c171
              rw [pe]
              refine r_iload hX dX11_laysArrivalsBy_174 rfl ?_
              refine r_iload hX dX11_laysArrivalsBy_176 rfl ?_
              refine r_cS2 hX dX11_laysArrivalsBy_178 IX11_has ml_X11_160 rfl (t_X11_has (M := wI M i4) (by omega)) (by decide) (by decide) (by decide) (by decide) rfl (Nat.le_of_ble_eq_true rfl) ?_
              refine rb_if_eq (tgt := 198) hX dX11_laysArrivalsBy_181 (by decide) rfl (fun c181 => ?_) (fun c181 => ?_)
              · refine rn_iinc7 hX dX11_laysArrivalsBy_198 rfl rfl ?_
                refine r_goto (tgt := 146) hX dX11_laysArrivalsBy_201 (by decide) ?_
                refine J.junk (ihc (by omega) _ ?_) (by repeat first | exact trivial | refine ⟨rfl, ?_⟩)
                first
                  | exact sA_yes hKo (by omega) ((plTown hT c152).mp c171) ((o1 _ p10).symm.trans c181) hs
                  | exact sA_no (fun z => c181 ((o1 _ p10).trans z.2)) hs
              · refine r_iload hX dX11_laysArrivalsBy_184 rfl ?_
                refine r_iconst (v := 1) hX dX11_laysArrivalsBy_186 (by decide) ?_
                refine r_aload_n hX dX11_laysArrivalsBy_187 rfl ?_
                refine r_getr hX dX11_laysArrivalsBy_188 fl_X11_36 rfl (LX11_s hL) (LX11_r16 hL) ?_
                refine r_iload hX dX11_laysArrivalsBy_191 rfl ?_
                refine rn_iald hX dX11_laysArrivalsBy_193 (LX11_a16 hL) rfl (by omega) (by omega) ?_
                rw [y1 c (by omega)]
                refine r_ishl hX dX11_laysArrivalsBy_194 ?_
                refine r_ior hX dX11_laysArrivalsBy_195 ?_
                refine r_istore4 hX dX11_laysArrivalsBy_196 rfl ?_
                refine rn_iinc7 hX dX11_laysArrivalsBy_198 rfl rfl ?_
                refine r_goto (tgt := 146) hX dX11_laysArrivalsBy_201 (by decide) ?_
                refine J.junk (ihc (by omega) _ ?_) (by repeat first | exact trivial | refine ⟨rfl, ?_⟩)
                first
                  | exact sA_yes hKo (by omega) ((plTown hT c152).mp c171) ((o1 _ p10).symm.trans c181) hs
                  | exact sA_no (fun z => c181 ((o1 _ p10).trans z.2)) hs
        · refine r_aload_n hX dX11_laysArrivalsBy_94 rfl ?_
          refine r_iload hX dX11_laysArrivalsBy_95 rfl ?_
          refine r_iload hX dX11_laysArrivalsBy_97 rfl ?_
          refine r_cV2 hX dX11_laysArrivalsBy_99 IX11_placeIn ml_X11_228 rfl (LX11_s hL) rfl (t_X11_placeIn (M := wI M i4) hL hn4 hr (by omega) (by omega)) (by decide) (by decide) (by decide) (by decide) rfl (Nat.le_of_ble_eq_true rfl) ?_
          refine r_istore8 hX dX11_laysArrivalsBy_102 rfl ?_
          refine r_aload_n hX dX11_laysArrivalsBy_104 rfl ?_
          refine r_iload hX dX11_laysArrivalsBy_105 rfl ?_
          refine r_cV1 hX dX11_laysArrivalsBy_107 IX11_isTown ml_X11_166 rfl (LX11_s hL) rfl (t_X11_isTown (M := wI M i4) hL hn4 h0) (by decide) (by decide) (by decide) (by decide) rfl (Nat.le_of_ble_eq_true rfl) ?_
          refine rb_if_eq (tgt := 137) hX dX11_laysArrivalsBy_110 (by decide) rfl (fun c110 => ?_) (fun c110 => ?_)
          · refine rn_iinc7 hX dX11_laysArrivalsBy_137 rfl rfl ?_
            refine r_goto (tgt := 85) hX dX11_laysArrivalsBy_140 (by decide) ?_
            refine J.junk (ihc (by omega) _ ?_) (by repeat first | exact trivial | refine ⟨rfl, ?_⟩)
            first
              | exact oA_yes rfl p10 ((plTown hT c91).mp c110) ((y2 c (by omega)).symm.trans c125) ho
              | exact oA_no (fun z => c110 ((plTown hT c91).mpr z.1)) ho
              | exact oA_no (fun z => c125 ((y2 c (by omega)).trans z.2)) ho
          · refine r_iload hX dX11_laysArrivalsBy_113 rfl ?_
            refine r_aload_n hX dX11_laysArrivalsBy_115 rfl ?_
            refine r_getr hX dX11_laysArrivalsBy_116 fl_X11_36 rfl (LX11_s hL) (LX11_r16 hL) ?_
            refine r_iload hX dX11_laysArrivalsBy_119 rfl ?_
            refine rn_iald hX dX11_laysArrivalsBy_121 (LX11_a16 hL) rfl (by omega) (by omega) ?_
            rw [y1 c (by omega)]
            refine r_cS2 hX dX11_laysArrivalsBy_122 IX11_has ml_X11_160 rfl (t_X11_has (M := wI M i4) (by have := hKo.1 c (by omega); omega)) (by decide) (by decide) (by decide) (by decide) rfl (Nat.le_of_ble_eq_true rfl) ?_
            refine rb_if_eq (tgt := 137) hX dX11_laysArrivalsBy_125 (by decide) rfl (fun c125 => ?_) (fun c125 => ?_)
            · refine rn_iinc7 hX dX11_laysArrivalsBy_137 rfl rfl ?_
              refine r_goto (tgt := 85) hX dX11_laysArrivalsBy_140 (by decide) ?_
              refine J.junk (ihc (by omega) _ ?_) (by repeat first | exact trivial | refine ⟨rfl, ?_⟩)
              first
                | exact oA_yes rfl p10 ((plTown hT c91).mp c110) ((y2 c (by omega)).symm.trans c125) ho
                | exact oA_no (fun z => c110 ((plTown hT c91).mpr z.1)) ho
                | exact oA_no (fun z => c125 ((y2 c (by omega)).trans z.2)) ho
            · obtain ⟨pe, p10, -⟩ := plIs hT c91 c110
              rw [pe]
              refine r_iload hX dX11_laysArrivalsBy_128 rfl ?_
              refine r_iconst (v := 1) hX dX11_laysArrivalsBy_130 (by decide) ?_
              refine r_iload hX dX11_laysArrivalsBy_131 rfl ?_
              refine r_ishl hX dX11_laysArrivalsBy_133 ?_
              refine r_ior hX dX11_laysArrivalsBy_134 ?_
              refine r_istore5 hX dX11_laysArrivalsBy_135 rfl ?_
              refine rn_iinc7 hX dX11_laysArrivalsBy_137 rfl rfl ?_
              refine r_goto (tgt := 85) hX dX11_laysArrivalsBy_140 (by decide) ?_
              refine J.junk (ihc (by omega) _ ?_) (by repeat first | exact trivial | refine ⟨rfl, ?_⟩)
              first
                | exact oA_yes rfl p10 ((plTown hT c91).mp c110) ((y2 c (by omega)).symm.trans c125) ho
                | exact oA_no (fun z => c110 ((plTown hT c91).mpr z.1)) ho
                | exact oA_no (fun z => c125 ((y2 c (by omega)).trans z.2)) ho
    · refine r_aload_n hX dX11_laysArrivalsBy_39 rfl ?_
      refine r_getr hX dX11_laysArrivalsBy_40 fl_X11_36 rfl (LX11_s hL) (LX11_r16 hL) ?_
      refine r_iload hX dX11_laysArrivalsBy_43 rfl ?_
      refine r_aload_n hX dX11_laysArrivalsBy_45 rfl ?_
      refine r_getr hX dX11_laysArrivalsBy_46 fl_X11_39 rfl (LX11_s hL) (LX11_r17 hL) ?_
      refine r_iload hX dX11_laysArrivalsBy_49 rfl ?_
      refine rn_iald hX dX11_laysArrivalsBy_51 (LX11_a17 hL) rfl (by omega) (by omega) ?_
      rw [h8 j (by omega)]
      refine rn_iast hX dX11_laysArrivalsBy_52 (LX11_a16 hL) rfl (by omega) (by omega) ?_
      refine rn_iinc6 hX dX11_laysArrivalsBy_53 rfl rfl ?_
      refine r_goto (tgt := 33) hX dX11_laysArrivalsBy_56 (by decide) ?_
      refine ih (by omega) _ ⟨fun c hc => ?_, fun x hx => ?_⟩
      · show mI (uI (wI M i2) (a + 7) j (nI (K0 j))) (a + 7) c = _
        simp only [mI_uI, if_true]
        by_cases h : c = j
        · rw [if_pos h, h]
        · rw [if_neg h]; exact hi.1 c (by omega)
      · rw [← hi.2 x hx]
        exact uIo hx
  · refine r_aload_n hX dX11_laysArrivalsBy_16 rfl ?_
    refine r_getr hX dX11_laysArrivalsBy_17 fl_X11_42 rfl (LX11_s hL) (LX11_r18 hL) ?_
    refine r_iload hX dX11_laysArrivalsBy_20 rfl ?_
    refine r_iconst (v := (-1)) hX dX11_laysArrivalsBy_22 (by decide) ?_
    refine rn_iast hX dX11_laysArrivalsBy_23 (LX11_a18 hL) rfl (by omega) (by omega) ?_
    refine rn_iinc6 hX dX11_laysArrivalsBy_24 rfl rfl ?_
    refine r_goto (tgt := 9) hX dX11_laysArrivalsBy_27 (by decide) ?_
    refine ih (by omega) _ ⟨fun p hp => ?_, fun x hx => ?_⟩
    · show mI (uI (wI M i) (a + 9) j (-1)) (a + 9) p = _
      simp only [mI_uI, if_true]
      by_cases h : p = j
      · rw [if_pos h]
      · rw [if_neg h]; exact hi.1 p (by omega)
    · rw [← hi.2 x hx]
      exact uIo hx
set_option maxHeartbeats 2000000 in
set_option maxRecDepth 20000 in
theorem t_X11_laysArrivals {M : Mm} {a : Nat} {n : Nat → Int32} (hL : LX11 M.1 M.2.1 a) (hn : mI M (a + 1) = n) (hT : TbOk n) {C0 O0 : Nat → Bool} {K0 : Nat → Nat} (hK : KOk K0) (hK0 : ∀ c, c < 5 → n (33 + c) = nI (K0 c)) {ss0 oo0 : Int32} (hC : ∀ c, c < 5 → bt ss0 (K0 c) = C0 c) (hO : ∀ p, p < 10 → bt oo0 p = O0 p) {h : Nat} (hh : h < 1000000) : Ct G base YX11_laysArrivals 6 0 0 [.ref a, .int ss0, .int oo0, .int (nI h)] M (rI none M (fun i => (∀ p, p < nv n 0 → i (a + 9) p = arN n h C0 O0 240 p) ∧ ∀ x, x ≠ a + 7 ∧ x ≠ a + 8 ∧ x ≠ a + 9 → i x = mI M x)) := by
  refine Ct.of IX11_laysArrivals.1 (by simp [Value.category]) (Nat.le_of_ble_eq_true rfl) (fun X hX hN => ?_)
  show J G base X 0 0 M 0 [some (.ref a), some (.int ss0), some (.int oo0), some (.int (nI h))] []
  refine r_aload_n hX dX11_laysArrivals_0 rfl ?_
  refine r_iV0 hX dX11_laysArrivals_1 IX11_takesSacks ml_X11_231 rfl (LX11_s hL) rfl (t_X11_takesSacks hL hn) (by decide) (by decide) (by decide) (by decide) rfl (Nat.le_of_ble_eq_true rfl) (fun i1 h1 => ?_)
  show J G base X _ _ (wI M i1) _ _ _
  have hn1 : mI (wI M i1) (a + 1) = n := (h1.2 _ (by omega)).trans hn
  refine r_aload_n hX dX11_laysArrivals_4 rfl ?_
  refine r_iload_n hX dX11_laysArrivals_5 rfl ?_
  refine r_iload_n hX dX11_laysArrivals_6 rfl ?_
  refine r_iload_n hX dX11_laysArrivals_7 rfl ?_
  refine r_iV3 hX dX11_laysArrivals_8 IX11_laysArrivalsBy ml_X11_234 rfl (LX11_s hL) rfl (t_X11_laysArrivalsBy (M := wI M i1) hL hn1 hT hK (fun c hc => (h1.1 c hc).trans (hK0 c hc)) hC hO hh) (by decide) (by decide) (by decide) (by decide) rfl (Nat.le_of_ble_eq_true rfl) (fun i8 h8 => ?_)
  refine r_return hX rfl dX11_laysArrivals_11 (by decide) (by decide) ?_
  exact ⟨rfl, i8, rfl, h8.1, fun x hx => (h8.2 x ⟨hx.1, hx.2.2⟩).trans (h1.2 x hx.2.1)⟩
