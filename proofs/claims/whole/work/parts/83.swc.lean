variable {G : GG} {base : Nat}
/-- the class's swaps of the hour, one crossing after the other -/
def swC (n : Nat → Int32) (h : Nat) : Nat → Nat → Int32
  | 0 => n
  | p + 1 => if town n p = false ∧ 2 ≤ cntB (grpB n h p) 5 then markL (swpG (swC n h p) (grpB n h p)) p (grpB n h p) (nv n 2) else swC n h p
theorem swC_yes {n : Nat → Int32} {h p : Nat} (c : town n p = false ∧ 2 ≤ cntB (grpB n h p) 5) : swC n h (p + 1) = markL (swpG (swC n h p) (grpB n h p)) p (grpB n h p) (nv n 2) := by
  conv => lhs; unfold swC
  rw [if_pos c]
theorem swC_no {n : Nat → Int32} {h p : Nat} (c : ¬ (town n p = false ∧ 2 ≤ cntB (grpB n h p) 5)) : swC n h (p + 1) = swC n h p := by
  conv => lhs; unfold swC
  rw [if_neg c]
/-- the same but for the sacks -/
def offS (x y : Nat → Int32) : Prop := ∀ q, ¬ (33 ≤ q ∧ q < 38) → x q = y q
theorem offS.up {x y : Nat → Int32} (h : offS x y) (q : Nat) {v w : Int32} (e : v = w) : offS (upd x q v) (upd y q w) := fun k hk => by
  unfold upd
  by_cases z : k = q
  · rw [if_pos z, if_pos z, e]
  · rw [if_neg z, if_neg z]
    exact h k hk
theorem offS.wn {x y : Nat → Int32} (h : offS x y) {l kd cr pl : Int32} : offS (wrN x l kd cr pl) (wrN y l kd cr pl) := fun k hk => by
  unfold wrN
  rw [h 6 (by omega), h 4 (by omega), show nv x 4 = nv y 4 from nv_eq (h 4 (by omega)), h k hk]
  by_cases z : 863 ≤ k ∧ k < 1158
  · rw [h (k - 5) (by omega)]
  · rw [if_neg z, if_neg z]
theorem offS.wr {x y : Nat → Int32} (h : offS x y) {l : Nat} {kd cr pl : Int32} : offS (wrL x l kd cr pl) (wrL y l kd cr pl) := by
  unfold wrL
  rw [h (498 + 10 * l + 2) (by omega)]
  split
  · exact h
  · exact h.wn
theorem mark_hc {x : Nat → Int32} {p : Nat} {g : Nat → Bool} (h4 : Rn x 4 60) {l : Nat} (hl : l < 30) (k : Nat) : hcN (markL x p g k) l = hcN x l := by
  unfold hcN
  rw [markL_f hl (by omega), (markL_sm h4 k).cr]
theorem mark_off {x y : Nat → Int32} {p : Nat} {g : Nat → Bool} (hx : Rn x 4 60) (hy : Rn y 4 60) (h : offS x y) {m : Nat} (hm : m ≤ 30) (H : ∀ l, l < m → x (498 + 10 * l + 3) = 1 → (g (hcN x l) = true ↔ g (hcN y l) = true) ∧ (g (hcN y l) = true → hcN x l = hcN y l)) : ∀ k, k ≤ m → offS (markL x p g k) (markL y p g k)
  | 0, _ => h
  | k + 1, hk => by
    have ih := mark_off (p := p) hx hy h hm H k (by omega)
    have e3 : markL x p g k (498 + 10 * k + 3) = x (498 + 10 * k + 3) := markL_f (by omega) (by omega) k
    have f3 : markL y p g k (498 + 10 * k + 3) = x (498 + 10 * k + 3) := (markL_f (by omega) (by omega) k).trans (h _ (by omega)).symm
    have ec := mark_hc (p := p) (g := g) hx (show k < 30 by omega) k
    have fc := mark_hc (p := p) (g := g) hy (show k < 30 by omega) k
    by_cases z : x (498 + 10 * k + 3) = 1 ∧ g (hcN x k) = true
    · obtain ⟨H1, H2⟩ := H k (by omega) z.1
      have gy := H1.mp z.2
      rw [markL_yes ⟨by rw [e3]; exact z.1, by rw [ec]; exact z.2⟩, markL_yes ⟨by rw [f3]; exact z.1, by rw [fc]; exact gy⟩, ec, fc, H2 gy]
      exact (ih.up _ (by rw [ih _ (by omega)])).wr
    · rw [markL_no (by rw [e3, ec]; exact z), markL_no (by rw [f3, fc]; exact fun y => z ⟨y.1, (H k (by omega) y.1).1.mpr y.2⟩)]
      exact ih
theorem nxG_ou {g : Nat → Bool} {c : Nat} (h : ¬ g c = true) : nxG g c = c := by
  unfold nxG
  rw [if_neg h]
theorem swpG_k {x : Nat → Int32} {g : Nat → Bool} {c : Nat} (hc : c < 5) : swpG x g (33 + c) = x (33 + nxG g c) := by
  rw [swpG_s hc]
  by_cases h : g c = true
  · rw [if_pos h]
  · rw [if_neg h, nxG_ou h]
theorem nxG_5 {g : Nat → Bool} {c : Nat} (hc : c < 5) : nxG g c < 5 := by
  by_cases h : g c = true
  · exact (nxG_in hc h).1
  · rw [nxG_ou h]; exact hc
theorem SkOk.rt {x : Nat → Int32} {g : Nat → Bool} (hS : SkOk x) (hg : ∀ c, c < 5 → g c = true → c < nv x 1) : SkOk (swpG x g) := by
  have e1 : nv (swpG x g) 1 = nv x 1 := nv_eq (swpG_o (by omega) (by omega))
  refine ⟨fun c hc => ?_, fun c d hc hd e => ?_, fun c hc hm => ?_⟩
  · rw [swpG_k hc]
    exact hS.1 _ (nxG_5 hc)
  · rw [swpG_k hc, swpG_k hd] at e
    exact nxG_inj hc hd (hS.2.1 _ _ (nxG_5 hc) (nxG_5 hd) e)
  · rw [e1] at hm
    rw [swpG_k hc, nxG_ou (fun z => absurd (hg c hc z) (by omega))]
    exact hS.2.2 c hc hm
/-- class and reference, behind the crossings below p -/
theorem swC_is {n : Nat → Int32} (hT : TbOk n) (hS : SkOk n) (hLt : LtOk n) (h4 : Rn n 4 60) {h : Nat} : ∀ p, p ≤ nv n 0 → offS (swC n h p) (swpN n h p) ∧ (∀ c, c < 5 → swC n h p (33 + c) = if plQ n h c < p ∧ town n (plQ n h c) = false then n (33 + nxG (grpB n h (plQ n h c)) c) else n (33 + c)) ∧ SkOk (swC n h p) ∧ Rn (swC n h p) 4 60
  | 0, _ => ⟨fun q hq => (rotN_eq (by omega)).symm, fun c hc => by rw [if_neg (by omega)]; rfl, hS, h4⟩
  | p + 1, hp => by
    obtain ⟨i1, i2, i3, i4⟩ := swC_is hT hS hLt h4 (h := h) p (by omega)
    have h10 := hT.1.2
    have h15 := hT.2.1.2
    have h30 := hLt.1.2
    by_cases hc : town n p = false ∧ 2 ≤ cntB (grpB n h p) 5
    · have hx4 : Rn (swpG (swC n h p) (grpB n h p)) 4 60 := i4.eq (swpG_o (by omega) (by omega))
      have hsy := swpN_sm (n := n) (h := h) h4 p
      have hy4 : Rn (upd (swpN n h p) 7 (swpN n h p 7 + 1)) 4 60 := hsy.2.eq (upd_o (by omega))
      have hn1 : nv (swC n h p) 1 = nv n 1 := nv_eq ((i1 1 (by omega)).trans ((hsy.1 1 (by omega) (by omega) (by omega)).trans (rotN_eq (by omega))))
      have hgm : ∀ c, c < 5 → grpB n h p c = true → c < nv (swC n h p) 1 := fun c hc5 hg => by
        rw [hn1]
        exact ((grpB_iff hT (by omega) hc5).mp hg).1
      have hSx := i3.rt hgm
      have hSy : SkOk (upd (swpN n h p) 7 (swpN n h p 7 + 1)) := (hsy.up7 (swpN n h p 7 + 1)).Sk (rotN_Sk hS)
      have hoff : offS (swpG (swC n h p) (grpB n h p)) (upd (swpN n h p) 7 (swpN n h p 7 + 1)) := fun q hq => by
        by_cases e7 : q = 7
        · subst e7
          unfold swpG
          rw [upd_s, upd_s, i1 7 (by omega)]
        · rw [swpG_o e7 hq, upd_o e7]
          exact i1 q hq
      have hyk : ∀ c, c < 5 → upd (swpN n h p) 7 (swpN n h p 7 + 1) (33 + c) = n (33 + nxP n h c) := fun c hc5 => by
        rw [upd_o (by omega), hsy.1 _ (by omega) (by omega) (by omega)]
        unfold rotN
        rw [if_pos (by omega), show 33 + c - 33 = c by omega]
      have hgk : ∀ c, c < 5 → grpB n h p c = true → swpG (swC n h p) (grpB n h p) (33 + c) = upd (swpN n h p) 7 (swpN n h p 7 + 1) (33 + c) := fun c hc5 hg => by
        have e : plQ n h c = p := of_decide_eq_true hg
        have e2 : plQ n h (nxG (grpB n h p) c) = p := of_decide_eq_true (nxG_in hc5 hg).2
        rw [swpG_k hc5, hyk c hc5, i2 _ (nxG_5 hc5), e2, if_neg (by omega)]
        unfold nxP
        rw [e, if_pos ⟨by omega, hc.1⟩]
      have hxf : ∀ l f, l < 30 → f < 9 → swpG (swC n h p) (grpB n h p) (498 + 10 * l + f) = n (498 + 10 * l + f) := fun l f hl hf => by
        rw [swpG_o (by omega) (by omega), i1 _ (by omega)]
        exact swpN_f hl hf p
      have hyf : ∀ l f, l < 30 → f < 9 → upd (swpN n h p) 7 (swpN n h p 7 + 1) (498 + 10 * l + f) = n (498 + 10 * l + f) := fun l f hl hf => by
        rw [upd_o (by omega)]
        exact swpN_f hl hf p
      have H : ∀ l, l < nv n 2 → swpG (swC n h p) (grpB n h p) (498 + 10 * l + 3) = 1 → (grpB n h p (hcN (swpG (swC n h p) (grpB n h p)) l) = true ↔ grpB n h p (hcN (upd (swpN n h p) 7 (swpN n h p 7 + 1)) l) = true) ∧ (grpB n h p (hcN (upd (swpN n h p) 7 (swpN n h p 7 + 1)) l) = true → hcN (swpG (swC n h p) (grpB n h p)) l = hcN (upd (swpN n h p) 7 (swpN n h p 7 + 1)) l) := fun l hl e3 => by
        rw [hxf l 3 (by omega) (by omega)] at e3
        obtain ⟨cx, w, hcx, hw, e4, ex, ex2⟩ := hLt.sack h15 hSx hl e3
        obtain ⟨cy, w', hcy, hw', e4', ey, ey2⟩ := hLt.sack h15 hSy hl e3
        have hww : w' = w := by
          rw [e4] at e4'
          exact ((nI_eq (by omega) (by omega)).mp e4').symm
        subst hww
        have hx := hcN_is ((hxf l 4 (by omega) (by omega)).trans e4) ex2 hcx
        have hy := hcN_is ((hyf l 4 (by omega) (by omega)).trans e4) ey2 hcy
        rw [hx, hy]
        have k1 : grpB n h p cx = true → cy = cx := fun g => hSy.2.1 _ _ hcy hcx (by rw [ey, ← hgk cx hcx g, ex])
        have k2 : grpB n h p cy = true → cx = cy := fun g => hSx.2.1 _ _ hcx hcy (by rw [ex, hgk cy hcy g, ey])
        exact ⟨⟨fun g => by rw [k1 g]; exact g, fun g => by rw [k2 g]; exact g⟩, k2⟩
      rw [swC_yes hc]
      have hsx := markL_sm (p := p) (g := grpB n h p) hx4 (nv n 2)
      refine ⟨?_, fun c hc5 => ?_, hsx.Sk hSx, hsx.2⟩
      · have z := mark_off (p := p) (g := grpB n h p) hx4 hy4 hoff h30 H (nv n 2) (Nat.le_refl _)
        have e : swpN n h (p + 1) = markL (upd (swpN n h p) 7 (swpN n h p 7 + 1)) p (grpB n h p) (nv n 2) := by
          conv => lhs; unfold swpN
          rw [if_pos hc]
        rw [e]
        exact z
      · rw [hsx.1 _ (by omega) (by omega) (by omega)]
        by_cases hg : grpB n h p c = true
        · have e : plQ n h c = p := of_decide_eq_true hg
          rw [hgk c hc5 hg, hyk c hc5, e, if_pos ⟨by omega, hc.1⟩]
          unfold nxP
          rw [e, if_pos ⟨by omega, hc.1⟩]
        · have e : ¬ plQ n h c = p := fun z => hg (decide_eq_true z)
          rw [swpG_k hc5, nxG_ou hg, i2 c hc5]
          by_cases z : plQ n h c < p ∧ town n (plQ n h c) = false
          · rw [if_pos z, if_pos ⟨by omega, z.2⟩]
          · rw [if_neg z, if_neg (fun y => z ⟨by omega, y.2⟩)]
    · rw [swC_no hc]
      refine ⟨?_, fun c hc5 => ?_, i3, i4⟩
      · have e : swpN n h (p + 1) = swpN n h p := by
          conv => lhs; unfold swpN
          rw [if_neg hc]
        rw [e]
        exact i1
      · rw [i2 c hc5]
        by_cases z : plQ n h c < p ∧ town n (plQ n h c) = false
        · rw [if_pos z, if_pos ⟨by omega, z.2⟩]
        · rw [if_neg z]
          by_cases y : plQ n h c < p + 1 ∧ town n (plQ n h c) = false
          · have e : plQ n h c = p := by
              have := y.1
              have : ¬ plQ n h c < p := fun q => z ⟨q, y.2⟩
              omega
            rw [if_pos y, e]
            have h2 : cntB (grpB n h p) 5 < 2 := by
              rw [e] at y
              have : ¬ 2 ≤ cntB (grpB n h p) 5 := fun q => hc ⟨y.2, q⟩
              omega
            rw [nxG_one h2 hc5]
          · rw [if_neg y]
/-- at the end they are the same -/
theorem swC_end {n : Nat → Int32} (hT : TbOk n) (hS : SkOk n) (hLt : LtOk n) (h4 : Rn n 4 60) {h : Nat} : swC n h (nv n 0) = swpN n h (nv n 0) := by
  obtain ⟨i1, i2, -, -⟩ := swC_is hT hS hLt h4 (h := h) (nv n 0) (Nat.le_refl _)
  funext q
  by_cases hq : 33 ≤ q ∧ q < 38
  · obtain ⟨c, hc, rfl⟩ : ∃ c, c < 5 ∧ q = 33 + c := ⟨q - 33, by omega, by omega⟩
    rw [i2 c hc, (swpN_sm h4 _).1 _ (by omega) (by omega) (by omega)]
    unfold rotN nxP
    rw [if_pos hq, show 33 + c - 33 = c by omega]
    have h10 := hT.1.2
    rcases plQ_lt hT.2.2 hT.2.1.2 (h := h) (c := c) with z | ⟨z1, z2, -⟩
    · rw [z, if_neg (fun y => absurd y.1 (by omega)), if_neg (fun y => absurd y.1 (by omega))]
    · by_cases ht : town n (plQ n h c) = false
      · rw [if_pos ⟨z1, ht⟩, if_pos ⟨z2, ht⟩]
      · rw [if_neg (fun y => ht y.2), if_neg (fun y => ht y.2)]
  · exact i1 q hq
