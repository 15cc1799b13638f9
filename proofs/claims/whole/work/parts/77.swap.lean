variable {G : GG} {base : Nat}
/-- whoever's letter lies in a sack: there is a carrier of it -/
def HoldOk (x : Nat → Int32) : Prop := ∀ l, l < nv x 2 → x (498 + 10 * l + 3) = 1 → ∃ c, c < 5 ∧ crS x (x (498 + 10 * l + 4)) = nI c
theorem hold_of {n y : Nat → Int32} (hLt : LtOk n) (hm : nv n 1 ≤ 5) (hS : SkOk y) (h2 : nv y 2 = nv n 2) (hu : ∀ l, l < nv n 2 → unL y n l) : HoldOk y := fun l hl h3 => by
  rw [h2] at hl
  rw [hu l hl 3 (by omega)] at h3
  obtain ⟨c, w, hc, -, e4, -, e⟩ := hLt.sack hm hS hl h3
  exact ⟨c, hc, by rw [hu l hl 4 (by omega), e4, e]⟩
/-- who holds it, and has it its sack -/
theorem hold_c {x : Nat → Int32} (h : HoldOk x) {l : Nat} (hl : l < nv x 2) (h3 : x (498 + 10 * l + 3) = 1) : hcN x l < 5 ∧ crS x (x (498 + 10 * l + 4)) = nI (hcN x l) := by
  obtain ⟨c, hc, e⟩ := h l hl h3
  have e2 : hcN x l = c := hcN_is rfl e hc
  rw [e2]
  exact ⟨hc, e⟩
theorem markL_hold {y : Nat → Int32} {p : Nat} {g : Nat → Bool} (h4 : Rn y 4 60) (h2 : Rn y 2 30) (h : HoldOk y) (k : Nat) : HoldOk (markL y p g k) := fun l hl h3 => by
  have hs := markL_sm (p := p) (g := g) h4 k
  have h30 := h2.2
  rw [hs.nv (by omega) (by omega) (by omega)] at hl
  rw [markL_f (by omega) (by omega)] at h3
  obtain ⟨c, hc, e⟩ := h l hl h3
  exact ⟨c, hc, by rw [markL_f (by omega) (by omega), hs.cr]; exact e⟩
theorem markL_yes {n : Nat → Int32} {p : Nat} {g : Nat → Bool} {l : Nat} (h : markL n p g l (498 + 10 * l + 3) = 1 ∧ g (hcN (markL n p g l) l) = true) : markL n p g (l + 1) = wrL (upd (markL n p g l) (498 + 10 * l + 9) (markL n p g l (498 + 10 * l + 9) ||| b1 (hcN (markL n p g l) l))) l 3 (nI (hcN (markL n p g l) l)) (nI p) := by
  conv => lhs; unfold markL
  rw [if_pos h]
theorem markL_no {n : Nat → Int32} {p : Nat} {g : Nat → Bool} {l : Nat} (h : ¬ (markL n p g l (498 + 10 * l + 3) = 1 ∧ g (hcN (markL n p g l) l) = true)) : markL n p g (l + 1) = markL n p g l := by
  conv => lhs; unfold markL
  rw [if_neg h]
/-- the row behind a rotation -/
def rtG (n : Nat → Int32) (g : Nat → Bool) : Nat → Int32 := skN n (fun c => if g c = true then n (33 + nxG g c) else n (33 + c))
def swpG (n : Nat → Int32) (g : Nat → Bool) : Nat → Int32 := upd (rtG n g) 7 (n 7 + 1)
theorem swpG_o {n : Nat → Int32} {g : Nat → Bool} {q : Nat} (h : q ≠ 7) (h2 : ¬ (33 ≤ q ∧ q < 38)) : swpG n g q = n q := by
  unfold swpG rtG
  rw [upd_o h, skN_o h2]
theorem swpG_s {n : Nat → Int32} {g : Nat → Bool} {c : Nat} (hc : c < 5) : swpG n g (33 + c) = if g c = true then n (33 + nxG g c) else n (33 + c) := by
  unfold swpG rtG
  rw [upd_o (by omega), skN_s hc]
set_option maxHeartbeats 2000000 in
set_option maxRecDepth 20000 in
theorem t_X1_swapSacks {M : Mm} {w a : Nat} {n : Nat → Int32} (hw : LX1 M.1 M.2.1 w) (hL : LX8 M.1 M.2.1 a) (hR : RS (mI M) a n) (hno : ¬ noP n) {g : Nat → Bool} (hH : HoldOk (swpG n g)) {p : Nat} (hp : p < 10) : Ct G base YX1_swapSacks 4 0 0 [.ref w, .ref a, .int (nI p), .int (setB g 5)] M (rI none M (fun i => RS i a (markL (swpG n g) p g (nv n 2)) ∧ outB i (mI M) a 18)) := by
  refine Ct.of IX1_swapSacks.1 (by simp [Value.category]) (Nat.le_of_ble_eq_true rfl) (fun X hX hN => ?_)
  show J G base X 0 0 M 0 [some (.ref w), some (.ref a), some (.int (nI p)), some (.int (setB g 5)), none, none, none] []
  refine r_aload_n hX dX1_swapSacks_0 rfl ?_
  refine r_iload_n hX dX1_swapSacks_1 rfl ?_
  refine r_iV1 hX dX1_swapSacks_2 IX8_rotateSacks ml_X1_75 rfl (LX8_s hL) rfl (t_X8_rotateSacks (M := M) hL hR (g := g)) (by decide) (by decide) (by decide) (by decide) rfl (Nat.le_of_ble_eq_true rfl) (fun i0 h0 => ?_)
  show J G base X _ _ (wI M i0) _ _ _
  
  refine r_aload_n hX dX1_swapSacks_5 rfl ?_
  refine r_dup hX dX1_swapSacks_6 rfl ?_
  refine rn_geti (v := n 7) hX dX1_swapSacks_7 fl_X1_79 rfl (LX8_s hL) (h0.1.1.2.2.1.trans (skN_o (by omega))) ?_
  refine r_iconst (v := nI 1) hX dX1_swapSacks_10 (by decide) ?_
  refine r_iadd hX dX1_swapSacks_11 ?_
  refine r_puti hX dX1_swapSacks_12 fl_X1_79 rfl rfl (LX8_s hL) ?_
  have hR1 : RS (mI (uI (wI M i0) a 2 (n 7 + 1))) a (swpG n g) := by
    have e : skN n (fun c => if g c = true then mI M (a + 1) (nxG g c) else mI M (a + 1) c) = rtG n g := by
      unfold rtG
      funext q
      by_cases hq : 33 ≤ q ∧ q < 38
      · unfold skN
        rw [if_pos hq, if_pos hq]
        dsimp only
        by_cases hg : g (q - 33) = true
        · rw [if_pos hg, if_pos hg]
          exact hR.sk1 hno (nxG_in (by omega) hg).1
        · rw [if_neg hg, if_neg hg]
          exact hR.sk1 hno (by omega)
      · rw [skN_o hq, skN_o hq]
    have z := h0.1
    rw [e] at z
    exact RS.nf (M := wI M i0) z (k := 2) (q := 7) (by omega)
  have ho1 : outB (mI (uI (wI M i0) a 2 (n 7 + 1))) (mI M) a 18 := fun x hx k => (congrFun (uIo (by omega)) k).trans (h0.2 x hx k)
  have h2n := hR.2.2.1.2.1
  have h30 := h2n.2
  have h4n : Rn (swpG n g) 4 60 := hR.2.2.2.1.2.1.eq (swpG_o (by omega) (by omega))
  have h2g : Rn (swpG n g) 2 30 := h2n.eq (swpG_o (by omega) (by omega))
  have hv2 : ∀ j, nv (markL (swpG n g) p g j) 2 = nv n 2 := fun j => ((markL_sm h4n j).nv (by omega) (by omega) (by omega)).trans (nv_eq (swpG_o (by omega) (by omega)))
  refine J.gen (M0 := M) rfl (fun i1 hz => ?_)
  have e1 : i1 = mI (uI (wI M i0) a 2 (n 7 + 1)) := funext fun x => funext fun k => hz x k
  rw [← e1] at hR1 ho1
  clear hz e1
  refine r_aload_n hX dX1_swapSacks_15 rfl ?_
  refine r_getr hX dX1_swapSacks_16 fl_X1_82 rfl (LX8_s hL) (LX8_r5 hL) ?_
  refine r_astore4 hX dX1_swapSacks_19 rfl ?_
  refine r_iconst (v := nI 0) hX dX1_swapSacks_21 (by decide) ?_
  refine r_istore5 hX dX1_swapSacks_22 rfl ?_
  refine loop_us (σ := Nat → Nat → Int32) (P := fun j i => (RS i a (markL (swpG n g) p g j) ∧ outB i (mI M) a 18) → J G base X 0 0 (wI M i) 24 [some (.ref w), some (.ref a), some (.int (nI p)), some (.int (setB g 5)), some (.ref (a + 2)), some (.int (nI j)), none] []) (nv n 2) (fun j i hj ih hi => ?_) 0 i1 (Nat.zero_le _) ⟨hR1, ho1⟩
  have hHj := markL_hold (p := p) (g := g) h4n h2g hH j
  refine r_iload hX dX1_swapSacks_24 rfl ?_
  refine r_aload hX dX1_swapSacks_26 rfl ?_
  refine rn_geti (v := nI (nv n 2)) hX dX1_swapSacks_28 fl_X1_86 rfl (LX2_s (LX8_o5 hL)) (hi.1.2.2.1.1.trans (hi.1.2.2.1.2.1.1.trans (by rw [hv2]))) ?_
  refine rn_icmp_ge (tgt := 83) hX dX1_swapSacks_31 (by decide) rfl rfl (by omega) (by omega) (fun c31 => ?_) (fun c31 => ?_)
  · refine r_return hX rfl dX1_swapSacks_83 (by decide) (by decide) ?_
    obtain rfl : j = nv n 2 := by omega
    exact ⟨rfl, i, rfl, hi⟩
  · refine r_aload_n hX dX1_swapSacks_34 rfl ?_
    refine r_iload hX dX1_swapSacks_35 rfl ?_
    refine r_cV1 hX dX1_swapSacks_37 IX8_holderOf ml_X1_91 rfl (LX8_s hL) rfl (t_X8_holderOf (M := wI M i) hL hi.1 (by rw [hv2]; omega)) (by decide) (by decide) (by decide) (by decide) rfl (Nat.le_of_ble_eq_true rfl) ?_
    by_cases h3 : (markL (swpG n g) p g j) (498 + 10 * j + 3) = 1
    · rw [if_pos h3]
      obtain ⟨hc5, hcr⟩ := hold_c hHj (show j < nv (markL (swpG n g) p g j) 2 by rw [hv2]; omega) h3
      generalize hcc : hcN (markL (swpG n g) p g j) j = c at hc5 hcr
      have hcv : cwF (fun c => (markL (swpG n g) p g j) (33 + c)) ((markL (swpG n g) p g j) (498 + 10 * j + 4)) 5 = nI c := hcr
      rw [hcv]
      refine r_istore6 hX dX1_swapSacks_40 rfl ?_
      refine r_iload_n hX dX1_swapSacks_42 rfl ?_
      refine r_iload hX dX1_swapSacks_43 rfl ?_
      refine r_cN2 (host := RX10) hX dX1_swapSacks_45 IX10_has (by decide +kernel) rfl (t_X10_has (M := wI M i)) (by decide) (by decide) (by decide) (by decide) rfl (Nat.le_of_ble_eq_true rfl) ?_
      rw [itec (hasP_set (f := g) (by omega) (by omega)), itec (show (c < 5 ∧ c ≤ 30 ∧ g c = true) ↔ g c = true from ⟨fun z => z.2.2, fun z => ⟨by omega, by omega, z⟩⟩)]
      refine rb_if_eq (tgt := 77) hX dX1_swapSacks_48 (by decide) rfl (fun c48 => ?_) (fun c48 => ?_)
      · refine rn_iinc5 hX dX1_swapSacks_77 rfl rfl ?_
        refine r_goto (tgt := 24) hX dX1_swapSacks_80 (by decide) ?_
        refine J.junk (ih (by omega) (i) ⟨by rw [markL_no (fun z => c48 (by rw [← hcc]; exact z.2))]; exact hi.1, hi.2⟩) (by repeat first | exact trivial | refine ⟨rfl, ?_⟩)
      · refine r_aload hX dX1_swapSacks_51 rfl ?_
        refine r_getr hX dX1_swapSacks_53 fl_X1_98 rfl (LX2_s (LX8_o5 hL)) (LX2_r10 (LX8_o5 hL)) ?_
        refine r_iload hX dX1_swapSacks_56 rfl ?_
        refine r_dup2 hX dX1_swapSacks_58 rfl rfl ?_
        refine rn_iald hX dX1_swapSacks_59 (LX2_a10 (LX8_o5 hL)) rfl (by omega) (by omega) ?_
        rw [show mI (wI M i) (a + 2 + 10) j = markL (swpG n g) p g j (498 + 10 * j + 9) from hi.1.2.2.1.2.2 j (by rw [hv2]; omega) 9 (by omega)]
        refine r_iload hX dX1_swapSacks_60 rfl ?_
        refine r_cN1 (host := RX10) hX dX1_swapSacks_62 IX10_bit (by decide +kernel) rfl (t_X10_bit (M := wI M i)) (by decide) (by decide) (by decide) (by decide) rfl (Nat.le_of_ble_eq_true rfl) ?_
        rw [bitI_nI (by omega)]
        refine r_ior hX dX1_swapSacks_65 ?_
        refine rn_iast hX dX1_swapSacks_66 (LX2_a10 (LX8_o5 hL)) rfl (by omega) (by omega) ?_
        refine r_aload_n hX dX1_swapSacks_67 rfl ?_
        refine r_iload hX dX1_swapSacks_68 rfl ?_
        refine r_iconst (v := nI 3) hX dX1_swapSacks_70 (by decide) ?_
        refine r_iload hX dX1_swapSacks_71 rfl ?_
        refine r_iload_n hX dX1_swapSacks_73 rfl ?_
        refine r_iV4 hX dX1_swapSacks_74 IX8_writeReceipt ml_X1_104 rfl (LX8_s hL) rfl (t_X8_writeReceipt (M := uI (wI M i) (a + 2 + (9 + 1)) j (markL (swpG n g) p g j (498 + 10 * j + 9) ||| b1 c)) hL (RS.lf (M := wI M i) hi.1 (l := j) (f := 9) (v := markL (swpG n g) p g j (498 + 10 * j + 9) ||| b1 c) (by omega) (by omega)) (by rw [nv_eq (upd_o (by omega)), hv2]; omega)) (by decide) (by decide) (by decide) (by decide) rfl (Nat.le_of_ble_eq_true rfl) (fun i7 h7 => ?_)
        show J G base X _ _ (wI M i7) _ _ _
        
        refine rn_iinc5 hX dX1_swapSacks_77 rfl rfl ?_
        refine r_goto (tgt := 24) hX dX1_swapSacks_80 (by decide) ?_
        refine J.junk (ih (by omega) (i7) ⟨by rw [markL_yes ⟨h3, by rw [hcc]; exact c48⟩, hcc]; exact h7.1, fun x hx k => (h7.2 x hx k).trans ((congrFun (uIo (by omega)) k).trans (hi.2 x hx k))⟩) (by repeat first | exact trivial | refine ⟨rfl, ?_⟩)
    · rw [if_neg h3]
      refine r_istore6 hX dX1_swapSacks_40 rfl ?_
      refine r_iload_n hX dX1_swapSacks_42 rfl ?_
      refine r_iload hX dX1_swapSacks_43 rfl ?_
      refine r_cN2 (host := RX10) hX dX1_swapSacks_45 IX10_has (by decide +kernel) rfl (t_X10_has (M := wI M i)) (by decide) (by decide) (by decide) (by decide) rfl (Nat.le_of_ble_eq_true rfl) ?_
      refine rb_if_eq (tgt := 77) hX dX1_swapSacks_48 (by decide) rfl (fun c48 => ?_) (fun c48 => absurd c48 hasP_m1)
      refine rn_iinc5 hX dX1_swapSacks_77 rfl rfl ?_
      refine r_goto (tgt := 24) hX dX1_swapSacks_80 (by decide) ?_
      refine J.junk (ih (by omega) (i) ⟨by rw [markL_no (fun z => h3 z.1)]; exact hi.1, hi.2⟩) (by repeat first | exact trivial | refine ⟨rfl, ?_⟩)
