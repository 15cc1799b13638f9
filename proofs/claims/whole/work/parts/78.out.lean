variable {G : GG} {base : Nat}
/-- where the class notes that letter l comes from at the village p: a carrier, -1 the office, -2 not at all -/
def ogN (n : Nat → Int32) (h p l : Nat) : Int32 :=
  if n (498 + 10 * l + 3) = 1 ∧ grpB n h p (hcN n l) = true then (if n (498 + 10 * l + 1) = nI p then -2 else nI (hcN n l))
  else if n (498 + 10 * l + 3) = 0 ∧ n (498 + 10 * l + 4) = nI p then -1 else -2
theorem dl_yes {n : Nat → Int32} {p : Nat} {sb : Nat → Int32} {l : Nat} (h : dlB (delL n p sb l) p sb l = true) : delL n p sb (l + 1) = wrL (handN (delL n p sb l) l p) l 2 (crS (handN (delL n p sb l) l p) (sb l)) (nI p) := by
  conv => lhs; unfold delL
  rw [if_pos h]
theorem dl_no {n : Nat → Int32} {p : Nat} {sb : Nat → Int32} {l : Nat} (h : ¬ dlB (delL n p sb l) p sb l = true) : delL n p sb (l + 1) = delL n p sb l := by
  conv => lhs; unfold delL
  rw [if_neg h]
theorem cnt_yes {f : Nat → Bool} {j : Nat} (h : f j = true) : cntB f (j + 1) = cntB f j + 1 := by simp only [cntB]; rw [if_pos h]
theorem cnt_no {f : Nat → Bool} {j : Nat} (h : ¬ f j = true) : cntB f (j + 1) = cntB f j := by simp only [cntB]; rw [if_neg h, Nat.add_zero]
theorem hand_eq {x : Nat → Int32} {l p : Nat} (e : x (498 + 10 * l + 1) = nI p) : tohN x l (x 6) = handN x l p := by
  unfold tohN handN liesN
  rw [e, upd_o (q := 498 + 10 * l + 4) (by omega), upd_o (q := 498 + 10 * l + 3) (by omega)]
set_option maxHeartbeats 2000000 in
set_option maxRecDepth 20000 in
theorem t_X1_takeOut {M : Mm} {w a : Nat} {n : Nat → Int32} (hw : LX1 M.1 M.2.1 w) (hL : LX8 M.1 M.2.1 a) (hd : w + 6 ≤ a ∨ a + 18 ≤ w) (hR : RS (mI M) a n) (hO : TbOk n) (hS : SkOk n) (hLt : LtOk n) {h p : Nat} (hp : p < 10) : Ct G base YX1_takeOut 4 0 0 [.ref w, .ref a, .int (nI p), .int (setB (grpB n h p) 5)] M (rI (some (.int (nI (cntB (dlB n p (sbN n h p)) (nv n 2))))) M (fun i => RS i a (delL n p (sbN n h p) (nv n 2)) ∧ (∀ l, l < nv n 2 → i (w + 4) l = ogN n h p l) ∧ ∀ x, (x < a ∨ a + 18 ≤ x) → x ≠ w + 4 → ∀ k, i x k = mI M x k)) := by
  refine Ct.of IX1_takeOut.1 (by simp [Value.category]) (Nat.le_of_ble_eq_true rfl) (fun X hX hN => ?_)
  show J G base X 0 0 M 0 [some (.ref w), some (.ref a), some (.int (nI p)), some (.int (setB (grpB n h p) 5)), none, none, none, none] []
  have h2n := hLt.1
  have h30 := h2n.2
  have h4n := hR.2.2.2.1.2.1
  refine r_aload_n hX dX1_takeOut_0 rfl ?_
  refine r_getr hX dX1_takeOut_1 fl_X1_82 rfl (LX8_s hL) (LX8_r5 hL) ?_
  refine r_astore4 hX dX1_takeOut_4 rfl ?_
  refine r_iconst (v := nI 0) hX dX1_takeOut_6 (by decide) ?_
  refine r_istore5 hX dX1_takeOut_7 rfl ?_
  refine r_iconst (v := nI 0) hX dX1_takeOut_9 (by decide) ?_
  refine r_istore6 hX dX1_takeOut_10 rfl ?_
  show J G base X 0 0 (wI M (mI M)) 12 [some (.ref w), some (.ref a), some (.int (nI p)), some (.int (setB (grpB n h p) 5)), some (.ref (a + 2)), some (.int (nI (cntB (dlB n p (sbN n h p)) 0))), some (.int (nI 0)), none] []
  refine loop_us (σ := Nat → Nat → Int32) (P := fun j i => (RS i a (delL n p (sbN n h p) j) ∧ (∀ l, l < j → i (w + 4) l = ogN n h p l) ∧ ∀ x, (x < a ∨ a + 18 ≤ x) → x ≠ w + 4 → ∀ k, i x k = mI M x k) → J G base X 0 0 (wI M i) 12 [some (.ref w), some (.ref a), some (.int (nI p)), some (.int (setB (grpB n h p) 5)), some (.ref (a + 2)), some (.int (nI (cntB (dlB n p (sbN n h p)) j))), some (.int (nI j)), none] []) (nv n 2) (fun j i hj ih hi => ?_) 0 (mI M) (Nat.zero_le _) ⟨hR, fun l hl => absurd hl (Nat.not_lt_zero _), fun _ _ _ _ => rfl⟩
  have hsm : sm (delL n p (sbN n h p) j) n := delL_sm h4n j
  have hv2 : nv (delL n p (sbN n h p) j) 2 = nv n 2 := hsm.nv (by omega) (by omega) (by omega)
  have hcb := cntB_le (f := dlB n p (sbN n h p)) j
  refine r_iload hX dX1_takeOut_12 rfl ?_
  refine r_aload hX dX1_takeOut_14 rfl ?_
  refine rn_geti (v := nI (nv n 2)) hX dX1_takeOut_16 fl_X1_86 rfl (LX2_s (LX8_o5 hL)) (hi.1.2.2.1.1.trans (hi.1.2.2.1.2.1.1.trans (by rw [hv2]))) ?_
  refine rn_icmp_ge (tgt := 141) hX dX1_takeOut_19 (by decide) rfl rfl (by omega) (by omega) (fun c19 => ?_) (fun c19 => ?_)
  · refine r_iload hX dX1_takeOut_141 rfl ?_
    refine r_ireturn hX rfl rfl dX1_takeOut_143 (by decide) (by decide) ?_
    obtain rfl : j = nv n 2 := by omega
    exact ⟨rfl, i, rfl, hi⟩
  · refine r_iload hX dX1_takeOut_22 rfl ?_
    refine r_bipush (v := nI 30) hX dX1_takeOut_24 (by decide) ?_
    refine rn_icmp_ge (tgt := 141) hX dX1_takeOut_26 (by decide) rfl rfl (by omega) (by omega) (fun c26 => absurd c26 (by omega)) (fun c26 => ?_)
    refine r_aload_n hX dX1_takeOut_29 rfl ?_
    refine r_iload hX dX1_takeOut_30 rfl ?_
    refine r_cV1 hX dX1_takeOut_32 IX8_holderOf ml_X1_91 rfl (LX8_s hL) rfl (t_X8_holderOf (M := wI M i) hL hi.1 (by rw [hv2]; omega)) (by decide) (by decide) (by decide) (by decide) rfl (Nat.le_of_ble_eq_true rfl) ?_
    have hu : unL (delL n p (sbN n h p) j) n j := delL_un (by omega) j (Or.inl (Nat.le_refl _))
    obtain ⟨-, t, -, -, -, -, ht, -, -, -, -, httn, -⟩ := hLt.2.2 j c19
    have htl := town_lt httn
    have h10 := hO.1.2
    have hb15 := hO.2.1.2
    by_cases h3 : n (498 + 10 * j + 3) = 1
    · have h3X : (delL n p (sbN n h p) j) (498 + 10 * j + 3) = 1 := (hu 3 (by omega)).trans h3
      rw [if_pos h3X]
      obtain ⟨c, w', hc5, hw', e4, -, hcr'⟩ := hLt.sack hO.2.1.2 hS c19 h3
      have hcr : crS n (n (498 + 10 * j + 4)) = nI c := by rw [e4]; exact hcr'
      have hcc : hcN n j = c := hcN_is rfl hcr hc5
      have hcv : cwF (fun c => (delL n p (sbN n h p) j) (33 + c)) ((delL n p (sbN n h p) j) (498 + 10 * j + 4)) 5 = nI c := by
        rw [hu 4 (by omega)]
        exact (hsm.cr _).trans hcr
      rw [hcv]
      refine r_istore7 hX dX1_takeOut_35 rfl ?_
      refine r_aload_n hX dX1_takeOut_37 rfl ?_
      refine r_getr hX dX1_takeOut_38 fl_X1_22 rfl (LX1_s hw) (LX1_r2 hw) ?_
      refine r_iload hX dX1_takeOut_41 rfl ?_
      refine r_bipush (v := (-2)) hX dX1_takeOut_43 (by decide) ?_
      refine rn_iast hX dX1_takeOut_45 (LX1_a2 hw) rfl (by omega) (by omega) ?_
      refine J.gen (M0 := M) rfl (fun i1 hz => ?_)
      have e1 : i1 = mI (uI (wI M i) (w + 4) j (-2)) := funext fun x => funext fun k => hz x k
      have hR1 : RS i1 a (delL n p (sbN n h p) j) := hi.1.kept (fun x hx hx2 k => by rw [e1]; exact congrFun (uIo (by omega)) k)
      have hg1 : ∀ l, l < j → i1 (w + 4) l = ogN n h p l := fun l hl => by
        rw [e1, mI_uI, if_pos rfl, if_neg (by omega)]
        exact hi.2.1 l hl
      have hj1 : i1 (w + 4) j = -2 := by rw [e1, mI_uI, if_pos rfl, if_pos rfl]
      have ho1 : ∀ x, (x < a ∨ a + 18 ≤ x) → x ≠ w + 4 → ∀ k, i1 x k = mI M x k := fun x hx hx2 k => by
        rw [e1]
        exact (congrFun (uIo hx2) k).trans (hi.2.2 x hx hx2 k)
      clear hz e1
      refine r_aload hX dX1_takeOut_46 rfl ?_
      refine r_iload hX dX1_takeOut_48 rfl ?_
      refine r_iconst (v := 0) hX dX1_takeOut_50 (by decide) ?_
      refine r_iload_n hX dX1_takeOut_51 rfl ?_
      refine r_cV3 hX dX1_takeOut_52 IX2_isIn ml_X1_108 rfl (LX2_s (LX8_o5 hL)) rfl (t_X2_isIn (M := wI M i1) (LX8_o5 hL) (hR1.2.2.1.1.trans (hR1.2.2.1.2.1.1.trans (by rw [hv2]))) (by omega) c19) (by decide) (by decide) (by decide) (by decide) rfl (Nat.le_of_ble_eq_true rfl) ?_
      rw [show mI (wI M i1) (a + 2 + 4) j = n (498 + 10 * j + 3) from (hR1.2.2.1.2.2 j (by rw [hv2]; exact c19) 3 (by omega)).trans (hu 3 (by omega)), show mI (wI M i1) (a + 2 + 5) j = n (498 + 10 * j + 4) from (hR1.2.2.1.2.2 j (by rw [hv2]; exact c19) 4 (by omega)).trans (hu 4 (by omega))]
      refine rb_if_eq (tgt := 69) hX dX1_takeOut_55 (by decide) rfl (fun c55 => ?_) (fun c55 => (by rw [h3] at c55; exact absurd c55.1 (by decide)))
      refine r_iload_n hX dX1_takeOut_69 rfl ?_
      refine r_iload hX dX1_takeOut_70 rfl ?_
      refine r_cN2 (host := RX10) hX dX1_takeOut_72 IX10_has (by decide +kernel) rfl (t_X10_has (M := wI M i1)) (by decide) (by decide) (by decide) (by decide) rfl (Nat.le_of_ble_eq_true rfl) ?_
      rw [itec (hasP_set (f := grpB n h p) (by omega) (by omega)), itec (show (c < 5 ∧ c ≤ 30 ∧ grpB n h p c = true) ↔ grpB n h p c = true from ⟨fun z => z.2.2, fun z => ⟨by omega, by omega, z⟩⟩)]
      refine rb_if_eq (tgt := 102) hX dX1_takeOut_75 (by decide) rfl (fun c75 => ?_) (fun c75 => ?_)
      · refine r_iload_n hX dX1_takeOut_102 rfl ?_
        refine r_iload hX dX1_takeOut_103 rfl ?_
        refine r_cN2 (host := RX10) hX dX1_takeOut_105 IX10_has (by decide +kernel) rfl (t_X10_has (M := wI M i1)) (by decide) (by decide) (by decide) (by decide) rfl (Nat.le_of_ble_eq_true rfl) ?_
        rw [itec (hasP_set (f := grpB n h p) (by omega) (by omega)), itec (show (c < 5 ∧ c ≤ 30 ∧ grpB n h p c = true) ↔ grpB n h p c = true from ⟨fun z => z.2.2, fun z => ⟨by omega, by omega, z⟩⟩)]
        refine rb_if_eq (tgt := 135) hX dX1_takeOut_108 (by decide) rfl (fun c108 => ?_) (fun c108 => absurd c108 c75)
        refine rn_iinc6 hX dX1_takeOut_135 rfl rfl ?_
        refine r_goto (tgt := 12) hX dX1_takeOut_138 (by decide) ?_
        have hdn : ¬ dlB n p (sbN n h p) j = true := fun z => by
          have z2 := (of_decide_eq_true z).1
          unfold sbN at z2
          rw [if_neg (fun y => c75 (by rw [← hcc]; exact y.2)), if_neg (fun y => by rw [h3] at y; exact absurd y.1 (by decide))] at z2
          exact z2 (by decide)
        have hdl : ¬ dlB (delL n p (sbN n h p) j) p (sbN n h p) j = true := by rw [dlB_eq (by omega)]; exact hdn
        have z := ih (by omega) i1 ⟨by rw [dl_no hdl]; exact hR1, fun l hl => ?_, ho1⟩
        · rw [cnt_no hdn] at z
          exact J.junk z (by repeat first | exact trivial | refine ⟨rfl, ?_⟩)
        · rcases (show l < j ∨ l = j by omega) with z | rfl
          · exact hg1 l z
          · rw [hj1]
            exact (by unfold ogN; rw [if_neg (fun y => c75 (by rw [← hcc]; exact y.2)), if_neg (fun y => by rw [h3] at y; exact absurd y.1 (by decide))])
      · refine r_aload hX dX1_takeOut_78 rfl ?_
        refine r_getr hX dX1_takeOut_80 fl_X1_112 rfl (LX2_s (LX8_o5 hL)) (LX2_r2 (LX8_o5 hL)) ?_
        refine r_iload hX dX1_takeOut_83 rfl ?_
        refine rn_iald hX dX1_takeOut_85 (LX2_a2 (LX8_o5 hL)) rfl (by omega) (by omega) ?_
        rw [show mI (wI M i1) (a + 2 + 2) j = n (498 + 10 * j + 1) from (hR1.2.2.1.2.2 j (by rw [hv2]; exact c19) 1 (by omega)).trans (hu 1 (by omega)), ht]
        refine r_iload_n hX dX1_takeOut_86 rfl ?_
        refine rn_icmp_eq (tgt := 102) hX dX1_takeOut_87 (by decide) rfl rfl (by omega) (by omega) (fun c87 => ?_) (fun c87 => ?_)
        · refine r_iload_n hX dX1_takeOut_102 rfl ?_
          refine r_iload hX dX1_takeOut_103 rfl ?_
          refine r_cN2 (host := RX10) hX dX1_takeOut_105 IX10_has (by decide +kernel) rfl (t_X10_has (M := wI M i1)) (by decide) (by decide) (by decide) (by decide) rfl (Nat.le_of_ble_eq_true rfl) ?_
          rw [itec (hasP_set (f := grpB n h p) (by omega) (by omega)), itec (show (c < 5 ∧ c ≤ 30 ∧ grpB n h p c = true) ↔ grpB n h p c = true from ⟨fun z => z.2.2, fun z => ⟨by omega, by omega, z⟩⟩)]
          refine rb_if_eq (tgt := 135) hX dX1_takeOut_108 (by decide) rfl (fun c108 => absurd c75 c108) (fun c108 => ?_)
          refine r_aload hX dX1_takeOut_111 rfl ?_
          refine r_iload hX dX1_takeOut_113 rfl ?_
          refine r_aload_n hX dX1_takeOut_115 rfl ?_
          refine rn_geti (v := (delL n p (sbN n h p) j) 6) hX dX1_takeOut_116 fl_X1_34 rfl (LX8_s hL) hR1.1.1 ?_
          refine r_cV2 hX dX1_takeOut_119 IX2_toHand ml_X1_115 rfl (LX2_s (LX8_o5 hL)) rfl (t_X2_toHand (M := wI M i1) (LX8_o5 hL) (hR1.2.2.1.1.trans (hR1.2.2.1.2.1.1.trans (by rw [hv2]))) (by omega) c19) (by decide) (by decide) (by decide) (by decide) rfl (Nat.le_of_ble_eq_true rfl) ?_
          refine r_aload_n hX dX1_takeOut_122 rfl ?_
          refine r_iload hX dX1_takeOut_123 rfl ?_
          refine r_iconst (v := nI 2) hX dX1_takeOut_125 (by decide) ?_
          refine r_iload hX dX1_takeOut_126 rfl ?_
          refine r_iload_n hX dX1_takeOut_128 rfl ?_
          refine r_iV4 hX dX1_takeOut_129 IX8_writeReceipt ml_X1_104 rfl (LX8_s hL) rfl (t_X8_writeReceipt (M := handL (wI M i1) (a + 2) j ((delL n p (sbN n h p) j) 6)) hL (RS.hand (M := wI M i1) hR1 (by rw [hv2]; exact c19)) (by show j < nv (tohN _ j _) 2; rw [show nv (tohN (delL n p (sbN n h p) j) j ((delL n p (sbN n h p) j) 6)) 2 = nv (delL n p (sbN n h p) j) 2 from by unfold tohN; exact nv_eq (by rw [upd_o (by omega), upd_o (by omega), upd_o (by omega)]), hv2]; exact c19)) (by decide) (by decide) (by decide) (by decide) rfl (Nat.le_of_ble_eq_true rfl) (fun i7 h7 => ?_)
          show J G base X _ _ (wI M i7) _ _ _
          
          refine rn_iinc5 hX dX1_takeOut_132 rfl rfl ?_
          refine rn_iinc6 hX dX1_takeOut_135 rfl rfl ?_
          refine r_goto (tgt := 12) hX dX1_takeOut_138 (by decide) ?_
          have hsb : sbN n h p j = n (498 + 10 * j + 4) := by
            unfold sbN
            rw [if_pos ⟨h3, by rw [hcc]; exact c75⟩]
          have htp : n (498 + 10 * j + 1) = nI p := by rw [ht, c87]
          have hdn : dlB n p (sbN n h p) j = true := decide_eq_true ⟨by rw [hsb, e4]; exact fun y => absurd y (i_nlt.mpr (nI_pos' (by omega))), htp⟩
          have hdl : dlB (delL n p (sbN n h p) j) p (sbN n h p) j = true := by rw [dlB_eq (by omega)]; exact hdn
          have hXt : (delL n p (sbN n h p) j) (498 + 10 * j + 1) = nI p := (hu 1 (by omega)).trans htp
          have hcd : crS (handN (delL n p (sbN n h p) j) j p) (sbN n h p j) = nI c := by
            have hs : sm (handN (delL n p (sbN n h p) j) j p) n := ((hsm.lies j 2 (nI p)).up (q := 498 + 10 * j + 7) (by omega) _)
            rw [hs.cr, hsb]
            exact hcr
          have z := ih (by omega) i7 ⟨by
            rw [dl_yes hdl, hcd, ← hand_eq hXt]
            exact h7.1, fun l hl => ?_, fun x hx hx2 k => (h7.2 x hx k).trans ((hand_out (M := wI M i1) x hx k).trans (ho1 x hx hx2 k))⟩
          · rw [cnt_yes hdn] at z
            exact J.junk z (by repeat first | exact trivial | refine ⟨rfl, ?_⟩)
          · have z4 : i7 (w + 4) l = i1 (w + 4) l := (h7.2 _ (by omega) l).trans (hand_out (M := wI M i1) _ (by omega) l)
            rw [z4]
            rcases (show l < j ∨ l = j by omega) with z | rfl
            · exact hg1 l z
            · rw [hj1]
              unfold ogN
              rw [if_pos ⟨h3, by rw [hcc]; exact c75⟩, if_pos htp]
        · refine r_aload_n hX dX1_takeOut_90 rfl ?_
          refine r_getr hX dX1_takeOut_91 fl_X1_22 rfl (LX1_s hw) (LX1_r2 hw) ?_
          refine r_iload hX dX1_takeOut_94 rfl ?_
          refine r_iload hX dX1_takeOut_96 rfl ?_
          refine rn_iast hX dX1_takeOut_98 (LX1_a2 hw) rfl (by omega) (by omega) ?_
          refine r_goto (tgt := 135) hX dX1_takeOut_99 (by decide) ?_
          refine rn_iinc6 hX dX1_takeOut_135 rfl rfl ?_
          refine r_goto (tgt := 12) hX dX1_takeOut_138 (by decide) ?_
          have hsb : sbN n h p j = n (498 + 10 * j + 4) := by
            unfold sbN
            rw [if_pos ⟨h3, by rw [hcc]; exact c75⟩]
          have htp : ¬ n (498 + 10 * j + 1) = nI p := by rw [ht]; intro y; exact c87 ((nI_eq (by omega) (by omega)).mp y)
          have hdn : ¬ dlB n p (sbN n h p) j = true := fun z => htp (of_decide_eq_true z).2
          have hdl : ¬ dlB (delL n p (sbN n h p) j) p (sbN n h p) j = true := by rw [dlB_eq (by omega)]; exact hdn
          have z := ih (by omega) (mI (uI (wI M i1) (w + 4) j (nI c))) ⟨by rw [dl_no hdl]; exact hR1.kept (fun x hx hx2 k => congrFun (uIo (by omega)) k), fun l hl => ?_, fun x hx hx2 k => (congrFun (uIo hx2) k).trans (ho1 x hx hx2 k)⟩
          · rw [cnt_no hdn] at z
            exact J.junk z (by repeat first | exact trivial | refine ⟨rfl, ?_⟩)
          · rw [mI_uI, if_pos rfl]
            by_cases z : l = j
            · subst z
              rw [if_pos rfl]
              exact (by unfold ogN; rw [if_pos ⟨h3, by rw [hcc]; exact c75⟩, if_neg htp, hcc])
            · rw [if_neg z]
              exact hg1 l (by omega)
    · have h3X : ¬ (delL n p (sbN n h p) j) (498 + 10 * j + 3) = 1 := by rw [hu 3 (by omega)]; exact h3
      rw [if_neg h3X]
      refine r_istore7 hX dX1_takeOut_35 rfl ?_
      refine r_aload_n hX dX1_takeOut_37 rfl ?_
      refine r_getr hX dX1_takeOut_38 fl_X1_22 rfl (LX1_s hw) (LX1_r2 hw) ?_
      refine r_iload hX dX1_takeOut_41 rfl ?_
      refine r_bipush (v := (-2)) hX dX1_takeOut_43 (by decide) ?_
      refine rn_iast hX dX1_takeOut_45 (LX1_a2 hw) rfl (by omega) (by omega) ?_
      refine J.gen (M0 := M) rfl (fun i1 hz => ?_)
      have e1 : i1 = mI (uI (wI M i) (w + 4) j (-2)) := funext fun x => funext fun k => hz x k
      have hR1 : RS i1 a (delL n p (sbN n h p) j) := hi.1.kept (fun x hx hx2 k => by rw [e1]; exact congrFun (uIo (by omega)) k)
      have hg1 : ∀ l, l < j → i1 (w + 4) l = ogN n h p l := fun l hl => by
        rw [e1, mI_uI, if_pos rfl, if_neg (by omega)]
        exact hi.2.1 l hl
      have hj1 : i1 (w + 4) j = -2 := by rw [e1, mI_uI, if_pos rfl, if_pos rfl]
      have ho1 : ∀ x, (x < a ∨ a + 18 ≤ x) → x ≠ w + 4 → ∀ k, i1 x k = mI M x k := fun x hx hx2 k => by
        rw [e1]
        exact (congrFun (uIo hx2) k).trans (hi.2.2 x hx hx2 k)
      clear hz e1
      refine r_aload hX dX1_takeOut_46 rfl ?_
      refine r_iload hX dX1_takeOut_48 rfl ?_
      refine r_iconst (v := 0) hX dX1_takeOut_50 (by decide) ?_
      refine r_iload_n hX dX1_takeOut_51 rfl ?_
      refine r_cV3 hX dX1_takeOut_52 IX2_isIn ml_X1_108 rfl (LX2_s (LX8_o5 hL)) rfl (t_X2_isIn (M := wI M i1) (LX8_o5 hL) (hR1.2.2.1.1.trans (hR1.2.2.1.2.1.1.trans (by rw [hv2]))) (by omega) c19) (by decide) (by decide) (by decide) (by decide) rfl (Nat.le_of_ble_eq_true rfl) ?_
      rw [show mI (wI M i1) (a + 2 + 4) j = n (498 + 10 * j + 3) from (hR1.2.2.1.2.2 j (by rw [hv2]; exact c19) 3 (by omega)).trans (hu 3 (by omega)), show mI (wI M i1) (a + 2 + 5) j = n (498 + 10 * j + 4) from (hR1.2.2.1.2.2 j (by rw [hv2]; exact c19) 4 (by omega)).trans (hu 4 (by omega))]
      refine rb_if_eq (tgt := 69) hX dX1_takeOut_55 (by decide) rfl (fun c55 => ?_) (fun c55 => ?_)
      · refine r_iload_n hX dX1_takeOut_69 rfl ?_
        refine r_iload hX dX1_takeOut_70 rfl ?_
        refine r_cN2 (host := RX10) hX dX1_takeOut_72 IX10_has (by decide +kernel) rfl (t_X10_has (M := wI M i1)) (by decide) (by decide) (by decide) (by decide) rfl (Nat.le_of_ble_eq_true rfl) ?_
        refine rb_if_eq (tgt := 102) hX dX1_takeOut_75 (by decide) rfl (fun c75 => ?_) (fun c75 => absurd c75 hasP_m1)
        refine r_iload_n hX dX1_takeOut_102 rfl ?_
        refine r_iload hX dX1_takeOut_103 rfl ?_
        refine r_cN2 (host := RX10) hX dX1_takeOut_105 IX10_has (by decide +kernel) rfl (t_X10_has (M := wI M i1)) (by decide) (by decide) (by decide) (by decide) rfl (Nat.le_of_ble_eq_true rfl) ?_
        refine rb_if_eq (tgt := 135) hX dX1_takeOut_108 (by decide) rfl (fun c108 => ?_) (fun c108 => absurd c108 hasP_m1)
        refine rn_iinc6 hX dX1_takeOut_135 rfl rfl ?_
        refine r_goto (tgt := 12) hX dX1_takeOut_138 (by decide) ?_
        have hdn : ¬ dlB n p (sbN n h p) j = true := fun z => by
          have z2 := (of_decide_eq_true z).1
          unfold sbN at z2
          rw [if_neg (fun y => h3 y.1)] at z2
          by_cases y : n (498 + 10 * j + 3) = 0 ∧ n (498 + 10 * j + 4) = nI p
          · rw [if_pos y] at z2
            exact z2 (by decide)
          · rw [if_neg y] at z2
            exact z2 (by decide)
        have hdl : ¬ dlB (delL n p (sbN n h p) j) p (sbN n h p) j = true := by rw [dlB_eq (by omega)]; exact hdn
        have z := ih (by omega) i1 ⟨by rw [dl_no hdl]; exact hR1, fun l hl => ?_, ho1⟩
        · rw [cnt_no hdn] at z
          exact J.junk z (by repeat first | exact trivial | refine ⟨rfl, ?_⟩)
        · rcases (show l < j ∨ l = j by omega) with z | rfl
          · exact hg1 l z
          · rw [hj1]
            exact (by unfold ogN; rw [if_neg (fun y => h3 y.1), if_neg c55])
      · refine r_aload_n hX dX1_takeOut_58 rfl ?_
        refine r_getr hX dX1_takeOut_59 fl_X1_22 rfl (LX1_s hw) (LX1_r2 hw) ?_
        refine r_iload hX dX1_takeOut_62 rfl ?_
        refine r_iconst (v := (-1)) hX dX1_takeOut_64 (by decide) ?_
        refine rn_iast hX dX1_takeOut_65 (LX1_a2 hw) rfl (by omega) (by omega) ?_
        refine r_goto (tgt := 135) hX dX1_takeOut_66 (by decide) ?_
        refine rn_iinc6 hX dX1_takeOut_135 rfl rfl ?_
        refine r_goto (tgt := 12) hX dX1_takeOut_138 (by decide) ?_
        have hdn : ¬ dlB n p (sbN n h p) j = true := fun z => by
          have z2 := (of_decide_eq_true z).1
          unfold sbN at z2
          rw [if_neg (fun y => h3 y.1)] at z2
          by_cases y : n (498 + 10 * j + 3) = 0 ∧ n (498 + 10 * j + 4) = nI p
          · rw [if_pos y] at z2
            exact z2 (by decide)
          · rw [if_neg y] at z2
            exact z2 (by decide)
        have hdl : ¬ dlB (delL n p (sbN n h p) j) p (sbN n h p) j = true := by rw [dlB_eq (by omega)]; exact hdn
        have z := ih (by omega) (mI (uI (wI M i1) (w + 4) j (-1))) ⟨by rw [dl_no hdl]; exact hR1.kept (fun x hx hx2 k => congrFun (uIo (by omega)) k), fun l hl => ?_, fun x hx hx2 k => (congrFun (uIo hx2) k).trans (ho1 x hx hx2 k)⟩
        · rw [cnt_no hdn] at z
          exact J.junk z (by repeat first | exact trivial | refine ⟨rfl, ?_⟩)
        · rw [mI_uI, if_pos rfl]
          by_cases z : l = j
          · subst z
            rw [if_pos rfl]
            exact (by unfold ogN; rw [if_neg (fun y => h3 y.1), if_pos c55])
          · rw [if_neg z]
            exact hg1 l (by omega)
