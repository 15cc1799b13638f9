variable {G : GG} {base : Nat}
theorem wkO.eq {n m : Nat → Int32} {w : Int32} (h : wkO n w) (e : ∀ c, c < 5 → m (38 + c) = n (38 + c)) : wkO m w := fun c hc => by rw [h c hc, e c hc]
/-- what the class notes of a letter is what the reference knows -/
theorem og_is {n : Nat → Int32} (hLt : LtOk n) (h15 : nv n 1 ≤ 5) (hS : SkOk n) {h p l : Nat} (hl : l < nv n 2) : ogN n h p l = ocN n (sb2 n p (sbN n h p) l) := by
  by_cases hA : n (498 + 10 * l + 3) = 1 ∧ grpB n h p (hcN n l) = true
  · obtain ⟨c, w, hc, hw, e4, e5, e6⟩ := hLt.sack h15 hS hl hA.1
    have hcc : hcN n l = c := hcN_is e4 e6 hc
    have hsb : sbN n h p l = nI w := by
      unfold sbN
      rw [if_pos hA, e4]
    unfold ogN sb2
    rw [if_pos hA, hcc]
    by_cases ht : n (498 + 10 * l + 1) = nI p
    · rw [if_pos ht, if_pos (show dlB n p (sbN n h p) l = true from decide_eq_true ⟨by rw [hsb]; exact fun z => absurd z (i_nlt.mpr (nI_pos' (by omega))), ht⟩)]
      unfold ocN
      rw [if_pos rfl]
    · rw [if_neg ht, if_neg (fun z => ht (of_decide_eq_true z).2), hsb, ocN_s (by omega), e6]
  · by_cases hB : n (498 + 10 * l + 3) = 0 ∧ n (498 + 10 * l + 4) = nI p
    · have hsb : sbN n h p l = -1 := by
        unfold sbN
        rw [if_neg hA, if_pos hB]
      unfold ogN sb2
      rw [if_neg hA, if_pos hB, if_neg (fun z => (of_decide_eq_true z).1 (by rw [hsb]; decide)), hsb, ocN_m1]
    · have hsb : sbN n h p l = -2 := by
        unfold sbN
        rw [if_neg hA, if_neg hB]
      unfold ogN sb2
      rw [if_neg hA, if_neg hB, if_neg (fun z => (of_decide_eq_true z).1 (by rw [hsb]; decide)), hsb]
      unfold ocN
      rw [if_pos rfl]
/-- a letter that is sorted at p doesn't go there -/
theorem sb_to {n : Nat → Int32} (hLt : LtOk n) {h p l t : Nat} (hl : l < nv n 2) (ht : n (498 + 10 * l + 1) = nI t) (ht10 : t < 10) (hp : p < 10) (h0 : nv n 0 ≤ 10) (h15 : nv n 1 ≤ 5) (hne : ¬ sb2 n p (sbN n h p) l = -2) : ¬ t = p := fun e => by
  subst e
  have hd : ¬ dlB n t (sbN n h t) l = true := fun z => hne (by unfold sb2; rw [if_pos z])
  have hs : sb2 n t (sbN n h t) l = sbN n h t l := by unfold sb2; rw [if_neg hd]
  have hneg : sbN n h t l < 0 := Classical.byContradiction fun z => hd (decide_eq_true ⟨z, ht⟩)
  rw [hs] at hne
  rcases sb_cases (h := h) (p := t) h15 (hLt.2.2 l hl) with ⟨z, -⟩ | ⟨-, q1, q2⟩ | ⟨w, hw, z, -⟩
  · exact hne z
  · obtain ⟨f, t', v, s, w, -, e1, -, e3, e4, -, k2, -, -, ks, g0, -⟩ := hLt.2.2 l hl
    have hs0 : s = 0 := by
      rw [e3] at q1
      exact (nI_eq (a := s) (b := 0) (by omega) (by omega)).mp q1
    have h1 := town_lt (g0 hs0).1
    have h2 := town_lt k2
    refine (g0 hs0).2 ((nI_eq (by omega) (by omega)).mp ?_)
    rw [← e4, q2, ← ht, e1]
  · rw [z] at hneg
    exact absurd hneg (i_nlt.mpr (nI_pos' (by omega)))
theorem tabEq.TT {i : Nat → Nat → Int32} {b : Nat} {n m : Nat → Int32} (h : TT i b n) (he : tabEq n m) (hO : TbOk n) : TT i b m := h.eq he hO.1.2 hO.2.1.2 hO.2.2
theorem vil_yes {n : Nat → Int32} {h p : Nat} (c : town n p = true) : vilN n h (p + 1) = (visN (vilN n h p).1 h p, (vilN n h p).2 + visC (vilN n h p).1 h p) := by
  conv => lhs; unfold vilN
  rw [if_pos c]
theorem vil_no {n : Nat → Int32} {h p : Nat} (c : ¬ town n p = true) : vilN n h (p + 1) = vilN n h p := by
  conv => lhs; unfold vilN
  rw [if_neg c]
theorem vil_none {n : Nat → Int32} {h p : Nat} (c : ¬ anyB (grpB (vilN n h p).1 h p) 5 = true) : vilN n h (p + 1) = vilN n h p := by
  by_cases ht : town n p = true
  · rw [vil_yes ht]
    unfold visN visC
    rw [if_neg c, if_neg c]
    rfl
  · exact vil_no ht
theorem any_set {g : Nat → Bool} : setB g 5 = 0 ↔ ¬ anyB g 5 = true := by
  rw [setB_0 (by omega)]
  constructor
  · intro h z
    obtain ⟨c, hc, e⟩ := anyB_iff.mp z
    rw [h c hc] at e
    cases e
  · intro h c hc
    cases e : g c with
    | false => rfl
    | true => exact absurd (anyB_iff.mpr ⟨c, hc, e⟩) h
set_option maxHeartbeats 2000000 in
set_option maxRecDepth 20000 in
theorem t_X1_processHour {M : Mm} {w a b : Nat} {n : Nat → Int32} (hw : LX1 M.1 M.2.1 w) (hL : LX8 M.1 M.2.1 a) (hb : LX9 M.1 M.2.1 b) (hd : w + 6 ≤ a ∨ a + 18 ≤ w) (hd2 : w + 6 ≤ b ∨ b + 6 ≤ w) (hd3 : a + 18 ≤ b ∨ b + 6 ≤ a) (hR : RS (mI M) a n) (hTT : TT (mI M) b n) {T : Nat} (hO : OkN T n) (hT9 : T < 900000) : Ct G base YX1_processHour 7 0 0 [.ref w, .ref b, .ref a] M (rI (some (.int (nI (hourC n)))) M (fun i => RS i a (hourN n) ∧ ∀ z, ((z < a ∨ a + 18 ≤ z) ∧ (z < w ∨ w + 6 ≤ z)) → ∀ k, i z k = mI M z k)) := by
  refine Ct.of IX1_processHour.1 (by simp [Value.category]) (Nat.le_of_ble_eq_true rfl) (fun X hX hN => ?_)
  show J G base X 0 0 M 0 [some (.ref w), some (.ref b), some (.ref a), none, none, none, none] []
  obtain ⟨hT, hS, hLt, h4, -, h6, -, -, -⟩ := hO
  have h0 := hT.1
  have h10 := h0.2
  have h15 := hT.2.1.2
  have h30 := hLt.1.2
  have ht6 : n 6 = nI (nv n 6) := h6.1
  have hh : nv n 6 < 1000000 := by have := h6.2; omega
  generalize hvt : nv n 6 = t at ht6 hh
  have fin : ∀ i : Nat → Nat → Int32, RS i a (swpN n t (nv n 0)) → (∀ z, ((z < a ∨ a + 18 ≤ z) ∧ (z < w ∨ w + 6 ≤ z)) → ∀ k, i z k = mI M z k) → J G base X 0 0 (wI M i) 59 [some (.ref w), some (.ref b), some (.ref a), some (.int (nI (nv n 0))), none, none, none] [] := by
    intro i hR1 ho1
    obtain ⟨hLz, -⟩ := swp_step hT hLt h4 (h := t) (nv n 0)
    have hs1 := swpN_sm (n := n) (h := t) h4 (nv n 0)
    generalize hz : swpN n t (nv n 0) = z at hR1 hLz hs1
    have hz4 : Rn z 4 60 := hs1.2
    have etz : tabEq z n := hs1.tab.tr rotN_tab
    have hTz : TbOk z := TbOk.tab etz.sm hT
    have hSz : SkOk z := hs1.Sk (rotN_Sk hS)
    have hzt : z 6 = nI t := (hs1.1 6 (by omega) (by omega) (by omega)).trans ((rotN_eq (by omega)).trans ht6)
    have hz0 : nv z 0 = nv n 0 := nv_eq ((hs1.1 0 (by omega) (by omega) (by omega)).trans (rotN_eq (by omega)))
    have hTTz : TT (mI M) b z := tabEq.TT hTT etz.sm hT
    refine r_iconst (v := nI 0) hX dX1_processHour_59 (by decide) ?_
    refine r_istore3 hX dX1_processHour_60 rfl ?_
    refine r_iconst (v := nI 0) hX dX1_processHour_61 (by decide) ?_
    refine r_istore4 hX dX1_processHour_62 rfl ?_
    suffices hs : J G base X 0 0 (wI M i) 64 [some (.ref w), some (.ref b), some (.ref a), some (.int (nI (vilN z t 0).2)), some (.int (nI 0)), none, none] [] from J.junk hs (by repeat first | exact trivial | refine ⟨rfl, ?_⟩)
    refine loop_us (σ := Nat → Nat → Int32) (P := fun j i => (RS i a (vilN z t j).1 ∧ ∀ z, ((z < a ∨ a + 18 ≤ z) ∧ (z < w ∨ w + 6 ≤ z)) → ∀ k, i z k = mI M z k) → J G base X 0 0 (wI M i) 64 [some (.ref w), some (.ref b), some (.ref a), some (.int (nI (vilN z t j).2)), some (.int (nI j)), none, none] []) (nv n 0) (fun j i hj ih hi => ?_) 0 i (Nat.zero_le _) ⟨hR1, ho1⟩
    have hsm := vilN_sm (n := z) (h := t) hz4 j
    obtain ⟨hLX, -⟩ := vil_step hTz hLz hz4 (h := t) j
    have hTi : TT i b z := hTTz.kept (fun x hx hx2 k => hi.2 x (by omega) k)
    generalize hXx : (vilN z t j).1 = x at hsm hLX hi ⊢
    have hOX : TbOk x := hsm.Tb hTz
    have hSX : SkOk x := hsm.Sk hSz
    have hTX : TT i b x := tabEq.TT hTi hsm.tab.sm hTz
    have hxt : x 6 = nI t := (hsm.1 6 (by omega) (by omega) (by omega)).trans hzt
    have htm : mI (wI M i) a 0 = nI t := hi.1.1.1.trans hxt
    have hwk : wkO x (i a 3 ^^^ -1) := wk_of hi.1
    have hx0 : nv x 0 = nv z 0 := hsm.nv (by omega) (by omega) (by omega)
    have hx2 : nv x 2 = nv z 2 := hsm.nv (by omega) (by omega) (by omega)
    have hx10 := hOX.1.2
    have hx15 := hOX.2.1.2
    have hx4 : Rn x 4 60 := hsm.2
    have hx30 := hLX.1.2
    have htt : town x j = town z j := town_eq hsm.tab hx10
    refine r_iload hX dX1_processHour_64 rfl ?_
    refine r_aload_n hX dX1_processHour_66 rfl ?_
    refine rn_geti (v := nI (nv z 0)) hX dX1_processHour_67 fl_X1_28 rfl (LX9_s hb) (hTi.1.trans hTz.1.1) ?_
    refine rn_icmp_ge (tgt := 157) hX dX1_processHour_70 (by decide) rfl rfl (by omega) (by omega) (fun c70 => ?_) (fun c70 => ?_)
    · refine r_aload_n hX dX1_processHour_157 rfl ?_
      refine r_dup hX dX1_processHour_158 rfl ?_
      refine rn_geti (v := nI t) hX dX1_processHour_159 fl_X1_34 rfl (LX8_s hL) htm ?_
      refine r_iconst (v := nI 1) hX dX1_processHour_162 (by decide) ?_
      refine rn_iadd hX dX1_processHour_163 rfl rfl ?_
      refine r_puti hX dX1_processHour_164 fl_X1_34 rfl rfl (LX8_s hL) ?_
      refine r_iload_n hX dX1_processHour_167 rfl ?_
      refine r_ireturn hX rfl rfl dX1_processHour_168 (by decide) (by decide) ?_
      obtain rfl : j = nv n 0 := by omega
      have eH : hourN n = upd x 6 (nI (t + 1)) := by unfold hourN; rw [hvt, hz, hXx]
      have eC : hourC n = (vilN z t (nv n 0)).2 := by unfold hourC; rw [hvt, hz]
      refine ⟨by rw [eC], mI (uI (wI M i) a 0 (nI (t + 1))), rfl, ?_, fun q hq k => (congrFun (uIo (by omega)) k).trans (hi.2 q hq k)⟩
      rw [eH]
      exact RS.nf (M := wI M i) hi.1 (k := 0) (q := 6) (by omega)
    · refine r_aload_n hX dX1_processHour_73 rfl ?_
      refine r_aload_n hX dX1_processHour_74 rfl ?_
      refine rn_geti (v := nI t) hX dX1_processHour_75 fl_X1_34 rfl (LX8_s hL) htm ?_
      refine r_iload hX dX1_processHour_78 rfl ?_
      refine r_cV2 hX dX1_processHour_80 IX9_carriersStopping ml_X1_39 rfl (LX9_s hb) rfl (t_X9_carriersStopping (M := wI M i) hb (by omega) (by omega)) (by decide) (by decide) (by decide) (by decide) rfl (Nat.le_of_ble_eq_true rfl) ?_
      rw [show mI (wI M i) (b + 4) (t % 168 * 10 + j) = setB (gstN x t j) 5 from hTX.gs t (by omega)]
      refine r_aload_n hX dX1_processHour_83 rfl ?_
      refine r_geti hX dX1_processHour_84 fl_X1_43 rfl (LX8_s hL) ?_
      refine r_iconst (v := (-1)) hX dX1_processHour_87 (by decide) ?_
      refine r_ixor hX dX1_processHour_88 ?_
      refine r_iand hX dX1_processHour_89 ?_
      rw [show setB (gstN x t j) 5 &&& (mI (wI M i) a 3 ^^^ -1) = setB (grpB x t j) 5 from grp_set hOX hwk (by omega)]
      refine r_istore5 hX dX1_processHour_90 rfl ?_
      refine r_aload_n hX dX1_processHour_92 rfl ?_
      refine r_iload hX dX1_processHour_93 rfl ?_
      refine r_cV1 hX dX1_processHour_95 IX9_hasOffice ml_X1_46 rfl (LX9_s hb) rfl (t_X9_hasOffice (M := wI M i) hb hTX hOX.1) (by decide) (by decide) (by decide) (by decide) rfl (Nat.le_of_ble_eq_true rfl) ?_
      rw [itec (townP_t hOX.1 (by omega))]
      refine rb_if_eq (tgt := 151) hX dX1_processHour_98 (by decide) rfl (fun c98 => ?_) (fun c98 => ?_)
      · refine rn_iinc4 hX dX1_processHour_151 rfl rfl ?_
        refine r_goto (tgt := 64) hX dX1_processHour_154 (by decide) ?_
        have z9 := ih (by omega) i
        rw [vil_no (fun y => c98 (by rw [htt]; exact y))] at z9
        refine J.junk (z9 ⟨by rw [hXx]; exact hi.1, hi.2⟩) (by repeat first | exact trivial | refine ⟨rfl, ?_⟩)
      · refine r_iload hX dX1_processHour_101 rfl ?_
        refine r_if_eq (tgt := 151) hX dX1_processHour_103 (by decide) (fun c103 => ?_) (fun c103 => ?_)
        · refine rn_iinc4 hX dX1_processHour_151 rfl rfl ?_
          refine r_goto (tgt := 64) hX dX1_processHour_154 (by decide) ?_
          have z9 := ih (by omega) i
          rw [vil_none (by rw [hXx]; exact any_set.mp c103)] at z9
          refine J.junk (z9 ⟨by rw [hXx]; exact hi.1, hi.2⟩) (by repeat first | exact trivial | refine ⟨rfl, ?_⟩)
        · have hany : anyB (grpB x t j) 5 = true := Classical.not_not.mp (fun q => c103 (any_set.mpr q))
          refine r_iload_n hX dX1_processHour_106 rfl ?_
          refine r_aload_n hX dX1_processHour_107 rfl ?_
          refine r_aload_n hX dX1_processHour_108 rfl ?_
          refine r_iload hX dX1_processHour_109 rfl ?_
          refine r_iload hX dX1_processHour_111 rfl ?_
          refine r_iV3 hX dX1_processHour_113 IX1_takeOut ml_X1_60 rfl (LX1_s hw) rfl (t_X1_takeOut (M := wI M i) hw hL hd hi.1 hOX hSX hLX (h := t) (p := j) (by omega)) (by decide) (by decide) (by decide) (by decide) rfl (Nat.le_of_ble_eq_true rfl) (fun i1 h1 => ?_)
          show J G base X _ _ (wI M i1) _ _ _
          
          generalize hy : (delL x j (sbN x t j) (nv x 2)) = y at h1
          have hsy : sm y x := by rw [← hy]; exact delL_sm hx4 _
          have hy2 : nv y 2 = nv x 2 := hsy.nv (by omega) (by omega) (by omega)
          have hSy : SkOk y := hsy.Sk hSX
          have hOy : TbOk y := hsy.Tb hOX
          have hgy : grpB x t j = grpB y t j := grpB_eq hsy.tab.sm hOX.2.2 hx15
          have hyto : ∀ l, l < nv x 2 → y (498 + 10 * l + 1) = x (498 + 10 * l + 1) := fun l hl => by rw [← hy]; exact delL_f (by omega) (by omega) _
          have hto0 : ∀ l, l < nv x 2 → ∃ t', t' < 10 ∧ x (498 + 10 * l + 1) = nI t' := fun l hl => by
            obtain ⟨-, t', -, -, -, -, e1, -, -, -, -, k2, -⟩ := hLX.2.2 l hl
            have := town_lt k2
            exact ⟨t', by omega, e1⟩
          have hsb : ∀ l, l < nv x 2 → sb2 x j (sbN x t j) l = -2 ∨ sb2 x j (sbN x t j) l = -1 ∨ ∃ s, s < 5 ∧ sb2 x j (sbN x t j) l = nI s := fun l hl => by
            by_cases z : sb2 x j (sbN x t j) l = -2
            · exact Or.inl z
            · exact Or.inr (sb2_is hx15 (hLX.2.2 l hl) z)
          have hog : ∀ l, l < nv x 2 → i1 (w + 4) l = ocN y (sb2 x j (sbN x t j) l) := fun l hl => by
            rw [h1.2.1 l hl, og_is hLX hx15 hSX hl]
            rcases hsb l hl with z | z | ⟨s, hs, z⟩
            · rw [z]; unfold ocN; rw [if_pos rfl, if_pos rfl]
            · rw [z, ocN_m1, ocN_m1]
            · rw [z, ocN_s hs, ocN_s hs, hsy.cr]
          have hTT1 : TT i1 b y := tabEq.TT ((hTX).kept (fun q hq hq2 k => h1.2.2 q (by omega) (by omega) k)) hsy.tab.sm hOX
          have hvis : visN x t j = (srtL y t j (sb2 x j (sbN x t j)) (nv x 2)).1 := by
            unfold visN
            rw [if_pos hany, hy]
          have hvc : visC x t j = cntB (dlB x j (sbN x t j)) (nv x 2) := by
            unfold visC
            rw [if_pos hany]
          refine rn_iadd hX dX1_processHour_116 rfl rfl ?_
          refine r_istore3 hX dX1_processHour_117 rfl ?_
          refine r_aload_n hX dX1_processHour_118 rfl ?_
          refine r_aload_n hX dX1_processHour_119 rfl ?_
          refine r_cV1 hX dX1_processHour_120 IX1_wantedVillages ml_X1_64 rfl (LX1_s hw) rfl (t_X1_wantedVillages (M := wI M i1) (og := ogN x t j) hw hL h1.1 (fun l hl => h1.2.1 l (by omega)) (fun l hl => by rw [hyto l (by omega)]; exact hto0 l (by omega))) (by decide) (by decide) (by decide) (by decide) rfl (Nat.le_of_ble_eq_true rfl) ?_
          refine r_istore6 hX dX1_processHour_123 rfl ?_
          refine r_iload hX dX1_processHour_125 rfl ?_
          refine r_if_eq (tgt := 151) hX dX1_processHour_127 (by decide) (fun c127 => ?_) (fun c127 => ?_)
          · refine rn_iinc4 hX dX1_processHour_151 rfl rfl ?_
            refine r_goto (tgt := 64) hX dX1_processHour_154 (by decide) ?_
            have hno : ∀ l, l < nv x 2 → sb2 x j (sbN x t j) l = -2 := fun l hl => Classical.byContradiction fun z => by
              obtain ⟨t', ht', e⟩ := hto0 l hl
              have := (setB_0 (by omega)).mp c127 t' ht'
              rw [show wtB y (ogN x t j) (nv y 2) t' = true from anyB_iff.mpr ⟨l, by omega, decide_eq_true ⟨fun q => z ((oc_m2 hSX (hsb l hl)).mp (by rw [← og_is hLX hx15 hSX hl]; exact q)), by rw [hyto l hl, e]⟩⟩] at this
              cases this
            have z9 := ih (by omega) i1
            rw [vil_yes (by rw [← htt]; exact c98), hXx, hvis, hvc, srtL_none hno] at z9
            refine J.junk (z9 ⟨h1.1, fun q hq k => (h1.2.2 q hq.1 (by omega) k).trans (hi.2 q hq k)⟩) (by repeat first | exact trivial | refine ⟨rfl, ?_⟩)
          · rw [show setB (grpB x t j) 5 = setB (grpB y t j) 5 from by rw [hgy]]
            refine r_aload_n hX dX1_processHour_130 rfl ?_
            refine r_aload_n hX dX1_processHour_131 rfl ?_
            refine r_aload_n hX dX1_processHour_132 rfl ?_
            refine r_iload hX dX1_processHour_133 rfl ?_
            refine r_iload hX dX1_processHour_135 rfl ?_
            refine r_iload hX dX1_processHour_137 rfl ?_
            refine r_iV5 hX dX1_processHour_139 IX1_foresee ml_X1_68 rfl (LX1_s hw) rfl (t_X1_foresee (M := wI M i1) hw hL hb hd hd2 h1.1 hTT1 hOy ((hsy.1 6 (by omega) (by omega) (by omega)).trans hxt) hh (p := j) (by omega) (g := grpB y t j) (W := wtB y (ogN x t j) (nv y 2))) (by decide) (by decide) (by decide) (by decide) rfl (Nat.le_of_ble_eq_true rfl) (fun i2 h2 => ?_)
            show J G base X _ _ (wI M i2) _ _ _
            
            have hR2 : RS i2 a y := h1.1.kept (fun q hq hq2 k => h2.2.2.2 q (by omega) k)
            have hto2 : ∀ l, l < nv y 2 → ∃ t', t' < 10 ∧ y (498 + 10 * l + 1) = nI t' ∧ (¬ sb2 x j (sbN x t j) l = -2 → wtB y (ogN x t j) (nv y 2) t' = true ∧ ¬ t' = j) := fun l hl => by
              obtain ⟨t', ht', e⟩ := hto0 l (by omega)
              exact ⟨t', ht', (hyto l (by omega)).trans e, fun z => ⟨anyB_iff.mpr ⟨l, by omega, decide_eq_true ⟨fun q => z ((oc_m2 hSX (hsb l (by omega))).mp (by rw [← og_is hLX hx15 hSX (by omega)]; exact q)), (hyto l (by omega)).trans e⟩⟩, sb_to hLX (by omega) e ht' (by omega) hx10 hx15 z⟩⟩
            refine r_aload_n hX dX1_processHour_142 rfl ?_
            refine r_aload_n hX dX1_processHour_143 rfl ?_
            refine r_iload hX dX1_processHour_144 rfl ?_
            refine r_iload hX dX1_processHour_146 rfl ?_
            refine r_iV3 hX dX1_processHour_148 IX1_putAllAway ml_X1_72 rfl (LX1_s hw) rfl (t_X1_putAllAway (M := wI M i2) hw hL hd hR2 hOy hSy hh (p := j) (by omega) (sb := sb2 x j (sbN x t j)) (W := wtB y (ogN x t j) (nv y 2)) hto2 (fun l hl => hsb l (by omega)) (fun l hl => (h2.2.2.2 _ (by omega) l).trans (hog l (by omega))) h2.1 h2.2.1 h2.2.2.1) (by decide) (by decide) (by decide) (by decide) rfl (Nat.le_of_ble_eq_true rfl) (fun i3 h3 => ?_)
            show J G base X _ _ (wI M i3) _ _ _
            
            refine rn_iinc4 hX dX1_processHour_151 rfl rfl ?_
            refine r_goto (tgt := 64) hX dX1_processHour_154 (by decide) ?_
            have z9 := ih (by omega) i3
            rw [vil_yes (by rw [← htt]; exact c98), hXx, hvis, hvc] at z9
            refine J.junk (z9 ⟨by rw [← hy2]; exact h3.1, fun q hq k => (h3.2 q hq.1 (by omega) k).trans ((h2.2.2.2 q (by omega) k).trans ((h1.2.2 q hq.1 (by omega) k).trans (hi.2 q hq k)))⟩) (by repeat first | exact trivial | refine ⟨rfl, ?_⟩)
  
  refine r_iconst (v := nI 0) hX dX1_processHour_0 (by decide) ?_
  refine r_istore3 hX dX1_processHour_1 rfl ?_
  show J G base X 0 0 (wI M (mI M)) 2 _ []
  refine loop_us (σ := Nat → Nat → Int32) (P := fun j i => (RS i a (swC n t j) ∧ ∀ z, ((z < a ∨ a + 18 ≤ z) ∧ (z < w ∨ w + 6 ≤ z)) → ∀ k, i z k = mI M z k) → J G base X 0 0 (wI M i) 2 [some (.ref w), some (.ref b), some (.ref a), some (.int (nI j)), none, none, none] []) (nv n 0) (fun j i hj ih hi => ?_) 0 (mI M) (Nat.zero_le _) ⟨hR, fun _ _ _ => rfl⟩
  obtain ⟨o1, -, o3, o4⟩ := swC_is hT hS hLt h4 (h := t) j hj
  have hsw := swpN_sm (n := n) (h := t) h4 j
  have hXe : ∀ q, q < 498 → q ≠ 4 → q ≠ 7 → (q < 33 ∨ 38 ≤ q) → swC n t j q = n q := fun q q1 q2 q3 q4 => (o1 q (by omega)).trans ((hsw.1 q q1 q2 q3).trans (rotN_eq q4))
  have hTi : TT i b n := hTT.kept (fun x hx hx2 k => hi.2 x (by omega) k)
  have htm : mI (wI M i) a 0 = nI t := hi.1.1.1.trans ((hXe 6 (by omega) (by omega) (by omega) (by omega)).trans ht6)
  have hwk : wkO n (i a 3 ^^^ -1) := (wk_of hi.1).eq (fun c hc => (hXe _ (by omega) (by omega) (by omega) (by omega)).symm)
  have hcb := cntB_le (f := grpB n t j) 5
  have hX2 : nv (swC n t j) 2 = nv n 2 := nv_eq (hXe 2 (by omega) (by omega) (by omega) (by omega))
  have hX1 : nv (swC n t j) 1 = nv n 1 := nv_eq (hXe 1 (by omega) (by omega) (by omega) (by omega))
  refine r_iload_n hX dX1_processHour_2 rfl ?_
  refine r_aload_n hX dX1_processHour_3 rfl ?_
  refine rn_geti (v := nI (nv n 0)) hX dX1_processHour_4 fl_X1_28 rfl (LX9_s hb) (hTi.1.trans h0.1) ?_
  refine rn_icmp_ge (tgt := 59) hX dX1_processHour_7 (by decide) rfl rfl (by omega) (by omega) (fun c7 => ?_) (fun c7 => ?_)
  · obtain rfl : j = nv n 0 := by omega
    exact fin i (by rw [← swC_end hT hS hLt h4]; exact hi.1) hi.2
  · refine r_aload_n hX dX1_processHour_10 rfl ?_
    refine r_aload_n hX dX1_processHour_11 rfl ?_
    refine rn_geti (v := nI t) hX dX1_processHour_12 fl_X1_34 rfl (LX8_s hL) htm ?_
    refine r_iload_n hX dX1_processHour_15 rfl ?_
    refine r_cV2 hX dX1_processHour_16 IX9_carriersStopping ml_X1_39 rfl (LX9_s hb) rfl (t_X9_carriersStopping (M := wI M i) hb (by omega) (by omega)) (by decide) (by decide) (by decide) (by decide) rfl (Nat.le_of_ble_eq_true rfl) ?_
    rw [show mI (wI M i) (b + 4) (t % 168 * 10 + j) = setB (gstN n t j) 5 from hTi.gs t (by omega)]
    refine r_aload_n hX dX1_processHour_19 rfl ?_
    refine r_geti hX dX1_processHour_20 fl_X1_43 rfl (LX8_s hL) ?_
    refine r_iconst (v := (-1)) hX dX1_processHour_23 (by decide) ?_
    refine r_ixor hX dX1_processHour_24 ?_
    refine r_iand hX dX1_processHour_25 ?_
    rw [show setB (gstN n t j) 5 &&& (mI (wI M i) a 3 ^^^ -1) = setB (grpB n t j) 5 from grp_set hT hwk (by omega)]
    refine r_istore4 hX dX1_processHour_26 rfl ?_
    refine r_aload_n hX dX1_processHour_28 rfl ?_
    refine r_iload_n hX dX1_processHour_29 rfl ?_
    refine r_cV1 hX dX1_processHour_30 IX9_hasOffice ml_X1_46 rfl (LX9_s hb) rfl (t_X9_hasOffice (M := wI M i) hb hTi h0) (by decide) (by decide) (by decide) (by decide) rfl (Nat.le_of_ble_eq_true rfl) ?_
    rw [itec (townP_t h0 (by omega))]
    refine rb_if_ne (tgt := 53) hX dX1_processHour_33 (by decide) rfl (fun c33 => ?_) (fun c33 => ?_)
    · refine rn_iinc3 hX dX1_processHour_53 rfl rfl ?_
      refine r_goto (tgt := 2) hX dX1_processHour_56 (by decide) ?_
      refine J.junk (ih (by omega) i ⟨?_, hi.2⟩) (by repeat first | exact trivial | refine ⟨rfl, ?_⟩)
      rw [swC_no (fun y => by rw [c33] at y; exact absurd y.1 (by decide))]
      exact hi.1
    · refine r_iload hX dX1_processHour_36 rfl ?_
      refine r_cS1 hX dX1_processHour_38 IJ6_bitCount_0f7a4 ml_X1_50 rfl (t_bitCount (M := wI M i)) (by decide) (by decide) (by decide) (by decide) rfl (Nat.le_of_ble_eq_true rfl) ?_
      rw [bcI_5]
      refine r_iconst (v := nI 2) hX dX1_processHour_41 (by decide) ?_
      refine rn_icmp_lt (tgt := 53) hX dX1_processHour_42 (by decide) rfl rfl (by omega) (by omega) (fun c42 => ?_) (fun c42 => ?_)
      · refine rn_iinc3 hX dX1_processHour_53 rfl rfl ?_
        refine r_goto (tgt := 2) hX dX1_processHour_56 (by decide) ?_
        refine J.junk (ih (by omega) i ⟨?_, hi.2⟩) (by repeat first | exact trivial | refine ⟨rfl, ?_⟩)
        rw [swC_no (fun y => absurd y.2 (by omega))]
        exact hi.1
      · have htf : town n j = false := by simpa using c33
        have hgm : ∀ c, c < 5 → grpB n t j c = true → c < nv (swC n t j) 1 := fun c hc5 hg => by
          rw [hX1]
          exact ((grpB_iff hT (by omega) hc5).mp hg).1
        have hnoX : ¬ noP (swC n t j) := noP_p (k := j) (by rw [nv_eq (hXe 0 (by omega) (by omega) (by omega) (by omega))]; omega)
        have hHold : HoldOk (swpG (swC n t j) (grpB n t j)) := hold_of hLt h15 (o3.rt hgm) ((nv_eq (swpG_o (by omega) (by omega))).trans hX2) (fun l hl f hf => by
          rw [swpG_o (by omega) (by omega), o1 _ (by omega)]
          exact swpN_f (by omega) hf j)
        
        refine r_aload_n hX dX1_processHour_45 rfl ?_
        refine r_aload_n hX dX1_processHour_46 rfl ?_
        refine r_iload_n hX dX1_processHour_47 rfl ?_
        refine r_iload hX dX1_processHour_48 rfl ?_
        refine r_iV3 hX dX1_processHour_50 IX1_swapSacks ml_X1_56 rfl (LX1_s hw) rfl (t_X1_swapSacks (M := wI M i) hw hL hi.1 hnoX hHold (p := j) (by omega)) (by decide) (by decide) (by decide) (by decide) rfl (Nat.le_of_ble_eq_true rfl) (fun i5 h5 => ?_)
        show J G base X _ _ (wI M i5) _ _ _
        
        refine rn_iinc3 hX dX1_processHour_53 rfl rfl ?_
        refine r_goto (tgt := 2) hX dX1_processHour_56 (by decide) ?_
        refine J.junk (ih (by omega) i5 ⟨?_, fun z hz k => (h5.2 z hz.1 k).trans (hi.2 z hz k)⟩) (by repeat first | exact trivial | refine ⟨rfl, ?_⟩)
        rw [swC_yes ⟨htf, by omega⟩, ← hX2]
        exact h5.1
