variable {G : GG} {base : Nat}
theorem sb2_is {n : Nat → Int32} {h p l : Nat} (hm : nv n 1 ≤ 5) (hl : LtL n l) (hne : ¬ sb2 n p (sbN n h p) l = -2) : sb2 n p (sbN n h p) l = -1 ∨ ∃ w, w < 5 ∧ sb2 n p (sbN n h p) l = nI w := by
  unfold sb2 at hne ⊢
  split at hne
  · exact absurd rfl hne
  · rename_i hd
    rw [if_neg hd]
    rcases sb_cases (h := h) (p := p) hm hl with ⟨q, -⟩ | ⟨q, -, -⟩ | ⟨w, q1, q2, -⟩
    · exact absurd q hne
    · exact Or.inl q
    · exact Or.inr ⟨w, by omega, q2⟩
theorem srtL_to {n : Nat → Int32} {h p : Nat} {sb : Nat → Int32} {l : Nat} (hl : l < 30) : ∀ k, (srtL n h p sb k).1 (498 + 10 * l + 1) = n (498 + 10 * l + 1)
  | 0 => rfl
  | k + 1 => by
    simp only [srtL]
    split
    · exact srtL_to hl k
    · by_cases e : l = k
      · subst e
        exact ((put_in hl).1 1 (by omega) (by omega) (by omega)).trans (srtL_to hl l)
      · exact (un_put e hl 1 (by omega)).trans (srtL_to hl k)
theorem swp_step {n : Nat → Int32} (hT : TbOk n) (hL : LtOk n) (h4 : Rn n 4 60) {h : Nat} (k : Nat) : LtOk (swpN n h k) ∧ ∀ l, l < nv n 2 → unL (swpN n h k) n l := by
  have hs := swpN_sm (n := n) (h := h) h4 k
  have e : ∀ q, q < 498 → q ≠ 4 → q ≠ 7 → (q < 33 ∨ 38 ≤ q) → swpN n h k q = n q := fun q a b c d => (hs.1 q a b c).trans (rotN_eq d)
  have h30 := hL.1.2
  have e2 : nv (swpN n h k) 2 = nv n 2 := by show (swpN n h k 2).toNatClampNeg = _; rw [e 2 (by omega) (by omega) (by omega) (by omega)]
  have e3 : nv (swpN n h k) 3 = nv n 3 := by show (swpN n h k 3).toNatClampNeg = _; rw [e 3 (by omega) (by omega) (by omega) (by omega)]
  have ht : tb3 (swpN n h k) n := ⟨hs.tab.tr rotN_tab, e 3 (by omega) (by omega) (by omega) (by omega)⟩
  have hu : ∀ l, l < nv n 2 → unL (swpN n h k) n l := fun l hl f hf => swpN_f (by omega) hf k
  refine ⟨⟨⟨by rw [e2, e 2 (by omega) (by omega) (by omega) (by omega)]; exact hL.1.1, by rw [e2]; exact h30⟩, ⟨by rw [e3, e 3 (by omega) (by omega) (by omega) (by omega)]; exact hL.2.1.1, by rw [e3]; exact hL.2.1.2⟩, fun l hl => ?_⟩, hu⟩
  rw [e2] at hl
  exact LtL.un ht hT.1.2 (hu l hl) (hL.2.2 l hl)
theorem vil_step {n : Nat → Int32} (hT : TbOk n) (hL : LtOk n) (h4 : Rn n 4 60) {h : Nat} : ∀ k, LtOk (vilN n h k).1 ∧ ∀ l, l < nv n 2 → n (498 + 10 * l + 3) = 3 → unL (vilN n h k).1 n l
  | 0 => ⟨hL, fun _ _ _ => unL.rf⟩
  | k + 1 => by
    obtain ⟨i1, i2⟩ := vil_step hT hL h4 (h := h) k
    have hs := vilN_sm (n := n) (h := h) h4 k
    simp only [vilN]
    split
    · rename_i htn
      have htx : town (vilN n h k).1 k = true := by rw [hs.t3.town hT.1.2]; exact htn
      obtain ⟨g1, g2⟩ := vis_step (hs.Tb hT) i1 hs.2 (h := h) htx
      refine ⟨g1, fun l hl h3 => ?_⟩
      have hu := i2 l hl h3
      exact (g2 l (by rw [hs.nv (by omega) (by omega) (by omega)]; exact hl) ((hu 3 (by omega)).trans h3)).tr hu
    · exact ⟨i1, i2⟩
set_option maxHeartbeats 2000000 in
set_option maxRecDepth 20000 in
theorem t_X11_visits {M : Mm} {a : Nat} {n : Nat → Int32} (hL : LX11 M.1 M.2.1 a) (hn : mI M (a + 1) = n) (hT : TbOk n) (hS : SkOk n) (hLt : LtOk n) (h4 : Rn n 4 60) {h p : Nat} (ht : n 6 = nI h) (hh : h < 900000) (hp : p < nv n 0) : Ct G base YX11_visits 8 0 0 [.ref a, .int (nI p)] M (rI (some (.int (nI (visC n h p)))) M (fun i => i (a + 1) = visN n h p ∧ ∀ x, x ≠ a + 1 → (x < a + 7 ∨ a + 13 ≤ x) → i x = mI M x)) := by
  refine Ct.of IX11_visits.1 (by simp [Value.category]) (Nat.le_of_ble_eq_true rfl) (fun X hX hN => ?_)
  show J G base X 0 0 M 0 [some (.ref a), some (.int (nI p)), none, none, none] []
  have h0 := hT.1
  have h1 := hT.2.1
  have hp10 := h0.2
  have hm5 := h1.2
  have h2n := hLt.1
  have h2b := h2n.2
  refine r_aload_n hX dX11_visits_0 rfl ?_
  refine r_iload_n hX dX11_visits_1 rfl ?_
  refine r_cV1 hX dX11_visits_2 IX11_carriersHere ml_X11_241 rfl (LX11_s hL) rfl (t_X11_carriersHere hL hn hT ht (by omega) (by omega)) (by decide) (by decide) (by decide) (by decide) rfl (Nat.le_of_ble_eq_true rfl) ?_
  refine r_istore2 hX dX11_visits_5 rfl ?_
  refine r_iload_n hX dX11_visits_6 rfl ?_
  refine r_if_ne (tgt := 12) hX dX11_visits_7 (by decide) (fun c7 => ?_) (fun c7 => ?_)
  · refine r_iconst (v := nI 0) hX dX11_visits_12 (by decide) ?_
    refine r_istore3 hX dX11_visits_13 rfl ?_
    show J G base X 0 0 (wI M (mI M)) 14 _ []
    have hz : anyB (grpB n h p) 5 = true := by
      cases e : anyB (grpB n h p) 5
      · exact absurd (cnt_any.mpr e) c7
      · rfl
    refine loop_us (σ := Nat → Nat → Int32) (P := fun j i => ((∀ s, s < j → i (a + 11) s = 0) ∧ ∀ x, x ≠ a + 11 → i x = mI M x) → J G base X 0 0 (wI M i) 14 [some (.ref a), some (.int (nI p)), some (.int (setB (grpB n h p) 5)), some (.int (nI j)), none] []) 5 (fun j i hj ih hi => ?_) 0 (mI M) (Nat.zero_le _) ⟨fun _ h => by omega, fun _ _ => rfl⟩
    refine r_iload_n hX dX11_visits_14 rfl ?_
    refine r_iconst (v := nI 5) hX dX11_visits_15 (by decide) ?_
    refine rn_icmp_ge (tgt := 32) hX dX11_visits_16 (by decide) rfl rfl (by omega) (by omega) (fun c16 => ?_) (fun c16 => ?_)
    · obtain rfl : j = 5 := by omega
      have k1 := hi.1
      have k2 := hi.2
      clear ih hi
      refine r_iconst (v := nI 0) hX dX11_visits_32 (by decide) ?_
      refine r_istore3 hX dX11_visits_33 rfl ?_
      refine loop_us (σ := Nat → Nat → Int32) (P := fun l i2 => ((∀ l', l' < l → i2 (a + 10) l' = sbN n h p l') ∧ ∀ x, x ≠ a + 10 → i2 x = i x) → J G base X 0 0 (wI M i2) 34 [some (.ref a), some (.int (nI p)), some (.int (setB (grpB n h p) 5)), some (.int (nI l)), none] []) (nv n 2) (fun l i2 hl ih hi => ?_) 0 i (Nat.zero_le _) ⟨fun _ h => by omega, fun _ _ => rfl⟩
      have hn2 : mI (wI M i2) (a + 1) = n := (hi.2 _ (by omega)).trans ((k2 _ (by omega)).trans hn)
      have hst : ∀ v, v = sbN n h p l → ∀ l', l' < l + 1 → mI (uI (wI M i2) (a + 10) l v) (a + 10) l' = sbN n h p l' := fun v hv l' hl' => by
        simp only [mI_uI, if_true]
        by_cases e : l' = l
        · rw [if_pos e, hv, e]
        · rw [if_neg e]; exact hi.1 l' (by omega)
      refine r_iload_n hX dX11_visits_34 rfl ?_
      refine r_aload_n hX dX11_visits_35 rfl ?_
      refine r_cV0 hX dX11_visits_36 IX11_letters ml_X11_170 rfl (LX11_s hL) rfl (t_X11_letters (M := wI M i2) hL hn2 h2n) (by decide) (by decide) (by decide) (by decide) rfl (Nat.le_of_ble_eq_true rfl) ?_
      refine rn_icmp_ge (tgt := 118) hX dX11_visits_39 (by decide) rfl rfl (by omega) (by omega) (fun c39 => ?_) (fun c39 => ?_)
      · obtain rfl : l = nv n 2 := by omega
        have g1 : ∀ l, l < nv n 2 → mI (wI M i2) (a + 10) l = sbN n h p l := hi.1
        have g2 : ∀ x, x ≠ a + 10 → x ≠ a + 11 → i2 x = mI M x := fun x hx hx2 => (hi.2 x hx).trans (k2 x hx2)
        have g3 : ∀ s, s < 5 → i2 (a + 11) s = 0 := fun s hs => by rw [hi.2 _ (by omega)]; exact k1 s hs
        clear ih hi k1 k2 hst
        refine r_aload_n hX dX11_visits_118 rfl ?_
        refine r_iload_n hX dX11_visits_119 rfl ?_
        refine r_iV1 hX dX11_visits_120 IX11_delivers ml_X11_265 rfl (LX11_s hL) rfl (t_X11_delivers (M := wI M i2) hL hn2 h2n hS h4 g1 (fun l hl hx => (sb_cases (h := h) (p := p) hm5 (hLt.2.2 l hl)).elim (fun q => absurd (by rw [q.1]; decide) hx) (fun q => q.elim (fun q => absurd (by rw [q.1]; decide) hx) (fun ⟨w, q1, q2, _⟩ => ⟨w, by omega, q2⟩))) (by omega)) (by decide) (by decide) (by decide) (by decide) rfl (Nat.le_of_ble_eq_true rfl) (fun i3 h3 => ?_)
        show J G base X _ _ (wI M i3) _ _ _
        generalize hy : delL n p (sbN n h p) (nv n 2) = y at h3
        have hsy : sm y n := by rw [← hy]; exact delL_sm h4 _
        have hn3 : mI (wI M i3) (a + 1) = y := h3.1
        have hTy := hsy.Tb hT
        have hSy := hsy.Sk hS
        have h6y : y 6 = nI h := (hsy.1 6 (by omega) (by omega) (by omega)).trans ht
        have hgy : grpB n h p = grpB y h p := grpB_eq hsy.tab.sm hT.2.2 hm5
        have e0 : nv y 0 = nv n 0 := hsy.nv (by omega) (by omega) (by omega)
        have e2 : nv y 2 = nv n 2 := hsy.nv (by omega) (by omega) (by omega)
        have h2y : Rn y 2 30 := hsy.Rn (by omega) (by omega) (by omega) h2n
        rw [hgy]
        refine r_istore3 hX dX11_visits_123 rfl ?_
        refine r_aload_n hX dX11_visits_124 rfl ?_
        refine r_iload_n hX dX11_visits_125 rfl ?_
        refine r_iload_n hX dX11_visits_126 rfl ?_
        refine r_iV2 hX dX11_visits_127 IX11_laysWays ml_X11_268 rfl (LX11_s hL) rfl (t_X11_laysWays (M := wI M i3) hL hn3 hTy hSy h6y hh (by omega)) (by decide) (by decide) (by decide) (by decide) rfl (Nat.le_of_ble_eq_true rfl) (fun i4 h4' => ?_)
        show J G base X _ _ (wI M i4) _ _ _
        have hn4 : i4 (a + 1) = y := (h4'.2.2 _ ⟨by omega, by omega, by omega, by omega⟩).trans hn3
        have f10 : ∀ l, l < nv n 2 → i4 (a + 10) l = sb2 n p (sbN n h p) l := fun l hl => by rw [h4'.2.2 _ ⟨by omega, by omega, by omega, by omega⟩]; exact h3.2.1 l hl
        have f11 : ∀ s, s < 5 → i4 (a + 11) s = 0 := fun s hs => by rw [h4'.2.2 _ ⟨by omega, by omega, by omega, by omega⟩]; exact (congrFun (h3.2.2 (a + 11) ⟨by omega, by omega⟩) s).trans (g3 s hs)
        have fo : ∀ x, x ≠ a + 1 → (x < a + 7 ∨ a + 13 ≤ x) → i4 x = mI M x := fun x hx hx2 => (h4'.2.2 x ⟨by omega, by omega, by omega, by omega⟩).trans ((h3.2.2 x ⟨by omega, by omega⟩).trans (g2 x (by omega) (by omega)))
        refine r_iconst (v := nI 0) hX dX11_visits_130 (by decide) ?_
        refine r_istore4 hX dX11_visits_131 rfl ?_
        refine loop_us (σ := Nat → Nat → Int32) (P := fun l i5 => (i5 (a + 1) = (srtL y h p (sb2 n p (sbN n h p)) l).1 ∧ (∀ s, s < 5 → i5 (a + 11) s = (srtL y h p (sb2 n p (sbN n h p)) l).2 s) ∧ ∀ x, x ≠ a + 1 ∧ x ≠ a + 11 → i5 x = i4 x) → J G base X 0 0 (wI M i5) 133 [some (.ref a), some (.int (nI p)), some (.int (setB (grpB y h p) 5)), some (.int (nI (cntB (dlB n p (sbN n h p)) (nv n 2)))), some (.int (nI l))] []) (nv n 2) (fun l i5 hl ih hi5 => ?_) 0 i4 (Nat.zero_le _) ⟨hn4, f11, fun _ _ => rfl⟩
        have hn5 : mI (wI M i5) (a + 1) = (srtL y h p (sb2 n p (sbN n h p)) l).1 := hi5.1
        have hsz := srtL_sm (n := y) (h := h) (p := p) (sb := sb2 n p (sbN n h p)) hsy.2 l
        have e2z : nv (srtL y h p (sb2 n p (sbN n h p)) l).1 2 = nv n 2 := (hsz.nv (by omega) (by omega) (by omega)).trans e2
        have h2z := hsz.Rn (by omega) (by omega) (by omega) h2y
        have f10' : l < nv n 2 → mI (wI M i5) (a + 10) l = sb2 n p (sbN n h p) l := fun hl => by show i5 (a + 10) l = _; rw [hi5.2.2 _ ⟨by omega, by omega⟩]; exact f10 l hl
        refine r_iload hX dX11_visits_133 rfl ?_
        refine r_aload_n hX dX11_visits_135 rfl ?_
        refine r_cV0 hX dX11_visits_136 IX11_letters ml_X11_170 rfl (LX11_s hL) rfl (t_X11_letters (M := wI M i5) hL hn5 h2z) (by decide) (by decide) (by decide) (by decide) rfl (Nat.le_of_ble_eq_true rfl) ?_
        rw [e2z]
        refine rn_icmp_ge (tgt := 168) hX dX11_visits_139 (by decide) rfl rfl (by omega) (by omega) (fun c139 => ?_) (fun c139 => ?_)
        · refine r_iload_n hX dX11_visits_168 rfl ?_
          refine r_ireturn hX rfl rfl dX11_visits_169 (by decide) (by decide) ?_
          obtain rfl : l = nv n 2 := by omega
          refine ⟨by rw [visC, if_pos hz], i5, rfl, ?_, fun x hx hx2 => (hi5.2.2 x ⟨hx, by omega⟩).trans (fo x hx hx2)⟩
          rw [visN, if_pos hz, hy]
          exact hi5.1
        · refine r_aload_n hX dX11_visits_142 rfl ?_
          refine r_getr hX dX11_visits_143 fl_X11_45 rfl (LX11_s hL) (LX11_r19 hL) ?_
          refine r_iload hX dX11_visits_146 rfl ?_
          refine rn_iald hX dX11_visits_148 (LX11_a19 hL) rfl (by omega) (by omega) ?_
          rw [f10' c139]
          refine r_bipush (v := (-2)) hX dX11_visits_149 (by decide) ?_
          refine r_icmp_eq (tgt := 162) hX dX11_visits_151 (by decide) (fun c151 => ?_) (fun c151 => ?_)
          · refine rn_iinc4 hX dX11_visits_162 rfl rfl ?_
            refine r_goto (tgt := 133) hX dX11_visits_165 (by decide) ?_
            refine ih (by omega) i5 ⟨?_, fun s hs => ?_, hi5.2.2⟩
            · simp only [srtL]
              rw [if_pos c151]
              exact hi5.1
            · simp only [srtL]
              rw [if_pos c151]
              exact hi5.2.1 s hs
          · obtain ⟨t, htn, hto⟩ : ∃ t, t < nv y 0 ∧ (srtL y h p (sb2 n p (sbN n h p)) l).1 (498 + 10 * l + 1) = nI t := by
              obtain ⟨f, t, v, s, w, k0, k1, k2, k3, k4, k5, k6, -⟩ := hLt.2.2 l c139
              have htb : t < nv n 0 ∧ n (8 + t) = 1 := by simpa [town] using k6
              exact ⟨t, by omega, by rw [srtL_to (by omega), ← hy, delL_f (by omega) (by omega)]; exact k1⟩
            have hby : ∀ s, s < 5 → s < nv y 1 → grpB y h p (ciN y s) = true → ∀ t, t < nv y 0 → mI (wI M i5) (a + 12) (10 * s + t) = wyN y h p (ciN y s) t := fun s q1 q2 q3 t q4 => by show i5 (a + 12) (10 * s + t) = _; rw [hi5.2.2 _ ⟨by omega, by omega⟩]; exact h4'.1 s q1 q2 q3 t q4
            have hb5 : ∀ t, t < nv y 0 → mI (wI M i5) (a + 12) (50 + t) = wyN y h p 5 t := fun t q4 => by show i5 (a + 12) (50 + t) = _; rw [hi5.2.2 _ ⟨by omega, by omega⟩]; exact h4'.2.1 t q4
            have hfl5 : ∀ s, s < 5 → mI (wI M i5) (a + 11) s = (srtL y h p (sb2 n p (sbN n h p)) l).2 s := hi5.2.1
            refine r_aload_n hX dX11_visits_154 rfl ?_
            refine r_iload hX dX11_visits_155 rfl ?_
            refine r_iload_n hX dX11_visits_157 rfl ?_
            refine r_iload_n hX dX11_visits_158 rfl ?_
            refine r_iV3 hX dX11_visits_159 IX11_sorts ml_X11_271 rfl (LX11_s hL) rfl (t_X11_sorts (M := wI M i5) hL hn5 hTy hSy hsz hby hb5 hfl5 (l := l) (t := t) (by omega) hto htn (by omega) rfl (by rw [f10' c139]; exact sb2_is hm5 (hLt.2.2 l c139) c151)) (by decide) (by decide) (by decide) (by decide) rfl (Nat.le_of_ble_eq_true rfl) (fun i6 h6 => ?_)
            show J G base X _ _ (wI M i6) _ _ _
            refine rn_iinc4 hX dX11_visits_162 rfl rfl ?_
            refine r_goto (tgt := 133) hX dX11_visits_165 (by decide) ?_
            refine ih (by omega) i6 ⟨?_, fun s hs => ?_, fun x hx => (h6.2.2 x hx).trans (hi5.2.2 x hx)⟩
            · rw [h6.1]
              have ent : nv y (498 + 10 * l + 1) = t := nv_of (((srtL_to (n := y) (h := h) (p := p) (sb := sb2 n p (sbN n h p)) (by omega) l).symm.trans hto)) (by omega)
              simp only [srtL]
              rw [if_neg c151, ent, f10' c139]
            · rw [h6.2.1 s hs]
              have ent : nv y (498 + 10 * l + 1) = t := nv_of (((srtL_to (n := y) (h := h) (p := p) (sb := sb2 n p (sbN n h p)) (by omega) l).symm.trans hto)) (by omega)
              simp only [srtL]
              rw [if_neg c151, ent]
      · refine r_aload_n hX dX11_visits_42 rfl ?_
        refine r_iload_n hX dX11_visits_43 rfl ?_
        refine r_iconst (v := nI 3) hX dX11_visits_44 (by decide) ?_
        refine r_cV2 hX dX11_visits_45 IX11_of ml_X11_67 rfl (LX11_s hL) rfl (t_X11_of (M := wI M i2) hL hn2 (by omega) (by decide)) (by decide) (by decide) (by decide) (by decide) rfl (Nat.le_of_ble_eq_true rfl) ?_
        refine r_iconst (v := 1) hX dX11_visits_48 (by decide) ?_
        refine r_icmp_ne (tgt := 73) hX dX11_visits_49 (by decide) (fun c49 => ?_) (fun c49 => ?_)
        · refine r_iconst (v := nI 0) hX dX11_visits_73 (by decide) ?_
          have hsb : ¬ (n (498 + 10 * l + 3) = 1 ∧ grpB n h p (hcN n l) = true) := by
            exact fun z => c49 z.1
          refine r_istore4 hX dX11_visits_74 rfl ?_
          refine r_aload_n hX dX11_visits_76 rfl ?_
          refine r_getr hX dX11_visits_77 fl_X11_45 rfl (LX11_s hL) (LX11_r19 hL) ?_
          refine r_iload_n hX dX11_visits_80 rfl ?_
          refine r_iload hX dX11_visits_81 rfl ?_
          refine rn_if_eq (tgt := 95) hX dX11_visits_83 (by decide) rfl (by omega) (fun c83 => ?_) (fun c83 => absurd rfl c83)
          refine r_aload_n hX dX11_visits_95 rfl ?_
          refine r_iload_n hX dX11_visits_96 rfl ?_
          refine r_iconst (v := nI 0) hX dX11_visits_97 (by decide) ?_
          refine r_iload_n hX dX11_visits_98 rfl ?_
          refine r_cV3 hX dX11_visits_99 IX11_isIn ml_X11_262 rfl (LX11_s hL) rfl (t_X11_isIn (M := wI M i2) hL hn2 (by omega)) (by decide) (by decide) (by decide) (by decide) rfl (Nat.le_of_ble_eq_true rfl) ?_
          refine rb_if_eq (tgt := 109) hX dX11_visits_102 (by decide) rfl (fun c102 => ?_) (fun c102 => ?_)
          · refine r_bipush (v := (-2)) hX dX11_visits_109 (by decide) ?_
            refine rn_iast hX dX11_visits_111 (LX11_a19 hL) rfl (by omega) (by omega) ?_
            refine rn_iinc3 hX dX11_visits_112 rfl rfl ?_
            refine r_goto (tgt := 34) hX dX11_visits_115 (by decide) ?_
            refine J.junk (ih (by omega) _ ⟨hst _ ?_, fun x hx => (uIo hx).trans (hi.2 x hx)⟩) (by repeat first | exact trivial | refine ⟨rfl, ?_⟩)
            unfold sbN
            rw [if_neg hsb]
            first
              | exact (if_pos c102).symm
              | exact (if_neg c102).symm
          · refine r_iconst (v := (-1)) hX dX11_visits_105 (by decide) ?_
            refine r_goto (tgt := 111) hX dX11_visits_106 (by decide) ?_
            refine rn_iast hX dX11_visits_111 (LX11_a19 hL) rfl (by omega) (by omega) ?_
            refine rn_iinc3 hX dX11_visits_112 rfl rfl ?_
            refine r_goto (tgt := 34) hX dX11_visits_115 (by decide) ?_
            refine J.junk (ih (by omega) _ ⟨hst _ ?_, fun x hx => (uIo hx).trans (hi.2 x hx)⟩) (by repeat first | exact trivial | refine ⟨rfl, ?_⟩)
            unfold sbN
            rw [if_neg hsb]
            first
              | exact (if_pos c102).symm
              | exact (if_neg c102).symm
        · obtain ⟨c, w, hc, hw, e4, e6, e5⟩ := hLt.sack hm5 hS c39 c49
          have hcy : hcN n l = c := hcN_is e4 e5 hc
          refine r_iload_n hX dX11_visits_52 rfl ?_
          refine r_aload_n hX dX11_visits_53 rfl ?_
          refine r_aload_n hX dX11_visits_54 rfl ?_
          refine r_iload_n hX dX11_visits_55 rfl ?_
          refine r_iconst (v := nI 4) hX dX11_visits_56 (by decide) ?_
          refine r_cV2 hX dX11_visits_57 IX11_of ml_X11_67 rfl (LX11_s hL) rfl (t_X11_of (M := wI M i2) hL hn2 (by omega) (by decide)) (by decide) (by decide) (by decide) (by decide) rfl (Nat.le_of_ble_eq_true rfl) ?_
          refine r_cV1 hX dX11_visits_60 IX11_carrierWith ml_X11_249 rfl (LX11_s hL) rfl (t_X11_cw (M := wI M i2) hL hn2 hS hc (e6.trans e4.symm)) (by decide) (by decide) (by decide) (by decide) rfl (Nat.le_of_ble_eq_true rfl) ?_
          refine r_cS2 hX dX11_visits_63 IX11_has ml_X11_160 rfl (t_X11_has (M := wI M i2) (by omega)) (by decide) (by decide) (by decide) (by decide) rfl (Nat.le_of_ble_eq_true rfl) ?_
          refine rb_if_eq (tgt := 73) hX dX11_visits_66 (by decide) rfl (fun c66 => ?_) (fun c66 => ?_)
          · refine r_iconst (v := nI 0) hX dX11_visits_73 (by decide) ?_
            have hsb : ¬ (n (498 + 10 * l + 3) = 1 ∧ grpB n h p (hcN n l) = true) := by
              rintro ⟨-, z⟩
              rw [hcy] at z
              exact c66 (by rw [bt_setB _ 5 (by omega), z, decide_eq_true hc]; rfl)
            refine r_istore4 hX dX11_visits_74 rfl ?_
            refine r_aload_n hX dX11_visits_76 rfl ?_
            refine r_getr hX dX11_visits_77 fl_X11_45 rfl (LX11_s hL) (LX11_r19 hL) ?_
            refine r_iload_n hX dX11_visits_80 rfl ?_
            refine r_iload hX dX11_visits_81 rfl ?_
            refine rn_if_eq (tgt := 95) hX dX11_visits_83 (by decide) rfl (by omega) (fun c83 => ?_) (fun c83 => absurd rfl c83)
            refine r_aload_n hX dX11_visits_95 rfl ?_
            refine r_iload_n hX dX11_visits_96 rfl ?_
            refine r_iconst (v := nI 0) hX dX11_visits_97 (by decide) ?_
            refine r_iload_n hX dX11_visits_98 rfl ?_
            refine r_cV3 hX dX11_visits_99 IX11_isIn ml_X11_262 rfl (LX11_s hL) rfl (t_X11_isIn (M := wI M i2) hL hn2 (by omega)) (by decide) (by decide) (by decide) (by decide) rfl (Nat.le_of_ble_eq_true rfl) ?_
            refine rb_if_eq (tgt := 109) hX dX11_visits_102 (by decide) rfl (fun c102 => ?_) (fun c102 => ?_)
            · refine r_bipush (v := (-2)) hX dX11_visits_109 (by decide) ?_
              refine rn_iast hX dX11_visits_111 (LX11_a19 hL) rfl (by omega) (by omega) ?_
              refine rn_iinc3 hX dX11_visits_112 rfl rfl ?_
              refine r_goto (tgt := 34) hX dX11_visits_115 (by decide) ?_
              refine J.junk (ih (by omega) _ ⟨hst _ ?_, fun x hx => (uIo hx).trans (hi.2 x hx)⟩) (by repeat first | exact trivial | refine ⟨rfl, ?_⟩)
              unfold sbN
              rw [if_neg hsb]
              first
                | exact (if_pos c102).symm
                | exact (if_neg c102).symm
            · refine r_iconst (v := (-1)) hX dX11_visits_105 (by decide) ?_
              refine r_goto (tgt := 111) hX dX11_visits_106 (by decide) ?_
              refine rn_iast hX dX11_visits_111 (LX11_a19 hL) rfl (by omega) (by omega) ?_
              refine rn_iinc3 hX dX11_visits_112 rfl rfl ?_
              refine r_goto (tgt := 34) hX dX11_visits_115 (by decide) ?_
              refine J.junk (ih (by omega) _ ⟨hst _ ?_, fun x hx => (uIo hx).trans (hi.2 x hx)⟩) (by repeat first | exact trivial | refine ⟨rfl, ?_⟩)
              unfold sbN
              rw [if_neg hsb]
              first
                | exact (if_pos c102).symm
                | exact (if_neg c102).symm
          · refine r_iconst (v := nI 1) hX dX11_visits_69 (by decide) ?_
            refine r_goto (tgt := 74) hX dX11_visits_70 (by decide) ?_
            have hsb : n (498 + 10 * l + 4) = sbN n h p l := by
              unfold sbN
              rw [if_pos ⟨c49, by rw [hcy]; have := c66; rw [bt_setB _ 5 (by omega)] at this; simpa [hc] using this⟩]
            refine r_istore4 hX dX11_visits_74 rfl ?_
            refine r_aload_n hX dX11_visits_76 rfl ?_
            refine r_getr hX dX11_visits_77 fl_X11_45 rfl (LX11_s hL) (LX11_r19 hL) ?_
            refine r_iload_n hX dX11_visits_80 rfl ?_
            refine r_iload hX dX11_visits_81 rfl ?_
            refine rn_if_eq (tgt := 95) hX dX11_visits_83 (by decide) rfl (by omega) (fun c83 => absurd c83 (by decide)) (fun c83 => ?_)
            refine r_aload_n hX dX11_visits_86 rfl ?_
            refine r_iload_n hX dX11_visits_87 rfl ?_
            refine r_iconst (v := nI 4) hX dX11_visits_88 (by decide) ?_
            refine r_cV2 hX dX11_visits_89 IX11_of ml_X11_67 rfl (LX11_s hL) rfl (t_X11_of (M := wI M i2) hL hn2 (by omega) (by decide)) (by decide) (by decide) (by decide) (by decide) rfl (Nat.le_of_ble_eq_true rfl) ?_
            refine r_goto (tgt := 111) hX dX11_visits_92 (by decide) ?_
            refine rn_iast hX dX11_visits_111 (LX11_a19 hL) rfl (by omega) (by omega) ?_
            refine rn_iinc3 hX dX11_visits_112 rfl rfl ?_
            refine r_goto (tgt := 34) hX dX11_visits_115 (by decide) ?_
            exact J.junk (ih (by omega) _ ⟨hst _ hsb, fun x hx => (uIo hx).trans (hi.2 x hx)⟩) (by repeat first | exact trivial | refine ⟨rfl, ?_⟩)
    · refine r_aload_n hX dX11_visits_19 rfl ?_
      refine r_getr hX dX11_visits_20 fl_X11_48 rfl (LX11_s hL) (LX11_r20 hL) ?_
      refine r_iload_n hX dX11_visits_23 rfl ?_
      refine r_iconst (v := nI 0) hX dX11_visits_24 (by decide) ?_
      refine rn_iast hX dX11_visits_25 (LX11_a20 hL) rfl (by omega) (by omega) ?_
      refine rn_iinc3 hX dX11_visits_26 rfl rfl ?_
      refine r_goto (tgt := 14) hX dX11_visits_29 (by decide) ?_
      refine ih (by omega) _ ⟨fun s hs => ?_, fun x hx => (uIo hx).trans (hi.2 x hx)⟩
      show mI (uI (wI M i) (a + 11) j (nI 0)) (a + 11) s = _
      simp only [mI_uI, if_true]
      by_cases e : s = j
      · rw [if_pos e]; rfl
      · rw [if_neg e]; exact hi.1 s (by omega)
  · refine r_iconst (v := 0) hX dX11_visits_10 (by decide) ?_
    refine r_ireturn hX rfl rfl dX11_visits_11 (by decide) (by decide) ?_
    have hz : ¬ anyB (grpB n h p) 5 = true := by
      rw [cnt_any.mp c7]
      decide
    refine ⟨?_, mI M, rfl, ?_, fun _ _ _ => rfl⟩
    · rw [visC, if_neg hz]; rfl
    · rw [visN, if_neg hz]; exact hn
