variable {G : GG} {base : Nat}
theorem bsF_is {n : Nat → Int32} {h p : Nat} {fl : Nat → Int32} {t : Nat} : ∀ k, bsF n h p fl t k = -1 ∨ ∃ s, s < k ∧ bsF n h p fl t k = nI s ∧ grpB n h p (ciN n s) = true ∧ fl s < n 5 ∧ ¬ wyN n h p (ciN n s) t = -1
  | 0 => Or.inl rfl
  | k + 1 => by
    simp only [bsF]
    split
    · rename_i hk
      exact Or.inr ⟨k, by omega, rfl, hk.1, hk.2.1, hk.2.2.1⟩
    · rcases bsF_is k with h | ⟨s, h1, h2⟩
      · exact Or.inl h
      · exact Or.inr ⟨s, by omega, h2⟩
theorem bstS_is {n : Nat → Int32} {h p : Nat} {fl : Nat → Int32} {t : Nat} : bstS n h p fl t = -1 ∨ ∃ s, s < nv n 1 ∧ bstS n h p fl t = nI s ∧ grpB n h p (ciN n s) = true := by
  unfold bstS
  split
  · rcases bsF_is (n := n) (h := h) (p := p) (fl := fl) (t := t) (nv n 1) with e | ⟨s, h1, h2, h3, -⟩
    · exact Or.inl e
    · exact Or.inr ⟨s, h1, h2, h3⟩
  · exact Or.inl rfl
set_option maxHeartbeats 2000000 in
set_option maxRecDepth 20000 in
theorem t_X11_bestSack {M : Mm} {a : Nat} {n x : Nat → Int32} (hL : LX11 M.1 M.2.1 a) (hn : mI M (a + 1) = x) (hT : TbOk n) (hS : SkOk n) {h p : Nat} {fl : Nat → Int32} (hx : sm x n) (hby : ∀ s, s < 5 → s < nv n 1 → grpB n h p (ciN n s) = true → ∀ t, t < nv n 0 → mI M (a + 12) (10 * s + t) = wyN n h p (ciN n s) t) (hb5 : ∀ t, t < nv n 0 → mI M (a + 12) (50 + t) = wyN n h p 5 t) (hfl : ∀ s, s < 5 → mI M (a + 11) s = fl s) {l t : Nat} (hl : l < 30) (ht : x (498 + 10 * l + 1) = nI t) (htn : t < nv n 0) : Ct G base YX11_bestSack 3 0 0 [.ref a, .int (nI l), .int (setB (grpB n h p) 5)] M (rE (some (.int (bstS n h p fl t))) M) := by
  refine Ct.of IX11_bestSack.1 (by simp [Value.category]) (Nat.le_of_ble_eq_true rfl) (fun X hX hN => ?_)
  show J G base X 0 0 M 0 [some (.ref a), some (.int (nI l)), some (.int (setB (grpB n h p) 5)), none, none, none, none] []
  refine r_aload_n hX dX11_bestSack_0 rfl ?_
  refine r_iload_n hX dX11_bestSack_1 rfl ?_
  refine r_iconst (v := nI 1) hX dX11_bestSack_2 (by decide) ?_
  refine r_cV2 hX dX11_bestSack_3 IX11_of ml_X11_67 rfl (LX11_s hL) rfl (t_X11_of (M := M) hL hn (by omega) (by decide)) (by decide) (by decide) (by decide) (by decide) rfl (Nat.le_of_ble_eq_true rfl) ?_
  rw [ht]
  refine r_istore3 hX dX11_bestSack_6 rfl ?_
  refine r_iconst (v := (-1)) hX dX11_bestSack_7 (by decide) ?_
  refine r_istore4 hX dX11_bestSack_8 rfl ?_
  refine r_iconst (v := nI 0) hX dX11_bestSack_10 (by decide) ?_
  refine r_istore5 hX dX11_bestSack_11 rfl ?_
  have h0 := hT.1
  have h1 := hT.2.1
  have hp10 := h0.2
  have hm5 := h1.2
  have hTx := hx.Tb hT
  have hSx := hx.Sk hS
  have e1 : nv x 1 = nv n 1 := hx.nv (by omega) (by omega) (by omega)
  have e5 : x 5 = n 5 := hx.1 5 (by omega) (by omega) (by omega)
  refine loop_up (P := fun s => J G base X 0 0 M 13 [some (.ref a), some (.int (nI l)), some (.int (setB (grpB n h p) 5)), some (.int (nI t)), some (.int (bsF n h p fl t s)), some (.int (nI s)), none] []) (nv n 1) (fun s hs ih => ?_) 0 (Nat.zero_le _)
  have hci : s < nv n 1 → ciN n s < 5 ∧ x (33 + ciN n s) = nI s := fun hs => by
    obtain ⟨g1, -, g3⟩ := ciN_of hS (s := s) (by omega)
    exact ⟨g1, by rw [hx.1 _ (by omega) (by omega) (by omega)]; exact g3⟩
  refine r_iload hX dX11_bestSack_13 rfl ?_
  refine r_aload_n hX dX11_bestSack_15 rfl ?_
  refine r_cV0 hX dX11_bestSack_16 IX11_carriers ml_X11_151 rfl (LX11_s hL) rfl (t_X11_carriers (M := M) hL hn hTx.2.1) (by decide) (by decide) (by decide) (by decide) rfl (Nat.le_of_ble_eq_true rfl) ?_
  rw [e1]
  refine rn_icmp_ge (tgt := 107) hX dX11_bestSack_19 (by decide) rfl rfl (by omega) (by omega) (fun c19 => ?_) (fun c19 => ?_)
  · obtain rfl : s = nv n 1 := by omega
    clear ih
    rcases bsF_is (n := n) (h := h) (p := p) (fl := fl) (t := t) (nv n 1) with eb | ⟨b, hb, eb, gb, -, -⟩
    · rw [eb]
      refine r_aload_n hX dX11_bestSack_107 rfl ?_
      refine r_getr hX dX11_bestSack_108 fl_X11_51 rfl (LX11_s hL) (LX11_r21 hL) ?_
      refine r_bipush (v := nI 50) hX dX11_bestSack_111 (by decide) ?_
      refine r_iload_n hX dX11_bestSack_113 rfl ?_
      refine rn_iadd hX dX11_bestSack_114 rfl rfl ?_
      refine rn_iald hX dX11_bestSack_115 (LX11_a21 hL) rfl (by omega) (by omega) ?_
      rw [hb5 t htn]
      refine r_istore5 hX dX11_bestSack_116 rfl ?_
      refine r_iload hX dX11_bestSack_118 rfl ?_
      refine r_iconst (v := (-1)) hX dX11_bestSack_120 (by decide) ?_
      refine r_icmp_eq (tgt := 152) hX dX11_bestSack_121 (by decide) (fun c121 => ?_) (fun c121 => absurd rfl c121)
      refine r_iconst (v := (-1)) hX dX11_bestSack_152 (by decide) ?_
      refine r_ireturn hX rfl rfl dX11_bestSack_153 (by decide) (by decide) ?_
      refine ⟨?_, rfl⟩
      unfold bstS
      rw [if_neg (fun z => z.1 eb)]
    · have hne : ¬ bsF n h p fl t (nv n 1) = -1 := by rw [eb]; exact nI_ne_m1 (by omega)
      have hcl : (bsF n h p fl t (nv n 1)).toNatClampNeg = b := by rw [eb]; exact nI_clamp (by omega)
      rw [eb]
      refine r_aload_n hX dX11_bestSack_107 rfl ?_
      refine r_getr hX dX11_bestSack_108 fl_X11_51 rfl (LX11_s hL) (LX11_r21 hL) ?_
      refine r_bipush (v := nI 50) hX dX11_bestSack_111 (by decide) ?_
      refine r_iload_n hX dX11_bestSack_113 rfl ?_
      refine rn_iadd hX dX11_bestSack_114 rfl rfl ?_
      refine rn_iald hX dX11_bestSack_115 (LX11_a21 hL) rfl (by omega) (by omega) ?_
      rw [hb5 t htn]
      refine r_istore5 hX dX11_bestSack_116 rfl ?_
      refine r_iload hX dX11_bestSack_118 rfl ?_
      refine r_iconst (v := (-1)) hX dX11_bestSack_120 (by decide) ?_
      refine r_icmp_eq (tgt := 152) hX dX11_bestSack_121 (by decide) (fun c121 => absurd c121 (nI_ne_m1 (by omega))) (fun c121 => ?_)
      refine r_iload hX dX11_bestSack_124 rfl ?_
      refine r_iconst (v := (-1)) hX dX11_bestSack_126 (by decide) ?_
      refine r_icmp_eq (tgt := 147) hX dX11_bestSack_127 (by decide) (fun c127 => ?_) (fun c127 => ?_)
      · refine r_iload hX dX11_bestSack_147 rfl ?_
        refine r_goto (tgt := 153) hX dX11_bestSack_149 (by decide) ?_
        refine r_ireturn hX rfl rfl dX11_bestSack_153 (by decide) (by decide) ?_
        refine ⟨?_, rfl⟩
        unfold bstS
        rw [hcl]
        first
          | (rw [if_pos ⟨hne, Or.inl c127⟩, eb]; done)
          | (rw [if_pos ⟨hne, Or.inr (i_nlt.mp c144)⟩, eb]; done)
          | (rw [if_neg (fun z => z.2.elim c127 (fun q => absurd c144 (i_nlt.mpr q)))]; done)
      · refine r_aload_n hX dX11_bestSack_130 rfl ?_
        refine r_getr hX dX11_bestSack_131 fl_X11_51 rfl (LX11_s hL) (LX11_r21 hL) ?_
        refine r_bipush (v := nI 10) hX dX11_bestSack_134 (by decide) ?_
        refine r_iload hX dX11_bestSack_136 rfl ?_
        refine rn_imul hX dX11_bestSack_138 rfl rfl ?_
        refine r_iload_n hX dX11_bestSack_139 rfl ?_
        refine rn_iadd hX dX11_bestSack_140 rfl rfl ?_
        refine rn_iald hX dX11_bestSack_141 (LX11_a21 hL) rfl (by omega) (by omega) ?_
        rw [hby b (by omega) (by omega) gb t htn]
        refine r_iload hX dX11_bestSack_142 rfl ?_
        refine r_icmp_gt (tgt := 152) hX dX11_bestSack_144 (by decide) (fun c144 => ?_) (fun c144 => ?_)
        · refine r_iconst (v := (-1)) hX dX11_bestSack_152 (by decide) ?_
          refine r_ireturn hX rfl rfl dX11_bestSack_153 (by decide) (by decide) ?_
          refine ⟨?_, rfl⟩
          unfold bstS
          rw [hcl]
          first
            | (rw [if_pos ⟨hne, Or.inl c127⟩, eb]; done)
            | (rw [if_pos ⟨hne, Or.inr (i_nlt.mp c144)⟩, eb]; done)
            | (rw [if_neg (fun z => z.2.elim c127 (fun q => absurd c144 (i_nlt.mpr q)))]; done)
        · refine r_iload hX dX11_bestSack_147 rfl ?_
          refine r_goto (tgt := 153) hX dX11_bestSack_149 (by decide) ?_
          refine r_ireturn hX rfl rfl dX11_bestSack_153 (by decide) (by decide) ?_
          refine ⟨?_, rfl⟩
          unfold bstS
          rw [hcl]
          first
            | (rw [if_pos ⟨hne, Or.inl c127⟩, eb]; done)
            | (rw [if_pos ⟨hne, Or.inr (i_nlt.mp c144)⟩, eb]; done)
            | (rw [if_neg (fun z => z.2.elim c127 (fun q => absurd c144 (i_nlt.mpr q)))]; done)
  · refine r_aload_n hX dX11_bestSack_22 rfl ?_
    refine r_getr hX dX11_bestSack_23 fl_X11_51 rfl (LX11_s hL) (LX11_r21 hL) ?_
    refine r_bipush (v := nI 10) hX dX11_bestSack_26 (by decide) ?_
    refine r_iload hX dX11_bestSack_28 rfl ?_
    refine rn_imul hX dX11_bestSack_30 rfl rfl ?_
    refine r_iload_n hX dX11_bestSack_31 rfl ?_
    refine rn_iadd hX dX11_bestSack_32 rfl rfl ?_
    refine rn_iald hX dX11_bestSack_33 (LX11_a21 hL) rfl (by omega) (by omega) ?_
    refine r_istore6 hX dX11_bestSack_34 rfl ?_
    refine r_iload_n hX dX11_bestSack_36 rfl ?_
    refine r_aload_n hX dX11_bestSack_37 rfl ?_
    refine r_iload hX dX11_bestSack_38 rfl ?_
    refine r_cV1 hX dX11_bestSack_40 IX11_carrierWith ml_X11_249 rfl (LX11_s hL) rfl (t_X11_cw (M := M) hL hn hSx (hci c19).1 (hci c19).2) (by decide) (by decide) (by decide) (by decide) rfl (Nat.le_of_ble_eq_true rfl) ?_
    refine r_cS2 hX dX11_bestSack_43 IX11_has ml_X11_160 rfl (t_X11_has (M := M) (by have := (hci c19).1; omega)) (by decide) (by decide) (by decide) (by decide) rfl (Nat.le_of_ble_eq_true rfl) ?_
    refine rb_if_eq (tgt := 101) hX dX11_bestSack_46 (by decide) rfl (fun c46 => ?_) (fun c46 => ?_)
    · have hbs : bsF n h p fl t (s + 1) = bsF n h p fl t s := by
        simp only [bsF]
        rw [if_neg]
        rintro ⟨z, -⟩
        exact c46 (by rw [bt_setB _ 5 (by omega), z, decide_eq_true (hci c19).1]; rfl)
      refine rn_iinc5 hX dX11_bestSack_101 rfl rfl ?_
      refine r_goto (tgt := 13) hX dX11_bestSack_104 (by decide) ?_
      first
        | rw [← hbs]
        | rw [← eb, ← hbs]
      exact J.junk (ih (by omega)) (by repeat first | exact trivial | refine ⟨rfl, ?_⟩)
    · have hg : grpB n h p (ciN n s) = true := by
        have := c46
        rw [bt_setB _ 5 (by omega)] at this
        simpa [(hci c19).1] using this
      rw [show mI M (a + 12) (10 * s + t) = wyN n h p (ciN n s) t from hby s (by omega) c19 hg t htn]
      refine r_aload_n hX dX11_bestSack_49 rfl ?_
      refine r_getr hX dX11_bestSack_50 fl_X11_48 rfl (LX11_s hL) (LX11_r20 hL) ?_
      refine r_iload hX dX11_bestSack_53 rfl ?_
      refine rn_iald hX dX11_bestSack_55 (LX11_a20 hL) rfl (by omega) (by omega) ?_
      rw [hfl s (by omega)]
      refine r_aload_n hX dX11_bestSack_56 rfl ?_
      refine r_getr hX dX11_bestSack_57 fl_X11_13 rfl (LX11_s hL) (LX11_r1 hL) ?_
      refine r_iconst (v := nI 5) hX dX11_bestSack_60 (by decide) ?_
      refine rn_iald hX dX11_bestSack_61 (LX11_a1 hL) rfl (by omega) (by omega) ?_
      rw [hn]
      rw [e5]
      refine r_icmp_lt (tgt := 68) hX dX11_bestSack_62 (by decide) (fun c62 => ?_) (fun c62 => ?_)
      · refine r_iload hX dX11_bestSack_68 rfl ?_
        refine r_iconst (v := (-1)) hX dX11_bestSack_70 (by decide) ?_
        refine r_icmp_eq (tgt := 101) hX dX11_bestSack_71 (by decide) (fun c71 => ?_) (fun c71 => ?_)
        · have hbs : bsF n h p fl t (s + 1) = bsF n h p fl t s := by
            simp only [bsF]
            rw [if_neg]
            exact fun z => z.2.2.1 c71
          refine rn_iinc5 hX dX11_bestSack_101 rfl rfl ?_
          refine r_goto (tgt := 13) hX dX11_bestSack_104 (by decide) ?_
          first
            | rw [← hbs]
            | rw [← eb, ← hbs]
          exact J.junk (ih (by omega)) (by repeat first | exact trivial | refine ⟨rfl, ?_⟩)
        · refine r_iload hX dX11_bestSack_74 rfl ?_
          refine r_iconst (v := (-1)) hX dX11_bestSack_76 (by decide) ?_
          refine r_icmp_eq (tgt := 97) hX dX11_bestSack_77 (by decide) (fun c77 => ?_) (fun c77 => ?_)
          · have hbs : bsF n h p fl t (s + 1) = nI s := by
              simp only [bsF]
              rw [if_pos]
              exact ⟨hg, c62, c71, Or.inl c77⟩
            refine r_iload hX dX11_bestSack_97 rfl ?_
            refine r_istore4 hX dX11_bestSack_99 rfl ?_
            refine rn_iinc5 hX dX11_bestSack_101 rfl rfl ?_
            refine r_goto (tgt := 13) hX dX11_bestSack_104 (by decide) ?_
            first
              | rw [← hbs]
              | rw [← eb, ← hbs]
            exact J.junk (ih (by omega)) (by repeat first | exact trivial | refine ⟨rfl, ?_⟩)
          · obtain ⟨b, hb, eb, gb, -, -⟩ : ∃ b, b < s ∧ bsF n h p fl t s = nI b ∧ grpB n h p (ciN n b) = true ∧ fl b < n 5 ∧ ¬ wyN n h p (ciN n b) t = -1 := by
              rcases bsF_is (n := n) (h := h) (p := p) (fl := fl) (t := t) s with e | e
              · exact absurd e c77
              · exact e
            have hcl : (bsF n h p fl t s).toNatClampNeg = b := by rw [eb]; exact nI_clamp (by omega)
            rw [eb]
            refine r_iload hX dX11_bestSack_80 rfl ?_
            refine r_aload_n hX dX11_bestSack_82 rfl ?_
            refine r_getr hX dX11_bestSack_83 fl_X11_51 rfl (LX11_s hL) (LX11_r21 hL) ?_
            refine r_bipush (v := nI 10) hX dX11_bestSack_86 (by decide) ?_
            refine r_iload hX dX11_bestSack_88 rfl ?_
            refine rn_imul hX dX11_bestSack_90 rfl rfl ?_
            refine r_iload_n hX dX11_bestSack_91 rfl ?_
            refine rn_iadd hX dX11_bestSack_92 rfl rfl ?_
            refine rn_iald hX dX11_bestSack_93 (LX11_a21 hL) rfl (by omega) (by omega) ?_
            rw [hby b (by omega) (by omega) gb t htn]
            refine r_icmp_ge (tgt := 101) hX dX11_bestSack_94 (by decide) (fun c94 => ?_) (fun c94 => ?_)
            · have hbs : bsF n h p fl t (s + 1) = bsF n h p fl t s := by
                simp only [bsF]
                rw [if_neg]
                rw [hcl]
                exact fun z => z.2.2.2.elim c77 (fun q => absurd q (i_nlt.mpr c94))
              refine rn_iinc5 hX dX11_bestSack_101 rfl rfl ?_
              refine r_goto (tgt := 13) hX dX11_bestSack_104 (by decide) ?_
              first
                | rw [← hbs]
                | rw [← eb, ← hbs]
              exact J.junk (ih (by omega)) (by repeat first | exact trivial | refine ⟨rfl, ?_⟩)
            · have hbs : bsF n h p fl t (s + 1) = nI s := by
                simp only [bsF]
                rw [if_pos]
                rw [hcl]
                exact ⟨hg, c62, c71, Or.inr (i_nle.mp c94)⟩
              refine r_iload hX dX11_bestSack_97 rfl ?_
              refine r_istore4 hX dX11_bestSack_99 rfl ?_
              refine rn_iinc5 hX dX11_bestSack_101 rfl rfl ?_
              refine r_goto (tgt := 13) hX dX11_bestSack_104 (by decide) ?_
              first
                | rw [← hbs]
                | rw [← eb, ← hbs]
              exact J.junk (ih (by omega)) (by repeat first | exact trivial | refine ⟨rfl, ?_⟩)
      · refine r_goto (tgt := 101) hX dX11_bestSack_65 (by decide) ?_
        have hbs : bsF n h p fl t (s + 1) = bsF n h p fl t s := by
          simp only [bsF]
          rw [if_neg]
          exact fun z => c62 z.2.1
        refine rn_iinc5 hX dX11_bestSack_101 rfl rfl ?_
        refine r_goto (tgt := 13) hX dX11_bestSack_104 (by decide) ?_
        first
          | rw [← hbs]
          | rw [← eb, ← hbs]
        exact J.junk (ih (by omega)) (by repeat first | exact trivial | refine ⟨rfl, ?_⟩)
set_option maxHeartbeats 2000000 in
set_option maxRecDepth 20000 in
theorem t_X11_sorts {M : Mm} {a : Nat} {n x : Nat → Int32} (hL : LX11 M.1 M.2.1 a) (hn : mI M (a + 1) = x) (hT : TbOk n) (hS : SkOk n) {h p : Nat} {fl : Nat → Int32} (hx : sm x n) (hby : ∀ s, s < 5 → s < nv n 1 → grpB n h p (ciN n s) = true → ∀ t, t < nv n 0 → mI M (a + 12) (10 * s + t) = wyN n h p (ciN n s) t) (hb5 : ∀ t, t < nv n 0 → mI M (a + 12) (50 + t) = wyN n h p 5 t) (hfl : ∀ s, s < 5 → mI M (a + 11) s = fl s) {l t : Nat} (hl : l < 30) (ht : x (498 + 10 * l + 1) = nI t) (htn : t < nv n 0) (hp : p < 10) {o : Int32} (ho : mI M (a + 10) l = o) (hok : o = -1 ∨ ∃ w, w < 5 ∧ o = nI w) : Ct G base YX11_sorts 4 0 0 [.ref a, .int (nI l), .int (nI p), .int (setB (grpB n h p) 5)] M (rI none M (fun i => i (a + 1) = putN x l p o (bstS n h p fl t) ∧ (∀ s, s < 5 → i (a + 11) s = (if bstS n h p fl t = -1 then fl else upd fl (bstS n h p fl t).toNatClampNeg (fl (bstS n h p fl t).toNatClampNeg + 1)) s) ∧ ∀ y, y ≠ a + 1 ∧ y ≠ a + 11 → i y = mI M y)) := by
  refine Ct.of IX11_sorts.1 (by simp [Value.category]) (Nat.le_of_ble_eq_true rfl) (fun X hX hN => ?_)
  show J G base X 0 0 M 0 [some (.ref a), some (.int (nI l)), some (.int (nI p)), some (.int (setB (grpB n h p) 5)), none] []
  refine r_aload_n hX dX11_sorts_0 rfl ?_
  refine r_iload_n hX dX11_sorts_1 rfl ?_
  refine r_iload_n hX dX11_sorts_2 rfl ?_
  refine r_cV2 hX dX11_sorts_3 IX11_bestSack ml_X11_259 rfl (LX11_s hL) rfl (t_X11_bestSack (M := M) hL hn hT hS hx hby hb5 hfl hl ht htn) (by decide) (by decide) (by decide) (by decide) rfl (Nat.le_of_ble_eq_true rfl) ?_
  refine r_istore4 hX dX11_sorts_6 rfl ?_
  have h0 := hT.1
  have h1 := hT.2.1
  have hp10 := h0.2
  have hm5 := h1.2
  have hSx := hx.Sk hS
  have hs0 := hx.lies l 0 (nI p)
  have hS0 := hs0.Sk hS
  rcases bstS_is (n := n) (h := h) (p := p) (fl := fl) (t := t) with eb | ⟨b, hb, eb, gb⟩
  · rw [eb]
    refine r_iload hX dX11_sorts_8 rfl ?_
    refine r_iconst (v := (-1)) hX dX11_sorts_10 (by decide) ?_
    refine r_icmp_ne (tgt := 49) hX dX11_sorts_11 (by decide) (fun c11 => absurd rfl c11) (fun c11 => ?_)
    refine r_aload_n hX dX11_sorts_14 rfl ?_
    refine r_iload_n hX dX11_sorts_15 rfl ?_
    refine r_iconst (v := nI 0) hX dX11_sorts_16 (by decide) ?_
    refine r_iload_n hX dX11_sorts_17 rfl ?_
    refine r_iV3 hX dX11_sorts_18 IX11_lies ml_X11_222 rfl (LX11_s hL) rfl (t_X11_lies (M := M) hL hn (by omega)) (by decide) (by decide) (by decide) (by decide) rfl (Nat.le_of_ble_eq_true rfl) (fun i18 h18 => ?_)
    show J G base X _ _ (wI M i18) _ _ _
    have hn18 : mI (wI M i18) (a + 1) = _ := h18.1
    refine r_aload_n hX dX11_sorts_21 rfl ?_
    refine r_getr hX dX11_sorts_22 fl_X11_45 rfl (LX11_s hL) (LX11_r19 hL) ?_
    refine r_iload_n hX dX11_sorts_25 rfl ?_
    refine rn_iald hX dX11_sorts_26 (LX11_a19 hL) rfl (by omega) (by omega) ?_
    rw [show mI (wI M i18) (a + 10) l = o from (congrFun (h18.2 (a + 10) (by omega)) l).trans ho]
    refine r_iconst (v := (-1)) hX dX11_sorts_27 (by decide) ?_
    refine r_icmp_eq (tgt := 48) hX dX11_sorts_28 (by decide) (fun c28 => ?_) (fun c28 => ?_)
    · refine r_return hX rfl dX11_sorts_48 (by decide) (by decide) ?_
      first
        | (refine ⟨rfl, i18, rfl, ?_, fun s hs => ?_, fun y hy => h18.2 y hy.1⟩
           · rw [h18.1, eb]
             unfold putN
             rw [if_pos rfl, if_pos c28]
             first | done | rfl
           · rw [eb, if_pos rfl, h18.2 (a + 11) (by omega)]
             exact hfl s hs)
        | (refine ⟨rfl, i45, rfl, ?_, fun s hs => ?_, fun y hy => (h45.2 y hy.1).trans (h18.2 y hy.1)⟩
           · rw [h45.1, eb]
             unfold putN
             rw [if_pos rfl, if_neg c28, e5]
             first | done | rfl
           · rw [eb, if_pos rfl, show i45 (a + 11) = mI M (a + 11) from (h45.2 _ (by omega)).trans (h18.2 _ (by omega))]
             exact hfl s hs)
    · obtain ⟨w, hw, ew⟩ := hok.resolve_left c28
      obtain ⟨c, hc, e5, e6⟩ := crS_of hS0 (s := w) hw
      rw [← ew] at e5 e6
      refine r_aload_n hX dX11_sorts_31 rfl ?_
      refine r_iload_n hX dX11_sorts_32 rfl ?_
      refine r_iconst (v := nI 1) hX dX11_sorts_33 (by decide) ?_
      refine r_aload_n hX dX11_sorts_34 rfl ?_
      refine r_aload_n hX dX11_sorts_35 rfl ?_
      refine r_getr hX dX11_sorts_36 fl_X11_45 rfl (LX11_s hL) (LX11_r19 hL) ?_
      refine r_iload_n hX dX11_sorts_39 rfl ?_
      refine rn_iald hX dX11_sorts_40 (LX11_a19 hL) rfl (by omega) (by omega) ?_
      rw [show mI (wI M i18) (a + 10) l = o from (congrFun (h18.2 (a + 10) (by omega)) l).trans ho]
      refine r_cV1 hX dX11_sorts_41 IX11_carrierWith ml_X11_249 rfl (LX11_s hL) rfl (t_X11_cw (M := wI M i18) hL hn18 hS0 hc e6) (by decide) (by decide) (by decide) (by decide) rfl (Nat.le_of_ble_eq_true rfl) ?_
      refine r_iload_n hX dX11_sorts_44 rfl ?_
      refine r_iV4 hX dX11_sorts_45 IX11_writes ml_X11_255 rfl (LX11_s hL) rfl (t_X11_writes (M := wI M i18) hL hn18 (by omega) hs0.2) (by decide) (by decide) (by decide) (by decide) rfl (Nat.le_of_ble_eq_true rfl) (fun i45 h45 => ?_)
      show J G base X _ _ (wI M i45) _ _ _
      have hn45 : mI (wI M i45) (a + 1) = _ := h45.1
      refine r_return hX rfl dX11_sorts_48 (by decide) (by decide) ?_
      first
        | (refine ⟨rfl, i18, rfl, ?_, fun s hs => ?_, fun y hy => h18.2 y hy.1⟩
           · rw [h18.1, eb]
             unfold putN
             rw [if_pos rfl, if_pos c28]
             first | done | rfl
           · rw [eb, if_pos rfl, h18.2 (a + 11) (by omega)]
             exact hfl s hs)
        | (refine ⟨rfl, i45, rfl, ?_, fun s hs => ?_, fun y hy => (h45.2 y hy.1).trans (h18.2 y hy.1)⟩
           · rw [h45.1, eb]
             unfold putN
             rw [if_pos rfl, if_neg c28, e5]
             first | done | rfl
           · rw [eb, if_pos rfl, show i45 (a + 11) = mI M (a + 11) from (h45.2 _ (by omega)).trans (h18.2 _ (by omega))]
             exact hfl s hs)
  · have hne : ¬ bstS n h p fl t = -1 := by rw [eb]; exact nI_ne_m1 (by omega)
    have hcl : (bstS n h p fl t).toNatClampNeg = b := by rw [eb]; exact nI_clamp (by omega)
    obtain ⟨c, hc, e5, e6⟩ := crS_of hSx (s := b) (by omega)
    have hs1 := hx.lies l 1 (nI b)
    have hS1 := hs1.Sk hS
    have hs2 := hs1.up (q := 498 + 10 * l + 9) (by omega) (liesN x l 1 (nI b) (498 + 10 * l + 9) ||| b1 c)
    have hS2 := hs2.Sk hS
    rw [eb]
    refine r_iload hX dX11_sorts_8 rfl ?_
    refine r_iconst (v := (-1)) hX dX11_sorts_10 (by decide) ?_
    refine r_icmp_ne (tgt := 49) hX dX11_sorts_11 (by decide) (fun c11 => ?_) (fun c11 => absurd c11 (nI_ne_m1 (by omega)))
    refine r_aload_n hX dX11_sorts_49 rfl ?_
    refine r_iload_n hX dX11_sorts_50 rfl ?_
    refine r_iconst (v := nI 1) hX dX11_sorts_51 (by decide) ?_
    refine r_iload hX dX11_sorts_52 rfl ?_
    refine r_iV3 hX dX11_sorts_54 IX11_lies ml_X11_222 rfl (LX11_s hL) rfl (t_X11_lies (M := M) hL hn (by omega)) (by decide) (by decide) (by decide) (by decide) rfl (Nat.le_of_ble_eq_true rfl) (fun i54 h54 => ?_)
    show J G base X _ _ (wI M i54) _ _ _
    have hn54 : mI (wI M i54) (a + 1) = _ := h54.1
    refine r_aload_n hX dX11_sorts_57 rfl ?_
    refine r_getr hX dX11_sorts_58 fl_X11_48 rfl (LX11_s hL) (LX11_r20 hL) ?_
    refine r_iload hX dX11_sorts_61 rfl ?_
    refine r_dup2 hX dX11_sorts_63 rfl rfl ?_
    refine rn_iald hX dX11_sorts_64 (LX11_a20 hL) rfl (by omega) (by omega) ?_
    rw [show mI (wI M i54) (a + 11) b = fl b from (congrFun (h54.2 (a + 11) (by omega)) b).trans (hfl b (by omega))]
    refine r_iconst (v := nI 1) hX dX11_sorts_65 (by decide) ?_
    refine r_iadd hX dX11_sorts_66 ?_
    refine rn_iast hX dX11_sorts_67 (LX11_a20 hL) rfl (by omega) (by omega) ?_
    refine J.gen (M0 := M) rfl (fun i6 h6 => ?_)
    have hn6 : mI (wI M i6) (a + 1) = liesN x l 1 (nI b) := by
      funext q
      show i6 (a + 1) q = _
      rw [h6, congrFun (uIo (by omega)) q]
      exact congrFun hn54 q
    have f11 : ∀ s, i6 (a + 11) s = if s = b then fl b + 1 else mI M (a + 11) s := fun s => by
      rw [h6]
      simp only [mI_uI, if_true]
      rw [show mI (wI M i54) (a + 11) s = mI M (a + 11) s from congrFun (h54.2 (a + 11) (by omega)) s]
      rfl
    have f6 : ∀ y, y ≠ a + 1 → y ≠ a + 11 → i6 y = mI M y := fun y h1 h2 => by
      funext q
      rw [h6, congrFun (uIo h2) q]
      exact congrFun (h54.2 y h1) q
    refine r_aload_n hX dX11_sorts_68 rfl ?_
    refine r_iload_n hX dX11_sorts_69 rfl ?_
    refine r_aload_n hX dX11_sorts_70 rfl ?_
    refine r_iload hX dX11_sorts_71 rfl ?_
    refine r_cV1 hX dX11_sorts_73 IX11_carrierWith ml_X11_249 rfl (LX11_s hL) rfl (t_X11_cw (M := wI M i6) hL hn6 hS1 hc ((hs1.1 _ (by omega) (by omega) (by omega)).trans ((hx.1 _ (by omega) (by omega) (by omega)).symm.trans e6))) (by decide) (by decide) (by decide) (by decide) rfl (Nat.le_of_ble_eq_true rfl) ?_
    refine r_iV2 hX dX11_sorts_76 IX11_traces ml_X11_252 rfl (LX11_s hL) rfl (t_X11_traces (M := wI M i6) hL hn6 (by omega) hc) (by decide) (by decide) (by decide) (by decide) rfl (Nat.le_of_ble_eq_true rfl) (fun i76 h76 => ?_)
    show J G base X _ _ (wI M i76) _ _ _
    have hn76 : mI (wI M i76) (a + 1) = _ := h76.1
    refine r_aload_n hX dX11_sorts_79 rfl ?_
    refine r_getr hX dX11_sorts_80 fl_X11_45 rfl (LX11_s hL) (LX11_r19 hL) ?_
    refine r_iload_n hX dX11_sorts_83 rfl ?_
    refine rn_iald hX dX11_sorts_84 (LX11_a19 hL) rfl (by omega) (by omega) ?_
    rw [show mI (wI M i76) (a + 10) l = o from (congrFun ((h76.2 (a + 10) (by omega)).trans (f6 (a + 10) (by omega) (by omega))) l).trans ho]
    refine r_iload hX dX11_sorts_85 rfl ?_
    refine r_icmp_eq (tgt := 103) hX dX11_sorts_87 (by decide) (fun c87 => ?_) (fun c87 => ?_)
    · refine r_return hX rfl dX11_sorts_103 (by decide) (by decide) ?_
      have hcc : (crS x (nI b)).toNatClampNeg = c := by rw [e5]; exact nI_clamp (by omega)
      have hff : ∀ s, s < 5 → i6 (a + 11) s = (if nI b = -1 then fl else upd fl (nI b).toNatClampNeg (fl (nI b).toNatClampNeg + 1)) s := fun s hs => by
        rw [if_neg (nI_ne_m1 (by omega)), nI_clamp (by omega), f11 s]
        simp only [upd]
        split
        · rfl
        · exact hfl s hs
      first
        | (refine ⟨rfl, i76, rfl, ?_, fun s hs => ?_, fun y hy => (h76.2 y hy.1).trans (f6 y hy.1 hy.2)⟩
           · rw [h76.1, eb]
             unfold putN
             rw [if_neg (nI_ne_m1 (show b < 2147483648 by omega)), if_pos c87, hcc]
             first | done | rfl
           · rw [eb, h76.2 (a + 11) (by omega)]
             exact hff s hs)
        | (refine ⟨rfl, i100, rfl, ?_, fun s hs => ?_, fun y hy => (h100.2 y hy.1).trans ((h76.2 y hy.1).trans (f6 y hy.1 hy.2))⟩
           · rw [h100.1, eb]
             unfold putN
             rw [if_neg (nI_ne_m1 (show b < 2147483648 by omega)), if_neg c87, hcc, e5]
             first | done | rfl
           · rw [eb, show i100 (a + 11) = i6 (a + 11) from (h100.2 _ (by omega)).trans (h76.2 _ (by omega))]
             exact hff s hs)
    · refine r_aload_n hX dX11_sorts_90 rfl ?_
      refine r_iload_n hX dX11_sorts_91 rfl ?_
      refine r_iconst (v := nI 0) hX dX11_sorts_92 (by decide) ?_
      refine r_aload_n hX dX11_sorts_93 rfl ?_
      refine r_iload hX dX11_sorts_94 rfl ?_
      refine r_cV1 hX dX11_sorts_96 IX11_carrierWith ml_X11_249 rfl (LX11_s hL) rfl (t_X11_cw (M := wI M i76) hL hn76 hS2 hc ((hs2.1 _ (by omega) (by omega) (by omega)).trans ((hx.1 _ (by omega) (by omega) (by omega)).symm.trans e6))) (by decide) (by decide) (by decide) (by decide) rfl (Nat.le_of_ble_eq_true rfl) ?_
      refine r_iload_n hX dX11_sorts_99 rfl ?_
      refine r_iV4 hX dX11_sorts_100 IX11_writes ml_X11_255 rfl (LX11_s hL) rfl (t_X11_writes (M := wI M i76) hL hn76 (by omega) hs2.2) (by decide) (by decide) (by decide) (by decide) rfl (Nat.le_of_ble_eq_true rfl) (fun i100 h100 => ?_)
      show J G base X _ _ (wI M i100) _ _ _
      have hn100 : mI (wI M i100) (a + 1) = _ := h100.1
      refine r_return hX rfl dX11_sorts_103 (by decide) (by decide) ?_
      have hcc : (crS x (nI b)).toNatClampNeg = c := by rw [e5]; exact nI_clamp (by omega)
      have hff : ∀ s, s < 5 → i6 (a + 11) s = (if nI b = -1 then fl else upd fl (nI b).toNatClampNeg (fl (nI b).toNatClampNeg + 1)) s := fun s hs => by
        rw [if_neg (nI_ne_m1 (by omega)), nI_clamp (by omega), f11 s]
        simp only [upd]
        split
        · rfl
        · exact hfl s hs
      first
        | (refine ⟨rfl, i76, rfl, ?_, fun s hs => ?_, fun y hy => (h76.2 y hy.1).trans (f6 y hy.1 hy.2)⟩
           · rw [h76.1, eb]
             unfold putN
             rw [if_neg (nI_ne_m1 (show b < 2147483648 by omega)), if_pos c87, hcc]
             first | done | rfl
           · rw [eb, h76.2 (a + 11) (by omega)]
             exact hff s hs)
        | (refine ⟨rfl, i100, rfl, ?_, fun s hs => ?_, fun y hy => (h100.2 y hy.1).trans ((h76.2 y hy.1).trans (f6 y hy.1 hy.2))⟩
           · rw [h100.1, eb]
             unfold putN
             rw [if_neg (nI_ne_m1 (show b < 2147483648 by omega)), if_neg c87, hcc, e5]
             first | done | rfl
           · rw [eb, show i100 (a + 11) = i6 (a + 11) from (h100.2 _ (by omega)).trans (h76.2 _ (by omega))]
             exact hff s hs)
