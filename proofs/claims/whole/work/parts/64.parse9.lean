variable {G : GG} {base : Nat}
theorem st_ok {n : Nat → Int32} {u : Nat → Nat} {e lo c : Nat} {q : Q4} (hp : q.1 ≤ e) (he : e ≤ 900) (h : (stC n u e lo c q).2.2.1 = -1) : c < 6 ∧ stV u e lo c q ≤ 23 := by
  have hB : (stB u e lo c q).2.2.1 = -1 := Classical.byContradiction fun z => z (by rw [← fl_rp (n := n) z]; exact h)
  obtain ⟨hA, h1, h2⟩ := nuW_hi (q := stA u e c q) (stA_le hp) he hB
  refine ⟨?_, h2⟩
  have hq : q.2.2.1 = -1 := Classical.byContradiction fun z => z (by have hs : stA u e c q = q := by unfold stA; rw [fl_bl z, fl_mu z]
                                                                     rw [← hs]; exact hA)
  have hbl := blQ_le (u := u) hp
  have e2 : (blQ u e q).2.1 = (blQ u e q).1 := by unfold blQ; rw [if_pos hq]
  obtain ⟨h3, h4, -⟩ := muQ_ok (c := decide (¬ ((blQ u e q).1 < e ∧ dgB u (blQ u e q).1 = true) ∨ c < 6)) (k := 4) (q := blQ u e q) hA (by omega)
  have hsA : stA u e c q = blQ u e q := h3
  have hN1 : (nuQ1 u e (stA u e c q)).2.2.1 = -1 := Classical.byContradiction fun z => z (by
    have hB2 := hB
    unfold stB nuQ at hB2
    rw [if_neg z] at hB2
    exact hB2)
  obtain ⟨-, -, -, g1, g2⟩ := nuQ1_ok hN1 (stA_le hp) he
  rw [hsA, bl_bl hp] at g1 g2
  exact (of_decide_eq_true h4).resolve_left (fun z => z ⟨g1, g2⟩)
theorem stZ_bad {n : Nat → Int32} {u : Nat → Nat} {e f lo c : Nat} {rd : Nat → Int32} {q : Q4} (h : ¬ (stC n u e lo c q).2.2.1 = -1) : stZ n u e (f + 1) lo c rd q = (rd, stC n u e lo c q) := by
  unfold stZ
  rw [if_neg h]
theorem stZ_end {n : Nat → Int32} {u : Nat → Nat} {e f lo c : Nat} {rd : Nat → Int32} {q : Q4} (h : (stC n u e lo c q).2.2.1 = -1) (h2 : ¬ ((blQ u e (stC n u e lo c q)).1 < e ∧ dgB u (blQ u e (stC n u e lo c q)).1 = true)) : stZ n u e (f + 1) lo c rd q = (stD n u e lo c rd q, blQ u e (stC n u e lo c q)) := by
  conv => lhs; unfold stZ
  rw [if_pos h, if_neg h2]
theorem stZ_more {n : Nat → Int32} {u : Nat → Nat} {e f lo c : Nat} {rd : Nat → Int32} {q : Q4} (h : (stC n u e lo c q).2.2.1 = -1) (h2 : (blQ u e (stC n u e lo c q)).1 < e ∧ dgB u (blQ u e (stC n u e lo c q)).1 = true) : stZ n u e (f + 1) lo c rd q = stZ n u e f (stV u e lo c q + 1) (c + 1) (stD n u e lo c rd q) (blQ u e (stC n u e lo c q)) := by
  conv => lhs; unfold stZ
  rw [if_pos h, if_pos h2]
theorem rpQ_le {n : Nat → Int32} {u : Nat → Nat} {e : Nat} {q : Q4} (h : q.1 ≤ e) (he : e ≤ 900) : (rpQ n u e q).1 ≤ e := snmu_le h he
set_option maxHeartbeats 2000000 in
set_option maxRecDepth 20000 in
theorem t_X11_readStops {M : Mm} {a e : Nat} {u : Nat → Nat} {q : Q4} {n : Nat → Int32} (hL : LX11 M.1 M.2.1 a) (hn : mI M (a + 1) = n) (h0 : Rn n 0 10) (hT : Tt (mI M) a u e) (hq : Pq (mI M) a q) (hp : q.1 ≤ e) {rd : Nat → Int32} (hrd : mI M (a + 6) = rd) {Z : (Nat → Int32) × Q4} (hZ : stZ n u e 7 0 0 (upd rd 0 0) q = Z) : Ct G base YX11_readStops 6 0 0 [.ref a] M (rI none M (pR M a Z.1 Z.2)) := by
  refine Ct.of IX11_readStops.1 (by simp [Value.category]) (Nat.le_of_ble_eq_true rfl) (fun X hX hN => ?_)
  show J G base X 0 0 M 0 [some (.ref a), none, none, none] []
  have he := hT.2.2
  have hb0 := h0.2
  have main : ∀ (f lo c : Nat) (rd : Nat → Int32) (q : Q4) (i : Nat → Nat → Int32), c + f = 7 → 1 ≤ f → lo ≤ 24 → q.1 ≤ e → rd 0 = nI c → pR M a rd q i → stZ n u e f lo c rd q = Z → J G base X 0 0 (wI M i) 9 [some (.ref a), some (.int (nI lo)), none, none] [] := by
    intro f
    induction f with
    | zero => intro lo c rd q i _ h1; omega
    | succ f ih =>
      intro lo c rd q i hcf _ hlo hp hc hP hz
      refine r_aload_n hX dX11_readStops_9 rfl ?_
      refine r_iV0 hX dX11_readStops_10 IX11_blanks ml_X11_118 rfl (LX11_s hL) rfl (t_X11_blanks (M := wI M i) hL (hP.tt hT) hP.1 hp) (by decide) (by decide) (by decide) (by decide) rfl (Nat.le_of_ble_eq_true rfl) (fun i1 h1 => ?_)
      show J G base X _ _ (wI M i1) _ _ _
      replace h1 := hP.trS h1
      have hT1 := h1.tt hT
      have hbl := blQ_le (u := u) hp
      have main : J G base X 0 0 (wI M i1) 41 [some (.ref a), some (.int (nI lo)), none, none] [.int (if ¬ ((blQ u e q).1 < e ∧ dgB u (blQ u e q).1 = true) ∨ c < 6 then 1 else 0), .ref a] := by
        refine r_iconst (v := nI 4) hX dX11_readStops_41 (by decide) ?_
        refine r_iV2 hX dX11_readStops_42 IX11_must ml_X11_133 rfl (LX11_s hL) rfl (t_X11_must (M := wI M i1) (P := ¬ ((blQ u e q).1 < e ∧ dgB u (blQ u e q).1 = true) ∨ c < 6) (k := 4) hL h1.1) (by decide) (by decide) (by decide) (by decide) rfl (Nat.le_of_ble_eq_true rfl) (fun i2 h2 => ?_)
        show J G base X _ _ (wI M i2) _ _ _
        replace h2 := h1.trS h2
        change pR M a rd (stA u e c q) i2 at h2
        refine r_aload_n hX dX11_readStops_45 rfl ?_
        refine r_iload_n hX dX11_readStops_46 rfl ?_
        refine r_bipush (v := nI 23) hX dX11_readStops_47 (by decide) ?_
        refine r_iV2 hX dX11_readStops_49 IX11_number ml_X11_154 rfl (LX11_s hL) rfl (t_X11_number (M := wI M i2) hL (h2.tt hT) h2.1 (stA_le hp) (lo := lo) (hh := 23) (by omega) (by omega)) (by decide) (by decide) (by decide) (by decide) rfl (Nat.le_of_ble_eq_true rfl) (fun i3 h3 => ?_)
        show J G base X _ _ (wI M i3) _ _ _
        replace h3 := h2.trS h3
        change pR M a rd (stB u e lo c q) i3 at h3
        have hn3 : mI (wI M i3) (a + 1) = n := (h3.2.2.1 _ (by omega) (by omega)).trans hn
        refine r_istore2 hX dX11_readStops_52 rfl ?_
        refine r_aload_n hX dX11_readStops_53 rfl ?_
        refine r_iV0 hX dX11_readStops_54 IX11_readPlaceName ml_X11_157 rfl (LX11_s hL) rfl (t_X11_readPlaceName (M := wI M i3) hL hn3 h0 (h3.tt hT) h3.1 (nuQ_le (stA_le hp))) (by decide) (by decide) (by decide) (by decide) rfl (Nat.le_of_ble_eq_true rfl) (fun i4 h4 => ?_)
        show J G base X _ _ (wI M i4) _ _ _
        replace h4 := h3.trS h4
        change pR M a rd (stC n u e lo c q) i4 at h4
        have h4c : i4 (a + 6) 0 = nI c := by rw [h4.2.1]; exact hc
        refine r_istore3 hX dX11_readStops_57 rfl ?_
        refine r_aload_n hX dX11_readStops_58 rfl ?_
        refine r_cV0 hX dX11_readStops_59 IX11_hasFailed ml_X11_104 rfl (LX11_s hL) rfl (t_X11_hasFailed (M := wI M i4) hL h4.1) (by decide) (by decide) (by decide) (by decide) rfl (Nat.le_of_ble_eq_true rfl) ?_
        refine rb_if_eq (tgt := 66) hX dX11_readStops_62 (by decide) rfl (fun c62 => ?_) (fun c62 => ?_)
        · have hf : (stC n u e lo c q).2.2.1 = -1 := Classical.not_not.mp c62
          obtain ⟨hc6, hv23⟩ := st_ok hp he hf
          have hle : (stC n u e lo c q).1 ≤ e := rpQ_le (nuQ_le (stA_le hp)) he
          refine r_aload_n hX dX11_readStops_66 rfl ?_
          refine r_getr hX dX11_readStops_67 fl_X11_33 rfl (LX11_s hL) (LX11_r15 hL) ?_
          refine r_iconst (v := nI 1) hX dX11_readStops_70 (by decide) ?_
          refine r_iconst (v := nI 2) hX dX11_readStops_71 (by decide) ?_
          refine r_aload_n hX dX11_readStops_72 rfl ?_
          refine r_getr hX dX11_readStops_73 fl_X11_33 rfl (LX11_s hL) (LX11_r15 hL) ?_
          refine r_iconst (v := nI 0) hX dX11_readStops_76 (by decide) ?_
          refine rn_iald hX dX11_readStops_77 (LX11_a15 hL) rfl (by omega) (by omega) ?_
          rw [show mI (wI M i4) (a + 6) 0 = nI c from h4c]
          refine rn_imul hX dX11_readStops_78 rfl rfl ?_
          refine rn_iadd hX dX11_readStops_79 rfl rfl ?_
          refine r_iload_n hX dX11_readStops_80 rfl ?_
          refine rn_iast hX dX11_readStops_81 (LX11_a15 hL) rfl (by omega) (by omega) ?_
          refine r_aload_n hX dX11_readStops_82 rfl ?_
          refine r_getr hX dX11_readStops_83 fl_X11_33 rfl (LX11_s hL) (LX11_r15 hL) ?_
          refine r_iconst (v := nI 2) hX dX11_readStops_86 (by decide) ?_
          refine r_iconst (v := nI 2) hX dX11_readStops_87 (by decide) ?_
          refine r_aload_n hX dX11_readStops_88 rfl ?_
          refine r_getr hX dX11_readStops_89 fl_X11_33 rfl (LX11_s hL) (LX11_r15 hL) ?_
          refine r_iconst (v := nI 0) hX dX11_readStops_92 (by decide) ?_
          refine rn_iald hX dX11_readStops_93 (LX11_a15 hL) rfl (by omega) (by omega) ?_
          rw [show mI (uI (wI M i4) (a + 6) (1 + 2 * c) (nI (nuW u e lo 23 (stA u e c q)))) (a + 6) 0 = nI c from by rw [mI_uI, if_pos rfl, if_neg (by omega)]; exact h4c]
          refine rn_imul hX dX11_readStops_94 rfl rfl ?_
          refine rn_iadd hX dX11_readStops_95 rfl rfl ?_
          refine r_iload_n hX dX11_readStops_96 rfl ?_
          refine rn_iast hX dX11_readStops_97 (LX11_a15 hL) rfl (by omega) (by omega) ?_
          refine r_aload_n hX dX11_readStops_98 rfl ?_
          refine r_getr hX dX11_readStops_99 fl_X11_33 rfl (LX11_s hL) (LX11_r15 hL) ?_
          refine r_iconst (v := nI 0) hX dX11_readStops_102 (by decide) ?_
          refine r_dup2 hX dX11_readStops_103 rfl rfl ?_
          refine rn_iald hX dX11_readStops_104 (LX11_a15 hL) rfl (by omega) (by omega) ?_
          rw [show mI (uI (uI (wI M i4) (a + 6) (1 + 2 * c) (nI (nuW u e lo 23 (stA u e c q)))) (a + 6) (2 + 2 * c) (rpI n u e (stB u e lo c q))) (a + 6) 0 = nI c from by rw [mI_uI, if_pos rfl, if_neg (by omega), mI_uI, if_pos rfl, if_neg (by omega)]; exact h4c]
          refine r_iconst (v := nI 1) hX dX11_readStops_105 (by decide) ?_
          refine rn_iadd hX dX11_readStops_106 rfl rfl ?_
          refine rn_iast hX dX11_readStops_107 (LX11_a15 hL) rfl (by omega) (by omega) ?_
          refine r_iload_n hX dX11_readStops_108 rfl ?_
          refine r_iconst (v := nI 1) hX dX11_readStops_109 (by decide) ?_
          refine rn_iadd hX dX11_readStops_110 rfl rfl ?_
          refine r_istore1 hX dX11_readStops_111 rfl ?_
          have hW : pR M a (stD n u e lo c rd q) (stC n u e lo c q) (mI (uI (uI (uI (wI M i4) (a + 6) (1 + 2 * c) (nI (nuW u e lo 23 (stA u e c q)))) (a + 6) (2 + 2 * c) (rpI n u e (stB u e lo c q))) (a + 6) 0 (nI (c + 1)))) := ((h4.row (k := 1 + 2 * c) (v := nI (nuW u e lo 23 (stA u e c q)))).row (i := mI (uI (wI M i4) (a + 6) (1 + 2 * c) (nI (nuW u e lo 23 (stA u e c q))))) (k := 2 + 2 * c) (v := rpI n u e (stB u e lo c q))).row (i := mI (uI (uI (wI M i4) (a + 6) (1 + 2 * c) (nI (nuW u e lo 23 (stA u e c q)))) (a + 6) (2 + 2 * c) (rpI n u e (stB u e lo c q)))) (k := 0) (v := nI (c + 1))
          refine r_aload_n hX dX11_readStops_112 rfl ?_
          refine r_iV0 hX dX11_readStops_113 IX11_blanks ml_X11_118 rfl (LX11_s hL) rfl (t_X11_blanks (M := uI (uI (uI (wI M i4) (a + 6) (1 + 2 * c) (nI (nuW u e lo 23 (stA u e c q)))) (a + 6) (2 + 2 * c) (rpI n u e (stB u e lo c q))) (a + 6) 0 (nI (c + 1))) hL (hW.tt hT) hW.1 hle) (by decide) (by decide) (by decide) (by decide) rfl (Nat.le_of_ble_eq_true rfl) (fun i6 h6 => ?_)
          show J G base X _ _ (wI M i6) _ _ _
          replace h6 := hW.trS (i := mI (uI (uI (uI (wI M i4) (a + 6) (1 + 2 * c) (nI (nuW u e lo 23 (stA u e c q)))) (a + 6) (2 + 2 * c) (rpI n u e (stB u e lo c q))) (a + 6) 0 (nI (c + 1)))) h6
          refine r_aload_n hX dX11_readStops_116 rfl ?_
          refine r_bipush (v := nI 48) hX dX11_readStops_117 (by decide) ?_
          refine r_bipush (v := nI 57) hX dX11_readStops_119 (by decide) ?_
          refine r_cV2 hX dX11_readStops_121 IX11_isAt ml_X11_108 rfl (LX11_s hL) rfl (t_X11_isAt (M := wI M i6) hL (h6.tt hT) h6.1 (by have := blQ_le (u := u) hle; show (blQ u e (stC n u e lo c q)).1 < 100000; omega) (by omega) (by omega)) (by decide) (by decide) (by decide) (by decide) rfl (Nat.le_of_ble_eq_true rfl) ?_
          refine rb_if_ne (tgt := 9) hX dX11_readStops_124 (by decide) rfl (fun c124 => ?_) (fun c124 => ?_)
          · refine J.junk (ih (stV u e lo c q + 1) (c + 1) (stD n u e lo c rd q) (blQ u e (stC n u e lo c q)) i6 (by omega) (by omega) (by omega) (blQ_le hle) (by simp [stD, upd]) h6 ?_) (by repeat first | exact trivial | refine ⟨rfl, ?_⟩)
            rw [← hz]
            exact (stZ_more hf c124).symm
          · refine r_return hX rfl dX11_readStops_127 (by decide) (by decide) ?_
            refine ⟨rfl, i6, rfl, ?_⟩
            rw [← hz, stZ_end hf c124]
            exact h6
        · refine r_return hX rfl dX11_readStops_65 (by decide) (by decide) ?_
          refine ⟨rfl, i4, rfl, ?_⟩
          rw [← hz, stZ_bad c62]
          exact h4
      refine r_aload_n hX dX11_readStops_13 rfl ?_
      refine r_aload_n hX dX11_readStops_14 rfl ?_
      refine r_bipush (v := nI 48) hX dX11_readStops_15 (by decide) ?_
      refine r_bipush (v := nI 57) hX dX11_readStops_17 (by decide) ?_
      refine r_cV2 hX dX11_readStops_19 IX11_isAt ml_X11_108 rfl (LX11_s hL) rfl (t_X11_isAt (M := wI M i1) hL hT1 h1.1 (by omega) (by omega) (by omega)) (by decide) (by decide) (by decide) (by decide) rfl (Nat.le_of_ble_eq_true rfl) ?_
      refine rb_if_eq (tgt := 36) hX dX11_readStops_22 (by decide) rfl (fun c22 => ?_) (fun c22 => ?_)
      · refine r_iconst (v := nI 1) hX dX11_readStops_36 (by decide) ?_
        refine r_goto (tgt := 41) hX dX11_readStops_37 (by decide) ?_
        have hP : (¬ ((blQ u e q).1 < e ∧ dgB u (blQ u e q).1 = true) ∨ c < 6) := Or.inl c22
        have z := main
        rw [if_pos hP] at z
        exact z
      · refine r_aload_n hX dX11_readStops_25 rfl ?_
        refine r_getr hX dX11_readStops_26 fl_X11_33 rfl (LX11_s hL) (LX11_r15 hL) ?_
        refine r_iconst (v := nI 0) hX dX11_readStops_29 (by decide) ?_
        refine rn_iald hX dX11_readStops_30 (LX11_a15 hL) rfl (by omega) (by omega) ?_
        rw [show mI (wI M i1) (a + 6) 0 = nI c from by show i1 (a + 6) 0 = _; rw [h1.2.1]; exact hc]
        refine r_bipush (v := nI 6) hX dX11_readStops_31 (by decide) ?_
        refine rn_icmp_ge (tgt := 40) hX dX11_readStops_33 (by decide) rfl rfl (by omega) (by omega) (fun c33 => ?_) (fun c33 => ?_)
        · refine r_iconst (v := nI 0) hX dX11_readStops_40 (by decide) ?_
          have hP : ¬ (¬ ((blQ u e q).1 < e ∧ dgB u (blQ u e q).1 = true) ∨ c < 6) := fun y => y.elim (fun z => z c22) (fun z => absurd z (by omega))
          have z := main
          rw [if_neg hP] at z
          exact z
        · refine r_iconst (v := nI 1) hX dX11_readStops_36 (by decide) ?_
          refine r_goto (tgt := 41) hX dX11_readStops_37 (by decide) ?_
          have hP : (¬ ((blQ u e q).1 < e ∧ dgB u (blQ u e q).1 = true) ∨ c < 6) := Or.inr c33
          have z := main
          rw [if_pos hP] at z
          exact z
  refine r_aload_n hX dX11_readStops_0 rfl ?_
  refine r_getr hX dX11_readStops_1 fl_X11_33 rfl (LX11_s hL) (LX11_r15 hL) ?_
  refine r_iconst (v := nI 0) hX dX11_readStops_4 (by decide) ?_
  refine r_iconst (v := nI 0) hX dX11_readStops_5 (by decide) ?_
  refine rn_iast hX dX11_readStops_6 (LX11_a15 hL) rfl (by omega) (by omega) ?_
  refine r_iconst (v := nI 0) hX dX11_readStops_7 (by decide) ?_
  refine r_istore1 hX dX11_readStops_8 rfl ?_
  exact main 7 0 0 (upd rd 0 0) q (mI (uI (wI M (mI M)) (a + 6) 0 (nI 0))) rfl (by omega) (by omega) hp rfl (pR.row (M := M) (i := mI M) (show pR M a rd q (mI M) from ⟨hq, hrd, fun _ _ _ => rfl, fun _ _ _ _ _ => rfl⟩)) hZ
