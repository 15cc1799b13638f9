variable {G : GG} {base : Nat}
/-- the receipts' rows moved on, down to k -/
def shF (n : Nat → Int32) (k : Nat) : Nat → Int32 := fun q => if 858 + k < q ∧ q < 1158 then n (q - 5) else n q
theorem rn4 {n : Nat → Int32} (h4 : Rn n 4 60) (l kd cr pl : Int32) (k4 : Nat → Int32) (hk : k4 = if nv n 4 < 60 then upd n 4 (nI (nv n 4 + 1)) else n) :
    upd (upd (upd (upd (upd (shF k4 4) 858 (n 6)) 859 l) 860 kd) 861 cr) 862 pl = wrN n l kd cr pl := by
  funext q
  unfold wrN upd shF
  have e : ∀ x, x ≠ 4 → k4 x = n x := fun x hx => by
    rw [hk]
    split
    · simp [upd, hx]
    · rfl
  have e4 : k4 4 = if nv n 4 < 60 then nI (nv n 4 + 1) else n 4 := by
    rw [hk]
    split <;> simp [upd]
  by_cases h1 : q = 862
  · subst h1; simp
  by_cases h2 : q = 861
  · subst h2; simp
  by_cases h3 : q = 860
  · subst h3; simp
  by_cases h5 : q = 859
  · subst h5; simp
  by_cases h6 : q = 858
  · subst h6; simp
  rw [if_neg h1, if_neg h2, if_neg h3, if_neg h5, if_neg h6, if_neg h6, if_neg h5, if_neg h3, if_neg h2, if_neg h1]
  by_cases h7 : 863 ≤ q ∧ q < 1158
  · rw [if_pos h7, if_pos (by omega), e _ (by omega)]
  · rw [if_neg h7, if_neg (by omega)]
    by_cases h8 : q = 4
    · subst h8
      rw [e4, if_pos rfl]
    · rw [if_neg h8, e _ h8]
set_option maxHeartbeats 2000000 in
set_option maxRecDepth 20000 in
theorem t_X11_writes {M : Mm} {a : Nat} {n : Nat → Int32} (hL : LX11 M.1 M.2.1 a) (hn : mI M (a + 1) = n) {l : Nat} (hl : l < 30) (h4 : Rn n 4 60) {kd cr pl : Int32} : Ct G base YX11_writes 2 0 0 [.ref a, .int (nI l), .int kd, .int cr, .int pl] M (rI none M (pN M a (wrL n l kd cr pl))) := by
  refine Ct.of IX11_writes.1 (by simp [Value.category]) (Nat.le_of_ble_eq_true rfl) (fun X hX hN => ?_)
  show J G base X 0 0 M 0 [some (.ref a), some (.int (nI l)), some (.int kd), some (.int cr), some (.int pl), none] []
  have h460 := h4.2
  have main : ¬ n (498 + 10 * l + 2) = 0 → ∀ i0 : Nat → Nat → Int32, i0 (a + 1) = (if nv n 4 < 60 then upd n 4 (nI (nv n 4 + 1)) else n) → (∀ x, x ≠ a + 1 → i0 x = mI M x) → J G base X 0 0 (wI M i0) 31 [some (.ref a), some (.int (nI l)), some (.int kd), some (.int cr), some (.int pl), none] [] := by
    intro hv i0 e0 f0
    generalize hk4 : (if nv n 4 < 60 then upd n 4 (nI (nv n 4 + 1)) else n) = k4 at e0
    have e6 : k4 6 = n 6 := by
      rw [← hk4]
      split <;> simp [upd]
    refine r_sipush (v := nI 299) hX dX11_writes_31 (by decide) ?_
    refine r_istore5 hX dX11_writes_34 rfl ?_
    refine loop_us (σ := Nat → Nat → Int32) (P := fun t i => (i (a + 1) = shF k4 (299 - t) ∧ ∀ x, x ≠ a + 1 → i x = mI M x) → J G base X 0 0 (wI M i) 36 [some (.ref a), some (.int (nI l)), some (.int kd), some (.int cr), some (.int pl), some (.int (nI (299 - t)))] []) 295 (fun t i ht ih hi => ?_) 0 i0 (Nat.zero_le _) ⟨?_, f0⟩
    rotate_left
    · rw [e0]
      funext q
      unfold shF
      rw [if_neg (by omega)]
    have hni : mI (wI M i) (a + 1) = shF k4 (299 - t) := hi.1
    refine r_iload hX dX11_writes_36 rfl ?_
    refine r_iconst (v := nI 5) hX dX11_writes_38 (by decide) ?_
    refine rn_icmp_lt (tgt := 72) hX dX11_writes_39 (by decide) rfl rfl (by omega) (by omega) (fun c39 => ?_) (fun c39 => ?_)
    · obtain rfl : t = 295 := by omega
      have e6i : shF k4 4 6 = n 6 := by unfold shF; rw [if_neg (by omega), e6]
      refine r_aload_n hX dX11_writes_72 rfl ?_
      refine r_getr hX dX11_writes_73 fl_X11_13 rfl (LX11_s hL) (LX11_r1 hL) ?_
      refine r_sipush (v := nI 858) hX dX11_writes_76 (by decide) ?_
      refine r_aload_n hX dX11_writes_79 rfl ?_
      refine r_getr hX dX11_writes_80 fl_X11_13 rfl (LX11_s hL) (LX11_r1 hL) ?_
      refine r_bipush (v := nI 6) hX dX11_writes_83 (by decide) ?_
      refine rn_iald hX dX11_writes_85 (LX11_a1 hL) rfl (by omega) (by omega) ?_
      rw [hni]
      rw [e6i]
      refine rn_iast hX dX11_writes_86 (LX11_a1 hL) rfl (by omega) (by omega) ?_
      refine r_aload_n hX dX11_writes_87 rfl ?_
      refine r_getr hX dX11_writes_88 fl_X11_13 rfl (LX11_s hL) (LX11_r1 hL) ?_
      refine r_sipush (v := nI 859) hX dX11_writes_91 (by decide) ?_
      refine r_iload_n hX dX11_writes_94 rfl ?_
      refine rn_iast hX dX11_writes_95 (LX11_a1 hL) rfl (by omega) (by omega) ?_
      refine r_aload_n hX dX11_writes_96 rfl ?_
      refine r_getr hX dX11_writes_97 fl_X11_13 rfl (LX11_s hL) (LX11_r1 hL) ?_
      refine r_sipush (v := nI 860) hX dX11_writes_100 (by decide) ?_
      refine r_iload_n hX dX11_writes_103 rfl ?_
      refine rn_iast hX dX11_writes_104 (LX11_a1 hL) rfl (by omega) (by omega) ?_
      refine r_aload_n hX dX11_writes_105 rfl ?_
      refine r_getr hX dX11_writes_106 fl_X11_13 rfl (LX11_s hL) (LX11_r1 hL) ?_
      refine r_sipush (v := nI 861) hX dX11_writes_109 (by decide) ?_
      refine r_iload_n hX dX11_writes_112 rfl ?_
      refine rn_iast hX dX11_writes_113 (LX11_a1 hL) rfl (by omega) (by omega) ?_
      refine r_aload_n hX dX11_writes_114 rfl ?_
      refine r_getr hX dX11_writes_115 fl_X11_13 rfl (LX11_s hL) (LX11_r1 hL) ?_
      refine r_sipush (v := nI 862) hX dX11_writes_118 (by decide) ?_
      refine r_iload hX dX11_writes_121 rfl ?_
      refine rn_iast hX dX11_writes_123 (LX11_a1 hL) rfl (by omega) (by omega) ?_
      refine J.gen (M0 := M) rfl (fun i2 h2 => ?_)
      refine r_return hX rfl dX11_writes_124 (by decide) (by decide) ?_
      refine ⟨rfl, i2, rfl, ?_, fun x hx => ?_⟩
      · rw [wrL, if_neg hv, ← rn4 h4 (nI l) kd cr pl k4 hk4.symm]
        have hs : mI (wI M i) (a + 1) = shF k4 4 := hni
        rw [← uIA (v := pl) (uIA (v := cr) (uIA (v := kd) (uIA (v := nI l) (uIA (v := n 6) hs))))]
        funext q
        exact h2 (a + 1) q
      · rw [← hi.2 x hx]
        funext j
        rw [h2]
        simp [mI_uI, hx, mI_wI]
    · refine r_aload_n hX dX11_writes_42 rfl ?_
      refine r_getr hX dX11_writes_43 fl_X11_13 rfl (LX11_s hL) (LX11_r1 hL) ?_
      refine r_sipush (v := nI 858) hX dX11_writes_46 (by decide) ?_
      refine r_iload hX dX11_writes_49 rfl ?_
      refine rn_iadd hX dX11_writes_51 rfl rfl ?_
      refine r_aload_n hX dX11_writes_52 rfl ?_
      refine r_getr hX dX11_writes_53 fl_X11_13 rfl (LX11_s hL) (LX11_r1 hL) ?_
      refine r_sipush (v := nI 858) hX dX11_writes_56 (by decide) ?_
      refine r_iload hX dX11_writes_59 rfl ?_
      refine rn_iadd hX dX11_writes_61 rfl rfl ?_
      refine r_iconst (v := nI 5) hX dX11_writes_62 (by decide) ?_
      refine rn_isub hX dX11_writes_63 rfl rfl (by omega) ?_
      refine rn_iald hX dX11_writes_64 (LX11_a1 hL) rfl (by omega) (by omega) ?_
      rw [hni]
      refine rn_iast hX dX11_writes_65 (LX11_a1 hL) rfl (by omega) (by omega) ?_
      refine J.gen (M0 := M) rfl (fun i2 h2 => ?_)
      refine r_iinc5 hX dX11_writes_66 rfl ?_
      rw [nI_idec (by omega)]
      refine r_goto (tgt := 36) hX dX11_writes_69 (by decide) ?_
      rw [show 299 - t - 1 = 299 - (t + 1) by omega]
      refine ih (by omega) i2 ⟨?_, fun x hx => ?_⟩
      · funext q
        rw [h2]
        show mI (uI (wI M i) (a + 1) _ _) (a + 1) q = _
        simp only [mI_uI, if_true]
        by_cases hq : q = 858 + (299 - t)
        · subst hq
          rw [if_pos rfl]
          unfold shF
          rw [if_neg (by omega), if_pos (by omega)]
        · rw [if_neg hq, hni]
          unfold shF
          by_cases h1 : 858 + (299 - t) < q ∧ q < 1158
          · rw [if_pos h1, if_pos (by omega)]
          · rw [if_neg h1, if_neg (by omega)]
      · rw [← hi.2 x hx]
        funext j
        rw [h2]
        exact congrFun (uIo hx) j
  refine r_aload_n hX dX11_writes_0 rfl ?_
  refine r_iload_n hX dX11_writes_1 rfl ?_
  refine r_iconst (v := nI 2) hX dX11_writes_2 (by decide) ?_
  refine r_cV2 hX dX11_writes_3 IX11_of ml_X11_67 rfl (LX11_s hL) rfl (t_X11_of hL hn (by omega) (by decide)) (by decide) (by decide) (by decide) (by decide) rfl (Nat.le_of_ble_eq_true rfl) ?_
  refine r_if_ne (tgt := 10) hX dX11_writes_6 (by decide) (fun c6 => ?_) (fun c6 => ?_)
  · refine r_aload_n hX dX11_writes_10 rfl ?_
    refine r_getr hX dX11_writes_11 fl_X11_13 rfl (LX11_s hL) (LX11_r1 hL) ?_
    refine r_iconst (v := nI 4) hX dX11_writes_14 (by decide) ?_
    refine rn_iald hX dX11_writes_15 (LX11_a1 hL) rfl (by omega) (by omega) ?_
    rw [hn]
    rw [h4.1]
    refine r_bipush (v := nI 60) hX dX11_writes_16 (by decide) ?_
    refine rn_icmp_ge (tgt := 31) hX dX11_writes_18 (by decide) rfl rfl (by omega) (by omega) (fun c18 => ?_) (fun c18 => ?_)
    · first
        | exact main (fun z => absurd z c6) (mI M) (by rw [if_neg (by omega)]; exact hn) (fun _ _ => rfl)
        | exact main (fun z => absurd z c6) (mI (uI M (a + 1) 4 (nI (nv n 4 + 1)))) (by rw [if_pos (by omega)]; exact uIA hn) (fun x hx => uIo hx)
    · refine r_aload_n hX dX11_writes_21 rfl ?_
      refine r_getr hX dX11_writes_22 fl_X11_13 rfl (LX11_s hL) (LX11_r1 hL) ?_
      refine r_iconst (v := nI 4) hX dX11_writes_25 (by decide) ?_
      refine r_dup2 hX dX11_writes_26 rfl rfl ?_
      refine rn_iald hX dX11_writes_27 (LX11_a1 hL) rfl (by omega) (by omega) ?_
      rw [hn]
      rw [h4.1]
      refine r_iconst (v := nI 1) hX dX11_writes_28 (by decide) ?_
      refine rn_iadd hX dX11_writes_29 rfl rfl ?_
      refine rn_iast hX dX11_writes_30 (LX11_a1 hL) rfl (by omega) (by omega) ?_
      first
        | exact main (fun z => absurd z c6) (mI M) (by rw [if_neg (by omega)]; exact hn) (fun _ _ => rfl)
        | exact main (fun z => absurd z c6) (mI (uI M (a + 1) 4 (nI (nv n 4 + 1)))) (by rw [if_pos (by omega)]; exact uIA hn) (fun x hx => uIo hx)
  · refine r_return hX rfl dX11_writes_9 (by decide) (by decide) ?_
    exact ⟨rfl, mI M, rfl, pN.of hn (by rw [wrL, if_pos (by simpa using c6)])⟩
