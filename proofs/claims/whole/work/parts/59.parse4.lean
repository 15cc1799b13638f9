variable {G : GG} {base : Nat}
theorem tkQ_le {u : Nat → Nat} {e w : Nat} {q : Q4} (h : q.1 ≤ e) : (tkQ u e w q).1 ≤ e := by
  have h1 := blQ_le (u := u) h
  have h2 := whN_le (u := u) h
  unfold tkQ
  split
  · split
    · rename_i hw
      have := (of_decide_eq_true hw).2.1
      show (blQ u e q).1 + (txw w).length ≤ e
      omega
    · exact h1
  · exact h
set_option maxHeartbeats 2000000 in
set_option maxRecDepth 20000 in
theorem t_X11_takes {M : Mm} {a e : Nat} {u : Nat → Nat} {q : Q4} (hL : LX11 M.1 M.2.1 a) (hT : Tt (mI M) a u e) (hq : Pq (mI M) a q) (hp : q.1 ≤ e) {w : Nat} (hw : w < 13) : Ct G base YX11_takes 5 0 0 [.ref a, .ref (G.2.2.1 w)] M (rI (some (.int (if hasW u e w q = true then 1 else 0))) M (pS M a (tkQ u e w q))) := by
  refine Ct.of IX11_takes.1 (by simp [Value.category]) (Nat.le_of_ble_eq_true rfl) (fun X hX hN => ?_)
  show J G base X 0 0 M 0 [some (.ref a), some (.ref (G.2.2.1 w)), none, none] []
  have he := hT.2.2
  have h9 := @txw_s w
  have hwl := whN_le (u := u) hp
  have hbl := blQ_le (u := u) hp
  have bad : ∀ (i : Nat → Nat → Int32) (j : Nat), pS M a (tkQ u e w q) i → ¬ hasW u e w q = true → J G base X 0 0 (wI M i) 26 [some (.ref a), some (.ref (G.2.2.1 w)), some (.int (nI 0)), some (.int (nI j))] [] := by
    intro i j h hno
    refine r_iload_n hX dX11_takes_26 rfl ?_
    refine rn_if_eq (tgt := 69) hX dX11_takes_27 (by decide) rfl (by omega) (fun c27 => ?_) (fun c27 => absurd rfl c27)
    refine r_iload_n hX dX11_takes_69 rfl ?_
    refine rn_if_eq (tgt := 86) hX dX11_takes_70 (by decide) rfl (by omega) (fun c70 => ?_) (fun c70 => absurd rfl c70)
    refine r_iload_n hX dX11_takes_86 rfl ?_
    refine r_ireturn hX rfl rfl dX11_takes_87 (by decide) (by decide) ?_
    refine ⟨?_, i, rfl, h⟩
    rw [if_neg hno]
    first | done | rfl
  refine r_aload_n hX dX11_takes_0 rfl ?_
  refine r_cV0 hX dX11_takes_1 IX11_hasFailed ml_X11_104 rfl (LX11_s hL) rfl (t_X11_hasFailed hL hq) (by decide) (by decide) (by decide) (by decide) rfl (Nat.le_of_ble_eq_true rfl) ?_
  refine rb_if_ne (tgt := 22) hX dX11_takes_4 (by decide) rfl (fun c4 => ?_) (fun c4 => ?_)
  · refine r_iconst (v := nI 0) hX dX11_takes_22 (by decide) ?_
    refine r_istore2 hX dX11_takes_23 rfl ?_
    refine r_iconst (v := nI 0) hX dX11_takes_24 (by decide) ?_
    refine r_istore3 hX dX11_takes_25 rfl ?_
    refine bad (mI M) 0 ?_ (fun z => c4 (of_decide_eq_true z).1)
    unfold tkQ
    rw [if_neg c4]
    exact pS.rf hq
  · refine r_aload_n hX dX11_takes_7 rfl ?_
    refine r_iV0 hX dX11_takes_8 IX11_wordHere ml_X11_121 rfl (LX11_s hL) rfl (t_X11_wordHere hL hT hq hp) (by decide) (by decide) (by decide) (by decide) rfl (Nat.le_of_ble_eq_true rfl) (fun i1 h1 => ?_)
    show J G base X _ _ (wI M i1) _ _ _
    refine r_aload_n hX dX11_takes_11 rfl ?_
    refine r_cVs0 hX dX11_takes_12 IJ0_length_8abf5 ml_X11_124 rfl hw rfl (t_length (M := wI M i1) hw) (by decide) (by decide) (by decide) (by decide) rfl (Nat.le_of_ble_eq_true rfl) ?_
    refine rn_icmp_ne (tgt := 22) hX dX11_takes_15 (by decide) rfl rfl (by omega) (by omega) (fun c15 => ?_) (fun c15 => ?_)
    · refine r_iconst (v := nI 0) hX dX11_takes_22 (by decide) ?_
      refine r_istore2 hX dX11_takes_23 rfl ?_
      refine r_iconst (v := nI 0) hX dX11_takes_24 (by decide) ?_
      refine r_istore3 hX dX11_takes_25 rfl ?_
      have hno : ¬ hasW u e w q = true := fun z => c15 (of_decide_eq_true z).2.1
      refine bad i1 0 ?_ hno
      unfold tkQ
      rw [if_pos (Classical.not_not.mp c4), if_neg hno]
      exact h1
    · refine r_iconst (v := nI 1) hX dX11_takes_18 (by decide) ?_
      refine r_goto (tgt := 23) hX dX11_takes_19 (by decide) ?_
      refine r_istore2 hX dX11_takes_23 rfl ?_
      refine r_iconst (v := nI 0) hX dX11_takes_24 (by decide) ?_
      refine r_istore3 hX dX11_takes_25 rfl ?_
      have hf : q.2.2.1 = -1 := Classical.not_not.mp c4
      have hT1 := h1.tt hT
      refine loop_up (P := fun j => (∀ k, k < j → u ((blQ u e q).1 + k) = (txw w).getD k 0) → J G base X 0 0 (wI M i1) 26 [some (.ref a), some (.ref (G.2.2.1 w)), some (.int (nI 1)), some (.int (nI j))] []) (txw w).length (fun j hj ih hok => ?_) 0 (Nat.zero_le _) (fun k hk => absurd hk (Nat.not_lt_zero _))
      refine r_iload_n hX dX11_takes_26 rfl ?_
      refine rn_if_eq (tgt := 69) hX dX11_takes_27 (by decide) rfl (by omega) (fun c27 => absurd c27 (by decide)) (fun c27 => ?_)
      refine r_iload_n hX dX11_takes_30 rfl ?_
      refine r_aload_n hX dX11_takes_31 rfl ?_
      refine r_cVs0 hX dX11_takes_32 IJ0_length_8abf5 ml_X11_124 rfl hw rfl (t_length (M := wI M i1) hw) (by decide) (by decide) (by decide) (by decide) rfl (Nat.le_of_ble_eq_true rfl) ?_
      refine rn_icmp_ge (tgt := 69) hX dX11_takes_35 (by decide) rfl rfl (by omega) (by omega) (fun c35 => ?_) (fun c35 => ?_)
      · refine r_iload_n hX dX11_takes_69 rfl ?_
        refine rn_if_eq (tgt := 86) hX dX11_takes_70 (by decide) rfl (by omega) (fun c70 => absurd c70 (by decide)) (fun c70 => ?_)
        refine r_aload_n hX dX11_takes_73 rfl ?_
        refine r_dup hX dX11_takes_74 rfl ?_
        refine rn_geti (v := nI (blQ u e q).1) hX dX11_takes_75 fl_X11_98 rfl (LX11_s hL) h1.1.1 ?_
        refine r_aload_n hX dX11_takes_78 rfl ?_
        refine r_cVs0 hX dX11_takes_79 IJ0_length_8abf5 ml_X11_124 rfl hw rfl (t_length (M := wI M i1) hw) (by decide) (by decide) (by decide) (by decide) rfl (Nat.le_of_ble_eq_true rfl) ?_
        refine rn_iadd hX dX11_takes_82 rfl rfl ?_
        refine r_puti hX dX11_takes_83 fl_X11_98 rfl rfl (LX11_s hL) ?_
        refine r_iload_n hX dX11_takes_86 rfl ?_
        refine r_ireturn hX rfl rfl dX11_takes_87 (by decide) (by decide) ?_
        obtain rfl : j = (txw w).length := by omega
        have hyes : hasW u e w q = true := decide_eq_true ⟨hf, c15, hok⟩
        refine ⟨?_, mI (uI (wI M i1) a 8 (nI ((blQ u e q).1 + (txw w).length))), rfl, ?_⟩
        · rw [if_pos hyes]
          first | done | rfl
        · unfold tkQ
          rw [if_pos hf, if_pos hyes]
          exact h1.put (by omega) (Pq8 (M := wI M i1) h1.1)
      · have hlj := whN_l (u := u) (e := e) (q := q) (j := j) (by omega)
        have hcb := txw_b hw (j := j) (by omega)
        refine r_aload_n hX dX11_takes_38 rfl ?_
        refine r_getr hX dX11_takes_39 fl_X11_23 rfl (LX11_s hL) (LX11_r5 hL) ?_
        refine r_aload_n hX dX11_takes_42 rfl ?_
        refine rn_geti (v := nI (blQ u e q).1) hX dX11_takes_43 fl_X11_98 rfl (LX11_s hL) h1.1.1 ?_
        refine r_iload_n hX dX11_takes_46 rfl ?_
        refine rn_iadd hX dX11_takes_47 rfl rfl ?_
        refine rn_bald hX dX11_takes_48 (LX11_a5 hL) rfl (by omega) (by omega) ?_
        rw [show mI (wI M i1) (a + 4) ((blQ u e q).1 + j) = sbI (u ((blQ u e q).1 + j)) from (hT1.1 _ (by omega)).2, sbI_l hlj]
        refine r_aload_n hX dX11_takes_49 rfl ?_
        refine r_iload_n hX dX11_takes_50 rfl ?_
        refine r_cVs1 hX dX11_takes_51 IJ0_charAt_5068e ml_X11_129 rfl hw rfl (t_charAt (M := wI M i1) hw (by omega)) (by decide) (by decide) (by decide) (by decide) rfl (Nat.le_of_ble_eq_true rfl) ?_
        refine rn_icmp_ne (tgt := 61) hX dX11_takes_54 (by decide) rfl rfl (by omega) (by omega) (fun c54 => ?_) (fun c54 => ?_)
        · refine r_iconst (v := nI 0) hX dX11_takes_61 (by decide) ?_
          refine r_istore2 hX dX11_takes_62 rfl ?_
          refine rn_iinc3 hX dX11_takes_63 rfl rfl ?_
          refine r_goto (tgt := 26) hX dX11_takes_66 (by decide) ?_
          have hno : ¬ hasW u e w q = true := fun z => c54 ((of_decide_eq_true z).2.2 j (by omega))
          refine bad i1 (j + 1) ?_ hno
          unfold tkQ
          rw [if_pos hf, if_neg hno]
          exact h1
        · refine r_iconst (v := nI 1) hX dX11_takes_57 (by decide) ?_
          refine r_goto (tgt := 62) hX dX11_takes_58 (by decide) ?_
          refine r_istore2 hX dX11_takes_62 rfl ?_
          refine rn_iinc3 hX dX11_takes_63 rfl rfl ?_
          refine r_goto (tgt := 26) hX dX11_takes_66 (by decide) ?_
          exact ih (by omega) (fun k hk => by
            rcases (show k < j ∨ k = j by omega) with h | rfl
            · exact hok k h
            · exact c54)
