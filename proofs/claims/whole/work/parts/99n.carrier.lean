variable {G : GG} {base : Nat}
theorem it01 {P : Prop} [Decidable P] : (if P then (0 : Int32) else 1) = if ¬ P then 1 else 0 := by
  by_cases h : P
  · rw [if_pos h, if_neg (fun z => z h)]
  · rw [if_neg h, if_pos h]
set_option maxHeartbeats 2000000 in
set_option maxRecDepth 20000 in
theorem t_X5_readCarrier {M : Mm} {p b N e : Nat} {u : Nat → Nat} (hp : LX5 M.1 M.2.1 p) (hT : PT M p b N e u) {q : Q4} (hg : q.2.2.1 = -1) (hq : cQ (mI M) p q) (hp9 : q.1 ≤ e) (he : e ≤ 900) (hx9 : q.2.1 < 100000) {n : Nat → Int32} (hP : PI (mI M) p n) : Ct G base YX5_readCarrier 7 0 0 [.ref p] M (rI (some (.int (if (crR n q.2.1 u e q).2.2.1 = -1 then 1 else 0))) M (pZ M p (crN n q.2.1 u e q) (crR n q.2.1 u e q))) := by
  refine Ct.of IX5_readCarrier.1 (by simp [Value.category]) (Nat.le_of_ble_eq_true rfl) (fun X hX hN => ?_)
  show J G base X 0 0 M 0 [some (.ref p), none] []
  obtain ⟨hTT, hQS, hDY, hEC, hO⟩ := hP
  have hP : PI (mI M) p n := ⟨hTT, hQS, hDY, hEC, hO⟩
  have hTb := hO.1
  have h0 := hTb.1
  have h1n := hTb.2.1
  have hRt := hTb.2.2
  have hc0 : mI M (p + 1) 0 = nI (nv n 0) := hTT.1.trans h0.1
  have hc1 : mI M (p + 1) 2 = nI (nv n 1) := hTT.2.2.1.trans h1n.1
  have hb0 := h0.2
  have hb1 := h1n.2
  have hBe := eo_le (f := blB u) hp9
  generalize hBB : eo (blB u) e q.1 = B at *
  generalize hWW : eo (lwB u) e B - B = W at *
  have hWe := eo_le (f := lwB u) hBe
  have hWg := eo_ge (f := lwB u) (e := e) (p := B)
  obtain ⟨kbad, kok⟩ := pmQ_c hg hp9 he hBB hWW
  refine r_aload_n hX dX5_readCarrier_0 rfl ?_
  refine r_getr hX dX5_readCarrier_1 fl_X5_12 rfl (LX5_s hp) (LX5_r0 hp) ?_
  refine rn_geti (v := nI (nv n 1)) hX dX5_readCarrier_4 fl_X5_126 rfl (LX9_s (LX5_o0 hp)) hc1 ?_
  refine r_iconst (v := nI 5) hX dX5_readCarrier_7 (by decide) ?_
  refine rn_icmp_lt (tgt := 21) hX dX5_readCarrier_8 (by decide) rfl rfl (by omega) (by omega) (fun c8 => ?_) (fun c8 => ?_)
  · refine r_aload_n hX dX5_readCarrier_21 rfl ?_
    refine r_iV0 hX dX5_readCarrier_22 IX5_readName ml_X5_114 rfl (LX5_s hp) rfl (t_X5_readName hp hT hq hp9 he) (by decide) (by decide) (by decide) (by decide) rfl (Nat.le_of_ble_eq_true rfl) (fun i1 h1 => ?_)
    rw [hBB] at h1
    show J G base X _ _ (wI M i1) _ _ _
    rw [hBB, hWW]
    refine r_istore1 hX dX5_readCarrier_25 rfl ?_
    refine r_iload_n hX dX5_readCarrier_26 rfl ?_
    refine r_if_ne (tgt := 40) hX dX5_readCarrier_27 (by decide) (fun c27 => ?_) (fun c27 => ?_)
    · have hT1 : TT (mI (wI M i1)) (p + 1) n := hTT.kept (fun x x1 x2 k => congrFun (h1.2.1 x (by omega)) k)
      have hm0 : mI (wI M i1) (p + 1) 0 = nI (nv n 0) := hT1.1.trans h0.1
      have hm1 : mI (wI M i1) (p + 1) 2 = nI (nv n 1) := hT1.2.2.1.trans h1n.1
      have hok : 1 ≤ W ∧ W ≤ 6 := Classical.byContradiction (fun z => c27 (by rw [(kbad z).1]; rfl))
      have hnm : NmR (nI (nm32 u B W)) (nI (snV u e q)) := by rw [(kok hok).1]; exact nm_R hok.1 hok.2 (kok hok).2.1
      refine r_aload_n hX dX5_readCarrier_40 rfl ?_
      refine r_getr hX dX5_readCarrier_41 fl_X5_12 rfl (LX5_s hp) (LX5_r0 hp) ?_
      refine r_iload_n hX dX5_readCarrier_44 rfl ?_
      refine r_cV1 hX dX5_readCarrier_45 IX9_hasCarrierNamed ml_X5_129 rfl (LX9_s (LX5_o0 hp)) rfl (t_X9_hasCarrierNamed (M := wI M i1) (LX5_o0 hp) hm1 (by omega)) (by decide) (by decide) (by decide) (by decide) rfl (Nat.le_of_ble_eq_true rfl) ?_
      rw [show (fun k => decide (mI (wI M i1) (p + 1 + 2) k = nI (nm32 u B W))) = fun j => decide (i1 (p + 1 + 2) j = nI (nm32 u B W)) from rfl, fst_cr (i := i1) (b := p + 1) hT1 ⟨hok.1, hok.2, (kok hok).2.1⟩, ← (kok hok).1, it01]
      refine rb_if_eq (tgt := 61) hX dX5_readCarrier_48 (by decide) rfl (fun c48 => ?_) (fun c48 => ?_)
      · refine r_aload_n hX dX5_readCarrier_61 rfl ?_
        refine r_getr hX dX5_readCarrier_62 fl_X5_12 rfl (LX5_s hp) (LX5_r0 hp) ?_
        refine r_iload_n hX dX5_readCarrier_65 rfl ?_
        refine r_iV1 hX dX5_readCarrier_66 IX9_addCarrier ml_X5_133 rfl (LX9_s (LX5_o0 hp)) rfl (t_X9_addCarrier (M := wI M i1) (LX5_o0 hp) hT1 hRt hEC c8 h1n.1 hb0 hnm) (by decide) (by decide) (by decide) (by decide) rfl (Nat.le_of_ble_eq_true rfl) (fun i2 h2 => ?_)
        show J G base X _ _ (wI M i2) _ _ _
        
        refine r_iconst (v := 1) hX dX5_readCarrier_69 (by decide) ?_
        refine r_ireturn hX rfl rfl dX5_readCarrier_70 (by decide) (by decide) ?_
        have hr := (cr_eq (n := n) (u := u) (e := e) rfl hg hx9).2 c8
        have hf1 : fnN n 28 (nI (snV u e q)) (nv n 1) = -1 := Classical.not_not.mp c48
        rw [decide_eq_true hf1, (kok hok).2.2.2.1 3] at hr
        obtain ⟨hr1, hr2⟩ := hr
        have hgd : (crR n q.2.1 u e q).2.2.1 = -1 := by rw [hr1]; exact hg
        have hr3 := hr2 hgd
        have e1 : nv (caN' n (nI (snV u e q))) 1 = nv n 1 + 1 := nv_of upd_s (by omega)
        refine ⟨by rw [hr1, if_pos hg], i2, rfl, fun x hx => ?_, ?_, ⟨B + W, B, ?_, fun _ => by rw [hr1]⟩, fun _ => ⟨?_, ?_, ?_, ?_, crL_ok hO hp9 he hx9 hgd⟩⟩
        · exact (h2.2.2 x (by omega) (by omega) (by omega)).trans (h1.2.1 x (by omega))
        · exact (congrFun (h2.2.2 p (by omega) (by omega) (by omega)) 5).trans (h1.2.2 5 (by omega) (by omega) (by omega) (by omega))
        · rw [hr1]
          have h1c := h1.1
          rw [show eo (lwB u) e B = B + W by omega] at h1c
          have e2 : i2 p = i1 p := h2.2.2 p (by omega) (by omega) (by omega)
          unfold cQ
          rw [e2]
          exact h1c
        · rw [hr3]; exact h2.1
        · rw [hr3]
          refine (hQS.kept (fun x x1 x2 k => ?_)).eq (fun q q1 q2 => ?_)
          · exact congrFun ((h2.2.2 x (by omega) (by omega) (by omega)).trans (h1.2.1 x (by omega))) k
          · obtain ⟨a1, a2, a3⟩ := q2
            simp only [caN']
            rw [upd_o (by omega), upd_o (by omega)]
        · rw [hr3]
          unfold DY
          rw [e1]
          intro hz
          refine (show i2 (p + 4) (nv n 1) = 0 from h2.2.1).trans ((setB_0 (by omega)).mpr (fun w hw => ?_)).symm
          have eA : rtA (nv n 1) w = 43 + 13 * (7 * nv n 1 + w) := rfl
          refine decide_eq_false (fun z => z ?_)
          show caN' n (nI (snV u e q)) (rtA (nv n 1) w) = 0
          simp only [caN']
          rw [upd_o (by omega), upd_o (by omega)]
          exact hEC (nv n 1) (Nat.le_refl _) c8 w hw
        · rw [hr3]
          intro c hc hc5 w hw
          rw [e1] at hc
          have eA : rtA c w = 43 + 13 * (7 * c + w) := rfl
          simp only [caN']
          rw [upd_o (by omega), upd_o (by omega)]
          exact hEC c (by omega) hc5 w hw
      · refine r_aload_n hX dX5_readCarrier_51 rfl ?_
        refine r_iconst (v := nI 3) hX dX5_readCarrier_52 (by decide) ?_
        refine r_aload_n hX dX5_readCarrier_53 rfl ?_
        refine rn_geti (v := nI B) hX dX5_readCarrier_54 fl_X5_42 rfl (LX5_s hp) h1.1.2.1 ?_
        refine r_iV2 hX dX5_readCarrier_57 IX5_fail ml_X5_91 rfl (LX5_s hp) rfl (t_X5_fail (M := wI M i1) hp h1.1 (k := 3) (f := B)) (by decide) (by decide) (by decide) (by decide) rfl (Nat.le_of_ble_eq_true rfl) (fun i4 h4 => ?_)
        show J G base X _ _ (wI M i4) _ _ _
        
        refine r_ireturn hX rfl rfl dX5_readCarrier_60 (by decide) (by decide) ?_
        have hr : (crR n q.2.1 u e q).2.2 = (nI B, nI 3) := by rw [((cr_eq rfl hg hx9).2 c8).1, decide_eq_false c48]; exact (kok hok).2.2.2.2 3
        refine ⟨by rw [show (crR n q.2.1 u e q).2.2.1 = nI B from congrArg Prod.fst hr, if_neg (nI_m1 (by omega))]; first | done | rfl, i4, rfl, pZ.bad (h1.tr h4) hr (nI_m1 (by show B < 100000; omega))⟩
    · refine r_aload_n hX dX5_readCarrier_30 rfl ?_
      refine r_iconst (v := nI 1) hX dX5_readCarrier_31 (by decide) ?_
      refine r_aload_n hX dX5_readCarrier_32 rfl ?_
      refine rn_geti (v := nI B) hX dX5_readCarrier_33 fl_X5_42 rfl (LX5_s hp) h1.1.2.1 ?_
      refine r_iV2 hX dX5_readCarrier_36 IX5_fail ml_X5_91 rfl (LX5_s hp) rfl (t_X5_fail (M := wI M i1) hp h1.1 (k := 1) (f := B)) (by decide) (by decide) (by decide) (by decide) rfl (Nat.le_of_ble_eq_true rfl) (fun i4 h4 => ?_)
      show J G base X _ _ (wI M i4) _ _ _
      
      refine r_ireturn hX rfl rfl dX5_readCarrier_39 (by decide) (by decide) ?_
      have hr : (crR n q.2.1 u e q).2.2 = (nI B, nI 1) := by rw [((cr_eq rfl hg hx9).2 c8).1]; exact (kbad (fun z => (kok z).2.2.1 c27)).2 _ 3
      refine ⟨by rw [show (crR n q.2.1 u e q).2.2.1 = nI B from congrArg Prod.fst hr, if_neg (nI_m1 (by omega))]; first | done | rfl, i4, rfl, pZ.bad (h1.tr h4) hr (nI_m1 (by show B < 100000; omega))⟩
  · refine r_aload_n hX dX5_readCarrier_11 rfl ?_
    refine r_iconst (v := nI 4) hX dX5_readCarrier_12 (by decide) ?_
    refine r_aload_n hX dX5_readCarrier_13 rfl ?_
    refine rn_geti (v := nI q.2.1) hX dX5_readCarrier_14 fl_X5_42 rfl (LX5_s hp) hq.2.1 ?_
    refine r_iV2 hX dX5_readCarrier_17 IX5_fail ml_X5_91 rfl (LX5_s hp) rfl (t_X5_fail (M := M) hp hq (k := 4) (f := q.2.1)) (by decide) (by decide) (by decide) (by decide) rfl (Nat.le_of_ble_eq_true rfl) (fun i4 h4 => ?_)
    show J G base X _ _ (wI M i4) _ _ _
    
    refine r_ireturn hX rfl rfl dX5_readCarrier_20 (by decide) (by decide) ?_
    have hr : (crR n q.2.1 u e q).2.2 = (nI q.2.1, nI 4) := (cr_eq rfl hg hx9).1 (by omega)
    refine ⟨by rw [show (crR n q.2.1 u e q).2.2.1 = nI q.2.1 from congrArg Prod.fst hr, if_neg (nI_m1 (by omega))]; first | done | rfl, i4, rfl, pZ.bad h4 hr (nI_m1 (by show q.2.1 < 100000; omega))⟩
set_option maxHeartbeats 2000000 in
set_option maxRecDepth 20000 in
theorem t_X5_readCapacity {M : Mm} {p b N e : Nat} {u : Nat → Nat} (hp : LX5 M.1 M.2.1 p) (hT : PT M p b N e u) {q : Q4} (hg : q.2.2.1 = -1) (hq : cQ (mI M) p q) (hp9 : q.1 ≤ e) (he : e ≤ 900) (hx9 : q.2.1 < 100000) {n : Nat → Int32} (hP : PI (mI M) p n) : Ct G base YX5_readCapacity 5 0 0 [.ref p] M (rI (some (.int (if (nuQ u e 1 20 q).2.2.1 = -1 then 1 else 0))) M (pZ M p (upd n 5 (nI (nuW u e 1 20 q))) (nuQ u e 1 20 q))) := by
  refine Ct.of IX5_readCapacity.1 (by simp [Value.category]) (Nat.le_of_ble_eq_true rfl) (fun X hX hN => ?_)
  show J G base X 0 0 M 0 [some (.ref p), none] []
  obtain ⟨hTT, hQS, hDY, hEC, hO⟩ := hP
  have hP : PI (mI M) p n := ⟨hTT, hQS, hDY, hEC, hO⟩
  have hTb := hO.1
  have h0 := hTb.1
  have h1n := hTb.2.1
  have hRt := hTb.2.2
  have hc0 : mI M (p + 1) 0 = nI (nv n 0) := hTT.1.trans h0.1
  have hc1 : mI M (p + 1) 2 = nI (nv n 1) := hTT.2.2.1.trans h1n.1
  have hb0 := h0.2
  have hb1 := h1n.2
  
  refine r_aload_n hX dX5_readCapacity_0 rfl ?_
  refine r_iconst (v := nI 1) hX dX5_readCapacity_1 (by decide) ?_
  refine r_bipush (v := nI 20) hX dX5_readCapacity_2 (by decide) ?_
  refine r_iV2 hX dX5_readCapacity_4 IX5_readNumber ml_X5_137 rfl (LX5_s hp) rfl (t_X5_readNumber (M := M) hp hT hg hq hp9 he (lo := 1) (hi9 := 20) (by omega) (by omega)) (by decide) (by decide) (by decide) (by decide) rfl (Nat.le_of_ble_eq_true rfl) (fun i1 h1 => ?_)
  show J G base X _ _ (wI M i1) _ _ _
  
  by_cases hgd : (nuQ u e 1 20 q).2.2.1 = -1
  · rw [if_pos hgd]
    obtain ⟨-, nw1, nw2⟩ := nuW_hi (u := u) (lo := 1) (hi := 20) hp9 he hgd
    refine r_istore1 hX dX5_readCapacity_7 rfl ?_
    refine r_iload_n hX dX5_readCapacity_8 rfl ?_
    refine r_iconst (v := (-1)) hX dX5_readCapacity_9 (by decide) ?_
    refine r_icmp_ne (tgt := 15) hX dX5_readCapacity_10 (by decide) (fun c10 => ?_) (fun c10 => absurd c10 (nI_m1 (by omega)))
    refine r_aload_n hX dX5_readCapacity_15 rfl ?_
    refine r_getr hX dX5_readCapacity_16 fl_X5_21 rfl (LX5_s hp) (LX5_r1 hp) ?_
    refine r_iload_n hX dX5_readCapacity_19 rfl ?_
    refine r_puti hX dX5_readCapacity_20 fl_X5_156 rfl rfl (LX8_s (LX5_o1 hp)) ?_
    refine r_iconst (v := 1) hX dX5_readCapacity_23 (by decide) ?_
    refine r_ireturn hX rfl rfl dX5_readCapacity_24 (by decide) (by decide) ?_
    refine ⟨by rw [if_pos hgd], mI (uI (wI M i1) (p + 7) 1 (nI (nuW u e 1 20 q))), rfl, fun x hx => ?_, ?_, ⟨(nuQ u e 1 20 q).1, (nuQ u e 1 20 q).2.1, ?_, fun _ => rfl⟩, fun _ => ⟨?_, ?_, ?_, ?_, cpL_ok hO hp9 he hgd⟩⟩
    · exact (uIo (by omega)).trans (h1.2.1 x (by omega))
    · exact (congrFun (uIo (by omega)) 5).trans (h1.2.2 5 (by omega) (by omega) (by omega) (by omega))
    · have e2 : mI (uI (wI M i1) (p + 7) 1 (nI (nuW u e 1 20 q))) p = i1 p := uIo (by omega)
      unfold cQ
      rw [e2]
      exact h1.1
    · refine TT.eq (n := n) (hTT.kept (fun x x1 x2 k => ?_)) ⟨(upd_o (by omega)).symm, (upd_o (by omega)).symm, fun q q1 q2 => (upd_o (by omega)).symm, fun q q1 q2 => (upd_o (by omega)).symm⟩ hb0 hb1 hRt
      exact (congrFun (uIo (by omega)) k).trans (congrFun (h1.2.1 x (by omega)) k)
    · refine ⟨RS.nf (M := wI M i1) (a := p + 7) (hQS.1.kept (fun x x1 x2 k => congrFun (h1.2.1 x (by omega)) k)) (Or.inr (Or.inl ⟨rfl, rfl⟩)), fun c hc => ?_⟩
      rw [upd_o (by omega)]
      exact (congrFun (show mI (uI (wI M i1) (p + 7) 1 (nI (nuW u e 1 20 q))) (p + 7 + 1) = i1 (p + 7 + 1) from uIo (by omega)) c).trans ((congrFun (h1.2.1 (p + 7 + 1) (by omega)) c).trans (hQS.2 c hc))
    · have e1 : nv (upd n 5 (nI (nuW u e 1 20 q))) 1 = nv n 1 := nv_eq (upd_o (by omega))
      unfold DY
      rw [e1]
      intro hz
      rw [(uIo (by omega) : mI (uI (wI M i1) (p + 7) 1 (nI (nuW u e 1 20 q))) (p + 4) = _)]
      refine ((congrFun (h1.2.1 (p + 4) (by omega)) _).trans (hDY hz)).trans (setB_congr (fun w hw => ?_))
      have eA : rtA (nv n 1 - 1) w = 43 + 13 * (7 * (nv n 1 - 1) + w) := rfl
      have e8 : upd n 5 (nI (nuW u e 1 20 q)) (rtA (nv n 1 - 1) w) = n (rtA (nv n 1 - 1) w) := upd_o (by omega)
      exact decide_eq_decide.mpr (by rw [e8])
    · have e1 : nv (upd n 5 (nI (nuW u e 1 20 q))) 1 = nv n 1 := nv_eq (upd_o (by omega))
      intro c hc hc5 w hw
      rw [e1] at hc
      have eA : rtA c w = 43 + 13 * (7 * c + w) := rfl
      rw [upd_o (by omega)]
      exact hEC c hc hc5 w hw
  · rw [if_neg hgd]
    refine r_istore1 hX dX5_readCapacity_7 rfl ?_
    refine r_iload_n hX dX5_readCapacity_8 rfl ?_
    refine r_iconst (v := (-1)) hX dX5_readCapacity_9 (by decide) ?_
    refine r_icmp_ne (tgt := 15) hX dX5_readCapacity_10 (by decide) (fun c10 => absurd rfl c10) (fun c10 => ?_)
    refine r_iconst (v := 0) hX dX5_readCapacity_13 (by decide) ?_
    refine r_ireturn hX rfl rfl dX5_readCapacity_14 (by decide) (by decide) ?_
    exact ⟨by rw [if_neg hgd], i1, rfl, pZ.bad h1 rfl hgd⟩
