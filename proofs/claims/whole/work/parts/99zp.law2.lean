variable {G : GG} {base : Nat}
set_option maxHeartbeats 4000000 in
set_option maxRecDepth 20000 in
theorem law_8 {X : Cx} {b L : Nat} {xs : Nat → Int32} (hX : okL G base X) (hnc : ncX X) (hsc : scX X base b L xs) : Case G base X b L xs 544 := by
  intro M x r o T i cs sl σ h hT hi hL9 hcs hsl K
  show J G base X cs sl M 544 (lcs b x r o i) []
  refine r_aload_n hX dL_law_544 rfl ?_
  refine r_aload_n hX dL_law_545 rfl ?_
  refine r_iload hX dL_law_546 rfl ?_
  refine r_iconst (v := nI 1) hX dL_law_548 (by decide) ?_
  refine rn_iadd hX dL_law_549 rfl rfl ?_
  refine r_sld hX hsc dL_law_550 (by omega) hL9 ?_
  refine r_aload_n hX dL_law_551 rfl ?_
  refine r_iload hX dL_law_552 rfl ?_
  refine r_iconst (v := nI 2) hX dL_law_554 (by decide) ?_
  refine rn_iadd hX dL_law_555 rfl rfl ?_
  refine r_sld hX hsc dL_law_556 (by omega) hL9 ?_
  refine r_aload_n hX dL_law_557 rfl ?_
  refine r_iload hX dL_law_558 rfl ?_
  refine r_iconst (v := nI 3) hX dL_law_560 (by decide) ?_
  refine rn_iadd hX dL_law_561 rfl rfl ?_
  refine r_sld hX hsc dL_law_562 (by omega) hL9 ?_
  refine r_aload_n hX dL_law_563 rfl ?_
  refine r_callH (As := [.ref x, .int (xs (i + 1)), .int (xs (i + 2)), .int (xs (i + 3)), .ref o]) (rest := []) hX hnc dL_law_564 IH_stop ml_L_175 rfl (t_L_stop h.lx h.ci h.gs.1 (by omega) h.gs.2.1 h.so h.xo h.nt) (by decide) hcs hsl (by decide) rfl (Nat.le_of_ble_eq_true rfl) (fun v N hp => ?_) (fun E N hp => by obtain ⟨kk, h1, -⟩ := hp; cases h1)
  obtain ⟨kk, hv, hk1, hk2, hk3, hk4, hCN, hr⟩ := hp
  cases hv
  have hLN := h.l11 hk2
  have hRN := h.ri hk4
  refine r_istore5 hX dL_law_567 rfl ?_
  refine r_aload_n hX dL_law_569 rfl ?_
  refine r_aload_n hX dL_law_570 rfl ?_
  refine r_iload hX dL_law_571 rfl ?_
  refine r_iconst (v := nI 1) hX dL_law_573 (by decide) ?_
  refine rn_iadd hX dL_law_574 rfl rfl ?_
  refine r_sld hX hsc dL_law_575 (by omega) hL9 ?_
  refine r_aload_n hX dL_law_576 rfl ?_
  refine r_iload hX dL_law_577 rfl ?_
  refine r_iconst (v := nI 2) hX dL_law_579 (by decide) ?_
  refine rn_iadd hX dL_law_580 rfl rfl ?_
  refine r_sld hX hsc dL_law_581 (by omega) hL9 ?_
  refine r_aload_n hX dL_law_582 rfl ?_
  refine r_iload hX dL_law_583 rfl ?_
  refine r_iconst (v := nI 3) hX dL_law_585 (by decide) ?_
  refine rn_iadd hX dL_law_586 rfl rfl ?_
  refine r_sld hX hsc dL_law_587 (by omega) hL9 ?_
  refine r_vV3 hX dL_law_588 IX11_stop ml_L_178 rfl (LX11_s hLN) rfl (t_X11_stop hLN hRN h.gs.1 (by omega)) (by decide) (by omega) (by omega) (by decide) rfl (Nat.le_of_ble_eq_true rfl) (fun v2 i2 hq => ?_)
  show J G base X _ _ (wI N i2) _ _ _
  obtain ⟨hfin, hth, hval⟩ := lawfin h hk1 hk2 hk3 hCN hr hq (h.gs.mono (show T ≤ T + 168 by omega))
  refine r_istore6 hX dL_law_591 rfl ?_
  refine r_aload_n hX dL_law_593 rfl ?_
  refine r_cV0 hX dL_law_594 IX11_thrown ml_L_153 rfl (LX11_s hLN) rfl (t_X11_thrown (M := wI N i2) hLN) (by decide) (by omega) (by omega) (by decide) rfl (Nat.le_of_ble_eq_true rfl) ?_
  refine r_iload hX dL_law_597 rfl ?_
  refine r_icmp_eq (tgt := 604) hX dL_law_599 (by decide) (fun _ => ?_) (fun z => absurd hth z)
  refine r_iload hX dL_law_604 rfl ?_
  refine r_if_ne (tgt := 621) hX dL_law_606 (by decide) (fun _ => ?_) (fun c0 => ?_)
  · refine r_goto (tgt := 2758) hX dL_law_621 (by decide) ?_
    exact J.junk (K _ _ hfin) (by repeat first | exact trivial | refine ⟨rfl, ?_⟩)
  · refine r_aload_n hX dL_law_609 rfl ?_
    refine r_iconst (v := nI 0) hX dL_law_610 (by decide) ?_
    refine r_lald (n := 1) hX dL_law_611 (h.on hk2) (vp_in_nI (by omega) (by omega)) ?_
    rw [nI_clamp (by omega)]
    refine r_iload hX dL_law_612 rfl ?_
    refine r_i2l hX dL_law_614 ?_
    refine r_lcmp hX dL_law_615 ?_
    refine r_if_eq (tgt := 621) hX dL_law_616 (by decide) (fun _ => ?_) (fun z => absurd ((lg_cmp_eq _ _).mpr (hval c0)) z)
    refine r_goto (tgt := 2758) hX dL_law_621 (by decide) ?_
    exact J.junk (K _ _ hfin) (by repeat first | exact trivial | refine ⟨rfl, ?_⟩)
set_option maxHeartbeats 4000000 in
set_option maxRecDepth 20000 in
theorem law_9 {X : Cx} {b L : Nat} {xs : Nat → Int32} (hX : okL G base X) (hnc : ncX X) (hsc : scX X base b L xs) : Case G base X b L xs 624 := by
  intro M x r o T i cs sl σ h hT hi hL9 hcs hsl K
  show J G base X cs sl M 624 (lcs b x r o i) []
  refine r_aload_n hX dL_law_624 rfl ?_
  refine r_aload_n hX dL_law_625 rfl ?_
  refine r_iload hX dL_law_626 rfl ?_
  refine r_iconst (v := nI 1) hX dL_law_628 (by decide) ?_
  refine rn_iadd hX dL_law_629 rfl rfl ?_
  refine r_sld hX hsc dL_law_630 (by omega) hL9 ?_
  refine r_aload_n hX dL_law_631 rfl ?_
  refine r_callH (As := [.ref x, .int (xs (i + 1)), .ref o]) (rest := []) hX hnc dL_law_632 IH_placeOf ml_L_179 rfl (t_L_placeOf h.lx h.ci h.gs.1 (by omega) h.so h.xo h.nt) (by decide) hcs hsl (by decide) rfl (Nat.le_of_ble_eq_true rfl) (fun v N hp => ?_) (fun E N hp => by obtain ⟨kk, h1, -⟩ := hp; cases h1)
  obtain ⟨kk, hv, hk1, hk2, hk3, hk4, hCN, hr⟩ := hp
  cases hv
  have hLN := h.l11 hk2
  have hRN := h.ri hk4
  refine r_istore5 hX dL_law_635 rfl ?_
  refine r_aload_n hX dL_law_637 rfl ?_
  refine r_aload_n hX dL_law_638 rfl ?_
  refine r_iload hX dL_law_639 rfl ?_
  refine r_iconst (v := nI 1) hX dL_law_641 (by decide) ?_
  refine rn_iadd hX dL_law_642 rfl rfl ?_
  refine r_sld hX hsc dL_law_643 (by omega) hL9 ?_
  refine r_vV1 hX dL_law_644 IX11_placeOf ml_L_181 rfl (LX11_s hLN) rfl (t_X11_placeOf hLN hRN h.gs.1 (by omega)) (by decide) (by omega) (by omega) (by decide) rfl (Nat.le_of_ble_eq_true rfl) (fun v2 i2 hq => ?_)
  show J G base X _ _ (wI N i2) _ _ _
  obtain ⟨hfin, hth, hval⟩ := lawfin h hk1 hk2 hk3 hCN hr hq (h.gs.mono (show T ≤ T + 168 by omega))
  refine r_istore6 hX dL_law_647 rfl ?_
  refine r_aload_n hX dL_law_649 rfl ?_
  refine r_cV0 hX dL_law_650 IX11_thrown ml_L_153 rfl (LX11_s hLN) rfl (t_X11_thrown (M := wI N i2) hLN) (by decide) (by omega) (by omega) (by decide) rfl (Nat.le_of_ble_eq_true rfl) ?_
  refine r_iload hX dL_law_653 rfl ?_
  refine r_icmp_eq (tgt := 660) hX dL_law_655 (by decide) (fun _ => ?_) (fun z => absurd hth z)
  refine r_iload hX dL_law_660 rfl ?_
  refine r_if_ne (tgt := 677) hX dL_law_662 (by decide) (fun _ => ?_) (fun c0 => ?_)
  · refine r_goto (tgt := 2758) hX dL_law_677 (by decide) ?_
    exact J.junk (K _ _ hfin) (by repeat first | exact trivial | refine ⟨rfl, ?_⟩)
  · refine r_aload_n hX dL_law_665 rfl ?_
    refine r_iconst (v := nI 0) hX dL_law_666 (by decide) ?_
    refine r_lald (n := 1) hX dL_law_667 (h.on hk2) (vp_in_nI (by omega) (by omega)) ?_
    rw [nI_clamp (by omega)]
    refine r_iload hX dL_law_668 rfl ?_
    refine r_i2l hX dL_law_670 ?_
    refine r_lcmp hX dL_law_671 ?_
    refine r_if_eq (tgt := 677) hX dL_law_672 (by decide) (fun _ => ?_) (fun z => absurd ((lg_cmp_eq _ _).mpr (hval c0)) z)
    refine r_goto (tgt := 2758) hX dL_law_677 (by decide) ?_
    exact J.junk (K _ _ hfin) (by repeat first | exact trivial | refine ⟨rfl, ?_⟩)
set_option maxHeartbeats 4000000 in
set_option maxRecDepth 20000 in
theorem law_10 {X : Cx} {b L : Nat} {xs : Nat → Int32} (hX : okL G base X) (hnc : ncX X) (hsc : scX X base b L xs) : Case G base X b L xs 680 := by
  intro M x r o T i cs sl σ h hT hi hL9 hcs hsl K
  show J G base X cs sl M 680 (lcs b x r o i) []
  refine r_aload_n hX dL_law_680 rfl ?_
  refine r_aload_n hX dL_law_681 rfl ?_
  refine r_iload hX dL_law_682 rfl ?_
  refine r_iconst (v := nI 1) hX dL_law_684 (by decide) ?_
  refine rn_iadd hX dL_law_685 rfl rfl ?_
  refine r_sld hX hsc dL_law_686 (by omega) hL9 ?_
  refine r_aload_n hX dL_law_687 rfl ?_
  refine r_callH (As := [.ref x, .int (xs (i + 1)), .ref o]) (rest := []) hX hnc dL_law_688 IH_nextStop ml_L_182 rfl (t_L_nextStop h.lx h.ci h.gs.1 (by omega) h.so h.xo h.nt) (by decide) hcs hsl (by decide) rfl (Nat.le_of_ble_eq_true rfl) (fun v N hp => ?_) (fun E N hp => by obtain ⟨kk, h1, -⟩ := hp; cases h1)
  obtain ⟨kk, hv, hk1, hk2, hk3, hk4, hCN, hr⟩ := hp
  cases hv
  have hLN := h.l11 hk2
  have hRN := h.ri hk4
  refine r_istore5 hX dL_law_691 rfl ?_
  refine r_aload_n hX dL_law_693 rfl ?_
  refine r_aload_n hX dL_law_694 rfl ?_
  refine r_iload hX dL_law_695 rfl ?_
  refine r_iconst (v := nI 1) hX dL_law_697 (by decide) ?_
  refine rn_iadd hX dL_law_698 rfl rfl ?_
  refine r_sld hX hsc dL_law_699 (by omega) hL9 ?_
  refine r_vV1 hX dL_law_700 IX11_nextStop ml_L_184 rfl (LX11_s hLN) rfl (t_X11_nextStop hLN hRN h.gs.1 (by omega)) (by decide) (by omega) (by omega) (by decide) rfl (Nat.le_of_ble_eq_true rfl) (fun v2 i2 hq => ?_)
  show J G base X _ _ (wI N i2) _ _ _
  obtain ⟨hfin, hth, hval⟩ := lawfin h hk1 hk2 hk3 hCN hr hq (h.gs.mono (show T ≤ T + 168 by omega))
  refine r_istore6 hX dL_law_703 rfl ?_
  refine r_aload_n hX dL_law_705 rfl ?_
  refine r_cV0 hX dL_law_706 IX11_thrown ml_L_153 rfl (LX11_s hLN) rfl (t_X11_thrown (M := wI N i2) hLN) (by decide) (by omega) (by omega) (by decide) rfl (Nat.le_of_ble_eq_true rfl) ?_
  refine r_iload hX dL_law_709 rfl ?_
  refine r_icmp_eq (tgt := 716) hX dL_law_711 (by decide) (fun _ => ?_) (fun z => absurd hth z)
  refine r_iload hX dL_law_716 rfl ?_
  refine r_if_ne (tgt := 733) hX dL_law_718 (by decide) (fun _ => ?_) (fun c0 => ?_)
  · refine r_goto (tgt := 2758) hX dL_law_733 (by decide) ?_
    exact J.junk (K _ _ hfin) (by repeat first | exact trivial | refine ⟨rfl, ?_⟩)
  · refine r_aload_n hX dL_law_721 rfl ?_
    refine r_iconst (v := nI 0) hX dL_law_722 (by decide) ?_
    refine r_lald (n := 1) hX dL_law_723 (h.on hk2) (vp_in_nI (by omega) (by omega)) ?_
    rw [nI_clamp (by omega)]
    refine r_iload hX dL_law_724 rfl ?_
    refine r_i2l hX dL_law_726 ?_
    refine r_lcmp hX dL_law_727 ?_
    refine r_if_eq (tgt := 733) hX dL_law_728 (by decide) (fun _ => ?_) (fun z => absurd ((lg_cmp_eq _ _).mpr (hval c0)) z)
    refine r_goto (tgt := 2758) hX dL_law_733 (by decide) ?_
    exact J.junk (K _ _ hfin) (by repeat first | exact trivial | refine ⟨rfl, ?_⟩)
set_option maxHeartbeats 4000000 in
set_option maxRecDepth 20000 in
theorem law_11 {X : Cx} {b L : Nat} {xs : Nat → Int32} (hX : okL G base X) (hnc : ncX X) (hsc : scX X base b L xs) : Case G base X b L xs 736 := by
  intro M x r o T i cs sl σ h hT hi hL9 hcs hsl K
  show J G base X cs sl M 736 (lcs b x r o i) []
  refine r_aload_n hX dL_law_736 rfl ?_
  refine r_aload_n hX dL_law_737 rfl ?_
  refine r_iload hX dL_law_738 rfl ?_
  refine r_iconst (v := nI 1) hX dL_law_740 (by decide) ?_
  refine rn_iadd hX dL_law_741 rfl rfl ?_
  refine r_sld hX hsc dL_law_742 (by omega) hL9 ?_
  refine r_aload_n hX dL_law_743 rfl ?_
  refine r_callH (As := [.ref x, .int (xs (i + 1)), .ref o]) (rest := []) hX hnc dL_law_744 IH_isOnStrike ml_L_185 rfl (t_L_isOnStrike h.lx h.ci h.gs.1 (by omega) h.so h.xo h.nt) (by decide) hcs hsl (by decide) rfl (Nat.le_of_ble_eq_true rfl) (fun v N hp => ?_) (fun E N hp => by obtain ⟨kk, h1, -⟩ := hp; cases h1)
  obtain ⟨kk, hv, hk1, hk2, hk3, hk4, hCN, hr⟩ := hp
  cases hv
  have hLN := h.l11 hk2
  have hRN := h.ri hk4
  refine r_istore5 hX dL_law_747 rfl ?_
  refine r_aload_n hX dL_law_749 rfl ?_
  refine r_aload_n hX dL_law_750 rfl ?_
  refine r_iload hX dL_law_751 rfl ?_
  refine r_iconst (v := nI 1) hX dL_law_753 (by decide) ?_
  refine rn_iadd hX dL_law_754 rfl rfl ?_
  refine r_sld hX hsc dL_law_755 (by omega) hL9 ?_
  refine r_vV1 hX dL_law_756 IX11_isOnStrike ml_L_187 rfl (LX11_s hLN) rfl (t_X11_isOnStrike hLN hRN h.gs.1 (by omega)) (by decide) (by omega) (by omega) (by decide) rfl (Nat.le_of_ble_eq_true rfl) (fun v2 i2 hq => ?_)
  show J G base X _ _ (wI N i2) _ _ _
  obtain ⟨hfin, hth, hval⟩ := lawfin h hk1 hk2 hk3 hCN hr hq (h.gs.mono (show T ≤ T + 168 by omega))
  refine r_istore6 hX dL_law_759 rfl ?_
  refine r_aload_n hX dL_law_761 rfl ?_
  refine r_cV0 hX dL_law_762 IX11_thrown ml_L_153 rfl (LX11_s hLN) rfl (t_X11_thrown (M := wI N i2) hLN) (by decide) (by omega) (by omega) (by decide) rfl (Nat.le_of_ble_eq_true rfl) ?_
  refine r_iload hX dL_law_765 rfl ?_
  refine r_icmp_eq (tgt := 772) hX dL_law_767 (by decide) (fun _ => ?_) (fun z => absurd hth z)
  refine r_iload hX dL_law_772 rfl ?_
  refine r_if_ne (tgt := 796) hX dL_law_774 (by decide) (fun _ => ?_) (fun c0 => ?_)
  · refine r_goto (tgt := 2758) hX dL_law_796 (by decide) ?_
    exact J.junk (K _ _ hfin) (by repeat first | exact trivial | refine ⟨rfl, ?_⟩)
  · refine r_aload_n hX dL_law_777 rfl ?_
    refine r_iconst (v := nI 0) hX dL_law_778 (by decide) ?_
    refine r_lald (n := 1) hX dL_law_779 (h.on hk2) (vp_in_nI (by omega) (by omega)) ?_
    rw [nI_clamp (by omega)]
    refine r_iload hX dL_law_780 rfl ?_
    refine r_if_eq (tgt := 789) hX dL_law_782 (by decide) (fun c1 => ?_) (fun c1 => ?_)
    · refine r_lconst (n := 0) hX dL_law_789 ?_
      refine r_lcmp hX dL_law_790 ?_
      refine r_if_eq (tgt := 796) hX dL_law_791 (by decide) (fun _ => ?_) (fun z => absurd ((lg_cmp_eq _ _).mpr ((hval c0).trans (by unfold fB; rw [if_pos c1]; rfl))) z)
      refine r_goto (tgt := 2758) hX dL_law_796 (by decide) ?_
      exact J.junk (K _ _ hfin) (by repeat first | exact trivial | refine ⟨rfl, ?_⟩)
    · refine r_lconst (n := 1) hX dL_law_785 ?_
      refine r_goto (tgt := 790) hX dL_law_786 (by decide) ?_
      refine r_lcmp hX dL_law_790 ?_
      refine r_if_eq (tgt := 796) hX dL_law_791 (by decide) (fun _ => ?_) (fun z => absurd ((lg_cmp_eq _ _).mpr ((hval c0).trans (by unfold fB; rw [if_neg c1]; rfl))) z)
      refine r_goto (tgt := 2758) hX dL_law_796 (by decide) ?_
      exact J.junk (K _ _ hfin) (by repeat first | exact trivial | refine ⟨rfl, ?_⟩)
set_option maxHeartbeats 4000000 in
set_option maxRecDepth 20000 in
theorem law_12 {X : Cx} {b L : Nat} {xs : Nat → Int32} (hX : okL G base X) (hnc : ncX X) (hsc : scX X base b L xs) : Case G base X b L xs 799 := by
  intro M x r o T i cs sl σ h hT hi hL9 hcs hsl K
  show J G base X cs sl M 799 (lcs b x r o i) []
  refine r_aload_n hX dL_law_799 rfl ?_
  refine r_aload_n hX dL_law_800 rfl ?_
  refine r_iload hX dL_law_801 rfl ?_
  refine r_iconst (v := nI 1) hX dL_law_803 (by decide) ?_
  refine rn_iadd hX dL_law_804 rfl rfl ?_
  refine r_sld hX hsc dL_law_805 (by omega) hL9 ?_
  refine r_aload_n hX dL_law_806 rfl ?_
  refine r_callH (As := [.ref x, .int (xs (i + 1)), .ref o]) (rest := []) hX hnc dL_law_807 IH_carriersAt ml_L_188 rfl (t_L_carriersAt h.lx h.ci h.gs.1 (by omega) h.so h.xo h.nt) (by decide) hcs hsl (by decide) rfl (Nat.le_of_ble_eq_true rfl) (fun v N hp => ?_) (fun E N hp => by obtain ⟨kk, h1, -⟩ := hp; cases h1)
  obtain ⟨kk, hv, hk1, hk2, hk3, hk4, hCN, hr⟩ := hp
  cases hv
  have hLN := h.l11 hk2
  have hRN := h.ri hk4
  refine r_istore5 hX dL_law_810 rfl ?_
  refine r_aload_n hX dL_law_812 rfl ?_
  refine r_aload_n hX dL_law_813 rfl ?_
  refine r_iload hX dL_law_814 rfl ?_
  refine r_iconst (v := nI 1) hX dL_law_816 (by decide) ?_
  refine rn_iadd hX dL_law_817 rfl rfl ?_
  refine r_sld hX hsc dL_law_818 (by omega) hL9 ?_
  refine r_vV1 hX dL_law_819 IX11_carriersAt ml_L_190 rfl (LX11_s hLN) rfl (t_X11_carriersAt hLN hRN h.gs.1 (by omega)) (by decide) (by omega) (by omega) (by decide) rfl (Nat.le_of_ble_eq_true rfl) (fun v2 i2 hq => ?_)
  show J G base X _ _ (wI N i2) _ _ _
  obtain ⟨hfin, hth, hval⟩ := lawfin h hk1 hk2 hk3 hCN hr hq (h.gs.mono (show T ≤ T + 168 by omega))
  refine r_istore6 hX dL_law_822 rfl ?_
  refine r_aload_n hX dL_law_824 rfl ?_
  refine r_cV0 hX dL_law_825 IX11_thrown ml_L_153 rfl (LX11_s hLN) rfl (t_X11_thrown (M := wI N i2) hLN) (by decide) (by omega) (by omega) (by decide) rfl (Nat.le_of_ble_eq_true rfl) ?_
  refine r_iload hX dL_law_828 rfl ?_
  refine r_icmp_eq (tgt := 835) hX dL_law_830 (by decide) (fun _ => ?_) (fun z => absurd hth z)
  refine r_iload hX dL_law_835 rfl ?_
  refine r_if_ne (tgt := 852) hX dL_law_837 (by decide) (fun _ => ?_) (fun c0 => ?_)
  · refine r_goto (tgt := 2758) hX dL_law_852 (by decide) ?_
    exact J.junk (K _ _ hfin) (by repeat first | exact trivial | refine ⟨rfl, ?_⟩)
  · refine r_aload_n hX dL_law_840 rfl ?_
    refine r_iconst (v := nI 0) hX dL_law_841 (by decide) ?_
    refine r_lald (n := 1) hX dL_law_842 (h.on hk2) (vp_in_nI (by omega) (by omega)) ?_
    rw [nI_clamp (by omega)]
    refine r_iload hX dL_law_843 rfl ?_
    refine r_i2l hX dL_law_845 ?_
    refine r_lcmp hX dL_law_846 ?_
    refine r_if_eq (tgt := 852) hX dL_law_847 (by decide) (fun _ => ?_) (fun z => absurd ((lg_cmp_eq _ _).mpr (hval c0)) z)
    refine r_goto (tgt := 2758) hX dL_law_852 (by decide) ?_
    exact J.junk (K _ _ hfin) (by repeat first | exact trivial | refine ⟨rfl, ?_⟩)
set_option maxHeartbeats 4000000 in
set_option maxRecDepth 20000 in
theorem law_13 {X : Cx} {b L : Nat} {xs : Nat → Int32} (hX : okL G base X) (hnc : ncX X) (hsc : scX X base b L xs) : Case G base X b L xs 855 := by
  intro M x r o T i cs sl σ h hT hi hL9 hcs hsl K
  show J G base X cs sl M 855 (lcs b x r o i) []
  refine r_aload_n hX dL_law_855 rfl ?_
  refine r_callV (As := []) (rest := []) hX dL_law_856 IX10_meetings ml_L_191 rfl (LX10_s h.lx) rfl (t_c_meetings h.lx h.ci h.gs.1 (by omega)) (by decide) hcs hsl (by decide) rfl (Nat.le_of_ble_eq_true rfl) (fun v N hp => ?_) (fun E N hp => ?_)
  · obtain ⟨w, hw, rfl, hk, hCN⟩ := hp.ret h.lx h.nt
    have hLN := h.l11 hk.2.1
    have hRN := h.ri hk.2.2.2.1
    refine r_aload_n hX dL_law_859 rfl ?_
    refine r_vV0 hX dL_law_860 IX11_meetings ml_L_194 rfl (LX11_s hLN) rfl (t_X11_meetings hLN hRN h.gs.1 (by omega)) (by decide) (by omega) (by omega) (by decide) rfl (Nat.le_of_ble_eq_true rfl) (fun v2 i2 hq => ?_)
    show J G base X _ _ (wI N i2) _ _ _
    obtain ⟨hfin, hveq⟩ := lawfin0 h hk hCN hw hq (h.gs.mono (show T ≤ T + 168 by omega))
    refine r_icmp_eq (tgt := 2758) hX dL_law_863 (by decide) (fun _ => ?_) (fun z => absurd hveq z)
    exact J.junk (K _ _ hfin) (by repeat first | exact trivial | refine ⟨rfl, ?_⟩)
  · obtain ⟨k, hw, -⟩ := hp.thr h.lx h.nt
    unfold rs_meetings at hw
    (repeat' split at hw) <;> cases hw
set_option maxHeartbeats 4000000 in
set_option maxRecDepth 20000 in
theorem law_14 {X : Cx} {b L : Nat} {xs : Nat → Int32} (hX : okL G base X) (hnc : ncX X) (hsc : scX X base b L xs) : Case G base X b L xs 868 := by
  intro M x r o T i cs sl σ h hT hi hL9 hcs hsl K
  show J G base X cs sl M 868 (lcs b x r o i) []
  refine r_aload_n hX dL_law_868 rfl ?_
  refine r_aload_n hX dL_law_869 rfl ?_
  refine r_iload hX dL_law_870 rfl ?_
  refine r_iconst (v := nI 1) hX dL_law_872 (by decide) ?_
  refine rn_iadd hX dL_law_873 rfl rfl ?_
  refine r_sld hX hsc dL_law_874 (by omega) hL9 ?_
  refine r_aload_n hX dL_law_875 rfl ?_
  refine r_callH (As := [.ref x, .int (xs (i + 1)), .ref o]) (rest := []) hX hnc dL_law_876 IH_sackOf ml_L_195 rfl (t_L_sackOf h.lx h.ci h.gs.1 (by omega) h.so h.xo h.nt) (by decide) hcs hsl (by decide) rfl (Nat.le_of_ble_eq_true rfl) (fun v N hp => ?_) (fun E N hp => by obtain ⟨kk, h1, -⟩ := hp; cases h1)
  obtain ⟨kk, hv, hk1, hk2, hk3, hk4, hCN, hr⟩ := hp
  cases hv
  have hLN := h.l11 hk2
  have hRN := h.ri hk4
  refine r_istore5 hX dL_law_879 rfl ?_
  refine r_aload_n hX dL_law_881 rfl ?_
  refine r_aload_n hX dL_law_882 rfl ?_
  refine r_iload hX dL_law_883 rfl ?_
  refine r_iconst (v := nI 1) hX dL_law_885 (by decide) ?_
  refine rn_iadd hX dL_law_886 rfl rfl ?_
  refine r_sld hX hsc dL_law_887 (by omega) hL9 ?_
  refine r_vV1 hX dL_law_888 IX11_sackOf ml_L_197 rfl (LX11_s hLN) rfl (t_X11_sackOf hLN hRN h.gs.1 (by omega)) (by decide) (by omega) (by omega) (by decide) rfl (Nat.le_of_ble_eq_true rfl) (fun v2 i2 hq => ?_)
  show J G base X _ _ (wI N i2) _ _ _
  obtain ⟨hfin, hth, hval⟩ := lawfin h hk1 hk2 hk3 hCN hr hq (h.gs.mono (show T ≤ T + 168 by omega))
  refine r_istore6 hX dL_law_891 rfl ?_
  refine r_aload_n hX dL_law_893 rfl ?_
  refine r_cV0 hX dL_law_894 IX11_thrown ml_L_153 rfl (LX11_s hLN) rfl (t_X11_thrown (M := wI N i2) hLN) (by decide) (by omega) (by omega) (by decide) rfl (Nat.le_of_ble_eq_true rfl) ?_
  refine r_iload hX dL_law_897 rfl ?_
  refine r_icmp_eq (tgt := 904) hX dL_law_899 (by decide) (fun _ => ?_) (fun z => absurd hth z)
  refine r_iload hX dL_law_904 rfl ?_
  refine r_if_ne (tgt := 921) hX dL_law_906 (by decide) (fun _ => ?_) (fun c0 => ?_)
  · refine r_goto (tgt := 2758) hX dL_law_921 (by decide) ?_
    exact J.junk (K _ _ hfin) (by repeat first | exact trivial | refine ⟨rfl, ?_⟩)
  · refine r_aload_n hX dL_law_909 rfl ?_
    refine r_iconst (v := nI 0) hX dL_law_910 (by decide) ?_
    refine r_lald (n := 1) hX dL_law_911 (h.on hk2) (vp_in_nI (by omega) (by omega)) ?_
    rw [nI_clamp (by omega)]
    refine r_iload hX dL_law_912 rfl ?_
    refine r_i2l hX dL_law_914 ?_
    refine r_lcmp hX dL_law_915 ?_
    refine r_if_eq (tgt := 921) hX dL_law_916 (by decide) (fun _ => ?_) (fun z => absurd ((lg_cmp_eq _ _).mpr (hval c0)) z)
    refine r_goto (tgt := 2758) hX dL_law_921 (by decide) ?_
    exact J.junk (K _ _ hfin) (by repeat first | exact trivial | refine ⟨rfl, ?_⟩)
set_option maxHeartbeats 4000000 in
set_option maxRecDepth 20000 in
theorem law_15 {X : Cx} {b L : Nat} {xs : Nat → Int32} (hX : okL G base X) (hnc : ncX X) (hsc : scX X base b L xs) : Case G base X b L xs 924 := by
  intro M x r o T i cs sl σ h hT hi hL9 hcs hsl K
  show J G base X cs sl M 924 (lcs b x r o i) []
  refine r_aload_n hX dL_law_924 rfl ?_
  refine r_aload_n hX dL_law_925 rfl ?_
  refine r_iload hX dL_law_926 rfl ?_
  refine r_iconst (v := nI 1) hX dL_law_928 (by decide) ?_
  refine rn_iadd hX dL_law_929 rfl rfl ?_
  refine r_sld hX hsc dL_law_930 (by omega) hL9 ?_
  refine r_aload_n hX dL_law_931 rfl ?_
  refine r_callH (As := [.ref x, .int (xs (i + 1)), .ref o]) (rest := []) hX hnc dL_law_932 IH_carrierOf ml_L_198 rfl (t_L_carrierOf h.lx h.ci h.gs.1 (by omega) h.so h.xo h.nt) (by decide) hcs hsl (by decide) rfl (Nat.le_of_ble_eq_true rfl) (fun v N hp => ?_) (fun E N hp => by obtain ⟨kk, h1, -⟩ := hp; cases h1)
  obtain ⟨kk, hv, hk1, hk2, hk3, hk4, hCN, hr⟩ := hp
  cases hv
  have hLN := h.l11 hk2
  have hRN := h.ri hk4
  refine r_istore5 hX dL_law_935 rfl ?_
  refine r_aload_n hX dL_law_937 rfl ?_
  refine r_aload_n hX dL_law_938 rfl ?_
  refine r_iload hX dL_law_939 rfl ?_
  refine r_iconst (v := nI 1) hX dL_law_941 (by decide) ?_
  refine rn_iadd hX dL_law_942 rfl rfl ?_
  refine r_sld hX hsc dL_law_943 (by omega) hL9 ?_
  refine r_vV1 hX dL_law_944 IX11_carrierOf ml_L_200 rfl (LX11_s hLN) rfl (t_X11_carrierOf hLN hRN h.gs.1 (by omega)) (by decide) (by omega) (by omega) (by decide) rfl (Nat.le_of_ble_eq_true rfl) (fun v2 i2 hq => ?_)
  show J G base X _ _ (wI N i2) _ _ _
  obtain ⟨hfin, hth, hval⟩ := lawfin h hk1 hk2 hk3 hCN hr hq (h.gs.mono (show T ≤ T + 168 by omega))
  refine r_istore6 hX dL_law_947 rfl ?_
  refine r_aload_n hX dL_law_949 rfl ?_
  refine r_cV0 hX dL_law_950 IX11_thrown ml_L_153 rfl (LX11_s hLN) rfl (t_X11_thrown (M := wI N i2) hLN) (by decide) (by omega) (by omega) (by decide) rfl (Nat.le_of_ble_eq_true rfl) ?_
  refine r_iload hX dL_law_953 rfl ?_
  refine r_icmp_eq (tgt := 960) hX dL_law_955 (by decide) (fun _ => ?_) (fun z => absurd hth z)
  refine r_iload hX dL_law_960 rfl ?_
  refine r_if_ne (tgt := 977) hX dL_law_962 (by decide) (fun _ => ?_) (fun c0 => ?_)
  · refine r_goto (tgt := 2758) hX dL_law_977 (by decide) ?_
    exact J.junk (K _ _ hfin) (by repeat first | exact trivial | refine ⟨rfl, ?_⟩)
  · refine r_aload_n hX dL_law_965 rfl ?_
    refine r_iconst (v := nI 0) hX dL_law_966 (by decide) ?_
    refine r_lald (n := 1) hX dL_law_967 (h.on hk2) (vp_in_nI (by omega) (by omega)) ?_
    rw [nI_clamp (by omega)]
    refine r_iload hX dL_law_968 rfl ?_
    refine r_i2l hX dL_law_970 ?_
    refine r_lcmp hX dL_law_971 ?_
    refine r_if_eq (tgt := 977) hX dL_law_972 (by decide) (fun _ => ?_) (fun z => absurd ((lg_cmp_eq _ _).mpr (hval c0)) z)
    refine r_goto (tgt := 2758) hX dL_law_977 (by decide) ?_
    exact J.junk (K _ _ hfin) (by repeat first | exact trivial | refine ⟨rfl, ?_⟩)
set_option maxHeartbeats 4000000 in
set_option maxRecDepth 20000 in
theorem law_16 {X : Cx} {b L : Nat} {xs : Nat → Int32} (hX : okL G base X) (hnc : ncX X) (hsc : scX X base b L xs) : Case G base X b L xs 980 := by
  intro M x r o T i cs sl σ h hT hi hL9 hcs hsl K
  show J G base X cs sl M 980 (lcs b x r o i) []
  refine r_aload_n hX dL_law_980 rfl ?_
  refine r_aload_n hX dL_law_981 rfl ?_
  refine r_iload hX dL_law_982 rfl ?_
  refine r_iconst (v := nI 1) hX dL_law_984 (by decide) ?_
  refine rn_iadd hX dL_law_985 rfl rfl ?_
  refine r_sld hX hsc dL_law_986 (by omega) hL9 ?_
  refine r_aload_n hX dL_law_987 rfl ?_
  refine r_callH (As := [.ref x, .int (xs (i + 1)), .ref o]) (rest := []) hX hnc dL_law_988 IH_sackCount ml_L_201 rfl (t_L_sackCount h.lx h.ci h.gs.1 (by omega) h.so h.xo h.nt) (by decide) hcs hsl (by decide) rfl (Nat.le_of_ble_eq_true rfl) (fun v N hp => ?_) (fun E N hp => by obtain ⟨kk, h1, -⟩ := hp; cases h1)
  obtain ⟨kk, hv, hk1, hk2, hk3, hk4, hCN, hr⟩ := hp
  cases hv
  have hLN := h.l11 hk2
  have hRN := h.ri hk4
  refine r_istore5 hX dL_law_991 rfl ?_
  refine r_aload_n hX dL_law_993 rfl ?_
  refine r_aload_n hX dL_law_994 rfl ?_
  refine r_iload hX dL_law_995 rfl ?_
  refine r_iconst (v := nI 1) hX dL_law_997 (by decide) ?_
  refine rn_iadd hX dL_law_998 rfl rfl ?_
  refine r_sld hX hsc dL_law_999 (by omega) hL9 ?_
  refine r_vV1 hX dL_law_1000 IX11_sackCount ml_L_203 rfl (LX11_s hLN) rfl (t_X11_sackCount hLN hRN h.gs.1 (by omega)) (by decide) (by omega) (by omega) (by decide) rfl (Nat.le_of_ble_eq_true rfl) (fun v2 i2 hq => ?_)
  show J G base X _ _ (wI N i2) _ _ _
  obtain ⟨hfin, hth, hval⟩ := lawfin h hk1 hk2 hk3 hCN hr hq (h.gs.mono (show T ≤ T + 168 by omega))
  refine r_istore6 hX dL_law_1003 rfl ?_
  refine r_aload_n hX dL_law_1005 rfl ?_
  refine r_cV0 hX dL_law_1006 IX11_thrown ml_L_153 rfl (LX11_s hLN) rfl (t_X11_thrown (M := wI N i2) hLN) (by decide) (by omega) (by omega) (by decide) rfl (Nat.le_of_ble_eq_true rfl) ?_
  refine r_iload hX dL_law_1009 rfl ?_
  refine r_icmp_eq (tgt := 1016) hX dL_law_1011 (by decide) (fun _ => ?_) (fun z => absurd hth z)
  refine r_iload hX dL_law_1016 rfl ?_
  refine r_if_ne (tgt := 1033) hX dL_law_1018 (by decide) (fun _ => ?_) (fun c0 => ?_)
  · refine r_goto (tgt := 2758) hX dL_law_1033 (by decide) ?_
    exact J.junk (K _ _ hfin) (by repeat first | exact trivial | refine ⟨rfl, ?_⟩)
  · refine r_aload_n hX dL_law_1021 rfl ?_
    refine r_iconst (v := nI 0) hX dL_law_1022 (by decide) ?_
    refine r_lald (n := 1) hX dL_law_1023 (h.on hk2) (vp_in_nI (by omega) (by omega)) ?_
    rw [nI_clamp (by omega)]
    refine r_iload hX dL_law_1024 rfl ?_
    refine r_i2l hX dL_law_1026 ?_
    refine r_lcmp hX dL_law_1027 ?_
    refine r_if_eq (tgt := 1033) hX dL_law_1028 (by decide) (fun _ => ?_) (fun z => absurd ((lg_cmp_eq _ _).mpr (hval c0)) z)
    refine r_goto (tgt := 2758) hX dL_law_1033 (by decide) ?_
    exact J.junk (K _ _ hfin) (by repeat first | exact trivial | refine ⟨rfl, ?_⟩)
set_option maxHeartbeats 4000000 in
set_option maxRecDepth 20000 in
theorem law_17 {X : Cx} {b L : Nat} {xs : Nat → Int32} (hX : okL G base X) (hnc : ncX X) (hsc : scX X base b L xs) : Case G base X b L xs 1036 := by
  intro M x r o T i cs sl σ h hT hi hL9 hcs hsl K
  show J G base X cs sl M 1036 (lcs b x r o i) []
  refine r_aload_n hX dL_law_1036 rfl ?_
  refine r_aload_n hX dL_law_1037 rfl ?_
  refine r_iload hX dL_law_1038 rfl ?_
  refine r_iconst (v := nI 1) hX dL_law_1040 (by decide) ?_
  refine rn_iadd hX dL_law_1041 rfl rfl ?_
  refine r_sld hX hsc dL_law_1042 (by omega) hL9 ?_
  refine r_aload_n hX dL_law_1043 rfl ?_
  refine r_iload hX dL_law_1044 rfl ?_
  refine r_iconst (v := nI 2) hX dL_law_1046 (by decide) ?_
  refine rn_iadd hX dL_law_1047 rfl rfl ?_
  refine r_sld hX hsc dL_law_1048 (by omega) hL9 ?_
  refine r_aload_n hX dL_law_1049 rfl ?_
  refine r_callH (As := [.ref x, .int (xs (i + 1)), .int (xs (i + 2)), .ref o]) (rest := []) hX hnc dL_law_1050 IH_sackLetter ml_L_204 rfl (t_L_sackLetter h.lx h.ci h.gs.1 (by omega) h.so h.xo h.nt) (by decide) hcs hsl (by decide) rfl (Nat.le_of_ble_eq_true rfl) (fun v N hp => ?_) (fun E N hp => by obtain ⟨kk, h1, -⟩ := hp; cases h1)
  obtain ⟨kk, hv, hk1, hk2, hk3, hk4, hCN, hr⟩ := hp
  cases hv
  have hLN := h.l11 hk2
  have hRN := h.ri hk4
  refine r_istore5 hX dL_law_1053 rfl ?_
  refine r_aload_n hX dL_law_1055 rfl ?_
  refine r_aload_n hX dL_law_1056 rfl ?_
  refine r_iload hX dL_law_1057 rfl ?_
  refine r_iconst (v := nI 1) hX dL_law_1059 (by decide) ?_
  refine rn_iadd hX dL_law_1060 rfl rfl ?_
  refine r_sld hX hsc dL_law_1061 (by omega) hL9 ?_
  refine r_aload_n hX dL_law_1062 rfl ?_
  refine r_iload hX dL_law_1063 rfl ?_
  refine r_iconst (v := nI 2) hX dL_law_1065 (by decide) ?_
  refine rn_iadd hX dL_law_1066 rfl rfl ?_
  refine r_sld hX hsc dL_law_1067 (by omega) hL9 ?_
  refine r_vV2 hX dL_law_1068 IX11_sackLetter ml_L_207 rfl (LX11_s hLN) rfl (t_X11_sackLetter hLN hRN h.gs.1 (by omega)) (by decide) (by omega) (by omega) (by decide) rfl (Nat.le_of_ble_eq_true rfl) (fun v2 i2 hq => ?_)
  show J G base X _ _ (wI N i2) _ _ _
  obtain ⟨hfin, hth, hval⟩ := lawfin h hk1 hk2 hk3 hCN hr hq (h.gs.mono (show T ≤ T + 168 by omega))
  refine r_istore6 hX dL_law_1071 rfl ?_
  refine r_aload_n hX dL_law_1073 rfl ?_
  refine r_cV0 hX dL_law_1074 IX11_thrown ml_L_153 rfl (LX11_s hLN) rfl (t_X11_thrown (M := wI N i2) hLN) (by decide) (by omega) (by omega) (by decide) rfl (Nat.le_of_ble_eq_true rfl) ?_
  refine r_iload hX dL_law_1077 rfl ?_
  refine r_icmp_eq (tgt := 1084) hX dL_law_1079 (by decide) (fun _ => ?_) (fun z => absurd hth z)
  refine r_iload hX dL_law_1084 rfl ?_
  refine r_if_ne (tgt := 1101) hX dL_law_1086 (by decide) (fun _ => ?_) (fun c0 => ?_)
  · refine r_goto (tgt := 2758) hX dL_law_1101 (by decide) ?_
    exact J.junk (K _ _ hfin) (by repeat first | exact trivial | refine ⟨rfl, ?_⟩)
  · refine r_aload_n hX dL_law_1089 rfl ?_
    refine r_iconst (v := nI 0) hX dL_law_1090 (by decide) ?_
    refine r_lald (n := 1) hX dL_law_1091 (h.on hk2) (vp_in_nI (by omega) (by omega)) ?_
    rw [nI_clamp (by omega)]
    refine r_iload hX dL_law_1092 rfl ?_
    refine r_i2l hX dL_law_1094 ?_
    refine r_lcmp hX dL_law_1095 ?_
    refine r_if_eq (tgt := 1101) hX dL_law_1096 (by decide) (fun _ => ?_) (fun z => absurd ((lg_cmp_eq _ _).mpr (hval c0)) z)
    refine r_goto (tgt := 2758) hX dL_law_1101 (by decide) ?_
    exact J.junk (K _ _ hfin) (by repeat first | exact trivial | refine ⟨rfl, ?_⟩)
