variable {G : GG} {base : Nat}
set_option maxHeartbeats 2000000 in
set_option maxRecDepth 20000 in
theorem t_X8_loseSack {M : Mm} {a : Nat} {n : Nat → Int32} (hL : LX8 M.1 M.2.1 a) (hR : RS (mI M) a n) (hno : ¬ noP n) (hLt : LtOk n) (hLo : LoOk n) {c : Nat} (hc : c < 5) : Ct G base YX8_loseSack 4 0 0 [.ref a, .int (nI c)] M (rI (some (.int (nI (cntK (lK n) (lW n) 1 (n (33 + c)) (nv n 2))))) M (fun i => RS i a (loseN n c) ∧ outB i (mI M) a 18)) := by
  refine Ct.of IX8_loseSack.1 (by simp [Value.category]) (Nat.le_of_ble_eq_true rfl) (fun X hX hN => ?_)
  show J G base X 0 0 M 0 [some (.ref a), some (.int (nI c)), none, none, none, none] []
  have hm2 : mI M (a + 2) 0 = nI (nv n 2) := hR.2.2.1.1.trans hR.2.2.1.2.1.1
  have h30 := hR.2.2.1.2.1.2
  have hm3 : mI M (a + 15) 0 = nI (nv n 3) := hR.2.2.2.2.1.trans hR.2.2.2.2.2.1.1
  have hsk : mI M (a + 1) c = n (33 + c) := hR.sk1 hno hc
  have hcnt : cntK (mI M (a + 2 + 4)) (mI M (a + 2 + 5)) 1 (n (33 + c)) (nv n 2) = cntK (lK n) (lW n) 1 (n (33 + c)) (nv n 2) := cntK_congr fun l hl => ⟨hR.2.2.1.2.2 l hl 3 (by omega), hR.2.2.1.2.2 l hl 4 (by omega)⟩
  have hcle := cntK_le (lK n) (lW n) 1 (n (33 + c)) (nv n 2)
  
  refine r_aload_n hX dX8_loseSack_0 rfl ?_
  refine r_iload_n hX dX8_loseSack_1 rfl ?_
  refine r_cV1 hX dX8_loseSack_2 IX8_sackWith ml_X8_93 rfl (LX8_s hL) rfl (t_X8_sackWith hL hc) (by decide) (by decide) (by decide) (by decide) rfl (Nat.le_of_ble_eq_true rfl) ?_
  rw [hsk]
  refine r_istore2 hX dX8_loseSack_5 rfl ?_
  refine r_aload_n hX dX8_loseSack_6 rfl ?_
  refine r_getr hX dX8_loseSack_7 fl_X8_31 rfl (LX8_s hL) (LX8_r5 hL) ?_
  refine r_iconst (v := 1) hX dX8_loseSack_10 (by decide) ?_
  refine r_iload_n hX dX8_loseSack_11 rfl ?_
  refine r_cV2 hX dX8_loseSack_12 IX2_countIn ml_X8_96 rfl (LX2_s (LX8_o5 hL)) rfl (t_X2_countIn (LX8_o5 hL) hm2 h30) (by decide) (by decide) (by decide) (by decide) rfl (Nat.le_of_ble_eq_true rfl) ?_
  rw [hcnt]
  refine r_istore3 hX dX8_loseSack_15 rfl ?_
  refine r_iload_n hX dX8_loseSack_16 rfl ?_
  refine rn_if_ne (tgt := 22) hX dX8_loseSack_17 (by decide) rfl (by omega) (fun c17 => ?_) (fun c17 => ?_)
  · have h3lt : nv n 3 < 30 := lost_lt hLt hLo c17
    have ht0 : mI M a 0 = n 6 := hR.1.1
    refine r_aload_n hX dX8_loseSack_22 rfl ?_
    refine r_getr hX dX8_loseSack_23 fl_X8_45 rfl (LX8_s hL) (LX8_r7 hL) ?_
    refine r_iload_n hX dX8_loseSack_26 rfl ?_
    refine r_aload_n hX dX8_loseSack_27 rfl ?_
    refine rn_geti (v := n 6) hX dX8_loseSack_28 fl_X8_9 rfl (LX8_s hL) ht0 ?_
    refine r_cV2 hX dX8_loseSack_31 IX4_add ml_X8_100 rfl (LX4_s (LX8_o7 hL)) rfl (t_X4_add (M := M) (LX8_o7 hL) hm3 h3lt) (by decide) (by decide) (by decide) (by decide) rfl (Nat.le_of_ble_eq_true rfl) ?_
    refine r_istore4 hX dX8_loseSack_34 rfl ?_
    refine r_iconst (v := nI 0) hX dX8_loseSack_36 (by decide) ?_
    refine r_istore5 hX dX8_loseSack_37 rfl ?_
    generalize hN : cntK (lK n) (lW n) 1 (n (33 + c)) (nv n 2) = N at hcle c17 ⊢
    show J G base X 0 0 (wI M (mI (uI (uI (uI M (a + 15 + 1) (nv n 3) (nI c)) (a + 15 + 2) (nv n 3) (n 6)) (a + 15) 0 (nI (nv n 3 + 1))))) 39 _ []
    have hR0 := hR.addLost h3lt (c := nI c)
    have hr0 : Rn (los0 n (nI c)) 4 60 := hR.2.2.2.1.2.1.eq (by unfold los0; rw [upd_o (by omega), upd_o (by omega), upd_o (by omega)])
    have h20 : nv (los0 n (nI c)) 2 = nv n 2 := nv_eq (by unfold los0; rw [upd_o (by omega), upd_o (by omega), upd_o (by omega)])
    refine loop_us (σ := Nat → Nat → Int32) (P := fun j i => (RS i a (losL (los0 n (nI c)) (n (33 + c)) (nI (nv n 3)) (nI c) j) ∧ outB i (mI M) a 18) → J G base X 0 0 (wI M i) 39 [some (.ref a), some (.int (nI c)), some (.int (n (33 + c))), some (.int (nI N)), some (.int (nI (nv n 3))), some (.int (nI j))] []) (nv n 2) (fun j i hj ih hi => ?_) 0 (mI (uI (uI (uI M (a + 15 + 1) (nv n 3) (nI c)) (a + 15 + 2) (nv n 3) (n 6)) (a + 15) 0 (nI (nv n 3 + 1)))) (Nat.zero_le _) ⟨hR0, fun x hx k => (congrFun (uIo (by omega)) k).trans ((congrFun (uIo (by omega)) k).trans (congrFun (uIo (by omega)) k))⟩
    have hv2 : nv (losL (los0 n (nI c)) (n (33 + c)) (nI (nv n 3)) (nI c) j) 2 = nv n 2 := ((losL_sm hr0 j).nv (by omega) (by omega) (by omega)).trans h20
    refine r_iload hX dX8_loseSack_39 rfl ?_
    refine r_aload_n hX dX8_loseSack_41 rfl ?_
    refine r_getr hX dX8_loseSack_42 fl_X8_31 rfl (LX8_s hL) (LX8_r5 hL) ?_
    refine rn_geti (v := nI (nv n 2)) hX dX8_loseSack_45 fl_X8_49 rfl (LX2_s (LX8_o5 hL)) (hi.1.2.2.1.1.trans (hi.1.2.2.1.2.1.1.trans (by rw [hv2]))) ?_
    refine rn_icmp_ge (tgt := 103) hX dX8_loseSack_48 (by decide) rfl rfl (by omega) (by omega) (fun c48 => ?_) (fun c48 => ?_)
    · refine r_iload_n hX dX8_loseSack_103 rfl ?_
      refine r_ireturn hX rfl rfl dX8_loseSack_104 (by decide) (by decide) ?_
      obtain rfl : j = nv n 2 := by omega
      refine ⟨by rw [hN], i, rfl, ?_, hi.2⟩
      unfold loseN
      rw [if_neg (by rw [hN]; exact c17)]
      exact hi.1
    · refine r_aload_n hX dX8_loseSack_51 rfl ?_
      refine r_getr hX dX8_loseSack_52 fl_X8_31 rfl (LX8_s hL) (LX8_r5 hL) ?_
      refine r_iload hX dX8_loseSack_55 rfl ?_
      refine r_iconst (v := 1) hX dX8_loseSack_57 (by decide) ?_
      refine r_iload_n hX dX8_loseSack_58 rfl ?_
      refine r_cV3 hX dX8_loseSack_59 IX2_isIn ml_X8_103 rfl (LX2_s (LX8_o5 hL)) rfl (t_X2_isIn (M := wI M i) (LX8_o5 hL) (hi.1.2.2.1.1.trans (hi.1.2.2.1.2.1.1.trans (by rw [hv2]))) h30 c48) (by decide) (by decide) (by decide) (by decide) rfl (Nat.le_of_ble_eq_true rfl) ?_
      rw [show mI (wI M i) (a + 2 + 4) j = (losL (los0 n (nI c)) (n (33 + c)) (nI (nv n 3)) (nI c) j) (498 + 10 * j + 3) from hi.1.2.2.1.2.2 j (by rw [hv2]; exact c48) 3 (by omega), show mI (wI M i) (a + 2 + 5) j = (losL (los0 n (nI c)) (n (33 + c)) (nI (nv n 3)) (nI c) j) (498 + 10 * j + 4) from hi.1.2.2.1.2.2 j (by rw [hv2]; exact c48) 4 (by omega)]
      refine rb_if_eq (tgt := 97) hX dX8_loseSack_62 (by decide) rfl (fun c62 => ?_) (fun c62 => ?_)
      · refine rn_iinc5 hX dX8_loseSack_97 rfl rfl ?_
        refine r_goto (tgt := 39) hX dX8_loseSack_100 (by decide) ?_
        have z := ih (by omega) i
        rw [losL_no c62] at z
        exact z hi
      · refine r_aload_n hX dX8_loseSack_65 rfl ?_
        refine r_getr hX dX8_loseSack_66 fl_X8_31 rfl (LX8_s hL) (LX8_r5 hL) ?_
        refine r_getr hX dX8_loseSack_69 fl_X8_72 rfl (LX2_s (LX8_o5 hL)) (LX2_r4 (LX8_o5 hL)) ?_
        refine r_iload hX dX8_loseSack_72 rfl ?_
        refine r_iconst (v := 3) hX dX8_loseSack_74 (by decide) ?_
        refine rn_iast hX dX8_loseSack_75 (LX2_a4 (LX8_o5 hL)) rfl (by omega) (by omega) ?_
        refine r_aload_n hX dX8_loseSack_76 rfl ?_
        refine r_getr hX dX8_loseSack_77 fl_X8_31 rfl (LX8_s hL) (LX8_r5 hL) ?_
        refine r_getr hX dX8_loseSack_80 fl_X8_75 rfl (LX2_s (LX8_o5 hL)) (LX2_r5 (LX8_o5 hL)) ?_
        refine r_iload hX dX8_loseSack_83 rfl ?_
        refine r_iload hX dX8_loseSack_85 rfl ?_
        refine rn_iast hX dX8_loseSack_87 (LX2_a5 (LX8_o5 hL)) rfl (by omega) (by omega) ?_
        have hRl : RS (mI (uI (uI (wI M i) (a + 2 + (3 + 1)) j 3) (a + 2 + (4 + 1)) j (nI (nv n 3)))) a (liesN (losL (los0 n (nI c)) (n (33 + c)) (nI (nv n 3)) (nI c) j) j 3 (nI (nv n 3))) := RS.lf (M := uI (wI M i) (a + 2 + (3 + 1)) j 3) (RS.lf (M := wI M i) hi.1 (l := j) (f := 3) (v := 3) (by omega) (by omega)) (l := j) (f := 4) (by omega) (by omega)
        refine r_aload_n hX dX8_loseSack_88 rfl ?_
        refine r_iload hX dX8_loseSack_89 rfl ?_
        refine r_iconst (v := nI 4) hX dX8_loseSack_91 (by decide) ?_
        refine r_iload_n hX dX8_loseSack_92 rfl ?_
        refine r_iconst (v := (-1)) hX dX8_loseSack_93 (by decide) ?_
        refine r_iV4 hX dX8_loseSack_94 IX8_writeReceipt ml_X8_107 rfl (LX8_s hL) rfl (t_X8_writeReceipt (M := uI (uI (wI M i) (a + 2 + (3 + 1)) j 3) (a + 2 + (4 + 1)) j (nI (nv n 3))) hL hRl (by rw [show nv (liesN (losL (los0 n (nI c)) (n (33 + c)) (nI (nv n 3)) (nI c) j) j 3 (nI (nv n 3))) 2 = nv (losL (los0 n (nI c)) (n (33 + c)) (nI (nv n 3)) (nI c) j) 2 from nv_eq (by unfold liesN; rw [upd_o (by omega), upd_o (by omega)]), hv2]; exact c48)) (by decide) (by decide) (by decide) (by decide) rfl (Nat.le_of_ble_eq_true rfl) (fun i7 h7 => ?_)
        show J G base X _ _ (wI M i7) _ _ _
        
        refine rn_iinc5 hX dX8_loseSack_97 rfl rfl ?_
        refine r_goto (tgt := 39) hX dX8_loseSack_100 (by decide) ?_
        refine ih (by omega) i7 ?_
        rw [losL_yes c62]
        exact ⟨h7.1, fun x hx k => (h7.2 x hx k).trans ((congrFun (uIo (by omega)) k).trans ((congrFun (uIo (by omega)) k).trans (hi.2 x hx k)))⟩
  · refine r_iconst (v := 0) hX dX8_loseSack_20 (by decide) ?_
    refine r_ireturn hX rfl rfl dX8_loseSack_21 (by decide) (by decide) ?_
    refine ⟨by rw [show cntK (lK n) (lW n) 1 (n (33 + c)) (nv n 2) = 0 from c17]; rfl, mI M, rfl, ?_, fun _ _ _ => rfl⟩
    unfold loseN
    rw [if_pos c17]
    exact hR
set_option maxHeartbeats 2000000 in
set_option maxRecDepth 20000 in
theorem t_X8_comeBack {M : Mm} {a : Nat} {n : Nat → Int32} (hL : LX8 M.1 M.2.1 a) (hR : RS (mI M) a n) {l : Nat} (hl : l < nv n 2) {p : Nat} : Ct G base YX8_comeBack 4 0 0 [.ref a, .int (nI l), .int (nI p)] M (rI none M (fun i => RS i a (wrL (fouN n l p) l 5 (-1) (nI p)) ∧ outB i (mI M) a 18)) := by
  refine Ct.of IX8_comeBack.1 (by simp [Value.category]) (Nat.le_of_ble_eq_true rfl) (fun X hX hN => ?_)
  show J G base X 0 0 M 0 [some (.ref a), some (.int (nI l)), some (.int (nI p))] []
  have hm2 : mI M (a + 2) 0 = nI (nv n 2) := hR.2.2.1.1.trans hR.2.2.1.2.1.1
  have h30 := hR.2.2.1.2.1.2
  have hto : mI M (a + 2 + 2) l = n (498 + 10 * l + 1) := hR.2.2.1.2.2 l hl 1 (by omega)
  
  refine r_iload_n hX dX8_comeBack_0 rfl ?_
  refine rn_if_lt (tgt := 43) hX dX8_comeBack_1 (by decide) rfl (by omega) ?_
  refine r_iload_n hX dX8_comeBack_4 rfl ?_
  refine r_aload_n hX dX8_comeBack_5 rfl ?_
  refine r_getr hX dX8_comeBack_6 fl_X8_31 rfl (LX8_s hL) (LX8_r5 hL) ?_
  refine rn_geti (v := nI (nv n 2)) hX dX8_comeBack_9 fl_X8_49 rfl (LX2_s (LX8_o5 hL)) hm2 ?_
  refine rn_icmp_ge (tgt := 43) hX dX8_comeBack_12 (by decide) rfl rfl (by omega) (by omega) (fun c12 => absurd hl (by omega)) (fun c12 => ?_)
  refine r_aload_n hX dX8_comeBack_15 rfl ?_
  refine r_getr hX dX8_comeBack_16 fl_X8_31 rfl (LX8_s hL) (LX8_r5 hL) ?_
  refine r_getr hX dX8_comeBack_19 fl_X8_119 rfl (LX2_s (LX8_o5 hL)) (LX2_r2 (LX8_o5 hL)) ?_
  refine r_iload_n hX dX8_comeBack_22 rfl ?_
  refine rn_iald hX dX8_comeBack_23 (LX2_a2 (LX8_o5 hL)) rfl (by omega) (by omega) ?_
  rw [hto]
  refine r_iload_n hX dX8_comeBack_24 rfl ?_
  refine r_icmp_ne (tgt := 43) hX dX8_comeBack_25 (by decide) (fun c25 => ?_) (fun c25 => ?_)
  · refine r_aload_n hX dX8_comeBack_43 rfl ?_
    refine r_getr hX dX8_comeBack_44 fl_X8_31 rfl (LX8_s hL) (LX8_r5 hL) ?_
    refine r_iload_n hX dX8_comeBack_47 rfl ?_
    refine r_iload_n hX dX8_comeBack_48 rfl ?_
    refine r_cV2 hX dX8_comeBack_49 IX2_toOffice ml_X8_125 rfl (LX2_s (LX8_o5 hL)) rfl (t_X2_toOffice (LX8_o5 hL) hm2 h30 hl) (by decide) (by decide) (by decide) (by decide) rfl (Nat.le_of_ble_eq_true rfl) ?_
    refine r_aload_n hX dX8_comeBack_52 rfl ?_
    refine r_iload_n hX dX8_comeBack_53 rfl ?_
    refine r_iconst (v := 5) hX dX8_comeBack_54 (by decide) ?_
    refine r_iconst (v := (-1)) hX dX8_comeBack_55 (by decide) ?_
    refine r_iload_n hX dX8_comeBack_56 rfl ?_
    refine r_iV4 hX dX8_comeBack_57 IX8_writeReceipt ml_X8_107 rfl (LX8_s hL) rfl (t_X8_writeReceipt (M := offL M (a + 2) l (nI p)) hL (RS.off hR (by omega)) (by rw [show nv (liesN n l 0 (nI p)) 2 = nv n 2 from nv_eq (by unfold liesN; rw [upd_o (by omega), upd_o (by omega)])]; exact hl)) (by decide) (by decide) (by decide) (by decide) rfl (Nat.le_of_ble_eq_true rfl) (fun i7 h7 => ?_)
    show J G base X _ _ (wI M i7) _ _ _
    
    refine r_return hX rfl dX8_comeBack_60 (by decide) (by decide) ?_
    refine ⟨rfl, i7, rfl, ?_, fun x hx k => (h7.2 x hx k).trans (off_out x hx k)⟩
    unfold fouN
    rw [if_neg c25]
    exact h7.1
  · refine r_aload_n hX dX8_comeBack_28 rfl ?_
    refine r_getr hX dX8_comeBack_29 fl_X8_31 rfl (LX8_s hL) (LX8_r5 hL) ?_
    refine r_iload_n hX dX8_comeBack_32 rfl ?_
    refine r_aload_n hX dX8_comeBack_33 rfl ?_
    refine rn_geti (v := n 6) hX dX8_comeBack_34 fl_X8_9 rfl (LX8_s hL) hR.1.1 ?_
    refine r_cV2 hX dX8_comeBack_37 IX2_toHand ml_X8_122 rfl (LX2_s (LX8_o5 hL)) rfl (t_X2_toHand (LX8_o5 hL) hm2 h30 hl) (by decide) (by decide) (by decide) (by decide) rfl (Nat.le_of_ble_eq_true rfl) ?_
    refine r_goto (tgt := 52) hX dX8_comeBack_40 (by decide) ?_
    refine r_aload_n hX dX8_comeBack_52 rfl ?_
    refine r_iload_n hX dX8_comeBack_53 rfl ?_
    refine r_iconst (v := 5) hX dX8_comeBack_54 (by decide) ?_
    refine r_iconst (v := (-1)) hX dX8_comeBack_55 (by decide) ?_
    refine r_iload_n hX dX8_comeBack_56 rfl ?_
    refine r_iV4 hX dX8_comeBack_57 IX8_writeReceipt ml_X8_107 rfl (LX8_s hL) rfl (t_X8_writeReceipt (M := handL M (a + 2) l (n 6)) hL (RS.hand hR hl) (by rw [show nv (tohN n l (n 6)) 2 = nv n 2 from nv_eq (by unfold tohN; rw [upd_o (by omega), upd_o (by omega), upd_o (by omega)])]; exact hl)) (by decide) (by decide) (by decide) (by decide) rfl (Nat.le_of_ble_eq_true rfl) (fun i7 h7 => ?_)
    show J G base X _ _ (wI M i7) _ _ _
    
    refine r_return hX rfl dX8_comeBack_60 (by decide) (by decide) ?_
    refine ⟨rfl, i7, rfl, ?_, fun x hx k => (h7.2 x hx k).trans (hand_out x hx k)⟩
    unfold fouN
    rw [if_pos c25]
    have z := h7.1
    rw [hand_eq c25] at z
    exact z
set_option maxHeartbeats 2000000 in
set_option maxRecDepth 20000 in
theorem t_X8_findSack {M : Mm} {a : Nat} {n : Nat → Int32} (hL : LX8 M.1 M.2.1 a) (hR : RS (mI M) a n) {k p : Nat} (hk : k < nv n 3) (hp : p < 10) : Ct G base YX8_findSack 5 0 0 [.ref a, .int (nI k), .int (nI p)] M (rI (some (.int (nI (cntK (lK n) (lW n) 3 (nI k) (nv n 2))))) M (fun i => RS i a (findN n k p) ∧ outB i (mI M) a 18)) := by
  refine Ct.of IX8_findSack.1 (by simp [Value.category]) (Nat.le_of_ble_eq_true rfl) (fun X hX hN => ?_)
  show J G base X 0 0 M 0 [some (.ref a), some (.int (nI k)), some (.int (nI p)), none, none] []
  have h30 := hR.2.2.1.2.1.2
  have hl30 := hR.2.2.2.2.2.1.2
  have h4n := hR.2.2.2.1.2.1
  refine r_iconst (v := nI 0) hX dX8_findSack_0 (by decide) ?_
  refine r_istore3 hX dX8_findSack_1 rfl ?_
  refine r_iconst (v := nI 0) hX dX8_findSack_2 (by decide) ?_
  refine r_istore4 hX dX8_findSack_3 rfl ?_
  show J G base X 0 0 (wI M (mI M)) 5 [some (.ref a), some (.int (nI k)), some (.int (nI p)), some (.int (nI (cntK (lK n) (lW n) 3 (nI k) 0))), some (.int (nI 0))] []
  refine loop_us (σ := Nat → Nat → Int32) (P := fun j i => (RS i a (fouL n k p j) ∧ outB i (mI M) a 18) → J G base X 0 0 (wI M i) 5 [some (.ref a), some (.int (nI k)), some (.int (nI p)), some (.int (nI (cntK (lK n) (lW n) 3 (nI k) j))), some (.int (nI j))] []) (nv n 2) (fun j i hj ih hi => ?_) 0 (mI M) (Nat.zero_le _) ⟨hR, fun _ _ _ => rfl⟩
  have hsm : sm (fouL n k p j) n := fouL_sm h4n j
  have hv2 : nv (fouL n k p j) 2 = nv n 2 := hsm.nv (by omega) (by omega) (by omega)
  have hcb := cntK_le (lK n) (lW n) 3 (nI k) j
  refine r_iload hX dX8_findSack_5 rfl ?_
  refine r_aload_n hX dX8_findSack_7 rfl ?_
  refine r_getr hX dX8_findSack_8 fl_X8_31 rfl (LX8_s hL) (LX8_r5 hL) ?_
  refine rn_geti (v := nI (nv n 2)) hX dX8_findSack_11 fl_X8_49 rfl (LX2_s (LX8_o5 hL)) (hi.1.2.2.1.1.trans (hi.1.2.2.1.2.1.1.trans (by rw [hv2]))) ?_
  refine rn_icmp_ge (tgt := 92) hX dX8_findSack_14 (by decide) rfl rfl (by omega) (by omega) (fun c14 => ?_) (fun c14 => ?_)
  · obtain rfl : j = nv n 2 := by omega
    have hm3 : i (a + 15) 0 = nI (nv n 3) := hi.1.2.2.2.2.1.trans ((hsm.1 3 (by omega) (by omega) (by omega)).trans hR.2.2.2.2.2.1.1)
    have hv3 : nv (fouL n k p (nv n 2)) 3 = nv n 3 := hsm.nv (by omega) (by omega) (by omega)
    refine r_aload_n hX dX8_findSack_92 rfl ?_
    refine r_getr hX dX8_findSack_93 fl_X8_45 rfl (LX8_s hL) (LX8_r7 hL) ?_
    refine r_iload_n hX dX8_findSack_96 rfl ?_
    refine r_iV1 hX dX8_findSack_97 IX4_removeAt ml_X8_115 rfl (LX4_s (LX8_o7 hL)) rfl (t_X4_removeAt (M := wI M i) (LX8_o7 hL) hm3 hl30 hk) (by decide) (by decide) (by decide) (by decide) rfl (Nat.le_of_ble_eq_true rfl) (fun i9 h9 => ?_)
    show J G base X _ _ (wI M i9) _ _ _
    
    refine r_iload_n hX dX8_findSack_100 rfl ?_
    refine r_ireturn hX rfl rfl dX8_findSack_101 (by decide) (by decide) ?_
    refine ⟨rfl, i9, rfl, ?_, fun x hx q => (congrFun (h9.2.2.2 x (by omega) (by omega) (by omega)) q).trans (hi.2 x hx q)⟩
    unfold findN
    rw [← hv3]
    exact hi.1.delLost (by rw [hv3]; exact hk) (by rw [hv3]; exact h9.1) (by rw [hv3]; exact h9.2.1) (by rw [hv3]; exact h9.2.2.1) (fun x q1 q2 q3 => h9.2.2.2 x q1 q2 q3)
  · have hu : unL (fouL n k p j) n j := fouL_un (by omega) j (Nat.le_refl _)
    refine r_aload_n hX dX8_findSack_17 rfl ?_
    refine r_getr hX dX8_findSack_18 fl_X8_31 rfl (LX8_s hL) (LX8_r5 hL) ?_
    refine r_getr hX dX8_findSack_21 fl_X8_72 rfl (LX2_s (LX8_o5 hL)) (LX2_r4 (LX8_o5 hL)) ?_
    refine r_iload hX dX8_findSack_24 rfl ?_
    refine rn_iald hX dX8_findSack_26 (LX2_a4 (LX8_o5 hL)) rfl (by omega) (by omega) ?_
    rw [show mI (wI M i) (a + 2 + 4) j = n (498 + 10 * j + 3) from (hi.1.2.2.1.2.2 j (by rw [hv2]; exact c14) 3 (by omega)).trans (hu 3 (by omega))]
    refine r_iconst (v := 3) hX dX8_findSack_27 (by decide) ?_
    refine r_icmp_ne (tgt := 62) hX dX8_findSack_28 (by decide) (fun c28 => ?_) (fun c28 => ?_)
    · refine r_aload_n hX dX8_findSack_62 rfl ?_
      refine r_getr hX dX8_findSack_63 fl_X8_31 rfl (LX8_s hL) (LX8_r5 hL) ?_
      refine r_iload hX dX8_findSack_66 rfl ?_
      refine r_iconst (v := 3) hX dX8_findSack_68 (by decide) ?_
      refine r_iload_n hX dX8_findSack_69 rfl ?_
      refine r_cV3 hX dX8_findSack_70 IX2_isIn ml_X8_103 rfl (LX2_s (LX8_o5 hL)) rfl (t_X2_isIn (M := wI M i) (LX8_o5 hL) (hi.1.2.2.1.1.trans (hi.1.2.2.1.2.1.1.trans (by rw [hv2]))) h30 c14) (by decide) (by decide) (by decide) (by decide) rfl (Nat.le_of_ble_eq_true rfl) ?_
      rw [show mI (wI M i) (a + 2 + 4) j = n (498 + 10 * j + 3) from (hi.1.2.2.1.2.2 j (by rw [hv2]; exact c14) 3 (by omega)).trans (hu 3 (by omega)), show mI (wI M i) (a + 2 + 5) j = n (498 + 10 * j + 4) from (hi.1.2.2.1.2.2 j (by rw [hv2]; exact c14) 4 (by omega)).trans (hu 4 (by omega))]
      refine rb_if_eq (tgt := 86) hX dX8_findSack_73 (by decide) rfl (fun c73 => ?_) (fun c73 => ?_)
      · refine rn_iinc4 hX dX8_findSack_86 rfl rfl ?_
        refine r_goto (tgt := 5) hX dX8_findSack_89 (by decide) ?_
        have f3 : (fouL n k p j) (498 + 10 * j + 3) = n (498 + 10 * j + 3) := hu 3 (by omega)
        have f4 : (fouL n k p j) (498 + 10 * j + 4) = n (498 + 10 * j + 4) := hu 4 (by omega)
        have z := ih (by omega) i
        rw [fouL_c (by rw [f3, f4]; exact (fun y => c28 y.1)) (by rw [f3, f4]; exact (fun y => c28 y.1)), cntK_no (K := lK n) (W := lW n) (fun y => c28 y.1)] at z
        exact z hi
      · refine rn_iinc3 hX dX8_findSack_76 rfl rfl ?_
        refine r_aload_n hX dX8_findSack_79 rfl ?_
        refine r_iload hX dX8_findSack_80 rfl ?_
        refine r_iload_n hX dX8_findSack_82 rfl ?_
        refine r_iV2 hX dX8_findSack_83 IX8_comeBack ml_X8_111 rfl (LX8_s hL) rfl (t_X8_comeBack (M := wI M i) hL hi.1 (by rw [hv2]; exact c14) (p := p)) (by decide) (by decide) (by decide) (by decide) rfl (Nat.le_of_ble_eq_true rfl) (fun i7 h7 => ?_)
        show J G base X _ _ (wI M i7) _ _ _
        
        refine rn_iinc4 hX dX8_findSack_86 rfl rfl ?_
        refine r_goto (tgt := 5) hX dX8_findSack_89 (by decide) ?_
        have f3 : (fouL n k p j) (498 + 10 * j + 3) = n (498 + 10 * j + 3) := hu 3 (by omega)
        have f4 : (fouL n k p j) (498 + 10 * j + 4) = n (498 + 10 * j + 4) := hu 4 (by omega)
        exact absurd c73.1 c28
    · refine r_aload_n hX dX8_findSack_31 rfl ?_
      refine r_getr hX dX8_findSack_32 fl_X8_31 rfl (LX8_s hL) (LX8_r5 hL) ?_
      refine r_getr hX dX8_findSack_35 fl_X8_75 rfl (LX2_s (LX8_o5 hL)) (LX2_r5 (LX8_o5 hL)) ?_
      refine r_iload hX dX8_findSack_38 rfl ?_
      refine rn_iald hX dX8_findSack_40 (LX2_a5 (LX8_o5 hL)) rfl (by omega) (by omega) ?_
      rw [show mI (wI M i) (a + 2 + 5) j = n (498 + 10 * j + 4) from (hi.1.2.2.1.2.2 j (by rw [hv2]; exact c14) 4 (by omega)).trans (hu 4 (by omega))]
      refine r_iload_n hX dX8_findSack_41 rfl ?_
      refine r_icmp_le (tgt := 62) hX dX8_findSack_42 (by decide) (fun c42 => ?_) (fun c42 => ?_)
      · refine r_aload_n hX dX8_findSack_62 rfl ?_
        refine r_getr hX dX8_findSack_63 fl_X8_31 rfl (LX8_s hL) (LX8_r5 hL) ?_
        refine r_iload hX dX8_findSack_66 rfl ?_
        refine r_iconst (v := 3) hX dX8_findSack_68 (by decide) ?_
        refine r_iload_n hX dX8_findSack_69 rfl ?_
        refine r_cV3 hX dX8_findSack_70 IX2_isIn ml_X8_103 rfl (LX2_s (LX8_o5 hL)) rfl (t_X2_isIn (M := wI M i) (LX8_o5 hL) (hi.1.2.2.1.1.trans (hi.1.2.2.1.2.1.1.trans (by rw [hv2]))) h30 c14) (by decide) (by decide) (by decide) (by decide) rfl (Nat.le_of_ble_eq_true rfl) ?_
        rw [show mI (wI M i) (a + 2 + 4) j = n (498 + 10 * j + 3) from (hi.1.2.2.1.2.2 j (by rw [hv2]; exact c14) 3 (by omega)).trans (hu 3 (by omega)), show mI (wI M i) (a + 2 + 5) j = n (498 + 10 * j + 4) from (hi.1.2.2.1.2.2 j (by rw [hv2]; exact c14) 4 (by omega)).trans (hu 4 (by omega))]
        refine rb_if_eq (tgt := 86) hX dX8_findSack_73 (by decide) rfl (fun c73 => ?_) (fun c73 => ?_)
        · refine rn_iinc4 hX dX8_findSack_86 rfl rfl ?_
          refine r_goto (tgt := 5) hX dX8_findSack_89 (by decide) ?_
          have f3 : (fouL n k p j) (498 + 10 * j + 3) = n (498 + 10 * j + 3) := hu 3 (by omega)
          have f4 : (fouL n k p j) (498 + 10 * j + 4) = n (498 + 10 * j + 4) := hu 4 (by omega)
          have z := ih (by omega) i
          rw [fouL_c (by rw [f3, f4]; exact (fun y => c73 y)) (by rw [f3, f4]; exact (fun y => absurd y.2 (i_nlt.mpr c42))), cntK_no (K := lK n) (W := lW n) (fun y => c73 y)] at z
          exact z hi
        · refine rn_iinc3 hX dX8_findSack_76 rfl rfl ?_
          refine r_aload_n hX dX8_findSack_79 rfl ?_
          refine r_iload hX dX8_findSack_80 rfl ?_
          refine r_iload_n hX dX8_findSack_82 rfl ?_
          refine r_iV2 hX dX8_findSack_83 IX8_comeBack ml_X8_111 rfl (LX8_s hL) rfl (t_X8_comeBack (M := wI M i) hL hi.1 (by rw [hv2]; exact c14) (p := p)) (by decide) (by decide) (by decide) (by decide) rfl (Nat.le_of_ble_eq_true rfl) (fun i7 h7 => ?_)
          show J G base X _ _ (wI M i7) _ _ _
          
          refine rn_iinc4 hX dX8_findSack_86 rfl rfl ?_
          refine r_goto (tgt := 5) hX dX8_findSack_89 (by decide) ?_
          have f3 : (fouL n k p j) (498 + 10 * j + 3) = n (498 + 10 * j + 3) := hu 3 (by omega)
          have f4 : (fouL n k p j) (498 + 10 * j + 4) = n (498 + 10 * j + 4) := hu 4 (by omega)
          have z := ih (by omega) i7
          rw [fouL_a (by rw [f3, f4]; exact c73), cntK_yes (K := lK n) (W := lW n) c73] at z
          exact z ⟨h7.1, fun x hx q => (h7.2 x hx q).trans (hi.2 x hx q)⟩
      · refine r_aload_n hX dX8_findSack_45 rfl ?_
        refine r_getr hX dX8_findSack_46 fl_X8_31 rfl (LX8_s hL) (LX8_r5 hL) ?_
        refine r_getr hX dX8_findSack_49 fl_X8_75 rfl (LX2_s (LX8_o5 hL)) (LX2_r5 (LX8_o5 hL)) ?_
        refine r_iload hX dX8_findSack_52 rfl ?_
        refine r_dup2 hX dX8_findSack_54 rfl rfl ?_
        refine rn_iald hX dX8_findSack_55 (LX2_a5 (LX8_o5 hL)) rfl (by omega) (by omega) ?_
        rw [show mI (wI M i) (a + 2 + 5) j = n (498 + 10 * j + 4) from (hi.1.2.2.1.2.2 j (by rw [hv2]; exact c14) 4 (by omega)).trans (hu 4 (by omega))]
        refine r_iconst (v := 1) hX dX8_findSack_56 (by decide) ?_
        refine r_isub hX dX8_findSack_57 ?_
        refine rn_iast hX dX8_findSack_58 (LX2_a5 (LX8_o5 hL)) rfl (by omega) (by omega) ?_
        refine r_goto (tgt := 86) hX dX8_findSack_59 (by decide) ?_
        refine rn_iinc4 hX dX8_findSack_86 rfl rfl ?_
        refine r_goto (tgt := 5) hX dX8_findSack_89 (by decide) ?_
        have f3 : (fouL n k p j) (498 + 10 * j + 3) = n (498 + 10 * j + 3) := hu 3 (by omega)
        have f4 : (fouL n k p j) (498 + 10 * j + 4) = n (498 + 10 * j + 4) := hu 4 (by omega)
        have hne : ¬ (n (498 + 10 * j + 3) = 3 ∧ n (498 + 10 * j + 4) = nI k) := fun y => by
          rw [y.2] at c42
          exact c42 (i_nlt.mp (fun q => by rw [nI_ltI (by omega) (by omega)] at q; omega))
        have z := ih (by omega) (mI (uI (wI M i) (a + 2 + (4 + 1)) j (n (498 + 10 * j + 4) - 1)))
        rw [fouL_b (by rw [f3, f4]; exact hne) (by rw [f3, f4]; exact ⟨c28, i_nle.mp c42⟩), cntK_no (K := lK n) (W := lW n) hne, f4] at z
        exact z ⟨RS.lf (M := wI M i) hi.1 (l := j) (f := 4) (by omega) (by omega), fun x hx q => (congrFun (uIo (by omega)) q).trans (hi.2 x hx q)⟩
