variable {G : GG} {base : Nat}
theorem muQ_t {k : Nat} {q : Q4} : muQ true k q = q := rfl
theorem muQ_n {k : Nat} {q : Q4} (h : q.2.2.1 = -1) : muQ false k q = (q.1, q.2.1, nI q.2.1, nI k) := by
  unfold muQ
  rw [if_neg (fun z => z.elim (fun y => by cases y) (fun y => y h))]
theorem muQ_d {P : Prop} [Decidable P] {k : Nat} {q : Q4} (h : q.2.2.1 = -1) : muQ (decide P) k q = if P then q else (q.1, q.2.1, nI q.2.1, nI k) := by
  split
  · rename_i hP
    rw [decide_eq_true hP, muQ_t]
  · rename_i hP
    rw [decide_eq_false hP, muQ_n h]
theorem nI_m1 {x : Nat} (h : x < 100000) : ¬ nI x = -1 := nI_ne_m1 (by omega)
/-- how a number is read -/
theorem nuQ_c {u : Nat → Nat} {e lo hi : Nat} {q : Q4} (hg : q.2.2.1 = -1) (hp : q.1 ≤ e) (he : e ≤ 900) :
    ((e ≤ eo (blB u) e q.1 ∨ dgB u (eo (blB u) e q.1) = false) → nuQ u e lo hi q = (eo (blB u) e q.1, eo (blB u) e q.1, nI (eo (blB u) e q.1), nI 1)) ∧
    ((eo (blB u) e q.1 < e ∧ dgB u (eo (blB u) e q.1) = true) → eo (dgB u) e (eo (blB u) e q.1) - eo (blB u) e q.1 ≤ 3 ∧ lo ≤ nuV u (eo (blB u) e q.1) (eo (dgB u) e (eo (blB u) e q.1) - eo (blB u) e q.1) ∧ nuV u (eo (blB u) e q.1) (eo (dgB u) e (eo (blB u) e q.1) - eo (blB u) e q.1) ≤ hi →
      nuQ u e lo hi q = (eo (dgB u) e (eo (blB u) e q.1), eo (blB u) e q.1, q.2.2) ∧ nuW u e lo hi q = nuV u (eo (blB u) e q.1) (eo (dgB u) e (eo (blB u) e q.1) - eo (blB u) e q.1)) ∧
    ((eo (blB u) e q.1 < e ∧ dgB u (eo (blB u) e q.1) = true) → ¬ (eo (dgB u) e (eo (blB u) e q.1) - eo (blB u) e q.1 ≤ 3 ∧ lo ≤ nuV u (eo (blB u) e q.1) (eo (dgB u) e (eo (blB u) e q.1) - eo (blB u) e q.1) ∧ nuV u (eo (blB u) e q.1) (eo (dgB u) e (eo (blB u) e q.1) - eo (blB u) e q.1) ≤ hi) →
      nuQ u e lo hi q = (eo (dgB u) e (eo (blB u) e q.1), eo (blB u) e q.1, nI (eo (blB u) e q.1), nI 2)) := by
  have hB := eo_le (f := blB u) hp
  have hb := bl_1 (u := u) (e := e) hg
  unfold nuW nuQ nuQ2 nuX nuE nuQ1
  rw [hb]
  generalize hBB : eo (blB u) e q.1 = B at *
  dsimp only
  refine ⟨fun h => ?_, fun h1 h2 => ?_, fun h1 h2 => ?_⟩
  · rw [muQ_d (q := (B, B, q.2.2)) hg, if_neg (fun z : B < e ∧ dgB u B = true => by rcases h with h | h; omega; rw [h] at z; cases z.2), if_neg (nI_m1 (show B < 100000 by omega))]
  · rw [muQ_d (q := (B, B, q.2.2)) hg, if_pos h1, if_pos hg, muQ_d (q := (eo (dgB u) e B, B, q.2.2)) hg, if_pos h2, if_pos ⟨hg, hg⟩]
    exact ⟨rfl, rfl⟩
  · rw [muQ_d (q := (B, B, q.2.2)) hg, if_pos h1, if_pos hg, muQ_d (q := (eo (dgB u) e B, B, q.2.2)) hg, if_neg h2]
set_option maxHeartbeats 2000000 in
set_option maxRecDepth 20000 in
theorem t_X5_readNumber {M : Mm} {p b N e : Nat} {u : Nat → Nat} (hp : LX5 M.1 M.2.1 p) (hT : PT M p b N e u) {q : Q4} (hg : q.2.2.1 = -1) (hq : cQ (mI M) p q) (hp9 : q.1 ≤ e) (he : e ≤ 900) {lo hi9 : Nat} (hlo : lo < 2000) (hhi : hi9 < 2000) : Ct G base YX5_readNumber 4 0 0 [.ref p, .int (nI lo), .int (nI hi9)] M (rI (some (.int (if (nuQ u e lo hi9 q).2.2.1 = -1 then nI (nuW u e lo hi9 q) else -1))) M (cS M p (nuQ u e lo hi9 q))) := by
  refine Ct.of IX5_readNumber.1 (by simp [Value.category]) (Nat.le_of_ble_eq_true rfl) (fun X hX hN => ?_)
  show J G base X 0 0 M 0 [some (.ref p), some (.int (nI lo)), some (.int (nI hi9)), none] []
  have hB := eo_le (f := blB u) hp9
  generalize hBB : eo (blB u) e q.1 = B at *
  have fin : ∀ (j : Nat) (i : Nat → Nat → Int32), j ≤ e → (cS M p (j, B, q.2.2) i ∧ eo (dgB u) e j = eo (dgB u) e B ∧ B ≤ j ∧ ∀ k, k < j - B → dgB u (B + k) = true) → (e ≤ j ∨ dgB u j = false) → J G base X 0 0 (wI M i) 79 [some (.ref p), some (.int (nI lo)), some (.int (nI hi9)), some (.int (nI (nuV u B (j - B))))] [] := by
    intro j i hj hi hend
    have hjE : eo (dgB u) e B = j := hi.2.1.symm.trans (eo_stop hend)
    have hBj := hi.2.2.1
    have hXb := (nuV_b (u := u) (p := B) (j - B) hi.2.2.2).1
    have hdg : ¬ j = B → B < e ∧ dgB u B = true := fun h => ⟨by omega, hi.2.2.2 0 (by omega)⟩
    refine r_aload_n hX dX5_readNumber_79 rfl ?_
    refine rn_geti (v := nI j) hX dX5_readNumber_80 fl_X5_39 rfl (LX5_s hp) hi.1.1.1 ?_
    refine r_aload_n hX dX5_readNumber_83 rfl ?_
    refine rn_geti (v := nI B) hX dX5_readNumber_84 fl_X5_42 rfl (LX5_s hp) hi.1.1.2.1 ?_
    refine rn_icmp_ne (tgt := 102) hX dX5_readNumber_87 (by decide) rfl rfl (by omega) (by omega) (fun c87 => ?_) (fun c87 => ?_)
    · refine r_aload_n hX dX5_readNumber_102 rfl ?_
      refine rn_geti (v := nI j) hX dX5_readNumber_103 fl_X5_39 rfl (LX5_s hp) hi.1.1.1 ?_
      refine r_aload_n hX dX5_readNumber_106 rfl ?_
      refine rn_geti (v := nI B) hX dX5_readNumber_107 fl_X5_42 rfl (LX5_s hp) hi.1.1.2.1 ?_
      refine rn_isub hX dX5_readNumber_110 rfl rfl (by omega) ?_
      refine r_iconst (v := nI 3) hX dX5_readNumber_111 (by decide) ?_
      refine rn_icmp_gt (tgt := 125) hX dX5_readNumber_112 (by decide) rfl rfl (by omega) (by omega) (fun c112 => ?_) (fun c112 => ?_)
      · refine r_aload_n hX dX5_readNumber_125 rfl ?_
        refine r_iconst (v := nI 2) hX dX5_readNumber_126 (by decide) ?_
        refine r_aload_n hX dX5_readNumber_127 rfl ?_
        refine rn_geti (v := nI B) hX dX5_readNumber_128 fl_X5_42 rfl (LX5_s hp) hi.1.1.2.1 ?_
        refine r_iV2 hX dX5_readNumber_131 IX5_fail ml_X5_91 rfl (LX5_s hp) rfl (t_X5_fail (M := wI M i) hp hi.1.1 (k := 2) (f := B)) (by decide) (by decide) (by decide) (by decide) rfl (Nat.le_of_ble_eq_true rfl) (fun i4 h4 => ?_)
        show J G base X _ _ (wI M i4) _ _ _
        
        refine r_pop hX dX5_readNumber_134 rfl ?_
        refine r_iconst (v := (-1)) hX dX5_readNumber_135 (by decide) ?_
        refine r_ireturn hX rfl rfl dX5_readNumber_136 (by decide) (by decide) ?_
        have hqe := (nuQ_c (u := u) (lo := lo) (hi := hi9) hg hp9 he).2.2 (by rw [hBB]; exact hdg (by omega)) (by
          rw [hBB, hjE]
          exact fun z => by omega)
        rw [hBB, hjE] at hqe
        refine ⟨by rw [hqe, if_neg (nI_m1 (by omega))]; first | done | rfl, i4, rfl, ?_⟩
        rw [hqe]
        exact hi.1.tr h4
      · refine r_iload_n hX dX5_readNumber_115 rfl ?_
        refine r_iload_n hX dX5_readNumber_116 rfl ?_
        refine rn_icmp_lt (tgt := 125) hX dX5_readNumber_117 (by decide) rfl rfl (by omega) (by omega) (fun c117 => ?_) (fun c117 => ?_)
        · refine r_aload_n hX dX5_readNumber_125 rfl ?_
          refine r_iconst (v := nI 2) hX dX5_readNumber_126 (by decide) ?_
          refine r_aload_n hX dX5_readNumber_127 rfl ?_
          refine rn_geti (v := nI B) hX dX5_readNumber_128 fl_X5_42 rfl (LX5_s hp) hi.1.1.2.1 ?_
          refine r_iV2 hX dX5_readNumber_131 IX5_fail ml_X5_91 rfl (LX5_s hp) rfl (t_X5_fail (M := wI M i) hp hi.1.1 (k := 2) (f := B)) (by decide) (by decide) (by decide) (by decide) rfl (Nat.le_of_ble_eq_true rfl) (fun i4 h4 => ?_)
          show J G base X _ _ (wI M i4) _ _ _
          
          refine r_pop hX dX5_readNumber_134 rfl ?_
          refine r_iconst (v := (-1)) hX dX5_readNumber_135 (by decide) ?_
          refine r_ireturn hX rfl rfl dX5_readNumber_136 (by decide) (by decide) ?_
          have hqe := (nuQ_c (u := u) (lo := lo) (hi := hi9) hg hp9 he).2.2 (by rw [hBB]; exact hdg (by omega)) (by
            rw [hBB, hjE]
            exact fun z => by omega)
          rw [hBB, hjE] at hqe
          refine ⟨by rw [hqe, if_neg (nI_m1 (by omega))]; first | done | rfl, i4, rfl, ?_⟩
          rw [hqe]
          exact hi.1.tr h4
        · refine r_iload_n hX dX5_readNumber_120 rfl ?_
          refine r_iload_n hX dX5_readNumber_121 rfl ?_
          refine rn_icmp_le (tgt := 137) hX dX5_readNumber_122 (by decide) rfl rfl (by omega) (by omega) (fun c122 => ?_) (fun c122 => ?_)
          · refine r_iload_n hX dX5_readNumber_137 rfl ?_
            refine r_ireturn hX rfl rfl dX5_readNumber_138 (by decide) (by decide) ?_
            have hqe := (nuQ_c (u := u) (lo := lo) (hi := hi9) hg hp9 he).2.1 (by rw [hBB]; exact hdg (by omega)) (by
              rw [hBB, hjE]
              exact ⟨by omega, by omega, by omega⟩)
            rw [hBB, hjE] at hqe
            refine ⟨by rw [hqe.1, if_pos hg, hqe.2]; first | done | rfl, i, rfl, ?_⟩
            rw [hqe.1]
            exact hi.1
          · refine r_aload_n hX dX5_readNumber_125 rfl ?_
            refine r_iconst (v := nI 2) hX dX5_readNumber_126 (by decide) ?_
            refine r_aload_n hX dX5_readNumber_127 rfl ?_
            refine rn_geti (v := nI B) hX dX5_readNumber_128 fl_X5_42 rfl (LX5_s hp) hi.1.1.2.1 ?_
            refine r_iV2 hX dX5_readNumber_131 IX5_fail ml_X5_91 rfl (LX5_s hp) rfl (t_X5_fail (M := wI M i) hp hi.1.1 (k := 2) (f := B)) (by decide) (by decide) (by decide) (by decide) rfl (Nat.le_of_ble_eq_true rfl) (fun i4 h4 => ?_)
            show J G base X _ _ (wI M i4) _ _ _
            
            refine r_pop hX dX5_readNumber_134 rfl ?_
            refine r_iconst (v := (-1)) hX dX5_readNumber_135 (by decide) ?_
            refine r_ireturn hX rfl rfl dX5_readNumber_136 (by decide) (by decide) ?_
            have hqe := (nuQ_c (u := u) (lo := lo) (hi := hi9) hg hp9 he).2.2 (by rw [hBB]; exact hdg (by omega)) (by
              rw [hBB, hjE]
              exact fun z => by omega)
            rw [hBB, hjE] at hqe
            refine ⟨by rw [hqe, if_neg (nI_m1 (by omega))]; first | done | rfl, i4, rfl, ?_⟩
            rw [hqe]
            exact hi.1.tr h4
    · refine r_aload_n hX dX5_readNumber_90 rfl ?_
      refine r_iconst (v := nI 1) hX dX5_readNumber_91 (by decide) ?_
      refine r_aload_n hX dX5_readNumber_92 rfl ?_
      refine rn_geti (v := nI B) hX dX5_readNumber_93 fl_X5_42 rfl (LX5_s hp) hi.1.1.2.1 ?_
      refine r_iV2 hX dX5_readNumber_96 IX5_fail ml_X5_91 rfl (LX5_s hp) rfl (t_X5_fail (M := wI M i) hp hi.1.1 (k := 1) (f := B)) (by decide) (by decide) (by decide) (by decide) rfl (Nat.le_of_ble_eq_true rfl) (fun i4 h4 => ?_)
      show J G base X _ _ (wI M i4) _ _ _
      
      refine r_pop hX dX5_readNumber_99 rfl ?_
      refine r_iconst (v := (-1)) hX dX5_readNumber_100 (by decide) ?_
      refine r_ireturn hX rfl rfl dX5_readNumber_101 (by decide) (by decide) ?_
      have hqe := (nuQ_c (u := u) (lo := lo) (hi := hi9) hg hp9 he).1 (by
        rw [hBB]
        obtain rfl : j = B := by omega
        exact hend)
      rw [hBB] at hqe
      have hjB : j = B := by omega
      rw [hjB] at h4
      refine ⟨by rw [hqe, if_neg (nI_m1 (by omega))]; first | done | rfl, i4, rfl, ?_⟩
      rw [hqe]
      exact hi.1.tr h4
  refine r_aload_n hX dX5_readNumber_0 rfl ?_
  refine r_iV0 hX dX5_readNumber_1 IX5_skipBlanks ml_X5_146 rfl (LX5_s hp) rfl (t_X5_skipBlanks hp hT hq hp9 he) (by decide) (by decide) (by decide) (by decide) rfl (Nat.le_of_ble_eq_true rfl) (fun i1 h1 => ?_)
  rw [hBB] at h1
  show J G base X _ _ (wI M i1) _ _ _
  
  refine r_aload_n hX dX5_readNumber_4 rfl ?_
  refine r_aload_n hX dX5_readNumber_5 rfl ?_
  refine rn_geti (v := nI B) hX dX5_readNumber_6 fl_X5_39 rfl (LX5_s hp) h1.1.1 ?_
  refine r_puti hX dX5_readNumber_9 fl_X5_42 rfl rfl (LX5_s hp) ?_
  refine r_iconst (v := nI 0) hX dX5_readNumber_12 (by decide) ?_
  refine r_istore3 hX dX5_readNumber_13 rfl ?_
  have h00 : nI 0 = nI (nuV u B (B - B)) := by rw [Nat.sub_self]; rfl
  show J G base X 0 0 (wI M (mI (uI (wI M i1) p 7 (nI B)))) 14 [some (.ref p), some (.int (nI lo)), some (.int (nI hi9)), some (.int (nI 0))] []
  rw [h00]
  refine loop_us (σ := Nat → Nat → Int32) (P := fun j i => (cS M p (j, B, q.2.2) i ∧ eo (dgB u) e j = eo (dgB u) e B ∧ B ≤ j ∧ ∀ k, k < j - B → dgB u (B + k) = true) → J G base X 0 0 (wI M i) 14 [some (.ref p), some (.int (nI lo)), some (.int (nI hi9)), some (.int (nI (nuV u B (j - B))))] []) e (fun j i hj ih hi => ?_) B (mI (uI (wI M i1) p 7 (nI B))) hB ⟨h1.put (by omega) (cQ7 (M := wI M i1) h1.1), rfl, Nat.le_refl _, fun k hk => by omega⟩
  have hBj := hi.2.2.1
  have hXb := (nuV_b (u := u) (p := B) (j - B) hi.2.2.2).1
  refine r_aload_n hX dX5_readNumber_14 rfl ?_
  refine rn_geti (v := nI j) hX dX5_readNumber_15 fl_X5_39 rfl (LX5_s hp) hi.1.1.1 ?_
  refine r_aload_n hX dX5_readNumber_18 rfl ?_
  refine rn_geti (v := nI e) hX dX5_readNumber_19 fl_X5_36 rfl (LX5_s hp) (hi.1.pt hT).2.2 ?_
  refine rn_icmp_ge (tgt := 79) hX dX5_readNumber_22 (by decide) rfl rfl (by omega) (by omega) (fun c22 => ?_) (fun c22 => ?_)
  · exact fin j i hj hi (Or.inl (by omega))
  · refine r_aload_n hX dX5_readNumber_25 rfl ?_
    refine r_aload_n hX dX5_readNumber_26 rfl ?_
    refine rn_geti (v := nI j) hX dX5_readNumber_27 fl_X5_39 rfl (LX5_s hp) hi.1.1.1 ?_
    refine r_cV1 hX dX5_readNumber_30 IX5_isDigit ml_X5_149 rfl (LX5_s hp) rfl (t_X5_isDigit (M := wI M i) hp (hi.1.pt hT) (by omega)) (by decide) (by decide) (by decide) (by decide) rfl (Nat.le_of_ble_eq_true rfl) ?_
    refine rb_if_eq (tgt := 79) hX dX5_readNumber_33 (by decide) rfl (fun c33 => ?_) (fun c33 => ?_)
    · exact fin j i hj hi (by
        rcases Nat.lt_or_ge j e with h | h
        · refine Or.inr ?_
          cases hc : dgB u j with
          | false => rfl
          | true => exact absurd ⟨h, hc⟩ c33
        · exact Or.inl h)
    · refine r_aload_n hX dX5_readNumber_36 rfl ?_
      refine rn_geti (v := nI j) hX dX5_readNumber_37 fl_X5_39 rfl (LX5_s hp) hi.1.1.1 ?_
      refine r_aload_n hX dX5_readNumber_40 rfl ?_
      refine rn_geti (v := nI B) hX dX5_readNumber_41 fl_X5_42 rfl (LX5_s hp) hi.1.1.2.1 ?_
      refine rn_isub hX dX5_readNumber_44 rfl rfl (by omega) ?_
      refine r_iconst (v := nI 3) hX dX5_readNumber_45 (by decide) ?_
      refine rn_icmp_ge (tgt := 66) hX dX5_readNumber_46 (by decide) rfl rfl (by omega) (by omega) (fun c46 => ?_) (fun c46 => ?_)
      · refine r_aload_n hX dX5_readNumber_66 rfl ?_
        refine r_dup hX dX5_readNumber_67 rfl ?_
        refine rn_geti (v := nI j) hX dX5_readNumber_68 fl_X5_39 rfl (LX5_s hp) hi.1.1.1 ?_
        refine r_iconst (v := nI 1) hX dX5_readNumber_71 (by decide) ?_
        refine rn_iadd hX dX5_readNumber_72 rfl rfl ?_
        refine r_puti hX dX5_readNumber_73 fl_X5_39 rfl rfl (LX5_s hp) ?_
        refine r_goto (tgt := 14) hX dX5_readNumber_76 (by decide) ?_
        have z := ih (by omega) _ ⟨hi.1.put (by omega) (cQ6 (M := wI M i) (q := (j, B, q.2.2)) hi.1.1), (eo_step c33.1 c33.2).symm.trans hi.2.1, by omega, fun k hk => by
          rcases (show k < j - B ∨ B + k = j by omega) with h | h
          · exact hi.2.2.2 k h
          · rw [h]; exact c33.2⟩
        rw [show j + 1 - B = (j - B) + 1 by omega, show nuV u B ((j - B) + 1) = nuV u B (j - B) by show (if _ then _ else _) = _; exact if_neg (by omega)] at z
        exact z
      · refine r_bipush (v := nI 10) hX dX5_readNumber_49 (by decide) ?_
        refine r_iload_n hX dX5_readNumber_51 rfl ?_
        refine rn_imul hX dX5_readNumber_52 rfl rfl ?_
        refine r_aload_n hX dX5_readNumber_53 rfl ?_
        refine r_aload_n hX dX5_readNumber_54 rfl ?_
        refine rn_geti (v := nI j) hX dX5_readNumber_55 fl_X5_39 rfl (LX5_s hp) hi.1.1.1 ?_
        refine r_cV1 hX dX5_readNumber_58 IX5_byteAt ml_X5_182 rfl (LX5_s hp) rfl (t_X5_byteAt (M := wI M i) hp (hi.1.pt hT) (by omega)) (by decide) (by decide) (by decide) (by decide) rfl (Nat.le_of_ble_eq_true rfl) ?_
        rw [show byI u e j = nI (u j) from if_pos (by omega)]
        refine rn_iadd hX dX5_readNumber_61 rfl rfl ?_
        refine r_bipush (v := nI 48) hX dX5_readNumber_62 (by decide) ?_
        have hd8 : 48 ≤ u j := (of_decide_eq_true c33.2 : 48 ≤ u j ∧ u j ≤ 57).1
        refine rn_isub hX dX5_readNumber_64 rfl rfl (by omega) ?_
        refine r_istore3 hX dX5_readNumber_65 rfl ?_
        refine r_aload_n hX dX5_readNumber_66 rfl ?_
        refine r_dup hX dX5_readNumber_67 rfl ?_
        refine rn_geti (v := nI j) hX dX5_readNumber_68 fl_X5_39 rfl (LX5_s hp) hi.1.1.1 ?_
        refine r_iconst (v := nI 1) hX dX5_readNumber_71 (by decide) ?_
        refine rn_iadd hX dX5_readNumber_72 rfl rfl ?_
        refine r_puti hX dX5_readNumber_73 fl_X5_39 rfl rfl (LX5_s hp) ?_
        refine r_goto (tgt := 14) hX dX5_readNumber_76 (by decide) ?_
        have z := ih (by omega) _ ⟨hi.1.put (by omega) (cQ6 (M := wI M i) (q := (j, B, q.2.2)) hi.1.1), (eo_step c33.1 c33.2).symm.trans hi.2.1, by omega, fun k hk => by
          rcases (show k < j - B ∨ B + k = j by omega) with h | h
          · exact hi.2.2.2 k h
          · rw [h]; exact c33.2⟩
        rw [show j + 1 - B = (j - B) + 1 by omega, show nuV u B ((j - B) + 1) = 10 * nuV u B (j - B) + u j - 48 by (show (if _ then _ else _) = _; rw [if_pos (show j - B < 3 by omega), show B + (j - B) = j by omega]; omega)] at z
        exact z
