variable {G : GG} {base : Nat}
theorem byI_bl {u : Nat → Nat} {e j : Nat} (hu : j < e → u j < 256) : (byI u e j = 32 ∨ byI u e j = 9 ∨ byI u e j = 10) ↔ (j < e ∧ blB u j = true) := by
  unfold byI blB cl
  by_cases h : j < e
  · have hb := hu h
    rw [if_pos h, show (32 : Int32) = nI 32 from rfl, show (9 : Int32) = nI 9 from rfl, show (10 : Int32) = nI 10 from rfl, nI_eq (by omega) (by omega), nI_eq (by omega) (by omega), nI_eq (by omega) (by omega), Bool.or_eq_true, decide_eq_true_iff, decide_eq_true_iff]
    constructor
    · intro z; exact ⟨h, by omega⟩
    · rintro ⟨-, z⟩; omega
  · rw [if_neg h]
    exact ⟨fun z => absurd z (by decide), fun z => absurd z.1 h⟩
set_option maxHeartbeats 2000000 in
set_option maxRecDepth 20000 in
theorem t_X5_skipBlanks {M : Mm} {p b N e : Nat} {u : Nat → Nat} (hp : LX5 M.1 M.2.1 p) (hT : PT M p b N e u) {q : Q4} (hq : cQ (mI M) p q) (hp9 : q.1 ≤ e) (he : e ≤ 900) : Ct G base YX5_skipBlanks 3 0 0 [.ref p] M (rI none M (cS M p (eo (blB u) e q.1, q.2))) := by
  refine Ct.of IX5_skipBlanks.1 (by simp [Value.category]) (Nat.le_of_ble_eq_true rfl) (fun X hX hN => ?_)
  show J G base X 0 0 M 0 [some (.ref p)] []
  show J G base X 0 0 (wI M (mI M)) 0 [some (.ref p)] []
  refine loop_us (σ := Nat → Nat → Int32) (P := fun j i => cS M p (j, q.2) i ∧ eo (blB u) e j = eo (blB u) e q.1 → J G base X 0 0 (wI M i) 0 [some (.ref p)] []) e (fun j i hj ih hi => ?_) q.1 (mI M) hp9 ⟨cS.rf hq, rfl⟩
  refine r_aload_n hX dX5_skipBlanks_0 rfl ?_
  refine rn_geti (v := nI j) hX dX5_skipBlanks_1 fl_X5_39 rfl (LX5_s hp) hi.1.1.1 ?_
  refine r_aload_n hX dX5_skipBlanks_4 rfl ?_
  refine rn_geti (v := nI e) hX dX5_skipBlanks_5 fl_X5_36 rfl (LX5_s hp) (hi.1.pt hT).2.2 ?_
  refine rn_icmp_ge (tgt := 38) hX dX5_skipBlanks_8 (by decide) rfl rfl (by omega) (by omega) (fun c8 => ?_) (fun c8 => ?_)
  · refine r_return hX rfl dX5_skipBlanks_38 (by decide) (by decide) ?_
    have hj2 : eo (blB u) e j = j := eo_stop (Or.inl (by omega))
    refine ⟨rfl, i, rfl, ?_⟩
    rw [← hi.2, hj2]
    exact hi.1
  · refine r_aload_n hX dX5_skipBlanks_11 rfl ?_
    refine r_aload_n hX dX5_skipBlanks_12 rfl ?_
    refine rn_geti (v := nI j) hX dX5_skipBlanks_13 fl_X5_39 rfl (LX5_s hp) hi.1.1.1 ?_
    refine r_cV1 hX dX5_skipBlanks_16 IX5_byteAt ml_X5_182 rfl (LX5_s hp) rfl (t_X5_byteAt (M := wI M i) hp (hi.1.pt hT) (by omega)) (by decide) (by decide) (by decide) (by decide) rfl (Nat.le_of_ble_eq_true rfl) ?_
    refine r_cS1 hX dX5_skipBlanks_19 IX5_isBlank ml_X5_189 rfl (t_X5_isBlank (M := wI M i)) (by decide) (by decide) (by decide) (by decide) rfl (Nat.le_of_ble_eq_true rfl) ?_
    rw [itec (byI_bl (u := u) (e := e) (j := j) (fun h => ((hi.1.pt hT).2.1 j h).1))]
    refine rb_if_eq (tgt := 38) hX dX5_skipBlanks_22 (by decide) rfl (fun c22 => ?_) (fun c22 => ?_)
    · refine r_return hX rfl dX5_skipBlanks_38 (by decide) (by decide) ?_
      have hj2 : eo (blB u) e j = j := eo_stop (by
        rcases Nat.lt_or_ge j e with h | h
        · refine Or.inr ?_
          cases hc : blB u j with
          | false => rfl
          | true => exact absurd ⟨h, hc⟩ c22
        · exact Or.inl h)
      refine ⟨rfl, i, rfl, ?_⟩
      rw [← hi.2, hj2]
      exact hi.1
    · refine r_aload_n hX dX5_skipBlanks_25 rfl ?_
      refine r_dup hX dX5_skipBlanks_26 rfl ?_
      refine rn_geti (v := nI j) hX dX5_skipBlanks_27 fl_X5_39 rfl (LX5_s hp) hi.1.1.1 ?_
      refine r_iconst (v := nI 1) hX dX5_skipBlanks_30 (by decide) ?_
      refine rn_iadd hX dX5_skipBlanks_31 rfl rfl ?_
      refine r_puti hX dX5_skipBlanks_32 fl_X5_39 rfl rfl (LX5_s hp) ?_
      refine r_goto (tgt := 0) hX dX5_skipBlanks_35 (by decide) ?_
      refine ih (by omega) _ ⟨hi.1.put (by omega) (cQ6 (M := wI M i) (q := (j, q.2)) hi.1.1), ?_⟩
      rw [← hi.2]
      exact (eo_step c22.1 c22.2).symm
set_option maxHeartbeats 2000000 in
set_option maxRecDepth 20000 in
theorem t_X5_readWord {M : Mm} {p b N e : Nat} {u : Nat → Nat} (hp : LX5 M.1 M.2.1 p) (hT : PT M p b N e u) {q : Q4} (hq : cQ (mI M) p q) (hp9 : q.1 ≤ e) (he : e ≤ 900) : Ct G base YX5_readWord 4 0 0 [.ref p] M (rI none M (cS M p (eo (lwB u) e (eo (blB u) e q.1), eo (blB u) e q.1, q.2.2))) := by
  refine Ct.of IX5_readWord.1 (by simp [Value.category]) (Nat.le_of_ble_eq_true rfl) (fun X hX hN => ?_)
  show J G base X 0 0 M 0 [some (.ref p)] []
  have hbe := eo_le (f := blB u) hp9
  refine r_aload_n hX dX5_readWord_0 rfl ?_
  refine r_iV0 hX dX5_readWord_1 IX5_skipBlanks ml_X5_146 rfl (LX5_s hp) rfl (t_X5_skipBlanks hp hT hq hp9 he) (by decide) (by decide) (by decide) (by decide) rfl (Nat.le_of_ble_eq_true rfl) (fun i1 h1 => ?_)
  show J G base X _ _ (wI M i1) _ _ _
  
  refine r_aload_n hX dX5_readWord_4 rfl ?_
  refine r_aload_n hX dX5_readWord_5 rfl ?_
  refine rn_geti (v := nI (eo (blB u) e q.1)) hX dX5_readWord_6 fl_X5_39 rfl (LX5_s hp) h1.1.1 ?_
  refine r_puti hX dX5_readWord_9 fl_X5_42 rfl rfl (LX5_s hp) ?_
  show J G base X 0 0 (wI M (mI (uI (wI M i1) p 7 (nI (eo (blB u) e q.1))))) 12 _ []
  refine loop_us (σ := Nat → Nat → Int32) (P := fun j i => cS M p (j, (eo (blB u) e q.1), q.2.2) i ∧ eo (lwB u) e j = eo (lwB u) e (eo (blB u) e q.1) → J G base X 0 0 (wI M i) 12 [some (.ref p)] []) e (fun j i hj ih hi => ?_) (eo (blB u) e q.1) (mI (uI (wI M i1) p 7 (nI (eo (blB u) e q.1)))) hbe ⟨h1.put (by omega) (cQ7 (M := wI M i1) h1.1), rfl⟩
  refine r_aload_n hX dX5_readWord_12 rfl ?_
  refine rn_geti (v := nI j) hX dX5_readWord_13 fl_X5_39 rfl (LX5_s hp) hi.1.1.1 ?_
  refine r_aload_n hX dX5_readWord_16 rfl ?_
  refine rn_geti (v := nI e) hX dX5_readWord_17 fl_X5_36 rfl (LX5_s hp) (hi.1.pt hT).2.2 ?_
  refine rn_icmp_ge (tgt := 47) hX dX5_readWord_20 (by decide) rfl rfl (by omega) (by omega) (fun c20 => ?_) (fun c20 => ?_)
  · refine r_return hX rfl dX5_readWord_47 (by decide) (by decide) ?_
    have hj2 : eo (lwB u) e j = j := eo_stop (Or.inl (by omega))
    refine ⟨rfl, i, rfl, ?_⟩
    rw [← hi.2, hj2]
    exact hi.1
  · refine r_aload_n hX dX5_readWord_23 rfl ?_
    refine r_aload_n hX dX5_readWord_24 rfl ?_
    refine rn_geti (v := nI j) hX dX5_readWord_25 fl_X5_39 rfl (LX5_s hp) hi.1.1.1 ?_
    refine r_cV1 hX dX5_readWord_28 IX5_isLowerCase ml_X5_170 rfl (LX5_s hp) rfl (t_X5_isLowerCase (M := wI M i) hp (hi.1.pt hT) (by omega)) (by decide) (by decide) (by decide) (by decide) rfl (Nat.le_of_ble_eq_true rfl) ?_
    refine rb_if_eq (tgt := 47) hX dX5_readWord_31 (by decide) rfl (fun c31 => ?_) (fun c31 => ?_)
    · refine r_return hX rfl dX5_readWord_47 (by decide) (by decide) ?_
      have hj2 : eo (lwB u) e j = j := eo_stop (by
        rcases Nat.lt_or_ge j e with h | h
        · refine Or.inr ?_
          cases hc : lwB u j with
          | false => rfl
          | true => exact absurd ⟨h, hc⟩ c31
        · exact Or.inl h)
      refine ⟨rfl, i, rfl, ?_⟩
      rw [← hi.2, hj2]
      exact hi.1
    · refine r_aload_n hX dX5_readWord_34 rfl ?_
      refine r_dup hX dX5_readWord_35 rfl ?_
      refine rn_geti (v := nI j) hX dX5_readWord_36 fl_X5_39 rfl (LX5_s hp) hi.1.1.1 ?_
      refine r_iconst (v := nI 1) hX dX5_readWord_39 (by decide) ?_
      refine rn_iadd hX dX5_readWord_40 rfl rfl ?_
      refine r_puti hX dX5_readWord_41 fl_X5_39 rfl rfl (LX5_s hp) ?_
      refine r_goto (tgt := 12) hX dX5_readWord_44 (by decide) ?_
      refine ih (by omega) _ ⟨hi.1.put (by omega) (cQ6 (M := wI M i) (q := (j, (eo (blB u) e q.1), q.2.2)) hi.1.1), ?_⟩
      rw [← hi.2]
      exact (eo_step c31.1 c31.2).symm
set_option maxHeartbeats 2000000 in
set_option maxRecDepth 20000 in
theorem t_X5_readName {M : Mm} {p b N e : Nat} {u : Nat → Nat} (hp : LX5 M.1 M.2.1 p) (hT : PT M p b N e u) {q : Q4} (hq : cQ (mI M) p q) (hp9 : q.1 ≤ e) (he : e ≤ 900) : Ct G base YX5_readName 5 0 0 [.ref p] M (rI (some (.int (nI (nm32 u (eo (blB u) e q.1) (eo (lwB u) e (eo (blB u) e q.1) - eo (blB u) e q.1))))) M (cS M p (eo (lwB u) e (eo (blB u) e q.1), eo (blB u) e q.1, q.2.2))) := by
  refine Ct.of IX5_readName.1 (by simp [Value.category]) (Nat.le_of_ble_eq_true rfl) (fun X hX hN => ?_)
  show J G base X 0 0 M 0 [some (.ref p)] []
  have hbe := eo_le (f := blB u) hp9
  have hwe := eo_le (f := lwB u) hbe
  have hge := eo_ge (f := lwB u) (e := e) (p := eo (blB u) e q.1)
  refine r_aload_n hX dX5_readName_0 rfl ?_
  refine r_iV0 hX dX5_readName_1 IX5_readWord ml_X5_52 rfl (LX5_s hp) rfl (t_X5_readWord (M := M) hp hT hq hp9 he) (by decide) (by decide) (by decide) (by decide) rfl (Nat.le_of_ble_eq_true rfl) (fun i1 h1 => ?_)
  show J G base X _ _ (wI M i1) _ _ _
  
  refine r_aload_n hX dX5_readName_4 rfl ?_
  refine r_getr hX dX5_readName_5 fl_X5_32 rfl (LX5_s hp) (show mR (wI M i1) p 4 = some b from hT.1.1) ?_
  refine r_aload_n hX dX5_readName_8 rfl ?_
  refine rn_geti (v := nI (eo (blB u) e q.1)) hX dX5_readName_9 fl_X5_42 rfl (LX5_s hp) h1.1.2.1 ?_
  refine r_aload_n hX dX5_readName_12 rfl ?_
  refine rn_geti (v := nI (eo (lwB u) e (eo (blB u) e q.1))) hX dX5_readName_13 fl_X5_39 rfl (LX5_s hp) h1.1.1 ?_
  refine r_cS3 hX dX5_readName_16 IX5_nameIn ml_X5_185 rfl (t_X5_nameIn (M := wI M i1) (b := b) (N := N) (u := u) hT.1.2.1 (by have := hT.1.2.2.2.1; omega) hge (by have := hT.1.2.2.1; omega) (fun k h3 h4 => (h1.pt hT).2.1 k (by omega))) (by decide) (by decide) (by decide) (by decide) rfl (Nat.le_of_ble_eq_true rfl) ?_
  refine r_ireturn hX rfl rfl dX5_readName_19 (by decide) (by decide) ?_
  exact ⟨rfl, i1, rfl, h1⟩
set_option maxHeartbeats 2000000 in
set_option maxRecDepth 20000 in
theorem t_X5_isWord {M : Mm} {p b N e : Nat} {u : Nat → Nat} (hp : LX5 M.1 M.2.1 p) (hT : PT M p b N e u) {q : Q4} (hq : cQ (mI M) p q) (hse : q.2.1 ≤ q.1) (hp9 : q.1 ≤ e) (he : e ≤ 900) {w : Nat} (hw : w < 13) : Ct G base YX5_isWord 5 0 0 [.ref p, .ref (G.2.2.1 w)] M (rE (some (.int (if (q.1 - q.2.1 = (txw w).length ∧ ∀ j, j < (txw w).length → u (q.2.1 + j) = (txw w).getD j 0) then 1 else 0))) M) := by
  refine Ct.of IX5_isWord.1 (by simp [Value.category]) (Nat.le_of_ble_eq_true rfl) (fun X hX hN => ?_)
  show J G base X 0 0 M 0 [some (.ref p), some (.ref (G.2.2.1 w)), none] []
  have h9 := @txw_s w
  refine r_aload_n hX dX5_isWord_0 rfl ?_
  refine rn_geti (v := nI q.1) hX dX5_isWord_1 fl_X5_39 rfl (LX5_s hp) hq.1 ?_
  refine r_aload_n hX dX5_isWord_4 rfl ?_
  refine rn_geti (v := nI q.2.1) hX dX5_isWord_5 fl_X5_42 rfl (LX5_s hp) hq.2.1 ?_
  refine rn_isub hX dX5_isWord_8 rfl rfl (by omega) ?_
  refine r_aload_n hX dX5_isWord_9 rfl ?_
  refine r_cVs0 hX dX5_isWord_10 IJ0_length_8abf5 ml_X5_192 rfl hw rfl (t_length hw) (by decide) (by decide) (by decide) (by decide) rfl (Nat.le_of_ble_eq_true rfl) ?_
  refine rn_icmp_eq (tgt := 18) hX dX5_isWord_13 (by decide) rfl rfl (by omega) (by omega) (fun c13 => ?_) (fun c13 => ?_)
  · refine r_iconst (v := nI 0) hX dX5_isWord_18 (by decide) ?_
    refine r_istore2 hX dX5_isWord_19 rfl ?_
    refine loop_up (P := fun j => (∀ k, k < j → u (q.2.1 + k) = (txw w).getD k 0) → J G base X 0 0 M 20 [some (.ref p), some (.ref (G.2.2.1 w)), some (.int (nI j))] []) (txw w).length (fun j hj ih hok => ?_) 0 (Nat.zero_le _) (fun k hk => absurd hk (Nat.not_lt_zero _))
    refine r_iload_n hX dX5_isWord_20 rfl ?_
    refine r_aload_n hX dX5_isWord_21 rfl ?_
    refine r_cVs0 hX dX5_isWord_22 IJ0_length_8abf5 ml_X5_192 rfl hw rfl (t_length hw) (by decide) (by decide) (by decide) (by decide) rfl (Nat.le_of_ble_eq_true rfl) ?_
    refine rn_icmp_ge (tgt := 54) hX dX5_isWord_25 (by decide) rfl rfl (by omega) (by omega) (fun c25 => ?_) (fun c25 => ?_)
    · refine r_iconst (v := 1) hX dX5_isWord_54 (by decide) ?_
      refine r_ireturn hX rfl rfl dX5_isWord_55 (by decide) (by decide) ?_
      obtain rfl : j = (txw w).length := by omega
      refine ⟨?_, rfl⟩
      rw [if_pos ⟨c13, hok⟩]
      first | done | rfl
    · refine r_aload_n hX dX5_isWord_28 rfl ?_
      refine r_aload_n hX dX5_isWord_29 rfl ?_
      refine rn_geti (v := nI q.2.1) hX dX5_isWord_30 fl_X5_42 rfl (LX5_s hp) hq.2.1 ?_
      refine r_iload_n hX dX5_isWord_33 rfl ?_
      refine rn_iadd hX dX5_isWord_34 rfl rfl ?_
      refine r_cV1 hX dX5_isWord_35 IX5_byteAt ml_X5_182 rfl (LX5_s hp) rfl (t_X5_byteAt hp hT (j := q.2.1 + j) (by omega)) (by decide) (by decide) (by decide) (by decide) rfl (Nat.le_of_ble_eq_true rfl) ?_
      rw [show byI u e (q.2.1 + j) = nI (u (q.2.1 + j)) from if_pos (by omega)]
      refine r_aload_n hX dX5_isWord_38 rfl ?_
      refine r_iload_n hX dX5_isWord_39 rfl ?_
      refine r_cVs1 hX dX5_isWord_40 IJ0_charAt_5068e ml_X5_197 rfl hw rfl (t_charAt hw (by omega)) (by decide) (by decide) (by decide) (by decide) rfl (Nat.le_of_ble_eq_true rfl) ?_
      have hb8 := (hT.2.1 (q.2.1 + j) (by omega)).1
      have hcb := txw_b hw (j := j) (by omega)
      refine rn_icmp_eq (tgt := 48) hX dX5_isWord_43 (by decide) rfl rfl (by omega) (by omega) (fun c43 => ?_) (fun c43 => ?_)
      · refine rn_iinc2 hX dX5_isWord_48 rfl rfl ?_
        refine r_goto (tgt := 20) hX dX5_isWord_51 (by decide) ?_
        exact ih (by omega) (fun k hk => by
          rcases (show k < j ∨ k = j by omega) with h | rfl
          · exact hok k h
          · exact c43)
      · refine r_iconst (v := 0) hX dX5_isWord_46 (by decide) ?_
        refine r_ireturn hX rfl rfl dX5_isWord_47 (by decide) (by decide) ?_
        refine ⟨?_, rfl⟩
        rw [if_neg (fun z => c43 (z.2 j (by omega)))]
        first | done | rfl
  · refine r_iconst (v := 0) hX dX5_isWord_16 (by decide) ?_
    refine r_ireturn hX rfl rfl dX5_isWord_17 (by decide) (by decide) ?_
    refine ⟨?_, rfl⟩
    rw [if_neg (fun z => c13 z.1)]
    first | done | rfl
