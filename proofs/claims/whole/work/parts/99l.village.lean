variable {G : GG} {base : Nat}
/-! ===== THE CLASS: the parser's lines ===== -/
/-- how a name is read, in the reference: B its begin, W its length -/
theorem pmQ_c {u : Nat → Nat} {e B W : Nat} {q : Q4} (hg : q.2.2.1 = -1) (hp : q.1 ≤ e) (he : e ≤ 900) (hB : eo (blB u) e q.1 = B) (hW : eo (lwB u) e B - B = W) :
    (¬ (1 ≤ W ∧ W ≤ 6) → nm32 u B W = 0 ∧ ∀ c k, (pnQ u e (muQ c k (snR u e q))).2.2 = (nI B, nI 1)) ∧
    (1 ≤ W ∧ W ≤ 6 → snV u e q = nmV u B W ∧ (∀ j, j < W → isL (u (B + j))) ∧ ¬ nI (nm32 u B W) = nI 0 ∧ (∀ k, pnQ u e (muQ true k (snR u e q)) = (B + W, B, q.2.2)) ∧ ∀ k, (pnQ u e (muQ false k (snR u e q))).2.2 = (nI B, nI k)) := by
  have hBe := eo_le (f := blB u) hp
  have hb := bl_1 (u := u) (e := e) hg
  rw [hB] at hBe hb
  have hw : whN u e q = W := by unfold whN; rw [hb]; exact hW
  refine ⟨fun h => ⟨if_neg (fun z => h ⟨z.1, z.2.1⟩), fun c k => ?_⟩, fun h => ?_⟩
  · have hs : snR u e q = (B, B, nI B, nI 1) := by
      unfold snR
      rw [hw, hb, muQ_d (q := (B, B, q.2.2)) hg, if_neg h]
    have hf : ¬ (snR u e q).2.2.1 = -1 := by rw [hs]; exact nI_m1 (by omega)
    rw [fl_mu hf, fl_pn hf, hs]
  · have hs : snR u e q = (B, B, q.2.2) := by
      unfold snR
      rw [hw, hb, muQ_d (q := (B, B, q.2.2)) hg, if_pos h]
    have hl : ∀ j, j < W → isL (u (B + j)) := fun j hj => by
      have z := whN_l (u := u) (e := e) (q := q) (j := j) (by rw [hw]; exact hj)
      rw [hb] at z
      exact z
    refine ⟨?_, hl, nm_ne0 (nm_R h.1 h.2 hl), fun k => ?_, fun k => ?_⟩
    · unfold snV
      rw [hs, if_pos hg, hb, hw]
    · rw [muQ_t, hs]
      have hbb : eo (blB u) e B = B := by rw [← hB]; exact eo_eo hp
      have hb2 : blQ u e (B, B, q.2.2) = (B, B, q.2.2) := by
        rw [bl_1 (q := (B, B, q.2.2)) hg]
        show (eo (blB u) e B, eo (blB u) e B, q.2.2) = _
        rw [hbb]
      have hw2 : whN u e (B, B, q.2.2) = W := by unfold whN; rw [hb2]; exact hW
      unfold pnQ
      rw [if_pos hg, hw2, hb2]
    · rw [hs, muQ_n (q := (B, B, q.2.2)) hg, fl_pn (q := (B, B, nI B, nI k)) (nI_m1 (by show B < 100000; omega))]
/-- behind a step: where it reads (if nothing failed), the failure -/
def cE (M : Mm) (p : Nat) (r : Q4) (i : Nat → Nat → Int32) : Prop := ∃ at_ st, cS M p (at_, st, r.2.2) i ∧ (r.2.2.1 = -1 → at_ = r.1)
theorem cE.bad {M : Mm} {p : Nat} {q r : Q4} {i : Nat → Nat → Int32} (h : cS M p q i) (he : r.2.2 = q.2.2) (hf : ¬ q.2.2.1 = -1) : cE M p r i := ⟨q.1, q.2.1, by rw [he]; exact h, fun z => absurd (by rw [← he]; exact z) hf⟩
/-- behind a step that keeps the reference's registers -/
def cF (M : Mm) (p : Nat) (r : Q4) (i : Nat → Nat → Int32) : Prop := (∃ at_ st, cS M p (at_, st, r.2.2) i) ∧ (r.2.2.1 = -1 → cS M p r i)
theorem cF.bad {M : Mm} {p : Nat} {q r : Q4} {i : Nat → Nat → Int32} (h : cS M p q i) (he : r.2.2 = q.2.2) (hf : ¬ q.2.2.1 = -1) : cF M p r i := ⟨⟨q.1, q.2.1, by rw [he]; exact h⟩, fun z => absurd (by rw [← he]; exact z) hf⟩
theorem cF.ok {M : Mm} {p : Nat} {r : Q4} {i : Nat → Nat → Int32} (h : cS M p r i) : cF M p r i := ⟨⟨r.1, r.2.1, h⟩, fun _ => h⟩
theorem rvQ_is {n : Nat → Int32} {u : Nat → Nat} {e : Nat} {o : Int32} {q : Q4} : rvQ n u e o q = pnQ u e (muQ (decide (townP n (rpI n u e q) ∧ ¬ rpI n u e q = o)) 3 (snR u e q)) := rfl
set_option maxHeartbeats 2000000 in
set_option maxRecDepth 20000 in
theorem t_X5_readVillage {M : Mm} {p b N e : Nat} {u : Nat → Nat} (hp : LX5 M.1 M.2.1 p) (hT : PT M p b N e u) {q : Q4} (hg : q.2.2.1 = -1) (hq : cQ (mI M) p q) (hp9 : q.1 ≤ e) (he : e ≤ 900) {n : Nat → Int32} (hTT : TT (mI M) (p + 1) n) (h0 : Rn n 0 10) {other : Int32} : Ct G base YX5_readVillage 6 0 0 [.ref p, .int other] M (rI (some (.int (if (rvQ n u e other q).2.2.1 = -1 then rpI n u e q else -1))) M (cF M p (rvQ n u e other q))) := by
  refine Ct.of IX5_readVillage.1 (by simp [Value.category]) (Nat.le_of_ble_eq_true rfl) (fun X hX hN => ?_)
  show J G base X 0 0 M 0 [some (.ref p), some (.int other), none, none] []
  have hBe := eo_le (f := blB u) hp9
  generalize hBB : eo (blB u) e q.1 = B at *
  generalize hWW : eo (lwB u) e B - B = W at *
  have hWe := eo_le (f := lwB u) hBe
  have hWg := eo_ge (f := lwB u) (e := e) (p := B)
  obtain ⟨kbad, kok⟩ := pmQ_c hg hp9 he hBB hWW
  refine r_aload_n hX dX5_readVillage_0 rfl ?_
  refine r_iV0 hX dX5_readVillage_1 IX5_readName ml_X5_114 rfl (LX5_s hp) rfl (t_X5_readName hp hT hq hp9 he) (by decide) (by decide) (by decide) (by decide) rfl (Nat.le_of_ble_eq_true rfl) (fun i1 h1 => ?_)
  rw [hBB] at h1
  show J G base X _ _ (wI M i1) _ _ _
  rw [hBB, hWW]
  refine r_istore2 hX dX5_readVillage_4 rfl ?_
  refine r_iload_n hX dX5_readVillage_5 rfl ?_
  refine r_if_ne (tgt := 21) hX dX5_readVillage_6 (by decide) (fun c6 => ?_) (fun c6 => ?_)
  · have hok : 1 ≤ W ∧ W ≤ 6 := Classical.byContradiction (fun z => c6 (by rw [(kbad z).1]; rfl))
    have hT1 : TT (mI (wI M i1)) (p + 1) n := hTT.kept (fun x x1 x2 k => congrFun (h1.2.1 x (by omega)) k)
    have hm0 : mI (wI M i1) (p + 1) 0 = nI (nv n 0) := hT1.1.trans h0.1
    have h10 := h0.2
    refine r_aload_n hX dX5_readVillage_21 rfl ?_
    refine r_getr hX dX5_readVillage_22 fl_X5_12 rfl (LX5_s hp) (LX5_r0 hp) ?_
    refine r_iload_n hX dX5_readVillage_25 rfl ?_
    refine r_cV1 hX dX5_readVillage_26 IX9_placeOfName ml_X5_118 rfl (LX9_s (LX5_o0 hp)) rfl (t_X9_placeOfName (M := wI M i1) (LX5_o0 hp) hm0 (by omega)) (by decide) (by decide) (by decide) (by decide) rfl (Nat.le_of_ble_eq_true rfl) ?_
    rw [show (fun k => decide (mI (wI M i1) (p + 1 + 1) k = nI (nm32 u B W))) = fun j => decide (i1 (p + 1 + 1) j = nI (nm32 u B W)) from rfl, fst_nm (i := i1) (b := p + 1) hT1, if_pos ⟨hok.1, hok.2, (kok hok).2.1⟩, ← (kok hok).1, show fnN n 18 (nI (snV u e q)) (nv n 0) = rpI n u e q from rfl]
    refine r_istore3 hX dX5_readVillage_29 rfl ?_
    refine r_aload_n hX dX5_readVillage_30 rfl ?_
    refine r_getr hX dX5_readVillage_31 fl_X5_12 rfl (LX5_s hp) (LX5_r0 hp) ?_
    refine r_iload_n hX dX5_readVillage_34 rfl ?_
    refine r_cV1 hX dX5_readVillage_35 IX9_hasOffice ml_X5_179 rfl (LX9_s (LX5_o0 hp)) rfl (t_X9_hasOffice (M := wI M i1) (LX5_o0 hp) hT1 h0) (by decide) (by decide) (by decide) (by decide) rfl (Nat.le_of_ble_eq_true rfl) ?_
    refine rb_if_eq (tgt := 46) hX dX5_readVillage_38 (by decide) rfl (fun c38 => ?_) (fun c38 => ?_)
    · refine r_aload_n hX dX5_readVillage_46 rfl ?_
      refine r_iconst (v := nI 3) hX dX5_readVillage_47 (by decide) ?_
      refine r_aload_n hX dX5_readVillage_48 rfl ?_
      refine rn_geti (v := nI B) hX dX5_readVillage_49 fl_X5_42 rfl (LX5_s hp) h1.1.2.1 ?_
      refine r_iV2 hX dX5_readVillage_52 IX5_fail ml_X5_91 rfl (LX5_s hp) rfl (t_X5_fail (M := wI M i1) hp h1.1 (k := 3) (f := B)) (by decide) (by decide) (by decide) (by decide) rfl (Nat.le_of_ble_eq_true rfl) (fun i4 h4 => ?_)
      show J G base X _ _ (wI M i4) _ _ _
      
      refine r_pop hX dX5_readVillage_55 rfl ?_
      refine r_iconst (v := (-1)) hX dX5_readVillage_56 (by decide) ?_
      refine r_ireturn hX rfl rfl dX5_readVillage_57 (by decide) (by decide) ?_
      have hr : (rvQ n u e other q).2.2 = (nI B, nI 3) := by rw [rvQ_is, decide_eq_false (fun z => c38 z.1)]; exact (kok hok).2.2.2.2 3
      refine ⟨by rw [show (rvQ n u e other q).2.2.1 = nI B from congrArg Prod.fst hr, if_neg (nI_m1 (by omega))]; first | done | rfl, i4, rfl, cF.bad (h1.tr h4) hr (nI_m1 (by show B < 100000; omega))⟩
    · refine r_iload_n hX dX5_readVillage_41 rfl ?_
      refine r_iload_n hX dX5_readVillage_42 rfl ?_
      refine r_icmp_ne (tgt := 58) hX dX5_readVillage_43 (by decide) (fun c43 => ?_) (fun c43 => ?_)
      · refine r_iload_n hX dX5_readVillage_58 rfl ?_
        refine r_ireturn hX rfl rfl dX5_readVillage_59 (by decide) (by decide) ?_
        have hr : rvQ n u e other q = (B + W, B, q.2.2) := by rw [rvQ_is, decide_eq_true ⟨c38, c43⟩]; exact (kok hok).2.2.2.1 3
        refine ⟨by rw [hr, if_pos hg], i1, rfl, cF.ok ?_⟩
        rw [hr]
        rw [show eo (lwB u) e B = B + W by omega] at h1
        exact h1
      · refine r_aload_n hX dX5_readVillage_46 rfl ?_
        refine r_iconst (v := nI 3) hX dX5_readVillage_47 (by decide) ?_
        refine r_aload_n hX dX5_readVillage_48 rfl ?_
        refine rn_geti (v := nI B) hX dX5_readVillage_49 fl_X5_42 rfl (LX5_s hp) h1.1.2.1 ?_
        refine r_iV2 hX dX5_readVillage_52 IX5_fail ml_X5_91 rfl (LX5_s hp) rfl (t_X5_fail (M := wI M i1) hp h1.1 (k := 3) (f := B)) (by decide) (by decide) (by decide) (by decide) rfl (Nat.le_of_ble_eq_true rfl) (fun i4 h4 => ?_)
        show J G base X _ _ (wI M i4) _ _ _
        
        refine r_pop hX dX5_readVillage_55 rfl ?_
        refine r_iconst (v := (-1)) hX dX5_readVillage_56 (by decide) ?_
        refine r_ireturn hX rfl rfl dX5_readVillage_57 (by decide) (by decide) ?_
        have hr : (rvQ n u e other q).2.2 = (nI B, nI 3) := by rw [rvQ_is, decide_eq_false (fun z => z.2 c43)]; exact (kok hok).2.2.2.2 3
        refine ⟨by rw [show (rvQ n u e other q).2.2.1 = nI B from congrArg Prod.fst hr, if_neg (nI_m1 (by omega))]; first | done | rfl, i4, rfl, cF.bad (h1.tr h4) hr (nI_m1 (by show B < 100000; omega))⟩
  · refine r_aload_n hX dX5_readVillage_9 rfl ?_
    refine r_iconst (v := nI 1) hX dX5_readVillage_10 (by decide) ?_
    refine r_aload_n hX dX5_readVillage_11 rfl ?_
    refine rn_geti (v := nI B) hX dX5_readVillage_12 fl_X5_42 rfl (LX5_s hp) h1.1.2.1 ?_
    refine r_iV2 hX dX5_readVillage_15 IX5_fail ml_X5_91 rfl (LX5_s hp) rfl (t_X5_fail (M := wI M i1) hp h1.1 (k := 1) (f := B)) (by decide) (by decide) (by decide) (by decide) rfl (Nat.le_of_ble_eq_true rfl) (fun i4 h4 => ?_)
    show J G base X _ _ (wI M i4) _ _ _
    
    refine r_pop hX dX5_readVillage_18 rfl ?_
    refine r_iconst (v := (-1)) hX dX5_readVillage_19 (by decide) ?_
    refine r_ireturn hX rfl rfl dX5_readVillage_20 (by decide) (by decide) ?_
    have hr : (rvQ n u e other q).2.2 = (nI B, nI 1) := by rw [rvQ_is]; exact (kbad (fun z => (kok z).2.2.1 c6)).2 _ 3
    refine ⟨by rw [show (rvQ n u e other q).2.2.1 = nI B from congrArg Prod.fst hr, if_neg (nI_m1 (by omega))]; first | done | rfl, i4, rfl, cF.bad (h1.tr h4) hr (nI_m1 (by show B < 100000; omega))⟩
/-- behind a line's end -/
def scQ (u : Nat → Nat) (e : Nat) (q : Q4) : Q4 := ((edM u e q).1 + 1, (edM u e q).2)
theorem edM_c {u : Nat → Nat} {e B : Nat} {q : Q4} (hg : q.2.2.1 = -1) (hp : q.1 ≤ e) (he : e ≤ 900) (hB : eo (blB u) e q.1 = B) (hu : ∀ k, k < e → u k < 256) : (byI u e B = 59 → edM u e q = (B, B, q.2.2)) ∧ (¬ byI u e B = 59 → (edM u e q).2.2 = (nI B, nI 1)) := by
  have hb := bl_1 (u := u) (e := e) hg
  rw [hB] at hb
  have key : byI u e B = 59 ↔ (B < e ∧ cl u 59 59 B = true) := by
    rw [← byI_in (u := u) (e := e) (j := B) (x := 59) (y := 59) (hu B) (by omega) (by omega)]
    constructor
    · intro h; rw [h]; exact ⟨by decide, by decide⟩
    · intro h; exact Int32.le_antisymm h.2 h.1
  unfold edM
  rw [hb, muQ_d (q := (B, B, q.2.2)) hg]
  refine ⟨fun h => by rw [if_pos (key.mp h)], fun h => by rw [if_neg (fun z => h (key.mpr z))]⟩
set_option maxHeartbeats 2000000 in
set_option maxRecDepth 20000 in
theorem t_X5_readSemicolon {M : Mm} {p b N e : Nat} {u : Nat → Nat} (hp : LX5 M.1 M.2.1 p) (hT : PT M p b N e u) {q : Q4} (hg : q.2.2.1 = -1) (hq : cQ (mI M) p q) (hp9 : q.1 ≤ e) (he : e ≤ 900) : Ct G base YX5_readSemicolon 4 0 0 [.ref p] M (rI (some (.int (if (scQ u e q).2.2.1 = -1 then 1 else 0))) M (cE M p (scQ u e q))) := by
  refine Ct.of IX5_readSemicolon.1 (by simp [Value.category]) (Nat.le_of_ble_eq_true rfl) (fun X hX hN => ?_)
  show J G base X 0 0 M 0 [some (.ref p)] []
  have hBe := eo_le (f := blB u) hp9
  generalize hBB : eo (blB u) e q.1 = B at *
  have ke := edM_c hg hp9 he hBB (fun k hk => (hT.2.1 k hk).1)
  refine r_aload_n hX dX5_readSemicolon_0 rfl ?_
  refine r_iV0 hX dX5_readSemicolon_1 IX5_skipBlanks ml_X5_146 rfl (LX5_s hp) rfl (t_X5_skipBlanks hp hT hq hp9 he) (by decide) (by decide) (by decide) (by decide) rfl (Nat.le_of_ble_eq_true rfl) (fun i1 h1 => ?_)
  rw [hBB] at h1
  show J G base X _ _ (wI M i1) _ _ _
  
  refine r_aload_n hX dX5_readSemicolon_4 rfl ?_
  refine r_aload_n hX dX5_readSemicolon_5 rfl ?_
  refine rn_geti (v := nI B) hX dX5_readSemicolon_6 fl_X5_39 rfl (LX5_s hp) h1.1.1 ?_
  refine r_cV1 hX dX5_readSemicolon_9 IX5_byteAt ml_X5_182 rfl (LX5_s hp) rfl (t_X5_byteAt (M := wI M i1) hp (h1.pt hT) (j := B) (by omega)) (by decide) (by decide) (by decide) (by decide) rfl (Nat.le_of_ble_eq_true rfl) ?_
  refine r_bipush (v := 59) hX dX5_readSemicolon_12 (by decide) ?_
  refine r_icmp_eq (tgt := 27) hX dX5_readSemicolon_14 (by decide) (fun c14 => ?_) (fun c14 => ?_)
  · refine r_aload_n hX dX5_readSemicolon_27 rfl ?_
    refine r_dup hX dX5_readSemicolon_28 rfl ?_
    refine rn_geti (v := nI B) hX dX5_readSemicolon_29 fl_X5_39 rfl (LX5_s hp) h1.1.1 ?_
    refine r_iconst (v := nI 1) hX dX5_readSemicolon_32 (by decide) ?_
    refine rn_iadd hX dX5_readSemicolon_33 rfl rfl ?_
    refine r_puti hX dX5_readSemicolon_34 fl_X5_39 rfl rfl (LX5_s hp) ?_
    refine r_iconst (v := 1) hX dX5_readSemicolon_37 (by decide) ?_
    refine r_ireturn hX rfl rfl dX5_readSemicolon_38 (by decide) (by decide) ?_
    have hr := ke.1 c14
    refine ⟨?_, mI (uI (wI M i1) p 6 (nI (B + 1))), rfl, B + 1, q.2.1, ?_, fun _ => ?_⟩
    · show _ = Sum.inl (some (Value.int (if (edM u e q).2.2.1 = -1 then 1 else 0)))
      rw [hr, if_pos hg]
      first | done | rfl
    · show cS M p (B + 1, q.2.1, (edM u e q).2.2) _
      rw [hr]
      exact h1.put (by omega) (cQ6 (M := wI M i1) (q := (B, q.2)) h1.1)
    · show B + 1 = (edM u e q).1 + 1
      rw [hr]
  · refine r_aload_n hX dX5_readSemicolon_17 rfl ?_
    refine r_iconst (v := nI 1) hX dX5_readSemicolon_18 (by decide) ?_
    refine r_aload_n hX dX5_readSemicolon_19 rfl ?_
    refine rn_geti (v := nI B) hX dX5_readSemicolon_20 fl_X5_39 rfl (LX5_s hp) h1.1.1 ?_
    refine r_iV2 hX dX5_readSemicolon_23 IX5_fail ml_X5_91 rfl (LX5_s hp) rfl (t_X5_fail (M := wI M i1) hp h1.1 (k := 1) (f := B)) (by decide) (by decide) (by decide) (by decide) rfl (Nat.le_of_ble_eq_true rfl) (fun i4 h4 => ?_)
    show J G base X _ _ (wI M i4) _ _ _
    
    refine r_ireturn hX rfl rfl dX5_readSemicolon_26 (by decide) (by decide) ?_
    have hr := ke.2 c14
    refine ⟨?_, i4, rfl, cE.bad (r := scQ u e q) (h1.tr h4) hr (nI_m1 (by show B < 100000; omega))⟩
    show _ = Sum.inl (some (Value.int (if (edM u e q).2.2.1 = -1 then 1 else 0)))
    rw [show (edM u e q).2.2.1 = nI B from congrArg Prod.fst hr, if_neg (nI_m1 (by omega))]
    first | done | rfl
