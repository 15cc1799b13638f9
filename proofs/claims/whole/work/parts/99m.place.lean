variable {G : GG} {base : Nat}
/-- where a state stands in a row -/
def rsq (q : Nat) : Prop := 2 ≤ q ∧ ¬ (8 ≤ q ∧ q < 33) ∧ ¬ (43 ≤ q ∧ q < 498)
/-- the state at a is that of the row n, with its sacks -/
def QS (i : Nat → Nat → Int32) (a : Nat) (n : Nat → Int32) : Prop := RS i a n ∧ ∀ c, c < 5 → i (a + 1) c = n (33 + c)
/-- the days of the last carrier -/
def DY (i : Nat → Nat → Int32) (p : Nat) (n : Nat → Int32) : Prop := 0 < nv n 1 → i (p + 4) (nv n 1 - 1) = setB (fun w => decide (¬ n (rtA (nv n 1 - 1) w) = 0)) 7
/-- the parser at p has read the row n -/
def PI (i : Nat → Nat → Int32) (p : Nat) (n : Nat → Int32) : Prop := TT i (p + 1) n ∧ QS i (p + 7) n ∧ DY i p n ∧ EC n ∧ OkN 0 n
theorem QS.kept {i i' : Nat → Nat → Int32} {a : Nat} {n : Nat → Int32} (h : QS i a n) (hk : ∀ x, a ≤ x → x < a + 18 → ∀ k, i' x k = i x k) : QS i' a n := ⟨h.1.kept hk, fun c hc => (hk _ (by omega) (by omega) c).trans (h.2 c hc)⟩
theorem QS.rs {i : Nat → Nat → Int32} {a : Nat} {n : Nat → Int32} (h : QS i a n) : RS i a n := h.1
theorem QS.eq {i : Nat → Nat → Int32} {a : Nat} {n m : Nat → Int32} (h : QS i a m) (e : ∀ q, q < 1158 → rsq q → n q = m q) : QS i a n := by
  obtain ⟨⟨⟨a1, a2, a3, a4⟩, -, ⟨c1, c2, c3⟩, ⟨d1, d2, x, d3, d4, d5⟩, e1, e2, e3⟩, b1⟩ := h
  have g2 := c2.2
  have g4 := d2.2
  have g3 := e2.2
  have e' : ∀ q, q < 1158 → 2 ≤ q → ¬ (8 ≤ q ∧ q < 33) → ¬ (43 ≤ q ∧ q < 498) → n q = m q := fun q q1 q2 q3 q4 => e q q1 ⟨q2, q3, q4⟩
  have b2 : ∀ c, c < 5 → i (a + 1) c = n (33 + c) := fun c hc => by rw [e' _ (by omega) (by omega) (by omega) (by omega)]; exact b1 c hc
  refine ⟨⟨⟨?_, ?_, ?_, fun c hc => ?_⟩, Or.inl b2, ⟨?_, c2.eq (e' _ (by omega) (by omega) (by omega) (by omega)), fun l' hl' f' hf' => ?_⟩, ⟨?_, d2.eq (e' _ (by omega) (by omega) (by omega) (by omega)), x, d3, d4, fun g hg w hw => ?_⟩, ?_, e2.eq (e' _ (by omega) (by omega) (by omega) (by omega)), fun j hj => ?_⟩, b2⟩
  · rw [e' _ (by omega) (by omega) (by omega) (by omega)]; exact a1
  · rw [e' _ (by omega) (by omega) (by omega) (by omega)]; exact a2
  · rw [e' _ (by omega) (by omega) (by omega) (by omega)]; exact a3
  · rw [e' _ (by omega) (by omega) (by omega) (by omega)]; exact a4 c hc
  · rw [e' _ (by omega) (by omega) (by omega) (by omega)]; exact c1
  · rw [nv_eq (e' _ (by omega) (by omega) (by omega) (by omega))] at hl'
    rw [e' _ (by omega) (by omega) (by omega) (by omega)]; exact c3 l' hl' f' hf'
  · rw [e' _ (by omega) (by omega) (by omega) (by omega)]; exact d1
  · rw [nv_eq (e' _ (by omega) (by omega) (by omega) (by omega))] at hg
    rw [e' _ (by omega) (by omega) (by omega) (by omega)]; exact d5 g hg w hw
  · rw [e' _ (by omega) (by omega) (by omega) (by omega)]; exact e1
  · rw [nv_eq (e' _ (by omega) (by omega) (by omega) (by omega))] at hj
    rw [e' _ (by omega) (by omega) (by omega) (by omega), e' _ (by omega) (by omega) (by omega) (by omega)]; exact e3 j hj
theorem PI.kept {i i' : Nat → Nat → Int32} {p : Nat} {n : Nat → Int32} (h : PI i p n) (hk : ∀ x, p < x → x < p + 25 → i' x = i x) : PI i' p n := by
  obtain ⟨h1, h2, h3, h4⟩ := h
  exact ⟨h1.kept (fun x x1 x2 k => congrFun (hk x (by omega) (by omega)) k), h2.kept (fun x x1 x2 k => congrFun (hk x (by omega) (by omega)) k), fun z => (congrFun (hk _ (by omega) (by omega)) _).trans (h3 z), h4⟩
theorem cS.pi {M : Mm} {p : Nat} {q : Q4} {n : Nat → Int32} {i : Nat → Nat → Int32} (h : cS M p q i) (hP : PI (mI M) p n) : PI i p n := hP.kept (fun x x1 _ => h.2.1 x (by omega))
/-- behind a line -/
def pZ (M : Mm) (p : Nat) (n' : Nat → Int32) (r : Q4) (i : Nat → Nat → Int32) : Prop := (∀ x, (x < p ∨ p + 25 ≤ x) → i x = mI M x) ∧ i p 5 = mI M p 5 ∧ (∃ at_ st, cQ i p (at_, st, r.2.2) ∧ (r.2.2.1 = -1 → at_ = r.1)) ∧ (r.2.2.1 = -1 → PI i p n')
theorem pZ.bad {M : Mm} {p : Nat} {n : Nat → Int32} {q r : Q4} {i : Nat → Nat → Int32} (h : cS M p q i) (he : r.2.2 = q.2.2) (hf : ¬ q.2.2.1 = -1) : pZ M p n r i := by
  have hg : ¬ r.2.2.1 = -1 := by rw [he]; exact hf
  exact ⟨fun x hx => h.2.1 x (by omega), h.2.2 5 (by omega) (by omega) (by omega) (by omega), ⟨q.1, q.2.1, by rw [he]; exact h.1, fun z => absurd z hg⟩, fun z => absurd z hg⟩
theorem pZ.cE {M : Mm} {p : Nat} {n : Nat → Int32} {q r : Q4} {i : Nat → Nat → Int32} (h : cE M p q i) (he : r.2.2 = q.2.2) (hf : ¬ q.2.2.1 = -1) : pZ M p n r i := by
  obtain ⟨x, y, h1, -⟩ := h
  exact pZ.bad h1 he hf
theorem fnN_eq {n m : Nat → Int32} {f k : Nat} {x : Int32} (h : ∀ j, j < k → m (f + j) = n (f + j)) : fnN m f x k = fnN n f x k := by
  unfold fnN
  exact fstF_congr (fun j hj => by rw [h j hj])
theorem nwQ_is {n : Nat → Int32} {f m : Nat} {u : Nat → Nat} {e : Nat} {q : Q4} : nwQ n f m u e q = pnQ u e (muQ (decide (fnN n f (nI (snV u e q)) (nv n m) = -1)) 3 (snR u e q)) := rfl
theorem pl_eq {n : Nat → Int32} {x v : Nat} {u : Nat → Nat} {e : Nat} {q : Q4} (hx : q.2.1 = x) (hg : q.2.2.1 = -1) (hx9 : x < 100000) :
    (¬ nv n 0 < 10 → (plR n x v u e q).2.2 = (nI x, nI 4)) ∧ (nv n 0 < 10 → plR n x v u e q = pnQ u e (muQ (decide (fnN n 18 (nI (snV u e q)) (nv n 0) = -1)) 3 (snR u e q)) ∧ ((plR n x v u e q).2.2.1 = -1 → pcN n x v u e q = plN' n v (nI (snV u e q)))) := by
  subst hx
  have hs : plS n q.2.1 q = if nv n 0 < 10 then q else (q.1, q.2.1, nI q.2.1, nI 4) := by unfold plS; rw [muQ_d (q := (q.1, q.2.1, q.2.2)) hg]
  refine ⟨fun h => ?_, fun h => ?_⟩
  · rw [if_neg h] at hs
    unfold plR
    rw [hs, if_neg (nI_m1 hx9)]
  · rw [if_pos h] at hs
    have e0 : nv (upd n (8 + nv n 0) (nI v)) 0 = nv n 0 := nv_eq (upd_o (by omega))
    have e1 : plR n q.2.1 v u e q = nwQ (upd n (8 + nv n 0) (nI v)) 18 0 u e q := by unfold plR; rw [hs, if_pos hg]
    have ef : fnN (upd n (8 + nv n 0) (nI v)) 18 (nI (snV u e q)) (nv n 0) = fnN n 18 (nI (snV u e q)) (nv n 0) := fnN_eq (fun j hj => upd_o (by omega))
    refine ⟨by rw [e1, nwQ_is, e0, ef], fun hz => ?_⟩
    rw [e1] at hz
    unfold pcN nwN
    rw [hs, if_pos hg, if_pos hz, e0]
theorem cr_eq {n : Nat → Int32} {x : Nat} {u : Nat → Nat} {e : Nat} {q : Q4} (hx : q.2.1 = x) (hg : q.2.2.1 = -1) (hx9 : x < 100000) :
    (¬ nv n 1 < 5 → (crR n x u e q).2.2 = (nI x, nI 4)) ∧ (nv n 1 < 5 → crR n x u e q = pnQ u e (muQ (decide (fnN n 28 (nI (snV u e q)) (nv n 1) = -1)) 3 (snR u e q)) ∧ ((crR n x u e q).2.2.1 = -1 → crN n x u e q = caN' n (nI (snV u e q)))) := by
  subst hx
  have hs : crS9 n q.2.1 q = if nv n 1 < 5 then q else (q.1, q.2.1, nI q.2.1, nI 4) := by unfold crS9; rw [muQ_d (q := (q.1, q.2.1, q.2.2)) hg]
  refine ⟨fun h => ?_, fun h => ?_⟩
  · rw [if_neg h] at hs
    unfold crR
    rw [hs, if_neg (nI_m1 hx9)]
  · rw [if_pos h] at hs
    have e1 : crR n q.2.1 u e q = nwQ n 28 1 u e q := by unfold crR; rw [hs, if_pos hg]
    refine ⟨by rw [e1, nwQ_is], fun hz => ?_⟩
    rw [e1] at hz
    unfold crN nwN
    rw [hs, if_pos hg, if_pos hz]
set_option maxHeartbeats 2000000 in
set_option maxRecDepth 20000 in
theorem t_X5_readPlace0 {M : Mm} {p b N e : Nat} {u : Nat → Nat} (hp : LX5 M.1 M.2.1 p) (hT : PT M p b N e u) {q : Q4} (hg : q.2.2.1 = -1) (hq : cQ (mI M) p q) (hp9 : q.1 ≤ e) (he : e ≤ 900) (hx9 : q.2.1 < 100000) {n : Nat → Int32} (hP : PI (mI M) p n) : Ct G base YX5_readPlace 7 0 0 [.ref p, .int (nI 0)] M (rI (some (.int (if (plR n q.2.1 0 u e q).2.2.1 = -1 then 1 else 0))) M (pZ M p (pcN n q.2.1 0 u e q) (plR n q.2.1 0 u e q))) := by
  refine Ct.of IX5_readPlace.1 (by simp [Value.category]) (Nat.le_of_ble_eq_true rfl) (fun X hX hN => ?_)
  show J G base X 0 0 M 0 [some (.ref p), some (.int (nI 0)), none] []
  obtain ⟨hTT, hQS, hDY, hEC, hO⟩ := hP
  have hP : PI (mI M) p n := ⟨hTT, hQS, hDY, hEC, hO⟩
  have hTb := hO.1
  have h0 := hTb.1
  have h1n := hTb.2.1
  have hRt := hTb.2.2
  have hc0 : mI M (p + 1) 0 = nI (nv n 0) := hTT.1.trans h0.1
  have hc1 : mI M (p + 1) 2 = nI (nv n 1) := hTT.2.2.1.trans h1n.1
  have hb0 := h0.2
  have hb1 := h1n.2
  have hBe := eo_le (f := blB u) hp9
  generalize hBB : eo (blB u) e q.1 = B at *
  generalize hWW : eo (lwB u) e B - B = W at *
  have hWe := eo_le (f := lwB u) hBe
  have hWg := eo_ge (f := lwB u) (e := e) (p := B)
  obtain ⟨kbad, kok⟩ := pmQ_c hg hp9 he hBB hWW
  refine r_aload_n hX dX5_readPlace_0 rfl ?_
  refine r_getr hX dX5_readPlace_1 fl_X5_12 rfl (LX5_s hp) (LX5_r0 hp) ?_
  refine rn_geti (v := nI (nv n 0)) hX dX5_readPlace_4 fl_X5_111 rfl (LX9_s (LX5_o0 hp)) hc0 ?_
  refine r_bipush (v := nI 10) hX dX5_readPlace_7 (by decide) ?_
  refine rn_icmp_lt (tgt := 22) hX dX5_readPlace_9 (by decide) rfl rfl (by omega) (by omega) (fun c9 => ?_) (fun c9 => ?_)
  · refine r_aload_n hX dX5_readPlace_22 rfl ?_
    refine r_iV0 hX dX5_readPlace_23 IX5_readName ml_X5_114 rfl (LX5_s hp) rfl (t_X5_readName hp hT hq hp9 he) (by decide) (by decide) (by decide) (by decide) rfl (Nat.le_of_ble_eq_true rfl) (fun i1 h1 => ?_)
    rw [hBB] at h1
    show J G base X _ _ (wI M i1) _ _ _
    rw [hBB, hWW]
    refine r_istore2 hX dX5_readPlace_26 rfl ?_
    refine r_iload_n hX dX5_readPlace_27 rfl ?_
    refine r_if_ne (tgt := 41) hX dX5_readPlace_28 (by decide) (fun c28 => ?_) (fun c28 => ?_)
    · have hT1 : TT (mI (wI M i1)) (p + 1) n := hTT.kept (fun x x1 x2 k => congrFun (h1.2.1 x (by omega)) k)
      have hm0 : mI (wI M i1) (p + 1) 0 = nI (nv n 0) := hT1.1.trans h0.1
      have hm1 : mI (wI M i1) (p + 1) 2 = nI (nv n 1) := hT1.2.2.1.trans h1n.1
      have hok : 1 ≤ W ∧ W ≤ 6 := Classical.byContradiction (fun z => c28 (by rw [(kbad z).1]; rfl))
      have hnm : NmR (nI (nm32 u B W)) (nI (snV u e q)) := by rw [(kok hok).1]; exact nm_R hok.1 hok.2 (kok hok).2.1
      refine r_aload_n hX dX5_readPlace_41 rfl ?_
      refine r_getr hX dX5_readPlace_42 fl_X5_12 rfl (LX5_s hp) (LX5_r0 hp) ?_
      refine r_iload_n hX dX5_readPlace_45 rfl ?_
      refine r_cV1 hX dX5_readPlace_46 IX9_placeOfName ml_X5_118 rfl (LX9_s (LX5_o0 hp)) rfl (t_X9_placeOfName (M := wI M i1) (LX5_o0 hp) hm0 (by omega)) (by decide) (by decide) (by decide) (by decide) rfl (Nat.le_of_ble_eq_true rfl) ?_
      rw [show (fun k => decide (mI (wI M i1) (p + 1 + 1) k = nI (nm32 u B W))) = fun j => decide (i1 (p + 1 + 1) j = nI (nm32 u B W)) from rfl, fst_nm (i := i1) (b := p + 1) hT1, if_pos ⟨hok.1, hok.2, (kok hok).2.1⟩, ← (kok hok).1]
      refine r_iconst (v := (-1)) hX dX5_readPlace_49 (by decide) ?_
      refine r_icmp_eq (tgt := 63) hX dX5_readPlace_50 (by decide) (fun c50 => ?_) (fun c50 => ?_)
      · refine r_aload_n hX dX5_readPlace_63 rfl ?_
        refine r_getr hX dX5_readPlace_64 fl_X5_12 rfl (LX5_s hp) (LX5_r0 hp) ?_
        refine r_iload_n hX dX5_readPlace_67 rfl ?_
        refine r_iload_n hX dX5_readPlace_68 rfl ?_
        refine r_iV2 hX dX5_readPlace_69 IX9_addPlace ml_X5_122 rfl (LX9_s (LX5_o0 hp)) rfl (t_X9_addPlace0 (M := wI M i1) (LX5_o0 hp) hT1 hRt c9 h0.1 hb1 hnm) (by decide) (by decide) (by decide) (by decide) rfl (Nat.le_of_ble_eq_true rfl) (fun i2 h2 => ?_)
        show J G base X _ _ (wI M i2) _ _ _
        
        refine r_iconst (v := 1) hX dX5_readPlace_72 (by decide) ?_
        refine r_ireturn hX rfl rfl dX5_readPlace_73 (by decide) (by decide) ?_
        have hr := (pl_eq (n := n) (v := 0) (u := u) (e := e) rfl hg hx9).2 c9
        rw [decide_eq_true c50, (kok hok).2.2.2.1 3] at hr
        obtain ⟨hr1, hr2⟩ := hr
        have hgd : (plR n q.2.1 0 u e q).2.2.1 = -1 := by rw [hr1]; exact hg
        have hr3 := hr2 hgd
        refine ⟨by rw [hr1, if_pos hg], i2, rfl, fun x hx => ?_, ?_, ⟨B + W, B, ?_, fun _ => by rw [hr1]⟩, fun _ => ⟨?_, ?_, ?_, ?_, plL_ok hO hp9 he hx9 hgd⟩⟩
        · exact (h2.2 x (by omega) (by omega)).trans (h1.2.1 x (by omega))
        · exact (congrFun (h2.2 p (by omega) (by omega)) 5).trans (h1.2.2 5 (by omega) (by omega) (by omega) (by omega))
        · rw [hr1]
          have h1c := h1.1
          rw [show eo (lwB u) e B = B + W by omega] at h1c
          have e2 : i2 p = i1 p := h2.2 p (by omega) (by omega)
          unfold cQ
          rw [e2]
          exact h1c
        · rw [hr3]; exact h2.1
        · rw [hr3]
          refine (hQS.kept (fun x x1 x2 k => ?_)).eq (fun q q1 q2 => ?_)
          · exact congrFun ((h2.2 x (by omega) (by omega)).trans (h1.2.1 x (by omega))) k
          · obtain ⟨a1, a2, a3⟩ := q2
            simp only [plN']
            rw [upd_o (by omega), upd_o (by omega), upd_o (by omega)]
        · rw [hr3]
          have e1 : nv (plN' n 0 (nI (snV u e q))) 1 = nv n 1 := nv_eq (by simp only [plN']; rw [upd_o (by omega), upd_o (by omega), upd_o (by omega)])
          unfold DY
          rw [e1]
          intro hz
          rw [(h2.2 (p + 4) (by omega) (by omega)).trans (h1.2.1 (p + 4) (by omega)), hDY hz]
          refine setB_congr (fun w hw => ?_)
          have eA : rtA (nv n 1 - 1) w = 43 + 13 * (7 * (nv n 1 - 1) + w) := rfl
          have e8 : plN' n 0 (nI (snV u e q)) (rtA (nv n 1 - 1) w) = n (rtA (nv n 1 - 1) w) := by
            simp only [plN']
            rw [upd_o (by omega), upd_o (by omega), upd_o (by omega)]
          exact decide_eq_decide.mpr (by rw [e8])
        · rw [hr3]
          have e1 : nv (plN' n 0 (nI (snV u e q))) 1 = nv n 1 := nv_eq (by simp only [plN']; rw [upd_o (by omega), upd_o (by omega), upd_o (by omega)])
          intro c hc hc5 w hw
          rw [e1] at hc
          have eA : rtA c w = 43 + 13 * (7 * c + w) := rfl
          simp only [plN']
          rw [upd_o (by omega), upd_o (by omega), upd_o (by omega)]
          exact hEC c hc hc5 w hw
      · refine r_aload_n hX dX5_readPlace_53 rfl ?_
        refine r_iconst (v := nI 3) hX dX5_readPlace_54 (by decide) ?_
        refine r_aload_n hX dX5_readPlace_55 rfl ?_
        refine rn_geti (v := nI B) hX dX5_readPlace_56 fl_X5_42 rfl (LX5_s hp) h1.1.2.1 ?_
        refine r_iV2 hX dX5_readPlace_59 IX5_fail ml_X5_91 rfl (LX5_s hp) rfl (t_X5_fail (M := wI M i1) hp h1.1 (k := 3) (f := B)) (by decide) (by decide) (by decide) (by decide) rfl (Nat.le_of_ble_eq_true rfl) (fun i4 h4 => ?_)
        show J G base X _ _ (wI M i4) _ _ _
        
        refine r_ireturn hX rfl rfl dX5_readPlace_62 (by decide) (by decide) ?_
        have hr : (plR n q.2.1 0 u e q).2.2 = (nI B, nI 3) := by rw [((pl_eq (v := 0) rfl hg hx9).2 c9).1, decide_eq_false c50]; exact (kok hok).2.2.2.2 3
        refine ⟨by rw [show (plR n q.2.1 0 u e q).2.2.1 = nI B from congrArg Prod.fst hr, if_neg (nI_m1 (by omega))]; first | done | rfl, i4, rfl, pZ.bad (h1.tr h4) hr (nI_m1 (by show B < 100000; omega))⟩
    · refine r_aload_n hX dX5_readPlace_31 rfl ?_
      refine r_iconst (v := nI 1) hX dX5_readPlace_32 (by decide) ?_
      refine r_aload_n hX dX5_readPlace_33 rfl ?_
      refine rn_geti (v := nI B) hX dX5_readPlace_34 fl_X5_42 rfl (LX5_s hp) h1.1.2.1 ?_
      refine r_iV2 hX dX5_readPlace_37 IX5_fail ml_X5_91 rfl (LX5_s hp) rfl (t_X5_fail (M := wI M i1) hp h1.1 (k := 1) (f := B)) (by decide) (by decide) (by decide) (by decide) rfl (Nat.le_of_ble_eq_true rfl) (fun i4 h4 => ?_)
      show J G base X _ _ (wI M i4) _ _ _
      
      refine r_ireturn hX rfl rfl dX5_readPlace_40 (by decide) (by decide) ?_
      have hr : (plR n q.2.1 0 u e q).2.2 = (nI B, nI 1) := by rw [((pl_eq (v := 0) rfl hg hx9).2 c9).1]; exact (kbad (fun z => (kok z).2.2.1 c28)).2 _ 3
      refine ⟨by rw [show (plR n q.2.1 0 u e q).2.2.1 = nI B from congrArg Prod.fst hr, if_neg (nI_m1 (by omega))]; first | done | rfl, i4, rfl, pZ.bad (h1.tr h4) hr (nI_m1 (by show B < 100000; omega))⟩
  · refine r_aload_n hX dX5_readPlace_12 rfl ?_
    refine r_iconst (v := nI 4) hX dX5_readPlace_13 (by decide) ?_
    refine r_aload_n hX dX5_readPlace_14 rfl ?_
    refine rn_geti (v := nI q.2.1) hX dX5_readPlace_15 fl_X5_42 rfl (LX5_s hp) hq.2.1 ?_
    refine r_iV2 hX dX5_readPlace_18 IX5_fail ml_X5_91 rfl (LX5_s hp) rfl (t_X5_fail (M := M) hp hq (k := 4) (f := q.2.1)) (by decide) (by decide) (by decide) (by decide) rfl (Nat.le_of_ble_eq_true rfl) (fun i4 h4 => ?_)
    show J G base X _ _ (wI M i4) _ _ _
    
    refine r_ireturn hX rfl rfl dX5_readPlace_21 (by decide) (by decide) ?_
    have hr : (plR n q.2.1 0 u e q).2.2 = (nI q.2.1, nI 4) := (pl_eq (v := 0) rfl hg hx9).1 (by omega)
    refine ⟨by rw [show (plR n q.2.1 0 u e q).2.2.1 = nI q.2.1 from congrArg Prod.fst hr, if_neg (nI_m1 (by omega))]; first | done | rfl, i4, rfl, pZ.bad h4 hr (nI_m1 (by show q.2.1 < 100000; omega))⟩
set_option maxHeartbeats 2000000 in
set_option maxRecDepth 20000 in
theorem t_X5_readPlace1 {M : Mm} {p b N e : Nat} {u : Nat → Nat} (hp : LX5 M.1 M.2.1 p) (hT : PT M p b N e u) {q : Q4} (hg : q.2.2.1 = -1) (hq : cQ (mI M) p q) (hp9 : q.1 ≤ e) (he : e ≤ 900) (hx9 : q.2.1 < 100000) {n : Nat → Int32} (hP : PI (mI M) p n) : Ct G base YX5_readPlace 7 0 0 [.ref p, .int (nI 1)] M (rI (some (.int (if (plR n q.2.1 1 u e q).2.2.1 = -1 then 1 else 0))) M (pZ M p (pcN n q.2.1 1 u e q) (plR n q.2.1 1 u e q))) := by
  refine Ct.of IX5_readPlace.1 (by simp [Value.category]) (Nat.le_of_ble_eq_true rfl) (fun X hX hN => ?_)
  show J G base X 0 0 M 0 [some (.ref p), some (.int (nI 1)), none] []
  obtain ⟨hTT, hQS, hDY, hEC, hO⟩ := hP
  have hP : PI (mI M) p n := ⟨hTT, hQS, hDY, hEC, hO⟩
  have hTb := hO.1
  have h0 := hTb.1
  have h1n := hTb.2.1
  have hRt := hTb.2.2
  have hc0 : mI M (p + 1) 0 = nI (nv n 0) := hTT.1.trans h0.1
  have hc1 : mI M (p + 1) 2 = nI (nv n 1) := hTT.2.2.1.trans h1n.1
  have hb0 := h0.2
  have hb1 := h1n.2
  have hBe := eo_le (f := blB u) hp9
  generalize hBB : eo (blB u) e q.1 = B at *
  generalize hWW : eo (lwB u) e B - B = W at *
  have hWe := eo_le (f := lwB u) hBe
  have hWg := eo_ge (f := lwB u) (e := e) (p := B)
  obtain ⟨kbad, kok⟩ := pmQ_c hg hp9 he hBB hWW
  refine r_aload_n hX dX5_readPlace_0 rfl ?_
  refine r_getr hX dX5_readPlace_1 fl_X5_12 rfl (LX5_s hp) (LX5_r0 hp) ?_
  refine rn_geti (v := nI (nv n 0)) hX dX5_readPlace_4 fl_X5_111 rfl (LX9_s (LX5_o0 hp)) hc0 ?_
  refine r_bipush (v := nI 10) hX dX5_readPlace_7 (by decide) ?_
  refine rn_icmp_lt (tgt := 22) hX dX5_readPlace_9 (by decide) rfl rfl (by omega) (by omega) (fun c9 => ?_) (fun c9 => ?_)
  · refine r_aload_n hX dX5_readPlace_22 rfl ?_
    refine r_iV0 hX dX5_readPlace_23 IX5_readName ml_X5_114 rfl (LX5_s hp) rfl (t_X5_readName hp hT hq hp9 he) (by decide) (by decide) (by decide) (by decide) rfl (Nat.le_of_ble_eq_true rfl) (fun i1 h1 => ?_)
    rw [hBB] at h1
    show J G base X _ _ (wI M i1) _ _ _
    rw [hBB, hWW]
    refine r_istore2 hX dX5_readPlace_26 rfl ?_
    refine r_iload_n hX dX5_readPlace_27 rfl ?_
    refine r_if_ne (tgt := 41) hX dX5_readPlace_28 (by decide) (fun c28 => ?_) (fun c28 => ?_)
    · have hT1 : TT (mI (wI M i1)) (p + 1) n := hTT.kept (fun x x1 x2 k => congrFun (h1.2.1 x (by omega)) k)
      have hm0 : mI (wI M i1) (p + 1) 0 = nI (nv n 0) := hT1.1.trans h0.1
      have hm1 : mI (wI M i1) (p + 1) 2 = nI (nv n 1) := hT1.2.2.1.trans h1n.1
      have hok : 1 ≤ W ∧ W ≤ 6 := Classical.byContradiction (fun z => c28 (by rw [(kbad z).1]; rfl))
      have hnm : NmR (nI (nm32 u B W)) (nI (snV u e q)) := by rw [(kok hok).1]; exact nm_R hok.1 hok.2 (kok hok).2.1
      refine r_aload_n hX dX5_readPlace_41 rfl ?_
      refine r_getr hX dX5_readPlace_42 fl_X5_12 rfl (LX5_s hp) (LX5_r0 hp) ?_
      refine r_iload_n hX dX5_readPlace_45 rfl ?_
      refine r_cV1 hX dX5_readPlace_46 IX9_placeOfName ml_X5_118 rfl (LX9_s (LX5_o0 hp)) rfl (t_X9_placeOfName (M := wI M i1) (LX5_o0 hp) hm0 (by omega)) (by decide) (by decide) (by decide) (by decide) rfl (Nat.le_of_ble_eq_true rfl) ?_
      rw [show (fun k => decide (mI (wI M i1) (p + 1 + 1) k = nI (nm32 u B W))) = fun j => decide (i1 (p + 1 + 1) j = nI (nm32 u B W)) from rfl, fst_nm (i := i1) (b := p + 1) hT1, if_pos ⟨hok.1, hok.2, (kok hok).2.1⟩, ← (kok hok).1]
      refine r_iconst (v := (-1)) hX dX5_readPlace_49 (by decide) ?_
      refine r_icmp_eq (tgt := 63) hX dX5_readPlace_50 (by decide) (fun c50 => ?_) (fun c50 => ?_)
      · refine r_aload_n hX dX5_readPlace_63 rfl ?_
        refine r_getr hX dX5_readPlace_64 fl_X5_12 rfl (LX5_s hp) (LX5_r0 hp) ?_
        refine r_iload_n hX dX5_readPlace_67 rfl ?_
        refine r_iload_n hX dX5_readPlace_68 rfl ?_
        refine r_iV2 hX dX5_readPlace_69 IX9_addPlace ml_X5_122 rfl (LX9_s (LX5_o0 hp)) rfl (t_X9_addPlace1 (M := wI M i1) (LX5_o0 hp) hT1 hRt c9 h0.1 hb1 hnm) (by decide) (by decide) (by decide) (by decide) rfl (Nat.le_of_ble_eq_true rfl) (fun i2 h2 => ?_)
        show J G base X _ _ (wI M i2) _ _ _
        
        refine r_iconst (v := 1) hX dX5_readPlace_72 (by decide) ?_
        refine r_ireturn hX rfl rfl dX5_readPlace_73 (by decide) (by decide) ?_
        have hr := (pl_eq (n := n) (v := 1) (u := u) (e := e) rfl hg hx9).2 c9
        rw [decide_eq_true c50, (kok hok).2.2.2.1 3] at hr
        obtain ⟨hr1, hr2⟩ := hr
        have hgd : (plR n q.2.1 1 u e q).2.2.1 = -1 := by rw [hr1]; exact hg
        have hr3 := hr2 hgd
        refine ⟨by rw [hr1, if_pos hg], i2, rfl, fun x hx => ?_, ?_, ⟨B + W, B, ?_, fun _ => by rw [hr1]⟩, fun _ => ⟨?_, ?_, ?_, ?_, plL_ok hO hp9 he hx9 hgd⟩⟩
        · exact (h2.2 x (by omega) (by omega)).trans (h1.2.1 x (by omega))
        · exact (congrFun (h2.2 p (by omega) (by omega)) 5).trans (h1.2.2 5 (by omega) (by omega) (by omega) (by omega))
        · rw [hr1]
          have h1c := h1.1
          rw [show eo (lwB u) e B = B + W by omega] at h1c
          have e2 : i2 p = i1 p := h2.2 p (by omega) (by omega)
          unfold cQ
          rw [e2]
          exact h1c
        · rw [hr3]; exact h2.1
        · rw [hr3]
          refine (hQS.kept (fun x x1 x2 k => ?_)).eq (fun q q1 q2 => ?_)
          · exact congrFun ((h2.2 x (by omega) (by omega)).trans (h1.2.1 x (by omega))) k
          · obtain ⟨a1, a2, a3⟩ := q2
            simp only [plN']
            rw [upd_o (by omega), upd_o (by omega), upd_o (by omega)]
        · rw [hr3]
          have e1 : nv (plN' n 1 (nI (snV u e q))) 1 = nv n 1 := nv_eq (by simp only [plN']; rw [upd_o (by omega), upd_o (by omega), upd_o (by omega)])
          unfold DY
          rw [e1]
          intro hz
          rw [(h2.2 (p + 4) (by omega) (by omega)).trans (h1.2.1 (p + 4) (by omega)), hDY hz]
          refine setB_congr (fun w hw => ?_)
          have eA : rtA (nv n 1 - 1) w = 43 + 13 * (7 * (nv n 1 - 1) + w) := rfl
          have e8 : plN' n 1 (nI (snV u e q)) (rtA (nv n 1 - 1) w) = n (rtA (nv n 1 - 1) w) := by
            simp only [plN']
            rw [upd_o (by omega), upd_o (by omega), upd_o (by omega)]
          exact decide_eq_decide.mpr (by rw [e8])
        · rw [hr3]
          have e1 : nv (plN' n 1 (nI (snV u e q))) 1 = nv n 1 := nv_eq (by simp only [plN']; rw [upd_o (by omega), upd_o (by omega), upd_o (by omega)])
          intro c hc hc5 w hw
          rw [e1] at hc
          have eA : rtA c w = 43 + 13 * (7 * c + w) := rfl
          simp only [plN']
          rw [upd_o (by omega), upd_o (by omega), upd_o (by omega)]
          exact hEC c hc hc5 w hw
      · refine r_aload_n hX dX5_readPlace_53 rfl ?_
        refine r_iconst (v := nI 3) hX dX5_readPlace_54 (by decide) ?_
        refine r_aload_n hX dX5_readPlace_55 rfl ?_
        refine rn_geti (v := nI B) hX dX5_readPlace_56 fl_X5_42 rfl (LX5_s hp) h1.1.2.1 ?_
        refine r_iV2 hX dX5_readPlace_59 IX5_fail ml_X5_91 rfl (LX5_s hp) rfl (t_X5_fail (M := wI M i1) hp h1.1 (k := 3) (f := B)) (by decide) (by decide) (by decide) (by decide) rfl (Nat.le_of_ble_eq_true rfl) (fun i4 h4 => ?_)
        show J G base X _ _ (wI M i4) _ _ _
        
        refine r_ireturn hX rfl rfl dX5_readPlace_62 (by decide) (by decide) ?_
        have hr : (plR n q.2.1 1 u e q).2.2 = (nI B, nI 3) := by rw [((pl_eq (v := 1) rfl hg hx9).2 c9).1, decide_eq_false c50]; exact (kok hok).2.2.2.2 3
        refine ⟨by rw [show (plR n q.2.1 1 u e q).2.2.1 = nI B from congrArg Prod.fst hr, if_neg (nI_m1 (by omega))]; first | done | rfl, i4, rfl, pZ.bad (h1.tr h4) hr (nI_m1 (by show B < 100000; omega))⟩
    · refine r_aload_n hX dX5_readPlace_31 rfl ?_
      refine r_iconst (v := nI 1) hX dX5_readPlace_32 (by decide) ?_
      refine r_aload_n hX dX5_readPlace_33 rfl ?_
      refine rn_geti (v := nI B) hX dX5_readPlace_34 fl_X5_42 rfl (LX5_s hp) h1.1.2.1 ?_
      refine r_iV2 hX dX5_readPlace_37 IX5_fail ml_X5_91 rfl (LX5_s hp) rfl (t_X5_fail (M := wI M i1) hp h1.1 (k := 1) (f := B)) (by decide) (by decide) (by decide) (by decide) rfl (Nat.le_of_ble_eq_true rfl) (fun i4 h4 => ?_)
      show J G base X _ _ (wI M i4) _ _ _
      
      refine r_ireturn hX rfl rfl dX5_readPlace_40 (by decide) (by decide) ?_
      have hr : (plR n q.2.1 1 u e q).2.2 = (nI B, nI 1) := by rw [((pl_eq (v := 1) rfl hg hx9).2 c9).1]; exact (kbad (fun z => (kok z).2.2.1 c28)).2 _ 3
      refine ⟨by rw [show (plR n q.2.1 1 u e q).2.2.1 = nI B from congrArg Prod.fst hr, if_neg (nI_m1 (by omega))]; first | done | rfl, i4, rfl, pZ.bad (h1.tr h4) hr (nI_m1 (by show B < 100000; omega))⟩
  · refine r_aload_n hX dX5_readPlace_12 rfl ?_
    refine r_iconst (v := nI 4) hX dX5_readPlace_13 (by decide) ?_
    refine r_aload_n hX dX5_readPlace_14 rfl ?_
    refine rn_geti (v := nI q.2.1) hX dX5_readPlace_15 fl_X5_42 rfl (LX5_s hp) hq.2.1 ?_
    refine r_iV2 hX dX5_readPlace_18 IX5_fail ml_X5_91 rfl (LX5_s hp) rfl (t_X5_fail (M := M) hp hq (k := 4) (f := q.2.1)) (by decide) (by decide) (by decide) (by decide) rfl (Nat.le_of_ble_eq_true rfl) (fun i4 h4 => ?_)
    show J G base X _ _ (wI M i4) _ _ _
    
    refine r_ireturn hX rfl rfl dX5_readPlace_21 (by decide) (by decide) ?_
    have hr : (plR n q.2.1 1 u e q).2.2 = (nI q.2.1, nI 4) := (pl_eq (v := 1) rfl hg hx9).1 (by omega)
    refine ⟨by rw [show (plR n q.2.1 1 u e q).2.2.1 = nI q.2.1 from congrArg Prod.fst hr, if_neg (nI_m1 (by omega))]; first | done | rfl, i4, rfl, pZ.bad h4 hr (nI_m1 (by show q.2.1 < 100000; omega))⟩
