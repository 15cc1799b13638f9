variable {G : GG} {base : Nat}
theorem addL_o {M : Mm} {a m x : Nat} {fr to vl hr pr : Int32} (h : x < a ∨ a + 11 ≤ x) : mI (addL M a m fr to vl hr pr) x = mI M x := by
  unfold addL
  rw [uIo (by omega), uIo (by omega), uIo (by omega), uIo (by omega), uIo (by omega), uIo (by omega), uIo (by omega), uIo (by omega), uIo (by omega), uIo (by omega), uIo (by omega)]
theorem upd_c {f g : Nat → Int32} {k q : Nat} {v : Int32} (h : f q = g q) : upd f k v q = upd g k v q := by
  simp only [upd]
  split
  · rfl
  · exact h
theorem postN_c {m n : Nat → Int32} {fr to vl : Int32} {q : Nat} (h : m q = n q) (h2 : nv m 2 = nv n 2) (h6 : m 6 = n 6) : postN m fr to vl q = postN n fr to vl q := by
  unfold postN liesN
  rw [h2, h6]
  exact upd_c (upd_c (upd_c (upd_c (upd_c (upd_c (upd_c (upd_c (upd_c (upd_c (upd_c h))))))))))
theorem postN_6 {n : Nat → Int32} {fr to vl : Int32} : postN n fr to vl (498 + 10 * nv n 2 + 6) = -1 := by
  unfold postN
  rw [upd_o (by omega), upd_o (by omega), upd_o (by omega), upd_s]
theorem pZ.letter {M : Mm} {p : Nat} {r r' : Q4} {n : Nat → Int32} {i : Nat → Nat → Int32} {fr to vl : Int32} (h : cS M p r i) (hP : PI (mI M) p n) (hno : ¬ noP n) (hr : r' = r) (h30 : nv n 2 < 30) (hO' : OkN 0 (postN n fr to vl)) : pZ M p (postN n fr to vl) r' (mI (addL (wI M i) (p + 7 + 2) (nv n 2) fr to vl (nI 0) (-1))) := by
  subst hr
  have hPi := h.pi hP
  obtain ⟨hTT, hQS, hDY, hEC, hO⟩ := hPi
  have hTb := hO.1
  have t6 : n 6 = nI 0 := by
    have h6 := hO.2.2.2.2.2.1
    rw [h6.1, show nv n 6 = 0 from Nat.le_zero.mp h6.2]
  have e1 : nv (postN n fr to vl) 1 = nv n 1 := nv_eq (postN_lo (by omega) (by omega))
  have ep : mI (addL (wI M i) (p + 7 + 2) (nv n 2) fr to vl (nI 0) (-1)) p = i p := addL_o (by omega)
  refine ⟨fun x hx => (addL_o (by omega)).trans (h.2.1 x (by omega)), (congrFun ep 5).trans (h.2.2 5 (by omega) (by omega) (by omega) (by omega)), ⟨r'.1, r'.2.1, ?_, fun _ => rfl⟩, fun _ => ⟨?_, ?_, ?_, ?_, hO'⟩⟩
  · unfold cQ
    rw [ep]
    exact h.1
  · refine TT.eq (n := n) (hTT.kept (fun x x1 x2 k => congrFun (addL_o (by omega)) k)) ⟨(postN_lo (by omega) (by omega)).symm, (postN_lo (by omega) (by omega)).symm, fun q q1 q2 => (postN_lo (by omega) (by omega)).symm, fun q q1 q2 => (postN_lo (by omega) (by omega)).symm⟩ hTb.1.2 hTb.2.1.2 hTb.2.2
  · have z := RS.add (M := wI M i) (fr := fr) (to := to) (vl := vl) (pr := -1) hQS.1 hno h30
    rw [t6] at z
    refine QS.eq (m := upd (postN n fr to vl) (498 + 10 * nv n 2 + 6) (-1)) ⟨z, fun c hc => ?_⟩ (fun q q1 q2 => ?_)
    · rw [upd_o (by omega), postN_lo (by omega) (by omega)]
      exact (congrFun (addL_o (by omega)) c).trans (hQS.2 c hc)
    · by_cases hq : q = 498 + 10 * nv n 2 + 6
      · rw [hq, upd_s, postN_6]
      · rw [upd_o hq]
  · unfold DY
    rw [e1]
    intro hz
    rw [(addL_o (by omega) : mI (addL (wI M i) (p + 7 + 2) (nv n 2) fr to vl (nI 0) (-1)) (p + 4) = _)]
    refine (hDY hz).trans (setB_congr (fun w hw => ?_))
    have eA : rtA (nv n 1 - 1) w = 43 + 13 * (7 * (nv n 1 - 1) + w) := rfl
    have h1b := hTb.2.1.2
    have e8 : postN n fr to vl (rtA (nv n 1 - 1) w) = n (rtA (nv n 1 - 1) w) := postN_lo (by omega) (by omega)
    exact decide_eq_decide.mpr (by rw [e8])
  · intro c hc hc5 w hw
    rw [e1] at hc
    have eA : rtA c w = 43 + 13 * (7 * c + w) := rfl
    rw [postN_lo (by omega) (by omega)]
    exact hEC c hc hc5 w hw
/-- a letter's line, up to its end, as the class reads it -/
def ltX (n : Nat → Int32) (u : Nat → Nat) (e : Nat) (q : Q4) : Q4 := if nv n 2 < 30 ∧ (ltB n u e q).2.2.1 = -1 ∧ ((blQ u e (ltB n u e q)).1 < e ∧ lwB u (blQ u e (ltB n u e q)).1 = true) ∧ ¬ hasW u e 6 (ltB n u e q) = true then ((blQ u e (ltB n u e q)).1, (blQ u e (ltB n u e q)).1, nI (blQ u e (ltB n u e q)).1, nI 1) else ltR n q.2.1 u e q
theorem lt_eq {n : Nat → Int32} {u : Nat → Nat} {e : Nat} {q : Q4} (hg : q.2.2.1 = -1) (hx9 : q.2.1 < 100000) :
    (¬ nv n 2 < 30 → (ltX n u e q).2.2 = (nI q.2.1, nI 4)) ∧ (nv n 2 < 30 → ltR n q.2.1 u e q = ltD n u e q ∧ ((ltD n u e q).2.2.1 = -1 → ltN n q.2.1 u e q = postN n (rpI n u e q) (rpI n u e (rvQ n u e (-1) q)) (nI (ltV n u e q)))) := by
  have hs : ltS n q.2.1 q = if nv n 2 < 30 then q else (q.1, q.2.1, nI q.2.1, nI 4) := by unfold ltS; rw [muQ_d (q := (q.1, q.2.1, q.2.2)) hg]
  refine ⟨fun h => ?_, fun h => ?_⟩
  · rw [if_neg h] at hs
    unfold ltX ltR
    rw [if_neg (fun z => h z.1), hs, if_neg (nI_m1 hx9)]
  · rw [if_pos h] at hs
    have e1 : ltR n q.2.1 u e q = ltD n u e q := by unfold ltR; rw [hs, if_pos hg]
    refine ⟨e1, fun hz => ?_⟩
    unfold ltN
    rw [hs, if_pos ⟨hg, hz⟩]
theorem hasW_f {u : Nat → Nat} {e w : Nat} {q : Q4} (h : ¬ q.2.2.1 = -1) : ¬ hasW u e w q = true := fun z => h (of_decide_eq_true z).1
theorem ltD_f {n : Nat → Int32} {u : Nat → Nat} {e : Nat} {q : Q4} (h : ¬ (ltB n u e q).2.2.1 = -1) : ltD n u e q = ltB n u e q := by
  unfold ltD
  rw [if_neg (hasW_f h)]
  unfold tkQ
  rw [if_neg h]
theorem ltX_f {n : Nat → Int32} {u : Nat → Nat} {e : Nat} {q : Q4} (hg : q.2.2.1 = -1) (hx9 : q.2.1 < 100000) (h3 : nv n 2 < 30) (h : ¬ (ltB n u e q).2.2.1 = -1) : ltX n u e q = ltB n u e q := by
  unfold ltX
  rw [if_neg (fun z => h z.2.1), ((lt_eq hg hx9).2 h3).1, ltD_f h]
theorem ltB_f {n : Nat → Int32} {u : Nat → Nat} {e : Nat} {q : Q4} (h : ¬ (rvQ n u e (-1) q).2.2.1 = -1) : ltB n u e q = rvQ n u e (-1) q := fl_rv h
/-- behind two villages -/
theorem ltT {n : Nat → Int32} {u : Nat → Nat} {e b : Nat} {q : Q4} (hg : q.2.2.1 = -1) (hx9 : q.2.1 < 100000) (h3 : nv n 2 < 30) (h : (ltB n u e q).2.2.1 = -1) (hp : (ltB n u e q).1 ≤ e) (hb : eo (blB u) e (ltB n u e q).1 = b) :
    (¬ (b < e ∧ lwB u b = true) → ltX n u e q = (b, b, (ltB n u e q).2.2) ∧ ltR n q.2.1 u e q = (b, b, (ltB n u e q).2.2) ∧ ltV n u e q = 0) ∧
    ((b < e ∧ lwB u b = true) → (¬ (eo (lwB u) e b - b = (txw 6).length ∧ ∀ j, j < (txw 6).length → u (b + j) = (txw 6).getD j 0) → (ltX n u e q).2.2 = (nI b, nI 1)) ∧
      ((eo (lwB u) e b - b = (txw 6).length ∧ ∀ j, j < (txw 6).length → u (b + j) = (txw 6).getD j 0) → ltX n u e q = nuQ u e 1 999 (eo (lwB u) e b, b, (ltB n u e q).2.2) ∧ ltR n q.2.1 u e q = nuQ u e 1 999 (eo (lwB u) e b, b, (ltB n u e q).2.2) ∧ ltV n u e q = nuW u e 1 999 (eo (lwB u) e b, b, (ltB n u e q).2.2))) := by
  have hbl : blQ u e (ltB n u e q) = (b, b, (ltB n u e q).2.2) := by rw [bl_1 h, hb]
  have hbe : b ≤ e := by rw [← hb]; exact eo_le hp
  have hwh : whN u e (ltB n u e q) = eo (lwB u) e b - b := by unfold whN; rw [hbl]
  have hge := eo_ge (f := lwB u) (e := e) (p := b)
  have hW : hasW u e 6 (ltB n u e q) = true ↔ (eo (lwB u) e b - b = (txw 6).length ∧ ∀ j, j < (txw 6).length → u (b + j) = (txw 6).getD j 0) := by
    unfold hasW
    rw [decide_eq_true_iff, hwh, hbl]
    exact ⟨fun z => z.2, fun z => ⟨h, z⟩⟩
  have hl := (lt_eq (u := u) (e := e) hg hx9).2 h3
  have h7 : (txw 6).length = 7 := rfl
  refine ⟨fun hn => ?_, fun hy => ⟨fun hn => ?_, fun hw => ?_⟩⟩
  · have hw0 : ¬ hasW u e 6 (ltB n u e q) = true := fun z => by
      have z1 := (hW.mp z).1
      have : eo (lwB u) e b = b := eo_stop (by
        rcases Nat.lt_or_ge b e with hh | hh
        · refine Or.inr ?_
          cases hc : lwB u b with
          | false => rfl
          | true => exact absurd ⟨hh, hc⟩ hn
        · exact Or.inl hh)
      omega
    have hD : ltD n u e q = (b, b, (ltB n u e q).2.2) := by
      unfold ltD tkQ
      rw [if_neg hw0, if_pos h, if_neg hw0, hbl]
    refine ⟨?_, hl.1.trans hD, ?_⟩
    · unfold ltX
      rw [hbl, if_neg (fun z => hn z.2.2.1), hl.1, hD]
    · unfold ltV
      rw [if_neg hw0]
  · unfold ltX
    rw [hbl, if_pos ⟨h3, h, hy, fun z => hn (hW.mp z)⟩]
  · have hw0 := hW.mpr hw
    have ht : tkQ u e 6 (ltB n u e q) = (eo (lwB u) e b, b, (ltB n u e q).2.2) := by
      unfold tkQ
      rw [if_pos h, if_pos hw0, hbl, show eo (lwB u) e b = b + (txw 6).length by have := hw.1; omega]
    have hD : ltD n u e q = nuQ u e 1 999 (eo (lwB u) e b, b, (ltB n u e q).2.2) := by
      unfold ltD
      rw [if_pos hw0, ht]
    refine ⟨?_, hl.1.trans hD, ?_⟩
    · unfold ltX
      rw [if_neg (fun z => z.2.2.2 hw0), hl.1, hD]
    · unfold ltV
      rw [if_pos hw0, ht]
theorem pZ.letter3 {M : Mm} {p x y : Nat} {r' : Q4} {f : Int32 × Int32} {n : Nat → Int32} {i : Nat → Nat → Int32} {fr to vl : Int32} (h : cS M p (x, y, f) i) (hP : PI (mI M) p n) (hno : ¬ noP n) (hr : r' = (x, x, f)) (h30 : nv n 2 < 30) (hO' : OkN 0 (postN n fr to vl)) : pZ M p (postN n fr to vl) r' (mI (addL (wI M i) (p + 7 + 2) (nv n 2) fr to vl (nI 0) (-1))) := by
  obtain ⟨a, b, ⟨x', y', c1, c2⟩, d⟩ := pZ.letter h hP hno (r' := (x, y, f)) rfl h30 hO'
  subst hr
  exact ⟨a, b, ⟨x', y', c1, c2⟩, d⟩
set_option maxHeartbeats 2000000 in
set_option maxRecDepth 20000 in
theorem t_X5_readLetter {M : Mm} {p b N e : Nat} {u : Nat → Nat} (hp : LX5 M.1 M.2.1 p) (hT : PT M p b N e u) {q : Q4} (hg : q.2.2.1 = -1) (hq : cQ (mI M) p q) (hp9 : q.1 ≤ e) (he : e ≤ 900) (hx9 : q.2.1 < 100000) {n : Nat → Int32} (hP : PI (mI M) p n) : Ct G base YX5_readLetter 7 0 0 [.ref p] M (rI (some (.int (if (ltX n u e q).2.2.1 = -1 then 1 else 0))) M (pZ M p (ltN n q.2.1 u e q) (ltX n u e q))) := by
  refine Ct.of IX5_readLetter.1 (by simp [Value.category]) (Nat.le_of_ble_eq_true rfl) (fun X hX hN => ?_)
  show J G base X 0 0 M 0 [some (.ref p), none, none, none] []
  obtain ⟨hTT, hQS, hDY, hEC, hO⟩ := hP
  have hP : PI (mI M) p n := ⟨hTT, hQS, hDY, hEC, hO⟩
  have hTb := hO.1
  have h0 := hTb.1
  have h1n := hTb.2.1
  have hRt := hTb.2.2
  have hc0 : mI M (p + 1) 0 = nI (nv n 0) := hTT.1.trans h0.1
  have hc1 : mI M (p + 1) 2 = nI (nv n 1) := hTT.2.2.1.trans h1n.1
  have hb0 := h0.2
  have hb1 := h1n.2
  have hRS := hQS.rs
  have h2b := hRS.2.2.1.2.1.2
  refine r_aload_n hX dX5_readLetter_0 rfl ?_
  refine r_getr hX dX5_readLetter_1 fl_X5_21 rfl (LX5_s hp) (LX5_r1 hp) ?_
  refine r_getr hX dX5_readLetter_4 fl_X5_158 rfl (LX8_s (LX5_o1 hp)) (LX8_r5 (LX5_o1 hp)) ?_
  refine rn_geti (v := nI (nv n 2)) hX dX5_readLetter_7 fl_X5_162 rfl (LX2_s (LX8_o5 (LX5_o1 hp))) (hRS.2.2.1.1.trans hRS.2.2.1.2.1.1) ?_
  refine r_bipush (v := nI 30) hX dX5_readLetter_10 (by decide) ?_
  refine rn_icmp_lt (tgt := 25) hX dX5_readLetter_12 (by decide) rfl rfl (by omega) (by omega) (fun c12 => ?_) (fun c12 => ?_)
  · refine r_aload_n hX dX5_readLetter_25 rfl ?_
    refine r_iconst (v := (-1)) hX dX5_readLetter_26 (by decide) ?_
    refine r_iV1 hX dX5_readLetter_27 IX5_readVillage ml_X5_167 rfl (LX5_s hp) rfl (t_X5_readVillage (M := M) hp hT hg hq hp9 he (n := n) hTT h0 (other := -1)) (by decide) (by decide) (by decide) (by decide) rfl (Nat.le_of_ble_eq_true rfl) (fun i1 h1 => ?_)
    show J G base X _ _ (wI M i1) _ _ _
    
    by_cases g1 : (rvQ n u e (-1) q).2.2.1 = -1
    · rw [if_pos g1]
      have hS1 := h1.2 g1
      obtain ⟨-, v2, -⟩ := snmu_ok (q := q) g1 hp9 he
      obtain ⟨v3, v4⟩ := of_decide_eq_true v2
      have hno : ¬ noP n := by
        obtain ⟨j, hj, -, -⟩ := townP_of h0 v3
        exact noP_p hj
      have hq1 := rvQ_le (n := n) (u := u) (o := -1) hp9 he
      refine r_istore1 hX dX5_readLetter_30 rfl ?_
      refine r_iload_n hX dX5_readLetter_31 rfl ?_
      refine r_iconst (v := (-1)) hX dX5_readLetter_32 (by decide) ?_
      refine r_icmp_ne (tgt := 38) hX dX5_readLetter_33 (by decide) (fun c33 => ?_) (fun c33 => absurd c33 v4)
      refine r_aload_n hX dX5_readLetter_38 rfl ?_
      refine r_iload_n hX dX5_readLetter_39 rfl ?_
      refine r_iV1 hX dX5_readLetter_40 IX5_readVillage ml_X5_167 rfl (LX5_s hp) rfl (t_X5_readVillage (M := wI M i1) hp (hS1.pt hT) g1 hS1.1 hq1 he (n := n) (hS1.pi hP).1 h0 (other := rpI n u e q)) (by decide) (by decide) (by decide) (by decide) rfl (Nat.le_of_ble_eq_true rfl) (fun i2 h2 => ?_)
      show J G base X _ _ (wI M i2) _ _ _
      
      by_cases g2 : (ltB n u e q).2.2.1 = -1
      · have g2' : (rvQ n u e (rpI n u e q) (rvQ n u e (-1) q)).2.2.1 = -1 := g2
        rw [if_pos g2']
        have hS2 : cS M p (ltB n u e q) i2 := hS1.tr (h2.2 g2)
        obtain ⟨-, w2, -⟩ := snmu_ok (q := rvQ n u e (-1) q) g2 hq1 he
        obtain ⟨w3, w4⟩ := of_decide_eq_true w2
        have w5 : ¬ rpI n u e (rvQ n u e (-1) q) = -1 := fun z => by
          obtain ⟨j, hj, e1, -⟩ := townP_of h0 w3
          rw [e1] at z
          exact nI_m1 (by omega) z
        have hq2 : (ltB n u e q).1 ≤ e := rvQ_le hq1 he
        generalize hbb : eo (blB u) e (ltB n u e q).1 = b at *
        have hbe : b ≤ e := by rw [← hbb]; exact eo_le hq2
        have hb2 : eo (blB u) e b = b := by rw [← hbb]; exact eo_eo hq2
        have hwe : eo (lwB u) e b ≤ e := eo_le hbe
        refine r_istore2 hX dX5_readLetter_43 rfl ?_
        refine r_iload_n hX dX5_readLetter_44 rfl ?_
        refine r_iconst (v := (-1)) hX dX5_readLetter_45 (by decide) ?_
        refine r_icmp_ne (tgt := 51) hX dX5_readLetter_46 (by decide) (fun c46 => ?_) (fun c46 => absurd c46 w5)
        refine r_aload_n hX dX5_readLetter_51 rfl ?_
        refine r_iV0 hX dX5_readLetter_52 IX5_skipBlanks ml_X5_146 rfl (LX5_s hp) rfl (t_X5_skipBlanks (M := wI M i2) hp (hS2.pt hT) hS2.1 hq2 he) (by decide) (by decide) (by decide) (by decide) rfl (Nat.le_of_ble_eq_true rfl) (fun i3 h3 => ?_)
        rw [hbb] at h3
        show J G base X _ _ (wI M i3) _ _ _
        have hS3 := hS2.tr h3
        refine r_iconst (v := nI 0) hX dX5_readLetter_55 (by decide) ?_
        refine r_istore3 hX dX5_readLetter_56 rfl ?_
        refine r_aload_n hX dX5_readLetter_57 rfl ?_
        refine r_aload_n hX dX5_readLetter_58 rfl ?_
        refine rn_geti (v := nI b) hX dX5_readLetter_59 fl_X5_39 rfl (LX5_s hp) hS3.1.1 ?_
        refine r_cV1 hX dX5_readLetter_62 IX5_isLowerCase ml_X5_170 rfl (LX5_s hp) rfl (t_X5_isLowerCase (M := wI M i3) hp (hS3.pt hT) (by omega)) (by decide) (by decide) (by decide) (by decide) rfl (Nat.le_of_ble_eq_true rfl) ?_
        refine rb_if_eq (tgt := 107) hX dX5_readLetter_65 (by decide) rfl (fun c65 => ?_) (fun c65 => ?_)
        · have ht1 := (ltT hg hx9 c12 g2 hq2 hbb).1 c65
          have hS3' : cS M p (b, (ltB n u e q).2.1, (ltB n u e q).2.2) i3 := hS3
          have hm2 : mI (wI M i3) (p + 7 + 2) 0 = nI (nv n 2) := (congrFun (hS3.2.1 _ (by omega)) 0).trans (hRS.2.2.1.1.trans hRS.2.2.1.2.1.1)
          refine r_aload_n hX dX5_readLetter_107 rfl ?_
          refine r_getr hX dX5_readLetter_108 fl_X5_21 rfl (LX5_s hp) (LX5_r1 hp) ?_
          refine r_getr hX dX5_readLetter_111 fl_X5_158 rfl (LX8_s (LX5_o1 hp)) (LX8_r5 (LX5_o1 hp)) ?_
          refine r_iload_n hX dX5_readLetter_114 rfl ?_
          refine r_iload_n hX dX5_readLetter_115 rfl ?_
          refine r_iload_n hX dX5_readLetter_116 rfl ?_
          refine r_iconst (v := 0) hX dX5_readLetter_117 (by decide) ?_
          refine r_iconst (v := (-1)) hX dX5_readLetter_118 (by decide) ?_
          refine r_cV5 hX dX5_readLetter_119 IX2_add ml_X5_175 rfl (LX2_s (LX8_o5 (LX5_o1 hp))) rfl (t_X2_add (M := wI M i3) (LX8_o5 (LX5_o1 hp)) (m := nv n 2) hm2 c12) (by decide) (by decide) (by decide) (by decide) rfl (Nat.le_of_ble_eq_true rfl) ?_
          refine r_pop hX dX5_readLetter_122 rfl ?_
          refine r_iconst (v := 1) hX dX5_readLetter_123 (by decide) ?_
          refine r_ireturn hX rfl rfl dX5_readLetter_124 (by decide) (by decide) ?_
          have hL9 : ltN n q.2.1 u e q = postN n (rpI n u e q) (rpI n u e (rvQ n u e (-1) q)) (nI 0) := by
            rw [((lt_eq hg hx9).2 c12).2 (by rw [← ((lt_eq hg hx9).2 c12).1, ht1.2.1]; exact g2), ht1.2.2]
          refine ⟨by rw [ht1.1, if_pos g2], mI (addL (wI M i3) (p + 7 + 2) (nv n 2) (rpI n u e q) (rpI n u e (rvQ n u e (-1) q)) (nI 0) (nI 0) (-1)), rfl, ?_⟩
          have hO9 : OkN 0 (ltN n q.2.1 u e q) := ltL_ok hO hp9 he hx9 (by rw [ht1.2.1]; exact g2)
          rw [hL9] at hO9 ⊢
          exact pZ.letter3 hS3 hP hno ht1.1 c12 hO9
        · refine r_aload_n hX dX5_readLetter_68 rfl ?_
          refine r_iV0 hX dX5_readLetter_69 IX5_readWord ml_X5_52 rfl (LX5_s hp) rfl (t_X5_readWord (M := wI M i3) hp (hS3.pt hT) hS3.1 hbe he) (by decide) (by decide) (by decide) (by decide) rfl (Nat.le_of_ble_eq_true rfl) (fun i4 h4 => ?_)
          rw [hb2] at h4
          show J G base X _ _ (wI M i4) _ _ _
          have hS4 := hS3.tr h4
          refine r_aload_n hX dX5_readLetter_72 rfl ?_
          refine r_ldcS (i := 6) hX dX5_readLetter_73 (show (RX5, 173, 6) ∈ txR by simp [txR]) ?_
          refine r_cV1 hX dX5_readLetter_75 IX5_isWord ml_X5_57 rfl (LX5_s hp) rfl (t_X5_isWord (M := wI M i4) hp (hS4.pt hT) hS4.1 (eo_ge (f := lwB u) (e := e) (p := b)) hwe he (w := 6) (by omega)) (by decide) (by decide) (by decide) (by decide) rfl (Nat.le_of_ble_eq_true rfl) ?_
          refine rb_if_ne (tgt := 91) hX dX5_readLetter_78 (by decide) rfl (fun c78 => ?_) (fun c78 => ?_)
          · have ht2 := ((ltT hg hx9 c12 g2 hq2 hbb).2 c65).2 c78
            refine r_aload_n hX dX5_readLetter_91 rfl ?_
            refine r_iconst (v := nI 1) hX dX5_readLetter_92 (by decide) ?_
            refine r_sipush (v := nI 999) hX dX5_readLetter_93 (by decide) ?_
            refine r_iV2 hX dX5_readLetter_96 IX5_readNumber ml_X5_137 rfl (LX5_s hp) rfl (t_X5_readNumber (M := wI M i4) (q := (eo (lwB u) e b, b, (ltB n u e q).2.2)) hp (hS4.pt hT) g2 hS4.1 hwe he (lo := 1) (hi9 := 999) (by omega) (by omega)) (by decide) (by decide) (by decide) (by decide) rfl (Nat.le_of_ble_eq_true rfl) (fun i5 h5 => ?_)
            show J G base X _ _ (wI M i5) _ _ _
            
            have hS5 := hS4.tr h5
            by_cases g5 : (nuQ u e 1 999 (eo (lwB u) e b, b, (ltB n u e q).2.2)).2.2.1 = -1
            · rw [if_pos g5]
              obtain ⟨-, nw1, nw2⟩ := nuW_hi (u := u) (lo := 1) (hi := 999) (q := (eo (lwB u) e b, b, (ltB n u e q).2.2)) hwe he g5
              refine r_istore3 hX dX5_readLetter_99 rfl ?_
              refine r_iload_n hX dX5_readLetter_100 rfl ?_
              refine r_iconst (v := (-1)) hX dX5_readLetter_101 (by decide) ?_
              refine r_icmp_ne (tgt := 107) hX dX5_readLetter_102 (by decide) (fun c102 => ?_) (fun c102 => absurd c102 (nI_m1 (by omega)))
              have hm2 : mI (wI M i5) (p + 7 + 2) 0 = nI (nv n 2) := (congrFun (hS5.2.1 _ (by omega)) 0).trans (hRS.2.2.1.1.trans hRS.2.2.1.2.1.1)
              refine r_aload_n hX dX5_readLetter_107 rfl ?_
              refine r_getr hX dX5_readLetter_108 fl_X5_21 rfl (LX5_s hp) (LX5_r1 hp) ?_
              refine r_getr hX dX5_readLetter_111 fl_X5_158 rfl (LX8_s (LX5_o1 hp)) (LX8_r5 (LX5_o1 hp)) ?_
              refine r_iload_n hX dX5_readLetter_114 rfl ?_
              refine r_iload_n hX dX5_readLetter_115 rfl ?_
              refine r_iload_n hX dX5_readLetter_116 rfl ?_
              refine r_iconst (v := 0) hX dX5_readLetter_117 (by decide) ?_
              refine r_iconst (v := (-1)) hX dX5_readLetter_118 (by decide) ?_
              refine r_cV5 hX dX5_readLetter_119 IX2_add ml_X5_175 rfl (LX2_s (LX8_o5 (LX5_o1 hp))) rfl (t_X2_add (M := wI M i5) (LX8_o5 (LX5_o1 hp)) (m := nv n 2) hm2 c12) (by decide) (by decide) (by decide) (by decide) rfl (Nat.le_of_ble_eq_true rfl) ?_
              refine r_pop hX dX5_readLetter_122 rfl ?_
              refine r_iconst (v := 1) hX dX5_readLetter_123 (by decide) ?_
              refine r_ireturn hX rfl rfl dX5_readLetter_124 (by decide) (by decide) ?_
              have hL9 : ltN n q.2.1 u e q = postN n (rpI n u e q) (rpI n u e (rvQ n u e (-1) q)) (nI (nuW u e 1 999 (eo (lwB u) e b, b, (ltB n u e q).2.2))) := by
                rw [((lt_eq hg hx9).2 c12).2 (by rw [← ((lt_eq hg hx9).2 c12).1, ht2.2.1]; exact g5), ht2.2.2]
              refine ⟨by rw [ht2.1, if_pos g5], mI (addL (wI M i5) (p + 7 + 2) (nv n 2) (rpI n u e q) (rpI n u e (rvQ n u e (-1) q)) (nI (nuW u e 1 999 (eo (lwB u) e b, b, (ltB n u e q).2.2))) (nI 0) (-1)), rfl, ?_⟩
              have hO9 : OkN 0 (ltN n q.2.1 u e q) := ltL_ok hO hp9 he hx9 (by rw [ht2.2.1]; exact g5)
              rw [hL9] at hO9 ⊢
              exact pZ.letter hS5 hP hno ht2.1 c12 hO9
            · rw [if_neg g5]
              refine r_istore3 hX dX5_readLetter_99 rfl ?_
              refine r_iload_n hX dX5_readLetter_100 rfl ?_
              refine r_iconst (v := (-1)) hX dX5_readLetter_101 (by decide) ?_
              refine r_icmp_ne (tgt := 107) hX dX5_readLetter_102 (by decide) (fun c102 => absurd rfl c102) (fun c102 => ?_)
              refine r_iconst (v := 0) hX dX5_readLetter_105 (by decide) ?_
              refine r_ireturn hX rfl rfl dX5_readLetter_106 (by decide) (by decide) ?_
              exact ⟨by rw [ht2.1, if_neg g5], i5, rfl, pZ.bad hS5 (by rw [ht2.1]) g5⟩
          · refine r_aload_n hX dX5_readLetter_81 rfl ?_
            refine r_iconst (v := nI 1) hX dX5_readLetter_82 (by decide) ?_
            refine r_aload_n hX dX5_readLetter_83 rfl ?_
            refine rn_geti (v := nI b) hX dX5_readLetter_84 fl_X5_42 rfl (LX5_s hp) hS4.1.2.1 ?_
            refine r_iV2 hX dX5_readLetter_87 IX5_fail ml_X5_91 rfl (LX5_s hp) rfl (t_X5_fail (M := wI M i4) hp hS4.1 (k := 1) (f := b)) (by decide) (by decide) (by decide) (by decide) rfl (Nat.le_of_ble_eq_true rfl) (fun i6 h6 => ?_)
            show J G base X _ _ (wI M i6) _ _ _
            
            refine r_ireturn hX rfl rfl dX5_readLetter_90 (by decide) (by decide) ?_
            have hr : (ltX n u e q).2.2 = (nI b, nI 1) := ((ltT hg hx9 c12 g2 hq2 hbb).2 c65).1 c78
            refine ⟨by rw [show (ltX n u e q).2.2.1 = nI b from congrArg Prod.fst hr, if_neg (nI_m1 (by omega))]; first | done | rfl, i6, rfl, pZ.bad (hS4.tr h6) hr (nI_m1 (by show b < 100000; omega))⟩
      · have g2' : ¬ (rvQ n u e (rpI n u e q) (rvQ n u e (-1) q)).2.2.1 = -1 := g2
        rw [if_neg g2']
        refine r_istore2 hX dX5_readLetter_43 rfl ?_
        refine r_iload_n hX dX5_readLetter_44 rfl ?_
        refine r_iconst (v := (-1)) hX dX5_readLetter_45 (by decide) ?_
        refine r_icmp_ne (tgt := 51) hX dX5_readLetter_46 (by decide) (fun c46 => absurd rfl c46) (fun c46 => ?_)
        refine r_iconst (v := 0) hX dX5_readLetter_49 (by decide) ?_
        refine r_ireturn hX rfl rfl dX5_readLetter_50 (by decide) (by decide) ?_
        obtain ⟨x, y, hbd⟩ := h2.1
        exact ⟨by rw [ltX_f hg hx9 c12 g2, if_neg g2], i2, rfl, pZ.bad (hS1.tr hbd) (by rw [ltX_f hg hx9 c12 g2]; rfl) g2⟩
    · rw [if_neg g1]
      have g2 : ¬ (ltB n u e q).2.2.1 = -1 := by rw [ltB_f g1]; exact g1
      refine r_istore1 hX dX5_readLetter_30 rfl ?_
      refine r_iload_n hX dX5_readLetter_31 rfl ?_
      refine r_iconst (v := (-1)) hX dX5_readLetter_32 (by decide) ?_
      refine r_icmp_ne (tgt := 38) hX dX5_readLetter_33 (by decide) (fun c33 => absurd rfl c33) (fun c33 => ?_)
      refine r_iconst (v := 0) hX dX5_readLetter_36 (by decide) ?_
      refine r_ireturn hX rfl rfl dX5_readLetter_37 (by decide) (by decide) ?_
      obtain ⟨x, y, hbd⟩ := h1.1
      have hX : ltX n u e q = rvQ n u e (-1) q := (ltX_f hg hx9 c12 g2).trans (ltB_f g1)
      exact ⟨by rw [hX, if_neg g1], i1, rfl, pZ.bad hbd (by rw [hX]) g1⟩
  · refine r_aload_n hX dX5_readLetter_15 rfl ?_
    refine r_iconst (v := nI 4) hX dX5_readLetter_16 (by decide) ?_
    refine r_aload_n hX dX5_readLetter_17 rfl ?_
    refine rn_geti (v := nI q.2.1) hX dX5_readLetter_18 fl_X5_42 rfl (LX5_s hp) hq.2.1 ?_
    refine r_iV2 hX dX5_readLetter_21 IX5_fail ml_X5_91 rfl (LX5_s hp) rfl (t_X5_fail (M := M) hp hq (k := 4) (f := q.2.1)) (by decide) (by decide) (by decide) (by decide) rfl (Nat.le_of_ble_eq_true rfl) (fun i4 h4 => ?_)
    show J G base X _ _ (wI M i4) _ _ _
    
    refine r_ireturn hX rfl rfl dX5_readLetter_24 (by decide) (by decide) ?_
    have hr : (ltX n u e q).2.2 = (nI q.2.1, nI 4) := (lt_eq hg hx9).1 (by omega)
    refine ⟨by rw [show (ltX n u e q).2.2.1 = nI q.2.1 from congrArg Prod.fst hr, if_neg (nI_m1 (by omega))]; first | done | rfl, i4, rfl, pZ.bad h4 hr (nI_m1 (by show q.2.1 < 100000; omega))⟩
