variable {G : GG} {base : Nat}
theorem nuQ_bl {u : Nat → Nat} {e lo hi : Nat} {q q' : Q4} (h : blQ u e q = blQ u e q') : nuQ u e lo hi q = nuQ u e lo hi q' ∧ nuW u e lo hi q = nuW u e lo hi q' := by
  unfold nuW nuQ nuQ2 nuX nuE nuQ1
  rw [h]
  exact ⟨rfl, rfl⟩
theorem rpQ_is {n : Nat → Int32} {u : Nat → Nat} {e : Nat} {q : Q4} : rpQ n u e q = pnQ u e (muQ (decide (¬ rpI n u e q = -1)) 3 (snR u e q)) := rfl
theorem nI_m1p {lo : Nat} : nI lo - 1 + 1 = nI lo := by rw [Int32.sub_add_cancel]
theorem nI_p1m {h : Nat} : nI (h + 1) - 1 = nI h := by rw [show nI (h + 1) = nI h + 1 from nI_add h 1 |>.symm, Int32.add_sub_cancel]
/-- whether a digit comes next -/
abbrev dig (u : Nat → Nat) (e : Nat) (q : Q4) : Prop := (blQ u e q).1 < e ∧ dgB u (blQ u e q).1 = true
/-- a stop, read from behind the blanks -/
theorem st_eq {u : Nat → Nat} {e lo c b : Nat} {qs : Q4} (hg : qs.2.2.1 = -1) (hp : qs.1 ≤ e) (hb : eo (blB u) e qs.1 = b) :
    (c < 6 → stB u e lo c (blQ u e qs) = nuQ u e lo 23 (b, qs.2) ∧ stV u e lo c (blQ u e qs) = nuW u e lo 23 (b, qs.2)) ∧ (c = 6 → dig u e qs → b ≤ 900 → ∀ n, (stC n u e lo c (blQ u e qs)).2.2 = (nI b, nI 4) ∧ ¬ (stC n u e lo c (blQ u e qs)).2.2.1 = -1) := by
  have hbl : blQ u e qs = (b, b, qs.2.2) := by rw [bl_1 hg, hb]
  have hbb : eo (blB u) e b = b := by rw [← hb]; exact eo_eo hp
  have hb2 : ∀ y : Nat, blQ u e (b, y, qs.2.2) = (b, b, qs.2.2) := fun y => by
    rw [bl_1 (q := (b, y, qs.2.2)) hg]
    show (eo (blB u) e b, eo (blB u) e b, qs.2.2) = _
    rw [hbb]
  have hA : stA u e c (blQ u e qs) = if ¬ (b < e ∧ dgB u b = true) ∨ c < 6 then (b, b, qs.2.2) else (b, b, nI b, nI 4) := by
    unfold stA
    rw [hbl, hb2, muQ_d (q := (b, b, qs.2.2)) hg]
  refine ⟨fun hc => ?_, fun hc hd h9 n => ?_⟩
  · rw [if_pos (Or.inr hc)] at hA
    unfold stB stV
    rw [hA]
    exact nuQ_bl ((hb2 b).trans (hb2 qs.2.1).symm)
  · have hd' : b < e ∧ dgB u b = true := by
      have z := hd
      unfold dig at z
      rw [hbl] at z
      exact z
    rw [if_neg (fun z => z.elim (fun y => y hd') (fun y => by omega))] at hA
    have hf : ¬ (stA u e c (blQ u e qs)).2.2.1 = -1 := by rw [hA]; exact nI_m1 (by show b < 100000; omega)
    have hB : stB u e lo c (blQ u e qs) = stA u e c (blQ u e qs) := fl_nu hf
    have hC : stC n u e lo c (blQ u e qs) = stA u e c (blQ u e qs) := by
      unfold stC
      rw [fl_rp (by rw [hB]; exact hf), hB]
    rw [hC]
    exact ⟨by rw [hA], hf⟩
theorem stZ_b0 {n : Nat → Int32} {u : Nat → Nat} {e f lo c : Nat} {rd : Nat → Int32} {q : Q4} (hp : q.1 ≤ e) : stZ n u e (f + 1) lo c rd (blQ u e q) = stZ n u e (f + 1) lo c rd q := by
  have e1 : stA u e c (blQ u e q) = stA u e c q := by unfold stA; rw [bl_bl hp]
  have e2 : stC n u e lo c (blQ u e q) = stC n u e lo c q := by unfold stC stB; rw [e1]
  have e3 : stD n u e lo c rd (blQ u e q) = stD n u e lo c rd q := by unfold stD stV stP stB; rw [e1]
  have e4 : stV u e lo c (blQ u e q) = stV u e lo c q := by unfold stV; rw [e1]
  unfold stZ
  rw [e2, e3, e4]
/-- what readStops leaves -/
def pT (M : Mm) (p : Nat) (n : Nat → Int32) (C V : Nat) (Z : (Nat → Int32) × Q4) (i : Nat → Nat → Int32) : Prop :=
  (∀ x, x ≠ p → x ≠ p + 5 → x ≠ p + 6 → i x = mI M x) ∧ i p 5 = mI M p 5 ∧ (∃ at_ st, cQ i p (at_, st, Z.2.2.2) ∧ (Z.2.2.2.1 = -1 → at_ = Z.2.1)) ∧ (Z.2.2.2.1 = -1 → TT i (p + 1) (rcN n C V Z.1 7) ∧ ∃ c, 1 ≤ c ∧ c ≤ 6 ∧ Z.1 0 = nI c)
theorem nuQ_f {u : Nat → Nat} {e lo hi : Nat} {q : Q4} (hg : q.2.2.1 = -1) (hp : q.1 ≤ e) (he : e ≤ 900) (h : (nuQ u e lo hi q).2.2.1 = -1) : (nuQ u e lo hi q).2.2 = q.2.2 := by
  obtain ⟨a, b, c⟩ := nuQ_c (u := u) (lo := lo) (hi := hi) hg hp he
  have hB := eo_le (f := blB u) hp
  by_cases h1 : eo (blB u) e q.1 < e ∧ dgB u (eo (blB u) e q.1) = true
  · by_cases h2 : eo (dgB u) e (eo (blB u) e q.1) - eo (blB u) e q.1 ≤ 3 ∧ lo ≤ nuV u (eo (blB u) e q.1) (eo (dgB u) e (eo (blB u) e q.1) - eo (blB u) e q.1) ∧ nuV u (eo (blB u) e q.1) (eo (dgB u) e (eo (blB u) e q.1) - eo (blB u) e q.1) ≤ hi
    · rw [(b h1 h2).1]
    · rw [c h1 h2] at h
      exact absurd h (nI_m1 (by omega))
  · rw [a (by
      rcases Nat.lt_or_ge (eo (blB u) e q.1) e with y | y
      · refine Or.inr ?_
        cases hc : dgB u (eo (blB u) e q.1) with
        | false => rfl
        | true => exact absurd ⟨y, hc⟩ h1
      · exact Or.inl y)] at h
    exact absurd h (nI_m1 (by omega))
set_option maxHeartbeats 2000000 in
set_option maxRecDepth 20000 in
theorem t_X5_readStops {M : Mm} {p b_ N e : Nat} {u : Nat → Nat} (hp : LX5 M.1 M.2.1 p) (hT : PT M p b_ N e u) {q : Q4} (hg : q.2.2.1 = -1) (hq : cQ (mI M) p q) (hp9 : q.1 ≤ e) (he : e ≤ 900) {n : Nat → Int32} {C V : Nat} (hCe : nv n 1 = C + 1) (hV : V < 128) (h8 : mI M p 8 = nI V) {rd : Nat → Int32} (hr0 : rd 0 = nI 0) (hTT : TT (mI M) (p + 1) (rcN n C V rd 7)) (h0 : Rn n 0 10) (h1n : Rn n 1 5) (h6 : ∀ c, c < 5 → ∀ w, w < 7 → nv n (rtA c w) ≤ 6) {Z : (Nat → Int32) × Q4} (hZ : stZ n u e 7 0 0 rd q = Z) : Ct G base YX5_readStops 6 0 0 [.ref p] M (rI (some (.int (if Z.2.2.2.1 = -1 then 1 else 0))) M (pT M p n C V Z)) := by
  refine Ct.of IX5_readStops.1 (by simp [Value.category]) (Nat.le_of_ble_eq_true rfl) (fun X hX hN => ?_)
  show J G base X 0 0 M 0 [some (.ref p), none, none, none, none] []
  have hb0 := h0.2
  have hb1 := h1n.2
  have hC5 : C < 5 := by omega
  refine r_iconst (v := (-1)) hX dX5_readStops_0 (by decide) ?_
  refine r_istore1 hX dX5_readStops_1 rfl ?_
  refine r_iconst (v := nI 0) hX dX5_readStops_2 (by decide) ?_
  refine r_istore2 hX dX5_readStops_3 rfl ?_
  have hZ0 : stZ n u e 7 0 0 rd (blQ u e q) = Z := (stZ_b0 hp9).trans hZ
  show J G base X 0 0 (wI M (mI M)) 4 [some (.ref p), some (.int (nI 0 - 1)), some (.int (nI 0)), none, none] []
  refine loop_us (σ := (Nat → Nat → Int32) × (Nat → Int32) × Nat × Q4 × Option (Int32 × Int32)) (P := fun c s => ((∀ x, x ≠ p → x ≠ p + 5 → x ≠ p + 6 → s.1 x = mI M x) ∧ s.1 p 5 = mI M p 5 ∧ s.1 p 8 = nI V ∧ cQ s.1 p s.2.2.2.1 ∧ s.2.2.2.1.2.2.1 = -1 ∧ s.2.2.2.1.1 ≤ e ∧ TT s.1 (p + 1) (rcN n C V s.2.1 7) ∧ s.2.1 0 = nI c ∧ (∀ k, k < c → ∃ g, s.2.1 (1 + 2 * k) = nI g ∧ g < s.2.2.1) ∧ s.2.2.1 ≤ 24 ∧ (c = 0 ∨ dig u e s.2.2.2.1 → stZ n u e (7 - c) s.2.2.1 c s.2.1 (blQ u e s.2.2.2.1) = Z) ∧ (c ≠ 0 → ¬ dig u e s.2.2.2.1 → (s.2.1, blQ u e s.2.2.2.1) = Z)) → J G base X 0 0 (wI M s.1) 4 [some (.ref p), some (.int (nI s.2.2.1 - 1)), some (.int (nI c)), s.2.2.2.2.map (fun z => .int z.1), s.2.2.2.2.map (fun z => .int z.2)] []) 6 (fun c s hj ih hi => ?_) 0 (mI M, rd, 0, q, none) (Nat.zero_le _) ⟨fun _ _ _ _ => rfl, rfl, h8, hq, hg, hp9, hTT, hr0, fun k hk => absurd hk (Nat.not_lt_zero _), Nat.zero_le _, fun _ => hZ0, fun z => absurd rfl z⟩
  rcases s with ⟨i, rd, lo, qs, _ | ⟨x3, x4⟩⟩
  · dsimp only at hi ih
    obtain ⟨h1, h2, h8, g2, g3, hqe, g4, g0, g5, g24, i61, i62⟩ := hi
    have hTi : PT (wI M i) p b_ N e u := ⟨hT.1, fun k hk => ⟨(hT.2.1 k hk).1, (congrFun (h1 b_ (by have := hT.1.2.2.2.2; omega) (by have := hT.1.2.2.2.2; omega) (by have := hT.1.2.2.2.2; omega)) k).trans (hT.2.1 k hk).2⟩, h2.trans hT.2.2⟩
    have hbe := eo_le (f := blB u) hqe
    generalize hbb : eo (blB u) e qs.1 = b at *
    have hbl : blQ u e qs = (b, b, qs.2.2) := by rw [bl_1 g3, hbb]
    show J G base X 0 0 (wI M i) 4 [some (.ref p), some (.int (nI lo - 1)), some (.int (nI c)), none, none] []
    refine r_iload_n hX dX5_readStops_4 rfl ?_
    refine r_bipush (v := nI 6) hX dX5_readStops_5 (by decide) ?_
    refine rn_icmp_gt (tgt := 129) hX dX5_readStops_7 (by decide) rfl rfl (by omega) (by omega) (fun c7 => by omega) (fun c7 => ?_)
    refine r_aload_n hX dX5_readStops_10 rfl ?_
    refine r_iV0 hX dX5_readStops_11 IX5_skipBlanks ml_X5_146 rfl (LX5_s hp) rfl (t_X5_skipBlanks (M := wI M i) hp hTi g2 hqe he) (by decide) (by decide) (by decide) (by decide) rfl (Nat.le_of_ble_eq_true rfl) (fun i1 h1x => ?_)
    rw [hbb] at h1x
    show J G base X _ _ (wI M i1) _ _ _
    
    have hS1 : cS (wI M i) p (b, qs.2) i1 := h1x
    have rest : (c = 0 ∨ dig u e qs) → J G base X (0 + 0) (0 + 0) (wI M i1) 31 [some (.ref p), some (.int (nI lo - 1)), some (.int (nI c)), none, none] [] := by
      intro hd
      refine r_iload_n hX dX5_readStops_31 rfl ?_
      refine r_bipush (v := nI 6) hX dX5_readStops_32 (by decide) ?_
      refine rn_icmp_ne (tgt := 47) hX dX5_readStops_34 (by decide) rfl rfl (by omega) (by omega) (fun c34 => ?_) (fun c34 => ?_)
      · have hc6 : c < 6 := by omega
        obtain ⟨hst1, hst2⟩ := (st_eq (lo := lo) g3 hqe hbb).1 hc6
        refine r_aload_n hX dX5_readStops_47 rfl ?_
        refine r_iload_n hX dX5_readStops_48 rfl ?_
        refine r_iconst (v := 1) hX dX5_readStops_49 (by decide) ?_
        refine r_iadd hX dX5_readStops_50 ?_
        rw [nI_m1p]
        refine r_bipush (v := nI 23) hX dX5_readStops_51 (by decide) ?_
        refine r_iV2 hX dX5_readStops_53 IX5_readNumber ml_X5_137 rfl (LX5_s hp) rfl (t_X5_readNumber (M := wI M i1) (q := (b, qs.2)) hp (hS1.pt hTi) g3 hS1.1 hbe he (lo := lo) (hi9 := 23) (by omega) (by omega)) (by decide) (by decide) (by decide) (by decide) rfl (Nat.le_of_ble_eq_true rfl) (fun i2 h2x => ?_)
        show J G base X _ _ (wI M i2) _ _ _
        have hS2 := hS1.tr h2x
        by_cases gB : (nuQ u e lo 23 (b, qs.2)).2.2.1 = -1
        · rw [if_pos gB]
          obtain ⟨-, nw1, nw2⟩ := nuW_hi (u := u) (lo := lo) (hi := 23) (q := (b, qs.2)) hbe he gB
          have hqB : (nuQ u e lo 23 (b, qs.2)).1 ≤ e := nuQ_le (q := (b, qs.2)) hbe
          have hqf : (nuQ u e lo 23 (b, qs.2)).2.2 = qs.2.2 := nuQ_f (q := (b, qs.2)) g3 hbe he gB
          have hBe := eo_le (f := blB u) hqB
          generalize hqq : nuQ u e lo 23 (b, qs.2) = qB at *
          generalize hhh : nuW u e lo 23 (b, qs.2) = h at *
          refine r_istore1 hX dX5_readStops_56 rfl ?_
          refine r_iload_n hX dX5_readStops_57 rfl ?_
          refine r_iconst (v := (-1)) hX dX5_readStops_58 (by decide) ?_
          refine r_icmp_ne (tgt := 64) hX dX5_readStops_59 (by decide) (fun c59 => ?_) (fun c59 => absurd c59 (nI_m1 (by omega)))
          generalize hBB : eo (blB u) e qB.1 = B at *
          generalize hWW : eo (lwB u) e B - B = W at *
          have hWe := eo_le (f := lwB u) hBe
          have hWg := eo_ge (f := lwB u) (e := e) (p := B)
          obtain ⟨kbad, kok⟩ := pmQ_c gB hqB he hBB hWW
          refine r_aload_n hX dX5_readStops_64 rfl ?_
          refine r_iV0 hX dX5_readStops_65 IX5_readName ml_X5_114 rfl (LX5_s hp) rfl (t_X5_readName (M := wI M i2) hp (hS2.pt hTi) hS2.1 hqB he) (by decide) (by decide) (by decide) (by decide) rfl (Nat.le_of_ble_eq_true rfl) (fun i3 h3 => ?_)
          rw [hBB] at h3
          show J G base X _ _ (wI M i3) _ _ _
          rw [hBB, hWW]
          have hS3 := hS2.tr h3
          rw [hqf] at hS3
          refine r_istore3 hX dX5_readStops_68 rfl ?_
          refine r_iload_n hX dX5_readStops_69 rfl ?_
          refine r_if_ne (tgt := 83) hX dX5_readStops_70 (by decide) (fun c70 => ?_) (fun c70 => ?_)
          · have hok : 1 ≤ W ∧ W ≤ 6 := Classical.byContradiction (fun z => c70 (by rw [(kbad z).1]; rfl))
            have hT3 : TT (mI (wI M i3)) (p + 1) (rcN n C V rd 7) := g4.kept (fun x x1 x2 k => congrFun (hS3.2.1 x (by omega)) k)
            have e0 : nv (rcN n C V rd 7) 0 = nv n 0 := nv_eq (rcN_o hC5 (Or.inl (by omega)) 7 (Nat.le_refl _))
            have hm0 : mI (wI M i3) (p + 1) 0 = nI (nv n 0) := hT3.1.trans ((rcN_o hC5 (Or.inl (by omega)) 7 (Nat.le_refl _)).trans h0.1)
            have hfst : fstF (fun j => decide (mI (wI M i3) (p + 1 + 1) j = nI (nm32 u B W))) (nv n 0) = rpI n u e qB := by
              have z := fst_nm (i := mI (wI M i3)) (b := p + 1) hT3 (u := u) (p := B) (k := W)
              rw [e0, if_pos ⟨hok.1, hok.2, (kok hok).2.1⟩] at z
              rw [z, ← (kok hok).1]
              exact fnN_eq (fun j hj => rcN_o hC5 (Or.inl (by omega)) 7 (Nat.le_refl _))
            refine r_aload_n hX dX5_readStops_83 rfl ?_
            refine r_getr hX dX5_readStops_84 fl_X5_12 rfl (LX5_s hp) (LX5_r0 hp) ?_
            refine r_iload_n hX dX5_readStops_87 rfl ?_
            refine r_cV1 hX dX5_readStops_88 IX9_placeOfName ml_X5_118 rfl (LX9_s (LX5_o0 hp)) rfl (t_X9_placeOfName (M := wI M i3) (LX5_o0 hp) hm0 (by omega)) (by decide) (by decide) (by decide) (by decide) rfl (Nat.le_of_ble_eq_true rfl) ?_
            rw [hfst]
            refine r_istore4 hX dX5_readStops_91 rfl ?_
            refine r_iload hX dX5_readStops_93 rfl ?_
            refine r_iconst (v := (-1)) hX dX5_readStops_95 (by decide) ?_
            refine r_icmp_ne (tgt := 109) hX dX5_readStops_96 (by decide) (fun c96 => ?_) (fun c96 => ?_)
            · obtain ⟨pl, hpl, epl⟩ := rp_in c96
              rw [epl]
              have hTC : mI (wI M i3) (p + 1) 2 = nI (C + 1) := by
                rw [← hCe]
                exact hT3.2.2.1.trans ((rcN_o hC5 (Or.inl (by omega)) 7 (Nat.le_refl _)).trans h1n.1)
              refine r_aload_n hX dX5_readStops_109 rfl ?_
              refine r_getr hX dX5_readStops_110 fl_X5_12 rfl (LX5_s hp) (LX5_r0 hp) ?_
              refine r_aload_n hX dX5_readStops_113 rfl ?_
              refine rn_geti (v := nI V) hX dX5_readStops_114 fl_X5_45 rfl (LX5_s hp) ((hS3.2.2 8 (by omega) (by omega) (by omega) (by omega)).trans h8) ?_
              refine r_iload_n hX dX5_readStops_117 rfl ?_
              refine r_iload hX dX5_readStops_118 rfl ?_
              refine r_iV3 hX dX5_readStops_120 IX9_addStop ml_X5_152 rfl (LX9_s (LX5_o0 hp)) rfl (t_X9_addStop (M := wI M i3) (LX5_o0 hp) (F := fun t q => gstN (rcN n C V rd 7) t q) (U := fun t q => anyB (gstN (rcN n C V rd 7) t q) 5) hTC hC5 (by omega) (by omega) hT3.2.2.2.2.2.1 hT3.2.2.2.2.2.2) (by decide) (by decide) (by decide) (by decide) rfl (Nat.le_of_ble_eq_true rfl) (fun i5 hA => ?_)
              show J G base X _ _ (wI M i5) _ _ _
              obtain ⟨hA1, hA2, hA3⟩ := hA
              refine rn_iinc2 hX dX5_readStops_123 rfl rfl ?_
              refine r_goto (tgt := 4) hX dX5_readStops_126 (by decide) ?_
              have hq7 : cQ i5 p (B + W, B, qs.2.2) := by
                have e2 : i5 p = i3 p := hA3 p (by omega) (by omega)
                unfold cQ
                rw [e2]
                have z := hS3.1
                rw [show eo (lwB u) e B = B + W by omega] at z
                exact z
              have hTn : TT i5 (p + 1) (rcN n C V (rdS rd c h pl) 7) := TT.stop (hT3) h6 hb0 hb1 (by omega) (by omega) g0 (by omega) (fun k hk => by
                obtain ⟨g, g1, g2⟩ := g5 k hk
                exact ⟨g, g1, by omega⟩) (by omega) (by omega) hA1 hA2 (fun z z4 z5 => hA3 z z4 z5)
              have hz7 : stZ n u e ((6 - c) + 1) lo c rd (blQ u e qs) = Z := by rw [show (6 - c) + 1 = 7 - c by omega]; exact i61 hd
              have hC9 : stC n u e lo c (blQ u e qs) = (B + W, B, qs.2.2) := by
                show rpQ n u e (stB u e lo c (blQ u e qs)) = _
                rw [hst1, rpQ_is, decide_eq_true c96, (kok hok).2.2.2.1 3, hqf]
              have hD9 : stD n u e lo c rd (blQ u e qs) = rdS rd c h pl := by
                unfold stD stP
                rw [hst1, hst2, epl]
              have hgC : (stC n u e lo c (blQ u e qs)).2.2.1 = -1 := by rw [hC9]; exact g3
              have z := ih (by omega) (i5, rdS rd c h pl, h + 1, (B + W, B, qs.2.2), some (nI (nm32 u B W), nI pl)) ⟨fun x y0 y5 y6 => (hA3 x y5 y6).trans ((hS3.2.1 x y0).trans (h1 x y0 y5 y6)), ?_, ?_, hq7, g3, by show B + W ≤ e; omega, hTn, ?_, fun k hk => ?_, by show h + 1 ≤ 24; omega, fun hd2 => ?_, fun _ hd2 => ?_⟩
              · rw [nI_p1m] at z
                exact z
              · show i5 p 5 = _
                rw [show i5 p = i3 p from hA3 p (by omega) (by omega)]
                exact (hS3.2.2 5 (by omega) (by omega) (by omega) (by omega)).trans h2
              · show i5 p 8 = _
                rw [show i5 p = i3 p from hA3 p (by omega) (by omega)]
                exact (hS3.2.2 8 (by omega) (by omega) (by omega) (by omega)).trans h8
              · show rdS rd c h pl 0 = _
                exact upd_s
              · rcases (show k < c ∨ k = c by omega) with y | rfl
                · obtain ⟨g, g1, g2⟩ := g5 k y
                  exact ⟨g, by show rdS rd c h pl (1 + 2 * k) = _; simp only [rdS]; rw [upd_o (by omega), upd_o (by omega), upd_o (by omega)]; exact g1, by show g < h + 1; omega⟩
                · exact ⟨h, by show rdS rd k h pl (1 + 2 * k) = _; simp only [rdS]; rw [upd_o (by omega), upd_o (by omega), upd_s], by show h < h + 1; omega⟩
              · have hd3 := hd2.resolve_left (by omega)
                rw [stZ_more hgC (by rw [hC9]; exact hd3), hst2, hD9, hC9] at hz7
                show stZ n u e (7 - (c + 1)) (h + 1) (c + 1) _ _ = Z
                rw [show 7 - (c + 1) = 6 - c by omega]
                exact hz7
              · rw [stZ_end hgC (by rw [hC9]; exact hd2), hD9, hC9] at hz7
                exact hz7
            · refine r_aload_n hX dX5_readStops_99 rfl ?_
              refine r_iconst (v := nI 3) hX dX5_readStops_100 (by decide) ?_
              refine r_aload_n hX dX5_readStops_101 rfl ?_
              refine rn_geti (v := nI B) hX dX5_readStops_102 fl_X5_42 rfl (LX5_s hp) hS3.1.2.1 ?_
              refine r_iV2 hX dX5_readStops_105 IX5_fail ml_X5_91 rfl (LX5_s hp) rfl (t_X5_fail (M := wI M i3) hp hS3.1 (k := 3) (f := B)) (by decide) (by decide) (by decide) (by decide) rfl (Nat.le_of_ble_eq_true rfl) (fun i9 h9 => ?_)
              show J G base X _ _ (wI M i9) _ _ _
              have hS9 := hS3.tr h9
              refine r_ireturn hX rfl rfl dX5_readStops_108 (by decide) (by decide) ?_
              have hr : Z.2.2.2 = (nI B, nI 3) := by
                have hz7 : stZ n u e ((6 - c) + 1) lo c rd (blQ u e qs) = Z := by rw [show (6 - c) + 1 = 7 - c by omega]; exact i61 hd
                have hC9 : (stC n u e lo c (blQ u e qs)).2.2 = (nI B, nI 3) := by
                  show (rpQ n u e (stB u e lo c (blQ u e qs))).2.2 = _
                  rw [hst1, rpQ_is, decide_eq_false (fun z => z c96)]
                  exact (kok hok).2.2.2.2 3
                rw [stZ_bad (by rw [show (stC n u e lo c (blQ u e qs)).2.2.1 = nI B from congrArg Prod.fst hC9]; exact nI_m1 (by omega))] at hz7
                rw [← hz7]
                exact hC9
              have hz : ¬ Z.2.2.2.1 = -1 := by rw [show Z.2.2.2.1 = nI B from congrArg Prod.fst hr]; exact nI_m1 (by omega)
              exact ⟨by rw [if_neg hz]; first | done | rfl, i9, rfl, fun x y0 y5 y6 => (hS9.2.1 x y0).trans (h1 x y0 y5 y6), (hS9.2.2 5 (by omega) (by omega) (by omega) (by omega)).trans h2, ⟨_, _, by rw [hr]; exact hS9.1, fun z => absurd z hz⟩, fun z => absurd z hz⟩
          · refine r_aload_n hX dX5_readStops_73 rfl ?_
            refine r_iconst (v := nI 1) hX dX5_readStops_74 (by decide) ?_
            refine r_aload_n hX dX5_readStops_75 rfl ?_
            refine rn_geti (v := nI B) hX dX5_readStops_76 fl_X5_42 rfl (LX5_s hp) hS3.1.2.1 ?_
            refine r_iV2 hX dX5_readStops_79 IX5_fail ml_X5_91 rfl (LX5_s hp) rfl (t_X5_fail (M := wI M i3) hp hS3.1 (k := 1) (f := B)) (by decide) (by decide) (by decide) (by decide) rfl (Nat.le_of_ble_eq_true rfl) (fun i9 h9 => ?_)
            show J G base X _ _ (wI M i9) _ _ _
            have hS9 := hS3.tr h9
            refine r_ireturn hX rfl rfl dX5_readStops_82 (by decide) (by decide) ?_
            have hr : Z.2.2.2 = (nI B, nI 1) := by
              have hz7 : stZ n u e ((6 - c) + 1) lo c rd (blQ u e qs) = Z := by rw [show (6 - c) + 1 = 7 - c by omega]; exact i61 hd
              have hC9 : (stC n u e lo c (blQ u e qs)).2.2 = (nI B, nI 1) := by
                show (rpQ n u e (stB u e lo c (blQ u e qs))).2.2 = _
                rw [hst1, rpQ_is]
                exact (kbad (fun z => (kok z).2.2.1 c70)).2 _ 3
              rw [stZ_bad (by rw [show (stC n u e lo c (blQ u e qs)).2.2.1 = nI B from congrArg Prod.fst hC9]; exact nI_m1 (by omega))] at hz7
              rw [← hz7]
              exact hC9
            have hz : ¬ Z.2.2.2.1 = -1 := by rw [show Z.2.2.2.1 = nI B from congrArg Prod.fst hr]; exact nI_m1 (by omega)
            exact ⟨by rw [if_neg hz]; first | done | rfl, i9, rfl, fun x y0 y5 y6 => (hS9.2.1 x y0).trans (h1 x y0 y5 y6), (hS9.2.2 5 (by omega) (by omega) (by omega) (by omega)).trans h2, ⟨_, _, by rw [hr]; exact hS9.1, fun z => absurd z hz⟩, fun z => absurd z hz⟩
        · rw [if_neg gB]
          have hz7 : stZ n u e ((6 - c) + 1) lo c rd (blQ u e qs) = Z := by rw [show (6 - c) + 1 = 7 - c by omega]; exact i61 hd
          have hC9 : stC n u e lo c (blQ u e qs) = nuQ u e lo 23 (b, qs.2) := by
            show rpQ n u e (stB u e lo c (blQ u e qs)) = _
            rw [hst1, fl_rp gB]
          rw [stZ_bad (by rw [hC9]; exact gB), hC9] at hz7
          have hr : Z.2.2.2 = (nuQ u e lo 23 (b, qs.2)).2.2 := by rw [← hz7]
          have hz : ¬ Z.2.2.2.1 = -1 := by rw [hr]; exact gB
          refine r_istore1 hX dX5_readStops_56 rfl ?_
          refine r_iload_n hX dX5_readStops_57 rfl ?_
          refine r_iconst (v := (-1)) hX dX5_readStops_58 (by decide) ?_
          refine r_icmp_ne (tgt := 64) hX dX5_readStops_59 (by decide) (fun c59 => absurd rfl c59) (fun c59 => ?_)
          refine r_iconst (v := 0) hX dX5_readStops_62 (by decide) ?_
          refine r_ireturn hX rfl rfl dX5_readStops_63 (by decide) (by decide) ?_
          exact ⟨by rw [if_neg hz], i2, rfl, fun x y0 y5 y6 => (hS2.2.1 x y0).trans (h1 x y0 y5 y6), (hS2.2.2 5 (by omega) (by omega) (by omega) (by omega)).trans h2, ⟨_, _, by rw [hr]; exact hS2.1, fun z => absurd z hz⟩, fun z => absurd z hz⟩
      · refine r_aload_n hX dX5_readStops_37 rfl ?_
        refine r_iconst (v := nI 4) hX dX5_readStops_38 (by decide) ?_
        refine r_aload_n hX dX5_readStops_39 rfl ?_
        refine rn_geti (v := nI b) hX dX5_readStops_40 fl_X5_39 rfl (LX5_s hp) hS1.1.1 ?_
        refine r_iV2 hX dX5_readStops_43 IX5_fail ml_X5_91 rfl (LX5_s hp) rfl (t_X5_fail (M := wI M i1) hp hS1.1 (k := 4) (f := b)) (by decide) (by decide) (by decide) (by decide) rfl (Nat.le_of_ble_eq_true rfl) (fun i9 h9 => ?_)
        show J G base X _ _ (wI M i9) _ _ _
        have hS9 := hS1.tr h9
        refine r_ireturn hX rfl rfl dX5_readStops_46 (by decide) (by decide) ?_
        have hr : Z.2.2.2 = (nI b, nI 4) := by
          obtain rfl : c = 6 := by omega
          obtain ⟨z1, z2⟩ := (st_eq (lo := lo) g3 hqe hbb).2 rfl (hd.resolve_left (by omega)) (by omega) n
          have hz7 : stZ n u e (0 + 1) lo 6 rd (blQ u e qs) = Z := i61 hd
          rw [stZ_bad z2] at hz7
          rw [← hz7]
          exact z1
        have hz : ¬ Z.2.2.2.1 = -1 := by rw [show Z.2.2.2.1 = nI b from congrArg Prod.fst hr]; exact nI_m1 (by omega)
        exact ⟨by rw [if_neg hz]; first | done | rfl, i9, rfl, fun x y0 y5 y6 => (hS9.2.1 x y0).trans (h1 x y0 y5 y6), (hS9.2.2 5 (by omega) (by omega) (by omega) (by omega)).trans h2, ⟨_, _, by rw [hr]; exact hS9.1, fun z => absurd z hz⟩, fun z => absurd z hz⟩
    refine r_iload_n hX dX5_readStops_14 rfl ?_
    refine rn_if_le (tgt := 31) hX dX5_readStops_15 (by decide) rfl (by omega) (fun c15 => ?_) (fun c15 => ?_)
    · exact rest (Or.inl (by omega))
    · refine r_aload_n hX dX5_readStops_18 rfl ?_
      refine r_aload_n hX dX5_readStops_19 rfl ?_
      refine rn_geti (v := nI b) hX dX5_readStops_20 fl_X5_39 rfl (LX5_s hp) hS1.1.1 ?_
      refine r_cV1 hX dX5_readStops_23 IX5_isDigit ml_X5_149 rfl (LX5_s hp) rfl (t_X5_isDigit (M := wI M i1) hp (hS1.pt hTi) (j := b) (by omega)) (by decide) (by decide) (by decide) (by decide) rfl (Nat.le_of_ble_eq_true rfl) ?_
      refine rb_if_ne (tgt := 31) hX dX5_readStops_26 (by decide) rfl (fun c26 => ?_) (fun c26 => ?_)
      · exact rest (Or.inr (by unfold dig; rw [hbl]; exact c26))
      · refine r_iconst (v := 1) hX dX5_readStops_29 (by decide) ?_
        refine r_ireturn hX rfl rfl dX5_readStops_30 (by decide) (by decide) ?_
        have hz := i62 (by omega) (fun z => c26 (by unfold dig at z; rw [hbl] at z; exact z))
        have hgz : Z.2.2.2.1 = -1 := by rw [← hz, hbl]; exact g3
        refine ⟨by rw [if_pos hgz], i1, rfl, fun x y0 y5 y6 => (hS1.2.1 x y0).trans (h1 x y0 y5 y6), (hS1.2.2 5 (by omega) (by omega) (by omega) (by omega)).trans h2, ⟨b, qs.2.1, by rw [← hz, hbl]; exact hS1.1, fun _ => by rw [← hz, hbl]⟩, fun _ => ⟨?_, c, by omega, by omega, ?_⟩⟩
        · rw [← hz]
          exact g4.kept (fun x x1 x2 k => congrFun (hS1.2.1 x (by omega)) k)
        · rw [← hz]
          exact g0
  · dsimp only at hi ih
    obtain ⟨h1, h2, h8, g2, g3, hqe, g4, g0, g5, g24, i61, i62⟩ := hi
    have hTi : PT (wI M i) p b_ N e u := ⟨hT.1, fun k hk => ⟨(hT.2.1 k hk).1, (congrFun (h1 b_ (by have := hT.1.2.2.2.2; omega) (by have := hT.1.2.2.2.2; omega) (by have := hT.1.2.2.2.2; omega)) k).trans (hT.2.1 k hk).2⟩, h2.trans hT.2.2⟩
    have hbe := eo_le (f := blB u) hqe
    generalize hbb : eo (blB u) e qs.1 = b at *
    have hbl : blQ u e qs = (b, b, qs.2.2) := by rw [bl_1 g3, hbb]
    show J G base X 0 0 (wI M i) 4 [some (.ref p), some (.int (nI lo - 1)), some (.int (nI c)), some (.int x3), some (.int x4)] []
    refine r_iload_n hX dX5_readStops_4 rfl ?_
    refine r_bipush (v := nI 6) hX dX5_readStops_5 (by decide) ?_
    refine rn_icmp_gt (tgt := 129) hX dX5_readStops_7 (by decide) rfl rfl (by omega) (by omega) (fun c7 => by omega) (fun c7 => ?_)
    refine r_aload_n hX dX5_readStops_10 rfl ?_
    refine r_iV0 hX dX5_readStops_11 IX5_skipBlanks ml_X5_146 rfl (LX5_s hp) rfl (t_X5_skipBlanks (M := wI M i) hp hTi g2 hqe he) (by decide) (by decide) (by decide) (by decide) rfl (Nat.le_of_ble_eq_true rfl) (fun i1 h1x => ?_)
    rw [hbb] at h1x
    show J G base X _ _ (wI M i1) _ _ _
    
    have hS1 : cS (wI M i) p (b, qs.2) i1 := h1x
    have rest : (c = 0 ∨ dig u e qs) → J G base X (0 + 0) (0 + 0) (wI M i1) 31 [some (.ref p), some (.int (nI lo - 1)), some (.int (nI c)), some (.int x3), some (.int x4)] [] := by
      intro hd
      refine r_iload_n hX dX5_readStops_31 rfl ?_
      refine r_bipush (v := nI 6) hX dX5_readStops_32 (by decide) ?_
      refine rn_icmp_ne (tgt := 47) hX dX5_readStops_34 (by decide) rfl rfl (by omega) (by omega) (fun c34 => ?_) (fun c34 => ?_)
      · have hc6 : c < 6 := by omega
        obtain ⟨hst1, hst2⟩ := (st_eq (lo := lo) g3 hqe hbb).1 hc6
        refine r_aload_n hX dX5_readStops_47 rfl ?_
        refine r_iload_n hX dX5_readStops_48 rfl ?_
        refine r_iconst (v := 1) hX dX5_readStops_49 (by decide) ?_
        refine r_iadd hX dX5_readStops_50 ?_
        rw [nI_m1p]
        refine r_bipush (v := nI 23) hX dX5_readStops_51 (by decide) ?_
        refine r_iV2 hX dX5_readStops_53 IX5_readNumber ml_X5_137 rfl (LX5_s hp) rfl (t_X5_readNumber (M := wI M i1) (q := (b, qs.2)) hp (hS1.pt hTi) g3 hS1.1 hbe he (lo := lo) (hi9 := 23) (by omega) (by omega)) (by decide) (by decide) (by decide) (by decide) rfl (Nat.le_of_ble_eq_true rfl) (fun i2 h2x => ?_)
        show J G base X _ _ (wI M i2) _ _ _
        have hS2 := hS1.tr h2x
        by_cases gB : (nuQ u e lo 23 (b, qs.2)).2.2.1 = -1
        · rw [if_pos gB]
          obtain ⟨-, nw1, nw2⟩ := nuW_hi (u := u) (lo := lo) (hi := 23) (q := (b, qs.2)) hbe he gB
          have hqB : (nuQ u e lo 23 (b, qs.2)).1 ≤ e := nuQ_le (q := (b, qs.2)) hbe
          have hqf : (nuQ u e lo 23 (b, qs.2)).2.2 = qs.2.2 := nuQ_f (q := (b, qs.2)) g3 hbe he gB
          have hBe := eo_le (f := blB u) hqB
          generalize hqq : nuQ u e lo 23 (b, qs.2) = qB at *
          generalize hhh : nuW u e lo 23 (b, qs.2) = h at *
          refine r_istore1 hX dX5_readStops_56 rfl ?_
          refine r_iload_n hX dX5_readStops_57 rfl ?_
          refine r_iconst (v := (-1)) hX dX5_readStops_58 (by decide) ?_
          refine r_icmp_ne (tgt := 64) hX dX5_readStops_59 (by decide) (fun c59 => ?_) (fun c59 => absurd c59 (nI_m1 (by omega)))
          generalize hBB : eo (blB u) e qB.1 = B at *
          generalize hWW : eo (lwB u) e B - B = W at *
          have hWe := eo_le (f := lwB u) hBe
          have hWg := eo_ge (f := lwB u) (e := e) (p := B)
          obtain ⟨kbad, kok⟩ := pmQ_c gB hqB he hBB hWW
          refine r_aload_n hX dX5_readStops_64 rfl ?_
          refine r_iV0 hX dX5_readStops_65 IX5_readName ml_X5_114 rfl (LX5_s hp) rfl (t_X5_readName (M := wI M i2) hp (hS2.pt hTi) hS2.1 hqB he) (by decide) (by decide) (by decide) (by decide) rfl (Nat.le_of_ble_eq_true rfl) (fun i3 h3 => ?_)
          rw [hBB] at h3
          show J G base X _ _ (wI M i3) _ _ _
          rw [hBB, hWW]
          have hS3 := hS2.tr h3
          rw [hqf] at hS3
          refine r_istore3 hX dX5_readStops_68 rfl ?_
          refine r_iload_n hX dX5_readStops_69 rfl ?_
          refine r_if_ne (tgt := 83) hX dX5_readStops_70 (by decide) (fun c70 => ?_) (fun c70 => ?_)
          · have hok : 1 ≤ W ∧ W ≤ 6 := Classical.byContradiction (fun z => c70 (by rw [(kbad z).1]; rfl))
            have hT3 : TT (mI (wI M i3)) (p + 1) (rcN n C V rd 7) := g4.kept (fun x x1 x2 k => congrFun (hS3.2.1 x (by omega)) k)
            have e0 : nv (rcN n C V rd 7) 0 = nv n 0 := nv_eq (rcN_o hC5 (Or.inl (by omega)) 7 (Nat.le_refl _))
            have hm0 : mI (wI M i3) (p + 1) 0 = nI (nv n 0) := hT3.1.trans ((rcN_o hC5 (Or.inl (by omega)) 7 (Nat.le_refl _)).trans h0.1)
            have hfst : fstF (fun j => decide (mI (wI M i3) (p + 1 + 1) j = nI (nm32 u B W))) (nv n 0) = rpI n u e qB := by
              have z := fst_nm (i := mI (wI M i3)) (b := p + 1) hT3 (u := u) (p := B) (k := W)
              rw [e0, if_pos ⟨hok.1, hok.2, (kok hok).2.1⟩] at z
              rw [z, ← (kok hok).1]
              exact fnN_eq (fun j hj => rcN_o hC5 (Or.inl (by omega)) 7 (Nat.le_refl _))
            refine r_aload_n hX dX5_readStops_83 rfl ?_
            refine r_getr hX dX5_readStops_84 fl_X5_12 rfl (LX5_s hp) (LX5_r0 hp) ?_
            refine r_iload_n hX dX5_readStops_87 rfl ?_
            refine r_cV1 hX dX5_readStops_88 IX9_placeOfName ml_X5_118 rfl (LX9_s (LX5_o0 hp)) rfl (t_X9_placeOfName (M := wI M i3) (LX5_o0 hp) hm0 (by omega)) (by decide) (by decide) (by decide) (by decide) rfl (Nat.le_of_ble_eq_true rfl) ?_
            rw [hfst]
            refine r_istore4 hX dX5_readStops_91 rfl ?_
            refine r_iload hX dX5_readStops_93 rfl ?_
            refine r_iconst (v := (-1)) hX dX5_readStops_95 (by decide) ?_
            refine r_icmp_ne (tgt := 109) hX dX5_readStops_96 (by decide) (fun c96 => ?_) (fun c96 => ?_)
            · obtain ⟨pl, hpl, epl⟩ := rp_in c96
              rw [epl]
              have hTC : mI (wI M i3) (p + 1) 2 = nI (C + 1) := by
                rw [← hCe]
                exact hT3.2.2.1.trans ((rcN_o hC5 (Or.inl (by omega)) 7 (Nat.le_refl _)).trans h1n.1)
              refine r_aload_n hX dX5_readStops_109 rfl ?_
              refine r_getr hX dX5_readStops_110 fl_X5_12 rfl (LX5_s hp) (LX5_r0 hp) ?_
              refine r_aload_n hX dX5_readStops_113 rfl ?_
              refine rn_geti (v := nI V) hX dX5_readStops_114 fl_X5_45 rfl (LX5_s hp) ((hS3.2.2 8 (by omega) (by omega) (by omega) (by omega)).trans h8) ?_
              refine r_iload_n hX dX5_readStops_117 rfl ?_
              refine r_iload hX dX5_readStops_118 rfl ?_
              refine r_iV3 hX dX5_readStops_120 IX9_addStop ml_X5_152 rfl (LX9_s (LX5_o0 hp)) rfl (t_X9_addStop (M := wI M i3) (LX5_o0 hp) (F := fun t q => gstN (rcN n C V rd 7) t q) (U := fun t q => anyB (gstN (rcN n C V rd 7) t q) 5) hTC hC5 (by omega) (by omega) hT3.2.2.2.2.2.1 hT3.2.2.2.2.2.2) (by decide) (by decide) (by decide) (by decide) rfl (Nat.le_of_ble_eq_true rfl) (fun i5 hA => ?_)
              show J G base X _ _ (wI M i5) _ _ _
              obtain ⟨hA1, hA2, hA3⟩ := hA
              refine rn_iinc2 hX dX5_readStops_123 rfl rfl ?_
              refine r_goto (tgt := 4) hX dX5_readStops_126 (by decide) ?_
              have hq7 : cQ i5 p (B + W, B, qs.2.2) := by
                have e2 : i5 p = i3 p := hA3 p (by omega) (by omega)
                unfold cQ
                rw [e2]
                have z := hS3.1
                rw [show eo (lwB u) e B = B + W by omega] at z
                exact z
              have hTn : TT i5 (p + 1) (rcN n C V (rdS rd c h pl) 7) := TT.stop (hT3) h6 hb0 hb1 (by omega) (by omega) g0 (by omega) (fun k hk => by
                obtain ⟨g, g1, g2⟩ := g5 k hk
                exact ⟨g, g1, by omega⟩) (by omega) (by omega) hA1 hA2 (fun z z4 z5 => hA3 z z4 z5)
              have hz7 : stZ n u e ((6 - c) + 1) lo c rd (blQ u e qs) = Z := by rw [show (6 - c) + 1 = 7 - c by omega]; exact i61 hd
              have hC9 : stC n u e lo c (blQ u e qs) = (B + W, B, qs.2.2) := by
                show rpQ n u e (stB u e lo c (blQ u e qs)) = _
                rw [hst1, rpQ_is, decide_eq_true c96, (kok hok).2.2.2.1 3, hqf]
              have hD9 : stD n u e lo c rd (blQ u e qs) = rdS rd c h pl := by
                unfold stD stP
                rw [hst1, hst2, epl]
              have hgC : (stC n u e lo c (blQ u e qs)).2.2.1 = -1 := by rw [hC9]; exact g3
              have z := ih (by omega) (i5, rdS rd c h pl, h + 1, (B + W, B, qs.2.2), some (nI (nm32 u B W), nI pl)) ⟨fun x y0 y5 y6 => (hA3 x y5 y6).trans ((hS3.2.1 x y0).trans (h1 x y0 y5 y6)), ?_, ?_, hq7, g3, by show B + W ≤ e; omega, hTn, ?_, fun k hk => ?_, by show h + 1 ≤ 24; omega, fun hd2 => ?_, fun _ hd2 => ?_⟩
              · rw [nI_p1m] at z
                exact z
              · show i5 p 5 = _
                rw [show i5 p = i3 p from hA3 p (by omega) (by omega)]
                exact (hS3.2.2 5 (by omega) (by omega) (by omega) (by omega)).trans h2
              · show i5 p 8 = _
                rw [show i5 p = i3 p from hA3 p (by omega) (by omega)]
                exact (hS3.2.2 8 (by omega) (by omega) (by omega) (by omega)).trans h8
              · show rdS rd c h pl 0 = _
                exact upd_s
              · rcases (show k < c ∨ k = c by omega) with y | rfl
                · obtain ⟨g, g1, g2⟩ := g5 k y
                  exact ⟨g, by show rdS rd c h pl (1 + 2 * k) = _; simp only [rdS]; rw [upd_o (by omega), upd_o (by omega), upd_o (by omega)]; exact g1, by show g < h + 1; omega⟩
                · exact ⟨h, by show rdS rd k h pl (1 + 2 * k) = _; simp only [rdS]; rw [upd_o (by omega), upd_o (by omega), upd_s], by show h < h + 1; omega⟩
              · have hd3 := hd2.resolve_left (by omega)
                rw [stZ_more hgC (by rw [hC9]; exact hd3), hst2, hD9, hC9] at hz7
                show stZ n u e (7 - (c + 1)) (h + 1) (c + 1) _ _ = Z
                rw [show 7 - (c + 1) = 6 - c by omega]
                exact hz7
              · rw [stZ_end hgC (by rw [hC9]; exact hd2), hD9, hC9] at hz7
                exact hz7
            · refine r_aload_n hX dX5_readStops_99 rfl ?_
              refine r_iconst (v := nI 3) hX dX5_readStops_100 (by decide) ?_
              refine r_aload_n hX dX5_readStops_101 rfl ?_
              refine rn_geti (v := nI B) hX dX5_readStops_102 fl_X5_42 rfl (LX5_s hp) hS3.1.2.1 ?_
              refine r_iV2 hX dX5_readStops_105 IX5_fail ml_X5_91 rfl (LX5_s hp) rfl (t_X5_fail (M := wI M i3) hp hS3.1 (k := 3) (f := B)) (by decide) (by decide) (by decide) (by decide) rfl (Nat.le_of_ble_eq_true rfl) (fun i9 h9 => ?_)
              show J G base X _ _ (wI M i9) _ _ _
              have hS9 := hS3.tr h9
              refine r_ireturn hX rfl rfl dX5_readStops_108 (by decide) (by decide) ?_
              have hr : Z.2.2.2 = (nI B, nI 3) := by
                have hz7 : stZ n u e ((6 - c) + 1) lo c rd (blQ u e qs) = Z := by rw [show (6 - c) + 1 = 7 - c by omega]; exact i61 hd
                have hC9 : (stC n u e lo c (blQ u e qs)).2.2 = (nI B, nI 3) := by
                  show (rpQ n u e (stB u e lo c (blQ u e qs))).2.2 = _
                  rw [hst1, rpQ_is, decide_eq_false (fun z => z c96)]
                  exact (kok hok).2.2.2.2 3
                rw [stZ_bad (by rw [show (stC n u e lo c (blQ u e qs)).2.2.1 = nI B from congrArg Prod.fst hC9]; exact nI_m1 (by omega))] at hz7
                rw [← hz7]
                exact hC9
              have hz : ¬ Z.2.2.2.1 = -1 := by rw [show Z.2.2.2.1 = nI B from congrArg Prod.fst hr]; exact nI_m1 (by omega)
              exact ⟨by rw [if_neg hz]; first | done | rfl, i9, rfl, fun x y0 y5 y6 => (hS9.2.1 x y0).trans (h1 x y0 y5 y6), (hS9.2.2 5 (by omega) (by omega) (by omega) (by omega)).trans h2, ⟨_, _, by rw [hr]; exact hS9.1, fun z => absurd z hz⟩, fun z => absurd z hz⟩
          · refine r_aload_n hX dX5_readStops_73 rfl ?_
            refine r_iconst (v := nI 1) hX dX5_readStops_74 (by decide) ?_
            refine r_aload_n hX dX5_readStops_75 rfl ?_
            refine rn_geti (v := nI B) hX dX5_readStops_76 fl_X5_42 rfl (LX5_s hp) hS3.1.2.1 ?_
            refine r_iV2 hX dX5_readStops_79 IX5_fail ml_X5_91 rfl (LX5_s hp) rfl (t_X5_fail (M := wI M i3) hp hS3.1 (k := 1) (f := B)) (by decide) (by decide) (by decide) (by decide) rfl (Nat.le_of_ble_eq_true rfl) (fun i9 h9 => ?_)
            show J G base X _ _ (wI M i9) _ _ _
            have hS9 := hS3.tr h9
            refine r_ireturn hX rfl rfl dX5_readStops_82 (by decide) (by decide) ?_
            have hr : Z.2.2.2 = (nI B, nI 1) := by
              have hz7 : stZ n u e ((6 - c) + 1) lo c rd (blQ u e qs) = Z := by rw [show (6 - c) + 1 = 7 - c by omega]; exact i61 hd
              have hC9 : (stC n u e lo c (blQ u e qs)).2.2 = (nI B, nI 1) := by
                show (rpQ n u e (stB u e lo c (blQ u e qs))).2.2 = _
                rw [hst1, rpQ_is]
                exact (kbad (fun z => (kok z).2.2.1 c70)).2 _ 3
              rw [stZ_bad (by rw [show (stC n u e lo c (blQ u e qs)).2.2.1 = nI B from congrArg Prod.fst hC9]; exact nI_m1 (by omega))] at hz7
              rw [← hz7]
              exact hC9
            have hz : ¬ Z.2.2.2.1 = -1 := by rw [show Z.2.2.2.1 = nI B from congrArg Prod.fst hr]; exact nI_m1 (by omega)
            exact ⟨by rw [if_neg hz]; first | done | rfl, i9, rfl, fun x y0 y5 y6 => (hS9.2.1 x y0).trans (h1 x y0 y5 y6), (hS9.2.2 5 (by omega) (by omega) (by omega) (by omega)).trans h2, ⟨_, _, by rw [hr]; exact hS9.1, fun z => absurd z hz⟩, fun z => absurd z hz⟩
        · rw [if_neg gB]
          have hz7 : stZ n u e ((6 - c) + 1) lo c rd (blQ u e qs) = Z := by rw [show (6 - c) + 1 = 7 - c by omega]; exact i61 hd
          have hC9 : stC n u e lo c (blQ u e qs) = nuQ u e lo 23 (b, qs.2) := by
            show rpQ n u e (stB u e lo c (blQ u e qs)) = _
            rw [hst1, fl_rp gB]
          rw [stZ_bad (by rw [hC9]; exact gB), hC9] at hz7
          have hr : Z.2.2.2 = (nuQ u e lo 23 (b, qs.2)).2.2 := by rw [← hz7]
          have hz : ¬ Z.2.2.2.1 = -1 := by rw [hr]; exact gB
          refine r_istore1 hX dX5_readStops_56 rfl ?_
          refine r_iload_n hX dX5_readStops_57 rfl ?_
          refine r_iconst (v := (-1)) hX dX5_readStops_58 (by decide) ?_
          refine r_icmp_ne (tgt := 64) hX dX5_readStops_59 (by decide) (fun c59 => absurd rfl c59) (fun c59 => ?_)
          refine r_iconst (v := 0) hX dX5_readStops_62 (by decide) ?_
          refine r_ireturn hX rfl rfl dX5_readStops_63 (by decide) (by decide) ?_
          exact ⟨by rw [if_neg hz], i2, rfl, fun x y0 y5 y6 => (hS2.2.1 x y0).trans (h1 x y0 y5 y6), (hS2.2.2 5 (by omega) (by omega) (by omega) (by omega)).trans h2, ⟨_, _, by rw [hr]; exact hS2.1, fun z => absurd z hz⟩, fun z => absurd z hz⟩
      · refine r_aload_n hX dX5_readStops_37 rfl ?_
        refine r_iconst (v := nI 4) hX dX5_readStops_38 (by decide) ?_
        refine r_aload_n hX dX5_readStops_39 rfl ?_
        refine rn_geti (v := nI b) hX dX5_readStops_40 fl_X5_39 rfl (LX5_s hp) hS1.1.1 ?_
        refine r_iV2 hX dX5_readStops_43 IX5_fail ml_X5_91 rfl (LX5_s hp) rfl (t_X5_fail (M := wI M i1) hp hS1.1 (k := 4) (f := b)) (by decide) (by decide) (by decide) (by decide) rfl (Nat.le_of_ble_eq_true rfl) (fun i9 h9 => ?_)
        show J G base X _ _ (wI M i9) _ _ _
        have hS9 := hS1.tr h9
        refine r_ireturn hX rfl rfl dX5_readStops_46 (by decide) (by decide) ?_
        have hr : Z.2.2.2 = (nI b, nI 4) := by
          obtain rfl : c = 6 := by omega
          obtain ⟨z1, z2⟩ := (st_eq (lo := lo) g3 hqe hbb).2 rfl (hd.resolve_left (by omega)) (by omega) n
          have hz7 : stZ n u e (0 + 1) lo 6 rd (blQ u e qs) = Z := i61 hd
          rw [stZ_bad z2] at hz7
          rw [← hz7]
          exact z1
        have hz : ¬ Z.2.2.2.1 = -1 := by rw [show Z.2.2.2.1 = nI b from congrArg Prod.fst hr]; exact nI_m1 (by omega)
        exact ⟨by rw [if_neg hz]; first | done | rfl, i9, rfl, fun x y0 y5 y6 => (hS9.2.1 x y0).trans (h1 x y0 y5 y6), (hS9.2.2 5 (by omega) (by omega) (by omega) (by omega)).trans h2, ⟨_, _, by rw [hr]; exact hS9.1, fun z => absurd z hz⟩, fun z => absurd z hz⟩
    refine r_iload_n hX dX5_readStops_14 rfl ?_
    refine rn_if_le (tgt := 31) hX dX5_readStops_15 (by decide) rfl (by omega) (fun c15 => ?_) (fun c15 => ?_)
    · exact rest (Or.inl (by omega))
    · refine r_aload_n hX dX5_readStops_18 rfl ?_
      refine r_aload_n hX dX5_readStops_19 rfl ?_
      refine rn_geti (v := nI b) hX dX5_readStops_20 fl_X5_39 rfl (LX5_s hp) hS1.1.1 ?_
      refine r_cV1 hX dX5_readStops_23 IX5_isDigit ml_X5_149 rfl (LX5_s hp) rfl (t_X5_isDigit (M := wI M i1) hp (hS1.pt hTi) (j := b) (by omega)) (by decide) (by decide) (by decide) (by decide) rfl (Nat.le_of_ble_eq_true rfl) ?_
      refine rb_if_ne (tgt := 31) hX dX5_readStops_26 (by decide) rfl (fun c26 => ?_) (fun c26 => ?_)
      · exact rest (Or.inr (by unfold dig; rw [hbl]; exact c26))
      · refine r_iconst (v := 1) hX dX5_readStops_29 (by decide) ?_
        refine r_ireturn hX rfl rfl dX5_readStops_30 (by decide) (by decide) ?_
        have hz := i62 (by omega) (fun z => c26 (by unfold dig at z; rw [hbl] at z; exact z))
        have hgz : Z.2.2.2.1 = -1 := by rw [← hz, hbl]; exact g3
        refine ⟨by rw [if_pos hgz], i1, rfl, fun x y0 y5 y6 => (hS1.2.1 x y0).trans (h1 x y0 y5 y6), (hS1.2.2 5 (by omega) (by omega) (by omega) (by omega)).trans h2, ⟨b, qs.2.1, by rw [← hz, hbl]; exact hS1.1, fun _ => by rw [← hz, hbl]⟩, fun _ => ⟨?_, c, by omega, by omega, ?_⟩⟩
        · rw [← hz]
          exact g4.kept (fun x x1 x2 k => congrFun (hS1.2.1 x (by omega)) k)
        · rw [← hz]
          exact g0
