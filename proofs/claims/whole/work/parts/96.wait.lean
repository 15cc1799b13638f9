variable {G : GG} {base : Nat}
/-- fewer hours looked at -/
theorem ar_less {n : Nat → Int32} {h q : Nat} {C O : Nat → Bool} {k : Nat} (hk : k ≤ 240) (hh : h + 240 < 2147483648) (hO : O q = false) : arN n h C O k q = -1 ∨ (arN n h C O k q = arN n h C O 240 q ∧ ∃ j, j < k ∧ arN n h C O 240 q = nI (h + j)) := by
  rcases arN_spec (n := n) (h := h) (C := C) (O := O) (p := q) k (by omega) with ⟨z, -⟩ | ⟨j, hj, z, -, -⟩
  · exact Or.inl z
  · have e : arN n h C O 240 q = arN n h C O k q := arN_stay hk (by rw [z]; exact nI_ne_m1 (by omega))
    exact Or.inr ⟨e.symm, j, hj, by rw [e, z]⟩
theorem ar_more {n : Nat → Int32} {h q : Nat} {C O : Nat → Bool} {k : Nat} (hk : k ≤ 240) (hh : h + 240 < 2147483648) (hO : O q = false) (hz : arN n h C O k q = -1) : arN n h C O 240 q = -1 ∨ ∃ j, k ≤ j ∧ j < 240 ∧ arN n h C O 240 q = nI (h + j) := by
  rcases arN_spec (n := n) (h := h) (C := C) (O := O) (p := q) 240 (by omega) with ⟨z, -⟩ | ⟨j, hj, z, y, -⟩
  · exact Or.inl z
  · refine Or.inr ⟨j, ?_, hj, z⟩
    by_cases e : k ≤ j
    · exact e
    · exact absurd hz (arN_is (by omega) hO (spN_mono (by omega) y))
/-- the limit in which a better journey must lie -/
def limN (x : Int32 × Int32) (d : Nat) : Prop := d ≤ 240 ∧ ((x.1 = -1 ∧ d = 240) ∨ (¬ x.1 = -1 ∧ x.2 = nI d))
theorem bw_step {n : Nat → Int32} {p q w d : Nat} (hne : ¬ p = q) (hw : w < 168) (hh : nv n 6 < 1000000) (hl : limN (bwF n p q w) d) :
    (arN n (nv n 6 + w) (fun _ => false) (fun x => decide (x = p)) d q = -1 → bwF n p q (w + 1) = bwF n p q w) ∧
    (¬ arN n (nv n 6 + w) (fun _ => false) (fun x => decide (x = p)) d q = -1 → ∃ j, j < d ∧ arN n (nv n 6 + w) (fun _ => false) (fun x => decide (x = p)) d q = nI (nv n 6 + w + j) ∧ bwF n p q (w + 1) = (nI w, nI j)) := by
  have hO : (fun x => decide (x = p)) q = false := decide_eq_false (fun e => hne e.symm)
  obtain ⟨hd, hl2⟩ := hl
  have e0 : bwF n p q (w + 1) = if ¬ bwA n p q w = -1 ∧ ((bwF n p q w).1 = -1 ∨ bwA n p q w - nI (nv n 6 + w) < (bwF n p q w).2) then (nI w, bwA n p q w - nI (nv n 6 + w)) else bwF n p q w := rfl
  have eb : bwA n p q w = arN n (nv n 6 + w) (fun _ => false) (fun x => decide (x = p)) 240 q := rfl
  have sub : ∀ j, j < 240 → nI (nv n 6 + w + j) - nI (nv n 6 + w) = nI j := fun j hj => by
    rw [pk_sub (by omega)]
    exact congrArg nI (by omega)
  constructor
  · intro hz
    rw [e0, if_neg]
    rintro ⟨y1, y2⟩
    rcases ar_more (O := fun x => decide (x = p)) hd (by omega) hO hz with z | ⟨j, hj, hj2, z⟩
    · exact y1 (eb.trans z)
    · rw [eb, z, sub j hj2] at y2
      rcases hl2 with ⟨-, e⟩ | ⟨e1, e2⟩
      · omega
      · rcases y2 with y2 | y2
        · exact e1 y2
        · rw [e2, nI_ltI (by omega) (by omega)] at y2
          omega
  · intro hz
    rcases ar_less (n := n) (C := fun _ => false) (O := fun x => decide (x = p)) hd (by omega : nv n 6 + w + 240 < 2147483648) hO with z | ⟨z, j, hj, z2⟩
    · exact absurd z hz
    · refine ⟨j, hj, z.trans z2, ?_⟩
      rw [e0, if_pos]
      · rw [eb, z2, sub j (by omega)]
      · rw [eb, z2, sub j (by omega)]
        refine ⟨nI_ne_m1 (by omega), ?_⟩
        rcases hl2 with ⟨e, -⟩ | ⟨-, e2⟩
        · exact Or.inl e
        · refine Or.inr ?_
          rw [e2, nI_ltI (by omega) (by omega)]
          exact hj
set_option maxHeartbeats 2000000 in
set_option maxRecDepth 20000 in
theorem t_c_punctuality {M : Mm} {a : Nat} {σ : Sg} {T : Nat} (hL : LX10 M.1 M.2.1 a) (hC : CI (mI M) a σ) (hO : OkN T σ.1) (hT9 : T < 890000) : Ct G base YX10_punctuality 20 1 6 [.ref a] M (fun o N => o = .inl (some (.double (rs_punc σ))) ∧ N = M) := by
  obtain ⟨hT, hS, hLt, h4, h5, h6, hLo, hSt, hNa⟩ := hO
  have h0 := hT.1
  have h1 := hT.2.1
  have hr := hT.2.2
  have h2 := hLt.1
  have h3 := hLt.2.1
  have hb0 := h0.2
  have hb1 := h1.2
  have hb2 := h2.2
  have hb3 := h3.2
  have hb4 := h4.2
  have ht6 : σ.1 6 = nI (nv σ.1 6) := h6.1
  have hh6 : nv σ.1 6 ≤ T := h6.2
  have hTT : TT (mI M) (a + 28) σ.1 := hC.2.2.2.1
  have hRS : RS (mI M) (a + 34) σ.1 := hC.2.2.2.2.1
  have hHR : HR (mI M) (a + 52) σ.2.1 σ.2.2.1 := hC.2.2.2.2.2.1
  have hpc : mI M (a + 28) 0 = nI (nv σ.1 0) := hTT.1.trans h0.1
  have hcc : mI M (a + 28) 2 = nI (nv σ.1 1) := hTT.2.2.1.trans h1.1
  have hlc : mI M (a + 34 + 2) 0 = nI (nv σ.1 2) := hRS.2.2.1.1.trans h2.1
  have hkc : mI M (a + 34 + 15) 0 = nI (nv σ.1 3) := hRS.2.2.2.2.1.trans h3.1
  have hrc : mI M (a + 34 + 13) 0 = nI (nv σ.1 4) := hRS.2.2.2.1.1.trans h4.1
  have htm : mI M (a + 34) 0 = nI (nv σ.1 6) := hRS.1.1.trans ht6
  refine Ct.of IX10_punctuality.1 (by simp [Value.category]) (Nat.le_of_ble_eq_true rfl) (fun X hX hN => ?_)
  show J G base X 0 0 M 0 [some (.ref a), none, none, none] []
  refine r_iconst (v := nI 0) hX dX10_punctuality_0 (by decide) ?_
  refine r_istore1 hX dX10_punctuality_1 rfl ?_
  refine r_iconst (v := nI 0) hX dX10_punctuality_2 (by decide) ?_
  refine r_istore2 hX dX10_punctuality_3 rfl ?_
  refine r_iconst (v := nI 0) hX dX10_punctuality_4 (by decide) ?_
  refine r_istore3 hX dX10_punctuality_5 rfl ?_
  show J G base X 0 0 M 6 [some (.ref a), some (.int (nI (cntB (pcA σ.1) 0))), some (.int (nI (cntB (pcG σ.1) 0))), some (.int (nI 0))] []
  refine loop_up (P := fun j => J G base X 0 0 M 6 [some (.ref a), some (.int (nI (cntB (pcA σ.1) j))), some (.int (nI (cntB (pcG σ.1) j))), some (.int (nI j))] []) (nv σ.1 2) (fun j hj ih => ?_) 0 (Nat.zero_le _)
  have hl1 := cntB_le (pcA σ.1) j
  have hl2 := pcG_le σ.1 j
  refine r_iload_n hX dX10_punctuality_6 rfl ?_
  refine r_aload_n hX dX10_punctuality_7 rfl ?_
  refine r_getr hX dX10_punctuality_8 fl_X10_40 rfl (LX10_s hL) (LX10_r6 hL) ?_
  refine r_getr hX dX10_punctuality_11 fl_X10_107 rfl (LX8_s (LX10_o6 hL)) (LX8_r5 (LX10_o6 hL)) ?_
  refine rn_geti (v := nI (nv σ.1 2)) hX dX10_punctuality_14 fl_X10_111 rfl (LX2_s (LX8_o5 (LX10_o6 hL))) hlc ?_
  refine rn_icmp_ge (tgt := 69) hX dX10_punctuality_17 (by decide) rfl rfl (by omega) (by omega) (fun c17 => ?_) (fun c17 => ?_)
  · refine r_iload_n hX dX10_punctuality_69 rfl ?_
    refine rn_if_ne (tgt := 77) hX dX10_punctuality_70 (by decide) rfl (by omega) (fun c70 => ?_) (fun c70 => ?_)
    · refine r_iload_n hX dX10_punctuality_77 rfl ?_
      refine r_i2d hX dX10_punctuality_78 ?_
      refine r_iload_n hX dX10_punctuality_79 rfl ?_
      refine r_i2d hX dX10_punctuality_80 ?_
      refine r_ddiv hX dX10_punctuality_81 (dv_ok _ (by omega) _ (by omega) c70) ?_
      refine r_dreturn hX rfl dX10_punctuality_82 (by decide) (by decide) ?_
      obtain rfl : j = nv σ.1 2 := by omega
      refine ⟨?_, rfl⟩
      unfold rs_punc pcD
      first
        | rw [if_pos c70]
        | rw [if_neg c70]
    · refine r_dconst0 hX dX10_punctuality_73 ?_
      refine r_goto (tgt := 82) hX dX10_punctuality_74 (by decide) ?_
      refine r_dreturn hX rfl dX10_punctuality_82 (by decide) (by decide) ?_
      obtain rfl : j = nv σ.1 2 := by omega
      refine ⟨?_, rfl⟩
      unfold rs_punc pcD
      first
        | rw [if_pos c70]
        | rw [if_neg c70]
  · refine r_aload_n hX dX10_punctuality_20 rfl ?_
    refine r_getr hX dX10_punctuality_21 fl_X10_40 rfl (LX10_s hL) (LX10_r6 hL) ?_
    refine r_getr hX dX10_punctuality_24 fl_X10_107 rfl (LX8_s (LX10_o6 hL)) (LX8_r5 (LX10_o6 hL)) ?_
    refine r_getr hX dX10_punctuality_27 fl_X10_219 rfl (LX2_s (LX8_o5 (LX10_o6 hL))) (LX2_r4 (LX8_o5 (LX10_o6 hL))) ?_
    refine r_iload_n hX dX10_punctuality_30 rfl ?_
    refine rn_iald hX dX10_punctuality_31 (LX2_a4 (LX8_o5 (LX10_o6 hL))) rfl (by omega) (by omega) ?_
    rw [show mI M (a + 34 + 2 + 4) j = σ.1 (498 + 10 * j + 3) from hRS.2.2.1.2.2 j c17 3 (by omega)]
    refine r_iconst (v := 2) hX dX10_punctuality_32 (by decide) ?_
    refine r_icmp_ne (tgt := 63) hX dX10_punctuality_33 (by decide) (fun c33 => ?_) (fun c33 => ?_)
    · refine rn_iinc3 hX dX10_punctuality_63 rfl rfl ?_
      refine r_goto (tgt := 6) hX dX10_punctuality_66 (by decide) ?_
      have z := ih (by omega)
      rw [cnt_no (f := pcA σ.1) (fun z => c33 (of_decide_eq_true z)), cnt_no (f := pcG σ.1) (fun z => c33 (by unfold pcG at z; rw [Bool.and_eq_true] at z; exact of_decide_eq_true z.1))] at z
      exact z
    · refine rn_iinc1 hX dX10_punctuality_36 rfl rfl ?_
      refine r_aload_n hX dX10_punctuality_39 rfl ?_
      refine r_getr hX dX10_punctuality_40 fl_X10_40 rfl (LX10_s hL) (LX10_r6 hL) ?_
      refine r_getr hX dX10_punctuality_43 fl_X10_107 rfl (LX8_s (LX10_o6 hL)) (LX8_r5 (LX10_o6 hL)) ?_
      refine r_iload_n hX dX10_punctuality_46 rfl ?_
      refine r_aload_n hX dX10_punctuality_47 rfl ?_
      refine r_getr hX dX10_punctuality_48 fl_X10_40 rfl (LX10_s hL) (LX10_r6 hL) ?_
      refine rn_geti (v := σ.1 6) hX dX10_punctuality_51 fl_X10_160 rfl (LX8_s (LX10_o6 hL)) hRS.1.1 ?_
      refine r_cV2 hX dX10_punctuality_54 IX2_lateAt ml_X10_233 rfl (LX2_s (LX8_o5 (LX10_o6 hL))) rfl (t_X2_lateAt (LX8_o5 (LX10_o6 hL)) hlc hb2 c17) (by decide) (by decide) (by decide) (by decide) rfl (Nat.le_of_ble_eq_true rfl) ?_
      rw [hRS.2.2.1.2.2 j c17 3 (by omega), hRS.2.2.1.2.2 j c17 7 (by omega), hRS.2.2.1.2.2 j c17 6 (by omega), itec (show _ ↔ lateB σ.1 j = true from decide_eq_true_iff.symm)]
      refine rb_if_ne (tgt := 63) hX dX10_punctuality_57 (by decide) rfl (fun c57 => ?_) (fun c57 => ?_)
      · refine rn_iinc3 hX dX10_punctuality_63 rfl rfl ?_
        refine r_goto (tgt := 6) hX dX10_punctuality_66 (by decide) ?_
        have z := ih (by omega)
        rw [cnt_yes (f := pcA σ.1) (decide_eq_true c33), cnt_no (f := pcG σ.1) (fun z => by unfold pcG at z; rw [show lateB σ.1 j = true from c57] at z; simp at z)] at z
        exact z
      · refine rn_iinc2 hX dX10_punctuality_60 rfl rfl ?_
        refine rn_iinc3 hX dX10_punctuality_63 rfl rfl ?_
        refine r_goto (tgt := 6) hX dX10_punctuality_66 (by decide) ?_
        have z := ih (by omega)
        rw [cnt_yes (f := pcA σ.1) (decide_eq_true c33), cnt_yes (f := pcG σ.1) (by unfold pcG; rw [decide_eq_true c33, show lateB σ.1 j = false from by simpa using c57]; rfl)] at z
        exact z

