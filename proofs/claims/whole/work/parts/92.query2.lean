variable {G : GG} {base : Nat}
theorem RS.ring {i : Nat → Nat → Int32} {a : Nat} {n : Nat → Int32} (h : RS i a n) : ∃ x, x < 60 ∧ i (a + 13) 1 = nI x ∧ ∀ g, g < nv n 4 → ∀ w, w < 5 → i (a + 13 + 1) (rp x g * 5 + w) = n (858 + 5 * g + w) := h.2.2.2.1.2.2
/-- before the hour h there are b stops -/
def befN (n : Nat → Int32) (c w h b : Nat) : Prop := b ≤ nv n (rtA c w) ∧ ∀ j, j < nv n (rtA c w) → (j < b ↔ nv n (rtA c w + 1 + 2 * j) < h)
theorem stop_hit {n : Nat → Int32} (hr : RtOk n) (hI : RtIn n) {c w : Nat} (hc : c < 5) (hw : w < 7) {h b : Nat} (hh : h < 24) (hb : befN n c w h b) : (stopN n c (w * 24 + h) = -1 ∧ befN n c w (h + 1) b) ∨ (b < nv n (rtA c w) ∧ n (rtA c w + 1 + 2 * b) = nI h ∧ stopN n c (w * 24 + h) = n (rtA c w + 2 + 2 * b) ∧ ¬ stopN n c (w * 24 + h) = -1 ∧ befN n c w (h + 1) (b + 1)) := by
  have e1 : (w * 24 + h) / 24 % 7 = w := by omega
  have e2 : (w * 24 + h) % 24 = h := by omega
  obtain ⟨hm6, hent⟩ := hr c hc w hw
  have h6 := hm6.2
  unfold stopN
  rw [e1, e2]
  -- the hour of an entry as a number
  have hv : ∀ j, j < nv n (rtA c w) → ∃ x q, x < 24 ∧ q < 10 ∧ n (rtA c w + 1 + 2 * j) = nI x ∧ n (rtA c w + 2 + 2 * j) = nI q ∧ nv n (rtA c w + 1 + 2 * j) = x := fun j hj => by
    obtain ⟨x, q, a1, a2, a3, a4, a5⟩ := hent j hj
    exact ⟨x, q, a1, a3, a4, a5, nv_of a4 (by omega)⟩
  by_cases hx : b < nv n (rtA c w) ∧ nv n (rtA c w + 1 + 2 * b) = h
  · obtain ⟨x, q, x1, x2, x3, x4, x5⟩ := hv b hx.1
    have hxh : x = h := x5.symm.trans hx.2
    subst hxh
    have hno : ∀ k, k ≤ b → stF n (rtA c w) (nI x) k = -1 := by
      intro k
      induction k with
      | zero => intro _; rfl
      | succ k ih =>
        intro hk
        simp only [stF]
        rw [if_pos (ih (by omega))]
        obtain ⟨y, q', y1, y2, y3, y4, y5⟩ := hv k (by omega)
        have hlt : y < x := by
          rw [← y5, ← hx.2]
          exact hI c hc w hw k b (by omega) hx.1
        rw [y3, if_neg (fun z => by have := (nI_eq (by omega) (by omega)).mp z; omega)]
    have hyes : stF n (rtA c w) (nI x) (b + 1) = nI q := by
      simp only [stF]
      rw [if_pos (hno b (Nat.le_refl _)), if_pos x3, x4]
    have hfin : stF n (rtA c w) (nI x) (nv n (rtA c w)) = nI q := by
      rw [stF_stay (k := b + 1) (by rw [hyes]; exact nI_ne_m1 (by omega)) (by omega)]
      exact hyes
    refine Or.inr ⟨hx.1, x3, by rw [hfin, x4], by rw [hfin]; exact nI_ne_m1 (by omega), by have := hx.1; omega, fun j hj => ?_⟩
    have hjb := hb.2 j hj
    constructor
    · intro z
      by_cases e : j = b
      · rw [e, hx.2]; omega
      · have := hjb.mp (by omega)
        omega
    · intro z
      by_cases e : j ≤ b
      · omega
      · have := hI c hc w hw b j (by omega) hj
        omega
  · refine Or.inl ⟨?_, hb.1, fun j hj => ?_⟩
    · have hne : ∀ j, j < nv n (rtA c w) → ¬ nv n (rtA c w + 1 + 2 * j) = h := fun j hj e => by
        have hnb : ¬ j < b := fun z => by have := (hb.2 j hj).mp z; omega
        by_cases ej : j = b
        · rw [ej] at e hj
          exact hx ⟨hj, e⟩
        · have hbl : b < nv n (rtA c w) := by omega
          have h2 := hI c hc w hw b j (by omega) hj
          have h3 : ¬ nv n (rtA c w + 1 + 2 * b) < h := fun z => by have := (hb.2 b hbl).mpr z; omega
          omega
      have hall : ∀ k, k ≤ nv n (rtA c w) → stF n (rtA c w) (nI h) k = -1 := by
        intro k
        induction k with
        | zero => intro _; rfl
        | succ k ih =>
          intro hk
          simp only [stF]
          rw [if_pos (ih (by omega))]
          obtain ⟨y, q', y1, y2, y3, y4, y5⟩ := hv k (by omega)
          rw [y3, if_neg (fun z => hne k (by omega) (by rw [y5]; exact (nI_eq (by omega) (by omega)).mp z))]
      exact hall _ (Nat.le_refl _)
    · rw [hb.2 j hj]
      have hne : ¬ nv n (rtA c w + 1 + 2 * j) = h := fun e => by
        have hnb : ¬ j < b := fun z => by have := (hb.2 j hj).mp z; omega
        by_cases ej : j = b
        · rw [ej] at e hj
          exact hx ⟨hj, e⟩
        · have hbl : b < nv n (rtA c w) := by omega
          have h2 := hI c hc w hw b j (by omega) hj
          have h3 : ¬ nv n (rtA c w + 1 + 2 * b) < h := fun z => by have := (hb.2 b hbl).mpr z; omega
          omega
      omega
set_option maxHeartbeats 2000000 in
set_option maxRecDepth 20000 in
theorem t_X6_part0 {M : Mm} {a w : Nat} (hL : LX6 M.1 M.2.1 a) {k : Nat} (hk : mI M a 0 = nI k) (hk60 : k ≤ 60) {x : Int32} (hx : ¬ ∃ g, g < k ∧ x = nI g) (hw : w < 5) : Ct G base YX6_part 2 0 0 [.ref a, .int x, .int (nI w)] M (rE (some (.int (-1))) M) := by
  refine Ct.of IX6_part.1 (by simp [Value.category]) (Nat.le_of_ble_eq_true rfl) (fun X hX hN => ?_)
  show J G base X 0 0 M 0 [some (.ref a), some (.int x), some (.int (nI w))] []
  refine r_iload_n hX dX6_part_0 rfl ?_
  refine r_if_lt (tgt := 21) hX dX6_part_1 (by decide) (fun c1 => ?_) (fun c1 => ?_)
  · refine r_iconst (v := (-1)) hX dX6_part_21 (by decide) ?_
    refine r_ireturn hX rfl rfl dX6_part_22 (by decide) (by decide) ?_
    exact ⟨rfl, rfl⟩
  · refine r_iload_n hX dX6_part_4 rfl ?_
    refine r_aload_n hX dX6_part_5 rfl ?_
    refine rn_geti (v := nI k) hX dX6_part_6 fl_X6_9 rfl (LX6_s hL) hk ?_
    refine r_icmp_ge (tgt := 21) hX dX6_part_9 (by decide) (fun c9 => ?_) (fun c9 => by obtain ⟨c, hc, e⟩ := nI_of (x := x) c1; subst e; rw [nI_leI (by omega) hc] at c9; exact absurd ⟨c, by omega, rfl⟩ hx)
    refine r_iconst (v := (-1)) hX dX6_part_21 (by decide) ?_
    refine r_ireturn hX rfl rfl dX6_part_22 (by decide) (by decide) ?_
    exact ⟨rfl, rfl⟩
set_option maxHeartbeats 2000000 in
set_option maxRecDepth 20000 in
theorem t_c_stop {M : Mm} {a : Nat} {σ : Sg} {T : Nat} (hL : LX10 M.1 M.2.1 a) (hC : CI (mI M) a σ) (hO : OkN T σ.1) (hT9 : T < 890000) {x y z : Int32} (hIn : RtIn σ.1) : Ct G base YX10_stop 20 1 6 [.ref a, .int x, .int y, .int z] M (rC M a 1 2 (rs_stop σ x y z) σ) := by
  obtain ⟨hT, hS, hLt, h4, h5, h6, hLo, hSt, hNa⟩ := hO
  have h0 := hT.1
  have h1 := hT.2.1
  have hr := hT.2.2
  have h2 := hLt.1
  have h3 := hLt.2.1
  have hb0 := h0.2
  have hb1 := h1.2
  have hb2 := h2.2
  have hb3 := h3.2
  have hb4 := h4.2
  have ht6 : σ.1 6 = nI (nv σ.1 6) := h6.1
  have hh6 : nv σ.1 6 ≤ T := h6.2
  have hTT : TT (mI M) (a + 28) σ.1 := hC.2.2.2.1
  have hRS : RS (mI M) (a + 34) σ.1 := hC.2.2.2.2.1
  have hHR : HR (mI M) (a + 52) σ.2.1 σ.2.2.1 := hC.2.2.2.2.2.1
  have hpc : mI M (a + 28) 0 = nI (nv σ.1 0) := hTT.1.trans h0.1
  have hcc : mI M (a + 28) 2 = nI (nv σ.1 1) := hTT.2.2.1.trans h1.1
  have hlc : mI M (a + 34 + 2) 0 = nI (nv σ.1 2) := hRS.2.2.1.1.trans h2.1
  have hkc : mI M (a + 34 + 15) 0 = nI (nv σ.1 3) := hRS.2.2.2.2.1.trans h3.1
  have hrc : mI M (a + 34 + 13) 0 = nI (nv σ.1 4) := hRS.2.2.2.1.1.trans h4.1
  have htm : mI M (a + 34) 0 = nI (nv σ.1 6) := hRS.1.1.trans ht6
  by_cases hx : ∃ c, c < nv σ.1 1 ∧ x = nI c
  · obtain ⟨c, hc, rfl⟩ := hx
    by_cases hw : ∃ w, w < 7 ∧ y = nI w
    · obtain ⟨w, hw, rfl⟩ := hw
      refine Ct.of IX10_stop.1 (by simp [Value.category]) (Nat.le_of_ble_eq_true rfl) (fun X hX hN => ?_)
      show J G base X 0 0 M 0 [some (.ref a), some (.int (nI c)), some (.int (nI w)), some (.int z), none, none, none] []
      refine r_iload_n hX dX10_stop_0 rfl ?_
      refine r_aload_n hX dX10_stop_1 rfl ?_
      refine r_getr hX dX10_stop_2 fl_X10_33 rfl (LX10_s hL) (LX10_r5 hL) ?_
      refine rn_geti (v := nI (nv σ.1 1)) hX dX10_stop_5 fl_X10_138 rfl (LX9_s (LX10_o5 hL)) hcc ?_
      refine r_cS2 hX dX10_stop_8 IX10_needIndex ml_X10_169 rfl (t_ni1 hc (by omega)) (by decide) (by decide) (by decide) (by decide) rfl (Nat.le_of_ble_eq_true rfl) ?_
      refine r_iload_n hX dX10_stop_11 rfl ?_
      refine rn_if_lt (tgt := 21) hX dX10_stop_12 (by decide) rfl (by omega) ?_
      refine r_iload_n hX dX10_stop_15 rfl ?_
      refine r_bipush (v := nI 7) hX dX10_stop_16 (by decide) ?_
      refine rn_icmp_lt (tgt := 29) hX dX10_stop_18 (by decide) rfl rfl (by omega) (by omega) (fun c18 => ?_) (fun c18 => absurd hw (by omega))
      refine r_iconst (v := nI 0) hX dX10_stop_29 (by decide) ?_
      refine r_istore4 hX dX10_stop_30 rfl ?_
      refine r_iconst (v := nI 0) hX dX10_stop_32 (by decide) ?_
      refine r_istore5 hX dX10_stop_33 rfl ?_
      show J G base X 0 0 M 35 [some (.ref a), some (.int (nI c)), some (.int (nI w)), some (.int z), some (.int (nI 0)), some (.int (nI 0)), none] []
      have hcnt6 := (hr c (by omega) w hw).1.2
      refine loop_us (σ := Nat) (P := fun h b => (befN σ.1 c w h b ∧ ∀ j, j < b → ¬ z = nI j) → J G base X 0 0 M 35 [some (.ref a), some (.int (nI c)), some (.int (nI w)), some (.int z), some (.int (nI b)), some (.int (nI h)), none] []) 24 (fun h b hh24 ih hI => ?_) 0 0 (Nat.zero_le _) ⟨⟨Nat.zero_le _, fun j hj => ⟨fun q => absurd q (Nat.not_lt_zero _), fun q => absurd q (Nat.not_lt_zero _)⟩⟩, fun j hj => absurd hj (Nat.not_lt_zero _)⟩
      obtain ⟨hB, hz⟩ := hI
      have hb6 := hB.1
      refine r_iload hX dX10_stop_35 rfl ?_
      refine r_bipush (v := nI 24) hX dX10_stop_37 (by decide) ?_
      refine rn_icmp_ge (tgt := 89) hX dX10_stop_39 (by decide) rfl rfl (by omega) (by omega) (fun c39 => ?_) (fun c39 => ?_)
      · refine r_iconst (v := (-1)) hX dX10_stop_89 (by decide) ?_
        refine r_ireturn hX rfl rfl dX10_stop_90 (by decide) (by decide) ?_
        obtain rfl : h = 24 := by omega
        have hbm : b = nv σ.1 (rtA c w) := by
          by_cases e : b = nv σ.1 (rtA c w)
          · exact e
          · exfalso
            have hbl : b < nv σ.1 (rtA c w) := by have := hB.1; omega
            obtain ⟨x, q, x1, x2, x3, x4, x5⟩ := (hr c (by omega) w hw).2 b hbl
            have := (hB.2 b hbl).mpr (by rw [nv_of x4 (by omega)]; exact x1)
            omega
        refine rC.y0 ?_ hC
        unfold rs_stop
        rw [ix_of hc (by omega)]
        dsimp only
        rw [ix_of hw (by omega)]
        dsimp only
        rw [ix_no (fun ⟨j, hj, e⟩ => hz j (by omega) e)]
      · refine r_aload_n hX dX10_stop_42 rfl ?_
        refine r_getr hX dX10_stop_43 fl_X10_33 rfl (LX10_s hL) (LX10_r5 hL) ?_
        refine r_iload_n hX dX10_stop_46 rfl ?_
        refine r_iload_n hX dX10_stop_47 rfl ?_
        refine r_bipush (v := nI 24) hX dX10_stop_48 (by decide) ?_
        refine rn_imul hX dX10_stop_50 rfl rfl ?_
        refine r_iload hX dX10_stop_51 rfl ?_
        refine rn_iadd hX dX10_stop_53 rfl rfl ?_
        refine r_cV2 hX dX10_stop_54 IX9_stopPlace ml_X10_184 rfl (LX9_s (LX10_o5 hL)) rfl (t_X9_stopPlace (LX10_o5 hL) hTT hT hc (by omega)) (by decide) (by decide) (by decide) (by decide) rfl (Nat.le_of_ble_eq_true rfl) ?_
        refine r_istore6 hX dX10_stop_57 rfl ?_
        refine r_iload hX dX10_stop_59 rfl ?_
        refine r_iconst (v := (-1)) hX dX10_stop_61 (by decide) ?_
        refine r_icmp_eq (tgt := 83) hX dX10_stop_62 (by decide) (fun c62 => ?_) (fun c62 => ?_)
        · refine rn_iinc5 hX dX10_stop_83 rfl rfl ?_
          refine r_goto (tgt := 35) hX dX10_stop_86 (by decide) ?_
          rcases stop_hit hr hIn (show c < 5 by omega) hw (show h < 24 by omega) hB with ⟨-, hB2⟩ | ⟨-, -, -, q, -⟩
          · exact J.junk (ih (by omega) b ⟨hB2, hz⟩) (by repeat first | exact trivial | refine ⟨rfl, ?_⟩)
          · exact absurd c62 q
        · refine r_iload hX dX10_stop_65 rfl ?_
          refine r_iload_n hX dX10_stop_67 rfl ?_
          refine r_icmp_ne (tgt := 80) hX dX10_stop_68 (by decide) (fun c68 => ?_) (fun c68 => ?_)
          · refine rn_iinc4 hX dX10_stop_80 rfl rfl ?_
            refine rn_iinc5 hX dX10_stop_83 rfl rfl ?_
            refine r_goto (tgt := 35) hX dX10_stop_86 (by decide) ?_
            rcases stop_hit hr hIn (show c < 5 by omega) hw (show h < 24 by omega) hB with ⟨q, -⟩ | ⟨-, -, -, -, hB2⟩
            · exact absurd q c62
            · refine J.junk (ih (by omega) (b + 1) ⟨hB2, fun j hj => ?_⟩) (by repeat first | exact trivial | refine ⟨rfl, ?_⟩)
              by_cases e : j = b
              · rw [e]
                exact fun q => c68 q.symm
              · exact hz j (by omega)
          · refine r_bipush (v := 100) hX dX10_stop_71 (by decide) ?_
            refine r_iload hX dX10_stop_73 rfl ?_
            refine r_imul hX dX10_stop_75 ?_
            refine r_iload hX dX10_stop_76 rfl ?_
            refine r_iadd hX dX10_stop_78 ?_
            refine r_ireturn hX rfl rfl dX10_stop_79 (by decide) (by decide) ?_
            rcases stop_hit hr hIn (show c < 5 by omega) hw (show h < 24 by omega) hB with ⟨q, -⟩ | ⟨hbl, q1, q2, -, -⟩
            · exact absurd q c62
            · refine rC.y0 ?_ hC
              unfold rs_stop
              rw [ix_of hc (by omega)]
              dsimp only
              rw [ix_of hw (by omega)]
              dsimp only
              rw [← c68, ix_of hbl (by omega)]
              dsimp only
              rw [q1, q2]
    · refine Ct.of IX10_stop.1 (by simp [Value.category]) (Nat.le_of_ble_eq_true rfl) (fun X hX hN => ?_)
      show J G base X 0 0 M 0 [some (.ref a), some (.int (nI c)), some (.int y), some (.int z), none, none, none] []
      refine r_iload_n hX dX10_stop_0 rfl ?_
      refine r_aload_n hX dX10_stop_1 rfl ?_
      refine r_getr hX dX10_stop_2 fl_X10_33 rfl (LX10_s hL) (LX10_r5 hL) ?_
      refine rn_geti (v := nI (nv σ.1 1)) hX dX10_stop_5 fl_X10_138 rfl (LX9_s (LX10_o5 hL)) hcc ?_
      refine r_cS2 hX dX10_stop_8 IX10_needIndex ml_X10_169 rfl (t_ni1 hc (by omega)) (by decide) (by decide) (by decide) (by decide) rfl (Nat.le_of_ble_eq_true rfl) ?_
      refine r_iload_n hX dX10_stop_11 rfl ?_
      refine r_if_lt (tgt := 21) hX dX10_stop_12 (by decide) (fun c12 => ?_) (fun c12 => ?_)
      · refine r_throw hX thI1 dX10_stop_21 dX10_stop_24 dX10_stop_25 dX10_stop_28 (by decide) (by decide) (by decide) rfl ?_ (Nat.le_of_ble_eq_true rfl)
        exact rC.n0 (k := 2) (by unfold rs_stop; rw [ix_of hc (by omega)]; dsimp only; rw [ix_no hw]) rfl hC
      · refine r_iload_n hX dX10_stop_15 rfl ?_
        refine r_bipush (v := 7) hX dX10_stop_16 (by decide) ?_
        refine r_icmp_lt (tgt := 29) hX dX10_stop_18 (by decide) (fun c18 => by obtain ⟨q, hq, e⟩ := nI_of (x := y) c12; subst e; rw [show (7 : Int32) = nI 7 from rfl, nI_ltI hq (by omega)] at c18; exact absurd ⟨q, c18, rfl⟩ hw) (fun c18 => ?_)
        refine r_throw hX thI1 dX10_stop_21 dX10_stop_24 dX10_stop_25 dX10_stop_28 (by decide) (by decide) (by decide) rfl ?_ (Nat.le_of_ble_eq_true rfl)
        exact rC.n0 (k := 2) (by unfold rs_stop; rw [ix_of hc (by omega)]; dsimp only; rw [ix_no hw]) rfl hC
  · refine Ct.of IX10_stop.1 (by simp [Value.category]) (Nat.le_of_ble_eq_true rfl) (fun X hX hN => ?_)
    show J G base X 0 0 M 0 [some (.ref a), some (.int x), some (.int y), some (.int z), none, none, none] []
    refine r_iload_n hX dX10_stop_0 rfl ?_
    refine r_aload_n hX dX10_stop_1 rfl ?_
    refine r_getr hX dX10_stop_2 fl_X10_33 rfl (LX10_s hL) (LX10_r5 hL) ?_
    refine rn_geti (v := nI (nv σ.1 1)) hX dX10_stop_5 fl_X10_138 rfl (LX9_s (LX10_o5 hL)) hcc ?_
    refine r_tS2 hX dX10_stop_8 IX10_needIndex ml_X10_169 rfl (t_ni0 hx (by omega)) (by decide) (by decide) (by decide) (by decide) rfl (Nat.le_of_ble_eq_true rfl) ?_
    exact rC.n0 (k := 1) (by unfold rs_stop; rw [ix_no hx]) rfl hC

set_option maxHeartbeats 2000000 in
set_option maxRecDepth 20000 in
theorem t_c_letter {M : Mm} {a : Nat} {σ : Sg} {T : Nat} (hL : LX10 M.1 M.2.1 a) (hC : CI (mI M) a σ) (hO : OkN T σ.1) (hT9 : T < 890000) {x y : Int32} : Ct G base YX10_letter 20 1 6 [.ref a, .int x, .int y] M (rC M a 1 2 (rs_letter σ x y) σ) := by
  obtain ⟨hT, hS, hLt, h4, h5, h6, hLo, hSt, hNa⟩ := hO
  have h0 := hT.1
  have h1 := hT.2.1
  have hr := hT.2.2
  have h2 := hLt.1
  have h3 := hLt.2.1
  have hb0 := h0.2
  have hb1 := h1.2
  have hb2 := h2.2
  have hb3 := h3.2
  have hb4 := h4.2
  have ht6 : σ.1 6 = nI (nv σ.1 6) := h6.1
  have hh6 : nv σ.1 6 ≤ T := h6.2
  have hTT : TT (mI M) (a + 28) σ.1 := hC.2.2.2.1
  have hRS : RS (mI M) (a + 34) σ.1 := hC.2.2.2.2.1
  have hHR : HR (mI M) (a + 52) σ.2.1 σ.2.2.1 := hC.2.2.2.2.2.1
  have hpc : mI M (a + 28) 0 = nI (nv σ.1 0) := hTT.1.trans h0.1
  have hcc : mI M (a + 28) 2 = nI (nv σ.1 1) := hTT.2.2.1.trans h1.1
  have hlc : mI M (a + 34 + 2) 0 = nI (nv σ.1 2) := hRS.2.2.1.1.trans h2.1
  have hkc : mI M (a + 34 + 15) 0 = nI (nv σ.1 3) := hRS.2.2.2.2.1.trans h3.1
  have hrc : mI M (a + 34 + 13) 0 = nI (nv σ.1 4) := hRS.2.2.2.1.1.trans h4.1
  have htm : mI M (a + 34) 0 = nI (nv σ.1 6) := hRS.1.1.trans ht6
  by_cases hx : ∃ c, c < nv σ.1 2 ∧ x = nI c
  · obtain ⟨l, hl, rfl⟩ := hx
    by_cases hw : ∃ w, w < 9 ∧ y = nI w
    · obtain ⟨w, hw, rfl⟩ := hw
      refine Ct.of IX10_letter.1 (by simp [Value.category]) (Nat.le_of_ble_eq_true rfl) (fun X hX hN => ?_)
      show J G base X 0 0 M 0 [some (.ref a), some (.int (nI l)), some (.int (nI w))] []
      refine r_iload_n hX dX10_letter_0 rfl ?_
      refine r_aload_n hX dX10_letter_1 rfl ?_
      refine r_getr hX dX10_letter_2 fl_X10_40 rfl (LX10_s hL) (LX10_r6 hL) ?_
      refine r_getr hX dX10_letter_5 fl_X10_107 rfl (LX8_s (LX10_o6 hL)) (LX8_r5 (LX10_o6 hL)) ?_
      refine rn_geti (v := nI (nv σ.1 2)) hX dX10_letter_8 fl_X10_111 rfl (LX2_s (LX8_o5 (LX10_o6 hL))) hlc ?_
      refine r_cS2 hX dX10_letter_11 IX10_needIndex ml_X10_169 rfl (t_ni1 hl (by omega)) (by decide) (by decide) (by decide) (by decide) rfl (Nat.le_of_ble_eq_true rfl) ?_
      refine r_iload_n hX dX10_letter_14 rfl ?_
      refine rn_if_lt (tgt := 24) hX dX10_letter_15 (by decide) rfl (by omega) ?_
      refine r_iload_n hX dX10_letter_18 rfl ?_
      refine r_bipush (v := nI 8) hX dX10_letter_19 (by decide) ?_
      refine rn_icmp_le (tgt := 32) hX dX10_letter_21 (by decide) rfl rfl (by omega) (by omega) (fun c21 => ?_) (fun c21 => by omega)
      refine r_aload_n hX dX10_letter_32 rfl ?_
      refine r_getr hX dX10_letter_33 fl_X10_40 rfl (LX10_s hL) (LX10_r6 hL) ?_
      refine r_getr hX dX10_letter_36 fl_X10_107 rfl (LX8_s (LX10_o6 hL)) (LX8_r5 (LX10_o6 hL)) ?_
      refine r_iload_n hX dX10_letter_39 rfl ?_
      refine r_iload_n hX dX10_letter_40 rfl ?_
      refine r_cV2 hX dX10_letter_41 IX2_property ml_X10_213 rfl (LX2_s (LX8_o5 (LX10_o6 hL))) rfl (t_X2_property (LX8_o5 (LX10_o6 hL)) hlc hb2 hl (by omega)) (by decide) (by decide) (by decide) (by decide) rfl (Nat.le_of_ble_eq_true rfl) ?_
      rw [hRS.2.2.1.2.2 l hl w (by omega)]
      refine r_ireturn hX rfl rfl dX10_letter_44 (by decide) (by decide) ?_
      exact rC.y0 (by unfold rs_letter; rw [ix_of hl (by omega)]; dsimp only; rw [ix_of hw (by omega)]) hC
    · refine Ct.of IX10_letter.1 (by simp [Value.category]) (Nat.le_of_ble_eq_true rfl) (fun X hX hN => ?_)
      show J G base X 0 0 M 0 [some (.ref a), some (.int (nI l)), some (.int y)] []
      refine r_iload_n hX dX10_letter_0 rfl ?_
      refine r_aload_n hX dX10_letter_1 rfl ?_
      refine r_getr hX dX10_letter_2 fl_X10_40 rfl (LX10_s hL) (LX10_r6 hL) ?_
      refine r_getr hX dX10_letter_5 fl_X10_107 rfl (LX8_s (LX10_o6 hL)) (LX8_r5 (LX10_o6 hL)) ?_
      refine rn_geti (v := nI (nv σ.1 2)) hX dX10_letter_8 fl_X10_111 rfl (LX2_s (LX8_o5 (LX10_o6 hL))) hlc ?_
      refine r_cS2 hX dX10_letter_11 IX10_needIndex ml_X10_169 rfl (t_ni1 hl (by omega)) (by decide) (by decide) (by decide) (by decide) rfl (Nat.le_of_ble_eq_true rfl) ?_
      refine r_iload_n hX dX10_letter_14 rfl ?_
      refine r_if_lt (tgt := 24) hX dX10_letter_15 (by decide) (fun c15 => ?_) (fun c15 => ?_)
      · refine r_throw hX thI1 dX10_letter_24 dX10_letter_27 dX10_letter_28 dX10_letter_31 (by decide) (by decide) (by decide) rfl ?_ (Nat.le_of_ble_eq_true rfl)
        exact rC.n0 (k := 2) (by unfold rs_letter; rw [ix_of hl (by omega)]; dsimp only; rw [ix_no hw]) rfl hC
      · refine r_iload_n hX dX10_letter_18 rfl ?_
        refine r_bipush (v := 8) hX dX10_letter_19 (by decide) ?_
        refine r_icmp_le (tgt := 32) hX dX10_letter_21 (by decide) (fun c21 => by obtain ⟨q, hq, e⟩ := nI_of (x := y) c15; subst e; rw [show (8 : Int32) = nI 8 from rfl, nI_leI hq (by omega)] at c21; exact absurd ⟨q, by omega, rfl⟩ hw) (fun c21 => ?_)
        refine r_throw hX thI1 dX10_letter_24 dX10_letter_27 dX10_letter_28 dX10_letter_31 (by decide) (by decide) (by decide) rfl ?_ (Nat.le_of_ble_eq_true rfl)
        exact rC.n0 (k := 2) (by unfold rs_letter; rw [ix_of hl (by omega)]; dsimp only; rw [ix_no hw]) rfl hC
  · refine Ct.of IX10_letter.1 (by simp [Value.category]) (Nat.le_of_ble_eq_true rfl) (fun X hX hN => ?_)
    show J G base X 0 0 M 0 [some (.ref a), some (.int x), some (.int y)] []
    refine r_iload_n hX dX10_letter_0 rfl ?_
    refine r_aload_n hX dX10_letter_1 rfl ?_
    refine r_getr hX dX10_letter_2 fl_X10_40 rfl (LX10_s hL) (LX10_r6 hL) ?_
    refine r_getr hX dX10_letter_5 fl_X10_107 rfl (LX8_s (LX10_o6 hL)) (LX8_r5 (LX10_o6 hL)) ?_
    refine rn_geti (v := nI (nv σ.1 2)) hX dX10_letter_8 fl_X10_111 rfl (LX2_s (LX8_o5 (LX10_o6 hL))) hlc ?_
    refine r_tS2 hX dX10_letter_11 IX10_needIndex ml_X10_169 rfl (t_ni0 hx (by omega)) (by decide) (by decide) (by decide) (by decide) rfl (Nat.le_of_ble_eq_true rfl) ?_
    exact rC.n0 (k := 1) (by unfold rs_letter; rw [ix_no hx]) rfl hC

