variable {G : GG} {base : Nat}
/-! ===== THE CLASS: actions ===== -/
theorem CI.keep {i i' : Nat → Nat → Int32} {a : Nat} {σ : Sg} (h : CI i a σ) (h1 : HR i' (a + 52) (keepS σ).2.1 (keepS σ).2.2.1) (h2 : RS i' (a + 34) σ.1) (ho : ∀ y, (y < a + 52 ∨ a + 52 + 146 ≤ y) → ∀ k, i' y k = i y k) : CI i' a (keepS σ) := by
  obtain ⟨⟨g1, g2, g3⟩, g4, g5, g6, g7, g8, g9, g10, g11⟩ := h
  exact ⟨⟨fun k hk2 => ⟨(g1 k hk2).1, (ho _ (by omega) k).trans (g1 k hk2).2⟩, (ho _ (by omega) _).trans g2, g3⟩, (ho _ (by omega) _).trans g4, (ho _ (by omega) _).trans g5, g6.kept (fun x _ _ k => ho x (by omega) k), h2, h1, (ho _ (by omega) _).trans g9, g10, fun k hk2 => (ho _ (by omega) k).trans (g11 k hk2)⟩
theorem CI.row {i i' : Nat → Nat → Int32} {a : Nat} {σ : Sg} {n : Nat → Int32} (h : CI i a σ) (h1 : TT i (a + 28) n) (h2 : RS i' (a + 34) n) (ho : ∀ y, (y < a + 34 ∨ a + 52 ≤ y) → (y < a + 198 ∨ a + 206 ≤ y) → ∀ k, i' y k = i y k) : CI i' a (rowS σ n) := by
  obtain ⟨⟨g1, g2, g3⟩, g4, g5, g6, g7, g8, g9, g10, g11⟩ := h
  exact ⟨⟨fun k hk2 => ⟨(g1 k hk2).1, (ho _ (by omega) (by omega) k).trans (g1 k hk2).2⟩, (ho _ (by omega) (by omega) _).trans g2, g3⟩, (ho _ (by omega) (by omega) _).trans g4, (ho _ (by omega) (by omega) _).trans g5, h1.kept (fun x _ _ k => ho x (by omega) (by omega) k), h2, g8.kept (fun x _ _ k => ho x (by omega) (by omega) k), (ho _ (by omega) (by omega) _).trans g9, g10, fun k hk2 => (ho _ (by omega) (by omega) k).trans (g11 k hk2)⟩
/-- the text read so far -/
theorem CI.text {i i' : Nat → Nat → Int32} {a : Nat} {σ : Sg} {u : Nat → Nat} {e : Nat} (h : CI i a σ) (h1 : ∀ k, k < e → u k < 256 ∧ i' (a + 1) k = nI (u k)) (h2 : i' a 1 = nI e) (h3 : e ≤ 900) (ho : ∀ y, y ≠ a → y ≠ a + 1 → ∀ k, i' y k = i y k) (ha : ∀ k, k ≠ 1 → i' a k = i a k) : CI i' a (σ.1, σ.2.1, σ.2.2.1, u, e, σ.2.2.2.2.2) := by
  obtain ⟨⟨g1, g2, g3⟩, g4, g5, g6, g7, g8, g9, g10, g11⟩ := h
  exact ⟨⟨h1, h2, h3⟩, (ha _ (by omega)).trans g4, (ha _ (by omega)).trans g5, g6.kept (fun x _ _ k => ho x (by omega) (by omega) k), g7.kept (fun x _ _ k => ho x (by omega) (by omega) k), g8.kept (fun x _ _ k => ho x (by omega) (by omega) k), (ho _ (by omega) (by omega) _).trans g9, g10, fun k hk2 => (ho _ (by omega) (by omega) k).trans (g11 k hk2)⟩
theorem capTT {i : Nat → Nat → Int32} {b q : Nat} {n : Nat → Int32} {v : Int32} (h : TT i b n) (hO : TbOk n) (hq : q = 5 ∨ (498 ≤ q)) : TT i b (upd n q v) := h.eq ⟨(upd_o (by omega)).symm, (upd_o (by omega)).symm, fun k a1 a2 => (upd_o (by omega)).symm, fun k a1 a2 => (upd_o (by omega)).symm⟩ hO.1.2 hO.2.1.2 hO.2.2
theorem strTT {i : Nat → Nat → Int32} {b c : Nat} {n : Nat → Int32} {v : Int32} (h : TT i b n) (hO : TbOk n) (hc : c < 5) : TT i b (upd n (38 + c) v) := by
  have hb0 := hO.1.2
  have hb1 := hO.2.1.2
  obtain ⟨a1, a2, a3, a4, a5, a6, a7⟩ := h
  have eo : ∀ q, (q < 38 ∨ 43 ≤ q) → upd n (38 + c) v q = n q := fun q hq => upd_o (by omega)
  have e0 : nv (upd n (38 + c) v) 0 = nv n 0 := nv_eq (eo _ (by omega))
  have e1 : nv (upd n (38 + c) v) 1 = nv n 1 := nv_eq (eo _ (by omega))
  have es : ∀ c' h, stopN (upd n (38 + c) v) c' h = stopN n c' h := fun c' h => by
    unfold stopN
    have eA : rtA c' (h / 24 % 7) = 43 + 13 * (7 * c' + h / 24 % 7) := rfl
    rw [nv_eq (eo _ (by omega))]
    exact stF_congr (fun q q1 q2 => eo q (by omega))
  have eg : ∀ h p, gstN (upd n (38 + c) v) h p = gstN n h p := fun h p => by
    unfold gstN
    funext c'
    rw [e1, es]
  have et : ∀ p, p < 10 → town (upd n (38 + c) v) p = town n p := fun p hp => by
    unfold town
    rw [e0, eo _ (by omega)]
  refine ⟨a1.trans (eo _ (by omega)).symm, ?_, a3.trans (eo _ (by omega)).symm, fun p hp => ?_, fun c' hc' => ?_, fun h hh p hp => ?_, fun h hh => ?_⟩
  · rw [a2]
    exact setB_congr (fun p hp => (et p hp).symm)
  · rw [e0] at hp
    by_cases z : 18 + p = 38 + c
    · omega
    · rw [upd_o z]
      exact a4 p hp
  · rw [e1] at hc'
    by_cases z : 28 + c' = 38 + c
    · omega
    · rw [upd_o z]
      exact a5 c' hc'
  · rw [eg]
    exact a6 h hh p hp
  · rw [a7 h hh]
    exact setB_congr (fun p _ => by rw [eg])
theorem RS.str {M : Mm} {a c : Nat} {n : Nat → Int32} {w v : Int32} (h : RS (mI M) a n) (hc : c < 5) (hw : ∀ d, d < 5 → bt w d = if d = c then decide (v = 1) else bt (mI M a 3) d) : RS (mI (uI M a 3 w)) a (upd n (38 + c) v) := by
  obtain ⟨⟨a1, a2, a3, a4⟩, b1, ⟨c1, c2, c3⟩, ⟨d1, d2, x, d3, d4, d5⟩, e1, e2, e3⟩ := h
  have eo : ∀ x, x ≠ a → mI (uI M a 3 w) x = mI M x := fun x hx => uIo hx
  have ea : ∀ j, mI (uI M a 3 w) a j = if j = 3 then w else mI M a j := fun j => by rw [mI_uI, if_pos rfl]
  have er : ∀ q, q ≠ 38 + c → upd n (38 + c) v q = n q := fun q hq => upd_o hq
  have ev : ∀ q, q ≠ 38 + c → nv (upd n (38 + c) v) q = nv n q := fun q hq => nv_eq (er q hq)
  refine ⟨⟨?_, ?_, ?_, fun d hd => ?_⟩, b1.imp (fun z d hd => ?_) (fun z => z.eq (er _ (by omega)) (er _ (by omega)) (er _ (by omega))), ⟨?_, c2.eq (er _ (by omega)), fun l' hl' f' hf' => ?_⟩, ⟨?_, d2.eq (er _ (by omega)), x, d3, ?_, fun g hg w hw => ?_⟩, ?_, e2.eq (er _ (by omega)), fun j hj => ?_⟩
  · rw [ea, if_neg (by omega), er _ (by omega)]; exact a1
  · rw [ea, if_neg (by omega), er _ (by omega)]; exact a2
  · rw [ea, if_neg (by omega), er _ (by omega)]; exact a3
  · rw [ea, if_pos rfl, hw d hd]
    by_cases e : d = c
    · subst e
      rw [if_pos rfl, upd_s]
    · rw [if_neg e, er _ (by omega)]
      exact a4 d hd
  · rw [eo _ (by omega), er _ (by omega)]; exact z d hd
  · rw [eo _ (by omega), er _ (by omega)]; exact c1
  · rw [ev _ (by omega)] at hl'
    rw [eo _ (by omega), er _ (by omega)]; exact c3 l' hl' f' hf'
  · rw [eo _ (by omega), er _ (by omega)]; exact d1
  · rw [eo _ (by omega)]; exact d4
  · rw [ev _ (by omega)] at hg
    rw [eo _ (by omega), er _ (by omega)]; exact d5 g hg w hw
  · rw [eo _ (by omega), er _ (by omega)]; exact e1
  · rw [ev _ (by omega)] at hj
    rw [eo _ (by omega), eo _ (by omega), er _ (by omega), er _ (by omega)]; exact e3 j hj
set_option maxHeartbeats 2000000 in
set_option maxRecDepth 20000 in
theorem t_c_truncate {M : Mm} {a : Nat} {σ : Sg} {T : Nat} (hL : LX10 M.1 M.2.1 a) (hC : CI (mI M) a σ) (hO : OkN T σ.1) (hT9 : T < 890000) {x : Int32} : Ct G base YX10_truncate 20 1 6 [.ref a, .int x] M (rC M a 1 4 (rs_truncate σ x) (sg_truncate σ x)) := by
  obtain ⟨hT, hS, hLt, h4, h5, h6, hLo, hSt, hNa⟩ := hO
  have h0 := hT.1
  have h1 := hT.2.1
  have hr := hT.2.2
  have h2 := hLt.1
  have h3 := hLt.2.1
  have hb0 := h0.2
  have hb1 := h1.2
  have hb2 := h2.2
  have hb3 := h3.2
  have hb4 := h4.2
  have ht6 : σ.1 6 = nI (nv σ.1 6) := h6.1
  have hh6 : nv σ.1 6 ≤ T := h6.2
  have hTT : TT (mI M) (a + 28) σ.1 := hC.2.2.2.1
  have hRS : RS (mI M) (a + 34) σ.1 := hC.2.2.2.2.1
  have hHR : HR (mI M) (a + 52) σ.2.1 σ.2.2.1 := hC.2.2.2.2.2.1
  have hpc : mI M (a + 28) 0 = nI (nv σ.1 0) := hTT.1.trans h0.1
  have hcc : mI M (a + 28) 2 = nI (nv σ.1 1) := hTT.2.2.1.trans h1.1
  have hlc : mI M (a + 34 + 2) 0 = nI (nv σ.1 2) := hRS.2.2.1.1.trans h2.1
  have hkc : mI M (a + 34 + 15) 0 = nI (nv σ.1 3) := hRS.2.2.2.2.1.trans h3.1
  have hrc : mI M (a + 34 + 13) 0 = nI (nv σ.1 4) := hRS.2.2.2.1.1.trans h4.1
  have htm : mI M (a + 34) 0 = nI (nv σ.1 6) := hRS.1.1.trans ht6
  have hlen := hC.1.2.1
  have h900 := hC.1.2.2
  by_cases hx : ∃ c, c < σ.2.2.2.2.1 + 1 ∧ x = nI c
  · obtain ⟨k, hk, rfl⟩ := hx
    refine Ct.of IX10_truncate.1 (by simp [Value.category]) (Nat.le_of_ble_eq_true rfl) (fun X hX hN => ?_)
    show J G base X 0 0 M 0 [some (.ref a), some (.int (nI k))] []
    refine r_iload_n hX dX10_truncate_0 rfl ?_
    refine rn_if_lt (tgt := 12) hX dX10_truncate_1 (by decide) rfl (by omega) ?_
    refine r_iload_n hX dX10_truncate_4 rfl ?_
    refine r_aload_n hX dX10_truncate_5 rfl ?_
    refine rn_geti (v := nI σ.2.2.2.2.1) hX dX10_truncate_6 fl_X10_13 rfl (LX10_s hL) hlen ?_
    refine rn_icmp_le (tgt := 14) hX dX10_truncate_9 (by decide) rfl rfl (by omega) (by omega) (fun c9 => ?_) (fun c9 => by omega)
    refine r_aload_n hX dX10_truncate_14 rfl ?_
    refine r_iload_n hX dX10_truncate_15 rfl ?_
    refine r_puti hX dX10_truncate_16 fl_X10_13 rfl rfl (LX10_s hL) ?_
    refine r_iconst (v := 1) hX dX10_truncate_19 (by decide) ?_
    refine r_ireturn hX rfl rfl dX10_truncate_20 (by decide) (by decide) ?_
    refine rC.y (i := mI (uI M a 1 (nI k))) ?_ ?_ (fun y hy q => congrFun (uIo (by omega)) q)
    · unfold rs_truncate
      rw [ix_of hk (by omega)]
    · unfold sg_truncate
      rw [ix_of hk (by omega)]
      exact hC.text (fun j hj => ⟨(hC.1.1 j (by omega)).1, (congrFun (uIo (by omega)) j).trans (hC.1.1 j (by omega)).2⟩) (by simp [mI_uI]) (by omega) (fun y h1 h2 q => congrFun (uIo h1) q) (fun q hq => by rw [mI_uI, if_pos rfl, if_neg hq])
  · refine Ct.of IX10_truncate.1 (by simp [Value.category]) (Nat.le_of_ble_eq_true rfl) (fun X hX hN => ?_)
    show J G base X 0 0 M 0 [some (.ref a), some (.int x)] []
    refine r_iload_n hX dX10_truncate_0 rfl ?_
    refine r_if_lt (tgt := 12) hX dX10_truncate_1 (by decide) (fun c1 => ?_) (fun c1 => ?_)
    · refine r_iconst (v := 0) hX dX10_truncate_12 (by decide) ?_
      refine r_ireturn hX rfl rfl dX10_truncate_13 (by decide) (by decide) ?_
      refine rC.y0 ?_ ?_
      · unfold rs_truncate
        rw [ix_no hx]
      · unfold sg_truncate
        rw [ix_no hx]
        exact hC
    · refine r_iload_n hX dX10_truncate_4 rfl ?_
      refine r_aload_n hX dX10_truncate_5 rfl ?_
      refine rn_geti (v := nI σ.2.2.2.2.1) hX dX10_truncate_6 fl_X10_13 rfl (LX10_s hL) hlen ?_
      refine r_icmp_le (tgt := 14) hX dX10_truncate_9 (by decide) (fun c9 => by obtain ⟨q, hq, e⟩ := nI_of (x := x) c1; subst e; rw [nI_leI hq (by omega)] at c9; exact absurd ⟨q, by omega, rfl⟩ hx) (fun c9 => ?_)
      refine r_iconst (v := 0) hX dX10_truncate_12 (by decide) ?_
      refine r_ireturn hX rfl rfl dX10_truncate_13 (by decide) (by decide) ?_
      refine rC.y0 ?_ ?_
      · unfold rs_truncate
        rw [ix_no hx]
      · unfold sg_truncate
        rw [ix_no hx]
        exact hC

set_option maxHeartbeats 2000000 in
set_option maxRecDepth 20000 in
theorem t_c_undoDepth {M : Mm} {a : Nat} {σ : Sg} {T : Nat} (hL : LX10 M.1 M.2.1 a) (hC : CI (mI M) a σ) (hO : OkN T σ.1) (hT9 : T < 890000) : Ct G base YX10_undoDepth 20 1 6 [.ref a] M (rC M a 1 4 (rs_undoDepth σ) σ) := by
  obtain ⟨hT, hS, hLt, h4, h5, h6, hLo, hSt, hNa⟩ := hO
  have h0 := hT.1
  have h1 := hT.2.1
  have hr := hT.2.2
  have h2 := hLt.1
  have h3 := hLt.2.1
  have hb0 := h0.2
  have hb1 := h1.2
  have hb2 := h2.2
  have hb3 := h3.2
  have hb4 := h4.2
  have ht6 : σ.1 6 = nI (nv σ.1 6) := h6.1
  have hh6 : nv σ.1 6 ≤ T := h6.2
  have hTT : TT (mI M) (a + 28) σ.1 := hC.2.2.2.1
  have hRS : RS (mI M) (a + 34) σ.1 := hC.2.2.2.2.1
  have hHR : HR (mI M) (a + 52) σ.2.1 σ.2.2.1 := hC.2.2.2.2.2.1
  have hpc : mI M (a + 28) 0 = nI (nv σ.1 0) := hTT.1.trans h0.1
  have hcc : mI M (a + 28) 2 = nI (nv σ.1 1) := hTT.2.2.1.trans h1.1
  have hlc : mI M (a + 34 + 2) 0 = nI (nv σ.1 2) := hRS.2.2.1.1.trans h2.1
  have hkc : mI M (a + 34 + 15) 0 = nI (nv σ.1 3) := hRS.2.2.2.2.1.trans h3.1
  have hrc : mI M (a + 34 + 13) 0 = nI (nv σ.1 4) := hRS.2.2.2.1.1.trans h4.1
  have htm : mI M (a + 34) 0 = nI (nv σ.1 6) := hRS.1.1.trans ht6
  refine Ct.of IX10_undoDepth.1 (by simp [Value.category]) (Nat.le_of_ble_eq_true rfl) (fun X hX hN => ?_)
  show J G base X 0 0 M 0 [some (.ref a)] []
  refine r_aload_n hX dX10_undoDepth_0 rfl ?_
  refine r_getr hX dX10_undoDepth_1 fl_X10_47 rfl (LX10_s hL) (LX10_r7 hL) ?_
  refine rn_geti (v := nI σ.2.2.1) hX dX10_undoDepth_4 fl_X10_294 rfl (LX0_s (LX10_o7 hL)) hHR.1 ?_
  refine r_ireturn hX rfl rfl dX10_undoDepth_7 (by decide) (by decide) ?_
  exact rC.y0 rfl hC

set_option maxHeartbeats 2000000 in
set_option maxRecDepth 20000 in
theorem t_c_undo {M : Mm} {a : Nat} {σ : Sg} {T : Nat} (hL : LX10 M.1 M.2.1 a) (hC : CI (mI M) a σ) (hO : OkN T σ.1) (hT9 : T < 890000) (hTu : TT (mI M) (a + 28) (undoS σ).1) : Ct G base YX10_undo 20 1 6 [.ref a] M (rC M a 1 4 (rs_undo σ) (sg_undo σ)) := by
  obtain ⟨hT, hS, hLt, h4, h5, h6, hLo, hSt, hNa⟩ := hO
  have h0 := hT.1
  have h1 := hT.2.1
  have hr := hT.2.2
  have h2 := hLt.1
  have h3 := hLt.2.1
  have hb0 := h0.2
  have hb1 := h1.2
  have hb2 := h2.2
  have hb3 := h3.2
  have hb4 := h4.2
  have ht6 : σ.1 6 = nI (nv σ.1 6) := h6.1
  have hh6 : nv σ.1 6 ≤ T := h6.2
  have hTT : TT (mI M) (a + 28) σ.1 := hC.2.2.2.1
  have hRS : RS (mI M) (a + 34) σ.1 := hC.2.2.2.2.1
  have hHR : HR (mI M) (a + 52) σ.2.1 σ.2.2.1 := hC.2.2.2.2.2.1
  have hpc : mI M (a + 28) 0 = nI (nv σ.1 0) := hTT.1.trans h0.1
  have hcc : mI M (a + 28) 2 = nI (nv σ.1 1) := hTT.2.2.1.trans h1.1
  have hlc : mI M (a + 34 + 2) 0 = nI (nv σ.1 2) := hRS.2.2.1.1.trans h2.1
  have hkc : mI M (a + 34 + 15) 0 = nI (nv σ.1 3) := hRS.2.2.2.2.1.trans h3.1
  have hrc : mI M (a + 34 + 13) 0 = nI (nv σ.1 4) := hRS.2.2.2.1.1.trans h4.1
  have htm : mI M (a + 34) 0 = nI (nv σ.1 6) := hRS.1.1.trans ht6
  have hd8 := hHR.2.1
  by_cases hz : σ.2.2.1 = 0
  · refine Ct.of IX10_undo.1 (by simp [Value.category]) (Nat.le_of_ble_eq_true rfl) (fun X hX hN => ?_)
    show J G base X 0 0 M 0 [some (.ref a)] []
    refine r_aload_n hX dX10_undo_0 rfl ?_
    refine r_getr hX dX10_undo_1 fl_X10_47 rfl (LX10_s hL) (LX10_r7 hL) ?_
    refine r_aload_n hX dX10_undo_4 rfl ?_
    refine r_getr hX dX10_undo_5 fl_X10_40 rfl (LX10_s hL) (LX10_r6 hL) ?_
    refine r_cV1 hX dX10_undo_8 IX0_restore ml_X10_290 rfl (LX0_s (LX10_o7 hL)) rfl (t_X0_restore0 (LX10_o7 hL) (LX10_o6 hL) (by omega) hHR hz) (by decide) (by decide) (by decide) (by decide) rfl (Nat.le_of_ble_eq_true rfl) ?_
    refine r_if_eq (tgt := 24) hX dX10_undo_11 (by decide) (fun c11 => ?_) (fun c11 => absurd rfl c11)
    refine r_iconst (v := (-1)) hX dX10_undo_24 (by decide) ?_
    refine r_ireturn hX rfl rfl dX10_undo_25 (by decide) (by decide) ?_
    refine rC.y0 ?_ ?_
    · unfold rs_undo
      rw [if_pos hz]
    · unfold sg_undo
      rw [if_pos hz]
      exact hC
  · refine Ct.of IX10_undo.1 (by simp [Value.category]) (Nat.le_of_ble_eq_true rfl) (fun X hX hN => ?_)
    show J G base X 0 0 M 0 [some (.ref a)] []
    refine r_aload_n hX dX10_undo_0 rfl ?_
    refine r_getr hX dX10_undo_1 fl_X10_47 rfl (LX10_s hL) (LX10_r7 hL) ?_
    refine r_aload_n hX dX10_undo_4 rfl ?_
    refine r_getr hX dX10_undo_5 fl_X10_40 rfl (LX10_s hL) (LX10_r6 hL) ?_
    refine r_iV1 hX dX10_undo_8 IX0_restore ml_X10_290 rfl (LX0_s (LX10_o7 hL)) rfl (t_X0_restore1 (M := M) (LX10_o7 hL) (LX10_o6 hL) (by omega) hHR hz) (by decide) (by decide) (by decide) (by decide) rfl (Nat.le_of_ble_eq_true rfl) (fun i1 h1 => ?_)
    show J G base X _ _ (wI M i1) _ _ _
    
    refine r_if_eq (tgt := 24) hX dX10_undo_11 (by decide) (fun c11 => absurd c11 (by decide)) (fun c11 => ?_)
    refine r_aload_n hX dX10_undo_14 rfl ?_
    refine r_getr hX dX10_undo_15 fl_X10_47 rfl (LX10_s hL) (LX10_r7 hL) ?_
    refine rn_geti (v := nI (σ.2.2.1 - 1)) hX dX10_undo_18 fl_X10_294 rfl (LX0_s (LX10_o7 hL)) h1.1.1 ?_
    refine r_goto (tgt := 25) hX dX10_undo_21 (by decide) ?_
    refine r_ireturn hX rfl rfl dX10_undo_25 (by decide) (by decide) ?_
    refine rC.y (i := i1) ?_ ?_ (fun y hy q => h1.2.2 y (by omega) (by omega) q)
    · unfold rs_undo
      rw [if_neg hz]
    · unfold sg_undo
      rw [if_neg hz]
      obtain ⟨⟨g1, g2, g3⟩, g4, g5, g6, g7, g8, g9, g10, g11⟩ := hC
      exact ⟨⟨fun k hk2 => ⟨(g1 k hk2).1, (h1.2.2 _ (by omega) (by omega) k).trans (g1 k hk2).2⟩, (h1.2.2 _ (by omega) (by omega) _).trans g2, g3⟩, (h1.2.2 _ (by omega) (by omega) _).trans g4, (h1.2.2 _ (by omega) (by omega) _).trans g5, hTu.kept (fun x _ _ k => h1.2.2 x (by omega) (by omega) k), h1.2.1, h1.1, (h1.2.2 _ (by omega) (by omega) _).trans g9, g10, fun k hk2 => (h1.2.2 _ (by omega) (by omega) k).trans (g11 k hk2)⟩

set_option maxHeartbeats 2000000 in
set_option maxRecDepth 20000 in
theorem t_c_setCapacity {M : Mm} {a : Nat} {σ : Sg} {T : Nat} (hL : LX10 M.1 M.2.1 a) (hC : CI (mI M) a σ) (hO : OkN T σ.1) (hT9 : T < 890000) {x : Int32} : Ct G base YX10_setCapacity 20 1 6 [.ref a, .int x] M (rC M a 3 4 (rs_setCapacity σ x) (sg_setCapacity σ x)) := by
  obtain ⟨hT, hS, hLt, h4, h5, h6, hLo, hSt, hNa⟩ := hO
  have h0 := hT.1
  have h1 := hT.2.1
  have hr := hT.2.2
  have h2 := hLt.1
  have h3 := hLt.2.1
  have hb0 := h0.2
  have hb1 := h1.2
  have hb2 := h2.2
  have hb3 := h3.2
  have hb4 := h4.2
  have ht6 : σ.1 6 = nI (nv σ.1 6) := h6.1
  have hh6 : nv σ.1 6 ≤ T := h6.2
  have hTT : TT (mI M) (a + 28) σ.1 := hC.2.2.2.1
  have hRS : RS (mI M) (a + 34) σ.1 := hC.2.2.2.2.1
  have hHR : HR (mI M) (a + 52) σ.2.1 σ.2.2.1 := hC.2.2.2.2.2.1
  have hpc : mI M (a + 28) 0 = nI (nv σ.1 0) := hTT.1.trans h0.1
  have hcc : mI M (a + 28) 2 = nI (nv σ.1 1) := hTT.2.2.1.trans h1.1
  have hlc : mI M (a + 34 + 2) 0 = nI (nv σ.1 2) := hRS.2.2.1.1.trans h2.1
  have hkc : mI M (a + 34 + 15) 0 = nI (nv σ.1 3) := hRS.2.2.2.2.1.trans h3.1
  have hrc : mI M (a + 34 + 13) 0 = nI (nv σ.1 4) := hRS.2.2.2.1.1.trans h4.1
  have htm : mI M (a + 34) 0 = nI (nv σ.1 6) := hRS.1.1.trans ht6
  by_cases hx : 1 ≤ x ∧ x ≤ 20
  · refine Ct.of IX10_setCapacity.1 (by simp [Value.category]) (Nat.le_of_ble_eq_true rfl) (fun X hX hN => ?_)
    show J G base X 0 0 M 0 [some (.ref a), some (.int x), none] []
    refine r_iload_n hX dX10_setCapacity_0 rfl ?_
    refine r_iconst (v := 1) hX dX10_setCapacity_1 (by decide) ?_
    refine r_icmp_lt (tgt := 11) hX dX10_setCapacity_2 (by decide) (fun c2 => absurd hx.1 (i_nle.mpr c2)) (fun c2 => ?_)
    refine r_iload_n hX dX10_setCapacity_5 rfl ?_
    refine r_bipush (v := 20) hX dX10_setCapacity_6 (by decide) ?_
    refine r_icmp_le (tgt := 19) hX dX10_setCapacity_8 (by decide) (fun c8 => ?_) (fun c8 => absurd hx.2 c8)
    refine r_aload_n hX dX10_setCapacity_19 rfl ?_
    refine r_getr hX dX10_setCapacity_20 fl_X10_47 rfl (LX10_s hL) (LX10_r7 hL) ?_
    refine r_aload_n hX dX10_setCapacity_23 rfl ?_
    refine r_getr hX dX10_setCapacity_24 fl_X10_40 rfl (LX10_s hL) (LX10_r6 hL) ?_
    refine r_iV1 hX dX10_setCapacity_27 IX0_keep ml_X10_273 rfl (LX0_s (LX10_o7 hL)) rfl (t_X0_keep (M := M) (LX10_o7 hL) (LX10_o6 hL) (by omega) hRS (σ := σ) rfl hHR) (by decide) (by decide) (by decide) (by decide) rfl (Nat.le_of_ble_eq_true rfl) (fun i1 h1 => ?_)
    show J G base X _ _ (wI M i1) _ _ _
    have hC1 : CI i1 a (keepS σ) := hC.keep h1.1 h1.2.1 h1.2.2
    have ho1 : outB i1 (mI M) a 208 := fun y hy k => h1.2.2 y (by omega) k
    refine r_aload_n hX dX10_setCapacity_30 rfl ?_
    refine r_getr hX dX10_setCapacity_31 fl_X10_40 rfl (LX10_s hL) (LX10_r6 hL) ?_
    refine rn_geti (v := σ.1 5) hX dX10_setCapacity_34 fl_X10_157 rfl (LX8_s (LX10_o6 hL)) h1.2.1.1.2.1 ?_
    refine r_istore2 hX dX10_setCapacity_37 rfl ?_
    refine r_aload_n hX dX10_setCapacity_38 rfl ?_
    refine r_getr hX dX10_setCapacity_39 fl_X10_40 rfl (LX10_s hL) (LX10_r6 hL) ?_
    refine r_iload_n hX dX10_setCapacity_42 rfl ?_
    refine r_puti hX dX10_setCapacity_43 fl_X10_157 rfl rfl (LX8_s (LX10_o6 hL)) ?_
    refine r_iload_n hX dX10_setCapacity_46 rfl ?_
    refine r_ireturn hX rfl rfl dX10_setCapacity_47 (by decide) (by decide) ?_
    refine rC.y (i := mI (uI (wI M i1) (a + 34) 1 x)) ?_ ?_ (fun y hy q => (congrFun (uIo (by omega)) q).trans (ho1 y hy q))
    · unfold rs_setCapacity
      rw [if_pos hx]
    · unfold sg_setCapacity
      rw [if_pos hx]
      exact hC1.row (capTT hC1.2.2.2.1 hT (Or.inl rfl)) (RS.nf (M := wI M i1) h1.2.1 (k := 1) (q := 5) (by omega)) (fun y h1 h2 q => congrFun (uIo (by omega)) q)
  · refine Ct.of IX10_setCapacity.1 (by simp [Value.category]) (Nat.le_of_ble_eq_true rfl) (fun X hX hN => ?_)
    show J G base X 0 0 M 0 [some (.ref a), some (.int x), none] []
    refine r_iload_n hX dX10_setCapacity_0 rfl ?_
    refine r_iconst (v := 1) hX dX10_setCapacity_1 (by decide) ?_
    refine r_icmp_lt (tgt := 11) hX dX10_setCapacity_2 (by decide) (fun c2 => ?_) (fun c2 => ?_)
    · refine r_throw hX thI0 dX10_setCapacity_11 dX10_setCapacity_14 dX10_setCapacity_15 dX10_setCapacity_18 (by decide) (by decide) (by decide) rfl ?_ (Nat.le_of_ble_eq_true rfl)
      refine rC.n0 (k := 1) ?_ rfl ?_
      · unfold rs_setCapacity
        rw [if_neg hx]
      · unfold sg_setCapacity
        rw [if_neg hx]
        exact hC
    · refine r_iload_n hX dX10_setCapacity_5 rfl ?_
      refine r_bipush (v := 20) hX dX10_setCapacity_6 (by decide) ?_
      refine r_icmp_le (tgt := 19) hX dX10_setCapacity_8 (by decide) (fun c8 => absurd ⟨i_nlt.mp c2, c8⟩ hx) (fun c8 => ?_)
      refine r_throw hX thI0 dX10_setCapacity_11 dX10_setCapacity_14 dX10_setCapacity_15 dX10_setCapacity_18 (by decide) (by decide) (by decide) rfl ?_ (Nat.le_of_ble_eq_true rfl)
      refine rC.n0 (k := 1) ?_ rfl ?_
      · unfold rs_setCapacity
        rw [if_neg hx]
      · unfold sg_setCapacity
        rw [if_neg hx]
        exact hC

