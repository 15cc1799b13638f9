variable {G : GG} {base : Nat}
theorem t8 : ∀ b : BitVec 8, (Int8.ofBitVec b).toInt32 = sbI b.toNat := by decide +kernel
/-- a byte, as both sides write it -/
theorem byt {y z : Int32} (h : ∀ i, i < 8 → bt y i = bt z i) : y.toInt8.toInt32 = sbI ((z &&& 255).toNatClampNeg) ∧ z &&& 255 = nI ((z &&& 255).toNatClampNeg) ∧ (z &&& 255).toNatClampNeg < 256 := by
  have e1 : y.toInt8 = Int8.ofBitVec (y.toBitVec.signExtend 8) := by
    first
      | rfl
      | (apply Int8.toBitVec_inj.1; simp)
  have hb : (y.toBitVec.signExtend 8).toNat < 256 := (y.toBitVec.signExtend 8).isLt
  have e2 : z &&& 255 = nI ((y.toBitVec.signExtend 8).toNat) := by
    apply b_ext
    intro i hi
    rw [b_and, b_255]
    show _ = (BitVec.ofNat 32 (y.toBitVec.signExtend 8).toNat).getLsbD i
    rw [BitVec.getLsbD_ofNat, show (y.toBitVec.signExtend 8).toNat.testBit i = (y.toBitVec.signExtend 8).getLsbD i from rfl, BitVec.getLsbD_signExtend]
    by_cases h8 : i < 8
    · rw [← h i h8]
      simp [h8, hi, bt]
      try omega
    · simp [h8, hi]
  have e3 : (z &&& 255).toNatClampNeg = (y.toBitVec.signExtend 8).toNat := by rw [e2]; exact nI_clamp (by omega)
  rw [e3]
  exact ⟨by rw [e1]; exact t8 _, e2, hb⟩
/-- byte k of a word -/
def byW (x : Int32) (k : Nat) : Nat := (usI x (nI (24 - 8 * k)) &&& 255).toNatClampNeg
theorem byW_s {x : Int32} {k : Nat} (hk : k < 4) : (x >>> (nI (24 - 8 * k) &&& 31)).toInt8.toInt32 = sbI (byW x k) ∧ usI x (nI (24 - 8 * k)) &&& 255 = nI (byW x k) ∧ byW x k < 256 := by
  refine byt fun i hi => ?_
  rw [b_sshr _ (by omega) x (by omega), if_pos (by omega)]
  unfold usI
  rw [b_ushr _ (by omega)]
/-- the words' bytes behind the others -/
def apU (u : Nat → Nat) (tl : Nat) (w0 w1 w2 w3 w4 : Int32) (m : Nat) : Nat → Nat := fun j => if tl ≤ j ∧ j < tl + m then byW (if (j - tl) / 4 = 0 then w0 else if (j - tl) / 4 = 1 then w1 else if (j - tl) / 4 = 2 then w2 else if (j - tl) / 4 = 3 then w3 else w4) ((j - tl) % 4) else u j
theorem apU_new {u : Nat → Nat} {tl : Nat} {w0 w1 w2 w3 w4 : Int32} {j : Nat} : apU u tl w0 w1 w2 w3 w4 (j + 1) (tl + j) = byW (if j / 4 = 0 then w0 else if j / 4 = 1 then w1 else if j / 4 = 2 then w2 else if j / 4 = 3 then w3 else w4) (j % 4) := by
  unfold apU
  rw [if_pos (⟨by omega, by omega⟩ : tl ≤ tl + j ∧ tl + j < tl + (j + 1)), show tl + j - tl = j by omega]
theorem apU_old {u : Nat → Nat} {tl : Nat} {w0 w1 w2 w3 w4 : Int32} {j k : Nat} (hk : k ≠ tl + j) : apU u tl w0 w1 w2 w3 w4 (j + 1) k = apU u tl w0 w1 w2 w3 w4 j k := by
  unfold apU
  by_cases h : tl ≤ k ∧ k < tl + j
  · rw [if_pos h, if_pos (⟨h.1, by omega⟩ : tl ≤ k ∧ k < tl + (j + 1))]
  · rw [if_neg h, if_neg (fun z => h ⟨z.1, by omega⟩ : ¬ (tl ≤ k ∧ k < tl + (j + 1)))]
def rs_append (σ : Sg) : Int32 ⊕ Nat := if 900 < σ.2.2.2.2.1 + 20 then .inl (-1) else .inl (nI (σ.2.2.2.2.1 + 20))
def sg_append (σ : Sg) (w0 w1 w2 w3 w4 : Int32) : Sg := if 900 < σ.2.2.2.2.1 + 20 then σ else (σ.1, σ.2.1, σ.2.2.1, apU σ.2.2.2.1 σ.2.2.2.2.1 w0 w1 w2 w3 w4 20, σ.2.2.2.2.1 + 20, σ.2.2.2.2.2)
def rs_truncate (σ : Sg) (x : Int32) : Int32 ⊕ Nat := match ix (σ.2.2.2.2.1 + 1) x with
  | none => .inl 0
  | some _ => .inl 1
def sg_truncate (σ : Sg) (x : Int32) : Sg := match ix (σ.2.2.2.2.1 + 1) x with
  | none => σ
  | some k => (σ.1, σ.2.1, σ.2.2.1, σ.2.2.2.1, k, σ.2.2.2.2.2)
def rs_undo (σ : Sg) : Int32 ⊕ Nat := if σ.2.2.1 = 0 then .inl (-1) else .inl (nI (σ.2.2.1 - 1))
def sg_undo (σ : Sg) : Sg := if σ.2.2.1 = 0 then σ else undoS σ
theorem RI.fr {i j : Nat → Nat → Int32} {a : Nat} {σ : Sg} (h : RI i a σ) (h1 : ∀ x, x ≠ a → j x = i x) (h2 : ∀ k, k ≠ 7 → j a k = i a k) {m : Nat} (h3 : j a 7 = nI m) (h4 : m ≤ σ.2.2.2.2.1) : RI j a (σ.1, σ.2.1, σ.2.2.1, σ.2.2.2.1, m, σ.2.2.2.2.2) := by
  obtain ⟨g1, g2, g3, g4, g5, g6, g7, g8, g9, g10⟩ := h
  have h900 := g5.2
  exact ⟨(h1 _ (by omega)).trans g1, (h1 _ (by omega)).trans g2, ⟨(h2 4 (by omega)).trans g3.1, g3.2⟩, fun k (hk : k < m) => ⟨(g4 k (by omega)).1, (congrFun (h1 _ (by omega)) k).trans (g4 k (by omega)).2⟩, ⟨h3, by show m ≤ 900; omega⟩, (h1 _ (by omega)).trans g6, (h2 13 (by omega)).trans g7, (h2 14 (by omega)).trans g8, fun k hk => ⟨(g9 k hk).1, (congrFun (h1 _ (by omega)) k).trans (g9 k hk).2⟩, (h2 23 (by omega)).trans g10.1, g10.2⟩
set_option maxHeartbeats 2000000 in
set_option maxRecDepth 20000 in
theorem t_X11_truncate {M : Mm} {a : Nat} {σ : Sg} {T : Nat} (hL : LX11 M.1 M.2.1 a) (hR : RI (mI M) a σ) (hO : OkN T σ.1) (hT9 : T < 890000) {x : Int32} : Ct G base YX11_truncate 1 0 0 [.ref a, .int x] M (rV M (pQ M a (rs_truncate σ x) (sg_truncate σ x))) := by
  obtain ⟨hT, hS, hLt, h4, h5, h6, hLo, hSt, hNa⟩ := hO
  have h0 := hT.1
  have h1 := hT.2.1
  have hr := hT.2.2
  have h2 := hLt.1
  have h3 := hLt.2.1
  have hb0 := h0.2
  have hb1 := h1.2
  have hb2 := h2.2
  have hb3 := h3.2
  have hb4 := h4.2
  have ht6 : σ.1 6 = nI (nv σ.1 6) := h6.1
  have hh6 : nv σ.1 6 ≤ T := h6.2
  have htl := hR.2.2.2.2.1.2
  by_cases hx : ∃ c, c < σ.2.2.2.2.1 + 1 ∧ x = nI c
  · obtain ⟨k, hk, rfl⟩ := hx
    refine Ct.of IX11_truncate.1 (by simp [Value.category]) (Nat.le_of_ble_eq_true rfl) (fun X hX hN => ?_)
    show J G base X 0 0 M 0 [some (.ref a), some (.int (nI k))] []
    refine r_aload_n hX dX11_truncate_0 rfl ?_
    refine r_iconst (v := nI 0) hX dX11_truncate_1 (by decide) ?_
    refine r_puti hX dX11_truncate_2 fl_X11_3 rfl rfl (LX11_s hL) ?_
    refine J.gen (M0 := M) rfl (fun i0 h00 => ?_)
    obtain ⟨hR0, hn0, ht0, ho0⟩ := pub0 hR h00
    clear h00
    refine r_iload_n hX dX11_truncate_5 rfl ?_
    refine rn_if_lt (tgt := 17) hX dX11_truncate_6 (by decide) rfl (by omega) ?_
    refine r_iload_n hX dX11_truncate_9 rfl ?_
    refine r_aload_n hX dX11_truncate_10 rfl ?_
    refine rn_geti (v := nI σ.2.2.2.2.1) hX dX11_truncate_11 fl_X11_89 rfl (LX11_s hL) hR0.2.2.2.2.1.1 ?_
    refine rn_icmp_le (tgt := 19) hX dX11_truncate_14 (by decide) rfl rfl (by omega) (by omega) (fun c14 => ?_) (fun c14 => by omega)
    refine r_aload_n hX dX11_truncate_19 rfl ?_
    refine r_iload_n hX dX11_truncate_20 rfl ?_
    refine r_puti hX dX11_truncate_21 fl_X11_89 rfl rfl (LX11_s hL) ?_
    refine r_iconst (v := 1) hX dX11_truncate_24 (by decide) ?_
    refine r_ireturn hX rfl rfl dX11_truncate_25 (by decide) (by decide) ?_
    refine ⟨_, mI (uI (wI M i0) a 7 (nI k)), rfl, rfl, ?_, ?_, fun x hx k => (congrFun (uIo (by omega)) k).trans (ho0 x hx k)⟩
    · unfold sg_truncate
      rw [ix_of hk (by omega)]
      exact hR0.fr (fun x hx => uIo hx) (fun q hq => by simp [mI_uI, hq, mI_wI]) (by simp [mI_uI]) (by omega)
    · unfold rs_truncate
      rw [ix_of hk (by omega)]
      exact ⟨rfl, by simp [mI_uI, mI_wI]; exact ht0⟩
  · refine Ct.of IX11_truncate.1 (by simp [Value.category]) (Nat.le_of_ble_eq_true rfl) (fun X hX hN => ?_)
    show J G base X 0 0 M 0 [some (.ref a), some (.int x)] []
    refine r_aload_n hX dX11_truncate_0 rfl ?_
    refine r_iconst (v := nI 0) hX dX11_truncate_1 (by decide) ?_
    refine r_puti hX dX11_truncate_2 fl_X11_3 rfl rfl (LX11_s hL) ?_
    refine J.gen (M0 := M) rfl (fun i0 h00 => ?_)
    obtain ⟨hR0, hn0, ht0, ho0⟩ := pub0 hR h00
    clear h00
    refine r_iload_n hX dX11_truncate_5 rfl ?_
    refine r_if_lt (tgt := 17) hX dX11_truncate_6 (by decide) (fun c6 => ?_) (fun c6 => ?_)
    · refine r_iconst (v := 0) hX dX11_truncate_17 (by decide) ?_
      refine r_ireturn hX rfl rfl dX11_truncate_18 (by decide) (by decide) ?_
      refine ⟨_, i0, rfl, rfl, ?_, ?_, ho0⟩
      · unfold sg_truncate
        rw [ix_no hx]
        exact hR0
      · unfold rs_truncate
        rw [ix_no hx]
        exact ⟨rfl, ht0⟩
    · refine r_iload_n hX dX11_truncate_9 rfl ?_
      refine r_aload_n hX dX11_truncate_10 rfl ?_
      refine rn_geti (v := nI σ.2.2.2.2.1) hX dX11_truncate_11 fl_X11_89 rfl (LX11_s hL) hR0.2.2.2.2.1.1 ?_
      refine r_icmp_le (tgt := 19) hX dX11_truncate_14 (by decide) (fun c14 => ?_) (fun c14 => ?_)
      · exfalso
        exact hx ((rng2 (by omega)).mp ⟨i_nlt.mp c6, c14⟩)
      · refine r_iconst (v := 0) hX dX11_truncate_17 (by decide) ?_
        refine r_ireturn hX rfl rfl dX11_truncate_18 (by decide) (by decide) ?_
        refine ⟨_, i0, rfl, rfl, ?_, ?_, ho0⟩
        · unfold sg_truncate
          rw [ix_no hx]
          exact hR0
        · unfold rs_truncate
          rw [ix_no hx]
          exact ⟨rfl, ht0⟩

set_option maxHeartbeats 2000000 in
set_option maxRecDepth 20000 in
theorem t_X11_undo {M : Mm} {a : Nat} {σ : Sg} {T : Nat} (hL : LX11 M.1 M.2.1 a) (hR : RI (mI M) a σ) (hO : OkN T σ.1) (hT9 : T < 890000) : Ct G base YX11_undo 4 0 0 [.ref a] M (rV M (pQ M a (rs_undo σ) (sg_undo σ))) := by
  obtain ⟨hT, hS, hLt, h4, h5, h6, hLo, hSt, hNa⟩ := hO
  have h0 := hT.1
  have h1 := hT.2.1
  have hr := hT.2.2
  have h2 := hLt.1
  have h3 := hLt.2.1
  have hb0 := h0.2
  have hb1 := h1.2
  have hb2 := h2.2
  have hb3 := h3.2
  have hb4 := h4.2
  have ht6 : σ.1 6 = nI (nv σ.1 6) := h6.1
  have hh6 : nv σ.1 6 ≤ T := h6.2
  have hd8 := hR.2.2.1.2
  refine Ct.of IX11_undo.1 (by simp [Value.category]) (Nat.le_of_ble_eq_true rfl) (fun X hX hN => ?_)
  show J G base X 0 0 M 0 [some (.ref a)] []
  refine r_aload_n hX dX11_undo_0 rfl ?_
  refine r_iconst (v := nI 0) hX dX11_undo_1 (by decide) ?_
  refine r_puti hX dX11_undo_2 fl_X11_3 rfl rfl (LX11_s hL) ?_
  refine J.gen (M0 := M) rfl (fun i0 h00 => ?_)
  obtain ⟨hR0, hn0, ht0, ho0⟩ := pub0 hR h00
  clear h00
  refine r_aload_n hX dX11_undo_5 rfl ?_
  refine rn_geti (v := nI σ.2.2.1) hX dX11_undo_6 fl_X11_60 rfl (LX11_s hL) hR0.2.2.1.1 ?_
  refine rn_if_ne (tgt := 14) hX dX11_undo_9 (by decide) rfl (by omega) (fun c9 => ?_) (fun c9 => ?_)
  · refine r_aload_n hX dX11_undo_14 rfl ?_
    refine r_dup hX dX11_undo_15 rfl ?_
    refine rn_geti (v := nI σ.2.2.1) hX dX11_undo_16 fl_X11_60 rfl (LX11_s hL) hR0.2.2.1.1 ?_
    refine r_iconst (v := nI 1) hX dX11_undo_19 (by decide) ?_
    refine rn_isub hX dX11_undo_20 rfl rfl (by omega) ?_
    refine r_puti hX dX11_undo_21 fl_X11_60 rfl rfl (LX11_s hL) ?_
    refine r_aload_n hX dX11_undo_24 rfl ?_
    refine r_aload_n hX dX11_undo_25 rfl ?_
    refine r_getr hX dX11_undo_26 fl_X11_20 rfl (LX11_s hL) (LX11_r3 hL) ?_
    refine r_sipush (v := nI 1158) hX dX11_undo_29 (by decide) ?_
    refine r_aload_n hX dX11_undo_32 rfl ?_
    refine rn_geti (v := nI (σ.2.2.1 - 1)) hX dX11_undo_33 fl_X11_60 rfl (LX11_s hL) (by simp [mI_uI]) ?_
    refine rn_imul hX dX11_undo_36 rfl rfl ?_
    refine r_aload_n hX dX11_undo_37 rfl ?_
    refine r_getr hX dX11_undo_38 fl_X11_13 rfl (LX11_s hL) (LX11_r1 hL) ?_
    refine r_iconst (v := nI 0) hX dX11_undo_41 (by decide) ?_
    refine r_iV4 hX dX11_undo_42 IX11_copies ml_X11_63 rfl (LX11_s hL) rfl (t_X11_copies (M := uI (wI M i0) a 4 (nI (σ.2.2.1 - 1))) (x := 1158 * (σ.2.2.1 - 1)) (y := 0) (LX11_a3 hL) (LX11_a1 hL) (by omega) (by omega) (by omega) (by omega) (by omega)) (by decide) (by decide) (by decide) (by decide) rfl (Nat.le_of_ble_eq_true rfl) (fun i2 h2 => ?_)
    show J G base X _ _ (wI M i2) _ _ _
    refine r_aload_n hX dX11_undo_45 rfl ?_
    refine rn_geti (v := nI (σ.2.2.1 - 1)) hX dX11_undo_46 fl_X11_60 rfl (LX11_s hL) (by show i2 a 4 = _; rw [h2.2 _ (by omega)]; simp [mI_uI]) ?_
    refine r_ireturn hX rfl rfl dX11_undo_49 (by decide) (by decide) ?_
    have e0 : ¬ σ.2.2.1 = 0 := c9
    have e2 : ∀ x, x ≠ a → x ≠ a + 1 → i2 x = i0 x := fun x hx hx2 => (h2.2 x hx2).trans (uIo hx)
    have ea : ∀ k, k ≠ 4 → i2 a k = i0 a k := fun k hk => by rw [h2.2 a (by omega)]; simp [mI_uI, hk, mI_wI]
    have ea4 : i2 a 4 = nI (σ.2.2.1 - 1) := by rw [h2.2 a (by omega)]; simp [mI_uI]
    refine ⟨_, i2, rfl, rfl, ?_, ?_, fun x hx k => (congrFun (e2 x (by omega) (by omega)) k).trans (ho0 x hx k)⟩
    · unfold sg_undo
      rw [if_neg e0]
      obtain ⟨g1, g2, g3, g4, g5, g6, g7, g8, g9, g10⟩ := hR0
      refine ⟨?_, (e2 _ (by omega) (by omega)).trans g2, ⟨ea4, by show σ.2.2.1 - 1 ≤ 8; omega⟩, fun k hk => ⟨(g4 k hk).1, (congrFun (e2 _ (by omega) (by omega)) k).trans (g4 k hk).2⟩, ⟨(ea 7 (by omega)).trans g5.1, g5.2⟩, (e2 _ (by omega) (by omega)).trans g6, (ea 13 (by omega)).trans g7, (ea 14 (by omega)).trans g8, fun k hk => ⟨(g9 k hk).1, (congrFun (e2 _ (by omega) (by omega)) k).trans (g9 k hk).2⟩, (ea 23 (by omega)).trans g10.1, g10.2⟩
      funext q
      rw [h2.1 q, show mI (uI (wI M i0) a 4 (nI (σ.2.2.1 - 1))) (a + 3) = σ.2.1 from (uIo (by omega)).trans g2, show mI (uI (wI M i0) a 4 (nI (σ.2.2.1 - 1))) (a + 1) = σ.1 from (uIo (by omega)).trans hn0]
      show _ = rowP σ (σ.2.2.1 - 1) q
      unfold rowP
      by_cases hq : q < 1158
      · rw [if_pos ⟨by omega, by omega⟩, if_pos hq, Nat.sub_zero]
      · rw [if_neg (fun z => hq (by omega)), if_neg hq]
    · unfold rs_undo
      rw [if_neg e0]
      exact ⟨rfl, (ea 0 (by omega)).trans ht0⟩
  · refine r_iconst (v := (-1)) hX dX11_undo_12 (by decide) ?_
    refine r_ireturn hX rfl rfl dX11_undo_13 (by decide) (by decide) ?_
    have e0 : σ.2.2.1 = 0 := c9
    refine ⟨_, i0, rfl, rfl, ?_, ?_, ho0⟩
    · unfold sg_undo
      rw [if_pos e0]
      exact hR0
    · unfold rs_undo
      rw [if_pos e0]
      exact ⟨rfl, ht0⟩

set_option maxHeartbeats 2000000 in
set_option maxRecDepth 20000 in
theorem t_X11_append {M : Mm} {a : Nat} {σ : Sg} {T : Nat} (hL : LX11 M.1 M.2.1 a) (hR : RI (mI M) a σ) (hO : OkN T σ.1) (hT9 : T < 890000) {w0 w1 w2 w3 w4 : Int32} : Ct G base YX11_append 1 0 0 [.ref a, .int w0, .int w1, .int w2, .int w3, .int w4] M (rV M (pQ M a (rs_append σ) (sg_append σ w0 w1 w2 w3 w4))) := by
  obtain ⟨hT, hS, hLt, h4, h5, h6, hLo, hSt, hNa⟩ := hO
  have h0 := hT.1
  have h1 := hT.2.1
  have hr := hT.2.2
  have h2 := hLt.1
  have h3 := hLt.2.1
  have hb0 := h0.2
  have hb1 := h1.2
  have hb2 := h2.2
  have hb3 := h3.2
  have hb4 := h4.2
  have ht6 : σ.1 6 = nI (nv σ.1 6) := h6.1
  have hh6 : nv σ.1 6 ≤ T := h6.2
  have htl := hR.2.2.2.2.1.2
  refine Ct.of IX11_append.1 (by simp [Value.category]) (Nat.le_of_ble_eq_true rfl) (fun X hX hN => ?_)
  show J G base X 0 0 M 0 [some (.ref a), some (.int w0), some (.int w1), some (.int w2), some (.int w3), some (.int w4), none] []
  refine r_aload_n hX dX11_append_0 rfl ?_
  refine r_iconst (v := nI 0) hX dX11_append_1 (by decide) ?_
  refine r_puti hX dX11_append_2 fl_X11_3 rfl rfl (LX11_s hL) ?_
  refine J.gen (M0 := M) rfl (fun i0 h00 => ?_)
  obtain ⟨hR0, hn0, ht0, ho0⟩ := pub0 hR h00
  clear h00
  refine r_aload_n hX dX11_append_5 rfl ?_
  refine rn_geti (v := nI σ.2.2.2.2.1) hX dX11_append_6 fl_X11_89 rfl (LX11_s hL) hR0.2.2.2.2.1.1 ?_
  refine r_bipush (v := nI 20) hX dX11_append_9 (by decide) ?_
  refine rn_iadd hX dX11_append_11 rfl rfl ?_
  refine r_sipush (v := nI 900) hX dX11_append_12 (by decide) ?_
  refine rn_icmp_le (tgt := 20) hX dX11_append_15 (by decide) rfl rfl (by omega) (by omega) (fun c15 => ?_) (fun c15 => ?_)
  · refine r_aload_n hX dX11_append_20 rfl ?_
    refine r_getr hX dX11_append_21 fl_X11_27 rfl (LX11_s hL) (LX11_r6 hL) ?_
    refine r_iconst (v := nI 0) hX dX11_append_24 (by decide) ?_
    refine r_iload_n hX dX11_append_25 rfl ?_
    refine rn_iast hX dX11_append_26 (LX11_a6 hL) rfl (by omega) (by omega) ?_
    refine r_aload_n hX dX11_append_27 rfl ?_
    refine r_getr hX dX11_append_28 fl_X11_27 rfl (LX11_s hL) (LX11_r6 hL) ?_
    refine r_iconst (v := nI 1) hX dX11_append_31 (by decide) ?_
    refine r_iload_n hX dX11_append_32 rfl ?_
    refine rn_iast hX dX11_append_33 (LX11_a6 hL) rfl (by omega) (by omega) ?_
    refine r_aload_n hX dX11_append_34 rfl ?_
    refine r_getr hX dX11_append_35 fl_X11_27 rfl (LX11_s hL) (LX11_r6 hL) ?_
    refine r_iconst (v := nI 2) hX dX11_append_38 (by decide) ?_
    refine r_iload_n hX dX11_append_39 rfl ?_
    refine rn_iast hX dX11_append_40 (LX11_a6 hL) rfl (by omega) (by omega) ?_
    refine r_aload_n hX dX11_append_41 rfl ?_
    refine r_getr hX dX11_append_42 fl_X11_27 rfl (LX11_s hL) (LX11_r6 hL) ?_
    refine r_iconst (v := nI 3) hX dX11_append_45 (by decide) ?_
    refine r_iload hX dX11_append_46 rfl ?_
    refine rn_iast hX dX11_append_48 (LX11_a6 hL) rfl (by omega) (by omega) ?_
    refine r_aload_n hX dX11_append_49 rfl ?_
    refine r_getr hX dX11_append_50 fl_X11_27 rfl (LX11_s hL) (LX11_r6 hL) ?_
    refine r_iconst (v := nI 4) hX dX11_append_53 (by decide) ?_
    refine r_iload hX dX11_append_54 rfl ?_
    refine rn_iast hX dX11_append_56 (LX11_a6 hL) rfl (by omega) (by omega) ?_
    refine J.gen (M0 := M) rfl (fun i1 h1' => ?_)
    have g5 : ∀ k, k < 5 → i1 (a + 5) k = (if k = 0 then w0 else if k = 1 then w1 else if k = 2 then w2 else if k = 3 then w3 else w4) := fun k hk => by
      rw [h1']
      simp only [mI_uI, if_true]
      rcases (show k = 0 ∨ k = 1 ∨ k = 2 ∨ k = 3 ∨ k = 4 by omega) with rfl | rfl | rfl | rfl | rfl <;> simp
    have go : ∀ x, x ≠ a + 5 → i1 x = i0 x := fun x hx => by
      funext k
      rw [h1']
      simp [mI_uI, hx, mI_wI]
    clear h1'
    refine r_iconst (v := nI 0) hX dX11_append_57 (by decide) ?_
    refine r_istore6 hX dX11_append_58 rfl ?_
    have htap : ∀ k, k < σ.2.2.2.2.1 → i1 (a + 4) k = sbI (σ.2.2.2.1 k) := fun k hk => by rw [go _ (by omega)]; exact (hR0.2.2.2.1 k hk).2
    refine loop_us (σ := Nat → Nat → Int32) (P := fun j i => ((∀ k, k < σ.2.2.2.2.1 + j → i (a + 4) k = sbI (apU σ.2.2.2.1 σ.2.2.2.2.1 w0 w1 w2 w3 w4 j k)) ∧ ∀ x, x ≠ a + 4 → i x = i1 x) → J G base X 0 0 (wI M i) 60 [some (.ref a), some (.int w0), some (.int w1), some (.int w2), some (.int w3), some (.int w4), some (.int (nI j))] []) 20 (fun j i hj ih hi => ?_) 0 i1 (Nat.zero_le _) ⟨fun k hk => by unfold apU; rw [if_neg (by omega)]; exact htap k (by omega), fun _ _ => rfl⟩
    have e7 : mI (wI M i) a 7 = nI σ.2.2.2.2.1 := (congrFun ((hi.2 a (by omega)).trans (go a (by omega))) 7).trans hR0.2.2.2.2.1.1
    have e5 : ∀ k, k < 5 → mI (wI M i) (a + 5) k = (if k = 0 then w0 else if k = 1 then w1 else if k = 2 then w2 else if k = 3 then w3 else w4) := fun k hk => by show i (a + 5) k = _; rw [hi.2 _ (by omega)]; exact g5 k hk
    refine r_iload hX dX11_append_60 rfl ?_
    refine r_bipush (v := nI 20) hX dX11_append_62 (by decide) ?_
    refine rn_icmp_ge (tgt := 106) hX dX11_append_64 (by decide) rfl rfl (by omega) (by omega) (fun c64 => ?_) (fun c64 => ?_)
    · refine r_aload_n hX dX11_append_106 rfl ?_
      refine r_dup hX dX11_append_107 rfl ?_
      refine rn_geti (v := nI σ.2.2.2.2.1) hX dX11_append_108 fl_X11_89 rfl (LX11_s hL) e7 ?_
      refine r_bipush (v := nI 20) hX dX11_append_111 (by decide) ?_
      refine rn_iadd hX dX11_append_113 rfl rfl ?_
      refine r_puti hX dX11_append_114 fl_X11_89 rfl rfl (LX11_s hL) ?_
      refine r_aload_n hX dX11_append_117 rfl ?_
      refine rn_geti (v := nI (σ.2.2.2.2.1 + 20)) hX dX11_append_118 fl_X11_89 rfl (LX11_s hL) (by simp [mI_uI]) ?_
      refine r_ireturn hX rfl rfl dX11_append_121 (by decide) (by decide) ?_
      obtain rfl : j = 20 := by omega
      have ei : ∀ x, x ≠ a → x ≠ a + 4 → x ≠ a + 5 → mI (uI (wI M i) a 7 (nI (σ.2.2.2.2.1 + 20))) x = i0 x := fun x h1 h2 h3 => (uIo h1).trans ((hi.2 x h2).trans (go x h3))
      have ea : ∀ k, k ≠ 7 → mI (uI (wI M i) a 7 (nI (σ.2.2.2.2.1 + 20))) a k = i0 a k := fun k hk => by
        simp only [mI_uI, if_true]
        rw [if_neg hk]
        exact congrFun ((hi.2 a (by omega)).trans (go a (by omega))) k
      refine ⟨_, mI (uI (wI M i) a 7 (nI (σ.2.2.2.2.1 + 20))), rfl, rfl, ?_, ?_, fun x hx k => (congrFun (ei x (by omega) (by omega) (by omega)) k).trans (ho0 x hx k)⟩
      · unfold sg_append
        rw [if_neg (by omega)]
        obtain ⟨g1, g2, g3, g4, g5', g6, g7, g8, g9, g10⟩ := hR0
        refine ⟨(ei _ (by omega) (by omega) (by omega)).trans g1, (ei _ (by omega) (by omega) (by omega)).trans g2, ⟨(ea 4 (by omega)).trans g3.1, g3.2⟩, fun k (hk : k < σ.2.2.2.2.1 + 20) => ⟨?_, ?_⟩, ⟨by simp [mI_uI], by show σ.2.2.2.2.1 + 20 ≤ 900; omega⟩, (ei _ (by omega) (by omega) (by omega)).trans g6, (ea 13 (by omega)).trans g7, (ea 14 (by omega)).trans g8, fun k hk => ⟨(g9 k hk).1, (congrFun (ei _ (by omega) (by omega) (by omega)) k).trans (g9 k hk).2⟩, (ea 23 (by omega)).trans g10.1, g10.2⟩
        · show apU σ.2.2.2.1 σ.2.2.2.2.1 w0 w1 w2 w3 w4 20 k < 256
          unfold apU
          split
          · exact (byW_s (by omega)).2.2
          · exact (g4 k (by omega)).1
        · rw [show mI (uI (wI M i) a 7 (nI (σ.2.2.2.2.1 + 20))) (a + 4) = i (a + 4) from uIo (by omega)]
          exact hi.1 k hk
      · unfold rs_append
        rw [if_neg (by omega)]
        exact ⟨rfl, (ea 0 (by omega)).trans ht0⟩
    · refine r_aload_n hX dX11_append_67 rfl ?_
      refine r_getr hX dX11_append_68 fl_X11_23 rfl (LX11_s hL) (LX11_r5 hL) ?_
      refine r_aload_n hX dX11_append_71 rfl ?_
      refine rn_geti (v := nI σ.2.2.2.2.1) hX dX11_append_72 fl_X11_89 rfl (LX11_s hL) e7 ?_
      refine r_iload hX dX11_append_75 rfl ?_
      refine rn_iadd hX dX11_append_77 rfl rfl ?_
      refine r_aload_n hX dX11_append_78 rfl ?_
      refine r_getr hX dX11_append_79 fl_X11_27 rfl (LX11_s hL) (LX11_r6 hL) ?_
      refine r_iload hX dX11_append_82 rfl ?_
      refine r_iconst (v := nI 4) hX dX11_append_84 (by decide) ?_
      refine rn_idiv hX dX11_append_85 rfl rfl (by decide) (by omega) ?_
      refine rn_iald hX dX11_append_86 (LX11_a6 hL) rfl (by omega) (by omega) ?_
      rw [e5 (j / 4) (by omega)]
      refine r_bipush (v := nI 24) hX dX11_append_87 (by decide) ?_
      refine r_bipush (v := nI 8) hX dX11_append_89 (by decide) ?_
      refine r_iload hX dX11_append_91 rfl ?_
      refine r_iconst (v := nI 4) hX dX11_append_93 (by decide) ?_
      refine rn_irem hX dX11_append_94 rfl rfl (by decide) (by omega) ?_
      refine rn_imul hX dX11_append_95 rfl rfl ?_
      refine rn_isub hX dX11_append_96 rfl rfl (by omega) ?_
      refine r_ishr hX dX11_append_97 ?_
      refine r_i2b hX dX11_append_98 ?_
      refine rn_bast hX dX11_append_99 (LX11_a5 hL) rfl (by omega) (by omega) ?_
      obtain ⟨b1', b2', b3'⟩ := byW_s (x := if j / 4 = 0 then w0 else if j / 4 = 1 then w1 else if j / 4 = 2 then w2 else if j / 4 = 3 then w3 else w4) (k := j % 4) (by omega)
      rw [b1']
      refine rn_iinc6 hX dX11_append_100 rfl rfl ?_
      refine r_goto (tgt := 60) hX dX11_append_103 (by decide) ?_
      refine ih (by omega) _ ⟨fun k hk => ?_, fun x hx => (uIo hx).trans (hi.2 x hx)⟩
      show mI (uI (wI M i) (a + 4) (σ.2.2.2.2.1 + j) _) (a + 4) k = _
      simp only [mI_uI, if_true]
      by_cases e : k = σ.2.2.2.2.1 + j
      · rw [if_pos e, e, apU_new]
        have hnar : ∀ x, x < 256 → vp_nar .byte (sbI x) = sbI x := by decide +kernel
        exact hnar _ b3'
      · rw [if_neg e]
        show i (a + 4) k = _
        rw [hi.1 k (by omega), apU_old e]
  · refine r_iconst (v := (-1)) hX dX11_append_18 (by decide) ?_
    refine r_ireturn hX rfl rfl dX11_append_19 (by decide) (by decide) ?_
    refine ⟨_, i0, rfl, rfl, ?_, ?_, ho0⟩
    · unfold sg_append
      rw [if_pos (by omega)]
      exact hR0
    · unfold rs_append
      rw [if_pos (by omega)]
      exact ⟨rfl, ht0⟩

