variable {G : GG} {base : Nat}
/-- a place's line; x is where it began, v 1 for a village -/
def plS (n : Nat → Int32) (x : Nat) (q : Q4) : Q4 := muQ (decide (nv n 0 < 10)) 4 (q.1, x, q.2.2)
def pcN (n : Nat → Int32) (x v : Nat) (u : Nat → Nat) (e : Nat) (q : Q4) : Nat → Int32 := if (plS n x q).2.2.1 = -1 then nwN (upd n (8 + nv n 0) (nI v)) 18 0 u e (plS n x q) else n
def plR (n : Nat → Int32) (x v : Nat) (u : Nat → Nat) (e : Nat) (q : Q4) : Q4 := if (plS n x q).2.2.1 = -1 then nwQ (upd n (8 + nv n 0) (nI v)) 18 0 u e (plS n x q) else plS n x q
def crS9 (n : Nat → Int32) (x : Nat) (q : Q4) : Q4 := muQ (decide (nv n 1 < 5)) 4 (q.1, x, q.2.2)
def crN (n : Nat → Int32) (x : Nat) (u : Nat → Nat) (e : Nat) (q : Q4) : Nat → Int32 := if (crS9 n x q).2.2.1 = -1 then nwN n 28 1 u e (crS9 n x q) else n
def crR (n : Nat → Int32) (x : Nat) (u : Nat → Nat) (e : Nat) (q : Q4) : Q4 := if (crS9 n x q).2.2.1 = -1 then nwQ n 28 1 u e (crS9 n x q) else crS9 n x q
theorem muQ_c {c : Bool} {k x p : Nat} {r : Int32 × Int32} (h : (muQ c k (p, x, r)).2.2.1 = -1) (hx : x < 2147483648) : c = true := (muQ_ok h hx).2.1
set_option maxHeartbeats 2000000 in
set_option maxRecDepth 20000 in
theorem t_X11_readPlace1 {M : Mm} {a e : Nat} {u : Nat → Nat} {q : Q4} {n : Nat → Int32} (hL : LX11 M.1 M.2.1 a) (hn : mI M (a + 1) = n) (h0 : Rn n 0 10) (hT : Tt (mI M) a u e) (hq : Pq (mI M) a q) (hp : q.1 ≤ e) {x : Nat} (hx : x < 100000) : Ct G base YX11_readPlace 6 0 0 [.ref a, .int (nI x), .int (nI 1)] M (rI none M (pW M a (pcN n x 1 u e q) (plR n x 1 u e q))) := by
  refine Ct.of IX11_readPlace.1 (by simp [Value.category]) (Nat.le_of_ble_eq_true rfl) (fun X hX hN => ?_)
  show J G base X 0 0 M 0 [some (.ref a), some (.int (nI x)), some (.int (nI 1))] []
  have he := hT.2.2
  have hb0 := h0.2
  have hr0 : n 0 = nI (nv n 0) := h0.1
  refine r_aload_n hX dX11_readPlace_0 rfl ?_
  refine r_iload_n hX dX11_readPlace_1 rfl ?_
  refine r_puti hX dX11_readPlace_2 fl_X11_112 rfl rfl (LX11_s hL) ?_
  refine J.gen (M0 := M) rfl (fun i0 hz => ?_)
  have h0p : pS M a (q.1, x, q.2.2) i0 := by
    rw [show i0 = mI (uI M a 9 (nI x)) from funext fun y => funext (hz y)]
    exact (pS.rf hq).put (by omega) (Pq9 hq)
  clear hz
  have hn0 : mI (wI M i0) (a + 1) = n := (h0p.2.1 _ (by omega)).trans hn
  have main : J G base X 0 0 (wI M i0) 20 [some (.ref a), some (.int (nI x)), some (.int (nI 1))] [.int (if nv n 0 < 10 then 1 else 0), .ref a] := by
    refine r_iconst (v := nI 4) hX dX11_readPlace_20 (by decide) ?_
    refine r_iV2 hX dX11_readPlace_21 IX11_must ml_X11_133 rfl (LX11_s hL) rfl (t_X11_must (M := wI M i0) (P := nv n 0 < 10) (k := 4) (q := (q.1, x, q.2.2)) hL h0p.1) (by decide) (by decide) (by decide) (by decide) rfl (Nat.le_of_ble_eq_true rfl) (fun i1 h1 => ?_)
    show J G base X _ _ (wI M i1) _ _ _
    replace h1 := h0p.tr h1
    change pS M a (plS n x q) i1 at h1
    have hn1 : mI (wI M i1) (a + 1) = n := (h1.2.1 _ (by omega)).trans hn
    have hp1 : (plS n x q).1 ≤ e := by unfold plS; rw [muQ_1]; exact hp
    refine r_aload_n hX dX11_readPlace_24 rfl ?_
    refine r_cV0 hX dX11_readPlace_25 IX11_hasFailed ml_X11_104 rfl (LX11_s hL) rfl (t_X11_hasFailed (M := wI M i1) hL h1.1) (by decide) (by decide) (by decide) (by decide) rfl (Nat.le_of_ble_eq_true rfl) ?_
    refine rb_if_eq (tgt := 32) hX dX11_readPlace_28 (by decide) rfl (fun c28 => ?_) (fun c28 => ?_)
    · have hlt : nv n 0 < 10 := of_decide_eq_true (muQ_c (Classical.not_not.mp c28) (by omega))
      refine r_aload_n hX dX11_readPlace_32 rfl ?_
      refine r_getr hX dX11_readPlace_33 fl_X11_13 rfl (LX11_s hL) (LX11_r1 hL) ?_
      refine r_bipush (v := nI 8) hX dX11_readPlace_36 (by decide) ?_
      refine r_aload_n hX dX11_readPlace_38 rfl ?_
      refine r_cV0 hX dX11_readPlace_39 IX11_places ml_X11_75 rfl (LX11_s hL) rfl (t_X11_places (M := wI M i1) hL hn1 h0) (by decide) (by decide) (by decide) (by decide) rfl (Nat.le_of_ble_eq_true rfl) ?_
      refine rn_iadd hX dX11_readPlace_42 rfl rfl ?_
      refine r_iload_n hX dX11_readPlace_43 rfl ?_
      refine rn_if_eq (tgt := 51) hX dX11_readPlace_44 (by decide) rfl (by omega) (fun c44 => absurd c44 (by decide)) (fun c44 => ?_)
      refine r_iconst (v := nI 1) hX dX11_readPlace_47 (by decide) ?_
      refine r_goto (tgt := 52) hX dX11_readPlace_48 (by decide) ?_
      refine rn_iast hX dX11_readPlace_52 (LX11_a1 hL) rfl (by omega) (by omega) ?_
      have hw : pW M a (upd n (8 + nv n 0) (nI 1)) (plS n x q) (mI (uI (wI M i1) (a + 1) (8 + nv n 0) (nI 1))) := (h1.w hn).row
      have hu0 : upd n (8 + nv n 0) (nI 1) 0 = n 0 := by show (if 0 = 8 + nv n 0 then _ else n 0) = n 0; exact if_neg (by omega)
      have hv0 : nv (upd n (8 + nv n 0) (nI 1)) 0 = nv n 0 := congrArg Int32.toNatClampNeg hu0
      refine r_aload_n hX dX11_readPlace_53 rfl ?_
      refine r_bipush (v := nI 18) hX dX11_readPlace_54 (by decide) ?_
      refine r_iconst (v := nI 0) hX dX11_readPlace_56 (by decide) ?_
      refine r_iV2 hX dX11_readPlace_57 IX11_readNew ml_X11_147 rfl (LX11_s hL) rfl (t_X11_readNew (M := uI (wI M i1) (a + 1) (8 + nv n 0) (nI 1)) hL hw.2.1 (by rw [hv0, hu0]; exact hr0) (by rw [hv0]; exact hlt) (by omega) (by omega) (hw.tt hT) hw.1 hp1) (by decide) (by decide) (by decide) (by decide) rfl (Nat.le_of_ble_eq_true rfl) (fun i2 h2 => ?_)
      show J G base X _ _ (wI M i2) _ _ _
      replace h2 := hw.tr (i := mI (uI (wI M i1) (a + 1) (8 + nv n 0) (nI 1))) h2
      refine r_return hX rfl dX11_readPlace_60 (by decide) (by decide) ?_
      refine ⟨rfl, i2, rfl, ?_⟩
      unfold pcN plR
      rw [if_pos (Classical.not_not.mp c28), if_pos (Classical.not_not.mp c28)]
      exact h2
    · refine r_return hX rfl dX11_readPlace_31 (by decide) (by decide) ?_
      refine ⟨rfl, i1, rfl, ?_⟩
      unfold pcN plR
      rw [if_neg c28, if_neg c28]
      exact h1.w hn
  refine r_aload_n hX dX11_readPlace_5 rfl ?_
  refine r_aload_n hX dX11_readPlace_6 rfl ?_
  refine r_cV0 hX dX11_readPlace_7 IX11_places ml_X11_75 rfl (LX11_s hL) rfl (t_X11_places (M := wI M i0) hL hn0 h0) (by decide) (by decide) (by decide) (by decide) rfl (Nat.le_of_ble_eq_true rfl) ?_
  refine r_bipush (v := nI 10) hX dX11_readPlace_10 (by decide) ?_
  refine rn_icmp_ge (tgt := 19) hX dX11_readPlace_12 (by decide) rfl rfl (by omega) (by omega) (fun c12 => ?_) (fun c12 => ?_)
  · refine r_iconst (v := nI 0) hX dX11_readPlace_19 (by decide) ?_
    have hP : ¬ (nv n 0 < 10) := by omega
    have z := main
    rw [if_neg hP] at z
    exact z
  · refine r_iconst (v := nI 1) hX dX11_readPlace_15 (by decide) ?_
    refine r_goto (tgt := 20) hX dX11_readPlace_16 (by decide) ?_
    have hP : (nv n 0 < 10) := c12
    have z := main
    rw [if_pos hP] at z
    exact z
set_option maxHeartbeats 2000000 in
set_option maxRecDepth 20000 in
theorem t_X11_readPlace0 {M : Mm} {a e : Nat} {u : Nat → Nat} {q : Q4} {n : Nat → Int32} (hL : LX11 M.1 M.2.1 a) (hn : mI M (a + 1) = n) (h0 : Rn n 0 10) (hT : Tt (mI M) a u e) (hq : Pq (mI M) a q) (hp : q.1 ≤ e) {x : Nat} (hx : x < 100000) : Ct G base YX11_readPlace 6 0 0 [.ref a, .int (nI x), .int (nI 0)] M (rI none M (pW M a (pcN n x 0 u e q) (plR n x 0 u e q))) := by
  refine Ct.of IX11_readPlace.1 (by simp [Value.category]) (Nat.le_of_ble_eq_true rfl) (fun X hX hN => ?_)
  show J G base X 0 0 M 0 [some (.ref a), some (.int (nI x)), some (.int (nI 0))] []
  have he := hT.2.2
  have hb0 := h0.2
  have hr0 : n 0 = nI (nv n 0) := h0.1
  refine r_aload_n hX dX11_readPlace_0 rfl ?_
  refine r_iload_n hX dX11_readPlace_1 rfl ?_
  refine r_puti hX dX11_readPlace_2 fl_X11_112 rfl rfl (LX11_s hL) ?_
  refine J.gen (M0 := M) rfl (fun i0 hz => ?_)
  have h0p : pS M a (q.1, x, q.2.2) i0 := by
    rw [show i0 = mI (uI M a 9 (nI x)) from funext fun y => funext (hz y)]
    exact (pS.rf hq).put (by omega) (Pq9 hq)
  clear hz
  have hn0 : mI (wI M i0) (a + 1) = n := (h0p.2.1 _ (by omega)).trans hn
  have main : J G base X 0 0 (wI M i0) 20 [some (.ref a), some (.int (nI x)), some (.int (nI 0))] [.int (if nv n 0 < 10 then 1 else 0), .ref a] := by
    refine r_iconst (v := nI 4) hX dX11_readPlace_20 (by decide) ?_
    refine r_iV2 hX dX11_readPlace_21 IX11_must ml_X11_133 rfl (LX11_s hL) rfl (t_X11_must (M := wI M i0) (P := nv n 0 < 10) (k := 4) (q := (q.1, x, q.2.2)) hL h0p.1) (by decide) (by decide) (by decide) (by decide) rfl (Nat.le_of_ble_eq_true rfl) (fun i1 h1 => ?_)
    show J G base X _ _ (wI M i1) _ _ _
    replace h1 := h0p.tr h1
    change pS M a (plS n x q) i1 at h1
    have hn1 : mI (wI M i1) (a + 1) = n := (h1.2.1 _ (by omega)).trans hn
    have hp1 : (plS n x q).1 ≤ e := by unfold plS; rw [muQ_1]; exact hp
    refine r_aload_n hX dX11_readPlace_24 rfl ?_
    refine r_cV0 hX dX11_readPlace_25 IX11_hasFailed ml_X11_104 rfl (LX11_s hL) rfl (t_X11_hasFailed (M := wI M i1) hL h1.1) (by decide) (by decide) (by decide) (by decide) rfl (Nat.le_of_ble_eq_true rfl) ?_
    refine rb_if_eq (tgt := 32) hX dX11_readPlace_28 (by decide) rfl (fun c28 => ?_) (fun c28 => ?_)
    · have hlt : nv n 0 < 10 := of_decide_eq_true (muQ_c (Classical.not_not.mp c28) (by omega))
      refine r_aload_n hX dX11_readPlace_32 rfl ?_
      refine r_getr hX dX11_readPlace_33 fl_X11_13 rfl (LX11_s hL) (LX11_r1 hL) ?_
      refine r_bipush (v := nI 8) hX dX11_readPlace_36 (by decide) ?_
      refine r_aload_n hX dX11_readPlace_38 rfl ?_
      refine r_cV0 hX dX11_readPlace_39 IX11_places ml_X11_75 rfl (LX11_s hL) rfl (t_X11_places (M := wI M i1) hL hn1 h0) (by decide) (by decide) (by decide) (by decide) rfl (Nat.le_of_ble_eq_true rfl) ?_
      refine rn_iadd hX dX11_readPlace_42 rfl rfl ?_
      refine r_iload_n hX dX11_readPlace_43 rfl ?_
      refine rn_if_eq (tgt := 51) hX dX11_readPlace_44 (by decide) rfl (by omega) (fun c44 => ?_) (fun c44 => absurd rfl c44)
      refine r_iconst (v := nI 0) hX dX11_readPlace_51 (by decide) ?_
      refine rn_iast hX dX11_readPlace_52 (LX11_a1 hL) rfl (by omega) (by omega) ?_
      have hw : pW M a (upd n (8 + nv n 0) (nI 0)) (plS n x q) (mI (uI (wI M i1) (a + 1) (8 + nv n 0) (nI 0))) := (h1.w hn).row
      have hu0 : upd n (8 + nv n 0) (nI 0) 0 = n 0 := by show (if 0 = 8 + nv n 0 then _ else n 0) = n 0; exact if_neg (by omega)
      have hv0 : nv (upd n (8 + nv n 0) (nI 0)) 0 = nv n 0 := congrArg Int32.toNatClampNeg hu0
      refine r_aload_n hX dX11_readPlace_53 rfl ?_
      refine r_bipush (v := nI 18) hX dX11_readPlace_54 (by decide) ?_
      refine r_iconst (v := nI 0) hX dX11_readPlace_56 (by decide) ?_
      refine r_iV2 hX dX11_readPlace_57 IX11_readNew ml_X11_147 rfl (LX11_s hL) rfl (t_X11_readNew (M := uI (wI M i1) (a + 1) (8 + nv n 0) (nI 0)) hL hw.2.1 (by rw [hv0, hu0]; exact hr0) (by rw [hv0]; exact hlt) (by omega) (by omega) (hw.tt hT) hw.1 hp1) (by decide) (by decide) (by decide) (by decide) rfl (Nat.le_of_ble_eq_true rfl) (fun i2 h2 => ?_)
      show J G base X _ _ (wI M i2) _ _ _
      replace h2 := hw.tr (i := mI (uI (wI M i1) (a + 1) (8 + nv n 0) (nI 0))) h2
      refine r_return hX rfl dX11_readPlace_60 (by decide) (by decide) ?_
      refine ⟨rfl, i2, rfl, ?_⟩
      unfold pcN plR
      rw [if_pos (Classical.not_not.mp c28), if_pos (Classical.not_not.mp c28)]
      exact h2
    · refine r_return hX rfl dX11_readPlace_31 (by decide) (by decide) ?_
      refine ⟨rfl, i1, rfl, ?_⟩
      unfold pcN plR
      rw [if_neg c28, if_neg c28]
      exact h1.w hn
  refine r_aload_n hX dX11_readPlace_5 rfl ?_
  refine r_aload_n hX dX11_readPlace_6 rfl ?_
  refine r_cV0 hX dX11_readPlace_7 IX11_places ml_X11_75 rfl (LX11_s hL) rfl (t_X11_places (M := wI M i0) hL hn0 h0) (by decide) (by decide) (by decide) (by decide) rfl (Nat.le_of_ble_eq_true rfl) ?_
  refine r_bipush (v := nI 10) hX dX11_readPlace_10 (by decide) ?_
  refine rn_icmp_ge (tgt := 19) hX dX11_readPlace_12 (by decide) rfl rfl (by omega) (by omega) (fun c12 => ?_) (fun c12 => ?_)
  · refine r_iconst (v := nI 0) hX dX11_readPlace_19 (by decide) ?_
    have hP : ¬ (nv n 0 < 10) := by omega
    have z := main
    rw [if_neg hP] at z
    exact z
  · refine r_iconst (v := nI 1) hX dX11_readPlace_15 (by decide) ?_
    refine r_goto (tgt := 20) hX dX11_readPlace_16 (by decide) ?_
    have hP : (nv n 0 < 10) := c12
    have z := main
    rw [if_pos hP] at z
    exact z
set_option maxHeartbeats 2000000 in
set_option maxRecDepth 20000 in
theorem t_X11_readCarrier {M : Mm} {a e : Nat} {u : Nat → Nat} {q : Q4} {n : Nat → Int32} (hL : LX11 M.1 M.2.1 a) (hn : mI M (a + 1) = n) (h0 : Rn n 0 10) (hT : Tt (mI M) a u e) (hq : Pq (mI M) a q) (hp : q.1 ≤ e) {x : Nat} (hx : x < 100000) (h1 : Rn n 1 5) : Ct G base YX11_readCarrier 6 0 0 [.ref a, .int (nI x)] M (rI none M (pW M a (crN n x u e q) (crR n x u e q))) := by
  refine Ct.of IX11_readCarrier.1 (by simp [Value.category]) (Nat.le_of_ble_eq_true rfl) (fun X hX hN => ?_)
  show J G base X 0 0 M 0 [some (.ref a), some (.int (nI x))] []
  have he := hT.2.2
  have hb1 := h1.2
  have hr1 : n 1 = nI (nv n 1) := h1.1
  have h1n := h1
  clear h1
  refine r_aload_n hX dX11_readCarrier_0 rfl ?_
  refine r_iload_n hX dX11_readCarrier_1 rfl ?_
  refine r_puti hX dX11_readCarrier_2 fl_X11_112 rfl rfl (LX11_s hL) ?_
  refine J.gen (M0 := M) rfl (fun i0 hz => ?_)
  have h0p : pS M a (q.1, x, q.2.2) i0 := by
    rw [show i0 = mI (uI M a 9 (nI x)) from funext fun y => funext (hz y)]
    exact (pS.rf hq).put (by omega) (Pq9 hq)
  clear hz
  have hn0 : mI (wI M i0) (a + 1) = n := (h0p.2.1 _ (by omega)).trans hn
  have main : J G base X 0 0 (wI M i0) 19 [some (.ref a), some (.int (nI x))] [.int (if nv n 1 < 5 then 1 else 0), .ref a] := by
    refine r_iconst (v := nI 4) hX dX11_readCarrier_19 (by decide) ?_
    refine r_iV2 hX dX11_readCarrier_20 IX11_must ml_X11_133 rfl (LX11_s hL) rfl (t_X11_must (M := wI M i0) (P := nv n 1 < 5) (k := 4) (q := (q.1, x, q.2.2)) hL h0p.1) (by decide) (by decide) (by decide) (by decide) rfl (Nat.le_of_ble_eq_true rfl) (fun i1 h1 => ?_)
    show J G base X _ _ (wI M i1) _ _ _
    replace h1 := h0p.tr h1
    change pS M a (crS9 n x q) i1 at h1
    have hn1 : mI (wI M i1) (a + 1) = n := (h1.2.1 _ (by omega)).trans hn
    have hp1 : (crS9 n x q).1 ≤ e := by unfold crS9; rw [muQ_1]; exact hp
    refine r_aload_n hX dX11_readCarrier_23 rfl ?_
    refine r_cV0 hX dX11_readCarrier_24 IX11_hasFailed ml_X11_104 rfl (LX11_s hL) rfl (t_X11_hasFailed (M := wI M i1) hL h1.1) (by decide) (by decide) (by decide) (by decide) rfl (Nat.le_of_ble_eq_true rfl) ?_
    refine rb_if_ne (tgt := 37) hX dX11_readCarrier_27 (by decide) rfl (fun c27 => ?_) (fun c27 => ?_)
    · refine r_return hX rfl dX11_readCarrier_37 (by decide) (by decide) ?_
      refine ⟨rfl, i1, rfl, ?_⟩
      unfold crN crR
      rw [if_neg c27, if_neg c27]
      exact h1.w hn
    · refine r_aload_n hX dX11_readCarrier_30 rfl ?_
      refine r_bipush (v := nI 28) hX dX11_readCarrier_31 (by decide) ?_
      refine r_iconst (v := nI 1) hX dX11_readCarrier_33 (by decide) ?_
      refine r_iV2 hX dX11_readCarrier_34 IX11_readNew ml_X11_147 rfl (LX11_s hL) rfl (t_X11_readNew (M := wI M i1) hL hn1 hr1 (by omega) (by omega) (by omega) (h1.tt hT) h1.1 hp1) (by decide) (by decide) (by decide) (by decide) rfl (Nat.le_of_ble_eq_true rfl) (fun i2 h2 => ?_)
      show J G base X _ _ (wI M i2) _ _ _
      replace h2 := (h1.w hn).tr h2
      refine r_return hX rfl dX11_readCarrier_37 (by decide) (by decide) ?_
      refine ⟨rfl, i2, rfl, ?_⟩
      unfold crN crR
      rw [if_pos (Classical.not_not.mp c27), if_pos (Classical.not_not.mp c27)]
      exact h2
  refine r_aload_n hX dX11_readCarrier_5 rfl ?_
  refine r_aload_n hX dX11_readCarrier_6 rfl ?_
  refine r_cV0 hX dX11_readCarrier_7 IX11_carriers ml_X11_151 rfl (LX11_s hL) rfl (t_X11_carriers (M := wI M i0) hL hn0 h1n) (by decide) (by decide) (by decide) (by decide) rfl (Nat.le_of_ble_eq_true rfl) ?_
  refine r_iconst (v := nI 5) hX dX11_readCarrier_10 (by decide) ?_
  refine rn_icmp_ge (tgt := 18) hX dX11_readCarrier_11 (by decide) rfl rfl (by omega) (by omega) (fun c11 => ?_) (fun c11 => ?_)
  · refine r_iconst (v := nI 0) hX dX11_readCarrier_18 (by decide) ?_
    have hP : ¬ (nv n 1 < 5) := by omega
    have z := main
    rw [if_neg hP] at z
    exact z
  · refine r_iconst (v := nI 1) hX dX11_readCarrier_14 (by decide) ?_
    refine r_goto (tgt := 19) hX dX11_readCarrier_15 (by decide) ?_
    have hP : (nv n 1 < 5) := c11
    have z := main
    rw [if_pos hP] at z
    exact z
