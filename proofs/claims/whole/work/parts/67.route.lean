variable {G : GG} {base : Nat}
/-- row and read row have changed -/
def pX (M : Mm) (a : Nat) (n rd : Nat → Int32) (q : Q4) (i : Nat → Nat → Int32) : Prop := Pq i a q ∧ i (a + 1) = n ∧ i (a + 6) = rd ∧ (∀ x, x ≠ a → x ≠ a + 1 → x ≠ a + 6 → i x = mI M x) ∧ ∀ k, k ≠ 8 → k ≠ 9 → k ≠ 11 → k ≠ 12 → i a k = mI M a k
theorem pW.x {M : Mm} {a : Nat} {n rd : Nat → Int32} {q : Q4} {i : Nat → Nat → Int32} (h : pW M a n q i) (hr : mI M (a + 6) = rd) : pX M a n rd q i := ⟨h.1, h.2.1, (h.2.2.1 _ (by omega) (by omega)).trans hr, fun x h1 h2 _ => h.2.2.1 x h1 h2, h.2.2.2⟩
theorem pR.x {M : Mm} {a : Nat} {n rd : Nat → Int32} {q : Q4} {i : Nat → Nat → Int32} (h : pR M a rd q i) (hn : mI M (a + 1) = n) : pX M a n rd q i := ⟨h.1, (h.2.2.1 _ (by omega) (by omega)).trans hn, h.2.1, fun x h1 _ h2 => h.2.2.1 x h1 h2, h.2.2.2⟩
theorem pS.trR {M : Mm} {a : Nat} {rd : Nat → Int32} {q q' : Q4} {i j : Nat → Nat → Int32} (h : pS M a q i) (h2 : pR (wI M i) a rd q' j) : pR M a rd q' j := ⟨h2.1, h2.2.1, fun x hx hy => (h2.2.2.1 x hx hy).trans (h.2.1 x hx), fun k h8 h9 h11 h12 => (h2.2.2.2 k h8 h9 h11 h12).trans (h.2.2 k h8 h9 h11 h12)⟩
theorem pX.tr {M : Mm} {a : Nat} {n n' rd rd' : Nat → Int32} {q q' : Q4} {i j : Nat → Nat → Int32} (h : pX M a n rd q i) (h2 : pX (wI M i) a n' rd' q' j) : pX M a n' rd' q' j := ⟨h2.1, h2.2.1, h2.2.2.1, fun x h1 h3 h4 => (h2.2.2.2.1 x h1 h3 h4).trans (h.2.2.2.1 x h1 h3 h4), fun k h8 h9 h11 h12 => (h2.2.2.2.2 k h8 h9 h11 h12).trans (h.2.2.2.2 k h8 h9 h11 h12)⟩
theorem pX.trS {M : Mm} {a : Nat} {n rd : Nat → Int32} {q q' : Q4} {i j : Nat → Nat → Int32} (h : pX M a n rd q i) (h2 : pS (wI M i) a q' j) : pX M a n rd q' j := h.tr ((h2.w h.2.1).x h.2.2.1)
theorem pX.tt {M : Mm} {a e : Nat} {u : Nat → Nat} {n rd : Nat → Int32} {q : Q4} {i : Nat → Nat → Int32} (h : pX M a n rd q i) (hT : Tt (mI M) a u e) : Tt i a u e := ⟨fun k hk => ⟨(hT.1 k hk).1, (congrFun (h.2.2.2.1 _ (by omega) (by omega) (by omega)) k).trans (hT.1 k hk).2⟩, (h.2.2.2.2 10 (by omega) (by omega) (by omega) (by omega)).trans hT.2.1, hT.2.2⟩
theorem pX.row {M : Mm} {a k : Nat} {v : Int32} {n rd : Nat → Int32} {q : Q4} {i : Nat → Nat → Int32} (h : pX M a n rd q i) : pX M a (upd n k v) rd q (mI (uI (wI M i) (a + 1) k v)) := by
  have ea : mI (uI (wI M i) (a + 1) k v) a = i a := uIo (by omega)
  refine ⟨⟨by rw [ea]; exact h.1.1, by rw [ea]; exact h.1.2.1, by rw [ea]; exact h.1.2.2.1, by rw [ea]; exact h.1.2.2.2⟩, ?_, (uIo (by omega)).trans h.2.2.1, fun x hx hy hz => (uIo hy).trans (h.2.2.2.1 x hx hy hz), fun j h8 h9 h11 h12 => by rw [ea]; exact h.2.2.2.2 j h8 h9 h11 h12⟩
  funext j
  rw [mI_uI, if_pos rfl]
  show (if j = k then v else i (a + 1) j) = upd n k v j
  rw [h.2.1]
  rfl
theorem pX.put {M : Mm} {a k : Nat} {v : Int32} {n rd : Nat → Int32} {q q' : Q4} {i : Nat → Nat → Int32} (h : pX M a n rd q i) (hk : k = 8 ∨ k = 9 ∨ k = 11 ∨ k = 12) (hq : Pq (mI (uI (wI M i) a k v)) a q') : pX M a n rd q' (mI (uI (wI M i) a k v)) := by
  refine ⟨hq, (uIo (by omega)).trans h.2.1, (uIo (by omega)).trans h.2.2.1, fun x hx hy hz => (uIo hx).trans (h.2.2.2.1 x hx hy hz), fun j h8 h9 h11 h12 => ?_⟩
  rw [mI_uI, if_pos rfl, if_neg (by omega)]
  exact h.2.2.2.2 j h8 h9 h11 h12
/-- a route's line -/
def rtM (n : Nat → Int32) (x : Nat) (q : Q4) : Q4 := muQ (decide (0 < nv n 1)) 1 (q.1, x, q.2.2)
def rtB (n : Nat → Int32) (x : Nat) (u : Nat → Nat) (e : Nat) (q : Q4) : Q4 := nuQ u e 1 127 (rtM n x q)
def rtV (n : Nat → Int32) (x : Nat) (u : Nat → Nat) (e : Nat) (q : Q4) : Nat := nuW u e 1 127 (rtM n x q)
/-- each of its days must be free -/
def rtD (n : Nat → Int32) (c V : Nat) : Nat → Q4 → Q4
  | 0, q => q
  | k + 1, q => muQ (decide (¬ bt (nI V) k = true ∨ n (rtA c k) = 0)) 2 (rtD n c V k q)
/-- j columns of what was read, at A -/
def rcW (n : Nat → Int32) (A : Nat) (rd : Nat → Int32) (j : Nat) : Nat → Int32 := fun q => if A ≤ q ∧ q < A + j then rd (q - A) else n q
def rcN (n : Nat → Int32) (c V : Nat) (rd : Nat → Int32) : Nat → Nat → Int32
  | 0 => n
  | k + 1 => if bt (nI V) k = true then rcW (rcN n c V rd k) (rtA c k) rd 13 else rcN n c V rd k
def rtZ (n rd : Nat → Int32) (x : Nat) (u : Nat → Nat) (e : Nat) (q : Q4) : (Nat → Int32) × Q4 := stZ n u e 7 0 0 (upd rd 0 0) (rtD n (nv n 1 - 1) (rtV n x u e q) 7 (rtB n x u e q))
def rtN (n rd : Nat → Int32) (x : Nat) (u : Nat → Nat) (e : Nat) (q : Q4) : Nat → Int32 := if (rtB n x u e q).2.2.1 = -1 ∧ (rtZ n rd x u e q).2.2.2.1 = -1 then rcN n (nv n 1 - 1) (rtV n x u e q) (rtZ n rd x u e q).1 7 else n
def rtE (n rd : Nat → Int32) (x : Nat) (u : Nat → Nat) (e : Nat) (q : Q4) : Nat → Int32 := if (rtB n x u e q).2.2.1 = -1 then (rtZ n rd x u e q).1 else rd
def rtR (n rd : Nat → Int32) (x : Nat) (u : Nat → Nat) (e : Nat) (q : Q4) : Q4 := if (rtB n x u e q).2.2.1 = -1 then (rtZ n rd x u e q).2 else rtB n x u e q
theorem rtD_1 {n : Nat → Int32} {c V : Nat} {q : Q4} : ∀ k, (rtD n c V k q).1 = q.1
  | 0 => rfl
  | k + 1 => by
    unfold rtD
    rw [muQ_1]
    exact rtD_1 k
theorem rcW_0 {n : Nat → Int32} {A : Nat} {rd : Nat → Int32} : rcW n A rd 0 = n := by
  funext q
  unfold rcW
  rw [if_neg (by omega)]
theorem rcW_s {n : Nat → Int32} {A j : Nat} {rd : Nat → Int32} : upd (rcW n A rd j) (A + j) (rd j) = rcW n A rd (j + 1) := by
  funext q
  unfold upd rcW
  by_cases h : q = A + j
  · rw [if_pos h, if_pos (by omega), show q - A = j by omega]
  · rw [if_neg h]
    by_cases h2 : A ≤ q ∧ q < A + j
    · rw [if_pos h2, if_pos (by omega)]
    · rw [if_neg h2, if_neg (by omega)]
set_option maxHeartbeats 2000000 in
set_option maxRecDepth 20000 in
theorem t_X11_readRoute {M : Mm} {a e : Nat} {u : Nat → Nat} {q : Q4} {n : Nat → Int32} (hL : LX11 M.1 M.2.1 a) (hn : mI M (a + 1) = n) (h0 : Rn n 0 10) (hT : Tt (mI M) a u e) (hq : Pq (mI M) a q) (hp : q.1 ≤ e) (h1 : Rn n 1 5) {x : Nat} (hx : x < 100000) {rd : Nat → Int32} (hrd : mI M (a + 6) = rd) : Ct G base YX11_readRoute 7 0 0 [.ref a, .int (nI x)] M (rI none M (pX M a (rtN n rd x u e q) (rtE n rd x u e q) (rtR n rd x u e q))) := by
  refine Ct.of IX11_readRoute.1 (by simp [Value.category]) (Nat.le_of_ble_eq_true rfl) (fun X hX hN => ?_)
  show J G base X 0 0 M 0 [some (.ref a), some (.int (nI x)), none, none, none, none] []
  have he := hT.2.2
  have h1n := h1
  have hb1 := h1.2
  clear h1
  refine r_aload_n hX dX11_readRoute_0 rfl ?_
  refine r_iload_n hX dX11_readRoute_1 rfl ?_
  refine r_puti hX dX11_readRoute_2 fl_X11_112 rfl rfl (LX11_s hL) ?_
  refine J.gen (M0 := M) rfl (fun i0 hz => ?_)
  have h0p : pS M a (q.1, x, q.2.2) i0 := by
    rw [show i0 = mI (uI M a 9 (nI x)) from funext fun y => funext (hz y)]
    exact (pS.rf hq).put (by omega) (Pq9 hq)
  clear hz
  have hn0 : mI (wI M i0) (a + 1) = n := (h0p.2.1 _ (by omega)).trans hn
  have main : J G base X 0 0 (wI M i0) 18 [some (.ref a), some (.int (nI x)), none, none, none, none] [.int (if 0 < nv n 1 then 1 else 0), .ref a] := by
    refine r_iconst (v := nI 1) hX dX11_readRoute_18 (by decide) ?_
    refine r_iV2 hX dX11_readRoute_19 IX11_must ml_X11_133 rfl (LX11_s hL) rfl (t_X11_must (M := wI M i0) (P := 0 < nv n 1) (k := 1) (q := (q.1, x, q.2.2)) hL h0p.1) (by decide) (by decide) (by decide) (by decide) rfl (Nat.le_of_ble_eq_true rfl) (fun i1 h1 => ?_)
    show J G base X _ _ (wI M i1) _ _ _
    replace h1 := h0p.tr h1
    change pS M a (rtM n x q) i1 at h1
    have hp1 : (rtM n x q).1 ≤ e := by unfold rtM; rw [muQ_1]; exact hp
    refine r_aload_n hX dX11_readRoute_22 rfl ?_
    refine r_iconst (v := nI 1) hX dX11_readRoute_23 (by decide) ?_
    refine r_bipush (v := nI 127) hX dX11_readRoute_24 (by decide) ?_
    refine r_iV2 hX dX11_readRoute_26 IX11_number ml_X11_154 rfl (LX11_s hL) rfl (t_X11_number (M := wI M i1) hL (h1.tt hT) h1.1 hp1 (lo := 1) (hh := 127) (by omega) (by omega)) (by decide) (by decide) (by decide) (by decide) rfl (Nat.le_of_ble_eq_true rfl) (fun i2 h2 => ?_)
    show J G base X _ _ (wI M i2) _ _ _
    replace h2 := h1.tr h2
    change pS M a (rtB n x u e q) i2 at h2
    have hn2 : mI (wI M i2) (a + 1) = n := (h2.2.1 _ (by omega)).trans hn
    refine r_istore2 hX dX11_readRoute_29 rfl ?_
    refine r_aload_n hX dX11_readRoute_30 rfl ?_
    refine r_cV0 hX dX11_readRoute_31 IX11_hasFailed ml_X11_104 rfl (LX11_s hL) rfl (t_X11_hasFailed (M := wI M i2) hL h2.1) (by decide) (by decide) (by decide) (by decide) rfl (Nat.le_of_ble_eq_true rfl) ?_
    refine rb_if_eq (tgt := 38) hX dX11_readRoute_34 (by decide) rfl (fun c34 => ?_) (fun c34 => ?_)
    · have hf : (rtB n x u e q).2.2.1 = -1 := Classical.not_not.mp c34
      have hf1 : (rtM n x q).2.2.1 = -1 := (nuW_hi (q := rtM n x q) hp1 he hf).1
      have hpos : 0 < nv n 1 := of_decide_eq_true (muQ_c hf1 (by omega))
      refine r_aload_n hX dX11_readRoute_38 rfl ?_
      refine r_cV0 hX dX11_readRoute_39 IX11_carriers ml_X11_151 rfl (LX11_s hL) rfl (t_X11_carriers (M := wI M i2) hL hn2 h1n) (by decide) (by decide) (by decide) (by decide) rfl (Nat.le_of_ble_eq_true rfl) ?_
      refine r_iconst (v := nI 1) hX dX11_readRoute_42 (by decide) ?_
      refine rn_isub hX dX11_readRoute_43 rfl rfl (by omega) ?_
      refine r_istore3 hX dX11_readRoute_44 rfl ?_
      refine r_iconst (v := nI 0) hX dX11_readRoute_45 (by decide) ?_
      refine r_istore4 hX dX11_readRoute_46 rfl ?_
      obtain ⟨hc5, hc0⟩ : nv n 1 - 1 < 5 ∧ 0 < nv n 1 := ⟨by omega, hpos⟩
      have hV : rtV n x u e q ≤ 127 := (nuW_hi (q := rtM n x q) hp1 he hf).2.2
      have hZ : stZ n u e 7 0 0 (upd rd 0 0) (rtD n (nv n 1 - 1) (rtV n x u e q) 7 (rtB n x u e q)) = rtZ n rd x u e q := rfl
      have hE1 : rtN n rd x u e q = if (rtZ n rd x u e q).2.2.2.1 = -1 then rcN n (nv n 1 - 1) (rtV n x u e q) (rtZ n rd x u e q).1 7 else n := by
        unfold rtN
        by_cases z : (rtZ n rd x u e q).2.2.2.1 = -1
        · rw [if_pos ⟨hf, z⟩, if_pos z]
        · rw [if_neg (fun y => z y.2), if_neg z]
      have hE2 : rtE n rd x u e q = (rtZ n rd x u e q).1 := if_pos hf
      have hE3 : rtR n rd x u e q = (rtZ n rd x u e q).2 := if_pos hf
      have hpB : (rtB n x u e q).1 ≤ e := nuQ_le hp1
      show J G base X 0 0 (wI M i2) 48 [some (.ref a), some (.int (nI x)), some (.int (nI (rtV n x u e q))), some (.int (nI (nv n 1 - 1))), some (.int (nI 0)), none] []
      generalize rtZ n rd x u e q = Z at hZ hE1 hE2 hE3
      generalize rtV n x u e q = V at hV hZ hE1 ⊢
      generalize nv n 1 - 1 = c at hc5 hZ hE1 ⊢
      have fin : ∀ i3 : Nat → Nat → Int32, pS M a (rtD n c V 7 (rtB n x u e q)) i3 → J G base X 0 0 (wI M i3) 95 [some (.ref a), some (.int (nI x)), some (.int (nI V)), some (.int (nI c)), some (.int (nI 7)), none] [] := by
        intro i3 h3
        have hn3 : mI (wI M i3) (a + 1) = n := (h3.2.1 _ (by omega)).trans hn
        have hp3 : (rtD n c V 7 (rtB n x u e q)).1 ≤ e := by rw [rtD_1]; exact hpB
        refine r_aload_n hX dX11_readRoute_95 rfl ?_
        refine r_iV0 hX dX11_readRoute_96 IX11_readStops ml_X11_163 rfl (LX11_s hL) rfl (t_X11_readStops (M := wI M i3) hL hn3 h0 (h3.tt hT) h3.1 hp3 (rd := rd) ((h3.2.1 _ (by omega)).trans hrd) hZ) (by decide) (by decide) (by decide) (by decide) rfl (Nat.le_of_ble_eq_true rfl) (fun i4 h4 => ?_)
        show J G base X _ _ (wI M i4) _ _ _
        replace h4 := (h3.trR h4).x hn
        refine r_aload_n hX dX11_readRoute_99 rfl ?_
        refine r_cV0 hX dX11_readRoute_100 IX11_hasFailed ml_X11_104 rfl (LX11_s hL) rfl (t_X11_hasFailed (M := wI M i4) hL h4.1) (by decide) (by decide) (by decide) (by decide) rfl (Nat.le_of_ble_eq_true rfl) ?_
        refine rb_if_eq (tgt := 107) hX dX11_readRoute_103 (by decide) rfl (fun c103 => ?_) (fun c103 => ?_)
        · refine r_iconst (v := nI 0) hX dX11_readRoute_107 (by decide) ?_
          refine r_istore4 hX dX11_readRoute_108 rfl ?_
          refine loop_us (σ := Nat → Nat → Int32) (P := fun w i => pX M a (rcN n c V Z.1 w) Z.1 Z.2 i → J G base X 0 0 (wI M i) 110 [some (.ref a), some (.int (nI x)), some (.int (nI V)), some (.int (nI c)), some (.int (nI w)), none] []) 7 (fun w i4 hw ih4 hi4 => ?_) 0 i4 (Nat.zero_le _) h4
          refine r_iload hX dX11_readRoute_110 rfl ?_
          refine r_bipush (v := nI 7) hX dX11_readRoute_112 (by decide) ?_
          refine rn_icmp_ge (tgt := 170) hX dX11_readRoute_114 (by decide) rfl rfl (by omega) (by omega) (fun c114 => ?_) (fun c114 => ?_)
          · refine r_return hX rfl dX11_readRoute_170 (by decide) (by decide) ?_
            obtain rfl : w = 7 := by omega
            refine ⟨rfl, i4, rfl, ?_⟩
            rw [hE1, hE2, hE3, if_pos (Classical.not_not.mp c103)]
            exact hi4
          · refine r_iconst (v := nI 0) hX dX11_readRoute_117 (by decide) ?_
            refine r_istore5 hX dX11_readRoute_118 rfl ?_
            refine loop_us (σ := Nat → Nat → Int32) (P := fun j i => ((bt (nI V) w = true ∨ j = 0) ∧ pX M a (rcW (rcN n c V Z.1 w) (rtA c w) Z.1 j) Z.1 Z.2 i) → J G base X 0 0 (wI M i) 120 [some (.ref a), some (.int (nI x)), some (.int (nI V)), some (.int (nI c)), some (.int (nI w)), some (.int (nI j))] []) 13 (fun j i5 hj ihj hi => ?_) 0 i4 (Nat.zero_le _) ⟨Or.inr rfl, by rw [rcW_0]; exact hi4⟩
            refine r_iload hX dX11_readRoute_120 rfl ?_
            refine r_bipush (v := nI 13) hX dX11_readRoute_122 (by decide) ?_
            refine rn_icmp_ge (tgt := 164) hX dX11_readRoute_124 (by decide) rfl rfl (by omega) (by omega) (fun c124 => ?_) (fun c124 => ?_)
            · refine rn_iinc4 hX dX11_readRoute_164 rfl rfl ?_
              refine r_goto (tgt := 110) hX dX11_readRoute_167 (by decide) ?_
              obtain rfl : j = 13 := by omega
              refine J.junk (ih4 (by omega) i5 ?_) (by repeat first | exact trivial | refine ⟨rfl, ?_⟩)
              have hb : bt (nI V) w = true := hi.1.resolve_right (by omega)
              have z := hi.2
              rw [show rcW (rcN n c V Z.1 w) (rtA c w) Z.1 13 = rcN n c V Z.1 (w + 1) from (if_pos hb).symm] at z
              exact z
            · refine r_iload_n hX dX11_readRoute_127 rfl ?_
              refine r_iload hX dX11_readRoute_128 rfl ?_
              refine r_cS2 hX dX11_readRoute_130 IX11_has ml_X11_160 rfl (t_X11_has (M := wI M i5) (by omega)) (by decide) (by decide) (by decide) (by decide) rfl (Nat.le_of_ble_eq_true rfl) ?_
              refine rb_if_eq (tgt := 164) hX dX11_readRoute_133 (by decide) rfl (fun c133 => ?_) (fun c133 => ?_)
              · refine rn_iinc4 hX dX11_readRoute_164 rfl rfl ?_
                refine r_goto (tgt := 110) hX dX11_readRoute_167 (by decide) ?_
                have hj0 : j = 0 := hi.1.resolve_left c133
                subst hj0
                refine J.junk (ih4 (by omega) i5 ?_) (by repeat first | exact trivial | refine ⟨rfl, ?_⟩)
                have z := hi.2
                rw [rcW_0, show rcN n c V Z.1 w = rcN n c V Z.1 (w + 1) from (if_neg c133).symm] at z
                exact z
              · refine r_aload_n hX dX11_readRoute_136 rfl ?_
                refine r_getr hX dX11_readRoute_137 fl_X11_13 rfl (LX11_s hL) (LX11_r1 hL) ?_
                refine r_aload_n hX dX11_readRoute_140 rfl ?_
                refine r_iload_n hX dX11_readRoute_141 rfl ?_
                refine r_iload hX dX11_readRoute_142 rfl ?_
                refine r_cV2 hX dX11_readRoute_144 IX11_routeAt ml_X11_83 rfl (LX11_s hL) rfl (t_X11_routeAt (M := wI M i5)) (by decide) (by decide) (by decide) (by decide) rfl (Nat.le_of_ble_eq_true rfl) ?_
                refine r_iload hX dX11_readRoute_147 rfl ?_
                refine rn_iadd hX dX11_readRoute_149 rfl rfl ?_
                refine r_aload_n hX dX11_readRoute_150 rfl ?_
                refine r_getr hX dX11_readRoute_151 fl_X11_33 rfl (LX11_s hL) (LX11_r15 hL) ?_
                refine r_iload hX dX11_readRoute_154 rfl ?_
                refine rn_iald hX dX11_readRoute_156 (LX11_a15 hL) rfl (by omega) (by omega) ?_
                rw [show mI (wI M i5) (a + 6) j = Z.1 j from congrFun hi.2.2.2.1 j]
                refine rn_iast hX dX11_readRoute_157 (LX11_a1 hL) rfl (by omega) (by show 43 + 13 * (7 * c + w) + j < 1158; omega) ?_
                refine rn_iinc5 hX dX11_readRoute_158 rfl rfl ?_
                refine r_goto (tgt := 120) hX dX11_readRoute_161 (by decide) ?_
                refine ihj (by omega) _ ⟨Or.inl c133, ?_⟩
                rw [← rcW_s]
                exact hi.2.row
        · refine r_return hX rfl dX11_readRoute_106 (by decide) (by decide) ?_
          refine ⟨rfl, i4, rfl, ?_⟩
          have z := h4
          rw [hE1, hE2, hE3, if_neg c103]
          exact z
      refine loop_us (σ := Nat → Nat → Int32) (P := fun j i => pS M a (rtD n c V j (rtB n x u e q)) i → J G base X 0 0 (wI M i) 48 [some (.ref a), some (.int (nI x)), some (.int (nI V)), some (.int (nI c)), some (.int (nI j)), none] []) 7 (fun j i3 hj ih3 h3 => ?_) 0 i2 (Nat.zero_le _) h2
      have hn3 : mI (wI M i3) (a + 1) = n := (h3.2.1 _ (by omega)).trans hn
      refine r_iload hX dX11_readRoute_48 rfl ?_
      refine r_bipush (v := nI 7) hX dX11_readRoute_50 (by decide) ?_
      refine rn_icmp_ge (tgt := 95) hX dX11_readRoute_52 (by decide) rfl rfl (by omega) (by omega) (fun c52 => ?_) (fun c52 => ?_)
      · obtain rfl : j = 7 := by omega
        exact fin i3 h3
      · have main : J G base X 0 0 (wI M i3) 85 [some (.ref a), some (.int (nI x)), some (.int (nI V)), some (.int (nI c)), some (.int (nI j)), none] [.int (if ¬ bt (nI V) j = true ∨ n (rtA c j) = 0 then 1 else 0), .ref a] := by
          refine r_iconst (v := nI 2) hX dX11_readRoute_85 (by decide) ?_
          refine r_iV2 hX dX11_readRoute_86 IX11_must ml_X11_133 rfl (LX11_s hL) rfl (t_X11_must (M := wI M i3) (P := ¬ bt (nI V) j = true ∨ n (rtA c j) = 0) (k := 2) hL h3.1) (by decide) (by decide) (by decide) (by decide) rfl (Nat.le_of_ble_eq_true rfl) (fun i4 h4 => ?_)
          show J G base X _ _ (wI M i4) _ _ _
          replace h4 := h3.tr h4
          change pS M a (rtD n c V (j + 1) (rtB n x u e q)) i4 at h4
          refine rn_iinc4 hX dX11_readRoute_89 rfl rfl ?_
          refine r_goto (tgt := 48) hX dX11_readRoute_92 (by decide) ?_
          exact ih3 (by omega) i4 h4
        refine r_aload_n hX dX11_readRoute_55 rfl ?_
        refine r_iload_n hX dX11_readRoute_56 rfl ?_
        refine r_iload hX dX11_readRoute_57 rfl ?_
        refine r_cS2 hX dX11_readRoute_59 IX11_has ml_X11_160 rfl (t_X11_has (M := wI M i3) (by omega)) (by decide) (by decide) (by decide) (by decide) rfl (Nat.le_of_ble_eq_true rfl) ?_
        refine rb_if_eq (tgt := 80) hX dX11_readRoute_62 (by decide) rfl (fun c62 => ?_) (fun c62 => ?_)
        · refine r_iconst (v := nI 1) hX dX11_readRoute_80 (by decide) ?_
          refine r_goto (tgt := 85) hX dX11_readRoute_81 (by decide) ?_
          have hP : (¬ bt (nI V) j = true ∨ n (rtA c j) = 0) := Or.inl c62
          have z := main
          rw [if_pos hP] at z
          exact z
        · refine r_aload_n hX dX11_readRoute_65 rfl ?_
          refine r_getr hX dX11_readRoute_66 fl_X11_13 rfl (LX11_s hL) (LX11_r1 hL) ?_
          refine r_aload_n hX dX11_readRoute_69 rfl ?_
          refine r_iload_n hX dX11_readRoute_70 rfl ?_
          refine r_iload hX dX11_readRoute_71 rfl ?_
          refine r_cV2 hX dX11_readRoute_73 IX11_routeAt ml_X11_83 rfl (LX11_s hL) rfl (t_X11_routeAt (M := wI M i3)) (by decide) (by decide) (by decide) (by decide) rfl (Nat.le_of_ble_eq_true rfl) ?_
          refine rn_iald hX dX11_readRoute_76 (LX11_a1 hL) rfl (by omega) (by show 43 + 13 * (7 * c + j) < 1158; omega) ?_
          rw [hn3]
          refine r_if_ne (tgt := 84) hX dX11_readRoute_77 (by decide) (fun c77 => ?_) (fun c77 => ?_)
          · refine r_iconst (v := nI 0) hX dX11_readRoute_84 (by decide) ?_
            have hP : ¬ (¬ bt (nI V) j = true ∨ n (rtA c j) = 0) := fun y => y.elim (fun z => z c62) c77
            have z := main
            rw [if_neg hP] at z
            exact z
          · refine r_iconst (v := nI 1) hX dX11_readRoute_80 (by decide) ?_
            refine r_goto (tgt := 85) hX dX11_readRoute_81 (by decide) ?_
            have hP : (¬ bt (nI V) j = true ∨ n (rtA c j) = 0) := Or.inr c77
            have z := main
            rw [if_pos hP] at z
            exact z
    · refine r_return hX rfl dX11_readRoute_37 (by decide) (by decide) ?_
      refine ⟨rfl, i2, rfl, ?_⟩
      unfold rtN rtE rtR
      rw [if_neg (fun z => c34 z.1), if_neg c34, if_neg c34]
      exact (h2.w hn).x hrd
  refine r_aload_n hX dX11_readRoute_5 rfl ?_
  refine r_aload_n hX dX11_readRoute_6 rfl ?_
  refine r_cV0 hX dX11_readRoute_7 IX11_carriers ml_X11_151 rfl (LX11_s hL) rfl (t_X11_carriers (M := wI M i0) hL hn0 h1n) (by decide) (by decide) (by decide) (by decide) rfl (Nat.le_of_ble_eq_true rfl) ?_
  refine rn_if_le (tgt := 17) hX dX11_readRoute_10 (by decide) rfl (by omega) (fun c10 => ?_) (fun c10 => ?_)
  · refine r_iconst (v := nI 0) hX dX11_readRoute_17 (by decide) ?_
    have hP : ¬ (0 < nv n 1) := by omega
    have z := main
    rw [if_neg hP] at z
    exact z
  · refine r_iconst (v := nI 1) hX dX11_readRoute_13 (by decide) ?_
    refine r_goto (tgt := 18) hX dX11_readRoute_14 (by decide) ?_
    have hP : (0 < nv n 1) := by omega
    have z := main
    rw [if_pos hP] at z
    exact z
