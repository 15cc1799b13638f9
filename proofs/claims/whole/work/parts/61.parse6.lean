variable {G : GG} {base : Nat}
/-- the row too has changed -/
def pW (M : Mm) (a : Nat) (n : Nat → Int32) (q : Q4) (i : Nat → Nat → Int32) : Prop := Pq i a q ∧ i (a + 1) = n ∧ (∀ x, x ≠ a → x ≠ a + 1 → i x = mI M x) ∧ ∀ k, k ≠ 8 → k ≠ 9 → k ≠ 11 → k ≠ 12 → i a k = mI M a k
theorem pS.w {M : Mm} {a : Nat} {n : Nat → Int32} {q : Q4} {i : Nat → Nat → Int32} (h : pS M a q i) (hn : mI M (a + 1) = n) : pW M a n q i := ⟨h.1, (h.2.1 _ (by omega)).trans hn, fun x hx _ => h.2.1 x hx, h.2.2⟩
theorem pW.tr {M : Mm} {a : Nat} {n n' : Nat → Int32} {q q' : Q4} {i j : Nat → Nat → Int32} (h : pW M a n q i) (h2 : pW (wI M i) a n' q' j) : pW M a n' q' j := ⟨h2.1, h2.2.1, fun x hx hy => (h2.2.2.1 x hx hy).trans (h.2.2.1 x hx hy), fun k h8 h9 h11 h12 => (h2.2.2.2 k h8 h9 h11 h12).trans (h.2.2.2 k h8 h9 h11 h12)⟩
theorem pW.trS {M : Mm} {a : Nat} {n : Nat → Int32} {q q' : Q4} {i j : Nat → Nat → Int32} (h : pW M a n q i) (h2 : pS (wI M i) a q' j) : pW M a n q' j := h.tr (h2.w h.2.1)
theorem pW.tt {M : Mm} {a e : Nat} {u : Nat → Nat} {n : Nat → Int32} {q : Q4} {i : Nat → Nat → Int32} (h : pW M a n q i) (hT : Tt (mI M) a u e) : Tt i a u e := ⟨fun k hk => ⟨(hT.1 k hk).1, (congrFun (h.2.2.1 _ (by omega) (by omega)) k).trans (hT.1 k hk).2⟩, (h.2.2.2 10 (by omega) (by omega) (by omega) (by omega)).trans hT.2.1, hT.2.2⟩
theorem pW.row {M : Mm} {a k : Nat} {v : Int32} {n : Nat → Int32} {q : Q4} {i : Nat → Nat → Int32} (h : pW M a n q i) : pW M a (upd n k v) q (mI (uI (wI M i) (a + 1) k v)) := by
  have ea : mI (uI (wI M i) (a + 1) k v) a = i a := uIo (by omega)
  refine ⟨⟨by rw [ea]; exact h.1.1, by rw [ea]; exact h.1.2.1, by rw [ea]; exact h.1.2.2.1, by rw [ea]; exact h.1.2.2.2⟩, ?_, fun x hx hy => (uIo hy).trans (h.2.2.1 x hx hy), fun j h8 h9 h11 h12 => by rw [ea]; exact h.2.2.2 j h8 h9 h11 h12⟩
  funext j
  rw [mI_uI, if_pos rfl]
  show (if j = k then v else i (a + 1) j) = upd n k v j
  rw [h.2.1]
  rfl
theorem pW.put {M : Mm} {a k : Nat} {v : Int32} {n : Nat → Int32} {q q' : Q4} {i : Nat → Nat → Int32} (h : pW M a n q i) (hk : k = 8 ∨ k = 9 ∨ k = 11 ∨ k = 12) (hq : Pq (mI (uI (wI M i) a k v)) a q') : pW M a n q' (mI (uI (wI M i) a k v)) := by
  refine ⟨hq, (uIo (by omega)).trans h.2.1, fun x hx hy => (uIo hx).trans (h.2.2.1 x hx hy), fun j h8 h9 h11 h12 => ?_⟩
  rw [mI_uI, if_pos rfl, if_neg (by omega)]
  exact h.2.2.2 j h8 h9 h11 h12
def nwQ (n : Nat → Int32) (f m : Nat) (u : Nat → Nat) (e : Nat) (q : Q4) : Q4 := pnQ u e (muQ (decide (fnN n f (nI (snV u e q)) (nv n m) = -1)) 3 (snR u e q))
def nwN (n : Nat → Int32) (f m : Nat) (u : Nat → Nat) (e : Nat) (q : Q4) : Nat → Int32 := if (nwQ n f m u e q).2.2.1 = -1 then upd (upd n (f + nv n m) (nI (snV u e q))) m (nI (nv n m + 1)) else n
set_option maxHeartbeats 2000000 in
set_option maxRecDepth 20000 in
theorem t_X11_readNew {M : Mm} {a e f m : Nat} {u : Nat → Nat} {q : Q4} {n : Nat → Int32} (hL : LX11 M.1 M.2.1 a) (hn : mI M (a + 1) = n) (hr : n m = nI (nv n m)) (hc : nv n m < 10) (hm : m < 2) (hf : 18 ≤ f ∧ f < 100) (hT : Tt (mI M) a u e) (hq : Pq (mI M) a q) (hp : q.1 ≤ e) : Ct G base YX11_readNew 5 0 0 [.ref a, .int (nI f), .int (nI m)] M (rI none M (pW M a (nwN n f m u e q) (nwQ n f m u e q))) := by
  refine Ct.of IX11_readNew.1 (by simp [Value.category]) (Nat.le_of_ble_eq_true rfl) (fun X hX hN => ?_)
  show J G base X 0 0 M 0 [some (.ref a), some (.int (nI f)), some (.int (nI m)), none] []
  have he := hT.2.2
  refine r_aload_n hX dX11_readNew_0 rfl ?_
  refine r_iV0 hX dX11_readNew_1 IX11_seesName ml_X11_137 rfl (LX11_s hL) rfl (t_X11_seesName (M := M) hL hT hq hp) (by decide) (by decide) (by decide) (by decide) rfl (Nat.le_of_ble_eq_true rfl) (fun i1 h1 => ?_)
  show J G base X _ _ (wI M i1) _ _ _
  have hn1 : mI (wI M i1) (a + 1) = n := (h1.2.1 _ (by omega)).trans hn
  have hT1 := h1.tt hT
  refine r_istore3 hX dX11_readNew_4 rfl ?_
  refine r_aload_n hX dX11_readNew_5 rfl ?_
  refine r_aload_n hX dX11_readNew_6 rfl ?_
  refine r_iload_n hX dX11_readNew_7 rfl ?_
  refine r_aload_n hX dX11_readNew_8 rfl ?_
  refine r_getr hX dX11_readNew_9 fl_X11_13 rfl (LX11_s hL) (LX11_r1 hL) ?_
  refine r_iload_n hX dX11_readNew_12 rfl ?_
  refine rn_iald hX dX11_readNew_13 (LX11_a1 hL) rfl (by omega) (by omega) ?_
  rw [hn1, hr]
  refine r_iload_n hX dX11_readNew_14 rfl ?_
  refine r_cV3 hX dX11_readNew_15 IX11_find ml_X11_140 rfl (LX11_s hL) rfl (t_X11_find (M := wI M i1) hL hn1 (by omega) (by omega)) (by decide) (by decide) (by decide) (by decide) rfl (Nat.le_of_ble_eq_true rfl) ?_
  have main : J G base X 0 0 (wI M i1) 27 [some (.ref a), some (.int (nI f)), some (.int (nI m)), some (.int (nI (snV u e q)))] [.int (if fnN n f (nI (snV u e q)) (nv n m) = -1 then 1 else 0), .ref a] := by
    refine r_iconst (v := nI 3) hX dX11_readNew_27 (by decide) ?_
    refine r_iV2 hX dX11_readNew_28 IX11_must ml_X11_133 rfl (LX11_s hL) rfl (t_X11_must (M := wI M i1) (P := fnN n f (nI (snV u e q)) (nv n m) = -1) (k := 3) hL h1.1) (by decide) (by decide) (by decide) (by decide) rfl (Nat.le_of_ble_eq_true rfl) (fun i2 h2 => ?_)
    show J G base X _ _ (wI M i2) _ _ _
    replace h2 := h1.tr h2
    refine r_aload_n hX dX11_readNew_31 rfl ?_
    refine r_iV0 hX dX11_readNew_32 IX11_passesName ml_X11_144 rfl (LX11_s hL) rfl (t_X11_passesName (M := wI M i2) hL (h2.tt hT) h2.1 (by rw [muQ_1]; exact snR_le hp)) (by decide) (by decide) (by decide) (by decide) rfl (Nat.le_of_ble_eq_true rfl) (fun i3 h3 => ?_)
    show J G base X _ _ (wI M i3) _ _ _
    replace h3 := h2.tr h3
    change pS M a (nwQ n f m u e q) i3 at h3
    have hn3 : mI (wI M i3) (a + 1) = n := (h3.2.1 _ (by omega)).trans hn
    refine r_aload_n hX dX11_readNew_35 rfl ?_
    refine r_cV0 hX dX11_readNew_36 IX11_hasFailed ml_X11_104 rfl (LX11_s hL) rfl (t_X11_hasFailed (M := wI M i3) hL h3.1) (by decide) (by decide) (by decide) (by decide) rfl (Nat.le_of_ble_eq_true rfl) ?_
    refine rb_if_eq (tgt := 43) hX dX11_readNew_39 (by decide) rfl (fun c39 => ?_) (fun c39 => ?_)
    · refine r_aload_n hX dX11_readNew_43 rfl ?_
      refine r_getr hX dX11_readNew_44 fl_X11_13 rfl (LX11_s hL) (LX11_r1 hL) ?_
      refine r_iload_n hX dX11_readNew_47 rfl ?_
      refine r_aload_n hX dX11_readNew_48 rfl ?_
      refine r_getr hX dX11_readNew_49 fl_X11_13 rfl (LX11_s hL) (LX11_r1 hL) ?_
      refine r_iload_n hX dX11_readNew_52 rfl ?_
      refine rn_iald hX dX11_readNew_53 (LX11_a1 hL) rfl (by omega) (by omega) ?_
      rw [hn3, hr]
      refine rn_iadd hX dX11_readNew_54 rfl rfl ?_
      refine r_iload_n hX dX11_readNew_55 rfl ?_
      refine rn_iast hX dX11_readNew_56 (LX11_a1 hL) rfl (by omega) (by omega) ?_
      refine r_aload_n hX dX11_readNew_57 rfl ?_
      refine r_getr hX dX11_readNew_58 fl_X11_13 rfl (LX11_s hL) (LX11_r1 hL) ?_
      refine r_iload_n hX dX11_readNew_61 rfl ?_
      refine r_dup2 hX dX11_readNew_62 rfl rfl ?_
      refine rn_iald hX dX11_readNew_63 (LX11_a1 hL) rfl (by omega) (by omega) ?_
      rw [show mI (uI (wI M i3) (a + 1) (f + nv n m) (nI (snV u e q))) (a + 1) m = nI (nv n m) from by rw [mI_uI, if_pos rfl, if_neg (by omega), hn3, hr]]
      refine r_iconst (v := nI 1) hX dX11_readNew_64 (by decide) ?_
      refine rn_iadd hX dX11_readNew_65 rfl rfl ?_
      refine rn_iast hX dX11_readNew_66 (LX11_a1 hL) rfl (by omega) (by omega) ?_
      refine r_return hX rfl dX11_readNew_67 (by decide) (by decide) ?_
      refine ⟨rfl, mI (uI (uI (wI M i3) (a + 1) (f + nv n m) (nI (snV u e q))) (a + 1) m (nI (nv n m + 1))), rfl, ?_⟩
      unfold nwN
      rw [if_pos (Classical.not_not.mp c39)]
      exact ((h3.w hn).row (k := f + nv n m) (v := nI (snV u e q))).row (i := mI (uI (wI M i3) (a + 1) (f + nv n m) (nI (snV u e q))))
    · refine r_return hX rfl dX11_readNew_42 (by decide) (by decide) ?_
      refine ⟨rfl, i3, rfl, ?_⟩
      unfold nwN
      rw [if_neg c39]
      exact h3.w hn
  refine r_iconst (v := (-1)) hX dX11_readNew_18 (by decide) ?_
  refine r_icmp_ne (tgt := 26) hX dX11_readNew_19 (by decide) (fun c19 => ?_) (fun c19 => ?_)
  · refine r_iconst (v := nI 0) hX dX11_readNew_26 (by decide) ?_
    have hP : ¬ (fnN n f (nI (snV u e q)) (nv n m) = -1) := c19
    have z := main
    rw [if_neg hP] at z
    exact z
  · refine r_iconst (v := nI 1) hX dX11_readNew_22 (by decide) ?_
    refine r_goto (tgt := 27) hX dX11_readNew_23 (by decide) ?_
    have hP : (fnN n f (nI (snV u e q)) (nv n m) = -1) := c19
    have z := main
    rw [if_pos hP] at z
    exact z
