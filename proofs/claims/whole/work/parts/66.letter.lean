variable {G : GG} {base : Nat}
/-- a letter's line -/
def ltS (n : Nat → Int32) (x : Nat) (q : Q4) : Q4 := muQ (decide (nv n 2 < 30)) 4 (q.1, x, q.2.2)
def ltB (n : Nat → Int32) (u : Nat → Nat) (e : Nat) (q : Q4) : Q4 := rvQ n u e (rpI n u e q) (rvQ n u e (-1) q)
def ltV (n : Nat → Int32) (u : Nat → Nat) (e : Nat) (q : Q4) : Nat := if hasW u e 6 (ltB n u e q) = true then nuW u e 1 999 (tkQ u e 6 (ltB n u e q)) else 0
def ltD (n : Nat → Int32) (u : Nat → Nat) (e : Nat) (q : Q4) : Q4 := if hasW u e 6 (ltB n u e q) = true then nuQ u e 1 999 (tkQ u e 6 (ltB n u e q)) else tkQ u e 6 (ltB n u e q)
def ltN (n : Nat → Int32) (x : Nat) (u : Nat → Nat) (e : Nat) (q : Q4) : Nat → Int32 := if (ltS n x q).2.2.1 = -1 ∧ (ltD n u e (ltS n x q)).2.2.1 = -1 then postN n (rpI n u e (ltS n x q)) (rpI n u e (rvQ n u e (-1) (ltS n x q))) (nI (ltV n u e (ltS n x q))) else n
def ltR (n : Nat → Int32) (x : Nat) (u : Nat → Nat) (e : Nat) (q : Q4) : Q4 := if (ltS n x q).2.2.1 = -1 then ltD n u e (ltS n x q) else ltS n x q
theorem rvQ_le {n : Nat → Int32} {u : Nat → Nat} {e : Nat} {o : Int32} {q : Q4} (h : q.1 ≤ e) (he : e ≤ 900) : (rvQ n u e o q).1 ≤ e := snmu_le h he
theorem pW.post {M : Mm} {a : Nat} {n' : Nat → Int32} {q : Q4} {i j : Nat → Nat → Int32} (h : pS M a q i) (h2 : pN (wI M i) a n' j) : pW M a n' q j := by
  have ea : j a = i a := h2.2 a (by omega)
  exact ⟨⟨by rw [ea]; exact h.1.1, by rw [ea]; exact h.1.2.1, by rw [ea]; exact h.1.2.2.1, by rw [ea]; exact h.1.2.2.2⟩, h2.1, fun x hx hy => (h2.2 x hy).trans (h.2.1 x hx), fun k h8 h9 h11 h12 => by rw [ea]; exact h.2.2 k h8 h9 h11 h12⟩
set_option maxHeartbeats 2000000 in
set_option maxRecDepth 20000 in
theorem t_X11_readLetter {M : Mm} {a e : Nat} {u : Nat → Nat} {q : Q4} {n : Nat → Int32} (hL : LX11 M.1 M.2.1 a) (hn : mI M (a + 1) = n) (h0 : Rn n 0 10) (hT : Tt (mI M) a u e) (hq : Pq (mI M) a q) (hp : q.1 ≤ e) {x : Nat} (hx : x < 100000) (h2 : Rn n 2 30) : Ct G base YX11_readLetter 7 0 0 [.ref a, .int (nI x)] M (rI none M (pW M a (ltN n x u e q) (ltR n x u e q))) := by
  refine Ct.of IX11_readLetter.1 (by simp [Value.category]) (Nat.le_of_ble_eq_true rfl) (fun X hX hN => ?_)
  show J G base X 0 0 M 0 [some (.ref a), some (.int (nI x)), none, none, none] []
  have he := hT.2.2
  have h2n := h2
  have hb2 := h2.2
  clear h2
  refine r_aload_n hX dX11_readLetter_0 rfl ?_
  refine r_iload_n hX dX11_readLetter_1 rfl ?_
  refine r_puti hX dX11_readLetter_2 fl_X11_112 rfl rfl (LX11_s hL) ?_
  refine J.gen (M0 := M) rfl (fun i0 hz => ?_)
  have h0p : pS M a (q.1, x, q.2.2) i0 := by
    rw [show i0 = mI (uI M a 9 (nI x)) from funext fun y => funext (hz y)]
    exact (pS.rf hq).put (by omega) (Pq9 hq)
  clear hz
  have hn0 : mI (wI M i0) (a + 1) = n := (h0p.2.1 _ (by omega)).trans hn
  have main : J G base X 0 0 (wI M i0) 20 [some (.ref a), some (.int (nI x)), none, none, none] [.int (if nv n 2 < 30 then 1 else 0), .ref a] := by
    refine r_iconst (v := nI 4) hX dX11_readLetter_20 (by decide) ?_
    refine r_iV2 hX dX11_readLetter_21 IX11_must ml_X11_133 rfl (LX11_s hL) rfl (t_X11_must (M := wI M i0) (P := nv n 2 < 30) (k := 4) (q := (q.1, x, q.2.2)) hL h0p.1) (by decide) (by decide) (by decide) (by decide) rfl (Nat.le_of_ble_eq_true rfl) (fun i1 h1 => ?_)
    show J G base X _ _ (wI M i1) _ _ _
    replace h1 := h0p.tr h1
    change pS M a (ltS n x q) i1 at h1
    have hn1 : mI (wI M i1) (a + 1) = n := (h1.2.1 _ (by omega)).trans hn
    have hp1 : (ltS n x q).1 ≤ e := by unfold ltS; rw [muQ_1]; exact hp
    refine r_aload_n hX dX11_readLetter_24 rfl ?_
    refine r_cV0 hX dX11_readLetter_25 IX11_hasFailed ml_X11_104 rfl (LX11_s hL) rfl (t_X11_hasFailed (M := wI M i1) hL h1.1) (by decide) (by decide) (by decide) (by decide) rfl (Nat.le_of_ble_eq_true rfl) ?_
    refine rb_if_eq (tgt := 32) hX dX11_readLetter_28 (by decide) rfl (fun c28 => ?_) (fun c28 => ?_)
    · refine r_aload_n hX dX11_readLetter_32 rfl ?_
      refine r_iconst (v := (-1)) hX dX11_readLetter_33 (by decide) ?_
      refine r_iV1 hX dX11_readLetter_34 IX11_readVillage ml_X11_173 rfl (LX11_s hL) rfl (t_X11_readVillage (M := wI M i1) hL hn1 h0 (h1.tt hT) h1.1 hp1) (by decide) (by decide) (by decide) (by decide) rfl (Nat.le_of_ble_eq_true rfl) (fun i2 h2 => ?_)
      show J G base X _ _ (wI M i2) _ _ _
      replace h2 := h1.tr h2
      have hn2 : mI (wI M i2) (a + 1) = n := (h2.2.1 _ (by omega)).trans hn
      refine r_istore2 hX dX11_readLetter_37 rfl ?_
      refine r_aload_n hX dX11_readLetter_38 rfl ?_
      refine r_iload_n hX dX11_readLetter_39 rfl ?_
      refine r_iV1 hX dX11_readLetter_40 IX11_readVillage ml_X11_173 rfl (LX11_s hL) rfl (t_X11_readVillage (M := wI M i2) hL hn2 h0 (h2.tt hT) h2.1 (rvQ_le hp1 he)) (by decide) (by decide) (by decide) (by decide) rfl (Nat.le_of_ble_eq_true rfl) (fun i3 h3 => ?_)
      show J G base X _ _ (wI M i3) _ _ _
      replace h3 := h2.tr h3
      change pS M a (ltB n u e (ltS n x q)) i3 at h3
      refine r_istore3 hX dX11_readLetter_43 rfl ?_
      have fin : ∀ (i6 : Nat → Nat → Int32), pS M a (ltD n u e (ltS n x q)) i6 → J G base X 0 0 (wI M i6) 65 [some (.ref a), some (.int (nI x)), some (.int (rpI n u e (ltS n x q))), some (.int (rpI n u e (rvQ n u e (-1) (ltS n x q)))), none] [.int (nI (ltV n u e (ltS n x q)))] := by
        intro i6 h6
        have hn6 : mI (wI M i6) (a + 1) = n := (h6.2.1 _ (by omega)).trans hn
        refine r_istore4 hX dX11_readLetter_65 rfl ?_
        refine r_aload_n hX dX11_readLetter_67 rfl ?_
        refine r_cV0 hX dX11_readLetter_68 IX11_hasFailed ml_X11_104 rfl (LX11_s hL) rfl (t_X11_hasFailed (M := wI M i6) hL h6.1) (by decide) (by decide) (by decide) (by decide) rfl (Nat.le_of_ble_eq_true rfl) ?_
        refine rb_if_ne (tgt := 83) hX dX11_readLetter_71 (by decide) rfl (fun c71 => ?_) (fun c71 => ?_)
        · refine r_return hX rfl dX11_readLetter_83 (by decide) (by decide) ?_
          refine ⟨rfl, i6, rfl, ?_⟩
          unfold ltN ltR
          rw [if_neg (fun z => c71 z.2), if_pos (Classical.not_not.mp c28)]
          exact h6.w hn
        · refine r_aload_n hX dX11_readLetter_74 rfl ?_
          refine r_iload_n hX dX11_readLetter_75 rfl ?_
          refine r_iload_n hX dX11_readLetter_76 rfl ?_
          refine r_iload hX dX11_readLetter_77 rfl ?_
          refine r_iV3 hX dX11_readLetter_79 IX11_posts ml_X11_183 rfl (LX11_s hL) rfl (t_X11_posts (M := wI M i6) hL hn6 h2n (of_decide_eq_true (muQ_c (Classical.not_not.mp c28) (by omega)))) (by decide) (by decide) (by decide) (by decide) rfl (Nat.le_of_ble_eq_true rfl) (fun i7 h7 => ?_)
          show J G base X _ _ (wI M i7) _ _ _
          
          refine r_pop hX dX11_readLetter_82 rfl ?_
          refine r_return hX rfl dX11_readLetter_83 (by decide) (by decide) ?_
          refine ⟨rfl, i7, rfl, ?_⟩
          unfold ltN ltR
          rw [if_pos ⟨Classical.not_not.mp c28, Classical.not_not.mp c71⟩, if_pos (Classical.not_not.mp c28)]
          exact pW.post h6 h7
      refine r_aload_n hX dX11_readLetter_44 rfl ?_
      refine r_ldcS (i := 6) hX dX11_readLetter_45 (show (RX11, 177, 6) ∈ txR by simp [txR]) ?_
      refine r_iV1 hX dX11_readLetter_47 IX11_takes ml_X11_179 rfl (LX11_s hL) rfl (t_X11_takes (M := wI M i3) hL (h3.tt hT) h3.1 (rvQ_le (rvQ_le hp1 he) he) (w := 6) (by decide)) (by decide) (by decide) (by decide) (by decide) rfl (Nat.le_of_ble_eq_true rfl) (fun i4 h4 => ?_)
      show J G base X _ _ (wI M i4) _ _ _
      replace h4 := h3.tr h4
      refine rb_if_eq (tgt := 64) hX dX11_readLetter_50 (by decide) rfl (fun c50 => ?_) (fun c50 => ?_)
      · refine r_iconst (v := nI 0) hX dX11_readLetter_64 (by decide) ?_
        have hV : ltV n u e (ltS n x q) = 0 := by unfold ltV; rw [if_neg c50]
        have hD : ltD n u e (ltS n x q) = tkQ u e 6 (ltB n u e (ltS n x q)) := by unfold ltD; rw [if_neg c50]
        have z := fin i4 (by rw [hD]; exact h4)
        rw [hV] at z
        exact z
      · refine r_aload_n hX dX11_readLetter_53 rfl ?_
        refine r_iconst (v := nI 1) hX dX11_readLetter_54 (by decide) ?_
        refine r_sipush (v := nI 999) hX dX11_readLetter_55 (by decide) ?_
        refine r_iV2 hX dX11_readLetter_58 IX11_number ml_X11_154 rfl (LX11_s hL) rfl (t_X11_number (M := wI M i4) hL (h4.tt hT) h4.1 (tkQ_le (rvQ_le (rvQ_le hp1 he) he)) (lo := 1) (hh := 999) (by omega) (by omega)) (by decide) (by decide) (by decide) (by decide) rfl (Nat.le_of_ble_eq_true rfl) (fun i5 h5 => ?_)
        show J G base X _ _ (wI M i5) _ _ _
        replace h5 := h4.tr h5
        refine r_goto (tgt := 65) hX dX11_readLetter_61 (by decide) ?_
        have hV : ltV n u e (ltS n x q) = nuW u e 1 999 (tkQ u e 6 (ltB n u e (ltS n x q))) := by unfold ltV; rw [if_pos c50]
        have hD : ltD n u e (ltS n x q) = nuQ u e 1 999 (tkQ u e 6 (ltB n u e (ltS n x q))) := by unfold ltD; rw [if_pos c50]
        have z := fin i5 (by rw [hD]; exact h5)
        rw [hV] at z
        exact z
    · refine r_return hX rfl dX11_readLetter_31 (by decide) (by decide) ?_
      refine ⟨rfl, i1, rfl, ?_⟩
      unfold ltN ltR
      rw [if_neg (fun z => c28 z.1), if_neg c28]
      exact h1.w hn
  refine r_aload_n hX dX11_readLetter_5 rfl ?_
  refine r_aload_n hX dX11_readLetter_6 rfl ?_
  refine r_cV0 hX dX11_readLetter_7 IX11_letters ml_X11_170 rfl (LX11_s hL) rfl (t_X11_letters (M := wI M i0) hL hn0 h2n) (by decide) (by decide) (by decide) (by decide) rfl (Nat.le_of_ble_eq_true rfl) ?_
  refine r_bipush (v := nI 30) hX dX11_readLetter_10 (by decide) ?_
  refine rn_icmp_ge (tgt := 19) hX dX11_readLetter_12 (by decide) rfl rfl (by omega) (by omega) (fun c12 => ?_) (fun c12 => ?_)
  · refine r_iconst (v := nI 0) hX dX11_readLetter_19 (by decide) ?_
    have hP : ¬ (nv n 2 < 30) := by omega
    have z := main
    rw [if_neg hP] at z
    exact z
  · refine r_iconst (v := nI 1) hX dX11_readLetter_15 (by decide) ?_
    refine r_goto (tgt := 20) hX dX11_readLetter_16 (by decide) ?_
    have hP : (nv n 2 < 30) := c12
    have z := main
    rw [if_pos hP] at z
    exact z
