variable {G : GG} {base : Nat}
theorem r_dconst0 {X : Cx} {cc : ByteArray} {own : String} {nL : Nat} {ret : Option FieldType} {d mc ms : Nat} {post : Ot → Mm → Prop} {cs sl : Nat} {M : Mm} {pc : Nat} {ls : List (Option Value)} {st : List Value} (hX : okX G base X cc own nL ret d mc ms post) (hd : decode cc pc = .ok (.dconst 0, 1)) (k : J G base X cs sl M (pc + 1) ls (.double 0 :: st)) : J G base X cs sl M pc ls st := by
  obtain ⟨p, l, e, R, s, m, args, below, meth, c, Q⟩ := X
  obtain ⟨hx, hb, hml, hown, hts, hamb, hlk, hst, hr, hR, hQ, hout⟩ := hX
  intro H locs lsA hM hS hl
  exact lv_dconst0 hx hb hd (k H locs lsA hM hS hl)
/-- a share -/
def pcD (g a : Nat) : UInt64 := if a = 0 then 0 else FP.ddiv (FP.i2d (nI g)) (FP.i2d (nI a))
theorem dv_ok : ∀ g, g < 31 → ∀ a, a < 31 → ¬ a = 0 → FP.ddiv (FP.i2d (nI g)) (FP.i2d (nI a)) &&& 0x7fffffffffffffff ≤ 0x7ff0000000000000 := by decide +kernel
theorem dv_eq : ∀ g, g < 31 → ∀ a, a < 31 → Op.cmpValue (FP.dcmp (pcD g a) (pcD g a)) .l = 0 := by decide +kernel
/-- what the share is of -/
def pcA (n : Nat → Int32) (l : Nat) : Bool := decide (n (498 + 10 * l + 3) = 2)
def pcG (n : Nat → Int32) (l : Nat) : Bool := decide (n (498 + 10 * l + 3) = 2) && !lateB n l
theorem pcG_le (n : Nat → Int32) : ∀ k, cntB (pcG n) k ≤ cntB (pcA n) k
  | 0 => Nat.le_refl _
  | k + 1 => by
    have := pcG_le n k
    simp only [cntB]
    by_cases h : pcG n k = true
    · have h2 : pcA n k = true := by
        unfold pcG at h
        rw [Bool.and_eq_true] at h
        exact h.1
      rw [if_pos h, if_pos h2]; omega
    · rw [if_neg h]; omega
def rs_punc (σ : Sg) : UInt64 := pcD (cntB (pcG σ.1) (nv σ.1 2)) (cntB (pcA σ.1) (nv σ.1 2))
/-- it returns a double -/
def rD (M : Mm) (P : UInt64 → (Nat → Nat → Int32) → Prop) : Ot → Mm → Prop := fun o N => ∃ (x : UInt64) (i : Nat → Nat → Int32), o = .inl (some (.double x)) ∧ N = wI M i ∧ P x i
set_option maxHeartbeats 2000000 in
set_option maxRecDepth 20000 in
theorem t_X11_promise {M : Mm} {a : Nat} {σ : Sg} {T : Nat} (hL : LX11 M.1 M.2.1 a) (hR : RI (mI M) a σ) (hO : OkN T σ.1) (hT9 : T < 890000) {x y : Int32} : Ct G base YX11_promise 8 0 0 [.ref a, .int x, .int y] M (rV M (pQ M a (rs_promise σ x y) σ)) := by
  obtain ⟨hT, hS, hLt, h4, h5, h6, hLo, hSt, hNa⟩ := hO
  have h0 := hT.1
  have h1 := hT.2.1
  have hr := hT.2.2
  have h2 := hLt.1
  have h3 := hLt.2.1
  have hb0 := h0.2
  have hb1 := h1.2
  have hb2 := h2.2
  have hb3 := h3.2
  have hb4 := h4.2
  have ht6 : σ.1 6 = nI (nv σ.1 6) := h6.1
  have hh6 : nv σ.1 6 ≤ T := h6.2
  by_cases hx : ∃ p q, x = nI p ∧ y = nI q ∧ town σ.1 p = true ∧ town σ.1 q = true ∧ p ≠ q
  · obtain ⟨p, q, rfl, rfl, hp, hq, hne⟩ := hx
    have hpt : p < nv σ.1 0 ∧ σ.1 (8 + p) = 1 := by simpa [town] using hp
    have hqt : q < nv σ.1 0 ∧ σ.1 (8 + q) = 1 := by simpa [town] using hq
    refine Ct.of IX11_promise.1 (by simp [Value.category]) (Nat.le_of_ble_eq_true rfl) (fun X hX hN => ?_)
    show J G base X 0 0 M 0 [some (.ref a), some (.int (nI p)), some (.int (nI q)), none] []
    refine r_aload_n hX dX11_promise_0 rfl ?_
    refine r_iconst (v := nI 0) hX dX11_promise_1 (by decide) ?_
    refine r_puti hX dX11_promise_2 fl_X11_3 rfl rfl (LX11_s hL) ?_
    refine J.gen (M0 := M) rfl (fun i0 h00 => ?_)
    obtain ⟨hR0, hn0, ht0, ho0⟩ := pub0 hR h00
    clear h00
    refine r_aload_n hX dX11_promise_5 rfl ?_
    refine r_iload_n hX dX11_promise_6 rfl ?_
    refine r_iload_n hX dX11_promise_7 rfl ?_
    refine r_cV2 hX dX11_promise_8 IX11_noPair ml_X11_307 rfl (LX11_s hL) rfl (t_X11_noPair1 (M := wI M i0) hL hn0 h0 hp hq hne) (by decide) (by decide) (by decide) (by decide) rfl (Nat.le_of_ble_eq_true rfl) ?_
    refine r_if_eq (tgt := 16) hX dX11_promise_11 (by decide) (fun c11 => ?_) (fun c11 => absurd c11 (by decide))
    refine r_aload_n hX dX11_promise_16 rfl ?_
    refine r_iload_n hX dX11_promise_17 rfl ?_
    refine r_iload_n hX dX11_promise_18 rfl ?_
    refine r_iV2 hX dX11_promise_19 IX11_arrivalBy ml_X11_310 rfl (LX11_s hL) rfl (t_X11_arrivalBy (M := wI M i0) hL hn0 hT hS ht6 (by omega) (by omega) (by omega)) (by decide) (by decide) (by decide) (by decide) rfl (Nat.le_of_ble_eq_true rfl) (fun i1 h1' => ?_)
    obtain ⟨hR1, hn1, ht1, ho1⟩ := pub2 (i1 := i1) hR0 ho0 ht0 (fun x hx => h1' x ⟨hx.1, hx.2.1, hx.2.2.1⟩)
    show J G base X _ _ (wI M i1) _ _ _
    generalize hA : arP σ.1 p q = A
    refine r_istore3 hX dX11_promise_22 rfl ?_
    refine r_iload_n hX dX11_promise_23 rfl ?_
    refine r_iconst (v := (-1)) hX dX11_promise_24 (by decide) ?_
    refine r_icmp_ne (tgt := 32) hX dX11_promise_25 (by decide) (fun c25 => ?_) (fun c25 => ?_)
    · refine r_iload_n hX dX11_promise_32 rfl ?_
      refine r_aload_n hX dX11_promise_33 rfl ?_
      refine r_getr hX dX11_promise_34 fl_X11_13 rfl (LX11_s hL) (LX11_r1 hL) ?_
      refine r_bipush (v := nI 6) hX dX11_promise_37 (by decide) ?_
      refine rn_iald hX dX11_promise_39 (LX11_a1 hL) rfl (by omega) (by omega) ?_
      rw [hn1]
      refine r_isub hX dX11_promise_40 ?_
      refine r_ireturn hX rfl rfl dX11_promise_41 (by decide) (by decide) ?_
      refine ⟨_, i1, rfl, rfl, hR1, ?_, ho1⟩
      unfold rs_promise
      rw [pair_ok hb0 hp hq hne]
      dsimp only
      rw [hA]
      exact ⟨by first | exact (if_pos c25).symm | exact (if_neg c25).symm, ht1⟩
    · refine r_iconst (v := (-1)) hX dX11_promise_28 (by decide) ?_
      refine r_goto (tgt := 41) hX dX11_promise_29 (by decide) ?_
      refine r_ireturn hX rfl rfl dX11_promise_41 (by decide) (by decide) ?_
      refine ⟨_, i1, rfl, rfl, hR1, ?_, ho1⟩
      unfold rs_promise
      rw [pair_ok hb0 hp hq hne]
      dsimp only
      rw [hA]
      exact ⟨by first | exact (if_pos c25).symm | exact (if_neg c25).symm, ht1⟩
  · refine Ct.of IX11_promise.1 (by simp [Value.category]) (Nat.le_of_ble_eq_true rfl) (fun X hX hN => ?_)
    show J G base X 0 0 M 0 [some (.ref a), some (.int x), some (.int y), none] []
    refine r_aload_n hX dX11_promise_0 rfl ?_
    refine r_iconst (v := nI 0) hX dX11_promise_1 (by decide) ?_
    refine r_puti hX dX11_promise_2 fl_X11_3 rfl rfl (LX11_s hL) ?_
    refine J.gen (M0 := M) rfl (fun i0 h00 => ?_)
    obtain ⟨hR0, hn0, ht0, ho0⟩ := pub0 hR h00
    clear h00
    refine r_aload_n hX dX11_promise_5 rfl ?_
    refine r_iload_n hX dX11_promise_6 rfl ?_
    refine r_iload_n hX dX11_promise_7 rfl ?_
    refine r_cV2 hX dX11_promise_8 IX11_noPair ml_X11_307 rfl (LX11_s hL) rfl (t_X11_noPair0 (M := wI M i0) hL hn0 h0 hx) (by decide) (by decide) (by decide) (by decide) rfl (Nat.le_of_ble_eq_true rfl) ?_
    refine r_if_eq (tgt := 16) hX dX11_promise_11 (by decide) (fun c11 => absurd c11 (by decide)) (fun c11 => ?_)
    refine r_iconst (v := 0) hX dX11_promise_14 (by decide) ?_
    refine r_ireturn hX rfl rfl dX11_promise_15 (by decide) (by decide) ?_
    obtain ⟨q1, q2, q3⟩ := pub1 hR0 ho0 1
    refine ⟨_, mI (uI (wI M i0) a 0 1), rfl, rfl, q1, ?_, q3⟩
    unfold rs_promise
    rw [pair_no hb0 hx]
    exact q2

set_option maxHeartbeats 2000000 in
set_option maxRecDepth 20000 in
theorem t_X11_promisedDays {M : Mm} {a : Nat} {σ : Sg} {T : Nat} (hL : LX11 M.1 M.2.1 a) (hR : RI (mI M) a σ) (hO : OkN T σ.1) (hT9 : T < 890000) {x y : Int32} : Ct G base YX11_promisedDays 8 0 0 [.ref a, .int x, .int y] M (rV M (pQ M a (rs_promisedDays σ x y) σ)) := by
  obtain ⟨hT, hS, hLt, h4, h5, h6, hLo, hSt, hNa⟩ := hO
  have h0 := hT.1
  have h1 := hT.2.1
  have hr := hT.2.2
  have h2 := hLt.1
  have h3 := hLt.2.1
  have hb0 := h0.2
  have hb1 := h1.2
  have hb2 := h2.2
  have hb3 := h3.2
  have hb4 := h4.2
  have ht6 : σ.1 6 = nI (nv σ.1 6) := h6.1
  have hh6 : nv σ.1 6 ≤ T := h6.2
  by_cases hx : ∃ p q, x = nI p ∧ y = nI q ∧ town σ.1 p = true ∧ town σ.1 q = true ∧ p ≠ q
  · obtain ⟨p, q, rfl, rfl, hp, hq, hne⟩ := hx
    have hpt : p < nv σ.1 0 ∧ σ.1 (8 + p) = 1 := by simpa [town] using hp
    have hqt : q < nv σ.1 0 ∧ σ.1 (8 + q) = 1 := by simpa [town] using hq
    refine Ct.of IX11_promisedDays.1 (by simp [Value.category]) (Nat.le_of_ble_eq_true rfl) (fun X hX hN => ?_)
    show J G base X 0 0 M 0 [some (.ref a), some (.int (nI p)), some (.int (nI q)), none] []
    refine r_aload_n hX dX11_promisedDays_0 rfl ?_
    refine r_iconst (v := nI 0) hX dX11_promisedDays_1 (by decide) ?_
    refine r_puti hX dX11_promisedDays_2 fl_X11_3 rfl rfl (LX11_s hL) ?_
    refine J.gen (M0 := M) rfl (fun i0 h00 => ?_)
    obtain ⟨hR0, hn0, ht0, ho0⟩ := pub0 hR h00
    clear h00
    refine r_aload_n hX dX11_promisedDays_5 rfl ?_
    refine r_iload_n hX dX11_promisedDays_6 rfl ?_
    refine r_iload_n hX dX11_promisedDays_7 rfl ?_
    refine r_cV2 hX dX11_promisedDays_8 IX11_noPair ml_X11_307 rfl (LX11_s hL) rfl (t_X11_noPair1 (M := wI M i0) hL hn0 h0 hp hq hne) (by decide) (by decide) (by decide) (by decide) rfl (Nat.le_of_ble_eq_true rfl) ?_
    refine r_if_eq (tgt := 16) hX dX11_promisedDays_11 (by decide) (fun c11 => ?_) (fun c11 => absurd c11 (by decide))
    refine r_aload_n hX dX11_promisedDays_16 rfl ?_
    refine r_iload_n hX dX11_promisedDays_17 rfl ?_
    refine r_iload_n hX dX11_promisedDays_18 rfl ?_
    refine r_iV2 hX dX11_promisedDays_19 IX11_arrivalBy ml_X11_310 rfl (LX11_s hL) rfl (t_X11_arrivalBy (M := wI M i0) hL hn0 hT hS ht6 (by omega) (by omega) (by omega)) (by decide) (by decide) (by decide) (by decide) rfl (Nat.le_of_ble_eq_true rfl) (fun i1 h1' => ?_)
    obtain ⟨hR1, hn1, ht1, ho1⟩ := pub2 (i1 := i1) hR0 ho0 ht0 (fun x hx => h1' x ⟨hx.1, hx.2.1, hx.2.2.1⟩)
    show J G base X _ _ (wI M i1) _ _ _
    generalize hA : arP σ.1 p q = A
    refine r_istore3 hX dX11_promisedDays_22 rfl ?_
    refine r_iload_n hX dX11_promisedDays_23 rfl ?_
    refine r_iconst (v := (-1)) hX dX11_promisedDays_24 (by decide) ?_
    refine r_icmp_ne (tgt := 32) hX dX11_promisedDays_25 (by decide) (fun c25 => ?_) (fun c25 => ?_)
    · refine r_iload_n hX dX11_promisedDays_32 rfl ?_
      refine r_bipush (v := nI 24) hX dX11_promisedDays_33 (by decide) ?_
      refine r_idiv hX dX11_promisedDays_35 (by decide) ?_
      refine r_aload_n hX dX11_promisedDays_36 rfl ?_
      refine r_getr hX dX11_promisedDays_37 fl_X11_13 rfl (LX11_s hL) (LX11_r1 hL) ?_
      refine r_bipush (v := nI 6) hX dX11_promisedDays_40 (by decide) ?_
      refine rn_iald hX dX11_promisedDays_42 (LX11_a1 hL) rfl (by omega) (by omega) ?_
      rw [hn1]
      refine r_bipush (v := nI 24) hX dX11_promisedDays_43 (by decide) ?_
      refine r_idiv hX dX11_promisedDays_45 (by decide) ?_
      refine r_isub hX dX11_promisedDays_46 ?_
      refine r_ireturn hX rfl rfl dX11_promisedDays_47 (by decide) (by decide) ?_
      refine ⟨_, i1, rfl, rfl, hR1, ?_, ho1⟩
      unfold rs_promisedDays
      rw [pair_ok hb0 hp hq hne]
      dsimp only
      rw [hA]
      exact ⟨by first | exact (if_pos c25).symm | exact (if_neg c25).symm, ht1⟩
    · refine r_iconst (v := (-1)) hX dX11_promisedDays_28 (by decide) ?_
      refine r_goto (tgt := 47) hX dX11_promisedDays_29 (by decide) ?_
      refine r_ireturn hX rfl rfl dX11_promisedDays_47 (by decide) (by decide) ?_
      refine ⟨_, i1, rfl, rfl, hR1, ?_, ho1⟩
      unfold rs_promisedDays
      rw [pair_ok hb0 hp hq hne]
      dsimp only
      rw [hA]
      exact ⟨by first | exact (if_pos c25).symm | exact (if_neg c25).symm, ht1⟩
  · refine Ct.of IX11_promisedDays.1 (by simp [Value.category]) (Nat.le_of_ble_eq_true rfl) (fun X hX hN => ?_)
    show J G base X 0 0 M 0 [some (.ref a), some (.int x), some (.int y), none] []
    refine r_aload_n hX dX11_promisedDays_0 rfl ?_
    refine r_iconst (v := nI 0) hX dX11_promisedDays_1 (by decide) ?_
    refine r_puti hX dX11_promisedDays_2 fl_X11_3 rfl rfl (LX11_s hL) ?_
    refine J.gen (M0 := M) rfl (fun i0 h00 => ?_)
    obtain ⟨hR0, hn0, ht0, ho0⟩ := pub0 hR h00
    clear h00
    refine r_aload_n hX dX11_promisedDays_5 rfl ?_
    refine r_iload_n hX dX11_promisedDays_6 rfl ?_
    refine r_iload_n hX dX11_promisedDays_7 rfl ?_
    refine r_cV2 hX dX11_promisedDays_8 IX11_noPair ml_X11_307 rfl (LX11_s hL) rfl (t_X11_noPair0 (M := wI M i0) hL hn0 h0 hx) (by decide) (by decide) (by decide) (by decide) rfl (Nat.le_of_ble_eq_true rfl) ?_
    refine r_if_eq (tgt := 16) hX dX11_promisedDays_11 (by decide) (fun c11 => absurd c11 (by decide)) (fun c11 => ?_)
    refine r_iconst (v := 0) hX dX11_promisedDays_14 (by decide) ?_
    refine r_ireturn hX rfl rfl dX11_promisedDays_15 (by decide) (by decide) ?_
    obtain ⟨q1, q2, q3⟩ := pub1 hR0 ho0 1
    refine ⟨_, mI (uI (wI M i0) a 0 1), rfl, rfl, q1, ?_, q3⟩
    unfold rs_promisedDays
    rw [pair_no hb0 hx]
    exact q2

set_option maxHeartbeats 2000000 in
set_option maxRecDepth 20000 in
theorem t_X11_reach {M : Mm} {a : Nat} {σ : Sg} {T : Nat} (hL : LX11 M.1 M.2.1 a) (hR : RI (mI M) a σ) (hO : OkN T σ.1) (hT9 : T < 890000) {x : Int32} : Ct G base YX11_reach 7 0 0 [.ref a, .int x] M (rV M (pQ M a (rs_reach σ x) σ)) := by
  obtain ⟨hT, hS, hLt, h4, h5, h6, hLo, hSt, hNa⟩ := hO
  have h0 := hT.1
  have h1 := hT.2.1
  have hr := hT.2.2
  have h2 := hLt.1
  have h3 := hLt.2.1
  have hb0 := h0.2
  have hb1 := h1.2
  have hb2 := h2.2
  have hb3 := h3.2
  have hb4 := h4.2
  have ht6 : σ.1 6 = nI (nv σ.1 6) := h6.1
  have hh6 : nv σ.1 6 ≤ T := h6.2
  by_cases hx : ∃ p, x = nI p ∧ town σ.1 p = true
  · obtain ⟨p, rfl, hp⟩ := hx
    have hpt : p < nv σ.1 0 ∧ σ.1 (8 + p) = 1 := by simpa [town] using hp
    refine Ct.of IX11_reach.1 (by simp [Value.category]) (Nat.le_of_ble_eq_true rfl) (fun X hX hN => ?_)
    show J G base X 0 0 M 0 [some (.ref a), some (.int (nI p)), none, none] []
    refine r_aload_n hX dX11_reach_0 rfl ?_
    refine r_iconst (v := nI 0) hX dX11_reach_1 (by decide) ?_
    refine r_puti hX dX11_reach_2 fl_X11_3 rfl rfl (LX11_s hL) ?_
    refine J.gen (M0 := M) rfl (fun i0 h00 => ?_)
    obtain ⟨hR0, hn0, ht0, ho0⟩ := pub0 hR h00
    clear h00
    refine r_aload_n hX dX11_reach_5 rfl ?_
    refine r_aload_n hX dX11_reach_6 rfl ?_
    refine r_iload_n hX dX11_reach_7 rfl ?_
    refine r_cV1 hX dX11_reach_8 IX11_isTown ml_X11_166 rfl (LX11_s hL) rfl (t_X11_isTown (M := wI M i0) hL hn0 h0) (by decide) (by decide) (by decide) (by decide) rfl (Nat.le_of_ble_eq_true rfl) ?_
    refine rb_if_ne (tgt := 18) hX dX11_reach_11 (by decide) rfl (fun c11 => ?_) (fun c11 => absurd ((town_iff h0 hpt.1).mpr hp) c11)
    refine r_iconst (v := nI 0) hX dX11_reach_18 (by decide) ?_
    refine r_iconst (v := nI 1) hX dX11_reach_19 (by decide) ?_
    refine r_cV2 hX dX11_reach_20 IX11_throwsIf ml_X11_215 rfl (LX11_s hL) rfl (t_X11_throwsIf0 (M := wI M i0) hL) (by decide) (by decide) (by decide) (by decide) rfl (Nat.le_of_ble_eq_true rfl) ?_
    refine r_if_eq (tgt := 28) hX dX11_reach_23 (by decide) (fun c23 => ?_) (fun c23 => absurd c23 (by decide))
    obtain ⟨hK, hK0⟩ := hS.k
    refine r_aload_n hX dX11_reach_28 rfl ?_
    refine r_iconst (v := 0) hX dX11_reach_29 (by decide) ?_
    refine r_iconst (v := 1) hX dX11_reach_30 (by decide) ?_
    refine r_iload_n hX dX11_reach_31 rfl ?_
    refine r_ishl hX dX11_reach_32 ?_
    refine r_aload_n hX dX11_reach_33 rfl ?_
    refine r_getr hX dX11_reach_34 fl_X11_13 rfl (LX11_s hL) (LX11_r1 hL) ?_
    refine r_bipush (v := nI 6) hX dX11_reach_37 (by decide) ?_
    refine rn_iald hX dX11_reach_39 (LX11_a1 hL) rfl (by omega) (by omega) ?_
    rw [hn0]
    rw [ht6]
    refine r_iV3 hX dX11_reach_40 IX11_laysArrivals ml_X11_225 rfl (LX11_s hL) rfl (t_X11_laysArrivals (M := wI M i0) hL hn0 hT hK hK0 (C0 := fun _ => false) (O0 := fun x => decide (x = p)) (fun c hc => b_0 _) (fun q hq => bt_b1 (k := p) (by omega) q) (by omega)) (by decide) (by decide) (by decide) (by decide) rfl (Nat.le_of_ble_eq_true rfl) (fun i1 h1' => ?_)
    obtain ⟨hR1, hn1, ht1, ho1⟩ := pub2 (i1 := i1) hR0 ho0 ht0 (fun x hx => h1'.2 x ⟨hx.1, hx.2.1, hx.2.2.1⟩)
    show J G base X _ _ (wI M i1) _ _ _
    refine r_iconst (v := 0) hX dX11_reach_43 (by decide) ?_
    refine r_istore2 hX dX11_reach_44 rfl ?_
    refine r_iconst (v := nI 0) hX dX11_reach_45 (by decide) ?_
    refine r_istore3 hX dX11_reach_46 rfl ?_
    obtain ⟨AP, hAP⟩ : ∃ AP : Nat → Int32, ∀ q, arP σ.1 p q = AP q := ⟨_, fun _ => rfl⟩
    have h1a : ∀ q, q < nv σ.1 0 → i1 (a + 9) q = AP q := fun q hq => (h1'.1 q hq).trans (hAP q)
    generalize hF : (fun q => decide (¬ q = p) && town σ.1 q && decide (¬ AP q = -1)) = F
    clear h1'
    refine loop_up (P := fun q => J G base X 0 0 (wI M i1) 47 [some (.ref a), some (.int (nI p)), some (.int (setB F q)), some (.int (nI q))] []) (nv σ.1 0) (fun q hq ih => ?_) 0 (Nat.zero_le _)
    have har : q < nv σ.1 0 → mI (wI M i1) (a + 9) q = AP q := fun hq => h1a q hq
    have hfq : F q = (decide (¬ q = p) && town σ.1 q && decide (¬ AP q = -1)) := by rw [← hF]
    refine r_iload_n hX dX11_reach_47 rfl ?_
    refine r_aload_n hX dX11_reach_48 rfl ?_
    refine r_cV0 hX dX11_reach_49 IX11_places ml_X11_75 rfl (LX11_s hL) rfl (t_X11_places (M := wI M i1) hL hn1 h0) (by decide) (by decide) (by decide) (by decide) rfl (Nat.le_of_ble_eq_true rfl) ?_
    refine rn_icmp_ge (tgt := 94) hX dX11_reach_52 (by decide) rfl rfl (by omega) (by omega) (fun c52 => ?_) (fun c52 => ?_)
    · refine r_iload_n hX dX11_reach_94 rfl ?_
      refine r_ireturn hX rfl rfl dX11_reach_95 (by decide) (by decide) ?_
      obtain rfl : q = nv σ.1 0 := by omega
      refine ⟨_, i1, rfl, rfl, hR1, ?_, ho1⟩
      unfold rs_reach
      rw [ix_of hpt.1 (by omega)]
      dsimp only
      rw [if_pos hp, setB_congr (f := fun q => decide (¬ q = p) && town σ.1 q && decide (¬ arP σ.1 p q = -1)) (g := F) (fun q _ => by rw [← hF, hAP q])]
      exact ⟨rfl, ht1⟩
    · refine r_iload_n hX dX11_reach_55 rfl ?_
      refine r_iload_n hX dX11_reach_56 rfl ?_
      refine r_iload_n hX dX11_reach_57 rfl ?_
      refine rn_icmp_eq (tgt := 85) hX dX11_reach_58 (by decide) rfl rfl (by omega) (by omega) (fun c58 => ?_) (fun c58 => ?_)
      · refine r_iconst (v := 0) hX dX11_reach_85 (by decide) ?_
        refine r_ior hX dX11_reach_86 ?_
        refine r_istore2 hX dX11_reach_87 rfl ?_
        refine rn_iinc3 hX dX11_reach_88 rfl rfl ?_
        refine r_goto (tgt := 47) hX dX11_reach_91 (by decide) ?_
        have hfv : F q = false := by rw [hfq, decide_eq_false (fun e => e c58)]; rfl
        have z := ih (by omega)
        rw [setB_step, hfv] at z
        exact z
      · refine r_aload_n hX dX11_reach_61 rfl ?_
        refine r_iload_n hX dX11_reach_62 rfl ?_
        refine r_cV1 hX dX11_reach_63 IX11_isTown ml_X11_166 rfl (LX11_s hL) rfl (t_X11_isTown (M := wI M i1) hL hn1 h0) (by decide) (by decide) (by decide) (by decide) rfl (Nat.le_of_ble_eq_true rfl) ?_
        refine rb_if_eq (tgt := 85) hX dX11_reach_66 (by decide) rfl (fun c66 => ?_) (fun c66 => ?_)
        · refine r_iconst (v := 0) hX dX11_reach_85 (by decide) ?_
          refine r_ior hX dX11_reach_86 ?_
          refine r_istore2 hX dX11_reach_87 rfl ?_
          refine rn_iinc3 hX dX11_reach_88 rfl rfl ?_
          refine r_goto (tgt := 47) hX dX11_reach_91 (by decide) ?_
          have hfv : F q = false := by rw [hfq, show town σ.1 q = false from townI h0 c52 c66, Bool.and_false]; rfl
          have z := ih (by omega)
          rw [setB_step, hfv] at z
          exact z
        · refine r_aload_n hX dX11_reach_69 rfl ?_
          refine r_getr hX dX11_reach_70 fl_X11_42 rfl (LX11_s hL) (LX11_r18 hL) ?_
          refine r_iload_n hX dX11_reach_73 rfl ?_
          refine rn_iald hX dX11_reach_74 (LX11_a18 hL) rfl (by omega) (by omega) ?_
          rw [har c52]
          refine r_iconst (v := (-1)) hX dX11_reach_75 (by decide) ?_
          refine r_icmp_eq (tgt := 85) hX dX11_reach_76 (by decide) (fun c76 => ?_) (fun c76 => ?_)
          · refine r_iconst (v := 0) hX dX11_reach_85 (by decide) ?_
            refine r_ior hX dX11_reach_86 ?_
            refine r_istore2 hX dX11_reach_87 rfl ?_
            refine rn_iinc3 hX dX11_reach_88 rfl rfl ?_
            refine r_goto (tgt := 47) hX dX11_reach_91 (by decide) ?_
            have hfv : F q = false := by rw [hfq, c76, decide_eq_false (fun e : ¬ (-1 : Int32) = -1 => e rfl), Bool.and_false]
            have z := ih (by omega)
            rw [setB_step, hfv] at z
            exact z
          · refine r_iconst (v := 1) hX dX11_reach_79 (by decide) ?_
            refine r_iload_n hX dX11_reach_80 rfl ?_
            refine r_ishl hX dX11_reach_81 ?_
            refine r_goto (tgt := 86) hX dX11_reach_82 (by decide) ?_
            refine r_ior hX dX11_reach_86 ?_
            refine r_istore2 hX dX11_reach_87 rfl ?_
            refine rn_iinc3 hX dX11_reach_88 rfl rfl ?_
            refine r_goto (tgt := 47) hX dX11_reach_91 (by decide) ?_
            have hfv : F q = true := by rw [hfq, decide_eq_true c58, townI' h0 c52 c66, decide_eq_true c76]; rfl
            have z := ih (by omega)
            rw [setB_step, hfv] at z
            exact z
  · refine Ct.of IX11_reach.1 (by simp [Value.category]) (Nat.le_of_ble_eq_true rfl) (fun X hX hN => ?_)
    show J G base X 0 0 M 0 [some (.ref a), some (.int x), none, none] []
    refine r_aload_n hX dX11_reach_0 rfl ?_
    refine r_iconst (v := nI 0) hX dX11_reach_1 (by decide) ?_
    refine r_puti hX dX11_reach_2 fl_X11_3 rfl rfl (LX11_s hL) ?_
    refine J.gen (M0 := M) rfl (fun i0 h00 => ?_)
    obtain ⟨hR0, hn0, ht0, ho0⟩ := pub0 hR h00
    clear h00
    refine r_aload_n hX dX11_reach_5 rfl ?_
    refine r_aload_n hX dX11_reach_6 rfl ?_
    refine r_iload_n hX dX11_reach_7 rfl ?_
    refine r_cV1 hX dX11_reach_8 IX11_isTown ml_X11_166 rfl (LX11_s hL) rfl (t_X11_isTown (M := wI M i0) hL hn0 h0) (by decide) (by decide) (by decide) (by decide) rfl (Nat.le_of_ble_eq_true rfl) ?_
    refine rb_if_ne (tgt := 18) hX dX11_reach_11 (by decide) rfl (fun c11 => absurd ((town_is h0).mp c11) (fun ⟨p, _, h, h9⟩ => hx ⟨p, h, h9⟩)) (fun c11 => ?_)
    refine r_iconst (v := nI 1) hX dX11_reach_14 (by decide) ?_
    refine r_goto (tgt := 19) hX dX11_reach_15 (by decide) ?_
    refine r_iconst (v := nI 1) hX dX11_reach_19 (by decide) ?_
    refine r_cV2 hX dX11_reach_20 IX11_throwsIf ml_X11_215 rfl (LX11_s hL) rfl (t_X11_throwsIf1 (M := wI M i0) hL) (by decide) (by decide) (by decide) (by decide) rfl (Nat.le_of_ble_eq_true rfl) ?_
    refine r_if_eq (tgt := 28) hX dX11_reach_23 (by decide) (fun c23 => absurd c23 (by decide)) (fun c23 => ?_)
    refine r_iconst (v := 0) hX dX11_reach_26 (by decide) ?_
    refine r_ireturn hX rfl rfl dX11_reach_27 (by decide) (by decide) ?_
    obtain ⟨q1, q2, q3⟩ := pub1 hR0 ho0 1
    refine ⟨_, mI (uI (wI M i0) a 0 1), rfl, rfl, q1, ?_, q3⟩
    unfold rs_reach
    by_cases hc : ∃ c, c < nv σ.1 0 ∧ x = nI c
    · obtain ⟨c, hc, rfl⟩ := hc
      rw [ix_of hc (by omega)]
      dsimp only
      rw [if_neg (fun z => hx ⟨c, rfl, z⟩)]
      exact q2
    · rw [ix_no hc]
      exact q2

set_option maxHeartbeats 2000000 in
set_option maxRecDepth 20000 in
theorem t_X11_bestWait {M : Mm} {a : Nat} {σ : Sg} {T : Nat} (hL : LX11 M.1 M.2.1 a) (hR : RI (mI M) a σ) (hO : OkN T σ.1) (hT9 : T < 890000) {x y : Int32} : Ct G base YX11_bestWait 8 0 0 [.ref a, .int x, .int y] M (rV M (pQ M a (rs_bestWait σ x y) σ)) := by
  obtain ⟨hT, hS, hLt, h4, h5, h6, hLo, hSt, hNa⟩ := hO
  have h0 := hT.1
  have h1 := hT.2.1
  have hr := hT.2.2
  have h2 := hLt.1
  have h3 := hLt.2.1
  have hb0 := h0.2
  have hb1 := h1.2
  have hb2 := h2.2
  have hb3 := h3.2
  have hb4 := h4.2
  have ht6 : σ.1 6 = nI (nv σ.1 6) := h6.1
  have hh6 : nv σ.1 6 ≤ T := h6.2
  by_cases hx : ∃ p q, x = nI p ∧ y = nI q ∧ town σ.1 p = true ∧ town σ.1 q = true ∧ p ≠ q
  · obtain ⟨p, q, rfl, rfl, hp, hq, hne⟩ := hx
    have hpt : p < nv σ.1 0 ∧ σ.1 (8 + p) = 1 := by simpa [town] using hp
    have hqt : q < nv σ.1 0 ∧ σ.1 (8 + q) = 1 := by simpa [town] using hq
    refine Ct.of IX11_bestWait.1 (by simp [Value.category]) (Nat.le_of_ble_eq_true rfl) (fun X hX hN => ?_)
    show J G base X 0 0 M 0 [some (.ref a), some (.int (nI p)), some (.int (nI q)), none, none, none, none, none] []
    refine r_aload_n hX dX11_bestWait_0 rfl ?_
    refine r_iconst (v := nI 0) hX dX11_bestWait_1 (by decide) ?_
    refine r_puti hX dX11_bestWait_2 fl_X11_3 rfl rfl (LX11_s hL) ?_
    refine J.gen (M0 := M) rfl (fun i0 h00 => ?_)
    obtain ⟨hR0, hn0, ht0, ho0⟩ := pub0 hR h00
    clear h00
    refine r_aload_n hX dX11_bestWait_5 rfl ?_
    refine r_iload_n hX dX11_bestWait_6 rfl ?_
    refine r_iload_n hX dX11_bestWait_7 rfl ?_
    refine r_cV2 hX dX11_bestWait_8 IX11_noPair ml_X11_307 rfl (LX11_s hL) rfl (t_X11_noPair1 (M := wI M i0) hL hn0 h0 hp hq hne) (by decide) (by decide) (by decide) (by decide) rfl (Nat.le_of_ble_eq_true rfl) ?_
    refine r_if_eq (tgt := 16) hX dX11_bestWait_11 (by decide) (fun c11 => ?_) (fun c11 => absurd c11 (by decide))
    refine r_iconst (v := (-1)) hX dX11_bestWait_16 (by decide) ?_
    refine r_istore3 hX dX11_bestWait_17 rfl ?_
    refine r_iconst (v := nI 0) hX dX11_bestWait_18 (by decide) ?_
    refine r_istore4 hX dX11_bestWait_19 rfl ?_
    refine r_aload_n hX dX11_bestWait_21 rfl ?_
    refine r_iV0 hX dX11_bestWait_22 IX11_takesSacks ml_X11_231 rfl (LX11_s hL) rfl (t_X11_takesSacks (M := wI M i0) hL hn0) (by decide) (by decide) (by decide) (by decide) rfl (Nat.le_of_ble_eq_true rfl) (fun i1 h1' => ?_)
    obtain ⟨hR1, hn1, ht1, ho1⟩ := pub2 (i1 := i1) hR0 ho0 ht0 (fun x hx => h1'.2 x hx.2.1)
    show J G base X _ _ (wI M i1) _ _ _
    obtain ⟨K0, hK, hK0⟩ : ∃ K0 : Nat → Nat, KOk K0 ∧ ∀ c, c < 5 → σ.1 (33 + c) = nI (K0 c) := ⟨_, hS.k.1, hS.k.2⟩
    have k8' : ∀ c, c < 5 → i1 (a + 8) c = nI (K0 c) := fun c hc => (h1'.1 c hc).trans (hK0 c hc)
    clear h1'
    refine r_iconst (v := nI 0) hX dX11_bestWait_25 (by decide) ?_
    refine r_istore5 hX dX11_bestWait_26 rfl ?_
    have main : ∀ w, w ≤ 168 → ∀ z : (Nat → Nat → Int32) × (Nat → Nat), (KOk z.2 ∧ (∀ c, c < 5 → z.1 (a + 8) c = nI (z.2 c)) ∧ RI z.1 a σ ∧ z.1 a 0 = 0 ∧ outB z.1 (mI M) a 14) → J G base X 0 0 (wI M z.1) 28 [some (.ref a), some (.int (nI p)), some (.int (nI q)), some (.int (bwF σ.1 p q w).1), some (.int (bwF σ.1 p q w).2), some (.int (nI w)), none, none] [] := ?_
    · exact main 0 (by omega) (i1, K0) ⟨hK, k8', hR1, ht1, ho1⟩
    refine loop_up 168 (fun w hw ih z hz => ?_)
    obtain ⟨i2, K⟩ := z
    obtain ⟨z1, z2, z3, z4, z5⟩ := hz
    dsimp only at z1 z2 z3 z4 z5 ⊢
    have hn2 : mI (wI M i2) (a + 1) = σ.1 := z3.1
    have hor : bwF σ.1 p q (w + 1) = if ¬ bwA σ.1 p q w = -1 ∧ ((bwF σ.1 p q w).1 = -1 ∨ bwA σ.1 p q w - nI (nv σ.1 6 + w) < (bwF σ.1 p q w).2) then (nI w, bwA σ.1 p q w - nI (nv σ.1 6 + w)) else bwF σ.1 p q w := rfl
    refine r_iload hX dX11_bestWait_28 rfl ?_
    refine r_sipush (v := nI 168) hX dX11_bestWait_30 (by decide) ?_
    refine rn_icmp_ge (tgt := 124) hX dX11_bestWait_33 (by decide) rfl rfl (by omega) (by omega) (fun c33 => ?_) (fun c33 => ?_)
    · refine r_iload_n hX dX11_bestWait_124 rfl ?_
      refine r_ireturn hX rfl rfl dX11_bestWait_125 (by decide) (by decide) ?_
      obtain rfl : w = 168 := by omega
      refine ⟨_, i2, rfl, rfl, z3, ?_, z5⟩
      unfold rs_bestWait
      rw [pair_ok hb0 hp hq hne]
      exact ⟨rfl, z4⟩
    · refine r_aload_n hX dX11_bestWait_36 rfl ?_
      refine r_getr hX dX11_bestWait_37 fl_X11_13 rfl (LX11_s hL) (LX11_r1 hL) ?_
      refine r_bipush (v := nI 6) hX dX11_bestWait_40 (by decide) ?_
      refine rn_iald hX dX11_bestWait_42 (LX11_a1 hL) rfl (by omega) (by omega) ?_
      rw [hn2]
      rw [ht6]
      refine r_iload hX dX11_bestWait_43 rfl ?_
      refine rn_iadd hX dX11_bestWait_45 rfl rfl ?_
      refine r_istore6 hX dX11_bestWait_46 rfl ?_
      refine r_aload_n hX dX11_bestWait_48 rfl ?_
      refine r_iconst (v := 0) hX dX11_bestWait_49 (by decide) ?_
      refine r_iconst (v := 1) hX dX11_bestWait_50 (by decide) ?_
      refine r_iload_n hX dX11_bestWait_51 rfl ?_
      refine r_ishl hX dX11_bestWait_52 ?_
      refine r_iload hX dX11_bestWait_53 rfl ?_
      refine r_iV3 hX dX11_bestWait_55 IX11_laysArrivalsBy ml_X11_234 rfl (LX11_s hL) rfl (t_X11_laysArrivalsBy (M := wI M i2) hL hn2 hT z1 z2 (C0 := fun _ => false) (O0 := fun x => decide (x = p)) (fun c hc => b_0 _) (fun q hq => bt_b1 (k := p) (by omega) q) (by omega)) (by decide) (by decide) (by decide) (by decide) rfl (Nat.le_of_ble_eq_true rfl) (fun i3 h3 => ?_)
      obtain ⟨hR3, hn3, ht3, ho3⟩ := pub2 (i1 := i3) z3 z5 z4 (fun x hx => h3.2 x ⟨hx.1, hx.2.2.1⟩)
      have k83 : ∀ c, c < 5 → i3 (a + 8) c = nI (K c) := fun c hc => by rw [h3.2 _ ⟨by omega, by omega⟩]; exact z2 c hc
      have har : mI (wI M i3) (a + 9) q = bwA σ.1 p q w := h3.1 q hqt.1
      show J G base X _ _ (wI M i3) _ _ _
      refine r_aload_n hX dX11_bestWait_58 rfl ?_
      refine r_getr hX dX11_bestWait_59 fl_X11_42 rfl (LX11_s hL) (LX11_r18 hL) ?_
      refine r_iload_n hX dX11_bestWait_62 rfl ?_
      refine rn_iald hX dX11_bestWait_63 (LX11_a18 hL) rfl (by omega) (by omega) ?_
      rw [har]
      refine r_iconst (v := (-1)) hX dX11_bestWait_64 (by decide) ?_
      refine r_icmp_ne (tgt := 72) hX dX11_bestWait_65 (by decide) (fun c65 => ?_) (fun c65 => ?_)
      · refine r_aload_n hX dX11_bestWait_72 rfl ?_
        refine r_getr hX dX11_bestWait_73 fl_X11_42 rfl (LX11_s hL) (LX11_r18 hL) ?_
        refine r_iload_n hX dX11_bestWait_76 rfl ?_
        refine rn_iald hX dX11_bestWait_77 (LX11_a18 hL) rfl (by omega) (by omega) ?_
        rw [har]
        refine r_iload hX dX11_bestWait_78 rfl ?_
        refine r_isub hX dX11_bestWait_80 ?_
        have hnn : ¬ bwA σ.1 p q w - nI (nv σ.1 6 + w) = -1 := by
          rcases arN_spec (n := σ.1) (h := nv σ.1 6 + w) (C := fun _ => false) (O := fun x => decide (x = p)) (p := q) 240 (by omega) with ⟨e, -⟩ | ⟨j, hj, e, -⟩
          · exact absurd e c65
          · rw [show bwA σ.1 p q w = nI (nv σ.1 6 + w + j) from e, pk_sub (by omega)]
            exact nI_ne_m1 (by omega)
        refine r_istore7 hX dX11_bestWait_81 rfl ?_
        refine r_iload hX dX11_bestWait_83 rfl ?_
        refine r_iconst (v := (-1)) hX dX11_bestWait_85 (by decide) ?_
        refine r_icmp_eq (tgt := 108) hX dX11_bestWait_86 (by decide) (fun c86 => absurd c86 hnn) (fun c86 => ?_)
        refine r_iload_n hX dX11_bestWait_89 rfl ?_
        refine r_iconst (v := (-1)) hX dX11_bestWait_90 (by decide) ?_
        refine r_icmp_eq (tgt := 101) hX dX11_bestWait_91 (by decide) (fun c91 => ?_) (fun c91 => ?_)
        · refine r_iload hX dX11_bestWait_101 rfl ?_
          refine r_istore3 hX dX11_bestWait_103 rfl ?_
          refine r_iload hX dX11_bestWait_104 rfl ?_
          refine r_istore4 hX dX11_bestWait_106 rfl ?_
          have e9 : bwF σ.1 p q (w + 1) = (nI w, bwA σ.1 p q w - nI (nv σ.1 6 + w)) := by rw [hor, if_pos ⟨c65, Or.inl c91⟩]
          refine r_aload_n hX dX11_bestWait_108 rfl ?_
          refine r_iload hX dX11_bestWait_109 rfl ?_
          refine r_aload_n hX dX11_bestWait_111 rfl ?_
          refine r_getr hX dX11_bestWait_112 fl_X11_39 rfl (LX11_s hL) (LX11_r17 hL) ?_
          refine r_iV2 hX dX11_bestWait_115 IX11_swaps ml_X11_237 rfl (LX11_s hL) rfl (t_X11_swaps (M := wI M i3) hL hn3 hT (by omega) (LX11_a17 hL) (by omega)) (by decide) (by decide) (by decide) (by decide) rfl (Nat.le_of_ble_eq_true rfl) (fun i4 h4' => ?_)
          obtain ⟨hR4, hn4, ht4, ho4⟩ := pub2 (i1 := i4) hR3 ho3 ht3 (fun x hx => h4'.2 x hx.2.1)
          show J G base X _ _ (wI M i4) _ _ _
          refine rn_iinc5 hX dX11_bestWait_118 rfl rfl ?_
          refine r_goto (tgt := 28) hX dX11_bestWait_121 (by decide) ?_
          have z := ih (by omega) (i4, fun c => K (nxP σ.1 (nv σ.1 6 + w) c)) ⟨z1.nx σ.1 _, fun c hc => (h4'.1 c hc).trans (k83 _ (nxP_lt hc)), hR4, ht4, ho4⟩
          rw [e9] at z
          exact J.junk z (by repeat first | exact trivial | refine ⟨rfl, ?_⟩)
        · refine r_iload hX dX11_bestWait_94 rfl ?_
          refine r_iload hX dX11_bestWait_96 rfl ?_
          refine r_icmp_ge (tgt := 108) hX dX11_bestWait_98 (by decide) (fun c98 => ?_) (fun c98 => ?_)
          · have e9 : bwF σ.1 p q (w + 1) = bwF σ.1 p q w := by rw [hor, if_neg (fun z => z.2.elim c91 (fun q9 => absurd q9 (i_nlt.mpr c98)))]
            refine r_aload_n hX dX11_bestWait_108 rfl ?_
            refine r_iload hX dX11_bestWait_109 rfl ?_
            refine r_aload_n hX dX11_bestWait_111 rfl ?_
            refine r_getr hX dX11_bestWait_112 fl_X11_39 rfl (LX11_s hL) (LX11_r17 hL) ?_
            refine r_iV2 hX dX11_bestWait_115 IX11_swaps ml_X11_237 rfl (LX11_s hL) rfl (t_X11_swaps (M := wI M i3) hL hn3 hT (by omega) (LX11_a17 hL) (by omega)) (by decide) (by decide) (by decide) (by decide) rfl (Nat.le_of_ble_eq_true rfl) (fun i4 h4' => ?_)
            obtain ⟨hR4, hn4, ht4, ho4⟩ := pub2 (i1 := i4) hR3 ho3 ht3 (fun x hx => h4'.2 x hx.2.1)
            show J G base X _ _ (wI M i4) _ _ _
            refine rn_iinc5 hX dX11_bestWait_118 rfl rfl ?_
            refine r_goto (tgt := 28) hX dX11_bestWait_121 (by decide) ?_
            have z := ih (by omega) (i4, fun c => K (nxP σ.1 (nv σ.1 6 + w) c)) ⟨z1.nx σ.1 _, fun c hc => (h4'.1 c hc).trans (k83 _ (nxP_lt hc)), hR4, ht4, ho4⟩
            rw [e9] at z
            exact J.junk z (by repeat first | exact trivial | refine ⟨rfl, ?_⟩)
          · refine r_iload hX dX11_bestWait_101 rfl ?_
            refine r_istore3 hX dX11_bestWait_103 rfl ?_
            refine r_iload hX dX11_bestWait_104 rfl ?_
            refine r_istore4 hX dX11_bestWait_106 rfl ?_
            have e9 : bwF σ.1 p q (w + 1) = (nI w, bwA σ.1 p q w - nI (nv σ.1 6 + w)) := by rw [hor, if_pos ⟨c65, Or.inr (i_nle.mp c98)⟩]
            refine r_aload_n hX dX11_bestWait_108 rfl ?_
            refine r_iload hX dX11_bestWait_109 rfl ?_
            refine r_aload_n hX dX11_bestWait_111 rfl ?_
            refine r_getr hX dX11_bestWait_112 fl_X11_39 rfl (LX11_s hL) (LX11_r17 hL) ?_
            refine r_iV2 hX dX11_bestWait_115 IX11_swaps ml_X11_237 rfl (LX11_s hL) rfl (t_X11_swaps (M := wI M i3) hL hn3 hT (by omega) (LX11_a17 hL) (by omega)) (by decide) (by decide) (by decide) (by decide) rfl (Nat.le_of_ble_eq_true rfl) (fun i4 h4' => ?_)
            obtain ⟨hR4, hn4, ht4, ho4⟩ := pub2 (i1 := i4) hR3 ho3 ht3 (fun x hx => h4'.2 x hx.2.1)
            show J G base X _ _ (wI M i4) _ _ _
            refine rn_iinc5 hX dX11_bestWait_118 rfl rfl ?_
            refine r_goto (tgt := 28) hX dX11_bestWait_121 (by decide) ?_
            have z := ih (by omega) (i4, fun c => K (nxP σ.1 (nv σ.1 6 + w) c)) ⟨z1.nx σ.1 _, fun c hc => (h4'.1 c hc).trans (k83 _ (nxP_lt hc)), hR4, ht4, ho4⟩
            rw [e9] at z
            exact J.junk z (by repeat first | exact trivial | refine ⟨rfl, ?_⟩)
      · refine r_iconst (v := (-1)) hX dX11_bestWait_68 (by decide) ?_
        refine r_goto (tgt := 81) hX dX11_bestWait_69 (by decide) ?_
        refine r_istore7 hX dX11_bestWait_81 rfl ?_
        refine r_iload hX dX11_bestWait_83 rfl ?_
        refine r_iconst (v := (-1)) hX dX11_bestWait_85 (by decide) ?_
        refine r_icmp_eq (tgt := 108) hX dX11_bestWait_86 (by decide) (fun c86 => ?_) (fun c86 => absurd rfl c86)
        have e9 : bwF σ.1 p q (w + 1) = bwF σ.1 p q w := by rw [hor, if_neg (fun z => z.1 c65)]
        refine r_aload_n hX dX11_bestWait_108 rfl ?_
        refine r_iload hX dX11_bestWait_109 rfl ?_
        refine r_aload_n hX dX11_bestWait_111 rfl ?_
        refine r_getr hX dX11_bestWait_112 fl_X11_39 rfl (LX11_s hL) (LX11_r17 hL) ?_
        refine r_iV2 hX dX11_bestWait_115 IX11_swaps ml_X11_237 rfl (LX11_s hL) rfl (t_X11_swaps (M := wI M i3) hL hn3 hT (by omega) (LX11_a17 hL) (by omega)) (by decide) (by decide) (by decide) (by decide) rfl (Nat.le_of_ble_eq_true rfl) (fun i4 h4' => ?_)
        obtain ⟨hR4, hn4, ht4, ho4⟩ := pub2 (i1 := i4) hR3 ho3 ht3 (fun x hx => h4'.2 x hx.2.1)
        show J G base X _ _ (wI M i4) _ _ _
        refine rn_iinc5 hX dX11_bestWait_118 rfl rfl ?_
        refine r_goto (tgt := 28) hX dX11_bestWait_121 (by decide) ?_
        have z := ih (by omega) (i4, fun c => K (nxP σ.1 (nv σ.1 6 + w) c)) ⟨z1.nx σ.1 _, fun c hc => (h4'.1 c hc).trans (k83 _ (nxP_lt hc)), hR4, ht4, ho4⟩
        rw [e9] at z
        exact J.junk z (by repeat first | exact trivial | refine ⟨rfl, ?_⟩)
  · refine Ct.of IX11_bestWait.1 (by simp [Value.category]) (Nat.le_of_ble_eq_true rfl) (fun X hX hN => ?_)
    show J G base X 0 0 M 0 [some (.ref a), some (.int x), some (.int y), none, none, none, none, none] []
    refine r_aload_n hX dX11_bestWait_0 rfl ?_
    refine r_iconst (v := nI 0) hX dX11_bestWait_1 (by decide) ?_
    refine r_puti hX dX11_bestWait_2 fl_X11_3 rfl rfl (LX11_s hL) ?_
    refine J.gen (M0 := M) rfl (fun i0 h00 => ?_)
    obtain ⟨hR0, hn0, ht0, ho0⟩ := pub0 hR h00
    clear h00
    refine r_aload_n hX dX11_bestWait_5 rfl ?_
    refine r_iload_n hX dX11_bestWait_6 rfl ?_
    refine r_iload_n hX dX11_bestWait_7 rfl ?_
    refine r_cV2 hX dX11_bestWait_8 IX11_noPair ml_X11_307 rfl (LX11_s hL) rfl (t_X11_noPair0 (M := wI M i0) hL hn0 h0 hx) (by decide) (by decide) (by decide) (by decide) rfl (Nat.le_of_ble_eq_true rfl) ?_
    refine r_if_eq (tgt := 16) hX dX11_bestWait_11 (by decide) (fun c11 => absurd c11 (by decide)) (fun c11 => ?_)
    refine r_iconst (v := 0) hX dX11_bestWait_14 (by decide) ?_
    refine r_ireturn hX rfl rfl dX11_bestWait_15 (by decide) (by decide) ?_
    obtain ⟨q1, q2, q3⟩ := pub1 hR0 ho0 1
    refine ⟨_, mI (uI (wI M i0) a 0 1), rfl, rfl, q1, ?_, q3⟩
    unfold rs_bestWait
    rw [pair_no hb0 hx]
    exact q2

set_option maxHeartbeats 2000000 in
set_option maxRecDepth 20000 in
theorem t_X11_expected {M : Mm} {a : Nat} {σ : Sg} {T : Nat} (hL : LX11 M.1 M.2.1 a) (hR : RI (mI M) a σ) (hO : OkN T σ.1) (hT9 : T < 890000) {x : Int32} : Ct G base YX11_expected 7 0 0 [.ref a, .int x] M (rV M (pQ M a (rs_expected σ x) σ)) := by
  obtain ⟨hT, hS, hLt, h4, h5, h6, hLo, hSt, hNa⟩ := hO
  have h0 := hT.1
  have h1 := hT.2.1
  have hr := hT.2.2
  have h2 := hLt.1
  have h3 := hLt.2.1
  have hb0 := h0.2
  have hb1 := h1.2
  have hb2 := h2.2
  have hb3 := h3.2
  have hb4 := h4.2
  have ht6 : σ.1 6 = nI (nv σ.1 6) := h6.1
  have hh6 : nv σ.1 6 ≤ T := h6.2
  by_cases hx : ∃ c, c < nv σ.1 2 ∧ x = nI c
  · obtain ⟨l, hl, rfl⟩ := hx
    refine Ct.of IX11_expected.1 (by simp [Value.category]) (Nat.le_of_ble_eq_true rfl) (fun X hX hN => ?_)
    show J G base X 0 0 M 0 [some (.ref a), some (.int (nI l)), none, none, none] []
    refine r_aload_n hX dX11_expected_0 rfl ?_
    refine r_iconst (v := nI 0) hX dX11_expected_1 (by decide) ?_
    refine r_puti hX dX11_expected_2 fl_X11_3 rfl rfl (LX11_s hL) ?_
    refine J.gen (M0 := M) rfl (fun i0 h00 => ?_)
    obtain ⟨hR0, hn0, ht0, ho0⟩ := pub0 hR h00
    clear h00
    refine r_aload_n hX dX11_expected_5 rfl ?_
    refine r_iload_n hX dX11_expected_6 rfl ?_
    refine r_cV1 hX dX11_expected_7 IX11_noLetter ml_X11_298 rfl (LX11_s hL) rfl (t_X11_noLetter1 (M := wI M i0) hL hn0 h2 ⟨l, hl, rfl⟩) (by decide) (by decide) (by decide) (by decide) rfl (Nat.le_of_ble_eq_true rfl) ?_
    refine r_if_eq (tgt := 15) hX dX11_expected_10 (by decide) (fun c10 => ?_) (fun c10 => absurd c10 (by decide))
    refine r_aload_n hX dX11_expected_15 rfl ?_
    refine r_iload_n hX dX11_expected_16 rfl ?_
    refine r_iconst (v := nI 3) hX dX11_expected_17 (by decide) ?_
    refine r_cV2 hX dX11_expected_18 IX11_of ml_X11_67 rfl (LX11_s hL) rfl (t_X11_of (M := wI M i0) hL hn0 (by omega) (by decide)) (by decide) (by decide) (by decide) (by decide) rfl (Nat.le_of_ble_eq_true rfl) ?_
    refine r_istore2 hX dX11_expected_21 rfl ?_
    refine r_iload_n hX dX11_expected_22 rfl ?_
    refine r_if_eq (tgt := 33) hX dX11_expected_23 (by decide) (fun c23 => ?_) (fun c23 => ?_)
    · obtain ⟨hK, hK0⟩ := hS.k
      obtain ⟨f9, t9, v9, s9, w9, l0, l1, l2, l3, l4, m1, m2, m3, m4, m5, m6, m7, m8, m9, m10⟩ := hLt.2.2 l hl
      have ht9 : t9 < nv σ.1 0 ∧ σ.1 (8 + t9) = 1 := by simpa [town] using m2
      have e1 : nv σ.1 (498 + 10 * l + 1) = t9 := nv_of l1 (by omega)
      have e3 : σ.1 (498 + 10 * l + 3) = 0 := c23
      have hs : s9 = 0 := by
        rw [l3] at e3
        exact (nI_eq (a := s9) (b := 0) (by omega) (by omega)).mp e3
      have hw9 : w9 < nv σ.1 0 ∧ σ.1 (8 + w9) = 1 := by simpa [town] using (m6 hs).1
      have e4 : nv σ.1 (498 + 10 * l + 4) = w9 := nv_of l4 (by omega)
      have hex : exA σ.1 l = arN σ.1 (nv σ.1 6) (fun _ => false) (fun x => decide (x = w9)) 240 t9 := by unfold exA; rw [if_pos e3, e1, e4]
      refine r_iconst (v := 1) hX dX11_expected_33 (by decide) ?_
      refine r_aload_n hX dX11_expected_34 rfl ?_
      refine r_iload_n hX dX11_expected_35 rfl ?_
      refine r_iconst (v := nI 4) hX dX11_expected_36 (by decide) ?_
      refine r_cV2 hX dX11_expected_37 IX11_of ml_X11_67 rfl (LX11_s hL) rfl (t_X11_of (M := wI M i0) hL hn0 (by omega) (by decide)) (by decide) (by decide) (by decide) (by decide) rfl (Nat.le_of_ble_eq_true rfl) ?_
      rw [l4]
      refine r_ishl hX dX11_expected_40 ?_
      refine r_istore3 hX dX11_expected_41 rfl ?_
      refine r_aload_n hX dX11_expected_42 rfl ?_
      refine r_iload_n hX dX11_expected_43 rfl ?_
      refine r_iconst (v := 1) hX dX11_expected_44 (by decide) ?_
      refine r_icmp_ne (tgt := 52) hX dX11_expected_45 (by decide) (fun c45 => ?_) (fun c45 => absurd (e3.symm.trans c45) (by decide))
      refine r_iconst (v := 0) hX dX11_expected_52 (by decide) ?_
      refine r_iload_n hX dX11_expected_53 rfl ?_
      refine r_iconst (v := 1) hX dX11_expected_54 (by decide) ?_
      refine r_icmp_ne (tgt := 62) hX dX11_expected_55 (by decide) (fun c55 => ?_) (fun c55 => absurd (e3.symm.trans c55) (by decide))
      refine r_iload_n hX dX11_expected_62 rfl ?_
      refine r_aload_n hX dX11_expected_63 rfl ?_
      refine r_getr hX dX11_expected_64 fl_X11_13 rfl (LX11_s hL) (LX11_r1 hL) ?_
      refine r_bipush (v := nI 6) hX dX11_expected_67 (by decide) ?_
      refine rn_iald hX dX11_expected_69 (LX11_a1 hL) rfl (by omega) (by omega) ?_
      rw [hn0]
      rw [ht6]
      refine r_iV3 hX dX11_expected_70 IX11_laysArrivals ml_X11_225 rfl (LX11_s hL) rfl (t_X11_laysArrivals (M := wI M i0) hL hn0 hT hK hK0 (C0 := fun _ => false) (O0 := fun x => decide (x = w9)) (fun c hc => b_0 _) (fun q hq => bt_b1 (k := w9) (by omega) q) (by omega)) (by decide) (by decide) (by decide) (by decide) rfl (Nat.le_of_ble_eq_true rfl) (fun i1 h1' => ?_)
      obtain ⟨hR1, hn1, ht1, ho1⟩ := pub2 (i1 := i1) hR0 ho0 ht0 (fun x hx => h1'.2 x ⟨hx.1, hx.2.1, hx.2.2.1⟩)
      have har : mI (wI M i1) (a + 9) t9 = exA σ.1 l := (h1'.1 t9 ht9.1).trans hex.symm
      show J G base X _ _ (wI M i1) _ _ _
      refine r_aload_n hX dX11_expected_73 rfl ?_
      refine r_getr hX dX11_expected_74 fl_X11_42 rfl (LX11_s hL) (LX11_r18 hL) ?_
      refine r_aload_n hX dX11_expected_77 rfl ?_
      refine r_iload_n hX dX11_expected_78 rfl ?_
      refine r_iconst (v := nI 1) hX dX11_expected_79 (by decide) ?_
      refine r_cV2 hX dX11_expected_80 IX11_of ml_X11_67 rfl (LX11_s hL) rfl (t_X11_of (M := wI M i1) hL hn1 (by omega) (by decide)) (by decide) (by decide) (by decide) (by decide) rfl (Nat.le_of_ble_eq_true rfl) ?_
      rw [l1]
      refine rn_iald hX dX11_expected_83 (LX11_a18 hL) rfl (by omega) (by omega) ?_
      rw [har]
      refine r_istore4 hX dX11_expected_84 rfl ?_
      refine r_iload hX dX11_expected_86 rfl ?_
      refine r_iconst (v := (-1)) hX dX11_expected_88 (by decide) ?_
      refine r_icmp_ne (tgt := 96) hX dX11_expected_89 (by decide) (fun c89 => ?_) (fun c89 => ?_)
      · refine r_iload hX dX11_expected_96 rfl ?_
        refine r_aload_n hX dX11_expected_98 rfl ?_
        refine r_getr hX dX11_expected_99 fl_X11_13 rfl (LX11_s hL) (LX11_r1 hL) ?_
        refine r_bipush (v := nI 6) hX dX11_expected_102 (by decide) ?_
        refine rn_iald hX dX11_expected_104 (LX11_a1 hL) rfl (by omega) (by omega) ?_
        rw [hn1]
        rw [ht6]
        refine r_isub hX dX11_expected_105 ?_
        refine r_ireturn hX rfl rfl dX11_expected_106 (by decide) (by decide) ?_
        refine ⟨_, i1, rfl, rfl, hR1, ?_, ho1⟩
        unfold rs_expected
        rw [ix_of hl (by omega)]
        exact ⟨by first | exact (if_pos c89).symm | exact ((if_neg c89).trans (by rw [ht6])).symm, ht1⟩
      · refine r_iconst (v := (-1)) hX dX11_expected_92 (by decide) ?_
        refine r_goto (tgt := 106) hX dX11_expected_93 (by decide) ?_
        refine r_ireturn hX rfl rfl dX11_expected_106 (by decide) (by decide) ?_
        refine ⟨_, i1, rfl, rfl, hR1, ?_, ho1⟩
        unfold rs_expected
        rw [ix_of hl (by omega)]
        exact ⟨by first | exact (if_pos c89).symm | exact ((if_neg c89).trans (by rw [ht6])).symm, ht1⟩
    · refine r_iload_n hX dX11_expected_26 rfl ?_
      refine r_iconst (v := 1) hX dX11_expected_27 (by decide) ?_
      refine r_icmp_eq (tgt := 33) hX dX11_expected_28 (by decide) (fun c28 => ?_) (fun c28 => ?_)
      · obtain ⟨hK, hK0⟩ := hS.k
        obtain ⟨f9, t9, v9, s9, w9, l0, l1, l2, l3, l4, m1, m2, m3, m4, m5, m6, m7, m8, m9, m10⟩ := hLt.2.2 l hl
        have ht9 : t9 < nv σ.1 0 ∧ σ.1 (8 + t9) = 1 := by simpa [town] using m2
        have e1 : nv σ.1 (498 + 10 * l + 1) = t9 := nv_of l1 (by omega)
        have e3 : σ.1 (498 + 10 * l + 3) = 1 := c28
        have hs : s9 = 1 := by
          rw [l3] at e3
          exact (nI_eq (a := s9) (b := 1) (by omega) (by omega)).mp e3
        have hw9 := m7 hs
        obtain ⟨c9, hc9, k5, k6⟩ := crS_of hS (s := w9) (by omega)
        have hcn : hcN σ.1 l = c9 := hcN_is l4 k5 hc9
        have hci : ciN σ.1 w9 = c9 := by unfold ciN; rw [k5]; exact nI_clamp (by omega)
        have hbit : ∀ c, c < 5 → bt (1 <<< (nI w9 &&& 31)) (nv σ.1 (33 + c)) = decide (c = c9) := fun c hc => by
          have h5 := ciN_iff hS (s := w9) (by omega) hc
          rw [hci] at h5
          refine (bt_b1 (k := w9) (by omega) _).trans ?_
          by_cases e : c = c9
          · rw [decide_eq_true e, decide_eq_true (h5.mpr e)]
          · rw [decide_eq_false e, decide_eq_false (fun z => e (h5.mp z))]
        have hex : exA σ.1 l = arN σ.1 (nv σ.1 6) (fun c => decide (c = c9)) (fun _ => false) 240 t9 := by unfold exA; rw [if_neg (by rw [e3]; decide), if_pos e3, e1, hcn]
        refine r_iconst (v := 1) hX dX11_expected_33 (by decide) ?_
        refine r_aload_n hX dX11_expected_34 rfl ?_
        refine r_iload_n hX dX11_expected_35 rfl ?_
        refine r_iconst (v := nI 4) hX dX11_expected_36 (by decide) ?_
        refine r_cV2 hX dX11_expected_37 IX11_of ml_X11_67 rfl (LX11_s hL) rfl (t_X11_of (M := wI M i0) hL hn0 (by omega) (by decide)) (by decide) (by decide) (by decide) (by decide) rfl (Nat.le_of_ble_eq_true rfl) ?_
        rw [l4]
        refine r_ishl hX dX11_expected_40 ?_
        refine r_istore3 hX dX11_expected_41 rfl ?_
        refine r_aload_n hX dX11_expected_42 rfl ?_
        refine r_iload_n hX dX11_expected_43 rfl ?_
        refine r_iconst (v := 1) hX dX11_expected_44 (by decide) ?_
        refine r_icmp_ne (tgt := 52) hX dX11_expected_45 (by decide) (fun c45 => absurd e3 c45) (fun c45 => ?_)
        refine r_iload_n hX dX11_expected_48 rfl ?_
        refine r_goto (tgt := 53) hX dX11_expected_49 (by decide) ?_
        refine r_iload_n hX dX11_expected_53 rfl ?_
        refine r_iconst (v := 1) hX dX11_expected_54 (by decide) ?_
        refine r_icmp_ne (tgt := 62) hX dX11_expected_55 (by decide) (fun c55 => absurd e3 c55) (fun c55 => ?_)
        refine r_iconst (v := 0) hX dX11_expected_58 (by decide) ?_
        refine r_goto (tgt := 63) hX dX11_expected_59 (by decide) ?_
        refine r_aload_n hX dX11_expected_63 rfl ?_
        refine r_getr hX dX11_expected_64 fl_X11_13 rfl (LX11_s hL) (LX11_r1 hL) ?_
        refine r_bipush (v := nI 6) hX dX11_expected_67 (by decide) ?_
        refine rn_iald hX dX11_expected_69 (LX11_a1 hL) rfl (by omega) (by omega) ?_
        rw [hn0]
        rw [ht6]
        refine r_iV3 hX dX11_expected_70 IX11_laysArrivals ml_X11_225 rfl (LX11_s hL) rfl (t_X11_laysArrivals (M := wI M i0) hL hn0 hT hK hK0 (C0 := fun c => decide (c = c9)) (O0 := fun _ => false) hbit (fun q hq => b_0 _) (by omega)) (by decide) (by decide) (by decide) (by decide) rfl (Nat.le_of_ble_eq_true rfl) (fun i1 h1' => ?_)
        obtain ⟨hR1, hn1, ht1, ho1⟩ := pub2 (i1 := i1) hR0 ho0 ht0 (fun x hx => h1'.2 x ⟨hx.1, hx.2.1, hx.2.2.1⟩)
        have har : mI (wI M i1) (a + 9) t9 = exA σ.1 l := (h1'.1 t9 ht9.1).trans hex.symm
        show J G base X _ _ (wI M i1) _ _ _
        refine r_aload_n hX dX11_expected_73 rfl ?_
        refine r_getr hX dX11_expected_74 fl_X11_42 rfl (LX11_s hL) (LX11_r18 hL) ?_
        refine r_aload_n hX dX11_expected_77 rfl ?_
        refine r_iload_n hX dX11_expected_78 rfl ?_
        refine r_iconst (v := nI 1) hX dX11_expected_79 (by decide) ?_
        refine r_cV2 hX dX11_expected_80 IX11_of ml_X11_67 rfl (LX11_s hL) rfl (t_X11_of (M := wI M i1) hL hn1 (by omega) (by decide)) (by decide) (by decide) (by decide) (by decide) rfl (Nat.le_of_ble_eq_true rfl) ?_
        rw [l1]
        refine rn_iald hX dX11_expected_83 (LX11_a18 hL) rfl (by omega) (by omega) ?_
        rw [har]
        refine r_istore4 hX dX11_expected_84 rfl ?_
        refine r_iload hX dX11_expected_86 rfl ?_
        refine r_iconst (v := (-1)) hX dX11_expected_88 (by decide) ?_
        refine r_icmp_ne (tgt := 96) hX dX11_expected_89 (by decide) (fun c89 => ?_) (fun c89 => ?_)
        · refine r_iload hX dX11_expected_96 rfl ?_
          refine r_aload_n hX dX11_expected_98 rfl ?_
          refine r_getr hX dX11_expected_99 fl_X11_13 rfl (LX11_s hL) (LX11_r1 hL) ?_
          refine r_bipush (v := nI 6) hX dX11_expected_102 (by decide) ?_
          refine rn_iald hX dX11_expected_104 (LX11_a1 hL) rfl (by omega) (by omega) ?_
          rw [hn1]
          rw [ht6]
          refine r_isub hX dX11_expected_105 ?_
          refine r_ireturn hX rfl rfl dX11_expected_106 (by decide) (by decide) ?_
          refine ⟨_, i1, rfl, rfl, hR1, ?_, ho1⟩
          unfold rs_expected
          rw [ix_of hl (by omega)]
          exact ⟨by first | exact (if_pos c89).symm | exact ((if_neg c89).trans (by rw [ht6])).symm, ht1⟩
        · refine r_iconst (v := (-1)) hX dX11_expected_92 (by decide) ?_
          refine r_goto (tgt := 106) hX dX11_expected_93 (by decide) ?_
          refine r_ireturn hX rfl rfl dX11_expected_106 (by decide) (by decide) ?_
          refine ⟨_, i1, rfl, rfl, hR1, ?_, ho1⟩
          unfold rs_expected
          rw [ix_of hl (by omega)]
          exact ⟨by first | exact (if_pos c89).symm | exact ((if_neg c89).trans (by rw [ht6])).symm, ht1⟩
      · refine r_iconst (v := (-1)) hX dX11_expected_31 (by decide) ?_
        refine r_ireturn hX rfl rfl dX11_expected_32 (by decide) (by decide) ?_
        refine ⟨_, i0, rfl, rfl, hR0, ?_, ho0⟩
        unfold rs_expected
        rw [ix_of hl (by omega)]
        exact ⟨by have e : exA σ.1 l = -1 := (by unfold exA; rw [if_neg c23, if_neg c28]); exact (if_pos e).symm, ht0⟩
  · refine Ct.of IX11_expected.1 (by simp [Value.category]) (Nat.le_of_ble_eq_true rfl) (fun X hX hN => ?_)
    show J G base X 0 0 M 0 [some (.ref a), some (.int x), none, none, none] []
    refine r_aload_n hX dX11_expected_0 rfl ?_
    refine r_iconst (v := nI 0) hX dX11_expected_1 (by decide) ?_
    refine r_puti hX dX11_expected_2 fl_X11_3 rfl rfl (LX11_s hL) ?_
    refine J.gen (M0 := M) rfl (fun i0 h00 => ?_)
    obtain ⟨hR0, hn0, ht0, ho0⟩ := pub0 hR h00
    clear h00
    refine r_aload_n hX dX11_expected_5 rfl ?_
    refine r_iload_n hX dX11_expected_6 rfl ?_
    refine r_cV1 hX dX11_expected_7 IX11_noLetter ml_X11_298 rfl (LX11_s hL) rfl (t_X11_noLetter0 (M := wI M i0) hL hn0 h2 hx) (by decide) (by decide) (by decide) (by decide) rfl (Nat.le_of_ble_eq_true rfl) ?_
    refine r_if_eq (tgt := 15) hX dX11_expected_10 (by decide) (fun c10 => absurd c10 (by decide)) (fun c10 => ?_)
    refine r_iconst (v := 0) hX dX11_expected_13 (by decide) ?_
    refine r_ireturn hX rfl rfl dX11_expected_14 (by decide) (by decide) ?_
    obtain ⟨q1, q2, q3⟩ := pub1 hR0 ho0 1
    refine ⟨_, mI (uI (wI M i0) a 0 1), rfl, rfl, q1, ?_, q3⟩
    unfold rs_expected
    rw [ix_no hx]
    exact q2

set_option maxHeartbeats 2000000 in
set_option maxRecDepth 20000 in
theorem t_X11_punctuality {M : Mm} {a : Nat} {σ : Sg} {T : Nat} (hL : LX11 M.1 M.2.1 a) (hR : RI (mI M) a σ) (hO : OkN T σ.1) (hT9 : T < 890000) : Ct G base YX11_punctuality 4 0 0 [.ref a] M (rD M (fun v i => RI i a σ ∧ v = rs_punc σ ∧ i a 0 = 0 ∧ outB i (mI M) a 14)) := by
  obtain ⟨hT, hS, hLt, h4, h5, h6, hLo, hSt, hNa⟩ := hO
  have h0 := hT.1
  have h1 := hT.2.1
  have hr := hT.2.2
  have h2 := hLt.1
  have h3 := hLt.2.1
  have hb0 := h0.2
  have hb1 := h1.2
  have hb2 := h2.2
  have hb3 := h3.2
  have hb4 := h4.2
  have ht6 : σ.1 6 = nI (nv σ.1 6) := h6.1
  have hh6 : nv σ.1 6 ≤ T := h6.2
  refine Ct.of IX11_punctuality.1 (by simp [Value.category]) (Nat.le_of_ble_eq_true rfl) (fun X hX hN => ?_)
  show J G base X 0 0 M 0 [some (.ref a), none, none, none] []
  refine r_aload_n hX dX11_punctuality_0 rfl ?_
  refine r_iconst (v := nI 0) hX dX11_punctuality_1 (by decide) ?_
  refine r_puti hX dX11_punctuality_2 fl_X11_3 rfl rfl (LX11_s hL) ?_
  refine J.gen (M0 := M) rfl (fun i0 h00 => ?_)
  obtain ⟨hR0, hn0, ht0, ho0⟩ := pub0 hR h00
  clear h00
  refine r_iconst (v := nI 0) hX dX11_punctuality_5 (by decide) ?_
  refine r_istore1 hX dX11_punctuality_6 rfl ?_
  refine r_iconst (v := nI 0) hX dX11_punctuality_7 (by decide) ?_
  refine r_istore2 hX dX11_punctuality_8 rfl ?_
  refine r_iconst (v := nI 0) hX dX11_punctuality_9 (by decide) ?_
  refine r_istore3 hX dX11_punctuality_10 rfl ?_
  refine loop_up (P := fun j => J G base X 0 0 (wI M i0) 11 [some (.ref a), some (.int (nI (cntB (pcA σ.1) j))), some (.int (nI (cntB (pcG σ.1) j))), some (.int (nI j))] []) (nv σ.1 2) (fun j hj ih => ?_) 0 (Nat.zero_le _)
  have hl1 := cntB_le (pcA σ.1) j
  have hl2 := pcG_le σ.1 j
  refine r_iload_n hX dX11_punctuality_11 rfl ?_
  refine r_aload_n hX dX11_punctuality_12 rfl ?_
  refine r_cV0 hX dX11_punctuality_13 IX11_letters ml_X11_170 rfl (LX11_s hL) rfl (t_X11_letters (M := wI M i0) hL hn0 h2) (by decide) (by decide) (by decide) (by decide) rfl (Nat.le_of_ble_eq_true rfl) ?_
  refine rn_icmp_ge (tgt := 57) hX dX11_punctuality_16 (by decide) rfl rfl (by omega) (by omega) (fun c16 => ?_) (fun c16 => ?_)
  · refine r_iload_n hX dX11_punctuality_57 rfl ?_
    refine rn_if_ne (tgt := 65) hX dX11_punctuality_58 (by decide) rfl (by omega) (fun c58 => ?_) (fun c58 => ?_)
    · refine r_iload_n hX dX11_punctuality_65 rfl ?_
      refine r_i2d hX dX11_punctuality_66 ?_
      refine r_iload_n hX dX11_punctuality_67 rfl ?_
      refine r_i2d hX dX11_punctuality_68 ?_
      refine r_ddiv hX dX11_punctuality_69 (dv_ok _ (by omega) _ (by omega) c58) ?_
      refine r_dreturn hX rfl dX11_punctuality_70 (by decide) (by decide) ?_
      obtain rfl : j = nv σ.1 2 := by omega
      refine ⟨_, i0, rfl, rfl, hR0, ?_, ht0, ho0⟩
      unfold rs_punc pcD
      first
        | rw [if_pos c58]
        | rw [if_neg c58]
    · refine r_dconst0 hX dX11_punctuality_61 ?_
      refine r_goto (tgt := 70) hX dX11_punctuality_62 (by decide) ?_
      refine r_dreturn hX rfl dX11_punctuality_70 (by decide) (by decide) ?_
      obtain rfl : j = nv σ.1 2 := by omega
      refine ⟨_, i0, rfl, rfl, hR0, ?_, ht0, ho0⟩
      unfold rs_punc pcD
      first
        | rw [if_pos c58]
        | rw [if_neg c58]
  · refine r_aload_n hX dX11_punctuality_19 rfl ?_
    refine r_iload_n hX dX11_punctuality_20 rfl ?_
    refine r_iconst (v := nI 3) hX dX11_punctuality_21 (by decide) ?_
    refine r_cV2 hX dX11_punctuality_22 IX11_of ml_X11_67 rfl (LX11_s hL) rfl (t_X11_of (M := wI M i0) hL hn0 (by omega) (by decide)) (by decide) (by decide) (by decide) (by decide) rfl (Nat.le_of_ble_eq_true rfl) ?_
    refine r_iconst (v := 2) hX dX11_punctuality_25 (by decide) ?_
    refine r_icmp_eq (tgt := 32) hX dX11_punctuality_26 (by decide) (fun c26 => ?_) (fun c26 => ?_)
    · refine rn_iinc1 hX dX11_punctuality_32 rfl rfl ?_
      refine r_iload_n hX dX11_punctuality_35 rfl ?_
      refine r_aload_n hX dX11_punctuality_36 rfl ?_
      refine r_iload_n hX dX11_punctuality_37 rfl ?_
      refine r_cV1 hX dX11_punctuality_38 IX11_comesLate ml_X11_301 rfl (LX11_s hL) rfl (t_X11_comesLate (M := wI M i0) hL hn0 (by omega)) (by decide) (by decide) (by decide) (by decide) rfl (Nat.le_of_ble_eq_true rfl) ?_
      refine rb_if_eq (tgt := 48) hX dX11_punctuality_41 (by decide) rfl (fun c41 => ?_) (fun c41 => ?_)
      · refine r_iconst (v := nI 1) hX dX11_punctuality_48 (by decide) ?_
        refine rn_iadd hX dX11_punctuality_49 rfl rfl ?_
        refine r_istore2 hX dX11_punctuality_50 rfl ?_
        refine rn_iinc3 hX dX11_punctuality_51 rfl rfl ?_
        refine r_goto (tgt := 11) hX dX11_punctuality_54 (by decide) ?_
        have z := ih (by omega)
        simp only [cntB] at z
        first
          | (rw [if_neg (by simp only [pcA, decide_eq_true_eq]; exact c26), if_neg (by simp only [pcG, Bool.and_eq_true, decide_eq_true_eq]; exact fun q => c26 q.1)] at z
             exact z)
          | (rw [if_pos (by simp only [pcA, decide_eq_true_eq]; exact c26), if_neg (by simp only [pcG, Bool.and_eq_true, decide_eq_true_eq]; exact fun q => by rw [c41] at q; exact absurd q.2 (by decide))] at z
             exact z)
          | (rw [if_pos (by simp only [pcA, decide_eq_true_eq]; exact c26), if_pos (by simp only [pcG, Bool.and_eq_true, decide_eq_true_eq]; exact ⟨c26, by simpa using c41⟩)] at z
             exact z)
      · refine r_iconst (v := nI 0) hX dX11_punctuality_44 (by decide) ?_
        refine r_goto (tgt := 49) hX dX11_punctuality_45 (by decide) ?_
        refine rn_iadd hX dX11_punctuality_49 rfl rfl ?_
        refine r_istore2 hX dX11_punctuality_50 rfl ?_
        refine rn_iinc3 hX dX11_punctuality_51 rfl rfl ?_
        refine r_goto (tgt := 11) hX dX11_punctuality_54 (by decide) ?_
        have z := ih (by omega)
        simp only [cntB] at z
        first
          | (rw [if_neg (by simp only [pcA, decide_eq_true_eq]; exact c26), if_neg (by simp only [pcG, Bool.and_eq_true, decide_eq_true_eq]; exact fun q => c26 q.1)] at z
             exact z)
          | (rw [if_pos (by simp only [pcA, decide_eq_true_eq]; exact c26), if_neg (by simp only [pcG, Bool.and_eq_true, decide_eq_true_eq]; exact fun q => by rw [c41] at q; exact absurd q.2 (by decide))] at z
             exact z)
          | (rw [if_pos (by simp only [pcA, decide_eq_true_eq]; exact c26), if_pos (by simp only [pcG, Bool.and_eq_true, decide_eq_true_eq]; exact ⟨c26, by simpa using c41⟩)] at z
             exact z)
    · refine r_goto (tgt := 51) hX dX11_punctuality_29 (by decide) ?_
      refine rn_iinc3 hX dX11_punctuality_51 rfl rfl ?_
      refine r_goto (tgt := 11) hX dX11_punctuality_54 (by decide) ?_
      have z := ih (by omega)
      simp only [cntB] at z
      first
        | (rw [if_neg (by simp only [pcA, decide_eq_true_eq]; exact c26), if_neg (by simp only [pcG, Bool.and_eq_true, decide_eq_true_eq]; exact fun q => c26 q.1)] at z
           exact z)
        | (rw [if_pos (by simp only [pcA, decide_eq_true_eq]; exact c26), if_neg (by simp only [pcG, Bool.and_eq_true, decide_eq_true_eq]; exact fun q => by rw [c41] at q; exact absurd q.2 (by decide))] at z
           exact z)
        | (rw [if_pos (by simp only [pcA, decide_eq_true_eq]; exact c26), if_pos (by simp only [pcG, Bool.and_eq_true, decide_eq_true_eq]; exact ⟨c26, by simpa using c41⟩)] at z
           exact z)

