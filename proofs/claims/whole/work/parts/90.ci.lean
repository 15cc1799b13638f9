variable {G : GG} {base : Nat}
/-! ===== THE CLASS AS A WHOLE ===== -/
/-- the class at a is in the state σ -/
def CI (i : Nat → Nat → Int32) (a : Nat) (σ : Sg) : Prop :=
  ((∀ k, k < σ.2.2.2.2.1 → σ.2.2.2.1 k < 256 ∧ i (a + 1) k = nI (σ.2.2.2.1 k)) ∧ i a 1 = nI σ.2.2.2.2.1 ∧ σ.2.2.2.2.1 ≤ 900) ∧ i a 2 = σ.2.2.2.2.2.2.1 ∧ i a 3 = σ.2.2.2.2.2.2.2.1 ∧
  TT i (a + 28) σ.1 ∧ RS i (a + 34) σ.1 ∧ HR i (a + 52) σ.2.1 σ.2.2.1 ∧
  (i (a + 206) 0 = nI σ.2.2.2.2.2.2.2.2.2 ∧ σ.2.2.2.2.2.2.2.2.2 ≤ 150 ∧ ∀ k, k < σ.2.2.2.2.2.2.2.2.2 → i (a + 207) k = nI (σ.2.2.2.2.2.2.2.2.1 k))
/-- what is reckoned with doesn't count -/
theorem CI.kept {i i' : Nat → Nat → Int32} {a : Nat} {σ : Sg} (h : CI i a σ) (hk : ∀ x, a ≤ x → x < a + 208 → (x < a + 198 ∨ a + 206 ≤ x) → ∀ k, i' x k = i x k) : CI i' a σ := by
  obtain ⟨⟨h1, h2, h3⟩, h4, h5, h6, h7, h8, h9, h10, h11⟩ := h
  exact ⟨⟨fun k hk2 => ⟨(h1 k hk2).1, (hk _ (by omega) (by omega) (by omega) k).trans (h1 k hk2).2⟩, (hk _ (by omega) (by omega) (by omega) _).trans h2, h3⟩, (hk _ (by omega) (by omega) (by omega) _).trans h4, (hk _ (by omega) (by omega) (by omega) _).trans h5, h6.kept (fun x a1 a2 k => hk x (by omega) (by omega) (by omega) k), h7.kept (fun x a1 a2 k => hk x (by omega) (by omega) (by omega) k), h8.kept (fun x a1 a2 k => hk x (by omega) (by omega) (by omega) k), (hk _ (by omega) (by omega) (by omega) _).trans h9, h10, fun k hk2 => (hk _ (by omega) (by omega) (by omega) k).trans (h11 k hk2)⟩
/-- the exceptions -/
def eX (n : Nat) : String := if n = 1 then "java/lang/IndexOutOfBoundsException" else if n = 2 then "java/util/NoSuchElementException" else if n = 3 then "java/lang/IllegalArgumentException" else "java/lang/IllegalStateException"
/-- what a call of the class does: e1 the first kind of exception, e2 the second -/
def rC (M : Mm) (a e1 e2 : Nat) (res : Int32 ⊕ Nat) (σ' : Sg) : Ot → Mm → Prop := fun o N => ∃ i, CI i a σ' ∧ outB i (mI M) a 208 ∧ match res with
  | .inl w => o = .inl (some (.int w)) ∧ N = wI M i
  | .inr k => o = .inr (eX (if k = 1 then e1 else e2)) ∧ N = fT (wI M i)
theorem rC.y {M : Mm} {a e1 e2 : Nat} {res : Int32 ⊕ Nat} {σ' : Sg} {v : Int32} {i : Nat → Nat → Int32} (h : res = .inl v) (hC : CI i a σ') (ho : outB i (mI M) a 208) : rC M a e1 e2 res σ' (.inl (some (.int v))) (wI M i) := by
  subst h
  exact ⟨i, hC, ho, rfl, rfl⟩
theorem rC.y0 {M : Mm} {a e1 e2 : Nat} {res : Int32 ⊕ Nat} {σ' : Sg} {v : Int32} (h : res = .inl v) (hC : CI (mI M) a σ') : rC M a e1 e2 res σ' (.inl (some (.int v))) M := rC.y (i := mI M) h hC (fun _ _ _ => rfl)
theorem rC.n {M : Mm} {a e1 e2 : Nat} {res : Int32 ⊕ Nat} {σ' : Sg} {k : Nat} {E : String} {i : Nat → Nat → Int32} (h : res = .inr k) (hE : E = eX (if k = 1 then e1 else e2)) (hC : CI i a σ') (ho : outB i (mI M) a 208) : rC M a e1 e2 res σ' (.inr E) (fT (wI M i)) := by
  subst h
  subst hE
  exact ⟨i, hC, ho, rfl, rfl⟩
theorem rC.n0 {M : Mm} {a e1 e2 : Nat} {res : Int32 ⊕ Nat} {σ' : Sg} {k : Nat} {E : String} (h : res = .inr k) (hE : E = eX (if k = 1 then e1 else e2)) (hC : CI (mI M) a σ') : rC M a e1 e2 res σ' (.inr E) (fT M) := rC.n (i := mI M) h hE hC (fun _ _ _ => rfl)
set_option maxHeartbeats 2000000 in
set_option maxRecDepth 20000 in
theorem t_ni1 {M : Mm} {j m : Nat} (hj : j < m) (hm : m < 2147483648) : Ct G base YX10_needIndex 6 0 0 [.int (nI j), .int (nI m)] M (rE none M) := by
  refine Ct.of IX10_needIndex.1 (by simp [Value.category]) (Nat.le_of_ble_eq_true rfl) (fun X hX hN => ?_)
  show J G base X 0 0 M 0 [some (.int (nI j)), some (.int (nI m))] []
  refine r_iload_n hX dX10_needIndex_0 rfl ?_
  refine rn_if_lt (tgt := 9) hX dX10_needIndex_1 (by decide) rfl (by omega) ?_
  refine r_iload_n hX dX10_needIndex_4 rfl ?_
  refine r_iload_n hX dX10_needIndex_5 rfl ?_
  refine rn_icmp_lt (tgt := 17) hX dX10_needIndex_6 (by decide) rfl rfl (by omega) (by omega) (fun c6 => ?_) (fun c6 => absurd hj (by omega))
  refine r_return hX rfl dX10_needIndex_17 (by decide) (by decide) ?_
  exact ⟨rfl, rfl⟩
set_option maxHeartbeats 2000000 in
set_option maxRecDepth 20000 in
theorem t_ni0 {M : Mm} {x : Int32} {m : Nat} (hx : ¬ ∃ c, c < m ∧ x = nI c) (hm : m < 2147483648) : Ct G base YX10_needIndex 6 1 6 [.int x, .int (nI m)] M (rT (eX 1) M) := by
  refine Ct.of IX10_needIndex.1 (by simp [Value.category]) (Nat.le_of_ble_eq_true rfl) (fun X hX hN => ?_)
  show J G base X 0 0 M 0 [some (.int x), some (.int (nI m))] []
  refine r_iload_n hX dX10_needIndex_0 rfl ?_
  refine r_if_lt (tgt := 9) hX dX10_needIndex_1 (by decide) (fun c1 => ?_) (fun c1 => ?_)
  · refine r_throw hX thI2 dX10_needIndex_9 dX10_needIndex_12 dX10_needIndex_13 dX10_needIndex_16 (by decide) (by decide) (by decide) rfl ?_ (Nat.le_of_ble_eq_true rfl)
    exact ⟨rfl, rfl⟩
  · refine r_iload_n hX dX10_needIndex_4 rfl ?_
    refine r_iload_n hX dX10_needIndex_5 rfl ?_
    refine r_icmp_lt (tgt := 17) hX dX10_needIndex_6 (by decide) (fun c6 => by obtain ⟨c, hc, e⟩ := nI_of (x := x) c1; subst e; rw [nI_ltI hc hm] at c6; exact absurd ⟨c, c6, rfl⟩ hx) (fun c6 => ?_)
    refine r_throw hX thI2 dX10_needIndex_9 dX10_needIndex_12 dX10_needIndex_13 dX10_needIndex_16 (by decide) (by decide) (by decide) rfl ?_ (Nat.le_of_ble_eq_true rfl)
    exact ⟨rfl, rfl⟩
set_option maxHeartbeats 2000000 in
set_option maxRecDepth 20000 in
theorem t_c_errorOffset {M : Mm} {a : Nat} {σ : Sg} {T : Nat} (hL : LX10 M.1 M.2.1 a) (hC : CI (mI M) a σ) (hO : OkN T σ.1) (hT9 : T < 890000) : Ct G base YX10_errorOffset 20 1 6 [.ref a] M (rC M a 1 4 (rs_errorOffset σ) σ) := by
  obtain ⟨hT, hS, hLt, h4, h5, h6, hLo, hSt, hNa⟩ := hO
  have h0 := hT.1
  have h1 := hT.2.1
  have hr := hT.2.2
  have h2 := hLt.1
  have h3 := hLt.2.1
  have hb0 := h0.2
  have hb1 := h1.2
  have hb2 := h2.2
  have hb3 := h3.2
  have hb4 := h4.2
  have ht6 : σ.1 6 = nI (nv σ.1 6) := h6.1
  have hh6 : nv σ.1 6 ≤ T := h6.2
  have hTT : TT (mI M) (a + 28) σ.1 := hC.2.2.2.1
  have hRS : RS (mI M) (a + 34) σ.1 := hC.2.2.2.2.1
  have hHR : HR (mI M) (a + 52) σ.2.1 σ.2.2.1 := hC.2.2.2.2.2.1
  have hpc : mI M (a + 28) 0 = nI (nv σ.1 0) := hTT.1.trans h0.1
  have hcc : mI M (a + 28) 2 = nI (nv σ.1 1) := hTT.2.2.1.trans h1.1
  have hlc : mI M (a + 34 + 2) 0 = nI (nv σ.1 2) := hRS.2.2.1.1.trans h2.1
  have hkc : mI M (a + 34 + 15) 0 = nI (nv σ.1 3) := hRS.2.2.2.2.1.trans h3.1
  have hrc : mI M (a + 34 + 13) 0 = nI (nv σ.1 4) := hRS.2.2.2.1.1.trans h4.1
  have htm : mI M (a + 34) 0 = nI (nv σ.1 6) := hRS.1.1.trans ht6
  refine Ct.of IX10_errorOffset.1 (by simp [Value.category]) (Nat.le_of_ble_eq_true rfl) (fun X hX hN => ?_)
  show J G base X 0 0 M 0 [some (.ref a)] []
  refine r_aload_n hX dX10_errorOffset_0 rfl ?_
  refine rn_geti (v := σ.2.2.2.2.2.2.1) hX dX10_errorOffset_1 fl_X10_17 rfl (LX10_s hL) hC.2.1 ?_
  refine r_ireturn hX rfl rfl dX10_errorOffset_4 (by decide) (by decide) ?_
  exact rC.y0 rfl hC

set_option maxHeartbeats 2000000 in
set_option maxRecDepth 20000 in
theorem t_c_errorKind {M : Mm} {a : Nat} {σ : Sg} {T : Nat} (hL : LX10 M.1 M.2.1 a) (hC : CI (mI M) a σ) (hO : OkN T σ.1) (hT9 : T < 890000) : Ct G base YX10_errorKind 20 1 6 [.ref a] M (rC M a 1 4 (rs_errorKind σ) σ) := by
  obtain ⟨hT, hS, hLt, h4, h5, h6, hLo, hSt, hNa⟩ := hO
  have h0 := hT.1
  have h1 := hT.2.1
  have hr := hT.2.2
  have h2 := hLt.1
  have h3 := hLt.2.1
  have hb0 := h0.2
  have hb1 := h1.2
  have hb2 := h2.2
  have hb3 := h3.2
  have hb4 := h4.2
  have ht6 : σ.1 6 = nI (nv σ.1 6) := h6.1
  have hh6 : nv σ.1 6 ≤ T := h6.2
  have hTT : TT (mI M) (a + 28) σ.1 := hC.2.2.2.1
  have hRS : RS (mI M) (a + 34) σ.1 := hC.2.2.2.2.1
  have hHR : HR (mI M) (a + 52) σ.2.1 σ.2.2.1 := hC.2.2.2.2.2.1
  have hpc : mI M (a + 28) 0 = nI (nv σ.1 0) := hTT.1.trans h0.1
  have hcc : mI M (a + 28) 2 = nI (nv σ.1 1) := hTT.2.2.1.trans h1.1
  have hlc : mI M (a + 34 + 2) 0 = nI (nv σ.1 2) := hRS.2.2.1.1.trans h2.1
  have hkc : mI M (a + 34 + 15) 0 = nI (nv σ.1 3) := hRS.2.2.2.2.1.trans h3.1
  have hrc : mI M (a + 34 + 13) 0 = nI (nv σ.1 4) := hRS.2.2.2.1.1.trans h4.1
  have htm : mI M (a + 34) 0 = nI (nv σ.1 6) := hRS.1.1.trans ht6
  refine Ct.of IX10_errorKind.1 (by simp [Value.category]) (Nat.le_of_ble_eq_true rfl) (fun X hX hN => ?_)
  show J G base X 0 0 M 0 [some (.ref a)] []
  refine r_aload_n hX dX10_errorKind_0 rfl ?_
  refine rn_geti (v := σ.2.2.2.2.2.2.2.1) hX dX10_errorKind_1 fl_X10_20 rfl (LX10_s hL) hC.2.2.1 ?_
  refine r_ireturn hX rfl rfl dX10_errorKind_4 (by decide) (by decide) ?_
  exact rC.y0 rfl hC

set_option maxHeartbeats 2000000 in
set_option maxRecDepth 20000 in
theorem t_c_sackOf {M : Mm} {a : Nat} {σ : Sg} {T : Nat} (hL : LX10 M.1 M.2.1 a) (hC : CI (mI M) a σ) (hO : OkN T σ.1) (hT9 : T < 890000) {x : Int32} : Ct G base YX10_sackOf 20 1 6 [.ref a, .int x] M (rC M a 1 4 (rs_sackOf σ x) σ) := by
  obtain ⟨hT, hS, hLt, h4, h5, h6, hLo, hSt, hNa⟩ := hO
  have h0 := hT.1
  have h1 := hT.2.1
  have hr := hT.2.2
  have h2 := hLt.1
  have h3 := hLt.2.1
  have hb0 := h0.2
  have hb1 := h1.2
  have hb2 := h2.2
  have hb3 := h3.2
  have hb4 := h4.2
  have ht6 : σ.1 6 = nI (nv σ.1 6) := h6.1
  have hh6 : nv σ.1 6 ≤ T := h6.2
  have hTT : TT (mI M) (a + 28) σ.1 := hC.2.2.2.1
  have hRS : RS (mI M) (a + 34) σ.1 := hC.2.2.2.2.1
  have hHR : HR (mI M) (a + 52) σ.2.1 σ.2.2.1 := hC.2.2.2.2.2.1
  have hpc : mI M (a + 28) 0 = nI (nv σ.1 0) := hTT.1.trans h0.1
  have hcc : mI M (a + 28) 2 = nI (nv σ.1 1) := hTT.2.2.1.trans h1.1
  have hlc : mI M (a + 34 + 2) 0 = nI (nv σ.1 2) := hRS.2.2.1.1.trans h2.1
  have hkc : mI M (a + 34 + 15) 0 = nI (nv σ.1 3) := hRS.2.2.2.2.1.trans h3.1
  have hrc : mI M (a + 34 + 13) 0 = nI (nv σ.1 4) := hRS.2.2.2.1.1.trans h4.1
  have htm : mI M (a + 34) 0 = nI (nv σ.1 6) := hRS.1.1.trans ht6
  by_cases hx : ∃ c, c < nv σ.1 1 ∧ x = nI c
  · obtain ⟨c, hc, rfl⟩ := hx
    refine Ct.of IX10_sackOf.1 (by simp [Value.category]) (Nat.le_of_ble_eq_true rfl) (fun X hX hN => ?_)
    show J G base X 0 0 M 0 [some (.ref a), some (.int (nI c))] []
    refine r_iload_n hX dX10_sackOf_0 rfl ?_
    refine r_aload_n hX dX10_sackOf_1 rfl ?_
    refine r_getr hX dX10_sackOf_2 fl_X10_33 rfl (LX10_s hL) (LX10_r5 hL) ?_
    refine rn_geti (v := nI (nv σ.1 1)) hX dX10_sackOf_5 fl_X10_138 rfl (LX9_s (LX10_o5 hL)) hcc ?_
    refine r_cS2 hX dX10_sackOf_8 IX10_needIndex ml_X10_169 rfl (t_ni1 hc (by omega)) (by decide) (by decide) (by decide) (by decide) rfl (Nat.le_of_ble_eq_true rfl) ?_
    refine r_aload_n hX dX10_sackOf_11 rfl ?_
    refine r_getr hX dX10_sackOf_12 fl_X10_40 rfl (LX10_s hL) (LX10_r6 hL) ?_
    refine r_iload_n hX dX10_sackOf_15 rfl ?_
    refine r_cV1 hX dX10_sackOf_16 IX8_sackWith ml_X10_197 rfl (LX8_s (LX10_o6 hL)) rfl (t_X8_sackWith (LX10_o6 hL) (by omega)) (by decide) (by decide) (by decide) (by decide) rfl (Nat.le_of_ble_eq_true rfl) ?_
    rw [hRS.sk1 (noP_c hc) (by omega)]
    refine r_ireturn hX rfl rfl dX10_sackOf_19 (by decide) (by decide) ?_
    exact rC.y0 (by unfold rs_sackOf; rw [ix_of hc (by omega)]) hC
  · refine Ct.of IX10_sackOf.1 (by simp [Value.category]) (Nat.le_of_ble_eq_true rfl) (fun X hX hN => ?_)
    show J G base X 0 0 M 0 [some (.ref a), some (.int x)] []
    refine r_iload_n hX dX10_sackOf_0 rfl ?_
    refine r_aload_n hX dX10_sackOf_1 rfl ?_
    refine r_getr hX dX10_sackOf_2 fl_X10_33 rfl (LX10_s hL) (LX10_r5 hL) ?_
    refine rn_geti (v := nI (nv σ.1 1)) hX dX10_sackOf_5 fl_X10_138 rfl (LX9_s (LX10_o5 hL)) hcc ?_
    refine r_tS2 hX dX10_sackOf_8 IX10_needIndex ml_X10_169 rfl (t_ni0 hx (by omega)) (by decide) (by decide) (by decide) (by decide) rfl (Nat.le_of_ble_eq_true rfl) ?_
    exact rC.n0 (k := 1) (by unfold rs_sackOf; rw [ix_no hx]) rfl hC

set_option maxHeartbeats 2000000 in
set_option maxRecDepth 20000 in
theorem t_c_carrierOf {M : Mm} {a : Nat} {σ : Sg} {T : Nat} (hL : LX10 M.1 M.2.1 a) (hC : CI (mI M) a σ) (hO : OkN T σ.1) (hT9 : T < 890000) {x : Int32} : Ct G base YX10_carrierOf 20 1 6 [.ref a, .int x] M (rC M a 1 4 (rs_carrierOf σ x) σ) := by
  obtain ⟨hT, hS, hLt, h4, h5, h6, hLo, hSt, hNa⟩ := hO
  have h0 := hT.1
  have h1 := hT.2.1
  have hr := hT.2.2
  have h2 := hLt.1
  have h3 := hLt.2.1
  have hb0 := h0.2
  have hb1 := h1.2
  have hb2 := h2.2
  have hb3 := h3.2
  have hb4 := h4.2
  have ht6 : σ.1 6 = nI (nv σ.1 6) := h6.1
  have hh6 : nv σ.1 6 ≤ T := h6.2
  have hTT : TT (mI M) (a + 28) σ.1 := hC.2.2.2.1
  have hRS : RS (mI M) (a + 34) σ.1 := hC.2.2.2.2.1
  have hHR : HR (mI M) (a + 52) σ.2.1 σ.2.2.1 := hC.2.2.2.2.2.1
  have hpc : mI M (a + 28) 0 = nI (nv σ.1 0) := hTT.1.trans h0.1
  have hcc : mI M (a + 28) 2 = nI (nv σ.1 1) := hTT.2.2.1.trans h1.1
  have hlc : mI M (a + 34 + 2) 0 = nI (nv σ.1 2) := hRS.2.2.1.1.trans h2.1
  have hkc : mI M (a + 34 + 15) 0 = nI (nv σ.1 3) := hRS.2.2.2.2.1.trans h3.1
  have hrc : mI M (a + 34 + 13) 0 = nI (nv σ.1 4) := hRS.2.2.2.1.1.trans h4.1
  have htm : mI M (a + 34) 0 = nI (nv σ.1 6) := hRS.1.1.trans ht6
  by_cases hx : ∃ c, c < nv σ.1 1 ∧ x = nI c
  · obtain ⟨s, hs, rfl⟩ := hx
    refine Ct.of IX10_carrierOf.1 (by simp [Value.category]) (Nat.le_of_ble_eq_true rfl) (fun X hX hN => ?_)
    show J G base X 0 0 M 0 [some (.ref a), some (.int (nI s))] []
    refine r_iload_n hX dX10_carrierOf_0 rfl ?_
    refine r_aload_n hX dX10_carrierOf_1 rfl ?_
    refine r_getr hX dX10_carrierOf_2 fl_X10_33 rfl (LX10_s hL) (LX10_r5 hL) ?_
    refine rn_geti (v := nI (nv σ.1 1)) hX dX10_carrierOf_5 fl_X10_138 rfl (LX9_s (LX10_o5 hL)) hcc ?_
    refine r_cS2 hX dX10_carrierOf_8 IX10_needIndex ml_X10_169 rfl (t_ni1 hs (by omega)) (by decide) (by decide) (by decide) (by decide) rfl (Nat.le_of_ble_eq_true rfl) ?_
    refine r_aload_n hX dX10_carrierOf_11 rfl ?_
    refine r_getr hX dX10_carrierOf_12 fl_X10_40 rfl (LX10_s hL) (LX10_r6 hL) ?_
    refine r_iload_n hX dX10_carrierOf_15 rfl ?_
    refine r_cV1 hX dX10_carrierOf_16 IX8_carrierWith ml_X10_200 rfl (LX8_s (LX10_o6 hL)) rfl (t_X8_carrierWith (LX10_o6 hL)) (by decide) (by decide) (by decide) (by decide) rfl (Nat.le_of_ble_eq_true rfl) ?_
    rw [show cwF (mI M (a + 34 + 1)) (nI s) 5 = crS σ.1 (nI s) from cwF_congr fun c hc => hRS.sk1 (noP_c hs) hc]
    refine r_ireturn hX rfl rfl dX10_carrierOf_19 (by decide) (by decide) ?_
    exact rC.y0 (by unfold rs_carrierOf; rw [ix_of hs (by omega)]) hC
  · refine Ct.of IX10_carrierOf.1 (by simp [Value.category]) (Nat.le_of_ble_eq_true rfl) (fun X hX hN => ?_)
    show J G base X 0 0 M 0 [some (.ref a), some (.int x)] []
    refine r_iload_n hX dX10_carrierOf_0 rfl ?_
    refine r_aload_n hX dX10_carrierOf_1 rfl ?_
    refine r_getr hX dX10_carrierOf_2 fl_X10_33 rfl (LX10_s hL) (LX10_r5 hL) ?_
    refine rn_geti (v := nI (nv σ.1 1)) hX dX10_carrierOf_5 fl_X10_138 rfl (LX9_s (LX10_o5 hL)) hcc ?_
    refine r_tS2 hX dX10_carrierOf_8 IX10_needIndex ml_X10_169 rfl (t_ni0 hx (by omega)) (by decide) (by decide) (by decide) (by decide) rfl (Nat.le_of_ble_eq_true rfl) ?_
    exact rC.n0 (k := 1) (by unfold rs_carrierOf; rw [ix_no hx]) rfl hC

set_option maxHeartbeats 2000000 in
set_option maxRecDepth 20000 in
theorem t_c_sackCount {M : Mm} {a : Nat} {σ : Sg} {T : Nat} (hL : LX10 M.1 M.2.1 a) (hC : CI (mI M) a σ) (hO : OkN T σ.1) (hT9 : T < 890000) {x : Int32} : Ct G base YX10_sackCount 20 1 6 [.ref a, .int x] M (rC M a 1 4 (rs_many σ 1 1 x) σ) := by
  obtain ⟨hT, hS, hLt, h4, h5, h6, hLo, hSt, hNa⟩ := hO
  have h0 := hT.1
  have h1 := hT.2.1
  have hr := hT.2.2
  have h2 := hLt.1
  have h3 := hLt.2.1
  have hb0 := h0.2
  have hb1 := h1.2
  have hb2 := h2.2
  have hb3 := h3.2
  have hb4 := h4.2
  have ht6 : σ.1 6 = nI (nv σ.1 6) := h6.1
  have hh6 : nv σ.1 6 ≤ T := h6.2
  have hTT : TT (mI M) (a + 28) σ.1 := hC.2.2.2.1
  have hRS : RS (mI M) (a + 34) σ.1 := hC.2.2.2.2.1
  have hHR : HR (mI M) (a + 52) σ.2.1 σ.2.2.1 := hC.2.2.2.2.2.1
  have hpc : mI M (a + 28) 0 = nI (nv σ.1 0) := hTT.1.trans h0.1
  have hcc : mI M (a + 28) 2 = nI (nv σ.1 1) := hTT.2.2.1.trans h1.1
  have hlc : mI M (a + 34 + 2) 0 = nI (nv σ.1 2) := hRS.2.2.1.1.trans h2.1
  have hkc : mI M (a + 34 + 15) 0 = nI (nv σ.1 3) := hRS.2.2.2.2.1.trans h3.1
  have hrc : mI M (a + 34 + 13) 0 = nI (nv σ.1 4) := hRS.2.2.2.1.1.trans h4.1
  have htm : mI M (a + 34) 0 = nI (nv σ.1 6) := hRS.1.1.trans ht6
  by_cases hx : ∃ c, c < nv σ.1 1 ∧ x = nI c
  · obtain ⟨s, hs, rfl⟩ := hx
    refine Ct.of IX10_sackCount.1 (by simp [Value.category]) (Nat.le_of_ble_eq_true rfl) (fun X hX hN => ?_)
    show J G base X 0 0 M 0 [some (.ref a), some (.int (nI s))] []
    refine r_iload_n hX dX10_sackCount_0 rfl ?_
    refine r_aload_n hX dX10_sackCount_1 rfl ?_
    refine r_getr hX dX10_sackCount_2 fl_X10_33 rfl (LX10_s hL) (LX10_r5 hL) ?_
    refine rn_geti (v := nI (nv σ.1 1)) hX dX10_sackCount_5 fl_X10_138 rfl (LX9_s (LX10_o5 hL)) hcc ?_
    refine r_cS2 hX dX10_sackCount_8 IX10_needIndex ml_X10_169 rfl (t_ni1 hs (by omega)) (by decide) (by decide) (by decide) (by decide) rfl (Nat.le_of_ble_eq_true rfl) ?_
    refine r_aload_n hX dX10_sackCount_11 rfl ?_
    refine r_getr hX dX10_sackCount_12 fl_X10_40 rfl (LX10_s hL) (LX10_r6 hL) ?_
    refine r_getr hX dX10_sackCount_15 fl_X10_107 rfl (LX8_s (LX10_o6 hL)) (LX8_r5 (LX10_o6 hL)) ?_
    refine r_iconst (v := 1) hX dX10_sackCount_18 (by decide) ?_
    refine r_iload_n hX dX10_sackCount_19 rfl ?_
    refine r_cV2 hX dX10_sackCount_20 IX2_countIn ml_X10_203 rfl (LX2_s (LX8_o5 (LX10_o6 hL))) rfl (t_X2_countIn (LX8_o5 (LX10_o6 hL)) hlc (by omega)) (by decide) (by decide) (by decide) (by decide) rfl (Nat.le_of_ble_eq_true rfl) ?_
    rw [show cntK (mI M (a + 34 + 2 + 4)) (mI M (a + 34 + 2 + 5)) 1 (nI s) (nv σ.1 2) = cntK (lK σ.1) (lW σ.1) 1 (nI s) (nv σ.1 2) from cntK_congr fun l hl => ⟨hRS.2.2.1.2.2 l hl 3 (by omega), hRS.2.2.1.2.2 l hl 4 (by omega)⟩]
    refine r_ireturn hX rfl rfl dX10_sackCount_23 (by decide) (by decide) ?_
    exact rC.y0 (by unfold rs_many; rw [ix_of hs (by omega)]) hC
  · refine Ct.of IX10_sackCount.1 (by simp [Value.category]) (Nat.le_of_ble_eq_true rfl) (fun X hX hN => ?_)
    show J G base X 0 0 M 0 [some (.ref a), some (.int x)] []
    refine r_iload_n hX dX10_sackCount_0 rfl ?_
    refine r_aload_n hX dX10_sackCount_1 rfl ?_
    refine r_getr hX dX10_sackCount_2 fl_X10_33 rfl (LX10_s hL) (LX10_r5 hL) ?_
    refine rn_geti (v := nI (nv σ.1 1)) hX dX10_sackCount_5 fl_X10_138 rfl (LX9_s (LX10_o5 hL)) hcc ?_
    refine r_tS2 hX dX10_sackCount_8 IX10_needIndex ml_X10_169 rfl (t_ni0 hx (by omega)) (by decide) (by decide) (by decide) (by decide) rfl (Nat.le_of_ble_eq_true rfl) ?_
    exact rC.n0 (k := 1) (by unfold rs_many; rw [ix_no hx]) rfl hC

set_option maxHeartbeats 2000000 in
set_option maxRecDepth 20000 in
theorem t_c_officeCount {M : Mm} {a : Nat} {σ : Sg} {T : Nat} (hL : LX10 M.1 M.2.1 a) (hC : CI (mI M) a σ) (hO : OkN T σ.1) (hT9 : T < 890000) {x : Int32} : Ct G base YX10_officeCount 20 1 6 [.ref a, .int x] M (rC M a 1 4 (rs_many σ 0 0 x) σ) := by
  obtain ⟨hT, hS, hLt, h4, h5, h6, hLo, hSt, hNa⟩ := hO
  have h0 := hT.1
  have h1 := hT.2.1
  have hr := hT.2.2
  have h2 := hLt.1
  have h3 := hLt.2.1
  have hb0 := h0.2
  have hb1 := h1.2
  have hb2 := h2.2
  have hb3 := h3.2
  have hb4 := h4.2
  have ht6 : σ.1 6 = nI (nv σ.1 6) := h6.1
  have hh6 : nv σ.1 6 ≤ T := h6.2
  have hTT : TT (mI M) (a + 28) σ.1 := hC.2.2.2.1
  have hRS : RS (mI M) (a + 34) σ.1 := hC.2.2.2.2.1
  have hHR : HR (mI M) (a + 52) σ.2.1 σ.2.2.1 := hC.2.2.2.2.2.1
  have hpc : mI M (a + 28) 0 = nI (nv σ.1 0) := hTT.1.trans h0.1
  have hcc : mI M (a + 28) 2 = nI (nv σ.1 1) := hTT.2.2.1.trans h1.1
  have hlc : mI M (a + 34 + 2) 0 = nI (nv σ.1 2) := hRS.2.2.1.1.trans h2.1
  have hkc : mI M (a + 34 + 15) 0 = nI (nv σ.1 3) := hRS.2.2.2.2.1.trans h3.1
  have hrc : mI M (a + 34 + 13) 0 = nI (nv σ.1 4) := hRS.2.2.2.1.1.trans h4.1
  have htm : mI M (a + 34) 0 = nI (nv σ.1 6) := hRS.1.1.trans ht6
  by_cases hx : ∃ c, c < nv σ.1 0 ∧ x = nI c
  · obtain ⟨p, hp, rfl⟩ := hx
    refine Ct.of IX10_officeCount.1 (by simp [Value.category]) (Nat.le_of_ble_eq_true rfl) (fun X hX hN => ?_)
    show J G base X 0 0 M 0 [some (.ref a), some (.int (nI p))] []
    refine r_iload_n hX dX10_officeCount_0 rfl ?_
    refine r_aload_n hX dX10_officeCount_1 rfl ?_
    refine r_getr hX dX10_officeCount_2 fl_X10_33 rfl (LX10_s hL) (LX10_r5 hL) ?_
    refine rn_geti (v := nI (nv σ.1 0)) hX dX10_officeCount_5 fl_X10_104 rfl (LX9_s (LX10_o5 hL)) hpc ?_
    refine r_cS2 hX dX10_officeCount_8 IX10_needIndex ml_X10_169 rfl (t_ni1 hp (by omega)) (by decide) (by decide) (by decide) (by decide) rfl (Nat.le_of_ble_eq_true rfl) ?_
    refine r_aload_n hX dX10_officeCount_11 rfl ?_
    refine r_getr hX dX10_officeCount_12 fl_X10_40 rfl (LX10_s hL) (LX10_r6 hL) ?_
    refine r_getr hX dX10_officeCount_15 fl_X10_107 rfl (LX8_s (LX10_o6 hL)) (LX8_r5 (LX10_o6 hL)) ?_
    refine r_iconst (v := 0) hX dX10_officeCount_18 (by decide) ?_
    refine r_iload_n hX dX10_officeCount_19 rfl ?_
    refine r_cV2 hX dX10_officeCount_20 IX2_countIn ml_X10_203 rfl (LX2_s (LX8_o5 (LX10_o6 hL))) rfl (t_X2_countIn (LX8_o5 (LX10_o6 hL)) hlc (by omega)) (by decide) (by decide) (by decide) (by decide) rfl (Nat.le_of_ble_eq_true rfl) ?_
    rw [show cntK (mI M (a + 34 + 2 + 4)) (mI M (a + 34 + 2 + 5)) 0 (nI p) (nv σ.1 2) = cntK (lK σ.1) (lW σ.1) 0 (nI p) (nv σ.1 2) from cntK_congr fun l hl => ⟨hRS.2.2.1.2.2 l hl 3 (by omega), hRS.2.2.1.2.2 l hl 4 (by omega)⟩]
    refine r_ireturn hX rfl rfl dX10_officeCount_23 (by decide) (by decide) ?_
    exact rC.y0 (by unfold rs_many; rw [ix_of hp (by omega)]) hC
  · refine Ct.of IX10_officeCount.1 (by simp [Value.category]) (Nat.le_of_ble_eq_true rfl) (fun X hX hN => ?_)
    show J G base X 0 0 M 0 [some (.ref a), some (.int x)] []
    refine r_iload_n hX dX10_officeCount_0 rfl ?_
    refine r_aload_n hX dX10_officeCount_1 rfl ?_
    refine r_getr hX dX10_officeCount_2 fl_X10_33 rfl (LX10_s hL) (LX10_r5 hL) ?_
    refine rn_geti (v := nI (nv σ.1 0)) hX dX10_officeCount_5 fl_X10_104 rfl (LX9_s (LX10_o5 hL)) hpc ?_
    refine r_tS2 hX dX10_officeCount_8 IX10_needIndex ml_X10_169 rfl (t_ni0 hx (by omega)) (by decide) (by decide) (by decide) (by decide) rfl (Nat.le_of_ble_eq_true rfl) ?_
    exact rC.n0 (k := 1) (by unfold rs_many; rw [ix_no hx]) rfl hC

set_option maxHeartbeats 2000000 in
set_option maxRecDepth 20000 in
theorem t_c_sackLetter {M : Mm} {a : Nat} {σ : Sg} {T : Nat} (hL : LX10 M.1 M.2.1 a) (hC : CI (mI M) a σ) (hO : OkN T σ.1) (hT9 : T < 890000) {x k : Int32} : Ct G base YX10_sackLetter 20 1 6 [.ref a, .int x, .int k] M (rC M a 1 4 (rs_nth σ 1 1 x k) σ) := by
  obtain ⟨hT, hS, hLt, h4, h5, h6, hLo, hSt, hNa⟩ := hO
  have h0 := hT.1
  have h1 := hT.2.1
  have hr := hT.2.2
  have h2 := hLt.1
  have h3 := hLt.2.1
  have hb0 := h0.2
  have hb1 := h1.2
  have hb2 := h2.2
  have hb3 := h3.2
  have hb4 := h4.2
  have ht6 : σ.1 6 = nI (nv σ.1 6) := h6.1
  have hh6 : nv σ.1 6 ≤ T := h6.2
  have hTT : TT (mI M) (a + 28) σ.1 := hC.2.2.2.1
  have hRS : RS (mI M) (a + 34) σ.1 := hC.2.2.2.2.1
  have hHR : HR (mI M) (a + 52) σ.2.1 σ.2.2.1 := hC.2.2.2.2.2.1
  have hpc : mI M (a + 28) 0 = nI (nv σ.1 0) := hTT.1.trans h0.1
  have hcc : mI M (a + 28) 2 = nI (nv σ.1 1) := hTT.2.2.1.trans h1.1
  have hlc : mI M (a + 34 + 2) 0 = nI (nv σ.1 2) := hRS.2.2.1.1.trans h2.1
  have hkc : mI M (a + 34 + 15) 0 = nI (nv σ.1 3) := hRS.2.2.2.2.1.trans h3.1
  have hrc : mI M (a + 34 + 13) 0 = nI (nv σ.1 4) := hRS.2.2.2.1.1.trans h4.1
  have htm : mI M (a + 34) 0 = nI (nv σ.1 6) := hRS.1.1.trans ht6
  by_cases hx : ∃ c, c < nv σ.1 1 ∧ x = nI c
  · obtain ⟨s, hs, rfl⟩ := hx
    refine Ct.of IX10_sackLetter.1 (by simp [Value.category]) (Nat.le_of_ble_eq_true rfl) (fun X hX hN => ?_)
    show J G base X 0 0 M 0 [some (.ref a), some (.int (nI s)), some (.int k)] []
    refine r_iload_n hX dX10_sackLetter_0 rfl ?_
    refine r_aload_n hX dX10_sackLetter_1 rfl ?_
    refine r_getr hX dX10_sackLetter_2 fl_X10_33 rfl (LX10_s hL) (LX10_r5 hL) ?_
    refine rn_geti (v := nI (nv σ.1 1)) hX dX10_sackLetter_5 fl_X10_138 rfl (LX9_s (LX10_o5 hL)) hcc ?_
    refine r_cS2 hX dX10_sackLetter_8 IX10_needIndex ml_X10_169 rfl (t_ni1 hs (by omega)) (by decide) (by decide) (by decide) (by decide) rfl (Nat.le_of_ble_eq_true rfl) ?_
    refine r_aload_n hX dX10_sackLetter_11 rfl ?_
    refine r_getr hX dX10_sackLetter_12 fl_X10_40 rfl (LX10_s hL) (LX10_r6 hL) ?_
    refine r_getr hX dX10_sackLetter_15 fl_X10_107 rfl (LX8_s (LX10_o6 hL)) (LX8_r5 (LX10_o6 hL)) ?_
    refine r_iconst (v := 1) hX dX10_sackLetter_18 (by decide) ?_
    refine r_iload_n hX dX10_sackLetter_19 rfl ?_
    refine r_iload_n hX dX10_sackLetter_20 rfl ?_
    refine r_cV3 hX dX10_sackLetter_21 IX2_numberIn ml_X10_206 rfl (LX2_s (LX8_o5 (LX10_o6 hL))) rfl (t_X2_numberIn (LX8_o5 (LX10_o6 hL)) hlc (by omega)) (by decide) (by decide) (by decide) (by decide) rfl (Nat.le_of_ble_eq_true rfl) ?_
    rw [show nthK (mI M (a + 34 + 2 + 4)) (mI M (a + 34 + 2 + 5)) 1 (nI s) k (nv σ.1 2) = nthK (lK σ.1) (lW σ.1) 1 (nI s) k (nv σ.1 2) from nthK_congr fun l hl => ⟨hRS.2.2.1.2.2 l hl 3 (by omega), hRS.2.2.1.2.2 l hl 4 (by omega)⟩]
    refine r_ireturn hX rfl rfl dX10_sackLetter_24 (by decide) (by decide) ?_
    exact rC.y0 (by unfold rs_nth; rw [ix_of hs (by omega)]) hC
  · refine Ct.of IX10_sackLetter.1 (by simp [Value.category]) (Nat.le_of_ble_eq_true rfl) (fun X hX hN => ?_)
    show J G base X 0 0 M 0 [some (.ref a), some (.int x), some (.int k)] []
    refine r_iload_n hX dX10_sackLetter_0 rfl ?_
    refine r_aload_n hX dX10_sackLetter_1 rfl ?_
    refine r_getr hX dX10_sackLetter_2 fl_X10_33 rfl (LX10_s hL) (LX10_r5 hL) ?_
    refine rn_geti (v := nI (nv σ.1 1)) hX dX10_sackLetter_5 fl_X10_138 rfl (LX9_s (LX10_o5 hL)) hcc ?_
    refine r_tS2 hX dX10_sackLetter_8 IX10_needIndex ml_X10_169 rfl (t_ni0 hx (by omega)) (by decide) (by decide) (by decide) (by decide) rfl (Nat.le_of_ble_eq_true rfl) ?_
    exact rC.n0 (k := 1) (by unfold rs_nth; rw [ix_no hx]) rfl hC

set_option maxHeartbeats 2000000 in
set_option maxRecDepth 20000 in
theorem t_c_officeLetter {M : Mm} {a : Nat} {σ : Sg} {T : Nat} (hL : LX10 M.1 M.2.1 a) (hC : CI (mI M) a σ) (hO : OkN T σ.1) (hT9 : T < 890000) {x k : Int32} : Ct G base YX10_officeLetter 20 1 6 [.ref a, .int x, .int k] M (rC M a 1 4 (rs_nth σ 0 0 x k) σ) := by
  obtain ⟨hT, hS, hLt, h4, h5, h6, hLo, hSt, hNa⟩ := hO
  have h0 := hT.1
  have h1 := hT.2.1
  have hr := hT.2.2
  have h2 := hLt.1
  have h3 := hLt.2.1
  have hb0 := h0.2
  have hb1 := h1.2
  have hb2 := h2.2
  have hb3 := h3.2
  have hb4 := h4.2
  have ht6 : σ.1 6 = nI (nv σ.1 6) := h6.1
  have hh6 : nv σ.1 6 ≤ T := h6.2
  have hTT : TT (mI M) (a + 28) σ.1 := hC.2.2.2.1
  have hRS : RS (mI M) (a + 34) σ.1 := hC.2.2.2.2.1
  have hHR : HR (mI M) (a + 52) σ.2.1 σ.2.2.1 := hC.2.2.2.2.2.1
  have hpc : mI M (a + 28) 0 = nI (nv σ.1 0) := hTT.1.trans h0.1
  have hcc : mI M (a + 28) 2 = nI (nv σ.1 1) := hTT.2.2.1.trans h1.1
  have hlc : mI M (a + 34 + 2) 0 = nI (nv σ.1 2) := hRS.2.2.1.1.trans h2.1
  have hkc : mI M (a + 34 + 15) 0 = nI (nv σ.1 3) := hRS.2.2.2.2.1.trans h3.1
  have hrc : mI M (a + 34 + 13) 0 = nI (nv σ.1 4) := hRS.2.2.2.1.1.trans h4.1
  have htm : mI M (a + 34) 0 = nI (nv σ.1 6) := hRS.1.1.trans ht6
  by_cases hx : ∃ c, c < nv σ.1 0 ∧ x = nI c
  · obtain ⟨p, hp, rfl⟩ := hx
    refine Ct.of IX10_officeLetter.1 (by simp [Value.category]) (Nat.le_of_ble_eq_true rfl) (fun X hX hN => ?_)
    show J G base X 0 0 M 0 [some (.ref a), some (.int (nI p)), some (.int k)] []
    refine r_iload_n hX dX10_officeLetter_0 rfl ?_
    refine r_aload_n hX dX10_officeLetter_1 rfl ?_
    refine r_getr hX dX10_officeLetter_2 fl_X10_33 rfl (LX10_s hL) (LX10_r5 hL) ?_
    refine rn_geti (v := nI (nv σ.1 0)) hX dX10_officeLetter_5 fl_X10_104 rfl (LX9_s (LX10_o5 hL)) hpc ?_
    refine r_cS2 hX dX10_officeLetter_8 IX10_needIndex ml_X10_169 rfl (t_ni1 hp (by omega)) (by decide) (by decide) (by decide) (by decide) rfl (Nat.le_of_ble_eq_true rfl) ?_
    refine r_aload_n hX dX10_officeLetter_11 rfl ?_
    refine r_getr hX dX10_officeLetter_12 fl_X10_40 rfl (LX10_s hL) (LX10_r6 hL) ?_
    refine r_getr hX dX10_officeLetter_15 fl_X10_107 rfl (LX8_s (LX10_o6 hL)) (LX8_r5 (LX10_o6 hL)) ?_
    refine r_iconst (v := 0) hX dX10_officeLetter_18 (by decide) ?_
    refine r_iload_n hX dX10_officeLetter_19 rfl ?_
    refine r_iload_n hX dX10_officeLetter_20 rfl ?_
    refine r_cV3 hX dX10_officeLetter_21 IX2_numberIn ml_X10_206 rfl (LX2_s (LX8_o5 (LX10_o6 hL))) rfl (t_X2_numberIn (LX8_o5 (LX10_o6 hL)) hlc (by omega)) (by decide) (by decide) (by decide) (by decide) rfl (Nat.le_of_ble_eq_true rfl) ?_
    rw [show nthK (mI M (a + 34 + 2 + 4)) (mI M (a + 34 + 2 + 5)) 0 (nI p) k (nv σ.1 2) = nthK (lK σ.1) (lW σ.1) 0 (nI p) k (nv σ.1 2) from nthK_congr fun l hl => ⟨hRS.2.2.1.2.2 l hl 3 (by omega), hRS.2.2.1.2.2 l hl 4 (by omega)⟩]
    refine r_ireturn hX rfl rfl dX10_officeLetter_24 (by decide) (by decide) ?_
    exact rC.y0 (by unfold rs_nth; rw [ix_of hp (by omega)]) hC
  · refine Ct.of IX10_officeLetter.1 (by simp [Value.category]) (Nat.le_of_ble_eq_true rfl) (fun X hX hN => ?_)
    show J G base X 0 0 M 0 [some (.ref a), some (.int x), some (.int k)] []
    refine r_iload_n hX dX10_officeLetter_0 rfl ?_
    refine r_aload_n hX dX10_officeLetter_1 rfl ?_
    refine r_getr hX dX10_officeLetter_2 fl_X10_33 rfl (LX10_s hL) (LX10_r5 hL) ?_
    refine rn_geti (v := nI (nv σ.1 0)) hX dX10_officeLetter_5 fl_X10_104 rfl (LX9_s (LX10_o5 hL)) hpc ?_
    refine r_tS2 hX dX10_officeLetter_8 IX10_needIndex ml_X10_169 rfl (t_ni0 hx (by omega)) (by decide) (by decide) (by decide) (by decide) rfl (Nat.le_of_ble_eq_true rfl) ?_
    exact rC.n0 (k := 1) (by unfold rs_nth; rw [ix_no hx]) rfl hC

set_option maxHeartbeats 2000000 in
set_option maxRecDepth 20000 in
theorem t_c_sackValue {M : Mm} {a : Nat} {σ : Sg} {T : Nat} (hL : LX10 M.1 M.2.1 a) (hC : CI (mI M) a σ) (hO : OkN T σ.1) (hT9 : T < 890000) {x : Int32} : Ct G base YX10_sackValue 20 1 6 [.ref a, .int x] M (rC M a 1 4 (rs_sackValue σ x) σ) := by
  obtain ⟨hT, hS, hLt, h4, h5, h6, hLo, hSt, hNa⟩ := hO
  have h0 := hT.1
  have h1 := hT.2.1
  have hr := hT.2.2
  have h2 := hLt.1
  have h3 := hLt.2.1
  have hb0 := h0.2
  have hb1 := h1.2
  have hb2 := h2.2
  have hb3 := h3.2
  have hb4 := h4.2
  have ht6 : σ.1 6 = nI (nv σ.1 6) := h6.1
  have hh6 : nv σ.1 6 ≤ T := h6.2
  have hTT : TT (mI M) (a + 28) σ.1 := hC.2.2.2.1
  have hRS : RS (mI M) (a + 34) σ.1 := hC.2.2.2.2.1
  have hHR : HR (mI M) (a + 52) σ.2.1 σ.2.2.1 := hC.2.2.2.2.2.1
  have hpc : mI M (a + 28) 0 = nI (nv σ.1 0) := hTT.1.trans h0.1
  have hcc : mI M (a + 28) 2 = nI (nv σ.1 1) := hTT.2.2.1.trans h1.1
  have hlc : mI M (a + 34 + 2) 0 = nI (nv σ.1 2) := hRS.2.2.1.1.trans h2.1
  have hkc : mI M (a + 34 + 15) 0 = nI (nv σ.1 3) := hRS.2.2.2.2.1.trans h3.1
  have hrc : mI M (a + 34 + 13) 0 = nI (nv σ.1 4) := hRS.2.2.2.1.1.trans h4.1
  have htm : mI M (a + 34) 0 = nI (nv σ.1 6) := hRS.1.1.trans ht6
  by_cases hx : ∃ c, c < nv σ.1 1 ∧ x = nI c
  · obtain ⟨s, hs, rfl⟩ := hx
    refine Ct.of IX10_sackValue.1 (by simp [Value.category]) (Nat.le_of_ble_eq_true rfl) (fun X hX hN => ?_)
    show J G base X 0 0 M 0 [some (.ref a), some (.int (nI s))] []
    refine r_iload_n hX dX10_sackValue_0 rfl ?_
    refine r_aload_n hX dX10_sackValue_1 rfl ?_
    refine r_getr hX dX10_sackValue_2 fl_X10_33 rfl (LX10_s hL) (LX10_r5 hL) ?_
    refine rn_geti (v := nI (nv σ.1 1)) hX dX10_sackValue_5 fl_X10_138 rfl (LX9_s (LX10_o5 hL)) hcc ?_
    refine r_cS2 hX dX10_sackValue_8 IX10_needIndex ml_X10_169 rfl (t_ni1 hs (by omega)) (by decide) (by decide) (by decide) (by decide) rfl (Nat.le_of_ble_eq_true rfl) ?_
    refine r_aload_n hX dX10_sackValue_11 rfl ?_
    refine r_getr hX dX10_sackValue_12 fl_X10_40 rfl (LX10_s hL) (LX10_r6 hL) ?_
    refine r_getr hX dX10_sackValue_15 fl_X10_107 rfl (LX8_s (LX10_o6 hL)) (LX8_r5 (LX10_o6 hL)) ?_
    refine r_iconst (v := 1) hX dX10_sackValue_18 (by decide) ?_
    refine r_iload_n hX dX10_sackValue_19 rfl ?_
    refine r_cV2 hX dX10_sackValue_20 IX2_valueIn ml_X10_210 rfl (LX2_s (LX8_o5 (LX10_o6 hL))) rfl (t_X2_valueIn (LX8_o5 (LX10_o6 hL)) hlc (by omega)) (by decide) (by decide) (by decide) (by decide) rfl (Nat.le_of_ble_eq_true rfl) ?_
    rw [show sumK (mI M (a + 34 + 2 + 4)) (mI M (a + 34 + 2 + 5)) (mI M (a + 34 + 2 + 3)) 1 (nI s) (nv σ.1 2) = sumK (lK σ.1) (lW σ.1) (lV σ.1) 1 (nI s) (nv σ.1 2) from sumK_congr fun l hl => ⟨hRS.2.2.1.2.2 l hl 3 (by omega), hRS.2.2.1.2.2 l hl 4 (by omega), hRS.2.2.1.2.2 l hl 2 (by omega)⟩]
    refine r_ireturn hX rfl rfl dX10_sackValue_23 (by decide) (by decide) ?_
    exact rC.y0 (by unfold rs_sackValue; rw [ix_of hs (by omega)]) hC
  · refine Ct.of IX10_sackValue.1 (by simp [Value.category]) (Nat.le_of_ble_eq_true rfl) (fun X hX hN => ?_)
    show J G base X 0 0 M 0 [some (.ref a), some (.int x)] []
    refine r_iload_n hX dX10_sackValue_0 rfl ?_
    refine r_aload_n hX dX10_sackValue_1 rfl ?_
    refine r_getr hX dX10_sackValue_2 fl_X10_33 rfl (LX10_s hL) (LX10_r5 hL) ?_
    refine rn_geti (v := nI (nv σ.1 1)) hX dX10_sackValue_5 fl_X10_138 rfl (LX9_s (LX10_o5 hL)) hcc ?_
    refine r_tS2 hX dX10_sackValue_8 IX10_needIndex ml_X10_169 rfl (t_ni0 hx (by omega)) (by decide) (by decide) (by decide) (by decide) rfl (Nat.le_of_ble_eq_true rfl) ?_
    exact rC.n0 (k := 1) (by unfold rs_sackValue; rw [ix_no hx]) rfl hC

set_option maxHeartbeats 2000000 in
set_option maxRecDepth 20000 in
theorem t_c_trace {M : Mm} {a : Nat} {σ : Sg} {T : Nat} (hL : LX10 M.1 M.2.1 a) (hC : CI (mI M) a σ) (hO : OkN T σ.1) (hT9 : T < 890000) {x : Int32} : Ct G base YX10_trace 20 1 6 [.ref a, .int x] M (rC M a 1 4 (rs_trace σ x) σ) := by
  obtain ⟨hT, hS, hLt, h4, h5, h6, hLo, hSt, hNa⟩ := hO
  have h0 := hT.1
  have h1 := hT.2.1
  have hr := hT.2.2
  have h2 := hLt.1
  have h3 := hLt.2.1
  have hb0 := h0.2
  have hb1 := h1.2
  have hb2 := h2.2
  have hb3 := h3.2
  have hb4 := h4.2
  have ht6 : σ.1 6 = nI (nv σ.1 6) := h6.1
  have hh6 : nv σ.1 6 ≤ T := h6.2
  have hTT : TT (mI M) (a + 28) σ.1 := hC.2.2.2.1
  have hRS : RS (mI M) (a + 34) σ.1 := hC.2.2.2.2.1
  have hHR : HR (mI M) (a + 52) σ.2.1 σ.2.2.1 := hC.2.2.2.2.2.1
  have hpc : mI M (a + 28) 0 = nI (nv σ.1 0) := hTT.1.trans h0.1
  have hcc : mI M (a + 28) 2 = nI (nv σ.1 1) := hTT.2.2.1.trans h1.1
  have hlc : mI M (a + 34 + 2) 0 = nI (nv σ.1 2) := hRS.2.2.1.1.trans h2.1
  have hkc : mI M (a + 34 + 15) 0 = nI (nv σ.1 3) := hRS.2.2.2.2.1.trans h3.1
  have hrc : mI M (a + 34 + 13) 0 = nI (nv σ.1 4) := hRS.2.2.2.1.1.trans h4.1
  have htm : mI M (a + 34) 0 = nI (nv σ.1 6) := hRS.1.1.trans ht6
  by_cases hx : ∃ c, c < nv σ.1 2 ∧ x = nI c
  · obtain ⟨l, hl, rfl⟩ := hx
    refine Ct.of IX10_trace.1 (by simp [Value.category]) (Nat.le_of_ble_eq_true rfl) (fun X hX hN => ?_)
    show J G base X 0 0 M 0 [some (.ref a), some (.int (nI l))] []
    refine r_iload_n hX dX10_trace_0 rfl ?_
    refine r_aload_n hX dX10_trace_1 rfl ?_
    refine r_getr hX dX10_trace_2 fl_X10_40 rfl (LX10_s hL) (LX10_r6 hL) ?_
    refine r_getr hX dX10_trace_5 fl_X10_107 rfl (LX8_s (LX10_o6 hL)) (LX8_r5 (LX10_o6 hL)) ?_
    refine rn_geti (v := nI (nv σ.1 2)) hX dX10_trace_8 fl_X10_111 rfl (LX2_s (LX8_o5 (LX10_o6 hL))) hlc ?_
    refine r_cS2 hX dX10_trace_11 IX10_needIndex ml_X10_169 rfl (t_ni1 hl (by omega)) (by decide) (by decide) (by decide) (by decide) rfl (Nat.le_of_ble_eq_true rfl) ?_
    refine r_aload_n hX dX10_trace_14 rfl ?_
    refine r_getr hX dX10_trace_15 fl_X10_40 rfl (LX10_s hL) (LX10_r6 hL) ?_
    refine r_getr hX dX10_trace_18 fl_X10_107 rfl (LX8_s (LX10_o6 hL)) (LX8_r5 (LX10_o6 hL)) ?_
    refine r_getr hX dX10_trace_21 fl_X10_216 rfl (LX2_s (LX8_o5 (LX10_o6 hL))) (LX2_r10 (LX8_o5 (LX10_o6 hL))) ?_
    refine r_iload_n hX dX10_trace_24 rfl ?_
    refine rn_iald hX dX10_trace_25 (LX2_a10 (LX8_o5 (LX10_o6 hL))) rfl (by omega) (by omega) ?_
    rw [show mI M (a + 34 + 2 + 10) l = σ.1 (498 + 10 * l + 9) from hRS.2.2.1.2.2 l hl 9 (by omega)]
    refine r_ireturn hX rfl rfl dX10_trace_26 (by decide) (by decide) ?_
    exact rC.y0 (by unfold rs_trace; rw [ix_of hl (by omega)]) hC
  · refine Ct.of IX10_trace.1 (by simp [Value.category]) (Nat.le_of_ble_eq_true rfl) (fun X hX hN => ?_)
    show J G base X 0 0 M 0 [some (.ref a), some (.int x)] []
    refine r_iload_n hX dX10_trace_0 rfl ?_
    refine r_aload_n hX dX10_trace_1 rfl ?_
    refine r_getr hX dX10_trace_2 fl_X10_40 rfl (LX10_s hL) (LX10_r6 hL) ?_
    refine r_getr hX dX10_trace_5 fl_X10_107 rfl (LX8_s (LX10_o6 hL)) (LX8_r5 (LX10_o6 hL)) ?_
    refine rn_geti (v := nI (nv σ.1 2)) hX dX10_trace_8 fl_X10_111 rfl (LX2_s (LX8_o5 (LX10_o6 hL))) hlc ?_
    refine r_tS2 hX dX10_trace_11 IX10_needIndex ml_X10_169 rfl (t_ni0 hx (by omega)) (by decide) (by decide) (by decide) (by decide) rfl (Nat.le_of_ble_eq_true rfl) ?_
    exact rC.n0 (k := 1) (by unfold rs_trace; rw [ix_no hx]) rfl hC

set_option maxHeartbeats 2000000 in
set_option maxRecDepth 20000 in
theorem t_c_isVillage {M : Mm} {a : Nat} {σ : Sg} {T : Nat} (hL : LX10 M.1 M.2.1 a) (hC : CI (mI M) a σ) (hO : OkN T σ.1) (hT9 : T < 890000) {x : Int32} : Ct G base YX10_isVillage 20 1 6 [.ref a, .int x] M (rC M a 1 4 (rs_isVillage σ x) σ) := by
  obtain ⟨hT, hS, hLt, h4, h5, h6, hLo, hSt, hNa⟩ := hO
  have h0 := hT.1
  have h1 := hT.2.1
  have hr := hT.2.2
  have h2 := hLt.1
  have h3 := hLt.2.1
  have hb0 := h0.2
  have hb1 := h1.2
  have hb2 := h2.2
  have hb3 := h3.2
  have hb4 := h4.2
  have ht6 : σ.1 6 = nI (nv σ.1 6) := h6.1
  have hh6 : nv σ.1 6 ≤ T := h6.2
  have hTT : TT (mI M) (a + 28) σ.1 := hC.2.2.2.1
  have hRS : RS (mI M) (a + 34) σ.1 := hC.2.2.2.2.1
  have hHR : HR (mI M) (a + 52) σ.2.1 σ.2.2.1 := hC.2.2.2.2.2.1
  have hpc : mI M (a + 28) 0 = nI (nv σ.1 0) := hTT.1.trans h0.1
  have hcc : mI M (a + 28) 2 = nI (nv σ.1 1) := hTT.2.2.1.trans h1.1
  have hlc : mI M (a + 34 + 2) 0 = nI (nv σ.1 2) := hRS.2.2.1.1.trans h2.1
  have hkc : mI M (a + 34 + 15) 0 = nI (nv σ.1 3) := hRS.2.2.2.2.1.trans h3.1
  have hrc : mI M (a + 34 + 13) 0 = nI (nv σ.1 4) := hRS.2.2.2.1.1.trans h4.1
  have htm : mI M (a + 34) 0 = nI (nv σ.1 6) := hRS.1.1.trans ht6
  by_cases hx : ∃ c, c < nv σ.1 0 ∧ x = nI c
  · obtain ⟨p, hp, rfl⟩ := hx
    refine Ct.of IX10_isVillage.1 (by simp [Value.category]) (Nat.le_of_ble_eq_true rfl) (fun X hX hN => ?_)
    show J G base X 0 0 M 0 [some (.ref a), some (.int (nI p))] []
    refine r_iload_n hX dX10_isVillage_0 rfl ?_
    refine r_aload_n hX dX10_isVillage_1 rfl ?_
    refine r_getr hX dX10_isVillage_2 fl_X10_33 rfl (LX10_s hL) (LX10_r5 hL) ?_
    refine rn_geti (v := nI (nv σ.1 0)) hX dX10_isVillage_5 fl_X10_104 rfl (LX9_s (LX10_o5 hL)) hpc ?_
    refine r_cS2 hX dX10_isVillage_8 IX10_needIndex ml_X10_169 rfl (t_ni1 hp (by omega)) (by decide) (by decide) (by decide) (by decide) rfl (Nat.le_of_ble_eq_true rfl) ?_
    refine r_aload_n hX dX10_isVillage_11 rfl ?_
    refine r_getr hX dX10_isVillage_12 fl_X10_33 rfl (LX10_s hL) (LX10_r5 hL) ?_
    refine r_iload_n hX dX10_isVillage_15 rfl ?_
    refine r_cV1 hX dX10_isVillage_16 IX9_hasOffice ml_X10_173 rfl (LX9_s (LX10_o5 hL)) rfl (t_X9_hasOffice (LX10_o5 hL) hTT h0) (by decide) (by decide) (by decide) (by decide) rfl (Nat.le_of_ble_eq_true rfl) ?_
    rw [itec (townP_t h0 (by omega))]
    refine r_ireturn hX rfl nar_b dX10_isVillage_19 (by decide) (by decide) ?_
    exact rC.y0 (by unfold rs_isVillage; rw [ix_of hp (by omega)]) hC
  · refine Ct.of IX10_isVillage.1 (by simp [Value.category]) (Nat.le_of_ble_eq_true rfl) (fun X hX hN => ?_)
    show J G base X 0 0 M 0 [some (.ref a), some (.int x)] []
    refine r_iload_n hX dX10_isVillage_0 rfl ?_
    refine r_aload_n hX dX10_isVillage_1 rfl ?_
    refine r_getr hX dX10_isVillage_2 fl_X10_33 rfl (LX10_s hL) (LX10_r5 hL) ?_
    refine rn_geti (v := nI (nv σ.1 0)) hX dX10_isVillage_5 fl_X10_104 rfl (LX9_s (LX10_o5 hL)) hpc ?_
    refine r_tS2 hX dX10_isVillage_8 IX10_needIndex ml_X10_169 rfl (t_ni0 hx (by omega)) (by decide) (by decide) (by decide) (by decide) rfl (Nat.le_of_ble_eq_true rfl) ?_
    exact rC.n0 (k := 1) (by unfold rs_isVillage; rw [ix_no hx]) rfl hC

set_option maxHeartbeats 2000000 in
set_option maxRecDepth 20000 in
theorem t_c_isOnStrike {M : Mm} {a : Nat} {σ : Sg} {T : Nat} (hL : LX10 M.1 M.2.1 a) (hC : CI (mI M) a σ) (hO : OkN T σ.1) (hT9 : T < 890000) {x : Int32} : Ct G base YX10_isOnStrike 20 1 6 [.ref a, .int x] M (rC M a 1 4 (rs_isOnStrike σ x) σ) := by
  obtain ⟨hT, hS, hLt, h4, h5, h6, hLo, hSt, hNa⟩ := hO
  have h0 := hT.1
  have h1 := hT.2.1
  have hr := hT.2.2
  have h2 := hLt.1
  have h3 := hLt.2.1
  have hb0 := h0.2
  have hb1 := h1.2
  have hb2 := h2.2
  have hb3 := h3.2
  have hb4 := h4.2
  have ht6 : σ.1 6 = nI (nv σ.1 6) := h6.1
  have hh6 : nv σ.1 6 ≤ T := h6.2
  have hTT : TT (mI M) (a + 28) σ.1 := hC.2.2.2.1
  have hRS : RS (mI M) (a + 34) σ.1 := hC.2.2.2.2.1
  have hHR : HR (mI M) (a + 52) σ.2.1 σ.2.2.1 := hC.2.2.2.2.2.1
  have hpc : mI M (a + 28) 0 = nI (nv σ.1 0) := hTT.1.trans h0.1
  have hcc : mI M (a + 28) 2 = nI (nv σ.1 1) := hTT.2.2.1.trans h1.1
  have hlc : mI M (a + 34 + 2) 0 = nI (nv σ.1 2) := hRS.2.2.1.1.trans h2.1
  have hkc : mI M (a + 34 + 15) 0 = nI (nv σ.1 3) := hRS.2.2.2.2.1.trans h3.1
  have hrc : mI M (a + 34 + 13) 0 = nI (nv σ.1 4) := hRS.2.2.2.1.1.trans h4.1
  have htm : mI M (a + 34) 0 = nI (nv σ.1 6) := hRS.1.1.trans ht6
  by_cases hx : ∃ c, c < nv σ.1 1 ∧ x = nI c
  · obtain ⟨c, hc, rfl⟩ := hx
    refine Ct.of IX10_isOnStrike.1 (by simp [Value.category]) (Nat.le_of_ble_eq_true rfl) (fun X hX hN => ?_)
    show J G base X 0 0 M 0 [some (.ref a), some (.int (nI c))] []
    refine r_iload_n hX dX10_isOnStrike_0 rfl ?_
    refine r_aload_n hX dX10_isOnStrike_1 rfl ?_
    refine r_getr hX dX10_isOnStrike_2 fl_X10_33 rfl (LX10_s hL) (LX10_r5 hL) ?_
    refine rn_geti (v := nI (nv σ.1 1)) hX dX10_isOnStrike_5 fl_X10_138 rfl (LX9_s (LX10_o5 hL)) hcc ?_
    refine r_cS2 hX dX10_isOnStrike_8 IX10_needIndex ml_X10_169 rfl (t_ni1 hc (by omega)) (by decide) (by decide) (by decide) (by decide) rfl (Nat.le_of_ble_eq_true rfl) ?_
    refine r_aload_n hX dX10_isOnStrike_11 rfl ?_
    refine r_getr hX dX10_isOnStrike_12 fl_X10_40 rfl (LX10_s hL) (LX10_r6 hL) ?_
    refine r_geti hX dX10_isOnStrike_15 fl_X10_187 rfl (LX8_s (LX10_o6 hL)) ?_
    refine r_iload_n hX dX10_isOnStrike_18 rfl ?_
    refine r_cS2 hX dX10_isOnStrike_19 IX10_has ml_X10_190 rfl (t_X10_has) (by decide) (by decide) (by decide) (by decide) rfl (Nat.le_of_ble_eq_true rfl) ?_
    rw [itec (show hasP (mI M (a + 34) 3) (nI c) ↔ σ.1 (38 + c) = 1 from by rw [hasP_nI (by omega), hRS.1.2.2.2 c (by omega), decide_eq_true_iff])]
    refine r_ireturn hX rfl nar_b dX10_isOnStrike_22 (by decide) (by decide) ?_
    exact rC.y0 (by unfold rs_isOnStrike; rw [ix_of hc (by omega)]) hC
  · refine Ct.of IX10_isOnStrike.1 (by simp [Value.category]) (Nat.le_of_ble_eq_true rfl) (fun X hX hN => ?_)
    show J G base X 0 0 M 0 [some (.ref a), some (.int x)] []
    refine r_iload_n hX dX10_isOnStrike_0 rfl ?_
    refine r_aload_n hX dX10_isOnStrike_1 rfl ?_
    refine r_getr hX dX10_isOnStrike_2 fl_X10_33 rfl (LX10_s hL) (LX10_r5 hL) ?_
    refine rn_geti (v := nI (nv σ.1 1)) hX dX10_isOnStrike_5 fl_X10_138 rfl (LX9_s (LX10_o5 hL)) hcc ?_
    refine r_tS2 hX dX10_isOnStrike_8 IX10_needIndex ml_X10_169 rfl (t_ni0 hx (by omega)) (by decide) (by decide) (by decide) (by decide) rfl (Nat.le_of_ble_eq_true rfl) ?_
    exact rC.n0 (k := 1) (by unfold rs_isOnStrike; rw [ix_no hx]) rfl hC

