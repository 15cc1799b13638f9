variable {G : GG} {base : Nat}
/-! ===== ACTIONS ===== -/
def shP (ps : Nat → Int32) : Nat → Int32 := fun q => if q < 8106 then ps (q + 1158) else ps q
def cpP (ps n : Nat → Int32) (d : Nat) : Nat → Int32 := fun q => if 1158 * d ≤ q ∧ q < 1158 * d + 1158 then n (q - 1158 * d) else ps q
/-- an action is recorded -/
def keepS (σ : Sg) : Sg := (σ.1, (if σ.2.2.1 = 8 then cpP (shP σ.2.1) σ.1 7 else cpP σ.2.1 σ.1 σ.2.2.1), (if σ.2.2.1 = 8 then 8 else σ.2.2.1 + 1), σ.2.2.2)
/-- the j-th past row -/
def rowP (σ : Sg) (j : Nat) : Nat → Int32 := fun q => if q < 1158 then σ.2.1 (1158 * j + q) else σ.1 q
def undoS (σ : Sg) : Sg := (rowP σ (σ.2.2.1 - 1), σ.2.1, σ.2.2.1 - 1, σ.2.2.2)
/-- the row anew -/
def rowS (σ : Sg) (n : Nat → Int32) : Sg := (n, σ.2)
theorem RI.row {i j : Nat → Nat → Int32} {a : Nat} {σ : Sg} {n : Nat → Int32} (h : RI i a σ) (h1 : j (a + 1) = n) (h2 : ∀ x, x ≠ a + 1 → x < a + 7 ∨ a + 13 ≤ x → j x = i x) : RI j a (rowS σ n) := by
  obtain ⟨g1, g2, g3, g4, g5, g6, g7, g8, g9, g10⟩ := h
  have ea : j a = i a := h2 a (by omega) (by omega)
  refine ⟨h1, (h2 _ (by omega) (by omega)).trans g2, ⟨(congrFun ea 4).trans g3.1, g3.2⟩, fun k hk => ⟨(g4 k hk).1, (congrFun (h2 _ (by omega) (by omega)) k).trans (g4 k hk).2⟩, ⟨(congrFun ea 7).trans g5.1, g5.2⟩, (h2 _ (by omega) (by omega)).trans g6, (congrFun ea 13).trans g7, (congrFun ea 14).trans g8, fun k hk => ⟨(g9 k hk).1, (congrFun (h2 _ (by omega) (by omega)) k).trans (g9 k hk).2⟩, (congrFun ea 23).trans g10.1, g10.2⟩
/-- the row again -/
theorem RI.row2 {i j : Nat → Nat → Int32} {a : Nat} {σ : Sg} {n : Nat → Int32} (h : RI i a σ) (h1 : j (a + 1) = n) (h2 : ∀ x, x ≠ a + 1 → j x = i x) : RI j a (rowS σ n) := h.row h1 (fun x hx _ => h2 x hx)
theorem pubR {M : Mm} {a : Nat} {σ : Sg} {i0 j : Nat → Nat → Int32} {n : Nat → Int32} {v : Int32} (hR : RI i0 a σ) (ho : outB i0 (mI M) a 14) (ht : i0 a 0 = v) (h1 : j (a + 1) = n) (h2 : ∀ x, x ≠ a + 1 → x < a + 7 ∨ a + 13 ≤ x → j x = i0 x) : RI j a (rowS σ n) ∧ mI (wI M j) (a + 1) = n ∧ j a 0 = v ∧ outB j (mI M) a 14 :=
  ⟨hR.row h1 h2, h1, (congrFun (h2 a (by omega) (by omega)) 0).trans ht, fun x hx k => (congrFun (h2 x (by omega) (by omega)) k).trans (ho x hx k)⟩
theorem OkN.eq {T : Nat} {x y : Nat → Int32} (h : ∀ q, q < 1158 → x q = y q) (hx : OkN T x) : OkN T y := by
  obtain ⟨hT, hS, hL, h4, h5, h6, hLo, hSt, hN⟩ := hx
  have hv : ∀ q, q < 1158 → nv y q = nv x q := fun q hq => by show (y q).toNatClampNeg = _; rw [← h q hq]
  have hR : ∀ q b, q < 1158 → Rn x q b → Rn y q b := fun q b hq hr => ⟨by rw [hv q hq, ← h q hq]; exact hr.1, by rw [hv q hq]; exact hr.2⟩
  have hs : sm y x := ⟨fun q a _ _ => (h q (by omega)).symm, hR _ _ (by omega) h4⟩
  have h30 := hL.1.2
  have h33 := hL.2.1.2
  have hu : ∀ l, l < 30 → unL y x l := fun l hl f hf => (h _ (by omega)).symm
  exact ⟨hs.Tb hT, hs.Sk hS, LtOk.sm hs hL (fun l hl => LtL.un hs.t3 hT.1.2 (hu l (by omega)) (hL.2.2 l hl)), hs.2, hR _ _ (by omega) h5, hR _ _ (by omega) h6, LoOk.un (hv 2 (by omega)) (hv 3 (by omega)) hLo (fun q _ b => (h q (by omega)).symm) h33 (fun l hl _ => hu l (by omega)), StOk.tab hs.tab.sm hSt, NaOk.tab hs.tab.sm hT.1.2 hT.2.1.2 hN⟩
theorem OkN.mono {T T' : Nat} {x : Nat → Int32} (h : T ≤ T') (hx : OkN T x) : OkN T' x := by
  obtain ⟨hT, hS, hL, h4, h5, h6, hLo, hSt, hN⟩ := hx
  exact ⟨hT, hS, hL, h4, h5, ⟨h6.1, Nat.le_trans h6.2 h⟩, hLo, hSt, hN⟩
set_option maxHeartbeats 2000000 in
set_option maxRecDepth 20000 in
theorem t_X11_keeps {M : Mm} {a : Nat} {σ : Sg} (hL : LX11 M.1 M.2.1 a) (hR : RI (mI M) a σ) : Ct G base YX11_keeps 2 0 0 [.ref a] M (rI none M (fun i => RI i a (keepS σ) ∧ i a 0 = mI M a 0 ∧ outB i (mI M) a 14)) := by
  refine Ct.of IX11_keeps.1 (by simp [Value.category]) (Nat.le_of_ble_eq_true rfl) (fun X hX hN => ?_)
  show J G base X 0 0 M 0 [some (.ref a), none] []
  obtain ⟨g1, g2, ⟨g3, g3b⟩, g4, g5, g6, g7, g8, g9, g10⟩ := hR
  have main : ∀ (i : Nat → Nat → Int32) (d : Nat) (ps : Nat → Int32), d < 8 → i (a + 3) = ps → i a 4 = nI d → (∀ x, x ≠ a → x ≠ a + 3 → i x = mI M x) → (∀ k, k ≠ 4 → i a k = mI M a k) → keepS σ = (σ.1, cpP ps σ.1 d, d + 1, σ.2.2.2) → J G base X 0 0 (wI M i) 52 [some (.ref a), none] [] := by
    intro i d ps hd e1 e2 e3 e4 e5
    have hn1 : mI (wI M i) (a + 1) = σ.1 := (e3 _ (by omega) (by omega)).trans g1
    refine r_aload_n hX dX11_keeps_52 rfl ?_
    refine r_aload_n hX dX11_keeps_53 rfl ?_
    refine r_getr hX dX11_keeps_54 fl_X11_13 rfl (LX11_s hL) (LX11_r1 hL) ?_
    refine r_iconst (v := nI 0) hX dX11_keeps_57 (by decide) ?_
    refine r_aload_n hX dX11_keeps_58 rfl ?_
    refine r_getr hX dX11_keeps_59 fl_X11_20 rfl (LX11_s hL) (LX11_r3 hL) ?_
    refine r_sipush (v := nI 1158) hX dX11_keeps_62 (by decide) ?_
    refine r_aload_n hX dX11_keeps_65 rfl ?_
    refine rn_geti (v := nI d) hX dX11_keeps_66 fl_X11_60 rfl (LX11_s hL) e2 ?_
    refine rn_imul hX dX11_keeps_69 rfl rfl ?_
    refine r_iV4 hX dX11_keeps_70 IX11_copies ml_X11_63 rfl (LX11_s hL) rfl (t_X11_copies (M := wI M i) (x := 0) (y := 1158 * d) (LX11_a1 hL) (LX11_a3 hL) (by omega) (by omega) (by omega) (by omega) (by omega)) (by decide) (by decide) (by decide) (by decide) rfl (Nat.le_of_ble_eq_true rfl) (fun i2 h2 => ?_)
    show J G base X _ _ (wI M i2) _ _ _
    refine r_aload_n hX dX11_keeps_73 rfl ?_
    refine r_dup hX dX11_keeps_74 rfl ?_
    refine rn_geti (v := nI d) hX dX11_keeps_75 fl_X11_60 rfl (LX11_s hL) (by show i2 a 4 = _; rw [h2.2 _ (by omega)]; exact e2) ?_
    refine r_iconst (v := nI 1) hX dX11_keeps_78 (by decide) ?_
    refine rn_iadd hX dX11_keeps_79 rfl rfl ?_
    refine r_puti hX dX11_keeps_80 fl_X11_60 rfl rfl (LX11_s hL) ?_
    refine r_return hX rfl dX11_keeps_83 (by decide) (by decide) ?_
    have ea : ∀ k, mI (uI (wI M i2) a 4 (nI (d + 1))) a k = if k = 4 then nI (d + 1) else i2 a k := fun k => by simp [mI_uI, mI_wI]
    have eo : ∀ x, x ≠ a → mI (uI (wI M i2) a 4 (nI (d + 1))) x = i2 x := fun x hx => uIo hx
    have e2a : ∀ x, x ≠ a + 3 → i2 x = i x := h2.2
    refine ⟨rfl, mI (uI (wI M i2) a 4 (nI (d + 1))), rfl, ?_, ?_, fun x hx k => ?_⟩
    · rw [e5]
      refine ⟨?_, ?_, ⟨?_, by show d + 1 ≤ 8; omega⟩, fun k hk => ⟨(g4 k hk).1, ?_⟩, ⟨?_, g5.2⟩, ?_, ?_, ?_, fun k hk => ⟨(g9 k hk).1, ?_⟩, ?_, g10.2⟩
      · rw [eo _ (by omega), e2a _ (by omega)]; exact hn1
      · rw [eo _ (by omega)]
        funext q
        rw [h2.1 q, show mI (wI M i) (a + 1) = σ.1 from hn1, show mI (wI M i) (a + 3) = ps from e1]
        show _ = cpP ps σ.1 d q
        unfold cpP
        split
        · rw [Nat.zero_add]
        · rfl
      · rw [ea, if_pos rfl]
      · rw [eo _ (by omega), e2a _ (by omega), e3 _ (by omega) (by omega)]; exact (g4 k hk).2
      · rw [ea, if_neg (by omega), e2a _ (by omega), e4 _ (by omega)]; exact g5.1
      · rw [eo _ (by omega), e2a _ (by omega), e3 _ (by omega) (by omega)]; exact g6
      · rw [ea, if_neg (by omega), e2a _ (by omega), e4 _ (by omega)]; exact g7
      · rw [ea, if_neg (by omega), e2a _ (by omega), e4 _ (by omega)]; exact g8
      · rw [eo _ (by omega), e2a _ (by omega), e3 _ (by omega) (by omega)]; exact (g9 k hk).2
      · rw [ea, if_neg (by omega), e2a _ (by omega), e4 _ (by omega)]; exact g10.1
    · rw [ea, if_neg (by omega), e2a _ (by omega), e4 _ (by omega)]
    · rw [eo _ (by omega), e2a _ (by omega), e3 _ (by omega) (by omega)]
  refine r_aload_n hX dX11_keeps_0 rfl ?_
  refine rn_geti (v := nI σ.2.2.1) hX dX11_keeps_1 fl_X11_60 rfl (LX11_s hL) g3 ?_
  refine r_bipush (v := nI 8) hX dX11_keeps_4 (by decide) ?_
  refine rn_icmp_ne (tgt := 52) hX dX11_keeps_6 (by decide) rfl rfl (by omega) (by omega) (fun c6 => ?_) (fun c6 => ?_)
  · exact main (mI M) σ.2.2.1 σ.2.1 (by omega) g2 g3 (fun _ _ _ => rfl) (fun _ _ => rfl) (by unfold keepS; rw [if_neg (by omega), if_neg (by omega)])
  · refine r_sipush (v := nI 1158) hX dX11_keeps_9 (by decide) ?_
    refine r_istore1 hX dX11_keeps_12 rfl ?_
    show J G base X 0 0 (wI M (mI M)) 13 _ []
    refine loop_us (σ := Nat → Nat → Int32) (P := fun j i => ((∀ q, i (a + 3) q = if q < j then σ.2.1 (q + 1158) else σ.2.1 q) ∧ ∀ x, x ≠ a + 3 → i x = mI M x) → J G base X 0 0 (wI M i) 13 [some (.ref a), some (.int (nI (1158 + j)))] []) 8106 (fun j i hj ih hi => ?_) 0 (mI M) (Nat.zero_le _) ⟨fun q => by rw [if_neg (by omega)]; exact congrFun g2 q, fun _ _ => rfl⟩
    refine r_iload_n hX dX11_keeps_13 rfl ?_
    refine r_sipush (v := nI 9264) hX dX11_keeps_14 (by decide) ?_
    refine rn_icmp_ge (tgt := 42) hX dX11_keeps_17 (by decide) rfl rfl (by omega) (by omega) (fun c17 => ?_) (fun c17 => ?_)
    · obtain rfl : j = 8106 := by omega
      refine r_aload_n hX dX11_keeps_42 rfl ?_
      refine r_dup hX dX11_keeps_43 rfl ?_
      refine rn_geti (v := nI 8) hX dX11_keeps_44 fl_X11_60 rfl (LX11_s hL) (by show i a 4 = _; rw [hi.2 _ (by omega)]; rw [show mI M a 4 = nI σ.2.2.1 from g3]; congr 1) ?_
      refine r_iconst (v := nI 1) hX dX11_keeps_47 (by decide) ?_
      refine rn_isub hX dX11_keeps_48 rfl rfl (by omega) ?_
      refine r_puti hX dX11_keeps_49 fl_X11_60 rfl rfl (LX11_s hL) ?_
      refine J.junk (main (mI (uI (wI M i) a 4 (nI (8 - 1)))) 7 (shP σ.2.1) (by omega) ?_ ?_ (fun x hx hx2 => (uIo hx).trans (hi.2 x hx2)) (fun k hk => ?_) ?_) (by repeat first | exact trivial | refine ⟨rfl, ?_⟩)
      · rw [uIo (by omega)]
        funext q
        exact hi.1 q
      · simp [mI_uI]
      · simp only [mI_uI, if_true]
        rw [if_neg hk]
        exact congrFun (hi.2 a (by omega)) k
      · unfold keepS
        rw [if_pos (by omega), if_pos (by omega)]
    · refine r_aload_n hX dX11_keeps_20 rfl ?_
      refine r_getr hX dX11_keeps_21 fl_X11_20 rfl (LX11_s hL) (LX11_r3 hL) ?_
      refine r_iload_n hX dX11_keeps_24 rfl ?_
      refine r_sipush (v := nI 1158) hX dX11_keeps_25 (by decide) ?_
      refine rn_isub hX dX11_keeps_28 rfl rfl (by omega) ?_
      refine r_aload_n hX dX11_keeps_29 rfl ?_
      refine r_getr hX dX11_keeps_30 fl_X11_20 rfl (LX11_s hL) (LX11_r3 hL) ?_
      refine r_iload_n hX dX11_keeps_33 rfl ?_
      refine rn_iald hX dX11_keeps_34 (LX11_a3 hL) rfl (by omega) (by omega) ?_
      refine rn_iast hX dX11_keeps_35 (LX11_a3 hL) rfl (by omega) (by omega) ?_
      refine rn_iinc1 hX dX11_keeps_36 rfl rfl ?_
      refine r_goto (tgt := 13) hX dX11_keeps_39 (by decide) ?_
      refine ih (by omega) _ ⟨fun q => ?_, fun x hx => (uIo hx).trans (hi.2 x hx)⟩
      have ev : mI (wI M i) (a + 3) (1158 + j) = σ.2.1 (j + 1158) := by show i (a + 3) _ = _; rw [hi.1, if_neg (by omega), Nat.add_comm]
      show mI (uI (wI M i) (a + 3) (1158 + j - 1158) (mI (wI M i) (a + 3) (1158 + j))) (a + 3) q = _
      rw [ev, show 1158 + j - 1158 = j by omega]
      simp only [mI_uI, if_true]
      by_cases e : q = j
      · rw [if_pos e, if_pos (by omega), e]
      · rw [if_neg e]
        show i (a + 3) q = _
        rw [hi.1]
        by_cases e2 : q < j
        · rw [if_pos e2, if_pos (by omega)]
        · rw [if_neg e2, if_neg (by omega)]
def rs_setCapacity (σ : Sg) (x : Int32) : Int32 ⊕ Nat := if 1 ≤ x ∧ x ≤ 20 then .inl (σ.1 5) else .inr 1
def sg_setCapacity (σ : Sg) (x : Int32) : Sg := if 1 ≤ x ∧ x ≤ 20 then rowS (keepS σ) (upd σ.1 5 x) else σ
set_option maxHeartbeats 2000000 in
set_option maxRecDepth 20000 in
theorem t_X11_setCapacity {M : Mm} {a : Nat} {σ : Sg} {T : Nat} (hL : LX11 M.1 M.2.1 a) (hR : RI (mI M) a σ) (hO : OkN T σ.1) (hT9 : T < 890000) {x : Int32} : Ct G base YX11_setCapacity 4 0 0 [.ref a, .int x] M (rV M (pQ M a (rs_setCapacity σ x) (sg_setCapacity σ x))) := by
  obtain ⟨hT, hS, hLt, h4, h5, h6, hLo, hSt, hNa⟩ := hO
  have h0 := hT.1
  have h1 := hT.2.1
  have hr := hT.2.2
  have h2 := hLt.1
  have h3 := hLt.2.1
  have hb0 := h0.2
  have hb1 := h1.2
  have hb2 := h2.2
  have hb3 := h3.2
  have hb4 := h4.2
  have ht6 : σ.1 6 = nI (nv σ.1 6) := h6.1
  have hh6 : nv σ.1 6 ≤ T := h6.2
  by_cases hx : 1 ≤ x ∧ x ≤ 20
  · refine Ct.of IX11_setCapacity.1 (by simp [Value.category]) (Nat.le_of_ble_eq_true rfl) (fun X hX hN => ?_)
    show J G base X 0 0 M 0 [some (.ref a), some (.int x), none] []
    refine r_aload_n hX dX11_setCapacity_0 rfl ?_
    refine r_iconst (v := nI 0) hX dX11_setCapacity_1 (by decide) ?_
    refine r_puti hX dX11_setCapacity_2 fl_X11_3 rfl rfl (LX11_s hL) ?_
    refine J.gen (M0 := M) rfl (fun i0 h00 => ?_)
    obtain ⟨hR0, hn0, ht0, ho0⟩ := pub0 hR h00
    clear h00
    refine r_aload_n hX dX11_setCapacity_5 rfl ?_
    refine r_iload_n hX dX11_setCapacity_6 rfl ?_
    refine r_iconst (v := nI 1) hX dX11_setCapacity_7 (by decide) ?_
    refine r_bipush (v := nI 20) hX dX11_setCapacity_8 (by decide) ?_
    refine r_cS3 hX dX11_setCapacity_10 IX11_in ml_X11_79 rfl (t_X11_in (M := wI M i0) ) (by decide) (by decide) (by decide) (by decide) rfl (Nat.le_of_ble_eq_true rfl) ?_
    refine rb_if_ne (tgt := 20) hX dX11_setCapacity_13 (by decide) rfl (fun c13 => ?_) (fun c13 => absurd hx c13)
    refine r_iconst (v := nI 0) hX dX11_setCapacity_20 (by decide) ?_
    refine r_iconst (v := nI 1) hX dX11_setCapacity_21 (by decide) ?_
    refine r_cV2 hX dX11_setCapacity_22 IX11_throwsIf ml_X11_215 rfl (LX11_s hL) rfl (t_X11_throwsIf0 (M := wI M i0) hL) (by decide) (by decide) (by decide) (by decide) rfl (Nat.le_of_ble_eq_true rfl) ?_
    refine r_if_eq (tgt := 30) hX dX11_setCapacity_25 (by decide) (fun c25 => ?_) (fun c25 => absurd c25 (by decide))
    refine r_aload_n hX dX11_setCapacity_30 rfl ?_
    refine r_iV0 hX dX11_setCapacity_31 IX11_keeps ml_X11_316 rfl (LX11_s hL) rfl (t_X11_keeps (M := wI M i0) hL hR0) (by decide) (by decide) (by decide) (by decide) rfl (Nat.le_of_ble_eq_true rfl) (fun i2 k2 => ?_)
    obtain ⟨hR2, k2t, k2o⟩ := k2
    have ht2 : i2 a 0 = 0 := k2t.trans ht0
    have ho2 : outB i2 (mI M) a 14 := fun x hx k => (k2o x hx k).trans (ho0 x hx k)
    have hn2 : mI (wI M i2) (a + 1) = σ.1 := hR2.1
    show J G base X _ _ (wI M i2) _ _ _
    refine r_aload_n hX dX11_setCapacity_34 rfl ?_
    refine r_getr hX dX11_setCapacity_35 fl_X11_13 rfl (LX11_s hL) (LX11_r1 hL) ?_
    refine r_iconst (v := nI 5) hX dX11_setCapacity_38 (by decide) ?_
    refine rn_iald hX dX11_setCapacity_39 (LX11_a1 hL) rfl (by omega) (by omega) ?_
    rw [hn2]
    refine r_istore2 hX dX11_setCapacity_40 rfl ?_
    refine r_aload_n hX dX11_setCapacity_41 rfl ?_
    refine r_getr hX dX11_setCapacity_42 fl_X11_13 rfl (LX11_s hL) (LX11_r1 hL) ?_
    refine r_iconst (v := nI 5) hX dX11_setCapacity_45 (by decide) ?_
    refine r_iload_n hX dX11_setCapacity_46 rfl ?_
    refine rn_iast hX dX11_setCapacity_47 (LX11_a1 hL) rfl (by omega) (by omega) ?_
    refine r_iload_n hX dX11_setCapacity_48 rfl ?_
    refine r_ireturn hX rfl rfl dX11_setCapacity_49 (by decide) (by decide) ?_
    obtain ⟨r1, r2, r3, r4⟩ := pubR (j := mI (uI (wI M i2) (a + 1) 5 x)) hR2 ho2 ht2 (uIA hn2) (fun y hy _ => uIo hy)
    refine ⟨_, _, rfl, rfl, ?_, ?_, r4⟩
    · unfold sg_setCapacity
      rw [if_pos hx]
      exact r1
    · unfold rs_setCapacity
      rw [if_pos hx]
      exact ⟨rfl, r3⟩
  · refine Ct.of IX11_setCapacity.1 (by simp [Value.category]) (Nat.le_of_ble_eq_true rfl) (fun X hX hN => ?_)
    show J G base X 0 0 M 0 [some (.ref a), some (.int x), none] []
    refine r_aload_n hX dX11_setCapacity_0 rfl ?_
    refine r_iconst (v := nI 0) hX dX11_setCapacity_1 (by decide) ?_
    refine r_puti hX dX11_setCapacity_2 fl_X11_3 rfl rfl (LX11_s hL) ?_
    refine J.gen (M0 := M) rfl (fun i0 h00 => ?_)
    obtain ⟨hR0, hn0, ht0, ho0⟩ := pub0 hR h00
    clear h00
    refine r_aload_n hX dX11_setCapacity_5 rfl ?_
    refine r_iload_n hX dX11_setCapacity_6 rfl ?_
    refine r_iconst (v := nI 1) hX dX11_setCapacity_7 (by decide) ?_
    refine r_bipush (v := nI 20) hX dX11_setCapacity_8 (by decide) ?_
    refine r_cS3 hX dX11_setCapacity_10 IX11_in ml_X11_79 rfl (t_X11_in (M := wI M i0) ) (by decide) (by decide) (by decide) (by decide) rfl (Nat.le_of_ble_eq_true rfl) ?_
    refine rb_if_ne (tgt := 20) hX dX11_setCapacity_13 (by decide) rfl (fun c13 => absurd c13 hx) (fun c13 => ?_)
    refine r_iconst (v := nI 1) hX dX11_setCapacity_16 (by decide) ?_
    refine r_goto (tgt := 21) hX dX11_setCapacity_17 (by decide) ?_
    refine r_iconst (v := nI 1) hX dX11_setCapacity_21 (by decide) ?_
    refine r_cV2 hX dX11_setCapacity_22 IX11_throwsIf ml_X11_215 rfl (LX11_s hL) rfl (t_X11_throwsIf1 (M := wI M i0) hL) (by decide) (by decide) (by decide) (by decide) rfl (Nat.le_of_ble_eq_true rfl) ?_
    refine r_if_eq (tgt := 30) hX dX11_setCapacity_25 (by decide) (fun c25 => absurd c25 (by decide)) (fun c25 => ?_)
    refine r_iconst (v := 0) hX dX11_setCapacity_28 (by decide) ?_
    refine r_ireturn hX rfl rfl dX11_setCapacity_29 (by decide) (by decide) ?_
    obtain ⟨q1, q2, q3⟩ := pub1 hR0 ho0 1
    refine ⟨_, mI (uI (wI M i0) a 0 1), rfl, rfl, ?_, ?_, q3⟩
    · unfold sg_setCapacity
      rw [if_neg hx]
      exact q1
    · unfold rs_setCapacity
      rw [if_neg hx]
      exact q2

def rs_strike (σ : Sg) (x y : Int32) : Int32 ⊕ Nat := match ix (nv σ.1 1) x with
  | none => .inr 1
  | some c => .inl (if σ.1 (38 + c) = 1 then 1 else 0)
def sg_strike (σ : Sg) (x y : Int32) : Sg := match ix (nv σ.1 1) x with
  | none => σ
  | some c => rowS (keepS σ) (upd σ.1 (38 + c) (if y = 0 then 0 else 1))
set_option maxHeartbeats 2000000 in
set_option maxRecDepth 20000 in
theorem t_X11_strike {M : Mm} {a : Nat} {σ : Sg} {T : Nat} (hL : LX11 M.1 M.2.1 a) (hR : RI (mI M) a σ) (hO : OkN T σ.1) (hT9 : T < 890000) {x y : Int32} : Ct G base YX11_strike 4 0 0 [.ref a, .int x, .int y] M (rV M (pQ M a (rs_strike σ x y) (sg_strike σ x y))) := by
  obtain ⟨hT, hS, hLt, h4, h5, h6, hLo, hSt, hNa⟩ := hO
  have h0 := hT.1
  have h1 := hT.2.1
  have hr := hT.2.2
  have h2 := hLt.1
  have h3 := hLt.2.1
  have hb0 := h0.2
  have hb1 := h1.2
  have hb2 := h2.2
  have hb3 := h3.2
  have hb4 := h4.2
  have ht6 : σ.1 6 = nI (nv σ.1 6) := h6.1
  have hh6 : nv σ.1 6 ≤ T := h6.2
  by_cases hx : ∃ c, c < nv σ.1 1 ∧ x = nI c
  · obtain ⟨c, hc, rfl⟩ := hx
    refine Ct.of IX11_strike.1 (by simp [Value.category]) (Nat.le_of_ble_eq_true rfl) (fun X hX hN => ?_)
    show J G base X 0 0 M 0 [some (.ref a), some (.int (nI c)), some (.int y), none] []
    refine r_aload_n hX dX11_strike_0 rfl ?_
    refine r_iconst (v := nI 0) hX dX11_strike_1 (by decide) ?_
    refine r_puti hX dX11_strike_2 fl_X11_3 rfl rfl (LX11_s hL) ?_
    refine J.gen (M0 := M) rfl (fun i0 h00 => ?_)
    obtain ⟨hR0, hn0, ht0, ho0⟩ := pub0 hR h00
    clear h00
    refine r_aload_n hX dX11_strike_5 rfl ?_
    refine r_iload_n hX dX11_strike_6 rfl ?_
    refine r_cV1 hX dX11_strike_7 IX11_noCarrier ml_X11_286 rfl (LX11_s hL) rfl (t_X11_noCarrier1 (M := wI M i0) hL hn0 h1 ⟨c, hc, rfl⟩) (by decide) (by decide) (by decide) (by decide) rfl (Nat.le_of_ble_eq_true rfl) ?_
    refine r_if_eq (tgt := 15) hX dX11_strike_10 (by decide) (fun c10 => ?_) (fun c10 => absurd c10 (by decide))
    refine r_aload_n hX dX11_strike_15 rfl ?_
    refine r_iV0 hX dX11_strike_16 IX11_keeps ml_X11_316 rfl (LX11_s hL) rfl (t_X11_keeps (M := wI M i0) hL hR0) (by decide) (by decide) (by decide) (by decide) rfl (Nat.le_of_ble_eq_true rfl) (fun i2 k2 => ?_)
    obtain ⟨hR2, k2t, k2o⟩ := k2
    have ht2 : i2 a 0 = 0 := k2t.trans ht0
    have ho2 : outB i2 (mI M) a 14 := fun x hx k => (k2o x hx k).trans (ho0 x hx k)
    have hn2 : mI (wI M i2) (a + 1) = σ.1 := hR2.1
    show J G base X _ _ (wI M i2) _ _ _
    refine r_aload_n hX dX11_strike_19 rfl ?_
    refine r_getr hX dX11_strike_20 fl_X11_13 rfl (LX11_s hL) (LX11_r1 hL) ?_
    refine r_bipush (v := nI 38) hX dX11_strike_23 (by decide) ?_
    refine r_iload_n hX dX11_strike_25 rfl ?_
    refine rn_iadd hX dX11_strike_26 rfl rfl ?_
    refine rn_iald hX dX11_strike_27 (LX11_a1 hL) rfl (by omega) (by omega) ?_
    rw [hn2]
    refine r_iconst (v := 1) hX dX11_strike_28 (by decide) ?_
    refine r_icmp_ne (tgt := 36) hX dX11_strike_29 (by decide) (fun c29 => ?_) (fun c29 => ?_)
    · refine r_iconst (v := nI 0) hX dX11_strike_36 (by decide) ?_
      refine r_istore3 hX dX11_strike_37 rfl ?_
      refine r_aload_n hX dX11_strike_38 rfl ?_
      refine r_getr hX dX11_strike_39 fl_X11_13 rfl (LX11_s hL) (LX11_r1 hL) ?_
      refine r_bipush (v := nI 38) hX dX11_strike_42 (by decide) ?_
      refine r_iload_n hX dX11_strike_44 rfl ?_
      refine rn_iadd hX dX11_strike_45 rfl rfl ?_
      refine r_iload_n hX dX11_strike_46 rfl ?_
      refine r_if_eq (tgt := 54) hX dX11_strike_47 (by decide) (fun c47 => ?_) (fun c47 => ?_)
      · refine r_iconst (v := nI 0) hX dX11_strike_54 (by decide) ?_
        refine rn_iast hX dX11_strike_55 (LX11_a1 hL) rfl (by omega) (by omega) ?_
        refine r_iload_n hX dX11_strike_56 rfl ?_
        refine r_ireturn hX rfl rfl dX11_strike_57 (by decide) (by decide) ?_
        first
          | (obtain ⟨r1, r2, r3, r4⟩ := pubR (j := mI (uI (wI M i2) (a + 1) (38 + c) 0)) hR2 ho2 ht2 (uIA hn2) (fun y hy _ => uIo hy)
             refine ⟨_, _, rfl, rfl, ?_, ?_, r4⟩
             · unfold sg_strike
               rw [ix_of hc (by omega)]
               dsimp only
               rw [if_pos c47]
               exact r1
             · unfold rs_strike
               rw [ix_of hc (by omega)]
               dsimp only
               exact ⟨by first | exact (if_pos c29).symm | exact (if_neg c29).symm, r3⟩)
          | (obtain ⟨r1, r2, r3, r4⟩ := pubR (j := mI (uI (wI M i2) (a + 1) (38 + c) 1)) hR2 ho2 ht2 (uIA hn2) (fun y hy _ => uIo hy)
             refine ⟨_, _, rfl, rfl, ?_, ?_, r4⟩
             · unfold sg_strike
               rw [ix_of hc (by omega)]
               dsimp only
               rw [if_neg c47]
               exact r1
             · unfold rs_strike
               rw [ix_of hc (by omega)]
               dsimp only
               exact ⟨by first | exact (if_pos c29).symm | exact (if_neg c29).symm, r3⟩)
      · refine r_iconst (v := nI 1) hX dX11_strike_50 (by decide) ?_
        refine r_goto (tgt := 55) hX dX11_strike_51 (by decide) ?_
        refine rn_iast hX dX11_strike_55 (LX11_a1 hL) rfl (by omega) (by omega) ?_
        refine r_iload_n hX dX11_strike_56 rfl ?_
        refine r_ireturn hX rfl rfl dX11_strike_57 (by decide) (by decide) ?_
        first
          | (obtain ⟨r1, r2, r3, r4⟩ := pubR (j := mI (uI (wI M i2) (a + 1) (38 + c) 0)) hR2 ho2 ht2 (uIA hn2) (fun y hy _ => uIo hy)
             refine ⟨_, _, rfl, rfl, ?_, ?_, r4⟩
             · unfold sg_strike
               rw [ix_of hc (by omega)]
               dsimp only
               rw [if_pos c47]
               exact r1
             · unfold rs_strike
               rw [ix_of hc (by omega)]
               dsimp only
               exact ⟨by first | exact (if_pos c29).symm | exact (if_neg c29).symm, r3⟩)
          | (obtain ⟨r1, r2, r3, r4⟩ := pubR (j := mI (uI (wI M i2) (a + 1) (38 + c) 1)) hR2 ho2 ht2 (uIA hn2) (fun y hy _ => uIo hy)
             refine ⟨_, _, rfl, rfl, ?_, ?_, r4⟩
             · unfold sg_strike
               rw [ix_of hc (by omega)]
               dsimp only
               rw [if_neg c47]
               exact r1
             · unfold rs_strike
               rw [ix_of hc (by omega)]
               dsimp only
               exact ⟨by first | exact (if_pos c29).symm | exact (if_neg c29).symm, r3⟩)
    · refine r_iconst (v := nI 1) hX dX11_strike_32 (by decide) ?_
      refine r_goto (tgt := 37) hX dX11_strike_33 (by decide) ?_
      refine r_istore3 hX dX11_strike_37 rfl ?_
      refine r_aload_n hX dX11_strike_38 rfl ?_
      refine r_getr hX dX11_strike_39 fl_X11_13 rfl (LX11_s hL) (LX11_r1 hL) ?_
      refine r_bipush (v := nI 38) hX dX11_strike_42 (by decide) ?_
      refine r_iload_n hX dX11_strike_44 rfl ?_
      refine rn_iadd hX dX11_strike_45 rfl rfl ?_
      refine r_iload_n hX dX11_strike_46 rfl ?_
      refine r_if_eq (tgt := 54) hX dX11_strike_47 (by decide) (fun c47 => ?_) (fun c47 => ?_)
      · refine r_iconst (v := nI 0) hX dX11_strike_54 (by decide) ?_
        refine rn_iast hX dX11_strike_55 (LX11_a1 hL) rfl (by omega) (by omega) ?_
        refine r_iload_n hX dX11_strike_56 rfl ?_
        refine r_ireturn hX rfl rfl dX11_strike_57 (by decide) (by decide) ?_
        first
          | (obtain ⟨r1, r2, r3, r4⟩ := pubR (j := mI (uI (wI M i2) (a + 1) (38 + c) 0)) hR2 ho2 ht2 (uIA hn2) (fun y hy _ => uIo hy)
             refine ⟨_, _, rfl, rfl, ?_, ?_, r4⟩
             · unfold sg_strike
               rw [ix_of hc (by omega)]
               dsimp only
               rw [if_pos c47]
               exact r1
             · unfold rs_strike
               rw [ix_of hc (by omega)]
               dsimp only
               exact ⟨by first | exact (if_pos c29).symm | exact (if_neg c29).symm, r3⟩)
          | (obtain ⟨r1, r2, r3, r4⟩ := pubR (j := mI (uI (wI M i2) (a + 1) (38 + c) 1)) hR2 ho2 ht2 (uIA hn2) (fun y hy _ => uIo hy)
             refine ⟨_, _, rfl, rfl, ?_, ?_, r4⟩
             · unfold sg_strike
               rw [ix_of hc (by omega)]
               dsimp only
               rw [if_neg c47]
               exact r1
             · unfold rs_strike
               rw [ix_of hc (by omega)]
               dsimp only
               exact ⟨by first | exact (if_pos c29).symm | exact (if_neg c29).symm, r3⟩)
      · refine r_iconst (v := nI 1) hX dX11_strike_50 (by decide) ?_
        refine r_goto (tgt := 55) hX dX11_strike_51 (by decide) ?_
        refine rn_iast hX dX11_strike_55 (LX11_a1 hL) rfl (by omega) (by omega) ?_
        refine r_iload_n hX dX11_strike_56 rfl ?_
        refine r_ireturn hX rfl rfl dX11_strike_57 (by decide) (by decide) ?_
        first
          | (obtain ⟨r1, r2, r3, r4⟩ := pubR (j := mI (uI (wI M i2) (a + 1) (38 + c) 0)) hR2 ho2 ht2 (uIA hn2) (fun y hy _ => uIo hy)
             refine ⟨_, _, rfl, rfl, ?_, ?_, r4⟩
             · unfold sg_strike
               rw [ix_of hc (by omega)]
               dsimp only
               rw [if_pos c47]
               exact r1
             · unfold rs_strike
               rw [ix_of hc (by omega)]
               dsimp only
               exact ⟨by first | exact (if_pos c29).symm | exact (if_neg c29).symm, r3⟩)
          | (obtain ⟨r1, r2, r3, r4⟩ := pubR (j := mI (uI (wI M i2) (a + 1) (38 + c) 1)) hR2 ho2 ht2 (uIA hn2) (fun y hy _ => uIo hy)
             refine ⟨_, _, rfl, rfl, ?_, ?_, r4⟩
             · unfold sg_strike
               rw [ix_of hc (by omega)]
               dsimp only
               rw [if_neg c47]
               exact r1
             · unfold rs_strike
               rw [ix_of hc (by omega)]
               dsimp only
               exact ⟨by first | exact (if_pos c29).symm | exact (if_neg c29).symm, r3⟩)
  · refine Ct.of IX11_strike.1 (by simp [Value.category]) (Nat.le_of_ble_eq_true rfl) (fun X hX hN => ?_)
    show J G base X 0 0 M 0 [some (.ref a), some (.int x), some (.int y), none] []
    refine r_aload_n hX dX11_strike_0 rfl ?_
    refine r_iconst (v := nI 0) hX dX11_strike_1 (by decide) ?_
    refine r_puti hX dX11_strike_2 fl_X11_3 rfl rfl (LX11_s hL) ?_
    refine J.gen (M0 := M) rfl (fun i0 h00 => ?_)
    obtain ⟨hR0, hn0, ht0, ho0⟩ := pub0 hR h00
    clear h00
    refine r_aload_n hX dX11_strike_5 rfl ?_
    refine r_iload_n hX dX11_strike_6 rfl ?_
    refine r_cV1 hX dX11_strike_7 IX11_noCarrier ml_X11_286 rfl (LX11_s hL) rfl (t_X11_noCarrier0 (M := wI M i0) hL hn0 h1 hx) (by decide) (by decide) (by decide) (by decide) rfl (Nat.le_of_ble_eq_true rfl) ?_
    refine r_if_eq (tgt := 15) hX dX11_strike_10 (by decide) (fun c10 => absurd c10 (by decide)) (fun c10 => ?_)
    refine r_iconst (v := 0) hX dX11_strike_13 (by decide) ?_
    refine r_ireturn hX rfl rfl dX11_strike_14 (by decide) (by decide) ?_
    obtain ⟨q1, q2, q3⟩ := pub1 hR0 ho0 1
    refine ⟨_, mI (uI (wI M i0) a 0 1), rfl, rfl, ?_, ?_, q3⟩
    · unfold sg_strike
      rw [ix_no hx]
      exact q1
    · unfold rs_strike
      rw [ix_no hx]
      exact q2

def rs_claim (σ : Sg) (x : Int32) : Int32 ⊕ Nat := match ix (nv σ.1 2) x with
  | none => .inr 1
  | some l => if σ.1 (498 + 10 * l + 3) = 3 ∧ ¬ σ.1 (498 + 10 * l + 2) = 0 ∧ σ.1 (498 + 10 * l + 8) = 0 ∧ 72 ≤ σ.1 6 - σ.1 (798 + 2 * nv σ.1 (498 + 10 * l + 4) + 1) then .inl (σ.1 (498 + 10 * l + 2)) else .inr 2
def sg_claim (σ : Sg) (x : Int32) : Sg := match ix (nv σ.1 2) x with
  | none => σ
  | some l => if σ.1 (498 + 10 * l + 3) = 3 ∧ ¬ σ.1 (498 + 10 * l + 2) = 0 ∧ σ.1 (498 + 10 * l + 8) = 0 ∧ 72 ≤ σ.1 6 - σ.1 (798 + 2 * nv σ.1 (498 + 10 * l + 4) + 1) then rowS (keepS σ) (upd σ.1 (498 + 10 * l + 8) 1) else σ
set_option maxHeartbeats 2000000 in
set_option maxRecDepth 20000 in
theorem t_X11_claim {M : Mm} {a : Nat} {σ : Sg} {T : Nat} (hL : LX11 M.1 M.2.1 a) (hR : RI (mI M) a σ) (hO : OkN T σ.1) (hT9 : T < 890000) {x : Int32} : Ct G base YX11_claim 4 0 0 [.ref a, .int x] M (rV M (pQ M a (rs_claim σ x) (sg_claim σ x))) := by
  obtain ⟨hT, hS, hLt, h4, h5, h6, hLo, hSt, hNa⟩ := hO
  have h0 := hT.1
  have h1 := hT.2.1
  have hr := hT.2.2
  have h2 := hLt.1
  have h3 := hLt.2.1
  have hb0 := h0.2
  have hb1 := h1.2
  have hb2 := h2.2
  have hb3 := h3.2
  have hb4 := h4.2
  have ht6 : σ.1 6 = nI (nv σ.1 6) := h6.1
  have hh6 : nv σ.1 6 ≤ T := h6.2
  by_cases hx : ∃ c, c < nv σ.1 2 ∧ x = nI c
  · obtain ⟨l, hl, rfl⟩ := hx
    refine Ct.of IX11_claim.1 (by simp [Value.category]) (Nat.le_of_ble_eq_true rfl) (fun X hX hN => ?_)
    show J G base X 0 0 M 0 [some (.ref a), some (.int (nI l)), none] []
    refine r_aload_n hX dX11_claim_0 rfl ?_
    refine r_iconst (v := nI 0) hX dX11_claim_1 (by decide) ?_
    refine r_puti hX dX11_claim_2 fl_X11_3 rfl rfl (LX11_s hL) ?_
    refine J.gen (M0 := M) rfl (fun i0 h00 => ?_)
    obtain ⟨hR0, hn0, ht0, ho0⟩ := pub0 hR h00
    clear h00
    refine r_aload_n hX dX11_claim_5 rfl ?_
    refine r_iload_n hX dX11_claim_6 rfl ?_
    refine r_cV1 hX dX11_claim_7 IX11_noLetter ml_X11_298 rfl (LX11_s hL) rfl (t_X11_noLetter1 (M := wI M i0) hL hn0 h2 ⟨l, hl, rfl⟩) (by decide) (by decide) (by decide) (by decide) rfl (Nat.le_of_ble_eq_true rfl) ?_
    refine r_if_eq (tgt := 15) hX dX11_claim_10 (by decide) (fun c10 => ?_) (fun c10 => absurd c10 (by decide))
    refine r_aload_n hX dX11_claim_15 rfl ?_
    refine r_iload_n hX dX11_claim_16 rfl ?_
    refine r_iconst (v := nI 3) hX dX11_claim_17 (by decide) ?_
    refine r_cV2 hX dX11_claim_18 IX11_of ml_X11_67 rfl (LX11_s hL) rfl (t_X11_of (M := wI M i0) hL hn0 (by omega) (by decide)) (by decide) (by decide) (by decide) (by decide) rfl (Nat.le_of_ble_eq_true rfl) ?_
    refine r_iconst (v := 3) hX dX11_claim_21 (by decide) ?_
    refine r_icmp_ne (tgt := 48) hX dX11_claim_22 (by decide) (fun c22 => ?_) (fun c22 => ?_)
    · refine r_iconst (v := nI 0) hX dX11_claim_48 (by decide) ?_
      refine r_istore2 hX dX11_claim_49 rfl ?_
      refine r_aload_n hX dX11_claim_50 rfl ?_
      refine r_iload_n hX dX11_claim_51 rfl ?_
      refine r_if_eq (tgt := 87) hX dX11_claim_52 (by decide) (fun c52 => ?_) (fun c52 => absurd rfl c52)
      refine r_iconst (v := nI 1) hX dX11_claim_87 (by decide) ?_
      refine r_goto (tgt := 92) hX dX11_claim_88 (by decide) ?_
      refine r_iconst (v := nI 2) hX dX11_claim_92 (by decide) ?_
      refine r_cV2 hX dX11_claim_93 IX11_throwsIf ml_X11_215 rfl (LX11_s hL) rfl (t_X11_throwsIf1 (M := wI M i0) hL) (by decide) (by decide) (by decide) (by decide) rfl (Nat.le_of_ble_eq_true rfl) ?_
      refine r_if_eq (tgt := 101) hX dX11_claim_96 (by decide) (fun c96 => absurd c96 (by decide)) (fun c96 => ?_)
      refine r_iconst (v := 0) hX dX11_claim_99 (by decide) ?_
      refine r_ireturn hX rfl rfl dX11_claim_100 (by decide) (by decide) ?_
      obtain ⟨q1, q2, q3⟩ := pub1 hR0 ho0 2
      have hno : ¬ (σ.1 (498 + 10 * l + 3) = 3 ∧ ¬ σ.1 (498 + 10 * l + 2) = 0 ∧ σ.1 (498 + 10 * l + 8) = 0 ∧ 72 ≤ σ.1 6 - σ.1 (798 + 2 * nv σ.1 (498 + 10 * l + 4) + 1)) := fun z => c22 z.1
      refine ⟨_, mI (uI (wI M i0) a 0 2), rfl, rfl, ?_, ?_, q3⟩
      · unfold sg_claim
        rw [ix_of hl (by omega)]
        dsimp only
        rw [if_neg hno]
        exact q1
      · unfold rs_claim
        rw [ix_of hl (by omega)]
        dsimp only
        rw [if_neg hno]
        exact q2
    · refine r_aload_n hX dX11_claim_25 rfl ?_
      refine r_iload_n hX dX11_claim_26 rfl ?_
      refine r_iconst (v := nI 2) hX dX11_claim_27 (by decide) ?_
      refine r_cV2 hX dX11_claim_28 IX11_of ml_X11_67 rfl (LX11_s hL) rfl (t_X11_of (M := wI M i0) hL hn0 (by omega) (by decide)) (by decide) (by decide) (by decide) (by decide) rfl (Nat.le_of_ble_eq_true rfl) ?_
      refine r_if_eq (tgt := 48) hX dX11_claim_31 (by decide) (fun c31 => ?_) (fun c31 => ?_)
      · refine r_iconst (v := nI 0) hX dX11_claim_48 (by decide) ?_
        refine r_istore2 hX dX11_claim_49 rfl ?_
        refine r_aload_n hX dX11_claim_50 rfl ?_
        refine r_iload_n hX dX11_claim_51 rfl ?_
        refine r_if_eq (tgt := 87) hX dX11_claim_52 (by decide) (fun c52 => ?_) (fun c52 => absurd rfl c52)
        refine r_iconst (v := nI 1) hX dX11_claim_87 (by decide) ?_
        refine r_goto (tgt := 92) hX dX11_claim_88 (by decide) ?_
        refine r_iconst (v := nI 2) hX dX11_claim_92 (by decide) ?_
        refine r_cV2 hX dX11_claim_93 IX11_throwsIf ml_X11_215 rfl (LX11_s hL) rfl (t_X11_throwsIf1 (M := wI M i0) hL) (by decide) (by decide) (by decide) (by decide) rfl (Nat.le_of_ble_eq_true rfl) ?_
        refine r_if_eq (tgt := 101) hX dX11_claim_96 (by decide) (fun c96 => absurd c96 (by decide)) (fun c96 => ?_)
        refine r_iconst (v := 0) hX dX11_claim_99 (by decide) ?_
        refine r_ireturn hX rfl rfl dX11_claim_100 (by decide) (by decide) ?_
        obtain ⟨q1, q2, q3⟩ := pub1 hR0 ho0 2
        have hno : ¬ (σ.1 (498 + 10 * l + 3) = 3 ∧ ¬ σ.1 (498 + 10 * l + 2) = 0 ∧ σ.1 (498 + 10 * l + 8) = 0 ∧ 72 ≤ σ.1 6 - σ.1 (798 + 2 * nv σ.1 (498 + 10 * l + 4) + 1)) := fun z => z.2.1 c31
        refine ⟨_, mI (uI (wI M i0) a 0 2), rfl, rfl, ?_, ?_, q3⟩
        · unfold sg_claim
          rw [ix_of hl (by omega)]
          dsimp only
          rw [if_neg hno]
          exact q1
        · unfold rs_claim
          rw [ix_of hl (by omega)]
          dsimp only
          rw [if_neg hno]
          exact q2
      · refine r_aload_n hX dX11_claim_34 rfl ?_
        refine r_iload_n hX dX11_claim_35 rfl ?_
        refine r_bipush (v := nI 8) hX dX11_claim_36 (by decide) ?_
        refine r_cV2 hX dX11_claim_38 IX11_of ml_X11_67 rfl (LX11_s hL) rfl (t_X11_of (M := wI M i0) hL hn0 (by omega) (by decide)) (by decide) (by decide) (by decide) (by decide) rfl (Nat.le_of_ble_eq_true rfl) ?_
        refine r_if_ne (tgt := 48) hX dX11_claim_41 (by decide) (fun c41 => ?_) (fun c41 => ?_)
        · refine r_iconst (v := nI 0) hX dX11_claim_48 (by decide) ?_
          refine r_istore2 hX dX11_claim_49 rfl ?_
          refine r_aload_n hX dX11_claim_50 rfl ?_
          refine r_iload_n hX dX11_claim_51 rfl ?_
          refine r_if_eq (tgt := 87) hX dX11_claim_52 (by decide) (fun c52 => ?_) (fun c52 => absurd rfl c52)
          refine r_iconst (v := nI 1) hX dX11_claim_87 (by decide) ?_
          refine r_goto (tgt := 92) hX dX11_claim_88 (by decide) ?_
          refine r_iconst (v := nI 2) hX dX11_claim_92 (by decide) ?_
          refine r_cV2 hX dX11_claim_93 IX11_throwsIf ml_X11_215 rfl (LX11_s hL) rfl (t_X11_throwsIf1 (M := wI M i0) hL) (by decide) (by decide) (by decide) (by decide) rfl (Nat.le_of_ble_eq_true rfl) ?_
          refine r_if_eq (tgt := 101) hX dX11_claim_96 (by decide) (fun c96 => absurd c96 (by decide)) (fun c96 => ?_)
          refine r_iconst (v := 0) hX dX11_claim_99 (by decide) ?_
          refine r_ireturn hX rfl rfl dX11_claim_100 (by decide) (by decide) ?_
          obtain ⟨q1, q2, q3⟩ := pub1 hR0 ho0 2
          have hno : ¬ (σ.1 (498 + 10 * l + 3) = 3 ∧ ¬ σ.1 (498 + 10 * l + 2) = 0 ∧ σ.1 (498 + 10 * l + 8) = 0 ∧ 72 ≤ σ.1 6 - σ.1 (798 + 2 * nv σ.1 (498 + 10 * l + 4) + 1)) := fun z => c41 z.2.2.1
          refine ⟨_, mI (uI (wI M i0) a 0 2), rfl, rfl, ?_, ?_, q3⟩
          · unfold sg_claim
            rw [ix_of hl (by omega)]
            dsimp only
            rw [if_neg hno]
            exact q1
          · unfold rs_claim
            rw [ix_of hl (by omega)]
            dsimp only
            rw [if_neg hno]
            exact q2
        · refine r_iconst (v := nI 1) hX dX11_claim_44 (by decide) ?_
          refine r_goto (tgt := 49) hX dX11_claim_45 (by decide) ?_
          refine r_istore2 hX dX11_claim_49 rfl ?_
          refine r_aload_n hX dX11_claim_50 rfl ?_
          refine r_iload_n hX dX11_claim_51 rfl ?_
          refine r_if_eq (tgt := 87) hX dX11_claim_52 (by decide) (fun c52 => absurd c52 (by decide)) (fun c52 => ?_)
          have e4 : σ.1 (498 + 10 * l + 4) = nI (nv σ.1 (498 + 10 * l + 4)) ∧ nv σ.1 (498 + 10 * l + 4) < 30 := by
            obtain ⟨f, t, v, s, w, -, -, -, k3, k4, -, -, -, -, k5, -, -, -, k9, -⟩ := hLt.2.2 l hl
            have e3 : σ.1 (498 + 10 * l + 3) = 3 := c22
            have hs : s = 3 := by
              rw [k3] at e3
              exact (nI_eq (a := s) (b := 3) (by omega) (by omega)).mp e3
            have hw := k9 hs
            rw [nv_of k4 (by omega)]
            exact ⟨k4, by omega⟩
          refine r_aload_n hX dX11_claim_55 rfl ?_
          refine r_getr hX dX11_claim_56 fl_X11_13 rfl (LX11_s hL) (LX11_r1 hL) ?_
          refine r_bipush (v := nI 6) hX dX11_claim_59 (by decide) ?_
          refine rn_iald hX dX11_claim_61 (LX11_a1 hL) rfl (by omega) (by omega) ?_
          rw [hn0]
          refine r_aload_n hX dX11_claim_62 rfl ?_
          refine r_getr hX dX11_claim_63 fl_X11_13 rfl (LX11_s hL) (LX11_r1 hL) ?_
          refine r_sipush (v := nI 798) hX dX11_claim_66 (by decide) ?_
          refine r_iconst (v := nI 2) hX dX11_claim_69 (by decide) ?_
          refine r_aload_n hX dX11_claim_70 rfl ?_
          refine r_iload_n hX dX11_claim_71 rfl ?_
          refine r_iconst (v := nI 4) hX dX11_claim_72 (by decide) ?_
          refine r_cV2 hX dX11_claim_73 IX11_of ml_X11_67 rfl (LX11_s hL) rfl (t_X11_of (M := wI M i0) hL hn0 (by omega) (by decide)) (by decide) (by decide) (by decide) (by decide) rfl (Nat.le_of_ble_eq_true rfl) ?_
          rw [e4.1]
          refine rn_imul hX dX11_claim_76 rfl rfl ?_
          refine rn_iadd hX dX11_claim_77 rfl rfl ?_
          refine r_iconst (v := nI 1) hX dX11_claim_78 (by decide) ?_
          refine rn_iadd hX dX11_claim_79 rfl rfl ?_
          refine rn_iald hX dX11_claim_80 (LX11_a1 hL) rfl (by omega) (by omega) ?_
          rw [hn0]
          refine r_isub hX dX11_claim_81 ?_
          refine r_bipush (v := 72) hX dX11_claim_82 (by decide) ?_
          refine r_icmp_ge (tgt := 91) hX dX11_claim_84 (by decide) (fun c84 => ?_) (fun c84 => ?_)
          · refine r_iconst (v := nI 0) hX dX11_claim_91 (by decide) ?_
            refine r_iconst (v := nI 2) hX dX11_claim_92 (by decide) ?_
            refine r_cV2 hX dX11_claim_93 IX11_throwsIf ml_X11_215 rfl (LX11_s hL) rfl (t_X11_throwsIf0 (M := wI M i0) hL) (by decide) (by decide) (by decide) (by decide) rfl (Nat.le_of_ble_eq_true rfl) ?_
            refine r_if_eq (tgt := 101) hX dX11_claim_96 (by decide) (fun c96 => ?_) (fun c96 => absurd c96 (by decide))
            refine r_aload_n hX dX11_claim_101 rfl ?_
            refine r_iV0 hX dX11_claim_102 IX11_keeps ml_X11_316 rfl (LX11_s hL) rfl (t_X11_keeps (M := wI M i0) hL hR0) (by decide) (by decide) (by decide) (by decide) rfl (Nat.le_of_ble_eq_true rfl) (fun i2 k2 => ?_)
            obtain ⟨hR2, k2t, k2o⟩ := k2
            have ht2 : i2 a 0 = 0 := k2t.trans ht0
            have ho2 : outB i2 (mI M) a 14 := fun x hx k => (k2o x hx k).trans (ho0 x hx k)
            have hn2 : mI (wI M i2) (a + 1) = σ.1 := hR2.1
            show J G base X _ _ (wI M i2) _ _ _
            refine r_aload_n hX dX11_claim_105 rfl ?_
            refine r_iload_n hX dX11_claim_106 rfl ?_
            refine r_bipush (v := nI 8) hX dX11_claim_107 (by decide) ?_
            refine r_iconst (v := nI 1) hX dX11_claim_109 (by decide) ?_
            refine r_iV3 hX dX11_claim_110 IX11_sets ml_X11_71 rfl (LX11_s hL) rfl (t_X11_sets (M := wI M i2) hL hn2 (by omega) (by decide)) (by decide) (by decide) (by decide) (by decide) rfl (Nat.le_of_ble_eq_true rfl) (fun i110 h110 => ?_)
            show J G base X _ _ (wI M i110) _ _ _
            have hn110 : mI (wI M i110) (a + 1) = _ := h110.1
            refine r_aload_n hX dX11_claim_113 rfl ?_
            refine r_iload_n hX dX11_claim_114 rfl ?_
            refine r_iconst (v := nI 2) hX dX11_claim_115 (by decide) ?_
            refine r_cV2 hX dX11_claim_116 IX11_of ml_X11_67 rfl (LX11_s hL) rfl (t_X11_of (M := wI M i110) hL hn110 (by omega) (by decide)) (by decide) (by decide) (by decide) (by decide) rfl (Nat.le_of_ble_eq_true rfl) ?_
            refine r_ireturn hX rfl rfl dX11_claim_119 (by decide) (by decide) ?_
            have hyes : σ.1 (498 + 10 * l + 3) = 3 ∧ ¬ σ.1 (498 + 10 * l + 2) = 0 ∧ σ.1 (498 + 10 * l + 8) = 0 ∧ 72 ≤ σ.1 6 - σ.1 (798 + 2 * nv σ.1 (498 + 10 * l + 4) + 1) := ⟨c22, c31, by first | exact c41 | exact Classical.not_not.mp c41, c84⟩
            obtain ⟨r1, r2, r3, r4⟩ := pubR (j := i110) hR2 ho2 ht2 hn110 (fun y hy _ => h110.2 y hy)
            refine ⟨_, i110, rfl, rfl, ?_, ?_, r4⟩
            · unfold sg_claim
              rw [ix_of hl (by omega)]
              dsimp only
              rw [if_pos hyes]
              exact r1
            · unfold rs_claim
              rw [ix_of hl (by omega)]
              dsimp only
              rw [if_pos hyes]
              refine ⟨?_, r3⟩
              exact upd_o (by omega)
          · refine r_iconst (v := nI 1) hX dX11_claim_87 (by decide) ?_
            refine r_goto (tgt := 92) hX dX11_claim_88 (by decide) ?_
            refine r_iconst (v := nI 2) hX dX11_claim_92 (by decide) ?_
            refine r_cV2 hX dX11_claim_93 IX11_throwsIf ml_X11_215 rfl (LX11_s hL) rfl (t_X11_throwsIf1 (M := wI M i0) hL) (by decide) (by decide) (by decide) (by decide) rfl (Nat.le_of_ble_eq_true rfl) ?_
            refine r_if_eq (tgt := 101) hX dX11_claim_96 (by decide) (fun c96 => absurd c96 (by decide)) (fun c96 => ?_)
            refine r_iconst (v := 0) hX dX11_claim_99 (by decide) ?_
            refine r_ireturn hX rfl rfl dX11_claim_100 (by decide) (by decide) ?_
            obtain ⟨q1, q2, q3⟩ := pub1 hR0 ho0 2
            have hno : ¬ (σ.1 (498 + 10 * l + 3) = 3 ∧ ¬ σ.1 (498 + 10 * l + 2) = 0 ∧ σ.1 (498 + 10 * l + 8) = 0 ∧ 72 ≤ σ.1 6 - σ.1 (798 + 2 * nv σ.1 (498 + 10 * l + 4) + 1)) := fun z => absurd z.2.2.2 (i_nle.mpr (i_nle.mp c84))
            refine ⟨_, mI (uI (wI M i0) a 0 2), rfl, rfl, ?_, ?_, q3⟩
            · unfold sg_claim
              rw [ix_of hl (by omega)]
              dsimp only
              rw [if_neg hno]
              exact q1
            · unfold rs_claim
              rw [ix_of hl (by omega)]
              dsimp only
              rw [if_neg hno]
              exact q2
  · refine Ct.of IX11_claim.1 (by simp [Value.category]) (Nat.le_of_ble_eq_true rfl) (fun X hX hN => ?_)
    show J G base X 0 0 M 0 [some (.ref a), some (.int x), none] []
    refine r_aload_n hX dX11_claim_0 rfl ?_
    refine r_iconst (v := nI 0) hX dX11_claim_1 (by decide) ?_
    refine r_puti hX dX11_claim_2 fl_X11_3 rfl rfl (LX11_s hL) ?_
    refine J.gen (M0 := M) rfl (fun i0 h00 => ?_)
    obtain ⟨hR0, hn0, ht0, ho0⟩ := pub0 hR h00
    clear h00
    refine r_aload_n hX dX11_claim_5 rfl ?_
    refine r_iload_n hX dX11_claim_6 rfl ?_
    refine r_cV1 hX dX11_claim_7 IX11_noLetter ml_X11_298 rfl (LX11_s hL) rfl (t_X11_noLetter0 (M := wI M i0) hL hn0 h2 hx) (by decide) (by decide) (by decide) (by decide) rfl (Nat.le_of_ble_eq_true rfl) ?_
    refine r_if_eq (tgt := 15) hX dX11_claim_10 (by decide) (fun c10 => absurd c10 (by decide)) (fun c10 => ?_)
    refine r_iconst (v := 0) hX dX11_claim_13 (by decide) ?_
    refine r_ireturn hX rfl rfl dX11_claim_14 (by decide) (by decide) ?_
    obtain ⟨q1, q2, q3⟩ := pub1 hR0 ho0 1
    refine ⟨_, mI (uI (wI M i0) a 0 1), rfl, rfl, ?_, ?_, q3⟩
    · unfold sg_claim
      rw [ix_no hx]
      exact q1
    · unfold rs_claim
      rw [ix_no hx]
      exact q2

def rs_run (σ : Sg) (x : Int32) : Int32 ⊕ Nat := if 1 ≤ x ∧ x ≤ 168 then .inl (nI (runN σ.1 x.toNatClampNeg).2) else .inr 1
def sg_run (σ : Sg) (x : Int32) : Sg := if 1 ≤ x ∧ x ≤ 168 then rowS (keepS σ) (runN σ.1 x.toNatClampNeg).1 else σ
set_option maxHeartbeats 2000000 in
set_option maxRecDepth 20000 in
theorem t_X11_run {M : Mm} {a : Nat} {σ : Sg} {T : Nat} (hL : LX11 M.1 M.2.1 a) (hR : RI (mI M) a σ) (hO : OkN T σ.1) (hT9 : T < 890000) {x : Int32} : Ct G base YX11_run 10 0 0 [.ref a, .int x] M (rV M (pQ M a (rs_run σ x) (sg_run σ x))) := by
  obtain ⟨hT, hS, hLt, h4, h5, h6, hLo, hSt, hNa⟩ := hO
  have h0 := hT.1
  have h1 := hT.2.1
  have hr := hT.2.2
  have h2 := hLt.1
  have h3 := hLt.2.1
  have hb0 := h0.2
  have hb1 := h1.2
  have hb2 := h2.2
  have hb3 := h3.2
  have hb4 := h4.2
  have ht6 : σ.1 6 = nI (nv σ.1 6) := h6.1
  have hh6 : nv σ.1 6 ≤ T := h6.2
  by_cases hx : 1 ≤ x ∧ x ≤ 168
  · obtain ⟨k, hk, rfl⟩ := nI_of2 (x := x) (M := 168) (n := 168) rfl (fun z => absurd (Int32.lt_of_lt_of_le z (show (0 : Int32) ≤ 1 by decide)) (i_nlt.mpr hx.1)) hx.2
    have hkc : (nI k).toNatClampNeg = k := nI_clamp (by omega)
    refine Ct.of IX11_run.1 (by simp [Value.category]) (Nat.le_of_ble_eq_true rfl) (fun X hX hN => ?_)
    show J G base X 0 0 M 0 [some (.ref a), some (.int (nI k)), none, none] []
    refine r_aload_n hX dX11_run_0 rfl ?_
    refine r_iconst (v := nI 0) hX dX11_run_1 (by decide) ?_
    refine r_puti hX dX11_run_2 fl_X11_3 rfl rfl (LX11_s hL) ?_
    refine J.gen (M0 := M) rfl (fun i0 h00 => ?_)
    obtain ⟨hR0, hn0, ht0, ho0⟩ := pub0 hR h00
    clear h00
    refine r_aload_n hX dX11_run_5 rfl ?_
    refine r_iload_n hX dX11_run_6 rfl ?_
    refine r_iconst (v := nI 1) hX dX11_run_7 (by decide) ?_
    refine r_sipush (v := nI 168) hX dX11_run_8 (by decide) ?_
    refine r_cS3 hX dX11_run_11 IX11_in ml_X11_79 rfl (t_X11_in (M := wI M i0) ) (by decide) (by decide) (by decide) (by decide) rfl (Nat.le_of_ble_eq_true rfl) ?_
    refine rb_if_ne (tgt := 21) hX dX11_run_14 (by decide) rfl (fun c14 => ?_) (fun c14 => absurd hx c14)
    refine r_iconst (v := nI 0) hX dX11_run_21 (by decide) ?_
    refine r_iconst (v := nI 1) hX dX11_run_22 (by decide) ?_
    refine r_cV2 hX dX11_run_23 IX11_throwsIf ml_X11_215 rfl (LX11_s hL) rfl (t_X11_throwsIf0 (M := wI M i0) hL) (by decide) (by decide) (by decide) (by decide) rfl (Nat.le_of_ble_eq_true rfl) ?_
    refine r_if_eq (tgt := 31) hX dX11_run_26 (by decide) (fun c26 => ?_) (fun c26 => absurd c26 (by decide))
    refine r_aload_n hX dX11_run_31 rfl ?_
    refine r_iV0 hX dX11_run_32 IX11_keeps ml_X11_316 rfl (LX11_s hL) rfl (t_X11_keeps (M := wI M i0) hL hR0) (by decide) (by decide) (by decide) (by decide) rfl (Nat.le_of_ble_eq_true rfl) (fun i2 k2 => ?_)
    obtain ⟨hR2, k2t, k2o⟩ := k2
    have ht2 : i2 a 0 = 0 := k2t.trans ht0
    have ho2 : outB i2 (mI M) a 14 := fun x hx k => (k2o x hx k).trans (ho0 x hx k)
    have hn2 : mI (wI M i2) (a + 1) = σ.1 := hR2.1
    show J G base X _ _ (wI M i2) _ _ _
    refine r_iconst (v := nI 0) hX dX11_run_35 (by decide) ?_
    refine r_istore2 hX dX11_run_36 rfl ?_
    refine r_iconst (v := nI 0) hX dX11_run_37 (by decide) ?_
    refine r_istore3 hX dX11_run_38 rfl ?_
    refine loop_us (σ := Nat → Nat → Int32) (P := fun j i => (i (a + 1) = (runN σ.1 j).1 ∧ ∀ x, x ≠ a + 1 → (x < a + 7 ∨ a + 13 ≤ x) → i x = i2 x) → J G base X 0 0 (wI M i) 39 [some (.ref a), some (.int (nI k)), some (.int (nI (runN σ.1 j).2)), some (.int (nI j))] []) k (fun j i hj ih hi => ?_) 0 i2 (Nat.zero_le _) ⟨hn2, fun _ _ _ => rfl⟩
    have hni : mI (wI M i) (a + 1) = (runN σ.1 j).1 := hi.1
    obtain ⟨kT, kS, kL, k4, k5, k6, -⟩ := run_ok (T := T) (n := σ.1) ⟨hT, hS, hLt, h4, h5, h6, hLo, hSt, hNa⟩ j (by omega)
    have k6b := k6.2
    refine r_iload_n hX dX11_run_39 rfl ?_
    refine r_iload_n hX dX11_run_40 rfl ?_
    refine rn_icmp_ge (tgt := 57) hX dX11_run_41 (by decide) rfl rfl (by omega) (by omega) (fun c41 => ?_) (fun c41 => ?_)
    · refine r_iload_n hX dX11_run_57 rfl ?_
      refine r_ireturn hX rfl rfl dX11_run_58 (by decide) (by decide) ?_
      obtain rfl : j = k := by omega
      obtain ⟨r1, r2, r3, r4⟩ := pubR (j := i) hR2 ho2 ht2 hi.1 hi.2
      refine ⟨_, i, rfl, rfl, ?_, ?_, r4⟩
      · unfold sg_run
        rw [if_pos hx, hkc]
        exact r1
      · unfold rs_run
        rw [if_pos hx, hkc]
        exact ⟨rfl, r3⟩
    · refine r_iload_n hX dX11_run_44 rfl ?_
      refine r_aload_n hX dX11_run_45 rfl ?_
      refine r_iV0 hX dX11_run_46 IX11_passesHour ml_X11_319 rfl (LX11_s hL) rfl (t_X11_passesHour (M := wI M i) hL hni kT kS kL k4 k6.1 (by omega)) (by decide) (by decide) (by decide) (by decide) rfl (Nat.le_of_ble_eq_true rfl) (fun i5 h5 => ?_)
      show J G base X _ _ (wI M i5) _ _ _
      refine rn_iadd hX dX11_run_49 rfl rfl ?_
      refine r_istore2 hX dX11_run_50 rfl ?_
      refine rn_iinc3 hX dX11_run_51 rfl rfl ?_
      refine r_goto (tgt := 39) hX dX11_run_54 (by decide) ?_
      exact ih (by omega) i5 ⟨h5.1, fun x hx hx2 => (h5.2 x hx hx2).trans (hi.2 x hx hx2)⟩
  · refine Ct.of IX11_run.1 (by simp [Value.category]) (Nat.le_of_ble_eq_true rfl) (fun X hX hN => ?_)
    show J G base X 0 0 M 0 [some (.ref a), some (.int x), none, none] []
    refine r_aload_n hX dX11_run_0 rfl ?_
    refine r_iconst (v := nI 0) hX dX11_run_1 (by decide) ?_
    refine r_puti hX dX11_run_2 fl_X11_3 rfl rfl (LX11_s hL) ?_
    refine J.gen (M0 := M) rfl (fun i0 h00 => ?_)
    obtain ⟨hR0, hn0, ht0, ho0⟩ := pub0 hR h00
    clear h00
    refine r_aload_n hX dX11_run_5 rfl ?_
    refine r_iload_n hX dX11_run_6 rfl ?_
    refine r_iconst (v := nI 1) hX dX11_run_7 (by decide) ?_
    refine r_sipush (v := nI 168) hX dX11_run_8 (by decide) ?_
    refine r_cS3 hX dX11_run_11 IX11_in ml_X11_79 rfl (t_X11_in (M := wI M i0) ) (by decide) (by decide) (by decide) (by decide) rfl (Nat.le_of_ble_eq_true rfl) ?_
    refine rb_if_ne (tgt := 21) hX dX11_run_14 (by decide) rfl (fun c14 => absurd c14 hx) (fun c14 => ?_)
    refine r_iconst (v := nI 1) hX dX11_run_17 (by decide) ?_
    refine r_goto (tgt := 22) hX dX11_run_18 (by decide) ?_
    refine r_iconst (v := nI 1) hX dX11_run_22 (by decide) ?_
    refine r_cV2 hX dX11_run_23 IX11_throwsIf ml_X11_215 rfl (LX11_s hL) rfl (t_X11_throwsIf1 (M := wI M i0) hL) (by decide) (by decide) (by decide) (by decide) rfl (Nat.le_of_ble_eq_true rfl) ?_
    refine r_if_eq (tgt := 31) hX dX11_run_26 (by decide) (fun c26 => absurd c26 (by decide)) (fun c26 => ?_)
    refine r_iconst (v := 0) hX dX11_run_29 (by decide) ?_
    refine r_ireturn hX rfl rfl dX11_run_30 (by decide) (by decide) ?_
    obtain ⟨q1, q2, q3⟩ := pub1 hR0 ho0 1
    refine ⟨_, mI (uI (wI M i0) a 0 1), rfl, rfl, ?_, ?_, q3⟩
    · unfold sg_run
      rw [if_neg hx]
      exact q1
    · unfold rs_run
      rw [if_neg hx]
      exact q2

