variable {G : GG} {base : Nat}
/-! ===== the row is as it should be ===== -/
def e27 (w : List Nat) : Nat := w.foldl (fun v z => 27 * v + z) 0
def Nm27 (x : Int32) : Prop := ∃ w : List Nat, 1 ≤ w.length ∧ w.length ≤ 6 ∧ (∀ z, z ∈ w → 1 ≤ z ∧ z ≤ 26) ∧ x = nI (e27 w)
/-- each lost sack has its carrier, and a letter -/
def LoOk (n : Nat → Int32) : Prop := ∀ k, k < nv n 3 → (∃ c, c < 5 ∧ n (798 + 2 * k) = nI c) ∧ ∃ l, l < nv n 2 ∧ n (498 + 10 * l + 3) = 3 ∧ n (498 + 10 * l + 4) = nI k
def StOk (n : Nat → Int32) : Prop := ∀ c, c < 5 → n (38 + c) = 0 ∨ n (38 + c) = 1
def NaOk (n : Nat → Int32) : Prop := (∀ p, p < nv n 0 → Nm27 (n (18 + p))) ∧ ∀ c, c < nv n 1 → Nm27 (n (28 + c))
def OkN (T : Nat) (n : Nat → Int32) : Prop := TbOk n ∧ SkOk n ∧ LtOk n ∧ Rn n 4 60 ∧ Rn n 5 20 ∧ Rn n 6 T ∧ LoOk n ∧ StOk n ∧ NaOk n
theorem NaOk.tab {n m : Nat → Int32} (h : tabEq n m) (h0 : nv n 0 ≤ 10) (h1 : nv n 1 ≤ 5) (ha : NaOk n) : NaOk m := by
  have e0 : nv m 0 = nv n 0 := by show (m 0).toNatClampNeg = _; rw [← h.1]
  have e1 : nv m 1 = nv n 1 := by show (m 1).toNatClampNeg = _; rw [← h.2.1]
  refine ⟨fun p hp => ?_, fun c hc => ?_⟩
  · rw [e0] at hp
    rw [← h.2.2.1 _ (by omega) (by omega)]
    exact ha.1 p hp
  · rw [e1] at hc
    rw [← h.2.2.1 _ (by omega) (by omega)]
    exact ha.2 c hc
theorem StOk.tab {n m : Nat → Int32} (h : tabEq n m) (ha : StOk n) : StOk m := fun c hc => by
  rw [← h.2.2.2 _ (by omega) (by omega)]
  exact ha c hc
/-- behind an hour's villages, the hour is the next -/
theorem time_up {x : Nat → Int32} {k : Nat} {T : Nat} (hT : TbOk x) (hS : SkOk x) (hL : LtOk x) (h4 : Rn x 4 60) (h5 : Rn x 5 20) (hLo : LoOk x) (hSt : StOk x) (hN : NaOk x) (hk : k ≤ T) (hT9 : T < 2147483648) : OkN T (upd x 6 (nI k)) := by
  have e : ∀ q, q ≠ 6 → upd x 6 (nI k) q = x q := fun q hq => upd_o hq
  have ev : ∀ q, q ≠ 6 → nv (upd x 6 (nI k)) q = nv x q := fun q hq => by show (upd x 6 (nI k) q).toNatClampNeg = _; rw [e q hq]
  have et : tabEq x (upd x 6 (nI k)) := ⟨(e 0 (by omega)).symm, (e 1 (by omega)).symm, fun q a b => (e q (by omega)).symm, fun q a b => (e q (by omega)).symm⟩
  have e3 : tb3 (upd x 6 (nI k)) x := ⟨et.sm, e 3 (by omega)⟩
  have hu : ∀ l, unL (upd x 6 (nI k)) x l := fun l f hf => e _ (by omega)
  have hR : ∀ q b, q ≠ 6 → Rn x q b → Rn (upd x 6 (nI k)) q b := fun q b hq h => ⟨by rw [ev q hq, e q hq]; exact h.1, by rw [ev q hq]; exact h.2⟩
  refine ⟨TbOk.tab et hT, ⟨fun c hc => by rw [e _ (by omega)]; exact hS.1 c hc, fun c d hc hd z => ?_, fun c hc hm => ?_⟩, ⟨hR _ _ (by omega) hL.1, hR _ _ (by omega) hL.2.1, fun l hl => ?_⟩, hR _ _ (by omega) h4, hR _ _ (by omega) h5, ?_, fun j hj => ?_, StOk.tab et hSt, NaOk.tab et hT.1.2 hT.2.1.2 hN⟩
  · rw [e _ (by omega), e _ (by omega)] at z
    exact hS.2.1 c d hc hd z
  · rw [ev 1 (by omega)] at hm
    rw [e _ (by omega)]
    exact hS.2.2 c hc hm
  · rw [ev 2 (by omega)] at hl
    exact LtL.un e3 hT.1.2 (hu l) (hL.2.2 l hl)
  · exact Rn.mk (x := k) upd_s hk hT9
  · rw [ev 3 (by omega)] at hj
    obtain ⟨⟨c, hc, e1⟩, l, h1, h2, h3⟩ := hLo j hj
    exact ⟨⟨c, hc, by rw [e _ (by omega)]; exact e1⟩, l, by rw [ev 2 (by omega)]; exact h1, (hu l 3 (by omega)).trans h2, (hu l 4 (by omega)).trans h3⟩
/-- the letters, too, that are lost keep their places; the rest of the row as sm says -/
theorem LoOk.un {x n : Nat → Int32} (h2 : nv x 2 = nv n 2) (h3 : nv x 3 = nv n 3) (h : LoOk n) (hq : ∀ q, 798 ≤ q → q < 858 → x q = n q) (h30 : nv n 3 ≤ 30) (hu : ∀ l, l < nv n 2 → n (498 + 10 * l + 3) = 3 → unL x n l) : LoOk x := fun k hk => by
  rw [h3] at hk
  obtain ⟨⟨c, hc, e1⟩, l, a1, a2, a3⟩ := h k hk
  exact ⟨⟨c, hc, by rw [hq _ (by omega) (by omega)]; exact e1⟩, l, by rw [h2]; exact a1, (hu l a1 a2 3 (by omega)).trans a2, (hu l a1 a2 4 (by omega)).trans a3⟩
theorem wrL_798 {x : Nat → Int32} {l : Nat} {kd cr pl : Int32} {q : Nat} (h1 : 798 ≤ q) (h2 : q < 858) : wrL x l kd cr pl q = x q := wrL_lo h2 (by omega)
theorem mark_798 {n : Nat → Int32} {p : Nat} {g : Nat → Bool} {q : Nat} (h1 : 798 ≤ q) (h2 : q < 858) : ∀ k, k ≤ 30 → markL n p g k q = n q
  | 0, _ => rfl
  | k + 1, hk => by
    simp only [markL]
    split
    · rw [wrL_798 h1 h2, upd_o (by omega)]; exact mark_798 h1 h2 k (by omega)
    · exact mark_798 h1 h2 k (by omega)
theorem swp_798 {n : Nat → Int32} {h : Nat} (h30 : nv n 2 ≤ 30) {q : Nat} (h1 : 798 ≤ q) (h2 : q < 858) : ∀ k, swpN n h k q = n q
  | 0 => rotN_eq (by omega)
  | k + 1 => by
    simp only [swpN]
    split
    · rw [mark_798 h1 h2 _ h30, upd_o (by omega)]; exact swp_798 h30 h1 h2 k
    · exact swp_798 h30 h1 h2 k
theorem del_798 {n : Nat → Int32} {p : Nat} {sb : Nat → Int32} {q : Nat} (h1 : 798 ≤ q) (h2 : q < 858) : ∀ k, k ≤ 30 → delL n p sb k q = n q
  | 0, _ => rfl
  | k + 1, hk => by
    simp only [delL]
    split
    · rw [wrL_798 h1 h2]
      unfold handN liesN
      rw [upd_o (by omega), upd_o (by omega), upd_o (by omega)]
      exact del_798 h1 h2 k (by omega)
    · exact del_798 h1 h2 k (by omega)
theorem put_798 {x : Nat → Int32} {l p : Nat} {o b : Int32} (hl : l < 30) {q : Nat} (h1 : 798 ≤ q) (h2 : q < 858) : putN x l p o b q = x q := by
  have e : ∀ kd pl, liesN x l kd pl q = x q := fun kd pl => by unfold liesN; rw [upd_o (by omega), upd_o (by omega)]
  unfold putN
  split
  · split
    · exact e _ _
    · rw [wrL_798 h1 h2]; exact e _ _
  · split
    · rw [upd_o (by omega)]; exact e _ _
    · rw [wrL_798 h1 h2, upd_o (by omega)]; exact e _ _
theorem srt_798 {n : Nat → Int32} {h p : Nat} {sb : Nat → Int32} {q : Nat} (h1 : 798 ≤ q) (h2 : q < 858) : ∀ k, k ≤ 30 → (srtL n h p sb k).1 q = n q
  | 0, _ => rfl
  | k + 1, hk => by
    simp only [srtL]
    split
    · exact srt_798 h1 h2 k (by omega)
    · exact (put_798 (by omega) h1 h2).trans (srt_798 h1 h2 k (by omega))
theorem vis_798 {n : Nat → Int32} {h p : Nat} (h30 : nv n 2 ≤ 30) {q : Nat} (h1 : 798 ≤ q) (h2 : q < 858) : visN n h p q = n q := by
  unfold visN
  split
  · rw [srt_798 h1 h2 _ h30, del_798 h1 h2 _ h30]
  · rfl
theorem vil_798 {n : Nat → Int32} (h4 : Rn n 4 60) {h : Nat} (h30 : nv n 2 ≤ 30) {q : Nat} (h1 : 798 ≤ q) (h2 : q < 858) : ∀ k, (vilN n h k).1 q = n q
  | 0 => rfl
  | k + 1 => by
    simp only [vilN]
    split
    · exact (vis_798 (by rw [(vilN_sm h4 k).nv (by omega) (by omega) (by omega)]; exact h30) h1 h2).trans (vil_798 h4 h30 h1 h2 k)
    · exact vil_798 h4 h30 h1 h2 k
theorem hour_ok {T : Nat} {n : Nat → Int32} (hT9 : T + 1 < 2147483648) (h : OkN T n) : OkN (T + 1) (hourN n) := by
  obtain ⟨hT, hS, hL, h4, h5, h6, hLo, hSt, hN⟩ := h
  have h30 := hL.1.2
  have h330 := hL.2.1.2
  generalize hh : nv n 6 = t at *
  obtain ⟨a1, a2⟩ := swp_step hT hL h4 (h := t) (nv n 0)
  have hs1 := swpN_sm (n := n) (h := t) h4 (nv n 0)
  generalize hz : swpN n t (nv n 0) = z at *
  have ez : ∀ q, q < 498 → q ≠ 4 → q ≠ 7 → (q < 33 ∨ 38 ≤ q) → z q = n q := fun q a b c d => (hs1.1 q a b c).trans (rotN_eq d)
  have etz : tabEq z n := hs1.tab.tr rotN_tab
  have hTz : TbOk z := TbOk.tab etz.sm hT
  have hSz : SkOk z := hs1.Sk (rotN_Sk hS)
  have ev : ∀ q, q < 498 → q ≠ 4 → q ≠ 7 → (q < 33 ∨ 38 ≤ q) → nv z q = nv n q := fun q a b c d => by show (z q).toNatClampNeg = _; rw [ez q a b c d]
  obtain ⟨b1, b2⟩ := vil_step hTz a1 hs1.2 (h := t) (nv n 0)
  have hs2 := vilN_sm (n := z) (h := t) hs1.2 (nv n 0)
  have hw8 : ∀ q, 798 ≤ q → q < 858 → (vilN z t (nv n 0)).1 q = n q := fun q c1 c2 => by
    rw [vil_798 hs1.2 a1.1.2 c1 c2, ← hz]
    exact swp_798 h30 c1 c2 _
  have e1 : hourN n = upd (vilN z t (nv n 0)).1 6 (nI (t + 1)) := by unfold hourN; rw [hh, hz]
  rw [e1]
  have hRz5 : Rn z 5 20 := ⟨by rw [ev 5 (by omega) (by omega) (by omega) (by omega), ez 5 (by omega) (by omega) (by omega) (by omega)]; exact h5.1, by rw [ev 5 (by omega) (by omega) (by omega) (by omega)]; exact h5.2⟩
  have et2 : tabEq (vilN z t (nv n 0)).1 n := hs2.tab.tr etz
  have e22 : nv (vilN z t (nv n 0)).1 2 = nv n 2 := (hs2.nv (by omega) (by omega) (by omega)).trans (ev 2 (by omega) (by omega) (by omega) (by omega))
  have e23 : nv (vilN z t (nv n 0)).1 3 = nv n 3 := (hs2.nv (by omega) (by omega) (by omega)).trans (ev 3 (by omega) (by omega) (by omega) (by omega))
  refine time_up (hs2.Tb hTz) (hs2.Sk hSz) b1 hs2.2 (hs2.Rn (by omega) (by omega) (by omega) hRz5) (LoOk.un e22 e23 hLo hw8 h330 (fun l hl h3 => ?_)) (StOk.tab et2.sm hSt) (NaOk.tab et2.sm hT.1.2 hT.2.1.2 hN) ?_ hT9
  · have u1 := a2 l hl
    exact (b2 l (by rw [ev 2 (by omega) (by omega) (by omega) (by omega)]; exact hl) ((u1 3 (by omega)).trans h3)).tr u1
  · have := h6.2
    omega
theorem run_ok {T : Nat} {n : Nat → Int32} (h : OkN T n) : ∀ k, T + k < 2147483648 → OkN (T + k) (runN n k).1
  | 0, _ => h
  | k + 1, hk => hour_ok (by omega) (run_ok h k (by omega))
theorem hourN_6 {n : Nat → Int32} : hourN n 6 = nI (nv n 6 + 1) := upd_s
theorem runN_6 {n : Nat → Int32} {t : Nat} (ht : n 6 = nI t) : ∀ k, t + k < 2147483648 → (runN n k).1 6 = nI (t + k)
  | 0, _ => ht
  | k + 1, hk => by
    show hourN (runN n k).1 6 = _
    rw [hourN_6, nv_of (runN_6 ht k (by omega)) (by omega)]
    rfl
theorem hour_tab {T : Nat} {n : Nat → Int32} (h : OkN T n) : tabEq (hourN n) n := by
  obtain ⟨hT, hS, hL, h4, h5, h6, hLo, hSt, hN⟩ := h
  have hs1 := swpN_sm (n := n) (h := nv n 6) h4 (nv n 0)
  have hs2 := vilN_sm (n := swpN n (nv n 6) (nv n 0)) (h := nv n 6) hs1.2 (nv n 0)
  have et2 := hs2.tab.tr (hs1.tab.tr rotN_tab)
  have e : ∀ q, q ≠ 6 → hourN n q = (vilN (swpN n (nv n 6) (nv n 0)) (nv n 6) (nv n 0)).1 q := fun q hq => upd_o hq
  exact ⟨(e 0 (by omega)).trans et2.1, (e 1 (by omega)).trans et2.2.1, fun q a b => (e q (by omega)).trans (et2.2.2.1 q a b), fun q a b => (e q (by omega)).trans (et2.2.2.2 q a b)⟩
theorem run_tab {T : Nat} {n : Nat → Int32} (h : OkN T n) : ∀ k, T + k < 2147483648 → tabEq (runN n k).1 n
  | 0, _ => tabEq.rf
  | k + 1, hk => (hour_tab (run_ok h k (by omega))).tr (run_tab h k (by omega))
set_option maxHeartbeats 2000000 in
set_option maxRecDepth 20000 in
theorem t_X11_passesHour {M : Mm} {a : Nat} {n : Nat → Int32} (hL : LX11 M.1 M.2.1 a) (hn : mI M (a + 1) = n) (hT : TbOk n) (hS : SkOk n) (hLt : LtOk n) (h4 : Rn n 4 60) {h : Nat} (ht : n 6 = nI h) (hh : h < 900000) : Ct G base YX11_passesHour 9 0 0 [.ref a] M (rI (some (.int (nI (hourC n)))) M (fun i => i (a + 1) = hourN n ∧ ∀ x, x ≠ a + 1 → (x < a + 7 ∨ a + 13 ≤ x) → i x = mI M x)) := by
  refine Ct.of IX11_passesHour.1 (by simp [Value.category]) (Nat.le_of_ble_eq_true rfl) (fun X hX hN => ?_)
  show J G base X 0 0 M 0 [some (.ref a), none, none] []
  have h0 := hT.1
  have h1 := hT.2.1
  have hp10 := h0.2
  have hm5 := h1.2
  have hnt : nv n 6 = h := nv_of ht (by omega)
  refine r_aload_n hX dX11_passesHour_0 rfl ?_
  refine r_iV0 hX dX11_passesHour_1 IX11_swapsNow ml_X11_274 rfl (LX11_s hL) rfl (t_X11_swapsNow hL hn hT hS hLt h4 ht (by omega)) (by decide) (by decide) (by decide) (by decide) rfl (Nat.le_of_ble_eq_true rfl) (fun i1 k1 => ?_)
  show J G base X _ _ (wI M i1) _ _ _
  obtain ⟨a1, a2⟩ := swp_step hT hLt h4 (h := h) (nv n 0)
  have hs1 := swpN_sm (n := n) (h := h) h4 (nv n 0)
  generalize hz : swpN n h (nv n 0) = z at *
  have etz : tabEq z n := hs1.tab.tr rotN_tab
  have hTz : TbOk z := TbOk.tab etz.sm hT
  have hSz : SkOk z := hs1.Sk (rotN_Sk hS)
  have e6z : z 6 = nI h := (hs1.1 6 (by omega) (by omega) (by omega)).trans ((rotN_eq (by omega)).trans ht)
  have e0z : nv z 0 = nv n 0 := by show (z 0).toNatClampNeg = _; rw [etz.1]
  refine r_iconst (v := nI 0) hX dX11_passesHour_4 (by decide) ?_
  refine r_istore1 hX dX11_passesHour_5 rfl ?_
  refine r_iconst (v := nI 0) hX dX11_passesHour_6 (by decide) ?_
  refine r_istore2 hX dX11_passesHour_7 rfl ?_
  refine loop_us (σ := Nat → Nat → Int32) (P := fun p i => (i (a + 1) = (vilN z h p).1 ∧ ∀ x, x ≠ a + 1 → (x < a + 7 ∨ a + 13 ≤ x) → i x = mI M x) → J G base X 0 0 (wI M i) 8 [some (.ref a), some (.int (nI (vilN z h p).2)), some (.int (nI p))] []) (nv n 0) (fun p i hp ih hi => ?_) 0 i1 (Nat.zero_le _) ⟨k1.1, fun x hx hx2 => k1.2 x ⟨hx, by omega⟩⟩
  have hni : mI (wI M i) (a + 1) = (vilN z h p).1 := hi.1
  obtain ⟨b1, -⟩ := vil_step hTz a1 hs1.2 (h := h) p
  have hs2 := vilN_sm (n := z) (h := h) hs1.2 p
  have hT2 := hs2.Tb hTz
  have hS2 := hs2.Sk hSz
  have e62 : (vilN z h p).1 6 = nI h := (hs2.1 6 (by omega) (by omega) (by omega)).trans e6z
  have e02 : nv (vilN z h p).1 0 = nv n 0 := (hs2.nv (by omega) (by omega) (by omega)).trans e0z
  have etw : p < nv n 0 → (townP (vilN z h p).1 (nI p) ↔ town z p = true) := fun hp => by rw [town_iff hT2.1 (by omega), hs2.t3.town hTz.1.2]
  refine r_iload_n hX dX11_passesHour_8 rfl ?_
  refine r_aload_n hX dX11_passesHour_9 rfl ?_
  refine r_cV0 hX dX11_passesHour_10 IX11_places ml_X11_75 rfl (LX11_s hL) rfl (t_X11_places (M := wI M i) hL hni hT2.1) (by decide) (by decide) (by decide) (by decide) rfl (Nat.le_of_ble_eq_true rfl) ?_
  rw [e02]
  refine rn_icmp_ge (tgt := 38) hX dX11_passesHour_13 (by decide) rfl rfl (by omega) (by omega) (fun c13 => ?_) (fun c13 => ?_)
  · refine r_aload_n hX dX11_passesHour_38 rfl ?_
    refine r_getr hX dX11_passesHour_39 fl_X11_13 rfl (LX11_s hL) (LX11_r1 hL) ?_
    refine r_bipush (v := nI 6) hX dX11_passesHour_42 (by decide) ?_
    refine r_dup2 hX dX11_passesHour_44 rfl rfl ?_
    refine rn_iald hX dX11_passesHour_45 (LX11_a1 hL) rfl (by omega) (by omega) ?_
    rw [hni]
    rw [e62]
    refine r_iconst (v := nI 1) hX dX11_passesHour_46 (by decide) ?_
    refine rn_iadd hX dX11_passesHour_47 rfl rfl ?_
    refine rn_iast hX dX11_passesHour_48 (LX11_a1 hL) rfl (by omega) (by omega) ?_
    obtain rfl : p = nv n 0 := by omega
    refine J.gen (M0 := M) rfl (fun i2 h2 => ?_)
    refine r_iload_n hX dX11_passesHour_49 rfl ?_
    refine r_ireturn hX rfl rfl dX11_passesHour_50 (by decide) (by decide) ?_
    refine ⟨by rw [hourC, hnt, hz], i2, rfl, ?_, fun x hx hx2 => ?_⟩
    · unfold hourN
      rw [hnt, hz, ← uIA (v := nI (h + 1)) hni]
      funext q
      exact h2 (a + 1) q
    · rw [← hi.2 x hx hx2]
      funext q
      rw [h2]
      exact congrFun (uIo hx) q
  · refine r_aload_n hX dX11_passesHour_16 rfl ?_
    refine r_iload_n hX dX11_passesHour_17 rfl ?_
    refine r_cV1 hX dX11_passesHour_18 IX11_isTown ml_X11_166 rfl (LX11_s hL) rfl (t_X11_isTown (M := wI M i) hL hni hT2.1) (by decide) (by decide) (by decide) (by decide) rfl (Nat.le_of_ble_eq_true rfl) ?_
    refine rb_if_eq (tgt := 32) hX dX11_passesHour_21 (by decide) rfl (fun c21 => ?_) (fun c21 => ?_)
    · refine rn_iinc2 hX dX11_passesHour_32 rfl rfl ?_
      refine r_goto (tgt := 8) hX dX11_passesHour_35 (by decide) ?_
      have ht9 : ¬ town z p = true := fun q => c21 ((etw (by omega)).mpr q)
      have e9 : vilN z h (p + 1) = vilN z h p := by simp only [vilN]; rw [if_neg ht9]
      have q := ih (by omega) i
      rw [e9] at q
      exact q hi
    · refine r_iload_n hX dX11_passesHour_24 rfl ?_
      refine r_aload_n hX dX11_passesHour_25 rfl ?_
      refine r_iload_n hX dX11_passesHour_26 rfl ?_
      refine r_iV1 hX dX11_passesHour_27 IX11_visits ml_X11_277 rfl (LX11_s hL) rfl (t_X11_visits (M := wI M i) hL hni hT2 hS2 b1 hs2.2 e62 hh (by omega)) (by decide) (by decide) (by decide) (by decide) rfl (Nat.le_of_ble_eq_true rfl) (fun i2 h2 => ?_)
      show J G base X _ _ (wI M i2) _ _ _
      refine rn_iadd hX dX11_passesHour_30 rfl rfl ?_
      refine r_istore1 hX dX11_passesHour_31 rfl ?_
      refine rn_iinc2 hX dX11_passesHour_32 rfl rfl ?_
      refine r_goto (tgt := 8) hX dX11_passesHour_35 (by decide) ?_
      have ht9 : town z p = true := (etw (by omega)).mp c21
      have e9 : vilN z h (p + 1) = (visN (vilN z h p).1 h p, (vilN z h p).2 + visC (vilN z h p).1 h p) := by simp only [vilN]; rw [if_pos ht9]
      have q := ih (by omega) i2
      rw [e9] at q
      exact q ⟨h2.1, fun x hx hx2 => (h2.2 x hx hx2).trans (hi.2 x hx hx2)⟩
