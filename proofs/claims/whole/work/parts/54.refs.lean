variable {G : GG} {base : Nat}
/-! ===== THE TEXT ===== -/
theorem town_p {n : Nat → Int32} {p : Nat} (h : town n p = true) : p < nv n 0 := (of_decide_eq_true h).1
/-- the letters of a name, out of its number -/
def nmD : Nat → Nat → List Nat
  | 0, _ => []
  | k + 1, v => if v = 0 then [] else nmD k (v / 27) ++ [v % 27]
theorem nmD_e27 : ∀ (k : Nat) (w : List Nat), w.length ≤ k → (∀ z, z ∈ w → 1 ≤ z ∧ z ≤ 26) → nmD k (e27 w) = w
  | 0, w, hl, _ => by rw [List.eq_nil_of_length_eq_zero (by omega : w.length = 0)]; rfl
  | k + 1, w, hl, h => by
    by_cases hw : w = []
    · subst hw
      rfl
    · obtain ⟨v, z, rfl⟩ : ∃ v z, w = v ++ [z] := ⟨w.dropLast, w.getLast hw, (List.dropLast_concat_getLast hw).symm⟩
      have hz := h z (by simp)
      have ih := nmD_e27 k v (by simp at hl; omega) (fun y hy => h y (by simp [hy]))
      rw [e27_snoc]
      unfold nmD
      rw [if_neg (by omega), show (27 * e27 v + z) / 27 = e27 v by omega, show (27 * e27 v + z) % 27 = z by omega, ih]
def nmW (x : Int32) : List Nat := nmD 6 x.toNatClampNeg
/-- .. as they are written -/
def nmT (x : Int32) : List Nat := (nmW x).map fun y => 96 + y
theorem nmW_e {w : List Nat} (h6 : w.length ≤ 6) (hz : ∀ z, z ∈ w → 1 ≤ z ∧ z ≤ 26) : nmW (nI (e27 w)) = w := by
  unfold nmW
  have := e27_b hz h6
  rw [nI_clamp (by omega)]
  exact nmD_e27 6 w h6 hz
theorem nmT_len {x : Int32} (h : Nm27 x) : 1 ≤ (nmT x).length ∧ (nmT x).length ≤ 6 := by
  obtain ⟨w, h1, h6, hz, rfl⟩ := h
  unfold nmT
  rw [nmW_e h6 hz, List.length_map]
  exact ⟨h1, h6⟩
def asc (s : List Nat) : Prop := ∀ c, c ∈ s → c < 128
theorem asc.app {s t : List Nat} (h : asc s) (h2 : asc t) : asc (s ++ t) := fun c hc => by
  rcases List.mem_append.mp hc with q | q
  · exact h c q
  · exact h2 c q
theorem asc.one {c : Nat} (h : c < 128) : asc [c] := fun d hd => by
  rw [List.mem_singleton.mp hd]
  exact h
theorem asc.no : asc [] := fun d hd => by cases hd
theorem asc.nm {x : Int32} (h : Nm27 x) : asc (nmT x) := by
  obtain ⟨w, h1, h6, hz, rfl⟩ := h
  unfold nmT
  rw [nmW_e h6 hz]
  intro c hc
  obtain ⟨y, hy, rfl⟩ := List.mem_map.mp hc
  have := hz y hy
  omega
theorem asc.tx {i : Nat} (hi : i < 13) : asc (txw i) := by
  have : ∀ i, i < 13 → ∀ c, c ∈ txw i → c < 128 := by decide +kernel
  exact this i hi
def numT (v : Nat) : List Nat := (if 9 < v then [48 + v / 10] else []) ++ [48 + v % 10]
theorem numT_len {v : Nat} : 1 ≤ (numT v).length ∧ (numT v).length ≤ 2 := by
  unfold numT
  split <;> simp
theorem asc.num {v : Nat} (h : v < 100) : asc (numT v) := by
  unfold numT
  refine asc.app ?_ (asc.one (by omega))
  split
  · exact asc.one (by omega)
  · exact asc.no
/-- the state with another text -/
def txS (σ : Sg) (s : List Nat) : Sg := (σ.1, σ.2.1, σ.2.2.1, σ.2.2.2.1, σ.2.2.2.2.1, σ.2.2.2.2.2.1, σ.2.2.2.2.2.2.1, σ.2.2.2.2.2.2.2.1, (fun k => s.getD k 0), s.length)
theorem RI.txt {i i0 : Nat → Nat → Int32} {a : Nat} {σ : Sg} {s : List Nat} (h : RI i0 a σ) (hs : Tx i a s) (h1 : ∀ x, x ≠ a → x ≠ a + 13 → i x = i0 x) (h2 : ∀ k, k ≠ 23 → i a k = i0 a k) (hb : asc s) (hl : s.length ≤ 150) : RI i a (txS σ s) := by
  obtain ⟨g1, g2, g3, g4, g5, g6, g7, g8, g9, g10⟩ := h
  refine ⟨(h1 _ (by omega) (by omega)).trans g1, (h1 _ (by omega) (by omega)).trans g2, ⟨(h2 _ (by omega)).trans g3.1, g3.2⟩, fun k hk => ⟨(g4 k hk).1, (congrFun (h1 _ (by omega) (by omega)) k).trans (g4 k hk).2⟩, ⟨(h2 _ (by omega)).trans g5.1, g5.2⟩, (h1 _ (by omega) (by omega)).trans g6, (h2 _ (by omega)).trans g7, (h2 _ (by omega)).trans g8, fun k hk => ⟨?_, hs.2 k hk⟩, hs.1, hl⟩
  have hk2 : k < s.length := hk
  show s.getD k 0 < 128
  have : s.getD k 0 = s[k] := by simp [List.getD, List.getElem?_eq_getElem hk2]
  rw [this]
  exact hb _ (List.getElem_mem hk2)
/-- the text s has been written, from i0 on -/
def tq (i0 : Nat → Nat → Int32) (a : Nat) (s : List Nat) (i : Nat → Nat → Int32) : Prop := Tx i a s ∧ (∀ x, x ≠ a → x ≠ a + 13 → i x = i0 x) ∧ ∀ k, k ≠ 23 → i a k = i0 a k
theorem tq.st {M : Mm} {i0 i i' : Nat → Nat → Int32} {a : Nat} {s s' : List Nat} (h : tq i0 a s i) (h2 : txP (wI M i) a s' i') : tq i0 a s' i' := ⟨h2.1, fun x hx hy => (h2.2.1 x hx hy).trans (h.2.1 x hx hy), fun k hk => (h2.2.2 k hk).trans (h.2.2 k hk)⟩
theorem tq.nil {M : Mm} {i0 i : Nat → Nat → Int32} {a : Nat} (h : ∀ x j, i x j = mI (uI (wI M i0) a 23 0) x j) : tq i0 a [] i := by
  have h1 : ∀ x, i x = mI (uI (wI M i0) a 23 0) x := fun x => funext (h x)
  refine ⟨⟨(h a 23).trans (by simp [mI_uI]; rfl), fun k hk => absurd hk (Nat.not_lt_zero _)⟩, fun x hx _ => (h1 x).trans (uIo hx), fun k hk => (h a k).trans (by simp [mI_uI, mI_wI, hk])⟩
theorem tq.RI {i i0 : Nat → Nat → Int32} {a : Nat} {σ : Sg} {s : List Nat} (h : tq i0 a s i) (hR : RI i0 a σ) (hb : asc s) (hl : s.length ≤ 150) : RI i a (txS σ s) := hR.txt h.1 h.2.1 h.2.2 hb hl
theorem take_s {w : List Nat} {j : Nat} (h : j < w.length) : w.take (j + 1) = w.take j ++ [w.getD j 0] := by
  rw [List.take_succ_eq_append_getElem h]
  simp [List.getD, List.getElem?_eq_getElem h]
set_option maxHeartbeats 2000000 in
set_option maxRecDepth 20000 in
theorem t_X11_saysWord {M : Mm} {a : Nat} {s : List Nat} (hL : LX11 M.1 M.2.1 a) (hs : Tx (mI M) a s) (hl : s.length < 190) {w : Nat} (hw : w < 13) : Ct G base YX11_saysWord 6 0 0 [.ref a, .ref (G.2.2.1 w)] M (rI none M (txP M a (s ++ txw w))) := by
  refine Ct.of IX11_saysWord.1 (by simp [Value.category]) (Nat.le_of_ble_eq_true rfl) (fun X hX hN => ?_)
  show J G base X 0 0 M 0 [some (.ref a), some (.ref (G.2.2.1 w)), none] []
  refine r_iconst (v := nI 0) hX dX11_saysWord_0 (by decide) ?_
  refine r_istore2 hX dX11_saysWord_1 rfl ?_
  show J G base X 0 0 (wI M (mI M)) 2 _ []
  have h9 := @txw_s w
  refine loop_us (σ := Nat → Nat → Int32) (P := fun j i => (txP M a (s ++ (txw w).take j) i) → J G base X 0 0 (wI M i) 2 [some (.ref a), some (.ref (G.2.2.1 w)), some (.int (nI j))] []) (txw w).length (fun j i hj ih hi => ?_) 0 (mI M) (Nat.zero_le _) ⟨by rw [List.take_zero, List.append_nil]; exact hs, fun _ _ _ => rfl, fun _ _ => rfl⟩
  refine r_iload_n hX dX11_saysWord_2 rfl ?_
  refine r_aload_n hX dX11_saysWord_3 rfl ?_
  refine r_cVs0 hX dX11_saysWord_4 IJ0_length_8abf5 ml_X11_124 rfl hw rfl (t_length (M := wI M i) hw) (by decide) (by decide) (by decide) (by decide) rfl (Nat.le_of_ble_eq_true rfl) ?_
  refine rn_icmp_ge (tgt := 25) hX dX11_saysWord_7 (by decide) rfl rfl (by omega) (by omega) (fun c7 => ?_) (fun c7 => ?_)
  · refine r_return hX rfl dX11_saysWord_25 (by decide) (by decide) ?_
    obtain rfl : j = (txw w).length := by omega
    exact ⟨rfl, i, rfl, by rw [List.take_length] at hi; exact hi⟩
  · refine r_aload_n hX dX11_saysWord_10 rfl ?_
    refine r_aload_n hX dX11_saysWord_11 rfl ?_
    refine r_iload_n hX dX11_saysWord_12 rfl ?_
    refine r_cVs1 hX dX11_saysWord_13 IJ0_charAt_5068e ml_X11_129 rfl hw rfl (t_charAt (M := wI M i) hw (by omega)) (by decide) (by decide) (by decide) (by decide) rfl (Nat.le_of_ble_eq_true rfl) ?_
    refine r_iV1 hX dX11_saysWord_16 IX11_says ml_X11_325 rfl (LX11_s hL) rfl (t_X11_says (M := wI M i) hL hi.1 (by rw [List.length_append, List.length_take]; omega) (txw_b hw (by omega))) (by decide) (by decide) (by decide) (by decide) rfl (Nat.le_of_ble_eq_true rfl) (fun i1 h1 => ?_)
    show J G base X _ _ (wI M i1) _ _ _
    refine rn_iinc2 hX dX11_saysWord_19 rfl rfl ?_
    refine r_goto (tgt := 2) hX dX11_saysWord_22 (by decide) ?_
    exact ih (by omega) i1 ⟨by rw [take_s (by omega), ← List.append_assoc]; exact h1.1, fun x hx hy => (h1.2.1 x hx hy).trans (hi.2.1 x hx hy), fun k hk => (h1.2.2 k hk).trans (hi.2.2 k hk)⟩
theorem t_X11_saysNm {M : Mm} {a : Nat} {s : List Nat} (hL : LX11 M.1 M.2.1 a) (hs : Tx (mI M) a s) (hl : s.length < 190) {x : Int32} (hx : Nm27 x) : Ct G base YX11_saysName 7 0 0 [.ref a, .int x] M (rI none M (txP M a (s ++ nmT x))) := by
  obtain ⟨w, h1, h6, hz, rfl⟩ := hx
  unfold nmT
  rw [nmW_e h6 hz]
  exact t_X11_saysName hL hs hl h1 h6 hz
theorem t_X11_saysNum {M : Mm} {a : Nat} {s : List Nat} (hL : LX11 M.1 M.2.1 a) (hs : Tx (mI M) a s) (hl : s.length < 190) {v : Nat} (hv : v < 100) : Ct G base YX11_saysNumber 2 0 0 [.ref a, .int (nI v)] M (rI none M (txP M a (s ++ numT v))) := by
  unfold numT
  rw [← List.append_assoc]
  exact t_X11_saysNumber hL hs hl hv
def whT (n : Nat → Int32) (l : Nat) : List Nat := if n (498 + 10 * l + 3) = 0 then txw 7 ++ nmT (n (18 + nv n (498 + 10 * l + 4))) else if n (498 + 10 * l + 3) = 1 then txw 8 ++ numT (nv n (498 + 10 * l + 4)) else if n (498 + 10 * l + 3) = 2 then txw 9 else txw 10
/-- a letter's line -/
def txLt (n : Nat → Int32) (l : Nat) : List Nat := nmT (n (18 + nv n (498 + 10 * l))) ++ [62] ++ nmT (n (18 + nv n (498 + 10 * l + 1))) ++ [32] ++ whT n l ++ (if lateB n l = true then txw 11 else [])
def rs_formatLetter (σ : Sg) (x : Int32) : Int32 ⊕ Nat := match ix (nv σ.1 2) x with
  | none => .inr 1
  | some l => .inl (nI (txLt σ.1 l).length)
def sg_formatLetter (σ : Sg) (x : Int32) : Sg := match ix (nv σ.1 2) x with
  | none => σ
  | some l => txS σ (txLt σ.1 l)
set_option maxHeartbeats 2000000 in
set_option maxRecDepth 20000 in
theorem t_X11_formatLetter {M : Mm} {a : Nat} {σ : Sg} {T : Nat} (hL : LX11 M.1 M.2.1 a) (hR : RI (mI M) a σ) (hO : OkN T σ.1) (hT9 : T < 890000) {x : Int32} : Ct G base YX11_formatLetter 9 0 0 [.ref a, .int x] M (rV M (pQ M a (rs_formatLetter σ x) (sg_formatLetter σ x))) := by
  obtain ⟨hT, hS, hLt, h4, h5, h6, hLo, hSt, hNa⟩ := hO
  have h0 := hT.1
  have h1 := hT.2.1
  have hr := hT.2.2
  have h2 := hLt.1
  have h3 := hLt.2.1
  have hb0 := h0.2
  have hb1 := h1.2
  have hb2 := h2.2
  have hb3 := h3.2
  have hb4 := h4.2
  have ht6 : σ.1 6 = nI (nv σ.1 6) := h6.1
  have hh6 : nv σ.1 6 ≤ T := h6.2
  by_cases hx : ∃ c, c < nv σ.1 2 ∧ x = nI c
  · obtain ⟨l, hl, rfl⟩ := hx
    refine Ct.of IX11_formatLetter.1 (by simp [Value.category]) (Nat.le_of_ble_eq_true rfl) (fun X hX hN => ?_)
    show J G base X 0 0 M 0 [some (.ref a), some (.int (nI l))] []
    refine r_aload_n hX dX11_formatLetter_0 rfl ?_
    refine r_iconst (v := nI 0) hX dX11_formatLetter_1 (by decide) ?_
    refine r_puti hX dX11_formatLetter_2 fl_X11_3 rfl rfl (LX11_s hL) ?_
    refine J.gen (M0 := M) rfl (fun i0 h00 => ?_)
    obtain ⟨hR0, hn0, ht0, ho0⟩ := pub0 hR h00
    clear h00
    refine r_aload_n hX dX11_formatLetter_5 rfl ?_
    refine r_iload_n hX dX11_formatLetter_6 rfl ?_
    refine r_cV1 hX dX11_formatLetter_7 IX11_noLetter ml_X11_298 rfl (LX11_s hL) rfl (t_X11_noLetter1 (M := wI M i0) hL hn0 h2 ⟨l, hl, rfl⟩) (by decide) (by decide) (by decide) (by decide) rfl (Nat.le_of_ble_eq_true rfl) ?_
    refine r_if_eq (tgt := 15) hX dX11_formatLetter_10 (by decide) (fun c10 => ?_) (fun c10 => absurd c10 (by decide))
    refine r_aload_n hX dX11_formatLetter_15 rfl ?_
    refine r_iconst (v := nI 0) hX dX11_formatLetter_16 (by decide) ?_
    refine r_puti hX dX11_formatLetter_17 fl_X11_322 rfl rfl (LX11_s hL) ?_
    refine J.gen (M0 := M) rfl (fun i1 h1 => ?_)
    have hq1 : tq i0 a [] i1 := tq.nil h1
    clear h1
    have hn1 : mI (wI M i1) (a + 1) = σ.1 := (hq1.2.1 _ (by omega) (by omega)).trans hn0
    obtain ⟨f, t, v, s, w, k0, k1, k2, k3, k4, k5, k6, k7, k8, k9, k10, k11, k12, k13, k14⟩ := hLt.2.2 l hl
    have hfb := town_p k5
    have htb := town_p k6
    have eF : nv σ.1 (498 + 10 * l) = f := nv_of k0 (by omega)
    have eT : nv σ.1 (498 + 10 * l + 1) = t := nv_of k1 (by omega)
    have nF := hNa.1 f hfb
    have nT := hNa.1 t htb
    have lF := nmT_len nF
    have lT := nmT_len nT
    have g7 := @txw_s 7
    have g8 := @txw_s 8
    have g9 := @txw_s 9
    have g10 := @txw_s 10
    have g11 := @txw_s 11
    refine r_aload_n hX dX11_formatLetter_20 rfl ?_
    refine r_aload_n hX dX11_formatLetter_21 rfl ?_
    refine r_getr hX dX11_formatLetter_22 fl_X11_13 rfl (LX11_s hL) (LX11_r1 hL) ?_
    refine r_bipush (v := nI 18) hX dX11_formatLetter_25 (by decide) ?_
    refine r_aload_n hX dX11_formatLetter_27 rfl ?_
    refine r_iload_n hX dX11_formatLetter_28 rfl ?_
    refine r_iconst (v := nI 0) hX dX11_formatLetter_29 (by decide) ?_
    refine r_cV2 hX dX11_formatLetter_30 IX11_of ml_X11_67 rfl (LX11_s hL) rfl (t_X11_of (M := wI M i1) hL hn1 (by omega) (by omega)) (by decide) (by decide) (by decide) (by decide) rfl (Nat.le_of_ble_eq_true rfl) ?_
    rw [show σ.1 (498 + 10 * l + 0) = nI f from k0]
    refine rn_iadd hX dX11_formatLetter_33 rfl rfl ?_
    refine rn_iald hX dX11_formatLetter_34 (LX11_a1 hL) rfl (by omega) (by omega) ?_
    rw [hn1]
    refine r_iV1 hX dX11_formatLetter_35 IX11_saysName ml_X11_328 rfl (LX11_s hL) rfl (t_X11_saysNm (M := wI M i1) hL hq1.1 (by simp only [List.length_append, List.length_cons, List.length_nil]; omega) nF) (by decide) (by decide) (by decide) (by decide) rfl (Nat.le_of_ble_eq_true rfl) (fun i101 hq101 => ?_)
    show J G base X _ _ (wI M i101) _ _ _
    replace hq101 := hq1.st hq101
    have hn101 : mI (wI M i101) (a + 1) = σ.1 := (hq101.2.1 _ (by omega) (by omega)).trans hn0
    refine r_aload_n hX dX11_formatLetter_38 rfl ?_
    refine r_bipush (v := nI 62) hX dX11_formatLetter_39 (by decide) ?_
    refine r_iV1 hX dX11_formatLetter_41 IX11_says ml_X11_325 rfl (LX11_s hL) rfl (t_X11_says (M := wI M i101) hL hq101.1 (by simp only [List.length_append, List.length_cons, List.length_nil]; omega) (by omega)) (by decide) (by decide) (by decide) (by decide) rfl (Nat.le_of_ble_eq_true rfl) (fun i102 hq102 => ?_)
    show J G base X _ _ (wI M i102) _ _ _
    replace hq102 := hq101.st hq102
    have hn102 : mI (wI M i102) (a + 1) = σ.1 := (hq102.2.1 _ (by omega) (by omega)).trans hn0
    refine r_aload_n hX dX11_formatLetter_44 rfl ?_
    refine r_aload_n hX dX11_formatLetter_45 rfl ?_
    refine r_getr hX dX11_formatLetter_46 fl_X11_13 rfl (LX11_s hL) (LX11_r1 hL) ?_
    refine r_bipush (v := nI 18) hX dX11_formatLetter_49 (by decide) ?_
    refine r_aload_n hX dX11_formatLetter_51 rfl ?_
    refine r_iload_n hX dX11_formatLetter_52 rfl ?_
    refine r_iconst (v := nI 1) hX dX11_formatLetter_53 (by decide) ?_
    refine r_cV2 hX dX11_formatLetter_54 IX11_of ml_X11_67 rfl (LX11_s hL) rfl (t_X11_of (M := wI M i102) hL hn102 (by omega) (by omega)) (by decide) (by decide) (by decide) (by decide) rfl (Nat.le_of_ble_eq_true rfl) ?_
    rw [k1]
    refine rn_iadd hX dX11_formatLetter_57 rfl rfl ?_
    refine rn_iald hX dX11_formatLetter_58 (LX11_a1 hL) rfl (by omega) (by omega) ?_
    rw [hn102]
    refine r_iV1 hX dX11_formatLetter_59 IX11_saysName ml_X11_328 rfl (LX11_s hL) rfl (t_X11_saysNm (M := wI M i102) hL hq102.1 (by simp only [List.length_append, List.length_cons, List.length_nil]; omega) nT) (by decide) (by decide) (by decide) (by decide) rfl (Nat.le_of_ble_eq_true rfl) (fun i103 hq103 => ?_)
    show J G base X _ _ (wI M i103) _ _ _
    replace hq103 := hq102.st hq103
    have hn103 : mI (wI M i103) (a + 1) = σ.1 := (hq103.2.1 _ (by omega) (by omega)).trans hn0
    refine r_aload_n hX dX11_formatLetter_62 rfl ?_
    refine r_bipush (v := nI 32) hX dX11_formatLetter_63 (by decide) ?_
    refine r_iV1 hX dX11_formatLetter_65 IX11_says ml_X11_325 rfl (LX11_s hL) rfl (t_X11_says (M := wI M i103) hL hq103.1 (by simp only [List.length_append, List.length_cons, List.length_nil]; omega) (by omega)) (by decide) (by decide) (by decide) (by decide) rfl (Nat.le_of_ble_eq_true rfl) (fun i104 hq104 => ?_)
    show J G base X _ _ (wI M i104) _ _ _
    replace hq104 := hq103.st hq104
    have hn104 : mI (wI M i104) (a + 1) = σ.1 := (hq104.2.1 _ (by omega) (by omega)).trans hn0
    refine r_aload_n hX dX11_formatLetter_68 rfl ?_
    refine r_iload_n hX dX11_formatLetter_69 rfl ?_
    refine r_iconst (v := nI 3) hX dX11_formatLetter_70 (by decide) ?_
    refine r_cV2 hX dX11_formatLetter_71 IX11_of ml_X11_67 rfl (LX11_s hL) rfl (t_X11_of (M := wI M i104) hL hn104 (by omega) (by omega)) (by decide) (by decide) (by decide) (by decide) rfl (Nat.le_of_ble_eq_true rfl) ?_
    rw [k3]
    have main : ∀ (i2 : Nat → Nat → Int32) (u : List Nat), tq i0 a (nmT (σ.1 (18 + f)) ++ [62] ++ nmT (σ.1 (18 + t)) ++ [32] ++ u) i2 → u.length ≤ 15 → asc u → whT σ.1 l = u → J G base X 0 0 (wI M i2) 165 [some (.ref a), some (.int (nI l))] [] := by
      intro i2 u hq2 hul hua hwu
      have hn2 : mI (wI M i2) (a + 1) = σ.1 := (hq2.2.1 _ (by omega) (by omega)).trans hn0
      have eL : txLt σ.1 l = nmT (σ.1 (18 + f)) ++ [62] ++ nmT (σ.1 (18 + t)) ++ [32] ++ u ++ (if lateB σ.1 l = true then txw 11 else []) := by
        unfold txLt
        rw [eF, eT, hwu]
      refine r_aload_n hX dX11_formatLetter_165 rfl ?_
      refine r_iload_n hX dX11_formatLetter_166 rfl ?_
      refine r_cV1 hX dX11_formatLetter_167 IX11_comesLate ml_X11_301 rfl (LX11_s hL) rfl (t_X11_comesLate (M := wI M i2) hL hn2 (by omega)) (by decide) (by decide) (by decide) (by decide) rfl (Nat.le_of_ble_eq_true rfl) ?_
      refine rb_if_eq (tgt := 180) hX dX11_formatLetter_170 (by decide) rfl (fun c170 => ?_) (fun c170 => ?_)
      · refine r_aload_n hX dX11_formatLetter_180 rfl ?_
        refine rn_geti (v := nI _) hX dX11_formatLetter_181 fl_X11_322 rfl (LX11_s hL) hq2.1.1 ?_
        refine r_ireturn hX rfl rfl dX11_formatLetter_184 (by decide) (by decide) ?_
        refine ⟨_, i2, rfl, rfl, ?_, ?_, ?_⟩
        · unfold sg_formatLetter
          rw [ix_of hl (by omega)]
          dsimp only
          rw [eL, if_neg c170]
          rw [List.append_nil]
          exact hq2.RI hR0 (((((asc.nm nF).app (asc.one (by omega))).app (asc.nm nT)).app (asc.one (by omega))).app hua) (by simp only [List.length_append, List.length_cons, List.length_nil]; omega)
        · unfold rs_formatLetter
          rw [ix_of hl (by omega)]
          dsimp only
          rw [eL, if_neg c170]
          rw [List.append_nil]
          exact ⟨rfl, (hq2.2.2 0 (by omega)).trans ht0⟩
        · intro x hx k
          exact (congrFun (hq2.2.1 x (by omega) (by omega)) k).trans (ho0 x hx k)
      · refine r_aload_n hX dX11_formatLetter_173 rfl ?_
        refine r_ldcSW (i := 11) hX dX11_formatLetter_174 (show (RX11, 346, 11) ∈ txR by simp [txR]) ?_
        refine r_iV1 hX dX11_formatLetter_177 IX11_saysWord ml_X11_333 rfl (LX11_s hL) rfl (t_X11_saysWord (M := wI M i2) hL hq2.1 (by simp only [List.length_append, List.length_cons, List.length_nil]; omega) (w := 11) (by decide)) (by decide) (by decide) (by decide) (by decide) rfl (Nat.le_of_ble_eq_true rfl) (fun i105 hq105 => ?_)
        show J G base X _ _ (wI M i105) _ _ _
        replace hq105 := hq2.st hq105
        have hn105 : mI (wI M i105) (a + 1) = σ.1 := (hq105.2.1 _ (by omega) (by omega)).trans hn0
        refine r_aload_n hX dX11_formatLetter_180 rfl ?_
        refine rn_geti (v := nI _) hX dX11_formatLetter_181 fl_X11_322 rfl (LX11_s hL) hq105.1.1 ?_
        refine r_ireturn hX rfl rfl dX11_formatLetter_184 (by decide) (by decide) ?_
        refine ⟨_, i105, rfl, rfl, ?_, ?_, ?_⟩
        · unfold sg_formatLetter
          rw [ix_of hl (by omega)]
          dsimp only
          rw [eL, if_pos c170]
          
          exact hq105.RI hR0 ((((((asc.nm nF).app (asc.one (by omega))).app (asc.nm nT)).app (asc.one (by omega))).app hua).app (asc.tx (by omega))) (by simp only [List.length_append, List.length_cons, List.length_nil]; omega)
        · unfold rs_formatLetter
          rw [ix_of hl (by omega)]
          dsimp only
          rw [eL, if_pos c170]
          
          exact ⟨rfl, (hq105.2.2 0 (by omega)).trans ht0⟩
        · intro x hx k
          exact (congrFun (hq105.2.1 x (by omega) (by omega)) k).trans (ho0 x hx k)
    rcases (show s = 0 ∨ s = 1 ∨ s = 2 ∨ s = 3 by omega) with h | h | h | h
    · obtain rfl : s = 0 := h
      have hw := k10 rfl
      have hwb := town_p hw.1
      have eW : nv σ.1 (498 + 10 * l + 4) = w := nv_of k4 (by omega)
      have nW := hNa.1 w hwb
      have lW := nmT_len nW
      refine r_tabIn (off := 26) (tgt := 100) hX dX11_formatLetter_74 (by decide) (by decide) (by decide) (by decide) ?_
      refine r_aload_n hX dX11_formatLetter_100 rfl ?_
      refine r_ldcSW (i := 7) hX dX11_formatLetter_101 (show (RX11, 331, 7) ∈ txR by simp [txR]) ?_
      refine r_iV1 hX dX11_formatLetter_104 IX11_saysWord ml_X11_333 rfl (LX11_s hL) rfl (t_X11_saysWord (M := wI M i104) hL hq104.1 (by simp only [List.length_append, List.length_cons, List.length_nil]; omega) (w := 7) (by decide)) (by decide) (by decide) (by decide) (by decide) rfl (Nat.le_of_ble_eq_true rfl) (fun i106 hq106 => ?_)
      show J G base X _ _ (wI M i106) _ _ _
      replace hq106 := hq104.st hq106
      have hn106 : mI (wI M i106) (a + 1) = σ.1 := (hq106.2.1 _ (by omega) (by omega)).trans hn0
      refine r_aload_n hX dX11_formatLetter_107 rfl ?_
      refine r_aload_n hX dX11_formatLetter_108 rfl ?_
      refine r_getr hX dX11_formatLetter_109 fl_X11_13 rfl (LX11_s hL) (LX11_r1 hL) ?_
      refine r_bipush (v := nI 18) hX dX11_formatLetter_112 (by decide) ?_
      refine r_aload_n hX dX11_formatLetter_114 rfl ?_
      refine r_iload_n hX dX11_formatLetter_115 rfl ?_
      refine r_iconst (v := nI 4) hX dX11_formatLetter_116 (by decide) ?_
      refine r_cV2 hX dX11_formatLetter_117 IX11_of ml_X11_67 rfl (LX11_s hL) rfl (t_X11_of (M := wI M i106) hL hn106 (by omega) (by omega)) (by decide) (by decide) (by decide) (by decide) rfl (Nat.le_of_ble_eq_true rfl) ?_
      rw [k4]
      refine rn_iadd hX dX11_formatLetter_120 rfl rfl ?_
      refine rn_iald hX dX11_formatLetter_121 (LX11_a1 hL) rfl (by omega) (by omega) ?_
      rw [hn106]
      refine r_iV1 hX dX11_formatLetter_122 IX11_saysName ml_X11_328 rfl (LX11_s hL) rfl (t_X11_saysNm (M := wI M i106) hL hq106.1 (by simp only [List.length_append, List.length_cons, List.length_nil]; omega) nW) (by decide) (by decide) (by decide) (by decide) rfl (Nat.le_of_ble_eq_true rfl) (fun i107 hq107 => ?_)
      show J G base X _ _ (wI M i107) _ _ _
      replace hq107 := hq106.st hq107
      have hn107 : mI (wI M i107) (a + 1) = σ.1 := (hq107.2.1 _ (by omega) (by omega)).trans hn0
      refine r_goto (tgt := 165) hX dX11_formatLetter_125 (by decide) ?_
      exact main _ _ (by rw [← List.append_assoc]; exact hq107) (by rw [List.length_append]; omega) ((asc.tx (by omega)).app (asc.nm nW)) (by unfold whT; rw [k3, eW]; rfl)
    · obtain rfl : s = 1 := h
      have hw := k11 rfl
      have eW : nv σ.1 (498 + 10 * l + 4) = w := nv_of k4 (by omega)
      have lW := @numT_len w
      refine r_tabIn (off := 54) (tgt := 128) hX dX11_formatLetter_74 (by decide) (by decide) (by decide) (by decide) ?_
      refine r_aload_n hX dX11_formatLetter_128 rfl ?_
      refine r_ldcSW (i := 8) hX dX11_formatLetter_129 (show (RX11, 337, 8) ∈ txR by simp [txR]) ?_
      refine r_iV1 hX dX11_formatLetter_132 IX11_saysWord ml_X11_333 rfl (LX11_s hL) rfl (t_X11_saysWord (M := wI M i104) hL hq104.1 (by simp only [List.length_append, List.length_cons, List.length_nil]; omega) (w := 8) (by decide)) (by decide) (by decide) (by decide) (by decide) rfl (Nat.le_of_ble_eq_true rfl) (fun i108 hq108 => ?_)
      show J G base X _ _ (wI M i108) _ _ _
      replace hq108 := hq104.st hq108
      have hn108 : mI (wI M i108) (a + 1) = σ.1 := (hq108.2.1 _ (by omega) (by omega)).trans hn0
      refine r_aload_n hX dX11_formatLetter_135 rfl ?_
      refine r_aload_n hX dX11_formatLetter_136 rfl ?_
      refine r_iload_n hX dX11_formatLetter_137 rfl ?_
      refine r_iconst (v := nI 4) hX dX11_formatLetter_138 (by decide) ?_
      refine r_cV2 hX dX11_formatLetter_139 IX11_of ml_X11_67 rfl (LX11_s hL) rfl (t_X11_of (M := wI M i108) hL hn108 (by omega) (by omega)) (by decide) (by decide) (by decide) (by decide) rfl (Nat.le_of_ble_eq_true rfl) ?_
      rw [k4]
      refine r_iV1 hX dX11_formatLetter_142 IX11_saysNumber ml_X11_339 rfl (LX11_s hL) rfl (t_X11_saysNum (M := wI M i108) hL hq108.1 (by simp only [List.length_append, List.length_cons, List.length_nil]; omega) (by omega)) (by decide) (by decide) (by decide) (by decide) rfl (Nat.le_of_ble_eq_true rfl) (fun i109 hq109 => ?_)
      show J G base X _ _ (wI M i109) _ _ _
      replace hq109 := hq108.st hq109
      have hn109 : mI (wI M i109) (a + 1) = σ.1 := (hq109.2.1 _ (by omega) (by omega)).trans hn0
      refine r_goto (tgt := 165) hX dX11_formatLetter_145 (by decide) ?_
      exact main _ _ (by rw [← List.append_assoc]; exact hq109) (by rw [List.length_append]; omega) ((asc.tx (by omega)).app (asc.num (by omega))) (by unfold whT; rw [k3, eW]; rfl)
    · obtain rfl : s = 2 := h
      refine r_tabIn (off := 74) (tgt := 148) hX dX11_formatLetter_74 (by decide) (by decide) (by decide) (by decide) ?_
      refine r_aload_n hX dX11_formatLetter_148 rfl ?_
      refine r_ldcSW (i := 9) hX dX11_formatLetter_149 (show (RX11, 342, 9) ∈ txR by simp [txR]) ?_
      refine r_iV1 hX dX11_formatLetter_152 IX11_saysWord ml_X11_333 rfl (LX11_s hL) rfl (t_X11_saysWord (M := wI M i104) hL hq104.1 (by simp only [List.length_append, List.length_cons, List.length_nil]; omega) (w := 9) (by decide)) (by decide) (by decide) (by decide) (by decide) rfl (Nat.le_of_ble_eq_true rfl) (fun i110 hq110 => ?_)
      show J G base X _ _ (wI M i110) _ _ _
      replace hq110 := hq104.st hq110
      have hn110 : mI (wI M i110) (a + 1) = σ.1 := (hq110.2.1 _ (by omega) (by omega)).trans hn0
      refine r_goto (tgt := 165) hX dX11_formatLetter_155 (by decide) ?_
      exact main _ _ hq110 (by omega) (asc.tx (by omega)) (by unfold whT; rw [k3]; rfl)
    · obtain rfl : s = 3 := h
      refine r_tabOut (tgt := 158) hX dX11_formatLetter_74 (Or.inr (by decide)) (by decide) ?_
      refine r_aload_n hX dX11_formatLetter_158 rfl ?_
      refine r_ldcSW (i := 10) hX dX11_formatLetter_159 (show (RX11, 344, 10) ∈ txR by simp [txR]) ?_
      refine r_iV1 hX dX11_formatLetter_162 IX11_saysWord ml_X11_333 rfl (LX11_s hL) rfl (t_X11_saysWord (M := wI M i104) hL hq104.1 (by simp only [List.length_append, List.length_cons, List.length_nil]; omega) (w := 10) (by decide)) (by decide) (by decide) (by decide) (by decide) rfl (Nat.le_of_ble_eq_true rfl) (fun i111 hq111 => ?_)
      show J G base X _ _ (wI M i111) _ _ _
      replace hq111 := hq104.st hq111
      have hn111 : mI (wI M i111) (a + 1) = σ.1 := (hq111.2.1 _ (by omega) (by omega)).trans hn0
      exact main _ _ hq111 (by omega) (asc.tx (by omega)) (by unfold whT; rw [k3]; rfl)
    
  · refine Ct.of IX11_formatLetter.1 (by simp [Value.category]) (Nat.le_of_ble_eq_true rfl) (fun X hX hN => ?_)
    show J G base X 0 0 M 0 [some (.ref a), some (.int x)] []
    refine r_aload_n hX dX11_formatLetter_0 rfl ?_
    refine r_iconst (v := nI 0) hX dX11_formatLetter_1 (by decide) ?_
    refine r_puti hX dX11_formatLetter_2 fl_X11_3 rfl rfl (LX11_s hL) ?_
    refine J.gen (M0 := M) rfl (fun i0 h00 => ?_)
    obtain ⟨hR0, hn0, ht0, ho0⟩ := pub0 hR h00
    clear h00
    refine r_aload_n hX dX11_formatLetter_5 rfl ?_
    refine r_iload_n hX dX11_formatLetter_6 rfl ?_
    refine r_cV1 hX dX11_formatLetter_7 IX11_noLetter ml_X11_298 rfl (LX11_s hL) rfl (t_X11_noLetter0 (M := wI M i0) hL hn0 h2 hx) (by decide) (by decide) (by decide) (by decide) rfl (Nat.le_of_ble_eq_true rfl) ?_
    refine r_if_eq (tgt := 15) hX dX11_formatLetter_10 (by decide) (fun c10 => absurd c10 (by decide)) (fun c10 => ?_)
    refine r_iconst (v := 0) hX dX11_formatLetter_13 (by decide) ?_
    refine r_ireturn hX rfl rfl dX11_formatLetter_14 (by decide) (by decide) ?_
    obtain ⟨q1, q2, q3⟩ := pub1 hR0 ho0 1
    refine ⟨_, mI (uI (wI M i0) a 0 1), rfl, rfl, ?_, ?_, q3⟩
    · unfold sg_formatLetter
      rw [ix_no hx]
      exact q1
    · unfold rs_formatLetter
      rw [ix_no hx]
      exact q2

