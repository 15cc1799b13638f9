variable {G : GG} {base : Nat}
/-- a contract holds in a larger room -/
theorem Ct.more {G : GG} {base : Nat} {Y : MD} {d d' mc ms : Nat} {av : List Value} {M : Mm} {post : Ot → Mm → Prop} (h : Ct G base Y d mc ms av M post) (hd : d ≤ d') : Ct G base Y d' mc ms av M post := by
  intro l hst p e ha hcs hk s m args below hfr happ hP hK
  obtain ⟨a1, a2, a3, a4, a5, a6, a7, a8⟩ := (Spec.appliesLoose_iff hfr).mp happ
  have key : ∀ pl : Platform, s.hasRoom pl (rmD d' mc ms) = true → s.hasRoom pl (rmD d mc ms) = true := by
    intro pl h9
    simp only [State.hasRoom, Bool.and_eq_true, decide_eq_true_eq] at h9 ⊢
    obtain ⟨⟨⟨⟨b1, b2, b3, b4, b5, b6⟩, b7⟩, b8⟩, b9⟩ := h9
    simp only [rmD] at *
    exact ⟨⟨⟨⟨by omega, by omega, by omega, by omega, by omega, b6⟩, by omega⟩, by omega⟩, b9⟩
  exact h l hst p e ha hcs hk s m args below hfr ((Spec.appliesLoose_iff hfr).mpr ⟨a1, a2, a3, a4, a5, a6, key _ a7, a8⟩) hP hK
/-- the text so far -/
def Tx (i : Nat → Nat → Int32) (a : Nat) (s : List Nat) : Prop := i a 23 = nI s.length ∧ ∀ k, k < s.length → i (a + 13) k = nI (s.getD k 0)
/-- .. changed, and nothing else -/
def txP (M : Mm) (a : Nat) (s : List Nat) (i : Nat → Nat → Int32) : Prop := Tx i a s ∧ (∀ x, x ≠ a → x ≠ a + 13 → i x = mI M x) ∧ ∀ k, k ≠ 23 → i a k = mI M a k
theorem i2b_c {c : Nat} (hc : c < 128) : (nI c).toInt8.toInt32 = nI c := by
  have : ∀ c, c < 128 → (nI c).toInt8.toInt32 = nI c := by decide +kernel
  exact this c hc
theorem nar_c {c : Nat} (hc : c < 128) : vp_nar .byte (nI c) = nI c := by
  have : ∀ c, c < 128 → vp_nar .byte (nI c) = nI c := by decide +kernel
  exact this c hc
theorem getD_snoc {s : List Nat} {c k : Nat} : (s ++ [c]).getD k 0 = if k = s.length then c else s.getD k 0 := by
  by_cases h : k = s.length
  · rw [if_pos h, h]; simp [List.getD]
  · rw [if_neg h]
    by_cases h2 : k < s.length
    · simp [List.getD, List.getElem?_append_left h2]
    · simp only [List.getD]
      rw [List.getElem?_eq_none (by simp; omega), List.getElem?_eq_none (by omega)]
set_option maxHeartbeats 2000000 in
set_option maxRecDepth 20000 in
theorem t_X11_says {M : Mm} {a : Nat} {s : List Nat} (hL : LX11 M.1 M.2.1 a) (hs : Tx (mI M) a s) (hl : s.length < 200) {c : Nat} (hc : c < 128) : Ct G base YX11_says 1 0 0 [.ref a, .int (nI c)] M (rI none M (txP M a (s ++ [c]))) := by
  refine Ct.of IX11_says.1 (by simp [Value.category]) (Nat.le_of_ble_eq_true rfl) (fun X hX hN => ?_)
  show J G base X 0 0 M 0 [some (.ref a), some (.int (nI c))] []
  refine r_aload_n hX dX11_says_0 rfl ?_
  refine r_getr hX dX11_says_1 fl_X11_54 rfl (LX11_s hL) (LX11_r22 hL) ?_
  refine r_aload_n hX dX11_says_4 rfl ?_
  refine rn_geti (v := nI s.length) hX dX11_says_5 fl_X11_322 rfl (LX11_s hL) hs.1 ?_
  refine r_iload_n hX dX11_says_8 rfl ?_
  refine r_i2b hX dX11_says_9 ?_
  rw [i2b_c hc]
  refine rn_bast hX dX11_says_10 (LX11_a22 hL) rfl (by omega) (by omega) ?_
  refine r_aload_n hX dX11_says_11 rfl ?_
  refine r_dup hX dX11_says_12 rfl ?_
  refine rn_geti (v := nI s.length) hX dX11_says_13 fl_X11_322 rfl (LX11_s hL) (by simp [mI_uI]; exact hs.1) ?_
  refine r_iconst (v := nI 1) hX dX11_says_16 (by decide) ?_
  refine rn_iadd hX dX11_says_17 rfl rfl ?_
  refine r_puti hX dX11_says_18 fl_X11_322 rfl rfl (LX11_s hL) ?_
  refine r_return hX rfl dX11_says_21 (by decide) (by decide) ?_
  refine ⟨rfl, mI (uI (uI M (a + 13) s.length (vp_nar .byte (nI c))) a 23 (nI (s.length + 1))), rfl, ⟨?_, fun k hk => ?_⟩, fun x hx hx2 => (uIo hx).trans (uIo hx2), fun k hk => ?_⟩
  · simp [mI_uI]
  · rw [uIo (by omega), nar_c hc, getD_snoc]
    simp only [mI_uI, if_true]
    by_cases e : k = s.length
    · rw [if_pos e, if_pos e]
    · rw [if_neg e, if_neg e]
      simp at hk
      exact hs.2 k (by omega)
  · simp [mI_uI, hk]
set_option maxHeartbeats 2000000 in
set_option maxRecDepth 20000 in
theorem t_X11_saysNumber {M : Mm} {a : Nat} {s : List Nat} (hL : LX11 M.1 M.2.1 a) (hs : Tx (mI M) a s) (hl : s.length < 190) {v : Nat} (hv : v < 100) : Ct G base YX11_saysNumber 2 0 0 [.ref a, .int (nI v)] M (rI none M (txP M a (s ++ (if 9 < v then [48 + v / 10] else []) ++ [48 + v % 10]))) := by
  refine Ct.of IX11_saysNumber.1 (by simp [Value.category]) (Nat.le_of_ble_eq_true rfl) (fun X hX hN => ?_)
  show J G base X 0 0 M 0 [some (.ref a), some (.int (nI v))] []
  refine r_iload_n hX dX11_saysNumber_0 rfl ?_
  refine r_bipush (v := nI 9) hX dX11_saysNumber_1 (by decide) ?_
  refine rn_icmp_le (tgt := 17) hX dX11_saysNumber_3 (by decide) rfl rfl (by omega) (by omega) (fun c3 => ?_) (fun c3 => ?_)
  · refine r_aload_n hX dX11_saysNumber_17 rfl ?_
    refine r_bipush (v := nI 48) hX dX11_saysNumber_18 (by decide) ?_
    refine r_iload_n hX dX11_saysNumber_20 rfl ?_
    refine r_bipush (v := nI 10) hX dX11_saysNumber_21 (by decide) ?_
    refine rn_irem hX dX11_saysNumber_23 rfl rfl (by decide) (by omega) ?_
    refine rn_iadd hX dX11_saysNumber_24 rfl rfl ?_
    refine r_iV1 hX dX11_saysNumber_25 IX11_says ml_X11_325 rfl (LX11_s hL) rfl (t_X11_says hL hs (by omega) (by omega)) (by decide) (by decide) (by decide) (by decide) rfl (Nat.le_of_ble_eq_true rfl) (fun i2 h2 => ?_)
    show J G base X _ _ (wI M i2) _ _ _
    refine r_return hX rfl dX11_saysNumber_28 (by decide) (by decide) ?_
    exact ⟨rfl, i2, rfl, by rw [if_neg (by omega), List.append_nil]; exact h2.1, h2.2.1, h2.2.2⟩
  · refine r_aload_n hX dX11_saysNumber_6 rfl ?_
    refine r_bipush (v := nI 48) hX dX11_saysNumber_7 (by decide) ?_
    refine r_iload_n hX dX11_saysNumber_9 rfl ?_
    refine r_bipush (v := nI 10) hX dX11_saysNumber_10 (by decide) ?_
    refine rn_idiv hX dX11_saysNumber_12 rfl rfl (by decide) (by omega) ?_
    refine rn_iadd hX dX11_saysNumber_13 rfl rfl ?_
    refine r_iV1 hX dX11_saysNumber_14 IX11_says ml_X11_325 rfl (LX11_s hL) rfl (t_X11_says hL hs (by omega) (by omega)) (by decide) (by decide) (by decide) (by decide) rfl (Nat.le_of_ble_eq_true rfl) (fun i1 h1 => ?_)
    show J G base X _ _ (wI M i1) _ _ _
    refine r_aload_n hX dX11_saysNumber_17 rfl ?_
    refine r_bipush (v := nI 48) hX dX11_saysNumber_18 (by decide) ?_
    refine r_iload_n hX dX11_saysNumber_20 rfl ?_
    refine r_bipush (v := nI 10) hX dX11_saysNumber_21 (by decide) ?_
    refine rn_irem hX dX11_saysNumber_23 rfl rfl (by decide) (by omega) ?_
    refine rn_iadd hX dX11_saysNumber_24 rfl rfl ?_
    refine r_iV1 hX dX11_saysNumber_25 IX11_says ml_X11_325 rfl (LX11_s hL) rfl (t_X11_says (M := wI M i1) hL h1.1 (by simp; omega) (by omega)) (by decide) (by decide) (by decide) (by decide) rfl (Nat.le_of_ble_eq_true rfl) (fun i2 h2 => ?_)
    show J G base X _ _ (wI M i2) _ _ _
    refine r_return hX rfl dX11_saysNumber_28 (by decide) (by decide) ?_
    exact ⟨rfl, i2, rfl, by rw [if_pos (by omega)]; exact h2.1, fun x hx hx2 => (h2.2.1 x hx hx2).trans (h1.2.1 x hx hx2), fun k hk => (h2.2.2 k hk).trans (h1.2.2 k hk)⟩
theorem e27_snoc (w : List Nat) (z : Nat) : e27 (w ++ [z]) = 27 * e27 w + z := by simp [e27]
theorem e27_lt' : ∀ (n : Nat) (w : List Nat), w.length = n → (∀ z, z ∈ w → 1 ≤ z ∧ z ≤ 26) → e27 w < 27 ^ n
  | 0, w, hl, _ => by rw [List.eq_nil_of_length_eq_zero hl]; decide
  | n + 1, w, hl, h => by
    obtain ⟨v, z, rfl⟩ : ∃ v z, w = v ++ [z] := ⟨w.dropLast, w.getLast (by intro e; rw [e] at hl; cases hl), (List.dropLast_concat_getLast _).symm⟩
    have h1 := e27_lt' n v (by simpa using hl) (fun y hy => h y (by simp [hy]))
    have h2 := h z (by simp)
    rw [e27_snoc, Nat.pow_succ]
    omega
theorem e27_lt (w : List Nat) (h : ∀ z, z ∈ w → 1 ≤ z ∧ z ≤ 26) : e27 w < 27 ^ w.length := e27_lt' _ w rfl h
theorem e27_pos {w : List Nat} (h : ∀ z, z ∈ w → 1 ≤ z ∧ z ≤ 26) (hne : w ≠ []) : 1 ≤ e27 w := by
  rw [← List.dropLast_concat_getLast hne, e27_snoc]
  have := h (w.getLast hne) (List.getLast_mem hne)
  omega
theorem e27_b {w : List Nat} (h : ∀ z, z ∈ w → 1 ≤ z ∧ z ≤ 26) (h6 : w.length ≤ 6) : e27 w < 387420489 := by
  have h1 := e27_lt w h
  have h2 : 27 ^ w.length ≤ 27 ^ 6 := Nat.pow_le_pow_right (by decide) h6
  have : 27 ^ 6 = 387420489 := by decide
  omega
set_option maxHeartbeats 2000000 in
set_option maxRecDepth 20000 in
theorem t_X11_saysName1 {M : Mm} {a : Nat} {s : List Nat} (hL : LX11 M.1 M.2.1 a) (hs : Tx (mI M) a s) (hl : s.length + 1 < 200) {w : List Nat} (hw : w.length = 1) (hz : ∀ z, z ∈ w → 1 ≤ z ∧ z ≤ 26) : Ct G base YX11_saysName 2 0 0 [.ref a, .int (nI (e27 w))] M (rI none M (txP M a (s ++ w.map (fun y => 96 + y)))) := by
  obtain ⟨v, z, rfl⟩ : ∃ v z, w = v ++ [z] := ⟨w.dropLast, w.getLast (by intro e; rw [e] at hw; cases hw), (List.dropLast_concat_getLast _).symm⟩
  have hvl : v.length = 0 := by simpa using hw
  have hvz : ∀ y, y ∈ v → 1 ≤ y ∧ y ≤ 26 := fun y hy => hz y (by simp [hy])
  have hz1 := hz z (by simp)
  have hvb := e27_b hvz (by omega)
  have hwb := e27_b hz (by omega)
  rw [e27_snoc] at hwb ⊢
  have hm : (v ++ [z]).map (fun y => 96 + y) = v.map (fun y => 96 + y) ++ [96 + z] := by simp
  rw [hm]
  have hv0 : v = [] := List.eq_nil_of_length_eq_zero hvl
  subst hv0
  have e0 : e27 [] = 0 := rfl
  rw [e0] at hvb ⊢
  refine Ct.of IX11_saysName.1 (by simp [Value.category]) (Nat.le_of_ble_eq_true rfl) (fun X hX hN => ?_)
  show J G base X 0 0 M 0 [some (.ref a), some (.int (nI (27 * 0 + z)))] []
  refine r_iload_n hX dX11_saysName_0 rfl ?_
  refine r_bipush (v := nI 26) hX dX11_saysName_1 (by decide) ?_
  refine rn_icmp_le (tgt := 16) hX dX11_saysName_3 (by decide) rfl rfl (by omega) (by omega) (fun c3 => ?_) (fun c3 => by omega)
  refine r_aload_n hX dX11_saysName_16 rfl ?_
  refine r_bipush (v := nI 97) hX dX11_saysName_17 (by decide) ?_
  refine r_iload_n hX dX11_saysName_19 rfl ?_
  refine r_iconst (v := nI 1) hX dX11_saysName_20 (by decide) ?_
  refine rn_isub hX dX11_saysName_21 rfl rfl (by omega) ?_
  refine r_bipush (v := nI 27) hX dX11_saysName_22 (by decide) ?_
  refine rn_irem hX dX11_saysName_24 rfl rfl (by decide) (by omega) ?_
  refine rn_iadd hX dX11_saysName_25 rfl rfl ?_
  rw [show 97 + (27 * 0 + z - 1) % 27 = 96 + z by omega]
  refine r_iV1 hX dX11_saysName_26 IX11_says ml_X11_325 rfl (LX11_s hL) rfl (t_X11_says hL hs (by omega) (by omega)) (by decide) (by decide) (by decide) (by decide) rfl (Nat.le_of_ble_eq_true rfl) (fun i2 h2 => ?_)
  show J G base X _ _ (wI M i2) _ _ _
  refine r_return hX rfl dX11_saysName_29 (by decide) (by decide) ?_
  exact ⟨rfl, i2, rfl, h2.1, h2.2.1, h2.2.2⟩
set_option maxHeartbeats 2000000 in
set_option maxRecDepth 20000 in
theorem t_X11_saysName2 {M : Mm} {a : Nat} {s : List Nat} (hL : LX11 M.1 M.2.1 a) (hs : Tx (mI M) a s) (hl : s.length + 2 < 200) {w : List Nat} (hw : w.length = 2) (hz : ∀ z, z ∈ w → 1 ≤ z ∧ z ≤ 26) : Ct G base YX11_saysName 3 0 0 [.ref a, .int (nI (e27 w))] M (rI none M (txP M a (s ++ w.map (fun y => 96 + y)))) := by
  obtain ⟨v, z, rfl⟩ : ∃ v z, w = v ++ [z] := ⟨w.dropLast, w.getLast (by intro e; rw [e] at hw; cases hw), (List.dropLast_concat_getLast _).symm⟩
  have hvl : v.length = 1 := by simpa using hw
  have hvz : ∀ y, y ∈ v → 1 ≤ y ∧ y ≤ 26 := fun y hy => hz y (by simp [hy])
  have hz1 := hz z (by simp)
  have hvb := e27_b hvz (by omega)
  have hwb := e27_b hz (by omega)
  rw [e27_snoc] at hwb ⊢
  have hm : (v ++ [z]).map (fun y => 96 + y) = v.map (fun y => 96 + y) ++ [96 + z] := by simp
  rw [hm]
  have hvp := e27_pos hvz (by intro e; rw [e] at hvl; cases hvl)
  refine Ct.of IX11_saysName.1 (by simp [Value.category]) (Nat.le_of_ble_eq_true rfl) (fun X hX hN => ?_)
  show J G base X 0 0 M 0 [some (.ref a), some (.int (nI (27 * e27 v + z)))] []
  refine r_iload_n hX dX11_saysName_0 rfl ?_
  refine r_bipush (v := nI 26) hX dX11_saysName_1 (by decide) ?_
  refine rn_icmp_le (tgt := 16) hX dX11_saysName_3 (by decide) rfl rfl (by omega) (by omega) (fun c3 => by omega) (fun c3 => ?_)
  refine r_aload_n hX dX11_saysName_6 rfl ?_
  refine r_iload_n hX dX11_saysName_7 rfl ?_
  refine r_iconst (v := nI 1) hX dX11_saysName_8 (by decide) ?_
  refine rn_isub hX dX11_saysName_9 rfl rfl (by omega) ?_
  refine r_bipush (v := nI 27) hX dX11_saysName_10 (by decide) ?_
  refine rn_idiv hX dX11_saysName_12 rfl rfl (by decide) (by omega) ?_
  rw [show (27 * e27 v + z - 1) / 27 = e27 v by omega]
  refine r_iV1 hX dX11_saysName_13 IX11_saysName ml_X11_328 rfl (LX11_s hL) rfl (t_X11_saysName1 hL hs (by omega) hvl hvz) (by decide) (by decide) (by decide) (by decide) rfl (Nat.le_of_ble_eq_true rfl) (fun i1 h1 => ?_)
  show J G base X _ _ (wI M i1) _ _ _
  refine r_aload_n hX dX11_saysName_16 rfl ?_
  refine r_bipush (v := nI 97) hX dX11_saysName_17 (by decide) ?_
  refine r_iload_n hX dX11_saysName_19 rfl ?_
  refine r_iconst (v := nI 1) hX dX11_saysName_20 (by decide) ?_
  refine rn_isub hX dX11_saysName_21 rfl rfl (by omega) ?_
  refine r_bipush (v := nI 27) hX dX11_saysName_22 (by decide) ?_
  refine rn_irem hX dX11_saysName_24 rfl rfl (by decide) (by omega) ?_
  refine rn_iadd hX dX11_saysName_25 rfl rfl ?_
  rw [show 97 + (27 * e27 v + z - 1) % 27 = 96 + z by omega]
  refine r_iV1 hX dX11_saysName_26 IX11_says ml_X11_325 rfl (LX11_s hL) rfl (t_X11_says (M := wI M i1) hL h1.1 (by simp; omega) (by omega)) (by decide) (by decide) (by decide) (by decide) rfl (Nat.le_of_ble_eq_true rfl) (fun i2 h2 => ?_)
  show J G base X _ _ (wI M i2) _ _ _
  refine r_return hX rfl dX11_saysName_29 (by decide) (by decide) ?_
  exact ⟨rfl, i2, rfl, by rw [← List.append_assoc]; exact h2.1, fun x hx hx2 => (h2.2.1 x hx hx2).trans (h1.2.1 x hx hx2), fun k hk => (h2.2.2 k hk).trans (h1.2.2 k hk)⟩
set_option maxHeartbeats 2000000 in
set_option maxRecDepth 20000 in
theorem t_X11_saysName3 {M : Mm} {a : Nat} {s : List Nat} (hL : LX11 M.1 M.2.1 a) (hs : Tx (mI M) a s) (hl : s.length + 3 < 200) {w : List Nat} (hw : w.length = 3) (hz : ∀ z, z ∈ w → 1 ≤ z ∧ z ≤ 26) : Ct G base YX11_saysName 4 0 0 [.ref a, .int (nI (e27 w))] M (rI none M (txP M a (s ++ w.map (fun y => 96 + y)))) := by
  obtain ⟨v, z, rfl⟩ : ∃ v z, w = v ++ [z] := ⟨w.dropLast, w.getLast (by intro e; rw [e] at hw; cases hw), (List.dropLast_concat_getLast _).symm⟩
  have hvl : v.length = 2 := by simpa using hw
  have hvz : ∀ y, y ∈ v → 1 ≤ y ∧ y ≤ 26 := fun y hy => hz y (by simp [hy])
  have hz1 := hz z (by simp)
  have hvb := e27_b hvz (by omega)
  have hwb := e27_b hz (by omega)
  rw [e27_snoc] at hwb ⊢
  have hm : (v ++ [z]).map (fun y => 96 + y) = v.map (fun y => 96 + y) ++ [96 + z] := by simp
  rw [hm]
  have hvp := e27_pos hvz (by intro e; rw [e] at hvl; cases hvl)
  refine Ct.of IX11_saysName.1 (by simp [Value.category]) (Nat.le_of_ble_eq_true rfl) (fun X hX hN => ?_)
  show J G base X 0 0 M 0 [some (.ref a), some (.int (nI (27 * e27 v + z)))] []
  refine r_iload_n hX dX11_saysName_0 rfl ?_
  refine r_bipush (v := nI 26) hX dX11_saysName_1 (by decide) ?_
  refine rn_icmp_le (tgt := 16) hX dX11_saysName_3 (by decide) rfl rfl (by omega) (by omega) (fun c3 => by omega) (fun c3 => ?_)
  refine r_aload_n hX dX11_saysName_6 rfl ?_
  refine r_iload_n hX dX11_saysName_7 rfl ?_
  refine r_iconst (v := nI 1) hX dX11_saysName_8 (by decide) ?_
  refine rn_isub hX dX11_saysName_9 rfl rfl (by omega) ?_
  refine r_bipush (v := nI 27) hX dX11_saysName_10 (by decide) ?_
  refine rn_idiv hX dX11_saysName_12 rfl rfl (by decide) (by omega) ?_
  rw [show (27 * e27 v + z - 1) / 27 = e27 v by omega]
  refine r_iV1 hX dX11_saysName_13 IX11_saysName ml_X11_328 rfl (LX11_s hL) rfl (t_X11_saysName2 hL hs (by omega) hvl hvz) (by decide) (by decide) (by decide) (by decide) rfl (Nat.le_of_ble_eq_true rfl) (fun i1 h1 => ?_)
  show J G base X _ _ (wI M i1) _ _ _
  refine r_aload_n hX dX11_saysName_16 rfl ?_
  refine r_bipush (v := nI 97) hX dX11_saysName_17 (by decide) ?_
  refine r_iload_n hX dX11_saysName_19 rfl ?_
  refine r_iconst (v := nI 1) hX dX11_saysName_20 (by decide) ?_
  refine rn_isub hX dX11_saysName_21 rfl rfl (by omega) ?_
  refine r_bipush (v := nI 27) hX dX11_saysName_22 (by decide) ?_
  refine rn_irem hX dX11_saysName_24 rfl rfl (by decide) (by omega) ?_
  refine rn_iadd hX dX11_saysName_25 rfl rfl ?_
  rw [show 97 + (27 * e27 v + z - 1) % 27 = 96 + z by omega]
  refine r_iV1 hX dX11_saysName_26 IX11_says ml_X11_325 rfl (LX11_s hL) rfl (t_X11_says (M := wI M i1) hL h1.1 (by simp; omega) (by omega)) (by decide) (by decide) (by decide) (by decide) rfl (Nat.le_of_ble_eq_true rfl) (fun i2 h2 => ?_)
  show J G base X _ _ (wI M i2) _ _ _
  refine r_return hX rfl dX11_saysName_29 (by decide) (by decide) ?_
  exact ⟨rfl, i2, rfl, by rw [← List.append_assoc]; exact h2.1, fun x hx hx2 => (h2.2.1 x hx hx2).trans (h1.2.1 x hx hx2), fun k hk => (h2.2.2 k hk).trans (h1.2.2 k hk)⟩
set_option maxHeartbeats 2000000 in
set_option maxRecDepth 20000 in
theorem t_X11_saysName4 {M : Mm} {a : Nat} {s : List Nat} (hL : LX11 M.1 M.2.1 a) (hs : Tx (mI M) a s) (hl : s.length + 4 < 200) {w : List Nat} (hw : w.length = 4) (hz : ∀ z, z ∈ w → 1 ≤ z ∧ z ≤ 26) : Ct G base YX11_saysName 5 0 0 [.ref a, .int (nI (e27 w))] M (rI none M (txP M a (s ++ w.map (fun y => 96 + y)))) := by
  obtain ⟨v, z, rfl⟩ : ∃ v z, w = v ++ [z] := ⟨w.dropLast, w.getLast (by intro e; rw [e] at hw; cases hw), (List.dropLast_concat_getLast _).symm⟩
  have hvl : v.length = 3 := by simpa using hw
  have hvz : ∀ y, y ∈ v → 1 ≤ y ∧ y ≤ 26 := fun y hy => hz y (by simp [hy])
  have hz1 := hz z (by simp)
  have hvb := e27_b hvz (by omega)
  have hwb := e27_b hz (by omega)
  rw [e27_snoc] at hwb ⊢
  have hm : (v ++ [z]).map (fun y => 96 + y) = v.map (fun y => 96 + y) ++ [96 + z] := by simp
  rw [hm]
  have hvp := e27_pos hvz (by intro e; rw [e] at hvl; cases hvl)
  refine Ct.of IX11_saysName.1 (by simp [Value.category]) (Nat.le_of_ble_eq_true rfl) (fun X hX hN => ?_)
  show J G base X 0 0 M 0 [some (.ref a), some (.int (nI (27 * e27 v + z)))] []
  refine r_iload_n hX dX11_saysName_0 rfl ?_
  refine r_bipush (v := nI 26) hX dX11_saysName_1 (by decide) ?_
  refine rn_icmp_le (tgt := 16) hX dX11_saysName_3 (by decide) rfl rfl (by omega) (by omega) (fun c3 => by omega) (fun c3 => ?_)
  refine r_aload_n hX dX11_saysName_6 rfl ?_
  refine r_iload_n hX dX11_saysName_7 rfl ?_
  refine r_iconst (v := nI 1) hX dX11_saysName_8 (by decide) ?_
  refine rn_isub hX dX11_saysName_9 rfl rfl (by omega) ?_
  refine r_bipush (v := nI 27) hX dX11_saysName_10 (by decide) ?_
  refine rn_idiv hX dX11_saysName_12 rfl rfl (by decide) (by omega) ?_
  rw [show (27 * e27 v + z - 1) / 27 = e27 v by omega]
  refine r_iV1 hX dX11_saysName_13 IX11_saysName ml_X11_328 rfl (LX11_s hL) rfl (t_X11_saysName3 hL hs (by omega) hvl hvz) (by decide) (by decide) (by decide) (by decide) rfl (Nat.le_of_ble_eq_true rfl) (fun i1 h1 => ?_)
  show J G base X _ _ (wI M i1) _ _ _
  refine r_aload_n hX dX11_saysName_16 rfl ?_
  refine r_bipush (v := nI 97) hX dX11_saysName_17 (by decide) ?_
  refine r_iload_n hX dX11_saysName_19 rfl ?_
  refine r_iconst (v := nI 1) hX dX11_saysName_20 (by decide) ?_
  refine rn_isub hX dX11_saysName_21 rfl rfl (by omega) ?_
  refine r_bipush (v := nI 27) hX dX11_saysName_22 (by decide) ?_
  refine rn_irem hX dX11_saysName_24 rfl rfl (by decide) (by omega) ?_
  refine rn_iadd hX dX11_saysName_25 rfl rfl ?_
  rw [show 97 + (27 * e27 v + z - 1) % 27 = 96 + z by omega]
  refine r_iV1 hX dX11_saysName_26 IX11_says ml_X11_325 rfl (LX11_s hL) rfl (t_X11_says (M := wI M i1) hL h1.1 (by simp; omega) (by omega)) (by decide) (by decide) (by decide) (by decide) rfl (Nat.le_of_ble_eq_true rfl) (fun i2 h2 => ?_)
  show J G base X _ _ (wI M i2) _ _ _
  refine r_return hX rfl dX11_saysName_29 (by decide) (by decide) ?_
  exact ⟨rfl, i2, rfl, by rw [← List.append_assoc]; exact h2.1, fun x hx hx2 => (h2.2.1 x hx hx2).trans (h1.2.1 x hx hx2), fun k hk => (h2.2.2 k hk).trans (h1.2.2 k hk)⟩
set_option maxHeartbeats 2000000 in
set_option maxRecDepth 20000 in
theorem t_X11_saysName5 {M : Mm} {a : Nat} {s : List Nat} (hL : LX11 M.1 M.2.1 a) (hs : Tx (mI M) a s) (hl : s.length + 5 < 200) {w : List Nat} (hw : w.length = 5) (hz : ∀ z, z ∈ w → 1 ≤ z ∧ z ≤ 26) : Ct G base YX11_saysName 6 0 0 [.ref a, .int (nI (e27 w))] M (rI none M (txP M a (s ++ w.map (fun y => 96 + y)))) := by
  obtain ⟨v, z, rfl⟩ : ∃ v z, w = v ++ [z] := ⟨w.dropLast, w.getLast (by intro e; rw [e] at hw; cases hw), (List.dropLast_concat_getLast _).symm⟩
  have hvl : v.length = 4 := by simpa using hw
  have hvz : ∀ y, y ∈ v → 1 ≤ y ∧ y ≤ 26 := fun y hy => hz y (by simp [hy])
  have hz1 := hz z (by simp)
  have hvb := e27_b hvz (by omega)
  have hwb := e27_b hz (by omega)
  rw [e27_snoc] at hwb ⊢
  have hm : (v ++ [z]).map (fun y => 96 + y) = v.map (fun y => 96 + y) ++ [96 + z] := by simp
  rw [hm]
  have hvp := e27_pos hvz (by intro e; rw [e] at hvl; cases hvl)
  refine Ct.of IX11_saysName.1 (by simp [Value.category]) (Nat.le_of_ble_eq_true rfl) (fun X hX hN => ?_)
  show J G base X 0 0 M 0 [some (.ref a), some (.int (nI (27 * e27 v + z)))] []
  refine r_iload_n hX dX11_saysName_0 rfl ?_
  refine r_bipush (v := nI 26) hX dX11_saysName_1 (by decide) ?_
  refine rn_icmp_le (tgt := 16) hX dX11_saysName_3 (by decide) rfl rfl (by omega) (by omega) (fun c3 => by omega) (fun c3 => ?_)
  refine r_aload_n hX dX11_saysName_6 rfl ?_
  refine r_iload_n hX dX11_saysName_7 rfl ?_
  refine r_iconst (v := nI 1) hX dX11_saysName_8 (by decide) ?_
  refine rn_isub hX dX11_saysName_9 rfl rfl (by omega) ?_
  refine r_bipush (v := nI 27) hX dX11_saysName_10 (by decide) ?_
  refine rn_idiv hX dX11_saysName_12 rfl rfl (by decide) (by omega) ?_
  rw [show (27 * e27 v + z - 1) / 27 = e27 v by omega]
  refine r_iV1 hX dX11_saysName_13 IX11_saysName ml_X11_328 rfl (LX11_s hL) rfl (t_X11_saysName4 hL hs (by omega) hvl hvz) (by decide) (by decide) (by decide) (by decide) rfl (Nat.le_of_ble_eq_true rfl) (fun i1 h1 => ?_)
  show J G base X _ _ (wI M i1) _ _ _
  refine r_aload_n hX dX11_saysName_16 rfl ?_
  refine r_bipush (v := nI 97) hX dX11_saysName_17 (by decide) ?_
  refine r_iload_n hX dX11_saysName_19 rfl ?_
  refine r_iconst (v := nI 1) hX dX11_saysName_20 (by decide) ?_
  refine rn_isub hX dX11_saysName_21 rfl rfl (by omega) ?_
  refine r_bipush (v := nI 27) hX dX11_saysName_22 (by decide) ?_
  refine rn_irem hX dX11_saysName_24 rfl rfl (by decide) (by omega) ?_
  refine rn_iadd hX dX11_saysName_25 rfl rfl ?_
  rw [show 97 + (27 * e27 v + z - 1) % 27 = 96 + z by omega]
  refine r_iV1 hX dX11_saysName_26 IX11_says ml_X11_325 rfl (LX11_s hL) rfl (t_X11_says (M := wI M i1) hL h1.1 (by simp; omega) (by omega)) (by decide) (by decide) (by decide) (by decide) rfl (Nat.le_of_ble_eq_true rfl) (fun i2 h2 => ?_)
  show J G base X _ _ (wI M i2) _ _ _
  refine r_return hX rfl dX11_saysName_29 (by decide) (by decide) ?_
  exact ⟨rfl, i2, rfl, by rw [← List.append_assoc]; exact h2.1, fun x hx hx2 => (h2.2.1 x hx hx2).trans (h1.2.1 x hx hx2), fun k hk => (h2.2.2 k hk).trans (h1.2.2 k hk)⟩
set_option maxHeartbeats 2000000 in
set_option maxRecDepth 20000 in
theorem t_X11_saysName6 {M : Mm} {a : Nat} {s : List Nat} (hL : LX11 M.1 M.2.1 a) (hs : Tx (mI M) a s) (hl : s.length + 6 < 200) {w : List Nat} (hw : w.length = 6) (hz : ∀ z, z ∈ w → 1 ≤ z ∧ z ≤ 26) : Ct G base YX11_saysName 7 0 0 [.ref a, .int (nI (e27 w))] M (rI none M (txP M a (s ++ w.map (fun y => 96 + y)))) := by
  obtain ⟨v, z, rfl⟩ : ∃ v z, w = v ++ [z] := ⟨w.dropLast, w.getLast (by intro e; rw [e] at hw; cases hw), (List.dropLast_concat_getLast _).symm⟩
  have hvl : v.length = 5 := by simpa using hw
  have hvz : ∀ y, y ∈ v → 1 ≤ y ∧ y ≤ 26 := fun y hy => hz y (by simp [hy])
  have hz1 := hz z (by simp)
  have hvb := e27_b hvz (by omega)
  have hwb := e27_b hz (by omega)
  rw [e27_snoc] at hwb ⊢
  have hm : (v ++ [z]).map (fun y => 96 + y) = v.map (fun y => 96 + y) ++ [96 + z] := by simp
  rw [hm]
  have hvp := e27_pos hvz (by intro e; rw [e] at hvl; cases hvl)
  refine Ct.of IX11_saysName.1 (by simp [Value.category]) (Nat.le_of_ble_eq_true rfl) (fun X hX hN => ?_)
  show J G base X 0 0 M 0 [some (.ref a), some (.int (nI (27 * e27 v + z)))] []
  refine r_iload_n hX dX11_saysName_0 rfl ?_
  refine r_bipush (v := nI 26) hX dX11_saysName_1 (by decide) ?_
  refine rn_icmp_le (tgt := 16) hX dX11_saysName_3 (by decide) rfl rfl (by omega) (by omega) (fun c3 => by omega) (fun c3 => ?_)
  refine r_aload_n hX dX11_saysName_6 rfl ?_
  refine r_iload_n hX dX11_saysName_7 rfl ?_
  refine r_iconst (v := nI 1) hX dX11_saysName_8 (by decide) ?_
  refine rn_isub hX dX11_saysName_9 rfl rfl (by omega) ?_
  refine r_bipush (v := nI 27) hX dX11_saysName_10 (by decide) ?_
  refine rn_idiv hX dX11_saysName_12 rfl rfl (by decide) (by omega) ?_
  rw [show (27 * e27 v + z - 1) / 27 = e27 v by omega]
  refine r_iV1 hX dX11_saysName_13 IX11_saysName ml_X11_328 rfl (LX11_s hL) rfl (t_X11_saysName5 hL hs (by omega) hvl hvz) (by decide) (by decide) (by decide) (by decide) rfl (Nat.le_of_ble_eq_true rfl) (fun i1 h1 => ?_)
  show J G base X _ _ (wI M i1) _ _ _
  refine r_aload_n hX dX11_saysName_16 rfl ?_
  refine r_bipush (v := nI 97) hX dX11_saysName_17 (by decide) ?_
  refine r_iload_n hX dX11_saysName_19 rfl ?_
  refine r_iconst (v := nI 1) hX dX11_saysName_20 (by decide) ?_
  refine rn_isub hX dX11_saysName_21 rfl rfl (by omega) ?_
  refine r_bipush (v := nI 27) hX dX11_saysName_22 (by decide) ?_
  refine rn_irem hX dX11_saysName_24 rfl rfl (by decide) (by omega) ?_
  refine rn_iadd hX dX11_saysName_25 rfl rfl ?_
  rw [show 97 + (27 * e27 v + z - 1) % 27 = 96 + z by omega]
  refine r_iV1 hX dX11_saysName_26 IX11_says ml_X11_325 rfl (LX11_s hL) rfl (t_X11_says (M := wI M i1) hL h1.1 (by simp; omega) (by omega)) (by decide) (by decide) (by decide) (by decide) rfl (Nat.le_of_ble_eq_true rfl) (fun i2 h2 => ?_)
  show J G base X _ _ (wI M i2) _ _ _
  refine r_return hX rfl dX11_saysName_29 (by decide) (by decide) ?_
  exact ⟨rfl, i2, rfl, by rw [← List.append_assoc]; exact h2.1, fun x hx hx2 => (h2.2.1 x hx hx2).trans (h1.2.1 x hx hx2), fun k hk => (h2.2.2 k hk).trans (h1.2.2 k hk)⟩
theorem t_X11_saysName {M : Mm} {a : Nat} {s : List Nat} (hL : LX11 M.1 M.2.1 a) (hs : Tx (mI M) a s) (hl : s.length < 190) {w : List Nat} (h1 : 1 ≤ w.length) (h6 : w.length ≤ 6) (hz : ∀ z, z ∈ w → 1 ≤ z ∧ z ≤ 26) : Ct G base YX11_saysName 7 0 0 [.ref a, .int (nI (e27 w))] M (rI none M (txP M a (s ++ w.map (fun y => 96 + y)))) := by
  rcases (show w.length = 1 ∨ w.length = 2 ∨ w.length = 3 ∨ w.length = 4 ∨ w.length = 5 ∨ w.length = 6 by omega) with h | h | h | h | h | h
  · exact (t_X11_saysName1 hL hs (by omega) h hz).more (by decide)
  · exact (t_X11_saysName2 hL hs (by omega) h hz).more (by decide)
  · exact (t_X11_saysName3 hL hs (by omega) h hz).more (by decide)
  · exact (t_X11_saysName4 hL hs (by omega) h hz).more (by decide)
  · exact (t_X11_saysName5 hL hs (by omega) h hz).more (by decide)
  · exact (t_X11_saysName6 hL hs (by omega) h hz).more (by decide)
def rs_formattedByte (σ : Sg) (x : Int32) : Int32 ⊕ Nat := match ix σ.2.2.2.2.2.2.2.2.2 x with
  | none => .inl (-1)
  | some k => .inl (nI (σ.2.2.2.2.2.2.2.2.1 k))
set_option maxHeartbeats 2000000 in
set_option maxRecDepth 20000 in
theorem t_X11_formattedByte {M : Mm} {a : Nat} {σ : Sg} {T : Nat} (hL : LX11 M.1 M.2.1 a) (hR : RI (mI M) a σ) (hO : OkN T σ.1) (hT9 : T < 890000) {x : Int32} : Ct G base YX11_formattedByte 2 0 0 [.ref a, .int x] M (rV M (pQ M a (rs_formattedByte σ x) σ)) := by
  obtain ⟨hT, hS, hLt, h4, h5, h6, hLo, hSt, hNa⟩ := hO
  have h0 := hT.1
  have h1 := hT.2.1
  have hr := hT.2.2
  have h2 := hLt.1
  have h3 := hLt.2.1
  have hb0 := h0.2
  have hb1 := h1.2
  have hb2 := h2.2
  have hb3 := h3.2
  have hb4 := h4.2
  have ht6 : σ.1 6 = nI (nv σ.1 6) := h6.1
  have hh6 : nv σ.1 6 ≤ T := h6.2
  have hwr := hR.2.2.2.2.2.2.2.2.2.2
  by_cases hx : ∃ c, c < σ.2.2.2.2.2.2.2.2.2 ∧ x = nI c
  · obtain ⟨k, hk, rfl⟩ := hx
    refine Ct.of IX11_formattedByte.1 (by simp [Value.category]) (Nat.le_of_ble_eq_true rfl) (fun X hX hN => ?_)
    show J G base X 0 0 M 0 [some (.ref a), some (.int (nI k))] []
    refine r_aload_n hX dX11_formattedByte_0 rfl ?_
    refine r_iconst (v := nI 0) hX dX11_formattedByte_1 (by decide) ?_
    refine r_puti hX dX11_formattedByte_2 fl_X11_3 rfl rfl (LX11_s hL) ?_
    refine J.gen (M0 := M) rfl (fun i0 h00 => ?_)
    obtain ⟨hR0, hn0, ht0, ho0⟩ := pub0 hR h00
    clear h00
    refine r_iload_n hX dX11_formattedByte_5 rfl ?_
    refine r_iconst (v := nI 0) hX dX11_formattedByte_6 (by decide) ?_
    refine r_aload_n hX dX11_formattedByte_7 rfl ?_
    refine rn_geti (v := nI σ.2.2.2.2.2.2.2.2.2) hX dX11_formattedByte_8 fl_X11_322 rfl (LX11_s hL) hR0.2.2.2.2.2.2.2.2.2.1 ?_
    refine r_iconst (v := 1) hX dX11_formattedByte_11 (by decide) ?_
    refine r_isub hX dX11_formattedByte_12 ?_
    refine r_cS3 hX dX11_formattedByte_13 IX11_in ml_X11_79 rfl (t_X11_in (M := wI M i0) ) (by decide) (by decide) (by decide) (by decide) rfl (Nat.le_of_ble_eq_true rfl) ?_
    refine rb_if_eq (tgt := 28) hX dX11_formattedByte_16 (by decide) rfl (fun c16 => absurd ((rng (by omega)).mpr ⟨k, hk, rfl⟩) c16) (fun c16 => ?_)
    refine r_aload_n hX dX11_formattedByte_19 rfl ?_
    refine r_getr hX dX11_formattedByte_20 fl_X11_54 rfl (LX11_s hL) (LX11_r22 hL) ?_
    refine r_iload_n hX dX11_formattedByte_23 rfl ?_
    refine rn_bald hX dX11_formattedByte_24 (LX11_a22 hL) rfl (by omega) (by omega) ?_
    rw [show mI (wI M i0) (a + 13) k = nI (σ.2.2.2.2.2.2.2.2.1 k) from (hR0.2.2.2.2.2.2.2.2.1 k hk).2]
    refine r_goto (tgt := 29) hX dX11_formattedByte_25 (by decide) ?_
    refine r_ireturn hX rfl rfl dX11_formattedByte_29 (by decide) (by decide) ?_
    refine ⟨_, i0, rfl, rfl, hR0, ?_, ho0⟩
    unfold rs_formattedByte
    rw [ix_of hk (by omega)]
    exact ⟨rfl, ht0⟩
  · refine Ct.of IX11_formattedByte.1 (by simp [Value.category]) (Nat.le_of_ble_eq_true rfl) (fun X hX hN => ?_)
    show J G base X 0 0 M 0 [some (.ref a), some (.int x)] []
    refine r_aload_n hX dX11_formattedByte_0 rfl ?_
    refine r_iconst (v := nI 0) hX dX11_formattedByte_1 (by decide) ?_
    refine r_puti hX dX11_formattedByte_2 fl_X11_3 rfl rfl (LX11_s hL) ?_
    refine J.gen (M0 := M) rfl (fun i0 h00 => ?_)
    obtain ⟨hR0, hn0, ht0, ho0⟩ := pub0 hR h00
    clear h00
    refine r_iload_n hX dX11_formattedByte_5 rfl ?_
    refine r_iconst (v := nI 0) hX dX11_formattedByte_6 (by decide) ?_
    refine r_aload_n hX dX11_formattedByte_7 rfl ?_
    refine rn_geti (v := nI σ.2.2.2.2.2.2.2.2.2) hX dX11_formattedByte_8 fl_X11_322 rfl (LX11_s hL) hR0.2.2.2.2.2.2.2.2.2.1 ?_
    refine r_iconst (v := 1) hX dX11_formattedByte_11 (by decide) ?_
    refine r_isub hX dX11_formattedByte_12 ?_
    refine r_cS3 hX dX11_formattedByte_13 IX11_in ml_X11_79 rfl (t_X11_in (M := wI M i0) ) (by decide) (by decide) (by decide) (by decide) rfl (Nat.le_of_ble_eq_true rfl) ?_
    refine rb_if_eq (tgt := 28) hX dX11_formattedByte_16 (by decide) rfl (fun c16 => ?_) (fun c16 => absurd ((rng (by omega)).mp c16) hx)
    refine r_iconst (v := (-1)) hX dX11_formattedByte_28 (by decide) ?_
    refine r_ireturn hX rfl rfl dX11_formattedByte_29 (by decide) (by decide) ?_
    refine ⟨_, i0, rfl, rfl, hR0, ?_, ho0⟩
    unfold rs_formattedByte
    rw [ix_no hx]
    exact ⟨rfl, ht0⟩

/-- the first of m names from a place on -/
def fnN (n : Nat → Int32) (from_ : Nat) (v : Int32) (m : Nat) : Int32 := fstF (fun k => decide (n (from_ + k) = v)) m
set_option maxHeartbeats 2000000 in
set_option maxRecDepth 20000 in
theorem t_X11_find {M : Mm} {a : Nat} {n : Nat → Int32} (hL : LX11 M.1 M.2.1 a) (hn : mI M (a + 1) = n) {f m : Nat} (hf : f < 100) (hm : m ≤ 10) {v : Int32} : Ct G base YX11_find 1 0 0 [.ref a, .int (nI f), .int (nI m), .int v] M (rE (some (.int (fnN n f v m))) M) := by
  refine Ct.of IX11_find.1 (by simp [Value.category]) (Nat.le_of_ble_eq_true rfl) (fun X hX hN => ?_)
  show J G base X 0 0 M 0 [some (.ref a), some (.int (nI f)), some (.int (nI m)), some (.int v), none] []
  refine r_iconst (v := nI 0) hX dX11_find_0 (by decide) ?_
  refine r_istore4 hX dX11_find_1 rfl ?_
  refine loop_up (P := fun j => fnN n f v j = -1 → J G base X 0 0 M 3 [some (.ref a), some (.int (nI f)), some (.int (nI m)), some (.int v), some (.int (nI j))] []) m (fun j hj ih hno => ?_) 0 (Nat.zero_le _) rfl
  refine r_iload hX dX11_find_3 rfl ?_
  refine r_iload_n hX dX11_find_5 rfl ?_
  refine rn_icmp_ge (tgt := 31) hX dX11_find_6 (by decide) rfl rfl (by omega) (by omega) (fun c6 => ?_) (fun c6 => ?_)
  · refine r_iconst (v := (-1)) hX dX11_find_31 (by decide) ?_
    refine r_ireturn hX rfl rfl dX11_find_32 (by decide) (by decide) ?_
    obtain rfl : j = m := by omega
    exact ⟨by rw [hno], rfl⟩
  · refine r_aload_n hX dX11_find_9 rfl ?_
    refine r_getr hX dX11_find_10 fl_X11_13 rfl (LX11_s hL) (LX11_r1 hL) ?_
    refine r_iload_n hX dX11_find_13 rfl ?_
    refine r_iload hX dX11_find_14 rfl ?_
    refine rn_iadd hX dX11_find_16 rfl rfl ?_
    refine rn_iald hX dX11_find_17 (LX11_a1 hL) rfl (by omega) (by omega) ?_
    rw [hn]
    refine r_iload_n hX dX11_find_18 rfl ?_
    refine r_icmp_ne (tgt := 25) hX dX11_find_19 (by decide) (fun c19 => ?_) (fun c19 => ?_)
    · refine rn_iinc4 hX dX11_find_25 rfl rfl ?_
      refine r_goto (tgt := 3) hX dX11_find_28 (by decide) ?_
      exact ih (by omega) (fstF_no hno (by simp only [decide_eq_true_eq]; exact c19))
    · refine r_iload hX dX11_find_22 rfl ?_
      refine r_ireturn hX rfl rfl dX11_find_24 (by decide) (by decide) ?_
      exact ⟨by rw [fnN, fstF_stay (j := j) (by omega) hno (by simp only [decide_eq_true_eq]; exact c19) (by omega)], rfl⟩
