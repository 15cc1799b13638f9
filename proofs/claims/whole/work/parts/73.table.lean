variable {G : GG} {base : Nat}
theorem nar_b {P : Prop} [Decidable P] : narrow .boolean (.int (if P then 1 else 0)) = .int (if P then 1 else 0) := by
  split <;> rfl
/-! ===== THE CLASS: the timetable ===== -/
/-- a name, five bits a letter -/
def e32 (w : List Nat) : Nat := w.foldl (fun v z => 32 * v + z) 0
/-- the same name, in both ways -/
def NmR (x y : Int32) : Prop := ∃ w : List Nat, 1 ≤ w.length ∧ w.length ≤ 6 ∧ (∀ z, z ∈ w → 1 ≤ z ∧ z ≤ 26) ∧ x = nI (e32 w) ∧ y = nI (e27 w)
/-- who stops there, on strike or not -/
def gstN (n : Nat → Int32) (h p : Nat) : Nat → Bool := fun c => decide (c < nv n 1 ∧ stopN n c h = nI p)
/-- the class's timetable at b is that of the row n -/
def TT (i : Nat → Nat → Int32) (b : Nat) (n : Nat → Int32) : Prop :=
  i b 0 = n 0 ∧ i b 1 = setB (town n) 10 ∧ i b 2 = n 1 ∧ (∀ p, p < nv n 0 → NmR (i (b + 1) p) (n (18 + p))) ∧ (∀ c, c < nv n 1 → NmR (i (b + 2) c) (n (28 + c))) ∧
  (∀ h, h < 168 → ∀ p, p < 10 → i (b + 4) (h * 10 + p) = setB (gstN n h p) 5) ∧ ∀ h, h < 168 → i (b + 5) h = setB (fun p => anyB (gstN n h p) 5) 10
theorem TT.kept {i i' : Nat → Nat → Int32} {b : Nat} {n : Nat → Int32} (h : TT i b n) (hk : ∀ x, b ≤ x → x < b + 6 → ∀ k, i' x k = i x k) : TT i' b n := by
  obtain ⟨h1, h2, h3, h4, h5, h6, h7⟩ := h
  refine ⟨(hk _ (by omega) (by omega) _).trans h1, (hk _ (by omega) (by omega) _).trans h2, (hk _ (by omega) (by omega) _).trans h3, fun p hp => ?_, fun c hc => ?_, fun h hh p hp => (hk _ (by omega) (by omega) _).trans (h6 h hh p hp), fun h hh => (hk _ (by omega) (by omega) _).trans (h7 h hh)⟩
  · rw [hk _ (by omega) (by omega)]; exact h4 p hp
  · rw [hk _ (by omega) (by omega)]; exact h5 c hc
theorem stopN_mod (n : Nat → Int32) (c h : Nat) : stopN n c (h % 168) = stopN n c h := by
  unfold stopN
  rw [show h % 168 / 24 % 7 = h / 24 % 7 by omega, show h % 168 % 24 = h % 24 by omega]
theorem gstN_mod (n : Nat → Int32) (h p : Nat) : gstN n (h % 168) p = gstN n h p := by
  unfold gstN
  funext c
  rw [stopN_mod]
theorem TT.gs {i : Nat → Nat → Int32} {b : Nat} {n : Nat → Int32} (h : TT i b n) (t : Nat) {p : Nat} (hp : p < 10) : i (b + 4) (t % 168 * 10 + p) = setB (gstN n t p) 5 := by
  rw [h.2.2.2.2.2.1 (t % 168) (by omega) p hp, gstN_mod]
theorem TT.us {i : Nat → Nat → Int32} {b : Nat} {n : Nat → Int32} (h : TT i b n) (t : Nat) : i (b + 5) (t % 168) = setB (fun p => anyB (gstN n t p) 5) 10 := by
  rw [h.2.2.2.2.2.2 (t % 168) (by omega)]
  congr 1
  funext p
  rw [gstN_mod]
theorem TT.eq {i : Nat → Nat → Int32} {b : Nat} {n m : Nat → Int32} (h : TT i b n) (he : tabEq n m) (h0 : nv n 0 ≤ 10) (h1 : nv n 1 ≤ 5) (hR : RtOk n) : TT i b m := by
  obtain ⟨a1, a2, a3, a4, a5, a6, a7⟩ := h
  have e0 : nv m 0 = nv n 0 := nv_eq he.1.symm
  have e1 : nv m 1 = nv n 1 := nv_eq he.2.1.symm
  have et : ∀ p, town m p = town n p := fun p => by
    unfold town
    rw [e0]
    by_cases hp : p < nv n 0
    · rw [he.2.2.1 (8 + p) (by omega) (by omega)]
    · rw [decide_eq_false (fun z => hp z.1), decide_eq_false (fun z => hp z.1)]
  have eg : ∀ h p, gstN m h p = gstN n h p := fun h p => by
    unfold gstN
    funext c
    rw [e1]
    by_cases hc : c < nv n 1
    · rw [stopN_eq he hR (by omega)]
    · rw [decide_eq_false (fun z => hc z.1), decide_eq_false (fun z => hc z.1)]
  refine ⟨a1.trans he.1, ?_, a3.trans he.2.1, fun p hp => ?_, fun c hc => ?_, fun h hh p hp => ?_, fun h hh => ?_⟩
  · rw [a2]
    exact setB_congr (fun p _ => (et p).symm)
  · rw [← he.2.2.1 (18 + p) (by omega) (by omega)]
    exact a4 p (by omega)
  · rw [← he.2.2.1 (28 + c) (by omega) (by omega)]
    exact a5 c (by omega)
  · rw [eg]
    exact a6 h hh p hp
  · rw [a7 h hh]
    exact setB_congr (fun p _ => by rw [eg])
/-- a bit of a set -/
theorem hasP_set {f : Nat → Bool} {k m : Nat} (hk : k ≤ 31) (hm : m ≤ 31) : hasP (setB f k) (nI m) ↔ m < k ∧ m ≤ 30 ∧ f m = true := by
  unfold hasP
  rw [nI_clamp (by omega), bt_setB f k (by omega)]
  constructor
  · rintro ⟨-, h2, h3⟩
    have : m ≤ 30 := (nI_leI (a := m) (b := 30) (by omega) (by omega)).mp h2
    simp only [Bool.and_eq_true, decide_eq_true_eq] at h3
    exact ⟨h3.1, this, h3.2⟩
  · rintro ⟨h1, h2, h3⟩
    exact ⟨nI_pos' (by omega), nI_le (a := m) (b := 30) (by omega) (by omega), by simp [h1, h3]⟩
theorem hasP_town {n : Nat → Int32} (h0 : Rn n 0 10) {x : Int32} : hasP (setB (town n) 10) x ↔ townP n x := by
  have h10 := h0.2
  constructor
  · rintro ⟨h1, h2, h3⟩
    obtain ⟨k, hk, rfl⟩ := nI_of (x := x) (i_nlt.mpr h1)
    rw [nI_clamp hk] at h3
    rw [bt_setB _ 10 (by omega)] at h3
    simp only [Bool.and_eq_true, decide_eq_true_eq] at h3
    obtain ⟨a, b⟩ := town_i.mp h3.2
    exact (townP_nI h0 a).mpr b
  · intro h
    obtain ⟨j, hj, rfl, ht⟩ := townP_of h0 h
    refine (hasP_set (by omega) (by omega)).mpr ⟨by omega, by omega, town_i.mpr ⟨hj, ht⟩⟩
set_option maxHeartbeats 2000000 in
set_option maxRecDepth 20000 in
theorem t_X9_placesAt {M : Mm} {a h : Nat} (hL : LX9 M.1 M.2.1 a) (hh : h < 2147483648) : Ct G base YX9_placesAt 2 0 0 [.ref a, .int (nI h)] M (rE (some (.int (mI M (a + 5) (h % 168)))) M) := by
  refine Ct.of IX9_placesAt.1 (by simp [Value.category]) (Nat.le_of_ble_eq_true rfl) (fun X hX hN => ?_)
  show J G base X 0 0 M 0 [some (.ref a), some (.int (nI h))] []
  refine r_aload_n hX dX9_placesAt_0 rfl ?_
  refine r_getr hX dX9_placesAt_1 fl_X9_34 rfl (LX9_s hL) (LX9_r7 hL) ?_
  refine r_iload_n hX dX9_placesAt_4 rfl ?_
  refine r_sipush (v := nI 168) hX dX9_placesAt_5 (by decide) ?_
  refine r_cS2 hX dX9_placesAt_8 IJ9_floorMod_7cf53 ml_X9_51 rfl (t_fmod (by omega) (by omega) (by omega)) (by decide) (by decide) (by decide) (by decide) rfl (Nat.le_of_ble_eq_true rfl) ?_
  refine rn_iald hX dX9_placesAt_11 (LX9_a7 hL) rfl (by omega) (by omega) ?_
  refine r_ireturn hX rfl rfl dX9_placesAt_12 (by decide) (by decide) ?_
  exact ⟨rfl, rfl⟩
set_option maxHeartbeats 2000000 in
set_option maxRecDepth 20000 in
theorem t_X9_carriersStopping {M : Mm} {a h q : Nat} (hL : LX9 M.1 M.2.1 a) (hh : h < 2147483648) (hq : q < 10) : Ct G base YX9_carriersStopping 2 0 0 [.ref a, .int (nI h), .int (nI q)] M (rE (some (.int (mI M (a + 4) (h % 168 * 10 + q)))) M) := by
  refine Ct.of IX9_carriersStopping.1 (by simp [Value.category]) (Nat.le_of_ble_eq_true rfl) (fun X hX hN => ?_)
  show J G base X 0 0 M 0 [some (.ref a), some (.int (nI h)), some (.int (nI q))] []
  refine r_iload_n hX dX9_carriersStopping_0 rfl ?_
  refine rn_if_lt (tgt := 10) hX dX9_carriersStopping_1 (by decide) rfl (by omega) ?_
  refine r_iload_n hX dX9_carriersStopping_4 rfl ?_
  refine r_bipush (v := nI 10) hX dX9_carriersStopping_5 (by decide) ?_
  refine rn_icmp_lt (tgt := 12) hX dX9_carriersStopping_7 (by decide) rfl rfl (by omega) (by omega) (fun c7 => ?_) (fun c7 => absurd hq (by omega))
  refine r_aload_n hX dX9_carriersStopping_12 rfl ?_
  refine r_getr hX dX9_carriersStopping_13 fl_X9_31 rfl (LX9_s hL) (LX9_r6 hL) ?_
  refine r_iload_n hX dX9_carriersStopping_16 rfl ?_
  refine r_sipush (v := nI 168) hX dX9_carriersStopping_17 (by decide) ?_
  refine r_cS2 hX dX9_carriersStopping_20 IJ9_floorMod_7cf53 ml_X9_51 rfl (t_fmod (by omega) (by omega) (by omega)) (by decide) (by decide) (by decide) (by decide) rfl (Nat.le_of_ble_eq_true rfl) ?_
  refine r_bipush (v := nI 10) hX dX9_carriersStopping_23 (by decide) ?_
  refine rn_imul hX dX9_carriersStopping_25 rfl rfl ?_
  refine r_iload_n hX dX9_carriersStopping_26 rfl ?_
  refine rn_iadd hX dX9_carriersStopping_27 rfl rfl ?_
  refine rn_iald hX dX9_carriersStopping_28 (LX9_a6 hL) rfl (by omega) (by omega) ?_
  refine r_ireturn hX rfl rfl dX9_carriersStopping_29 (by decide) (by decide) ?_
  exact ⟨rfl, rfl⟩
set_option maxHeartbeats 2000000 in
set_option maxRecDepth 20000 in
theorem t_X9_hasOffice {M : Mm} {a : Nat} {n : Nat → Int32} (hL : LX9 M.1 M.2.1 a) (hT : TT (mI M) a n) (h0 : Rn n 0 10) {x : Int32} : Ct G base YX9_hasOffice 2 0 0 [.ref a, .int x] M (rE (some (.int (if townP n x then 1 else 0))) M) := by
  refine Ct.of IX9_hasOffice.1 (by simp [Value.category]) (Nat.le_of_ble_eq_true rfl) (fun X hX hN => ?_)
  show J G base X 0 0 M 0 [some (.ref a), some (.int x)] []
  refine r_aload_n hX dX9_hasOffice_0 rfl ?_
  refine rn_geti (v := setB (town n) 10) hX dX9_hasOffice_1 fl_X9_15 rfl (LX9_s hL) hT.2.1 ?_
  refine r_iload_n hX dX9_hasOffice_4 rfl ?_
  refine r_cN2 (host := RX10) hX dX9_hasOffice_5 IX10_has (by decide +kernel) rfl (t_X10_has) (by decide) (by decide) (by decide) (by decide) rfl (Nat.le_of_ble_eq_true rfl) ?_
  refine r_ireturn hX rfl nar_b dX9_hasOffice_8 (by decide) (by decide) ?_
  refine ⟨?_, rfl⟩
  rw [itec (hasP_town h0)]
set_option maxHeartbeats 2000000 in
set_option maxRecDepth 20000 in
theorem t_X9_stopPlace {M : Mm} {a : Nat} {n : Nat → Int32} (hL : LX9 M.1 M.2.1 a) (hT : TT (mI M) a n) (hO : TbOk n) {c h : Nat} (hc : c < nv n 1) (hh : h < 2147483648) : Ct G base YX9_stopPlace 3 0 0 [.ref a, .int (nI c), .int (nI h)] M (rE (some (.int (stopN n c h))) M) := by
  refine Ct.of IX9_stopPlace.1 (by simp [Value.category]) (Nat.le_of_ble_eq_true rfl) (fun X hX hN => ?_)
  show J G base X 0 0 M 0 [some (.ref a), some (.int (nI c)), some (.int (nI h)), none] []
  have h0 := hO.1
  have hb := h0.2
  have hb1 := hO.2.1.2
  refine r_iconst (v := nI 0) hX dX9_stopPlace_0 (by decide) ?_
  refine r_istore3 hX dX9_stopPlace_1 rfl ?_
  refine loop_up (P := fun j => (∀ p, p < j → ¬ stopN n c h = nI p) → J G base X 0 0 M 2 [some (.ref a), some (.int (nI c)), some (.int (nI h)), some (.int (nI j))] []) (nv n 0) (fun j hj ih hno => ?_) 0 (Nat.zero_le _) (fun p hp => absurd hp (Nat.not_lt_zero _))
  refine r_iload_n hX dX9_stopPlace_2 rfl ?_
  refine r_aload_n hX dX9_stopPlace_3 rfl ?_
  refine rn_geti (v := nI (nv n 0)) hX dX9_stopPlace_4 fl_X9_9 rfl (LX9_s hL) (hT.1.trans h0.1) ?_
  refine rn_icmp_ge (tgt := 31) hX dX9_stopPlace_7 (by decide) rfl rfl (by omega) (by omega) (fun c7 => ?_) (fun c7 => ?_)
  · refine r_iconst (v := (-1)) hX dX9_stopPlace_31 (by decide) ?_
    refine r_ireturn hX rfl rfl dX9_stopPlace_32 (by decide) (by decide) ?_
    obtain rfl : j = nv n 0 := by omega
    refine ⟨?_, rfl⟩
    rcases stopN_of hO.2.2 (show c < 5 by omega) h with z | ⟨q, hq, -, z⟩
    · rw [z]
    · exact absurd z (hno q hq)
  · refine r_aload_n hX dX9_stopPlace_10 rfl ?_
    refine r_iload_n hX dX9_stopPlace_11 rfl ?_
    refine r_iload_n hX dX9_stopPlace_12 rfl ?_
    refine r_cV2 hX dX9_stopPlace_13 IX9_carriersStopping ml_X9_57 rfl (LX9_s hL) rfl (t_X9_carriersStopping hL hh (by omega)) (by decide) (by decide) (by decide) (by decide) rfl (Nat.le_of_ble_eq_true rfl) ?_
    rw [hT.gs h (by omega)]
    refine r_iload_n hX dX9_stopPlace_16 rfl ?_
    refine r_cN2 (host := RX10) hX dX9_stopPlace_17 IX10_has (by decide +kernel) rfl (t_X10_has) (by decide) (by decide) (by decide) (by decide) rfl (Nat.le_of_ble_eq_true rfl) ?_
    rw [itec (hasP_set (f := gstN n h j) (by omega) (by omega))]
    refine rb_if_eq (tgt := 25) hX dX9_stopPlace_20 (by decide) rfl (fun c20 => ?_) (fun c20 => ?_)
    · refine rn_iinc3 hX dX9_stopPlace_25 rfl rfl ?_
      refine r_goto (tgt := 2) hX dX9_stopPlace_28 (by decide) ?_
      exact ih (by omega) (fun p hp hz => by
        rcases (show p < j ∨ p = j by omega) with z | rfl
        · exact hno p z hz
        · exact c20 ⟨by omega, by omega, decide_eq_true ⟨hc, hz⟩⟩)
    · refine r_iload_n hX dX9_stopPlace_23 rfl ?_
      refine r_ireturn hX rfl rfl dX9_stopPlace_24 (by decide) (by decide) ?_
      obtain ⟨-, -, z⟩ := c20
      exact ⟨by rw [(of_decide_eq_true z).2], rfl⟩
set_option maxHeartbeats 2000000 in
set_option maxRecDepth 20000 in
theorem t_X9_nameOfPlace {M : Mm} {a : Nat} (hL : LX9 M.1 M.2.1 a) {m q : Nat} (hm : mI M a 0 = nI m) (hm10 : m ≤ 10) (hq : q < m) : Ct G base YX9_nameOfPlace 1 0 0 [.ref a, .int (nI q)] M (rE (some (.int (mI M (a + 1) q))) M) := by
  refine Ct.of IX9_nameOfPlace.1 (by simp [Value.category]) (Nat.le_of_ble_eq_true rfl) (fun X hX hN => ?_)
  show J G base X 0 0 M 0 [some (.ref a), some (.int (nI q))] []
  refine r_iload_n hX dX9_nameOfPlace_0 rfl ?_
  refine rn_if_lt (tgt := 12) hX dX9_nameOfPlace_1 (by decide) rfl (by omega) ?_
  refine r_iload_n hX dX9_nameOfPlace_4 rfl ?_
  refine r_aload_n hX dX9_nameOfPlace_5 rfl ?_
  refine rn_geti (v := nI m) hX dX9_nameOfPlace_6 fl_X9_9 rfl (LX9_s hL) hm ?_
  refine rn_icmp_lt (tgt := 16) hX dX9_nameOfPlace_9 (by decide) rfl rfl (by omega) (by omega) (fun c9 => ?_) (fun c9 => absurd hq (by omega))
  refine r_aload_n hX dX9_nameOfPlace_16 rfl ?_
  refine r_getr hX dX9_nameOfPlace_17 fl_X9_21 rfl (LX9_s hL) (LX9_r3 hL) ?_
  refine r_iload_n hX dX9_nameOfPlace_20 rfl ?_
  refine rn_iald hX dX9_nameOfPlace_21 (LX9_a3 hL) rfl (by omega) (by omega) ?_
  refine r_ireturn hX rfl rfl dX9_nameOfPlace_22 (by decide) (by decide) ?_
  exact ⟨rfl, rfl⟩
set_option maxHeartbeats 2000000 in
set_option maxRecDepth 20000 in
theorem t_X9_nameOfCarrier {M : Mm} {a : Nat} (hL : LX9 M.1 M.2.1 a) {m q : Nat} (hm : mI M a 2 = nI m) (hm10 : m ≤ 5) (hq : q < m) : Ct G base YX9_nameOfCarrier 1 0 0 [.ref a, .int (nI q)] M (rE (some (.int (mI M (a + 2) q))) M) := by
  refine Ct.of IX9_nameOfCarrier.1 (by simp [Value.category]) (Nat.le_of_ble_eq_true rfl) (fun X hX hN => ?_)
  show J G base X 0 0 M 0 [some (.ref a), some (.int (nI q))] []
  refine r_iload_n hX dX9_nameOfCarrier_0 rfl ?_
  refine rn_if_lt (tgt := 12) hX dX9_nameOfCarrier_1 (by decide) rfl (by omega) ?_
  refine r_iload_n hX dX9_nameOfCarrier_4 rfl ?_
  refine r_aload_n hX dX9_nameOfCarrier_5 rfl ?_
  refine rn_geti (v := nI m) hX dX9_nameOfCarrier_6 fl_X9_18 rfl (LX9_s hL) hm ?_
  refine rn_icmp_lt (tgt := 16) hX dX9_nameOfCarrier_9 (by decide) rfl rfl (by omega) (by omega) (fun c9 => ?_) (fun c9 => absurd hq (by omega))
  refine r_aload_n hX dX9_nameOfCarrier_16 rfl ?_
  refine r_getr hX dX9_nameOfCarrier_17 fl_X9_25 rfl (LX9_s hL) (LX9_r4 hL) ?_
  refine r_iload_n hX dX9_nameOfCarrier_20 rfl ?_
  refine rn_iald hX dX9_nameOfCarrier_21 (LX9_a4 hL) rfl (by omega) (by omega) ?_
  refine r_ireturn hX rfl rfl dX9_nameOfCarrier_22 (by decide) (by decide) ?_
  exact ⟨rfl, rfl⟩
set_option maxHeartbeats 2000000 in
set_option maxRecDepth 20000 in
theorem t_X9_placeOfName {M : Mm} {a : Nat} (hL : LX9 M.1 M.2.1 a) {m : Nat} (hm : mI M a 0 = nI m) (hm10 : m ≤ 10) {v : Int32} : Ct G base YX9_placeOfName 1 0 0 [.ref a, .int v] M (rE (some (.int (fstF (fun k => decide (mI M (a + 1) k = v)) m))) M) := by
  refine Ct.of IX9_placeOfName.1 (by simp [Value.category]) (Nat.le_of_ble_eq_true rfl) (fun X hX hN => ?_)
  show J G base X 0 0 M 0 [some (.ref a), some (.int v), none] []
  refine r_iconst (v := nI 0) hX dX9_placeOfName_0 (by decide) ?_
  refine r_istore2 hX dX9_placeOfName_1 rfl ?_
  refine loop_up (P := fun j => fstF (fun k => decide (mI M (a + 1) k = v)) j = -1 → J G base X 0 0 M 2 [some (.ref a), some (.int v), some (.int (nI j))] []) m (fun j hj ih hno => ?_) 0 (Nat.zero_le _) rfl
  refine r_iload_n hX dX9_placeOfName_2 rfl ?_
  refine r_aload_n hX dX9_placeOfName_3 rfl ?_
  refine rn_geti (v := nI m) hX dX9_placeOfName_4 fl_X9_9 rfl (LX9_s hL) hm ?_
  refine rn_icmp_ge (tgt := 28) hX dX9_placeOfName_7 (by decide) rfl rfl (by omega) (by omega) (fun c7 => ?_) (fun c7 => ?_)
  · refine r_iconst (v := (-1)) hX dX9_placeOfName_28 (by decide) ?_
    refine r_ireturn hX rfl rfl dX9_placeOfName_29 (by decide) (by decide) ?_
    obtain rfl : j = m := by omega
    exact ⟨by rw [hno], rfl⟩
  · refine r_aload_n hX dX9_placeOfName_10 rfl ?_
    refine r_getr hX dX9_placeOfName_11 fl_X9_21 rfl (LX9_s hL) (LX9_r3 hL) ?_
    refine r_iload_n hX dX9_placeOfName_14 rfl ?_
    refine rn_iald hX dX9_placeOfName_15 (LX9_a3 hL) rfl (by omega) (by omega) ?_
    refine r_iload_n hX dX9_placeOfName_16 rfl ?_
    refine r_icmp_ne (tgt := 22) hX dX9_placeOfName_17 (by decide) (fun c17 => ?_) (fun c17 => ?_)
    · refine rn_iinc2 hX dX9_placeOfName_22 rfl rfl ?_
      refine r_goto (tgt := 2) hX dX9_placeOfName_25 (by decide) ?_
      exact ih (by omega) (fstF_no hno (by simp only [decide_eq_true_eq]; exact c17))
    · refine r_iload_n hX dX9_placeOfName_20 rfl ?_
      refine r_ireturn hX rfl rfl dX9_placeOfName_21 (by decide) (by decide) ?_
      exact ⟨by rw [fstF_stay (j := j) (by omega) hno (by simp only [decide_eq_true_eq]; exact c17) (by omega)], rfl⟩
set_option maxHeartbeats 2000000 in
set_option maxRecDepth 20000 in
theorem t_X9_hasCarrierNamed {M : Mm} {a : Nat} (hL : LX9 M.1 M.2.1 a) {m : Nat} (hm : mI M a 2 = nI m) (hm10 : m ≤ 5) {v : Int32} : Ct G base YX9_hasCarrierNamed 1 0 0 [.ref a, .int v] M (rE (some (.int (if fstF (fun k => decide (mI M (a + 2) k = v)) m = -1 then 0 else 1))) M) := by
  refine Ct.of IX9_hasCarrierNamed.1 (by simp [Value.category]) (Nat.le_of_ble_eq_true rfl) (fun X hX hN => ?_)
  show J G base X 0 0 M 0 [some (.ref a), some (.int v), none] []
  refine r_iconst (v := nI 0) hX dX9_hasCarrierNamed_0 (by decide) ?_
  refine r_istore2 hX dX9_hasCarrierNamed_1 rfl ?_
  refine loop_up (P := fun j => fstF (fun k => decide (mI M (a + 2) k = v)) j = -1 → J G base X 0 0 M 2 [some (.ref a), some (.int v), some (.int (nI j))] []) m (fun j hj ih hno => ?_) 0 (Nat.zero_le _) rfl
  refine r_iload_n hX dX9_hasCarrierNamed_2 rfl ?_
  refine r_aload_n hX dX9_hasCarrierNamed_3 rfl ?_
  refine rn_geti (v := nI m) hX dX9_hasCarrierNamed_4 fl_X9_18 rfl (LX9_s hL) hm ?_
  refine rn_icmp_ge (tgt := 28) hX dX9_hasCarrierNamed_7 (by decide) rfl rfl (by omega) (by omega) (fun c7 => ?_) (fun c7 => ?_)
  · refine r_iconst (v := 0) hX dX9_hasCarrierNamed_28 (by decide) ?_
    refine r_ireturn hX rfl rfl dX9_hasCarrierNamed_29 (by decide) (by decide) ?_
    obtain rfl : j = m := by omega
    exact ⟨by rw [if_pos hno], rfl⟩
  · refine r_aload_n hX dX9_hasCarrierNamed_10 rfl ?_
    refine r_getr hX dX9_hasCarrierNamed_11 fl_X9_25 rfl (LX9_s hL) (LX9_r4 hL) ?_
    refine r_iload_n hX dX9_hasCarrierNamed_14 rfl ?_
    refine rn_iald hX dX9_hasCarrierNamed_15 (LX9_a4 hL) rfl (by omega) (by omega) ?_
    refine r_iload_n hX dX9_hasCarrierNamed_16 rfl ?_
    refine r_icmp_ne (tgt := 22) hX dX9_hasCarrierNamed_17 (by decide) (fun c17 => ?_) (fun c17 => ?_)
    · refine rn_iinc2 hX dX9_hasCarrierNamed_22 rfl rfl ?_
      refine r_goto (tgt := 2) hX dX9_hasCarrierNamed_25 (by decide) ?_
      exact ih (by omega) (fstF_no hno (by simp only [decide_eq_true_eq]; exact c17))
    · refine r_iconst (v := 1) hX dX9_hasCarrierNamed_20 (by decide) ?_
      refine r_ireturn hX rfl rfl dX9_hasCarrierNamed_21 (by decide) (by decide) ?_
      exact ⟨by rw [fstF_stay (j := j) (by omega) hno (by simp only [decide_eq_true_eq]; exact c17) (by omega), if_neg (nI_ne_m1 (by omega))], rfl⟩
