variable {G : GG} {base : Nat}
/-- the number of a name, 0 if it is none -/
def nm32 (u : Nat → Nat) (p len : Nat) : Nat := if 1 ≤ len ∧ len ≤ 6 ∧ ∀ k, k < len → isL (u (p + k)) then e32 ((List.range len).map fun j => u (p + j) - 96) else 0
theorem range_s {α : Type} (f : Nat → α) (k : Nat) : (List.range (k + 1)).map f = (List.range k).map f ++ [f k] := by rw [List.range_succ, List.map_append]; rfl
theorem or_add {v z : Nat} (hv : v < 33554432) (hz : z < 32) : (nI v <<< ((5 : Int32) &&& 31)) ||| nI z = nI (32 * v + z) := by
  have e : (nI v <<< ((5 : Int32) &&& 31)) = nI v <<< (nI 5 &&& 31) := rfl
  rw [e]
  apply b_ext
  intro i hi
  rw [b_or, b_shl 5 (by omega) _ hi, bt_nat hi, bt_nat hi, show 32 * v + z = 2 ^ 5 * v + z from rfl, Nat.testBit_two_pow_mul_add _ (show z < 2 ^ 5 from hz)]
  by_cases h : i < 5
  · rw [if_pos h, decide_eq_false (by omega), Bool.false_and, Bool.false_or]
  · rw [if_neg h, decide_eq_true (by omega), Bool.true_and, bt_nat (by omega), Nat.testBit_lt_two_pow (show z < 2 ^ i from Nat.lt_of_lt_of_le hz (Nat.pow_le_pow_right (by omega : 0 < 2) (by omega : 5 ≤ i))), Bool.or_false]
theorem e32_r {u : Nat → Nat} {p : Nat} : ∀ {k : Nat}, (∀ j, j < k → isL (u (p + j))) → ∀ z, z ∈ (List.range k).map (fun j => u (p + j) - 96) → 1 ≤ z ∧ z ≤ 26 := fun {k} h z hz => by
  obtain ⟨j, hj, rfl⟩ := List.mem_map.mp hz
  have := h j (List.mem_range.mp hj)
  exact ⟨by omega, by omega⟩
/-- names are alike in both ways -/
theorem nm_inj {x y x' y' : Int32} (h : NmR x y) (h' : NmR x' y') : x = x' ↔ y = y' := by
  obtain ⟨w, -, h6, hz, hx, hy⟩ := h
  obtain ⟨w', -, h6', hz', hx', hy'⟩ := h'
  have b1 := e32_30 hz h6
  have b2 := e32_30 hz' h6'
  have c1 := e27_b hz h6
  have c2 := e27_b hz' h6'
  rw [hx, hx', hy, hy']
  constructor
  · intro e
    have e2 : e32 w = e32 w' := (nI_eq (by omega) (by omega)).mp e
    have : w = w' := by rw [← gD_is 6 w h6 hz, ← gD_is 6 w' h6' hz', e2]
    rw [this]
  · intro e
    have : w = w' := by rw [← nmW_e h6 hz, ← nmW_e h6' hz', e]
    rw [this]
theorem nm_ne0 {x y : Int32} (h : NmR x y) : ¬ x = nI 0 := fun e => by
  obtain ⟨w, h1, h6, hz, hx, -⟩ := h
  rw [hx] at e
  have e2 : e32 w = 0 := (nI_eq (by have := e32_30 hz h6; omega) (by omega)).mp e
  have := gD_is 6 w h6 hz
  rw [e2, gD_0] at this
  rw [← this] at h1
  exact absurd h1 (by decide)
set_option maxHeartbeats 2000000 in
set_option maxRecDepth 20000 in
theorem t_c_append {M : Mm} {a : Nat} {σ : Sg} {T : Nat} (hL : LX10 M.1 M.2.1 a) (hC : CI (mI M) a σ) (hO : OkN T σ.1) (hT9 : T < 890000) {w0 w1 w2 w3 w4 : Int32} : Ct G base YX10_append 20 1 6 [.ref a, .int w0, .int w1, .int w2, .int w3, .int w4] M (rC M a 1 4 (rs_append σ) (sg_append σ w0 w1 w2 w3 w4)) := by
  obtain ⟨hT, hS, hLt, h4, h5, h6, hLo, hSt, hNa⟩ := hO
  have h0 := hT.1
  have h1 := hT.2.1
  have hr := hT.2.2
  have h2 := hLt.1
  have h3 := hLt.2.1
  have hb0 := h0.2
  have hb1 := h1.2
  have hb2 := h2.2
  have hb3 := h3.2
  have hb4 := h4.2
  have ht6 : σ.1 6 = nI (nv σ.1 6) := h6.1
  have hh6 : nv σ.1 6 ≤ T := h6.2
  have hTT : TT (mI M) (a + 28) σ.1 := hC.2.2.2.1
  have hRS : RS (mI M) (a + 34) σ.1 := hC.2.2.2.2.1
  have hHR : HR (mI M) (a + 52) σ.2.1 σ.2.2.1 := hC.2.2.2.2.2.1
  have hpc : mI M (a + 28) 0 = nI (nv σ.1 0) := hTT.1.trans h0.1
  have hcc : mI M (a + 28) 2 = nI (nv σ.1 1) := hTT.2.2.1.trans h1.1
  have hlc : mI M (a + 34 + 2) 0 = nI (nv σ.1 2) := hRS.2.2.1.1.trans h2.1
  have hkc : mI M (a + 34 + 15) 0 = nI (nv σ.1 3) := hRS.2.2.2.2.1.trans h3.1
  have hrc : mI M (a + 34 + 13) 0 = nI (nv σ.1 4) := hRS.2.2.2.1.1.trans h4.1
  have htm : mI M (a + 34) 0 = nI (nv σ.1 6) := hRS.1.1.trans ht6
  have hlen0 := hC.1.2.1
  have h900 := hC.1.2.2
  have hby := hC.1.1
  obtain ⟨e, hse⟩ : ∃ e, σ.2.2.2.2.1 = e := ⟨_, rfl⟩
  rw [hse] at h900 hby
  have hlen : mI M a 1 = nI e := hlen0.trans (by rw [hse])
  refine Ct.of IX10_append.1 (by simp [Value.category]) (Nat.le_of_ble_eq_true rfl) (fun X hX hN => ?_)
  show J G base X 0 0 M 0 [some (.ref a), some (.int w0), some (.int w1), some (.int w2), some (.int w3), some (.int w4)] []
  refine r_aload_n hX dX10_append_0 rfl ?_
  refine rn_geti (v := nI e) hX dX10_append_1 fl_X10_13 rfl (LX10_s hL) hlen ?_
  refine r_bipush (v := nI 20) hX dX10_append_4 (by decide) ?_
  refine rn_iadd hX dX10_append_6 rfl rfl ?_
  refine r_sipush (v := nI 900) hX dX10_append_7 (by decide) ?_
  refine rn_icmp_le (tgt := 15) hX dX10_append_10 (by decide) rfl rfl (by omega) (by omega) (fun c10 => ?_) (fun c10 => ?_)
  · refine r_aload_n hX dX10_append_15 rfl ?_
    refine r_iload_n hX dX10_append_16 rfl ?_
    refine r_iV1 hX dX10_append_17 IX10_appendWord ml_X10_72 rfl (LX10_s hL) rfl (t_X10_appendWord (M := M) hL (e := e) hlen (by omega)) (by decide) (by decide) (by decide) (by decide) rfl (Nat.le_of_ble_eq_true rfl) (fun i1 h1 => ?_)
    show J G base X _ _ (wI M i1) _ _ _
    
    refine r_aload_n hX dX10_append_20 rfl ?_
    refine r_iload_n hX dX10_append_21 rfl ?_
    refine r_iV1 hX dX10_append_22 IX10_appendWord ml_X10_72 rfl (LX10_s hL) rfl (t_X10_appendWord (M := wI M i1) hL (e := e + 4) h1.2.2.1 (by omega)) (by decide) (by decide) (by decide) (by decide) rfl (Nat.le_of_ble_eq_true rfl) (fun i2 h2 => ?_)
    show J G base X _ _ (wI M i2) _ _ _
    
    refine r_aload_n hX dX10_append_25 rfl ?_
    refine r_iload_n hX dX10_append_26 rfl ?_
    refine r_iV1 hX dX10_append_27 IX10_appendWord ml_X10_72 rfl (LX10_s hL) rfl (t_X10_appendWord (M := wI M i2) hL (e := e + 8) h2.2.2.1 (by omega)) (by decide) (by decide) (by decide) (by decide) rfl (Nat.le_of_ble_eq_true rfl) (fun i3 h3 => ?_)
    show J G base X _ _ (wI M i3) _ _ _
    
    refine r_aload_n hX dX10_append_30 rfl ?_
    refine r_iload hX dX10_append_31 rfl ?_
    refine r_iV1 hX dX10_append_33 IX10_appendWord ml_X10_72 rfl (LX10_s hL) rfl (t_X10_appendWord (M := wI M i3) hL (e := e + 12) h3.2.2.1 (by omega)) (by decide) (by decide) (by decide) (by decide) rfl (Nat.le_of_ble_eq_true rfl) (fun i4 h4 => ?_)
    show J G base X _ _ (wI M i4) _ _ _
    
    refine r_aload_n hX dX10_append_36 rfl ?_
    refine r_iload hX dX10_append_37 rfl ?_
    refine r_iV1 hX dX10_append_39 IX10_appendWord ml_X10_72 rfl (LX10_s hL) rfl (t_X10_appendWord (M := wI M i4) hL (e := e + 16) h4.2.2.1 (by omega)) (by decide) (by decide) (by decide) (by decide) rfl (Nat.le_of_ble_eq_true rfl) (fun i5 h5 => ?_)
    show J G base X _ _ (wI M i5) _ _ _
    
    refine r_aload_n hX dX10_append_42 rfl ?_
    refine rn_geti (v := nI (e + 20)) hX dX10_append_43 fl_X10_13 rfl (LX10_s hL) h5.2.2.1 ?_
    refine r_ireturn hX rfl rfl dX10_append_46 (by decide) (by decide) ?_
    have hb : ∀ k, k < e + 20 → apU σ.2.2.2.1 e w0 w1 w2 w3 w4 20 k < 256 ∧ i5 (a + 1) k = nI (apU σ.2.2.2.1 e w0 w1 w2 w3 w4 20 k) := fun k hk => by
      unfold apU
      by_cases z : e ≤ k ∧ k < e + 20
      · rw [if_pos z]
        obtain ⟨r, hr, rfl⟩ : ∃ r, r < 20 ∧ k = e + r := ⟨k - e, by omega, by omega⟩
        rw [show e + r - e = r by omega]
        refine ⟨(byW_s (by omega)).2.2, ?_⟩
        rcases (show r / 4 = 0 ∨ r / 4 = 1 ∨ r / 4 = 2 ∨ r / 4 = 3 ∨ r / 4 = 4 by omega) with q | q | q | q | q
        · rw [if_pos q]
          refine (h5.1 _ (by omega)).trans ((h4.1 _ (by omega)).trans ((h3.1 _ (by omega)).trans ((h2.1 _ (by omega)).trans ?_)))
          have y := h1.2.1 (r % 4) (by omega)
          rw [show e + r % 4 = e + r by omega] at y
          exact y
        · rw [if_neg (by omega), if_pos q]
          refine (h5.1 _ (by omega)).trans ((h4.1 _ (by omega)).trans ((h3.1 _ (by omega)).trans ?_))
          have y := h2.2.1 (r % 4) (by omega)
          rw [show e + 4 + r % 4 = e + r by omega] at y
          exact y
        · rw [if_neg (by omega), if_neg (by omega), if_pos q]
          refine (h5.1 _ (by omega)).trans ((h4.1 _ (by omega)).trans ?_)
          have y := h3.2.1 (r % 4) (by omega)
          rw [show e + 8 + r % 4 = e + r by omega] at y
          exact y
        · rw [if_neg (by omega), if_neg (by omega), if_neg (by omega), if_pos q]
          refine (h5.1 _ (by omega)).trans ?_
          have y := h4.2.1 (r % 4) (by omega)
          rw [show e + 12 + r % 4 = e + r by omega] at y
          exact y
        · rw [if_neg (by omega), if_neg (by omega), if_neg (by omega), if_neg (by omega)]
          have y := h5.2.1 (r % 4) (by omega)
          rw [show e + 16 + r % 4 = e + r by omega] at y
          exact y
      · rw [if_neg z]
        obtain ⟨g1, g2⟩ := hby k (by omega)
        exact ⟨g1, (h5.1 _ (by omega)).trans ((h4.1 _ (by omega)).trans ((h3.1 _ (by omega)).trans ((h2.1 _ (by omega)).trans ((h1.1 _ (by omega)).trans g2))))⟩
    have ho : ∀ y, y ≠ a → y ≠ a + 1 → ∀ k, i5 y k = mI M y k := fun y q1 q2 k => congrFun ((h5.2.2.2.1 y q1 q2).trans ((h4.2.2.2.1 y q1 q2).trans ((h3.2.2.2.1 y q1 q2).trans ((h2.2.2.2.1 y q1 q2).trans (h1.2.2.2.1 y q1 q2))))) k
    have ha : ∀ k, k ≠ 1 → i5 a k = mI M a k := fun k q => (h5.2.2.2.2 k q).trans ((h4.2.2.2.2 k q).trans ((h3.2.2.2.2 k q).trans ((h2.2.2.2.2 k q).trans (h1.2.2.2.2 k q))))
    refine rC.y (i := i5) ?_ ?_ (fun y hy k => ho y (by omega) (by omega) k)
    · unfold rs_append
      rw [hse, if_neg (by omega)]
    · unfold sg_append
      rw [hse, if_neg (by omega)]
      exact hC.text hb h5.2.2.1 (by omega) ho ha
  · refine r_iconst (v := (-1)) hX dX10_append_13 (by decide) ?_
    refine r_ireturn hX rfl rfl dX10_append_14 (by decide) (by decide) ?_
    refine rC.y0 ?_ ?_
    · unfold rs_append
      rw [hse, if_pos (by omega)]
    · unfold sg_append
      rw [hse, if_pos (by omega)]
      exact hC

set_option maxHeartbeats 2000000 in
set_option maxRecDepth 20000 in
theorem t_X5_nameIn {M : Mm} {b N f t : Nat} {u : Nat → Nat} (hb : mS M b = some (12, N)) (hN : N < 100000) (hft : f ≤ t) (ht : t ≤ N) (hu : ∀ k, f ≤ k → k < t → u k < 256 ∧ mI M b k = nI (u k)) : Ct G base YX5_nameIn 1 0 0 [.ref b, .int (nI f), .int (nI t)] M (rE (some (.int (nI (nm32 u f (t - f))))) M) := by
  refine Ct.of IX5_nameIn.1 (by simp [Value.category]) (Nat.le_of_ble_eq_true rfl) (fun X hX hN => ?_)
  show J G base X 0 0 M 0 [some (.ref b), some (.int (nI f)), some (.int (nI t)), none, none] []
  refine r_aload_n hX dX5_nameIn_0 rfl ?_
  refine r_ifnull hX dX5_nameIn_1 ?_
  refine r_iload_n hX dX5_nameIn_4 rfl ?_
  refine rn_if_lt (tgt := 29) hX dX5_nameIn_5 (by decide) rfl (by omega) ?_
  refine r_iload_n hX dX5_nameIn_8 rfl ?_
  refine r_aload_n hX dX5_nameIn_9 rfl ?_
  refine r_alen hX dX5_nameIn_10 hb ?_
  refine rn_icmp_gt (tgt := 29) hX dX5_nameIn_11 (by decide) rfl rfl (by omega) (by omega) (fun c11 => by omega) (fun c11 => ?_)
  refine r_iload_n hX dX5_nameIn_14 rfl ?_
  refine r_iload_n hX dX5_nameIn_15 rfl ?_
  refine rn_isub hX dX5_nameIn_16 rfl rfl (by omega) ?_
  refine r_iconst (v := nI 1) hX dX5_nameIn_17 (by decide) ?_
  refine rn_icmp_lt (tgt := 29) hX dX5_nameIn_18 (by decide) rfl rfl (by omega) (by omega) (fun c18 => ?_) (fun c18 => ?_)
  · refine r_iconst (v := 0) hX dX5_nameIn_29 (by decide) ?_
    refine r_ireturn hX rfl rfl dX5_nameIn_30 (by decide) (by decide) ?_
    refine ⟨?_, rfl⟩
    unfold nm32
    rw [if_neg (fun z => by omega)]
    first | done | rfl
  · refine r_iload_n hX dX5_nameIn_21 rfl ?_
    refine r_iload_n hX dX5_nameIn_22 rfl ?_
    refine rn_isub hX dX5_nameIn_23 rfl rfl (by omega) ?_
    refine r_bipush (v := nI 6) hX dX5_nameIn_24 (by decide) ?_
    refine rn_icmp_le (tgt := 31) hX dX5_nameIn_26 (by decide) rfl rfl (by omega) (by omega) (fun c26 => ?_) (fun c26 => ?_)
    · refine r_iconst (v := nI 0) hX dX5_nameIn_31 (by decide) ?_
      refine r_istore3 hX dX5_nameIn_32 rfl ?_
      refine r_iload_n hX dX5_nameIn_33 rfl ?_
      refine r_istore4 hX dX5_nameIn_34 rfl ?_
      suffices hz : J G base X 0 0 M 36 [some (.ref b), some (.int (nI f)), some (.int (nI t)), some (.int (nI (e32 ((List.range 0).map fun q => u (f + q) - 96)))), some (.int (nI (f + 0)))] [] from hz
      refine loop_up (P := fun j => (∀ k, k < j → isL (u (f + k))) → J G base X 0 0 M 36 [some (.ref b), some (.int (nI f)), some (.int (nI t)), some (.int (nI (e32 ((List.range j).map fun q => u (f + q) - 96)))), some (.int (nI (f + j)))] []) (t - f) (fun j hj ih hal => ?_) 0 (Nat.zero_le _) (fun k hk => absurd hk (Nat.not_lt_zero _))
      have hvb := e32_b (e32_r hal)
      rw [List.length_map, List.length_range] at hvb
      refine r_iload hX dX5_nameIn_36 rfl ?_
      refine r_iload_n hX dX5_nameIn_38 rfl ?_
      refine rn_icmp_ge (tgt := 82) hX dX5_nameIn_39 (by decide) rfl rfl (by omega) (by omega) (fun c39 => ?_) (fun c39 => ?_)
      · refine r_iload_n hX dX5_nameIn_82 rfl ?_
        refine r_ireturn hX rfl rfl dX5_nameIn_83 (by decide) (by decide) ?_
        obtain rfl : j = t - f := by omega
        refine ⟨?_, rfl⟩
        unfold nm32
        rw [if_pos ⟨by omega, by omega, hal⟩]
      · obtain ⟨hu1, hu2⟩ := hu (f + j) (by omega) (by omega)
        refine r_aload_n hX dX5_nameIn_42 rfl ?_
        refine r_iload hX dX5_nameIn_43 rfl ?_
        refine rn_iald hX dX5_nameIn_45 hb rfl (by omega) (by omega) ?_
        rw [hu2]
        refine r_bipush (v := nI 97) hX dX5_nameIn_46 (by decide) ?_
        refine rn_icmp_lt (tgt := 60) hX dX5_nameIn_48 (by decide) rfl rfl (by omega) (by omega) (fun c48 => ?_) (fun c48 => ?_)
        · refine r_iconst (v := 0) hX dX5_nameIn_60 (by decide) ?_
          refine r_ireturn hX rfl rfl dX5_nameIn_61 (by decide) (by decide) ?_
          refine ⟨?_, rfl⟩
          unfold nm32
          rw [if_neg (fun z => by have := z.2.2 j (by omega); omega)]
          first | done | rfl
        · refine r_aload_n hX dX5_nameIn_51 rfl ?_
          refine r_iload hX dX5_nameIn_52 rfl ?_
          refine rn_iald hX dX5_nameIn_54 hb rfl (by omega) (by omega) ?_
          rw [hu2]
          refine r_bipush (v := nI 122) hX dX5_nameIn_55 (by decide) ?_
          refine rn_icmp_le (tgt := 62) hX dX5_nameIn_57 (by decide) rfl rfl (by omega) (by omega) (fun c57 => ?_) (fun c57 => ?_)
          · refine r_iload_n hX dX5_nameIn_62 rfl ?_
            refine r_iconst (v := 5) hX dX5_nameIn_63 (by decide) ?_
            refine r_ishl hX dX5_nameIn_64 ?_
            refine r_aload_n hX dX5_nameIn_65 rfl ?_
            refine r_iload hX dX5_nameIn_66 rfl ?_
            refine rn_iald hX dX5_nameIn_68 hb rfl (by omega) (by omega) ?_
            rw [hu2]
            refine r_bipush (v := nI 97) hX dX5_nameIn_69 (by decide) ?_
            refine rn_isub hX dX5_nameIn_71 rfl rfl (by omega) ?_
            refine r_iconst (v := nI 1) hX dX5_nameIn_72 (by decide) ?_
            refine rn_iadd hX dX5_nameIn_73 rfl rfl ?_
            refine r_ior hX dX5_nameIn_74 ?_
            have hl5 : (32 : Nat) ^ j ≤ 32 ^ 5 := Nat.pow_le_pow_right (by omega) (by omega)
            have h5e : (32 : Nat) ^ 5 = 33554432 := by decide
            rw [or_add (by omega) (by omega)]
            refine r_istore3 hX dX5_nameIn_75 rfl ?_
            refine rn_iinc4 hX dX5_nameIn_76 rfl rfl ?_
            refine r_goto (tgt := 36) hX dX5_nameIn_79 (by decide) ?_
            have z := ih (by omega) (fun k hk => by
              rcases (show k < j ∨ k = j by omega) with q | rfl
              · exact hal k q
              · exact ⟨by omega, by omega⟩)
            rw [range_s, e32_app, ← Nat.add_assoc, show u (f + j) - 96 = u (f + j) - 97 + 1 by omega] at z
            exact z
          · refine r_iconst (v := 0) hX dX5_nameIn_60 (by decide) ?_
            refine r_ireturn hX rfl rfl dX5_nameIn_61 (by decide) (by decide) ?_
            refine ⟨?_, rfl⟩
            unfold nm32
            rw [if_neg (fun z => by have := z.2.2 j (by omega); omega)]
            first | done | rfl
    · refine r_iconst (v := 0) hX dX5_nameIn_29 (by decide) ?_
      refine r_ireturn hX rfl rfl dX5_nameIn_30 (by decide) (by decide) ?_
      refine ⟨?_, rfl⟩
      unfold nm32
      rw [if_neg (fun z => by omega)]
      first | done | rfl
