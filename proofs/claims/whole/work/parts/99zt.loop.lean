variable {G : GG} {base : Nat}
theorem LX10.cong {S S' : Sh} {R R' : Rf} {a : Nat} (eS : ∀ x, a ≤ x → x < a + 208 → S' x = S x) (eR : ∀ x, a ≤ x → x < a + 208 → ∀ k, R' x k = R x k) (h : LX10 S R a) : LX10 S' R' a := by
  obtain ⟨h0, h1, h2, h3, h4, h5, h6, h7, h8, h9, h10, h11, h12, h13, h14, h15, h16⟩ := h
  exact ⟨(eS _ (by omega) (by omega)).trans h0, (eR _ (by omega) (by omega) _).trans h1, (eS _ (by omega) (by omega)).trans h2, (eR _ (by omega) (by omega) _).trans h3,
    LX5.cong (fun x a b => eS x (by omega) (by omega)) (fun x a b => eR x (by omega) (by omega)) h4, (eR _ (by omega) (by omega) _).trans h5,
    LX9.cong (fun x a b => eS x (by omega) (by omega)) (fun x a b => eR x (by omega) (by omega)) h6, (eR _ (by omega) (by omega) _).trans h7,
    LX8.cong (fun x a b => eS x (by omega) (by omega)) (fun x a b => eR x (by omega) (by omega)) h8, (eR _ (by omega) (by omega) _).trans h9,
    LX0.cong (fun x a b => eS x (by omega) (by omega)) (fun x a b => eR x (by omega) (by omega)) h10, (eR _ (by omega) (by omega) _).trans h11,
    LX7.cong (fun x a b => eS x (by omega) (by omega)) (fun x a b => eR x (by omega) (by omega)) h12, (eR _ (by omega) (by omega) _).trans h13,
    LX1.cong (fun x a b => eS x (by omega) (by omega)) (fun x a b => eR x (by omega) (by omega)) h14, (eR _ (by omega) (by omega) _).trans h15,
    LX3.cong (fun x a b => eS x (by omega) (by omega)) (fun x a b => eR x (by omega) (by omega)) h16⟩
theorem and63 (x : Int32) : ∃ k, k < 64 ∧ x &&& nI 63 = nI k := by
  refine ⟨(x.toBitVec &&& 63#32).toNat, ?_, ?_⟩
  · rw [BitVec.toNat_and]
    exact Nat.lt_of_le_of_lt Nat.and_le_right (by decide)
  · apply Int32.toBitVec_inj.mp
    rw [Int32.toBitVec_and]
    show x.toBitVec &&& 63#32 = BitVec.ofNat 32 (x.toBitVec &&& 63#32).toNat
    simp
theorem law_end {L i : Nat} (hL : L ≤ 3072) (hi : i ≤ L) (h : ¬ nI L - nI 6 < nI i) : i + 6 ≤ L := by
  by_cases h6 : 6 ≤ L
  · rw [pk_sub h6, nI_ltI (by omega) (by omega)] at h
    omega
  · exfalso
    apply h
    have z : ∀ L : Nat, L < 6 → ∀ i : Nat, i < 6 → nI L - nI 6 < nI i := by decide +kernel
    exact z L (by omega) i (by omega)
theorem LI.mono {M : Mm} {x r o T T' : Nat} {σ : Sg} (h : LI M x r o T σ) (hT : T ≤ T') : LI M x r o T' σ := by
  obtain ⟨h1, h2, h3, h4, h5, h6, h7, h8, h9⟩ := h
  exact ⟨h1, h2, h3, h4, h5, h6, h7, h8.mono hT, h9⟩
/-- the switch: every case comes to the loop's end -/
theorem law_switch {X : Cx} {b L : Nat} {xs : Nat → Int32} (hX : okL G base X) (hnc : ncX X) (hsc : scX X base b L xs) {M : Mm} {x r o T i cs sl k : Nat} {σ : Sg} (h : LI M x r o T σ) (hT : T < 800000) (hi : i + 6 ≤ L) (hL9 : L ≤ 3072) (hcs : cs + 1 ≤ 1024) (hsl : sl + 6 ≤ 32768) (hk : k < 64) (K : ∀ M' σ', LI M' x r o (T + 168) σ' → J G base X (cs + 1) (sl + 6) M' 2758 (lcs b x r o i) []) : J G base X cs sl M 40 (lcs b x r o i) [.int (nI k)] := by
  by_cases hk47 : k < 47
  · rcases (by omega : k = 0 ∨ k = 1 ∨ k = 2 ∨ k = 3 ∨ k = 4 ∨ k = 5 ∨ k = 6 ∨ k = 7 ∨ k = 8 ∨ k = 9 ∨ k = 10 ∨ k = 11 ∨ k = 12 ∨ k = 13 ∨ k = 14 ∨ k = 15 ∨ k = 16 ∨ k = 17 ∨ k = 18 ∨ k = 19 ∨ k = 20 ∨ k = 21 ∨ k = 22 ∨ k = 23 ∨ k = 24 ∨ k = 25 ∨ k = 26 ∨ k = 27 ∨ k = 28 ∨ k = 29 ∨ k = 30 ∨ k = 31 ∨ k = 32 ∨ k = 33 ∨ k = 34 ∨ k = 35 ∨ k = 36 ∨ k = 37 ∨ k = 38 ∨ k = 39 ∨ k = 40 ∨ k = 41 ∨ k = 42 ∨ k = 43 ∨ k = 44 ∨ k = 45 ∨ k = 46) with rfl | rfl | rfl | rfl | rfl | rfl | rfl | rfl | rfl | rfl | rfl | rfl | rfl | rfl | rfl | rfl | rfl | rfl | rfl | rfl | rfl | rfl | rfl | rfl | rfl | rfl | rfl | rfl | rfl | rfl | rfl | rfl | rfl | rfl | rfl | rfl | rfl | rfl | rfl | rfl | rfl | rfl | rfl | rfl | rfl | rfl | rfl
    · exact r_tabIn (off := 204) (tgt := 244) hX dL_law_40 (by decide) (by decide) (by decide) (by decide) (law_0 hX hnc hsc M x r o T i cs sl σ h hT hi hL9 hcs hsl K)
    · exact r_tabIn (off := 277) (tgt := 317) hX dL_law_40 (by decide) (by decide) (by decide) (by decide) (law_1 hX hnc hsc M x r o T i cs sl σ h hT hi hL9 hcs hsl K)
    · exact r_tabIn (off := 302) (tgt := 342) hX dL_law_40 (by decide) (by decide) (by decide) (by decide) (law_2 hX hnc hsc M x r o T i cs sl σ h hT hi hL9 hcs hsl K)
    · exact r_tabIn (off := 346) (tgt := 386) hX dL_law_40 (by decide) (by decide) (by decide) (by decide) (law_3 hX hnc hsc M x r o T i cs sl σ h hT hi hL9 hcs hsl K)
    · exact r_tabIn (off := 359) (tgt := 399) hX dL_law_40 (by decide) (by decide) (by decide) (by decide) (law_4 hX hnc hsc M x r o T i cs sl σ h hT hi hL9 hcs hsl K)
    · exact r_tabIn (off := 372) (tgt := 412) hX dL_law_40 (by decide) (by decide) (by decide) (by decide) (law_5 hX hnc hsc M x r o T i cs sl σ h hT hi hL9 hcs hsl K)
    · exact r_tabIn (off := 428) (tgt := 468) hX dL_law_40 (by decide) (by decide) (by decide) (by decide) (law_6 hX hnc hsc M x r o T i cs sl σ h hT hi hL9 hcs hsl K)
    · exact r_tabIn (off := 491) (tgt := 531) hX dL_law_40 (by decide) (by decide) (by decide) (by decide) (law_7 hX hnc hsc M x r o T i cs sl σ h hT hi hL9 hcs hsl K)
    · exact r_tabIn (off := 504) (tgt := 544) hX dL_law_40 (by decide) (by decide) (by decide) (by decide) (law_8 hX hnc hsc M x r o T i cs sl σ h hT hi hL9 hcs hsl K)
    · exact r_tabIn (off := 584) (tgt := 624) hX dL_law_40 (by decide) (by decide) (by decide) (by decide) (law_9 hX hnc hsc M x r o T i cs sl σ h hT hi hL9 hcs hsl K)
    · exact r_tabIn (off := 640) (tgt := 680) hX dL_law_40 (by decide) (by decide) (by decide) (by decide) (law_10 hX hnc hsc M x r o T i cs sl σ h hT hi hL9 hcs hsl K)
    · exact r_tabIn (off := 696) (tgt := 736) hX dL_law_40 (by decide) (by decide) (by decide) (by decide) (law_11 hX hnc hsc M x r o T i cs sl σ h hT hi hL9 hcs hsl K)
    · exact r_tabIn (off := 759) (tgt := 799) hX dL_law_40 (by decide) (by decide) (by decide) (by decide) (law_12 hX hnc hsc M x r o T i cs sl σ h hT hi hL9 hcs hsl K)
    · exact r_tabIn (off := 815) (tgt := 855) hX dL_law_40 (by decide) (by decide) (by decide) (by decide) (law_13 hX hnc hsc M x r o T i cs sl σ h hT hi hL9 hcs hsl K)
    · exact r_tabIn (off := 828) (tgt := 868) hX dL_law_40 (by decide) (by decide) (by decide) (by decide) (law_14 hX hnc hsc M x r o T i cs sl σ h hT hi hL9 hcs hsl K)
    · exact r_tabIn (off := 884) (tgt := 924) hX dL_law_40 (by decide) (by decide) (by decide) (by decide) (law_15 hX hnc hsc M x r o T i cs sl σ h hT hi hL9 hcs hsl K)
    · exact r_tabIn (off := 940) (tgt := 980) hX dL_law_40 (by decide) (by decide) (by decide) (by decide) (law_16 hX hnc hsc M x r o T i cs sl σ h hT hi hL9 hcs hsl K)
    · exact r_tabIn (off := 996) (tgt := 1036) hX dL_law_40 (by decide) (by decide) (by decide) (by decide) (law_17 hX hnc hsc M x r o T i cs sl σ h hT hi hL9 hcs hsl K)
    · exact r_tabIn (off := 1064) (tgt := 1104) hX dL_law_40 (by decide) (by decide) (by decide) (by decide) (law_18 hX hnc hsc M x r o T i cs sl σ h hT hi hL9 hcs hsl K)
    · exact r_tabIn (off := 1120) (tgt := 1160) hX dL_law_40 (by decide) (by decide) (by decide) (by decide) (law_19 hX hnc hsc M x r o T i cs sl σ h hT hi hL9 hcs hsl K)
    · exact r_tabIn (off := 1176) (tgt := 1216) hX dL_law_40 (by decide) (by decide) (by decide) (by decide) (law_20 hX hnc hsc M x r o T i cs sl σ h hT hi hL9 hcs hsl K)
    · exact r_tabIn (off := 1244) (tgt := 1284) hX dL_law_40 (by decide) (by decide) (by decide) (by decide) (law_21 hX hnc hsc M x r o T i cs sl σ h hT hi hL9 hcs hsl K)
    · exact r_tabIn (off := 1312) (tgt := 1352) hX dL_law_40 (by decide) (by decide) (by decide) (by decide) (law_22 hX hnc hsc M x r o T i cs sl σ h hT hi hL9 hcs hsl K)
    · exact r_tabIn (off := 1368) (tgt := 1408) hX dL_law_40 (by decide) (by decide) (by decide) (by decide) (law_23 hX hnc hsc M x r o T i cs sl σ h hT hi hL9 hcs hsl K)
    · exact r_tabIn (off := 1424) (tgt := 1464) hX dL_law_40 (by decide) (by decide) (by decide) (by decide) (law_24 hX hnc hsc M x r o T i cs sl σ h hT hi hL9 hcs hsl K)
    · exact r_tabIn (off := 1487) (tgt := 1527) hX dL_law_40 (by decide) (by decide) (by decide) (by decide) (law_25 hX hnc hsc M x r o T i cs sl σ h hT hi hL9 hcs hsl K)
    · exact r_tabIn (off := 1543) (tgt := 1583) hX dL_law_40 (by decide) (by decide) (by decide) (by decide) (law_26 hX hnc hsc M x r o T i cs sl σ h hT hi hL9 hcs hsl K)
    · exact r_tabIn (off := 1584) (tgt := 1624) hX dL_law_40 (by decide) (by decide) (by decide) (by decide) (law_27 hX hnc hsc M x r o T i cs sl σ h hT hi hL9 hcs hsl K)
    · exact r_tabIn (off := 1652) (tgt := 1692) hX dL_law_40 (by decide) (by decide) (by decide) (by decide) (law_28 hX hnc hsc M x r o T i cs sl σ h hT hi hL9 hcs hsl K)
    · exact r_tabIn (off := 1720) (tgt := 1760) hX dL_law_40 (by decide) (by decide) (by decide) (by decide) (law_29 hX hnc hsc M x r o T i cs sl σ h hT hi hL9 hcs hsl K)
    · exact r_tabIn (off := 1776) (tgt := 1816) hX dL_law_40 (by decide) (by decide) (by decide) (by decide) (law_30 hX hnc hsc M x r o T i cs sl σ h hT hi hL9 hcs hsl K)
    · exact r_tabIn (off := 1844) (tgt := 1884) hX dL_law_40 (by decide) (by decide) (by decide) (by decide) (law_31 hX hnc hsc M x r o T i cs sl σ h hT hi hL9 hcs hsl K)
    · exact r_tabIn (off := 1900) (tgt := 1940) hX dL_law_40 (by decide) (by decide) (by decide) (by decide) (law_32 hX hnc hsc M x r o T i cs sl σ h hT hi hL9 hcs hsl K)
    · exact r_tabIn (off := 1968) (tgt := 2008) hX dL_law_40 (by decide) (by decide) (by decide) (by decide) (law_33 hX hnc hsc M x r o T i cs sl σ h hT hi hL9 hcs hsl K)
    · exact r_tabIn (off := 2024) (tgt := 2064) hX dL_law_40 (by decide) (by decide) (by decide) (by decide) (law_34 hX hnc hsc M x r o T i cs sl σ h hT hi hL9 hcs hsl K)
    · exact r_tabIn (off := 2092) (tgt := 2132) hX dL_law_40 (by decide) (by decide) (by decide) (by decide) (law_35 hX hnc hsc M x r o T i cs sl σ h hT hi hL9 hcs hsl K)
    · exact r_tabIn (off := 2172) (tgt := 2212) hX dL_law_40 (by decide) (by decide) (by decide) (by decide) (law_36 hX hnc hsc M x r o T i cs sl σ h hT hi hL9 hcs hsl K)
    · exact r_tabIn (off := 2228) (tgt := 2268) hX dL_law_40 (by decide) (by decide) (by decide) (by decide) (law_37 hX hnc hsc M x r o T i cs sl σ h hT hi hL9 hcs hsl K)
    · exact r_tabIn (off := 2284) (tgt := 2324) hX dL_law_40 (by decide) (by decide) (by decide) (by decide) (law_38 hX hnc hsc M x r o T i cs sl σ h hT hi hL9 hcs hsl K)
    · exact r_tabIn (off := 2352) (tgt := 2392) hX dL_law_40 (by decide) (by decide) (by decide) (by decide) (law_39 hX hnc hsc M x r o T i cs sl σ h hT hi hL9 hcs hsl K)
    · exact r_tabIn (off := 2408) (tgt := 2448) hX dL_law_40 (by decide) (by decide) (by decide) (by decide) (law_40 hX hnc hsc M x r o T i cs sl σ h hT hi hL9 hcs hsl K)
    · exact r_tabIn (off := 2499) (tgt := 2539) hX dL_law_40 (by decide) (by decide) (by decide) (by decide) (law_41 hX hnc hsc M x r o T i cs sl σ h hT hi hL9 hcs hsl K)
    · exact r_tabIn (off := 2555) (tgt := 2595) hX dL_law_40 (by decide) (by decide) (by decide) (by decide) (law_42 hX hnc hsc M x r o T i cs sl σ h hT hi hL9 hcs hsl K)
    · exact r_tabIn (off := 2568) (tgt := 2608) hX dL_law_40 (by decide) (by decide) (by decide) (by decide) (law_43 hX hnc hsc M x r o T i cs sl σ h hT hi hL9 hcs hsl K)
    · exact r_tabIn (off := 2581) (tgt := 2621) hX dL_law_40 (by decide) (by decide) (by decide) (by decide) (law_44 hX hnc hsc M x r o T i cs sl σ h hT hi hL9 hcs hsl K)
    · exact r_tabIn (off := 2637) (tgt := 2677) hX dL_law_40 (by decide) (by decide) (by decide) (by decide) (law_45 hX hnc hsc M x r o T i cs sl σ h hT hi hL9 hcs hsl K)
    · exact r_tabIn (off := 2693) (tgt := 2733) hX dL_law_40 (by decide) (by decide) (by decide) (by decide) (law_46 hX hnc hsc M x r o T i cs sl σ h hT hi hL9 hcs hsl K)
  · refine r_tabOut (tgt := 2758) hX dL_law_40 (Or.inr ?_) (by decide) ?_
    · rw [nI_toInt (by omega)]
      omega
    · exact J.widen (by omega) (by omega) (K M σ (h.mono (by omega)))
set_option maxHeartbeats 2000000 in
set_option maxRecDepth 20000 in
/-- THE LOOP -/
theorem law_loop {X : Cx} {b L : Nat} {xs : Nat → Int32} (hX : okL G base X) (hnc : ncX X) (hsc : scX X base b L xs) (hL9 : L ≤ 3072) {x r o : Nat} : ∀ (n j : Nat) (M : Mm) (σ : Sg), 6 * j ≤ L → L < 6 * j + 6 * n → LI M x r o (168 * j) σ → J G base X (223 + j) (24708 + 6 * j) M 23 (lcs b x r o (6 * j)) []
  | 0, j, M, σ, h1, h2, _ => by omega
  | n + 1, j, M, σ, h1, h2, h => by
    refine r_iload hX dL_law_23 rfl ?_
    refine r_aload_n hX dL_law_25 rfl ?_
    refine r_slenA hX hsc dL_law_26 ?_
    refine r_bipush (v := nI 6) hX dL_law_27 (by decide) ?_
    refine r_isub hX dL_law_29 ?_
    refine r_icmp_gt (tgt := 2764) hX dL_law_30 (by decide) (fun c => ?_) (fun c => ?_)
    · refine r_iconst (v := 1) hX dL_law_2764 (by decide) ?_
      exact r_ireturn hX rfl rfl dL_law_2765 (by omega) (by omega) rfl
    · have h6 := law_end hL9 h1 c
      refine r_aload_n hX dL_law_33 rfl ?_
      refine r_iload hX dL_law_34 rfl ?_
      refine r_sld hX hsc dL_law_36 (by omega) hL9 ?_
      refine r_bipush (v := nI 63) hX dL_law_37 (by decide) ?_
      refine r_iand hX dL_law_39 ?_
      obtain ⟨k, hk, e⟩ := and63 (xs (6 * j))
      rw [e]
      refine law_switch hX hnc hsc h (by omega) h6 hL9 (by omega) (by omega) hk (fun M' σ' h' => ?_)
      refine r_iinc4 hX dL_law_2758 rfl ?_
      rw [show nI (6 * j) + Int32.ofInt 6 = nI (6 * j + 6) from nI_iinc _ 6]
      refine r_goto (tgt := 23) hX dL_law_2761 (by decide) ?_
      exact law_loop hX hnc hsc hL9 n (j + 1) M' σ' (by omega) (by omega) h'
/-- nothing yet: the system's cells begin at t -/
def M00 (t : Nat) : Mm := (fun _ => none, fun _ _ => none, fun _ _ => 0, fun _ _ => 0, some t)
theorem J.fT {X : Cx} {cs sl : Nat} {M : Mm} {pc : Nat} {ls : List (Option Value)} {st : List Value} (k : J G base X cs sl (fT M) pc ls st) : J G base X cs sl M pc ls st := by
  obtain ⟨p, l, e, R, s, m, args, below, meth, c, Q⟩ := X
  intro H locs lsA hM hS hl
  exact k H locs lsA ⟨hM.1, fun t ht => by cases ht⟩ hS hl
set_option maxHeartbeats 2000000 in
set_option maxRecDepth 20000 in
/-- THE LAW'S BODY -/
theorem law_body {X : Cx} {b L : Nat} {xs : Nat → Int32} (hX : okL G base X) (hnc : ncX X) (hao : aoX X) (hsc : scX X base b L xs) (hL9 : L ≤ 3072) : J G base X 0 0 (M00 base) 0 [some (.ref b), none, none, none, none, none, none, none, none] [] := by
  refine r_new (q := base) (ci := 10) hX rfl dL_law_0 cl_L_8 nw_X10 rfl (Nat.le_refl _) (Nat.le_of_ble_eq_true rfl) (Nat.le_of_ble_eq_true rfl) ?_
  refine r_dup hX dL_law_3 rfl ?_
  refine r_gI02 hX hao dL_law_4 IX10_init ml_L_134 rfl (t_X10_init (M := uN (M00 base) base (10, 0)) (a := base) (by simp [mS_uN]) (by simp [mI_uN]) rfl (Nat.le_refl _)) (by decide) (Nat.le_of_ble_eq_true rfl) (Nat.le_of_ble_eq_true rfl) (by decide) rfl (Nat.le_of_ble_eq_true rfl) (fun E N9 h9 => by obtain ⟨h9, -⟩ := h9; cases h9) (fun v N1 hB => ?_)
  obtain ⟨hv, ⟨t1, s1, r1, i1, l1⟩, lx1, ci1⟩ := hB
  cases hv
  show J G base X _ _ N1 _ _ [.ref base]
  refine r_astore1 hX dL_law_7 rfl ?_
  refine r_new (q := base + 208) (ci := 11) hX rfl dL_law_8 cl_L_135 nw_X11 t1 (Nat.le_add_right _ _) (Nat.le_of_ble_eq_true rfl) (Nat.le_of_ble_eq_true rfl) ?_
  refine r_dup hX dL_law_11 rfl ?_
  refine r_gI0 hX dL_law_12 IX11_init ml_L_137 rfl (t_X11_init (M := uN N1 (base + 208) (11, 0)) (a := base + 208) (by simp [mS_uN]) (by simp [mI_uN]) rfl (Nat.le_add_right _ _)) (by decide) (Nat.le_of_ble_eq_true rfl) (Nat.le_of_ble_eq_true rfl) (by decide) rfl (Nat.le_of_ble_eq_true rfl) (fun E N9 h9 => by obtain ⟨h9, -⟩ := h9; cases h9) (fun v N2 hB => ?_)
  obtain ⟨hv, ⟨t2, s2, r2, i2, l2⟩, lx2, ri2, row2⟩ := hB
  cases hv
  show J G base X _ _ N2 _ _ [.ref (base + 208)]
  refine r_astore2 hX dL_law_15 rfl ?_
  refine r_iconst (v := nI 1) hX dL_law_16 (by decide) ?_
  refine r_newL (q := base + 222) (N := 1) hX dL_law_17 (by rw [t2]) (Nat.le_add_right _ _) (Nat.le_of_ble_eq_true rfl) (Nat.le_of_ble_eq_true rfl) (Nat.le_of_ble_eq_true rfl) ?_
  refine r_astore3 hX dL_law_19 rfl ?_
  refine r_iconst (v := nI 0) hX dL_law_20 (by decide) ?_
  refine r_istore4 hX dL_law_21 rfl ?_
  refine J.fT ?_
  have eS : ∀ y, base ≤ y → y < base + 208 → mS (uN N2 (base + 222) (14, 1)) y = mS N1 y := fun y a b => by
    rw [mS_uN, if_neg (by omega), s2 y (by omega), mS_uN, if_neg (by omega)]
  have eR : ∀ y, base ≤ y → y < base + 208 → ∀ k, mR (uN N2 (base + 222) (14, 1)) y k = mR N1 y k := fun y a b k => by
    rw [mR_uN, if_neg (by omega), r2 y (by omega), mR_uN, if_neg (by omega)]
  have eI : ∀ y, base ≤ y → y < base + 208 → ∀ k, mI (uN N2 (base + 222) (14, 1)) y k = mI N1 y k := fun y a b k => by
    rw [mI_uN, if_neg (by omega), i2 y (by omega), mI_uN, if_neg (by omega)]
  have hx := LX10.cong (S' := (uN N2 (base + 222) (14, 1)).1) (R' := (uN N2 (base + 222) (14, 1)).2.1) eS eR lx1
  have hr := LX11.cong (S' := (uN N2 (base + 222) (14, 1)).1) (R' := (uN N2 (base + 222) (14, 1)).2.1) (a := base + 208) (fun y a b => by show mS (uN N2 (base + 222) (14, 1)) y = mS N2 y; rw [mS_uN, if_neg (by omega)]) (fun y a b k => by show mR (uN N2 (base + 222) (14, 1)) y k = mR N2 y k; rw [mR_uN, if_neg (by omega)]) lx2
  have hci : CI (mI (uN N2 (base + 222) (14, 1))) base (iniS (mI N2 (base + 208 + 1)) (mI N2 (base + 208 + 3)) (fun _ => 0) (mI N2 (base + 208 + 6)) (fun _ => 0)) := (ci1 _ _ _ _ _ row2).kept (fun y a b _ k => eI y a b k)
  have hri : RI (mI (uN N2 (base + 222) (14, 1))) (base + 208) (iniS (mI N2 (base + 208 + 1)) (mI N2 (base + 208 + 3)) (fun _ => 0) (mI N2 (base + 208 + 6)) (fun _ => 0)) := ri2.out (fun y a b k => by rw [mI_uN, if_neg (by omega)])
  have hLI : LI (fT (uN N2 (base + 222) (14, 1))) base (base + 208) (base + 222) (168 * 0) (iniS (mI N2 (base + 208 + 1)) (mI N2 (base + 208 + 3)) (fun _ => 0) (mI N2 (base + 208 + 6)) (fun _ => 0)) :=
    ⟨hx, hr, by rw [mS_fT, mS_uN, if_pos rfl], Nat.le_refl _, Nat.le_refl _, hci, hri, Gs.ini row2, rfl⟩
  exact law_loop hX hnc hsc hL9 513 0 _ _ (by omega) (by omega) hLI
