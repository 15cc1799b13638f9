variable {G : GG} {base : Nat}
/-- the letters of a sack, as they are written -/
def lsT (n : Nat → Int32) (sk : Nat) : Nat → List Nat
  | 0 => []
  | l + 1 => lsT n sk l ++ (if n (498 + 10 * l + 3) = 1 ∧ n (498 + 10 * l + 4) = nI sk then [32] ++ numT l ++ (if n (498 + 10 * l + 2) = 0 then [] else [42]) else [])
theorem lsT_len {n : Nat → Int32} {sk : Nat} : ∀ l, (lsT n sk l).length ≤ 4 * l
  | 0 => Nat.le_refl 0
  | l + 1 => by
    have ih := @lsT_len n sk l
    have := @numT_len l
    unfold lsT
    rw [List.length_append]
    split
    · rw [List.length_append, List.length_append]
      split <;> simp <;> omega
    · simp
      omega
theorem lsT_asc {n : Nat → Int32} {sk : Nat} : ∀ l, l ≤ 30 → asc (lsT n sk l)
  | 0, _ => asc.no
  | l + 1, h => by
    unfold lsT
    refine asc.app (lsT_asc l (by omega)) ?_
    split
    · refine asc.app (asc.app (asc.one (by omega)) (asc.num (by omega))) ?_
      split
      · exact asc.no
      · exact asc.one (by omega)
    · exact asc.no
/-- a carrier's line -/
def txCr (n : Nat → Int32) (c : Nat) : List Nat := nmT (n (28 + c)) ++ [58] ++ [32] ++ numT (nv n (33 + c)) ++ lsT n (nv n (33 + c)) (nv n 2)
def rs_formatCarrier (σ : Sg) (x : Int32) : Int32 ⊕ Nat := match ix (nv σ.1 1) x with
  | none => .inr 1
  | some c => .inl (nI (txCr σ.1 c).length)
def sg_formatCarrier (σ : Sg) (x : Int32) : Sg := match ix (nv σ.1 1) x with
  | none => σ
  | some c => txS σ (txCr σ.1 c)
/-- a letter of the alphabet -/
abbrev isL (x : Nat) : Prop := 97 ≤ x ∧ x ≤ 122
/-- the number of a name, letter by letter -/
def nmV (u : Nat → Nat) (p : Nat) : Nat → Nat
  | 0 => 0
  | k + 1 => 27 * nmV u p k + (u (p + k) - 96)
theorem nmV_e {u : Nat → Nat} {p : Nat} : ∀ k, nmV u p k = e27 ((List.range k).map fun j => u (p + j) - 96)
  | 0 => rfl
  | k + 1 => by
    rw [List.range_succ, List.map_append]
    show _ = e27 (_ ++ [u (p + k) - 96])
    rw [e27_snoc, ← nmV_e k]
    rfl
theorem nmV_z {u : Nat → Nat} {p k : Nat} (h : ∀ j, j < k → isL (u (p + j))) : ∀ z, z ∈ (List.range k).map (fun j => u (p + j) - 96) → 1 ≤ z ∧ z ≤ 26 := by
  intro z hz
  obtain ⟨j, hj, rfl⟩ := List.mem_map.mp hz
  have := h j (List.mem_range.mp hj)
  unfold isL at this
  omega
theorem nmV_b {u : Nat → Nat} {p k : Nat} (h6 : k ≤ 6) (h : ∀ j, j < k → isL (u (p + j))) : nmV u p k < 387420489 := by
  rw [nmV_e]
  exact e27_b (nmV_z h) (by simp; omega)
theorem nmV_N {u : Nat → Nat} {p k : Nat} (h1 : 1 ≤ k) (h6 : k ≤ 6) (h : ∀ j, j < k → isL (u (p + j))) : Nm27 (nI (nmV u p k)) := ⟨(List.range k).map (fun j => u (p + j) - 96), by simp; exact h1, by simp; exact h6, nmV_z h, by rw [nmV_e]⟩
theorem itec {P Q : Prop} [Decidable P] [Decidable Q] (h : P ↔ Q) : (if P then (1 : Int32) else 0) = if Q then 1 else 0 := by
  by_cases hP : P
  · rw [if_pos hP, if_pos (h.mp hP)]
  · rw [if_neg hP, if_neg (fun q => hP (h.mpr q))]
theorem sbI_in {x a b : Nat} (hx : x < 256) (ha : a < 128) (hb : b < 128) : (nI a ≤ sbI x ∧ sbI x ≤ nI b) ↔ (a ≤ x ∧ x ≤ b) := by
  unfold sbI
  split
  · rw [nI_leI (by omega) (by omega), nI_leI (by omega) (by omega)]
  · have h1 : ∀ x, x < 256 → 128 ≤ x → ¬ (0 ≤ nI x - 256) := by decide +kernel
    constructor
    · rintro ⟨h, -⟩
      exact absurd (Int32.le_trans (nI_pos' (by omega)) h) (h1 x hx (by omega))
    · rintro ⟨-, h⟩
      omega
theorem sbI_l {x : Nat} (hx : isL x) : sbI x = nI x := by
  unfold isL at hx
  unfold sbI
  rw [if_pos (by omega)]
def tlS (σ : Sg) (t : Nat) : Sg := (σ.1, σ.2.1, σ.2.2.1, σ.2.2.2.1, t, σ.2.2.2.2.2)
def plN (σ : Sg) : Int32 := if 1 ≤ σ.2.2.2.2.1 ∧ σ.2.2.2.2.1 ≤ 6 ∧ ∀ k, k < σ.2.2.2.2.1 → isL (σ.2.2.2.1 k) then fnN σ.1 18 (nI (nmV σ.2.2.2.1 0 σ.2.2.2.2.1)) (nv σ.1 0) else -1
def rs_placeNamed (σ : Sg) : Int32 ⊕ Nat := .inl (plN σ)
theorem RI.tl {i j : Nat → Nat → Int32} {a : Nat} {σ : Sg} (h : RI i a σ) (h1 : ∀ x, x ≠ a → j x = i x) (h2 : ∀ k, k ≠ 7 → j a k = i a k) (h3 : j a 7 = 0) : RI j a (tlS σ 0) := by
  obtain ⟨g1, g2, g3, g4, g5, g6, g7, g8, g9, g10⟩ := h
  exact ⟨(h1 _ (by omega)).trans g1, (h1 _ (by omega)).trans g2, ⟨(h2 _ (by omega)).trans g3.1, g3.2⟩, fun k hk => absurd hk (Nat.not_lt_zero _), ⟨h3, Nat.zero_le _⟩, (h1 _ (by omega)).trans g6, (h2 _ (by omega)).trans g7, (h2 _ (by omega)).trans g8, fun k hk => ⟨(g9 k hk).1, (congrFun (h1 _ (by omega)) k).trans (g9 k hk).2⟩, (h2 _ (by omega)).trans g10.1, g10.2⟩
set_option maxHeartbeats 2000000 in
set_option maxRecDepth 20000 in
theorem t_X11_formatCarrier {M : Mm} {a : Nat} {σ : Sg} {T : Nat} (hL : LX11 M.1 M.2.1 a) (hR : RI (mI M) a σ) (hO : OkN T σ.1) (hT9 : T < 890000) {x : Int32} : Ct G base YX11_formatCarrier 9 0 0 [.ref a, .int x] M (rV M (pQ M a (rs_formatCarrier σ x) (sg_formatCarrier σ x))) := by
  obtain ⟨hT, hS, hLt, h4, h5, h6, hLo, hSt, hNa⟩ := hO
  have h0 := hT.1
  have h1 := hT.2.1
  have hr := hT.2.2
  have h2 := hLt.1
  have h3 := hLt.2.1
  have hb0 := h0.2
  have hb1 := h1.2
  have hb2 := h2.2
  have hb3 := h3.2
  have hb4 := h4.2
  have ht6 : σ.1 6 = nI (nv σ.1 6) := h6.1
  have hh6 : nv σ.1 6 ≤ T := h6.2
  by_cases hx : ∃ c, c < nv σ.1 1 ∧ x = nI c
  · obtain ⟨c, hc, rfl⟩ := hx
    obtain ⟨sk, hsk, ek⟩ := hS.1 c (by omega)
    have eK : nv σ.1 (33 + c) = sk := nv_of ek (by omega)
    have nC := hNa.2 c hc
    refine Ct.of IX11_formatCarrier.1 (by simp [Value.category]) (Nat.le_of_ble_eq_true rfl) (fun X hX hN => ?_)
    show J G base X 0 0 M 0 [some (.ref a), some (.int (nI c)), none, none] []
    refine r_aload_n hX dX11_formatCarrier_0 rfl ?_
    refine r_iconst (v := nI 0) hX dX11_formatCarrier_1 (by decide) ?_
    refine r_puti hX dX11_formatCarrier_2 fl_X11_3 rfl rfl (LX11_s hL) ?_
    refine J.gen (M0 := M) rfl (fun i0 h00 => ?_)
    obtain ⟨hR0, hn0, ht0, ho0⟩ := pub0 hR h00
    clear h00
    refine r_aload_n hX dX11_formatCarrier_5 rfl ?_
    refine r_iload_n hX dX11_formatCarrier_6 rfl ?_
    refine r_cV1 hX dX11_formatCarrier_7 IX11_noCarrier ml_X11_286 rfl (LX11_s hL) rfl (t_X11_noCarrier1 (M := wI M i0) hL hn0 h1 ⟨c, hc, rfl⟩) (by decide) (by decide) (by decide) (by decide) rfl (Nat.le_of_ble_eq_true rfl) ?_
    refine r_if_eq (tgt := 15) hX dX11_formatCarrier_10 (by decide) (fun c10 => ?_) (fun c10 => absurd c10 (by decide))
    refine r_aload_n hX dX11_formatCarrier_15 rfl ?_
    refine r_getr hX dX11_formatCarrier_16 fl_X11_13 rfl (LX11_s hL) (LX11_r1 hL) ?_
    refine r_bipush (v := nI 33) hX dX11_formatCarrier_19 (by decide) ?_
    refine r_iload_n hX dX11_formatCarrier_21 rfl ?_
    refine rn_iadd hX dX11_formatCarrier_22 rfl rfl ?_
    refine rn_iald hX dX11_formatCarrier_23 (LX11_a1 hL) rfl (by omega) (by omega) ?_
    rw [hn0]
    rw [ek]
    refine r_istore2 hX dX11_formatCarrier_24 rfl ?_
    refine r_aload_n hX dX11_formatCarrier_25 rfl ?_
    refine r_iconst (v := nI 0) hX dX11_formatCarrier_26 (by decide) ?_
    refine r_puti hX dX11_formatCarrier_27 fl_X11_322 rfl rfl (LX11_s hL) ?_
    refine J.gen (M0 := M) rfl (fun i1 h1 => ?_)
    have hq1 : tq i0 a [] i1 := tq.nil h1
    clear h1
    have hn1 : mI (wI M i1) (a + 1) = σ.1 := (hq1.2.1 _ (by omega) (by omega)).trans hn0
    refine r_aload_n hX dX11_formatCarrier_30 rfl ?_
    refine r_aload_n hX dX11_formatCarrier_31 rfl ?_
    refine r_getr hX dX11_formatCarrier_32 fl_X11_13 rfl (LX11_s hL) (LX11_r1 hL) ?_
    refine r_bipush (v := nI 28) hX dX11_formatCarrier_35 (by decide) ?_
    refine r_iload_n hX dX11_formatCarrier_37 rfl ?_
    refine rn_iadd hX dX11_formatCarrier_38 rfl rfl ?_
    refine rn_iald hX dX11_formatCarrier_39 (LX11_a1 hL) rfl (by omega) (by omega) ?_
    rw [hn1]
    refine r_iV1 hX dX11_formatCarrier_40 IX11_saysName ml_X11_328 rfl (LX11_s hL) rfl (t_X11_saysNm (M := wI M i1) hL hq1.1 (by simp only [List.length_append, List.length_cons, List.length_nil]; omega) nC) (by decide) (by decide) (by decide) (by decide) rfl (Nat.le_of_ble_eq_true rfl) (fun i112 hq112 => ?_)
    show J G base X _ _ (wI M i112) _ _ _
    replace hq112 := hq1.st hq112
    have hn112 : mI (wI M i112) (a + 1) = σ.1 := (hq112.2.1 _ (by omega) (by omega)).trans hn0
    refine r_aload_n hX dX11_formatCarrier_43 rfl ?_
    refine r_bipush (v := nI 58) hX dX11_formatCarrier_44 (by decide) ?_
    have lC := nmT_len nC
    refine r_iV1 hX dX11_formatCarrier_46 IX11_says ml_X11_325 rfl (LX11_s hL) rfl (t_X11_says (M := wI M i112) hL hq112.1 (by simp only [List.length_append, List.length_cons, List.length_nil]; omega) (by omega)) (by decide) (by decide) (by decide) (by decide) rfl (Nat.le_of_ble_eq_true rfl) (fun i113 hq113 => ?_)
    show J G base X _ _ (wI M i113) _ _ _
    replace hq113 := hq112.st hq113
    have hn113 : mI (wI M i113) (a + 1) = σ.1 := (hq113.2.1 _ (by omega) (by omega)).trans hn0
    refine r_aload_n hX dX11_formatCarrier_49 rfl ?_
    refine r_bipush (v := nI 32) hX dX11_formatCarrier_50 (by decide) ?_
    refine r_iV1 hX dX11_formatCarrier_52 IX11_says ml_X11_325 rfl (LX11_s hL) rfl (t_X11_says (M := wI M i113) hL hq113.1 (by simp only [List.length_append, List.length_cons, List.length_nil]; omega) (by omega)) (by decide) (by decide) (by decide) (by decide) rfl (Nat.le_of_ble_eq_true rfl) (fun i114 hq114 => ?_)
    show J G base X _ _ (wI M i114) _ _ _
    replace hq114 := hq113.st hq114
    have hn114 : mI (wI M i114) (a + 1) = σ.1 := (hq114.2.1 _ (by omega) (by omega)).trans hn0
    refine r_aload_n hX dX11_formatCarrier_55 rfl ?_
    refine r_iload_n hX dX11_formatCarrier_56 rfl ?_
    refine r_iV1 hX dX11_formatCarrier_57 IX11_saysNumber ml_X11_339 rfl (LX11_s hL) rfl (t_X11_saysNum (M := wI M i114) hL hq114.1 (by simp only [List.length_append, List.length_cons, List.length_nil]; omega) (by omega)) (by decide) (by decide) (by decide) (by decide) rfl (Nat.le_of_ble_eq_true rfl) (fun i115 hq115 => ?_)
    show J G base X _ _ (wI M i115) _ _ _
    replace hq115 := hq114.st hq115
    have hn115 : mI (wI M i115) (a + 1) = σ.1 := (hq115.2.1 _ (by omega) (by omega)).trans hn0
    refine r_iconst (v := nI 0) hX dX11_formatCarrier_60 (by decide) ?_
    refine r_istore3 hX dX11_formatCarrier_61 rfl ?_
    have lC := nmT_len nC
    have lK := @numT_len sk
    rw [List.nil_append] at hq115
    generalize eP : nmT (σ.1 (28 + c)) ++ [58] ++ [32] ++ numT sk = P0 at hq115
    have lP : P0.length ≤ 10 := by rw [← eP]; simp only [List.length_append, List.length_cons, List.length_nil]; omega
    have aP : asc P0 := by rw [← eP]; exact (((asc.nm nC).app (asc.one (by omega))).app (asc.one (by omega))).app (asc.num (by omega))
    refine loop_us (σ := Nat → Nat → Int32) (P := fun j i => tq i0 a (P0 ++ lsT σ.1 sk j) i → J G base X 0 0 (wI M i) 62 [some (.ref a), some (.int (nI c)), some (.int (nI sk)), some (.int (nI j))] []) (nv σ.1 2) (fun j i hj ih hq => ?_) 0 i115 (Nat.zero_le _) (by rw [show lsT σ.1 sk 0 = [] from rfl, List.append_nil]; exact hq115)
    have hn : mI (wI M i) (a + 1) = σ.1 := (hq.2.1 _ (by omega) (by omega)).trans hn0
    have lL := @lsT_len σ.1 sk j
    have lJ := @numT_len j
    refine r_iload_n hX dX11_formatCarrier_62 rfl ?_
    refine r_aload_n hX dX11_formatCarrier_63 rfl ?_
    refine r_cV0 hX dX11_formatCarrier_64 IX11_letters ml_X11_170 rfl (LX11_s hL) rfl (t_X11_letters (M := wI M i) hL hn h2) (by decide) (by decide) (by decide) (by decide) rfl (Nat.le_of_ble_eq_true rfl) ?_
    refine rn_icmp_ge (tgt := 115) hX dX11_formatCarrier_67 (by decide) rfl rfl (by omega) (by omega) (fun c67 => ?_) (fun c67 => ?_)
    · refine r_aload_n hX dX11_formatCarrier_115 rfl ?_
      refine rn_geti (v := nI _) hX dX11_formatCarrier_116 fl_X11_322 rfl (LX11_s hL) hq.1.1 ?_
      refine r_ireturn hX rfl rfl dX11_formatCarrier_119 (by decide) (by decide) ?_
      obtain rfl : j = nv σ.1 2 := by omega
      have eL : txCr σ.1 c = P0 ++ lsT σ.1 sk (nv σ.1 2) := by
        unfold txCr
        rw [eK, eP]
      refine ⟨_, i, rfl, rfl, ?_, ?_, ?_⟩
      · unfold sg_formatCarrier
        rw [ix_of hc (by omega)]
        dsimp only
        rw [eL]
        exact hq.RI hR0 (aP.app (lsT_asc _ (by omega))) (by rw [List.length_append]; omega)
      · unfold rs_formatCarrier
        rw [ix_of hc (by omega)]
        dsimp only
        rw [eL]
        exact ⟨rfl, (hq.2.2 0 (by omega)).trans ht0⟩
      · intro x hx k
        exact (congrFun (hq.2.1 x (by omega) (by omega)) k).trans (ho0 x hx k)
    · refine r_aload_n hX dX11_formatCarrier_70 rfl ?_
      refine r_iload_n hX dX11_formatCarrier_71 rfl ?_
      refine r_iconst (v := nI 1) hX dX11_formatCarrier_72 (by decide) ?_
      refine r_iload_n hX dX11_formatCarrier_73 rfl ?_
      refine r_cV3 hX dX11_formatCarrier_74 IX11_isIn ml_X11_262 rfl (LX11_s hL) rfl (t_X11_isIn (M := wI M i) hL hn (by omega)) (by decide) (by decide) (by decide) (by decide) rfl (Nat.le_of_ble_eq_true rfl) ?_
      refine rb_if_ne (tgt := 83) hX dX11_formatCarrier_77 (by decide) rfl (fun c77 => ?_) (fun c77 => ?_)
      · refine r_aload_n hX dX11_formatCarrier_83 rfl ?_
        refine r_bipush (v := nI 32) hX dX11_formatCarrier_84 (by decide) ?_
        refine r_iV1 hX dX11_formatCarrier_86 IX11_says ml_X11_325 rfl (LX11_s hL) rfl (t_X11_says (M := wI M i) hL hq.1 (by simp only [List.length_append, List.length_cons, List.length_nil]; omega) (by omega)) (by decide) (by decide) (by decide) (by decide) rfl (Nat.le_of_ble_eq_true rfl) (fun i116 hq116 => ?_)
        show J G base X _ _ (wI M i116) _ _ _
        replace hq116 := hq.st hq116
        have hn116 : mI (wI M i116) (a + 1) = σ.1 := (hq116.2.1 _ (by omega) (by omega)).trans hn0
        refine r_aload_n hX dX11_formatCarrier_89 rfl ?_
        refine r_iload_n hX dX11_formatCarrier_90 rfl ?_
        refine r_iV1 hX dX11_formatCarrier_91 IX11_saysNumber ml_X11_339 rfl (LX11_s hL) rfl (t_X11_saysNum (M := wI M i116) hL hq116.1 (by simp only [List.length_append, List.length_cons, List.length_nil]; omega) (by omega)) (by decide) (by decide) (by decide) (by decide) rfl (Nat.le_of_ble_eq_true rfl) (fun i117 hq117 => ?_)
        show J G base X _ _ (wI M i117) _ _ _
        replace hq117 := hq116.st hq117
        have hn117 : mI (wI M i117) (a + 1) = σ.1 := (hq117.2.1 _ (by omega) (by omega)).trans hn0
        refine r_aload_n hX dX11_formatCarrier_94 rfl ?_
        refine r_iload_n hX dX11_formatCarrier_95 rfl ?_
        refine r_iconst (v := nI 2) hX dX11_formatCarrier_96 (by decide) ?_
        refine r_cV2 hX dX11_formatCarrier_97 IX11_of ml_X11_67 rfl (LX11_s hL) rfl (t_X11_of (M := wI M i117) hL hn117 (by omega) (by omega)) (by decide) (by decide) (by decide) (by decide) rfl (Nat.le_of_ble_eq_true rfl) ?_
        refine r_if_eq (tgt := 109) hX dX11_formatCarrier_100 (by decide) (fun c100 => ?_) (fun c100 => ?_)
        · refine rn_iinc3 hX dX11_formatCarrier_109 rfl rfl ?_
          refine r_goto (tgt := 62) hX dX11_formatCarrier_112 (by decide) ?_
          refine ih (by omega) _ (?_ : tq i0 a (P0 ++ lsT σ.1 sk (j + 1)) _)
          have e : lsT σ.1 sk (j + 1) = lsT σ.1 sk j ++ (if σ.1 (498 + 10 * j + 3) = nI 1 ∧ σ.1 (498 + 10 * j + 4) = nI sk then [32] ++ numT j ++ (if σ.1 (498 + 10 * j + 2) = 0 then [] else [42]) else []) := rfl
          rw [e]
          rw [if_pos c77, if_pos c100, List.append_nil, ← List.append_assoc, ← List.append_assoc]
          exact hq117
        · refine r_aload_n hX dX11_formatCarrier_103 rfl ?_
          refine r_bipush (v := nI 42) hX dX11_formatCarrier_104 (by decide) ?_
          refine r_iV1 hX dX11_formatCarrier_106 IX11_says ml_X11_325 rfl (LX11_s hL) rfl (t_X11_says (M := wI M i117) hL hq117.1 (by simp only [List.length_append, List.length_cons, List.length_nil]; omega) (by omega)) (by decide) (by decide) (by decide) (by decide) rfl (Nat.le_of_ble_eq_true rfl) (fun i118 hq118 => ?_)
          show J G base X _ _ (wI M i118) _ _ _
          replace hq118 := hq117.st hq118
          have hn118 : mI (wI M i118) (a + 1) = σ.1 := (hq118.2.1 _ (by omega) (by omega)).trans hn0
          refine rn_iinc3 hX dX11_formatCarrier_109 rfl rfl ?_
          refine r_goto (tgt := 62) hX dX11_formatCarrier_112 (by decide) ?_
          refine ih (by omega) _ (?_ : tq i0 a (P0 ++ lsT σ.1 sk (j + 1)) _)
          have e : lsT σ.1 sk (j + 1) = lsT σ.1 sk j ++ (if σ.1 (498 + 10 * j + 3) = nI 1 ∧ σ.1 (498 + 10 * j + 4) = nI sk then [32] ++ numT j ++ (if σ.1 (498 + 10 * j + 2) = 0 then [] else [42]) else []) := rfl
          rw [e]
          rw [if_pos c77, if_neg c100, ← List.append_assoc, ← List.append_assoc, ← List.append_assoc]
          exact hq118
      · refine r_goto (tgt := 109) hX dX11_formatCarrier_80 (by decide) ?_
        refine rn_iinc3 hX dX11_formatCarrier_109 rfl rfl ?_
        refine r_goto (tgt := 62) hX dX11_formatCarrier_112 (by decide) ?_
        refine ih (by omega) _ (?_ : tq i0 a (P0 ++ lsT σ.1 sk (j + 1)) _)
        have e : lsT σ.1 sk (j + 1) = lsT σ.1 sk j ++ (if σ.1 (498 + 10 * j + 3) = nI 1 ∧ σ.1 (498 + 10 * j + 4) = nI sk then [32] ++ numT j ++ (if σ.1 (498 + 10 * j + 2) = 0 then [] else [42]) else []) := rfl
        rw [e]
        rw [if_neg c77, List.append_nil]
        exact hq
  · refine Ct.of IX11_formatCarrier.1 (by simp [Value.category]) (Nat.le_of_ble_eq_true rfl) (fun X hX hN => ?_)
    show J G base X 0 0 M 0 [some (.ref a), some (.int x), none, none] []
    refine r_aload_n hX dX11_formatCarrier_0 rfl ?_
    refine r_iconst (v := nI 0) hX dX11_formatCarrier_1 (by decide) ?_
    refine r_puti hX dX11_formatCarrier_2 fl_X11_3 rfl rfl (LX11_s hL) ?_
    refine J.gen (M0 := M) rfl (fun i0 h00 => ?_)
    obtain ⟨hR0, hn0, ht0, ho0⟩ := pub0 hR h00
    clear h00
    refine r_aload_n hX dX11_formatCarrier_5 rfl ?_
    refine r_iload_n hX dX11_formatCarrier_6 rfl ?_
    refine r_cV1 hX dX11_formatCarrier_7 IX11_noCarrier ml_X11_286 rfl (LX11_s hL) rfl (t_X11_noCarrier0 (M := wI M i0) hL hn0 h1 hx) (by decide) (by decide) (by decide) (by decide) rfl (Nat.le_of_ble_eq_true rfl) ?_
    refine r_if_eq (tgt := 15) hX dX11_formatCarrier_10 (by decide) (fun c10 => absurd c10 (by decide)) (fun c10 => ?_)
    refine r_iconst (v := 0) hX dX11_formatCarrier_13 (by decide) ?_
    refine r_ireturn hX rfl rfl dX11_formatCarrier_14 (by decide) (by decide) ?_
    obtain ⟨q1, q2, q3⟩ := pub1 hR0 ho0 1
    refine ⟨_, mI (uI (wI M i0) a 0 1), rfl, rfl, ?_, ?_, q3⟩
    · unfold sg_formatCarrier
      rw [ix_no hx]
      exact q1
    · unfold rs_formatCarrier
      rw [ix_no hx]
      exact q2

set_option maxHeartbeats 2000000 in
set_option maxRecDepth 20000 in
theorem t_X11_placeNamed {M : Mm} {a : Nat} {σ : Sg} {T : Nat} (hL : LX11 M.1 M.2.1 a) (hR : RI (mI M) a σ) (hO : OkN T σ.1) (hT9 : T < 890000) : Ct G base YX11_placeNamed 2 0 0 [.ref a] M (rV M (pQ M a (rs_placeNamed σ) (tlS σ 0))) := by
  obtain ⟨hT, hS, hLt, h4, h5, h6, hLo, hSt, hNa⟩ := hO
  have h0 := hT.1
  have h1 := hT.2.1
  have hr := hT.2.2
  have h2 := hLt.1
  have h3 := hLt.2.1
  have hb0 := h0.2
  have hb1 := h1.2
  have hb2 := h2.2
  have hb3 := h3.2
  have hb4 := h4.2
  have ht6 : σ.1 6 = nI (nv σ.1 6) := h6.1
  have hh6 : nv σ.1 6 ≤ T := h6.2
  have hU := hR.2.2.2.1
  have hl9 := hR.2.2.2.2.1.2
  refine Ct.of IX11_placeNamed.1 (by simp [Value.category]) (Nat.le_of_ble_eq_true rfl) (fun X hX hN => ?_)
  show J G base X 0 0 M 0 [some (.ref a), none, none, none] []
  refine r_aload_n hX dX11_placeNamed_0 rfl ?_
  refine r_iconst (v := nI 0) hX dX11_placeNamed_1 (by decide) ?_
  refine r_puti hX dX11_placeNamed_2 fl_X11_3 rfl rfl (LX11_s hL) ?_
  refine J.gen (M0 := M) rfl (fun i0 h00 => ?_)
  obtain ⟨hR0, hn0, ht0, ho0⟩ := pub0 hR h00
  clear h00
  refine r_aload_n hX dX11_placeNamed_5 rfl ?_
  refine rn_geti (v := nI σ.2.2.2.2.1) hX dX11_placeNamed_6 fl_X11_89 rfl (LX11_s hL) hR0.2.2.2.2.1.1 ?_
  refine r_istore1 hX dX11_placeNamed_9 rfl ?_
  refine r_aload_n hX dX11_placeNamed_10 rfl ?_
  refine r_iconst (v := nI 0) hX dX11_placeNamed_11 (by decide) ?_
  refine r_puti hX dX11_placeNamed_12 fl_X11_89 rfl rfl (LX11_s hL) ?_
  refine J.gen (M0 := M) rfl (fun i1 h1 => ?_)
  have h1x : ∀ x, i1 x = mI (uI (wI M i0) a 7 0) x := fun x => funext (h1 x)
  have h1o : ∀ x, x ≠ a → i1 x = i0 x := fun x hx => (h1x x).trans (uIo hx)
  have h1k : ∀ k, k ≠ 7 → i1 a k = i0 a k := fun k hk => (h1 a k).trans (by simp [mI_uI, mI_wI, hk])
  have hR1 : RI i1 a (tlS σ 0) := hR0.tl h1o h1k ((h1 a 7).trans (by simp [mI_uI]; rfl))
  have ht1 : i1 a 0 = 0 := (h1k 0 (by omega)).trans ht0
  have ho1 : outB i1 (mI M) a 14 := fun x hx k => (congrFun (h1o x (by omega)) k).trans (ho0 x hx k)
  have hn1 : mI (wI M i1) (a + 1) = σ.1 := hR1.1
  have hu1 : ∀ k, k < σ.2.2.2.2.1 → i1 (a + 4) k = sbI (σ.2.2.2.1 k) := fun k hk => (congrFun (h1o _ (by omega)) k).trans (hR0.2.2.2.1 k hk).2
  clear h1 h1x
  generalize hd : σ.2.2.2.2.1 = d at hu1 hl9 hU
  generalize hu : σ.2.2.2.1 = u at hu1 hU
  refine r_iload_n hX dX11_placeNamed_15 rfl ?_
  refine r_iconst (v := 1) hX dX11_placeNamed_16 (by decide) ?_
  refine r_bipush (v := 6) hX dX11_placeNamed_17 (by decide) ?_
  refine r_cS3 hX dX11_placeNamed_19 IX11_in ml_X11_79 rfl (t_X11_in (M := wI M i1) ) (by decide) (by decide) (by decide) (by decide) rfl (Nat.le_of_ble_eq_true rfl) ?_
  rw [show (if (1 : Int32) ≤ nI d ∧ nI d ≤ 6 then (1 : Int32) else 0) = if 1 ≤ d ∧ d ≤ 6 then 1 else 0 from itec (and_congr (nI_leI (a := 1) (b := d) (by omega) (by omega)) (nI_leI (a := d) (b := 6) (by omega) (by omega)))]
  refine rb_if_ne (tgt := 27) hX dX11_placeNamed_22 (by decide) rfl (fun c22 => ?_) (fun c22 => ?_)
  · refine r_iconst (v := nI 0) hX dX11_placeNamed_27 (by decide) ?_
    refine r_istore2 hX dX11_placeNamed_28 rfl ?_
    refine r_iconst (v := nI 0) hX dX11_placeNamed_29 (by decide) ?_
    refine r_istore3 hX dX11_placeNamed_30 rfl ?_
    have c6 := c22.2
    refine loop_up (P := fun j => (∀ k, k < j → isL (u k)) → J G base X 0 0 (wI M i1) 31 [some (.ref a), some (.int (nI d)), some (.int (nI (nmV u 0 j))), some (.int (nI j))] []) d (fun j hj ih hok => ?_) 0 (Nat.zero_le _) (fun k hk => absurd hk (Nat.not_lt_zero _))
    have hvb := nmV_b (u := u) (p := 0) (k := j) (by omega) (fun k hk => by rw [Nat.zero_add]; exact hok k hk)
    refine r_iload_n hX dX11_placeNamed_31 rfl ?_
    refine r_iload_n hX dX11_placeNamed_32 rfl ?_
    refine rn_icmp_ge (tgt := 77) hX dX11_placeNamed_33 (by decide) rfl rfl (by omega) (by omega) (fun c33 => ?_) (fun c33 => ?_)
    · refine r_aload_n hX dX11_placeNamed_77 rfl ?_
      refine r_bipush (v := nI 18) hX dX11_placeNamed_78 (by decide) ?_
      refine r_aload_n hX dX11_placeNamed_80 rfl ?_
      refine r_cV0 hX dX11_placeNamed_81 IX11_places ml_X11_75 rfl (LX11_s hL) rfl (t_X11_places (M := wI M i1) hL hn1 h0) (by decide) (by decide) (by decide) (by decide) rfl (Nat.le_of_ble_eq_true rfl) ?_
      refine r_iload_n hX dX11_placeNamed_84 rfl ?_
      refine r_cV3 hX dX11_placeNamed_85 IX11_find ml_X11_140 rfl (LX11_s hL) rfl (t_X11_find (M := wI M i1) hL hn1 (by omega) (by omega)) (by decide) (by decide) (by decide) (by decide) rfl (Nat.le_of_ble_eq_true rfl) ?_
      refine r_ireturn hX rfl rfl dX11_placeNamed_88 (by decide) (by decide) ?_
      obtain rfl : j = d := by omega
      refine ⟨_, i1, rfl, rfl, hR1, ⟨?_, ht1⟩, ho1⟩
      unfold plN
      rw [hd, hu, if_pos ⟨c22.1, c22.2, hok⟩]
    · refine r_aload_n hX dX11_placeNamed_36 rfl ?_
      refine r_getr hX dX11_placeNamed_37 fl_X11_23 rfl (LX11_s hL) (LX11_r5 hL) ?_
      refine r_iload_n hX dX11_placeNamed_40 rfl ?_
      refine rn_bald hX dX11_placeNamed_41 (LX11_a5 hL) rfl (by omega) (by omega) ?_
      rw [show mI (wI M i1) (a + 4) j = sbI (u j) from hu1 j (by omega)]
      refine r_bipush (v := 97) hX dX11_placeNamed_42 (by decide) ?_
      refine r_bipush (v := 122) hX dX11_placeNamed_44 (by decide) ?_
      refine r_cS3 hX dX11_placeNamed_46 IX11_in ml_X11_79 rfl (t_X11_in (M := wI M i1) ) (by decide) (by decide) (by decide) (by decide) rfl (Nat.le_of_ble_eq_true rfl) ?_
      rw [show (if (97 : Int32) ≤ sbI (u j) ∧ sbI (u j) ≤ 122 then (1 : Int32) else 0) = if isL (u j) then 1 else 0 from itec (sbI_in (a := 97) (b := 122) (hU j (by omega)).1 (by omega) (by omega))]
      refine rb_if_ne (tgt := 54) hX dX11_placeNamed_49 (by decide) rfl (fun c49 => ?_) (fun c49 => ?_)
      · have hlj : isL (u j) := c49
        have hlj2 : 97 ≤ u j ∧ u j ≤ 122 := c49
        refine r_bipush (v := nI 27) hX dX11_placeNamed_54 (by decide) ?_
        refine r_iload_n hX dX11_placeNamed_56 rfl ?_
        refine rn_imul hX dX11_placeNamed_57 rfl rfl ?_
        refine r_aload_n hX dX11_placeNamed_58 rfl ?_
        refine r_getr hX dX11_placeNamed_59 fl_X11_23 rfl (LX11_s hL) (LX11_r5 hL) ?_
        refine r_iload_n hX dX11_placeNamed_62 rfl ?_
        refine rn_bald hX dX11_placeNamed_63 (LX11_a5 hL) rfl (by omega) (by omega) ?_
        rw [show mI (wI M i1) (a + 4) j = sbI (u j) from hu1 j (by omega), sbI_l hlj]
        refine rn_iadd hX dX11_placeNamed_64 rfl rfl ?_
        refine r_bipush (v := nI 97) hX dX11_placeNamed_65 (by decide) ?_
        refine rn_isub hX dX11_placeNamed_67 rfl rfl (by omega) ?_
        refine r_iconst (v := nI 1) hX dX11_placeNamed_68 (by decide) ?_
        refine rn_iadd hX dX11_placeNamed_69 rfl rfl ?_
        refine r_istore2 hX dX11_placeNamed_70 rfl ?_
        refine rn_iinc3 hX dX11_placeNamed_71 rfl rfl ?_
        refine r_goto (tgt := 31) hX dX11_placeNamed_74 (by decide) ?_
        have z := ih (by omega) (fun k hk => by
          rcases (show k < j ∨ k = j by omega) with q | rfl
          · exact hok k q
          · exact hlj)
        rw [show nmV u 0 (j + 1) = 27 * nmV u 0 j + u j - 97 + 1 by show 27 * nmV u 0 j + (u (0 + j) - 96) = _; rw [Nat.zero_add]; omega] at z
        exact z
      · refine r_iconst (v := (-1)) hX dX11_placeNamed_52 (by decide) ?_
        refine r_ireturn hX rfl rfl dX11_placeNamed_53 (by decide) (by decide) ?_
        refine ⟨_, i1, rfl, rfl, hR1, ⟨?_, ht1⟩, ho1⟩
        unfold plN
        rw [if_neg (fun z => c49 (by rw [← hu]; exact z.2.2 j (by omega)))]
  · refine r_iconst (v := (-1)) hX dX11_placeNamed_25 (by decide) ?_
    refine r_ireturn hX rfl rfl dX11_placeNamed_26 (by decide) (by decide) ?_
    refine ⟨_, i1, rfl, rfl, hR1, ⟨?_, ht1⟩, ho1⟩
    unfold plN
    rw [if_neg (fun z => c22 ⟨by rw [← hd]; exact z.1, by rw [← hd]; exact z.2.1⟩)]

