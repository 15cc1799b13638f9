variable {G : GG} {base : Nat}
/-- a number at place p of the reference's row n, at most b -/
abbrev nv (n : Nat → Int32) (p : Nat) : Nat := (n p).toNatClampNeg
def Rn (n : Nat → Int32) (p b : Nat) : Prop := n p = nI (nv n p) ∧ nv n p ≤ b
theorem Rn.mk {n : Nat → Int32} {p b x : Nat} (h : n p = nI x) (hx : x ≤ b) (hb : b < 2147483648 := by decide) : Rn n p b := by
  have e : nv n p = x := by
    show (n p).toNatClampNeg = x
    rw [h]; exact nI_clamp (by omega)
  exact ⟨by rw [e]; exact h, by rw [e]; exact hx⟩
theorem nv_of {n : Nat → Int32} {p x : Nat} (h : n p = nI x) (hx : x < 2147483648) : nv n p = x := by
  show (n p).toNatClampNeg = x
  rw [h]; exact nI_clamp hx
/-- a receipt in front, the others one further -/
def wrN (n : Nat → Int32) (l kd cr pl : Int32) : Nat → Int32 := fun q =>
  if q = 858 then n 6 else if q = 859 then l else if q = 860 then kd else if q = 861 then cr else if q = 862 then pl
  else if 863 ≤ q ∧ q < 1158 then n (q - 5) else if q = 4 then (if nv n 4 < 60 then nI (nv n 4 + 1) else n 4) else n q
/-- .. for an insured letter alone -/
def wrL (n : Nat → Int32) (l : Nat) (kd cr pl : Int32) : Nat → Int32 := if n (498 + 10 * l + 2) = 0 then n else wrN n (nI l) kd cr pl
theorem wrN_lo {n : Nat → Int32} {l kd cr pl : Int32} {q : Nat} (h : q < 858) (h4 : q ≠ 4) : wrN n l kd cr pl q = n q := by
  unfold wrN
  rw [if_neg (by omega), if_neg (by omega), if_neg (by omega), if_neg (by omega), if_neg (by omega), if_neg (by omega), if_neg h4]
theorem wrL_lo {n : Nat → Int32} {l : Nat} {kd cr pl : Int32} {q : Nat} (h : q < 858) (h4 : q ≠ 4) : wrL n l kd cr pl q = n q := by
  unfold wrL
  split
  · rfl
  · exact wrN_lo h h4
/-- where the g-th latest receipt lies in the ring -/
abbrev rp (x g : Nat) : Nat := if g + 1 ≤ x then x - 1 - g else x + 59 - g
/-- nothing was loaded yet: no places, carriers, letters -/
def noP (n : Nat → Int32) : Prop := n 0 = 0 ∧ n 1 = 0 ∧ n 2 = 0
theorem noP.eq {n m : Nat → Int32} (h : noP n) (h0 : m 0 = n 0) (h1 : m 1 = n 1) (h2 : m 2 = n 2) : noP m := ⟨h0.trans h.1, h1.trans h.2.1, h2.trans h.2.2⟩
theorem noP_p {n : Nat → Int32} {k : Nat} (h : k < nv n 0) : ¬ noP n := fun z => by
  have e : nv n 0 = 0 := by show (n 0).toNatClampNeg = 0; rw [z.1]; rfl
  omega
theorem noP_c {n : Nat → Int32} {k : Nat} (h : k < nv n 1) : ¬ noP n := fun z => by
  have e : nv n 1 = 0 := by show (n 1).toNatClampNeg = 0; rw [z.2.1]; rfl
  omega
theorem noP_l {n : Nat → Int32} {k : Nat} (h : k < nv n 2) : ¬ noP n := fun z => by
  have e : nv n 2 = 0 := by show (n 2).toNatClampNeg = 0; rw [z.2.2]; rfl
  omega
/-- the class's state at a is the reference's row n (before the first load the sacks don't count) -/
def RS (i : Nat → Nat → Int32) (a : Nat) (n : Nat → Int32) : Prop :=
  (i a 0 = n 6 ∧ i a 1 = n 5 ∧ i a 2 = n 7 ∧ ∀ c, c < 5 → bt (i a 3) c = decide (n (38 + c) = 1)) ∧
  ((∀ c, c < 5 → i (a + 1) c = n (33 + c)) ∨ noP n) ∧
  (i (a + 2) 0 = n 2 ∧ Rn n 2 30 ∧ ∀ l, l < nv n 2 → ∀ f, f < 10 → i (a + 2 + (f + 1)) l = n (498 + 10 * l + f)) ∧
  (i (a + 13) 0 = n 4 ∧ Rn n 4 60 ∧ ∃ x, x < 60 ∧ i (a + 13) 1 = nI x ∧ ∀ g, g < nv n 4 → ∀ w, w < 5 → i (a + 13 + 1) (rp x g * 5 + w) = n (858 + 5 * g + w)) ∧
  (i (a + 15) 0 = n 3 ∧ Rn n 3 30 ∧ ∀ j, j < nv n 3 → i (a + 15 + 1) j = n (798 + 2 * j) ∧ i (a + 15 + 2) j = n (798 + 2 * j + 1))
theorem RS.sk1 {i : Nat → Nat → Int32} {a : Nat} {n : Nat → Int32} (h : RS i a n) (hn : ¬ noP n) {c : Nat} (hc : c < 5) : i (a + 1) c = n (33 + c) := h.2.1.elim (fun z => z c hc) (fun z => absurd z hn)
theorem RS.kept {i i' : Nat → Nat → Int32} {a : Nat} {n : Nat → Int32} (h : RS i a n) (hk : ∀ x, a ≤ x → x < a + 18 → ∀ k, i' x k = i x k) : RS i' a n := by
  obtain ⟨⟨a1, a2, a3, a4⟩, b1, ⟨c1, c2, c3⟩, ⟨d1, d2, x, d3, d4, d5⟩, e1, e2, e3⟩ := h
  refine ⟨⟨?_, ?_, ?_, fun c hc => ?_⟩, b1.imp_left (fun z c hc => ?_), ⟨?_, c2, fun l hl f hf => ?_⟩, ⟨?_, d2, x, d3, ?_, fun g hg w hw => ?_⟩, ?_, e2, fun j hj => ⟨?_, ?_⟩⟩
  · rw [hk _ (by omega) (by omega)]; exact a1
  · rw [hk _ (by omega) (by omega)]; exact a2
  · rw [hk _ (by omega) (by omega)]; exact a3
  · rw [hk _ (by omega) (by omega)]; exact a4 c hc
  · rw [hk _ (by omega) (by omega)]; exact z c hc
  · rw [hk _ (by omega) (by omega)]; exact c1
  · rw [hk _ (by omega) (by omega)]; exact c3 l hl f hf
  · rw [hk _ (by omega) (by omega)]; exact d1
  · rw [hk _ (by omega) (by omega)]; exact d4
  · rw [hk _ (by omega) (by omega)]; exact d5 g hg w hw
  · rw [hk _ (by omega) (by omega)]; exact e1
  · rw [hk _ (by omega) (by omega)]; exact (e3 j hj).1
  · rw [hk _ (by omega) (by omega)]; exact (e3 j hj).2
theorem RS.copy {i i' : Nat → Nat → Int32} {a b : Nat} {n : Nat → Int32} (h : RS i b n) (hc : cpS i' i a b) : RS i' a n := by
  obtain ⟨⟨a1, a2, a3, a4⟩, b1, ⟨c1, c2, c3⟩, ⟨d1, d2, x, d3, d4, d5⟩, e1, e2, e3⟩ := h
  obtain ⟨p1, p2, p3, p4, p5, p6, p7, p8, p9, p10, -⟩ := hc
  refine ⟨⟨?_, ?_, ?_, fun c hc => ?_⟩, b1.imp_left (fun z c hc => ?_), ⟨?_, c2, fun l hl f hf => ?_⟩, ⟨?_, d2, x, d3, ?_, fun g hg w hw => ?_⟩, ?_, e2, fun j hj => ⟨?_, ?_⟩⟩
  · rw [p1 0 (by omega)]; exact a1
  · rw [p1 1 (by omega)]; exact a2
  · rw [p1 2 (by omega)]; exact a3
  · rw [p1 3 (by omega)]; exact a4 c hc
  · rw [p2]; exact z c hc
  · rw [p3]; exact c1
  · rw [p4 (f + 1) (by omega) (by omega)]; exact c3 l hl f hf
  · rw [p5]; exact d1
  · rw [p6]; exact d4
  · rw [p7]; exact d5 g hg w hw
  · rw [p8]; exact e1
  · rw [p9]; exact (e3 j hj).1
  · rw [p10]; exact (e3 j hj).2
/-- the carrier of a sack, of the first j carriers -/
def cwF (K : Nat → Int32) (s : Int32) : Nat → Int32
  | 0 => -1
  | j + 1 => if cwF K s j = -1 then (if K j = s then nI j else -1) else cwF K s j
theorem cwF_congr {K K' : Nat → Int32} {s : Int32} : ∀ {j : Nat}, (∀ c, c < j → K c = K' c) → cwF K s j = cwF K' s j
  | 0, _ => rfl
  | j + 1, h => by
    simp only [cwF]
    rw [cwF_congr (j := j) (fun c hc => h c (by omega)), h j (by omega)]
theorem cwF_stay {K : Nat → Int32} {s : Int32} {j : Nat} (hj : j < 1000) : ∀ {m : Nat}, cwF K s (j + 1) = nI j → j + 1 ≤ m → cwF K s m = nI j := by
  intro m h1 h2
  induction m with
  | zero => omega
  | succ m ih =>
    by_cases h : j + 1 = m + 1
    · rw [← h]; exact h1
    · have := ih (by omega)
      simp only [cwF, this]
      rw [if_neg (nI_ne_m1 (by omega))]
theorem cwF_spec {K : Nat → Int32} {s : Int32} : ∀ (j : Nat), j < 1000 → (cwF K s j = -1 ∧ ∀ c, c < j → ¬ K c = s) ∨ ∃ c, c < j ∧ cwF K s j = nI c ∧ K c = s ∧ ∀ c', c' < c → ¬ K c' = s
  | 0, _ => Or.inl ⟨rfl, fun c h => by omega⟩
  | j + 1, hj => by
    rcases cwF_spec j (by omega) with ⟨h1, h2⟩ | ⟨c, h1, h2, h3, h4⟩
    · simp only [cwF]
      rw [if_pos h1]
      by_cases h : K j = s
      · rw [if_pos h]
        exact Or.inr ⟨j, by omega, rfl, h, fun c' hc' => h2 c' hc'⟩
      · rw [if_neg h]
        exact Or.inl ⟨rfl, fun c hc => by
          by_cases hcj : c = j
          · subst hcj; exact h
          · exact h2 c (by omega)⟩
    · simp only [cwF]
      rw [h2, if_neg (nI_ne_m1 (by omega))]
      exact Or.inr ⟨c, by omega, rfl, h3, h4⟩
set_option maxHeartbeats 2000000 in
set_option maxRecDepth 20000 in
theorem t_X8_sackWith {M : Mm} {a c : Nat} (hL : LX8 M.1 M.2.1 a) (hc : c < 5) : Ct G base YX8_sackWith 1 0 0 [.ref a, .int (nI c)] M (rE (some (.int (mI M (a + 1) c))) M) := by
  refine Ct.of IX8_sackWith.1 (by simp [Value.category]) (Nat.le_of_ble_eq_true rfl) (fun X hX hN => ?_)
  show J G base X 0 0 M 0 [some (.ref a), some (.int (nI c))] []
  refine r_iload_n hX dX8_sackWith_0 rfl ?_
  refine rn_if_lt (tgt := 9) hX dX8_sackWith_1 (by decide) rfl (by omega) ?_
  refine r_iload_n hX dX8_sackWith_4 rfl ?_
  refine r_iconst (v := nI 5) hX dX8_sackWith_5 (by decide) ?_
  refine rn_icmp_lt (tgt := 13) hX dX8_sackWith_6 (by decide) rfl rfl (by omega) (by omega) (fun c6 => ?_) (fun c6 => absurd hc (by omega))
  refine r_aload_n hX dX8_sackWith_13 rfl ?_
  refine r_getr hX dX8_sackWith_14 fl_X8_24 rfl (LX8_s hL) (LX8_r4 hL) ?_
  refine r_iload_n hX dX8_sackWith_17 rfl ?_
  refine rn_iald hX dX8_sackWith_18 (LX8_a4 hL) rfl (by decide) (by omega) ?_
  refine r_ireturn hX rfl rfl dX8_sackWith_19 (by decide) (by decide) ?_
  exact ⟨rfl, rfl⟩
set_option maxHeartbeats 2000000 in
set_option maxRecDepth 20000 in
theorem t_X8_carrierWith {M : Mm} {a : Nat} (hL : LX8 M.1 M.2.1 a) {s : Int32} : Ct G base YX8_carrierWith 1 0 0 [.ref a, .int s] M (rE (some (.int (cwF (mI M (a + 1)) s 5))) M) := by
  refine Ct.of IX8_carrierWith.1 (by simp [Value.category]) (Nat.le_of_ble_eq_true rfl) (fun X hX hN => ?_)
  show J G base X 0 0 M 0 [some (.ref a), some (.int s), none] []
  refine r_iconst (v := nI 0) hX dX8_carrierWith_0 (by decide) ?_
  refine r_istore2 hX dX8_carrierWith_1 rfl ?_
  refine loop_up (P := fun j => cwF (mI M (a + 1)) s j = -1 → J G base X 0 0 M 2 [some (.ref a), some (.int s), some (.int (nI j))] []) 5 (fun j hj ih hno => ?_) 0 (Nat.zero_le _) rfl
  refine r_iload_n hX dX8_carrierWith_2 rfl ?_
  refine r_iconst (v := nI 5) hX dX8_carrierWith_3 (by decide) ?_
  refine rn_icmp_ge (tgt := 25) hX dX8_carrierWith_4 (by decide) rfl rfl (by omega) (by omega) (fun c4 => ?_) (fun c4 => ?_)
  · refine r_iconst (v := (-1)) hX dX8_carrierWith_25 (by decide) ?_
    refine r_ireturn hX rfl rfl dX8_carrierWith_26 (by decide) (by decide) ?_
    obtain rfl : j = 5 := by omega
    exact ⟨by rw [hno], rfl⟩
  · refine r_aload_n hX dX8_carrierWith_7 rfl ?_
    refine r_getr hX dX8_carrierWith_8 fl_X8_24 rfl (LX8_s hL) (LX8_r4 hL) ?_
    refine r_iload_n hX dX8_carrierWith_11 rfl ?_
    refine rn_iald hX dX8_carrierWith_12 (LX8_a4 hL) rfl (by decide) (by omega) ?_
    refine r_iload_n hX dX8_carrierWith_13 rfl ?_
    refine r_icmp_ne (tgt := 19) hX dX8_carrierWith_14 (by decide) (fun c14 => ?_) (fun c14 => ?_)
    · refine rn_iinc2 hX dX8_carrierWith_19 rfl rfl ?_
      refine r_goto (tgt := 2) hX dX8_carrierWith_22 (by decide) ?_
      have h9 := ih (by omega)
      simp only [cwF] at h9
      rw [if_pos hno, if_neg c14] at h9
      exact h9 rfl
    · refine r_iload_n hX dX8_carrierWith_17 rfl ?_
      refine r_ireturn hX rfl rfl dX8_carrierWith_18 (by decide) (by decide) ?_
      refine ⟨?_, rfl⟩
      rw [cwF_stay (j := j) (by omega) ?_ (by omega)]
      simp only [cwF]
      rw [if_pos hno, if_pos (by first | exact c14 | simpa using c14)]
set_option maxHeartbeats 2000000 in
set_option maxRecDepth 20000 in
theorem t_X8_holderOf {M : Mm} {a : Nat} {n : Nat → Int32} (hL : LX8 M.1 M.2.1 a) (hR : RS (mI M) a n) {l : Nat} (hl : l < nv n 2) : Ct G base YX8_holderOf 2 0 0 [.ref a, .int (nI l)] M (rE (some (.int (if n (498 + 10 * l + 3) = 1 then cwF (fun c => n (33 + c)) (n (498 + 10 * l + 4)) 5 else -1))) M) := by
  refine Ct.of IX8_holderOf.1 (by simp [Value.category]) (Nat.le_of_ble_eq_true rfl) (fun X hX hN => ?_)
  show J G base X 0 0 M 0 [some (.ref a), some (.int (nI l))] []
  have hm30 : nv n 2 ≤ 30 := hR.2.2.1.2.1.2
  have hm : mI M (a + 2) 0 = nI (nv n 2) := hR.2.2.1.1.trans hR.2.2.1.2.1.1
  have e3 : mI M (a + 2 + 4) l = n (498 + 10 * l + 3) := hR.2.2.1.2.2 l hl 3 (by omega)
  have e4 : mI M (a + 2 + 5) l = n (498 + 10 * l + 4) := hR.2.2.1.2.2 l hl 4 (by omega)
  have eK : cwF (mI M (a + 1)) (mI M (a + 2 + 5) l) 5 = cwF (fun c => n (33 + c)) (n (498 + 10 * l + 4)) 5 := by rw [e4]; exact cwF_congr fun c hc => hR.sk1 (noP_l hl) hc
  refine r_iload_n hX dX8_holderOf_0 rfl ?_
  refine rn_if_lt (tgt := 28) hX dX8_holderOf_1 (by decide) rfl (by omega) ?_
  refine r_iload_n hX dX8_holderOf_4 rfl ?_
  refine r_aload_n hX dX8_holderOf_5 rfl ?_
  refine r_getr hX dX8_holderOf_6 fl_X8_31 rfl (LX8_s hL) (LX8_r5 hL) ?_
  refine rn_geti hX dX8_holderOf_9 fl_X8_49 rfl (LX2_s (LX8_o5 hL)) hm ?_
  refine rn_icmp_ge (tgt := 28) hX dX8_holderOf_12 (by decide) rfl rfl (by omega) (by omega) (fun c12 => absurd hl (by omega)) (fun c12 => ?_)
  refine r_aload_n hX dX8_holderOf_15 rfl ?_
  refine r_getr hX dX8_holderOf_16 fl_X8_31 rfl (LX8_s hL) (LX8_r5 hL) ?_
  refine r_getr hX dX8_holderOf_19 fl_X8_72 rfl (LX2_s (LX8_o5 hL)) (LX2_r4 (LX8_o5 hL)) ?_
  refine r_iload_n hX dX8_holderOf_22 rfl ?_
  refine rn_iald hX dX8_holderOf_23 (LX2_a4 (LX8_o5 hL)) rfl (by decide) (by omega) ?_
  refine r_iconst (v := 1) hX dX8_holderOf_24 (by decide) ?_
  refine r_icmp_eq (tgt := 30) hX dX8_holderOf_25 (by decide) (fun c25 => ?_) (fun c25 => ?_)
  · refine r_aload_n hX dX8_holderOf_30 rfl ?_
    refine r_aload_n hX dX8_holderOf_31 rfl ?_
    refine r_getr hX dX8_holderOf_32 fl_X8_31 rfl (LX8_s hL) (LX8_r5 hL) ?_
    refine r_getr hX dX8_holderOf_35 fl_X8_75 rfl (LX2_s (LX8_o5 hL)) (LX2_r5 (LX8_o5 hL)) ?_
    refine r_iload_n hX dX8_holderOf_38 rfl ?_
    refine rn_iald hX dX8_holderOf_39 (LX2_a5 (LX8_o5 hL)) rfl (by decide) (by omega) ?_
    refine r_cV1 hX dX8_holderOf_40 IX8_carrierWith ml_X8_78 rfl (LX8_s hL) rfl (t_X8_carrierWith hL) (by decide) (by decide) (by decide) (by decide) rfl (Nat.le_of_ble_eq_true rfl) ?_
    refine r_ireturn hX rfl rfl dX8_holderOf_43 (by decide) (by decide) ?_
    exact ⟨by rw [if_pos (by rw [← e3]; exact c25), eK], rfl⟩
  · refine r_iconst (v := (-1)) hX dX8_holderOf_28 (by decide) ?_
    refine r_ireturn hX rfl rfl dX8_holderOf_29 (by decide) (by decide) ?_
    exact ⟨by rw [if_neg (by rw [← e3]; exact c25)], rfl⟩
set_option maxHeartbeats 2000000 in
set_option maxRecDepth 20000 in
theorem t_X8_writeReceipt {M : Mm} {a : Nat} {n : Nat → Int32} (hL : LX8 M.1 M.2.1 a) (hR : RS (mI M) a n) {l : Nat} (hl : l < nv n 2) {kd cr pl : Int32} : Ct G base YX8_writeReceipt 3 0 0 [.ref a, .int (nI l), .int kd, .int cr, .int pl] M (rI none M (fun i => RS i a (wrL n l kd cr pl) ∧ outB i (mI M) a 18)) := by
  refine Ct.of IX8_writeReceipt.1 (by simp [Value.category]) (Nat.le_of_ble_eq_true rfl) (fun X hX hN => ?_)
  show J G base X 0 0 M 0 [some (.ref a), some (.int (nI l)), some (.int kd), some (.int cr), some (.int pl)] []
  have hm30 : nv n 2 ≤ 30 := hR.2.2.1.2.1.2
  have hm : mI M (a + 2) 0 = nI (nv n 2) := hR.2.2.1.1.trans hR.2.2.1.2.1.1
  have e2 : mI M (a + 2 + 3) l = n (498 + 10 * l + 2) := hR.2.2.1.2.2 l hl 2 (by omega)
  have hR0 := hR
  obtain ⟨⟨a1, a2, a3, a4⟩, b1, ⟨c1, c2, c3⟩, ⟨d1, d2, x, d3, d4, d5⟩, e1', e2', e3'⟩ := hR
  refine r_iload_n hX dX8_writeReceipt_0 rfl ?_
  refine rn_if_lt (tgt := 43) hX dX8_writeReceipt_1 (by decide) rfl (by omega) ?_
  refine r_iload_n hX dX8_writeReceipt_4 rfl ?_
  refine r_aload_n hX dX8_writeReceipt_5 rfl ?_
  refine r_getr hX dX8_writeReceipt_6 fl_X8_31 rfl (LX8_s hL) (LX8_r5 hL) ?_
  refine rn_geti hX dX8_writeReceipt_9 fl_X8_49 rfl (LX2_s (LX8_o5 hL)) hm ?_
  refine rn_icmp_ge (tgt := 43) hX dX8_writeReceipt_12 (by decide) rfl rfl (by omega) (by omega) (fun c12 => absurd hl (by omega)) (fun c12 => ?_)
  refine r_aload_n hX dX8_writeReceipt_15 rfl ?_
  refine r_getr hX dX8_writeReceipt_16 fl_X8_31 rfl (LX8_s hL) (LX8_r5 hL) ?_
  refine r_getr hX dX8_writeReceipt_19 fl_X8_86 rfl (LX2_s (LX8_o5 hL)) (LX2_r3 (LX8_o5 hL)) ?_
  refine r_iload_n hX dX8_writeReceipt_22 rfl ?_
  refine rn_iald hX dX8_writeReceipt_23 (LX2_a3 (LX8_o5 hL)) rfl (by decide) (by omega) ?_
  refine r_if_eq (tgt := 43) hX dX8_writeReceipt_24 (by decide) (fun c24 => ?_) (fun c24 => ?_)
  · refine r_return hX rfl dX8_writeReceipt_43 (by decide) (by decide) ?_
    refine ⟨rfl, mI M, rfl, ?_, fun x _ k => rfl⟩
    rw [wrL, if_pos (by rw [← e2]; exact c24)]
    exact hR0
  · refine r_aload_n hX dX8_writeReceipt_27 rfl ?_
    refine r_getr hX dX8_writeReceipt_28 fl_X8_38 rfl (LX8_s hL) (LX8_r6 hL) ?_
    refine r_aload_n hX dX8_writeReceipt_31 rfl ?_
    refine r_geti hX dX8_writeReceipt_32 fl_X8_9 rfl (LX8_s hL) ?_
    refine r_iload_n hX dX8_writeReceipt_35 rfl ?_
    refine r_iload_n hX dX8_writeReceipt_36 rfl ?_
    refine r_iload_n hX dX8_writeReceipt_37 rfl ?_
    refine r_iload hX dX8_writeReceipt_38 rfl ?_
    refine r_cV5 hX dX8_writeReceipt_40 IX6_write ml_X8_89 rfl (LX6_s (LX8_o6 hL)) rfl (t_X6_write (LX8_o6 hL) d4 d3 (d1.trans d2.1) d2.2) (by decide) (by decide) (by decide) (by decide) rfl (Nat.le_of_ble_eq_true rfl) ?_
    refine r_return hX rfl dX8_writeReceipt_43 (by decide) (by decide) ?_
    refine ⟨rfl, mI (wrR M (a + 13) x (nv n 4) (mI M a 0) (nI l) kd cr pl), rfl, ?_, fun y hy k => ?_⟩
    · rw [wrL, if_neg (by rw [← e2]; exact c24)]
      have lo : ∀ q, q < 858 → q ≠ 4 → wrN n (nI l) kd cr pl q = n q := fun q h1 h2 => wrN_lo h1 h2
      have out : ∀ y, y ≠ a + 13 → y ≠ a + 13 + 1 → ∀ k, mI (wrR M (a + 13) x (nv n 4) (mI M a 0) (nI l) kd cr pl) y k = mI M y k := fun y h1 h2 k => by
        unfold wrR
        simp only [mI_uI]
        repeat rw [if_neg (by omega)]
      have n4 : wrN n (nI l) kd cr pl 4 = nI (if nv n 4 + 1 < 60 then nv n 4 + 1 else 60) := by
        have h4 : nv n 4 ≤ 60 := d2.2
        simp only [wrN]
        by_cases h : nv n 4 < 60
        · rw [if_neg (by decide), if_neg (by decide), if_neg (by decide), if_neg (by decide), if_neg (by decide), if_neg (by decide), if_pos trivial, if_pos h]
          congr 1
          split <;> omega
        · rw [if_neg (by decide), if_neg (by decide), if_neg (by decide), if_neg (by decide), if_neg (by decide), if_neg (by decide), if_pos trivial, if_neg h, if_neg (by omega), d2.1]
          congr 1
          omega
      have nv4 : nv (wrN n (nI l) kd cr pl) 4 = if nv n 4 + 1 < 60 then nv n 4 + 1 else 60 := nv_of n4 (by split <;> omega)
      have nv2 : nv (wrN n (nI l) kd cr pl) 2 = nv n 2 := by show (wrN n (nI l) kd cr pl 2).toNatClampNeg = _; rw [lo 2 (by omega) (by omega)]
      have nv3 : nv (wrN n (nI l) kd cr pl) 3 = nv n 3 := by show (wrN n (nI l) kd cr pl 3).toNatClampNeg = _; rw [lo 3 (by omega) (by omega)]
      refine ⟨⟨?_, ?_, ?_, fun c hc => ?_⟩, b1.imp (fun z c hc => ?_) (fun z => z.eq (lo _ (by omega) (by omega)) (lo _ (by omega) (by omega)) (lo _ (by omega) (by omega))), ⟨?_, ?_, fun l' hl' f hf => ?_⟩, ⟨?_, ?_, (if x + 1 < 60 then x + 1 else 0), ?_, ?_, fun g hg w hw => ?_⟩, ?_, ?_, fun j hj => ⟨?_, ?_⟩⟩
      · rw [out _ (by omega) (by omega), lo _ (by omega) (by omega)]; exact a1
      · rw [out _ (by omega) (by omega), lo _ (by omega) (by omega)]; exact a2
      · rw [out _ (by omega) (by omega), lo _ (by omega) (by omega)]; exact a3
      · rw [out _ (by omega) (by omega), lo _ (by omega) (by omega)]; exact a4 c hc
      · rw [out _ (by omega) (by omega), lo _ (by omega) (by omega)]; exact z c hc
      · rw [out _ (by omega) (by omega), lo _ (by omega) (by omega)]; exact c1
      · exact Rn.mk (x := nv n 2) (by rw [lo _ (by omega) (by omega)]; exact c2.1) c2.2
      · rw [nv2] at hl'
        rw [out _ (by omega) (by omega), lo _ (by omega) (by omega)]; exact c3 l' hl' f hf
      · rw [n4]
        unfold wrR
        simp only [mI_uI, if_true]
      · exact Rn.mk n4 (by split <;> omega)
      · split <;> omega
      · unfold wrR
        simp [mI_uI]
      · rw [nv4] at hg
        have hk60 : nv n 4 ≤ 60 := d2.2
        have key : ∀ v, mI (wrR M (a + 13) x (nv n 4) (mI M a 0) (nI l) kd cr pl) (a + 13 + 1) v = if v = x * 5 + 4 then pl else if v = x * 5 + 3 then cr else if v = x * 5 + 2 then kd else if v = x * 5 + 1 then nI l else if v = x * 5 then mI M a 0 else mI M (a + 13 + 1) v := fun v => by
          unfold wrR
          simp [mI_uI]
        rw [key]
        by_cases hg0 : g = 0
        · subst hg0
          have hp : rp (if x + 1 < 60 then x + 1 else 0) 0 = x := by
            show (if 0 + 1 ≤ (if x + 1 < 60 then x + 1 else 0) then _ else _) = x
            split <;> split <;> omega
          rw [hp]
          rcases (show w = 0 ∨ w = 1 ∨ w = 2 ∨ w = 3 ∨ w = 4 by omega) with rfl | rfl | rfl | rfl | rfl
          · rw [if_neg (by omega), if_neg (by omega), if_neg (by omega), if_neg (by omega), if_pos (by omega), a1]; rfl
          · rw [if_neg (by omega), if_neg (by omega), if_neg (by omega), if_pos rfl]; rfl
          · rw [if_neg (by omega), if_neg (by omega), if_pos rfl]; rfl
          · rw [if_neg (by omega), if_pos rfl]; rfl
          · rw [if_pos rfl]; rfl
        · have hg1 : g - 1 < nv n 4 := by split at hg <;> omega
          have hg59 : g < 60 := by split at hg <;> omega
          have hp : rp (if x + 1 < 60 then x + 1 else 0) g = rp x (g - 1) := by
            show (if g + 1 ≤ (if x + 1 < 60 then x + 1 else 0) then _ else _) = (if g - 1 + 1 ≤ x then _ else _)
            split <;> split <;> split <;> omega
          have hne : rp x (g - 1) ≠ x := by
            show (if g - 1 + 1 ≤ x then _ else _) ≠ x
            split <;> omega
          rw [hp, if_neg (by omega), if_neg (by omega), if_neg (by omega), if_neg (by omega), if_neg (by omega), d5 (g - 1) hg1 w hw]
          unfold wrN
          rw [if_neg (by omega), if_neg (by omega), if_neg (by omega), if_neg (by omega), if_neg (by omega), if_pos (by omega)]
          congr 1
          omega
      · rw [out _ (by omega) (by omega), lo _ (by omega) (by omega)]; exact e1'
      · exact Rn.mk (x := nv n 3) (by rw [lo _ (by omega) (by omega)]; exact e2'.1) e2'.2
      · rw [nv3] at hj
        have hj30 : nv n 3 ≤ 30 := e2'.2
        rw [out _ (by omega) (by omega), lo _ (by omega) (by omega)]; exact (e3' j hj).1
      · rw [nv3] at hj
        have hj30 : nv n 3 ≤ 30 := e2'.2
        rw [out _ (by omega) (by omega), lo _ (by omega) (by omega)]; exact (e3' j hj).2
    · unfold wrR
      simp only [mI_uI]
      repeat rw [if_neg (by omega)]
