variable {G : GG} {base : Nat}
theorem stF_sh {m rd : Nat → Int32} {A : Nat} {x : Int32} : ∀ k, (∀ j, 1 ≤ j → j ≤ 2 * k → m (A + j) = rd j) → stF m A x k = stF rd 0 x k
  | 0, _ => rfl
  | k + 1, h => by
    have z := stF_sh (m := m) (rd := rd) (A := A) (x := x) k (fun j h1 h2 => h j h1 (by omega))
    have e1 : m (A + 1 + 2 * k) = rd (0 + 1 + 2 * k) := by
      rw [show A + 1 + 2 * k = A + (0 + 1 + 2 * k) by omega]
      exact h _ (by omega) (by omega)
    have e2 : m (A + 2 + 2 * k) = rd (0 + 2 + 2 * k) := by
      rw [show A + 2 + 2 * k = A + (0 + 2 + 2 * k) by omega]
      exact h _ (by omega) (by omega)
    simp only [stF]
    rw [z, e1, e2]
theorem stF_none {rd : Nat → Int32} {x : Int32} : ∀ c, (∀ k, k < c → ¬ rd (1 + 2 * k) = x) → stF rd 0 x c = -1
  | 0, _ => rfl
  | c + 1, h => by
    have z := stF_none (rd := rd) (x := x) c (fun k hk => h k (by omega))
    simp only [stF]
    rw [z, if_pos rfl, if_neg (by rw [show 0 + 1 + 2 * c = 1 + 2 * c by omega]; exact h c (by omega))]
/-- a stop more -/
abbrev rdS (rd : Nat → Int32) (c h pl : Nat) : Nat → Int32 := upd (upd (upd rd (1 + 2 * c) (nI h)) (2 + 2 * c) (nI pl)) 0 (nI (c + 1))
theorem st_add {rd : Nat → Int32} {c h pl x : Nat} (hh : ∀ k, k < c → ∃ g, rd (1 + 2 * k) = nI g ∧ g < h) (h24 : h < 24) (hx : x < 24) : stF (rdS rd c h pl) 0 (nI x) (c + 1) = if x = h then nI pl else stF rd 0 (nI x) c := by
  have e0 : stF (rdS rd c h pl) 0 (nI x) c = stF rd 0 (nI x) c := stF_congr (fun q q1 q2 => by simp only [rdS]; rw [upd_o (by omega), upd_o (by omega), upd_o (by omega)])
  have e1 : rdS rd c h pl (0 + 1 + 2 * c) = nI h := by
    simp only [rdS]
    rw [upd_o (by omega), upd_o (by omega), show 0 + 1 + 2 * c = 1 + 2 * c by omega, upd_s]
  have e2 : rdS rd c h pl (0 + 2 + 2 * c) = nI pl := by
    simp only [rdS]
    rw [upd_o (by omega), show 0 + 2 + 2 * c = 2 + 2 * c by omega, upd_s]
  conv => lhs; unfold stF
  rw [e0, e1, e2]
  by_cases hxh : x = h
  · subst hxh
    rw [if_pos rfl, if_pos rfl, if_pos (stF_none c (fun k hk z => by
      obtain ⟨g, g1, g2⟩ := hh k hk
      rw [g1] at z
      have := (nI_eq (by omega) (by omega)).mp z
      omega))]
  · rw [if_neg hxh, if_neg (fun z => hxh ((nI_eq (by omega) (by omega)).mp z).symm)]
    split
    · rename_i hz
      exact hz.symm
    · rfl
theorem rcN_st {n rd : Nat → Int32} {C V w k : Nat} {x : Int32} (hC : C < 5) (hw : w < 7) (hb : bt (nI V) w = true) (hk : k ≤ 6) : stF (rcN n C V rd 7) (rtA C w) x k = stF rd 0 x k := stF_sh k (fun j h1 h2 => by rw [rcN_r hC hC hw (by omega) 7 (Nat.le_refl _), if_pos ⟨rfl, by omega, hb⟩])
theorem rcN_no {n rd : Nat → Int32} {C V c' hh : Nat} (h6 : ∀ c, c < 5 → ∀ w, w < 7 → nv n (rtA c w) ≤ 6) (hC : C < 5) (hc : c' < 5) (hb : ¬ (c' = C ∧ bt (nI V) (hh / 24 % 7) = true)) : stopN (rcN n C V rd 7) c' hh = stopN n c' hh := by
  have hw : hh / 24 % 7 < 7 := Nat.mod_lt _ (by decide)
  have e : ∀ j, j < 13 → rcN n C V rd 7 (rtA c' (hh / 24 % 7) + j) = n (rtA c' (hh / 24 % 7) + j) := fun j hj => by rw [rcN_r hC hc hw hj 7 (Nat.le_refl _), if_neg (fun z => hb ⟨z.1, z.2.2⟩)]
  have h6' := h6 c' hc _ hw
  unfold stopN
  rw [nv_eq (show rcN n C V rd 7 (rtA c' (hh / 24 % 7)) = _ from e 0 (by omega))]
  exact stF_congr (fun q q1 q2 => by
    obtain ⟨j, rfl⟩ : ∃ j, q = rtA c' (hh / 24 % 7) + j := ⟨q - rtA c' (hh / 24 % 7), by omega⟩
    exact e j (by omega))
theorem rcN_ye {n rd : Nat → Int32} {C V c hh : Nat} (hC : C < 5) (hb : bt (nI V) (hh / 24 % 7) = true) (h0 : rd 0 = nI c) (hc : c ≤ 6) : stopN (rcN n C V rd 7) C hh = stF rd 0 (nI (hh % 24)) c := by
  have hw : hh / 24 % 7 < 7 := Nat.mod_lt _ (by decide)
  have e : rcN n C V rd 7 (rtA C (hh / 24 % 7)) = rd 0 := by
    have z := rcN_r (n := n) (rd := rd) (V := V) hC hC hw (j := 0) (by omega) 7 (Nat.le_refl _)
    rw [if_pos ⟨rfl, by omega, hb⟩] at z
    exact z
  unfold stopN
  rw [nv_of (e.trans h0) (by omega)]
  exact rcN_st hC hw hb hc
theorem gst_add {n rd : Nat → Int32} {C V c h pl : Nat} (h6 : ∀ c, c < 5 → ∀ w, w < 7 → nv n (rtA c w) ≤ 6) (hC : C < nv n 1) (hC5 : C < 5) (h0 : rd 0 = nI c) (hc : c < 6) (hh : ∀ k, k < c → ∃ g, rd (1 + 2 * k) = nI g ∧ g < h) (h24 : h < 24) (hpl : pl < 10) {t q c' : Nat} (ht : t < 168) (hq : q < 10) (hc' : c' < 5) : gstN (rcN n C V (rdS rd c h pl) 7) t q c' = (gstN (rcN n C V rd 7) t q c' || decide (c' = C ∧ q = pl ∧ t % 24 = h ∧ t / 24 < 7 ∧ bt (nI V) (t / 24) = true)) := by
  have e1 : ∀ rd, nv (rcN n C V rd 7) 1 = nv n 1 := fun rd => nv_eq (rcN_o hC5 (Or.inl (by omega)) 7 (Nat.le_refl _))
  unfold gstN
  rw [e1, e1]
  have hw : t / 24 % 7 = t / 24 := Nat.mod_eq_of_lt (by omega)
  by_cases hb : c' = C ∧ bt (nI V) (t / 24 % 7) = true
  · obtain ⟨rfl, hb⟩ := hb
    rw [rcN_ye hC5 hb (c := c + 1) (by simp only [rdS]; exact upd_s) (by omega), rcN_ye hC5 hb h0 (by omega), st_add hh h24 (Nat.mod_lt _ (by decide))]
    rw [hw] at hb
    by_cases hx : t % 24 = h
    · rw [if_pos hx]
      have hno : stF rd 0 (nI (t % 24)) c = -1 := stF_none c (fun k hk z => by
        obtain ⟨g, g1, g2⟩ := hh k hk
        rw [g1] at z
        have := (nI_eq (by omega) (by omega)).mp z
        omega)
      rw [hno, decide_eq_false (p := c' < nv n 1 ∧ (-1 : Int32) = nI q) (fun z => nI_m1 (by omega) z.2.symm), Bool.false_or]
      exact decide_eq_decide.mpr ⟨fun z => ⟨rfl, ((nI_eq (by omega) (by omega)).mp z.2).symm, hx, by omega, hb⟩, fun z => ⟨hC, by rw [z.2.1]⟩⟩
    · rw [if_neg hx, decide_eq_false (p := c' = c' ∧ _) (fun z => hx z.2.2.1), Bool.or_false]
  · rw [rcN_no h6 hC5 hc' hb, rcN_no h6 hC5 hc' hb, decide_eq_false (p := c' = C ∧ _) (fun z => hb ⟨z.1, by rw [hw]; exact z.2.2.2.2⟩), Bool.or_false]
theorem TT.stop {i i' : Nat → Nat → Int32} {b : Nat} {n rd : Nat → Int32} {C V c h pl : Nat} (hT : TT i b (rcN n C V rd 7)) (h6 : ∀ c, c < 5 → ∀ w, w < 7 → nv n (rtA c w) ≤ 6) (hb0 : nv n 0 ≤ 10) (hb1 : nv n 1 ≤ 5) (hC : C < nv n 1) (hC5 : C < 5) (h0 : rd 0 = nI c) (hc : c < 6) (hh : ∀ k, k < c → ∃ g, rd (1 + 2 * k) = nI g ∧ g < h) (h24 : h < 24) (hpl : pl < 10)
    (g1 : ∀ t, t < 168 → ∀ q, q < 10 → i' (b + 4) (t * 10 + q) = setB (adF (fun t q => gstN (rcN n C V rd 7) t q) C V h pl 7 t q) 5) (g2 : ∀ t, t < 168 → i' (b + 5) t = setB (adU (fun t q => anyB (gstN (rcN n C V rd 7) t q) 5) V h pl 7 t) 10) (g3 : ∀ z, z ≠ b + 4 → z ≠ b + 5 → i' z = i z) : TT i' b (rcN n C V (rdS rd c h pl) 7) := by
  obtain ⟨a1, a2, a3, a4, a5, a6, a7⟩ := hT
  have eo : ∀ q, q < 43 → rcN n C V (rdS rd c h pl) 7 q = rcN n C V rd 7 q := fun q hq => (rcN_o hC5 (Or.inl hq) 7 (Nat.le_refl _)).trans (rcN_o hC5 (Or.inl hq) 7 (Nat.le_refl _)).symm
  have e0 : nv (rcN n C V (rdS rd c h pl) 7) 0 = nv (rcN n C V rd 7) 0 := nv_eq (eo 0 (by omega))
  have e1 : nv (rcN n C V (rdS rd c h pl) 7) 1 = nv (rcN n C V rd 7) 1 := nv_eq (eo 1 (by omega))
  have eb : i' b = i b := g3 b (by omega) (by omega)
  refine ⟨by rw [eb, eo 0 (by omega)]; exact a1, ?_, by rw [eb, eo 1 (by omega)]; exact a3, fun p hp => ?_, fun c' hc' => ?_, fun t ht q hq => ?_, fun t ht => ?_⟩
  · rw [eb, a2]
    refine setB_congr (fun p hp => ?_)
    unfold town
    rw [e0, eo (8 + p) (by omega)]
  · have h10 : nv (rcN n C V rd 7) 0 = nv n 0 := nv_eq (rcN_o hC5 (Or.inl (by omega)) 7 (Nat.le_refl _))
    rw [e0] at hp
    rw [g3 _ (by omega) (by omega), eo (18 + p) (by omega)]
    exact a4 p hp
  · have h10 : nv (rcN n C V rd 7) 1 = nv n 1 := nv_eq (rcN_o hC5 (Or.inl (by omega)) 7 (Nat.le_refl _))
    rw [e1] at hc'
    rw [g3 _ (by omega) (by omega), eo (28 + c') (by omega)]
    exact a5 c' hc'
  · rw [g1 t ht q hq]
    exact setB_congr (fun c' hc' => (gst_add h6 hC hC5 h0 hc hh h24 hpl ht hq hc').symm)
  · rw [g2 t ht]
    refine setB_congr (fun q hq => ?_)
    unfold adU
    by_cases hd : q = pl ∧ t % 24 = h ∧ t / 24 < 7 ∧ bt (nI V) (t / 24) = true
    · rw [decide_eq_true hd, Bool.or_true]
      refine (anyB_iff.mpr ⟨C, hC5, ?_⟩).symm
      rw [gst_add h6 hC hC5 h0 hc hh h24 hpl ht hq hC5, decide_eq_true ⟨rfl, hd⟩, Bool.or_true]
    · rw [decide_eq_false hd, Bool.or_false]
      refine anyB_congr (fun c' hc' => ?_)
      rw [gst_add h6 hC hC5 h0 hc hh h24 hpl ht hq hc', decide_eq_false (p := c' = C ∧ _) (fun z => hd z.2), Bool.or_false]
/-- before the first stop -/
theorem TT.stop0 {i : Nat → Nat → Int32} {b : Nat} {n rd : Nat → Int32} {C V : Nat} (hT : TT i b n) (h6 : ∀ c, c < 5 → ∀ w, w < 7 → nv n (rtA c w) ≤ 6) (hb0 : nv n 0 ≤ 10) (hb1 : nv n 1 ≤ 5) (hC5 : C < 5) (h0 : rd 0 = nI 0) (hf : ∀ j, j < 7 → ¬ bt (nI V) j = true ∨ n (rtA C j) = 0) : TT i b (rcN n C V rd 7) := by
  obtain ⟨a1, a2, a3, a4, a5, a6, a7⟩ := hT
  have eo : ∀ q, q < 43 → rcN n C V rd 7 q = n q := fun q hq => rcN_o hC5 (Or.inl hq) 7 (Nat.le_refl _)
  have e0 : nv (rcN n C V rd 7) 0 = nv n 0 := nv_eq (eo 0 (by omega))
  have e1 : nv (rcN n C V rd 7) 1 = nv n 1 := nv_eq (eo 1 (by omega))
  have eg : ∀ t q c', c' < 5 → gstN (rcN n C V rd 7) t q c' = gstN n t q c' := fun t q c' hc' => by
    unfold gstN
    rw [e1]
    by_cases hb : c' = C ∧ bt (nI V) (t / 24 % 7) = true
    · obtain ⟨rfl, hb⟩ := hb
      have hz : n (rtA c' (t / 24 % 7)) = 0 := (hf _ (Nat.mod_lt _ (by decide))).resolve_left (fun z => z hb)
      have hs : stopN n c' t = -1 := by
        unfold stopN
        rw [nv_of (x := 0) hz (by decide)]
        rfl
      rw [rcN_ye hC5 hb h0 (by omega), hs]
      rfl
    · rw [rcN_no h6 hC5 hc' hb]
  refine ⟨by rw [eo 0 (by omega)]; exact a1, ?_, by rw [eo 1 (by omega)]; exact a3, fun p hp => ?_, fun c' hc' => ?_, fun t ht q hq => ?_, fun t ht => ?_⟩
  · rw [a2]
    refine setB_congr (fun p hp => ?_)
    unfold town
    rw [e0, eo (8 + p) (by omega)]
  · rw [e0] at hp
    rw [eo (18 + p) (by omega)]
    exact a4 p hp
  · rw [e1] at hc'
    rw [eo (28 + c') (by omega)]
    exact a5 c' hc'
  · rw [a6 t ht q hq]
    exact setB_congr (fun c' hc' => (eg t q c' hc').symm)
  · rw [a7 t ht]
    exact setB_congr (fun q hq => anyB_congr (fun c' hc' => (eg t q c' hc').symm))
