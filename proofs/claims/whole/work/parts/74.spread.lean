variable {G : GG} {base : Nat}
/-- the rotation of a set over a group, as the loop does it: first, before, after -/
def swI (s g : Int32) : Nat → Int32 × Int32 × Int32
  | 0 => (-1, -1, s &&& (g ^^^ -1))
  | k + 1 => if hasP g (nI k) then (if (swI s g k).2.1 = -1 then (nI k, nI k, (swI s g k).2.2) else ((swI s g k).1, nI k, if hasP s (nI k) then (swI s g k).2.2 ||| bitI (swI s g k).2.1 else (swI s g k).2.2)) else swI s g k
def swF5 (s g : Int32) : Int32 := if hasP s (swI s g 5).1 then (swI s g 5).2.2 ||| bitI (swI s g 5).2.1 else (swI s g 5).2.2
theorem sw_5 : ∀ b0 b1 b2 b3 b4 c0 c1 c2 c3 c4 : Bool, swF5 (setB (gv b0 b1 b2 b3 b4) 5) (setB (gv c0 c1 c2 c3 c4) 5) = setB (fun k => if gv c0 c1 c2 c3 c4 k = true then gv b0 b1 b2 b3 b4 (nxG (gv c0 c1 c2 c3 c4) k) else gv b0 b1 b2 b3 b4 k) 5 := by decide +kernel
theorem sw_set (C g : Nat → Bool) : swF5 (setB C 5) (setB g 5) = setB (fun k => if g k = true then C (nxG g k) else C k) 5 := by
  rw [setB_congr (fun j hj => gv_eq C hj), setB_congr (fun j hj => gv_eq g hj), sw_5]
  refine setB_congr (fun j hj => ?_)
  rw [← gv_eq g hj]
  by_cases h : g j = true
  · rw [if_pos h, if_pos h, ← gv_nx g hj, ← gv_eq C (nxG_in hj h).1]
  · rw [if_neg h, if_neg h, ← gv_eq C hj]
theorem setB_and (f g : Nat → Bool) {k : Nat} (hk : k ≤ 32) : setB f k &&& setB g k = setB (fun i => f i && g i) k := by
  apply b_ext
  intro i _
  rw [b_and, bt_setB f k hk, bt_setB g k hk, bt_setB _ k hk]
  cases decide (i < k) <;> simp
theorem setB_or (f g : Nat → Bool) {k : Nat} (hk : k ≤ 32) : setB f k ||| setB g k = setB (fun i => f i || g i) k := by
  apply b_ext
  intro i _
  rw [b_or, bt_setB f k hk, bt_setB g k hk, bt_setB _ k hk]
  cases decide (i < k) <;> simp
theorem setB_or1 (f : Nat → Bool) {k j : Nat} (hk : k ≤ 31) (hj : j < k) : setB f k ||| bitI (nI j) = setB (fun i => f i || decide (i = j)) k := by
  have e : bitI (nI j) = b1 j := bitI_nI (by omega)
  rw [e]
  apply b_ext
  intro i _
  rw [bt_or_b1 (by omega), bt_setB f k (by omega), bt_setB _ k (by omega)]
  by_cases h : i = j
  · rw [decide_eq_true h, h, decide_eq_true hj]
    simp
  · rw [decide_eq_false h]
    simp
theorem setB_eq {f g : Nat → Bool} {k : Nat} (hk : k ≤ 32) : setB f k = setB g k ↔ ∀ i, i < k → f i = g i := by
  constructor
  · intro h i hi
    have := bt_setB f (i := i) k hk
    rw [h, bt_setB g k hk, decide_eq_true hi, Bool.true_and, Bool.true_and] at this
    exact this.symm
  · exact setB_congr
/-- who works -/
def wkO (n : Nat → Int32) (w : Int32) : Prop := ∀ c, c < 5 → bt w c = decide (¬ n (38 + c) = 1)
theorem grpB_iff {n : Nat → Int32} (hO : TbOk n) {h p c : Nat} (hp : p < 10) (hc : c < 5) : grpB n h p c = true ↔ c < nv n 1 ∧ ¬ n (38 + c) = 1 ∧ stopN n c h = nI p := by
  unfold grpB plQ
  rw [decide_eq_true_iff]
  unfold placeN
  constructor
  · intro e
    by_cases h1 : n (38 + c) = 1
    · rw [if_pos h1, if_neg (fun z => absurd z.2 (by decide))] at e
      omega
    · rw [if_neg h1] at e
      split at e
      · rename_i hz
        rcases stopN_of hO.2.2 hc h with z | ⟨q, hq, hq10, z⟩
        · rw [z] at hz
          exact absurd hz.2 (by decide)
        · rw [z, nI_clamp (by omega)] at e
          exact ⟨hz.1, h1, by rw [z, e]⟩
      · omega
  · rintro ⟨h1, h2, h3⟩
    rw [if_neg h2, h3, if_pos ⟨h1, nI_pos' (by omega)⟩, nI_clamp (by omega)]
theorem grp_set {n : Nat → Int32} {w : Int32} (hO : TbOk n) (hw : wkO n w) {h p : Nat} (hp : p < 10) : setB (gstN n h p) 5 &&& w = setB (grpB n h p) 5 := by
  apply b_ext
  intro i _
  rw [b_and, bt_setB _ 5 (by omega), bt_setB _ 5 (by omega)]
  by_cases hi : i < 5
  · rw [decide_eq_true hi, Bool.true_and, Bool.true_and, hw i hi]
    apply Bool.eq_iff_iff.mpr
    rw [Bool.and_eq_true, decide_eq_true_eq, grpB_iff hO hp hi]
    unfold gstN
    rw [decide_eq_true_eq]
    constructor
    · rintro ⟨⟨a, b⟩, c⟩; exact ⟨a, c, b⟩
    · rintro ⟨a, c, b⟩; exact ⟨⟨a, b⟩, c⟩
  · rw [decide_eq_false hi]
    simp
theorem grp_none {n : Nat → Int32} (hO : TbOk n) {h p : Nat} (hp : p < 10) (hu : ¬ anyB (gstN n h p) 5 = true) : setB (grpB n h p) 5 = 0 := by
  rw [setB_0 (by omega)]
  intro i hi
  cases hg : grpB n h p i with
  | false => rfl
  | true =>
    obtain ⟨a, -, b⟩ := (grpB_iff hO hp hi).mp hg
    exact absurd (anyB_iff.mpr ⟨i, hi, decide_eq_true ⟨a, b⟩⟩) hu
/-- behind the places below q -/
def lkC (n : Nat → Int32) (h : Nat) (C O : Nat → Bool) (q c : Nat) : Bool := if plQ n h c < q then c2B n h C O c else C c
def lkO (n : Nat → Int32) (h : Nat) (C O : Nat → Bool) (q p : Nat) : Bool := if p < q then o1B n h C O p else O p
def lkA (n : Nat → Int32) (h : Nat) (C O : Nat → Bool) (A : Nat → Int32) (q p : Nat) : Int32 := if p < q ∧ O p = false ∧ o1B n h C O p = true then nI h else A p
def lkI (i : Nat → Nat → Int32) (a : Nat) (n : Nat → Int32) (h : Nat) (C O : Nat → Bool) (A : Nat → Int32) (q : Nat) : Prop := i a 0 = setB (lkO n h C O q) 10 ∧ i a 1 = setB (lkC n h C O q) 5 ∧ ∀ p, p < 10 → i (a + 1) p = lkA n h C O A q p
theorem town_lt {n : Nat → Int32} {p : Nat} (h : town n p = true) : p < nv n 0 := (town_i.mp h).1
/-- what happens at the place q -/
theorem lk_q {n : Nat → Int32} {h : Nat} {C O : Nat → Bool} {q : Nat} : lkO n h C O q q = O q := by unfold lkO; rw [if_neg (by omega)]
theorem lk_c {n : Nat → Int32} {h : Nat} {C O : Nat → Bool} {q c : Nat} (hg : grpB n h q c = true) : lkC n h C O q c = C c := by
  have e : plQ n h c = q := of_decide_eq_true hg
  unfold lkC
  rw [if_neg (by omega)]
theorem c1_town {n : Nat → Int32} {h : Nat} {C : Nat → Bool} {q c : Nat} (hg : grpB n h q c = true) (ht : town n q = true) : c1B n h C c = C c := by
  have e : plQ n h c = q := of_decide_eq_true hg
  unfold c1B nxP
  rw [e, if_neg (fun z => by rw [ht] at z; exact absurd z.2 (by decide))]
theorem c1_cross {n : Nat → Int32} {h : Nat} {C : Nat → Bool} {q c : Nat} (hg : grpB n h q c = true) (hq : q < 10) (ht : town n q = false) : c1B n h C c = C (nxG (grpB n h q) c) := by
  have e : plQ n h c = q := of_decide_eq_true hg
  unfold c1B nxP
  rw [e, if_pos ⟨hq, ht⟩]
theorem o1_town {n : Nat → Int32} {h : Nat} {C O : Nat → Bool} {q : Nat} (ht : town n q = true) : o1B n h C O q = (O q || anyB (fun c => C c && grpB n h q c) 5) := by
  unfold o1B
  rw [ht, Bool.true_and]
  congr 1
  refine anyB_congr (fun c _ => ?_)
  cases hg : grpB n h q c with
  | false => simp
  | true => rw [c1_town hg ht]; simp
theorem lkA_same {n : Nat → Int32} {h : Nat} {C O : Nat → Bool} {A : Nat → Int32} {q : Nat} (ho : o1B n h C O q = O q) (p : Nat) : lkA n h C O A (q + 1) p = lkA n h C O A q p := by
  unfold lkA
  by_cases h1 : p < q ∧ O p = false ∧ o1B n h C O p = true
  · rw [if_pos h1, if_pos ⟨by omega, h1.2⟩]
  · rw [if_neg h1]
    by_cases h2 : p < q + 1 ∧ O p = false ∧ o1B n h C O p = true
    · exfalso
      have e : p = q := by
        have := h2.1
        have : ¬ p < q := fun z => h1 ⟨z, h2.2⟩
        omega
      rw [e, ho] at h2
      rw [h2.2.1] at h2
      exact absurd h2.2.2 (by decide)
    · rw [if_neg h2]
theorem lkO_same {n : Nat → Int32} {h : Nat} {C O : Nat → Bool} {q : Nat} (ho : o1B n h C O q = O q) (p : Nat) : lkO n h C O (q + 1) p = lkO n h C O q p := by
  unfold lkO
  by_cases e : p = q
  · subst e
    rw [if_pos (by omega), if_neg (by omega), ho]
  · by_cases h1 : p < q
    · rw [if_pos h1, if_pos (by omega)]
    · rw [if_neg h1, if_neg (by omega)]
theorem lkC_same {n : Nat → Int32} {h : Nat} {C O : Nat → Bool} {q c : Nat} (hg : ¬ grpB n h q c = true) : lkC n h C O (q + 1) c = lkC n h C O q c := by
  have e : ¬ plQ n h c = q := fun z => hg (decide_eq_true z)
  unfold lkC
  by_cases h1 : plQ n h c < q
  · rw [if_pos h1, if_pos (by omega)]
  · rw [if_neg h1, if_neg (by omega)]
theorem lkC_at {n : Nat → Int32} {h : Nat} {C O : Nat → Bool} {q c : Nat} (hg : grpB n h q c = true) : lkC n h C O (q + 1) c = c2B n h C O c := by
  have e : plQ n h c = q := of_decide_eq_true hg
  unfold lkC
  rw [if_pos (by omega)]
theorem lk_empty {i : Nat → Nat → Int32} {a : Nat} {n : Nat → Int32} {h : Nat} {C O : Nat → Bool} {A : Nat → Int32} {q : Nat} (hg : ∀ c, c < 5 → grpB n h q c = false) (hi : lkI i a n h C O A q) : lkI i a n h C O A (q + 1) := by
  have ho : o1B n h C O q = O q := by
    unfold o1B
    cases hz : anyB (fun c => grpB n h q c && c1B n h C c) 5 with
    | false => simp
    | true =>
      obtain ⟨c, hc, z⟩ := anyB_iff.mp hz
      rw [hg c hc] at z
      cases z
  exact ⟨hi.1.trans (setB_congr (fun p _ => (lkO_same ho p).symm)), hi.2.1.trans (setB_congr (fun c hc => (lkC_same (by rw [hg c hc]; decide)).symm)), fun p hp => (hi.2.2 p hp).trans (lkA_same ho p).symm⟩
theorem o1_cross {n : Nat → Int32} {h : Nat} {C O : Nat → Bool} {q : Nat} (ht : town n q = false) : o1B n h C O q = O q := by
  unfold o1B
  rw [ht]
  simp
theorem lkC_cross {n : Nat → Int32} {h : Nat} {C O : Nat → Bool} {q : Nat} (hq : q < 10) (ht : town n q = false) : swF5 (setB (lkC n h C O q) 5) (setB (grpB n h q) 5) = setB (lkC n h C O (q + 1)) 5 := by
  rw [sw_set]
  refine setB_congr (fun c hc => ?_)
  by_cases hg : grpB n h q c = true
  · have e : plQ n h c = q := of_decide_eq_true hg
    rw [if_pos hg, lkC_at hg, lk_c (nxG_in hc hg).2]
    unfold c2B
    rw [e, ht, c1_cross hg hq ht]
    simp
  · rw [if_neg hg, lkC_same hg]
theorem lk_town {i : Nat → Nat → Int32} {a : Nat} {n : Nat → Int32} {h : Nat} {C O : Nat → Bool} {A : Nat → Int32} {q : Nat} (ht : town n q = true) (ho : o1B n h C O q = false) (hi : lkI i a n h C O A q) : lkI i a n h C O A (q + 1) := by
  have hz : O q = false := by
    rw [o1_town ht] at ho
    exact (Bool.or_eq_false_iff.mp ho).1
  have ho2 : o1B n h C O q = O q := by rw [ho, hz]
  refine ⟨hi.1.trans (setB_congr (fun p _ => (lkO_same ho2 p).symm)), hi.2.1.trans (setB_congr (fun c hc => ?_)), fun p hp => (hi.2.2 p hp).trans (lkA_same ho2 p).symm⟩
  by_cases hg : grpB n h q c = true
  · have e : plQ n h c = q := of_decide_eq_true hg
    rw [lkC_at hg, lk_c hg]
    unfold c2B
    rw [e, ho, c1_town hg ht]
    simp
  · exact (lkC_same hg).symm
theorem lkC_town {n : Nat → Int32} {h : Nat} {C O : Nat → Bool} {q c : Nat} (ht : town n q = true) (ho : o1B n h C O q = true) : (lkC n h C O q c || grpB n h q c) = lkC n h C O (q + 1) c := by
  by_cases hg : grpB n h q c = true
  · have e : plQ n h c = q := of_decide_eq_true hg
    rw [lkC_at hg, hg]
    unfold c2B
    rw [e, ho, ht]
    simp
  · rw [lkC_same hg]
    rw [Bool.not_eq_true] at hg
    rw [hg, Bool.or_false]
theorem lkO_town {n : Nat → Int32} {h : Nat} {C O : Nat → Bool} {q p : Nat} (ho : o1B n h C O q = true) : (lkO n h C O q p || decide (p = q)) = lkO n h C O (q + 1) p := by
  unfold lkO
  by_cases e : p = q
  · subst e
    rw [decide_eq_true rfl, Bool.or_true, if_pos (Nat.lt_succ_self p), ho]
  · rw [decide_eq_false e, Bool.or_false]
    by_cases h1 : p < q
    · rw [if_pos h1, if_pos (by omega)]
    · rw [if_neg h1, if_neg (by omega)]
theorem lkA_new {n : Nat → Int32} {h : Nat} {C O : Nat → Bool} {A : Nat → Int32} {q : Nat} (hO : O q = false) (ho : o1B n h C O q = true) (p : Nat) : (if p = q then nI h else lkA n h C O A q p) = lkA n h C O A (q + 1) p := by
  unfold lkA
  by_cases e : p = q
  · subst e
    rw [if_pos rfl, if_pos ⟨by omega, hO, ho⟩]
  · rw [if_neg e]
    by_cases h1 : p < q ∧ O p = false ∧ o1B n h C O p = true
    · rw [if_pos h1, if_pos ⟨by omega, h1.2⟩]
    · rw [if_neg h1, if_neg (fun z => h1 ⟨by have := z.1; omega, z.2⟩)]
theorem lkA_old {n : Nat → Int32} {h : Nat} {C O : Nat → Bool} {A : Nat → Int32} {q : Nat} (hO : O q = true) (p : Nat) : lkA n h C O A q p = lkA n h C O A (q + 1) p := by
  unfold lkA
  by_cases h1 : p < q ∧ O p = false ∧ o1B n h C O p = true
  · rw [if_pos h1, if_pos ⟨by omega, h1.2⟩]
  · rw [if_neg h1]
    by_cases h2 : p < q + 1 ∧ O p = false ∧ o1B n h C O p = true
    · exfalso
      have e : p = q := by
        have := h2.1
        have : ¬ p < q := fun z => h1 ⟨z, h2.2⟩
        omega
      rw [e, hO] at h2
      exact absurd h2.2.1 (by decide)
    · rw [if_neg h2]
theorem townP_t {n : Nat → Int32} (h0 : Rn n 0 10) {q : Nat} (hq : q < 2147483648) : townP n (nI q) ↔ town n q = true := by
  have h10 := h0.2
  constructor
  · intro h
    obtain ⟨j, hj, e, ht⟩ := townP_of h0 h
    rw [(nI_eq hq (by omega)).mp e]
    exact town_i.mpr ⟨hj, ht⟩
  · intro h
    obtain ⟨a, b⟩ := town_i.mp h
    exact (townP_nI h0 a).mpr b
set_option maxHeartbeats 2000000 in
set_option maxRecDepth 20000 in
theorem t_X7_begin {M : Mm} {a : Nat} (hL : LX7 M.1 M.2.1 a) {o c : Int32} : Ct G base YX7_begin 1 0 0 [.ref a, .int o, .int c] M (rI none M (fun i => i a 0 = o ∧ i a 1 = c ∧ (∀ p, p < 10 → i (a + 1) p = -1) ∧ outB i (mI M) a 2)) := by
  refine Ct.of IX7_begin.1 (by simp [Value.category]) (Nat.le_of_ble_eq_true rfl) (fun X hX hN => ?_)
  show J G base X 0 0 M 0 [some (.ref a), some (.int o), some (.int c), none] []
  refine r_aload_n hX dX7_begin_0 rfl ?_
  refine r_iload_n hX dX7_begin_1 rfl ?_
  refine r_puti hX dX7_begin_2 fl_X7_9 rfl rfl (LX7_s hL) ?_
  refine r_aload_n hX dX7_begin_5 rfl ?_
  refine r_iload_n hX dX7_begin_6 rfl ?_
  refine r_puti hX dX7_begin_7 fl_X7_15 rfl rfl (LX7_s hL) ?_
  refine r_iconst (v := nI 0) hX dX7_begin_10 (by decide) ?_
  refine r_istore3 hX dX7_begin_11 rfl ?_
  show J G base X 0 0 (wI M (mI (uI (uI M a 0 o) a 1 c))) 12 _ []
  refine loop_us (σ := Nat → Nat → Int32) (P := fun j i => (i a 0 = o ∧ i a 1 = c ∧ (∀ p, p < j → i (a + 1) p = -1) ∧ outB i (mI M) a 2) → J G base X 0 0 (wI M i) 12 [some (.ref a), some (.int o), some (.int c), some (.int (nI j))] []) 10 (fun j i hj ih hi => ?_) 0 (mI (uI (uI M a 0 o) a 1 c)) (Nat.zero_le _) ⟨by simp [mI_uI], by simp [mI_uI], fun p hp => absurd hp (Nat.not_lt_zero _), fun x hx k => (congrFun (uIo (by omega)) k).trans (congrFun (uIo (by omega)) k)⟩
  refine r_iload_n hX dX7_begin_12 rfl ?_
  refine r_bipush (v := nI 10) hX dX7_begin_13 (by decide) ?_
  refine rn_icmp_ge (tgt := 31) hX dX7_begin_15 (by decide) rfl rfl (by omega) (by omega) (fun c15 => ?_) (fun c15 => ?_)
  · refine r_return hX rfl dX7_begin_31 (by decide) (by decide) ?_
    obtain rfl : j = 10 := by omega
    exact ⟨rfl, i, rfl, hi⟩
  · refine r_aload_n hX dX7_begin_18 rfl ?_
    refine r_getr hX dX7_begin_19 fl_X7_18 rfl (LX7_s hL) (LX7_r2 hL) ?_
    refine r_iload_n hX dX7_begin_22 rfl ?_
    refine r_iconst (v := (-1)) hX dX7_begin_23 (by decide) ?_
    refine rn_iast hX dX7_begin_24 (LX7_a2 hL) rfl (by omega) (by omega) ?_
    refine rn_iinc3 hX dX7_begin_25 rfl rfl ?_
    refine r_goto (tgt := 12) hX dX7_begin_28 (by decide) ?_
    refine ih (by omega) (mI (uI (wI M i) (a + 1) j (-1))) ⟨(congrFun (uIo (by omega)) 0).trans hi.1, (congrFun (uIo (by omega)) 1).trans hi.2.1, fun p hp => ?_, fun x hx k => (congrFun (uIo (by omega)) k).trans (hi.2.2.2 x hx k)⟩
    rw [mI_uI, if_pos rfl]
    by_cases e : p = j
    · rw [if_pos e]
    · rw [if_neg e]
      exact hi.2.2.1 p (by omega)
set_option maxHeartbeats 2000000 in
set_option maxRecDepth 20000 in
theorem t_X7_arrivalAt {M : Mm} {a q : Nat} (hL : LX7 M.1 M.2.1 a) (hq : q < 10) : Ct G base YX7_arrivalAt 1 0 0 [.ref a, .int (nI q)] M (rE (some (.int (mI M (a + 1) q))) M) := by
  refine Ct.of IX7_arrivalAt.1 (by simp [Value.category]) (Nat.le_of_ble_eq_true rfl) (fun X hX hN => ?_)
  show J G base X 0 0 M 0 [some (.ref a), some (.int (nI q))] []
  refine r_iload_n hX dX7_arrivalAt_0 rfl ?_
  refine rn_if_lt (tgt := 10) hX dX7_arrivalAt_1 (by decide) rfl (by omega) ?_
  refine r_iload_n hX dX7_arrivalAt_4 rfl ?_
  refine r_bipush (v := nI 10) hX dX7_arrivalAt_5 (by decide) ?_
  refine rn_icmp_lt (tgt := 14) hX dX7_arrivalAt_7 (by decide) rfl rfl (by omega) (by omega) (fun c7 => ?_) (fun c7 => absurd hq (by omega))
  refine r_aload_n hX dX7_arrivalAt_14 rfl ?_
  refine r_getr hX dX7_arrivalAt_15 fl_X7_18 rfl (LX7_s hL) (LX7_r2 hL) ?_
  refine r_iload_n hX dX7_arrivalAt_18 rfl ?_
  refine rn_iald hX dX7_arrivalAt_19 (LX7_a2 hL) rfl (by omega) (by omega) ?_
  refine r_ireturn hX rfl rfl dX7_arrivalAt_20 (by decide) (by decide) ?_
  exact ⟨rfl, rfl⟩
set_option maxHeartbeats 2000000 in
set_option maxRecDepth 20000 in
theorem t_X7_swapped {M : Mm} {s g : Int32} : Ct G base YX7_swapped 2 0 0 [.int s, .int g] M (rE (some (.int (swF5 s g))) M) := by
  refine Ct.of IX7_swapped.1 (by simp [Value.category]) (Nat.le_of_ble_eq_true rfl) (fun X hX hN => ?_)
  show J G base X 0 0 M 0 [some (.int s), some (.int g), none, none, none, none] []
  refine r_iconst (v := (-1)) hX dX7_swapped_0 (by decide) ?_
  refine r_istore2 hX dX7_swapped_1 rfl ?_
  refine r_iconst (v := (-1)) hX dX7_swapped_2 (by decide) ?_
  refine r_istore3 hX dX7_swapped_3 rfl ?_
  refine r_iload_n hX dX7_swapped_4 rfl ?_
  refine r_iload_n hX dX7_swapped_5 rfl ?_
  refine r_iconst (v := (-1)) hX dX7_swapped_6 (by decide) ?_
  refine r_ixor hX dX7_swapped_7 ?_
  refine r_iand hX dX7_swapped_8 ?_
  refine r_istore4 hX dX7_swapped_9 rfl ?_
  refine r_iconst (v := nI 0) hX dX7_swapped_11 (by decide) ?_
  refine r_istore5 hX dX7_swapped_12 rfl ?_
  refine loop_up (P := fun j => J G base X 0 0 M 14 [some (.int s), some (.int g), some (.int (swI s g j).1), some (.int (swI s g j).2.1), some (.int (swI s g j).2.2), some (.int (nI j))] []) 5 (fun j hj ih => ?_) 0 (Nat.zero_le _)
  refine r_iload hX dX7_swapped_14 rfl ?_
  refine r_iconst (v := nI 5) hX dX7_swapped_16 (by decide) ?_
  refine rn_icmp_ge (tgt := 67) hX dX7_swapped_17 (by decide) rfl rfl (by omega) (by omega) (fun c17 => ?_) (fun c17 => ?_)
  · refine r_iload_n hX dX7_swapped_67 rfl ?_
    refine r_iload_n hX dX7_swapped_68 rfl ?_
    refine r_cN2 (host := RX10) hX dX7_swapped_69 IX10_has (by decide +kernel) rfl (t_X10_has) (by decide) (by decide) (by decide) (by decide) rfl (Nat.le_of_ble_eq_true rfl) ?_
    refine rb_if_eq (tgt := 85) hX dX7_swapped_72 (by decide) rfl (fun c72 => ?_) (fun c72 => ?_)
    · refine r_iload hX dX7_swapped_85 rfl ?_
      refine r_ireturn hX rfl rfl dX7_swapped_87 (by decide) (by decide) ?_
      obtain rfl : j = 5 := by omega
      refine ⟨?_, rfl⟩
      unfold swF5
      rw [if_neg c72]
    · refine r_iload hX dX7_swapped_75 rfl ?_
      refine r_iload_n hX dX7_swapped_77 rfl ?_
      refine r_cN1 (host := RX10) hX dX7_swapped_78 IX10_bit (by decide +kernel) rfl (t_X10_bit) (by decide) (by decide) (by decide) (by decide) rfl (Nat.le_of_ble_eq_true rfl) ?_
      refine r_ior hX dX7_swapped_81 ?_
      refine r_goto (tgt := 87) hX dX7_swapped_82 (by decide) ?_
      refine r_ireturn hX rfl rfl dX7_swapped_87 (by decide) (by decide) ?_
      obtain rfl : j = 5 := by omega
      refine ⟨?_, rfl⟩
      unfold swF5
      rw [if_pos c72]
  · refine r_iload_n hX dX7_swapped_20 rfl ?_
    refine r_iload hX dX7_swapped_21 rfl ?_
    refine r_cN2 (host := RX10) hX dX7_swapped_23 IX10_has (by decide +kernel) rfl (t_X10_has) (by decide) (by decide) (by decide) (by decide) rfl (Nat.le_of_ble_eq_true rfl) ?_
    refine rb_if_eq (tgt := 61) hX dX7_swapped_26 (by decide) rfl (fun c26 => ?_) (fun c26 => ?_)
    · refine rn_iinc5 hX dX7_swapped_61 rfl rfl ?_
      refine r_goto (tgt := 14) hX dX7_swapped_64 (by decide) ?_
      have z := ih (by omega)
      rw [show swI s g (j + 1) = swI s g j from by simp only [swI]; rw [if_neg c26]] at z
      exact z
    · refine r_iload_n hX dX7_swapped_29 rfl ?_
      refine r_iconst (v := (-1)) hX dX7_swapped_30 (by decide) ?_
      refine r_icmp_ne (tgt := 40) hX dX7_swapped_31 (by decide) (fun c31 => ?_) (fun c31 => ?_)
      · refine r_iload_n hX dX7_swapped_40 rfl ?_
        refine r_iload hX dX7_swapped_41 rfl ?_
        refine r_cN2 (host := RX10) hX dX7_swapped_43 IX10_has (by decide +kernel) rfl (t_X10_has) (by decide) (by decide) (by decide) (by decide) rfl (Nat.le_of_ble_eq_true rfl) ?_
        refine rb_if_eq (tgt := 58) hX dX7_swapped_46 (by decide) rfl (fun c46 => ?_) (fun c46 => ?_)
        · refine r_iload hX dX7_swapped_58 rfl ?_
          refine r_istore3 hX dX7_swapped_60 rfl ?_
          refine rn_iinc5 hX dX7_swapped_61 rfl rfl ?_
          refine r_goto (tgt := 14) hX dX7_swapped_64 (by decide) ?_
          have z := ih (by omega)
          rw [show swI s g (j + 1) = ((swI s g j).1, nI j, (swI s g j).2.2) from by simp only [swI]; rw [if_pos c26, if_neg c31, if_neg c46]] at z
          exact z
        · refine r_iload hX dX7_swapped_49 rfl ?_
          refine r_iload_n hX dX7_swapped_51 rfl ?_
          refine r_cN1 (host := RX10) hX dX7_swapped_52 IX10_bit (by decide +kernel) rfl (t_X10_bit) (by decide) (by decide) (by decide) (by decide) rfl (Nat.le_of_ble_eq_true rfl) ?_
          refine r_ior hX dX7_swapped_55 ?_
          refine r_istore4 hX dX7_swapped_56 rfl ?_
          refine r_iload hX dX7_swapped_58 rfl ?_
          refine r_istore3 hX dX7_swapped_60 rfl ?_
          refine rn_iinc5 hX dX7_swapped_61 rfl rfl ?_
          refine r_goto (tgt := 14) hX dX7_swapped_64 (by decide) ?_
          have z := ih (by omega)
          rw [show swI s g (j + 1) = ((swI s g j).1, nI j, (swI s g j).2.2 ||| bitI (swI s g j).2.1) from by simp only [swI]; rw [if_pos c26, if_neg c31, if_pos c46]] at z
          exact z
      · refine r_iload hX dX7_swapped_34 rfl ?_
        refine r_istore2 hX dX7_swapped_36 rfl ?_
        refine r_goto (tgt := 58) hX dX7_swapped_37 (by decide) ?_
        refine r_iload hX dX7_swapped_58 rfl ?_
        refine r_istore3 hX dX7_swapped_60 rfl ?_
        refine rn_iinc5 hX dX7_swapped_61 rfl rfl ?_
        refine r_goto (tgt := 14) hX dX7_swapped_64 (by decide) ?_
        have z := ih (by omega)
        rw [show swI s g (j + 1) = (nI j, nI j, (swI s g j).2.2) from by simp only [swI]; rw [if_pos c26, if_pos c31]] at z
        exact z
set_option maxHeartbeats 2000000 in
set_option maxRecDepth 20000 in
theorem t_X7_lookAt {M : Mm} {a b : Nat} {n : Nat → Int32} (hL : LX7 M.1 M.2.1 a) (hb : LX9 M.1 M.2.1 b) (hd : b + 6 ≤ a ∨ a + 2 ≤ b) (hT : TT (mI M) b n) (hO : TbOk n) {w : Int32} (hw : wkO n w) {h : Nat} (hh : h < 2147483648) {C O : Nat → Bool} {A : Nat → Int32} (hi0 : mI M a 0 = setB O 10 ∧ mI M a 1 = setB C 5 ∧ ∀ p, p < 10 → mI M (a + 1) p = A p) : Ct G base YX7_lookAt 4 0 0 [.ref a, .ref b, .int w, .int (nI h), .int (setB (fun p => anyB (gstN n h p) 5) 10)] M (rI none M (fun i => (i a 0 = setB (o1B n h C O) 10 ∧ i a 1 = setB (c2B n h C O) 5 ∧ ∀ p, p < 10 → i (a + 1) p = if O p = false ∧ o1B n h C O p = true then nI h else A p) ∧ outB i (mI M) a 2)) := by
  refine Ct.of IX7_lookAt.1 (by simp [Value.category]) (Nat.le_of_ble_eq_true rfl) (fun X hX hN => ?_)
  show J G base X 0 0 M 0 [some (.ref a), some (.ref b), some (.int w), some (.int (nI h)), some (.int (setB (fun p => anyB (gstN n h p) 5) 10)), none, none] []
  have h0 := hO.1
  refine r_iconst (v := nI 0) hX dX7_lookAt_0 (by decide) ?_
  refine r_istore5 hX dX7_lookAt_1 rfl ?_
  refine loop_us (σ := Nat → Nat → Int32) (P := fun j i => (lkI i a n h C O A j ∧ outB i (mI M) a 2) → J G base X 0 0 (wI M i) 3 [some (.ref a), some (.ref b), some (.int w), some (.int (nI h)), some (.int (setB (fun p => anyB (gstN n h p) 5) 10)), some (.int (nI j)), none] []) 10 (fun j i hj ih hi => ?_) 0 (mI M) (Nat.zero_le _) ⟨⟨hi0.1.trans (setB_congr (fun p _ => by unfold lkO; rw [if_neg (by omega)])), hi0.2.1.trans (setB_congr (fun c _ => by unfold lkC; rw [if_neg (by omega)])), fun p hp => (hi0.2.2 p hp).trans (by unfold lkA; rw [if_neg (fun z => absurd z.1 (by omega))])⟩, fun _ _ _ => rfl⟩
  have hTi : TT i b n := hT.kept (fun x hx hx2 k => hi.2 x (by omega) k)
  refine r_iload hX dX7_lookAt_3 rfl ?_
  refine r_bipush (v := nI 10) hX dX7_lookAt_5 (by decide) ?_
  refine rn_icmp_ge (tgt := 141) hX dX7_lookAt_7 (by decide) rfl rfl (by omega) (by omega) (fun c7 => ?_) (fun c7 => ?_)
  · refine r_return hX rfl dX7_lookAt_141 (by decide) (by decide) ?_
    obtain rfl : j = 10 := by omega
    refine ⟨rfl, i, rfl, ⟨hi.1.1.trans (setB_congr (fun p hp => by unfold lkO; rw [if_pos hp])), hi.1.2.1.trans (setB_congr (fun c hc => ?_)), fun p hp => (hi.1.2.2 p hp).trans (by unfold lkA; by_cases z : O p = false ∧ o1B n h C O p = true; rw [if_pos ⟨hp, z⟩, if_pos z]; rw [if_neg (fun y => z y.2), if_neg z])⟩, hi.2⟩
    unfold lkC
    rcases plQ_lt hO.2.2 hO.2.1.2 (h := h) (c := c) with z | ⟨-, z, -⟩
    · rw [z, if_neg (by omega)]
      unfold c2B c1B nxP
      rw [z, if_neg (fun y => absurd y.1 (by omega))]
      rw [show town n 10 = false from by cases hz : town n 10 with | false => rfl | true => exact absurd (town_lt hz) (by have := h0.2; omega)]
      simp
    · rw [if_pos z]
  · have main : J G base X 0 0 (wI M i) 33 [some (.ref a), some (.ref b), some (.int w), some (.int (nI h)), some (.int (setB (fun p => anyB (gstN n h p) 5) 10)), some (.int (nI j)), none] [.int (setB (grpB n h j) 5)] := by
      refine r_istore6 hX dX7_lookAt_33 rfl ?_
      refine r_iload hX dX7_lookAt_35 rfl ?_
      refine r_if_ne (tgt := 43) hX dX7_lookAt_37 (by decide) (fun c37 => ?_) (fun c37 => ?_)
      · refine r_aload_n hX dX7_lookAt_43 rfl ?_
        refine r_iload hX dX7_lookAt_44 rfl ?_
        refine r_cV1 hX dX7_lookAt_46 IX9_hasOffice ml_X7_40 rfl (LX9_s hb) rfl (t_X9_hasOffice (M := wI M i) hb hTi h0) (by decide) (by decide) (by decide) (by decide) rfl (Nat.le_of_ble_eq_true rfl) ?_
        rw [itec (townP_t h0 (by omega))]
        refine rb_if_ne (tgt := 68) hX dX7_lookAt_49 (by decide) rfl (fun c49 => ?_) (fun c49 => ?_)
        · have htn : town n j = true := c49
          have tail : ∀ (i : Nat → Nat → Int32), i a 0 = setB (lkO n h C O j) 10 → i a 1 = setB (lkC n h C O j) 5 → (∀ p, p < 10 → i (a + 1) p = lkA n h C O A (j + 1) p) → o1B n h C O j = true → outB i (mI M) a 2 → J G base X 0 0 (wI M i) 110 [some (.ref a), some (.ref b), some (.int w), some (.int (nI h)), some (.int (setB (fun p => anyB (gstN n h p) 5) 10)), some (.int (nI j)), some (.int (setB (grpB n h j) 5))] [] := by
            intro i h1 h2 h3 ho h4
            refine r_aload_n hX dX7_lookAt_110 rfl ?_
            refine r_dup hX dX7_lookAt_111 rfl ?_
            refine rn_geti (v := setB (lkO n h C O j) 10) hX dX7_lookAt_112 fl_X7_9 rfl (LX7_s hL) h1 ?_
            refine r_iload hX dX7_lookAt_115 rfl ?_
            refine r_cN1 (host := RX10) hX dX7_lookAt_117 IX10_bit (by decide +kernel) rfl (t_X10_bit) (by decide) (by decide) (by decide) (by decide) rfl (Nat.le_of_ble_eq_true rfl) ?_
            refine r_ior hX dX7_lookAt_120 ?_
            refine r_puti hX dX7_lookAt_121 fl_X7_9 rfl rfl (LX7_s hL) ?_
            refine r_aload_n hX dX7_lookAt_124 rfl ?_
            refine r_dup hX dX7_lookAt_125 rfl ?_
            refine rn_geti (v := setB (lkC n h C O j) 5) hX dX7_lookAt_126 fl_X7_15 rfl (LX7_s hL) (by simp [mI_uI]; exact h2) ?_
            refine r_iload hX dX7_lookAt_129 rfl ?_
            refine r_ior hX dX7_lookAt_131 ?_
            refine r_puti hX dX7_lookAt_132 fl_X7_15 rfl rfl (LX7_s hL) ?_
            refine rn_iinc5 hX dX7_lookAt_135 rfl rfl ?_
            refine r_goto (tgt := 3) hX dX7_lookAt_138 (by decide) ?_
            refine J.junk (ih (by omega) (mI (uI (uI (wI M i) a 0 (setB (lkO n h C O j) 10 ||| bitI (nI j))) a 1 (setB (lkC n h C O j) 5 ||| setB (grpB n h j) 5))) ⟨⟨?_, ?_, fun p hp => ?_⟩, fun x hx k => (congrFun (uIo (by omega)) k).trans ((congrFun (uIo (by omega)) k).trans (h4 x hx k))⟩) (by repeat first | exact trivial | refine ⟨rfl, ?_⟩)
            · simp only [mI_uI, if_true]
              rw [if_neg (by omega), setB_or1 _ (by omega) (by omega)]
              exact setB_congr (fun p _ => lkO_town ho)
            · simp only [mI_uI, if_true]
              rw [setB_or _ _ (by omega)]
              exact setB_congr (fun c _ => lkC_town htn ho)
            · rw [uIo (by omega), uIo (by omega)]
              exact h3 p hp
          refine r_aload_n hX dX7_lookAt_68 rfl ?_
          refine rn_geti (v := setB (lkO n h C O j) 10) hX dX7_lookAt_69 fl_X7_9 rfl (LX7_s hL) hi.1.1 ?_
          refine r_iload hX dX7_lookAt_72 rfl ?_
          refine r_cN2 (host := RX10) hX dX7_lookAt_74 IX10_has (by decide +kernel) rfl (t_X10_has (M := wI M i)) (by decide) (by decide) (by decide) (by decide) rfl (Nat.le_of_ble_eq_true rfl) ?_
          rw [itec (hasP_set (f := lkO n h C O j) (by omega) (by omega)), lk_q]
          refine rb_if_ne (tgt := 90) hX dX7_lookAt_77 (by decide) rfl (fun c77 => ?_) (fun c77 => ?_)
          · refine r_aload_n hX dX7_lookAt_90 rfl ?_
            refine rn_geti (v := setB (lkO n h C O j) 10) hX dX7_lookAt_91 fl_X7_9 rfl (LX7_s hL) hi.1.1 ?_
            refine r_iload hX dX7_lookAt_94 rfl ?_
            refine r_cN2 (host := RX10) hX dX7_lookAt_96 IX10_has (by decide +kernel) rfl (t_X10_has (M := wI M i)) (by decide) (by decide) (by decide) (by decide) rfl (Nat.le_of_ble_eq_true rfl) ?_
            rw [itec (hasP_set (f := lkO n h C O j) (by omega) (by omega)), lk_q]
            refine rb_if_ne (tgt := 110) hX dX7_lookAt_99 (by decide) rfl (fun c99 => ?_) (fun c99 => absurd c77 c99)
            have hOj : O j = true := c77.2.2
            exact tail i hi.1.1 hi.1.2.1 (fun p hp => (hi.1.2.2 p hp).trans (lkA_old hOj p)) (by rw [o1_town htn, hOj]; rfl) hi.2
          · refine r_aload_n hX dX7_lookAt_80 rfl ?_
            refine rn_geti (v := setB (lkC n h C O j) 5) hX dX7_lookAt_81 fl_X7_15 rfl (LX7_s hL) hi.1.2.1 ?_
            refine r_iload hX dX7_lookAt_84 rfl ?_
            refine r_iand hX dX7_lookAt_86 ?_
            rw [setB_and (lkC n h C O j) (grpB n h j) (k := 5) (by omega)]
            refine r_if_eq (tgt := 135) hX dX7_lookAt_87 (by decide) (fun c87 => ?_) (fun c87 => ?_)
            · refine rn_iinc5 hX dX7_lookAt_135 rfl rfl ?_
              refine r_goto (tgt := 3) hX dX7_lookAt_138 (by decide) ?_
              have hOj : O j = false := by
                cases hz : O j with
                | false => rfl
                | true => exact absurd ⟨by omega, by omega, hz⟩ c77
              refine J.junk (ih (by omega) i ⟨lk_town htn ?_ hi.1, hi.2⟩) (by repeat first | exact trivial | refine ⟨rfl, ?_⟩)
              rw [o1_town htn, hOj, Bool.false_or]
              cases hz : anyB (fun c => C c && grpB n h j c) 5 with
              | false => rfl
              | true =>
                obtain ⟨c, hc, z⟩ := anyB_iff.mp hz
                have z2 := (setB_0 (by omega)).mp c87 c hc
                rw [Bool.and_eq_true] at z
                rw [lk_c z.2, z.1, z.2] at z2
                cases z2
            · refine r_aload_n hX dX7_lookAt_90 rfl ?_
              refine rn_geti (v := setB (lkO n h C O j) 10) hX dX7_lookAt_91 fl_X7_9 rfl (LX7_s hL) hi.1.1 ?_
              refine r_iload hX dX7_lookAt_94 rfl ?_
              refine r_cN2 (host := RX10) hX dX7_lookAt_96 IX10_has (by decide +kernel) rfl (t_X10_has (M := wI M i)) (by decide) (by decide) (by decide) (by decide) rfl (Nat.le_of_ble_eq_true rfl) ?_
              rw [itec (hasP_set (f := lkO n h C O j) (by omega) (by omega)), lk_q]
              refine rb_if_ne (tgt := 110) hX dX7_lookAt_99 (by decide) rfl (fun c99 => absurd c99 c77) (fun c99 => ?_)
              refine r_aload_n hX dX7_lookAt_102 rfl ?_
              refine r_getr hX dX7_lookAt_103 fl_X7_18 rfl (LX7_s hL) (LX7_r2 hL) ?_
              refine r_iload hX dX7_lookAt_106 rfl ?_
              refine r_iload_n hX dX7_lookAt_108 rfl ?_
              refine rn_iast hX dX7_lookAt_109 (LX7_a2 hL) rfl (by omega) (by omega) ?_
              have hOj : O j = false := by
                cases hz : O j with
                | false => rfl
                | true => exact absurd ⟨by omega, by omega, hz⟩ c77
              have ho : o1B n h C O j = true := by
                rw [o1_town htn, hOj, Bool.false_or]
                cases hz : anyB (fun c => C c && grpB n h j c) 5 with
                | true => rfl
                | false =>
                  refine absurd ((setB_0 (by omega)).mpr (fun c hc => ?_)) c87
                  cases hg : grpB n h j c with
                  | false => simp
                  | true =>
                    rw [lk_c hg]
                    cases hC : C c with
                    | false => simp
                    | true =>
                      rw [anyB_iff.mpr ⟨c, hc, by show (C c && grpB n h j c) = true; rw [hC, hg]; rfl⟩] at hz
                      cases hz
              refine tail (mI (uI (wI M i) (a + 1) j (nI h))) ((congrFun (uIo (by omega)) 0).trans hi.1.1) ((congrFun (uIo (by omega)) 1).trans hi.1.2.1) (fun p hp => ?_) ho (fun x hx k => (congrFun (uIo (by omega)) k).trans (hi.2 x hx k))
              rw [mI_uI, if_pos rfl, ← lkA_new hOj ho]
              by_cases e : p = j
              · rw [if_pos e, if_pos e]
              · rw [if_neg e, if_neg e]
                exact hi.1.2.2 p hp
        · refine r_aload_n hX dX7_lookAt_52 rfl ?_
          refine r_aload_n hX dX7_lookAt_53 rfl ?_
          refine rn_geti (v := setB (lkC n h C O j) 5) hX dX7_lookAt_54 fl_X7_15 rfl (LX7_s hL) hi.1.2.1 ?_
          refine r_iload hX dX7_lookAt_57 rfl ?_
          refine r_cS2 hX dX7_lookAt_59 IX7_swapped ml_X7_44 rfl (t_X7_swapped (M := wI M i)) (by decide) (by decide) (by decide) (by decide) rfl (Nat.le_of_ble_eq_true rfl) ?_
          refine r_puti hX dX7_lookAt_62 fl_X7_15 rfl rfl (LX7_s hL) ?_
          refine r_goto (tgt := 135) hX dX7_lookAt_65 (by decide) ?_
          refine rn_iinc5 hX dX7_lookAt_135 rfl rfl ?_
          refine r_goto (tgt := 3) hX dX7_lookAt_138 (by decide) ?_
          have htn : town n j = false := Bool.not_eq_true _ ▸ c49
          refine J.junk (ih (by omega) (mI (uI (wI M i) a 1 (swF5 (setB (lkC n h C O j) 5) (setB (grpB n h j) 5)))) ⟨⟨?_, ?_, fun p hp => ?_⟩, fun x hx k => (congrFun (uIo (by omega)) k).trans (hi.2 x hx k)⟩) (by repeat first | exact trivial | refine ⟨rfl, ?_⟩)
          · simp only [mI_uI, if_true]
            rw [if_neg (by omega)]
            exact hi.1.1.trans (setB_congr (fun p _ => (lkO_same (o1_cross htn) p).symm))
          · simp only [mI_uI, if_true]
            exact lkC_cross (by omega) htn
          · rw [uIo (by omega)]
            exact (hi.1.2.2 p hp).trans (lkA_same (o1_cross htn) p).symm
      · refine r_goto (tgt := 135) hX dX7_lookAt_40 (by decide) ?_
        refine rn_iinc5 hX dX7_lookAt_135 rfl rfl ?_
        refine r_goto (tgt := 3) hX dX7_lookAt_138 (by decide) ?_
        refine J.junk (ih (by omega) i ⟨lk_empty ((setB_0 (by omega)).mp c37) hi.1, hi.2⟩) (by repeat first | exact trivial | refine ⟨rfl, ?_⟩)
    refine r_iload hX dX7_lookAt_10 rfl ?_
    refine r_iload hX dX7_lookAt_12 rfl ?_
    refine r_cN2 (host := RX10) hX dX7_lookAt_14 IX10_has (by decide +kernel) rfl (t_X10_has (M := wI M i)) (by decide) (by decide) (by decide) (by decide) rfl (Nat.le_of_ble_eq_true rfl) ?_
    rw [itec (hasP_set (f := fun p => anyB (gstN n h p) 5) (by omega) (by omega))]
    refine rb_if_eq (tgt := 32) hX dX7_lookAt_17 (by decide) rfl (fun c17 => ?_) (fun c17 => ?_)
    · refine r_iconst (v := 0) hX dX7_lookAt_32 (by decide) ?_
      rw [← grp_none hO (h := h) (p := j) (by omega) (fun z => c17 ⟨by omega, by omega, z⟩)]
      exact main
    · refine r_aload_n hX dX7_lookAt_20 rfl ?_
      refine r_iload_n hX dX7_lookAt_21 rfl ?_
      refine r_iload hX dX7_lookAt_22 rfl ?_
      refine r_cV2 hX dX7_lookAt_24 IX9_carriersStopping ml_X7_36 rfl (LX9_s hb) rfl (t_X9_carriersStopping (M := wI M i) hb (by omega) (by omega)) (by decide) (by decide) (by decide) (by decide) rfl (Nat.le_of_ble_eq_true rfl) ?_
      rw [show mI (wI M i) (b + 4) (h % 168 * 10 + j) = setB (gstN n h j) 5 from hTi.gs h (by omega)]
      refine r_iload_n hX dX7_lookAt_27 rfl ?_
      refine r_iand hX dX7_lookAt_28 ?_
      refine r_goto (tgt := 33) hX dX7_lookAt_29 (by decide) ?_
      rw [grp_set hO hw (by omega)]
      exact main
