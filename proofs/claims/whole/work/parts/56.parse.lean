variable {G : GG} {base : Nat}
/-! ===== THE READER, METHOD BY METHOD ===== -/
/-- how many stand in a row -/
def rl (f : Nat → Bool) : Nat → Nat → Nat
  | 0, _ => 0
  | k + 1, p => if f p = true then rl f k (p + 1) + 1 else 0
/-- where a run from p on ends, at the latest at e -/
def eo (f : Nat → Bool) (e p : Nat) : Nat := p + rl f (e - p) p
theorem eo_step {f : Nat → Bool} {e p : Nat} (h : p < e) (hf : f p = true) : eo f e p = eo f e (p + 1) := by
  unfold eo
  obtain ⟨k, hk⟩ : ∃ k, e - p = k + 1 := ⟨e - p - 1, by omega⟩
  rw [hk, show e - (p + 1) = k by omega]
  show p + (if f p = true then rl f k (p + 1) + 1 else 0) = _
  rw [if_pos hf]
  omega
theorem eo_stop {f : Nat → Bool} {e p : Nat} (h : e ≤ p ∨ f p = false) : eo f e p = p := by
  unfold eo
  rcases h with h | h
  · rw [show e - p = 0 by omega]
    rfl
  · cases hk : e - p with
    | zero => rfl
    | succ k =>
      show p + (if f p = true then rl f k (p + 1) + 1 else 0) = p
      rw [if_neg (by rw [h]; decide)]
      rfl
theorem eo_ge {f : Nat → Bool} {e p : Nat} : p ≤ eo f e p := Nat.le_add_right _ _
theorem rl_le {f : Nat → Bool} : ∀ k p, rl f k p ≤ k
  | 0, _ => Nat.le_refl 0
  | k + 1, p => by
    unfold rl
    have := @rl_le f k (p + 1)
    split <;> omega
theorem eo_le {f : Nat → Bool} {e p : Nat} (h : p ≤ e) : eo f e p ≤ e := by
  unfold eo
  have := @rl_le f (e - p) p
  omega
theorem rl_all {f : Nat → Bool} : ∀ k p q, p ≤ q → q < p + rl f k p → f q = true
  | 0, p, q, h1, h2 => by unfold rl at h2; omega
  | k + 1, p, q, h1, h2 => by
    unfold rl at h2
    by_cases hf : f p = true
    · rw [if_pos hf] at h2
      by_cases hq : q = p
      · rw [hq]; exact hf
      · exact rl_all k (p + 1) q (by omega) (by omega)
    · rw [if_neg hf] at h2
      omega
theorem eo_all {f : Nat → Bool} {e p q : Nat} (h1 : p ≤ q) (h2 : q < eo f e p) : f q = true := rl_all _ p q h1 h2
theorem rl_end {f : Nat → Bool} : ∀ k p, rl f k p = k ∨ f (p + rl f k p) = false
  | 0, _ => Or.inl rfl
  | k + 1, p => by
    unfold rl
    by_cases hf : f p = true
    · rw [if_pos hf]
      rcases @rl_end f k (p + 1) with h | h
      · exact Or.inl (by omega)
      · exact Or.inr (by rw [show p + (rl f k (p + 1) + 1) = p + 1 + rl f k (p + 1) by omega]; exact h)
    · rw [if_neg hf]
      exact Or.inr (by simpa using hf)
theorem eo_end {f : Nat → Bool} {e p : Nat} (h : p ≤ e) : eo f e p = e ∨ f (eo f e p) = false := by
  unfold eo
  rcases @rl_end f (e - p) p with h2 | h2
  · exact Or.inl (by omega)
  · exact Or.inr h2
theorem eo_eo {f : Nat → Bool} {e p : Nat} (h : p ≤ e) : eo f e (eo f e p) = eo f e p := eo_stop (by rcases @eo_end f e p h with q | q; exact Or.inl (by omega); exact Or.inr q)
/-- a class of bytes -/
def cl (u : Nat → Nat) (x y : Nat) : Nat → Bool := fun k => decide (x ≤ u k ∧ u k ≤ y)
def blB (u : Nat → Nat) : Nat → Bool := fun k => cl u 9 10 k || cl u 32 32 k
abbrev lwB (u : Nat → Nat) : Nat → Bool := cl u 97 122
abbrev dgB (u : Nat → Nat) : Nat → Bool := cl u 48 57
/-- the text, and how long -/
def Tt (i : Nat → Nat → Int32) (a : Nat) (u : Nat → Nat) (e : Nat) : Prop := (∀ k, k < e → u k < 256 ∧ i (a + 4) k = sbI (u k)) ∧ i a 10 = nI e ∧ e ≤ 900
/-- where it reads, the start of the word, the failure, its kind -/
abbrev Q4 : Type := Nat × Nat × Int32 × Int32
def Pq (i : Nat → Nat → Int32) (a : Nat) (q : Q4) : Prop := i a 8 = nI q.1 ∧ i a 9 = nI q.2.1 ∧ i a 11 = q.2.2.1 ∧ i a 12 = q.2.2.2
/-- only that has changed -/
def pS (M : Mm) (a : Nat) (q : Q4) (i : Nat → Nat → Int32) : Prop := Pq i a q ∧ (∀ x, x ≠ a → i x = mI M x) ∧ ∀ k, k ≠ 8 → k ≠ 9 → k ≠ 11 → k ≠ 12 → i a k = mI M a k
theorem pS.rf {M : Mm} {a : Nat} {q : Q4} (h : Pq (mI M) a q) : pS M a q (mI M) := ⟨h, fun _ _ => rfl, fun _ _ _ _ _ => rfl⟩
theorem pS.tr {M : Mm} {a : Nat} {q q' : Q4} {i j : Nat → Nat → Int32} (h : pS M a q i) (h2 : pS (wI M i) a q' j) : pS M a q' j := ⟨h2.1, fun x hx => (h2.2.1 x hx).trans (h.2.1 x hx), fun k h8 h9 h11 h12 => (h2.2.2 k h8 h9 h11 h12).trans (h.2.2 k h8 h9 h11 h12)⟩
theorem pS.tt {M : Mm} {a e : Nat} {u : Nat → Nat} {q : Q4} {i : Nat → Nat → Int32} (h : pS M a q i) (hT : Tt (mI M) a u e) : Tt i a u e := ⟨fun k hk => ⟨(hT.1 k hk).1, (congrFun (h.2.1 _ (by omega)) k).trans (hT.1 k hk).2⟩, (h.2.2 10 (by omega) (by omega) (by omega) (by omega)).trans hT.2.1, hT.2.2⟩
/-- a field of the reader is written -/
theorem pS.put {M : Mm} {a k : Nat} {v : Int32} {q q' : Q4} {i : Nat → Nat → Int32} (h : pS M a q i) (hk : k = 8 ∨ k = 9 ∨ k = 11 ∨ k = 12) (hq : Pq (mI (uI (wI M i) a k v)) a q') : pS M a q' (mI (uI (wI M i) a k v)) := by
  refine ⟨hq, fun x hx => (uIo hx).trans (h.2.1 x hx), fun j h8 h9 h11 h12 => ?_⟩
  rw [mI_uI, if_pos rfl, if_neg (by omega)]
  exact h.2.2 j h8 h9 h11 h12
theorem Pq8 {M : Mm} {a b : Nat} {q : Q4} (h : Pq (mI M) a q) : Pq (mI (uI M a 8 (nI b))) a (b, q.2) := ⟨by simp [mI_uI], by simp [mI_uI]; exact h.2.1, by simp [mI_uI]; exact h.2.2.1, by simp [mI_uI]; exact h.2.2.2⟩
theorem Pq9 {M : Mm} {a b : Nat} {q : Q4} (h : Pq (mI M) a q) : Pq (mI (uI M a 9 (nI b))) a (q.1, b, q.2.2) := ⟨by simp [mI_uI]; exact h.1, by simp [mI_uI], by simp [mI_uI]; exact h.2.2.1, by simp [mI_uI]; exact h.2.2.2⟩
theorem Pq11 {M : Mm} {a : Nat} {v : Int32} {q : Q4} (h : Pq (mI M) a q) : Pq (mI (uI M a 11 v)) a (q.1, q.2.1, v, q.2.2.2) := ⟨by simp [mI_uI]; exact h.1, by simp [mI_uI]; exact h.2.1, by simp [mI_uI], by simp [mI_uI]; exact h.2.2.2⟩
theorem Pq12 {M : Mm} {a : Nat} {v : Int32} {q : Q4} (h : Pq (mI M) a q) : Pq (mI (uI M a 12 v)) a (q.1, q.2.1, q.2.2.1, v) := ⟨by simp [mI_uI]; exact h.1, by simp [mI_uI]; exact h.2.1, by simp [mI_uI]; exact h.2.2.1, by simp [mI_uI]⟩
/-- has it failed? -/
def fld? (q : Q4) : Prop := ¬ q.2.2.1 = -1
/-- blanks -/
def blQ (u : Nat → Nat) (e : Nat) (q : Q4) : Q4 := if q.2.2.1 = -1 then (eo (blB u) e q.1, eo (blB u) e q.1, q.2.2) else q
/-- it must be so -/
def muQ (c : Bool) (k : Nat) (q : Q4) : Q4 := if c = true ∨ ¬ q.2.2.1 = -1 then q else (q.1, q.2.1, nI q.2.1, nI k)
/-- the length of the word here -/
def whN (u : Nat → Nat) (e : Nat) (q : Q4) : Nat := eo (lwB u) e (blQ u e q).1 - (blQ u e q).1
def pnQ (u : Nat → Nat) (e : Nat) (q : Q4) : Q4 := if q.2.2.1 = -1 then (q.1 + whN u e q, (blQ u e q).2) else q
def hasW (u : Nat → Nat) (e w : Nat) (q : Q4) : Bool := decide (q.2.2.1 = -1 ∧ whN u e q = (txw w).length ∧ ∀ j, j < (txw w).length → u ((blQ u e q).1 + j) = (txw w).getD j 0)
def tkQ (u : Nat → Nat) (e w : Nat) (q : Q4) : Q4 := if q.2.2.1 = -1 then (if hasW u e w q = true then ((blQ u e q).1 + (txw w).length, (blQ u e q).2) else blQ u e q) else q
theorem blQ_le {u : Nat → Nat} {e : Nat} {q : Q4} (h : q.1 ≤ e) : (blQ u e q).1 ≤ e := by
  unfold blQ
  split
  · exact eo_le h
  · exact h
theorem blQ_f {u : Nat → Nat} {e : Nat} {q : Q4} : (blQ u e q).2.2 = q.2.2 := by
  unfold blQ
  split <;> rfl
theorem whN_le {u : Nat → Nat} {e : Nat} {q : Q4} (h : q.1 ≤ e) : (blQ u e q).1 + whN u e q ≤ e := by
  have h1 := blQ_le (u := u) h
  have h2 := eo_le (f := lwB u) h1
  have h3 := eo_ge (f := lwB u) (e := e) (p := (blQ u e q).1)
  unfold whN
  omega
theorem whN_l {u : Nat → Nat} {e : Nat} {q : Q4} {j : Nat} (h : j < whN u e q) : isL (u ((blQ u e q).1 + j)) := of_decide_eq_true (eo_all (f := lwB u) (e := e) (p := (blQ u e q).1) (by omega) (by unfold whN at h; omega))
theorem muQ_1 {c : Bool} {k : Nat} {q : Q4} : (muQ c k q).1 = q.1 := by
  unfold muQ
  split <;> rfl
set_option maxHeartbeats 2000000 in
set_option maxRecDepth 20000 in
theorem t_X11_isAt {M : Mm} {a e : Nat} {u : Nat → Nat} {q : Q4} (hL : LX11 M.1 M.2.1 a) (hT : Tt (mI M) a u e) (hq : Pq (mI M) a q) (hp : q.1 < 100000) {x y : Nat} (hx : x < 128) (hy : y < 128) : Ct G base YX11_isAt 1 0 0 [.ref a, .int (nI x), .int (nI y)] M (rE (some (.int (if q.1 < e ∧ cl u x y q.1 = true then 1 else 0))) M) := by
  refine Ct.of IX11_isAt.1 (by simp [Value.category]) (Nat.le_of_ble_eq_true rfl) (fun X hX hN => ?_)
  show J G base X 0 0 M 0 [some (.ref a), some (.int (nI x)), some (.int (nI y))] []
  have he := hT.2.2
  have key : q.1 < e → ((nI x ≤ sbI (u q.1) ∧ sbI (u q.1) ≤ nI y) ↔ cl u x y q.1 = true) := fun h => (sbI_in (hT.1 _ h).1 hx hy).trans (by unfold cl; exact decide_eq_true_iff.symm)
  refine r_aload_n hX dX11_isAt_0 rfl ?_
  refine rn_geti (v := nI q.1) hX dX11_isAt_1 fl_X11_98 rfl (LX11_s hL) hq.1 ?_
  refine r_aload_n hX dX11_isAt_4 rfl ?_
  refine rn_geti (v := nI e) hX dX11_isAt_5 fl_X11_101 rfl (LX11_s hL) hT.2.1 ?_
  refine rn_icmp_ge (tgt := 41) hX dX11_isAt_8 (by decide) rfl rfl (by omega) (by omega) (fun c8 => ?_) (fun c8 => ?_)
  · refine r_iconst (v := 0) hX dX11_isAt_41 (by decide) ?_
    refine r_ireturn hX rfl rfl dX11_isAt_42 (by decide) (by decide) ?_
    have hC : ¬ (q.1 < e ∧ cl u x y q.1 = true) := fun z => absurd z.1 (by omega)
    refine ⟨?_, rfl⟩
    rw [if_neg hC]
    first | done | rfl
  · refine r_aload_n hX dX11_isAt_11 rfl ?_
    refine r_getr hX dX11_isAt_12 fl_X11_23 rfl (LX11_s hL) (LX11_r5 hL) ?_
    refine r_aload_n hX dX11_isAt_15 rfl ?_
    refine rn_geti (v := nI q.1) hX dX11_isAt_16 fl_X11_98 rfl (LX11_s hL) hq.1 ?_
    refine rn_bald hX dX11_isAt_19 (LX11_a5 hL) rfl (by omega) (by omega) ?_
    rw [show mI M (a + 4) q.1 = sbI (u q.1) from (hT.1 _ (by omega)).2]
    refine r_iload_n hX dX11_isAt_20 rfl ?_
    refine r_icmp_lt (tgt := 41) hX dX11_isAt_21 (by decide) (fun c21 => ?_) (fun c21 => ?_)
    · refine r_iconst (v := 0) hX dX11_isAt_41 (by decide) ?_
      refine r_ireturn hX rfl rfl dX11_isAt_42 (by decide) (by decide) ?_
      have hC : ¬ (q.1 < e ∧ cl u x y q.1 = true) := fun z => i_nle.mpr c21 ((key z.1).mpr z.2).1
      refine ⟨?_, rfl⟩
      rw [if_neg hC]
      first | done | rfl
    · refine r_aload_n hX dX11_isAt_24 rfl ?_
      refine r_getr hX dX11_isAt_25 fl_X11_23 rfl (LX11_s hL) (LX11_r5 hL) ?_
      refine r_aload_n hX dX11_isAt_28 rfl ?_
      refine rn_geti (v := nI q.1) hX dX11_isAt_29 fl_X11_98 rfl (LX11_s hL) hq.1 ?_
      refine rn_bald hX dX11_isAt_32 (LX11_a5 hL) rfl (by omega) (by omega) ?_
      rw [show mI M (a + 4) q.1 = sbI (u q.1) from (hT.1 _ (by omega)).2]
      refine r_iload_n hX dX11_isAt_33 rfl ?_
      refine r_icmp_gt (tgt := 41) hX dX11_isAt_34 (by decide) (fun c34 => ?_) (fun c34 => ?_)
      · refine r_iconst (v := 0) hX dX11_isAt_41 (by decide) ?_
        refine r_ireturn hX rfl rfl dX11_isAt_42 (by decide) (by decide) ?_
        have hC : ¬ (q.1 < e ∧ cl u x y q.1 = true) := fun z => i_nle.mpr c34 ((key z.1).mpr z.2).2
        refine ⟨?_, rfl⟩
        rw [if_neg hC]
        first | done | rfl
      · refine r_iconst (v := 1) hX dX11_isAt_37 (by decide) ?_
        refine r_goto (tgt := 42) hX dX11_isAt_38 (by decide) ?_
        refine r_ireturn hX rfl rfl dX11_isAt_42 (by decide) (by decide) ?_
        have hC : q.1 < e ∧ cl u x y q.1 = true := ⟨by omega, (key (by omega)).mp ⟨i_nlt.mp c21, i_nlt.mp c34⟩⟩
        refine ⟨?_, rfl⟩
        rw [if_pos hC]
        first | done | rfl
set_option maxHeartbeats 2000000 in
set_option maxRecDepth 20000 in
theorem t_X11_hasFailed {M : Mm} {a : Nat} {q : Q4} (hL : LX11 M.1 M.2.1 a) (hq : Pq (mI M) a q) : Ct G base YX11_hasFailed 1 0 0 [.ref a] M (rE (some (.int (if ¬ q.2.2.1 = -1 then 1 else 0))) M) := by
  refine Ct.of IX11_hasFailed.1 (by simp [Value.category]) (Nat.le_of_ble_eq_true rfl) (fun X hX hN => ?_)
  show J G base X 0 0 M 0 [some (.ref a)] []
  refine r_aload_n hX dX11_hasFailed_0 rfl ?_
  refine rn_geti (v := q.2.2.1) hX dX11_hasFailed_1 fl_X11_95 rfl (LX11_s hL) hq.2.2.1 ?_
  refine r_iconst (v := (-1)) hX dX11_hasFailed_4 (by decide) ?_
  refine r_icmp_eq (tgt := 12) hX dX11_hasFailed_5 (by decide) (fun c5 => ?_) (fun c5 => ?_)
  · refine r_iconst (v := 0) hX dX11_hasFailed_12 (by decide) ?_
    refine r_ireturn hX rfl rfl dX11_hasFailed_13 (by decide) (by decide) ?_
    refine ⟨?_, rfl⟩
    rw [if_neg (fun z => z c5)]
    first | done | rfl
  · refine r_iconst (v := 1) hX dX11_hasFailed_8 (by decide) ?_
    refine r_goto (tgt := 13) hX dX11_hasFailed_9 (by decide) ?_
    refine r_ireturn hX rfl rfl dX11_hasFailed_13 (by decide) (by decide) ?_
    refine ⟨?_, rfl⟩
    rw [if_pos c5]
    first | done | rfl
set_option maxHeartbeats 2000000 in
set_option maxRecDepth 20000 in
theorem t_X11_blanks {M : Mm} {a e : Nat} {u : Nat → Nat} {q : Q4} (hL : LX11 M.1 M.2.1 a) (hT : Tt (mI M) a u e) (hq : Pq (mI M) a q) (hp : q.1 ≤ e) : Ct G base YX11_blanks 2 0 0 [.ref a] M (rI none M (pS M a (blQ u e q))) := by
  refine Ct.of IX11_blanks.1 (by simp [Value.category]) (Nat.le_of_ble_eq_true rfl) (fun X hX hN => ?_)
  show J G base X 0 0 M 0 [some (.ref a)] []
  have he := hT.2.2
  refine r_aload_n hX dX11_blanks_0 rfl ?_
  refine r_cV0 hX dX11_blanks_1 IX11_hasFailed ml_X11_104 rfl (LX11_s hL) rfl (t_X11_hasFailed hL hq) (by decide) (by decide) (by decide) (by decide) rfl (Nat.le_of_ble_eq_true rfl) ?_
  refine rb_if_eq (tgt := 8) hX dX11_blanks_4 (by decide) rfl (fun c4 => ?_) (fun c4 => ?_)
  · have hf : q.2.2.1 = -1 := Classical.not_not.mp c4
    show J G base X 0 0 (wI M (mI M)) 8 _ []
    refine loop_us (σ := Nat → Nat → Int32) (P := fun j i => pS M a (j, q.2) i ∧ eo (blB u) e j = eo (blB u) e q.1 → J G base X 0 0 (wI M i) 8 [some (.ref a)] []) e (fun j i hj ih hi => ?_) q.1 (mI M) hp ⟨pS.rf hq, rfl⟩
    refine r_aload_n hX dX11_blanks_8 rfl ?_
    refine r_bipush (v := nI 9) hX dX11_blanks_9 (by decide) ?_
    refine r_bipush (v := nI 10) hX dX11_blanks_11 (by decide) ?_
    refine r_cV2 hX dX11_blanks_13 IX11_isAt ml_X11_108 rfl (LX11_s hL) rfl (t_X11_isAt (M := wI M i) hL (hi.1.tt hT) hi.1.1 (by show j < 100000; omega) (by omega) (by omega)) (by decide) (by decide) (by decide) (by decide) rfl (Nat.le_of_ble_eq_true rfl) ?_
    refine rb_if_ne (tgt := 30) hX dX11_blanks_16 (by decide) rfl (fun c16 => ?_) (fun c16 => ?_)
    · refine r_aload_n hX dX11_blanks_30 rfl ?_
      refine r_dup hX dX11_blanks_31 rfl ?_
      refine rn_geti (v := nI j) hX dX11_blanks_32 fl_X11_98 rfl (LX11_s hL) hi.1.1.1 ?_
      refine r_iconst (v := nI 1) hX dX11_blanks_35 (by decide) ?_
      refine rn_iadd hX dX11_blanks_36 rfl rfl ?_
      refine r_puti hX dX11_blanks_37 fl_X11_98 rfl rfl (LX11_s hL) ?_
      refine r_goto (tgt := 8) hX dX11_blanks_40 (by decide) ?_
      refine ih (by omega) _ ⟨hi.1.put (by omega) (Pq8 (M := wI M i) (q := (j, q.2)) hi.1.1), ?_⟩
      rw [← hi.2]
      exact (eo_step (by have := c16.1; omega) (show (cl u 9 10 j || cl u 32 32 j) = true by rw [c16.2]; rfl)).symm
    · refine r_aload_n hX dX11_blanks_19 rfl ?_
      refine r_bipush (v := nI 32) hX dX11_blanks_20 (by decide) ?_
      refine r_bipush (v := nI 32) hX dX11_blanks_22 (by decide) ?_
      refine r_cV2 hX dX11_blanks_24 IX11_isAt ml_X11_108 rfl (LX11_s hL) rfl (t_X11_isAt (M := wI M i) hL (hi.1.tt hT) hi.1.1 (by show j < 100000; omega) (by omega) (by omega)) (by decide) (by decide) (by decide) (by decide) rfl (Nat.le_of_ble_eq_true rfl) ?_
      refine rb_if_eq (tgt := 43) hX dX11_blanks_27 (by decide) rfl (fun c27 => ?_) (fun c27 => ?_)
      · refine r_aload_n hX dX11_blanks_43 rfl ?_
        refine r_aload_n hX dX11_blanks_44 rfl ?_
        refine rn_geti (v := nI j) hX dX11_blanks_45 fl_X11_98 rfl (LX11_s hL) hi.1.1.1 ?_
        refine r_puti hX dX11_blanks_48 fl_X11_112 rfl rfl (LX11_s hL) ?_
        refine r_return hX rfl dX11_blanks_51 (by decide) (by decide) ?_
        have hj2 : eo (blB u) e j = j := eo_stop (by
          rcases Nat.lt_or_ge j e with h | h
          · refine Or.inr ?_
            have h1 : cl u 9 10 j = false := by
              cases hc : cl u 9 10 j with
              | false => rfl
              | true => exact absurd ⟨h, hc⟩ c16
            have h2 : cl u 32 32 j = false := by
              cases hc : cl u 32 32 j with
              | false => rfl
              | true => exact absurd ⟨h, hc⟩ c27
            show (cl u 9 10 j || cl u 32 32 j) = false
            rw [h1, h2]
            rfl
          · exact Or.inl h)
        refine ⟨rfl, mI (uI (wI M i) a 9 (nI j)), rfl, ?_⟩
        unfold blQ
        rw [if_pos hf, ← hi.2, hj2]
        exact hi.1.put (by omega) (Pq9 (M := wI M i) (q := (j, q.2)) hi.1.1)
      · refine r_aload_n hX dX11_blanks_30 rfl ?_
        refine r_dup hX dX11_blanks_31 rfl ?_
        refine rn_geti (v := nI j) hX dX11_blanks_32 fl_X11_98 rfl (LX11_s hL) hi.1.1.1 ?_
        refine r_iconst (v := nI 1) hX dX11_blanks_35 (by decide) ?_
        refine rn_iadd hX dX11_blanks_36 rfl rfl ?_
        refine r_puti hX dX11_blanks_37 fl_X11_98 rfl rfl (LX11_s hL) ?_
        refine r_goto (tgt := 8) hX dX11_blanks_40 (by decide) ?_
        refine ih (by omega) _ ⟨hi.1.put (by omega) (Pq8 (M := wI M i) (q := (j, q.2)) hi.1.1), ?_⟩
        rw [← hi.2]
        exact (eo_step (by have := c27.1; omega) (show (cl u 9 10 j || cl u 32 32 j) = true by rw [c27.2]; exact Bool.or_true _)).symm
  · refine r_return hX rfl dX11_blanks_7 (by decide) (by decide) ?_
    refine ⟨rfl, mI M, rfl, ?_⟩
    unfold blQ
    rw [if_neg c4]
    exact pS.rf hq
set_option maxHeartbeats 2000000 in
set_option maxRecDepth 20000 in
theorem t_X11_must {M : Mm} {a : Nat} {q : Q4} (hL : LX11 M.1 M.2.1 a) (hq : Pq (mI M) a q) {P : Prop} [Decidable P] {k : Nat} : Ct G base YX11_must 2 0 0 [.ref a, .int (if P then 1 else 0), .int (nI k)] M (rI none M (pS M a (muQ (decide P) k q))) := by
  refine Ct.of IX11_must.1 (by simp [Value.category]) (Nat.le_of_ble_eq_true rfl) (fun X hX hN => ?_)
  show J G base X 0 0 M 0 [some (.ref a), some (.int (if P then 1 else 0)), some (.int (nI k))] []
  refine r_iload_n hX dX11_must_0 rfl ?_
  refine rb_if_ne (tgt := 11) hX dX11_must_1 (by decide) rfl (fun c1 => ?_) (fun c1 => ?_)
  · refine r_return hX rfl dX11_must_11 (by decide) (by decide) ?_
    refine ⟨rfl, mI M, rfl, ?_⟩
    unfold muQ
    rw [if_pos (Or.inl (decide_eq_true c1))]
    exact pS.rf hq
  · refine r_aload_n hX dX11_must_4 rfl ?_
    refine r_cV0 hX dX11_must_5 IX11_hasFailed ml_X11_104 rfl (LX11_s hL) rfl (t_X11_hasFailed hL hq) (by decide) (by decide) (by decide) (by decide) rfl (Nat.le_of_ble_eq_true rfl) ?_
    refine rb_if_eq (tgt := 12) hX dX11_must_8 (by decide) rfl (fun c8 => ?_) (fun c8 => ?_)
    · refine r_aload_n hX dX11_must_12 rfl ?_
      refine r_aload_n hX dX11_must_13 rfl ?_
      refine rn_geti (v := nI q.2.1) hX dX11_must_14 fl_X11_112 rfl (LX11_s hL) hq.2.1 ?_
      refine r_puti hX dX11_must_17 fl_X11_95 rfl rfl (LX11_s hL) ?_
      refine r_aload_n hX dX11_must_20 rfl ?_
      refine r_iload_n hX dX11_must_21 rfl ?_
      refine r_puti hX dX11_must_22 fl_X11_115 rfl rfl (LX11_s hL) ?_
      refine r_return hX rfl dX11_must_25 (by decide) (by decide) ?_
      refine ⟨rfl, mI (uI (uI M a 11 (nI q.2.1)) a 12 (nI k)), rfl, ?_⟩
      unfold muQ
      rw [if_neg (fun z => z.elim (fun y => c1 (of_decide_eq_true y)) c8)]
      have h1 : pS M a (q.1, q.2.1, nI q.2.1, q.2.2.2) (mI (uI (wI M (mI M)) a 11 (nI q.2.1))) := (pS.rf hq).put (by omega) (Pq11 hq)
      exact h1.put (i := mI (uI (wI M (mI M)) a 11 (nI q.2.1))) (by omega) (Pq12 (M := uI M a 11 (nI q.2.1)) (Pq11 hq))
    · refine r_return hX rfl dX11_must_11 (by decide) (by decide) ?_
      refine ⟨rfl, mI M, rfl, ?_⟩
      unfold muQ
      rw [if_pos (Or.inr c8)]
      exact pS.rf hq
set_option maxHeartbeats 2000000 in
set_option maxRecDepth 20000 in
theorem t_X11_wordHere {M : Mm} {a e : Nat} {u : Nat → Nat} {q : Q4} (hL : LX11 M.1 M.2.1 a) (hT : Tt (mI M) a u e) (hq : Pq (mI M) a q) (hp : q.1 ≤ e) : Ct G base YX11_wordHere 3 0 0 [.ref a] M (rI (some (.int (nI (whN u e q)))) M (pS M a (blQ u e q))) := by
  refine Ct.of IX11_wordHere.1 (by simp [Value.category]) (Nat.le_of_ble_eq_true rfl) (fun X hX hN => ?_)
  show J G base X 0 0 M 0 [some (.ref a), none] []
  have he := hT.2.2
  have hb := blQ_le (u := u) hp
  have key : ∀ j, j < e → ((nI 97 ≤ sbI (u j) ∧ sbI (u j) ≤ nI 122) ↔ lwB u j = true) := fun j h => (sbI_in (hT.1 _ h).1 (by omega) (by omega)).trans (by unfold lwB cl; exact decide_eq_true_iff.symm)
  refine r_aload_n hX dX11_wordHere_0 rfl ?_
  refine r_iV0 hX dX11_wordHere_1 IX11_blanks ml_X11_118 rfl (LX11_s hL) rfl (t_X11_blanks hL hT hq hp) (by decide) (by decide) (by decide) (by decide) rfl (Nat.le_of_ble_eq_true rfl) (fun i1 h1 => ?_)
  show J G base X _ _ (wI M i1) _ _ _
  refine r_aload_n hX dX11_wordHere_4 rfl ?_
  refine rn_geti (v := nI (blQ u e q).1) hX dX11_wordHere_5 fl_X11_98 rfl (LX11_s hL) h1.1.1 ?_
  refine r_istore1 hX dX11_wordHere_8 rfl ?_
  have hT1 := h1.tt hT
  refine loop_up (P := fun j => (blQ u e q).1 ≤ j → eo (lwB u) e j = eo (lwB u) e (blQ u e q).1 → J G base X 0 0 (wI M i1) 9 [some (.ref a), some (.int (nI j))] []) e (fun j hj ih hge hE => ?_) (blQ u e q).1 hb (Nat.le_refl _) rfl
  refine r_iload_n hX dX11_wordHere_9 rfl ?_
  refine r_aload_n hX dX11_wordHere_10 rfl ?_
  refine rn_geti (v := nI e) hX dX11_wordHere_11 fl_X11_101 rfl (LX11_s hL) hT1.2.1 ?_
  refine rn_icmp_ge (tgt := 45) hX dX11_wordHere_14 (by decide) rfl rfl (by omega) (by omega) (fun c14 => ?_) (fun c14 => ?_)
  · refine r_iload_n hX dX11_wordHere_45 rfl ?_
    refine r_aload_n hX dX11_wordHere_46 rfl ?_
    refine rn_geti (v := nI (blQ u e q).1) hX dX11_wordHere_47 fl_X11_98 rfl (LX11_s hL) h1.1.1 ?_
    refine rn_isub hX dX11_wordHere_50 rfl rfl (by omega) ?_
    refine r_ireturn hX rfl rfl dX11_wordHere_51 (by decide) (by decide) ?_
    have hT2 : eo (lwB u) e j = j := eo_stop (Or.inl (by omega))
    refine ⟨?_, i1, rfl, h1⟩
    have : nI (whN u e q) = nI (j - (blQ u e q).1) := by
      unfold whN
      rw [← hE, hT2]
    rw [this]
  · refine r_aload_n hX dX11_wordHere_17 rfl ?_
    refine r_getr hX dX11_wordHere_18 fl_X11_23 rfl (LX11_s hL) (LX11_r5 hL) ?_
    refine r_iload_n hX dX11_wordHere_21 rfl ?_
    refine rn_bald hX dX11_wordHere_22 (LX11_a5 hL) rfl (by omega) (by omega) ?_
    rw [show mI (wI M i1) (a + 4) j = sbI (u j) from (hT1.1 _ (by omega)).2]
    refine r_bipush (v := 97) hX dX11_wordHere_23 (by decide) ?_
    refine r_icmp_lt (tgt := 45) hX dX11_wordHere_25 (by decide) (fun c25 => ?_) (fun c25 => ?_)
    · refine r_iload_n hX dX11_wordHere_45 rfl ?_
      refine r_aload_n hX dX11_wordHere_46 rfl ?_
      refine rn_geti (v := nI (blQ u e q).1) hX dX11_wordHere_47 fl_X11_98 rfl (LX11_s hL) h1.1.1 ?_
      refine rn_isub hX dX11_wordHere_50 rfl rfl (by omega) ?_
      refine r_ireturn hX rfl rfl dX11_wordHere_51 (by decide) (by decide) ?_
      have hT2 : eo (lwB u) e j = j := eo_stop (Or.inr (by cases hc : lwB u j with | false => rfl | true => exact absurd ((key j (by omega)).mpr hc).1 (i_nle.mpr c25)))
      refine ⟨?_, i1, rfl, h1⟩
      have : nI (whN u e q) = nI (j - (blQ u e q).1) := by
        unfold whN
        rw [← hE, hT2]
      rw [this]
    · refine r_aload_n hX dX11_wordHere_28 rfl ?_
      refine r_getr hX dX11_wordHere_29 fl_X11_23 rfl (LX11_s hL) (LX11_r5 hL) ?_
      refine r_iload_n hX dX11_wordHere_32 rfl ?_
      refine rn_bald hX dX11_wordHere_33 (LX11_a5 hL) rfl (by omega) (by omega) ?_
      rw [show mI (wI M i1) (a + 4) j = sbI (u j) from (hT1.1 _ (by omega)).2]
      refine r_bipush (v := 122) hX dX11_wordHere_34 (by decide) ?_
      refine r_icmp_gt (tgt := 45) hX dX11_wordHere_36 (by decide) (fun c36 => ?_) (fun c36 => ?_)
      · refine r_iload_n hX dX11_wordHere_45 rfl ?_
        refine r_aload_n hX dX11_wordHere_46 rfl ?_
        refine rn_geti (v := nI (blQ u e q).1) hX dX11_wordHere_47 fl_X11_98 rfl (LX11_s hL) h1.1.1 ?_
        refine rn_isub hX dX11_wordHere_50 rfl rfl (by omega) ?_
        refine r_ireturn hX rfl rfl dX11_wordHere_51 (by decide) (by decide) ?_
        have hT2 : eo (lwB u) e j = j := eo_stop (Or.inr (by cases hc : lwB u j with | false => rfl | true => exact absurd ((key j (by omega)).mpr hc).2 (i_nle.mpr c36)))
        refine ⟨?_, i1, rfl, h1⟩
        have : nI (whN u e q) = nI (j - (blQ u e q).1) := by
          unfold whN
          rw [← hE, hT2]
        rw [this]
      · refine rn_iinc1 hX dX11_wordHere_39 rfl rfl ?_
        refine r_goto (tgt := 9) hX dX11_wordHere_42 (by decide) ?_
        exact ih (by omega) (by omega) ((eo_step (by omega) ((key j (by omega)).mp ⟨i_nlt.mp c25, i_nlt.mp c36⟩)).symm.trans hE)
set_option maxHeartbeats 2000000 in
set_option maxRecDepth 20000 in
theorem t_X11_passesName {M : Mm} {a e : Nat} {u : Nat → Nat} {q : Q4} (hL : LX11 M.1 M.2.1 a) (hT : Tt (mI M) a u e) (hq : Pq (mI M) a q) (hp : q.1 ≤ e) : Ct G base YX11_passesName 4 0 0 [.ref a] M (rI none M (pS M a (pnQ u e q))) := by
  refine Ct.of IX11_passesName.1 (by simp [Value.category]) (Nat.le_of_ble_eq_true rfl) (fun X hX hN => ?_)
  show J G base X 0 0 M 0 [some (.ref a)] []
  have he := hT.2.2
  have hw := whN_le (u := u) hp
  refine r_aload_n hX dX11_passesName_0 rfl ?_
  refine r_cV0 hX dX11_passesName_1 IX11_hasFailed ml_X11_104 rfl (LX11_s hL) rfl (t_X11_hasFailed hL hq) (by decide) (by decide) (by decide) (by decide) rfl (Nat.le_of_ble_eq_true rfl) ?_
  refine rb_if_ne (tgt := 20) hX dX11_passesName_4 (by decide) rfl (fun c4 => ?_) (fun c4 => ?_)
  · refine r_return hX rfl dX11_passesName_20 (by decide) (by decide) ?_
    refine ⟨rfl, mI M, rfl, ?_⟩
    unfold pnQ
    rw [if_neg c4]
    exact pS.rf hq
  · refine r_aload_n hX dX11_passesName_7 rfl ?_
    refine r_dup hX dX11_passesName_8 rfl ?_
    refine rn_geti (v := nI q.1) hX dX11_passesName_9 fl_X11_98 rfl (LX11_s hL) hq.1 ?_
    refine r_aload_n hX dX11_passesName_12 rfl ?_
    refine r_iV0 hX dX11_passesName_13 IX11_wordHere ml_X11_121 rfl (LX11_s hL) rfl (t_X11_wordHere hL hT hq hp) (by decide) (by decide) (by decide) (by decide) rfl (Nat.le_of_ble_eq_true rfl) (fun i1 h1 => ?_)
    show J G base X _ _ (wI M i1) _ _ _
    refine rn_iadd hX dX11_passesName_16 rfl rfl ?_
    refine r_puti hX dX11_passesName_17 fl_X11_98 rfl rfl (LX11_s hL) ?_
    refine r_return hX rfl dX11_passesName_20 (by decide) (by decide) ?_
    refine ⟨rfl, mI (uI (wI M i1) a 8 (nI (q.1 + whN u e q))), rfl, ?_⟩
    unfold pnQ
    rw [if_pos (Classical.not_not.mp c4)]
    exact h1.put (by omega) (Pq8 (M := wI M i1) h1.1)
