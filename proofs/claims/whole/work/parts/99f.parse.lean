variable {G : GG} {base : Nat}
/-! ===== THE CLASS: the parser ===== -/
/-- the parser at p has the text at b: the bytes u, e of them -/
def PT (M : Mm) (p b N e : Nat) (u : Nat → Nat) : Prop := (mR M p 4 = some b ∧ mS M b = some (12, N) ∧ e ≤ N ∧ N < 100000 ∧ b < p) ∧ (∀ k, k < e → u k < 256 ∧ mI M b k = nI (u k)) ∧ mI M p 5 = nI e
/-- where it reads, the start of the word, the failure, its kind -/
def cQ (i : Nat → Nat → Int32) (p : Nat) (q : Q4) : Prop := i p 6 = nI q.1 ∧ i p 7 = nI q.2.1 ∧ i p 2 = q.2.2.1 ∧ i p 3 = q.2.2.2
def cS (M : Mm) (p : Nat) (q : Q4) (i : Nat → Nat → Int32) : Prop := cQ i p q ∧ (∀ x, x ≠ p → i x = mI M x) ∧ ∀ k, k ≠ 2 → k ≠ 3 → k ≠ 6 → k ≠ 7 → i p k = mI M p k
theorem cS.rf {M : Mm} {p : Nat} {q : Q4} (h : cQ (mI M) p q) : cS M p q (mI M) := ⟨h, fun _ _ => rfl, fun _ _ _ _ _ => rfl⟩
theorem cS.tr {M : Mm} {p : Nat} {q q' : Q4} {i j : Nat → Nat → Int32} (h : cS M p q i) (h2 : cS (wI M i) p q' j) : cS M p q' j := ⟨h2.1, fun x hx => (h2.2.1 x hx).trans (h.2.1 x hx), fun k a b c d => (h2.2.2 k a b c d).trans (h.2.2 k a b c d)⟩
theorem cS.pt {M : Mm} {p b N e : Nat} {u : Nat → Nat} {q : Q4} {i : Nat → Nat → Int32} (h : cS M p q i) (hT : PT M p b N e u) : PT (wI M i) p b N e u := by
  obtain ⟨⟨h1, h2, h3, h4, h5⟩, h6, h7⟩ := hT
  exact ⟨⟨h1, h2, h3, h4, h5⟩, fun k hk => ⟨(h6 k hk).1, (congrFun (h.2.1 b (by omega)) k).trans (h6 k hk).2⟩, (h.2.2 5 (by omega) (by omega) (by omega) (by omega)).trans h7⟩
theorem cS.put {M : Mm} {p k : Nat} {v : Int32} {q q' : Q4} {i : Nat → Nat → Int32} (h : cS M p q i) (hk : k = 2 ∨ k = 3 ∨ k = 6 ∨ k = 7) (hq : cQ (mI (uI (wI M i) p k v)) p q') : cS M p q' (mI (uI (wI M i) p k v)) := by
  refine ⟨hq, fun x hx => (uIo hx).trans (h.2.1 x hx), fun j a b c d => ?_⟩
  rw [mI_uI, if_pos rfl, if_neg (by omega)]
  exact h.2.2 j a b c d
theorem cQ6 {M : Mm} {p b : Nat} {q : Q4} (h : cQ (mI M) p q) : cQ (mI (uI M p 6 (nI b))) p (b, q.2) := ⟨by simp [mI_uI], by simp [mI_uI]; exact h.2.1, by simp [mI_uI]; exact h.2.2.1, by simp [mI_uI]; exact h.2.2.2⟩
theorem cQ7 {M : Mm} {p b : Nat} {q : Q4} (h : cQ (mI M) p q) : cQ (mI (uI M p 7 (nI b))) p (q.1, b, q.2.2) := ⟨by simp [mI_uI]; exact h.1, by simp [mI_uI], by simp [mI_uI]; exact h.2.2.1, by simp [mI_uI]; exact h.2.2.2⟩
theorem cQ2 {M : Mm} {p : Nat} {v : Int32} {q : Q4} (h : cQ (mI M) p q) : cQ (mI (uI M p 2 v)) p (q.1, q.2.1, v, q.2.2.2) := ⟨by simp [mI_uI]; exact h.1, by simp [mI_uI]; exact h.2.1, by simp [mI_uI], by simp [mI_uI]; exact h.2.2.2⟩
theorem cQ3 {M : Mm} {p : Nat} {v : Int32} {q : Q4} (h : cQ (mI M) p q) : cQ (mI (uI M p 3 v)) p (q.1, q.2.1, q.2.2.1, v) := ⟨by simp [mI_uI]; exact h.1, by simp [mI_uI]; exact h.2.1, by simp [mI_uI]; exact h.2.2.1, by simp [mI_uI]⟩
/-- a byte, -1 behind the end -/
def byI (u : Nat → Nat) (e j : Nat) : Int32 := if j < e then nI (u j) else -1
theorem byI_in {u : Nat → Nat} {e j x y : Nat} (hu : j < e → u j < 256) (hx : x < 1000) (hy : y < 1000) : (nI x ≤ byI u e j ∧ byI u e j ≤ nI y) ↔ (j < e ∧ cl u x y j = true) := by
  unfold byI cl
  by_cases h : j < e
  · rw [if_pos h, nI_leI (by omega) (by have := hu h; omega), nI_leI (by have := hu h; omega) (by omega), decide_eq_true_iff]
    exact ⟨fun z => ⟨h, z⟩, fun z => z.2⟩
  · rw [if_neg h]
    exact ⟨fun z => absurd z.1 (by rw [Int32.not_le]; exact i_ltI.mpr (by rw [nI_toInt (by omega)]; have : (-1 : Int32).toInt = -1 := rfl; omega)), fun z => absurd z.1 h⟩
set_option maxHeartbeats 2000000 in
set_option maxRecDepth 20000 in
theorem t_X5_byteAt {M : Mm} {p b N e : Nat} {u : Nat → Nat} (hp : LX5 M.1 M.2.1 p) (hT : PT M p b N e u) {j : Nat} (hj : j < 100000) : Ct G base YX5_byteAt 1 0 0 [.ref p, .int (nI j)] M (rE (some (.int (byI u e j))) M) := by
  refine Ct.of IX5_byteAt.1 (by simp [Value.category]) (Nat.le_of_ble_eq_true rfl) (fun X hX hN => ?_)
  show J G base X 0 0 M 0 [some (.ref p), some (.int (nI j))] []
  obtain ⟨⟨hT1, hT2, hT3, hT4, hT5⟩, hT6, hT7⟩ := hT
  refine r_iload_n hX dX5_byteAt_0 rfl ?_
  refine rn_if_lt (tgt := 21) hX dX5_byteAt_1 (by decide) rfl (by omega) ?_
  refine r_iload_n hX dX5_byteAt_4 rfl ?_
  refine r_aload_n hX dX5_byteAt_5 rfl ?_
  refine rn_geti (v := nI e) hX dX5_byteAt_6 fl_X5_36 rfl (LX5_s hp) hT7 ?_
  refine rn_icmp_ge (tgt := 21) hX dX5_byteAt_9 (by decide) rfl rfl (by omega) (by omega) (fun c9 => ?_) (fun c9 => ?_)
  · refine r_iconst (v := (-1)) hX dX5_byteAt_21 (by decide) ?_
    refine r_goto (tgt := 31) hX dX5_byteAt_22 (by decide) ?_
    refine r_ireturn hX rfl rfl dX5_byteAt_31 (by decide) (by decide) ?_
    refine ⟨?_, rfl⟩
    unfold byI
    rw [if_neg (by omega)]
  · refine r_iload_n hX dX5_byteAt_12 rfl ?_
    refine r_aload_n hX dX5_byteAt_13 rfl ?_
    refine r_getr hX dX5_byteAt_14 fl_X5_32 rfl (LX5_s hp) hT1 ?_
    refine r_alen hX dX5_byteAt_17 hT2 ?_
    refine rn_icmp_lt (tgt := 25) hX dX5_byteAt_18 (by decide) rfl rfl (by omega) (by omega) (fun c18 => ?_) (fun c18 => by omega)
    refine r_aload_n hX dX5_byteAt_25 rfl ?_
    refine r_getr hX dX5_byteAt_26 fl_X5_32 rfl (LX5_s hp) hT1 ?_
    refine r_iload_n hX dX5_byteAt_29 rfl ?_
    refine rn_iald hX dX5_byteAt_30 hT2 rfl (by omega) (by omega) ?_
    rw [(hT6 j (by omega)).2]
    refine r_ireturn hX rfl rfl dX5_byteAt_31 (by decide) (by decide) ?_
    refine ⟨?_, rfl⟩
    unfold byI
    rw [if_pos (by omega)]
set_option maxHeartbeats 2000000 in
set_option maxRecDepth 20000 in
theorem t_X5_isDigit {M : Mm} {p b N e : Nat} {u : Nat → Nat} (hp : LX5 M.1 M.2.1 p) (hT : PT M p b N e u) {j : Nat} (hj : j < 100000) : Ct G base YX5_isDigit 2 0 0 [.ref p, .int (nI j)] M (rE (some (.int (if j < e ∧ dgB u j = true then 1 else 0))) M) := by
  refine Ct.of IX5_isDigit.1 (by simp [Value.category]) (Nat.le_of_ble_eq_true rfl) (fun X hX hN => ?_)
  show J G base X 0 0 M 0 [some (.ref p), some (.int (nI j))] []
  have key := byI_in (u := u) (e := e) (j := j) (x := 48) (y := 57) (fun h => (hT.2.1 j h).1) (by omega) (by omega)
  refine r_aload_n hX dX5_isDigit_0 rfl ?_
  refine r_iload_n hX dX5_isDigit_1 rfl ?_
  refine r_cV1 hX dX5_isDigit_2 IX5_byteAt ml_X5_182 rfl (LX5_s hp) rfl (t_X5_byteAt hp hT hj) (by decide) (by decide) (by decide) (by decide) rfl (Nat.le_of_ble_eq_true rfl) ?_
  refine r_bipush (v := 48) hX dX5_isDigit_5 (by decide) ?_
  refine r_icmp_lt (tgt := 24) hX dX5_isDigit_7 (by decide) (fun c7 => ?_) (fun c7 => ?_)
  · refine r_iconst (v := 0) hX dX5_isDigit_24 (by decide) ?_
    refine r_ireturn hX rfl rfl dX5_isDigit_25 (by decide) (by decide) ?_
    refine ⟨?_, rfl⟩
    rw [if_neg (fun z => absurd (key.mpr z).1 (i_nle.mpr c7))]
    first | done | rfl
  · refine r_aload_n hX dX5_isDigit_10 rfl ?_
    refine r_iload_n hX dX5_isDigit_11 rfl ?_
    refine r_cV1 hX dX5_isDigit_12 IX5_byteAt ml_X5_182 rfl (LX5_s hp) rfl (t_X5_byteAt hp hT hj) (by decide) (by decide) (by decide) (by decide) rfl (Nat.le_of_ble_eq_true rfl) ?_
    refine r_bipush (v := 57) hX dX5_isDigit_15 (by decide) ?_
    refine r_icmp_gt (tgt := 24) hX dX5_isDigit_17 (by decide) (fun c17 => ?_) (fun c17 => ?_)
    · refine r_iconst (v := 0) hX dX5_isDigit_24 (by decide) ?_
      refine r_ireturn hX rfl rfl dX5_isDigit_25 (by decide) (by decide) ?_
      refine ⟨?_, rfl⟩
      rw [if_neg (fun z => absurd (key.mpr z).2 (i_nle.mpr c17))]
      first | done | rfl
    · refine r_iconst (v := 1) hX dX5_isDigit_20 (by decide) ?_
      refine r_goto (tgt := 25) hX dX5_isDigit_21 (by decide) ?_
      refine r_ireturn hX rfl rfl dX5_isDigit_25 (by decide) (by decide) ?_
      refine ⟨?_, rfl⟩
      rw [if_pos (key.mp ⟨i_nlt.mp c7, i_nlt.mp c17⟩)]
      first | done | rfl
set_option maxHeartbeats 2000000 in
set_option maxRecDepth 20000 in
theorem t_X5_isLowerCase {M : Mm} {p b N e : Nat} {u : Nat → Nat} (hp : LX5 M.1 M.2.1 p) (hT : PT M p b N e u) {j : Nat} (hj : j < 100000) : Ct G base YX5_isLowerCase 2 0 0 [.ref p, .int (nI j)] M (rE (some (.int (if j < e ∧ lwB u j = true then 1 else 0))) M) := by
  refine Ct.of IX5_isLowerCase.1 (by simp [Value.category]) (Nat.le_of_ble_eq_true rfl) (fun X hX hN => ?_)
  show J G base X 0 0 M 0 [some (.ref p), some (.int (nI j))] []
  have key := byI_in (u := u) (e := e) (j := j) (x := 97) (y := 122) (fun h => (hT.2.1 j h).1) (by omega) (by omega)
  refine r_aload_n hX dX5_isLowerCase_0 rfl ?_
  refine r_iload_n hX dX5_isLowerCase_1 rfl ?_
  refine r_cV1 hX dX5_isLowerCase_2 IX5_byteAt ml_X5_182 rfl (LX5_s hp) rfl (t_X5_byteAt hp hT hj) (by decide) (by decide) (by decide) (by decide) rfl (Nat.le_of_ble_eq_true rfl) ?_
  refine r_bipush (v := 97) hX dX5_isLowerCase_5 (by decide) ?_
  refine r_icmp_lt (tgt := 24) hX dX5_isLowerCase_7 (by decide) (fun c7 => ?_) (fun c7 => ?_)
  · refine r_iconst (v := 0) hX dX5_isLowerCase_24 (by decide) ?_
    refine r_ireturn hX rfl rfl dX5_isLowerCase_25 (by decide) (by decide) ?_
    refine ⟨?_, rfl⟩
    rw [if_neg (fun z => absurd (key.mpr z).1 (i_nle.mpr c7))]
    first | done | rfl
  · refine r_aload_n hX dX5_isLowerCase_10 rfl ?_
    refine r_iload_n hX dX5_isLowerCase_11 rfl ?_
    refine r_cV1 hX dX5_isLowerCase_12 IX5_byteAt ml_X5_182 rfl (LX5_s hp) rfl (t_X5_byteAt hp hT hj) (by decide) (by decide) (by decide) (by decide) rfl (Nat.le_of_ble_eq_true rfl) ?_
    refine r_bipush (v := 122) hX dX5_isLowerCase_15 (by decide) ?_
    refine r_icmp_gt (tgt := 24) hX dX5_isLowerCase_17 (by decide) (fun c17 => ?_) (fun c17 => ?_)
    · refine r_iconst (v := 0) hX dX5_isLowerCase_24 (by decide) ?_
      refine r_ireturn hX rfl rfl dX5_isLowerCase_25 (by decide) (by decide) ?_
      refine ⟨?_, rfl⟩
      rw [if_neg (fun z => absurd (key.mpr z).2 (i_nle.mpr c17))]
      first | done | rfl
    · refine r_iconst (v := 1) hX dX5_isLowerCase_20 (by decide) ?_
      refine r_goto (tgt := 25) hX dX5_isLowerCase_21 (by decide) ?_
      refine r_ireturn hX rfl rfl dX5_isLowerCase_25 (by decide) (by decide) ?_
      refine ⟨?_, rfl⟩
      rw [if_pos (key.mp ⟨i_nlt.mp c7, i_nlt.mp c17⟩)]
      first | done | rfl
set_option maxHeartbeats 2000000 in
set_option maxRecDepth 20000 in
theorem t_X5_isBlank {M : Mm} {x : Int32} : Ct G base YX5_isBlank 1 0 0 [.int x] M (rE (some (.int (if x = 32 ∨ x = 9 ∨ x = 10 then 1 else 0))) M) := by
  refine Ct.of IX5_isBlank.1 (by simp [Value.category]) (Nat.le_of_ble_eq_true rfl) (fun X hX hN => ?_)
  show J G base X 0 0 M 0 [some (.int x)] []
  refine r_iload_n hX dX5_isBlank_0 rfl ?_
  refine r_bipush (v := 32) hX dX5_isBlank_1 (by decide) ?_
  refine r_icmp_eq (tgt := 18) hX dX5_isBlank_3 (by decide) (fun c3 => ?_) (fun c3 => ?_)
  · refine r_iconst (v := 1) hX dX5_isBlank_18 (by decide) ?_
    refine r_goto (tgt := 23) hX dX5_isBlank_19 (by decide) ?_
    refine r_ireturn hX rfl rfl dX5_isBlank_23 (by decide) (by decide) ?_
    exact ⟨by rw [if_pos (Or.inl c3)]; first | done | rfl, rfl⟩
  · refine r_iload_n hX dX5_isBlank_6 rfl ?_
    refine r_bipush (v := 9) hX dX5_isBlank_7 (by decide) ?_
    refine r_icmp_eq (tgt := 18) hX dX5_isBlank_9 (by decide) (fun c9 => ?_) (fun c9 => ?_)
    · refine r_iconst (v := 1) hX dX5_isBlank_18 (by decide) ?_
      refine r_goto (tgt := 23) hX dX5_isBlank_19 (by decide) ?_
      refine r_ireturn hX rfl rfl dX5_isBlank_23 (by decide) (by decide) ?_
      exact ⟨by rw [if_pos (Or.inr (Or.inl c9))]; first | done | rfl, rfl⟩
    · refine r_iload_n hX dX5_isBlank_12 rfl ?_
      refine r_bipush (v := 10) hX dX5_isBlank_13 (by decide) ?_
      refine r_icmp_ne (tgt := 22) hX dX5_isBlank_15 (by decide) (fun c15 => ?_) (fun c15 => ?_)
      · refine r_iconst (v := 0) hX dX5_isBlank_22 (by decide) ?_
        refine r_ireturn hX rfl rfl dX5_isBlank_23 (by decide) (by decide) ?_
        exact ⟨by rw [if_neg (fun z => z.elim c3 (fun y => y.elim c9 c15))]; first | done | rfl, rfl⟩
      · refine r_iconst (v := 1) hX dX5_isBlank_18 (by decide) ?_
        refine r_goto (tgt := 23) hX dX5_isBlank_19 (by decide) ?_
        refine r_ireturn hX rfl rfl dX5_isBlank_23 (by decide) (by decide) ?_
        exact ⟨by rw [if_pos (Or.inr (Or.inr c15))]; first | done | rfl, rfl⟩
set_option maxHeartbeats 2000000 in
set_option maxRecDepth 20000 in
theorem t_X5_fail {M : Mm} {p : Nat} {q : Q4} (hp : LX5 M.1 M.2.1 p) (hq : cQ (mI M) p q) {k f : Nat} : Ct G base YX5_fail 1 0 0 [.ref p, .int (nI k), .int (nI f)] M (rI (some (.int 0)) M (cS M p (q.1, q.2.1, nI f, nI k))) := by
  refine Ct.of IX5_fail.1 (by simp [Value.category]) (Nat.le_of_ble_eq_true rfl) (fun X hX hN => ?_)
  show J G base X 0 0 M 0 [some (.ref p), some (.int (nI k)), some (.int (nI f))] []
  refine r_aload_n hX dX5_fail_0 rfl ?_
  refine r_iload_n hX dX5_fail_1 rfl ?_
  refine r_puti hX dX5_fail_2 fl_X5_29 rfl rfl (LX5_s hp) ?_
  refine r_aload_n hX dX5_fail_5 rfl ?_
  refine r_iload_n hX dX5_fail_6 rfl ?_
  refine r_puti hX dX5_fail_7 fl_X5_25 rfl rfl (LX5_s hp) ?_
  refine r_iconst (v := 0) hX dX5_fail_10 (by decide) ?_
  refine r_ireturn hX rfl rfl dX5_fail_11 (by decide) (by decide) ?_
  refine ⟨rfl, mI (uI (uI M p 3 (nI k)) p 2 (nI f)), rfl, ?_⟩
  have h1 : cS M p (q.1, q.2.1, q.2.2.1, nI k) (mI (uI (wI M (mI M)) p 3 (nI k))) := (cS.rf hq).put (by omega) (cQ3 hq)
  exact h1.put (i := mI (uI (wI M (mI M)) p 3 (nI k))) (by omega) (cQ2 (M := uI M p 3 (nI k)) (cQ3 hq))
