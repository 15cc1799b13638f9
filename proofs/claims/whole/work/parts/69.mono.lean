variable {G : GG} {base : Nat}
theorem mu2_ok {c : Bool} {k : Nat} {q : Q4} (h : (muQ c k q).2.2.1 = -1) (hb : q.2.2.1 = -1 → q.2.1 < 2147483648) : muQ c k q = q ∧ c = true ∧ q.2.2.1 = -1 := by
  by_cases hq : q.2.2.1 = -1
  · exact muQ_ok h (hb hq)
  · rw [fl_mu hq] at h
    exact absurd h hq
theorem pn_f {u : Nat → Nat} {e : Nat} {q : Q4} : (pnQ u e q).2.2 = q.2.2 := by
  unfold pnQ
  split
  · exact blQ_f
  · rfl
theorem bl_1 {u : Nat → Nat} {e : Nat} {q : Q4} (h : q.2.2.1 = -1) : blQ u e q = (eo (blB u) e q.1, eo (blB u) e q.1, q.2.2) := by
  unfold blQ
  rw [if_pos h]
theorem wh_bl {u : Nat → Nat} {e : Nat} {q : Q4} (hp : q.1 ≤ e) : whN u e (blQ u e q) = whN u e q := by
  unfold whN
  rw [bl_bl hp]
/-- a name that is taken -/
theorem snmu_ok {u : Nat → Nat} {e k : Nat} {c : Bool} {q : Q4} (h : (pnQ u e (muQ c k (snR u e q))).2.2.1 = -1) (hp : q.1 ≤ e) (he : e ≤ 900) : q.2.2.1 = -1 ∧ c = true ∧ 1 ≤ whN u e q ∧ whN u e q ≤ 6 ∧ snR u e q = blQ u e q ∧ pnQ u e (muQ c k (snR u e q)) = ((blQ u e q).1 + whN u e q, (blQ u e q).2) := by
  rw [pn_f] at h
  have hb := blQ_le (u := u) hp
  obtain ⟨h1, h2, h3⟩ := mu2_ok h (fun z => by
    obtain ⟨g1, -, -, g4⟩ := snR_ok z hp he
    rw [g4, bl_1 g1]
    rw [bl_1 g1] at hb
    show eo (blB u) e q.1 < _
    have : eo (blB u) e q.1 ≤ e := hb
    omega)
  obtain ⟨g1, g2, g3, g4⟩ := snR_ok h3 hp he
  refine ⟨g1, h2, g2, g3, g4, ?_⟩
  rw [h1, g4]
  unfold pnQ
  have : (blQ u e q).2.2.1 = -1 := by rw [blQ_f]; exact g1
  rw [if_pos this, wh_bl hp, bl_bl hp]
theorem blQ_ge {u : Nat → Nat} {e : Nat} {q : Q4} : q.1 ≤ (blQ u e q).1 := by
  unfold blQ
  split
  · exact eo_ge
  · exact Nat.le_refl _
theorem pnQ_ge {u : Nat → Nat} {e : Nat} {q : Q4} : q.1 ≤ (pnQ u e q).1 := by
  unfold pnQ
  split
  · exact Nat.le_add_right _ _
  · exact Nat.le_refl _
theorem snmu_ge {u : Nat → Nat} {e k : Nat} {c : Bool} {q : Q4} : q.1 ≤ (pnQ u e (muQ c k (snR u e q))).1 := by
  refine Nat.le_trans ?_ pnQ_ge
  rw [muQ_1]
  unfold snR
  rw [muQ_1]
  exact blQ_ge
theorem tkQ_ge {u : Nat → Nat} {e w : Nat} {q : Q4} : q.1 ≤ (tkQ u e w q).1 := by
  have := blQ_ge (u := u) (e := e) (q := q)
  unfold tkQ
  split
  · split
    · show q.1 ≤ (blQ u e q).1 + _
      omega
    · exact this
  · exact Nat.le_refl _
theorem nuQ_ge {u : Nat → Nat} {e lo hi : Nat} {q : Q4} : q.1 ≤ (nuQ u e lo hi q).1 := by
  have h := blQ_ge (u := u) (e := e) (q := q)
  unfold nuQ
  split
  · unfold nuQ2
    rw [muQ_1]
    exact Nat.le_trans h eo_ge
  · unfold nuQ1
    rw [muQ_1]
    exact h
theorem plR_ge {n : Nat → Int32} {x v : Nat} {u : Nat → Nat} {e : Nat} {q : Q4} : q.1 ≤ (plR n x v u e q).1 := by
  have hs : (plS n x q).1 = q.1 := by unfold plS; rw [muQ_1]
  unfold plR
  split
  · rw [← hs]; exact snmu_ge
  · exact Nat.le_of_eq hs.symm
theorem crR_ge {n : Nat → Int32} {x : Nat} {u : Nat → Nat} {e : Nat} {q : Q4} : q.1 ≤ (crR n x u e q).1 := by
  have hs : (crS9 n x q).1 = q.1 := by unfold crS9; rw [muQ_1]
  unfold crR
  split
  · rw [← hs]; exact snmu_ge
  · exact Nat.le_of_eq hs.symm
theorem ltR_ge {n : Nat → Int32} {x : Nat} {u : Nat → Nat} {e : Nat} {q : Q4} : q.1 ≤ (ltR n x u e q).1 := by
  have hs : (ltS n x q).1 = q.1 := by unfold ltS; rw [muQ_1]
  have hb : q.1 ≤ (ltB n u e (ltS n x q)).1 := by
    rw [← hs]
    exact Nat.le_trans snmu_ge snmu_ge
  unfold ltR
  split
  · unfold ltD
    split
    · exact Nat.le_trans hb (Nat.le_trans tkQ_ge nuQ_ge)
    · exact Nat.le_trans hb tkQ_ge
  · exact Nat.le_of_eq hs.symm
theorem stC_ge {n : Nat → Int32} {u : Nat → Nat} {e lo c : Nat} {q : Q4} : q.1 ≤ (stC n u e lo c q).1 := by
  refine Nat.le_trans (Nat.le_trans ?_ (nuQ_ge (u := u) (e := e) (lo := lo) (hi := 23))) snmu_ge
  unfold stA
  rw [muQ_1]
  exact blQ_ge
theorem stZ_ge {n : Nat → Int32} {u : Nat → Nat} {e : Nat} : ∀ (f lo c : Nat) (rd : Nat → Int32) (q : Q4), q.1 ≤ (stZ n u e f lo c rd q).2.1
  | 0, _, _, _, _ => Nat.le_refl _
  | f + 1, lo, c, rd, q => by
    have hC := stC_ge (n := n) (u := u) (e := e) (lo := lo) (c := c) (q := q)
    by_cases h1 : (stC n u e lo c q).2.2.1 = -1
    · by_cases h2 : (blQ u e (stC n u e lo c q)).1 < e ∧ dgB u (blQ u e (stC n u e lo c q)).1 = true
      · rw [stZ_more h1 h2]
        exact Nat.le_trans hC (Nat.le_trans blQ_ge (stZ_ge f _ _ _ _))
      · rw [stZ_end h1 h2]
        exact Nat.le_trans hC blQ_ge
    · rw [stZ_bad h1]
      exact hC
theorem rtR_ge {n rd : Nat → Int32} {x : Nat} {u : Nat → Nat} {e : Nat} {q : Q4} : q.1 ≤ (rtR n rd x u e q).1 := by
  have hs : (rtM n x q).1 = q.1 := by unfold rtM; rw [muQ_1]
  have hb : q.1 ≤ (rtB n x u e q).1 := by rw [← hs]; exact nuQ_ge
  unfold rtR
  split
  · unfold rtZ
    refine Nat.le_trans hb (Nat.le_trans ?_ (stZ_ge _ _ _ _ _))
    rw [rtD_1]
    exact Nat.le_refl _
  · exact hb
theorem lnX_ge {n rd : Nat → Int32} {u : Nat → Nat} {e : Nat} {q : Q4} : q.1 ≤ (lnX n rd u e q).2.2.1 := by
  have h0 : q.1 ≤ (tkQ u e 0 q).1 := tkQ_ge
  have h1 : q.1 ≤ (tkQ u e 1 (tkQ u e 0 q)).1 := Nat.le_trans h0 tkQ_ge
  have h2 : q.1 ≤ (tkQ u e 2 (tkQ u e 1 (tkQ u e 0 q))).1 := Nat.le_trans h1 tkQ_ge
  have h3 : q.1 ≤ (tkQ u e 3 (tkQ u e 2 (tkQ u e 1 (tkQ u e 0 q)))).1 := Nat.le_trans h2 tkQ_ge
  have h4 : q.1 ≤ (tkQ u e 4 (tkQ u e 3 (tkQ u e 2 (tkQ u e 1 (tkQ u e 0 q))))).1 := Nat.le_trans h3 tkQ_ge
  have h5 : q.1 ≤ (tkQ u e 5 (tkQ u e 4 (tkQ u e 3 (tkQ u e 2 (tkQ u e 1 (tkQ u e 0 q)))))).1 := Nat.le_trans h4 tkQ_ge
  unfold lnX
  split
  · exact Nat.le_trans h0 plR_ge
  split
  · exact Nat.le_trans h1 plR_ge
  split
  · exact Nat.le_trans h2 crR_ge
  split
  · exact Nat.le_trans h3 rtR_ge
  split
  · exact Nat.le_trans h4 nuQ_ge
  split
  · exact Nat.le_trans h5 ltR_ge
  · rw [muQ_1]
    exact h5
/-- behind a good line it stands further on -/
theorem ed_ok {u : Nat → Nat} {e : Nat} {q : Q4} (h : q.1 ≤ e) (he : e ≤ 900) (hf : (edQ u e q).2.2.1 = -1) : q.2.2.1 = -1 ∧ q.1 < (edQ u e q).1 ∧ (edQ u e q).1 ≤ e ∧ (edQ u e q).2.1 = (edQ u e q).1 := by
  have hf2 : (edM u e q).2.2.1 = -1 := by
    unfold edQ at hf
    rw [blQ_f] at hf
    exact hf
  obtain ⟨h1, h2, h3, -⟩ := edM_ok h he hf2
  have h4 : q.1 ≤ (edM u e q).1 := by rw [h2]; exact blQ_ge
  have h5 : (edM u e q).1 + 1 ≤ (edQ u e q).1 := blQ_ge (u := u) (e := e) (q := ((edM u e q).1 + 1, (edM u e q).2))
  refine ⟨h3, by omega, blQ_le (q := ((edM u e q).1 + 1, (edM u e q).2)) h1, ?_⟩
  unfold edQ
  rw [bl_1 (q := ((edM u e q).1 + 1, (edM u e q).2)) hf2]
/-- the lines -/
def ldZ (u : Nat → Nat) (e : Nat) : Nat → (Nat → Int32) → (Nat → Int32) → Q4 → (Nat → Int32) × (Nat → Int32) × Q4
  | 0, n, rd, q => (n, rd, q)
  | f + 1, n, rd, q => if q.2.2.1 = -1 ∧ q.1 < e then ldZ u e f (lnX n rd u e q).1 (lnX n rd u e q).2.1 (edQ u e (lnX n rd u e q).2.2) else (n, rd, q)
theorem ldZ_on {u : Nat → Nat} {e f : Nat} {n rd : Nat → Int32} {q : Q4} (h : q.2.2.1 = -1 ∧ q.1 < e) : ldZ u e (f + 1) n rd q = ldZ u e f (lnX n rd u e q).1 (lnX n rd u e q).2.1 (edQ u e (lnX n rd u e q).2.2) := by
  conv => lhs; unfold ldZ
  rw [if_pos h]
theorem ldZ_off {u : Nat → Nat} {e f : Nat} {n rd : Nat → Int32} {q : Q4} (h : ¬ (q.2.2.1 = -1 ∧ q.1 < e)) : ldZ u e f n rd q = (n, rd, q) := by
  cases f with
  | zero => rfl
  | succ f => unfold ldZ; rw [if_neg h]
