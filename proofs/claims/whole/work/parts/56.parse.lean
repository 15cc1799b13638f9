variable {G : GG} {base : Nat}
/-! ===== THE READER, METHOD BY METHOD ===== -/
/-- how many stand in a row -/
def rl (f : Nat → Bool) : Nat → Nat → Nat
  | 0, _ => 0
  | k + 1, p => if f p = true then rl f k (p + 1) + 1 else 0
/-- where a run from p on ends, at the latest at e -/
def eo (f : Nat → Bool) (e p : Nat) : Nat := p + rl f (e - p) p
theorem eo_step {f : Nat → Bool} {e p : Nat} (h : p < e) (hf : f p = true) : eo f e p = eo f e (p + 1) := by
  unfold eo
  obtain ⟨k, hk⟩ : ∃ k, e - p = k + 1 := ⟨e - p - 1, by omega⟩
  rw [hk, show e - (p + 1) = k by omega]
  show p + (if f p = true then rl f k (p + 1) + 1 else 0) = _
  rw [if_pos hf]
  omega
theorem eo_stop {f : Nat → Bool} {e p : Nat} (h : e ≤ p ∨ f p = false) : eo f e p = p := by
  unfold eo
  rcases h with h | h
  · rw [show e - p = 0 by omega]
    rfl
  · cases hk : e - p with
    | zero => rfl
    | succ k =>
      show p + (if f p = true then rl f k (p + 1) + 1 else 0) = p
      rw [if_neg (by rw [h]; decide)]
      rfl
theorem eo_ge {f : Nat → Bool} {e p : Nat} : p ≤ eo f e p := Nat.le_add_right _ _
theorem rl_le {f : Nat → Bool} : ∀ k p, rl f k p ≤ k
  | 0, _ => Nat.le_refl 0
  | k + 1, p => by
    unfold rl
    have := @rl_le f k (p + 1)
    split <;> omega
theorem eo_le {f : Nat → Bool} {e p : Nat} (h : p ≤ e) : eo f e p ≤ e := by
  unfold eo
  have := @rl_le f (e - p) p
  omega
theorem rl_all {f : Nat → Bool} : ∀ k p q, p ≤ q → q < p + rl f k p → f q = true
  | 0, p, q, h1, h2 => by unfold rl at h2; omega
  | k + 1, p, q, h1, h2 => by
    unfold rl at h2
    by_cases hf : f p = true
    · rw [if_pos hf] at h2
      by_cases hq : q = p
      · rw [hq]; exact hf
      · exact rl_all k (p + 1) q (by omega) (by omega)
    · rw [if_neg hf] at h2
      omega
theorem eo_all {f : Nat → Bool} {e p q : Nat} (h1 : p ≤ q) (h2 : q < eo f e p) : f q = true := rl_all _ p q h1 h2
theorem rl_end {f : Nat → Bool} : ∀ k p, rl f k p = k ∨ f (p + rl f k p) = false
  | 0, _ => Or.inl rfl
  | k + 1, p => by
    unfold rl
    by_cases hf : f p = true
    · rw [if_pos hf]
      rcases @rl_end f k (p + 1) with h | h
      · exact Or.inl (by omega)
      · exact Or.inr (by rw [show p + (rl f k (p + 1) + 1) = p + 1 + rl f k (p + 1) by omega]; exact h)
    · rw [if_neg hf]
      exact Or.inr (by simpa using hf)
theorem eo_end {f : Nat → Bool} {e p : Nat} (h : p ≤ e) : eo f e p = e ∨ f (eo f e p) = false := by
  unfold eo
  rcases @rl_end f (e - p) p with h2 | h2
  · exact Or.inl (by omega)
  · exact Or.inr h2
theorem eo_eo {f : Nat → Bool} {e p : Nat} (h : p ≤ e) : eo f e (eo f e p) = eo f e p := eo_stop (by rcases @eo_end f e p h with q | q; exact Or.inl (by omega); exact Or.inr q)
