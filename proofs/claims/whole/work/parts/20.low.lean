variable {G : GG} {base : Nat}
set_option maxHeartbeats 2000000 in
set_option maxRecDepth 20000 in
theorem t_X10_bit {x : Int32} {M : Mm} : Ct G base YX10_bit 1 0 0 [.int x] M (rE (some (.int (bitI x))) M) := by
  refine Ct.of IX10_bit.1 (by simp [Value.category]) (Nat.le_of_ble_eq_true rfl) (fun X hX hN => ?_)
  show J G base X 0 0 M 0 [some (.int x)] []
  refine r_iload_n hX dX10_bit_0 rfl ?_
  refine r_if_lt (tgt := 10) hX dX10_bit_1 (by decide) (fun c1 => ?_) (fun c1 => ?_)
  · refine r_iconst (v := 0) hX dX10_bit_10 (by decide) ?_
    refine r_goto (tgt := 17) hX dX10_bit_11 (by decide) ?_
    refine r_ireturn hX rfl rfl dX10_bit_17 (by decide) (by decide) ?_
    exact ⟨by simp [bitI, c1], rfl⟩
  · refine r_iload_n hX dX10_bit_4 rfl ?_
    refine r_bipush (v := 30) hX dX10_bit_5 (by decide) ?_
    refine r_icmp_le (tgt := 14) hX dX10_bit_7 (by decide) (fun c7 => ?_) (fun c7 => ?_)
    · refine r_iconst (v := 1) hX dX10_bit_14 (by decide) ?_
      refine r_iload_n hX dX10_bit_15 rfl ?_
      refine r_ishl hX dX10_bit_16 ?_
      refine r_ireturn hX rfl rfl dX10_bit_17 (by decide) (by decide) ?_
      exact ⟨by simp [bitI, c1, i_nlt.mpr c7], rfl⟩
    · refine r_iconst (v := 0) hX dX10_bit_10 (by decide) ?_
      refine r_goto (tgt := 17) hX dX10_bit_11 (by decide) ?_
      refine r_ireturn hX rfl rfl dX10_bit_17 (by decide) (by decide) ?_
      exact ⟨by simp [bitI, c1, i_nle.mp c7], rfl⟩
set_option maxHeartbeats 2000000 in
set_option maxRecDepth 20000 in
theorem t_X10_has {s x : Int32} {M : Mm} : Ct G base YX10_has 1 0 0 [.int s, .int x] M (rE (some (.int (if hasP s x then 1 else 0))) M) := by
  refine Ct.of IX10_has.1 (by simp [Value.category]) (Nat.le_of_ble_eq_true rfl) (fun X hX hN => ?_)
  show J G base X 0 0 M 0 [some (.int s), some (.int x)] []
  refine r_iload_n hX dX10_has_0 rfl ?_
  refine r_if_lt (tgt := 22) hX dX10_has_1 (by decide) (fun c1 => ?_) (fun c1 => ?_)
  · refine r_iconst (v := 0) hX dX10_has_22 (by decide) ?_
    refine r_ireturn hX rfl rfl dX10_has_23 (by decide) (by decide) ?_
    exact ⟨by rw [if_neg (fun h => absurd h.1 (i_nle.mpr c1))], rfl⟩
  · refine r_iload_n hX dX10_has_4 rfl ?_
    refine r_bipush (v := 30) hX dX10_has_5 (by decide) ?_
    refine r_icmp_gt (tgt := 22) hX dX10_has_7 (by decide) (fun c7 => ?_) (fun c7 => ?_)
    · refine r_iconst (v := 0) hX dX10_has_22 (by decide) ?_
      refine r_ireturn hX rfl rfl dX10_has_23 (by decide) (by decide) ?_
      exact ⟨by rw [if_neg (fun h => absurd h.2.1 (i_nle.mpr c7))], rfl⟩
    · obtain ⟨k, hk, rfl⟩ : ∃ k : Nat, k ≤ 30 ∧ x = nI k := by
        obtain ⟨j, h1, h2⟩ := nI_of2 (x := x) (M := 30) (n := 30) rfl c1 (i_nlt.mp c7)
        exact ⟨j, h1, h2⟩
      have hz : bt s (nI k).toNatClampNeg = true → ¬ ((s >>> (nI k &&& 31)) &&& 1 = 0) := by
        rw [nI_clamp (by omega), shr1 s (by omega)]
        intro h
        rw [if_pos h]
        decide
      have hnz : ¬ ((s >>> (nI k &&& 31)) &&& 1 = 0) → bt s (nI k).toNatClampNeg = true := by
        rw [nI_clamp (by omega), shr1 s (by omega)]
        intro h
        by_cases h9 : bt s k = true
        · exact h9
        · rw [if_neg h9] at h
          exact absurd rfl h
      refine r_iload_n hX dX10_has_10 rfl ?_
      refine r_iload_n hX dX10_has_11 rfl ?_
      refine r_ishr hX dX10_has_12 ?_
      refine r_iconst (v := 1) hX dX10_has_13 (by decide) ?_
      refine r_iand hX dX10_has_14 ?_
      refine r_if_eq (tgt := 22) hX dX10_has_15 (by decide) (fun c15 => ?_) (fun c15 => ?_)
      · refine r_iconst (v := 0) hX dX10_has_22 (by decide) ?_
        refine r_ireturn hX rfl rfl dX10_has_23 (by decide) (by decide) ?_
        exact ⟨by rw [if_neg (fun h => hz h.2.2 c15)], rfl⟩
      · refine r_iconst (v := 1) hX dX10_has_18 (by decide) ?_
        refine r_goto (tgt := 23) hX dX10_has_19 (by decide) ?_
        refine r_ireturn hX rfl rfl dX10_has_23 (by decide) (by decide) ?_
        exact ⟨by rw [if_pos ⟨i_nlt.mp c1, i_nlt.mp c7, by simpa using hnz c15⟩], rfl⟩
