variable {G : GG} {base : Nat}
/-- the row at the beginning -/
def row0 : Nat → Int32 := fun q => if q = 5 then nI 8 else if 33 ≤ q ∧ q < 38 then nI (q - 33) else nI 0
set_option maxHeartbeats 2000000 in
set_option maxRecDepth 20000 in
theorem t_X11_begins {M : Mm} {a : Nat} (hL : LX11 M.1 M.2.1 a) : Ct G base YX11_begins 1 0 0 [.ref a] M (rI none M (fun i => (∀ q, i (a + 1) q = if q < 1158 then row0 q else mI M (a + 1) q) ∧ (∀ x, x ≠ a → x ≠ a + 1 → i x = mI M x) ∧ i a 4 = nI 0 ∧ ∀ k, k ≠ 4 → i a k = mI M a k)) := by
  refine Ct.of IX11_begins.1 (by simp [Value.category]) (Nat.le_of_ble_eq_true rfl) (fun X hX hN => ?_)
  show J G base X 0 0 M 0 [some (.ref a), none] []
  refine r_iconst (v := nI 0) hX dX11_begins_0 (by decide) ?_
  refine r_istore1 hX dX11_begins_1 rfl ?_
  show J G base X 0 0 (wI M (mI M)) 2 _ []
  refine loop_us (σ := Nat → Nat → Int32) (P := fun j i => ((∀ q, i (a + 1) q = if q < j then nI 0 else mI M (a + 1) q) ∧ ∀ x, x ≠ a + 1 → i x = mI M x) → J G base X 0 0 (wI M i) 2 [some (.ref a), some (.int (nI j))] []) 1158 (fun j i hj ih hi => ?_) 0 (mI M) (Nat.zero_le _) ⟨fun q => (if_neg (Nat.not_lt_zero _)).symm, fun _ _ => rfl⟩
  refine r_iload_n hX dX11_begins_2 rfl ?_
  refine r_sipush (v := nI 1158) hX dX11_begins_3 (by decide) ?_
  refine rn_icmp_ge (tgt := 22) hX dX11_begins_6 (by decide) rfl rfl (by omega) (by omega) (fun c6 => ?_) (fun c6 => ?_)
  · refine r_aload_n hX dX11_begins_22 rfl ?_
    refine r_getr hX dX11_begins_23 fl_X11_13 rfl (LX11_s hL) (LX11_r1 hL) ?_
    refine r_iconst (v := nI 5) hX dX11_begins_26 (by decide) ?_
    refine r_bipush (v := nI 8) hX dX11_begins_27 (by decide) ?_
    refine rn_iast hX dX11_begins_29 (LX11_a1 hL) rfl (by omega) (by omega) ?_
    refine r_iconst (v := nI 0) hX dX11_begins_30 (by decide) ?_
    refine r_istore1 hX dX11_begins_31 rfl ?_
    obtain rfl : j = 1158 := by omega
    refine loop_us (σ := Nat → Nat → Int32) (P := fun c i2 => ((∀ q, i2 (a + 1) q = if q < 1158 then (if q = 5 then nI 8 else if 33 ≤ q ∧ q < 33 + c then nI (q - 33) else nI 0) else mI M (a + 1) q) ∧ ∀ x, x ≠ a + 1 → i2 x = mI M x) → J G base X 0 0 (wI M i2) 32 [some (.ref a), some (.int (nI c))] []) 5 (fun c i2 hc ihc hi2 => ?_) 0 (mI (uI (wI M i) (a + 1) 5 (nI 8))) (Nat.zero_le _) ⟨fun q => ?_, fun x hx => (uIo hx).trans (hi.2 x hx)⟩
    rotate_left
    · rw [mI_uI, if_pos rfl]
      by_cases e : q = 5
      · rw [if_pos e, if_pos (by omega), if_pos e]
      · rw [if_neg e]
        refine (hi.1 q).trans ?_
        by_cases e2 : q < 1158
        · rw [if_pos e2, if_pos e2, if_neg e, if_neg (by omega)]
        · rw [if_neg e2, if_neg e2]
    refine r_iload_n hX dX11_begins_32 rfl ?_
    refine r_iconst (v := nI 5) hX dX11_begins_33 (by decide) ?_
    refine rn_icmp_ge (tgt := 53) hX dX11_begins_34 (by decide) rfl rfl (by omega) (by omega) (fun c34 => ?_) (fun c34 => ?_)
    · refine r_aload_n hX dX11_begins_53 rfl ?_
      refine r_iconst (v := nI 0) hX dX11_begins_54 (by decide) ?_
      refine r_puti hX dX11_begins_55 fl_X11_60 rfl rfl (LX11_s hL) ?_
      refine r_return hX rfl dX11_begins_58 (by decide) (by decide) ?_
      obtain rfl : c = 5 := by omega
      refine ⟨rfl, mI (uI (wI M i2) a 4 (nI 0)), rfl, fun q => ?_, fun x hx hy => (uIo hx).trans (hi2.2 x hy), ?_, fun k hk => ?_⟩
      · rw [uIo (by omega)]
        exact hi2.1 q
      · simp [mI_uI]
      · rw [mI_uI, if_pos rfl, if_neg hk]
        exact congrFun (hi2.2 a (by omega)) k
    · refine r_aload_n hX dX11_begins_37 rfl ?_
      refine r_getr hX dX11_begins_38 fl_X11_13 rfl (LX11_s hL) (LX11_r1 hL) ?_
      refine r_bipush (v := nI 33) hX dX11_begins_41 (by decide) ?_
      refine r_iload_n hX dX11_begins_43 rfl ?_
      refine rn_iadd hX dX11_begins_44 rfl rfl ?_
      refine r_iload_n hX dX11_begins_45 rfl ?_
      refine rn_iast hX dX11_begins_46 (LX11_a1 hL) rfl (by omega) (by omega) ?_
      refine rn_iinc1 hX dX11_begins_47 rfl rfl ?_
      refine r_goto (tgt := 32) hX dX11_begins_50 (by decide) ?_
      refine ihc (by omega) (mI (uI (wI M i2) (a + 1) (33 + c) (nI c))) ⟨fun q => ?_, fun x hx => (uIo hx).trans (hi2.2 x hx)⟩
      rw [mI_uI, if_pos rfl]
      by_cases e : q = 33 + c
      · rw [if_pos e, if_pos (by omega), if_neg (by omega), if_pos (by omega), show q - 33 = c by omega]
      · rw [if_neg e]
        refine (hi2.1 q).trans ?_
        by_cases e9 : ¬ q < 1158
        · rw [if_neg e9, if_neg e9]
        rw [if_pos (Classical.not_not.mp e9), if_pos (Classical.not_not.mp e9)]
        by_cases e5 : q = 5
        · rw [if_pos e5, if_pos e5]
        · rw [if_neg e5, if_neg e5]
          by_cases e6 : 33 ≤ q ∧ q < 33 + c
          · rw [if_pos e6, if_pos (by omega)]
          · rw [if_neg e6, if_neg (by omega)]
  · refine r_aload_n hX dX11_begins_9 rfl ?_
    refine r_getr hX dX11_begins_10 fl_X11_13 rfl (LX11_s hL) (LX11_r1 hL) ?_
    refine r_iload_n hX dX11_begins_13 rfl ?_
    refine r_iconst (v := nI 0) hX dX11_begins_14 (by decide) ?_
    refine rn_iast hX dX11_begins_15 (LX11_a1 hL) rfl (by omega) (by omega) ?_
    refine rn_iinc1 hX dX11_begins_16 rfl rfl ?_
    refine r_goto (tgt := 2) hX dX11_begins_19 (by decide) ?_
    refine ih (by omega) (mI (uI (wI M i) (a + 1) j (nI 0))) ⟨fun q => ?_, fun x hx => (uIo hx).trans (hi.2 x hx)⟩
    rw [mI_uI, if_pos rfl]
    by_cases e : q = j
    · rw [if_pos e, if_pos (by omega)]
    · rw [if_neg e]
      refine (hi.1 q).trans ?_
      by_cases e2 : q < j
      · rw [if_pos e2, if_pos (by omega)]
      · rw [if_neg e2, if_neg (by omega)]
