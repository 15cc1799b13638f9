variable {G : GG} {base : Nat}
theorem i_ring (a b c d : Int32) : a - b - c = a + d - c - (d + b) := by
  apply Int32.toBitVec_inj.1
  simp only [Int32.toBitVec_sub, Int32.toBitVec_add]
  generalize a.toBitVec = a
  generalize b.toBitVec = b
  generalize c.toBitVec = c
  generalize d.toBitVec = d
  bv_omega
theorem nx_xor (a b : Nat) : nI a ^^^ nI b = nI (a ^^^ b) := by
  apply Int32.toBitVec_inj.1
  show BitVec.ofNat 32 a ^^^ BitVec.ofNat 32 b = BitVec.ofNat 32 (a ^^^ b)
  apply BitVec.eq_of_getLsbD_eq
  intro i hi
  simp [hi]
theorem fm60 : ∀ k, k < 59 → (nI (k + 1) - nI 60) - (nI (k + 1) - nI 60) / nI 60 * nI 60 = nI (k + 1) - nI 60 ∧ ¬ 0 ≤ (nI (k + 1) - nI 60) ^^^ nI 60 ∧ ¬ nI (k + 1) - nI 60 = 0 ∧ (nI (k + 1) - nI 60) + nI 60 = nI (k + 1) := by decide +kernel
/-- a block is copied: what is said of its inside, and that nothing else changes -/
abbrev outB (i' i : Nat → Nat → Int32) (a n : Nat) : Prop := ∀ x, (x < a ∨ a + n ≤ x) → ∀ k, i' x k = i x k
def cpL (i' i : Nat → Nat → Int32) (a b : Nat) : Prop := i' a 0 = i b 0 ∧ (∀ o, 1 ≤ o → o ≤ 10 → ∀ k, i' (a + o) k = i (b + o) k) ∧ outB i' i a 11
def cpR (i' i : Nat → Nat → Int32) (a b : Nat) : Prop := i' a 0 = i b 0 ∧ i' a 1 = i b 1 ∧ (∀ k, i' (a + 1) k = i (b + 1) k) ∧ outB i' i a 2
def cpK (i' i : Nat → Nat → Int32) (a b : Nat) : Prop := i' a 0 = i b 0 ∧ (∀ k, i' (a + 1) k = i (b + 1) k) ∧ (∀ k, i' (a + 2) k = i (b + 2) k) ∧ outB i' i a 3
def cpS (i' i : Nat → Nat → Int32) (a b : Nat) : Prop := (∀ k, k < 4 → i' a k = i b k) ∧ (∀ k, i' (a + 1) k = i (b + 1) k) ∧ i' (a + 2) 0 = i (b + 2) 0 ∧ (∀ o, 1 ≤ o → o ≤ 10 → ∀ k, i' (a + 2 + o) k = i (b + 2 + o) k) ∧
  i' (a + 13) 0 = i (b + 13) 0 ∧ i' (a + 13) 1 = i (b + 13) 1 ∧ (∀ k, i' (a + 13 + 1) k = i (b + 13 + 1) k) ∧ i' (a + 15) 0 = i (b + 15) 0 ∧ (∀ k, i' (a + 15 + 1) k = i (b + 15 + 1) k) ∧ (∀ k, i' (a + 15 + 2) k = i (b + 15 + 2) k) ∧ outB i' i a 18
set_option maxHeartbeats 2000000 in
set_option maxRecDepth 20000 in
theorem t_fmod {a b : Nat} (ha : a < 2147483648) (hb : 0 < b) (hb2 : b < 2147483648) {M : Mm} : Ct G base YJ9_floorMod_7cf53 1 0 0 [.int (nI a), .int (nI b)] M (rE (some (.int (nI (a % b)))) M) := by
  refine Ct.of IJ9_floorMod_7cf53.1 (by simp [Value.category]) (Nat.le_of_ble_eq_true rfl) (fun X hX hN => ?_)
  show J G base X 0 0 M 0 [some (.int (nI a)), some (.int (nI b)), none] []
  refine r_iload_n hX dJ9_floorMod_7cf53_0 rfl ?_
  refine r_iload_n hX dJ9_floorMod_7cf53_1 rfl ?_
  refine rn_irem hX dJ9_floorMod_7cf53_2 rfl rfl ⟨hb, hb2⟩ ha ?_
  refine r_istore2 hX dJ9_floorMod_7cf53_3 rfl ?_
  refine r_iload_n hX dJ9_floorMod_7cf53_4 rfl ?_
  refine r_iload_n hX dJ9_floorMod_7cf53_5 rfl ?_
  refine r_ixor hX dJ9_floorMod_7cf53_6 ?_
  refine r_if_ge (tgt := 18) hX dJ9_floorMod_7cf53_7 (by decide) (fun c7 => ?_) (fun c7 => absurd (by rw [nx_xor]; exact nI_pos' (Nat.xor_lt_two_pow (n := 31) ha hb2)) c7)
  refine r_iload_n hX dJ9_floorMod_7cf53_18 rfl ?_
  refine r_ireturn hX rfl rfl dJ9_floorMod_7cf53_19 (by decide) (by decide) ?_
  exact ⟨rfl, rfl⟩
set_option maxHeartbeats 2000000 in
set_option maxRecDepth 20000 in
theorem t_fmod60s {k : Nat} (hk : k < 59) {M : Mm} : Ct G base YJ9_floorMod_7cf53 1 0 0 [.int (nI (k + 1) - nI 60), .int (nI 60)] M (rE (some (.int (nI (k + 1)))) M) := by
  refine Ct.of IJ9_floorMod_7cf53.1 (by simp [Value.category]) (Nat.le_of_ble_eq_true rfl) (fun X hX hN => ?_)
  show J G base X 0 0 M 0 [some (.int (nI (k + 1) - nI 60)), some (.int (nI 60)), none] []
  obtain ⟨f1, f2, f3, f4⟩ := fm60 k hk
  refine r_iload_n hX dJ9_floorMod_7cf53_0 rfl ?_
  refine r_iload_n hX dJ9_floorMod_7cf53_1 rfl ?_
  refine r_irem hX dJ9_floorMod_7cf53_2 (by decide) ?_
  rw [f1]
  refine r_istore2 hX dJ9_floorMod_7cf53_3 rfl ?_
  refine r_iload_n hX dJ9_floorMod_7cf53_4 rfl ?_
  refine r_iload_n hX dJ9_floorMod_7cf53_5 rfl ?_
  refine r_ixor hX dJ9_floorMod_7cf53_6 ?_
  refine r_if_ge (tgt := 18) hX dJ9_floorMod_7cf53_7 (by decide) (fun c7 => absurd c7 f2) (fun c7 => ?_)
  refine r_iload_n hX dJ9_floorMod_7cf53_10 rfl ?_
  refine r_if_eq (tgt := 18) hX dJ9_floorMod_7cf53_11 (by decide) (fun c11 => absurd c11 f3) (fun c11 => ?_)
  refine r_iload_n hX dJ9_floorMod_7cf53_14 rfl ?_
  refine r_iload_n hX dJ9_floorMod_7cf53_15 rfl ?_
  refine r_iadd hX dJ9_floorMod_7cf53_16 ?_
  refine r_ireturn hX rfl rfl dJ9_floorMod_7cf53_17 (by decide) (by decide) ?_
  exact ⟨by rw [f4], rfl⟩
set_option maxHeartbeats 2000000 in
set_option maxRecDepth 20000 in
theorem t_fmod600 {M : Mm} : Ct G base YJ9_floorMod_7cf53 1 0 0 [.int (nI 0 - nI 60), .int (nI 60)] M (rE (some (.int (nI 0))) M) := by
  refine Ct.of IJ9_floorMod_7cf53.1 (by simp [Value.category]) (Nat.le_of_ble_eq_true rfl) (fun X hX hN => ?_)
  show J G base X 0 0 M 0 [some (.int (nI 0 - nI 60)), some (.int (nI 60)), none] []
  refine r_iload_n hX dJ9_floorMod_7cf53_0 rfl ?_
  refine r_iload_n hX dJ9_floorMod_7cf53_1 rfl ?_
  refine r_irem hX dJ9_floorMod_7cf53_2 (by decide) ?_
  rw [show nI 0 - nI 60 - (nI 0 - nI 60) / nI 60 * nI 60 = nI 0 from by decide +kernel]
  refine r_istore2 hX dJ9_floorMod_7cf53_3 rfl ?_
  refine r_iload_n hX dJ9_floorMod_7cf53_4 rfl ?_
  refine r_iload_n hX dJ9_floorMod_7cf53_5 rfl ?_
  refine r_ixor hX dJ9_floorMod_7cf53_6 ?_
  refine r_if_ge (tgt := 18) hX dJ9_floorMod_7cf53_7 (by decide) (fun c7 => absurd c7 (by decide +kernel)) (fun c7 => ?_)
  refine r_iload_n hX dJ9_floorMod_7cf53_10 rfl ?_
  refine r_if_eq (tgt := 18) hX dJ9_floorMod_7cf53_11 (by decide) (fun c11 => ?_) (fun c11 => absurd rfl c11)
  refine r_iload_n hX dJ9_floorMod_7cf53_18 rfl ?_
  refine r_ireturn hX rfl rfl dJ9_floorMod_7cf53_19 (by decide) (by decide) ?_
  exact ⟨rfl, rfl⟩
theorem t_fmod60 {k : Nat} (hk : k < 60) {M : Mm} : Ct G base YJ9_floorMod_7cf53 1 0 0 [.int (nI k - nI 60), .int (nI 60)] M (rE (some (.int (nI k))) M) := by
  cases k with
  | zero => exact t_fmod600
  | succ k => exact t_fmod60s (by omega)
set_option maxHeartbeats 2000000 in
set_option maxRecDepth 20000 in
theorem t_X2_copyFrom {M : Mm} {a b : Nat} (hL : LX2 M.1 M.2.1 a) (hL2 : LX2 M.1 M.2.1 b) (hd : a + 11 ≤ b ∨ b + 11 ≤ a) : Ct G base YX2_copyFrom 1 0 0 [.ref a, .ref b] M (rI none M (fun i => cpL i (mI M) a b)) := by
  refine Ct.of IX2_copyFrom.1 (by simp [Value.category]) (Nat.le_of_ble_eq_true rfl) (fun X hX hN => ?_)
  show J G base X 0 0 M 0 [some (.ref a), some (.ref b)] []
  refine r_aload_n hX dX2_copyFrom_0 rfl ?_
  refine r_aload_n hX dX2_copyFrom_1 rfl ?_
  refine r_geti hX dX2_copyFrom_2 fl_X2_9 rfl (LX2_s hL2) ?_
  refine r_puti hX dX2_copyFrom_5 fl_X2_9 rfl rfl (LX2_s hL) ?_
  refine r_aload_n hX dX2_copyFrom_8 rfl ?_
  refine r_getr hX dX2_copyFrom_9 fl_X2_15 rfl (LX2_s hL2) (LX2_r1 hL2) ?_
  refine r_iconst (v := 0) hX dX2_copyFrom_12 (by decide) ?_
  refine r_aload_n hX dX2_copyFrom_13 rfl ?_
  refine r_getr hX dX2_copyFrom_14 fl_X2_15 rfl (LX2_s hL) (LX2_r1 hL) ?_
  refine r_iconst (v := 0) hX dX2_copyFrom_17 (by decide) ?_
  refine r_bipush (v := 30) hX dX2_copyFrom_18 (by decide) ?_
  refine rn_copy (f := mI M (b + 1)) hX dX2_copyFrom_20 ml_X2_46 (LX2_a1 hL2) (LX2_a1 hL) (funext fun j => by simp only [mI_uA, mI_uI]; repeat rw [if_neg (by omega)]) rfl (by decide) (by decide) rfl (Nat.le_of_ble_eq_true rfl) ?_
  refine r_aload_n hX dX2_copyFrom_23 rfl ?_
  refine r_getr hX dX2_copyFrom_24 fl_X2_19 rfl (LX2_s hL2) (LX2_r2 hL2) ?_
  refine r_iconst (v := 0) hX dX2_copyFrom_27 (by decide) ?_
  refine r_aload_n hX dX2_copyFrom_28 rfl ?_
  refine r_getr hX dX2_copyFrom_29 fl_X2_19 rfl (LX2_s hL) (LX2_r2 hL) ?_
  refine r_iconst (v := 0) hX dX2_copyFrom_32 (by decide) ?_
  refine r_bipush (v := 30) hX dX2_copyFrom_33 (by decide) ?_
  refine rn_copy (f := mI M (b + 2)) hX dX2_copyFrom_35 ml_X2_46 (LX2_a2 hL2) (LX2_a2 hL) (funext fun j => by simp only [mI_uA, mI_uI]; repeat rw [if_neg (by omega)]) rfl (by decide) (by decide) rfl (Nat.le_of_ble_eq_true rfl) ?_
  refine r_aload_n hX dX2_copyFrom_38 rfl ?_
  refine r_getr hX dX2_copyFrom_39 fl_X2_22 rfl (LX2_s hL2) (LX2_r3 hL2) ?_
  refine r_iconst (v := 0) hX dX2_copyFrom_42 (by decide) ?_
  refine r_aload_n hX dX2_copyFrom_43 rfl ?_
  refine r_getr hX dX2_copyFrom_44 fl_X2_22 rfl (LX2_s hL) (LX2_r3 hL) ?_
  refine r_iconst (v := 0) hX dX2_copyFrom_47 (by decide) ?_
  refine r_bipush (v := 30) hX dX2_copyFrom_48 (by decide) ?_
  refine rn_copy (f := mI M (b + 3)) hX dX2_copyFrom_50 ml_X2_46 (LX2_a3 hL2) (LX2_a3 hL) (funext fun j => by simp only [mI_uA, mI_uI]; repeat rw [if_neg (by omega)]) rfl (by decide) (by decide) rfl (Nat.le_of_ble_eq_true rfl) ?_
  refine r_aload_n hX dX2_copyFrom_53 rfl ?_
  refine r_getr hX dX2_copyFrom_54 fl_X2_25 rfl (LX2_s hL2) (LX2_r4 hL2) ?_
  refine r_iconst (v := 0) hX dX2_copyFrom_57 (by decide) ?_
  refine r_aload_n hX dX2_copyFrom_58 rfl ?_
  refine r_getr hX dX2_copyFrom_59 fl_X2_25 rfl (LX2_s hL) (LX2_r4 hL) ?_
  refine r_iconst (v := 0) hX dX2_copyFrom_62 (by decide) ?_
  refine r_bipush (v := 30) hX dX2_copyFrom_63 (by decide) ?_
  refine rn_copy (f := mI M (b + 4)) hX dX2_copyFrom_65 ml_X2_46 (LX2_a4 hL2) (LX2_a4 hL) (funext fun j => by simp only [mI_uA, mI_uI]; repeat rw [if_neg (by omega)]) rfl (by decide) (by decide) rfl (Nat.le_of_ble_eq_true rfl) ?_
  refine r_aload_n hX dX2_copyFrom_68 rfl ?_
  refine r_getr hX dX2_copyFrom_69 fl_X2_28 rfl (LX2_s hL2) (LX2_r5 hL2) ?_
  refine r_iconst (v := 0) hX dX2_copyFrom_72 (by decide) ?_
  refine r_aload_n hX dX2_copyFrom_73 rfl ?_
  refine r_getr hX dX2_copyFrom_74 fl_X2_28 rfl (LX2_s hL) (LX2_r5 hL) ?_
  refine r_iconst (v := 0) hX dX2_copyFrom_77 (by decide) ?_
  refine r_bipush (v := 30) hX dX2_copyFrom_78 (by decide) ?_
  refine rn_copy (f := mI M (b + 5)) hX dX2_copyFrom_80 ml_X2_46 (LX2_a5 hL2) (LX2_a5 hL) (funext fun j => by simp only [mI_uA, mI_uI]; repeat rw [if_neg (by omega)]) rfl (by decide) (by decide) rfl (Nat.le_of_ble_eq_true rfl) ?_
  refine r_aload_n hX dX2_copyFrom_83 rfl ?_
  refine r_getr hX dX2_copyFrom_84 fl_X2_31 rfl (LX2_s hL2) (LX2_r6 hL2) ?_
  refine r_iconst (v := 0) hX dX2_copyFrom_87 (by decide) ?_
  refine r_aload_n hX dX2_copyFrom_88 rfl ?_
  refine r_getr hX dX2_copyFrom_89 fl_X2_31 rfl (LX2_s hL) (LX2_r6 hL) ?_
  refine r_iconst (v := 0) hX dX2_copyFrom_92 (by decide) ?_
  refine r_bipush (v := 30) hX dX2_copyFrom_93 (by decide) ?_
  refine rn_copy (f := mI M (b + 6)) hX dX2_copyFrom_95 ml_X2_46 (LX2_a6 hL2) (LX2_a6 hL) (funext fun j => by simp only [mI_uA, mI_uI]; repeat rw [if_neg (by omega)]) rfl (by decide) (by decide) rfl (Nat.le_of_ble_eq_true rfl) ?_
  refine r_aload_n hX dX2_copyFrom_98 rfl ?_
  refine r_getr hX dX2_copyFrom_99 fl_X2_34 rfl (LX2_s hL2) (LX2_r7 hL2) ?_
  refine r_iconst (v := 0) hX dX2_copyFrom_102 (by decide) ?_
  refine r_aload_n hX dX2_copyFrom_103 rfl ?_
  refine r_getr hX dX2_copyFrom_104 fl_X2_34 rfl (LX2_s hL) (LX2_r7 hL) ?_
  refine r_iconst (v := 0) hX dX2_copyFrom_107 (by decide) ?_
  refine r_bipush (v := 30) hX dX2_copyFrom_108 (by decide) ?_
  refine rn_copy (f := mI M (b + 7)) hX dX2_copyFrom_110 ml_X2_46 (LX2_a7 hL2) (LX2_a7 hL) (funext fun j => by simp only [mI_uA, mI_uI]; repeat rw [if_neg (by omega)]) rfl (by decide) (by decide) rfl (Nat.le_of_ble_eq_true rfl) ?_
  refine r_aload_n hX dX2_copyFrom_113 rfl ?_
  refine r_getr hX dX2_copyFrom_114 fl_X2_37 rfl (LX2_s hL2) (LX2_r8 hL2) ?_
  refine r_iconst (v := 0) hX dX2_copyFrom_117 (by decide) ?_
  refine r_aload_n hX dX2_copyFrom_118 rfl ?_
  refine r_getr hX dX2_copyFrom_119 fl_X2_37 rfl (LX2_s hL) (LX2_r8 hL) ?_
  refine r_iconst (v := 0) hX dX2_copyFrom_122 (by decide) ?_
  refine r_bipush (v := 30) hX dX2_copyFrom_123 (by decide) ?_
  refine rn_copy (f := mI M (b + 8)) hX dX2_copyFrom_125 ml_X2_46 (LX2_a8 hL2) (LX2_a8 hL) (funext fun j => by simp only [mI_uA, mI_uI]; repeat rw [if_neg (by omega)]) rfl (by decide) (by decide) rfl (Nat.le_of_ble_eq_true rfl) ?_
  refine r_aload_n hX dX2_copyFrom_128 rfl ?_
  refine r_getr hX dX2_copyFrom_129 fl_X2_40 rfl (LX2_s hL2) (LX2_r9 hL2) ?_
  refine r_iconst (v := 0) hX dX2_copyFrom_132 (by decide) ?_
  refine r_aload_n hX dX2_copyFrom_133 rfl ?_
  refine r_getr hX dX2_copyFrom_134 fl_X2_40 rfl (LX2_s hL) (LX2_r9 hL) ?_
  refine r_iconst (v := 0) hX dX2_copyFrom_137 (by decide) ?_
  refine r_bipush (v := 30) hX dX2_copyFrom_138 (by decide) ?_
  refine rn_copy (f := mI M (b + 9)) hX dX2_copyFrom_140 ml_X2_46 (LX2_a9 hL2) (LX2_a9 hL) (funext fun j => by simp only [mI_uA, mI_uI]; repeat rw [if_neg (by omega)]) rfl (by decide) (by decide) rfl (Nat.le_of_ble_eq_true rfl) ?_
  refine r_aload_n hX dX2_copyFrom_143 rfl ?_
  refine r_getr hX dX2_copyFrom_144 fl_X2_43 rfl (LX2_s hL2) (LX2_r10 hL2) ?_
  refine r_iconst (v := 0) hX dX2_copyFrom_147 (by decide) ?_
  refine r_aload_n hX dX2_copyFrom_148 rfl ?_
  refine r_getr hX dX2_copyFrom_149 fl_X2_43 rfl (LX2_s hL) (LX2_r10 hL) ?_
  refine r_iconst (v := 0) hX dX2_copyFrom_152 (by decide) ?_
  refine r_bipush (v := 30) hX dX2_copyFrom_153 (by decide) ?_
  refine rn_copy (f := mI M (b + 10)) hX dX2_copyFrom_155 ml_X2_46 (LX2_a10 hL2) (LX2_a10 hL) (funext fun j => by simp only [mI_uA, mI_uI]; repeat rw [if_neg (by omega)]) rfl (by decide) (by decide) rfl (Nat.le_of_ble_eq_true rfl) ?_
  refine r_return hX rfl dX2_copyFrom_158 (by decide) (by decide) ?_
  refine ⟨rfl, _, rfl, ?_, fun o h1 h2 k => ?_, fun x hx k => ?_⟩
  · show mI (uA _ _ _) a 0 = _
    simp only [mI_uA, mI_uI]
    repeat rw [if_neg (by omega)]
    rfl
  · show mI (uA _ _ _) (a + o) k = _
    rcases (show o = 1 ∨ o = 2 ∨ o = 3 ∨ o = 4 ∨ o = 5 ∨ o = 6 ∨ o = 7 ∨ o = 8 ∨ o = 9 ∨ o = 10 by omega) with rfl | rfl | rfl | rfl | rfl | rfl | rfl | rfl | rfl | rfl
    all_goals
      simp only [mI_uA, mI_uI]
      repeat rw [if_neg (by omega)]
      rw [if_pos trivial]
  · show mI (uA _ _ _) x k = _
    simp only [mI_uA, mI_uI]
    repeat rw [if_neg (by omega)]
set_option maxHeartbeats 2000000 in
set_option maxRecDepth 20000 in
theorem t_X6_copyFrom {M : Mm} {a b : Nat} (hL : LX6 M.1 M.2.1 a) (hL2 : LX6 M.1 M.2.1 b) (hd : a + 2 ≤ b ∨ b + 2 ≤ a) : Ct G base YX6_copyFrom 1 0 0 [.ref a, .ref b] M (rI none M (fun i => cpR i (mI M) a b)) := by
  refine Ct.of IX6_copyFrom.1 (by simp [Value.category]) (Nat.le_of_ble_eq_true rfl) (fun X hX hN => ?_)
  show J G base X 0 0 M 0 [some (.ref a), some (.ref b)] []
  refine r_aload_n hX dX6_copyFrom_0 rfl ?_
  refine r_aload_n hX dX6_copyFrom_1 rfl ?_
  refine r_geti hX dX6_copyFrom_2 fl_X6_9 rfl (LX6_s hL2) ?_
  refine r_puti hX dX6_copyFrom_5 fl_X6_9 rfl rfl (LX6_s hL) ?_
  refine r_aload_n hX dX6_copyFrom_8 rfl ?_
  refine r_aload_n hX dX6_copyFrom_9 rfl ?_
  refine rn_geti (v := mI M b 1) hX dX6_copyFrom_10 fl_X6_15 rfl (LX6_s hL2) (by simp only [mI_uI]; rw [if_neg (by omega)]) ?_
  refine r_puti hX dX6_copyFrom_13 fl_X6_15 rfl rfl (LX6_s hL) ?_
  refine r_aload_n hX dX6_copyFrom_16 rfl ?_
  refine r_getr hX dX6_copyFrom_17 fl_X6_18 rfl (LX6_s hL2) (LX6_r2 hL2) ?_
  refine r_iconst (v := 0) hX dX6_copyFrom_20 (by decide) ?_
  refine r_aload_n hX dX6_copyFrom_21 rfl ?_
  refine r_getr hX dX6_copyFrom_22 fl_X6_18 rfl (LX6_s hL) (LX6_r2 hL) ?_
  refine r_iconst (v := 0) hX dX6_copyFrom_25 (by decide) ?_
  refine r_sipush (v := 300) hX dX6_copyFrom_26 (by decide) ?_
  refine rn_copy (f := mI M (b + 1)) hX dX6_copyFrom_29 ml_X6_22 (LX6_a2 hL2) (LX6_a2 hL) (funext fun j => by simp only [mI_uA, mI_uI]; repeat rw [if_neg (by omega)]) rfl (by decide) (by decide) rfl (Nat.le_of_ble_eq_true rfl) ?_
  refine r_return hX rfl dX6_copyFrom_32 (by decide) (by decide) ?_
  refine ⟨rfl, _, rfl, ?_, ?_, fun k => ?_, fun x hx k => ?_⟩
  · show mI (uA _ _ _) a 0 = _
    simp [mI_uA, mI_uI]
  · show mI (uA _ _ _) a 1 = _
    simp [mI_uA, mI_uI]
  · show mI (uA _ _ _) (a + 1) k = _
    simp [mI_uA, mI_uI]
  · show mI (uA _ _ _) x k = _
    simp only [mI_uA, mI_uI]
    repeat rw [if_neg (by omega)]
set_option maxHeartbeats 2000000 in
set_option maxRecDepth 20000 in
theorem t_X4_copyFrom {M : Mm} {a b : Nat} (hL : LX4 M.1 M.2.1 a) (hL2 : LX4 M.1 M.2.1 b) (hd : a + 3 ≤ b ∨ b + 3 ≤ a) : Ct G base YX4_copyFrom 1 0 0 [.ref a, .ref b] M (rI none M (fun i => cpK i (mI M) a b)) := by
  refine Ct.of IX4_copyFrom.1 (by simp [Value.category]) (Nat.le_of_ble_eq_true rfl) (fun X hX hN => ?_)
  show J G base X 0 0 M 0 [some (.ref a), some (.ref b)] []
  refine r_aload_n hX dX4_copyFrom_0 rfl ?_
  refine r_aload_n hX dX4_copyFrom_1 rfl ?_
  refine r_geti hX dX4_copyFrom_2 fl_X4_9 rfl (LX4_s hL2) ?_
  refine r_puti hX dX4_copyFrom_5 fl_X4_9 rfl rfl (LX4_s hL) ?_
  refine r_aload_n hX dX4_copyFrom_8 rfl ?_
  refine r_getr hX dX4_copyFrom_9 fl_X4_15 rfl (LX4_s hL2) (LX4_r1 hL2) ?_
  refine r_iconst (v := 0) hX dX4_copyFrom_12 (by decide) ?_
  refine r_aload_n hX dX4_copyFrom_13 rfl ?_
  refine r_getr hX dX4_copyFrom_14 fl_X4_15 rfl (LX4_s hL) (LX4_r1 hL) ?_
  refine r_iconst (v := 0) hX dX4_copyFrom_17 (by decide) ?_
  refine r_bipush (v := 30) hX dX4_copyFrom_18 (by decide) ?_
  refine rn_copy (f := mI M (b + 1)) hX dX4_copyFrom_20 ml_X4_22 (LX4_a1 hL2) (LX4_a1 hL) (funext fun j => by simp only [mI_uA, mI_uI]; repeat rw [if_neg (by omega)]) rfl (by decide) (by decide) rfl (Nat.le_of_ble_eq_true rfl) ?_
  refine r_aload_n hX dX4_copyFrom_23 rfl ?_
  refine r_getr hX dX4_copyFrom_24 fl_X4_19 rfl (LX4_s hL2) (LX4_r2 hL2) ?_
  refine r_iconst (v := 0) hX dX4_copyFrom_27 (by decide) ?_
  refine r_aload_n hX dX4_copyFrom_28 rfl ?_
  refine r_getr hX dX4_copyFrom_29 fl_X4_19 rfl (LX4_s hL) (LX4_r2 hL) ?_
  refine r_iconst (v := 0) hX dX4_copyFrom_32 (by decide) ?_
  refine r_bipush (v := 30) hX dX4_copyFrom_33 (by decide) ?_
  refine rn_copy (f := mI M (b + 2)) hX dX4_copyFrom_35 ml_X4_22 (LX4_a2 hL2) (LX4_a2 hL) (funext fun j => by simp only [mI_uA, mI_uI]; repeat rw [if_neg (by omega)]) rfl (by decide) (by decide) rfl (Nat.le_of_ble_eq_true rfl) ?_
  refine r_return hX rfl dX4_copyFrom_38 (by decide) (by decide) ?_
  refine ⟨rfl, _, rfl, ?_, fun k => ?_, fun k => ?_, fun x hx k => ?_⟩
  · show mI (uA _ _ _) a 0 = _
    simp [mI_uA, mI_uI]
  · show mI (uA _ _ _) (a + 1) k = _
    simp [mI_uA, mI_uI]
  · show mI (uA _ _ _) (a + 2) k = _
    simp [mI_uA, mI_uI]
  · show mI (uA _ _ _) x k = _
    simp only [mI_uA, mI_uI]
    repeat rw [if_neg (by omega)]
set_option maxHeartbeats 2000000 in
set_option maxRecDepth 20000 in
theorem t_X8_copyFrom {M : Mm} {a b : Nat} (hL : LX8 M.1 M.2.1 a) (hL2 : LX8 M.1 M.2.1 b) (hd : a + 18 ≤ b ∨ b + 18 ≤ a) : Ct G base YX8_copyFrom 2 0 0 [.ref a, .ref b] M (rI none M (fun i => cpS i (mI M) a b)) := by
  refine Ct.of IX8_copyFrom.1 (by simp [Value.category]) (Nat.le_of_ble_eq_true rfl) (fun X hX hN => ?_)
  show J G base X 0 0 M 0 [some (.ref a), some (.ref b)] []
  refine r_aload_n hX dX8_copyFrom_0 rfl ?_
  refine r_aload_n hX dX8_copyFrom_1 rfl ?_
  refine r_geti hX dX8_copyFrom_2 fl_X8_9 rfl (LX8_s hL2) ?_
  refine r_puti hX dX8_copyFrom_5 fl_X8_9 rfl rfl (LX8_s hL) ?_
  refine r_aload_n hX dX8_copyFrom_8 rfl ?_
  refine r_aload_n hX dX8_copyFrom_9 rfl ?_
  refine rn_geti (v := mI M b 1) hX dX8_copyFrom_10 fl_X8_15 rfl (LX8_s hL2) (by simp only [mI_uI]; repeat rw [if_neg (by omega)]) ?_
  refine r_puti hX dX8_copyFrom_13 fl_X8_15 rfl rfl (LX8_s hL) ?_
  refine r_aload_n hX dX8_copyFrom_16 rfl ?_
  refine r_aload_n hX dX8_copyFrom_17 rfl ?_
  refine rn_geti (v := mI M b 2) hX dX8_copyFrom_18 fl_X8_18 rfl (LX8_s hL2) (by simp only [mI_uI]; repeat rw [if_neg (by omega)]) ?_
  refine r_puti hX dX8_copyFrom_21 fl_X8_18 rfl rfl (LX8_s hL) ?_
  refine r_aload_n hX dX8_copyFrom_24 rfl ?_
  refine r_aload_n hX dX8_copyFrom_25 rfl ?_
  refine rn_geti (v := mI M b 3) hX dX8_copyFrom_26 fl_X8_21 rfl (LX8_s hL2) (by simp only [mI_uI]; repeat rw [if_neg (by omega)]) ?_
  refine r_puti hX dX8_copyFrom_29 fl_X8_21 rfl rfl (LX8_s hL) ?_
  refine r_aload_n hX dX8_copyFrom_32 rfl ?_
  refine r_getr hX dX8_copyFrom_33 fl_X8_24 rfl (LX8_s hL2) (LX8_r4 hL2) ?_
  refine r_iconst (v := 0) hX dX8_copyFrom_36 (by decide) ?_
  refine r_aload_n hX dX8_copyFrom_37 rfl ?_
  refine r_getr hX dX8_copyFrom_38 fl_X8_24 rfl (LX8_s hL) (LX8_r4 hL) ?_
  refine r_iconst (v := 0) hX dX8_copyFrom_41 (by decide) ?_
  refine r_iconst (v := 5) hX dX8_copyFrom_42 (by decide) ?_
  refine rn_copy (f := mI M (b + 1)) hX dX8_copyFrom_43 ml_X8_56 (LX8_a4 hL2) (LX8_a4 hL) (funext fun j => by simp only [mI_uA, mI_uI]; repeat rw [if_neg (by omega)]) rfl (by decide) (by decide) rfl (Nat.le_of_ble_eq_true rfl) ?_
  refine J.gen (M0 := M) rfl (fun i0 h0 => ?_)
  simp only [mI_uA, mI_uI] at h0
  refine r_aload_n hX dX8_copyFrom_46 rfl ?_
  refine r_getr hX dX8_copyFrom_47 fl_X8_31 rfl (LX8_s hL) (LX8_r5 hL) ?_
  refine r_aload_n hX dX8_copyFrom_50 rfl ?_
  refine r_getr hX dX8_copyFrom_51 fl_X8_31 rfl (LX8_s hL2) (LX8_r5 hL2) ?_
  refine r_iV1 hX dX8_copyFrom_54 IX2_copyFrom ml_X8_62 rfl (LX2_s (LX8_o5 hL)) rfl (t_X2_copyFrom (LX8_o5 hL) (LX8_o5 hL2) (by omega)) (by decide) (by decide) (by decide) (by decide) rfl (Nat.le_of_ble_eq_true rfl) (fun i1 h1 => ?_)
  show J G base X 0 0 (wI M i1) _ _ []
  refine r_aload_n hX dX8_copyFrom_57 rfl ?_
  refine r_getr hX dX8_copyFrom_58 fl_X8_38 rfl (LX8_s hL) (LX8_r6 hL) ?_
  refine r_aload_n hX dX8_copyFrom_61 rfl ?_
  refine r_getr hX dX8_copyFrom_62 fl_X8_38 rfl (LX8_s hL2) (LX8_r6 hL2) ?_
  refine r_iV1 hX dX8_copyFrom_65 IX6_copyFrom ml_X8_66 rfl (LX6_s (LX8_o6 hL)) rfl (t_X6_copyFrom (LX8_o6 hL) (LX8_o6 hL2) (by omega)) (by decide) (by decide) (by decide) (by decide) rfl (Nat.le_of_ble_eq_true rfl) (fun i2 h2 => ?_)
  show J G base X 0 0 (wI M i2) _ _ []
  refine r_aload_n hX dX8_copyFrom_68 rfl ?_
  refine r_getr hX dX8_copyFrom_69 fl_X8_45 rfl (LX8_s hL) (LX8_r7 hL) ?_
  refine r_aload_n hX dX8_copyFrom_72 rfl ?_
  refine r_getr hX dX8_copyFrom_73 fl_X8_45 rfl (LX8_s hL2) (LX8_r7 hL2) ?_
  refine r_iV1 hX dX8_copyFrom_76 IX4_copyFrom ml_X8_69 rfl (LX4_s (LX8_o7 hL)) rfl (t_X4_copyFrom (LX8_o7 hL) (LX8_o7 hL2) (by omega)) (by decide) (by decide) (by decide) (by decide) rfl (Nat.le_of_ble_eq_true rfl) (fun i3 h3 => ?_)
  show J G base X 0 0 (wI M i3) _ _ []
  refine r_return hX rfl dX8_copyFrom_79 (by decide) (by decide) ?_
  obtain ⟨p1, p2, p3⟩ := h1
  obtain ⟨q1, q2, q3, q4⟩ := h2
  obtain ⟨s1, s2, s3, s4⟩ := h3
  simp only [outB, mI_wI] at p1 p2 p3 q1 q2 q3 q4 s1 s2 s3 s4
  have e0 : ∀ k, k < 4 → i0 a k = mI M b k := fun k hk => by
    rw [h0]
    rcases (show k = 0 ∨ k = 1 ∨ k = 2 ∨ k = 3 by omega) with rfl | rfl | rfl | rfl <;> simp
  have eb : ∀ x, (x < a ∨ a + 2 ≤ x) → ∀ k, i0 x k = mI M x k := fun x hx k => by
    rw [h0]
    repeat rw [if_neg (by omega)]
  refine ⟨rfl, i3, rfl, fun k hk => ?_, fun k => ?_, ?_, fun o g1 g2 k => ?_, ?_, ?_, fun k => ?_, ?_, fun k => ?_, fun k => ?_, fun x hx k => ?_⟩
  · rw [s4 _ (by omega), q4 _ (by omega), p3 _ (by omega), e0 k hk]
  · rw [s4 _ (by omega), q4 _ (by omega), p3 _ (by omega), h0, if_pos rfl]
  · rw [s4 _ (by omega), q4 _ (by omega), p1, eb _ (by omega)]
  · rw [s4 _ (by omega), q4 _ (by omega), p2 o g1 g2, eb _ (by omega)]
  · rw [s4 _ (by omega), q1, p3 _ (by omega), eb _ (by omega)]
  · rw [s4 _ (by omega), q2, p3 _ (by omega), eb _ (by omega)]
  · rw [s4 _ (by omega), q3, p3 _ (by omega), eb _ (by omega)]
  · rw [s1, q4 _ (by omega), p3 _ (by omega), eb _ (by omega)]
  · rw [s2, q4 _ (by omega), p3 _ (by omega), eb _ (by omega)]
  · rw [s3, q4 _ (by omega), p3 _ (by omega), eb _ (by omega)]
  · rw [s4 _ (by omega), q4 _ (by omega), p3 _ (by omega), eb _ (by omega)]
set_option maxHeartbeats 2000000 in
set_option maxRecDepth 20000 in
theorem t_X6_clear {M : Mm} {a : Nat} (hL : LX6 M.1 M.2.1 a) : Ct G base YX6_clear 1 0 0 [.ref a] M (rE none (uI (uI M a 0 0) a 1 0)) := by
  refine Ct.of IX6_clear.1 (by simp [Value.category]) (Nat.le_of_ble_eq_true rfl) (fun X hX hN => ?_)
  show J G base X 0 0 M 0 [some (.ref a)] []
  refine r_aload_n hX dX6_clear_0 rfl ?_
  refine r_iconst (v := 0) hX dX6_clear_1 (by decide) ?_
  refine r_puti hX dX6_clear_2 fl_X6_9 rfl rfl (LX6_s hL) ?_
  refine r_aload_n hX dX6_clear_5 rfl ?_
  refine r_iconst (v := 0) hX dX6_clear_6 (by decide) ?_
  refine r_puti hX dX6_clear_7 fl_X6_15 rfl rfl (LX6_s hL) ?_
  refine r_return hX rfl dX6_clear_10 (by decide) (by decide) ?_
  exact ⟨rfl, rfl⟩
/-- a receipt more, in the ring: x its place, k how many are kept -/
def wrR (M : Mm) (a x k : Nat) (hr lt kd cr pl : Int32) : Mm := uI (uI (uI (uI (uI (uI (uI M (a + 1) (x * 5) hr) (a + 1) (x * 5 + 1) lt) (a + 1) (x * 5 + 2) kd) (a + 1) (x * 5 + 3) cr) (a + 1) (x * 5 + 4) pl) a 1 (nI (if x + 1 < 60 then x + 1 else 0))) a 0 (nI (if k + 1 < 60 then k + 1 else 60))
set_option maxHeartbeats 2000000 in
set_option maxRecDepth 20000 in
theorem t_X6_write {M : Mm} {a : Nat} (hL : LX6 M.1 M.2.1 a) {x k : Nat} (hx : mI M a 1 = nI x) (hx60 : x < 60) (hk : mI M a 0 = nI k) (hk60 : k ≤ 60) {hr lt kd cr pl : Int32} : Ct G base YX6_write 2 0 0 [.ref a, .int hr, .int lt, .int kd, .int cr, .int pl] M (rE none (wrR M a x k hr lt kd cr pl)) := by
  refine Ct.of IX6_write.1 (by simp [Value.category]) (Nat.le_of_ble_eq_true rfl) (fun X hX hN => ?_)
  show J G base X 0 0 M 0 [some (.ref a), some (.int hr), some (.int lt), some (.int kd), some (.int cr), some (.int pl), none] []
  refine r_aload_n hX dX6_write_0 rfl ?_
  refine rn_geti hX dX6_write_1 fl_X6_15 rfl (LX6_s hL) hx ?_
  refine rn_if_lt (tgt := 16) hX dX6_write_4 (by decide) rfl (by omega) ?_
  refine r_aload_n hX dX6_write_7 rfl ?_
  refine rn_geti hX dX6_write_8 fl_X6_15 rfl (LX6_s hL) hx ?_
  refine r_bipush (v := nI 60) hX dX6_write_11 (by decide) ?_
  refine rn_icmp_lt (tgt := 17) hX dX6_write_13 (by decide) rfl rfl (by omega) (by omega) (fun c13 => ?_) (fun c13 => absurd hx60 (by omega))
  refine r_aload_n hX dX6_write_17 rfl ?_
  refine rn_geti hX dX6_write_18 fl_X6_15 rfl (LX6_s hL) hx ?_
  refine r_iconst (v := nI 5) hX dX6_write_21 (by decide) ?_
  refine rn_imul hX dX6_write_22 rfl rfl ?_
  refine r_istore6 hX dX6_write_23 rfl ?_
  refine r_aload_n hX dX6_write_25 rfl ?_
  refine r_getr hX dX6_write_26 fl_X6_18 rfl (LX6_s hL) (LX6_r2 hL) ?_
  refine r_iload hX dX6_write_29 rfl ?_
  refine r_iload_n hX dX6_write_31 rfl ?_
  refine rn_iast hX dX6_write_32 (LX6_a2 hL) rfl (by decide) (by omega) ?_
  refine r_aload_n hX dX6_write_33 rfl ?_
  refine r_getr hX dX6_write_34 fl_X6_18 rfl (LX6_s hL) (LX6_r2 hL) ?_
  refine r_iload hX dX6_write_37 rfl ?_
  refine r_iconst (v := nI 1) hX dX6_write_39 (by decide) ?_
  refine rn_iadd hX dX6_write_40 rfl rfl ?_
  refine r_iload_n hX dX6_write_41 rfl ?_
  refine rn_iast hX dX6_write_42 (LX6_a2 hL) rfl (by decide) (by omega) ?_
  refine r_aload_n hX dX6_write_43 rfl ?_
  refine r_getr hX dX6_write_44 fl_X6_18 rfl (LX6_s hL) (LX6_r2 hL) ?_
  refine r_iload hX dX6_write_47 rfl ?_
  refine r_iconst (v := nI 2) hX dX6_write_49 (by decide) ?_
  refine rn_iadd hX dX6_write_50 rfl rfl ?_
  refine r_iload_n hX dX6_write_51 rfl ?_
  refine rn_iast hX dX6_write_52 (LX6_a2 hL) rfl (by decide) (by omega) ?_
  refine r_aload_n hX dX6_write_53 rfl ?_
  refine r_getr hX dX6_write_54 fl_X6_18 rfl (LX6_s hL) (LX6_r2 hL) ?_
  refine r_iload hX dX6_write_57 rfl ?_
  refine r_iconst (v := nI 3) hX dX6_write_59 (by decide) ?_
  refine rn_iadd hX dX6_write_60 rfl rfl ?_
  refine r_iload hX dX6_write_61 rfl ?_
  refine rn_iast hX dX6_write_63 (LX6_a2 hL) rfl (by decide) (by omega) ?_
  refine r_aload_n hX dX6_write_64 rfl ?_
  refine r_getr hX dX6_write_65 fl_X6_18 rfl (LX6_s hL) (LX6_r2 hL) ?_
  refine r_iload hX dX6_write_68 rfl ?_
  refine r_iconst (v := nI 4) hX dX6_write_70 (by decide) ?_
  refine rn_iadd hX dX6_write_71 rfl rfl ?_
  refine r_iload hX dX6_write_72 rfl ?_
  refine rn_iast hX dX6_write_74 (LX6_a2 hL) rfl (by decide) (by omega) ?_
  refine r_aload_n hX dX6_write_75 rfl ?_
  refine r_aload_n hX dX6_write_76 rfl ?_
  refine rn_geti (v := nI x) hX dX6_write_77 fl_X6_15 rfl (LX6_s hL) (by simp [mI_uI, hx]) ?_
  refine r_iconst (v := nI 1) hX dX6_write_80 (by decide) ?_
  refine rn_iadd hX dX6_write_81 rfl rfl ?_
  refine r_bipush (v := nI 60) hX dX6_write_82 (by decide) ?_
  refine rn_icmp_ge (tgt := 96) hX dX6_write_84 (by decide) rfl rfl (by omega) (by omega) (fun c84 => ?_) (fun c84 => ?_)
  · refine r_iconst (v := nI 0) hX dX6_write_96 (by decide) ?_
    refine r_puti hX dX6_write_97 fl_X6_15 rfl rfl (LX6_s hL) ?_
    refine r_aload_n hX dX6_write_100 rfl ?_
    refine r_aload_n hX dX6_write_101 rfl ?_
    refine rn_geti (v := nI k) hX dX6_write_102 fl_X6_9 rfl (LX6_s hL) (by simp [mI_uI, hk]) ?_
    refine r_iconst (v := nI 1) hX dX6_write_105 (by decide) ?_
    refine rn_iadd hX dX6_write_106 rfl rfl ?_
    refine r_bipush (v := nI 60) hX dX6_write_107 (by decide) ?_
    refine r_mmin hX dX6_write_109 ml_X6_28 rfl ⟨by decide, Nat.le_of_ble_eq_true rfl, by decide, by decide⟩ ?_
    refine r_puti hX dX6_write_112 fl_X6_9 rfl rfl (LX6_s hL) ?_
    refine r_return hX rfl dX6_write_115 (by decide) (by decide) ?_
    refine ⟨rfl, ?_⟩
    have e1 : (if nI 60 < nI (k + 1) then nI 60 else nI (k + 1)) = nI (if k + 1 < 60 then k + 1 else 60) := by
      by_cases h : k + 1 < 60
      · rw [if_pos h, if_neg (fun q => absurd ((nI_ltI (by omega) (by omega)).mp q) (by omega))]
      · rw [if_neg h]
        obtain rfl | rfl : k = 59 ∨ k = 60 := by omega
        · rfl
        · rfl
    rw [e1]
    first
      | rw [wrR, if_neg (by omega : ¬ x + 1 < 60)]
      | rw [wrR, if_pos (by omega : x + 1 < 60)]
  · refine r_aload_n hX dX6_write_87 rfl ?_
    refine rn_geti (v := nI x) hX dX6_write_88 fl_X6_15 rfl (LX6_s hL) (by simp [mI_uI, hx]) ?_
    refine r_iconst (v := nI 1) hX dX6_write_91 (by decide) ?_
    refine rn_iadd hX dX6_write_92 rfl rfl ?_
    refine r_goto (tgt := 97) hX dX6_write_93 (by decide) ?_
    refine r_puti hX dX6_write_97 fl_X6_15 rfl rfl (LX6_s hL) ?_
    refine r_aload_n hX dX6_write_100 rfl ?_
    refine r_aload_n hX dX6_write_101 rfl ?_
    refine rn_geti (v := nI k) hX dX6_write_102 fl_X6_9 rfl (LX6_s hL) (by simp [mI_uI, hk]) ?_
    refine r_iconst (v := nI 1) hX dX6_write_105 (by decide) ?_
    refine rn_iadd hX dX6_write_106 rfl rfl ?_
    refine r_bipush (v := nI 60) hX dX6_write_107 (by decide) ?_
    refine r_mmin hX dX6_write_109 ml_X6_28 rfl ⟨by decide, Nat.le_of_ble_eq_true rfl, by decide, by decide⟩ ?_
    refine r_puti hX dX6_write_112 fl_X6_9 rfl rfl (LX6_s hL) ?_
    refine r_return hX rfl dX6_write_115 (by decide) (by decide) ?_
    refine ⟨rfl, ?_⟩
    have e1 : (if nI 60 < nI (k + 1) then nI 60 else nI (k + 1)) = nI (if k + 1 < 60 then k + 1 else 60) := by
      by_cases h : k + 1 < 60
      · rw [if_pos h, if_neg (fun q => absurd ((nI_ltI (by omega) (by omega)).mp q) (by omega))]
      · rw [if_neg h]
        obtain rfl | rfl : k = 59 ∨ k = 60 := by omega
        · rfl
        · rfl
    rw [e1]
    first
      | rw [wrR, if_neg (by omega : ¬ x + 1 < 60)]
      | rw [wrR, if_pos (by omega : x + 1 < 60)]
set_option maxHeartbeats 2000000 in
set_option maxRecDepth 20000 in
theorem t_X6_part {M : Mm} {a : Nat} (hL : LX6 M.1 M.2.1 a) {x k g w : Nat} (hx : mI M a 1 = nI x) (hx60 : x < 60) (hk : mI M a 0 = nI k) (hk60 : k ≤ 60) (hg : g < k) (hw : w < 5) : Ct G base YX6_part 2 0 0 [.ref a, .int (nI g), .int (nI w)] M (rE (some (.int (mI M (a + 1) ((if g + 1 ≤ x then x - 1 - g else x + 59 - g) * 5 + w)))) M) := by
  refine Ct.of IX6_part.1 (by simp [Value.category]) (Nat.le_of_ble_eq_true rfl) (fun X hX hN => ?_)
  show J G base X 0 0 M 0 [some (.ref a), some (.int (nI g)), some (.int (nI w))] []
  refine r_iload_n hX dX6_part_0 rfl ?_
  refine rn_if_lt (tgt := 21) hX dX6_part_1 (by decide) rfl (by omega) ?_
  refine r_iload_n hX dX6_part_4 rfl ?_
  refine r_aload_n hX dX6_part_5 rfl ?_
  refine rn_geti hX dX6_part_6 fl_X6_9 rfl (LX6_s hL) hk ?_
  refine rn_icmp_ge (tgt := 21) hX dX6_part_9 (by decide) rfl rfl (by omega) (by omega) (fun c9 => absurd hg (by omega)) (fun c9 => ?_)
  refine r_iload_n hX dX6_part_12 rfl ?_
  refine rn_if_lt (tgt := 21) hX dX6_part_13 (by decide) rfl (by omega) ?_
  refine r_iload_n hX dX6_part_16 rfl ?_
  refine r_iconst (v := nI 5) hX dX6_part_17 (by decide) ?_
  refine rn_icmp_lt (tgt := 23) hX dX6_part_18 (by decide) rfl rfl (by omega) (by omega) (fun c18 => ?_) (fun c18 => absurd hw (by omega))
  refine r_aload_n hX dX6_part_23 rfl ?_
  refine r_getr hX dX6_part_24 fl_X6_18 rfl (LX6_s hL) (LX6_r2 hL) ?_
  refine r_aload_n hX dX6_part_27 rfl ?_
  refine rn_geti hX dX6_part_28 fl_X6_15 rfl (LX6_s hL) hx ?_
  refine r_iconst (v := nI 1) hX dX6_part_31 (by decide) ?_
  refine r_isub hX dX6_part_32 ?_
  refine r_iload_n hX dX6_part_33 rfl ?_
  refine r_isub hX dX6_part_34 ?_
  refine r_bipush (v := nI 60) hX dX6_part_35 (by decide) ?_
  by_cases hgx : g + 1 ≤ x
  · rw [pk_sub (by omega : 1 ≤ x), pk_sub (by omega : g ≤ x - 1)]
    refine r_cS2 hX dX6_part_37 IJ9_floorMod_7cf53 ml_X6_34 rfl (t_fmod (a := x - 1 - g) (b := 60) (by omega) (by decide) (by decide)) (by decide) (by decide) (by decide) (by decide) rfl (Nat.le_of_ble_eq_true rfl) ?_
    rw [show (x - 1 - g) % 60 = x - 1 - g from Nat.mod_eq_of_lt (by omega)]
    refine r_iconst (v := nI 5) hX dX6_part_40 (by decide) ?_
    refine rn_imul hX dX6_part_41 rfl rfl ?_
    refine r_iload_n hX dX6_part_42 rfl ?_
    refine rn_iadd hX dX6_part_43 rfl rfl ?_
    refine rn_iald hX dX6_part_44 (LX6_a2 hL) rfl (by decide) (by omega) ?_
    refine r_ireturn hX rfl rfl dX6_part_45 (by decide) (by decide) ?_
    exact ⟨by rw [if_pos hgx], rfl⟩
  · rw [show nI x - nI 1 - nI g = nI (x + 59 - g) - nI 60 from by
        rw [← pk_sub (by omega : g ≤ x + 59), ← nI_add]
        have : nI 60 = nI 59 + nI 1 := rfl
        rw [this]
        exact i_ring _ _ _ _]
    refine r_cS2 hX dX6_part_37 IJ9_floorMod_7cf53 ml_X6_34 rfl (t_fmod60 (k := x + 59 - g) (by omega)) (by decide) (by decide) (by decide) (by decide) rfl (Nat.le_of_ble_eq_true rfl) ?_
    refine r_iconst (v := nI 5) hX dX6_part_40 (by decide) ?_
    refine rn_imul hX dX6_part_41 rfl rfl ?_
    refine r_iload_n hX dX6_part_42 rfl ?_
    refine rn_iadd hX dX6_part_43 rfl rfl ?_
    refine rn_iald hX dX6_part_44 (LX6_a2 hL) rfl (by decide) (by omega) ?_
    refine r_ireturn hX rfl rfl dX6_part_45 (by decide) (by decide) ?_
    exact ⟨by rw [if_neg hgx], rfl⟩
