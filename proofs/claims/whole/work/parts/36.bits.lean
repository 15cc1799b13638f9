variable {G : GG} {base : Nat}
theorem r_ldcw {X : Cx} {cc : ByteArray} {own : String} {nL : Nat} {ret : Option FieldType} {d mc ms : Nat} {post : Ot → Mm → Prop} {cs sl : Nat} {M : Mm} {pc : Nat} {ls : List (Option Value)} {st : List Value} (hX : okX G base X cc own nL ret d mc ms post) {idx : Nat} {v : Int32} (hd : decode cc pc = .ok (.ldc_w idx, 3)) (hw : Cond.constant own idx v ∈ WT) (k : J G base X cs sl M (pc + 3) ls (.int v :: st)) : J G base X cs sl M pc ls st := by
  obtain ⟨p, l, e, R, s, m, args, below, meth, c, Q⟩ := X
  obtain ⟨hx, hb, hml, hown, hts, hamb, hlk, hst, hr, hR, hQ, hout⟩ := hX
  intro H locs lsA hM hS hl
  exact lv_ldcw hx hb hown (hts _ hw) hd (k H locs lsA hM hS hl)
def usI (x y : Int32) : Int32 := (x.toUInt32 >>> (y.toUInt32 &&& Int32.toUInt32 31)).toInt32
def bc1 (x : Int32) : Int32 := x - (usI x 1 &&& 1431655765)
def bc2 (x : Int32) : Int32 := (x &&& 858993459) + (usI x 2 &&& 858993459)
def bc3 (x : Int32) : Int32 := (x + usI x 4) &&& 252645135
def bc4 (x : Int32) : Int32 := x + usI x 8
def bc5 (x : Int32) : Int32 := x + usI x 16
/-- how many bits are set -/
def bcI (x : Int32) : Int32 := bc5 (bc4 (bc3 (bc2 (bc1 x)))) &&& 63
theorem bc_5 : ∀ b0 b1 b2 b3 b4 : Bool, bcI (setB (gv b0 b1 b2 b3 b4) 5) = nI (cntB (gv b0 b1 b2 b3 b4) 5) := by decide +kernel
theorem bcI_5 (g : Nat → Bool) : bcI (setB g 5) = nI (cntB g 5) := by
  rw [setB_congr (fun j hj => gv_eq g hj), cntB_congr (fun j hj => gv_eq g hj)]
  exact bc_5 _ _ _ _ _
def gw (k : Nat) : Nat → Bool := fun i => k.testBit i
theorem bc_10 : ∀ k, k < 1024 → bcI (setB (gw k) 10) = nI (cntB (gw k) 10) := by decide +kernel
/-- the first k truths as a number -/
def tnB (g : Nat → Bool) : Nat → Nat
  | 0 => 0
  | k + 1 => tnB g k + (if g k = true then 2 ^ k else 0)
theorem tnB_lt (g : Nat → Bool) : ∀ k, tnB g k < 2 ^ k
  | 0 => by simp [tnB]
  | k + 1 => by
    have := tnB_lt g k
    simp only [tnB, Nat.pow_succ]
    split <;> omega
theorem tnB_bit (g : Nat → Bool) : ∀ k i, i < k → (tnB g k).testBit i = g i
  | 0, i, h => by omega
  | k + 1, i, h => by
    have hl := tnB_lt g k
    simp only [tnB]
    by_cases e : i = k
    · subst e
      cases hg : g i
      · rw [if_neg (by decide), Nat.add_zero]
        exact Nat.testBit_lt_two_pow hl
      · rw [if_pos rfl, Nat.add_comm, Nat.testBit_two_pow_add_eq, Nat.testBit_lt_two_pow hl]
        rfl
    · rw [← tnB_bit g k i (by omega)]
      split
      · rw [Nat.add_comm, Nat.testBit_two_pow_add_gt (by omega)]
      · rfl
theorem bcI_10 (g : Nat → Bool) : bcI (setB g 10) = nI (cntB g 10) := by
  rw [setB_congr (f := g) (g := gw (tnB g 10)) (fun j hj => (tnB_bit g 10 j hj).symm), cntB_congr (f := g) (g := gw (tnB g 10)) (fun j hj => (tnB_bit g 10 j hj).symm)]
  exact bc_10 _ (tnB_lt g 10)
theorem wc_265 : Cond.constant RJ6 265 1431655765 ∈ WT := wt 516 (by decide +kernel) (by decide +kernel)
theorem wc_266 : Cond.constant RJ6 266 858993459 ∈ WT := wt 517 (by decide +kernel) (by decide +kernel)
theorem wc_267 : Cond.constant RJ6 267 252645135 ∈ WT := wt 518 (by decide +kernel) (by decide +kernel)
set_option maxHeartbeats 2000000 in
set_option maxRecDepth 20000 in
theorem t_bitCount {x : Int32} {M : Mm} : Ct G base YJ6_bitCount_0f7a4 1 0 0 [.int x] M (rE (some (.int (bcI x))) M) := by
  refine Ct.of IJ6_bitCount_0f7a4.1 (by simp [Value.category]) (Nat.le_of_ble_eq_true rfl) (fun X hX hN => ?_)
  show J G base X 0 0 M 0 [some (.int x)] []
  refine r_iload_n hX dJ6_bitCount_0f7a4_0 rfl ?_
  refine r_iload_n hX dJ6_bitCount_0f7a4_1 rfl ?_
  refine r_iconst (v := 1) hX dJ6_bitCount_0f7a4_2 (by decide) ?_
  refine r_iushr hX dJ6_bitCount_0f7a4_3 ?_
  refine r_ldcw hX dJ6_bitCount_0f7a4_4 wc_265 ?_
  refine r_iand hX dJ6_bitCount_0f7a4_7 ?_
  refine r_isub hX dJ6_bitCount_0f7a4_8 ?_
  refine r_istore0 hX dJ6_bitCount_0f7a4_9 rfl ?_
  refine r_iload_n hX dJ6_bitCount_0f7a4_10 rfl ?_
  refine r_ldcw hX dJ6_bitCount_0f7a4_11 wc_266 ?_
  refine r_iand hX dJ6_bitCount_0f7a4_14 ?_
  refine r_iload_n hX dJ6_bitCount_0f7a4_15 rfl ?_
  refine r_iconst (v := 2) hX dJ6_bitCount_0f7a4_16 (by decide) ?_
  refine r_iushr hX dJ6_bitCount_0f7a4_17 ?_
  refine r_ldcw hX dJ6_bitCount_0f7a4_18 wc_266 ?_
  refine r_iand hX dJ6_bitCount_0f7a4_21 ?_
  refine r_iadd hX dJ6_bitCount_0f7a4_22 ?_
  refine r_istore0 hX dJ6_bitCount_0f7a4_23 rfl ?_
  refine r_iload_n hX dJ6_bitCount_0f7a4_24 rfl ?_
  refine r_iload_n hX dJ6_bitCount_0f7a4_25 rfl ?_
  refine r_iconst (v := 4) hX dJ6_bitCount_0f7a4_26 (by decide) ?_
  refine r_iushr hX dJ6_bitCount_0f7a4_27 ?_
  refine r_iadd hX dJ6_bitCount_0f7a4_28 ?_
  refine r_ldcw hX dJ6_bitCount_0f7a4_29 wc_267 ?_
  refine r_iand hX dJ6_bitCount_0f7a4_32 ?_
  refine r_istore0 hX dJ6_bitCount_0f7a4_33 rfl ?_
  refine r_iload_n hX dJ6_bitCount_0f7a4_34 rfl ?_
  refine r_iload_n hX dJ6_bitCount_0f7a4_35 rfl ?_
  refine r_bipush (v := 8) hX dJ6_bitCount_0f7a4_36 (by decide) ?_
  refine r_iushr hX dJ6_bitCount_0f7a4_38 ?_
  refine r_iadd hX dJ6_bitCount_0f7a4_39 ?_
  refine r_istore0 hX dJ6_bitCount_0f7a4_40 rfl ?_
  refine r_iload_n hX dJ6_bitCount_0f7a4_41 rfl ?_
  refine r_iload_n hX dJ6_bitCount_0f7a4_42 rfl ?_
  refine r_bipush (v := 16) hX dJ6_bitCount_0f7a4_43 (by decide) ?_
  refine r_iushr hX dJ6_bitCount_0f7a4_45 ?_
  refine r_iadd hX dJ6_bitCount_0f7a4_46 ?_
  refine r_istore0 hX dJ6_bitCount_0f7a4_47 rfl ?_
  refine r_iload_n hX dJ6_bitCount_0f7a4_48 rfl ?_
  refine r_bipush (v := 63) hX dJ6_bitCount_0f7a4_49 (by decide) ?_
  refine r_iand hX dJ6_bitCount_0f7a4_51 ?_
  refine r_ireturn hX rfl rfl dJ6_bitCount_0f7a4_52 (by decide) (by decide) ?_
  exact ⟨rfl, rfl⟩
