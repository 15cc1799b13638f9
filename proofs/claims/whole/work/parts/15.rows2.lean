theorem w_acn : Cond.native arraycopyName ∈ WT := wt 545 (by decide +kernel) (by decide +kernel)
theorem w_acs : Cond.static arraycopyName ∈ WT := wt 544 (by decide +kernel) (by decide +kernel)
theorem w_aci : Cond.initialized "java/lang/System" ∈ WT := wt 127 (by decide +kernel) (by decide +kernel)
theorem w_mi : Cond.initialized "java/lang/Math" ∈ WT := wt 118 (by decide +kernel) (by decide +kernel)
theorem w_mins : Cond.static Lib.Math.min.name ∈ WT := wt 602 (by decide +kernel) (by decide +kernel)
theorem w_minc : Cond.code Lib.Math.min.name Lib.Math.min.code 2 (some .int) ∈ WT := wt 603 (by decide +kernel) (by decide +kernel)
theorem w_maxs : Cond.static Lib.Math.max.name ∈ WT := wt 605 (by decide +kernel) (by decide +kernel)
theorem w_maxc : Cond.code Lib.Math.max.name Lib.Math.max.code 2 (some .int) ∈ WT := wt 606 (by decide +kernel) (by decide +kernel)
theorem ml_X8_56 : Cond.methodLink RX8 56 arraycopyName ∈ WT := wt 543 (by decide +kernel) (by decide +kernel)
theorem ml_X2_46 : Cond.methodLink RX2 46 arraycopyName ∈ WT := wt 550 (by decide +kernel) (by decide +kernel)
theorem ml_X6_22 : Cond.methodLink RX6 22 arraycopyName ∈ WT := wt 555 (by decide +kernel) (by decide +kernel)
theorem ml_X4_22 : Cond.methodLink RX4 22 arraycopyName ∈ WT := wt 560 (by decide +kernel) (by decide +kernel)
theorem ml_X9_37 : Cond.methodLink RX9 37 arraycopyName ∈ WT := wt 836 (by decide +kernel) (by decide +kernel)
theorem arrV_ext {cI : ClassId} {N : Nat} {f g : Nat → Value} (h : ∀ j, j < N → f j = g j) : arrV cI N f = arrV cI N g := by
  have e : (Array.ofFn (n := N) fun j => f j.val) = Array.ofFn (n := N) fun j => g j.val := by
    congr 1
    funext j
    exact h j.val j.isLt
  simp only [arrV, e]
section R2
variable {G : GG} {base : Nat} {X : Cx} {cc : ByteArray} {own : String} {nL : Nat} {ret : Option FieldType} {d mc ms : Nat} {post : Ot → Mm → Prop} {cs sl : Nat} {M : Mm} {pc : Nat} {ls : List (Option Value)} {st : List Value}
/-- a whole row of ints is copied -/
theorem r_copy (hX : okX G base X cc own nL ret d mc ms post) {idx a0 a N : Nat} {n : Int32} (hd : decode cc pc = .ok (.invokestatic idx, 3)) (hl9 : Cond.methodLink own idx arraycopyName ∈ WT) (hs0 : mS M a0 = some (12, N)) (hs1 : mS M a = some (12, N)) (hn : n.toNatClampNeg = N) (h3 : ¬ n < 0) (h1d : 1 ≤ d) (hlen : ls.length = nL) (hW : (st.map fun v => v.category).sum + (nativeFrameWords "java/lang/System" "arraycopy" 5 + 11) ≤ 64 * d)
    (k : J G base X cs sl (uA M a (mI M a0)) (pc + 3) ls st) : J G base X cs sl M pc ls (.int n :: .int 0 :: .ref a :: .int 0 :: .ref a0 :: st) := by
  obtain ⟨p, l, e, R, s, m, args, below, meth, c, Q⟩ := X
  obtain ⟨hx, hb, hml, hown, hts, hamb, hlk, hst, hr, hR, hQ, hout⟩ := hX
  intro H locs lsA hM hS hl
  subst hR
  have nn : ∀ z : Int32, ¬ z < 0 → z.toInt = (z.toNatClampNeg : Int) := by
    intro z hz
    have hz0 : (0 : Int) ≤ z.toInt := by
      have := Int32.not_lt.mp hz
      simpa using Int32.le_iff_toInt_le.mp this
    show z.toInt = ((z.toInt.toNat : Nat) : Int)
    omega
  intro T hT X9
  have hc0 : H[a0]? = some (vp_cell (G.2.1 12) (N, .inl (mI M a0))) := hM.at hs0 ent_i 0 _ rfl
  have hc1 : H[a]? = some (vp_cell (G.2.1 12) (N, .inl (mI M a))) := hM.at hs1 ent_i 0 _ rfl
  obtain ⟨-, k0, hk0, cm0, hkk0⟩ := (hamb.1.2 0 _ rfl).1 N (fun j => .int (mI M a0 j))
  obtain ⟨-, k1, hk1, cm1, hkk1⟩ := (hamb.1.2 0 _ rfl).1 N (fun j => .int (mI M a j))
  have h40 : (0 : Int32).toNatClampNeg + n.toNatClampNeg ≤ N := by rw [hn]; show 0 + N ≤ N; omega
  have z0 : ((0 : Int32)).toNatClampNeg = 0 := rfl
  have t0 : ((0 : Int32)).toInt = 0 := rfl
  obtain ⟨vm', X', step⟩ := X9.arraycopy hx hown (hts _ hl9) (hts _ w_acn) (hts _ w_acs) (hts _ w_aci) (src := a0) (dst := a) (cs := vp_cell (G.2.1 12) (N, .inl (mI M a0))) (cd := vp_cell (G.2.1 12) (N, .inl (mI M a))) (srcPos := 0) (destPos := 0) (n := n) (by rw [hT]; exact hc0) (by rw [hT]; exact hc1)
    (fun _ h => by cases h) (fun _ h => by cases h) (fun h => by cases h) (fun h => by cases h) hk0 hk1 hkk0 hkk1 (by simp [refKind]) (by decide) (by decide) h3
    (by rw [t0, nn n h3]; show ¬ _ > ((arrV (G.2.1 12) N (fun j => .int (mI M a0 j))).slots.size : Int); rw [arrV_size]; omega)
    (by rw [t0, nn n h3]; show ¬ _ > ((arrV (G.2.1 12) N (fun j => .int (mI M a j))).slots.size : Int); rw [arrV_size]; omega)
    (fun vm₁ _ i hi => by
      have e : (vp_cell (G.2.1 12) (N, .inl (mI M a0))).slots.getD ((0 : Int32).toNatClampNeg + i) .null = .int (mI M a0 ((0 : Int32).toNatClampNeg + i)) := by
        show (arrV (G.2.1 12) N (fun j => .int (mI M a0 j))).slots.getD _ _ = _
        rw [Array.getD_eq_getD_getElem?, arrV_read _ _ (by omega)]
        rfl
      refine ⟨?_, ?_⟩
      · rw [e]
        rfl
      · rw [e]
        exact trivial)
    (g := F0 m pc lsA (.int n :: .int 0 :: .ref a :: .int 0 :: .ref a0 :: st)) rfl (by rw [hml]; exact hl.1.trans hlen) (rest := st) rfl (by rw [hb]; exact hd) h1d (by show 2 * 0 + _ + _ ≤ 64 * d; omega)
  have e1 : copied (vp_cell (G.2.1 12) (N, .inl (mI M a0))) (vp_cell (G.2.1 12) (N, .inl (mI M a))) 0 0 n = vp_cell (G.2.1 12) (N, .inl (mI M a0)) := by
    have e2 : copied (vp_cell (G.2.1 12) (N, .inl (mI M a0))) (vp_cell (G.2.1 12) (N, .inl (mI M a))) 0 0 n = vp_cell (G.2.1 12) (N, .inl (va_cpy (mI M a0) (mI M a) (0 : Int32).toNatClampNeg (0 : Int32).toNatClampNeg n.toNatClampNeg)) := va_copied (fun z => .int z) (G.2.1 12) (G.2.1 12) (mI M a0) (mI M a) h40
    rw [e2]
    rw [vp_cell_i, vp_cell_i]
    refine arrV_ext fun j hj => ?_
    have : va_cpy (mI M a0) (mI M a) (0 : Int32).toNatClampNeg (0 : Int32).toNatClampNeg n.toNatClampNeg j = mI M a0 j := by
      rw [z0, hn]
      simp [va_cpy, hj]
    rw [this]
  rw [e1] at X' step
  have hl2 : a < H.size := (Array.getElem?_eq_some_iff.mp hc1).1
  have hheap : ((T.setVm vm').setCell a (vp_cell (G.2.1 12) (N, .inl (mI M a0)))).heap = H.setIfInBounds a (vp_cell (G.2.1 12) (N, .inl (mI M a0))) := by rw [← hT]; rfl
  have oq : ∀ q : Nat, q ≠ a → (H.setIfInBounds a (vp_cell (G.2.1 12) (N, .inl (mI M a0))))[q]? = H[q]? := fun q hq => by simp [Array.getElem?_setIfInBounds, Ne.symm hq]
  have hba := (hM.1 a _ hs1).1
  obtain ⟨t, a1, b1⟩ := k _ (locs ++ _) lsA (hM.upd (M' := uA M a (mI M a0)) (e := .inl (G.2.1 12, N, .inl (mI M a0))) hs1 (fun _ => rfl) rfl (fun b hb9 => ⟨rfl, by funext j; simp [mI_uA, hb9], rfl⟩) (by
      show ent G (12, N) _ _ _ = _
      rw [ent_i]
      have e9 : mI (uA M a (mI M a0)) a = mI M a0 := by funext j; simp [mI_uA]
      rw [e9]) (show (H.setIfInBounds a _)[a]? = some _ by simp [Array.getElem?_setIfInBounds, hl2]) (by simp) oq) ⟨by simp; exact hS.1, fun q g1 g2 => by
      rw [oq q (fun e => g2 (by rw [e]; exact hba))]
      exact hS.2.1 q g1 g2, fun q hq => by
      rcases List.mem_append.mp hq with h | h
      · exact hS.2.2 q h
      · obtain ⟨z, -, hz⟩ := List.mem_map.mp h
        rw [← hz]
        exact hba⟩ hl _ hheap X'
  exact ⟨t, step t a1, b1⟩
theorem r_mmin (hX : okX G base X cc own nL ret d mc ms post) {idx : Nat} {x y : Int32} (hd : decode cc pc = .ok (.invokestatic idx, 3)) (hl9 : Cond.methodLink own idx yJ9_min_7cf53 ∈ WT) (hlen : ls.length = nL) (hW : 1 ≤ d ∧ (st.map fun v => v.category).sum + 13 ≤ 64 * d ∧ cs ≤ mc ∧ sl ≤ ms) (k : J G base X cs sl M (pc + 3) ls (.int (if y < x then y else x) :: st)) : J G base X cs sl M pc ls (.int y :: .int x :: st) := by
  obtain ⟨p, l, e, R, s, m, args, below, meth, c, Q⟩ := X
  obtain ⟨hx, hb, hml, hown, hts, hamb, hlk, hst, hr, hR, hQ, hout⟩ := hX
  intro H locs lsA hM hS hl
  subst hR
  exact va_mmin hx hb (hml.trans (hl.1.trans hlen).symm) hown (hts _ hl9) (hts _ w_mins) (hts _ w_mi) (hts _ w_minc) hW.1 hW.2.1 hW.2.2.1 hW.2.2.2 hd (k H locs lsA hM hS hl)
theorem r_mmax (hX : okX G base X cc own nL ret d mc ms post) {idx : Nat} {x y : Int32} (hd : decode cc pc = .ok (.invokestatic idx, 3)) (hl9 : Cond.methodLink own idx yJ9_max_7cf53 ∈ WT) (hlen : ls.length = nL) (hW : 1 ≤ d ∧ (st.map fun v => v.category).sum + 13 ≤ 64 * d ∧ cs ≤ mc ∧ sl ≤ ms) (k : J G base X cs sl M (pc + 3) ls (.int (if x < y then y else x) :: st)) : J G base X cs sl M pc ls (.int y :: .int x :: st) := by
  obtain ⟨p, l, e, R, s, m, args, below, meth, c, Q⟩ := X
  obtain ⟨hx, hb, hml, hown, hts, hamb, hlk, hst, hr, hR, hQ, hout⟩ := hX
  intro H locs lsA hM hS hl
  subst hR
  exact va_mmax hx hb (hml.trans (hl.1.trans hlen).symm) hown (hts _ hl9) (hts _ w_maxs) (hts _ w_mi) (hts _ w_maxc) hW.1 hW.2.1 hW.2.2.1 hW.2.2.2 hd (k H locs lsA hM hS hl)
/-- .. named by what it was at the start -/
theorem rn_copy (hX : okX G base X cc own nL ret d mc ms post) {idx a0 a N : Nat} {n : Int32} {f : Nat → Int32} (hd : decode cc pc = .ok (.invokestatic idx, 3)) (hl9 : Cond.methodLink own idx arraycopyName ∈ WT) (hs0 : mS M a0 = some (12, N)) (hs1 : mS M a = some (12, N)) (hf : mI M a0 = f) (hn : n.toNatClampNeg = N) (h3 : ¬ n < 0) (h1d : 1 ≤ d) (hlen : ls.length = nL) (hW : (st.map fun v => v.category).sum + (nativeFrameWords "java/lang/System" "arraycopy" 5 + 11) ≤ 64 * d)
    (k : J G base X cs sl (uA M a f) (pc + 3) ls st) : J G base X cs sl M pc ls (.int n :: .int 0 :: .ref a :: .int 0 :: .ref a0 :: st) := by
  subst hf
  exact r_copy hX hd hl9 hs0 hs1 hn h3 h1d hlen hW k
end R2
