variable {G : GG} {base : Nat}
/-- the tables' part of the reference's row is as it should be -/
def TbOk (n : Nat → Int32) : Prop := Rn n 0 10 ∧ Rn n 1 5 ∧ RtOk n
/-- the sacks: a number for each carrier, all different; who is no carrier has its own -/
def SkOk (n : Nat → Int32) : Prop := (∀ c, c < 5 → ∃ s, s < 5 ∧ n (33 + c) = nI s) ∧ (∀ c d, c < 5 → d < 5 → n (33 + c) = n (33 + d) → c = d) ∧ ∀ c, c < 5 → nv n 1 ≤ c → n (33 + c) = nI c
/-- a row of sacks -/
def KOk (K : Nat → Nat) : Prop := (∀ c, c < 5 → K c < 5) ∧ ∀ c d, c < 5 → d < 5 → K c = K d → c = d
theorem KOk.nx {K : Nat → Nat} (h : KOk K) (n : Nat → Int32) (hh : Nat) : KOk (fun c => K (nxP n hh c)) :=
  ⟨fun c hc => h.1 _ (nxP_lt hc), fun c d hc hd e => nxP_inj hc hd (h.2 _ _ (nxP_lt hc) (nxP_lt hd) e)⟩
/-- the fold of the reference's inner loop over the carriers of a group: the first, the last so far, the row -/
def swF (g : Nat → Bool) (r : Nat → Int32) : Nat → Int32 × Nat × (Nat → Int32)
  | 0 => (-1, 0, r)
  | c + 1 => if g c = true then (if (swF g r c).1 = -1 then (nI c, c, (swF g r c).2.2) else ((swF g r c).1, c, upd (upd (swF g r c).2.2 c ((swF g r c).2.2 (swF g r c).2.1)) (swF g r c).2.1 ((swF g r c).2.2 c))) else swF g r c
set_option maxHeartbeats 16000000 in
theorem swF_rot {g : Nat → Bool} {r : Nat → Int32} {c : Nat} (hc : c < 5) : (swF g r 5).2.2 c = r (nxG g c) := by
  rcases (show c = 0 ∨ c = 1 ∨ c = 2 ∨ c = 3 ∨ c = 4 by omega) with rfl | rfl | rfl | rfl | rfl
  all_goals (cases h0 : g 0 <;> cases h1 : g 1 <;> cases h2 : g 2 <;> cases h3 : g 3 <;> cases h4 : g 4 <;> simp [swF, nxG, fstG, h0, h1, h2, h3, h4, upd, nI_ne_m1, (by decide : ¬ (nI 0 = -1)), (by decide : ¬ (nI 1 = -1)), (by decide : ¬ (nI 2 = -1)), (by decide : ¬ (nI 3 = -1)), (by decide : ¬ (nI 4 = -1))])
theorem swF_more {g : Nat → Bool} {r : Nat → Int32} {k m : Nat} (hk : k ≤ m) (h : ∀ c, k ≤ c → c < m → g c = false) : swF g r m = swF g r k := by
  induction m with
  | zero => rw [show k = 0 by omega]
  | succ m ih =>
    by_cases hkm : k = m + 1
    · rw [hkm]
    · simp only [swF]
      rw [h m (by omega) (by omega), if_neg (by decide), ih (by omega) (fun c h1 h2 => h c h1 (by omega))]
theorem swF_first {g : Nat → Bool} {r : Nat → Int32} : ∀ k, k < 1000 → (swF g r k).1 = -1 ∨ ∃ j, j < k ∧ (swF g r k).1 = nI j
  | 0, _ => Or.inl rfl
  | k + 1, hk => by
    simp only [swF]
    rcases swF_first (g := g) (r := r) k (by omega) with h | ⟨j, hj, h⟩
    · split
      · exact Or.inr ⟨k, by omega, rfl⟩
      · exact Or.inl h
    · split
      · rw [h, if_neg (nI_ne_m1 (by omega))]
        exact Or.inr ⟨j, by omega, rfl⟩
      · exact Or.inr ⟨j, by omega, h⟩
theorem swF_last {g : Nat → Bool} {r : Nat → Int32} : ∀ k, ¬ (swF g r k).1 = -1 → (swF g r k).2.1 < k
  | 0, h => absurd rfl h
  | k + 1, h => by
    simp only [swF] at h ⊢
    split
    · split
      · exact Nat.lt_succ_self k
      · exact Nat.lt_succ_self k
    · rename_i hg
      rw [if_neg hg] at h
      have := swF_last k h
      omega
theorem nxPp {n : Nat → Int32} {h p c : Nat} (hc : c < 5) (hp : p < 10) (hpl : plQ n h c = 10 ∨ plQ n h c < 10) (r0 : Nat → Int32) :
    (fun c => if plQ n h c < p ∧ town n (plQ n h c) = false then r0 (nxG (grpB n h (plQ n h c)) c) else r0 c) (if town n p = false then nxG (grpB n h p) c else c) = if plQ n h c < p + 1 ∧ town n (plQ n h c) = false then r0 (nxG (grpB n h (plQ n h c)) c) else r0 c := by
  by_cases ht : town n p = false
  · rw [if_pos ht]
    by_cases hg : grpB n h p c = true
    · have hq : plQ n h c = p := by simpa [grpB] using hg
      obtain ⟨g1, g2⟩ := nxG_in hc hg
      have hq2 : plQ n h (nxG (grpB n h p) c) = p := by simpa [grpB] using g2
      show (if plQ n h (nxG (grpB n h p) c) < p ∧ _ then _ else _) = _
      rw [hq2, hq, if_neg (fun z => absurd z.1 (by omega)), if_pos ⟨by omega, ht⟩]
    · have hg2 : grpB n h p c = false := by simpa using hg
      have hq : plQ n h c ≠ p := by simpa [grpB] using hg2
      rw [nxG_out hg2]
      show (if plQ n h c < p ∧ _ then _ else _) = _
      by_cases z : plQ n h c < p
      · by_cases z2 : town n (plQ n h c) = false
        · rw [if_pos ⟨z, z2⟩, if_pos ⟨by omega, z2⟩]
        · rw [if_neg (fun q => z2 q.2), if_neg (fun q => z2 q.2)]
      · rw [if_neg (fun q => z q.1), if_neg (fun q => absurd q.1 (by omega))]
  · rw [if_neg ht]
    show (if plQ n h c < p ∧ _ then _ else _) = _
    by_cases z : plQ n h c = p
    · rw [z, if_neg (fun q => ht q.2), if_neg (fun q => ht q.2)]
    · by_cases z3 : plQ n h c < p
      · by_cases z2 : town n (plQ n h c) = false
        · rw [if_pos ⟨z3, z2⟩, if_pos ⟨by omega, z2⟩]
        · rw [if_neg (fun q => z2 q.2), if_neg (fun q => z2 q.2)]
      · rw [if_neg (fun q => z3 q.1), if_neg (fun q => absurd q.1 (by omega))]
set_option maxHeartbeats 2000000 in
set_option maxRecDepth 20000 in
theorem t_X11_copies {M : Mm} {f t Nf Nt x y : Nat} (hf : mS M f = some (12, Nf)) (ht : mS M t = some (12, Nt)) (hx : x + 1158 ≤ Nf) (hy : y + 1158 ≤ Nt) (hNf : Nf < 100000) (hNt : Nt < 100000) (hne : f ≠ t) {a : Nat} : Ct G base YX11_copies 1 0 0 [.ref a, .ref f, .int (nI x), .ref t, .int (nI y)] M (rI none M (fun i => (∀ k, i t k = if y ≤ k ∧ k < y + 1158 then mI M f (x + (k - y)) else mI M t k) ∧ ∀ z, z ≠ t → i z = mI M z)) := by
  refine Ct.of IX11_copies.1 (by simp [Value.category]) (Nat.le_of_ble_eq_true rfl) (fun X hX hN => ?_)
  show J G base X 0 0 M 0 [some (.ref a), some (.ref f), some (.int (nI x)), some (.ref t), some (.int (nI y)), none] []
  refine r_iconst (v := nI 0) hX dX11_copies_0 (by decide) ?_
  refine r_istore5 hX dX11_copies_1 rfl ?_
  show J G base X 0 0 (wI M (mI M)) 3 _ []
  refine loop_us (σ := Nat → Nat → Int32) (P := fun j i => ((∀ k, i t k = if y ≤ k ∧ k < y + j then mI M f (x + (k - y)) else mI M t k) ∧ ∀ z, z ≠ t → i z = mI M z) → J G base X 0 0 (wI M i) 3 [some (.ref a), some (.ref f), some (.int (nI x)), some (.ref t), some (.int (nI y)), some (.int (nI j))] []) 1158 (fun j i hj ih hi => ?_) 0 (mI M) (Nat.zero_le _) ⟨fun k => by rw [if_neg (by omega)], fun _ _ => rfl⟩
  refine r_iload hX dX11_copies_3 rfl ?_
  refine r_sipush (v := nI 1158) hX dX11_copies_5 (by decide) ?_
  refine rn_icmp_ge (tgt := 30) hX dX11_copies_8 (by decide) rfl rfl (by omega) (by omega) (fun c8 => ?_) (fun c8 => ?_)
  · refine r_return hX rfl dX11_copies_30 (by decide) (by decide) ?_
    obtain rfl : j = 1158 := by omega
    exact ⟨rfl, i, rfl, hi.1, hi.2⟩
  · refine r_aload_n hX dX11_copies_11 rfl ?_
    refine r_iload hX dX11_copies_12 rfl ?_
    refine r_iload hX dX11_copies_14 rfl ?_
    refine rn_iadd hX dX11_copies_16 rfl rfl ?_
    refine r_aload_n hX dX11_copies_17 rfl ?_
    refine r_iload_n hX dX11_copies_18 rfl ?_
    refine r_iload hX dX11_copies_19 rfl ?_
    refine rn_iadd hX dX11_copies_21 rfl rfl ?_
    refine rn_iald hX dX11_copies_22 hf rfl (by omega) (by omega) ?_
    refine rn_iast hX dX11_copies_23 ht rfl (by omega) (by omega) ?_
    refine J.gen (M0 := M) rfl (fun i2 h2 => ?_)
    refine rn_iinc5 hX dX11_copies_24 rfl rfl ?_
    refine r_goto (tgt := 3) hX dX11_copies_27 (by decide) ?_
    refine ih (by omega) i2 ⟨fun k => ?_, fun z hz => ?_⟩
    · rw [h2]
      simp only [mI_uI, mI_wI, if_true]
      rw [hi.2 f hne]
      by_cases hk : k = y + j
      · rw [if_pos hk, if_pos (by omega), hk, show y + j - y = j by omega]
      · rw [if_neg hk, hi.1 k]
        by_cases hk2 : y ≤ k ∧ k < y + j
        · rw [if_pos hk2, if_pos (by omega)]
        · rw [if_neg hk2, if_neg (by omega)]
    · funext k
      rw [h2]
      simp only [mI_uI, mI_wI]
      rw [if_neg hz, hi.2 z hz]
set_option maxHeartbeats 2000000 in
set_option maxRecDepth 20000 in
theorem t_X11_carrierWith {M : Mm} {a : Nat} {n : Nat → Int32} (hL : LX11 M.1 M.2.1 a) (hn : mI M (a + 1) = n) {s : Int32} (hs : ∃ c, c < 5 ∧ n (33 + c) = s) : Ct G base YX11_carrierWith 1 0 0 [.ref a, .int s] M (rE (some (.int (cwF (fun c => n (33 + c)) s 5))) M) := by
  refine Ct.of IX11_carrierWith.1 (by simp [Value.category]) (Nat.le_of_ble_eq_true rfl) (fun X hX hN => ?_)
  show J G base X 0 0 M 0 [some (.ref a), some (.int s), none] []
  refine r_iconst (v := nI 0) hX dX11_carrierWith_0 (by decide) ?_
  refine r_istore2 hX dX11_carrierWith_1 rfl ?_
  refine loop_up (P := fun j => cwF (fun c => n (33 + c)) s j = -1 → J G base X 0 0 M 2 [some (.ref a), some (.int s), some (.int (nI j))] []) 5 (fun j hj ih hno => ?_) 0 (Nat.zero_le _) rfl
  have hj5 : j < 5 := by
    obtain ⟨c, hc, hcs⟩ := hs
    rcases cwF_spec (K := fun c => n (33 + c)) (s := s) j (by omega) with ⟨-, h2⟩ | ⟨c', h1, h2, -, -⟩
    · by_cases h : c < j
      · exact absurd hcs (h2 c h)
      · omega
    · rw [hno] at h2
      exact absurd h2.symm (nI_ne_m1 (by omega))
  refine r_aload_n hX dX11_carrierWith_2 rfl ?_
  refine r_getr hX dX11_carrierWith_3 fl_X11_13 rfl (LX11_s hL) (LX11_r1 hL) ?_
  refine r_bipush (v := nI 33) hX dX11_carrierWith_6 (by decide) ?_
  refine r_iload_n hX dX11_carrierWith_8 rfl ?_
  refine rn_iadd hX dX11_carrierWith_9 rfl rfl ?_
  refine rn_iald hX dX11_carrierWith_10 (LX11_a1 hL) rfl (by omega) (by omega) ?_
  rw [hn]
  refine r_iload_n hX dX11_carrierWith_11 rfl ?_
  refine r_icmp_eq (tgt := 21) hX dX11_carrierWith_12 (by decide) (fun c12 => ?_) (fun c12 => ?_)
  · refine r_iload_n hX dX11_carrierWith_21 rfl ?_
    refine r_ireturn hX rfl rfl dX11_carrierWith_22 (by decide) (by decide) ?_
    refine ⟨?_, rfl⟩
    rw [cwF_stay (j := j) (by omega) ?_ (by omega)]
    simp only [cwF]
    rw [if_pos hno, if_pos c12]
  · refine rn_iinc2 hX dX11_carrierWith_15 rfl rfl ?_
    refine r_goto (tgt := 2) hX dX11_carrierWith_18 (by decide) ?_
    have h9 := ih hj5
    simp only [cwF] at h9
    rw [if_pos hno, if_neg c12] at h9
    exact h9 rfl
set_option maxHeartbeats 2000000 in
set_option maxRecDepth 20000 in
theorem t_X11_traces {M : Mm} {a : Nat} {n : Nat → Int32} (hL : LX11 M.1 M.2.1 a) (hn : mI M (a + 1) = n) {l c : Nat} (hl : l < 30) (hc : c < 5) : Ct G base YX11_traces 2 0 0 [.ref a, .int (nI l), .int (nI c)] M (rI none M (pN M a (upd n (498 + 10 * l + 9) (n (498 + 10 * l + 9) ||| b1 c)))) := by
  refine Ct.of IX11_traces.1 (by simp [Value.category]) (Nat.le_of_ble_eq_true rfl) (fun X hX hN => ?_)
  show J G base X 0 0 M 0 [some (.ref a), some (.int (nI l)), some (.int (nI c))] []
  refine r_aload_n hX dX11_traces_0 rfl ?_
  refine r_iload_n hX dX11_traces_1 rfl ?_
  refine r_bipush (v := nI 9) hX dX11_traces_2 (by decide) ?_
  refine r_aload_n hX dX11_traces_4 rfl ?_
  refine r_iload_n hX dX11_traces_5 rfl ?_
  refine r_bipush (v := nI 9) hX dX11_traces_6 (by decide) ?_
  refine r_cV2 hX dX11_traces_8 IX11_of ml_X11_67 rfl (LX11_s hL) rfl (t_X11_of hL hn (by omega) (by decide)) (by decide) (by decide) (by decide) (by decide) rfl (Nat.le_of_ble_eq_true rfl) ?_
  refine r_iconst (v := 1) hX dX11_traces_11 (by decide) ?_
  refine r_iload_n hX dX11_traces_12 rfl ?_
  refine r_ishl hX dX11_traces_13 ?_
  refine r_ior hX dX11_traces_14 ?_
  refine r_iV3 hX dX11_traces_15 IX11_sets ml_X11_71 rfl (LX11_s hL) rfl (t_X11_sets hL hn (by omega) (by decide)) (by decide) (by decide) (by decide) (by decide) rfl (Nat.le_of_ble_eq_true rfl) (fun i15 h15 => ?_)
  show J G base X _ _ (wI M i15) _ _ _
  have hn15 : mI (wI M i15) (a + 1) = _ := h15.1
  refine r_return hX rfl dX11_traces_18 (by decide) (by decide) ?_
  exact ⟨rfl, _, rfl, h15.1, h15.2⟩
theorem bt_or_b1 {x : Int32} {c i : Nat} (hc : c < 32) : bt (x ||| b1 c) i = (bt x i || decide (i = c)) := by rw [b_or, bt_b1 hc]
theorem b_ext0 {x y : Int32} (h : ∀ i, i < 32 → bt x i = bt y i) : x = y := b_ext h
/-- the set of those of the first k for which f holds -/
def setB (f : Nat → Bool) : Nat → Int32
  | 0 => 0
  | k + 1 => setB f k ||| (if f k = true then b1 k else 0)
theorem bt_setB (f : Nat → Bool) {i : Nat} : ∀ k, k ≤ 32 → bt (setB f k) i = (decide (i < k) && f i)
  | 0, _ => by simp [setB, b_0]
  | k + 1, hk => by
    simp only [setB]
    rw [b_or, bt_setB f k (by omega)]
    by_cases h : i = k
    · subst h
      cases hf : f i
      · simp [b_0]
      · simp [bt_b1 (show i < 32 by omega)]
    · by_cases hf : f k = true
      · rw [if_pos hf, bt_b1 (by omega), decide_eq_false h, Bool.or_false, show decide (i < k + 1) = decide (i < k) by congr 1; exact propext ⟨fun _ => by omega, fun _ => by omega⟩]
      · rw [if_neg hf, b_0, Bool.or_false, show decide (i < k + 1) = decide (i < k) by congr 1; exact propext ⟨fun _ => by omega, fun _ => by omega⟩]
theorem setB_0 {f : Nat → Bool} {k : Nat} (hk : k ≤ 32) : setB f k = 0 ↔ ∀ i, i < k → f i = false := by
  constructor
  · intro h i hi
    have := bt_setB f (i := i) k hk
    rw [h, b_0, decide_eq_true hi, Bool.true_and] at this
    exact this.symm
  · intro h
    apply b_ext
    intro i _
    rw [bt_setB f k hk, b_0]
    by_cases hi : i < k
    · rw [h i hi, Bool.and_false]
    · rw [decide_eq_false hi, Bool.false_and]
theorem setB_congr {f g : Nat → Bool} : ∀ {k : Nat}, (∀ j, j < k → f j = g j) → setB f k = setB g k
  | 0, _ => rfl
  | k + 1, h => by simp only [setB]; rw [setB_congr (k := k) (fun j hj => h j (by omega)), h k (by omega)]
theorem setB_more {f : Nat → Bool} {k m : Nat} (hk : k ≤ m) (h : ∀ j, k ≤ j → j < m → f j = false) : setB f m = setB f k := by
  induction m with
  | zero => rw [show k = 0 by omega]
  | succ m ih =>
    by_cases hkm : k = m + 1
    · rw [hkm]
    · simp only [setB]
      rw [ih (by omega) (fun j h1 h2 => h j h1 (by omega)), h m (by omega) (by omega), if_neg (by decide)]
      apply b_ext
      intro i _
      rw [b_or, b_0, Bool.or_false]
theorem b_or0 (x : Int32) : x ||| 0 = x := by
  apply b_ext
  intro i _
  rw [b_or, b_0, Bool.or_false]
theorem b_0or (x : Int32) : 0 ||| x = x := by
  apply b_ext
  intro i _
  rw [b_or, b_0, Bool.false_or]
/-- a carrier is at a place, as the reference asks -/
theorem at_iff {n : Nat → Int32} (hT : TbOk n) {c h p : Nat} (hc : c < nv n 1) (hp : p < 10) : placeN n c h = nI p ↔ grpB n h p c = true := by
  have h5 := hT.2.1.2
  rcases placeN_of hT.2.2 (by omega) hc h with ⟨e1, e2⟩ | ⟨q, q1, q2, e1, e2⟩
  · rw [e1]
    simp only [grpB, e2, decide_eq_true_eq]
    exact ⟨fun z => absurd z.symm (nI_ne_m1 (by omega)), fun z => by omega⟩
  · rw [e1, nI_eq (by omega) (by omega)]
    simp [grpB, e2]
set_option maxHeartbeats 2000000 in
set_option maxRecDepth 20000 in
theorem t_X11_carriersHere {M : Mm} {a : Nat} {n : Nat → Int32} (hL : LX11 M.1 M.2.1 a) (hn : mI M (a + 1) = n) (hT : TbOk n) {h p : Nat} (ht : n 6 = nI h) (hh : h < 2147483648) (hp : p < 10) : Ct G base YX11_carriersHere 4 0 0 [.ref a, .int (nI p)] M (rE (some (.int (setB (grpB n h p) 5))) M) := by
  refine Ct.of IX11_carriersHere.1 (by simp [Value.category]) (Nat.le_of_ble_eq_true rfl) (fun X hX hN => ?_)
  show J G base X 0 0 M 0 [some (.ref a), some (.int (nI p)), none, none] []
  refine r_iconst (v := nI 0) hX dX11_carriersHere_0 (by decide) ?_
  refine r_istore2 hX dX11_carriersHere_1 rfl ?_
  refine r_iconst (v := nI 0) hX dX11_carriersHere_2 (by decide) ?_
  refine r_istore3 hX dX11_carriersHere_3 rfl ?_
  have h1 := hT.2.1
  have hr := hT.2.2
  have hm5 := h1.2
  refine loop_up (P := fun j => J G base X 0 0 M 4 [some (.ref a), some (.int (nI p)), some (.int (setB (grpB n h p) j)), some (.int (nI j))] []) (nv n 1) (fun j hj ih => ?_) 0 (Nat.zero_le _)
  refine r_iload_n hX dX11_carriersHere_4 rfl ?_
  refine r_aload_n hX dX11_carriersHere_5 rfl ?_
  refine r_cV0 hX dX11_carriersHere_6 IX11_carriers ml_X11_151 rfl (LX11_s hL) rfl (t_X11_carriers hL hn h1) (by decide) (by decide) (by decide) (by decide) rfl (Nat.le_of_ble_eq_true rfl) ?_
  refine rn_icmp_ge (tgt := 44) hX dX11_carriersHere_9 (by decide) rfl rfl (by omega) (by omega) (fun c9 => ?_) (fun c9 => ?_)
  · refine r_iload_n hX dX11_carriersHere_44 rfl ?_
    refine r_ireturn hX rfl rfl dX11_carriersHere_45 (by decide) (by decide) ?_
    obtain rfl : j = nv n 1 := by omega
    refine ⟨?_, rfl⟩
    rw [setB_more (f := grpB n h p) (k := nv n 1) (m := 5) hm5 (fun c z1 z2 => by simp only [grpB, plQ_out z1]; exact decide_eq_false (by omega))]
  · refine r_iload_n hX dX11_carriersHere_12 rfl ?_
    refine r_aload_n hX dX11_carriersHere_13 rfl ?_
    refine r_iload_n hX dX11_carriersHere_14 rfl ?_
    refine r_aload_n hX dX11_carriersHere_15 rfl ?_
    refine r_getr hX dX11_carriersHere_16 fl_X11_13 rfl (LX11_s hL) (LX11_r1 hL) ?_
    refine r_bipush (v := nI 6) hX dX11_carriersHere_19 (by decide) ?_
    refine rn_iald hX dX11_carriersHere_21 (LX11_a1 hL) rfl (by omega) (by omega) ?_
    rw [hn]
    rw [ht]
    refine r_cV2 hX dX11_carriersHere_22 IX11_placeIn ml_X11_228 rfl (LX11_s hL) rfl (t_X11_placeIn hL hn hr (by omega) (by omega)) (by decide) (by decide) (by decide) (by decide) rfl (Nat.le_of_ble_eq_true rfl) ?_
    refine r_iload_n hX dX11_carriersHere_25 rfl ?_
    refine r_icmp_ne (tgt := 35) hX dX11_carriersHere_26 (by decide) (fun c26 => ?_) (fun c26 => ?_)
    · refine r_iconst (v := 0) hX dX11_carriersHere_35 (by decide) ?_
      refine r_ior hX dX11_carriersHere_36 ?_
      refine r_istore2 hX dX11_carriersHere_37 rfl ?_
      refine rn_iinc3 hX dX11_carriersHere_38 rfl rfl ?_
      refine r_goto (tgt := 4) hX dX11_carriersHere_41 (by decide) ?_
      have h9 := ih (by omega)
      simp only [setB] at h9
      first
        | (rw [if_pos ((at_iff hT c9 hp).mp c26)] at h9; exact h9)
        | (rw [if_neg (fun z => c26 ((at_iff hT c9 hp).mpr z))] at h9; exact h9)
    · refine r_iconst (v := 1) hX dX11_carriersHere_29 (by decide) ?_
      refine r_iload_n hX dX11_carriersHere_30 rfl ?_
      refine r_ishl hX dX11_carriersHere_31 ?_
      refine r_goto (tgt := 36) hX dX11_carriersHere_32 (by decide) ?_
      refine r_ior hX dX11_carriersHere_36 ?_
      refine r_istore2 hX dX11_carriersHere_37 rfl ?_
      refine rn_iinc3 hX dX11_carriersHere_38 rfl rfl ?_
      refine r_goto (tgt := 4) hX dX11_carriersHere_41 (by decide) ?_
      have h9 := ih (by omega)
      simp only [setB] at h9
      first
        | (rw [if_pos ((at_iff hT c9 hp).mp c26)] at h9; exact h9)
        | (rw [if_neg (fun z => c26 ((at_iff hT c9 hp).mpr z))] at h9; exact h9)
