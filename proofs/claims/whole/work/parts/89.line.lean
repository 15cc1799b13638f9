variable {G : GG} {base : Nat}
/-! ===== THE CLASS: the formatted text ===== -/
def LT (i : Nat → Nat → Int32) (q : Nat) (s : List Nat) : Prop := i q 0 = nI s.length ∧ ∀ k, k < s.length → i (q + 1) k = nI (s.getD k 0)
def lP (M : Mm) (q : Nat) (s : List Nat) (i : Nat → Nat → Int32) : Prop := LT i q s ∧ ∀ x, x ≠ q → x ≠ q + 1 → i x = mI M x
theorem lP.tr {M : Mm} {q : Nat} {s s' : List Nat} {i j : Nat → Nat → Int32} (h : lP M q s i) (h2 : lP (wI M i) q s' j) : lP M q s' j := ⟨h2.1, fun x h1 h3 => (h2.2 x h1 h3).trans (h.2 x h1 h3)⟩
theorem LT.put {M : Mm} {q : Nat} {s : List Nat} {c : Nat} (h : LT (mI M) q s) : lP M q (s ++ [c]) (mI (uI (uI M (q + 1) s.length (nI c)) q 0 (nI (s.length + 1)))) := by
  refine ⟨⟨by rw [List.length_append]; simp [mI_uI], fun k hk => ?_⟩, fun x h1 h2 => (uIo h1).trans (uIo h2)⟩
  rw [List.length_append] at hk
  rw [uIo (by omega), mI_uI, if_pos rfl]
  by_cases e : k = s.length
  · subst e
    rw [if_pos rfl, List.getD_eq_getElem?_getD, List.getElem?_append_right (Nat.le_refl _), Nat.sub_self]
    rfl
  · have hk2 : k < s.length := by
      have : [c].length = 1 := rfl
      omega
    rw [if_neg e, h.2 k hk2, List.getD_eq_getElem?_getD, List.getD_eq_getElem?_getD, List.getElem?_append_left hk2]
theorem e32_b {w : List Nat} (h : ∀ z, z ∈ w → 1 ≤ z ∧ z ≤ 26) : e32 w < 32 ^ w.length := by
  have key : ∀ (w : List Nat) (v : Nat), (∀ z, z ∈ w → z ≤ 26) → w.foldl (fun v z => 32 * v + z) v < (v + 1) * 32 ^ w.length := by
    intro w
    induction w with
    | nil => intro v _; simp
    | cons z w ih =>
      intro v hz
      have := ih (32 * v + z) (fun y hy => hz y (List.mem_cons_of_mem _ hy))
      have h26 := hz z (List.mem_cons_self ..)
      show w.foldl (fun v z => 32 * v + z) (32 * v + z) < _
      rw [List.length_cons, Nat.pow_succ]
      have h3 : (32 * v + z + 1) * 32 ^ w.length ≤ (v + 1) * 32 * 32 ^ w.length := Nat.mul_le_mul_right _ (by omega)
      calc _ < (32 * v + z + 1) * 32 ^ w.length := this
        _ ≤ (v + 1) * 32 * 32 ^ w.length := h3
        _ = (v + 1) * (32 ^ w.length * 32) := by rw [Nat.mul_assoc, Nat.mul_comm 32]
  have := key w 0 (fun z hz => (h z hz).2)
  simpa [e32] using this
theorem e32_30 {w : List Nat} (h : ∀ z, z ∈ w → 1 ≤ z ∧ z ≤ 26) (h6 : w.length ≤ 6) : e32 w < 1073741824 := by
  have h1 := e32_b h
  have h2 : 32 ^ w.length ≤ 32 ^ 6 := Nat.pow_le_pow_right (by omega) h6
  have h3 : 32 ^ 6 = 1073741824 := by decide
  omega
theorem e32_app (w : List Nat) (z : Nat) : e32 (w ++ [z]) = 32 * e32 w + z := by
  unfold e32
  rw [List.foldl_append]
  rfl
/-- the digits, of k places at most -/
def gD : Nat → Nat → List Nat
  | 0, _ => []
  | k + 1, v => gD k (v / 32) ++ (if v % 32 = 0 then [] else [v % 32])
theorem gD_0 : ∀ k, gD k 0 = []
  | 0 => rfl
  | k + 1 => by
    show gD k (0 / 32) ++ (if 0 % 32 = 0 then [] else [0 % 32]) = []
    rw [Nat.zero_div, gD_0 k, if_pos rfl]
    rfl
theorem gD_is : ∀ (k : Nat) (w : List Nat), w.length ≤ k → (∀ z, z ∈ w → 1 ≤ z ∧ z ≤ 26) → gD k (e32 w) = w
  | 0, w, hl, _ => by
    rw [List.eq_nil_of_length_eq_zero (by omega : w.length = 0)]
    rfl
  | k + 1, w, hl, h => by
    rcases List.eq_nil_or_concat w with rfl | ⟨w', z, rfl⟩
    · exact gD_0 (k + 1)
    · rw [List.concat_eq_append] at hl h ⊢
      have hz := h z (by simp)
      have hw : ∀ y, y ∈ w' → 1 ≤ y ∧ y ≤ 26 := fun y hy => h y (by simp [hy])
      rw [List.length_append] at hl
      have hl1 : [z].length = 1 := rfl
      show gD k (e32 (w' ++ [z]) / 32) ++ (if e32 (w' ++ [z]) % 32 = 0 then [] else [e32 (w' ++ [z]) % 32]) = w' ++ [z]
      rw [e32_app, show (32 * e32 w' + z) / 32 = e32 w' by omega, show (32 * e32 w' + z) % 32 = z by omega, if_neg (by omega), gD_is k w' (by omega) hw]
theorem gD_len : ∀ k v, (gD k v).length ≤ k
  | 0, _ => Nat.le_refl 0
  | k + 1, v => by
    have := gD_len k (v / 32)
    show (gD k (v / 32) ++ _).length ≤ k + 1
    rw [List.length_append]
    split <;> simp <;> omega
theorem bt_nat {v : Nat} {i : Nat} (hi : i < 32) : bt (nI v) i = v.testBit i := by
  show (BitVec.ofNat 32 v).getLsbD i = _
  rw [BitVec.getLsbD_ofNat, decide_eq_true hi, Bool.true_and]
/-- a digit -/
theorem dig32 {v k : Nat} (hv : v < 2147483648) (hk : k < 6) : (nI v >>> (nI (5 * k) &&& 31)) &&& 31 = nI (v / 32 ^ k % 32) := by
  apply b_ext
  intro i hi
  rw [b_and, b_sshr _ (by omega) _ hi, show (31 : Int32) = nI 31 from rfl, bt_nat hi, bt_nat hi, show (32 : Nat) ^ k = 2 ^ (5 * k) from by rw [Nat.pow_mul], show (v / 2 ^ (5 * k) % 32) = v / 2 ^ (5 * k) % 2 ^ 5 from rfl, Nat.testBit_mod_two_pow, Nat.testBit_div_two_pow, show (31 : Nat) = 2 ^ 5 - 1 from rfl, Nat.testBit_two_pow_sub_one]
  by_cases h5 : i < 5
  · by_cases h : 5 * k + i < 32
    · rw [if_pos h, bt_nat h, Bool.and_comm, Nat.add_comm]
    · omega
  · rw [decide_eq_false h5, Bool.and_false, Bool.false_and]
/-- the loop's counter, behind k turns -/
def lc (k : Nat) : Int32 := nI 5 - nI k
theorem lc_s : ∀ k, k < 6 → lc k + Int32.ofInt (-1) = lc (k + 1) := by decide +kernel
theorem lc_m : ∀ k, k < 6 → lc k * nI 5 = nI (5 * (5 - k)) := by decide +kernel
theorem lc_n : ∀ k, k < 6 → ¬ lc k < 0 := by decide +kernel
theorem lc_e : lc 6 < 0 := by decide +kernel
set_option maxHeartbeats 2000000 in
set_option maxRecDepth 20000 in
theorem t_X3_put {M : Mm} {q : Nat} (hq : LX3 M.1 M.2.1 q) {s : List Nat} (hs : LT (mI M) q s) (hl : s.length < 160) {c : Nat} : Ct G base YX3_put 1 0 0 [.ref q, .int (nI c)] M (rI none M (lP M q (s ++ [c]))) := by
  refine Ct.of IX3_put.1 (by simp [Value.category]) (Nat.le_of_ble_eq_true rfl) (fun X hX hN => ?_)
  show J G base X 0 0 M 0 [some (.ref q), some (.int (nI c))] []
  refine r_aload_n hX dX3_put_0 rfl ?_
  refine rn_geti (v := nI s.length) hX dX3_put_1 fl_X3_9 rfl (LX3_s hq) hs.1 ?_
  refine rn_if_lt (tgt := 37) hX dX3_put_4 (by decide) rfl (by omega) ?_
  refine r_aload_n hX dX3_put_7 rfl ?_
  refine rn_geti (v := nI s.length) hX dX3_put_8 fl_X3_9 rfl (LX3_s hq) hs.1 ?_
  refine r_sipush (v := nI 160) hX dX3_put_11 (by decide) ?_
  refine rn_icmp_ge (tgt := 37) hX dX3_put_14 (by decide) rfl rfl (by omega) (by omega) (fun c14 => absurd hl (by omega)) (fun c14 => ?_)
  refine r_aload_n hX dX3_put_17 rfl ?_
  refine r_getr hX dX3_put_18 fl_X3_15 rfl (LX3_s hq) (LX3_r1 hq) ?_
  refine r_aload_n hX dX3_put_21 rfl ?_
  refine rn_geti (v := nI s.length) hX dX3_put_22 fl_X3_9 rfl (LX3_s hq) hs.1 ?_
  refine r_iload_n hX dX3_put_25 rfl ?_
  refine rn_iast hX dX3_put_26 (LX3_a1 hq) rfl (by omega) (by omega) ?_
  refine r_aload_n hX dX3_put_27 rfl ?_
  refine r_dup hX dX3_put_28 rfl ?_
  refine rn_geti (v := nI s.length) hX dX3_put_29 fl_X3_9 rfl (LX3_s hq) ((congrFun (uIo (by omega)) 0).trans hs.1) ?_
  refine r_iconst (v := nI 1) hX dX3_put_32 (by decide) ?_
  refine rn_iadd hX dX3_put_33 rfl rfl ?_
  refine r_puti hX dX3_put_34 fl_X3_9 rfl rfl (LX3_s hq) ?_
  refine r_return hX rfl dX3_put_37 (by decide) (by decide) ?_
  exact ⟨rfl, _, rfl, hs.put⟩
set_option maxHeartbeats 2000000 in
set_option maxRecDepth 20000 in
theorem t_X3_putText {M : Mm} {q : Nat} (hq : LX3 M.1 M.2.1 q) {s : List Nat} (hs : LT (mI M) q s) (hl : s.length < 140) {w : Nat} (hw : w < 13) : Ct G base YX3_putText 5 0 0 [.ref q, .ref (G.2.2.1 w)] M (rI none M (lP M q (s ++ txw w))) := by
  refine Ct.of IX3_putText.1 (by simp [Value.category]) (Nat.le_of_ble_eq_true rfl) (fun X hX hN => ?_)
  show J G base X 0 0 M 0 [some (.ref q), some (.ref (G.2.2.1 w)), none] []
  have h9 := @txw_s w
  refine r_iconst (v := nI 0) hX dX3_putText_0 (by decide) ?_
  refine r_istore2 hX dX3_putText_1 rfl ?_
  show J G base X 0 0 (wI M (mI M)) 2 _ []
  refine loop_us (σ := Nat → Nat → Int32) (P := fun j i => (lP M q (s ++ (txw w).take j) i) → J G base X 0 0 (wI M i) 2 [some (.ref q), some (.ref (G.2.2.1 w)), some (.int (nI j))] []) (txw w).length (fun j i hj ih hi => ?_) 0 (mI M) (Nat.zero_le _) ⟨by rw [List.take_zero, List.append_nil]; exact hs, fun _ _ _ => rfl⟩
  refine r_iload_n hX dX3_putText_2 rfl ?_
  refine r_aload_n hX dX3_putText_3 rfl ?_
  refine r_cVs0 hX dX3_putText_4 IJ0_length_8abf5 ml_X3_19 rfl hw rfl (t_length (M := wI M i) hw) (by decide) (by decide) (by decide) (by decide) rfl (Nat.le_of_ble_eq_true rfl) ?_
  refine rn_icmp_ge (tgt := 25) hX dX3_putText_7 (by decide) rfl rfl (by omega) (by omega) (fun c7 => ?_) (fun c7 => ?_)
  · refine r_return hX rfl dX3_putText_25 (by decide) (by decide) ?_
    obtain rfl : j = (txw w).length := by omega
    rw [List.take_length] at hi
    exact ⟨rfl, i, rfl, hi⟩
  · refine r_aload_n hX dX3_putText_10 rfl ?_
    refine r_aload_n hX dX3_putText_11 rfl ?_
    refine r_iload_n hX dX3_putText_12 rfl ?_
    refine r_cVs1 hX dX3_putText_13 IJ0_charAt_5068e ml_X3_24 rfl hw rfl (t_charAt (M := wI M i) hw (by omega)) (by decide) (by decide) (by decide) (by decide) rfl (Nat.le_of_ble_eq_true rfl) ?_
    refine r_iV1 hX dX3_putText_16 IX3_put ml_X3_28 rfl (LX3_s hq) rfl (t_X3_put (M := wI M i) hq hi.1 (by rw [List.length_append, List.length_take]; omega)) (by decide) (by decide) (by decide) (by decide) rfl (Nat.le_of_ble_eq_true rfl) (fun i1 h1 => ?_)
    show J G base X _ _ (wI M i1) _ _ _
    
    refine rn_iinc2 hX dX3_putText_19 rfl rfl ?_
    refine r_goto (tgt := 2) hX dX3_putText_22 (by decide) ?_
    exact ih (by omega) i1 (by
      have z := hi.tr h1
      rw [List.append_assoc, ← take_s (by omega)] at z
      exact z)
set_option maxHeartbeats 2000000 in
set_option maxRecDepth 20000 in
theorem t_X3_putName {M : Mm} {q : Nat} (hq : LX3 M.1 M.2.1 q) {s : List Nat} (hs : LT (mI M) q s) (hl : s.length < 150) {w : List Nat} (h6 : w.length ≤ 6) (hz : ∀ z, z ∈ w → 1 ≤ z ∧ z ≤ 26) : Ct G base YX3_putName 2 0 0 [.ref q, .int (nI (e32 w))] M (rI none M (lP M q (s ++ w.map (fun y => 96 + y)))) := by
  refine Ct.of IX3_putName.1 (by simp [Value.category]) (Nat.le_of_ble_eq_true rfl) (fun X hX hN => ?_)
  show J G base X 0 0 M 0 [some (.ref q), some (.int (nI (e32 w))), none, none] []
  have hv := e32_30 hz h6
  have hgw := gD_is 6 w h6 hz
  generalize e32 w = v at hv hgw ⊢
  refine r_iconst (v := nI 5) hX dX3_putName_0 (by decide) ?_
  refine r_istore2 hX dX3_putName_1 rfl ?_
  show J G base X 0 0 (wI M (mI M)) 2 [some (.ref q), some (.int (nI v)), some (.int (lc 0)), none] []
  refine loop_us (σ := Nat → Nat → Int32) (P := fun j i => (lP M q (s ++ (gD j (v / 32 ^ (6 - j))).map (fun y => 96 + y)) i) → J G base X 0 0 (wI M i) 2 [some (.ref q), some (.int (nI v)), some (.int (lc j)), none] []) 6 (fun j i hj ih hi => ?_) 0 (mI M) (Nat.zero_le _) ⟨by rw [show gD 0 (v / 32 ^ (6 - 0)) = [] from rfl, List.map_nil, List.append_nil]; exact hs, fun _ _ _ => rfl⟩
  refine r_iload_n hX dX3_putName_2 rfl ?_
  refine r_if_lt (tgt := 35) hX dX3_putName_3 (by decide) (fun c3 => ?_) (fun c3 => ?_)
  · refine r_return hX rfl dX3_putName_35 (by decide) (by decide) ?_
    obtain rfl : j = 6 := Classical.byContradiction fun z => lc_n j (by omega) c3
    refine ⟨rfl, i, rfl, ?_⟩
    rw [show v / 32 ^ (6 - 6) = v from by simp, hgw] at hi
    exact hi
  · have hj6 : j < 6 := Classical.byContradiction fun z => c3 (by rw [show j = 6 by omega]; exact lc_e)
    have hlen := gD_len j (v / 32 ^ (6 - j))
    have hstep : gD (j + 1) (v / 32 ^ (6 - (j + 1))) = gD j (v / 32 ^ (6 - j)) ++ (if v / 32 ^ (5 - j) % 32 = 0 then [] else [v / 32 ^ (5 - j) % 32]) := by
      show gD j (v / 32 ^ (6 - (j + 1)) / 32) ++ (if v / 32 ^ (6 - (j + 1)) % 32 = 0 then [] else [v / 32 ^ (6 - (j + 1)) % 32]) = _
      rw [show 6 - (j + 1) = 5 - j by omega, Nat.div_div_eq_div_mul, show 32 ^ (5 - j) * 32 = 32 ^ (6 - j) from (Nat.pow_succ _ _).symm.trans (congrArg (fun z => 32 ^ z) (by omega : (5 - j).succ = 6 - j))]
    refine r_iload_n hX dX3_putName_6 rfl ?_
    refine r_iload_n hX dX3_putName_7 rfl ?_
    refine r_iconst (v := nI 5) hX dX3_putName_8 (by decide) ?_
    refine r_imul hX dX3_putName_9 ?_
    rw [lc_m j hj6]
    refine r_ishr hX dX3_putName_10 ?_
    refine r_bipush (v := nI 31) hX dX3_putName_11 (by decide) ?_
    refine r_iand hX dX3_putName_13 ?_
    rw [show nI 31 = (31 : Int32) from rfl, dig32 (by omega) (by omega)]
    refine r_istore3 hX dX3_putName_14 rfl ?_
    refine r_iload_n hX dX3_putName_15 rfl ?_
    refine rn_if_eq (tgt := 29) hX dX3_putName_16 (by decide) rfl (by omega) (fun c16 => ?_) (fun c16 => ?_)
    · refine r_iinc2 hX dX3_putName_29 rfl ?_
      refine r_goto (tgt := 2) hX dX3_putName_32 (by decide) ?_
      have z := ih (by omega) i
      rw [← lc_s j (by omega)] at z
      refine J.junk (z ?_) (by repeat first | exact trivial | refine ⟨rfl, ?_⟩)
      rw [hstep, if_pos c16, List.append_nil]
      exact hi
    · refine r_aload_n hX dX3_putName_19 rfl ?_
      refine r_bipush (v := nI 97) hX dX3_putName_20 (by decide) ?_
      refine r_iload_n hX dX3_putName_22 rfl ?_
      refine rn_iadd hX dX3_putName_23 rfl rfl ?_
      refine r_iconst (v := nI 1) hX dX3_putName_24 (by decide) ?_
      refine rn_isub hX dX3_putName_25 rfl rfl (by omega) ?_
      refine r_iV1 hX dX3_putName_26 IX3_put ml_X3_28 rfl (LX3_s hq) rfl (t_X3_put (M := wI M i) hq hi.1 (by rw [List.length_append, List.length_map]; omega) (c := 97 + v / 32 ^ (5 - j) % 32 - 1)) (by decide) (by decide) (by decide) (by decide) rfl (Nat.le_of_ble_eq_true rfl) (fun i1 h1 => ?_)
      show J G base X _ _ (wI M i1) _ _ _
      rw [show 97 + v / 32 ^ (5 - j) % 32 - 1 = 96 + v / 32 ^ (5 - j) % 32 by omega] at h1
      refine r_iinc2 hX dX3_putName_29 rfl ?_
      refine r_goto (tgt := 2) hX dX3_putName_32 (by decide) ?_
      have z := ih (by omega) i1
      rw [← lc_s j (by omega)] at z
      refine J.junk (z ?_) (by repeat first | exact trivial | refine ⟨rfl, ?_⟩)
      rw [hstep, if_neg c16, List.map_append, ← List.append_assoc]
      exact hi.tr h1
set_option maxHeartbeats 2000000 in
set_option maxRecDepth 20000 in
theorem t_X3_putNumber {M : Mm} {q : Nat} (hq : LX3 M.1 M.2.1 q) {s : List Nat} (hs : LT (mI M) q s) (hl : s.length < 150) {v : Nat} (hv : v < 100) : Ct G base YX3_putNumber 2 0 0 [.ref q, .int (nI v)] M (rI none M (lP M q (s ++ numT v))) := by
  refine Ct.of IX3_putNumber.1 (by simp [Value.category]) (Nat.le_of_ble_eq_true rfl) (fun X hX hN => ?_)
  show J G base X 0 0 M 0 [some (.ref q), some (.int (nI v))] []
  refine r_iload_n hX dX3_putNumber_0 rfl ?_
  refine r_bipush (v := nI 10) hX dX3_putNumber_1 (by decide) ?_
  refine rn_icmp_lt (tgt := 17) hX dX3_putNumber_3 (by decide) rfl rfl (by omega) (by omega) (fun c3 => ?_) (fun c3 => ?_)
  · refine r_aload_n hX dX3_putNumber_17 rfl ?_
    refine r_bipush (v := nI 48) hX dX3_putNumber_18 (by decide) ?_
    refine r_iload_n hX dX3_putNumber_20 rfl ?_
    refine r_bipush (v := nI 10) hX dX3_putNumber_21 (by decide) ?_
    refine rn_irem hX dX3_putNumber_23 rfl rfl (by decide) (by omega) ?_
    refine rn_iadd hX dX3_putNumber_24 rfl rfl ?_
    refine r_iV1 hX dX3_putNumber_25 IX3_put ml_X3_28 rfl (LX3_s hq) rfl (t_X3_put (M := M) hq hs (by omega) (c := 48 + v % 10)) (by decide) (by decide) (by decide) (by decide) rfl (Nat.le_of_ble_eq_true rfl) (fun i1 h1 => ?_)
    show J G base X _ _ (wI M i1) _ _ _
    
    refine r_return hX rfl dX3_putNumber_28 (by decide) (by decide) ?_
    refine ⟨rfl, i1, rfl, ?_⟩
    unfold numT
    rw [if_neg (by omega), List.nil_append]
    exact h1
  · refine r_aload_n hX dX3_putNumber_6 rfl ?_
    refine r_bipush (v := nI 48) hX dX3_putNumber_7 (by decide) ?_
    refine r_iload_n hX dX3_putNumber_9 rfl ?_
    refine r_bipush (v := nI 10) hX dX3_putNumber_10 (by decide) ?_
    refine rn_idiv hX dX3_putNumber_12 rfl rfl (by decide) (by omega) ?_
    refine rn_iadd hX dX3_putNumber_13 rfl rfl ?_
    refine r_iV1 hX dX3_putNumber_14 IX3_put ml_X3_28 rfl (LX3_s hq) rfl (t_X3_put (M := M) hq hs (by omega) (c := 48 + v / 10)) (by decide) (by decide) (by decide) (by decide) rfl (Nat.le_of_ble_eq_true rfl) (fun i1 h1 => ?_)
    show J G base X _ _ (wI M i1) _ _ _
    
    refine r_aload_n hX dX3_putNumber_17 rfl ?_
    refine r_bipush (v := nI 48) hX dX3_putNumber_18 (by decide) ?_
    refine r_iload_n hX dX3_putNumber_20 rfl ?_
    refine r_bipush (v := nI 10) hX dX3_putNumber_21 (by decide) ?_
    refine rn_irem hX dX3_putNumber_23 rfl rfl (by decide) (by omega) ?_
    refine rn_iadd hX dX3_putNumber_24 rfl rfl ?_
    refine r_iV1 hX dX3_putNumber_25 IX3_put ml_X3_28 rfl (LX3_s hq) rfl (t_X3_put (M := wI M i1) hq h1.1 (by rw [List.length_append]; show s.length + 1 < 160; omega) (c := 48 + v % 10)) (by decide) (by decide) (by decide) (by decide) rfl (Nat.le_of_ble_eq_true rfl) (fun i2 h2 => ?_)
    show J G base X _ _ (wI M i2) _ _ _
    
    refine r_return hX rfl dX3_putNumber_28 (by decide) (by decide) ?_
    refine ⟨rfl, i2, rfl, ?_⟩
    unfold numT
    rw [if_pos (by omega), ← List.append_assoc]
    exact h1.tr h2
set_option maxHeartbeats 2000000 in
set_option maxRecDepth 20000 in
theorem t_X3_signAt1 {M : Mm} {q k : Nat} (hq : LX3 M.1 M.2.1 q) {m : Nat} (hm : mI M q 0 = nI m) (hm1 : m ≤ 150) (hk : k < m) : Ct G base YX3_signAt 1 0 0 [.ref q, .int (nI k)] M (rE (some (.int (mI M (q + 1) k))) M) := by
  refine Ct.of IX3_signAt.1 (by simp [Value.category]) (Nat.le_of_ble_eq_true rfl) (fun X hX hN => ?_)
  show J G base X 0 0 M 0 [some (.ref q), some (.int (nI k))] []
  refine r_iload_n hX dX3_signAt_0 rfl ?_
  refine rn_if_lt (tgt := 19) hX dX3_signAt_1 (by decide) rfl (by omega) ?_
  refine r_iload_n hX dX3_signAt_4 rfl ?_
  refine r_aload_n hX dX3_signAt_5 rfl ?_
  refine rn_geti (v := nI m) hX dX3_signAt_6 fl_X3_9 rfl (LX3_s hq) hm ?_
  refine rn_icmp_ge (tgt := 19) hX dX3_signAt_9 (by decide) rfl rfl (by omega) (by omega) (fun c9 => absurd hk (by omega)) (fun c9 => ?_)
  refine r_iload_n hX dX3_signAt_12 rfl ?_
  refine r_sipush (v := nI 160) hX dX3_signAt_13 (by decide) ?_
  refine rn_icmp_lt (tgt := 23) hX dX3_signAt_16 (by decide) rfl rfl (by omega) (by omega) (fun c16 => ?_) (fun c16 => by omega)
  refine r_aload_n hX dX3_signAt_23 rfl ?_
  refine r_getr hX dX3_signAt_24 fl_X3_15 rfl (LX3_s hq) (LX3_r1 hq) ?_
  refine r_iload_n hX dX3_signAt_27 rfl ?_
  refine rn_iald hX dX3_signAt_28 (LX3_a1 hq) rfl (by omega) (by omega) ?_
  refine r_ireturn hX rfl rfl dX3_signAt_29 (by decide) (by decide) ?_
  exact ⟨rfl, rfl⟩
set_option maxHeartbeats 2000000 in
set_option maxRecDepth 20000 in
theorem t_X3_signAt0 {M : Mm} {q : Nat} (hq : LX3 M.1 M.2.1 q) {m : Nat} (hm : mI M q 0 = nI m) (hm1 : m ≤ 150) {x : Int32} (hx : ¬ ∃ k, k < m ∧ x = nI k) : Ct G base YX3_signAt 1 0 0 [.ref q, .int x] M (rE (some (.int (-1))) M) := by
  refine Ct.of IX3_signAt.1 (by simp [Value.category]) (Nat.le_of_ble_eq_true rfl) (fun X hX hN => ?_)
  show J G base X 0 0 M 0 [some (.ref q), some (.int x)] []
  refine r_iload_n hX dX3_signAt_0 rfl ?_
  refine r_if_lt (tgt := 19) hX dX3_signAt_1 (by decide) (fun c1 => ?_) (fun c1 => ?_)
  · refine r_iconst (v := (-1)) hX dX3_signAt_19 (by decide) ?_
    refine r_goto (tgt := 29) hX dX3_signAt_20 (by decide) ?_
    refine r_ireturn hX rfl rfl dX3_signAt_29 (by decide) (by decide) ?_
    exact ⟨rfl, rfl⟩
  · refine r_iload_n hX dX3_signAt_4 rfl ?_
    refine r_aload_n hX dX3_signAt_5 rfl ?_
    refine rn_geti (v := nI m) hX dX3_signAt_6 fl_X3_9 rfl (LX3_s hq) hm ?_
    refine r_icmp_ge (tgt := 19) hX dX3_signAt_9 (by decide) (fun c9 => ?_) (fun c9 => by obtain ⟨k, hk, e⟩ := nI_of (x := x) c1; subst e; rw [nI_leI (by omega) hk] at c9; exact absurd ⟨k, by omega, rfl⟩ hx)
    refine r_iconst (v := (-1)) hX dX3_signAt_19 (by decide) ?_
    refine r_goto (tgt := 29) hX dX3_signAt_20 (by decide) ?_
    refine r_ireturn hX rfl rfl dX3_signAt_29 (by decide) (by decide) ?_
    exact ⟨rfl, rfl⟩
