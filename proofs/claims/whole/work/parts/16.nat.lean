theorem loop_up {P : Nat → Prop} (m : Nat) (h : ∀ j, j ≤ m → (j < m → P (j + 1)) → P j) : ∀ j, j ≤ m → P j := by
  have key : ∀ r j, m - j = r → j ≤ m → P j := by
    intro r
    induction r with
    | zero => exact fun j hr hj => h j hj (fun hlt => by omega)
    | succ r ih => exact fun j hr hj => h j hj (fun hlt => ih (j + 1) (by omega) (by omega))
  exact fun j hj => key _ j rfl hj
/-- with a state -/
theorem loop_us {σ : Type} {P : Nat → σ → Prop} (m : Nat) (h : ∀ j s, j ≤ m → (j < m → ∀ s', P (j + 1) s') → P j s) : ∀ j s, j ≤ m → P j s := fun j s hj => loop_up (P := fun j => ∀ s, P j s) m (fun j hj ih s => h j s hj ih) j hj s
theorem nI_31 {n : Nat} (h : n < 32) : nI n &&& 31 = nI n := by
  have := (show ∀ k, k < 32 → nI k &&& 31 = nI k by decide +kernel) n h
  exact this
section NR
variable {G : GG} {base : Nat} {X : Cx} {cc : ByteArray} {own : String} {nL : Nat} {ret : Option FieldType} {d mc ms : Nat} {post : Ot → Mm → Prop} {cs sl : Nat} {M : Mm} {pc : Nat} {ls : List (Option Value)} {st : List Value}
theorem rn_geti (hX : okX G base X cc own nL ret d mc ms post) {idx ci k a n : Nat} {v : Int32} (hd : decode cc pc = .ok (.getfield idx, 3)) (hf : FL own idx ci k) (hi : isR ci k = false) (hs : mS M a = some (ci, n)) (hv : mI M a k = v) (kk : J G base X cs sl M (pc + 3) ls (.int v :: st)) : J G base X cs sl M pc ls (.ref a :: st) := by
  subst hv
  exact r_geti hX hd hf hi hs kk
theorem rn_iald (hX : okX G base X cc own nL ret d mc ms post) {a n j : Nat} {i : Int32} (hd : decode cc pc = .ok (.iaload, 1)) (hs : mS M a = some (12, n)) (hi : i = nI j) (hn : n < 2147483648) (hj : j < n) (kk : J G base X cs sl M (pc + 1) ls (.int (mI M a j) :: st)) : J G base X cs sl M pc ls (.int i :: .ref a :: st) := by
  subst hi
  refine r_iald hX hd hs (vp_in_nI hj hn) ?_
  rw [nI_clamp (by omega)]
  exact kk
theorem rn_iast (hX : okX G base X cc own nL ret d mc ms post) {a n j : Nat} {i x : Int32} (hd : decode cc pc = .ok (.iastore, 1)) (hs : mS M a = some (12, n)) (hi : i = nI j) (hn : n < 2147483648) (hj : j < n) (kk : J G base X cs sl (uI M a j x) (pc + 1) ls st) : J G base X cs sl M pc ls (.int x :: .int i :: .ref a :: st) := by
  subst hi
  refine r_iast hX hd hs (vp_in_nI hj hn) ?_
  rw [nI_clamp (by omega)]
  exact kk
theorem rn_bald (hX : okX G base X cc own nL ret d mc ms post) {a n j : Nat} {i : Int32} (hd : decode cc pc = .ok (.baload, 1)) (hs : mS M a = some (13, n)) (hi : i = nI j) (hn : n < 2147483648) (hj : j < n) (kk : J G base X cs sl M (pc + 1) ls (.int (mI M a j) :: st)) : J G base X cs sl M pc ls (.int i :: .ref a :: st) := by
  subst hi
  refine r_bald hX hd hs (vp_in_nI hj hn) ?_
  rw [nI_clamp (by omega)]
  exact kk
theorem rn_bast (hX : okX G base X cc own nL ret d mc ms post) {a n j : Nat} {i x : Int32} (hd : decode cc pc = .ok (.bastore, 1)) (hs : mS M a = some (13, n)) (hi : i = nI j) (hn : n < 2147483648) (hj : j < n) (kk : J G base X cs sl (uI M a j (vp_nar .byte x)) (pc + 1) ls st) : J G base X cs sl M pc ls (.int x :: .int i :: .ref a :: st) := by
  subst hi
  refine r_bast hX hd hs (vp_in_nI hj hn) ?_
  rw [nI_clamp (by omega)]
  exact kk
theorem rn_aald (hX : okX G base X cc own nL ret d mc ms post) {a n j b : Nat} {i : Int32} (hd : decode cc pc = .ok (.aaload, 1)) (hs : mS M a = some (15, n)) (hi : i = nI j) (hn : n < 2147483648) (hj : j < n) (hr9 : mR M a j = some b) (kk : J G base X cs sl M (pc + 1) ls (.ref b :: st)) : J G base X cs sl M pc ls (.int i :: .ref a :: st) := by
  subst hi
  exact r_aald hX hd hs (vp_in_nI hj hn) (by rw [nI_clamp (by omega)]; exact hr9) kk
theorem rn_iadd (hX : okX G base X cc own nL ret d mc ms post) {x y : Int32} {a b : Nat} (hd : decode cc pc = .ok (.iadd, 1)) (hx : x = nI a) (hy : y = nI b) (kk : J G base X cs sl M (pc + 1) ls (.int (nI (a + b)) :: st)) : J G base X cs sl M pc ls (.int y :: .int x :: st) := by
  subst hx; subst hy
  refine r_iadd hX hd ?_
  rw [nI_add]
  exact kk
theorem rn_imul (hX : okX G base X cc own nL ret d mc ms post) {x y : Int32} {a b : Nat} (hd : decode cc pc = .ok (.imul, 1)) (hx : x = nI a) (hy : y = nI b) (kk : J G base X cs sl M (pc + 1) ls (.int (nI (a * b)) :: st)) : J G base X cs sl M pc ls (.int y :: .int x :: st) := by
  subst hx; subst hy
  refine r_imul hX hd ?_
  rw [pk_mul]
  exact kk
theorem rn_isub (hX : okX G base X cc own nL ret d mc ms post) {x y : Int32} {a b : Nat} (hd : decode cc pc = .ok (.isub, 1)) (hx : x = nI a) (hy : y = nI b) (hle : b ≤ a) (kk : J G base X cs sl M (pc + 1) ls (.int (nI (a - b)) :: st)) : J G base X cs sl M pc ls (.int y :: .int x :: st) := by
  subst hx; subst hy
  refine r_isub hX hd ?_
  rw [pk_sub hle]
  exact kk
theorem rn_idiv (hX : okX G base X cc own nL ret d mc ms post) {x y : Int32} {a b : Nat} (hd : decode cc pc = .ok (.idiv, 1)) (hx : x = nI a) (hy : y = nI b) (hb : 0 < b ∧ b < 2147483648) (ha : a < 2147483648) (kk : J G base X cs sl M (pc + 1) ls (.int (nI (a / b)) :: st)) : J G base X cs sl M pc ls (.int y :: .int x :: st) := by
  subst hx; subst hy
  refine r_idiv hX hd (nI_ne0 hb.1 hb.2) ?_
  rw [pk_div ha hb.1 hb.2]
  exact kk
theorem rn_irem (hX : okX G base X cc own nL ret d mc ms post) {x y : Int32} {a b : Nat} (hd : decode cc pc = .ok (.irem, 1)) (hx : x = nI a) (hy : y = nI b) (hb : 0 < b ∧ b < 2147483648) (ha : a < 2147483648) (kk : J G base X cs sl M (pc + 1) ls (.int (nI (a % b)) :: st)) : J G base X cs sl M pc ls (.int y :: .int x :: st) := by
  subst hx; subst hy
  refine r_irem hX hd (nI_ne0 hb.1 hb.2) ?_
  rw [pk_rem ha hb.1 hb.2]
  exact kk
theorem rn_icmp_eq (hX : okX G base X cc own nL ret d mc ms post) {x y : Int32} {a b : Nat} {off : Int} {tgt : Nat} (hd : decode cc pc = .ok (.if_icmp .eq off, 3)) (ht : (pc : Int) + off = (tgt : Int)) (hx : x = nI a) (hy : y = nI b) (ha : a < 2147483648) (hb : b < 2147483648) (kt : a = b → J G base X cs sl M tgt ls st) (kf : a ≠ b → J G base X cs sl M (pc + 3) ls st) : J G base X cs sl M pc ls (.int y :: .int x :: st) := by
  subst hx; subst hy
  refine r_icmp_eq hX hd ht (fun c => kt ?_) (fun c => kf ?_)
  all_goals
    first
      | (have h1 := nI_leI ha hb; have h2 := nI_leI hb ha; have h3 := nI_ltI ha hb; have h4 := nI_ltI hb ha; have h5 := nI_eq ha hb; simp only [h1, h2, h3, h4, h5, ne_eq, ge_iff_le, gt_iff_lt] at c; omega)
theorem rn_icmp_ne (hX : okX G base X cc own nL ret d mc ms post) {x y : Int32} {a b : Nat} {off : Int} {tgt : Nat} (hd : decode cc pc = .ok (.if_icmp .ne off, 3)) (ht : (pc : Int) + off = (tgt : Int)) (hx : x = nI a) (hy : y = nI b) (ha : a < 2147483648) (hb : b < 2147483648) (kt : a ≠ b → J G base X cs sl M tgt ls st) (kf : a = b → J G base X cs sl M (pc + 3) ls st) : J G base X cs sl M pc ls (.int y :: .int x :: st) := by
  subst hx; subst hy
  refine r_icmp_ne hX hd ht (fun c => kt ?_) (fun c => kf ?_)
  all_goals
    first
      | (have h1 := nI_leI ha hb; have h2 := nI_leI hb ha; have h3 := nI_ltI ha hb; have h4 := nI_ltI hb ha; have h5 := nI_eq ha hb; simp only [h1, h2, h3, h4, h5, ne_eq, ge_iff_le, gt_iff_lt] at c; omega)
theorem rn_icmp_lt (hX : okX G base X cc own nL ret d mc ms post) {x y : Int32} {a b : Nat} {off : Int} {tgt : Nat} (hd : decode cc pc = .ok (.if_icmp .lt off, 3)) (ht : (pc : Int) + off = (tgt : Int)) (hx : x = nI a) (hy : y = nI b) (ha : a < 2147483648) (hb : b < 2147483648) (kt : a < b → J G base X cs sl M tgt ls st) (kf : b ≤ a → J G base X cs sl M (pc + 3) ls st) : J G base X cs sl M pc ls (.int y :: .int x :: st) := by
  subst hx; subst hy
  refine r_icmp_lt hX hd ht (fun c => kt ?_) (fun c => kf ?_)
  all_goals
    first
      | (have h1 := nI_leI ha hb; have h2 := nI_leI hb ha; have h3 := nI_ltI ha hb; have h4 := nI_ltI hb ha; have h5 := nI_eq ha hb; simp only [h1, h2, h3, h4, h5, ne_eq, ge_iff_le, gt_iff_lt] at c; omega)
theorem rn_icmp_ge (hX : okX G base X cc own nL ret d mc ms post) {x y : Int32} {a b : Nat} {off : Int} {tgt : Nat} (hd : decode cc pc = .ok (.if_icmp .ge off, 3)) (ht : (pc : Int) + off = (tgt : Int)) (hx : x = nI a) (hy : y = nI b) (ha : a < 2147483648) (hb : b < 2147483648) (kt : b ≤ a → J G base X cs sl M tgt ls st) (kf : a < b → J G base X cs sl M (pc + 3) ls st) : J G base X cs sl M pc ls (.int y :: .int x :: st) := by
  subst hx; subst hy
  refine r_icmp_ge hX hd ht (fun c => kt ?_) (fun c => kf ?_)
  all_goals
    first
      | (have h1 := nI_leI ha hb; have h2 := nI_leI hb ha; have h3 := nI_ltI ha hb; have h4 := nI_ltI hb ha; have h5 := nI_eq ha hb; simp only [h1, h2, h3, h4, h5, ne_eq, ge_iff_le, gt_iff_lt] at c; omega)
theorem rn_icmp_gt (hX : okX G base X cc own nL ret d mc ms post) {x y : Int32} {a b : Nat} {off : Int} {tgt : Nat} (hd : decode cc pc = .ok (.if_icmp .gt off, 3)) (ht : (pc : Int) + off = (tgt : Int)) (hx : x = nI a) (hy : y = nI b) (ha : a < 2147483648) (hb : b < 2147483648) (kt : b < a → J G base X cs sl M tgt ls st) (kf : a ≤ b → J G base X cs sl M (pc + 3) ls st) : J G base X cs sl M pc ls (.int y :: .int x :: st) := by
  subst hx; subst hy
  refine r_icmp_gt hX hd ht (fun c => kt ?_) (fun c => kf ?_)
  all_goals
    first
      | (have h1 := nI_leI ha hb; have h2 := nI_leI hb ha; have h3 := nI_ltI ha hb; have h4 := nI_ltI hb ha; have h5 := nI_eq ha hb; simp only [h1, h2, h3, h4, h5, ne_eq, ge_iff_le, gt_iff_lt] at c; omega)
theorem rn_icmp_le (hX : okX G base X cc own nL ret d mc ms post) {x y : Int32} {a b : Nat} {off : Int} {tgt : Nat} (hd : decode cc pc = .ok (.if_icmp .le off, 3)) (ht : (pc : Int) + off = (tgt : Int)) (hx : x = nI a) (hy : y = nI b) (ha : a < 2147483648) (hb : b < 2147483648) (kt : a ≤ b → J G base X cs sl M tgt ls st) (kf : b < a → J G base X cs sl M (pc + 3) ls st) : J G base X cs sl M pc ls (.int y :: .int x :: st) := by
  subst hx; subst hy
  refine r_icmp_le hX hd ht (fun c => kt ?_) (fun c => kf ?_)
  all_goals
    first
      | (have h1 := nI_leI ha hb; have h2 := nI_leI hb ha; have h3 := nI_ltI ha hb; have h4 := nI_ltI hb ha; have h5 := nI_eq ha hb; simp only [h1, h2, h3, h4, h5, ne_eq, ge_iff_le, gt_iff_lt] at c; omega)
theorem rn_if_eq (hX : okX G base X cc own nL ret d mc ms post) {x : Int32} {a : Nat} {off : Int} {tgt : Nat} (hd : decode cc pc = .ok (.ifCond .eq off, 3)) (ht : (pc : Int) + off = (tgt : Int)) (hx : x = nI a) (ha : a < 2147483648) (kt : a = 0 → J G base X cs sl M tgt ls st) (kf : a ≠ 0 → J G base X cs sl M (pc + 3) ls st) : J G base X cs sl M pc ls (.int x :: st) := by
  subst hx
  have hb : 0 < 2147483648 := by decide
  have h1 := nI_leI ha hb; have h2 := nI_leI hb ha; have h3 := nI_ltI ha hb; have h4 := nI_ltI hb ha; have h5 := nI_eq ha hb
  rw [nI_0] at h1 h2 h3 h4 h5
  refine r_if_eq hX hd ht (fun c => kt ?_) (fun c => kf ?_)
  all_goals (simp only [h1, h2, h3, h4, h5, ne_eq, ge_iff_le, gt_iff_lt] at c; omega)
theorem rn_if_ne (hX : okX G base X cc own nL ret d mc ms post) {x : Int32} {a : Nat} {off : Int} {tgt : Nat} (hd : decode cc pc = .ok (.ifCond .ne off, 3)) (ht : (pc : Int) + off = (tgt : Int)) (hx : x = nI a) (ha : a < 2147483648) (kt : a ≠ 0 → J G base X cs sl M tgt ls st) (kf : a = 0 → J G base X cs sl M (pc + 3) ls st) : J G base X cs sl M pc ls (.int x :: st) := by
  subst hx
  have hb : 0 < 2147483648 := by decide
  have h1 := nI_leI ha hb; have h2 := nI_leI hb ha; have h3 := nI_ltI ha hb; have h4 := nI_ltI hb ha; have h5 := nI_eq ha hb
  rw [nI_0] at h1 h2 h3 h4 h5
  refine r_if_ne hX hd ht (fun c => kt ?_) (fun c => kf ?_)
  all_goals (simp only [h1, h2, h3, h4, h5, ne_eq, ge_iff_le, gt_iff_lt] at c; omega)
theorem rn_if_le (hX : okX G base X cc own nL ret d mc ms post) {x : Int32} {a : Nat} {off : Int} {tgt : Nat} (hd : decode cc pc = .ok (.ifCond .le off, 3)) (ht : (pc : Int) + off = (tgt : Int)) (hx : x = nI a) (ha : a < 2147483648) (kt : a = 0 → J G base X cs sl M tgt ls st) (kf : 0 < a → J G base X cs sl M (pc + 3) ls st) : J G base X cs sl M pc ls (.int x :: st) := by
  subst hx
  have hb : 0 < 2147483648 := by decide
  have h1 := nI_leI ha hb; have h2 := nI_leI hb ha; have h3 := nI_ltI ha hb; have h4 := nI_ltI hb ha; have h5 := nI_eq ha hb
  rw [nI_0] at h1 h2 h3 h4 h5
  refine r_if_le hX hd ht (fun c => kt ?_) (fun c => kf ?_)
  all_goals (simp only [h1, h2, h3, h4, h5, ne_eq, ge_iff_le, gt_iff_lt] at c; omega)
theorem rn_if_gt (hX : okX G base X cc own nL ret d mc ms post) {x : Int32} {a : Nat} {off : Int} {tgt : Nat} (hd : decode cc pc = .ok (.ifCond .gt off, 3)) (ht : (pc : Int) + off = (tgt : Int)) (hx : x = nI a) (ha : a < 2147483648) (kt : 0 < a → J G base X cs sl M tgt ls st) (kf : a = 0 → J G base X cs sl M (pc + 3) ls st) : J G base X cs sl M pc ls (.int x :: st) := by
  subst hx
  have hb : 0 < 2147483648 := by decide
  have h1 := nI_leI ha hb; have h2 := nI_leI hb ha; have h3 := nI_ltI ha hb; have h4 := nI_ltI hb ha; have h5 := nI_eq ha hb
  rw [nI_0] at h1 h2 h3 h4 h5
  refine r_if_gt hX hd ht (fun c => kt ?_) (fun c => kf ?_)
  all_goals (simp only [h1, h2, h3, h4, h5, ne_eq, ge_iff_le, gt_iff_lt] at c; omega)
/-- a number is not below 0 -/
theorem rn_if_lt (hX : okX G base X cc own nL ret d mc ms post) {x : Int32} {a : Nat} {off : Int} (hd : decode cc pc = .ok (.ifCond .lt off, 3)) {tgt : Nat} (ht : (pc : Int) + off = (tgt : Int)) (hx : x = nI a) (ha : a < 2147483648) (kf : J G base X cs sl M (pc + 3) ls st) : J G base X cs sl M pc ls (.int x :: st) := by
  subst hx
  exact r_if_lt hX hd ht (fun c => absurd c (nI_pos ha)) (fun _ => kf)
theorem rn_if_ge (hX : okX G base X cc own nL ret d mc ms post) {x : Int32} {a : Nat} {off : Int} (hd : decode cc pc = .ok (.ifCond .ge off, 3)) {tgt : Nat} (ht : (pc : Int) + off = (tgt : Int)) (hx : x = nI a) (ha : a < 2147483648) (kf : J G base X cs sl M tgt ls st) : J G base X cs sl M pc ls (.int x :: st) := by
  subst hx
  exact r_if_ge hX hd ht (fun _ => kf) (fun c => absurd (by first | exact nI_pos' ha | exact (nI_pos ha)) c)
theorem rn_iinc0 (hX : okX G base X cc own nL ret d mc ms post) {t : List (Option Value)} {x : Int32} {j : Nat} (hd : decode cc pc = .ok (.iinc 0 1, 3)) (h1 : lc1 (some (.int x) :: t) = true) (hx : x = nI j) (k : J G base X cs sl M (pc + 3) (some (.int (nI (j + 1))) :: t) st) : J G base X cs sl M pc (some (.int x) :: t) st := by
  subst hx
  refine r_iinc0 hX hd h1 ?_
  rw [show nI j + Int32.ofInt 1 = nI (j + 1) from (nI_1 j)]
  exact k
theorem rn_iinc1 (hX : okX G base X cc own nL ret d mc ms post) {o0 : Option Value} {t : List (Option Value)} {x : Int32} {j : Nat} (hd : decode cc pc = .ok (.iinc 1 1, 3)) (h1 : lc1 (o0 :: some (.int x) :: t) = true) (hx : x = nI j) (k : J G base X cs sl M (pc + 3) (o0 :: some (.int (nI (j + 1))) :: t) st) : J G base X cs sl M pc (o0 :: some (.int x) :: t) st := by
  subst hx
  refine r_iinc1 hX hd h1 ?_
  rw [show nI j + Int32.ofInt 1 = nI (j + 1) from (nI_1 j)]
  exact k
theorem rn_iinc2 (hX : okX G base X cc own nL ret d mc ms post) {o0 o1 : Option Value} {t : List (Option Value)} {x : Int32} {j : Nat} (hd : decode cc pc = .ok (.iinc 2 1, 3)) (h1 : lc1 (o0 :: o1 :: some (.int x) :: t) = true) (hx : x = nI j) (k : J G base X cs sl M (pc + 3) (o0 :: o1 :: some (.int (nI (j + 1))) :: t) st) : J G base X cs sl M pc (o0 :: o1 :: some (.int x) :: t) st := by
  subst hx
  refine r_iinc2 hX hd h1 ?_
  rw [show nI j + Int32.ofInt 1 = nI (j + 1) from (nI_1 j)]
  exact k
theorem rn_iinc3 (hX : okX G base X cc own nL ret d mc ms post) {o0 o1 o2 : Option Value} {t : List (Option Value)} {x : Int32} {j : Nat} (hd : decode cc pc = .ok (.iinc 3 1, 3)) (h1 : lc1 (o0 :: o1 :: o2 :: some (.int x) :: t) = true) (hx : x = nI j) (k : J G base X cs sl M (pc + 3) (o0 :: o1 :: o2 :: some (.int (nI (j + 1))) :: t) st) : J G base X cs sl M pc (o0 :: o1 :: o2 :: some (.int x) :: t) st := by
  subst hx
  refine r_iinc3 hX hd h1 ?_
  rw [show nI j + Int32.ofInt 1 = nI (j + 1) from (nI_1 j)]
  exact k
theorem rn_iinc4 (hX : okX G base X cc own nL ret d mc ms post) {o0 o1 o2 o3 : Option Value} {t : List (Option Value)} {x : Int32} {j : Nat} (hd : decode cc pc = .ok (.iinc 4 1, 3)) (h1 : lc1 (o0 :: o1 :: o2 :: o3 :: some (.int x) :: t) = true) (hx : x = nI j) (k : J G base X cs sl M (pc + 3) (o0 :: o1 :: o2 :: o3 :: some (.int (nI (j + 1))) :: t) st) : J G base X cs sl M pc (o0 :: o1 :: o2 :: o3 :: some (.int x) :: t) st := by
  subst hx
  refine r_iinc4 hX hd h1 ?_
  rw [show nI j + Int32.ofInt 1 = nI (j + 1) from (nI_1 j)]
  exact k
theorem rn_iinc5 (hX : okX G base X cc own nL ret d mc ms post) {o0 o1 o2 o3 o4 : Option Value} {t : List (Option Value)} {x : Int32} {j : Nat} (hd : decode cc pc = .ok (.iinc 5 1, 3)) (h1 : lc1 (o0 :: o1 :: o2 :: o3 :: o4 :: some (.int x) :: t) = true) (hx : x = nI j) (k : J G base X cs sl M (pc + 3) (o0 :: o1 :: o2 :: o3 :: o4 :: some (.int (nI (j + 1))) :: t) st) : J G base X cs sl M pc (o0 :: o1 :: o2 :: o3 :: o4 :: some (.int x) :: t) st := by
  subst hx
  refine r_iinc5 hX hd h1 ?_
  rw [show nI j + Int32.ofInt 1 = nI (j + 1) from (nI_1 j)]
  exact k
theorem rn_iinc6 (hX : okX G base X cc own nL ret d mc ms post) {o0 o1 o2 o3 o4 o5 : Option Value} {t : List (Option Value)} {x : Int32} {j : Nat} (hd : decode cc pc = .ok (.iinc 6 1, 3)) (h1 : lc1 (o0 :: o1 :: o2 :: o3 :: o4 :: o5 :: some (.int x) :: t) = true) (hx : x = nI j) (k : J G base X cs sl M (pc + 3) (o0 :: o1 :: o2 :: o3 :: o4 :: o5 :: some (.int (nI (j + 1))) :: t) st) : J G base X cs sl M pc (o0 :: o1 :: o2 :: o3 :: o4 :: o5 :: some (.int x) :: t) st := by
  subst hx
  refine r_iinc6 hX hd h1 ?_
  rw [show nI j + Int32.ofInt 1 = nI (j + 1) from (nI_1 j)]
  exact k
theorem rn_iinc7 (hX : okX G base X cc own nL ret d mc ms post) {o0 o1 o2 o3 o4 o5 o6 : Option Value} {t : List (Option Value)} {x : Int32} {j : Nat} (hd : decode cc pc = .ok (.iinc 7 1, 3)) (h1 : lc1 (o0 :: o1 :: o2 :: o3 :: o4 :: o5 :: o6 :: some (.int x) :: t) = true) (hx : x = nI j) (k : J G base X cs sl M (pc + 3) (o0 :: o1 :: o2 :: o3 :: o4 :: o5 :: o6 :: some (.int (nI (j + 1))) :: t) st) : J G base X cs sl M pc (o0 :: o1 :: o2 :: o3 :: o4 :: o5 :: o6 :: some (.int x) :: t) st := by
  subst hx
  refine r_iinc7 hX hd h1 ?_
  rw [show nI j + Int32.ofInt 1 = nI (j + 1) from (nI_1 j)]
  exact k
theorem rn_iinc8 (hX : okX G base X cc own nL ret d mc ms post) {o0 o1 o2 o3 o4 o5 o6 o7 : Option Value} {t : List (Option Value)} {x : Int32} {j : Nat} (hd : decode cc pc = .ok (.iinc 8 1, 3)) (h1 : lc1 (o0 :: o1 :: o2 :: o3 :: o4 :: o5 :: o6 :: o7 :: some (.int x) :: t) = true) (hx : x = nI j) (k : J G base X cs sl M (pc + 3) (o0 :: o1 :: o2 :: o3 :: o4 :: o5 :: o6 :: o7 :: some (.int (nI (j + 1))) :: t) st) : J G base X cs sl M pc (o0 :: o1 :: o2 :: o3 :: o4 :: o5 :: o6 :: o7 :: some (.int x) :: t) st := by
  subst hx
  refine r_iinc8 hX hd h1 ?_
  rw [show nI j + Int32.ofInt 1 = nI (j + 1) from (nI_1 j)]
  exact k
theorem rn_iinc9 (hX : okX G base X cc own nL ret d mc ms post) {o0 o1 o2 o3 o4 o5 o6 o7 o8 : Option Value} {t : List (Option Value)} {x : Int32} {j : Nat} (hd : decode cc pc = .ok (.iinc 9 1, 3)) (h1 : lc1 (o0 :: o1 :: o2 :: o3 :: o4 :: o5 :: o6 :: o7 :: o8 :: some (.int x) :: t) = true) (hx : x = nI j) (k : J G base X cs sl M (pc + 3) (o0 :: o1 :: o2 :: o3 :: o4 :: o5 :: o6 :: o7 :: o8 :: some (.int (nI (j + 1))) :: t) st) : J G base X cs sl M pc (o0 :: o1 :: o2 :: o3 :: o4 :: o5 :: o6 :: o7 :: o8 :: some (.int x) :: t) st := by
  subst hx
  refine r_iinc9 hX hd h1 ?_
  rw [show nI j + Int32.ofInt 1 = nI (j + 1) from (nI_1 j)]
  exact k
theorem rb_if_eq (hX : okX G base X cc own nL ret d mc ms post) {x : Int32} {P : Prop} [hP : Decidable P] {off : Int} {tgt : Nat} (hd : decode cc pc = .ok (.ifCond .eq off, 3)) (ht : (pc : Int) + off = (tgt : Int)) (hx : x = if P then 1 else 0) (kt : ¬ P → J G base X cs sl M tgt ls st) (kf : P → J G base X cs sl M (pc + 3) ls st) : J G base X cs sl M pc ls (.int x :: st) := by
  subst hx
  refine r_if_eq hX hd ht (fun c => kt ?_) (fun c => kf ?_)
  all_goals (by_cases h : P <;> simp [h] at c ⊢)
theorem rb_if_ne (hX : okX G base X cc own nL ret d mc ms post) {x : Int32} {P : Prop} [hP : Decidable P] {off : Int} {tgt : Nat} (hd : decode cc pc = .ok (.ifCond .ne off, 3)) (ht : (pc : Int) + off = (tgt : Int)) (hx : x = if P then 1 else 0) (kt : P → J G base X cs sl M tgt ls st) (kf : ¬ P → J G base X cs sl M (pc + 3) ls st) : J G base X cs sl M pc ls (.int x :: st) := by
  subst hx
  refine r_if_ne hX hd ht (fun c => kt ?_) (fun c => kf ?_)
  all_goals (by_cases h : P <;> simp [h] at c ⊢)
end NR
