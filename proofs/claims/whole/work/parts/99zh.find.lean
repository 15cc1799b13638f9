variable {G : GG} {base : Nat}
/-- what the found letters become -/
theorem fouN_o {x : Nat → Int32} {l p q : Nat} (h : q ≠ 498 + 10 * l + 3) (h4 : q ≠ 498 + 10 * l + 4) (h7 : q ≠ 498 + 10 * l + 7) : fouN x l p q = x q := by
  unfold fouN liesN
  split
  · rw [upd_o h7, upd_o h4, upd_o h]
  · rw [upd_o h4, upd_o h]
theorem un_fou2 {x : Nat → Int32} {l l' p : Nat} (h : l' ≠ l) : unL (fouN x l p) x l' := fun f hf => fouN_o (by omega) (by omega) (by omega)
/-- found with the sack, or in a sack behind it -/
abbrev fo1 (n : Nat → Int32) (k l : Nat) : Prop := n (498 + 10 * l + 3) = 3 ∧ n (498 + 10 * l + 4) = nI k
abbrev fo2 (n : Nat → Int32) (k l : Nat) : Prop := n (498 + 10 * l + 3) = 3 ∧ nI k < n (498 + 10 * l + 4)
theorem fouL_same {n : Nat → Int32} {k p : Nat} {l : Nat} (hl : l < 30) : ∀ j, j ≤ 30 → (j ≤ l ∨ (¬ fo1 n k l ∧ ¬ fo2 n k l)) → unL (fouL n k p j) n l
  | 0, _, _ => unL.rf
  | j + 1, hj, h => by
    have ih := fouL_same (n := n) (k := k) (p := p) hl j (by omega) (h.imp (fun z => by omega) id)
    simp only [fouL]
    by_cases e : l = j
    · subst e
      have h' : ¬ fo1 n k l ∧ ¬ fo2 n k l := h.resolve_left (by omega)
      rw [ih 3 (by omega), ih 4 (by omega), if_neg h'.1, if_neg h'.2]
      exact ih
    · split
      · exact ((un_wr hl).tr (un_fou2 e)).tr ih
      · split
        · exact (un_up (f' := 4) e (by omega)).tr ih
        · exact ih
theorem fouL_st {n : Nat → Int32} {k p : Nat} {l : Nat} (hl : l < 30) : ∀ j, j ≤ 30 → l < j → unL (fouL n k p j) (fouL n k p (l + 1)) l
  | 0, _, h => by omega
  | j + 1, hj, h => by
    by_cases e : l = j
    · subst e
      exact unL.rf
    · have ih := fouL_st (n := n) (k := k) (p := p) hl j (by omega) (by omega)
      refine unL.tr ?_ ih
      simp only [fouL]
      split
      · exact (un_wr hl).tr (un_fou2 e)
      · split
        · exact un_up (f' := 4) e (by omega)
        · exact unL.rf
theorem fouL_1 {n : Nat → Int32} {k p : Nat} {l m : Nat} (hl : l < m) (hm : m ≤ 30) (hd : fo1 n k l) : (∀ f, f < 9 → f ≠ 3 → f ≠ 4 → f ≠ 7 → fouL n k p m (498 + 10 * l + f) = n (498 + 10 * l + f)) ∧ fouL n k p m (498 + 10 * l + 3) = (if n (498 + 10 * l + 1) = nI p then 2 else 0) ∧ fouL n k p m (498 + 10 * l + 4) = nI p := by
  have hu := fouL_same (n := n) (k := k) (p := p) (l := l) (by omega) l (by omega) (Or.inl (Nat.le_refl l))
  have hs := fouL_st (n := n) (k := k) (p := p) (l := l) (by omega) m hm hl
  have e1 : fouL n k p (l + 1) = wrL (fouN (fouL n k p l) l p) l 5 (-1) (nI p) := by
    simp only [fouL]
    rw [hu 3 (by omega), hu 4 (by omega), if_pos hd]
  refine ⟨fun f hf a b c => ?_, ?_, ?_⟩
  · rw [hs f hf, e1, wrL_lo (by omega) (by omega), fouN_o (by omega) (by omega) (by omega)]
    exact hu f hf
  · rw [hs 3 (by omega), e1, wrL_lo (by omega) (by omega)]
    unfold fouN liesN
    rw [hu 1 (by omega)]
    split
    · rw [upd_o (by omega), upd_o (by omega), upd_s]
    · rw [upd_o (by omega), upd_s]
  · rw [hs 4 (by omega), e1, wrL_lo (by omega) (by omega)]
    unfold fouN liesN
    split
    · rw [upd_o (by omega), upd_s]
    · rw [upd_s]
theorem fouL_2 {n : Nat → Int32} {k p : Nat} {l m : Nat} (hl : l < m) (hm : m ≤ 30) (hd0 : ¬ fo1 n k l) (hd : fo2 n k l) : (∀ f, f < 9 → f ≠ 4 → fouL n k p m (498 + 10 * l + f) = n (498 + 10 * l + f)) ∧ fouL n k p m (498 + 10 * l + 4) = n (498 + 10 * l + 4) - 1 := by
  have hu := fouL_same (n := n) (k := k) (p := p) (l := l) (by omega) l (by omega) (Or.inl (Nat.le_refl l))
  have hs := fouL_st (n := n) (k := k) (p := p) (l := l) (by omega) m hm hl
  have e1 : fouL n k p (l + 1) = upd (fouL n k p l) (498 + 10 * l + 4) (fouL n k p l (498 + 10 * l + 4) - 1) := by
    simp only [fouL]
    rw [hu 3 (by omega), hu 4 (by omega), if_neg hd0, if_pos hd]
  refine ⟨fun f hf a => ?_, ?_⟩
  · rw [hs f hf, e1, upd_o (by omega)]
    exact hu f hf
  · rw [hs 4 (by omega), e1, upd_s, hu 4 (by omega)]
theorem fou_798 {n : Nat → Int32} {k p : Nat} {q : Nat} (h1 : 798 ≤ q) (h2 : q < 858) : ∀ j, j ≤ 30 → fouL n k p j q = n q
  | 0, _ => rfl
  | j + 1, hj => by
    simp only [fouL]
    split
    · rw [wrL_798 h1 h2, fouN_o (by omega) (by omega) (by omega)]
      exact fou_798 h1 h2 j (by omega)
    · split
      · rw [upd_o (by omega)]
        exact fou_798 h1 h2 j (by omega)
      · exact fou_798 h1 h2 j (by omega)
set_option maxHeartbeats 1000000 in
theorem find_ok {T : Nat} {n : Nat → Int32} {k p : Nat} (h : OkN T n) (hk : k < nv n 3) (hp : town n p = true) : OkN T (findN n k p) ∧ tbR n (findN n k p) := by
  have h30 := h.2.2.1.1.2
  have h33 := h.2.2.1.2.1.2
  have h10 := h.1.1.2
  have hpl := town_lt hp
  unfold findN
  have hs := fouL_sm (n := n) (k := k) (p := p) h.2.2.2.1 (nv n 2)
  have q8 : ∀ q, 798 ≤ q → q < 858 → fouL n k p (nv n 2) q = n q := fun q a b => fou_798 a b (nv n 2) (by omega)
  have un : ∀ l, l < nv n 2 → ¬ fo1 n k l → ¬ fo2 n k l → unL (fouL n k p (nv n 2)) n l := fun l hl a b => fouL_same (by omega) (nv n 2) (by omega) (Or.inr ⟨a, b⟩)
  have f1 : ∀ l, l < nv n 2 → fo1 n k l → (∀ f, f < 9 → f ≠ 3 → f ≠ 4 → f ≠ 7 → fouL n k p (nv n 2) (498 + 10 * l + f) = n (498 + 10 * l + f)) ∧ fouL n k p (nv n 2) (498 + 10 * l + 3) = (if n (498 + 10 * l + 1) = nI p then 2 else 0) ∧ fouL n k p (nv n 2) (498 + 10 * l + 4) = nI p := fun l hl a => fouL_1 hl h30 a
  have f2 : ∀ l, l < nv n 2 → ¬ fo1 n k l → fo2 n k l → (∀ f, f < 9 → f ≠ 4 → fouL n k p (nv n 2) (498 + 10 * l + f) = n (498 + 10 * l + f)) ∧ fouL n k p (nv n 2) (498 + 10 * l + 4) = n (498 + 10 * l + 4) - 1 := fun l hl a b => fouL_2 hl h30 a b
  generalize fouL n k p (nv n 2) = y at hs q8 un f1 f2
  have e3 : nv (upd y 3 (nI (nv n 3 - 1))) 3 = nv n 3 - 1 := nv_of upd_s (by omega)
  have xo : ∀ q, q < 798 → q ≠ 3 → mvN (upd y 3 (nI (nv n 3 - 1))) k q = y q := fun q a b => by
    unfold mvN
    rw [if_neg (by omega), upd_o b]
  have x3 : mvN (upd y 3 (nI (nv n 3 - 1))) k 3 = nI (nv n 3 - 1) := by
    unfold mvN
    rw [if_neg (by omega), upd_s]
  have xk : ∀ j, j < nv n 3 - 1 → mvN (upd y 3 (nI (nv n 3 - 1))) k (798 + 2 * j) = n (798 + 2 * (if j < k then j else j + 1)) := fun j hj => by
    unfold mvN
    rw [e3]
    by_cases e : j < k
    · rw [if_neg (by omega), if_pos e, upd_o (by omega)]
      exact q8 _ (by omega) (by omega)
    · rw [if_pos (by omega), if_neg e, upd_o (by omega), show 798 + 2 * j + 2 = 798 + 2 * (j + 1) by omega]
      exact q8 _ (by omega) (by omega)
  generalize mvN (upd y 3 (nI (nv n 3 - 1))) k = x at xo x3 xk
  have xn : ∀ q, q < 498 → q ≠ 3 → q ≠ 4 → q ≠ 7 → x q = n q := fun q a b c d => (xo q (by omega) b).trans (hs.1 q a c d)
  have n3 : nv x 3 = nv n 3 - 1 := nv_of x3 (by omega)
  have hR : tbR n x := ⟨(xn _ (by omega) (by omega) (by omega) (by omega)).symm, (xn _ (by omega) (by omega) (by omega) (by omega)).symm, fun q a b => (xn _ (by omega) (by omega) (by omega) (by omega)).symm, fun q a b => (xn _ (by omega) (by omega) (by omega) (by omega)).symm⟩
  have e2 : nv x 2 = nv n 2 := nv_eq (xn _ (by omega) (by omega) (by omega) (by omega))
  refine ⟨ok_of h hR (fun q a b => xn _ (by omega) (by omega) (by omega) (by omega)) (xn _ (by omega) (by omega) (by omega) (by omega)) (Rn.mk x3 (by omega)) (hs.2.eq (xo 4 (by omega) (by omega))) (xn _ (by omega) (by omega) (by omega) (by omega)) (xn _ (by omega) (by omega) (by omega) (by omega)) (fun d hd => ?_) (fun l hl => ?_) (fun j hj => ?_), hR⟩
  · rw [xn _ (by omega) (by omega) (by omega) (by omega)]
    exact h.2.2.2.2.2.2.2.1 d hd
  · obtain ⟨f, t, v', s, w, g1, g2, g3, g4, g5, g6, g7, g8, g9, g10, g11, g12, g13, g14, g15⟩ := h.2.2.1.2.2 l hl
    have tt := town_lt g7
    have xf : ∀ f, f < 9 → x (498 + 10 * l + f) = y (498 + 10 * l + f) := fun f hf => xo _ (by omega) (by omega)
    have s3 : n (498 + 10 * l + 3) = 3 → s = 3 := fun z => (nI_eq (a := s) (b := 3) (by omega) (by omega)).mp (g4.symm.trans z)
    by_cases d1 : fo1 n k l
    · obtain ⟨a, b, d⟩ := f1 l hl d1
      refine ⟨f, t, v', (if t = p then 2 else 0), p, (xf 0 (by omega)).trans ((a 0 (by omega) (by omega) (by omega) (by omega)).trans g1), (xf 1 (by omega)).trans ((a 1 (by omega) (by omega) (by omega) (by omega)).trans g2), (xf 2 (by omega)).trans ((a 2 (by omega) (by omega) (by omega) (by omega)).trans g3), ?_, (xf 4 (by omega)).trans d, hR.tn h10 g6, hR.tn h10 g7, g8, g9, by split <;> omega, fun z => ⟨hR.tn h10 hp, fun y => by rw [if_pos y.symm] at z; omega⟩, fun z => by split at z <;> omega, fun z => by
        split at z
        · rename_i y; exact y.symm
        · omega, fun z => by split at z <;> omega, by rw [xf 8 (by omega), a 8 (by omega) (by omega) (by omega) (by omega)]; exact g15⟩
      rw [xf 3 (by omega), b, g2]
      by_cases e : t = p
      · rw [if_pos e, if_pos (by rw [e])]; rfl
      · rw [if_neg e, if_neg (fun z => e ((nI_eq (by omega) (by omega)).mp z))]; rfl
    · by_cases d2 : fo2 n k l
      · obtain ⟨a, b⟩ := f2 l hl d1 d2
        have hs3 := s3 d2.1
        have hw := g14 hs3
        have hkw : k < w := by
          have z := d2.2
          rw [g5, nI_ltI (by omega) (by omega)] at z
          exact z
        refine ⟨f, t, v', s, w - 1, (xf 0 (by omega)).trans ((a 0 (by omega) (by omega)).trans g1), (xf 1 (by omega)).trans ((a 1 (by omega) (by omega)).trans g2), (xf 2 (by omega)).trans ((a 2 (by omega) (by omega)).trans g3), (xf 3 (by omega)).trans ((a 3 (by omega) (by omega)).trans g4), ?_, hR.tn h10 g6, hR.tn h10 g7, g8, g9, g10, fun z => by omega, fun z => by omega, fun z => by omega, fun z => by omega, by rw [xf 8 (by omega), a 8 (by omega) (by omega)]; exact g15⟩
        rw [xf 4 (by omega), b, g5]
        exact pk_sub (b := 1) (by omega)
      · have u := un l hl d1 d2
        refine ⟨f, t, v', s, w, (xf 0 (by omega)).trans ((u 0 (by omega)).trans g1), (xf 1 (by omega)).trans ((u 1 (by omega)).trans g2), (xf 2 (by omega)).trans ((u 2 (by omega)).trans g3), (xf 3 (by omega)).trans ((u 3 (by omega)).trans g4), (xf 4 (by omega)).trans ((u 4 (by omega)).trans g5), hR.tn h10 g6, hR.tn h10 g7, g8, g9, g10, fun z => ⟨hR.tn h10 (g11 z).1, (g11 z).2⟩, fun z => by rw [nv_eq hR.2.1.symm]; exact g12 z, g13, fun z => ?_, by rw [xf 8 (by omega), u 8 (by omega)]; exact g15⟩
        have hw := g14 z
        have e4 : n (498 + 10 * l + 3) = 3 := by rw [g4, z]; rfl
        have a1 : ¬ w = k := fun y => d1 ⟨e4, by rw [g5, y]⟩
        have a2 : ¬ k < w := fun y => d2 ⟨e4, by rw [g5, nI_ltI (by omega) (by omega)]; exact y⟩
        omega
  · rw [n3] at hj
    rw [xk j hj]
    by_cases e : j < k
    · rw [if_pos e]
      obtain ⟨a, l2, g1, g2, g3⟩ := h.2.2.2.2.2.2.1 j (by omega)
      have u := un l2 g1 (fun z => by
        have := (nI_eq (a := j) (b := k) (by omega) (by omega)).mp (g3.symm.trans z.2)
        omega) (fun z => by
        have y := z.2
        rw [g3, nI_ltI (by omega) (by omega)] at y
        omega)
      exact ⟨a, l2, by rw [e2]; exact g1, (xo _ (by omega) (by omega)).trans ((u 3 (by omega)).trans g2), (xo _ (by omega) (by omega)).trans ((u 4 (by omega)).trans g3)⟩
    · rw [if_neg e]
      obtain ⟨a, l2, g1, g2, g3⟩ := h.2.2.2.2.2.2.1 (j + 1) (by omega)
      obtain ⟨b1, b2⟩ := f2 l2 g1 (fun z => by
        have := (nI_eq (a := j + 1) (b := k) (by omega) (by omega)).mp (g3.symm.trans z.2)
        omega) ⟨g2, by rw [g3, nI_ltI (by omega) (by omega)]; omega⟩
      refine ⟨a, l2, by rw [e2]; exact g1, (xo _ (by omega) (by omega)).trans ((b1 3 (by omega) (by omega)).trans g2), ?_⟩
      rw [xo _ (by omega) (by omega), b2, g3]
      exact (pk_sub (b := 1) (by omega)).trans (congrArg nI (by omega))
