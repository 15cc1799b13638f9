variable {G : GG} {base : Nat}
/-- a letter is as it should be -/
def LtL (n : Nat → Int32) (l : Nat) : Prop := ∃ f t v s w : Nat, n (498 + 10 * l) = nI f ∧ n (498 + 10 * l + 1) = nI t ∧ n (498 + 10 * l + 2) = nI v ∧ n (498 + 10 * l + 3) = nI s ∧ n (498 + 10 * l + 4) = nI w ∧ town n f = true ∧ town n t = true ∧ f ≠ t ∧ v < 1000 ∧ s < 4 ∧ (s = 0 → town n w = true ∧ w ≠ t) ∧ (s = 1 → w < nv n 1) ∧ (s = 2 → w = t) ∧ (s = 3 → w < nv n 3) ∧ (n (498 + 10 * l + 8) = 0 ∨ n (498 + 10 * l + 8) = 1)
/-- nothing of the letter has changed but its trace -/
def unL (x n : Nat → Int32) (l : Nat) : Prop := ∀ f, f < 9 → x (498 + 10 * l + f) = n (498 + 10 * l + f)
theorem unL.tr {x y n : Nat → Int32} {l : Nat} (h : unL x y l) (h2 : unL y n l) : unL x n l := fun f hf => (h f hf).trans (h2 f hf)
theorem unL.rf {n : Nat → Int32} {l : Nat} : unL n n l := fun _ _ => rfl
/-- the tables, and how many letters and lost sacks there are -/
def tb3 (x n : Nat → Int32) : Prop := tabEq x n ∧ x 3 = n 3
theorem sm.t3 {x n : Nat → Int32} (h : sm x n) : tb3 x n := ⟨h.tab, h.1 3 (by omega) (by omega) (by omega)⟩
theorem tb3.town {x n : Nat → Int32} (h : tb3 x n) (h0 : nv n 0 ≤ 10) {p : Nat} : town x p = town n p := (town_eq h.1.sm h0).symm
theorem tb3.nv1 {x n : Nat → Int32} (h : tb3 x n) : nv x 1 = nv n 1 := by show (x 1).toNatClampNeg = _; rw [h.1.2.1]
theorem tb3.nv3 {x n : Nat → Int32} (h : tb3 x n) : nv x 3 = nv n 3 := by show (x 3).toNatClampNeg = _; rw [h.2]
theorem LtL.un {x n : Nat → Int32} {l : Nat} (h : tb3 x n) (h0 : nv n 0 ≤ 10) (hu : unL x n l) (hl : LtL n l) : LtL x l := by
  obtain ⟨f, t, v, s, w, e0, e1, e2, e3, e4, k1, k2, k3, k4, k5, k6, k7, k8, k9, k10⟩ := hl
  refine ⟨f, t, v, s, w, (hu 0 (by omega)).trans e0, (hu 1 (by omega)).trans e1, (hu 2 (by omega)).trans e2, (hu 3 (by omega)).trans e3, (hu 4 (by omega)).trans e4, ?_, ?_, k3, k4, k5, ?_, ?_, k8, ?_, ?_⟩
  · rw [h.town h0]; exact k1
  · rw [h.town h0]; exact k2
  · rw [h.town h0]; exact k6
  · rw [h.nv1]; exact k7
  · rw [h.nv3]; exact k9
  · rw [hu 8 (by omega)]; exact k10
theorem upd_o {x : Nat → Int32} {q k : Nat} {v : Int32} (h : k ≠ q) : upd x q v k = x k := by simp only [upd]; rw [if_neg h]
theorem upd_s {x : Nat → Int32} {q : Nat} {v : Int32} : upd x q v q = v := by simp only [upd]; rw [if_pos trivial]
/-- other letters stay -/
theorem un_wr {x : Nat → Int32} {l l' : Nat} {kd cr pl : Int32} (h : l' < 30) : unL (wrL x l kd cr pl) x l' := fun f hf => wrL_lo (by omega) (by omega)
theorem un_up {x : Nat → Int32} {l l' f' : Nat} {v : Int32} (h : l' ≠ l) (hf' : f' < 10) : unL (upd x (498 + 10 * l + f') v) x l' := fun f hf => upd_o (by omega)
theorem un_up9 {x : Nat → Int32} {l l' : Nat} {v : Int32} : unL (upd x (498 + 10 * l + 9) v) x l' := fun f hf => upd_o (by omega)
theorem un_up7 {x : Nat → Int32} {l' : Nat} {v : Int32} : unL (upd x 7 v) x l' := fun f hf => upd_o (by omega)
theorem un_lies {x : Nat → Int32} {l l' : Nat} {kd pl : Int32} (h : l' ≠ l) : unL (liesN x l kd pl) x l' := (un_up (f' := 4) h (by omega)).tr (un_up (f' := 3) h (by omega))
theorem un_mark {n : Nat → Int32} {p : Nat} {g : Nat → Bool} {l : Nat} (hl : l < 30) : ∀ k, unL (markL n p g k) n l := fun k f hf => markL_f hl hf k
theorem un_hand {x : Nat → Int32} {l l' p : Nat} (h : l' ≠ l) : unL (handN x l p) x l' := (un_up (f' := 7) h (by omega)).tr (un_lies h)
/-- what is handed out stays so, what isn't stays -/
theorem delL_un {n : Nat → Int32} {p : Nat} {sb : Nat → Int32} {l : Nat} (hl : l < 30) : ∀ k, (k ≤ l ∨ dlB n p sb l = false) → unL (delL n p sb k) n l
  | 0, _ => unL.rf
  | k + 1, h => by
    simp only [delL]
    split
    · rename_i hd
      have hkl : l ≠ k := fun e => by
        subst e
        rw [dlB_eq hl] at hd
        rcases h with h | h
        · omega
        · rw [h] at hd; cases hd
      exact ((un_wr hl).tr (un_hand hkl)).tr (delL_un hl k (h.imp (fun z => by omega) id))
    · exact delL_un hl k (h.imp (fun z => by omega) id)
theorem delL_in {n : Nat → Int32} {p : Nat} {sb : Nat → Int32} {l : Nat} (hl : l < 30) (hd : dlB n p sb l = true) : ∀ k, l < k → (∀ f, f < 9 → f ≠ 3 → f ≠ 4 → f ≠ 7 → delL n p sb k (498 + 10 * l + f) = n (498 + 10 * l + f)) ∧ delL n p sb k (498 + 10 * l + 3) = 2 ∧ delL n p sb k (498 + 10 * l + 4) = nI p
  | 0, h => by omega
  | k + 1, h => by
    by_cases hkl : l = k
    · subst hkl
      simp only [delL]
      rw [if_pos (by rw [dlB_eq hl]; exact hd)]
      have hu := delL_un (n := n) (p := p) (sb := sb) hl l (Or.inl (Nat.le_refl l))
      refine ⟨fun f hf a b c => ?_, ?_, ?_⟩
      · rw [wrL_lo (by omega) (by omega)]
        unfold handN liesN
        rw [upd_o (by omega), upd_o (by omega), upd_o (by omega)]
        exact hu f hf
      · rw [wrL_lo (by omega) (by omega)]
        unfold handN liesN
        rw [upd_o (by omega), upd_o (by omega), upd_s]
      · rw [wrL_lo (by omega) (by omega)]
        unfold handN liesN
        rw [upd_o (by omega), upd_s]
    · have ih := delL_in hl hd k (by omega)
      have hu : unL (delL n p sb (k + 1)) (delL n p sb k) l := by
        simp only [delL]
        split
        · exact (un_wr hl).tr (un_hand hkl)
        · exact unL.rf
      exact ⟨fun f hf a b c => (hu f hf).trans (ih.1 f hf a b c), (hu 3 (by omega)).trans ih.2.1, (hu 4 (by omega)).trans ih.2.2⟩
theorem un_put {x : Nat → Int32} {l l' p : Nat} {o b : Int32} (h : l' ≠ l) (hl : l' < 30) : unL (putN x l p o b) x l' := by
  unfold putN
  split
  · split
    · exact un_lies h
    · exact (un_wr hl).tr (un_lies h)
  · split
    · exact un_up9.tr (un_lies h)
    · exact (un_wr hl).tr (un_up9.tr (un_lies h))
theorem put_in {x : Nat → Int32} {l p : Nat} {o b : Int32} (hl : l < 30) : (∀ f, f < 9 → f ≠ 3 → f ≠ 4 → putN x l p o b (498 + 10 * l + f) = x (498 + 10 * l + f)) ∧ putN x l p o b (498 + 10 * l + 3) = (if b = -1 then 0 else 1) ∧ putN x l p o b (498 + 10 * l + 4) = if b = -1 then nI p else b := by
  have key : ∀ (y : Nat → Int32) (kd pl : Int32), unL y (liesN x l kd pl) l → (∀ f, f < 9 → f ≠ 3 → f ≠ 4 → y (498 + 10 * l + f) = x (498 + 10 * l + f)) ∧ y (498 + 10 * l + 3) = kd ∧ y (498 + 10 * l + 4) = pl := fun y kd pl h => by
    refine ⟨fun f hf a b => ?_, ?_, ?_⟩
    · rw [h f hf]
      unfold liesN
      rw [upd_o (by omega), upd_o (by omega)]
    · rw [h 3 (by omega)]
      unfold liesN
      rw [upd_o (by omega), upd_s]
    · rw [h 4 (by omega)]
      unfold liesN
      rw [upd_s]
  unfold putN
  by_cases hb : b = -1
  · simp only [if_pos hb]
    split
    · exact key _ _ _ unL.rf
    · exact key _ _ _ (un_wr hl)
  · simp only [if_neg hb]
    split
    · exact key _ _ _ un_up9
    · exact key _ _ _ ((un_wr hl).tr un_up9)
theorem srtL_un {n : Nat → Int32} {h p : Nat} {sb : Nat → Int32} {l : Nat} (hl : l < 30) : ∀ k, (k ≤ l ∨ sb l = -2) → unL (srtL n h p sb k).1 n l
  | 0, _ => unL.rf
  | k + 1, hk => by
    simp only [srtL]
    split
    · exact srtL_un hl k (hk.imp (fun z => by omega) id)
    · rename_i hs
      have hkl : l ≠ k := fun e => by
        subst e
        rcases hk with h | h
        · omega
        · exact hs h
      exact (un_put hkl hl).tr (srtL_un hl k (hk.imp (fun z => by omega) id))
theorem srtL_in {n : Nat → Int32} {h p : Nat} {sb : Nat → Int32} {l : Nat} (hl : l < 30) (hs : ¬ sb l = -2) : ∀ k, l < k → (∀ f, f < 9 → f ≠ 3 → f ≠ 4 → (srtL n h p sb k).1 (498 + 10 * l + f) = n (498 + 10 * l + f)) ∧ (((srtL n h p sb k).1 (498 + 10 * l + 3) = 0 ∧ (srtL n h p sb k).1 (498 + 10 * l + 4) = nI p) ∨ ((srtL n h p sb k).1 (498 + 10 * l + 3) = 1 ∧ ∃ s, s < nv n 1 ∧ (srtL n h p sb k).1 (498 + 10 * l + 4) = nI s))
  | 0, h => by omega
  | k + 1, hk => by
    by_cases hkl : l = k
    · subst hkl
      simp only [srtL]
      rw [if_neg hs]
      have hu := srtL_un (n := n) (h := h) (p := p) (sb := sb) hl l (Or.inl (Nat.le_refl l))
      obtain ⟨g1, g2, g3⟩ := put_in (x := (srtL n h p sb l).1) (p := p) (o := sb l) (b := bstS n h p (srtL n h p sb l).2 (nv n (498 + 10 * l + 1))) hl
      refine ⟨fun f hf a b => (g1 f hf a b).trans (hu f hf), ?_⟩
      rcases bstS_is (n := n) (h := h) (p := p) (fl := (srtL n h p sb l).2) (t := nv n (498 + 10 * l + 1)) with e | ⟨s, h1, e, -⟩
      · rw [if_pos e] at g2 g3
        exact Or.inl ⟨g2, g3⟩
      · rw [e, if_neg (nI_ne_m1 (by have h9 : nv n 1 < 2147483648 := Int32.toNatClampNeg_lt (n 1); omega))] at g2 g3
        rw [e]
        exact Or.inr ⟨g2, s, h1, g3⟩
    · have ih := srtL_in (n := n) (h := h) (p := p) hl hs k (by omega)
      have hu : unL (srtL n h p sb (k + 1)).1 (srtL n h p sb k).1 l := by
        simp only [srtL]
        split
        · exact unL.rf
        · exact un_put hkl hl
      refine ⟨fun f hf a b => (hu f hf).trans (ih.1 f hf a b), ?_⟩
      rw [hu 3 (by omega), hu 4 (by omega)]
      exact ih.2
theorem sb_cases {n : Nat → Int32} (hm : nv n 1 ≤ 5) {h p l : Nat} (hl : LtL n l) : (sbN n h p l = -2 ∧ ¬ (n (498 + 10 * l + 3) = 0 ∧ n (498 + 10 * l + 4) = nI p)) ∨ (sbN n h p l = -1 ∧ n (498 + 10 * l + 3) = 0 ∧ n (498 + 10 * l + 4) = nI p) ∨ ∃ w, w < nv n 1 ∧ sbN n h p l = nI w ∧ n (498 + 10 * l + 3) = 1 ∧ n (498 + 10 * l + 4) = nI w ∧ grpB n h p (hcN n l) = true := by
  obtain ⟨f, t, v, s, w, e0, e1, e2, e3, e4, k1, k2, k3, k4, k5, k6, k7, k8, k9, k10⟩ := hl
  unfold sbN
  by_cases c1 : n (498 + 10 * l + 3) = 1 ∧ grpB n h p (hcN n l) = true
  · rw [if_pos c1]
    have : s = 1 := by
      have := c1.1
      rw [e3] at this
      exact (nI_eq (a := s) (b := 1) (by omega) (by omega)).mp this
    exact Or.inr (Or.inr ⟨w, k7 this, e4, c1.1, e4, c1.2⟩)
  · rw [if_neg c1]
    by_cases c2 : n (498 + 10 * l + 3) = 0 ∧ n (498 + 10 * l + 4) = nI p
    · rw [if_pos c2]
      exact Or.inr (Or.inl ⟨rfl, c2⟩)
    · rw [if_neg c2]
      exact Or.inl ⟨rfl, c2⟩
theorem LtL.mk' {x n : Nat → Int32} {l : Nat} (h : tb3 x n) (h0 : nv n 0 ≤ 10) (hl : LtL n l) (hu : ∀ f, f < 9 → f ≠ 3 → f ≠ 4 → f ≠ 7 → x (498 + 10 * l + f) = n (498 + 10 * l + f))
    (hn : (x (498 + 10 * l + 3) = 0 ∧ ∃ w, x (498 + 10 * l + 4) = nI w ∧ town n w = true ∧ n (498 + 10 * l + 1) ≠ nI w) ∨ (x (498 + 10 * l + 3) = 1 ∧ ∃ s, s < nv n 1 ∧ x (498 + 10 * l + 4) = nI s) ∨ (x (498 + 10 * l + 3) = 2 ∧ x (498 + 10 * l + 4) = n (498 + 10 * l + 1)) ∨ (x (498 + 10 * l + 3) = 3 ∧ ∃ k, k < nv n 3 ∧ x (498 + 10 * l + 4) = nI k)) : LtL x l := by
  obtain ⟨f, t, v, s, w, e0, e1, e2, e3, e4, k1, k2, k3, k4, k5, k6, k7, k8, k9, k10⟩ := hl
  have b0 := (hu 0 (by omega) (by omega) (by omega) (by omega)).trans e0
  have b1 := (hu 1 (by omega) (by omega) (by omega) (by omega)).trans e1
  have b2 := (hu 2 (by omega) (by omega) (by omega) (by omega)).trans e2
  have b8 := hu 8 (by omega) (by omega) (by omega) (by omega)
  have q1 : town x f = true := by rw [h.town h0]; exact k1
  have q2 : town x t = true := by rw [h.town h0]; exact k2
  rw [← b8] at k10
  rcases hn with ⟨m3, w', m4, m5, m6⟩ | ⟨m3, s', m5, m4⟩ | ⟨m3, m4⟩ | ⟨m3, k', m5, m4⟩
  · exact ⟨f, t, v, 0, w', b0, b1, b2, m3, m4, q1, q2, k3, k4, by omega, fun _ => ⟨by rw [h.town h0]; exact m5, fun z => m6 (by rw [e1, z])⟩, fun z => by omega, fun z => by omega, fun z => by omega, k10⟩
  · exact ⟨f, t, v, 1, s', b0, b1, b2, m3, m4, q1, q2, k3, k4, by omega, fun z => by omega, fun _ => by rw [h.nv1]; exact m5, fun z => by omega, fun z => by omega, k10⟩
  · exact ⟨f, t, v, 2, t, b0, b1, b2, m3, m4.trans e1, q1, q2, k3, k4, by omega, fun z => by omega, fun z => by omega, fun _ => rfl, fun z => by omega, k10⟩
  · exact ⟨f, t, v, 3, k', b0, b1, b2, m3, m4, q1, q2, k3, k4, by omega, fun z => by omega, fun z => by omega, fun z => by omega, fun _ => by rw [h.nv3]; exact m5, k10⟩
theorem LtOk_iff {n : Nat → Int32} : LtOk n ↔ Rn n 2 30 ∧ Rn n 3 30 ∧ ∀ l, l < nv n 2 → LtL n l := Iff.rfl
theorem LtOk.sm {x n : Nat → Int32} (h : sm x n) (hl : LtOk n) (hk : ∀ l, l < nv n 2 → LtL x l) : LtOk x := ⟨h.Rn (by omega) (by omega) (by omega) hl.1, h.Rn (by omega) (by omega) (by omega) hl.2.1, fun l hl' => hk l (by rw [← h.nv (by omega) (by omega) (by omega)]; exact hl')⟩
/-- a visit keeps the letters in order; lost ones stay -/
theorem vis_step {n : Nat → Int32} (hT : TbOk n) (hL : LtOk n) (h4 : Rn n 4 60) {h p : Nat} (hp : town n p = true) : LtOk (visN n h p) ∧ ∀ l, l < nv n 2 → n (498 + 10 * l + 3) = 3 → unL (visN n h p) n l := by
  have hsm := visN_sm (h := h) (p := p) h4
  have h0 := hT.1.2
  have hm5 := hT.2.1.2
  have hpb : p < nv n 0 ∧ n (8 + p) = 1 := by simpa [town] using hp
  unfold visN at hsm ⊢
  by_cases hg : anyB (grpB n h p) 5 = true
  · rw [if_pos hg] at hsm ⊢
    have h30 := hL.1.2
    have hd := delL_sm (n := n) (p := p) (sb := sbN n h p) h4 (nv n 2)
    have e1 : nv (delL n p (sbN n h p) (nv n 2)) 1 = nv n 1 := hd.nv (by omega) (by omega) (by omega)
    refine ⟨LtOk.sm hsm hL (fun l hl => ?_), fun l hl h3 => ?_⟩
    · have hLl := hL.2.2 l hl
      by_cases hdl : dlB n p (sbN n h p) l = true
      · have hs2 : sb2 n p (sbN n h p) l = -2 := by unfold sb2; rw [if_pos hdl]
        have hu := srtL_un (n := delL n p (sbN n h p) (nv n 2)) (h := h) (p := p) (sb := sb2 n p (sbN n h p)) (l := l) (by omega) (nv n 2) (Or.inr hs2)
        obtain ⟨g1, g2, g3⟩ := delL_in (n := n) (p := p) (sb := sbN n h p) (by omega : l < 30) hdl (nv n 2) hl
        have hdl' : n (498 + 10 * l + 1) = nI p := by
          have := hdl
          simp only [dlB, decide_eq_true_eq] at this
          exact this.2
        refine LtL.mk' hsm.t3 h0 hLl (fun f a b c d => (hu f a).trans (g1 f a b c d)) (Or.inr (Or.inr (Or.inl ⟨(hu 3 (by omega)).trans g2, ?_⟩)))
        rw [hdl']
        exact (hu 4 (by omega)).trans g3
      · have hdu := delL_un (n := n) (p := p) (sb := sbN n h p) (l := l) (by omega) (nv n 2) (Or.inr (by simpa using hdl))
        have hs2 : sb2 n p (sbN n h p) l = sbN n h p l := by unfold sb2; rw [if_neg hdl]
        by_cases hz : sb2 n p (sbN n h p) l = -2
        · exact LtL.un hsm.t3 h0 ((srtL_un (by omega) _ (Or.inr hz)).tr hdu) hLl
        · obtain ⟨g1, g2⟩ := srtL_in (n := delL n p (sbN n h p) (nv n 2)) (h := h) (p := p) (sb := sb2 n p (sbN n h p)) (l := l) (by omega) hz (nv n 2) hl
          refine LtL.mk' hsm.t3 h0 hLl (fun f a b c _ => (g1 f a b c).trans (hdu f a)) ?_
          rcases g2 with ⟨m3, m4⟩ | ⟨m3, s, m5, m4⟩
          · refine Or.inl ⟨m3, p, m4, hp, fun z => ?_⟩
            rcases sb_cases (h := h) (p := p) hm5 hLl with ⟨q, -⟩ | ⟨-, q1, q2⟩ | ⟨w, q1, q2, -, -, -⟩
            · exact hz (hs2.trans q)
            · obtain ⟨f, t, v, s, w, e0, e1, e2, e3, e4, k1, k2, k3, k4, k5, k6, k7, k8, k9, k10⟩ := hLl
              have hs0 : s = 0 := by
                rw [e3] at q1
                exact (nI_eq (a := s) (b := 0) (by omega) (by omega)).mp q1
              have ht10 : t < nv n 0 ∧ n (8 + t) = 1 := by simpa [town] using k2
              have hw10 : w < nv n 0 ∧ n (8 + w) = 1 := by simpa [town] using (k6 hs0).1
              refine (k6 hs0).2 ?_
              have hwt : nI w = nI t := (e4.symm.trans q2).trans (z.symm.trans e1)
              exact (nI_eq (by omega) (by omega)).mp hwt
            · exact hdl (by simp only [dlB, decide_eq_true_eq]; exact ⟨by rw [q2]; exact nI_pos (by omega), z⟩)
          · exact Or.inr (Or.inl ⟨m3, s, by rw [← e1]; exact m5, m4⟩)
    · have hsb : sbN n h p l = -2 := by
        unfold sbN
        rw [if_neg (fun z => by rw [h3] at z; exact absurd z.1 (by decide)), if_neg (fun z => by rw [h3] at z; exact absurd z.1 (by decide))]
      have hdl : dlB n p (sbN n h p) l = false := by
        simp only [dlB, hsb]
        exact decide_eq_false (fun z => z.1 (by decide))
      have hdu := delL_un (n := n) (p := p) (sb := sbN n h p) (l := l) (by omega) (nv n 2) (Or.inr hdl)
      have hs2 : sb2 n p (sbN n h p) l = -2 := by unfold sb2; rw [if_neg (by rw [hdl]; decide)]; exact hsb
      exact (srtL_un (by omega) _ (Or.inr hs2)).tr hdu
  · rw [if_neg hg]
    exact ⟨hL, fun _ _ _ => unL.rf⟩
