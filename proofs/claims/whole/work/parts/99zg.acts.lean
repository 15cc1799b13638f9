variable {G : GG} {base : Nat}
/-! ===== the row stays in order: claim, strike, lose, find ===== -/
theorem claim_ok {T : Nat} {n : Nat → Int32} {l : Nat} (h : OkN T n) (hl9 : l < nv n 2) : OkN T (upd n (498 + 10 * l + 8) 1) := by
  obtain ⟨hT, hS, hL, h4, h5, h6, hLo, hSt, hN⟩ := h
  have hl30 := hL.1.2
  have hl33 := hL.2.1.2
  have hs : sm (upd n (498 + 10 * l + 8) 1) n := (sm.rf h4).up (by omega) _
  have eo : ∀ q, q ≠ 498 + 10 * l + 8 → upd n (498 + 10 * l + 8) 1 q = n q := fun q a => upd_o a
  have es : upd n (498 + 10 * l + 8) 1 (498 + 10 * l + 8) = 1 := upd_s
  generalize upd n (498 + 10 * l + 8) 1 = m at eo es hs ⊢
  have n1 : nv m 1 = nv n 1 := nv_eq (eo _ (by omega))
  have n2 : nv m 2 = nv n 2 := nv_eq (eo _ (by omega))
  have n3 : nv m 3 = nv n 3 := nv_eq (eo _ (by omega))
  have tw : ∀ p, town n p = true → town m p = true := fun p hp => by
    obtain ⟨a, b⟩ := town_i.mp hp
    have := hT.1.2
    exact town_i.mpr ⟨by rw [nv_eq (eo 0 (by omega))]; exact a, by rw [eo _ (by omega)]; exact b⟩
  refine ⟨hs.Tb hT, hs.Sk hS, hL.sm hs (fun l2 hl2 => ?_), hs.2, h5.eq (eo _ (by omega)), h6.eq (eo _ (by omega)), fun k hk3 => ?_, fun c hc => ?_, NaOk.tab hs.tab.sm hT.1.2 hT.2.1.2 hN⟩
  · obtain ⟨f, t, v', s, w, g1, g2, g3, g4, g5, g6, g7, g8, g9, g10, g11, g12, g13, g14, g15⟩ := hL.2.2 l2 hl2
    refine ⟨f, t, v', s, w, by rw [eo _ (by omega)]; exact g1, by rw [eo _ (by omega)]; exact g2, by rw [eo _ (by omega)]; exact g3, by rw [eo _ (by omega)]; exact g4, by rw [eo _ (by omega)]; exact g5, tw _ g6, tw _ g7, g8, g9, g10, fun z => ⟨tw _ (g11 z).1, (g11 z).2⟩, fun z => by rw [n1]; exact g12 z, g13, fun z => by rw [n3]; exact g14 z, ?_⟩
    by_cases e : l2 = l
    · subst e
      exact Or.inr es
    · rw [eo _ (by omega)]
      exact g15
  · rw [n3] at hk3
    obtain ⟨⟨c, a, b⟩, l2, g1, g2, g3⟩ := hLo k hk3
    exact ⟨⟨c, a, by rw [eo _ (by omega)]; exact b⟩, l2, by rw [n2]; exact g1, by rw [eo _ (by omega)]; exact g2, by rw [eo _ (by omega)]; exact g3⟩
  · rw [eo _ (by omega)]
    exact hSt c hc
/-- the tables but the strikes -/
def tbR (n m : Nat → Int32) : Prop := n 0 = m 0 ∧ n 1 = m 1 ∧ (∀ q, 8 ≤ q → q < 33 → n q = m q) ∧ ∀ q, 43 ≤ q → q < 498 → n q = m q
theorem tbR.rf {n : Nat → Int32} : tbR n n := ⟨rfl, rfl, fun _ _ _ => rfl, fun _ _ _ => rfl⟩
theorem tbR.sm {n m : Nat → Int32} (h : tbR n m) : tbR m n := ⟨h.1.symm, h.2.1.symm, fun q a b => (h.2.2.1 q a b).symm, fun q a b => (h.2.2.2 q a b).symm⟩
theorem tbR.tr {n m k : Nat → Int32} (h : tbR n m) (h2 : tbR m k) : tbR n k := ⟨h.1.trans h2.1, h.2.1.trans h2.2.1, fun q a b => (h.2.2.1 q a b).trans (h2.2.2.1 q a b), fun q a b => (h.2.2.2 q a b).trans (h2.2.2.2 q a b)⟩
theorem tabEq.R {n m : Nat → Int32} (h : tabEq n m) : tbR n m := ⟨h.1, h.2.1, h.2.2.1, fun q a b => h.2.2.2 q (by omega) b⟩
theorem tbR.rt {n m : Nat → Int32} (h : tbR n m) (hr : RtOk n) : RtOk m := by
  intro c hc w hw
  have eA : rtA c w = 43 + 13 * (7 * c + w) := rfl
  obtain ⟨a, b⟩ := hr c hc w hw
  have ha := a.2
  refine ⟨a.eq (h.2.2.2 _ (by omega) (by omega)).symm, fun k hk => ?_⟩
  rw [nv_eq (h.2.2.2 (rtA c w) (by omega) (by omega)).symm] at hk
  obtain ⟨hh, q, g1, g2, g3, g4, g5⟩ := b k hk
  exact ⟨hh, q, g1, by rw [nv_eq h.1.symm]; exact g2, g3, (h.2.2.2 _ (by omega) (by omega)).symm.trans g4, (h.2.2.2 _ (by omega) (by omega)).symm.trans g5⟩
theorem tbR.tb {n m : Nat → Int32} (h : tbR n m) (hT : TbOk n) : TbOk m := ⟨hT.1.eq h.1.symm, hT.2.1.eq h.2.1.symm, h.rt hT.2.2⟩
theorem tbR.tn {n m : Nat → Int32} (h : tbR n m) (h0 : nv n 0 ≤ 10) {p : Nat} (hp : town n p = true) : town m p = true := by
  obtain ⟨a, b⟩ := town_i.mp hp
  exact town_i.mpr ⟨by rw [nv_eq h.1.symm]; exact a, by rw [← h.2.2.1 _ (by omega) (by omega)]; exact b⟩
theorem tbR.na {n m : Nat → Int32} (h : tbR n m) (h0 : nv n 0 ≤ 10) (h1 : nv n 1 ≤ 5) (ha : NaOk n) : NaOk m := by
  refine ⟨fun p hp => ?_, fun c hc => ?_⟩
  · rw [nv_eq h.1.symm] at hp
    rw [← h.2.2.1 _ (by omega) (by omega)]
    exact ha.1 p hp
  · rw [nv_eq h.2.1.symm] at hc
    rw [← h.2.2.1 _ (by omega) (by omega)]
    exact ha.2 c hc
theorem tbR.inn {n m : Nat → Int32} (h : tbR n m) (hR : RtOk n) (hi : RtIn n) : RtIn m := RtIn.reg hR (fun q a b => (h.2.2.2 q a b).symm) hi
/-- the row stays in order where all that changes is in the letters and lost sacks -/
theorem ok_of {T : Nat} {n x : Nat → Int32} (h : OkN T n) (hR : tbR n x) (h33 : ∀ q, 33 ≤ q → q < 38 → x q = n q) (h2 : x 2 = n 2) (h3 : Rn x 3 30) (h4 : Rn x 4 60) (h5 : x 5 = n 5) (h6 : x 6 = n 6) (hSt : StOk x) (hL : ∀ l, l < nv n 2 → LtL x l) (hLo : LoOk x) : OkN T x := by
  obtain ⟨hT, hS, hL', h4', h5', h6', hLo', hSt', hN⟩ := h
  have n1 : nv x 1 = nv n 1 := nv_eq hR.2.1.symm
  refine ⟨hR.tb hT, ⟨fun c hc => by rw [h33 _ (by omega) (by omega)]; exact hS.1 c hc, fun c d hc hd e => ?_, fun c hc hc2 => ?_⟩, ⟨hL'.1.eq h2, h3, fun l hl => ?_⟩, h4, h5'.eq h5, h6'.eq h6, hLo, hSt, hR.na hT.1.2 hT.2.1.2 hN⟩
  · rw [h33 _ (by omega) (by omega), h33 _ (by omega) (by omega)] at e
    exact hS.2.1 c d hc hd e
  · rw [h33 _ (by omega) (by omega)]
    exact hS.2.2 c hc (by omega)
  · rw [nv_eq h2] at hl
    exact hL l hl
theorem strike_ok {T : Nat} {n : Nat → Int32} {c : Nat} {v : Int32} (h : OkN T n) (hc : c < 5) (hv : v = 0 ∨ v = 1) : OkN T (upd n (38 + c) v) ∧ tbR n (upd n (38 + c) v) := by
  have eo : ∀ q, q < 38 ∨ 43 ≤ q → upd n (38 + c) v q = n q := fun q hq => upd_o (by omega)
  have es : ∀ d, d < 5 → upd n (38 + c) v (38 + d) = if d = c then v else n (38 + d) := fun d hd => by
    by_cases e : d = c
    · subst e
      rw [if_pos rfl]
      exact upd_s
    · rw [if_neg e]
      exact upd_o (by omega)
  generalize upd n (38 + c) v = x at eo es
  have hR : tbR n x := ⟨(eo _ (by omega)).symm, (eo _ (by omega)).symm, fun q a b => (eo _ (by omega)).symm, fun q a b => (eo _ (by omega)).symm⟩
  refine ⟨ok_of h hR (fun q a b => eo q (by omega)) (eo _ (by omega)) (h.2.2.1.2.1.eq (eo _ (by omega))) (h.2.2.2.1.eq (eo _ (by omega))) (eo _ (by omega)) (eo _ (by omega)) (fun d hd => ?_) (fun l hl => ?_) (fun k hk => ?_), hR⟩
  · rw [es d hd]
    split
    · exact hv
    · exact h.2.2.2.2.2.2.2.1 d hd
  · obtain ⟨f, t, v', s, w, g1, g2, g3, g4, g5, g6, g7, g8, g9, g10, g11, g12, g13, g14, g15⟩ := h.2.2.1.2.2 l hl
    have h0 := h.1.1.2
    refine ⟨f, t, v', s, w, by rw [eo _ (by omega)]; exact g1, by rw [eo _ (by omega)]; exact g2, by rw [eo _ (by omega)]; exact g3, by rw [eo _ (by omega)]; exact g4, by rw [eo _ (by omega)]; exact g5, hR.tn h0 g6, hR.tn h0 g7, g8, g9, g10, fun z => ⟨hR.tn h0 (g11 z).1, (g11 z).2⟩, fun z => by rw [nv_eq (eo 1 (by omega))]; exact g12 z, g13, fun z => by rw [nv_eq (eo 3 (by omega))]; exact g14 z, ?_⟩
    rw [eo _ (by omega)]
    exact g15
  · rw [nv_eq (eo 3 (by omega))] at hk
    obtain ⟨⟨c, a, b⟩, l2, g1, g2, g3⟩ := h.2.2.2.2.2.2.1 k hk
    exact ⟨⟨c, a, by rw [eo _ (by omega)]; exact b⟩, l2, by rw [nv_eq (eo 2 (by omega))]; exact g1, by rw [eo _ (by omega)]; exact g2, by rw [eo _ (by omega)]; exact g3⟩
/-- what the lost letters become -/
theorem losL_un {n : Nat → Int32} {s lo c : Int32} {l : Nat} (hl : l < 30) : ∀ k, k ≤ 30 → (k ≤ l ∨ ¬ (n (498 + 10 * l + 3) = 1 ∧ n (498 + 10 * l + 4) = s)) → unL (losL n s lo c k) n l
  | 0, _, _ => unL.rf
  | k + 1, hk, h => by
    have ih := losL_un (n := n) (s := s) (lo := lo) (c := c) hl k (by omega) (h.imp (fun z => by omega) id)
    simp only [losL]
    split
    · rename_i hd
      by_cases e : l = k
      · subst e
        rcases h with h | h
        · omega
        · rw [ih 3 (by omega), ih 4 (by omega)] at hd
          exact absurd hd h
      · exact ((un_wr hl).tr (un_lies e)).tr ih
    · exact ih
theorem losL_in {n : Nat → Int32} {s lo c : Int32} {l : Nat} (hl : l < 30) (hd : n (498 + 10 * l + 3) = 1 ∧ n (498 + 10 * l + 4) = s) : ∀ k, k ≤ 30 → l < k → (∀ f, f < 9 → f ≠ 3 → f ≠ 4 → losL n s lo c k (498 + 10 * l + f) = n (498 + 10 * l + f)) ∧ losL n s lo c k (498 + 10 * l + 3) = 3 ∧ losL n s lo c k (498 + 10 * l + 4) = lo
  | 0, _, h => by omega
  | k + 1, hk, h => by
    by_cases e : l = k
    · subst e
      have hu := losL_un (n := n) (s := s) (lo := lo) (c := c) hl l (by omega) (Or.inl (Nat.le_refl l))
      simp only [losL]
      rw [if_pos (by rw [hu 3 (by omega), hu 4 (by omega)]; exact hd)]
      refine ⟨fun f hf a b => ?_, ?_, ?_⟩
      · rw [wrL_lo (by omega) (by omega)]
        unfold liesN
        rw [upd_o (by omega), upd_o (by omega)]
        exact hu f hf
      · rw [wrL_lo (by omega) (by omega)]
        unfold liesN
        rw [upd_o (by omega), upd_s]
      · rw [wrL_lo (by omega) (by omega)]
        unfold liesN
        rw [upd_s]
    · obtain ⟨a, b, d⟩ := losL_in hl hd k (by omega) (by omega)
      simp only [losL]
      split
      · have hu : unL (wrL (liesN (losL n s lo c k) k 3 lo) k 4 c (-1)) (losL n s lo c k) l := (un_wr hl).tr (un_lies e)
        exact ⟨fun f hf p q => (hu f hf).trans (a f hf p q), (hu 3 (by omega)).trans b, (hu 4 (by omega)).trans d⟩
      · exact ⟨a, b, d⟩
theorem los_798 {n : Nat → Int32} {s lo c : Int32} {q : Nat} (h1 : 798 ≤ q) (h2 : q < 858) : ∀ k, k ≤ 30 → losL n s lo c k q = n q
  | 0, _ => rfl
  | k + 1, hk => by
    simp only [losL]
    split
    · rw [wrL_798 h1 h2]
      unfold liesN
      rw [upd_o (by omega), upd_o (by omega)]
      exact los_798 h1 h2 k (by omega)
    · exact los_798 h1 h2 k (by omega)
set_option maxHeartbeats 1000000 in
theorem lose_ok {T : Nat} {n : Nat → Int32} {c : Nat} (h : OkN T n) (hc : c < 5) : OkN T (loseN n c) ∧ tbR n (loseN n c) := by
  unfold loseN
  by_cases h0 : cntK (lK n) (lW n) 1 (n (33 + c)) (nv n 2) = 0
  · rw [if_pos h0]
    exact ⟨h, tbR.rf⟩
  · rw [if_neg h0]
    have h3 := lost_lt h.2.2.1 h.2.2.2.2.2.2.1 h0
    obtain ⟨l0, la, lb, lc⟩ := cntK_ex h0
    have h30 := h.2.2.1.1.2
    have h10 := h.1.1.2
    have mo : ∀ q, q ≠ 3 → q < 798 → los0 n (nI c) q = n q := fun q a b => by
      unfold los0
      rw [upd_o (by omega), upd_o (by omega), upd_o a]
    have m3 : los0 n (nI c) 3 = nI (nv n 3 + 1) := by
      unfold los0
      rw [upd_o (by omega), upd_o (by omega), upd_s]
    have mk : ∀ k, k < nv n 3 → los0 n (nI c) (798 + 2 * k) = n (798 + 2 * k) := fun k hk => by
      unfold los0
      rw [upd_o (by omega), upd_o (by omega), upd_o (by omega)]
    have mn : los0 n (nI c) (798 + 2 * nv n 3) = nI c := by
      unfold los0
      rw [upd_o (by omega), upd_s]
    generalize los0 n (nI c) = m at mo m3 mk mn
    have hs := losL_sm (n := m) (s := n (33 + c)) (lo := nI (nv n 3)) (c := nI c) (h.2.2.2.1.eq (mo 4 (by omega) (by omega))) (nv n 2)
    have q8 : ∀ q, 798 ≤ q → q < 858 → losL m (n (33 + c)) (nI (nv n 3)) (nI c) (nv n 2) q = m q := fun q a b => los_798 a b (nv n 2) (by omega)
    have un : ∀ l, l < nv n 2 → ¬ (n (498 + 10 * l + 3) = 1 ∧ n (498 + 10 * l + 4) = n (33 + c)) → ∀ f, f < 9 → losL m (n (33 + c)) (nI (nv n 3)) (nI c) (nv n 2) (498 + 10 * l + f) = n (498 + 10 * l + f) := fun l hl hd f hf => by
      rw [losL_un (n := m) (by omega) (nv n 2) (by omega) (Or.inr (by rw [mo _ (by omega) (by omega), mo _ (by omega) (by omega)]; exact hd)) f hf]
      exact mo _ (by omega) (by omega)
    have inn : ∀ l, l < nv n 2 → n (498 + 10 * l + 3) = 1 ∧ n (498 + 10 * l + 4) = n (33 + c) → (∀ f, f < 9 → f ≠ 3 → f ≠ 4 → losL m (n (33 + c)) (nI (nv n 3)) (nI c) (nv n 2) (498 + 10 * l + f) = n (498 + 10 * l + f)) ∧ losL m (n (33 + c)) (nI (nv n 3)) (nI c) (nv n 2) (498 + 10 * l + 3) = 3 ∧ losL m (n (33 + c)) (nI (nv n 3)) (nI c) (nv n 2) (498 + 10 * l + 4) = nI (nv n 3) := fun l hl hd => by
      obtain ⟨a, b, d⟩ := losL_in (n := m) (s := n (33 + c)) (lo := nI (nv n 3)) (c := nI c) (l := l) (by omega) (by rw [mo _ (by omega) (by omega), mo _ (by omega) (by omega)]; exact hd) (nv n 2) (by omega) hl
      exact ⟨fun f hf p q => (a f hf p q).trans (mo _ (by omega) (by omega)), b, d⟩
    generalize losL m (n (33 + c)) (nI (nv n 3)) (nI c) (nv n 2) = x at hs q8 un inn
    have xo : ∀ q, q < 498 → q ≠ 3 → q ≠ 4 → q ≠ 7 → x q = n q := fun q a b d e => (hs.1 q a d e).trans (mo q b (by omega))
    have x3 : x 3 = nI (nv n 3 + 1) := (hs.1 3 (by omega) (by omega) (by omega)).trans m3
    have n3 : nv x 3 = nv n 3 + 1 := nv_of x3 (by omega)
    have hR : tbR n x := ⟨(xo _ (by omega) (by omega) (by omega) (by omega)).symm, (xo _ (by omega) (by omega) (by omega) (by omega)).symm, fun q a b => (xo _ (by omega) (by omega) (by omega) (by omega)).symm, fun q a b => (xo _ (by omega) (by omega) (by omega) (by omega)).symm⟩
    refine ⟨ok_of h hR (fun q a b => xo _ (by omega) (by omega) (by omega) (by omega)) (xo _ (by omega) (by omega) (by omega) (by omega)) (Rn.mk x3 (by omega)) hs.2 (xo _ (by omega) (by omega) (by omega) (by omega)) (xo _ (by omega) (by omega) (by omega) (by omega)) (fun d hd => ?_) (fun l hl => ?_) (fun k hk => ?_), hR⟩
    · rw [xo _ (by omega) (by omega) (by omega) (by omega)]
      exact h.2.2.2.2.2.2.2.1 d hd
    · obtain ⟨f, t, v', s, w, g1, g2, g3, g4, g5, g6, g7, g8, g9, g10, g11, g12, g13, g14, g15⟩ := h.2.2.1.2.2 l hl
      by_cases hd : n (498 + 10 * l + 3) = 1 ∧ n (498 + 10 * l + 4) = n (33 + c)
      · obtain ⟨a, b, d⟩ := inn l hl hd
        exact ⟨f, t, v', 3, nv n 3, (a 0 (by omega) (by omega) (by omega)).trans g1, (a 1 (by omega) (by omega) (by omega)).trans g2, (a 2 (by omega) (by omega) (by omega)).trans g3, b, d, hR.tn h10 g6, hR.tn h10 g7, g8, g9, by omega, fun z => by omega, fun z => by omega, fun z => by omega, fun z => by omega, by rw [a 8 (by omega) (by omega) (by omega)]; exact g15⟩
      · have u := un l hl hd
        exact ⟨f, t, v', s, w, (u 0 (by omega)).trans g1, (u 1 (by omega)).trans g2, (u 2 (by omega)).trans g3, (u 3 (by omega)).trans g4, (u 4 (by omega)).trans g5, hR.tn h10 g6, hR.tn h10 g7, g8, g9, g10, fun z => ⟨hR.tn h10 (g11 z).1, (g11 z).2⟩, fun z => by rw [nv_eq hR.2.1.symm]; exact g12 z, g13, fun z => by have := g14 z; omega, by rw [u 8 (by omega)]; exact g15⟩
    · rw [n3] at hk
      have e2 : nv x 2 = nv n 2 := nv_eq (xo _ (by omega) (by omega) (by omega) (by omega))
      by_cases e : k = nv n 3
      · subst e
        obtain ⟨a, b, d⟩ := inn l0 la ⟨lb, lc⟩
        exact ⟨⟨c, hc, (q8 _ (by omega) (by omega)).trans mn⟩, l0, by rw [e2]; exact la, b, d⟩
      · obtain ⟨⟨c', a, b⟩, l2, g1, g2, g3⟩ := h.2.2.2.2.2.2.1 k (by omega)
        have u := un l2 g1 (fun z => absurd (g2.symm.trans z.1) (by decide))
        exact ⟨⟨c', a, (q8 _ (by omega) (by omega)).trans ((mk k (by omega)).trans b)⟩, l2, by rw [e2]; exact g1, (u 3 (by omega)).trans g2, (u 4 (by omega)).trans g3⟩
