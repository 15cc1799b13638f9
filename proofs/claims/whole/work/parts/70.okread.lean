variable {G : GG} {base : Nat}
theorem rtA_ge (c w : Nat) : 43 ≤ rtA c w := Nat.le_add_right 43 _
theorem Rn.eq {n m : Nat → Int32} {p b : Nat} (h : m p = n p) (hr : Rn n p b) : Rn m p b := by
  have e : nv m p = nv n p := by show (m p).toNatClampNeg = _; rw [h]
  exact ⟨by rw [e, h]; exact hr.1, by rw [e]; exact hr.2⟩
theorem nv_eq {n m : Nat → Int32} {p : Nat} (h : m p = n p) : nv m p = nv n p := by show (m p).toNatClampNeg = _; rw [h]
theorem row0_z {q : Nat} (h : q ≠ 5) (h2 : ¬ (33 ≤ q ∧ q < 38)) : row0 q = nI 0 := by
  unfold row0
  rw [if_neg h, if_neg h2]
theorem row0_s {c : Nat} (h : c < 5) : row0 (33 + c) = nI c := by
  unfold row0
  rw [if_neg (by omega), if_pos (by omega), show 33 + c - 33 = c by omega]
/-- the first row is in order -/
theorem row0_ok : OkN 0 row0 := by
  have z : ∀ q b, q ≠ 5 → ¬ (33 ≤ q ∧ q < 38) → Rn row0 q b := fun q b h h2 => by
    have e : nv row0 q = 0 := nv_of (row0_z h h2) (by omega)
    exact ⟨by rw [e]; exact row0_z h h2, by rw [e]; exact Nat.zero_le _⟩
  have e0 : ∀ q, q ≠ 5 → ¬ (33 ≤ q ∧ q < 38) → nv row0 q = 0 := fun q h h2 => nv_of (row0_z h h2) (by omega)
  refine ⟨⟨z _ _ (by omega) (by omega), z _ _ (by omega) (by omega), fun c hc w hw => ⟨z _ _ (by have := rtA_ge c w; omega) (by have := rtA_ge c w; omega), fun k hk => ?_⟩⟩, ⟨fun c hc => ⟨c, hc, row0_s hc⟩, fun c d hc hd e => ?_, fun c hc _ => row0_s hc⟩, ⟨z _ _ (by omega) (by omega), z _ _ (by omega) (by omega), fun l hl => ?_⟩, z _ _ (by omega) (by omega), ?_, z _ _ (by omega) (by omega), fun k hk => ?_, fun c hc => Or.inl (row0_z (by omega) (by omega)), fun p hp => ?_, fun c hc => ?_⟩
  · rw [e0 _ (by have := rtA_ge c w; omega) (by have := rtA_ge c w; omega)] at hk
    omega
  · rw [row0_s hc, row0_s hd] at e
    exact (nI_eq (by omega) (by omega)).mp e
  · rw [e0 _ (by omega) (by omega)] at hl
    omega
  · exact Rn.mk (x := 8) rfl (by omega)
  · rw [e0 _ (by omega) (by omega)] at hk
    omega
  · rw [e0 _ (by omega) (by omega)] at hp
    omega
  · rw [e0 _ (by omega) (by omega)] at hc
    omega
theorem town_i {n : Nat → Int32} {p : Nat} : town n p = true ↔ p < nv n 0 ∧ n (8 + p) = 1 := by
  unfold town
  exact decide_eq_true_iff
/-- a place more -/
theorem place_ok {T : Nat} {n : Nat → Int32} {v : Nat} {x : Int32} (h : OkN T n) (hk : nv n 0 < 10) (hx : Nm27 x) : OkN T (upd (upd (upd n (8 + nv n 0) (nI v)) (18 + nv n 0) x) 0 (nI (nv n 0 + 1))) := by
  obtain ⟨⟨h0, h1, hR⟩, ⟨s1, s2, s3⟩, ⟨l2, l3, hl⟩, h4, h5, h6, hLo, hSt, hN⟩ := h
  generalize hm : upd (upd (upd n (8 + nv n 0) (nI v)) (18 + nv n 0) x) 0 (nI (nv n 0 + 1)) = m
  have eo : ∀ q, q ≠ 0 → q ≠ 8 + nv n 0 → q ≠ 18 + nv n 0 → m q = n q := fun q a b c => by
    rw [← hm, upd_o a, upd_o c, upd_o b]
  have e0 : m 0 = nI (nv n 0 + 1) := by rw [← hm, upd_s]
  have e18 : m (18 + nv n 0) = x := by rw [← hm, upd_o (by omega), upd_s]
  have n0 : nv m 0 = nv n 0 + 1 := nv_of e0 (by omega)
  have n1 : nv m 1 = nv n 1 := nv_eq (eo _ (by omega) (by omega) (by omega))
  have n2 : nv m 2 = nv n 2 := nv_eq (eo _ (by omega) (by omega) (by omega))
  have n3 : nv m 3 = nv n 3 := nv_eq (eo _ (by omega) (by omega) (by omega))
  have tw : ∀ p, town n p = true → town m p = true := fun p hp => by
    obtain ⟨a, b⟩ := town_i.mp hp
    exact town_i.mpr ⟨by omega, by rw [eo _ (by omega) (by omega) (by omega)]; exact b⟩
  refine ⟨⟨Rn.mk e0 (by omega), h1.eq (eo _ (by omega) (by omega) (by omega)), fun c hc w hw => ?_⟩, ⟨fun c hc => ?_, fun c d hc hd e => ?_, fun c hc hc2 => ?_⟩, ⟨l2.eq (eo _ (by omega) (by omega) (by omega)), l3.eq (eo _ (by omega) (by omega) (by omega)), fun l hl2 => ?_⟩, h4.eq (eo _ (by omega) (by omega) (by omega)), h5.eq (eo _ (by omega) (by omega) (by omega)), h6.eq (eo _ (by omega) (by omega) (by omega)), fun k hk3 => ?_, fun c hc => ?_, fun p hp => ?_, fun c hc => ?_⟩
  · have eA := rtA_ge c w
    have er : m (rtA c w) = n (rtA c w) := eo _ (by omega) (by omega) (by omega)
    obtain ⟨a, b⟩ := hR c hc w hw
    refine ⟨a.eq er, fun k hk' => ?_⟩
    rw [nv_eq er] at hk'
    obtain ⟨hh, q, g1, g2, g3, g4, g5⟩ := b k hk'
    have h6r := a.2
    exact ⟨hh, q, g1, by omega, g3, by rw [eo _ (by omega) (by omega) (by omega)]; exact g4, by rw [eo _ (by omega) (by omega) (by omega)]; exact g5⟩
  · rw [eo _ (by omega) (by omega) (by omega)]
    exact s1 c hc
  · rw [eo _ (by omega) (by omega) (by omega), eo _ (by omega) (by omega) (by omega)] at e
    exact s2 c d hc hd e
  · rw [eo _ (by omega) (by omega) (by omega)]
    exact s3 c hc (by omega)
  · rw [n2] at hl2
    obtain ⟨f, t, v', s, w, g1, g2, g3, g4, g5, g6, g7, g8, g9, g10, g11, g12, g13, g14, g15⟩ := hl l hl2
    refine ⟨f, t, v', s, w, by rw [eo _ (by omega) (by omega) (by omega)]; exact g1, by rw [eo _ (by omega) (by omega) (by omega)]; exact g2, by rw [eo _ (by omega) (by omega) (by omega)]; exact g3, by rw [eo _ (by omega) (by omega) (by omega)]; exact g4, by rw [eo _ (by omega) (by omega) (by omega)]; exact g5, tw _ g6, tw _ g7, g8, g9, g10, fun z => ⟨tw _ (g11 z).1, (g11 z).2⟩, fun z => by rw [n1]; exact g12 z, g13, fun z => by rw [n3]; exact g14 z, ?_⟩
    rw [eo _ (by omega) (by omega) (by omega)]
    exact g15
  · rw [n3] at hk3
    obtain ⟨⟨c, a, b⟩, l, g1, g2, g3⟩ := hLo k hk3
    exact ⟨⟨c, a, by rw [eo _ (by omega) (by omega) (by omega)]; exact b⟩, l, by rw [n2]; exact g1, by rw [eo _ (by omega) (by omega) (by omega)]; exact g2, by rw [eo _ (by omega) (by omega) (by omega)]; exact g3⟩
  · rw [eo _ (by omega) (by omega) (by omega)]
    exact hSt c hc
  · rw [n0] at hp
    by_cases e : p = nv n 0
    · rw [e, e18]
      exact hx
    · rw [eo _ (by omega) (by omega) (by omega)]
      exact hN.1 p (by omega)
  · rw [n1] at hc
    have := h1.2
    rw [eo _ (by omega) (by omega) (by omega)]
    exact hN.2 c hc
/-- a carrier more -/
theorem carr_ok {T : Nat} {n : Nat → Int32} {x : Int32} (h : OkN T n) (hk : nv n 1 < 5) (hx : Nm27 x) : OkN T (upd (upd n (28 + nv n 1) x) 1 (nI (nv n 1 + 1))) := by
  obtain ⟨⟨h0, h1, hR⟩, ⟨s1, s2, s3⟩, ⟨l2, l3, hl⟩, h4, h5, h6, hLo, hSt, hN⟩ := h
  have h10 := h0.2
  generalize hm : upd (upd n (28 + nv n 1) x) 1 (nI (nv n 1 + 1)) = m
  have eo : ∀ q, q ≠ 1 → q ≠ 28 + nv n 1 → m q = n q := fun q a b => by
    rw [← hm, upd_o a, upd_o b]
  have e0 : m 1 = nI (nv n 1 + 1) := by rw [← hm, upd_s]
  have e18 : m (28 + nv n 1) = x := by rw [← hm, upd_o (by omega), upd_s]
  have n1 : nv m 1 = nv n 1 + 1 := nv_of e0 (by omega)
  have n0 : nv m 0 = nv n 0 := nv_eq (eo _ (by omega) (by omega))
  have n2 : nv m 2 = nv n 2 := nv_eq (eo _ (by omega) (by omega))
  have n3 : nv m 3 = nv n 3 := nv_eq (eo _ (by omega) (by omega))
  have tw : ∀ p, town n p = true → town m p = true := fun p hp => by
    obtain ⟨a, b⟩ := town_i.mp hp
    exact town_i.mpr ⟨by omega, by rw [eo _ (by omega) (by omega)]; exact b⟩
  refine ⟨⟨h0.eq (eo _ (by omega) (by omega)), Rn.mk e0 (by omega), fun c hc w hw => ?_⟩, ⟨fun c hc => ?_, fun c d hc hd e => ?_, fun c hc hc2 => ?_⟩, ⟨l2.eq (eo _ (by omega) (by omega)), l3.eq (eo _ (by omega) (by omega)), fun l hl2 => ?_⟩, h4.eq (eo _ (by omega) (by omega)), h5.eq (eo _ (by omega) (by omega)), h6.eq (eo _ (by omega) (by omega)), fun k hk3 => ?_, fun c hc => ?_, fun p hp => ?_, fun c hc => ?_⟩
  · have eA := rtA_ge c w
    have er : m (rtA c w) = n (rtA c w) := eo _ (by omega) (by omega)
    obtain ⟨a, b⟩ := hR c hc w hw
    refine ⟨a.eq er, fun k hk' => ?_⟩
    rw [nv_eq er] at hk'
    obtain ⟨hh, q, g1, g2, g3, g4, g5⟩ := b k hk'
    have h6r := a.2
    exact ⟨hh, q, g1, by omega, g3, by rw [eo _ (by omega) (by omega)]; exact g4, by rw [eo _ (by omega) (by omega)]; exact g5⟩
  · rw [eo _ (by omega) (by omega)]
    exact s1 c hc
  · rw [eo _ (by omega) (by omega), eo _ (by omega) (by omega)] at e
    exact s2 c d hc hd e
  · rw [eo _ (by omega) (by omega)]
    exact s3 c hc (by omega)
  · rw [n2] at hl2
    obtain ⟨f, t, v', s, w, g1, g2, g3, g4, g5, g6, g7, g8, g9, g10, g11, g12, g13, g14, g15⟩ := hl l hl2
    refine ⟨f, t, v', s, w, by rw [eo _ (by omega) (by omega)]; exact g1, by rw [eo _ (by omega) (by omega)]; exact g2, by rw [eo _ (by omega) (by omega)]; exact g3, by rw [eo _ (by omega) (by omega)]; exact g4, by rw [eo _ (by omega) (by omega)]; exact g5, tw _ g6, tw _ g7, g8, g9, g10, fun z => ⟨tw _ (g11 z).1, (g11 z).2⟩, fun z => by rw [n1]; exact Nat.lt_succ_of_lt (g12 z), g13, fun z => by rw [n3]; exact g14 z, ?_⟩
    rw [eo _ (by omega) (by omega)]
    exact g15
  · rw [n3] at hk3
    obtain ⟨⟨c, a, b⟩, l, g1, g2, g3⟩ := hLo k hk3
    exact ⟨⟨c, a, by rw [eo _ (by omega) (by omega)]; exact b⟩, l, by rw [n2]; exact g1, by rw [eo _ (by omega) (by omega)]; exact g2, by rw [eo _ (by omega) (by omega)]; exact g3⟩
  · rw [eo _ (by omega) (by omega)]
    exact hSt c hc
  · rw [n0] at hp
    rw [eo _ (by omega) (by omega)]
    exact hN.1 p hp
  · rw [n1] at hc
    by_cases e : c = nv n 1
    · rw [e, e18]
      exact hx
    · rw [eo _ (by omega) (by omega)]
      exact hN.2 c (by omega)
/-- another capacity -/
theorem capa_ok {T : Nat} {n : Nat → Int32} {x : Nat} (h : OkN T n) (hx : x ≤ 20) : OkN T (upd n 5 (nI x)) := by
  obtain ⟨hT, hS, hL, h4, h5, h6, hLo, hSt, hN⟩ := h
  have hs : sm (upd n 5 (nI x)) (upd n 5 (nI x)) := sm.rf (h4.eq (upd_o (by omega)))
  have eo : ∀ q, q ≠ 5 → upd n 5 (nI x) q = n q := fun q a => upd_o a
  generalize hm : upd n 5 (nI x) = m at eo hs ⊢
  have n1 : nv m 1 = nv n 1 := nv_eq (eo _ (by omega))
  have n2 : nv m 2 = nv n 2 := nv_eq (eo _ (by omega))
  have n3 : nv m 3 = nv n 3 := nv_eq (eo _ (by omega))
  have htb : tabEq n m := ⟨(eo _ (by omega)).symm, (eo _ (by omega)).symm, fun q a b => (eo _ (by omega)).symm, fun q a b => (eo _ (by omega)).symm⟩
  have tw : ∀ p, town n p = true → town m p = true := fun p hp => by
    obtain ⟨a, b⟩ := town_i.mp hp
    exact town_i.mpr ⟨by rw [nv_eq (eo 0 (by omega))]; exact a, by rw [eo _ (by omega)]; exact b⟩
  refine ⟨TbOk.tab htb hT, ⟨fun c hc => by rw [eo _ (by omega)]; exact hS.1 c hc, fun c d hc hd e => ?_, fun c hc hc2 => ?_⟩, ⟨hL.1.eq (eo _ (by omega)), hL.2.1.eq (eo _ (by omega)), fun l hl2 => ?_⟩, h4.eq (eo _ (by omega)), Rn.mk (by rw [← hm, upd_s]) hx, h6.eq (eo _ (by omega)), fun k hk3 => ?_, fun c hc => ?_, NaOk.tab htb hT.1.2 hT.2.1.2 hN⟩
  · rw [eo _ (by omega), eo _ (by omega)] at e
    exact hS.2.1 c d hc hd e
  · rw [eo _ (by omega)]
    exact hS.2.2 c hc (by omega)
  · rw [n2] at hl2
    obtain ⟨f, t, v', s, w, g1, g2, g3, g4, g5, g6, g7, g8, g9, g10, g11, g12, g13, g14, g15⟩ := hL.2.2 l hl2
    refine ⟨f, t, v', s, w, by rw [eo _ (by omega)]; exact g1, by rw [eo _ (by omega)]; exact g2, by rw [eo _ (by omega)]; exact g3, by rw [eo _ (by omega)]; exact g4, by rw [eo _ (by omega)]; exact g5, tw _ g6, tw _ g7, g8, g9, g10, fun z => ⟨tw _ (g11 z).1, (g11 z).2⟩, fun z => by rw [n1]; exact g12 z, g13, fun z => by rw [n3]; exact g14 z, ?_⟩
    rw [eo _ (by omega)]
    exact g15
  · rw [n3] at hk3
    obtain ⟨⟨c, a, b⟩, l, g1, g2, g3⟩ := hLo k hk3
    exact ⟨⟨c, a, by rw [eo _ (by omega)]; exact b⟩, l, by rw [n2]; exact g1, by rw [eo _ (by omega)]; exact g2, by rw [eo _ (by omega)]; exact g3⟩
  · rw [eo _ (by omega)]
    exact hSt c hc
/-- a letter more -/
theorem post_ok {T : Nat} {n : Nat → Int32} {f t v : Nat} (h : OkN T n) (h30 : nv n 2 < 30) (hf : town n f = true) (ht : town n t = true) (hft : f ≠ t) (hv : v < 1000) : OkN T (postN n (nI f) (nI t) (nI v)) := by
  obtain ⟨hT, hS, hL, h4, h5, h6, hLo, hSt, hN⟩ := h
  have hlo : ∀ q, q < 498 → q ≠ 2 → postN n (nI f) (nI t) (nI v) q = n q := fun q a b => postN_lo a b
  have hold : ∀ l k, l < nv n 2 → k < 10 → postN n (nI f) (nI t) (nI v) (498 + 10 * l + k) = n (498 + 10 * l + k) := fun l k a b => postN_old a b
  have hhi : ∀ q, 798 ≤ q → postN n (nI f) (nI t) (nI v) q = n q := fun q a => postN_hi (by omega)
  have htab := (postN_tab (n := n) (fr := nI f) (to := nI t) (vl := nI v)).sm
  obtain ⟨w0, w1, w2, w3, w4, w5, w6, w7, w8, w9⟩ := postN_new (n := n) (fr := nI f) (to := nI t) (vl := nI v)
  have e2 := postN_2 (n := n) (fr := nI f) (to := nI t) (vl := nI v)
  generalize postN n (nI f) (nI t) (nI v) = m at *
  have n1 : nv m 1 = nv n 1 := nv_eq (hlo _ (by omega) (by omega))
  have n3 : nv m 3 = nv n 3 := nv_eq (hlo _ (by omega) (by omega))
  have n2 : nv m 2 = nv n 2 + 1 := nv_of e2 (by omega)
  have tw : ∀ p, town n p = true → town m p = true := fun p hp => by
    obtain ⟨a, b⟩ := town_i.mp hp
    have := hT.1.2
    exact town_i.mpr ⟨by rw [nv_eq (hlo 0 (by omega) (by omega))]; exact a, by rw [hlo _ (by omega) (by omega)]; exact b⟩
  refine ⟨TbOk.tab htab hT, ⟨fun c hc => by rw [hlo _ (by omega) (by omega)]; exact hS.1 c hc, fun c d hc hd e => ?_, fun c hc hc2 => ?_⟩, ⟨Rn.mk e2 (by omega), hL.2.1.eq (hlo _ (by omega) (by omega)), fun l hl2 => ?_⟩, h4.eq (hlo _ (by omega) (by omega)), h5.eq (hlo _ (by omega) (by omega)), h6.eq (hlo _ (by omega) (by omega)), fun k hk3 => ?_, fun c hc => ?_, NaOk.tab htab hT.1.2 hT.2.1.2 hN⟩
  · rw [hlo _ (by omega) (by omega), hlo _ (by omega) (by omega)] at e
    exact hS.2.1 c d hc hd e
  · rw [hlo _ (by omega) (by omega)]
    exact hS.2.2 c hc (by omega)
  · rw [n2] at hl2
    by_cases el : l = nv n 2
    · subst el
      exact ⟨f, t, v, 0, f, w0, w1, w2, w3, w4, tw _ hf, tw _ ht, hft, hv, by omega, fun _ => ⟨tw _ hf, hft⟩, fun z => by omega, fun z => by omega, fun z => by omega, Or.inl w8⟩
    · have hl3 : l < nv n 2 := by omega
      obtain ⟨f, t, v', s, w, g1, g2, g3, g4, g5, g6, g7, g8, g9, g10, g11, g12, g13, g14, g15⟩ := hL.2.2 l hl3
      refine ⟨f, t, v', s, w, (hold l 0 hl3 (by omega)).trans g1, (hold l 1 hl3 (by omega)).trans g2, (hold l 2 hl3 (by omega)).trans g3, (hold l 3 hl3 (by omega)).trans g4, (hold l 4 hl3 (by omega)).trans g5, tw _ g6, tw _ g7, g8, g9, g10, fun z => ⟨tw _ (g11 z).1, (g11 z).2⟩, fun z => by rw [n1]; exact g12 z, g13, fun z => by rw [n3]; exact g14 z, ?_⟩
      rw [hold l 8 hl3 (by omega)]
      exact g15
  · rw [n3] at hk3
    obtain ⟨⟨c, a, b⟩, l, g1, g2, g3⟩ := hLo k hk3
    exact ⟨⟨c, a, by rw [hhi _ (by omega)]; exact b⟩, l, by omega, (hold l 3 g1 (by omega)).trans g2, (hold l 4 g1 (by omega)).trans g3⟩
  · rw [hlo _ (by omega) (by omega)]
    exact hSt c hc
/-- a promised hour -/
theorem prom_ok {T : Nat} {n : Nat → Int32} {l : Nat} {v : Int32} (h : OkN T n) (hl9 : l < nv n 2) : OkN T (upd n (498 + 10 * l + 6) v) := by
  obtain ⟨hT, hS, hL, h4, h5, h6, hLo, hSt, hN⟩ := h
  have hl30 := hL.1.2
  have hs : sm (upd n (498 + 10 * l + 6) v) n := (sm.rf h4).up (by omega) _
  have eo : ∀ q, q ≠ 498 + 10 * l + 6 → upd n (498 + 10 * l + 6) v q = n q := fun q a => upd_o a
  generalize hm : upd n (498 + 10 * l + 6) v = m at eo hs ⊢
  have n1 : nv m 1 = nv n 1 := nv_eq (eo _ (by omega))
  have n2 : nv m 2 = nv n 2 := nv_eq (eo _ (by omega))
  have n3 : nv m 3 = nv n 3 := nv_eq (eo _ (by omega))
  have tw : ∀ p, town n p = true → town m p = true := fun p hp => by
    obtain ⟨a, b⟩ := town_i.mp hp
    have := hT.1.2
    exact town_i.mpr ⟨by rw [nv_eq (eo 0 (by omega))]; exact a, by rw [eo _ (by omega)]; exact b⟩
  refine ⟨hs.Tb hT, hs.Sk hS, hL.sm hs (fun l2 hl2 => ?_), hs.2, h5.eq (eo _ (by omega)), h6.eq (eo _ (by omega)), fun k hk3 => ?_, fun c hc => ?_, NaOk.tab hs.tab.sm hT.1.2 hT.2.1.2 hN⟩
  · obtain ⟨f, t, v', s, w, g1, g2, g3, g4, g5, g6, g7, g8, g9, g10, g11, g12, g13, g14, g15⟩ := hL.2.2 l2 hl2
    refine ⟨f, t, v', s, w, by rw [eo _ (by omega)]; exact g1, by rw [eo _ (by omega)]; exact g2, by rw [eo _ (by omega)]; exact g3, by rw [eo _ (by omega)]; exact g4, by rw [eo _ (by omega)]; exact g5, tw _ g6, tw _ g7, g8, g9, g10, fun z => ⟨tw _ (g11 z).1, (g11 z).2⟩, fun z => by rw [n1]; exact g12 z, g13, fun z => by rw [n3]; exact g14 z, ?_⟩
    rw [eo _ (by omega)]
    exact g15
  · rw [n3] at hk3
    have := hL.2.1.2
    obtain ⟨⟨c, a, b⟩, l2, g1, g2, g3⟩ := hLo k hk3
    exact ⟨⟨c, a, by rw [eo _ (by omega)]; exact b⟩, l2, by rw [n2]; exact g1, by rw [eo _ (by omega)]; exact g2, by rw [eo _ (by omega)]; exact g3⟩
  · rw [eo _ (by omega)]
    exact hSt c hc
