variable {G : GG} {base : Nat}
/-! ===== WHAT STAYS TRUE OF THE ROW: a route's hours rise ===== -/
theorem RtIn.reg {n m : Nat → Int32} (hR : RtOk n) (h : ∀ q, 43 ≤ q → q < 498 → m q = n q) (hi : RtIn n) : RtIn m := by
  intro c hc w hw j k hjk hk
  have eA : rtA c w = 43 + 13 * (7 * c + w) := rfl
  have h6 := (hR c hc w hw).1.2
  rw [nv_eq (h (rtA c w) (by omega) (by omega))] at hk
  rw [nv_eq (h (rtA c w + 1 + 2 * j) (by omega) (by omega)), nv_eq (h (rtA c w + 1 + 2 * k) (by omega) (by omega))]
  exact hi c hc w hw j k hjk hk
/-- the hours read so far rise, and lie under lo -/
def RdIn (rd : Nat → Int32) (lo c : Nat) : Prop := (∀ j k, j < k → k < c → nv rd (1 + 2 * j) < nv rd (1 + 2 * k)) ∧ ∀ k, k < c → nv rd (1 + 2 * k) < lo
theorem st_lo {n : Nat → Int32} {u : Nat → Nat} {e lo c : Nat} {q : Q4} (hp : q.1 ≤ e) (he : e ≤ 900) (h : (stC n u e lo c q).2.2.1 = -1) : lo ≤ stV u e lo c q := by
  have hB : (stB u e lo c q).2.2.1 = -1 := Classical.byContradiction fun z => z (by rw [← fl_rp (n := n) z]; exact h)
  exact (nuW_hi (q := stA u e c q) (stA_le hp) he hB).2.1
theorem stD_in {n rd : Nat → Int32} {u : Nat → Nat} {e lo c : Nat} {q : Q4} (hp : q.1 ≤ e) (he : e ≤ 900) (h : (stC n u e lo c q).2.2.1 = -1) (hr : RdIn rd lo c) : RdIn (stD n u e lo c rd q) (stV u e lo c q + 1) (c + 1) := by
  obtain ⟨hc, hv⟩ := st_ok hp he h
  have hl := st_lo hp he h
  have en : nv (stD n u e lo c rd q) (1 + 2 * c) = stV u e lo c q := nv_of (by unfold stD; rw [upd_o (by omega), upd_o (by omega), upd_s]) (by omega)
  have eo : ∀ k, k < c → nv (stD n u e lo c rd q) (1 + 2 * k) = nv rd (1 + 2 * k) := fun k hk => nv_eq (by unfold stD; rw [upd_o (by omega), upd_o (by omega), upd_o (by omega)])
  refine ⟨fun j k hjk hk => ?_, fun k hk => ?_⟩
  · by_cases e1 : k = c
    · subst e1
      rw [en, eo j hjk]
      have := hr.2 j hjk
      omega
    · rw [eo j (by omega), eo k (by omega)]
      exact hr.1 j k hjk (by omega)
  · by_cases e1 : k = c
    · subst e1
      rw [en]
      omega
    · rw [eo k (by omega)]
      have := hr.2 k (by omega)
      omega
theorem stZ_in {n : Nat → Int32} {u : Nat → Nat} {e : Nat} (h0 : Rn n 0 10) (he : e ≤ 900) : ∀ (f lo c : Nat) (rd : Nat → Int32) (q : Q4), q.1 ≤ e → RdOk n rd c → RdIn rd lo c → (stZ n u e f lo c rd q).2.2.2.1 = -1 → ∃ c' lo', RdOk n (stZ n u e f lo c rd q).1 c' ∧ RdIn (stZ n u e f lo c rd q).1 lo' c'
  | 0, lo, c, rd, _, _, h, hi, _ => ⟨c, lo, h, hi⟩
  | f + 1, lo, c, rd, q, hp, h, hi, hg => by
    have hC : (stC n u e lo c q).1 ≤ e := rpQ_le (nuQ_le (stA_le hp)) he
    by_cases h1 : (stC n u e lo c q).2.2.1 = -1
    · have hD := stD_ok h0 hp he h1 h
      have hI := stD_in hp he h1 hi
      by_cases h2 : (blQ u e (stC n u e lo c q)).1 < e ∧ dgB u (blQ u e (stC n u e lo c q)).1 = true
      · rw [stZ_more h1 h2] at hg ⊢
        exact stZ_in h0 he f _ _ _ _ (blQ_le hC) hD hI hg
      · rw [stZ_end h1 h2]
        exact ⟨c + 1, _, hD, hI⟩
    · rw [stZ_bad h1] at hg
      exact absurd hg h1
theorem rtZ_in {n rd : Nat → Int32} {x : Nat} {u : Nat → Nat} {e : Nat} {q : Q4} (h0 : Rn n 0 10) (he : e ≤ 900) (hp : (rtB n x u e q).1 ≤ e) (h : (rtZ n rd x u e q).2.2.2.1 = -1) : ∃ m lo, RdOk n (rtZ n rd x u e q).1 m ∧ RdIn (rtZ n rd x u e q).1 lo m := by
  unfold rtZ at h ⊢
  have hp2 : (rtD n (nv n 1 - 1) (rtV n x u e q) 7 (rtB n x u e q)).1 ≤ e := by
    rw [rtD_1]
    exact hp
  have hr := rd0_ok (n := n) (rd := rd)
  have hi : RdIn (upd rd 0 0) 0 0 := ⟨fun j k _ hk => absurd hk (Nat.not_lt_zero _), fun k hk => absurd hk (Nat.not_lt_zero _)⟩
  generalize rtD n (nv n 1 - 1) (rtV n x u e q) 7 (rtB n x u e q) = r at h hp2 ⊢
  generalize upd rd 0 0 = rd' at h hr hi ⊢
  generalize 7 = f at h ⊢
  exact stZ_in h0 he f 0 0 rd' r hp2 hr hi h
theorem route_in {n rd : Nat → Int32} {c V m lo : Nat} (hR : RtOk n) (hc : c < 5) (hr : RdOk n rd m) (hi : RdIn rd lo m) (h : RtIn n) : RtIn (rcN n c V rd 7) := by
  intro c' hc' w hw j k hjk hk
  have er : ∀ j, j < 13 → rcN n c V rd 7 (rtA c' w + j) = if c' = c ∧ w < 7 ∧ bt (nI V) w = true then rd j else n (rtA c' w + j) := fun j d => rcN_r hc hc' hw d 7 (by omega)
  have h6 := (hR c' hc' w hw).1.2
  have hm := hr.2.1
  by_cases hb : c' = c ∧ w < 7 ∧ bt (nI V) w = true
  · have e0 : nv (rcN n c V rd 7) (rtA c' w) = m := by
      have z := er 0 (by omega)
      rw [if_pos hb, Nat.add_zero] at z
      exact nv_of (z.trans hr.1) (by omega)
    rw [e0] at hk
    have e2 : ∀ k, k < m → nv (rcN n c V rd 7) (rtA c' w + 1 + 2 * k) = nv rd (1 + 2 * k) := fun k hk => by
      have z := er (1 + 2 * k) (by omega)
      rw [if_pos hb] at z
      show (rcN n c V rd 7 (rtA c' w + 1 + 2 * k)).toNatClampNeg = (rd (1 + 2 * k)).toNatClampNeg
      rw [Nat.add_assoc, z]
    rw [e2 j (by omega), e2 k hk]
    exact hi.1 j k hjk hk
  · have e0 : nv (rcN n c V rd 7) (rtA c' w) = nv n (rtA c' w) := by
      have z := er 0 (by omega)
      rw [if_neg hb, Nat.add_zero] at z
      exact nv_eq z
    rw [e0] at hk
    have e2 : ∀ k, k < nv n (rtA c' w) → nv (rcN n c V rd 7) (rtA c' w + 1 + 2 * k) = nv n (rtA c' w + 1 + 2 * k) := fun k hk => by
      have z := er (1 + 2 * k) (by omega)
      rw [if_neg hb, ← Nat.add_assoc] at z
      exact nv_eq z
    rw [e2 j (by omega), e2 k hk]
    exact h c' hc' w hw j k hjk hk
theorem rtL_in {n rd : Nat → Int32} {x : Nat} {u : Nat → Nat} {e : Nat} {r : Q4} (hO : OkN 0 n) (hI : RtIn n) (hr : r.1 ≤ e) (he : e ≤ 900) (hx : x < 100000) (h : (rtR n rd x u e r).2.2.1 = -1) : RtIn (rtN n rd x u e r) := by
  unfold rtR at h
  split at h
  · rename_i hs
    have hsl : (rtM n x r).1 ≤ e := by unfold rtM; rw [muQ_1]; exact hr
    have hM : (rtM n x r).2.2.1 = -1 := (nuW_hi (q := rtM n x r) hsl he hs).1
    have hpos : 0 < nv n 1 := of_decide_eq_true (muQ_c hM (by omega))
    have h15 := hO.1.2.1.2
    unfold rtN
    rw [if_pos ⟨hs, h⟩]
    obtain ⟨m, lo, hm, hi⟩ := rtZ_in hO.1.1 he (nuQ_le hsl) h
    exact route_in hO.1.2.2 (by omega) hm hi hI
  · rename_i hs
    exact absurd h hs
theorem plL_in {n : Nat → Int32} {x v : Nat} {u : Nat → Nat} {e : Nat} {r : Q4} (hO : OkN 0 n) (hI : RtIn n) (hr : r.1 ≤ e) (he : e ≤ 900) (hx : x < 100000) (h : (plR n x v u e r).2.2.1 = -1) : RtIn (pcN n x v u e r) := by
  unfold plR at h
  split at h
  · rename_i hs
    have h10 : nv n 0 < 10 := of_decide_eq_true (muQ_c hs (by omega))
    have hsl : (plS n x r).1 ≤ e := by unfold plS; rw [muQ_1]; exact hr
    obtain ⟨g1, g2, -⟩ := nw_ok h hsl he
    unfold pcN
    rw [if_pos hs, g1]
    have e0 : nv (upd n (8 + nv n 0) (nI v)) 0 = nv n 0 := nv_eq (upd_o (by omega))
    rw [e0]
    exact RtIn.reg hO.1.2.2 (fun q a b => by rw [upd_o (by omega), upd_o (by omega), upd_o (by omega)]) hI
  · rename_i hs
    exact absurd h hs
theorem crL_in {n : Nat → Int32} {x : Nat} {u : Nat → Nat} {e : Nat} {r : Q4} (hO : OkN 0 n) (hI : RtIn n) (hr : r.1 ≤ e) (he : e ≤ 900) (hx : x < 100000) (h : (crR n x u e r).2.2.1 = -1) : RtIn (crN n x u e r) := by
  unfold crR at h
  split at h
  · rename_i hs
    have h5 : nv n 1 < 5 := of_decide_eq_true (muQ_c hs (by omega))
    have hsl : (crS9 n x r).1 ≤ e := by unfold crS9; rw [muQ_1]; exact hr
    obtain ⟨g1, g2, -⟩ := nw_ok h hsl he
    unfold crN
    rw [if_pos hs, g1]
    exact RtIn.reg hO.1.2.2 (fun q a b => by rw [upd_o (by omega), upd_o (by omega)]) hI
  · rename_i hs
    exact absurd h hs
theorem ltL_in {n : Nat → Int32} {x : Nat} {u : Nat → Nat} {e : Nat} {r : Q4} (hO : OkN 0 n) (hI : RtIn n) : RtIn (ltN n x u e r) := by
  unfold ltN
  split
  · exact RtIn.reg hO.1.2.2 (fun q a b => postN_lo b (by omega)) hI
  · exact hI
/-- a good line keeps the hours rising -/
theorem ln_in {n rd : Nat → Int32} {u : Nat → Nat} {e : Nat} {q : Q4} (hO : OkN 0 n) (hI : RtIn n) (hp : q.1 ≤ e) (he : e ≤ 900) (hx : q.2.1 < 100000) (hg : (lnX n rd u e q).2.2.2.2.1 = -1) : RtIn (lnX n rd u e q).1 := by
  revert hg
  unfold lnX
  have p0 : (tkQ u e 0 q).1 ≤ e := tkQ_le hp
  have p1 : (tkQ u e 1 (tkQ u e 0 q)).1 ≤ e := tkQ_le p0
  have p2 : (tkQ u e 2 (tkQ u e 1 (tkQ u e 0 q))).1 ≤ e := tkQ_le p1
  have p3 : (tkQ u e 3 (tkQ u e 2 (tkQ u e 1 (tkQ u e 0 q)))).1 ≤ e := tkQ_le p2
  generalize (tkQ u e 5 (tkQ u e 4 (tkQ u e 3 (tkQ u e 2 (tkQ u e 1 (tkQ u e 0 q)))))) = r5 at *
  generalize (tkQ u e 4 (tkQ u e 3 (tkQ u e 2 (tkQ u e 1 (tkQ u e 0 q))))) = r4 at *
  generalize (tkQ u e 3 (tkQ u e 2 (tkQ u e 1 (tkQ u e 0 q)))) = r3 at *
  generalize (tkQ u e 2 (tkQ u e 1 (tkQ u e 0 q))) = r2 at *
  generalize (tkQ u e 1 (tkQ u e 0 q)) = r1 at *
  generalize (tkQ u e 0 q) = r0 at *
  intro hg
  split at hg
  · rename_i c0
    rw [if_pos c0]
    exact plL_in hO hI p0 he hx hg
  rename_i c0
  rw [if_neg c0]
  split at hg
  · rename_i c1
    rw [if_pos c1]
    exact plL_in hO hI p1 he hx hg
  rename_i c1
  rw [if_neg c1]
  split at hg
  · rename_i c2
    rw [if_pos c2]
    exact crL_in hO hI p2 he hx hg
  rename_i c2
  rw [if_neg c2]
  split at hg
  · rename_i c3
    rw [if_pos c3]
    exact rtL_in hO hI p3 he hx hg
  rename_i c3
  rw [if_neg c3]
  split at hg
  · rename_i c4
    rw [if_pos c4]
    exact RtIn.reg hO.1.2.2 (fun q a b => upd_o (by omega)) hI
  rename_i c4
  rw [if_neg c4]
  split at hg
  · rename_i c5
    rw [if_pos c5]
    exact ltL_in hO hI
  rename_i c5
  rw [if_neg c5]
  exact hI
theorem ldZ_in {u : Nat → Nat} {e : Nat} (he : e ≤ 900) : ∀ (f : Nat) (n rd : Nat → Int32) (q : Q4), (q.2.2.1 = -1 → q.1 ≤ e ∧ q.2.1 < 100000 ∧ OkN 0 n ∧ RtIn n) → (ldZ u e f n rd q).2.2.2.2.1 = -1 → RtIn (ldZ u e f n rd q).1
  | 0, n, rd, q, h, hg => (h hg).2.2.2
  | f + 1, n, rd, q, h, hg => by
    by_cases h1 : q.2.2.1 = -1 ∧ q.1 < e
    · rw [ldZ_on h1] at hg ⊢
      obtain ⟨a, b, c, d⟩ := h h1.1
      refine ldZ_in he f _ _ _ (fun hz => ?_) hg
      obtain ⟨g1, g2, g3, g4⟩ := ed_ok (lnX_le a he) he hz
      exact ⟨g3, by rw [g4]; omega, ln_ok c a he b g1, ln_in c d a he b g1⟩
    · rw [ldZ_off h1] at hg ⊢
      exact (h hg).2.2.2
theorem row0_in : RtIn row0 := by
  intro c hc w hw j k hjk hk
  have eA : rtA c w = 43 + 13 * (7 * c + w) := rfl
  have e0 : nv row0 (rtA c w) = 0 := nv_of (row0_z (by omega) (by omega)) (by omega)
  omega
theorem bgN_in {n : Nat → Int32} : RtIn (bgN n) := RtIn.reg row0_ok.1.2.2 (fun q a b => by unfold bgN; rw [if_pos (by omega)]) row0_in
theorem ldS_in {σ : Sg} (he : σ.2.2.2.2.1 ≤ 900) : (ldS σ).2.2.2.2.1 = -1 → RtIn (ldS σ).1 := by
  refine ldZ_in he 901 _ _ _ (fun _ => ⟨eo_le (Nat.zero_le _), ?_, bgN_ok, bgN_in⟩)
  have : eo (blB σ.2.2.2.1) σ.2.2.2.2.1 0 ≤ σ.2.2.2.2.1 := eo_le (Nat.zero_le _)
  show eo (blB σ.2.2.2.1) σ.2.2.2.2.1 0 < 100000
  omega
theorem load_in {σ : Sg} (he : σ.2.2.2.2.1 ≤ 900) (hR : RtOk σ.1) (hI : RtIn σ.1) : RtIn (sg_load σ).1 := by
  unfold sg_load
  split
  · rename_i h
    refine RtIn.reg (n := (ldS σ).1) (ldS_ok he h).1.2.2 (fun q a b => ?_) (ldS_in he h)
    show prmN (ldS σ).1 (nv (ldS σ).1 2) q = _
    generalize nv (ldS σ).1 2 = k
    induction k with
    | zero => rfl
    | succ k ih =>
      unfold prmN
      rw [upd_o (by omega)]
      exact ih
  · exact RtIn.reg hR (fun q a b => if_pos (by omega)) hI
