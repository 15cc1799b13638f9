variable {G : GG} {base : Nat}
theorem TT.eqR {i : Nat → Nat → Int32} {b : Nat} {n m : Nat → Int32} (h : TT i b n) (he : tbR n m) (hO : TbOk n) : TT i b m := by
  have h1 : tabEq n (fun q => if 38 ≤ q ∧ q < 43 then n q else m q) := ⟨he.1, he.2.1, fun q a b => by show n q = if 38 ≤ q ∧ q < 43 then n q else m q; rw [if_neg (by omega)]; exact he.2.2.1 q a b, fun q a b => by
    show n q = if 38 ≤ q ∧ q < 43 then n q else m q
    by_cases z : q < 43
    · rw [if_pos ⟨a, z⟩]
    · rw [if_neg (by omega)]
      exact he.2.2.2 q (by omega) b⟩
  have t0 := h.eq h1 hO.1.2 hO.2.1.2 hO.2.2
  have o0 : TbOk (fun q => if 38 ≤ q ∧ q < 43 then n q else m q) := TbOk.tab h1 hO
  generalize (fun q => if 38 ≤ q ∧ q < 43 then n q else m q) = x0 at h1 t0 o0
  have up : ∀ (x : Nat → Int32) c v, c < 5 → TbOk x → TT i b x → TbOk (upd x (38 + c) v) ∧ TT i b (upd x (38 + c) v) := fun x c v hc ho ht =>
    ⟨tbR.tb (n := x) ⟨(upd_o (by omega)).symm, (upd_o (by omega)).symm, fun q a b => (upd_o (by omega)).symm, fun q a b => (upd_o (by omega)).symm⟩ ho, strTT ht ho hc⟩
  obtain ⟨o1, t1⟩ := up x0 0 (m 38) (by omega) o0 t0
  obtain ⟨o2, t2⟩ := up _ 1 (m 39) (by omega) o1 t1
  obtain ⟨o3, t3⟩ := up _ 2 (m 40) (by omega) o2 t2
  obtain ⟨o4, t4⟩ := up _ 3 (m 41) (by omega) o3 t3
  obtain ⟨o5, t5⟩ := up _ 4 (m 42) (by omega) o4 t4
  refine t5.eq (m := m) ⟨?_, ?_, fun q a b => ?_, fun q a b => ?_⟩ o5.1.2 o5.2.1.2 o5.2.2
  · rw [upd_o (by omega), upd_o (by omega), upd_o (by omega), upd_o (by omega), upd_o (by omega)]
    exact h1.1.symm.trans he.1
  · rw [upd_o (by omega), upd_o (by omega), upd_o (by omega), upd_o (by omega), upd_o (by omega)]
    exact h1.2.1.symm.trans he.2.1
  · rw [upd_o (by omega), upd_o (by omega), upd_o (by omega), upd_o (by omega), upd_o (by omega)]
    exact (h1.2.2.1 q a b).symm.trans (he.2.2.1 q a b)
  · by_cases z : q < 43
    · rcases (by omega : q = 38 ∨ q = 39 ∨ q = 40 ∨ q = 41 ∨ q = 42) with e | e | e | e | e <;> subst e <;> simp [upd]
    · rw [upd_o (by omega), upd_o (by omega), upd_o (by omega), upd_o (by omega), upd_o (by omega)]
      exact (h1.2.2.2 q (by omega) b).symm.trans (he.2.2.2 q (by omega) b)
/-- the state is in order, its past too -/
def Gs (T : Nat) (σ : Sg) : Prop := OkN T σ.1 ∧ RtIn σ.1 ∧ σ.2.2.1 ≤ 8 ∧ ∀ k, k < σ.2.2.1 → OkN T (rowP σ k) ∧ tbR (rowP σ k) σ.1
theorem Gs.mono {T T' : Nat} {σ : Sg} (h : Gs T σ) (hT : T ≤ T') : Gs T' σ := ⟨h.1.mono hT, h.2.1, h.2.2.1, fun k hk => ⟨(h.2.2.2 k hk).1.mono hT, (h.2.2.2 k hk).2⟩⟩
/-- all but row, past rows and depth is free -/
theorem Gs.rest {T : Nat} {σ τ : Sg} (h : Gs T σ) (e1 : τ.1 = σ.1) (e2 : τ.2.1 = σ.2.1) (e3 : τ.2.2.1 = σ.2.2.1) : Gs T τ := by
  have er : ∀ k, rowP τ k = rowP σ k := fun k => by unfold rowP; rw [e1, e2]
  refine ⟨by rw [e1]; exact h.1, by rw [e1]; exact h.2.1, by rw [e3]; exact h.2.2.1, fun k hk => ?_⟩
  rw [e3] at hk
  rw [er, e1]
  exact h.2.2.2 k hk
theorem rowP_eq {σ τ : Sg} {k j : Nat} (h : ∀ q, q < 1158 → τ.2.1 (1158 * k + q) = σ.2.1 (1158 * j + q)) : ∀ q, q < 1158 → rowP τ k q = rowP σ j q := fun q hq => by
  unfold rowP
  rw [if_pos hq, if_pos hq]
  exact h q hq
theorem tbR.q {n m k : Nat → Int32} (h : ∀ q, q < 1158 → n q = m q) (h2 : tbR m k) : tbR n k := ⟨(h _ (by omega)).trans h2.1, (h _ (by omega)).trans h2.2.1, fun q a b => (h _ (by omega)).trans (h2.2.2.1 q a b), fun q a b => (h _ (by omega)).trans (h2.2.2.2 q a b)⟩
/-- an action: the row is kept, then it changes -/
theorem Gs.act {T T' : Nat} {σ : Sg} {n : Nat → Int32} (h : Gs T σ) (hT : T ≤ T') (hn : OkN T' n) (ht : tbR σ.1 n) : Gs T' (rowS (keepS σ) n) := by
  obtain ⟨h1, h2, h3, h4⟩ := h
  refine ⟨hn, ht.inn h1.1.2.2 h2, ?_, fun k hk => ?_⟩
  · show (if σ.2.2.1 = 8 then 8 else σ.2.2.1 + 1) ≤ 8
    split <;> omega
  · have hk' : k < (if σ.2.2.1 = 8 then 8 else σ.2.2.1 + 1) := hk
    have old : ∀ j, j < σ.2.2.1 → (∀ q, q < 1158 → (keepS σ).2.1 (1158 * k + q) = σ.2.1 (1158 * j + q)) → OkN T' (rowP (rowS (keepS σ) n) k) ∧ tbR (rowP (rowS (keepS σ) n) k) n := fun j hj he => by
      have e := rowP_eq (τ := rowS (keepS σ) n) (σ := σ) (k := k) (j := j) he
      obtain ⟨a, b⟩ := h4 j hj
      exact ⟨OkN.eq (fun q hq => (e q hq).symm) (a.mono hT), tbR.q e (b.tr ht)⟩
    have new : (∀ q, q < 1158 → (keepS σ).2.1 (1158 * k + q) = σ.1 q) → OkN T' (rowP (rowS (keepS σ) n) k) ∧ tbR (rowP (rowS (keepS σ) n) k) n := fun he => by
      have e : ∀ q, q < 1158 → rowP (rowS (keepS σ) n) k q = σ.1 q := fun q hq => by
        unfold rowP
        rw [if_pos hq]
        exact he q hq
      exact ⟨OkN.eq (fun q hq => (e q hq).symm) (h1.mono hT), tbR.q e ht⟩
    by_cases h8 : σ.2.2.1 = 8
    · rw [if_pos h8] at hk'
      have ek : (keepS σ).2.1 = cpP (shP σ.2.1) σ.1 7 := by unfold keepS; show (if σ.2.2.1 = 8 then _ else _) = _; rw [if_pos h8]
      by_cases e7 : k = 7
      · subst e7
        refine new (fun q hq => ?_)
        rw [ek]
        unfold cpP
        rw [if_pos (by omega), show 1158 * 7 + q - 1158 * 7 = q by omega]
      · refine old (k + 1) (by omega) (fun q hq => ?_)
        rw [ek]
        unfold cpP shP
        rw [if_neg (by omega), if_pos (by omega), show 1158 * k + q + 1158 = 1158 * (k + 1) + q by omega]
    · rw [if_neg h8] at hk'
      have ek : (keepS σ).2.1 = cpP σ.2.1 σ.1 σ.2.2.1 := by unfold keepS; show (if σ.2.2.1 = 8 then _ else _) = _; rw [if_neg h8]
      by_cases ed : k = σ.2.2.1
      · refine new (fun q hq => ?_)
        rw [ek]
        unfold cpP
        rw [if_pos (by rw [ed]; omega), ed, show 1158 * σ.2.2.1 + q - 1158 * σ.2.2.1 = q by omega]
      · refine old k (by omega) (fun q hq => ?_)
        rw [ek]
        unfold cpP
        have : 1158 * (k + 1) ≤ 1158 * σ.2.2.1 := Nat.mul_le_mul_left _ (by omega)
        rw [if_neg (by omega)]
theorem Gs.undo {T : Nat} {σ : Sg} (h : Gs T σ) : Gs T (sg_undo σ) := by
  unfold sg_undo
  split
  · exact h
  · rename_i h0
    obtain ⟨h1, h2, h3, h4⟩ := h
    obtain ⟨a, b⟩ := h4 (σ.2.2.1 - 1) (by omega)
    refine ⟨a, b.sm.inn h1.1.2.2 h2, by show σ.2.2.1 - 1 ≤ 8; omega, fun k hk => ?_⟩
    have hk' : k < σ.2.2.1 - 1 := hk
    obtain ⟨c, d⟩ := h4 k (by omega)
    have e := rowP_eq (τ := undoS σ) (σ := σ) (k := k) (j := k) (fun q hq => rfl)
    exact ⟨OkN.eq (fun q hq => (e q hq).symm) c, tbR.q e (d.tr b.sm)⟩
/-- what undo brings back has the same tables -/
theorem Gs.undoTT {T : Nat} {σ : Sg} {i : Nat → Nat → Int32} {b : Nat} (h : Gs T σ) (h0 : ¬ σ.2.2.1 = 0) (ht : TT i b σ.1) : TT i b (undoS σ).1 := ht.eqR (h.2.2.2 (σ.2.2.1 - 1) (by omega)).2.sm h.1.1
theorem Gs.setCapacity {T : Nat} {σ : Sg} {x : Int32} (h : Gs T σ) : Gs T (sg_setCapacity σ x) := by
  unfold sg_setCapacity
  split
  · rename_i hx
    obtain ⟨j, hj, rfl⟩ := nI_of (x := x) (i_nlt.mpr (Int32.le_trans (by decide) hx.1))
    have h20 : j ≤ 20 := by
      have z := hx.2
      rw [show (20 : Int32) = nI 20 from rfl, nI_leI hj (by omega)] at z
      exact z
    exact h.act (Nat.le_refl T) (capa_ok h.1 h20) ⟨(upd_o (by omega)).symm, (upd_o (by omega)).symm, fun q a b => (upd_o (by omega)).symm, fun q a b => (upd_o (by omega)).symm⟩
  · exact h
theorem ix_some {m c : Nat} {x : Int32} (h : ix m x = some c) : c < m ∧ x = nI c := by
  unfold ix at h
  split at h
  · rename_i hx
    obtain ⟨j, hj, rfl⟩ := nI_of (i_nlt.mpr hx.1)
    have e := Option.some.inj h
    rw [nI_clamp hj] at e hx
    exact ⟨by omega, by rw [e]⟩
  · cases h
theorem Gs.strike {T : Nat} {σ : Sg} {x y : Int32} (h : Gs T σ) : Gs T (sg_strike σ x y) := by
  unfold sg_strike
  cases hx : ix (nv σ.1 1) x with
  | none => exact h
  | some c =>
    have hc := (ix_some hx).1
    have h5 := h.1.1.2.1.2
    obtain ⟨a, b⟩ := strike_ok (c := c) (v := if y = 0 then 0 else 1) h.1 (by omega) (by split <;> simp)
    exact h.act (Nat.le_refl T) a b
theorem Gs.claim {T : Nat} {σ : Sg} {x : Int32} (h : Gs T σ) : Gs T (sg_claim σ x) := by
  unfold sg_claim
  cases hx : ix (nv σ.1 2) x with
  | none => exact h
  | some l =>
    have hl := (ix_some hx).1
    dsimp only
    split
    · exact h.act (Nat.le_refl T) (claim_ok h.1 hl) ⟨(upd_o (by omega)).symm, (upd_o (by omega)).symm, fun q a b => (upd_o (by omega)).symm, fun q a b => (upd_o (by omega)).symm⟩
    · exact h
theorem Gs.lose {T : Nat} {σ : Sg} {x : Int32} (h : Gs T σ) : Gs T (sg_lose σ x) := by
  unfold sg_lose
  cases hx : ix (nv σ.1 1) x with
  | none => exact h
  | some c =>
    have hc := (ix_some hx).1
    have h5 := h.1.1.2.1.2
    obtain ⟨a, b⟩ := lose_ok (c := c) h.1 (by omega)
    exact h.act (Nat.le_refl T) a b
theorem Gs.find {T : Nat} {σ : Sg} {x y : Int32} (h : Gs T σ) : Gs T (sg_find σ x y) := by
  unfold sg_find
  cases hx : ix (nv σ.1 3) x with
  | none => exact h
  | some k =>
    dsimp only
    cases hy : ix (nv σ.1 0) y with
    | none => exact h
    | some p =>
      dsimp only
      split
      · rename_i ht
        obtain ⟨a, b⟩ := find_ok h.1 (ix_some hx).1 ht
        exact h.act (Nat.le_refl T) a b
      · exact h
theorem pair_some {n : Nat → Int32} {x y : Int32} {pq : Nat × Nat} (h0 : nv n 0 ≤ 10) (h : pairN n x y = some pq) : x = nI pq.1 ∧ y = nI pq.2 ∧ town n pq.1 = true ∧ town n pq.2 = true ∧ pq.1 ≠ pq.2 := by
  by_cases hx : ∃ p q, x = nI p ∧ y = nI q ∧ town n p = true ∧ town n q = true ∧ p ≠ q
  · obtain ⟨p, q, rfl, rfl, hp, hq, hne⟩ := hx
    rw [pair_ok h0 hp hq hne] at h
    cases h
    exact ⟨rfl, rfl, hp, hq, hne⟩
  · rw [pair_no h0 hx] at h
    cases h
theorem Gs.post {T : Nat} {σ : Sg} {x y v : Int32} (h : Gs T σ) : Gs T (sg_post σ x y v) := by
  unfold sg_post
  cases hp : pairN σ.1 x y with
  | none => exact h
  | some pq =>
    dsimp only
    cases hv : ix 1000 v with
    | none => exact h
    | some w =>
      dsimp only
      split
      · exact h
      · rename_i h30
        obtain ⟨rfl, rfl, h1, h2, h3⟩ := pair_some h.1.1.1.2 hp
        obtain ⟨hw, rfl⟩ := ix_some hv
        have hb := h.1.2.2.1.1.2
        have ho := post_ok h.1 (by omega) h1 h2 h3 hw
        have e2 : nv (postN σ.1 (nI pq.1) (nI pq.2) (nI w)) 2 = nv σ.1 2 + 1 := nv_of postN_2 (by omega)
        refine h.act (Nat.le_refl T) (prom_ok ho (by omega)) ?_
        exact (postN_tab (n := σ.1) (fr := nI pq.1) (to := nI pq.2) (vl := nI w)).sm.R.tr ⟨(upd_o (by omega)).symm, (upd_o (by omega)).symm, fun q a b => (upd_o (by omega)).symm, fun q a b => (upd_o (by omega)).symm⟩
theorem Gs.run {T : Nat} {σ : Sg} {x : Int32} (h : Gs T σ) (hT : T < 890000) : Gs (T + 168) (sg_run σ x) := by
  unfold sg_run
  split
  · rename_i hx
    obtain ⟨j, hj, rfl⟩ := nI_of (x := x) (i_nlt.mpr (Int32.le_trans (by decide) hx.1))
    have h168 : j ≤ 168 := by
      have z := hx.2
      rw [show (168 : Int32) = nI 168 from rfl, nI_leI hj (by omega)] at z
      exact z
    rw [nI_clamp hj]
    exact h.act (by omega) ((run_ok h.1 j (by omega)).mono (by omega)) (run_tab h.1 j (by omega)).sm.R
  · exact h.mono (by omega)
theorem Gs.load {T : Nat} {σ : Sg} (h : Gs T σ) (he : σ.2.2.2.2.1 ≤ 900) : Gs T (sg_load σ) := by
  refine ⟨load_ok h.1 (ldS_ok he), load_in he h.1.1.2.2 h.2.1, ?_, fun k hk => ?_⟩
  · unfold sg_load
    split
    · exact Nat.zero_le _
    · exact h.2.2.1
  · by_cases hl : (ldS σ).2.2.2.2.1 = -1
    · unfold sg_load at hk
      rw [if_pos hl] at hk
      exact absurd hk (Nat.not_lt_zero _)
    · have e : ∀ q, q < 1158 → (sg_load σ).1 q = σ.1 q := fun q hq => by
        unfold sg_load
        rw [if_neg hl]
        exact if_pos hq
      have hk2 : k < σ.2.2.1 := by
        unfold sg_load at hk
        rw [if_neg hl] at hk
        exact hk
      obtain ⟨a, b⟩ := h.2.2.2 k hk2
      have e2 : ∀ q, q < 1158 → rowP (sg_load σ) k q = rowP σ k q := fun q hq => by
        unfold rowP sg_load
        rw [if_pos hq, if_pos hq, if_neg hl]
      exact ⟨OkN.eq (fun q hq => (e2 q hq).symm) a, tbR.q e2 (b.tr (tbR.q e tbR.rf).sm)⟩
theorem Gs.ini {n ps : Nat → Int32} {u : Nat → Nat} {rd : Nat → Int32} {tx : Nat → Nat} (h : ∀ q, q < 1158 → n q = row0 q) : Gs 0 (iniS n ps u rd tx) :=
  ⟨OkN.eq (fun q hq => (h q hq).symm) row0_ok, RtIn.reg row0_ok.1.2.2 (fun q a b => h q (by omega)) row0_in, Nat.zero_le _, fun k hk => absurd hk (Nat.not_lt_zero _)⟩
