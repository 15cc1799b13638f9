variable {G : GG} {base : Nat}
theorem nI_sr (v : Int32) : ∃ k, v = nI k := nI_sur v
theorem mn_e {e N : Nat} (h : e ≤ N) (hN : N < 100000) : (if nI N < nI e then nI N else nI e) = nI e := if_neg (fun z => by rw [nI_ltI (by omega) (by omega)] at z; omega)
theorem mn_f {e N : Nat} (h : e ≤ N) (hN : N < 100000) : (if Int32.ofNat N < nI e then Int32.ofNat N else nI e) = nI e := mn_e h hN
theorem mx_e {e : Nat} (hN : e < 100000) : (if nI 0 < nI e then nI e else nI 0) = nI e := by
  split
  · rfl
  · rename_i h
    rw [nI_ltI (by omega) (by omega)] at h
    rw [show e = 0 by omega]
theorem bg_ps {n : Nat → Int32} {i : Nat → Nat → Int32} {p : Nat} (hT : ∀ m, m 0 = 0 → m 1 = 0 → TT i (p + 1) m) (hS : QS i (p + 7) row0) : PI i p (bgN n) := by
  have z : ∀ q, q < 1158 → bgN n q = row0 q := fun q hq => if_pos hq
  have b0 : bgN n 0 = 0 := (z 0 (by omega)).trans (row0_z (by omega) (by omega))
  have b1 : bgN n 1 = 0 := (z 1 (by omega)).trans (row0_z (by omega) (by omega))
  refine ⟨hT _ b0 b1, hS.eq (fun q q1 _ => z q q1), fun hz => ?_, fun c _ hc5 w hw => ?_, bgN_ok⟩
  · rw [nv_of (x := 0) b1 (by decide)] at hz
    omega
  · have eA : rtA c w = 43 + 13 * (7 * c + w) := rfl
    exact (z _ (by omega)).trans (row0_z (by omega) (by omega))
/-- the parser is ready to read -/
def pB (M : Mm) (p b e : Nat) : Ot → Mm → Prop := fun o N => o = .inl none ∧ ∃ i, N = wI (uR M p 4 (some b)) i ∧ (∀ x, (x < p ∨ p + 25 ≤ x) → i x = mI M x) ∧ i p 5 = nI e ∧ (∃ st, cQ i p (0, st, -1, 0)) ∧ ∀ n, PI i p (bgN n)
set_option maxHeartbeats 2000000 in
set_option maxRecDepth 20000 in
theorem t_X5_begin {M : Mm} {p b N e : Nat} (hp : LX5 M.1 M.2.1 p) (hb : mS M b = some (12, N)) (hN : N < 100000) (he : e ≤ N) : Ct G base YX5_begin 3 0 0 [.ref p, .ref b, .int (nI e)] M (pB M p b e) := by
  refine Ct.of IX5_begin.1 (by simp [Value.category]) (Nat.le_of_ble_eq_true rfl) (fun X hX hN => ?_)
  show J G base X 0 0 M 0 [some (.ref p), some (.ref b), some (.int (nI e))] []
  refine r_aload_n hX dX5_begin_0 rfl ?_
  refine r_getr hX dX5_begin_1 fl_X5_12 rfl (LX5_s hp) (LX5_r0 hp) ?_
  refine r_iV0 hX dX5_begin_4 IX9_clear ml_X5_98 rfl (LX9_s (LX5_o0 hp)) rfl (t_X9_clear (M := M) (LX5_o0 hp)) (by decide) (by decide) (by decide) (by decide) rfl (Nat.le_of_ble_eq_true rfl) (fun i1 h1 => ?_)
  show J G base X _ _ (wI M i1) _ _ _
  
  refine r_aload_n hX dX5_begin_7 rfl ?_
  refine r_getr hX dX5_begin_8 fl_X5_21 rfl (LX5_s hp) (LX5_r1 hp) ?_
  refine r_iV0 hX dX5_begin_11 IX8_clear ml_X5_101 rfl (LX8_s (LX5_o1 hp)) rfl (t_X8_clear (M := wI M i1) (LX5_o1 hp)) (by decide) (by decide) (by decide) (by decide) rfl (Nat.le_of_ble_eq_true rfl) (fun i2 h2 => ?_)
  show J G base X _ _ (wI M i2) _ _ _
  
  refine r_aload_n hX dX5_begin_14 rfl ?_
  refine r_iconst (v := (-1)) hX dX5_begin_15 (by decide) ?_
  refine r_puti hX dX5_begin_16 fl_X5_25 rfl rfl (LX5_s hp) ?_
  refine r_aload_n hX dX5_begin_19 rfl ?_
  refine r_iconst (v := nI 0) hX dX5_begin_20 (by decide) ?_
  refine r_puti hX dX5_begin_21 fl_X5_29 rfl rfl (LX5_s hp) ?_
  refine r_aload_n hX dX5_begin_24 rfl ?_
  refine r_ifnull hX dX5_begin_25 ?_
  refine r_aload_n hX dX5_begin_28 rfl ?_
  refine r_aload_n hX dX5_begin_29 rfl ?_
  refine r_putr hX dX5_begin_30 fl_X5_32 rfl rfl (LX5_s hp) ?_
  have hp2 : LX5 ((uR (uI (uI (wI M i2) p 2 (-1)) p 3 (nI 0)) p 4 (some b))).1 ((uR (uI (uI (wI M i2) p 2 (-1)) p 3 (nI 0)) p 4 (some b))).2.1 p := LX5.mono (P := p) (fun x k hx => by
    show (if x = p then (if k = 4 then some b else M.2.1 x k) else M.2.1 x k) = M.2.1 x k
    split
    · rename_i h1
      split
      · rename_i h2; exact absurd ⟨h1, h2⟩ hx
      · rfl
    · rfl) hp rfl
  have hb2 : mS (uR (uI (uI (wI M i2) p 2 (-1)) p 3 (nI 0)) p 4 (some b)) b = some (12, N) := hb
  have hr4 : mR (uR (uI (uI (wI M i2) p 2 (-1)) p 3 (nI 0)) p 4 (some b)) p 4 = some b := by rw [mR_uR, if_pos rfl, if_pos rfl]
  refine r_aload_n hX dX5_begin_33 rfl ?_
  refine r_iconst (v := nI 0) hX dX5_begin_34 (by decide) ?_
  refine r_iload_n hX dX5_begin_35 rfl ?_
  refine r_aload_n hX dX5_begin_36 rfl ?_
  refine r_getr hX dX5_begin_37 fl_X5_32 rfl (LX5_s hp2) hr4 ?_
  refine r_alen hX dX5_begin_40 hb2 ?_
  refine r_mmin hX dX5_begin_41 ml_X5_102 rfl ⟨by decide, Nat.le_of_ble_eq_true rfl, by decide, by decide⟩ ?_
  rw [mn_f he (by omega)]
  refine r_mmax hX dX5_begin_44 ml_X5_108 rfl ⟨by decide, Nat.le_of_ble_eq_true rfl, by decide, by decide⟩ ?_
  rw [mx_e (by omega)]
  refine r_puti hX dX5_begin_47 fl_X5_36 rfl rfl (LX5_s hp2) ?_
  refine r_aload_n hX dX5_begin_50 rfl ?_
  refine r_iconst (v := nI 0) hX dX5_begin_51 (by decide) ?_
  refine r_puti hX dX5_begin_52 fl_X5_39 rfl rfl (LX5_s hp2) ?_
  refine r_return hX rfl dX5_begin_55 (by decide) (by decide) ?_
  obtain ⟨st, hst⟩ := nI_sr (i2 p 7)
  have ep : ∀ k, mI (uI (uI (uR (uI (uI (wI M i2) p 2 (-1)) p 3 (nI 0)) p 4 (some b)) p 5 (nI e)) p 6 (nI 0)) p k = if k = 6 then nI 0 else if k = 5 then nI e else if k = 3 then nI 0 else if k = 2 then -1 else i2 p k := fun k => by simp [mI_uI, mI_uR]; rfl
  have eo : ∀ x, x ≠ p → mI (uI (uI (uR (uI (uI (wI M i2) p 2 (-1)) p 3 (nI 0)) p 4 (some b)) p 5 (nI e)) p 6 (nI 0)) x = i2 x := fun x hx => by
    rw [uIo hx, uIo hx]
    show mI (uI (uI (wI M i2) p 2 (-1)) p 3 (nI 0)) x = i2 x
    rw [uIo hx, uIo hx]
    rfl
  refine ⟨rfl, mI (uI (uI (uR (uI (uI (wI M i2) p 2 (-1)) p 3 (nI 0)) p 4 (some b)) p 5 (nI e)) p 6 (nI 0)), rfl, fun x hx => ?_, ?_, ⟨st, ?_, ?_, ?_, ?_⟩, fun n => bg_ps (fun m m0 m1 => ?_) ?_⟩
  · rw [eo x (by omega), h2.2.2 x (by omega) (by omega) (by omega) (by omega) (by omega)]
    exact h1.2 x (by omega) (by omega) (by omega)
  · rw [ep]; rfl
  · rw [ep]; rfl
  · rw [ep]; exact hst
  · rw [ep]; rfl
  · rw [ep]; rfl
  · refine (h1.1 m m0 m1).kept (fun x x1 x2 k => congrFun ((eo x (by omega)).trans (h2.2.2 x (by omega) (by omega) (by omega) (by omega) (by omega))) k)
  · exact QS.kept (i := i2) ⟨h2.1, h2.2.1⟩ (fun x x1 x2 k => congrFun (eo x (by omega)) k)
