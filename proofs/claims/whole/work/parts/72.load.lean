variable {G : GG} {base : Nat}
theorem nI_sur (v : Int32) : ∃ k, v = nI k := ⟨v.toBitVec.toNat, by
  apply Int32.toBitVec_inj.mp
  show v.toBitVec = BitVec.ofNat 32 v.toBitVec.toNat
  simp⟩
/-- the row that load begins with, and where it stands there -/
def bgN (n : Nat → Int32) : Nat → Int32 := fun q => if q < 1158 then row0 q else n q
def ldq (u : Nat → Nat) (e : Nat) : Q4 := (eo (blB u) e 0, eo (blB u) e 0, -1, 0)
def ldS (σ : Sg) : (Nat → Int32) × (Nat → Int32) × Q4 := ldZ σ.2.2.2.1 σ.2.2.2.2.1 901 (bgN σ.1) σ.2.2.2.2.2.1 (ldq σ.2.2.2.1 σ.2.2.2.2.1)
/-- promises for the first k letters -/
def prmN (n : Nat → Int32) : Nat → Nat → Int32
  | 0 => n
  | k + 1 => upd (prmN n k) (498 + 10 * k + 6) (arP (prmN n k) (nv (prmN n k) (498 + 10 * k + 0)) (nv (prmN n k) (498 + 10 * k + 1)))
def rs_load (σ : Sg) : Int32 ⊕ Nat := if (ldS σ).2.2.2.2.1 = -1 then .inl (nI (nv (ldS σ).1 0)) else .inr 1
def sg_load (σ : Sg) : Sg := if (ldS σ).2.2.2.2.1 = -1 then (prmN (ldS σ).1 (nv (ldS σ).1 2), σ.2.1, 0, σ.2.2.2.1, 0, (ldS σ).2.1, (ldS σ).2.2.2.2.1, (ldS σ).2.2.2.2.2, σ.2.2.2.2.2.2.2.2)
  else ((fun q => if q < 1158 then σ.1 q else (ldS σ).1 q), σ.2.1, σ.2.2.1, σ.2.2.2.1, 0, (ldS σ).2.1, (ldS σ).2.2.2.2.1, (ldS σ).2.2.2.2.2, σ.2.2.2.2.2.2.2.2)
theorem bgN_ok {n : Nat → Int32} : OkN 0 (bgN n) := OkN.eq (x := row0) (fun q hq => by unfold bgN; rw [if_pos hq]) row0_ok
theorem prm_ok {n : Nat → Int32} (h : OkN 0 n) : ∀ k, k ≤ nv n 2 → OkN 0 (prmN n k) ∧ nv (prmN n k) 2 = nv n 2 ∧ nv (prmN n k) 0 = nv n 0
  | 0, _ => ⟨h, rfl, rfl⟩
  | k + 1, hk => by
    obtain ⟨a, b, c⟩ := prm_ok h k (by omega)
    unfold prmN
    exact ⟨prom_ok a (by omega), (nv_eq (upd_o (by omega))).trans b, (nv_eq (upd_o (by omega))).trans c⟩
/-- load leaves an orderly row -/
theorem load_ok {T : Nat} {σ : Sg} (hO : OkN T σ.1) (hr : (ldS σ).2.2.2.2.1 = -1 → OkN 0 (ldS σ).1) : OkN T (sg_load σ).1 := by
  unfold sg_load
  split
  · rename_i h
    exact OkN.mono (Nat.zero_le T) (prm_ok (hr h) _ (Nat.le_refl _)).1
  · exact OkN.eq (fun q hq => (if_pos hq).symm) hO
theorem ldZ_ok {u : Nat → Nat} {e : Nat} (he : e ≤ 900) : ∀ (f : Nat) (n rd : Nat → Int32) (q : Q4), (q.2.2.1 = -1 → q.1 ≤ e ∧ q.2.1 < 100000 ∧ OkN 0 n) → (ldZ u e f n rd q).2.2.2.2.1 = -1 → OkN 0 (ldZ u e f n rd q).1
  | 0, n, rd, q, h, hg => (h hg).2.2
  | f + 1, n, rd, q, h, hg => by
    by_cases h1 : q.2.2.1 = -1 ∧ q.1 < e
    · rw [ldZ_on h1] at hg ⊢
      obtain ⟨a, b, c⟩ := h h1.1
      refine ldZ_ok he f _ _ _ (fun hz => ?_) hg
      obtain ⟨g1, g2, g3, g4⟩ := ed_ok (lnX_le a he) he hz
      exact ⟨g3, by rw [g4]; omega, ln_ok c a he b g1⟩
    · rw [ldZ_off h1] at hg ⊢
      exact (h hg).2.2
theorem ldS_ok {σ : Sg} (he : σ.2.2.2.2.1 ≤ 900) : (ldS σ).2.2.2.2.1 = -1 → OkN 0 (ldS σ).1 := by
  refine ldZ_ok he 901 _ _ _ (fun _ => ⟨eo_le (Nat.zero_le _), ?_, bgN_ok⟩)
  have : eo (blB σ.2.2.2.1) σ.2.2.2.2.1 0 ≤ σ.2.2.2.2.1 := eo_le (Nat.zero_le _)
  show eo (blB σ.2.2.2.1) σ.2.2.2.2.1 0 < 100000
  omega
set_option maxHeartbeats 2000000 in
set_option maxRecDepth 20000 in
theorem t_X11_load {M : Mm} {a : Nat} {σ : Sg} {T : Nat} (hL : LX11 M.1 M.2.1 a) (hR : RI (mI M) a σ) (hO : OkN T σ.1) (hT9 : T < 890000) : Ct G base YX11_load 9 0 0 [.ref a] M (rV M (pQ M a (rs_load σ) (sg_load σ))) := by
  obtain ⟨hT, hS, hLt, h4, h5, h6, hLo, hSt, hNa⟩ := hO
  have h0 := hT.1
  have h1 := hT.2.1
  have hr := hT.2.2
  have h2 := hLt.1
  have h3 := hLt.2.1
  have hb0 := h0.2
  have hb1 := h1.2
  have hb2 := h2.2
  have hb3 := h3.2
  have hb4 := h4.2
  have ht6 : σ.1 6 = nI (nv σ.1 6) := h6.1
  have hh6 : nv σ.1 6 ≤ T := h6.2
  refine Ct.of IX11_load.1 (by simp [Value.category]) (Nat.le_of_ble_eq_true rfl) (fun X hX hN => ?_)
  show J G base X 0 0 M 0 [some (.ref a), none, none] []
  refine r_aload_n hX dX11_load_0 rfl ?_
  refine r_iconst (v := nI 0) hX dX11_load_1 (by decide) ?_
  refine r_puti hX dX11_load_2 fl_X11_3 rfl rfl (LX11_s hL) ?_
  refine J.gen (M0 := M) rfl (fun i0 h00 => ?_)
  obtain ⟨hR0, hn0, ht0, ho0⟩ := pub0 hR h00
  clear h00
  refine r_aload_n hX dX11_load_5 rfl ?_
  refine r_aload_n hX dX11_load_6 rfl ?_
  refine rn_geti (v := nI σ.2.2.2.2.1) hX dX11_load_7 fl_X11_89 rfl (LX11_s hL) hR0.2.2.2.2.1.1 ?_
  refine r_puti hX dX11_load_10 fl_X11_101 rfl rfl (LX11_s hL) ?_
  refine r_aload_n hX dX11_load_13 rfl ?_
  refine r_iconst (v := nI 0) hX dX11_load_14 (by decide) ?_
  refine r_puti hX dX11_load_15 fl_X11_89 rfl rfl (LX11_s hL) ?_
  refine r_aload_n hX dX11_load_18 rfl ?_
  refine r_iconst (v := nI 0) hX dX11_load_19 (by decide) ?_
  refine r_puti hX dX11_load_20 fl_X11_98 rfl rfl (LX11_s hL) ?_
  refine r_aload_n hX dX11_load_23 rfl ?_
  refine r_iconst (v := (-1)) hX dX11_load_24 (by decide) ?_
  refine r_puti hX dX11_load_25 fl_X11_95 rfl rfl (LX11_s hL) ?_
  refine r_aload_n hX dX11_load_28 rfl ?_
  refine r_iconst (v := nI 0) hX dX11_load_29 (by decide) ?_
  refine r_puti hX dX11_load_30 fl_X11_115 rfl rfl (LX11_s hL) ?_
  refine J.gen (M0 := M) rfl (fun j0 hz => ?_)
  have hx0 : ∀ x, x ≠ a → j0 x = i0 x := fun x hx => funext fun j => (hz x j).trans (congrFun ((uIo hx).trans ((uIo hx).trans ((uIo hx).trans ((uIo hx).trans (uIo hx))))) j)
  have hf0 : ∀ k, j0 a k = if k = 12 then nI 0 else if k = 11 then -1 else if k = 8 then nI 0 else if k = 7 then nI 0 else if k = 10 then nI σ.2.2.2.2.1 else i0 a k := fun k => by
    rw [hz]
    simp only [mI_uI, if_true]
    rfl
  clear hz
  refine r_aload_n hX dX11_load_33 rfl ?_
  refine r_aload_n hX dX11_load_34 rfl ?_
  refine r_getr hX dX11_load_35 fl_X11_13 rfl (LX11_s hL) (LX11_r1 hL) ?_
  refine r_iconst (v := nI 0) hX dX11_load_38 (by decide) ?_
  refine r_aload_n hX dX11_load_39 rfl ?_
  refine r_getr hX dX11_load_40 fl_X11_17 rfl (LX11_s hL) (LX11_r2 hL) ?_
  refine r_iconst (v := nI 0) hX dX11_load_43 (by decide) ?_
  refine r_iV4 hX dX11_load_44 IX11_copies ml_X11_63 rfl (LX11_s hL) rfl (t_X11_copies (M := wI M j0) (x := 0) (y := 0) (LX11_a1 hL) (LX11_a2 hL) (by omega) (by omega) (by omega) (by omega) (by omega)) (by decide) (by decide) (by decide) (by decide) rfl (Nat.le_of_ble_eq_true rfl) (fun i1 h1 => ?_)
  show J G base X _ _ (wI M i1) _ _ _
  
  refine r_aload_n hX dX11_load_47 rfl ?_
  refine rn_geti (v := nI σ.2.2.1) hX dX11_load_48 fl_X11_60 rfl (LX11_s hL) (by show i1 a 4 = _; rw [h1.2 a (by omega)]; show j0 a 4 = _; rw [hf0]; exact hR0.2.2.1.1) ?_
  refine r_istore1 hX dX11_load_51 rfl ?_
  refine r_aload_n hX dX11_load_52 rfl ?_
  refine r_iV0 hX dX11_load_53 IX11_begins ml_X11_57 rfl (LX11_s hL) rfl (t_X11_begins (M := wI M i1) hL) (by decide) (by decide) (by decide) (by decide) rfl (Nat.le_of_ble_eq_true rfl) (fun i2 h2 => ?_)
  show J G base X _ _ (wI M i2) _ _ _
  obtain ⟨k9, hk9⟩ := nI_sur (i2 a 9)
  have hfa : ∀ k, k ≠ 4 → i2 a k = j0 a k := fun k hk => (h2.2.2.2 k hk).trans (congrFun (h1.2 a (by omega)) k)
  have hxa : ∀ x, x ≠ a → x ≠ a + 1 → x ≠ a + 2 → i2 x = i0 x := fun x hx hy hz => (h2.2.1 x hx hy).trans ((h1.2 x hz).trans (hx0 x hx))
  have hn2 : i2 (a + 1) = bgN σ.1 := by
    funext q
    rw [h2.1 q]
    unfold bgN
    rw [show mI (wI M i1) (a + 1) = σ.1 from (h1.2 _ (by omega)).trans ((hx0 _ (by omega)).trans hn0)]
  have hP2 : Pq (mI (wI M i2)) a (0, k9, -1, 0) := ⟨(hfa 8 (by omega)).trans (by rw [hf0]; rfl), hk9, (hfa 11 (by omega)).trans (by rw [hf0]; rfl), (hfa 12 (by omega)).trans (by rw [hf0]; rfl)⟩
  have hT2 : Tt (mI (wI M i2)) a σ.2.2.2.1 σ.2.2.2.2.1 := ⟨fun k hk => ⟨(hR0.2.2.2.1 k hk).1, (congrFun (hxa _ (by omega) (by omega) (by omega)) k).trans (hR0.2.2.2.1 k hk).2⟩, (hfa 10 (by omega)).trans (by rw [hf0]; rfl), hR0.2.2.2.2.1.2⟩
  refine r_aload_n hX dX11_load_56 rfl ?_
  refine r_iV0 hX dX11_load_57 IX11_blanks ml_X11_118 rfl (LX11_s hL) rfl (t_X11_blanks (M := wI M i2) hL hT2 hP2 (Nat.zero_le _)) (by decide) (by decide) (by decide) (by decide) rfl (Nat.le_of_ble_eq_true rfl) (fun i3 h3 => ?_)
  show J G base X _ _ (wI M i3) _ _ _
  
  have he := hR0.2.2.2.2.1.2
  have hzo : (ldS σ).2.2.2.2.1 = -1 → OkN 0 (ldS σ).1 := ldS_ok he
  obtain ⟨Z, hZ⟩ : ∃ Z, Z = ldS σ := ⟨_, rfl⟩
  rw [← hZ] at hzo
  have fin : ∀ (i : Nat → Nat → Int32), pX (wI M i2) a Z.1 Z.2.1 Z.2.2 i → J G base X 0 0 (wI M i) 85 [some (.ref a), some (.int (nI σ.2.2.1)), none] [] := by
    intro i h
    by_cases hg : Z.2.2.2.2.1 = -1
    · refine r_aload_n hX dX11_load_85 rfl ?_
      refine r_aload_n hX dX11_load_86 rfl ?_
      refine rn_geti (v := Z.2.2.2.2.1) hX dX11_load_87 fl_X11_95 rfl (LX11_s hL) h.1.2.2.1 ?_
      refine r_puti hX dX11_load_90 fl_X11_30 rfl rfl (LX11_s hL) ?_
      refine r_aload_n hX dX11_load_93 rfl ?_
      refine r_aload_n hX dX11_load_94 rfl ?_
      refine rn_geti (v := Z.2.2.2.2.2) hX dX11_load_95 fl_X11_115 rfl (LX11_s hL) (by simp [mI_uI]; exact h.1.2.2.2) ?_
      refine r_puti hX dX11_load_98 fl_X11_92 rfl rfl (LX11_s hL) ?_
      refine r_aload_n hX dX11_load_101 rfl ?_
      refine r_aload_n hX dX11_load_102 rfl ?_
      refine r_cV0 hX dX11_load_103 IX11_hasFailed ml_X11_104 rfl (LX11_s hL) rfl (t_X11_hasFailed (M := uI (uI (wI M i) a 13 Z.2.2.2.2.1) a 14 Z.2.2.2.2.2) (q := Z.2.2) hL ⟨by simp [mI_uI]; exact h.1.1, by simp [mI_uI]; exact h.1.2.1, by simp [mI_uI]; exact h.1.2.2.1, by simp [mI_uI]; exact h.1.2.2.2⟩) (by decide) (by decide) (by decide) (by decide) rfl (Nat.le_of_ble_eq_true rfl) ?_
      rw [if_neg (fun z => z hg)]
      refine r_iconst (v := nI 1) hX dX11_load_106 (by decide) ?_
      refine r_cV2 hX dX11_load_107 IX11_throwsIf ml_X11_215 rfl (LX11_s hL) rfl (t_X11_throwsIf0 (M := uI (uI (wI M i) a 13 Z.2.2.2.2.1) a 14 Z.2.2.2.2.2) hL) (by decide) (by decide) (by decide) (by decide) rfl (Nat.le_of_ble_eq_true rfl) ?_
      refine r_if_eq (tgt := 134) hX dX11_load_110 (by decide) (fun d110 => ?_) (fun d110 => absurd d110 (by decide))
      refine r_iconst (v := nI 0) hX dX11_load_134 (by decide) ?_
      refine r_istore2 hX dX11_load_135 rfl ?_
      refine loop_us (σ := Nat → Nat → Int32) (P := fun k i5 => (i5 (a + 1) = prmN Z.1 k ∧ ∀ x, x ≠ a + 1 → x ≠ a + 7 ∧ x ≠ a + 8 ∧ x ≠ a + 9 → i5 x = mI (uI (uI (wI M i) a 13 Z.2.2.2.2.1) a 14 Z.2.2.2.2.2) x) → J G base X 0 0 (wI M i5) 136 [some (.ref a), some (.int (nI σ.2.2.1)), some (.int (nI k))] []) (nv Z.1 2) (fun k i5 hk ihk h5 => ?_) 0 (mI (uI (uI (wI M i) a 13 Z.2.2.2.2.1) a 14 Z.2.2.2.2.2)) (Nat.zero_le _) ⟨(uIo (by omega)).trans ((uIo (by omega)).trans h.2.1), fun x _ _ => rfl⟩
      obtain ⟨w0, w2, w3⟩ := prm_ok (hzo hg) k hk
      have h2p := w0.2.2.1.1
      have h30p := h2p.2
      have h0p := w0.1.1
      refine r_iload_n hX dX11_load_136 rfl ?_
      refine r_aload_n hX dX11_load_137 rfl ?_
      refine r_cV0 hX dX11_load_138 IX11_letters ml_X11_170 rfl (LX11_s hL) rfl (t_X11_letters (M := wI M i5) hL h5.1 h2p) (by decide) (by decide) (by decide) (by decide) rfl (Nat.le_of_ble_eq_true rfl) ?_
      refine rn_icmp_ge (tgt := 155) hX dX11_load_141 (by decide) rfl rfl (by omega) (by omega) (fun d141 => ?_) (fun d141 => ?_)
      · refine r_aload_n hX dX11_load_155 rfl ?_
        refine r_cV0 hX dX11_load_156 IX11_places ml_X11_75 rfl (LX11_s hL) rfl (t_X11_places (M := wI M i5) hL h5.1 h0p) (by decide) (by decide) (by decide) (by decide) rfl (Nat.le_of_ble_eq_true rfl) ?_
        refine r_ireturn hX rfl rfl dX11_load_159 (by decide) (by decide) ?_
        obtain rfl : k = nv Z.1 2 := by omega
        have ex : ∀ x, x ≠ a → x ≠ a + 1 → x ≠ a + 2 → x ≠ a + 6 → x ≠ a + 7 ∧ x ≠ a + 8 ∧ x ≠ a + 9 → i5 x = i0 x := fun x q1 q2 q3 q4 q5 => (h5.2 x q2 q5).trans ((uIo q1).trans ((uIo q1).trans ((h.2.2.2.1 x q1 q2 q4).trans (hxa x q1 q2 q3))))
        have ef : ∀ j, i5 a j = if j = 14 then Z.2.2.2.2.2 else if j = 13 then Z.2.2.2.2.1 else i a j := fun j => by
          rw [h5.2 a (by omega) ⟨by omega, by omega, by omega⟩]
          simp only [mI_uI, if_true]
          rfl
        have eg : ∀ j, j ≠ 8 → j ≠ 9 → j ≠ 11 → j ≠ 12 → j ≠ 13 → j ≠ 14 → i5 a j = i2 a j := fun j q1 q2 q3 q4 q5 q6 => by
          rw [ef, if_neg q6, if_neg q5]
          exact h.2.2.2.2 j q1 q2 q3 q4
        refine ⟨_, i5, rfl, rfl, ?_, ?_, fun x hx k => (congrFun (ex x (by omega) (by omega) (by omega) (by omega) ⟨by omega, by omega, by omega⟩) k).trans (ho0 x hx k)⟩
        · unfold sg_load
          rw [← hZ, if_pos hg]
          obtain ⟨g1, g2, g3, g4, g5', g6, g7, g8, g9, g10⟩ := hR0
          exact ⟨h5.1, (ex _ (by omega) (by omega) (by omega) (by omega) ⟨by omega, by omega, by omega⟩).trans g2, ⟨(eg 4 (by omega) (by omega) (by omega) (by omega) (by omega) (by omega)).trans h2.2.2.1, Nat.zero_le _⟩, fun k (hk : k < 0) => absurd hk (Nat.not_lt_zero _), ⟨(eg 7 (by omega) (by omega) (by omega) (by omega) (by omega) (by omega)).trans ((hfa 7 (by omega)).trans (by rw [hf0]; rfl)), Nat.zero_le _⟩, (h5.2 _ (by omega) ⟨by omega, by omega, by omega⟩).trans ((uIo (by omega)).trans ((uIo (by omega)).trans h.2.2.1)), (ef 13).trans rfl, (ef 14).trans rfl, fun k hk => ⟨(g9 k hk).1, (congrFun (ex _ (by omega) (by omega) (by omega) (by omega) ⟨by omega, by omega, by omega⟩) k).trans (g9 k hk).2⟩, (eg 23 (by omega) (by omega) (by omega) (by omega) (by omega) (by omega)).trans ((hfa 23 (by omega)).trans ((hf0 23).trans g10.1)), g10.2⟩
        · unfold rs_load
          rw [← hZ, if_pos hg]
          exact ⟨by rw [w3], (eg 0 (by omega) (by omega) (by omega) (by omega) (by omega) (by omega)).trans ((hfa 0 (by omega)).trans ((hf0 0).trans ht0))⟩
      · have h30 := w0.2.2.1.1.2
        have h10 := h0p.2
        obtain ⟨f, t, v', s', w', g1, g2, g3, g4, g5, g6, g7, -⟩ := w0.2.2.1.2.2 k (by omega)
        have gf : prmN Z.1 k (498 + 10 * k + 0) = nI f := g1
        have gt : prmN Z.1 k (498 + 10 * k + 1) = nI t := g2
        have hfb := (town_i.mp g6).1
        have htb := (town_i.mp g7).1
        refine r_aload_n hX dX11_load_144 rfl ?_
        refine r_iload_n hX dX11_load_145 rfl ?_
        refine r_iV1 hX dX11_load_146 IX11_promises ml_X11_219 rfl (LX11_s hL) rfl (t_X11_promises (M := wI M i5) hL h5.1 w0.1 w0.2.1 w0.2.2.2.2.2.1.1 (by have := w0.2.2.2.2.2.1.2; omega) (by omega) gf gt (by omega) (by omega)) (by decide) (by decide) (by decide) (by decide) rfl (Nat.le_of_ble_eq_true rfl) (fun i6 h6 => ?_)
        show J G base X _ _ (wI M i6) _ _ _
        
        refine rn_iinc2 hX dX11_load_149 rfl rfl ?_
        refine r_goto (tgt := 136) hX dX11_load_152 (by decide) ?_
        refine ihk (by omega) i6 ⟨?_, fun x hx hy => (h6.2 x hx hy).trans (h5.2 x hx hy)⟩
        rw [h6.1]
        show _ = upd (prmN Z.1 k) (498 + 10 * k + 6) (arP (prmN Z.1 k) (nv (prmN Z.1 k) (498 + 10 * k + 0)) (nv (prmN Z.1 k) (498 + 10 * k + 1)))
        rw [nv_of gf (by omega), nv_of gt (by omega)]
    · refine r_aload_n hX dX11_load_85 rfl ?_
      refine r_aload_n hX dX11_load_86 rfl ?_
      refine rn_geti (v := Z.2.2.2.2.1) hX dX11_load_87 fl_X11_95 rfl (LX11_s hL) h.1.2.2.1 ?_
      refine r_puti hX dX11_load_90 fl_X11_30 rfl rfl (LX11_s hL) ?_
      refine r_aload_n hX dX11_load_93 rfl ?_
      refine r_aload_n hX dX11_load_94 rfl ?_
      refine rn_geti (v := Z.2.2.2.2.2) hX dX11_load_95 fl_X11_115 rfl (LX11_s hL) (by simp [mI_uI]; exact h.1.2.2.2) ?_
      refine r_puti hX dX11_load_98 fl_X11_92 rfl rfl (LX11_s hL) ?_
      refine r_aload_n hX dX11_load_101 rfl ?_
      refine r_aload_n hX dX11_load_102 rfl ?_
      refine r_cV0 hX dX11_load_103 IX11_hasFailed ml_X11_104 rfl (LX11_s hL) rfl (t_X11_hasFailed (M := uI (uI (wI M i) a 13 Z.2.2.2.2.1) a 14 Z.2.2.2.2.2) (q := Z.2.2) hL ⟨by simp [mI_uI]; exact h.1.1, by simp [mI_uI]; exact h.1.2.1, by simp [mI_uI]; exact h.1.2.2.1, by simp [mI_uI]; exact h.1.2.2.2⟩) (by decide) (by decide) (by decide) (by decide) rfl (Nat.le_of_ble_eq_true rfl) ?_
      rw [if_pos hg]
      refine r_iconst (v := nI 1) hX dX11_load_106 (by decide) ?_
      refine r_cV2 hX dX11_load_107 IX11_throwsIf ml_X11_215 rfl (LX11_s hL) rfl (t_X11_throwsIf1 (M := uI (uI (wI M i) a 13 Z.2.2.2.2.1) a 14 Z.2.2.2.2.2) hL) (by decide) (by decide) (by decide) (by decide) rfl (Nat.le_of_ble_eq_true rfl) ?_
      refine r_if_eq (tgt := 134) hX dX11_load_110 (by decide) (fun d110 => absurd d110 (by decide)) (fun d110 => ?_)
      refine r_aload_n hX dX11_load_113 rfl ?_
      refine r_aload_n hX dX11_load_114 rfl ?_
      refine r_getr hX dX11_load_115 fl_X11_17 rfl (LX11_s hL) (LX11_r2 hL) ?_
      refine r_iconst (v := nI 0) hX dX11_load_118 (by decide) ?_
      refine r_aload_n hX dX11_load_119 rfl ?_
      refine r_getr hX dX11_load_120 fl_X11_13 rfl (LX11_s hL) (LX11_r1 hL) ?_
      refine r_iconst (v := nI 0) hX dX11_load_123 (by decide) ?_
      refine r_iV4 hX dX11_load_124 IX11_copies ml_X11_63 rfl (LX11_s hL) rfl (t_X11_copies (M := uI (uI (uI (wI M i) a 13 Z.2.2.2.2.1) a 14 Z.2.2.2.2.2) a 0 (nI 1)) (x := 0) (y := 0) (LX11_a2 hL) (LX11_a1 hL) (by omega) (by omega) (by omega) (by omega) (by omega)) (by decide) (by decide) (by decide) (by decide) rfl (Nat.le_of_ble_eq_true rfl) (fun i5 h5 => ?_)
      show J G base X _ _ (wI M i5) _ _ _
      
      refine r_aload_n hX dX11_load_127 rfl ?_
      refine r_iload_n hX dX11_load_128 rfl ?_
      refine r_puti hX dX11_load_129 fl_X11_60 rfl rfl (LX11_s hL) ?_
      refine r_iconst (v := 0) hX dX11_load_132 (by decide) ?_
      refine r_ireturn hX rfl rfl dX11_load_133 (by decide) (by decide) ?_
      have ex : ∀ x, x ≠ a → x ≠ a + 1 → x ≠ a + 6 → i5 x = i2 x := fun x q1 q2 q4 => (h5.2 x q2).trans ((uIo q1).trans ((uIo q1).trans ((uIo q1).trans (h.2.2.2.1 x q1 q2 q4))))
      have ey : ∀ x, x ≠ a → x ≠ a + 1 → x ≠ a + 2 → x ≠ a + 6 → mI (uI (wI M i5) a 4 (nI σ.2.2.1)) x = i0 x := fun x q1 q2 q3 q4 => (uIo q1).trans ((ex x q1 q2 q4).trans (hxa x q1 q2 q3))
      have ef : ∀ j, mI (uI (wI M i5) a 4 (nI σ.2.2.1)) a j = if j = 4 then nI σ.2.2.1 else if j = 0 then nI 1 else if j = 14 then Z.2.2.2.2.2 else if j = 13 then Z.2.2.2.2.1 else i a j := fun j => by
        rw [mI_uI, if_pos rfl]
        by_cases e4 : j = 4
        · rw [if_pos e4, if_pos e4]
        · rw [if_neg e4, if_neg e4]
          show i5 a j = _
          rw [h5.2 a (by omega)]
          simp only [mI_uI, if_true]
          rfl
      have eg : ∀ j, j ≠ 4 → j ≠ 0 → j ≠ 8 → j ≠ 9 → j ≠ 11 → j ≠ 12 → j ≠ 13 → j ≠ 14 → mI (uI (wI M i5) a 4 (nI σ.2.2.1)) a j = j0 a j := fun j q7 q8 q1 q2 q3 q4 q5 q6 => by
        rw [ef, if_neg q7, if_neg q8, if_neg q6, if_neg q5]
        exact (h.2.2.2.2 j q1 q2 q3 q4).trans (hfa j q7)
      refine ⟨_, mI (uI (wI M i5) a 4 (nI σ.2.2.1)), rfl, rfl, ?_, ?_, fun x hx k => (congrFun (ey x (by omega) (by omega) (by omega) (by omega)) k).trans (ho0 x hx k)⟩
      · unfold sg_load
        rw [← hZ, if_neg hg]
        obtain ⟨g1, g2, g3, g4, g5', g6, g7, g8, g9, g10⟩ := hR0
        refine ⟨?_, (ey _ (by omega) (by omega) (by omega) (by omega)).trans g2, ⟨(ef 4).trans rfl, g3.2⟩, fun k (hk : k < 0) => absurd hk (Nat.not_lt_zero _), ⟨(eg 7 (by omega) (by omega) (by omega) (by omega) (by omega) (by omega) (by omega) (by omega)).trans (by rw [hf0]; rfl), Nat.zero_le _⟩, (uIo (by omega)).trans ((h5.2 _ (by omega)).trans ((uIo (by omega)).trans ((uIo (by omega)).trans ((uIo (by omega)).trans h.2.2.1)))), (ef 13).trans rfl, (ef 14).trans rfl, fun k hk => ⟨(g9 k hk).1, (congrFun (ey _ (by omega) (by omega) (by omega) (by omega)) k).trans (g9 k hk).2⟩, (eg 23 (by omega) (by omega) (by omega) (by omega) (by omega) (by omega) (by omega) (by omega)).trans ((hf0 23).trans g10.1), g10.2⟩
        refine (uIo (by omega)).trans ?_
        funext q
        show i5 (a + 1) q = if q < 1158 then σ.1 q else Z.1 q
        rw [h5.1 q]
        have e2 : mI (uI (uI (uI (wI M i) a 13 Z.2.2.2.2.1) a 14 Z.2.2.2.2.2) a 0 (nI 1)) (a + 2) = i2 (a + 2) := (uIo (by omega)).trans ((uIo (by omega)).trans ((uIo (by omega)).trans (h.2.2.2.1 _ (by omega) (by omega) (by omega))))
        have e1 : mI (uI (uI (uI (wI M i) a 13 Z.2.2.2.2.1) a 14 Z.2.2.2.2.2) a 0 (nI 1)) (a + 1) = Z.1 := (uIo (by omega)).trans ((uIo (by omega)).trans ((uIo (by omega)).trans h.2.1))
        rw [e2, e1]
        have e3 : i2 (a + 2) = i1 (a + 2) := h2.2.1 _ (by omega) (by omega)
        by_cases hq : q < 1158
        · rw [if_pos ⟨by omega, by omega⟩, if_pos hq, Nat.sub_zero, Nat.zero_add, e3, h1.1 q, if_pos ⟨by omega, by omega⟩, Nat.sub_zero, Nat.zero_add]
          exact congrFun ((hx0 _ (by omega)).trans hn0) q
        · rw [if_neg (fun z => hq (by omega)), if_neg hq]
      · unfold rs_load
        rw [← hZ, if_neg hg]
        exact (ef 0).trans rfl
  have main : ∀ (f : Nat) (n rd : Nat → Int32) (q : Q4) (i : Nat → Nat → Int32), (q.2.2.1 = -1 → q.1 ≤ σ.2.2.2.2.1 ∧ q.2.1 < 100000 ∧ OkN 0 n ∧ σ.2.2.2.2.1 + 1 ≤ q.1 + f) → pX (wI M i2) a n rd q i → ldZ σ.2.2.2.1 σ.2.2.2.2.1 f n rd q = Z → J G base X 0 0 (wI M i) 60 [some (.ref a), some (.int (nI σ.2.2.1)), none] [] := by
    intro f
    induction f with
    | zero =>
      intro n rd q i hq h hz
      refine r_aload_n hX dX11_load_60 rfl ?_
      refine r_cV0 hX dX11_load_61 IX11_hasFailed ml_X11_104 rfl (LX11_s hL) rfl (t_X11_hasFailed (M := wI M i) hL h.1) (by decide) (by decide) (by decide) (by decide) rfl (Nat.le_of_ble_eq_true rfl) ?_
      refine rb_if_ne (tgt := 85) hX dX11_load_64 (by decide) rfl (fun c64 => ?_) (fun c64 => ?_)
      · have ez := hz
        rw [ldZ_off (fun z => c64 z.1)] at ez
        rw [show n = Z.1 from congrArg Prod.fst ez, show rd = Z.2.1 from congrArg (fun x => x.2.1) ez, show q = Z.2.2 from congrArg (fun x => x.2.2) ez] at h
        exact fin i h
      · replace c64 : q.2.2.1 = -1 := Classical.not_not.mp c64
        obtain ⟨q1, q2, q3, q4⟩ := hq c64
        refine r_aload_n hX dX11_load_67 rfl ?_
        refine rn_geti (v := nI q.1) hX dX11_load_68 fl_X11_98 rfl (LX11_s hL) h.1.1 ?_
        refine r_aload_n hX dX11_load_71 rfl ?_
        refine rn_geti (v := nI σ.2.2.2.2.1) hX dX11_load_72 fl_X11_101 rfl (LX11_s hL) (h.tt hT2).2.1 ?_
        refine rn_icmp_ge (tgt := 85) hX dX11_load_75 (by decide) rfl rfl (by omega) (by omega) (fun c75 => ?_) (fun c75 => ?_)
        · have ez := hz
          rw [ldZ_off (fun z => absurd z.2 (by omega))] at ez
          rw [show n = Z.1 from congrArg Prod.fst ez, show rd = Z.2.1 from congrArg (fun x => x.2.1) ez, show q = Z.2.2 from congrArg (fun x => x.2.2) ez] at h
          exact fin i h
        · refine r_aload_n hX dX11_load_78 rfl ?_
          refine r_iV0 hX dX11_load_79 IX11_readLine ml_X11_212 rfl (LX11_s hL) rfl (t_X11_readLine (M := wI M i) hL h.2.1 (hq c64).2.2.1.1.1 (h.tt hT2) h.1 (hq c64).1 (hq c64).2.2.1.1.2.1 (hq c64).2.2.1.2.2.1.1 (hq c64).2.1 h.2.2.1) (by decide) (by decide) (by decide) (by decide) rfl (Nat.le_of_ble_eq_true rfl) (fun i4 h4 => ?_)
          show J G base X _ _ (wI M i4) _ _ _
          replace h4 := h.tr h4
          refine r_goto (tgt := 60) hX dX11_load_82 (by decide) ?_
          omega
    | succ f ih =>
      intro n rd q i hq h hz
      refine r_aload_n hX dX11_load_60 rfl ?_
      refine r_cV0 hX dX11_load_61 IX11_hasFailed ml_X11_104 rfl (LX11_s hL) rfl (t_X11_hasFailed (M := wI M i) hL h.1) (by decide) (by decide) (by decide) (by decide) rfl (Nat.le_of_ble_eq_true rfl) ?_
      refine rb_if_ne (tgt := 85) hX dX11_load_64 (by decide) rfl (fun c64 => ?_) (fun c64 => ?_)
      · have ez := hz
        rw [ldZ_off (fun z => c64 z.1)] at ez
        rw [show n = Z.1 from congrArg Prod.fst ez, show rd = Z.2.1 from congrArg (fun x => x.2.1) ez, show q = Z.2.2 from congrArg (fun x => x.2.2) ez] at h
        exact fin i h
      · replace c64 : q.2.2.1 = -1 := Classical.not_not.mp c64
        obtain ⟨q1, q2, q3, q4⟩ := hq c64
        refine r_aload_n hX dX11_load_67 rfl ?_
        refine rn_geti (v := nI q.1) hX dX11_load_68 fl_X11_98 rfl (LX11_s hL) h.1.1 ?_
        refine r_aload_n hX dX11_load_71 rfl ?_
        refine rn_geti (v := nI σ.2.2.2.2.1) hX dX11_load_72 fl_X11_101 rfl (LX11_s hL) (h.tt hT2).2.1 ?_
        refine rn_icmp_ge (tgt := 85) hX dX11_load_75 (by decide) rfl rfl (by omega) (by omega) (fun c75 => ?_) (fun c75 => ?_)
        · have ez := hz
          rw [ldZ_off (fun z => absurd z.2 (by omega))] at ez
          rw [show n = Z.1 from congrArg Prod.fst ez, show rd = Z.2.1 from congrArg (fun x => x.2.1) ez, show q = Z.2.2 from congrArg (fun x => x.2.2) ez] at h
          exact fin i h
        · refine r_aload_n hX dX11_load_78 rfl ?_
          refine r_iV0 hX dX11_load_79 IX11_readLine ml_X11_212 rfl (LX11_s hL) rfl (t_X11_readLine (M := wI M i) hL h.2.1 (hq c64).2.2.1.1.1 (h.tt hT2) h.1 (hq c64).1 (hq c64).2.2.1.1.2.1 (hq c64).2.2.1.2.2.1.1 (hq c64).2.1 h.2.2.1) (by decide) (by decide) (by decide) (by decide) rfl (Nat.le_of_ble_eq_true rfl) (fun i4 h4 => ?_)
          show J G base X _ _ (wI M i4) _ _ _
          replace h4 := h.tr h4
          refine r_goto (tgt := 60) hX dX11_load_82 (by decide) ?_
          refine ih _ _ _ _ (fun hz2 => ?_) h4 ?_
          · obtain ⟨g1, g2, g3, g4⟩ := ed_ok (lnX_le q1 he) he hz2
            have g5 := lnX_ge (n := n) (rd := rd) (u := σ.2.2.2.1) (e := σ.2.2.2.2.1) (q := q)
            exact ⟨g3, by rw [g4]; omega, ln_ok q3 q1 he q2 g1, by omega⟩
          · rw [← hz]
            exact (ldZ_on ⟨c64, c75⟩).symm
  refine main 901 (bgN σ.1) σ.2.2.2.2.2.1 (ldq σ.2.2.2.1 σ.2.2.2.2.1) i3 (fun _ => ?_) ?_ hZ.symm
  · have : eo (blB σ.2.2.2.1) σ.2.2.2.2.1 0 ≤ σ.2.2.2.2.1 := eo_le (Nat.zero_le _)
    exact ⟨this, by show eo (blB σ.2.2.2.1) σ.2.2.2.2.1 0 < 100000; omega, bgN_ok, by show _ ≤ eo (blB σ.2.2.2.1) σ.2.2.2.2.1 0 + 901; omega⟩
  · rw [bl_1 (q := (0, k9, -1, 0)) rfl] at h3
    exact (h3.w hn2).x ((hxa _ (by omega) (by omega) (by omega)).trans hR0.2.2.2.2.2.1)

