variable {G : GG} {base : Nat}
/-! ===== THE LAW: the class at x and the reference at r are in one state ===== -/
def LI (M : Mm) (x r o T : Nat) (σ : Sg) : Prop := LX10 M.1 M.2.1 x ∧ LX11 M.1 M.2.1 r ∧ mS M o = some (14, 1) ∧ x + 208 ≤ r ∧ r + 14 ≤ o ∧ CI (mI M) x σ ∧ RI (mI M) r σ ∧ Gs T σ ∧ mT M = none
theorem LX11.cong {S S' : Sh} {R R' : Rf} {a : Nat} (eS : ∀ x, a ≤ x → x < a + 14 → S' x = S x) (eR : ∀ x, a ≤ x → x < a + 14 → ∀ k, R' x k = R x k) (h : LX11 S R a) : LX11 S' R' a := by
  obtain ⟨h0, h1, h2, h3, h4, h5, h6, h7, h8, h9, h10, h11, h12, h13, h14, h15, h16, h17, h18, h19, h20, h21, h22, h23, h24, h25, h26⟩ := h
  exact ⟨(eS _ (by omega) (by omega)).trans h0, (eR _ (by omega) (by omega) _).trans h1, (eS _ (by omega) (by omega)).trans h2, (eR _ (by omega) (by omega) _).trans h3, (eS _ (by omega) (by omega)).trans h4, (eR _ (by omega) (by omega) _).trans h5, (eS _ (by omega) (by omega)).trans h6, (eR _ (by omega) (by omega) _).trans h7, (eS _ (by omega) (by omega)).trans h8, (eR _ (by omega) (by omega) _).trans h9, (eS _ (by omega) (by omega)).trans h10, (eR _ (by omega) (by omega) _).trans h11, (eS _ (by omega) (by omega)).trans h12, (eR _ (by omega) (by omega) _).trans h13, (eS _ (by omega) (by omega)).trans h14, (eR _ (by omega) (by omega) _).trans h15, (eS _ (by omega) (by omega)).trans h16, (eR _ (by omega) (by omega) _).trans h17, (eS _ (by omega) (by omega)).trans h18, (eR _ (by omega) (by omega) _).trans h19, (eS _ (by omega) (by omega)).trans h20, (eR _ (by omega) (by omega) _).trans h21, (eS _ (by omega) (by omega)).trans h22, (eR _ (by omega) (by omega) _).trans h23, (eS _ (by omega) (by omega)).trans h24, (eR _ (by omega) (by omega) _).trans h25, (eS _ (by omega) (by omega)).trans h26⟩
theorem RI.out {i j : Nat → Nat → Int32} {a : Nat} {σ : Sg} (h : RI i a σ) (ho : ∀ x, a ≤ x → x < a + 14 → ∀ k, j x k = i x k) : RI j a σ := h.kp ⟨fun x hx => funext (ho x (by omega) (by omega)), fun k _ => ho a (by omega) (by omega) k⟩
theorem LI.lx {M : Mm} {x r o T : Nat} {σ : Sg} (h : LI M x r o T σ) : LX10 M.1 M.2.1 x := h.1
theorem LI.ci {M : Mm} {x r o T : Nat} {σ : Sg} (h : LI M x r o T σ) : CI (mI M) x σ := h.2.2.2.2.2.1
theorem LI.gs {M : Mm} {x r o T : Nat} {σ : Sg} (h : LI M x r o T σ) : Gs T σ := h.2.2.2.2.2.2.2.1
theorem LI.nt {M : Mm} {x r o T : Nat} {σ : Sg} (h : LI M x r o T σ) : mT M = none := h.2.2.2.2.2.2.2.2
theorem LI.so {M : Mm} {x r o T : Nat} {σ : Sg} (h : LI M x r o T σ) : mS M o = some (14, 1) := h.2.2.1
theorem LI.xo {M : Mm} {x r o T : Nat} {σ : Sg} (h : LI M x r o T σ) : x + 208 ≤ o := by
  have h1 := h.2.2.2.1
  have h2 := h.2.2.2.2.1
  omega
theorem LI.te {M : Mm} {x r o T : Nat} {σ : Sg} (h : LI M x r o T σ) : σ.2.2.2.2.1 ≤ 900 := h.ci.1.2.2
/-- .. behind the class's call: the reference is as it was -/
theorem LI.l11 {M N : Mm} {x r o T : Nat} {σ : Sg} (h : LI M x r o T σ) (hk : ∀ y, y < x ∨ x + 208 ≤ y → mS N y = mS M y ∧ ∀ k, mR N y k = mR M y k) : LX11 N.1 N.2.1 r := by
  have h1 := h.2.2.2.1
  exact LX11.cong (fun y a b => (hk y (by omega)).1) (fun y a b k => (hk y (by omega)).2 k) h.2.1
theorem LI.ri {M N : Mm} {x r o T : Nat} {σ : Sg} (h : LI M x r o T σ) (hk : outB (mI N) (mI M) x 208) : RI (mI N) r σ := by
  have h1 := h.2.2.2.1
  exact h.2.2.2.2.2.2.1.out (fun y a b k => hk y (by omega) k)
theorem LI.on {M N : Mm} {x r o T : Nat} {σ : Sg} (h : LI M x r o T σ) (hk : ∀ y, y < x ∨ x + 208 ≤ y → mS N y = mS M y ∧ ∀ k, mR N y k = mR M y k) : mS N o = some (14, 1) := by
  have h1 := h.xo
  exact (hk o (by omega)).1.trans h.so
/-- .. behind the reference's call too -/
theorem LI.both {M N : Mm} {x r o T T' : Nat} {σ σ' : Sg} {i : Nat → Nat → Int32} (h : LI M x r o T σ) (hk1 : LX10 N.1 N.2.1 x) (hk2 : ∀ y, y < x ∨ x + 208 ≤ y → mS N y = mS M y ∧ ∀ k, mR N y k = mR M y k) (hk3 : mT N = none) (hC : CI (mI N) x σ') (hR : RI i r σ') (ho : outB i (mI N) r 14) (hG : Gs T' σ') : LI (wI N i) x r o T' σ' := by
  have h1 := h.2.2.2.1
  exact ⟨hk1, h.l11 hk2, h.on hk2, h1, h.2.2.2.2.1, hC.kept (fun y a b _ k => ho y (by omega) k), hR, hG, hk3⟩
theorem lawfin {M N : Mm} {x r o T T' : Nat} {σ σ' : Sg} {res : Int32 ⊕ Nat} {f : Int32 → Int64} {kk v2 : Int32} {i : Nat → Nat → Int32} (h : LI M x r o T σ) (hk1 : LX10 N.1 N.2.1 x) (hk2 : ∀ y, y < x ∨ x + 208 ≤ y → mS N y = mS M y ∧ ∀ k, mR N y k = mR M y k) (hk3 : mT N = none) (hC : CI (mI N) x σ') (hr : (∃ w, res = .inl w ∧ kk = 0 ∧ mL N o 0 = f w) ∨ ∃ k : Nat, res = .inr k ∧ (k = 1 ∨ k = 2) ∧ kk = nI k) (hq : pQ N r res σ' v2 i) (hG : Gs T' σ') :
    LI (wI N i) x r o T' σ' ∧ mI (wI N i) r 0 = kk ∧ (kk = 0 → mL (wI N i) o 0 = f v2) := by
  obtain ⟨q1, q2, q3⟩ := hq
  refine ⟨h.both hk1 hk2 hk3 hC q1 q3 hG, ?_, ?_⟩
  · rcases hr with ⟨w, rfl, rfl, -⟩ | ⟨k, rfl, -, rfl⟩
    · exact q2.2
    · exact q2
  · intro h0
    rcases hr with ⟨w, rfl, rfl, h3⟩ | ⟨k, rfl, h12, rfl⟩
    · show mL N o 0 = f v2
      rw [q2.1]
      exact h3
    · rcases h12 with rfl | rfl
      · exact absurd h0 (by decide)
      · exact absurd h0 (by decide)
theorem lawfin0 {M N : Mm} {x r o T T' : Nat} {σ σ' : Sg} {res : Int32 ⊕ Nat} {w v2 : Int32} {i : Nat → Nat → Int32} (h : LI M x r o T σ) (hk : kX M N x) (hC : CI (mI N) x σ') (hr : res = .inl w) (hq : pQ N r res σ' v2 i) (hG : Gs T' σ') : LI (wI N i) x r o T' σ' ∧ w = v2 := by
  obtain ⟨q1, q2, q3⟩ := hq
  subst hr
  exact ⟨h.both hk.1 hk.2.1 hk.2.2.1 hC q1 q3 hG, q2.1.symm⟩
theorem Gs.append {T : Nat} {σ : Sg} {w0 w1 w2 w3 w4 : Int32} (h : Gs T σ) : Gs T (sg_append σ w0 w1 w2 w3 w4) := by
  unfold sg_append
  split
  · exact h
  · exact h.rest rfl rfl rfl
theorem Gs.truncate {T : Nat} {σ : Sg} {x : Int32} (h : Gs T σ) : Gs T (sg_truncate σ x) := by
  unfold sg_truncate
  split
  · exact h
  · exact h.rest rfl rfl rfl
theorem Gs.formatLetter {T : Nat} {σ : Sg} {x : Int32} (h : Gs T σ) : Gs T (sg_formatLetter σ x) := by
  unfold sg_formatLetter
  split
  · exact h
  · exact h.rest rfl rfl rfl
theorem Gs.formatCarrier {T : Nat} {σ : Sg} {x : Int32} (h : Gs T σ) : Gs T (sg_formatCarrier σ x) := by
  unfold sg_formatCarrier
  split
  · exact h
  · exact h.rest rfl rfl rfl
theorem Gs.tl {T t : Nat} {σ : Sg} (h : Gs T σ) : Gs T (tlS σ t) := h.rest rfl rfl rfl
/-- with nothing to undo the past doesn't count -/
def zP (σ : Sg) : Sg := (σ.1, σ.1, σ.2.2.1, σ.2.2.2)
theorem CI.zp {i : Nat → Nat → Int32} {a : Nat} {σ : Sg} (h0 : σ.2.2.1 = 0) (h : CI i a σ) : CI i a (zP σ) := by
  obtain ⟨h1, h2, h3, h4, h5, h6, h7⟩ := h
  refine ⟨h1, h2, h3, h4, h5, ?_, h7⟩
  obtain ⟨g1, g2, y, g3, g4, g5⟩ := h6
  exact ⟨g1, g2, y, g3, g4, fun j hj => absurd hj (by show ¬ j < σ.2.2.1; omega)⟩
theorem CI.pz {i : Nat → Nat → Int32} {a : Nat} {σ : Sg} (h0 : σ.2.2.1 = 0) (h : CI i a (zP σ)) : CI i a σ := by
  obtain ⟨h1, h2, h3, h4, h5, h6, h7⟩ := h
  refine ⟨h1, h2, h3, h4, h5, ?_, h7⟩
  obtain ⟨g1, g2, y, g3, g4, g5⟩ := h6
  exact ⟨g1, g2, y, g3, g4, fun j hj => absurd hj (by omega)⟩
theorem zP_undo {σ : Sg} (h0 : σ.2.2.1 = 0) : (undoS (zP σ)).1 = σ.1 := by
  funext q
  show (if q < 1158 then σ.1 (1158 * (σ.2.2.1 - 1) + q) else σ.1 q) = σ.1 q
  rw [h0]
  split
  · rw [show 1158 * (0 - 1) + q = q by omega]
  · rfl
theorem t_c_undoZ {M : Mm} {a : Nat} {σ : Sg} {T : Nat} (hL : LX10 M.1 M.2.1 a) (hC : CI (mI M) a σ) (hO : OkN T σ.1) (hT9 : T < 890000) (h0 : σ.2.2.1 = 0) : Ct G base YX10_undo 20 1 6 [.ref a] M (rC M a 1 4 (rs_undo (zP σ)) (sg_undo (zP σ))) :=
  t_c_undo hL (hC.zp h0) hO hT9 (by rw [zP_undo h0]; exact hC.2.2.2.1)
theorem zP_rs {σ : Sg} (h0 : σ.2.2.1 = 0) : rs_undo (zP σ) = rs_undo σ ∧ sg_undo (zP σ) = zP σ ∧ sg_undo σ = σ := by
  refine ⟨rfl, ?_, ?_⟩
  · unfold sg_undo
    exact if_pos h0
  · unfold sg_undo
    exact if_pos h0
/-- the law's frame at the loop's head -/
abbrev lcs (b x r o i : Nat) : List (Option Value) := [some (.ref b), some (.ref x), some (.ref r), some (.ref o), some (.int (nI i)), none, none, none, none]
abbrev lpost : Ot → Mm → Prop := fun o _ => o = .inl (some (.int 1))
abbrev okL (G : GG) (base : Nat) (X : Cx) : Prop := okX G base X cL_law RL 9 ret 100 1024 32768 lpost
/-- what a case of the switch owes: from its first instruction to the loop's end -/
def Case (G : GG) (base : Nat) (X : Cx) (b L : Nat) (xs : Nat → Int32) (pc : Nat) : Prop :=
  ∀ (M : Mm) (x r o T i cs sl : Nat) (σ : Sg), LI M x r o T σ → T < 800000 → i + 6 ≤ L → L ≤ 3072 → cs + 1 ≤ 1024 → sl + 6 ≤ 32768 → (∀ M' σ', LI M' x r o (T + 168) σ' → J G base X (cs + 1) (sl + 6) M' 2758 (lcs b x r o i) []) → J G base X cs sl M pc (lcs b x r o i) []
