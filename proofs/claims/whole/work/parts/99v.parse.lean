variable {G : GG} {base : Nat}
/-- the parser has read the text -/
def pP (M : Mm) (p b : Nat) (Z : (Nat → Int32) × (Nat → Int32) × Q4) : Ot → Mm → Prop := fun o N => ∃ i, N = wI (uR M p 4 (some b)) i ∧ o = .inl (some (.int (if Z.2.2.2.2.1 = -1 then 1 else 0))) ∧ (∀ x, (x < p ∨ p + 25 ≤ x) → i x = mI M x) ∧ i p 2 = Z.2.2.2.2.1 ∧ i p 3 = Z.2.2.2.2.2 ∧ (Z.2.2.2.2.1 = -1 → TT i (p + 1) Z.1 ∧ RS i (p + 7) Z.1)
theorem nI_01 {P : Prop} [Decidable P] (h : P) : (some (Value.int (nI 1))) = some (.int (if P then 1 else 0)) := by rw [if_pos h]; rfl
set_option maxHeartbeats 2000000 in
set_option maxRecDepth 20000 in
theorem t_X5_parse {M : Mm} {p b N e : Nat} {u : Nat → Nat} (hp : LX5 M.1 M.2.1 p) (hb : mS M b = some (12, N)) (hN9 : N < 100000) (heN : e ≤ N) (hbp : b < p) (he : e ≤ 900) (hu : ∀ k, k < e → u k < 256 ∧ mI M b k = nI (u k)) {n rd : Nat → Int32} {Z : (Nat → Int32) × (Nat → Int32) × Q4} (hZ : ldZ u e 901 (bgN n) rd (ldq u e) = Z) : Ct G base YX5_parse 8 0 0 [.ref p, .ref b, .int (nI e)] M (pP M p b Z) := by
  refine Ct.of IX5_parse.1 (by simp [Value.category]) (Nat.le_of_ble_eq_true rfl) (fun X hX hN => ?_)
  show J G base X 0 0 M 0 [some (.ref p), some (.ref b), some (.int (nI e)), none, none] []
  refine r_aload_n hX dX5_parse_0 rfl ?_
  refine r_aload_n hX dX5_parse_1 rfl ?_
  refine r_iload_n hX dX5_parse_2 rfl ?_
  refine r_gV2 hX dX5_parse_3 IX5_begin ml_X5_48 rfl (LX5_s hp) rfl (t_X5_begin (M := M) hp hb hN9 heN) (by decide) (by decide) (by decide) (by decide) rfl (Nat.le_of_ble_eq_true rfl) (fun E N9 h9 => by obtain ⟨h9, -⟩ := h9; cases h9) (fun v N9 hB => ?_)
  obtain ⟨hv, i0, rfl, hB1, hB2, hB3, hB4⟩ := hB
  cases hv
  show J G base X _ _ (wI (uR M p 4 (some b)) i0) _ _ _
  have hp1 : LX5 (uR M p 4 (some b)).1 (uR M p 4 (some b)).2.1 p := LX5.mono (P := p) (fun x k hx => by
    show (if x = p then (if k = 4 then some b else M.2.1 x k) else M.2.1 x k) = M.2.1 x k
    split
    · rename_i h1
      split
      · rename_i h2; exact absurd ⟨h1, h2⟩ hx
      · rfl
    · rfl) hp rfl
  obtain ⟨st0, hst0⟩ := hB3
  refine r_iconst (v := nI 0) hX dX5_parse_6 (by decide) ?_
  refine r_istore3 hX dX5_parse_7 rfl ?_
  refine loop_us (σ := (Nat → Nat → Int32) × (Nat → Int32) × (Nat → Int32) × Q4 × Option Int32) (P := fun j s => ((∀ x, (x < p ∨ p + 25 ≤ x) → s.1 x = mI M x) ∧ s.1 p 5 = nI e ∧ cQ s.1 p s.2.2.2.1 ∧ s.2.2.2.1.2.2.1 = -1 ∧ s.2.2.2.1.1 ≤ e ∧ PI s.1 p s.2.1 ∧ ldZ u e (901 - j) s.2.1 s.2.2.1 (blQ u e s.2.2.2.1) = Z ∧ j ≤ (blQ u e s.2.2.2.1).1) → J G base X 0 0 (wI (uR M p 4 (some b)) s.1) 8 [some (.ref p), some (.ref b), some (.int (nI e)), some (.int (nI j)), s.2.2.2.2.map .int] []) e (fun j s hj ih hi => ?_) 0 (i0, bgN n, rd, (0, st0, -1, 0), none) (Nat.zero_le _) ⟨hB1, hB2, hst0, rfl, Nat.zero_le _, hB4 n, ?_, Nat.zero_le _⟩
  rotate_left
  · rw [← hZ]
    show ldZ u e 901 (bgN n) rd (blQ u e (0, st0, -1, 0)) = _
    rw [bl_1 (q := (0, st0, -1, 0)) rfl]
    rfl
  rcases s with ⟨i, n, rd, ⟨x, st, f⟩, _ | x4⟩
  · dsimp only at hi ih
    obtain ⟨g1, g2, g3, hgf, g5, hPi, hZ1, hj1⟩ := hi
    replace hgf : f.1 = -1 := hgf
    replace g5 : x ≤ e := g5
    generalize hxB : eo (blB u) e x = B at *
    have hBle : B ≤ e := by rw [← hxB]; exact eo_le g5
    have hBB : eo (blB u) e B = B := by rw [← hxB]; exact eo_eo g5
    have hbq : blQ u e (x, st, f) = (B, B, f) := by
      rw [bl_1 (q := (x, st, f)) hgf]
      show (eo (blB u) e x, eo (blB u) e x, f) = _
      rw [hxB]
    rw [hbq] at hZ1 hj1
    have hjB : j ≤ B := hj1
    have hB9 : B < 100000 := by omega
    generalize hWW : eo (lwB u) e B = W at *
    have hWe : W ≤ e := by rw [← hWW]; exact eo_le hBle
    have hWg : B ≤ W := by rw [← hWW]; exact eo_ge
    have hTi : PT (wI (uR M p 4 (some b)) i) p b N e u := ⟨⟨by show mR (uR M p 4 (some b)) p 4 = some b; rw [mR_uR, if_pos rfl, if_pos rfl], hb, heN, hN9, hbp⟩, fun k hk => ⟨(hu k hk).1, (congrFun (g1 b (by omega)) k).trans (hu k hk).2⟩, g2⟩
    show J G base X 0 0 (wI (uR M p 4 (some b)) i) 8 [some (.ref p), some (.ref b), some (.int (nI e)), some (.int (nI j)), none] []
    refine r_iload_n hX dX5_parse_8 rfl ?_
    refine r_aload_n hX dX5_parse_9 rfl ?_
    refine rn_geti (v := nI e) hX dX5_parse_10 fl_X5_36 rfl (LX5_s hp1) g2 ?_
    refine rn_icmp_gt (tgt := 189) hX dX5_parse_13 (by decide) rfl rfl (by omega) (by omega) (fun c13 => by omega) (fun c13 => ?_)
    refine r_aload_n hX dX5_parse_16 rfl ?_
    refine r_iV0 hX dX5_parse_17 IX5_readWord ml_X5_52 rfl (LX5_s hp1) rfl (t_X5_readWord (M := wI (uR M p 4 (some b)) i) hp1 hTi g3 g5 he) (by decide) (by decide) (by decide) (by decide) rfl (Nat.le_of_ble_eq_true rfl) (fun i1 h1 => ?_)
    rw [hxB, hWW] at h1
    show J G base X _ _ (wI (uR M p 4 (some b)) i1) _ _ _
    have hS1 : cS (wI (uR M p 4 (some b)) i) p (W, B, f) i1 := h1
    refine r_aload_n hX dX5_parse_20 rfl ?_
    refine rn_geti (v := nI B) hX dX5_parse_21 fl_X5_42 rfl (LX5_s hp1) hS1.1.2.1 ?_
    refine r_aload_n hX dX5_parse_24 rfl ?_
    refine rn_geti (v := nI e) hX dX5_parse_25 fl_X5_36 rfl (LX5_s hp1) ((hS1.2.2 5 (by omega) (by omega) (by omega) (by omega)).trans g2) ?_
    refine rn_icmp_lt (tgt := 33) hX dX5_parse_28 (by decide) rfl rfl (by omega) (by omega) (fun c28 => ?_) (fun c28 => ?_)
    · have hBe : B < e := by omega
      have hZ2 : ldZ u e (900 - j) (lnX n rd u e (B, B, f)).1 (lnX n rd u e (B, B, f)).2.1 (edQ u e (lnX n rd u e (B, B, f)).2.2) = Z := by
        have z := hZ1
        rw [show 901 - j = (900 - j) + 1 by omega, ldZ_on ⟨hgf, hBe⟩] at z
        exact z
      have hZb : ¬ (edM u e (lnX n rd u e (B, B, f)).2.2).2.2.1 = -1 → Z.2.2.2.2 = (edM u e (lnX n rd u e (B, B, f)).2.2).2.2 := by
        intro hb
        have e2 : (edQ u e (lnX n rd u e (B, B, f)).2.2).2.2 = (edM u e (lnX n rd u e (B, B, f)).2.2).2.2 := by
          unfold edQ
          rw [blQ_f]
        rw [← hZ2, ldZ_off (fun z => hb (by rw [← e2]; exact z.1))]
        exact e2
      have hL := lnC (n := n) (rd := rd) (u := u) (e := e) (B := B) (f := f) hgf hBB
      rw [hWW] at hL
      have hK : ∀ w, (W - B = (txw w).length ∧ ∀ j, j < (txw w).length → u (B + j) = (txw w).getD j 0) ↔ hasW u e w (B, B, f) = true := fun w => by
        have z := hasW_i (u := u) (e := e) (w := w) (f := f) hgf hBB
        rw [hWW] at z
        exact z
      have rest : ∀ (i2 : Nat → Nat → Int32) (n' : Nat → Int32) (r : Q4), pZ (wI (uR M p 4 (some b)) i1) p n' r i2 → (r.2.2.1 = -1 → n' = (lnX n rd u e (B, B, f)).1 ∧ r = (lnX n rd u e (B, B, f)).2.2) → (¬ r.2.2.1 = -1 → (edM u e (lnX n rd u e (B, B, f)).2.2).2.2 = r.2.2) → J G base X 0 0 (wI (uR M p 4 (some b)) i2) 169 [some (.ref p), some (.ref b), some (.int (nI e)), some (.int (nI j)), some (.int (if r.2.2.1 = -1 then 1 else 0))] [] := by
        intro i2 n' r hz h1 h2
        refine r_iload hX dX5_parse_169 rfl ?_
        refine rb_if_eq (tgt := 181) hX dX5_parse_171 (by decide) rfl (fun c171 => ?_) (fun c171 => ?_)
        · refine r_iconst (v := 0) hX dX5_parse_181 (by decide) ?_
          refine r_ireturn hX rfl rfl dX5_parse_182 (by decide) (by decide) ?_
          have hr2 : Z.2.2.2.2 = r.2.2 := by
            have z := h2 c171
            rw [← z]
            exact hZb (by rw [z]; exact c171)
          obtain ⟨z1, z2, ⟨at_, st2, z3, z4⟩, z5⟩ := hz
          have hzf : ¬ Z.2.2.2.2.1 = -1 := by rw [hr2]; exact c171
          exact ⟨i2, rfl, by rw [if_neg hzf]; first | done | rfl, fun x hx => (z1 x hx).trans ((hS1.2.1 x (by omega)).trans (g1 x hx)), by rw [hr2]; exact z3.2.2.1, by rw [hr2]; exact z3.2.2.2, fun z => absurd z hzf⟩
        · obtain ⟨z1, z2, ⟨at_, st2, z3, z4⟩, z5⟩ := hz
          have hPn := z5 c171
          have hat := z4 c171
          rw [hat] at z3
          have hlr : lnX n rd u e (B, B, f) = (n', (lnX n rd u e (B, B, f)).2.1, r) := by rw [(h1 c171).1, (h1 c171).2]
          have hr1 : r.1 ≤ e := by
            rw [(h1 c171).2]
            exact lnX_le (q := (B, B, f)) (by show B ≤ e; omega) he
          have hrB : B ≤ r.1 := by
            rw [(h1 c171).2]
            exact lnX_ge (q := (B, B, f))
          have hed : edM u e (r.1, st2, r.2.2) = edM u e r := edM_st c171
          have hT2 : PT (wI (uR M p 4 (some b)) i2) p b N e u := ⟨hTi.1, fun k hk => ⟨(hTi.2.1 k hk).1, (congrFun (z1 b (by omega)) k).trans ((hS1.pt hTi).2.1 k hk).2⟩, z2.trans (hS1.pt hTi).2.2⟩
          refine r_aload_n hX dX5_parse_174 rfl ?_
          refine r_iV0 hX dX5_parse_175 IX5_readSemicolon ml_X5_95 rfl (LX5_s hp1) rfl (t_X5_readSemicolon (M := wI (uR M p 4 (some b)) i2) hp1 hT2 (q := (r.1, st2, r.2.2)) c171 z3 hr1 he) (by decide) (by decide) (by decide) (by decide) rfl (Nat.le_of_ble_eq_true rfl) (fun i3 h3 => ?_)
          show J G base X _ _ (wI (uR M p 4 (some b)) i3) _ _ _
          
          refine rb_if_ne (tgt := 183) hX dX5_parse_178 (by decide) rfl (fun c178 => ?_) (fun c178 => ?_)
          · refine rn_iinc3 hX dX5_parse_183 rfl rfl ?_
            refine r_goto (tgt := 8) hX dX5_parse_186 (by decide) ?_
            obtain ⟨at3, st3, y1, y2⟩ := h3
            have hgE : (edM u e r).2.2.1 = -1 := by rw [← hed]; exact c178
            have hat3 : at3 = (edM u e r).1 + 1 := by rw [y2 c178, ← hed]; rfl
            have hf3 : (scQ u e (r.1, st2, r.2.2)).2.2 = (edM u e r).2.2 := by rw [← hed]; rfl
            rw [hat3, hf3] at y1
            have hq9 : blQ u e ((edM u e r).1 + 1, st3, (edM u e r).2.2) = edQ u e r := by
              unfold edQ
              rw [bl_1 (q := ((edM u e r).1 + 1, st3, (edM u e r).2.2)) hgE, bl_1 (q := ((edM u e r).1 + 1, (edM u e r).2)) hgE]
            have hgQ : (edQ u e r).2.2.1 = -1 := by rw [← hq9, blQ_f]; exact hgE
            obtain ⟨-, o1, o2, -⟩ := ed_ok hr1 he hgQ
            have hE1 := (edM_ok hr1 he hgE).1
            refine ih (by omega) (i3, n', (lnX n rd u e (B, B, f)).2.1, ((edM u e r).1 + 1, st3, (edM u e r).2.2), some (if r.2.2.1 = -1 then 1 else 0)) ⟨fun x hx => (y1.2.1 x (by omega)).trans ((z1 x hx).trans ((hS1.2.1 x (by omega)).trans (g1 x hx))), ?_, y1.1, hgE, by show (edM u e r).1 + 1 ≤ e; omega, y1.pi hPn, ?_, ?_⟩
            · exact (y1.2.2 5 (by omega) (by omega) (by omega) (by omega)).trans (z2.trans ((hS1.2.2 5 (by omega) (by omega) (by omega) (by omega)).trans g2))
            · rw [hq9]
              rw [hlr] at hZ2
              show ldZ u e (901 - (j + 1)) n' (lnX n rd u e (B, B, f)).2.1 (edQ u e r) = Z
              rw [show 901 - (j + 1) = 900 - j by omega]
              exact hZ2
            · rw [hq9]
              omega
          · refine r_iconst (v := 0) hX dX5_parse_181 (by decide) ?_
            refine r_ireturn hX rfl rfl dX5_parse_182 (by decide) (by decide) ?_
            have hzb : ¬ (edM u e (lnX n rd u e (B, B, f)).2.2).2.2.1 = -1 := fun z => c178 (by show (edM u e (r.1, st2, r.2.2)).2.2.1 = -1; rw [hed, (h1 c171).2]; exact z)
            have hr2 : Z.2.2.2.2 = (edM u e (r.1, st2, r.2.2)).2.2 := by
              rw [hed, (h1 c171).2]
              exact hZb hzb
            have hzf : ¬ Z.2.2.2.2.1 = -1 := by rw [hr2]; exact c178
            obtain ⟨at3, st3, y1, y2⟩ := h3
            exact ⟨i3, rfl, by rw [if_neg hzf]; first | done | rfl, fun x hx => (y1.2.1 x (by omega)).trans ((z1 x hx).trans ((hS1.2.1 x (by omega)).trans (g1 x hx))), by rw [hr2]; exact y1.1.2.2.1, by rw [hr2]; exact y1.1.2.2.2, fun z => absurd z hzf⟩
      refine r_aload_n hX dX5_parse_33 rfl ?_
      refine r_ldcS (i := 0) hX dX5_parse_34 (show (RX5, 55, 0) ∈ txR by simp [txR]) ?_
      refine r_cV1 hX dX5_parse_36 IX5_isWord ml_X5_57 rfl (LX5_s hp1) rfl (t_X5_isWord (M := wI (uR M p 4 (some b)) i1) hp1 (hS1.pt hTi) (q := (W, B, f)) hS1.1 hWg hWe he (w := 0) (by omega)) (by decide) (by decide) (by decide) (by decide) rfl (Nat.le_of_ble_eq_true rfl) ?_
      rw [show (if ((W, B, f) : Q4).1 - ((W, B, f) : Q4).2.1 = (txw 0).length ∧ (∀ j, j < (txw 0).length → u (((W, B, f) : Q4).2.1 + j) = (txw 0).getD j 0) then (1 : Int32) else 0) = _ from itec (hK 0)]
      refine rb_if_eq (tgt := 52) hX dX5_parse_39 (by decide) rfl (fun c39 => ?_) (fun c39 => ?_)
      · refine r_aload_n hX dX5_parse_52 rfl ?_
        refine r_ldcS (i := 1) hX dX5_parse_53 (show (RX5, 65, 1) ∈ txR by simp [txR]) ?_
        refine r_cV1 hX dX5_parse_55 IX5_isWord ml_X5_57 rfl (LX5_s hp1) rfl (t_X5_isWord (M := wI (uR M p 4 (some b)) i1) hp1 (hS1.pt hTi) (q := (W, B, f)) hS1.1 hWg hWe he (w := 1) (by omega)) (by decide) (by decide) (by decide) (by decide) rfl (Nat.le_of_ble_eq_true rfl) ?_
        rw [show (if ((W, B, f) : Q4).1 - ((W, B, f) : Q4).2.1 = (txw 1).length ∧ (∀ j, j < (txw 1).length → u (((W, B, f) : Q4).2.1 + j) = (txw 1).getD j 0) then (1 : Int32) else 0) = _ from itec (hK 1)]
        refine rb_if_eq (tgt := 71) hX dX5_parse_58 (by decide) rfl (fun c58 => ?_) (fun c58 => ?_)
        · refine r_aload_n hX dX5_parse_71 rfl ?_
          refine r_ldcS (i := 2) hX dX5_parse_72 (show (RX5, 67, 2) ∈ txR by simp [txR]) ?_
          refine r_cV1 hX dX5_parse_74 IX5_isWord ml_X5_57 rfl (LX5_s hp1) rfl (t_X5_isWord (M := wI (uR M p 4 (some b)) i1) hp1 (hS1.pt hTi) (q := (W, B, f)) hS1.1 hWg hWe he (w := 2) (by omega)) (by decide) (by decide) (by decide) (by decide) rfl (Nat.le_of_ble_eq_true rfl) ?_
          rw [show (if ((W, B, f) : Q4).1 - ((W, B, f) : Q4).2.1 = (txw 2).length ∧ (∀ j, j < (txw 2).length → u (((W, B, f) : Q4).2.1 + j) = (txw 2).getD j 0) then (1 : Int32) else 0) = _ from itec (hK 2)]
          refine rb_if_eq (tgt := 89) hX dX5_parse_77 (by decide) rfl (fun c77 => ?_) (fun c77 => ?_)
          · refine r_aload_n hX dX5_parse_89 rfl ?_
            refine r_ldcS (i := 3) hX dX5_parse_90 (show (RX5, 73, 3) ∈ txR by simp [txR]) ?_
            refine r_cV1 hX dX5_parse_92 IX5_isWord ml_X5_57 rfl (LX5_s hp1) rfl (t_X5_isWord (M := wI (uR M p 4 (some b)) i1) hp1 (hS1.pt hTi) (q := (W, B, f)) hS1.1 hWg hWe he (w := 3) (by omega)) (by decide) (by decide) (by decide) (by decide) rfl (Nat.le_of_ble_eq_true rfl) ?_
            rw [show (if ((W, B, f) : Q4).1 - ((W, B, f) : Q4).2.1 = (txw 3).length ∧ (∀ j, j < (txw 3).length → u (((W, B, f) : Q4).2.1 + j) = (txw 3).getD j 0) then (1 : Int32) else 0) = _ from itec (hK 3)]
            refine rb_if_eq (tgt := 122) hX dX5_parse_95 (by decide) rfl (fun c95 => ?_) (fun c95 => ?_)
            · refine r_aload_n hX dX5_parse_122 rfl ?_
              refine r_ldcS (i := 4) hX dX5_parse_123 (show (RX5, 81, 4) ∈ txR by simp [txR]) ?_
              refine r_cV1 hX dX5_parse_125 IX5_isWord ml_X5_57 rfl (LX5_s hp1) rfl (t_X5_isWord (M := wI (uR M p 4 (some b)) i1) hp1 (hS1.pt hTi) (q := (W, B, f)) hS1.1 hWg hWe he (w := 4) (by omega)) (by decide) (by decide) (by decide) (by decide) rfl (Nat.le_of_ble_eq_true rfl) ?_
              rw [show (if ((W, B, f) : Q4).1 - ((W, B, f) : Q4).2.1 = (txw 4).length ∧ (∀ j, j < (txw 4).length → u (((W, B, f) : Q4).2.1 + j) = (txw 4).getD j 0) then (1 : Int32) else 0) = _ from itec (hK 4)]
              refine rb_if_eq (tgt := 140) hX dX5_parse_128 (by decide) rfl (fun c128 => ?_) (fun c128 => ?_)
              · refine r_aload_n hX dX5_parse_140 rfl ?_
                refine r_ldcS (i := 5) hX dX5_parse_141 (show (RX5, 86, 5) ∈ txR by simp [txR]) ?_
                refine r_cV1 hX dX5_parse_143 IX5_isWord ml_X5_57 rfl (LX5_s hp1) rfl (t_X5_isWord (M := wI (uR M p 4 (some b)) i1) hp1 (hS1.pt hTi) (q := (W, B, f)) hS1.1 hWg hWe he (w := 5) (by omega)) (by decide) (by decide) (by decide) (by decide) rfl (Nat.le_of_ble_eq_true rfl) ?_
                rw [show (if ((W, B, f) : Q4).1 - ((W, B, f) : Q4).2.1 = (txw 5).length ∧ (∀ j, j < (txw 5).length → u (((W, B, f) : Q4).2.1 + j) = (txw 5).getD j 0) then (1 : Int32) else 0) = _ from itec (hK 5)]
                refine rb_if_eq (tgt := 158) hX dX5_parse_146 (by decide) rfl (fun c146 => ?_) (fun c146 => ?_)
                · refine r_aload_n hX dX5_parse_158 rfl ?_
                  refine r_iconst (v := nI 1) hX dX5_parse_159 (by decide) ?_
                  refine r_aload_n hX dX5_parse_160 rfl ?_
                  refine rn_geti (v := nI B) hX dX5_parse_161 fl_X5_42 rfl (LX5_s hp1) hS1.1.2.1 ?_
                  refine r_iV2 hX dX5_parse_164 IX5_fail ml_X5_91 rfl (LX5_s hp1) rfl (t_X5_fail (M := wI (uR M p 4 (some b)) i1) hp1 hS1.1 (k := 1) (f := B)) (by decide) (by decide) (by decide) (by decide) rfl (Nat.le_of_ble_eq_true rfl) (fun i2 h2 => ?_)
                  show J G base X _ _ (wI (uR M p 4 (some b)) i2) _ _ _
                  
                  refine r_istore4 hX dX5_parse_167 rfl ?_
                  have z := rest i2 n (B, B, nI B, nI 1) (pZ.bad h2 rfl (nI_m1 (by show B < 100000; omega))) (fun z => absurd z (nI_m1 (by show B < 100000; omega))) (fun z => by rw [hL, if_neg c39, if_neg c58, if_neg c77, if_neg c95, if_neg c128, if_neg c146]; exact congrArg (fun x : Q4 => x.2.2) (edM_f z))
                  rw [if_neg (nI_m1 (by show B < 100000; omega))] at z
                  exact z
                · refine r_aload_n hX dX5_parse_149 rfl ?_
                  refine r_iV0 hX dX5_parse_150 IX5_readLetter ml_X5_88 rfl (LX5_s hp1) rfl (t_X5_readLetter (M := wI (uR M p 4 (some b)) i1) hp1 (hS1.pt hTi) hgf hS1.1 hWe he hB9 (hS1.pi hPi)) (by decide) (by decide) (by decide) (by decide) rfl (Nat.le_of_ble_eq_true rfl) (fun i2 h2 => ?_)
                  show J G base X _ _ (wI (uR M p 4 (some b)) i2) _ _ _
                  
                  refine r_istore4 hX dX5_parse_153 rfl ?_
                  refine r_goto (tgt := 169) hX dX5_parse_155 (by decide) ?_
                  obtain ⟨lx1, lx2⟩ := ltX_ok (n := n) (u := u) (e := e) (q := (W, B, f)) he
                  exact rest i2 _ _ h2 (fun z => by rw [hL, if_neg c39, if_neg c58, if_neg c77, if_neg c95, if_neg c128, if_pos c146]; exact ⟨rfl, lx1 z⟩) (fun z => by rw [hL, if_neg c39, if_neg c58, if_neg c77, if_neg c95, if_neg c128, if_pos c146]; exact lx2 hgf hB9 hWe z)
              · refine r_aload_n hX dX5_parse_131 rfl ?_
                refine r_iV0 hX dX5_parse_132 IX5_readCapacity ml_X5_83 rfl (LX5_s hp1) rfl (t_X5_readCapacity (M := wI (uR M p 4 (some b)) i1) hp1 (hS1.pt hTi) hgf hS1.1 hWe he hB9 (hS1.pi hPi)) (by decide) (by decide) (by decide) (by decide) rfl (Nat.le_of_ble_eq_true rfl) (fun i2 h2 => ?_)
                show J G base X _ _ (wI (uR M p 4 (some b)) i2) _ _ _
                
                refine r_istore4 hX dX5_parse_135 rfl ?_
                refine r_goto (tgt := 169) hX dX5_parse_137 (by decide) ?_
                exact rest i2 _ _ h2 (fun _ => by rw [hL, if_neg c39, if_neg c58, if_neg c77, if_neg c95, if_pos c128]; exact ⟨rfl, rfl⟩) (fun z => by rw [hL, if_neg c39, if_neg c58, if_neg c77, if_neg c95, if_pos c128]; exact congrArg (fun x : Q4 => x.2.2) (edM_f z))
            · refine r_aload_n hX dX5_parse_98 rfl ?_
              refine r_iV0 hX dX5_parse_99 IX5_readDays ml_X5_75 rfl (LX5_s hp1) rfl (t_X5_readDays (M := wI (uR M p 4 (some b)) i1) hp1 (hS1.pt hTi) hgf hS1.1 hWe he hB9 (hS1.pi hPi)) (by decide) (by decide) (by decide) (by decide) rfl (Nat.le_of_ble_eq_true rfl) (fun i2 h2 => ?_)
              show J G base X _ _ (wI (uR M p 4 (some b)) i2) _ _ _
              
              refine rb_if_eq (tgt := 116) hX dX5_parse_102 (by decide) rfl (fun c102 => ?_) (fun c102 => ?_)
              · refine r_iconst (v := nI 0) hX dX5_parse_116 (by decide) ?_
                refine r_istore4 hX dX5_parse_117 rfl ?_
                refine r_goto (tgt := 169) hX dX5_parse_119 (by decide) ?_
                have hgd : ¬ (rdD n u e (W, B, f)).2.2.1 = -1 := c102
                have z := rest i2 n _ (pZ.routeB (n' := n) (rd := rd) h2 hgd h2.1) (fun z => absurd z (by rw [rtR_bad hgd]; exact hgd)) (fun z => by rw [hL, if_neg c39, if_neg c58, if_neg c77, if_pos c95]; exact congrArg (fun x : Q4 => x.2.2) (edM_f z))
                rw [if_neg (show ¬ (rtR n rd ((W, B, f) : Q4).2.1 u e (W, B, f)).2.2.1 = -1 by rw [rtR_bad hgd]; exact hgd)] at z
                exact z
              · have hgd : (rdD n u e (W, B, f)).2.2.1 = -1 := c102
                obtain ⟨d1, d2, -, d4⟩ := id h2
                obtain ⟨k1, k2, k3, k4, k5, k6, k7⟩ := d4 hgd
                obtain ⟨-, nw1, nw2⟩ := nuW_hi (u := u) (lo := 1) (hi := 127) (q := (W, B, f)) hWe he k2
                have hP1 : PI i1 p n := hS1.pi hPi
                have hTb := hP1.2.2.2.2.1
                have hb0 := hTb.1.2
                have hb1 := hTb.2.1.2
                have hT2 : PT (wI (uR M p 4 (some b)) i2) p b N e u := ⟨hTi.1, fun k hk => ⟨(hTi.2.1 k hk).1, (congrFun (d1 b (by omega) (by omega)) k).trans ((hS1.pt hTi).2.1 k hk).2⟩, d2.trans (hS1.pt hTi).2.2⟩
                have hTT2 : TT (mI (wI (uR M p 4 (some b)) i2)) (p + 1) (rcN n (nv n 1 - 1) (nuW u e 1 127 (W, B, f)) (upd rd 0 0) 7) := by
                  refine TT.stop0 ?_ hTb.2.2.l6 hb0 hb1 (by omega) upd_s k6
                  exact ⟨by rw [show mI (wI (uR M p 4 (some b)) i2) (p + 1) = i1 (p + 1) from d1 _ (by omega) (by omega)]; exact hP1.1.1, by rw [show mI (wI (uR M p 4 (some b)) i2) (p + 1) = i1 (p + 1) from d1 _ (by omega) (by omega)]; exact hP1.1.2.1, by rw [show mI (wI (uR M p 4 (some b)) i2) (p + 1) = i1 (p + 1) from d1 _ (by omega) (by omega)]; exact hP1.1.2.2.1, fun k hk => by rw [show mI (wI (uR M p 4 (some b)) i2) (p + 1 + 1) = i1 (p + 1 + 1) from d1 _ (by omega) (by omega)]; exact hP1.1.2.2.2.1 k hk, fun k hk => by rw [show mI (wI (uR M p 4 (some b)) i2) (p + 1 + 2) = i1 (p + 1 + 2) from d1 _ (by omega) (by omega)]; exact hP1.1.2.2.2.2.1 k hk, fun h hh q hq => by rw [show mI (wI (uR M p 4 (some b)) i2) (p + 1 + 4) = i1 (p + 1 + 4) from d1 _ (by omega) (by omega)]; exact hP1.1.2.2.2.2.2.1 h hh q hq, fun h hh => by rw [show mI (wI (uR M p 4 (some b)) i2) (p + 1 + 5) = i1 (p + 1 + 5) from d1 _ (by omega) (by omega)]; exact hP1.1.2.2.2.2.2.2 h hh⟩
                generalize hZr : stZ n u e 7 0 0 (upd rd 0 0) (nuQ u e 1 127 (W, B, f)) = Zr
                refine r_aload_n hX dX5_parse_105 rfl ?_
                refine r_iV0 hX dX5_parse_106 IX5_readStops ml_X5_78 rfl (LX5_s hp1) rfl (t_X5_readStops (M := wI (uR M p 4 (some b)) i2) hp1 hT2 (q := nuQ u e 1 127 (W, B, f)) k2 k3 (nuQ_le hWe) he (n := n) (C := nv n 1 - 1) (V := nuW u e 1 127 (W, B, f)) (by omega) (by omega) k4 (rd := upd rd 0 0) upd_s hTT2 hTb.1 hTb.2.1 hTb.2.2.l6 hZr) (by decide) (by decide) (by decide) (by decide) rfl (Nat.le_of_ble_eq_true rfl) (fun i5 h5 => ?_)
                show J G base X _ _ (wI (uR M p 4 (some b)) i5) _ _ _
                rw [← hZr] at h5
                refine rb_if_eq (tgt := 116) hX dX5_parse_109 (by decide) rfl (fun c109 => ?_) (fun c109 => ?_)
                · refine r_iconst (v := nI 0) hX dX5_parse_116 (by decide) ?_
                  refine r_istore4 hX dX5_parse_117 rfl ?_
                  refine r_goto (tgt := 169) hX dX5_parse_119 (by decide) ?_
                  have hPZ := pZ.route (M := wI (uR M p 4 (some b)) i1) hgf hWe he hB9 (hS1.pi hPi) h2 hgd h5
                  have hr9 : rtR n rd B u e (W, B, f) = Zr.2 := (rtR_ok (rd := rd) hgf hB9 k5 k1 k2).1.trans (by rw [hZr])
                  have z := rest i5 _ _ hPZ (fun _ => by rw [hL, if_neg c39, if_neg c58, if_neg c77, if_pos c95]; exact ⟨rfl, rfl⟩) (fun z => by rw [hL, if_neg c39, if_neg c58, if_neg c77, if_pos c95]; exact congrArg (fun x : Q4 => x.2.2) (edM_f z))
                  rw [if_neg (show ¬ (rtR n rd ((W, B, f) : Q4).2.1 u e (W, B, f)).2.2.1 = -1 by show ¬ (rtR n rd B u e (W, B, f)).2.2.1 = -1; rw [hr9]; exact c109)] at z
                  exact z
                · refine r_iconst (v := nI 1) hX dX5_parse_112 (by decide) ?_
                  refine r_goto (tgt := 117) hX dX5_parse_113 (by decide) ?_
                  refine r_istore4 hX dX5_parse_117 rfl ?_
                  refine r_goto (tgt := 169) hX dX5_parse_119 (by decide) ?_
                  have hPZ := pZ.route (M := wI (uR M p 4 (some b)) i1) hgf hWe he hB9 (hS1.pi hPi) h2 hgd h5
                  have hr9 : rtR n rd B u e (W, B, f) = Zr.2 := (rtR_ok (rd := rd) hgf hB9 k5 k1 k2).1.trans (by rw [hZr])
                  have z := rest i5 _ _ hPZ (fun _ => by rw [hL, if_neg c39, if_neg c58, if_neg c77, if_pos c95]; exact ⟨rfl, rfl⟩) (fun z => by rw [hL, if_neg c39, if_neg c58, if_neg c77, if_pos c95]; exact congrArg (fun x : Q4 => x.2.2) (edM_f z))
                  rw [if_pos (show (rtR n rd ((W, B, f) : Q4).2.1 u e (W, B, f)).2.2.1 = -1 by show (rtR n rd B u e (W, B, f)).2.2.1 = -1; rw [hr9]; exact c109)] at z
                  exact z
          · refine r_aload_n hX dX5_parse_80 rfl ?_
            refine r_iV0 hX dX5_parse_81 IX5_readCarrier ml_X5_69 rfl (LX5_s hp1) rfl (t_X5_readCarrier (M := wI (uR M p 4 (some b)) i1) hp1 (hS1.pt hTi) hgf hS1.1 hWe he hB9 (hS1.pi hPi)) (by decide) (by decide) (by decide) (by decide) rfl (Nat.le_of_ble_eq_true rfl) (fun i2 h2 => ?_)
            show J G base X _ _ (wI (uR M p 4 (some b)) i2) _ _ _
            
            refine r_istore4 hX dX5_parse_84 rfl ?_
            refine r_goto (tgt := 169) hX dX5_parse_86 (by decide) ?_
            exact rest i2 _ _ h2 (fun _ => by rw [hL, if_neg c39, if_neg c58, if_pos c77]; exact ⟨rfl, rfl⟩) (fun z => by rw [hL, if_neg c39, if_neg c58, if_pos c77]; exact congrArg (fun x : Q4 => x.2.2) (edM_f z))
        · refine r_aload_n hX dX5_parse_61 rfl ?_
          refine r_iconst (v := nI 0) hX dX5_parse_62 (by decide) ?_
          refine r_iV1 hX dX5_parse_63 IX5_readPlace ml_X5_61 rfl (LX5_s hp1) rfl (t_X5_readPlace0 (M := wI (uR M p 4 (some b)) i1) hp1 (hS1.pt hTi) hgf hS1.1 hWe he hB9 (hS1.pi hPi)) (by decide) (by decide) (by decide) (by decide) rfl (Nat.le_of_ble_eq_true rfl) (fun i2 h2 => ?_)
          show J G base X _ _ (wI (uR M p 4 (some b)) i2) _ _ _
          
          refine r_istore4 hX dX5_parse_66 rfl ?_
          refine r_goto (tgt := 169) hX dX5_parse_68 (by decide) ?_
          exact rest i2 _ _ h2 (fun _ => by rw [hL, if_neg c39, if_pos c58]; exact ⟨rfl, rfl⟩) (fun z => by rw [hL, if_neg c39, if_pos c58]; exact congrArg (fun x : Q4 => x.2.2) (edM_f z))
      · refine r_aload_n hX dX5_parse_42 rfl ?_
        refine r_iconst (v := nI 1) hX dX5_parse_43 (by decide) ?_
        refine r_iV1 hX dX5_parse_44 IX5_readPlace ml_X5_61 rfl (LX5_s hp1) rfl (t_X5_readPlace1 (M := wI (uR M p 4 (some b)) i1) hp1 (hS1.pt hTi) hgf hS1.1 hWe he hB9 (hS1.pi hPi)) (by decide) (by decide) (by decide) (by decide) rfl (Nat.le_of_ble_eq_true rfl) (fun i2 h2 => ?_)
        show J G base X _ _ (wI (uR M p 4 (some b)) i2) _ _ _
        
        refine r_istore4 hX dX5_parse_47 rfl ?_
        refine r_goto (tgt := 169) hX dX5_parse_49 (by decide) ?_
        exact rest i2 _ _ h2 (fun _ => by rw [hL, if_pos c39]; exact ⟨rfl, rfl⟩) (fun z => by rw [hL, if_pos c39]; exact congrArg (fun x : Q4 => x.2.2) (edM_f z))
    · refine r_iconst (v := 1) hX dX5_parse_31 (by decide) ?_
      refine r_ireturn hX rfl rfl dX5_parse_32 (by decide) (by decide) ?_
      have hz : Z = (n, rd, (B, B, f)) := by
        rw [← hZ1]
        exact ldZ_off (fun z => by have : B < e := z.2; omega)
      have hPi1 := hS1.pi hPi
      refine ⟨i1, rfl, by rw [hz, if_pos hgf], fun x hx => (hS1.2.1 x (by omega)).trans (g1 x hx), by rw [hz]; exact hS1.1.2.2.1, by rw [hz]; exact hS1.1.2.2.2, fun _ => ?_⟩
      rw [hz]
      exact ⟨hPi1.1, hPi1.2.1.rs⟩
  · dsimp only at hi ih
    obtain ⟨g1, g2, g3, hgf, g5, hPi, hZ1, hj1⟩ := hi
    replace hgf : f.1 = -1 := hgf
    replace g5 : x ≤ e := g5
    generalize hxB : eo (blB u) e x = B at *
    have hBle : B ≤ e := by rw [← hxB]; exact eo_le g5
    have hBB : eo (blB u) e B = B := by rw [← hxB]; exact eo_eo g5
    have hbq : blQ u e (x, st, f) = (B, B, f) := by
      rw [bl_1 (q := (x, st, f)) hgf]
      show (eo (blB u) e x, eo (blB u) e x, f) = _
      rw [hxB]
    rw [hbq] at hZ1 hj1
    have hjB : j ≤ B := hj1
    have hB9 : B < 100000 := by omega
    generalize hWW : eo (lwB u) e B = W at *
    have hWe : W ≤ e := by rw [← hWW]; exact eo_le hBle
    have hWg : B ≤ W := by rw [← hWW]; exact eo_ge
    have hTi : PT (wI (uR M p 4 (some b)) i) p b N e u := ⟨⟨by show mR (uR M p 4 (some b)) p 4 = some b; rw [mR_uR, if_pos rfl, if_pos rfl], hb, heN, hN9, hbp⟩, fun k hk => ⟨(hu k hk).1, (congrFun (g1 b (by omega)) k).trans (hu k hk).2⟩, g2⟩
    show J G base X 0 0 (wI (uR M p 4 (some b)) i) 8 [some (.ref p), some (.ref b), some (.int (nI e)), some (.int (nI j)), some (.int x4)] []
    refine r_iload_n hX dX5_parse_8 rfl ?_
    refine r_aload_n hX dX5_parse_9 rfl ?_
    refine rn_geti (v := nI e) hX dX5_parse_10 fl_X5_36 rfl (LX5_s hp1) g2 ?_
    refine rn_icmp_gt (tgt := 189) hX dX5_parse_13 (by decide) rfl rfl (by omega) (by omega) (fun c13 => by omega) (fun c13 => ?_)
    refine r_aload_n hX dX5_parse_16 rfl ?_
    refine r_iV0 hX dX5_parse_17 IX5_readWord ml_X5_52 rfl (LX5_s hp1) rfl (t_X5_readWord (M := wI (uR M p 4 (some b)) i) hp1 hTi g3 g5 he) (by decide) (by decide) (by decide) (by decide) rfl (Nat.le_of_ble_eq_true rfl) (fun i1 h1 => ?_)
    rw [hxB, hWW] at h1
    show J G base X _ _ (wI (uR M p 4 (some b)) i1) _ _ _
    have hS1 : cS (wI (uR M p 4 (some b)) i) p (W, B, f) i1 := h1
    refine r_aload_n hX dX5_parse_20 rfl ?_
    refine rn_geti (v := nI B) hX dX5_parse_21 fl_X5_42 rfl (LX5_s hp1) hS1.1.2.1 ?_
    refine r_aload_n hX dX5_parse_24 rfl ?_
    refine rn_geti (v := nI e) hX dX5_parse_25 fl_X5_36 rfl (LX5_s hp1) ((hS1.2.2 5 (by omega) (by omega) (by omega) (by omega)).trans g2) ?_
    refine rn_icmp_lt (tgt := 33) hX dX5_parse_28 (by decide) rfl rfl (by omega) (by omega) (fun c28 => ?_) (fun c28 => ?_)
    · have hBe : B < e := by omega
      have hZ2 : ldZ u e (900 - j) (lnX n rd u e (B, B, f)).1 (lnX n rd u e (B, B, f)).2.1 (edQ u e (lnX n rd u e (B, B, f)).2.2) = Z := by
        have z := hZ1
        rw [show 901 - j = (900 - j) + 1 by omega, ldZ_on ⟨hgf, hBe⟩] at z
        exact z
      have hZb : ¬ (edM u e (lnX n rd u e (B, B, f)).2.2).2.2.1 = -1 → Z.2.2.2.2 = (edM u e (lnX n rd u e (B, B, f)).2.2).2.2 := by
        intro hb
        have e2 : (edQ u e (lnX n rd u e (B, B, f)).2.2).2.2 = (edM u e (lnX n rd u e (B, B, f)).2.2).2.2 := by
          unfold edQ
          rw [blQ_f]
        rw [← hZ2, ldZ_off (fun z => hb (by rw [← e2]; exact z.1))]
        exact e2
      have hL := lnC (n := n) (rd := rd) (u := u) (e := e) (B := B) (f := f) hgf hBB
      rw [hWW] at hL
      have hK : ∀ w, (W - B = (txw w).length ∧ ∀ j, j < (txw w).length → u (B + j) = (txw w).getD j 0) ↔ hasW u e w (B, B, f) = true := fun w => by
        have z := hasW_i (u := u) (e := e) (w := w) (f := f) hgf hBB
        rw [hWW] at z
        exact z
      have rest : ∀ (i2 : Nat → Nat → Int32) (n' : Nat → Int32) (r : Q4), pZ (wI (uR M p 4 (some b)) i1) p n' r i2 → (r.2.2.1 = -1 → n' = (lnX n rd u e (B, B, f)).1 ∧ r = (lnX n rd u e (B, B, f)).2.2) → (¬ r.2.2.1 = -1 → (edM u e (lnX n rd u e (B, B, f)).2.2).2.2 = r.2.2) → J G base X 0 0 (wI (uR M p 4 (some b)) i2) 169 [some (.ref p), some (.ref b), some (.int (nI e)), some (.int (nI j)), some (.int (if r.2.2.1 = -1 then 1 else 0))] [] := by
        intro i2 n' r hz h1 h2
        refine r_iload hX dX5_parse_169 rfl ?_
        refine rb_if_eq (tgt := 181) hX dX5_parse_171 (by decide) rfl (fun c171 => ?_) (fun c171 => ?_)
        · refine r_iconst (v := 0) hX dX5_parse_181 (by decide) ?_
          refine r_ireturn hX rfl rfl dX5_parse_182 (by decide) (by decide) ?_
          have hr2 : Z.2.2.2.2 = r.2.2 := by
            have z := h2 c171
            rw [← z]
            exact hZb (by rw [z]; exact c171)
          obtain ⟨z1, z2, ⟨at_, st2, z3, z4⟩, z5⟩ := hz
          have hzf : ¬ Z.2.2.2.2.1 = -1 := by rw [hr2]; exact c171
          exact ⟨i2, rfl, by rw [if_neg hzf]; first | done | rfl, fun x hx => (z1 x hx).trans ((hS1.2.1 x (by omega)).trans (g1 x hx)), by rw [hr2]; exact z3.2.2.1, by rw [hr2]; exact z3.2.2.2, fun z => absurd z hzf⟩
        · obtain ⟨z1, z2, ⟨at_, st2, z3, z4⟩, z5⟩ := hz
          have hPn := z5 c171
          have hat := z4 c171
          rw [hat] at z3
          have hlr : lnX n rd u e (B, B, f) = (n', (lnX n rd u e (B, B, f)).2.1, r) := by rw [(h1 c171).1, (h1 c171).2]
          have hr1 : r.1 ≤ e := by
            rw [(h1 c171).2]
            exact lnX_le (q := (B, B, f)) (by show B ≤ e; omega) he
          have hrB : B ≤ r.1 := by
            rw [(h1 c171).2]
            exact lnX_ge (q := (B, B, f))
          have hed : edM u e (r.1, st2, r.2.2) = edM u e r := edM_st c171
          have hT2 : PT (wI (uR M p 4 (some b)) i2) p b N e u := ⟨hTi.1, fun k hk => ⟨(hTi.2.1 k hk).1, (congrFun (z1 b (by omega)) k).trans ((hS1.pt hTi).2.1 k hk).2⟩, z2.trans (hS1.pt hTi).2.2⟩
          refine r_aload_n hX dX5_parse_174 rfl ?_
          refine r_iV0 hX dX5_parse_175 IX5_readSemicolon ml_X5_95 rfl (LX5_s hp1) rfl (t_X5_readSemicolon (M := wI (uR M p 4 (some b)) i2) hp1 hT2 (q := (r.1, st2, r.2.2)) c171 z3 hr1 he) (by decide) (by decide) (by decide) (by decide) rfl (Nat.le_of_ble_eq_true rfl) (fun i3 h3 => ?_)
          show J G base X _ _ (wI (uR M p 4 (some b)) i3) _ _ _
          
          refine rb_if_ne (tgt := 183) hX dX5_parse_178 (by decide) rfl (fun c178 => ?_) (fun c178 => ?_)
          · refine rn_iinc3 hX dX5_parse_183 rfl rfl ?_
            refine r_goto (tgt := 8) hX dX5_parse_186 (by decide) ?_
            obtain ⟨at3, st3, y1, y2⟩ := h3
            have hgE : (edM u e r).2.2.1 = -1 := by rw [← hed]; exact c178
            have hat3 : at3 = (edM u e r).1 + 1 := by rw [y2 c178, ← hed]; rfl
            have hf3 : (scQ u e (r.1, st2, r.2.2)).2.2 = (edM u e r).2.2 := by rw [← hed]; rfl
            rw [hat3, hf3] at y1
            have hq9 : blQ u e ((edM u e r).1 + 1, st3, (edM u e r).2.2) = edQ u e r := by
              unfold edQ
              rw [bl_1 (q := ((edM u e r).1 + 1, st3, (edM u e r).2.2)) hgE, bl_1 (q := ((edM u e r).1 + 1, (edM u e r).2)) hgE]
            have hgQ : (edQ u e r).2.2.1 = -1 := by rw [← hq9, blQ_f]; exact hgE
            obtain ⟨-, o1, o2, -⟩ := ed_ok hr1 he hgQ
            have hE1 := (edM_ok hr1 he hgE).1
            refine ih (by omega) (i3, n', (lnX n rd u e (B, B, f)).2.1, ((edM u e r).1 + 1, st3, (edM u e r).2.2), some (if r.2.2.1 = -1 then 1 else 0)) ⟨fun x hx => (y1.2.1 x (by omega)).trans ((z1 x hx).trans ((hS1.2.1 x (by omega)).trans (g1 x hx))), ?_, y1.1, hgE, by show (edM u e r).1 + 1 ≤ e; omega, y1.pi hPn, ?_, ?_⟩
            · exact (y1.2.2 5 (by omega) (by omega) (by omega) (by omega)).trans (z2.trans ((hS1.2.2 5 (by omega) (by omega) (by omega) (by omega)).trans g2))
            · rw [hq9]
              rw [hlr] at hZ2
              show ldZ u e (901 - (j + 1)) n' (lnX n rd u e (B, B, f)).2.1 (edQ u e r) = Z
              rw [show 901 - (j + 1) = 900 - j by omega]
              exact hZ2
            · rw [hq9]
              omega
          · refine r_iconst (v := 0) hX dX5_parse_181 (by decide) ?_
            refine r_ireturn hX rfl rfl dX5_parse_182 (by decide) (by decide) ?_
            have hzb : ¬ (edM u e (lnX n rd u e (B, B, f)).2.2).2.2.1 = -1 := fun z => c178 (by show (edM u e (r.1, st2, r.2.2)).2.2.1 = -1; rw [hed, (h1 c171).2]; exact z)
            have hr2 : Z.2.2.2.2 = (edM u e (r.1, st2, r.2.2)).2.2 := by
              rw [hed, (h1 c171).2]
              exact hZb hzb
            have hzf : ¬ Z.2.2.2.2.1 = -1 := by rw [hr2]; exact c178
            obtain ⟨at3, st3, y1, y2⟩ := h3
            exact ⟨i3, rfl, by rw [if_neg hzf]; first | done | rfl, fun x hx => (y1.2.1 x (by omega)).trans ((z1 x hx).trans ((hS1.2.1 x (by omega)).trans (g1 x hx))), by rw [hr2]; exact y1.1.2.2.1, by rw [hr2]; exact y1.1.2.2.2, fun z => absurd z hzf⟩
      refine r_aload_n hX dX5_parse_33 rfl ?_
      refine r_ldcS (i := 0) hX dX5_parse_34 (show (RX5, 55, 0) ∈ txR by simp [txR]) ?_
      refine r_cV1 hX dX5_parse_36 IX5_isWord ml_X5_57 rfl (LX5_s hp1) rfl (t_X5_isWord (M := wI (uR M p 4 (some b)) i1) hp1 (hS1.pt hTi) (q := (W, B, f)) hS1.1 hWg hWe he (w := 0) (by omega)) (by decide) (by decide) (by decide) (by decide) rfl (Nat.le_of_ble_eq_true rfl) ?_
      rw [show (if ((W, B, f) : Q4).1 - ((W, B, f) : Q4).2.1 = (txw 0).length ∧ (∀ j, j < (txw 0).length → u (((W, B, f) : Q4).2.1 + j) = (txw 0).getD j 0) then (1 : Int32) else 0) = _ from itec (hK 0)]
      refine rb_if_eq (tgt := 52) hX dX5_parse_39 (by decide) rfl (fun c39 => ?_) (fun c39 => ?_)
      · refine r_aload_n hX dX5_parse_52 rfl ?_
        refine r_ldcS (i := 1) hX dX5_parse_53 (show (RX5, 65, 1) ∈ txR by simp [txR]) ?_
        refine r_cV1 hX dX5_parse_55 IX5_isWord ml_X5_57 rfl (LX5_s hp1) rfl (t_X5_isWord (M := wI (uR M p 4 (some b)) i1) hp1 (hS1.pt hTi) (q := (W, B, f)) hS1.1 hWg hWe he (w := 1) (by omega)) (by decide) (by decide) (by decide) (by decide) rfl (Nat.le_of_ble_eq_true rfl) ?_
        rw [show (if ((W, B, f) : Q4).1 - ((W, B, f) : Q4).2.1 = (txw 1).length ∧ (∀ j, j < (txw 1).length → u (((W, B, f) : Q4).2.1 + j) = (txw 1).getD j 0) then (1 : Int32) else 0) = _ from itec (hK 1)]
        refine rb_if_eq (tgt := 71) hX dX5_parse_58 (by decide) rfl (fun c58 => ?_) (fun c58 => ?_)
        · refine r_aload_n hX dX5_parse_71 rfl ?_
          refine r_ldcS (i := 2) hX dX5_parse_72 (show (RX5, 67, 2) ∈ txR by simp [txR]) ?_
          refine r_cV1 hX dX5_parse_74 IX5_isWord ml_X5_57 rfl (LX5_s hp1) rfl (t_X5_isWord (M := wI (uR M p 4 (some b)) i1) hp1 (hS1.pt hTi) (q := (W, B, f)) hS1.1 hWg hWe he (w := 2) (by omega)) (by decide) (by decide) (by decide) (by decide) rfl (Nat.le_of_ble_eq_true rfl) ?_
          rw [show (if ((W, B, f) : Q4).1 - ((W, B, f) : Q4).2.1 = (txw 2).length ∧ (∀ j, j < (txw 2).length → u (((W, B, f) : Q4).2.1 + j) = (txw 2).getD j 0) then (1 : Int32) else 0) = _ from itec (hK 2)]
          refine rb_if_eq (tgt := 89) hX dX5_parse_77 (by decide) rfl (fun c77 => ?_) (fun c77 => ?_)
          · refine r_aload_n hX dX5_parse_89 rfl ?_
            refine r_ldcS (i := 3) hX dX5_parse_90 (show (RX5, 73, 3) ∈ txR by simp [txR]) ?_
            refine r_cV1 hX dX5_parse_92 IX5_isWord ml_X5_57 rfl (LX5_s hp1) rfl (t_X5_isWord (M := wI (uR M p 4 (some b)) i1) hp1 (hS1.pt hTi) (q := (W, B, f)) hS1.1 hWg hWe he (w := 3) (by omega)) (by decide) (by decide) (by decide) (by decide) rfl (Nat.le_of_ble_eq_true rfl) ?_
            rw [show (if ((W, B, f) : Q4).1 - ((W, B, f) : Q4).2.1 = (txw 3).length ∧ (∀ j, j < (txw 3).length → u (((W, B, f) : Q4).2.1 + j) = (txw 3).getD j 0) then (1 : Int32) else 0) = _ from itec (hK 3)]
            refine rb_if_eq (tgt := 122) hX dX5_parse_95 (by decide) rfl (fun c95 => ?_) (fun c95 => ?_)
            · refine r_aload_n hX dX5_parse_122 rfl ?_
              refine r_ldcS (i := 4) hX dX5_parse_123 (show (RX5, 81, 4) ∈ txR by simp [txR]) ?_
              refine r_cV1 hX dX5_parse_125 IX5_isWord ml_X5_57 rfl (LX5_s hp1) rfl (t_X5_isWord (M := wI (uR M p 4 (some b)) i1) hp1 (hS1.pt hTi) (q := (W, B, f)) hS1.1 hWg hWe he (w := 4) (by omega)) (by decide) (by decide) (by decide) (by decide) rfl (Nat.le_of_ble_eq_true rfl) ?_
              rw [show (if ((W, B, f) : Q4).1 - ((W, B, f) : Q4).2.1 = (txw 4).length ∧ (∀ j, j < (txw 4).length → u (((W, B, f) : Q4).2.1 + j) = (txw 4).getD j 0) then (1 : Int32) else 0) = _ from itec (hK 4)]
              refine rb_if_eq (tgt := 140) hX dX5_parse_128 (by decide) rfl (fun c128 => ?_) (fun c128 => ?_)
              · refine r_aload_n hX dX5_parse_140 rfl ?_
                refine r_ldcS (i := 5) hX dX5_parse_141 (show (RX5, 86, 5) ∈ txR by simp [txR]) ?_
                refine r_cV1 hX dX5_parse_143 IX5_isWord ml_X5_57 rfl (LX5_s hp1) rfl (t_X5_isWord (M := wI (uR M p 4 (some b)) i1) hp1 (hS1.pt hTi) (q := (W, B, f)) hS1.1 hWg hWe he (w := 5) (by omega)) (by decide) (by decide) (by decide) (by decide) rfl (Nat.le_of_ble_eq_true rfl) ?_
                rw [show (if ((W, B, f) : Q4).1 - ((W, B, f) : Q4).2.1 = (txw 5).length ∧ (∀ j, j < (txw 5).length → u (((W, B, f) : Q4).2.1 + j) = (txw 5).getD j 0) then (1 : Int32) else 0) = _ from itec (hK 5)]
                refine rb_if_eq (tgt := 158) hX dX5_parse_146 (by decide) rfl (fun c146 => ?_) (fun c146 => ?_)
                · refine r_aload_n hX dX5_parse_158 rfl ?_
                  refine r_iconst (v := nI 1) hX dX5_parse_159 (by decide) ?_
                  refine r_aload_n hX dX5_parse_160 rfl ?_
                  refine rn_geti (v := nI B) hX dX5_parse_161 fl_X5_42 rfl (LX5_s hp1) hS1.1.2.1 ?_
                  refine r_iV2 hX dX5_parse_164 IX5_fail ml_X5_91 rfl (LX5_s hp1) rfl (t_X5_fail (M := wI (uR M p 4 (some b)) i1) hp1 hS1.1 (k := 1) (f := B)) (by decide) (by decide) (by decide) (by decide) rfl (Nat.le_of_ble_eq_true rfl) (fun i2 h2 => ?_)
                  show J G base X _ _ (wI (uR M p 4 (some b)) i2) _ _ _
                  
                  refine r_istore4 hX dX5_parse_167 rfl ?_
                  have z := rest i2 n (B, B, nI B, nI 1) (pZ.bad h2 rfl (nI_m1 (by show B < 100000; omega))) (fun z => absurd z (nI_m1 (by show B < 100000; omega))) (fun z => by rw [hL, if_neg c39, if_neg c58, if_neg c77, if_neg c95, if_neg c128, if_neg c146]; exact congrArg (fun x : Q4 => x.2.2) (edM_f z))
                  rw [if_neg (nI_m1 (by show B < 100000; omega))] at z
                  exact z
                · refine r_aload_n hX dX5_parse_149 rfl ?_
                  refine r_iV0 hX dX5_parse_150 IX5_readLetter ml_X5_88 rfl (LX5_s hp1) rfl (t_X5_readLetter (M := wI (uR M p 4 (some b)) i1) hp1 (hS1.pt hTi) hgf hS1.1 hWe he hB9 (hS1.pi hPi)) (by decide) (by decide) (by decide) (by decide) rfl (Nat.le_of_ble_eq_true rfl) (fun i2 h2 => ?_)
                  show J G base X _ _ (wI (uR M p 4 (some b)) i2) _ _ _
                  
                  refine r_istore4 hX dX5_parse_153 rfl ?_
                  refine r_goto (tgt := 169) hX dX5_parse_155 (by decide) ?_
                  obtain ⟨lx1, lx2⟩ := ltX_ok (n := n) (u := u) (e := e) (q := (W, B, f)) he
                  exact rest i2 _ _ h2 (fun z => by rw [hL, if_neg c39, if_neg c58, if_neg c77, if_neg c95, if_neg c128, if_pos c146]; exact ⟨rfl, lx1 z⟩) (fun z => by rw [hL, if_neg c39, if_neg c58, if_neg c77, if_neg c95, if_neg c128, if_pos c146]; exact lx2 hgf hB9 hWe z)
              · refine r_aload_n hX dX5_parse_131 rfl ?_
                refine r_iV0 hX dX5_parse_132 IX5_readCapacity ml_X5_83 rfl (LX5_s hp1) rfl (t_X5_readCapacity (M := wI (uR M p 4 (some b)) i1) hp1 (hS1.pt hTi) hgf hS1.1 hWe he hB9 (hS1.pi hPi)) (by decide) (by decide) (by decide) (by decide) rfl (Nat.le_of_ble_eq_true rfl) (fun i2 h2 => ?_)
                show J G base X _ _ (wI (uR M p 4 (some b)) i2) _ _ _
                
                refine r_istore4 hX dX5_parse_135 rfl ?_
                refine r_goto (tgt := 169) hX dX5_parse_137 (by decide) ?_
                exact rest i2 _ _ h2 (fun _ => by rw [hL, if_neg c39, if_neg c58, if_neg c77, if_neg c95, if_pos c128]; exact ⟨rfl, rfl⟩) (fun z => by rw [hL, if_neg c39, if_neg c58, if_neg c77, if_neg c95, if_pos c128]; exact congrArg (fun x : Q4 => x.2.2) (edM_f z))
            · refine r_aload_n hX dX5_parse_98 rfl ?_
              refine r_iV0 hX dX5_parse_99 IX5_readDays ml_X5_75 rfl (LX5_s hp1) rfl (t_X5_readDays (M := wI (uR M p 4 (some b)) i1) hp1 (hS1.pt hTi) hgf hS1.1 hWe he hB9 (hS1.pi hPi)) (by decide) (by decide) (by decide) (by decide) rfl (Nat.le_of_ble_eq_true rfl) (fun i2 h2 => ?_)
              show J G base X _ _ (wI (uR M p 4 (some b)) i2) _ _ _
              
              refine rb_if_eq (tgt := 116) hX dX5_parse_102 (by decide) rfl (fun c102 => ?_) (fun c102 => ?_)
              · refine r_iconst (v := nI 0) hX dX5_parse_116 (by decide) ?_
                refine r_istore4 hX dX5_parse_117 rfl ?_
                refine r_goto (tgt := 169) hX dX5_parse_119 (by decide) ?_
                have hgd : ¬ (rdD n u e (W, B, f)).2.2.1 = -1 := c102
                have z := rest i2 n _ (pZ.routeB (n' := n) (rd := rd) h2 hgd h2.1) (fun z => absurd z (by rw [rtR_bad hgd]; exact hgd)) (fun z => by rw [hL, if_neg c39, if_neg c58, if_neg c77, if_pos c95]; exact congrArg (fun x : Q4 => x.2.2) (edM_f z))
                rw [if_neg (show ¬ (rtR n rd ((W, B, f) : Q4).2.1 u e (W, B, f)).2.2.1 = -1 by rw [rtR_bad hgd]; exact hgd)] at z
                exact z
              · have hgd : (rdD n u e (W, B, f)).2.2.1 = -1 := c102
                obtain ⟨d1, d2, -, d4⟩ := id h2
                obtain ⟨k1, k2, k3, k4, k5, k6, k7⟩ := d4 hgd
                obtain ⟨-, nw1, nw2⟩ := nuW_hi (u := u) (lo := 1) (hi := 127) (q := (W, B, f)) hWe he k2
                have hP1 : PI i1 p n := hS1.pi hPi
                have hTb := hP1.2.2.2.2.1
                have hb0 := hTb.1.2
                have hb1 := hTb.2.1.2
                have hT2 : PT (wI (uR M p 4 (some b)) i2) p b N e u := ⟨hTi.1, fun k hk => ⟨(hTi.2.1 k hk).1, (congrFun (d1 b (by omega) (by omega)) k).trans ((hS1.pt hTi).2.1 k hk).2⟩, d2.trans (hS1.pt hTi).2.2⟩
                have hTT2 : TT (mI (wI (uR M p 4 (some b)) i2)) (p + 1) (rcN n (nv n 1 - 1) (nuW u e 1 127 (W, B, f)) (upd rd 0 0) 7) := by
                  refine TT.stop0 ?_ hTb.2.2.l6 hb0 hb1 (by omega) upd_s k6
                  exact ⟨by rw [show mI (wI (uR M p 4 (some b)) i2) (p + 1) = i1 (p + 1) from d1 _ (by omega) (by omega)]; exact hP1.1.1, by rw [show mI (wI (uR M p 4 (some b)) i2) (p + 1) = i1 (p + 1) from d1 _ (by omega) (by omega)]; exact hP1.1.2.1, by rw [show mI (wI (uR M p 4 (some b)) i2) (p + 1) = i1 (p + 1) from d1 _ (by omega) (by omega)]; exact hP1.1.2.2.1, fun k hk => by rw [show mI (wI (uR M p 4 (some b)) i2) (p + 1 + 1) = i1 (p + 1 + 1) from d1 _ (by omega) (by omega)]; exact hP1.1.2.2.2.1 k hk, fun k hk => by rw [show mI (wI (uR M p 4 (some b)) i2) (p + 1 + 2) = i1 (p + 1 + 2) from d1 _ (by omega) (by omega)]; exact hP1.1.2.2.2.2.1 k hk, fun h hh q hq => by rw [show mI (wI (uR M p 4 (some b)) i2) (p + 1 + 4) = i1 (p + 1 + 4) from d1 _ (by omega) (by omega)]; exact hP1.1.2.2.2.2.2.1 h hh q hq, fun h hh => by rw [show mI (wI (uR M p 4 (some b)) i2) (p + 1 + 5) = i1 (p + 1 + 5) from d1 _ (by omega) (by omega)]; exact hP1.1.2.2.2.2.2.2 h hh⟩
                generalize hZr : stZ n u e 7 0 0 (upd rd 0 0) (nuQ u e 1 127 (W, B, f)) = Zr
                refine r_aload_n hX dX5_parse_105 rfl ?_
                refine r_iV0 hX dX5_parse_106 IX5_readStops ml_X5_78 rfl (LX5_s hp1) rfl (t_X5_readStops (M := wI (uR M p 4 (some b)) i2) hp1 hT2 (q := nuQ u e 1 127 (W, B, f)) k2 k3 (nuQ_le hWe) he (n := n) (C := nv n 1 - 1) (V := nuW u e 1 127 (W, B, f)) (by omega) (by omega) k4 (rd := upd rd 0 0) upd_s hTT2 hTb.1 hTb.2.1 hTb.2.2.l6 hZr) (by decide) (by decide) (by decide) (by decide) rfl (Nat.le_of_ble_eq_true rfl) (fun i5 h5 => ?_)
                show J G base X _ _ (wI (uR M p 4 (some b)) i5) _ _ _
                rw [← hZr] at h5
                refine rb_if_eq (tgt := 116) hX dX5_parse_109 (by decide) rfl (fun c109 => ?_) (fun c109 => ?_)
                · refine r_iconst (v := nI 0) hX dX5_parse_116 (by decide) ?_
                  refine r_istore4 hX dX5_parse_117 rfl ?_
                  refine r_goto (tgt := 169) hX dX5_parse_119 (by decide) ?_
                  have hPZ := pZ.route (M := wI (uR M p 4 (some b)) i1) hgf hWe he hB9 (hS1.pi hPi) h2 hgd h5
                  have hr9 : rtR n rd B u e (W, B, f) = Zr.2 := (rtR_ok (rd := rd) hgf hB9 k5 k1 k2).1.trans (by rw [hZr])
                  have z := rest i5 _ _ hPZ (fun _ => by rw [hL, if_neg c39, if_neg c58, if_neg c77, if_pos c95]; exact ⟨rfl, rfl⟩) (fun z => by rw [hL, if_neg c39, if_neg c58, if_neg c77, if_pos c95]; exact congrArg (fun x : Q4 => x.2.2) (edM_f z))
                  rw [if_neg (show ¬ (rtR n rd ((W, B, f) : Q4).2.1 u e (W, B, f)).2.2.1 = -1 by show ¬ (rtR n rd B u e (W, B, f)).2.2.1 = -1; rw [hr9]; exact c109)] at z
                  exact z
                · refine r_iconst (v := nI 1) hX dX5_parse_112 (by decide) ?_
                  refine r_goto (tgt := 117) hX dX5_parse_113 (by decide) ?_
                  refine r_istore4 hX dX5_parse_117 rfl ?_
                  refine r_goto (tgt := 169) hX dX5_parse_119 (by decide) ?_
                  have hPZ := pZ.route (M := wI (uR M p 4 (some b)) i1) hgf hWe he hB9 (hS1.pi hPi) h2 hgd h5
                  have hr9 : rtR n rd B u e (W, B, f) = Zr.2 := (rtR_ok (rd := rd) hgf hB9 k5 k1 k2).1.trans (by rw [hZr])
                  have z := rest i5 _ _ hPZ (fun _ => by rw [hL, if_neg c39, if_neg c58, if_neg c77, if_pos c95]; exact ⟨rfl, rfl⟩) (fun z => by rw [hL, if_neg c39, if_neg c58, if_neg c77, if_pos c95]; exact congrArg (fun x : Q4 => x.2.2) (edM_f z))
                  rw [if_pos (show (rtR n rd ((W, B, f) : Q4).2.1 u e (W, B, f)).2.2.1 = -1 by show (rtR n rd B u e (W, B, f)).2.2.1 = -1; rw [hr9]; exact c109)] at z
                  exact z
          · refine r_aload_n hX dX5_parse_80 rfl ?_
            refine r_iV0 hX dX5_parse_81 IX5_readCarrier ml_X5_69 rfl (LX5_s hp1) rfl (t_X5_readCarrier (M := wI (uR M p 4 (some b)) i1) hp1 (hS1.pt hTi) hgf hS1.1 hWe he hB9 (hS1.pi hPi)) (by decide) (by decide) (by decide) (by decide) rfl (Nat.le_of_ble_eq_true rfl) (fun i2 h2 => ?_)
            show J G base X _ _ (wI (uR M p 4 (some b)) i2) _ _ _
            
            refine r_istore4 hX dX5_parse_84 rfl ?_
            refine r_goto (tgt := 169) hX dX5_parse_86 (by decide) ?_
            exact rest i2 _ _ h2 (fun _ => by rw [hL, if_neg c39, if_neg c58, if_pos c77]; exact ⟨rfl, rfl⟩) (fun z => by rw [hL, if_neg c39, if_neg c58, if_pos c77]; exact congrArg (fun x : Q4 => x.2.2) (edM_f z))
        · refine r_aload_n hX dX5_parse_61 rfl ?_
          refine r_iconst (v := nI 0) hX dX5_parse_62 (by decide) ?_
          refine r_iV1 hX dX5_parse_63 IX5_readPlace ml_X5_61 rfl (LX5_s hp1) rfl (t_X5_readPlace0 (M := wI (uR M p 4 (some b)) i1) hp1 (hS1.pt hTi) hgf hS1.1 hWe he hB9 (hS1.pi hPi)) (by decide) (by decide) (by decide) (by decide) rfl (Nat.le_of_ble_eq_true rfl) (fun i2 h2 => ?_)
          show J G base X _ _ (wI (uR M p 4 (some b)) i2) _ _ _
          
          refine r_istore4 hX dX5_parse_66 rfl ?_
          refine r_goto (tgt := 169) hX dX5_parse_68 (by decide) ?_
          exact rest i2 _ _ h2 (fun _ => by rw [hL, if_neg c39, if_pos c58]; exact ⟨rfl, rfl⟩) (fun z => by rw [hL, if_neg c39, if_pos c58]; exact congrArg (fun x : Q4 => x.2.2) (edM_f z))
      · refine r_aload_n hX dX5_parse_42 rfl ?_
        refine r_iconst (v := nI 1) hX dX5_parse_43 (by decide) ?_
        refine r_iV1 hX dX5_parse_44 IX5_readPlace ml_X5_61 rfl (LX5_s hp1) rfl (t_X5_readPlace1 (M := wI (uR M p 4 (some b)) i1) hp1 (hS1.pt hTi) hgf hS1.1 hWe he hB9 (hS1.pi hPi)) (by decide) (by decide) (by decide) (by decide) rfl (Nat.le_of_ble_eq_true rfl) (fun i2 h2 => ?_)
        show J G base X _ _ (wI (uR M p 4 (some b)) i2) _ _ _
        
        refine r_istore4 hX dX5_parse_47 rfl ?_
        refine r_goto (tgt := 169) hX dX5_parse_49 (by decide) ?_
        exact rest i2 _ _ h2 (fun _ => by rw [hL, if_pos c39]; exact ⟨rfl, rfl⟩) (fun z => by rw [hL, if_pos c39]; exact congrArg (fun x : Q4 => x.2.2) (edM_f z))
    · refine r_iconst (v := 1) hX dX5_parse_31 (by decide) ?_
      refine r_ireturn hX rfl rfl dX5_parse_32 (by decide) (by decide) ?_
      have hz : Z = (n, rd, (B, B, f)) := by
        rw [← hZ1]
        exact ldZ_off (fun z => by have : B < e := z.2; omega)
      have hPi1 := hS1.pi hPi
      refine ⟨i1, rfl, by rw [hz, if_pos hgf], fun x hx => (hS1.2.1 x (by omega)).trans (g1 x hx), by rw [hz]; exact hS1.1.2.2.1, by rw [hz]; exact hS1.1.2.2.2, fun _ => ?_⟩
      rw [hz]
      exact ⟨hPi1.1, hPi1.2.1.rs⟩
