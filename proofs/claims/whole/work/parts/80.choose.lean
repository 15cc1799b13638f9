variable {G : GG} {base : Nat}
/-- the class's choice among the carriers: the best, its arrival -/
def chP (g : Nat → Bool) (ld : Nat → Int32) (cap : Int32) (ar sk : Nat → Int32) : Nat → Int32 × Int32
  | 0 => (-1, -1)
  | c + 1 => if g c = true ∧ ld c < cap ∧ ¬ ar c = -1 ∧ ((chP g ld cap ar sk c).1 = -1 ∨ ar c < (chP g ld cap ar sk c).2 ∨ (ar c = (chP g ld cap ar sk c).2 ∧ sk c < sk (chP g ld cap ar sk c).1.toNatClampNeg)) then (nI c, ar c) else chP g ld cap ar sk c
def chE (g : Nat → Bool) (ld : Nat → Int32) (cap : Int32) (ar : Nat → Int32) (c : Nat) : Prop := g c = true ∧ ld c < cap ∧ ¬ ar c = -1
theorem chP_yes {g : Nat → Bool} {ld : Nat → Int32} {cap : Int32} {ar sk : Nat → Int32} {c : Nat} (h1 : g c = true) (h2 : ld c < cap) (h3 : ¬ ar c = -1) (h4 : (chP g ld cap ar sk c).1 = -1 ∨ ar c < (chP g ld cap ar sk c).2 ∨ (ar c = (chP g ld cap ar sk c).2 ∧ sk c < sk (chP g ld cap ar sk c).1.toNatClampNeg)) : chP g ld cap ar sk (c + 1) = (nI c, ar c) := by
  conv => lhs; unfold chP
  rw [if_pos ⟨h1, h2, h3, h4⟩]
theorem chP_no {g : Nat → Bool} {ld : Nat → Int32} {cap : Int32} {ar sk : Nat → Int32} {c : Nat} (h : ¬ (g c = true ∧ ld c < cap ∧ ¬ ar c = -1 ∧ ((chP g ld cap ar sk c).1 = -1 ∨ ar c < (chP g ld cap ar sk c).2 ∨ (ar c = (chP g ld cap ar sk c).2 ∧ sk c < sk (chP g ld cap ar sk c).1.toNatClampNeg)))) : chP g ld cap ar sk (c + 1) = chP g ld cap ar sk c := by
  conv => lhs; unfold chP
  rw [if_neg h]
/-- in front of: earlier, or as early with a lower sack -/
def pf (x y : Int32) (i j : Int) : Prop := x.toInt < y.toInt ∨ (x.toInt = y.toInt ∧ i ≤ j)
theorem i_ltI {x y : Int32} : x < y ↔ x.toInt < y.toInt := Int32.lt_iff_toInt_lt
theorem i_eqI {x y : Int32} : x = y ↔ x.toInt = y.toInt := Int32.toInt_inj.symm
theorem chP_spec {g : Nat → Bool} {ld : Nat → Int32} {cap : Int32} {ar sk : Nat → Int32} : ∀ j, j ≤ 5 → (chP g ld cap ar sk j = (-1, -1) ∧ ∀ c, c < j → ¬ chE g ld cap ar c) ∨ ∃ c, c < j ∧ chP g ld cap ar sk j = (nI c, ar c) ∧ chE g ld cap ar c ∧ ∀ d, d < j → chE g ld cap ar d → pf (ar c) (ar d) (sk c).toInt (sk d).toInt
  | 0, _ => Or.inl ⟨rfl, fun c h => absurd h (Nat.not_lt_zero _)⟩
  | j + 1, hj => by
    rcases chP_spec (g := g) (ld := ld) (cap := cap) (ar := ar) (sk := sk) j (by omega) with ⟨h1, h2⟩ | ⟨c, h1, h2, h3, h4⟩
    · by_cases hE : chE g ld cap ar j
      · refine Or.inr ⟨j, by omega, chP_yes hE.1 hE.2.1 hE.2.2 (Or.inl (by rw [h1])), hE, fun d hd hEd => ?_⟩
        by_cases e : d = j
        · subst e
          exact Or.inr ⟨rfl, Int.le_refl _⟩
        · exact absurd hEd (h2 d (by omega))
      · refine Or.inl ⟨by rw [chP_no (fun z => hE ⟨z.1, z.2.1, z.2.2.1⟩)]; exact h1, fun c hc => ?_⟩
        by_cases e : c = j
        · rw [e]; exact hE
        · exact h2 c (by omega)
    · have hb : (chP g ld cap ar sk j).1.toNatClampNeg = c := by rw [h2]; exact nI_clamp (by omega)
      have ha : (chP g ld cap ar sk j).2 = ar c := by rw [h2]
      by_cases hY : g j = true ∧ ld j < cap ∧ ¬ ar j = -1 ∧ (ar j < ar c ∨ (ar j = ar c ∧ sk j < sk c))
      · obtain ⟨y1, y2, y3, y4⟩ := hY
        refine Or.inr ⟨j, by omega, chP_yes y1 y2 y3 (Or.inr (by rw [hb, ha]; exact y4)), ⟨y1, y2, y3⟩, fun d hd hEd => ?_⟩
        rw [i_ltI, i_eqI, i_ltI] at y4
        by_cases e : d = j
        · subst e
          exact Or.inr ⟨rfl, Int.le_refl _⟩
        · have z := h4 d (by omega) hEd
          unfold pf at z ⊢
          omega
      · refine Or.inr ⟨c, by omega, ?_, h3, fun d hd hEd => ?_⟩
        · rw [chP_no]
          · exact h2
          · rw [hb, ha, h2]
            exact fun z => hY ⟨z.1, z.2.1, z.2.2.1, z.2.2.2.resolve_left (nI_ne_m1 (by omega))⟩
        · by_cases e : d = j
          · subst e
            have hn : ¬ (ar d < ar c ∨ (ar d = ar c ∧ sk d < sk c)) := fun y => hY ⟨hEd.1, hEd.2.1, hEd.2.2, y⟩
            rw [i_ltI, i_eqI, i_ltI] at hn
            unfold pf
            omega
          · exact h4 d (by omega) hEd
def bsE (n : Nat → Int32) (h p : Nat) (fl : Nat → Int32) (t s : Nat) : Prop := grpB n h p (ciN n s) = true ∧ fl s < n 5 ∧ ¬ wyN n h p (ciN n s) t = -1
theorem bsF_spec {n : Nat → Int32} {h p : Nat} {fl : Nat → Int32} {t : Nat} : ∀ k, k ≤ 5 → (bsF n h p fl t k = -1 ∧ ∀ s, s < k → ¬ bsE n h p fl t s) ∨ ∃ s, s < k ∧ bsF n h p fl t k = nI s ∧ bsE n h p fl t s ∧ ∀ d, d < k → bsE n h p fl t d → pf (wyN n h p (ciN n s) t) (wyN n h p (ciN n d) t) s d
  | 0, _ => Or.inl ⟨rfl, fun c h => absurd h (Nat.not_lt_zero _)⟩
  | j + 1, hj => by
    rcases bsF_spec (n := n) (h := h) (p := p) (fl := fl) (t := t) j (by omega) with ⟨h1, h2⟩ | ⟨c, h1, h2, h3, h4⟩
    · by_cases hE : bsE n h p fl t j
      · refine Or.inr ⟨j, by omega, ?_, hE, fun d hd hEd => ?_⟩
        · simp only [bsF]
          rw [if_pos ⟨hE.1, hE.2.1, hE.2.2, Or.inl h1⟩]
        · by_cases e : d = j
          · subst e
            exact Or.inr ⟨rfl, Int.le_refl _⟩
          · exact absurd hEd (h2 d (by omega))
      · refine Or.inl ⟨?_, fun c hc => ?_⟩
        · simp only [bsF]
          rw [if_neg (fun z => hE ⟨z.1, z.2.1, z.2.2.1⟩)]
          exact h1
        · by_cases e : c = j
          · rw [e]; exact hE
          · exact h2 c (by omega)
    · have hb : (bsF n h p fl t j).toNatClampNeg = c := by rw [h2]; exact nI_clamp (by omega)
      by_cases hY : bsE n h p fl t j ∧ wyN n h p (ciN n j) t < wyN n h p (ciN n c) t
      · refine Or.inr ⟨j, by omega, ?_, hY.1, fun d hd hEd => ?_⟩
        · simp only [bsF]
          rw [hb, if_pos ⟨hY.1.1, hY.1.2.1, hY.1.2.2, Or.inr hY.2⟩]
        · have y := hY.2
          rw [i_ltI] at y
          by_cases e : d = j
          · subst e
            exact Or.inr ⟨rfl, Int.le_refl _⟩
          · have z := h4 d (by omega) hEd
            unfold pf at z ⊢
            omega
      · refine Or.inr ⟨c, by omega, ?_, h3, fun d hd hEd => ?_⟩
        · simp only [bsF]
          rw [hb, if_neg]
          · exact h2
          · rintro ⟨z1, z2, z3, z4⟩
            refine hY ⟨⟨z1, z2, z3⟩, z4.resolve_left ?_⟩
            rw [h2]
            exact nI_ne_m1 (by omega)
        · by_cases e : d = j
          · subst e
            have hn : ¬ wyN n h p (ciN n d) t < wyN n h p (ciN n c) t := fun y => hY ⟨hEd, y⟩
            rw [i_ltI] at hn
            unfold pf
            omega
          · exact h4 d (by omega) hEd
/-- the carrier of a sack, -1 and -2 as they are -/
def ocN (n : Nat → Int32) (o : Int32) : Int32 := if o = -2 then -2 else if o = -1 then -1 else crS n o
theorem ocN_m1 {n : Nat → Int32} : ocN n (-1) = -1 := by
  unfold ocN
  rw [if_neg (by decide), if_pos rfl]
theorem ocN_s {n : Nat → Int32} {s : Nat} (hs : s < 5) : ocN n (nI s) = crS n (nI s) := by
  unfold ocN
  rw [if_neg (fun z => absurd (show (0 : Int32) ≤ nI s from nI_pos' (by omega)) (by rw [z]; decide)), if_neg (nI_ne_m1 (by omega))]
theorem ci_k {n : Nat → Int32} (hS : SkOk n) {c s : Nat} (hc : c < 5) (hs : s < 5) (e : n (33 + c) = nI s) : ciN n s = c := by
  unfold ciN
  rw [crS_is hS hc e]
  exact nI_clamp (by omega)
theorem ch_is {n : Nat → Int32} {h p t : Nat} {fl ld ar : Nat → Int32} (hO : TbOk n) (hS : SkOk n) (hp : p < 10) (hld : ∀ c, c < 5 → ld c = fl (nv n (33 + c))) (har : ∀ c, c < 5 → grpB n h p c = true → ar c = wyN n h p c t) : (bsF n h p fl t (nv n 1) = -1 ∧ chP (grpB n h p) ld (n 5) ar (fun c => n (33 + c)) 5 = (-1, -1)) ∨ ∃ s c, s < 5 ∧ c < 5 ∧ bsF n h p fl t (nv n 1) = nI s ∧ n (33 + c) = nI s ∧ ciN n s = c ∧ chP (grpB n h p) ld (n 5) ar (fun c => n (33 + c)) 5 = (nI c, wyN n h p c t) := by
  have h15 := hO.2.1.2
  -- a carrier and its sack
  have hck : ∀ c, c < 5 → ∃ s, s < 5 ∧ n (33 + c) = nI s ∧ nv n (33 + c) = s ∧ ciN n s = c := fun c hc => by
    obtain ⟨s, hs, e⟩ := hS.1 c hc
    exact ⟨s, hs, e, nv_of e (by omega), ci_k hS hc hs e⟩
  have hEc : ∀ c s, c < 5 → s < 5 → n (33 + c) = nI s → chE (grpB n h p) ld (n 5) ar c → s < nv n 1 ∧ bsE n h p fl t s := fun c s hc hs e hE => by
    have e2 := ci_k hS hc hs e
    obtain ⟨a, b, d⟩ := hE
    have hm := ((grpB_iff hO hp hc).mp a).1
    refine ⟨(hS.lo hc e hs).mp hm, by rw [e2]; exact a, ?_, by rw [e2, ← har c hc a]; exact d⟩
    rw [hld c hc, nv_of e (by omega)] at b
    exact b
  have hcE : ∀ c s, c < 5 → s < 5 → n (33 + c) = nI s → bsE n h p fl t s → chE (grpB n h p) ld (n 5) ar c := fun c s hc hs e hE => by
    have e2 := ci_k hS hc hs e
    obtain ⟨a, b, d⟩ := hE
    rw [e2] at a d
    exact ⟨a, by rw [hld c hc, nv_of e (by omega)]; exact b, by rw [har c hc a]; exact d⟩
  rcases chP_spec (g := grpB n h p) (ld := ld) (cap := n 5) (ar := ar) (sk := fun c => n (33 + c)) 5 (by omega) with ⟨h1, h2⟩ | ⟨c, h1, h2, h3, h4⟩
  · refine Or.inl ⟨?_, h1⟩
    rcases bsF_spec (n := n) (h := h) (p := p) (fl := fl) (t := t) (nv n 1) h15 with ⟨z, -⟩ | ⟨s, hs, -, hE, -⟩
    · exact z
    · obtain ⟨c, hc, -, e⟩ := crS_of hS (s := s) (by omega)
      exact absurd (hcE c s hc (by omega) e hE) (h2 c hc)
  · refine Or.inr ?_
    obtain ⟨s, hs, e, ev, e2⟩ := hck c h1
    obtain ⟨hsm, hEs⟩ := hEc c s h1 hs e h3
    rcases bsF_spec (n := n) (h := h) (p := p) (fl := fl) (t := t) (nv n 1) h15 with ⟨-, z⟩ | ⟨s', hs', e', hE', hmin⟩
    · exact absurd hEs (z s hsm)
    · obtain ⟨c', hc', -, f⟩ := crS_of hS (s := s') (by omega)
      have f2 := ci_k hS hc' (by omega : s' < 5) f
      have p1 := hmin s hsm hEs
      have p2 := h4 c' hc' (hcE c' s' hc' (by omega) f hE')
      have a1 := har c h1 h3.1
      have a2 := har c' hc' (hcE c' s' hc' (by omega) f hE').1
      rw [e2, f2] at p1
      simp only [a1, a2, e, f] at p2
      unfold pf at p1 p2
      have t1 : (nI s).toInt = s := by rw [nI_toInt (by omega)]
      have t2 : (nI s').toInt = s' := by rw [nI_toInt (by omega)]
      rw [t1, t2] at p2
      have es : s' = s := by omega
      subst es
      exact ⟨s', c, hs, h1, e', e, e2, by rw [h2, a1]⟩
/-- .. it is the reference's -/
theorem ch_fin {n : Nat → Int32} {h p t : Nat} {fl ld ar : Nat → Int32} {a5 : Int32} (hO : TbOk n) (hS : SkOk n) (hp : p < 10) (hld : ∀ c, c < 5 → ld c = fl (nv n (33 + c))) (har : ∀ c, c < 5 → grpB n h p c = true → ar c = wyN n h p c t) (h5 : a5 = wyN n h p 5 t) (hw5 : a5 = -1 ∨ 0 ≤ a5) : (if ¬ a5 = -1 ∧ a5 < (chP (grpB n h p) ld (n 5) ar (fun c => n (33 + c)) 5).2 then -1 else (chP (grpB n h p) ld (n 5) ar (fun c => n (33 + c)) 5).1) = ocN n (bstS n h p fl t) := by
  rcases ch_is (fl := fl) hO hS hp hld har with ⟨h1, h2⟩ | ⟨s, c, hs, hc, e1, e2, e3, e4⟩
  · have hb : bstS n h p fl t = -1 := by
      unfold bstS
      rw [if_neg (fun z => z.1 h1)]
    rw [h2, hb, ocN_m1]
    dsimp only
    split
    · rfl
    · rfl
  · rw [e4]
    unfold bstS
    have e5 : (bsF n h p fl t (nv n 1)).toNatClampNeg = s := by rw [e1]; exact nI_clamp (by omega)
    rw [e5, e3, e1, ← h5]
    by_cases hx : ¬ a5 = -1 ∧ a5 < wyN n h p c t
    · rw [if_pos hx, if_neg]
      · rfl
      · rintro ⟨-, z⟩
        rcases z with z | z
        · exact hx.1 z
        · exact absurd hx.2 (i_nlt.mpr z)
    · rw [if_neg hx, if_pos]
      · rw [ocN_s hs]
        exact (crS_is hS hc e2).symm
      · refine ⟨nI_ne_m1 (by omega), ?_⟩
        by_cases z : a5 = -1
        · exact Or.inl z
        · exact Or.inr (i_nlt.mp (fun y => hx ⟨z, y⟩))
set_option maxHeartbeats 2000000 in
set_option maxRecDepth 20000 in
theorem t_X1_chooseCarrier {M : Mm} {w a : Nat} {n : Nat → Int32} (hw : LX1 M.1 M.2.1 w) (hL : LX8 M.1 M.2.1 a) {g : Nat → Bool} {t : Nat} (ht : t < 10) {cap : Int32} (hcap : mI M a 1 = cap) {ar sk : Nat → Int32} (har : ∀ c, c < 5 → mI M (w + 3) (c * 10 + t) = ar c) (hsk : ∀ c, c < 5 → mI M (a + 1) c = sk c) : Ct G base YX1_chooseCarrier 4 0 0 [.ref w, .ref a, .int (setB g 5), .int (nI t)] M (rE (some (.int (if ¬ mI M (w + 3) (50 + t) = -1 ∧ mI M (w + 3) (50 + t) < (chP g (mI M (w + 5)) cap ar sk 5).2 then -1 else (chP g (mI M (w + 5)) cap ar sk 5).1))) M) := by
  refine Ct.of IX1_chooseCarrier.1 (by simp [Value.category]) (Nat.le_of_ble_eq_true rfl) (fun X hX hN => ?_)
  show J G base X 0 0 M 0 [some (.ref w), some (.ref a), some (.int (setB g 5)), some (.int (nI t)), none, none, none, none] []
  refine r_iconst (v := (-1)) hX dX1_chooseCarrier_0 (by decide) ?_
  refine r_istore4 hX dX1_chooseCarrier_1 rfl ?_
  refine r_iconst (v := (-1)) hX dX1_chooseCarrier_3 (by decide) ?_
  refine r_istore5 hX dX1_chooseCarrier_4 rfl ?_
  refine r_iconst (v := nI 0) hX dX1_chooseCarrier_6 (by decide) ?_
  refine r_istore6 hX dX1_chooseCarrier_7 rfl ?_
  show J G base X 0 0 M 9 [some (.ref w), some (.ref a), some (.int (setB g 5)), some (.int (nI t)), some (.int (chP g (mI M (w + 5)) cap ar sk 0).1), some (.int (chP g (mI M (w + 5)) cap ar sk 0).2), some (.int (nI 0)), none] []
  refine loop_up (P := fun j => J G base X 0 0 M 9 [some (.ref w), some (.ref a), some (.int (setB g 5)), some (.int (nI t)), some (.int (chP g (mI M (w + 5)) cap ar sk j).1), some (.int (chP g (mI M (w + 5)) cap ar sk j).2), some (.int (nI j)), none] []) 5 (fun j hj ih => ?_) 0 (Nat.zero_le _)
  refine r_iload hX dX1_chooseCarrier_9 rfl ?_
  refine r_iconst (v := nI 5) hX dX1_chooseCarrier_11 (by decide) ?_
  refine rn_icmp_ge (tgt := 105) hX dX1_chooseCarrier_12 (by decide) rfl rfl (by omega) (by omega) (fun c12 => ?_) (fun c12 => ?_)
  · refine r_aload_n hX dX1_chooseCarrier_105 rfl ?_
    refine r_iconst (v := nI 5) hX dX1_chooseCarrier_106 (by decide) ?_
    refine r_iload_n hX dX1_chooseCarrier_107 rfl ?_
    refine r_cV2 hX dX1_chooseCarrier_108 IX1_arrivalBy ml_X1_139 rfl (LX1_s hw) rfl (t_X1_arrivalBy hw (by omega) ht) (by decide) (by decide) (by decide) (by decide) rfl (Nat.le_of_ble_eq_true rfl) ?_
    rw [show 5 * 10 + t = 50 + t by omega]
    refine r_istore6 hX dX1_chooseCarrier_111 rfl ?_
    refine r_iload hX dX1_chooseCarrier_113 rfl ?_
    refine r_iconst (v := (-1)) hX dX1_chooseCarrier_115 (by decide) ?_
    refine r_icmp_eq (tgt := 130) hX dX1_chooseCarrier_116 (by decide) (fun c116 => ?_) (fun c116 => ?_)
    · refine r_iload hX dX1_chooseCarrier_130 rfl ?_
      refine r_ireturn hX rfl rfl dX1_chooseCarrier_132 (by decide) (by decide) ?_
      obtain rfl : j = 5 := by omega
      refine ⟨?_, rfl⟩
      rw [if_neg (fun z => z.1 c116)]
    · refine r_iload hX dX1_chooseCarrier_119 rfl ?_
      refine r_iload hX dX1_chooseCarrier_121 rfl ?_
      refine r_icmp_le (tgt := 130) hX dX1_chooseCarrier_123 (by decide) (fun c123 => ?_) (fun c123 => ?_)
      · refine r_iload hX dX1_chooseCarrier_130 rfl ?_
        refine r_ireturn hX rfl rfl dX1_chooseCarrier_132 (by decide) (by decide) ?_
        obtain rfl : j = 5 := by omega
        refine ⟨?_, rfl⟩
        rw [if_neg (fun z => absurd z.2 (i_nlt.mpr c123))]
      · refine r_iconst (v := (-1)) hX dX1_chooseCarrier_126 (by decide) ?_
        refine r_goto (tgt := 132) hX dX1_chooseCarrier_127 (by decide) ?_
        refine r_ireturn hX rfl rfl dX1_chooseCarrier_132 (by decide) (by decide) ?_
        obtain rfl : j = 5 := by omega
        refine ⟨?_, rfl⟩
        rw [if_pos ⟨c116, i_nle.mp c123⟩]
  · refine r_aload_n hX dX1_chooseCarrier_15 rfl ?_
    refine r_iload hX dX1_chooseCarrier_16 rfl ?_
    refine r_iload_n hX dX1_chooseCarrier_18 rfl ?_
    refine r_cV2 hX dX1_chooseCarrier_19 IX1_arrivalBy ml_X1_139 rfl (LX1_s hw) rfl (t_X1_arrivalBy hw (by omega) ht) (by decide) (by decide) (by decide) (by decide) rfl (Nat.le_of_ble_eq_true rfl) ?_
    rw [har j (by omega)]
    refine r_istore7 hX dX1_chooseCarrier_22 rfl ?_
    refine r_iload_n hX dX1_chooseCarrier_24 rfl ?_
    refine r_iload hX dX1_chooseCarrier_25 rfl ?_
    refine r_cN2 (host := RX10) hX dX1_chooseCarrier_27 IX10_has (by decide +kernel) rfl (t_X10_has) (by decide) (by decide) (by decide) (by decide) rfl (Nat.le_of_ble_eq_true rfl) ?_
    rw [itec (hasP_set (f := g) (by omega) (by omega)), itec (show (j < 5 ∧ j ≤ 30 ∧ g j = true) ↔ g j = true from ⟨fun z => z.2.2, fun z => ⟨by omega, by omega, z⟩⟩)]
    refine rb_if_eq (tgt := 99) hX dX1_chooseCarrier_30 (by decide) rfl (fun c30 => ?_) (fun c30 => ?_)
    · refine rn_iinc6 hX dX1_chooseCarrier_99 rfl rfl ?_
      refine r_goto (tgt := 9) hX dX1_chooseCarrier_102 (by decide) ?_
      have z := ih (by omega)
      rw [chP_no (fun y => c30 y.1)] at z
      exact J.junk z (by repeat first | exact trivial | refine ⟨rfl, ?_⟩)
    · refine r_aload_n hX dX1_chooseCarrier_33 rfl ?_
      refine r_getr hX dX1_chooseCarrier_34 fl_X1_25 rfl (LX1_s hw) (LX1_r3 hw) ?_
      refine r_iload hX dX1_chooseCarrier_37 rfl ?_
      refine rn_iald hX dX1_chooseCarrier_39 (LX1_a3 hw) rfl (by omega) (by omega) ?_
      refine r_aload_n hX dX1_chooseCarrier_40 rfl ?_
      refine rn_geti (v := cap) hX dX1_chooseCarrier_41 fl_X1_142 rfl (LX8_s hL) hcap ?_
      refine r_icmp_ge (tgt := 99) hX dX1_chooseCarrier_44 (by decide) (fun c44 => ?_) (fun c44 => ?_)
      · refine rn_iinc6 hX dX1_chooseCarrier_99 rfl rfl ?_
        refine r_goto (tgt := 9) hX dX1_chooseCarrier_102 (by decide) ?_
        have z := ih (by omega)
        rw [chP_no (fun y => absurd y.2.1 (i_nlt.mpr c44))] at z
        exact J.junk z (by repeat first | exact trivial | refine ⟨rfl, ?_⟩)
      · refine r_iload hX dX1_chooseCarrier_47 rfl ?_
        refine r_iconst (v := (-1)) hX dX1_chooseCarrier_49 (by decide) ?_
        refine r_icmp_ne (tgt := 56) hX dX1_chooseCarrier_50 (by decide) (fun c50 => ?_) (fun c50 => ?_)
        · refine r_iload hX dX1_chooseCarrier_56 rfl ?_
          refine r_iconst (v := (-1)) hX dX1_chooseCarrier_58 (by decide) ?_
          refine r_icmp_eq (tgt := 91) hX dX1_chooseCarrier_59 (by decide) (fun c59 => ?_) (fun c59 => ?_)
          · refine r_iload hX dX1_chooseCarrier_91 rfl ?_
            refine r_istore4 hX dX1_chooseCarrier_93 rfl ?_
            refine r_iload hX dX1_chooseCarrier_95 rfl ?_
            refine r_istore5 hX dX1_chooseCarrier_97 rfl ?_
            refine rn_iinc6 hX dX1_chooseCarrier_99 rfl rfl ?_
            refine r_goto (tgt := 9) hX dX1_chooseCarrier_102 (by decide) ?_
            have z := ih (by omega)
            rw [chP_yes c30 (i_nle.mp c44) c50 (Or.inl c59)] at z
            exact J.junk z (by repeat first | exact trivial | refine ⟨rfl, ?_⟩)
          · refine r_iload hX dX1_chooseCarrier_62 rfl ?_
            refine r_iload hX dX1_chooseCarrier_64 rfl ?_
            refine r_icmp_lt (tgt := 91) hX dX1_chooseCarrier_66 (by decide) (fun c66 => ?_) (fun c66 => ?_)
            · refine r_iload hX dX1_chooseCarrier_91 rfl ?_
              refine r_istore4 hX dX1_chooseCarrier_93 rfl ?_
              refine r_iload hX dX1_chooseCarrier_95 rfl ?_
              refine r_istore5 hX dX1_chooseCarrier_97 rfl ?_
              refine rn_iinc6 hX dX1_chooseCarrier_99 rfl rfl ?_
              refine r_goto (tgt := 9) hX dX1_chooseCarrier_102 (by decide) ?_
              have z := ih (by omega)
              rw [chP_yes c30 (i_nle.mp c44) c50 (Or.inr (Or.inl c66))] at z
              exact J.junk z (by repeat first | exact trivial | refine ⟨rfl, ?_⟩)
            · refine r_iload hX dX1_chooseCarrier_69 rfl ?_
              refine r_iload hX dX1_chooseCarrier_71 rfl ?_
              refine r_icmp_ne (tgt := 99) hX dX1_chooseCarrier_73 (by decide) (fun c73 => ?_) (fun c73 => ?_)
              · refine rn_iinc6 hX dX1_chooseCarrier_99 rfl rfl ?_
                refine r_goto (tgt := 9) hX dX1_chooseCarrier_102 (by decide) ?_
                have z := ih (by omega)
                rw [chP_no (fun y => y.2.2.2.elim c59 (fun q => q.elim c66 (fun q => c73 q.1)))] at z
                exact J.junk z (by repeat first | exact trivial | refine ⟨rfl, ?_⟩)
              · obtain ⟨b, hb, heb⟩ : ∃ b, b < j ∧ (chP g (mI M (w + 5)) cap ar sk j).1 = nI b := by
                  rcases chP_spec (g := g) (ld := mI M (w + 5)) (cap := cap) (ar := ar) (sk := sk) j hj with ⟨z, -⟩ | ⟨b, hb, z, -⟩
                  · exact absurd (by rw [z]) c59
                  · exact ⟨b, hb, by rw [z]⟩
                rw [heb]
                refine r_aload_n hX dX1_chooseCarrier_76 rfl ?_
                refine r_iload hX dX1_chooseCarrier_77 rfl ?_
                refine r_cV1 hX dX1_chooseCarrier_79 IX8_sackWith ml_X1_145 rfl (LX8_s hL) rfl (t_X8_sackWith hL (by omega)) (by decide) (by decide) (by decide) (by decide) rfl (Nat.le_of_ble_eq_true rfl) ?_
                rw [hsk j (by omega)]
                refine r_aload_n hX dX1_chooseCarrier_82 rfl ?_
                refine r_iload hX dX1_chooseCarrier_83 rfl ?_
                refine r_cV1 hX dX1_chooseCarrier_85 IX8_sackWith ml_X1_145 rfl (LX8_s hL) rfl (t_X8_sackWith hL (by omega)) (by decide) (by decide) (by decide) (by decide) rfl (Nat.le_of_ble_eq_true rfl) ?_
                rw [hsk b (by omega)]
                refine r_icmp_ge (tgt := 99) hX dX1_chooseCarrier_88 (by decide) (fun c88 => ?_) (fun c88 => ?_)
                · refine rn_iinc6 hX dX1_chooseCarrier_99 rfl rfl ?_
                  refine r_goto (tgt := 9) hX dX1_chooseCarrier_102 (by decide) ?_
                  have z := ih (by omega)
                  rw [chP_no (fun y => y.2.2.2.elim (by rw [heb]; exact nI_ne_m1 (by omega)) (fun q => q.elim c66 (fun q => by
                    have q2 := q.2
                    rw [heb, nI_clamp (by omega)] at q2
                    exact absurd q2 (i_nlt.mpr c88)))), heb] at z
                  exact J.junk z (by repeat first | exact trivial | refine ⟨rfl, ?_⟩)
                · refine r_iload hX dX1_chooseCarrier_91 rfl ?_
                  refine r_istore4 hX dX1_chooseCarrier_93 rfl ?_
                  refine r_iload hX dX1_chooseCarrier_95 rfl ?_
                  refine r_istore5 hX dX1_chooseCarrier_97 rfl ?_
                  refine rn_iinc6 hX dX1_chooseCarrier_99 rfl rfl ?_
                  refine r_goto (tgt := 9) hX dX1_chooseCarrier_102 (by decide) ?_
                  have z := ih (by omega)
                  rw [chP_yes c30 (i_nle.mp c44) c50 (Or.inr (Or.inr ⟨c73, by rw [heb, nI_clamp (by omega)]; exact i_nle.mp c88⟩))] at z
                  exact J.junk z (by repeat first | exact trivial | refine ⟨rfl, ?_⟩)
        · refine r_goto (tgt := 99) hX dX1_chooseCarrier_53 (by decide) ?_
          refine rn_iinc6 hX dX1_chooseCarrier_99 rfl rfl ?_
          refine r_goto (tgt := 9) hX dX1_chooseCarrier_102 (by decide) ?_
          have z := ih (by omega)
          rw [chP_no (fun y => y.2.2.1 c50)] at z
          exact J.junk z (by repeat first | exact trivial | refine ⟨rfl, ?_⟩)
