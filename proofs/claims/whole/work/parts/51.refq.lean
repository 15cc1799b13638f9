variable {G : GG} {base : Nat}
/-- a letter more -/
def postN (n : Nat → Int32) (fr to vl : Int32) : Nat → Int32 :=
  upd (upd (upd (upd (upd (liesN (upd (upd (upd (upd n 2 (nI (nv n 2 + 1))) (498 + 10 * nv n 2 + 0) fr) (498 + 10 * nv n 2 + 1) to) (498 + 10 * nv n 2 + 2) vl) (nv n 2) 0 fr) (498 + 10 * nv n 2 + 5) (n 6)) (498 + 10 * nv n 2 + 6) (-1)) (498 + 10 * nv n 2 + 7) (-1)) (498 + 10 * nv n 2 + 8) 0) (498 + 10 * nv n 2 + 9) 0
theorem postN_lo {n : Nat → Int32} {fr to vl : Int32} {q : Nat} (hq : q < 498) (h2 : q ≠ 2) : postN n fr to vl q = n q := by
  unfold postN liesN
  rw [upd_o (by omega), upd_o (by omega), upd_o (by omega), upd_o (by omega), upd_o (by omega), upd_o (by omega), upd_o (by omega), upd_o (by omega), upd_o (by omega), upd_o (by omega), upd_o (by omega)]
theorem postN_hi {n : Nat → Int32} {fr to vl : Int32} {q : Nat} (hq : 508 + 10 * nv n 2 ≤ q) : postN n fr to vl q = n q := by
  unfold postN liesN
  rw [upd_o (by omega), upd_o (by omega), upd_o (by omega), upd_o (by omega), upd_o (by omega), upd_o (by omega), upd_o (by omega), upd_o (by omega), upd_o (by omega), upd_o (by omega), upd_o (by omega)]
theorem postN_old {n : Nat → Int32} {fr to vl : Int32} {l f : Nat} (hl : l < nv n 2) (hf : f < 10) : postN n fr to vl (498 + 10 * l + f) = n (498 + 10 * l + f) := by
  unfold postN liesN
  rw [upd_o (by omega), upd_o (by omega), upd_o (by omega), upd_o (by omega), upd_o (by omega), upd_o (by omega), upd_o (by omega), upd_o (by omega), upd_o (by omega), upd_o (by omega), upd_o (by omega)]
theorem postN_2 {n : Nat → Int32} {fr to vl : Int32} : postN n fr to vl 2 = nI (nv n 2 + 1) := by
  unfold postN liesN
  rw [upd_o (by omega), upd_o (by omega), upd_o (by omega), upd_o (by omega), upd_o (by omega), upd_o (by omega), upd_o (by omega), upd_o (by omega), upd_o (by omega), upd_o (by omega), upd_s]
theorem postN_new {n : Nat → Int32} {fr to vl : Int32} : postN n fr to vl (498 + 10 * nv n 2 + 0) = fr ∧ postN n fr to vl (498 + 10 * nv n 2 + 1) = to ∧ postN n fr to vl (498 + 10 * nv n 2 + 2) = vl ∧ postN n fr to vl (498 + 10 * nv n 2 + 3) = 0 ∧ postN n fr to vl (498 + 10 * nv n 2 + 4) = fr ∧ postN n fr to vl (498 + 10 * nv n 2 + 5) = n 6 ∧ postN n fr to vl (498 + 10 * nv n 2 + 6) = -1 ∧ postN n fr to vl (498 + 10 * nv n 2 + 7) = -1 ∧ postN n fr to vl (498 + 10 * nv n 2 + 8) = 0 ∧ postN n fr to vl (498 + 10 * nv n 2 + 9) = 0 := by
  unfold postN liesN
  refine ⟨?_, ?_, ?_, ?_, ?_, ?_, ?_, ?_, ?_, ?_⟩ <;> simp [upd]
theorem postN_tab {n : Nat → Int32} {fr to vl : Int32} : tabEq (postN n fr to vl) n := ⟨postN_lo (by omega) (by omega), postN_lo (by omega) (by omega), fun q a b => postN_lo (by omega) (by omega), fun q a b => postN_lo (by omega) (by omega)⟩
theorem arP_eq {n m : Nat → Int32} (h : tabEq n m) (h6 : n 6 = m 6) (hT : TbOk n) {p q : Nat} : arP n p q = arP m p q := by
  unfold arP
  rw [show nv n 6 = nv m 6 from by show (n 6).toNatClampNeg = _; rw [h6]]
  exact arN_eq h hT.2.2 hT.1.2 hT.2.1.2 240
def rs_post (σ : Sg) (x y v : Int32) : Int32 ⊕ Nat := match pairN σ.1 x y with
  | none => .inr 1
  | some _ => match ix 1000 v with
    | none => .inr 1
    | some _ => if nv σ.1 2 = 30 then .inr 2 else .inl (nI (nv σ.1 2))
def sg_post (σ : Sg) (x y v : Int32) : Sg := match pairN σ.1 x y with
  | none => σ
  | some pq => match ix 1000 v with
    | none => σ
    | some _ => if nv σ.1 2 = 30 then σ else rowS (keepS σ) (upd (postN σ.1 x y v) (498 + 10 * nv σ.1 2 + 6) (arP σ.1 pq.1 pq.2))
/-- the letters of a sack are lost -/
def losL (n : Nat → Int32) (s lo c : Int32) : Nat → Nat → Int32
  | 0 => n
  | l + 1 => if losL n s lo c l (498 + 10 * l + 3) = 1 ∧ losL n s lo c l (498 + 10 * l + 4) = s then wrL (liesN (losL n s lo c l) l 3 lo) l 4 c (-1) else losL n s lo c l
def los0 (n : Nat → Int32) (c : Int32) : Nat → Int32 := upd (upd (upd n 3 (nI (nv n 3 + 1))) (798 + 2 * nv n 3) c) (798 + 2 * nv n 3 + 1) (n 6)
def loseN (n : Nat → Int32) (c : Nat) : Nat → Int32 := if cntK (lK n) (lW n) 1 (n (33 + c)) (nv n 2) = 0 then n else losL (los0 n (nI c)) (n (33 + c)) (nI (nv n 3)) (nI c) (nv n 2)
def rs_lose (σ : Sg) (x : Int32) : Int32 ⊕ Nat := match ix (nv σ.1 1) x with
  | none => .inr 1
  | some c => .inl (nI (cntK (lK σ.1) (lW σ.1) 1 (σ.1 (33 + c)) (nv σ.1 2)))
def sg_lose (σ : Sg) (x : Int32) : Sg := match ix (nv σ.1 1) x with
  | none => σ
  | some c => rowS (keepS σ) (loseN σ.1 c)
theorem losL_sm {n : Nat → Int32} {s lo c : Int32} (h : Rn n 4 60) : ∀ k, sm (losL n s lo c k) n
  | 0 => sm.rf h
  | k + 1 => by
    simp only [losL]
    split
    · exact ((losL_sm h k).lies _ _ _).wr _ _ _ _
    · exact losL_sm h k
theorem pig : ∀ (N m : Nat) (f : Nat → Nat), (∀ i, i < m → f i < N) → (∀ i j, i < m → j < m → f i = f j → i = j) → m ≤ N
  | 0, m, f, h1, _ => by
    by_cases h : m = 0
    · omega
    · exact absurd (h1 0 (by omega)) (by omega)
  | N + 1, m, f, h1, h2 => by
    by_cases h : ∃ i0, i0 < m ∧ f i0 = N
    · obtain ⟨i0, hi0, e0⟩ := h
      have := pig N (m - 1) (fun i => f (if i = i0 then m - 1 else i)) (fun i hi => by
        show f (if i = i0 then m - 1 else i) < N
        by_cases e : i = i0
        · rw [if_pos e]
          have a1 := h1 (m - 1) (by omega)
          have a2 : f (m - 1) ≠ N := fun z => by
            have := h2 (m - 1) i0 (by omega) hi0 (z.trans e0.symm)
            omega
          omega
        · rw [if_neg e]
          have a1 := h1 i (by omega)
          have a2 : f i ≠ N := fun z => e (h2 i i0 (by omega) hi0 (z.trans e0.symm))
          omega) (fun i j hi hj e => by
        have e' : f (if i = i0 then m - 1 else i) = f (if j = i0 then m - 1 else j) := e
        have := h2 _ _ (by split <;> omega) (by split <;> omega) e'
        split at this <;> split at this <;> omega)
      omega
    · have := pig N m f (fun i hi => by
        have a1 := h1 i hi
        have a2 : f i ≠ N := fun z => h ⟨i, hi, z⟩
        omega) h2
      omega
theorem cntK_ex {K W : Nat → Int32} {kd pl : Int32} : ∀ {m : Nat}, ¬ cntK K W kd pl m = 0 → ∃ l, l < m ∧ K l = kd ∧ W l = pl
  | 0, h => absurd rfl h
  | m + 1, h => by
    simp only [cntK] at h
    by_cases hc : K m = kd ∧ W m = pl
    · exact ⟨m, by omega, hc⟩
    · rw [if_neg hc, Nat.add_zero] at h
      obtain ⟨l, h1, h2⟩ := cntK_ex h
      exact ⟨l, by omega, h2⟩
/-- as many sacks as letters can be lost -/
theorem lost_lt {n : Nat → Int32} (hL : LtOk n) (hLo : LoOk n) {s : Int32} (h : ¬ cntK (lK n) (lW n) 1 s (nv n 2) = 0) : nv n 3 < 30 := by
  obtain ⟨l0, a1, a2, -⟩ := cntK_ex h
  have h30 := hL.1.2
  have h33 := hL.2.1.2
  have hx : ∀ k, ∃ l, k < nv n 3 → l < nv n 2 ∧ n (498 + 10 * l + 3) = 3 ∧ n (498 + 10 * l + 4) = nI k := fun k => by
    by_cases hk : k < nv n 3
    · obtain ⟨-, l, h1⟩ := hLo k hk
      exact ⟨l, fun _ => h1⟩
    · exact ⟨0, fun z => absurd z hk⟩
  have := pig (nv n 2) (nv n 3 + 1) (fun k => if k < nv n 3 then Classical.choose (hx k) else l0) (fun k hk => by
    show (if k < nv n 3 then Classical.choose (hx k) else l0) < nv n 2
    by_cases e : k < nv n 3
    · rw [if_pos e]; exact (Classical.choose_spec (hx k) e).1
    · rw [if_neg e]; exact a1) (fun i j hi hj e => by
    have e' : (if i < nv n 3 then Classical.choose (hx i) else l0) = (if j < nv n 3 then Classical.choose (hx j) else l0) := e
    by_cases e1 : i < nv n 3
    · obtain ⟨b1, b2, b3⟩ := Classical.choose_spec (hx i) e1
      rw [if_pos e1] at e'
      by_cases e2 : j < nv n 3
      · obtain ⟨d1, d2, d3⟩ := Classical.choose_spec (hx j) e2
        rw [if_pos e2] at e'
        rw [e'] at b3
        exact (nI_eq (by omega) (by omega)).mp (b3.symm.trans d3)
      · rw [if_neg e2] at e'
        rw [e'] at b2
        exact absurd (b2.symm.trans a2) (by decide)
    · rw [if_neg e1] at e'
      by_cases e2 : j < nv n 3
      · obtain ⟨d1, d2, d3⟩ := Classical.choose_spec (hx j) e2
        rw [if_pos e2] at e'
        rw [← e'] at d2
        exact absurd (d2.symm.trans a2) (by decide)
      · omega)
  omega
/-- the letters of a lost sack are found -/
def fouN (x : Nat → Int32) (l p : Nat) : Nat → Int32 := if x (498 + 10 * l + 1) = nI p then upd (liesN x l 2 (nI p)) (498 + 10 * l + 7) (liesN x l 2 (nI p) 6) else liesN x l 0 (nI p)
def fouL (n : Nat → Int32) (k p : Nat) : Nat → Nat → Int32
  | 0 => n
  | l + 1 => if fouL n k p l (498 + 10 * l + 3) = 3 ∧ fouL n k p l (498 + 10 * l + 4) = nI k then wrL (fouN (fouL n k p l) l p) l 5 (-1) (nI p)
    else if fouL n k p l (498 + 10 * l + 3) = 3 ∧ nI k < fouL n k p l (498 + 10 * l + 4) then upd (fouL n k p l) (498 + 10 * l + 4) (fouL n k p l (498 + 10 * l + 4) - 1) else fouL n k p l
theorem fouL_sm {n : Nat → Int32} {k p : Nat} (h : Rn n 4 60) : ∀ l, sm (fouL n k p l) n
  | 0 => sm.rf h
  | l + 1 => by
    simp only [fouL]
    split
    · refine sm.wr ?_ _ _ _ _
      unfold fouN
      split
      · exact ((fouL_sm h l).lies _ _ _).up (by omega) _
      · exact (fouL_sm h l).lies _ _ _
    · split
      · exact (fouL_sm h l).up (by omega) _
      · exact fouL_sm h l
/-- the lost sacks behind the k-th one place on -/
def mvN (n : Nat → Int32) (k : Nat) : Nat → Int32 := fun q => if 798 + 2 * k ≤ q ∧ q < 798 + 2 * nv n 3 then n (q + 2) else n q
def findN (n : Nat → Int32) (k p : Nat) : Nat → Int32 := mvN (upd (fouL n k p (nv n 2)) 3 (nI (nv n 3 - 1))) k
def rs_find (σ : Sg) (x y : Int32) : Int32 ⊕ Nat := match ix (nv σ.1 3) x with
  | none => .inr 1
  | some k => match ix (nv σ.1 0) y with
    | none => .inr 2
    | some p => if town σ.1 p = true then .inl (nI (cntK (lK σ.1) (lW σ.1) 3 (nI k) (nv σ.1 2))) else .inr 2
def sg_find (σ : Sg) (x y : Int32) : Sg := match ix (nv σ.1 3) x with
  | none => σ
  | some k => match ix (nv σ.1 0) y with
    | none => σ
    | some p => if town σ.1 p = true then rowS (keepS σ) (findN σ.1 k p) else σ
set_option maxHeartbeats 2000000 in
set_option maxRecDepth 20000 in
theorem t_X11_posts {M : Mm} {a : Nat} {n : Nat → Int32} (hL : LX11 M.1 M.2.1 a) (hn : mI M (a + 1) = n) (h2 : Rn n 2 30) (h2b : nv n 2 < 30) {fr to vl : Int32} : Ct G base YX11_posts 3 0 0 [.ref a, .int fr, .int to, .int vl] M (rI (some (.int (nI (nv n 2)))) M (pN M a (postN n fr to vl))) := by
  refine Ct.of IX11_posts.1 (by simp [Value.category]) (Nat.le_of_ble_eq_true rfl) (fun X hX hN => ?_)
  show J G base X 0 0 M 0 [some (.ref a), some (.int fr), some (.int to), some (.int vl), none] []
  refine r_aload_n hX dX11_posts_0 rfl ?_
  refine r_cV0 hX dX11_posts_1 IX11_letters ml_X11_170 rfl (LX11_s hL) rfl (t_X11_letters hL hn h2) (by decide) (by decide) (by decide) (by decide) rfl (Nat.le_of_ble_eq_true rfl) ?_
  refine r_istore4 hX dX11_posts_4 rfl ?_
  refine r_aload_n hX dX11_posts_6 rfl ?_
  refine r_getr hX dX11_posts_7 fl_X11_13 rfl (LX11_s hL) (LX11_r1 hL) ?_
  refine r_iconst (v := nI 2) hX dX11_posts_10 (by decide) ?_
  refine r_dup2 hX dX11_posts_11 rfl rfl ?_
  refine rn_iald hX dX11_posts_12 (LX11_a1 hL) rfl (by omega) (by omega) ?_
  rw [hn]
  rw [h2.1]
  refine r_iconst (v := nI 1) hX dX11_posts_13 (by decide) ?_
  refine rn_iadd hX dX11_posts_14 rfl rfl ?_
  refine rn_iast hX dX11_posts_15 (LX11_a1 hL) rfl (by omega) (by omega) ?_
  refine J.gen (M0 := M) rfl (fun i1 k1 => ?_)
  have hn1 : mI (wI M i1) (a + 1) = upd n 2 (nI (nv n 2 + 1)) := by
    rw [← uIA (v := nI (nv n 2 + 1)) hn]
    funext q
    exact k1 (a + 1) q
  have f1 : ∀ x, x ≠ a + 1 → i1 x = mI M x := fun x hx => by
    funext q
    rw [k1]
    exact congrFun (uIo hx) q
  refine r_aload_n hX dX11_posts_16 rfl ?_
  refine r_iload hX dX11_posts_17 rfl ?_
  refine r_iconst (v := nI 0) hX dX11_posts_19 (by decide) ?_
  refine r_iload_n hX dX11_posts_20 rfl ?_
  refine r_iV3 hX dX11_posts_21 IX11_sets ml_X11_71 rfl (LX11_s hL) rfl (t_X11_sets (M := wI M i1) hL hn1 (by omega) (by decide)) (by decide) (by decide) (by decide) (by decide) rfl (Nat.le_of_ble_eq_true rfl) (fun i21 h21 => ?_)
  show J G base X _ _ (wI M i21) _ _ _
  have hn21 : mI (wI M i21) (a + 1) = _ := h21.1
  refine r_aload_n hX dX11_posts_24 rfl ?_
  refine r_iload hX dX11_posts_25 rfl ?_
  refine r_iconst (v := nI 1) hX dX11_posts_27 (by decide) ?_
  refine r_iload_n hX dX11_posts_28 rfl ?_
  refine r_iV3 hX dX11_posts_29 IX11_sets ml_X11_71 rfl (LX11_s hL) rfl (t_X11_sets (M := wI M i21) hL hn21 (by omega) (by decide)) (by decide) (by decide) (by decide) (by decide) rfl (Nat.le_of_ble_eq_true rfl) (fun i29 h29 => ?_)
  show J G base X _ _ (wI M i29) _ _ _
  have hn29 : mI (wI M i29) (a + 1) = _ := h29.1
  refine r_aload_n hX dX11_posts_32 rfl ?_
  refine r_iload hX dX11_posts_33 rfl ?_
  refine r_iconst (v := nI 2) hX dX11_posts_35 (by decide) ?_
  refine r_iload_n hX dX11_posts_36 rfl ?_
  refine r_iV3 hX dX11_posts_37 IX11_sets ml_X11_71 rfl (LX11_s hL) rfl (t_X11_sets (M := wI M i29) hL hn29 (by omega) (by decide)) (by decide) (by decide) (by decide) (by decide) rfl (Nat.le_of_ble_eq_true rfl) (fun i37 h37 => ?_)
  show J G base X _ _ (wI M i37) _ _ _
  have hn37 : mI (wI M i37) (a + 1) = _ := h37.1
  refine r_aload_n hX dX11_posts_40 rfl ?_
  refine r_iload hX dX11_posts_41 rfl ?_
  refine r_iconst (v := nI 0) hX dX11_posts_43 (by decide) ?_
  refine r_iload_n hX dX11_posts_44 rfl ?_
  refine r_iV3 hX dX11_posts_45 IX11_lies ml_X11_222 rfl (LX11_s hL) rfl (t_X11_lies (M := wI M i37) hL hn37 (by omega)) (by decide) (by decide) (by decide) (by decide) rfl (Nat.le_of_ble_eq_true rfl) (fun i45 h45 => ?_)
  show J G base X _ _ (wI M i45) _ _ _
  have hn45 : mI (wI M i45) (a + 1) = _ := h45.1
  refine r_aload_n hX dX11_posts_48 rfl ?_
  refine r_iload hX dX11_posts_49 rfl ?_
  refine r_iconst (v := nI 5) hX dX11_posts_51 (by decide) ?_
  refine r_aload_n hX dX11_posts_52 rfl ?_
  refine r_getr hX dX11_posts_53 fl_X11_13 rfl (LX11_s hL) (LX11_r1 hL) ?_
  refine r_bipush (v := nI 6) hX dX11_posts_56 (by decide) ?_
  refine rn_iald hX dX11_posts_58 (LX11_a1 hL) rfl (by omega) (by omega) ?_
  rw [show mI (wI M i45) (a + 1) 6 = n 6 from by rw [hn45]; unfold liesN; rw [upd_o (by omega), upd_o (by omega), upd_o (by omega), upd_o (by omega), upd_o (by omega), upd_o (by omega)]]
  refine r_iV3 hX dX11_posts_59 IX11_sets ml_X11_71 rfl (LX11_s hL) rfl (t_X11_sets (M := wI M i45) hL hn45 (by omega) (by decide)) (by decide) (by decide) (by decide) (by decide) rfl (Nat.le_of_ble_eq_true rfl) (fun i59 h59 => ?_)
  show J G base X _ _ (wI M i59) _ _ _
  have hn59 : mI (wI M i59) (a + 1) = _ := h59.1
  refine r_aload_n hX dX11_posts_62 rfl ?_
  refine r_iload hX dX11_posts_63 rfl ?_
  refine r_bipush (v := nI 6) hX dX11_posts_65 (by decide) ?_
  refine r_iconst (v := (-1)) hX dX11_posts_67 (by decide) ?_
  refine r_iV3 hX dX11_posts_68 IX11_sets ml_X11_71 rfl (LX11_s hL) rfl (t_X11_sets (M := wI M i59) hL hn59 (by omega) (by decide)) (by decide) (by decide) (by decide) (by decide) rfl (Nat.le_of_ble_eq_true rfl) (fun i68 h68 => ?_)
  show J G base X _ _ (wI M i68) _ _ _
  have hn68 : mI (wI M i68) (a + 1) = _ := h68.1
  refine r_aload_n hX dX11_posts_71 rfl ?_
  refine r_iload hX dX11_posts_72 rfl ?_
  refine r_bipush (v := nI 7) hX dX11_posts_74 (by decide) ?_
  refine r_iconst (v := (-1)) hX dX11_posts_76 (by decide) ?_
  refine r_iV3 hX dX11_posts_77 IX11_sets ml_X11_71 rfl (LX11_s hL) rfl (t_X11_sets (M := wI M i68) hL hn68 (by omega) (by decide)) (by decide) (by decide) (by decide) (by decide) rfl (Nat.le_of_ble_eq_true rfl) (fun i77 h77 => ?_)
  show J G base X _ _ (wI M i77) _ _ _
  have hn77 : mI (wI M i77) (a + 1) = _ := h77.1
  refine r_aload_n hX dX11_posts_80 rfl ?_
  refine r_iload hX dX11_posts_81 rfl ?_
  refine r_bipush (v := nI 8) hX dX11_posts_83 (by decide) ?_
  refine r_iconst (v := nI 0) hX dX11_posts_85 (by decide) ?_
  refine r_iV3 hX dX11_posts_86 IX11_sets ml_X11_71 rfl (LX11_s hL) rfl (t_X11_sets (M := wI M i77) hL hn77 (by omega) (by decide)) (by decide) (by decide) (by decide) (by decide) rfl (Nat.le_of_ble_eq_true rfl) (fun i86 h86 => ?_)
  show J G base X _ _ (wI M i86) _ _ _
  have hn86 : mI (wI M i86) (a + 1) = _ := h86.1
  refine r_aload_n hX dX11_posts_89 rfl ?_
  refine r_iload hX dX11_posts_90 rfl ?_
  refine r_bipush (v := nI 9) hX dX11_posts_92 (by decide) ?_
  refine r_iconst (v := nI 0) hX dX11_posts_94 (by decide) ?_
  refine r_iV3 hX dX11_posts_95 IX11_sets ml_X11_71 rfl (LX11_s hL) rfl (t_X11_sets (M := wI M i86) hL hn86 (by omega) (by decide)) (by decide) (by decide) (by decide) (by decide) rfl (Nat.le_of_ble_eq_true rfl) (fun i95 h95 => ?_)
  show J G base X _ _ (wI M i95) _ _ _
  have hn95 : mI (wI M i95) (a + 1) = _ := h95.1
  refine r_iload hX dX11_posts_98 rfl ?_
  refine r_ireturn hX rfl rfl dX11_posts_100 (by decide) (by decide) ?_
  exact ⟨rfl, i95, rfl, hn95, fun x hx => (h95.2 x hx).trans ((h86.2 x hx).trans ((h77.2 x hx).trans ((h68.2 x hx).trans ((h59.2 x hx).trans ((h45.2 x hx).trans ((h37.2 x hx).trans ((h29.2 x hx).trans ((h21.2 x hx).trans (f1 x hx)))))))))⟩
set_option maxHeartbeats 2000000 in
set_option maxRecDepth 20000 in
theorem t_X11_promises {M : Mm} {a : Nat} {n : Nat → Int32} (hL : LX11 M.1 M.2.1 a) (hn : mI M (a + 1) = n) (hT : TbOk n) (hS : SkOk n) {h l f t : Nat} (ht6 : n 6 = nI h) (hh : h < 900000) (hl : l < 30) (hf : n (498 + 10 * l + 0) = nI f) (ht : n (498 + 10 * l + 1) = nI t) (hfb : f < 10) (htb : t < nv n 0) : Ct G base YX11_promises 7 0 0 [.ref a, .int (nI l)] M (rI none M (fun i => i (a + 1) = upd n (498 + 10 * l + 6) (arP n f t) ∧ ∀ x, x ≠ a + 1 → x ≠ a + 7 ∧ x ≠ a + 8 ∧ x ≠ a + 9 → i x = mI M x)) := by
  refine Ct.of IX11_promises.1 (by simp [Value.category]) (Nat.le_of_ble_eq_true rfl) (fun X hX hN => ?_)
  show J G base X 0 0 M 0 [some (.ref a), some (.int (nI l))] []
  obtain ⟨hK, hK0⟩ := hS.k
  have h0 := hT.1
  have hb := h0.2
  refine r_aload_n hX dX11_promises_0 rfl ?_
  refine r_iconst (v := 0) hX dX11_promises_1 (by decide) ?_
  refine r_iconst (v := 1) hX dX11_promises_2 (by decide) ?_
  refine r_aload_n hX dX11_promises_3 rfl ?_
  refine r_iload_n hX dX11_promises_4 rfl ?_
  refine r_iconst (v := nI 0) hX dX11_promises_5 (by decide) ?_
  refine r_cV2 hX dX11_promises_6 IX11_of ml_X11_67 rfl (LX11_s hL) rfl (t_X11_of hL hn (by omega) (by decide)) (by decide) (by decide) (by decide) (by decide) rfl (Nat.le_of_ble_eq_true rfl) ?_
  rw [hf]
  refine r_ishl hX dX11_promises_9 ?_
  refine r_aload_n hX dX11_promises_10 rfl ?_
  refine r_getr hX dX11_promises_11 fl_X11_13 rfl (LX11_s hL) (LX11_r1 hL) ?_
  refine r_bipush (v := nI 6) hX dX11_promises_14 (by decide) ?_
  refine rn_iald hX dX11_promises_16 (LX11_a1 hL) rfl (by omega) (by omega) ?_
  rw [hn]
  rw [ht6]
  refine r_iV3 hX dX11_promises_17 IX11_laysArrivals ml_X11_225 rfl (LX11_s hL) rfl (t_X11_laysArrivals hL hn hT hK hK0 (C0 := fun _ => false) (O0 := fun x => decide (x = f)) (fun c hc => b_0 _) (fun q hq => bt_b1 (k := f) (by omega) q) (by omega)) (by decide) (by decide) (by decide) (by decide) rfl (Nat.le_of_ble_eq_true rfl) (fun i1 k1 => ?_)
  show J G base X _ _ (wI M i1) _ _ _
  have hn1 : mI (wI M i1) (a + 1) = n := (k1.2 _ ⟨by omega, by omega, by omega⟩).trans hn
  have har : mI (wI M i1) (a + 9) t = arP n f t := by
    rw [arP, nv_of ht6 (by omega)]
    exact k1.1 t htb
  refine r_aload_n hX dX11_promises_20 rfl ?_
  refine r_iload_n hX dX11_promises_21 rfl ?_
  refine r_bipush (v := nI 6) hX dX11_promises_22 (by decide) ?_
  refine r_aload_n hX dX11_promises_24 rfl ?_
  refine r_getr hX dX11_promises_25 fl_X11_42 rfl (LX11_s hL) (LX11_r18 hL) ?_
  refine r_aload_n hX dX11_promises_28 rfl ?_
  refine r_iload_n hX dX11_promises_29 rfl ?_
  refine r_iconst (v := nI 1) hX dX11_promises_30 (by decide) ?_
  refine r_cV2 hX dX11_promises_31 IX11_of ml_X11_67 rfl (LX11_s hL) rfl (t_X11_of (M := wI M i1) hL hn1 (by omega) (by decide)) (by decide) (by decide) (by decide) (by decide) rfl (Nat.le_of_ble_eq_true rfl) ?_
  rw [ht]
  refine rn_iald hX dX11_promises_34 (LX11_a18 hL) rfl (by omega) (by omega) ?_
  rw [har]
  refine r_iV3 hX dX11_promises_35 IX11_sets ml_X11_71 rfl (LX11_s hL) rfl (t_X11_sets (M := wI M i1) hL hn1 (by omega) (by decide)) (by decide) (by decide) (by decide) (by decide) rfl (Nat.le_of_ble_eq_true rfl) (fun i35 h35 => ?_)
  show J G base X _ _ (wI M i35) _ _ _
  have hn35 : mI (wI M i35) (a + 1) = _ := h35.1
  refine r_return hX rfl dX11_promises_38 (by decide) (by decide) ?_
  exact ⟨rfl, i35, rfl, hn35, fun x hx hx2 => (h35.2 x hx).trans (k1.2 x hx2)⟩
set_option maxHeartbeats 2000000 in
set_option maxRecDepth 20000 in
theorem t_X11_post {M : Mm} {a : Nat} {σ : Sg} {T : Nat} (hL : LX11 M.1 M.2.1 a) (hR : RI (mI M) a σ) (hO : OkN T σ.1) (hT9 : T < 890000) {x y z : Int32} : Ct G base YX11_post 8 0 0 [.ref a, .int x, .int y, .int z] M (rV M (pQ M a (rs_post σ x y z) (sg_post σ x y z))) := by
  obtain ⟨hT, hS, hLt, h4, h5, h6, hLo, hSt, hNa⟩ := hO
  have h0 := hT.1
  have h1 := hT.2.1
  have hr := hT.2.2
  have h2 := hLt.1
  have h3 := hLt.2.1
  have hb0 := h0.2
  have hb1 := h1.2
  have hb2 := h2.2
  have hb3 := h3.2
  have hb4 := h4.2
  have ht6 : σ.1 6 = nI (nv σ.1 6) := h6.1
  have hh6 : nv σ.1 6 ≤ T := h6.2
  by_cases hx : ∃ p q, x = nI p ∧ y = nI q ∧ town σ.1 p = true ∧ town σ.1 q = true ∧ p ≠ q
  · obtain ⟨p, q, rfl, rfl, hp, hq, hne⟩ := hx
    have hpt : p < nv σ.1 0 ∧ σ.1 (8 + p) = 1 := by simpa [town] using hp
    have hqt : q < nv σ.1 0 ∧ σ.1 (8 + q) = 1 := by simpa [town] using hq
    by_cases hv : ∃ v, v < 1000 ∧ z = nI v
    · obtain ⟨v, hv, rfl⟩ := hv
      refine Ct.of IX11_post.1 (by simp [Value.category]) (Nat.le_of_ble_eq_true rfl) (fun X hX hN => ?_)
      show J G base X 0 0 M 0 [some (.ref a), some (.int (nI p)), some (.int (nI q)), some (.int (nI v)), none] []
      refine r_aload_n hX dX11_post_0 rfl ?_
      refine r_iconst (v := nI 0) hX dX11_post_1 (by decide) ?_
      refine r_puti hX dX11_post_2 fl_X11_3 rfl rfl (LX11_s hL) ?_
      refine J.gen (M0 := M) rfl (fun i0 h00 => ?_)
      obtain ⟨hR0, hn0, ht0, ho0⟩ := pub0 hR h00
      clear h00
      refine r_aload_n hX dX11_post_5 rfl ?_
      refine r_iload_n hX dX11_post_6 rfl ?_
      refine r_iload_n hX dX11_post_7 rfl ?_
      refine r_cV2 hX dX11_post_8 IX11_noPair ml_X11_307 rfl (LX11_s hL) rfl (t_X11_noPair1 (M := wI M i0) hL hn0 h0 hp hq hne) (by decide) (by decide) (by decide) (by decide) rfl (Nat.le_of_ble_eq_true rfl) ?_
      refine r_if_ne (tgt := 60) hX dX11_post_11 (by decide) (fun c11 => absurd c11 (by decide)) (fun c11 => ?_)
      refine r_aload_n hX dX11_post_14 rfl ?_
      refine r_iload_n hX dX11_post_15 rfl ?_
      refine r_iconst (v := nI 0) hX dX11_post_16 (by decide) ?_
      refine r_sipush (v := nI 999) hX dX11_post_17 (by decide) ?_
      refine r_cS3 hX dX11_post_20 IX11_in ml_X11_79 rfl (t_X11_in (M := wI M i0) ) (by decide) (by decide) (by decide) (by decide) rfl (Nat.le_of_ble_eq_true rfl) ?_
      refine rb_if_ne (tgt := 30) hX dX11_post_23 (by decide) rfl (fun c23 => ?_) (fun c23 => absurd ((rng2 (m := 999) (by omega)).mpr ⟨v, hv, rfl⟩) c23)
      refine r_iconst (v := nI 0) hX dX11_post_30 (by decide) ?_
      refine r_iconst (v := nI 1) hX dX11_post_31 (by decide) ?_
      refine r_cV2 hX dX11_post_32 IX11_throwsIf ml_X11_215 rfl (LX11_s hL) rfl (t_X11_throwsIf0 (M := wI M i0) hL) (by decide) (by decide) (by decide) (by decide) rfl (Nat.le_of_ble_eq_true rfl) ?_
      refine r_if_ne (tgt := 60) hX dX11_post_35 (by decide) (fun c35 => absurd c35 (by decide)) (fun c35 => ?_)
      refine r_aload_n hX dX11_post_38 rfl ?_
      refine r_aload_n hX dX11_post_39 rfl ?_
      refine r_cV0 hX dX11_post_40 IX11_letters ml_X11_170 rfl (LX11_s hL) rfl (t_X11_letters (M := wI M i0) hL hn0 h2) (by decide) (by decide) (by decide) (by decide) rfl (Nat.le_of_ble_eq_true rfl) ?_
      refine r_bipush (v := nI 30) hX dX11_post_43 (by decide) ?_
      refine rn_icmp_ne (tgt := 52) hX dX11_post_45 (by decide) rfl rfl (by omega) (by omega) (fun c45 => ?_) (fun c45 => ?_)
      · refine r_iconst (v := nI 0) hX dX11_post_52 (by decide) ?_
        refine r_iconst (v := nI 2) hX dX11_post_53 (by decide) ?_
        refine r_cV2 hX dX11_post_54 IX11_throwsIf ml_X11_215 rfl (LX11_s hL) rfl (t_X11_throwsIf0 (M := wI M i0) hL) (by decide) (by decide) (by decide) (by decide) rfl (Nat.le_of_ble_eq_true rfl) ?_
        refine r_if_eq (tgt := 62) hX dX11_post_57 (by decide) (fun c57 => ?_) (fun c57 => absurd c57 (by decide))
        refine r_aload_n hX dX11_post_62 rfl ?_
        refine r_iV0 hX dX11_post_63 IX11_keeps ml_X11_316 rfl (LX11_s hL) rfl (t_X11_keeps (M := wI M i0) hL hR0) (by decide) (by decide) (by decide) (by decide) rfl (Nat.le_of_ble_eq_true rfl) (fun i2 k2 => ?_)
        obtain ⟨hR2, k2t, k2o⟩ := k2
        have ht2 : i2 a 0 = 0 := k2t.trans ht0
        have ho2 : outB i2 (mI M) a 14 := fun x hx k => (k2o x hx k).trans (ho0 x hx k)
        have hn2 : mI (wI M i2) (a + 1) = σ.1 := hR2.1
        show J G base X _ _ (wI M i2) _ _ _
        refine r_aload_n hX dX11_post_66 rfl ?_
        refine r_iload_n hX dX11_post_67 rfl ?_
        refine r_iload_n hX dX11_post_68 rfl ?_
        refine r_iload_n hX dX11_post_69 rfl ?_
        refine r_iV3 hX dX11_post_70 IX11_posts ml_X11_183 rfl (LX11_s hL) rfl (t_X11_posts (M := wI M i2) hL hn2 h2 (by omega)) (by decide) (by decide) (by decide) (by decide) rfl (Nat.le_of_ble_eq_true rfl) (fun i70 h70 => ?_)
        show J G base X _ _ (wI M i70) _ _ _
        have hn70 : mI (wI M i70) (a + 1) = _ := h70.1
        have hpt6 : postN σ.1 (nI p) (nI q) (nI v) 6 = nI (nv σ.1 6) := (postN_lo (by omega) (by omega)).trans ht6
        have htb := postN_tab (n := σ.1) (fr := nI p) (to := nI q) (vl := nI v)
        obtain ⟨w0, w1, -⟩ := postN_new (n := σ.1) (fr := nI p) (to := nI q) (vl := nI v)
        have hTp : TbOk (postN σ.1 (nI p) (nI q) (nI v)) := TbOk.tab htb.sm hT
        have hSp : SkOk (postN σ.1 (nI p) (nI q) (nI v)) := by
          have e : ∀ c, c < 5 → postN σ.1 (nI p) (nI q) (nI v) (33 + c) = σ.1 (33 + c) := fun c hc => postN_lo (by omega) (by omega)
          have e1 : nv (postN σ.1 (nI p) (nI q) (nI v)) 1 = nv σ.1 1 := by show (postN σ.1 (nI p) (nI q) (nI v) 1).toNatClampNeg = _; rw [htb.2.1]
          refine ⟨fun c hc => by rw [e c hc]; exact hS.1 c hc, fun c d hc hd z => ?_, fun c hc hm => ?_⟩
          · rw [e c hc, e d hd] at z
            exact hS.2.1 c d hc hd z
          · rw [e1] at hm
            rw [e c hc]
            exact hS.2.2 c hc hm
        have e0 : nv (postN σ.1 (nI p) (nI q) (nI v)) 0 = nv σ.1 0 := by show (postN σ.1 (nI p) (nI q) (nI v) 0).toNatClampNeg = _; rw [htb.1]
        refine r_istore4 hX dX11_post_73 rfl ?_
        refine r_aload_n hX dX11_post_75 rfl ?_
        refine r_iload hX dX11_post_76 rfl ?_
        refine r_iV1 hX dX11_post_78 IX11_promises ml_X11_219 rfl (LX11_s hL) rfl (t_X11_promises (M := wI M i70) hL hn70 hTp hSp hpt6 (by omega) (by omega) w0 w1 (by omega) (by omega)) (by decide) (by decide) (by decide) (by decide) rfl (Nat.le_of_ble_eq_true rfl) (fun i3 k3 => ?_)
        show J G base X _ _ (wI M i3) _ _ _
        refine r_iload hX dX11_post_81 rfl ?_
        refine r_ireturn hX rfl rfl dX11_post_83 (by decide) (by decide) ?_
        have e9 : arP (postN σ.1 (nI p) (nI q) (nI v)) p q = arP σ.1 p q := arP_eq htb (postN_lo (by omega) (by omega)) hTp
        obtain ⟨r1, r2, r3, r4⟩ := pubR (j := i3) hR2 ho2 ht2 k3.1 (fun x hx hx2 => (k3.2 x hx ⟨by omega, by omega, by omega⟩).trans (h70.2 x hx))
        refine ⟨_, i3, rfl, rfl, ?_, ?_, r4⟩
        · unfold sg_post
          rw [pair_ok hb0 hp hq hne]
          dsimp only
          rw [ix_of hv (by omega)]
          dsimp only
          rw [if_neg (by omega), ← e9]
          exact r1
        · unfold rs_post
          rw [pair_ok hb0 hp hq hne]
          dsimp only
          rw [ix_of hv (by omega)]
          dsimp only
          rw [if_neg (by omega)]
          exact ⟨rfl, r3⟩
      · refine r_iconst (v := nI 1) hX dX11_post_48 (by decide) ?_
        refine r_goto (tgt := 53) hX dX11_post_49 (by decide) ?_
        refine r_iconst (v := nI 2) hX dX11_post_53 (by decide) ?_
        refine r_cV2 hX dX11_post_54 IX11_throwsIf ml_X11_215 rfl (LX11_s hL) rfl (t_X11_throwsIf1 (M := wI M i0) hL) (by decide) (by decide) (by decide) (by decide) rfl (Nat.le_of_ble_eq_true rfl) ?_
        refine r_if_eq (tgt := 62) hX dX11_post_57 (by decide) (fun c57 => absurd c57 (by decide)) (fun c57 => ?_)
        refine r_iconst (v := 0) hX dX11_post_60 (by decide) ?_
        refine r_ireturn hX rfl rfl dX11_post_61 (by decide) (by decide) ?_
        obtain ⟨q1, q2, q3⟩ := pub1 hR0 ho0 2
        refine ⟨_, mI (uI (wI M i0) a 0 2), rfl, rfl, ?_, ?_, q3⟩
        · unfold sg_post
          rw [pair_ok hb0 hp hq hne]
          dsimp only
          rw [ix_of hv (by omega)]
          dsimp only
          rw [if_pos (by omega)]
          exact q1
        · unfold rs_post
          rw [pair_ok hb0 hp hq hne]
          dsimp only
          rw [ix_of hv (by omega)]
          dsimp only
          rw [if_pos (by omega)]
          exact q2
    · refine Ct.of IX11_post.1 (by simp [Value.category]) (Nat.le_of_ble_eq_true rfl) (fun X hX hN => ?_)
      show J G base X 0 0 M 0 [some (.ref a), some (.int (nI p)), some (.int (nI q)), some (.int z), none] []
      refine r_aload_n hX dX11_post_0 rfl ?_
      refine r_iconst (v := nI 0) hX dX11_post_1 (by decide) ?_
      refine r_puti hX dX11_post_2 fl_X11_3 rfl rfl (LX11_s hL) ?_
      refine J.gen (M0 := M) rfl (fun i0 h00 => ?_)
      obtain ⟨hR0, hn0, ht0, ho0⟩ := pub0 hR h00
      clear h00
      refine r_aload_n hX dX11_post_5 rfl ?_
      refine r_iload_n hX dX11_post_6 rfl ?_
      refine r_iload_n hX dX11_post_7 rfl ?_
      refine r_cV2 hX dX11_post_8 IX11_noPair ml_X11_307 rfl (LX11_s hL) rfl (t_X11_noPair1 (M := wI M i0) hL hn0 h0 hp hq hne) (by decide) (by decide) (by decide) (by decide) rfl (Nat.le_of_ble_eq_true rfl) ?_
      refine r_if_ne (tgt := 60) hX dX11_post_11 (by decide) (fun c11 => absurd c11 (by decide)) (fun c11 => ?_)
      refine r_aload_n hX dX11_post_14 rfl ?_
      refine r_iload_n hX dX11_post_15 rfl ?_
      refine r_iconst (v := nI 0) hX dX11_post_16 (by decide) ?_
      refine r_sipush (v := nI 999) hX dX11_post_17 (by decide) ?_
      refine r_cS3 hX dX11_post_20 IX11_in ml_X11_79 rfl (t_X11_in (M := wI M i0) ) (by decide) (by decide) (by decide) (by decide) rfl (Nat.le_of_ble_eq_true rfl) ?_
      refine rb_if_ne (tgt := 30) hX dX11_post_23 (by decide) rfl (fun c23 => absurd ((rng2 (m := 999) (by omega)).mp c23) hv) (fun c23 => ?_)
      refine r_iconst (v := nI 1) hX dX11_post_26 (by decide) ?_
      refine r_goto (tgt := 31) hX dX11_post_27 (by decide) ?_
      refine r_iconst (v := nI 1) hX dX11_post_31 (by decide) ?_
      refine r_cV2 hX dX11_post_32 IX11_throwsIf ml_X11_215 rfl (LX11_s hL) rfl (t_X11_throwsIf1 (M := wI M i0) hL) (by decide) (by decide) (by decide) (by decide) rfl (Nat.le_of_ble_eq_true rfl) ?_
      refine r_if_ne (tgt := 60) hX dX11_post_35 (by decide) (fun c35 => ?_) (fun c35 => absurd c35 (by decide))
      refine r_iconst (v := 0) hX dX11_post_60 (by decide) ?_
      refine r_ireturn hX rfl rfl dX11_post_61 (by decide) (by decide) ?_
      obtain ⟨q1, q2, q3⟩ := pub1 hR0 ho0 1
      refine ⟨_, mI (uI (wI M i0) a 0 1), rfl, rfl, ?_, ?_, q3⟩
      · unfold sg_post
        rw [pair_ok hb0 hp hq hne]
        dsimp only
        rw [ix_no hv]
        exact q1
      · unfold rs_post
        rw [pair_ok hb0 hp hq hne]
        dsimp only
        rw [ix_no hv]
        exact q2
  · refine Ct.of IX11_post.1 (by simp [Value.category]) (Nat.le_of_ble_eq_true rfl) (fun X hX hN => ?_)
    show J G base X 0 0 M 0 [some (.ref a), some (.int x), some (.int y), some (.int z), none] []
    refine r_aload_n hX dX11_post_0 rfl ?_
    refine r_iconst (v := nI 0) hX dX11_post_1 (by decide) ?_
    refine r_puti hX dX11_post_2 fl_X11_3 rfl rfl (LX11_s hL) ?_
    refine J.gen (M0 := M) rfl (fun i0 h00 => ?_)
    obtain ⟨hR0, hn0, ht0, ho0⟩ := pub0 hR h00
    clear h00
    refine r_aload_n hX dX11_post_5 rfl ?_
    refine r_iload_n hX dX11_post_6 rfl ?_
    refine r_iload_n hX dX11_post_7 rfl ?_
    refine r_cV2 hX dX11_post_8 IX11_noPair ml_X11_307 rfl (LX11_s hL) rfl (t_X11_noPair0 (M := wI M i0) hL hn0 h0 hx) (by decide) (by decide) (by decide) (by decide) rfl (Nat.le_of_ble_eq_true rfl) ?_
    refine r_if_ne (tgt := 60) hX dX11_post_11 (by decide) (fun c11 => ?_) (fun c11 => absurd c11 (by decide))
    refine r_iconst (v := 0) hX dX11_post_60 (by decide) ?_
    refine r_ireturn hX rfl rfl dX11_post_61 (by decide) (by decide) ?_
    obtain ⟨q1, q2, q3⟩ := pub1 hR0 ho0 1
    refine ⟨_, mI (uI (wI M i0) a 0 1), rfl, rfl, ?_, ?_, q3⟩
    · unfold sg_post
      rw [pair_no hb0 hx]
      exact q1
    · unfold rs_post
      rw [pair_no hb0 hx]
      exact q2

set_option maxHeartbeats 2000000 in
set_option maxRecDepth 20000 in
theorem t_X11_lose {M : Mm} {a : Nat} {σ : Sg} {T : Nat} (hL : LX11 M.1 M.2.1 a) (hR : RI (mI M) a σ) (hO : OkN T σ.1) (hT9 : T < 890000) {x : Int32} : Ct G base YX11_lose 4 0 0 [.ref a, .int x] M (rV M (pQ M a (rs_lose σ x) (sg_lose σ x))) := by
  obtain ⟨hT, hS, hLt, h4, h5, h6, hLo, hSt, hNa⟩ := hO
  have h0 := hT.1
  have h1 := hT.2.1
  have hr := hT.2.2
  have h2 := hLt.1
  have h3 := hLt.2.1
  have hb0 := h0.2
  have hb1 := h1.2
  have hb2 := h2.2
  have hb3 := h3.2
  have hb4 := h4.2
  have ht6 : σ.1 6 = nI (nv σ.1 6) := h6.1
  have hh6 : nv σ.1 6 ≤ T := h6.2
  by_cases hx : ∃ c, c < nv σ.1 1 ∧ x = nI c
  · obtain ⟨c, hc, rfl⟩ := hx
    refine Ct.of IX11_lose.1 (by simp [Value.category]) (Nat.le_of_ble_eq_true rfl) (fun X hX hN => ?_)
    show J G base X 0 0 M 0 [some (.ref a), some (.int (nI c)), none, none, none, none] []
    refine r_aload_n hX dX11_lose_0 rfl ?_
    refine r_iconst (v := nI 0) hX dX11_lose_1 (by decide) ?_
    refine r_puti hX dX11_lose_2 fl_X11_3 rfl rfl (LX11_s hL) ?_
    refine J.gen (M0 := M) rfl (fun i0 h00 => ?_)
    obtain ⟨hR0, hn0, ht0, ho0⟩ := pub0 hR h00
    clear h00
    refine r_aload_n hX dX11_lose_5 rfl ?_
    refine r_iload_n hX dX11_lose_6 rfl ?_
    refine r_cV1 hX dX11_lose_7 IX11_noCarrier ml_X11_286 rfl (LX11_s hL) rfl (t_X11_noCarrier1 (M := wI M i0) hL hn0 h1 ⟨c, hc, rfl⟩) (by decide) (by decide) (by decide) (by decide) rfl (Nat.le_of_ble_eq_true rfl) ?_
    refine r_if_eq (tgt := 15) hX dX11_lose_10 (by decide) (fun c10 => ?_) (fun c10 => absurd c10 (by decide))
    refine r_aload_n hX dX11_lose_15 rfl ?_
    refine r_iV0 hX dX11_lose_16 IX11_keeps ml_X11_316 rfl (LX11_s hL) rfl (t_X11_keeps (M := wI M i0) hL hR0) (by decide) (by decide) (by decide) (by decide) rfl (Nat.le_of_ble_eq_true rfl) (fun i2 k2 => ?_)
    obtain ⟨hR2, k2t, k2o⟩ := k2
    have ht2 : i2 a 0 = 0 := k2t.trans ht0
    have ho2 : outB i2 (mI M) a 14 := fun x hx k => (k2o x hx k).trans (ho0 x hx k)
    have hn2 : mI (wI M i2) (a + 1) = σ.1 := hR2.1
    show J G base X _ _ (wI M i2) _ _ _
    have hck := cntK_le (lK σ.1) (lW σ.1) 1 (σ.1 (33 + c)) (nv σ.1 2)
    have hlost := lost_lt hLt hLo (s := σ.1 (33 + c))
    generalize hcc : cntK (lK σ.1) (lW σ.1) 1 (σ.1 (33 + c)) (nv σ.1 2) = cnt at hck
    refine r_aload_n hX dX11_lose_19 rfl ?_
    refine r_getr hX dX11_lose_20 fl_X11_13 rfl (LX11_s hL) (LX11_r1 hL) ?_
    refine r_bipush (v := nI 33) hX dX11_lose_23 (by decide) ?_
    refine r_iload_n hX dX11_lose_25 rfl ?_
    refine rn_iadd hX dX11_lose_26 rfl rfl ?_
    refine rn_iald hX dX11_lose_27 (LX11_a1 hL) rfl (by omega) (by omega) ?_
    rw [hn2]
    refine r_istore2 hX dX11_lose_28 rfl ?_
    refine r_aload_n hX dX11_lose_29 rfl ?_
    refine r_iconst (v := nI 1) hX dX11_lose_30 (by decide) ?_
    refine r_iload_n hX dX11_lose_31 rfl ?_
    refine r_cV2 hX dX11_lose_32 IX11_manyIn ml_X11_289 rfl (LX11_s hL) rfl (t_X11_manyIn (M := wI M i2) hL hn2 h2) (by decide) (by decide) (by decide) (by decide) rfl (Nat.le_of_ble_eq_true rfl) ?_
    rw [show cntK (lK σ.1) (lW σ.1) (nI 1) (σ.1 (33 + c)) (nv σ.1 2) = cnt from hcc]
    refine r_istore3 hX dX11_lose_35 rfl ?_
    refine r_iload_n hX dX11_lose_36 rfl ?_
    refine rn_if_ne (tgt := 42) hX dX11_lose_37 (by decide) rfl (by omega) (fun c37 => ?_) (fun c37 => ?_)
    · refine r_aload_n hX dX11_lose_42 rfl ?_
      refine r_getr hX dX11_lose_43 fl_X11_13 rfl (LX11_s hL) (LX11_r1 hL) ?_
      refine r_iconst (v := nI 3) hX dX11_lose_46 (by decide) ?_
      refine rn_iald hX dX11_lose_47 (LX11_a1 hL) rfl (by omega) (by omega) ?_
      rw [hn2]
      rw [h3.1]
      refine r_istore4 hX dX11_lose_48 rfl ?_
      refine r_aload_n hX dX11_lose_50 rfl ?_
      refine r_getr hX dX11_lose_51 fl_X11_13 rfl (LX11_s hL) (LX11_r1 hL) ?_
      refine r_iconst (v := nI 3) hX dX11_lose_54 (by decide) ?_
      refine r_dup2 hX dX11_lose_55 rfl rfl ?_
      refine rn_iald hX dX11_lose_56 (LX11_a1 hL) rfl (by omega) (by omega) ?_
      rw [hn2]
      rw [h3.1]
      refine r_iconst (v := nI 1) hX dX11_lose_57 (by decide) ?_
      refine rn_iadd hX dX11_lose_58 rfl rfl ?_
      refine rn_iast hX dX11_lose_59 (LX11_a1 hL) rfl (by omega) (by omega) ?_
      refine r_aload_n hX dX11_lose_60 rfl ?_
      refine r_getr hX dX11_lose_61 fl_X11_13 rfl (LX11_s hL) (LX11_r1 hL) ?_
      refine r_sipush (v := nI 798) hX dX11_lose_64 (by decide) ?_
      refine r_iconst (v := nI 2) hX dX11_lose_67 (by decide) ?_
      refine r_iload hX dX11_lose_68 rfl ?_
      refine rn_imul hX dX11_lose_70 rfl rfl ?_
      refine rn_iadd hX dX11_lose_71 rfl rfl ?_
      refine r_iload_n hX dX11_lose_72 rfl ?_
      refine rn_iast hX dX11_lose_73 (LX11_a1 hL) rfl (by omega) (by omega) ?_
      refine r_aload_n hX dX11_lose_74 rfl ?_
      refine r_getr hX dX11_lose_75 fl_X11_13 rfl (LX11_s hL) (LX11_r1 hL) ?_
      refine r_sipush (v := nI 798) hX dX11_lose_78 (by decide) ?_
      refine r_iconst (v := nI 2) hX dX11_lose_81 (by decide) ?_
      refine r_iload hX dX11_lose_82 rfl ?_
      refine rn_imul hX dX11_lose_84 rfl rfl ?_
      refine rn_iadd hX dX11_lose_85 rfl rfl ?_
      refine r_iconst (v := nI 1) hX dX11_lose_86 (by decide) ?_
      refine rn_iadd hX dX11_lose_87 rfl rfl ?_
      refine r_aload_n hX dX11_lose_88 rfl ?_
      refine r_getr hX dX11_lose_89 fl_X11_13 rfl (LX11_s hL) (LX11_r1 hL) ?_
      refine r_bipush (v := nI 6) hX dX11_lose_92 (by decide) ?_
      refine rn_iald hX dX11_lose_94 (LX11_a1 hL) rfl (by omega) (by omega) ?_
      rw [show mI (uI (uI (wI M i2) (a + 1) 3 (nI (nv σ.1 3 + 1))) (a + 1) (798 + 2 * nv σ.1 3) (nI c)) (a + 1) 6 = σ.1 6 from by rw [uIA (uIA hn2), upd_o (by omega), upd_o (by omega)]]
      refine rn_iast hX dX11_lose_95 (LX11_a1 hL) rfl (by omega) (by omega) ?_
      have hlb : nv σ.1 3 < 30 := hlost (by rw [hcc]; exact c37)
      refine J.gen (M0 := M) rfl (fun i3 k3 => ?_)
      have hn3 : mI (wI M i3) (a + 1) = los0 σ.1 (nI c) := by
        funext q
        show i3 (a + 1) q = _
        rw [k3]
        simp only [mI_uI, if_true, los0, upd, show mI (wI M i2) (a + 1) = σ.1 from hn2]
        try rfl
      have f3 : ∀ x, x ≠ a + 1 → i3 x = i2 x := fun x hx => by
        funext q
        rw [k3]
        simp [mI_uI, hx, mI_wI]
      clear k3
      refine r_iconst (v := nI 0) hX dX11_lose_96 (by decide) ?_
      refine r_istore5 hX dX11_lose_97 rfl ?_
      have h40 : Rn (los0 σ.1 (nI c)) 4 60 := by
        have e : los0 σ.1 (nI c) 4 = σ.1 4 := by unfold los0; rw [upd_o (by omega), upd_o (by omega), upd_o (by omega)]
        exact ⟨by show los0 σ.1 (nI c) 4 = nI ((los0 σ.1 (nI c) 4).toNatClampNeg); rw [e]; exact h4.1, by show (los0 σ.1 (nI c) 4).toNatClampNeg ≤ 60; rw [e]; exact h4.2⟩
      have e20 : nv (los0 σ.1 (nI c)) 2 = nv σ.1 2 := by show (los0 σ.1 (nI c) 2).toNatClampNeg = _; unfold los0; rw [upd_o (by omega), upd_o (by omega), upd_o (by omega)]
      have h20 : Rn (los0 σ.1 (nI c)) 2 30 := ⟨by rw [e20]; unfold los0; rw [upd_o (by omega), upd_o (by omega), upd_o (by omega)]; exact h2.1, by rw [e20]; exact hb2⟩
      refine loop_us (σ := Nat → Nat → Int32) (P := fun j i => (i (a + 1) = losL (los0 σ.1 (nI c)) (σ.1 (33 + c)) (nI (nv σ.1 3)) (nI c) j ∧ ∀ x, x ≠ a + 1 → i x = i2 x) → J G base X 0 0 (wI M i) 99 [some (.ref a), some (.int (nI c)), some (.int (σ.1 (33 + c))), some (.int (nI cnt)), some (.int (nI (nv σ.1 3))), some (.int (nI j))] []) (nv σ.1 2) (fun j i hj ih hi => ?_) 0 i3 (Nat.zero_le _) ⟨hn3, f3⟩
      have hni : mI (wI M i) (a + 1) = losL (los0 σ.1 (nI c)) (σ.1 (33 + c)) (nI (nv σ.1 3)) (nI c) j := hi.1
      have hsj := losL_sm (s := σ.1 (33 + c)) (lo := nI (nv σ.1 3)) (c := nI c) h40 j
      have e2j := (hsj.nv (q := 2) (by omega) (by omega) (by omega)).trans e20
      have h2j := hsj.Rn (q := 2) (by omega) (by omega) (by omega) h20
      have hstep : losL (los0 σ.1 (nI c)) (σ.1 (33 + c)) (nI (nv σ.1 3)) (nI c) (j + 1) = if losL (los0 σ.1 (nI c)) (σ.1 (33 + c)) (nI (nv σ.1 3)) (nI c) j (498 + 10 * j + 3) = 1 ∧ losL (los0 σ.1 (nI c)) (σ.1 (33 + c)) (nI (nv σ.1 3)) (nI c) j (498 + 10 * j + 4) = σ.1 (33 + c) then wrL (liesN (losL (los0 σ.1 (nI c)) (σ.1 (33 + c)) (nI (nv σ.1 3)) (nI c) j) j 3 (nI (nv σ.1 3))) j 4 (nI c) (-1) else losL (los0 σ.1 (nI c)) (σ.1 (33 + c)) (nI (nv σ.1 3)) (nI c) j := rfl
      generalize losL (los0 σ.1 (nI c)) (σ.1 (33 + c)) (nI (nv σ.1 3)) (nI c) (j + 1) = y1 at *
      generalize hyj : losL (los0 σ.1 (nI c)) (σ.1 (33 + c)) (nI (nv σ.1 3)) (nI c) j = y at *
      have hly := (hsj.lies j 3 (nI (nv σ.1 3))).2
      refine r_iload hX dX11_lose_99 rfl ?_
      refine r_aload_n hX dX11_lose_101 rfl ?_
      refine r_cV0 hX dX11_lose_102 IX11_letters ml_X11_170 rfl (LX11_s hL) rfl (t_X11_letters (M := wI M i) hL hni h2j) (by decide) (by decide) (by decide) (by decide) rfl (Nat.le_of_ble_eq_true rfl) ?_
      rw [e2j]
      refine rn_icmp_ge (tgt := 146) hX dX11_lose_105 (by decide) rfl rfl (by omega) (by omega) (fun c105 => ?_) (fun c105 => ?_)
      · refine r_iload_n hX dX11_lose_146 rfl ?_
        refine r_ireturn hX rfl rfl dX11_lose_147 (by decide) (by decide) ?_
        obtain rfl : j = nv σ.1 2 := by omega
        obtain ⟨r1, r2, r3, r4⟩ := pubR (j := i) hR2 ho2 ht2 hni (fun x hx _ => hi.2 x hx)
        refine ⟨_, i, rfl, rfl, ?_, ?_, r4⟩
        · unfold sg_lose
          rw [ix_of hc (by omega)]
          dsimp only
          unfold loseN
          rw [if_neg (by rw [hcc]; exact c37), hyj]
          exact r1
        · unfold rs_lose
          rw [ix_of hc (by omega)]
          dsimp only
          rw [hcc]
          exact ⟨rfl, r3⟩
      · refine r_aload_n hX dX11_lose_108 rfl ?_
        refine r_iload hX dX11_lose_109 rfl ?_
        refine r_iconst (v := nI 1) hX dX11_lose_111 (by decide) ?_
        refine r_iload_n hX dX11_lose_112 rfl ?_
        refine r_cV3 hX dX11_lose_113 IX11_isIn ml_X11_262 rfl (LX11_s hL) rfl (t_X11_isIn (M := wI M i) hL hni (by omega)) (by decide) (by decide) (by decide) (by decide) rfl (Nat.le_of_ble_eq_true rfl) ?_
        refine rb_if_ne (tgt := 122) hX dX11_lose_116 (by decide) rfl (fun c116 => ?_) (fun c116 => ?_)
        · refine r_aload_n hX dX11_lose_122 rfl ?_
          refine r_iload hX dX11_lose_123 rfl ?_
          refine r_iconst (v := nI 3) hX dX11_lose_125 (by decide) ?_
          refine r_iload hX dX11_lose_126 rfl ?_
          refine r_iV3 hX dX11_lose_128 IX11_lies ml_X11_222 rfl (LX11_s hL) rfl (t_X11_lies (M := wI M i) hL hni (by omega)) (by decide) (by decide) (by decide) (by decide) rfl (Nat.le_of_ble_eq_true rfl) (fun i128 h128 => ?_)
          show J G base X _ _ (wI M i128) _ _ _
          have hn128 : mI (wI M i128) (a + 1) = _ := h128.1
          refine r_aload_n hX dX11_lose_131 rfl ?_
          refine r_iload hX dX11_lose_132 rfl ?_
          refine r_iconst (v := nI 4) hX dX11_lose_134 (by decide) ?_
          refine r_iload_n hX dX11_lose_135 rfl ?_
          refine r_iconst (v := (-1)) hX dX11_lose_136 (by decide) ?_
          refine r_iV4 hX dX11_lose_137 IX11_writes ml_X11_255 rfl (LX11_s hL) rfl (t_X11_writes (M := wI M i128) hL hn128 (by omega) hly) (by decide) (by decide) (by decide) (by decide) rfl (Nat.le_of_ble_eq_true rfl) (fun i137 h137 => ?_)
          show J G base X _ _ (wI M i137) _ _ _
          have hn137 : mI (wI M i137) (a + 1) = _ := h137.1
          refine rn_iinc5 hX dX11_lose_140 rfl rfl ?_
          refine r_goto (tgt := 99) hX dX11_lose_143 (by decide) ?_
          exact ih (by omega) i137 ⟨by rw [hstep, if_pos (show y (498 + 10 * j + 3) = 1 ∧ y (498 + 10 * j + 4) = σ.1 (33 + c) from c116)]; exact hn137, fun x hx => (h137.2 x hx).trans ((h128.2 x hx).trans (hi.2 x hx))⟩
        · refine r_goto (tgt := 140) hX dX11_lose_119 (by decide) ?_
          refine rn_iinc5 hX dX11_lose_140 rfl rfl ?_
          refine r_goto (tgt := 99) hX dX11_lose_143 (by decide) ?_
          exact ih (by omega) i ⟨by rw [hstep, if_neg (show ¬ (y (498 + 10 * j + 3) = 1 ∧ y (498 + 10 * j + 4) = σ.1 (33 + c)) from c116)]; exact hni, hi.2⟩
    · refine r_iconst (v := 0) hX dX11_lose_40 (by decide) ?_
      refine r_ireturn hX rfl rfl dX11_lose_41 (by decide) (by decide) ?_
      have e0 : loseN σ.1 c = σ.1 := by unfold loseN; rw [if_pos (hcc.trans c37)]
      refine ⟨_, i2, rfl, rfl, ?_, ?_, ho2⟩
      · unfold sg_lose
        rw [ix_of hc (by omega)]
        dsimp only
        rw [e0]
        exact hR2.row2 hn2 (fun _ _ => rfl)
      · unfold rs_lose
        rw [ix_of hc (by omega)]
        dsimp only
        rw [hcc, c37]
        exact ⟨rfl, ht2⟩
  · refine Ct.of IX11_lose.1 (by simp [Value.category]) (Nat.le_of_ble_eq_true rfl) (fun X hX hN => ?_)
    show J G base X 0 0 M 0 [some (.ref a), some (.int x), none, none, none, none] []
    refine r_aload_n hX dX11_lose_0 rfl ?_
    refine r_iconst (v := nI 0) hX dX11_lose_1 (by decide) ?_
    refine r_puti hX dX11_lose_2 fl_X11_3 rfl rfl (LX11_s hL) ?_
    refine J.gen (M0 := M) rfl (fun i0 h00 => ?_)
    obtain ⟨hR0, hn0, ht0, ho0⟩ := pub0 hR h00
    clear h00
    refine r_aload_n hX dX11_lose_5 rfl ?_
    refine r_iload_n hX dX11_lose_6 rfl ?_
    refine r_cV1 hX dX11_lose_7 IX11_noCarrier ml_X11_286 rfl (LX11_s hL) rfl (t_X11_noCarrier0 (M := wI M i0) hL hn0 h1 hx) (by decide) (by decide) (by decide) (by decide) rfl (Nat.le_of_ble_eq_true rfl) ?_
    refine r_if_eq (tgt := 15) hX dX11_lose_10 (by decide) (fun c10 => absurd c10 (by decide)) (fun c10 => ?_)
    refine r_iconst (v := 0) hX dX11_lose_13 (by decide) ?_
    refine r_ireturn hX rfl rfl dX11_lose_14 (by decide) (by decide) ?_
    obtain ⟨q1, q2, q3⟩ := pub1 hR0 ho0 1
    refine ⟨_, mI (uI (wI M i0) a 0 1), rfl, rfl, ?_, ?_, q3⟩
    · unfold sg_lose
      rw [ix_no hx]
      exact q1
    · unfold rs_lose
      rw [ix_no hx]
      exact q2

set_option maxHeartbeats 2000000 in
set_option maxRecDepth 20000 in
theorem t_X11_find_ {M : Mm} {a : Nat} {σ : Sg} {T : Nat} (hL : LX11 M.1 M.2.1 a) (hR : RI (mI M) a σ) (hO : OkN T σ.1) (hT9 : T < 890000) {x y : Int32} : Ct G base YX11_find_ 4 0 0 [.ref a, .int x, .int y] M (rV M (pQ M a (rs_find σ x y) (sg_find σ x y))) := by
  obtain ⟨hT, hS, hLt, h4, h5, h6, hLo, hSt, hNa⟩ := hO
  have h0 := hT.1
  have h1 := hT.2.1
  have hr := hT.2.2
  have h2 := hLt.1
  have h3 := hLt.2.1
  have hb0 := h0.2
  have hb1 := h1.2
  have hb2 := h2.2
  have hb3 := h3.2
  have hb4 := h4.2
  have ht6 : σ.1 6 = nI (nv σ.1 6) := h6.1
  have hh6 : nv σ.1 6 ≤ T := h6.2
  by_cases hx : ∃ c, c < nv σ.1 3 ∧ x = nI c
  · obtain ⟨k, hk, rfl⟩ := hx
    by_cases hv : ∃ p, y = nI p ∧ town σ.1 p = true
    · obtain ⟨p, rfl, hp⟩ := hv
      have hpt : p < nv σ.1 0 ∧ σ.1 (8 + p) = 1 := by simpa [town] using hp
      refine Ct.of IX11_find_.1 (by simp [Value.category]) (Nat.le_of_ble_eq_true rfl) (fun X hX hN => ?_)
      show J G base X 0 0 M 0 [some (.ref a), some (.int (nI k)), some (.int (nI p)), none, none, none] []
      refine r_aload_n hX dX11_find__0 rfl ?_
      refine r_iconst (v := nI 0) hX dX11_find__1 (by decide) ?_
      refine r_puti hX dX11_find__2 fl_X11_3 rfl rfl (LX11_s hL) ?_
      refine J.gen (M0 := M) rfl (fun i0 h00 => ?_)
      obtain ⟨hR0, hn0, ht0, ho0⟩ := pub0 hR h00
      clear h00
      refine r_aload_n hX dX11_find__5 rfl ?_
      refine r_iload_n hX dX11_find__6 rfl ?_
      refine r_cV1 hX dX11_find__7 IX11_noLost ml_X11_313 rfl (LX11_s hL) rfl (t_X11_noLost1 (M := wI M i0) hL hn0 h3 ⟨k, hk, rfl⟩) (by decide) (by decide) (by decide) (by decide) rfl (Nat.le_of_ble_eq_true rfl) ?_
      refine r_if_ne (tgt := 34) hX dX11_find__10 (by decide) (fun c10 => absurd c10 (by decide)) (fun c10 => ?_)
      refine r_aload_n hX dX11_find__13 rfl ?_
      refine r_aload_n hX dX11_find__14 rfl ?_
      refine r_iload_n hX dX11_find__15 rfl ?_
      refine r_cV1 hX dX11_find__16 IX11_isTown ml_X11_166 rfl (LX11_s hL) rfl (t_X11_isTown (M := wI M i0) hL hn0 h0) (by decide) (by decide) (by decide) (by decide) rfl (Nat.le_of_ble_eq_true rfl) ?_
      refine rb_if_ne (tgt := 26) hX dX11_find__19 (by decide) rfl (fun c19 => ?_) (fun c19 => absurd ((town_iff h0 hpt.1).mpr hp) c19)
      refine r_iconst (v := nI 0) hX dX11_find__26 (by decide) ?_
      refine r_iconst (v := nI 2) hX dX11_find__27 (by decide) ?_
      refine r_cV2 hX dX11_find__28 IX11_throwsIf ml_X11_215 rfl (LX11_s hL) rfl (t_X11_throwsIf0 (M := wI M i0) hL) (by decide) (by decide) (by decide) (by decide) rfl (Nat.le_of_ble_eq_true rfl) ?_
      refine r_if_eq (tgt := 36) hX dX11_find__31 (by decide) (fun c31 => ?_) (fun c31 => absurd c31 (by decide))
      refine r_aload_n hX dX11_find__36 rfl ?_
      refine r_iV0 hX dX11_find__37 IX11_keeps ml_X11_316 rfl (LX11_s hL) rfl (t_X11_keeps (M := wI M i0) hL hR0) (by decide) (by decide) (by decide) (by decide) rfl (Nat.le_of_ble_eq_true rfl) (fun i2 k2 => ?_)
      obtain ⟨hR2, k2t, k2o⟩ := k2
      have ht2 : i2 a 0 = 0 := k2t.trans ht0
      have ho2 : outB i2 (mI M) a 14 := fun x hx k => (k2o x hx k).trans (ho0 x hx k)
      have hn2 : mI (wI M i2) (a + 1) = σ.1 := hR2.1
      show J G base X _ _ (wI M i2) _ _ _
      have hcc9 := cntK_le (lK σ.1) (lW σ.1) 3 (nI k) (nv σ.1 2)
      generalize hcc : cntK (lK σ.1) (lW σ.1) 3 (nI k) (nv σ.1 2) = cnt at hcc9
      refine r_aload_n hX dX11_find__40 rfl ?_
      refine r_iconst (v := nI 3) hX dX11_find__41 (by decide) ?_
      refine r_iload_n hX dX11_find__42 rfl ?_
      refine r_cV2 hX dX11_find__43 IX11_manyIn ml_X11_289 rfl (LX11_s hL) rfl (t_X11_manyIn (M := wI M i2) hL hn2 h2) (by decide) (by decide) (by decide) (by decide) rfl (Nat.le_of_ble_eq_true rfl) ?_
      rw [show cntK (lK σ.1) (lW σ.1) (nI 3) (nI k) (nv σ.1 2) = cnt from hcc]
      refine r_istore3 hX dX11_find__46 rfl ?_
      refine r_iconst (v := nI 0) hX dX11_find__47 (by decide) ?_
      refine r_istore4 hX dX11_find__48 rfl ?_
      refine loop_us (σ := Nat → Nat → Int32) (P := fun j i => (i (a + 1) = fouL σ.1 k p j ∧ ∀ x, x ≠ a + 1 → i x = i2 x) → J G base X 0 0 (wI M i) 50 [some (.ref a), some (.int (nI k)), some (.int (nI p)), some (.int (nI cnt)), some (.int (nI j)), none] []) (nv σ.1 2) (fun j i hj ih hi => ?_) 0 i2 (Nat.zero_le _) ⟨hn2, fun _ _ => rfl⟩
      have hni : mI (wI M i) (a + 1) = fouL σ.1 k p j := hi.1
      have hsj := fouL_sm (k := k) (p := p) h4 j
      have e2j := hsj.nv (q := 2) (by omega) (by omega) (by omega)
      have h2j := hsj.Rn (q := 2) (by omega) (by omega) (by omega) h2
      have e3j := hsj.1 3 (by omega) (by omega) (by omega)
      have hstep : fouL σ.1 k p (j + 1) = if fouL σ.1 k p j (498 + 10 * j + 3) = 3 ∧ fouL σ.1 k p j (498 + 10 * j + 4) = nI k then wrL (fouN (fouL σ.1 k p j) j p) j 5 (-1) (nI p) else if fouL σ.1 k p j (498 + 10 * j + 3) = 3 ∧ nI k < fouL σ.1 k p j (498 + 10 * j + 4) then upd (fouL σ.1 k p j) (498 + 10 * j + 4) (fouL σ.1 k p j (498 + 10 * j + 4) - 1) else fouL σ.1 k p j := rfl
      generalize fouL σ.1 k p (j + 1) = y1 at *
      generalize hyj : fouL σ.1 k p j = y at *
      refine r_iload hX dX11_find__50 rfl ?_
      refine r_aload_n hX dX11_find__52 rfl ?_
      refine r_cV0 hX dX11_find__53 IX11_letters ml_X11_170 rfl (LX11_s hL) rfl (t_X11_letters (M := wI M i) hL hni h2j) (by decide) (by decide) (by decide) (by decide) rfl (Nat.le_of_ble_eq_true rfl) ?_
      rw [e2j]
      refine rn_icmp_ge (tgt := 181) hX dX11_find__56 (by decide) rfl rfl (by omega) (by omega) (fun c56 => ?_) (fun c56 => ?_)
      · obtain rfl : j = nv σ.1 2 := by omega
        clear ih hstep
        refine r_aload_n hX dX11_find__181 rfl ?_
        refine r_getr hX dX11_find__182 fl_X11_13 rfl (LX11_s hL) (LX11_r1 hL) ?_
        refine r_iconst (v := nI 3) hX dX11_find__185 (by decide) ?_
        refine r_dup2 hX dX11_find__186 rfl rfl ?_
        refine rn_iald hX dX11_find__187 (LX11_a1 hL) rfl (by omega) (by omega) ?_
        rw [hni]
        rw [(e3j.trans h3.1)]
        refine r_iconst (v := nI 1) hX dX11_find__188 (by decide) ?_
        refine rn_isub hX dX11_find__189 rfl rfl (by omega) ?_
        refine rn_iast hX dX11_find__190 (LX11_a1 hL) rfl (by omega) (by omega) ?_
        refine J.gen (M0 := M) rfl (fun i3 k3 => ?_)
        have hn3 : mI (wI M i3) (a + 1) = upd y 3 (nI (nv σ.1 3 - 1)) := by
          rw [← uIA (v := nI (nv σ.1 3 - 1)) hni]
          funext q
          exact k3 (a + 1) q
        have f3 : ∀ x, x ≠ a + 1 → i3 x = i2 x := fun x hx => by
          rw [← hi.2 x hx]
          funext q
          rw [k3]
          exact congrFun (uIo hx) q
        generalize hz : upd y 3 (nI (nv σ.1 3 - 1)) = z at hn3
        have hz3 : z 3 = nI (nv σ.1 3 - 1) := by rw [← hz]; exact upd_s
        refine r_iconst (v := nI 2) hX dX11_find__191 (by decide) ?_
        refine r_iload_n hX dX11_find__192 rfl ?_
        refine rn_imul hX dX11_find__193 rfl rfl ?_
        refine r_istore4 hX dX11_find__194 rfl ?_
        refine loop_us (σ := Nat → Nat → Int32) (P := fun j i => ((∀ q, i (a + 1) q = if 798 + 2 * k ≤ q ∧ q < 798 + 2 * k + j then z (q + 2) else z q) ∧ ∀ x, x ≠ a + 1 → i x = i2 x) → J G base X 0 0 (wI M i) 196 [some (.ref a), some (.int (nI k)), some (.int (nI p)), some (.int (nI cnt)), some (.int (nI (2 * k + j))), none] []) (2 * (nv σ.1 3 - 1) - 2 * k) (fun j i hj ih hi => ?_) 0 i3 (Nat.zero_le _) ⟨fun q => by rw [if_neg (by omega)]; exact congrFun hn3 q, f3⟩ |> fun r => J.junk r (by repeat first | exact trivial | refine ⟨rfl, ?_⟩)
        have hg3 : mI (wI M i) (a + 1) 3 = nI (nv σ.1 3 - 1) := by show i (a + 1) 3 = _; rw [hi.1, if_neg (by omega)]; exact hz3
        have hgq : mI (wI M i) (a + 1) (798 + (2 * k + j) + 2) = z (798 + 2 * k + j + 2) := by show i (a + 1) _ = _; rw [hi.1, if_neg (by omega), show 798 + (2 * k + j) + 2 = 798 + 2 * k + j + 2 by omega]
        refine r_iload hX dX11_find__196 rfl ?_
        refine r_iconst (v := nI 2) hX dX11_find__198 (by decide) ?_
        refine r_aload_n hX dX11_find__199 rfl ?_
        refine r_getr hX dX11_find__200 fl_X11_13 rfl (LX11_s hL) (LX11_r1 hL) ?_
        refine r_iconst (v := nI 3) hX dX11_find__203 (by decide) ?_
        refine rn_iald hX dX11_find__204 (LX11_a1 hL) rfl (by omega) (by omega) ?_
        rw [hg3]
        refine rn_imul hX dX11_find__205 rfl rfl ?_
        refine rn_icmp_ge (tgt := 239) hX dX11_find__206 (by decide) rfl rfl (by omega) (by omega) (fun c206 => ?_) (fun c206 => ?_)
        · refine r_iload_n hX dX11_find__239 rfl ?_
          refine r_ireturn hX rfl rfl dX11_find__240 (by decide) (by decide) ?_
          obtain rfl : j = 2 * (nv σ.1 3 - 1) - 2 * k := by omega
          have hfin : mI (wI M i) (a + 1) = findN σ.1 k p := by
            unfold findN
            rw [hyj, hz]
            funext q
            show i (a + 1) q = _
            rw [hi.1]
            unfold mvN
            have e3z : nv z 3 = nv σ.1 3 - 1 := nv_of hz3 (by omega)
            rw [e3z]
            by_cases e2 : 798 + 2 * k ≤ q ∧ q < 798 + 2 * (nv σ.1 3 - 1)
            · rw [if_pos e2, if_pos (by omega)]
            · rw [if_neg e2, if_neg (by omega)]
          obtain ⟨r1, r2, r3, r4⟩ := pubR (j := i) hR2 ho2 ht2 hfin (fun x hx _ => hi.2 x hx)
          refine ⟨_, i, rfl, rfl, ?_, ?_, r4⟩
          · unfold sg_find
            rw [ix_of hk (by omega)]
            dsimp only
            rw [ix_of hpt.1 (by omega)]
            dsimp only
            rw [if_pos hp]
            exact r1
          · unfold rs_find
            rw [ix_of hk (by omega)]
            dsimp only
            rw [ix_of hpt.1 (by omega)]
            dsimp only
            rw [if_pos hp, hcc]
            exact ⟨rfl, r3⟩
        · refine r_aload_n hX dX11_find__209 rfl ?_
          refine r_getr hX dX11_find__210 fl_X11_13 rfl (LX11_s hL) (LX11_r1 hL) ?_
          refine r_sipush (v := nI 798) hX dX11_find__213 (by decide) ?_
          refine r_iload hX dX11_find__216 rfl ?_
          refine rn_iadd hX dX11_find__218 rfl rfl ?_
          refine r_aload_n hX dX11_find__219 rfl ?_
          refine r_getr hX dX11_find__220 fl_X11_13 rfl (LX11_s hL) (LX11_r1 hL) ?_
          refine r_sipush (v := nI 798) hX dX11_find__223 (by decide) ?_
          refine r_iload hX dX11_find__226 rfl ?_
          refine rn_iadd hX dX11_find__228 rfl rfl ?_
          refine r_iconst (v := nI 2) hX dX11_find__229 (by decide) ?_
          refine rn_iadd hX dX11_find__230 rfl rfl ?_
          refine rn_iald hX dX11_find__231 (LX11_a1 hL) rfl (by omega) (by omega) ?_
          rw [hgq]
          refine rn_iast hX dX11_find__232 (LX11_a1 hL) rfl (by omega) (by omega) ?_
          refine rn_iinc4 hX dX11_find__233 rfl rfl ?_
          refine r_goto (tgt := 196) hX dX11_find__236 (by decide) ?_
          refine J.junk (ih (by omega) _ ⟨fun q => ?_, fun x hx => (uIo hx).trans (hi.2 x hx)⟩) (by repeat first | exact trivial | refine ⟨rfl, ?_⟩)
          show mI (uI (wI M i) (a + 1) (798 + (2 * k + j)) (z (798 + 2 * k + j + 2))) (a + 1) q = _
          simp only [mI_uI, if_true]
          by_cases e : q = 798 + (2 * k + j)
          · rw [if_pos e, if_pos (by omega), e, show 798 + (2 * k + j) + 2 = 798 + 2 * k + j + 2 by omega]
          · rw [if_neg e]
            show i (a + 1) q = _
            rw [hi.1]
            by_cases e2 : 798 + 2 * k ≤ q ∧ q < 798 + 2 * k + j
            · rw [if_pos e2, if_pos (by omega)]
            · rw [if_neg e2, if_neg (by omega)]
      · refine r_aload_n hX dX11_find__59 rfl ?_
        refine r_iload hX dX11_find__60 rfl ?_
        refine r_iconst (v := nI 3) hX dX11_find__62 (by decide) ?_
        refine r_iload_n hX dX11_find__63 rfl ?_
        refine r_cV3 hX dX11_find__64 IX11_isIn ml_X11_262 rfl (LX11_s hL) rfl (t_X11_isIn (M := wI M i) hL hni (by omega)) (by decide) (by decide) (by decide) (by decide) rfl (Nat.le_of_ble_eq_true rfl) ?_
        refine rb_if_eq (tgt := 137) hX dX11_find__67 (by decide) rfl (fun c67 => ?_) (fun c67 => ?_)
        · refine r_aload_n hX dX11_find__137 rfl ?_
          refine r_iload hX dX11_find__138 rfl ?_
          refine r_iconst (v := nI 3) hX dX11_find__140 (by decide) ?_
          refine r_cV2 hX dX11_find__141 IX11_of ml_X11_67 rfl (LX11_s hL) rfl (t_X11_of (M := wI M i) hL hni (by omega) (by decide)) (by decide) (by decide) (by decide) (by decide) rfl (Nat.le_of_ble_eq_true rfl) ?_
          refine r_iconst (v := 3) hX dX11_find__144 (by decide) ?_
          refine r_icmp_ne (tgt := 175) hX dX11_find__145 (by decide) (fun c145 => ?_) (fun c145 => ?_)
          · refine rn_iinc4 hX dX11_find__175 rfl rfl ?_
            refine r_goto (tgt := 50) hX dX11_find__178 (by decide) ?_
            have e9 : y1 = y := by rw [hstep, if_neg (show ¬ (y (498 + 10 * j + 3) = 3 ∧ y (498 + 10 * j + 4) = nI k) from c67), if_neg (fun z => c145 z.1)]
            exact J.junk (ih (by omega) i ⟨hni.trans e9.symm, hi.2⟩) (by repeat first | exact trivial | refine ⟨rfl, ?_⟩)
          · refine r_aload_n hX dX11_find__148 rfl ?_
            refine r_iload hX dX11_find__149 rfl ?_
            refine r_iconst (v := nI 4) hX dX11_find__151 (by decide) ?_
            refine r_cV2 hX dX11_find__152 IX11_of ml_X11_67 rfl (LX11_s hL) rfl (t_X11_of (M := wI M i) hL hni (by omega) (by decide)) (by decide) (by decide) (by decide) (by decide) rfl (Nat.le_of_ble_eq_true rfl) ?_
            refine r_iload_n hX dX11_find__155 rfl ?_
            refine r_icmp_le (tgt := 175) hX dX11_find__156 (by decide) (fun c156 => ?_) (fun c156 => ?_)
            · refine rn_iinc4 hX dX11_find__175 rfl rfl ?_
              refine r_goto (tgt := 50) hX dX11_find__178 (by decide) ?_
              have e9 : y1 = y := by rw [hstep, if_neg (show ¬ (y (498 + 10 * j + 3) = 3 ∧ y (498 + 10 * j + 4) = nI k) from c67), if_neg (fun z => absurd z.2 (i_nlt.mpr c156))]
              exact J.junk (ih (by omega) i ⟨hni.trans e9.symm, hi.2⟩) (by repeat first | exact trivial | refine ⟨rfl, ?_⟩)
            · refine r_aload_n hX dX11_find__159 rfl ?_
              refine r_iload hX dX11_find__160 rfl ?_
              refine r_iconst (v := nI 4) hX dX11_find__162 (by decide) ?_
              refine r_aload_n hX dX11_find__163 rfl ?_
              refine r_iload hX dX11_find__164 rfl ?_
              refine r_iconst (v := nI 4) hX dX11_find__166 (by decide) ?_
              refine r_cV2 hX dX11_find__167 IX11_of ml_X11_67 rfl (LX11_s hL) rfl (t_X11_of (M := wI M i) hL hni (by omega) (by decide)) (by decide) (by decide) (by decide) (by decide) rfl (Nat.le_of_ble_eq_true rfl) ?_
              refine r_iconst (v := 1) hX dX11_find__170 (by decide) ?_
              refine r_isub hX dX11_find__171 ?_
              refine r_iV3 hX dX11_find__172 IX11_sets ml_X11_71 rfl (LX11_s hL) rfl (t_X11_sets (M := wI M i) hL hni (by omega) (by decide)) (by decide) (by decide) (by decide) (by decide) rfl (Nat.le_of_ble_eq_true rfl) (fun i172 h172 => ?_)
              show J G base X _ _ (wI M i172) _ _ _
              have hn172 : mI (wI M i172) (a + 1) = _ := h172.1
              refine rn_iinc4 hX dX11_find__175 rfl rfl ?_
              refine r_goto (tgt := 50) hX dX11_find__178 (by decide) ?_
              have e9 : y1 = upd y (498 + 10 * j + 4) (y (498 + 10 * j + 4) - 1) := by rw [hstep, if_neg (show ¬ (y (498 + 10 * j + 3) = 3 ∧ y (498 + 10 * j + 4) = nI k) from c67), if_pos ⟨c145, i_nle.mp c156⟩]
              exact J.junk (ih (by omega) i172 ⟨hn172.trans e9.symm, fun x hx => (h172.2 x hx).trans (hi.2 x hx)⟩) (by repeat first | exact trivial | refine ⟨rfl, ?_⟩)
        · refine r_aload_n hX dX11_find__70 rfl ?_
          refine r_iload hX dX11_find__71 rfl ?_
          refine r_iconst (v := nI 1) hX dX11_find__73 (by decide) ?_
          refine r_cV2 hX dX11_find__74 IX11_of ml_X11_67 rfl (LX11_s hL) rfl (t_X11_of (M := wI M i) hL hni (by omega) (by decide)) (by decide) (by decide) (by decide) (by decide) rfl (Nat.le_of_ble_eq_true rfl) ?_
          refine r_iload_n hX dX11_find__77 rfl ?_
          refine r_icmp_ne (tgt := 85) hX dX11_find__78 (by decide) (fun c78 => ?_) (fun c78 => ?_)
          · refine r_iconst (v := nI 0) hX dX11_find__85 (by decide) ?_
            have hl2 := (hsj.lies j 0 (nI p)).2
            refine r_istore5 hX dX11_find__86 rfl ?_
            refine r_aload_n hX dX11_find__88 rfl ?_
            refine r_iload hX dX11_find__89 rfl ?_
            refine r_iload hX dX11_find__91 rfl ?_
            refine r_if_eq (tgt := 100) hX dX11_find__93 (by decide) (fun c93 => ?_) (fun c93 => absurd rfl c93)
            refine r_iconst (v := nI 0) hX dX11_find__100 (by decide) ?_
            refine r_iload_n hX dX11_find__101 rfl ?_
            refine r_iV3 hX dX11_find__102 IX11_lies ml_X11_222 rfl (LX11_s hL) rfl (t_X11_lies (M := wI M i) hL hni (by omega)) (by decide) (by decide) (by decide) (by decide) rfl (Nat.le_of_ble_eq_true rfl) (fun i102 h102 => ?_)
            show J G base X _ _ (wI M i102) _ _ _
            have hn102 : mI (wI M i102) (a + 1) = _ := h102.1
            refine r_iload hX dX11_find__105 rfl ?_
            refine r_if_eq (tgt := 125) hX dX11_find__107 (by decide) (fun c107 => ?_) (fun c107 => absurd rfl c107)
            refine r_aload_n hX dX11_find__125 rfl ?_
            refine r_iload hX dX11_find__126 rfl ?_
            refine r_iconst (v := nI 5) hX dX11_find__128 (by decide) ?_
            refine r_iconst (v := (-1)) hX dX11_find__129 (by decide) ?_
            refine r_iload_n hX dX11_find__130 rfl ?_
            refine r_iV4 hX dX11_find__131 IX11_writes ml_X11_255 rfl (LX11_s hL) rfl (t_X11_writes (M := wI M i102) hL hn102 (by omega) hl2) (by decide) (by decide) (by decide) (by decide) rfl (Nat.le_of_ble_eq_true rfl) (fun i131 h131 => ?_)
            show J G base X _ _ (wI M i131) _ _ _
            have hn131 : mI (wI M i131) (a + 1) = _ := h131.1
            refine r_goto (tgt := 175) hX dX11_find__134 (by decide) ?_
            refine rn_iinc4 hX dX11_find__175 rfl rfl ?_
            refine r_goto (tgt := 50) hX dX11_find__178 (by decide) ?_
            have e9 : y1 = wrL (liesN y j 0 (nI p)) j 5 (-1) (nI p) := by
              rw [hstep, if_pos (show y (498 + 10 * j + 3) = 3 ∧ y (498 + 10 * j + 4) = nI k from c67)]
              unfold fouN
              rw [if_neg c78]
            exact J.junk (ih (by omega) i131 ⟨hn131.trans e9.symm, fun x hx => (h131.2 x hx).trans ((h102.2 x hx).trans (hi.2 x hx))⟩) (by repeat first | exact trivial | refine ⟨rfl, ?_⟩)
          · refine r_iconst (v := nI 1) hX dX11_find__81 (by decide) ?_
            refine r_goto (tgt := 86) hX dX11_find__82 (by decide) ?_
            have hl2 := ((hsj.lies j 2 (nI p)).up (q := 498 + 10 * j + 7) (by omega) (liesN y j 2 (nI p) 6)).2
            refine r_istore5 hX dX11_find__86 rfl ?_
            refine r_aload_n hX dX11_find__88 rfl ?_
            refine r_iload hX dX11_find__89 rfl ?_
            refine r_iload hX dX11_find__91 rfl ?_
            refine r_if_eq (tgt := 100) hX dX11_find__93 (by decide) (fun c93 => absurd c93 (by decide)) (fun c93 => ?_)
            refine r_iconst (v := nI 2) hX dX11_find__96 (by decide) ?_
            refine r_goto (tgt := 101) hX dX11_find__97 (by decide) ?_
            refine r_iload_n hX dX11_find__101 rfl ?_
            refine r_iV3 hX dX11_find__102 IX11_lies ml_X11_222 rfl (LX11_s hL) rfl (t_X11_lies (M := wI M i) hL hni (by omega)) (by decide) (by decide) (by decide) (by decide) rfl (Nat.le_of_ble_eq_true rfl) (fun i102 h102 => ?_)
            show J G base X _ _ (wI M i102) _ _ _
            have hn102 : mI (wI M i102) (a + 1) = _ := h102.1
            refine r_iload hX dX11_find__105 rfl ?_
            refine r_if_eq (tgt := 125) hX dX11_find__107 (by decide) (fun c107 => absurd c107 (by decide)) (fun c107 => ?_)
            refine r_aload_n hX dX11_find__110 rfl ?_
            refine r_iload hX dX11_find__111 rfl ?_
            refine r_bipush (v := nI 7) hX dX11_find__113 (by decide) ?_
            refine r_aload_n hX dX11_find__115 rfl ?_
            refine r_getr hX dX11_find__116 fl_X11_13 rfl (LX11_s hL) (LX11_r1 hL) ?_
            refine r_bipush (v := nI 6) hX dX11_find__119 (by decide) ?_
            refine rn_iald hX dX11_find__121 (LX11_a1 hL) rfl (by omega) (by omega) ?_
            rw [hn102]
            refine r_iV3 hX dX11_find__122 IX11_sets ml_X11_71 rfl (LX11_s hL) rfl (t_X11_sets (M := wI M i102) hL hn102 (by omega) (by decide)) (by decide) (by decide) (by decide) (by decide) rfl (Nat.le_of_ble_eq_true rfl) (fun i122 h122 => ?_)
            show J G base X _ _ (wI M i122) _ _ _
            have hn122 : mI (wI M i122) (a + 1) = _ := h122.1
            refine r_aload_n hX dX11_find__125 rfl ?_
            refine r_iload hX dX11_find__126 rfl ?_
            refine r_iconst (v := nI 5) hX dX11_find__128 (by decide) ?_
            refine r_iconst (v := (-1)) hX dX11_find__129 (by decide) ?_
            refine r_iload_n hX dX11_find__130 rfl ?_
            refine r_iV4 hX dX11_find__131 IX11_writes ml_X11_255 rfl (LX11_s hL) rfl (t_X11_writes (M := wI M i122) hL hn122 (by omega) hl2) (by decide) (by decide) (by decide) (by decide) rfl (Nat.le_of_ble_eq_true rfl) (fun i131 h131 => ?_)
            show J G base X _ _ (wI M i131) _ _ _
            have hn131 : mI (wI M i131) (a + 1) = _ := h131.1
            refine r_goto (tgt := 175) hX dX11_find__134 (by decide) ?_
            refine rn_iinc4 hX dX11_find__175 rfl rfl ?_
            refine r_goto (tgt := 50) hX dX11_find__178 (by decide) ?_
            have e9 : y1 = wrL (upd (liesN y j 2 (nI p)) (498 + 10 * j + 7) (liesN y j 2 (nI p) 6)) j 5 (-1) (nI p) := by
              rw [hstep, if_pos (show y (498 + 10 * j + 3) = 3 ∧ y (498 + 10 * j + 4) = nI k from c67)]
              unfold fouN
              rw [if_pos c78]
            exact J.junk (ih (by omega) i131 ⟨hn131.trans e9.symm, fun x hx => (h131.2 x hx).trans ((h122.2 x hx).trans ((h102.2 x hx).trans (hi.2 x hx)))⟩) (by repeat first | exact trivial | refine ⟨rfl, ?_⟩)
    · refine Ct.of IX11_find_.1 (by simp [Value.category]) (Nat.le_of_ble_eq_true rfl) (fun X hX hN => ?_)
      show J G base X 0 0 M 0 [some (.ref a), some (.int (nI k)), some (.int y), none, none, none] []
      refine r_aload_n hX dX11_find__0 rfl ?_
      refine r_iconst (v := nI 0) hX dX11_find__1 (by decide) ?_
      refine r_puti hX dX11_find__2 fl_X11_3 rfl rfl (LX11_s hL) ?_
      refine J.gen (M0 := M) rfl (fun i0 h00 => ?_)
      obtain ⟨hR0, hn0, ht0, ho0⟩ := pub0 hR h00
      clear h00
      refine r_aload_n hX dX11_find__5 rfl ?_
      refine r_iload_n hX dX11_find__6 rfl ?_
      refine r_cV1 hX dX11_find__7 IX11_noLost ml_X11_313 rfl (LX11_s hL) rfl (t_X11_noLost1 (M := wI M i0) hL hn0 h3 ⟨k, hk, rfl⟩) (by decide) (by decide) (by decide) (by decide) rfl (Nat.le_of_ble_eq_true rfl) ?_
      refine r_if_ne (tgt := 34) hX dX11_find__10 (by decide) (fun c10 => absurd c10 (by decide)) (fun c10 => ?_)
      refine r_aload_n hX dX11_find__13 rfl ?_
      refine r_aload_n hX dX11_find__14 rfl ?_
      refine r_iload_n hX dX11_find__15 rfl ?_
      refine r_cV1 hX dX11_find__16 IX11_isTown ml_X11_166 rfl (LX11_s hL) rfl (t_X11_isTown (M := wI M i0) hL hn0 h0) (by decide) (by decide) (by decide) (by decide) rfl (Nat.le_of_ble_eq_true rfl) ?_
      refine rb_if_ne (tgt := 26) hX dX11_find__19 (by decide) rfl (fun c19 => absurd ((town_is h0).mp c19) (fun ⟨p, _, h, h9⟩ => hv ⟨p, h, h9⟩)) (fun c19 => ?_)
      refine r_iconst (v := nI 1) hX dX11_find__22 (by decide) ?_
      refine r_goto (tgt := 27) hX dX11_find__23 (by decide) ?_
      refine r_iconst (v := nI 2) hX dX11_find__27 (by decide) ?_
      refine r_cV2 hX dX11_find__28 IX11_throwsIf ml_X11_215 rfl (LX11_s hL) rfl (t_X11_throwsIf1 (M := wI M i0) hL) (by decide) (by decide) (by decide) (by decide) rfl (Nat.le_of_ble_eq_true rfl) ?_
      refine r_if_eq (tgt := 36) hX dX11_find__31 (by decide) (fun c31 => absurd c31 (by decide)) (fun c31 => ?_)
      refine r_iconst (v := 0) hX dX11_find__34 (by decide) ?_
      refine r_ireturn hX rfl rfl dX11_find__35 (by decide) (by decide) ?_
      obtain ⟨q1, q2, q3⟩ := pub1 hR0 ho0 2
      refine ⟨_, mI (uI (wI M i0) a 0 2), rfl, rfl, ?_, ?_, q3⟩
      · unfold sg_find
        rw [ix_of hk (by omega)]
        dsimp only
        by_cases hc : ∃ c, c < nv σ.1 0 ∧ y = nI c
        · obtain ⟨c, hc, rfl⟩ := hc
          rw [ix_of hc (by omega)]
          dsimp only
          rw [if_neg (fun z => hv ⟨c, rfl, z⟩)]
          exact q1
        · rw [ix_no hc]
          exact q1
      · unfold rs_find
        rw [ix_of hk (by omega)]
        dsimp only
        by_cases hc : ∃ c, c < nv σ.1 0 ∧ y = nI c
        · obtain ⟨c, hc, rfl⟩ := hc
          rw [ix_of hc (by omega)]
          dsimp only
          rw [if_neg (fun z => hv ⟨c, rfl, z⟩)]
          exact q2
        · rw [ix_no hc]
          exact q2
  · refine Ct.of IX11_find_.1 (by simp [Value.category]) (Nat.le_of_ble_eq_true rfl) (fun X hX hN => ?_)
    show J G base X 0 0 M 0 [some (.ref a), some (.int x), some (.int y), none, none, none] []
    refine r_aload_n hX dX11_find__0 rfl ?_
    refine r_iconst (v := nI 0) hX dX11_find__1 (by decide) ?_
    refine r_puti hX dX11_find__2 fl_X11_3 rfl rfl (LX11_s hL) ?_
    refine J.gen (M0 := M) rfl (fun i0 h00 => ?_)
    obtain ⟨hR0, hn0, ht0, ho0⟩ := pub0 hR h00
    clear h00
    refine r_aload_n hX dX11_find__5 rfl ?_
    refine r_iload_n hX dX11_find__6 rfl ?_
    refine r_cV1 hX dX11_find__7 IX11_noLost ml_X11_313 rfl (LX11_s hL) rfl (t_X11_noLost0 (M := wI M i0) hL hn0 h3 hx) (by decide) (by decide) (by decide) (by decide) rfl (Nat.le_of_ble_eq_true rfl) ?_
    refine r_if_ne (tgt := 34) hX dX11_find__10 (by decide) (fun c10 => ?_) (fun c10 => absurd c10 (by decide))
    refine r_iconst (v := 0) hX dX11_find__34 (by decide) ?_
    refine r_ireturn hX rfl rfl dX11_find__35 (by decide) (by decide) ?_
    obtain ⟨q1, q2, q3⟩ := pub1 hR0 ho0 1
    refine ⟨_, mI (uI (wI M i0) a 0 1), rfl, rfl, ?_, ?_, q3⟩
    · unfold sg_find
      rw [ix_no hx]
      exact q1
    · unfold rs_find
      rw [ix_no hx]
      exact q2

