variable {G : GG} {base : Nat}
theorem mI_uA_s (M : Mm) (a : Nat) (f : Nat → Int32) : mI (uA M a f) a = f := by funext j; simp [mI_uA]
theorem mI_uA_o {M : Mm} {a b : Nat} (f : Nat → Int32) (h : b ≠ a) : mI (uA M a f) b = mI M b := by funext j; simp [mI_uA, h]
theorem uA_uA (M : Mm) (a : Nat) (f g : Nat → Int32) : uA (uA M a f) a g = uA M a g := by
  refine Mm_ext (fun _ => rfl) (fun _ _ => rfl) (fun b j => ?_) (fun _ _ => rfl) rfl
  simp only [mI_uA]
  split <;> rfl
theorem uI_uA (M : Mm) (a k : Nat) (v : Int32) : uI M a k v = uA M a (upd (mI M a) k v) := by
  refine Mm_ext (fun _ => rfl) (fun _ _ => rfl) (fun b j => ?_) (fun _ _ => rfl) rfl
  simp only [mI_uA, mI_uI]
  by_cases h : b = a
  · subst h
    simp [upd]
  · simp [h]
theorem uA_self (M : Mm) (a : Nat) : uA M a (mI M a) = M := by
  refine Mm_ext (fun _ => rfl) (fun _ _ => rfl) (fun b j => ?_) (fun _ _ => rfl) rfl
  simp only [mI_uA]
  split
  · rename_i h; subst h; rfl
  · rfl
/-- a town, as the reference asks -/
abbrev townP (n : Nat → Int32) (x : Int32) : Prop := 0 ≤ x ∧ x < n 0 ∧ n (8 + x.toNatClampNeg) = 1
theorem townP_nI {n : Nat → Int32} (h0 : Rn n 0 10) {j : Nat} (hj : j < nv n 0) : townP n (nI j) ↔ n (8 + j) = 1 := by
  have hb := h0.2
  have h1 : (0 : Int32) ≤ nI j := nI_pos' (by omega)
  have h2 : nI j < n 0 := by rw [h0.1]; exact nI_lt hj (by omega)
  have h3 : (nI j).toNatClampNeg = j := nI_clamp (by omega)
  simp only [townP, h1, h2, h3, true_and]
theorem townP_of {n : Nat → Int32} (h0 : Rn n 0 10) {x : Int32} (h : townP n x) : ∃ j, j < nv n 0 ∧ x = nI j ∧ n (8 + j) = 1 := by
  have hb := h0.2
  obtain ⟨h1, h2, h3⟩ := h
  rw [h0.1] at h2
  obtain ⟨j, hj, rfl⟩ := vp_in_of (x := x) (n := nv n 0) (fun q => by
    rcases q with q | q
    · exact absurd h1 (i_nle.mpr q)
    · obtain ⟨k, hk, rfl⟩ := nI_of (x := x) (i_nlt.mpr h1)
      rw [nI_clamp hk] at q
      rw [nI_ltI hk (by omega)] at h2
      omega) (by omega)
  rw [nI_clamp (by omega)] at h3
  exact ⟨j, hj, rfl, h3⟩
/-- a route's row: the place of the stop at the hour hh, of the first k stops -/
def stF (n : Nat → Int32) (at_ : Nat) (hh : Int32) : Nat → Int32
  | 0 => -1
  | k + 1 => if stF n at_ hh k = -1 then (if n (at_ + 1 + 2 * k) = hh then n (at_ + 2 + 2 * k) else -1) else stF n at_ hh k
theorem stF_stay {n : Nat → Int32} {at_ : Nat} {hh : Int32} {k : Nat} (h : ¬ stF n at_ hh k = -1) : ∀ {m : Nat}, k ≤ m → stF n at_ hh m = stF n at_ hh k := by
  intro m hm
  induction m with
  | zero => rw [show k = 0 by omega]
  | succ m ih =>
    by_cases hk : k = m + 1
    · rw [hk]
    · have := ih (by omega)
      simp only [stF]
      rw [this, if_neg h]
/-- where the route of carrier c on weekday w lies -/
abbrev rtA (c w : Nat) : Nat := 43 + 13 * (7 * c + w)
/-- the place at which carrier c has a stop in the hour h; -1 -/
def stopN (n : Nat → Int32) (c h : Nat) : Int32 := stF n (rtA c (h / 24 % 7)) (nI (h % 24)) (nv n (rtA c (h / 24 % 7)))
/-- .. when it is not on strike -/
def placeN (n : Nat → Int32) (c h : Nat) : Int32 := if n (38 + c) = 1 then -1 else stopN n c h
/-- the routes are as they should: at most six stops, no place is -1 -/
def RtOk (n : Nat → Int32) : Prop := ∀ c, c < 5 → ∀ w, w < 7 → Rn n (rtA c w) 6 ∧ ∀ k, k < nv n (rtA c w) → ∃ h q, h < 24 ∧ q < nv n 0 ∧ q < 10 ∧ n (rtA c w + 1 + 2 * k) = nI h ∧ n (rtA c w + 2 + 2 * k) = nI q
/-- the numbers of the reference's row -/
def Nm (n : Nat → Int32) : Prop := Rn n 0 10 ∧ Rn n 1 5 ∧ Rn n 2 30 ∧ Rn n 3 30 ∧ Rn n 4 60 ∧ Rn n 5 20 ∧ Rn n 6 1000000
/-- the row is n' now, all other cells stay -/
def pN (M : Mm) (a : Nat) (n' : Nat → Int32) : (Nat → Nat → Int32) → Prop := fun i => i (a + 1) = n' ∧ ∀ x, x ≠ a + 1 → i x = mI M x
theorem pN.of {M : Mm} {a : Nat} {n n' : Nat → Int32} (hn : mI M (a + 1) = n) (h : n' = n) : pN M a n' (mI M) := ⟨by rw [h]; exact hn, fun _ _ => rfl⟩
theorem nI_0' : (0 : Int32) = nI 0 := rfl
def liesN (n : Nat → Int32) (l : Nat) (kd pl : Int32) : Nat → Int32 := upd (upd n (498 + 10 * l + 3) kd) (498 + 10 * l + 4) pl
theorem uIA {M : Mm} {a k : Nat} {v : Int32} {n : Nat → Int32} (hn : mI M a = n) : mI (uI M a k v) a = upd n k v := by
  subst hn
  funext j
  simp [mI_uI, upd]
theorem uIo {M : Mm} {a k x : Nat} {v : Int32} (h : x ≠ a) : mI (uI M a k v) x = mI M x := by
  funext j
  simp [mI_uI, h]
set_option maxHeartbeats 2000000 in
set_option maxRecDepth 20000 in
theorem t_X11_thrown {M : Mm} {a : Nat} (hL : LX11 M.1 M.2.1 a) : Ct G base YX11_thrown 1 0 0 [.ref a] M (rE (some (.int (mI M a 0))) M) := by
  refine Ct.of IX11_thrown.1 (by simp [Value.category]) (Nat.le_of_ble_eq_true rfl) (fun X hX hN => ?_)
  show J G base X 0 0 M 0 [some (.ref a)] []
  refine r_aload_n hX dX11_thrown_0 rfl ?_
  refine r_geti hX dX11_thrown_1 fl_X11_3 rfl (LX11_s hL) ?_
  refine r_ireturn hX rfl rfl dX11_thrown_4 (by decide) (by decide) ?_
  exact ⟨rfl, rfl⟩
set_option maxHeartbeats 2000000 in
set_option maxRecDepth 20000 in
theorem t_X11_throwsIf1 {M : Mm} {a : Nat} (hL : LX11 M.1 M.2.1 a) {k : Int32} : Ct G base YX11_throwsIf 1 0 0 [.ref a, .int 1, .int k] M (rE (some (.int 1)) (uI M a 0 k)) := by
  refine Ct.of IX11_throwsIf.1 (by simp [Value.category]) (Nat.le_of_ble_eq_true rfl) (fun X hX hN => ?_)
  show J G base X 0 0 M 0 [some (.ref a), some (.int 1), some (.int k)] []
  refine r_iload_n hX dX11_throwsIf_0 rfl ?_
  refine r_if_eq (tgt := 9) hX dX11_throwsIf_1 (by decide) (fun c1 => absurd c1 (by decide)) (fun c1 => ?_)
  refine r_aload_n hX dX11_throwsIf_4 rfl ?_
  refine r_iload_n hX dX11_throwsIf_5 rfl ?_
  refine r_puti hX dX11_throwsIf_6 fl_X11_3 rfl rfl (LX11_s hL) ?_
  refine r_iload_n hX dX11_throwsIf_9 rfl ?_
  refine r_ireturn hX rfl rfl dX11_throwsIf_10 (by decide) (by decide) ?_
  exact ⟨rfl, rfl⟩
set_option maxHeartbeats 2000000 in
set_option maxRecDepth 20000 in
theorem t_X11_throwsIf0 {M : Mm} {a : Nat} (hL : LX11 M.1 M.2.1 a) {k : Int32} : Ct G base YX11_throwsIf 1 0 0 [.ref a, .int 0, .int k] M (rE (some (.int 0)) M) := by
  refine Ct.of IX11_throwsIf.1 (by simp [Value.category]) (Nat.le_of_ble_eq_true rfl) (fun X hX hN => ?_)
  show J G base X 0 0 M 0 [some (.ref a), some (.int 0), some (.int k)] []
  refine r_iload_n hX dX11_throwsIf_0 rfl ?_
  refine r_if_eq (tgt := 9) hX dX11_throwsIf_1 (by decide) (fun c1 => ?_) (fun c1 => absurd rfl c1)
  refine r_iload_n hX dX11_throwsIf_9 rfl ?_
  refine r_ireturn hX rfl rfl dX11_throwsIf_10 (by decide) (by decide) ?_
  exact ⟨rfl, rfl⟩
set_option maxHeartbeats 2000000 in
set_option maxRecDepth 20000 in
theorem t_X11_in {v lo hi : Int32} {M : Mm} : Ct G base YX11_in 1 0 0 [.int v, .int lo, .int hi] M (rE (some (.int (if lo ≤ v ∧ v ≤ hi then 1 else 0))) M) := by
  refine Ct.of IX11_in.1 (by simp [Value.category]) (Nat.le_of_ble_eq_true rfl) (fun X hX hN => ?_)
  show J G base X 0 0 M 0 [some (.int v), some (.int lo), some (.int hi)] []
  refine r_iload_n hX dX11_in_0 rfl ?_
  refine r_iload_n hX dX11_in_1 rfl ?_
  refine r_icmp_lt (tgt := 14) hX dX11_in_2 (by decide) (fun c2 => ?_) (fun c2 => ?_)
  · refine r_iconst (v := 0) hX dX11_in_14 (by decide) ?_
    refine r_ireturn hX rfl rfl dX11_in_15 (by decide) (by decide) ?_
    first
      | exact ⟨by rw [if_neg (fun h => absurd h.1 (i_nle.mpr c2))]; first | done | rfl, rfl⟩
      | exact ⟨by rw [if_neg (fun h => absurd h.2 (i_nle.mpr c7))]; first | done | rfl, rfl⟩
      | exact ⟨by rw [if_pos ⟨i_nlt.mp c2, i_nlt.mp c7⟩]; first | done | rfl, rfl⟩
  · refine r_iload_n hX dX11_in_5 rfl ?_
    refine r_iload_n hX dX11_in_6 rfl ?_
    refine r_icmp_gt (tgt := 14) hX dX11_in_7 (by decide) (fun c7 => ?_) (fun c7 => ?_)
    · refine r_iconst (v := 0) hX dX11_in_14 (by decide) ?_
      refine r_ireturn hX rfl rfl dX11_in_15 (by decide) (by decide) ?_
      first
        | exact ⟨by rw [if_neg (fun h => absurd h.1 (i_nle.mpr c2))]; first | done | rfl, rfl⟩
        | exact ⟨by rw [if_neg (fun h => absurd h.2 (i_nle.mpr c7))]; first | done | rfl, rfl⟩
        | exact ⟨by rw [if_pos ⟨i_nlt.mp c2, i_nlt.mp c7⟩]; first | done | rfl, rfl⟩
    · refine r_iconst (v := 1) hX dX11_in_10 (by decide) ?_
      refine r_goto (tgt := 15) hX dX11_in_11 (by decide) ?_
      refine r_ireturn hX rfl rfl dX11_in_15 (by decide) (by decide) ?_
      first
        | exact ⟨by rw [if_neg (fun h => absurd h.1 (i_nle.mpr c2))]; first | done | rfl, rfl⟩
        | exact ⟨by rw [if_neg (fun h => absurd h.2 (i_nle.mpr c7))]; first | done | rfl, rfl⟩
        | exact ⟨by rw [if_pos ⟨i_nlt.mp c2, i_nlt.mp c7⟩]; first | done | rfl, rfl⟩
set_option maxHeartbeats 2000000 in
set_option maxRecDepth 20000 in
theorem t_X11_has {s : Int32} {k : Nat} (hk : k < 32) {M : Mm} : Ct G base YX11_has 1 0 0 [.int s, .int (nI k)] M (rE (some (.int (if bt s k = true then 1 else 0))) M) := by
  refine Ct.of IX11_has.1 (by simp [Value.category]) (Nat.le_of_ble_eq_true rfl) (fun X hX hN => ?_)
  show J G base X 0 0 M 0 [some (.int s), some (.int (nI k))] []
  refine r_iload_n hX dX11_has_0 rfl ?_
  refine r_iload_n hX dX11_has_1 rfl ?_
  refine r_ishr hX dX11_has_2 ?_
  refine r_iconst (v := 1) hX dX11_has_3 (by decide) ?_
  refine r_iand hX dX11_has_4 ?_
  rw [shr1 s hk]
  refine r_iconst (v := 1) hX dX11_has_5 (by decide) ?_
  refine r_icmp_ne (tgt := 13) hX dX11_has_6 (by decide) (fun c6 => ?_) (fun c6 => ?_)
  · refine r_iconst (v := 0) hX dX11_has_13 (by decide) ?_
    refine r_ireturn hX rfl rfl dX11_has_14 (by decide) (by decide) ?_
    first
      | exact ⟨by rw [if_neg (fun h => c6 (by rw [if_pos h]))]; first | done | rfl, rfl⟩
      | exact ⟨by rw [if_pos (by by_cases h : bt s k = true; exact h; rw [if_neg h] at c6; exact absurd c6 (by decide))]; first | done | rfl, rfl⟩
  · refine r_iconst (v := 1) hX dX11_has_9 (by decide) ?_
    refine r_goto (tgt := 14) hX dX11_has_10 (by decide) ?_
    refine r_ireturn hX rfl rfl dX11_has_14 (by decide) (by decide) ?_
    first
      | exact ⟨by rw [if_neg (fun h => c6 (by rw [if_pos h]))]; first | done | rfl, rfl⟩
      | exact ⟨by rw [if_pos (by by_cases h : bt s k = true; exact h; rw [if_neg h] at c6; exact absurd c6 (by decide))]; first | done | rfl, rfl⟩
set_option maxHeartbeats 2000000 in
set_option maxRecDepth 20000 in
theorem t_X11_places {M : Mm} {a : Nat} {n : Nat → Int32} (hL : LX11 M.1 M.2.1 a) (hn : mI M (a + 1) = n) (h0 : Rn n 0 10) : Ct G base YX11_places 1 0 0 [.ref a] M (rE (some (.int (nI (nv n 0)))) M) := by
  refine Ct.of IX11_places.1 (by simp [Value.category]) (Nat.le_of_ble_eq_true rfl) (fun X hX hN => ?_)
  show J G base X 0 0 M 0 [some (.ref a)] []
  refine r_aload_n hX dX11_places_0 rfl ?_
  refine r_getr hX dX11_places_1 fl_X11_13 rfl (LX11_s hL) (LX11_r1 hL) ?_
  refine r_iconst (v := nI 0) hX dX11_places_4 (by decide) ?_
  refine rn_iald hX dX11_places_5 (LX11_a1 hL) rfl (by omega) (by omega) ?_
  rw [hn]
  refine r_ireturn hX rfl rfl dX11_places_6 (by decide) (by decide) ?_
  exact ⟨by rw [h0.1]; first | done | rfl, rfl⟩
set_option maxHeartbeats 2000000 in
set_option maxRecDepth 20000 in
theorem t_X11_carriers {M : Mm} {a : Nat} {n : Nat → Int32} (hL : LX11 M.1 M.2.1 a) (hn : mI M (a + 1) = n) (h1 : Rn n 1 5) : Ct G base YX11_carriers 1 0 0 [.ref a] M (rE (some (.int (nI (nv n 1)))) M) := by
  refine Ct.of IX11_carriers.1 (by simp [Value.category]) (Nat.le_of_ble_eq_true rfl) (fun X hX hN => ?_)
  show J G base X 0 0 M 0 [some (.ref a)] []
  refine r_aload_n hX dX11_carriers_0 rfl ?_
  refine r_getr hX dX11_carriers_1 fl_X11_13 rfl (LX11_s hL) (LX11_r1 hL) ?_
  refine r_iconst (v := nI 1) hX dX11_carriers_4 (by decide) ?_
  refine rn_iald hX dX11_carriers_5 (LX11_a1 hL) rfl (by omega) (by omega) ?_
  rw [hn]
  refine r_ireturn hX rfl rfl dX11_carriers_6 (by decide) (by decide) ?_
  exact ⟨by rw [h1.1]; first | done | rfl, rfl⟩
set_option maxHeartbeats 2000000 in
set_option maxRecDepth 20000 in
theorem t_X11_letters {M : Mm} {a : Nat} {n : Nat → Int32} (hL : LX11 M.1 M.2.1 a) (hn : mI M (a + 1) = n) (h2 : Rn n 2 30) : Ct G base YX11_letters 1 0 0 [.ref a] M (rE (some (.int (nI (nv n 2)))) M) := by
  refine Ct.of IX11_letters.1 (by simp [Value.category]) (Nat.le_of_ble_eq_true rfl) (fun X hX hN => ?_)
  show J G base X 0 0 M 0 [some (.ref a)] []
  refine r_aload_n hX dX11_letters_0 rfl ?_
  refine r_getr hX dX11_letters_1 fl_X11_13 rfl (LX11_s hL) (LX11_r1 hL) ?_
  refine r_iconst (v := nI 2) hX dX11_letters_4 (by decide) ?_
  refine rn_iald hX dX11_letters_5 (LX11_a1 hL) rfl (by omega) (by omega) ?_
  rw [hn]
  refine r_ireturn hX rfl rfl dX11_letters_6 (by decide) (by decide) ?_
  exact ⟨by rw [h2.1]; first | done | rfl, rfl⟩
set_option maxHeartbeats 2000000 in
set_option maxRecDepth 20000 in
theorem t_X11_of {M : Mm} {a : Nat} {n : Nat → Int32} (hL : LX11 M.1 M.2.1 a) (hn : mI M (a + 1) = n) {l w : Nat} (hl : l < 30) (hw : w < 10) : Ct G base YX11_of 1 0 0 [.ref a, .int (nI l), .int (nI w)] M (rE (some (.int (n (498 + 10 * l + w)))) M) := by
  refine Ct.of IX11_of.1 (by simp [Value.category]) (Nat.le_of_ble_eq_true rfl) (fun X hX hN => ?_)
  show J G base X 0 0 M 0 [some (.ref a), some (.int (nI l)), some (.int (nI w))] []
  refine r_aload_n hX dX11_of_0 rfl ?_
  refine r_getr hX dX11_of_1 fl_X11_13 rfl (LX11_s hL) (LX11_r1 hL) ?_
  refine r_sipush (v := nI 498) hX dX11_of_4 (by decide) ?_
  refine r_bipush (v := nI 10) hX dX11_of_7 (by decide) ?_
  refine r_iload_n hX dX11_of_9 rfl ?_
  refine rn_imul hX dX11_of_10 rfl rfl ?_
  refine rn_iadd hX dX11_of_11 rfl rfl ?_
  refine r_iload_n hX dX11_of_12 rfl ?_
  refine rn_iadd hX dX11_of_13 rfl rfl ?_
  refine rn_iald hX dX11_of_14 (LX11_a1 hL) rfl (by omega) (by omega) ?_
  rw [hn]
  refine r_ireturn hX rfl rfl dX11_of_15 (by decide) (by decide) ?_
  exact ⟨rfl, rfl⟩
set_option maxHeartbeats 2000000 in
set_option maxRecDepth 20000 in
theorem t_X11_sets {M : Mm} {a : Nat} {n : Nat → Int32} (hL : LX11 M.1 M.2.1 a) (hn : mI M (a + 1) = n) {l w : Nat} (hl : l < 30) (hw : w < 10) {v : Int32} : Ct G base YX11_sets 1 0 0 [.ref a, .int (nI l), .int (nI w), .int v] M (rI none M (pN M a (upd n (498 + 10 * l + w) v))) := by
  refine Ct.of IX11_sets.1 (by simp [Value.category]) (Nat.le_of_ble_eq_true rfl) (fun X hX hN => ?_)
  show J G base X 0 0 M 0 [some (.ref a), some (.int (nI l)), some (.int (nI w)), some (.int v)] []
  refine r_aload_n hX dX11_sets_0 rfl ?_
  refine r_getr hX dX11_sets_1 fl_X11_13 rfl (LX11_s hL) (LX11_r1 hL) ?_
  refine r_sipush (v := nI 498) hX dX11_sets_4 (by decide) ?_
  refine r_bipush (v := nI 10) hX dX11_sets_7 (by decide) ?_
  refine r_iload_n hX dX11_sets_9 rfl ?_
  refine rn_imul hX dX11_sets_10 rfl rfl ?_
  refine rn_iadd hX dX11_sets_11 rfl rfl ?_
  refine r_iload_n hX dX11_sets_12 rfl ?_
  refine rn_iadd hX dX11_sets_13 rfl rfl ?_
  refine r_iload_n hX dX11_sets_14 rfl ?_
  refine rn_iast hX dX11_sets_15 (LX11_a1 hL) rfl (by omega) (by omega) ?_
  refine r_return hX rfl dX11_sets_16 (by decide) (by decide) ?_
  exact ⟨rfl, _, rfl, uIA hn, fun x hx => uIo hx⟩
set_option maxHeartbeats 2000000 in
set_option maxRecDepth 20000 in
theorem t_X11_isIn {M : Mm} {a : Nat} {n : Nat → Int32} (hL : LX11 M.1 M.2.1 a) (hn : mI M (a + 1) = n) {l : Nat} (hl : l < 30) {kd pl : Int32} : Ct G base YX11_isIn 2 0 0 [.ref a, .int (nI l), .int kd, .int pl] M (rE (some (.int (if n (498 + 10 * l + 3) = kd ∧ n (498 + 10 * l + 4) = pl then 1 else 0))) M) := by
  refine Ct.of IX11_isIn.1 (by simp [Value.category]) (Nat.le_of_ble_eq_true rfl) (fun X hX hN => ?_)
  show J G base X 0 0 M 0 [some (.ref a), some (.int (nI l)), some (.int kd), some (.int pl)] []
  refine r_aload_n hX dX11_isIn_0 rfl ?_
  refine r_iload_n hX dX11_isIn_1 rfl ?_
  refine r_iconst (v := nI 3) hX dX11_isIn_2 (by decide) ?_
  refine r_cV2 hX dX11_isIn_3 IX11_of ml_X11_67 rfl (LX11_s hL) rfl (t_X11_of hL hn (by omega) (by decide)) (by decide) (by decide) (by decide) (by decide) rfl (Nat.le_of_ble_eq_true rfl) ?_
  refine r_iload_n hX dX11_isIn_6 rfl ?_
  refine r_icmp_ne (tgt := 24) hX dX11_isIn_7 (by decide) (fun c7 => ?_) (fun c7 => ?_)
  · refine r_iconst (v := 0) hX dX11_isIn_24 (by decide) ?_
    refine r_ireturn hX rfl rfl dX11_isIn_25 (by decide) (by decide) ?_
    first
      | exact ⟨by rw [if_neg (fun h => c7 h.1)]; first | done | rfl, rfl⟩
      | exact ⟨by rw [if_neg (fun h => c17 h.2)]; first | done | rfl, rfl⟩
      | exact ⟨by rw [if_pos ⟨c7, c17⟩]; first | done | rfl, rfl⟩
  · refine r_aload_n hX dX11_isIn_10 rfl ?_
    refine r_iload_n hX dX11_isIn_11 rfl ?_
    refine r_iconst (v := nI 4) hX dX11_isIn_12 (by decide) ?_
    refine r_cV2 hX dX11_isIn_13 IX11_of ml_X11_67 rfl (LX11_s hL) rfl (t_X11_of hL hn (by omega) (by decide)) (by decide) (by decide) (by decide) (by decide) rfl (Nat.le_of_ble_eq_true rfl) ?_
    refine r_iload_n hX dX11_isIn_16 rfl ?_
    refine r_icmp_ne (tgt := 24) hX dX11_isIn_17 (by decide) (fun c17 => ?_) (fun c17 => ?_)
    · refine r_iconst (v := 0) hX dX11_isIn_24 (by decide) ?_
      refine r_ireturn hX rfl rfl dX11_isIn_25 (by decide) (by decide) ?_
      first
        | exact ⟨by rw [if_neg (fun h => c7 h.1)]; first | done | rfl, rfl⟩
        | exact ⟨by rw [if_neg (fun h => c17 h.2)]; first | done | rfl, rfl⟩
        | exact ⟨by rw [if_pos ⟨c7, c17⟩]; first | done | rfl, rfl⟩
    · refine r_iconst (v := 1) hX dX11_isIn_20 (by decide) ?_
      refine r_goto (tgt := 25) hX dX11_isIn_21 (by decide) ?_
      refine r_ireturn hX rfl rfl dX11_isIn_25 (by decide) (by decide) ?_
      first
        | exact ⟨by rw [if_neg (fun h => c7 h.1)]; first | done | rfl, rfl⟩
        | exact ⟨by rw [if_neg (fun h => c17 h.2)]; first | done | rfl, rfl⟩
        | exact ⟨by rw [if_pos ⟨c7, c17⟩]; first | done | rfl, rfl⟩
set_option maxHeartbeats 2000000 in
set_option maxRecDepth 20000 in
theorem t_X11_lies {M : Mm} {a : Nat} {n : Nat → Int32} (hL : LX11 M.1 M.2.1 a) (hn : mI M (a + 1) = n) {l : Nat} (hl : l < 30) {kd pl : Int32} : Ct G base YX11_lies 2 0 0 [.ref a, .int (nI l), .int kd, .int pl] M (rI none M (pN M a (liesN n l kd pl))) := by
  refine Ct.of IX11_lies.1 (by simp [Value.category]) (Nat.le_of_ble_eq_true rfl) (fun X hX hN => ?_)
  show J G base X 0 0 M 0 [some (.ref a), some (.int (nI l)), some (.int kd), some (.int pl)] []
  refine r_aload_n hX dX11_lies_0 rfl ?_
  refine r_iload_n hX dX11_lies_1 rfl ?_
  refine r_iconst (v := nI 3) hX dX11_lies_2 (by decide) ?_
  refine r_iload_n hX dX11_lies_3 rfl ?_
  refine r_iV3 hX dX11_lies_4 IX11_sets ml_X11_71 rfl (LX11_s hL) rfl (t_X11_sets hL hn (by omega) (by decide)) (by decide) (by decide) (by decide) (by decide) rfl (Nat.le_of_ble_eq_true rfl) (fun i4 h4 => ?_)
  show J G base X _ _ (wI M i4) _ _ _
  have hn4 : mI (wI M i4) (a + 1) = _ := h4.1
  refine r_aload_n hX dX11_lies_7 rfl ?_
  refine r_iload_n hX dX11_lies_8 rfl ?_
  refine r_iconst (v := nI 4) hX dX11_lies_9 (by decide) ?_
  refine r_iload_n hX dX11_lies_10 rfl ?_
  refine r_iV3 hX dX11_lies_11 IX11_sets ml_X11_71 rfl (LX11_s hL) rfl (t_X11_sets (M := wI M i4) hL hn4 (by omega) (by decide)) (by decide) (by decide) (by decide) (by decide) rfl (Nat.le_of_ble_eq_true rfl) (fun i11 h11 => ?_)
  show J G base X _ _ (wI M i11) _ _ _
  have hn11 : mI (wI M i11) (a + 1) = _ := h11.1
  refine r_return hX rfl dX11_lies_14 (by decide) (by decide) ?_
  exact ⟨rfl, _, rfl, h11.1, fun x hx => (h11.2 x hx).trans (h4.2 x hx)⟩
set_option maxHeartbeats 2000000 in
set_option maxRecDepth 20000 in
theorem t_X11_isTown {M : Mm} {a : Nat} {n : Nat → Int32} (hL : LX11 M.1 M.2.1 a) (hn : mI M (a + 1) = n) (h0 : Rn n 0 10) {x : Int32} : Ct G base YX11_isTown 2 0 0 [.ref a, .int x] M (rE (some (.int (if townP n x then 1 else 0))) M) := by
  refine Ct.of IX11_isTown.1 (by simp [Value.category]) (Nat.le_of_ble_eq_true rfl) (fun X hX hN => ?_)
  show J G base X 0 0 M 0 [some (.ref a), some (.int x)] []
  have hb := h0.2
  have q1 : 0 ≤ x ∧ x ≤ nI (nv n 0) - 1 ↔ 0 ≤ x ∧ x < nI (nv n 0) := by
    constructor
    · rintro ⟨h1, h2⟩
      refine ⟨h1, ?_⟩
      by_cases hz : nv n 0 = 0
      · rw [hz] at h2
        exact absurd (Int32.le_trans h1 h2) (by decide)
      · have e : nI (nv n 0) - 1 = nI (nv n 0 - 1) := pk_sub (b := 1) (by omega)
        rw [e] at h2
        exact Int32.lt_of_le_of_lt h2 (nI_lt (by omega) (by omega))
    · rintro ⟨h1, h2⟩
      refine ⟨h1, ?_⟩
      obtain ⟨k, hk, rfl⟩ := nI_of (x := x) (i_nlt.mpr h1)
      rw [nI_ltI hk (by omega)] at h2
      have e : nI (nv n 0) - 1 = nI (nv n 0 - 1) := pk_sub (b := 1) (by omega)
      rw [e]
      exact nI_le (by omega) (by omega)
  refine r_iload_n hX dX11_isTown_0 rfl ?_
  refine r_iconst (v := nI 0) hX dX11_isTown_1 (by decide) ?_
  refine r_aload_n hX dX11_isTown_2 rfl ?_
  refine r_cV0 hX dX11_isTown_3 IX11_places ml_X11_75 rfl (LX11_s hL) rfl (t_X11_places hL hn h0) (by decide) (by decide) (by decide) (by decide) rfl (Nat.le_of_ble_eq_true rfl) ?_
  refine r_iconst (v := nI 1) hX dX11_isTown_6 (by decide) ?_
  refine r_isub hX dX11_isTown_7 ?_
  refine r_cS3 hX dX11_isTown_8 IX11_in ml_X11_79 rfl (t_X11_in ) (by decide) (by decide) (by decide) (by decide) rfl (Nat.le_of_ble_eq_true rfl) ?_
  refine rb_if_eq (tgt := 31) hX dX11_isTown_11 (by decide) rfl (fun c11 => ?_) (fun c11 => ?_)
  · refine r_iconst (v := 0) hX dX11_isTown_31 (by decide) ?_
    refine r_ireturn hX rfl rfl dX11_isTown_32 (by decide) (by decide) ?_
    first
      | exact ⟨by rw [if_neg (fun h => c11 (q1.mpr ⟨h.1, by rw [← h0.1]; exact h.2.1⟩))]; first | done | rfl, rfl⟩
      | exact ⟨by rw [if_neg (fun h => c24 ((townP_nI h0 hj).mp h))]; first | done | rfl, rfl⟩
      | exact ⟨by rw [if_pos ((townP_nI h0 hj).mpr c24)]; first | done | rfl, rfl⟩
  · obtain ⟨j, hj, rfl⟩ : ∃ j : Nat, j < nv n 0 ∧ x = nI j := by
      obtain ⟨h1, h2⟩ := q1.mp c11
      obtain ⟨k, hk, rfl⟩ := nI_of (x := x) (i_nlt.mpr h1)
      rw [nI_ltI hk (by omega)] at h2
      exact ⟨k, h2, rfl⟩
    show J G base X 0 0 M 14 [some (.ref a), some (.int (nI j))] []
    refine r_aload_n hX dX11_isTown_14 rfl ?_
    refine r_getr hX dX11_isTown_15 fl_X11_13 rfl (LX11_s hL) (LX11_r1 hL) ?_
    refine r_bipush (v := nI 8) hX dX11_isTown_18 (by decide) ?_
    refine r_iload_n hX dX11_isTown_20 rfl ?_
    refine rn_iadd hX dX11_isTown_21 rfl rfl ?_
    refine rn_iald hX dX11_isTown_22 (LX11_a1 hL) rfl (by omega) (by omega) ?_
    rw [hn]
    refine r_iconst (v := 1) hX dX11_isTown_23 (by decide) ?_
    refine r_icmp_ne (tgt := 31) hX dX11_isTown_24 (by decide) (fun c24 => ?_) (fun c24 => ?_)
    · refine r_iconst (v := 0) hX dX11_isTown_31 (by decide) ?_
      refine r_ireturn hX rfl rfl dX11_isTown_32 (by decide) (by decide) ?_
      first
        | exact ⟨by rw [if_neg (fun h => c11 (q1.mpr ⟨h.1, by rw [← h0.1]; exact h.2.1⟩))]; first | done | rfl, rfl⟩
        | exact ⟨by rw [if_neg (fun h => c24 ((townP_nI h0 hj).mp h))]; first | done | rfl, rfl⟩
        | exact ⟨by rw [if_pos ((townP_nI h0 hj).mpr c24)]; first | done | rfl, rfl⟩
    · refine r_iconst (v := 1) hX dX11_isTown_27 (by decide) ?_
      refine r_goto (tgt := 32) hX dX11_isTown_28 (by decide) ?_
      refine r_ireturn hX rfl rfl dX11_isTown_32 (by decide) (by decide) ?_
      first
        | exact ⟨by rw [if_neg (fun h => c11 (q1.mpr ⟨h.1, by rw [← h0.1]; exact h.2.1⟩))]; first | done | rfl, rfl⟩
        | exact ⟨by rw [if_neg (fun h => c24 ((townP_nI h0 hj).mp h))]; first | done | rfl, rfl⟩
        | exact ⟨by rw [if_pos ((townP_nI h0 hj).mpr c24)]; first | done | rfl, rfl⟩
set_option maxHeartbeats 2000000 in
set_option maxRecDepth 20000 in
theorem t_X11_routeAt {M : Mm} {a : Nat} {c w : Nat} : Ct G base YX11_routeAt 1 0 0 [.ref a, .int (nI c), .int (nI w)] M (rE (some (.int (nI (rtA c w)))) M) := by
  refine Ct.of IX11_routeAt.1 (by simp [Value.category]) (Nat.le_of_ble_eq_true rfl) (fun X hX hN => ?_)
  show J G base X 0 0 M 0 [some (.ref a), some (.int (nI c)), some (.int (nI w))] []
  refine r_bipush (v := nI 43) hX dX11_routeAt_0 (by decide) ?_
  refine r_bipush (v := nI 13) hX dX11_routeAt_2 (by decide) ?_
  refine r_bipush (v := nI 7) hX dX11_routeAt_4 (by decide) ?_
  refine r_iload_n hX dX11_routeAt_6 rfl ?_
  refine rn_imul hX dX11_routeAt_7 rfl rfl ?_
  refine r_iload_n hX dX11_routeAt_8 rfl ?_
  refine rn_iadd hX dX11_routeAt_9 rfl rfl ?_
  refine rn_imul hX dX11_routeAt_10 rfl rfl ?_
  refine rn_iadd hX dX11_routeAt_11 rfl rfl ?_
  refine r_ireturn hX rfl rfl dX11_routeAt_12 (by decide) (by decide) ?_
  exact ⟨rfl, rfl⟩
set_option maxHeartbeats 2000000 in
set_option maxRecDepth 20000 in
theorem t_X11_stopIn {M : Mm} {a : Nat} {n : Nat → Int32} (hL : LX11 M.1 M.2.1 a) (hn : mI M (a + 1) = n) (hr : RtOk n) {c h : Nat} (hc : c < 5) (hh : h < 2147483648) : Ct G base YX11_stopIn 2 0 0 [.ref a, .int (nI c), .int (nI h)] M (rE (some (.int (stopN n c h))) M) := by
  refine Ct.of IX11_stopIn.1 (by simp [Value.category]) (Nat.le_of_ble_eq_true rfl) (fun X hX hN => ?_)
  show J G base X 0 0 M 0 [some (.ref a), some (.int (nI c)), some (.int (nI h)), none, none] []
  have hw : h / 24 % 7 < 7 := Nat.mod_lt _ (by decide)
  obtain ⟨r1, r2⟩ := hr c hc (h / 24 % 7) hw
  have hat : rtA c (h / 24 % 7) ≤ 485 := by show 43 + 13 * (7 * c + h / 24 % 7) ≤ 485; omega
  have h6 : nv n (rtA c (h / 24 % 7)) ≤ 6 := r1.2
  have hw9 : h / 24 < 2147483648 := by omega
  refine r_aload_n hX dX11_stopIn_0 rfl ?_
  refine r_iload_n hX dX11_stopIn_1 rfl ?_
  refine r_iload_n hX dX11_stopIn_2 rfl ?_
  refine r_bipush (v := nI 24) hX dX11_stopIn_3 (by decide) ?_
  refine rn_idiv hX dX11_stopIn_5 rfl rfl (by decide) (by omega) ?_
  refine r_bipush (v := nI 7) hX dX11_stopIn_6 (by decide) ?_
  refine rn_irem hX dX11_stopIn_8 rfl rfl (by decide) (by omega) ?_
  refine r_cV2 hX dX11_stopIn_9 IX11_routeAt ml_X11_83 rfl (LX11_s hL) rfl (t_X11_routeAt ) (by decide) (by decide) (by decide) (by decide) rfl (Nat.le_of_ble_eq_true rfl) ?_
  refine r_istore3 hX dX11_stopIn_12 rfl ?_
  refine r_iconst (v := nI 0) hX dX11_stopIn_13 (by decide) ?_
  refine r_istore4 hX dX11_stopIn_14 rfl ?_
  generalize hA : rtA c (h / 24 % 7) = A at r1 r2 hat h6 ⊢
  refine loop_up (P := fun j => stF n A (nI (h % 24)) j = -1 → J G base X 0 0 M 16 [some (.ref a), some (.int (nI c)), some (.int (nI h)), some (.int (nI A)), some (.int (nI j))] []) (nv n A) (fun j hj ih hno => ?_) 0 (Nat.zero_le _) rfl
  refine r_iload hX dX11_stopIn_16 rfl ?_
  refine r_aload_n hX dX11_stopIn_18 rfl ?_
  refine r_getr hX dX11_stopIn_19 fl_X11_13 rfl (LX11_s hL) (LX11_r1 hL) ?_
  refine r_iload_n hX dX11_stopIn_22 rfl ?_
  refine rn_iald hX dX11_stopIn_23 (LX11_a1 hL) rfl (by omega) (by omega) ?_
  rw [hn]
  rw [r1.1]
  refine rn_icmp_ge (tgt := 67) hX dX11_stopIn_24 (by decide) rfl rfl (by omega) (by omega) (fun c24 => ?_) (fun c24 => ?_)
  · refine r_iconst (v := (-1)) hX dX11_stopIn_67 (by decide) ?_
    refine r_ireturn hX rfl rfl dX11_stopIn_68 (by decide) (by decide) ?_
    first
      | (obtain rfl : j = nv n A := by omega
         exact ⟨by rw [stopN, hA, hno]; first | done | rfl, rfl⟩)
      | (refine ⟨?_, rfl⟩
         obtain ⟨h9, q9, -, -, hq9, -, e9⟩ := r2 j c24
         have e1 : stF n A (nI (h % 24)) (j + 1) = n (A + 2 + 2 * j) := by
           simp only [stF]
           rw [if_pos hno, if_pos c44]
         rw [stopN, hA, stF_stay (k := j + 1) (by rw [e1, e9]; exact nI_ne_m1 (by omega)) (by omega), e1])
  · refine r_aload_n hX dX11_stopIn_27 rfl ?_
    refine r_getr hX dX11_stopIn_28 fl_X11_13 rfl (LX11_s hL) (LX11_r1 hL) ?_
    refine r_iload_n hX dX11_stopIn_31 rfl ?_
    refine r_iconst (v := nI 1) hX dX11_stopIn_32 (by decide) ?_
    refine rn_iadd hX dX11_stopIn_33 rfl rfl ?_
    refine r_iconst (v := nI 2) hX dX11_stopIn_34 (by decide) ?_
    refine r_iload hX dX11_stopIn_35 rfl ?_
    refine rn_imul hX dX11_stopIn_37 rfl rfl ?_
    refine rn_iadd hX dX11_stopIn_38 rfl rfl ?_
    refine rn_iald hX dX11_stopIn_39 (LX11_a1 hL) rfl (by omega) (by omega) ?_
    rw [hn]
    refine r_iload_n hX dX11_stopIn_40 rfl ?_
    refine r_bipush (v := nI 24) hX dX11_stopIn_41 (by decide) ?_
    refine rn_irem hX dX11_stopIn_43 rfl rfl (by decide) (by omega) ?_
    refine r_icmp_ne (tgt := 61) hX dX11_stopIn_44 (by decide) (fun c44 => ?_) (fun c44 => ?_)
    · refine rn_iinc4 hX dX11_stopIn_61 rfl rfl ?_
      refine r_goto (tgt := 16) hX dX11_stopIn_64 (by decide) ?_
      have h9 := ih (by omega)
      simp only [stF] at h9
      rw [if_pos hno, if_neg c44] at h9
      exact h9 rfl
    · refine r_aload_n hX dX11_stopIn_47 rfl ?_
      refine r_getr hX dX11_stopIn_48 fl_X11_13 rfl (LX11_s hL) (LX11_r1 hL) ?_
      refine r_iload_n hX dX11_stopIn_51 rfl ?_
      refine r_iconst (v := nI 2) hX dX11_stopIn_52 (by decide) ?_
      refine rn_iadd hX dX11_stopIn_53 rfl rfl ?_
      refine r_iconst (v := nI 2) hX dX11_stopIn_54 (by decide) ?_
      refine r_iload hX dX11_stopIn_55 rfl ?_
      refine rn_imul hX dX11_stopIn_57 rfl rfl ?_
      refine rn_iadd hX dX11_stopIn_58 rfl rfl ?_
      refine rn_iald hX dX11_stopIn_59 (LX11_a1 hL) rfl (by omega) (by omega) ?_
      rw [hn]
      refine r_ireturn hX rfl rfl dX11_stopIn_60 (by decide) (by decide) ?_
      first
        | (obtain rfl : j = nv n A := by omega
           exact ⟨by rw [stopN, hA, hno]; first | done | rfl, rfl⟩)
        | (refine ⟨?_, rfl⟩
           obtain ⟨h9, q9, -, -, hq9, -, e9⟩ := r2 j c24
           have e1 : stF n A (nI (h % 24)) (j + 1) = n (A + 2 + 2 * j) := by
             simp only [stF]
             rw [if_pos hno, if_pos c44]
           rw [stopN, hA, stF_stay (k := j + 1) (by rw [e1, e9]; exact nI_ne_m1 (by omega)) (by omega), e1])
set_option maxHeartbeats 2000000 in
set_option maxRecDepth 20000 in
theorem t_X11_placeIn {M : Mm} {a : Nat} {n : Nat → Int32} (hL : LX11 M.1 M.2.1 a) (hn : mI M (a + 1) = n) (hr : RtOk n) {c h : Nat} (hc : c < 5) (hh : h < 2147483648) : Ct G base YX11_placeIn 3 0 0 [.ref a, .int (nI c), .int (nI h)] M (rE (some (.int (placeN n c h))) M) := by
  refine Ct.of IX11_placeIn.1 (by simp [Value.category]) (Nat.le_of_ble_eq_true rfl) (fun X hX hN => ?_)
  show J G base X 0 0 M 0 [some (.ref a), some (.int (nI c)), some (.int (nI h))] []
  refine r_aload_n hX dX11_placeIn_0 rfl ?_
  refine r_getr hX dX11_placeIn_1 fl_X11_13 rfl (LX11_s hL) (LX11_r1 hL) ?_
  refine r_bipush (v := nI 38) hX dX11_placeIn_4 (by decide) ?_
  refine r_iload_n hX dX11_placeIn_6 rfl ?_
  refine rn_iadd hX dX11_placeIn_7 rfl rfl ?_
  refine rn_iald hX dX11_placeIn_8 (LX11_a1 hL) rfl (by omega) (by omega) ?_
  rw [hn]
  refine r_iconst (v := 1) hX dX11_placeIn_9 (by decide) ?_
  refine r_icmp_ne (tgt := 17) hX dX11_placeIn_10 (by decide) (fun c10 => ?_) (fun c10 => ?_)
  · refine r_aload_n hX dX11_placeIn_17 rfl ?_
    refine r_iload_n hX dX11_placeIn_18 rfl ?_
    refine r_iload_n hX dX11_placeIn_19 rfl ?_
    refine r_cV2 hX dX11_placeIn_20 IX11_stopIn ml_X11_86 rfl (LX11_s hL) rfl (t_X11_stopIn hL hn hr (by omega) (by omega)) (by decide) (by decide) (by decide) (by decide) rfl (Nat.le_of_ble_eq_true rfl) ?_
    refine r_ireturn hX rfl rfl dX11_placeIn_23 (by decide) (by decide) ?_
    first
      | exact ⟨by rw [placeN, if_neg c10]; first | done | rfl, rfl⟩
      | exact ⟨by rw [placeN, if_pos c10]; first | done | rfl, rfl⟩
  · refine r_iconst (v := (-1)) hX dX11_placeIn_13 (by decide) ?_
    refine r_goto (tgt := 23) hX dX11_placeIn_14 (by decide) ?_
    refine r_ireturn hX rfl rfl dX11_placeIn_23 (by decide) (by decide) ?_
    first
      | exact ⟨by rw [placeN, if_neg c10]; first | done | rfl, rfl⟩
      | exact ⟨by rw [placeN, if_pos c10]; first | done | rfl, rfl⟩
