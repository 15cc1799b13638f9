def tabF : List (List Bool) := [[false, false, true], [true, true, true, true], [false, true, true, true, true, true, true, true, true, true, true], [false, true], [false, true, true], [true, true, false, false, false, false, false, false, false], [false, false, true], [false, false, true], [false, false, false, false, true, true, true, true], [false, false, false, true, true, true, true, true], [true, false, false, false, true, true, true, true, true, true, true], [false, true, true, true, false, true, true, false, false, false, false, false, false, false, false, true, true, true, true, true, true, true, true, false]]
def isF (ci k : Nat) : Bool := (tabF.getD ci []).getD k false
/-- what the tables say of the class number ci -/
def ClsI (ci : Nat) : Prop := ∃ (C : String) (T : u_T) (N : Nat) (ty : Nat → FieldType), vwCl[ci]? = some (C, T, N) ∧ N = nF ci ∧ (∀ w ∈ u_ws C T N, w ∈ WT) ∧ (∀ k, k < N → parseFieldDescriptor (T k).2.2.1 = some (ty k)) ∧ (∀ a, a < N → ∀ b, b < N → a ≠ b → (T a).2.1 ≠ (T b).2.1) ∧
  (∀ k, k < N → isR ci k = false → ty k = .int) ∧ (∀ k, k < N → isR ci k = true → (∃ c, ty k = .object c) ∨ ∃ t, ty k = .array t) ∧ (∀ k, k < N → (T k).2.2.2 = isF ci k)
def isRT (t : FieldType) : Bool := match t with
  | .object _ => true
  | .array _ => true
  | _ => false
theorem isRT_of {t : FieldType} (h : isRT t = true) : (∃ c, t = .object c) ∨ ∃ u, t = .array u := by
  cases t <;> simp [isRT] at h ⊢
theorem cI0 : ClsI 0 := ⟨RX0, TX0, 3, tyX0, rfl, by decide, uw0, tyX0_ok, nmX0, by decide +kernel, fun k hk h => isRT_of ((show ∀ k, k < 3 → isR 0 k = true → isRT (tyX0 k) = true by decide +kernel) k hk h), by decide +kernel⟩
theorem cI1 : ClsI 1 := ⟨RX1, TX1, 4, tyX1, rfl, by decide, uw1, tyX1_ok, nmX1, by decide +kernel, fun k hk h => isRT_of ((show ∀ k, k < 4 → isR 1 k = true → isRT (tyX1 k) = true by decide +kernel) k hk h), by decide +kernel⟩
theorem cI2 : ClsI 2 := ⟨RX2, TX2, 11, tyX2, rfl, by decide, uw2, tyX2_ok, nmX2, by decide +kernel, fun k hk h => isRT_of ((show ∀ k, k < 11 → isR 2 k = true → isRT (tyX2 k) = true by decide +kernel) k hk h), by decide +kernel⟩
theorem cI3 : ClsI 3 := ⟨RX3, TX3, 2, tyX3, rfl, by decide, uw3, tyX3_ok, nmX3, by decide +kernel, fun k hk h => isRT_of ((show ∀ k, k < 2 → isR 3 k = true → isRT (tyX3 k) = true by decide +kernel) k hk h), by decide +kernel⟩
theorem cI4 : ClsI 4 := ⟨RX4, TX4, 3, tyX4, rfl, by decide, uw4, tyX4_ok, nmX4, by decide +kernel, fun k hk h => isRT_of ((show ∀ k, k < 3 → isR 4 k = true → isRT (tyX4 k) = true by decide +kernel) k hk h), by decide +kernel⟩
theorem cI5 : ClsI 5 := ⟨RX5, TX5, 9, tyX5, rfl, by decide, uw5, tyX5_ok, nmX5, by decide +kernel, fun k hk h => isRT_of ((show ∀ k, k < 9 → isR 5 k = true → isRT (tyX5 k) = true by decide +kernel) k hk h), by decide +kernel⟩
theorem cI6 : ClsI 6 := ⟨RX6, TX6, 3, tyX6, rfl, by decide, uw6, tyX6_ok, nmX6, by decide +kernel, fun k hk h => isRT_of ((show ∀ k, k < 3 → isR 6 k = true → isRT (tyX6 k) = true by decide +kernel) k hk h), by decide +kernel⟩
theorem cI7 : ClsI 7 := ⟨RX7, TX7, 3, tyX7, rfl, by decide, uw7, tyX7_ok, nmX7, by decide +kernel, fun k hk h => isRT_of ((show ∀ k, k < 3 → isR 7 k = true → isRT (tyX7 k) = true by decide +kernel) k hk h), by decide +kernel⟩
theorem cI8 : ClsI 8 := ⟨RX8, TX8, 8, tyX8, rfl, by decide, uw8, tyX8_ok, nmX8, by decide +kernel, fun k hk h => isRT_of ((show ∀ k, k < 8 → isR 8 k = true → isRT (tyX8 k) = true by decide +kernel) k hk h), by decide +kernel⟩
theorem cI9 : ClsI 9 := ⟨RX9, TX9, 8, tyX9, rfl, by decide, uw9, tyX9_ok, nmX9, by decide +kernel, fun k hk h => isRT_of ((show ∀ k, k < 8 → isR 9 k = true → isRT (tyX9 k) = true by decide +kernel) k hk h), by decide +kernel⟩
theorem cI10 : ClsI 10 := ⟨RX10, TX10, 11, tyX10, rfl, by decide, uw10, tyX10_ok, nmX10, by decide +kernel, fun k hk h => isRT_of ((show ∀ k, k < 11 → isR 10 k = true → isRT (tyX10 k) = true by decide +kernel) k hk h), by decide +kernel⟩
theorem cI11 : ClsI 11 := ⟨RX11, TX11, 24, tyX11, rfl, by decide, uw11, tyX11_ok, nmX11, by decide +kernel, fun k hk h => isRT_of ((show ∀ k, k < 24 → isR 11 k = true → isRT (tyX11 k) = true by decide +kernel) k hk h), by decide +kernel⟩
theorem cI_all : ∀ ci, ci < 12 → ClsI ci := fun ci h => match ci, h with
  | 0, _ => cI0
  | 1, _ => cI1
  | 2, _ => cI2
  | 3, _ => cI3
  | 4, _ => cI4
  | 5, _ => cI5
  | 6, _ => cI6
  | 7, _ => cI7
  | 8, _ => cI8
  | 9, _ => cI9
  | 10, _ => cI10
  | 11, _ => cI11
  | n + 12, h => absurd h (by omega)
theorem vwCl_lt {ci : Nat} {q : vw_C} (h : vwCl[ci]? = some q) : ci < 12 := (List.getElem?_eq_some_iff.mp h).1
theorem flds_at {ci k : Nat} {r : Nat → Option Nat} {i : Nat → Int32} (hk : k < nF ci) : (flds ci r i)[k]? = some (fld ci r i k) := by
  simp [flds, List.getElem?_range hk]
theorem flds_len {ci : Nat} {r : Nat → Option Nat} {i : Nat → Int32} : (flds ci r i).length = nF ci := by simp [flds]
theorem flds_set {ci k : Nat} {r r' : Nat → Option Nat} {i i' : Nat → Int32} {v : Value} (hk : k < nF ci) (hv : fld ci r' i' k = v) (ho : ∀ j, j ≠ k → fld ci r' i' j = fld ci r i j) : flds ci r' i' = (flds ci r i).set k v := by
  apply List.ext_getElem?
  intro j
  by_cases hj : j < nF ci
  · rw [flds_at hj]
    by_cases hjk : j = k
    · subst hjk
      rw [List.getElem?_set_self (by rw [flds_len]; exact hj), hv]
    · rw [List.getElem?_set_ne (Ne.symm hjk), flds_at hj, ho j hjk]
  · rw [List.getElem?_eq_none (by rw [flds_len]; omega), List.getElem?_eq_none (by rw [List.length_set, flds_len]; omega)]
theorem ent_obj {G : GG} {ci n : Nat} (h : ci < 12) {r : Nat → Option Nat} {i : Nat → Int32} {l : Nat → Int64} : ent G (ci, n) r i l = .inr (ci, flds ci r i) := by
  simp [ent, h]
theorem ent_i {G : GG} {n : Nat} {r : Nat → Option Nat} {i : Nat → Int32} {l : Nat → Int64} : ent G (12, n) r i l = .inl (G.2.1 12, n, .inl i) := rfl
theorem ent_b {G : GG} {n : Nat} {r : Nat → Option Nat} {i : Nat → Int32} {l : Nat → Int64} : ent G (13, n) r i l = .inl (G.2.1 13, n, .inl i) := rfl
theorem ent_l {G : GG} {n : Nat} {r : Nat → Option Nat} {i : Nat → Int32} {l : Nat → Int64} : ent G (14, n) r i l = .inl (G.2.1 14, n, .inr (.inl l)) := rfl
theorem ent_q {G : GG} {n : Nat} {r : Nat → Option Nat} {i : Nat → Int32} {l : Nat → Int64} : ent G (15, n) r i l = .inl (G.2.1 15, n, .inr (.inr (.inr (.inr r)))) := rfl
theorem fRep.at {G : GG} {base : Nat} {M : Mm} {H : Heap} (h : fRep G base M H) {a : Nat} {x : Nat × Nat} {e : va_E} (hx : mS M a = some x) (he : ent G x (mR M a) (mI M a) (mL M a) = e) : va_P G.1 vwCl [(a, e)] H := by
  intro k q hk
  have hk0 : k = 0 := by
    have := (List.getElem?_eq_some_iff.mp hk).1
    simp at this
    exact this
  subst hk0
  cases hk
  rw [← he]
  exact (h.1 a x hx).2
theorem fRep.upd {G : GG} {base : Nat} {M M' : Mm} {H H' : Heap} (h : fRep G base M H) {a : Nat} {x : Nat × Nat} {e : va_E} (hx : mS M a = some x) (hS : ∀ b, mS M' b = mS M b) (hT : mT M' = mT M) (ho : ∀ b, b ≠ a → mR M' b = mR M b ∧ mI M' b = mI M b ∧ mL M' b = mL M b)
    (he : ent G x (mR M' a) (mI M' a) (mL M' a) = e) (hat : va_at G.1 vwCl (a, e) H') (z : H'.size = H.size) (oq : ∀ q : Nat, q ≠ a → H'[q]? = H[q]?) : fRep G base M' H' := by
  refine ⟨fun b y hy => ?_, fun t ht => by rw [z]; exact h.2 t (by rw [← hT]; exact ht)⟩
  rw [hS b] at hy
  by_cases hb : b = a
  · subst hb
    cases hx.symm.trans hy
    exact ⟨(h.1 b x hx).1, by rw [he]; exact hat⟩
  · obtain ⟨e1, e2, e3⟩ := ho b hb
    rw [e1, e2, e3]
    exact ⟨(h.1 b y hy).1, (h.1 b y hy).2.kept (oq b hb)⟩
/-- a new cell at the heap's end -/
theorem fRep.new {G : GG} {base : Nat} {M : Mm} {H H' : Heap} (h : fRep G base M H) {q : Nat} {x : Nat × Nat} {e : va_E} (ht : mT M = some q) (hb : base ≤ q) (he : ent G x (fun _ => none) (fun _ => 0) (fun _ => 0) = e) (hat : va_at G.1 vwCl (q, e) H') (z : H'.size = q + 1) (oq : ∀ a : Nat, a < q → H'[a]? = H[a]?) : fRep G base (uN M q x) H' := by
  have hq := h.2 q ht
  refine ⟨fun b y hy => ?_, fun t h9 => ?_⟩
  · rw [mS_uN] at hy
    by_cases hbq : b = q
    · subst hbq
      rw [if_pos rfl] at hy
      cases hy
      refine ⟨hb, ?_⟩
      have e1 : mR (uN M b x) b = fun _ => none := by funext j; simp [mR_uN]
      have e2 : mI (uN M b x) b = fun _ => 0 := by funext j; simp [mI_uN]
      have e3 : mL (uN M b x) b = fun _ => 0 := by funext j; simp [mL_uN]
      rw [e1, e2, e3, he]
      exact hat
    · rw [if_neg hbq] at hy
      have e1 : mR (uN M q x) b = mR M b := by funext j; simp [mR_uN, hbq]
      have e2 : mI (uN M q x) b = mI M b := by funext j; simp [mI_uN, hbq]
      have e3 : mL (uN M q x) b = mL M b := by funext j; simp [mL_uN, hbq]
      rw [e1, e2, e3]
      have hlt : b < H.size := (h.1 b y hy).2.lt
      exact ⟨(h.1 b y hy).1, (h.1 b y hy).2.kept (oq b (by omega))⟩
  · rw [mT_uN] at h9
    cases h9
    exact z
section HR
variable {G : GG} {base : Nat} {X : Cx} {cc : ByteArray} {own : String} {nL : Nat} {ret : Option FieldType} {d mc ms : Nat} {post : Ot → Mm → Prop} {cs sl : Nat} {M : Mm} {pc : Nat} {ls : List (Option Value)} {st : List Value}
theorem FL.out {own : String} {idx ci k : Nat} (h : FL own idx ci k) : ∃ (C : String) (T : u_T) (N : Nat) (ty : Nat → FieldType), vwCl[ci]? = some (C, T, N) ∧ k < N ∧ N = nF ci ∧ ci < 12 ∧ (∀ w ∈ u_ws C T N, w ∈ WT) ∧ Cond.fieldLink own idx C (T k).2.1 (T k).2.2.1 ∈ WT ∧ (T k).1 = C ∧ (∀ k, k < N → parseFieldDescriptor (T k).2.2.1 = some (ty k)) ∧ (∀ a, a < N → ∀ b, b < N → a ≠ b → (T a).2.1 ≠ (T b).2.1) ∧
    (isR ci k = false → ty k = .int) ∧ (isR ci k = true → (∃ c, ty k = .object c) ∨ ∃ t, ty k = .array t) ∧ (T k).2.2.2 = isF ci k := by
  obtain ⟨C, T, N, h1, h2, h3, h4, h5⟩ := h
  have hc := vwCl_lt h1
  obtain ⟨C', T', N', ty, g1, g2, g3, g4, g5, g6, g7, g8⟩ := cI_all ci hc
  cases h1.symm.trans g1
  exact ⟨C, T, N, ty, h1, h2, g2, hc, h3, h4, h5, g4, g5, g6 k h2, g7 k h2, g8 k h2⟩
theorem r_geti (hX : okX G base X cc own nL ret d mc ms post) {idx ci k a n : Nat} (hd : decode cc pc = .ok (.getfield idx, 3)) (hf : FL own idx ci k) (hi : isR ci k = false) (hs : mS M a = some (ci, n)) (kk : J G base X cs sl M (pc + 3) ls (.int (mI M a k) :: st)) : J G base X cs sl M pc ls (.ref a :: st) := by
  obtain ⟨p, l, e, R, s, m, args, below, meth, c, Q⟩ := X
  obtain ⟨hx, hb, hml, hown, hts, hamb, hlk, hst, hr, hR, hQ, hout⟩ := hX
  intro H locs lsA hM hS hl
  obtain ⟨C, T, N, ty, h1, h2, h3, h4, h5, h6, h7, -⟩ := hf.out
  have hv : (flds ci (mR M a) (mI M a))[k]? = some (.int (mI M a k)) := by
    rw [flds_at (by omega)]
    simp [fld, hi]
  exact va_get hx hb hts h5 hown hamb.1 (hM.at hs (ent_obj h4)) 0 rfl h1 k h2 (hts _ h6) (fun x q => by rw [h7] at q; exact q) hv hd (kk H locs lsA hM hS hl)
theorem r_getr (hX : okX G base X cc own nL ret d mc ms post) {idx ci k a b n : Nat} (hd : decode cc pc = .ok (.getfield idx, 3)) (hf : FL own idx ci k) (hi : isR ci k = true) (hs : mS M a = some (ci, n)) (hr9 : mR M a k = some b) (kk : J G base X cs sl M (pc + 3) ls (.ref b :: st)) : J G base X cs sl M pc ls (.ref a :: st) := by
  obtain ⟨p, l, e, R, s, m, args, below, meth, c, Q⟩ := X
  obtain ⟨hx, hb, hml, hown, hts, hamb, hlk, hst, hr, hR, hQ, hout⟩ := hX
  intro H locs lsA hM hS hl
  obtain ⟨C, T, N, ty, h1, h2, h3, h4, h5, h6, h7, -⟩ := hf.out
  have hv : (flds ci (mR M a) (mI M a))[k]? = some (.ref b) := by
    rw [flds_at (by omega)]
    simp [fld, hi, hr9, va_rf]
  exact va_get hx hb hts h5 hown hamb.1 (hM.at hs (ent_obj h4)) 0 rfl h1 k h2 (hts _ h6) (fun x q => by rw [h7] at q; exact q) hv hd (kk H locs lsA hM hS hl)

theorem r_puti (hX : okX G base X cc own nL ret d mc ms post) {idx ci k a n : Nat} {v : Int32} (hd : decode cc pc = .ok (.putfield idx, 3)) (hf : FL own idx ci k) (hi : isR ci k = false) (hfin : isF ci k = false) (hs : mS M a = some (ci, n)) (kk : J G base X cs sl (uI M a k v) (pc + 3) ls st) : J G base X cs sl M pc ls (.int v :: .ref a :: st) := by
  obtain ⟨p, l, e, R, s, m, args, below, meth, c, Q⟩ := X
  obtain ⟨hx, hb, hml, hown, hts, hamb, hlk, hst, hr, hR, hQ, hout⟩ := hX
  intro H locs lsA hM hS hl
  obtain ⟨C, T, N, ty, h1, h2, h3, h4, h5, h6, h7, hty, hnm, h8, h9, h10⟩ := hf.out
  have hap := va_apart (own := own) hts h5 ty hty hnm hamb.1 h1
  obtain ⟨r, g1, cell, q1, q2, q3, q4⟩ := hM.at hs (ent_obj h4) 0 _ rfl
  have hrr : r = (C, T, N) := Option.some.inj (g1.symm.trans h1)
  subst hrr
  obtain ⟨hS1, hfc, kC, hkC, hkind⟩ := hamb.1.1 ci _ h1
  obtain ⟨cf, kf, fi, f, hi9, hsl⟩ := hS1 k h2
  have hlay := hts _ (h5 _ (u_in_lay h2))
  unfold u_lay at hlay
  have hsame : s.fieldFound? C (T k).2.1 (T k).2.2.1 = some (cf, kf, fi, f) := by rw [← h7]; exact hi9
  have hst9 := (u_facts hfc hkC (u_lays hts h5 h2) hi9).1
  have hnf : narrow (ty k) (.int v) = .int v ∧ fits (ty k) (.int v) = true := by
    rw [h8 hi]; exact ⟨rfl, rfl⟩
  rw [if_neg (by rw [h10, hfin]; decide)] at hlay
  have h6s := u_store hfc hkC hkind hlay hi9 (hty k h2) hnf.1 hnf.2
  refine W.putK hx hb (f := f) ⟨hown, hts _ h6, ⟨_, _, _, hsame⟩, hst9⟩ (by rw [q2]; exact h6s) q1 q3 (by rw [hsl]; exact k2_hasslot (q4 k h2)) rfl rfl hd fun H' e1 e2 e3 => ?_
  rw [hsl] at e1 ⊢
  have hat : va_at G.1 vwCl (a, .inr (ci, (flds ci (mR M a) (mI M a)).set k (.int v))) H' := ⟨_, h1, t_OB.to (V := updV (vp_V (flds ci (mR M a) (mI M a))) k (.int v)) ⟨_, e1, q2, q3, t_set q4 hap h2 _⟩ (fun j _ => vp_updV_set (by rw [flds_len]; omega) _ j)⟩
  refine kk H' _ _ (hM.upd (M' := uI M a k v) hs (fun _ => rfl) rfl (fun b hb9 => ?_) ((ent_obj h4).trans (congrArg _ (congrArg _ (flds_set (by omega) ?_ fun j hj => ?_)))) hat e2 e3) (hS.put e2 e3 (hM.1 a _ hs).1) hl
  · refine ⟨?_, ?_, ?_⟩ <;> funext j <;> simp [mI_uI, mR_uI, mL_uI, hb9]
  · simp [fld, hi, mI_uI, mR_uI]
  · simp [fld, hj, mI_uI, mR_uI]
theorem r_putr (hX : okX G base X cc own nL ret d mc ms post) {idx ci k a n : Nat} {v : Nat} (hd : decode cc pc = .ok (.putfield idx, 3)) (hf : FL own idx ci k) (hi : isR ci k = true) (hfin : isF ci k = false) (hs : mS M a = some (ci, n)) (kk : J G base X cs sl (uR M a k (some v)) (pc + 3) ls st) : J G base X cs sl M pc ls (.ref v :: .ref a :: st) := by
  obtain ⟨p, l, e, R, s, m, args, below, meth, c, Q⟩ := X
  obtain ⟨hx, hb, hml, hown, hts, hamb, hlk, hst, hr, hR, hQ, hout⟩ := hX
  intro H locs lsA hM hS hl
  obtain ⟨C, T, N, ty, h1, h2, h3, h4, h5, h6, h7, hty, hnm, h8, h9, h10⟩ := hf.out
  have hap := va_apart (own := own) hts h5 ty hty hnm hamb.1 h1
  obtain ⟨r, g1, cell, q1, q2, q3, q4⟩ := hM.at hs (ent_obj h4) 0 _ rfl
  have hrr : r = (C, T, N) := Option.some.inj (g1.symm.trans h1)
  subst hrr
  obtain ⟨hS1, hfc, kC, hkC, hkind⟩ := hamb.1.1 ci _ h1
  obtain ⟨cf, kf, fi, f, hi9, hsl⟩ := hS1 k h2
  have hlay := hts _ (h5 _ (u_in_lay h2))
  unfold u_lay at hlay
  have hsame : s.fieldFound? C (T k).2.1 (T k).2.2.1 = some (cf, kf, fi, f) := by rw [← h7]; exact hi9
  have hst9 := (u_facts hfc hkC (u_lays hts h5 h2) hi9).1
  have hnf : narrow (ty k) (.ref v) = .ref v ∧ fits (ty k) (.ref v) = true := by
    rcases h9 hi with ⟨c9, e9⟩ | ⟨c9, e9⟩ <;> rw [e9] <;> exact ⟨rfl, rfl⟩
  rw [if_neg (by rw [h10, hfin]; decide)] at hlay
  have h6s := u_store hfc hkC hkind hlay hi9 (hty k h2) hnf.1 hnf.2
  refine W.putK hx hb (f := f) ⟨hown, hts _ h6, ⟨_, _, _, hsame⟩, hst9⟩ (by rw [q2]; exact h6s) q1 q3 (by rw [hsl]; exact k2_hasslot (q4 k h2)) rfl rfl hd fun H' e1 e2 e3 => ?_
  rw [hsl] at e1 ⊢
  have hat : va_at G.1 vwCl (a, .inr (ci, (flds ci (mR M a) (mI M a)).set k (.ref v))) H' := ⟨_, h1, t_OB.to (V := updV (vp_V (flds ci (mR M a) (mI M a))) k (.ref v)) ⟨_, e1, q2, q3, t_set q4 hap h2 _⟩ (fun j _ => vp_updV_set (by rw [flds_len]; omega) _ j)⟩
  refine kk H' _ _ (hM.upd (M' := uR M a k (some v)) hs (fun _ => rfl) rfl (fun b hb9 => ?_) ((ent_obj h4).trans (congrArg _ (congrArg _ (flds_set (by omega) ?_ fun j hj => ?_)))) hat e2 e3) (hS.put e2 e3 (hM.1 a _ hs).1) hl
  · refine ⟨?_, ?_, ?_⟩ <;> funext j <;> simp [mI_uR, mR_uR, mL_uR, hb9]
  · simp [fld, hi, mI_uR, mR_uR, va_rf]
  · simp [fld, hj, mI_uR, mR_uR]
theorem r_putF (hX : okX G base X cc own nL ret d mc ms post) {idx ci k a n : Nat} {v : Nat} (hd : decode cc pc = .ok (.putfield idx, 3)) (hf : FL own idx ci k) (hi : isR ci k = true) (hfin : isF ci k = true) (hini : okN X "<init>") (hdecl : ∀ C T N, vwCl[ci]? = some (C, T, N) → own = C) (hs : mS M a = some (ci, n)) (kk : J G base X cs sl (uR M a k (some v)) (pc + 3) ls st) : J G base X cs sl M pc ls (.ref v :: .ref a :: st) := by
  obtain ⟨p, l, e, R, s, m, args, below, meth, c, Q⟩ := X
  obtain ⟨hx, hb, hml, hown, hts, hamb, hlk, hst, hr, hR, hQ, hout⟩ := hX
  intro H locs lsA hM hS hl
  obtain ⟨C, T, N, ty, h1, h2, h3, h4, h5, h6, h7, hty, hnm, h8, h9, h10⟩ := hf.out
  have hap := va_apart (own := own) hts h5 ty hty hnm hamb.1 h1
  obtain ⟨r, g1, cell, q1, q2, q3, q4⟩ := hM.at hs (ent_obj h4) 0 _ rfl
  have hrr : r = (C, T, N) := Option.some.inj (g1.symm.trans h1)
  subst hrr
  obtain ⟨hS1, hfc, kC, hkC, hkind⟩ := hamb.1.1 ci _ h1
  obtain ⟨cf, kf, fi, f, hi9, hsl⟩ := hS1 k h2
  have hlay := hts _ (h5 _ (u_in_lay h2))
  unfold u_lay at hlay
  have hsame : s.fieldFound? C (T k).2.1 (T k).2.2.1 = some (cf, kf, fi, f) := by rw [← h7]; exact hi9
  have hst9 := (u_facts hfc hkC (u_lays hts h5 h2) hi9).1
  have hnf : narrow (ty k) (.ref v) = .ref v ∧ fits (ty k) (.ref v) = true := by
    rcases h9 hi with ⟨c9, e9⟩ | ⟨c9, e9⟩ <;> rw [e9] <;> exact ⟨rfl, rfl⟩
  rw [if_pos (by rw [h10, hfin])] at hlay
  have hcf : m.cls = cf := by
    obtain ⟨_, _, c', _, _, _, -, -, hf', -, -, -, hown2, -⟩ := Cond.laysFinal_spec hlay
    have e1 : c' = cf := by have := hi9.symm.trans hf'; simp at this; exact this.1.symm
    rw [h7, ← hdecl C T N h1] at hown2
    rw [← e1]; exact Option.some.inj (hown.symm.trans hown2)
  have h6s := u_fits hfc hkC hkind (Or.inr hlay) hi9 (hty k h2) hnf.1 hnf.2
  refine W.putFinK hx hb hown (hts _ h6) hsame hst9 hcf hini (by rw [q2]; exact h6s) q1 q3 (by rw [hsl]; exact k2_hasslot (q4 k h2)) rfl rfl hd fun H' e1 e2 e3 => ?_
  rw [hsl] at e1 ⊢
  have hat : va_at G.1 vwCl (a, .inr (ci, (flds ci (mR M a) (mI M a)).set k (.ref v))) H' := ⟨_, h1, t_OB.to (V := updV (vp_V (flds ci (mR M a) (mI M a))) k (.ref v)) ⟨_, e1, q2, q3, t_set q4 hap h2 _⟩ (fun j _ => vp_updV_set (by rw [flds_len]; omega) _ j)⟩
  refine kk H' _ _ (hM.upd (M' := uR M a k (some v)) hs (fun _ => rfl) rfl (fun b hb9 => ?_) ((ent_obj h4).trans (congrArg _ (congrArg _ (flds_set (by omega) ?_ fun j hj => ?_)))) hat e2 e3) (hS.put e2 e3 (hM.1 a _ hs).1) hl
  · refine ⟨?_, ?_, ?_⟩ <;> funext j <;> simp [mI_uR, mR_uR, mL_uR, hb9]
  · simp [fld, hi, mI_uR, mR_uR, va_rf]
  · simp [fld, hj, mI_uR, mR_uR]
theorem r_iald (hX : okX G base X cc own nL ret d mc ms post) {a n : Nat} {i : Int32} (hd : decode cc pc = .ok (.iaload, 1)) (hs : mS M a = some (12, n)) (hin : vp_in i n) (kk : J G base X cs sl M (pc + 1) ls (.int (mI M a i.toNatClampNeg) :: st)) : J G base X cs sl M pc ls (.int i :: .ref a :: st) := by
  obtain ⟨p, l, e, R, s, m, args, below, meth, c, Q⟩ := X
  obtain ⟨hx, hb, hml, hown, hts, hamb, hlk, hst, hr, hR, hQ, hout⟩ := hX
  intro H locs lsA hM hS hl
  exact va_iald hx hb hamb.1 (hM.at hs ent_i) 0 0 rfl rfl hin hd (kk H locs lsA hM hS hl)
theorem r_bald (hX : okX G base X cc own nL ret d mc ms post) {a n : Nat} {i : Int32} (hd : decode cc pc = .ok (.baload, 1)) (hs : mS M a = some (13, n)) (hin : vp_in i n) (kk : J G base X cs sl M (pc + 1) ls (.int (mI M a i.toNatClampNeg) :: st)) : J G base X cs sl M pc ls (.int i :: .ref a :: st) := by
  obtain ⟨p, l, e, R, s, m, args, below, meth, c, Q⟩ := X
  obtain ⟨hx, hb, hml, hown, hts, hamb, hlk, hst, hr, hR, hQ, hout⟩ := hX
  intro H locs lsA hM hS hl
  exact va_bald hx hb hamb.1 (hM.at hs ent_b) 0 1 rfl rfl hin hd (kk H locs lsA hM hS hl)
theorem r_lald (hX : okX G base X cc own nL ret d mc ms post) {a n : Nat} {i : Int32} (hd : decode cc pc = .ok (.laload, 1)) (hs : mS M a = some (14, n)) (hin : vp_in i n) (kk : J G base X cs sl M (pc + 1) ls (.long (mL M a i.toNatClampNeg) :: st)) : J G base X cs sl M pc ls (.int i :: .ref a :: st) := by
  obtain ⟨p, l, e, R, s, m, args, below, meth, c, Q⟩ := X
  obtain ⟨hx, hb, hml, hown, hts, hamb, hlk, hst, hr, hR, hQ, hout⟩ := hX
  intro H locs lsA hM hS hl
  exact va_lald hx hb hamb.1 (hM.at hs ent_l) 0 2 rfl rfl hin hd (kk H locs lsA hM hS hl)
theorem r_aald (hX : okX G base X cc own nL ret d mc ms post) {a n b : Nat} {i : Int32} (hd : decode cc pc = .ok (.aaload, 1)) (hs : mS M a = some (15, n)) (hin : vp_in i n) (hr9 : mR M a i.toNatClampNeg = some b) (kk : J G base X cs sl M (pc + 1) ls (.ref b :: st)) : J G base X cs sl M pc ls (.int i :: .ref a :: st) := by
  obtain ⟨p, l, e, R, s, m, args, below, meth, c, Q⟩ := X
  obtain ⟨hx, hb, hml, hown, hts, hamb, hlk, hst, hr, hR, hQ, hout⟩ := hX
  intro H locs lsA hM hS hl
  refine va_aldq hx hb hamb.1 (hM.at hs ent_q) 0 3 rfl rfl hin hd ?_
  rw [hr9]
  exact kk H locs lsA hM hS hl
theorem r_alen (hX : okX G base X cc own nL ret d mc ms post) {a n : Nat} (hd : decode cc pc = .ok (.arraylength, 1)) (hs : mS M a = some (12, n)) (kk : J G base X cs sl M (pc + 1) ls (.int (Int32.ofNat n) :: st)) : J G base X cs sl M pc ls (.ref a :: st) := by
  obtain ⟨p, l, e, R, s, m, args, below, meth, c, Q⟩ := X
  obtain ⟨hx, hb, hml, hown, hts, hamb, hlk, hst, hr, hR, hQ, hout⟩ := hX
  intro H locs lsA hM hS hl
  exact va_alen hx hb hamb.1 (hM.at hs ent_i) 0 0 rfl rfl rfl hd (kk H locs lsA hM hS hl)
theorem r_iast (hX : okX G base X cc own nL ret d mc ms post) {a n : Nat} {i : Int32} {x : Int32} (hd : decode cc pc = .ok (.iastore, 1)) (hs : mS M a = some (12, n)) (hin : vp_in i n) (kk : J G base X cs sl (uI M a i.toNatClampNeg (x)) (pc + 1) ls st) : J G base X cs sl M pc ls (.int x :: .int i :: .ref a :: st) := by
  obtain ⟨p, l, e, R, s, m, args, below, meth, c, Q⟩ := X
  obtain ⟨hx, hb, hml, hown, hts, hamb, hlk, hst, hr, hR, hQ, hout⟩ := hX
  intro H locs lsA hM hS hl
  have hP := hM.at hs ent_i 0 _ rfl
  refine W.iast hx hb hP ((hamb.1.2 0 _ rfl).1 n (fun j => .int (mI M a j))) (fun q => by cases q) (by show ¬ (i < 0 ∨ (arrV _ _ _).slots.size ≤ _); rw [arrV_size]; exact hin) rfl rfl hd fun H1 e z oq => ?_
  refine kk H1 _ _ (hM.upd (M' := uI M a i.toNatClampNeg (x)) hs (fun _ => rfl) rfl (fun b hb9 => ?_) rfl ?_ z oq) (hS.put z oq (hM.1 a _ hs).1) hl
  · refine ⟨?_, ?_, ?_⟩ <;> funext j <;> simp [mI_uI, mR_uI, mL_uI, hb9]
  · show H1[a]? = some (vp_cell _ _)
    rw [e]
    rw [vp_cell_i, vp_cell_i, arrV_store]
    congr 2
    funext q
    by_cases hq : q = i.toNatClampNeg
    · subst hq
      simp [updV, mI_uI, mL_uL, vp_nar]
      try rfl
    · simp [updV, mI_uI, mL_uL, hq]
theorem r_bast (hX : okX G base X cc own nL ret d mc ms post) {a n : Nat} {i : Int32} {x : Int32} (hd : decode cc pc = .ok (.bastore, 1)) (hs : mS M a = some (13, n)) (hin : vp_in i n) (kk : J G base X cs sl (uI M a i.toNatClampNeg (vp_nar .byte x)) (pc + 1) ls st) : J G base X cs sl M pc ls (.int x :: .int i :: .ref a :: st) := by
  obtain ⟨p, l, e, R, s, m, args, below, meth, c, Q⟩ := X
  obtain ⟨hx, hb, hml, hown, hts, hamb, hlk, hst, hr, hR, hQ, hout⟩ := hX
  intro H locs lsA hM hS hl
  have hP := hM.at hs ent_b 0 _ rfl
  refine W.bast hx hb hP ((hamb.1.2 1 _ rfl).1 n (fun j => .int (mI M a j))) (fun q => by cases q) (by show ¬ (i < 0 ∨ (arrV _ _ _).slots.size ≤ _); rw [arrV_size]; exact hin) rfl rfl hd fun H1 e z oq => ?_
  refine kk H1 _ _ (hM.upd (M' := uI M a i.toNatClampNeg (vp_nar .byte x)) hs (fun _ => rfl) rfl (fun b hb9 => ?_) rfl ?_ z oq) (hS.put z oq (hM.1 a _ hs).1) hl
  · refine ⟨?_, ?_, ?_⟩ <;> funext j <;> simp [mI_uI, mR_uI, mL_uI, hb9]
  · show H1[a]? = some (vp_cell _ _)
    rw [e]
    rw [vp_cell_i, vp_cell_i, arrV_store]
    congr 2
    funext q
    by_cases hq : q = i.toNatClampNeg
    · subst hq
      simp [updV, mI_uI, mL_uL, vp_nar]
      try rfl
    · simp [updV, mI_uI, mL_uL, hq]
theorem r_last (hX : okX G base X cc own nL ret d mc ms post) {a n : Nat} {i : Int32} {x : Int64} (hd : decode cc pc = .ok (.lastore, 1)) (hs : mS M a = some (14, n)) (hin : vp_in i n) (kk : J G base X cs sl (uL M a i.toNatClampNeg (x)) (pc + 1) ls st) : J G base X cs sl M pc ls (.long x :: .int i :: .ref a :: st) := by
  obtain ⟨p, l, e, R, s, m, args, below, meth, c, Q⟩ := X
  obtain ⟨hx, hb, hml, hown, hts, hamb, hlk, hst, hr, hR, hQ, hout⟩ := hX
  intro H locs lsA hM hS hl
  have hP := hM.at hs ent_l 0 _ rfl
  refine W.last hx hb hP ((hamb.1.2 2 _ rfl).1 n (fun j => .long (mL M a j))) (fun q => by cases q) (by show ¬ (i < 0 ∨ (arrV _ _ _).slots.size ≤ _); rw [arrV_size]; exact hin) rfl rfl hd fun H1 e z oq => ?_
  refine kk H1 _ _ (hM.upd (M' := uL M a i.toNatClampNeg (x)) hs (fun _ => rfl) rfl (fun b hb9 => ?_) rfl ?_ z oq) (hS.put z oq (hM.1 a _ hs).1) hl
  · refine ⟨?_, ?_, ?_⟩ <;> funext j <;> simp [mI_uL, mR_uL, mL_uL, hb9]
  · show H1[a]? = some (vp_cell _ _)
    rw [e]
    rw [vp_cell_l, vp_cell_l, arrV_store]
    congr 2
    funext q
    by_cases hq : q = i.toNatClampNeg
    · subst hq
      simp [updV, mI_uI, mL_uL, vp_nar]
      try rfl
    · simp [updV, mI_uI, mL_uL, hq]
end HR
