variable {G : GG} {base : Nat}
/-! ===== THE LAW: rows for its helpers (methods with an exception table), the script, longs, doubles ===== -/
/-- .. the script: L ints at b, below the system's cells -/
def scX (X : Cx) (base b L : Nat) (xs : Nat → Int32) : Prop := match X with | (_, _, _, _, s, _, _, _, _, _, _) => va_X b L xs s s.heap ∧ b < s.heap.size ∧ b < base
/-- pairs of exceptions of which the first isn't the second -/
def ncM : List (String × String) := [("java/util/NoSuchElementException", "java/lang/IndexOutOfBoundsException"), ("java/lang/IllegalStateException", "java/lang/IllegalArgumentException"), ("java/lang/IllegalArgumentException", "java/lang/IndexOutOfBoundsException"), ("java/lang/IllegalStateException", "java/lang/IndexOutOfBoundsException")]
def ncS (s : State) : Prop := ∀ q ∈ ncM, va_Nc q.1 q.2 s
theorem ncS.moved {s U : State} (hv : s.vm.Alike U.vm) (h : ncS s) : ncS U := fun q hq => va_Nc.moved hv (h q hq)
def ncX (X : Cx) : Prop := match X with | (_, _, _, _, s, _, _, _, _, _, _) => ncS s
/-- as okX, for a method with the table hh -/
def okH (G : GG) (base : Nat) (X : Cx) (cc : ByteArray) (own : String) (nL : Nat) (ret : Option FieldType) (d mc ms : Nat) (hh : List (Nat × Nat × Nat × Nat)) (post : Ot → Mm → Prop) : Prop :=
  match X with
  | (p, l, _, R, s, m, args, below, meth, c, Q) => p.tables.exec = Jvm.exec ∧ c.code = cc ∧ c.maxLocals = nL ∧ s.vm.findClass own = some m.cls ∧ (∀ w ∈ WT, w.before args s = true) ∧ Amb G base s s.heap ∧ meth.locks = false ∧ l.stackTraces = false ∧ meth.sig.returnType = ret ∧
    R = rmD d mc ms ∧ Q = vx_MQ below (qR G base post) (qX G base post) args s mc ms (up base) ∧ c.exceptionTable.toList = tableOf hh
section HR
variable {X : Cx} {cc : ByteArray} {own : String} {nL : Nat} {ret : Option FieldType} {d mc ms : Nat} {hh : List (Nat × Nat × Nat × Nat)} {post : Ot → Mm → Prop} {cs sl : Nat} {M : Mm} {pc : Nat} {ls : List (Option Value)} {st : List Value}
theorem h_iconst (hX : okH G base X cc own nL ret d mc ms hh post) {n : Int} {v : Int32} (hd : decode cc pc = .ok (.iconst n, 1)) (hv : Int32.ofInt n = v := by rfl) (k : J G base X cs sl M (pc + 1) ls (.int v :: st)) : J G base X cs sl M pc ls (st) := by
  obtain ⟨p, l, e, R, s, m, args, below, meth, c, Q⟩ := X
  obtain ⟨hx, hb, hml, hown, hts, hamb, hlk, hst, hr, hR, hQ, hout⟩ := hX
  intro H locs lsA hM hS hl
  exact lv_iconst hx hb hd hv (k H locs lsA hM hS hl)
theorem h_iload_n (hX : okH G base X cc own nL ret d mc ms hh post) {k : Fin 4} {x : Int32} (hd : decode cc pc = .ok (.iload_n k, 1)) (h : ls[(k : Nat)]? = some (some (.int x)) := by rfl) (k : J G base X cs sl M (pc + 1) ls (.int x :: st)) : J G base X cs sl M pc ls (st) := by
  obtain ⟨p, l, e, R, s, m, args, below, meth, c, Q⟩ := X
  obtain ⟨hx, hb, hml, hown, hts, hamb, hlk, hst, hr, hR, hQ, hout⟩ := hX
  intro H locs lsA hM hS hl
  exact lv_iload_n hx hb hd rfl (hl.2.2 _ _ h) (k H locs lsA hM hS hl)
theorem h_iload (hX : okH G base X cc own nL ret d mc ms hh post) {i : Nat} {x : Int32} (hd : decode cc pc = .ok (.iload i, 2)) (h : ls[i]? = some (some (.int x)) := by rfl) (k : J G base X cs sl M (pc + 2) ls (.int x :: st)) : J G base X cs sl M pc ls (st) := by
  obtain ⟨p, l, e, R, s, m, args, below, meth, c, Q⟩ := X
  obtain ⟨hx, hb, hml, hown, hts, hamb, hlk, hst, hr, hR, hQ, hout⟩ := hX
  intro H locs lsA hM hS hl
  exact lv_iload hx hb hd (hl.2.2 _ _ h) (k H locs lsA hM hS hl)
theorem h_aload_n (hX : okH G base X cc own nL ret d mc ms hh post) {k : Fin 4} {x : Nat} (hd : decode cc pc = .ok (.aload_n k, 1)) (h : ls[(k : Nat)]? = some (some (.ref x)) := by rfl) (k : J G base X cs sl M (pc + 1) ls (.ref x :: st)) : J G base X cs sl M pc ls (st) := by
  obtain ⟨p, l, e, R, s, m, args, below, meth, c, Q⟩ := X
  obtain ⟨hx, hb, hml, hown, hts, hamb, hlk, hst, hr, hR, hQ, hout⟩ := hX
  intro H locs lsA hM hS hl
  exact lv_aload_n hx hb hd rfl (hl.2.2 _ _ h) (k H locs lsA hM hS hl)
theorem h_aload (hX : okH G base X cc own nL ret d mc ms hh post) {i : Nat} {x : Nat} (hd : decode cc pc = .ok (.aload i, 2)) (h : ls[i]? = some (some (.ref x)) := by rfl) (k : J G base X cs sl M (pc + 2) ls (.ref x :: st)) : J G base X cs sl M pc ls (st) := by
  obtain ⟨p, l, e, R, s, m, args, below, meth, c, Q⟩ := X
  obtain ⟨hx, hb, hml, hown, hts, hamb, hlk, hst, hr, hR, hQ, hout⟩ := hX
  intro H locs lsA hM hS hl
  exact lv_aload hx hb hd (hl.2.2 _ _ h) (k H locs lsA hM hS hl)
theorem h_i2l (hX : okH G base X cc own nL ret d mc ms hh post) {x : Int32} (hd : decode cc pc = .ok (.i2l, 1)) (k : J G base X cs sl M (pc + 1) ls (.long x.toInt64 :: st)) : J G base X cs sl M pc ls (.int x :: st) := by
  obtain ⟨p, l, e, R, s, m, args, below, meth, c, Q⟩ := X
  obtain ⟨hx, hb, hml, hown, hts, hamb, hlk, hst, hr, hR, hQ, hout⟩ := hX
  intro H locs lsA hM hS hl
  exact lv_i2l hx hb hd rfl (k H locs lsA hM hS hl)
theorem h_goto (hX : okH G base X cc own nL ret d mc ms hh post) {off : Int} {tgt : Nat} (hd : decode cc pc = .ok (.goto off, 3)) (ht : (pc : Int) + off = (tgt : Int)) (k : J G base X cs sl M tgt ls st) : J G base X cs sl M pc ls st := by
  obtain ⟨p, l, e, R, s, m, args, below, meth, c, Q⟩ := X
  obtain ⟨hx, hb, hml, hown, hts, hamb, hlk, hst, hr, hR, hQ, hout⟩ := hX
  intro H locs lsA hM hS hl
  exact lv_goto hx hb hd ht (k H locs lsA hM hS hl)
theorem h_if_eq (hX : okH G base X cc own nL ret d mc ms hh post) {x : Int32} {off : Int} {tgt : Nat} (hd : decode cc pc = .ok (.ifCond .eq off, 3)) (ht : (pc : Int) + off = (tgt : Int)) (kt : (x = 0) → J G base X cs sl M tgt ls st) (kf : ¬ (x = 0) → J G base X cs sl M (pc + 3) ls st) : J G base X cs sl M pc ls (.int x :: st) := by
  obtain ⟨p, l, e, R, s, m, args, below, meth, c, Q⟩ := X
  obtain ⟨hx, hb, hml, hown, hts, hamb, hlk, hst, hr, hR, hQ, hout⟩ := hX
  intro H locs lsA hM hS hl
  exact lv_if_eq hx hb hd ht (fun q => kt q H locs lsA hM hS hl) (fun q => kf q H locs lsA hM hS hl)
theorem h_last (hX : okH G base X cc own nL ret d mc ms hh post) {a n : Nat} {i : Int32} {x : Int64} (hd : decode cc pc = .ok (.lastore, 1)) (hs : mS M a = some (14, n)) (hin : vp_in i n) (kk : J G base X cs sl (uL M a i.toNatClampNeg (x)) (pc + 1) ls st) : J G base X cs sl M pc ls (.long x :: .int i :: .ref a :: st) := by
  obtain ⟨p, l, e, R, s, m, args, below, meth, c, Q⟩ := X
  obtain ⟨hx, hb, hml, hown, hts, hamb, hlk, hst, hr, hR, hQ, hout⟩ := hX
  intro H locs lsA hM hS hl
  have hP := hM.at hs ent_l 0 _ rfl
  refine W.last hx hb hP ((hamb.1.2 2 _ rfl).1 n (fun j => .long (mL M a j))) (fun q => by cases q) (by show ¬ (i < 0 ∨ (arrV _ _ _).slots.size ≤ _); rw [arrV_size]; exact hin) rfl rfl hd fun H1 e z oq => ?_
  refine kk H1 _ _ (hM.upd (M' := uL M a i.toNatClampNeg (x)) hs (fun _ => rfl) rfl (fun b hb9 => ?_) rfl ?_ z oq) (hS.put z oq (hM.1 a _ hs).1) hl
  · refine ⟨?_, ?_, ?_⟩ <;> funext j <;> simp [mI_uL, mR_uL, mL_uL, hb9]
  · show H1[a]? = some (vp_cell _ _)
    rw [e]
    rw [vp_cell_l, vp_cell_l, arrV_store]
    congr 2
    funext q
    by_cases hq : q = i.toNatClampNeg
    · subst hq
      simp [updV, mI_uI, mL_uL, vp_nar]
      try rfl
    · simp [updV, mI_uI, mL_uL, hq]
theorem h_astN (hX : okH G base X cc own nL ret d mc ms hh post) {i : Fin 4} {x : Nat} (hd : decode cc pc = .ok (.astore_n i, 1)) (hi : (i : Nat) < ls.length) (h1 : lc1 ls = true) (k : J G base X cs sl M (pc + 1) (ls.set i (some (.ref x))) st) : J G base X cs sl M pc ls (.ref x :: st) := by
  obtain ⟨p, l, e, R, s, m, args, below, meth, c, Q⟩ := X
  obtain ⟨hx, hb, hml, hown, hts, hamb, hlk, hst, hr, hR, hQ, hout⟩ := hX
  intro H locs lsA hM hS hl
  exact lv_astore_n hx hb hd rfl (lcl_has hl) hi rfl (fun ls' h' => k H locs ls' hM hS (lcl_put hl hi h1 rfl h'))
theorem h_ast (hX : okH G base X cc own nL ret d mc ms hh post) {i : Nat} {x : Nat} (hd : decode cc pc = .ok (.astore i, 2)) (hi : i < ls.length) (h1 : lc1 ls = true) (k : J G base X cs sl M (pc + 2) (ls.set i (some (.ref x))) st) : J G base X cs sl M pc ls (.ref x :: st) := by
  obtain ⟨p, l, e, R, s, m, args, below, meth, c, Q⟩ := X
  obtain ⟨hx, hb, hml, hown, hts, hamb, hlk, hst, hr, hR, hQ, hout⟩ := hX
  intro H locs lsA hM hS hl
  exact lv_astore hx hb hd (lcl_has hl) hi rfl (fun ls' h' => k H locs ls' hM hS (lcl_put hl hi h1 rfl h'))
theorem h_astore2 (hX : okH G base X cc own nL ret d mc ms hh post) {o0 o1 o2 : Option Value} {t : List (Option Value)} {x : Nat} (hd : decode cc pc = .ok (.astore_n 2, 1)) (h1 : lc1 (o0 :: o1 :: o2 :: t) = true) (k : J G base X cs sl M (pc + 1) (o0 :: o1 :: some (.ref x) :: t) st) : J G base X cs sl M pc (o0 :: o1 :: o2 :: t) (.ref x :: st) := h_astN (ls := o0 :: o1 :: o2 :: t) hX hd (by show 2 < _; simp; try omega) h1 k
theorem h_astore3 (hX : okH G base X cc own nL ret d mc ms hh post) {o0 o1 o2 o3 : Option Value} {t : List (Option Value)} {x : Nat} (hd : decode cc pc = .ok (.astore_n 3, 1)) (h1 : lc1 (o0 :: o1 :: o2 :: o3 :: t) = true) (k : J G base X cs sl M (pc + 1) (o0 :: o1 :: o2 :: some (.ref x) :: t) st) : J G base X cs sl M pc (o0 :: o1 :: o2 :: o3 :: t) (.ref x :: st) := h_astN (ls := o0 :: o1 :: o2 :: o3 :: t) hX hd (by show 3 < _; simp; try omega) h1 k
theorem h_astore4 (hX : okH G base X cc own nL ret d mc ms hh post) {o0 o1 o2 o3 o4 : Option Value} {t : List (Option Value)} {x : Nat} (hd : decode cc pc = .ok (.astore 4, 2)) (h1 : lc1 (o0 :: o1 :: o2 :: o3 :: o4 :: t) = true) (k : J G base X cs sl M (pc + 2) (o0 :: o1 :: o2 :: o3 :: some (.ref x) :: t) st) : J G base X cs sl M pc (o0 :: o1 :: o2 :: o3 :: o4 :: t) (.ref x :: st) := h_ast (ls := o0 :: o1 :: o2 :: o3 :: o4 :: t) hX hd (by show 4 < _; simp; try omega) h1 k
theorem h_astore5 (hX : okH G base X cc own nL ret d mc ms hh post) {o0 o1 o2 o3 o4 o5 : Option Value} {t : List (Option Value)} {x : Nat} (hd : decode cc pc = .ok (.astore 5, 2)) (h1 : lc1 (o0 :: o1 :: o2 :: o3 :: o4 :: o5 :: t) = true) (k : J G base X cs sl M (pc + 2) (o0 :: o1 :: o2 :: o3 :: o4 :: some (.ref x) :: t) st) : J G base X cs sl M pc (o0 :: o1 :: o2 :: o3 :: o4 :: o5 :: t) (.ref x :: st) := h_ast (ls := o0 :: o1 :: o2 :: o3 :: o4 :: o5 :: t) hX hd (by show 5 < _; simp; try omega) h1 k
theorem h_ireturn (hX : okH G base X cc own nL ret d mc ms hh post) {x : Int32} {ty : FieldType} (hret : ret = some ty) (hn : narrow ty (.int x) = .int x) (hd : decode cc pc = .ok (.ireturn, 1)) (hc : cs ≤ mc := by decide) (hs9 : sl ≤ ms := by decide) (hp : post (.inl (some (.int x))) M) : J G base X cs sl M pc ls [.int x] := by
  obtain ⟨p, l, e, R, s, m, args, below, meth, c, Q⟩ := X
  obtain ⟨hx, hb, hml, hown, hts, hamb, hlk, hst, hr, hR, hQ, hout⟩ := hX
  subst hR
  subst hQ
  intro H locs lsA hM hS hl
  exact W.widen hc hs9 (vx_ret (W.zret hx hb (hr.trans hret) hn (fun t ht hW => ⟨_, M, rfl, hp, by rw [ht]; exact hM, hS.F ht⟩) hS.2.2 hd hlk))
theorem r_lconst (hX : okX G base X cc own nL ret d mc ms post) {n : Fin 2} (hd : decode cc pc = .ok (.lconst n, 1)) (k : J G base X cs sl M (pc + 1) ls (.long (Int64.ofNat (n : Nat)) :: st)) : J G base X cs sl M pc ls st := by
  obtain ⟨p, l, e, R, s, m, args, below, meth, c, Q⟩ := X
  obtain ⟨hx, hb, hml, hown, hts, hamb, hlk, hst, hr, hR, hQ, hout⟩ := hX
  intro H locs lsA hM hS hl
  exact lv_lconst hx hb hd rfl (k H locs lsA hM hS hl)
theorem h_lconst (hX : okH G base X cc own nL ret d mc ms hh post) {n : Fin 2} (hd : decode cc pc = .ok (.lconst n, 1)) (k : J G base X cs sl M (pc + 1) ls (.long (Int64.ofNat (n : Nat)) :: st)) : J G base X cs sl M pc ls st := by
  obtain ⟨p, l, e, R, s, m, args, below, meth, c, Q⟩ := X
  obtain ⟨hx, hb, hml, hown, hts, hamb, hlk, hst, hr, hR, hQ, hout⟩ := hX
  intro H locs lsA hM hS hl
  exact lv_lconst hx hb hd rfl (k H locs lsA hM hS hl)
theorem r_lcmp (hX : okX G base X cc own nL ret d mc ms post) {x y : Int64} (hd : decode cc pc = .ok (.lcmp, 1)) (k : J G base X cs sl M (pc + 1) ls (.int (lg_cmp x y) :: st)) : J G base X cs sl M pc ls (.long y :: .long x :: st) := by
  obtain ⟨p, l, e, R, s, m, args, below, meth, c, Q⟩ := X
  obtain ⟨hx, hb, hml, hown, hts, hamb, hlk, hst, hr, hR, hQ, hout⟩ := hX
  intro H locs lsA hM hS hl
  exact W.lcmp hx hb hd (k H locs lsA hM hS hl)
theorem r_sld (hX : okX G base X cc own nL ret d mc ms post) {b L : Nat} {xs : Nat → Int32} (hsc : scX X base b L xs) {j : Nat} (hd : decode cc pc = .ok (.iaload, 1)) (hj : j < L) (hL : L ≤ 3072) (kk : J G base X cs sl M (pc + 1) ls (.int (xs j) :: st)) : J G base X cs sl M pc ls (.int (nI j) :: .ref b :: st) := by
  obtain ⟨p, l, e, R, s, m, args, below, meth, c, Q⟩ := X
  obtain ⟨hx, hb, hml, hown, hts, hamb, hlk, hst, hr, hR, hQ, hout⟩ := hX
  obtain ⟨sX, sb, sB⟩ := hsc
  intro H locs lsA hM hS hl
  refine va_sld hx hb sX sb (Nat.not_le.mpr sB) hS (vp_in_nI hj (by omega)) hd ?_
  rw [nI_clamp (by omega)]
  exact kk H locs lsA hM hS hl
theorem r_slenA (hX : okX G base X cc own nL ret d mc ms post) {b L : Nat} {xs : Nat → Int32} (hsc : scX X base b L xs) (hd : decode cc pc = .ok (.arraylength, 1)) (kk : J G base X cs sl M (pc + 1) ls (.int (nI L) :: st)) : J G base X cs sl M pc ls (.ref b :: st) := by
  obtain ⟨p, l, e, R, s, m, args, below, meth, c, Q⟩ := X
  obtain ⟨hx, hb, hml, hown, hts, hamb, hlk, hst, hr, hR, hQ, hout⟩ := hX
  obtain ⟨sX, sb, sB⟩ := hsc
  intro H locs lsA hM hS hl
  exact va_slen hx hb sX sb (Nat.not_le.mpr sB) hS hd (kk H locs lsA hM hS hl)
theorem r_dload (hX : okX G base X cc own nL ret d mc ms post) {i : Nat} {x : UInt64} (hd : decode cc pc = .ok (.dload i, 2)) (hg : ls[i]? = some (some (.double x))) (k : J G base X cs sl M (pc + 2) ls (.double x :: st)) : J G base X cs sl M pc ls st := by
  obtain ⟨p, l, e, R, s, m, args, below, meth, c, Q⟩ := X
  obtain ⟨hx, hb, hml, hown, hts, hamb, hlk, hst, hr, hR, hQ, hout⟩ := hX
  intro H locs lsA hM hS hl
  exact lv_dload hx hb hd (hl.2.2 i _ hg) (k H locs lsA hM hS hl)
/-- a double is stored: where nothing of two slots is listed just ahead -/
theorem r_dstore (hX : okX G base X cc own nL ret d mc ms post) {i : Nat} {x : UInt64} (hd : decode cc pc = .ok (.dstore i, 2)) (hi : i + 1 < ls.length) (h0 : ∀ (j : Nat) (w : Value), ls[j]? = some (some w) → j ≠ i → j ≠ i + 1 → ¬ (j + 1 = i ∧ w.category = 2)) (k : J G base X cs sl M (pc + 2) ((ls.set i (some (.double x))).set (i + 1) none) st) : J G base X cs sl M pc ls (.double x :: st) := by
  obtain ⟨p, l, e, R, s, m, args, below, meth, c, Q⟩ := X
  obtain ⟨hx, hb, hml, hown, hts, hamb, hlk, hst, hr, hR, hQ, hout⟩ := hX
  intro H locs lsA hM hS hl
  refine lv_dstore hx hb hd (lcl_has hl) hi rfl (fun ls' h' => k H locs ls' hM hS ⟨by rw [h'.1]; simp, h'.2.1, fun j w hj => ?_⟩)
  by_cases e1 : j = i + 1
  · subst e1
    rw [List.getElem?_set_self (by simp; omega)] at hj
    cases hj
  · rw [List.getElem?_set_ne (Ne.symm e1)] at hj
    by_cases e2 : j = i
    · subst e2
      rw [List.getElem?_set_self (by omega)] at hj
      cases hj
      exact h'.2.2 (j, .double x) List.mem_cons_self
    · rw [List.getElem?_set_ne (Ne.symm e2)] at hj
      refine h'.2.2 (j, w) (List.mem_cons_of_mem _ (List.mem_filter.mpr ⟨(lpairs_mem ls 0 _).mpr ⟨j, by simp, hj⟩, ?_⟩))
      have := h0 j w hj e2 e1
      simp only [Bool.and_eq_true, Bool.not_eq_true', beq_eq_false_iff_ne, ne_eq, Bool.and_eq_false_iff, beq_eq_false_iff_ne]
      exact ⟨e2, e1, Classical.byContradiction fun z => this ⟨Classical.byContradiction fun y => z (Or.inl y), Classical.byContradiction fun y => z (Or.inr y)⟩⟩
/-- where the exception E goes, at pc: by the first row, or by the second where the first is another's -/
def hGo (hh : List (Nat × Nat × Nat × Nat)) (own : String) (pc : Nat) (E : String) (hp : Nat) : Prop :=
  (∃ f t ct r, hh = (f, t, hp, ct) :: r ∧ (decide (f ≤ pc) && decide (pc < t)) = true ∧ ct ≠ 0 ∧ Cond.classLink own ct E ∈ WT ∧ E ∈ castM) ∨
  ∃ f1 t1 h1 c1 f t ct r nm, hh = (f1, t1, h1, c1) :: (f, t, hp, ct) :: r ∧ c1 ≠ 0 ∧ Cond.classLink own c1 nm ∈ WT ∧ (E, nm) ∈ ncM ∧ (decide (f ≤ pc) && decide (pc < t)) = true ∧ ct ≠ 0 ∧ Cond.classLink own ct E ∈ WT ∧ E ∈ castM
/-- a call that may throw what is caught here -/
theorem h_callV (hX : okH G base X cc own nL ret d mc ms hh post) (hnc : ncX X) {Y : MD} {idx d2 mc2 ms2 : Nat} {rest : List Value} {post2 : Ot → Mm → Prop} {b ci n : Nat} {As : List Value} (hd : decode cc pc = .ok (.invokevirtual idx, 3)) (hI : MIv Y) (hl9 : Cond.methodLink own idx Y.1 ∈ WT) (hn9 : As.length = Y.2.2.2.2) (hs : mS M b = some (ci, n)) (hC : (vwCl[ci]?).map (fun q => q.1) = some Y.1.cls) (hct : Ct G base Y d2 mc2 ms2 (.ref b :: As) M post2) (hd2 : d2 < d) (hcs : cs + mc2 ≤ mc) (hsl : sl + ms2 ≤ ms) (hml2 : Y.2.2.1 ≤ 45) (hlen : ls.length = nL) (hW : (rest.map fun v => v.category).sum ≤ 8)
    (kr : ∀ (v : Option Value) (M' : Mm), post2 (.inl v) M' → J G base X (cs + mc2) (sl + ms2) M' (pc + 3) ls (v.toList ++ rest))
    (kx : ∀ (E : String) (M' : Mm), post2 (.inr E) M' → ∃ hp, hGo hh own pc E hp ∧ ∀ q, J G base X (cs + mc2) (sl + ms2) M' hp ls [.ref q]) : J G base X cs sl M pc ls (As.reverse ++ .ref b :: rest) := by
  obtain ⟨p, l, e, R, s, m, args, below, meth, c, Q⟩ := X
  obtain ⟨hx, hb, hml, hown, hts, hamb, hlk, hst, hr, hR, hQ, hout⟩ := hX
  subst hR
  subst hQ
  intro H locs lsA hM hS hl
  obtain ⟨⟨i1, i2, i3, i4, i5⟩, i6, i7⟩ := hI
  have hpre : ∀ U : State, U.heap = H → s.WarmedH U.vm → va_Pc (.ref b :: As) (fun U => fRep G base M U.heap ∧ Amb G base U U.heap) (Value.ref b :: As).toArray U := fun U hU hW => ⟨rfl, by rw [hU]; exact hM, by rw [hU]; exact hamb.warm hW hS⟩
  have hroom : (rmD d2 mc2 ms2).frames + 1 ≤ (rmD d mc ms).frames ∧ 8 + (Y.2.2.1 + 11) + (rmD d2 mc2 ms2).locals ≤ (rmD d mc ms).locals := ⟨hd2, by show 8 + (Y.2.2.1 + 11) + 64 * d2 ≤ 64 * d; omega⟩
  have hin : ∀ w ∈ wsV own idx Y.1.cls Y.1 (wsY Y), w ∈ WT := fun w hw => by
    simp only [wsV, List.mem_append, List.mem_cons, List.not_mem_nil, or_false] at hw
    rcases hw with (rfl | rfl | rfl | rfl) | hw
    · exact hl9
    · exact i6
    · exact i7
    · exact i5
    · exact wsY_in ⟨i1, i2, i3, i4, i5⟩ w (List.mem_cons.mpr hw)
  obtain ⟨q, hq1, hq2⟩ : ∃ q, vwCl[ci]? = some q ∧ q.1 = Y.1.cls := by
    cases hq : vwCl[ci]? with
    | none => rw [hq] at hC; cases hC
    | some q => rw [hq] at hC; exact ⟨q, rfl, Option.some.inj hC⟩
  have hrecv := va_recv hamb.1 (hM.at hs (ent_obj (vwCl_lt hq1))) hq1 (q0 := 0) rfl
  rw [hq2] at hrecv
  have run := vx_runV (e := e) (below := below) (meth := meth) (H := H) (locs := locs) (cells := cs) (slots := sl) (g := F0 m pc lsA (As.reverse ++ .ref b :: rest)) (As := As) (rest := rest) (C := Y.1.cls) (nL := nL) ⟨hx, hb, hml, hown, hts⟩ (hct l hst) (cwV Y.2.2.2.2 hts (WT_good hin) rfl rfl rfl ⟨rfl, i2.1, i2.2, i3⟩ hroom) ⟨Ct.blind, hrecv, hpre⟩ rfl hn9 (hl.1.trans hlen) rfl (lv_room hW) hd ⟨hcs, hsl⟩
  intro T hT X9
  rcases run T hT X9 with ⟨v, st₀, t, T', L, h0, X', hL, e1, e2, ⟨v', M', hv, hp, hM', hF⟩, st9⟩ | ⟨q, st₀, t, T', L, E, ce, h0, X', hL, e1, e2, ⟨M', hp, hM', hF⟩, hce, hcv, hcl, st9⟩
  · cases hv
    obtain ⟨k1, k2, k3⟩ := vx_keep h0 e1 hS (fun q _ h => h) (fun q h => h) hL hF
    obtain ⟨t2, a1, b1⟩ := kr v M' hp T'.heap (locs ++ L) lsA (by rw [e1]; exact hM') k3 hl T' rfl X'
    exact ⟨t2, st9 t2 a1, b1⟩
  · obtain ⟨k1, k2, k3⟩ := vx_keep h0 e1 hS (fun q _ h => h) (fun q h => h) hL hF
    obtain ⟨hp9, hgo, kk⟩ := kx E M' hp
    have kk2 := kk q T'.heap (locs ++ L) lsA (by rw [e1]; exact hM') k3 hl
    have hce2 : T'.heap[q]? = some ce := by rw [e1]; exact hce
    rcases hgo with ⟨f, t9, ct, r, hh9, hcv9, hct9, hlk9, hca⟩ | ⟨f1, t1, h1, c1, f, t9, ct, r, nm, hh9, hc1, hl1, hnm, hcv9, hct9, hlk9, hca⟩
    · have vw := vx_catch (pc := pc) (ls := lsA) (rest := rest) hown [] ⟨f, t9, hp9, ct⟩ (tableOf r) (by rw [hout, hh9]; rfl) (fun z hz => absurd hz List.not_mem_nil) hcv9 hct9 (hts _ hlk9) (va_tabs rfl rfl (hamb.2.2.2.2.2.2.2.2.2.2 E hca)) hce2 hcv hcl kk2
      obtain ⟨t2, a1, b1⟩ := vw T' rfl X'
      exact ⟨t2, st9.trans a1, b1⟩
    · have vw := vx_catch (pc := pc) (ls := lsA) (rest := rest) hown [⟨f1, t1, h1, c1⟩] ⟨f, t9, hp9, ct⟩ (tableOf r) (by rw [hout, hh9]; rfl) (fun z hz => by
        rcases List.mem_cons.mp hz with rfl | hz
        · exact Or.inr ⟨hc1, nm, hts _ hl1, hnc (E, nm) hnm⟩
        · exact absurd hz List.not_mem_nil) hcv9 hct9 (hts _ hlk9) (va_tabs rfl rfl (hamb.2.2.2.2.2.2.2.2.2.2 E hca)) hce2 hcv hcl kk2
      obtain ⟨t2, a1, b1⟩ := vw T' rfl X'
      exact ⟨t2, st9.trans a1, b1⟩
end HR
