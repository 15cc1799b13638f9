variable {G : GG} {base : Nat}
/-! ===== NEW OBJECTS ===== -/
theorem wtAI : Cond.arrayClass .int ∈ WT := wt 183 (by decide +kernel) (by decide +kernel)
theorem wtAB : Cond.arrayClass .byte ∈ WT := wt 831 (by decide +kernel) (by decide +kernel)
theorem wtAL : Cond.arrayClass .long ∈ WT := wt 1953 (by decide +kernel) (by decide +kernel)
theorem wtOi : Cond.instanceMethod Lib.objectInit ∈ WT := wt 138 (by decide +kernel) (by decide +kernel)
theorem wtOc : Cond.code Lib.objectInit ⟨#[0xb1]⟩ 1 none ∈ WT := wt 139 (by decide +kernel) (by decide +kernel)
section NRW
variable {G : GG} {base : Nat} {X : Cx} {cc : ByteArray} {own : String} {nL : Nat} {ret : Option FieldType} {d mc ms : Nat} {post : Ot → Mm → Prop} {cs sl : Nat} {M : Mm} {pc : Nat} {ls : List (Option Value)} {st : List Value}
theorem flds0 {ci N : Nat} {ty : Nat → FieldType} (hN : N = nF ci) (h1 : ∀ k, k < N → isR ci k = false → ty k = .int) (h2 : ∀ k, k < N → isR ci k = true → (∃ c, ty k = .object c) ∨ ∃ t, ty k = .array t) : ∀ j, j < N → defaultValue (ty j) = vp_V (flds ci (fun _ => none) (fun _ => 0)) j := fun j hj => by
  have e : vp_V (flds ci (fun _ => none) (fun _ => 0)) j = fld ci (fun _ => none) (fun _ => 0) j := by
    unfold vp_V
    rw [List.getD_eq_getElem?_getD, flds_at (by omega)]
    rfl
  rw [e]
  unfold fld
  cases hr : isR ci j with
  | false => rw [h1 j hj hr]; rfl
  | true =>
    rcases h2 j hj hr with ⟨c, z⟩ | ⟨t, z⟩ <;> rw [z] <;> rfl
theorem r_new (hX : okX G base X cc own nL ret d mc ms post) {idx ci q N : Nat} {C : String} {T : u_T} (hc : vwCl[ci]? = some (C, T, N)) (hd : decode cc pc = .ok (.new idx, 3)) (hcl : Cond.classLink own idx C ∈ WT) (hnw : Cond.instantiable C N ∈ WT ∧ Cond.initialized C ∈ WT) (ht : mT M = some q) (hb9 : base ≤ q) (hcs : cs + 1 ≤ mc) (hsl : sl + N ≤ ms) (kk : J G base X (cs + 1) (sl + N) (uN M q (ci, 0)) (pc + 3) ls (.ref q :: st)) : J G base X cs sl M pc ls st := by
  obtain ⟨p, l, e, R, s, m, args, below, meth, c, Q⟩ := X
  obtain ⟨hx, hb, hml, hown, hts, hamb, hlk, hst, hr, hR, hQ, hout⟩ := hX
  intro H locs lsA hM hS hl
  have hci := vwCl_lt hc
  obtain ⟨C', T', N', ty, g1, g2, g3, g4, g5, g6, g7, g8⟩ := cI_all ci hci
  cases hc.symm.trans g1
  have hKn := hamb.1.1 ci _ hc
  refine W.newcK hx hb hown (hts _ hcl) (hts _ hnw.1) (hts _ hnw.2) rfl hd (by rw [hR]; exact hcs) (by rw [hR]; exact hsl) hKn.2.1 (hM.2 q ht) fun H1 kC hkC e1 z1 o1 => ?_
  refine kk H1 locs lsA (hM.new ht hb9 (ent_obj hci) ?_ z1 (fun a ha => o1 a ha)) ⟨Nat.le_trans hS.1 (by have := hM.2 q ht; omega), fun x h1 h2 => (o1 x (Nat.lt_of_lt_of_le h1 (by have := hM.2 q ht; have := hS.1; omega))).trans (hS.2.1 x h1 h2), hS.2.2⟩ hl
  exact ⟨_, hc, (u_born ty hts g3 hKn hkC e1 g4).to (flds0 g2 g6 g7)⟩
/-- a new array of ints, bytes or longs, blank -/
theorem r_newa (hX : okX G base X cc own nL ret d mc ms post) {at_ : ArrayType} {kd q N : Nat} {n : Int32} {ty : FieldType} {v0 : Value} (hk : (kd = 12 ∧ ty = .int ∧ v0 = .int 0) ∨ (kd = 13 ∧ ty = .byte ∧ v0 = .int 0) ∨ (kd = 14 ∧ ty = .long ∧ v0 = .long 0)) (hty : newarray.typeOf at_ = ty) (hd : decode cc pc = .ok (.newarray at_, 2)) (ht : mT M = some q) (hb9 : base ≤ q) (hn : ¬ n < 0) (hN : n.toNatClampNeg = N) (hN9 : N ≤ 10000) (hcs : cs + 1 ≤ mc) (hsl : sl + N ≤ ms) (kk : J G base X (cs + 1) (sl + N) (uN M q (kd, N)) (pc + 2) ls (.ref q :: st)) : J G base X cs sl M pc ls (.int n :: st) := by
  obtain ⟨p, l, e, R, s, m, args, below, meth, c, Q⟩ := X
  obtain ⟨hx, hb, hml, hown, hts, hamb, hlk, hst, hr, hR, hQ, hout⟩ := hX
  intro H locs lsA hM hS hl
  have hw : Cond.arrayClass (newarray.typeOf at_) ∈ WT := by
    rw [hty]
    rcases hk with ⟨-, rfl, -⟩ | ⟨-, rfl, -⟩ | ⟨-, rfl, -⟩
    · exact wtAI
    · exact wtAB
    · exact wtAL
  have hbytes : N * componentBytes (newarray.typeOf at_) ≤ 536870912 := by
    rw [hty]
    rcases hk with ⟨-, rfl, -⟩ | ⟨-, rfl, -⟩ | ⟨-, rfl, -⟩ <;> simp only [componentBytes] <;> omega
  refine va_newaK hx hb (hts _ hw) rfl hd rfl hn hN hbytes (by rw [hR]; exact hcs) (by rw [hR]; exact hsl) (hM.2 q ht) fun H1 cA e1 z1 o1 hAr hNm => ?_
  have hcA : cA = G.2.1 kd ∧ ent G (kd, N) (fun _ => none) (fun _ => 0) (fun _ => 0) = ent G (kd, N) (fun _ => none) (fun _ => 0) (fun _ => 0) := by
    refine ⟨?_, rfl⟩
    rw [hty] at hNm
    rcases hk with ⟨rfl, rfl, -⟩ | ⟨rfl, rfl, -⟩ | ⟨rfl, rfl, -⟩
    · exact Option.some.inj (hNm.symm.trans (hamb.1.2 0 _ rfl).2)
    · exact Option.some.inj (hNm.symm.trans (hamb.1.2 1 _ rfl).2)
    · exact Option.some.inj (hNm.symm.trans (hamb.1.2 2 _ rfl).2)
  rw [hcA.1, hty] at e1
  refine kk H1 locs lsA (hM.new ht hb9 rfl ?_ z1 (fun a ha => o1 a ha)) ⟨Nat.le_trans hS.1 (by have := hM.2 q ht; omega), fun x h1 h2 => (o1 x (Nat.lt_of_lt_of_le h1 (by have := hM.2 q ht; have := hS.1; omega))).trans (hS.2.1 x h1 h2), hS.2.2⟩ hl
  rcases hk with ⟨rfl, rfl, -⟩ | ⟨rfl, rfl, -⟩ | ⟨rfl, rfl, -⟩
  · show H1[q]? = some (vp_cell _ _)
    rw [e1, vp_cell_i]
    rfl
  · show H1[q]? = some (vp_cell _ _)
    rw [e1, vp_cell_i]
    rfl
  · show H1[q]? = some (vp_cell _ _)
    rw [e1]
    rfl
theorem r_newI (hX : okX G base X cc own nL ret d mc ms post) {q N : Nat} (hd : decode cc pc = .ok (.newarray .int, 2)) (ht : mT M = some q) (hb9 : base ≤ q) (hN9 : N ≤ 10000) (hcs : cs + 1 ≤ mc) (hsl : sl + N ≤ ms) (kk : J G base X (cs + 1) (sl + N) (uN M q (12, N)) (pc + 2) ls (.ref q :: st)) : J G base X cs sl M pc ls (.int (nI N) :: st) :=
  r_newa hX (Or.inl ⟨rfl, rfl, rfl⟩) rfl hd ht hb9 (nI_pos (by omega)) (nI_clamp (by omega)) hN9 hcs hsl kk
theorem r_newB (hX : okX G base X cc own nL ret d mc ms post) {q N : Nat} (hd : decode cc pc = .ok (.newarray .byte, 2)) (ht : mT M = some q) (hb9 : base ≤ q) (hN9 : N ≤ 10000) (hcs : cs + 1 ≤ mc) (hsl : sl + N ≤ ms) (kk : J G base X (cs + 1) (sl + N) (uN M q (13, N)) (pc + 2) ls (.ref q :: st)) : J G base X cs sl M pc ls (.int (nI N) :: st) :=
  r_newa hX (Or.inr (Or.inl ⟨rfl, rfl, rfl⟩)) rfl hd ht hb9 (nI_pos (by omega)) (nI_clamp (by omega)) hN9 hcs hsl kk
theorem r_newL (hX : okX G base X cc own nL ret d mc ms post) {q N : Nat} (hd : decode cc pc = .ok (.newarray .long, 2)) (ht : mT M = some q) (hb9 : base ≤ q) (hN9 : N ≤ 10000) (hcs : cs + 1 ≤ mc) (hsl : sl + N ≤ ms) (kk : J G base X (cs + 1) (sl + N) (uN M q (14, N)) (pc + 2) ls (.ref q :: st)) : J G base X cs sl M pc ls (.int (nI N) :: st) :=
  r_newa hX (Or.inr (Or.inr ⟨rfl, rfl, rfl⟩)) rfl hd ht hb9 (nI_pos (by omega)) (nI_clamp (by omega)) hN9 hcs hsl kk
/-- Object.<init> -/
theorem r_oinit (hX : okX G base X cc own nL ret d mc ms post) {idx a : Nat} (hd : decode cc pc = .ok (.invokespecial idx, 3)) (hl9 : Cond.methodLink own idx Lib.objectInit ∈ WT) (hd1 : 1 ≤ d) (hlen : ls.length = nL) (hW : (st.map fun v => v.category).sum ≤ 8) (kk : J G base X cs sl M (pc + 3) ls st) : J G base X cs sl M pc ls (.ref a :: st) := by
  obtain ⟨p, l, e, R, s, m, args, below, meth, c, Q⟩ := X
  obtain ⟨hx, hb, hml, hown, hts, hamb, hlk, hst, hr, hR, hQ, hout⟩ := hX
  intro H locs lsA hM hS hl
  have hroom := lv_room (m := m) (pc := pc) (ls := lsA) (rest := Value.ref a :: st) hW
  exact W.objInit hx hb hown (hts _ hl9) (hts _ wtOi) (hts _ wtOc) rfl ((hl.1.trans hlen).trans hml.symm) rfl hd (by rw [hR]; exact hd1) (by rw [hR]; show _ ≤ 64 * d; have e0 : (F0 m pc lsA (Value.ref a :: st)).monitorRoom = 0 := rfl; omega) (kk H locs lsA hM hS hl)
/-- the State at v goes into the array at a -/
theorem r_aast (hX : okX G base X cc own nL ret d mc ms post) {a n v k : Nat} {i : Int32} (hd : decode cc pc = .ok (.aastore, 1)) (hs : mS M a = some (15, n)) (hv : mS M v = some (8, k)) (hin : vp_in i n) (kk : J G base X cs sl (uR M a i.toNatClampNeg (some v)) (pc + 1) ls st) : J G base X cs sl M pc ls (.ref v :: .int i :: .ref a :: st) := by
  obtain ⟨p, l, e, R, s, m, args, below, meth, c, Q⟩ := X
  obtain ⟨hx, hb, hml, hown, hts, hamb, hlk, hst, hr, hR, hQ, hout⟩ := hX
  intro H locs lsA hM hS hl
  have hlt : i.toNatClampNeg < n := Nat.not_le.mp fun q => hin (Or.inr q)
  have h0 : ¬ i < 0 := fun q => hin (Or.inl q)
  have hP := hM.at hs ent_q 0 _ rfl
  obtain ⟨r', hr', cellV, g1, g2, g3, -⟩ := hM.at hv (ent_obj (by omega : 8 < 12)) 0 _ rfl
  have hc8 : vwCl[8]? = some r' := hr'
  have hcls := (hamb.1.1 8 r' hc8).2
  have hr9 : r'.1 = "CrossingMail$State" := by cases hc8; rfl
  obtain ⟨kA, comp, k1, k2, k3, -⟩ := (hamb.1.2 3 _ rfl).2
  have hcomp : comp = G.1.1 8 := Option.some.inj (k3.symm.trans (by have z := hcls.1; rw [hr9] at z; exact z))
  subst hcomp
  obtain ⟨kC, hkC, -⟩ := hcls.2
  refine W.aast hx hb hP (fun q h => by cases h) (fun h => by cases h) k1 k2 rfl hkC ⟨h0, by show _ < (arrV _ _ _).slots.size; rw [arrV_size]; exact hlt⟩ g1 (fun q h => by rw [g3] at h; cases h) (by rw [g2]; exact hkC) (by rw [g2]; exact va_assign hcls) rfl rfl hd fun H1 e z oq => ?_
  refine kk H1 _ lsA (hM.upd (M' := uR M a i.toNatClampNeg (some v)) hs (fun _ => rfl) rfl (fun b hb9 => ?_) rfl ?_ z oq) (hS.put z oq (hM.1 a _ hs).1) hl
  · refine ⟨?_, ?_, ?_⟩ <;> funext j <;> simp [mI_uR, mR_uR, mL_uR, hb9]
  · show H1[a]? = some (vp_cell _ _)
    rw [e]
    rw [vp_cell_q, vp_cell_q, arrV_store]
    congr 2
    funext q
    by_cases hq : q = i.toNatClampNeg
    · subst hq
      simp [updV, mR_uR, va_rf]
    · simp [updV, mR_uR, hq]
end NRW
