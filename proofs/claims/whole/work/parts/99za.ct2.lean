/-! A contract that asks that the arrays of states can be made (the history's constructor) -/
abbrev cSt : String := "CrossingMail$State"
def aoX (X : Cx) : Prop := match X with | (_, _, _, _, s, _, _, _, _, _, _) => va_AO cSt s
def Ct2 (G : GG) (base : Nat) (Y : MD) (d mc ms : Nat) (av : List Value) (M : Mm) (post : Ot → Mm → Prop) : Prop :=
  ∀ l : Launch, l.stackTraces = false → vx_Met l Y.1 (wsY Y) (rmD d mc ms) (va_Pc av (fun U => fRep G base M U.heap ∧ Amb G base U U.heap ∧ va_AO cSt U)) (qR G base post) (qX G base post) mc ms (up base)
theorem Ct2.blind {G : GG} {base : Nat} {av : List Value} {M : Mm} : FrameBlind (va_Pc av (fun U => fRep G base M U.heap ∧ Amb G base U U.heap ∧ va_AO cSt U)) := fun a U g mk q => ⟨q.1, q.2.1, q.2.2.1.same rfl, va_AO.moved (Vm.Alike.refl _) q.2.2.2⟩
theorem Ct2.of {G : GG} {base : Nat} {Y : MD} {d mc ms : Nat} {av : List Value} {M : Mm} {post : Ot → Mm → Prop} (hI : MIb Y) (hav : ∀ v ∈ av, v.category = 1) (hn : av.length ≤ Y.2.2.1)
    (body : ∀ X : Cx, okX G base X Y.2.1 Y.1.cls Y.2.2.1 Y.2.2.2.1 d mc ms post → okN X Y.1.name → aoX X → J G base X 0 0 M 0 (av.map some ++ List.replicate (Y.2.2.1 - av.length) none) []) : Ct2 G base Y d mc ms av M post := by
  intro l hst
  refine MetFree.of_bodySF (code := Y.2.1) (maxLocals := Y.2.2.1) (ret := Y.2.2.2.1) hI.1 ?_ ?_
  · intro args s m h hn
    obtain ⟨meth, c, h1, h2, h3, h4, h5, h6, -, -⟩ := Cond.code_spec hn (atoms_spec (ws := wsY Y) h _ List.mem_cons_self)
    exact ⟨meth, c, h1, h2, h3, h4, h5, h6⟩
  · intro p e s m args below meth c s₁ B hml hP _
    obtain ⟨rfl, hM, hamb, hao⟩ := hP
    have hh0 : s₁.heap = s.heap := by rw [B.state]; rfl
    have hout : ∀ x ∈ c.exceptionTable.toList, False := by
      obtain ⟨meth9, c9, h1, h2, -, -, -, -, h7, -⟩ := Cond.code_spec B.named (atoms_spec (ws := wsY Y) B.pre _ List.mem_cons_self)
      cases Option.some.inj (h1.symm.trans B.method)
      cases Option.some.inj (h2.symm.trans (Stand.of_body B).code)
      intro x hx
      rw [Array.isEmpty_iff.mp h7] at hx
      cases hx
    have hts := atoms_spec (ws := wsY Y) B.pre
    have b := body (p, l, e, rmD d mc ms, s, m, av.toArray, below, meth, c, vx_MQ below (qR G base post) (qX G base post) av.toArray s mc ms (up base))
      ⟨B.exec, B.bytes, hml, findClass_of_methodNamed B.named, fun w hw => hts w (List.mem_cons_of_mem _ hw), hamb, B.notSynchronized, hst, B.returns, rfl, rfl, hout⟩ (name_of_methodNamed B.named B.method).1 hao
      s.heap [] _ hM va_S.rf (lcl_entry av hav Y.2.2.1 hn)
    rw [← entry_eq m av hav] at b
    obtain ⟨t, a1, o, b1, b2, b3⟩ := b s₁ hh0 (Stand.of_body B)
    exact ⟨t, o, a1, b1, b2, b3⟩
section CR2
variable {G : GG} {base : Nat} {X : Cx} {cc : ByteArray} {own : String} {nL : Nat} {ret : Option FieldType} {d mc ms : Nat} {post : Ot → Mm → Prop} {cs sl : Nat} {M : Mm} {pc : Nat} {ls : List (Option Value)} {st : List Value}
theorem r_callI2 (hX : okX G base X cc own nL ret d mc ms post) (hao : aoX X) {Y : MD} {idx d2 mc2 ms2 : Nat} {rest : List Value} {post2 : Ot → Mm → Prop} {b : Nat} {As : List Value} (hd : decode cc pc = .ok (.invokespecial idx, 3)) (hI : MIi Y) (hl9 : Cond.methodLink own idx Y.1 ∈ WT) (hn9 : As.length = Y.2.2.2.2) (hct : Ct2 G base Y d2 mc2 ms2 (.ref b :: As) M post2) (hd2 : d2 < d) (hcs : cs + mc2 ≤ mc) (hsl : sl + ms2 ≤ ms) (hml2 : Y.2.2.1 ≤ 45 := by decide) (hlen : ls.length = nL := by rfl) (hW : (rest.map fun v => v.category).sum ≤ 8 := by decide)
    (kr : ∀ (v : Option Value) (M' : Mm), post2 (.inl v) M' → J G base X (cs + mc2) (sl + ms2) M' (pc + 3) ls (v.toList ++ rest)) (kx : ∀ (E : String) (M' : Mm), post2 (.inr E) M' → post (.inr E) M') : J G base X cs sl M pc ls (As.reverse ++ .ref b :: rest) := by
  obtain ⟨p, l, e, R, s, m, args, below, meth, c, Q⟩ := X
  obtain ⟨hx, hb, hml, hown, hts, hamb, hlk, hst, hr, hR, hQ, hout⟩ := hX
  subst hR
  subst hQ
  intro H locs lsA hM hS hl
  obtain ⟨⟨i1, i2, i3, i4, i5⟩, i6, i7, i8⟩ := hI
  have hpre : ∀ U : State, U.heap = H → s.WarmedH U.vm → va_Pc (.ref b :: As) (fun U => fRep G base M U.heap ∧ Amb G base U U.heap ∧ va_AO cSt U) (Value.ref b :: As).toArray U := fun U hU hW => ⟨rfl, by rw [hU]; exact hM, by rw [hU]; exact hamb.warm hW hS, va_AO.moved hW.alike hao⟩
  have hroom : (rmD d2 mc2 ms2).frames + 1 ≤ (rmD d mc ms).frames ∧ 8 + (Y.2.2.1 + 11) + (rmD d2 mc2 ms2).locals ≤ (rmD d mc ms).locals := ⟨hd2, by show 8 + (Y.2.2.1 + 11) + 64 * d2 ≤ 64 * d; omega⟩
  have hw2 : wsY Y = Cond.code Y.1 Y.2.1 Y.2.2.1 none :: WT := by rw [← i7]
  refine r_run hlk hout (vx_runI (As := As) (rest := rest) (nL := nL) ⟨hx, hb, hml, hown, hts⟩ (hct l hst) (cwI Y.2.2.2.2 hts (WT_good (wsY_in ⟨i1, i2, i3, i4, i5⟩)) hw2 rfl rfl (hts _ i5) (hts _ hl9) (hts _ i8) i6 ⟨i2.1, i2.2, i3⟩ hroom) ⟨Ct2.blind, hpre⟩ rfl hn9 (hl.1.trans hlen) rfl (lv_room hW) hd ⟨hcs, hsl⟩) hS hcs hsl (fun v M' H' locs' hp hM' hS' => kr v M' hp H' locs' lsA hM' hS' hl) kx
theorem r_newQ (hX : okX G base X cc own nL ret d mc ms post) (hao : aoX X) {idx q N : Nat} (hd : decode cc pc = .ok (.anewarray idx, 3)) (hcl : Cond.classLink own idx cSt ∈ WT) (ht : mT M = some q) (hb9 : base ≤ q) (hN9 : N ≤ 10000) (hcs : cs + 1 ≤ mc) (hsl : sl + N ≤ ms) (kk : J G base X (cs + 1) (sl + N) (uN M q (15, N)) (pc + 3) ls (.ref q :: st)) : J G base X cs sl M pc ls (.int (nI N) :: st) := by
  obtain ⟨p, l, e, R, s, m, args, below, meth, c, Q⟩ := X
  obtain ⟨hx, hb, hml, hown, hts, hamb, hlk, hst, hr, hR, hQ, hout⟩ := hX
  intro H locs lsA hM hS hl
  have hN : (nI N).toNatClampNeg = N := nI_clamp (by omega)
  have hq := hM.2 q ht
  refine W.anew hx hb hown (hts _ hcl) (va_AO.use hao) rfl hd rfl (nI_pos (by omega)) (by rw [hN]; omega) (by rw [hR]; exact hcs) (by rw [hR, hN]; exact hsl) fun cA kA comp f1 f2 f3 f4 => ?_
  rw [hN]
  generalize hH1 : H.push ({ cls := cA, slots := Array.replicate N .null, vm := .none } : Cell) = H1
  have z1 : H1.size = q + 1 := by rw [← hH1, Array.size_push, hq]
  have e1 : H1[q]? = some (arrV cA N (fun _ => .null)) := by rw [← hH1, ← hq, Array.getElem?_push_size, ← arrV_new]
  have o1 : ∀ x : Nat, x < q → H1[x]? = H[x]? := fun x hx => by rw [← hH1, Array.getElem?_push, if_neg (by omega)]
  have hcA : cA = G.2.1 15 := by
    obtain ⟨kA9, comp9, -, -, -, k4⟩ := (hamb.1.2 3 _ rfl).2
    exact Option.some.inj (f1.symm.trans k4)
  rw [hcA] at e1
  rw [hq]
  refine kk H1 locs lsA (hM.new ht hb9 rfl ?_ z1 o1) ⟨Nat.le_trans hS.1 (by omega), fun x h1 h2 => (o1 x (by have := hS.1; omega)).trans (hS.2.1 x h1 h2), hS.2.2⟩ hl
  show H1[q]? = some (vp_cell _ _)
  rw [e1]
  rfl
end CR2
