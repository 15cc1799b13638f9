theorem WT_good {ws : List Cond} (h : ∀ w ∈ ws, w ∈ WT) : GoodIn WT ws := fun w hw => ⟨h w hw, good_of_word (List.mem_filter.mp (h w hw)).2⟩
/-- the words of a method: its code, and all good words of the tables -/
abbrev wsY (Y : MD) : List Cond := Cond.code Y.1 Y.2.1 Y.2.2.1 Y.2.2.2.1 :: WT
theorem wsY_in {Y : MD} (h : MIb Y) : ∀ w ∈ wsY Y, w ∈ WT := fun w hw => (List.mem_cons.mp hw).elim (fun e => by rw [e]; exact h.2.2.2.1) id
/-- THE CONTRACT: called at the memory M with the arguments av, the method ends as post says; at most mc new cells of ms slots -/
def Ct (G : GG) (base : Nat) (Y : MD) (d mc ms : Nat) (av : List Value) (M : Mm) (post : Ot → Mm → Prop) : Prop :=
  ∀ l : Launch, l.stackTraces = false → vx_Met l Y.1 (wsY Y) (rmD d mc ms) (va_Pc av (fun U => fRep G base M U.heap ∧ Amb G base U U.heap)) (qR G base post) (qX G base post) mc ms (up base)
theorem Ct.blind {G : GG} {base : Nat} {av : List Value} {M : Mm} : FrameBlind (va_Pc av (fun U => fRep G base M U.heap ∧ Amb G base U U.heap)) := fun a U g mk q => ⟨q.1, q.2.1, q.2.2.same rfl⟩
theorem lcl_entry (av : List Value) (h : ∀ v ∈ av, v.category = 1) (n : Nat) (hn : av.length ≤ n) : lcl ((av.map Slot.val ++ List.replicate (n - av.length) Slot.unset).toArray) (av.map some ++ List.replicate (n - av.length) none) := by
  refine ⟨by simp, ⟨fun i v hi hc => ?_, fun i hi => ?_⟩, fun i v hi => ?_⟩
  · exfalso
    simp only [List.getElem?_toArray, List.getElem?_append, List.length_map] at hi
    split at hi
    · rw [List.getElem?_map] at hi
      cases hv : av[i]? with
      | none => rw [hv] at hi; cases hi
      | some w =>
        rw [hv] at hi
        cases hi
        have := h v (List.mem_of_getElem? hv)
        omega
    · have := List.eq_of_mem_replicate (List.mem_of_getElem? hi)
      cases this
  · exfalso
    simp only [List.getElem?_toArray, List.getElem?_append, List.length_map] at hi
    split at hi
    · rw [List.getElem?_map] at hi
      cases hv : av[i]? with
      | none => rw [hv] at hi; cases hi
      | some w => rw [hv] at hi; cases hi
    · have := List.eq_of_mem_replicate (List.mem_of_getElem? hi)
      cases this
  · simp only [List.getElem?_toArray, List.getElem?_append, List.length_map] at hi ⊢
    split at hi
    · rename_i hlt
      rw [if_pos hlt]
      rw [List.getElem?_map] at hi ⊢
      cases hv : av[i]? with
      | none => rw [hv] at hi; cases hi
      | some w => rw [hv] at hi; cases hi; rfl
    · have := List.eq_of_mem_replicate (List.mem_of_getElem? hi)
      cases this
/-- a contract by its body -/
theorem Ct.of {G : GG} {base : Nat} {Y : MD} {d mc ms : Nat} {av : List Value} {M : Mm} {post : Ot → Mm → Prop} (hI : MIb Y) (hav : ∀ v ∈ av, v.category = 1) (hn : av.length ≤ Y.2.2.1)
    (body : ∀ X : Cx, okX G base X Y.2.1 Y.1.cls Y.2.2.1 Y.2.2.2.1 d mc ms post → okN X Y.1.name → J G base X 0 0 M 0 (av.map some ++ List.replicate (Y.2.2.1 - av.length) none) []) : Ct G base Y d mc ms av M post := by
  intro l hst
  refine MetFree.of_bodySF (code := Y.2.1) (maxLocals := Y.2.2.1) (ret := Y.2.2.2.1) hI.1 ?_ ?_
  · intro args s m h hn
    obtain ⟨meth, c, h1, h2, h3, h4, h5, h6, -, -⟩ := Cond.code_spec hn (atoms_spec (ws := wsY Y) h _ List.mem_cons_self)
    exact ⟨meth, c, h1, h2, h3, h4, h5, h6⟩
  · intro p e s m args below meth c s₁ B hml hP _
    obtain ⟨rfl, hM, hamb⟩ := hP
    have hh0 : s₁.heap = s.heap := by rw [B.state]; rfl
    have hout : ∀ x ∈ c.exceptionTable.toList, False := by
      obtain ⟨meth9, c9, h1, h2, -, -, -, -, h7, -⟩ := Cond.code_spec B.named (atoms_spec (ws := wsY Y) B.pre _ List.mem_cons_self)
      cases Option.some.inj (h1.symm.trans B.method)
      cases Option.some.inj (h2.symm.trans (Stand.of_body B).code)
      intro x hx
      rw [Array.isEmpty_iff.mp h7] at hx
      cases hx
    have hts := atoms_spec (ws := wsY Y) B.pre
    have b := body (p, l, e, rmD d mc ms, s, m, av.toArray, below, meth, c, vx_MQ below (qR G base post) (qX G base post) av.toArray s mc ms (up base))
      ⟨B.exec, B.bytes, hml, findClass_of_methodNamed B.named, fun w hw => hts w (List.mem_cons_of_mem _ hw), hamb, B.notSynchronized, hst, B.returns, rfl, rfl, hout⟩ (name_of_methodNamed B.named B.method).1
      s.heap [] _ hM va_S.rf (lcl_entry av hav Y.2.2.1 hn)
    rw [← entry_eq m av hav] at b
    obtain ⟨t, a1, o, b1, b2, b3⟩ := b s₁ hh0 (Stand.of_body B)
    exact ⟨t, o, a1, b1, b2, b3⟩
section CR
variable {G : GG} {base : Nat} {X : Cx} {cc : ByteArray} {own : String} {nL : Nat} {ret : Option FieldType} {d mc ms : Nat} {post : Ot → Mm → Prop} {cs sl : Nat} {M : Mm} {pc : Nat} {ls : List (Option Value)} {st : List Value}
/-- what is common to the calls -/
theorem r_run {p : Program} {l : Launch} {e : Env} {R : Room} {s : State} {m : MethodId} {args : Array Value} {below : List Frame} {meth : Method} {c : Code} {H : Heap} {locs : List Loc} {lsA : Array Slot} {mc2 ms2 : Nat} {st0 rest : List Value} {post2 : Ot → Mm → Prop} {a : Array Value} (hlk : meth.locks = false) (hout : ∀ x ∈ c.exceptionTable.toList, False)
    (run : vx_Run p l e R s m args below meth c H locs cs sl mc2 ms2 (F0 m pc lsA st0) rest (qR G base post2 a) (qX G base post2) (up base)) (hS : va_S (up base) s.heap H locs) (hcs : cs + mc2 ≤ mc) (hsl : sl + ms2 ≤ ms)
    (kr : ∀ (v : Option Value) (M' : Mm) (H' : Heap) (locs' : List Loc), post2 (.inl v) M' → fRep G base M' H' → va_S (up base) s.heap H' locs' → W p l e R s m args below meth c H' locs' (cs + mc2) (sl + ms2) (vx_MQ below (qR G base post) (qX G base post) args s mc ms (up base)) (F0 m (pc + 3) lsA (v.toList ++ rest)))
    (kx : ∀ (E : String) (M' : Mm), post2 (.inr E) M' → post (.inr E) M') : W p l e R s m args below meth c H locs cs sl (vx_MQ below (qR G base post) (qX G base post) args s mc ms (up base)) (F0 m pc lsA st0) := by
  intro T hT X9
  rcases run T hT X9 with ⟨v, st₀, t, T', L, h0, X', hL, e1, e2, ⟨v', M', hv, hp, hM', hF⟩, st⟩ | ⟨q, st₀, t, T', L, E, ce, h0, X', hL, e1, e2, ⟨M', hp, hM', hF⟩, hce, hcv, hcl, st⟩
  · cases hv
    obtain ⟨k1, k2, k3⟩ := vx_keep h0 e1 hS (fun q _ h => h) (fun q h => h) hL hF
    obtain ⟨t2, a1, b1⟩ := kr v M' T'.heap (locs ++ L) hp (by rw [e1]; exact hM') k3 T' rfl X'
    exact ⟨t2, st t2 a1, b1⟩
  · obtain ⟨k1, k2, k3⟩ := vx_keep h0 e1 hS (fun q _ h => h) (fun q h => h) hL hF
    obtain ⟨t2, a1, b1⟩ := (vx_out (pc := pc) (ls := lsA) (rest := rest) (Qc := qR G base post) (XC := qX G base post) (fun x hx => (hout x hx).elim) hlk (by rw [e1]; exact hce) hcv hcl
      (fun t9 ht9 _ => ⟨M', kx E M' hp, by rw [ht9, e1]; exact hM', k3.F ht9⟩) k3.2.2 hcs hsl : vx_W p l e R s m args below meth c T'.heap (locs ++ L) (cs + mc2) (sl + ms2) _ (F0 m pc lsA rest) q) T' rfl X'
    exact ⟨t2, st.trans a1, b1⟩
theorem r_callV (hX : okX G base X cc own nL ret d mc ms post) {Y : MD} {idx d2 mc2 ms2 : Nat} {rest : List Value} {post2 : Ot → Mm → Prop} {b ci n : Nat} {As : List Value} (hd : decode cc pc = .ok (.invokevirtual idx, 3)) (hI : MIv Y) (hl9 : Cond.methodLink own idx Y.1 ∈ WT) (hn9 : As.length = Y.2.2.2.2) (hs : mS M b = some (ci, n)) (hC : (vwCl[ci]?).map (fun q => q.1) = some Y.1.cls) (hct : Ct G base Y d2 mc2 ms2 (.ref b :: As) M post2) (hd2 : d2 < d) (hcs : cs + mc2 ≤ mc) (hsl : sl + ms2 ≤ ms) (hml2 : Y.2.2.1 ≤ 45 := by decide) (hlen : ls.length = nL := by rfl) (hW : (rest.map fun v => v.category).sum ≤ 8 := by decide)
    (kr : ∀ (v : Option Value) (M' : Mm), post2 (.inl v) M' → J G base X (cs + mc2) (sl + ms2) M' (pc + 3) ls (v.toList ++ rest)) (kx : ∀ (E : String) (M' : Mm), post2 (.inr E) M' → post (.inr E) M') : J G base X cs sl M pc ls (As.reverse ++ .ref b :: rest) := by
  obtain ⟨p, l, e, R, s, m, args, below, meth, c, Q⟩ := X
  obtain ⟨hx, hb, hml, hown, hts, hamb, hlk, hst, hr, hR, hQ, hout⟩ := hX
  subst hR
  subst hQ
  intro H locs lsA hM hS hl
  obtain ⟨⟨i1, i2, i3, i4, i5⟩, i6, i7⟩ := hI
  have hpre : ∀ U : State, U.heap = H → s.WarmedH U.vm → va_Pc (.ref b :: As) (fun U => fRep G base M U.heap ∧ Amb G base U U.heap) (Value.ref b :: As).toArray U := fun U hU hW => ⟨rfl, by rw [hU]; exact hM, by rw [hU]; exact hamb.warm hW hS⟩
  have hroom : (rmD d2 mc2 ms2).frames + 1 ≤ (rmD d mc ms).frames ∧ 8 + (Y.2.2.1 + 11) + (rmD d2 mc2 ms2).locals ≤ (rmD d mc ms).locals := ⟨hd2, by show 8 + (Y.2.2.1 + 11) + 64 * d2 ≤ 64 * d; omega⟩
  have hin : ∀ w ∈ wsV own idx Y.1.cls Y.1 (wsY Y), w ∈ WT := fun w hw => by
    simp only [wsV, List.mem_append, List.mem_cons, List.not_mem_nil, or_false] at hw
    rcases hw with (rfl | rfl | rfl | rfl) | hw
    · exact hl9
    · exact i6
    · exact i7
    · exact i5
    · exact wsY_in ⟨i1, i2, i3, i4, i5⟩ w (List.mem_cons.mpr hw)
  obtain ⟨q, hq1, hq2⟩ : ∃ q, vwCl[ci]? = some q ∧ q.1 = Y.1.cls := by
    cases hq : vwCl[ci]? with
    | none => rw [hq] at hC; cases hC
    | some q => rw [hq] at hC; exact ⟨q, rfl, Option.some.inj hC⟩
  have hrecv := va_recv hamb.1 (hM.at hs (ent_obj (vwCl_lt hq1))) hq1 (q0 := 0) rfl
  rw [hq2] at hrecv
  refine r_run hlk hout (vx_runV (As := As) (rest := rest) (C := Y.1.cls) (nL := nL) ⟨hx, hb, hml, hown, hts⟩ (hct l hst) (cwV Y.2.2.2.2 hts (WT_good hin) rfl rfl rfl ⟨rfl, i2.1, i2.2, i3⟩ hroom) ⟨Ct.blind, hrecv, hpre⟩ rfl hn9 (hl.1.trans hlen) rfl (lv_room hW) hd ⟨hcs, hsl⟩) hS hcs hsl (fun v M' H' locs' hp hM' hS' => kr v M' hp H' locs' lsA hM' hS' hl) kx
theorem r_callI (hX : okX G base X cc own nL ret d mc ms post) {Y : MD} {idx d2 mc2 ms2 : Nat} {rest : List Value} {post2 : Ot → Mm → Prop} {b : Nat} {As : List Value} (hd : decode cc pc = .ok (.invokespecial idx, 3)) (hI : MIi Y) (hl9 : Cond.methodLink own idx Y.1 ∈ WT) (hn9 : As.length = Y.2.2.2.2) (hct : Ct G base Y d2 mc2 ms2 (.ref b :: As) M post2) (hd2 : d2 < d) (hcs : cs + mc2 ≤ mc) (hsl : sl + ms2 ≤ ms) (hml2 : Y.2.2.1 ≤ 45 := by decide) (hlen : ls.length = nL := by rfl) (hW : (rest.map fun v => v.category).sum ≤ 8 := by decide)
    (kr : ∀ (v : Option Value) (M' : Mm), post2 (.inl v) M' → J G base X (cs + mc2) (sl + ms2) M' (pc + 3) ls (v.toList ++ rest)) (kx : ∀ (E : String) (M' : Mm), post2 (.inr E) M' → post (.inr E) M') : J G base X cs sl M pc ls (As.reverse ++ .ref b :: rest) := by
  obtain ⟨p, l, e, R, s, m, args, below, meth, c, Q⟩ := X
  obtain ⟨hx, hb, hml, hown, hts, hamb, hlk, hst, hr, hR, hQ, hout⟩ := hX
  subst hR
  subst hQ
  intro H locs lsA hM hS hl
  obtain ⟨⟨i1, i2, i3, i4, i5⟩, i6, i7, i8⟩ := hI
  have hpre : ∀ U : State, U.heap = H → s.WarmedH U.vm → va_Pc (.ref b :: As) (fun U => fRep G base M U.heap ∧ Amb G base U U.heap) (Value.ref b :: As).toArray U := fun U hU hW => ⟨rfl, by rw [hU]; exact hM, by rw [hU]; exact hamb.warm hW hS⟩
  have hroom : (rmD d2 mc2 ms2).frames + 1 ≤ (rmD d mc ms).frames ∧ 8 + (Y.2.2.1 + 11) + (rmD d2 mc2 ms2).locals ≤ (rmD d mc ms).locals := ⟨hd2, by show 8 + (Y.2.2.1 + 11) + 64 * d2 ≤ 64 * d; omega⟩
  have hw2 : wsY Y = Cond.code Y.1 Y.2.1 Y.2.2.1 none :: WT := by rw [← i7]
  refine r_run hlk hout (vx_runI (As := As) (rest := rest) (nL := nL) ⟨hx, hb, hml, hown, hts⟩ (hct l hst) (cwI Y.2.2.2.2 hts (WT_good (wsY_in ⟨i1, i2, i3, i4, i5⟩)) hw2 rfl rfl (hts _ i5) (hts _ hl9) (hts _ i8) i6 ⟨i2.1, i2.2, i3⟩ hroom) ⟨Ct.blind, hpre⟩ rfl hn9 (hl.1.trans hlen) rfl (lv_room hW) hd ⟨hcs, hsl⟩) hS hcs hsl (fun v M' H' locs' hp hM' hS' => kr v M' hp H' locs' lsA hM' hS' hl) kx
theorem r_callS (hX : okX G base X cc own nL ret d mc ms post) {Y : MD} {idx d2 mc2 ms2 : Nat} {rest : List Value} {post2 : Ot → Mm → Prop} {As : List Value} (hd : decode cc pc = .ok (.invokestatic idx, 3)) (hI : MIs Y) (hl9 : Cond.methodLink own idx Y.1 ∈ WT) (hn9 : As.length = Y.2.2.2.2) (hct : Ct G base Y d2 mc2 ms2 As M post2) (hd2 : d2 < d) (hcs : cs + mc2 ≤ mc) (hsl : sl + ms2 ≤ ms) (hml2 : Y.2.2.1 ≤ 45 := by decide) (hlen : ls.length = nL := by rfl) (hW : (rest.map fun v => v.category).sum ≤ 8 := by decide)
    (kr : ∀ (v : Option Value) (M' : Mm), post2 (.inl v) M' → J G base X (cs + mc2) (sl + ms2) M' (pc + 3) ls (v.toList ++ rest)) (kx : ∀ (E : String) (M' : Mm), post2 (.inr E) M' → post (.inr E) M') : J G base X cs sl M pc ls (As.reverse ++ rest) := by
  obtain ⟨p, l, e, R, s, m, args, below, meth, c, Q⟩ := X
  obtain ⟨hx, hb, hml, hown, hts, hamb, hlk, hst, hr, hR, hQ, hout⟩ := hX
  subst hR
  subst hQ
  intro H locs lsA hM hS hl
  obtain ⟨⟨i1, i2, i3, i4, i5⟩, i6⟩ := hI
  have hpre : ∀ U : State, U.heap = H → s.WarmedH U.vm → va_Pc (As) (fun U => fRep G base M U.heap ∧ Amb G base U U.heap) (As).toArray U := fun U hU hW => ⟨rfl, by rw [hU]; exact hM, by rw [hU]; exact hamb.warm hW hS⟩
  have hroom : (rmD d2 mc2 ms2).frames + 1 ≤ (rmD d mc ms).frames ∧ 8 + (Y.2.2.1 + 11) + (rmD d2 mc2 ms2).locals ≤ (rmD d mc ms).locals := ⟨hd2, by show 8 + (Y.2.2.1 + 11) + 64 * d2 ≤ 64 * d; omega⟩
  have hin : ∀ w ∈ va_wsS own idx Y.1 (wsY Y), w ∈ WT := fun w hw => by
    simp only [va_wsS, List.mem_append, List.mem_cons, List.not_mem_nil, or_false] at hw
    rcases hw with (rfl | rfl | rfl) | hw
    · exact hl9
    · exact i6
    · exact i5
    · exact wsY_in ⟨i1, i2, i3, i4, i5⟩ w (List.mem_cons.mpr hw)
  refine r_run hlk hout (vx_runS (As := As) (rest := rest) (nL := nL) ⟨hx, hb, hml, hown, hts⟩ (hct l hst) (va_cwS Y.2.2.2.2 hts (WT_good hin) rfl rfl rfl ⟨i2.1, i2.2, i3⟩ hroom) ⟨Ct.blind, hpre⟩ rfl hn9 (hl.1.trans hlen) rfl (lv_room hW) hd ⟨hcs, hsl⟩) hS hcs hsl (fun v M' H' locs' hp hM' hS' => kr v M' hp H' locs' lsA hM' hS' hl) kx
theorem r_callN (hX : okX G base X cc own nL ret d mc ms post) {Y : MD} {idx d2 mc2 ms2 : Nat} {rest : List Value} {post2 : Ot → Mm → Prop} {host : String} {As : List Value} (hd : decode cc pc = .ok (.invokestatic idx, 3)) (hI : MIs Y) (hl9 : (own, idx, Y.1, host) ∈ nestW) (hn9 : As.length = Y.2.2.2.2) (hct : Ct G base Y d2 mc2 ms2 As M post2) (hd2 : d2 < d) (hcs : cs + mc2 ≤ mc) (hsl : sl + ms2 ≤ ms) (hml2 : Y.2.2.1 ≤ 45 := by decide) (hlen : ls.length = nL := by rfl) (hW : (rest.map fun v => v.category).sum ≤ 8 := by decide)
    (kr : ∀ (v : Option Value) (M' : Mm), post2 (.inl v) M' → J G base X (cs + mc2) (sl + ms2) M' (pc + 3) ls (v.toList ++ rest)) (kx : ∀ (E : String) (M' : Mm), post2 (.inr E) M' → post (.inr E) M') : J G base X cs sl M pc ls (As.reverse ++ rest) := by
  obtain ⟨p, l, e, R, s, m, args, below, meth, c, Q⟩ := X
  obtain ⟨hx, hb, hml, hown, hts, hamb, hlk, hst, hr, hR, hQ, hout⟩ := hX
  subst hR
  subst hQ
  intro H locs lsA hM hS hl
  obtain ⟨⟨i1, i2, i3, i4, i5⟩, i6⟩ := hI
  have hpre : ∀ U : State, U.heap = H → s.WarmedH U.vm → va_Pc (As) (fun U => fRep G base M U.heap ∧ Amb G base U U.heap) (As).toArray U := fun U hU hW => ⟨rfl, by rw [hU]; exact hM, by rw [hU]; exact hamb.warm hW hS⟩
  have hroom : (rmD d2 mc2 ms2).frames + 1 ≤ (rmD d mc ms).frames ∧ 8 + (Y.2.2.1 + 11) + (rmD d2 mc2 ms2).locals ≤ (rmD d mc ms).locals := ⟨hd2, by show 8 + (Y.2.2.1 + 11) + 64 * d2 ≤ 64 * d; omega⟩
  have hnest : va_Nw (.methodLinkNest own idx Y.1 host) s := hamb.2.2.2.2.2.2.2.2.1 _ hl9
  refine r_run hlk hout (vx_runSN (As := As) (rest := rest) (nL := nL) (host := host) ⟨hx, hb, hml, hown, hts⟩ (hct l hst) ⟨va_cnB Y.2.2.2.2 hts (WT_good (wsY_in ⟨i1, i2, i3, i4, i5⟩)) rfl rfl rfl hnest (hts _ i5) ⟨i2.1, i2.2, i3⟩ hroom, hts _ i6, trivial⟩ ⟨Ct.blind, hpre⟩ rfl hn9 (hl.1.trans hlen) rfl (lv_room hW) hd ⟨hcs, hsl⟩) hS hcs hsl (fun v M' H' locs' hp hM' hS' => kr v M' hp H' locs' lsA hM' hS' hl) kx
theorem r_ireturn (hX : okX G base X cc own nL ret d mc ms post) {x : Int32} {ty : FieldType} (hret : ret = some ty) (hn : narrow ty (.int x) = .int x) (hd : decode cc pc = .ok (.ireturn, 1)) (hc : cs ≤ mc := by decide) (hs9 : sl ≤ ms := by decide) (hp : post (.inl (some (.int x))) M) : J G base X cs sl M pc ls [.int x] := by
  obtain ⟨p, l, e, R, s, m, args, below, meth, c, Q⟩ := X
  obtain ⟨hx, hb, hml, hown, hts, hamb, hlk, hst, hr, hR, hQ, hout⟩ := hX
  subst hR
  subst hQ
  intro H locs lsA hM hS hl
  exact W.widen hc hs9 (vx_ret (W.zret hx hb (hr.trans hret) hn (fun t ht hW => ⟨_, M, rfl, hp, by rw [ht]; exact hM, hS.F ht⟩) hS.2.2 hd hlk))
theorem r_areturn (hX : okX G base X cc own nL ret d mc ms post) {x : Nat} {ty : FieldType} (hret : ret = some ty) (hty : (∃ n, ty = .object n) ∨ ∃ t, ty = .array t) (hd : decode cc pc = .ok (.areturn, 1)) (hc : cs ≤ mc := by decide) (hs9 : sl ≤ ms := by decide) (hp : post (.inl (some (.ref x))) M) : J G base X cs sl M pc ls [.ref x] := by
  obtain ⟨p, l, e, R, s, m, args, below, meth, c, Q⟩ := X
  obtain ⟨hx, hb, hml, hown, hts, hamb, hlk, hst, hr, hR, hQ, hout⟩ := hX
  subst hR
  subst hQ
  intro H locs lsA hM hS hl
  exact W.widen hc hs9 (vx_ret (W.aret hx hb (hr.trans hret) hty (Or.inr ⟨_, rfl⟩) (fun t ht hW => ⟨_, M, rfl, hp, by rw [ht]; exact hM, hS.F ht⟩) hS.2.2 hd hlk))
theorem r_areturnN (hX : okX G base X cc own nL ret d mc ms post) {ty : FieldType} (hret : ret = some ty) (hty : (∃ n, ty = .object n) ∨ ∃ t, ty = .array t) (hd : decode cc pc = .ok (.areturn, 1)) (hc : cs ≤ mc := by decide) (hs9 : sl ≤ ms := by decide) (hp : post (.inl (some .null)) M) : J G base X cs sl M pc ls [.null] := by
  obtain ⟨p, l, e, R, s, m, args, below, meth, c, Q⟩ := X
  obtain ⟨hx, hb, hml, hown, hts, hamb, hlk, hst, hr, hR, hQ, hout⟩ := hX
  subst hR
  subst hQ
  intro H locs lsA hM hS hl
  exact W.widen hc hs9 (vx_ret (W.aret hx hb (hr.trans hret) hty (Or.inl rfl) (fun t ht hW => ⟨_, M, rfl, hp, by rw [ht]; exact hM, hS.F ht⟩) hS.2.2 hd hlk))
theorem r_dreturn (hX : okX G base X cc own nL ret d mc ms post) {x : UInt64} (hret : ret = some .double) (hd : decode cc pc = .ok (.dreturn, 1)) (hc : cs ≤ mc := by decide) (hs9 : sl ≤ ms := by decide) (hp : post (.inl (some (.double x))) M) : J G base X cs sl M pc ls [.double x] := by
  obtain ⟨p, l, e, R, s, m, args, below, meth, c, Q⟩ := X
  obtain ⟨hx, hb, hml, hown, hts, hamb, hlk, hst, hr, hR, hQ, hout⟩ := hX
  subst hR
  subst hQ
  intro H locs lsA hM hS hl
  exact W.widen hc hs9 (vx_ret (W.dret hx hb (hr.trans hret) (fun t ht hW => ⟨_, M, rfl, hp, by rw [ht]; exact hM, hS.F ht⟩) hS.2.2 hd hlk))
theorem r_return (hX : okX G base X cc own nL ret d mc ms post) (hret : ret = none) (hd : decode cc pc = .ok (.return_, 1)) (hc : cs ≤ mc := by decide) (hs9 : sl ≤ ms := by decide) (hp : post (.inl (none)) M) : J G base X cs sl M pc ls [] := by
  obtain ⟨p, l, e, R, s, m, args, below, meth, c, Q⟩ := X
  obtain ⟨hx, hb, hml, hown, hts, hamb, hlk, hst, hr, hR, hQ, hout⟩ := hX
  subst hR
  subst hQ
  intro H locs lsA hM hS hl
  exact W.widen hc hs9 (vx_ret (W.vret hx hb (hr.trans hret) (fun t ht hW => ⟨_, M, rfl, hp, by rw [ht]; exact hM, hS.F ht⟩) hS.2.2 hd hlk))
/-- 'throw new E()' of the class own -/
def ThI (own : String) (ik ic : Nat) (cls : String) : Prop := Bundle.fit cls = true ∧ Cond.classLink own ik cls ∈ WT ∧ Cond.initialized cls ∈ WT ∧ (∀ w ∈ (vx_at0 own ic cls ["java/lang/RuntimeException", "java/lang/Exception"]).filter goodWord, w ∈ WT) ∧
  (∀ w ∈ (vx_at0 own ic cls ["java/lang/RuntimeException", "java/lang/Exception"]).filter (fun w => !goodWord w), w ∈ declM.map Cond.declares ++ castM.map (fun x => Cond.castable x x)) ∧ ∀ w ∈ Cond.classLink own ik cls :: Cond.initialized cls :: vx_at0 own ic cls ["java/lang/RuntimeException", "java/lang/Exception"], vx_ot w = true
theorem r_throw (hX : okX G base X cc own nL ret d mc ms post) {ik ic : Nat} {cls : String} (hT : ThI own ik ic cls) (d0 : decode cc pc = .ok (.new ik, 3)) (d3 : decode cc (pc + 3) = .ok (.dup, 1)) (d4 : decode cc (pc + 4) = .ok (.invokespecial ic, 3)) (d7 : decode cc (pc + 7) = .ok (.athrow, 1)) (hd6 : 6 ≤ d) (hc : cs + 1 ≤ mc) (hs9 : sl + 6 ≤ ms) (hlen : ls.length = nL := by rfl) (hp : post (.inr cls) (fT M)) (hW : (st.map fun v => v.category).sum ≤ 8 := by decide) : J G base X cs sl M pc ls st := by
  obtain ⟨p, l, e, R, s, m, args, below, meth, c, Q⟩ := X
  obtain ⟨hx, hb, hml, hown, hts, hamb, hlk, hst, hr, hR, hQ, hout⟩ := hX
  subst hR
  subst hQ
  intro H locs lsA hM hS hl
  obtain ⟨t1, t2, t3, t4, t5, t6⟩ := hT
  have hat : ∀ w ∈ vx_at0 own ic cls ["java/lang/RuntimeException", "java/lang/Exception"], w.before args s = true := vx_hat (fun w hw => hts w (t4 w hw)) t5 (fun w hw => by
    rcases List.mem_append.mp hw with hw | hw
    · obtain ⟨x, hx9, rfl⟩ := List.mem_map.mp hw
      exact va_Nw.use rfl (hamb.2.2.2.2.2.2.2.2.2.1 x hx9)
    · obtain ⟨x, hx9, rfl⟩ := List.mem_map.mp hw
      exact va_Nw.use rfl (hamb.2.2.2.2.2.2.2.2.2.2 x hx9))
  refine vx_throw0 hx hb hst hown t1 (by decide) (hts _ t2) (hts _ t3) hat t6 hamb.2.2.1 hamb.2.2.2.1 hS ((hl.1.trans hlen).trans hml.symm) d0 d3 d4 d7 (fun x hx => (hout x hx).elim) (by show 2 + 3 < d; omega) ?_ (by show cs + 1 ≤ mc; exact hc) (by show sl + 6 ≤ ms; exact hs9) hlk ?_ hS.2.2 hc hs9
  · show _ + (13 * 3 + 42) ≤ 64 * d
    omega
  · intro t hal hz hk
    refine ⟨fT M, hp, ⟨fun a x hx => ?_, fun t ht => by cases ht⟩, Nat.le_trans hS.1 hz, fun q h1 h2 => (hk q (Nat.lt_of_lt_of_le h1 hS.1)).trans (hS.2.1 q h1 h2)⟩
    have h9 := hM.1 a x hx
    exact ⟨h9.1, h9.2.kept (hk a h9.2.lt)⟩
end CR
theorem thI0 : ThI RX10 86 88 "java/lang/IllegalArgumentException" := ⟨by decide +kernel, cl_X10_86, by decide +kernel, by decide +kernel, by decide +kernel, by decide +kernel⟩
theorem thI1 : ThI RX10 166 168 "java/util/NoSuchElementException" := ⟨by decide +kernel, cl_X10_166, by decide +kernel, by decide +kernel, by decide +kernel, by decide +kernel⟩
theorem thI2 : ThI RX10 341 343 "java/lang/IndexOutOfBoundsException" := ⟨by decide +kernel, cl_X10_341, by decide +kernel, by decide +kernel, by decide +kernel, by decide +kernel⟩
theorem thI3 : ThI RX10 270 272 "java/lang/IllegalStateException" := ⟨by decide +kernel, cl_X10_270, by decide +kernel, by decide +kernel, by decide +kernel, by decide +kernel⟩
