variable {G : GG} {base : Nat}
/-! ===== THE LAW'S HELPERS: contracts of methods with a table ===== -/
abbrev wsH (Y : MD) (hh : List (Nat × Nat × Nat × Nat)) : List Cond := Cond.codeWith Y.1 Y.2.1 Y.2.2.1 Y.2.2.2.1 hh :: WT
def MIh (Y : MD) (hh : List (Nat × Nat × Nat × Nat)) : Prop := plainName Y.1.cls = true ∧ (Y.1.cls ≠ "java/lang/invoke/MethodHandle" ∧ Y.1.cls ≠ "java/lang/invoke/VarHandle") ∧ (parseMethodDescriptor Y.1.desc).map (fun d => d.parameters.length) = some Y.2.2.2.2 ∧ Cond.codeWith Y.1 Y.2.1 Y.2.2.1 Y.2.2.2.1 hh ∈ WT ∧ Cond.initialized Y.1.cls ∈ WT ∧ Cond.static Y.1 ∈ WT
def CtH (G : GG) (base : Nat) (Y : MD) (hh : List (Nat × Nat × Nat × Nat)) (d mc ms : Nat) (av : List Value) (M : Mm) (post : Ot → Mm → Prop) : Prop :=
  ∀ l : Launch, l.stackTraces = false → vx_Met l Y.1 (wsH Y hh) (rmD d mc ms) (va_Pc av (fun U => fRep G base M U.heap ∧ Amb G base U U.heap ∧ ncS U)) (qR G base post) (qX G base post) mc ms (up base)
theorem CtH.blind {G : GG} {base : Nat} {av : List Value} {M : Mm} : FrameBlind (va_Pc av (fun U => fRep G base M U.heap ∧ Amb G base U U.heap ∧ ncS U)) := fun a U g mk q => ⟨q.1, q.2.1, q.2.2.1.same rfl, ncS.moved (Vm.Alike.refl _) q.2.2.2⟩
theorem CtH.of {G : GG} {base : Nat} {Y : MD} {hh : List (Nat × Nat × Nat × Nat)} {d mc ms : Nat} {av : List Value} {M : Mm} {post : Ot → Mm → Prop} (hI : MIh Y hh) (hav : ∀ v ∈ av, v.category = 1) (hn : av.length ≤ Y.2.2.1)
    (body : ∀ X : Cx, okH G base X Y.2.1 Y.1.cls Y.2.2.1 Y.2.2.2.1 d mc ms hh post → ncX X → J G base X 0 0 M 0 (av.map some ++ List.replicate (Y.2.2.1 - av.length) none) []) : CtH G base Y hh d mc ms av M post := by
  intro l hst
  refine vx_ofWH (hh := hh) (cc := Y.2.1) (maxL := Y.2.2.1) (ret := Y.2.2.2.1) (ws' := WT) hI.1 rfl (fun p e s m args below meth c s₁ B hml hP => ?_)
  obtain ⟨rfl, hM, hamb, hnc⟩ := hP
  have hts := atoms_spec (ws := wsH Y hh) B.pre
  have htab : c.exceptionTable.toList = tableOf hh := vx_table (x := Y.1) B (hts _ List.mem_cons_self)
  have b := body (p, l, e, rmD d mc ms, s, m, av.toArray, below, meth, c, vx_MQ below (qR G base post) (qX G base post) av.toArray s mc ms (up base))
    ⟨B.exec, B.bytes, hml, findClass_of_methodNamed B.named, fun w hw => hts w (List.mem_cons_of_mem _ hw), hamb, B.notSynchronized, hst, B.returns, rfl, rfl, htab⟩ hnc
    s.heap [] _ hM va_S.rf (lcl_entry av hav Y.2.2.1 hn)
  rw [← entry_eq m av hav] at b
  exact b
section CRH
variable {G : GG} {base : Nat} {X : Cx} {cc : ByteArray} {own : String} {nL : Nat} {ret : Option FieldType} {d mc ms : Nat} {post : Ot → Mm → Prop} {cs sl : Nat} {M : Mm} {pc : Nat} {ls : List (Option Value)} {st : List Value}
theorem r_callH (hX : okX G base X cc own nL ret d mc ms post) (hnc : ncX X) {Y : MD} {hh : List (Nat × Nat × Nat × Nat)} {idx d2 mc2 ms2 : Nat} {rest : List Value} {post2 : Ot → Mm → Prop} {As : List Value} (hd : decode cc pc = .ok (.invokestatic idx, 3)) (hI : MIh Y hh) (hl9 : Cond.methodLink own idx Y.1 ∈ WT) (hn9 : As.length = Y.2.2.2.2) (hct : CtH G base Y hh d2 mc2 ms2 As M post2) (hd2 : d2 < d) (hcs : cs + mc2 ≤ mc) (hsl : sl + ms2 ≤ ms) (hml2 : Y.2.2.1 ≤ 45) (hlen : ls.length = nL) (hW : (rest.map fun v => v.category).sum ≤ 8)
    (kr : ∀ (v : Option Value) (M' : Mm), post2 (.inl v) M' → J G base X (cs + mc2) (sl + ms2) M' (pc + 3) ls (v.toList ++ rest)) (kx : ∀ (E : String) (M' : Mm), post2 (.inr E) M' → post (.inr E) M') : J G base X cs sl M pc ls (As.reverse ++ rest) := by
  obtain ⟨p, l, e, R, s, m, args, below, meth, c, Q⟩ := X
  obtain ⟨hx, hb, hml, hown, hts, hamb, hlk, hst, hr, hR, hQ, hout⟩ := hX
  subst hR
  subst hQ
  intro H locs lsA hM hS hl
  obtain ⟨i1, i2, i3, i4, i5, i6⟩ := hI
  have hpre : ∀ U : State, U.heap = H → s.WarmedH U.vm → va_Pc (As) (fun U => fRep G base M U.heap ∧ Amb G base U U.heap ∧ ncS U) (As).toArray U := fun U hU hW => ⟨rfl, by rw [hU]; exact hM, by rw [hU]; exact hamb.warm hW hS, ncS.moved hW.alike hnc⟩
  have hroom : (rmD d2 mc2 ms2).frames + 1 ≤ (rmD d mc ms).frames ∧ 8 + (Y.2.2.1 + 11) + (rmD d2 mc2 ms2).locals ≤ (rmD d mc ms).locals := ⟨hd2, by show 8 + (Y.2.2.1 + 11) + 64 * d2 ≤ 64 * d; omega⟩
  have hin : ∀ w ∈ va_wsS own idx Y.1 (wsH Y hh), w ∈ WT := fun w hw => by
    simp only [va_wsS, List.mem_append, List.mem_cons, List.not_mem_nil, or_false] at hw
    rcases hw with (rfl | rfl | rfl) | hw
    · exact hl9
    · exact i6
    · exact i5
    · rcases hw with rfl | hw
      · exact i4
      · exact hw
  refine r_run hlk hout (vx_runSX (hh := hh) (As := As) (rest := rest) (nL := nL) ⟨hx, hb, hml, hown, hts⟩ (hct l hst) (vx_cwSW (ws' := WT) Y.2.2.2.2 hts (WT_good hin) rfl rfl rfl ⟨i2.1, i2.2, i3⟩ hroom) ⟨CtH.blind, hpre⟩ rfl hn9 (hl.1.trans hlen) rfl (lv_room hW) hd ⟨hcs, hsl⟩) hS hcs hsl (fun v M' H' locs' hp hM' hS' => kr v M' hp H' locs' lsA hM' hS' hl) kx
end CRH
/-- what a call of the class leaves: the layout, all else as it was -/
def kX (M N : Mm) (x : Nat) : Prop := LX10 N.1 N.2.1 x ∧ (∀ y, y < x ∨ x + 208 ≤ y → mS N y = mS M y ∧ ∀ k, mR N y k = mR M y k) ∧ mT N = none ∧ outB (mI N) (mI M) x 208 ∧ ∀ y k, mL N y k = mL M y k
theorem fT_none {M : Mm} (h : mT M = none) : fT M = M := by
  obtain ⟨a1, a2, a3, a4, a5⟩ := M
  have h5 : a5 = none := h
  subst h5
  rfl
theorem kX.of {M : Mm} {x : Nat} {i : Nat → Nat → Int32} (hL : LX10 M.1 M.2.1 x) (hT : mT M = none) (ho : outB i (mI M) x 208) : kX M (wI M i) x := ⟨hL, fun y _ => ⟨rfl, fun _ => rfl⟩, hT, ho, fun _ _ => rfl⟩
/-- a call that returned, one that threw -/
theorem rC.ret {M N : Mm} {a e1 e2 : Nat} {res : Int32 ⊕ Nat} {σ' : Sg} {v : Option Value} (h : rC M a e1 e2 res σ' (.inl v) N) (hL : LX10 M.1 M.2.1 a) (hT : mT M = none) : ∃ w, res = .inl w ∧ v = some (.int w) ∧ kX M N a ∧ CI (mI N) a σ' := by
  obtain ⟨i, h1, h2, h3⟩ := h
  cases res with
  | inl w =>
    obtain ⟨e, rfl⟩ := h3
    cases e
    exact ⟨w, rfl, rfl, kX.of hL hT h2, h1⟩
  | inr k => cases h3.1
theorem rC.thr {M N : Mm} {a e1 e2 : Nat} {res : Int32 ⊕ Nat} {σ' : Sg} {E : String} (h : rC M a e1 e2 res σ' (.inr E) N) (hL : LX10 M.1 M.2.1 a) (hT : mT M = none) : ∃ k, res = .inr k ∧ E = eX (if k = 1 then e1 else e2) ∧ kX M N a ∧ CI (mI N) a σ' := by
  obtain ⟨i, h1, h2, h3⟩ := h
  cases res with
  | inl w => cases h3.1
  | inr k =>
    obtain ⟨e, rfl⟩ := h3
    cases e
    rw [fT_none (show mT (wI M i) = none from hT)]
    exact ⟨k, rfl, rfl, kX.of hL hT h2, h1⟩
/-- what a helper does -/
def rH (M : Mm) (x o : Nat) (f : Int32 → Int64) (res : Int32 ⊕ Nat) (σ' : Sg) : Ot → Mm → Prop := fun ot N => ∃ kk : Int32, ot = .inl (some (.int kk)) ∧ LX10 N.1 N.2.1 x ∧ (∀ y, y < x ∨ x + 208 ≤ y → mS N y = mS M y ∧ ∀ k, mR N y k = mR M y k) ∧ mT N = none ∧ outB (mI N) (mI M) x 208 ∧ CI (mI N) x σ' ∧ ((∃ w, res = .inl w ∧ kk = 0 ∧ mL N o 0 = f w) ∨ ∃ k : Nat, res = .inr k ∧ (k = 1 ∨ k = 2) ∧ kk = nI k)
theorem rH.y {M N : Mm} {x o : Nat} {f : Int32 → Int64} {res : Int32 ⊕ Nat} {σ' : Sg} {w : Int32} {v : Int64} (hr : res = .inl w) (hk : kX M N x) (hC : CI (mI N) x σ') (hv : v = f w) : rH M x o f res σ' (.inl (some (.int 0))) (uL N o 0 v) :=
  ⟨0, rfl, hk.1, hk.2.1, hk.2.2.1, hk.2.2.2.1, hC, Or.inl ⟨w, hr, rfl, by rw [mL_uL, if_pos rfl, if_pos rfl]; exact hv⟩⟩
theorem rH.n {M N : Mm} {x o : Nat} {f : Int32 → Int64} {res : Int32 ⊕ Nat} {σ' : Sg} {k : Nat} (hr : res = .inr k) (h12 : k = 1 ∨ k = 2) (hk : kX M N x) (hC : CI (mI N) x σ') : rH M x o f res σ' (.inl (some (.int (nI k)))) N :=
  ⟨nI k, rfl, hk.1, hk.2.1, hk.2.2.1, hk.2.2.2.1, hC, Or.inr ⟨k, hr, h12, rfl⟩⟩
def fI (w : Int32) : Int64 := w.toInt64
def fB (w : Int32) : Int64 := if w = 0 then 0 else 1
