/-! The flat memory: what each cell is (kind, length), its references, its ints, its longs. Kinds 0 to 11: objects of the class of that number in vwCl; 12 int array, 13 byte array, 14 long array, 15 array of CrossingMail$State. -/
abbrev Mm : Type := (Nat → Option (Nat × Nat)) × (Nat → Nat → Option Nat) × (Nat → Nat → Int32) × (Nat → Nat → Int64) × Option Nat
def mS (M : Mm) (a : Nat) : Option (Nat × Nat) := M.1 a
def mR (M : Mm) (a k : Nat) : Option Nat := M.2.1 a k
def mI (M : Mm) (a k : Nat) : Int32 := M.2.2.1 a k
def mL (M : Mm) (a k : Nat) : Int64 := M.2.2.2.1 a k
/-- where the heap ends, where that is known -/
def mT (M : Mm) : Option Nat := M.2.2.2.2
/-- .. not known any more -/
def fT (M : Mm) : Mm := (M.1, M.2.1, M.2.2.1, M.2.2.2.1, none)
def uI (M : Mm) (a k : Nat) (v : Int32) : Mm := (M.1, M.2.1, fun b j => if b = a then (if j = k then v else M.2.2.1 b j) else M.2.2.1 b j, M.2.2.2)
def uR (M : Mm) (a k : Nat) (v : Option Nat) : Mm := (M.1, fun b j => if b = a then (if j = k then v else M.2.1 b j) else M.2.1 b j, M.2.2.1, M.2.2.2)
def uL (M : Mm) (a k : Nat) (v : Int64) : Mm := (M.1, M.2.1, M.2.2.1, (fun b j => if b = a then (if j = k then v else M.2.2.2.1 b j) else M.2.2.2.1 b j), M.2.2.2.2)
def uA (M : Mm) (a : Nat) (f : Nat → Int32) : Mm := (M.1, M.2.1, fun b j => if b = a then f j else M.2.2.1 b j, M.2.2.2)
/-- a new blank cell -/
def uN (M : Mm) (a : Nat) (x : Nat × Nat) : Mm := (fun b => if b = a then some x else M.1 b, fun b j => if b = a then none else M.2.1 b j, fun b j => if b = a then 0 else M.2.2.1 b j, fun b j => if b = a then 0 else M.2.2.2.1 b j, some (a + 1))
theorem mI_uI (M : Mm) (a k : Nat) (v : Int32) (b j : Nat) : mI (uI M a k v) b j = if b = a then (if j = k then v else mI M b j) else mI M b j := rfl
theorem mS_uI (M : Mm) (a k : Nat) (v : Int32) (b : Nat) : mS (uI M a k v) b = mS M b := rfl
theorem mR_uI (M : Mm) (a k : Nat) (v : Int32) (b j : Nat) : mR (uI M a k v) b j = mR M b j := rfl
theorem mL_uI (M : Mm) (a k : Nat) (v : Int32) (b j : Nat) : mL (uI M a k v) b j = mL M b j := rfl
theorem mI_uR (M : Mm) (a k : Nat) (v : Option Nat) (b j : Nat) : mI (uR M a k v) b j = mI M b j := rfl
theorem mS_uR (M : Mm) (a k : Nat) (v : Option Nat) (b : Nat) : mS (uR M a k v) b = mS M b := rfl
theorem mR_uR (M : Mm) (a k : Nat) (v : Option Nat) (b j : Nat) : mR (uR M a k v) b j = if b = a then (if j = k then v else mR M b j) else mR M b j := rfl
theorem mL_uR (M : Mm) (a k : Nat) (v : Option Nat) (b j : Nat) : mL (uR M a k v) b j = mL M b j := rfl
theorem mI_uL (M : Mm) (a k : Nat) (v : Int64) (b j : Nat) : mI (uL M a k v) b j = mI M b j := rfl
theorem mS_uL (M : Mm) (a k : Nat) (v : Int64) (b : Nat) : mS (uL M a k v) b = mS M b := rfl
theorem mR_uL (M : Mm) (a k : Nat) (v : Int64) (b j : Nat) : mR (uL M a k v) b j = mR M b j := rfl
theorem mL_uL (M : Mm) (a k : Nat) (v : Int64) (b j : Nat) : mL (uL M a k v) b j = if b = a then (if j = k then v else mL M b j) else mL M b j := rfl
theorem mI_uA (M : Mm) (a : Nat) (f : Nat → Int32) (b j : Nat) : mI (uA M a f) b j = if b = a then f j else mI M b j := rfl
theorem mS_uA (M : Mm) (a : Nat) (f : Nat → Int32) (b : Nat) : mS (uA M a f) b = mS M b := rfl
theorem mR_uA (M : Mm) (a : Nat) (f : Nat → Int32) (b j : Nat) : mR (uA M a f) b j = mR M b j := rfl
theorem mL_uA (M : Mm) (a : Nat) (f : Nat → Int32) (b j : Nat) : mL (uA M a f) b j = mL M b j := rfl
theorem mS_uN (M : Mm) (a : Nat) (x : Nat × Nat) (b : Nat) : mS (uN M a x) b = if b = a then some x else mS M b := rfl
theorem mR_uN (M : Mm) (a : Nat) (x : Nat × Nat) (b j : Nat) : mR (uN M a x) b j = if b = a then none else mR M b j := rfl
theorem mI_uN (M : Mm) (a : Nat) (x : Nat × Nat) (b j : Nat) : mI (uN M a x) b j = if b = a then 0 else mI M b j := rfl
theorem mL_uN (M : Mm) (a : Nat) (x : Nat × Nat) (b j : Nat) : mL (uN M a x) b j = if b = a then 0 else mL M b j := rfl
theorem mT_uI (M : Mm) (a k : Nat) (v : Int32) : mT (uI M a k v) = mT M := rfl
theorem mT_uR (M : Mm) (a k : Nat) (v : Option Nat) : mT (uR M a k v) = mT M := rfl
theorem mT_uL (M : Mm) (a k : Nat) (v : Int64) : mT (uL M a k v) = mT M := rfl
theorem mT_uA (M : Mm) (a : Nat) (f : Nat → Int32) : mT (uA M a f) = mT M := rfl
theorem mT_uN (M : Mm) (a : Nat) (x : Nat × Nat) : mT (uN M a x) = some (a + 1) := rfl
theorem mT_fT (M : Mm) : mT (fT M) = none := rfl
theorem mS_fT (M : Mm) (a : Nat) : mS (fT M) a = mS M a := rfl
theorem mR_fT (M : Mm) (a k : Nat) : mR (fT M) a k = mR M a k := rfl
theorem mI_fT (M : Mm) (a k : Nat) : mI (fT M) a k = mI M a k := rfl
theorem mL_fT (M : Mm) (a k : Nat) : mL (fT M) a k = mL M a k := rfl
theorem Mm_ext {M N : Mm} (h1 : ∀ a, mS M a = mS N a) (h2 : ∀ a k, mR M a k = mR N a k) (h3 : ∀ a k, mI M a k = mI N a k) (h4 : ∀ a k, mL M a k = mL N a k) (h5 : mT M = mT N) : M = N := by
  obtain ⟨a1, a2, a3, a4, a5⟩ := M
  obtain ⟨b1, b2, b3, b4, b5⟩ := N
  have e5 : a5 = b5 := h5
  have e1 : a1 = b1 := funext h1
  have e2 : a2 = b2 := funext fun a => funext fun k => h2 a k
  have e3 : a3 = b3 := funext fun a => funext fun k => h3 a k
  have e4 : a4 = b4 := funext fun a => funext fun k => h4 a k
  subst e1; subst e2; subst e3; subst e4; subst e5; rfl
/-- class ids and slots; the array classes by kind; the addresses of the text constants and of their bytes -/
abbrev GG : Type := va_G × (Nat → ClassId) × (Nat → Nat) × (Nat → Nat)
def tabR : List (List Bool) := [[false, false, true], [true, true, true, true], [false, true, true, true, true, true, true, true, true, true, true], [false, true], [false, true, true], [true, true, false, false, true, false, false, false, false], [false, false, true], [false, false, true], [false, false, false, false, true, true, true, true], [false, false, false, true, true, true, true, true], [true, false, false, false, true, true, true, true, true, true, true], [false, true, true, true, false, true, true, false, false, false, false, false, false, false, false, true, true, true, true, true, true, true, true, false]]
def isR (ci k : Nat) : Bool := (tabR.getD ci []).getD k false
def nF (ci : Nat) : Nat := (tabR.getD ci []).length
def fld (ci : Nat) (r : Nat → Option Nat) (i : Nat → Int32) (k : Nat) : Value := if isR ci k then va_rf (r k) else .int (i k)
def flds (ci : Nat) (r : Nat → Option Nat) (i : Nat → Int32) : List Value := (List.range (nF ci)).map (fld ci r i)
def ent (G : GG) (x : Nat × Nat) (r : Nat → Option Nat) (i : Nat → Int32) (l : Nat → Int64) : va_E :=
  if x.1 < 12 then .inr (x.1, flds x.1 r i) else if x.1 = 14 then .inl (G.2.1 14, x.2, .inr (.inl l)) else if x.1 = 15 then .inl (G.2.1 15, x.2, .inr (.inr (.inr (.inr r)))) else .inl (G.2.1 x.1, x.2, .inl i)
def fRep (G : GG) (base : Nat) (M : Mm) (H : Heap) : Prop := (∀ (a : Nat) (x : Nat × Nat), mS M a = some x → base ≤ a ∧ va_at G.1 vwCl (a, ent G x (mR M a) (mI M a) (mL M a)) H) ∧ ∀ t, mT M = some t → H.size = t
abbrev up (base : Nat) : Nat → Prop := fun q => base ≤ q
def tysG (G : GG) : List (ClassId × FieldType) := [(G.2.1 12, .int), (G.2.1 13, .byte), (G.2.1 14, .long), (G.2.1 15, .object "CrossingMail$State")]
/-- the text constants: village, crossing, carrier, route, capacity, letter, insured, 'office ', 'sack ', hand, lost, ' !', ': ' -/
def txN : List String := ["village", "crossing", "carrier", "route", "capacity", "letter", "insured", "office ", "sack ", "hand", "lost", " !", ": "]
def txL : List Nat := txN.map String.length
def txB : List (List Int32) := txN.map fun t => t.toList.map fun c => Int32.ofNat c.toNat
def txR : List (String × Nat × Nat) := [(RX5, 55, 0), (RX5, 65, 1), (RX5, 67, 2), (RX5, 73, 3), (RX5, 81, 4), (RX5, 86, 5), (RX5, 173, 6), (RX10, 318, 7), (RX10, 320, 8), (RX10, 325, 9), (RX10, 327, 10), (RX10, 312, 11), (RX10, 332, 12),
  (RX11, 186, 0), (RX11, 192, 1), (RX11, 194, 2), (RX11, 200, 3), (RX11, 205, 4), (RX11, 207, 5), (RX11, 177, 6), (RX11, 331, 7), (RX11, 337, 8), (RX11, 342, 9), (RX11, 344, 10), (RX11, 346, 11)]
def declM : List MethodName := [⟨"java/lang/RuntimeException", "<init>", "()V"⟩, ⟨"java/lang/RuntimeException", "<init>", "(Ljava/lang/String;)V"⟩, ⟨"java/lang/Exception", "<init>", "()V"⟩, ⟨"java/lang/Exception", "<init>", "(Ljava/lang/String;)V"⟩, ⟨"java/lang/Throwable", "<init>", "()V"⟩, ⟨"java/lang/Throwable", "<init>", "(Ljava/lang/String;)V"⟩]
def castM : List String := ["java/lang/IllegalArgumentException", "java/util/NoSuchElementException", "java/lang/IndexOutOfBoundsException", "java/lang/IllegalStateException"]
theorem warmC {x y : String} {s U : State} (hW : s.WarmedH U.vm) (hZ : va_Nw (.castable x y) s) : va_Nw (.castable x y) U := va_tabs rfl (rfl : (s.setVm U.vm).vm = U.vm) (by rw [Cond.castable_setVm hW.alike]; exact hZ)
/-- what stays below the system's cells: the tables, the throws' statics, the text constants -/
def Amb (G : GG) (base : Nat) (U : State) (H : Heap) : Prop := va_K G.1 vwCl (tysG G) U ∧ base ≤ H.size ∧ vx_Zq Bundle.tN "UNASSIGNED_STACK" Bundle.steD (up base) U H ∧ vx_Zq Bundle.tN "SUPPRESSED_SENTINEL" Bundle.listD (up base) U H ∧
  vk_S 13 txL txB G.2.2.1 G.2.2.2 (up base) U H ∧ (∀ q ∈ txR, vk_R q.1 q.2.1 (txN.getD q.2.2 "") (G.2.2.1 q.2.2) U) ∧ va_Z "java/lang/String" "COMPACT_STRINGS" "Z" (.int 1) (up base) U H ∧ va_Zq "jdk/internal/util/Preconditions" "SIOOBE_FORMATTER" "Ljava/util/function/BiFunction;" (up base) U H ∧ (∀ q ∈ nestW, va_Nw (.methodLinkNest q.1 q.2.1 q.2.2.1 q.2.2.2) U) ∧ (∀ x ∈ declM, va_Nw (.declares x) U) ∧ ∀ x ∈ castM, va_Nw (.castable x x) U
theorem Amb.warm {G : GG} {base : Nat} {s U : State} {H : Heap} {locs : List Loc} (h : Amb G base s s.heap) (hW : s.WarmedH U.vm) (hS : va_S (up base) s.heap H locs) : Amb G base U H := by
  obtain ⟨h1, h2, h3, h4, h5, h6, h7, h8, h9, h10, h11⟩ := h
  have hq : ∀ a : Nat, a < s.heap.size → ¬ up base a → H[a]? = s.heap[a]? := hS.2.1
  exact ⟨va_K.moved hW.alike h1, Nat.le_trans h2 hS.1, (h3.moved hW.alike).kept hq, (h4.moved hW.alike).kept hq, (h5.moved hW.alike).kept hq, fun q m => (h6 q m).warm hW, (h7.moved hW.alike).kept hq, (h8.moved hW.alike).kept hq, fun q m => va_Nw.warmM hW (h9 q m), fun x m => va_Nw.warmD hW (h10 x m), fun x m => warmC hW (h11 x m)⟩
theorem Amb.same {G : GG} {base : Nat} {u U : State} {H : Heap} (h : Amb G base u H) (hv : u.vm = U.vm) : Amb G base U H := by
  obtain ⟨h1, h2, h3, h4, h5, h6, h7, h8, h9, h10, h11⟩ := h
  have ha : u.vm.Alike U.vm := by rw [hv]; exact Vm.Alike.refl _
  exact ⟨va_K.moved ha h1, h2, h3.moved ha, h4.moved ha, h5.moved ha, fun q m => (h6 q m).same hv.symm, h7.moved ha, h8.moved ha, fun q m => va_Nw.same rfl hv (h9 q m), fun x m => va_Nw.same rfl hv (h10 x m), fun x m => va_Nw.same rfl hv (h11 x m)⟩
abbrev Cx : Type := Program × Launch × Env × Room × State × MethodId × Array Value × List Frame × Method × Code × (State → Prop)
/-- the locals, as far as they are known -/
def lcl (ls : Array Slot) (l : List (Option Value)) : Prop := ls.size = l.length ∧ lv_wf ls ∧ ∀ (i : Nat) (v : Value), l[i]? = some (some v) → ls[i]? = some (.val v)
def J (G : GG) (base : Nat) (X : Cx) (cells slots : Nat) (M : Mm) (pc : Nat) (ls : List (Option Value)) (st : List Value) : Prop :=
  match X with
  | (p, l, e, R, s, m, args, below, meth, c, Q) => ∀ (H : Heap) (locs : List Loc) (lsA : Array Slot), fRep G base M H → va_S (up base) s.heap H locs → lcl lsA ls → W p l e R s m args below meth c H locs cells slots Q (F0 m pc lsA st)
abbrev Ot : Type := Option Value ⊕ String
/-- how a method ends: it returns, or throws -/
def qR (G : GG) (base : Nat) (post : Ot → Mm → Prop) : Array Value → State → Outcome → State → Prop := fun _ st oc t => ∃ (v : Option Value) (M' : Mm), oc = .returned v ∧ post (.inl v) M' ∧ fRep G base M' t.heap ∧ va_F (up base) st t
def qX (G : GG) (base : Nat) (post : Ot → Mm → Prop) : String → State → State → Prop := fun E st t => ∃ M' : Mm, post (.inr E) M' ∧ fRep G base M' t.heap ∧ va_F (up base) st t
def rmD (d mc ms : Nat) : Room := { frames := d, cells := mc, slots := ms, locals := 64 * d }
def okX (G : GG) (base : Nat) (X : Cx) (cc : ByteArray) (own : String) (nL : Nat) (ret : Option FieldType) (d mc ms : Nat) (post : Ot → Mm → Prop) : Prop :=
  match X with
  | (p, l, _, R, s, m, args, below, meth, c, Q) => p.tables.exec = Jvm.exec ∧ c.code = cc ∧ c.maxLocals = nL ∧ s.vm.findClass own = some m.cls ∧ (∀ w ∈ WT, w.before args s = true) ∧ Amb G base s s.heap ∧ meth.locks = false ∧ l.stackTraces = false ∧ meth.sig.returnType = ret ∧
    R = rmD d mc ms ∧ Q = vx_MQ below (qR G base post) (qX G base post) args s mc ms (up base) ∧ ∀ x ∈ c.exceptionTable.toList, False
def okN (X : Cx) (nm : String) : Prop := match X with
  | (_, _, _, _, _, _, _, _, meth, _, _) => meth.name = nm
/-- locals as the kit lists them -/
def lpairs : Nat → List (Option Value) → List (Nat × Value)
  | _, [] => []
  | i, none :: t => lpairs (i + 1) t
  | i, some v :: t => (i, v) :: lpairs (i + 1) t
theorem lpairs_mem : ∀ (l : List (Option Value)) (n : Nat) (q : Nat × Value), q ∈ lpairs n l ↔ ∃ i, q.1 = n + i ∧ l[i]? = some (some q.2)
  | [], n, q => by simp [lpairs]
  | none :: t, n, q => by
    simp only [lpairs]
    rw [lpairs_mem t (n + 1) q]
    constructor
    · rintro ⟨i, h1, h2⟩
      exact ⟨i + 1, by omega, by simpa using h2⟩
    · rintro ⟨i, h1, h2⟩
      cases i with
      | zero => simp at h2
      | succ i => exact ⟨i, by omega, by simpa using h2⟩
  | some v :: t, n, q => by
    simp only [lpairs, List.mem_cons]
    rw [lpairs_mem t (n + 1) q]
    constructor
    · rintro (h | ⟨i, h1, h2⟩)
      · exact ⟨0, by rw [h]; rfl, by rw [h]; rfl⟩
      · exact ⟨i + 1, by omega, by simpa using h2⟩
    · rintro ⟨i, h1, h2⟩
      cases i with
      | zero =>
        left
        obtain ⟨a, b⟩ := q
        simp at h1 h2
        rw [h1, h2]
      | succ i => exact Or.inr ⟨i, by omega, by simpa using h2⟩
theorem lcl_has {ls : Array Slot} {l : List (Option Value)} (h : lcl ls l) : lv_has ls l.length (lpairs 0 l) := by
  refine ⟨h.1, h.2.1, fun q hq => ?_⟩
  obtain ⟨i, h1, h2⟩ := (lpairs_mem l 0 q).mp hq
  rw [h1, Nat.zero_add]
  exact h.2.2 i q.2 h2
/-- no listed value of two slots -/
def lc1 (l : List (Option Value)) : Bool := l.all fun o => match o with
  | some v => v.category == 1
  | none => true
theorem lcl_set {ls : Array Slot} {l : List (Option Value)} {i : Nat} {v : Value} (h : lcl ls l) (hi : i < l.length) (hc : v.category = 1) (h1 : lc1 l = true) : ∃ ls', storeLocals ls i v = some ls' ∧ lcl ls' (l.set i (some v)) := by
  obtain ⟨ls', e, h'⟩ := lv_store1 (v := v) (lcl_has h) hi hc
  refine ⟨ls', e, by rw [h'.1]; simp, h'.2.1, fun j w hj => ?_⟩
  by_cases hji : j = i
  · subst hji
    have hw : v = w := by simpa [List.getElem?_set, hi] using hj
    subst hw
    exact h'.2.2 (j, v) List.mem_cons_self
  · rw [List.getElem?_set_ne (Ne.symm hji)] at hj
    refine h'.2.2 (j, w) (List.mem_cons_of_mem _ (List.mem_filter.mpr ⟨(lpairs_mem l 0 _).mpr ⟨j, by simp, hj⟩, ?_⟩))
    have hc2 : w.category = 1 := by
      have := List.all_eq_true.mp h1 (some w) (List.mem_of_getElem? hj)
      simpa using this
    simp [hji, hc2]
section JR
variable {G : GG} {base : Nat} {X : Cx} {cc : ByteArray} {own : String} {nL : Nat} {ret : Option FieldType} {d mc ms : Nat} {post : Ot → Mm → Prop} {cs sl : Nat} {M : Mm} {pc : Nat} {ls : List (Option Value)} {st : List Value}
theorem J.widen {k n : Nat} (h1 : cs ≤ k) (h2 : sl ≤ n) (kk : J G base X k n M pc ls st) : J G base X cs sl M pc ls st := by
  obtain ⟨p, l, e, R, s, m, args, below, meth, c, Q⟩ := X
  intro H locs lsA hM hS hl
  exact W.widen h1 h2 (kk H locs lsA hM hS hl)
/-- less is known of the locals -/
theorem J.less {ls' : List (Option Value)} (h : ls'.length = ls.length) (hs : ∀ (i : Nat) (v : Value), ls'[i]? = some (some v) → ls[i]? = some (some v)) (k : J G base X cs sl M pc ls' st) : J G base X cs sl M pc ls st := by
  obtain ⟨p, l, e, R, s, m, args, below, meth, c, Q⟩ := X
  intro H locs lsA hM hS hl
  exact k H locs lsA hM hS ⟨hl.1.trans h.symm, hl.2.1, fun i v q => hl.2.2 i v (hs i v q)⟩
theorem r_iconst (hX : okX G base X cc own nL ret d mc ms post) {n : Int} {v : Int32} (hd : decode cc pc = .ok (.iconst n, 1)) (hv : Int32.ofInt n = v := by rfl) (k : J G base X cs sl M (pc + 1) ls (.int v :: st)) : J G base X cs sl M pc ls (st) := by
  obtain ⟨p, l, e, R, s, m, args, below, meth, c, Q⟩ := X
  obtain ⟨hx, hb, hml, hown, hts, hamb, hlk, hst, hr, hR, hQ, hout⟩ := hX
  intro H locs lsA hM hS hl
  exact lv_iconst hx hb hd hv (k H locs lsA hM hS hl)
theorem r_bipush (hX : okX G base X cc own nL ret d mc ms post) {n : Int} {v : Int32} (hd : decode cc pc = .ok (.bipush n, 2)) (hv : (Int8.ofInt n).toInt32 = v := by rfl) (k : J G base X cs sl M (pc + 2) ls (.int v :: st)) : J G base X cs sl M pc ls (st) := by
  obtain ⟨p, l, e, R, s, m, args, below, meth, c, Q⟩ := X
  obtain ⟨hx, hb, hml, hown, hts, hamb, hlk, hst, hr, hR, hQ, hout⟩ := hX
  intro H locs lsA hM hS hl
  exact lv_bipush hx hb hd hv (k H locs lsA hM hS hl)
theorem r_sipush (hX : okX G base X cc own nL ret d mc ms post) {n : Int} {v : Int32} (hd : decode cc pc = .ok (.sipush n, 3)) (hv : (Int16.ofInt n).toInt32 = v := by rfl) (k : J G base X cs sl M (pc + 3) ls (.int v :: st)) : J G base X cs sl M pc ls (st) := by
  obtain ⟨p, l, e, R, s, m, args, below, meth, c, Q⟩ := X
  obtain ⟨hx, hb, hml, hown, hts, hamb, hlk, hst, hr, hR, hQ, hout⟩ := hX
  intro H locs lsA hM hS hl
  exact lv_sipush hx hb hd hv (k H locs lsA hM hS hl)
theorem r_iload_n (hX : okX G base X cc own nL ret d mc ms post) {k : Fin 4} {x : Int32} (hd : decode cc pc = .ok (.iload_n k, 1)) (h : ls[(k : Nat)]? = some (some (.int x)) := by rfl) (k : J G base X cs sl M (pc + 1) ls (.int x :: st)) : J G base X cs sl M pc ls (st) := by
  obtain ⟨p, l, e, R, s, m, args, below, meth, c, Q⟩ := X
  obtain ⟨hx, hb, hml, hown, hts, hamb, hlk, hst, hr, hR, hQ, hout⟩ := hX
  intro H locs lsA hM hS hl
  exact lv_iload_n hx hb hd rfl (hl.2.2 _ _ h) (k H locs lsA hM hS hl)
theorem r_iload (hX : okX G base X cc own nL ret d mc ms post) {i : Nat} {x : Int32} (hd : decode cc pc = .ok (.iload i, 2)) (h : ls[i]? = some (some (.int x)) := by rfl) (k : J G base X cs sl M (pc + 2) ls (.int x :: st)) : J G base X cs sl M pc ls (st) := by
  obtain ⟨p, l, e, R, s, m, args, below, meth, c, Q⟩ := X
  obtain ⟨hx, hb, hml, hown, hts, hamb, hlk, hst, hr, hR, hQ, hout⟩ := hX
  intro H locs lsA hM hS hl
  exact lv_iload hx hb hd (hl.2.2 _ _ h) (k H locs lsA hM hS hl)
theorem r_aload_n (hX : okX G base X cc own nL ret d mc ms post) {k : Fin 4} {x : Nat} (hd : decode cc pc = .ok (.aload_n k, 1)) (h : ls[(k : Nat)]? = some (some (.ref x)) := by rfl) (k : J G base X cs sl M (pc + 1) ls (.ref x :: st)) : J G base X cs sl M pc ls (st) := by
  obtain ⟨p, l, e, R, s, m, args, below, meth, c, Q⟩ := X
  obtain ⟨hx, hb, hml, hown, hts, hamb, hlk, hst, hr, hR, hQ, hout⟩ := hX
  intro H locs lsA hM hS hl
  exact lv_aload_n hx hb hd rfl (hl.2.2 _ _ h) (k H locs lsA hM hS hl)
theorem r_aload (hX : okX G base X cc own nL ret d mc ms post) {i : Nat} {x : Nat} (hd : decode cc pc = .ok (.aload i, 2)) (h : ls[i]? = some (some (.ref x)) := by rfl) (k : J G base X cs sl M (pc + 2) ls (.ref x :: st)) : J G base X cs sl M pc ls (st) := by
  obtain ⟨p, l, e, R, s, m, args, below, meth, c, Q⟩ := X
  obtain ⟨hx, hb, hml, hown, hts, hamb, hlk, hst, hr, hR, hQ, hout⟩ := hX
  intro H locs lsA hM hS hl
  exact lv_aload hx hb hd (hl.2.2 _ _ h) (k H locs lsA hM hS hl)
theorem r_dup (hX : okX G base X cc own nL ret d mc ms post) {va : Value} (hd : decode cc pc = .ok (.dup, 1)) (hva : va.category = 1 := by rfl) (k : J G base X cs sl M (pc + 1) ls (va :: va :: st)) : J G base X cs sl M pc ls (va :: st) := by
  obtain ⟨p, l, e, R, s, m, args, below, meth, c, Q⟩ := X
  obtain ⟨hx, hb, hml, hown, hts, hamb, hlk, hst, hr, hR, hQ, hout⟩ := hX
  intro H locs lsA hM hS hl
  exact lv_dup hx hb hd hva (k H locs lsA hM hS hl)
theorem r_pop (hX : okX G base X cc own nL ret d mc ms post) {va : Value} (hd : decode cc pc = .ok (.pop, 1)) (hva : va.category = 1 := by rfl) (k : J G base X cs sl M (pc + 1) ls (st)) : J G base X cs sl M pc ls (va :: st) := by
  obtain ⟨p, l, e, R, s, m, args, below, meth, c, Q⟩ := X
  obtain ⟨hx, hb, hml, hown, hts, hamb, hlk, hst, hr, hR, hQ, hout⟩ := hX
  intro H locs lsA hM hS hl
  exact lv_pop hx hb hd hva (k H locs lsA hM hS hl)
theorem r_iadd (hX : okX G base X cc own nL ret d mc ms post) {x y : Int32} (hd : decode cc pc = .ok (.iadd, 1)) (k : J G base X cs sl M (pc + 1) ls (.int (x + y) :: st)) : J G base X cs sl M pc ls (.int y :: .int x :: st) := by
  obtain ⟨p, l, e, R, s, m, args, below, meth, c, Q⟩ := X
  obtain ⟨hx, hb, hml, hown, hts, hamb, hlk, hst, hr, hR, hQ, hout⟩ := hX
  intro H locs lsA hM hS hl
  exact lv_iadd hx hb hd (k H locs lsA hM hS hl)
theorem r_isub (hX : okX G base X cc own nL ret d mc ms post) {x y : Int32} (hd : decode cc pc = .ok (.isub, 1)) (k : J G base X cs sl M (pc + 1) ls (.int (x - y) :: st)) : J G base X cs sl M pc ls (.int y :: .int x :: st) := by
  obtain ⟨p, l, e, R, s, m, args, below, meth, c, Q⟩ := X
  obtain ⟨hx, hb, hml, hown, hts, hamb, hlk, hst, hr, hR, hQ, hout⟩ := hX
  intro H locs lsA hM hS hl
  exact lv_isub hx hb hd (k H locs lsA hM hS hl)
theorem r_imul (hX : okX G base X cc own nL ret d mc ms post) {x y : Int32} (hd : decode cc pc = .ok (.imul, 1)) (k : J G base X cs sl M (pc + 1) ls (.int (x * y) :: st)) : J G base X cs sl M pc ls (.int y :: .int x :: st) := by
  obtain ⟨p, l, e, R, s, m, args, below, meth, c, Q⟩ := X
  obtain ⟨hx, hb, hml, hown, hts, hamb, hlk, hst, hr, hR, hQ, hout⟩ := hX
  intro H locs lsA hM hS hl
  exact lv_imul hx hb hd (k H locs lsA hM hS hl)
theorem r_iand (hX : okX G base X cc own nL ret d mc ms post) {x y : Int32} (hd : decode cc pc = .ok (.iand, 1)) (k : J G base X cs sl M (pc + 1) ls (.int (x &&& y) :: st)) : J G base X cs sl M pc ls (.int y :: .int x :: st) := by
  obtain ⟨p, l, e, R, s, m, args, below, meth, c, Q⟩ := X
  obtain ⟨hx, hb, hml, hown, hts, hamb, hlk, hst, hr, hR, hQ, hout⟩ := hX
  intro H locs lsA hM hS hl
  exact lv_iand hx hb hd (k H locs lsA hM hS hl)
theorem r_ior (hX : okX G base X cc own nL ret d mc ms post) {x y : Int32} (hd : decode cc pc = .ok (.ior, 1)) (k : J G base X cs sl M (pc + 1) ls (.int (x ||| y) :: st)) : J G base X cs sl M pc ls (.int y :: .int x :: st) := by
  obtain ⟨p, l, e, R, s, m, args, below, meth, c, Q⟩ := X
  obtain ⟨hx, hb, hml, hown, hts, hamb, hlk, hst, hr, hR, hQ, hout⟩ := hX
  intro H locs lsA hM hS hl
  exact lv_ior hx hb hd (k H locs lsA hM hS hl)
theorem r_ixor (hX : okX G base X cc own nL ret d mc ms post) {x y : Int32} (hd : decode cc pc = .ok (.ixor, 1)) (k : J G base X cs sl M (pc + 1) ls (.int (x ^^^ y) :: st)) : J G base X cs sl M pc ls (.int y :: .int x :: st) := by
  obtain ⟨p, l, e, R, s, m, args, below, meth, c, Q⟩ := X
  obtain ⟨hx, hb, hml, hown, hts, hamb, hlk, hst, hr, hR, hQ, hout⟩ := hX
  intro H locs lsA hM hS hl
  exact lv_ixor hx hb hd (k H locs lsA hM hS hl)
theorem r_ishl (hX : okX G base X cc own nL ret d mc ms post) {x y : Int32} (hd : decode cc pc = .ok (.ishl, 1)) (k : J G base X cs sl M (pc + 1) ls (.int (x <<< (y &&& 31)) :: st)) : J G base X cs sl M pc ls (.int y :: .int x :: st) := by
  obtain ⟨p, l, e, R, s, m, args, below, meth, c, Q⟩ := X
  obtain ⟨hx, hb, hml, hown, hts, hamb, hlk, hst, hr, hR, hQ, hout⟩ := hX
  intro H locs lsA hM hS hl
  exact lv_ishl hx hb hd (k H locs lsA hM hS hl)
theorem r_ishr (hX : okX G base X cc own nL ret d mc ms post) {x y : Int32} (hd : decode cc pc = .ok (.ishr, 1)) (k : J G base X cs sl M (pc + 1) ls (.int (x >>> (y &&& 31)) :: st)) : J G base X cs sl M pc ls (.int y :: .int x :: st) := by
  obtain ⟨p, l, e, R, s, m, args, below, meth, c, Q⟩ := X
  obtain ⟨hx, hb, hml, hown, hts, hamb, hlk, hst, hr, hR, hQ, hout⟩ := hX
  intro H locs lsA hM hS hl
  exact lv_ishr hx hb hd (k H locs lsA hM hS hl)
theorem r_idiv (hX : okX G base X cc own nL ret d mc ms post) {x y : Int32} (hd : decode cc pc = .ok (.idiv, 1)) (hne : ¬ y = 0) (k : J G base X cs sl M (pc + 1) ls (.int (x / y) :: st)) : J G base X cs sl M pc ls (.int y :: .int x :: st) := by
  obtain ⟨p, l, e, R, s, m, args, below, meth, c, Q⟩ := X
  obtain ⟨hx, hb, hml, hown, hts, hamb, hlk, hst, hr, hR, hQ, hout⟩ := hX
  intro H locs lsA hM hS hl
  exact lv_idiv hx hb hd hne (k H locs lsA hM hS hl)
theorem r_irem (hX : okX G base X cc own nL ret d mc ms post) {x y : Int32} (hd : decode cc pc = .ok (.irem, 1)) (hne : ¬ y = 0) (k : J G base X cs sl M (pc + 1) ls (.int (x - x / y * y) :: st)) : J G base X cs sl M pc ls (.int y :: .int x :: st) := by
  obtain ⟨p, l, e, R, s, m, args, below, meth, c, Q⟩ := X
  obtain ⟨hx, hb, hml, hown, hts, hamb, hlk, hst, hr, hR, hQ, hout⟩ := hX
  intro H locs lsA hM hS hl
  exact lv_irem hx hb hd hne (k H locs lsA hM hS hl)
theorem r_iushr (hX : okX G base X cc own nL ret d mc ms post) {x y : Int32} (hd : decode cc pc = .ok (.iushr, 1)) (k : J G base X cs sl M (pc + 1) ls (.int ((x.toUInt32 >>> (y.toUInt32 &&& Int32.toUInt32 31)).toInt32) :: st)) : J G base X cs sl M pc ls (.int y :: .int x :: st) := by
  obtain ⟨p, l, e, R, s, m, args, below, meth, c, Q⟩ := X
  obtain ⟨hx, hb, hml, hown, hts, hamb, hlk, hst, hr, hR, hQ, hout⟩ := hX
  intro H locs lsA hM hS hl
  exact lv_iushr hx hb hd rfl (k H locs lsA hM hS hl)
theorem r_i2b (hX : okX G base X cc own nL ret d mc ms post) {x : Int32} (hd : decode cc pc = .ok (.i2b, 1)) (k : J G base X cs sl M (pc + 1) ls (.int (x.toInt8.toInt32) :: st)) : J G base X cs sl M pc ls (.int x :: st) := by
  obtain ⟨p, l, e, R, s, m, args, below, meth, c, Q⟩ := X
  obtain ⟨hx, hb, hml, hown, hts, hamb, hlk, hst, hr, hR, hQ, hout⟩ := hX
  intro H locs lsA hM hS hl
  exact lv_i2b hx hb hd rfl (k H locs lsA hM hS hl)
theorem r_i2c (hX : okX G base X cc own nL ret d mc ms post) {x : Int32} (hd : decode cc pc = .ok (.i2c, 1)) (k : J G base X cs sl M (pc + 1) ls (.int ((x.toUInt32 % 65536).toInt32) :: st)) : J G base X cs sl M pc ls (.int x :: st) := by
  obtain ⟨p, l, e, R, s, m, args, below, meth, c, Q⟩ := X
  obtain ⟨hx, hb, hml, hown, hts, hamb, hlk, hst, hr, hR, hQ, hout⟩ := hX
  intro H locs lsA hM hS hl
  exact lv_i2c hx hb hd rfl (k H locs lsA hM hS hl)
theorem r_i2l (hX : okX G base X cc own nL ret d mc ms post) {x : Int32} (hd : decode cc pc = .ok (.i2l, 1)) (k : J G base X cs sl M (pc + 1) ls (.long x.toInt64 :: st)) : J G base X cs sl M pc ls (.int x :: st) := by
  obtain ⟨p, l, e, R, s, m, args, below, meth, c, Q⟩ := X
  obtain ⟨hx, hb, hml, hown, hts, hamb, hlk, hst, hr, hR, hQ, hout⟩ := hX
  intro H locs lsA hM hS hl
  exact lv_i2l hx hb hd rfl (k H locs lsA hM hS hl)
theorem r_i2d (hX : okX G base X cc own nL ret d mc ms post) {x : Int32} (hd : decode cc pc = .ok (.i2d, 1)) (k : J G base X cs sl M (pc + 1) ls (.double (FP.i2d x) :: st)) : J G base X cs sl M pc ls (.int x :: st) := by
  obtain ⟨p, l, e, R, s, m, args, below, meth, c, Q⟩ := X
  obtain ⟨hx, hb, hml, hown, hts, hamb, hlk, hst, hr, hR, hQ, hout⟩ := hX
  intro H locs lsA hM hS hl
  exact lv_i2d hx hb hd (k H locs lsA hM hS hl)
theorem r_dcmp (hX : okX G base X cc own nL ret d mc ms post) {x y : UInt64} {op : CmpOp} (hd : decode cc pc = .ok (.dcmp op, 1)) (k : J G base X cs sl M (pc + 1) ls (.int (Op.cmpValue (FP.dcmp x y) op) :: st)) : J G base X cs sl M pc ls (.double y :: .double x :: st) := by
  obtain ⟨p, l, e, R, s, m, args, below, meth, c, Q⟩ := X
  obtain ⟨hx, hb, hml, hown, hts, hamb, hlk, hst, hr, hR, hQ, hout⟩ := hX
  intro H locs lsA hM hS hl
  exact lv_dcmp hx hb hd (k H locs lsA hM hS hl)
theorem r_ddiv (hX : okX G base X cc own nL ret d mc ms post) {x y : UInt64} (hd : decode cc pc = .ok (.ddiv, 1)) (hne : vf_n64 (FP.ddiv x y)) (k : J G base X cs sl M (pc + 1) ls (.double (FP.ddiv x y) :: st)) : J G base X cs sl M pc ls (.double y :: .double x :: st) := by
  obtain ⟨p, l, e, R, s, m, args, below, meth, c, Q⟩ := X
  obtain ⟨hx, hb, hml, hown, hts, hamb, hlk, hst, hr, hR, hQ, hout⟩ := hX
  intro H locs lsA hM hS hl
  exact lv_ddiv hx hb hd hne (k H locs lsA hM hS hl)
theorem r_goto (hX : okX G base X cc own nL ret d mc ms post) {off : Int} {tgt : Nat} (hd : decode cc pc = .ok (.goto off, 3)) (ht : (pc : Int) + off = (tgt : Int)) (k : J G base X cs sl M tgt ls st) : J G base X cs sl M pc ls st := by
  obtain ⟨p, l, e, R, s, m, args, below, meth, c, Q⟩ := X
  obtain ⟨hx, hb, hml, hown, hts, hamb, hlk, hst, hr, hR, hQ, hout⟩ := hX
  intro H locs lsA hM hS hl
  exact lv_goto hx hb hd ht (k H locs lsA hM hS hl)
theorem r_if_eq (hX : okX G base X cc own nL ret d mc ms post) {x : Int32} {off : Int} {tgt : Nat} (hd : decode cc pc = .ok (.ifCond .eq off, 3)) (ht : (pc : Int) + off = (tgt : Int)) (kt : (x = 0) → J G base X cs sl M tgt ls st) (kf : ¬ (x = 0) → J G base X cs sl M (pc + 3) ls st) : J G base X cs sl M pc ls (.int x :: st) := by
  obtain ⟨p, l, e, R, s, m, args, below, meth, c, Q⟩ := X
  obtain ⟨hx, hb, hml, hown, hts, hamb, hlk, hst, hr, hR, hQ, hout⟩ := hX
  intro H locs lsA hM hS hl
  exact lv_if_eq hx hb hd ht (fun q => kt q H locs lsA hM hS hl) (fun q => kf q H locs lsA hM hS hl)
theorem r_if_ne (hX : okX G base X cc own nL ret d mc ms post) {x : Int32} {off : Int} {tgt : Nat} (hd : decode cc pc = .ok (.ifCond .ne off, 3)) (ht : (pc : Int) + off = (tgt : Int)) (kt : (¬ x = 0) → J G base X cs sl M tgt ls st) (kf : x = 0 → J G base X cs sl M (pc + 3) ls st) : J G base X cs sl M pc ls (.int x :: st) := by
  obtain ⟨p, l, e, R, s, m, args, below, meth, c, Q⟩ := X
  obtain ⟨hx, hb, hml, hown, hts, hamb, hlk, hst, hr, hR, hQ, hout⟩ := hX
  intro H locs lsA hM hS hl
  exact lv_if_ne hx hb hd ht (fun q => kt q H locs lsA hM hS hl) (fun q => kf q H locs lsA hM hS hl)
theorem r_if_lt (hX : okX G base X cc own nL ret d mc ms post) {x : Int32} {off : Int} {tgt : Nat} (hd : decode cc pc = .ok (.ifCond .lt off, 3)) (ht : (pc : Int) + off = (tgt : Int)) (kt : (x < 0) → J G base X cs sl M tgt ls st) (kf : ¬ (x < 0) → J G base X cs sl M (pc + 3) ls st) : J G base X cs sl M pc ls (.int x :: st) := by
  obtain ⟨p, l, e, R, s, m, args, below, meth, c, Q⟩ := X
  obtain ⟨hx, hb, hml, hown, hts, hamb, hlk, hst, hr, hR, hQ, hout⟩ := hX
  intro H locs lsA hM hS hl
  exact lv_if_lt hx hb hd ht (fun q => kt q H locs lsA hM hS hl) (fun q => kf q H locs lsA hM hS hl)
theorem r_if_ge (hX : okX G base X cc own nL ret d mc ms post) {x : Int32} {off : Int} {tgt : Nat} (hd : decode cc pc = .ok (.ifCond .ge off, 3)) (ht : (pc : Int) + off = (tgt : Int)) (kt : (0 ≤ x) → J G base X cs sl M tgt ls st) (kf : ¬ (0 ≤ x) → J G base X cs sl M (pc + 3) ls st) : J G base X cs sl M pc ls (.int x :: st) := by
  obtain ⟨p, l, e, R, s, m, args, below, meth, c, Q⟩ := X
  obtain ⟨hx, hb, hml, hown, hts, hamb, hlk, hst, hr, hR, hQ, hout⟩ := hX
  intro H locs lsA hM hS hl
  exact lv_if_ge hx hb hd ht (fun q => kt q H locs lsA hM hS hl) (fun q => kf q H locs lsA hM hS hl)
theorem r_if_gt (hX : okX G base X cc own nL ret d mc ms post) {x : Int32} {off : Int} {tgt : Nat} (hd : decode cc pc = .ok (.ifCond .gt off, 3)) (ht : (pc : Int) + off = (tgt : Int)) (kt : (0 < x) → J G base X cs sl M tgt ls st) (kf : ¬ (0 < x) → J G base X cs sl M (pc + 3) ls st) : J G base X cs sl M pc ls (.int x :: st) := by
  obtain ⟨p, l, e, R, s, m, args, below, meth, c, Q⟩ := X
  obtain ⟨hx, hb, hml, hown, hts, hamb, hlk, hst, hr, hR, hQ, hout⟩ := hX
  intro H locs lsA hM hS hl
  exact lv_if_gt hx hb hd ht (fun q => kt q H locs lsA hM hS hl) (fun q => kf q H locs lsA hM hS hl)
theorem r_if_le (hX : okX G base X cc own nL ret d mc ms post) {x : Int32} {off : Int} {tgt : Nat} (hd : decode cc pc = .ok (.ifCond .le off, 3)) (ht : (pc : Int) + off = (tgt : Int)) (kt : (x ≤ 0) → J G base X cs sl M tgt ls st) (kf : ¬ (x ≤ 0) → J G base X cs sl M (pc + 3) ls st) : J G base X cs sl M pc ls (.int x :: st) := by
  obtain ⟨p, l, e, R, s, m, args, below, meth, c, Q⟩ := X
  obtain ⟨hx, hb, hml, hown, hts, hamb, hlk, hst, hr, hR, hQ, hout⟩ := hX
  intro H locs lsA hM hS hl
  exact lv_if_le hx hb hd ht (fun q => kt q H locs lsA hM hS hl) (fun q => kf q H locs lsA hM hS hl)
theorem r_icmp_eq (hX : okX G base X cc own nL ret d mc ms post) {x y : Int32} {off : Int} {tgt : Nat} (hd : decode cc pc = .ok (.if_icmp .eq off, 3)) (ht : (pc : Int) + off = (tgt : Int)) (kt : (x = y) → J G base X cs sl M tgt ls st) (kf : ¬ (x = y) → J G base X cs sl M (pc + 3) ls st) : J G base X cs sl M pc ls (.int y :: .int x :: st) := by
  obtain ⟨p, l, e, R, s, m, args, below, meth, c, Q⟩ := X
  obtain ⟨hx, hb, hml, hown, hts, hamb, hlk, hst, hr, hR, hQ, hout⟩ := hX
  intro H locs lsA hM hS hl
  exact lv_icmp_eq hx hb hd ht (fun q => kt q H locs lsA hM hS hl) (fun q => kf q H locs lsA hM hS hl)
theorem r_icmp_ne (hX : okX G base X cc own nL ret d mc ms post) {x y : Int32} {off : Int} {tgt : Nat} (hd : decode cc pc = .ok (.if_icmp .ne off, 3)) (ht : (pc : Int) + off = (tgt : Int)) (kt : (¬ x = y) → J G base X cs sl M tgt ls st) (kf : x = y → J G base X cs sl M (pc + 3) ls st) : J G base X cs sl M pc ls (.int y :: .int x :: st) := by
  obtain ⟨p, l, e, R, s, m, args, below, meth, c, Q⟩ := X
  obtain ⟨hx, hb, hml, hown, hts, hamb, hlk, hst, hr, hR, hQ, hout⟩ := hX
  intro H locs lsA hM hS hl
  exact lv_icmp_ne hx hb hd ht (fun q => kt q H locs lsA hM hS hl) (fun q => kf q H locs lsA hM hS hl)
theorem r_icmp_lt (hX : okX G base X cc own nL ret d mc ms post) {x y : Int32} {off : Int} {tgt : Nat} (hd : decode cc pc = .ok (.if_icmp .lt off, 3)) (ht : (pc : Int) + off = (tgt : Int)) (kt : (x < y) → J G base X cs sl M tgt ls st) (kf : ¬ (x < y) → J G base X cs sl M (pc + 3) ls st) : J G base X cs sl M pc ls (.int y :: .int x :: st) := by
  obtain ⟨p, l, e, R, s, m, args, below, meth, c, Q⟩ := X
  obtain ⟨hx, hb, hml, hown, hts, hamb, hlk, hst, hr, hR, hQ, hout⟩ := hX
  intro H locs lsA hM hS hl
  exact lv_icmp_lt hx hb hd ht (fun q => kt q H locs lsA hM hS hl) (fun q => kf q H locs lsA hM hS hl)
theorem r_icmp_ge (hX : okX G base X cc own nL ret d mc ms post) {x y : Int32} {off : Int} {tgt : Nat} (hd : decode cc pc = .ok (.if_icmp .ge off, 3)) (ht : (pc : Int) + off = (tgt : Int)) (kt : (y ≤ x) → J G base X cs sl M tgt ls st) (kf : ¬ (y ≤ x) → J G base X cs sl M (pc + 3) ls st) : J G base X cs sl M pc ls (.int y :: .int x :: st) := by
  obtain ⟨p, l, e, R, s, m, args, below, meth, c, Q⟩ := X
  obtain ⟨hx, hb, hml, hown, hts, hamb, hlk, hst, hr, hR, hQ, hout⟩ := hX
  intro H locs lsA hM hS hl
  exact lv_icmp_ge hx hb hd ht (fun q => kt q H locs lsA hM hS hl) (fun q => kf q H locs lsA hM hS hl)
theorem r_icmp_gt (hX : okX G base X cc own nL ret d mc ms post) {x y : Int32} {off : Int} {tgt : Nat} (hd : decode cc pc = .ok (.if_icmp .gt off, 3)) (ht : (pc : Int) + off = (tgt : Int)) (kt : (y < x) → J G base X cs sl M tgt ls st) (kf : ¬ (y < x) → J G base X cs sl M (pc + 3) ls st) : J G base X cs sl M pc ls (.int y :: .int x :: st) := by
  obtain ⟨p, l, e, R, s, m, args, below, meth, c, Q⟩ := X
  obtain ⟨hx, hb, hml, hown, hts, hamb, hlk, hst, hr, hR, hQ, hout⟩ := hX
  intro H locs lsA hM hS hl
  exact lv_icmp_gt hx hb hd ht (fun q => kt q H locs lsA hM hS hl) (fun q => kf q H locs lsA hM hS hl)
theorem r_icmp_le (hX : okX G base X cc own nL ret d mc ms post) {x y : Int32} {off : Int} {tgt : Nat} (hd : decode cc pc = .ok (.if_icmp .le off, 3)) (ht : (pc : Int) + off = (tgt : Int)) (kt : (x ≤ y) → J G base X cs sl M tgt ls st) (kf : ¬ (x ≤ y) → J G base X cs sl M (pc + 3) ls st) : J G base X cs sl M pc ls (.int y :: .int x :: st) := by
  obtain ⟨p, l, e, R, s, m, args, below, meth, c, Q⟩ := X
  obtain ⟨hx, hb, hml, hown, hts, hamb, hlk, hst, hr, hR, hQ, hout⟩ := hX
  intro H locs lsA hM hS hl
  exact lv_icmp_le hx hb hd ht (fun q => kt q H locs lsA hM hS hl) (fun q => kf q H locs lsA hM hS hl)
end JR
