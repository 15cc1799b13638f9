variable {G : GG} {base : Nat}
/-! ===== THE PUBLIC CALLS: the state, and what each answers ===== -/
/-- row, past rows, how many, bytes, how many, the row of stops read, error, kind, text, length -/
abbrev Sg : Type := (Nat → Int32) × (Nat → Int32) × Nat × (Nat → Nat) × Nat × (Nat → Int32) × Int32 × Int32 × (Nat → Nat) × Nat
/-- a byte as the machine has it -/
def sbI (x : Nat) : Int32 := if x < 128 then nI x else nI x - 256
/-- the reference at a is in the state σ -/
def RI (i : Nat → Nat → Int32) (a : Nat) (σ : Sg) : Prop :=
  i (a + 1) = σ.1 ∧ i (a + 3) = σ.2.1 ∧ (i a 4 = nI σ.2.2.1 ∧ σ.2.2.1 ≤ 8) ∧ (∀ k, k < σ.2.2.2.2.1 → σ.2.2.2.1 k < 256 ∧ i (a + 4) k = sbI (σ.2.2.2.1 k)) ∧ (i a 7 = nI σ.2.2.2.2.1 ∧ σ.2.2.2.2.1 ≤ 900) ∧
  i (a + 6) = σ.2.2.2.2.2.1 ∧ i a 13 = σ.2.2.2.2.2.2.1 ∧ i a 14 = σ.2.2.2.2.2.2.2.1 ∧ (∀ k, k < σ.2.2.2.2.2.2.2.2.2 → σ.2.2.2.2.2.2.2.2.1 k < 128 ∧ i (a + 13) k = nI (σ.2.2.2.2.2.2.2.2.1 k)) ∧ i a 23 = nI σ.2.2.2.2.2.2.2.2.2 ∧ σ.2.2.2.2.2.2.2.2.2 ≤ 150
/-- what of it the state stands in -/
def kpR (i' i : Nat → Nat → Int32) (a : Nat) : Prop := (∀ x, x = a + 1 ∨ x = a + 3 ∨ x = a + 4 ∨ x = a + 6 ∨ x = a + 13 → i' x = i x) ∧ ∀ k, k = 4 ∨ k = 7 ∨ k = 13 ∨ k = 14 ∨ k = 23 → i' a k = i a k
theorem RI.kp {i' i : Nat → Nat → Int32} {a : Nat} {σ : Sg} (h : RI i a σ) (k : kpR i' i a) : RI i' a σ := by
  obtain ⟨h1, h2, h3, h4, h5, h6, h7, h8, h9, h10⟩ := h
  refine ⟨(k.1 _ (by simp)).trans h1, (k.1 _ (by simp)).trans h2, ⟨(k.2 4 (by simp)).trans h3.1, h3.2⟩, fun j hj => ⟨(h4 j hj).1, (congrFun (k.1 _ (by simp)) j).trans (h4 j hj).2⟩, ⟨(k.2 7 (by simp)).trans h5.1, h5.2⟩, (k.1 _ (by simp)).trans h6, (k.2 13 (by simp)).trans h7, (k.2 14 (by simp)).trans h8, fun j hj => ⟨(h9 j hj).1, (congrFun (k.1 _ (by simp)) j).trans (h9 j hj).2⟩, (k.2 23 (by simp)).trans h10.1, h10.2⟩
theorem kpR.thr {M : Mm} {a : Nat} {t : Int32} : kpR (mI (uI M a 0 t)) (mI M) a := ⟨fun x hx => uIo (by omega), fun k hk => by simp only [mI_uI, if_true]; rw [if_neg (by omega)]⟩
theorem kpR.tr {i j k : Nat → Nat → Int32} {a : Nat} (h : kpR i j a) (h2 : kpR j k a) : kpR i k a := ⟨fun x hx => (h.1 x hx).trans (h2.1 x hx), fun q hq => (h.2 q hq).trans (h2.2 q hq)⟩
theorem kpR.rf {i : Nat → Nat → Int32} {a : Nat} : kpR i i a := ⟨fun _ _ => rfl, fun _ _ => rfl⟩
/-- only cells of no account have changed -/
theorem kpR.of {i j : Nat → Nat → Int32} {a : Nat} (h : ∀ x, x ≠ a + 7 ∧ x ≠ a + 8 ∧ x ≠ a + 9 ∧ x ≠ a + 10 ∧ x ≠ a + 11 ∧ x ≠ a + 12 → i x = j x) : kpR i j a := ⟨fun x hx => h x (by omega), fun k _ => congrFun (h a (by omega)) k⟩
/-- an answer, or which exception -/
def oK : Int32 ⊕ Nat → Int32 → Int32 → Prop
  | .inl w, v, t => v = w ∧ t = 0
  | .inr k, _, t => t = nI k
/-- what a call of the reference does -/
def pQ (M : Mm) (a : Nat) (res : Int32 ⊕ Nat) (σ : Sg) : Int32 → (Nat → Nat → Int32) → Prop := fun v i => RI i a σ ∧ oK res v (i a 0) ∧ outB i (mI M) a 14
/-- an index out of m -/
def ix (m : Nat) (x : Int32) : Option Nat := if 0 ≤ x ∧ x.toNatClampNeg < m then some x.toNatClampNeg else none
theorem ix_of {m c : Nat} (hc : c < m) (hm : m < 2147483648) : ix m (nI c) = some c := by
  unfold ix
  rw [nI_clamp (by omega), if_pos ⟨nI_pos' (by omega), hc⟩]
theorem ix_no {m : Nat} {x : Int32} (h : ¬ ∃ c, c < m ∧ x = nI c) : ix m x = none := by
  unfold ix
  rw [if_neg]
  rintro ⟨h1, h2⟩
  obtain ⟨j, hj, rfl⟩ := nI_of (i_nlt.mpr h1)
  rw [nI_clamp hj] at h2
  exact h ⟨j, h2, rfl⟩
theorem rng {m : Nat} {x : Int32} (hm : m < 2147483648) : (0 ≤ x ∧ x ≤ nI m - 1) ↔ ∃ c, c < m ∧ x = nI c := by
  constructor
  · rintro ⟨h1, h2⟩
    obtain ⟨k, hk, rfl⟩ := nI_of (x := x) (i_nlt.mpr h1)
    by_cases hz : m = 0
    · subst hz
      exact absurd (Int32.le_trans h1 h2) (by decide)
    · have e : nI m - 1 = nI (m - 1) := pk_sub (b := 1) (by omega)
      rw [e, nI_leI hk (by omega)] at h2
      exact ⟨k, by omega, rfl⟩
  · rintro ⟨c, hc, rfl⟩
    have e : nI m - 1 = nI (m - 1) := pk_sub (b := 1) (by omega)
    rw [e]
    exact ⟨nI_pos' (by omega), nI_le (by omega) (by omega)⟩
theorem rng2 {m : Nat} {x : Int32} (hm : m < 2147483648) : (0 ≤ x ∧ x ≤ nI m) ↔ ∃ c, c < m + 1 ∧ x = nI c := by
  constructor
  · rintro ⟨h1, h2⟩
    obtain ⟨k, hk, rfl⟩ := nI_of (x := x) (i_nlt.mpr h1)
    rw [nI_leI hk hm] at h2
    exact ⟨k, by omega, rfl⟩
  · rintro ⟨c, hc, rfl⟩
    exact ⟨nI_pos' (by omega), nI_le (by omega) hm⟩
/-- the first of k -/
def fstF (f : Nat → Bool) : Nat → Int32
  | 0 => -1
  | k + 1 => if fstF f k = -1 then (if f k = true then nI k else -1) else fstF f k
theorem fstF_stay {f : Nat → Bool} {j m : Nat} (hj : j < 100000) (h0 : fstF f j = -1) (hf : f j = true) (hm : j + 1 ≤ m) : fstF f m = nI j := by
  induction m with
  | zero => omega
  | succ m ih =>
    by_cases h : j = m
    · subst h
      simp only [fstF]
      rw [if_pos h0, if_pos hf]
    · have := ih (by omega)
      simp only [fstF, this]
      rw [if_neg (nI_ne_m1 (by omega))]
theorem fstF_no {f : Nat → Bool} {j : Nat} (h0 : fstF f j = -1) (hf : ¬ f j = true) : fstF f (j + 1) = -1 := by
  simp only [fstF]
  rw [if_pos h0, if_neg hf]
theorem fstF_congr {f g : Nat → Bool} : ∀ {k : Nat}, (∀ j, j < k → f j = g j) → fstF f k = fstF g k
  | 0, _ => rfl
  | k + 1, h => by simp only [fstF]; rw [fstF_congr (k := k) (fun j hj => h j (by omega)), h k (by omega)]
def sumF (f : Nat → Nat) : Nat → Nat
  | 0 => 0
  | k + 1 => sumF f k + f k
theorem sumF_le {f : Nat → Nat} {b : Nat} (h : ∀ j, f j ≤ b) : ∀ k, sumF f k ≤ b * k
  | 0 => Nat.le_refl _
  | k + 1 => by
    have := sumF_le h k
    have := h k
    simp only [sumF, Nat.mul_succ]
    omega
theorem sumF_congr {f g : Nat → Nat} : ∀ {k : Nat}, (∀ j, j < k → f j = g j) → sumF f k = sumF g k
  | 0, _ => rfl
  | k + 1, h => by simp only [sumF]; rw [sumF_congr (k := k) (fun j hj => h j (by omega)), h k (by omega)]
abbrev lK (n : Nat → Int32) : Nat → Int32 := fun l => n (498 + 10 * l + 3)
abbrev lW (n : Nat → Int32) : Nat → Int32 := fun l => n (498 + 10 * l + 4)
abbrev lV (n : Nat → Int32) : Nat → Int32 := fun l => n (498 + 10 * l + 2)
def lateB (n : Nat → Int32) (l : Nat) : Bool := decide (lateK (n (498 + 10 * l + 3)) (n (498 + 10 * l + 7)) (n (498 + 10 * l + 6)) (n 6))
/-- the arrival of a letter posted now -/
def arP (n : Nat → Int32) (p q : Nat) : Int32 := arN n (nv n 6) (fun _ => false) (fun x => decide (x = p)) 240 q
def rs_errorOffset (σ : Sg) : Int32 ⊕ Nat := .inl σ.2.2.2.2.2.2.1
def rs_errorKind (σ : Sg) : Int32 ⊕ Nat := .inl σ.2.2.2.2.2.2.2.1
def rs_undoDepth (σ : Sg) : Int32 ⊕ Nat := .inl (nI σ.2.2.1)
def rs_count (σ : Sg) (x : Int32) : Int32 ⊕ Nat := match ix 9 x with
  | none => .inr 1
  | some w => .inl (if w = 0 then σ.1 0 else if w = 1 then nI (cntB (town σ.1) (nv σ.1 0)) else if w = 2 then σ.1 1 else if w = 3 then σ.1 2 else if w = 4 then σ.1 3 else if w = 5 then σ.1 4 else if w = 6 then σ.1 5 else if w = 7 then σ.1 6 else σ.1 7)
def rs_isVillage (σ : Sg) (x : Int32) : Int32 ⊕ Nat := match ix (nv σ.1 0) x with
  | none => .inr 1
  | some p => .inl (if town σ.1 p = true then 1 else 0)
def rs_stop (σ : Sg) (x w k : Int32) : Int32 ⊕ Nat := match ix (nv σ.1 1) x with
  | none => .inr 1
  | some c => match ix 7 w with
    | none => .inr 2
    | some w => match ix (nv σ.1 (rtA c w)) k with
      | none => .inl (-1)
      | some k => .inl (100 * σ.1 (rtA c w + 1 + 2 * k) + σ.1 (rtA c w + 2 + 2 * k))
def rs_placeOf (σ : Sg) (x : Int32) : Int32 ⊕ Nat := match ix (nv σ.1 1) x with
  | none => .inr 1
  | some c => .inl (placeN σ.1 c (nv σ.1 6))
def rs_nextStop (σ : Sg) (x : Int32) : Int32 ⊕ Nat := match ix (nv σ.1 1) x with
  | none => .inr 1
  | some c => .inl (fstF (fun w => decide (¬ stopN σ.1 c (nv σ.1 6 + w) = -1)) 168)
def rs_isOnStrike (σ : Sg) (x : Int32) : Int32 ⊕ Nat := match ix (nv σ.1 1) x with
  | none => .inr 1
  | some c => .inl (if σ.1 (38 + c) = 1 then 1 else 0)
def rs_carriersAt (σ : Sg) (x : Int32) : Int32 ⊕ Nat := match ix (nv σ.1 0) x with
  | none => .inr 1
  | some p => .inl (setB (fun c => anyB (fun h => decide (stopN σ.1 c h = nI p)) 168) (nv σ.1 1))
/-- a meeting at p in the hour h -/
def metB (n : Nat → Int32) (h p : Nat) : Bool := !town n p && decide (2 ≤ cntB (fun c => decide (stopN n c h = nI p)) (nv n 1))
def rs_meetings (σ : Sg) : Int32 ⊕ Nat := .inl (nI (sumF (fun h => cntB (metB σ.1 h) (nv σ.1 0)) 168))
def rs_sackOf (σ : Sg) (x : Int32) : Int32 ⊕ Nat := match ix (nv σ.1 1) x with
  | none => .inr 1
  | some c => .inl (σ.1 (33 + c))
def rs_carrierOf (σ : Sg) (x : Int32) : Int32 ⊕ Nat := match ix (nv σ.1 1) x with
  | none => .inr 1
  | some s => .inl (crS σ.1 (nI s))
def rs_many (σ : Sg) (q : Nat) (kd : Int32) (x : Int32) : Int32 ⊕ Nat := match ix (nv σ.1 q) x with
  | none => .inr 1
  | some s => .inl (nI (cntK (lK σ.1) (lW σ.1) kd (nI s) (nv σ.1 2)))
def rs_nth (σ : Sg) (q : Nat) (kd : Int32) (x k : Int32) : Int32 ⊕ Nat := match ix (nv σ.1 q) x with
  | none => .inr 1
  | some s => .inl (nthK (lK σ.1) (lW σ.1) kd (nI s) k (nv σ.1 2))
def rs_sackValue (σ : Sg) (x : Int32) : Int32 ⊕ Nat := match ix (nv σ.1 1) x with
  | none => .inr 1
  | some s => .inl (sumK (lK σ.1) (lW σ.1) (lV σ.1) 1 (nI s) (nv σ.1 2))
def rs_letter (σ : Sg) (x w : Int32) : Int32 ⊕ Nat := match ix (nv σ.1 2) x with
  | none => .inr 1
  | some l => match ix 9 w with
    | none => .inr 2
    | some w => .inl (σ.1 (498 + 10 * l + w))
def rs_trace (σ : Sg) (x : Int32) : Int32 ⊕ Nat := match ix (nv σ.1 2) x with
  | none => .inr 1
  | some l => .inl (σ.1 (498 + 10 * l + 9))
def rs_suspects (σ : Sg) (x : Int32) : Int32 ⊕ Nat := match ix (nv σ.1 2) x with
  | none => .inr 1
  | some l => .inl (if σ.1 (498 + 10 * l + 3) = 3 then (if σ.1 (498 + 10 * l + 2) = 0 then σ.1 (498 + 10 * l + 9) else 1 <<< (σ.1 (798 + 2 * nv σ.1 (498 + 10 * l + 4)) &&& 31)) else 0)
def rs_isLate (σ : Sg) (x : Int32) : Int32 ⊕ Nat := match ix (nv σ.1 2) x with
  | none => .inr 1
  | some l => .inl (if lateB σ.1 l = true then 1 else 0)
def soB (n : Nat → Int32) (w l : Nat) : Bool := if w = 4 then decide (¬ n (498 + 10 * l + 2) = 0) else if w = 5 then lateB n l else if w = 6 then decide (n (498 + 10 * l + 6) = -1) else if w = 7 then decide (n (498 + 10 * l + 8) = 1) else if w = 8 then decide (1 < bcI (n (498 + 10 * l + 9))) else decide (n (498 + 10 * l + 3) = nI w)
def rs_letters (σ : Sg) (x : Int32) : Int32 ⊕ Nat := match ix 9 x with
  | none => .inr 1
  | some w => .inl (nI (cntB (soB σ.1 w) (nv σ.1 2)))
/-- two villages -/
def pairN (n : Nat → Int32) (x y : Int32) : Option (Nat × Nat) := match ix (nv n 0) x, ix (nv n 0) y with
  | some p, some q => if town n p = true ∧ town n q = true ∧ ¬ p = q then some (p, q) else none
  | _, _ => none
def rs_promise (σ : Sg) (x y : Int32) : Int32 ⊕ Nat := match pairN σ.1 x y with
  | none => .inr 1
  | some pq => .inl (if arP σ.1 pq.1 pq.2 = -1 then -1 else arP σ.1 pq.1 pq.2 - σ.1 6)
def rs_promisedDays (σ : Sg) (x y : Int32) : Int32 ⊕ Nat := match pairN σ.1 x y with
  | none => .inr 1
  | some pq => .inl (if arP σ.1 pq.1 pq.2 = -1 then -1 else arP σ.1 pq.1 pq.2 / 24 - σ.1 6 / 24)
def rs_reach (σ : Sg) (x : Int32) : Int32 ⊕ Nat := match ix (nv σ.1 0) x with
  | none => .inr 1
  | some p => if town σ.1 p = true then .inl (setB (fun q => decide (¬ q = p) && town σ.1 q && decide (¬ arP σ.1 p q = -1)) (nv σ.1 0)) else .inr 1
/-- the arrival, w hours later posted -/
def bwA (n : Nat → Int32) (p q w : Nat) : Int32 := arN n (nv n 6 + w) (fun _ => false) (fun x => decide (x = p)) 240 q
/-- the best wait, and how long it takes then, k looked at -/
def bwF (n : Nat → Int32) (p q : Nat) : Nat → Int32 × Int32
  | 0 => (-1, 0)
  | w + 1 => if ¬ bwA n p q w = -1 ∧ ((bwF n p q w).1 = -1 ∨ bwA n p q w - nI (nv n 6 + w) < (bwF n p q w).2) then (nI w, bwA n p q w - nI (nv n 6 + w)) else bwF n p q w
def rs_bestWait (σ : Sg) (x y : Int32) : Int32 ⊕ Nat := match pairN σ.1 x y with
  | none => .inr 1
  | some pq => .inl (bwF σ.1 pq.1 pq.2 168).1
/-- the arrival of a letter from where it is -/
def exA (n : Nat → Int32) (l : Nat) : Int32 := if n (498 + 10 * l + 3) = 0 then arN n (nv n 6) (fun _ => false) (fun x => decide (x = nv n (498 + 10 * l + 4))) 240 (nv n (498 + 10 * l + 1)) else if n (498 + 10 * l + 3) = 1 then arN n (nv n 6) (fun c => decide (c = hcN n l)) (fun _ => false) 240 (nv n (498 + 10 * l + 1)) else -1
def rs_expected (σ : Sg) (x : Int32) : Int32 ⊕ Nat := match ix (nv σ.1 2) x with
  | none => .inr 1
  | some l => .inl (if exA σ.1 l = -1 then -1 else exA σ.1 l - σ.1 6)
def rs_receipt (σ : Sg) (x w : Int32) : Int32 ⊕ Nat := match ix 5 w with
  | none => .inr 1
  | some w => match ix (nv σ.1 4) x with
    | none => .inl (-1)
    | some g => .inl (σ.1 (858 + 5 * g + w))
def rs_lastReceipt (σ : Sg) (x : Int32) : Int32 ⊕ Nat := match ix (nv σ.1 2) x with
  | none => .inr 1
  | some l => .inl (fstF (fun g => decide (σ.1 (858 + 5 * g + 1) = nI l)) (nv σ.1 4))
def rs_lostSack (σ : Sg) (x w : Int32) : Int32 ⊕ Nat := match ix (nv σ.1 3) x with
  | none => .inr 1
  | some k => match ix 4 w with
    | none => .inr 2
    | some w => .inl (if w = 0 then σ.1 (798 + 2 * k) else if w = 1 then σ.1 (798 + 2 * k + 1) else if w = 2 then nI (cntK (lK σ.1) (lW σ.1) 3 (nI k) (nv σ.1 2)) else sumK (lK σ.1) (lW σ.1) (lV σ.1) 3 (nI k) (nv σ.1 2))
theorem pair_ok {n : Nat → Int32} {p q : Nat} (h0 : nv n 0 ≤ 10) (hp : town n p = true) (hq : town n q = true) (hne : p ≠ q) : pairN n (nI p) (nI q) = some (p, q) := by
  have h1 : p < nv n 0 ∧ n (8 + p) = 1 := by simpa [town] using hp
  have h2 : q < nv n 0 ∧ n (8 + q) = 1 := by simpa [town] using hq
  unfold pairN
  rw [ix_of h1.1 (by omega), ix_of h2.1 (by omega)]
  simp [hp, hq, hne]
theorem pair_no {n : Nat → Int32} {x y : Int32} (h0 : nv n 0 ≤ 10) (h : ¬ ∃ p q, x = nI p ∧ y = nI q ∧ town n p = true ∧ town n q = true ∧ p ≠ q) : pairN n x y = none := by
  unfold pairN
  by_cases hx : ∃ c, c < nv n 0 ∧ x = nI c
  · obtain ⟨p, hp, rfl⟩ := hx
    rw [ix_of hp (by omega)]
    by_cases hy : ∃ c, c < nv n 0 ∧ y = nI c
    · obtain ⟨q, hq, rfl⟩ := hy
      rw [ix_of hq (by omega)]
      dsimp only
      rw [if_neg]
      exact fun z => h ⟨p, q, rfl, rfl, z⟩
    · rw [ix_no hy]
  · rw [ix_no hx]
