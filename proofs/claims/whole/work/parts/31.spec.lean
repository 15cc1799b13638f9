variable {G : GG} {base : Nat}
/-! ===== WHAT THE SYSTEM DOES, over the reference's row n ===== -/
/-- one of the first k -/
def anyB (f : Nat → Bool) : Nat → Bool
  | 0 => false
  | k + 1 => anyB f k || f k
theorem anyB_iff {f : Nat → Bool} : ∀ {k : Nat}, anyB f k = true ↔ ∃ j, j < k ∧ f j = true
  | 0 => by simp [anyB]
  | k + 1 => by
    simp only [anyB, Bool.or_eq_true, anyB_iff (k := k)]
    constructor
    · rintro (⟨j, h1, h2⟩ | h)
      · exact ⟨j, by omega, h2⟩
      · exact ⟨k, by omega, h⟩
    · rintro ⟨j, h1, h2⟩
      by_cases h : j = k
      · subst h; exact Or.inr h2
      · exact Or.inl ⟨j, by omega, h2⟩
theorem anyB_congr {f g : Nat → Bool} : ∀ {k : Nat}, (∀ j, j < k → f j = g j) → anyB f k = anyB g k
  | 0, _ => rfl
  | k + 1, h => by simp only [anyB]; rw [anyB_congr (k := k) (fun j hj => h j (by omega)), h k (by omega)]
theorem anyB_more {f : Nat → Bool} {k m : Nat} (hk : k ≤ m) (h : ∀ j, k ≤ j → j < m → f j = false) : anyB f m = anyB f k := by
  induction m with
  | zero => rw [show k = 0 by omega]
  | succ m ih =>
    by_cases hkm : k = m + 1
    · rw [hkm]
    · simp only [anyB]
      rw [ih (by omega) (fun j h1 h2 => h j h1 (by omega)), h m (by omega) (by omega), Bool.or_false]
/-- how many of the first k -/
def cntB (f : Nat → Bool) : Nat → Nat
  | 0 => 0
  | k + 1 => cntB f k + (if f k = true then 1 else 0)
theorem cntB_congr {f g : Nat → Bool} : ∀ {k : Nat}, (∀ j, j < k → f j = g j) → cntB f k = cntB g k
  | 0, _ => rfl
  | k + 1, h => by simp only [cntB]; rw [cntB_congr (k := k) (fun j hj => h j (by omega)), h k (by omega)]
theorem cntB_le (f : Nat → Bool) : ∀ k, cntB f k ≤ k
  | 0 => Nat.le_refl 0
  | k + 1 => by
    have := cntB_le f k
    simp only [cntB]
    split <;> omega
/-- the first of a group from lo on, k looked at; 5 if there is none -/
def fstG (g : Nat → Bool) : Nat → Nat → Nat
  | _, 0 => 5
  | lo, k + 1 => if g lo = true then lo else fstG g (lo + 1) k
/-- the next one of a group, behind the last the first; who isn't in it: itself -/
def nxG (g : Nat → Bool) (c : Nat) : Nat := if g c = true then (if fstG g (c + 1) (4 - c) < 5 then fstG g (c + 1) (4 - c) else fstG g 0 5) else c
theorem nxG_congr {g g' : Nat → Bool} (h : ∀ c, c < 5 → g c = g' c) {c : Nat} (hc : c < 5) : nxG g c = nxG g' c := by
  have h0 := h 0 (by omega); have h1 := h 1 (by omega); have h2 := h 2 (by omega); have h3 := h 3 (by omega); have h4 := h 4 (by omega)
  rcases (show c = 0 ∨ c = 1 ∨ c = 2 ∨ c = 3 ∨ c = 4 by omega) with rfl | rfl | rfl | rfl | rfl <;> simp [nxG, fstG, h0, h1, h2, h3, h4]
theorem nxG_out {g : Nat → Bool} {c : Nat} (h : g c = false) : nxG g c = c := by simp [nxG, h]
/-- a group out of five truths -/
def gv (b0 b1 b2 b3 b4 : Bool) : Nat → Bool := fun k => if k = 0 then b0 else if k = 1 then b1 else if k = 2 then b2 else if k = 3 then b3 else b4
theorem gv_eq (g : Nat → Bool) {c : Nat} (hc : c < 5) : g c = gv (g 0) (g 1) (g 2) (g 3) (g 4) c := by
  rcases (show c = 0 ∨ c = 1 ∨ c = 2 ∨ c = 3 ∨ c = 4 by omega) with rfl | rfl | rfl | rfl | rfl <;> rfl
theorem gv_nx (g : Nat → Bool) {c : Nat} (hc : c < 5) : nxG g c = nxG (gv (g 0) (g 1) (g 2) (g 3) (g 4)) c := nxG_congr (fun c hc => gv_eq g hc) hc
theorem gv_in : ∀ b0 b1 b2 b3 b4 : Bool, ∀ c, c < 5 → gv b0 b1 b2 b3 b4 c = true → nxG (gv b0 b1 b2 b3 b4) c < 5 ∧ gv b0 b1 b2 b3 b4 (nxG (gv b0 b1 b2 b3 b4) c) = true := by decide +kernel
theorem gv_one : ∀ b0 b1 b2 b3 b4 : Bool, cntB (gv b0 b1 b2 b3 b4) 5 < 2 → ∀ c, c < 5 → nxG (gv b0 b1 b2 b3 b4) c = c := by decide +kernel
theorem gv_inj : ∀ b0 b1 b2 b3 b4 : Bool, ∀ c, c < 5 → ∀ d, d < 5 → nxG (gv b0 b1 b2 b3 b4) c = nxG (gv b0 b1 b2 b3 b4) d → c = d := by decide +kernel
theorem gv_onto : ∀ b0 b1 b2 b3 b4 : Bool, ∀ c, c < 5 → gv b0 b1 b2 b3 b4 c = true → ∃ d : Fin 5, gv b0 b1 b2 b3 b4 d.val = true ∧ nxG (gv b0 b1 b2 b3 b4) d.val = c := by decide +kernel
theorem nxG_in {g : Nat → Bool} {c : Nat} (hc : c < 5) (h : g c = true) : nxG g c < 5 ∧ g (nxG g c) = true := by
  obtain ⟨h1, h2⟩ := gv_in (g 0) (g 1) (g 2) (g 3) (g 4) c hc (by rw [← gv_eq g hc]; exact h)
  rw [← gv_nx g hc] at h1 h2
  exact ⟨h1, by rw [gv_eq g h1]; exact h2⟩
theorem nxG_one {g : Nat → Bool} (h : cntB g 5 < 2) {c : Nat} (hc : c < 5) : nxG g c = c := by
  rw [gv_nx g hc]
  refine gv_one _ _ _ _ _ ?_ c hc
  rw [← cntB_congr (f := g) (fun j hj => gv_eq g hj)]
  exact h
theorem nxG_inj {g : Nat → Bool} {c d : Nat} (hc : c < 5) (hd : d < 5) (h : nxG g c = nxG g d) : c = d := by
  rw [gv_nx g hc, gv_nx g hd] at h
  exact gv_inj _ _ _ _ _ c hc d hd h
theorem nxG_onto {g : Nat → Bool} {c : Nat} (hc : c < 5) (h : g c = true) : ∃ d, d < 5 ∧ g d = true ∧ nxG g d = c := by
  obtain ⟨d, h1, h2⟩ := gv_onto (g 0) (g 1) (g 2) (g 3) (g 4) c hc (by rw [← gv_eq g hc]; exact h)
  exact ⟨d.val, d.isLt, by rw [gv_eq g d.isLt]; exact h1, by rw [gv_nx g d.isLt]; exact h2⟩
/-- the place of carrier c in the hour h, when it works; 10: nowhere -/
def plQ (n : Nat → Int32) (h c : Nat) : Nat := if c < nv n 1 ∧ 0 ≤ placeN n c h then (placeN n c h).toNatClampNeg else 10
def town (n : Nat → Int32) (p : Nat) : Bool := decide (p < nv n 0 ∧ n (8 + p) = 1)
/-- who is at the place p in the hour h -/
def grpB (n : Nat → Int32) (h p : Nat) : Nat → Bool := fun c => decide (plQ n h c = p)
/-- whose sack carrier c gets in the hour h -/
def nxP (n : Nat → Int32) (h c : Nat) : Nat := if plQ n h c < 10 ∧ town n (plQ n h c) = false then nxG (grpB n h (plQ n h c)) c else c
def c1B (n : Nat → Int32) (h : Nat) (C : Nat → Bool) (c : Nat) : Bool := C (nxP n h c)
def o1B (n : Nat → Int32) (h : Nat) (C O : Nat → Bool) (p : Nat) : Bool := O p || (town n p && anyB (fun c => grpB n h p c && c1B n h C c) 5)
def c2B (n : Nat → Int32) (h : Nat) (C O : Nat → Bool) (c : Nat) : Bool := c1B n h C c || (town n (plQ n h c) && o1B n h C O (plQ n h c))
/-- the carriers whose sacks it can be in, and the offices, behind k hours from h on -/
def spN (n : Nat → Int32) (h : Nat) (C O : Nat → Bool) : Nat → (Nat → Bool) × (Nat → Bool)
  | 0 => (C, O)
  | k + 1 => (c2B n (h + k) (spN n h C O k).1 (spN n h C O k).2, o1B n (h + k) (spN n h C O k).1 (spN n h C O k).2)
/-- the arrival at p, k hours looked at -/
def arN (n : Nat → Int32) (h : Nat) (C O : Nat → Bool) : Nat → Nat → Int32
  | 0, _ => -1
  | k + 1, p => if arN n h C O k p = -1 then (if (spN n h C O (k + 1)).2 p = true then nI (h + k) else -1) else arN n h C O k p
theorem spN_mono {n : Nat → Int32} {h : Nat} {C O : Nat → Bool} {p : Nat} {k m : Nat} (hk : k ≤ m) (h1 : (spN n h C O k).2 p = true) : (spN n h C O m).2 p = true := by
  induction m with
  | zero => rw [show k = 0 by omega] at h1; exact h1
  | succ m ih =>
    by_cases hkm : k = m + 1
    · rw [← hkm]; exact h1
    · simp only [spN, o1B]
      rw [ih (by omega), Bool.true_or]
/-- an arrival: the first hour -/
theorem arN_spec {n : Nat → Int32} {h : Nat} {C O : Nat → Bool} {p : Nat} : ∀ (k : Nat), h + k < 2147483648 → (arN n h C O k p = -1 ∧ ∀ j, j < k → (spN n h C O (j + 1)).2 p = false) ∨ ∃ j, j < k ∧ arN n h C O k p = nI (h + j) ∧ (spN n h C O (j + 1)).2 p = true ∧ ∀ j', j' < j → (spN n h C O (j' + 1)).2 p = false
  | 0, _ => Or.inl ⟨rfl, fun j hj => by omega⟩
  | k + 1, hk => by
    rcases arN_spec (n := n) (h := h) (C := C) (O := O) (p := p) k (by omega) with ⟨h1, h2⟩ | ⟨j, h1, h2, h3, h4⟩
    · simp only [arN]
      rw [if_pos h1]
      by_cases h5 : (spN n h C O (k + 1)).2 p = true
      · rw [if_pos h5]
        exact Or.inr ⟨k, by omega, rfl, h5, h2⟩
      · rw [if_neg h5]
        exact Or.inl ⟨rfl, fun j hj => by
          by_cases hjk : j = k
          · subst hjk; simpa using h5
          · exact h2 j (by omega)⟩
    · simp only [arN]
      rw [h2, if_neg (nI_ne_m1 (by omega))]
      exact Or.inr ⟨j, by omega, rfl, h3, h4⟩
/-- .. it stays when more hours are looked at -/
theorem arN_stay {n : Nat → Int32} {h : Nat} {C O : Nat → Bool} {p : Nat} {k m : Nat} (hk : k ≤ m) (h1 : ¬ arN n h C O k p = -1) : arN n h C O m p = arN n h C O k p := by
  induction m with
  | zero => rw [show k = 0 by omega]
  | succ m ih =>
    by_cases hkm : k = m + 1
    · rw [hkm]
    · have := ih (by omega)
      simp only [arN]
      rw [this, if_neg h1]
/-- .. and there is one where the place has come into the set -/
theorem arN_is {n : Nat → Int32} {h : Nat} {C O : Nat → Bool} {p : Nat} {k : Nat} (hk : h + k < 2147483648) (h0 : O p = false) (h1 : (spN n h C O k).2 p = true) : ¬ arN n h C O k p = -1 := by
  rcases arN_spec (n := n) (h := h) (C := C) (O := O) (p := p) k hk with ⟨h2, h3⟩ | ⟨j, h2, h3, -, -⟩
  · cases k with
    | zero => rw [show (spN n h C O 0).2 p = O p from rfl, h0] at h1; cases h1
    | succ k => rw [h3 k (by omega)] at h1; cases h1
  · rw [h3]; exact nI_ne_m1 (by omega)
/-- what of the row the stops stand in -/
def tabEq (n m : Nat → Int32) : Prop := n 0 = m 0 ∧ n 1 = m 1 ∧ (∀ q, 8 ≤ q → q < 33 → n q = m q) ∧ ∀ q, 38 ≤ q → q < 498 → n q = m q
theorem tabEq.rf {n : Nat → Int32} : tabEq n n := ⟨rfl, rfl, fun _ _ _ => rfl, fun _ _ _ => rfl⟩
theorem tabEq.sm {n m : Nat → Int32} (h : tabEq n m) : tabEq m n := ⟨h.1.symm, h.2.1.symm, fun q a b => (h.2.2.1 q a b).symm, fun q a b => (h.2.2.2 q a b).symm⟩
theorem tabEq.tr {n m k : Nat → Int32} (h : tabEq n m) (h2 : tabEq m k) : tabEq n k := ⟨h.1.trans h2.1, h.2.1.trans h2.2.1, fun q a b => (h.2.2.1 q a b).trans (h2.2.2.1 q a b), fun q a b => (h.2.2.2 q a b).trans (h2.2.2.2 q a b)⟩
theorem stF_congr {n m : Nat → Int32} {a : Nat} {hh : Int32} : ∀ {k : Nat}, (∀ q, a < q → q < a + 1 + 2 * k → n q = m q) → stF n a hh k = stF m a hh k
  | 0, _ => rfl
  | k + 1, h => by
    simp only [stF]
    rw [stF_congr (k := k) (fun q h1 h2 => h q h1 (by omega)), h (a + 1 + 2 * k) (by omega) (by omega), h (a + 2 + 2 * k) (by omega) (by omega)]
theorem rtA_b {c w : Nat} (hc : c < 5) (hw : w < 7) : 43 ≤ rtA c w ∧ rtA c w ≤ 485 := by
  show 43 ≤ 43 + 13 * (7 * c + w) ∧ 43 + 13 * (7 * c + w) ≤ 485
  omega
theorem stopN_eq {n m : Nat → Int32} (h : tabEq n m) (hr : RtOk n) {c hh : Nat} (hc : c < 5) : stopN n c hh = stopN m c hh := by
  have hw : hh / 24 % 7 < 7 := Nat.mod_lt _ (by decide)
  have hat := rtA_b hc hw
  have e : n (rtA c (hh / 24 % 7)) = m (rtA c (hh / 24 % 7)) := h.2.2.2 _ (by omega) (by omega)
  have h6 := (hr c hc _ hw).1.2
  unfold stopN
  rw [show nv m (rtA c (hh / 24 % 7)) = nv n (rtA c (hh / 24 % 7)) from by show (m _).toNatClampNeg = (n _).toNatClampNeg; rw [e]]
  exact stF_congr (fun q h1 h2 => h.2.2.2 q (by omega) (by omega))
theorem placeN_eq {n m : Nat → Int32} (h : tabEq n m) (hr : RtOk n) {c hh : Nat} (hc : c < 5) : placeN n c hh = placeN m c hh := by
  unfold placeN
  rw [stopN_eq h hr hc, h.2.2.2 (38 + c) (by omega) (by omega)]
theorem RtOk.eq {n m : Nat → Int32} (h : tabEq n m) (hr : RtOk n) : RtOk m := fun c hc w hw => by
  obtain ⟨h1, h2⟩ := hr c hc w hw
  have hat := rtA_b hc hw
  have e : n (rtA c w) = m (rtA c w) := h.2.2.2 _ (by omega) (by omega)
  have e2 : nv m (rtA c w) = nv n (rtA c w) := by show (m _).toNatClampNeg = (n _).toNatClampNeg; rw [e]
  refine ⟨⟨by rw [← e, e2]; exact h1.1, by rw [e2]; exact h1.2⟩, fun k hk => ?_⟩
  rw [e2] at hk
  have h6 := h1.2
  obtain ⟨x, q, g1, g2, g3, g4, g5⟩ := h2 k hk
  refine ⟨x, q, g1, ?_, g3, ?_, ?_⟩
  · show q < (m 0).toNatClampNeg
    rw [← h.1]; exact g2
  · rw [← h.2.2.2 _ (by omega) (by omega)]; exact g4
  · rw [← h.2.2.2 _ (by omega) (by omega)]; exact g5
theorem plQ_eq {n m : Nat → Int32} (h : tabEq n m) (hr : RtOk n) (h1 : nv n 1 ≤ 5) {c hh : Nat} : plQ n hh c = plQ m hh c := by
  unfold plQ
  rw [show nv m 1 = nv n 1 from by show (m 1).toNatClampNeg = (n 1).toNatClampNeg; rw [h.2.1]]
  by_cases hc : c < nv n 1
  · rw [placeN_eq h hr (by omega)]
  · rw [if_neg (fun q => hc q.1), if_neg (fun q => hc q.1)]
theorem town_eq {n m : Nat → Int32} (h : tabEq n m) (h0 : nv n 0 ≤ 10) {p : Nat} : town n p = town m p := by
  unfold town
  rw [show nv m 0 = nv n 0 from by show (m 0).toNatClampNeg = (n 0).toNatClampNeg; rw [h.1]]
  by_cases hp : p < nv n 0
  · rw [h.2.2.1 (8 + p) (by omega) (by omega)]
  · simp [hp]
theorem grpB_eq {n m : Nat → Int32} (h : tabEq n m) (hr : RtOk n) (h1 : nv n 1 ≤ 5) {hh p : Nat} : grpB n hh p = grpB m hh p := by
  funext c
  unfold grpB
  rw [plQ_eq h hr h1]
theorem nxP_eq {n m : Nat → Int32} (h : tabEq n m) (hr : RtOk n) (h0 : nv n 0 ≤ 10) (h1 : nv n 1 ≤ 5) {hh c : Nat} : nxP n hh c = nxP m hh c := by
  unfold nxP
  rw [plQ_eq h hr h1, town_eq h h0, grpB_eq h hr h1]
theorem spN_eq {n m : Nat → Int32} (h : tabEq n m) (hr : RtOk n) (h0 : nv n 0 ≤ 10) (h1 : nv n 1 ≤ 5) {hh : Nat} {C O : Nat → Bool} : ∀ k, spN n hh C O k = spN m hh C O k
  | 0 => rfl
  | k + 1 => by
    simp only [spN]
    rw [spN_eq h hr h0 h1 k]
    have e1 : ∀ C, c1B n (hh + k) C = c1B m (hh + k) C := fun C => by funext c; unfold c1B; rw [nxP_eq h hr h0 h1]
    have e2 : ∀ C O, o1B n (hh + k) C O = o1B m (hh + k) C O := fun C O => by funext p; unfold o1B; rw [town_eq h h0, grpB_eq h hr h1, e1]
    refine Prod.ext ?_ ?_
    · show c2B n (hh + k) _ _ = c2B m (hh + k) _ _
      funext c
      unfold c2B
      rw [e1, e2, plQ_eq h hr h1, town_eq h h0]
    · exact e2 _ _
theorem arN_eq {n m : Nat → Int32} (h : tabEq n m) (hr : RtOk n) (h0 : nv n 0 ≤ 10) (h1 : nv n 1 ≤ 5) {hh : Nat} {C O : Nat → Bool} {p : Nat} : ∀ k, arN n hh C O k p = arN m hh C O k p
  | 0 => rfl
  | k + 1 => by
    simp only [arN]
    rw [arN_eq h hr h0 h1 k, spN_eq h hr h0 h1]
/-- the place of a carrier, as it stands in the row -/
theorem placeN_of {n : Nat → Int32} (hr : RtOk n) {c : Nat} (hc : c < 5) (hm : c < nv n 1) (h : Nat) : (placeN n c h = -1 ∧ plQ n h c = 10) ∨ ∃ q, q < nv n 0 ∧ q < 10 ∧ placeN n c h = nI q ∧ plQ n h c = q := by
  have hw : h / 24 % 7 < 7 := Nat.mod_lt _ (by decide)
  obtain ⟨-, h2⟩ := hr c hc _ hw
  have key : ∀ k, k ≤ nv n (rtA c (h / 24 % 7)) → stF n (rtA c (h / 24 % 7)) (nI (h % 24)) k = -1 ∨ ∃ q, q < nv n 0 ∧ q < 10 ∧ stF n (rtA c (h / 24 % 7)) (nI (h % 24)) k = nI q := by
    intro k
    induction k with
    | zero => intro _; exact Or.inl rfl
    | succ k ih =>
      intro hk
      simp only [stF]
      rcases ih (by omega) with e | ⟨q, q1, q2, e⟩
      · rw [if_pos e]
        obtain ⟨x, q, -, q1, q2, -, q3⟩ := h2 k (by omega)
        split
        · exact Or.inr ⟨q, q1, q2, q3⟩
        · exact Or.inl rfl
      · rw [e, if_neg (nI_ne_m1 (by omega))]
        exact Or.inr ⟨q, q1, q2, rfl⟩
  have hp : placeN n c h = -1 ∨ ∃ q, q < nv n 0 ∧ q < 10 ∧ placeN n c h = nI q := by
    unfold placeN
    split
    · exact Or.inl rfl
    · exact key _ (Nat.le_refl _)
  rcases hp with e | ⟨q, q1, q2, e⟩
  · refine Or.inl ⟨e, ?_⟩
    unfold plQ
    rw [e, if_neg (fun z => absurd z.2 (by decide))]
  · refine Or.inr ⟨q, q1, q2, e, ?_⟩
    unfold plQ
    rw [e, if_pos ⟨hm, nI_pos' (by omega)⟩, nI_clamp (by omega)]
theorem stopN_of {n : Nat → Int32} (hr : RtOk n) {c : Nat} (hc : c < 5) (h : Nat) : stopN n c h = -1 ∨ ∃ q, q < nv n 0 ∧ q < 10 ∧ stopN n c h = nI q := by
  have hw : h / 24 % 7 < 7 := Nat.mod_lt _ (by decide)
  obtain ⟨-, h2⟩ := hr c hc _ hw
  have key : ∀ k, k ≤ nv n (rtA c (h / 24 % 7)) → stF n (rtA c (h / 24 % 7)) (nI (h % 24)) k = -1 ∨ ∃ q, q < nv n 0 ∧ q < 10 ∧ stF n (rtA c (h / 24 % 7)) (nI (h % 24)) k = nI q := by
    intro k
    induction k with
    | zero => intro _; exact Or.inl rfl
    | succ k ih =>
      intro hk
      simp only [stF]
      rcases ih (by omega) with e | ⟨q, q1, q2, e⟩
      · rw [if_pos e]
        obtain ⟨x, q, -, q1, q2, -, q3⟩ := h2 k (by omega)
        split
        · exact Or.inr ⟨q, q1, q2, q3⟩
        · exact Or.inl rfl
      · rw [e, if_neg (nI_ne_m1 (by omega))]
        exact Or.inr ⟨q, q1, q2, rfl⟩
  exact key _ (Nat.le_refl _)
theorem plQ_out {n : Nat → Int32} {h c : Nat} (hm : nv n 1 ≤ c) : plQ n h c = 10 := by
  unfold plQ
  rw [if_neg (fun q => absurd q.1 (by omega))]
theorem plQ_lt {n : Nat → Int32} (hr : RtOk n) (h1 : nv n 1 ≤ 5) {h c : Nat} : plQ n h c = 10 ∨ (plQ n h c < nv n 0 ∧ plQ n h c < 10 ∧ c < nv n 1) := by
  by_cases hm : c < nv n 1
  · rcases placeN_of hr (by omega) hm h with ⟨-, e⟩ | ⟨q, q1, q2, -, e⟩
    · exact Or.inl e
    · exact Or.inr ⟨by omega, by omega, hm⟩
  · exact Or.inl (plQ_out (by omega))
theorem town_10 {n : Nat → Int32} (h0 : nv n 0 ≤ 10) : town n 10 = false := by
  unfold town
  rw [decide_eq_false (fun q => absurd q.1 (by omega))]
theorem town_iff {n : Nat → Int32} (h0 : Rn n 0 10) {p : Nat} (hp : p < nv n 0) : townP n (nI p) ↔ town n p = true := by
  rw [townP_nI h0 hp]
  simp [town, hp]
theorem town_is {n : Nat → Int32} (h0 : Rn n 0 10) {x : Int32} : townP n x ↔ ∃ p, p < nv n 0 ∧ x = nI p ∧ town n p = true := by
  constructor
  · intro h
    obtain ⟨j, h1, h2, h3⟩ := townP_of h0 h
    exact ⟨j, h1, h2, by simp [town, h1, h3]⟩
  · rintro ⟨p, h1, rfl, h3⟩
    exact (town_iff h0 h1).mpr h3
theorem nxP_lt {n : Nat → Int32} {h c : Nat} (hc : c < 5) : nxP n h c < 5 := by
  unfold nxP
  split
  · by_cases hg : grpB n h (plQ n h c) c = true
    · exact (nxG_in hc hg).1
    · rw [nxG_out (by simpa using hg)]; exact hc
  · exact hc
theorem grpB_self {n : Nat → Int32} {h c : Nat} : grpB n h (plQ n h c) c = true := by simp [grpB]
theorem nxP_pl {n : Nat → Int32} {h c : Nat} (hc : c < 5) : plQ n h (nxP n h c) = plQ n h c := by
  unfold nxP
  split
  · have := (nxG_in hc (grpB_self (n := n) (h := h) (c := c))).2
    simpa [grpB] using this
  · rfl
theorem nxP_inj {n : Nat → Int32} {h c d : Nat} (hc : c < 5) (hd : d < 5) (e : nxP n h c = nxP n h d) : c = d := by
  have e2 : plQ n h c = plQ n h d := by rw [← nxP_pl hc, ← nxP_pl hd, e]
  unfold nxP at e
  rw [e2] at e
  split at e
  · exact nxG_inj hc hd e
  · exact e
theorem nxP_out {n : Nat → Int32} {h c : Nat} (hm : nv n 1 ≤ c) : nxP n h c = c := by
  unfold nxP
  rw [plQ_out hm, if_neg (fun q => absurd q.1 (by omega))]
theorem nI_iinc (a k : Nat) : nI a + Int32.ofInt (k : Int) = nI (a + k) := by
  rw [show Int32.ofInt (k : Int) = nI k from Int32.toBitVec_inj.1 (BitVec.ofInt_natCast 32 k), nI_add]
theorem nI_idec {a : Nat} (h : 1 ≤ a) : nI a + Int32.ofInt (-1) = nI (a - 1) := by
  obtain ⟨b, rfl⟩ : ∃ b, a = b + 1 := ⟨a - 1, by omega⟩
  rw [show b + 1 - 1 = b by omega, ← nI_pred b]
  apply Int32.toBitVec_inj.1
  rw [Int32.toBitVec_add, Int32.toBitVec_sub]
  generalize (nI (b + 1)).toBitVec = x
  show x + BitVec.ofInt 32 (-1) = x - 1
  rw [BitVec.sub_eq_add_neg]
  rfl
/-- what is known of some locals is forgotten -/
def lcSub : List (Option Value) → List (Option Value) → Prop
  | [], [] => True
  | none :: t, _ :: u => lcSub t u
  | some v :: t, y :: u => y = some v ∧ lcSub t u
  | _, _ => False
theorem lcSub_spec : ∀ {l m : List (Option Value)}, lcSub l m → l.length = m.length ∧ ∀ (i : Nat) (v : Value), l[i]? = some (some v) → m[i]? = some (some v)
  | [], [], _ => ⟨rfl, fun i v h => by simp at h⟩
  | none :: t, _ :: u, h => by
    obtain ⟨h1, h2⟩ := lcSub_spec (l := t) (m := u) h
    refine ⟨by simp [h1], fun i v hi => ?_⟩
    cases i with
    | zero => simp at hi
    | succ i => exact h2 i v (by simpa using hi)
  | some w :: t, y :: u, h => by
    obtain ⟨rfl, h⟩ := h
    obtain ⟨h1, h2⟩ := lcSub_spec (l := t) (m := u) h
    refine ⟨by simp [h1], fun i v hi => ?_⟩
    cases i with
    | zero => simpa using hi
    | succ i => exact h2 i v (by simpa using hi)
  | [], _ :: _, h => h.elim
  | none :: _, [], h => h.elim
  | some _ :: _, [], h => h.elim
theorem J.junk {G : GG} {base : Nat} {X : Cx} {cs sl : Nat} {M : Mm} {pc : Nat} {ls ls' : List (Option Value)} {st : List Value} (k : J G base X cs sl M pc ls' st) (h : lcSub ls' ls) : J G base X cs sl M pc ls st :=
  J.less (lcSub_spec h).1 (lcSub_spec h).2 k
