variable {G : GG} {base : Nat}
/-! ===== AN HOUR ===== -/
/-- all but the letters, the receipts, the swaps is as in n -/
def sm (x n : Nat → Int32) : Prop := (∀ q, q < 498 → q ≠ 4 → q ≠ 7 → x q = n q) ∧ Rn x 4 60
theorem sm.rf {n : Nat → Int32} (h : Rn n 4 60) : sm n n := ⟨fun _ _ _ _ => rfl, h⟩
theorem sm.tr {x y n : Nat → Int32} (h : sm x y) (h2 : sm y n) : sm x n := ⟨fun q a b c => (h.1 q a b c).trans (h2.1 q a b c), h.2⟩
theorem sm.up {x n : Nat → Int32} (h : sm x n) {q : Nat} (hq : 498 ≤ q) (v : Int32) : sm (upd x q v) n := ⟨fun p a b c => by simp only [upd]; rw [if_neg (by omega)]; exact h.1 p a b c, by
  have : upd x q v 4 = x 4 := by simp only [upd]; rw [if_neg (by omega)]
  exact ⟨by show upd x q v 4 = nI ((upd x q v 4).toNatClampNeg); rw [this]; exact h.2.1, by show (upd x q v 4).toNatClampNeg ≤ 60; rw [this]; exact h.2.2⟩⟩
theorem sm.up7 {x n : Nat → Int32} (h : sm x n) (v : Int32) : sm (upd x 7 v) n := ⟨fun p a b c => by simp only [upd]; rw [if_neg (by omega)]; exact h.1 p a b c, by
  have : upd x 7 v 4 = x 4 := by simp only [upd]; rw [if_neg (by omega)]
  exact ⟨by show upd x 7 v 4 = nI ((upd x 7 v 4).toNatClampNeg); rw [this]; exact h.2.1, by show (upd x 7 v 4).toNatClampNeg ≤ 60; rw [this]; exact h.2.2⟩⟩
theorem wrN_4 {x : Nat → Int32} (h : Rn x 4 60) (l kd cr pl : Int32) : wrN x l kd cr pl 4 = nI (if nv x 4 + 1 < 60 then nv x 4 + 1 else 60) := by
  have h6 := h.2
  unfold wrN
  rw [if_neg (by decide), if_neg (by decide), if_neg (by decide), if_neg (by decide), if_neg (by decide), if_neg (by omega), if_pos rfl]
  by_cases e : nv x 4 < 60
  · rw [if_pos e]
    by_cases e2 : nv x 4 + 1 < 60
    · rw [if_pos e2]
    · rw [if_neg e2]; congr 1; omega
  · rw [if_neg e, h.1, if_neg (by omega)]; congr 1; omega
theorem Rn4_wrN {x : Nat → Int32} (h : Rn x 4 60) (l kd cr pl : Int32) : Rn (wrN x l kd cr pl) 4 60 := Rn.mk (wrN_4 h l kd cr pl) (by split <;> omega)
theorem sm.wr {x n : Nat → Int32} (h : sm x n) (l : Nat) (kd cr pl : Int32) : sm (wrL x l kd cr pl) n := by
  refine ⟨fun q a b c => (wrL_lo (by omega) b).trans (h.1 q a b c), ?_⟩
  unfold wrL
  split
  · exact h.2
  · exact Rn4_wrN h.2 _ _ _ _
theorem sm.lies {x n : Nat → Int32} (h : sm x n) (l : Nat) (kd pl : Int32) : sm (liesN x l kd pl) n := (h.up (by omega) _).up (by omega) _
theorem sm.nv {x n : Nat → Int32} (h : sm x n) {q : Nat} (a : q < 498) (b : q ≠ 4) (c : q ≠ 7) : nv x q = nv n q := by show (x q).toNatClampNeg = (n q).toNatClampNeg; rw [h.1 q a b c]
theorem sm.Rn {x n : Nat → Int32} (h : sm x n) {q k : Nat} (a : q < 498) (b : q ≠ 4) (c : q ≠ 7) (hr : Rn n q k) : Rn x q k := ⟨by rw [h.nv a b c, h.1 q a b c]; exact hr.1, by rw [h.nv a b c]; exact hr.2⟩
theorem sm.tab {x n : Nat → Int32} (h : sm x n) : tabEq x n := ⟨h.1 0 (by omega) (by omega) (by omega), h.1 1 (by omega) (by omega) (by omega), fun q a b => h.1 q (by omega) (by omega) (by omega), fun q a b => h.1 q (by omega) (by omega) (by omega)⟩
theorem sm.Tb {x n : Nat → Int32} (h : sm x n) (hT : TbOk n) : TbOk x := ⟨h.Rn (by omega) (by omega) (by omega) hT.1, h.Rn (by omega) (by omega) (by omega) hT.2.1, RtOk.eq h.tab.sm hT.2.2⟩
theorem sm.Sk {x n : Nat → Int32} (h : sm x n) (hS : SkOk n) : SkOk x := by
  have e : ∀ c, c < 5 → x (33 + c) = n (33 + c) := fun c hc => h.1 _ (by omega) (by omega) (by omega)
  refine ⟨fun c hc => by rw [e c hc]; exact hS.1 c hc, fun c d hc hd z => ?_, fun c hc hm => ?_⟩
  · rw [e c hc, e d hd] at z
    exact hS.2.1 c d hc hd z
  · rw [e c hc]
    rw [h.nv (by omega) (by omega) (by omega)] at hm
    exact hS.2.2 c hc hm
/-- the carrier of a sack -/
def crS (n : Nat → Int32) (s : Int32) : Int32 := cwF (fun c => n (33 + c)) s 5
theorem sm.cr {x n : Nat → Int32} (h : sm x n) (s : Int32) : crS x s = crS n s := cwF_congr fun c hc => h.1 _ (by omega) (by omega) (by omega)
/-- each sack has its carrier -/
theorem onto5 : ∀ f : Fin 5 → Fin 5, (∀ a b, f a = f b → a = b) → ∀ s, ∃ c, f c = s := by
  intro f hf s
  have h : ∀ a0 a1 a2 a3 a4 s : Fin 5, a0 ≠ a1 → a0 ≠ a2 → a0 ≠ a3 → a0 ≠ a4 → a1 ≠ a2 → a1 ≠ a3 → a1 ≠ a4 → a2 ≠ a3 → a2 ≠ a4 → a3 ≠ a4 → a0 = s ∨ a1 = s ∨ a2 = s ∨ a3 = s ∨ a4 = s := by decide +kernel
  have n : ∀ a b : Fin 5, a ≠ b → f a ≠ f b := fun a b hab e => hab (hf a b e)
  rcases h (f 0) (f 1) (f 2) (f 3) (f 4) s (n 0 1 (by decide)) (n 0 2 (by decide)) (n 0 3 (by decide)) (n 0 4 (by decide)) (n 1 2 (by decide)) (n 1 3 (by decide)) (n 1 4 (by decide)) (n 2 3 (by decide)) (n 2 4 (by decide)) (n 3 4 (by decide)) with e | e | e | e | e
  · exact ⟨0, e⟩
  · exact ⟨1, e⟩
  · exact ⟨2, e⟩
  · exact ⟨3, e⟩
  · exact ⟨4, e⟩
theorem SkOk.has {n : Nat → Int32} (h : SkOk n) {s : Nat} (hs : s < 5) : ∃ c, c < 5 ∧ n (33 + c) = nI s := by
  have hk : ∀ c, c < 5 → ∃ t : Fin 5, n (33 + c) = nI t.val := fun c hc => by
    obtain ⟨t, h1, h2⟩ := h.1 c hc
    exact ⟨⟨t, h1⟩, h2⟩
  obtain ⟨c, hc⟩ := onto5 (fun c => Classical.choose (hk c.val c.isLt)) (fun a b e => by
    have ha := Classical.choose_spec (hk a.val a.isLt)
    have hb := Classical.choose_spec (hk b.val b.isLt)
    try dsimp only at e
    rw [e] at ha
    exact Fin.ext (h.2.1 _ _ a.isLt b.isLt (ha.trans hb.symm))) ⟨s, hs⟩
  refine ⟨c.val, c.isLt, ?_⟩
  rw [Classical.choose_spec (hk c.val c.isLt)]
  try dsimp only at hc
  rw [hc]
/-- .. its number -/
theorem crS_is {n : Nat → Int32} (h : SkOk n) {s : Int32} {c : Nat} (hc : c < 5) (e : n (33 + c) = s) : crS n s = nI c := by
  rcases cwF_spec (K := fun c => n (33 + c)) (s := s) 5 (by omega) with ⟨-, h2⟩ | ⟨c', h1, h2, h3, -⟩
  · exact absurd e (h2 c hc)
  · rw [crS, h2, h.2.1 c' c h1 hc (h3.trans e.symm)]
theorem crS_of {n : Nat → Int32} (h : SkOk n) {s : Nat} (hs : s < 5) : ∃ c, c < 5 ∧ crS n (nI s) = nI c ∧ n (33 + c) = nI s := by
  obtain ⟨c, hc, e⟩ := h.has hs
  exact ⟨c, hc, crS_is h hc e, e⟩
/-- the sacks of carriers are sacks of carriers -/
theorem SkOk.lo {n : Nat → Int32} (h : SkOk n) {c s : Nat} (hc : c < 5) (e : n (33 + c) = nI s) (hs : s < 5) : c < nv n 1 ↔ s < nv n 1 := by
  constructor
  · intro hcm
    by_cases hsm : s < nv n 1
    · exact hsm
    · have := h.2.1 c s hc hs (e.trans (h.2.2 s hs (by omega)).symm)
      omega
  · intro hsm
    by_cases hcm : c < nv n 1
    · exact hcm
    · have := h.2.2 c hc (by omega)
      rw [this, nI_eq (by omega) (by omega)] at e
      omega
/-- the number of the carrier in whose sack letter l is -/
def hcN (n : Nat → Int32) (l : Nat) : Nat := (crS n (n (498 + 10 * l + 4))).toNatClampNeg
/-- the letters are as they should be -/
def LtOk (n : Nat → Int32) : Prop := Rn n 2 30 ∧ Rn n 3 30 ∧ ∀ l, l < nv n 2 → ∃ f t v s w : Nat, n (498 + 10 * l) = nI f ∧ n (498 + 10 * l + 1) = nI t ∧ n (498 + 10 * l + 2) = nI v ∧ n (498 + 10 * l + 3) = nI s ∧ n (498 + 10 * l + 4) = nI w ∧ town n f = true ∧ town n t = true ∧ f ≠ t ∧ v < 1000 ∧ s < 4 ∧ (s = 0 → town n w = true ∧ w ≠ t) ∧ (s = 1 → w < nv n 1) ∧ (s = 2 → w = t) ∧ (s = 3 → w < nv n 3) ∧ (n (498 + 10 * l + 8) = 0 ∨ n (498 + 10 * l + 8) = 1)
/-- behind a swap: those whose sack it was -/
def markL (n : Nat → Int32) (p : Nat) (g : Nat → Bool) : Nat → Nat → Int32
  | 0 => n
  | l + 1 => if markL n p g l (498 + 10 * l + 3) = 1 ∧ g (hcN (markL n p g l) l) = true then wrL (upd (markL n p g l) (498 + 10 * l + 9) (markL n p g l (498 + 10 * l + 9) ||| b1 (hcN (markL n p g l) l))) l 3 (nI (hcN (markL n p g l) l)) (nI p) else markL n p g l
theorem markL_sm {n : Nat → Int32} {p : Nat} {g : Nat → Bool} (h : Rn n 4 60) : ∀ k, sm (markL n p g k) n
  | 0 => sm.rf h
  | k + 1 => by
    simp only [markL]
    split
    · exact ((markL_sm h k).up (by omega) _).wr _ _ _ _
    · exact markL_sm h k
/-- all sacks swapped -/
def rotN (n : Nat → Int32) (h : Nat) : Nat → Int32 := fun q => if 33 ≤ q ∧ q < 38 then n (33 + nxP n h (q - 33)) else n q
/-- the swaps of the hour, at the crossings below p -/
def swpN (n : Nat → Int32) (h : Nat) : Nat → Nat → Int32
  | 0 => rotN n h
  | p + 1 => if town n p = false ∧ 2 ≤ cntB (grpB n h p) 5 then markL (upd (swpN n h p) 7 (swpN n h p 7 + 1)) p (grpB n h p) (nv n 2) else swpN n h p
/-- the sack from which a letter is taken at the village p; -1 from the office; -2 not at all -/
def sbN (n : Nat → Int32) (h p l : Nat) : Int32 := if n (498 + 10 * l + 3) = 1 ∧ grpB n h p (hcN n l) = true then n (498 + 10 * l + 4) else if n (498 + 10 * l + 3) = 0 ∧ n (498 + 10 * l + 4) = nI p then -1 else -2
/-- it is handed out -/
def dlB (n : Nat → Int32) (p : Nat) (sb : Nat → Int32) (l : Nat) : Bool := decide (¬ sb l < 0 ∧ n (498 + 10 * l + 1) = nI p)
def handN (x : Nat → Int32) (l p : Nat) : Nat → Int32 := upd (liesN x l 2 (nI p)) (498 + 10 * l + 7) (liesN x l 2 (nI p) 6)
def delL (n : Nat → Int32) (p : Nat) (sb : Nat → Int32) : Nat → Nat → Int32
  | 0 => n
  | l + 1 => if dlB (delL n p sb l) p sb l = true then wrL (handN (delL n p sb l) l p) l 2 (crS (handN (delL n p sb l) l p) (sb l)) (nI p) else delL n p sb l
theorem delL_sm {n : Nat → Int32} {p : Nat} {sb : Nat → Int32} (h : Rn n 4 60) : ∀ k, sm (delL n p sb k) n
  | 0 => sm.rf h
  | k + 1 => by
    simp only [delL]
    split
    · exact (((delL_sm h k).lies _ _ _).up (by omega) _).wr _ _ _ _
    · exact delL_sm h k
/-- what is left of them -/
def sb2 (n : Nat → Int32) (p : Nat) (sb : Nat → Int32) (l : Nat) : Int32 := if dlB n p sb l = true then -2 else sb l
/-- the carrier of the sack s, as a number -/
def ciN (n : Nat → Int32) (s : Nat) : Nat := (crS n (nI s)).toNatClampNeg
/-- the arrivals from the hour behind h on: by the sack of carrier w, or (5) by waiting at p -/
def wyN (n : Nat → Int32) (h p w t : Nat) : Int32 := if w < 5 then arN n (h + 1) (fun c => decide (c = w)) (fun _ => false) 240 t else arN n (h + 1) (fun _ => false) (fun q => decide (q = p)) 240 t
/-- the best of the first k sacks, -1 if none -/
def bsF (n : Nat → Int32) (h p : Nat) (fl : Nat → Int32) (t : Nat) : Nat → Int32
  | 0 => -1
  | s + 1 => if grpB n h p (ciN n s) = true ∧ fl s < n 5 ∧ ¬ wyN n h p (ciN n s) t = -1 ∧ (bsF n h p fl t s = -1 ∨ wyN n h p (ciN n s) t < wyN n h p (ciN n (bsF n h p fl t s).toNatClampNeg) t) then nI s else bsF n h p fl t s
def bstS (n : Nat → Int32) (h p : Nat) (fl : Nat → Int32) (t : Nat) : Int32 := if ¬ bsF n h p fl t (nv n 1) = -1 ∧ (wyN n h p 5 t = -1 ∨ wyN n h p (ciN n (bsF n h p fl t (nv n 1)).toNatClampNeg) t ≤ wyN n h p 5 t) then bsF n h p fl t (nv n 1) else -1
/-- a letter is put away: into the sack b, or (-1) into the office -/
def putN (x : Nat → Int32) (l p : Nat) (o b : Int32) : Nat → Int32 :=
  if b = -1 then (if o = -1 then liesN x l 0 (nI p) else wrL (liesN x l 0 (nI p)) l 1 (crS (liesN x l 0 (nI p)) o) (nI p))
  else (if o = b then upd (liesN x l 1 b) (498 + 10 * l + 9) (liesN x l 1 b (498 + 10 * l + 9) ||| b1 (crS x b).toNatClampNeg) else wrL (upd (liesN x l 1 b) (498 + 10 * l + 9) (liesN x l 1 b (498 + 10 * l + 9) ||| b1 (crS x b).toNatClampNeg)) l 0 (crS x b) (nI p))
theorem putN_sm {x n : Nat → Int32} (h : sm x n) (l p : Nat) (o b : Int32) : sm (putN x l p o b) n := by
  unfold putN
  split
  · split
    · exact h.lies _ _ _
    · exact (h.lies _ _ _).wr _ _ _ _
  · split
    · exact (h.lies _ _ _).up (by omega) _
    · exact ((h.lies _ _ _).up (by omega) _).wr _ _ _ _
/-- all letters are put away: the row, and how full each sack is -/
def srtL (n : Nat → Int32) (h p : Nat) (sb : Nat → Int32) : Nat → (Nat → Int32) × (Nat → Int32)
  | 0 => (n, fun _ => 0)
  | l + 1 => if sb l = -2 then srtL n h p sb l else
      (putN (srtL n h p sb l).1 l p (sb l) (bstS n h p (srtL n h p sb l).2 (nv n (498 + 10 * l + 1))), if bstS n h p (srtL n h p sb l).2 (nv n (498 + 10 * l + 1)) = -1 then (srtL n h p sb l).2 else upd (srtL n h p sb l).2 (bstS n h p (srtL n h p sb l).2 (nv n (498 + 10 * l + 1))).toNatClampNeg ((srtL n h p sb l).2 (bstS n h p (srtL n h p sb l).2 (nv n (498 + 10 * l + 1))).toNatClampNeg + 1))
theorem srtL_sm {n : Nat → Int32} {h p : Nat} {sb : Nat → Int32} (h4 : Rn n 4 60) : ∀ k, sm (srtL n h p sb k).1 n
  | 0 => sm.rf h4
  | k + 1 => by
    simp only [srtL]
    split
    · exact srtL_sm h4 k
    · exact putN_sm (srtL_sm h4 k) _ _ _ _
/-- a village is visited -/
def visN (n : Nat → Int32) (h p : Nat) : Nat → Int32 := if anyB (grpB n h p) 5 = true then (srtL (delL n p (sbN n h p) (nv n 2)) h p (sb2 n p (sbN n h p)) (nv n 2)).1 else n
/-- how many are handed out there -/
def visC (n : Nat → Int32) (h p : Nat) : Nat := if anyB (grpB n h p) 5 = true then cntB (dlB n p (sbN n h p)) (nv n 2) else 0
theorem visN_sm {n : Nat → Int32} {h p : Nat} (h4 : Rn n 4 60) : sm (visN n h p) n := by
  unfold visN
  split
  · exact (srtL_sm (delL_sm h4 _).2 _).tr (delL_sm h4 _)
  · exact sm.rf h4
/-- the villages below p are visited: the row, and how many letters were handed out -/
def vilN (n : Nat → Int32) (h : Nat) : Nat → (Nat → Int32) × Nat
  | 0 => (n, 0)
  | p + 1 => if town n p = true then (visN (vilN n h p).1 h p, (vilN n h p).2 + visC (vilN n h p).1 h p) else vilN n h p
theorem vilN_sm {n : Nat → Int32} {h : Nat} (h4 : Rn n 4 60) : ∀ k, sm (vilN n h k).1 n
  | 0 => sm.rf h4
  | k + 1 => by
    simp only [vilN]
    split
    · exact (visN_sm (vilN_sm h4 k).2).tr (vilN_sm h4 k)
    · exact vilN_sm h4 k
/-- an hour is processed -/
def hourN (n : Nat → Int32) : Nat → Int32 := upd (vilN (swpN n (nv n 6) (nv n 0)) (nv n 6) (nv n 0)).1 6 (nI (nv n 6 + 1))
def hourC (n : Nat → Int32) : Nat := (vilN (swpN n (nv n 6) (nv n 0)) (nv n 6) (nv n 0)).2
/-- some hours: the row, and how many were handed out -/
def runN (n : Nat → Int32) : Nat → (Nat → Int32) × Nat
  | 0 => (n, 0)
  | k + 1 => (hourN (runN n k).1, (runN n k).2 + hourC (runN n k).1)
