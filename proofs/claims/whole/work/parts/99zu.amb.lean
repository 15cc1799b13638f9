variable {G : GG} {base : Nat}
/-! ===== THE LAW'S ENTRY: what the start gives ===== -/
theorem WT_lw {w : Cond} (h : w ∈ WT) : w ∈ lw_tbl := (List.mem_filter.mp h).1
theorem inst_all : ∀ (k : Nat) (q : vw_C), vwCl[k]? = some q → (∀ w ∈ u_ws q.1 q.2.1 q.2.2, w ∈ WT) ∧ Cond.instantiable q.1 q.2.2 ∈ lw_tbl := by
  intro k q hq
  have hk := vwCl_lt hq
  obtain ⟨C, T, N, ty, g1, g2, g3, -⟩ := cI_all k hk
  cases hq.symm.trans g1
  refine ⟨g3, ?_⟩
  have z : ∀ k, k < 12 → Cond.instantiable ((vwCl.map fun q => q.1).getD k "") ((vwCl.map fun q => q.2.2).getD k 0) ∈ lw_tbl := by decide +kernel
  have := z k hk
  rw [List.getD_eq_getElem?_getD, List.getD_eq_getElem?_getD, List.getElem?_map, List.getElem?_map, hq] at this
  exact this
/-- the text constants' terms: the first of each text -/
def txT (i : Nat) : Term := Term.string ((txR.getD i ("", 0, 0)).1) ((txR.getD i ("", 0, 0)).2.1)
abbrev nrw : List Cond := flatC (Jvm.Cond.and given_1 narrow_1)
theorem tx_N : ∀ i : Nat, i < 13 → txL.getD i 0 < 2 ^ 31 := by decide +kernel
theorem tx_ex : ∀ i : Nat, i < 13 → Cond.exactly (txT i) "java/lang/String" ∈ nrw := by decide +kernel
theorem tx_co : ∀ i : Nat, i < 13 → Cond.eq (.field (txT i) "java/lang/String" "coder" "B") (.int 0) ∈ nrw := by decide +kernel
theorem tx_ar : ∀ i : Nat, i < 13 → Cond.arrayOf (.field (txT i) "java/lang/String" "value" "[B") .byte ∈ nrw := by decide +kernel
theorem tx_le : ∀ i : Nat, i < 13 → Cond.eq (.length (.field (txT i) "java/lang/String" "value" "[B")) (.int (Int32.ofNat (txL.getD i 0))) ∈ nrw := by decide +kernel
theorem tx_el : ∀ i : Nat, i < 13 → ∀ j : Nat, j < txL.getD i 0 → Cond.eq (.elem (.field (txT i) "java/lang/String" "value" "[B") (.int (Int32.ofNat j))) (.int ((txB.getD i []).getD j 0)) ∈ nrw := by decide +kernel
def txI : List (List Nat) := [[0, 94, 106, 117, 132, 146, 162, 179, 195, 211, 228, 244, 261], [0, 0, 107, 118, 133, 147, 163, 180, 196, 212, 229, 245, 262], [0, 0, 0, 119, 134, 148, 164, 181, 197, 213, 230, 246, 263], [0, 0, 0, 0, 135, 149, 165, 182, 198, 214, 231, 247, 264], [0, 0, 0, 0, 0, 150, 166, 183, 199, 215, 232, 248, 265], [0, 0, 0, 0, 0, 0, 167, 184, 200, 216, 233, 249, 266], [0, 0, 0, 0, 0, 0, 0, 185, 201, 217, 234, 250, 267], [0, 0, 0, 0, 0, 0, 0, 0, 202, 218, 235, 251, 268], [0, 0, 0, 0, 0, 0, 0, 0, 0, 219, 236, 252, 269], [0, 0, 0, 0, 0, 0, 0, 0, 0, 0, 237, 253, 270], [0, 0, 0, 0, 0, 0, 0, 0, 0, 0, 0, 254, 271], [0, 0, 0, 0, 0, 0, 0, 0, 0, 0, 0, 0, 272], [0, 0, 0, 0, 0, 0, 0, 0, 0, 0, 0, 0, 0]]
theorem tx_ne0 : ∀ i : Nat, i < 13 → ∀ j : Nat, j < 13 → i < j → nrw[(txI.getD i []).getD j 0]? = some (Cond.not (Cond.eq (txT i) (txT j))) := by decide +kernel
theorem tx_ne (i : Nat) (hi : i < 13) (j : Nat) (hj : j < 13) (hij : i ≠ j) : Cond.not (Cond.eq (txT i) (txT j)) ∈ nrw ∨ Cond.not (Cond.eq (txT j) (txT i)) ∈ nrw := by
  by_cases h : i < j
  · exact Or.inl (List.mem_of_getElem? (tx_ne0 i hi j hj h))
  · exact Or.inr (List.mem_of_getElem? (tx_ne0 j hj i hi (by omega)))
theorem tx_ref : ∀ q ∈ txR, Cond.stringRef q.1 q.2.1 (txN.getD q.2.2 "") ∈ lw_tbl := by decide +kernel
theorem tx_one : ∀ q ∈ txR, q.2.2 < 13 ∧ (Term.string q.1 q.2.1 = txT q.2.2 ∨ Cond.eq (txT q.2.2) (Term.string q.1 q.2.1) ∈ nrw) := by decide +kernel
theorem nst_in : ∀ q ∈ nestW, Cond.methodLinkNest q.1 q.2.1 q.2.2.1 q.2.2.2 ∈ lw_tbl := by decide +kernel
theorem dcl_in : ∀ x ∈ declM, Cond.declares x ∈ lw_tbl := by decide +kernel
theorem cst_in : ∀ x ∈ castM, Cond.castable x x ∈ lw_tbl := by decide +kernel
theorem ncm_in : ∀ q ∈ ncM, Cond.not (Cond.castable q.1 q.2) ∈ nrw := by decide +kernel
theorem amb_of {b : Nat} {s : State} (hts : ∀ w ∈ lw_tbl, w.before #[Value.ref b] s = true) (hgv : (Jvm.Cond.and given_1 narrow_1).before #[Value.ref b] s = true) : ∃ G : GG, Amb G s.heap.size s s.heap ∧ va_AO cSt s ∧ ncS s := by
  have hf : ∀ w ∈ nrw, w.before #[Value.ref b] s = true := flat_of_before _ hgv
  have hA : ∀ a : Nat, a < s.heap.size → ¬ up s.heap.size a := fun a h => Nat.not_le.mpr h
  have hk : ∀ k : Nat, ∃ q9 : ClassId × (Nat → Nat), ∀ q : vw_C, vwCl[k]? = some q → u_Kn s q.1 q.2.1 q.2.2 q9.1 q9.2 := by
    intro k
    cases hq : vwCl[k]? with
    | none => exact ⟨(0, fun _ => 0), fun q h => by cases h⟩
    | some q =>
      obtain ⟨h1, h2⟩ := inst_all k q hq
      obtain ⟨c0, i0, h3⟩ := u_known (C := q.1) (T := q.2.1) (N := q.2.2) (n := q.2.2) (args := #[Value.ref b]) hts (fun w hw => WT_lw (h1 w hw)) (hts _ h2)
      exact ⟨(c0, i0), fun q' h => by cases h; exact h3⟩
  obtain ⟨kk, hkk⟩ := Classical.axiomOfChoice hk
  obtain ⟨cI, kI, oI, aI1, aI2, aI3⟩ := Cond.arrayClass_spec (args := #[Value.ref b]) (first := s) (o := none) (s := s) (idx := []) (type := .int) (hts _ (WT_lw wtAI))
  obtain ⟨cB, kB, oB, aB1, aB2, aB3⟩ := Cond.arrayClass_spec (args := #[Value.ref b]) (first := s) (o := none) (s := s) (idx := []) (type := .byte) (hts _ (WT_lw wtAB))
  obtain ⟨cL, kL, oL, aL1, aL2, aL3⟩ := Cond.arrayClass_spec (args := #[Value.ref b]) (first := s) (o := none) (s := s) (idx := []) (type := .long) (hts _ (WT_lw wtAL))
  have hao0 : (Cond.arrayOver (.object cSt)).before #[Value.ref b] s = true := hts _ (by decide +kernel)
  obtain ⟨oQ, cQ, kQ, aQ1, -, aQ2, aQ3, aQ4⟩ := Cond.arrayOver_spec (args := #[Value.ref b]) (first := s) (s := s) (o := none) (idx := []) hao0
  obtain ⟨adK, adV, hvk, hev⟩ := vk_Sof (args := #[Value.ref b]) (s := s) (N := 13) (tm := txT) (len := txL) (byt := txB) (A := up s.heap.size) tx_N (fun i hi => hf _ (tx_ex i hi)) (fun i hi => hf _ (tx_co i hi)) (fun i hi => hf _ (tx_ar i hi)) (fun i hi => hf _ (tx_le i hi)) (fun i hi j hj => hf _ (tx_el i hi j hj))
    (fun i j hi hj hij => (tx_ne i hi j hj hij).imp (fun h => hf _ h) (fun h => hf _ h)) hA
  refine ⟨((fun k => (kk k).1, fun k => (kk k).2), fun k => if k = 12 then cI else if k = 13 then cB else if k = 14 then cL else cQ, adK, adV), ⟨⟨fun k q hq => hkk k q hq, fun k q hq => ?_⟩, Nat.le_refl _, ?_, ?_, hvk, fun q hq => ?_, ?_, ?_, fun q hq => ?_, fun x hx => ?_, fun x hx => ?_⟩, va_AO.of hao0, fun q hq => ?_⟩
  · match k, hq with
    | 0, hq => cases hq; exact ⟨fun n z => ⟨fun k h => (by cases h), kI, aI2, oI, aI3⟩, aI1⟩
    | 1, hq => cases hq; exact ⟨fun n z => ⟨fun k h => (by cases h), kB, aB2, oB, aB3⟩, aB1⟩
    | 2, hq => cases hq; exact ⟨fun n z => ⟨fun k h => (by cases h), kL, aL2, oL, aL3⟩, aL1⟩
    | 3, hq => cases hq; exact ⟨fun n z => ⟨fun k h => (by cases h), kQ, aQ2, oQ, aQ3⟩, kQ, oQ, aQ2, aQ3, aQ1, aQ4⟩
    | k + 4, hq => simp [tysG] at hq
  · exact vx_Zqof (args := #[Value.ref b]) (hts _ (by decide +kernel)) (hts _ (by decide +kernel)) (hf _ (by decide +kernel)) hA
  · exact vx_Zqof (args := #[Value.ref b]) (hts _ (by decide +kernel)) (hts _ (by decide +kernel)) (hf _ (by decide +kernel)) hA
  · obtain ⟨h13, h1⟩ := tx_one q hq
    refine vk_R.of (A := #[Value.ref b]) (hts _ (tx_ref q hq)) ?_
    rcases h1 with h1 | h1
    · rw [h1]
      exact hev q.2.2 h13
    · exact va_eqR (hf _ h1) (hev q.2.2 h13)
  · exact va_Zof (args := #[Value.ref b]) (hts _ (by decide +kernel)) (hts _ (by decide +kernel)) (va_eqi (hf _ (by decide +kernel))) hA
  · exact va_Zqof (args := #[Value.ref b]) (hts _ (by decide +kernel)) (hts _ (by decide +kernel)) (hf _ (by decide +kernel)) hA
  · exact va_Nw.of rfl (hts _ (nst_in q hq))
  · exact va_Nw.of rfl (hts _ (dcl_in x hx))
  · exact va_Nw.of rfl (hts _ (cst_in x hx))
  · exact va_Nc.of (hf _ (ncm_in q hq))
