variable {G : GG} {base : Nat}
/-- the read row too has changed -/
def pR (M : Mm) (a : Nat) (rd : Nat → Int32) (q : Q4) (i : Nat → Nat → Int32) : Prop := Pq i a q ∧ i (a + 6) = rd ∧ (∀ x, x ≠ a → x ≠ a + 6 → i x = mI M x) ∧ ∀ k, k ≠ 8 → k ≠ 9 → k ≠ 11 → k ≠ 12 → i a k = mI M a k
theorem pR.trS {M : Mm} {a : Nat} {rd : Nat → Int32} {q q' : Q4} {i j : Nat → Nat → Int32} (h : pR M a rd q i) (h2 : pS (wI M i) a q' j) : pR M a rd q' j := ⟨h2.1, (h2.2.1 _ (by omega)).trans h.2.1, fun x hx hy => (h2.2.1 x hx).trans (h.2.2.1 x hx hy), fun k h8 h9 h11 h12 => (h2.2.2 k h8 h9 h11 h12).trans (h.2.2.2 k h8 h9 h11 h12)⟩
theorem pR.tt {M : Mm} {a e : Nat} {u : Nat → Nat} {rd : Nat → Int32} {q : Q4} {i : Nat → Nat → Int32} (h : pR M a rd q i) (hT : Tt (mI M) a u e) : Tt i a u e := ⟨fun k hk => ⟨(hT.1 k hk).1, (congrFun (h.2.2.1 _ (by omega) (by omega)) k).trans (hT.1 k hk).2⟩, (h.2.2.2 10 (by omega) (by omega) (by omega) (by omega)).trans hT.2.1, hT.2.2⟩
theorem pR.row {M : Mm} {a k : Nat} {v : Int32} {rd : Nat → Int32} {q : Q4} {i : Nat → Nat → Int32} (h : pR M a rd q i) : pR M a (upd rd k v) q (mI (uI (wI M i) (a + 6) k v)) := by
  have ea : mI (uI (wI M i) (a + 6) k v) a = i a := uIo (by omega)
  refine ⟨⟨by rw [ea]; exact h.1.1, by rw [ea]; exact h.1.2.1, by rw [ea]; exact h.1.2.2.1, by rw [ea]; exact h.1.2.2.2⟩, ?_, fun x hx hy => (uIo hy).trans (h.2.2.1 x hx hy), fun j h8 h9 h11 h12 => by rw [ea]; exact h.2.2.2 j h8 h9 h11 h12⟩
  funext j
  rw [mI_uI, if_pos rfl]
  show (if j = k then v else i (a + 6) j) = upd rd k v j
  rw [h.2.1]
  rfl
/-- one stop -/
def stA (u : Nat → Nat) (e c : Nat) (q : Q4) : Q4 := muQ (decide (¬ ((blQ u e q).1 < e ∧ dgB u (blQ u e q).1 = true) ∨ c < 6)) 4 (blQ u e q)
def stB (u : Nat → Nat) (e lo c : Nat) (q : Q4) : Q4 := nuQ u e lo 23 (stA u e c q)
def stV (u : Nat → Nat) (e lo c : Nat) (q : Q4) : Nat := nuW u e lo 23 (stA u e c q)
def stC (n : Nat → Int32) (u : Nat → Nat) (e lo c : Nat) (q : Q4) : Q4 := rpQ n u e (stB u e lo c q)
def stP (n : Nat → Int32) (u : Nat → Nat) (e lo c : Nat) (q : Q4) : Int32 := rpI n u e (stB u e lo c q)
def stD (n : Nat → Int32) (u : Nat → Nat) (e lo c : Nat) (rd : Nat → Int32) (q : Q4) : Nat → Int32 := upd (upd (upd rd (1 + 2 * c) (nI (stV u e lo c q))) (2 + 2 * c) (stP n u e lo c q)) 0 (nI (c + 1))
/-- the stops of a route -/
def stZ (n : Nat → Int32) (u : Nat → Nat) (e : Nat) : Nat → Nat → Nat → (Nat → Int32) → Q4 → (Nat → Int32) × Q4
  | 0, _, _, rd, q => (rd, q)
  | f + 1, lo, c, rd, q => if (stC n u e lo c q).2.2.1 = -1 then (if (blQ u e (stC n u e lo c q)).1 < e ∧ dgB u (blQ u e (stC n u e lo c q)).1 = true then stZ n u e f (stV u e lo c q + 1) (c + 1) (stD n u e lo c rd q) (blQ u e (stC n u e lo c q)) else (stD n u e lo c rd q, blQ u e (stC n u e lo c q))) else (rd, stC n u e lo c q)
theorem stA_le {u : Nat → Nat} {e c : Nat} {q : Q4} (h : q.1 ≤ e) : (stA u e c q).1 ≤ e := by
  unfold stA
  rw [muQ_1]
  exact blQ_le h
theorem nuW_lt {u : Nat → Nat} {e lo hi : Nat} {q : Q4} (hq : q.1 ≤ e) (he : e ≤ 900) (hl : lo < 2000) : nuW u e lo hi q < 2000 := by
  unfold nuW
  split
  · rename_i h
    obtain ⟨-, -, -, -, -⟩ := nuQ1_ok h.1 hq he
    have := (nuV_b (u := u) (p := (blQ u e q).1) (nuE u e q - (blQ u e q).1) (fun j hj => eo_all (f := dgB u) (e := e) (p := (blQ u e q).1) (by omega) (by unfold nuE at hj; omega))).1
    unfold nuX
    omega
  · exact hl
theorem fl_bl {u : Nat → Nat} {e : Nat} {q : Q4} (h : ¬ q.2.2.1 = -1) : blQ u e q = q := by unfold blQ; rw [if_neg h]
theorem fl_mu {c : Bool} {k : Nat} {q : Q4} (h : ¬ q.2.2.1 = -1) : muQ c k q = q := by unfold muQ; rw [if_pos (Or.inr h)]
theorem fl_pn {u : Nat → Nat} {e : Nat} {q : Q4} (h : ¬ q.2.2.1 = -1) : pnQ u e q = q := by unfold pnQ; rw [if_neg h]
theorem fl_sn {u : Nat → Nat} {e : Nat} {q : Q4} (h : ¬ q.2.2.1 = -1) : snR u e q = q := by unfold snR; rw [fl_bl h, fl_mu h]
theorem fl_rp {n : Nat → Int32} {u : Nat → Nat} {e : Nat} {q : Q4} (h : ¬ q.2.2.1 = -1) : rpQ n u e q = q := by unfold rpQ; rw [fl_sn h, fl_mu h, fl_pn h]
theorem fl_rv {n : Nat → Int32} {u : Nat → Nat} {e : Nat} {o : Int32} {q : Q4} (h : ¬ q.2.2.1 = -1) : rvQ n u e o q = q := by unfold rvQ; rw [fl_sn h, fl_mu h, fl_pn h]
theorem fl_nu1 {u : Nat → Nat} {e : Nat} {q : Q4} (h : ¬ q.2.2.1 = -1) : nuQ1 u e q = q := by unfold nuQ1; rw [fl_bl h, fl_mu h]
theorem fl_nu {u : Nat → Nat} {e lo hi : Nat} {q : Q4} (h : ¬ q.2.2.1 = -1) : nuQ u e lo hi q = q := by
  unfold nuQ
  rw [fl_nu1 h, if_neg h]
theorem nuW_hi {u : Nat → Nat} {e lo hi : Nat} {q : Q4} (hp : q.1 ≤ e) (he : e ≤ 900) (h : (nuQ u e lo hi q).2.2.1 = -1) : q.2.2.1 = -1 ∧ lo ≤ nuW u e lo hi q ∧ nuW u e lo hi q ≤ hi := by
  unfold nuQ at h
  split at h
  · rename_i h1
    obtain ⟨h2, h3, h4, h5, -⟩ := nuQ1_ok h1 hp he
    obtain ⟨-, h7, -⟩ := muQ_ok (q := (nuE u e q, (nuQ1 u e q).2)) h (by show (nuQ1 u e q).2.1 < _; rw [h3, h4]; omega)
    have := of_decide_eq_true h7
    unfold nuW
    rw [if_pos ⟨h1, h⟩]
    exact ⟨h2, this.2⟩
  · rename_i h1
    exact absurd h h1
