variable {G : GG} {base : Nat}
theorem idle_o {n : Nat → Int32} (hO : TbOk n) {h : Nat} {C O : Nat → Bool} (hu : ∀ p, p < 10 → ¬ anyB (gstN n h p) 5 = true) {p : Nat} (hp : p < 10) : o1B n h C O p = O p := by
  unfold o1B
  cases hz : anyB (fun c => grpB n h p c && c1B n h C c) 5 with
  | false => simp
  | true =>
    obtain ⟨c, hc, z⟩ := anyB_iff.mp hz
    rw [Bool.and_eq_true] at z
    obtain ⟨a, -, b⟩ := (grpB_iff hO hp hc).mp z.1
    exact absurd (anyB_iff.mpr ⟨c, hc, decide_eq_true ⟨a, b⟩⟩) (hu p hp)
theorem idle_c {n : Nat → Int32} (hO : TbOk n) {h : Nat} {C O : Nat → Bool} (hu : ∀ p, p < 10 → ¬ anyB (gstN n h p) 5 = true) {c : Nat} (hc : c < 5) : c2B n h C O c = C c := by
  have h0 := hO.1.2
  rcases plQ_lt hO.2.2 hO.2.1.2 (h := h) (c := c) with z | ⟨z1, z2, z3⟩
  · unfold c2B c1B nxP
    rw [z, if_neg (fun y => absurd y.1 (by omega))]
    rw [show town n 10 = false from by cases hz : town n 10 with | false => rfl | true => exact absurd (town_lt hz) (by omega)]
    simp
  · obtain ⟨a, -, b⟩ := (grpB_iff hO z2 hc).mp (show grpB n h (plQ n h c) c = true from decide_eq_true rfl)
    exact absurd (anyB_iff.mpr ⟨c, hc, decide_eq_true ⟨a, b⟩⟩) (hu _ z2)
/-- k hours are followed -/
def fwI (i : Nat → Nat → Int32) (a : Nat) (n : Nat → Int32) (h : Nat) (C O : Nat → Bool) (k : Nat) : Prop := i a 0 = setB (spN n h C O k).2 10 ∧ i a 1 = setB (spN n h C O k).1 5 ∧ ∀ p, p < 10 → i (a + 1) p = if O p = true then -1 else arN n h C O k p
theorem arN_no {n : Nat → Int32} {h k : Nat} {C O : Nat → Bool} {p : Nat} (hk : h + k < 2147483648) (hz : (spN n h C O k).2 p = false) : arN n h C O k p = -1 := by
  rcases arN_spec (n := n) (h := h) (C := C) (O := O) (p := p) k hk with ⟨z, -⟩ | ⟨j, hj, -, z, -⟩
  · exact z
  · rw [spN_mono (m := k) (by omega) z] at hz
    cases hz
theorem fw_step {n : Nat → Int32} {h k : Nat} {C O : Nat → Bool} (hk : h + k + 1 < 2147483648) (p : Nat) : (if (spN n h C O k).2 p = false ∧ (spN n h C O (k + 1)).2 p = true then nI (h + k) else if O p = true then -1 else arN n h C O k p) = if O p = true then -1 else arN n h C O (k + 1) p := by
  cases hO : O p with
  | true =>
    rw [if_neg (fun z => by rw [spN_mono (k := 0) (m := k) (Nat.zero_le _) hO] at z; exact absurd z.1 (by decide)), if_pos rfl, if_pos rfl]
  | false =>
    rw [if_neg (show ¬ false = true by decide), if_neg (show ¬ false = true by decide)]
    cases hs : (spN n h C O k).2 p with
    | true =>
      rw [if_neg (fun z => absurd z.1 (by decide))]
      exact (arN_stay (Nat.le_succ k) (arN_is (by omega) hO hs)).symm
    | false =>
      have e := arN_no (n := n) (h := h) (k := k) (C := C) (O := O) (p := p) (by omega) hs
      show _ = if arN n h C O k p = -1 then (if (spN n h C O (k + 1)).2 p = true then nI (h + k) else -1) else arN n h C O k p
      rw [if_pos e]
      by_cases h2 : (spN n h C O (k + 1)).2 p = true
      · rw [if_pos ⟨rfl, h2⟩, if_pos h2]
      · rw [if_neg (fun z => h2 z.2), if_neg h2, e]
theorem fw_idle {n : Nat → Int32} (hO : TbOk n) {i : Nat → Nat → Int32} {a h k : Nat} {C O : Nat → Bool} (hk : h + k + 1 < 2147483648) (hu : ∀ p, p < 10 → ¬ anyB (gstN n (h + k) p) 5 = true) (hi : fwI i a n h C O k) : fwI i a n h C O (k + 1) := by
  have e2 : ∀ p, p < 10 → (spN n h C O (k + 1)).2 p = (spN n h C O k).2 p := fun p hp => idle_o hO hu hp
  refine ⟨hi.1.trans (setB_congr (fun p hp => (e2 p hp).symm)), hi.2.1.trans (setB_congr (fun c hc => (idle_c hO hu hc).symm)), fun p hp => ?_⟩
  have e := fw_step (n := n) (C := C) (O := O) hk p
  rw [if_neg (show ¬ ((spN n h C O k).2 p = false ∧ (spN n h C O (k + 1)).2 p = true) from fun z => by
    have z2 := z.2
    rw [e2 p hp, z.1] at z2
    cases z2)] at e
  exact (hi.2.2 p hp).trans e
theorem fw_ar {n : Nat → Int32} {i : Nat → Nat → Int32} {a h k m : Nat} {C O W : Nat → Bool} (hm : h + m < 2147483648) (hk : k ≤ m) (hx : k = m ∨ ∀ p, p < 10 → W p = true → (spN n h C O k).2 p = true) (hi : fwI i a n h C O k) {p : Nat} (hp : p < 10) (hW : W p = true) (hO : O p = false) : i (a + 1) p = arN n h C O m p := by
  rw [hi.2.2 p hp, hO, if_neg (by decide)]
  rcases hx with rfl | hx
  · rfl
  · exact (arN_stay hk (arN_is (by omega) hO (hx p hp hW))).symm
theorem setB_sub {f g : Nat → Bool} {k : Nat} (hk : k ≤ 32) : setB f k &&& setB g k = setB g k ↔ ∀ p, p < k → g p = true → f p = true := by
  rw [setB_and f g hk, setB_eq hk]
  constructor
  · intro h p hp hg
    have := h p hp
    rw [hg, Bool.and_true] at this
    exact this
  · intro h p hp
    cases hg : g p with
    | false => simp
    | true => rw [h p hp hg]; rfl
set_option maxHeartbeats 2000000 in
set_option maxRecDepth 20000 in
theorem t_X7_follow {M : Mm} {a b : Nat} {n : Nat → Int32} (hL : LX7 M.1 M.2.1 a) (hb : LX9 M.1 M.2.1 b) (hd : b + 6 ≤ a ∨ a + 2 ≤ b) (hT : TT (mI M) b n) (hO : TbOk n) {w : Int32} (hw : wkO n w) {h m : Nat} (hh : h + m < 2147483647) {C O W : Nat → Bool} (hi0 : mI M a 0 = setB O 10 ∧ mI M a 1 = setB C 5 ∧ ∀ p, p < 10 → mI M (a + 1) p = -1) : Ct G base YX7_follow 5 0 0 [.ref a, .ref b, .int w, .int (nI h), .int (nI m), .int (setB W 10)] M (rI none M (fun i => (∃ k, k ≤ m ∧ (k = m ∨ ∀ p, p < 10 → W p = true → (spN n h C O k).2 p = true) ∧ fwI i a n h C O k) ∧ outB i (mI M) a 2)) := by
  refine Ct.of IX7_follow.1 (by simp [Value.category]) (Nat.le_of_ble_eq_true rfl) (fun X hX hN => ?_)
  show J G base X 0 0 M 0 [some (.ref a), some (.ref b), some (.int w), some (.int (nI h)), some (.int (nI m)), some (.int (setB W 10)), none, none] []
  refine r_iconst (v := nI 0) hX dX7_follow_0 (by decide) ?_
  refine r_istore6 hX dX7_follow_1 rfl ?_
  refine loop_us (σ := Nat → Nat → Int32) (P := fun k i => (fwI i a n h C O k ∧ outB i (mI M) a 2) → J G base X 0 0 (wI M i) 3 [some (.ref a), some (.ref b), some (.int w), some (.int (nI h)), some (.int (nI m)), some (.int (setB W 10)), some (.int (nI k)), none] []) m (fun k i hk ih hi => ?_) 0 (mI M) (Nat.zero_le _) ⟨⟨hi0.1, hi0.2.1, fun p hp => (hi0.2.2 p hp).trans (by by_cases z : O p = true; rw [if_pos z]; rw [if_neg z]; rfl)⟩, fun _ _ _ => rfl⟩
  have hTi : TT i b n := hT.kept (fun x hx hx2 k => hi.2 x (by omega) k)
  refine r_iload hX dX7_follow_3 rfl ?_
  refine r_iload hX dX7_follow_5 rfl ?_
  refine rn_icmp_ge (tgt := 55) hX dX7_follow_7 (by decide) rfl rfl (by omega) (by omega) (fun c7 => ?_) (fun c7 => ?_)
  · refine r_return hX rfl dX7_follow_55 (by decide) (by decide) ?_
    refine ⟨rfl, i, rfl, ⟨k, by omega, Or.inl (by omega), hi.1⟩, hi.2⟩
  · refine r_aload_n hX dX7_follow_10 rfl ?_
    refine rn_geti (v := setB (spN n h C O k).2 10) hX dX7_follow_11 fl_X7_9 rfl (LX7_s hL) hi.1.1 ?_
    refine r_iload hX dX7_follow_14 rfl ?_
    refine r_iand hX dX7_follow_16 ?_
    refine r_iload hX dX7_follow_17 rfl ?_
    refine r_icmp_eq (tgt := 55) hX dX7_follow_19 (by decide) (fun c19 => ?_) (fun c19 => ?_)
    · refine r_return hX rfl dX7_follow_55 (by decide) (by decide) ?_
      refine ⟨rfl, i, rfl, ⟨k, by omega, Or.inr ((setB_sub (by omega)).mp c19), hi.1⟩, hi.2⟩
    · refine r_aload_n hX dX7_follow_22 rfl ?_
      refine r_iload_n hX dX7_follow_23 rfl ?_
      refine r_iload hX dX7_follow_24 rfl ?_
      refine rn_iadd hX dX7_follow_26 rfl rfl ?_
      refine r_cV1 hX dX7_follow_27 IX9_placesAt ml_X7_22 rfl (LX9_s hb) rfl (t_X9_placesAt (M := wI M i) hb (by omega)) (by decide) (by decide) (by decide) (by decide) rfl (Nat.le_of_ble_eq_true rfl) ?_
      rw [show mI (wI M i) (b + 5) ((h + k) % 168) = setB (fun p => anyB (gstN n (h + k) p) 5) 10 from hTi.us (h + k)]
      refine r_istore7 hX dX7_follow_30 rfl ?_
      refine r_iload hX dX7_follow_32 rfl ?_
      refine r_if_eq (tgt := 49) hX dX7_follow_34 (by decide) (fun c34 => ?_) (fun c34 => ?_)
      · refine rn_iinc6 hX dX7_follow_49 rfl rfl ?_
        refine r_goto (tgt := 3) hX dX7_follow_52 (by decide) ?_
        refine J.junk (ih (by omega) i ⟨fw_idle hO (by omega) (fun p hp z => ?_) hi.1, hi.2⟩) (by repeat first | exact trivial | refine ⟨rfl, ?_⟩)
        have z2 := (setB_0 (by omega)).mp c34 p hp
        rw [z] at z2
        cases z2
      · refine r_aload_n hX dX7_follow_37 rfl ?_
        refine r_aload_n hX dX7_follow_38 rfl ?_
        refine r_iload_n hX dX7_follow_39 rfl ?_
        refine r_iload_n hX dX7_follow_40 rfl ?_
        refine r_iload hX dX7_follow_41 rfl ?_
        refine rn_iadd hX dX7_follow_43 rfl rfl ?_
        refine r_iload hX dX7_follow_44 rfl ?_
        refine r_iV4 hX dX7_follow_46 IX7_lookAt ml_X7_28 rfl (LX7_s hL) rfl (t_X7_lookAt (M := wI M i) (C := (spN n h C O k).1) (O := (spN n h C O k).2) (A := fun p => if O p = true then -1 else arN n h C O k p) hL hb hd hTi hO hw (by omega) hi.1) (by decide) (by decide) (by decide) (by decide) rfl (Nat.le_of_ble_eq_true rfl) (fun i6 h6 => ?_)
        show J G base X _ _ (wI M i6) _ _ _
        refine rn_iinc6 hX dX7_follow_49 rfl rfl ?_
        refine r_goto (tgt := 3) hX dX7_follow_52 (by decide) ?_
        refine J.junk (ih (by omega) i6 ⟨⟨h6.1.1.trans rfl, h6.1.2.1.trans rfl, fun p hp => (h6.1.2.2 p hp).trans (fw_step (by omega) p)⟩, fun x hx q => (h6.2 x hx q).trans (hi.2 x hx q)⟩) (by repeat first | exact trivial | refine ⟨rfl, ?_⟩)
