variable {G : GG} {base : Nat}
theorem pub0 {M : Mm} {a : Nat} {σ : Sg} (hR : RI (mI M) a σ) {v : Int32} {i0 : Nat → Nat → Int32} (h0 : ∀ x j, i0 x j = mI (uI M a 0 v) x j) : RI i0 a σ ∧ mI (wI M i0) (a + 1) = σ.1 ∧ i0 a 0 = v ∧ outB i0 (mI M) a 14 := by
  have e : i0 = mI (uI M a 0 v) := funext fun x => funext fun j => h0 x j
  subst e
  have := hR.kp (kpR.thr (t := v))
  exact ⟨this, this.1, by simp [mI_uI], fun x hx k => congrFun (uIo (by omega)) k⟩
theorem pub1 {M : Mm} {a : Nat} {σ : Sg} {i0 : Nat → Nat → Int32} (hR : RI i0 a σ) (ho : outB i0 (mI M) a 14) (v : Int32) : RI (mI (uI (wI M i0) a 0 v)) a σ ∧ mI (uI (wI M i0) a 0 v) a 0 = v ∧ outB (mI (uI (wI M i0) a 0 v)) (mI M) a 14 :=
  ⟨hR.kp (kpR.thr (M := wI M i0) (t := v)), by simp [mI_uI], fun x hx k => (congrFun (uIo (by omega)) k).trans (ho x hx k)⟩
theorem pub2 {M : Mm} {a : Nat} {σ : Sg} {i0 i1 : Nat → Nat → Int32} (hR : RI i0 a σ) (ho : outB i0 (mI M) a 14) {v : Int32} (ht : i0 a 0 = v) (h : ∀ x, x ≠ a + 7 ∧ x ≠ a + 8 ∧ x ≠ a + 9 ∧ x ≠ a + 10 ∧ x ≠ a + 11 ∧ x ≠ a + 12 → i1 x = i0 x) : RI i1 a σ ∧ mI (wI M i1) (a + 1) = σ.1 ∧ i1 a 0 = v ∧ outB i1 (mI M) a 14 := by
  have := hR.kp (kpR.of h)
  exact ⟨this, this.1, (congrFun (h a (by omega)) 0).trans ht, fun x hx k => (congrFun (h x (by omega)) k).trans (ho x hx k)⟩
set_option maxHeartbeats 2000000 in
set_option maxRecDepth 20000 in
theorem t_X11_noPlace1 {M : Mm} {a : Nat} {n : Nat → Int32} (hL : LX11 M.1 M.2.1 a) (hn : mI M (a + 1) = n) (h0 : Rn n 0 10) {x : Int32} (hx : ∃ c, c < nv n 0 ∧ x = nI c) : Ct G base YX11_noPlace 3 0 0 [.ref a, .int x] M (rE (some (.int 0)) M) := by
  refine Ct.of IX11_noPlace.1 (by simp [Value.category]) (Nat.le_of_ble_eq_true rfl) (fun X hX hN => ?_)
  show J G base X 0 0 M 0 [some (.ref a), some (.int x)] []
  have hm9 : nv n 0 ≤ 10 := h0.2
  refine r_aload_n hX dX11_noPlace_0 rfl ?_
  refine r_iload_n hX dX11_noPlace_1 rfl ?_
  refine r_iconst (v := nI 0) hX dX11_noPlace_2 (by decide) ?_
  refine r_aload_n hX dX11_noPlace_3 rfl ?_
  refine r_cV0 hX dX11_noPlace_4 IX11_places ml_X11_75 rfl (LX11_s hL) rfl (t_X11_places hL hn h0) (by decide) (by decide) (by decide) (by decide) rfl (Nat.le_of_ble_eq_true rfl) ?_
  refine r_iconst (v := 1) hX dX11_noPlace_7 (by decide) ?_
  refine r_isub hX dX11_noPlace_8 ?_
  refine r_cS3 hX dX11_noPlace_9 IX11_in ml_X11_79 rfl (t_X11_in ) (by decide) (by decide) (by decide) (by decide) rfl (Nat.le_of_ble_eq_true rfl) ?_
  refine rb_if_ne (tgt := 19) hX dX11_noPlace_12 (by decide) rfl (fun c12 => ?_) (fun c12 => absurd ((rng (by omega)).mpr hx) (by assumption))
  refine r_iconst (v := nI 0) hX dX11_noPlace_19 (by decide) ?_
  refine r_iconst (v := nI 1) hX dX11_noPlace_20 (by decide) ?_
  refine r_cV2 hX dX11_noPlace_21 IX11_throwsIf ml_X11_215 rfl (LX11_s hL) rfl (t_X11_throwsIf0 hL) (by decide) (by decide) (by decide) (by decide) rfl (Nat.le_of_ble_eq_true rfl) ?_
  refine r_ireturn hX rfl rfl dX11_noPlace_24 (by decide) (by decide) ?_
  exact ⟨rfl, rfl⟩
set_option maxHeartbeats 2000000 in
set_option maxRecDepth 20000 in
theorem t_X11_noPlace0 {M : Mm} {a : Nat} {n : Nat → Int32} (hL : LX11 M.1 M.2.1 a) (hn : mI M (a + 1) = n) (h0 : Rn n 0 10) {x : Int32} (hx : ¬ ∃ c, c < nv n 0 ∧ x = nI c) : Ct G base YX11_noPlace 3 0 0 [.ref a, .int x] M (rE (some (.int 1)) (uI M a 0 1)) := by
  refine Ct.of IX11_noPlace.1 (by simp [Value.category]) (Nat.le_of_ble_eq_true rfl) (fun X hX hN => ?_)
  show J G base X 0 0 M 0 [some (.ref a), some (.int x)] []
  have hm9 : nv n 0 ≤ 10 := h0.2
  refine r_aload_n hX dX11_noPlace_0 rfl ?_
  refine r_iload_n hX dX11_noPlace_1 rfl ?_
  refine r_iconst (v := nI 0) hX dX11_noPlace_2 (by decide) ?_
  refine r_aload_n hX dX11_noPlace_3 rfl ?_
  refine r_cV0 hX dX11_noPlace_4 IX11_places ml_X11_75 rfl (LX11_s hL) rfl (t_X11_places hL hn h0) (by decide) (by decide) (by decide) (by decide) rfl (Nat.le_of_ble_eq_true rfl) ?_
  refine r_iconst (v := 1) hX dX11_noPlace_7 (by decide) ?_
  refine r_isub hX dX11_noPlace_8 ?_
  refine r_cS3 hX dX11_noPlace_9 IX11_in ml_X11_79 rfl (t_X11_in ) (by decide) (by decide) (by decide) (by decide) rfl (Nat.le_of_ble_eq_true rfl) ?_
  refine rb_if_ne (tgt := 19) hX dX11_noPlace_12 (by decide) rfl (fun c12 => absurd ((rng (by omega)).mp (by assumption)) hx) (fun c12 => ?_)
  refine r_iconst (v := nI 1) hX dX11_noPlace_15 (by decide) ?_
  refine r_goto (tgt := 20) hX dX11_noPlace_16 (by decide) ?_
  refine r_iconst (v := nI 1) hX dX11_noPlace_20 (by decide) ?_
  refine r_cV2 hX dX11_noPlace_21 IX11_throwsIf ml_X11_215 rfl (LX11_s hL) rfl (t_X11_throwsIf1 hL) (by decide) (by decide) (by decide) (by decide) rfl (Nat.le_of_ble_eq_true rfl) ?_
  refine r_ireturn hX rfl rfl dX11_noPlace_24 (by decide) (by decide) ?_
  exact ⟨rfl, rfl⟩
set_option maxHeartbeats 2000000 in
set_option maxRecDepth 20000 in
theorem t_X11_noCarrier1 {M : Mm} {a : Nat} {n : Nat → Int32} (hL : LX11 M.1 M.2.1 a) (hn : mI M (a + 1) = n) (h1 : Rn n 1 5) {x : Int32} (hx : ∃ c, c < nv n 1 ∧ x = nI c) : Ct G base YX11_noCarrier 3 0 0 [.ref a, .int x] M (rE (some (.int 0)) M) := by
  refine Ct.of IX11_noCarrier.1 (by simp [Value.category]) (Nat.le_of_ble_eq_true rfl) (fun X hX hN => ?_)
  show J G base X 0 0 M 0 [some (.ref a), some (.int x)] []
  have hm9 : nv n 1 ≤ 5 := h1.2
  refine r_aload_n hX dX11_noCarrier_0 rfl ?_
  refine r_iload_n hX dX11_noCarrier_1 rfl ?_
  refine r_iconst (v := nI 0) hX dX11_noCarrier_2 (by decide) ?_
  refine r_aload_n hX dX11_noCarrier_3 rfl ?_
  refine r_cV0 hX dX11_noCarrier_4 IX11_carriers ml_X11_151 rfl (LX11_s hL) rfl (t_X11_carriers hL hn h1) (by decide) (by decide) (by decide) (by decide) rfl (Nat.le_of_ble_eq_true rfl) ?_
  refine r_iconst (v := 1) hX dX11_noCarrier_7 (by decide) ?_
  refine r_isub hX dX11_noCarrier_8 ?_
  refine r_cS3 hX dX11_noCarrier_9 IX11_in ml_X11_79 rfl (t_X11_in ) (by decide) (by decide) (by decide) (by decide) rfl (Nat.le_of_ble_eq_true rfl) ?_
  refine rb_if_ne (tgt := 19) hX dX11_noCarrier_12 (by decide) rfl (fun c12 => ?_) (fun c12 => absurd ((rng (by omega)).mpr hx) (by assumption))
  refine r_iconst (v := nI 0) hX dX11_noCarrier_19 (by decide) ?_
  refine r_iconst (v := nI 1) hX dX11_noCarrier_20 (by decide) ?_
  refine r_cV2 hX dX11_noCarrier_21 IX11_throwsIf ml_X11_215 rfl (LX11_s hL) rfl (t_X11_throwsIf0 hL) (by decide) (by decide) (by decide) (by decide) rfl (Nat.le_of_ble_eq_true rfl) ?_
  refine r_ireturn hX rfl rfl dX11_noCarrier_24 (by decide) (by decide) ?_
  exact ⟨rfl, rfl⟩
set_option maxHeartbeats 2000000 in
set_option maxRecDepth 20000 in
theorem t_X11_noCarrier0 {M : Mm} {a : Nat} {n : Nat → Int32} (hL : LX11 M.1 M.2.1 a) (hn : mI M (a + 1) = n) (h1 : Rn n 1 5) {x : Int32} (hx : ¬ ∃ c, c < nv n 1 ∧ x = nI c) : Ct G base YX11_noCarrier 3 0 0 [.ref a, .int x] M (rE (some (.int 1)) (uI M a 0 1)) := by
  refine Ct.of IX11_noCarrier.1 (by simp [Value.category]) (Nat.le_of_ble_eq_true rfl) (fun X hX hN => ?_)
  show J G base X 0 0 M 0 [some (.ref a), some (.int x)] []
  have hm9 : nv n 1 ≤ 5 := h1.2
  refine r_aload_n hX dX11_noCarrier_0 rfl ?_
  refine r_iload_n hX dX11_noCarrier_1 rfl ?_
  refine r_iconst (v := nI 0) hX dX11_noCarrier_2 (by decide) ?_
  refine r_aload_n hX dX11_noCarrier_3 rfl ?_
  refine r_cV0 hX dX11_noCarrier_4 IX11_carriers ml_X11_151 rfl (LX11_s hL) rfl (t_X11_carriers hL hn h1) (by decide) (by decide) (by decide) (by decide) rfl (Nat.le_of_ble_eq_true rfl) ?_
  refine r_iconst (v := 1) hX dX11_noCarrier_7 (by decide) ?_
  refine r_isub hX dX11_noCarrier_8 ?_
  refine r_cS3 hX dX11_noCarrier_9 IX11_in ml_X11_79 rfl (t_X11_in ) (by decide) (by decide) (by decide) (by decide) rfl (Nat.le_of_ble_eq_true rfl) ?_
  refine rb_if_ne (tgt := 19) hX dX11_noCarrier_12 (by decide) rfl (fun c12 => absurd ((rng (by omega)).mp (by assumption)) hx) (fun c12 => ?_)
  refine r_iconst (v := nI 1) hX dX11_noCarrier_15 (by decide) ?_
  refine r_goto (tgt := 20) hX dX11_noCarrier_16 (by decide) ?_
  refine r_iconst (v := nI 1) hX dX11_noCarrier_20 (by decide) ?_
  refine r_cV2 hX dX11_noCarrier_21 IX11_throwsIf ml_X11_215 rfl (LX11_s hL) rfl (t_X11_throwsIf1 hL) (by decide) (by decide) (by decide) (by decide) rfl (Nat.le_of_ble_eq_true rfl) ?_
  refine r_ireturn hX rfl rfl dX11_noCarrier_24 (by decide) (by decide) ?_
  exact ⟨rfl, rfl⟩
set_option maxHeartbeats 2000000 in
set_option maxRecDepth 20000 in
theorem t_X11_noLetter1 {M : Mm} {a : Nat} {n : Nat → Int32} (hL : LX11 M.1 M.2.1 a) (hn : mI M (a + 1) = n) (h2 : Rn n 2 30) {x : Int32} (hx : ∃ c, c < nv n 2 ∧ x = nI c) : Ct G base YX11_noLetter 3 0 0 [.ref a, .int x] M (rE (some (.int 0)) M) := by
  refine Ct.of IX11_noLetter.1 (by simp [Value.category]) (Nat.le_of_ble_eq_true rfl) (fun X hX hN => ?_)
  show J G base X 0 0 M 0 [some (.ref a), some (.int x)] []
  have hm9 : nv n 2 ≤ 30 := h2.2
  refine r_aload_n hX dX11_noLetter_0 rfl ?_
  refine r_iload_n hX dX11_noLetter_1 rfl ?_
  refine r_iconst (v := nI 0) hX dX11_noLetter_2 (by decide) ?_
  refine r_aload_n hX dX11_noLetter_3 rfl ?_
  refine r_cV0 hX dX11_noLetter_4 IX11_letters ml_X11_170 rfl (LX11_s hL) rfl (t_X11_letters hL hn h2) (by decide) (by decide) (by decide) (by decide) rfl (Nat.le_of_ble_eq_true rfl) ?_
  refine r_iconst (v := 1) hX dX11_noLetter_7 (by decide) ?_
  refine r_isub hX dX11_noLetter_8 ?_
  refine r_cS3 hX dX11_noLetter_9 IX11_in ml_X11_79 rfl (t_X11_in ) (by decide) (by decide) (by decide) (by decide) rfl (Nat.le_of_ble_eq_true rfl) ?_
  refine rb_if_ne (tgt := 19) hX dX11_noLetter_12 (by decide) rfl (fun c12 => ?_) (fun c12 => absurd ((rng (by omega)).mpr hx) (by assumption))
  refine r_iconst (v := nI 0) hX dX11_noLetter_19 (by decide) ?_
  refine r_iconst (v := nI 1) hX dX11_noLetter_20 (by decide) ?_
  refine r_cV2 hX dX11_noLetter_21 IX11_throwsIf ml_X11_215 rfl (LX11_s hL) rfl (t_X11_throwsIf0 hL) (by decide) (by decide) (by decide) (by decide) rfl (Nat.le_of_ble_eq_true rfl) ?_
  refine r_ireturn hX rfl rfl dX11_noLetter_24 (by decide) (by decide) ?_
  exact ⟨rfl, rfl⟩
set_option maxHeartbeats 2000000 in
set_option maxRecDepth 20000 in
theorem t_X11_noLetter0 {M : Mm} {a : Nat} {n : Nat → Int32} (hL : LX11 M.1 M.2.1 a) (hn : mI M (a + 1) = n) (h2 : Rn n 2 30) {x : Int32} (hx : ¬ ∃ c, c < nv n 2 ∧ x = nI c) : Ct G base YX11_noLetter 3 0 0 [.ref a, .int x] M (rE (some (.int 1)) (uI M a 0 1)) := by
  refine Ct.of IX11_noLetter.1 (by simp [Value.category]) (Nat.le_of_ble_eq_true rfl) (fun X hX hN => ?_)
  show J G base X 0 0 M 0 [some (.ref a), some (.int x)] []
  have hm9 : nv n 2 ≤ 30 := h2.2
  refine r_aload_n hX dX11_noLetter_0 rfl ?_
  refine r_iload_n hX dX11_noLetter_1 rfl ?_
  refine r_iconst (v := nI 0) hX dX11_noLetter_2 (by decide) ?_
  refine r_aload_n hX dX11_noLetter_3 rfl ?_
  refine r_cV0 hX dX11_noLetter_4 IX11_letters ml_X11_170 rfl (LX11_s hL) rfl (t_X11_letters hL hn h2) (by decide) (by decide) (by decide) (by decide) rfl (Nat.le_of_ble_eq_true rfl) ?_
  refine r_iconst (v := 1) hX dX11_noLetter_7 (by decide) ?_
  refine r_isub hX dX11_noLetter_8 ?_
  refine r_cS3 hX dX11_noLetter_9 IX11_in ml_X11_79 rfl (t_X11_in ) (by decide) (by decide) (by decide) (by decide) rfl (Nat.le_of_ble_eq_true rfl) ?_
  refine rb_if_ne (tgt := 19) hX dX11_noLetter_12 (by decide) rfl (fun c12 => absurd ((rng (by omega)).mp (by assumption)) hx) (fun c12 => ?_)
  refine r_iconst (v := nI 1) hX dX11_noLetter_15 (by decide) ?_
  refine r_goto (tgt := 20) hX dX11_noLetter_16 (by decide) ?_
  refine r_iconst (v := nI 1) hX dX11_noLetter_20 (by decide) ?_
  refine r_cV2 hX dX11_noLetter_21 IX11_throwsIf ml_X11_215 rfl (LX11_s hL) rfl (t_X11_throwsIf1 hL) (by decide) (by decide) (by decide) (by decide) rfl (Nat.le_of_ble_eq_true rfl) ?_
  refine r_ireturn hX rfl rfl dX11_noLetter_24 (by decide) (by decide) ?_
  exact ⟨rfl, rfl⟩
set_option maxHeartbeats 2000000 in
set_option maxRecDepth 20000 in
theorem t_X11_noLost1 {M : Mm} {a : Nat} {n : Nat → Int32} (hL : LX11 M.1 M.2.1 a) (hn : mI M (a + 1) = n) (h3 : Rn n 3 30) {x : Int32} (hx : ∃ c, c < nv n 3 ∧ x = nI c) : Ct G base YX11_noLost 3 0 0 [.ref a, .int x] M (rE (some (.int 0)) M) := by
  refine Ct.of IX11_noLost.1 (by simp [Value.category]) (Nat.le_of_ble_eq_true rfl) (fun X hX hN => ?_)
  show J G base X 0 0 M 0 [some (.ref a), some (.int x)] []
  have hm9 : nv n 3 ≤ 30 := h3.2
  refine r_aload_n hX dX11_noLost_0 rfl ?_
  refine r_iload_n hX dX11_noLost_1 rfl ?_
  refine r_iconst (v := nI 0) hX dX11_noLost_2 (by decide) ?_
  refine r_aload_n hX dX11_noLost_3 rfl ?_
  refine r_getr hX dX11_noLost_4 fl_X11_13 rfl (LX11_s hL) (LX11_r1 hL) ?_
  refine r_iconst (v := nI 3) hX dX11_noLost_7 (by decide) ?_
  refine rn_iald hX dX11_noLost_8 (LX11_a1 hL) rfl (by omega) (by omega) ?_
  rw [hn]
  rw [h3.1]
  refine r_iconst (v := 1) hX dX11_noLost_9 (by decide) ?_
  refine r_isub hX dX11_noLost_10 ?_
  refine r_cS3 hX dX11_noLost_11 IX11_in ml_X11_79 rfl (t_X11_in ) (by decide) (by decide) (by decide) (by decide) rfl (Nat.le_of_ble_eq_true rfl) ?_
  refine rb_if_ne (tgt := 21) hX dX11_noLost_14 (by decide) rfl (fun c14 => ?_) (fun c14 => absurd ((rng (by omega)).mpr hx) (by assumption))
  refine r_iconst (v := nI 0) hX dX11_noLost_21 (by decide) ?_
  refine r_iconst (v := nI 1) hX dX11_noLost_22 (by decide) ?_
  refine r_cV2 hX dX11_noLost_23 IX11_throwsIf ml_X11_215 rfl (LX11_s hL) rfl (t_X11_throwsIf0 hL) (by decide) (by decide) (by decide) (by decide) rfl (Nat.le_of_ble_eq_true rfl) ?_
  refine r_ireturn hX rfl rfl dX11_noLost_26 (by decide) (by decide) ?_
  exact ⟨rfl, rfl⟩
set_option maxHeartbeats 2000000 in
set_option maxRecDepth 20000 in
theorem t_X11_noLost0 {M : Mm} {a : Nat} {n : Nat → Int32} (hL : LX11 M.1 M.2.1 a) (hn : mI M (a + 1) = n) (h3 : Rn n 3 30) {x : Int32} (hx : ¬ ∃ c, c < nv n 3 ∧ x = nI c) : Ct G base YX11_noLost 3 0 0 [.ref a, .int x] M (rE (some (.int 1)) (uI M a 0 1)) := by
  refine Ct.of IX11_noLost.1 (by simp [Value.category]) (Nat.le_of_ble_eq_true rfl) (fun X hX hN => ?_)
  show J G base X 0 0 M 0 [some (.ref a), some (.int x)] []
  have hm9 : nv n 3 ≤ 30 := h3.2
  refine r_aload_n hX dX11_noLost_0 rfl ?_
  refine r_iload_n hX dX11_noLost_1 rfl ?_
  refine r_iconst (v := nI 0) hX dX11_noLost_2 (by decide) ?_
  refine r_aload_n hX dX11_noLost_3 rfl ?_
  refine r_getr hX dX11_noLost_4 fl_X11_13 rfl (LX11_s hL) (LX11_r1 hL) ?_
  refine r_iconst (v := nI 3) hX dX11_noLost_7 (by decide) ?_
  refine rn_iald hX dX11_noLost_8 (LX11_a1 hL) rfl (by omega) (by omega) ?_
  rw [hn]
  rw [h3.1]
  refine r_iconst (v := 1) hX dX11_noLost_9 (by decide) ?_
  refine r_isub hX dX11_noLost_10 ?_
  refine r_cS3 hX dX11_noLost_11 IX11_in ml_X11_79 rfl (t_X11_in ) (by decide) (by decide) (by decide) (by decide) rfl (Nat.le_of_ble_eq_true rfl) ?_
  refine rb_if_ne (tgt := 21) hX dX11_noLost_14 (by decide) rfl (fun c14 => absurd ((rng (by omega)).mp (by assumption)) hx) (fun c14 => ?_)
  refine r_iconst (v := nI 1) hX dX11_noLost_17 (by decide) ?_
  refine r_goto (tgt := 22) hX dX11_noLost_18 (by decide) ?_
  refine r_iconst (v := nI 1) hX dX11_noLost_22 (by decide) ?_
  refine r_cV2 hX dX11_noLost_23 IX11_throwsIf ml_X11_215 rfl (LX11_s hL) rfl (t_X11_throwsIf1 hL) (by decide) (by decide) (by decide) (by decide) rfl (Nat.le_of_ble_eq_true rfl) ?_
  refine r_ireturn hX rfl rfl dX11_noLost_26 (by decide) (by decide) ?_
  exact ⟨rfl, rfl⟩
set_option maxHeartbeats 2000000 in
set_option maxRecDepth 20000 in
theorem t_X11_noPair1 {M : Mm} {a : Nat} {n : Nat → Int32} (hL : LX11 M.1 M.2.1 a) (hn : mI M (a + 1) = n) (h0 : Rn n 0 10) {f t : Nat} (hf : town n f = true) (ht : town n t = true) (hne : f ≠ t) : Ct G base YX11_noPair 3 0 0 [.ref a, .int (nI f), .int (nI t)] M (rE (some (.int 0)) M) := by
  refine Ct.of IX11_noPair.1 (by simp [Value.category]) (Nat.le_of_ble_eq_true rfl) (fun X hX hN => ?_)
  show J G base X 0 0 M 0 [some (.ref a), some (.int (nI f)), some (.int (nI t))] []
  have hb := h0.2
  have h1 : f < nv n 0 ∧ n (8 + f) = 1 := by simpa [town] using hf
  have h2 : t < nv n 0 ∧ n (8 + t) = 1 := by simpa [town] using ht
  refine r_aload_n hX dX11_noPair_0 rfl ?_
  refine r_aload_n hX dX11_noPair_1 rfl ?_
  refine r_iload_n hX dX11_noPair_2 rfl ?_
  refine r_cV1 hX dX11_noPair_3 IX11_isTown ml_X11_166 rfl (LX11_s hL) rfl (t_X11_isTown hL hn h0) (by decide) (by decide) (by decide) (by decide) rfl (Nat.le_of_ble_eq_true rfl) ?_
  refine rb_if_eq (tgt := 22) hX dX11_noPair_6 (by decide) rfl (fun c6 => absurd ((town_iff h0 h1.1).mpr hf) c6) (fun c6 => ?_)
  refine r_aload_n hX dX11_noPair_9 rfl ?_
  refine r_iload_n hX dX11_noPair_10 rfl ?_
  refine r_cV1 hX dX11_noPair_11 IX11_isTown ml_X11_166 rfl (LX11_s hL) rfl (t_X11_isTown hL hn h0) (by decide) (by decide) (by decide) (by decide) rfl (Nat.le_of_ble_eq_true rfl) ?_
  refine rb_if_eq (tgt := 22) hX dX11_noPair_14 (by decide) rfl (fun c14 => absurd ((town_iff h0 h2.1).mpr ht) c14) (fun c14 => ?_)
  refine r_iload_n hX dX11_noPair_17 rfl ?_
  refine r_iload_n hX dX11_noPair_18 rfl ?_
  refine rn_icmp_ne (tgt := 26) hX dX11_noPair_19 (by decide) rfl rfl (by omega) (by omega) (fun c19 => ?_) (fun c19 => absurd c19 hne)
  refine r_iconst (v := nI 0) hX dX11_noPair_26 (by decide) ?_
  refine r_iconst (v := nI 1) hX dX11_noPair_27 (by decide) ?_
  refine r_cV2 hX dX11_noPair_28 IX11_throwsIf ml_X11_215 rfl (LX11_s hL) rfl (t_X11_throwsIf0 hL) (by decide) (by decide) (by decide) (by decide) rfl (Nat.le_of_ble_eq_true rfl) ?_
  refine r_ireturn hX rfl rfl dX11_noPair_31 (by decide) (by decide) ?_
  exact ⟨rfl, rfl⟩
set_option maxHeartbeats 2000000 in
set_option maxRecDepth 20000 in
theorem t_X11_noPair0 {M : Mm} {a : Nat} {n : Nat → Int32} (hL : LX11 M.1 M.2.1 a) (hn : mI M (a + 1) = n) (h0 : Rn n 0 10) {x y : Int32} (hx : ¬ ∃ p q, x = nI p ∧ y = nI q ∧ town n p = true ∧ town n q = true ∧ p ≠ q) : Ct G base YX11_noPair 3 0 0 [.ref a, .int x, .int y] M (rE (some (.int 1)) (uI M a 0 1)) := by
  refine Ct.of IX11_noPair.1 (by simp [Value.category]) (Nat.le_of_ble_eq_true rfl) (fun X hX hN => ?_)
  show J G base X 0 0 M 0 [some (.ref a), some (.int x), some (.int y)] []
  refine r_aload_n hX dX11_noPair_0 rfl ?_
  refine r_aload_n hX dX11_noPair_1 rfl ?_
  refine r_iload_n hX dX11_noPair_2 rfl ?_
  refine r_cV1 hX dX11_noPair_3 IX11_isTown ml_X11_166 rfl (LX11_s hL) rfl (t_X11_isTown hL hn h0) (by decide) (by decide) (by decide) (by decide) rfl (Nat.le_of_ble_eq_true rfl) ?_
  refine rb_if_eq (tgt := 22) hX dX11_noPair_6 (by decide) rfl (fun c6 => ?_) (fun c6 => ?_)
  · refine r_iconst (v := nI 1) hX dX11_noPair_22 (by decide) ?_
    refine r_goto (tgt := 27) hX dX11_noPair_23 (by decide) ?_
    refine r_iconst (v := nI 1) hX dX11_noPair_27 (by decide) ?_
    refine r_cV2 hX dX11_noPair_28 IX11_throwsIf ml_X11_215 rfl (LX11_s hL) rfl (t_X11_throwsIf1 hL) (by decide) (by decide) (by decide) (by decide) rfl (Nat.le_of_ble_eq_true rfl) ?_
    refine r_ireturn hX rfl rfl dX11_noPair_31 (by decide) (by decide) ?_
    exact ⟨rfl, rfl⟩
  · refine r_aload_n hX dX11_noPair_9 rfl ?_
    refine r_iload_n hX dX11_noPair_10 rfl ?_
    refine r_cV1 hX dX11_noPair_11 IX11_isTown ml_X11_166 rfl (LX11_s hL) rfl (t_X11_isTown hL hn h0) (by decide) (by decide) (by decide) (by decide) rfl (Nat.le_of_ble_eq_true rfl) ?_
    refine rb_if_eq (tgt := 22) hX dX11_noPair_14 (by decide) rfl (fun c14 => ?_) (fun c14 => ?_)
    · refine r_iconst (v := nI 1) hX dX11_noPair_22 (by decide) ?_
      refine r_goto (tgt := 27) hX dX11_noPair_23 (by decide) ?_
      refine r_iconst (v := nI 1) hX dX11_noPair_27 (by decide) ?_
      refine r_cV2 hX dX11_noPair_28 IX11_throwsIf ml_X11_215 rfl (LX11_s hL) rfl (t_X11_throwsIf1 hL) (by decide) (by decide) (by decide) (by decide) rfl (Nat.le_of_ble_eq_true rfl) ?_
      refine r_ireturn hX rfl rfl dX11_noPair_31 (by decide) (by decide) ?_
      exact ⟨rfl, rfl⟩
    · refine r_iload_n hX dX11_noPair_17 rfl ?_
      refine r_iload_n hX dX11_noPair_18 rfl ?_
      refine r_icmp_ne (tgt := 26) hX dX11_noPair_19 (by decide) (fun c19 => ?_) (fun c19 => ?_)
      · exfalso
        obtain ⟨p, h1, rfl, h2⟩ := (town_is h0).mp c6
        obtain ⟨q, h3, rfl, h4⟩ := (town_is h0).mp c14
        have hb := h0.2
        exact hx ⟨p, q, rfl, rfl, h2, h4, fun e => c19 (by rw [e])⟩
      · refine r_iconst (v := nI 1) hX dX11_noPair_22 (by decide) ?_
        refine r_goto (tgt := 27) hX dX11_noPair_23 (by decide) ?_
        refine r_iconst (v := nI 1) hX dX11_noPair_27 (by decide) ?_
        refine r_cV2 hX dX11_noPair_28 IX11_throwsIf ml_X11_215 rfl (LX11_s hL) rfl (t_X11_throwsIf1 hL) (by decide) (by decide) (by decide) (by decide) rfl (Nat.le_of_ble_eq_true rfl) ?_
        refine r_ireturn hX rfl rfl dX11_noPair_31 (by decide) (by decide) ?_
        exact ⟨rfl, rfl⟩
set_option maxHeartbeats 2000000 in
set_option maxRecDepth 20000 in
theorem t_X11_manyIn {M : Mm} {a : Nat} {n : Nat → Int32} (hL : LX11 M.1 M.2.1 a) (hn : mI M (a + 1) = n) (h2 : Rn n 2 30) {kd pl : Int32} : Ct G base YX11_manyIn 3 0 0 [.ref a, .int kd, .int pl] M (rE (some (.int (nI (cntK (lK n) (lW n) kd pl (nv n 2))))) M) := by
  refine Ct.of IX11_manyIn.1 (by simp [Value.category]) (Nat.le_of_ble_eq_true rfl) (fun X hX hN => ?_)
  show J G base X 0 0 M 0 [some (.ref a), some (.int kd), some (.int pl), none, none] []
  refine r_iconst (v := nI 0) hX dX11_manyIn_0 (by decide) ?_
  refine r_istore3 hX dX11_manyIn_1 rfl ?_
  refine r_iconst (v := nI 0) hX dX11_manyIn_2 (by decide) ?_
  refine r_istore4 hX dX11_manyIn_3 rfl ?_
  have hm := h2.2
  refine loop_up (P := fun j => J G base X 0 0 M 5 [some (.ref a), some (.int kd), some (.int pl), some (.int (nI (cntK (lK n) (lW n) kd pl j))), some (.int (nI j))] []) (nv n 2) (fun j hj ih => ?_) 0 (Nat.zero_le _)
  refine r_iload hX dX11_manyIn_5 rfl ?_
  refine r_aload_n hX dX11_manyIn_7 rfl ?_
  refine r_cV0 hX dX11_manyIn_8 IX11_letters ml_X11_170 rfl (LX11_s hL) rfl (t_X11_letters hL hn h2) (by decide) (by decide) (by decide) (by decide) rfl (Nat.le_of_ble_eq_true rfl) ?_
  refine rn_icmp_ge (tgt := 39) hX dX11_manyIn_11 (by decide) rfl rfl (by omega) (by omega) (fun c11 => ?_) (fun c11 => ?_)
  · refine r_iload_n hX dX11_manyIn_39 rfl ?_
    refine r_ireturn hX rfl rfl dX11_manyIn_40 (by decide) (by decide) ?_
    obtain rfl : j = nv n 2 := by omega
    exact ⟨rfl, rfl⟩
  · refine r_iload_n hX dX11_manyIn_14 rfl ?_
    refine r_aload_n hX dX11_manyIn_15 rfl ?_
    refine r_iload hX dX11_manyIn_16 rfl ?_
    refine r_iload_n hX dX11_manyIn_18 rfl ?_
    refine r_iload_n hX dX11_manyIn_19 rfl ?_
    refine r_cV3 hX dX11_manyIn_20 IX11_isIn ml_X11_262 rfl (LX11_s hL) rfl (t_X11_isIn hL hn (by omega)) (by decide) (by decide) (by decide) (by decide) rfl (Nat.le_of_ble_eq_true rfl) ?_
    refine rb_if_eq (tgt := 30) hX dX11_manyIn_23 (by decide) rfl (fun c23 => ?_) (fun c23 => ?_)
    · refine r_iconst (v := nI 0) hX dX11_manyIn_30 (by decide) ?_
      refine rn_iadd hX dX11_manyIn_31 rfl rfl ?_
      refine r_istore3 hX dX11_manyIn_32 rfl ?_
      refine rn_iinc4 hX dX11_manyIn_33 rfl rfl ?_
      refine r_goto (tgt := 5) hX dX11_manyIn_36 (by decide) ?_
      have h9 := ih (by omega)
      simp only [cntK] at h9
      first
        | (rw [if_pos c23] at h9; exact h9)
        | (rw [if_neg c23] at h9; exact h9)
    · refine r_iconst (v := nI 1) hX dX11_manyIn_26 (by decide) ?_
      refine r_goto (tgt := 31) hX dX11_manyIn_27 (by decide) ?_
      refine rn_iadd hX dX11_manyIn_31 rfl rfl ?_
      refine r_istore3 hX dX11_manyIn_32 rfl ?_
      refine rn_iinc4 hX dX11_manyIn_33 rfl rfl ?_
      refine r_goto (tgt := 5) hX dX11_manyIn_36 (by decide) ?_
      have h9 := ih (by omega)
      simp only [cntK] at h9
      first
        | (rw [if_pos c23] at h9; exact h9)
        | (rw [if_neg c23] at h9; exact h9)
set_option maxHeartbeats 2000000 in
set_option maxRecDepth 20000 in
theorem t_X11_valueIn {M : Mm} {a : Nat} {n : Nat → Int32} (hL : LX11 M.1 M.2.1 a) (hn : mI M (a + 1) = n) (h2 : Rn n 2 30) {kd pl : Int32} : Ct G base YX11_valueIn 3 0 0 [.ref a, .int kd, .int pl] M (rE (some (.int (sumK (lK n) (lW n) (lV n) kd pl (nv n 2)))) M) := by
  refine Ct.of IX11_valueIn.1 (by simp [Value.category]) (Nat.le_of_ble_eq_true rfl) (fun X hX hN => ?_)
  show J G base X 0 0 M 0 [some (.ref a), some (.int kd), some (.int pl), none, none] []
  refine r_iconst (v := nI 0) hX dX11_valueIn_0 (by decide) ?_
  refine r_istore3 hX dX11_valueIn_1 rfl ?_
  refine r_iconst (v := nI 0) hX dX11_valueIn_2 (by decide) ?_
  refine r_istore4 hX dX11_valueIn_3 rfl ?_
  have hm := h2.2
  refine loop_up (P := fun j => J G base X 0 0 M 5 [some (.ref a), some (.int kd), some (.int pl), some (.int (sumK (lK n) (lW n) (lV n) kd pl j)), some (.int (nI j))] []) (nv n 2) (fun j hj ih => ?_) 0 (Nat.zero_le _)
  refine r_iload hX dX11_valueIn_5 rfl ?_
  refine r_aload_n hX dX11_valueIn_7 rfl ?_
  refine r_cV0 hX dX11_valueIn_8 IX11_letters ml_X11_170 rfl (LX11_s hL) rfl (t_X11_letters hL hn h2) (by decide) (by decide) (by decide) (by decide) rfl (Nat.le_of_ble_eq_true rfl) ?_
  refine rn_icmp_ge (tgt := 45) hX dX11_valueIn_11 (by decide) rfl rfl (by omega) (by omega) (fun c11 => ?_) (fun c11 => ?_)
  · refine r_iload_n hX dX11_valueIn_45 rfl ?_
    refine r_ireturn hX rfl rfl dX11_valueIn_46 (by decide) (by decide) ?_
    obtain rfl : j = nv n 2 := by omega
    exact ⟨rfl, rfl⟩
  · refine r_iload_n hX dX11_valueIn_14 rfl ?_
    refine r_aload_n hX dX11_valueIn_15 rfl ?_
    refine r_iload hX dX11_valueIn_16 rfl ?_
    refine r_iload_n hX dX11_valueIn_18 rfl ?_
    refine r_iload_n hX dX11_valueIn_19 rfl ?_
    refine r_cV3 hX dX11_valueIn_20 IX11_isIn ml_X11_262 rfl (LX11_s hL) rfl (t_X11_isIn hL hn (by omega)) (by decide) (by decide) (by decide) (by decide) rfl (Nat.le_of_ble_eq_true rfl) ?_
    refine rb_if_eq (tgt := 36) hX dX11_valueIn_23 (by decide) rfl (fun c23 => ?_) (fun c23 => ?_)
    · refine r_iconst (v := nI 0) hX dX11_valueIn_36 (by decide) ?_
      refine r_iadd hX dX11_valueIn_37 ?_
      refine r_istore3 hX dX11_valueIn_38 rfl ?_
      refine rn_iinc4 hX dX11_valueIn_39 rfl rfl ?_
      refine r_goto (tgt := 5) hX dX11_valueIn_42 (by decide) ?_
      have h9 := ih (by omega)
      simp only [sumK] at h9
      first
        | (rw [if_pos c23] at h9; exact h9)
        | (rw [if_neg c23] at h9; exact h9)
    · refine r_aload_n hX dX11_valueIn_26 rfl ?_
      refine r_iload hX dX11_valueIn_27 rfl ?_
      refine r_iconst (v := nI 2) hX dX11_valueIn_29 (by decide) ?_
      refine r_cV2 hX dX11_valueIn_30 IX11_of ml_X11_67 rfl (LX11_s hL) rfl (t_X11_of hL hn (by omega) (by decide)) (by decide) (by decide) (by decide) (by decide) rfl (Nat.le_of_ble_eq_true rfl) ?_
      refine r_goto (tgt := 37) hX dX11_valueIn_33 (by decide) ?_
      refine r_iadd hX dX11_valueIn_37 ?_
      refine r_istore3 hX dX11_valueIn_38 rfl ?_
      refine rn_iinc4 hX dX11_valueIn_39 rfl rfl ?_
      refine r_goto (tgt := 5) hX dX11_valueIn_42 (by decide) ?_
      have h9 := ih (by omega)
      simp only [sumK] at h9
      first
        | (rw [if_pos c23] at h9; exact h9)
        | (rw [if_neg c23] at h9; exact h9)
theorem nth_left {c : Nat} {k : Int32} (h : c < 1000) : k - nI c = 0 ↔ nI c = k := by
  constructor
  · intro e
    have : k = nI c := by
      apply Int32.toBitVec_inj.1
      have e2 := congrArg Int32.toBitVec e
      rw [Int32.toBitVec_sub] at e2
      generalize k.toBitVec = x at *
      generalize (nI c).toBitVec = y at *
      have e3 : x - y = 0#32 := e2
      bv_omega
    exact this.symm
  · intro e
    rw [e]
    apply Int32.toBitVec_inj.1
    rw [Int32.toBitVec_sub]
    show k.toBitVec - k.toBitVec = 0#32
    exact BitVec.sub_self _
theorem nth_dec (k : Int32) (c : Nat) : k - nI c + Int32.ofInt (-1) = k - nI (c + 1) := by
  apply Int32.toBitVec_inj.1
  rw [← nI_1]
  rw [Int32.toBitVec_add, Int32.toBitVec_sub, Int32.toBitVec_sub, Int32.toBitVec_add]
  generalize k.toBitVec = x
  generalize (nI c).toBitVec = y
  show x - y + BitVec.ofInt 32 (-1) = x - (y + 1#32)
  rw [show BitVec.ofInt 32 (-1) = -1#32 from rfl]
  bv_omega
set_option maxHeartbeats 2000000 in
set_option maxRecDepth 20000 in
theorem t_X11_nthIn {M : Mm} {a : Nat} {n : Nat → Int32} (hL : LX11 M.1 M.2.1 a) (hn : mI M (a + 1) = n) (h2 : Rn n 2 30) {kd pl k : Int32} : Ct G base YX11_nthIn 3 0 0 [.ref a, .int kd, .int pl, .int k] M (rE (some (.int (nthK (lK n) (lW n) kd pl k (nv n 2)))) M) := by
  refine Ct.of IX11_nthIn.1 (by simp [Value.category]) (Nat.le_of_ble_eq_true rfl) (fun X hX hN => ?_)
  show J G base X 0 0 M 0 [some (.ref a), some (.int kd), some (.int pl), some (.int k), none, none] []
  refine r_iload_n hX dX11_nthIn_0 rfl ?_
  refine r_istore4 hX dX11_nthIn_1 rfl ?_
  refine r_iconst (v := nI 0) hX dX11_nthIn_3 (by decide) ?_
  refine r_istore5 hX dX11_nthIn_4 rfl ?_
  have hm := h2.2
  have hk0 : k = k - nI (cntK (lK n) (lW n) kd pl 0) := by
    apply Int32.toBitVec_inj.1
    rw [Int32.toBitVec_sub]
    exact (BitVec.sub_zero _).symm
  have main : ∀ z, z = k - nI (cntK (lK n) (lW n) kd pl 0) → J G base X 0 0 M 6 [some (.ref a), some (.int kd), some (.int pl), some (.int k), some (.int z), some (.int (nI 0))] [] := ?_
  · exact main k hk0
  rintro z rfl
  refine loop_up (P := fun j => nthK (lK n) (lW n) kd pl k j = -1 → J G base X 0 0 M 6 [some (.ref a), some (.int kd), some (.int pl), some (.int k), some (.int (k - nI (cntK (lK n) (lW n) kd pl j))), some (.int (nI j))] []) (nv n 2) (fun j hj ih hno => ?_) 0 (Nat.zero_le _) rfl
  have hcl := cntK_le (lK n) (lW n) kd pl j
  refine r_iload hX dX11_nthIn_6 rfl ?_
  refine r_aload_n hX dX11_nthIn_8 rfl ?_
  refine r_cV0 hX dX11_nthIn_9 IX11_letters ml_X11_170 rfl (LX11_s hL) rfl (t_X11_letters hL hn h2) (by decide) (by decide) (by decide) (by decide) rfl (Nat.le_of_ble_eq_true rfl) ?_
  refine rn_icmp_ge (tgt := 46) hX dX11_nthIn_12 (by decide) rfl rfl (by omega) (by omega) (fun c12 => ?_) (fun c12 => ?_)
  · refine r_iconst (v := (-1)) hX dX11_nthIn_46 (by decide) ?_
    refine r_ireturn hX rfl rfl dX11_nthIn_47 (by decide) (by decide) ?_
    obtain rfl : j = nv n 2 := by omega
    exact ⟨by rw [hno], rfl⟩
  · refine r_aload_n hX dX11_nthIn_15 rfl ?_
    refine r_iload hX dX11_nthIn_16 rfl ?_
    refine r_iload_n hX dX11_nthIn_18 rfl ?_
    refine r_iload_n hX dX11_nthIn_19 rfl ?_
    refine r_cV3 hX dX11_nthIn_20 IX11_isIn ml_X11_262 rfl (LX11_s hL) rfl (t_X11_isIn hL hn (by omega)) (by decide) (by decide) (by decide) (by decide) rfl (Nat.le_of_ble_eq_true rfl) ?_
    refine rb_if_ne (tgt := 29) hX dX11_nthIn_23 (by decide) rfl (fun c23 => ?_) (fun c23 => ?_)
    · refine r_iload hX dX11_nthIn_29 rfl ?_
      refine r_if_ne (tgt := 37) hX dX11_nthIn_31 (by decide) (fun c31 => ?_) (fun c31 => ?_)
      · refine r_iinc4 hX dX11_nthIn_37 rfl ?_
        refine rn_iinc5 hX dX11_nthIn_40 rfl rfl ?_
        refine r_goto (tgt := 6) hX dX11_nthIn_43 (by decide) ?_
        have h9 := ih (by omega)
        simp only [nthK, cntK] at h9
        first
          | (have hin : ¬ (lK n j = kd ∧ lW n j = pl) := c23
             rw [if_pos hno, if_neg (fun z => hin z.1), if_neg hin] at h9
             exact h9 rfl)
          | (have hin : lK n j = kd ∧ lW n j = pl := c23
             rw [if_pos hno, if_neg (fun z => c31 ((nth_left (by omega)).mpr z.2)), if_pos hin, ← nth_dec] at h9
             exact h9 rfl)
      · refine r_iload hX dX11_nthIn_34 rfl ?_
        refine r_ireturn hX rfl rfl dX11_nthIn_36 (by decide) (by decide) ?_
        refine ⟨?_, rfl⟩
        have hin : lK n j = kd ∧ lW n j = pl := c23
        rw [nthK_stay (j := j) (by omega) ?_ (by omega)]
        simp only [nthK]
        rw [if_pos hno, if_pos ⟨hin, (nth_left (by omega)).mp c31⟩]
    · refine r_goto (tgt := 40) hX dX11_nthIn_26 (by decide) ?_
      refine rn_iinc5 hX dX11_nthIn_40 rfl rfl ?_
      refine r_goto (tgt := 6) hX dX11_nthIn_43 (by decide) ?_
      have h9 := ih (by omega)
      simp only [nthK, cntK] at h9
      first
        | (have hin : ¬ (lK n j = kd ∧ lW n j = pl) := c23
           rw [if_pos hno, if_neg (fun z => hin z.1), if_neg hin] at h9
           exact h9 rfl)
        | (have hin : lK n j = kd ∧ lW n j = pl := c23
           rw [if_pos hno, if_neg (fun z => c31 ((nth_left (by omega)).mpr z.2)), if_pos hin, ← nth_dec] at h9
           exact h9 rfl)
set_option maxHeartbeats 2000000 in
set_option maxRecDepth 20000 in
theorem t_X11_comesLate {M : Mm} {a : Nat} {n : Nat → Int32} (hL : LX11 M.1 M.2.1 a) (hn : mI M (a + 1) = n) {l : Nat} (hl : l < 30) : Ct G base YX11_comesLate 2 0 0 [.ref a, .int (nI l)] M (rE (some (.int (if lateB n l = true then 1 else 0))) M) := by
  refine Ct.of IX11_comesLate.1 (by simp [Value.category]) (Nat.le_of_ble_eq_true rfl) (fun X hX hN => ?_)
  show J G base X 0 0 M 0 [some (.ref a), some (.int (nI l)), none] []
  refine r_aload_n hX dX11_comesLate_0 rfl ?_
  refine r_iload_n hX dX11_comesLate_1 rfl ?_
  refine r_bipush (v := nI 6) hX dX11_comesLate_2 (by decide) ?_
  refine r_cV2 hX dX11_comesLate_4 IX11_of ml_X11_67 rfl (LX11_s hL) rfl (t_X11_of hL hn (by omega) (by decide)) (by decide) (by decide) (by decide) (by decide) rfl (Nat.le_of_ble_eq_true rfl) ?_
  refine r_istore2 hX dX11_comesLate_7 rfl ?_
  refine r_iload_n hX dX11_comesLate_8 rfl ?_
  refine r_iconst (v := (-1)) hX dX11_comesLate_9 (by decide) ?_
  refine r_icmp_eq (tgt := 48) hX dX11_comesLate_10 (by decide) (fun c10 => ?_) (fun c10 => ?_)
  · refine r_iconst (v := 0) hX dX11_comesLate_48 (by decide) ?_
    refine r_ireturn hX rfl rfl dX11_comesLate_49 (by decide) (by decide) ?_
    have hb : lateB n l = true ↔ lateK (n (498 + 10 * l + 3)) (n (498 + 10 * l + 7)) (n (498 + 10 * l + 6)) (n 6) := by simp [lateB]
    refine ⟨?_, rfl⟩
    by_cases hz : lateB n l = true
    · obtain ⟨z1, z2⟩ := hb.mp hz
      rw [if_pos hz]
      first
        | done
        | rfl
        | exact absurd c10 z1
        | (rw [if_pos c20] at z2
           exact absurd z2 (i_nlt.mpr c41))
        | (rw [if_neg c20] at z2
           exact absurd z2 (i_nlt.mpr c41))
    · rw [if_neg hz]
      first
        | done
        | rfl
        | exact absurd (hb.mpr ⟨c10, (if_pos c20 : (if n (498 + 10 * l + 3) = 2 then n (498 + 10 * l + 7) else n 6) = _).symm ▸ i_nle.mp c41⟩) hz
        | exact absurd (hb.mpr ⟨c10, (if_neg c20 : (if n (498 + 10 * l + 3) = 2 then n (498 + 10 * l + 7) else n 6) = _).symm ▸ i_nle.mp c41⟩) hz
  · refine r_aload_n hX dX11_comesLate_13 rfl ?_
    refine r_iload_n hX dX11_comesLate_14 rfl ?_
    refine r_iconst (v := nI 3) hX dX11_comesLate_15 (by decide) ?_
    refine r_cV2 hX dX11_comesLate_16 IX11_of ml_X11_67 rfl (LX11_s hL) rfl (t_X11_of hL hn (by omega) (by decide)) (by decide) (by decide) (by decide) (by decide) rfl (Nat.le_of_ble_eq_true rfl) ?_
    refine r_iconst (v := 2) hX dX11_comesLate_19 (by decide) ?_
    refine r_icmp_ne (tgt := 33) hX dX11_comesLate_20 (by decide) (fun c20 => ?_) (fun c20 => ?_)
    · refine r_aload_n hX dX11_comesLate_33 rfl ?_
      refine r_getr hX dX11_comesLate_34 fl_X11_13 rfl (LX11_s hL) (LX11_r1 hL) ?_
      refine r_bipush (v := nI 6) hX dX11_comesLate_37 (by decide) ?_
      refine rn_iald hX dX11_comesLate_39 (LX11_a1 hL) rfl (by omega) (by omega) ?_
      rw [hn]
      refine r_iload_n hX dX11_comesLate_40 rfl ?_
      refine r_icmp_le (tgt := 48) hX dX11_comesLate_41 (by decide) (fun c41 => ?_) (fun c41 => ?_)
      · refine r_iconst (v := 0) hX dX11_comesLate_48 (by decide) ?_
        refine r_ireturn hX rfl rfl dX11_comesLate_49 (by decide) (by decide) ?_
        have hb : lateB n l = true ↔ lateK (n (498 + 10 * l + 3)) (n (498 + 10 * l + 7)) (n (498 + 10 * l + 6)) (n 6) := by simp [lateB]
        refine ⟨?_, rfl⟩
        by_cases hz : lateB n l = true
        · obtain ⟨z1, z2⟩ := hb.mp hz
          rw [if_pos hz]
          first
            | done
            | rfl
            | exact absurd c10 z1
            | (rw [if_pos c20] at z2
               exact absurd z2 (i_nlt.mpr c41))
            | (rw [if_neg c20] at z2
               exact absurd z2 (i_nlt.mpr c41))
        · rw [if_neg hz]
          first
            | done
            | rfl
            | exact absurd (hb.mpr ⟨c10, (if_pos c20 : (if n (498 + 10 * l + 3) = 2 then n (498 + 10 * l + 7) else n 6) = _).symm ▸ i_nle.mp c41⟩) hz
            | exact absurd (hb.mpr ⟨c10, (if_neg c20 : (if n (498 + 10 * l + 3) = 2 then n (498 + 10 * l + 7) else n 6) = _).symm ▸ i_nle.mp c41⟩) hz
      · refine r_iconst (v := 1) hX dX11_comesLate_44 (by decide) ?_
        refine r_goto (tgt := 49) hX dX11_comesLate_45 (by decide) ?_
        refine r_ireturn hX rfl rfl dX11_comesLate_49 (by decide) (by decide) ?_
        have hb : lateB n l = true ↔ lateK (n (498 + 10 * l + 3)) (n (498 + 10 * l + 7)) (n (498 + 10 * l + 6)) (n 6) := by simp [lateB]
        refine ⟨?_, rfl⟩
        by_cases hz : lateB n l = true
        · obtain ⟨z1, z2⟩ := hb.mp hz
          rw [if_pos hz]
          first
            | done
            | rfl
            | exact absurd c10 z1
            | (rw [if_pos c20] at z2
               exact absurd z2 (i_nlt.mpr c41))
            | (rw [if_neg c20] at z2
               exact absurd z2 (i_nlt.mpr c41))
        · rw [if_neg hz]
          first
            | done
            | rfl
            | exact absurd (hb.mpr ⟨c10, (if_pos c20 : (if n (498 + 10 * l + 3) = 2 then n (498 + 10 * l + 7) else n 6) = _).symm ▸ i_nle.mp c41⟩) hz
            | exact absurd (hb.mpr ⟨c10, (if_neg c20 : (if n (498 + 10 * l + 3) = 2 then n (498 + 10 * l + 7) else n 6) = _).symm ▸ i_nle.mp c41⟩) hz
    · refine r_aload_n hX dX11_comesLate_23 rfl ?_
      refine r_iload_n hX dX11_comesLate_24 rfl ?_
      refine r_bipush (v := nI 7) hX dX11_comesLate_25 (by decide) ?_
      refine r_cV2 hX dX11_comesLate_27 IX11_of ml_X11_67 rfl (LX11_s hL) rfl (t_X11_of hL hn (by omega) (by decide)) (by decide) (by decide) (by decide) (by decide) rfl (Nat.le_of_ble_eq_true rfl) ?_
      refine r_goto (tgt := 40) hX dX11_comesLate_30 (by decide) ?_
      refine r_iload_n hX dX11_comesLate_40 rfl ?_
      refine r_icmp_le (tgt := 48) hX dX11_comesLate_41 (by decide) (fun c41 => ?_) (fun c41 => ?_)
      · refine r_iconst (v := 0) hX dX11_comesLate_48 (by decide) ?_
        refine r_ireturn hX rfl rfl dX11_comesLate_49 (by decide) (by decide) ?_
        have hb : lateB n l = true ↔ lateK (n (498 + 10 * l + 3)) (n (498 + 10 * l + 7)) (n (498 + 10 * l + 6)) (n 6) := by simp [lateB]
        refine ⟨?_, rfl⟩
        by_cases hz : lateB n l = true
        · obtain ⟨z1, z2⟩ := hb.mp hz
          rw [if_pos hz]
          first
            | done
            | rfl
            | exact absurd c10 z1
            | (rw [if_pos c20] at z2
               exact absurd z2 (i_nlt.mpr c41))
            | (rw [if_neg c20] at z2
               exact absurd z2 (i_nlt.mpr c41))
        · rw [if_neg hz]
          first
            | done
            | rfl
            | exact absurd (hb.mpr ⟨c10, (if_pos c20 : (if n (498 + 10 * l + 3) = 2 then n (498 + 10 * l + 7) else n 6) = _).symm ▸ i_nle.mp c41⟩) hz
            | exact absurd (hb.mpr ⟨c10, (if_neg c20 : (if n (498 + 10 * l + 3) = 2 then n (498 + 10 * l + 7) else n 6) = _).symm ▸ i_nle.mp c41⟩) hz
      · refine r_iconst (v := 1) hX dX11_comesLate_44 (by decide) ?_
        refine r_goto (tgt := 49) hX dX11_comesLate_45 (by decide) ?_
        refine r_ireturn hX rfl rfl dX11_comesLate_49 (by decide) (by decide) ?_
        have hb : lateB n l = true ↔ lateK (n (498 + 10 * l + 3)) (n (498 + 10 * l + 7)) (n (498 + 10 * l + 6)) (n 6) := by simp [lateB]
        refine ⟨?_, rfl⟩
        by_cases hz : lateB n l = true
        · obtain ⟨z1, z2⟩ := hb.mp hz
          rw [if_pos hz]
          first
            | done
            | rfl
            | exact absurd c10 z1
            | (rw [if_pos c20] at z2
               exact absurd z2 (i_nlt.mpr c41))
            | (rw [if_neg c20] at z2
               exact absurd z2 (i_nlt.mpr c41))
        · rw [if_neg hz]
          first
            | done
            | rfl
            | exact absurd (hb.mpr ⟨c10, (if_pos c20 : (if n (498 + 10 * l + 3) = 2 then n (498 + 10 * l + 7) else n 6) = _).symm ▸ i_nle.mp c41⟩) hz
            | exact absurd (hb.mpr ⟨c10, (if_neg c20 : (if n (498 + 10 * l + 3) = 2 then n (498 + 10 * l + 7) else n 6) = _).symm ▸ i_nle.mp c41⟩) hz
set_option maxHeartbeats 2000000 in
set_option maxRecDepth 20000 in
theorem t_X11_villages {M : Mm} {a : Nat} {n : Nat → Int32} (hL : LX11 M.1 M.2.1 a) (hn : mI M (a + 1) = n) (h0 : Rn n 0 10) : Ct G base YX11_villages 3 0 0 [.ref a] M (rE (some (.int (nI (cntB (town n) (nv n 0))))) M) := by
  refine Ct.of IX11_villages.1 (by simp [Value.category]) (Nat.le_of_ble_eq_true rfl) (fun X hX hN => ?_)
  show J G base X 0 0 M 0 [some (.ref a), none, none] []
  refine r_iconst (v := nI 0) hX dX11_villages_0 (by decide) ?_
  refine r_istore1 hX dX11_villages_1 rfl ?_
  refine r_iconst (v := nI 0) hX dX11_villages_2 (by decide) ?_
  refine r_istore2 hX dX11_villages_3 rfl ?_
  have hm := h0.2
  refine loop_up (P := fun j => J G base X 0 0 M 4 [some (.ref a), some (.int (nI (cntB (town n) j))), some (.int (nI j))] []) (nv n 0) (fun j hj ih => ?_) 0 (Nat.zero_le _)
  refine r_iload_n hX dX11_villages_4 rfl ?_
  refine r_aload_n hX dX11_villages_5 rfl ?_
  refine r_cV0 hX dX11_villages_6 IX11_places ml_X11_75 rfl (LX11_s hL) rfl (t_X11_places hL hn h0) (by decide) (by decide) (by decide) (by decide) rfl (Nat.le_of_ble_eq_true rfl) ?_
  refine rn_icmp_ge (tgt := 34) hX dX11_villages_9 (by decide) rfl rfl (by omega) (by omega) (fun c9 => ?_) (fun c9 => ?_)
  · refine r_iload_n hX dX11_villages_34 rfl ?_
    refine r_ireturn hX rfl rfl dX11_villages_35 (by decide) (by decide) ?_
    obtain rfl : j = nv n 0 := by omega
    exact ⟨rfl, rfl⟩
  · refine r_iload_n hX dX11_villages_12 rfl ?_
    refine r_aload_n hX dX11_villages_13 rfl ?_
    refine r_iload_n hX dX11_villages_14 rfl ?_
    refine r_cV1 hX dX11_villages_15 IX11_isTown ml_X11_166 rfl (LX11_s hL) rfl (t_X11_isTown hL hn h0) (by decide) (by decide) (by decide) (by decide) rfl (Nat.le_of_ble_eq_true rfl) ?_
    refine rb_if_eq (tgt := 25) hX dX11_villages_18 (by decide) rfl (fun c18 => ?_) (fun c18 => ?_)
    · refine r_iconst (v := nI 0) hX dX11_villages_25 (by decide) ?_
      refine rn_iadd hX dX11_villages_26 rfl rfl ?_
      refine r_istore1 hX dX11_villages_27 rfl ?_
      refine rn_iinc2 hX dX11_villages_28 rfl rfl ?_
      refine r_goto (tgt := 4) hX dX11_villages_31 (by decide) ?_
      have h9 := ih (by omega)
      simp only [cntB] at h9
      first
        | (rw [if_pos ((town_iff h0 c9).mp c18)] at h9; exact h9)
        | (rw [if_neg (fun z => c18 ((town_iff h0 c9).mpr z))] at h9; exact h9)
    · refine r_iconst (v := nI 1) hX dX11_villages_21 (by decide) ?_
      refine r_goto (tgt := 26) hX dX11_villages_22 (by decide) ?_
      refine rn_iadd hX dX11_villages_26 rfl rfl ?_
      refine r_istore1 hX dX11_villages_27 rfl ?_
      refine rn_iinc2 hX dX11_villages_28 rfl rfl ?_
      refine r_goto (tgt := 4) hX dX11_villages_31 (by decide) ?_
      have h9 := ih (by omega)
      simp only [cntB] at h9
      first
        | (rw [if_pos ((town_iff h0 c9).mp c18)] at h9; exact h9)
        | (rw [if_neg (fun z => c18 ((town_iff h0 c9).mpr z))] at h9; exact h9)
set_option maxHeartbeats 2000000 in
set_option maxRecDepth 20000 in
theorem t_X11_isSo0 {M : Mm} {a : Nat} {n : Nat → Int32} (hL : LX11 M.1 M.2.1 a) (hn : mI M (a + 1) = n) {l : Nat} (hl : l < 30) : Ct G base YX11_isSo 3 0 0 [.ref a, .int (nI l), .int (nI 0)] M (rE (some (.int (if soB n 0 l = true then 1 else 0))) M) := by
  refine Ct.of IX11_isSo.1 (by simp [Value.category]) (Nat.le_of_ble_eq_true rfl) (fun X hX hN => ?_)
  show J G base X 0 0 M 0 [some (.ref a), some (.int (nI l)), some (.int (nI 0))] []
  refine r_iload_n hX dX11_isSo_0 rfl ?_
  refine r_tabOut (tgt := 111) hX dX11_isSo_1 (by first | exact Or.inl (by decide) | exact Or.inr (by decide)) (by decide) ?_
  refine r_aload_n hX dX11_isSo_111 rfl ?_
  refine r_iload_n hX dX11_isSo_112 rfl ?_
  refine r_iconst (v := nI 3) hX dX11_isSo_113 (by decide) ?_
  refine r_cV2 hX dX11_isSo_114 IX11_of ml_X11_67 rfl (LX11_s hL) rfl (t_X11_of hL hn (by omega) (by decide)) (by decide) (by decide) (by decide) (by decide) rfl (Nat.le_of_ble_eq_true rfl) ?_
  refine r_iload_n hX dX11_isSo_117 rfl ?_
  refine r_icmp_ne (tgt := 125) hX dX11_isSo_118 (by decide) (fun c118 => ?_) (fun c118 => ?_)
  · refine r_iconst (v := 0) hX dX11_isSo_125 (by decide) ?_
    refine r_ireturn hX rfl rfl dX11_isSo_126 (by decide) (by decide) ?_
    have e : soB n 0 l = true ↔ n (498 + 10 * l + 3) = nI 0 := by simp [soB]
    first
      | exact ⟨by rw [if_pos (e.mpr c118)]; first | done | rfl, rfl⟩
      | exact ⟨by rw [if_neg (fun z => absurd (e.mp z) c118)]; first | done | rfl, rfl⟩
  · refine r_iconst (v := 1) hX dX11_isSo_121 (by decide) ?_
    refine r_goto (tgt := 126) hX dX11_isSo_122 (by decide) ?_
    refine r_ireturn hX rfl rfl dX11_isSo_126 (by decide) (by decide) ?_
    have e : soB n 0 l = true ↔ n (498 + 10 * l + 3) = nI 0 := by simp [soB]
    first
      | exact ⟨by rw [if_pos (e.mpr c118)]; first | done | rfl, rfl⟩
      | exact ⟨by rw [if_neg (fun z => absurd (e.mp z) c118)]; first | done | rfl, rfl⟩
set_option maxHeartbeats 2000000 in
set_option maxRecDepth 20000 in
theorem t_X11_isSo1 {M : Mm} {a : Nat} {n : Nat → Int32} (hL : LX11 M.1 M.2.1 a) (hn : mI M (a + 1) = n) {l : Nat} (hl : l < 30) : Ct G base YX11_isSo 3 0 0 [.ref a, .int (nI l), .int (nI 1)] M (rE (some (.int (if soB n 1 l = true then 1 else 0))) M) := by
  refine Ct.of IX11_isSo.1 (by simp [Value.category]) (Nat.le_of_ble_eq_true rfl) (fun X hX hN => ?_)
  show J G base X 0 0 M 0 [some (.ref a), some (.int (nI l)), some (.int (nI 1))] []
  refine r_iload_n hX dX11_isSo_0 rfl ?_
  refine r_tabOut (tgt := 111) hX dX11_isSo_1 (by first | exact Or.inl (by decide) | exact Or.inr (by decide)) (by decide) ?_
  refine r_aload_n hX dX11_isSo_111 rfl ?_
  refine r_iload_n hX dX11_isSo_112 rfl ?_
  refine r_iconst (v := nI 3) hX dX11_isSo_113 (by decide) ?_
  refine r_cV2 hX dX11_isSo_114 IX11_of ml_X11_67 rfl (LX11_s hL) rfl (t_X11_of hL hn (by omega) (by decide)) (by decide) (by decide) (by decide) (by decide) rfl (Nat.le_of_ble_eq_true rfl) ?_
  refine r_iload_n hX dX11_isSo_117 rfl ?_
  refine r_icmp_ne (tgt := 125) hX dX11_isSo_118 (by decide) (fun c118 => ?_) (fun c118 => ?_)
  · refine r_iconst (v := 0) hX dX11_isSo_125 (by decide) ?_
    refine r_ireturn hX rfl rfl dX11_isSo_126 (by decide) (by decide) ?_
    have e : soB n 1 l = true ↔ n (498 + 10 * l + 3) = nI 1 := by simp [soB]
    first
      | exact ⟨by rw [if_pos (e.mpr c118)]; first | done | rfl, rfl⟩
      | exact ⟨by rw [if_neg (fun z => absurd (e.mp z) c118)]; first | done | rfl, rfl⟩
  · refine r_iconst (v := 1) hX dX11_isSo_121 (by decide) ?_
    refine r_goto (tgt := 126) hX dX11_isSo_122 (by decide) ?_
    refine r_ireturn hX rfl rfl dX11_isSo_126 (by decide) (by decide) ?_
    have e : soB n 1 l = true ↔ n (498 + 10 * l + 3) = nI 1 := by simp [soB]
    first
      | exact ⟨by rw [if_pos (e.mpr c118)]; first | done | rfl, rfl⟩
      | exact ⟨by rw [if_neg (fun z => absurd (e.mp z) c118)]; first | done | rfl, rfl⟩
set_option maxHeartbeats 2000000 in
set_option maxRecDepth 20000 in
theorem t_X11_isSo2 {M : Mm} {a : Nat} {n : Nat → Int32} (hL : LX11 M.1 M.2.1 a) (hn : mI M (a + 1) = n) {l : Nat} (hl : l < 30) : Ct G base YX11_isSo 3 0 0 [.ref a, .int (nI l), .int (nI 2)] M (rE (some (.int (if soB n 2 l = true then 1 else 0))) M) := by
  refine Ct.of IX11_isSo.1 (by simp [Value.category]) (Nat.le_of_ble_eq_true rfl) (fun X hX hN => ?_)
  show J G base X 0 0 M 0 [some (.ref a), some (.int (nI l)), some (.int (nI 2))] []
  refine r_iload_n hX dX11_isSo_0 rfl ?_
  refine r_tabOut (tgt := 111) hX dX11_isSo_1 (by first | exact Or.inl (by decide) | exact Or.inr (by decide)) (by decide) ?_
  refine r_aload_n hX dX11_isSo_111 rfl ?_
  refine r_iload_n hX dX11_isSo_112 rfl ?_
  refine r_iconst (v := nI 3) hX dX11_isSo_113 (by decide) ?_
  refine r_cV2 hX dX11_isSo_114 IX11_of ml_X11_67 rfl (LX11_s hL) rfl (t_X11_of hL hn (by omega) (by decide)) (by decide) (by decide) (by decide) (by decide) rfl (Nat.le_of_ble_eq_true rfl) ?_
  refine r_iload_n hX dX11_isSo_117 rfl ?_
  refine r_icmp_ne (tgt := 125) hX dX11_isSo_118 (by decide) (fun c118 => ?_) (fun c118 => ?_)
  · refine r_iconst (v := 0) hX dX11_isSo_125 (by decide) ?_
    refine r_ireturn hX rfl rfl dX11_isSo_126 (by decide) (by decide) ?_
    have e : soB n 2 l = true ↔ n (498 + 10 * l + 3) = nI 2 := by simp [soB]
    first
      | exact ⟨by rw [if_pos (e.mpr c118)]; first | done | rfl, rfl⟩
      | exact ⟨by rw [if_neg (fun z => absurd (e.mp z) c118)]; first | done | rfl, rfl⟩
  · refine r_iconst (v := 1) hX dX11_isSo_121 (by decide) ?_
    refine r_goto (tgt := 126) hX dX11_isSo_122 (by decide) ?_
    refine r_ireturn hX rfl rfl dX11_isSo_126 (by decide) (by decide) ?_
    have e : soB n 2 l = true ↔ n (498 + 10 * l + 3) = nI 2 := by simp [soB]
    first
      | exact ⟨by rw [if_pos (e.mpr c118)]; first | done | rfl, rfl⟩
      | exact ⟨by rw [if_neg (fun z => absurd (e.mp z) c118)]; first | done | rfl, rfl⟩
set_option maxHeartbeats 2000000 in
set_option maxRecDepth 20000 in
theorem t_X11_isSo3 {M : Mm} {a : Nat} {n : Nat → Int32} (hL : LX11 M.1 M.2.1 a) (hn : mI M (a + 1) = n) {l : Nat} (hl : l < 30) : Ct G base YX11_isSo 3 0 0 [.ref a, .int (nI l), .int (nI 3)] M (rE (some (.int (if soB n 3 l = true then 1 else 0))) M) := by
  refine Ct.of IX11_isSo.1 (by simp [Value.category]) (Nat.le_of_ble_eq_true rfl) (fun X hX hN => ?_)
  show J G base X 0 0 M 0 [some (.ref a), some (.int (nI l)), some (.int (nI 3))] []
  refine r_iload_n hX dX11_isSo_0 rfl ?_
  refine r_tabOut (tgt := 111) hX dX11_isSo_1 (by first | exact Or.inl (by decide) | exact Or.inr (by decide)) (by decide) ?_
  refine r_aload_n hX dX11_isSo_111 rfl ?_
  refine r_iload_n hX dX11_isSo_112 rfl ?_
  refine r_iconst (v := nI 3) hX dX11_isSo_113 (by decide) ?_
  refine r_cV2 hX dX11_isSo_114 IX11_of ml_X11_67 rfl (LX11_s hL) rfl (t_X11_of hL hn (by omega) (by decide)) (by decide) (by decide) (by decide) (by decide) rfl (Nat.le_of_ble_eq_true rfl) ?_
  refine r_iload_n hX dX11_isSo_117 rfl ?_
  refine r_icmp_ne (tgt := 125) hX dX11_isSo_118 (by decide) (fun c118 => ?_) (fun c118 => ?_)
  · refine r_iconst (v := 0) hX dX11_isSo_125 (by decide) ?_
    refine r_ireturn hX rfl rfl dX11_isSo_126 (by decide) (by decide) ?_
    have e : soB n 3 l = true ↔ n (498 + 10 * l + 3) = nI 3 := by simp [soB]
    first
      | exact ⟨by rw [if_pos (e.mpr c118)]; first | done | rfl, rfl⟩
      | exact ⟨by rw [if_neg (fun z => absurd (e.mp z) c118)]; first | done | rfl, rfl⟩
  · refine r_iconst (v := 1) hX dX11_isSo_121 (by decide) ?_
    refine r_goto (tgt := 126) hX dX11_isSo_122 (by decide) ?_
    refine r_ireturn hX rfl rfl dX11_isSo_126 (by decide) (by decide) ?_
    have e : soB n 3 l = true ↔ n (498 + 10 * l + 3) = nI 3 := by simp [soB]
    first
      | exact ⟨by rw [if_pos (e.mpr c118)]; first | done | rfl, rfl⟩
      | exact ⟨by rw [if_neg (fun z => absurd (e.mp z) c118)]; first | done | rfl, rfl⟩
set_option maxHeartbeats 2000000 in
set_option maxRecDepth 20000 in
theorem t_X11_isSo4 {M : Mm} {a : Nat} {n : Nat → Int32} (hL : LX11 M.1 M.2.1 a) (hn : mI M (a + 1) = n) {l : Nat} (hl : l < 30) : Ct G base YX11_isSo 3 0 0 [.ref a, .int (nI l), .int (nI 4)] M (rE (some (.int (if soB n 4 l = true then 1 else 0))) M) := by
  refine Ct.of IX11_isSo.1 (by simp [Value.category]) (Nat.le_of_ble_eq_true rfl) (fun X hX hN => ?_)
  show J G base X 0 0 M 0 [some (.ref a), some (.int (nI l)), some (.int (nI 4))] []
  refine r_iload_n hX dX11_isSo_0 rfl ?_
  refine r_tabIn (off := 35) (tgt := 36) hX dX11_isSo_1 (by decide) (by decide) (by decide) (by decide) ?_
  refine r_aload_n hX dX11_isSo_36 rfl ?_
  refine r_iload_n hX dX11_isSo_37 rfl ?_
  refine r_iconst (v := nI 2) hX dX11_isSo_38 (by decide) ?_
  refine r_cV2 hX dX11_isSo_39 IX11_of ml_X11_67 rfl (LX11_s hL) rfl (t_X11_of hL hn (by omega) (by decide)) (by decide) (by decide) (by decide) (by decide) rfl (Nat.le_of_ble_eq_true rfl) ?_
  refine r_if_eq (tgt := 49) hX dX11_isSo_42 (by decide) (fun c42 => ?_) (fun c42 => ?_)
  · refine r_iconst (v := 0) hX dX11_isSo_49 (by decide) ?_
    refine r_ireturn hX rfl rfl dX11_isSo_50 (by decide) (by decide) ?_
    have e : soB n 4 l = true ↔ ¬ n (498 + 10 * l + 2) = 0 := by simp [soB]
    first
      | exact ⟨by rw [if_pos (e.mpr c42)]; first | done | rfl, rfl⟩
      | exact ⟨by rw [if_neg (fun z => absurd (e.mp z) (fun q => q c42))]; first | done | rfl, rfl⟩
  · refine r_iconst (v := 1) hX dX11_isSo_45 (by decide) ?_
    refine r_goto (tgt := 50) hX dX11_isSo_46 (by decide) ?_
    refine r_ireturn hX rfl rfl dX11_isSo_50 (by decide) (by decide) ?_
    have e : soB n 4 l = true ↔ ¬ n (498 + 10 * l + 2) = 0 := by simp [soB]
    first
      | exact ⟨by rw [if_pos (e.mpr c42)]; first | done | rfl, rfl⟩
      | exact ⟨by rw [if_neg (fun z => absurd (e.mp z) (fun q => q c42))]; first | done | rfl, rfl⟩
set_option maxHeartbeats 2000000 in
set_option maxRecDepth 20000 in
theorem t_X11_isSo5 {M : Mm} {a : Nat} {n : Nat → Int32} (hL : LX11 M.1 M.2.1 a) (hn : mI M (a + 1) = n) {l : Nat} (hl : l < 30) : Ct G base YX11_isSo 3 0 0 [.ref a, .int (nI l), .int (nI 5)] M (rE (some (.int (if soB n 5 l = true then 1 else 0))) M) := by
  refine Ct.of IX11_isSo.1 (by simp [Value.category]) (Nat.le_of_ble_eq_true rfl) (fun X hX hN => ?_)
  show J G base X 0 0 M 0 [some (.ref a), some (.int (nI l)), some (.int (nI 5))] []
  refine r_iload_n hX dX11_isSo_0 rfl ?_
  refine r_tabIn (off := 50) (tgt := 51) hX dX11_isSo_1 (by decide) (by decide) (by decide) (by decide) ?_
  refine r_aload_n hX dX11_isSo_51 rfl ?_
  refine r_iload_n hX dX11_isSo_52 rfl ?_
  refine r_cV1 hX dX11_isSo_53 IX11_comesLate ml_X11_301 rfl (LX11_s hL) rfl (t_X11_comesLate hL hn (by omega)) (by decide) (by decide) (by decide) (by decide) rfl (Nat.le_of_ble_eq_true rfl) ?_
  refine r_ireturn hX rfl (by split <;> rfl) dX11_isSo_56 (by decide) (by decide) ?_
  exact ⟨rfl, rfl⟩
set_option maxHeartbeats 2000000 in
set_option maxRecDepth 20000 in
theorem t_X11_isSo6 {M : Mm} {a : Nat} {n : Nat → Int32} (hL : LX11 M.1 M.2.1 a) (hn : mI M (a + 1) = n) {l : Nat} (hl : l < 30) : Ct G base YX11_isSo 3 0 0 [.ref a, .int (nI l), .int (nI 6)] M (rE (some (.int (if soB n 6 l = true then 1 else 0))) M) := by
  refine Ct.of IX11_isSo.1 (by simp [Value.category]) (Nat.le_of_ble_eq_true rfl) (fun X hX hN => ?_)
  show J G base X 0 0 M 0 [some (.ref a), some (.int (nI l)), some (.int (nI 6))] []
  refine r_iload_n hX dX11_isSo_0 rfl ?_
  refine r_tabIn (off := 56) (tgt := 57) hX dX11_isSo_1 (by decide) (by decide) (by decide) (by decide) ?_
  refine r_aload_n hX dX11_isSo_57 rfl ?_
  refine r_iload_n hX dX11_isSo_58 rfl ?_
  refine r_bipush (v := nI 6) hX dX11_isSo_59 (by decide) ?_
  refine r_cV2 hX dX11_isSo_61 IX11_of ml_X11_67 rfl (LX11_s hL) rfl (t_X11_of hL hn (by omega) (by decide)) (by decide) (by decide) (by decide) (by decide) rfl (Nat.le_of_ble_eq_true rfl) ?_
  refine r_iconst (v := (-1)) hX dX11_isSo_64 (by decide) ?_
  refine r_icmp_ne (tgt := 72) hX dX11_isSo_65 (by decide) (fun c65 => ?_) (fun c65 => ?_)
  · refine r_iconst (v := 0) hX dX11_isSo_72 (by decide) ?_
    refine r_ireturn hX rfl rfl dX11_isSo_73 (by decide) (by decide) ?_
    have e : soB n 6 l = true ↔ n (498 + 10 * l + 6) = -1 := by simp [soB]
    first
      | exact ⟨by rw [if_pos (e.mpr c65)]; first | done | rfl, rfl⟩
      | exact ⟨by rw [if_neg (fun z => absurd (e.mp z) c65)]; first | done | rfl, rfl⟩
  · refine r_iconst (v := 1) hX dX11_isSo_68 (by decide) ?_
    refine r_goto (tgt := 73) hX dX11_isSo_69 (by decide) ?_
    refine r_ireturn hX rfl rfl dX11_isSo_73 (by decide) (by decide) ?_
    have e : soB n 6 l = true ↔ n (498 + 10 * l + 6) = -1 := by simp [soB]
    first
      | exact ⟨by rw [if_pos (e.mpr c65)]; first | done | rfl, rfl⟩
      | exact ⟨by rw [if_neg (fun z => absurd (e.mp z) c65)]; first | done | rfl, rfl⟩
set_option maxHeartbeats 2000000 in
set_option maxRecDepth 20000 in
theorem t_X11_isSo7 {M : Mm} {a : Nat} {n : Nat → Int32} (hL : LX11 M.1 M.2.1 a) (hn : mI M (a + 1) = n) {l : Nat} (hl : l < 30) : Ct G base YX11_isSo 3 0 0 [.ref a, .int (nI l), .int (nI 7)] M (rE (some (.int (if soB n 7 l = true then 1 else 0))) M) := by
  refine Ct.of IX11_isSo.1 (by simp [Value.category]) (Nat.le_of_ble_eq_true rfl) (fun X hX hN => ?_)
  show J G base X 0 0 M 0 [some (.ref a), some (.int (nI l)), some (.int (nI 7))] []
  refine r_iload_n hX dX11_isSo_0 rfl ?_
  refine r_tabIn (off := 73) (tgt := 74) hX dX11_isSo_1 (by decide) (by decide) (by decide) (by decide) ?_
  refine r_aload_n hX dX11_isSo_74 rfl ?_
  refine r_iload_n hX dX11_isSo_75 rfl ?_
  refine r_bipush (v := nI 8) hX dX11_isSo_76 (by decide) ?_
  refine r_cV2 hX dX11_isSo_78 IX11_of ml_X11_67 rfl (LX11_s hL) rfl (t_X11_of hL hn (by omega) (by decide)) (by decide) (by decide) (by decide) (by decide) rfl (Nat.le_of_ble_eq_true rfl) ?_
  refine r_iconst (v := 1) hX dX11_isSo_81 (by decide) ?_
  refine r_icmp_ne (tgt := 89) hX dX11_isSo_82 (by decide) (fun c82 => ?_) (fun c82 => ?_)
  · refine r_iconst (v := 0) hX dX11_isSo_89 (by decide) ?_
    refine r_ireturn hX rfl rfl dX11_isSo_90 (by decide) (by decide) ?_
    have e : soB n 7 l = true ↔ n (498 + 10 * l + 8) = 1 := by simp [soB]
    first
      | exact ⟨by rw [if_pos (e.mpr c82)]; first | done | rfl, rfl⟩
      | exact ⟨by rw [if_neg (fun z => absurd (e.mp z) c82)]; first | done | rfl, rfl⟩
  · refine r_iconst (v := 1) hX dX11_isSo_85 (by decide) ?_
    refine r_goto (tgt := 90) hX dX11_isSo_86 (by decide) ?_
    refine r_ireturn hX rfl rfl dX11_isSo_90 (by decide) (by decide) ?_
    have e : soB n 7 l = true ↔ n (498 + 10 * l + 8) = 1 := by simp [soB]
    first
      | exact ⟨by rw [if_pos (e.mpr c82)]; first | done | rfl, rfl⟩
      | exact ⟨by rw [if_neg (fun z => absurd (e.mp z) c82)]; first | done | rfl, rfl⟩
set_option maxHeartbeats 2000000 in
set_option maxRecDepth 20000 in
theorem t_X11_isSo8 {M : Mm} {a : Nat} {n : Nat → Int32} (hL : LX11 M.1 M.2.1 a) (hn : mI M (a + 1) = n) {l : Nat} (hl : l < 30) : Ct G base YX11_isSo 3 0 0 [.ref a, .int (nI l), .int (nI 8)] M (rE (some (.int (if soB n 8 l = true then 1 else 0))) M) := by
  refine Ct.of IX11_isSo.1 (by simp [Value.category]) (Nat.le_of_ble_eq_true rfl) (fun X hX hN => ?_)
  show J G base X 0 0 M 0 [some (.ref a), some (.int (nI l)), some (.int (nI 8))] []
  refine r_iload_n hX dX11_isSo_0 rfl ?_
  refine r_tabIn (off := 90) (tgt := 91) hX dX11_isSo_1 (by decide) (by decide) (by decide) (by decide) ?_
  refine r_aload_n hX dX11_isSo_91 rfl ?_
  refine r_iload_n hX dX11_isSo_92 rfl ?_
  refine r_bipush (v := nI 9) hX dX11_isSo_93 (by decide) ?_
  refine r_cV2 hX dX11_isSo_95 IX11_of ml_X11_67 rfl (LX11_s hL) rfl (t_X11_of hL hn (by omega) (by decide)) (by decide) (by decide) (by decide) (by decide) rfl (Nat.le_of_ble_eq_true rfl) ?_
  refine r_cS1 hX dX11_isSo_98 IJ6_bitCount_0f7a4 ml_X11_244 rfl (t_bitCount) (by decide) (by decide) (by decide) (by decide) rfl (Nat.le_of_ble_eq_true rfl) ?_
  refine r_iconst (v := 1) hX dX11_isSo_101 (by decide) ?_
  refine r_icmp_le (tgt := 109) hX dX11_isSo_102 (by decide) (fun c102 => ?_) (fun c102 => ?_)
  · refine r_iconst (v := 0) hX dX11_isSo_109 (by decide) ?_
    refine r_ireturn hX rfl rfl dX11_isSo_110 (by decide) (by decide) ?_
    have e : soB n 8 l = true ↔ 1 < bcI (n (498 + 10 * l + 9)) := by simp [soB]
    first
      | exact ⟨by rw [if_pos (e.mpr (i_nle.mp c102))]; first | done | rfl, rfl⟩
      | exact ⟨by rw [if_neg (fun z => absurd (e.mp z) (i_nlt.mpr c102))]; first | done | rfl, rfl⟩
  · refine r_iconst (v := 1) hX dX11_isSo_105 (by decide) ?_
    refine r_goto (tgt := 110) hX dX11_isSo_106 (by decide) ?_
    refine r_ireturn hX rfl rfl dX11_isSo_110 (by decide) (by decide) ?_
    have e : soB n 8 l = true ↔ 1 < bcI (n (498 + 10 * l + 9)) := by simp [soB]
    first
      | exact ⟨by rw [if_pos (e.mpr (i_nle.mp c102))]; first | done | rfl, rfl⟩
      | exact ⟨by rw [if_neg (fun z => absurd (e.mp z) (i_nlt.mpr c102))]; first | done | rfl, rfl⟩
theorem t_X11_isSo {M : Mm} {a : Nat} {n : Nat → Int32} (hL : LX11 M.1 M.2.1 a) (hn : mI M (a + 1) = n) {l w : Nat} (hl : l < 30) (hw : w < 9) : Ct G base YX11_isSo 3 0 0 [.ref a, .int (nI l), .int (nI w)] M (rE (some (.int (if soB n w l = true then 1 else 0))) M) := by
  rcases (show w = 0 ∨ w = 1 ∨ w = 2 ∨ w = 3 ∨ w = 4 ∨ w = 5 ∨ w = 6 ∨ w = 7 ∨ w = 8 by omega) with rfl | rfl | rfl | rfl | rfl | rfl | rfl | rfl | rfl
  · exact t_X11_isSo0 hL hn hl
  · exact t_X11_isSo1 hL hn hl
  · exact t_X11_isSo2 hL hn hl
  · exact t_X11_isSo3 hL hn hl
  · exact t_X11_isSo4 hL hn hl
  · exact t_X11_isSo5 hL hn hl
  · exact t_X11_isSo6 hL hn hl
  · exact t_X11_isSo7 hL hn hl
  · exact t_X11_isSo8 hL hn hl
set_option maxHeartbeats 2000000 in
set_option maxRecDepth 20000 in
theorem t_X11_arrivalBy {M : Mm} {a : Nat} {n : Nat → Int32} (hL : LX11 M.1 M.2.1 a) (hn : mI M (a + 1) = n) (hT : TbOk n) (hS : SkOk n) {f t h : Nat} (ht6 : n 6 = nI h) (hh : h < 900000) (hf : f < 10) (ht : t < nv n 0) : Ct G base YX11_arrivalBy 7 0 0 [.ref a, .int (nI f), .int (nI t)] M (rI (some (.int (arP n f t))) M (fun i => ∀ x, x ≠ a + 7 ∧ x ≠ a + 8 ∧ x ≠ a + 9 → i x = mI M x)) := by
  refine Ct.of IX11_arrivalBy.1 (by simp [Value.category]) (Nat.le_of_ble_eq_true rfl) (fun X hX hN => ?_)
  show J G base X 0 0 M 0 [some (.ref a), some (.int (nI f)), some (.int (nI t))] []
  obtain ⟨hK, hK0⟩ := hS.k
  have h0 := hT.1
  have hb := h0.2
  refine r_aload_n hX dX11_arrivalBy_0 rfl ?_
  refine r_iconst (v := 0) hX dX11_arrivalBy_1 (by decide) ?_
  refine r_iconst (v := 1) hX dX11_arrivalBy_2 (by decide) ?_
  refine r_iload_n hX dX11_arrivalBy_3 rfl ?_
  refine r_ishl hX dX11_arrivalBy_4 ?_
  refine r_aload_n hX dX11_arrivalBy_5 rfl ?_
  refine r_getr hX dX11_arrivalBy_6 fl_X11_13 rfl (LX11_s hL) (LX11_r1 hL) ?_
  refine r_bipush (v := nI 6) hX dX11_arrivalBy_9 (by decide) ?_
  refine rn_iald hX dX11_arrivalBy_11 (LX11_a1 hL) rfl (by omega) (by omega) ?_
  rw [hn]
  rw [ht6]
  refine r_iV3 hX dX11_arrivalBy_12 IX11_laysArrivals ml_X11_225 rfl (LX11_s hL) rfl (t_X11_laysArrivals hL hn hT hK hK0 (C0 := fun _ => false) (O0 := fun x => decide (x = f)) (fun c hc => b_0 _) (fun q hq => bt_b1 (k := f) (by omega) q) (by omega)) (by decide) (by decide) (by decide) (by decide) rfl (Nat.le_of_ble_eq_true rfl) (fun i1 h1 => ?_)
  show J G base X _ _ (wI M i1) _ _ _
  refine r_aload_n hX dX11_arrivalBy_15 rfl ?_
  refine r_getr hX dX11_arrivalBy_16 fl_X11_42 rfl (LX11_s hL) (LX11_r18 hL) ?_
  refine r_iload_n hX dX11_arrivalBy_19 rfl ?_
  refine rn_iald hX dX11_arrivalBy_20 (LX11_a18 hL) rfl (by omega) (by omega) ?_
  refine r_ireturn hX rfl rfl dX11_arrivalBy_21 (by decide) (by decide) ?_
  exact ⟨by rw [show mI (wI M i1) (a + 9) t = arN n h (fun _ => false) (fun x => decide (x = f)) 240 t from h1.1 t ht]; rw [arP, nv_of ht6 (by omega)], i1, rfl, h1.2⟩
