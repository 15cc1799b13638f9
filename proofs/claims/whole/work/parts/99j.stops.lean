variable {G : GG} {base : Nat}
/-- a stop of C is added: place pl, hour hr, the days of V before d -/
def adF (F : Nat → Nat → Nat → Bool) (C V hr pl d h p : Nat) : Nat → Bool := fun c => F h p c || decide (c = C ∧ p = pl ∧ h % 24 = hr ∧ h / 24 < d ∧ bt (nI V) (h / 24) = true)
def adU (U : Nat → Nat → Bool) (V hr pl d h : Nat) : Nat → Bool := fun p => U h p || decide (p = pl ∧ h % 24 = hr ∧ h / 24 < d ∧ bt (nI V) (h / 24) = true)
theorem or_dd {A : Bool} {P Q R : Prop} [Decidable P] [Decidable Q] [Decidable R] (h : P ∨ Q ↔ R) : ((A || decide P) || decide Q) = (A || decide R) := by
  rw [Bool.or_assoc]
  congr 1
  by_cases hP : P
  · rw [decide_eq_true hP, decide_eq_true (h.mp (Or.inl hP))]; rfl
  · rw [decide_eq_false hP, Bool.false_or]
    exact decide_eq_decide.mpr ⟨fun z => h.mp (Or.inr z), fun z => (h.mpr z).elim (fun y => absurd y hP) id⟩
theorem or_d {A : Bool} {P R : Prop} [Decidable P] [Decidable R] (h : P ↔ R) : (A || decide P) = (A || decide R) := by
  congr 1
  exact decide_eq_decide.mpr h
set_option maxHeartbeats 2000000 in
set_option maxRecDepth 20000 in
theorem t_X9_addStop {M : Mm} {b C V hr pl : Nat} {F : Nat → Nat → Nat → Bool} {U : Nat → Nat → Bool} (hL : LX9 M.1 M.2.1 b) (hc : mI M b 2 = nI (C + 1)) (hC : C < 5) (hr9 : hr < 24) (hpl : pl < 10) (hF : ∀ h, h < 168 → ∀ p, p < 10 → mI M (b + 4) (h * 10 + p) = setB (F h p) 5) (hU : ∀ h, h < 168 → mI M (b + 5) h = setB (U h) 10) : Ct G base YX9_addStop 2 0 0 [.ref b, .int (nI V), .int (nI hr), .int (nI pl)] M (rI none M (fun i => (∀ h, h < 168 → ∀ p, p < 10 → i (b + 4) (h * 10 + p) = setB (adF F C V hr pl 7 h p) 5) ∧ (∀ h, h < 168 → i (b + 5) h = setB (adU U V hr pl 7 h) 10) ∧ ∀ z, z ≠ b + 4 → z ≠ b + 5 → i z = mI M z)) := by
  refine Ct.of IX9_addStop.1 (by simp [Value.category]) (Nat.le_of_ble_eq_true rfl) (fun X hX hN => ?_)
  show J G base X 0 0 M 0 [some (.ref b), some (.int (nI V)), some (.int (nI hr)), some (.int (nI pl)), none, none] []
  refine r_iconst (v := nI 0) hX dX9_addStop_0 (by decide) ?_
  refine r_istore4 hX dX9_addStop_1 rfl ?_
  show J G base X 0 0 (wI M (mI M)) 3 _ []
  refine loop_us (σ := (Nat → Nat → Int32) × Option Int32) (P := fun d s => ((∀ h, h < 168 → ∀ p, p < 10 → s.1 (b + 4) (h * 10 + p) = setB (adF F C V hr pl d h p) 5) ∧ (∀ h, h < 168 → s.1 (b + 5) h = setB (adU U V hr pl d h) 10) ∧ ∀ z, z ≠ b + 4 → z ≠ b + 5 → s.1 z = mI M z) → J G base X 0 0 (wI M s.1) 3 [some (.ref b), some (.int (nI V)), some (.int (nI hr)), some (.int (nI pl)), some (.int (nI d)), s.2.map .int] []) 7 (fun d s hj ih hi => ?_) 0 (mI M, none) (Nat.zero_le _) ⟨fun h h9 p p9 => ?_, fun h h9 => ?_, fun _ _ _ => rfl⟩
  rotate_left
  · rw [show (mI M, (none : Option Int32)).1 = mI M from rfl, hF h h9 p p9]
    refine setB_congr (fun c hc => ?_)
    unfold adF
    rw [decide_eq_false (fun z => absurd z.2.2.2.1 (Nat.not_lt_zero _)), Bool.or_false]
  · rw [show (mI M, (none : Option Int32)).1 = mI M from rfl, hU h h9]
    refine setB_congr (fun c hc => ?_)
    unfold adU
    rw [decide_eq_false (fun z => absurd z.2.2.1 (Nat.not_lt_zero _)), Bool.or_false]
  have body : ∀ o : Option Value, o = s.2.map .int → J G base X 0 0 (wI M s.1) 3 [some (.ref b), some (.int (nI V)), some (.int (nI hr)), some (.int (nI pl)), some (.int (nI d)), o] [] := by
    rintro _ rfl
    rcases s with ⟨i, _ | x⟩
    · dsimp only at hi ih
      show J G base X 0 0 (wI M i) 3 [some (.ref b), some (.int (nI V)), some (.int (nI hr)), some (.int (nI pl)), some (.int (nI d)), none] []
      refine r_iload hX dX9_addStop_3 rfl ?_
      refine r_bipush (v := nI 7) hX dX9_addStop_5 (by decide) ?_
      refine rn_icmp_ge (tgt := 95) hX dX9_addStop_7 (by decide) rfl rfl (by omega) (by omega) (fun c7 => ?_) (fun c7 => ?_)
      · refine r_return hX rfl dX9_addStop_95 (by decide) (by decide) ?_
        obtain rfl : d = 7 := by omega
        exact ⟨rfl, i, rfl, hi⟩
      · refine r_iload hX dX9_addStop_10 rfl ?_
        refine r_bipush (v := nI 24) hX dX9_addStop_12 (by decide) ?_
        refine rn_imul hX dX9_addStop_14 rfl rfl ?_
        refine r_iload_n hX dX9_addStop_15 rfl ?_
        refine rn_iadd hX dX9_addStop_16 rfl rfl ?_
        refine r_istore5 hX dX9_addStop_17 rfl ?_
        refine r_iload_n hX dX9_addStop_19 rfl ?_
        refine r_iload hX dX9_addStop_20 rfl ?_
        refine r_cN2 (host := RX10) hX dX9_addStop_22 IX10_has (by decide +kernel) rfl (t_X10_has (M := wI M i)) (by decide) (by decide) (by decide) (by decide) rfl (Nat.le_of_ble_eq_true rfl) ?_
        rw [itec (hasP_nI (s := nI V) (k := d) (by omega))]
        refine rb_if_eq (tgt := 89) hX dX9_addStop_25 (by decide) rfl (fun c25 => ?_) (fun c25 => ?_)
        · refine rn_iinc4 hX dX9_addStop_89 rfl rfl ?_
          refine r_goto (tgt := 3) hX dX9_addStop_92 (by decide) ?_
          refine ih (by omega) (i, (some (nI (d * 24 + hr)))) ⟨fun h h9 p p9 => ?_, fun h h9 => ?_, hi.2.2⟩
          · dsimp only
            rw [hi.1 h h9 p p9]
            refine setB_congr (fun c hc => or_d ⟨fun z => ⟨z.1, z.2.1, z.2.2.1, by omega, z.2.2.2.2⟩, fun z => ⟨z.1, z.2.1, z.2.2.1, ?_, z.2.2.2.2⟩⟩)
            have hne : ¬ h / 24 = d := fun y => by have q := z.2.2.2.2; rw [y] at q; exact c25 q
            omega
          · dsimp only
            rw [hi.2.1 h h9]
            refine setB_congr (fun c hc => or_d ⟨fun z => ⟨z.1, z.2.1, by omega, z.2.2.2⟩, fun z => ⟨z.1, z.2.1, ?_, z.2.2.2⟩⟩)
            have hne : ¬ h / 24 = d := fun y => by have q := z.2.2.2; rw [y] at q; exact c25 q
            omega
        · refine r_iload hX dX9_addStop_28 rfl ?_
          refine rn_if_lt (tgt := 89) hX dX9_addStop_30 (by decide) rfl (by omega) ?_
          refine r_iload hX dX9_addStop_33 rfl ?_
          refine r_sipush (v := nI 168) hX dX9_addStop_35 (by decide) ?_
          refine rn_icmp_ge (tgt := 89) hX dX9_addStop_38 (by decide) rfl rfl (by omega) (by omega) (fun c38 => by omega) (fun c38 => ?_)
          refine r_iload_n hX dX9_addStop_41 rfl ?_
          refine rn_if_lt (tgt := 89) hX dX9_addStop_42 (by decide) rfl (by omega) ?_
          refine r_iload_n hX dX9_addStop_45 rfl ?_
          refine r_bipush (v := nI 10) hX dX9_addStop_46 (by decide) ?_
          refine rn_icmp_ge (tgt := 89) hX dX9_addStop_48 (by decide) rfl rfl (by omega) (by omega) (fun c48 => by omega) (fun c48 => ?_)
          refine r_aload_n hX dX9_addStop_51 rfl ?_
          refine r_getr hX dX9_addStop_52 fl_X9_31 rfl (LX9_s hL) (LX9_r6 hL) ?_
          refine r_iload hX dX9_addStop_55 rfl ?_
          refine r_bipush (v := nI 10) hX dX9_addStop_57 (by decide) ?_
          refine rn_imul hX dX9_addStop_59 rfl rfl ?_
          refine r_iload_n hX dX9_addStop_60 rfl ?_
          refine rn_iadd hX dX9_addStop_61 rfl rfl ?_
          refine r_dup2 hX dX9_addStop_62 rfl rfl ?_
          refine rn_iald hX dX9_addStop_63 (LX9_a6 hL) rfl (by omega) (by omega) ?_
          refine r_aload_n hX dX9_addStop_64 rfl ?_
          refine rn_geti (v := nI (C + 1)) hX dX9_addStop_65 fl_X9_18 rfl (LX9_s hL) ((congrFun (hi.2.2 b (by omega) (by omega)) 2).trans hc) ?_
          refine r_iconst (v := nI 1) hX dX9_addStop_68 (by decide) ?_
          refine rn_isub hX dX9_addStop_69 rfl rfl (by omega) ?_
          refine r_cN1 (host := RX10) hX dX9_addStop_70 IX10_bit (by decide +kernel) rfl (t_X10_bit (M := _)) (by decide) (by decide) (by decide) (by decide) rfl (Nat.le_of_ble_eq_true rfl) ?_
          refine r_ior hX dX9_addStop_73 ?_
          refine rn_iast hX dX9_addStop_74 (LX9_a6 hL) rfl (by omega) (by omega) ?_
          refine r_aload_n hX dX9_addStop_75 rfl ?_
          refine r_getr hX dX9_addStop_76 fl_X9_34 rfl (LX9_s hL) (LX9_r7 hL) ?_
          refine r_iload hX dX9_addStop_79 rfl ?_
          refine r_dup2 hX dX9_addStop_81 rfl rfl ?_
          refine rn_iald hX dX9_addStop_82 (LX9_a7 hL) rfl (by omega) (by omega) ?_
          refine r_iload_n hX dX9_addStop_83 rfl ?_
          refine r_cN1 (host := RX10) hX dX9_addStop_84 IX10_bit (by decide +kernel) rfl (t_X10_bit (M := _)) (by decide) (by decide) (by decide) (by decide) rfl (Nat.le_of_ble_eq_true rfl) ?_
          refine r_ior hX dX9_addStop_87 ?_
          refine rn_iast hX dX9_addStop_88 (LX9_a7 hL) rfl (by omega) (by omega) ?_
          refine rn_iinc4 hX dX9_addStop_89 rfl rfl ?_
          refine r_goto (tgt := 3) hX dX9_addStop_92 (by decide) ?_
          refine ih (by omega) (mI (uI (uI (wI M i) (b + 4) ((d * 24 + hr) * 10 + pl) (i (b + 4) ((d * 24 + hr) * 10 + pl) ||| bitI (nI C))) (b + 5) (d * 24 + hr) (mI (uI (wI M i) (b + 4) ((d * 24 + hr) * 10 + pl) (i (b + 4) ((d * 24 + hr) * 10 + pl) ||| bitI (nI C))) (b + 5) (d * 24 + hr) ||| bitI (nI pl))), (some (nI (d * 24 + hr)))) ⟨fun h h9 p p9 => ?_, fun h h9 => ?_, fun z z4 z5 => ?_⟩
          · show mI (uI (uI (wI M i) (b + 4) ((d * 24 + hr) * 10 + pl) (i (b + 4) ((d * 24 + hr) * 10 + pl) ||| bitI (nI C))) (b + 5) _ _) (b + 4) (h * 10 + p) = _
            rw [mI_uI, if_neg (by omega), mI_uI, if_pos rfl]
            split
            · rename_i heq
              have e1 : h = d * 24 + hr := by omega
              have e2 : p = pl := by omega
              have e3 : h / 24 = d := by omega
              have e4 : h % 24 = hr := by omega
              rw [← heq, hi.1 h h9 p p9, setB_or1 _ (by omega) hC]
              refine setB_congr (fun c hc => or_dd ⟨fun z => ?_, fun z => ?_⟩)
              · rcases z with z | z
                · exact ⟨z.1, z.2.1, z.2.2.1, by omega, z.2.2.2.2⟩
                · exact ⟨z, e2, e4, by omega, by rw [e3]; exact c25⟩
              · exact Or.inr z.1
            · rename_i heq
              show i (b + 4) (h * 10 + p) = _
              rw [hi.1 h h9 p p9]
              refine setB_congr (fun c hc => or_d ⟨fun z => ⟨z.1, z.2.1, z.2.2.1, by omega, z.2.2.2.2⟩, fun z => ⟨z.1, z.2.1, z.2.2.1, ?_, z.2.2.2.2⟩⟩)
              obtain ⟨z1, z2, z3, z4, z5⟩ := z
              omega
          · show mI (uI (uI (wI M i) (b + 4) ((d * 24 + hr) * 10 + pl) (i (b + 4) ((d * 24 + hr) * 10 + pl) ||| bitI (nI C))) (b + 5) _ _) (b + 5) h = _
            rw [mI_uI, if_pos rfl]
            have e5 : ∀ k, mI (uI (wI M i) (b + 4) ((d * 24 + hr) * 10 + pl) (i (b + 4) ((d * 24 + hr) * 10 + pl) ||| bitI (nI C))) (b + 5) k = i (b + 5) k := fun k => congrFun (uIo (by omega)) k
            rw [e5, e5]
            split
            · rename_i heq
              have e3 : h / 24 = d := by omega
              have e4 : h % 24 = hr := by omega
              rw [← heq, hi.2.1 h h9, setB_or1 _ (by omega) hpl]
              refine setB_congr (fun c hc => or_dd ⟨fun z => ?_, fun z => ?_⟩)
              · rcases z with z | z
                · exact ⟨z.1, z.2.1, by omega, z.2.2.2⟩
                · exact ⟨z, e4, by omega, by rw [e3]; exact c25⟩
              · exact Or.inr z.1
            · rename_i heq
              rw [hi.2.1 h h9]
              refine setB_congr (fun c hc => or_d ⟨fun z => ⟨z.1, z.2.1, by omega, z.2.2.2⟩, fun z => ⟨z.1, z.2.1, ?_, z.2.2.2⟩⟩)
              obtain ⟨z1, z2, z3, z4⟩ := z
              omega
          · exact ((uIo z5).trans (uIo z4)).trans (hi.2.2 z z4 z5)
    · dsimp only at hi ih
      show J G base X 0 0 (wI M i) 3 [some (.ref b), some (.int (nI V)), some (.int (nI hr)), some (.int (nI pl)), some (.int (nI d)), some (.int x)] []
      refine r_iload hX dX9_addStop_3 rfl ?_
      refine r_bipush (v := nI 7) hX dX9_addStop_5 (by decide) ?_
      refine rn_icmp_ge (tgt := 95) hX dX9_addStop_7 (by decide) rfl rfl (by omega) (by omega) (fun c7 => ?_) (fun c7 => ?_)
      · refine r_return hX rfl dX9_addStop_95 (by decide) (by decide) ?_
        obtain rfl : d = 7 := by omega
        exact ⟨rfl, i, rfl, hi⟩
      · refine r_iload hX dX9_addStop_10 rfl ?_
        refine r_bipush (v := nI 24) hX dX9_addStop_12 (by decide) ?_
        refine rn_imul hX dX9_addStop_14 rfl rfl ?_
        refine r_iload_n hX dX9_addStop_15 rfl ?_
        refine rn_iadd hX dX9_addStop_16 rfl rfl ?_
        refine r_istore5 hX dX9_addStop_17 rfl ?_
        refine r_iload_n hX dX9_addStop_19 rfl ?_
        refine r_iload hX dX9_addStop_20 rfl ?_
        refine r_cN2 (host := RX10) hX dX9_addStop_22 IX10_has (by decide +kernel) rfl (t_X10_has (M := wI M i)) (by decide) (by decide) (by decide) (by decide) rfl (Nat.le_of_ble_eq_true rfl) ?_
        rw [itec (hasP_nI (s := nI V) (k := d) (by omega))]
        refine rb_if_eq (tgt := 89) hX dX9_addStop_25 (by decide) rfl (fun c25 => ?_) (fun c25 => ?_)
        · refine rn_iinc4 hX dX9_addStop_89 rfl rfl ?_
          refine r_goto (tgt := 3) hX dX9_addStop_92 (by decide) ?_
          refine ih (by omega) (i, (some (nI (d * 24 + hr)))) ⟨fun h h9 p p9 => ?_, fun h h9 => ?_, hi.2.2⟩
          · dsimp only
            rw [hi.1 h h9 p p9]
            refine setB_congr (fun c hc => or_d ⟨fun z => ⟨z.1, z.2.1, z.2.2.1, by omega, z.2.2.2.2⟩, fun z => ⟨z.1, z.2.1, z.2.2.1, ?_, z.2.2.2.2⟩⟩)
            have hne : ¬ h / 24 = d := fun y => by have q := z.2.2.2.2; rw [y] at q; exact c25 q
            omega
          · dsimp only
            rw [hi.2.1 h h9]
            refine setB_congr (fun c hc => or_d ⟨fun z => ⟨z.1, z.2.1, by omega, z.2.2.2⟩, fun z => ⟨z.1, z.2.1, ?_, z.2.2.2⟩⟩)
            have hne : ¬ h / 24 = d := fun y => by have q := z.2.2.2; rw [y] at q; exact c25 q
            omega
        · refine r_iload hX dX9_addStop_28 rfl ?_
          refine rn_if_lt (tgt := 89) hX dX9_addStop_30 (by decide) rfl (by omega) ?_
          refine r_iload hX dX9_addStop_33 rfl ?_
          refine r_sipush (v := nI 168) hX dX9_addStop_35 (by decide) ?_
          refine rn_icmp_ge (tgt := 89) hX dX9_addStop_38 (by decide) rfl rfl (by omega) (by omega) (fun c38 => by omega) (fun c38 => ?_)
          refine r_iload_n hX dX9_addStop_41 rfl ?_
          refine rn_if_lt (tgt := 89) hX dX9_addStop_42 (by decide) rfl (by omega) ?_
          refine r_iload_n hX dX9_addStop_45 rfl ?_
          refine r_bipush (v := nI 10) hX dX9_addStop_46 (by decide) ?_
          refine rn_icmp_ge (tgt := 89) hX dX9_addStop_48 (by decide) rfl rfl (by omega) (by omega) (fun c48 => by omega) (fun c48 => ?_)
          refine r_aload_n hX dX9_addStop_51 rfl ?_
          refine r_getr hX dX9_addStop_52 fl_X9_31 rfl (LX9_s hL) (LX9_r6 hL) ?_
          refine r_iload hX dX9_addStop_55 rfl ?_
          refine r_bipush (v := nI 10) hX dX9_addStop_57 (by decide) ?_
          refine rn_imul hX dX9_addStop_59 rfl rfl ?_
          refine r_iload_n hX dX9_addStop_60 rfl ?_
          refine rn_iadd hX dX9_addStop_61 rfl rfl ?_
          refine r_dup2 hX dX9_addStop_62 rfl rfl ?_
          refine rn_iald hX dX9_addStop_63 (LX9_a6 hL) rfl (by omega) (by omega) ?_
          refine r_aload_n hX dX9_addStop_64 rfl ?_
          refine rn_geti (v := nI (C + 1)) hX dX9_addStop_65 fl_X9_18 rfl (LX9_s hL) ((congrFun (hi.2.2 b (by omega) (by omega)) 2).trans hc) ?_
          refine r_iconst (v := nI 1) hX dX9_addStop_68 (by decide) ?_
          refine rn_isub hX dX9_addStop_69 rfl rfl (by omega) ?_
          refine r_cN1 (host := RX10) hX dX9_addStop_70 IX10_bit (by decide +kernel) rfl (t_X10_bit (M := _)) (by decide) (by decide) (by decide) (by decide) rfl (Nat.le_of_ble_eq_true rfl) ?_
          refine r_ior hX dX9_addStop_73 ?_
          refine rn_iast hX dX9_addStop_74 (LX9_a6 hL) rfl (by omega) (by omega) ?_
          refine r_aload_n hX dX9_addStop_75 rfl ?_
          refine r_getr hX dX9_addStop_76 fl_X9_34 rfl (LX9_s hL) (LX9_r7 hL) ?_
          refine r_iload hX dX9_addStop_79 rfl ?_
          refine r_dup2 hX dX9_addStop_81 rfl rfl ?_
          refine rn_iald hX dX9_addStop_82 (LX9_a7 hL) rfl (by omega) (by omega) ?_
          refine r_iload_n hX dX9_addStop_83 rfl ?_
          refine r_cN1 (host := RX10) hX dX9_addStop_84 IX10_bit (by decide +kernel) rfl (t_X10_bit (M := _)) (by decide) (by decide) (by decide) (by decide) rfl (Nat.le_of_ble_eq_true rfl) ?_
          refine r_ior hX dX9_addStop_87 ?_
          refine rn_iast hX dX9_addStop_88 (LX9_a7 hL) rfl (by omega) (by omega) ?_
          refine rn_iinc4 hX dX9_addStop_89 rfl rfl ?_
          refine r_goto (tgt := 3) hX dX9_addStop_92 (by decide) ?_
          refine ih (by omega) (mI (uI (uI (wI M i) (b + 4) ((d * 24 + hr) * 10 + pl) (i (b + 4) ((d * 24 + hr) * 10 + pl) ||| bitI (nI C))) (b + 5) (d * 24 + hr) (mI (uI (wI M i) (b + 4) ((d * 24 + hr) * 10 + pl) (i (b + 4) ((d * 24 + hr) * 10 + pl) ||| bitI (nI C))) (b + 5) (d * 24 + hr) ||| bitI (nI pl))), (some (nI (d * 24 + hr)))) ⟨fun h h9 p p9 => ?_, fun h h9 => ?_, fun z z4 z5 => ?_⟩
          · show mI (uI (uI (wI M i) (b + 4) ((d * 24 + hr) * 10 + pl) (i (b + 4) ((d * 24 + hr) * 10 + pl) ||| bitI (nI C))) (b + 5) _ _) (b + 4) (h * 10 + p) = _
            rw [mI_uI, if_neg (by omega), mI_uI, if_pos rfl]
            split
            · rename_i heq
              have e1 : h = d * 24 + hr := by omega
              have e2 : p = pl := by omega
              have e3 : h / 24 = d := by omega
              have e4 : h % 24 = hr := by omega
              rw [← heq, hi.1 h h9 p p9, setB_or1 _ (by omega) hC]
              refine setB_congr (fun c hc => or_dd ⟨fun z => ?_, fun z => ?_⟩)
              · rcases z with z | z
                · exact ⟨z.1, z.2.1, z.2.2.1, by omega, z.2.2.2.2⟩
                · exact ⟨z, e2, e4, by omega, by rw [e3]; exact c25⟩
              · exact Or.inr z.1
            · rename_i heq
              show i (b + 4) (h * 10 + p) = _
              rw [hi.1 h h9 p p9]
              refine setB_congr (fun c hc => or_d ⟨fun z => ⟨z.1, z.2.1, z.2.2.1, by omega, z.2.2.2.2⟩, fun z => ⟨z.1, z.2.1, z.2.2.1, ?_, z.2.2.2.2⟩⟩)
              obtain ⟨z1, z2, z3, z4, z5⟩ := z
              omega
          · show mI (uI (uI (wI M i) (b + 4) ((d * 24 + hr) * 10 + pl) (i (b + 4) ((d * 24 + hr) * 10 + pl) ||| bitI (nI C))) (b + 5) _ _) (b + 5) h = _
            rw [mI_uI, if_pos rfl]
            have e5 : ∀ k, mI (uI (wI M i) (b + 4) ((d * 24 + hr) * 10 + pl) (i (b + 4) ((d * 24 + hr) * 10 + pl) ||| bitI (nI C))) (b + 5) k = i (b + 5) k := fun k => congrFun (uIo (by omega)) k
            rw [e5, e5]
            split
            · rename_i heq
              have e3 : h / 24 = d := by omega
              have e4 : h % 24 = hr := by omega
              rw [← heq, hi.2.1 h h9, setB_or1 _ (by omega) hpl]
              refine setB_congr (fun c hc => or_dd ⟨fun z => ?_, fun z => ?_⟩)
              · rcases z with z | z
                · exact ⟨z.1, z.2.1, by omega, z.2.2.2⟩
                · exact ⟨z, e4, by omega, by rw [e3]; exact c25⟩
              · exact Or.inr z.1
            · rename_i heq
              rw [hi.2.1 h h9]
              refine setB_congr (fun c hc => or_d ⟨fun z => ⟨z.1, z.2.1, by omega, z.2.2.2⟩, fun z => ⟨z.1, z.2.1, ?_, z.2.2.2⟩⟩)
              obtain ⟨z1, z2, z3, z4⟩ := z
              omega
          · exact ((uIo z5).trans (uIo z4)).trans (hi.2.2 z z4 z5)
  exact body _ rfl
  
/-- a copy of a timetable -/
def cpT (i' i : Nat → Nat → Int32) (a b : Nat) : Prop := (∀ k, k < 3 → i' a k = i b k) ∧ (∀ o, 1 ≤ o → o ≤ 5 → i' (a + o) = i (b + o)) ∧ ∀ x, (x < a ∨ a + 6 ≤ x) → i' x = i x
theorem TT.copy {i i' : Nat → Nat → Int32} {a b : Nat} {n : Nat → Int32} (h : TT i b n) (hc : cpT i' i a b) : TT i' a n := by
  obtain ⟨h1, h2, h3, h4, h5, h6, h7⟩ := h
  obtain ⟨p1, p2, -⟩ := hc
  refine ⟨(p1 0 (by omega)).trans h1, (p1 1 (by omega)).trans h2, (p1 2 (by omega)).trans h3, fun p hp => ?_, fun c hc => ?_, fun h hh p hp => ?_, fun h hh => ?_⟩
  · rw [p2 1 (by omega) (by omega)]; exact h4 p hp
  · rw [p2 2 (by omega) (by omega)]; exact h5 c hc
  · rw [p2 4 (by omega) (by omega)]; exact h6 h hh p hp
  · rw [p2 5 (by omega) (by omega)]; exact h7 h hh
set_option maxHeartbeats 2000000 in
set_option maxRecDepth 20000 in
theorem t_X9_copyFrom {M : Mm} {a b : Nat} (hL : LX9 M.1 M.2.1 a) (hL2 : LX9 M.1 M.2.1 b) (hd : a + 6 ≤ b ∨ b + 6 ≤ a) : Ct G base YX9_copyFrom 1 0 0 [.ref a, .ref b] M (rI none M (fun i => cpT i (mI M) a b)) := by
  refine Ct.of IX9_copyFrom.1 (by simp [Value.category]) (Nat.le_of_ble_eq_true rfl) (fun X hX hN => ?_)
  show J G base X 0 0 M 0 [some (.ref a), some (.ref b)] []
  refine r_aload_n hX dX9_copyFrom_0 rfl ?_
  refine r_aload_n hX dX9_copyFrom_1 rfl ?_
  refine rn_geti (v := mI M b 0) hX dX9_copyFrom_2 fl_X9_9 rfl (LX9_s hL2) rfl ?_
  refine r_puti hX dX9_copyFrom_5 fl_X9_9 rfl rfl (LX9_s hL) ?_
  refine r_aload_n hX dX9_copyFrom_8 rfl ?_
  refine r_aload_n hX dX9_copyFrom_9 rfl ?_
  refine rn_geti (v := mI M b 1) hX dX9_copyFrom_10 fl_X9_15 rfl (LX9_s hL2) (by simp only [mI_uI]; rw [if_neg (by omega)]) ?_
  refine r_puti hX dX9_copyFrom_13 fl_X9_15 rfl rfl (LX9_s hL) ?_
  refine r_aload_n hX dX9_copyFrom_16 rfl ?_
  refine r_aload_n hX dX9_copyFrom_17 rfl ?_
  refine rn_geti (v := mI M b 2) hX dX9_copyFrom_18 fl_X9_18 rfl (LX9_s hL2) (by simp only [mI_uI]; repeat rw [if_neg (by omega)]) ?_
  refine r_puti hX dX9_copyFrom_21 fl_X9_18 rfl rfl (LX9_s hL) ?_
  refine r_aload_n hX dX9_copyFrom_24 rfl ?_
  refine r_getr hX dX9_copyFrom_25 fl_X9_21 rfl (LX9_s hL2) (LX9_r3 hL2) ?_
  refine r_iconst (v := 0) hX dX9_copyFrom_28 (by decide) ?_
  refine r_aload_n hX dX9_copyFrom_29 rfl ?_
  refine r_getr hX dX9_copyFrom_30 fl_X9_21 rfl (LX9_s hL) (LX9_r3 hL) ?_
  refine r_iconst (v := 0) hX dX9_copyFrom_33 (by decide) ?_
  refine r_bipush (v := 10) hX dX9_copyFrom_34 (by decide) ?_
  refine rn_copy (f := mI M (b + 1)) hX dX9_copyFrom_36 ml_X9_37 (LX9_a3 hL2) (LX9_a3 hL) (funext fun j => by simp only [mI_uA, mI_uI]; repeat rw [if_neg (by omega)]) rfl (by decide) (by decide) rfl (Nat.le_of_ble_eq_true rfl) ?_
  refine r_aload_n hX dX9_copyFrom_39 rfl ?_
  refine r_getr hX dX9_copyFrom_40 fl_X9_25 rfl (LX9_s hL2) (LX9_r4 hL2) ?_
  refine r_iconst (v := 0) hX dX9_copyFrom_43 (by decide) ?_
  refine r_aload_n hX dX9_copyFrom_44 rfl ?_
  refine r_getr hX dX9_copyFrom_45 fl_X9_25 rfl (LX9_s hL) (LX9_r4 hL) ?_
  refine r_iconst (v := 0) hX dX9_copyFrom_48 (by decide) ?_
  refine r_iconst (v := 5) hX dX9_copyFrom_49 (by decide) ?_
  refine rn_copy (f := mI M (b + 2)) hX dX9_copyFrom_50 ml_X9_37 (LX9_a4 hL2) (LX9_a4 hL) (funext fun j => by simp only [mI_uA, mI_uI]; repeat rw [if_neg (by omega)]) rfl (by decide) (by decide) rfl (Nat.le_of_ble_eq_true rfl) ?_
  refine r_aload_n hX dX9_copyFrom_53 rfl ?_
  refine r_getr hX dX9_copyFrom_54 fl_X9_28 rfl (LX9_s hL2) (LX9_r5 hL2) ?_
  refine r_iconst (v := 0) hX dX9_copyFrom_57 (by decide) ?_
  refine r_aload_n hX dX9_copyFrom_58 rfl ?_
  refine r_getr hX dX9_copyFrom_59 fl_X9_28 rfl (LX9_s hL) (LX9_r5 hL) ?_
  refine r_iconst (v := 0) hX dX9_copyFrom_62 (by decide) ?_
  refine r_iconst (v := 5) hX dX9_copyFrom_63 (by decide) ?_
  refine rn_copy (f := mI M (b + 3)) hX dX9_copyFrom_64 ml_X9_37 (LX9_a5 hL2) (LX9_a5 hL) (funext fun j => by simp only [mI_uA, mI_uI]; repeat rw [if_neg (by omega)]) rfl (by decide) (by decide) rfl (Nat.le_of_ble_eq_true rfl) ?_
  refine r_aload_n hX dX9_copyFrom_67 rfl ?_
  refine r_getr hX dX9_copyFrom_68 fl_X9_31 rfl (LX9_s hL2) (LX9_r6 hL2) ?_
  refine r_iconst (v := 0) hX dX9_copyFrom_71 (by decide) ?_
  refine r_aload_n hX dX9_copyFrom_72 rfl ?_
  refine r_getr hX dX9_copyFrom_73 fl_X9_31 rfl (LX9_s hL) (LX9_r6 hL) ?_
  refine r_iconst (v := 0) hX dX9_copyFrom_76 (by decide) ?_
  refine r_sipush (v := 1680) hX dX9_copyFrom_77 (by decide) ?_
  refine rn_copy (f := mI M (b + 4)) hX dX9_copyFrom_80 ml_X9_37 (LX9_a6 hL2) (LX9_a6 hL) (funext fun j => by simp only [mI_uA, mI_uI]; repeat rw [if_neg (by omega)]) rfl (by decide) (by decide) rfl (Nat.le_of_ble_eq_true rfl) ?_
  refine r_aload_n hX dX9_copyFrom_83 rfl ?_
  refine r_getr hX dX9_copyFrom_84 fl_X9_34 rfl (LX9_s hL2) (LX9_r7 hL2) ?_
  refine r_iconst (v := 0) hX dX9_copyFrom_87 (by decide) ?_
  refine r_aload_n hX dX9_copyFrom_88 rfl ?_
  refine r_getr hX dX9_copyFrom_89 fl_X9_34 rfl (LX9_s hL) (LX9_r7 hL) ?_
  refine r_iconst (v := 0) hX dX9_copyFrom_92 (by decide) ?_
  refine r_sipush (v := 168) hX dX9_copyFrom_93 (by decide) ?_
  refine rn_copy (f := mI M (b + 5)) hX dX9_copyFrom_96 ml_X9_37 (LX9_a7 hL2) (LX9_a7 hL) (funext fun j => by simp only [mI_uA, mI_uI]; repeat rw [if_neg (by omega)]) rfl (by decide) (by decide) rfl (Nat.le_of_ble_eq_true rfl) ?_
  refine r_return hX rfl dX9_copyFrom_99 (by decide) (by decide) ?_
  refine ⟨rfl, _, rfl, fun k hk => ?_, fun o h1 h5 => ?_, fun x hx => ?_⟩
  · show mI (uA _ _ _) a k = _
    simp only [mI_uA, mI_uI]
    repeat rw [if_neg (by omega)]
    rcases (show k = 0 ∨ k = 1 ∨ k = 2 by omega) with rfl | rfl | rfl <;> simp
  · funext k
    show mI (uA _ _ _) (a + o) k = _
    simp only [mI_uA, mI_uI]
    rcases (show o = 1 ∨ o = 2 ∨ o = 3 ∨ o = 4 ∨ o = 5 by omega) with rfl | rfl | rfl | rfl | rfl <;> simp
  · funext k
    show mI (uA _ _ _) x k = _
    simp only [mI_uA, mI_uI]
    repeat rw [if_neg (by omega)]
