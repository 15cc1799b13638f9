variable {G : GG} {base : Nat}
/-! ===== TEXT CONSTANTS ===== -/
section TXR
variable {X : Cx} {cc : ByteArray} {own : String} {nL : Nat} {ret : Option FieldType} {d mc ms : Nat} {post : Ot → Mm → Prop} {cs sl : Nat} {M : Mm} {pc : Nat} {ls : List (Option Value)} {st : List Value}
theorem r_ldcS (hX : okX G base X cc own nL ret d mc ms post) {idx i : Nat} (hd : decode cc pc = .ok (.ldc idx, 2)) (hq : (own, idx, i) ∈ txR) (kk : J G base X cs sl M (pc + 2) ls (.ref (G.2.2.1 i) :: st)) : J G base X cs sl M pc ls st := by
  obtain ⟨p, l, e, R, s, m, args, below, meth, c, Q⟩ := X
  obtain ⟨hx, hb, hml, hown, hts, hamb, hlk, hst, hr, hR, hQ, hout⟩ := hX
  intro H locs lsA hM hS hl
  exact va_ldcS hx hb hown (hamb.2.2.2.2.2.1 _ hq) hd (kk H locs lsA hM hS hl)
theorem ldcSW {p : Program} {l : Launch} {e : Env} {R : Room} {s : State} {m : MethodId} {args : Array Value} {below : List Frame} {meth : Method} {c : Code} {T : State} {locs : List Loc} {cells slots : Nat}
    (X : Stand p l e R s m args below meth c T locs cells slots) (hexec : p.tables.exec = Jvm.exec) {own text : String} {index : Nat} {a : Addr} (hown : s.vm.findClass own = some m.cls)
    (hconst : (Cond.stringRef own index text).before #[] s = true) (hev : (Term.string own index).eval #[] s none [] s = some (.ref a)) {g : JFrame} (hg : g.method = m) (hdg : decode c.code g.pc = .ok (.ldc_w index, 3)) :
    ∀ target, Steps p.tables e below (T.setTop { g with pc := g.pc + 3, stack := .ref a :: g.stack }) target → Steps p.tables e below (T.setTop g) target := by
  obtain ⟨k, cf, i, a', hk, hcf, hcp, -, hr, hev'⟩ := Cond.stringRef_spec hown hconst
  cases hev.symm.trans hev'
  obtain ⟨k', hk', he⟩ := X.warmed.alike.2.2 _ _ hk
  have hr' : k'.resolved[index]? = some (some (.string a)) := by
    rcases X.warmed.entry hk hk' index with h | ⟨h, -⟩
    · rw [h]; exact hr
    · rw [hr] at h; cases h
  intro target hrest
  subst hg
  jvm_step X.here [hexec, hdg, Op.ldc_w.wp_string (e := e) (s := T) (f := g) X.here.top hk' (by rw [he]; exact hcf) hcp hr']
  exact hrest
theorem r_ldcSW (hX : okX G base X cc own nL ret d mc ms post) {idx i : Nat} (hd : decode cc pc = .ok (.ldc_w idx, 3)) (hq : (own, idx, i) ∈ txR) (kk : J G base X cs sl M (pc + 3) ls (.ref (G.2.2.1 i) :: st)) : J G base X cs sl M pc ls st := by
  obtain ⟨p, l, e, R, s, m, args, below, meth, c, Q⟩ := X
  obtain ⟨hx, hb, hml, hown, hts, hamb, hlk, hst, hr, hR, hQ, hout⟩ := hX
  intro H locs lsA hM hS hl
  have hZ := hamb.2.2.2.2.2.1 _ hq
  intro T hT X9
  obtain ⟨t, a1, b1⟩ := kk H locs lsA hM hS hl T hT X9
  exact ⟨t, ldcSW X9 hx hown hZ.1 hZ.2 (g := F0 m pc lsA st) rfl (by rw [hb]; exact hd) t a1, b1⟩
theorem r_callVs (hX : okX G base X cc own nL ret d mc ms post) {Y : MD} {idx d2 i : Nat} {rest : List Value} {v : Option Value} {M2 : Mm} {As : List Value} (hd : decode cc pc = .ok (.invokevirtual idx, 3)) (hI : MIv Y) (hl9 : Cond.methodLink own idx Y.1 ∈ WT) (hn9 : As.length = Y.2.2.2.2) (hi : i < 13) (hC : Y.1.cls = "java/lang/String") (hct : Ct G base Y d2 0 0 (.ref (G.2.2.1 i) :: As) M (rE v M2)) (hd2 : d2 < d) (hcs : cs ≤ mc) (hsl : sl ≤ ms) (hml2 : Y.2.2.1 ≤ 45 := by decide) (hlen : ls.length = nL := by rfl) (hW : (rest.map fun v => v.category).sum ≤ 8 := by decide)
    (kr : J G base X cs sl M2 (pc + 3) ls (v.toList ++ rest)) : J G base X cs sl M pc ls (As.reverse ++ .ref (G.2.2.1 i) :: rest) := by
  obtain ⟨p, l, e, R, s, m, args, below, meth, c, Q⟩ := X
  obtain ⟨hx, hb, hml, hown, hts, hamb, hlk, hst, hr, hR, hQ, hout⟩ := hX
  subst hR
  subst hQ
  intro H locs lsA hM hS hl
  obtain ⟨⟨i1, i2, i3, i4, i5⟩, i6, i7⟩ := hI
  have hpre : ∀ U : State, U.heap = H → s.WarmedH U.vm → va_Pc (.ref (G.2.2.1 i) :: As) (fun U => fRep G base M U.heap ∧ Amb G base U U.heap) (Value.ref (G.2.2.1 i) :: As).toArray U := fun U hU hW => ⟨rfl, by rw [hU]; exact hM, by rw [hU]; exact hamb.warm hW hS⟩
  have hroom : (rmD d2 0 0).frames + 1 ≤ (rmD d mc ms).frames ∧ 8 + (Y.2.2.1 + 11) + (rmD d2 0 0).locals ≤ (rmD d mc ms).locals := ⟨hd2, by show 8 + (Y.2.2.1 + 11) + 64 * d2 ≤ 64 * d; omega⟩
  have hin : ∀ w ∈ wsV own idx Y.1.cls Y.1 (wsY Y), w ∈ WT := fun w hw => by
    simp only [wsV, List.mem_append, List.mem_cons, List.not_mem_nil, or_false] at hw
    rcases hw with (rfl | rfl | rfl | rfl) | hw
    · exact hl9
    · exact i6
    · exact i7
    · exact i5
    · exact wsY_in ⟨i1, i2, i3, i4, i5⟩ w (List.mem_cons.mpr hw)
  have hrecv := vk_recv hamb.2.2.2.2.1 hi hS
  rw [← hC] at hrecv
  refine r_run hlk hout (vx_runV (As := As) (rest := rest) (C := Y.1.cls) (nL := nL) ⟨hx, hb, hml, hown, hts⟩ (hct l hst) (cwV Y.2.2.2.2 hts (WT_good hin) rfl rfl rfl ⟨rfl, i2.1, i2.2, i3⟩ hroom) ⟨Ct.blind, hrecv, hpre⟩ rfl hn9 (hl.1.trans hlen) rfl (lv_room hW) hd ⟨hcs, hsl⟩) hS hcs hsl (fun w M' H' locs' hp hM' hS' => ?_) (fun E N hp => by obtain ⟨h1, -⟩ := hp; cases h1)
  obtain ⟨h1, h2⟩ := hp
  cases h1
  subst h2
  exact kr H' locs' lsA hM' hS' hl
theorem r_cVs0 (hX : okX G base X cc own nL ret d mc ms post) {Y : MD} {idx d2 i : Nat} {rest : List Value} {v : Option Value} {M2 : Mm} (hd : decode cc pc = .ok (.invokevirtual idx, 3)) (hI : MIv Y) (hl9 : Cond.methodLink own idx Y.1 ∈ WT) (hn9 : 0 = Y.2.2.2.2) (hi : i < 13) (hC : Y.1.cls = "java/lang/String") (hct : Ct G base Y d2 0 0 [.ref (G.2.2.1 i)] M (rE v M2)) (hd2 : d2 < d) (hcs : cs ≤ mc) (hsl : sl ≤ ms) (hml2 : Y.2.2.1 ≤ 45) (hlen : ls.length = nL) (hW : (rest.map fun v => v.category).sum ≤ 8) (kr : J G base X cs sl M2 (pc + 3) ls (v.toList ++ rest)) : J G base X cs sl M pc ls (.ref (G.2.2.1 i) :: rest) :=
  r_callVs hX (As := []) hd hI hl9 hn9 hi hC hct hd2 hcs hsl hml2 hlen hW kr
theorem r_cVs1 (hX : okX G base X cc own nL ret d mc ms post) {Y : MD} {idx d2 i : Nat} {rest : List Value} {x1 : Value} {v : Option Value} {M2 : Mm} (hd : decode cc pc = .ok (.invokevirtual idx, 3)) (hI : MIv Y) (hl9 : Cond.methodLink own idx Y.1 ∈ WT) (hn9 : 1 = Y.2.2.2.2) (hi : i < 13) (hC : Y.1.cls = "java/lang/String") (hct : Ct G base Y d2 0 0 [.ref (G.2.2.1 i), x1] M (rE v M2)) (hd2 : d2 < d) (hcs : cs ≤ mc) (hsl : sl ≤ ms) (hml2 : Y.2.2.1 ≤ 45) (hlen : ls.length = nL) (hW : (rest.map fun v => v.category).sum ≤ 8) (kr : J G base X cs sl M2 (pc + 3) ls (v.toList ++ rest)) : J G base X cs sl M pc ls (x1 :: .ref (G.2.2.1 i) :: rest) :=
  r_callVs hX (As := [x1]) hd hI hl9 hn9 hi hC hct hd2 hcs hsl hml2 hlen hW kr
theorem r_sval (hX : okX G base X cc own nL ret d mc ms post) {i : Nat} (hd : decode cc pc = .ok (.getfield 9, 3)) (ho : own = RJ0) (hi : i < 13) (kk : J G base X cs sl M (pc + 3) ls (.ref (G.2.2.2 i) :: st)) : J G base X cs sl M pc ls (.ref (G.2.2.1 i) :: st) := by
  subst ho
  obtain ⟨p, l, e, R, s, m, args, below, meth, c, Q⟩ := X
  obtain ⟨hx, hb, hml, hown, hts, hamb, hlk, hst, hr, hR, hQ, hout⟩ := hX
  intro H locs lsA hM hS hl
  exact vk_getf (ref := RJ0) hx hb ((hamb.2.2.2.2.1.1 i hi).2.2.1) hS hown (hts (Cond.fieldLink RJ0 9 RJ0 "value" "[B") (wt 1973 (by decide +kernel) (by decide +kernel))) (fun _ q => q) hd (kk H locs lsA hM hS hl)
theorem r_scod (hX : okX G base X cc own nL ret d mc ms post) {i : Nat} (hd : decode cc pc = .ok (.getfield 15, 3)) (ho : own = RJ0) (hi : i < 13) (kk : J G base X cs sl M (pc + 3) ls (.int 0 :: st)) : J G base X cs sl M pc ls (.ref (G.2.2.1 i) :: st) := by
  subst ho
  obtain ⟨p, l, e, R, s, m, args, below, meth, c, Q⟩ := X
  obtain ⟨hx, hb, hml, hown, hts, hamb, hlk, hst, hr, hR, hQ, hout⟩ := hX
  intro H locs lsA hM hS hl
  exact vk_getf (ref := RJ0) hx hb ((hamb.2.2.2.2.1.1 i hi).2.1) hS hown (hts (Cond.fieldLink RJ0 15 RJ0 "coder" "B") (wt 1974 (by decide +kernel) (by decide +kernel))) (fun _ q => q) hd (kk H locs lsA hM hS hl)
theorem r_slen (hX : okX G base X cc own nL ret d mc ms post) {i : Nat} (hd : decode cc pc = .ok (.arraylength, 1)) (hi : i < 13) (kk : J G base X cs sl M (pc + 1) ls (.int (nI (txL.getD i 0)) :: st)) : J G base X cs sl M pc ls (.ref (G.2.2.2 i) :: st) := by
  obtain ⟨p, l, e, R, s, m, args, below, meth, c, Q⟩ := X
  obtain ⟨hx, hb, hml, hown, hts, hamb, hlk, hst, hr, hR, hQ, hout⟩ := hX
  intro H locs lsA hM hS hl
  exact va_tlen hx hb ((hamb.2.2.2.2.1.1 i hi).2.2.2) hS rfl hd (kk H locs lsA hM hS hl)
theorem r_sbyte (hX : okX G base X cc own nL ret d mc ms post) {i j : Nat} (hd : decode cc pc = .ok (.baload, 1)) (hi : i < 13) (hj : j < txL.getD i 0) (hj9 : txL.getD i 0 < 2147483648) (kk : J G base X cs sl M (pc + 1) ls (.int ((txB.getD i []).getD j 0) :: st)) : J G base X cs sl M pc ls (.int (nI j) :: .ref (G.2.2.2 i) :: st) := by
  obtain ⟨p, l, e, R, s, m, args, below, meth, c, Q⟩ := X
  obtain ⟨hx, hb, hml, hown, hts, hamb, hlk, hst, hr, hR, hQ, hout⟩ := hX
  intro H locs lsA hM hS hl
  refine va_tb hx hb ((hamb.2.2.2.2.1.1 i hi).2.2.2) hS (vp_in_nI hj hj9) (by rw [nI_clamp (by omega)]) hd (kk H locs lsA hM hS hl)
theorem r_comp (hX : okX G base X cc own nL ret d mc ms post) (hd : decode cc pc = .ok (.getstatic 38, 3)) (ho : own = RJ0) (kk : J G base X cs sl M (pc + 3) ls (.int 1 :: st)) : J G base X cs sl M pc ls st := by
  subst ho
  obtain ⟨p, l, e, R, s, m, args, below, meth, c, Q⟩ := X
  obtain ⟨hx, hb, hml, hown, hts, hamb, hlk, hst, hr, hR, hQ, hout⟩ := hX
  intro H locs lsA hM hS hl
  exact va_gets (ref := RJ0) hx hb hamb.2.2.2.2.2.2.1 hS hown (hts (Cond.fieldLink RJ0 38 RJ0 "COMPACT_STRINGS" "Z") (wt 639 (by decide +kernel) (by decide +kernel))) (fun _ q => q) hd (kk H locs lsA hM hS hl)
theorem r_sioo (hX : okX G base X cc own nL ret d mc ms post) (hd : decode cc pc = .ok (.getstatic 1053, 3)) (ho : own = RJ0) (kk : ∀ v : Value, v.category = 1 → J G base X cs sl M (pc + 3) ls (v :: st)) : J G base X cs sl M pc ls st := by
  subst ho
  obtain ⟨p, l, e, R, s, m, args, below, meth, c, Q⟩ := X
  obtain ⟨hx, hb, hml, hown, hts, hamb, hlk, hst, hr, hR, hQ, hout⟩ := hX
  intro H locs lsA hM hS hl
  rcases hamb.2.2.2.2.2.2.2.1 with h | ⟨t, h⟩
  · exact va_gets (ref := "jdk/internal/util/Preconditions") hx hb h hS hown (hts (Cond.fieldLink RJ0 1053 "jdk/internal/util/Preconditions" "SIOOBE_FORMATTER" "Ljava/util/function/BiFunction;") (wt 655 (by decide +kernel) (by decide +kernel))) (fun _ q => q) hd (kk _ rfl H locs lsA hM hS hl)
  · exact va_gets (ref := "jdk/internal/util/Preconditions") hx hb h hS hown (hts (Cond.fieldLink RJ0 1053 "jdk/internal/util/Preconditions" "SIOOBE_FORMATTER" "Ljava/util/function/BiFunction;") (wt 655 (by decide +kernel) (by decide +kernel))) (fun _ q => q) hd (kk _ rfl H locs lsA hM hS hl)
end TXR
/-- the text constants, by their letters -/
def txw (i : Nat) : List Nat := [[118, 105, 108, 108, 97, 103, 101], [99, 114, 111, 115, 115, 105, 110, 103], [99, 97, 114, 114, 105, 101, 114], [114, 111, 117, 116, 101], [99, 97, 112, 97, 99, 105, 116, 121], [108, 101, 116, 116, 101, 114], [105, 110, 115, 117, 114, 101, 100], [111, 102, 102, 105, 99, 101, 32], [115, 97, 99, 107, 32], [104, 97, 110, 100], [108, 111, 115, 116], [32, 33], [58, 32]].getD i []
theorem txw_len {i : Nat} (hi : i < 13) : txL.getD i 0 = (txw i).length := by
  have : ∀ i, i < 13 → txL.getD i 0 = (txw i).length := by decide +kernel
  exact this i hi
theorem txw_at {i j : Nat} (hi : i < 13) (hj : j < (txw i).length) : (txB.getD i []).getD j 0 = nI ((txw i).getD j 0) := by
  have : ∀ i, i < 13 → ∀ j, j < (txw i).length → (txB.getD i []).getD j 0 = nI ((txw i).getD j 0) := by decide +kernel
  exact this i hi j hj
theorem txw_b {i j : Nat} (hi : i < 13) (hj : j < (txw i).length) : (txw i).getD j 0 < 128 := by
  have : ∀ i, i < 13 → ∀ j, j < (txw i).length → (txw i).getD j 0 < 128 := by decide +kernel
  exact this i hi j hj
theorem txw_s {i : Nat} : (txw i).length < 9 := by
  by_cases hi : i < 13
  · have : ∀ i, i < 13 → (txw i).length < 9 := by decide +kernel
    exact this i hi
  · unfold txw
    rw [List.getD_eq_getElem?_getD, List.getElem?_eq_none (by simp; omega)]
    decide
theorem c_and {c : Nat} (hc : c < 128) : ((nI c &&& 255).toUInt32 % 65536).toInt32 = nI c := by
  have : ∀ c, c < 128 → ((nI c &&& 255).toUInt32 % 65536).toInt32 = nI c := by decide +kernel
  exact this c hc
theorem c_nar {c : Nat} (hc : c < 128) : narrow .char (.int (nI c)) = .int (nI c) := by
  have : ∀ c, c < 128 → narrow .char (.int (nI c)) = .int (nI c) := by decide +kernel
  exact this c hc
set_option maxHeartbeats 2000000 in
set_option maxRecDepth 20000 in
theorem t_checkIndex3 {M : Mm} {j n : Nat} (hj : j < n) (hn : n < 2147483648) {v : Value} (hv : v.category = 1) : Ct G base YJ3_checkIndex_8e157 1 0 0 [.int (nI j), .int (nI n), v] M (rE (some (.int (nI j))) M) := by
  refine Ct.of IJ3_checkIndex_8e157.1 (by simp [Value.category, hv] <;> exact hv) (Nat.le_of_ble_eq_true rfl) (fun X hX hN => ?_)
  show J G base X 0 0 M 0 [some (.int (nI j)), some (.int (nI n)), some (v)] []
  refine r_iload_n hX dJ3_checkIndex_8e157_0 rfl ?_
  refine rn_if_lt (tgt := 9) hX dJ3_checkIndex_8e157_1 (by decide) rfl (by omega) ?_
  refine r_iload_n hX dJ3_checkIndex_8e157_4 rfl ?_
  refine r_iload_n hX dJ3_checkIndex_8e157_5 rfl ?_
  refine rn_icmp_lt (tgt := 16) hX dJ3_checkIndex_8e157_6 (by decide) rfl rfl (by omega) (by omega) (fun _ => ?_) (fun h => absurd h (by omega))
  refine r_iload_n hX dJ3_checkIndex_8e157_16 rfl ?_
  refine r_ireturn hX rfl rfl dJ3_checkIndex_8e157_17 (by decide) (by decide) ?_
  exact ⟨rfl, rfl⟩
set_option maxHeartbeats 2000000 in
set_option maxRecDepth 20000 in
theorem t_checkIndex0 {M : Mm} {j n : Nat} (hj : j < n) (hn : n < 2147483648) : Ct G base YJ0_checkIndex_df160 2 0 0 [.int (nI j), .int (nI n)] M (rE none M) := by
  refine Ct.of IJ0_checkIndex_df160.1 (by simp [Value.category]) (Nat.le_of_ble_eq_true rfl) (fun X hX hN => ?_)
  show J G base X 0 0 M 0 [some (.int (nI j)), some (.int (nI n))] []
  refine r_iload_n hX dJ0_checkIndex_df160_0 rfl ?_
  refine r_iload_n hX dJ0_checkIndex_df160_1 rfl ?_
  refine r_sioo hX dJ0_checkIndex_df160_2 rfl (fun v hv => ?_)
  refine r_cS3 hX dJ0_checkIndex_df160_5 IJ3_checkIndex_8e157 ml_J0_1059 rfl (t_checkIndex3 hj hn hv) (by decide) (by decide) (by decide) (by decide) rfl (Nat.le_of_ble_eq_true rfl) ?_
  refine r_pop hX dJ0_checkIndex_df160_8 rfl ?_
  refine r_return hX rfl dJ0_checkIndex_df160_9 (by decide) (by decide) ?_
  exact ⟨rfl, rfl⟩
set_option maxHeartbeats 2000000 in
set_option maxRecDepth 20000 in
theorem t_charAt1 {M : Mm} {i j : Nat} (hi : i < 13) (hj : j < (txw i).length) : Ct G base YJ1_charAt_3b067 3 0 0 [.ref (G.2.2.2 i), .int (nI j)] M (rE (some (.int (nI ((txw i).getD j 0)))) M) := by
  refine Ct.of IJ1_charAt_3b067.1 (by simp [Value.category]) (Nat.le_of_ble_eq_true rfl) (fun X hX hN => ?_)
  show J G base X 0 0 M 0 [some (.ref (G.2.2.2 i)), some (.int (nI j))] []
  have h9 := @txw_s i
  have hl := txw_len hi
  refine r_iload_n hX dJ1_charAt_3b067_0 rfl ?_
  refine r_aload_n hX dJ1_charAt_3b067_1 rfl ?_
  refine r_slen hX dJ1_charAt_3b067_2 hi ?_
  refine r_cS2 hX dJ1_charAt_3b067_3 IJ0_checkIndex_df160 ml_J1_9 rfl (t_checkIndex0 (by omega) (by omega)) (by decide) (by decide) (by decide) (by decide) rfl (Nat.le_of_ble_eq_true rfl) ?_
  refine r_aload_n hX dJ1_charAt_3b067_6 rfl ?_
  refine r_iload_n hX dJ1_charAt_3b067_7 rfl ?_
  refine r_sbyte hX dJ1_charAt_3b067_8 hi (by omega) (by omega) ?_
  rw [txw_at hi hj]
  refine r_sipush (v := 255) hX dJ1_charAt_3b067_9 (by decide) ?_
  refine r_iand hX dJ1_charAt_3b067_12 ?_
  refine r_i2c hX dJ1_charAt_3b067_13 ?_
  rw [c_and (txw_b hi hj)]
  refine r_ireturn hX rfl (c_nar (txw_b hi hj)) dJ1_charAt_3b067_14 (by decide) (by decide) ?_
  exact ⟨rfl, rfl⟩
set_option maxHeartbeats 2000000 in
set_option maxRecDepth 20000 in
theorem t_coder {M : Mm} {i : Nat} (hi : i < 13) : Ct G base YJ0_coder_7d493 1 0 0 [.ref (G.2.2.1 i)] M (rE (some (.int 0)) M) := by
  refine Ct.of IJ0_coder_7d493.1 (by simp [Value.category]) (Nat.le_of_ble_eq_true rfl) (fun X hX hN => ?_)
  show J G base X 0 0 M 0 [some (.ref (G.2.2.1 i))] []
  refine r_comp hX dJ0_coder_7d493_0 rfl ?_
  refine r_if_eq (tgt := 13) hX dJ0_coder_7d493_3 (by decide) (fun h => absurd h (by decide)) (fun _ => ?_)
  refine r_aload_n hX dJ0_coder_7d493_6 rfl ?_
  refine r_scod hX dJ0_coder_7d493_7 rfl hi ?_
  refine r_goto (tgt := 14) hX dJ0_coder_7d493_10 (by decide) ?_
  refine r_ireturn hX rfl rfl dJ0_coder_7d493_14 (by decide) (by decide) ?_
  exact ⟨rfl, rfl⟩
set_option maxHeartbeats 2000000 in
set_option maxRecDepth 20000 in
theorem t_isLatin1 {M : Mm} {i : Nat} (hi : i < 13) : Ct G base YJ0_isLatin1_aae02 1 0 0 [.ref (G.2.2.1 i)] M (rE (some (.int 1)) M) := by
  refine Ct.of IJ0_isLatin1_aae02.1 (by simp [Value.category]) (Nat.le_of_ble_eq_true rfl) (fun X hX hN => ?_)
  show J G base X 0 0 M 0 [some (.ref (G.2.2.1 i))] []
  refine r_comp hX dJ0_isLatin1_aae02_0 rfl ?_
  refine r_if_eq (tgt := 17) hX dJ0_isLatin1_aae02_3 (by decide) (fun h => absurd h (by decide)) (fun _ => ?_)
  refine r_aload_n hX dJ0_isLatin1_aae02_6 rfl ?_
  refine r_scod hX dJ0_isLatin1_aae02_7 rfl hi ?_
  refine r_if_ne (tgt := 17) hX dJ0_isLatin1_aae02_10 (by decide) (fun h => absurd rfl h) (fun _ => ?_)
  refine r_iconst (v := 1) hX dJ0_isLatin1_aae02_13 (by decide) ?_
  refine r_goto (tgt := 18) hX dJ0_isLatin1_aae02_14 (by decide) ?_
  refine r_ireturn hX rfl rfl dJ0_isLatin1_aae02_18 (by decide) (by decide) ?_
  exact ⟨rfl, rfl⟩
set_option maxHeartbeats 2000000 in
set_option maxRecDepth 20000 in
theorem t_length {M : Mm} {i : Nat} (hi : i < 13) : Ct G base YJ0_length_8abf5 2 0 0 [.ref (G.2.2.1 i)] M (rE (some (.int (nI (txw i).length))) M) := by
  refine Ct.of IJ0_length_8abf5.1 (by simp [Value.category]) (Nat.le_of_ble_eq_true rfl) (fun X hX hN => ?_)
  show J G base X 0 0 M 0 [some (.ref (G.2.2.1 i))] []
  refine r_aload_n hX dJ0_length_8abf5_0 rfl ?_
  refine r_sval hX dJ0_length_8abf5_1 rfl hi ?_
  refine r_slen hX dJ0_length_8abf5_4 hi ?_
  rw [txw_len hi]
  refine r_aload_n hX dJ0_length_8abf5_5 rfl ?_
  refine r_cVs0 hX dJ0_length_8abf5_6 IJ0_coder_7d493 ml_J0_335 rfl hi rfl (t_coder hi) (by decide) (by decide) (by decide) (by decide) rfl (Nat.le_of_ble_eq_true rfl) ?_
  refine r_ishr hX dJ0_length_8abf5_9 ?_
  rw [show nI (txw i).length >>> ((0 : Int32) &&& 31) = nI (txw i).length by rw [show ((0 : Int32) &&& 31) = 0 by decide]; simp]
  refine r_ireturn hX rfl rfl dJ0_length_8abf5_10 (by decide) (by decide) ?_
  exact ⟨rfl, rfl⟩
set_option maxHeartbeats 2000000 in
set_option maxRecDepth 20000 in
theorem t_charAt {M : Mm} {i j : Nat} (hi : i < 13) (hj : j < (txw i).length) : Ct G base YJ0_charAt_5068e 4 0 0 [.ref (G.2.2.1 i), .int (nI j)] M (rE (some (.int (nI ((txw i).getD j 0)))) M) := by
  refine Ct.of IJ0_charAt_5068e.1 (by simp [Value.category]) (Nat.le_of_ble_eq_true rfl) (fun X hX hN => ?_)
  show J G base X 0 0 M 0 [some (.ref (G.2.2.1 i)), some (.int (nI j))] []
  refine r_aload_n hX dJ0_charAt_5068e_0 rfl ?_
  refine r_cVs0 hX dJ0_charAt_5068e_1 IJ0_isLatin1_aae02 ml_J0_492 rfl hi rfl (t_isLatin1 hi) (by decide) (by decide) (by decide) (by decide) rfl (Nat.le_of_ble_eq_true rfl) ?_
  refine r_if_eq (tgt := 16) hX dJ0_charAt_5068e_4 (by decide) (fun h => absurd h (by decide)) (fun _ => ?_)
  refine r_aload_n hX dJ0_charAt_5068e_7 rfl ?_
  refine r_sval hX dJ0_charAt_5068e_8 rfl hi ?_
  refine r_iload_n hX dJ0_charAt_5068e_11 rfl ?_
  refine r_cS2 hX dJ0_charAt_5068e_12 IJ1_charAt_3b067 ml_J0_495 rfl (t_charAt1 hi hj) (by decide) (by decide) (by decide) (by decide) rfl (Nat.le_of_ble_eq_true rfl) ?_
  refine r_ireturn hX rfl (c_nar (txw_b hi hj)) dJ0_charAt_5068e_15 (by decide) (by decide) ?_
  exact ⟨rfl, rfl⟩
