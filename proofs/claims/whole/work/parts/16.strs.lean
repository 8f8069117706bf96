/-! texts -/
section STRS
variable {G : GT} {X : CX} {cc : ByteArray} {nL : Nat} {ret : Option FieldType} {own : String} {pc : Nat} {lv : List (Option Value)} {st : List Value} {σ : ST}
variable {y : MethodName} {cc' : ByteArray} {nL' : Nat} {ret' : Option FieldType} {n h' idx : Nat} {Q' : Option Value → ST → Prop} {As : List Value}
theorem rj_ldcS {i ix : Nat} (hi : i < 8) (hx : scp.getD i 0 = ix) (hd : decode cc pc = .ok (.ldc ix, 2)) (k : RJ G X cc nL ret RX7 (pc + 2) lv (.ref (X.2.2.2 (10 + i)) :: st) σ) : RJ G X cc nL ret RX7 pc lv st σ := by
  subst hx
  intro p e s m args below meth c H locs ls C hP hS hl
  exact va_ldcS C.1 C.2.1 (own := RX7) (tx := stx.getD i "") C.2.2.2.2.1 (C.2.2.2.2.2.2.2.1.2.2.2.2.2.2.2.1 i hi) hd (k p e s m args below meth c H locs ls C hP hS hl)
theorem rj_getCS (hw : Cond.fieldLink own idx "java/lang/String" "COMPACT_STRINGS" "Z" ∈ TW) (hd : decode cc pc = .ok (.getstatic idx, 3)) (k : RJ G X cc nL ret own (pc + 3) lv (.int 1 :: st) σ) : RJ G X cc nL ret own pc lv st σ := by
  intro p e s m args below meth c H locs ls C hP hS hl
  exact va_gets C.1 C.2.1 C.2.2.2.2.2.2.2.1.2.2.2.2.2.2.1 hS C.2.2.2.2.1 (C.2.2.2.2.2.1 _ hw) (fun _ h => h) hd (k p e s m args below meth c H locs ls C hP hS hl)
theorem rj_getSI (hw : Cond.fieldLink own idx "jdk/internal/util/Preconditions" "SIOOBE_FORMATTER" "Ljava/util/function/BiFunction;" ∈ TW) (hd : decode cc pc = .ok (.getstatic idx, 3)) (k : ∀ v : Value, (v = .null ∨ ∃ t, v = .ref t) → RJ G X cc nL ret own (pc + 3) lv (v :: st) σ) : RJ G X cc nL ret own pc lv st σ := by
  intro p e s m args below meth c H locs ls C hP hS hl
  rcases C.2.2.2.2.2.2.2.1.2.2.2.2.2.2.2.2.2 with z | ⟨t, z⟩
  · exact va_gets C.1 C.2.1 z hS C.2.2.2.2.1 (C.2.2.2.2.2.1 _ hw) (fun _ h => h) hd (k _ (Or.inl rfl) p e s m args below meth c H locs ls C hP hS hl)
  · exact va_gets C.1 C.2.1 z hS C.2.2.2.2.1 (C.2.2.2.2.2.1 _ hw) (fun _ h => h) hd (k _ (Or.inr ⟨t, rfl⟩) p e s m args below meth c H locs ls C hP hS hl)
theorem rj_sval {i : Nat} (hi : i < 8) (hw : Cond.fieldLink own idx "java/lang/String" "value" "[B" ∈ TW) (hd : decode cc pc = .ok (.getfield idx, 3)) (k : RJ G X cc nL ret own (pc + 3) lv (.ref (X.2.2.2 (20 + i)) :: st) σ) : RJ G X cc nL ret own pc lv (.ref (X.2.2.2 (10 + i)) :: st) σ := by
  intro p e s m args below meth c H locs ls C hP hS hl
  exact vk_getf C.1 C.2.1 (C.2.2.2.2.2.2.2.1.2.2.2.2.2.2.2.2.1.1 i hi).2.2.1 hS C.2.2.2.2.1 (C.2.2.2.2.2.1 _ hw) (fun _ h => h) hd (k p e s m args below meth c H locs ls C hP hS hl)
theorem rj_scod {i : Nat} (hi : i < 8) (hw : Cond.fieldLink own idx "java/lang/String" "coder" "B" ∈ TW) (hd : decode cc pc = .ok (.getfield idx, 3)) (k : RJ G X cc nL ret own (pc + 3) lv (.int 0 :: st) σ) : RJ G X cc nL ret own pc lv (.ref (X.2.2.2 (10 + i)) :: st) σ := by
  intro p e s m args below meth c H locs ls C hP hS hl
  exact vk_getf C.1 C.2.1 (C.2.2.2.2.2.2.2.1.2.2.2.2.2.2.2.2.1.1 i hi).2.1 hS C.2.2.2.2.1 (C.2.2.2.2.2.1 _ hw) (fun _ h => h) hd (k p e s m args below meth c H locs ls C hP hS hl)
theorem rj_slen {i : Nat} (hi : i < 8) (hd : decode cc pc = .ok (.arraylength, 1)) (k : RJ G X cc nL ret own (pc + 1) lv (.int (nI (slen.getD i 0)) :: st) σ) : RJ G X cc nL ret own pc lv (.ref (X.2.2.2 (20 + i)) :: st) σ := by
  intro p e s m args below meth c H locs ls C hP hS hl
  exact va_tlen C.1 C.2.1 (C.2.2.2.2.2.2.2.1.2.2.2.2.2.2.2.2.1.1 i hi).2.2.2 hS rfl hd (k p e s m args below meth c H locs ls C hP hS hl)
theorem rj_sbyt {i : Nat} (hi : i < 8) {j : Int32} (hin : vp_in j (slen.getD i 0)) (hd : decode cc pc = .ok (.baload, 1)) (k : RJ G X cc nL ret own (pc + 1) lv (.int ((sbyt.getD i []).getD j.toNatClampNeg 0) :: st) σ) : RJ G X cc nL ret own pc lv (.int j :: .ref (X.2.2.2 (20 + i)) :: st) σ := by
  intro p e s m args below meth c H locs ls C hP hS hl
  exact va_tb C.1 C.2.1 (C.2.2.2.2.2.2.2.1.2.2.2.2.2.2.2.2.1.1 i hi).2.2.2 hS hin rfl hd (k p e s m args below meth c H locs ls C hP hS hl)
theorem rj_callT {i : Nat} (hi : i < 8) (hy : y.cls = "java/lang/String") (hb : mV own idx y cc' nL' ret' n) (hd : decode cc pc = .ok (.invokevirtual idx, 3)) (hM : MJ G.1 X h' y cc' nL' ret' (.ref (X.2.2.2 (10 + i)) :: As) σ Q') (hn : As.length = n) (hR : fitR G h' nL') (hst : (st.map fun v => v.category).sum ≤ 8)
    (kk : ∀ (v : Option Value) (τ : ST), Q' v τ → RJ G X cc nL ret own (pc + 3) lv (v.toList ++ st) τ) : RJ G X cc nL ret own pc lv (As.reverse ++ .ref (X.2.2.2 (10 + i)) :: st) σ := by
  intro p e s m args below meth c H locs ls C hP hS hl
  obtain ⟨b1, b2, b3, b4, b5, b6, b7⟩ := hb
  have hG : GoodIn TW (wsV own idx y.cls y (Cond.code y cc' nL' ret' :: TW)) := TW_GI (fun w hw => by
    rcases List.mem_append.mp hw with h | h
    · simp only [List.mem_cons, List.not_mem_nil, or_false] at h
      rcases h with rfl | rfl | rfl | rfl <;> assumption
    · rcases List.mem_cons.mp h with rfl | h <;> assumption)
  have hrec := vk_recv (C.2.2.2.2.2.2.2.1.2.2.2.2.2.2.2.2.1) hi hS
  rw [← hy] at hrec
  exact rj_run C hS hl (va_runV (As := As) (rest := st) ⟨C.1, C.2.1, C.2.2.2.1, C.2.2.2.2.1, C.2.2.2.2.2.1⟩ hM (cwV n C.2.2.2.2.2.1 hG rfl rfl rfl ⟨rfl, b6.1, b6.2, b7⟩ hR.1) ⟨IV_blind, hrec, fun U hU hW => ⟨rfl, C.2.2.2.2.2.2.2.1.warm hW hU hS, by rw [hU]; exact hP⟩⟩ rfl hn hl.1 rfl (lv_room hst) hd ⟨hR.2.1, hR.2.2⟩) kk
theorem rj_T0i {i : Nat} {r : Int32} {τ : ST} (hi : i < 8) (hy : y.cls = "java/lang/String") (hb : mV own idx y cc' nL' ret' 0) (hd : decode cc pc = .ok (.invokevirtual idx, 3)) (hM : MJ G.1 X h' y cc' nL' ret' [.ref (X.2.2.2 (10 + i))] σ (eqI r τ)) (hR : fitR G h' nL') (hst : (st.map fun v => v.category).sum ≤ 8) (kk : RJ G X cc nL ret own (pc + 3) lv (.int r :: st) τ) : RJ G X cc nL ret own pc lv (.ref (X.2.2.2 (10 + i)) :: st) σ := rj_callT (As := []) hi hy hb hd hM rfl hR hst (fun v t h => by obtain ⟨rfl, rfl⟩ := h; exact kk)
theorem rj_T1i {i : Nat} {r : Int32} {τ : ST} {a1 : Value} (hi : i < 8) (hy : y.cls = "java/lang/String") (hb : mV own idx y cc' nL' ret' 1) (hd : decode cc pc = .ok (.invokevirtual idx, 3)) (hM : MJ G.1 X h' y cc' nL' ret' (.ref (X.2.2.2 (10 + i)) :: [a1]) σ (eqI r τ)) (hR : fitR G h' nL') (hst : (st.map fun v => v.category).sum ≤ 8) (kk : RJ G X cc nL ret own (pc + 3) lv (.int r :: st) τ) : RJ G X cc nL ret own pc lv (a1 :: .ref (X.2.2.2 (10 + i)) :: st) σ := rj_callT (As := [a1]) hi hy hb hd hM rfl hR hst (fun v t h => by obtain ⟨rfl, rfl⟩ := h; exact kk)
end STRS
theorem sJ0_38 : Cond.fieldLink RJ0 38 "java/lang/String" "COMPACT_STRINGS" "Z" ∈ TW := (tw_t (tm4 16 rfl) rfl)
theorem sJ0_1053 : Cond.fieldLink RJ0 1053 "jdk/internal/util/Preconditions" "SIOOBE_FORMATTER" "Ljava/util/function/BiFunction;" ∈ TW := (tw_t (tm4 32 rfl) rfl)
theorem sJ0_9 : Cond.fieldLink RJ0 9 "java/lang/String" "value" "[B" ∈ TW := (tw_t (tm7 11 rfl) rfl)
theorem sJ0_15 : Cond.fieldLink RJ0 15 "java/lang/String" "coder" "B" ∈ TW := (tw_t (tm7 12 rfl) rfl)
theorem sl_sh : ∀ i, i < 8 → nI (slen.getD i 0) >>> ((0 : Int32) &&& 31) = nI (slen.getD i 0) := by decide +kernel
theorem sl_le : ∀ i, i < 8 → (nI (slen.getD i 0)).toInt = slen.getD i 0 ∧ slen.getD i 0 ≤ 8 ∧ (sbyt.getD i []).length = slen.getD i 0 := by decide +kernel
theorem sb_c : ∀ i, i < 8 → ∀ j, j < 8 → ((((sbyt.getD i []).getD j 0) &&& 255).toUInt32 % 65536).toInt32 = (sbyt.getD i []).getD j 0 := by decide +kernel
theorem sb_n : ∀ i, i < 8 → ∀ j, j < 8 → ((sbyt.getD i []).getD j 0).toUInt32.toUInt16.toUInt32.toInt32 = (sbyt.getD i []).getD j 0 := by decide +kernel
set_option maxRecDepth 100000 in
theorem c_J0_coder {l : Launch} {X : CX} {σ : ST} {i : Nat} (hi : i < 8) : MJ l X 0 yJ0_coder_7d493 cJ0_coder_7d493 1 (some .byte) [.ref (X.2.2.2 (10 + i))] σ (eqI 0 σ) := by
  refine MJ_ofF (own := RJ0) [some (.ref (X.2.2.2 (10 + i)))] (by decide +kernel) rfl (Nat.le_of_ble_eq_true rfl) rfl ?_
  refine rj_getCS sJ0_38 dJ0_coder_7d493_0 ?_
  refine rj_if_eq (tgt := 13) dJ0_coder_7d493_3 (by decide) (fun h_3 => ?_) (fun h_3 => ?_)
  · exact absurd h_3 (by decide)
  · refine rj_ald0 dJ0_coder_7d493_6 rfl ?_
    refine rj_scod hi sJ0_15 dJ0_coder_7d493_7 ?_
    refine rj_goto (tgt := 14) dJ0_coder_7d493_10 (by decide) ?_
    refine rj_zret dJ0_coder_7d493_14 (rfl) ?_
    exact ⟨rfl, rfl⟩

set_option maxRecDepth 100000 in
theorem c_J0_isLatin1 {l : Launch} {X : CX} {σ : ST} {i : Nat} (hi : i < 8) : MJ l X 0 yJ0_isLatin1_aae02 cJ0_isLatin1_aae02 1 (some .boolean) [.ref (X.2.2.2 (10 + i))] σ (eqI 1 σ) := by
  refine MJ_ofF (own := RJ0) [some (.ref (X.2.2.2 (10 + i)))] (by decide +kernel) rfl (Nat.le_of_ble_eq_true rfl) rfl ?_
  refine rj_getCS sJ0_38 dJ0_isLatin1_aae02_0 ?_
  refine rj_if_eq (tgt := 17) dJ0_isLatin1_aae02_3 (by decide) (fun h_3 => ?_) (fun h_3 => ?_)
  · exact absurd h_3 (by decide)
  · refine rj_ald0 dJ0_isLatin1_aae02_6 rfl ?_
    refine rj_scod hi sJ0_15 dJ0_isLatin1_aae02_7 ?_
    refine rj_if_ne (tgt := 17) dJ0_isLatin1_aae02_10 (by decide) (fun h_10 => ?_) (fun h_10 => ?_)
    · exact absurd rfl h_10
    · refine rj_ic1 dJ0_isLatin1_aae02_13 ?_
      refine rj_goto (tgt := 18) dJ0_isLatin1_aae02_14 (by decide) ?_
      refine rj_zret dJ0_isLatin1_aae02_18 (rfl) ?_
      exact ⟨rfl, rfl⟩

set_option maxRecDepth 100000 in
theorem c_J0_length {l : Launch} {X : CX} {σ : ST} {i : Nat} (hi : i < 8) : MJ l X 1 yJ0_length_8abf5 cJ0_length_8abf5 1 (some .int) [.ref (X.2.2.2 (10 + i))] σ (eqI (nI (slen.getD i 0)) σ) := by
  refine MJ_ofF (own := RJ0) [some (.ref (X.2.2.2 (10 + i)))] (by decide +kernel) rfl (Nat.le_of_ble_eq_true rfl) rfl ?_
  refine rj_ald0 dJ0_length_8abf5_0 rfl ?_
  refine rj_sval hi sJ0_9 dJ0_length_8abf5_1 ?_
  refine rj_slen hi dJ0_length_8abf5_4 ?_
  refine rj_ald0 dJ0_length_8abf5_5 rfl ?_
  refine rj_T0i hi rfl cJ0_335 dJ0_length_8abf5_6 (c_J0_coder hi) (fitM (by decide) (by decide)) (Nat.le_of_ble_eq_true rfl) ?_
  refine rj_ishr dJ0_length_8abf5_9 ?_
  rw [sl_sh i hi]
  refine rj_iret dJ0_length_8abf5_10 ?_
  exact ⟨rfl, rfl⟩

set_option maxRecDepth 100000 in
theorem c_J3_checkIndex {l : Launch} {X : CX} {σ : ST} {i n : Int32} {f : Nat} (h1 : 0 ≤ i.toInt) (h2 : i.toInt < n.toInt) : MJ l X 0 yJ3_checkIndex_8e157 cJ3_checkIndex_8e157 3 (some .int) [.int i, .int n, .ref f] σ (eqI i σ) := by
  refine MJ_ofF (own := RJ3) [some (.int i), some (.int n), some (.ref f)] (by decide +kernel) rfl (Nat.le_of_ble_eq_true rfl) rfl ?_
  refine rj_ild0 dJ3_checkIndex_8e157_0 rfl ?_
  refine rj_if_lt (tgt := 9) dJ3_checkIndex_8e157_1 (by decide) (fun h_1 => ?_) (fun h_1 => ?_)
  · exfalso; omega
  · refine rj_ild0 dJ3_checkIndex_8e157_4 rfl ?_
    refine rj_ild1 dJ3_checkIndex_8e157_5 rfl ?_
    refine rj_ic_lt (tgt := 16) dJ3_checkIndex_8e157_6 (by decide) (fun h_6 => ?_) (fun h_6 => ?_)
    · refine rj_ild0 dJ3_checkIndex_8e157_16 rfl ?_
      refine rj_iret dJ3_checkIndex_8e157_17 ?_
      exact ⟨rfl, rfl⟩
    · exfalso; omega

set_option maxRecDepth 100000 in
theorem c_J3_checkIndexN {l : Launch} {X : CX} {σ : ST} {i n : Int32} (h1 : 0 ≤ i.toInt) (h2 : i.toInt < n.toInt) : MJ l X 0 yJ3_checkIndex_8e157 cJ3_checkIndex_8e157 3 (some .int) [.int i, .int n, .null] σ (eqI i σ) := by
  refine MJ_ofF (own := RJ3) [some (.int i), some (.int n), some (.null)] (by decide +kernel) rfl (Nat.le_of_ble_eq_true rfl) rfl ?_
  refine rj_ild0 dJ3_checkIndex_8e157_0 rfl ?_
  refine rj_if_lt (tgt := 9) dJ3_checkIndex_8e157_1 (by decide) (fun h_1 => ?_) (fun h_1 => ?_)
  · exfalso; omega
  · refine rj_ild0 dJ3_checkIndex_8e157_4 rfl ?_
    refine rj_ild1 dJ3_checkIndex_8e157_5 rfl ?_
    refine rj_ic_lt (tgt := 16) dJ3_checkIndex_8e157_6 (by decide) (fun h_6 => ?_) (fun h_6 => ?_)
    · refine rj_ild0 dJ3_checkIndex_8e157_16 rfl ?_
      refine rj_iret dJ3_checkIndex_8e157_17 ?_
      exact ⟨rfl, rfl⟩
    · exfalso; omega

theorem c_J3_checkIndexV {l : Launch} {X : CX} {σ : ST} {i n : Int32} {v : Value} (hv : v = .null ∨ ∃ t, v = .ref t) (h1 : 0 ≤ i.toInt) (h2 : i.toInt < n.toInt) : MJ l X 0 yJ3_checkIndex_8e157 cJ3_checkIndex_8e157 3 (some .int) [.int i, .int n, v] σ (eqI i σ) := by
  rcases hv with rfl | ⟨t, rfl⟩
  · exact c_J3_checkIndexN h1 h2
  · exact c_J3_checkIndex h1 h2

set_option maxRecDepth 100000 in
theorem c_J0_checkIndex {l : Launch} {X : CX} {σ : ST} {i n : Int32} (h1 : 0 ≤ i.toInt) (h2 : i.toInt < n.toInt) : MJ l X 1 yJ0_checkIndex_df160 cJ0_checkIndex_df160 2 none [.int i, .int n] σ (eqV σ) := by
  refine MJ_ofF (own := RJ0) [some (.int i), some (.int n)] (by decide +kernel) rfl (Nat.le_of_ble_eq_true rfl) rfl ?_
  refine rj_ild0 dJ0_checkIndex_df160_0 rfl ?_
  refine rj_ild1 dJ0_checkIndex_df160_1 rfl ?_
  refine rj_getSI sJ0_1053 dJ0_checkIndex_df160_2 (fun v hv => ?_)
  refine rj_S3i cJ0_1059 dJ0_checkIndex_df160_5 (c_J3_checkIndexV hv h1 h2) (fitM (by decide) (by decide)) (Nat.le_of_ble_eq_true rfl) ?_
  refine rj_pop dJ0_checkIndex_df160_8 rfl ?_
  refine rj_vret dJ0_checkIndex_df160_9 ?_
  exact ⟨rfl, rfl⟩

set_option maxRecDepth 100000 in
theorem c_J1_charAt {l : Launch} {X : CX} {σ : ST} {i : Nat} {j : Int32} (hi : i < 8) (h1 : 0 ≤ j.toInt) (h2 : j.toInt < slen.getD i 0) : MJ l X 2 yJ1_charAt_3b067 cJ1_charAt_3b067 2 (some .char) [.ref (X.2.2.2 (20 + i)), .int j] σ (eqI ((sbyt.getD i []).getD j.toNatClampNeg 0) σ) := by
  refine MJ_ofF (own := RJ1) [some (.ref (X.2.2.2 (20 + i))), some (.int j)] (by decide +kernel) rfl (Nat.le_of_ble_eq_true rfl) rfl ?_
  have hq := sl_le i hi
  have hj : j.toNatClampNeg < 8 := by rw [cl_i]; omega
  refine rj_ild1 dJ1_charAt_3b067_0 rfl ?_
  refine rj_ald0 dJ1_charAt_3b067_1 rfl ?_
  refine rj_slen hi dJ1_charAt_3b067_2 ?_
  refine rj_S2v cJ1_9 dJ1_charAt_3b067_3 (c_J0_checkIndex h1 (by omega)) (fitM (by decide) (by decide)) (Nat.le_of_ble_eq_true rfl) ?_
  refine rj_ald0 dJ1_charAt_3b067_6 rfl ?_
  refine rj_ild1 dJ1_charAt_3b067_7 rfl ?_
  refine rj_sbyt hi (vpi h1 h2) dJ1_charAt_3b067_8 ?_
  refine rj_sipush (v := 255) dJ1_charAt_3b067_9 (by decide) ?_
  refine rj_iand dJ1_charAt_3b067_12 ?_
  refine rj_i2c dJ1_charAt_3b067_13 ?_
  rw [sb_c i hi _ hj]
  refine rj_zret dJ1_charAt_3b067_14 (congrArg Value.int (sb_n i hi _ hj)) ?_
  exact ⟨rfl, rfl⟩

set_option maxRecDepth 100000 in
theorem c_J0_charAt {l : Launch} {X : CX} {σ : ST} {i : Nat} {j : Int32} (hi : i < 8) (h1 : 0 ≤ j.toInt) (h2 : j.toInt < slen.getD i 0) : MJ l X 3 yJ0_charAt_5068e cJ0_charAt_5068e 2 (some .char) [.ref (X.2.2.2 (10 + i)), .int j] σ (eqI ((sbyt.getD i []).getD j.toNatClampNeg 0) σ) := by
  refine MJ_ofF (own := RJ0) [some (.ref (X.2.2.2 (10 + i))), some (.int j)] (by decide +kernel) rfl (Nat.le_of_ble_eq_true rfl) rfl ?_
  have hq := sl_le i hi
  have hj : j.toNatClampNeg < 8 := by rw [cl_i]; omega
  refine rj_ald0 dJ0_charAt_5068e_0 rfl ?_
  refine rj_T0i hi rfl cJ0_492 dJ0_charAt_5068e_1 (c_J0_isLatin1 hi) (fitM (by decide) (by decide)) (Nat.le_of_ble_eq_true rfl) ?_
  refine rj_if_eq (tgt := 16) dJ0_charAt_5068e_4 (by decide) (fun h_4 => ?_) (fun h_4 => ?_)
  · exact absurd h_4 (by decide)
  · refine rj_ald0 dJ0_charAt_5068e_7 rfl ?_
    refine rj_sval hi sJ0_9 dJ0_charAt_5068e_8 ?_
    refine rj_ild1 dJ0_charAt_5068e_11 rfl ?_
    refine rj_S2i cJ0_495 dJ0_charAt_5068e_12 (c_J1_charAt hi h1 h2) (fitM (by decide) (by decide)) (Nat.le_of_ble_eq_true rfl) ?_
    refine rj_zret dJ0_charAt_5068e_15 (congrArg Value.int (sb_n i hi _ hj)) ?_
    exact ⟨rfl, rfl⟩

