/-! the law's entry -/
theorem fitK_L {l : Launch} {X : CX} {b L k n a c : Nat} {xs : Nat → Int32} (h3 : a ≤ 600000) (h4 : c ≤ 7302250) : fitK (GL l X b L xs k n) a c 0 := ⟨by show 1 ≤ 2048; omega, Nat.zero_le _, h3, h4⟩
theorem fitI_L {l : Launch} {X : CX} {b L k n a c h' nL' : Nat} {xs : Nat → Int32} (h1 : h' ≤ 100) (h2 : nL' ≤ 45) (h3 : a ≤ 600000) (h4 : c ≤ 7302250) : fitI (GL l X b L xs k n) h' nL' a c := ⟨⟨by show h' + 1 ≤ 2048; omega, by show 8 + (nL' + 11) + 64 * h' ≤ 84000; omega⟩, h3, h4⟩
theorem kj_rj {l : Launch} {X : CX} {b L : Nat} {xs : Nat → Int32} {k n : Nat} {cc : ByteArray} {nL : Nat} {ret : Option FieldType} {own nm : String} {pc : Nat} {lv : List (Option Value)} {st : List Value} {σ : ST} (hk : k = 127) (kk : RJ (GL l X b L xs k n) X cc nL ret own pc lv st σ) : KJ (GL l X b L xs k n) X cc nL ret own nm 0 pc lv st k (fun i => lay X σ (xi i)) n := by
  subst hk
  intro p e s m args below meth c H locs ls C hm hz hao hP hS hl
  exact kk p e s m args below meth c H locs ls C hP hS hl
set_option maxRecDepth 100000 in
theorem law_kj {l : Launch} {X : CX} {b L : Nat} {xs : Nat → Int32} {wd : Nat → va_E} {nm : String} (hL : L ≤ 3072) : KJ (GL l X b L xs 127 1883) X cL_law 4 (some .boolean) RL nm 0 0 [some (.ref b), none, none, none] [] 0 wd 0 := by
  refine kj_new (fs := [.null, .null, .null, .null, .null, .null, .null, .null, .null, .null, .null, .null, .null, .int 0]) (⟨RX11, TX11, rfl, iw11, (tw_t (tm1 19 rfl) rfl), (tw_t (tm1 20 rfl) rfl), (tw_t (tm1 1 rfl) rfl)⟩ : nwA RL 7 11 14) ft11 df11 (fitK_L (by omega) (by omega)) dL_law_0 ?_
  refine kj_dup dL_law_3 rfl ?_
  refine kj_init (As := []) (k' := 0) niL_9 i_sys rfl (up_same _ _ _) rfl (fitI_L (by omega) (by omega) (by omega) (by omega)) (Nat.le_of_ble_eq_true rfl) dL_law_4 ?_
  refine kj_ast1 dL_law_7 (by decide) rfl ?_
  refine kj_new (fs := [.null, .null, .null, .null, .null, .int 0, .int 0, .int 0, .null, .null, .null, .null, .null, .int 0, .int 0, .int 0, .int 0, .long 0, .int 0, .int 0, .null, .null, .null, .null, .null, .null, .int 0]) (⟨RX12, TX12, rfl, iw12, (tw_t (tm4 193 rfl) rfl), (tw_t (tm4 194 rfl) rfl), (tw_t (tm1 12 rfl) rfl)⟩ : nwA RL 10 12 27) ft12 df12 (fitK_L (by omega) (by omega)) dL_law_8 ?_
  refine kj_dup dL_law_11 rfl ?_
  refine kj_init (As := []) (k' := 110) niL_12 i_mod rfl (up_same _ _ _) rfl (fitI_L (by omega) (by omega) (by omega) (by omega)) (Nat.le_of_ble_eq_true rfl) dL_law_12 ?_
  refine kj_ast2 dL_law_15 (by decide) rfl ?_
  refine kj_ic0 dL_law_16 ?_
  refine kj_ist3 dL_law_17 (by decide) rfl ?_
  refine kj_conv (wd' := lo X) (fun i hi => ?_) ?_
  · by_cases h : i < 110
    · rw [mx_lt h]
      refine (up_other _ _ (show i ≠ 110 by omega)).trans ?_
      exact mx_ge (Nat.zero_le i)
    · exact mx_ge (by omega)
  · exact kj_rj rfl (law_loop (by omega) (by omega) hL (L + 1) 0 sg0 (by omega) (by omega) li00)
theorem whole_start {p : Program} {e : Env} {s : State} {m : MethodId} {below : List Frame} {meth : Method} {c : Code} (l : Launch) {b L : Nat} {xs : Nat → Int32} (hL : L ≤ 3072) (C0 : lw_At p s m meth c b L xs) : W p l e room_1 s m #[Value.ref b] below meth c s.heap [] 0 0 (lw_Z below #[Value.ref b] s) (entryFrame m ([Value.ref b] : List Value).toArray 4) := by
  obtain ⟨q1, q2, q3, q4, q5, q6, q7, q8, q9, q10⟩ := C0
  obtain ⟨X, hX, hAm, hao⟩ := amb_start q6 (flat_of_before _ q10)
  have hl := lv_entry [Value.ref b] (n := 4) (Nat.le_of_ble_eq_true rfl)
  rw [lg_entry_eq]
  exact law_kj (l := l) (X := X) (b := b) (L := L) (xs := xs) (wd := fun _ => .inr (0, [])) (nm := meth.name) hL p e s m _ below meth c s.heap [] _ ⟨q1, q2, q3, q4, q5, fun w h => q6 w (List.mem_filter.mp h).1, q9, hAm, rfl, q7, q8, hX.symm⟩ rfl hX.symm hao (fun k q hk => by simp [wn] at hk) va_S.rf hl
