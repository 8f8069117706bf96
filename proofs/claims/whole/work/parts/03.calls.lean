/-! calls over the light judgement -/
theorem tw_t {w : Cond} (hm : w ∈ tables_1) (hg : goodWord w = true) : w ∈ TW := List.mem_filter.mpr ⟨List.mem_append_right _ hm, hg⟩
theorem nw_t {w : Cond} (hm : w ∈ tables_1) (hg : isNest w = true) : w ∈ NW := List.mem_filter.mpr ⟨List.mem_append_right _ hm, hg⟩
theorem tm1 {w : Cond} (i : Nat) (h : tables_1_1[i]? = some w) : w ∈ tables_1 := List.mem_append_left _ (List.mem_of_getElem? h)
theorem tm2 {w : Cond} (i : Nat) (h : tables_1_2[i]? = some w) : w ∈ tables_1 := List.mem_append_right _ (List.mem_append_left _ (List.mem_of_getElem? h))
theorem tm3 {w : Cond} (i : Nat) (h : tables_1_3[i]? = some w) : w ∈ tables_1 := List.mem_append_right _ (List.mem_append_right _ (List.mem_append_left _ (List.mem_of_getElem? h)))
theorem tm4 {w : Cond} (i : Nat) (h : tables_1_4[i]? = some w) : w ∈ tables_1 := List.mem_append_right _ (List.mem_append_right _ (List.mem_append_right _ (List.mem_append_left _ (List.mem_of_getElem? h))))
theorem tm5 {w : Cond} (i : Nat) (h : tables_1_5[i]? = some w) : w ∈ tables_1 := List.mem_append_right _ (List.mem_append_right _ (List.mem_append_right _ (List.mem_append_right _ (List.mem_append_left _ (List.mem_of_getElem? h)))))
theorem tm6 {w : Cond} (i : Nat) (h : tables_1_6[i]? = some w) : w ∈ tables_1 := List.mem_append_right _ (List.mem_append_right _ (List.mem_append_right _ (List.mem_append_right _ (List.mem_append_right _ (List.mem_append_left _ (List.mem_of_getElem? h))))))
theorem tm7 {w : Cond} (i : Nat) (h : tables_1_7[i]? = some w) : w ∈ tables_1 := List.mem_append_right _ (List.mem_append_right _ (List.mem_append_right _ (List.mem_append_right _ (List.mem_append_right _ (List.mem_append_right _ (List.mem_of_getElem? h))))))
theorem pv_t {q : MethodName × Nat} (h : q ∈ lw_privs) : Cond.selects q.1.cls q.1 q.1 ∈ TW := List.mem_filter.mpr ⟨List.mem_append_left _ (List.mem_map.mpr ⟨q, h, rfl⟩), rfl⟩
theorem pm1 {q : MethodName × Nat} (i : Nat) (h : lw_privs_1[i]? = some q) : q ∈ lw_privs := List.mem_append_left _ (List.mem_of_getElem? h)
theorem pm2 {q : MethodName × Nat} (i : Nat) (h : lw_privs_2[i]? = some q) : q ∈ lw_privs := List.mem_append_right _ (List.mem_append_left _ (List.mem_of_getElem? h))
theorem pm3 {q : MethodName × Nat} (i : Nat) (h : lw_privs_3[i]? = some q) : q ∈ lw_privs := List.mem_append_right _ (List.mem_append_right _ (List.mem_append_left _ (List.mem_of_getElem? h)))
theorem pm4 {q : MethodName × Nat} (i : Nat) (h : lw_privs_4[i]? = some q) : q ∈ lw_privs := List.mem_append_right _ (List.mem_append_right _ (List.mem_append_right _ (List.mem_append_left _ (List.mem_of_getElem? h))))
theorem pm5 {q : MethodName × Nat} (i : Nat) (h : lw_privs_5[i]? = some q) : q ∈ lw_privs := List.mem_append_right _ (List.mem_append_right _ (List.mem_append_right _ (List.mem_append_right _ (List.mem_of_getElem? h))))
theorem TW_good {w : Cond} (h : w ∈ TW) : (w.onTables && w.keeps) = true ∨ ∃ ty, w = .arrayClass ty := good_of_word (List.mem_filter.mp h).2
theorem TW_GI {l : List Cond} (h : ∀ w ∈ l, w ∈ TW) : GoodIn TW l := fun w hw => ⟨h w hw, TW_good (h w hw)⟩
abbrev okM (y : MethodName) : Prop := y.cls ≠ "java/lang/invoke/MethodHandle" ∧ y.cls ≠ "java/lang/invoke/VarHandle"
/-- a virtual call's words: its link, and the callee's -/
def mV (own : String) (idx : Nat) (y : MethodName) (cc : ByteArray) (nL : Nat) (ret : Option FieldType) (n : Nat) : Prop :=
  Cond.methodLink own idx y ∈ TW ∧ Cond.instanceMethod y ∈ TW ∧ Cond.selects y.cls y y ∈ TW ∧ Cond.initialized y.cls ∈ TW ∧ Cond.code y cc nL ret ∈ TW ∧ okM y ∧ (parseMethodDescriptor y.desc).map (fun d => d.parameters.length) = some n
def mS (own : String) (idx : Nat) (y : MethodName) (cc : ByteArray) (nL : Nat) (ret : Option FieldType) (n : Nat) : Prop :=
  Cond.methodLink own idx y ∈ TW ∧ Cond.static y ∈ TW ∧ Cond.initialized y.cls ∈ TW ∧ Cond.code y cc nL ret ∈ TW ∧ okM y ∧ (parseMethodDescriptor y.desc).map (fun d => d.parameters.length) = some n
def mN (own : String) (idx : Nat) (y : MethodName) (cc : ByteArray) (nL : Nat) (ret : Option FieldType) (n : Nat) : Prop :=
  (∃ host, Cond.methodLinkNest own idx y host ∈ NW) ∧ Cond.static y ∈ TW ∧ Cond.initialized y.cls ∈ TW ∧ Cond.code y cc nL ret ∈ TW ∧ okM y ∧ (parseMethodDescriptor y.desc).map (fun d => d.parameters.length) = some n
theorem IV_blind {X : CX} {σ : ST} {av : List Value} : FrameBlind (va_Pc av (IV X σ)) := fun a U g mk q => ⟨q.1, Amb.same (u := U) (U := U.calling g mk a) rfl rfl q.2.1, q.2.2⟩
section CALLS
variable {G : GT} {X : CX} {cc : ByteArray} {nL : Nat} {ret : Option FieldType} {own : String} {pc : Nat} {lv : List (Option Value)} {st : List Value} {σ : ST}
variable {y : MethodName} {cc' : ByteArray} {nL' : Nat} {ret' : Option FieldType} {n h' idx : Nat} {Q' : Option Value → ST → Prop} {As : List Value}
/-- what a room must have for a callee -/
def fitR (G : GT) (h' nL' : Nat) : Prop := (h' + 1 ≤ G.2.1.frames ∧ 8 + (nL' + 11) + 64 * h' ≤ G.2.1.locals) ∧ G.2.2.1.1 ≤ G.2.1.cells ∧ G.2.2.1.2 ≤ G.2.1.slots
theorem fitM {l : Launch} {h h' nL' : Nat} {Q : Option Value → ST → Prop} (hh : h' + 1 ≤ h) (hn : nL' ≤ 45) : fitR (GM l X h Q) h' nL' := ⟨⟨hh, by show 8 + (nL' + 11) + 64 * h' ≤ 64 * h; omega⟩, Nat.le_refl _, Nat.le_refl _⟩
theorem rj_run {p : Program} {e : Env} {s : State} {m : MethodId} {args : Array Value} {below : List Frame} {meth : Method} {c : Code} {H : Heap} {locs : List Loc} {ls : Array Slot} {a : Array Value} {st0 : List Value} (C : SC G X cc nL ret own p s m args meth c) (hS : va_S (AA X) s.heap H locs) (hl : lv_has ls nL (prs 0 lv))
    (hr : va_Run p G.1 e G.2.1 s m args below meth c H locs G.2.2.1.1 G.2.2.1.2 0 0 (F0 m pc ls st0) st (QC X Q' a) (AA X))
    (kk : ∀ (v : Option Value) (τ : ST), Q' v τ → RJ G X cc nL ret own (pc + 3) lv (v.toList ++ st) τ) :
    W p G.1 e G.2.1 s m args below meth c H locs G.2.2.1.1 G.2.2.1.2 (G.2.2.2.2 below args s) (F0 m pc ls st0) := by
  intro T hT X0
  obtain ⟨v, st₀, t, T', L, h0, X', hL, e1, e2, ⟨⟨v', τ, hv, hq, hP1⟩, hF⟩, stp⟩ := hr T hT X0
  cases hv
  have hS1 : va_S (AA X) s.heap T'.heap (locs ++ L) := by
    rw [va_F, h0] at hF
    refine ⟨Nat.le_trans hS.1 (by rw [e1]; exact hF.1), fun q h1 h2 => ?_, fun q hq2 => ?_⟩
    · rw [e1, hF.2 q (Nat.lt_of_lt_of_le h1 hS.1) h2]
      exact hS.2.1 q h1 h2
    · rcases List.mem_append.mp hq2 with h | h
      · exact hS.2.2 q h
      · exact hL q h
  obtain ⟨t2, a1, b1⟩ := kk v τ hq p e s m args below meth c T'.heap (locs ++ L) ls C (by rw [e1]; exact hP1) hS1 hl T' rfl X'
  exact ⟨t2, stp t2 a1, b1⟩
theorem rj_callV {k ci : Nat} (hb : mV own idx y cc' nL' ret' n) (hcl : (vwCl[ci]?).map (fun q => q.1) = some y.cls) (hc : ci < 13) (hk : kd k = ci) (hd : decode cc pc = .ok (.invokevirtual idx, 3)) (hM : MJ G.1 X h' y cc' nL' ret' (.ref (ad X k) :: As) σ Q') (hn : As.length = n) (hR : fitR G h' nL') (hst : (st.map fun v => v.category).sum ≤ 8)
    (kk : ∀ (v : Option Value) (τ : ST), Q' v τ → RJ G X cc nL ret own (pc + 3) lv (v.toList ++ st) τ) : RJ G X cc nL ret own pc lv (As.reverse ++ .ref (ad X k) :: st) σ := by
  intro p e s m args below meth c H locs ls C hP hS hl
  obtain ⟨b1, b2, b3, b4, b5, b6, b7⟩ := hb
  have hk2 : kd k < 99 := by omega
  have hG : GoodIn TW (wsV own idx y.cls y (Cond.code y cc' nL' ret' :: TW)) := TW_GI (fun w hw => by
    rcases List.mem_append.mp hw with h | h
    · simp only [List.mem_cons, List.not_mem_nil, or_false] at h
      rcases h with rfl | rfl | rfl | rfl <;> assumption
    · rcases List.mem_cons.mp h with rfl | h <;> assumption)
  obtain ⟨q, hq, hq1⟩ : ∃ q : vw_C, vwCl[ci]? = some q ∧ q.1 = y.cls := by
    cases hv : vwCl[ci]? with
    | none => rw [hv] at hcl; cases hcl
    | some q => rw [hv] at hcl; exact ⟨q, rfl, Option.some.inj hcl⟩
  have hrec := va_recv C.2.2.2.2.2.2.2.1.1 hP hq (q0 := ix k) (a := ad X k) (by rw [wl_get hk2, lay_obj hk hc])
  rw [hq1] at hrec
  exact rj_run C hS hl (va_runV (As := As) (rest := st) ⟨C.1, C.2.1, C.2.2.2.1, C.2.2.2.2.1, C.2.2.2.2.2.1⟩ hM (cwV n C.2.2.2.2.2.1 hG rfl rfl rfl ⟨rfl, b6.1, b6.2, b7⟩ hR.1) ⟨IV_blind, hrec, fun U hU hW => ⟨rfl, C.2.2.2.2.2.2.2.1.warm hW hU hS, by rw [hU]; exact hP⟩⟩ rfl hn hl.1 rfl (lv_room hst) hd ⟨hR.2.1, hR.2.2⟩) kk
theorem rj_callS (hb : mS own idx y cc' nL' ret' n) (hd : decode cc pc = .ok (.invokestatic idx, 3)) (hM : MJ G.1 X h' y cc' nL' ret' As σ Q') (hn : As.length = n) (hR : fitR G h' nL') (hst : (st.map fun v => v.category).sum ≤ 8)
    (kk : ∀ (v : Option Value) (τ : ST), Q' v τ → RJ G X cc nL ret own (pc + 3) lv (v.toList ++ st) τ) : RJ G X cc nL ret own pc lv (As.reverse ++ st) σ := by
  intro p e s m args below meth c H locs ls C hP hS hl
  obtain ⟨b1, b2, b4, b5, b6, b7⟩ := hb
  have hG : GoodIn TW (va_wsS own idx y (Cond.code y cc' nL' ret' :: TW)) := TW_GI (fun w hw => by
    rcases List.mem_append.mp hw with h | h
    · simp only [List.mem_cons, List.not_mem_nil, or_false] at h
      rcases h with rfl | rfl | rfl <;> assumption
    · rcases List.mem_cons.mp h with rfl | h <;> assumption)
  exact rj_run C hS hl (va_runS (As := As) (rest := st) ⟨C.1, C.2.1, C.2.2.2.1, C.2.2.2.2.1, C.2.2.2.2.2.1⟩ hM (va_cwS n C.2.2.2.2.2.1 hG rfl rfl rfl ⟨b6.1, b6.2, b7⟩ hR.1) ⟨IV_blind, fun U hU hW => ⟨rfl, C.2.2.2.2.2.2.2.1.warm hW hU hS, by rw [hU]; exact hP⟩⟩ rfl hn hl.1 rfl (lv_room hst) hd ⟨hR.2.1, hR.2.2⟩) kk
theorem rj_callN (hb : mN own idx y cc' nL' ret' n) (hd : decode cc pc = .ok (.invokestatic idx, 3)) (hM : MJ G.1 X h' y cc' nL' ret' As σ Q') (hn : As.length = n) (hR : fitR G h' nL') (hst : (st.map fun v => v.category).sum ≤ 8)
    (kk : ∀ (v : Option Value) (τ : ST), Q' v τ → RJ G X cc nL ret own (pc + 3) lv (v.toList ++ st) τ) : RJ G X cc nL ret own pc lv (As.reverse ++ st) σ := by
  intro p e s m args below meth c H locs ls C hP hS hl
  obtain ⟨⟨host, b1⟩, b2, b4, b5, b6, b7⟩ := hb
  have hG : GoodIn TW (Cond.code y cc' nL' ret' :: TW) := TW_GI (fun w hw => by rcases List.mem_cons.mp hw with rfl | h <;> assumption)
  have hts := C.2.2.2.2.2.1
  exact rj_run C hS hl (va_runSN (As := As) (rest := st) ⟨C.1, C.2.1, C.2.2.2.1, C.2.2.2.2.1, hts⟩ hM ⟨va_cnB n hts hG rfl rfl rfl (C.2.2.2.2.2.2.2.1.2.1 _ b1) (hts _ b4) ⟨b6.1, b6.2, b7⟩ hR.1, hts _ b2, trivial⟩ ⟨IV_blind, fun U hU hW => ⟨rfl, C.2.2.2.2.2.2.2.1.warm hW hU hS, by rw [hU]; exact hP⟩⟩ rfl hn hl.1 rfl (lv_room hst) hd ⟨hR.2.1, hR.2.2⟩) kk
/-! contracts whose end is one value and one state -/
abbrev eqI (r : Int32) (τ : ST) : Option Value → ST → Prop := fun v t => v = some (.int r) ∧ t = τ
abbrev eqL (r : Int64) (τ : ST) : Option Value → ST → Prop := fun v t => v = some (.long r) ∧ t = τ
abbrev eqR (r : Value) (τ : ST) : Option Value → ST → Prop := fun v t => v = some r ∧ t = τ
abbrev eqV (τ : ST) : Option Value → ST → Prop := fun v t => v = none ∧ t = τ
abbrev PI (Q : Int32 → ST → Prop) : Option Value → ST → Prop := fun v t => ∃ r, v = some (.int r) ∧ Q r t
abbrev PV (Q : ST → Prop) : Option Value → ST → Prop := fun v t => v = none ∧ Q t
/-! Math -/
def mM (own : String) (idx : Nat) (y : MethodName) (cc : ByteArray) (n : Nat) : Prop := Cond.methodLink own idx y ∈ TW ∧ Cond.static y ∈ TW ∧ Cond.initialized "java/lang/Math" ∈ TW ∧ Cond.code y cc n (some .int) ∈ TW
def fitN (G : GT) (w : Nat) : Prop := 1 ≤ G.2.1.frames ∧ w ≤ G.2.1.locals ∧ G.2.2.1.1 ≤ G.2.1.cells ∧ G.2.2.1.2 ≤ G.2.1.slots
theorem fitNM {l : Launch} {h w : Nat} {Q : Option Value → ST → Prop} (hh : 1 ≤ h) (hn : w ≤ 64) : fitN (GM l X h Q) w := ⟨hh, by show w ≤ 64 * h; omega, Nat.le_refl _, Nat.le_refl _⟩
theorem rj_max {x z : Int32} (hb : mM own idx Lib.Math.max.name Lib.Math.max.code 2) (hR : fitN G ((st.map fun v => v.category).sum + 13)) (hd : decode cc pc = .ok (.invokestatic idx, 3)) (k : RJ G X cc nL ret own (pc + 3) lv (.int (if x < z then z else x) :: st) σ) : RJ G X cc nL ret own pc lv (.int z :: .int x :: st) σ := by
  intro p e s m args below meth c H locs ls C hP hS hl
  have hts := C.2.2.2.2.2.1
  exact va_mmax C.1 C.2.1 (by rw [hl.1]; exact C.2.2.2.1) C.2.2.2.2.1 (hts _ hb.1) (hts _ hb.2.1) (hts _ hb.2.2.1) (hts _ hb.2.2.2) hR.1 hR.2.1 hR.2.2.1 hR.2.2.2 hd (k p e s m args below meth c H locs ls C hP hS hl)
theorem rj_min {x z : Int32} (hb : mM own idx Lib.Math.min.name Lib.Math.min.code 2) (hR : fitN G ((st.map fun v => v.category).sum + 13)) (hd : decode cc pc = .ok (.invokestatic idx, 3)) (k : RJ G X cc nL ret own (pc + 3) lv (.int (if z < x then z else x) :: st) σ) : RJ G X cc nL ret own pc lv (.int z :: .int x :: st) σ := by
  intro p e s m args below meth c H locs ls C hP hS hl
  have hts := C.2.2.2.2.2.1
  exact va_mmin C.1 C.2.1 (by rw [hl.1]; exact C.2.2.2.1) C.2.2.2.2.1 (hts _ hb.1) (hts _ hb.2.1) (hts _ hb.2.2.1) (hts _ hb.2.2.2) hR.1 hR.2.1 hR.2.2.1 hR.2.2.2 hd (k p e s m args below meth c H locs ls C hP hS hl)
theorem rj_abs {x : Int32} (hb : mM own idx Lib.Math.abs.name Lib.Math.abs.code 1) (hR : fitN G ((st.map fun v => v.category).sum + 13)) (hd : decode cc pc = .ok (.invokestatic idx, 3)) (k : RJ G X cc nL ret own (pc + 3) lv (.int (if 0 ≤ x then x else 0 - x) :: st) σ) : RJ G X cc nL ret own pc lv (.int x :: st) σ := by
  intro p e s m args below meth c H locs ls C hP hS hl
  have hts := C.2.2.2.2.2.1
  exact va_mabs C.1 C.2.1 (by rw [hl.1]; exact C.2.2.2.1) C.2.2.2.2.1 (hts _ hb.1) (hts _ hb.2.1) (hts _ hb.2.2.1) (hts _ hb.2.2.2) hR.1 hR.2.1 hR.2.2.1 hR.2.2.2 hd (k p e s m args below meth c H locs ls C hP hS hl)
/-! System.arraycopy -/
def mC (own : String) (idx : Nat) : Prop := Cond.methodLink own idx arraycopyName ∈ TW ∧ Cond.native arraycopyName ∈ TW ∧ Cond.static arraycopyName ∈ TW ∧ Cond.initialized "java/lang/System" ∈ TW
theorem rj_copyi {k0 k1 : Nat} {sp dp m0 : Int32} (hb : mC own idx) (hk0 : kd k0 = 13) (hk1 : kd k1 = 13) (h1 : ¬ sp < 0) (h2 : ¬ dp < 0) (h3 : ¬ m0 < 0) (h4 : sp.toNatClampNeg + m0.toNatClampNeg ≤ ln k0) (h5 : dp.toNatClampNeg + m0.toNatClampNeg ≤ ln k1) (hR : fitN G ((st.map fun v => v.category).sum + (nativeFrameWords "java/lang/System" "arraycopy" 5 + 11))) (hd : decode cc pc = .ok (.invokestatic idx, 3))
    (k : RJ G X cc nL ret own (pc + 3) lv st (ua σ k1 (va_cpy (σ.1 k0) (σ.1 k1) sp.toNatClampNeg dp.toNatClampNeg m0.toNatClampNeg))) : RJ G X cc nL ret own pc lv (.int m0 :: .int dp :: .ref (ad X k1) :: .int sp :: .ref (ad X k0) :: st) σ := by
  intro p e s m args below meth c H locs ls C hP hS hl
  have hts := C.2.2.2.2.2.1
  have g0 : kd k0 < 99 := by omega
  have g1 : kd k1 < 99 := by omega
  refine va_copyi C.1 C.2.1 (by rw [hl.1]; exact C.2.2.2.1) C.2.2.2.2.1 (hts _ hb.1) (hts _ hb.2.1) (hts _ hb.2.2.1) (hts _ hb.2.2.2) C.2.2.2.2.2.2.2.1.1 hP (wl_D X σ) hS (ix k0) (ix k1) 0 0 (by rw [wl_get g0, lay_int hk0]) (by rw [wl_get g1, lay_int hk1]) rfl rfl rfl h1 h2 h3 h4 h5 (fun i _ => rfl) hR.1 hR.2.1 hd (fun H1 locs1 hP1 _ hS1 => ?_)
  rw [wl_set g1 (lay_ua _ hk1)] at hP1
  exact k p e s m args below meth c H1 locs1 ls C hP1 hS1 hl
theorem rj_copyl {k0 k1 : Nat} {sp dp m0 : Int32} (hb : mC own idx) (hk0 : kd k0 = 14) (hk1 : kd k1 = 14) (h1 : ¬ sp < 0) (h2 : ¬ dp < 0) (h3 : ¬ m0 < 0) (h4 : sp.toNatClampNeg + m0.toNatClampNeg ≤ ln k0) (h5 : dp.toNatClampNeg + m0.toNatClampNeg ≤ ln k1) (hR : fitN G ((st.map fun v => v.category).sum + (nativeFrameWords "java/lang/System" "arraycopy" 5 + 11))) (hd : decode cc pc = .ok (.invokestatic idx, 3))
    (k : RJ G X cc nL ret own (pc + 3) lv st (uaL σ k1 (va_cpy (σ.2 k0) (σ.2 k1) sp.toNatClampNeg dp.toNatClampNeg m0.toNatClampNeg))) : RJ G X cc nL ret own pc lv (.int m0 :: .int dp :: .ref (ad X k1) :: .int sp :: .ref (ad X k0) :: st) σ := by
  intro p e s m args below meth c H locs ls C hP hS hl
  have hts := C.2.2.2.2.2.1
  have g0 : kd k0 < 99 := by omega
  have g1 : kd k1 < 99 := by omega
  refine va_copyl C.1 C.2.1 (by rw [hl.1]; exact C.2.2.2.1) C.2.2.2.2.1 (hts _ hb.1) (hts _ hb.2.1) (hts _ hb.2.2.1) (hts _ hb.2.2.2) C.2.2.2.2.2.2.2.1.1 hP (wl_D X σ) hS (ix k0) (ix k1) 1 1 (by rw [wl_get g0, lay_long hk0]) (by rw [wl_get g1, lay_long hk1]) rfl rfl rfl h1 h2 h3 h4 h5 (fun i _ => rfl) hR.1 hR.2.1 hd (fun H1 locs1 hP1 _ hS1 => ?_)
  rw [wl_set g1 (lay_uaL _ hk1)] at hP1
  exact k p e s m args below meth c H1 locs1 ls C hP1 hS1 hl
/-! statics that hold the two tables -/
theorem rj_getKA (hw : Cond.fieldLink own idx "KnotFair" "KIND_ABOVE" "[I" ∈ TW) (hd : decode cc pc = .ok (.getstatic idx, 3)) (k : RJ G X cc nL ret own (pc + 3) lv (.ref (X.2.2.2 0) :: st) σ) : RJ G X cc nL ret own pc lv st σ := by
  intro p e s m args below meth c H locs ls C hP hS hl
  exact va_gets C.1 C.2.1 C.2.2.2.2.2.2.2.1.2.2.1 hS C.2.2.2.2.1 (C.2.2.2.2.2.1 _ hw) (fun _ h => h) hd (k p e s m args below meth c H locs ls C hP hS hl)
theorem rj_getCN (hw : Cond.fieldLink own idx "KnotFair" "COLOUR_NUMBERS" "[I" ∈ TW) (hd : decode cc pc = .ok (.getstatic idx, 3)) (k : RJ G X cc nL ret own (pc + 3) lv (.ref (X.2.2.2 1) :: st) σ) : RJ G X cc nL ret own pc lv st σ := by
  intro p e s m args below meth c H locs ls C hP hS hl
  exact va_gets C.1 C.2.1 C.2.2.2.2.2.2.2.1.2.2.2.2.1 hS C.2.2.2.2.1 (C.2.2.2.2.2.1 _ hw) (fun _ h => h) hd (k p e s m args below meth c H locs ls C hP hS hl)
theorem rj_ldKA {i : Int32} (hin : vp_in i 6) (hd : decode cc pc = .ok (.iaload, 1)) (k : RJ G X cc nL ret own (pc + 1) lv (.int (kaL.getD i.toNatClampNeg 0) :: st) σ) : RJ G X cc nL ret own pc lv (.int i :: .ref (X.2.2.2 0) :: st) σ := by
  intro p e s m args below meth c H locs ls C hP hS hl
  exact va_ti C.1 C.2.1 C.2.2.2.2.2.2.2.1.2.2.2.1 hS hin rfl hd (k p e s m args below meth c H locs ls C hP hS hl)
theorem rj_ldCN {i : Int32} (hin : vp_in i 3) (hd : decode cc pc = .ok (.iaload, 1)) (k : RJ G X cc nL ret own (pc + 1) lv (.int (cnL.getD i.toNatClampNeg 0) :: st) σ) : RJ G X cc nL ret own pc lv (.int i :: .ref (X.2.2.2 1) :: st) σ := by
  intro p e s m args below meth c H locs ls C hP hS hl
  exact va_ti C.1 C.2.1 C.2.2.2.2.2.2.2.1.2.2.2.2.2.1 hS hin rfl hd (k p e s m args below meth c H locs ls C hP hS hl)
theorem rj_lenCN (hd : decode cc pc = .ok (.arraylength, 1)) (k : RJ G X cc nL ret own (pc + 1) lv (.int 3 :: st) σ) : RJ G X cc nL ret own pc lv (.ref (X.2.2.2 1) :: st) σ := by
  intro p e s m args below meth c H locs ls C hP hS hl
  obtain ⟨cell, h1, h2, h3, h4, h5, h6, h7⟩ := C.2.2.2.2.2.2.2.1.2.2.2.2.2.1
  exact W.alen (n := 3) C.1 C.2.1 (by rw [hS.2.1 _ (Array.getElem?_eq_some_iff.mp h1).1 h7]; exact h1) h2 (by rw [h5]; rfl) rfl rfl hd (k p e s m args below meth c H locs ls C hP hS hl)
end CALLS
