/-! constructors: what they leave -/
def zr (k : Nat) : Bool := !(k == 0 || k == 2 || k == 43 || k == 45 || k == 52 || k == 78 || k == 113)
def sp0 (k j : Nat) : Int32 := if k = 0 then (if j = 11 then 52 else if j = 12 then 78 else 0) else if k = 43 then (if j = 2 then 3 else 0) else if k = 45 then (if j = 1 then 16777216 else 0) else if k = 113 then (if j = 0 then 4 else if j = 2 then 1 else 0) else (if j = 2 then 4 else if j = 3 then 1 else 0)
def sg0 : ST := (fun k j => if zr k = true then 0 else sp0 k j, fun _ _ => 0)
/-- what they leave, by the order in which it is made -/
def lo (X : CX) : Nat → va_E := fun i => lay X sg0 (xi i)
theorem ad_xi {X : CX} {i : Nat} : ad X (xi i) = X.2.2.1 + i := by unfold ad; rw [ix_xi]
theorem ad_s {X : CX} {k d : Nat} (e : xi (k + d) = xi k + d) : ad X (xi k + d) = X.2.2.1 + (k + d) := by rw [← e, ad_xi]
theorem sg0_z {k : Nat} (h : zr k = true) : sg0.1 k = fun _ => 0 := funext fun j => if_pos h
def mx (w S : Nat → va_E) (k : Nat) : Nat → va_E := fun i => if i < k then w i else S i
theorem mx_lt {w S : Nat → va_E} {k i : Nat} (h : i < k) : mx w S k i = w i := if_pos h
theorem mx_ge {w S : Nat → va_E} {k i : Nat} (h : k ≤ i) : mx w S k i = S i := if_neg (Nat.not_lt.mpr h)
theorem mx_at {w S : Nat → va_E} {k : Nat} {e : va_E} : mx w (va_up S k e) k k = e := (mx_ge (Nat.le_refl k)).trans (up_same _ _ _)
theorem mx_oth {w S : Nat → va_E} {k q : Nat} {e : va_E} (h : k < q) : mx w (va_up S k e) k q = S q := (mx_ge (Nat.le_of_lt h)).trans (up_other _ _ (by omega))
theorem mx_put {w S : Nat → va_E} {k i : Nat} {e e' : va_E} : va_up (mx w (va_up S k e) k) k e' i = mx w (va_up S k e') k i := by
  by_cases h : i = k
  · subst h
    rw [up_same, mx_at]
  · rw [up_other _ _ h]
    by_cases h2 : i < k
    · rw [mx_lt h2, mx_lt h2]
    · rw [mx_ge (by omega), mx_ge (by omega), up_other _ _ h, up_other _ _ h]
theorem mx_new {w S : Nat → va_E} {k q i : Nat} {e e' : va_E} (hk : k < q) (h : S q = e') : va_up (mx w (va_up S k e) k) q e' i = mx w (va_up S k e) k i := by
  by_cases hi : i = q
  · subst hi
    rw [up_same, mx_oth hk, h]
  · rw [up_other _ _ hi]
theorem mx_arr {w S : Nat → va_E} {k q i : Nat} {e e' e2 : va_E} (hk : k < q) : va_up (mx w (va_up (va_up S q e') k e) k) q e2 i = mx w (va_up (va_up S q e2) k e) k i := by
  by_cases hi : i = q
  · subst hi
    rw [up_same, mx_oth hk, up_same]
  · rw [up_other _ _ hi]
    by_cases h2 : i < k
    · rw [mx_lt h2, mx_lt h2]
    · rw [mx_ge (by omega), mx_ge (by omega)]
      by_cases h3 : i = k
      · subst h3
        rw [up_same, up_same]
      · rw [up_other _ _ h3, up_other _ _ h3, up_other _ _ hi, up_other _ _ hi]
theorem mx_ini {w S S2 : Nat → va_E} {k q n i : Nat} {e e' : va_E} (hk : k < q) (hi : i < n) (hS : ∀ j, q ≤ j → j < n → S j = S2 j) : mx (va_up (mx w (va_up S k e) k) q e') S2 q i = mx w (va_up S k e) k i := by
  by_cases h : i < q
  · rw [mx_lt h, up_other _ _ (by omega)]
  · rw [mx_ge (by omega), mx_oth (by omega), hS i (by omega) hi]
theorem mx_end {w S : Nat → va_E} {k i : Nat} {e : va_E} (h : S k = e) : mx w (va_up S k e) k i = mx w S k i := by
  by_cases h2 : i = k
  · subst h2
    rw [mx_at, mx_ge (Nat.le_refl _), h]
  · by_cases h3 : i < k
    · rw [mx_lt h3, mx_lt h3]
    · rw [mx_ge (by omega), mx_ge (by omega), up_other _ _ h2]
theorem wn_congr {X : CX} {n : Nat} {w w' : Nat → va_E} (h : ∀ i, i < n → w i = w' i) : wn X n w = wn X n w' := List.map_congr_left (fun i hi => by rw [h i (List.mem_range.mp hi)])
def rmK (h mc ms : Nat) : Room := { frames := h, cells := mc, slots := ms, locals := 64 * h }
def IVn (X : CX) (n : Nat) (w : Nat → va_E) (U : State) : Prop := Amb X U ∧ AO U ∧ U.heap.size = X.2.2.1 + n ∧ va_P X.1 vwCl (wn X n w) U.heap
def QN (X : CX) (n : Nat) (w : Nat → va_E) : Array Value → State → Outcome → State → Prop := fun _ st oc t => (oc = .returned none ∧ va_P X.1 vwCl (wn X n w) t.heap) ∧ va_F (AA X) st t
def GK (l : Launch) (X : CX) (h mc ms n : Nat) (w : Nat → va_E) : GT := (l, rmK h mc ms, (0, 0), fun _ _ => True, fun below args s => MQ below (QN X n w) args s mc ms (AA X))
def MK (l : Launch) (X : CX) (h : Nat) (y : MethodName) (cc : ByteArray) (nL : Nat) (av : List Value) (k mc ms ci : Nat) (fs : List Value) : Prop := ∀ w : Nat → va_E, w k = .inr (ci, fs) → Met l y (Cond.code y cc nL none :: TW) (rmK h mc ms) (va_Pc av (IVn X (k + 1) w)) (QN X (k + 1 + mc) (mx w (lo X) k)) mc ms (AA X)
theorem AO.same {u U : State} (hv : u.vm = U.vm) (h : AO u) : AO U := by
  have hal : u.vm.Alike U.vm := by rw [hv]; exact Vm.Alike.refl _
  exact ⟨va_AO.moved hal h.1, va_AO.moved hal h.2⟩
theorem IVn_blind {X : CX} {n : Nat} {w : Nat → va_E} {av : List Value} : FrameBlind (va_Pc av (IVn X n w)) := fun a U g mk q => ⟨q.1, Amb.same (u := U) (U := U.calling g mk a) rfl rfl q.2.1, AO.same (u := U) (U := U.calling g mk a) rfl q.2.2.1, q.2.2.2.1, q.2.2.2.2⟩
theorem MK_of {l : Launch} {X : CX} {h : Nat} {y : MethodName} {cc : ByteArray} {nL : Nat} {av : List Value} {k mc ms ci : Nat} {fs : List Value} {own : String} (S : Nat → va_E) (lv : List (Option Value)) (hy : plainName y.cls = true) (hyn : y.name = "<init>") (ho : y.cls = own) (hlen : (lg_sl av).length ≤ nL) (hlv : prs 0 lv = lv_args 0 av)
    (kk : ∀ w, KJ (GK l X h mc ms (k + 1 + mc) (mx w (lo X) k)) X cc nL none own "<init>" (k + 1) 0 lv [] 0 (mx w (va_up S k (.inr (ci, fs))) k) 0) : MK l X h y cc nL av k mc ms ci fs := by
  intro w hw
  refine Met.ofW (cc := cc) (maxL := nL) (ret := none) hy rfl ?_
  intro p e s m args below meth c s₁ B hml hv
  obtain ⟨rfl, hA, hao, hz, hP⟩ := hv
  have hts := atoms_spec (ws := Cond.code y cc nL none :: TW) B.pre
  have hl := lv_entry av (n := nL) hlen
  rw [lg_entry_eq]
  subst ho
  rw [wn_congr (w' := mx w (va_up S k (.inr (ci, fs))) k) (fun i hi => by
    by_cases h2 : i < k
    · rw [mx_lt h2]
    · have : i = k := by omega
      subst this
      rw [mx_at, hw])] at hP
  exact kk w p e s m _ below meth c s.heap [] _ ⟨B.exec, B.bytes, B.returns, hml, findClass_of_methodNamed B.named, fun w hw => hts w (List.mem_cons_of_mem _ hw), B.notSynchronized, hA, trivial⟩ ((name_of_methodNamed B.named B.method).1.trans hyn) hz hao hP va_S.rf (by rw [hlv]; exact hl)
def mI (own : String) (idx : Nat) (y : MethodName) (cc : ByteArray) (nL n : Nat) : Prop :=
  (Cond.methodLink own idx y ∈ TW ∨ ∃ host, Cond.methodLinkNest own idx y host ∈ NW) ∧ Cond.instanceMethod y ∈ TW ∧ Cond.initialized y.cls ∈ TW ∧ Cond.code y cc nL none ∈ TW ∧ okM y ∧ y.name = "<init>" ∧ (parseMethodDescriptor y.desc).map (fun d => d.parameters.length) = some n
def fitI (G : GT) (h' nL' a b : Nat) : Prop := (h' + 1 ≤ G.2.1.frames ∧ 8 + (nL' + 11) + 64 * h' ≤ G.2.1.locals) ∧ a ≤ G.2.1.cells ∧ b ≤ G.2.1.slots
theorem fitI_K {l : Launch} {X : CX} {h mc ms n h' nL' a b : Nat} {w : Nat → va_E} (h1 : h' + 1 ≤ h) (h2 : nL' ≤ 45) (h3 : a ≤ mc) (h4 : b ≤ ms) : fitI (GK l X h mc ms n w) h' nL' a b := ⟨⟨h1, by show 8 + (nL' + 11) + 64 * h' ≤ 64 * h; omega⟩, h3, h4⟩
theorem fitK_K {l : Launch} {X : CX} {h mc ms n a b q : Nat} {w : Nat → va_E} (h1 : 1 ≤ h) (h2 : q ≤ 64) (h3 : a ≤ mc) (h4 : b ≤ ms) : fitK (GK l X h mc ms n w) a b q := ⟨h1, by show q ≤ 64 * h; omega, h3, h4⟩
section KB
variable {G : GT} {X : CX} {cc : ByteArray} {nL : Nat} {ret : Option FieldType} {own nm : String} {pc : Nat} {lv : List (Option Value)} {st : List Value} {n0 nk ks : Nat} {wd wd' w S : Nat → va_E} {l : Launch} {e0 : va_E}
theorem kj_conv (h : ∀ i, i < n0 + nk → wd i = wd' i) (kk : KJ G X cc nL ret own nm n0 pc lv st nk wd' ks) : KJ G X cc nL ret own nm n0 pc lv st nk wd ks := by
  intro p e s m args below meth c H locs ls C hm hz hao hP hS hl
  rw [wn_congr h] at hP
  exact kk p e s m args below meth c H locs ls C hm hz hao hP hS hl
theorem kj_ext {a N : Nat} {cA : ClassId} {f g : Nat → Option Nat} (he : wd a = .inl (cA, N, .inr (.inr (.inr (.inr f))))) (h : ∀ j, j < N → f j = g j) (kk : KJ G X cc nL ret own nm n0 pc lv st nk (va_up wd a (.inl (cA, N, .inr (.inr (.inr (.inr g)))))) ks) : KJ G X cc nL ret own nm n0 pc lv st nk wd ks := by
  intro p e s m args below meth c H locs ls C hm hz hao hP hS hl
  refine kk p e s m args below meth c H locs ls C hm hz hao (fun k q hk => ?_) hS hl
  obtain ⟨hk2, rfl⟩ := wn_in hk
  have h0 := hP _ _ (wn_get (X := X) (w := wd) hk2)
  by_cases hka : k = a
  · subst hka
    rw [he] at h0
    rw [up_same]
    show H[_]? = some (vp_cell _ _)
    have h1 : (fun j : Fin N => va_rf (f j.val)) = fun j => va_rf (g j.val) := funext fun j => by rw [h j.val j.isLt]
    have h2 : vp_cell cA (N, .inr (.inr (.inr (.inr g)))) = vp_cell cA (N, .inr (.inr (.inr (.inr f)))) := by
      rw [vp_cell_q, vp_cell_q]
      unfold arrV
      rw [h1]
    rw [h2]
    exact h0
  · rw [up_other _ _ hka]
    exact h0
theorem kj_ret {h mc ms n : Nat} (hd : decode cc pc = .ok (.return_, 1)) (hn : n0 + mc = n) (hw : ∀ i, i < n → wd i = w i) : KJ (GK l X h mc ms n w) X cc nL none own nm n0 pc lv [] mc wd ms := by
  intro p e s m args below meth c H locs ls C hm hz hao hP hS hl
  have hlk : meth.locks = false := C.2.2.2.2.2.2.1
  subst hn
  rw [wn_congr hw] at hP
  exact W.vret C.1 C.2.1 C.2.2.1 (fun t ht _ => ⟨⟨rfl, by rw [ht]; exact hP⟩, hS.F ht⟩) hS.2.2 hd
theorem kj_alen {t k N : Nat} {ty : FieldType} {f : Nat → Option Nat} (hk : k < n0 + nk) (he : wd k = .inl (X.2.1 t, N, .inr (.inr (.inr (.inr f))))) (ht : (tysX X)[t]? = some (X.2.1 t, ty)) (hd : decode cc pc = .ok (.arraylength, 1)) (kk : KJ G X cc nL ret own nm n0 (pc + 1) lv (.int (nI N) :: st) nk wd ks) : KJ G X cc nL ret own nm n0 pc lv (.ref (X.2.2.1 + k) :: st) nk wd ks := by
  intro p e s m args below meth c H locs ls C hm hz hao hP hS hl
  have ha : (wn X (n0 + nk) wd)[k]? = some (X.2.2.1 + k, .inl (X.2.1 t, N, .inr (.inr (.inr (.inr f))))) := by rw [wn_get hk, he]
  exact va_alen C.1 C.2.1 C.2.2.2.2.2.2.2.1.1 hP k t ha ht rfl hd (kk p e s m args below meth c H locs ls C hm hz hao hP hS hl)
theorem kj_run {p : Program} {e : Env} {s : State} {m : MethodId} {args : Array Value} {below : List Frame} {meth : Method} {c : Code} {H : Heap} {locs : List Loc} {ls : Array Slot} {a : Array Value} {st0 : List Value} {mc ms n : Nat} (C : SC G X cc nL ret own p s m args meth c) (hm : meth.name = nm) (hz : s.heap.size = X.2.2.1 + n0) (hao : AO s) (hS : va_S (AA X) s.heap H locs) (hl : lv_has ls nL (prs 0 lv)) (hn : n = n0 + (nk + mc))
    (hr : va_Run p G.1 e G.2.1 s m args below meth c H locs nk ks mc ms (F0 m pc ls st0) st (QN X n wd' a) (AA X))
    (kk : KJ G X cc nL ret own nm n0 (pc + 3) lv st (nk + mc) wd' (ks + ms)) :
    W p G.1 e G.2.1 s m args below meth c H locs nk ks (G.2.2.2.2 below args s) (F0 m pc ls st0) := by
  intro T hT X0
  obtain ⟨v, st₀, t, T', L, h0, X', hL, e1, e2, ⟨⟨hv, hP1⟩, hF⟩, stp⟩ := hr T hT X0
  cases hv
  subst hn
  have hS1 : va_S (AA X) s.heap T'.heap (locs ++ L) := by
    rw [va_F, h0] at hF
    refine ⟨Nat.le_trans hS.1 (by rw [e1]; exact hF.1), fun q h1 h2 => ?_, fun q hq2 => ?_⟩
    · rw [e1, hF.2 q (Nat.lt_of_lt_of_le h1 hS.1) h2]
      exact hS.2.1 q h1 h2
    · rcases List.mem_append.mp hq2 with h | h
      · exact hS.2.2 q h
      · exact hL q h
  obtain ⟨t2, a1, b1⟩ := kk p e s m args below meth c T'.heap (locs ++ L) ls C hm hz hao (by rw [e1]; exact hP1) hS1 hl T' rfl X'
  exact ⟨t2, stp t2 a1, b1⟩
theorem kj_init {y : MethodName} {cc' : ByteArray} {nL' n h' idx k' mc ms ci : Nat} {fs As : List Value} (hb : mI own idx y cc' nL' n) (hM : MK G.1 X h' y cc' nL' (.ref (X.2.2.1 + k') :: As) k' mc ms ci fs) (hk : n0 + nk = k' + 1) (he : wd k' = .inr (ci, fs)) (hn : As.length = n) (hR : fitI G h' nL' (nk + mc) (ks + ms)) (hst : (st.map fun v => v.category).sum ≤ 8) (hd : decode cc pc = .ok (.invokespecial idx, 3))
    (kk : KJ G X cc nL ret own nm n0 (pc + 3) lv st (nk + mc) (mx wd (lo X) k') (ks + ms)) : KJ G X cc nL ret own nm n0 pc lv (As.reverse ++ .ref (X.2.2.1 + k') :: st) nk wd ks := by
  intro p e s m args below meth c H locs ls C hm hz hao hP hS hl
  refine W_size (fun hsz => ?_)
  have hz2 := wn_size hz hsz hP hS
  obtain ⟨b1, b2, b4, b5, b6, b7, b8⟩ := hb
  have hG : GoodIn TW (Cond.code y cc' nL' none :: TW) := TW_GI (fun w hw => by rcases List.mem_cons.mp hw with rfl | h <;> assumption)
  have hts := C.2.2.2.2.2.1
  have hp : PreS s H (va_Pc (.ref (X.2.2.1 + k') :: As) (IVn X (k' + 1) wd)) (.ref (X.2.2.1 + k') :: As) := ⟨IVn_blind, fun U hU hW => ⟨rfl, C.2.2.2.2.2.2.2.1.warm hW hU hS, ⟨va_AO.moved hW.alike hao.1, va_AO.moved hW.alike hao.2⟩, by rw [hU, hz2, hk], by rw [hU, ← hk]; exact hP⟩⟩
  rcases b1 with b1 | ⟨host, b1⟩
  · exact kj_run C hm hz hao hS hl (by omega) (va_runI (As := As) (rest := st) ⟨C.1, C.2.1, C.2.2.2.1, C.2.2.2.2.1, hts⟩ (hM wd he) (cwI n hts hG rfl rfl rfl (hts _ b4) (hts _ b1) (hts _ b2) b7 ⟨b6.1, b6.2, b8⟩ hR.1) hp rfl hn hl.1 rfl (lv_room hst) hd ⟨hR.2.1, hR.2.2⟩) kk
  · exact kj_run C hm hz hao hS hl (by omega) (va_runIN (As := As) (rest := st) ⟨C.1, C.2.1, C.2.2.2.1, C.2.2.2.2.1, hts⟩ (hM wd he) ⟨va_cnB n hts hG rfl rfl rfl (C.2.2.2.2.2.2.2.1.2.1 _ b1) (hts _ b4) ⟨b6.1, b6.2, b8⟩ hR.1, b7, hts _ b2⟩ hp rfl hn hl.1 rfl (lv_room hst) hd ⟨hR.2.1, hR.2.2⟩) kk
theorem kb_init {y : MethodName} {cc' : ByteArray} {nL' n h' idx k k' mc ms ci : Nat} {fs As : List Value} (hb : mI own idx y cc' nL' n) (hM : MK G.1 X h' y cc' nL' (.ref (X.2.2.1 + k') :: As) k' mc ms ci fs) (hk : n0 + nk = k' + 1) (hkk : k < k') (hS : ∀ j, k' ≤ j → j < n0 + (nk + mc) → S j = lo X j) (hn : As.length = n) (hR : fitI G h' nL' (nk + mc) (ks + ms)) (hst : (st.map fun v => v.category).sum ≤ 8) (hd : decode cc pc = .ok (.invokespecial idx, 3))
    (kk : KJ G X cc nL ret own nm n0 (pc + 3) lv st (nk + mc) (mx w (va_up S k e0) k) (ks + ms)) : KJ G X cc nL ret own nm n0 pc lv (As.reverse ++ .ref (X.2.2.1 + k') :: st) nk (va_up (mx w (va_up S k e0) k) k' (.inr (ci, fs))) ks :=
  kj_init hb hM hk (up_same _ _ _) hn hR hst hd (kj_conv (fun i hi => mx_ini hkk hi hS) kk)
theorem kb_put {idx ci j k : Nat} {v : Value} {fs : List Value} {tyf : Nat → FieldType} (hb : fgA own idx ci j) (hT : fpT ci tyf) (hn : narrow (tyf j) v = v) (hfit : fits (tyf j) v = true) (hk : k < n0 + nk) (hl2 : j < fs.length) (hnm : nm = "<init>") (hdc : ∀ C T N, vwCl[ci]? = some (C, T, N) → (T j).1 = own) (hd : decode cc pc = .ok (.putfield idx, 3))
    (kk : KJ G X cc nL ret own nm n0 (pc + 3) lv st nk (mx w (va_up S k (.inr (ci, fs.set j v))) k) ks) : KJ G X cc nL ret own nm n0 pc lv (v :: .ref (X.2.2.1 + k) :: st) nk (mx w (va_up S k (.inr (ci, fs))) k) ks :=
  kj_put hb hT hn hfit hk mx_at hl2 hnm hdc hd (kj_conv (fun i _ => mx_put) kk)
theorem kb_get {idx ci j k : Nat} {v : Value} {fs : List Value} (hb : fgA own idx ci j) (hk : k < n0 + nk) (hv : fs[j]? = some v) (hd : decode cc pc = .ok (.getfield idx, 3)) (kk : KJ G X cc nL ret own nm n0 (pc + 3) lv (v :: st) nk (mx w (va_up S k (.inr (ci, fs))) k) ks) : KJ G X cc nL ret own nm n0 pc lv (.ref (X.2.2.1 + k) :: st) nk (mx w (va_up S k (.inr (ci, fs))) k) ks :=
  kj_get hb hk mx_at hv hd kk
theorem kb_newi {k N : Nat} {n : Int32} (hw : Cond.arrayClass .int ∈ TW) (hn : ¬ n < 0) (hN : n.toNatClampNeg = N) (hbt : N * componentBytes .int ≤ 536870912) (hR : fitK G (nk + 1) (ks + N) 0) (hk : k < n0 + nk) (hS : S (n0 + nk) = .inl (X.2.1 0, N, .inl (fun _ => 0))) (hd : decode cc pc = .ok (.newarray .int, 2))
    (kk : KJ G X cc nL ret own nm n0 (pc + 2) lv (.ref (X.2.2.1 + (n0 + nk)) :: st) (nk + 1) (mx w (va_up S k e0) k) (ks + N)) : KJ G X cc nL ret own nm n0 pc lv (.int n :: st) nk (mx w (va_up S k e0) k) ks :=
  kj_newi hw hn hN hbt hR hd (kj_conv (fun i _ => mx_new hk hS) kk)
theorem kb_newl {k N : Nat} {n : Int32} (hw : Cond.arrayClass .long ∈ TW) (hn : ¬ n < 0) (hN : n.toNatClampNeg = N) (hbt : N * componentBytes .long ≤ 536870912) (hR : fitK G (nk + 1) (ks + N) 0) (hk : k < n0 + nk) (hS : S (n0 + nk) = .inl (X.2.1 1, N, .inr (.inl (fun _ => 0)))) (hd : decode cc pc = .ok (.newarray .long, 2))
    (kk : KJ G X cc nL ret own nm n0 (pc + 2) lv (.ref (X.2.2.1 + (n0 + nk)) :: st) (nk + 1) (mx w (va_up S k e0) k) (ks + N)) : KJ G X cc nL ret own nm n0 pc lv (.int n :: st) nk (mx w (va_up S k e0) k) ks :=
  kj_newl hw hn hN hbt hR hd (kj_conv (fun i _ => mx_new hk hS) kk)
theorem kb_newq {idx t k N : Nat} {n : Int32} {Cn : String} (hcl : Cond.classLink own idx Cn ∈ TW) (hao2 : ∀ U, AO U → va_AO Cn U) (ht : (tysX X)[t]? = some (X.2.1 t, .object Cn)) (hn : ¬ n < 0) (hN : n.toNatClampNeg = N) (hbt : N * 4 ≤ 536870912) (hR : fitK G (nk + 1) (ks + N) 0) (hk : k < n0 + nk) (hS : S (n0 + nk) = .inl (X.2.1 t, N, .inr (.inr (.inr (.inr (fun _ => none)))))) (hd : decode cc pc = .ok (.anewarray idx, 3))
    (kk : KJ G X cc nL ret own nm n0 (pc + 3) lv (.ref (X.2.2.1 + (n0 + nk)) :: st) (nk + 1) (mx w (va_up S k e0) k) (ks + N)) : KJ G X cc nL ret own nm n0 pc lv (.int n :: st) nk (mx w (va_up S k e0) k) ks :=
  kj_newq hcl hao2 ht hn hN hbt hR hd (kj_conv (fun i _ => mx_new hk hS) kk)
theorem kb_astq {t k a q ci N : Nat} {i : Int32} {r : vw_C} {vs : List Value} {f : Nat → Option Nat} (hka : k < a) (haq : a < q) (hk : a < n0 + nk) (ht : (tysX X)[t]? = some (X.2.1 t, .object r.1)) (hq : q < n0 + nk) (hv : S q = .inr (ci, vs)) (hc : vwCl[ci]? = some r) (hin : vp_in i N) (hd : decode cc pc = .ok (.aastore, 1))
    (kk : KJ G X cc nL ret own nm n0 (pc + 1) lv st nk (mx w (va_up (va_up S a (.inl (X.2.1 t, N, .inr (.inr (.inr (.inr (va_up f i.toNatClampNeg (some (X.2.2.1 + q))))))))) k e0) k) ks) : KJ G X cc nL ret own nm n0 pc lv (.ref (X.2.2.1 + q) :: .int i :: .ref (X.2.2.1 + a) :: st) nk (mx w (va_up (va_up S a (.inl (X.2.1 t, N, .inr (.inr (.inr (.inr f)))))) k e0) k) ks :=
  kj_astq hk ((mx_oth hka).trans (up_same _ _ _)) ht hq ((mx_oth (by omega)).trans ((up_other _ _ (by omega)).trans hv)) hc hin hd (kj_conv (fun i _ => mx_arr hka) kk)
end KB
theorem df0 : ∀ j, j < 3 → defaultValue (tyX0 j) = vp_V [.null, .int 0, .int 0] j := fun j hj => by match j, hj with | 0, _ => rfl | 1, _ => rfl | 2, _ => rfl
theorem dc0 {j : Nat} (hj : j < 3) : ∀ C T N, vwCl[0]? = some (C, T, N) → (T j).1 = RX0 := by
  intro C T N h
  have h2 : ((RX0, TX0, 3) : vw_C) = (C, T, N) := Option.some.inj h
  cases h2
  match j, hj with | 0, _ => rfl | 1, _ => rfl | 2, _ => rfl
theorem df1 : ∀ j, j < 4 → defaultValue (tyX1 j) = vp_V [.null, .int 0, .int 0, .int 0] j := fun j hj => by match j, hj with | 0, _ => rfl | 1, _ => rfl | 2, _ => rfl | 3, _ => rfl
theorem dc1 {j : Nat} (hj : j < 4) : ∀ C T N, vwCl[1]? = some (C, T, N) → (T j).1 = RX1 := by
  intro C T N h
  have h2 : ((RX1, TX1, 4) : vw_C) = (C, T, N) := Option.some.inj h
  cases h2
  match j, hj with | 0, _ => rfl | 1, _ => rfl | 2, _ => rfl | 3, _ => rfl
theorem df2 : ∀ j, j < 2 → defaultValue (tyX2 j) = vp_V [.null, .int 0] j := fun j hj => by match j, hj with | 0, _ => rfl | 1, _ => rfl
theorem dc2 {j : Nat} (hj : j < 2) : ∀ C T N, vwCl[2]? = some (C, T, N) → (T j).1 = RX2 := by
  intro C T N h
  have h2 : ((RX2, TX2, 2) : vw_C) = (C, T, N) := Option.some.inj h
  cases h2
  match j, hj with | 0, _ => rfl | 1, _ => rfl
theorem df3 : ∀ j, j < 2 → defaultValue (tyX3 j) = vp_V [.null, .null] j := fun j hj => by match j, hj with | 0, _ => rfl | 1, _ => rfl
theorem dc3 {j : Nat} (hj : j < 2) : ∀ C T N, vwCl[3]? = some (C, T, N) → (T j).1 = RX3 := by
  intro C T N h
  have h2 : ((RX3, TX3, 2) : vw_C) = (C, T, N) := Option.some.inj h
  cases h2
  match j, hj with | 0, _ => rfl | 1, _ => rfl
theorem df4 : ∀ j, j < 3 → defaultValue (tyX4 j) = vp_V [.null, .int 0, .int 0] j := fun j hj => by match j, hj with | 0, _ => rfl | 1, _ => rfl | 2, _ => rfl
theorem dc4 {j : Nat} (hj : j < 3) : ∀ C T N, vwCl[4]? = some (C, T, N) → (T j).1 = RX4 := by
  intro C T N h
  have h2 : ((RX4, TX4, 3) : vw_C) = (C, T, N) := Option.some.inj h
  cases h2
  match j, hj with | 0, _ => rfl | 1, _ => rfl | 2, _ => rfl
theorem df5 : ∀ j, j < 3 → defaultValue (tyX5 j) = vp_V [.null, .null, .int 0] j := fun j hj => by match j, hj with | 0, _ => rfl | 1, _ => rfl | 2, _ => rfl
theorem dc5 {j : Nat} (hj : j < 3) : ∀ C T N, vwCl[5]? = some (C, T, N) → (T j).1 = RX5 := by
  intro C T N h
  have h2 : ((RX5, TX5, 3) : vw_C) = (C, T, N) := Option.some.inj h
  cases h2
  match j, hj with | 0, _ => rfl | 1, _ => rfl | 2, _ => rfl
theorem df6 : ∀ j, j < 6 → defaultValue (tyX6 j) = vp_V [.null, .int 0, .int 0, .int 0, .int 0, .int 0] j := fun j hj => by match j, hj with | 0, _ => rfl | 1, _ => rfl | 2, _ => rfl | 3, _ => rfl | 4, _ => rfl | 5, _ => rfl
theorem dc6 {j : Nat} (hj : j < 6) : ∀ C T N, vwCl[6]? = some (C, T, N) → (T j).1 = RX6 := by
  intro C T N h
  have h2 : ((RX6, TX6, 6) : vw_C) = (C, T, N) := Option.some.inj h
  cases h2
  match j, hj with | 0, _ => rfl | 1, _ => rfl | 2, _ => rfl | 3, _ => rfl | 4, _ => rfl | 5, _ => rfl
theorem df8 : ∀ j, j < 2 → defaultValue (tyX8 j) = vp_V [.null, .int 0] j := fun j hj => by match j, hj with | 0, _ => rfl | 1, _ => rfl
theorem dc8 {j : Nat} (hj : j < 2) : ∀ C T N, vwCl[8]? = some (C, T, N) → (T j).1 = RX8 := by
  intro C T N h
  have h2 : ((RX8, TX8, 2) : vw_C) = (C, T, N) := Option.some.inj h
  cases h2
  match j, hj with | 0, _ => rfl | 1, _ => rfl
theorem df10 : ∀ j, j < 2 → defaultValue (tyX10 j) = vp_V [.null, .int 0] j := fun j hj => by match j, hj with | 0, _ => rfl | 1, _ => rfl
theorem dc10 {j : Nat} (hj : j < 2) : ∀ C T N, vwCl[10]? = some (C, T, N) → (T j).1 = RX10 := by
  intro C T N h
  have h2 : ((RX10, TX10, 2) : vw_C) = (C, T, N) := Option.some.inj h
  cases h2
  match j, hj with | 0, _ => rfl | 1, _ => rfl
theorem df11 : ∀ j, j < 14 → defaultValue (tyX11 j) = vp_V [.null, .null, .null, .null, .null, .null, .null, .null, .null, .null, .null, .null, .null, .int 0] j := fun j hj => by match j, hj with | 0, _ => rfl | 1, _ => rfl | 2, _ => rfl | 3, _ => rfl | 4, _ => rfl | 5, _ => rfl | 6, _ => rfl | 7, _ => rfl | 8, _ => rfl | 9, _ => rfl | 10, _ => rfl | 11, _ => rfl | 12, _ => rfl | 13, _ => rfl
theorem dc11 {j : Nat} (hj : j < 14) : ∀ C T N, vwCl[11]? = some (C, T, N) → (T j).1 = RX11 := by
  intro C T N h
  have h2 : ((RX11, TX11, 14) : vw_C) = (C, T, N) := Option.some.inj h
  cases h2
  match j, hj with | 0, _ => rfl | 1, _ => rfl | 2, _ => rfl | 3, _ => rfl | 4, _ => rfl | 5, _ => rfl | 6, _ => rfl | 7, _ => rfl | 8, _ => rfl | 9, _ => rfl | 10, _ => rfl | 11, _ => rfl | 12, _ => rfl | 13, _ => rfl
theorem df12 : ∀ j, j < 27 → defaultValue (tyX12 j) = vp_V [.null, .null, .null, .null, .null, .int 0, .int 0, .int 0, .null, .null, .null, .null, .null, .int 0, .int 0, .int 0, .int 0, .long 0, .int 0, .int 0, .null, .null, .null, .null, .null, .null, .int 0] j := fun j hj => by match j, hj with | 0, _ => rfl | 1, _ => rfl | 2, _ => rfl | 3, _ => rfl | 4, _ => rfl | 5, _ => rfl | 6, _ => rfl | 7, _ => rfl | 8, _ => rfl | 9, _ => rfl | 10, _ => rfl | 11, _ => rfl | 12, _ => rfl | 13, _ => rfl | 14, _ => rfl | 15, _ => rfl | 16, _ => rfl | 17, _ => rfl | 18, _ => rfl | 19, _ => rfl | 20, _ => rfl | 21, _ => rfl | 22, _ => rfl | 23, _ => rfl | 24, _ => rfl | 25, _ => rfl | 26, _ => rfl | q + 27, h => exact absurd h (by omega)
theorem dc12 {j : Nat} (hj : j < 27) : ∀ C T N, vwCl[12]? = some (C, T, N) → (T j).1 = RX12 := by
  intro C T N h
  have h2 : ((RX12, TX12, 27) : vw_C) = (C, T, N) := Option.some.inj h
  cases h2
  match j, hj with | 0, _ => rfl | 1, _ => rfl | 2, _ => rfl | 3, _ => rfl | 4, _ => rfl | 5, _ => rfl | 6, _ => rfl | 7, _ => rfl | 8, _ => rfl | 9, _ => rfl | 10, _ => rfl | 11, _ => rfl | 12, _ => rfl | 13, _ => rfl | 14, _ => rfl | 15, _ => rfl | 16, _ => rfl | 17, _ => rfl | 18, _ => rfl | 19, _ => rfl | 20, _ => rfl | 21, _ => rfl | 22, _ => rfl | 23, _ => rfl | 24, _ => rfl | 25, _ => rfl | 26, _ => rfl | q + 27, h => exact absurd h (by omega)
theorem niX11_15 : mI RX11 15 yX1_init cX1_init 2 0 := ⟨Or.inl (tw_t (tm1 29 rfl) rfl), (tw_t (tm1 30 rfl) rfl), (tw_t (tm1 2 rfl) rfl), (tw_t (tm1 31 rfl) rfl), ⟨by decide, by decide⟩, rfl, by decide +kernel⟩
theorem niX11_35 : mI RX11 35 yX2_init cX2_init 2 1 := ⟨Or.inl (tw_t (tm1 126 rfl) rfl), (tw_t (tm1 43 rfl) rfl), (tw_t (tm1 4 rfl) rfl), (tw_t (tm1 44 rfl) rfl), ⟨by decide, by decide⟩, rfl, by decide +kernel⟩
theorem niX3_11 : mI RX3 11 yX2_init cX2_init 2 1 := ⟨Or.inl (tw_t (tm1 180 rfl) rfl), (tw_t (tm1 43 rfl) rfl), (tw_t (tm1 4 rfl) rfl), (tw_t (tm1 44 rfl) rfl), ⟨by decide, by decide⟩, rfl, by decide +kernel⟩
theorem niX8_11 : mI RX8 11 yX2_init cX2_init 2 1 := ⟨Or.inl (tw_t (tm1 42 rfl) rfl), (tw_t (tm1 43 rfl) rfl), (tw_t (tm1 4 rfl) rfl), (tw_t (tm1 44 rfl) rfl), ⟨by decide, by decide⟩, rfl, by decide +kernel⟩
theorem niL_9 : mI RL 9 yX11_init cX11_init 2 0 := ⟨Or.inl (tw_t (tm1 21 rfl) rfl), (tw_t (tm1 22 rfl) rfl), (tw_t (tm1 1 rfl) rfl), (tw_t (tm1 23 rfl) rfl), ⟨by decide, by decide⟩, rfl, by decide +kernel⟩
theorem niL_12 : mI RL 12 yX12_init cX12_init 1 0 := ⟨Or.inl (tw_t (tm4 195 rfl) rfl), (tw_t (tm4 196 rfl) rfl), (tw_t (tm1 12 rfl) rfl), (tw_t (tm4 197 rfl) rfl), ⟨by decide, by decide⟩, rfl, by decide +kernel⟩
theorem niX11_22 : mI RX11 22 yX6_init cX6_init 1 0 := ⟨Or.inr ⟨"KnotFair", (nw_t (tm1 96 rfl) rfl)⟩, (tw_t (tm1 97 rfl) rfl), (tw_t (tm1 6 rfl) rfl), (tw_t (tm1 98 rfl) rfl), ⟨by decide, by decide⟩, rfl, by decide +kernel⟩
theorem niX11_47 : mI RX11 47 yX5_init cX5_init 1 0 := ⟨Or.inr ⟨"KnotFair", (nw_t (tm1 129 rfl) rfl)⟩, (tw_t (tm1 130 rfl) rfl), (tw_t (tm1 7 rfl) rfl), (tw_t (tm1 131 rfl) rfl), ⟨by decide, by decide⟩, rfl, by decide +kernel⟩
theorem niX11_57 : mI RX11 57 yX0_init cX0_init 1 0 := ⟨Or.inr ⟨"KnotFair", (nw_t (tm1 145 rfl) rfl)⟩, (tw_t (tm1 146 rfl) rfl), (tw_t (tm1 8 rfl) rfl), (tw_t (tm1 147 rfl) rfl), ⟨by decide, by decide⟩, rfl, by decide +kernel⟩
theorem niX11_64 : mI RX11 64 yX10_init cX10_init 1 0 := ⟨Or.inr ⟨"KnotFair", (nw_t (tm1 161 rfl) rfl)⟩, (tw_t (tm1 162 rfl) rfl), (tw_t (tm1 9 rfl) rfl), (tw_t (tm1 163 rfl) rfl), ⟨by decide, by decide⟩, rfl, by decide +kernel⟩
theorem niX11_71 : mI RX11 71 yX3_init cX3_init 1 0 := ⟨Or.inr ⟨"KnotFair", (nw_t (tm1 175 rfl) rfl)⟩, (tw_t (tm1 176 rfl) rfl), (tw_t (tm1 10 rfl) rfl), (tw_t (tm1 177 rfl) rfl), ⟨by decide, by decide⟩, rfl, by decide +kernel⟩
theorem niX11_86 : mI RX11 86 yX4_init cX4_init 1 0 := ⟨Or.inr ⟨"KnotFair", (nw_t (tm1 189 rfl) rfl)⟩, (tw_t (tm1 190 rfl) rfl), (tw_t (tm1 11 rfl) rfl), (tw_t (tm1 191 rfl) rfl), ⟨by decide, by decide⟩, rfl, by decide +kernel⟩
theorem niX1_27 : mI RX1 27 yX8_init cX8_init 1 0 := ⟨Or.inr ⟨"KnotFair", (nw_t (tm1 36 rfl) rfl)⟩, (tw_t (tm1 37 rfl) rfl), (tw_t (tm1 3 rfl) rfl), (tw_t (tm1 38 rfl) rfl), ⟨by decide, by decide⟩, rfl, by decide +kernel⟩
