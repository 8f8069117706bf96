/-! worlds that grow: constructors -/
def wn (X : CX) (n : Nat) (w : Nat → va_E) : va_W := (List.range n).map (fun k => (X.2.2.1 + k, w k))
theorem wn_get {X : CX} {n k : Nat} {w : Nat → va_E} (h : k < n) : (wn X n w)[k]? = some (X.2.2.1 + k, w k) := by simp [wn, h]
theorem wn_len {X : CX} {n : Nat} {w : Nat → va_E} : (wn X n w).length = n := by simp [wn]
theorem wn_in {X : CX} {n k : Nat} {w : Nat → va_E} {q : Nat × va_E} (h : (wn X n w)[k]? = some q) : k < n ∧ q = (X.2.2.1 + k, w k) := by
  by_cases h2 : k < n
  · rw [wn_get h2] at h
    exact ⟨h2, (Option.some.inj h).symm⟩
  · simp [wn, h2] at h
theorem wn_D {X : CX} {n : Nat} {w : Nat → va_E} : va_D (AA X) (wn X n w) := by
  refine ⟨fun i j p q hi hj hpq => ?_, fun k q hk => ?_⟩
  · obtain ⟨_, rfl⟩ := wn_in hi
    obtain ⟨_, rfl⟩ := wn_in hj
    simp at hpq
    exact hpq
  · obtain ⟨_, rfl⟩ := wn_in hk
    exact Nat.le_add_right _ _
theorem wn_set {X : CX} {n k : Nat} {w : Nat → va_E} {e : va_E} (h : k < n) : (wn X n w).set k (X.2.2.1 + k, e) = wn X n (va_up w k e) := by
  apply List.ext_getElem?
  intro i
  rw [List.getElem?_set]
  by_cases hi : k = i
  · subst hi
    rw [if_pos rfl, if_pos (by rw [wn_len]; exact h), wn_get h, up_same]
  · rw [if_neg hi]
    by_cases h2 : i < n
    · rw [wn_get h2, wn_get h2, up_other _ _ (Ne.symm hi)]
    · simp [wn, h2]
theorem wn_push {X : CX} {n : Nat} {w : Nat → va_E} {e : va_E} : wn X n w ++ [(X.2.2.1 + n, e)] = wn X (n + 1) (va_up w n e) := by
  apply List.ext_getElem?
  intro i
  by_cases h : i < n
  · rw [List.getElem?_append_left (by rw [wn_len]; exact h), wn_get h, wn_get (by omega), up_other _ _ (by omega)]
  · rw [List.getElem?_append_right (by rw [wn_len]; omega), wn_len]
    by_cases h2 : i = n
    · subst h2
      rw [Nat.sub_self, wn_get (by omega), up_same]; rfl
    · rw [List.getElem?_eq_none (by show 1 ≤ i - n; omega), List.getElem?_eq_none (by rw [wn_len]; omega)]
def AO (U : State) : Prop := va_AO "KnotFair$Tie" U ∧ va_AO "KnotFair$Sheet" U
def KJ (G : GT) (X : CX) (cc : ByteArray) (nL : Nat) (ret : Option FieldType) (own : String) (nm : String) (n0 pc : Nat) (lv : List (Option Value)) (st : List Value) (nk : Nat) (wd : Nat → va_E) (ks : Nat) : Prop :=
  ∀ (p : Program) (e : Env) (s : State) (m : MethodId) (args : Array Value) (below : List Frame) (meth : Method) (c : Code) (H : Heap) (locs : List Loc) (ls : Array Slot),
    SC G X cc nL ret own p s m args meth c → meth.name = nm → s.heap.size = X.2.2.1 + n0 → AO s → va_P X.1 vwCl (wn X (n0 + nk) wd) H → va_S (AA X) s.heap H locs → lv_has ls nL (prs 0 lv) →
    W p G.1 e G.2.1 s m args below meth c H locs nk ks (G.2.2.2.2 below args s) (F0 m pc ls st)
theorem W_size {p : Program} {l : Launch} {e : Env} {R : Room} {s : State} {m : MethodId} {args : Array Value} {below : List Frame} {meth : Method} {c : Code} {H : Heap} {locs : List Loc} {k n : Nat} {Q : State → Prop} {g : JFrame} (h : H.size ≤ s.heap.size + k → W p l e R s m args below meth c H locs k n Q g) : W p l e R s m args below meth c H locs k n Q g := fun T hT X => h (by rw [← hT]; exact X.heapSize) T hT X
theorem wn_new {X : CX} {s : State} {n0 nk q : Nat} {wd : Nat → va_E} {e : va_E} {H : Heap} (hz : s.heap.size = X.2.2.1 + n0) (hs : H.size ≤ s.heap.size + (nk + 1)) (hP : va_P X.1 vwCl (wn X (n0 + nk) wd ++ [(q, e)]) H) (hD : va_D (AA X) (wn X (n0 + nk) wd ++ [(q, e)])) : q = X.2.2.1 + (n0 + nk) := by
  have hg : (wn X (n0 + nk) wd ++ [(q, e)])[n0 + nk]? = some (q, e) := by rw [List.getElem?_append_right (by rw [wn_len]; omega), wn_len, Nat.sub_self]; rfl
  have h1 : q < H.size := (hP _ _ hg).lt
  have h2 : X.2.2.1 ≤ q := hD.2 _ _ hg
  rcases Nat.lt_or_ge q (X.2.2.1 + (n0 + nk)) with z | z
  · have h3 : (wn X (n0 + nk) wd ++ [(q, e)])[q - X.2.2.1]? = some (X.2.2.1 + (q - X.2.2.1), wd (q - X.2.2.1)) := by rw [List.getElem?_append_left (by rw [wn_len]; omega), wn_get (by omega)]
    have := hD.1 _ _ _ _ h3 hg (by show X.2.2.1 + (q - X.2.2.1) = q; omega)
    omega
  · omega
theorem wn_size {X : CX} {s : State} {n0 nk : Nat} {wd : Nat → va_E} {H : Heap} {locs : List Loc} (hz : s.heap.size = X.2.2.1 + n0) (hs : H.size ≤ s.heap.size + nk) (hP : va_P X.1 vwCl (wn X (n0 + nk) wd) H) (hS : va_S (AA X) s.heap H locs) : H.size = X.2.2.1 + (n0 + nk) := by
  have h0 := hS.1
  rcases Nat.eq_zero_or_pos nk with z | z
  · omega
  · have h1 : X.2.2.1 + (n0 + nk - 1) < H.size := (hP _ _ (wn_get (X := X) (w := wd) (show n0 + nk - 1 < n0 + nk by omega))).lt
    omega
section KROWS
variable {G : GT} {X : CX} {cc : ByteArray} {nL : Nat} {ret : Option FieldType} {own nm : String} {pc : Nat} {lv : List (Option Value)} {st : List Value} {n0 nk ks : Nat} {wd : Nat → va_E}
theorem kj_ic0  (hd : decode cc pc = .ok (.iconst 0, 1))  (k : KJ G X cc nL ret own nm n0 (pc + 1) lv (.int 0 :: st) nk wd ks) : KJ G X cc nL ret own nm n0 pc lv (st) nk wd ks := by
  intro p e s m args below meth c H locs ls C hm hz hao hP hS hl
  exact lv_iconst C.1 C.2.1 hd (v := 0) (by decide) (k p e s m args below meth c H locs ls C hm hz hao hP hS hl)
theorem kj_ic1  (hd : decode cc pc = .ok (.iconst 1, 1))  (k : KJ G X cc nL ret own nm n0 (pc + 1) lv (.int 1 :: st) nk wd ks) : KJ G X cc nL ret own nm n0 pc lv (st) nk wd ks := by
  intro p e s m args below meth c H locs ls C hm hz hao hP hS hl
  exact lv_iconst C.1 C.2.1 hd (v := 1) (by decide) (k p e s m args below meth c H locs ls C hm hz hao hP hS hl)
theorem kj_ic2  (hd : decode cc pc = .ok (.iconst 2, 1))  (k : KJ G X cc nL ret own nm n0 (pc + 1) lv (.int 2 :: st) nk wd ks) : KJ G X cc nL ret own nm n0 pc lv (st) nk wd ks := by
  intro p e s m args below meth c H locs ls C hm hz hao hP hS hl
  exact lv_iconst C.1 C.2.1 hd (v := 2) (by decide) (k p e s m args below meth c H locs ls C hm hz hao hP hS hl)
theorem kj_ic3  (hd : decode cc pc = .ok (.iconst 3, 1))  (k : KJ G X cc nL ret own nm n0 (pc + 1) lv (.int 3 :: st) nk wd ks) : KJ G X cc nL ret own nm n0 pc lv (st) nk wd ks := by
  intro p e s m args below meth c H locs ls C hm hz hao hP hS hl
  exact lv_iconst C.1 C.2.1 hd (v := 3) (by decide) (k p e s m args below meth c H locs ls C hm hz hao hP hS hl)
theorem kj_ic4  (hd : decode cc pc = .ok (.iconst 4, 1))  (k : KJ G X cc nL ret own nm n0 (pc + 1) lv (.int 4 :: st) nk wd ks) : KJ G X cc nL ret own nm n0 pc lv (st) nk wd ks := by
  intro p e s m args below meth c H locs ls C hm hz hao hP hS hl
  exact lv_iconst C.1 C.2.1 hd (v := 4) (by decide) (k p e s m args below meth c H locs ls C hm hz hao hP hS hl)
theorem kj_bipush {n : Int} {v : Int32} (hd : decode cc pc = .ok (.bipush n, 2)) (hv : (Int8.ofInt n).toInt32 = v) (k : KJ G X cc nL ret own nm n0 (pc + 2) lv (.int v :: st) nk wd ks) : KJ G X cc nL ret own nm n0 pc lv (st) nk wd ks := by
  intro p e s m args below meth c H locs ls C hm hz hao hP hS hl
  exact lv_bipush C.1 C.2.1 hd hv (k p e s m args below meth c H locs ls C hm hz hao hP hS hl)
theorem kj_sipush {n : Int} {v : Int32} (hd : decode cc pc = .ok (.sipush n, 3)) (hv : (Int16.ofInt n).toInt32 = v) (k : KJ G X cc nL ret own nm n0 (pc + 3) lv (.int v :: st) nk wd ks) : KJ G X cc nL ret own nm n0 pc lv (st) nk wd ks := by
  intro p e s m args below meth c H locs ls C hm hz hao hP hS hl
  exact lv_sipush C.1 C.2.1 hd hv (k p e s m args below meth c H locs ls C hm hz hao hP hS hl)
theorem kj_ald0 {x : Nat} (hd : decode cc pc = .ok (.aload_n 0, 1)) (hl0 : lv[0]? = some (some (.ref x))) (k : KJ G X cc nL ret own nm n0 (pc + 1) lv (.ref x :: st) nk wd ks) : KJ G X cc nL ret own nm n0 pc lv (st) nk wd ks := by
  intro p e s m args below meth c H locs ls C hm hz hao hP hS hl
  exact lv_aload_n C.1 C.2.1 hd rfl (lvp_at hl hl0) (k p e s m args below meth c H locs ls C hm hz hao hP hS hl)
theorem kj_ald1 {x : Nat} (hd : decode cc pc = .ok (.aload_n 1, 1)) (hl0 : lv[1]? = some (some (.ref x))) (k : KJ G X cc nL ret own nm n0 (pc + 1) lv (.ref x :: st) nk wd ks) : KJ G X cc nL ret own nm n0 pc lv (st) nk wd ks := by
  intro p e s m args below meth c H locs ls C hm hz hao hP hS hl
  exact lv_aload_n C.1 C.2.1 hd rfl (lvp_at hl hl0) (k p e s m args below meth c H locs ls C hm hz hao hP hS hl)
theorem kj_ild1 {x : Int32} (hd : decode cc pc = .ok (.iload_n 1, 1)) (hl0 : lv[1]? = some (some (.int x))) (k : KJ G X cc nL ret own nm n0 (pc + 1) lv (.int x :: st) nk wd ks) : KJ G X cc nL ret own nm n0 pc lv (st) nk wd ks := by
  intro p e s m args below meth c H locs ls C hm hz hao hP hS hl
  exact lv_iload_n C.1 C.2.1 hd rfl (lvp_at hl hl0) (k p e s m args below meth c H locs ls C hm hz hao hP hS hl)
theorem kj_dup {v : Value} (hd : decode cc pc = .ok (.dup, 1)) (hc : v.category = 1) (k : KJ G X cc nL ret own nm n0 (pc + 1) lv (v :: v :: st) nk wd ks) : KJ G X cc nL ret own nm n0 pc lv (v :: st) nk wd ks := by
  intro p e s m args below meth c H locs ls C hm hz hao hP hS hl
  exact lv_dup C.1 C.2.1 hd hc (k p e s m args below meth c H locs ls C hm hz hao hP hS hl)
theorem kj_ic_ge {x y : Int32} {off : Int} {tgt : Nat} (hd : decode cc pc = .ok (.if_icmp .ge off, 3)) (ht : (pc : Int) + off = (tgt : Int)) (kt : y.toInt ≤ x.toInt → KJ G X cc nL ret own nm n0 tgt lv st nk wd ks) (kf : x.toInt < y.toInt → KJ G X cc nL ret own nm n0 (pc + 3) lv st nk wd ks) : KJ G X cc nL ret own nm n0 pc lv (.int y :: .int x :: st) nk wd ks := by
  intro p e s m args below meth c H locs ls C hm hz hao hP hS hl
  exact lv_icmp_ge C.1 C.2.1 hd ht (fun h => kt (tle h) p e s m args below meth c H locs ls C hm hz hao hP hS hl) (fun h => kf (tnle h) p e s m args below meth c H locs ls C hm hz hao hP hS hl)
theorem kj_goto  {off : Int} {tgt : Nat} (hd : decode cc pc = .ok (.goto off, 3)) (ht : (pc : Int) + off = (tgt : Int)) (k : KJ G X cc nL ret own nm n0 tgt lv st nk wd ks) : KJ G X cc nL ret own nm n0 pc lv (st) nk wd ks := by
  intro p e s m args below meth c H locs ls C hm hz hao hP hS hl
  exact lv_goto C.1 C.2.1 hd ht (k p e s m args below meth c H locs ls C hm hz hao hP hS hl)
theorem kj_ist1 {x : Int32} {a0 a1 : Option Value} {L : List (Option Value)} (hd : decode cc pc = .ok (.istore_n 1, 1)) (hN : 1 < nL) (hn : nl a0 = true) (k : KJ G X cc nL ret own nm n0 (pc + 1) (a0 :: some (.int x) :: L) st nk wd ks) : KJ G X cc nL ret own nm n0 pc (a0 :: a1 :: L) ((.int x) :: st) nk wd ks := by
  intro p e s m args below meth c H locs ls C hm hz hao hP hS hl
  refine lv_istore_n C.1 C.2.1 hd rfl hl hN rfl (fun ls hl2 => ?_)
  exact k p e s m args below meth c H locs ls C hm hz hao hP hS (lvp_st1 (lv := a0 :: a1 :: L) (k := 1) (by simp) (fun j hj => by have h9 : j = 0 := (by omega); subst h9; exact hn) hl2)
theorem kj_ast1 {x : Nat} {a0 a1 : Option Value} {L : List (Option Value)} (hd : decode cc pc = .ok (.astore_n 1, 1)) (hN : 1 < nL) (hn : nl a0 = true) (k : KJ G X cc nL ret own nm n0 (pc + 1) (a0 :: some (.ref x) :: L) st nk wd ks) : KJ G X cc nL ret own nm n0 pc (a0 :: a1 :: L) ((.ref x) :: st) nk wd ks := by
  intro p e s m args below meth c H locs ls C hm hz hao hP hS hl
  refine lv_astore_n C.1 C.2.1 hd rfl hl hN rfl (fun ls hl2 => ?_)
  exact k p e s m args below meth c H locs ls C hm hz hao hP hS (lvp_st1 (lv := a0 :: a1 :: L) (k := 1) (by simp) (fun j hj => by have h9 : j = 0 := (by omega); subst h9; exact hn) hl2)
theorem kj_ast2 {x : Nat} {a0 a1 a2 : Option Value} {L : List (Option Value)} (hd : decode cc pc = .ok (.astore_n 2, 1)) (hN : 2 < nL) (hn : nl a1 = true) (k : KJ G X cc nL ret own nm n0 (pc + 1) (a0 :: a1 :: some (.ref x) :: L) st nk wd ks) : KJ G X cc nL ret own nm n0 pc (a0 :: a1 :: a2 :: L) ((.ref x) :: st) nk wd ks := by
  intro p e s m args below meth c H locs ls C hm hz hao hP hS hl
  refine lv_astore_n C.1 C.2.1 hd rfl hl hN rfl (fun ls hl2 => ?_)
  exact k p e s m args below meth c H locs ls C hm hz hao hP hS (lvp_st1 (lv := a0 :: a1 :: a2 :: L) (k := 2) (by simp) (fun j hj => by have h9 : j = 1 := (by omega); subst h9; exact hn) hl2)
theorem kj_ist3 {x : Int32} {a0 a1 a2 a3 : Option Value} {L : List (Option Value)} (hd : decode cc pc = .ok (.istore_n 3, 1)) (hN : 3 < nL) (hn : nl a2 = true) (k : KJ G X cc nL ret own nm n0 (pc + 1) (a0 :: a1 :: a2 :: some (.int x) :: L) st nk wd ks) : KJ G X cc nL ret own nm n0 pc (a0 :: a1 :: a2 :: a3 :: L) ((.int x) :: st) nk wd ks := by
  intro p e s m args below meth c H locs ls C hm hz hao hP hS hl
  refine lv_istore_n C.1 C.2.1 hd rfl hl hN rfl (fun ls hl2 => ?_)
  exact k p e s m args below meth c H locs ls C hm hz hao hP hS (lvp_st1 (lv := a0 :: a1 :: a2 :: a3 :: L) (k := 3) (by simp) (fun j hj => by have h9 : j = 2 := (by omega); subst h9; exact hn) hl2)
theorem kj_iinc1 {x d : Int32} {n : Int} {a0 : Option Value} {L : List (Option Value)} (hd : decode cc pc = .ok (.iinc 1 n, 3)) (hN : 1 < nL) (hn : nl a0 = true) (hv : Int32.ofInt n = d) (k : KJ G X cc nL ret own nm n0 (pc + 3) (a0 :: some (.int (x + d)) :: L) st nk wd ks) : KJ G X cc nL ret own nm n0 pc (a0 :: some (.int x) :: L) st nk wd ks := by
  subst hv
  intro p e s m args below meth c H locs ls C hm hz hao hP hS hl
  obtain ⟨q, hq⟩ := List.getElem?_of_mem (mem_prs.mpr ⟨1, by simp, rfl⟩ : ((1, Value.int x) : Nat × Value) ∈ prs 0 (a0 :: some (.int x) :: L))
  refine lv_iinc C.1 C.2.1 hd hl hq rfl hN rfl (fun ls hl2 => ?_)
  exact k p e s m args below meth c H locs ls C hm hz hao hP hS (lvp_st1 (lv := a0 :: some (.int x) :: L) (k := 1) (by simp) (fun j hj => by have h9 : j = 0 := (by omega); subst h9; exact hn) hl2)
theorem kj_ldc {idx : Nat} {v : Int32} (hw : Cond.constant own idx v ∈ TW) (hd : decode cc pc = .ok (.ldc idx, 2)) (k : KJ G X cc nL ret own nm n0 (pc + 2) lv (.int v :: st) nk wd ks) : KJ G X cc nL ret own nm n0 pc lv st nk wd ks := by
  intro p e s m args below meth c H locs ls C hm hz hao hP hS hl
  exact lv_ldc C.1 C.2.1 C.2.2.2.2.1 (C.2.2.2.2.2.1 _ hw) hd (k p e s m args below meth c H locs ls C hm hz hao hP hS hl)
def fitK (G : GT) (a b q : Nat) : Prop := 1 ≤ G.2.1.frames ∧ q ≤ G.2.1.locals ∧ a ≤ G.2.1.cells ∧ b ≤ G.2.1.slots
theorem kj_max {idx : Nat} {x z : Int32} (hb : mM own idx Lib.Math.max.name Lib.Math.max.code 2) (hR : fitK G nk ks ((st.map fun v => v.category).sum + 13)) (hd : decode cc pc = .ok (.invokestatic idx, 3)) (k : KJ G X cc nL ret own nm n0 (pc + 3) lv (.int (if x < z then z else x) :: st) nk wd ks) : KJ G X cc nL ret own nm n0 pc lv (.int z :: .int x :: st) nk wd ks := by
  intro p e s m args below meth c H locs ls C hm hz hao hP hS hl
  have hts := C.2.2.2.2.2.1
  exact va_mmax C.1 C.2.1 (by rw [hl.1]; exact C.2.2.2.1) C.2.2.2.2.1 (hts _ hb.1) (hts _ hb.2.1) (hts _ hb.2.2.1) (hts _ hb.2.2.2) hR.1 hR.2.1 hR.2.2.1 hR.2.2.2 hd (k p e s m args below meth c H locs ls C hm hz hao hP hS hl)
theorem kj_get {idx ci j k : Nat} {v : Value} {fs : List Value} (hb : fgA own idx ci j) (hk : k < n0 + nk) (he : wd k = .inr (ci, fs)) (hv : fs[j]? = some v) (hd : decode cc pc = .ok (.getfield idx, 3)) (kk : KJ G X cc nL ret own nm n0 (pc + 3) lv (v :: st) nk wd ks) : KJ G X cc nL ret own nm n0 pc lv (.ref (X.2.2.1 + k) :: st) nk wd ks := by
  intro p e s m args below meth c H locs ls C hm hz hao hP hS hl
  obtain ⟨Cn, T, N, h1, h2, h3, h4⟩ := hb
  exact va_get C.1 C.2.1 C.2.2.2.2.2.1 h2 C.2.2.2.2.1 C.2.2.2.2.2.2.2.1.1 hP k (by rw [wn_get hk, he]) h1 j h3 (C.2.2.2.2.2.1 _ h4) (fun _ h => h) (v := v) hv hd (kk p e s m args below meth c H locs ls C hm hz hao hP hS hl)
theorem kj_put {idx ci j k : Nat} {v : Value} {fs : List Value} {tyf : Nat → FieldType} (hb : fgA own idx ci j) (hT : fpT ci tyf) (hn : narrow (tyf j) v = v) (hfit : fits (tyf j) v = true) (hk : k < n0 + nk) (he : wd k = .inr (ci, fs)) (hl2 : j < fs.length) (hnm : nm = "<init>") (hdc : ∀ C T N, vwCl[ci]? = some (C, T, N) → (T j).1 = own) (hd : decode cc pc = .ok (.putfield idx, 3))
    (kk : KJ G X cc nL ret own nm n0 (pc + 3) lv st nk (va_up wd k (.inr (ci, fs.set j v))) ks) : KJ G X cc nL ret own nm n0 pc lv (v :: .ref (X.2.2.1 + k) :: st) nk wd ks := by
  intro p e s m args below meth c H locs ls C hm hz hao hP hS hl
  obtain ⟨Cn, T, N, h1, h2, h3, h4⟩ := hb
  obtain ⟨Cn', T', N', h1', h5, h6⟩ := hT
  cases h1.symm.trans h1'
  have hc := hdc _ _ _ h1
  rcases hf : (T j).2.2.2 with _ | _
  · refine va_put C.1 C.2.1 C.2.2.2.2.2.1 h2 tyf h5 h6 C.2.2.2.2.1 C.2.2.2.2.2.2.2.1.1 hP wn_D hS k (by rw [wn_get hk, he]) h1 j h3 (C.2.2.2.2.2.1 _ h4) (fun _ h => h) hf (h5 j h3) hn hfit hl2 hd (fun H1 locs1 hP1 _ hS1 => ?_)
    rw [wn_set hk] at hP1
    exact kk p e s m args below meth c H1 locs1 ls C hm hz hao hP1 hS1 hl
  · refine va_putF C.1 C.2.1 C.2.2.2.2.2.1 h2 tyf h5 h6 C.2.2.2.2.1 C.2.2.2.2.2.2.2.1.1 hP wn_D hS k (by rw [wn_get hk, he]) h1 j h3 (C.2.2.2.2.2.1 _ h4) (fun _ h => h) hf (hm.trans hnm) hc (h5 j h3) hn hfit hl2 hd (fun H1 locs1 hP1 _ hS1 => ?_)
    rw [wn_set hk] at hP1
    exact kk p e s m args below meth c H1 locs1 ls C hm hz hao hP1 hS1 hl
def nwA (own : String) (idx ci N : Nat) : Prop := ∃ (C : String) (T : u_T), vwCl[ci]? = some (C, T, N) ∧ (∀ w ∈ u_ws C T N, w ∈ TW) ∧ Cond.classLink own idx C ∈ TW ∧ Cond.instantiable C N ∈ TW ∧ Cond.initialized C ∈ TW
theorem sk_A {X : CX} {s : State} {n0 : Nat} (hz : s.heap.size = X.2.2.1 + n0) : ∀ q : Nat, s.heap.size ≤ q → AA X q := fun q h => by show X.2.2.1 ≤ q; omega
theorem kj_new {idx ci N : Nat} {fs : List Value} {tyf : Nat → FieldType} (hb : nwA own idx ci N) (hT : fpT ci tyf) (hfs : ∀ j, j < N → defaultValue (tyf j) = vp_V fs j) (hR : fitK G (nk + 1) (ks + N) 0) (hd : decode cc pc = .ok (.new idx, 3))
    (kk : KJ G X cc nL ret own nm n0 (pc + 3) lv (.ref (X.2.2.1 + (n0 + nk)) :: st) (nk + 1) (va_up wd (n0 + nk) (.inr (ci, fs))) (ks + N)) : KJ G X cc nL ret own nm n0 pc lv st nk wd ks := by
  intro p e s m args below meth c H locs ls C hm hz hao hP hS hl
  have hts := C.2.2.2.2.2.1
  obtain ⟨Cn, T, h1, h2, h3, h4, h5⟩ := hb
  obtain ⟨Cn', T', N', h1', h6, _⟩ := hT
  cases h1.symm.trans h1'
  refine va_new C.1 C.2.1 hts h2 tyf h6 C.2.2.2.2.1 (hts _ h3) (hts _ h4) (hts _ h5) C.2.2.2.2.2.2.2.1.1 hP wn_D hS (sk_A hz) h1 hfs hR.2.2.1 hR.2.2.2 hd (fun q H1 hP1 hD1 hS1 => W_size (fun hsz => ?_))
  have hq := wn_new hz hsz hP1 hD1
  subst hq
  rw [wn_push] at hP1
  exact kk p e s m args below meth c H1 locs ls C hm hz hao hP1 hS1 hl
theorem ra_id {U : State} {a b : ClassId} {ty : FieldType} (h1 : va_RA U a ty) (h2 : va_RA U b ty) : a = b := by
  cases ty with
  | object _ =>
    obtain ⟨_, _, _, _, _, q1⟩ := h1
    obtain ⟨_, _, _, _, _, q2⟩ := h2
    exact Option.some.inj (q1.symm.trans q2)
  | _ => exact Option.some.inj (Eq.trans (Eq.symm h1) h2)
theorem kj_newi {n : Int32} {N : Nat} (hw : Cond.arrayClass .int ∈ TW) (hn : ¬ n < 0) (hN : n.toNatClampNeg = N) (hbt : N * componentBytes .int ≤ 536870912) (hR : fitK G (nk + 1) (ks + N) 0) (hd : decode cc pc = .ok (.newarray .int, 2))
    (kk : KJ G X cc nL ret own nm n0 (pc + 2) lv (.ref (X.2.2.1 + (n0 + nk)) :: st) (nk + 1) (va_up wd (n0 + nk) (.inl (X.2.1 0, N, .inl (fun _ => 0)))) (ks + N)) : KJ G X cc nL ret own nm n0 pc lv (.int n :: st) nk wd ks := by
  intro p e s m args below meth c H locs ls C hm hz hao hP hS hl
  have hK := C.2.2.2.2.2.2.2.1.1
  refine va_newa (atype := .int) (a0 := (N, .inl (fun _ => 0))) C.1 C.2.1 (C.2.2.2.2.2.1 _ hw) (ty := .int) rfl hK hP wn_D hS (sk_A hz) (fun cA => rfl) hn hN hbt hR.2.2.1 hR.2.2.2 hd (fun q cA H1 hK1 hP1 hD1 hS1 => W_size (fun hsz => ?_))
  have hq := wn_new hz hsz hP1 hD1
  subst hq
  have hc : cA = X.2.1 0 := ra_id (hK1.2 4 _ rfl).2 (hK.2 0 _ rfl).2
  subst hc
  rw [wn_push] at hP1
  exact kk p e s m args below meth c H1 locs ls C hm hz hao hP1 hS1 hl
theorem kj_newl {n : Int32} {N : Nat} (hw : Cond.arrayClass .long ∈ TW) (hn : ¬ n < 0) (hN : n.toNatClampNeg = N) (hbt : N * componentBytes .long ≤ 536870912) (hR : fitK G (nk + 1) (ks + N) 0) (hd : decode cc pc = .ok (.newarray .long, 2))
    (kk : KJ G X cc nL ret own nm n0 (pc + 2) lv (.ref (X.2.2.1 + (n0 + nk)) :: st) (nk + 1) (va_up wd (n0 + nk) (.inl (X.2.1 1, N, .inr (.inl (fun _ => 0))))) (ks + N)) : KJ G X cc nL ret own nm n0 pc lv (.int n :: st) nk wd ks := by
  intro p e s m args below meth c H locs ls C hm hz hao hP hS hl
  have hK := C.2.2.2.2.2.2.2.1.1
  refine va_newa (atype := .long) (a0 := (N, .inr (.inl (fun _ => 0)))) C.1 C.2.1 (C.2.2.2.2.2.1 _ hw) (ty := .long) rfl hK hP wn_D hS (sk_A hz) (fun cA => rfl) hn hN hbt hR.2.2.1 hR.2.2.2 hd (fun q cA H1 hK1 hP1 hD1 hS1 => W_size (fun hsz => ?_))
  have hq := wn_new hz hsz hP1 hD1
  subst hq
  have hc : cA = X.2.1 1 := ra_id (hK1.2 4 _ rfl).2 (hK.2 1 _ rfl).2
  subst hc
  rw [wn_push] at hP1
  exact kk p e s m args below meth c H1 locs ls C hm hz hao hP1 hS1 hl
theorem kj_newq {idx t N : Nat} {n : Int32} {Cn : String} (hcl : Cond.classLink own idx Cn ∈ TW) (hao2 : ∀ U, AO U → va_AO Cn U) (ht : (tysX X)[t]? = some (X.2.1 t, .object Cn)) (hn : ¬ n < 0) (hN : n.toNatClampNeg = N) (hbt : N * 4 ≤ 536870912) (hR : fitK G (nk + 1) (ks + N) 0) (hd : decode cc pc = .ok (.anewarray idx, 3))
    (kk : KJ G X cc nL ret own nm n0 (pc + 3) lv (.ref (X.2.2.1 + (n0 + nk)) :: st) (nk + 1) (va_up wd (n0 + nk) (.inl (X.2.1 t, N, .inr (.inr (.inr (.inr (fun _ => none))))))) (ks + N)) : KJ G X cc nL ret own nm n0 pc lv (.int n :: st) nk wd ks := by
  intro p e s m args below meth c H locs ls C hm hz hao hP hS hl
  have hK := C.2.2.2.2.2.2.2.1.1
  refine va_newq C.1 C.2.1 C.2.2.2.2.1 (C.2.2.2.2.2.1 _ hcl) (hao2 _ hao) hK hP wn_D hS (sk_A hz) hn hN hbt hR.2.2.1 hR.2.2.2 hd (fun q cA H1 hK1 hP1 hD1 hS1 => W_size (fun hsz => ?_))
  have hq := wn_new hz hsz hP1 hD1
  subst hq
  have hc : cA = X.2.1 t := ra_id (hK1.2 4 _ rfl).2 (hK.2 t _ ht).2
  subst hc
  rw [wn_push] at hP1
  exact kk p e s m args below meth c H1 locs ls C hm hz hao hP1 hS1 hl
theorem kj_astq {t k q ci N : Nat} {i : Int32} {r : vw_C} {vs : List Value} {f : Nat → Option Nat} (hk : k < n0 + nk) (he : wd k = .inl (X.2.1 t, N, .inr (.inr (.inr (.inr f))))) (ht : (tysX X)[t]? = some (X.2.1 t, .object r.1)) (hq : q < n0 + nk) (hv : wd q = .inr (ci, vs)) (hc : vwCl[ci]? = some r) (hin : vp_in i N) (hd : decode cc pc = .ok (.aastore, 1))
    (kk : KJ G X cc nL ret own nm n0 (pc + 1) lv st nk (va_up wd k (.inl (X.2.1 t, N, .inr (.inr (.inr (.inr (va_up f i.toNatClampNeg (some (X.2.2.1 + q)))))))) ) ks) : KJ G X cc nL ret own nm n0 pc lv (.ref (X.2.2.1 + q) :: .int i :: .ref (X.2.2.1 + k) :: st) nk wd ks := by
  intro p e s m args below meth c H locs ls C hm hz hao hP hS hl
  refine va_astq C.1 C.2.1 C.2.2.2.2.2.2.2.1.1 hP wn_D hS k t q ci (by rw [wn_get hk, he]) ht (by rw [wn_get hq, hv]) hc hin hd (fun H1 locs1 hP1 _ hS1 => ?_)
  rw [wn_set hk] at hP1
  exact kk p e s m args below meth c H1 locs1 ls C hm hz hao hP1 hS1 hl
theorem kj_iast {k N : Nat} {i x : Int32} {f : Nat → Int32} (hk : k < n0 + nk) (he : wd k = .inl (X.2.1 0, N, .inl f)) (hin : vp_in i N) (hd : decode cc pc = .ok (.iastore, 1)) (kk : KJ G X cc nL ret own nm n0 (pc + 1) lv st nk (va_up wd k (.inl (X.2.1 0, N, .inl (upd f i.toNatClampNeg x)))) ks) : KJ G X cc nL ret own nm n0 pc lv (.int x :: .int i :: .ref (X.2.2.1 + k) :: st) nk wd ks := by
  intro p e s m args below meth c H locs ls C hm hz hao hP hS hl
  refine va_iast C.1 C.2.1 C.2.2.2.2.2.2.2.1.1 hP wn_D hS k 0 (by rw [wn_get hk, he]) rfl hin hd (fun H1 locs1 hP1 _ hS1 => ?_)
  rw [wn_set hk] at hP1
  exact kk p e s m args below meth c H1 locs1 ls C hm hz hao hP1 hS1 hl
def mO (own : String) (idx : Nat) : Prop := Cond.methodLink own idx Lib.objectInit ∈ TW ∧ Cond.instanceMethod Lib.objectInit ∈ TW ∧ Cond.code Lib.objectInit ⟨#[0xb1]⟩ 1 none ∈ TW
theorem kj_obj {idx a : Nat} (hb : mO own idx) (hR : 1 ≤ G.2.1.frames ∧ (st.map fun v => v.category).sum + 12 ≤ G.2.1.locals) (hd : decode cc pc = .ok (.invokespecial idx, 3)) (kk : KJ G X cc nL ret own nm n0 (pc + 3) lv st nk wd ks) : KJ G X cc nL ret own nm n0 pc lv (.ref a :: st) nk wd ks := by
  intro p e s m args below meth c H locs ls C hm hz hao hP hS hl
  have hts := C.2.2.2.2.2.1
  exact W.objInit C.1 C.2.1 C.2.2.2.2.1 (hts _ hb.1) (hts _ hb.2.1) (hts _ hb.2.2) rfl (by rw [C.2.2.2.1]; exact hl.1) rfl hd hR.1 (by simpa using hR.2) (kk p e s m args below meth c H locs ls C hm hz hao hP hS hl)
end KROWS
