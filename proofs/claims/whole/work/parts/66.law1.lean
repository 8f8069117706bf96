/-! the law: rows of the skeleton (a starting text) -/
def R_law : String := "KnotFairLaw"
def lw_P (b : Addr) (xs : List Int32) (args : Array Value) (s : State) : Prop := args = #[.ref b] ∧ s.IntsAt b xs ∧ xs.length ≤ 3072 ∧ (Jvm.Cond.and given_1 narrow_1).before args s = true
def lw_Q (_ : Array Value) (s : State) (o : Outcome) (t : State) : Prop := o = .returned (some (.int 1)) ∧ Framed s o t [] 600000 7302250
def lw_Z (below : List Frame) (a : Array Value) (s : State) : State → Prop := fun t => ∃ o, t.status = .running ∧ Ended t below o ∧ lw_Q a s o t
/-- the law's own end, with 1 on the stack, nothing written that was there before, its room as the claim has it -/
theorem lw_ret {p : Program} {l : Launch} {e : Env} {s : State} {m : MethodId} {below : List Frame} {meth : Method} {c : Code} {b : Nat} (hx : p.tables.exec = Jvm.exec) (hb : c.code = code) (hr : meth.sig.returnType = ret) (hlocks : meth.locks = false) {pc : Nat} {H : Heap} {ls : Array Slot} (hdg : decode code pc = .ok (.ireturn, 1)) : W p l e room_1 s m #[Value.ref b] below meth c H [] 600000 7302250 (lw_Z below #[Value.ref b] s) (F0 m pc ls [.int 1]) := by
  intro T hT X
  obtain ⟨fs, hret, hrun, hended, hW, hframe⟩ := X.leave (v := some (.int 1)) (hlocks := hlocks) (fun h => by rw [hr] at h; cases h)
  have hmeth' : T.vm.method? m = some meth := X.method'
  refine ⟨T.setFrames fs, ?_, .returned (some (.int 1)), hrun, hended, rfl, ⟨_, rfl⟩, hW, hframe⟩
  jvm_step X.here [X.here.top, hx, hb, hdg, hmeth', hr, ret, narrow_b1]
  (try refine ⟨rfl, ?_⟩); (try refine ⟨rfl, ?_⟩)
  first | (intro acts; rw [hret _ acts rfl rfl rfl]) | rw [hret _ _ rfl rfl rfl]
  exact Steps.refl _
/-- what holds at the law's entry: the machine, the code, the tables' words (any of lw_tbl by 'hts w (by decide +kernel)'), the script of L ints xs at the cell b, what the Statement gives of the start (any of its parts by flat_of_before) -/
def lw_At (p : Program) (s : State) (m : MethodId) (meth : Method) (c : Code) (b L : Nat) (xs : Nat → Int32) : Prop :=
  p.tables.exec = Jvm.exec ∧ c.code = code ∧ meth.sig.returnType = ret ∧ c.maxLocals = 4 ∧ s.vm.findClass R_law = some m.cls ∧ (∀ w ∈ lw_tbl, w.before #[Value.ref b] s = true) ∧ va_X b L xs s s.heap ∧ b < s.heap.size ∧ meth.locks = false ∧ (Jvm.Cond.and given_1 narrow_1).before #[Value.ref b] s = true
/-! the law over the light judgement -/
def lwC (X : CX) (b L : Nat) (xs : Nat → Int32) (args : Array Value) (s : State) : Prop := args = #[Value.ref b] ∧ va_X b L xs s s.heap ∧ b < s.heap.size ∧ s.heap.size = X.2.2.1
def GL (l : Launch) (X : CX) (b L : Nat) (xs : Nat → Int32) (k n : Nat) : GT := (l, room_1, (k, n), lwC X b L xs, fun below args s => lw_Z below args s)
theorem lw_out {X : CX} {b L : Nat} {xs : Nat → Int32} {args : Array Value} {s : State} (h : lwC X b L xs args s) : ¬ AA X b := fun q => by
  have h1 := h.2.2.1
  have h2 := h.2.2.2
  have h3 : X.2.2.1 ≤ b := q
  omega
section LAWROWS
variable {l : Launch} {X : CX} {b L k n : Nat} {xs : Nat → Int32} {cc : ByteArray} {nL : Nat} {ret : Option FieldType} {own : String} {pc : Nat} {lv : List (Option Value)} {st : List Value} {σ : ST}
theorem rj_sld {i : Int32} (hin : vp_in i L) (hd : decode cc pc = .ok (.iaload, 1)) (kk : RJ (GL l X b L xs k n) X cc nL ret own (pc + 1) lv (.int (xs i.toNatClampNeg) :: st) σ) : RJ (GL l X b L xs k n) X cc nL ret own pc lv (.int i :: .ref b :: st) σ := by
  intro p e s m args below meth c H locs ls C hP hS hl
  have hc : lwC X b L xs args s := C.2.2.2.2.2.2.2.2
  exact va_sld C.1 C.2.1 hc.2.1 hc.2.2.1 (lw_out hc) hS hin hd (kk p e s m args below meth c H locs ls C hP hS hl)
theorem rj_scl (hd : decode cc pc = .ok (.arraylength, 1)) (kk : RJ (GL l X b L xs k n) X cc nL ret own (pc + 1) lv (.int (nI L) :: st) σ) : RJ (GL l X b L xs k n) X cc nL ret own pc lv (.ref b :: st) σ := by
  intro p e s m args below meth c H locs ls C hP hS hl
  have hc : lwC X b L xs args s := C.2.2.2.2.2.2.2.2
  exact va_slen C.1 C.2.1 hc.2.1 hc.2.2.1 (lw_out hc) hS hd (kk p e s m args below meth c H locs ls C hP hS hl)
end LAWROWS
theorem rj_law1 {l : Launch} {X : CX} {b L k n : Nat} {xs : Nat → Int32} {own : String} {pc : Nat} {lv : List (Option Value)} {σ : ST} (hk : k ≤ 600000) (hn : n ≤ 7302250) (hd : decode cL_law pc = .ok (.ireturn, 1)) : RJ (GL l X b L xs k n) X cL_law 4 ret own pc lv [.int 1] σ := by
  intro p e s m args below meth c H locs ls C hP hS hl
  obtain ⟨rfl, h1, h2, h3⟩ := (show lwC X b L xs args s from C.2.2.2.2.2.2.2.2)
  refine va_forget (fun q hq => ?_) (W.widen hk hn (lw_ret C.1 C.2.1 C.2.2.1 C.2.2.2.2.2.2.1 hd))
  have := hS.2.2 q hq
  rw [h3]
  exact this
theorem fitL {l : Launch} {X : CX} {b L k n : Nat} {xs : Nat → Int32} (hk : k ≤ 600000) (hn : n ≤ 7302250) {h' nL' : Nat} (hh : h' ≤ 100) (hl : nL' ≤ 45) : fitR (GL l X b L xs k n) h' nL' := ⟨⟨by show h' + 1 ≤ 2048; omega, by show 8 + (nL' + 11) + 64 * h' ≤ 84000; omega⟩, hk, hn⟩
theorem mr_sys {σ τ : ST} {A : SA} (h : MR σ A) (ho : off sysP σ τ) : MR τ A := by
  have q : ∀ a, 112 ≤ a → ¬ sysP a := fun a ha hb => by unfold sysP at hb; omega
  unfold MR
  rw [(ho 112 (q _ (by omega))).1, (ho 113 (q _ (by omega))).1, (ho 114 (q _ (by omega))).1, (ho 122 (q _ (by omega))).1, (ho 123 (q _ (by omega))).1, (ho 124 (q _ (by omega))).1, (ho 125 (q _ (by omega))).2, (ho 127 (q _ (by omega))).1]
  exact h
theorem cr_md {σ τ : ST} {fb : Nat} {A : SA} (h : CR σ fb A) (ho : off mdP σ τ) : CR τ fb A := by
  obtain ⟨h1, h2, h3, h4, h5, h6, h7, h8, h9, h10, ⟨a, ha⟩, ⟨b, hb⟩, ⟨c, hc⟩, d, hd⟩ := h
  have q : ∀ a, a < 112 → ¬ mdP a := fun a ha hb => by unfold mdP at hb; omega
  have qf : ∀ b, b = 2 ∨ b = 52 ∨ b = 78 → ∀ a, mdP a → ¬ fairC b a := fun b hb a ha hc => by unfold mdP at ha; unfold fairC at hc; omega
  refine ⟨h1, by rw [(ho 0 (q 0 (by omega))).1]; exact h2, by rw [(ho 0 (q 0 (by omega))).1]; exact h3, fun j hj => by rw [(ho 1 (q 1 (by omega))).1]; exact h4 j hj, h5.off ho (qf _ (by omega)), h6.off ho (qf _ (by omega)), h7.off ho (qf _ (by omega)), ?_, h9.off ho (q _ (by omega)) (q _ (by omega)), fun s hs => (h10 s hs).off ho (q _ (by omega)) (q _ (by omega)), ⟨a, ha.off ho (q _ (by omega)) (q _ (by omega))⟩, ⟨b, hb.off ho (q _ (by omega)) (q _ (by omega))⟩, ⟨c, hc.off ho (q _ (by omega)) (q _ (by omega))⟩, d, hd.off ho (q _ (by omega)) (q _ (by omega))⟩
  rw [(ho 0 (q 0 (by omega))).1]
  rcases h8 with z | ⟨K, z1, z2, z3⟩
  · exact Or.inl z
  · exact Or.inr ⟨K, z1, z2, z3.off ho (qf _ (by omega))⟩
/-- what the two objects hold together -/
def LI (σ : ST) : Prop := ∃ fb A, CR σ fb A ∧ MR σ A ∧ wf A
theorem nI_k {i a : Nat} : nI i + nI a = nI (i + a) := nI_add i a
