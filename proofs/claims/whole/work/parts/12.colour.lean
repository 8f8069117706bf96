/-! colourings: a matrix by p -/
theorem cm_all : ∀ k, k < 129 → kd k = 0 → (kd (k + 1) = 13 ∧ ln (k + 1) = 16) := by decide +kernel
theorem cm_next {k : Nat} (h : kd k = 0) : kd (k + 1) = 13 ∧ ln (k + 1) = 16 := cm_all k (kd_lt (by omega)) h
theorem cm_ro : ∀ k, k < 129 → kd k = 0 → ∀ q, q < 129 → kd q = 2 → (q + 1 < k ∨ k + 1 < q) := by decide +kernel
theorem cm_row {k q : Nat} (h : kd k = 0) (h2 : kd q = 2) : ¬ rowC k q ∧ ¬ rowC k (q + 1) := by
  have := cm_ro k (kd_lt (by omega)) h q (kd_lt (by omega)) h2
  unfold rowC; omega
abbrev Mx : Type := Nat → Nat → Int
def Cm (σ : ST) (k : Nat) (rc p : Int32) (M : Mx) : Prop := σ.1 k 1 = rc ∧ σ.1 k 2 = p ∧ ∀ a b : Nat, (a : Int) < rc.toInt → (b : Int) < rc.toInt → (σ.1 (k + 1) (4 * a + b)).toInt = M a b
def um (M : Mx) (i j : Nat) (v : Int) : Mx := fun a b => if a = i ∧ b = j then v else M a b
theorem Cm.to {σ : ST} {k : Nat} {rc p : Int32} {M M' : Mx} (h : Cm σ k rc p M) (hm : ∀ a b : Nat, (a : Int) < rc.toInt → (b : Int) < rc.toInt → M a b = M' a b) : Cm σ k rc p M' := ⟨h.1, h.2.1, fun a b ha hb => (h.2.2 a b ha hb).trans (hm a b ha hb)⟩
theorem Cm.set {σ : ST} {k i j : Nat} {rc p : Int32} {M : Mx} {x : Int32} (h : Cm σ k rc p M) (hr : rc.toInt ≤ 4) (hi : i < 4) (hj : j < 4) : Cm (ui σ (k + 1) (4 * i + j) x) k rc p (um M i j x.toInt) := by
  obtain ⟨a, b, c⟩ := h
  refine ⟨by rw [ui_ne (by omega)]; exact a, by rw [ui_ne (by omega)]; exact b, fun q r hq hr => ?_⟩
  rw [ui_at]
  unfold um
  by_cases h1 : q = i ∧ r = j
  · rw [if_pos h1, if_pos ⟨rfl, by omega⟩]
  · rw [if_neg h1, if_neg (fun z => h1 (by omega)), c q r hq hr]
/-- Math.floorMod by a number above 0 -/
theorem xor_neg {x y : Int32} (hy : 0 < y.toInt) : (x ^^^ y).toInt < 0 ↔ x.toInt < 0 := by
  have e : ∀ z : Int32, z.toInt < 0 ↔ z.toBitVec.msb = true := fun z => by
    show z.toBitVec.toInt < 0 ↔ _
    rw [BitVec.msb_eq_toInt]; simp
  rw [e, e]
  have hm : y.toBitVec.msb = false := by
    cases q : y.toBitVec.msb with
    | false => rfl
    | true => exact absurd ((e y).mpr q) (by omega)
  rw [Int32.toBitVec_xor, BitVec.msb_xor, hm, Bool.xor_false]
theorem MJ_ofF {l : Launch} {X : CX} {h : Nat} {y : MethodName} {cc : ByteArray} {nL : Nat} {ret : Option FieldType} {av : List Value} {σ : ST} {Q : Option Value → ST → Prop} {own : String} (lv : List (Option Value)) (hy : plainFor y = true) (ho : y.cls = own) (hlen : (lg_sl av).length ≤ nL) (hlv : prs 0 lv = lv_args 0 av)
    (k : RJ (GM l X h Q) X cc nL ret own 0 lv [] σ) : MJ l X h y cc nL ret av σ Q := by
  refine va_MetF (cc := cc) (maxL := nL) (ret := ret) hy rfl ?_
  intro p e s m args below meth c s₁ B hml hv
  obtain ⟨rfl, hA, hP⟩ := hv
  have hts := atoms_spec (ws := Cond.code y cc nL ret :: TW) B.pre
  have hl := lv_entry av (n := nL) hlen
  rw [lg_entry_eq]
  subst ho
  exact k p e s m _ below meth c s.heap [] _ ⟨B.exec, B.bytes, B.returns, hml, findClass_of_methodNamed B.named, fun w hw => hts w (List.mem_cons_of_mem _ hw), B.notSynchronized, hA, trivial⟩ hP va_S.rf (by rw [hlv]; exact hl)
def fmd (x y : Int32) : Int32 := if x.toInt < 0 ∧ ¬ (x - x / y * y) = 0 then x - x / y * y + y else x - x / y * y
theorem fmd_t {x y : Int32} (hy : 0 < y.toInt) : (fmd x y).toInt = x.toInt % y.toInt := by
  have hr := rem_toInt x y
  have hb := tmod_bounds (a := x.toInt) hy
  have hyh := i_hi y
  unfold fmd
  by_cases h : x.toInt < 0 ∧ ¬ (x - x / y * y) = 0
  · have hnp : x.toInt.tmod y.toInt ≤ 0 := by
      have e : x.toInt.tmod y.toInt = -((-x.toInt).tmod y.toInt) := by rw [Int.neg_tmod, Int.neg_neg]
      rw [e, Int.tmod_eq_emod_of_nonneg (by omega)]
      have := Int.emod_nonneg (-x.toInt) (show y.toInt ≠ 0 by omega)
      omega
    rw [if_pos h, i_add (by omega) (by omega), hr]
    have hne : x.toInt.tmod y.toInt ≠ 0 := fun q => h.2 (i_inj (by rw [hr, q, t0]))
    have e1 : x.toInt = y.toInt * x.toInt.tdiv y.toInt + x.toInt.tmod y.toInt := (Int.mul_tdiv_add_tmod x.toInt y.toInt).symm
    have e2 : (x.toInt.tmod y.toInt + y.toInt) % y.toInt = x.toInt.tmod y.toInt + y.toInt := Int.emod_eq_of_lt (by omega) (by omega)
    rw [← e2, Int.add_emod_right]
    conv => rhs; rw [e1]
    rw [Int.mul_add_emod_self_left]
  · rw [if_neg h, hr]
    by_cases hx : x.toInt < 0
    · have h0 : (x - x / y * y) = 0 := Classical.byContradiction (fun q => h ⟨hx, q⟩)
      have h1 : x.toInt.tmod y.toInt = 0 := by rw [← hr, h0, t0]
      have e1 : x.toInt = y.toInt * x.toInt.tdiv y.toInt + x.toInt.tmod y.toInt := (Int.mul_tdiv_add_tmod x.toInt y.toInt).symm
      rw [h1]
      conv => rhs; rw [e1, h1, Int.add_zero]
      rw [Int.mul_emod_right]
    · exact Int.tmod_eq_emod_of_nonneg (by omega)
set_option maxRecDepth 100000 in
theorem c_J9_floorMod {l : Launch} {X : CX} {σ : ST} {x y : Int32} (hy : 0 < y.toInt) : MJ l X 0 yJ9_floorMod_7cf53 cJ9_floorMod_7cf53 3 (some .int) [.int x, .int y] σ (eqI (fmd x y) σ) := by
  refine MJ_ofF (own := RJ9) [some (.int x), some (.int y), none] (by decide +kernel) rfl (Nat.le_of_ble_eq_true rfl) rfl ?_
  refine rj_ild0 dJ9_floorMod_7cf53_0 rfl ?_
  refine rj_ild1 dJ9_floorMod_7cf53_1 rfl ?_
  refine rj_irem dJ9_floorMod_7cf53_2 (fun q => by rw [q, t0] at hy; omega) ?_
  refine rj_ist2 dJ9_floorMod_7cf53_3 (by decide) rfl ?_
  refine rj_ild0 dJ9_floorMod_7cf53_4 rfl ?_
  refine rj_ild1 dJ9_floorMod_7cf53_5 rfl ?_
  refine rj_ixor dJ9_floorMod_7cf53_6 ?_
  refine rj_if_ge (tgt := 18) dJ9_floorMod_7cf53_7 (by decide) (fun h_7 => ?_) (fun h_7 => ?_)
  · have g7 : ¬ x.toInt < 0 := fun q => absurd ((xor_neg hy).mpr q) (by omega)
    refine rj_ild2 dJ9_floorMod_7cf53_18 rfl ?_
    refine rj_iret dJ9_floorMod_7cf53_19 ?_
    unfold fmd
    exact ⟨by rw [if_neg (fun q => g7 q.1)], rfl⟩
  · have g7 := (xor_neg hy).mp h_7
    refine rj_ild2 dJ9_floorMod_7cf53_10 rfl ?_
    refine rj_if_eq (tgt := 18) dJ9_floorMod_7cf53_11 (by decide) (fun h_11 => ?_) (fun h_11 => ?_)
    · refine rj_ild2 dJ9_floorMod_7cf53_18 rfl ?_
      refine rj_iret dJ9_floorMod_7cf53_19 ?_
      unfold fmd
      exact ⟨by rw [if_neg (fun q => q.2 h_11)], rfl⟩
    · refine rj_ild2 dJ9_floorMod_7cf53_14 rfl ?_
      refine rj_ild1 dJ9_floorMod_7cf53_15 rfl ?_
      refine rj_iadd dJ9_floorMod_7cf53_16 ?_
      refine rj_iret dJ9_floorMod_7cf53_17 ?_
      unfold fmd
      exact ⟨by rw [if_pos ⟨g7, h_11⟩], rfl⟩

set_option maxRecDepth 100000 in
theorem c_X0_get {l : Launch} {X : CX} {σ : ST} {k i j : Nat} {rc p : Int32} {M : Mx} (hk : kd k = 0) (hC : Cm σ k rc p M) (hr : rc.toInt ≤ 4) (hi : i < 4) (hj : j < 4) : MJ l X 0 yX0_get cX0_get 4 (some .int) [.ref (ad X k), .int (nI i), .int (nI j)] σ (eqI (σ.1 (k + 1) (4 * i + j)) σ) := by
  refine MJ_of (own := RX0) [some (.ref (ad X k)), some (.int (nI i)), some (.int (nI j)), none] (by decide) rfl (Nat.le_of_ble_eq_true rfl) rfl ?_
  obtain ⟨hka, hkl⟩ := cm_next hk
  have hcap : (nI (ln (k + 1))).toInt = 16 := by rw [hkl]; decide
  have hix : nI i * 4 + nI j = nI (4 * i + j) := by rw [show (4 : Int32) = nI 4 from rfl, pk_mul, nI_add, Nat.mul_comm]
  have hit : (nI (4 * i + j)).toInt = (4 * i + j : Nat) := nI_t (by omega)
  refine rj_ild1 dX0_get_0 rfl ?_
  refine rj_ic4 dX0_get_1 ?_
  refine rj_imul dX0_get_2 ?_
  refine rj_ild2 dX0_get_3 rfl ?_
  refine rj_iadd dX0_get_4 ?_
  rw [hix]
  refine rj_ist3 dX0_get_5 (by decide) rfl ?_
  refine rj_ild3 dX0_get_6 rfl ?_
  refine rj_if_lt (tgt := 28) dX0_get_7 (by decide) (fun h_7 => ?_) (fun h_7 => ?_)
  · exfalso; omega
  · refine rj_ild3 dX0_get_10 rfl ?_
    refine rj_ald0 dX0_get_11 rfl ?_
    refine g0_9 (by first | assumption | rfl) dX0_get_12 ?_
    refine rj_alen (by first | assumption | rfl) dX0_get_15 ?_
    refine rj_ic_ge (tgt := 28) dX0_get_16 (by decide) (fun h_16 => ?_) (fun h_16 => ?_)
    · exfalso; omega
    · refine rj_ald0 dX0_get_19 rfl ?_
      refine g0_9 (by first | assumption | rfl) dX0_get_20 ?_
      refine rj_ild3 dX0_get_23 rfl ?_
      refine rj_iald (by first | assumption | rfl) (vpi (by omega) (by rw [hkl]; omega)) dX0_get_24 ?_
      refine rj_goto (tgt := 29) dX0_get_25 (by decide) ?_
      refine rj_iret dX0_get_29 ?_
      exact ⟨by rw [nI_clamp (by omega)], rfl⟩

set_option maxRecDepth 100000 in
theorem c_X0_set {l : Launch} {X : CX} {σ : ST} {k i j : Nat} {rc p : Int32} {M : Mx} (hk : kd k = 0) (hC : Cm σ k rc p M) (hr : rc.toInt ≤ 4) (hi : i < 4) (hj : j < 4) {v : Int32} (hp : 0 < p.toInt) : MJ l X 1 yX0_set cX0_set 5 none [.ref (ad X k), .int (nI i), .int (nI j), .int v] σ (PV (fun τ => Cm τ k rc p (um M i j (v.toInt % p.toInt)) ∧ off (rowC k) σ τ)) := by
  refine MJ_of (own := RX0) [some (.ref (ad X k)), some (.int (nI i)), some (.int (nI j)), some (.int v), none] (by decide) rfl (Nat.le_of_ble_eq_true rfl) rfl ?_
  obtain ⟨hka, hkl⟩ := cm_next hk
  have hcap : (nI (ln (k + 1))).toInt = 16 := by rw [hkl]; decide
  have hix : nI i * 4 + nI j = nI (4 * i + j) := by rw [show (4 : Int32) = nI 4 from rfl, pk_mul, nI_add, Nat.mul_comm]
  have hit : (nI (4 * i + j)).toInt = (4 * i + j : Nat) := nI_t (by omega)
  have hpp := hC.2.1
  refine rj_ild1 dX0_set_0 rfl ?_
  refine rj_ic4 dX0_set_1 ?_
  refine rj_imul dX0_set_2 ?_
  refine rj_ild2 dX0_set_3 rfl ?_
  refine rj_iadd dX0_set_4 ?_
  rw [hix]
  refine rj_ist4w dX0_set_5 (by decide) rfl ?_
  refine rj_ild dX0_set_7 rfl ?_
  refine rj_if_lt (tgt := 44) dX0_set_9 (by decide) (fun h_9 => ?_) (fun h_9 => ?_)
  · exfalso; omega
  · refine rj_ild dX0_set_12 rfl ?_
    refine rj_ald0 dX0_set_14 rfl ?_
    refine g0_9 (by first | assumption | rfl) dX0_set_15 ?_
    refine rj_alen (by first | assumption | rfl) dX0_set_18 ?_
    refine rj_ic_ge (tgt := 44) dX0_set_19 (by decide) (fun h_19 => ?_) (fun h_19 => ?_)
    · exfalso; omega
    · refine rj_ald0 dX0_set_22 rfl ?_
      refine g0_19 (by first | assumption | rfl) dX0_set_23 ?_
      refine rj_if_le (tgt := 44) dX0_set_26 (by decide) (fun h_26 => ?_) (fun h_26 => ?_)
      · exfalso; rw [hpp] at h_26; omega
      · refine rj_ald0 dX0_set_29 rfl ?_
        refine g0_9 (by first | assumption | rfl) dX0_set_30 ?_
        refine rj_ild dX0_set_33 rfl ?_
        refine rj_ild3 dX0_set_35 rfl ?_
        refine rj_ald0 dX0_set_36 rfl ?_
        refine g0_19 (by first | assumption | rfl) dX0_set_37 ?_
        rw [hpp]
        refine rj_S2i cX0_55 dX0_set_40 (c_J9_floorMod hp) (fitM (by decide) (by decide)) (Nat.le_of_ble_eq_true rfl) ?_
        refine rj_iast (by first | assumption | rfl) (vpi (by omega) (by rw [hkl]; omega)) dX0_set_43 ?_
        refine rj_vret dX0_set_44 ?_
        rw [nI_clamp (by omega), ← fmd_t hp]
        exact ⟨rfl, hC.set hr hi hj, off.rf.ui (Or.inr rfl)⟩

/-- entries of the first rc rows and columns lie in 0 .. p - 1 -/
def inP (rc p : Int32) (M : Mx) : Prop := ∀ a b : Nat, (a : Int) < rc.toInt → (b : Int) < rc.toInt → 0 ≤ M a b ∧ M a b < p.toInt
def crM (p : Int) (c : Int32) (M : Mx) : Mx := fun a b => if a = c.toInt.natAbs - 1 then (if 0 < c.toInt then (2 * M a b - M (a + 1) b) % p else M (a + 1) b) else if a = c.toInt.natAbs then (if 0 < c.toInt then M (a - 1) b else (2 * M a b - M (a - 1) b) % p) else M a b
theorem crM_in {rc p c : Int32} {M : Mx} (hc : okc rc c.toInt) (hp : 0 < p.toInt) (h : inP rc p M) : inP rc p (crM p.toInt c M) := by
  intro a b ha hb
  unfold okc at hc
  unfold crM
  split
  · split
    · exact ⟨Int.emod_nonneg _ (by omega), Int.emod_lt_of_pos _ hp⟩
    · exact h _ _ (by omega) hb
  · split
    · split
      · exact h _ _ (by omega) hb
      · exact ⟨Int.emod_nonneg _ (by omega), Int.emod_lt_of_pos _ hp⟩
    · exact h a b ha hb
set_option maxRecDepth 100000 in
theorem l_X0_cross {l : Launch} {X : CX} {h : Nat} {Q : Option Value → ST → Prop} {σ : ST} {k : Nat} {rc p c : Int32} {M : Mx} (hh : 2 ≤ h) (hk : kd k = 0) (hc : okc rc c.toInt) (hr : rc.toInt ≤ 4) (hp : 0 < p.toInt ∧ p.toInt ≤ 7) (hM : inP rc p M) (hQ : ∀ τ, Cm τ k rc p (crM p.toInt c M) → off (rowC k) σ τ → Q none τ) : ∀ (N i : Nat) (τ : ST) (a4 a5 : Option Value), rc.toInt < i + N → ((i : Int) ≤ rc.toInt ∧ Cm τ k rc p (fun a b => if b < i then crM p.toInt c M a b else M a b) ∧ off (rowC k) σ τ) → RJ (GM l X h Q) X cX0_cross 6 none RX0 21 [some (.ref (ad X k)), some (.int c), some (.int (iab c)), some (.int (nI i)), a4, a5] [] τ := by
  intro N
  induction N with
  | zero => intro i τ a4 a5 hN hi; have := hi.1; exact absurd hN (by omega)
  | succ N ih =>
    intro i τ a4 a5 hN hi
    obtain ⟨hi, hC, ho⟩ := hi
    obtain ⟨hka, hkl⟩ := cm_next hk
    have hrcv := hC.1
    have hit := nIt (i := i) (by omega)
    obtain ⟨i1, i2, i3, i4⟩ := iab_ok hc hr
    obtain ⟨n, hn⟩ : ∃ n, n = c.toInt.natAbs := ⟨_, rfl⟩
    rw [← hn] at i1 i2 i3 i4
    have hin : iab c = nI n := nI_of_toInt i1
    have hin1 : nI n - 1 = nI (n - 1) := by rw [← nI_pred (n - 1), show n - 1 + 1 = n by omega]
    rw [hin]
    have h2t : (2 : Int32).toInt = 2 := by decide
    refine rj_ild3 dX0_cross_21 rfl ?_
    refine rj_ald0 dX0_cross_22 rfl ?_
    refine g0_15 (by first | assumption | rfl) dX0_cross_23 ?_
    refine rj_ic_ge (tgt := 106) dX0_cross_26 (by decide) (fun h_26 => ?_) (fun h_26 => ?_)
    · rw [hrcv] at h_26
      refine rj_vret dX0_cross_106 ?_
      exact hQ τ (hC.to (fun a b ha hb => if_pos (by omega))) ho
    · rw [hrcv] at h_26
      refine rj_ald0 dX0_cross_29 rfl ?_
      refine rj_ild2 dX0_cross_30 rfl ?_
      refine rj_ic1 dX0_cross_31 ?_
      refine rj_isub dX0_cross_32 ?_
      rw [hin1]
      refine rj_ild3 dX0_cross_33 rfl ?_
      refine rj_V2i (ci := 0) cX0_48 rfl (by decide) (by first | assumption | rfl) dX0_cross_34 (c_X0_get hk hC hr (i := n - 1) (j := i) (by omega) (by omega)) (fitM (by omega) (by decide)) (Nat.le_of_ble_eq_true rfl) ?_
      have hl := hC.2.2 (n - 1) i (by omega) (by omega)
      have hq := hC.2.2 n i (by omega) (by omega)
      simp only [Nat.lt_irrefl, if_false] at hl hq
      have bl := hM (n - 1) i (by omega) (by omega)
      have bq := hM n i (by omega) (by omega)
      generalize τ.1 (k + 1) (4 * (n - 1) + i) = xl at hl ⊢
      refine rj_ist4w dX0_cross_37 (by decide) rfl ?_
      refine rj_ald0 dX0_cross_39 rfl ?_
      refine rj_ild2 dX0_cross_40 rfl ?_
      refine rj_ild3 dX0_cross_41 rfl ?_
      refine rj_V2i (ci := 0) cX0_48 rfl (by decide) (by first | assumption | rfl) dX0_cross_42 (c_X0_get hk hC hr (i := n) (j := i) (by omega) (by omega)) (fitM (by omega) (by decide)) (Nat.le_of_ble_eq_true rfl) ?_
      generalize τ.1 (k + 1) (4 * n + i) = xq at hq ⊢
      refine rj_ist5w dX0_cross_45 (by decide) rfl ?_
      refine rj_ild1 dX0_cross_47 rfl ?_
      refine rj_if_le (tgt := 77) dX0_cross_48 (by decide) (fun h_48 => ?_) (fun h_48 => ?_)
      · refine rj_ald0 dX0_cross_77 rfl ?_
        refine rj_ild2 dX0_cross_78 rfl ?_
        refine rj_ic1 dX0_cross_79 ?_
        refine rj_isub dX0_cross_80 ?_
        rw [hin1]
        refine rj_ild3 dX0_cross_81 rfl ?_
        refine rj_ild dX0_cross_82 rfl ?_
        refine rj_V3 (ci := 0) cX0_31 rfl (by decide) (by first | assumption | rfl) dX0_cross_84 (c_X0_set hk hC hr (i := n - 1) (j := i) (by omega) (by omega) hp.1) (fitM (by omega) (by decide)) (Nat.le_of_ble_eq_true rfl) ?_
        rintro v υ ⟨rfl, hC1, ho1⟩
        simp only [Option.toList, List.nil_append]
        refine rj_ald0 dX0_cross_87 rfl ?_
        refine rj_ild2 dX0_cross_88 rfl ?_
        refine rj_ild3 dX0_cross_89 rfl ?_
        refine rj_ic2 dX0_cross_90 ?_
        refine rj_ild dX0_cross_91 rfl ?_
        refine rj_imul dX0_cross_93 ?_
        refine rj_ild dX0_cross_94 rfl ?_
        refine rj_isub dX0_cross_96 ?_
        refine rj_V3 (ci := 0) cX0_31 rfl (by decide) (by first | assumption | rfl) dX0_cross_97 (c_X0_set hk hC1 hr (i := n) (j := i) (by omega) (by omega) hp.1) (fitM (by omega) (by decide)) (Nat.le_of_ble_eq_true rfl) ?_
        rintro v φ ⟨rfl, hC2, ho2⟩
        simp only [Option.toList, List.nil_append]
        refine rj_iinc3 (d := 1) dX0_cross_100 (by decide) rfl (by decide) ?_
        rw [nI_1]
        refine rj_goto (tgt := 21) dX0_cross_103 (by decide) ?_
        refine hin ▸ ih (i + 1) φ _ _ (by omega) ⟨by omega, hC2.to (fun a b ha hb => ?_), (ho.tr ho1).tr ho2⟩
        have em : ((2 : Int32) * xq - xl).toInt = 2 * M n i - M (n - 1) i := by
          have e0 : ((2 : Int32) * xq).toInt = 2 * M n i := by rw [Int32.toInt_mul, h2t, bm_id (by omega) (by omega), hq]
          rw [i_sub (by omega) (by omega), e0, hl]
        rw [em, hq]
        unfold um crM
        dsimp only
        rw [← hn]
        by_cases hbi : b = i
        · subst hbi
          rw [if_pos (show b < b + 1 by omega)]
          by_cases h1 : a = n
          · subst h1
            rw [if_pos ⟨rfl, rfl⟩, if_neg (by omega), if_pos rfl, if_neg (by omega)]
            try rfl
          · rw [if_neg (fun z => h1 z.1)]
            by_cases h2 : a = n - 1
            · subst h2
              rw [if_pos ⟨rfl, rfl⟩, if_pos rfl, if_neg (by omega), show n - 1 + 1 = n by omega]
              exact Int.emod_eq_of_lt (by omega) (by omega)
            · rw [if_neg (fun z => h2 z.1), if_neg (by omega), if_neg h2, if_neg h1]
        · rw [if_neg (fun z => hbi z.2), if_neg (fun z => hbi z.2)]
          by_cases hlt : b < i
          · rw [if_pos hlt, if_pos (show b < i + 1 by omega)]
          · rw [if_neg hlt, if_neg (by omega)]
      · refine rj_ald0 dX0_cross_51 rfl ?_
        refine rj_ild2 dX0_cross_52 rfl ?_
        refine rj_ic1 dX0_cross_53 ?_
        refine rj_isub dX0_cross_54 ?_
        rw [hin1]
        refine rj_ild3 dX0_cross_55 rfl ?_
        refine rj_ic2 dX0_cross_56 ?_
        refine rj_ild dX0_cross_57 rfl ?_
        refine rj_imul dX0_cross_59 ?_
        refine rj_ild dX0_cross_60 rfl ?_
        refine rj_isub dX0_cross_62 ?_
        refine rj_V3 (ci := 0) cX0_31 rfl (by decide) (by first | assumption | rfl) dX0_cross_63 (c_X0_set hk hC hr (i := n - 1) (j := i) (by omega) (by omega) hp.1) (fitM (by omega) (by decide)) (Nat.le_of_ble_eq_true rfl) ?_
        rintro v υ ⟨rfl, hC1, ho1⟩
        simp only [Option.toList, List.nil_append]
        refine rj_ald0 dX0_cross_66 rfl ?_
        refine rj_ild2 dX0_cross_67 rfl ?_
        refine rj_ild3 dX0_cross_68 rfl ?_
        refine rj_ild dX0_cross_69 rfl ?_
        refine rj_V3 (ci := 0) cX0_31 rfl (by decide) (by first | assumption | rfl) dX0_cross_71 (c_X0_set hk hC1 hr (i := n) (j := i) (by omega) (by omega) hp.1) (fitM (by omega) (by decide)) (Nat.le_of_ble_eq_true rfl) ?_
        rintro v φ ⟨rfl, hC2, ho2⟩
        simp only [Option.toList, List.nil_append]
        refine rj_goto (tgt := 100) dX0_cross_74 (by decide) ?_
        refine rj_iinc3 (d := 1) dX0_cross_100 (by decide) rfl (by decide) ?_
        rw [nI_1]
        refine rj_goto (tgt := 21) dX0_cross_103 (by decide) ?_
        refine hin ▸ ih (i + 1) φ _ _ (by omega) ⟨by omega, hC2.to (fun a b ha hb => ?_), (ho.tr ho1).tr ho2⟩
        have em : ((2 : Int32) * xl - xq).toInt = 2 * M (n - 1) i - M n i := by
          have e0 : ((2 : Int32) * xl).toInt = 2 * M (n - 1) i := by rw [Int32.toInt_mul, h2t, bm_id (by omega) (by omega), hl]
          rw [i_sub (by omega) (by omega), e0, hq]
        rw [em, hl]
        unfold um crM
        dsimp only
        rw [← hn]
        by_cases hbi : b = i
        · subst hbi
          rw [if_pos (show b < b + 1 by omega)]
          by_cases h1 : a = n
          · subst h1
            rw [if_pos ⟨rfl, rfl⟩, if_neg (by omega), if_pos rfl, if_pos (by omega)]
            exact Int.emod_eq_of_lt (by omega) (by omega)
          · rw [if_neg (fun z => h1 z.1)]
            by_cases h2 : a = n - 1
            · subst h2
              rw [if_pos ⟨rfl, rfl⟩, if_pos rfl, if_pos (by omega), show n - 1 + 1 = n by omega]
              try rfl
            · rw [if_neg (fun z => h2 z.1), if_neg (by omega), if_neg h2, if_neg h1]
        · rw [if_neg (fun z => hbi z.2), if_neg (fun z => hbi z.2)]
          by_cases hlt : b < i
          · rw [if_pos hlt, if_pos (show b < i + 1 by omega)]
          · rw [if_neg hlt, if_neg (by omega)]

set_option maxRecDepth 100000 in
theorem c_X0_cross {l : Launch} {X : CX} {σ : ST} {k : Nat} {rc p c : Int32} {M : Mx} (hk : kd k = 0) (hC : Cm σ k rc p M) (hc : okc rc c.toInt) (hr : rc.toInt ≤ 4) (hp : 0 < p.toInt ∧ p.toInt ≤ 7) (hM : inP rc p M) : MJ l X 2 yX0_cross cX0_cross 6 none [.ref (ad X k), .int c] σ (PV (fun τ => Cm τ k rc p (crM p.toInt c M) ∧ off (rowC k) σ τ)) := by
  refine MJ_of (own := RX0) [some (.ref (ad X k)), some (.int c), none, none, none, none] (by decide) rfl (Nat.le_of_ble_eq_true rfl) rfl ?_
  obtain ⟨i1, i2, i3, i4⟩ := iab_ok hc hr
  have hrcv := hC.1
  refine rj_ild1 dX0_cross_0 rfl ?_
  refine rj_abs cX0_58 (fitNM (by decide) (Nat.le_of_ble_eq_true rfl)) dX0_cross_1 ?_
  refine rj_top (x' := iab c) rfl ?_
  refine rj_ist2 dX0_cross_4 (by decide) rfl ?_
  refine rj_ild2 dX0_cross_5 rfl ?_
  refine rj_ic1 dX0_cross_6 ?_
  refine rj_ic_lt (tgt := 18) dX0_cross_7 (by decide) (fun h_7 => ?_) (fun h_7 => ?_)
  · exfalso; rw [t1] at h_7; omega
  · refine rj_ild2 dX0_cross_10 rfl ?_
    refine rj_ald0 dX0_cross_11 rfl ?_
    refine g0_15 (by first | assumption | rfl) dX0_cross_12 ?_
    refine rj_ic_lt (tgt := 19) dX0_cross_15 (by decide) (fun h_15 => ?_) (fun h_15 => ?_)
    · refine rj_ic0 dX0_cross_19 ?_
      refine rj_ist3 dX0_cross_20 (by decide) rfl ?_
      refine l_X0_cross (by decide) hk hc hr hp hM (fun τ h1 h2 => ⟨rfl, h1, h2⟩) 5 0 σ _ _ (by omega) ⟨by omega, hC.to (fun a b ha hb => by rw [if_neg (by omega)]), off.rf⟩
    · exfalso; rw [hrcv] at h_15; omega

/-! ranks -/
def swM (x y : Nat) (M : Mx) : Mx := fun a b => if a = x then M y b else if a = y then M x b else M a b
def clM (p : Int) (t k : Nat) (M : Mx) : Mx := fun a b => if t < a then (M a b * M t k - M t b * M a k) % p else M a b
def pv (M : Mx) (k : Nat) : Nat → Nat → Option Nat
  | 0, _ => none
  | n + 1, a => if M a k = 0 then pv M k n (a + 1) else some a
def rkS (n : Nat) (p : Int) (st : Mx × Nat) (k : Nat) : Mx × Nat := match pv st.1 k (n - st.2) st.2 with
  | none => st
  | some a => (clM p st.2 k (swM st.2 a st.1), st.2 + 1)
def rkF (n : Nat) (p : Int) (M : Mx) (i : Nat) : Mx × Nat := (List.range i).foldl (rkS n p) (M, 0)
theorem rkF_succ (n : Nat) (p : Int) (M : Mx) (i : Nat) : rkF n p M (i + 1) = rkS n p (rkF n p M i) i := by simp [rkF, List.range_succ]
theorem pv_in {M : Mx} {k : Nat} : ∀ {n a x : Nat}, pv M k n a = some x → a ≤ x ∧ x < a + n ∧ M x k ≠ 0
  | 0, a, x, h => by simp [pv] at h
  | n + 1, a, x, h => by
    rw [pv] at h
    by_cases q : M a k = 0
    · rw [if_pos q] at h
      have := pv_in h
      omega
    · rw [if_neg q] at h
      cases h
      exact ⟨Nat.le_refl _, by omega, q⟩
theorem swM_in {rc p : Int32} {M : Mx} {x y : Nat} (hx : (x : Int) < rc.toInt) (hy : (y : Int) < rc.toInt) (h : inP rc p M) : inP rc p (swM x y M) := by
  intro a b ha hb
  unfold swM
  split
  · exact h _ _ hy hb
  · split
    · exact h _ _ hx hb
    · exact h a b ha hb
theorem clM_in {rc p : Int32} {M : Mx} {t k : Nat} (hp : 0 < p.toInt) (h : inP rc p M) : inP rc p (clM p.toInt t k M) := by
  intro a b ha hb
  unfold clM
  split
  · exact ⟨Int.emod_nonneg _ (by omega), Int.emod_lt_of_pos _ hp⟩
  · exact h a b ha hb
theorem rkF_ok {rc p : Int32} {M : Mx} (hp : 0 < p.toInt) (h : inP rc p M) : ∀ i, inP rc p (rkF rc.toInt.toNat p.toInt M i).1 ∧ (rkF rc.toInt.toNat p.toInt M i).2 ≤ i ∧ ((rkF rc.toInt.toNat p.toInt M i).2 : Int) ≤ rc.toInt.toNat := by
  intro i
  induction i with
  | zero => exact ⟨h, Nat.le_refl _, by simp [rkF]⟩
  | succ i ih =>
    rw [rkF_succ]
    unfold rkS
    generalize rkF rc.toInt.toNat p.toInt M i = st at ih
    cases hq : pv st.1 i (rc.toInt.toNat - st.2) st.2 with
    | none => exact ⟨ih.1, by dsimp only; omega, ih.2.2⟩
    | some a =>
      have := pv_in hq
      exact ⟨clM_in hp (swM_in (by omega) (by omega) ih.1), by dsimp only; omega, by dsimp only; omega⟩
set_option maxRecDepth 100000 in
theorem l_X0_pivotFrom {l : Launch} {X : CX} {h : Nat} {Q : Option Value → ST → Prop} {σ : ST} {k f j : Nat} {rc p : Int32} {M : Mx} (hh : 1 ≤ h) (hk : kd k = 0) (hC : Cm σ k rc p M) (hr : 2 ≤ rc.toInt ∧ rc.toInt ≤ 4) (hj : (j : Int) < rc.toInt) (hQ : Q (some (.int (match pv M j (rc.toInt.toNat - f) f with | none => -1 | some a => nI a))) σ) : ∀ (N i : Nat), rc.toInt < i + N → ((i : Int) ≤ rc.toInt ∧ pv M j (rc.toInt.toNat - f) f = pv M j (rc.toInt.toNat - i) i) → RJ (GM l X h Q) X cX0_pivotFrom 4 (some .int) RX0 2 [some (.ref (ad X k)), some (.int (nI f)), some (.int (nI j)), some (.int (nI i))] [] σ := by
  intro N
  induction N with
  | zero => intro i hN hi; have := hi.1; exact absurd hN (by omega)
  | succ N ih =>
    intro i hN hi
    obtain ⟨hi, he⟩ := hi
    obtain ⟨hka, hkl⟩ := cm_next hk
    have hrcv := hC.1
    have hit := nIt (i := i) (by omega)
    refine rj_ild3 dX0_pivotFrom_2 rfl ?_
    refine rj_ald0 dX0_pivotFrom_3 rfl ?_
    refine g0_15 (by first | assumption | rfl) dX0_pivotFrom_4 ?_
    refine rj_ic_ge (tgt := 27) dX0_pivotFrom_7 (by decide) (fun h_7 => ?_) (fun h_7 => ?_)
    · rw [hrcv] at h_7
      refine rj_icm1 dX0_pivotFrom_27 ?_
      refine rj_iret dX0_pivotFrom_28 ?_
      rw [show rc.toInt.toNat - i = 0 by omega, pv] at he
      rw [he] at hQ
      exact hQ
    · rw [hrcv] at h_7
      refine rj_ald0 dX0_pivotFrom_10 rfl ?_
      refine rj_ild3 dX0_pivotFrom_11 rfl ?_
      refine rj_ild2 dX0_pivotFrom_12 rfl ?_
      refine rj_V2i (ci := 0) cX0_48 rfl (by decide) (by first | assumption | rfl) dX0_pivotFrom_13 (c_X0_get hk hC hr.2 (i := i) (j := j) (by omega) (by omega)) (fitM (by omega) (by decide)) (Nat.le_of_ble_eq_true rfl) ?_
      have hv := hC.2.2 i j (by omega) hj
      refine rj_if_eq (tgt := 21) dX0_pivotFrom_16 (by decide) (fun h_16 => ?_) (fun h_16 => ?_)
      · rw [h_16, t0] at hv
        rw [show rc.toInt.toNat - i = (rc.toInt.toNat - (i + 1)) + 1 by omega, pv, if_pos hv.symm] at he
        refine rj_iinc3 (d := 1) dX0_pivotFrom_21 (by decide) rfl (by decide) ?_
        rw [nI_1]
        refine rj_goto (tgt := 2) dX0_pivotFrom_24 (by decide) ?_
        exact ih (i + 1) (by omega) ⟨by omega, he⟩
      · have hz : ¬ M i j = 0 := fun q => h_16 (i_inj (by rw [hv, q, t0]))
        rw [show rc.toInt.toNat - i = (rc.toInt.toNat - (i + 1)) + 1 by omega, pv, if_neg hz] at he
        refine rj_ild3 dX0_pivotFrom_19 rfl ?_
        refine rj_iret dX0_pivotFrom_20 ?_
        rw [he] at hQ
        exact hQ

set_option maxRecDepth 100000 in
theorem c_X0_pivotFrom {l : Launch} {X : CX} {σ : ST} {k : Nat} {rc p : Int32} {M : Mx} (hk : kd k = 0) (hC : Cm σ k rc p M) (hr : 2 ≤ rc.toInt ∧ rc.toInt ≤ 4) {f j : Nat} (hj : (j : Int) < rc.toInt) (hf : (f : Int) ≤ rc.toInt) : MJ l X 1 yX0_pivotFrom cX0_pivotFrom 4 (some .int) [.ref (ad X k), .int (nI f), .int (nI j)] σ (eqI (match pv M j (rc.toInt.toNat - f) f with | none => -1 | some a => nI a) σ) := by
  refine MJ_of (own := RX0) [some (.ref (ad X k)), some (.int (nI f)), some (.int (nI j)), none] (by decide) rfl (Nat.le_of_ble_eq_true rfl) rfl ?_
  refine rj_ild1 dX0_pivotFrom_0 rfl ?_
  refine rj_ist3 dX0_pivotFrom_1 (by decide) rfl ?_
  exact l_X0_pivotFrom (by decide) hk hC hr hj ⟨rfl, rfl⟩ 5 f (by omega) ⟨hf, rfl⟩

set_option maxRecDepth 100000 in
theorem l_X0_swap {l : Launch} {X : CX} {h : Nat} {Q : Option Value → ST → Prop} {σ : ST} {k x y : Nat} {rc p : Int32} {M : Mx} (hh : 2 ≤ h) (hk : kd k = 0) (hr : 2 ≤ rc.toInt ∧ rc.toInt ≤ 4) (hp : 0 < p.toInt ∧ p.toInt ≤ 7) (hM : inP rc p M) (hx : (x : Int) < rc.toInt) (hy : (y : Int) < rc.toInt) (hQ : ∀ τ, Cm τ k rc p (swM x y M) → off (rowC k) σ τ → Q none τ) : ∀ (N i : Nat) (τ : ST) (a4 : Option Value), rc.toInt < i + N → ((i : Int) ≤ rc.toInt ∧ Cm τ k rc p (fun a b => if b < i then swM x y M a b else M a b) ∧ off (rowC k) σ τ) → RJ (GM l X h Q) X cX0_swap 5 none RX0 2 [some (.ref (ad X k)), some (.int (nI x)), some (.int (nI y)), some (.int (nI i)), a4] [] τ := by
  intro N
  induction N with
  | zero => intro i τ a4 hN hi; have := hi.1; exact absurd hN (by omega)
  | succ N ih =>
    intro i τ a4 hN hi
    obtain ⟨hi, hC, ho⟩ := hi
    obtain ⟨hka, hkl⟩ := cm_next hk
    have hrcv := hC.1
    have hit := nIt (i := i) (by omega)
    refine rj_ild3 dX0_swap_2 rfl ?_
    refine rj_ald0 dX0_swap_3 rfl ?_
    refine g0_15 (by first | assumption | rfl) dX0_swap_4 ?_
    refine rj_ic_ge (tgt := 44) dX0_swap_7 (by decide) (fun h_7 => ?_) (fun h_7 => ?_)
    · rw [hrcv] at h_7
      refine rj_vret dX0_swap_44 ?_
      exact hQ τ (hC.to (fun a b ha hb => if_pos (by omega))) ho
    · rw [hrcv] at h_7
      refine rj_ald0 dX0_swap_10 rfl ?_
      refine rj_ild1 dX0_swap_11 rfl ?_
      refine rj_ild3 dX0_swap_12 rfl ?_
      refine rj_V2i (ci := 0) cX0_48 rfl (by decide) (by first | assumption | rfl) dX0_swap_13 (c_X0_get hk hC hr.2 (i := x) (j := i) (by omega) (by omega)) (fitM (by omega) (by decide)) (Nat.le_of_ble_eq_true rfl) ?_
      have hl := hC.2.2 x i hx (by omega)
      have hq := hC.2.2 y i hy (by omega)
      simp only [Nat.lt_irrefl, if_false] at hl hq
      have bl := hM x i hx (by omega)
      have bq := hM y i hy (by omega)
      refine rj_ist4w dX0_swap_16 (by decide) rfl ?_
      refine rj_ald0 dX0_swap_18 rfl ?_
      refine rj_ild1 dX0_swap_19 rfl ?_
      refine rj_ild3 dX0_swap_20 rfl ?_
      refine rj_ald0 dX0_swap_21 rfl ?_
      refine rj_ild2 dX0_swap_22 rfl ?_
      refine rj_ild3 dX0_swap_23 rfl ?_
      refine rj_V2i (ci := 0) cX0_48 rfl (by decide) (by first | assumption | rfl) dX0_swap_24 (c_X0_get hk hC hr.2 (i := y) (j := i) (by omega) (by omega)) (fitM (by omega) (by decide)) (Nat.le_of_ble_eq_true rfl) ?_
      refine rj_V3 (ci := 0) cX0_31 rfl (by decide) (by first | assumption | rfl) dX0_swap_27 (c_X0_set hk hC hr.2 (i := x) (j := i) (by omega) (by omega) hp.1) (fitM (by omega) (by decide)) (Nat.le_of_ble_eq_true rfl) ?_
      rintro v υ ⟨rfl, hC1, ho1⟩
      simp only [Option.toList, List.nil_append]
      refine rj_ald0 dX0_swap_30 rfl ?_
      refine rj_ild2 dX0_swap_31 rfl ?_
      refine rj_ild3 dX0_swap_32 rfl ?_
      refine rj_ild dX0_swap_33 rfl ?_
      refine rj_V3 (ci := 0) cX0_31 rfl (by decide) (by first | assumption | rfl) dX0_swap_35 (c_X0_set hk hC1 hr.2 (i := y) (j := i) (by omega) (by omega) hp.1) (fitM (by omega) (by decide)) (Nat.le_of_ble_eq_true rfl) ?_
      rintro v φ ⟨rfl, hC2, ho2⟩
      simp only [Option.toList, List.nil_append]
      refine rj_iinc3 (d := 1) dX0_swap_38 (by decide) rfl (by decide) ?_
      rw [nI_1]
      refine rj_goto (tgt := 2) dX0_swap_41 (by decide) ?_
      refine ih (i + 1) φ _ (by omega) ⟨by omega, hC2.to (fun a b ha hb => ?_), (ho.tr ho1).tr ho2⟩
      rw [hl, hq, Int.emod_eq_of_lt bl.1 bl.2, Int.emod_eq_of_lt bq.1 bq.2]
      unfold um swM
      dsimp only
      by_cases hbi : b = i
      · subst hbi
        rw [if_pos (show b < b + 1 by omega)]
        by_cases h1 : a = y
        · subst h1
          rw [if_pos ⟨rfl, rfl⟩]
          by_cases h2 : a = x
          · rw [if_pos h2, h2]
          · rw [if_neg h2, if_pos rfl]
        · rw [if_neg (fun z => h1 z.1)]
          by_cases h2 : a = x
          · rw [if_pos ⟨h2, rfl⟩, if_pos h2]
          · rw [if_neg (fun z => h2 z.1), if_neg (by omega), if_neg h2, if_neg h1]
      · rw [if_neg (fun z => hbi z.2), if_neg (fun z => hbi z.2)]
        by_cases hlt : b < i
        · rw [if_pos hlt, if_pos (show b < i + 1 by omega)]
        · rw [if_neg hlt, if_neg (by omega)]

set_option maxRecDepth 100000 in
theorem c_X0_swap {l : Launch} {X : CX} {σ : ST} {k : Nat} {rc p : Int32} {M : Mx} (hk : kd k = 0) (hC : Cm σ k rc p M) (hr : 2 ≤ rc.toInt ∧ rc.toInt ≤ 4) {x y : Nat} (hp : 0 < p.toInt ∧ p.toInt ≤ 7) (hM : inP rc p M) (hx : (x : Int) < rc.toInt) (hy : (y : Int) < rc.toInt) : MJ l X 2 yX0_swap cX0_swap 5 none [.ref (ad X k), .int (nI x), .int (nI y)] σ (PV (fun τ => Cm τ k rc p (swM x y M) ∧ off (rowC k) σ τ)) := by
  refine MJ_of (own := RX0) [some (.ref (ad X k)), some (.int (nI x)), some (.int (nI y)), none, none] (by decide) rfl (Nat.le_of_ble_eq_true rfl) rfl ?_
  refine rj_ic0 dX0_swap_0 ?_
  refine rj_ist3 dX0_swap_1 (by decide) rfl ?_
  exact l_X0_swap (by decide) hk hr hp hM hx hy (fun τ h1 h2 => ⟨rfl, h1, h2⟩) 5 0 σ _ (by omega) ⟨by omega, hC.to (fun a b ha hb => by rw [if_neg (by omega)]), off.rf⟩

set_option maxRecDepth 100000 in
theorem l_X0_clearI {l : Launch} {X : CX} {h : Nat} {Q : Option Value → ST → Prop} {σ : ST} {k t j q : Nat} {rc p hd ld : Int32} {M : Mx} (hh : 2 ≤ h) (hk : kd k = 0) (hr : 2 ≤ rc.toInt ∧ rc.toInt ≤ 4) (hp : 0 < p.toInt ∧ p.toInt ≤ 7) (hM : inP rc p M) (ht : (t : Int) < rc.toInt) (hq : (q : Int) < rc.toInt) (hne : t ≠ q) (hhd : 0 ≤ hd.toInt ∧ hd.toInt < 7) (hld : 0 ≤ ld.toInt ∧ ld.toInt < 7) (hQ : ∀ τ a6, Cm τ k rc p (fun a b => if a = q then (M a b * hd.toInt - M t b * ld.toInt) % p.toInt else M a b) → off (rowC k) σ τ → RJ (GM l X h Q) X cX0_clearBelow 7 none RX0 77 [some (.ref (ad X k)), some (.int (nI t)), some (.int (nI j)), some (.int hd), some (.int (nI q)), some (.int ld), a6] [] τ) : ∀ (N i : Nat) (τ : ST), rc.toInt < i + N → ((i : Int) ≤ rc.toInt ∧ Cm τ k rc p (fun a b => if b < i ∧ a = q then (M a b * hd.toInt - M t b * ld.toInt) % p.toInt else M a b) ∧ off (rowC k) σ τ) → RJ (GM l X h Q) X cX0_clearBelow 7 none RX0 33 [some (.ref (ad X k)), some (.int (nI t)), some (.int (nI j)), some (.int hd), some (.int (nI q)), some (.int ld), some (.int (nI i))] [] τ := by
  intro N
  induction N with
  | zero => intro i τ hN hi; have := hi.1; exact absurd hN (by omega)
  | succ N ih =>
    intro i τ hN hi
    obtain ⟨hi, hC, ho⟩ := hi
    obtain ⟨hka, hkl⟩ := cm_next hk
    have hrcv := hC.1
    have hit := nIt (i := i) (by omega)
    refine rj_ild dX0_clearBelow_33 rfl ?_
    refine rj_ald0 dX0_clearBelow_35 rfl ?_
    refine g0_15 (by first | assumption | rfl) dX0_clearBelow_36 ?_
    refine rj_ic_ge (tgt := 77) dX0_clearBelow_39 (by decide) (fun h_39 => ?_) (fun h_39 => ?_)
    · rw [hrcv] at h_39
      exact hQ τ _ (hC.to (fun a b ha hb => by by_cases z : a = q; rw [if_pos ⟨by omega, z⟩, if_pos z]; rw [if_neg (fun y => z y.2), if_neg z])) ho
    · rw [hrcv] at h_39
      refine rj_ald0 dX0_clearBelow_42 rfl ?_
      refine rj_ild dX0_clearBelow_43 rfl ?_
      refine rj_ild dX0_clearBelow_45 rfl ?_
      refine rj_ald0 dX0_clearBelow_47 rfl ?_
      refine rj_ild dX0_clearBelow_48 rfl ?_
      refine rj_ild dX0_clearBelow_50 rfl ?_
      refine rj_V2i (ci := 0) cX0_48 rfl (by decide) (by first | assumption | rfl) dX0_clearBelow_52 (c_X0_get hk hC hr.2 (i := q) (j := i) (by omega) (by omega)) (fitM (by omega) (by decide)) (Nat.le_of_ble_eq_true rfl) ?_
      have hl := hC.2.2 q i hq (by omega)
      have hm := hC.2.2 t i ht (by omega)
      dsimp only at hl hm
      rw [if_neg (by omega)] at hl hm
      have bl := hM q i hq (by omega)
      have bm := hM t i ht (by omega)
      generalize τ.1 (k + 1) (4 * q + i) = xl at hl ⊢
      refine rj_ild3 dX0_clearBelow_55 rfl ?_
      refine rj_imul dX0_clearBelow_56 ?_
      refine rj_ald0 dX0_clearBelow_57 rfl ?_
      refine rj_ild1 dX0_clearBelow_58 rfl ?_
      refine rj_ild dX0_clearBelow_59 rfl ?_
      refine rj_V2i (ci := 0) cX0_48 rfl (by decide) (by first | assumption | rfl) dX0_clearBelow_61 (c_X0_get hk hC hr.2 (i := t) (j := i) (by omega) (by omega)) (fitM (by omega) (by decide)) (Nat.le_of_ble_eq_true rfl) ?_
      generalize τ.1 (k + 1) (4 * t + i) = xm at hm ⊢
      refine rj_ild dX0_clearBelow_64 rfl ?_
      refine rj_imul dX0_clearBelow_66 ?_
      refine rj_isub dX0_clearBelow_67 ?_
      have em : (xl * hd - xm * ld).toInt = M q i * hd.toInt - M t i * ld.toInt := by
        have b1 : 0 ≤ xl.toInt * hd.toInt ∧ xl.toInt * hd.toInt ≤ 36 := ⟨Int.mul_nonneg (by omega) (by omega), Int.le_trans (Int.mul_le_mul (show xl.toInt ≤ 6 by omega) (show hd.toInt ≤ 6 by omega) (by omega) (by omega)) (by decide)⟩
        have b2 : 0 ≤ xm.toInt * ld.toInt ∧ xm.toInt * ld.toInt ≤ 36 := ⟨Int.mul_nonneg (by omega) (by omega), Int.le_trans (Int.mul_le_mul (show xm.toInt ≤ 6 by omega) (show ld.toInt ≤ 6 by omega) (by omega) (by omega)) (by decide)⟩
        have e1 : (xl * hd).toInt = xl.toInt * hd.toInt := i_mul (by omega) (by omega)
        have e2 : (xm * ld).toInt = xm.toInt * ld.toInt := i_mul (by omega) (by omega)
        rw [i_sub (by omega) (by omega), e1, e2, hl, hm]
      refine rj_V3 (ci := 0) cX0_31 rfl (by decide) (by first | assumption | rfl) dX0_clearBelow_68 (c_X0_set hk hC hr.2 (i := q) (j := i) (by omega) (by omega) hp.1) (fitM (by omega) (by decide)) (Nat.le_of_ble_eq_true rfl) ?_
      rintro v υ ⟨rfl, hC1, ho1⟩
      simp only [Option.toList, List.nil_append]
      refine rj_iinc6 (d := 1) dX0_clearBelow_71 (by decide) rfl (by decide) ?_
      rw [nI_1]
      refine rj_goto (tgt := 33) dX0_clearBelow_74 (by decide) ?_
      refine ih (i + 1) υ (by omega) ⟨by omega, hC1.to (fun a b ha hb => ?_), ho.tr ho1⟩
      rw [em]
      unfold um
      dsimp only
      by_cases hbi : a = q ∧ b = i
      · obtain ⟨rfl, rfl⟩ := hbi
        rw [if_pos ⟨rfl, rfl⟩, if_pos ⟨by omega, rfl⟩]
      · rw [if_neg hbi]
        by_cases hlt : b < i ∧ a = q
        · rw [if_pos hlt, if_pos (by omega)]
        · rw [if_neg hlt, if_neg (by omega)]

set_option maxRecDepth 100000 in
theorem l_X0_clearO {l : Launch} {X : CX} {h : Nat} {Q : Option Value → ST → Prop} {σ : ST} {k t j : Nat} {rc p hd : Int32} {M : Mx} (hh : 2 ≤ h) (hk : kd k = 0) (hr : 2 ≤ rc.toInt ∧ rc.toInt ≤ 4) (hp : 0 < p.toInt ∧ p.toInt ≤ 7) (hM : inP rc p M) (ht : (t : Int) < rc.toInt) (hj : (j : Int) < rc.toInt) (hhd : hd.toInt = M t j) (hQ : ∀ τ, Cm τ k rc p (clM p.toInt t j M) → off (rowC k) σ τ → Q none τ) : ∀ (N i : Nat) (τ : ST) (a5 a6 : Option Value), rc.toInt < i + N → (t < i ∧ (i : Int) ≤ rc.toInt ∧ Cm τ k rc p (fun a b => if a < i then clM p.toInt t j M a b else M a b) ∧ off (rowC k) σ τ ∧ nl a5 = true) → RJ (GM l X h Q) X cX0_clearBelow 7 none RX0 12 [some (.ref (ad X k)), some (.int (nI t)), some (.int (nI j)), some (.int hd), some (.int (nI i)), a5, a6] [] τ := by
  intro N
  induction N with
  | zero => intro i τ a5 a6 hN hi; have := hi.2.1; exact absurd hN (by omega)
  | succ N ih =>
    intro i τ a5 a6 hN hi
    obtain ⟨hti, hi, hC, ho, hn5⟩ := hi
    obtain ⟨hka, hkl⟩ := cm_next hk
    have hrcv := hC.1
    have hit := nIt (i := i) (by omega)
    refine rj_ild dX0_clearBelow_12 rfl ?_
    refine rj_ald0 dX0_clearBelow_14 rfl ?_
    refine g0_15 (by first | assumption | rfl) dX0_clearBelow_15 ?_
    refine rj_ic_ge (tgt := 83) dX0_clearBelow_18 (by decide) (fun h_18 => ?_) (fun h_18 => ?_)
    · rw [hrcv] at h_18
      refine rj_vret dX0_clearBelow_83 ?_
      exact hQ τ (hC.to (fun a b ha hb => if_pos (by omega))) ho
    · rw [hrcv] at h_18
      refine rj_ald0 dX0_clearBelow_21 rfl ?_
      refine rj_ild dX0_clearBelow_22 rfl ?_
      refine rj_ild2 dX0_clearBelow_24 rfl ?_
      refine rj_V2i (ci := 0) cX0_48 rfl (by decide) (by first | assumption | rfl) dX0_clearBelow_25 (c_X0_get hk hC hr.2 (i := i) (j := j) (by omega) (by omega)) (fitM (by omega) (by decide)) (Nat.le_of_ble_eq_true rfl) ?_
      have hl := hC.2.2 i j (by omega) hj
      dsimp only at hl
      rw [if_neg (by omega)] at hl
      have bl := hM i j (by omega) hj
      have bh := hM t j ht hj
      refine rj_ist5w dX0_clearBelow_28 (by decide) rfl ?_
      refine rj_ic0 dX0_clearBelow_30 ?_
      refine rj_ist6w dX0_clearBelow_31 (by decide) rfl ?_
      refine l_X0_clearI hh hk hr hp (M := fun a b => if a < i then clM p.toInt t j M a b else M a b) ?_ ht (by omega) (by omega) (by omega) (by omega) (fun υ a6 hC1 ho1 => ?_) 5 0 τ (by omega) ⟨by omega, hC.to (fun a b ha hb => (if_neg (show ¬ (b < 0 ∧ a = i) by omega)).symm), off.rf⟩
      · intro a b ha hb
        dsimp only
        split
        · exact clM_in hp.1 hM a b ha hb
        · exact hM a b ha hb
      · refine rj_iinc4 (d := 1) dX0_clearBelow_77 (by decide) rfl (by decide) ?_
        refine rj_goto (tgt := 12) dX0_clearBelow_80 (by decide) ?_
        rw [nI_1]
        refine ih (i + 1) υ _ _ (by omega) ⟨by omega, by omega, hC1.to (fun a b ha hb => ?_), ho.tr ho1, rfl⟩
        by_cases z : a = i
        · subst z
          rw [if_pos rfl, if_neg (by omega), if_pos (by omega), if_pos (by omega), hhd, hl]
          unfold clM
          rw [if_neg (Nat.lt_irrefl t), if_pos hti]
        · rw [if_neg z]
          by_cases y : a < i
          · rw [if_pos y, if_pos (by omega)]
          · rw [if_neg y, if_neg (by omega)]

set_option maxRecDepth 100000 in
theorem c_X0_clearBelow {l : Launch} {X : CX} {σ : ST} {k : Nat} {rc p : Int32} {M : Mx} (hk : kd k = 0) (hC : Cm σ k rc p M) (hr : 2 ≤ rc.toInt ∧ rc.toInt ≤ 4) {t j : Nat} (hp : 0 < p.toInt ∧ p.toInt ≤ 7) (hM : inP rc p M) (ht : (t : Int) < rc.toInt) (hj : (j : Int) < rc.toInt) : MJ l X 2 yX0_clearBelow cX0_clearBelow 7 none [.ref (ad X k), .int (nI t), .int (nI j)] σ (PV (fun τ => Cm τ k rc p (clM p.toInt t j M) ∧ off (rowC k) σ τ)) := by
  refine MJ_of (own := RX0) [some (.ref (ad X k)), some (.int (nI t)), some (.int (nI j)), none, none, none, none] (by decide) rfl (Nat.le_of_ble_eq_true rfl) rfl ?_
  refine rj_ald0 dX0_clearBelow_0 rfl ?_
  refine rj_ild1 dX0_clearBelow_1 rfl ?_
  refine rj_ild2 dX0_clearBelow_2 rfl ?_
  refine rj_V2i (ci := 0) cX0_48 rfl (by decide) (by first | assumption | rfl) dX0_clearBelow_3 (c_X0_get hk hC hr.2 (i := t) (j := j) (by omega) (by omega)) (fitM (by decide) (by decide)) (Nat.le_of_ble_eq_true rfl) ?_
  refine rj_ist3 dX0_clearBelow_6 (by decide) rfl ?_
  refine rj_ild1 dX0_clearBelow_7 rfl ?_
  refine rj_ic1 dX0_clearBelow_8 ?_
  refine rj_iadd dX0_clearBelow_9 ?_
  rw [nI_1]
  refine rj_ist4w dX0_clearBelow_10 (by decide) rfl ?_
  refine l_X0_clearO (by decide) hk hr hp hM ht hj (hC.2.2 t j ht hj) (fun τ h1 h2 => ⟨rfl, h1, h2⟩) 5 (t + 1) σ _ _ (by omega) ⟨by omega, by omega, hC.to (fun a b ha hb => ?_), off.rf, rfl⟩
  by_cases z : a < t + 1
  · rw [if_pos z]; unfold clM; rw [if_neg (by omega)]
  · rw [if_neg z]

theorem c_X0_pivotP {l : Launch} {X : CX} {σ : ST} {k : Nat} {rc p : Int32} {M : Mx} (hk : kd k = 0) (hC : Cm σ k rc p M) (hr : 2 ≤ rc.toInt ∧ rc.toInt ≤ 4) {f j : Nat} (hj : (j : Int) < rc.toInt) (hf : (f : Int) ≤ rc.toInt) : MJ l X 1 yX0_pivotFrom cX0_pivotFrom 4 (some .int) [.ref (ad X k), .int (nI f), .int (nI j)] σ (fun v τ => τ = σ ∧ ((pv M j (rc.toInt.toNat - f) f = none ∧ v = some (.int (-1))) ∨ ∃ a, pv M j (rc.toInt.toNat - f) f = some a ∧ v = some (.int (nI a)))) := by
  refine MJ_c (c_X0_pivotFrom hk hC hr hj hf) (fun v τ h => ⟨h.2, ?_⟩)
  cases hq : pv M j (rc.toInt.toNat - f) f with
  | none => rw [hq] at h; exact Or.inl ⟨rfl, h.1⟩
  | some a => rw [hq] at h; exact Or.inr ⟨a, rfl, h.1⟩
set_option maxRecDepth 100000 in
theorem l_X0_rank {l : Launch} {X : CX} {h : Nat} {Q : Option Value → ST → Prop} {σ : ST} {k : Nat} {rc p : Int32} {M : Mx} (hh : 3 ≤ h) (hk : kd k = 0) (hr : 2 ≤ rc.toInt ∧ rc.toInt ≤ 4) (hp : 0 < p.toInt ∧ p.toInt ≤ 7) (hM : inP rc p M) (hQ : ∀ τ, off (rowC k) σ τ → τ.1 k 1 = rc → Q (some (.int (nI (rkF rc.toInt.toNat p.toInt M rc.toInt.toNat).2))) τ) : ∀ (N i : Nat) (τ : ST) (a3 : Option Value), rc.toInt < i + N → ((i : Int) ≤ rc.toInt ∧ Cm τ k rc p (rkF rc.toInt.toNat p.toInt M i).1 ∧ off (rowC k) σ τ) → RJ (GM l X h Q) X cX0_rank 4 (some .int) RX0 4 [some (.ref (ad X k)), some (.int (nI (rkF rc.toInt.toNat p.toInt M i).2)), some (.int (nI i)), a3] [] τ := by
  intro N
  induction N with
  | zero => intro i τ a3 hN hi; have := hi.1; exact absurd hN (by omega)
  | succ N ih =>
    intro i τ a3 hN hi
    obtain ⟨hi, hC, ho⟩ := hi
    obtain ⟨hka, hkl⟩ := cm_next hk
    have hrcv := hC.1
    have hit := nIt (i := i) (by omega)
    obtain ⟨hP, hle, hle2⟩ := rkF_ok hp.1 hM i
    have hstep := rkF_succ rc.toInt.toNat p.toInt M i
    generalize hst : rkF rc.toInt.toNat p.toInt M i = st at hP hle hle2 hC hstep ⊢
    unfold rkS at hstep
    refine rj_ild2 dX0_rank_4 rfl ?_
    refine rj_ald0 dX0_rank_5 rfl ?_
    refine g0_15 (by first | assumption | rfl) dX0_rank_6 ?_
    refine rj_ic_ge (tgt := 44) dX0_rank_9 (by decide) (fun h_9 => ?_) (fun h_9 => ?_)
    · rw [hrcv] at h_9
      refine rj_ild1 dX0_rank_44 rfl ?_
      refine rj_iret dX0_rank_45 ?_
      have hie : i = rc.toInt.toNat := by omega
      subst hie
      rw [← hst]
      exact hQ _ ho hrcv
    · rw [hrcv] at h_9
      refine rj_ald0 dX0_rank_12 rfl ?_
      refine rj_ild1 dX0_rank_13 rfl ?_
      refine rj_ild2 dX0_rank_14 rfl ?_
      refine rj_V2 (ci := 0) cX0_61 rfl (by decide) (by first | assumption | rfl) dX0_rank_15 (c_X0_pivotP hk hC hr (f := st.2) (j := i) (by omega) (by omega)) (fitM (by omega) (by decide)) (Nat.le_of_ble_eq_true rfl) ?_
      rintro v τ1 ⟨rfl, ⟨hpv, rfl⟩ | ⟨a, hpv, rfl⟩⟩
      · simp only [Option.toList, List.cons_append, List.nil_append]
        rw [hpv] at hstep
        dsimp only at hstep
        refine rj_ist3 dX0_rank_18 (by decide) rfl ?_
        refine rj_ild3 dX0_rank_19 rfl ?_
        refine rj_if_lt (tgt := 38) dX0_rank_20 (by decide) (fun h_20 => ?_) (fun h_20 => ?_)
        · refine rj_iinc2 (d := 1) dX0_rank_38 (by decide) rfl (by decide) ?_
          rw [nI_1]
          refine rj_goto (tgt := 4) dX0_rank_41 (by decide) ?_
          have hs2 : st.2 = (rkF rc.toInt.toNat p.toInt M (i + 1)).2 := by rw [hstep]
          rw [hs2]
          exact ih (i + 1) _ _ (by omega) ⟨by omega, by rw [hstep]; exact hC, ho⟩
        · exact absurd h_20 (by decide)
      · simp only [Option.toList, List.cons_append, List.nil_append]
        rw [hpv] at hstep
        dsimp only at hstep
        have hpi := pv_in hpv
        have hat : (nI a).toInt = a := nIt (by omega)
        refine rj_ist3 dX0_rank_18 (by decide) rfl ?_
        refine rj_ild3 dX0_rank_19 rfl ?_
        refine rj_if_lt (tgt := 38) dX0_rank_20 (by decide) (fun h_20 => ?_) (fun h_20 => ?_)
        · exfalso; omega
        · refine rj_ald0 dX0_rank_23 rfl ?_
          refine rj_ild1 dX0_rank_24 rfl ?_
          refine rj_ild3 dX0_rank_25 rfl ?_
          refine rj_V2 (ci := 0) cX0_64 rfl (by decide) (by first | assumption | rfl) dX0_rank_26 (c_X0_swap hk hC hr hp hP (x := st.2) (y := a) (by omega) (by omega)) (fitM (by omega) (by decide)) (Nat.le_of_ble_eq_true rfl) ?_
          rintro v υ ⟨rfl, hC1, ho1⟩
          simp only [Option.toList, List.nil_append]
          refine rj_ald0 dX0_rank_29 rfl ?_
          refine rj_ild1 dX0_rank_30 rfl ?_
          refine rj_ild2 dX0_rank_31 rfl ?_
          refine rj_V2 (ci := 0) cX0_68 rfl (by decide) (by first | assumption | rfl) dX0_rank_32 (c_X0_clearBelow hk hC1 hr hp (swM_in (by omega) (by omega) hP) (t := st.2) (j := i) (by omega) (by omega)) (fitM (by omega) (by decide)) (Nat.le_of_ble_eq_true rfl) ?_
          rintro v φ ⟨rfl, hC2, ho2⟩
          simp only [Option.toList, List.nil_append]
          refine rj_iinc1 (d := 1) dX0_rank_35 (by decide) rfl (by decide) ?_
          rw [nI_1]
          refine rj_iinc2 (d := 1) dX0_rank_38 (by decide) rfl (by decide) ?_
          rw [nI_1]
          refine rj_goto (tgt := 4) dX0_rank_41 (by decide) ?_
          have hs2 : st.2 + 1 = (rkF rc.toInt.toNat p.toInt M (i + 1)).2 := by rw [hstep]
          rw [hs2]
          exact ih (i + 1) φ _ (by omega) ⟨by omega, by rw [hstep]; exact hC2, (ho.tr ho1).tr ho2⟩

set_option maxRecDepth 100000 in
theorem c_X0_rank {l : Launch} {X : CX} {σ : ST} {k : Nat} {rc p : Int32} {M : Mx} (hk : kd k = 0) (hC : Cm σ k rc p M) (hr : 2 ≤ rc.toInt ∧ rc.toInt ≤ 4) (hp : 0 < p.toInt ∧ p.toInt ≤ 7) (hM : inP rc p M) : MJ l X 3 yX0_rank cX0_rank 4 (some .int) [.ref (ad X k)] σ (PI (fun r τ => r = nI (rkF rc.toInt.toNat p.toInt M rc.toInt.toNat).2 ∧ off (rowC k) σ τ)) := by
  refine MJ_of (own := RX0) [some (.ref (ad X k)), none, none, none] (by decide) rfl (Nat.le_of_ble_eq_true rfl) rfl ?_
  refine rj_ic0 dX0_rank_0 ?_
  refine rj_ist1 dX0_rank_1 (by decide) rfl ?_
  refine rj_ic0 dX0_rank_2 ?_
  refine rj_ist2 dX0_rank_3 (by decide) rfl ?_
  exact l_X0_rank (by decide) hk hr hp hM (fun τ h1 _ => ⟨_, rfl, rfl, h1⟩) 5 0 σ _ (by omega) ⟨by omega, hC, off.rf⟩

def idM : Mx := fun a b => if a = b then 1 else 0
def crsM (p : Int) (xs : List Int32) : Mx := xs.foldl (fun M c => crM p c M) idM
theorem crsM_snoc (p : Int) (xs : List Int32) (c : Int32) : crsM p (xs ++ [c]) = crM p c (crsM p xs) := by simp [crsM]
def dgM (p : Int) (M : Mx) : Mx := fun a b => if a = b then (M a b - 1) % p else M a b
def frN (n : Nat) (p : Int) (xs : List Int32) : Nat := n - (rkF n p (dgM p (crsM p xs)) n).2
theorem idM_in {rc p : Int32} (hp : 2 ≤ p.toInt) : inP rc p idM := by intro a b _ _; unfold idM; split <;> omega
theorem crsM_in {rc p : Int32} (hp : 2 ≤ p.toInt) : ∀ {xs : List Int32}, okL rc xs → ∀ i, i ≤ xs.length → inP rc p (crsM p.toInt (xs.take i)) := by
  intro xs hok i
  induction i with
  | zero => intro _; exact idM_in hp
  | succ i ih => intro hi; rw [take_snoc (by omega), crsM_snoc]; exact crM_in (okL_get hok (by omega)) (by omega) (ih (by omega))
theorem dgM_in {rc p : Int32} {M : Mx} (hp : 0 < p.toInt) (h : inP rc p M) : inP rc p (dgM p.toInt M) := by
  intro a b ha hb
  unfold dgM
  split
  · exact ⟨Int.emod_nonneg _ (by omega), Int.emod_lt_of_pos _ hp⟩
  · exact h a b ha hb
set_option maxRecDepth 100000 in
theorem l_X0_fo3 {l : Launch} {X : CX} {h : Nat} {Q : Option Value → ST → Prop} {σ : ST} {k k1 : Nat} {rc p : Int32} {M : Mx} (hh : 4 ≤ h) (hk : kd k = 0) (hr : 2 ≤ rc.toInt ∧ rc.toInt ≤ 4) (hp : 0 < p.toInt ∧ p.toInt ≤ 7) (hM : inP rc p M) (hQ : ∀ τ, off (rowC k) σ τ → Q (some (.int (nI (rc.toInt.toNat - (rkF rc.toInt.toNat p.toInt (dgM p.toInt M) rc.toInt.toNat).2)))) τ) : ∀ (N i : Nat) (τ : ST) (a5 : Option Value), rc.toInt < i + N → ((i : Int) ≤ rc.toInt ∧ Cm τ k rc p (fun a b => if a < i then dgM p.toInt M a b else M a b) ∧ off (rowC k) σ τ) → RJ (GM l X h Q) X cX0_freeOnes 6 (some .int) RX0 109 [some (.ref (ad X k)), some (.ref (ad X k1)), some (.int rc), some (.int p), some (.int (nI i)), a5] [] τ := by
  intro N
  induction N with
  | zero => intro i τ a5 hN hi; have := hi.1; exact absurd hN (by omega)
  | succ N ih =>
    intro i τ a5 hN hi
    obtain ⟨hi, hC, ho⟩ := hi
    obtain ⟨hka, hkl⟩ := cm_next hk
    have hrcv := hC.1
    have hit := nIt (i := i) (by omega)
    refine rj_ild dX0_freeOnes_109 rfl ?_
    refine rj_ald0 dX0_freeOnes_111 rfl ?_
    refine g0_15 (by first | assumption | rfl) dX0_freeOnes_112 ?_
    refine rj_ic_ge (tgt := 142) dX0_freeOnes_115 (by decide) (fun h_115 => ?_) (fun h_115 => ?_)
    · rw [hrcv] at h_115
      have hC0 : Cm τ k rc p (dgM p.toInt M) := hC.to (fun a b ha hb => if_pos (by omega))
      refine rj_ald0 dX0_freeOnes_142 rfl ?_
      refine g0_15 (by first | assumption | rfl) dX0_freeOnes_143 ?_
      rw [hrcv, i_nI (show 0 ≤ rc.toInt by omega)]
      refine rj_ald0 dX0_freeOnes_146 rfl ?_
      refine rj_V0 (ci := 0) cX0_51 rfl (by decide) (by first | assumption | rfl) dX0_freeOnes_147 (c_X0_rank hk hC0 hr hp (dgM_in hp.1 hM)) (fitM (by omega) (by decide)) (Nat.le_of_ble_eq_true rfl) ?_
      rintro v υ ⟨r, rfl, rfl, ho1⟩
      simp only [Option.toList, List.cons_append, List.nil_append]
      have hb2 := (rkF_ok hp.1 (dgM_in hp.1 hM) rc.toInt.toNat).2.1
      refine rj_isub dX0_freeOnes_150 ?_
      rw [pk_sub hb2]
      refine rj_iret dX0_freeOnes_151 ?_
      exact hQ _ (ho.tr ho1)
    · rw [hrcv] at h_115
      refine rj_ald0 dX0_freeOnes_118 rfl ?_
      refine rj_ild dX0_freeOnes_119 rfl ?_
      refine rj_ild dX0_freeOnes_121 rfl ?_
      refine rj_ald0 dX0_freeOnes_123 rfl ?_
      refine rj_ild dX0_freeOnes_124 rfl ?_
      refine rj_ild dX0_freeOnes_126 rfl ?_
      refine rj_V2i (ci := 0) cX0_48 rfl (by decide) (by first | assumption | rfl) dX0_freeOnes_128 (c_X0_get hk hC hr.2 (i := i) (j := i) (by omega) (by omega)) (fitM (by omega) (by decide)) (Nat.le_of_ble_eq_true rfl) ?_
      have hl := hC.2.2 i i (by omega) (by omega)
      dsimp only at hl
      rw [if_neg (by omega)] at hl
      have bl := hM i i (by omega) (by omega)
      generalize τ.1 (k + 1) (4 * i + i) = xl at hl ⊢
      refine rj_ic1 dX0_freeOnes_131 ?_
      refine rj_isub dX0_freeOnes_132 ?_
      have em : (xl - 1).toInt = M i i - 1 := by rw [i_sub (by rw [t1]; omega) (by rw [t1]; omega), t1, hl]
      refine rj_V3 (ci := 0) cX0_31 rfl (by decide) (by first | assumption | rfl) dX0_freeOnes_133 (c_X0_set hk hC hr.2 (i := i) (j := i) (by omega) (by omega) hp.1) (fitM (by omega) (by decide)) (Nat.le_of_ble_eq_true rfl) ?_
      rintro v υ ⟨rfl, hC1, ho1⟩
      simp only [Option.toList, List.nil_append]
      refine rj_iinc4 (d := 1) dX0_freeOnes_136 (by decide) rfl (by decide) ?_
      rw [nI_1]
      refine rj_goto (tgt := 109) dX0_freeOnes_139 (by decide) ?_
      refine ih (i + 1) υ _ (by omega) ⟨by omega, hC1.to (fun a b ha hb => ?_), ho.tr ho1⟩
      rw [em]
      unfold um dgM
      dsimp only
      by_cases z : a = i ∧ b = i
      · obtain ⟨rfl, rfl⟩ := z
        rw [if_pos ⟨rfl, rfl⟩, if_pos (by omega), if_pos rfl]
      · rw [if_neg z]
        by_cases y : a < i
        · rw [if_pos y, if_pos (show a < i + 1 by omega)]
        · rw [if_neg y]
          by_cases x : a < i + 1
          · rw [if_pos x, if_neg (by omega)]
          · rw [if_neg x]

set_option maxRecDepth 100000 in
theorem l_X0_fo2 {l : Launch} {X : CX} {h : Nat} {Q : Option Value → ST → Prop} {σ : ST} {k k1 : Nat} {rc p : Int32} {xs : List Int32} (hh : 4 ≤ h) (hk : kd k = 0) (hk1 : kd k1 = 2) (hx : Rw σ k1 xs) (hok : okL rc xs) (hr : 2 ≤ rc.toInt ∧ rc.toInt ≤ 4) (hp : 2 ≤ p.toInt ∧ p.toInt ≤ 7) (hQ : ∀ τ, off (rowC k) σ τ → Q (some (.int (nI (frN rc.toInt.toNat p.toInt xs)))) τ) : ∀ (N i : Nat) (τ : ST) (a5 : Option Value), xs.length < i + N → (i ≤ xs.length ∧ Cm τ k rc p (crsM p.toInt (xs.take i)) ∧ off (rowC k) σ τ ∧ nl a5 = true) → RJ (GM l X h Q) X cX0_freeOnes 6 (some .int) RX0 81 [some (.ref (ad X k)), some (.ref (ad X k1)), some (.int rc), some (.int p), some (.int (nI i)), a5] [] τ := by
  intro N
  induction N with
  | zero => intro i τ a5 hN hi; have := hi.1; exact absurd hN (by omega)
  | succ N ih =>
    intro i τ a5 hN hi
    obtain ⟨hi, hC, ho, hn5⟩ := hi
    have hx1 : Rw τ k1 xs := hx.off ho (cm_row hk hk1).1 (cm_row hk hk1).2
    have hsm := hx.small hk1
    have hit := nIt (i := i) (by omega)
    have hs1 := hx1.1
    have hMi := crsM_in hp.1 hok i hi
    refine rj_ild dX0_freeOnes_81 rfl ?_
    refine rj_ald1 dX0_freeOnes_83 rfl ?_
    refine g0_35 (by first | assumption | rfl) dX0_freeOnes_84 ?_
    refine rj_ic_ge (tgt := 106) dX0_freeOnes_87 (by decide) (fun h_87 => ?_) (fun h_87 => ?_)
    · refine rj_ic0 dX0_freeOnes_106 ?_
      refine rj_ist4w dX0_freeOnes_107 (by decide) rfl ?_
      have hie : i = xs.length := by omega
      rw [hie, List.take_length] at hC hMi
      exact l_X0_fo3 hh hk hr ⟨by omega, hp.2⟩ hMi (fun υ ho1 => hQ υ (ho.tr ho1)) 5 0 τ _ (by omega) ⟨by omega, hC.to (fun a b ha hb => (if_neg (show ¬ a < 0 by omega)).symm), off.rf⟩
    · refine rj_ald0 dX0_freeOnes_90 rfl ?_
      refine rj_ald1 dX0_freeOnes_91 rfl ?_
      refine rj_ild dX0_freeOnes_92 rfl ?_
      refine rj_V1i (ci := 2) cX0_40 rfl (by decide) (by first | assumption | rfl) dX0_freeOnes_94 (c_X2_atL hk1 hx1) (fitM (by omega) (by decide)) (Nat.le_of_ble_eq_true rfl) ?_
      rw [rat_in hit (by omega)]
      refine rj_V1 (ci := 0) cX0_44 rfl (by decide) (by first | assumption | rfl) dX0_freeOnes_97 (c_X0_cross hk hC (okL_get hok (i := i) (by omega)) hr.2 ⟨by omega, hp.2⟩ hMi) (fitM (by omega) (by decide)) (Nat.le_of_ble_eq_true rfl) ?_
      rintro v υ ⟨rfl, hC1, ho1⟩
      simp only [Option.toList, List.nil_append]
      rw [← crsM_snoc, ← take_snoc (by omega)] at hC1
      refine rj_iinc4 (d := 1) dX0_freeOnes_100 (by decide) rfl (by decide) ?_
      rw [nI_1]
      refine rj_goto (tgt := 81) dX0_freeOnes_103 (by decide) ?_
      exact ih (i + 1) υ _ (by omega) ⟨by omega, hC1, ho.tr ho1, hn5⟩

set_option maxRecDepth 100000 in
theorem l_X0_fo1 {l : Launch} {X : CX} {h : Nat} {Q : Option Value → ST → Prop} {σ : ST} {k k1 q : Nat} {rc p : Int32} (hh : 4 ≤ h) (hk : kd k = 0) (hr : 2 ≤ rc.toInt ∧ rc.toInt ≤ 4) (hp : 2 ≤ p.toInt ∧ p.toInt ≤ 7) (hq : (q : Int) < rc.toInt) (M : Mx) (hQ : ∀ τ a5, nl a5 = true → Cm τ k rc p (fun a b => if a = q then idM a b else M a b) → off (rowC k) σ τ → RJ (GM l X h Q) X cX0_freeOnes 6 (some .int) RX0 72 [some (.ref (ad X k)), some (.ref (ad X k1)), some (.int rc), some (.int p), some (.int (nI q)), a5] [] τ) : ∀ (N i : Nat) (τ : ST), rc.toInt < i + N → ((i : Int) ≤ rc.toInt ∧ Cm τ k rc p (fun a b => if a = q ∧ b < i then idM a b else M a b) ∧ off (rowC k) σ τ) → RJ (GM l X h Q) X cX0_freeOnes 6 (some .int) RX0 37 [some (.ref (ad X k)), some (.ref (ad X k1)), some (.int rc), some (.int p), some (.int (nI q)), some (.int (nI i))] [] τ := by
  intro N
  induction N with
  | zero => intro i τ hN hi; have := hi.1; exact absurd hN (by omega)
  | succ N ih =>
    intro i τ hN hi
    obtain ⟨hi, hC, ho⟩ := hi
    obtain ⟨hka, hkl⟩ := cm_next hk
    have hrcv := hC.1
    have hit := nIt (i := i) (by omega)
    have hqt := nIt (i := q) (by omega)
    refine rj_ild dX0_freeOnes_37 rfl ?_
    refine rj_ald0 dX0_freeOnes_39 rfl ?_
    refine g0_15 (by first | assumption | rfl) dX0_freeOnes_40 ?_
    refine rj_ic_ge (tgt := 72) dX0_freeOnes_43 (by decide) (fun h_43 => ?_) (fun h_43 => ?_)
    · rw [hrcv] at h_43
      exact hQ τ _ rfl (hC.to (fun a b ha hb => by by_cases z : a = q; rw [if_pos ⟨z, by omega⟩, if_pos z]; rw [if_neg (fun y => z y.1), if_neg z])) ho
    · rw [hrcv] at h_43
      refine rj_ald0 dX0_freeOnes_46 rfl ?_
      refine rj_ild dX0_freeOnes_47 rfl ?_
      refine rj_ild dX0_freeOnes_49 rfl ?_
      refine rj_ild dX0_freeOnes_51 rfl ?_
      refine rj_ild dX0_freeOnes_53 rfl ?_
      refine rj_ic_ne (tgt := 62) dX0_freeOnes_55 (by decide) (fun h_55 => ?_) (fun h_55 => ?_)
      · refine rj_ic0 dX0_freeOnes_62 ?_
        refine rj_V3 (ci := 0) cX0_31 rfl (by decide) (by first | assumption | rfl) dX0_freeOnes_63 (c_X0_set hk hC hr.2 (i := q) (j := i) (by omega) (by omega) (by omega)) (fitM (by omega) (by decide)) (Nat.le_of_ble_eq_true rfl) ?_
        rintro v υ ⟨rfl, hC1, ho1⟩
        simp only [Option.toList, List.nil_append]
        refine rj_iinc5 (d := 1) dX0_freeOnes_66 (by decide) rfl (by decide) ?_
        rw [nI_1]
        refine rj_goto (tgt := 37) dX0_freeOnes_69 (by decide) ?_
        refine ih (i + 1) υ (by omega) ⟨by omega, hC1.to (fun a b ha hb => ?_), ho.tr ho1⟩
        unfold um
        dsimp only
        by_cases z : a = q ∧ b = i
        · rw [if_pos z, if_pos ⟨z.1, by omega⟩]
          unfold idM
          rw [if_neg (fun w => h_55 (by rw [← z.1, ← z.2, w])), t0, Int.zero_emod]
        · rw [if_neg z]
          by_cases y : a = q ∧ b < i
          · rw [if_pos y, if_pos ⟨y.1, by omega⟩]
          · rw [if_neg y, if_neg (by omega)]
      · refine rj_ic1 dX0_freeOnes_58 ?_
        refine rj_goto (tgt := 63) dX0_freeOnes_59 (by decide) ?_
        refine rj_V3 (ci := 0) cX0_31 rfl (by decide) (by first | assumption | rfl) dX0_freeOnes_63 (c_X0_set hk hC hr.2 (i := q) (j := i) (by omega) (by omega) (by omega)) (fitM (by omega) (by decide)) (Nat.le_of_ble_eq_true rfl) ?_
        rintro v υ ⟨rfl, hC1, ho1⟩
        simp only [Option.toList, List.nil_append]
        refine rj_iinc5 (d := 1) dX0_freeOnes_66 (by decide) rfl (by decide) ?_
        rw [nI_1]
        refine rj_goto (tgt := 37) dX0_freeOnes_69 (by decide) ?_
        refine ih (i + 1) υ (by omega) ⟨by omega, hC1.to (fun a b ha hb => ?_), ho.tr ho1⟩
        unfold um
        dsimp only
        by_cases z : a = q ∧ b = i
        · rw [if_pos z, if_pos ⟨z.1, by omega⟩]
          unfold idM
          have hqi : q = i := by rw [h_55] at hqt; omega
          rw [if_pos (by omega), t1]
          exact Int.emod_eq_of_lt (by omega) (by omega)
        · rw [if_neg z]
          by_cases y : a = q ∧ b < i
          · rw [if_pos y, if_pos ⟨y.1, by omega⟩]
          · rw [if_neg y, if_neg (by omega)]

set_option maxRecDepth 100000 in
theorem l_X0_fo0 {l : Launch} {X : CX} {h : Nat} {Q : Option Value → ST → Prop} {σ : ST} {k k1 : Nat} {rc p : Int32} {xs : List Int32} (hh : 4 ≤ h) (hk : kd k = 0) (hk1 : kd k1 = 2) (hx : Rw σ k1 xs) (hok : okL rc xs) (hr : 2 ≤ rc.toInt ∧ rc.toInt ≤ 4) (hp : 2 ≤ p.toInt ∧ p.toInt ≤ 7) (hQ : ∀ τ, off (rowC k) σ τ → Q (some (.int (nI (frN rc.toInt.toNat p.toInt xs)))) τ) : ∀ (N i : Nat) (τ : ST) (a5 : Option Value), rc.toInt < i + N → ((i : Int) ≤ rc.toInt ∧ (∃ M, Cm τ k rc p M ∧ ∀ a b : Nat, a < i → M a b = idM a b) ∧ off (rowC k) σ τ ∧ nl a5 = true) → RJ (GM l X h Q) X cX0_freeOnes 6 (some .int) RX0 25 [some (.ref (ad X k)), some (.ref (ad X k1)), some (.int rc), some (.int p), some (.int (nI i)), a5] [] τ := by
  intro N
  induction N with
  | zero => intro i τ a5 hN hi; have := hi.1; exact absurd hN (by omega)
  | succ N ih =>
    intro i τ a5 hN hi
    obtain ⟨hi, ⟨M, hC, hMi⟩, ho, hn5⟩ := hi
    obtain ⟨hka, hkl⟩ := cm_next hk
    have hrcv := hC.1
    have hit := nIt (i := i) (by omega)
    refine rj_ild dX0_freeOnes_25 rfl ?_
    refine rj_ald0 dX0_freeOnes_27 rfl ?_
    refine g0_15 (by first | assumption | rfl) dX0_freeOnes_28 ?_
    refine rj_ic_ge (tgt := 78) dX0_freeOnes_31 (by decide) (fun h_31 => ?_) (fun h_31 => ?_)
    · rw [hrcv] at h_31
      refine rj_ic0 dX0_freeOnes_78 ?_
      refine rj_ist4w dX0_freeOnes_79 (by decide) rfl ?_
      exact l_X0_fo2 hh hk hk1 (hx.off ho (cm_row hk hk1).1 (cm_row hk hk1).2) hok hr hp (fun υ ho1 => hQ υ (ho.tr ho1)) (xs.length + 1) 0 τ _ (by omega) ⟨by omega, hC.to (fun a b ha hb => hMi a b (by omega)), off.rf, hn5⟩
    · rw [hrcv] at h_31
      refine rj_ic0 dX0_freeOnes_34 ?_
      refine rj_ist5w dX0_freeOnes_35 (by decide) rfl ?_
      refine l_X0_fo1 hh hk hr hp (by omega) M (fun υ a5 hn hC1 ho1 => ?_) 5 0 τ (by omega) ⟨by omega, hC.to (fun a b ha hb => (if_neg (show ¬ (a = i ∧ b < 0) by omega)).symm), off.rf⟩
      refine rj_iinc4 (d := 1) dX0_freeOnes_72 (by decide) rfl (by decide) ?_
      refine rj_goto (tgt := 25) dX0_freeOnes_75 (by decide) ?_
      rw [nI_1]
      refine ih (i + 1) υ _ (by omega) ⟨by omega, ⟨_, hC1, fun a b ha => ?_⟩, ho.tr ho1, hn⟩
      by_cases z : a = i
      · rw [if_pos z]
      · rw [if_neg z]; exact hMi a b (by omega)

set_option maxRecDepth 100000 in
theorem c_X0_freeOnes {l : Launch} {X : CX} {σ : ST} {k k1 : Nat} {rc p : Int32} {xs : List Int32} (hk : kd k = 0) (hk1 : kd k1 = 2) (hx : Rw σ k1 xs) (hok : okL rc xs) (hr : 2 ≤ rc.toInt ∧ rc.toInt ≤ 4) (hp : 2 ≤ p.toInt ∧ p.toInt ≤ 7) : MJ l X 4 yX0_freeOnes cX0_freeOnes 6 (some .int) [.ref (ad X k), .ref (ad X k1), .int rc, .int p] σ (PI (fun r τ => r = nI (frN rc.toInt.toNat p.toInt xs) ∧ off (rowC k) σ τ)) := by
  refine MJ_of (own := RX0) [some (.ref (ad X k)), some (.ref (ad X k1)), some (.int rc), some (.int p), none, none] (by decide) rfl (Nat.le_of_ble_eq_true rfl) rfl ?_
  have h4 : (4 : Int32).toInt = 4 := by decide
  have h2 : (2 : Int32).toInt = 2 := by decide
  have hclamp : (if (0 : Int32) < (if (4 : Int32) < rc then 4 else rc) then (if (4 : Int32) < rc then 4 else rc) else 0) = rc := by
    have e : (if (4 : Int32) < rc then 4 else rc) = rc := if_neg (fun q => by have := tlt q; omega)
    rw [e, if_pos (Int32.lt_iff_toInt_lt.mpr (by rw [t0]; omega))]
  have hcp : (if (2 : Int32) < p then p else 2) = p := by
    by_cases q : (2 : Int32) < p
    · rw [if_pos q]
    · rw [if_neg q]; exact i_inj (by have := tnlt q; omega)
  have ho : off (rowC k) σ (ui (ui σ k 1 rc) k 2 p) := (off.rf.ui (Or.inl rfl)).ui (Or.inl rfl)
  refine rj_ald0 dX0_freeOnes_0 rfl ?_
  refine rj_ic0 dX0_freeOnes_1 ?_
  refine rj_ild2 dX0_freeOnes_2 rfl ?_
  refine rj_ic4 dX0_freeOnes_3 ?_
  refine rj_min cX0_22 (fitNM (by decide) (Nat.le_of_ble_eq_true rfl)) dX0_freeOnes_4 ?_
  refine rj_max cX0_28 (fitNM (by decide) (Nat.le_of_ble_eq_true rfl)) dX0_freeOnes_7 ?_
  rw [hclamp]
  refine p0_15 (by first | assumption | rfl) dX0_freeOnes_10 ?_
  refine rj_ald0 dX0_freeOnes_13 rfl ?_
  refine rj_ic2 dX0_freeOnes_14 ?_
  refine rj_ild3 dX0_freeOnes_15 rfl ?_
  refine rj_max cX0_28 (fitNM (by decide) (Nat.le_of_ble_eq_true rfl)) dX0_freeOnes_16 ?_
  rw [hcp]
  refine p0_19 (by first | assumption | rfl) dX0_freeOnes_19 ?_
  refine rj_ic0 dX0_freeOnes_22 ?_
  refine rj_ist4w dX0_freeOnes_23 (by decide) rfl ?_
  refine l_X0_fo0 (by decide) hk hk1 (hx.off ho (cm_row hk hk1).1 (cm_row hk hk1).2) hok hr hp (fun υ ho1 => ⟨_, rfl, rfl, ho.tr ho1⟩) 5 0 _ _ (by omega) ⟨by omega, ⟨fun a b => ((ui (ui σ k 1 rc) k 2 p).1 (k + 1) (4 * a + b)).toInt, ⟨by rw [ui_nj (by decide), ui_same], ui_same _ _ _ _, fun _ _ _ _ => rfl⟩, fun a b ha => absurd ha (by omega)⟩, off.rf, rfl⟩

