/-! rows, by the lists that they hold -/
def rat (xs : List Int32) (i : Int32) : Int32 := if 0 ≤ i.toInt ∧ i.toInt < xs.length then xs.getD i.toInt.toNat 0 else 0
theorem rat_in {xs : List Int32} {i : Int32} {j : Nat} (h : i.toInt = j) (hj : j < xs.length) : rat xs i = xs.getD j 0 := by
  unfold rat; rw [if_pos (by omega), h, Int.toNat_natCast]
theorem rat_nI {xs : List Int32} {j : Nat} (hj : j < xs.length) (hb : j < 2147483648) : rat xs (nI j) = xs.getD j 0 := rat_in (nI_t hb) hj
theorem Rw.small {σ : ST} {k : Nat} {xs : List Int32} (hx : Rw σ k xs) (hk : kd k = 2) : xs.length ≤ 24 := Nat.le_trans hx.2.1 (row_next hk).2.1
theorem Rw.size {σ : ST} {k : Nat} {xs : List Int32} (hx : Rw σ k xs) : σ.1 k 1 = nI xs.length := nI_of_toInt hx.1
theorem MJ_c {l : Launch} {X : CX} {h : Nat} {y : MethodName} {cc : ByteArray} {nL : Nat} {ret : Option FieldType} {av : List Value} {σ : ST} {Q Q' : Option Value → ST → Prop} (k : MJ l X h y cc nL ret av σ Q) (hQ : ∀ v τ, Q v τ → Q' v τ) : MJ l X h y cc nL ret av σ Q' := MJ_mono hQ k
theorem c_X2_atL {l : Launch} {X : CX} {σ : ST} {k : Nat} {xs : List Int32} {i : Int32} (hk : kd k = 2) (hx : Rw σ k xs) : MJ l X 1 yX2_at cX2_at 2 (some .int) [.ref (ad X k), .int i] σ (eqI (rat xs i) σ) := by
  refine MJ_c (c_X2_at hk hx.1 hx.2.1) (fun v τ h => ⟨h.1.trans ?_, h.2⟩)
  unfold rat
  by_cases q : 0 ≤ i.toInt ∧ i.toInt < (xs.length : Nat)
  · rw [if_pos q, if_pos q, cl_i, hx.2.2 _ (by omega)]
  · rw [if_neg q, if_neg q]
theorem Rw.put {σ : ST} {k j : Nat} {xs : List Int32} {x : Int32} (hx : Rw σ k xs) (hj : j < xs.length) : Rw (ui σ (k + 1) j x) k (xs.set j x) := by
  obtain ⟨a, b, c⟩ := hx
  refine ⟨by rw [ui_ne (by omega), List.length_set]; exact a, by rw [List.length_set]; exact b, fun i hi => ?_⟩
  rw [List.length_set] at hi
  rw [ui_at]
  by_cases h : i = j
  · subst h; rw [if_pos ⟨rfl, rfl⟩]; simp [List.getD, hi]
  · rw [if_neg (fun q => h q.2), c i hi]; simp [List.getD, List.getElem?_set, Ne.symm h]
theorem c_X2_putL {l : Launch} {X : CX} {σ : ST} {k : Nat} {xs : List Int32} {i x : Int32} {j : Nat} (hk : kd k = 2) (hx : Rw σ k xs) (hi : i.toInt = j) (hj : j < xs.length) : MJ l X 1 yX2_put cX2_put 3 none [.ref (ad X k), .int i, .int x] σ (PV fun τ => Rw τ k (xs.set j x) ∧ off (rowC k) σ τ) := by
  refine MJ_c (c_X2_put hk hx.1 hx.2.1) (fun v τ h => ⟨h.1, ?_⟩)
  obtain ⟨-, rfl⟩ := h
  rw [if_pos (by omega), cl_i, hi, Int.toNat_natCast]
  exact ⟨hx.put hj, off.rf.ui (Or.inr rfl)⟩
theorem Rw.cut {σ : ST} {k m : Nat} {xs : List Int32} (hx : Rw σ k xs) (hk : kd k = 2) : Rw (ui σ k 1 (nI (min m xs.length))) k (xs.take m) := by
  have := hx.small hk
  obtain ⟨a, b, c⟩ := hx
  refine ⟨by rw [ui_same, nI_t (by omega)]; simp, by simp; omega, fun i hi => ?_⟩
  simp at hi
  rw [ui_ne (by omega), c i (by omega)]
  simp [List.getD, List.getElem?_take, show i < m by omega]
theorem c_X2_cutToL {l : Launch} {X : CX} {σ : ST} {k : Nat} {xs : List Int32} {i : Int32} (hk : kd k = 2) (hx : Rw σ k xs) : MJ l X 1 yX2_cutTo cX2_cutTo 2 none [.ref (ad X k), .int i] σ (PV fun τ => Rw τ k (xs.take i.toInt.toNat) ∧ off (rowC k) σ τ) := by
  refine MJ_c (c_X2_cutTo hk hx.1 hx.2.1) (fun v τ h => ⟨h.1, ?_⟩)
  obtain ⟨-, rfl⟩ := h
  exact ⟨hx.cut hk, off.rf.ui (Or.inl rfl)⟩
theorem Rw.app {σ : ST} {k : Nat} {xs : List Int32} {x : Int32} (hx : Rw σ k xs) (hk : kd k = 2) (hr : xs.length < ln (k + 1)) : Rw (ui (ui σ (k + 1) xs.length x) k 1 (nI (xs.length + 1))) k (xs ++ [x]) := by
  have := hx.small hk
  obtain ⟨a, b, c⟩ := hx
  refine ⟨by rw [ui_same, nI_t (by omega)]; simp, by simp; omega, fun i hi => ?_⟩
  simp at hi
  rw [ui_ne (by omega), ui_at]
  by_cases h : i = xs.length
  · subst h; rw [if_pos ⟨rfl, rfl⟩, getD_snoc_eq]
  · rw [if_neg (fun q => h q.2), c i (by omega), getD_snoc_lt (by omega)]
theorem c_X2_appendL {l : Launch} {X : CX} {σ : ST} {k : Nat} {xs : List Int32} {x : Int32} (hk : kd k = 2) (hx : Rw σ k xs) (hr : xs.length < ln (k + 1)) : MJ l X 0 yX2_append cX2_append 2 none [.ref (ad X k), .int x] σ (PV fun τ => Rw τ k (xs ++ [x]) ∧ off (rowC k) σ τ) := by
  refine MJ_c (c_X2_append hk hx.1 hx.2.1) (fun v τ h => ⟨h.1, ?_⟩)
  obtain ⟨-, rfl⟩ := h
  rw [if_pos hr]
  exact ⟨hx.app hk hr, (off.rf.ui (Or.inr rfl)).ui (Or.inl rfl)⟩
theorem c_X2_negateL {l : Launch} {X : CX} {σ : ST} {k : Nat} {xs : List Int32} {i : Int32} {j : Nat} (hk : kd k = 2) (hx : Rw σ k xs) (hi : i.toInt = j) (hj : j < xs.length) : MJ l X 2 yX2_negate cX2_negate 2 none [.ref (ad X k), .int i] σ (PV fun τ => Rw τ k (xs.set j (-(xs.getD j 0))) ∧ off (rowC k) σ τ) := by
  refine MJ_c (c_X2_negate hk hx.1 hx.2.1) (fun v τ h => ⟨h.1, ?_⟩)
  obtain ⟨-, rfl⟩ := h
  rw [if_pos (by omega), cl_i, hi, Int.toNat_natCast, hx.2.2 j hj]
  exact ⟨hx.put hj, off.rf.ui (Or.inr rfl)⟩
theorem Rw.copy {σ : ST} {k k1 : Nat} {ys : List Int32} (hy : Rw σ k1 ys) (h1 : kd k1 = 2) (hr : ys.length ≤ ln (k + 1)) : Rw (ui (ua σ (k + 1) (va_cpy (σ.1 (k1 + 1)) (σ.1 (k + 1)) 0 0 ys.length)) k 1 (nI ys.length)) k ys := by
  have := hy.small h1
  obtain ⟨a, b, c⟩ := hy
  refine ⟨by rw [ui_same, nI_t (by omega)], hr, fun i hi => ?_⟩
  rw [ui_ne (by omega), ua_same, sb_cpy0 hi, c i hi]
set_option maxRecDepth 100000 in
theorem c_X2_take {l : Launch} {X : CX} {σ : ST} {k k1 : Nat} {ys : List Int32} (hk : kd k = 2) (h1 : kd k1 = 2) (hy : Rw σ k1 ys) (hr : ys.length ≤ ln (k + 1)) : MJ l X 1 yX2_take cX2_take 3 none [.ref (ad X k), .ref (ad X k1)] σ (PV (fun τ => Rw τ k ys ∧ off (rowC k) σ τ)) := by
  refine MJ_of (own := RX2) [some (.ref (ad X k)), some (.ref (ad X k1)), none] (by decide) rfl (Nat.le_of_ble_eq_true rfl) rfl ?_
  have ha := (row_next hk).1
  have hln := (row_next hk).2.1
  have ha1 := (row_next h1).1
  have hln1 := (row_next h1).2.1
  have hn := hy.2.1
  have hsz := hy.1
  refine rj_ald1 dX2_take_0 rfl ?_
  refine g2_7 (by first | assumption | rfl) dX2_take_1 ?_
  refine rj_ald1 dX2_take_4 rfl ?_
  refine g2_19 (by first | assumption | rfl) dX2_take_5 ?_
  refine rj_alen (by first | assumption | rfl) dX2_take_8 ?_
  refine rj_ald0 dX2_take_9 rfl ?_
  refine g2_19 (by first | assumption | rfl) dX2_take_10 ?_
  refine rj_alen (by first | assumption | rfl) dX2_take_13 ?_
  refine rj_min cX2_27 (fitNM (by decide) (Nat.le_of_ble_eq_true rfl)) dX2_take_14 ?_
  refine rj_min cX2_27 (fitNM (by decide) (Nat.le_of_ble_eq_true rfl)) dX2_take_17 ?_
  refine rj_top (x' := nI ys.length) (by rw [i_min hsz (by rw [i_min (nI_t (by omega)) (nI_t (by omega))]; exact nI_t (by omega))]; congr 1; omega) ?_
  refine rj_ist2 dX2_take_20 (by decide) rfl ?_
  refine rj_ild2 dX2_take_21 rfl ?_
  have hyt : (nI ys.length).toInt = ys.length := nI_t (by omega)
  refine rj_if_lt (tgt := 44) dX2_take_22 (by decide) (fun h_22 => ?_) (fun h_22 => ?_)
  · exfalso; omega
  · refine rj_ald1 dX2_take_25 rfl ?_
    refine g2_19 (by first | assumption | rfl) dX2_take_26 ?_
    refine rj_ic0 dX2_take_29 ?_
    refine rj_ald0 dX2_take_30 rfl ?_
    refine g2_19 (by first | assumption | rfl) dX2_take_31 ?_
    refine rj_ic0 dX2_take_34 ?_
    refine rj_ild2 dX2_take_35 rfl ?_
    refine rj_copyi cX2_38 (by assumption) (by assumption) (by decide) (by decide) (nI_pos (by omega)) (by rw [nI_clamp (by omega)]; show 0 + _ ≤ _; omega) (by rw [nI_clamp (by omega)]; show 0 + _ ≤ _; omega) (fitNM (by decide) (by decide +kernel)) dX2_take_36 ?_
    rw [show (0 : Int32).toNatClampNeg = 0 from rfl, nI_clamp (by omega)]
    refine rj_ald0 dX2_take_39 rfl ?_
    refine rj_ild2 dX2_take_40 rfl ?_
    refine p2_7 (by first | assumption | rfl) dX2_take_41 ?_
    refine rj_vret dX2_take_44 ?_
    exact ⟨rfl, hy.copy h1 hr, (off.rf.ua (Or.inr rfl)).ui (Or.inl rfl)⟩

def iab (x : Int32) : Int32 := if 0 ≤ x then x else 0 - x
def dst (a b : Int32) : Int32 := iab (iab a - iab b)
def sg (c : Int32) : Int32 := if 0 < c.toInt then 1 else -1
/-- SLIDE, THIRD at j -/
abbrev csl (xs : List Int32) (j : Nat) : Prop := j + 1 < xs.length ∧ 2 ≤ (dst (xs.getD j 0) (xs.getD (j + 1) 0)).toInt
abbrev cth (xs : List Int32) (j : Nat) : Prop := j + 2 < xs.length ∧ xs.getD j 0 = xs.getD (j + 2) 0 ∧ (0 < (xs.getD j 0).toInt ↔ 0 < (xs.getD (j + 1) 0).toInt) ∧ dst (xs.getD j 0) (xs.getD (j + 1) 0) = 1
def msl (xs : List Int32) (j : Nat) : List Int32 := (xs.set j (xs.getD (j + 1) 0)).set (j + 1) (xs.getD j 0)
def mth (xs : List Int32) (j : Nat) : List Int32 := ((xs.set j (xs.getD (j + 1) 0)).set (j + 1) (xs.getD j 0)).set (j + 2) (xs.getD (j + 1) 0)
def mv (xs : List Int32) (j : Nat) : List Int32 := if csl xs j then msl xs j else if cth xs j then mth xs j else xs
theorem msl_len (xs : List Int32) (j : Nat) : (msl xs j).length = xs.length := by simp [msl]
theorem mth_len (xs : List Int32) (j : Nat) : (mth xs j).length = xs.length := by simp [mth]
theorem mv_len (xs : List Int32) (j : Nat) : (mv xs j).length = xs.length := by unfold mv; split; exact msl_len xs j; split; exact mth_len xs j; rfl
set_option maxRecDepth 100000 in
theorem c_X2_distance {l : Launch} {X : CX} {σ : ST} {a b : Int32} : MJ l X 1 yX2_distance cX2_distance 2 (some .int) [.int a, .int b] σ (eqI (dst a b) σ) := by
  refine MJ_of (own := RX2) [some (.int a), some (.int b)] (by decide) rfl (Nat.le_of_ble_eq_true rfl) rfl ?_
  refine rj_ild0 dX2_distance_0 rfl ?_
  refine rj_abs cX2_65 (fitNM (by decide) (Nat.le_of_ble_eq_true rfl)) dX2_distance_1 ?_
  refine rj_ild1 dX2_distance_4 rfl ?_
  refine rj_abs cX2_65 (fitNM (by decide) (Nat.le_of_ble_eq_true rfl)) dX2_distance_5 ?_
  refine rj_isub dX2_distance_8 ?_
  refine rj_abs cX2_65 (fitNM (by decide) (Nat.le_of_ble_eq_true rfl)) dX2_distance_9 ?_
  refine rj_iret dX2_distance_12 ?_
  exact ⟨rfl, rfl⟩

set_option maxRecDepth 100000 in
theorem c_X11_signOf {l : Launch} {X : CX} {σ : ST} {a : Int32} : MJ l X 0 yX11_signOf cX11_signOf 1 (some .int) [.int a] σ (eqI (sg a) σ) := by
  refine MJ_of (own := RX11) [some (.int a)] (by decide) rfl (Nat.le_of_ble_eq_true rfl) rfl ?_
  refine rj_ild0 dX11_signOf_0 rfl ?_
  refine rj_if_le (tgt := 8) dX11_signOf_1 (by decide) (fun h_1 => ?_) (fun h_1 => ?_)
  · refine rj_icm1 dX11_signOf_8 ?_
    refine rj_iret dX11_signOf_9 ?_
    exact ⟨by unfold sg; rw [if_neg (by omega)], rfl⟩
  · refine rj_ic1 dX11_signOf_4 ?_
    refine rj_goto (tgt := 9) dX11_signOf_5 (by decide) ?_
    refine rj_iret dX11_signOf_9 ?_
    exact ⟨by unfold sg; rw [if_pos (by omega)], rfl⟩

set_option maxRecDepth 100000 in
theorem c_X2_canSlide {l : Launch} {X : CX} {σ : ST} {k : Nat} {xs : List Int32} (hk : kd k = 2) (hx : Rw σ k xs) {i : Int32} : MJ l X 2 yX2_canSlide cX2_canSlide 2 (some .boolean) [.ref (ad X k), .int i] σ (eqI (if 0 ≤ i.toInt ∧ csl xs i.toInt.toNat then 1 else 0) σ) := by
  refine MJ_of (own := RX2) [some (.ref (ad X k)), some (.int i)] (by decide) rfl (Nat.le_of_ble_eq_true rfl) rfl ?_
  have hsm := hx.small hk
  have hlo := i_lo i
  have hhi := i_hi i
  refine rj_ald0 dX2_canSlide_0 rfl ?_
  refine rj_ild1 dX2_canSlide_1 rfl ?_
  refine rj_V1i (ci := 2) cX2_23 rfl (by decide) (by first | assumption | rfl) dX2_canSlide_2 (c_X2_has hk hx.1 hx.2.1) (fitM (by decide) (by decide)) (Nat.le_of_ble_eq_true rfl) ?_
  refine rj_if_eq (tgt := 41) dX2_canSlide_5 (by decide) (fun h_5 => ?_) (fun h_5 => ?_)
  · have hb_5 := bz_t h_5
    refine rj_ic0 dX2_canSlide_41 ?_
    refine rj_zret dX2_canSlide_42 (rfl) ?_
    first | (refine ⟨?_, rfl⟩; rw [if_pos (by omega)]; done) | (refine ⟨?_, rfl⟩; rw [if_neg (by omega)]; done) | (exfalso; omega)
  · have hb_5 := bz_f h_5
    have hi1 : (i + 1).toInt = i.toInt + 1 := by rw [i_add (by rw [t1]; omega) (by rw [t1]; omega), t1]
    refine rj_ald0 dX2_canSlide_8 rfl ?_
    refine rj_ild1 dX2_canSlide_9 rfl ?_
    refine rj_ic1 dX2_canSlide_10 ?_
    refine rj_iadd dX2_canSlide_11 ?_
    refine rj_V1i (ci := 2) cX2_23 rfl (by decide) (by first | assumption | rfl) dX2_canSlide_12 (c_X2_has hk hx.1 hx.2.1) (fitM (by decide) (by decide)) (Nat.le_of_ble_eq_true rfl) ?_
    refine rj_if_eq (tgt := 41) dX2_canSlide_15 (by decide) (fun h_15 => ?_) (fun h_15 => ?_)
    · have hb_15 := bz_t h_15
      refine rj_ic0 dX2_canSlide_41 ?_
      refine rj_zret dX2_canSlide_42 (rfl) ?_
      first | (refine ⟨?_, rfl⟩; rw [if_pos (by omega)]; done) | (refine ⟨?_, rfl⟩; rw [if_neg (by omega)]; done) | (exfalso; omega)
    · have hb_15 := bz_f h_15
      refine rj_ald0 dX2_canSlide_18 rfl ?_
      refine rj_ild1 dX2_canSlide_19 rfl ?_
      refine rj_V1i (ci := 2) cX2_30 rfl (by decide) (by first | assumption | rfl) dX2_canSlide_20 (c_X2_atL hk hx) (fitM (by decide) (by decide)) (Nat.le_of_ble_eq_true rfl) ?_
      refine rj_ald0 dX2_canSlide_23 rfl ?_
      refine rj_ild1 dX2_canSlide_24 rfl ?_
      refine rj_ic1 dX2_canSlide_25 ?_
      refine rj_iadd dX2_canSlide_26 ?_
      refine rj_V1i (ci := 2) cX2_30 rfl (by decide) (by first | assumption | rfl) dX2_canSlide_27 (c_X2_atL hk hx) (fitM (by decide) (by decide)) (Nat.le_of_ble_eq_true rfl) ?_
      rw [rat_in (i := i) (j := i.toInt.toNat) (by omega) (by omega), rat_in (i := i + 1) (j := i.toInt.toNat + 1) (by omega) (by omega)]
      refine rj_S2i cX2_68 dX2_canSlide_30 c_X2_distance (fitM (by decide) (by decide)) (Nat.le_of_ble_eq_true rfl) ?_
      have h2t : (2 : Int32).toInt = 2 := by decide
      refine rj_ic2 dX2_canSlide_33 ?_
      refine rj_ic_lt (tgt := 41) dX2_canSlide_34 (by decide) (fun h_34 => ?_) (fun h_34 => ?_)
      · refine rj_ic0 dX2_canSlide_41 ?_
        refine rj_zret dX2_canSlide_42 (rfl) ?_
        first | (refine ⟨?_, rfl⟩; rw [if_pos (by omega)]; done) | (refine ⟨?_, rfl⟩; rw [if_neg (by omega)]; done) | (exfalso; omega)
      · refine rj_ic1 dX2_canSlide_37 ?_
        refine rj_goto (tgt := 42) dX2_canSlide_38 (by decide) ?_
        refine rj_zret dX2_canSlide_42 (rfl) ?_
        first | (refine ⟨?_, rfl⟩; rw [if_pos (by omega)]; done) | (refine ⟨?_, rfl⟩; rw [if_neg (by omega)]; done) | (exfalso; omega)

set_option maxRecDepth 100000 in
theorem c_X2_canThird {l : Launch} {X : CX} {σ : ST} {k : Nat} {xs : List Int32} (hk : kd k = 2) (hx : Rw σ k xs) {i : Int32} : MJ l X 2 yX2_canThird cX2_canThird 4 (some .boolean) [.ref (ad X k), .int i] σ (eqI (if 0 ≤ i.toInt ∧ cth xs i.toInt.toNat then 1 else 0) σ) := by
  refine MJ_of (own := RX2) [some (.ref (ad X k)), some (.int i), none, none] (by decide) rfl (Nat.le_of_ble_eq_true rfl) rfl ?_
  have hsm := hx.small hk
  have hlo := i_lo i
  have hhi := i_hi i
  refine rj_ald0 dX2_canThird_0 rfl ?_
  refine rj_ild1 dX2_canThird_1 rfl ?_
  refine rj_V1i (ci := 2) cX2_23 rfl (by decide) (by first | assumption | rfl) dX2_canThird_2 (c_X2_has hk hx.1 hx.2.1) (fitM (by decide) (by decide)) (Nat.le_of_ble_eq_true rfl) ?_
  refine rj_if_eq (tgt := 28) dX2_canThird_5 (by decide) (fun h_5 => ?_) (fun h_5 => ?_)
  · have hb_5 := bz_t h_5
    refine rj_ic0 dX2_canThird_28 ?_
    refine rj_zret dX2_canThird_29 (rfl) ?_
    first | (refine ⟨?_, rfl⟩; rw [if_pos (by omega)]; done) | (refine ⟨?_, rfl⟩; rw [if_neg (by omega)]; done) | (exfalso; omega)
  · have hb_5 := bz_f h_5
    have hi1 : (i + 1).toInt = i.toInt + 1 := by rw [i_add (by rw [t1]; omega) (by rw [t1]; omega), t1]
    refine rj_ald0 dX2_canThird_8 rfl ?_
    refine rj_ild1 dX2_canThird_9 rfl ?_
    refine rj_ic1 dX2_canThird_10 ?_
    refine rj_iadd dX2_canThird_11 ?_
    refine rj_V1i (ci := 2) cX2_23 rfl (by decide) (by first | assumption | rfl) dX2_canThird_12 (c_X2_has hk hx.1 hx.2.1) (fitM (by decide) (by decide)) (Nat.le_of_ble_eq_true rfl) ?_
    refine rj_if_eq (tgt := 28) dX2_canThird_15 (by decide) (fun h_15 => ?_) (fun h_15 => ?_)
    · have hb_15 := bz_t h_15
      refine rj_ic0 dX2_canThird_28 ?_
      refine rj_zret dX2_canThird_29 (rfl) ?_
      first | (refine ⟨?_, rfl⟩; rw [if_pos (by omega)]; done) | (refine ⟨?_, rfl⟩; rw [if_neg (by omega)]; done) | (exfalso; omega)
    · have hb_15 := bz_f h_15
      have hi2 : (i + 2).toInt = i.toInt + 2 := by rw [i_add (by rw [show (2 : Int32).toInt = 2 by decide]; omega) (by rw [show (2 : Int32).toInt = 2 by decide]; omega), show (2 : Int32).toInt = 2 by decide]
      refine rj_ald0 dX2_canThird_18 rfl ?_
      refine rj_ild1 dX2_canThird_19 rfl ?_
      refine rj_ic2 dX2_canThird_20 ?_
      refine rj_iadd dX2_canThird_21 ?_
      refine rj_V1i (ci := 2) cX2_23 rfl (by decide) (by first | assumption | rfl) dX2_canThird_22 (c_X2_has hk hx.1 hx.2.1) (fitM (by decide) (by decide)) (Nat.le_of_ble_eq_true rfl) ?_
      refine rj_if_ne (tgt := 30) dX2_canThird_25 (by decide) (fun h_25 => ?_) (fun h_25 => ?_)
      · have hb_25 := bz_f h_25
        refine rj_ald0 dX2_canThird_30 rfl ?_
        refine rj_ild1 dX2_canThird_31 rfl ?_
        refine rj_V1i (ci := 2) cX2_30 rfl (by decide) (by first | assumption | rfl) dX2_canThird_32 (c_X2_atL hk hx) (fitM (by decide) (by decide)) (Nat.le_of_ble_eq_true rfl) ?_
        rw [rat_in (j := i.toInt.toNat) (by omega) (by omega)]
        refine rj_ist2 dX2_canThird_35 (by decide) rfl ?_
        refine rj_ald0 dX2_canThird_36 rfl ?_
        refine rj_ild1 dX2_canThird_37 rfl ?_
        refine rj_ic1 dX2_canThird_38 ?_
        refine rj_iadd dX2_canThird_39 ?_
        refine rj_V1i (ci := 2) cX2_30 rfl (by decide) (by first | assumption | rfl) dX2_canThird_40 (c_X2_atL hk hx) (fitM (by decide) (by decide)) (Nat.le_of_ble_eq_true rfl) ?_
        rw [rat_in (j := i.toInt.toNat + 1) (by omega) (by omega)]
        refine rj_ist3 dX2_canThird_43 (by decide) rfl ?_
        refine rj_ild2 dX2_canThird_44 rfl ?_
        refine rj_ald0 dX2_canThird_45 rfl ?_
        refine rj_ild1 dX2_canThird_46 rfl ?_
        refine rj_ic2 dX2_canThird_47 ?_
        refine rj_iadd dX2_canThird_48 ?_
        refine rj_V1i (ci := 2) cX2_30 rfl (by decide) (by first | assumption | rfl) dX2_canThird_49 (c_X2_atL hk hx) (fitM (by decide) (by decide)) (Nat.le_of_ble_eq_true rfl) ?_
        rw [rat_in (j := i.toInt.toNat + 2) (by omega) (by omega)]
        refine rj_ic_ne (tgt := 89) dX2_canThird_52 (by decide) (fun h_52 => ?_) (fun h_52 => ?_)
        · refine rj_ic0 dX2_canThird_89 ?_
          refine rj_zret dX2_canThird_90 (rfl) ?_
          refine ⟨?_, rfl⟩
          rw [if_neg]
          intro q; exact absurd q.2.2.1 h_52
        · refine rj_ild2 dX2_canThird_55 rfl ?_
          refine rj_if_le (tgt := 63) dX2_canThird_56 (by decide) (fun h_56 => ?_) (fun h_56 => ?_)
          · refine rj_ic0 dX2_canThird_63 ?_
            refine rj_ild3 dX2_canThird_64 rfl ?_
            refine rj_if_le (tgt := 72) dX2_canThird_65 (by decide) (fun h_65 => ?_) (fun h_65 => ?_)
            · refine rj_ic0 dX2_canThird_72 ?_
              refine rj_ic_ne (tgt := 89) dX2_canThird_73 (by decide) (fun h_73 => ?_) (fun h_73 => ?_)
              · refine rj_ic0 dX2_canThird_89 ?_
                refine rj_zret dX2_canThird_90 (rfl) ?_
                refine ⟨?_, rfl⟩
                rw [if_neg]
                intro q; have := q.2.2.2.1; first | exact absurd rfl h_73 | omega
              · refine rj_ild2 dX2_canThird_76 rfl ?_
                refine rj_ild3 dX2_canThird_77 rfl ?_
                refine rj_S2i cX2_68 dX2_canThird_78 c_X2_distance (fitM (by decide) (by decide)) (Nat.le_of_ble_eq_true rfl) ?_
                refine rj_ic1 dX2_canThird_81 ?_
                refine rj_ic_ne (tgt := 89) dX2_canThird_82 (by decide) (fun h_82 => ?_) (fun h_82 => ?_)
                · refine rj_ic0 dX2_canThird_89 ?_
                  refine rj_zret dX2_canThird_90 (rfl) ?_
                  refine ⟨?_, rfl⟩
                  rw [if_neg]
                  intro q; exact absurd q.2.2.2.2 h_82
                · refine rj_ic1 dX2_canThird_85 ?_
                  refine rj_goto (tgt := 90) dX2_canThird_86 (by decide) ?_
                  refine rj_zret dX2_canThird_90 (rfl) ?_
                  refine ⟨?_, rfl⟩
                  rw [if_pos]
                  exact ⟨by omega, by omega, h_52, by constructor <;> intro _ <;> first | omega | exact absurd h_73 (by decide), h_82⟩
            · refine rj_ic1 dX2_canThird_68 ?_
              refine rj_goto (tgt := 73) dX2_canThird_69 (by decide) ?_
              refine rj_ic_ne (tgt := 89) dX2_canThird_73 (by decide) (fun h_73 => ?_) (fun h_73 => ?_)
              · refine rj_ic0 dX2_canThird_89 ?_
                refine rj_zret dX2_canThird_90 (rfl) ?_
                refine ⟨?_, rfl⟩
                rw [if_neg]
                intro q; have := q.2.2.2.1; first | exact absurd rfl h_73 | omega
              · refine rj_ild2 dX2_canThird_76 rfl ?_
                refine rj_ild3 dX2_canThird_77 rfl ?_
                refine rj_S2i cX2_68 dX2_canThird_78 c_X2_distance (fitM (by decide) (by decide)) (Nat.le_of_ble_eq_true rfl) ?_
                refine rj_ic1 dX2_canThird_81 ?_
                refine rj_ic_ne (tgt := 89) dX2_canThird_82 (by decide) (fun h_82 => ?_) (fun h_82 => ?_)
                · refine rj_ic0 dX2_canThird_89 ?_
                  refine rj_zret dX2_canThird_90 (rfl) ?_
                  refine ⟨?_, rfl⟩
                  rw [if_neg]
                  intro q; exact absurd q.2.2.2.2 h_82
                · refine rj_ic1 dX2_canThird_85 ?_
                  refine rj_goto (tgt := 90) dX2_canThird_86 (by decide) ?_
                  refine rj_zret dX2_canThird_90 (rfl) ?_
                  refine ⟨?_, rfl⟩
                  rw [if_pos]
                  exact ⟨by omega, by omega, h_52, by constructor <;> intro _ <;> first | omega | exact absurd h_73 (by decide), h_82⟩
          · refine rj_ic1 dX2_canThird_59 ?_
            refine rj_goto (tgt := 64) dX2_canThird_60 (by decide) ?_
            refine rj_ild3 dX2_canThird_64 rfl ?_
            refine rj_if_le (tgt := 72) dX2_canThird_65 (by decide) (fun h_65 => ?_) (fun h_65 => ?_)
            · refine rj_ic0 dX2_canThird_72 ?_
              refine rj_ic_ne (tgt := 89) dX2_canThird_73 (by decide) (fun h_73 => ?_) (fun h_73 => ?_)
              · refine rj_ic0 dX2_canThird_89 ?_
                refine rj_zret dX2_canThird_90 (rfl) ?_
                refine ⟨?_, rfl⟩
                rw [if_neg]
                intro q; have := q.2.2.2.1; first | exact absurd rfl h_73 | omega
              · refine rj_ild2 dX2_canThird_76 rfl ?_
                refine rj_ild3 dX2_canThird_77 rfl ?_
                refine rj_S2i cX2_68 dX2_canThird_78 c_X2_distance (fitM (by decide) (by decide)) (Nat.le_of_ble_eq_true rfl) ?_
                refine rj_ic1 dX2_canThird_81 ?_
                refine rj_ic_ne (tgt := 89) dX2_canThird_82 (by decide) (fun h_82 => ?_) (fun h_82 => ?_)
                · refine rj_ic0 dX2_canThird_89 ?_
                  refine rj_zret dX2_canThird_90 (rfl) ?_
                  refine ⟨?_, rfl⟩
                  rw [if_neg]
                  intro q; exact absurd q.2.2.2.2 h_82
                · refine rj_ic1 dX2_canThird_85 ?_
                  refine rj_goto (tgt := 90) dX2_canThird_86 (by decide) ?_
                  refine rj_zret dX2_canThird_90 (rfl) ?_
                  refine ⟨?_, rfl⟩
                  rw [if_pos]
                  exact ⟨by omega, by omega, h_52, by constructor <;> intro _ <;> first | omega | exact absurd h_73 (by decide), h_82⟩
            · refine rj_ic1 dX2_canThird_68 ?_
              refine rj_goto (tgt := 73) dX2_canThird_69 (by decide) ?_
              refine rj_ic_ne (tgt := 89) dX2_canThird_73 (by decide) (fun h_73 => ?_) (fun h_73 => ?_)
              · refine rj_ic0 dX2_canThird_89 ?_
                refine rj_zret dX2_canThird_90 (rfl) ?_
                refine ⟨?_, rfl⟩
                rw [if_neg]
                intro q; have := q.2.2.2.1; first | exact absurd rfl h_73 | omega
              · refine rj_ild2 dX2_canThird_76 rfl ?_
                refine rj_ild3 dX2_canThird_77 rfl ?_
                refine rj_S2i cX2_68 dX2_canThird_78 c_X2_distance (fitM (by decide) (by decide)) (Nat.le_of_ble_eq_true rfl) ?_
                refine rj_ic1 dX2_canThird_81 ?_
                refine rj_ic_ne (tgt := 89) dX2_canThird_82 (by decide) (fun h_82 => ?_) (fun h_82 => ?_)
                · refine rj_ic0 dX2_canThird_89 ?_
                  refine rj_zret dX2_canThird_90 (rfl) ?_
                  refine ⟨?_, rfl⟩
                  rw [if_neg]
                  intro q; exact absurd q.2.2.2.2 h_82
                · refine rj_ic1 dX2_canThird_85 ?_
                  refine rj_goto (tgt := 90) dX2_canThird_86 (by decide) ?_
                  refine rj_zret dX2_canThird_90 (rfl) ?_
                  refine ⟨?_, rfl⟩
                  rw [if_pos]
                  exact ⟨by omega, by omega, h_52, by constructor <;> intro _ <;> first | omega | exact absurd h_73 (by decide), h_82⟩
      · have hb_25 := bz_t h_25
        refine rj_ic0 dX2_canThird_28 ?_
        refine rj_zret dX2_canThird_29 (rfl) ?_
        first | (refine ⟨?_, rfl⟩; rw [if_pos (by omega)]; done) | (refine ⟨?_, rfl⟩; rw [if_neg (by omega)]; done) | (exfalso; omega)

set_option maxRecDepth 100000 in
theorem c_X2_makeSlide {l : Launch} {X : CX} {σ : ST} {k : Nat} {xs : List Int32} (hk : kd k = 2) (hx : Rw σ k xs) {i : Int32} {j : Nat} (hi : i.toInt = j) (hj : j + 1 < xs.length) : MJ l X 2 yX2_makeSlide cX2_makeSlide 3 none [.ref (ad X k), .int i] σ (PV (fun τ => Rw τ k (msl xs j) ∧ off (rowC k) σ τ)) := by
  refine MJ_of (own := RX2) [some (.ref (ad X k)), some (.int i), none] (by decide) rfl (Nat.le_of_ble_eq_true rfl) rfl ?_
  have hsm := hx.small hk
  have hlo := i_lo i
  have hhi := i_hi i
  have hi1 : (i + 1).toInt = i.toInt + 1 := by rw [i_add (by rw [t1]; omega) (by rw [t1]; omega), t1]
  have hj1 : (i + 1).toInt = (j + 1 : Nat) := by omega
  refine rj_ald0 dX2_makeSlide_0 rfl ?_
  refine rj_ild1 dX2_makeSlide_1 rfl ?_
  refine rj_V1i (ci := 2) cX2_30 rfl (by decide) (by first | assumption | rfl) dX2_makeSlide_2 (c_X2_atL hk hx) (fitM (by decide) (by decide)) (Nat.le_of_ble_eq_true rfl) ?_
  rw [rat_in hi (by omega)]
  refine rj_ist2 dX2_makeSlide_5 (by decide) rfl ?_
  refine rj_ald0 dX2_makeSlide_6 rfl ?_
  refine rj_ild1 dX2_makeSlide_7 rfl ?_
  refine rj_ald0 dX2_makeSlide_8 rfl ?_
  refine rj_ild1 dX2_makeSlide_9 rfl ?_
  refine rj_ic1 dX2_makeSlide_10 ?_
  refine rj_iadd dX2_makeSlide_11 ?_
  refine rj_V1i (ci := 2) cX2_30 rfl (by decide) (by first | assumption | rfl) dX2_makeSlide_12 (c_X2_atL hk hx) (fitM (by decide) (by decide)) (Nat.le_of_ble_eq_true rfl) ?_
  rw [rat_in hj1 (by omega)]
  refine rj_V2 (ci := 2) cX2_34 rfl (by decide) (by first | assumption | rfl) dX2_makeSlide_15 (c_X2_putL hk hx hi (by omega)) (fitM (by decide) (by decide)) (Nat.le_of_ble_eq_true rfl) ?_
  rintro v τ ⟨rfl, hx1, ho1⟩
  simp only [Option.toList, List.nil_append]
  refine rj_ald0 dX2_makeSlide_18 rfl ?_
  refine rj_ild1 dX2_makeSlide_19 rfl ?_
  refine rj_ic1 dX2_makeSlide_20 ?_
  refine rj_iadd dX2_makeSlide_21 ?_
  refine rj_ild2 dX2_makeSlide_22 rfl ?_
  refine rj_V2 (ci := 2) cX2_34 rfl (by decide) (by first | assumption | rfl) dX2_makeSlide_23 (c_X2_putL hk hx1 hj1 (by simp; omega)) (fitM (by decide) (by decide)) (Nat.le_of_ble_eq_true rfl) ?_
  rintro v υ ⟨rfl, hx2, ho2⟩
  simp only [Option.toList, List.nil_append]
  refine rj_vret dX2_makeSlide_26 ?_
  exact ⟨rfl, hx2, ho1.tr ho2⟩

set_option maxRecDepth 100000 in
theorem c_X2_makeThird {l : Launch} {X : CX} {σ : ST} {k : Nat} {xs : List Int32} (hk : kd k = 2) (hx : Rw σ k xs) {i : Int32} {j : Nat} (hi : i.toInt = j) (hj : j + 2 < xs.length) : MJ l X 2 yX2_makeThird cX2_makeThird 4 none [.ref (ad X k), .int i] σ (PV (fun τ => Rw τ k (mth xs j) ∧ off (rowC k) σ τ)) := by
  refine MJ_of (own := RX2) [some (.ref (ad X k)), some (.int i), none, none] (by decide) rfl (Nat.le_of_ble_eq_true rfl) rfl ?_
  have hsm := hx.small hk
  have hlo := i_lo i
  have hhi := i_hi i
  have hi1 : (i + 1).toInt = i.toInt + 1 := by rw [i_add (by rw [t1]; omega) (by rw [t1]; omega), t1]
  have hi2 : (i + 2).toInt = i.toInt + 2 := by rw [i_add (by rw [show (2 : Int32).toInt = 2 by decide]; omega) (by rw [show (2 : Int32).toInt = 2 by decide]; omega), show (2 : Int32).toInt = 2 by decide]
  have hj1 : (i + 1).toInt = (j + 1 : Nat) := by omega
  have hj2 : (i + 2).toInt = (j + 2 : Nat) := by omega
  refine rj_ald0 dX2_makeThird_0 rfl ?_
  refine rj_ild1 dX2_makeThird_1 rfl ?_
  refine rj_V1i (ci := 2) cX2_30 rfl (by decide) (by first | assumption | rfl) dX2_makeThird_2 (c_X2_atL hk hx) (fitM (by decide) (by decide)) (Nat.le_of_ble_eq_true rfl) ?_
  rw [rat_in hi (by omega)]
  refine rj_ist2 dX2_makeThird_5 (by decide) rfl ?_
  refine rj_ald0 dX2_makeThird_6 rfl ?_
  refine rj_ild1 dX2_makeThird_7 rfl ?_
  refine rj_ic1 dX2_makeThird_8 ?_
  refine rj_iadd dX2_makeThird_9 ?_
  refine rj_V1i (ci := 2) cX2_30 rfl (by decide) (by first | assumption | rfl) dX2_makeThird_10 (c_X2_atL hk hx) (fitM (by decide) (by decide)) (Nat.le_of_ble_eq_true rfl) ?_
  rw [rat_in hj1 (by omega)]
  refine rj_ist3 dX2_makeThird_13 (by decide) rfl ?_
  refine rj_ald0 dX2_makeThird_14 rfl ?_
  refine rj_ild1 dX2_makeThird_15 rfl ?_
  refine rj_ild3 dX2_makeThird_16 rfl ?_
  refine rj_V2 (ci := 2) cX2_34 rfl (by decide) (by first | assumption | rfl) dX2_makeThird_17 (c_X2_putL hk hx hi (by omega)) (fitM (by decide) (by decide)) (Nat.le_of_ble_eq_true rfl) ?_
  rintro v τ ⟨rfl, hx1, ho1⟩
  simp only [Option.toList, List.nil_append]
  refine rj_ald0 dX2_makeThird_20 rfl ?_
  refine rj_ild1 dX2_makeThird_21 rfl ?_
  refine rj_ic1 dX2_makeThird_22 ?_
  refine rj_iadd dX2_makeThird_23 ?_
  refine rj_ild2 dX2_makeThird_24 rfl ?_
  refine rj_V2 (ci := 2) cX2_34 rfl (by decide) (by first | assumption | rfl) dX2_makeThird_25 (c_X2_putL hk hx1 hj1 (by simp; omega)) (fitM (by decide) (by decide)) (Nat.le_of_ble_eq_true rfl) ?_
  rintro v υ ⟨rfl, hx2, ho2⟩
  simp only [Option.toList, List.nil_append]
  refine rj_ald0 dX2_makeThird_28 rfl ?_
  refine rj_ild1 dX2_makeThird_29 rfl ?_
  refine rj_ic2 dX2_makeThird_30 ?_
  refine rj_iadd dX2_makeThird_31 ?_
  refine rj_ild3 dX2_makeThird_32 rfl ?_
  refine rj_V2 (ci := 2) cX2_34 rfl (by decide) (by first | assumption | rfl) dX2_makeThird_33 (c_X2_putL hk hx2 hj2 (by simp; omega)) (fitM (by decide) (by decide)) (Nat.le_of_ble_eq_true rfl) ?_
  rintro v φ ⟨rfl, hx3, ho3⟩
  simp only [Option.toList, List.nil_append]
  refine rj_vret dX2_makeThird_36 ?_
  exact ⟨rfl, hx3, (ho1.tr ho2).tr ho3⟩

set_option maxRecDepth 100000 in
theorem c_X2_makeMove {l : Launch} {X : CX} {σ : ST} {k : Nat} {xs : List Int32} (hk : kd k = 2) (hx : Rw σ k xs) {i : Int32} {j : Nat} (hi : i.toInt = j) : MJ l X 3 yX2_makeMove cX2_makeMove 2 (some .boolean) [.ref (ad X k), .int i] σ (fun v τ => v = some (.int (if csl xs j ∨ cth xs j then 1 else 0)) ∧ Rw τ k (mv xs j) ∧ off (rowC k) σ τ) := by
  refine MJ_of (own := RX2) [some (.ref (ad X k)), some (.int i)] (by decide) rfl (Nat.le_of_ble_eq_true rfl) rfl ?_
  have hjt : i.toInt.toNat = j := by omega
  refine rj_ald0 dX2_makeMove_0 rfl ?_
  refine rj_ild1 dX2_makeMove_1 rfl ?_
  refine rj_V1i (ci := 2) cX2_71 rfl (by decide) (by first | assumption | rfl) dX2_makeMove_2 (c_X2_canSlide hk hx) (fitM (by decide) (by decide)) (Nat.le_of_ble_eq_true rfl) ?_
  refine rj_if_eq (tgt := 15) dX2_makeMove_5 (by decide) (fun h_5 => ?_) (fun h_5 => ?_)
  · have hb_5 := bz_t h_5
    refine rj_ald0 dX2_makeMove_15 rfl ?_
    refine rj_ild1 dX2_makeMove_16 rfl ?_
    refine rj_V1i (ci := 2) cX2_77 rfl (by decide) (by first | assumption | rfl) dX2_makeMove_17 (c_X2_canThird hk hx) (fitM (by decide) (by decide)) (Nat.le_of_ble_eq_true rfl) ?_
    refine rj_if_eq (tgt := 30) dX2_makeMove_20 (by decide) (fun h_20 => ?_) (fun h_20 => ?_)
    · have hb_20 := bz_t h_20
      refine rj_ic0 dX2_makeMove_30 ?_
      refine rj_zret dX2_makeMove_31 (rfl) ?_
      rw [hjt] at hb_5 hb_20
      exact ⟨by rw [if_neg (fun q => q.elim (fun z => hb_5 ⟨by omega, z⟩) (fun z => hb_20 ⟨by omega, z⟩))], by unfold mv; rw [if_neg (fun q => hb_5 ⟨by omega, q⟩), if_neg (fun q => hb_20 ⟨by omega, q⟩)]; exact hx, off.rf⟩
    · have hb_20 := bz_f h_20
      refine rj_ald0 dX2_makeMove_23 rfl ?_
      refine rj_ild1 dX2_makeMove_24 rfl ?_
      refine rj_V1 (ci := 2) cX2_80 rfl (by decide) (by first | assumption | rfl) dX2_makeMove_25 (c_X2_makeThird hk hx hi (by rw [hjt] at hb_20; exact hb_20.2.1)) (fitM (by decide) (by decide)) (Nat.le_of_ble_eq_true rfl) ?_
      rintro v τ ⟨rfl, hx1, ho1⟩
      simp only [Option.toList, List.nil_append]
      refine rj_ic1 dX2_makeMove_28 ?_
      refine rj_zret dX2_makeMove_29 (rfl) ?_
      rw [hjt] at hb_5 hb_20
      exact ⟨by rw [if_pos (Or.inr hb_20.2)], by unfold mv; rw [if_neg (fun q => hb_5 ⟨by omega, q⟩), if_pos hb_20.2]; exact hx1, ho1⟩
  · have hb_5 := bz_f h_5
    refine rj_ald0 dX2_makeMove_8 rfl ?_
    refine rj_ild1 dX2_makeMove_9 rfl ?_
    refine rj_V1 (ci := 2) cX2_74 rfl (by decide) (by first | assumption | rfl) dX2_makeMove_10 (c_X2_makeSlide hk hx hi (by rw [hjt] at hb_5; exact hb_5.2.1)) (fitM (by decide) (by decide)) (Nat.le_of_ble_eq_true rfl) ?_
    rintro v τ ⟨rfl, hx1, ho1⟩
    simp only [Option.toList, List.nil_append]
    refine rj_ic1 dX2_makeMove_13 ?_
    refine rj_zret dX2_makeMove_14 (rfl) ?_
    rw [hjt] at hb_5
    exact ⟨by rw [if_pos (Or.inl hb_5.2)], by unfold mv; rw [if_pos hb_5.2]; exact hx1, ho1⟩

def sgs (xs : List Int32) : Int32 := xs.foldl (fun a c => a + sg c) 0
theorem sgs_snoc (xs : List Int32) (c : Int32) : sgs (xs ++ [c]) = sgs xs + sg c := by simp [sgs]
theorem nIt {i : Nat} (h : i ≤ 24) : (nI i).toInt = i := nI_t (by omega)
set_option maxRecDepth 100000 in
theorem l_X2_signSum {l : Launch} {X : CX} {h : Nat} {Q : Option Value → ST → Prop} {σ : ST} {k : Nat} {xs : List Int32} (hh : 2 ≤ h) (hk : kd k = 2) (hx : Rw σ k xs) (hQ : Q (some (.int (sgs xs))) σ) : ∀ (N i : Nat), xs.length < i + N → i ≤ xs.length → RJ (GM l X h Q) X cX2_signSum 3 (some .int) RX2 4 [some (.ref (ad X k)), some (.int (sgs (xs.take i))), some (.int (nI i))] [] σ := by
  intro N
  induction N with
  | zero => intro i hN hi; exact absurd hN (by omega)
  | succ N ih =>
    intro i hN hi
    have hsm := hx.small hk
    have hit := nIt (i := i) (by omega)
    have hsz := hx.1
    refine rj_ild2 dX2_signSum_4 rfl ?_
    refine rj_ald0 dX2_signSum_5 rfl ?_
    refine g2_7 (by first | assumption | rfl) dX2_signSum_6 ?_
    refine rj_ic_ge (tgt := 29) dX2_signSum_9 (by decide) (fun h_9 => ?_) (fun h_9 => ?_)
    · have hie : i = xs.length := by omega
      subst hie
      rw [List.take_length]
      refine rj_ild1 dX2_signSum_29 rfl ?_
      refine rj_iret dX2_signSum_30 ?_
      exact hQ
    · refine rj_ild1 dX2_signSum_12 rfl ?_
      refine rj_ald0 dX2_signSum_13 rfl ?_
      refine rj_ild2 dX2_signSum_14 rfl ?_
      refine rj_V1i (ci := 2) cX2_30 rfl (by decide) (by first | assumption | rfl) dX2_signSum_15 (c_X2_atL hk hx) (fitM (by omega) (by decide)) (Nat.le_of_ble_eq_true rfl) ?_
      rw [rat_in hit (by omega)]
      refine rj_N1i cX2_60 dX2_signSum_18 c_X11_signOf (fitM (by omega) (by decide)) (Nat.le_of_ble_eq_true rfl) ?_
      refine rj_iadd dX2_signSum_21 ?_
      rw [← sgs_snoc, ← take_snoc (by omega)]
      refine rj_ist1 dX2_signSum_22 (by decide) rfl ?_
      refine rj_iinc2 (d := 1) dX2_signSum_23 (by decide) rfl (by decide) ?_
      rw [nI_1]
      refine rj_goto (tgt := 4) dX2_signSum_26 (by decide) ?_
      exact ih (i + 1) (by omega) (by omega)

set_option maxRecDepth 100000 in
theorem c_X2_signSum {l : Launch} {X : CX} {σ : ST} {k : Nat} {xs : List Int32} (hk : kd k = 2) (hx : Rw σ k xs) : MJ l X 2 yX2_signSum cX2_signSum 3 (some .int) [.ref (ad X k)] σ (eqI (sgs xs) σ) := by
  refine MJ_of (own := RX2) [some (.ref (ad X k)), none, none] (by decide) rfl (Nat.le_of_ble_eq_true rfl) rfl ?_
  refine rj_ic0 dX2_signSum_0 ?_
  refine rj_ist1 dX2_signSum_1 (by decide) rfl ?_
  refine rj_ic0 dX2_signSum_2 ?_
  refine rj_ist2 dX2_signSum_3 (by decide) rfl ?_
  exact l_X2_signSum (by decide) hk hx ⟨rfl, rfl⟩ (xs.length + 1) 0 (by omega) (by omega)

theorem getD_ext {xs ys : List Int32} (hl : xs.length = ys.length) (h : ∀ i, i < xs.length → xs.getD i 0 = ys.getD i 0) : xs = ys := by
  apply List.ext_getElem hl
  intro i h1 h2
  have := h i h1
  simpa [List.getD, List.getElem?_eq_getElem h1, List.getElem?_eq_getElem h2] using this
set_option maxRecDepth 100000 in
theorem l_X2_isSameRow {l : Launch} {X : CX} {h : Nat} {Q : Option Value → ST → Prop} {σ : ST} {k k1 : Nat} {xs ys : List Int32} (hh : 2 ≤ h) (hk : kd k = 2) (h1 : kd k1 = 2) (hx : Rw σ k xs) (hy : Rw σ k1 ys) (hl : xs.length = ys.length) (hQ : Q (some (.int (if xs = ys then 1 else 0))) σ) : ∀ (N i : Nat), xs.length < i + N → (i ≤ xs.length ∧ ∀ j, j < i → xs.getD j 0 = ys.getD j 0) → RJ (GM l X h Q) X cX2_isSameRow 3 (some .boolean) RX2 15 [some (.ref (ad X k)), some (.ref (ad X k1)), some (.int (nI i))] [] σ := by
  intro N
  induction N with
  | zero => intro i hN hi; have := hi.1; exact absurd hN (by omega)
  | succ N ih =>
    intro i hN hi
    obtain ⟨hi, hv⟩ := hi
    have hsm := hx.small hk
    have hit := nIt (i := i) (by omega)
    have hsz := hx.1
    refine rj_ild2 dX2_isSameRow_15 rfl ?_
    refine rj_ald0 dX2_isSameRow_16 rfl ?_
    refine g2_7 (by first | assumption | rfl) dX2_isSameRow_17 ?_
    refine rj_ic_ge (tgt := 44) dX2_isSameRow_20 (by decide) (fun h_20 => ?_) (fun h_20 => ?_)
    · refine rj_ic1 dX2_isSameRow_44 ?_
      refine rj_zret dX2_isSameRow_45 (rfl) ?_
      rw [if_pos (getD_ext hl (fun j hj => hv j (by omega)))] at hQ
      exact hQ
    · refine rj_ald0 dX2_isSameRow_23 rfl ?_
      refine rj_ild2 dX2_isSameRow_24 rfl ?_
      refine rj_V1i (ci := 2) cX2_30 rfl (by decide) (by first | assumption | rfl) dX2_isSameRow_25 (c_X2_atL hk hx) (fitM (by omega) (by decide)) (Nat.le_of_ble_eq_true rfl) ?_
      rw [rat_in hit (by omega)]
      refine rj_ald1 dX2_isSameRow_28 rfl ?_
      refine rj_ild2 dX2_isSameRow_29 rfl ?_
      refine rj_V1i (ci := 2) cX2_30 rfl (by decide) (by first | assumption | rfl) dX2_isSameRow_30 (c_X2_atL h1 hy) (fitM (by omega) (by decide)) (Nat.le_of_ble_eq_true rfl) ?_
      rw [rat_in (xs := ys) hit (by omega)]
      refine rj_ic_eq (tgt := 38) dX2_isSameRow_33 (by decide) (fun h_33 => ?_) (fun h_33 => ?_)
      · refine rj_iinc2 (d := 1) dX2_isSameRow_38 (by decide) rfl (by decide) ?_
        rw [nI_1]
        refine rj_goto (tgt := 15) dX2_isSameRow_41 (by decide) ?_
        exact ih (i + 1) (by omega) ⟨by omega, fun j hj => by rcases Nat.lt_or_ge j i with q | q; exact hv j q; rw [show j = i by omega]; exact h_33⟩
      · refine rj_ic0 dX2_isSameRow_36 ?_
        refine rj_zret dX2_isSameRow_37 (rfl) ?_
        rw [if_neg (fun q => h_33 (by rw [q]))] at hQ
        exact hQ

set_option maxRecDepth 100000 in
theorem c_X2_isSameRow {l : Launch} {X : CX} {σ : ST} {k k1 : Nat} {xs ys : List Int32} (hk : kd k = 2) (h1 : kd k1 = 2) (hx : Rw σ k xs) (hy : Rw σ k1 ys) : MJ l X 2 yX2_isSameRow cX2_isSameRow 3 (some .boolean) [.ref (ad X k), .ref (ad X k1)] σ (eqI (if xs = ys then 1 else 0) σ) := by
  refine MJ_of (own := RX2) [some (.ref (ad X k)), some (.ref (ad X k1)), none] (by decide) rfl (Nat.le_of_ble_eq_true rfl) rfl ?_
  have hsx := hx.1
  have hsy := hy.1
  refine rj_ald0 dX2_isSameRow_0 rfl ?_
  refine g2_7 (by first | assumption | rfl) dX2_isSameRow_1 ?_
  refine rj_ald1 dX2_isSameRow_4 rfl ?_
  refine g2_7 (by first | assumption | rfl) dX2_isSameRow_5 ?_
  refine rj_ic_eq (tgt := 13) dX2_isSameRow_8 (by decide) (fun h_8 => ?_) (fun h_8 => ?_)
  · refine rj_ic0 dX2_isSameRow_13 ?_
    refine rj_ist2 dX2_isSameRow_14 (by decide) rfl ?_
    exact l_X2_isSameRow (by decide) hk h1 hx hy (by rw [h_8] at hsx; omega) ⟨rfl, rfl⟩ (xs.length + 1) 0 (by omega) ⟨by omega, fun j hj => absurd hj (by omega)⟩
  · refine rj_ic0 dX2_isSameRow_11 ?_
    refine rj_zret dX2_isSameRow_12 (rfl) ?_
    refine ⟨?_, rfl⟩
    rw [if_neg]
    intro q
    rw [q] at hsx
    exact h_8 (i_inj (by omega))

/-! ties -/
theorem tie_all : ∀ k, k < 129 → kd k = 8 → (kd (k + 1) = 2 ∧ kd (k + 1 + 1) = 13 ∧ ln (k + 1 + 1) = 12) := by decide +kernel
theorem tie_next {k : Nat} (h : kd k = 8) : kd (k + 1) = 2 ∧ kd (k + 1 + 1) = 13 ∧ ln (k + 1 + 1) = 12 := tie_all k (kd_lt (by omega)) h
/-- one crossing, and a row, as a kind lays them -/
def lc (kind rc c : Int32) : Int32 := if kind = 1 ∨ kind = 4 then -c else if kind = 5 then (if 0 < c.toInt then c - rc else c + rc) else c
def ly1 (kind rc : Int32) (xs : List Int32) : List Int32 := (if kind = 2 ∨ kind = 4 then xs.reverse else xs).map (lc kind rc)
def ly (kind rc : Int32) (xs : List Int32) : List Int32 := if kind = 3 then ly1 kind rc xs ++ ly1 kind rc xs else ly1 kind rc xs
def lyN (kind : Int32) (n : Nat) : Nat := if kind = 3 then 2 * n else n
theorem ly1_len (kind rc : Int32) (xs : List Int32) : (ly1 kind rc xs).length = xs.length := by unfold ly1; split <;> simp
theorem ly_len (kind rc : Int32) (xs : List Int32) : (ly kind rc xs).length = lyN kind xs.length := by unfold ly lyN; split <;> simp [ly1_len]; omega
theorem lyN_le {kind : Int32} {n : Nat} (h : n ≤ 12) : lyN kind n ≤ 24 := by unfold lyN; split <;> omega
theorem ly1_get {kind rc : Int32} {xs : List Int32} {j : Nat} (h : j < xs.length) : (ly1 kind rc xs).getD j 0 = lc kind rc (xs.getD (if kind = 2 ∨ kind = 4 then xs.length - 1 - j else j) 0) := by
  unfold ly1
  by_cases q : kind = 2 ∨ kind = 4
  · rw [if_pos q, if_pos q]
    rw [List.getD, List.getElem?_map, List.getElem?_reverse h, List.getD, List.getElem?_eq_getElem (show xs.length - 1 - j < xs.length by omega)]
    rfl
  · rw [if_neg q, if_neg q]
    simp [List.getD, List.getElem?_eq_getElem h]
theorem ly_get {kind rc : Int32} {xs : List Int32} {i : Nat} (h : i < lyN kind xs.length) : (ly kind rc xs).getD i 0 = (ly1 kind rc xs).getD (if i < xs.length then i else i - xs.length) 0 := by
  unfold ly
  by_cases q : kind = 3
  · rw [if_pos q]
    by_cases z : i < xs.length
    · rw [if_pos z]; simp [List.getD, List.getElem?_append_left (show i < (ly1 kind rc xs).length by rw [ly1_len]; exact z)]
    · rw [if_neg z]; simp [List.getD, List.getElem?_append_right (show (ly1 kind rc xs).length ≤ i by rw [ly1_len]; omega), ly1_len]
  · unfold lyN at h; rw [if_neg q] at h ⊢; rw [if_pos h]
/-- cell k is a tie of a kind with a row -/
def Ti (σ : ST) (k : Nat) (kind : Int32) (xs : List Int32) : Prop := σ.1 k 1 = kind ∧ Rw σ (k + 1) xs
def tieC (k : Nat) : Nat → Prop := fun a => a = k ∨ a = k + 1 ∨ a = k + 1 + 1
theorem Ti.len {σ : ST} {k : Nat} {kind : Int32} {xs : List Int32} (h : Ti σ k kind xs) (hk : kd k = 8) : xs.length ≤ 12 := by have := h.2.2.1; rw [(tie_next hk).2.2] at this; exact this
theorem Ti.off {P : Nat → Prop} {σ τ : ST} {k : Nat} {kind : Int32} {xs : List Int32} (h : Ti σ k kind xs) (ho : off P σ τ) (h0 : ¬ P k) (h1 : ¬ P (k + 1)) (h2 : ¬ P (k + 1 + 1)) : Ti τ k kind xs := ⟨by rw [(ho k h0).1]; exact h.1, h.2.off ho h1 h2⟩
set_option maxRecDepth 100000 in
theorem c_X8_laidSize {l : Launch} {X : CX} {σ : ST} {k : Nat} {kind : Int32} {xs : List Int32} (hk : kd k = 8) (ht : Ti σ k kind xs) : MJ l X 0 yX8_laidSize cX8_laidSize 1 (some .int) [.ref (ad X k)] σ (eqI (nI (lyN kind xs.length)) σ) := by
  refine MJ_of (own := RX8) [some (.ref (ad X k))] (by decide) rfl (Nat.le_of_ble_eq_true rfl) rfl ?_
  obtain ⟨hkr, hka, hkl⟩ := tie_next hk
  have hlen := ht.len hk
  have hsz := ht.2.1
  have hkd := ht.1
  refine rj_ald0 dX8_laidSize_0 rfl ?_
  refine g8_20 (by first | assumption | rfl) dX8_laidSize_1 ?_
  refine rj_ic3 dX8_laidSize_4 ?_
  refine rj_ic_ne (tgt := 20) dX8_laidSize_5 (by decide) (fun h_5 => ?_) (fun h_5 => ?_)
  · refine rj_ald0 dX8_laidSize_20 rfl ?_
    refine g8_14 (by first | assumption | rfl) dX8_laidSize_21 ?_
    refine g8_24 (by first | assumption | rfl) dX8_laidSize_24 ?_
    refine rj_iret dX8_laidSize_27 ?_
    refine ⟨?_, rfl⟩
    rw [hkd] at h_5
    unfold lyN
    rw [if_neg h_5, ht.2.size]
  · refine rj_ic2 dX8_laidSize_8 ?_
    refine rj_ald0 dX8_laidSize_9 rfl ?_
    refine g8_14 (by first | assumption | rfl) dX8_laidSize_10 ?_
    refine g8_24 (by first | assumption | rfl) dX8_laidSize_13 ?_
    refine rj_imul dX8_laidSize_16 ?_
    refine rj_goto (tgt := 27) dX8_laidSize_17 (by decide) ?_
    refine rj_iret dX8_laidSize_27 ?_
    refine ⟨?_, rfl⟩
    rw [hkd] at h_5
    unfold lyN
    rw [if_pos h_5, ht.2.size]
    rw [show (2 : Int32) = nI 2 from rfl, pk_mul]

set_option maxRecDepth 100000 in
theorem c_X8_laidAt {l : Launch} {X : CX} {σ : ST} {k : Nat} {kind : Int32} {xs : List Int32} {i rc : Int32} {j : Nat} (hk : kd k = 8) (ht : Ti σ k kind xs) (hi : i.toInt = j) (hj : j < lyN kind xs.length) : MJ l X 2 yX8_laidAt cX8_laidAt 6 (some .int) [.ref (ad X k), .int i, .int rc] σ (eqI ((ly kind rc xs).getD j 0) σ) := by
  refine MJ_of (own := RX8) [some (.ref (ad X k)), some (.int i), some (.int rc), none, none, none] (by decide) rfl (Nat.le_of_ble_eq_true rfl) rfl ?_
  obtain ⟨hkr, hka, hkl⟩ := tie_next hk
  have hlen := ht.len hk
  have hsz := ht.2.1
  obtain ⟨rfl, hr⟩ := ht
  have hj24 : j < 24 := by have := lyN_le (kind := σ.1 k 1) hlen; omega
  obtain ⟨jj, hjj⟩ : ∃ jj, jj = (if j < xs.length then j else j - xs.length) := ⟨_, rfl⟩
  have hjl : jj < xs.length := by
    unfold lyN at hj
    by_cases q : j < xs.length
    · rw [if_pos q] at hjj; omega
    · rw [if_neg q] at hjj
      by_cases z : σ.1 k 1 = 3
      · rw [if_pos z] at hj; omega
      · rw [if_neg z] at hj; omega
  obtain ⟨jb, hjb⟩ : ∃ jb, jb = (if σ.1 k 1 = 2 ∨ σ.1 k 1 = 4 then xs.length - 1 - jj else jj) := ⟨_, rfl⟩
  have hjbl : jb < xs.length := by
    by_cases q : σ.1 k 1 = 2 ∨ σ.1 k 1 = 4
    · rw [if_pos q] at hjb; omega
    · rw [if_neg q] at hjb; omega
  refine rj_ild1 dX8_laidAt_0 rfl ?_
  refine rj_ald0 dX8_laidAt_1 rfl ?_
  refine g8_14 (by first | assumption | rfl) dX8_laidAt_2 ?_
  refine g8_24 (by first | assumption | rfl) dX8_laidAt_5 ?_
  refine rj_ic_ge (tgt := 15) dX8_laidAt_8 (by decide) (fun h_8 => ?_) (fun h_8 => ?_)
  · refine rj_ild1 dX8_laidAt_15 rfl ?_
    refine rj_ald0 dX8_laidAt_16 rfl ?_
    refine g8_14 (by first | assumption | rfl) dX8_laidAt_17 ?_
    refine g8_24 (by first | assumption | rfl) dX8_laidAt_20 ?_
    refine rj_isub dX8_laidAt_23 ?_
    refine rj_top (x' := nI jj) (nI_of_toInt (by rw [hjj, if_neg (by omega)]; rw [i_sub (by omega) (by omega)]; omega)) ?_
    refine rj_ist3 dX8_laidAt_24 (by decide) rfl ?_
    refine rj_ald0 dX8_laidAt_25 rfl ?_
    refine g8_20 (by first | assumption | rfl) dX8_laidAt_26 ?_
    refine rj_ic2 dX8_laidAt_29 ?_
    refine rj_ic_eq (tgt := 41) dX8_laidAt_30 (by decide) (fun h_30 => ?_) (fun h_30 => ?_)
    · refine rj_ic1 dX8_laidAt_41 ?_
      refine rj_goto (tgt := 46) dX8_laidAt_42 (by decide) ?_
      refine rj_ist4w dX8_laidAt_46 (by decide) rfl ?_
      refine rj_ald0 dX8_laidAt_48 rfl ?_
      refine g8_14 (by first | assumption | rfl) dX8_laidAt_49 ?_
      refine rj_ild dX8_laidAt_52 rfl ?_
      refine rj_if_eq (tgt := 71) dX8_laidAt_54 (by decide) (fun h_54 => ?_) (fun h_54 => ?_)
      · exact absurd h_54 (by decide)
      · refine rj_ald0 dX8_laidAt_57 rfl ?_
        refine g8_14 (by first | assumption | rfl) dX8_laidAt_58 ?_
        refine g8_24 (by first | assumption | rfl) dX8_laidAt_61 ?_
        refine rj_ic1 dX8_laidAt_64 ?_
        refine rj_isub dX8_laidAt_65 ?_
        refine rj_ild3 dX8_laidAt_66 rfl ?_
        refine rj_isub dX8_laidAt_67 ?_
        refine rj_goto (tgt := 72) dX8_laidAt_68 (by decide) ?_
        refine rj_top (x' := nI jb) (nI_of_toInt (by rw [hjb, if_pos (Or.inl h_30)]; have e1 := nI_t (n := jj) (by omega); have e2 : (σ.1 (k + 1) 1 - 1).toInt = (σ.1 (k + 1) 1).toInt - 1 := by rw [i_sub (by rw [t1]; omega) (by rw [t1]; omega), t1]
                                                     rw [i_sub (by omega) (by omega)]; omega)) ?_
        refine rj_V1i (ci := 2) cX8_27 rfl (by decide) (by first | assumption | rfl) dX8_laidAt_72 (c_X2_atL hkr hr) (fitM (by decide) (by decide)) (Nat.le_of_ble_eq_true rfl) ?_
        rw [rat_nI hjbl (by omega)]
        refine rj_ist5w dX8_laidAt_75 (by decide) rfl ?_
        refine rj_ald0 dX8_laidAt_77 rfl ?_
        refine g8_20 (by first | assumption | rfl) dX8_laidAt_78 ?_
        refine rj_ic1 dX8_laidAt_81 ?_
        refine rj_ic_eq (tgt := 93) dX8_laidAt_82 (by decide) (fun h_82 => ?_) (fun h_82 => ?_)
        · refine rj_ild dX8_laidAt_93 rfl ?_
          refine rj_ineg dX8_laidAt_95 ?_
          refine rj_iret dX8_laidAt_96 ?_
          refine ⟨?_, rfl⟩
          rw [ly_get hj, ← hjj, ly1_get hjl, ← hjb]
          unfold lc
          rw [if_pos (Or.inl h_82)]
        · refine rj_ald0 dX8_laidAt_85 rfl ?_
          refine g8_20 (by first | assumption | rfl) dX8_laidAt_86 ?_
          refine rj_ic4 dX8_laidAt_89 ?_
          refine rj_ic_ne (tgt := 97) dX8_laidAt_90 (by decide) (fun h_90 => ?_) (fun h_90 => ?_)
          · refine rj_ald0 dX8_laidAt_97 rfl ?_
            refine g8_20 (by first | assumption | rfl) dX8_laidAt_98 ?_
            refine rj_ic5 dX8_laidAt_101 ?_
            refine rj_ic_ne (tgt := 122) dX8_laidAt_102 (by decide) (fun h_102 => ?_) (fun h_102 => ?_)
            · refine rj_ild dX8_laidAt_122 rfl ?_
              refine rj_iret dX8_laidAt_124 ?_
              refine ⟨?_, rfl⟩
              rw [ly_get hj, ← hjj, ly1_get hjl, ← hjb]
              unfold lc
              rw [if_neg (fun q => q.elim h_82 h_90), if_neg h_102]
            · refine rj_ild dX8_laidAt_105 rfl ?_
              refine rj_if_le (tgt := 117) dX8_laidAt_107 (by decide) (fun h_107 => ?_) (fun h_107 => ?_)
              · refine rj_ild dX8_laidAt_117 rfl ?_
                refine rj_ild2 dX8_laidAt_119 rfl ?_
                refine rj_iadd dX8_laidAt_120 ?_
                refine rj_iret dX8_laidAt_121 ?_
                refine ⟨?_, rfl⟩
                rw [ly_get hj, ← hjj, ly1_get hjl, ← hjb]
                unfold lc
                rw [if_neg (fun q => q.elim h_82 h_90), if_pos h_102, if_neg (by omega)]
              · refine rj_ild dX8_laidAt_110 rfl ?_
                refine rj_ild2 dX8_laidAt_112 rfl ?_
                refine rj_isub dX8_laidAt_113 ?_
                refine rj_goto (tgt := 121) dX8_laidAt_114 (by decide) ?_
                refine rj_iret dX8_laidAt_121 ?_
                refine ⟨?_, rfl⟩
                rw [ly_get hj, ← hjj, ly1_get hjl, ← hjb]
                unfold lc
                rw [if_neg (fun q => q.elim h_82 h_90), if_pos h_102, if_pos (by omega)]
          · refine rj_ild dX8_laidAt_93 rfl ?_
            refine rj_ineg dX8_laidAt_95 ?_
            refine rj_iret dX8_laidAt_96 ?_
            refine ⟨?_, rfl⟩
            rw [ly_get hj, ← hjj, ly1_get hjl, ← hjb]
            unfold lc
            rw [if_pos (Or.inr h_90)]
    · refine rj_ald0 dX8_laidAt_33 rfl ?_
      refine g8_20 (by first | assumption | rfl) dX8_laidAt_34 ?_
      refine rj_ic4 dX8_laidAt_37 ?_
      refine rj_ic_ne (tgt := 45) dX8_laidAt_38 (by decide) (fun h_38 => ?_) (fun h_38 => ?_)
      · refine rj_ic0 dX8_laidAt_45 ?_
        refine rj_ist4w dX8_laidAt_46 (by decide) rfl ?_
        refine rj_ald0 dX8_laidAt_48 rfl ?_
        refine g8_14 (by first | assumption | rfl) dX8_laidAt_49 ?_
        refine rj_ild dX8_laidAt_52 rfl ?_
        refine rj_if_eq (tgt := 71) dX8_laidAt_54 (by decide) (fun h_54 => ?_) (fun h_54 => ?_)
        · refine rj_ild3 dX8_laidAt_71 rfl ?_
          refine rj_top (x' := nI jb) (by rw [hjb, if_neg (fun q => q.elim h_30 h_38)]) ?_
          refine rj_V1i (ci := 2) cX8_27 rfl (by decide) (by first | assumption | rfl) dX8_laidAt_72 (c_X2_atL hkr hr) (fitM (by decide) (by decide)) (Nat.le_of_ble_eq_true rfl) ?_
          rw [rat_nI hjbl (by omega)]
          refine rj_ist5w dX8_laidAt_75 (by decide) rfl ?_
          refine rj_ald0 dX8_laidAt_77 rfl ?_
          refine g8_20 (by first | assumption | rfl) dX8_laidAt_78 ?_
          refine rj_ic1 dX8_laidAt_81 ?_
          refine rj_ic_eq (tgt := 93) dX8_laidAt_82 (by decide) (fun h_82 => ?_) (fun h_82 => ?_)
          · refine rj_ild dX8_laidAt_93 rfl ?_
            refine rj_ineg dX8_laidAt_95 ?_
            refine rj_iret dX8_laidAt_96 ?_
            refine ⟨?_, rfl⟩
            rw [ly_get hj, ← hjj, ly1_get hjl, ← hjb]
            unfold lc
            rw [if_pos (Or.inl h_82)]
          · refine rj_ald0 dX8_laidAt_85 rfl ?_
            refine g8_20 (by first | assumption | rfl) dX8_laidAt_86 ?_
            refine rj_ic4 dX8_laidAt_89 ?_
            refine rj_ic_ne (tgt := 97) dX8_laidAt_90 (by decide) (fun h_90 => ?_) (fun h_90 => ?_)
            · refine rj_ald0 dX8_laidAt_97 rfl ?_
              refine g8_20 (by first | assumption | rfl) dX8_laidAt_98 ?_
              refine rj_ic5 dX8_laidAt_101 ?_
              refine rj_ic_ne (tgt := 122) dX8_laidAt_102 (by decide) (fun h_102 => ?_) (fun h_102 => ?_)
              · refine rj_ild dX8_laidAt_122 rfl ?_
                refine rj_iret dX8_laidAt_124 ?_
                refine ⟨?_, rfl⟩
                rw [ly_get hj, ← hjj, ly1_get hjl, ← hjb]
                unfold lc
                rw [if_neg (fun q => q.elim h_82 h_90), if_neg h_102]
              · refine rj_ild dX8_laidAt_105 rfl ?_
                refine rj_if_le (tgt := 117) dX8_laidAt_107 (by decide) (fun h_107 => ?_) (fun h_107 => ?_)
                · refine rj_ild dX8_laidAt_117 rfl ?_
                  refine rj_ild2 dX8_laidAt_119 rfl ?_
                  refine rj_iadd dX8_laidAt_120 ?_
                  refine rj_iret dX8_laidAt_121 ?_
                  refine ⟨?_, rfl⟩
                  rw [ly_get hj, ← hjj, ly1_get hjl, ← hjb]
                  unfold lc
                  rw [if_neg (fun q => q.elim h_82 h_90), if_pos h_102, if_neg (by omega)]
                · refine rj_ild dX8_laidAt_110 rfl ?_
                  refine rj_ild2 dX8_laidAt_112 rfl ?_
                  refine rj_isub dX8_laidAt_113 ?_
                  refine rj_goto (tgt := 121) dX8_laidAt_114 (by decide) ?_
                  refine rj_iret dX8_laidAt_121 ?_
                  refine ⟨?_, rfl⟩
                  rw [ly_get hj, ← hjj, ly1_get hjl, ← hjb]
                  unfold lc
                  rw [if_neg (fun q => q.elim h_82 h_90), if_pos h_102, if_pos (by omega)]
            · refine rj_ild dX8_laidAt_93 rfl ?_
              refine rj_ineg dX8_laidAt_95 ?_
              refine rj_iret dX8_laidAt_96 ?_
              refine ⟨?_, rfl⟩
              rw [ly_get hj, ← hjj, ly1_get hjl, ← hjb]
              unfold lc
              rw [if_pos (Or.inr h_90)]
        · exact absurd rfl h_54
      · refine rj_ic1 dX8_laidAt_41 ?_
        refine rj_goto (tgt := 46) dX8_laidAt_42 (by decide) ?_
        refine rj_ist4w dX8_laidAt_46 (by decide) rfl ?_
        refine rj_ald0 dX8_laidAt_48 rfl ?_
        refine g8_14 (by first | assumption | rfl) dX8_laidAt_49 ?_
        refine rj_ild dX8_laidAt_52 rfl ?_
        refine rj_if_eq (tgt := 71) dX8_laidAt_54 (by decide) (fun h_54 => ?_) (fun h_54 => ?_)
        · exact absurd h_54 (by decide)
        · refine rj_ald0 dX8_laidAt_57 rfl ?_
          refine g8_14 (by first | assumption | rfl) dX8_laidAt_58 ?_
          refine g8_24 (by first | assumption | rfl) dX8_laidAt_61 ?_
          refine rj_ic1 dX8_laidAt_64 ?_
          refine rj_isub dX8_laidAt_65 ?_
          refine rj_ild3 dX8_laidAt_66 rfl ?_
          refine rj_isub dX8_laidAt_67 ?_
          refine rj_goto (tgt := 72) dX8_laidAt_68 (by decide) ?_
          refine rj_top (x' := nI jb) (nI_of_toInt (by rw [hjb, if_pos (Or.inr h_38)]; have e1 := nI_t (n := jj) (by omega); have e2 : (σ.1 (k + 1) 1 - 1).toInt = (σ.1 (k + 1) 1).toInt - 1 := by rw [i_sub (by rw [t1]; omega) (by rw [t1]; omega), t1]
                                                       rw [i_sub (by omega) (by omega)]; omega)) ?_
          refine rj_V1i (ci := 2) cX8_27 rfl (by decide) (by first | assumption | rfl) dX8_laidAt_72 (c_X2_atL hkr hr) (fitM (by decide) (by decide)) (Nat.le_of_ble_eq_true rfl) ?_
          rw [rat_nI hjbl (by omega)]
          refine rj_ist5w dX8_laidAt_75 (by decide) rfl ?_
          refine rj_ald0 dX8_laidAt_77 rfl ?_
          refine g8_20 (by first | assumption | rfl) dX8_laidAt_78 ?_
          refine rj_ic1 dX8_laidAt_81 ?_
          refine rj_ic_eq (tgt := 93) dX8_laidAt_82 (by decide) (fun h_82 => ?_) (fun h_82 => ?_)
          · refine rj_ild dX8_laidAt_93 rfl ?_
            refine rj_ineg dX8_laidAt_95 ?_
            refine rj_iret dX8_laidAt_96 ?_
            refine ⟨?_, rfl⟩
            rw [ly_get hj, ← hjj, ly1_get hjl, ← hjb]
            unfold lc
            rw [if_pos (Or.inl h_82)]
          · refine rj_ald0 dX8_laidAt_85 rfl ?_
            refine g8_20 (by first | assumption | rfl) dX8_laidAt_86 ?_
            refine rj_ic4 dX8_laidAt_89 ?_
            refine rj_ic_ne (tgt := 97) dX8_laidAt_90 (by decide) (fun h_90 => ?_) (fun h_90 => ?_)
            · refine rj_ald0 dX8_laidAt_97 rfl ?_
              refine g8_20 (by first | assumption | rfl) dX8_laidAt_98 ?_
              refine rj_ic5 dX8_laidAt_101 ?_
              refine rj_ic_ne (tgt := 122) dX8_laidAt_102 (by decide) (fun h_102 => ?_) (fun h_102 => ?_)
              · refine rj_ild dX8_laidAt_122 rfl ?_
                refine rj_iret dX8_laidAt_124 ?_
                refine ⟨?_, rfl⟩
                rw [ly_get hj, ← hjj, ly1_get hjl, ← hjb]
                unfold lc
                rw [if_neg (fun q => q.elim h_82 h_90), if_neg h_102]
              · refine rj_ild dX8_laidAt_105 rfl ?_
                refine rj_if_le (tgt := 117) dX8_laidAt_107 (by decide) (fun h_107 => ?_) (fun h_107 => ?_)
                · refine rj_ild dX8_laidAt_117 rfl ?_
                  refine rj_ild2 dX8_laidAt_119 rfl ?_
                  refine rj_iadd dX8_laidAt_120 ?_
                  refine rj_iret dX8_laidAt_121 ?_
                  refine ⟨?_, rfl⟩
                  rw [ly_get hj, ← hjj, ly1_get hjl, ← hjb]
                  unfold lc
                  rw [if_neg (fun q => q.elim h_82 h_90), if_pos h_102, if_neg (by omega)]
                · refine rj_ild dX8_laidAt_110 rfl ?_
                  refine rj_ild2 dX8_laidAt_112 rfl ?_
                  refine rj_isub dX8_laidAt_113 ?_
                  refine rj_goto (tgt := 121) dX8_laidAt_114 (by decide) ?_
                  refine rj_iret dX8_laidAt_121 ?_
                  refine ⟨?_, rfl⟩
                  rw [ly_get hj, ← hjj, ly1_get hjl, ← hjb]
                  unfold lc
                  rw [if_neg (fun q => q.elim h_82 h_90), if_pos h_102, if_pos (by omega)]
            · refine rj_ild dX8_laidAt_93 rfl ?_
              refine rj_ineg dX8_laidAt_95 ?_
              refine rj_iret dX8_laidAt_96 ?_
              refine ⟨?_, rfl⟩
              rw [ly_get hj, ← hjj, ly1_get hjl, ← hjb]
              unfold lc
              rw [if_pos (Or.inr h_90)]
  · refine rj_ild1 dX8_laidAt_11 rfl ?_
    refine rj_goto (tgt := 24) dX8_laidAt_12 (by decide) ?_
    refine rj_top (x' := nI jj) (nI_of_toInt (by rw [hjj, if_pos (by omega)]; omega)) ?_
    refine rj_ist3 dX8_laidAt_24 (by decide) rfl ?_
    refine rj_ald0 dX8_laidAt_25 rfl ?_
    refine g8_20 (by first | assumption | rfl) dX8_laidAt_26 ?_
    refine rj_ic2 dX8_laidAt_29 ?_
    refine rj_ic_eq (tgt := 41) dX8_laidAt_30 (by decide) (fun h_30 => ?_) (fun h_30 => ?_)
    · refine rj_ic1 dX8_laidAt_41 ?_
      refine rj_goto (tgt := 46) dX8_laidAt_42 (by decide) ?_
      refine rj_ist4w dX8_laidAt_46 (by decide) rfl ?_
      refine rj_ald0 dX8_laidAt_48 rfl ?_
      refine g8_14 (by first | assumption | rfl) dX8_laidAt_49 ?_
      refine rj_ild dX8_laidAt_52 rfl ?_
      refine rj_if_eq (tgt := 71) dX8_laidAt_54 (by decide) (fun h_54 => ?_) (fun h_54 => ?_)
      · exact absurd h_54 (by decide)
      · refine rj_ald0 dX8_laidAt_57 rfl ?_
        refine g8_14 (by first | assumption | rfl) dX8_laidAt_58 ?_
        refine g8_24 (by first | assumption | rfl) dX8_laidAt_61 ?_
        refine rj_ic1 dX8_laidAt_64 ?_
        refine rj_isub dX8_laidAt_65 ?_
        refine rj_ild3 dX8_laidAt_66 rfl ?_
        refine rj_isub dX8_laidAt_67 ?_
        refine rj_goto (tgt := 72) dX8_laidAt_68 (by decide) ?_
        refine rj_top (x' := nI jb) (nI_of_toInt (by rw [hjb, if_pos (Or.inl h_30)]; have e1 := nI_t (n := jj) (by omega); have e2 : (σ.1 (k + 1) 1 - 1).toInt = (σ.1 (k + 1) 1).toInt - 1 := by rw [i_sub (by rw [t1]; omega) (by rw [t1]; omega), t1]
                                                     rw [i_sub (by omega) (by omega)]; omega)) ?_
        refine rj_V1i (ci := 2) cX8_27 rfl (by decide) (by first | assumption | rfl) dX8_laidAt_72 (c_X2_atL hkr hr) (fitM (by decide) (by decide)) (Nat.le_of_ble_eq_true rfl) ?_
        rw [rat_nI hjbl (by omega)]
        refine rj_ist5w dX8_laidAt_75 (by decide) rfl ?_
        refine rj_ald0 dX8_laidAt_77 rfl ?_
        refine g8_20 (by first | assumption | rfl) dX8_laidAt_78 ?_
        refine rj_ic1 dX8_laidAt_81 ?_
        refine rj_ic_eq (tgt := 93) dX8_laidAt_82 (by decide) (fun h_82 => ?_) (fun h_82 => ?_)
        · refine rj_ild dX8_laidAt_93 rfl ?_
          refine rj_ineg dX8_laidAt_95 ?_
          refine rj_iret dX8_laidAt_96 ?_
          refine ⟨?_, rfl⟩
          rw [ly_get hj, ← hjj, ly1_get hjl, ← hjb]
          unfold lc
          rw [if_pos (Or.inl h_82)]
        · refine rj_ald0 dX8_laidAt_85 rfl ?_
          refine g8_20 (by first | assumption | rfl) dX8_laidAt_86 ?_
          refine rj_ic4 dX8_laidAt_89 ?_
          refine rj_ic_ne (tgt := 97) dX8_laidAt_90 (by decide) (fun h_90 => ?_) (fun h_90 => ?_)
          · refine rj_ald0 dX8_laidAt_97 rfl ?_
            refine g8_20 (by first | assumption | rfl) dX8_laidAt_98 ?_
            refine rj_ic5 dX8_laidAt_101 ?_
            refine rj_ic_ne (tgt := 122) dX8_laidAt_102 (by decide) (fun h_102 => ?_) (fun h_102 => ?_)
            · refine rj_ild dX8_laidAt_122 rfl ?_
              refine rj_iret dX8_laidAt_124 ?_
              refine ⟨?_, rfl⟩
              rw [ly_get hj, ← hjj, ly1_get hjl, ← hjb]
              unfold lc
              rw [if_neg (fun q => q.elim h_82 h_90), if_neg h_102]
            · refine rj_ild dX8_laidAt_105 rfl ?_
              refine rj_if_le (tgt := 117) dX8_laidAt_107 (by decide) (fun h_107 => ?_) (fun h_107 => ?_)
              · refine rj_ild dX8_laidAt_117 rfl ?_
                refine rj_ild2 dX8_laidAt_119 rfl ?_
                refine rj_iadd dX8_laidAt_120 ?_
                refine rj_iret dX8_laidAt_121 ?_
                refine ⟨?_, rfl⟩
                rw [ly_get hj, ← hjj, ly1_get hjl, ← hjb]
                unfold lc
                rw [if_neg (fun q => q.elim h_82 h_90), if_pos h_102, if_neg (by omega)]
              · refine rj_ild dX8_laidAt_110 rfl ?_
                refine rj_ild2 dX8_laidAt_112 rfl ?_
                refine rj_isub dX8_laidAt_113 ?_
                refine rj_goto (tgt := 121) dX8_laidAt_114 (by decide) ?_
                refine rj_iret dX8_laidAt_121 ?_
                refine ⟨?_, rfl⟩
                rw [ly_get hj, ← hjj, ly1_get hjl, ← hjb]
                unfold lc
                rw [if_neg (fun q => q.elim h_82 h_90), if_pos h_102, if_pos (by omega)]
          · refine rj_ild dX8_laidAt_93 rfl ?_
            refine rj_ineg dX8_laidAt_95 ?_
            refine rj_iret dX8_laidAt_96 ?_
            refine ⟨?_, rfl⟩
            rw [ly_get hj, ← hjj, ly1_get hjl, ← hjb]
            unfold lc
            rw [if_pos (Or.inr h_90)]
    · refine rj_ald0 dX8_laidAt_33 rfl ?_
      refine g8_20 (by first | assumption | rfl) dX8_laidAt_34 ?_
      refine rj_ic4 dX8_laidAt_37 ?_
      refine rj_ic_ne (tgt := 45) dX8_laidAt_38 (by decide) (fun h_38 => ?_) (fun h_38 => ?_)
      · refine rj_ic0 dX8_laidAt_45 ?_
        refine rj_ist4w dX8_laidAt_46 (by decide) rfl ?_
        refine rj_ald0 dX8_laidAt_48 rfl ?_
        refine g8_14 (by first | assumption | rfl) dX8_laidAt_49 ?_
        refine rj_ild dX8_laidAt_52 rfl ?_
        refine rj_if_eq (tgt := 71) dX8_laidAt_54 (by decide) (fun h_54 => ?_) (fun h_54 => ?_)
        · refine rj_ild3 dX8_laidAt_71 rfl ?_
          refine rj_top (x' := nI jb) (by rw [hjb, if_neg (fun q => q.elim h_30 h_38)]) ?_
          refine rj_V1i (ci := 2) cX8_27 rfl (by decide) (by first | assumption | rfl) dX8_laidAt_72 (c_X2_atL hkr hr) (fitM (by decide) (by decide)) (Nat.le_of_ble_eq_true rfl) ?_
          rw [rat_nI hjbl (by omega)]
          refine rj_ist5w dX8_laidAt_75 (by decide) rfl ?_
          refine rj_ald0 dX8_laidAt_77 rfl ?_
          refine g8_20 (by first | assumption | rfl) dX8_laidAt_78 ?_
          refine rj_ic1 dX8_laidAt_81 ?_
          refine rj_ic_eq (tgt := 93) dX8_laidAt_82 (by decide) (fun h_82 => ?_) (fun h_82 => ?_)
          · refine rj_ild dX8_laidAt_93 rfl ?_
            refine rj_ineg dX8_laidAt_95 ?_
            refine rj_iret dX8_laidAt_96 ?_
            refine ⟨?_, rfl⟩
            rw [ly_get hj, ← hjj, ly1_get hjl, ← hjb]
            unfold lc
            rw [if_pos (Or.inl h_82)]
          · refine rj_ald0 dX8_laidAt_85 rfl ?_
            refine g8_20 (by first | assumption | rfl) dX8_laidAt_86 ?_
            refine rj_ic4 dX8_laidAt_89 ?_
            refine rj_ic_ne (tgt := 97) dX8_laidAt_90 (by decide) (fun h_90 => ?_) (fun h_90 => ?_)
            · refine rj_ald0 dX8_laidAt_97 rfl ?_
              refine g8_20 (by first | assumption | rfl) dX8_laidAt_98 ?_
              refine rj_ic5 dX8_laidAt_101 ?_
              refine rj_ic_ne (tgt := 122) dX8_laidAt_102 (by decide) (fun h_102 => ?_) (fun h_102 => ?_)
              · refine rj_ild dX8_laidAt_122 rfl ?_
                refine rj_iret dX8_laidAt_124 ?_
                refine ⟨?_, rfl⟩
                rw [ly_get hj, ← hjj, ly1_get hjl, ← hjb]
                unfold lc
                rw [if_neg (fun q => q.elim h_82 h_90), if_neg h_102]
              · refine rj_ild dX8_laidAt_105 rfl ?_
                refine rj_if_le (tgt := 117) dX8_laidAt_107 (by decide) (fun h_107 => ?_) (fun h_107 => ?_)
                · refine rj_ild dX8_laidAt_117 rfl ?_
                  refine rj_ild2 dX8_laidAt_119 rfl ?_
                  refine rj_iadd dX8_laidAt_120 ?_
                  refine rj_iret dX8_laidAt_121 ?_
                  refine ⟨?_, rfl⟩
                  rw [ly_get hj, ← hjj, ly1_get hjl, ← hjb]
                  unfold lc
                  rw [if_neg (fun q => q.elim h_82 h_90), if_pos h_102, if_neg (by omega)]
                · refine rj_ild dX8_laidAt_110 rfl ?_
                  refine rj_ild2 dX8_laidAt_112 rfl ?_
                  refine rj_isub dX8_laidAt_113 ?_
                  refine rj_goto (tgt := 121) dX8_laidAt_114 (by decide) ?_
                  refine rj_iret dX8_laidAt_121 ?_
                  refine ⟨?_, rfl⟩
                  rw [ly_get hj, ← hjj, ly1_get hjl, ← hjb]
                  unfold lc
                  rw [if_neg (fun q => q.elim h_82 h_90), if_pos h_102, if_pos (by omega)]
            · refine rj_ild dX8_laidAt_93 rfl ?_
              refine rj_ineg dX8_laidAt_95 ?_
              refine rj_iret dX8_laidAt_96 ?_
              refine ⟨?_, rfl⟩
              rw [ly_get hj, ← hjj, ly1_get hjl, ← hjb]
              unfold lc
              rw [if_pos (Or.inr h_90)]
        · exact absurd rfl h_54
      · refine rj_ic1 dX8_laidAt_41 ?_
        refine rj_goto (tgt := 46) dX8_laidAt_42 (by decide) ?_
        refine rj_ist4w dX8_laidAt_46 (by decide) rfl ?_
        refine rj_ald0 dX8_laidAt_48 rfl ?_
        refine g8_14 (by first | assumption | rfl) dX8_laidAt_49 ?_
        refine rj_ild dX8_laidAt_52 rfl ?_
        refine rj_if_eq (tgt := 71) dX8_laidAt_54 (by decide) (fun h_54 => ?_) (fun h_54 => ?_)
        · exact absurd h_54 (by decide)
        · refine rj_ald0 dX8_laidAt_57 rfl ?_
          refine g8_14 (by first | assumption | rfl) dX8_laidAt_58 ?_
          refine g8_24 (by first | assumption | rfl) dX8_laidAt_61 ?_
          refine rj_ic1 dX8_laidAt_64 ?_
          refine rj_isub dX8_laidAt_65 ?_
          refine rj_ild3 dX8_laidAt_66 rfl ?_
          refine rj_isub dX8_laidAt_67 ?_
          refine rj_goto (tgt := 72) dX8_laidAt_68 (by decide) ?_
          refine rj_top (x' := nI jb) (nI_of_toInt (by rw [hjb, if_pos (Or.inr h_38)]; have e1 := nI_t (n := jj) (by omega); have e2 : (σ.1 (k + 1) 1 - 1).toInt = (σ.1 (k + 1) 1).toInt - 1 := by rw [i_sub (by rw [t1]; omega) (by rw [t1]; omega), t1]
                                                       rw [i_sub (by omega) (by omega)]; omega)) ?_
          refine rj_V1i (ci := 2) cX8_27 rfl (by decide) (by first | assumption | rfl) dX8_laidAt_72 (c_X2_atL hkr hr) (fitM (by decide) (by decide)) (Nat.le_of_ble_eq_true rfl) ?_
          rw [rat_nI hjbl (by omega)]
          refine rj_ist5w dX8_laidAt_75 (by decide) rfl ?_
          refine rj_ald0 dX8_laidAt_77 rfl ?_
          refine g8_20 (by first | assumption | rfl) dX8_laidAt_78 ?_
          refine rj_ic1 dX8_laidAt_81 ?_
          refine rj_ic_eq (tgt := 93) dX8_laidAt_82 (by decide) (fun h_82 => ?_) (fun h_82 => ?_)
          · refine rj_ild dX8_laidAt_93 rfl ?_
            refine rj_ineg dX8_laidAt_95 ?_
            refine rj_iret dX8_laidAt_96 ?_
            refine ⟨?_, rfl⟩
            rw [ly_get hj, ← hjj, ly1_get hjl, ← hjb]
            unfold lc
            rw [if_pos (Or.inl h_82)]
          · refine rj_ald0 dX8_laidAt_85 rfl ?_
            refine g8_20 (by first | assumption | rfl) dX8_laidAt_86 ?_
            refine rj_ic4 dX8_laidAt_89 ?_
            refine rj_ic_ne (tgt := 97) dX8_laidAt_90 (by decide) (fun h_90 => ?_) (fun h_90 => ?_)
            · refine rj_ald0 dX8_laidAt_97 rfl ?_
              refine g8_20 (by first | assumption | rfl) dX8_laidAt_98 ?_
              refine rj_ic5 dX8_laidAt_101 ?_
              refine rj_ic_ne (tgt := 122) dX8_laidAt_102 (by decide) (fun h_102 => ?_) (fun h_102 => ?_)
              · refine rj_ild dX8_laidAt_122 rfl ?_
                refine rj_iret dX8_laidAt_124 ?_
                refine ⟨?_, rfl⟩
                rw [ly_get hj, ← hjj, ly1_get hjl, ← hjb]
                unfold lc
                rw [if_neg (fun q => q.elim h_82 h_90), if_neg h_102]
              · refine rj_ild dX8_laidAt_105 rfl ?_
                refine rj_if_le (tgt := 117) dX8_laidAt_107 (by decide) (fun h_107 => ?_) (fun h_107 => ?_)
                · refine rj_ild dX8_laidAt_117 rfl ?_
                  refine rj_ild2 dX8_laidAt_119 rfl ?_
                  refine rj_iadd dX8_laidAt_120 ?_
                  refine rj_iret dX8_laidAt_121 ?_
                  refine ⟨?_, rfl⟩
                  rw [ly_get hj, ← hjj, ly1_get hjl, ← hjb]
                  unfold lc
                  rw [if_neg (fun q => q.elim h_82 h_90), if_pos h_102, if_neg (by omega)]
                · refine rj_ild dX8_laidAt_110 rfl ?_
                  refine rj_ild2 dX8_laidAt_112 rfl ?_
                  refine rj_isub dX8_laidAt_113 ?_
                  refine rj_goto (tgt := 121) dX8_laidAt_114 (by decide) ?_
                  refine rj_iret dX8_laidAt_121 ?_
                  refine ⟨?_, rfl⟩
                  rw [ly_get hj, ← hjj, ly1_get hjl, ← hjb]
                  unfold lc
                  rw [if_neg (fun q => q.elim h_82 h_90), if_pos h_102, if_pos (by omega)]
            · refine rj_ild dX8_laidAt_93 rfl ?_
              refine rj_ineg dX8_laidAt_95 ?_
              refine rj_iret dX8_laidAt_96 ?_
              refine ⟨?_, rfl⟩
              rw [ly_get hj, ← hjj, ly1_get hjl, ← hjb]
              unfold lc
              rw [if_pos (Or.inr h_90)]

set_option maxRecDepth 100000 in
theorem c_X8_take {l : Launch} {X : CX} {σ : ST} {k k1 : Nat} {kind : Int32} {xs : List Int32} (hk : kd k = 8) (h1 : kd k1 = 8) (hne : k1 ≠ k) (ht : Ti σ k1 kind xs) : MJ l X 2 yX8_take cX8_take 2 none [.ref (ad X k), .ref (ad X k1)] σ (PV (fun τ => Ti τ k kind xs ∧ off (tieC k) σ τ)) := by
  refine MJ_of (own := RX8) [some (.ref (ad X k)), some (.ref (ad X k1))] (by decide) rfl (Nat.le_of_ble_eq_true rfl) rfl ?_
  obtain ⟨hkr, hka, hkl⟩ := tie_next hk
  obtain ⟨hkr1, hka1, hkl1⟩ := tie_next h1
  have hlen := ht.len h1
  obtain ⟨rfl, hr⟩ := ht
  have hr2 : Rw (ui σ k 1 (σ.1 k1 1)) (k1 + 1) xs := hr.off (off.rf.ui (P := fun a => a = k) rfl) (fun q => by rw [q] at hkr1; omega) (fun q => by rw [q] at hka1; omega)
  refine rj_ald0 dX8_take_0 rfl ?_
  refine rj_ald1 dX8_take_1 rfl ?_
  refine g8_20 (by first | assumption | rfl) dX8_take_2 ?_
  refine p8_20 (by first | assumption | rfl) dX8_take_5 ?_
  refine rj_ald0 dX8_take_8 rfl ?_
  refine g8_14 (by first | assumption | rfl) dX8_take_9 ?_
  refine rj_ald1 dX8_take_12 rfl ?_
  refine g8_14 (by first | assumption | rfl) dX8_take_13 ?_
  refine rj_V1 (ci := 2) cX8_31 rfl (by decide) (by first | assumption | rfl) dX8_take_16 (c_X2_take hkr hkr1 hr2 (by omega)) (fitM (by decide) (by decide)) (Nat.le_of_ble_eq_true rfl) ?_
  rintro v τ ⟨rfl, hx1, ho1⟩
  simp only [Option.toList, List.nil_append]
  refine rj_vret dX8_take_19 ?_
  refine ⟨rfl, ⟨?_, hx1⟩, fun a ha => ?_⟩
  · rw [(ho1 k (fun q => by rcases q with q | q <;> omega)).1, ui_same]
  · have h2 := ho1 a (fun q => ha (Or.inr q))
    exact ⟨h2.1.trans (ui_ne (fun q => ha (Or.inl q))), h2.2⟩

set_option maxRecDepth 100000 in
theorem l_X2_layOut {l : Launch} {X : CX} {h : Nat} {Q : Option Value → ST → Prop} {σ : ST} {k k1 : Nat} {kind rc : Int32} {xs : List Int32} (hh : 3 ≤ h) (hk : kd k = 2) (h1 : kd k1 = 8) (hne : k1 + 1 ≠ k) (hc : ln (k + 1) = 24) (ht : Ti σ k1 kind xs) (hQ : ∀ τ, Rw τ k (ly kind rc xs) → off (rowC k) σ τ → Q none τ) : ∀ (N i : Nat) (τ : ST), lyN kind xs.length < i + N → (i ≤ lyN kind xs.length ∧ Rw τ k ((ly kind rc xs).take i) ∧ off (rowC k) σ τ) → RJ (GM l X h Q) X cX2_layOut 5 none RX2 13 [some (.ref (ad X k)), some (.ref (ad X k1)), some (.int rc), some (.int (nI (lyN kind xs.length))), some (.int (nI i))] [] τ := by
  intro N
  induction N with
  | zero => intro i τ hN hi; have := hi.1; exact absurd hN (by omega)
  | succ N ih =>
    intro i τ hN hi
    obtain ⟨hi, hT, ho⟩ := hi
    obtain ⟨hkr1, hka1, hkl1⟩ := tie_next h1
    have hka := (row_next hk).1
    have hlen := ht.len h1
    have hl2 := lyN_le (kind := kind) hlen
    have hit := nIt (i := i) (by omega)
    have hnt := nIt (i := lyN kind xs.length) hl2
    have ht1 : Ti τ k1 kind xs := ht.off ho (fun q => by rcases q with q | q <;> (rw [q] at h1; omega)) (fun q => by rcases q with q | q <;> (try (exact hne q)) <;> (rw [q] at hkr1; omega)) (fun q => by rcases q with q | q <;> (try (rw [q] at hka1; omega)) <;> omega)
    refine rj_ild dX2_layOut_13 rfl ?_
    refine rj_ild3 dX2_layOut_15 rfl ?_
    refine rj_ic_ge (tgt := 36) dX2_layOut_16 (by decide) (fun h_16 => ?_) (fun h_16 => ?_)
    · refine rj_vret dX2_layOut_36 ?_
      have hie : i = lyN kind xs.length := by omega
      rw [hie, ← ly_len kind rc xs, List.take_length] at hT
      exact hQ τ hT ho
    · refine rj_ald0 dX2_layOut_19 rfl ?_
      refine rj_ald1 dX2_layOut_20 rfl ?_
      refine rj_ild dX2_layOut_21 rfl ?_
      refine rj_ild2 dX2_layOut_23 rfl ?_
      refine rj_V2i (ci := 8) cX2_54 rfl (by decide) (by first | assumption | rfl) dX2_layOut_24 (c_X8_laidAt h1 ht1 hit (by omega)) (fitM (by omega) (by decide)) (Nat.le_of_ble_eq_true rfl) ?_
      refine rj_V1 (ci := 2) cX2_57 rfl (by decide) (by first | assumption | rfl) dX2_layOut_27 (c_X2_appendL hk hT (by rw [hc, List.length_take, ly_len]; omega)) (fitM (by omega) (by decide)) (Nat.le_of_ble_eq_true rfl) ?_
      rintro v υ ⟨rfl, hx1, ho1⟩
      simp only [Option.toList, List.nil_append]
      rw [← take_snoc (by rw [ly_len]; omega)] at hx1
      refine rj_iinc4 (d := 1) dX2_layOut_30 (by decide) rfl (by decide) ?_
      rw [nI_1]
      refine rj_goto (tgt := 13) dX2_layOut_33 (by decide) ?_
      exact ih (i + 1) υ (by omega) ⟨by omega, hx1, ho.tr ho1⟩

set_option maxRecDepth 100000 in
theorem c_X2_layOut {l : Launch} {X : CX} {σ : ST} {k k1 : Nat} {kind rc : Int32} {xs ys : List Int32} (hk : kd k = 2) (h1 : kd k1 = 8) (hne : k1 + 1 ≠ k) (hc : ln (k + 1) = 24) (hy : Rw σ k ys) (ht : Ti σ k1 kind xs) : MJ l X 3 yX2_layOut cX2_layOut 5 none [.ref (ad X k), .ref (ad X k1), .int rc] σ (PV (fun τ => Rw τ k (ly kind rc xs) ∧ off (rowC k) σ τ)) := by
  refine MJ_of (own := RX2) [some (.ref (ad X k)), some (.ref (ad X k1)), some (.int rc), none, none] (by decide) rfl (Nat.le_of_ble_eq_true rfl) rfl ?_
  obtain ⟨hkr1, hka1, hkl1⟩ := tie_next h1
  have hka := (row_next hk).1
  refine rj_ald0 dX2_layOut_0 rfl ?_
  refine rj_ic0 dX2_layOut_1 ?_
  refine rj_V1 (ci := 2) cX2_44 rfl (by decide) (by first | assumption | rfl) dX2_layOut_2 (c_X2_cutToL hk hy) (fitM (by decide) (by decide)) (Nat.le_of_ble_eq_true rfl) ?_
  rintro v τ ⟨rfl, hx1, ho1⟩
  simp only [Option.toList, List.nil_append]
  have ht1 : Ti τ k1 kind xs := ht.off ho1 (fun q => by rcases q with q | q <;> (rw [q] at h1; omega)) (fun q => by rcases q with q | q <;> (try (exact hne q)) <;> (rw [q] at hkr1; omega)) (fun q => by rcases q with q | q <;> (try (rw [q] at hka1; omega)) <;> omega)
  refine rj_ald1 dX2_layOut_5 rfl ?_
  refine rj_V0i (ci := 8) cX2_48 rfl (by decide) (by first | assumption | rfl) dX2_layOut_6 (c_X8_laidSize h1 ht1) (fitM (by decide) (by decide)) (Nat.le_of_ble_eq_true rfl) ?_
  refine rj_ist3 dX2_layOut_9 (by decide) rfl ?_
  refine rj_ic0 dX2_layOut_10 ?_
  refine rj_ist4w dX2_layOut_11 (by decide) rfl ?_
  exact l_X2_layOut (by decide) hk h1 hne hc ht1 (fun υ h2 h3 => ⟨rfl, h2, ho1.tr h3⟩) (lyN kind xs.length + 1) 0 τ (by omega) ⟨by omega, by simpa using hx1, off.rf⟩

