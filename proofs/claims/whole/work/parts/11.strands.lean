/-! strands -/
theorem sd_all : ∀ k, k < 129 → kd k = 5 → (kd (k + 1) = 13 ∧ ln (k + 1) = 4 ∧ kd (k + 2) = 13 ∧ ln (k + 2) = 16) := by decide +kernel
theorem sd_next {k : Nat} (h : kd k = 5) : kd (k + 1) = 13 ∧ ln (k + 1) = 4 ∧ kd (k + 2) = 13 ∧ ln (k + 2) = 16 := sd_all k (kd_lt (by omega)) h
def sdC (k : Nat) : Nat → Prop := fun a => a = k ∨ a = k + 1 ∨ a = k + 2
theorem sd_ro : ∀ k, k < 129 → kd k = 5 → ∀ q, q < 129 → kd q = 2 → (q + 1 < k ∨ k + 2 < q) := by decide +kernel
theorem sd_row {k q : Nat} (h : kd k = 5) (h2 : kd q = 2) : ¬ sdC k q ∧ ¬ sdC k (q + 1) := by
  have := sd_ro k (kd_lt (by omega)) h q (kd_lt (by omega)) h2
  unfold sdC; omega
/-- one number for two ropes -/
def pr (a b : Int32) : Int32 := if (0 : Int32) < (if (15 : Int32) < (if b < a then b else a) * 4 + (if a < b then b else a) then 15 else (if b < a then b else a) * 4 + (if a < b then b else a)) then (if (15 : Int32) < (if b < a then b else a) * 4 + (if a < b then b else a) then 15 else (if b < a then b else a) * 4 + (if a < b then b else a)) else 0
theorem pr_in (a b : Int32) : 0 ≤ (pr a b).toInt ∧ (pr a b).toInt ≤ 15 := by
  unfold pr
  generalize (if b < a then b else a) * 4 + (if a < b then b else a) = x
  have h15 : (15 : Int32).toInt = 15 := by decide
  by_cases h : (15 : Int32) < x
  · rw [if_pos h, if_pos (by decide), h15]; omega
  · rw [if_neg h]
    have := tnlt h
    by_cases h2 : (0 : Int32) < x
    · rw [if_pos h2]; have := tlt h2; rw [t0] at this; omega
    · rw [if_neg h2, t0]; omega
theorem pr_cl (a b : Int32) : (pr a b).toNatClampNeg < 16 := by have := pr_in a b; rw [cl_i]; omega
theorem iab_ok {rc : Int32} {c : Int32} (h : okc rc c.toInt) (hr : rc.toInt ≤ 4) : (iab c).toInt = c.toInt.natAbs ∧ 1 ≤ c.toInt.natAbs ∧ c.toInt.natAbs < 4 ∧ (c.toInt.natAbs : Int) < rc.toInt := by
  unfold okc at h
  unfold iab
  by_cases q : (0 : Int32) ≤ c
  · have := tle q; rw [t0] at this; rw [if_pos q]; omega
  · have := tnle q; rw [t0] at this; rw [if_neg q, i_sub (by rw [t0]; omega) (by rw [t0]; omega), t0]; omega
def stp (fs : (Nat → Int32) × (Nat → Int32)) (c : Int32) : (Nat → Int32) × (Nat → Int32) :=
  (upd (upd fs.1 (c.toInt.natAbs - 1) (fs.1 c.toInt.natAbs)) c.toInt.natAbs (fs.1 (c.toInt.natAbs - 1)), upd fs.2 (pr (fs.1 (c.toInt.natAbs - 1)) (fs.1 c.toInt.natAbs)).toNatClampNeg (fs.2 (pr (fs.1 (c.toInt.natAbs - 1)) (fs.1 c.toInt.natAbs)).toNatClampNeg + sg c))
def stf (xs : List Int32) : (Nat → Int32) × (Nat → Int32) := xs.foldl stp (fun j => nI j, fun _ => 0)
theorem stf_snoc (xs : List Int32) (c : Int32) : stf (xs ++ [c]) = stp (stf xs) c := by simp [stf]
/-- the strands at k have followed xs -/
def Sd (σ : ST) (k : Nat) (rc : Int32) (xs : List Int32) : Prop := σ.1 k 2 = rc ∧ (∀ j, j < 4 → σ.1 (k + 1) j = (stf xs).1 j) ∧ ∀ q, q < 16 → σ.1 (k + 2) q = (stf xs).2 q
theorem Sd.off {P : Nat → Prop} {σ τ : ST} {k : Nat} {rc : Int32} {xs : List Int32} (h : Sd σ k rc xs) (ho : off P σ τ) (hp : ∀ a, P a → ¬ sdC k a) : Sd τ k rc xs := by
  obtain ⟨a, b, c⟩ := h
  exact ⟨by rw [(ho k (fun q => hp _ q (Or.inl rfl))).1]; exact a, fun j hj => by rw [(ho _ (fun q => hp _ q (Or.inr (Or.inl rfl)))).1]; exact b j hj, fun j hj => by rw [(ho _ (fun q => hp _ q (Or.inr (Or.inr rfl)))).1]; exact c j hj⟩
def okL (rc : Int32) (xs : List Int32) : Prop := ∀ c ∈ xs, okc rc c.toInt
theorem okL_get {rc : Int32} {xs : List Int32} (h : okL rc xs) {i : Nat} (hi : i < xs.length) : okc rc (xs.getD i 0).toInt := by
  have : xs.getD i 0 ∈ xs := by rw [List.getD, List.getElem?_eq_getElem hi]; exact List.getElem_mem hi
  exact h _ this
set_option maxRecDepth 100000 in
theorem c_X5_pairOf {l : Launch} {X : CX} {σ : ST} {a b : Int32} : MJ l X 1 yX5_pairOf cX5_pairOf 3 (some .int) [.int a, .int b] σ (eqI (pr a b) σ) := by
  refine MJ_of (own := RX5) [some (.int a), some (.int b), none] (by decide) rfl (Nat.le_of_ble_eq_true rfl) rfl ?_
  refine rj_ild0 dX5_pairOf_0 rfl ?_
  refine rj_ild1 dX5_pairOf_1 rfl ?_
  refine rj_min cX5_22 (fitNM (by decide) (Nat.le_of_ble_eq_true rfl)) dX5_pairOf_2 ?_
  refine rj_ic4 dX5_pairOf_5 ?_
  refine rj_imul dX5_pairOf_6 ?_
  refine rj_ild0 dX5_pairOf_7 rfl ?_
  refine rj_ild1 dX5_pairOf_8 rfl ?_
  refine rj_max cX5_28 (fitNM (by decide) (Nat.le_of_ble_eq_true rfl)) dX5_pairOf_9 ?_
  refine rj_iadd dX5_pairOf_12 ?_
  refine rj_ist2 dX5_pairOf_13 (by decide) rfl ?_
  refine rj_ic0 dX5_pairOf_14 ?_
  refine rj_ild2 dX5_pairOf_15 rfl ?_
  refine rj_bipush (v := 15) dX5_pairOf_16 (by decide) ?_
  refine rj_min cX5_22 (fitNM (by decide) (Nat.le_of_ble_eq_true rfl)) dX5_pairOf_18 ?_
  refine rj_max cX5_28 (fitNM (by decide) (Nat.le_of_ble_eq_true rfl)) dX5_pairOf_21 ?_
  refine rj_iret dX5_pairOf_24 ?_
  exact ⟨rfl, rfl⟩

set_option maxRecDepth 100000 in
theorem c_X5_cross {l : Launch} {X : CX} {σ : ST} {k : Nat} {rc c : Int32} {xs : List Int32} (hk : kd k = 5) (hS : Sd σ k rc xs) (hc : okc rc c.toInt) (hr : rc.toInt ≤ 4) : MJ l X 2 yX5_cross cX5_cross 6 none [.ref (ad X k), .int c] σ (PV (fun τ => Sd τ k rc (xs ++ [c]) ∧ off (sdC k) σ τ)) := by
  refine MJ_of (own := RX5) [some (.ref (ad X k)), some (.int c), none, none, none, none] (by decide) rfl (Nat.le_of_ble_eq_true rfl) rfl ?_
  obtain ⟨hka, hkl, hkb, hkm⟩ := sd_next hk
  obtain ⟨ha, hb, hd⟩ := hS
  obtain ⟨i1, i2, i3, i4⟩ := iab_ok hc hr
  have him : (iab c - 1).toInt = c.toInt.natAbs - 1 := by rw [i_sub (by rw [t1]; omega) (by rw [t1]; omega), t1]; omega
  have hc1 : (iab c).toNatClampNeg = c.toInt.natAbs := by rw [cl_i, i1]; rfl
  have hc2 : (iab c - 1).toNatClampNeg = c.toInt.natAbs - 1 := by rw [cl_i, him]; omega
  refine rj_ild1 dX5_cross_0 rfl ?_
  refine rj_abs cX5_44 (fitNM (by decide) (Nat.le_of_ble_eq_true rfl)) dX5_cross_1 ?_
  refine rj_top (x' := iab c) rfl ?_
  refine rj_ist2 dX5_cross_4 (by decide) rfl ?_
  refine rj_ild2 dX5_cross_5 rfl ?_
  refine rj_ic1 dX5_cross_6 ?_
  refine rj_ic_lt (tgt := 18) dX5_cross_7 (by decide) (fun h_7 => ?_) (fun h_7 => ?_)
  · exfalso; rw [t1] at h_7; omega
  · refine rj_ild2 dX5_cross_10 rfl ?_
    refine rj_ald0 dX5_cross_11 rfl ?_
    refine g5_18 (by first | assumption | rfl) dX5_cross_12 ?_
    refine rj_ic_lt (tgt := 19) dX5_cross_15 (by decide) (fun h_15 => ?_) (fun h_15 => ?_)
    · refine rj_ald0 dX5_cross_19 rfl ?_
      refine g5_9 (by first | assumption | rfl) dX5_cross_20 ?_
      refine rj_ild2 dX5_cross_23 rfl ?_
      refine rj_ic1 dX5_cross_24 ?_
      refine rj_isub dX5_cross_25 ?_
      refine rj_iald (by first | assumption | rfl) (vpi (by omega) (by rw [hkl]; omega)) dX5_cross_26 ?_
      rw [hc2, hb _ (by omega)]
      refine rj_ist3 dX5_cross_27 (by decide) rfl ?_
      refine rj_ald0 dX5_cross_28 rfl ?_
      refine g5_9 (by first | assumption | rfl) dX5_cross_29 ?_
      refine rj_ild2 dX5_cross_32 rfl ?_
      refine rj_iald (by first | assumption | rfl) (vpi (by omega) (by rw [hkl]; omega)) dX5_cross_33 ?_
      rw [hc1, hb _ (by omega)]
      refine rj_ist4w dX5_cross_34 (by decide) rfl ?_
      refine rj_ald0 dX5_cross_36 rfl ?_
      refine g5_9 (by first | assumption | rfl) dX5_cross_37 ?_
      refine rj_ild2 dX5_cross_40 rfl ?_
      refine rj_ic1 dX5_cross_41 ?_
      refine rj_isub dX5_cross_42 ?_
      refine rj_ild dX5_cross_43 rfl ?_
      refine rj_iast (by first | assumption | rfl) (vpi (by omega) (by rw [hkl]; omega)) dX5_cross_45 ?_
      rw [hc2]
      refine rj_ald0 dX5_cross_46 rfl ?_
      refine g5_9 (by first | assumption | rfl) dX5_cross_47 ?_
      refine rj_ild2 dX5_cross_50 rfl ?_
      refine rj_ild3 dX5_cross_51 rfl ?_
      refine rj_iast (by first | assumption | rfl) (vpi (by omega) (by rw [hkl]; omega)) dX5_cross_52 ?_
      rw [hc1]
      refine rj_ild3 dX5_cross_53 rfl ?_
      refine rj_ild dX5_cross_54 rfl ?_
      refine rj_S2i cX5_47 dX5_cross_56 c_X5_pairOf (fitM (by decide) (by decide)) (Nat.le_of_ble_eq_true rfl) ?_
      refine rj_ist5w dX5_cross_59 (by decide) rfl ?_
      refine rj_ald0 dX5_cross_61 rfl ?_
      refine g5_15 (by first | assumption | rfl) dX5_cross_62 ?_
      refine rj_ild dX5_cross_65 rfl ?_
      refine rj_dup2 dX5_cross_67 rfl rfl ?_
      refine rj_iald (by first | assumption | rfl) (vpi (pr_in _ _).1 (by rw [hkm]; have := (pr_in ((stf xs).1 (c.toInt.natAbs - 1)) ((stf xs).1 c.toInt.natAbs)).2; omega)) dX5_cross_68 ?_
      rw [ui_ne (by omega), ui_ne (by omega), hd _ (pr_cl _ _)]
      refine rj_ild1 dX5_cross_69 rfl ?_
      refine rj_N1i cX5_50 dX5_cross_70 c_X11_signOf (fitM (by decide) (by decide)) (Nat.le_of_ble_eq_true rfl) ?_
      refine rj_iadd dX5_cross_73 ?_
      refine rj_iast (by first | assumption | rfl) (vpi (pr_in _ _).1 (by rw [hkm]; have := (pr_in ((stf xs).1 (c.toInt.natAbs - 1)) ((stf xs).1 c.toInt.natAbs)).2; omega)) dX5_cross_74 ?_
      refine rj_vret dX5_cross_75 ?_
      refine ⟨rfl, ⟨?_, fun j hj => ?_, fun q hq => ?_⟩, ((off.rf.ui (Or.inr (Or.inl rfl))).ui (Or.inr (Or.inl rfl))).ui (Or.inr (Or.inr rfl))⟩
      · rw [ui_ne (by omega), ui_ne (by omega), ui_ne (by omega)]; exact ha
      · rw [ui_ne (by omega), stf_snoc, ui_at]
        unfold stp upd
        by_cases h1 : j = c.toInt.natAbs
        · rw [if_pos ⟨rfl, h1⟩]; simp [h1]
        · rw [if_neg (fun z => h1 z.2), ui_at]
          by_cases h2 : j = c.toInt.natAbs - 1
          · rw [if_pos ⟨rfl, h2⟩]; simp [h2]; omega
          · rw [if_neg (fun z => h2 z.2), hb j hj]; simp [h1, h2]
      · rw [ui_at, stf_snoc]
        unfold stp upd
        by_cases h1 : q = (pr ((stf xs).1 (c.toInt.natAbs - 1)) ((stf xs).1 c.toInt.natAbs)).toNatClampNeg
        · rw [if_pos ⟨rfl, h1⟩]; simp [h1]
        · rw [if_neg (fun z => h1 z.2), ui_ne (by omega), ui_ne (by omega), hd q hq]; simp [h1]
    · exfalso; rw [ha] at h_15; omega

set_option maxRecDepth 100000 in
theorem l_X5_follow3 {l : Launch} {X : CX} {h : Nat} {Q : Option Value → ST → Prop} {σ : ST} {k k1 : Nat} {rc : Int32} {xs : List Int32} (hh : 3 ≤ h) (hk : kd k = 5) (hk1 : kd k1 = 2) (hx : Rw σ k1 xs) (hok : okL rc xs) (hr : rc.toInt ≤ 4) (hQ : ∀ τ, Sd τ k rc xs → off (sdC k) σ τ → Q none τ) : ∀ (N i : Nat) (τ : ST), xs.length < i + N → (i ≤ xs.length ∧ Sd τ k rc (xs.take i) ∧ off (sdC k) σ τ) → RJ (GM l X h Q) X cX5_follow 4 none RX5 63 [some (.ref (ad X k)), some (.ref (ad X k1)), some (.int rc), some (.int (nI i))] [] τ := by
  intro N
  induction N with
  | zero => intro i τ hN hi; have := hi.1; exact absurd hN (by omega)
  | succ N ih =>
    intro i τ hN hi
    obtain ⟨hi, hS, ho⟩ := hi
    obtain ⟨hka, hkl, hkb, hkm⟩ := sd_next hk
    have hka1 := (row_next hk1).1
    have hsm := hx.small hk1
    have hit := nIt (i := i) (by omega)
    have hx1 : Rw τ k1 xs := hx.off ho (sd_row hk hk1).1 (sd_row hk hk1).2
    have hs1 := hx1.1
    refine rj_ild3 dX5_follow_63 rfl ?_
    refine rj_ald1 dX5_follow_64 rfl ?_
    refine g5_31 (by first | assumption | rfl) dX5_follow_65 ?_
    refine rj_ic_ge (tgt := 86) dX5_follow_68 (by decide) (fun h_68 => ?_) (fun h_68 => ?_)
    · refine rj_vret dX5_follow_86 ?_
      have hie : i = xs.length := by omega
      rw [hie, List.take_length] at hS
      exact hQ τ hS ho
    · refine rj_ald0 dX5_follow_71 rfl ?_
      refine rj_ald1 dX5_follow_72 rfl ?_
      refine rj_ild3 dX5_follow_73 rfl ?_
      refine rj_V1i (ci := 2) cX5_36 rfl (by decide) (by first | assumption | rfl) dX5_follow_74 (c_X2_atL hk1 hx1) (fitM (by omega) (by decide)) (Nat.le_of_ble_eq_true rfl) ?_
      rw [rat_in hit (by omega)]
      refine rj_V1 (ci := 5) cX5_40 rfl (by decide) (by first | assumption | rfl) dX5_follow_77 (c_X5_cross hk hS (okL_get hok (i := i) (by omega)) hr) (fitM (by omega) (by decide)) (Nat.le_of_ble_eq_true rfl) ?_
      rintro v υ ⟨rfl, hS1, ho1⟩
      simp only [Option.toList, List.nil_append]
      rw [← take_snoc (by omega)] at hS1
      refine rj_iinc3 (d := 1) dX5_follow_80 (by decide) rfl (by decide) ?_
      rw [nI_1]
      refine rj_goto (tgt := 63) dX5_follow_83 (by decide) ?_
      exact ih (i + 1) υ (by omega) ⟨by omega, hS1, ho.tr ho1⟩

set_option maxRecDepth 100000 in
theorem l_X5_follow2 {l : Launch} {X : CX} {h : Nat} {Q : Option Value → ST → Prop} {σ : ST} {k : Nat} {a1 : Option Value} {rc : Int32} (hk : kd k = 5) (hQ : ∀ τ, (∀ q, q < 16 → τ.1 (k + 2) q = 0) → off (fun a => a = k + 2) σ τ → RJ (GM l X h Q) X cX5_follow 4 none RX5 61 [some (.ref (ad X k)), a1, some (.int rc), some (.int 16)] [] τ) : ∀ (N i : Nat) (τ : ST), 16 < i + N → (i ≤ 16 ∧ (∀ q, q < i → τ.1 (k + 2) q = 0) ∧ off (fun a => a = k + 2) σ τ) → RJ (GM l X h Q) X cX5_follow 4 none RX5 39 [some (.ref (ad X k)), a1, some (.int rc), some (.int (nI i))] [] τ := by
  intro N
  induction N with
  | zero => intro i τ hN hi; have := hi.1; exact absurd hN (by omega)
  | succ N ih =>
    intro i τ hN hi
    obtain ⟨hi, hz, ho⟩ := hi
    obtain ⟨hka, hkl, hkb, hkm⟩ := sd_next hk
    have hcap : (nI (ln (k + 2))).toInt = 16 := by rw [hkm]; decide
    have hit := nIt (i := i) (by omega)
    refine rj_ild3 dX5_follow_39 rfl ?_
    refine rj_ald0 dX5_follow_40 rfl ?_
    refine g5_15 (by first | assumption | rfl) dX5_follow_41 ?_
    refine rj_alen (by first | assumption | rfl) dX5_follow_44 ?_
    refine rj_ic_ge (tgt := 61) dX5_follow_45 (by decide) (fun h_45 => ?_) (fun h_45 => ?_)
    · have hie : i = 16 := by omega
      subst hie
      exact hQ τ hz ho
    · refine rj_ald0 dX5_follow_48 rfl ?_
      refine g5_15 (by first | assumption | rfl) dX5_follow_49 ?_
      refine rj_ild3 dX5_follow_52 rfl ?_
      refine rj_ic0 dX5_follow_53 ?_
      refine rj_iast (by first | assumption | rfl) (vpi (by omega) (by rw [hkm]; omega)) dX5_follow_54 ?_
      rw [nI_clamp (by omega)]
      refine rj_iinc3 (d := 1) dX5_follow_55 (by decide) rfl (by decide) ?_
      rw [nI_1]
      refine rj_goto (tgt := 39) dX5_follow_58 (by decide) ?_
      refine ih (i + 1) _ (by omega) ⟨by omega, fun q hq => ?_, ho.ui rfl⟩
      rw [ui_at]
      by_cases z : q = i
      · rw [if_pos ⟨rfl, z⟩]
      · rw [if_neg (fun y => z y.2), hz q (by omega)]

set_option maxRecDepth 100000 in
theorem l_X5_follow1 {l : Launch} {X : CX} {h : Nat} {Q : Option Value → ST → Prop} {σ : ST} {k : Nat} {a1 : Option Value} {rc : Int32} (hk : kd k = 5) (hQ : ∀ τ, (∀ q, q < 4 → τ.1 (k + 1) q = nI q) → off (fun a => a = k + 1) σ τ → RJ (GM l X h Q) X cX5_follow 4 none RX5 37 [some (.ref (ad X k)), a1, some (.int rc), some (.int 4)] [] τ) : ∀ (N i : Nat) (τ : ST), 4 < i + N → (i ≤ 4 ∧ (∀ q, q < i → τ.1 (k + 1) q = nI q) ∧ off (fun a => a = k + 1) σ τ) → RJ (GM l X h Q) X cX5_follow 4 none RX5 15 [some (.ref (ad X k)), a1, some (.int rc), some (.int (nI i))] [] τ := by
  intro N
  induction N with
  | zero => intro i τ hN hi; have := hi.1; exact absurd hN (by omega)
  | succ N ih =>
    intro i τ hN hi
    obtain ⟨hi, hz, ho⟩ := hi
    obtain ⟨hka, hkl, hkb, hkm⟩ := sd_next hk
    have hcap : (nI (ln (k + 1))).toInt = 4 := by rw [hkl]; decide
    have hit := nIt (i := i) (by omega)
    refine rj_ild3 dX5_follow_15 rfl ?_
    refine rj_ald0 dX5_follow_16 rfl ?_
    refine g5_9 (by first | assumption | rfl) dX5_follow_17 ?_
    refine rj_alen (by first | assumption | rfl) dX5_follow_20 ?_
    refine rj_ic_ge (tgt := 37) dX5_follow_21 (by decide) (fun h_21 => ?_) (fun h_21 => ?_)
    · have hie : i = 4 := by omega
      subst hie
      exact hQ τ hz ho
    · refine rj_ald0 dX5_follow_24 rfl ?_
      refine g5_9 (by first | assumption | rfl) dX5_follow_25 ?_
      refine rj_ild3 dX5_follow_28 rfl ?_
      refine rj_ild3 dX5_follow_29 rfl ?_
      refine rj_iast (by first | assumption | rfl) (vpi (by omega) (by rw [hkl]; omega)) dX5_follow_30 ?_
      rw [nI_clamp (by omega)]
      refine rj_iinc3 (d := 1) dX5_follow_31 (by decide) rfl (by decide) ?_
      rw [nI_1]
      refine rj_goto (tgt := 15) dX5_follow_34 (by decide) ?_
      refine ih (i + 1) _ (by omega) ⟨by omega, fun q hq => ?_, ho.ui rfl⟩
      rw [ui_at]
      by_cases z : q = i
      · rw [if_pos ⟨rfl, z⟩, z]
      · rw [if_neg (fun y => z y.2), hz q (by omega)]

set_option maxRecDepth 100000 in
theorem c_X5_follow {l : Launch} {X : CX} {σ : ST} {k k1 : Nat} {rc : Int32} {xs : List Int32} (hk : kd k = 5) (hk1 : kd k1 = 2) (hx : Rw σ k1 xs) (hok : okL rc xs) (hr : 2 ≤ rc.toInt ∧ rc.toInt ≤ 4) : MJ l X 3 yX5_follow cX5_follow 4 none [.ref (ad X k), .ref (ad X k1), .int rc] σ (PV (fun τ => Sd τ k rc xs ∧ off (sdC k) σ τ)) := by
  refine MJ_of (own := RX5) [some (.ref (ad X k)), some (.ref (ad X k1)), some (.int rc), none] (by decide) rfl (Nat.le_of_ble_eq_true rfl) rfl ?_
  obtain ⟨hka, hkl, hkb, hkm⟩ := sd_next hk
  have hka1 := (row_next hk1).1
  have hxo : ∀ τ, off (sdC k) σ τ → Rw τ k1 xs := fun τ ho => hx.off ho (sd_row hk hk1).1 (sd_row hk hk1).2
  have h4 : (4 : Int32).toInt = 4 := by decide
  have hclamp : (if (0 : Int32) < (if (4 : Int32) < rc then 4 else rc) then (if (4 : Int32) < rc then 4 else rc) else 0) = rc := by
    have e : (if (4 : Int32) < rc then 4 else rc) = rc := if_neg (fun q => by have := tlt q; omega)
    rw [e, if_pos (Int32.lt_iff_toInt_lt.mpr (by rw [t0]; omega))]
  refine rj_ald0 dX5_follow_0 rfl ?_
  refine rj_ic0 dX5_follow_1 ?_
  refine rj_ild2 dX5_follow_2 rfl ?_
  refine rj_ic4 dX5_follow_3 ?_
  refine rj_min cX5_22 (fitNM (by decide) (Nat.le_of_ble_eq_true rfl)) dX5_follow_4 ?_
  refine rj_max cX5_28 (fitNM (by decide) (Nat.le_of_ble_eq_true rfl)) dX5_follow_7 ?_
  rw [hclamp]
  refine p5_18 (by first | assumption | rfl) dX5_follow_10 ?_
  refine rj_ic0 dX5_follow_13 ?_
  refine rj_ist3 dX5_follow_14 (by decide) rfl ?_
  refine l_X5_follow1 hk (fun τ h1 ho1 => ?_) 5 0 _ (by omega) ⟨by omega, fun q hq => absurd hq (by omega), off.rf⟩
  refine rj_ic0 dX5_follow_37 ?_
  refine rj_ist3 dX5_follow_38 (by decide) rfl ?_
  refine l_X5_follow2 hk (fun υ h2 ho2 => ?_) 17 0 _ (by omega) ⟨by omega, fun q hq => absurd hq (by omega), off.rf⟩
  refine rj_ic0 dX5_follow_61 ?_
  refine rj_ist3 dX5_follow_62 (by decide) rfl ?_
  have hou : off (sdC k) σ υ := (((off.rf.ui (Or.inl rfl)).tr (ho1.mono (fun a ha => Or.inr (Or.inl ha)))).tr (ho2.mono (fun a ha => Or.inr (Or.inr ha))))
  refine l_X5_follow3 (by decide) hk hk1 (hxo υ hou) hok hr.2 (fun φ h3 h4 => ⟨rfl, h3, hou.tr h4⟩) (xs.length + 1) 0 υ (by omega) ⟨by omega, ⟨?_, fun j hj => ?_, fun q hq => ?_⟩, off.rf⟩
  · rw [(ho2 k (by omega)).1, (ho1 k (by omega)).1, ui_same]
  · rw [(ho2 _ (by omega)).1, h1 j hj]; rfl
  · rw [h2 q hq]; rfl

