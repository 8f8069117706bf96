/-! sheets -/
theorem sh_all : ∀ k, k < 129 → kd k = 4 → (kd (k + 1) = 14 ∧ ln (k + 1) = 40) := by decide +kernel
theorem sh_next {k : Nat} (h : kd k = 4) : kd (k + 1) = 14 ∧ ln (k + 1) = 40 := sh_all k (kd_lt (by omega)) h
def shC (k : Nat) : Nat → Prop := fun a => a = k ∨ a = k + 1
def Sh (σ : ST) (k : Nat) (bits : Int32) (xs : List Int64) : Prop := σ.1 k 1 = bits ∧ (σ.1 k 2).toInt = xs.length ∧ xs.length ≤ 40 ∧ ∀ i, i < xs.length → σ.2 (k + 1) i = xs.getD i 0
theorem Sh.off {P : Nat → Prop} {σ τ : ST} {k : Nat} {b : Int32} {xs : List Int64} (h : Sh σ k b xs) (ho : off P σ τ) (h1 : ¬ P k) (h2 : ¬ P (k + 1)) : Sh τ k b xs := by
  obtain ⟨a, b, c, d⟩ := h
  have e := (ho k h1).1
  exact ⟨by rw [e]; exact a, by rw [e]; exact b, c, fun i hi => by rw [(ho _ h2).2]; exact d i hi⟩
def lowB (bits : Int32) (v : Int64) : Int64 := if bits = 8 then v.toInt32.toInt8.toInt32.toInt64 else if bits = 16 then v.toInt32.toInt16.toInt32.toInt64 else v
set_option maxRecDepth 100000 in
theorem c_X4_isMissing {l : Launch} {X : CX} {σ : ST} {k : Nat} {bits : Int32} {xs : List Int64} (hk : kd k = 4) (hS : Sh σ k bits xs) : MJ l X 0 yX4_isMissing cX4_isMissing 1 (some .boolean) [.ref (ad X k)] σ (eqI (if bits = 0 then 1 else 0) σ) := by
  refine MJ_of (own := RX4) [some (.ref (ad X k))] (by decide) rfl (Nat.le_of_ble_eq_true rfl) rfl ?_
  obtain ⟨rfl, -⟩ := hS
  refine rj_ald0 dX4_isMissing_0 rfl ?_
  refine g4_15 (by first | assumption | rfl) dX4_isMissing_1 ?_
  refine rj_if_ne (tgt := 11) dX4_isMissing_4 (by decide) (fun h_4 => ?_) (fun h_4 => ?_)
  · refine rj_ic0 dX4_isMissing_11 ?_
    refine rj_zret dX4_isMissing_12 (rfl) ?_
    exact ⟨by rw [if_neg h_4], rfl⟩
  · refine rj_ic1 dX4_isMissing_7 ?_
    refine rj_goto (tgt := 12) dX4_isMissing_8 (by decide) ?_
    refine rj_zret dX4_isMissing_12 (rfl) ?_
    exact ⟨by rw [if_pos h_4], rfl⟩

set_option maxRecDepth 100000 in
theorem c_X4_has {l : Launch} {X : CX} {σ : ST} {k : Nat} {bits : Int32} {xs : List Int64} (hk : kd k = 4) (hS : Sh σ k bits xs) {i : Int32} : MJ l X 0 yX4_has cX4_has 2 (some .boolean) [.ref (ad X k), .int i] σ (eqI (if 0 ≤ i.toInt ∧ i.toInt < xs.length then 1 else 0) σ) := by
  refine MJ_of (own := RX4) [some (.ref (ad X k)), some (.int i)] (by decide) rfl (Nat.le_of_ble_eq_true rfl) rfl ?_
  obtain ⟨hka, hkl⟩ := sh_next hk
  have hsz := hS.2.1
  have hle := hS.2.2.1
  have h40 : (nI (ln (k + 1))).toInt = 40 := by rw [hkl]; decide
  refine rj_ild1 dX4_has_0 rfl ?_
  refine rj_if_lt (tgt := 25) dX4_has_1 (by decide) (fun h_1 => ?_) (fun h_1 => ?_)
  · refine rj_ic0 dX4_has_25 ?_
    refine rj_zret dX4_has_26 (rfl) ?_
    first | (refine ⟨?_, rfl⟩; rw [if_pos (by omega)]; done) | (refine ⟨?_, rfl⟩; rw [if_neg (by omega)]; done) | (exfalso; omega)
  · refine rj_ild1 dX4_has_4 rfl ?_
    refine rj_ald0 dX4_has_5 rfl ?_
    refine g4_19 (by first | assumption | rfl) dX4_has_6 ?_
    refine rj_ic_ge (tgt := 25) dX4_has_9 (by decide) (fun h_9 => ?_) (fun h_9 => ?_)
    · refine rj_ic0 dX4_has_25 ?_
      refine rj_zret dX4_has_26 (rfl) ?_
      first | (refine ⟨?_, rfl⟩; rw [if_pos (by omega)]; done) | (refine ⟨?_, rfl⟩; rw [if_neg (by omega)]; done) | (exfalso; omega)
    · refine rj_ild1 dX4_has_12 rfl ?_
      refine rj_ald0 dX4_has_13 rfl ?_
      refine g4_9 (by first | assumption | rfl) dX4_has_14 ?_
      refine rj_alenL (by first | assumption | rfl) dX4_has_17 ?_
      refine rj_ic_ge (tgt := 25) dX4_has_18 (by decide) (fun h_18 => ?_) (fun h_18 => ?_)
      · refine rj_ic0 dX4_has_25 ?_
        refine rj_zret dX4_has_26 (rfl) ?_
        first | (refine ⟨?_, rfl⟩; rw [if_pos (by omega)]; done) | (refine ⟨?_, rfl⟩; rw [if_neg (by omega)]; done) | (exfalso; omega)
      · refine rj_ic1 dX4_has_21 ?_
        refine rj_goto (tgt := 26) dX4_has_22 (by decide) ?_
        refine rj_zret dX4_has_26 (rfl) ?_
        first | (refine ⟨?_, rfl⟩; rw [if_pos (by omega)]; done) | (refine ⟨?_, rfl⟩; rw [if_neg (by omega)]; done) | (exfalso; omega)

set_option maxRecDepth 100000 in
theorem c_X4_hasFrom {l : Launch} {X : CX} {σ : ST} {k : Nat} {bits : Int32} {xs : List Int64} (hk : kd k = 4) (hS : Sh σ k bits xs) {i n : Int32} : MJ l X 1 yX4_hasFrom cX4_hasFrom 3 (some .boolean) [.ref (ad X k), .int i, .int n] σ (eqI (if 0 ≤ i.toInt ∧ 0 ≤ n.toInt ∧ i.toInt ≤ xs.length - n.toInt then 1 else 0) σ) := by
  refine MJ_of (own := RX4) [some (.ref (ad X k)), some (.int i), some (.int n)] (by decide) rfl (Nat.le_of_ble_eq_true rfl) rfl ?_
  obtain ⟨hka, hkl⟩ := sh_next hk
  have hsz := hS.2.1
  have hle := hS.2.2.1
  have h40 : (nI (ln (k + 1))).toInt = 40 := by rw [hkl]; decide
  refine rj_ild1 dX4_hasFrom_0 rfl ?_
  refine rj_if_lt (tgt := 30) dX4_hasFrom_1 (by decide) (fun h_1 => ?_) (fun h_1 => ?_)
  · refine rj_ic0 dX4_hasFrom_30 ?_
    refine rj_zret dX4_hasFrom_31 (rfl) ?_
    first | (refine ⟨?_, rfl⟩; rw [if_pos (by omega)]; done) | (refine ⟨?_, rfl⟩; rw [if_neg (by omega)]; done) | (exfalso; omega)
  · refine rj_ild2 dX4_hasFrom_4 rfl ?_
    refine rj_if_lt (tgt := 30) dX4_hasFrom_5 (by decide) (fun h_5 => ?_) (fun h_5 => ?_)
    · refine rj_ic0 dX4_hasFrom_30 ?_
      refine rj_zret dX4_hasFrom_31 (rfl) ?_
      first | (refine ⟨?_, rfl⟩; rw [if_pos (by omega)]; done) | (refine ⟨?_, rfl⟩; rw [if_neg (by omega)]; done) | (exfalso; omega)
    · have hb := i_hi n
      have hsub : (σ.1 k 2 - n).toInt = xs.length - n.toInt := by rw [i_sub (by omega) (by omega), hsz]
      refine rj_ild1 dX4_hasFrom_8 rfl ?_
      refine rj_ald0 dX4_hasFrom_9 rfl ?_
      refine g4_19 (by first | assumption | rfl) dX4_hasFrom_10 ?_
      refine rj_ald0 dX4_hasFrom_13 rfl ?_
      refine g4_9 (by first | assumption | rfl) dX4_hasFrom_14 ?_
      refine rj_alenL (by first | assumption | rfl) dX4_hasFrom_17 ?_
      refine rj_min cX4_22 (fitNM (by first | decide | omega) (Nat.le_of_ble_eq_true rfl)) dX4_hasFrom_18 ?_
      rw [if_neg (show ¬ nI (ln (k + 1)) < σ.1 k 2 from fun q => by have := tlt q; omega)]
      refine rj_ild2 dX4_hasFrom_21 rfl ?_
      refine rj_isub dX4_hasFrom_22 ?_
      refine rj_ic_gt (tgt := 30) dX4_hasFrom_23 (by decide) (fun h_23 => ?_) (fun h_23 => ?_)
      · refine rj_ic0 dX4_hasFrom_30 ?_
        refine rj_zret dX4_hasFrom_31 (rfl) ?_
        first | (refine ⟨?_, rfl⟩; rw [if_pos (by omega)]; done) | (refine ⟨?_, rfl⟩; rw [if_neg (by omega)]; done) | (exfalso; omega)
      · refine rj_ic1 dX4_hasFrom_26 ?_
        refine rj_goto (tgt := 31) dX4_hasFrom_27 (by decide) ?_
        refine rj_zret dX4_hasFrom_31 (rfl) ?_
        first | (refine ⟨?_, rfl⟩; rw [if_pos (by omega)]; done) | (refine ⟨?_, rfl⟩; rw [if_neg (by omega)]; done) | (exfalso; omega)

def sat (xs : List Int64) (i : Int32) : Int64 := if 0 ≤ i.toInt ∧ i.toInt < xs.length then xs.getD i.toInt.toNat 0 else 0
theorem sat_in {xs : List Int64} {i : Int32} {j : Nat} (h : i.toInt = j) (hj : j < xs.length) : sat xs i = xs.getD j 0 := by
  unfold sat; rw [if_pos (by omega), h, Int.toNat_natCast]
set_option maxRecDepth 100000 in
theorem c_X4_at {l : Launch} {X : CX} {σ : ST} {k : Nat} {bits : Int32} {xs : List Int64} (hk : kd k = 4) (hS : Sh σ k bits xs) {i : Int32} : MJ l X 1 yX4_at cX4_at 2 (some .long) [.ref (ad X k), .int i] σ (eqL (sat xs i) σ) := by
  refine MJ_of (own := RX4) [some (.ref (ad X k)), some (.int i)] (by decide) rfl (Nat.le_of_ble_eq_true rfl) rfl ?_
  obtain ⟨hka, hkl⟩ := sh_next hk
  have hsz := hS.2.1
  have hle := hS.2.2.1
  have h40 : (nI (ln (k + 1))).toInt = 40 := by rw [hkl]; decide
  refine rj_ald0 dX4_at_0 rfl ?_
  refine rj_ild1 dX4_at_1 rfl ?_
  refine rj_V1i (ci := 4) cX4_28 rfl (by decide) (by first | assumption | rfl) dX4_at_2 (c_X4_has hk hS) (fitM (by decide) (by decide)) (Nat.le_of_ble_eq_true rfl) ?_
  refine rj_if_eq (tgt := 17) dX4_at_5 (by decide) (fun h_5 => ?_) (fun h_5 => ?_)
  · have hb_5 := bz_t h_5
    refine rj_lc0 dX4_at_17 ?_
    refine rj_lret dX4_at_18 ?_
    unfold sat
    exact ⟨by rw [if_neg hb_5], rfl⟩
  · have hb_5 := bz_f h_5
    refine rj_ald0 dX4_at_8 rfl ?_
    refine g4_9 (by first | assumption | rfl) dX4_at_9 ?_
    refine rj_ild1 dX4_at_12 rfl ?_
    refine rj_lald (by first | assumption | rfl) (vpi (by omega) (by rw [hkl]; omega)) dX4_at_13 ?_
    refine rj_goto (tgt := 18) dX4_at_14 (by decide) ?_
    refine rj_lret dX4_at_18 ?_
    unfold sat
    exact ⟨by rw [if_pos hb_5, cl_i, hS.2.2.2 _ (by omega)], rfl⟩

set_option maxRecDepth 100000 in
theorem c_X4_lowestBits {l : Launch} {X : CX} {σ : ST} {k : Nat} {v : Int64} (hk : kd k = 4) : MJ l X 0 yX4_lowestBits cX4_lowestBits 3 (some .long) [.ref (ad X k), .long v] σ (eqL (lowB (σ.1 k 1) v) σ) := by
  refine MJ_of (own := RX4) [some (.ref (ad X k)), some (.long v), none] (by decide) rfl (Nat.le_of_ble_eq_true rfl) rfl ?_
  refine rj_ald0 dX4_lowestBits_0 rfl ?_
  refine g4_15 (by first | assumption | rfl) dX4_lowestBits_1 ?_
  refine rj_bipush (v := 8) dX4_lowestBits_4 (by decide) ?_
  refine rj_ic_ne (tgt := 14) dX4_lowestBits_6 (by decide) (fun h_6 => ?_) (fun h_6 => ?_)
  · refine rj_ald0 dX4_lowestBits_14 rfl ?_
    refine g4_15 (by first | assumption | rfl) dX4_lowestBits_15 ?_
    refine rj_bipush (v := 16) dX4_lowestBits_18 (by decide) ?_
    refine rj_ic_ne (tgt := 30) dX4_lowestBits_20 (by decide) (fun h_20 => ?_) (fun h_20 => ?_)
    · refine rj_lld1 dX4_lowestBits_30 rfl ?_
      refine rj_lret dX4_lowestBits_31 ?_
      unfold lowB
      exact ⟨by rw [if_neg h_6, if_neg h_20], rfl⟩
    · refine rj_lld1 dX4_lowestBits_23 rfl ?_
      refine rj_l2i dX4_lowestBits_24 ?_
      refine rj_i2s dX4_lowestBits_25 ?_
      refine rj_i2l dX4_lowestBits_26 ?_
      refine rj_goto (tgt := 31) dX4_lowestBits_27 (by decide) ?_
      refine rj_lret dX4_lowestBits_31 ?_
      unfold lowB
      exact ⟨by rw [if_neg h_6, if_pos h_20], rfl⟩
  · refine rj_lld1 dX4_lowestBits_9 rfl ?_
    refine rj_l2i dX4_lowestBits_10 ?_
    refine rj_i2b dX4_lowestBits_11 ?_
    refine rj_i2l dX4_lowestBits_12 ?_
    refine rj_lret dX4_lowestBits_13 ?_
    unfold lowB
    exact ⟨by rw [if_pos h_6], rfl⟩

theorem getDL_set (l : List Int64) (j i : Nat) (v d : Int64) (hj : j < l.length) : (l.set j v).getD i d = if i = j then v else l.getD i d := by
  by_cases h : i = j
  · subst h; simp [List.getD, hj]
  · simp [List.getD, List.getElem?_set, Ne.symm h, h]
theorem sh_put {σ : ST} {k j : Nat} {b : Int32} {xs : List Int64} {x : Int64} (hx : Sh σ k b xs) (hj : j < xs.length) : Sh (ul σ (k + 1) j x) k b (xs.set j x) := by
  obtain ⟨a, b, c, d⟩ := hx
  refine ⟨a, by rw [List.length_set]; exact b, by rw [List.length_set]; exact c, fun i hi => ?_⟩
  rw [List.length_set] at hi
  rw [ul_at, getDL_set _ _ _ _ _ hj]
  by_cases h : i = j
  · subst h; rw [if_pos ⟨rfl, rfl⟩, if_pos rfl]
  · rw [if_neg (fun q => h q.2), if_neg h, d i hi]
set_option maxRecDepth 100000 in
theorem c_X4_put {l : Launch} {X : CX} {σ : ST} {k : Nat} {bits : Int32} {xs : List Int64} (hk : kd k = 4) (hS : Sh σ k bits xs) {i : Int32} {v : Int64} {j : Nat} (hi : i.toInt = j) (hj : j < xs.length) : MJ l X 1 yX4_put cX4_put 4 none [.ref (ad X k), .int i, .long v] σ (PV (fun τ => Sh τ k bits (xs.set j (lowB bits v)) ∧ off (shC k) σ τ)) := by
  refine MJ_of (own := RX4) [some (.ref (ad X k)), some (.int i), some (.long v), none] (by decide) rfl (Nat.le_of_ble_eq_true rfl) rfl ?_
  obtain ⟨hka, hkl⟩ := sh_next hk
  have hsz := hS.2.1
  have hle := hS.2.2.1
  have h40 : (nI (ln (k + 1))).toInt = 40 := by rw [hkl]; decide
  refine rj_ald0 dX4_put_0 rfl ?_
  refine rj_ild1 dX4_put_1 rfl ?_
  refine rj_V1i (ci := 4) cX4_28 rfl (by decide) (by first | assumption | rfl) dX4_put_2 (c_X4_has hk hS) (fitM (by decide) (by decide)) (Nat.le_of_ble_eq_true rfl) ?_
  refine rj_if_eq (tgt := 19) dX4_put_5 (by decide) (fun h_5 => ?_) (fun h_5 => ?_)
  · exact absurd (by omega) (bz_t h_5)
  · have hb_5 := bz_f h_5
    refine rj_ald0 dX4_put_8 rfl ?_
    refine g4_9 (by first | assumption | rfl) dX4_put_9 ?_
    refine rj_ild1 dX4_put_12 rfl ?_
    refine rj_ald0 dX4_put_13 rfl ?_
    refine rj_lld2 dX4_put_14 rfl ?_
    refine rj_V1l (ci := 4) cX4_32 rfl (by decide) (by first | assumption | rfl) dX4_put_15 (c_X4_lowestBits hk) (fitM (by decide) (by decide)) (Nat.le_of_ble_eq_true rfl) ?_
    refine rj_last (by first | assumption | rfl) (vpi (by omega) (by rw [hkl]; omega)) dX4_put_18 ?_
    refine rj_vret dX4_put_19 ?_
    rw [cl_i, hi, Int.toNat_natCast, hS.1]
    exact ⟨rfl, sh_put hS hj, off.rf.ul (Or.inr rfl)⟩

set_option maxRecDepth 100000 in
theorem l_X4_begin {l : Launch} {X : CX} {h : Nat} {Q : Option Value → ST → Prop} {σ : ST} {k : Nat} {b n : Int32} (hk : kd k = 4) (hQ : ∀ τ, (∀ i, i < 40 → τ.2 (k + 1) i = 0) → τ.1 = σ.1 → off (shC k) σ τ → Q none τ) : ∀ (N i : Nat) (τ : ST), 40 < i + N → (i ≤ 40 ∧ (∀ j, j < i → τ.2 (k + 1) j = 0) ∧ τ.1 = σ.1 ∧ off (shC k) σ τ) → RJ (GM l X h Q) X cX4_begin 4 none RX4 20 [some (.ref (ad X k)), some (.int b), some (.int n), some (.int (nI i))] [] τ := by
  intro N
  induction N with
  | zero => intro i τ hN hi; have := hi.1; exact absurd hN (by omega)
  | succ N ih =>
    intro i τ hN hi
    obtain ⟨hi, hz, h1, ho⟩ := hi
    obtain ⟨hka, hkl⟩ := sh_next hk
    have h40 : (nI (ln (k + 1))).toInt = 40 := by rw [hkl]; decide
    have hit : (nI i).toInt = i := nI_t (by omega)
    refine rj_ild3 dX4_begin_20 rfl ?_
    refine rj_ald0 dX4_begin_21 rfl ?_
    refine g4_9 (by first | assumption | rfl) dX4_begin_22 ?_
    refine rj_alenL (by first | assumption | rfl) dX4_begin_25 ?_
    refine rj_ic_ge (tgt := 42) dX4_begin_26 (by decide) (fun h_26 => ?_) (fun h_26 => ?_)
    · refine rj_vret dX4_begin_42 ?_
      exact hQ τ (fun j hj => hz j (by omega)) h1 ho
    · refine rj_ald0 dX4_begin_29 rfl ?_
      refine g4_9 (by first | assumption | rfl) dX4_begin_30 ?_
      refine rj_ild3 dX4_begin_33 rfl ?_
      refine rj_lc0 dX4_begin_34 ?_
      refine rj_last (by first | assumption | rfl) (vpi (by omega) (by rw [hkl]; omega)) dX4_begin_35 ?_
      rw [nI_clamp (by omega)]
      refine rj_iinc3 (d := 1) dX4_begin_36 (by decide) rfl (by decide) ?_
      rw [nI_1]
      refine rj_goto (tgt := 20) dX4_begin_39 (by decide) ?_
      refine ih (i + 1) _ (by omega) ⟨by omega, fun j hj => ?_, h1, ho.ul (Or.inr rfl)⟩
      rw [ul_at]
      by_cases q : j = i
      · rw [if_pos ⟨rfl, q⟩]
      · rw [if_neg (fun z => q z.2), hz j (by omega)]

set_option maxRecDepth 100000 in
theorem c_X4_begin {l : Launch} {X : CX} {σ : ST} {k : Nat} {b n : Int32} (hk : kd k = 4) (hn : 0 ≤ n.toInt ∧ n.toInt ≤ 40) : MJ l X 0 yX4_begin cX4_begin 4 none [.ref (ad X k), .int b, .int n] σ (PV (fun τ => Sh τ k b (List.replicate (if b = 0 then 0 else n.toInt.toNat) 0) ∧ off (shC k) σ τ)) := by
  refine MJ_of (own := RX4) [some (.ref (ad X k)), some (.int b), some (.int n), none] (by decide) rfl (Nat.le_of_ble_eq_true rfl) rfl ?_
  refine rj_ald0 dX4_begin_0 rfl ?_
  refine rj_ild1 dX4_begin_1 rfl ?_
  refine p4_15 (by first | assumption | rfl) dX4_begin_2 ?_
  refine rj_ald0 dX4_begin_5 rfl ?_
  refine rj_ild1 dX4_begin_6 rfl ?_
  refine rj_if_ne (tgt := 14) dX4_begin_7 (by decide) (fun h_7 => ?_) (fun h_7 => ?_)
  · refine rj_ild2 dX4_begin_14 rfl ?_
    refine p4_19 (by first | assumption | rfl) dX4_begin_15 ?_
    refine rj_ic0 dX4_begin_18 ?_
    refine rj_ist3 dX4_begin_19 (by decide) rfl ?_
    refine l_X4_begin hk (fun τ hz h1 ho => ⟨rfl, ⟨?_, ?_, ?_, fun i hi => ?_⟩, ?_⟩) 41 0 _ (by omega) ⟨by omega, fun j hj => absurd hj (by omega), rfl, off.rf⟩
    · rw [h1, ui_nj (by decide), ui_same]
    · rw [h1, ui_same, List.length_replicate, if_neg h_7]
      omega
    · rw [List.length_replicate]; split <;> omega
    · rw [List.length_replicate] at hi
      rw [hz i (by split at hi <;> omega)]
      rw [List.getD, List.getElem?_replicate, if_pos hi]; rfl
    · exact ((off.rf.ui (Or.inl rfl)).ui (Or.inl rfl)).tr ho
  · refine rj_ic0 dX4_begin_10 ?_
    refine rj_goto (tgt := 15) dX4_begin_11 (by decide) ?_
    refine p4_19 (by first | assumption | rfl) dX4_begin_15 ?_
    refine rj_ic0 dX4_begin_18 ?_
    refine rj_ist3 dX4_begin_19 (by decide) rfl ?_
    refine l_X4_begin hk (fun τ hz h1 ho => ⟨rfl, ⟨?_, ?_, ?_, fun i hi => ?_⟩, ?_⟩) 41 0 _ (by omega) ⟨by omega, fun j hj => absurd hj (by omega), rfl, off.rf⟩
    · rw [h1, ui_nj (by decide), ui_same]
    · rw [h1, ui_same, List.length_replicate, if_pos h_7]
      rfl
    · rw [List.length_replicate]; split <;> omega
    · rw [List.length_replicate] at hi
      rw [hz i (by split at hi <;> omega)]
      rw [List.getD, List.getElem?_replicate, if_pos hi]; rfl
    · exact ((off.rf.ui (Or.inl rfl)).ui (Or.inl rfl)).tr ho

abbrev sgL (xs : List Int64) : Prop := ∀ j, j < xs.length → (-1 ≤ (xs.getD j 0).toInt ∧ (xs.getD j 0).toInt ≤ 1)
set_option maxRecDepth 100000 in
theorem l_X4_holdsSignsOnly {l : Launch} {X : CX} {h : Nat} {Q : Option Value → ST → Prop} {σ : ST} {k : Nat} {bits : Int32} {xs : List Int64} (hh : 2 ≤ h) (hk : kd k = 4) (hS : Sh σ k bits xs) (hQ : Q (some (.int (if sgL xs then 1 else 0))) σ) : ∀ (N i : Nat), xs.length < i + N → (i ≤ xs.length ∧ ∀ j, j < i → (-1 ≤ (xs.getD j 0).toInt ∧ (xs.getD j 0).toInt ≤ 1)) → RJ (GM l X h Q) X cX4_holdsSignsOnly 2 (some .boolean) RX4 2 [some (.ref (ad X k)), some (.int (nI i))] [] σ := by
  intro N
  induction N with
  | zero => intro i hN hi; have := hi.1; exact absurd hN (by omega)
  | succ N ih =>
    intro i hN hi
    obtain ⟨hi, hv⟩ := hi
    obtain ⟨hka, hkl⟩ := sh_next hk
    have hsz := hS.2.1
    have hle := hS.2.2.1
    have h40 : (nI (ln (k + 1))).toInt = 40 := by rw [hkl]; decide
    have hit : (nI i).toInt = i := nI_t (by omega)
    have hm : (-1 : Int64).toInt = -1 := by decide
    have hp1 : (1 : Int64).toInt = 1 := by decide
    refine rj_ild1 dX4_holdsSignsOnly_2 rfl ?_
    refine rj_ald0 dX4_holdsSignsOnly_3 rfl ?_
    refine g4_19 (by first | assumption | rfl) dX4_holdsSignsOnly_4 ?_
    refine rj_ic_ge (tgt := 40) dX4_holdsSignsOnly_7 (by decide) (fun h_7 => ?_) (fun h_7 => ?_)
    · refine rj_ic1 dX4_holdsSignsOnly_40 ?_
      refine rj_zret dX4_holdsSignsOnly_41 (rfl) ?_
      rw [if_pos (fun j hj => hv j (by omega))] at hQ
      exact hQ
    · refine rj_ald0 dX4_holdsSignsOnly_10 rfl ?_
      refine rj_ild1 dX4_holdsSignsOnly_11 rfl ?_
      refine rj_V1l (ci := 4) cX4_36 rfl (by decide) (by first | assumption | rfl) dX4_holdsSignsOnly_12 (c_X4_at hk hS) (fitM (by omega) (by decide)) (Nat.le_of_ble_eq_true rfl) ?_
      rw [sat_in hit (by omega)]
      refine rj_ldc2 kX4_40 dX4_holdsSignsOnly_15 ?_
      refine rj_lcmp dX4_holdsSignsOnly_18 ?_
      refine rj_if_lt (tgt := 32) dX4_holdsSignsOnly_19 (by decide) (fun h_19 => ?_) (fun h_19 => ?_)
      · have g := lcm_lt h_19
        refine rj_ic0 dX4_holdsSignsOnly_32 ?_
        refine rj_zret dX4_holdsSignsOnly_33 (rfl) ?_
        rw [if_neg (fun q => by have := q i (by omega); omega)] at hQ
        exact hQ
      · have g1 := lcm_ge.mp h_19
        refine rj_ald0 dX4_holdsSignsOnly_22 rfl ?_
        refine rj_ild1 dX4_holdsSignsOnly_23 rfl ?_
        refine rj_V1l (ci := 4) cX4_36 rfl (by decide) (by first | assumption | rfl) dX4_holdsSignsOnly_24 (c_X4_at hk hS) (fitM (by omega) (by decide)) (Nat.le_of_ble_eq_true rfl) ?_
        rw [sat_in hit (by omega)]
        refine rj_lc1 dX4_holdsSignsOnly_27 ?_
        refine rj_lcmp dX4_holdsSignsOnly_28 ?_
        refine rj_if_le (tgt := 34) dX4_holdsSignsOnly_29 (by decide) (fun h_29 => ?_) (fun h_29 => ?_)
        · have g2 := lcm_le.mp h_29
          refine rj_iinc1 (d := 1) dX4_holdsSignsOnly_34 (by decide) rfl (by decide) ?_
          rw [nI_1]
          refine rj_goto (tgt := 2) dX4_holdsSignsOnly_37 (by decide) ?_
          exact ih (i + 1) (by omega) ⟨by omega, fun j hj => by rcases Nat.lt_or_ge j i with q | q; exact hv j q; rw [show j = i by omega]; omega⟩
        · have g := lcm_gt h_29
          refine rj_ic0 dX4_holdsSignsOnly_32 ?_
          refine rj_zret dX4_holdsSignsOnly_33 (rfl) ?_
          rw [if_neg (fun q => by have := q i (by omega); omega)] at hQ
          exact hQ

set_option maxRecDepth 100000 in
theorem c_X4_holdsSignsOnly {l : Launch} {X : CX} {σ : ST} {k : Nat} {bits : Int32} {xs : List Int64} (hk : kd k = 4) (hS : Sh σ k bits xs) : MJ l X 2 yX4_holdsSignsOnly cX4_holdsSignsOnly 2 (some .boolean) [.ref (ad X k)] σ (eqI (if sgL xs then 1 else 0) σ) := by
  refine MJ_of (own := RX4) [some (.ref (ad X k)), none] (by decide) rfl (Nat.le_of_ble_eq_true rfl) rfl ?_
  refine rj_ic0 dX4_holdsSignsOnly_0 ?_
  refine rj_ist1 dX4_holdsSignsOnly_1 (by decide) rfl ?_
  exact l_X4_holdsSignsOnly (by decide) hk hS ⟨rfl, rfl⟩ (xs.length + 1) 0 (by omega) ⟨by omega, fun j hj => absurd hj (by omega)⟩

/-! the tape -/
theorem tp_all : ∀ k, k < 129 → kd k = 6 → (kd (k + 1) = 13 ∧ ln (k + 1) = 120) := by decide +kernel
theorem tp_next {k : Nat} (h : kd k = 6) : kd (k + 1) = 13 ∧ ln (k + 1) = 120 := tp_all k (kd_lt (by omega)) h
def Tp (σ : ST) (k : Nat) (bs : List Int32) : Prop := (σ.1 k 1).toInt = bs.length ∧ bs.length ≤ 120 ∧ ∀ i, i < bs.length → σ.1 (k + 1) i = bs.getD i 0
theorem Tp.off {P : Nat → Prop} {σ τ : ST} {k : Nat} {xs : List Int32} (h : Tp σ k xs) (ho : off P σ τ) (h1 : ¬ P k) (h2 : ¬ P (k + 1)) : Tp τ k xs := by
  obtain ⟨a, b, c⟩ := h
  exact ⟨by rw [(ho k h1).1]; exact a, b, fun i hi => by rw [(ho _ h2).1]; exact c i hi⟩
def tat (bs : List Int32) (i : Int32) : Int32 := if 0 ≤ i.toInt ∧ i.toInt < bs.length then bs.getD i.toInt.toNat 0 else -1
set_option maxRecDepth 100000 in
theorem c_X6_at {l : Launch} {X : CX} {σ : ST} {k : Nat} {bs : List Int32} (hk : kd k = 6) (hT : Tp σ k bs) {i : Int32} : MJ l X 0 yX6_at cX6_at 2 (some .int) [.ref (ad X k), .int i] σ (eqI (tat bs i) σ) := by
  refine MJ_of (own := RX6) [some (.ref (ad X k)), some (.int i)] (by decide) rfl (Nat.le_of_ble_eq_true rfl) rfl ?_
  obtain ⟨hka, hkl⟩ := tp_next hk
  have hsz := hT.1
  have hle := hT.2.1
  have h40 : (nI (ln (k + 1))).toInt = 120 := by rw [hkl]; decide
  refine rj_ild1 dX6_at_0 rfl ?_
  refine rj_if_lt (tgt := 30) dX6_at_1 (by decide) (fun h_1 => ?_) (fun h_1 => ?_)
  · refine rj_icm1 dX6_at_30 ?_
    refine rj_iret dX6_at_31 ?_
    unfold tat
    exact ⟨by rw [if_neg (by omega)], rfl⟩
  · refine rj_ild1 dX6_at_4 rfl ?_
    refine rj_ald0 dX6_at_5 rfl ?_
    refine g6_15 (by first | assumption | rfl) dX6_at_6 ?_
    refine rj_ic_ge (tgt := 30) dX6_at_9 (by decide) (fun h_9 => ?_) (fun h_9 => ?_)
    · refine rj_icm1 dX6_at_30 ?_
      refine rj_iret dX6_at_31 ?_
      unfold tat
      exact ⟨by rw [if_neg (by omega)], rfl⟩
    · refine rj_ild1 dX6_at_12 rfl ?_
      refine rj_ald0 dX6_at_13 rfl ?_
      refine g6_9 (by first | assumption | rfl) dX6_at_14 ?_
      refine rj_alen (by first | assumption | rfl) dX6_at_17 ?_
      refine rj_ic_ge (tgt := 30) dX6_at_18 (by decide) (fun h_18 => ?_) (fun h_18 => ?_)
      · refine rj_icm1 dX6_at_30 ?_
        refine rj_iret dX6_at_31 ?_
        unfold tat
        exact ⟨by rw [if_neg (by omega)], rfl⟩
      · refine rj_ald0 dX6_at_21 rfl ?_
        refine g6_9 (by first | assumption | rfl) dX6_at_22 ?_
        refine rj_ild1 dX6_at_25 rfl ?_
        refine rj_iald (by first | assumption | rfl) (vpi (by omega) (by rw [hkl]; omega)) dX6_at_26 ?_
        refine rj_goto (tgt := 31) dX6_at_27 (by decide) ?_
        refine rj_iret dX6_at_31 ?_
        unfold tat
        exact ⟨by rw [if_pos (by omega), cl_i, hT.2.2 _ (by omega)], rfl⟩

set_option maxRecDepth 100000 in
theorem c_X6_append {l : Launch} {X : CX} {σ : ST} {k : Nat} {bs : List Int32} (hk : kd k = 6) (hT : Tp σ k bs) {x : Int32} (hr : bs.length < 120) : MJ l X 0 yX6_append cX6_append 2 none [.ref (ad X k), .int x] σ (PV (fun τ => Tp τ k (bs ++ [x]) ∧ off (rowC k) σ τ)) := by
  refine MJ_of (own := RX6) [some (.ref (ad X k)), some (.int x)] (by decide) rfl (Nat.le_of_ble_eq_true rfl) rfl ?_
  obtain ⟨hka, hkl⟩ := tp_next hk
  have hsz := hT.1
  have hle := hT.2.1
  have h40 : (nI (ln (k + 1))).toInt = 120 := by rw [hkl]; decide
  refine rj_ald0 dX6_append_0 rfl ?_
  refine g6_15 (by first | assumption | rfl) dX6_append_1 ?_
  refine rj_if_lt (tgt := 39) dX6_append_4 (by decide) (fun h_4 => ?_) (fun h_4 => ?_)
  · exfalso; omega
  · refine rj_ald0 dX6_append_7 rfl ?_
    refine g6_15 (by first | assumption | rfl) dX6_append_8 ?_
    refine rj_ald0 dX6_append_11 rfl ?_
    refine g6_9 (by first | assumption | rfl) dX6_append_12 ?_
    refine rj_alen (by first | assumption | rfl) dX6_append_15 ?_
    refine rj_ic_ge (tgt := 39) dX6_append_16 (by decide) (fun h_16 => ?_) (fun h_16 => ?_)
    · exfalso; omega
    · refine rj_ald0 dX6_append_19 rfl ?_
      refine g6_9 (by first | assumption | rfl) dX6_append_20 ?_
      refine rj_ald0 dX6_append_23 rfl ?_
      refine g6_15 (by first | assumption | rfl) dX6_append_24 ?_
      refine rj_ild1 dX6_append_27 rfl ?_
      refine rj_iast (by first | assumption | rfl) (vpi (by omega) (by rw [hkl]; omega)) dX6_append_28 ?_
      refine rj_ald0 dX6_append_29 rfl ?_
      refine rj_dup dX6_append_30 rfl ?_
      refine g6_15 (by first | assumption | rfl) dX6_append_31 ?_
      refine rj_ic1 dX6_append_34 ?_
      refine rj_iadd dX6_append_35 ?_
      refine p6_15 (by first | assumption | rfl) dX6_append_36 ?_
      refine rj_vret dX6_append_39 ?_
      refine ⟨rfl, ⟨?_, by simp; omega, fun i hi => ?_⟩, (off.rf.ui (Or.inr rfl)).ui (Or.inl rfl)⟩
      · rw [ui_same, ui_ne (by omega), nI_of_toInt hsz, nI_1, nI_t (by omega)]; simp
      · simp at hi
        rw [ui_ne (by omega), ui_at, cl_i, hsz, Int.toNat_natCast]
        by_cases h : i = bs.length
        · subst h; rw [if_pos ⟨rfl, rfl⟩, getD_snoc_eq]
        · rw [if_neg (fun q => h q.2), hT.2.2 i (by omega), getD_snoc_lt (by omega)]

set_option maxRecDepth 100000 in
theorem c_X6_empty {l : Launch} {X : CX} {σ : ST} {k : Nat} (hk : kd k = 6) : MJ l X 0 yX6_empty cX6_empty 1 none [.ref (ad X k)] σ (PV (fun τ => Tp τ k [] ∧ off (rowC k) σ τ)) := by
  refine MJ_of (own := RX6) [some (.ref (ad X k))] (by decide) rfl (Nat.le_of_ble_eq_true rfl) rfl ?_
  refine rj_ald0 dX6_empty_0 rfl ?_
  refine rj_ic0 dX6_empty_1 ?_
  refine p6_15 (by first | assumption | rfl) dX6_empty_2 ?_
  refine rj_vret dX6_empty_5 ?_
  exact ⟨rfl, ⟨by rw [ui_same]; rfl, by simp, fun i hi => by simp at hi⟩, off.rf.ui (Or.inl rfl)⟩

