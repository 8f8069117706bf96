/-! fairs: ropes, z, ties -/
abbrev TA : Type := Int32 × List Int32
abbrev FA : Type := Int32 × Int32 × List TA
def t0A : TA := (0, [])
def tk (k j : Nat) : Nat := k + 1 + 1 + 3 * j
theorem fair_all : ∀ k, k < 129 → kd k = 1 → (kd (k + 1) = 16 ∧ k + 26 ≤ 129 ∧ ∀ j, j < 8 → kd (k + 1 + 1 + 3 * j) = 8) := by decide +kernel
theorem fair_next {k : Nat} (h : kd k = 1) : kd (k + 1) = 16 ∧ k + 26 ≤ 129 ∧ ∀ j, j < 8 → kd (tk k j) = 8 := fair_all k (kd_lt (by omega)) h
theorem fair_ap : ∀ k, k < 129 → kd k = 1 → ∀ q, q < 129 → kd q = 1 → (k = q ∨ k + 26 ≤ q ∨ q + 26 ≤ k) := by decide +kernel
theorem fair_apart {k q : Nat} (h : kd k = 1) (h2 : kd q = 1) (hne : k ≠ q) : k + 26 ≤ q ∨ q + 26 ≤ k := (fair_ap k (kd_lt (by omega)) h q (kd_lt (by omega)) h2).resolve_left hne
def fairC (k : Nat) : Nat → Prop := fun a => k ≤ a ∧ a < k + 26
def FrS (σ : ST) (k : Nat) : Prop := ∀ j, j < 8 → ∃ xs, Rw σ (tk k j + 1) xs
def Fr (σ : ST) (k : Nat) (A : FA) : Prop := (σ.1 k 1).toInt = A.2.2.length ∧ σ.1 k 2 = A.1 ∧ σ.1 k 3 = A.2.1 ∧ A.2.2.length ≤ 8 ∧ (∀ j, j < A.2.2.length → Ti σ (tk k j) (A.2.2.getD j t0A).1 (A.2.2.getD j t0A).2) ∧ FrS σ k
theorem tieC_fair {k j a : Nat} (hj : j < 8) (h : tieC (tk k j) a) : fairC k a := by
  unfold tieC tk at h; unfold fairC; omega
theorem FrS.off {P : Nat → Prop} {σ τ : ST} {k : Nat} (h : FrS σ k) (ho : off P σ τ) (hp : ∀ a, P a → ¬ fairC k a) : FrS τ k := fun j hj => by
  obtain ⟨xs, hx⟩ := h j hj
  exact ⟨xs, hx.off ho (fun q => hp _ q (by unfold fairC tk; omega)) (fun q => hp _ q (by unfold fairC tk; omega))⟩
theorem Fr.off {P : Nat → Prop} {σ τ : ST} {k : Nat} {A : FA} (h : Fr σ k A) (ho : off P σ τ) (hp : ∀ a, P a → ¬ fairC k a) : Fr τ k A := by
  obtain ⟨a, b, c, d, e, f⟩ := h
  have hk : τ.1 k = σ.1 k := (ho k (fun q => hp _ q (by unfold fairC; omega))).1
  exact ⟨by rw [hk]; exact a, by rw [hk]; exact b, by rw [hk]; exact c, d, fun j hj => (e j hj).off ho (fun q => hp _ q (by unfold fairC tk; omega)) (fun q => hp _ q (by unfold fairC tk; omega)) (fun q => hp _ q (by unfold fairC tk; omega)), f.off ho hp⟩
theorem tk_ne {k i j : Nat} (h : i ≠ j) : ∀ a, tieC (tk k i) a → ¬ tieC (tk k j) a := fun a h1 h2 => by
  unfold tieC tk at h1 h2; omega
theorem getD_set {α : Type} (l : List α) (j i : Nat) (v d : α) (hj : j < l.length) : (l.set j v).getD i d = if i = j then v else l.getD i d := by
  by_cases h : i = j
  · subst h; simp [List.getD, hj]
  · simp [List.getD, List.getElem?_set, Ne.symm h, h]
/-- a tie is changed -/
theorem fr_upd {σ τ : ST} {k j : Nat} {A : FA} {kind : Int32} {xs : List Int32} (h : Fr σ k A) (hj : j < A.2.2.length) (ho : off (tieC (tk k j)) σ τ) (ht : Ti τ (tk k j) kind xs) : Fr τ k (A.1, A.2.1, A.2.2.set j (kind, xs)) ∧ off (fairC k) σ τ := by
  obtain ⟨a, b, c, d, e, f⟩ := h
  have hk : τ.1 k = σ.1 k := (ho k (fun q => by unfold tieC tk at q; omega)).1
  refine ⟨⟨by rw [hk, List.length_set]; exact a, by rw [hk]; exact b, by rw [hk]; exact c, by rw [List.length_set]; exact d, fun i hi => ?_, fun i hi => ?_⟩, ho.mono (fun q hq => tieC_fair (by omega) hq)⟩
  · rw [List.length_set] at hi
    rw [getD_set _ _ _ _ _ hj]
    by_cases hij : i = j
    · subst hij; rw [if_pos rfl]; exact ht
    · rw [if_neg hij]
      exact (e i hi).off ho (fun q => tk_ne hij _ (Or.inl rfl) q) (fun q => tk_ne hij _ (Or.inr (Or.inl rfl)) q) (fun q => tk_ne hij _ (Or.inr (Or.inr rfl)) q)
  · by_cases hij : i = j
    · subst hij; exact ⟨xs, ht.2⟩
    · obtain ⟨ys, hy⟩ := f i hi
      exact ⟨ys, hy.off ho (fun q => tk_ne hij _ (Or.inr (Or.inl rfl)) q) (fun q => tk_ne hij _ (Or.inr (Or.inr rfl)) q)⟩
theorem fr_tie {σ : ST} {k j : Nat} {A : FA} (h : Fr σ k A) (hj : j < A.2.2.length) : Ti σ (tk k j) (A.2.2.getD j t0A).1 (A.2.2.getD j t0A).2 := h.2.2.2.2.1 j hj
set_option maxRecDepth 100000 in
theorem c_X1_tieIn {l : Launch} {X : CX} {σ : ST} {k : Nat} {n j : Nat} {i : Int32} (hk : kd k = 1) (hsz : (σ.1 k 1).toInt = n) (hle : n ≤ 8) (hi : i.toInt = j) (hj : j < n) : MJ l X 0 yX1_tieAt cX1_tieAt 2 (some (.object "KnotFair$Tie")) [.ref (ad X k), .int i] σ (eqR (.ref (ad X (tk k j))) σ) := by
  refine MJ_of (own := RX1) [some (.ref (ad X k)), some (.int i)] (by decide) rfl (Nat.le_of_ble_eq_true rfl) rfl ?_
  obtain ⟨hkt, hkb, hkj⟩ := fair_next hk
  have h8 : (8 : Int32).toInt = 8 := by decide
  refine rj_ild1 dX1_tieAt_0 rfl ?_
  refine rj_if_lt (tgt := 30) dX1_tieAt_1 (by decide) (fun h_1 => ?_) (fun h_1 => ?_)
  · exfalso; omega
  · refine rj_ild1 dX1_tieAt_4 rfl ?_
    refine rj_ald0 dX1_tieAt_5 rfl ?_
    refine g1_17 (by first | assumption | rfl) dX1_tieAt_6 ?_
    refine rj_ic_ge (tgt := 30) dX1_tieAt_9 (by decide) (fun h_9 => ?_) (fun h_9 => ?_)
    · exfalso; omega
    · refine rj_ild1 dX1_tieAt_12 rfl ?_
      refine rj_ald0 dX1_tieAt_13 rfl ?_
      refine g1_11 (by first | assumption | rfl) dX1_tieAt_14 ?_
      refine rj_alenT (by first | assumption | rfl) dX1_tieAt_17 ?_
      refine rj_ic_ge (tgt := 30) dX1_tieAt_18 (by decide) (fun h_18 => ?_) (fun h_18 => ?_)
      · exfalso; omega
      · refine rj_ald0 dX1_tieAt_21 rfl ?_
        refine g1_11 (by first | assumption | rfl) dX1_tieAt_22 ?_
        refine rj_ild1 dX1_tieAt_25 rfl ?_
        refine rj_aldT (by first | assumption | rfl) (vp_in_iff.mpr ⟨by omega, by omega⟩) dX1_tieAt_26 ?_
        refine rj_goto (tgt := 31) dX1_tieAt_27 (by decide) ?_
        refine rj_aret dX1_tieAt_31 ?_
        exact ⟨by rw [cl_i, hi]; rfl, rfl⟩

set_option maxRecDepth 100000 in
theorem c_X1_tieOut {l : Launch} {X : CX} {σ : ST} {k : Nat} {n : Nat} {i : Int32} (hk : kd k = 1) (hsz : (σ.1 k 1).toInt = n) (hle : n ≤ 8) (hi : ¬ (0 ≤ i.toInt ∧ i.toInt < n)) : MJ l X 0 yX1_tieAt cX1_tieAt 2 (some (.object "KnotFair$Tie")) [.ref (ad X k), .int i] σ (eqR .null σ) := by
  refine MJ_of (own := RX1) [some (.ref (ad X k)), some (.int i)] (by decide) rfl (Nat.le_of_ble_eq_true rfl) rfl ?_
  obtain ⟨hkt, hkb, hkj⟩ := fair_next hk
  have h8 : (8 : Int32).toInt = 8 := by decide
  refine rj_ild1 dX1_tieAt_0 rfl ?_
  refine rj_if_lt (tgt := 30) dX1_tieAt_1 (by decide) (fun h_1 => ?_) (fun h_1 => ?_)
  · refine rj_null dX1_tieAt_30 ?_
    refine rj_aretN dX1_tieAt_31 ?_
    exact ⟨rfl, rfl⟩
  · refine rj_ild1 dX1_tieAt_4 rfl ?_
    refine rj_ald0 dX1_tieAt_5 rfl ?_
    refine g1_17 (by first | assumption | rfl) dX1_tieAt_6 ?_
    refine rj_ic_ge (tgt := 30) dX1_tieAt_9 (by decide) (fun h_9 => ?_) (fun h_9 => ?_)
    · refine rj_null dX1_tieAt_30 ?_
      refine rj_aretN dX1_tieAt_31 ?_
      exact ⟨rfl, rfl⟩
    · exfalso; omega

theorem c_X1_tieAt {l : Launch} {X : CX} {σ : ST} {k : Nat} {A : FA} {i : Int32} (hk : kd k = 1) (hF : Fr σ k A) : MJ l X 0 yX1_tieAt cX1_tieAt 2 (some (.object "KnotFair$Tie")) [.ref (ad X k), .int i] σ (fun v τ => τ = σ ∧ ((∃ j : Nat, i.toInt = j ∧ j < A.2.2.length ∧ v = some (.ref (ad X (tk k j)))) ∨ (¬ (0 ≤ i.toInt ∧ i.toInt < A.2.2.length) ∧ v = some .null))) := by
  by_cases h : 0 ≤ i.toInt ∧ i.toInt < A.2.2.length
  · exact MJ_c (c_X1_tieIn hk hF.1 hF.2.2.2.1 (j := i.toInt.toNat) (by omega) (by omega)) (fun v τ q => ⟨q.2, Or.inl ⟨i.toInt.toNat, by omega, by omega, q.1⟩⟩)
  · exact MJ_c (c_X1_tieOut hk hF.1 hF.2.2.2.1 h) (fun v τ q => ⟨q.2, Or.inr ⟨h, q.1⟩⟩)
set_option maxRecDepth 100000 in
theorem c_X1_hasRoomForTie {l : Launch} {X : CX} {σ : ST} {k : Nat} {A : FA} (hk : kd k = 1) (hF : Fr σ k A) : MJ l X 0 yX1_hasRoomForTie cX1_hasRoomForTie 1 (some .boolean) [.ref (ad X k)] σ (eqI (if A.2.2.length < 8 then 1 else 0) σ) := by
  refine MJ_of (own := RX1) [some (.ref (ad X k))] (by decide) rfl (Nat.le_of_ble_eq_true rfl) rfl ?_
  obtain ⟨hkt, hkb, hkj⟩ := fair_next hk
  have hsz := hF.1
  have hle := hF.2.2.2.1
  have h8 : (8 : Int32).toInt = 8 := by decide
  refine rj_ald0 dX1_hasRoomForTie_0 rfl ?_
  refine g1_17 (by first | assumption | rfl) dX1_hasRoomForTie_1 ?_
  refine rj_ald0 dX1_hasRoomForTie_4 rfl ?_
  refine g1_11 (by first | assumption | rfl) dX1_hasRoomForTie_5 ?_
  refine rj_alenT (by first | assumption | rfl) dX1_hasRoomForTie_8 ?_
  refine rj_ic_ge (tgt := 16) dX1_hasRoomForTie_9 (by decide) (fun h_9 => ?_) (fun h_9 => ?_)
  · refine rj_ic0 dX1_hasRoomForTie_16 ?_
    refine rj_zret dX1_hasRoomForTie_17 (rfl) ?_
    first | (refine ⟨?_, rfl⟩; rw [if_pos (by omega)]; done) | (refine ⟨?_, rfl⟩; rw [if_neg (by omega)]; done) | (exfalso; omega)
  · refine rj_ic1 dX1_hasRoomForTie_12 ?_
    refine rj_goto (tgt := 17) dX1_hasRoomForTie_13 (by decide) ?_
    refine rj_zret dX1_hasRoomForTie_17 (rfl) ?_
    first | (refine ⟨?_, rfl⟩; rw [if_pos (by omega)]; done) | (refine ⟨?_, rfl⟩; rw [if_neg (by omega)]; done) | (exfalso; omega)

set_option maxRecDepth 100000 in
theorem c_X1_isPlace {l : Launch} {X : CX} {σ : ST} {k : Nat} {i : Int32} (hk : kd k = 1) : MJ l X 0 yX1_isPlace cX1_isPlace 2 (some .boolean) [.ref (ad X k), .int i] σ (eqI (if 0 ≤ i.toInt ∧ i.toInt < (σ.1 k 2).toInt then 1 else 0) σ) := by
  refine MJ_of (own := RX1) [some (.ref (ad X k)), some (.int i)] (by decide) rfl (Nat.le_of_ble_eq_true rfl) rfl ?_
  refine rj_ild1 dX1_isPlace_0 rfl ?_
  refine rj_if_lt (tgt := 16) dX1_isPlace_1 (by decide) (fun h_1 => ?_) (fun h_1 => ?_)
  · refine rj_ic0 dX1_isPlace_16 ?_
    refine rj_zret dX1_isPlace_17 (rfl) ?_
    first | (refine ⟨?_, rfl⟩; rw [if_pos (by omega)]; done) | (refine ⟨?_, rfl⟩; rw [if_neg (by omega)]; done) | (exfalso; omega)
  · refine rj_ild1 dX1_isPlace_4 rfl ?_
    refine rj_ald0 dX1_isPlace_5 rfl ?_
    refine g1_21 (by first | assumption | rfl) dX1_isPlace_6 ?_
    refine rj_ic_ge (tgt := 16) dX1_isPlace_9 (by decide) (fun h_9 => ?_) (fun h_9 => ?_)
    · refine rj_ic0 dX1_isPlace_16 ?_
      refine rj_zret dX1_isPlace_17 (rfl) ?_
      first | (refine ⟨?_, rfl⟩; rw [if_pos (by omega)]; done) | (refine ⟨?_, rfl⟩; rw [if_neg (by omega)]; done) | (exfalso; omega)
    · refine rj_ic1 dX1_isPlace_12 ?_
      refine rj_goto (tgt := 17) dX1_isPlace_13 (by decide) ?_
      refine rj_zret dX1_isPlace_17 (rfl) ?_
      first | (refine ⟨?_, rfl⟩; rw [if_pos (by omega)]; done) | (refine ⟨?_, rfl⟩; rw [if_neg (by omega)]; done) | (exfalso; omega)

theorem lcm_0 {x z : Int64} : lg_cmp x z = 0 ↔ x.toInt = z.toInt := by
  unfold lg_cmp
  by_cases h : x > z
  · rw [if_pos h]; have := Int64.lt_iff_toInt_lt.mp h; constructor
    · intro q; exact absurd q (by decide)
    · intro q; omega
  · rw [if_neg h]
    by_cases h2 : x = z
    · rw [if_pos h2]; simp [h2]
    · rw [if_neg h2]; constructor
      · intro q; exact absurd q (by decide)
      · intro q; exact absurd (Int64.toInt_inj.mp q) h2
theorem lcm_le {x z : Int64} : (lg_cmp x z).toInt ≤ 0 ↔ x.toInt ≤ z.toInt := by
  unfold lg_cmp
  by_cases h : x > z
  · rw [if_pos h]; have := Int64.lt_iff_toInt_lt.mp h; rw [t1]; omega
  · have h3 : ¬ z.toInt < x.toInt := fun q => h (Int64.lt_iff_toInt_lt.mpr q)
    rw [if_neg h]
    by_cases h2 : x = z
    · rw [if_pos h2, t0]; omega
    · rw [if_neg h2, show (-1 : Int32).toInt = -1 by decide]; omega
theorem lcm_ge {x z : Int64} : 0 ≤ (lg_cmp x z).toInt ↔ z.toInt ≤ x.toInt := by
  unfold lg_cmp
  by_cases h : x > z
  · rw [if_pos h]; have := Int64.lt_iff_toInt_lt.mp h; rw [t1]; omega
  · have h3 : ¬ z.toInt < x.toInt := fun q => h (Int64.lt_iff_toInt_lt.mpr q)
    rw [if_neg h]
    by_cases h2 : x = z
    · rw [if_pos h2, t0, h2]; omega
    · have h4 : x.toInt ≠ z.toInt := fun q => h2 (Int64.toInt_inj.mp q)
      rw [if_neg h2, show (-1 : Int32).toInt = -1 by decide]; omega
theorem lcm_gt {x z : Int64} (h : 0 < (lg_cmp x z).toInt) : z.toInt < x.toInt := by
  rcases Int.lt_or_le z.toInt x.toInt with q | q
  · exact q
  · have := lcm_le.mpr q; omega
theorem lcm_lt {x z : Int64} (h : (lg_cmp x z).toInt < 0) : x.toInt < z.toInt := by
  rcases Int.lt_or_le x.toInt z.toInt with q | q
  · exact q
  · have := lcm_ge.mpr q; omega
theorem i2l_t (x : Int32) : x.toInt64.toInt = x.toInt := Int32.toInt_toInt64 x
theorem l0 : (0 : Int64).toInt = 0 := by decide
def okc (rc : Int32) (c : Int) : Prop := c ≠ 0 ∧ -rc.toInt < c ∧ c < rc.toInt
theorem okc_dec (rc : Int32) (c : Int) : (c ≠ 0 ∧ -rc.toInt < c ∧ c < rc.toInt) = okc rc c := rfl
set_option maxRecDepth 100000 in
theorem c_X1_isCrossing {l : Launch} {X : CX} {σ : ST} {k : Nat} {i : Int64} (hk : kd k = 1) (hrc : 2 ≤ (σ.1 k 2).toInt ∧ (σ.1 k 2).toInt ≤ 4) : MJ l X 0 yX1_isCrossing cX1_isCrossing 3 (some .boolean) [.ref (ad X k), .long i] σ (eqI (if i.toInt ≠ 0 ∧ -(σ.1 k 2).toInt < i.toInt ∧ i.toInt < (σ.1 k 2).toInt then 1 else 0) σ) := by
  refine MJ_of (own := RX1) [some (.ref (ad X k)), some (.long i), none] (by decide) rfl (Nat.le_of_ble_eq_true rfl) rfl ?_
  have hz := l0
  have e1 : (-(σ.1 k 2)).toInt64.toInt = -(σ.1 k 2).toInt := by rw [i2l_t, i_neg (by omega)]
  have e2 := i2l_t (σ.1 k 2)
  refine rj_lld1 dX1_isCrossing_0 rfl ?_
  refine rj_lc0 dX1_isCrossing_1 ?_
  refine rj_lcmp dX1_isCrossing_2 ?_
  refine rj_if_eq (tgt := 31) dX1_isCrossing_3 (by decide) (fun h_3 => ?_) (fun h_3 => ?_)
  · have g3 := lcm_0.mp h_3
    refine rj_ic0 dX1_isCrossing_31 ?_
    refine rj_zret dX1_isCrossing_32 (rfl) ?_
    first | (refine ⟨?_, rfl⟩; rw [if_pos (by omega)]; done) | (refine ⟨?_, rfl⟩; rw [if_neg (by omega)]; done) | (exfalso; omega)
  · have g3 : ¬ i.toInt = (0 : Int64).toInt := fun q => h_3 (lcm_0.mpr q)
    refine rj_lld1 dX1_isCrossing_6 rfl ?_
    refine rj_ald0 dX1_isCrossing_7 rfl ?_
    refine g1_21 (by first | assumption | rfl) dX1_isCrossing_8 ?_
    refine rj_ineg dX1_isCrossing_11 ?_
    refine rj_i2l dX1_isCrossing_12 ?_
    refine rj_lcmp dX1_isCrossing_13 ?_
    refine rj_if_le (tgt := 31) dX1_isCrossing_14 (by decide) (fun h_14 => ?_) (fun h_14 => ?_)
    · have g14 := lcm_le.mp h_14
      refine rj_ic0 dX1_isCrossing_31 ?_
      refine rj_zret dX1_isCrossing_32 (rfl) ?_
      first | (refine ⟨?_, rfl⟩; rw [if_pos (by omega)]; done) | (refine ⟨?_, rfl⟩; rw [if_neg (by omega)]; done) | (exfalso; omega)
    · have g14 := lcm_gt h_14
      refine rj_lld1 dX1_isCrossing_17 rfl ?_
      refine rj_ald0 dX1_isCrossing_18 rfl ?_
      refine g1_21 (by first | assumption | rfl) dX1_isCrossing_19 ?_
      refine rj_i2l dX1_isCrossing_22 ?_
      refine rj_lcmp dX1_isCrossing_23 ?_
      refine rj_if_ge (tgt := 31) dX1_isCrossing_24 (by decide) (fun h_24 => ?_) (fun h_24 => ?_)
      · have g24 := lcm_ge.mp h_24
        refine rj_ic0 dX1_isCrossing_31 ?_
        refine rj_zret dX1_isCrossing_32 (rfl) ?_
        first | (refine ⟨?_, rfl⟩; rw [if_pos (by omega)]; done) | (refine ⟨?_, rfl⟩; rw [if_neg (by omega)]; done) | (exfalso; omega)
      · have g24 := lcm_lt h_24
        refine rj_ic1 dX1_isCrossing_27 ?_
        refine rj_goto (tgt := 32) dX1_isCrossing_28 (by decide) ?_
        refine rj_zret dX1_isCrossing_32 (rfl) ?_
        first | (refine ⟨?_, rfl⟩; rw [if_pos (by omega)]; done) | (refine ⟨?_, rfl⟩; rw [if_neg (by omega)]; done) | (exfalso; omega)

def dwz (z : Int32) : Int32 := z * 1103515245 + 12345
def dwv (z n : Int32) : Int32 := ((dwz z).toUInt32 >>> ((8 : Int32).toUInt32 &&& Int32.toUInt32 31)).toInt32 - ((dwz z).toUInt32 >>> ((8 : Int32).toUInt32 &&& Int32.toUInt32 31)).toInt32 / n * n
set_option maxRecDepth 100000 in
theorem c_X1_drawBy {l : Launch} {X : CX} {σ : ST} {k : Nat} {i : Int32} (hk : kd k = 1) (hi : 0 < i.toInt) : MJ l X 0 yX1_drawBy cX1_drawBy 2 (some .int) [.ref (ad X k), .int i] σ (eqI (dwv (σ.1 k 3) i) (ui σ k 3 (dwz (σ.1 k 3)))) := by
  refine MJ_of (own := RX1) [some (.ref (ad X k)), some (.int i)] (by decide) rfl (Nat.le_of_ble_eq_true rfl) rfl ?_
  refine rj_ald0 dX1_drawBy_0 rfl ?_
  refine rj_ald0 dX1_drawBy_1 rfl ?_
  refine g1_24 (by first | assumption | rfl) dX1_drawBy_2 ?_
  refine rj_ldc kX1_52 dX1_drawBy_5 ?_
  refine rj_imul dX1_drawBy_7 ?_
  refine rj_sipush (v := 12345) dX1_drawBy_8 (by decide) ?_
  refine rj_iadd dX1_drawBy_11 ?_
  refine p1_24 (by first | assumption | rfl) dX1_drawBy_12 ?_
  refine rj_ild1 dX1_drawBy_15 rfl ?_
  refine rj_if_le (tgt := 31) dX1_drawBy_16 (by decide) (fun h_16 => ?_) (fun h_16 => ?_)
  · exfalso; omega
  · refine rj_ald0 dX1_drawBy_19 rfl ?_
    refine g1_24 (by first | assumption | rfl) dX1_drawBy_20 ?_
    refine rj_bipush (v := 8) dX1_drawBy_23 (by decide) ?_
    refine rj_iushr dX1_drawBy_25 ?_
    refine rj_ild1 dX1_drawBy_26 rfl ?_
    refine rj_irem dX1_drawBy_27 (fun q => by rw [q, t0] at hi; omega) ?_
    refine rj_goto (tgt := 32) dX1_drawBy_28 (by decide) ?_
    refine rj_iret dX1_drawBy_32 ?_
    rw [ui_same]
    exact ⟨rfl, rfl⟩

theorem fr_begin {σ τ υ : ST} {k : Nat} {A : FA} {kind : Int32} (h : Fr σ k A) (hk : kd k = 1) (hr : A.2.2.length < 8) (h1 : υ.1 k 1 = nI (A.2.2.length + 1)) (h23 : υ.1 k 2 = σ.1 k 2 ∧ υ.1 k 3 = σ.1 k 3) (ho : off (fun a => a = k ∨ tieC (tk k A.2.2.length) a) σ υ) (ht : Ti υ (tk k A.2.2.length) kind []) : Fr υ k (A.1, A.2.1, A.2.2 ++ [(kind, [])]) ∧ off (fairC k) σ υ := by
  obtain ⟨a, b, c, d, e, f⟩ := h
  have hne : ∀ i, i ≠ A.2.2.length → ∀ q, tieC (tk k i) q → ¬ (q = k ∨ tieC (tk k A.2.2.length) q) := fun i hi q h1 h2 => by
    rcases h2 with h2 | h2
    · unfold tieC tk at h1; omega
    · exact tk_ne hi q h1 h2
  refine ⟨⟨by rw [h1, nI_t (by omega)]; simp, by rw [h23.1]; exact b, by rw [h23.2]; exact c, by simp; omega, fun i hi => ?_, fun i hi => ?_⟩, ho.mono (fun q hq => hq.elim (fun z => by unfold fairC; omega) (fun z => tieC_fair hr z))⟩
  · simp at hi
    by_cases hij : i = A.2.2.length
    · subst hij
      simpa [List.getD] using ht
    · have := (e i (by omega)).off ho (fun q => hne i hij _ (Or.inl rfl) q) (fun q => hne i hij _ (Or.inr (Or.inl rfl)) q) (fun q => hne i hij _ (Or.inr (Or.inr rfl)) q)
      simpa [List.getD, List.getElem?_append_left (show i < A.2.2.length by omega)] using this
  · by_cases hij : i = A.2.2.length
    · subst hij; exact ⟨[], ht.2⟩
    · obtain ⟨ys, hy⟩ := f i hi
      exact ⟨ys, hy.off ho (fun q => hne i hij _ (Or.inr (Or.inl rfl)) q) (fun q => hne i hij _ (Or.inr (Or.inr rfl)) q)⟩
set_option maxRecDepth 100000 in
theorem c_X1_begin {l : Launch} {X : CX} {σ : ST} {k : Nat} {A : FA} (hk : kd k = 1) (hF : Fr σ k A) {kind : Int32} (hr : A.2.2.length < 8) : MJ l X 2 yX1_begin cX1_begin 3 (some .int) [.ref (ad X k), .int kind] σ (fun v τ => v = some (.int (nI A.2.2.length)) ∧ Fr τ k (A.1, A.2.1, A.2.2 ++ [(kind, [])]) ∧ off (fairC k) σ τ) := by
  refine MJ_of (own := RX1) [some (.ref (ad X k)), some (.int kind), none] (by decide) rfl (Nat.le_of_ble_eq_true rfl) rfl ?_
  obtain ⟨hkt, hkb, hkj⟩ := fair_next hk
  have hsz := hF.1
  have hle := hF.2.2.2.1
  have h8 : (8 : Int32).toInt = 8 := by decide
  have ht8 := hkj A.2.2.length hr
  obtain ⟨hkr, hka, hkl⟩ := tie_next ht8
  have hs1 : σ.1 k 1 = nI A.2.2.length := nI_of_toInt hsz
  have hk1 : (ui σ k 1 (nI (A.2.2.length + 1))).1 k 1 = nI (A.2.2.length + 1) := ui_same _ _ _ _
  have hm1 : (nI (A.2.2.length + 1) - 1) = nI A.2.2.length := nI_pred _
  obtain ⟨ys, hy⟩ := hF.2.2.2.2.2 A.2.2.length hr
  have hy1 : Rw (ui (ui σ k 1 (nI (A.2.2.length + 1))) (tk k A.2.2.length) 1 kind) (tk k A.2.2.length + 1) ys := hy.off (P := fun a => a = k ∨ a = tk k A.2.2.length) ((off.rf.ui (Or.inl rfl)).ui (Or.inr rfl)) (fun q => by unfold tk at q; omega) (fun q => by unfold tk at q; omega)
  refine rj_ald0 dX1_begin_0 rfl ?_
  refine rj_V0i (ci := 1) cX1_28 rfl (by decide) (by first | assumption | rfl) dX1_begin_1 (c_X1_hasRoomForTie hk hF) (fitM (by decide) (by decide)) (Nat.le_of_ble_eq_true rfl) ?_
  refine rj_if_ne (tgt := 9) dX1_begin_4 (by decide) (fun h_4 => ?_) (fun h_4 => ?_)
  · have hb_4 := bz_f h_4
    refine rj_ald0 dX1_begin_9 rfl ?_
    refine rj_dup dX1_begin_10 rfl ?_
    refine g1_17 (by first | assumption | rfl) dX1_begin_11 ?_
    refine rj_ic1 dX1_begin_14 ?_
    refine rj_iadd dX1_begin_15 ?_
    rw [hs1, nI_1]
    refine p1_17 (by first | assumption | rfl) dX1_begin_16 ?_
    refine rj_ald0 dX1_begin_19 rfl ?_
    refine rj_ald0 dX1_begin_20 rfl ?_
    refine g1_17 (by first | assumption | rfl) dX1_begin_21 ?_
    refine rj_ic1 dX1_begin_24 ?_
    rw [hk1]
    refine rj_isub dX1_begin_25 ?_
    rw [hm1]
    refine rj_V1r (ci := 1) cX1_32 rfl (by decide) (by first | assumption | rfl) dX1_begin_26 (c_X1_tieIn hk (n := A.2.2.length + 1) (j := A.2.2.length) (by rw [hk1]; exact nI_t (by omega)) (by omega) (nI_t (by omega)) (by omega)) (fitM (by decide) (by decide)) (Nat.le_of_ble_eq_true rfl) ?_
    refine rj_ast2 dX1_begin_29 (by decide) rfl ?_
    refine rj_ald2 dX1_begin_30 rfl ?_
    refine rj_nu_ref dX1_begin_31 ?_
    refine rj_ald2 dX1_begin_34 rfl ?_
    refine rj_ild1 dX1_begin_35 rfl ?_
    refine p1_36 (by first | assumption | rfl) dX1_begin_36 ?_
    refine rj_ald2 dX1_begin_39 rfl ?_
    refine g1_39 (by first | assumption | rfl) dX1_begin_40 ?_
    refine rj_ic0 dX1_begin_43 ?_
    refine rj_V1 (ci := 2) cX1_43 rfl (by decide) (by first | assumption | rfl) dX1_begin_44 (c_X2_cutToL hkr hy1) (fitM (by decide) (by decide)) (Nat.le_of_ble_eq_true rfl) ?_
    rintro v υ ⟨rfl, hx1, ho1⟩
    simp only [Option.toList, List.nil_append]
    have hu1 : υ.1 k 1 = nI (A.2.2.length + 1) := by rw [(ho1 k (fun q => by unfold rowC tk at q; omega)).1, ui_ne (by unfold tk; omega)]; exact hk1
    refine rj_ald0 dX1_begin_47 rfl ?_
    refine g1_17 (by first | assumption | rfl) dX1_begin_48 ?_
    refine rj_ic1 dX1_begin_51 ?_
    rw [hu1]
    refine rj_isub dX1_begin_52 ?_
    rw [hm1]
    refine rj_iret dX1_begin_53 ?_
    have hzz : (ui (ui σ k 1 (nI (A.2.2.length + 1))) (tk k A.2.2.length) 1 kind).1 (tk k A.2.2.length) 1 = kind := ui_same _ _ _ _
    have hoo : off (fun a => a = k ∨ tieC (tk k A.2.2.length) a) σ υ := ((off.rf.ui (Or.inl rfl)).ui (Or.inr (Or.inl rfl))).tr (ho1.mono (fun a q => Or.inr (Or.inr q)))
    have huk : υ.1 k = (ui σ k 1 (nI (A.2.2.length + 1))).1 k := by rw [(ho1 k (fun q => by unfold rowC tk at q; omega)).1, ui_ne (by unfold tk; omega)]
    refine ⟨rfl, fr_begin (τ := σ) hF hk hr hu1 ⟨by rw [huk, ui_nj (by decide)], by rw [huk, ui_nj (by decide)]⟩ hoo ⟨?_, by simpa using hx1⟩⟩
    rw [(ho1 _ (fun q => by unfold rowC at q; omega)).1, hzz]
  · exact absurd hr (bz_t h_4)

def cN (ts : List TA) : Int32 := ts.foldl (fun a t => a + nI t.2.length) 0
theorem cN_snoc (ts : List TA) (t : TA) : cN (ts ++ [t]) = cN ts + nI t.2.length := by simp [cN]
theorem takeT_snoc {ts : List TA} {i : Nat} (h : i < ts.length) : ts.take (i + 1) = ts.take i ++ [ts.getD i t0A] := by
  rw [List.take_add_one, List.getElem?_eq_getElem h]
  simp [List.getD, List.getElem?_eq_getElem h]
set_option maxRecDepth 100000 in
theorem l_X1_crossingCount {l : Launch} {X : CX} {h : Nat} {Q : Option Value → ST → Prop} {σ : ST} {k : Nat} {A : FA} (hh : 1 ≤ h) (hk : kd k = 1) (hF : Fr σ k A) (hQ : Q (some (.int (cN A.2.2))) σ) : ∀ (N i : Nat) (a3 : Option Value), A.2.2.length < i + N → i ≤ A.2.2.length → RJ (GM l X h Q) X cX1_crossingCount 4 (some .int) RX1 4 [some (.ref (ad X k)), some (.int (cN (A.2.2.take i))), some (.int (nI i)), a3] [] σ := by
  intro N
  induction N with
  | zero => intro i a3 hN hi; exact absurd hN (by omega)
  | succ N ih =>
    intro i a3 hN hi
    obtain ⟨hkt, hkb, hkj⟩ := fair_next hk
    have hsz := hF.1
    have hle := hF.2.2.2.1
    have h8 : (8 : Int32).toInt = 8 := by decide
    have hit := nIt (i := i) (by omega)
    refine rj_ild2 dX1_crossingCount_4 rfl ?_
    refine rj_ald0 dX1_crossingCount_5 rfl ?_
    refine g1_17 (by first | assumption | rfl) dX1_crossingCount_6 ?_
    refine rj_ic_ge (tgt := 42) dX1_crossingCount_9 (by decide) (fun h_9 => ?_) (fun h_9 => ?_)
    · have hie : i = A.2.2.length := by omega
      subst hie
      rw [List.take_length]
      refine rj_ild1 dX1_crossingCount_42 rfl ?_
      refine rj_iret dX1_crossingCount_43 ?_
      exact hQ
    · refine rj_ald0 dX1_crossingCount_12 rfl ?_
      refine rj_ild2 dX1_crossingCount_13 rfl ?_
      refine rj_V1r (ci := 1) cX1_32 rfl (by decide) (by first | assumption | rfl) dX1_crossingCount_14 (c_X1_tieIn hk hsz hle hit (by omega)) (fitM (by omega) (by decide)) (Nat.le_of_ble_eq_true rfl) ?_
      have ht := fr_tie hF (j := i) (by omega)
      have hti := hkj i (by omega)
      have htr := (tie_next hti).1
      refine rj_ast3 dX1_crossingCount_17 (by decide) rfl ?_
      refine rj_ild1 dX1_crossingCount_18 rfl ?_
      refine rj_ald3 dX1_crossingCount_19 rfl ?_
      refine rj_nn_ref (tgt := 27) dX1_crossingCount_20 (by decide) ?_
      refine rj_ald3 dX1_crossingCount_27 rfl ?_
      refine g1_39 (by first | assumption | rfl) dX1_crossingCount_28 ?_
      refine g1_49 (by first | assumption | rfl) dX1_crossingCount_31 ?_
      refine rj_iadd dX1_crossingCount_34 ?_
      rw [ht.2.size, ← cN_snoc, ← takeT_snoc (by omega)]
      refine rj_ist1 dX1_crossingCount_35 (by decide) rfl ?_
      refine rj_iinc2 (d := 1) dX1_crossingCount_36 (by decide) rfl (by decide) ?_
      rw [nI_1]
      refine rj_goto (tgt := 4) dX1_crossingCount_39 (by decide) ?_
      exact ih (i + 1) _ (by omega) (by omega)

set_option maxRecDepth 100000 in
theorem c_X1_crossingCount {l : Launch} {X : CX} {σ : ST} {k : Nat} {A : FA} (hk : kd k = 1) (hF : Fr σ k A) : MJ l X 1 yX1_crossingCount cX1_crossingCount 4 (some .int) [.ref (ad X k)] σ (eqI (cN A.2.2) σ) := by
  refine MJ_of (own := RX1) [some (.ref (ad X k)), none, none, none] (by decide) rfl (Nat.le_of_ble_eq_true rfl) rfl ?_
  refine rj_ic0 dX1_crossingCount_0 ?_
  refine rj_ist1 dX1_crossingCount_1 (by decide) rfl ?_
  refine rj_ic0 dX1_crossingCount_2 ?_
  refine rj_ist2 dX1_crossingCount_3 (by decide) rfl ?_
  exact l_X1_crossingCount (by decide) hk hF ⟨rfl, rfl⟩ (A.2.2.length + 1) 0 _ (by omega) (by omega)

theorem fairC_out {k q a : Nat} (h : k + 26 ≤ q ∨ q + 26 ≤ k) (ha : fairC k a) : ¬ fairC q a := by unfold fairC at ha ⊢; omega
set_option maxRecDepth 100000 in
theorem l_X1_take {l : Launch} {X : CX} {h : Nat} {Q : Option Value → ST → Prop} {σ : ST} {k k1 : Nat} {A : FA} (hh : 3 ≤ h) (hk : kd k = 1) (hk1 : kd k1 = 1) (hne : k1 ≠ k) (hF : Fr σ k1 A) (hQ : ∀ τ, Fr τ k A → off (fairC k) σ τ → Q none τ) : ∀ (N i : Nat) (τ : ST) (a3 a4 : Option Value), A.2.2.length < i + N → (i ≤ A.2.2.length ∧ (τ.1 k 1).toInt = A.2.2.length ∧ τ.1 k 2 = A.1 ∧ τ.1 k 3 = A.2.1 ∧ (∀ j, j < i → Ti τ (tk k j) (A.2.2.getD j t0A).1 (A.2.2.getD j t0A).2) ∧ FrS τ k ∧ off (fairC k) σ τ ∧ nl a3 = true) → RJ (GM l X h Q) X cX1_take 5 none RX1 26 [some (.ref (ad X k)), some (.ref (ad X k1)), some (.int (nI i)), a3, a4] [] τ := by
  intro N
  induction N with
  | zero => intro i τ a3 a4 hN hi; have := hi.1; exact absurd hN (by omega)
  | succ N ih =>
    intro i τ a3 a4 hN hi
    obtain ⟨hi, hs, hc, hz, hT, hS, ho, hn3⟩ := hi
    obtain ⟨hkt, hkb, hkj⟩ := fair_next hk
    obtain ⟨hkt1, hkb1, hkj1⟩ := fair_next hk1
    have hle := hF.2.2.2.1
    have hap := fair_apart hk hk1 (Ne.symm hne)
    have hF1 : Fr τ k1 A := hF.off ho (fun a ha => fairC_out hap ha)
    have hs1 := hF1.1
    have hit := nIt (i := i) (by omega)
    refine rj_ild2 dX1_take_26 rfl ?_
    refine rj_ald0 dX1_take_27 rfl ?_
    refine g1_17 (by first | assumption | rfl) dX1_take_28 ?_
    refine rj_ic_ge (tgt := 68) dX1_take_31 (by decide) (fun h_31 => ?_) (fun h_31 => ?_)
    · refine rj_vret dX1_take_68 ?_
      exact hQ τ ⟨hs, hc, hz, hle, fun j hj => hT j (by omega), hS⟩ ho
    · refine rj_ald0 dX1_take_34 rfl ?_
      refine rj_ild2 dX1_take_35 rfl ?_
      refine rj_V1r (ci := 1) cX1_32 rfl (by decide) (by first | assumption | rfl) dX1_take_36 (c_X1_tieIn hk hs hle hit (by omega)) (fitM (by omega) (by decide)) (Nat.le_of_ble_eq_true rfl) ?_
      refine rj_ast3 dX1_take_39 (by decide) rfl ?_
      refine rj_ald1 dX1_take_40 rfl ?_
      refine rj_ild2 dX1_take_41 rfl ?_
      refine rj_V1r (ci := 1) cX1_32 rfl (by decide) (by first | assumption | rfl) dX1_take_42 (c_X1_tieIn hk1 hs1 hle hit (by omega)) (fitM (by omega) (by decide)) (Nat.le_of_ble_eq_true rfl) ?_
      refine rj_ast4w dX1_take_45 (by decide) rfl ?_
      refine rj_ald3 dX1_take_47 rfl ?_
      refine rj_nu_ref dX1_take_48 ?_
      refine rj_ald dX1_take_51 rfl ?_
      refine rj_nu_ref dX1_take_53 ?_
      have ht8 := hkj i (by omega)
      refine rj_ald3 dX1_take_56 rfl ?_
      refine rj_ald dX1_take_57 rfl ?_
      refine rj_V1 (ci := 8) cX1_53 rfl (by decide) (by first | assumption | rfl) dX1_take_59 (c_X8_take (hkj i (by omega)) (hkj1 i (by omega)) (by unfold tk; omega) (fr_tie hF1 (j := i) (by omega))) (fitM (by omega) (by decide)) (Nat.le_of_ble_eq_true rfl) ?_
      rintro v υ ⟨rfl, hx1, ho1⟩
      simp only [Option.toList, List.nil_append]
      have hof : off (fairC k) τ υ := ho1.mono (fun a ha => tieC_fair (by omega) ha)
      have huk : υ.1 k = τ.1 k := (ho1 k (fun q => by unfold tieC tk at q; omega)).1
      refine rj_iinc2 (d := 1) dX1_take_62 (by decide) rfl (by decide) ?_
      rw [nI_1]
      refine rj_goto (tgt := 26) dX1_take_65 (by decide) ?_
      refine ih (i + 1) υ _ _ (by omega) ⟨by omega, by rw [huk]; exact hs, by rw [huk]; exact hc, by rw [huk]; exact hz, fun j hj => ?_, fun j hj => ?_, ho.tr hof, rfl⟩
      · by_cases hij : j = i
        · subst hij; exact hx1
        · exact (hT j (by omega)).off ho1 (fun q => tk_ne hij _ (Or.inl rfl) q) (fun q => tk_ne hij _ (Or.inr (Or.inl rfl)) q) (fun q => tk_ne hij _ (Or.inr (Or.inr rfl)) q)
      · by_cases hij : j = i
        · subst hij; exact ⟨_, hx1.2⟩
        · obtain ⟨ys, hy⟩ := hS j hj
          exact ⟨ys, hy.off ho1 (fun q => tk_ne hij _ (Or.inr (Or.inl rfl)) q) (fun q => tk_ne hij _ (Or.inr (Or.inr rfl)) q)⟩

set_option maxRecDepth 100000 in
theorem c_X1_take {l : Launch} {X : CX} {σ : ST} {k k1 : Nat} {A : FA} (hk : kd k = 1) (hk1 : kd k1 = 1) (hne : k1 ≠ k) (hF : Fr σ k1 A) (hS : FrS σ k) : MJ l X 3 yX1_take cX1_take 5 none [.ref (ad X k), .ref (ad X k1)] σ (PV (fun τ => Fr τ k A ∧ off (fairC k) σ τ)) := by
  refine MJ_of (own := RX1) [some (.ref (ad X k)), some (.ref (ad X k1)), none, none, none] (by decide) rfl (Nat.le_of_ble_eq_true rfl) rfl ?_
  have hap := fair_apart hk hk1 (Ne.symm hne)
  have hne1 : k ≠ k1 := Ne.symm hne
  obtain ⟨υ, hu⟩ : ∃ υ, υ = ui (ui (ui σ k 1 (σ.1 k1 1)) k 2 (σ.1 k1 2)) k 3 (σ.1 k1 3) := ⟨_, rfl⟩
  have ho : off (fun a => a = k) σ υ := by rw [hu]; exact (((off.rf (P := fun a => a = k)).ui rfl).ui rfl).ui rfl
  have e2 : (ui σ k 1 (σ.1 k1 1)).1 k1 2 = σ.1 k1 2 := by rw [ui_ne hne]
  have e3 : (ui (ui σ k 1 (σ.1 k1 1)) k 2 (σ.1 k1 2)).1 k1 3 = σ.1 k1 3 := by rw [ui_ne hne, ui_ne hne]
  refine rj_ald0 dX1_take_0 rfl ?_
  refine rj_ald1 dX1_take_1 rfl ?_
  refine g1_17 (by first | assumption | rfl) dX1_take_2 ?_
  refine p1_17 (by first | assumption | rfl) dX1_take_5 ?_
  refine rj_ald0 dX1_take_8 rfl ?_
  refine rj_ald1 dX1_take_9 rfl ?_
  refine g1_21 (by first | assumption | rfl) dX1_take_10 ?_
  rw [e2]
  refine p1_21 (by first | assumption | rfl) dX1_take_13 ?_
  refine rj_ald0 dX1_take_16 rfl ?_
  refine rj_ald1 dX1_take_17 rfl ?_
  refine g1_24 (by first | assumption | rfl) dX1_take_18 ?_
  rw [e3]
  refine p1_24 (by first | assumption | rfl) dX1_take_21 ?_
  rw [← hu]
  refine rj_ic0 dX1_take_24 ?_
  refine rj_ist2 dX1_take_25 (by decide) rfl ?_
  have hF1 : Fr υ k1 A := hF.off ho (fun a ha => by unfold fairC; omega)
  have hS1 : FrS υ k := fun j hj => by
    obtain ⟨xs, hx⟩ := hS j hj
    exact ⟨xs, hx.off ho (fun q => by unfold tk at q; omega) (fun q => by unfold tk at q; omega)⟩
  refine l_X1_take (by decide) hk hk1 hne hF1 (fun τ h1 h2 => ⟨rfl, h1, (ho.mono (fun a (ha : a = k) => by unfold fairC; omega)).tr h2⟩) (A.2.2.length + 1) 0 υ _ _ (by omega) ⟨by omega, ?_, ?_, ?_, fun j hj => absurd hj (by omega), hS1, off.rf, rfl⟩
  · rw [hu, ui_nj (by decide), ui_nj (by decide), ui_same]; exact hF.1
  · rw [hu, ui_nj (by decide), ui_same]; exact hF.2.1
  · rw [hu, ui_same]; exact hF.2.2.1

