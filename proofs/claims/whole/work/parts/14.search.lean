/-! searches -/
theorem se_all : ∀ k, k < 129 → kd k = 3 → (kd (k + 1) = 2 ∧ kd (k + 3) = 2 ∧ ln (k + 1 + 1) = 12 ∧ ln (k + 3 + 1) = 12) := by decide +kernel
theorem se_next {k : Nat} (h : kd k = 3) : kd (k + 1) = 2 ∧ kd (k + 3) = 2 ∧ ln (k + 1 + 1) = 12 ∧ ln (k + 3 + 1) = 12 := se_all k (kd_lt (by omega)) h
def seC (k : Nat) : Nat → Prop := fun a => k < a ∧ a < k + 5
theorem rowC_se1 {k a : Nat} (h : rowC (k + 1) a) : seC k a := by unfold rowC at h; unfold seC; omega
theorem rowC_se3 {k a : Nat} (h : rowC (k + 3) a) : seC k a := by unfold rowC at h; unfold seC; omega
theorem dst_sym (a b : Int32) : (dst a b).toInt = (dst b a).toInt := by
  unfold dst
  have e : iab b - iab a = 0 - (iab a - iab b) := by
    apply Int32.toBitVec_inj.mp; simp
  rw [e]
  generalize iab a - iab b = x
  unfold iab
  by_cases h : (0 : Int32) ≤ x
  · rw [if_pos h]
    have h1 := tle h
    rw [t0] at h1
    by_cases h0 : x.toInt = 0
    · have : x = 0 := i_inj (by rw [h0, t0]); rw [this]; decide
    · have h2 : (0 - x).toInt = -x.toInt := by have := i_hi x; rw [i_sub (by rw [t0]; omega) (by rw [t0]; omega), t0]; omega
      rw [if_neg (fun q => by have := tle q; rw [t0] at this; omega), i_sub (by rw [t0]; omega) (by rw [t0]; have := i_hi x; omega), t0, h2]; omega
  · rw [if_neg h]
    have h1 := tnle h
    rw [t0] at h1
    by_cases hm : x.toInt = -2147483648
    · have : x = -2147483648 := i_inj (by rw [hm]; decide); rw [this]; decide
    · have h2 : (0 - x).toInt = -x.toInt := by have := i_lo x; rw [i_sub (by rw [t0]; omega) (by rw [t0]; omega), t0]; omega
      rw [if_pos (Int32.le_iff_toInt_le.mpr (by rw [t0, h2]; omega))]
theorem getD_setI (l : List Int32) (j i : Nat) (v : Int32) (hj : j < l.length) : (l.set j v).getD i 0 = if i = j then v else l.getD i 0 := by
  by_cases h : i = j
  · subst h; simp [List.getD, hj]
  · simp [List.getD, List.getElem?_set, Ne.symm h, h]
theorem msl_get {xs : List Int32} {j : Nat} (h : j + 1 < xs.length) (i : Nat) : (msl xs j).getD i 0 = if i = j + 1 then xs.getD j 0 else if i = j then xs.getD (j + 1) 0 else xs.getD i 0 := by
  unfold msl
  rw [getD_setI _ _ _ _ (by simp; omega)]
  by_cases q : i = j + 1
  · rw [if_pos q, if_pos q]
  · rw [if_neg q, if_neg q, getD_setI _ _ _ _ (by omega)]
theorem mth_get {xs : List Int32} {j : Nat} (h : j + 2 < xs.length) (i : Nat) : (mth xs j).getD i 0 = if i = j + 2 then xs.getD (j + 1) 0 else if i = j + 1 then xs.getD j 0 else if i = j then xs.getD (j + 1) 0 else xs.getD i 0 := by
  unfold mth
  rw [getD_setI _ _ _ _ (by simp; omega)]
  by_cases q : i = j + 2
  · rw [if_pos q, if_pos q]
  · rw [if_neg q, if_neg q, getD_setI _ _ _ _ (by simp; omega)]
    by_cases z : i = j + 1
    · rw [if_pos z, if_pos z]
    · rw [if_neg z, if_neg z, getD_setI _ _ _ _ (by omega)]
theorem csl_msl {xs : List Int32} {j : Nat} (h : csl xs j) : csl (msl xs j) j := by
  refine ⟨by rw [msl_len]; exact h.1, ?_⟩
  rw [msl_get h.1, msl_get h.1, if_neg (by omega), if_pos rfl, if_pos rfl, dst_sym]
  exact h.2
theorem msl_msl {xs : List Int32} {j : Nat} (h : csl xs j) : msl (msl xs j) j = xs := by
  apply getD_ext
  · rw [msl_len, msl_len]
  · intro i hi
    have h1 : j + 1 < (msl xs j).length := by rw [msl_len]; exact h.1
    rw [msl_get h1]
    by_cases q : i = j + 1
    · rw [if_pos q, msl_get h.1, if_neg (by omega), if_pos rfl, q]
    · rw [if_neg q]
      by_cases z : i = j
      · rw [if_pos z, msl_get h.1, if_pos rfl, z]
      · rw [if_neg z, msl_get h.1, if_neg q, if_neg z]
theorem cth_mth {xs : List Int32} {j : Nat} (h : cth xs j) : cth (mth xs j) j := by
  obtain ⟨h1, h2, h3, h4⟩ := h
  refine ⟨by rw [mth_len]; exact h1, ?_, ?_, ?_⟩
  · rw [mth_get h1, mth_get h1, if_neg (by omega), if_neg (by omega), if_pos rfl, if_pos rfl]
  · rw [mth_get h1, mth_get h1, if_neg (by omega), if_neg (by omega), if_pos rfl, if_neg (by omega), if_pos rfl]; exact h3.symm
  · rw [mth_get h1, mth_get h1, if_neg (by omega), if_neg (by omega), if_pos rfl, if_neg (by omega), if_pos rfl]
    exact i_inj (by rw [dst_sym, h4])
theorem mth_mth {xs : List Int32} {j : Nat} (h : cth xs j) : mth (mth xs j) j = xs := by
  obtain ⟨h1, h2, h3, h4⟩ := h
  apply getD_ext
  · rw [mth_len, mth_len]
  · intro i hi
    have g1 : j + 2 < (mth xs j).length := by rw [mth_len]; exact h1
    rw [mth_get g1]
    by_cases q : i = j + 2
    · rw [if_pos q, mth_get h1, if_neg (by omega), if_pos rfl, q, h2]
    · rw [if_neg q]
      by_cases z : i = j + 1
      · rw [if_pos z, mth_get h1, if_neg (by omega), if_neg (by omega), if_pos rfl, z]
      · rw [if_neg z]
        by_cases y : i = j
        · rw [if_pos y, mth_get h1, if_neg (by omega), if_pos rfl, y]
        · rw [if_neg y, mth_get h1, if_neg q, if_neg z, if_neg y]
theorem csl_cth {xs : List Int32} {j : Nat} (h : cth xs j) : ¬ csl xs j := fun q => by
  have := q.2
  rw [h.2.2.2] at this
  exact absurd this (by decide)
theorem mv_mv {xs : List Int32} {j : Nat} (h : csl xs j ∨ cth xs j) : mv (mv xs j) j = xs := by
  by_cases q : csl xs j
  · unfold mv; rw [if_pos q, if_pos (csl_msl q), msl_msl q]
  · have z := h.resolve_left q
    unfold mv; rw [if_neg q, if_pos z, if_neg (csl_cth (cth_mth z)), if_pos (cth_mth z), mth_mth z]
theorem mv_can {xs : List Int32} {j : Nat} (h : csl xs j ∨ cth xs j) : csl (mv xs j) j ∨ cth (mv xs j) j := by
  by_cases q : csl xs j
  · unfold mv; rw [if_pos q]; exact Or.inl (csl_msl q)
  · have z := h.resolve_left q
    unfold mv; rw [if_neg q, if_pos z]; exact Or.inr (cth_mth z)
/-- some n moves, one behind the other, behind which nothing is left -/
def cob : Nat → List Int32 → Prop
  | 0, xs => redR xs = []
  | n + 1, xs => ∃ j, j < xs.length ∧ (csl xs j ∨ cth xs j) ∧ cob n (mv xs j)
noncomputable def bP (p : Prop) : Int32 := if Classical.propDecidable p |>.decide then 1 else 0
theorem bP_t {p : Prop} (h : p) : bP p = 1 := by unfold bP; simp [h]
theorem bP_f {p : Prop} (h : ¬ p) : bP p = 0 := by unfold bP; simp [h]
theorem bP_z {p : Prop} (h : bP p = 0) : ¬ p := fun q => by rw [bP_t q] at h; exact absurd h (by decide)
theorem bP_nz {p : Prop} (h : ¬ bP p = 0) : p := Classical.byContradiction (fun q => h (bP_f q))
theorem bP_n (p : Prop) : narrow .boolean (.int (bP p)) = .int (bP p) := by
  by_cases h : p
  · rw [bP_t h]; rfl
  · rw [bP_f h]; rfl
/-- the search's two rows -/
def Se (σ : ST) (k : Nat) (xs : List Int32) : Prop := Rw σ (k + 1) xs ∧ ∃ ys, Rw σ (k + 3) ys
abbrev seQ (σ : ST) (k : Nat) (xs : List Int32) (p : Prop) : Option Value → ST → Prop := fun v τ => v = some (.int (bP p)) ∧ Se τ k xs ∧ off (seC k) σ τ
set_option maxRecDepth 100000 in
theorem c_X3_comes0 {l : Launch} {X : CX} {σ : ST} {k : Nat} {xs : List Int32} (hk : kd k = 3) (hS : Se σ k xs) : MJ l X 4 yX3_comesOutBy cX3_comesOutBy 5 (some .boolean) [.int 0, .ref (ad X (k + 1)), .ref (ad X (k + 3))] σ (seQ σ k xs (redR xs = [])) := by
  refine MJ_of (own := RX3) [some (.int 0), some (.ref (ad X (k + 1))), some (.ref (ad X (k + 3))), none, none] (by decide) rfl (Nat.le_of_ble_eq_true rfl) rfl ?_
  obtain ⟨k1, k3, l1, l3⟩ := se_next hk
  obtain ⟨hx, ys, hy⟩ := hS
  have h12 := hx.2.1
  refine rj_ild0 dX3_comesOutBy_0 rfl ?_
  refine rj_if_gt (tgt := 26) dX3_comesOutBy_1 (by decide) (fun h_1 => ?_) (fun h_1 => ?_)
  · exfalso; rw [t0] at h_1; omega
  · refine rj_ald2 dX3_comesOutBy_4 rfl ?_
    refine rj_ald1 dX3_comesOutBy_5 rfl ?_
    refine rj_V1 (ci := 2) cX3_27 rfl (by decide) (by first | assumption | rfl) dX3_comesOutBy_6 (c_X2_take k3 k1 hx (by omega)) (fitM (by decide) (by decide)) (Nat.le_of_ble_eq_true rfl) ?_
    rintro v τ ⟨rfl, hx1, ho1⟩
    simp only [Option.toList, List.nil_append]
    refine rj_ald2 dX3_comesOutBy_9 rfl ?_
    refine rj_V0 (ci := 2) cX3_35 rfl (by decide) (by first | assumption | rfl) dX3_comesOutBy_10 (c_X2_tighten k3 hx1) (fitM (by decide) (by decide)) (Nat.le_of_ble_eq_true rfl) ?_
    rintro v υ ⟨rfl, hx2, ho2⟩
    simp only [Option.toList, List.nil_append]
    have hoo : off (rowC (k + 3)) σ υ := ho1.tr ho2
    have hxf : Rw υ (k + 1) xs := hx.off hoo (fun q => by unfold rowC at q; omega) (fun q => by unfold rowC at q; omega)
    have hs2 := hx2.1
    refine rj_ald2 dX3_comesOutBy_13 rfl ?_
    refine g3_38 (by first | assumption | rfl) dX3_comesOutBy_14 ?_
    refine rj_if_ne (tgt := 24) dX3_comesOutBy_17 (by decide) (fun h_17 => ?_) (fun h_17 => ?_)
    · refine rj_ic0 dX3_comesOutBy_24 ?_
      refine rj_zret dX3_comesOutBy_25 (rfl) ?_
      refine ⟨?_, ⟨hxf, _, hx2⟩, hoo.mono (fun a ha => rowC_se3 ha)⟩
      rw [bP_f]
      intro q
      apply h_17
      apply i_inj
      rw [hs2, t0]
      simp [red, q]
    · refine rj_ic1 dX3_comesOutBy_20 ?_
      refine rj_goto (tgt := 25) dX3_comesOutBy_21 (by decide) ?_
      refine rj_zret dX3_comesOutBy_25 (rfl) ?_
      refine ⟨?_, ⟨hxf, _, hx2⟩, hoo.mono (fun a ha => rowC_se3 ha)⟩
      rw [bP_t]
      rw [h_17, t0] at hs2
      exact List.length_eq_zero_iff.mp (by simpa [red] using hs2.symm)

set_option maxRecDepth 100000 in
theorem l_X3_comes {l : Launch} {X : CX} {h m : Nat} {Q : Option Value → ST → Prop} {σ : ST} {k : Nat} {xs : List Int32} (hh : 4 + m < h) (hm : m < 100) (hk : kd k = 3) (h12 : xs.length ≤ 12) (hrec : ∀ (σ : ST) (zs : List Int32), Se σ k zs → MJ l X (4 + m) yX3_comesOutBy cX3_comesOutBy 5 (some .boolean) [.int (nI m), .ref (ad X (k + 1)), .ref (ad X (k + 3))] σ (seQ σ k zs (cob m zs))) (hQ : ∀ τ, Se τ k xs → off (seC k) σ τ → Q (some (.int (bP (cob (m + 1) xs)))) τ) : ∀ (N i : Nat) (τ : ST) (a3 : Option Value), xs.length < i + N → (i ≤ xs.length ∧ Se τ k xs ∧ off (seC k) σ τ ∧ ∀ j, j < i → ¬ ((csl xs j ∨ cth xs j) ∧ cob m (mv xs j))) → RJ (GM l X h Q) X cX3_comesOutBy 5 (some .boolean) RX3 28 [some (.int (nI (m + 1))), some (.ref (ad X (k + 1))), some (.ref (ad X (k + 3))), some (.int (nI i)), a3] [] τ := by
  intro N
  induction N with
  | zero => intro i τ a3 hN hi; have := hi.1; exact absurd hN (by omega)
  | succ N ih =>
    intro i τ a3 hN hi
    obtain ⟨hi, hS, ho, hno⟩ := hi
    obtain ⟨k1, k3, l1, l3⟩ := se_next hk
    obtain ⟨hx, ys, hy⟩ := id hS
    have hsz := hx.1
    have hit := nIt (i := i) (by omega)
    have hmm : nI (m + 1) - 1 = nI m := nI_pred m
    have hmt : (nI (m + 1)).toInt = (m + 1 : Nat) := nI_t (by omega)
    refine rj_ild3 dX3_comesOutBy_28 rfl ?_
    refine rj_ald1 dX3_comesOutBy_29 rfl ?_
    refine g3_38 (by first | assumption | rfl) dX3_comesOutBy_30 ?_
    refine rj_ic_ge (tgt := 73) dX3_comesOutBy_33 (by decide) (fun h_33 => ?_) (fun h_33 => ?_)
    · refine rj_ic0 dX3_comesOutBy_73 ?_
      refine rj_zret dX3_comesOutBy_74 (rfl) ?_
      have := hQ τ hS ho
      rw [bP_f (fun ⟨j, hj, q⟩ => hno j (by omega) q)] at this
      exact this
    · refine rj_ald1 dX3_comesOutBy_36 rfl ?_
      refine rj_ild3 dX3_comesOutBy_37 rfl ?_
      refine rj_V1 (ci := 2) cX3_42 rfl (by decide) (by first | assumption | rfl) dX3_comesOutBy_38 (c_X2_makeMove k1 hx hit) (fitM (by omega) (by decide)) (Nat.le_of_ble_eq_true rfl) ?_
      rintro v υ ⟨rfl, hx1, ho1⟩
      simp only [Option.toList, List.cons_append, List.nil_append]
      have hy1 : Rw υ (k + 3) ys := hy.off ho1 (fun q => by unfold rowC at q; omega) (fun q => by unfold rowC at q; omega)
      refine rj_if_eq (tgt := 67) dX3_comesOutBy_41 (by decide) (fun h_41 => ?_) (fun h_41 => ?_)
      · have hb_41 := bz_t h_41
        have hx0 : mv xs i = xs := by unfold mv; rw [if_neg (fun q => hb_41 (Or.inl q)), if_neg (fun q => hb_41 (Or.inr q))]
        rw [hx0] at hx1
        refine rj_iinc3 (d := 1) dX3_comesOutBy_67 (by decide) rfl (by decide) ?_
        rw [nI_1]
        refine rj_goto (tgt := 28) dX3_comesOutBy_70 (by decide) ?_
        exact ih (i + 1) υ _ (by omega) ⟨by omega, ⟨hx1, ys, hy1⟩, ho.tr (ho1.mono (fun a ha => rowC_se1 ha)), fun j hj => by rcases Nat.lt_or_ge j i with q | q; exact hno j q; rw [show j = i by omega]; exact fun z => hb_41 z.1⟩
      · have hb_41 := bz_f h_41
        refine rj_ild0 dX3_comesOutBy_44 rfl ?_
        refine rj_ic1 dX3_comesOutBy_45 ?_
        refine rj_isub dX3_comesOutBy_46 ?_
        rw [hmm]
        refine rj_ald1 dX3_comesOutBy_47 rfl ?_
        refine rj_ald2 dX3_comesOutBy_48 rfl ?_
        refine rj_S3 cX3_31 dX3_comesOutBy_49 (hrec υ (mv xs i) ⟨hx1, ys, hy1⟩) (fitM (by omega) (by decide)) (Nat.le_of_ble_eq_true rfl) ?_
        rintro v φ ⟨rfl, ⟨hx2, zs, hz2⟩, ho2⟩
        simp only [Option.toList, List.cons_append, List.nil_append]
        refine rj_ist4w dX3_comesOutBy_52 (by decide) rfl ?_
        refine rj_ald1 dX3_comesOutBy_54 rfl ?_
        refine rj_ild3 dX3_comesOutBy_55 rfl ?_
        refine rj_V1 (ci := 2) cX3_42 rfl (by decide) (by first | assumption | rfl) dX3_comesOutBy_56 (c_X2_makeMove k1 hx2 hit) (fitM (by omega) (by decide)) (Nat.le_of_ble_eq_true rfl) ?_
        rintro v ψ ⟨rfl, hx3, ho3⟩
        simp only [Option.toList, List.cons_append, List.nil_append]
        have hz3 : Rw ψ (k + 3) zs := hz2.off ho3 (fun q => by unfold rowC at q; omega) (fun q => by unfold rowC at q; omega)
        rw [mv_mv hb_41] at hx3
        have hoo : off (seC k) σ ψ := ((ho.tr (ho1.mono (fun a ha => rowC_se1 ha))).tr ho2).tr (ho3.mono (fun a ha => rowC_se1 ha))
        refine rj_pop dX3_comesOutBy_59 rfl ?_
        refine rj_ild dX3_comesOutBy_60 rfl ?_
        refine rj_if_eq (tgt := 67) dX3_comesOutBy_62 (by decide) (fun h_62 => ?_) (fun h_62 => ?_)
        · have hn := bP_z h_62
          refine rj_iinc3 (d := 1) dX3_comesOutBy_67 (by decide) rfl (by decide) ?_
          rw [nI_1]
          refine rj_goto (tgt := 28) dX3_comesOutBy_70 (by decide) ?_
          exact ih (i + 1) ψ _ (by omega) ⟨by omega, ⟨hx3, zs, hz3⟩, hoo, fun j hj => by rcases Nat.lt_or_ge j i with q | q; exact hno j q; rw [show j = i by omega]; exact fun z => hn z.2⟩
        · have hp := bP_nz h_62
          refine rj_ic1 dX3_comesOutBy_65 ?_
          refine rj_zret dX3_comesOutBy_66 (rfl) ?_
          have := hQ ψ ⟨hx3, zs, hz3⟩ hoo
          rw [bP_t ⟨i, by omega, hb_41, hp⟩] at this
          exact this

theorem c_X3_comesOutBy {l : Launch} {X : CX} {k : Nat} (hk : kd k = 3) : ∀ (m : Nat), m < 100 → ∀ (σ : ST) (xs : List Int32), Se σ k xs → MJ l X (4 + m) yX3_comesOutBy cX3_comesOutBy 5 (some .boolean) [.int (nI m), .ref (ad X (k + 1)), .ref (ad X (k + 3))] σ (seQ σ k xs (cob m xs)) := by
  intro m
  induction m with
  | zero => intro _ σ xs hS; exact c_X3_comes0 hk hS
  | succ m ih =>
    intro hm σ xs hS
    have hrec := ih (by omega)
    have h12 : xs.length ≤ 12 := by have := hS.1.2.1; rw [(se_next hk).2.2.1] at this; exact this
    have hmt : (nI (m + 1)).toInt = (m + 1 : Nat) := nI_t (by omega)
    refine MJ_of (own := RX3) [some (.int (nI (m + 1))), some (.ref (ad X (k + 1))), some (.ref (ad X (k + 3))), none, none] (by decide) rfl (Nat.le_of_ble_eq_true rfl) rfl ?_
    refine rj_ild0 dX3_comesOutBy_0 rfl ?_
    refine rj_if_gt (tgt := 26) dX3_comesOutBy_1 (by decide) (fun h_1 => ?_) (fun h_1 => ?_)
    · refine rj_ic0 dX3_comesOutBy_26 ?_
      refine rj_ist3 dX3_comesOutBy_27 (by decide) rfl ?_
      exact l_X3_comes (h := 4 + (m + 1)) (by omega) (by omega) hk h12 hrec (fun τ h1 h2 => ⟨rfl, h1, h2⟩) (xs.length + 1) 0 σ _ (by omega) ⟨by omega, hS, off.rf, fun j hj => absurd hj (by omega)⟩
    · exfalso; omega
def fmR (xs : List Int32) (r : Int32) : Prop := (∃ m : Nat, m ≤ 3 ∧ cob m xs ∧ (∀ j, j < m → ¬ cob j xs) ∧ r = nI m) ∨ ((∀ j, j ≤ 3 → ¬ cob j xs) ∧ r = -1)
/-! no move and no pull alters the sum of signs -/
theorem split2 : ∀ (j : Nat) (xs : List Int32), j + 1 < xs.length → ∃ u a b v, xs = u ++ a :: b :: v ∧ u.length = j
  | 0, a :: b :: v, _ => ⟨[], a, b, v, rfl, rfl⟩
  | 0, [_], h => by simp at h
  | 0, [], h => by simp at h
  | j + 1, c :: xs, h => by
    obtain ⟨u, a, b, v, e, hl⟩ := split2 j xs (by simpa using h)
    exact ⟨c :: u, a, b, v, by rw [e]; rfl, by simp [hl]⟩
  | j + 1, [], h => by simp at h
theorem split3 : ∀ (j : Nat) (xs : List Int32), j + 2 < xs.length → ∃ u a b d v, xs = u ++ a :: b :: d :: v ∧ u.length = j
  | 0, a :: b :: d :: v, _ => ⟨[], a, b, d, v, rfl, rfl⟩
  | 0, [_, _], h => by simp at h
  | 0, [_], h => by simp at h
  | 0, [], h => by simp at h
  | j + 1, c :: xs, h => by
    obtain ⟨u, a, b, d, v, e, hl⟩ := split3 j xs (by simp only [List.length_cons] at h; omega)
    exact ⟨c :: u, a, b, d, v, by rw [e]; rfl, by simp [hl]⟩
  | j + 1, [], h => by simp at h
theorem msl_split (u v : List Int32) (a b : Int32) : msl (u ++ a :: b :: v) u.length = u ++ b :: a :: v := by
  unfold msl
  simp [List.getD, List.set_append]
theorem mth_split (u v : List Int32) (a b d : Int32) : mth (u ++ a :: b :: d :: v) u.length = u ++ b :: a :: b :: v := by
  unfold mth
  simp [List.getD, List.set_append]
def sgL2 (z : Int32) (xs : List Int32) : Int32 := xs.foldl (fun a c => a + sg c) z
theorem i32_add_comm (a b : Int32) : a + b = b + a := Int32.add_comm a b
theorem sgs_cons2 (u v : List Int32) (a b : Int32) : sgs (u ++ a :: b :: v) = sgs (u ++ b :: a :: v) := by
  unfold sgs
  simp only [List.foldl_append, List.foldl_cons]
  rw [Int32.add_assoc, Int32.add_comm (sg a) (sg b), ← Int32.add_assoc]
theorem sgs_msl {xs : List Int32} {j : Nat} (h : csl xs j) : sgs (msl xs j) = sgs xs := by
  obtain ⟨u, a, b, v, rfl, rfl⟩ := split2 j xs h.1
  rw [msl_split, sgs_cons2]
theorem sgs_mth {xs : List Int32} {j : Nat} (h : cth xs j) : sgs (mth xs j) = sgs xs := by
  obtain ⟨u, a, b, d, v, rfl, rfl⟩ := split3 j xs h.1
  obtain ⟨_, h2, h3, _⟩ := h
  simp [List.getD] at h2 h3
  subst h2
  have e : sg a = sg b := by
    unfold sg
    by_cases q : 0 < a.toInt
    · rw [if_pos q, if_pos (h3.mp q)]
    · rw [if_neg q, if_neg (fun z => q (h3.mpr z))]
  rw [mth_split]
  unfold sgs
  simp only [List.foldl_append, List.foldl_cons, e]
theorem sgs_mv {xs : List Int32} {j : Nat} : sgs (mv xs j) = sgs xs := by
  unfold mv
  split
  · exact sgs_msl (by assumption)
  · split
    · exact sgs_mth (by assumption)
    · rfl
theorem sg_neg {c : Int32} (h0 : c.toInt ≠ 0) (h1 : -2147483648 < c.toInt) : sg (-c) + sg c = 0 := by
  unfold sg
  rw [i_neg h1]
  by_cases q : 0 < c.toInt
  · rw [if_pos q, if_neg (by omega)]; decide
  · rw [if_neg q, if_pos (by omega)]; decide
theorem sgs_red {rc : Int32} (hr : rc.toInt ≤ 4) : ∀ (xs : List Int32), okL rc xs → sgs (redR xs).reverse = sgs xs ∧ okL rc (redR xs) := by
  have key : ∀ (n : Nat) (xs : List Int32), xs.length = n → okL rc xs → sgs (redR xs).reverse = sgs xs ∧ okL rc (redR xs) := by
    intro n
    induction n with
    | zero => intro xs h _; rw [List.length_eq_zero_iff.mp h]; exact ⟨rfl, fun c hc => by simp [redR] at hc⟩
    | succ n ih =>
      intro xs h hok
      have hne : xs ≠ [] := fun q => by rw [q] at h; simp at h
      obtain ⟨ys, c, rfl⟩ : ∃ ys c, xs = ys ++ [c] := ⟨xs.dropLast, xs.getLast hne, (List.dropLast_concat_getLast hne).symm⟩
      have hoy : okL rc ys := fun d hd => hok d (List.mem_append.mpr (Or.inl hd))
      have hc : okc rc c.toInt := hok c (by simp)
      unfold okc at hc
      obtain ⟨h1, h2⟩ := ih ys (by simpa using h) hoy
      rw [redR_snoc, sgs_snoc, ← h1]
      cases hS : redR ys with
      | nil => exact ⟨rfl, fun d hd => by simp [rp] at hd; rw [hd]; exact hok c (by simp)⟩
      | cons t r =>
        rw [hS] at h2
        by_cases q : t = -c
        · simp only [rp]
          rw [if_pos q, List.reverse_cons, sgs_snoc, q, Int32.add_assoc, sg_neg (by omega) (by omega), Int32.add_zero]
          exact ⟨rfl, fun d hd => h2 d (List.mem_cons_of_mem _ hd)⟩
        · simp only [rp]
          rw [if_neg q, List.reverse_cons, sgs_snoc]
          exact ⟨rfl, fun d hd => by rcases List.mem_cons.mp hd with rfl | hd; exact hok _ (by simp); exact h2 d hd⟩
  exact fun xs h => key _ xs rfl h
theorem mem_set' {xs : List Int32} {j : Nat} {v c : Int32} (h : c ∈ xs.set j v) : c ∈ xs ∨ c = v := List.mem_or_eq_of_mem_set h
theorem okL_set {rc : Int32} {xs : List Int32} {j : Nat} {v : Int32} (h : okL rc xs) (hv : okc rc v.toInt) : okL rc (xs.set j v) := fun c hc => by
  rcases mem_set' hc with q | q
  · exact h c q
  · rw [q]; exact hv
theorem okL_mv {rc : Int32} {xs : List Int32} {j : Nat} (h : okL rc xs) : okL rc (mv xs j) := by
  unfold mv
  split
  · rename_i q
    exact okL_set (okL_set h (okL_get h q.1)) (okL_get h (by omega))
  · split
    · rename_i q
      exact okL_set (okL_set (okL_set h (okL_get h (by omega))) (okL_get h (by omega))) (okL_get h (by omega))
    · exact h
theorem cob_sgs {rc : Int32} (hr : rc.toInt ≤ 4) : ∀ (m : Nat) (xs : List Int32), okL rc xs → cob m xs → sgs xs = 0
  | 0, xs, hok, h => by
    have := (sgs_red hr xs hok).1
    rw [show redR xs = [] from h] at this
    exact this.symm
  | m + 1, xs, hok, ⟨j, hj, hc, hm⟩ => by
    rw [← sgs_mv (j := j)]
    exact cob_sgs hr m _ (okL_mv hok) hm
set_option maxRecDepth 100000 in
theorem l_X3_few {l : Launch} {X : CX} {h : Nat} {Q : Option Value → ST → Prop} {σ : ST} {k k1 : Nat} {xs : List Int32} (hh : 8 ≤ h) (hk : kd k = 3) (hQ : ∀ r τ, fmR xs r → Se τ k xs → off (seC k) σ τ → Q (some (.int r)) τ) : ∀ (N i : Nat) (τ : ST), 4 < i + N → (i ≤ 4 ∧ Se τ k xs ∧ off (seC k) σ τ ∧ ∀ j, j < i → ¬ cob j xs) → RJ (GM l X h Q) X cX3_fewestMoves 3 (some .int) RX3 19 [some (.ref (ad X k)), some (.ref (ad X k1)), some (.int (nI i))] [] τ := by
  intro N
  induction N with
  | zero => intro i τ hN hi; have := hi.1; exact absurd hN (by omega)
  | succ N ih =>
    intro i τ hN hi
    obtain ⟨hi, hS, ho, hno⟩ := hi
    have hit := nIt (i := i) (by omega)
    have h3 : (3 : Int32).toInt = 3 := by decide
    refine rj_ild2 dX3_fewestMoves_19 rfl ?_
    refine rj_ic3 dX3_fewestMoves_20 ?_
    refine rj_ic_gt (tgt := 47) dX3_fewestMoves_21 (by decide) (fun h_21 => ?_) (fun h_21 => ?_)
    · refine rj_icm1 dX3_fewestMoves_47 ?_
      refine rj_iret dX3_fewestMoves_48 ?_
      exact hQ _ τ (Or.inr ⟨fun j hj => hno j (by omega), rfl⟩) hS ho
    · refine rj_ild2 dX3_fewestMoves_24 rfl ?_
      refine rj_ald0 dX3_fewestMoves_25 rfl ?_
      refine g3_14 (by first | assumption | rfl) dX3_fewestMoves_26 ?_
      refine rj_ald0 dX3_fewestMoves_29 rfl ?_
      refine g3_20 (by first | assumption | rfl) dX3_fewestMoves_30 ?_
      refine rj_S3 cX3_31 dX3_fewestMoves_33 (c_X3_comesOutBy hk i (by omega) τ xs hS) (fitM (by omega) (by decide)) (Nat.le_of_ble_eq_true rfl) ?_
      rintro v υ ⟨rfl, hS1, ho1⟩
      simp only [Option.toList, List.cons_append, List.nil_append]
      refine rj_if_eq (tgt := 41) dX3_fewestMoves_36 (by decide) (fun h_36 => ?_) (fun h_36 => ?_)
      · have hn := bP_z h_36
        refine rj_iinc2 (d := 1) dX3_fewestMoves_41 (by decide) rfl (by decide) ?_
        rw [nI_1]
        refine rj_goto (tgt := 19) dX3_fewestMoves_44 (by decide) ?_
        exact ih (i + 1) υ (by omega) ⟨by omega, hS1, ho.tr ho1, fun j hj => by rcases Nat.lt_or_ge j i with q | q; exact hno j q; rw [show j = i by omega]; exact hn⟩
      · have hp := bP_nz h_36
        refine rj_ild2 dX3_fewestMoves_39 rfl ?_
        refine rj_iret dX3_fewestMoves_40 ?_
        exact hQ _ υ (Or.inl ⟨i, by omega, hp, hno, rfl⟩) hS1 (ho.tr ho1)

set_option maxRecDepth 100000 in
theorem c_X3_fewestMoves {l : Launch} {X : CX} {σ : ST} {k k1 : Nat} {rc : Int32} {xs ys zs : List Int32} (hk : kd k = 3) (hk1 : kd k1 = 2) (hx : Rw σ k1 xs) (hok : okL rc xs) (hr : rc.toInt ≤ 4) (h12 : xs.length ≤ 12) (hy : Rw σ (k + 1) ys) (hz : Rw σ (k + 3) zs) : MJ l X 8 yX3_fewestMoves cX3_fewestMoves 3 (some .int) [.ref (ad X k), .ref (ad X k1)] σ (PI (fun r τ => fmR xs r ∧ (∃ ys, Se τ k ys) ∧ off (seC k) σ τ)) := by
  refine MJ_of (own := RX3) [some (.ref (ad X k)), some (.ref (ad X k1)), none] (by decide) rfl (Nat.le_of_ble_eq_true rfl) rfl ?_
  obtain ⟨q1, q3, l1, l3⟩ := se_next hk
  refine rj_ald1 dX3_fewestMoves_0 rfl ?_
  refine rj_V0i (ci := 2) cX3_23 rfl (by decide) (by first | assumption | rfl) dX3_fewestMoves_1 (c_X2_signSum hk1 hx) (fitM (by decide) (by decide)) (Nat.le_of_ble_eq_true rfl) ?_
  refine rj_if_eq (tgt := 9) dX3_fewestMoves_4 (by decide) (fun h_4 => ?_) (fun h_4 => ?_)
  · refine rj_ald0 dX3_fewestMoves_9 rfl ?_
    refine g3_14 (by first | assumption | rfl) dX3_fewestMoves_10 ?_
    refine rj_ald1 dX3_fewestMoves_13 rfl ?_
    refine rj_V1 (ci := 2) cX3_27 rfl (by decide) (by first | assumption | rfl) dX3_fewestMoves_14 (c_X2_take q1 hk1 hx (by omega)) (fitM (by decide) (by decide)) (Nat.le_of_ble_eq_true rfl) ?_
    rintro v τ ⟨rfl, hx1, ho1⟩
    simp only [Option.toList, List.nil_append]
    have hz1 : Rw τ (k + 3) zs := hz.off ho1 (fun q => by unfold rowC at q; omega) (fun q => by unfold rowC at q; omega)
    refine rj_ic0 dX3_fewestMoves_17 ?_
    refine rj_ist2 dX3_fewestMoves_18 (by decide) rfl ?_
    exact l_X3_few (by decide) hk (fun r υ h1 h2 h3 => ⟨r, rfl, h1, ⟨_, h2⟩, (ho1.mono (fun a ha => rowC_se1 ha)).tr h3⟩) 5 0 τ (by omega) ⟨by omega, ⟨hx1, zs, hz1⟩, off.rf, fun j hj => absurd hj (by omega)⟩
  · refine rj_icm1 dX3_fewestMoves_7 ?_
    refine rj_iret dX3_fewestMoves_8 ?_
    exact ⟨_, rfl, Or.inr ⟨fun j _ q => h_4 (cob_sgs hr j xs hok q), rfl⟩, ⟨ys, hy, zs, hz⟩, off.rf⟩

/-- how many choices leave n: the crossings still to come, the stack so far, told without signs -/
def ch (n : Nat) : List Int32 → List Int32 → Nat
  | [], s => if s.length = n then 1 else 0
  | c :: r, s => if (r.length + 1 < n - s.length ∨ r.length + 1 < s.length - n) then 0 else match s with
    | [] => 2 * ch n r [iab c]
    | t :: u => if t = iab c then ch n r u + ch n r (iab c :: t :: u) else 2 * ch n r (iab c :: t :: u)
abbrev chQ (σ : ST) (k n : Nat) (r s : List Int32) : Option Value → ST → Prop := fun v τ => v = some (.int (nI (ch n r s))) ∧ Rw τ (k + 3) s.reverse ∧ off (rowC (k + 3)) σ τ
theorem drop_cons {xs : List Int32} {i : Nat} (h : i < xs.length) : xs.drop i = xs.getD i 0 :: xs.drop (i + 1) := by
  rw [List.drop_eq_getElem_cons h, List.getD, List.getElem?_eq_getElem h]; rfl
theorem abs_sub {n s : Nat} (hn : n ≤ 12) (hs : s ≤ 12) : (iab (nI n - nI s)).toInt = (n - s : Nat) + (s - n : Nat) := by
  have e : (nI n - nI s).toInt = (n : Int) - s := pk_sub_toInt (by omega) (by omega)
  unfold iab
  by_cases q : (0 : Int32) ≤ nI n - nI s
  · rw [if_pos q]; have := tle q; rw [t0] at this; omega
  · rw [if_neg q]; have := tnle q; rw [t0] at this; rw [i_sub (by rw [t0]; omega) (by rw [t0]; omega), t0]; omega
theorem take_snocl (l : List Int32) (a : Int32) : (l ++ [a]).take l.length = l := by simp
theorem take_rev (a : Int32) (s : List Int32) : (a :: s).reverse.take s.length = s.reverse := by
  rw [List.reverse_cons]
  have := take_snocl s.reverse a
  rw [List.length_reverse] at this
  exact this
theorem rat_last0 {i : Int32} (h : i.toInt = 0) : rat [] (i - 1) = 0 := by
  unfold rat; rw [if_neg (fun q => by have h1 := q.1; have h2 := q.2; rw [List.length_nil] at h2; omega)]
theorem rat_top {t : Int32} {u : List Int32} (h : u.length < 24) : rat (t :: u).reverse (nI (u.length + 1) - 1) = t := by
  rw [nI_pred, rat_nI (by simp) (by omega), getD_rev_last]
theorem c_X3_choices {l : Launch} {X : CX} {k k1 n : Nat} {xs : List Int32} (hk : kd k = 3) (hk1 : kd k1 = 2) (hne : k1 ≠ k + 3) (h12 : xs.length ≤ 12) (hn : n ≤ 12) (hnz : ∀ i, i < xs.length → ¬ (0 : Int32) = iab (xs.getD i 0)) : ∀ (r i : Nat) (σ : ST) (s : List Int32), i ≤ xs.length → r = xs.length - i → Rw σ k1 xs → Rw σ (k + 3) s.reverse → s.length ≤ i → MJ l X (2 + r) yX3_choicesFrom cX3_choicesFrom 9 (some .int) [.int (nI i), .ref (ad X k1), .int (nI n), .ref (ad X (k + 3))] σ (chQ σ k n (xs.drop i) s) := by
  intro r
  induction r with
  | zero =>
    intro i σ s hi hr hx hs hsi
    have hie : i = xs.length := by omega
    have hdr : xs.drop i = [] := by rw [hie]; exact List.drop_length
    rw [hdr]
    obtain ⟨q1, q3, l1, l3⟩ := se_next hk
    have hsz := hs.1
    have hxs := hx.1
    have hsl : s.length ≤ 12 := by omega
    have hst : σ.1 (k + 3) 1 = nI s.length := by have := hs.size; rw [List.length_reverse] at this; exact this
    have hxt : σ.1 k1 1 = nI xs.length := hx.size
    have hxi : nI xs.length - nI i = nI (xs.length - i) := pk_sub hi
    have habs := abs_sub hn hsl
    have hrt : (nI (xs.length - i)).toInt = (xs.length - i : Nat) := nI_t (by omega)
    have hit : (nI i).toInt = i := nI_t (by omega)
    have hii : nI i + 1 = nI (i + 1) := nI_1 i
    refine MJ_of (own := RX3) [some (.int (nI i)), some (.ref (ad X k1)), some (.int (nI n)), some (.ref (ad X (k + 3))), none, none, none, none, none] (by decide) rfl (Nat.le_of_ble_eq_true rfl) rfl ?_
    refine rj_ild2 dX3_choicesFrom_0 rfl ?_
    refine rj_ald3 dX3_choicesFrom_1 rfl ?_
    refine g3_38 (by first | assumption | rfl) dX3_choicesFrom_2 ?_
    rw [hst]
    refine rj_isub dX3_choicesFrom_5 ?_
    refine rj_abs cX3_53 (fitNM (by first | decide | omega) (Nat.le_of_ble_eq_true rfl)) dX3_choicesFrom_6 ?_
    refine rj_top (x' := iab (nI n - nI (s : List Int32).length)) rfl ?_
    refine rj_ald1 dX3_choicesFrom_9 rfl ?_
    refine g3_38 (by first | assumption | rfl) dX3_choicesFrom_10 ?_
    rw [hxt]
    refine rj_ild0 dX3_choicesFrom_13 rfl ?_
    refine rj_isub dX3_choicesFrom_14 ?_
    rw [hxi]
    refine rj_ic_le (tgt := 20) dX3_choicesFrom_15 (by decide) (fun h_15 => ?_) (fun h_15 => ?_)
    · refine rj_ald1 dX3_choicesFrom_20 rfl ?_
      refine rj_ild0 dX3_choicesFrom_21 rfl ?_
      refine rj_V1i (ci := 2) cX3_59 rfl (by decide) (by first | assumption | rfl) dX3_choicesFrom_22 (c_X2_has hk1 hx.1 hx.2.1) (fitM (by omega) (by decide)) (Nat.le_of_ble_eq_true rfl) ?_
      refine rj_if_ne (tgt := 30) dX3_choicesFrom_25 (by decide) (fun h_25 => ?_) (fun h_25 => ?_)
      · exfalso; have := bz_f h_25; omega
      · have hb_25 := bz_t h_25
        refine rj_ic1 dX3_choicesFrom_28 ?_
        refine rj_iret dX3_choicesFrom_29 ?_
        refine ⟨?_, hs, off.rf⟩
        unfold ch
        rw [if_pos (by omega)]; rfl
    · refine rj_ic0 dX3_choicesFrom_18 ?_
      refine rj_iret dX3_choicesFrom_19 ?_
      refine ⟨?_, hs, off.rf⟩
      unfold ch
      rw [if_neg (by omega)]; rfl
  | succ r ih =>
    intro i σ s hi hr hx hs hsi
    have hdr := drop_cons (xs := xs) (i := i) (by omega)
    have hdl : (xs.drop (i + 1)).length = r := by rw [List.length_drop]; omega
    rw [hdr]
    have hne2 : ∀ τ, off (rowC (k + 3)) σ τ → Rw τ k1 xs := fun τ ho => hx.off ho (fun q => by rcases q with q | q; exact hne q; (have := (row_next (se_next hk).2.1).1; rw [← q] at this; omega)) (fun q => by rcases q with q | q; (have := (se_next hk).2.1; rw [← q] at this; have := (row_next hk1).1; omega); omega)
    obtain ⟨q1, q3, l1, l3⟩ := se_next hk
    have hsz := hs.1
    have hxs := hx.1
    have hsl : s.length ≤ 12 := by omega
    have hst : σ.1 (k + 3) 1 = nI s.length := by have := hs.size; rw [List.length_reverse] at this; exact this
    have hxt : σ.1 k1 1 = nI xs.length := hx.size
    have hxi : nI xs.length - nI i = nI (xs.length - i) := pk_sub hi
    have habs := abs_sub hn hsl
    have hrt : (nI (xs.length - i)).toInt = (xs.length - i : Nat) := nI_t (by omega)
    have hit : (nI i).toInt = i := nI_t (by omega)
    have hii : nI i + 1 = nI (i + 1) := nI_1 i
    refine MJ_of (own := RX3) [some (.int (nI i)), some (.ref (ad X k1)), some (.int (nI n)), some (.ref (ad X (k + 3))), none, none, none, none, none] (by decide) rfl (Nat.le_of_ble_eq_true rfl) rfl ?_
    cases s with
    | nil =>
      have hc0 : ¬ (0 : Int32) = iab (xs.getD i 0) := hnz i (by omega)
      refine rj_ild2 dX3_choicesFrom_0 rfl ?_
      refine rj_ald3 dX3_choicesFrom_1 rfl ?_
      refine g3_38 (by first | assumption | rfl) dX3_choicesFrom_2 ?_
      rw [hst]
      refine rj_isub dX3_choicesFrom_5 ?_
      refine rj_abs cX3_53 (fitNM (by first | decide | omega) (Nat.le_of_ble_eq_true rfl)) dX3_choicesFrom_6 ?_
      refine rj_top (x' := iab (nI n - nI ([] : List Int32).length)) rfl ?_
      refine rj_ald1 dX3_choicesFrom_9 rfl ?_
      refine g3_38 (by first | assumption | rfl) dX3_choicesFrom_10 ?_
      rw [hxt]
      refine rj_ild0 dX3_choicesFrom_13 rfl ?_
      refine rj_isub dX3_choicesFrom_14 ?_
      rw [hxi]
      refine rj_ic_le (tgt := 20) dX3_choicesFrom_15 (by decide) (fun h_15 => ?_) (fun h_15 => ?_)
      · refine rj_ald1 dX3_choicesFrom_20 rfl ?_
        refine rj_ild0 dX3_choicesFrom_21 rfl ?_
        refine rj_V1i (ci := 2) cX3_59 rfl (by decide) (by first | assumption | rfl) dX3_choicesFrom_22 (c_X2_has hk1 hx.1 hx.2.1) (fitM (by omega) (by decide)) (Nat.le_of_ble_eq_true rfl) ?_
        refine rj_if_ne (tgt := 30) dX3_choicesFrom_25 (by decide) (fun h_25 => ?_) (fun h_25 => ?_)
        · have hb_25 := bz_f h_25
          refine rj_ald1 dX3_choicesFrom_30 rfl ?_
          refine rj_ild0 dX3_choicesFrom_31 rfl ?_
          refine rj_V1i (ci := 2) cX3_62 rfl (by decide) (by first | assumption | rfl) dX3_choicesFrom_32 (c_X2_atL hk1 hx) (fitM (by omega) (by decide)) (Nat.le_of_ble_eq_true rfl) ?_
          rw [rat_nI (by omega) (by omega)]
          refine rj_abs cX3_53 (fitNM (by first | decide | omega) (Nat.le_of_ble_eq_true rfl)) dX3_choicesFrom_35 ?_
          refine rj_top (x' := iab (xs.getD i 0)) rfl ?_
          refine rj_ist4w dX3_choicesFrom_38 (by decide) rfl ?_
          refine rj_ald3 dX3_choicesFrom_40 rfl ?_
          refine g3_38 (by first | assumption | rfl) dX3_choicesFrom_41 ?_
          rw [hst]
          refine rj_ist5w dX3_choicesFrom_44 (by decide) rfl ?_
          refine rj_ald3 dX3_choicesFrom_46 rfl ?_
          refine rj_ild dX3_choicesFrom_47 rfl ?_
          refine rj_ic1 dX3_choicesFrom_49 ?_
          refine rj_isub dX3_choicesFrom_50 ?_
          refine rj_V1i (ci := 2) cX3_62 rfl (by decide) (by first | assumption | rfl) dX3_choicesFrom_51 (c_X2_atL q3 hs) (fitM (by omega) (by decide)) (Nat.le_of_ble_eq_true rfl) ?_
          rw [show rat ([] : List Int32).reverse (nI ([] : List Int32).length - 1) = 0 from rat_last0 rfl]
          refine rj_ild dX3_choicesFrom_54 rfl ?_
          refine rj_ic_ne (tgt := 63) dX3_choicesFrom_56 (by decide) (fun h_56 => ?_) (fun h_56 => ?_)
          · refine rj_ic0 dX3_choicesFrom_63 ?_
            refine rj_ist6w dX3_choicesFrom_64 (by decide) rfl ?_
            refine rj_ic0 dX3_choicesFrom_66 ?_
            refine rj_ist7w dX3_choicesFrom_67 (by decide) rfl ?_
            refine rj_ild dX3_choicesFrom_69 rfl ?_
            refine rj_if_eq (tgt := 99) dX3_choicesFrom_71 (by decide) (fun h_71 => ?_) (fun h_71 => ?_)
            · refine rj_ald3 dX3_choicesFrom_99 rfl ?_
              refine rj_ild dX3_choicesFrom_100 rfl ?_
              refine rj_V1 (ci := 2) cX3_65 rfl (by decide) (by first | assumption | rfl) dX3_choicesFrom_102 (c_X2_appendL q3 hs (by rw [l3]; simp only [List.length_reverse, List.length_cons, List.length_nil] at hsi ⊢; omega)) (fitM (by omega) (by decide)) (Nat.le_of_ble_eq_true rfl) ?_
              rintro v τ4 ⟨rfl, hs4, ho4⟩
              simp only [Option.toList, List.nil_append]
              rw [← List.reverse_cons] at hs4
              have ho5 : off (rowC (k + 3)) σ τ4 := ho4
              refine rj_ild0 dX3_choicesFrom_105 rfl ?_
              refine rj_ic1 dX3_choicesFrom_106 ?_
              refine rj_iadd dX3_choicesFrom_107 ?_
              rw [hii]
              refine rj_ald1 dX3_choicesFrom_108 rfl ?_
              refine rj_ild2 dX3_choicesFrom_109 rfl ?_
              refine rj_ald3 dX3_choicesFrom_110 rfl ?_
              refine rj_S4 cX3_49 dX3_choicesFrom_111 (ih (i + 1) τ4 (iab (xs.getD i 0) :: []) (by omega) (by omega) (hne2 τ4 ho5) hs4 (by simp only [List.length_cons, List.length_nil] at hsi ⊢; omega)) (fitM (by omega) (by decide)) (Nat.le_of_ble_eq_true rfl) ?_
              rintro v τ5 ⟨rfl, hs5, ho6⟩
              simp only [Option.toList, List.cons_append, List.nil_append]
              refine rj_ist8w dX3_choicesFrom_114 (by decide) rfl ?_
              refine rj_ald3 dX3_choicesFrom_116 rfl ?_
              refine rj_ild dX3_choicesFrom_117 rfl ?_
              refine rj_V1 (ci := 2) cX3_46 rfl (by decide) (by first | assumption | rfl) dX3_choicesFrom_119 (c_X2_cutToL q3 hs5) (fitM (by omega) (by decide)) (Nat.le_of_ble_eq_true rfl) ?_
              rintro v τ6 ⟨rfl, hs6, ho7⟩
              simp only [Option.toList, List.nil_append]
              rw [nI_t (show ([] : List Int32).length < 2147483648 by simp only [List.length_cons, List.length_nil] at hsl ⊢; omega), Int.toNat_natCast, take_rev] at hs6
              refine rj_ild dX3_choicesFrom_122 rfl ?_
              refine rj_ild dX3_choicesFrom_124 rfl ?_
              refine rj_if_eq (tgt := 134) dX3_choicesFrom_126 (by decide) (fun h_126 => ?_) (fun h_126 => ?_)
              · refine rj_ic2 dX3_choicesFrom_134 ?_
                refine rj_ild dX3_choicesFrom_135 rfl ?_
                refine rj_imul dX3_choicesFrom_137 ?_
                refine rj_iadd dX3_choicesFrom_138 ?_
                refine rj_iret dX3_choicesFrom_139 ?_
                refine ⟨?_, hs6, (ho5.tr ho6).tr ho7⟩
                conv => rhs; unfold ch
                rw [if_neg (by rw [hdl]; simp only [List.length_cons, List.length_nil] at *; omega)]
                show _ = some (Value.int (nI (2 * _)))
                rw [show (2 : Int32) = nI 2 from rfl, pk_mul, show (0 : Int32) = nI 0 from rfl, nI_add, Nat.zero_add]
              · exact absurd rfl h_126
            · exact absurd rfl h_71
          · exfalso; exact hc0 h_56
        · exfalso; have := bz_t h_25; omega
      · refine rj_ic0 dX3_choicesFrom_18 ?_
        refine rj_iret dX3_choicesFrom_19 ?_
        refine ⟨?_, hs, off.rf⟩
        unfold ch
        rw [if_pos (by rw [hdl]; simp only [List.length_cons, List.length_nil] at *; omega)]; rfl
    | cons t u =>
      refine rj_ild2 dX3_choicesFrom_0 rfl ?_
      refine rj_ald3 dX3_choicesFrom_1 rfl ?_
      refine g3_38 (by first | assumption | rfl) dX3_choicesFrom_2 ?_
      rw [hst]
      refine rj_isub dX3_choicesFrom_5 ?_
      refine rj_abs cX3_53 (fitNM (by first | decide | omega) (Nat.le_of_ble_eq_true rfl)) dX3_choicesFrom_6 ?_
      refine rj_top (x' := iab (nI n - nI ((t :: u) : List Int32).length)) rfl ?_
      refine rj_ald1 dX3_choicesFrom_9 rfl ?_
      refine g3_38 (by first | assumption | rfl) dX3_choicesFrom_10 ?_
      rw [hxt]
      refine rj_ild0 dX3_choicesFrom_13 rfl ?_
      refine rj_isub dX3_choicesFrom_14 ?_
      rw [hxi]
      refine rj_ic_le (tgt := 20) dX3_choicesFrom_15 (by decide) (fun h_15 => ?_) (fun h_15 => ?_)
      · refine rj_ald1 dX3_choicesFrom_20 rfl ?_
        refine rj_ild0 dX3_choicesFrom_21 rfl ?_
        refine rj_V1i (ci := 2) cX3_59 rfl (by decide) (by first | assumption | rfl) dX3_choicesFrom_22 (c_X2_has hk1 hx.1 hx.2.1) (fitM (by omega) (by decide)) (Nat.le_of_ble_eq_true rfl) ?_
        refine rj_if_ne (tgt := 30) dX3_choicesFrom_25 (by decide) (fun h_25 => ?_) (fun h_25 => ?_)
        · have hb_25 := bz_f h_25
          refine rj_ald1 dX3_choicesFrom_30 rfl ?_
          refine rj_ild0 dX3_choicesFrom_31 rfl ?_
          refine rj_V1i (ci := 2) cX3_62 rfl (by decide) (by first | assumption | rfl) dX3_choicesFrom_32 (c_X2_atL hk1 hx) (fitM (by omega) (by decide)) (Nat.le_of_ble_eq_true rfl) ?_
          rw [rat_nI (by omega) (by omega)]
          refine rj_abs cX3_53 (fitNM (by first | decide | omega) (Nat.le_of_ble_eq_true rfl)) dX3_choicesFrom_35 ?_
          refine rj_top (x' := iab (xs.getD i 0)) rfl ?_
          refine rj_ist4w dX3_choicesFrom_38 (by decide) rfl ?_
          refine rj_ald3 dX3_choicesFrom_40 rfl ?_
          refine g3_38 (by first | assumption | rfl) dX3_choicesFrom_41 ?_
          rw [hst]
          refine rj_ist5w dX3_choicesFrom_44 (by decide) rfl ?_
          refine rj_ald3 dX3_choicesFrom_46 rfl ?_
          refine rj_ild dX3_choicesFrom_47 rfl ?_
          refine rj_ic1 dX3_choicesFrom_49 ?_
          refine rj_isub dX3_choicesFrom_50 ?_
          refine rj_V1i (ci := 2) cX3_62 rfl (by decide) (by first | assumption | rfl) dX3_choicesFrom_51 (c_X2_atL q3 hs) (fitM (by omega) (by decide)) (Nat.le_of_ble_eq_true rfl) ?_
          rw [show rat (t :: u).reverse (nI (t :: u).length - 1) = t from rat_top (by simp at hsl; omega)]
          refine rj_ild dX3_choicesFrom_54 rfl ?_
          refine rj_ic_ne (tgt := 63) dX3_choicesFrom_56 (by decide) (fun h_56 => ?_) (fun h_56 => ?_)
          · refine rj_ic0 dX3_choicesFrom_63 ?_
            refine rj_ist6w dX3_choicesFrom_64 (by decide) rfl ?_
            refine rj_ic0 dX3_choicesFrom_66 ?_
            refine rj_ist7w dX3_choicesFrom_67 (by decide) rfl ?_
            refine rj_ild dX3_choicesFrom_69 rfl ?_
            refine rj_if_eq (tgt := 99) dX3_choicesFrom_71 (by decide) (fun h_71 => ?_) (fun h_71 => ?_)
            · refine rj_ald3 dX3_choicesFrom_99 rfl ?_
              refine rj_ild dX3_choicesFrom_100 rfl ?_
              refine rj_V1 (ci := 2) cX3_65 rfl (by decide) (by first | assumption | rfl) dX3_choicesFrom_102 (c_X2_appendL q3 hs (by rw [l3]; simp only [List.length_reverse, List.length_cons, List.length_nil] at hsi ⊢; omega)) (fitM (by omega) (by decide)) (Nat.le_of_ble_eq_true rfl) ?_
              rintro v τ4 ⟨rfl, hs4, ho4⟩
              simp only [Option.toList, List.nil_append]
              rw [← List.reverse_cons] at hs4
              have ho5 : off (rowC (k + 3)) σ τ4 := ho4
              refine rj_ild0 dX3_choicesFrom_105 rfl ?_
              refine rj_ic1 dX3_choicesFrom_106 ?_
              refine rj_iadd dX3_choicesFrom_107 ?_
              rw [hii]
              refine rj_ald1 dX3_choicesFrom_108 rfl ?_
              refine rj_ild2 dX3_choicesFrom_109 rfl ?_
              refine rj_ald3 dX3_choicesFrom_110 rfl ?_
              refine rj_S4 cX3_49 dX3_choicesFrom_111 (ih (i + 1) τ4 (iab (xs.getD i 0) :: (t :: u)) (by omega) (by omega) (hne2 τ4 ho5) hs4 (by simp only [List.length_cons, List.length_nil] at hsi ⊢; omega)) (fitM (by omega) (by decide)) (Nat.le_of_ble_eq_true rfl) ?_
              rintro v τ5 ⟨rfl, hs5, ho6⟩
              simp only [Option.toList, List.cons_append, List.nil_append]
              refine rj_ist8w dX3_choicesFrom_114 (by decide) rfl ?_
              refine rj_ald3 dX3_choicesFrom_116 rfl ?_
              refine rj_ild dX3_choicesFrom_117 rfl ?_
              refine rj_V1 (ci := 2) cX3_46 rfl (by decide) (by first | assumption | rfl) dX3_choicesFrom_119 (c_X2_cutToL q3 hs5) (fitM (by omega) (by decide)) (Nat.le_of_ble_eq_true rfl) ?_
              rintro v τ6 ⟨rfl, hs6, ho7⟩
              simp only [Option.toList, List.nil_append]
              rw [nI_t (show ((t :: u) : List Int32).length < 2147483648 by simp only [List.length_cons, List.length_nil] at hsl ⊢; omega), Int.toNat_natCast, take_rev] at hs6
              refine rj_ild dX3_choicesFrom_122 rfl ?_
              refine rj_ild dX3_choicesFrom_124 rfl ?_
              refine rj_if_eq (tgt := 134) dX3_choicesFrom_126 (by decide) (fun h_126 => ?_) (fun h_126 => ?_)
              · refine rj_ic2 dX3_choicesFrom_134 ?_
                refine rj_ild dX3_choicesFrom_135 rfl ?_
                refine rj_imul dX3_choicesFrom_137 ?_
                refine rj_iadd dX3_choicesFrom_138 ?_
                refine rj_iret dX3_choicesFrom_139 ?_
                refine ⟨?_, hs6, (ho5.tr ho6).tr ho7⟩
                conv => rhs; unfold ch
                rw [if_neg (by rw [hdl]; simp only [List.length_cons, List.length_nil] at *; omega)]
                show _ = some (Value.int (nI (if t = iab (xs.getD i 0) then _ else _)))
                rw [if_neg h_56, show (2 : Int32) = nI 2 from rfl, pk_mul, show (0 : Int32) = nI 0 from rfl, nI_add, Nat.zero_add]
              · exact absurd rfl h_126
            · exact absurd rfl h_71
          · refine rj_ic1 dX3_choicesFrom_59 ?_
            refine rj_goto (tgt := 64) dX3_choicesFrom_60 (by decide) ?_
            refine rj_ist6w dX3_choicesFrom_64 (by decide) rfl ?_
            refine rj_ic0 dX3_choicesFrom_66 ?_
            refine rj_ist7w dX3_choicesFrom_67 (by decide) rfl ?_
            refine rj_ild dX3_choicesFrom_69 rfl ?_
            refine rj_if_eq (tgt := 99) dX3_choicesFrom_71 (by decide) (fun h_71 => ?_) (fun h_71 => ?_)
            · exact absurd h_71 (by decide)
            · refine rj_ald3 dX3_choicesFrom_74 rfl ?_
              refine rj_ild dX3_choicesFrom_75 rfl ?_
              refine rj_ic1 dX3_choicesFrom_77 ?_
              refine rj_isub dX3_choicesFrom_78 ?_
              refine rj_V1 (ci := 2) cX3_46 rfl (by decide) (by first | assumption | rfl) dX3_choicesFrom_79 (c_X2_cutToL q3 hs) (fitM (by omega) (by decide)) (Nat.le_of_ble_eq_true rfl) ?_
              rintro v τ1 ⟨rfl, hs1, ho1⟩
              simp only [Option.toList, List.nil_append]
              rw [show (nI (t :: u).length - 1) = nI u.length from nI_pred _, nI_t (show u.length < 2147483648 by simp at hsl; omega), Int.toNat_natCast, take_rev] at hs1
              refine rj_ild0 dX3_choicesFrom_82 rfl ?_
              refine rj_ic1 dX3_choicesFrom_83 ?_
              refine rj_iadd dX3_choicesFrom_84 ?_
              rw [hii]
              refine rj_ald1 dX3_choicesFrom_85 rfl ?_
              refine rj_ild2 dX3_choicesFrom_86 rfl ?_
              refine rj_ald3 dX3_choicesFrom_87 rfl ?_
              refine rj_S4 cX3_49 dX3_choicesFrom_88 (ih (i + 1) τ1 u (by omega) (by omega) (hne2 τ1 ho1) hs1 (by simp at hsi; omega)) (fitM (by omega) (by decide)) (Nat.le_of_ble_eq_true rfl) ?_
              rintro v τ2 ⟨rfl, hs2, ho2⟩
              simp only [Option.toList, List.cons_append, List.nil_append]
              refine rj_ist7w dX3_choicesFrom_91 (by decide) rfl ?_
              refine rj_ald3 dX3_choicesFrom_93 rfl ?_
              refine rj_ild dX3_choicesFrom_94 rfl ?_
              refine rj_V1 (ci := 2) cX3_65 rfl (by decide) (by first | assumption | rfl) dX3_choicesFrom_96 (c_X2_appendL q3 hs2 (by rw [l3]; simp only [List.length_reverse, List.length_cons] at hsl ⊢; omega)) (fitM (by omega) (by decide)) (Nat.le_of_ble_eq_true rfl) ?_
              rintro v τ3 ⟨rfl, hs3, ho3⟩
              simp only [Option.toList, List.nil_append]
              have hoo : off (rowC (k + 3)) σ τ3 := (ho1.tr ho2).tr ho3
              rw [← h_56, ← List.reverse_cons] at hs3
              refine rj_ald3 dX3_choicesFrom_99 rfl ?_
              refine rj_ild dX3_choicesFrom_100 rfl ?_
              refine rj_V1 (ci := 2) cX3_65 rfl (by decide) (by first | assumption | rfl) dX3_choicesFrom_102 (c_X2_appendL q3 hs3 (by rw [l3]; simp only [List.length_reverse, List.length_cons, List.length_nil] at hsi ⊢; omega)) (fitM (by omega) (by decide)) (Nat.le_of_ble_eq_true rfl) ?_
              rintro v τ4 ⟨rfl, hs4, ho4⟩
              simp only [Option.toList, List.nil_append]
              rw [← List.reverse_cons] at hs4
              have ho5 : off (rowC (k + 3)) σ τ4 := hoo.tr ho4
              refine rj_ild0 dX3_choicesFrom_105 rfl ?_
              refine rj_ic1 dX3_choicesFrom_106 ?_
              refine rj_iadd dX3_choicesFrom_107 ?_
              rw [hii]
              refine rj_ald1 dX3_choicesFrom_108 rfl ?_
              refine rj_ild2 dX3_choicesFrom_109 rfl ?_
              refine rj_ald3 dX3_choicesFrom_110 rfl ?_
              refine rj_S4 cX3_49 dX3_choicesFrom_111 (ih (i + 1) τ4 (iab (xs.getD i 0) :: (t :: u)) (by omega) (by omega) (hne2 τ4 ho5) hs4 (by simp only [List.length_cons, List.length_nil] at hsi ⊢; omega)) (fitM (by omega) (by decide)) (Nat.le_of_ble_eq_true rfl) ?_
              rintro v τ5 ⟨rfl, hs5, ho6⟩
              simp only [Option.toList, List.cons_append, List.nil_append]
              refine rj_ist8w dX3_choicesFrom_114 (by decide) rfl ?_
              refine rj_ald3 dX3_choicesFrom_116 rfl ?_
              refine rj_ild dX3_choicesFrom_117 rfl ?_
              refine rj_V1 (ci := 2) cX3_46 rfl (by decide) (by first | assumption | rfl) dX3_choicesFrom_119 (c_X2_cutToL q3 hs5) (fitM (by omega) (by decide)) (Nat.le_of_ble_eq_true rfl) ?_
              rintro v τ6 ⟨rfl, hs6, ho7⟩
              simp only [Option.toList, List.nil_append]
              rw [nI_t (show ((t :: u) : List Int32).length < 2147483648 by simp only [List.length_cons, List.length_nil] at hsl ⊢; omega), Int.toNat_natCast, take_rev] at hs6
              refine rj_ild dX3_choicesFrom_122 rfl ?_
              refine rj_ild dX3_choicesFrom_124 rfl ?_
              refine rj_if_eq (tgt := 134) dX3_choicesFrom_126 (by decide) (fun h_126 => ?_) (fun h_126 => ?_)
              · exact absurd h_126 (by decide)
              · refine rj_ild dX3_choicesFrom_129 rfl ?_
                refine rj_goto (tgt := 138) dX3_choicesFrom_131 (by decide) ?_
                refine rj_iadd dX3_choicesFrom_138 ?_
                refine rj_iret dX3_choicesFrom_139 ?_
                refine ⟨?_, hs6, (ho5.tr ho6).tr ho7⟩
                conv => rhs; unfold ch
                rw [if_neg (by rw [hdl]; simp only [List.length_cons, List.length_nil] at *; omega)]
                show _ = some (Value.int (nI (if t = iab (xs.getD i 0) then _ else _)))
                rw [if_pos h_56, nI_add]
        · exfalso; have := bz_t h_25; omega
      · refine rj_ic0 dX3_choicesFrom_18 ?_
        refine rj_iret dX3_choicesFrom_19 ?_
        refine ⟨?_, hs, off.rf⟩
        unfold ch
        rw [if_pos (by rw [hdl]; simp only [List.length_cons, List.length_nil] at *; omega)]; rfl
set_option maxRecDepth 100000 in
theorem c_X3_rowsLeaving {l : Launch} {X : CX} {σ : ST} {k k1 n : Nat} {xs ys : List Int32} (hk : kd k = 3) (hk1 : kd k1 = 2) (hne : k1 ≠ k + 3) (h12 : xs.length ≤ 12) (hn : n ≤ 12) (hnz : ∀ i, i < xs.length → ¬ (0 : Int32) = iab (xs.getD i 0)) (hx : Rw σ k1 xs) (hy : Rw σ (k + 3) ys) : MJ l X 15 yX3_rowsLeaving cX3_rowsLeaving 3 (some .int) [.ref (ad X k), .ref (ad X k1), .int (nI n)] σ (PI (fun r τ => r = nI (ch n xs []) ∧ (∃ ys, Rw τ (k + 3) ys) ∧ off (rowC (k + 3)) σ τ)) := by
  refine MJ_of (own := RX3) [some (.ref (ad X k)), some (.ref (ad X k1)), some (.int (nI n))] (by decide) rfl (Nat.le_of_ble_eq_true rfl) rfl ?_
  obtain ⟨q1, q3, l1, l3⟩ := se_next hk
  refine rj_ald0 dX3_rowsLeaving_0 rfl ?_
  refine g3_20 (by first | assumption | rfl) dX3_rowsLeaving_1 ?_
  refine rj_ic0 dX3_rowsLeaving_4 ?_
  refine rj_V1 (ci := 2) cX3_46 rfl (by decide) (by first | assumption | rfl) dX3_rowsLeaving_5 (c_X2_cutToL q3 hy) (fitM (by omega) (by decide)) (Nat.le_of_ble_eq_true rfl) ?_
  rintro v τ ⟨rfl, hs1, ho1⟩
  simp only [Option.toList, List.nil_append]
  have hx1 : Rw τ k1 xs := hx.off ho1 (fun q => by rcases q with q | q; exact hne q; (have := (row_next q3).1; rw [← q] at this; omega)) (fun q => by rcases q with q | q; (rw [← q] at q3; have := (row_next hk1).1; omega); omega)
  rw [show (0 : Int32).toInt.toNat = 0 from rfl, List.take_zero] at hs1
  refine rj_ic0 dX3_rowsLeaving_8 ?_
  refine rj_ald1 dX3_rowsLeaving_9 rfl ?_
  refine rj_ild2 dX3_rowsLeaving_10 rfl ?_
  refine rj_ald0 dX3_rowsLeaving_11 rfl ?_
  refine g3_20 (by first | assumption | rfl) dX3_rowsLeaving_12 ?_
  refine rj_S4 cX3_49 dX3_rowsLeaving_15 (c_X3_choices hk hk1 hne h12 hn hnz (xs.length - 0) 0 τ [] (by omega) rfl hx1 hs1 (by simp)) (fitM (by omega) (by decide)) (Nat.le_of_ble_eq_true rfl) ?_
  rintro v υ ⟨rfl, hs2, ho2⟩
  simp only [Option.toList, List.cons_append, List.nil_append]
  refine rj_iret dX3_rowsLeaving_18 ?_
  exact ⟨_, rfl, by rw [List.drop_zero], ⟨_, hs2⟩, ho1.tr ho2⟩

