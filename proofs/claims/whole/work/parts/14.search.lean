/-! searches -/
theorem se_all : ∀ k, k < 129 → kd k = 3 → (kd (k + 1) = 2 ∧ kd (k + 3) = 2 ∧ ln (k + 1 + 1) = 12 ∧ ln (k + 3 + 1) = 12) := by decide +kernel
theorem se_next {k : Nat} (h : kd k = 3) : kd (k + 1) = 2 ∧ kd (k + 3) = 2 ∧ ln (k + 1 + 1) = 12 ∧ ln (k + 3 + 1) = 12 := se_all k (kd_lt (by omega)) h
def seC (k : Nat) : Nat → Prop := fun a => k < a ∧ a < k + 5
theorem rowC_se1 {k a : Nat} (h : rowC (k + 1) a) : seC k a := by unfold rowC at h; unfold seC; omega
theorem rowC_se3 {k a : Nat} (h : rowC (k + 3) a) : seC k a := by unfold rowC at h; unfold seC; omega
theorem dst_sym (a b : Int32) : (dst a b).toInt = (dst b a).toInt := by
  unfold dst
  have e : iab b - iab a = 0 - (iab a - iab b) := by
    apply Int32.toBitVec_inj.mp; simp; bv_omega
  rw [e]
  generalize iab a - iab b = x
  unfold iab
  by_cases h : (0 : Int32) ≤ x
  · rw [if_pos h]
    have h1 := tle h
    rw [t0] at h1
    by_cases h0 : x.toInt = 0
    · have : x = 0 := i_inj (by rw [h0, t0]); rw [this]; decide
    · have h2 : (0 - x).toInt = -x.toInt := by have := i_hi x; rw [i_sub (by rw [t0]; omega) (by rw [t0]; omega), t0]; omega
      rw [if_neg (fun q => by have := tle q; rw [t0] at this; omega), i_sub (by rw [t0]; omega) (by rw [t0]; have := i_hi x; omega), t0, h2]; omega
  · rw [if_neg h]
    have h1 := tnle h
    rw [t0] at h1
    by_cases hm : x.toInt = -2147483648
    · have : x = -2147483648 := i_inj (by rw [hm]; decide); rw [this]; decide
    · have h2 : (0 - x).toInt = -x.toInt := by have := i_lo x; rw [i_sub (by rw [t0]; omega) (by rw [t0]; omega), t0]; omega
      rw [if_pos (Int32.le_iff_toInt_le.mpr (by rw [t0, h2]; omega))]
theorem getD_setI (l : List Int32) (j i : Nat) (v : Int32) (hj : j < l.length) : (l.set j v).getD i 0 = if i = j then v else l.getD i 0 := by
  by_cases h : i = j
  · subst h; simp [List.getD, hj]
  · simp [List.getD, List.getElem?_set, Ne.symm h, h]
theorem msl_get {xs : List Int32} {j : Nat} (h : j + 1 < xs.length) (i : Nat) : (msl xs j).getD i 0 = if i = j + 1 then xs.getD j 0 else if i = j then xs.getD (j + 1) 0 else xs.getD i 0 := by
  unfold msl
  rw [getD_setI _ _ _ _ (by simp; omega)]
  by_cases q : i = j + 1
  · rw [if_pos q, if_pos q]
  · rw [if_neg q, if_neg q, getD_setI _ _ _ _ (by omega)]
theorem mth_get {xs : List Int32} {j : Nat} (h : j + 2 < xs.length) (i : Nat) : (mth xs j).getD i 0 = if i = j + 2 then xs.getD (j + 1) 0 else if i = j + 1 then xs.getD j 0 else if i = j then xs.getD (j + 1) 0 else xs.getD i 0 := by
  unfold mth
  rw [getD_setI _ _ _ _ (by simp; omega)]
  by_cases q : i = j + 2
  · rw [if_pos q, if_pos q]
  · rw [if_neg q, if_neg q, getD_setI _ _ _ _ (by simp; omega)]
    by_cases z : i = j + 1
    · rw [if_pos z, if_pos z]
    · rw [if_neg z, if_neg z, getD_setI _ _ _ _ (by omega)]
theorem csl_msl {xs : List Int32} {j : Nat} (h : csl xs j) : csl (msl xs j) j := by
  refine ⟨by rw [msl_len]; exact h.1, ?_⟩
  rw [msl_get h.1, msl_get h.1, if_neg (by omega), if_pos rfl, if_pos rfl, dst_sym]
  exact h.2
theorem msl_msl {xs : List Int32} {j : Nat} (h : csl xs j) : msl (msl xs j) j = xs := by
  apply getD_ext
  · rw [msl_len, msl_len]
  · intro i hi
    have h1 : j + 1 < (msl xs j).length := by rw [msl_len]; exact h.1
    rw [msl_get h1]
    by_cases q : i = j + 1
    · rw [if_pos q, msl_get h.1, if_neg (by omega), if_pos rfl, q]
    · rw [if_neg q]
      by_cases z : i = j
      · rw [if_pos z, msl_get h.1, if_pos rfl, z]
      · rw [if_neg z, msl_get h.1, if_neg q, if_neg z]
theorem cth_mth {xs : List Int32} {j : Nat} (h : cth xs j) : cth (mth xs j) j := by
  obtain ⟨h1, h2, h3, h4⟩ := h
  refine ⟨by rw [mth_len]; exact h1, ?_, ?_, ?_⟩
  · rw [mth_get h1, mth_get h1, if_neg (by omega), if_neg (by omega), if_pos rfl, if_pos rfl]
  · rw [mth_get h1, mth_get h1, if_neg (by omega), if_neg (by omega), if_pos rfl, if_neg (by omega), if_pos rfl]; exact h3.symm
  · rw [mth_get h1, mth_get h1, if_neg (by omega), if_neg (by omega), if_pos rfl, if_neg (by omega), if_pos rfl]
    exact i_inj (by rw [dst_sym, h4])
theorem mth_mth {xs : List Int32} {j : Nat} (h : cth xs j) : mth (mth xs j) j = xs := by
  obtain ⟨h1, h2, h3, h4⟩ := h
  apply getD_ext
  · rw [mth_len, mth_len]
  · intro i hi
    have g1 : j + 2 < (mth xs j).length := by rw [mth_len]; exact h1
    rw [mth_get g1]
    by_cases q : i = j + 2
    · rw [if_pos q, mth_get h1, if_neg (by omega), if_pos rfl, q, h2]
    · rw [if_neg q]
      by_cases z : i = j + 1
      · rw [if_pos z, mth_get h1, if_neg (by omega), if_neg (by omega), if_pos rfl, z]
      · rw [if_neg z]
        by_cases y : i = j
        · rw [if_pos y, mth_get h1, if_neg (by omega), if_pos rfl, y]
        · rw [if_neg y, mth_get h1, if_neg q, if_neg z, if_neg y]
theorem csl_cth {xs : List Int32} {j : Nat} (h : cth xs j) : ¬ csl xs j := fun q => by
  have := q.2
  rw [h.2.2.2] at this
  exact absurd this (by decide)
theorem mv_mv {xs : List Int32} {j : Nat} (h : csl xs j ∨ cth xs j) : mv (mv xs j) j = xs := by
  by_cases q : csl xs j
  · unfold mv; rw [if_pos q, if_pos (csl_msl q), msl_msl q]
  · have z := h.resolve_left q
    unfold mv; rw [if_neg q, if_pos z, if_neg (csl_cth (cth_mth z)), if_pos (cth_mth z), mth_mth z]
theorem mv_can {xs : List Int32} {j : Nat} (h : csl xs j ∨ cth xs j) : csl (mv xs j) j ∨ cth (mv xs j) j := by
  by_cases q : csl xs j
  · unfold mv; rw [if_pos q]; exact Or.inl (csl_msl q)
  · have z := h.resolve_left q
    unfold mv; rw [if_neg q, if_pos z]; exact Or.inr (cth_mth z)
/-- some n moves, one behind the other, behind which nothing is left -/
def cob : Nat → List Int32 → Prop
  | 0, xs => redR xs = []
  | n + 1, xs => ∃ j, j < xs.length ∧ (csl xs j ∨ cth xs j) ∧ cob n (mv xs j)
noncomputable def bP (p : Prop) : Int32 := if Classical.propDecidable p |>.decide then 1 else 0
theorem bP_t {p : Prop} (h : p) : bP p = 1 := by unfold bP; simp [h]
theorem bP_f {p : Prop} (h : ¬ p) : bP p = 0 := by unfold bP; simp [h]
theorem bP_z {p : Prop} (h : bP p = 0) : ¬ p := fun q => by rw [bP_t q] at h; exact absurd h (by decide)
theorem bP_nz {p : Prop} (h : ¬ bP p = 0) : p := Classical.byContradiction (fun q => h (bP_f q))
theorem bP_n (p : Prop) : narrow .boolean (.int (bP p)) = .int (bP p) := by
  by_cases h : p
  · rw [bP_t h]; rfl
  · rw [bP_f h]; rfl
/-- the search's two rows -/
def Se (σ : ST) (k : Nat) (xs : List Int32) : Prop := Rw σ (k + 1) xs ∧ ∃ ys, Rw σ (k + 3) ys
abbrev seQ (σ : ST) (k : Nat) (xs : List Int32) (p : Prop) : Option Value → ST → Prop := fun v τ => v = some (.int (bP p)) ∧ Se τ k xs ∧ off (seC k) σ τ
set_option maxRecDepth 100000 in
theorem c_X3_comes0 {l : Launch} {X : CX} {σ : ST} {k : Nat} {xs : List Int32} (hk : kd k = 3) (hS : Se σ k xs) : MJ l X 4 yX3_comesOutBy cX3_comesOutBy 4 (some .boolean) [.ref (X.2.2.1 + k), .int 0] σ (seQ σ k xs (redR xs = [])) := by
  refine MJ_of (own := RX3) [some (.ref (X.2.2.1 + k)), some (.int 0), none, none] (by decide) rfl (Nat.le_of_ble_eq_true rfl) rfl ?_
  obtain ⟨k1, k3, l1, l3⟩ := se_next hk
  obtain ⟨hx, ys, hy⟩ := hS
  have h12 := hx.2.1
  refine rj_ild1 dX3_comesOutBy_0 rfl ?_
  refine rj_if_gt (tgt := 38) dX3_comesOutBy_1 (by decide) (fun h_1 => ?_) (fun h_1 => ?_)
  · exfalso; rw [t0] at h_1; omega
  · refine rj_ald0 dX3_comesOutBy_4 rfl ?_
    refine g3_20 (by first | assumption | rfl) dX3_comesOutBy_5 ?_
    refine rj_ald0 dX3_comesOutBy_8 rfl ?_
    refine g3_14 (by first | assumption | rfl) dX3_comesOutBy_9 ?_
    refine rj_V1 (ci := 2) cX3_27 rfl (by decide) (by first | assumption | rfl) dX3_comesOutBy_12 (c_X2_take k3 k1 hx (by omega)) (fitM (by decide) (by decide)) (Nat.le_of_ble_eq_true rfl) ?_
    rintro v τ ⟨rfl, hx1, ho1⟩
    simp only [Option.toList, List.nil_append]
    refine rj_ald0 dX3_comesOutBy_15 rfl ?_
    refine g3_20 (by first | assumption | rfl) dX3_comesOutBy_16 ?_
    refine rj_V0 (ci := 2) cX3_35 rfl (by decide) (by first | assumption | rfl) dX3_comesOutBy_19 (c_X2_tighten k3 hx1) (fitM (by decide) (by decide)) (Nat.le_of_ble_eq_true rfl) ?_
    rintro v υ ⟨rfl, hx2, ho2⟩
    simp only [Option.toList, List.nil_append]
    have hoo : off (rowC (k + 3)) σ υ := ho1.tr ho2
    have hxf : Rw υ (k + 1) xs := hx.off hoo (fun q => by unfold rowC at q; omega) (fun q => by unfold rowC at q; omega)
    have hs2 := hx2.1
    refine rj_ald0 dX3_comesOutBy_22 rfl ?_
    refine g3_20 (by first | assumption | rfl) dX3_comesOutBy_23 ?_
    refine g3_38 (by first | assumption | rfl) dX3_comesOutBy_26 ?_
    refine rj_if_ne (tgt := 36) dX3_comesOutBy_29 (by decide) (fun h_29 => ?_) (fun h_29 => ?_)
    · refine rj_ic0 dX3_comesOutBy_36 ?_
      refine rj_zret dX3_comesOutBy_37 (rfl) ?_
      refine ⟨?_, ⟨hxf, _, hx2⟩, hoo.mono (fun a ha => rowC_se3 ha)⟩
      rw [bP_f]
      intro q
      apply h_29
      apply i_inj
      rw [hs2, t0]
      simp [red, q]
    · refine rj_ic1 dX3_comesOutBy_32 ?_
      refine rj_goto (tgt := 37) dX3_comesOutBy_33 (by decide) ?_
      refine rj_zret dX3_comesOutBy_37 (rfl) ?_
      refine ⟨?_, ⟨hxf, _, hx2⟩, hoo.mono (fun a ha => rowC_se3 ha)⟩
      rw [bP_t]
      rw [h_29, t0] at hs2
      exact List.length_eq_zero_iff.mp (by simpa [red] using hs2.symm)

set_option maxRecDepth 100000 in
theorem l_X3_comes {l : Launch} {X : CX} {h m : Nat} {Q : Option Value → ST → Prop} {σ : ST} {k : Nat} {xs : List Int32} (hh : 4 + m < h) (hm : m < 100) (hk : kd k = 3) (h12 : xs.length ≤ 12) (hrec : ∀ (σ : ST) (zs : List Int32), Se σ k zs → MJ l X (4 + m) yX3_comesOutBy cX3_comesOutBy 4 (some .boolean) [.ref (X.2.2.1 + k), .int (nI m)] σ (seQ σ k zs (cob m zs))) (hQ : ∀ τ, Se τ k xs → off (seC k) σ τ → Q (some (.int (bP (cob (m + 1) xs)))) τ) : ∀ (N i : Nat) (τ : ST) (a3 : Option Value), xs.length < i + N → (i ≤ xs.length ∧ Se τ k xs ∧ off (seC k) σ τ ∧ ∀ j, j < i → ¬ ((csl xs j ∨ cth xs j) ∧ cob m (mv xs j))) → RJ (GM l X h Q) X cX3_comesOutBy 4 (some .boolean) RX3 40 [some (.ref (X.2.2.1 + k)), some (.int (nI (m + 1))), some (.int (nI i)), a3] [] τ := by
  intro N
  induction N with
  | zero => intro i τ a3 hN hi; have := hi.1; exact absurd hN (by omega)
  | succ N ih =>
    intro i τ a3 hN hi
    obtain ⟨hi, hS, ho, hno⟩ := hi
    obtain ⟨k1, k3, l1, l3⟩ := se_next hk
    obtain ⟨hx, ys, hy⟩ := id hS
    have hsz := hx.1
    have hit := nIt (i := i) (by omega)
    have hmm : nI (m + 1) - 1 = nI m := nI_pred m
    have hmt : (nI (m + 1)).toInt = (m + 1 : Nat) := nI_t (by omega)
    refine rj_ild2 dX3_comesOutBy_40 rfl ?_
    refine rj_ald0 dX3_comesOutBy_41 rfl ?_
    refine g3_14 (by first | assumption | rfl) dX3_comesOutBy_42 ?_
    refine g3_38 (by first | assumption | rfl) dX3_comesOutBy_45 ?_
    refine rj_ic_ge (tgt := 91) dX3_comesOutBy_48 (by decide) (fun h_48 => ?_) (fun h_48 => ?_)
    · refine rj_ic0 dX3_comesOutBy_91 ?_
      refine rj_zret dX3_comesOutBy_92 (rfl) ?_
      have := hQ τ hS ho
      rw [bP_f (fun ⟨j, hj, q⟩ => hno j (by omega) q)] at this
      exact this
    · refine rj_ald0 dX3_comesOutBy_51 rfl ?_
      refine g3_14 (by first | assumption | rfl) dX3_comesOutBy_52 ?_
      refine rj_ild2 dX3_comesOutBy_55 rfl ?_
      refine rj_V1 (ci := 2) cX3_42 rfl (by decide) (by first | assumption | rfl) dX3_comesOutBy_56 (c_X2_makeMove k1 hx hit) (fitM (by omega) (by decide)) (Nat.le_of_ble_eq_true rfl) ?_
      rintro v υ ⟨rfl, hx1, ho1⟩
      simp only [Option.toList, List.cons_append, List.nil_append]
      have hy1 : Rw υ (k + 3) ys := hy.off ho1 (fun q => by unfold rowC at q; omega) (fun q => by unfold rowC at q; omega)
      refine rj_if_eq (tgt := 85) dX3_comesOutBy_59 (by decide) (fun h_59 => ?_) (fun h_59 => ?_)
      · have hb_59 := bz_t h_59
        have hx0 : mv xs i = xs := by unfold mv; rw [if_neg (fun q => hb_59 (Or.inl q)), if_neg (fun q => hb_59 (Or.inr q))]
        rw [hx0] at hx1
        refine rj_iinc2 (d := 1) dX3_comesOutBy_85 (by decide) rfl (by decide) ?_
        rw [nI_1]
        refine rj_goto (tgt := 40) dX3_comesOutBy_88 (by decide) ?_
        exact ih (i + 1) υ _ (by omega) ⟨by omega, ⟨hx1, ys, hy1⟩, ho.tr (ho1.mono (fun a ha => rowC_se1 ha)), fun j hj => by rcases Nat.lt_or_ge j i with q | q; exact hno j q; rw [show j = i by omega]; exact fun z => hb_59 z.1⟩
      · have hb_59 := bz_f h_59
        refine rj_ald0 dX3_comesOutBy_62 rfl ?_
        refine rj_ild1 dX3_comesOutBy_63 rfl ?_
        refine rj_ic1 dX3_comesOutBy_64 ?_
        refine rj_isub dX3_comesOutBy_65 ?_
        rw [hmm]
        refine rj_V1 (ci := 3) cX3_31 rfl (by decide) (by first | assumption | rfl) dX3_comesOutBy_66 (hrec υ (mv xs i) ⟨hx1, ys, hy1⟩) (fitM (by omega) (by decide)) (Nat.le_of_ble_eq_true rfl) ?_
        rintro v φ ⟨rfl, ⟨hx2, zs, hz2⟩, ho2⟩
        simp only [Option.toList, List.cons_append, List.nil_append]
        refine rj_ist3 dX3_comesOutBy_69 (by decide) rfl ?_
        refine rj_ald0 dX3_comesOutBy_70 rfl ?_
        refine g3_14 (by first | assumption | rfl) dX3_comesOutBy_71 ?_
        refine rj_ild2 dX3_comesOutBy_74 rfl ?_
        refine rj_V1 (ci := 2) cX3_42 rfl (by decide) (by first | assumption | rfl) dX3_comesOutBy_75 (c_X2_makeMove k1 hx2 hit) (fitM (by omega) (by decide)) (Nat.le_of_ble_eq_true rfl) ?_
        rintro v ψ ⟨rfl, hx3, ho3⟩
        simp only [Option.toList, List.cons_append, List.nil_append]
        have hz3 : Rw ψ (k + 3) zs := hz2.off ho3 (fun q => by unfold rowC at q; omega) (fun q => by unfold rowC at q; omega)
        rw [mv_mv hb_59] at hx3
        have hoo : off (seC k) σ ψ := ((ho.tr (ho1.mono (fun a ha => rowC_se1 ha))).tr ho2).tr (ho3.mono (fun a ha => rowC_se1 ha))
        refine rj_pop dX3_comesOutBy_78 rfl ?_
        refine rj_ild3 dX3_comesOutBy_79 rfl ?_
        refine rj_if_eq (tgt := 85) dX3_comesOutBy_80 (by decide) (fun h_80 => ?_) (fun h_80 => ?_)
        · have hn := bP_z h_80
          refine rj_iinc2 (d := 1) dX3_comesOutBy_85 (by decide) rfl (by decide) ?_
          rw [nI_1]
          refine rj_goto (tgt := 40) dX3_comesOutBy_88 (by decide) ?_
          exact ih (i + 1) ψ _ (by omega) ⟨by omega, ⟨hx3, zs, hz3⟩, hoo, fun j hj => by rcases Nat.lt_or_ge j i with q | q; exact hno j q; rw [show j = i by omega]; exact fun z => hn z.2⟩
        · have hp := bP_nz h_80
          refine rj_ic1 dX3_comesOutBy_83 ?_
          refine rj_zret dX3_comesOutBy_84 (rfl) ?_
          have := hQ ψ ⟨hx3, zs, hz3⟩ hoo
          rw [bP_t ⟨i, by omega, hb_59, hp⟩] at this
          exact this

theorem c_X3_comesOutBy {l : Launch} {X : CX} {k : Nat} (hk : kd k = 3) : ∀ (m : Nat), m < 100 → ∀ (σ : ST) (xs : List Int32), Se σ k xs → MJ l X (4 + m) yX3_comesOutBy cX3_comesOutBy 4 (some .boolean) [.ref (X.2.2.1 + k), .int (nI m)] σ (seQ σ k xs (cob m xs)) := by
  intro m
  induction m with
  | zero => intro _ σ xs hS; exact c_X3_comes0 hk hS
  | succ m ih =>
    intro hm σ xs hS
    have hrec := ih (by omega)
    have h12 : xs.length ≤ 12 := by have := hS.1.2.1; rw [(se_next hk).2.2.1] at this; exact this
    have hmt : (nI (m + 1)).toInt = (m + 1 : Nat) := nI_t (by omega)
    refine MJ_of (own := RX3) [some (.ref (X.2.2.1 + k)), some (.int (nI (m + 1))), none, none] (by decide) rfl (Nat.le_of_ble_eq_true rfl) rfl ?_
    refine rj_ild1 dX3_comesOutBy_0 rfl ?_
    refine rj_if_gt (tgt := 38) dX3_comesOutBy_1 (by decide) (fun h_1 => ?_) (fun h_1 => ?_)
    · refine rj_ic0 dX3_comesOutBy_38 ?_
      refine rj_ist2 dX3_comesOutBy_39 (by decide) rfl ?_
      exact l_X3_comes (h := 4 + (m + 1)) (by omega) (by omega) hk h12 hrec (fun τ h1 h2 => ⟨rfl, h1, h2⟩) (xs.length + 1) 0 σ _ (by omega) ⟨by omega, hS, off.rf, fun j hj => absurd hj (by omega)⟩
    · exfalso; omega
/-- the fewest moves, 0 to 3, or -1 -/
noncomputable def fmv3 (xs : List Int32) : Int32 := if sgs xs = 0 then (if bP (cob 0 xs) = 1 then 0 else if bP (cob 1 xs) = 1 then 1 else if bP (cob 2 xs) = 1 then 2 else if bP (cob 3 xs) = 1 then 3 else -1) else -1
