/-! the reference: crossings -/
/-- a tie found by its number -/
theorem mt_in {A : SA} {t : Int32} (h : 0 ≤ t.toInt ∧ t.toInt < A.2.1.2.2.length) : ∃ j : Nat, t.toInt = j ∧ j < A.2.1.2.2.length := ⟨t.toInt.toNat, by omega, by omega⟩
theorem mr_tie {σ τ : ST} {A : SA} {j : Nat} {k : Int32} {xs : List Int32} (h : MR σ A) (hj : j < A.2.1.2.2.length) (ho : off (fun a => a = 113) σ τ) (hb : ∀ b, b < 3 + 14 * j ∨ 17 + 14 * j ≤ b → τ.1 113 b = σ.1 113 b) (h1 : τ.1 113 (3 + 14 * j) = k) (h2 : τ.1 113 (4 + 14 * j) = nI xs.length) (h3 : xs.length ≤ 12) (h4 : ∀ i, i < xs.length → τ.1 113 (5 + 14 * j + i) = xs.getD i 0) : MR τ (sT A j (k, xs)) ∧ off mdP σ τ :=
  mr_row h (fm_tie h.1 hj hb h1 h2 h3 h4) ho rfl
set_option maxRecDepth 100000 in
theorem c_X12_addCrossing {l : Launch} {X : CX} {σ : ST} {A : SA} (hM : MR σ A) {t : Int32} {j : Nat} (ht : t.toInt = j) (hj : j < A.2.1.2.2.length) {c : Int32} (hl : (fT A j).2.length < 12) : MJ l X 2 yX12_addCrossing cX12_addCrossing 3 none [.ref (ad X 112), .int t, .int c] σ (PV (fun τ => MR τ (sT A j ((fT A j).1, (fT A j).2 ++ [c])) ∧ off mdP σ τ)) := by
  refine MJ_of (own := RX12) [some (.ref (ad X 112)), some (.int t), some (.int c)] (by decide) rfl (Nat.le_of_ble_eq_true rfl) rfl ?_
  have h8 := hM.1.2.2.2.1
  obtain ⟨f1, f2, f3, f4⟩ := hM.1.2.2.2.2 j hj
  have f5 : (fT A j).2.length ≤ 12 := f3
  have f6 : σ.1 113 (4 + 14 * j) = nI (fT A j).2.length := f2
  have hq1 := at_s (b := 1) ht (by omega) (by omega)
  have hq2 := at_s (b := 2 + (fT A j).2.length) ht (by omega) (by omega)
  have e2 : (2 : Int32) + nI (fT A j).2.length = nI (2 + (fT A j).2.length) := by rw [show (2 : Int32) = nI 2 from rfl, nI_add]
  refine rj_ald0 dX12_addCrossing_0 rfl ?_
  refine g12_7 dX12_addCrossing_1 ?_
  refine rj_ild1 dX12_addCrossing_4 rfl ?_
  refine rj_ic2 dX12_addCrossing_5 ?_
  refine rj_ald0 dX12_addCrossing_6 rfl ?_
  refine rj_ild1 dX12_addCrossing_7 rfl ?_
  refine rj_V1i (ci := 12) cX12_82 rfl (by decide) (by first | assumption | rfl) dX12_addCrossing_8 (c_X12_sizeOfRow hM ht hj) (fitM (by decide) (by decide)) (Nat.le_of_ble_eq_true rfl) ?_
  refine rj_iadd dX12_addCrossing_11 ?_
  rw [e2]
  refine rj_S2i cX12_64 dX12_addCrossing_12 c_X12_at (fitM (by decide) (by decide)) (Nat.le_of_ble_eq_true rfl) ?_
  refine rj_ild2 dX12_addCrossing_15 rfl ?_
  refine rj_iast (by first | assumption | rfl) (vpi (by omega) (by show _ < ((115 : Nat) : Int); omega)) dX12_addCrossing_16 ?_
  rw [hq2.2]
  refine rj_ald0 dX12_addCrossing_17 rfl ?_
  refine g12_7 dX12_addCrossing_18 ?_
  refine rj_ild1 dX12_addCrossing_21 rfl ?_
  refine rj_ic1 dX12_addCrossing_22 ?_
  rw [show (1 : Int32) = nI 1 from rfl]
  refine rj_S2i cX12_64 dX12_addCrossing_23 c_X12_at (fitM (by decide) (by decide)) (Nat.le_of_ble_eq_true rfl) ?_
  refine rj_dup2 dX12_addCrossing_26 rfl rfl ?_
  refine rj_iald (by first | assumption | rfl) (vpi (by omega) (by show _ < ((115 : Nat) : Int); omega)) dX12_addCrossing_27 ?_
  rw [hq1.2]
  refine rj_ic1 dX12_addCrossing_28 ?_
  refine rj_iadd dX12_addCrossing_29 ?_
  refine rj_iast (by first | assumption | rfl) (vpi (by omega) (by show _ < ((115 : Nat) : Int); omega)) dX12_addCrossing_30 ?_
  refine rj_vret dX12_addCrossing_31 ?_
  rw [hq1.2]
  refine ⟨rfl, mr_tie hM hj (off_r (off_r off.rf)) (fun b hb => ?_) ?_ ?_ (by rw [List.length_append, List.length_singleton]; omega) (fun i hi => ?_)⟩
  · rw [ui_at, if_neg (by omega), ui_at, if_neg (by omega)]
  · rw [ui_at, if_neg (by omega), ui_at, if_neg (by omega)]; exact f1
  · rw [ui_at, if_pos ⟨rfl, by omega⟩, ui_at, if_neg (by omega), show 3 + 14 * j + 1 = 4 + 14 * j by omega, f6, nI_1, List.length_append, List.length_singleton]
  · rw [List.length_append, List.length_singleton] at hi
    rw [ui_at, if_neg (by omega), ui_at]
    by_cases q : i = (fT A j).2.length
    · subst q; rw [if_pos ⟨rfl, by omega⟩, getD_snoc_eq]
    · rw [if_neg (by omega), getD_snoc_lt (by omega)]; exact f4 i (by show i < (fT A j).2.length; omega)

set_option maxRecDepth 100000 in
theorem c_X12_isCrossing {l : Launch} {X : CX} {σ : ST} {A : SA} (hM : MR σ A) (hw : wf A) {c : Int32} : MJ l X 1 yX12_isCrossing cX12_isCrossing 2 (some .boolean) [.ref (ad X 112), .int c] σ (eqI (if c.toInt ≠ 0 ∧ -A.2.1.1.toInt < c.toInt ∧ c.toInt < A.2.1.1.toInt then 1 else 0) σ) := by
  refine MJ_of (own := RX12) [some (.ref (ad X 112)), some (.int c)] (by decide) rfl (Nat.le_of_ble_eq_true rfl) rfl ?_
  have h0 : σ.1 113 0 = A.2.1.1 := hM.1.1
  have hr := hw.1.1
  have hr4 := hw.1.2.1
  have e1 : (1 - A.2.1.1).toInt = 1 - A.2.1.1.toInt := by rw [i_sub (by rw [t1]; omega) (by rw [t1]; omega), t1]
  have e2 : (A.2.1.1 - 1).toInt = A.2.1.1.toInt - 1 := by rw [i_sub (by rw [t1]; omega) (by rw [t1]; omega), t1]
  refine rj_ild1 dX12_isCrossing_0 rfl ?_
  refine rj_if_eq (tgt := 31) dX12_isCrossing_1 (by decide) (fun h_1 => ?_) (fun h_1 => ?_)
  · have hz : c.toInt = 0 := by rw [h_1]; rfl
    refine rj_ic0 dX12_isCrossing_31 ?_
    refine rj_zret dX12_isCrossing_32 (rfl) ?_
    first | (refine ⟨?_, rfl⟩; rw [if_pos (by omega)]; done) | (refine ⟨?_, rfl⟩; rw [if_neg (by omega)]; done) | (exfalso; omega)
  · have hz : ¬ c.toInt = 0 := fun z => h_1 (i_inj (z.trans t0.symm))
    refine rj_ild1 dX12_isCrossing_4 rfl ?_
    refine rj_ic1 dX12_isCrossing_5 ?_
    refine rj_ald0 dX12_isCrossing_6 rfl ?_
    refine g12_7 dX12_isCrossing_7 ?_
    refine rj_ic0 dX12_isCrossing_10 ?_
    refine rj_iald (by first | assumption | rfl) (vpi (by decide) (by decide)) dX12_isCrossing_11 ?_
    rw [show (0 : Int32).toNatClampNeg = 0 from rfl, h0]
    refine rj_isub dX12_isCrossing_12 ?_
    refine rj_ald0 dX12_isCrossing_13 rfl ?_
    refine g12_7 dX12_isCrossing_14 ?_
    refine rj_ic0 dX12_isCrossing_17 ?_
    refine rj_iald (by first | assumption | rfl) (vpi (by decide) (by decide)) dX12_isCrossing_18 ?_
    rw [show (0 : Int32).toNatClampNeg = 0 from rfl, h0]
    refine rj_ic1 dX12_isCrossing_19 ?_
    refine rj_isub dX12_isCrossing_20 ?_
    refine rj_S3i cX12_60 dX12_isCrossing_21 c_X12_in (fitM (by decide) (by decide)) (Nat.le_of_ble_eq_true rfl) ?_
    refine rj_if_eq (tgt := 31) dX12_isCrossing_24 (by decide) (fun h_24 => ?_) (fun h_24 => ?_)
    · have hb_24 := bz_t h_24
      refine rj_ic0 dX12_isCrossing_31 ?_
      refine rj_zret dX12_isCrossing_32 (rfl) ?_
      first | (refine ⟨?_, rfl⟩; rw [if_pos (by omega)]; done) | (refine ⟨?_, rfl⟩; rw [if_neg (by omega)]; done) | (exfalso; omega)
    · have hb_24 := bz_f h_24
      refine rj_ic1 dX12_isCrossing_27 ?_
      refine rj_goto (tgt := 32) dX12_isCrossing_28 (by decide) ?_
      refine rj_zret dX12_isCrossing_32 (rfl) ?_
      first | (refine ⟨?_, rfl⟩; rw [if_pos (by omega)]; done) | (refine ⟨?_, rfl⟩; rw [if_neg (by omega)]; done) | (exfalso; omega)

set_option maxRecDepth 100000 in
theorem c_X12_add {l : Launch} {X : CX} {σ : ST} {A : SA} (hM : MR σ A) (hw : wf A) {t c : Int32} : MJ l X 3 yX12_add cX12_add 3 (some .int) [.ref (ad X 112), .int t, .int c] σ (OM σ (F_add A t c)) := by
  refine MJ_of (own := RX12) [some (.ref (ad X 112)), some (.int t), some (.int c)] (by decide) rfl (Nat.le_of_ble_eq_true rfl) rfl ?_
  have e12 : (12 : Int32).toInt = 12 := by decide
  refine rj_ald0 dX12_add_0 rfl ?_
  refine rj_ild1 dX12_add_1 rfl ?_
  refine rj_V1i (ci := 12) cX12_85 rfl (by decide) (by first | assumption | rfl) dX12_add_2 (c_X12_isTie hM) (fitM (by decide) (by decide)) (Nat.le_of_ble_eq_true rfl) ?_
  refine rj_if_eq (tgt := 16) dX12_add_5 (by decide) (fun h_5 => ?_) (fun h_5 => ?_)
  · have hb_5 := bz_t h_5
    refine rj_ald0 dX12_add_16 rfl ?_
    refine rj_ldc kX12_59 dX12_add_17 ?_
    refine rj_V1 (ci := 12) cX12_68 rfl (by decide) rfl dX12_add_19 (c_X12_finds (i := 0) hM (by decide) (by decide)) (fitM (by decide) (by decide)) (Nat.le_of_ble_eq_true rfl) ?_
    rintro v υq ⟨rfl, hq⟩
    simp only [Option.toList, List.cons_append, List.nil_append]
    refine rj_iret dX12_add_22 ?_
    have e : F_add A t c = fnd A 0 := by unfold F_add; rw [wT_out hb_5]
    rw [e]
    exact ⟨rfl, hq⟩
  · have hb_5 := bz_f h_5
    obtain ⟨j, hv, hj⟩ := mt_in hb_5
    have h12 := (wf_t hw hj).2.2.1
    have hlt : (nI (fT A j).2.length).toInt = (fT A j).2.length := nI_t (by omega)
    refine rj_ald0 dX12_add_8 rfl ?_
    refine rj_ild2 dX12_add_9 rfl ?_
    refine rj_V1i (ci := 12) cX12_88 rfl (by decide) (by first | assumption | rfl) dX12_add_10 (c_X12_isCrossing hM hw) (fitM (by decide) (by decide)) (Nat.le_of_ble_eq_true rfl) ?_
    refine rj_if_ne (tgt := 23) dX12_add_13 (by decide) (fun h_13 => ?_) (fun h_13 => ?_)
    · have hb_13 := bz_f h_13
      refine rj_ald0 dX12_add_23 rfl ?_
      refine rj_ild1 dX12_add_24 rfl ?_
      refine rj_V1i (ci := 12) cX12_82 rfl (by decide) (by first | assumption | rfl) dX12_add_25 (c_X12_sizeOfRow hM hv hj) (fitM (by decide) (by decide)) (Nat.le_of_ble_eq_true rfl) ?_
      refine rj_bipush (v := 12) dX12_add_28 (by decide) ?_
      refine rj_ic_ne (tgt := 40) dX12_add_30 (by decide) (fun h_30 => ?_) (fun h_30 => ?_)
      · have hl : (fT A j).2.length < 12 := by
          rcases Nat.lt_or_ge (fT A j).2.length 12 with z | z
          · exact z
          · exact absurd (i_inj (by omega)) h_30
        refine rj_ald0 dX12_add_40 rfl ?_
        refine rj_ild1 dX12_add_41 rfl ?_
        refine rj_ild2 dX12_add_42 rfl ?_
        refine rj_V2 (ci := 12) cX12_91 rfl (by decide) (by first | assumption | rfl) dX12_add_43 (c_X12_addCrossing hM hv hj hl) (fitM (by decide) (by decide)) (Nat.le_of_ble_eq_true rfl) ?_
        rintro v τ ⟨rfl, hM1, ho1⟩
        simp only [Option.toList, List.nil_append]
        have hj1 : j < (sT A j ((fT A j).1, (fT A j).2 ++ [c])).2.1.2.2.length := by rw [sT_len]; exact hj
        refine rj_ald0 dX12_add_46 rfl ?_
        refine rj_ild1 dX12_add_47 rfl ?_
        refine rj_V1i (ci := 12) cX12_82 rfl (by decide) (by first | assumption | rfl) dX12_add_48 (c_X12_sizeOfRow hM1 hv hj1) (fitM (by decide) (by decide)) (Nat.le_of_ble_eq_true rfl) ?_
        refine rj_iret dX12_add_51 ?_
        have e : F_add A t c = (nI ((fT A j).2.length + 1), sT A j ((fT A j).1, (fT A j).2 ++ [c])) := by unfold F_add; rw [wT_in hv hj, if_pos hb_13, if_pos hl]
        rw [e]
        exact ⟨by rw [sT_fT _ hj, List.length_append, List.length_singleton], hM1, ho1⟩
      · have hl : ¬ (fT A j).2.length < 12 := by have := congrArg Int32.toInt h_30; omega
        refine rj_ald0 dX12_add_33 rfl ?_
        refine rj_ldc kX12_77 dX12_add_34 ?_
        refine rj_V1 (ci := 12) cX12_68 rfl (by decide) rfl dX12_add_36 (c_X12_finds (i := 1) hM (by decide) (by decide)) (fitM (by decide) (by decide)) (Nat.le_of_ble_eq_true rfl) ?_
        rintro v υq ⟨rfl, hq⟩
        simp only [Option.toList, List.cons_append, List.nil_append]
        refine rj_iret dX12_add_39 ?_
        have e : F_add A t c = fnd A 1 := by unfold F_add; rw [wT_in hv hj, if_pos hb_13, if_neg hl]
        rw [e]
        exact ⟨rfl, hq⟩
    · have hb_13 := bz_t h_13
      refine rj_ald0 dX12_add_16 rfl ?_
      refine rj_ldc kX12_59 dX12_add_17 ?_
      refine rj_V1 (ci := 12) cX12_68 rfl (by decide) rfl dX12_add_19 (c_X12_finds (i := 0) hM (by decide) (by decide)) (fitM (by decide) (by decide)) (Nat.le_of_ble_eq_true rfl) ?_
      rintro v υq ⟨rfl, hq⟩
      simp only [Option.toList, List.cons_append, List.nil_append]
      refine rj_iret dX12_add_22 ?_
      have e : F_add A t c = fnd A 0 := by unfold F_add; rw [wT_in hv hj, if_neg hb_13]
      rw [e]
      exact ⟨rfl, hq⟩

