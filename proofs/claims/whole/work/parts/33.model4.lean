/-! the reference: of, turn, as -/
set_option maxRecDepth 100000 in
theorem c_X12_turn {l : Launch} {X : CX} {σ : ST} {A : SA} (hM : MR σ A) (hw : wf A) {t k : Int32} : MJ l X 2 yX12_turn cX12_turn 4 (some .int) [.ref (X.2.2.1 + 112), .int t, .int k] σ (OM σ (F_turn A t k)) := by
  refine MJ_of (own := RX12) [some (.ref (X.2.2.1 + 112)), some (.int t), some (.int k), none] (by decide) rfl (Nat.le_of_ble_eq_true rfl) rfl ?_
  refine rj_ald0 dX12_turn_0 rfl ?_
  refine rj_ild1 dX12_turn_1 rfl ?_
  refine rj_V1i (ci := 12) cX12_85 rfl (by decide) (by first | assumption | rfl) dX12_turn_2 (c_X12_isTie hM) (fitM (by decide) (by decide)) (Nat.le_of_ble_eq_true rfl) ?_
  refine rj_if_eq (tgt := 15) dX12_turn_5 (by decide) (fun h_5 => ?_) (fun h_5 => ?_)
  · have hb_5 := bz_t h_5
    refine rj_ald0 dX12_turn_15 rfl ?_
    refine rj_ldc kX12_59 dX12_turn_16 ?_
    refine rj_V1 (ci := 12) cX12_68 rfl (by decide) rfl dX12_turn_18 (c_X12_finds (i := 0) hM (by decide) (by decide)) (fitM (by decide) (by decide)) (Nat.le_of_ble_eq_true rfl) ?_
    rintro v υq ⟨rfl, hq⟩
    simp only [Option.toList, List.cons_append, List.nil_append]
    refine rj_iret dX12_turn_21 ?_
    have e : F_turn A t k = fnd A 0 := by unfold F_turn; rw [wT_out hb_5]
    rw [e]
    exact ⟨rfl, hq⟩
  · have hb_5 := bz_f h_5
    obtain ⟨j, hv, hj⟩ := mt_in hb_5
    have h12 := (wf_t hw hj).2.2.1
    have hlt : (nI (fT A j).2.length).toInt = (fT A j).2.length := nI_t (by omega)
    have h8 := hM.1.2.2.2.1
    obtain ⟨f1, f2, f3, f4⟩ := hM.1.2.2.2.2 j hj
    have f6 : σ.1 113 (4 + 14 * j) = nI (fT A j).2.length := f2
    have f7 : σ.1 113 (3 + 14 * j) = (fT A j).1 := f1
    have hq0 := at_s (b := 0) hv (by omega) (by omega)
    refine rj_ild2 dX12_turn_8 rfl ?_
    refine rj_S1i cX12_73 dX12_turn_9 c_X12_isKind (fitM (by decide) (by decide)) (Nat.le_of_ble_eq_true rfl) ?_
    refine rj_if_ne (tgt := 22) dX12_turn_12 (by decide) (fun h_12 => ?_) (fun h_12 => ?_)
    · have hb_12 := bz_f h_12
      refine rj_ald0 dX12_turn_22 rfl ?_
      refine rj_ild1 dX12_turn_23 rfl ?_
      refine rj_V1i (ci := 12) cX12_99 rfl (by decide) (by first | assumption | rfl) dX12_turn_24 (c_X12_kindOf hM hv hj) (fitM (by decide) (by decide)) (Nat.le_of_ble_eq_true rfl) ?_
      refine rj_ist3 dX12_turn_27 (by decide) rfl ?_
      refine rj_ald0 dX12_turn_28 rfl ?_
      refine g12_7 dX12_turn_29 ?_
      refine rj_ild1 dX12_turn_32 rfl ?_
      refine rj_ic0 dX12_turn_33 ?_
      rw [show (0 : Int32) = nI 0 from rfl]
      refine rj_S2i cX12_64 dX12_turn_34 c_X12_at (fitM (by decide) (by decide)) (Nat.le_of_ble_eq_true rfl) ?_
      refine rj_ild2 dX12_turn_37 rfl ?_
      refine rj_iast (by first | assumption | rfl) (vpi (by omega) (by show _ < ((115 : Nat) : Int); omega)) dX12_turn_38 ?_
      rw [hq0.2]
      refine rj_ild3 dX12_turn_39 rfl ?_
      refine rj_iret dX12_turn_40 ?_
      have e : F_turn A t k = ((fT A j).1, sT A j (k, (fT A j).2)) := by unfold F_turn; rw [wT_in hv hj, if_pos hb_12]
      rw [e]
      refine ⟨rfl, mr_tie hM hj (off_r off.rf) (fun b hb => ?_) ?_ ?_ h12 (fun i hi => ?_)⟩
      · rw [ui_at, if_neg (by omega)]
      · rw [ui_at, if_pos ⟨rfl, by omega⟩]
      · rw [ui_at, if_neg (by omega)]; exact f6
      · rw [ui_at, if_neg (by omega)]; exact f4 i hi
    · have hb_12 := bz_t h_12
      refine rj_ald0 dX12_turn_15 rfl ?_
      refine rj_ldc kX12_59 dX12_turn_16 ?_
      refine rj_V1 (ci := 12) cX12_68 rfl (by decide) rfl dX12_turn_18 (c_X12_finds (i := 0) hM (by decide) (by decide)) (fitM (by decide) (by decide)) (Nat.le_of_ble_eq_true rfl) ?_
      rintro v υq ⟨rfl, hq⟩
      simp only [Option.toList, List.cons_append, List.nil_append]
      refine rj_iret dX12_turn_21 ?_
      have e : F_turn A t k = fnd A 0 := by unfold F_turn; rw [wT_in hv hj, if_neg hb_12]
      rw [e]
      exact ⟨rfl, hq⟩

set_option maxRecDepth 100000 in
theorem c_X12_of {l : Launch} {X : CX} {σ : ST} {A : SA} (hM : MR σ A) (hw : wf A) {t i : Int32} : MJ l X 2 yX12_of cX12_of 3 (some .int) [.ref (X.2.2.1 + 112), .int t, .int i] σ (OM σ (F_of A t i)) := by
  refine MJ_of (own := RX12) [some (.ref (X.2.2.1 + 112)), some (.int t), some (.int i)] (by decide) rfl (Nat.le_of_ble_eq_true rfl) rfl ?_
  have e0 : (0 : Int32).toInt = 0 := by decide
  have e2 : (2 : Int32).toInt = 2 := by decide
  refine rj_ald0 dX12_of_0 rfl ?_
  refine rj_ild1 dX12_of_1 rfl ?_
  refine rj_V1i (ci := 12) cX12_85 rfl (by decide) (by first | assumption | rfl) dX12_of_2 (c_X12_isTie hM) (fitM (by decide) (by decide)) (Nat.le_of_ble_eq_true rfl) ?_
  refine rj_if_eq (tgt := 17) dX12_of_5 (by decide) (fun h_5 => ?_) (fun h_5 => ?_)
  · have hb_5 := bz_t h_5
    refine rj_ald0 dX12_of_17 rfl ?_
    refine rj_ldc kX12_59 dX12_of_18 ?_
    refine rj_V1 (ci := 12) cX12_68 rfl (by decide) rfl dX12_of_20 (c_X12_finds (i := 0) hM (by decide) (by decide)) (fitM (by decide) (by decide)) (Nat.le_of_ble_eq_true rfl) ?_
    rintro v υq ⟨rfl, hq⟩
    simp only [Option.toList, List.cons_append, List.nil_append]
    refine rj_iret dX12_of_23 ?_
    have e : F_of A t i = fnd A 0 := by unfold F_of; rw [wT_out hb_5]
    rw [e]
    exact ⟨rfl, hq⟩
  · have hb_5 := bz_f h_5
    obtain ⟨j, hv, hj⟩ := mt_in hb_5
    have h12 := (wf_t hw hj).2.2.1
    have hlt : (nI (fT A j).2.length).toInt = (fT A j).2.length := nI_t (by omega)
    have h8 := hM.1.2.2.2.1
    obtain ⟨f1, f2, f3, f4⟩ := hM.1.2.2.2.2 j hj
    have f6 : σ.1 113 (4 + 14 * j) = nI (fT A j).2.length := f2
    have f7 : σ.1 113 (3 + 14 * j) = (fT A j).1 := f1
    refine rj_ild2 dX12_of_8 rfl ?_
    refine rj_ic0 dX12_of_9 ?_
    refine rj_ic2 dX12_of_10 ?_
    refine rj_S3i cX12_60 dX12_of_11 c_X12_in (fitM (by decide) (by decide)) (Nat.le_of_ble_eq_true rfl) ?_
    refine rj_if_ne (tgt := 24) dX12_of_14 (by decide) (fun h_14 => ?_) (fun h_14 => ?_)
    · have hb_14 := bz_f h_14
      refine rj_ild2 dX12_of_24 rfl ?_
      refine rj_if_ne (tgt := 36) dX12_of_25 (by decide) (fun h_25 => ?_) (fun h_25 => ?_)
      · refine rj_ild2 dX12_of_36 rfl ?_
        refine rj_ic2 dX12_of_37 ?_
        refine rj_ic_ne (tgt := 60) dX12_of_38 (by decide) (fun h_38 => ?_) (fun h_38 => ?_)
        · refine rj_ald0 dX12_of_60 rfl ?_
          refine rj_ild1 dX12_of_61 rfl ?_
          refine rj_V1i (ci := 12) cX12_82 rfl (by decide) (by first | assumption | rfl) dX12_of_62 (c_X12_sizeOfRow hM hv hj) (fitM (by decide) (by decide)) (Nat.le_of_ble_eq_true rfl) ?_
          refine rj_iret dX12_of_65 ?_
          have hi1 : i = 1 := by
            have e1 : (1 : Int32).toInt = 1 := by decide
            have n0 : ¬ i.toInt = 0 := fun z => h_25 (i_inj (by omega))
            have n2 : ¬ i.toInt = 2 := fun z => h_38 (i_inj (by omega))
            exact i_inj (by omega)
          have e : F_of A t i = (nI (fT A j).2.length, A) := by unfold F_of; rw [wT_in hv hj, if_neg (by omega), if_neg h_25, if_pos hi1]
          rw [e]
          exact ⟨rfl, hM, off.rf⟩
        · refine rj_ald0 dX12_of_41 rfl ?_
          refine rj_ild1 dX12_of_42 rfl ?_
          refine rj_V1i (ci := 12) cX12_99 rfl (by decide) (by first | assumption | rfl) dX12_of_43 (c_X12_kindOf hM hv hj) (fitM (by decide) (by decide)) (Nat.le_of_ble_eq_true rfl) ?_
          refine rj_ic3 dX12_of_46 ?_
          refine rj_ic_ne (tgt := 60) dX12_of_47 (by decide) (fun h_47 => ?_) (fun h_47 => ?_)
          · refine rj_ald0 dX12_of_60 rfl ?_
            refine rj_ild1 dX12_of_61 rfl ?_
            refine rj_V1i (ci := 12) cX12_82 rfl (by decide) (by first | assumption | rfl) dX12_of_62 (c_X12_sizeOfRow hM hv hj) (fitM (by decide) (by decide)) (Nat.le_of_ble_eq_true rfl) ?_
            refine rj_iret dX12_of_65 ?_
            have e : F_of A t i = (nI (lyN (fT A j).1 (fT A j).2.length), A) := by unfold F_of; rw [wT_in hv hj, if_neg (by omega), if_neg h_25, if_neg (fun z => by rw [h_38] at z; exact absurd z (by decide))]
            rw [e]
            refine ⟨?_, hM, off.rf⟩
            show _ = some (Value.int (nI (lyN (fT A j).1 (fT A j).2.length)))
            unfold lyN
            rw [if_neg h_47]
            
          · refine rj_ic2 dX12_of_50 ?_
            refine rj_ald0 dX12_of_51 rfl ?_
            refine rj_ild1 dX12_of_52 rfl ?_
            refine rj_V1i (ci := 12) cX12_82 rfl (by decide) (by first | assumption | rfl) dX12_of_53 (c_X12_sizeOfRow hM hv hj) (fitM (by decide) (by decide)) (Nat.le_of_ble_eq_true rfl) ?_
            refine rj_imul dX12_of_56 ?_
            refine rj_goto (tgt := 65) dX12_of_57 (by decide) ?_
            refine rj_iret dX12_of_65 ?_
            have e : F_of A t i = (nI (lyN (fT A j).1 (fT A j).2.length), A) := by unfold F_of; rw [wT_in hv hj, if_neg (by omega), if_neg h_25, if_neg (fun z => by rw [h_38] at z; exact absurd z (by decide))]
            rw [e]
            refine ⟨?_, hM, off.rf⟩
            show _ = some (Value.int (nI (lyN (fT A j).1 (fT A j).2.length)))
            unfold lyN
            rw [if_pos h_47]
            rw [show (2 : Int32) = nI 2 from rfl, pk_mul]
      · refine rj_ald0 dX12_of_28 rfl ?_
        refine rj_ild1 dX12_of_29 rfl ?_
        refine rj_V1i (ci := 12) cX12_99 rfl (by decide) (by first | assumption | rfl) dX12_of_30 (c_X12_kindOf hM hv hj) (fitM (by decide) (by decide)) (Nat.le_of_ble_eq_true rfl) ?_
        refine rj_goto (tgt := 65) dX12_of_33 (by decide) ?_
        refine rj_iret dX12_of_65 ?_
        have e : F_of A t i = ((fT A j).1, A) := by unfold F_of; rw [wT_in hv hj, if_neg (by omega), if_pos h_25]
        rw [e]
        exact ⟨rfl, hM, off.rf⟩
    · have hb_14 := bz_t h_14
      refine rj_ald0 dX12_of_17 rfl ?_
      refine rj_ldc kX12_59 dX12_of_18 ?_
      refine rj_V1 (ci := 12) cX12_68 rfl (by decide) rfl dX12_of_20 (c_X12_finds (i := 0) hM (by decide) (by decide)) (fitM (by decide) (by decide)) (Nat.le_of_ble_eq_true rfl) ?_
      rintro v υq ⟨rfl, hq⟩
      simp only [Option.toList, List.cons_append, List.nil_append]
      refine rj_iret dX12_of_23 ?_
      have e : F_of A t i = fnd A 0 := by unfold F_of; rw [wT_in hv hj, if_pos (by omega)]
      rw [e]
      exact ⟨rfl, hq⟩

