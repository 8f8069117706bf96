/-! the reference: of, turn, as -/
theorem gd_take {xs : List Int32} {i n : Nat} (h : i < n) : (xs.take n).getD i 0 = xs.getD i 0 := by rw [List.getD, List.getD, List.getElem?_take_of_lt h]
set_option maxRecDepth 100000 in
theorem c_X12_turn {l : Launch} {X : CX} {σ : ST} {A : SA} (hM : MR σ A) (hw : wf A) {t k : Int32} : MJ l X 2 yX12_turn cX12_turn 4 (some .int) [.ref (ad X 112), .int t, .int k] σ (OM σ (F_turn A t k)) := by
  refine MJ_of (own := RX12) [some (.ref (ad X 112)), some (.int t), some (.int k), none] (by decide) rfl (Nat.le_of_ble_eq_true rfl) rfl ?_
  refine rj_ald0 dX12_turn_0 rfl ?_
  refine rj_ild1 dX12_turn_1 rfl ?_
  refine rj_V1i (ci := 12) cX12_85 rfl (by decide) (by first | assumption | rfl) dX12_turn_2 (c_X12_isTie hM) (fitM (by decide) (by decide)) (Nat.le_of_ble_eq_true rfl) ?_
  refine rj_if_eq (tgt := 15) dX12_turn_5 (by decide) (fun h_5 => ?_) (fun h_5 => ?_)
  · have hb_5 := bz_t h_5
    refine rj_ald0 dX12_turn_15 rfl ?_
    refine rj_ldc kX12_59 dX12_turn_16 ?_
    refine rj_V1 (ci := 12) cX12_68 rfl (by decide) rfl dX12_turn_18 (c_X12_finds (i := 0) hM (by decide) (by decide)) (fitM (by decide) (by decide)) (Nat.le_of_ble_eq_true rfl) ?_
    rintro v υq ⟨rfl, hq⟩
    simp only [Option.toList, List.cons_append, List.nil_append]
    refine rj_iret dX12_turn_21 ?_
    have e : F_turn A t k = fnd A 0 := by unfold F_turn; rw [wT_out hb_5]
    rw [e]
    exact ⟨rfl, hq⟩
  · have hb_5 := bz_f h_5
    obtain ⟨j, hv, hj⟩ := mt_in hb_5
    have h12 := (wf_t hw hj).2.2.1
    have hlt : (nI (fT A j).2.length).toInt = (fT A j).2.length := nI_t (by omega)
    have h8 := hM.1.2.2.2.1
    obtain ⟨f1, f2, f3, f4⟩ := hM.1.2.2.2.2 j hj
    have f6 : σ.1 113 (4 + 14 * j) = nI (fT A j).2.length := f2
    have f7 : σ.1 113 (3 + 14 * j) = (fT A j).1 := f1
    have hq0 := at_s (b := 0) hv (by omega) (by omega)
    refine rj_ild2 dX12_turn_8 rfl ?_
    refine rj_S1i cX12_73 dX12_turn_9 c_X12_isKind (fitM (by decide) (by decide)) (Nat.le_of_ble_eq_true rfl) ?_
    refine rj_if_ne (tgt := 22) dX12_turn_12 (by decide) (fun h_12 => ?_) (fun h_12 => ?_)
    · have hb_12 := bz_f h_12
      refine rj_ald0 dX12_turn_22 rfl ?_
      refine rj_ild1 dX12_turn_23 rfl ?_
      refine rj_V1i (ci := 12) cX12_99 rfl (by decide) (by first | assumption | rfl) dX12_turn_24 (c_X12_kindOf hM hv hj) (fitM (by decide) (by decide)) (Nat.le_of_ble_eq_true rfl) ?_
      refine rj_ist3 dX12_turn_27 (by decide) rfl ?_
      refine rj_ald0 dX12_turn_28 rfl ?_
      refine g12_7 dX12_turn_29 ?_
      refine rj_ild1 dX12_turn_32 rfl ?_
      refine rj_ic0 dX12_turn_33 ?_
      rw [show (0 : Int32) = nI 0 from rfl]
      refine rj_S2i cX12_64 dX12_turn_34 c_X12_at (fitM (by decide) (by decide)) (Nat.le_of_ble_eq_true rfl) ?_
      refine rj_ild2 dX12_turn_37 rfl ?_
      refine rj_iast (by first | assumption | rfl) (vpi (by omega) (by show _ < ((115 : Nat) : Int); omega)) dX12_turn_38 ?_
      rw [hq0.2]
      refine rj_ild3 dX12_turn_39 rfl ?_
      refine rj_iret dX12_turn_40 ?_
      have e : F_turn A t k = ((fT A j).1, sT A j (k, (fT A j).2)) := by unfold F_turn; rw [wT_in hv hj, if_pos hb_12]
      rw [e]
      refine ⟨rfl, mr_tie hM hj (off_r off.rf) (fun b hb => ?_) ?_ ?_ h12 (fun i hi => ?_)⟩
      · rw [ui_at, if_neg (by omega)]
      · rw [ui_at, if_pos ⟨rfl, by omega⟩]
      · rw [ui_at, if_neg (by omega)]; exact f6
      · rw [ui_at, if_neg (by omega)]; exact f4 i hi
    · have hb_12 := bz_t h_12
      refine rj_ald0 dX12_turn_15 rfl ?_
      refine rj_ldc kX12_59 dX12_turn_16 ?_
      refine rj_V1 (ci := 12) cX12_68 rfl (by decide) rfl dX12_turn_18 (c_X12_finds (i := 0) hM (by decide) (by decide)) (fitM (by decide) (by decide)) (Nat.le_of_ble_eq_true rfl) ?_
      rintro v υq ⟨rfl, hq⟩
      simp only [Option.toList, List.cons_append, List.nil_append]
      refine rj_iret dX12_turn_21 ?_
      have e : F_turn A t k = fnd A 0 := by unfold F_turn; rw [wT_in hv hj, if_neg hb_12]
      rw [e]
      exact ⟨rfl, hq⟩

set_option maxRecDepth 100000 in
theorem c_X12_of {l : Launch} {X : CX} {σ : ST} {A : SA} (hM : MR σ A) (hw : wf A) {t i : Int32} : MJ l X 2 yX12_of cX12_of 3 (some .int) [.ref (ad X 112), .int t, .int i] σ (OM σ (F_of A t i)) := by
  refine MJ_of (own := RX12) [some (.ref (ad X 112)), some (.int t), some (.int i)] (by decide) rfl (Nat.le_of_ble_eq_true rfl) rfl ?_
  have e0 : (0 : Int32).toInt = 0 := by decide
  have e2 : (2 : Int32).toInt = 2 := by decide
  refine rj_ald0 dX12_of_0 rfl ?_
  refine rj_ild1 dX12_of_1 rfl ?_
  refine rj_V1i (ci := 12) cX12_85 rfl (by decide) (by first | assumption | rfl) dX12_of_2 (c_X12_isTie hM) (fitM (by decide) (by decide)) (Nat.le_of_ble_eq_true rfl) ?_
  refine rj_if_eq (tgt := 17) dX12_of_5 (by decide) (fun h_5 => ?_) (fun h_5 => ?_)
  · have hb_5 := bz_t h_5
    refine rj_ald0 dX12_of_17 rfl ?_
    refine rj_ldc kX12_59 dX12_of_18 ?_
    refine rj_V1 (ci := 12) cX12_68 rfl (by decide) rfl dX12_of_20 (c_X12_finds (i := 0) hM (by decide) (by decide)) (fitM (by decide) (by decide)) (Nat.le_of_ble_eq_true rfl) ?_
    rintro v υq ⟨rfl, hq⟩
    simp only [Option.toList, List.cons_append, List.nil_append]
    refine rj_iret dX12_of_23 ?_
    have e : F_of A t i = fnd A 0 := by unfold F_of; rw [wT_out hb_5]
    rw [e]
    exact ⟨rfl, hq⟩
  · have hb_5 := bz_f h_5
    obtain ⟨j, hv, hj⟩ := mt_in hb_5
    have h12 := (wf_t hw hj).2.2.1
    have hlt : (nI (fT A j).2.length).toInt = (fT A j).2.length := nI_t (by omega)
    have h8 := hM.1.2.2.2.1
    obtain ⟨f1, f2, f3, f4⟩ := hM.1.2.2.2.2 j hj
    have f6 : σ.1 113 (4 + 14 * j) = nI (fT A j).2.length := f2
    have f7 : σ.1 113 (3 + 14 * j) = (fT A j).1 := f1
    refine rj_ild2 dX12_of_8 rfl ?_
    refine rj_ic0 dX12_of_9 ?_
    refine rj_ic2 dX12_of_10 ?_
    refine rj_S3i cX12_60 dX12_of_11 c_X12_in (fitM (by decide) (by decide)) (Nat.le_of_ble_eq_true rfl) ?_
    refine rj_if_ne (tgt := 24) dX12_of_14 (by decide) (fun h_14 => ?_) (fun h_14 => ?_)
    · have hb_14 := bz_f h_14
      refine rj_ild2 dX12_of_24 rfl ?_
      refine rj_if_ne (tgt := 36) dX12_of_25 (by decide) (fun h_25 => ?_) (fun h_25 => ?_)
      · refine rj_ild2 dX12_of_36 rfl ?_
        refine rj_ic2 dX12_of_37 ?_
        refine rj_ic_ne (tgt := 60) dX12_of_38 (by decide) (fun h_38 => ?_) (fun h_38 => ?_)
        · refine rj_ald0 dX12_of_60 rfl ?_
          refine rj_ild1 dX12_of_61 rfl ?_
          refine rj_V1i (ci := 12) cX12_82 rfl (by decide) (by first | assumption | rfl) dX12_of_62 (c_X12_sizeOfRow hM hv hj) (fitM (by decide) (by decide)) (Nat.le_of_ble_eq_true rfl) ?_
          refine rj_iret dX12_of_65 ?_
          have hi1 : i = 1 := by
            have e1 : (1 : Int32).toInt = 1 := by decide
            have n0 : ¬ i.toInt = 0 := fun z => h_25 (i_inj (by omega))
            have n2 : ¬ i.toInt = 2 := fun z => h_38 (i_inj (by omega))
            exact i_inj (by omega)
          have e : F_of A t i = (nI (fT A j).2.length, A) := by unfold F_of; rw [wT_in hv hj, if_neg (by omega), if_neg h_25, if_pos hi1]
          rw [e]
          exact ⟨rfl, hM, off.rf⟩
        · refine rj_ald0 dX12_of_41 rfl ?_
          refine rj_ild1 dX12_of_42 rfl ?_
          refine rj_V1i (ci := 12) cX12_99 rfl (by decide) (by first | assumption | rfl) dX12_of_43 (c_X12_kindOf hM hv hj) (fitM (by decide) (by decide)) (Nat.le_of_ble_eq_true rfl) ?_
          refine rj_ic3 dX12_of_46 ?_
          refine rj_ic_ne (tgt := 60) dX12_of_47 (by decide) (fun h_47 => ?_) (fun h_47 => ?_)
          · refine rj_ald0 dX12_of_60 rfl ?_
            refine rj_ild1 dX12_of_61 rfl ?_
            refine rj_V1i (ci := 12) cX12_82 rfl (by decide) (by first | assumption | rfl) dX12_of_62 (c_X12_sizeOfRow hM hv hj) (fitM (by decide) (by decide)) (Nat.le_of_ble_eq_true rfl) ?_
            refine rj_iret dX12_of_65 ?_
            have e : F_of A t i = (nI (lyN (fT A j).1 (fT A j).2.length), A) := by unfold F_of; rw [wT_in hv hj, if_neg (by omega), if_neg h_25, if_neg (fun z => by rw [h_38] at z; exact absurd z (by decide))]
            rw [e]
            refine ⟨?_, hM, off.rf⟩
            show _ = some (Value.int (nI (lyN (fT A j).1 (fT A j).2.length)))
            unfold lyN
            rw [if_neg h_47]
            
          · refine rj_ic2 dX12_of_50 ?_
            refine rj_ald0 dX12_of_51 rfl ?_
            refine rj_ild1 dX12_of_52 rfl ?_
            refine rj_V1i (ci := 12) cX12_82 rfl (by decide) (by first | assumption | rfl) dX12_of_53 (c_X12_sizeOfRow hM hv hj) (fitM (by decide) (by decide)) (Nat.le_of_ble_eq_true rfl) ?_
            refine rj_imul dX12_of_56 ?_
            refine rj_goto (tgt := 65) dX12_of_57 (by decide) ?_
            refine rj_iret dX12_of_65 ?_
            have e : F_of A t i = (nI (lyN (fT A j).1 (fT A j).2.length), A) := by unfold F_of; rw [wT_in hv hj, if_neg (by omega), if_neg h_25, if_neg (fun z => by rw [h_38] at z; exact absurd z (by decide))]
            rw [e]
            refine ⟨?_, hM, off.rf⟩
            show _ = some (Value.int (nI (lyN (fT A j).1 (fT A j).2.length)))
            unfold lyN
            rw [if_pos h_47]
            rw [show (2 : Int32) = nI 2 from rfl, pk_mul]
      · refine rj_ald0 dX12_of_28 rfl ?_
        refine rj_ild1 dX12_of_29 rfl ?_
        refine rj_V1i (ci := 12) cX12_99 rfl (by decide) (by first | assumption | rfl) dX12_of_30 (c_X12_kindOf hM hv hj) (fitM (by decide) (by decide)) (Nat.le_of_ble_eq_true rfl) ?_
        refine rj_goto (tgt := 65) dX12_of_33 (by decide) ?_
        refine rj_iret dX12_of_65 ?_
        have e : F_of A t i = ((fT A j).1, A) := by unfold F_of; rw [wT_in hv hj, if_neg (by omega), if_pos h_25]
        rw [e]
        exact ⟨rfl, hM, off.rf⟩
    · have hb_14 := bz_t h_14
      refine rj_ald0 dX12_of_17 rfl ?_
      refine rj_ldc kX12_59 dX12_of_18 ?_
      refine rj_V1 (ci := 12) cX12_68 rfl (by decide) rfl dX12_of_20 (c_X12_finds (i := 0) hM (by decide) (by decide)) (fitM (by decide) (by decide)) (Nat.le_of_ble_eq_true rfl) ?_
      rintro v υq ⟨rfl, hq⟩
      simp only [Option.toList, List.cons_append, List.nil_append]
      refine rj_iret dX12_of_23 ?_
      have e : F_of A t i = fnd A 0 := by unfold F_of; rw [wT_in hv hj, if_pos (by omega)]
      rw [e]
      exact ⟨rfl, hq⟩

abbrev undQ (k a : Int32) : Prop := a = 0 ∨ a = k ∨ (a = 2 ∧ k = 4) ∨ (a = 1 ∧ k = 5)
theorem und_eq : ∀ a, a < 6 → ∀ b, b < 6 → (undR (nI a) 6 (nI b) = true ↔ undQ (nI b) (nI a)) := by decide +kernel
theorem und_is {k a : Int32} (hk : 0 ≤ k.toInt ∧ k.toInt < 6) (ha : 0 ≤ a.toInt ∧ a.toInt < 6) : undR a 6 k = true ↔ undQ k a := by
  have := und_eq a.toInt.toNat (by omega) k.toInt.toNat (by omega)
  rw [← i_nI ha.1, ← i_nI hk.1] at this
  exact this
set_option maxRecDepth 100000 in
theorem c_X12_isUnder {l : Launch} {X : CX} {σ : ST} {k a : Int32} : MJ l X 0 yX12_isUnder cX12_isUnder 2 (some .boolean) [.int k, .int a] σ (eqI (if undQ k a then 1 else 0) σ) := by
  refine MJ_of (own := RX12) [some (.int k), some (.int a)] (by decide) rfl (Nat.le_of_ble_eq_true rfl) rfl ?_
  refine rj_ild1 dX12_isUnder_0 rfl ?_
  refine rj_if_eq (tgt := 29) dX12_isUnder_1 (by decide) (fun h_1 => ?_) (fun h_1 => ?_)
  · refine rj_ic1 dX12_isUnder_29 ?_
    refine rj_goto (tgt := 34) dX12_isUnder_30 (by decide) ?_
    refine rj_zret dX12_isUnder_34 (rfl) ?_
    exact ⟨by rw [if_pos (Or.inl h_1)], rfl⟩
  · refine rj_ild1 dX12_isUnder_4 rfl ?_
    refine rj_ild0 dX12_isUnder_5 rfl ?_
    refine rj_ic_eq (tgt := 29) dX12_isUnder_6 (by decide) (fun h_6 => ?_) (fun h_6 => ?_)
    · refine rj_ic1 dX12_isUnder_29 ?_
      refine rj_goto (tgt := 34) dX12_isUnder_30 (by decide) ?_
      refine rj_zret dX12_isUnder_34 (rfl) ?_
      exact ⟨by rw [if_pos (Or.inr (Or.inl h_6))], rfl⟩
    · refine rj_ild1 dX12_isUnder_9 rfl ?_
      refine rj_ic2 dX12_isUnder_10 ?_
      refine rj_ic_ne (tgt := 19) dX12_isUnder_11 (by decide) (fun h_11 => ?_) (fun h_11 => ?_)
      · refine rj_ild1 dX12_isUnder_19 rfl ?_
        refine rj_ic1 dX12_isUnder_20 ?_
        refine rj_ic_ne (tgt := 33) dX12_isUnder_21 (by decide) (fun h_21 => ?_) (fun h_21 => ?_)
        · refine rj_ic0 dX12_isUnder_33 ?_
          refine rj_zret dX12_isUnder_34 (rfl) ?_
          have hn : ¬ undQ k a := by
            rintro (z | z | ⟨z1, z2⟩ | ⟨z1, z2⟩)
            · exact h_1 z
            · exact h_6 z
            · exact h_11 z1
            · exact h_21 z1
          exact ⟨by rw [if_neg hn], rfl⟩
        · refine rj_ild0 dX12_isUnder_24 rfl ?_
          refine rj_ic5 dX12_isUnder_25 ?_
          refine rj_ic_ne (tgt := 33) dX12_isUnder_26 (by decide) (fun h_26 => ?_) (fun h_26 => ?_)
          · refine rj_ic0 dX12_isUnder_33 ?_
            refine rj_zret dX12_isUnder_34 (rfl) ?_
            have hn : ¬ undQ k a := by
              rintro (z | z | ⟨z1, z2⟩ | ⟨z1, z2⟩)
              · exact h_1 z
              · exact h_6 z
              · exact h_11 z1
              · exact h_26 z2
            exact ⟨by rw [if_neg hn], rfl⟩
          · refine rj_ic1 dX12_isUnder_29 ?_
            refine rj_goto (tgt := 34) dX12_isUnder_30 (by decide) ?_
            refine rj_zret dX12_isUnder_34 (rfl) ?_
            exact ⟨by rw [if_pos (Or.inr (Or.inr (Or.inr ⟨h_21, h_26⟩)))], rfl⟩
      · refine rj_ild0 dX12_isUnder_14 rfl ?_
        refine rj_ic4 dX12_isUnder_15 ?_
        refine rj_ic_eq (tgt := 29) dX12_isUnder_16 (by decide) (fun h_16 => ?_) (fun h_16 => ?_)
        · refine rj_ic1 dX12_isUnder_29 ?_
          refine rj_goto (tgt := 34) dX12_isUnder_30 (by decide) ?_
          refine rj_zret dX12_isUnder_34 (rfl) ?_
          exact ⟨by rw [if_pos (Or.inr (Or.inr (Or.inl ⟨h_11, h_16⟩)))], rfl⟩
        · refine rj_ild1 dX12_isUnder_19 rfl ?_
          refine rj_ic1 dX12_isUnder_20 ?_
          refine rj_ic_ne (tgt := 33) dX12_isUnder_21 (by decide) (fun h_21 => ?_) (fun h_21 => ?_)
          · refine rj_ic0 dX12_isUnder_33 ?_
            refine rj_zret dX12_isUnder_34 (rfl) ?_
            have hn : ¬ undQ k a := by
              rintro (z | z | ⟨z1, z2⟩ | ⟨z1, z2⟩)
              · exact h_1 z
              · exact h_6 z
              · exact h_16 z2
              · exact h_21 z1
            exact ⟨by rw [if_neg hn], rfl⟩
          · refine rj_ild0 dX12_isUnder_24 rfl ?_
            refine rj_ic5 dX12_isUnder_25 ?_
            refine rj_ic_ne (tgt := 33) dX12_isUnder_26 (by decide) (fun h_26 => ?_) (fun h_26 => ?_)
            · refine rj_ic0 dX12_isUnder_33 ?_
              refine rj_zret dX12_isUnder_34 (rfl) ?_
              have hn : ¬ undQ k a := by
                rintro (z | z | ⟨z1, z2⟩ | ⟨z1, z2⟩)
                · exact h_1 z
                · exact h_6 z
                · exact h_16 z2
                · exact h_26 z2
              exact ⟨by rw [if_neg hn], rfl⟩
            · refine rj_ic1 dX12_isUnder_29 ?_
              refine rj_goto (tgt := 34) dX12_isUnder_30 (by decide) ?_
              refine rj_zret dX12_isUnder_34 (rfl) ?_
              exact ⟨by rw [if_pos (Or.inr (Or.inr (Or.inr ⟨h_21, h_26⟩)))], rfl⟩

set_option maxRecDepth 100000 in
theorem c_X12_as {l : Launch} {X : CX} {σ : ST} {A : SA} (hM : MR σ A) (hw : wf A) {t k : Int32} : MJ l X 2 yX12_as cX12_as 3 (some .int) [.ref (ad X 112), .int t, .int k] σ (OM σ (F_as A t k)) := by
  refine MJ_of (own := RX12) [some (.ref (ad X 112)), some (.int t), some (.int k)] (by decide) rfl (Nat.le_of_ble_eq_true rfl) rfl ?_
  refine rj_ald0 dX12_as_0 rfl ?_
  refine rj_ild1 dX12_as_1 rfl ?_
  refine rj_V1i (ci := 12) cX12_85 rfl (by decide) (by first | assumption | rfl) dX12_as_2 (c_X12_isTie hM) (fitM (by decide) (by decide)) (Nat.le_of_ble_eq_true rfl) ?_
  refine rj_if_eq (tgt := 15) dX12_as_5 (by decide) (fun h_5 => ?_) (fun h_5 => ?_)
  · have hb_5 := bz_t h_5
    refine rj_ald0 dX12_as_15 rfl ?_
    refine rj_ldc kX12_59 dX12_as_16 ?_
    refine rj_V1 (ci := 12) cX12_68 rfl (by decide) rfl dX12_as_18 (c_X12_finds (i := 0) hM (by decide) (by decide)) (fitM (by decide) (by decide)) (Nat.le_of_ble_eq_true rfl) ?_
    rintro v υq ⟨rfl, hq⟩
    simp only [Option.toList, List.cons_append, List.nil_append]
    refine rj_iret dX12_as_21 ?_
    have e : F_as A t k = fnd A 0 := by unfold F_as; rw [wT_out hb_5]
    rw [e]
    exact ⟨rfl, hq⟩
  · have hb_5 := bz_f h_5
    obtain ⟨j, hv, hj⟩ := mt_in hb_5
    have h12 := (wf_t hw hj).2.2.1
    have hlt : (nI (fT A j).2.length).toInt = (fT A j).2.length := nI_t (by omega)
    have h8 := hM.1.2.2.2.1
    obtain ⟨f1, f2, f3, f4⟩ := hM.1.2.2.2.2 j hj
    have f6 : σ.1 113 (4 + 14 * j) = nI (fT A j).2.length := f2
    have f7 : σ.1 113 (3 + 14 * j) = (fT A j).1 := f1
    refine rj_ild2 dX12_as_8 rfl ?_
    refine rj_S1i cX12_73 dX12_as_9 c_X12_isKind (fitM (by decide) (by decide)) (Nat.le_of_ble_eq_true rfl) ?_
    refine rj_if_ne (tgt := 22) dX12_as_12 (by decide) (fun h_12 => ?_) (fun h_12 => ?_)
    · have hb_12 := bz_f h_12
      have hu := und_is (k := (fT A j).1) (a := k) ⟨(wf_t hw hj).1, (wf_t hw hj).2.1⟩ hb_12
      refine rj_ald0 dX12_as_22 rfl ?_
      refine rj_ild1 dX12_as_23 rfl ?_
      refine rj_V1i (ci := 12) cX12_99 rfl (by decide) (by first | assumption | rfl) dX12_as_24 (c_X12_kindOf hM hv hj) (fitM (by decide) (by decide)) (Nat.le_of_ble_eq_true rfl) ?_
      refine rj_ild2 dX12_as_27 rfl ?_
      refine rj_S2i cX12_102 dX12_as_28 c_X12_isUnder (fitM (by decide) (by decide)) (Nat.le_of_ble_eq_true rfl) ?_
      refine rj_if_eq (tgt := 42) dX12_as_31 (by decide) (fun h_31 => ?_) (fun h_31 => ?_)
      · have hb_31 := bz_t h_31
        refine rj_ald0 dX12_as_42 rfl ?_
        refine rj_ldc kX12_106 dX12_as_43 ?_
        refine rj_V1 (ci := 12) cX12_68 rfl (by decide) rfl dX12_as_45 (c_X12_finds (i := 2) hM (by decide) (by decide)) (fitM (by decide) (by decide)) (Nat.le_of_ble_eq_true rfl) ?_
        rintro v υq ⟨rfl, hq⟩
        simp only [Option.toList, List.cons_append, List.nil_append]
        refine rj_iret dX12_as_48 ?_
        have e : F_as A t k = fnd A 2 := by unfold F_as; rw [wT_in hv hj, if_pos hb_12, if_neg (fun z => hb_31 (hu.mp z))]
        rw [e]
        exact ⟨rfl, hq⟩
      · have hb_31 := bz_f h_31
        refine rj_ald0 dX12_as_34 rfl ?_
        refine rj_ild1 dX12_as_35 rfl ?_
        refine rj_V1i (ci := 12) cX12_82 rfl (by decide) (by first | assumption | rfl) dX12_as_36 (c_X12_sizeOfRow hM hv hj) (fitM (by decide) (by decide)) (Nat.le_of_ble_eq_true rfl) ?_
        refine rj_goto (tgt := 48) dX12_as_39 (by decide) ?_
        refine rj_iret dX12_as_48 ?_
        have e : F_as A t k = (nI (fT A j).2.length, A) := by unfold F_as; rw [wT_in hv hj, if_pos hb_12, if_pos (hu.mpr hb_31)]
        rw [e]
        exact ⟨rfl, hM, off.rf⟩
    · have hb_12 := bz_t h_12
      refine rj_ald0 dX12_as_15 rfl ?_
      refine rj_ldc kX12_59 dX12_as_16 ?_
      refine rj_V1 (ci := 12) cX12_68 rfl (by decide) rfl dX12_as_18 (c_X12_finds (i := 0) hM (by decide) (by decide)) (fitM (by decide) (by decide)) (Nat.le_of_ble_eq_true rfl) ?_
      rintro v υq ⟨rfl, hq⟩
      simp only [Option.toList, List.cons_append, List.nil_append]
      refine rj_iret dX12_as_21 ?_
      have e : F_as A t k = fnd A 0 := by unfold F_as; rw [wT_in hv hj, if_neg hb_12]
      rw [e]
      exact ⟨rfl, hq⟩

set_option maxRecDepth 100000 in
theorem c_X12_drop {l : Launch} {X : CX} {σ : ST} {A : SA} (hM : MR σ A) (hw : wf A) {t : Int32} : MJ l X 2 yX12_drop cX12_drop 2 (some .int) [.ref (ad X 112), .int t] σ (OM σ (F_drop A t)) := by
  refine MJ_of (own := RX12) [some (.ref (ad X 112)), some (.int t)] (by decide) rfl (Nat.le_of_ble_eq_true rfl) rfl ?_
  refine rj_ald0 dX12_drop_0 rfl ?_
  refine rj_ild1 dX12_drop_1 rfl ?_
  refine rj_V1i (ci := 12) cX12_85 rfl (by decide) (by first | assumption | rfl) dX12_drop_2 (c_X12_isTie hM) (fitM (by decide) (by decide)) (Nat.le_of_ble_eq_true rfl) ?_
  refine rj_if_ne (tgt := 15) dX12_drop_5 (by decide) (fun h_5 => ?_) (fun h_5 => ?_)
  · have hb_5 := bz_f h_5
    obtain ⟨j, hv, hj⟩ := mt_in hb_5
    have h12 := (wf_t hw hj).2.2.1
    have hlt : (nI (fT A j).2.length).toInt = (fT A j).2.length := nI_t (by omega)
    have h8 := hM.1.2.2.2.1
    obtain ⟨f1, f2, f3, f4⟩ := hM.1.2.2.2.2 j hj
    have f6 : σ.1 113 (4 + 14 * j) = nI (fT A j).2.length := f2
    have f7 : σ.1 113 (3 + 14 * j) = (fT A j).1 := f1
    have hq1 := at_s (b := 1) hv (by omega) (by omega)
    rw [show nI 1 = (1 : Int32) from rfl] at hq1
    refine rj_ald0 dX12_drop_15 rfl ?_
    refine rj_ild1 dX12_drop_16 rfl ?_
    refine rj_V1i (ci := 12) cX12_82 rfl (by decide) (by first | assumption | rfl) dX12_drop_17 (c_X12_sizeOfRow hM hv hj) (fitM (by decide) (by decide)) (Nat.le_of_ble_eq_true rfl) ?_
    refine rj_if_ne (tgt := 30) dX12_drop_20 (by decide) (fun h_20 => ?_) (fun h_20 => ?_)
    · have hz : ¬ (fT A j).2.length = 0 := fun z => h_20 (by rw [z]; rfl)
      have hm1 : nI (fT A j).2.length - 1 = nI ((fT A j).2.length - 1) := by
        apply i_inj
        rw [i_sub (by rw [hlt, t1]; omega) (by rw [hlt, t1]; omega), hlt, t1, nI_t (by omega)]
        omega
      refine rj_ald0 dX12_drop_30 rfl ?_
      refine g12_7 dX12_drop_31 ?_
      refine rj_ild1 dX12_drop_34 rfl ?_
      refine rj_ic1 dX12_drop_35 ?_
      refine rj_S2i cX12_64 dX12_drop_36 c_X12_at (fitM (by decide) (by decide)) (Nat.le_of_ble_eq_true rfl) ?_
      refine rj_dup2 dX12_drop_39 rfl rfl ?_
      refine rj_iald (by first | assumption | rfl) (vpi (by omega) (by show _ < ((115 : Nat) : Int); omega)) dX12_drop_40 ?_
      refine rj_ic1 dX12_drop_41 ?_
      refine rj_isub dX12_drop_42 ?_
      refine rj_iast (by first | assumption | rfl) (vpi (by omega) (by show _ < ((115 : Nat) : Int); omega)) dX12_drop_43 ?_
      rw [hq1.2, show 3 + 14 * j + 1 = 4 + 14 * j by omega, f6, hm1]
      have htl : ((fT A j).2.take ((fT A j).2.length - 1)).length = (fT A j).2.length - 1 := by rw [List.length_take]; omega
      have hM1 := mr_tie (τ := ui σ 113 (4 + 14 * j) (nI ((fT A j).2.length - 1))) (k := (fT A j).1) (xs := (fT A j).2.take ((fT A j).2.length - 1)) hM hj (off_r off.rf) (fun b hb => by rw [ui_at, if_neg (by omega)]) (by rw [ui_at, if_neg (by omega)]; exact f7) (by rw [ui_same, htl]) (by omega) (fun i hi => by rw [htl] at hi; rw [ui_at, if_neg (by omega)]; exact (f4 i (by show i < (fT A j).2.length; omega)).trans (gd_take hi).symm)
      have hj1 : j < (sT A j ((fT A j).1, (fT A j).2.take ((fT A j).2.length - 1))).2.1.2.2.length := by rw [sT_len]; exact hj
      refine rj_ald0 dX12_drop_44 rfl ?_
      refine rj_ild1 dX12_drop_45 rfl ?_
      refine rj_ald0 dX12_drop_46 rfl ?_
      refine rj_ild1 dX12_drop_47 rfl ?_
      refine rj_V1i (ci := 12) cX12_82 rfl (by decide) (by first | assumption | rfl) dX12_drop_48 (c_X12_sizeOfRow hM1.1 hv hj1) (fitM (by decide) (by decide)) (Nat.le_of_ble_eq_true rfl) ?_
      rw [sT_fT _ hj, htl]
      refine rj_V2i (ci := 12) cX12_96 rfl (by decide) (by first | assumption | rfl) dX12_drop_51 (c_X12_crossingR hv (by omega) (by omega)) (fitM (by decide) (by decide)) (Nat.le_of_ble_eq_true rfl) ?_
      refine rj_iret dX12_drop_54 ?_
      have e : F_drop A t = ((fT A j).2.getD ((fT A j).2.length - 1) 0, sT A j ((fT A j).1, (fT A j).2.take ((fT A j).2.length - 1))) := by unfold F_drop; rw [wT_in hv hj, if_neg hz]
      rw [e]
      exact ⟨by rw [ui_at, if_neg (by omega)]; exact congrArg (fun z => some (Value.int z)) (f4 _ (by show (fT A j).2.length - 1 < (fT A j).2.length; omega)), hM1⟩
    · have hz : (fT A j).2.length = 0 := by have := congrArg Int32.toInt h_20; rw [hlt, t0] at this; omega
      refine rj_ald0 dX12_drop_23 rfl ?_
      refine rj_ldc kX12_95 dX12_drop_24 ?_
      refine rj_V1 (ci := 12) cX12_68 rfl (by decide) rfl dX12_drop_26 (c_X12_finds (i := 3) hM (by decide) (by decide)) (fitM (by decide) (by decide)) (Nat.le_of_ble_eq_true rfl) ?_
      rintro v υq ⟨rfl, hq⟩
      simp only [Option.toList, List.cons_append, List.nil_append]
      refine rj_iret dX12_drop_29 ?_
      have e : F_drop A t = fnd A 3 := by unfold F_drop; rw [wT_in hv hj, if_pos hz]
      rw [e]
      exact ⟨rfl, hq⟩
  · have hb_5 := bz_t h_5
    refine rj_ald0 dX12_drop_8 rfl ?_
    refine rj_ldc kX12_59 dX12_drop_9 ?_
    refine rj_V1 (ci := 12) cX12_68 rfl (by decide) rfl dX12_drop_11 (c_X12_finds (i := 0) hM (by decide) (by decide)) (fitM (by decide) (by decide)) (Nat.le_of_ble_eq_true rfl) ?_
    rintro v υq ⟨rfl, hq⟩
    simp only [Option.toList, List.cons_append, List.nil_append]
    refine rj_iret dX12_drop_14 ?_
    have e : F_drop A t = fnd A 0 := by unfold F_drop; rw [wT_out hb_5]
    rw [e]
    exact ⟨rfl, hq⟩

