/-! the reference: the best set -/
def BI (xs : List Int32) (n : Nat) (b : Int32) : Prop := (b = -1 ∧ ∀ s, s < n → ¬ NWk xs s) ∨ ∃ m, b = nI m ∧ m < n ∧ NWk xs m ∧ ∀ s, s < n → NWk xs s → kyS m ≤ kyS s
theorem bi_no {xs : List Int32} {n : Nat} {b : Int32} (h : BI xs n b) (hn : ¬ NWk xs n) : BI xs (n + 1) b := by
  rcases h with ⟨h1, h2⟩ | ⟨m, h1, h2, h3, h4⟩
  · refine Or.inl ⟨h1, fun s hs => ?_⟩
    by_cases z : s = n
    · rw [z]; exact hn
    · exact h2 s (by omega)
  · refine Or.inr ⟨m, h1, by omega, h3, fun s hs q => ?_⟩
    by_cases z : s = n
    · rw [z] at q; exact absurd q hn
    · exact h4 s (by omega) q
theorem bi_1 {xs : List Int32} {n : Nat} {b : Int32} (h : BI xs n b) (hb : b.toInt < 0) (hn : NWk xs n) (h4 : n ≤ 4096) : BI xs (n + 1) (nI n) := by
  rcases h with ⟨h1, h2⟩ | ⟨m, h1, h2, h3, h4⟩
  · refine Or.inr ⟨n, rfl, by omega, hn, fun s hs q => ?_⟩
    by_cases z : s = n
    · rw [z]; exact Nat.le_refl _
    · exact absurd q (h2 s (by omega))
  · rw [h1, nI_t (by omega)] at hb; omega
theorem bi_2 {xs : List Int32} {n m : Nat} (hn : n < 4096) (hm : m < n) (h4 : ∀ s, s < n → NWk xs s → kyS m ≤ kyS s) (ho : onN 12 (nI n) < onN 12 (nI m)) (hw : NWk xs n) : BI xs (n + 1) (nI n) := by
  refine Or.inr ⟨n, rfl, by omega, hw, fun s hs q => ?_⟩
  by_cases z : s = n
  · rw [z]; exact Nat.le_refl _
  · have := h4 s (by omega) q
    rw [(on_i hn).2]
    rw [(on_i (show m < 4096 by omega)).2] at this
    omega
theorem bi_3 {xs : List Int32} {n m : Nat} (hn : n < 4096) (hm : m < n) (hw : NWk xs m) (h4 : ∀ s, s < n → NWk xs s → kyS m ≤ kyS s) (ho : ¬ onN 12 (nI n) < onN 12 (nI m)) : BI xs (n + 1) (nI m) := by
  refine Or.inr ⟨m, rfl, by omega, hw, fun s hs q => ?_⟩
  by_cases z : s = n
  · rw [z, (on_i hn).2, (on_i (show m < 4096 by omega)).2]; omega
  · exact h4 s (by omega) q
theorem bi_y {xs : List Int32} {b : Int32} (h12 : xs.length ≤ 12) (h : BI xs (2 ^ xs.length) b) (hc : cs xs 0 xs.length < 16777216) : b = nI (cs xs 0 xs.length % 4096) ∧ onN 12 b = cs xs 0 xs.length / 4096 ∧ cs xs 0 xs.length % 4096 < 4096 := by
  obtain ⟨S, h1, h2, h3⟩ := best_hi h12 hc
  have hp := p12 h12
  rcases h with ⟨q1, q2⟩ | ⟨m, q1, q2, q3, q4⟩
  · exact absurd h2 (q2 S h1)
  · have l1 := best_lo h12 q2 q3
    have l2 := q4 S h1 h2
    have l3 := (on_i (show m < 4096 by omega)).2
    have l4 : 4096 * onN 12 (nI m) + m = cs xs 0 xs.length := by omega
    exact ⟨by rw [q1, show cs xs 0 xs.length % 4096 = m by omega], by rw [q1]; omega, by omega⟩
theorem bi_n {xs : List Int32} {b : Int32} (h12 : xs.length ≤ 12) (h : BI xs (2 ^ xs.length) b) (hc : ¬ cs xs 0 xs.length < 16777216) : b = -1 := by
  have hp := p12 h12
  rcases h with ⟨q1, q2⟩ | ⟨m, q1, q2, q3, q4⟩
  · exact q1
  · have l1 := best_lo h12 q2 q3
    have l3 := (on_i (show m < 4096 by omega)).2
    have l4 := onN_le 12 (nI m)
    omega
set_option maxRecDepth 100000 in
theorem l_X12_bestSet {l : Launch} {X : CX} {h : Nat} {Q : Option Value → ST → Prop} {σ : ST} {A : SA} {j : Nat} {t : Int32} (hh : 4 ≤ h) (hM : MR σ A) (hw : wf A) (ht : t.toInt = j) (hj : j < A.2.1.2.2.length) (hQ : ∀ b τ, BI (fT A j).2 (2 ^ (fT A j).2.length) b → mq σ τ → Q (some (.int b)) τ) : ∀ (N i : Nat) (τ : ST) (b : Int32) (y : Option Value), 2 ^ (fT A j).2.length < i + N → (i ≤ 2 ^ (fT A j).2.length ∧ mq σ τ ∧ BI (fT A j).2 i b) → RJ (GM l X h Q) X cX12_bestSet 5 (some .int) RX12 4 [some (.ref (ad X 112)), some (.int t), some (.int b), some (.int (nI i)), y] [] τ := by
  intro N
  induction N with
  | zero => intro i τ b y hN hi; have := hi.1; exact absurd hN (by omega)
  | succ N ih =>
    intro i τ b y hN hi
    obtain ⟨hi, ho, hb⟩ := hi
    have hM1 := mr_s hM ho
    have h12 := (wf_t hw hj).2.2.1
    have hp := p12 h12
    have hit : (nI i).toInt = i := nI_t (by omega)
    have hpt : (nI (2 ^ (fT A j).2.length)).toInt = (2 ^ (fT A j).2.length : Nat) := nI_t (by omega)
    refine rj_ild3 dX12_bestSet_4 rfl ?_
    refine rj_ic1 dX12_bestSet_5 ?_
    refine rj_ald0 dX12_bestSet_6 rfl ?_
    refine rj_ild1 dX12_bestSet_7 rfl ?_
    refine rj_V1i (ci := 12) cX12_82 rfl (by decide) (by first | assumption | rfl) dX12_bestSet_8 (c_X12_sizeOfRow hM1 ht hj) (fitM (by omega) (by decide)) (Nat.le_of_ble_eq_true rfl) ?_
    refine rj_ishl dX12_bestSet_11 ?_
    rw [sh_i _ (by omega)]
    refine rj_ic_ge (tgt := 59) dX12_bestSet_12 (by decide) (fun h_12 => ?_) (fun h_12 => ?_)
    · refine rj_ild2 dX12_bestSet_59 rfl ?_
      refine rj_iret dX12_bestSet_60 ?_
      rw [show i = 2 ^ (fT A j).2.length by omega] at hb
      exact hQ b τ hb ho
    · refine rj_ild2 dX12_bestSet_15 rfl ?_
      refine rj_if_lt (tgt := 30) dX12_bestSet_16 (by decide) (fun h_16 => ?_) (fun h_16 => ?_)
      · refine rj_ic1 dX12_bestSet_30 ?_
        refine rj_goto (tgt := 35) dX12_bestSet_31 (by decide) ?_
        refine rj_ist4w dX12_bestSet_35 (by decide) rfl ?_
        refine rj_ild dX12_bestSet_37 rfl ?_
        refine rj_if_eq (tgt := 53) dX12_bestSet_39 (by decide) (fun h_39 => ?_) (fun h_39 => ?_)
        · exact absurd h_39 (by decide)
        · refine rj_ald0 dX12_bestSet_42 rfl ?_
          refine rj_ild1 dX12_bestSet_43 rfl ?_
          refine rj_ild3 dX12_bestSet_44 rfl ?_
          refine rj_V2 (ci := 12) cX12_206 rfl (by decide) (by first | assumption | rfl) dX12_bestSet_45 (c_X12_isNoneWith hM1 hw ht hj (S := i) (by omega)) (fitM (by omega) (by decide)) (Nat.le_of_ble_eq_true rfl) ?_
          rintro v υ ⟨rfl, ho1⟩
          simp only [Option.toList, List.cons_append, List.nil_append]
          refine rj_if_eq (tgt := 53) dX12_bestSet_48 (by decide) (fun h_48 => ?_) (fun h_48 => ?_)
          · have hnw := bz_t h_48
            refine rj_iinc3 (d := 1) dX12_bestSet_53 (by decide) rfl (by decide) ?_
            rw [nI_1]
            refine rj_goto (tgt := 4) dX12_bestSet_56 (by decide) ?_
            exact ih (i + 1) υ _ _ (by omega) ⟨by omega, mq_tr ho ho1, bi_no hb hnw⟩
          · have hnw := bz_f h_48
            refine rj_ild3 dX12_bestSet_51 rfl ?_
            refine rj_ist2 dX12_bestSet_52 (by decide) rfl ?_
            refine rj_iinc3 (d := 1) dX12_bestSet_53 (by decide) rfl (by decide) ?_
            rw [nI_1]
            refine rj_goto (tgt := 4) dX12_bestSet_56 (by decide) ?_
            exact ih (i + 1) υ _ _ (by omega) ⟨by omega, mq_tr ho ho1, bi_1 hb h_16 hnw (by omega)⟩
      · obtain ⟨m, rfl, hm2, hm3, hm4⟩ : ∃ m, b = nI m ∧ m < i ∧ NWk (fT A j).2 m ∧ ∀ s, s < i → NWk (fT A j).2 s → kyS m ≤ kyS s := by
          rcases hb with ⟨q, _⟩ | q
          · rw [q] at h_16; exact absurd h_16 (by decide)
          · exact q
        have o1 := onN_le 12 (nI i)
        have o2 := onN_le 12 (nI m)
        have o3 : (nI (onN 12 (nI i))).toInt = onN 12 (nI i) := nI_t (by omega)
        have o4 : (nI (onN 12 (nI m))).toInt = onN 12 (nI m) := nI_t (by omega)
        refine rj_ild3 dX12_bestSet_19 rfl ?_
        refine rj_S1i cX12_209 dX12_bestSet_20 (c_X12_ones (by omega)) (fitM (by omega) (by decide)) (Nat.le_of_ble_eq_true rfl) ?_
        refine rj_ild2 dX12_bestSet_23 rfl ?_
        refine rj_S1i cX12_209 dX12_bestSet_24 (c_X12_ones (by omega)) (fitM (by omega) (by decide)) (Nat.le_of_ble_eq_true rfl) ?_
        refine rj_ic_ge (tgt := 34) dX12_bestSet_27 (by decide) (fun h_27 => ?_) (fun h_27 => ?_)
        · refine rj_ic0 dX12_bestSet_34 ?_
          refine rj_ist4w dX12_bestSet_35 (by decide) rfl ?_
          refine rj_ild dX12_bestSet_37 rfl ?_
          refine rj_if_eq (tgt := 53) dX12_bestSet_39 (by decide) (fun h_39 => ?_) (fun h_39 => ?_)
          · refine rj_iinc3 (d := 1) dX12_bestSet_53 (by decide) rfl (by decide) ?_
            rw [nI_1]
            refine rj_goto (tgt := 4) dX12_bestSet_56 (by decide) ?_
            exact ih (i + 1) τ _ _ (by omega) ⟨by omega, ho, bi_3 (by omega) hm2 hm3 hm4 (by omega)⟩
          · exact absurd rfl h_39
        · refine rj_ic1 dX12_bestSet_30 ?_
          refine rj_goto (tgt := 35) dX12_bestSet_31 (by decide) ?_
          refine rj_ist4w dX12_bestSet_35 (by decide) rfl ?_
          refine rj_ild dX12_bestSet_37 rfl ?_
          refine rj_if_eq (tgt := 53) dX12_bestSet_39 (by decide) (fun h_39 => ?_) (fun h_39 => ?_)
          · exact absurd h_39 (by decide)
          · refine rj_ald0 dX12_bestSet_42 rfl ?_
            refine rj_ild1 dX12_bestSet_43 rfl ?_
            refine rj_ild3 dX12_bestSet_44 rfl ?_
            refine rj_V2 (ci := 12) cX12_206 rfl (by decide) (by first | assumption | rfl) dX12_bestSet_45 (c_X12_isNoneWith hM1 hw ht hj (S := i) (by omega)) (fitM (by omega) (by decide)) (Nat.le_of_ble_eq_true rfl) ?_
            rintro v υ ⟨rfl, ho1⟩
            simp only [Option.toList, List.cons_append, List.nil_append]
            refine rj_if_eq (tgt := 53) dX12_bestSet_48 (by decide) (fun h_48 => ?_) (fun h_48 => ?_)
            · have hnw := bz_t h_48
              refine rj_iinc3 (d := 1) dX12_bestSet_53 (by decide) rfl (by decide) ?_
              rw [nI_1]
              refine rj_goto (tgt := 4) dX12_bestSet_56 (by decide) ?_
              exact ih (i + 1) υ _ _ (by omega) ⟨by omega, mq_tr ho ho1, bi_no (Or.inr ⟨m, rfl, hm2, hm3, hm4⟩) hnw⟩
            · have hnw := bz_f h_48
              refine rj_ild3 dX12_bestSet_51 rfl ?_
              refine rj_ist2 dX12_bestSet_52 (by decide) rfl ?_
              refine rj_iinc3 (d := 1) dX12_bestSet_53 (by decide) rfl (by decide) ?_
              rw [nI_1]
              refine rj_goto (tgt := 4) dX12_bestSet_56 (by decide) ?_
              exact ih (i + 1) υ _ _ (by omega) ⟨by omega, mq_tr ho ho1, bi_2 (by omega) hm2 hm4 (by omega) hnw⟩

set_option maxRecDepth 100000 in
theorem c_X12_bestSet {l : Launch} {X : CX} {σ : ST} {A : SA} (hM : MR σ A) (hw : wf A) {t : Int32} {j : Nat} (ht : t.toInt = j) (hj : j < A.2.1.2.2.length) : MJ l X 4 yX12_bestSet cX12_bestSet 5 (some .int) [.ref (ad X 112), .int t] σ ((fun v τ => ∃ b, v = some (.int b) ∧ BI (fT A j).2 (2 ^ (fT A j).2.length) b ∧ mq σ τ)) := by
  refine MJ_of (own := RX12) [some (.ref (ad X 112)), some (.int t), none, none, none] (by decide) rfl (Nat.le_of_ble_eq_true rfl) rfl ?_
  refine rj_icm1 dX12_bestSet_0 ?_
  refine rj_ist2 dX12_bestSet_1 (by decide) rfl ?_
  refine rj_ic0 dX12_bestSet_2 ?_
  refine rj_ist3 dX12_bestSet_3 (by decide) rfl ?_
  exact l_X12_bestSet (by decide) hM hw ht hj (fun b τ h1 h2 => ⟨b, rfl, h1, h2⟩) (2 ^ (fT A j).2.length + 1) 0 σ (-1) _ (by rw [Nat.zero_add]; exact Nat.lt_succ_self _) ⟨Nat.zero_le _, mq_rf, Or.inl ⟨rfl, fun s hs => absurd hs (by omega)⟩⟩

theorem c_X12_onesB {l : Launch} {X : CX} {σ : ST} {b : Int32} {S : Nat} (hb : b = nI S) (hS : S < 4096) : MJ l X 0 yX12_ones cX12_ones 3 (some .int) [.int b] σ (eqI (nI (onN 12 b)) σ) := by
  subst hb
  exact c_X12_ones hS
set_option maxRecDepth 100000 in
theorem c_X12_fewest {l : Launch} {X : CX} {σ : ST} {A : SA} (hM : MR σ A) (hw : wf A) {t : Int32} : MJ l X 5 yX12_fewest cX12_fewest 3 (some .int) [.ref (ad X 112), .int t] σ (OM σ (F_fewest A t)) := by
  refine MJ_of (own := RX12) [some (.ref (ad X 112)), some (.int t), none] (by decide) rfl (Nat.le_of_ble_eq_true rfl) rfl ?_
  refine rj_ald0 dX12_fewest_0 rfl ?_
  refine rj_ild1 dX12_fewest_1 rfl ?_
  refine rj_V1i (ci := 12) cX12_85 rfl (by decide) (by first | assumption | rfl) dX12_fewest_2 (c_X12_isTie hM) (fitM (by decide) (by decide)) (Nat.le_of_ble_eq_true rfl) ?_
  refine rj_if_ne (tgt := 15) dX12_fewest_5 (by decide) (fun h_5 => ?_) (fun h_5 => ?_)
  · have hb_5 := bz_f h_5
    obtain ⟨j, hv, hj⟩ := mt_in hb_5
    have h12 := (wf_t hw hj).2.2.1
    have hlt : (nI (fT A j).2.length).toInt = (fT A j).2.length := nI_t (by omega)
    have h8 := hM.1.2.2.2.1
    obtain ⟨f1, f2, f3, f4⟩ := hM.1.2.2.2.2 j hj
    have f6 : σ.1 113 (4 + 14 * j) = nI (fT A j).2.length := f2
    have f7 : σ.1 113 (3 + 14 * j) = (fT A j).1 := f1
    refine rj_ald0 dX12_fewest_15 rfl ?_
    refine rj_ild1 dX12_fewest_16 rfl ?_
    refine rj_V1 (ci := 12) cX12_212 rfl (by decide) (by first | assumption | rfl) dX12_fewest_17 (c_X12_bestSet hM hw hv hj) (fitM (by decide) (by decide)) (Nat.le_of_ble_eq_true rfl) ?_
    rintro v υ ⟨b, rfl, hbi, ho1⟩
    simp only [Option.toList, List.cons_append, List.nil_append]
    have hM1 := mr_s hM ho1
    refine rj_ist2 dX12_fewest_20 (by decide) rfl ?_
    refine rj_ild2 dX12_fewest_21 rfl ?_
    refine rj_if_ge (tgt := 34) dX12_fewest_22 (by decide) (fun h_22 => ?_) (fun h_22 => ?_)
    · have hcs : cs (fT A j).2 0 (fT A j).2.length < 16777216 := Classical.byContradiction (fun q => by rw [bi_n h12 hbi q] at h_22; exact absurd h_22 (by decide))
      have hby := bi_y h12 hbi hcs
      refine rj_ild2 dX12_fewest_34 rfl ?_
      refine rj_S1i cX12_209 dX12_fewest_35 (c_X12_onesB hby.1 hby.2.2) (fitM (by decide) (by decide)) (Nat.le_of_ble_eq_true rfl) ?_
      refine rj_iret dX12_fewest_38 ?_
      have e : F_fewest A t = (nI (cs (fT A j).2 0 (fT A j).2.length / 4096), A) := by unfold F_fewest; rw [wT_in hv hj, if_pos hcs]
      rw [e]
      exact ⟨by rw [hby.2.1], hM1, mq_md ho1⟩
    · have hcs : ¬ cs (fT A j).2 0 (fT A j).2.length < 16777216 := fun q => by
        have hby := bi_y h12 hbi q
        rw [hby.1, nI_t (by omega)] at h_22
        omega
      refine rj_ald0 dX12_fewest_25 rfl ?_
      refine rj_ldc kX12_95 dX12_fewest_26 ?_
      refine rj_V1 (ci := 12) cX12_68 rfl (by decide) rfl dX12_fewest_28 (c_X12_finds (i := 3) hM1 (by decide) (by decide)) (fitM (by decide) (by decide)) (Nat.le_of_ble_eq_true rfl) ?_
      rintro v υq ⟨rfl, hq⟩
      simp only [Option.toList, List.cons_append, List.nil_append]
      refine rj_goto (tgt := 38) dX12_fewest_31 (by decide) ?_
      refine rj_iret dX12_fewest_38 ?_
      have e : F_fewest A t = fnd A 3 := by unfold F_fewest; rw [wT_in hv hj, if_neg hcs]
      rw [e]
      exact ⟨rfl, hq.1, (mq_md ho1).tr hq.2⟩
  · have hb_5 := bz_t h_5
    refine rj_ald0 dX12_fewest_8 rfl ?_
    refine rj_ldc kX12_59 dX12_fewest_9 ?_
    refine rj_V1 (ci := 12) cX12_68 rfl (by decide) rfl dX12_fewest_11 (c_X12_finds (i := 0) hM (by decide) (by decide)) (fitM (by decide) (by decide)) (Nat.le_of_ble_eq_true rfl) ?_
    rintro v υq ⟨rfl, hq⟩
    simp only [Option.toList, List.cons_append, List.nil_append]
    refine rj_iret dX12_fewest_14 ?_
    have e : F_fewest A t = fnd A 0 := by unfold F_fewest; rw [wT_out hb_5]
    rw [e]
    exact ⟨rfl, hq⟩

set_option maxRecDepth 100000 in
theorem c_X12_turned {l : Launch} {X : CX} {σ : ST} {A : SA} (hM : MR σ A) (hw : wf A) {t : Int32} : MJ l X 5 yX12_turned cX12_turned 3 (some .int) [.ref (ad X 112), .int t] σ (OM σ (F_turned A t)) := by
  refine MJ_of (own := RX12) [some (.ref (ad X 112)), some (.int t), none] (by decide) rfl (Nat.le_of_ble_eq_true rfl) rfl ?_
  refine rj_ald0 dX12_turned_0 rfl ?_
  refine rj_ild1 dX12_turned_1 rfl ?_
  refine rj_V1i (ci := 12) cX12_85 rfl (by decide) (by first | assumption | rfl) dX12_turned_2 (c_X12_isTie hM) (fitM (by decide) (by decide)) (Nat.le_of_ble_eq_true rfl) ?_
  refine rj_if_ne (tgt := 15) dX12_turned_5 (by decide) (fun h_5 => ?_) (fun h_5 => ?_)
  · have hb_5 := bz_f h_5
    obtain ⟨j, hv, hj⟩ := mt_in hb_5
    have h12 := (wf_t hw hj).2.2.1
    have hlt : (nI (fT A j).2.length).toInt = (fT A j).2.length := nI_t (by omega)
    have h8 := hM.1.2.2.2.1
    obtain ⟨f1, f2, f3, f4⟩ := hM.1.2.2.2.2 j hj
    have f6 : σ.1 113 (4 + 14 * j) = nI (fT A j).2.length := f2
    have f7 : σ.1 113 (3 + 14 * j) = (fT A j).1 := f1
    refine rj_ald0 dX12_turned_15 rfl ?_
    refine rj_ild1 dX12_turned_16 rfl ?_
    refine rj_V1 (ci := 12) cX12_212 rfl (by decide) (by first | assumption | rfl) dX12_turned_17 (c_X12_bestSet hM hw hv hj) (fitM (by decide) (by decide)) (Nat.le_of_ble_eq_true rfl) ?_
    rintro v υ ⟨b, rfl, hbi, ho1⟩
    simp only [Option.toList, List.cons_append, List.nil_append]
    have hM1 := mr_s hM ho1
    refine rj_ist2 dX12_turned_20 (by decide) rfl ?_
    refine rj_ild2 dX12_turned_21 rfl ?_
    refine rj_if_ge (tgt := 34) dX12_turned_22 (by decide) (fun h_22 => ?_) (fun h_22 => ?_)
    · have hcs : cs (fT A j).2 0 (fT A j).2.length < 16777216 := Classical.byContradiction (fun q => by rw [bi_n h12 hbi q] at h_22; exact absurd h_22 (by decide))
      have hby := bi_y h12 hbi hcs
      refine rj_ild2 dX12_turned_34 rfl ?_
      refine rj_iret dX12_turned_35 ?_
      have e : F_turned A t = (nI (cs (fT A j).2 0 (fT A j).2.length % 4096), A) := by unfold F_turned; rw [wT_in hv hj, if_pos hcs]
      rw [e]
      exact ⟨by rw [hby.1], hM1, mq_md ho1⟩
    · have hcs : ¬ cs (fT A j).2 0 (fT A j).2.length < 16777216 := fun q => by
        have hby := bi_y h12 hbi q
        rw [hby.1, nI_t (by omega)] at h_22
        omega
      refine rj_ald0 dX12_turned_25 rfl ?_
      refine rj_ldc kX12_95 dX12_turned_26 ?_
      refine rj_V1 (ci := 12) cX12_68 rfl (by decide) rfl dX12_turned_28 (c_X12_finds (i := 3) hM1 (by decide) (by decide)) (fitM (by decide) (by decide)) (Nat.le_of_ble_eq_true rfl) ?_
      rintro v υq ⟨rfl, hq⟩
      simp only [Option.toList, List.cons_append, List.nil_append]
      refine rj_goto (tgt := 35) dX12_turned_31 (by decide) ?_
      refine rj_iret dX12_turned_35 ?_
      have e : F_turned A t = fnd A 3 := by unfold F_turned; rw [wT_in hv hj, if_neg hcs]
      rw [e]
      exact ⟨rfl, hq.1, (mq_md ho1).tr hq.2⟩
  · have hb_5 := bz_t h_5
    refine rj_ald0 dX12_turned_8 rfl ?_
    refine rj_ldc kX12_59 dX12_turned_9 ?_
    refine rj_V1 (ci := 12) cX12_68 rfl (by decide) rfl dX12_turned_11 (c_X12_finds (i := 0) hM (by decide) (by decide)) (fitM (by decide) (by decide)) (Nat.le_of_ble_eq_true rfl) ?_
    rintro v υq ⟨rfl, hq⟩
    simp only [Option.toList, List.cons_append, List.nil_append]
    refine rj_iret dX12_turned_14 ?_
    have e : F_turned A t = fnd A 0 := by unfold F_turned; rw [wT_out hb_5]
    rw [e]
    exact ⟨rfl, hq⟩

theorem beR_s (f : Nat → Nat) (n i : Nat) (b m : Int32) : beR f (n + 1) i b m = if (nI (f i)).toInt < m.toInt then beR f n (i + 1) (nI i) (nI (f i)) else beR f n (i + 1) b m := rfl
set_option maxRecDepth 100000 in
theorem l_X12_best {l : Launch} {X : CX} {h : Nat} {Q : Option Value → ST → Prop} {σ : ST} {A : SA} {j : Nat} {t : Int32} (hh : 3 ≤ h) (hM : MR σ A) (hw : wf A) (ht : t.toInt = j) (hj : j < A.2.1.2.2.length) {r : Int32} (hQ : ∀ τ, mq σ τ → Q (some (.int r)) τ) : ∀ (N i : Nat) (τ : ST) (b m : Int32), 6 < i + N → (i ≤ 6 ∧ mq σ τ ∧ r = beR (beF A j) (6 - i) i b m) → RJ (GM l X h Q) X cX12_best 5 (some .int) RX12 23 [some (.ref (ad X 112)), some (.int t), some (.int b), some (.int m), some (.int (nI i))] [] τ := by
  intro N
  induction N with
  | zero => intro i τ b m hN hi; have := hi.1; exact absurd hN (by omega)
  | succ N ih =>
    intro i τ b m hN hi
    obtain ⟨hi, ho, hr⟩ := hi
    have hM1 := mr_s hM ho
    have h12 := (wf_t hw hj).2.2.1
    have hok := (wf_t hw hj).2.2.2
    have hit : (nI i).toInt = i := nI_t (by omega)
    have q5 : (5 : Int32).toInt = 5 := by decide
    refine rj_ild dX12_best_23 rfl ?_
    refine rj_ic5 dX12_best_25 ?_
    refine rj_ic_gt (tgt := 82) dX12_best_26 (by decide) (fun h_26 => ?_) (fun h_26 => ?_)
    · refine rj_ild2 dX12_best_82 rfl ?_
      refine rj_iret dX12_best_83 ?_
      rw [show 6 - i = 0 by omega] at hr
      have hr2 : r = b := hr
      have := hQ τ ho
      rw [hr2] at this
      exact this
    · refine rj_ald0 dX12_best_29 rfl ?_
      refine rj_ild1 dX12_best_30 rfl ?_
      refine rj_V1 (ci := 12) cX12_117 rfl (by decide) (by first | assumption | rfl) dX12_best_31 (c_X12_tries hM1 ht hj h12) (fitM (by omega) (by decide)) (Nat.le_of_ble_eq_true rfl) ?_
      rintro v υ ⟨rfl, hx1, hn1⟩
      simp only [Option.toList, List.nil_append]
      have hM2 := mr_s hM1 (nq_mq hn1 (by omega) (by omega))
      refine rj_ald0 dX12_best_34 rfl ?_
      refine rj_ild dX12_best_35 rfl ?_
      refine rj_V1 (ci := 12) cX12_120 rfl (by decide) (by first | assumption | rfl) dX12_best_37 (c_X12_laysAs hM2 hx1 (fun i hi => okL_nz hok hi)) (fitM (by omega) (by decide)) (Nat.le_of_ble_eq_true rfl) ?_
      rintro v υ2 ⟨rfl, hx2, hn2⟩
      simp only [Option.toList, List.nil_append]
      refine rj_ald0 dX12_best_40 rfl ?_
      refine rj_V0 (ci := 12) cX12_138 rfl (by decide) (by first | assumption | rfl) dX12_best_41 (c_X12_pullLaid hx2) (fitM (by omega) (by decide)) (Nat.le_of_ble_eq_true rfl) ?_
      rintro v υ3 ⟨rfl, hx3, hn3⟩
      simp only [Option.toList, List.nil_append]
      have hl : υ3.1 112 6 = nI (beF A j i) := hx3.1
      have hmm := mq_tr (mq_tr (mq_tr ho (nq_mq hn1 (by omega) (by omega))) (nq_mq hn2 (by omega) (by omega))) (nq_mq hn3 (by omega) (by omega))
      rw [show 6 - i = (6 - (i + 1)) + 1 by omega, beR_s] at hr
      refine rj_ald0 dX12_best_44 rfl ?_
      refine g12_129 dX12_best_45 ?_
      rw [hl]
      refine rj_ild3 dX12_best_48 rfl ?_
      refine rj_ic_ge (tgt := 57) dX12_best_49 (by decide) (fun h_49 => ?_) (fun h_49 => ?_)
      · refine rj_ild2 dX12_best_57 rfl ?_
        refine rj_ist2 dX12_best_58 (by decide) rfl ?_
        refine rj_ald0 dX12_best_59 rfl ?_
        refine g12_129 dX12_best_60 ?_
        rw [hl]
        refine rj_ild3 dX12_best_63 rfl ?_
        refine rj_ic_ge (tgt := 74) dX12_best_64 (by decide) (fun h_64 => ?_) (fun h_64 => ?_)
        · refine rj_ild3 dX12_best_74 rfl ?_
          refine rj_ist3 dX12_best_75 (by decide) rfl ?_
          refine rj_iinc4 (d := 1) dX12_best_76 (by decide) rfl (by decide) ?_
          rw [nI_1]
          refine rj_goto (tgt := 23) dX12_best_79 (by decide) ?_
          rw [if_neg (by omega)] at hr
          exact ih (i + 1) υ3 _ _ (by omega) ⟨by omega, hmm, hr⟩
        · exfalso; omega
      · refine rj_ild dX12_best_52 rfl ?_
        refine rj_goto (tgt := 58) dX12_best_54 (by decide) ?_
        refine rj_ist2 dX12_best_58 (by decide) rfl ?_
        refine rj_ald0 dX12_best_59 rfl ?_
        refine g12_129 dX12_best_60 ?_
        rw [hl]
        refine rj_ild3 dX12_best_63 rfl ?_
        refine rj_ic_ge (tgt := 74) dX12_best_64 (by decide) (fun h_64 => ?_) (fun h_64 => ?_)
        · exfalso; omega
        · refine rj_ald0 dX12_best_67 rfl ?_
          refine g12_129 dX12_best_68 ?_
          rw [hl]
          refine rj_goto (tgt := 75) dX12_best_71 (by decide) ?_
          refine rj_ist3 dX12_best_75 (by decide) rfl ?_
          refine rj_iinc4 (d := 1) dX12_best_76 (by decide) rfl (by decide) ?_
          rw [nI_1]
          refine rj_goto (tgt := 23) dX12_best_79 (by decide) ?_
          rw [if_pos h_49] at hr
          exact ih (i + 1) υ3 _ _ (by omega) ⟨by omega, hmm, hr⟩

set_option maxRecDepth 100000 in
theorem c_X12_best {l : Launch} {X : CX} {σ : ST} {A : SA} (hM : MR σ A) (hw : wf A) {t : Int32} : MJ l X 3 yX12_best cX12_best 5 (some .int) [.ref (ad X 112), .int t] σ (OM σ (F_best A t)) := by
  refine MJ_of (own := RX12) [some (.ref (ad X 112)), some (.int t), none, none, none] (by decide) rfl (Nat.le_of_ble_eq_true rfl) rfl ?_
  refine rj_ald0 dX12_best_0 rfl ?_
  refine rj_ild1 dX12_best_1 rfl ?_
  refine rj_V1i (ci := 12) cX12_85 rfl (by decide) (by first | assumption | rfl) dX12_best_2 (c_X12_isTie hM) (fitM (by decide) (by decide)) (Nat.le_of_ble_eq_true rfl) ?_
  refine rj_if_ne (tgt := 15) dX12_best_5 (by decide) (fun h_5 => ?_) (fun h_5 => ?_)
  · have hb_5 := bz_f h_5
    obtain ⟨j, hv, hj⟩ := mt_in hb_5
    have h12 := (wf_t hw hj).2.2.1
    have hlt : (nI (fT A j).2.length).toInt = (fT A j).2.length := nI_t (by omega)
    have h8 := hM.1.2.2.2.1
    obtain ⟨f1, f2, f3, f4⟩ := hM.1.2.2.2.2 j hj
    have f6 : σ.1 113 (4 + 14 * j) = nI (fT A j).2.length := f2
    have f7 : σ.1 113 (3 + 14 * j) = (fT A j).1 := f1
    refine rj_ic0 dX12_best_15 ?_
    refine rj_ist2 dX12_best_16 (by decide) rfl ?_
    refine rj_bipush (v := 25) dX12_best_17 (by decide) ?_
    refine rj_ist3 dX12_best_19 (by decide) rfl ?_
    refine rj_ic0 dX12_best_20 ?_
    refine rj_ist4w dX12_best_21 (by decide) rfl ?_
    have e : F_best A t = (beR (beF A j) 6 0 0 25, A) := by unfold F_best; rw [wT_in hv hj]
    rw [e]
    exact l_X12_best (by decide) hM hw hv hj (fun τ h => ⟨rfl, mr_s hM h, mq_md h⟩) 7 0 σ 0 25 (by omega) ⟨by omega, mq_rf, rfl⟩
  · have hb_5 := bz_t h_5
    refine rj_ald0 dX12_best_8 rfl ?_
    refine rj_ldc kX12_59 dX12_best_9 ?_
    refine rj_V1 (ci := 12) cX12_68 rfl (by decide) rfl dX12_best_11 (c_X12_finds (i := 0) hM (by decide) (by decide)) (fitM (by decide) (by decide)) (Nat.le_of_ble_eq_true rfl) ?_
    rintro v υq ⟨rfl, hq⟩
    simp only [Option.toList, List.cons_append, List.nil_append]
    refine rj_iret dX12_best_14 ?_
    have e : F_best A t = fnd A 0 := by unfold F_best; rw [wT_out hb_5]
    rw [e]
    exact ⟨rfl, hq⟩

