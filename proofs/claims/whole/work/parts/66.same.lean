/-! the reference: same -/
set_option maxRecDepth 100000 in
theorem c_X12_layTie3 {l : Launch} {X : CX} {σ : ST} {A : SA} (hM : MR σ A) (hw : wf A) {t : Int32} {j : Nat} (ht : t.toInt = j) (hj : j < A.2.1.2.2.length) : MJ l X 3 yX12_layTie cX12_layTie 2 none [.ref (ad X 112), .int t] σ (PV (fun τ => LD τ (lyA A j) ∧ mq σ τ ∧ τ.1 121 = σ.1 121)) := by
  refine MJ_of (own := RX12) [some (.ref (ad X 112)), some (.int t)] (by decide) rfl (Nat.le_of_ble_eq_true rfl) rfl ?_
  have h12 := (wf_t hw hj).2.2.1
  have hok := (wf_t hw hj).2.2.2
  refine rj_ald0 dX12_layTie_0 rfl ?_
  refine rj_ild1 dX12_layTie_1 rfl ?_
  refine rj_V1 (ci := 12) cX12_117 rfl (by decide) (by first | assumption | rfl) dX12_layTie_2 (c_X12_tries hM ht hj h12) (fitM (by decide) (by decide)) (Nat.le_of_ble_eq_true rfl) ?_
  rintro v υ ⟨rfl, hx1, hn1⟩
  simp only [Option.toList, List.nil_append]
  have hM1 := mr_s hM (nq_mq hn1 (by omega) (by omega))
  refine rj_ald0 dX12_layTie_5 rfl ?_
  refine rj_ald0 dX12_layTie_6 rfl ?_
  refine rj_ild1 dX12_layTie_7 rfl ?_
  refine rj_V1i (ci := 12) cX12_99 rfl (by decide) (by first | assumption | rfl) dX12_layTie_8 (c_X12_kindOf hM1 ht hj) (fitM (by decide) (by decide)) (Nat.le_of_ble_eq_true rfl) ?_
  refine rj_V1 (ci := 12) cX12_120 rfl (by decide) (by first | assumption | rfl) dX12_layTie_11 (c_X12_laysAs hM1 hx1 (fun i hi => okL_nz hok hi)) (fitM (by decide) (by decide)) (Nat.le_of_ble_eq_true rfl) ?_
  rintro v υ2 ⟨rfl, hx2, hn2⟩
  simp only [Option.toList, List.nil_append]
  refine rj_vret dX12_layTie_14 ?_
  exact ⟨rfl, hx2, mq_tr (nq_mq hn1 (by omega) (by omega)) (nq_mq hn2 (by omega) (by omega)), ((hn2.1 121 (by decide)).1).trans (hn1.1 121 (by decide)).1⟩

set_option maxRecDepth 100000 in
theorem c_X12_leftOf2 {l : Launch} {X : CX} {σ : ST} {A : SA} (hM : MR σ A) (hw : wf A) {t : Int32} {j : Nat} (ht : t.toInt = j) (hj : j < A.2.1.2.2.length) : MJ l X 4 yX12_leftOf cX12_leftOf 2 (some .int) [.ref (ad X 112), .int t] σ ((fun v τ => v = some (.int (nI (red (lyA A j)).length)) ∧ LF τ (red (lyA A j)) ∧ mq σ τ ∧ τ.1 121 = σ.1 121)) := by
  refine MJ_of (own := RX12) [some (.ref (ad X 112)), some (.int t)] (by decide) rfl (Nat.le_of_ble_eq_true rfl) rfl ?_
  refine rj_ald0 dX12_leftOf_0 rfl ?_
  refine rj_ild1 dX12_leftOf_1 rfl ?_
  refine rj_V1 (ci := 12) cX12_123 rfl (by decide) (by first | assumption | rfl) dX12_leftOf_2 (c_X12_layTie3 hM hw ht hj) (fitM (by decide) (by decide)) (Nat.le_of_ble_eq_true rfl) ?_
  rintro v υ ⟨rfl, hx1, hn1, h121⟩
  simp only [Option.toList, List.nil_append]
  refine rj_ald0 dX12_leftOf_5 rfl ?_
  refine rj_V0 (ci := 12) cX12_138 rfl (by decide) (by first | assumption | rfl) dX12_leftOf_6 (c_X12_pullLaid hx1) (fitM (by decide) (by decide)) (Nat.le_of_ble_eq_true rfl) ?_
  rintro v υ2 ⟨rfl, hx2, hn2⟩
  simp only [Option.toList, List.nil_append]
  refine rj_ald0 dX12_leftOf_9 rfl ?_
  refine g12_129 dX12_leftOf_10 ?_
  refine rj_iret dX12_leftOf_13 ?_
  exact ⟨by rw [hx2.1], hx2, mq_tr hn1 (nq_mq hn2 (by omega) (by omega)), ((hn2.1 121 (by decide)).1).trans h121⟩

abbrev c21 : Nat → Prop := fun a => a = 121
theorem mq_21 {σ τ : ST} (h : off c21 σ τ) : mq σ τ := ⟨h.mono (fun a ha => by rw [show a = 121 from ha]; unfold msP; omega), by rw [(h 112 (by decide)).1], by rw [(h 112 (by decide)).1]⟩
theorem lf_21 {σ τ : ST} {xs : List Int32} (hx : LF σ xs) (h : off c21 σ τ) : LF τ xs := ⟨by rw [(h 112 (by decide)).1]; exact hx.1, hx.2.1, fun i hi => by rw [(h 116 (by decide)).1]; exact hx.2.2 i hi⟩
set_option maxRecDepth 100000 in
theorem l_X12_smA {l : Launch} {X : CX} {h : Nat} {Q : Option Value → ST → Prop} {σ : ST} {xs : List Int32} {t o : Int32} (hx : LF σ xs) (hY : ∀ τ (y : Int32), (∀ q, q < xs.length → τ.1 121 q = xs.getD q 0) → off c21 σ τ → RJ (GM l X h Q) X cX12_same 6 (some .int) RX12 58 [some (.ref (ad X 112)), some (.int t), some (.int o), some (.int (nI xs.length)), some (.int y), none] [] τ) : ∀ (N i : Nat) (τ : ST), xs.length < i + N → (i ≤ xs.length ∧ (∀ q, q < i → τ.1 121 q = xs.getD q 0) ∧ off c21 σ τ) → RJ (GM l X h Q) X cX12_same 6 (some .int) RX12 32 [some (.ref (ad X 112)), some (.int t), some (.int o), some (.int (nI xs.length)), some (.int (nI i)), none] [] τ := by
  intro N
  induction N with
  | zero => intro i τ hN hi; have := hi.1; exact absurd hN (by omega)
  | succ N ih =>
    intro i τ hN hi
    obtain ⟨hi, hv, ho⟩ := hi
    have hX := lf_21 hx ho
    have hc := hX.2.1
    have hlt : (nI xs.length).toInt = xs.length := nI_t (by omega)
    have hit : (nI i).toInt = i := nI_t (by omega)
    refine rj_ild dX12_same_32 rfl ?_
    refine rj_ild3 dX12_same_34 rfl ?_
    refine rj_ic_ge (tgt := 58) dX12_same_35 (by decide) (fun h_35 => ?_) (fun h_35 => ?_)
    · exact hY τ _ (fun q hq => hv q (by omega)) ho
    · refine rj_ald0 dX12_same_38 rfl ?_
      refine g12_34 dX12_same_39 ?_
      refine rj_ild dX12_same_42 rfl ?_
      refine rj_ald0 dX12_same_44 rfl ?_
      refine g12_19 dX12_same_45 ?_
      refine rj_ild dX12_same_48 rfl ?_
      refine rj_iald (by first | assumption | rfl) (vpi (by omega) (by show _ < ((24 : Nat) : Int); omega)) dX12_same_50 ?_
      rw [nI_clamp (by omega), hX.2.2 i (by omega)]
      refine rj_iast (by first | assumption | rfl) (vpi (by omega) (by show _ < ((24 : Nat) : Int); omega)) dX12_same_51 ?_
      rw [nI_clamp (by omega)]
      refine rj_iinc4 (d := 1) dX12_same_52 (by decide) rfl (by decide) ?_
      rw [nI_1]
      refine rj_goto (tgt := 32) dX12_same_55 (by decide) ?_
      refine ih (i + 1) _ (by omega) ⟨by omega, fun q hq => ?_, ho.ui rfl⟩
      rw [ui_at]
      by_cases z : q = i
      · rw [if_pos ⟨rfl, z⟩, z]
      · rw [if_neg (fun y => z y.2)]; exact hv q (by omega)

set_option maxRecDepth 100000 in
theorem l_X12_smB {l : Launch} {X : CX} {h : Nat} {Q : Option Value → ST → Prop} {σ : ST} {xs ys : List Int32} {t o : Int32} (hx : LF σ ys) (h24 : xs.length ≤ 24) (hf : ∀ q, q < xs.length → σ.1 121 q = xs.getD q 0) (hQ1 : xs = ys → Q (some (.int 1)) σ) (hQ0 : ¬ xs = ys → Q (some (.int 0)) σ) : ∀ (N i : Nat), xs.length < i + N → i ≤ xs.length → RJ (GM l X h Q) X cX12_same 6 (some .int) RX12 77 [some (.ref (ad X 112)), some (.int t), some (.int o), some (.int (nI xs.length)), some (.int (if ys.length = xs.length ∧ ∀ q, q < i → ys.getD q 0 = xs.getD q 0 then 1 else 0)), some (.int (nI i))] [] σ := by
  intro N
  induction N with
  | zero => intro i hN hi; exact absurd hN (by omega)
  | succ N ih =>
    intro i hN hi
    have hlt : (nI xs.length).toInt = xs.length := nI_t (by omega)
    have hit : (nI i).toInt = i := nI_t (by omega)
    refine rj_ild dX12_same_77 rfl ?_
    refine rj_ild3 dX12_same_79 rfl ?_
    refine rj_ic_ge (tgt := 118) dX12_same_80 (by decide) (fun h_80 => ?_) (fun h_80 => ?_)
    · refine rj_ild dX12_same_118 rfl ?_
      refine rj_if_eq (tgt := 127) dX12_same_120 (by decide) (fun h_120 => ?_) (fun h_120 => ?_)
      · have hb_120 := bz_t h_120
        rw [show i = xs.length by omega] at hb_120
        refine rj_ic0 dX12_same_127 ?_
        refine rj_iret dX12_same_128 ?_
        exact hQ0 (fun z => hb_120 ⟨by rw [z], fun q hq => by rw [z]⟩)
      · have hb_120 := bz_f h_120
        rw [show i = xs.length by omega] at hb_120
        refine rj_ic1 dX12_same_123 ?_
        refine rj_goto (tgt := 128) dX12_same_124 (by decide) ?_
        refine rj_iret dX12_same_128 ?_
        exact hQ1 (getD_ext hb_120.1.symm (fun q hq => (hb_120.2 q hq).symm))
    · refine rj_ild dX12_same_83 rfl ?_
      refine rj_if_eq (tgt := 109) dX12_same_85 (by decide) (fun h_85 => ?_) (fun h_85 => ?_)
      · have hb_85 := bz_t h_85
        refine rj_ic0 dX12_same_109 ?_
        refine rj_ist4w dX12_same_110 (by decide) rfl ?_
        refine rj_iinc5 (d := 1) dX12_same_112 (by decide) rfl (by decide) ?_
        rw [nI_1]
        refine rj_goto (tgt := 77) dX12_same_115 (by decide) ?_
        have k := ih (i + 1) (by omega) (by omega)
        rw [if_neg (fun z => hb_85 ⟨z.1, fun q hq => z.2 q (by omega)⟩)] at k
        exact k
      · have hb_85 := bz_f h_85
        have hle := hb_85.1
        refine rj_ald0 dX12_same_88 rfl ?_
        refine g12_19 dX12_same_89 ?_
        refine rj_ild dX12_same_92 rfl ?_
        refine rj_iald (by first | assumption | rfl) (vpi (by omega) (by show _ < ((24 : Nat) : Int); omega)) dX12_same_94 ?_
        rw [nI_clamp (by omega), hx.2.2 i (by omega)]
        refine rj_ald0 dX12_same_95 rfl ?_
        refine g12_34 dX12_same_96 ?_
        refine rj_ild dX12_same_99 rfl ?_
        refine rj_iald (by first | assumption | rfl) (vpi (by omega) (by show _ < ((24 : Nat) : Int); omega)) dX12_same_101 ?_
        rw [nI_clamp (by omega), hf i (by omega)]
        refine rj_ic_ne (tgt := 109) dX12_same_102 (by decide) (fun h_102 => ?_) (fun h_102 => ?_)
        · refine rj_ic0 dX12_same_109 ?_
          refine rj_ist4w dX12_same_110 (by decide) rfl ?_
          refine rj_iinc5 (d := 1) dX12_same_112 (by decide) rfl (by decide) ?_
          rw [nI_1]
          refine rj_goto (tgt := 77) dX12_same_115 (by decide) ?_
          have k := ih (i + 1) (by omega) (by omega)
          rw [if_neg (fun z => h_102 (z.2 i (by omega)))] at k
          exact k
        · refine rj_ic1 dX12_same_105 ?_
          refine rj_goto (tgt := 110) dX12_same_106 (by decide) ?_
          refine rj_ist4w dX12_same_110 (by decide) rfl ?_
          refine rj_iinc5 (d := 1) dX12_same_112 (by decide) rfl (by decide) ?_
          rw [nI_1]
          refine rj_goto (tgt := 77) dX12_same_115 (by decide) ?_
          have k := ih (i + 1) (by omega) (by omega)
          rw [if_pos ⟨hle, all_s hb_85.2 h_102⟩] at k
          exact k

set_option maxRecDepth 100000 in
theorem l_X12_smC {l : Launch} {X : CX} {h : Nat} {Q : Option Value → ST → Prop} {σ : ST} {A : SA} {xs : List Int32} {t o y : Int32} {i : Nat} (hh : 5 ≤ h) (hM : MR σ A) (hw : wf A) (ho : o.toInt = i) (hi : i < A.2.1.2.2.length) (h24 : xs.length ≤ 24) (hf : ∀ q, q < xs.length → σ.1 121 q = xs.getD q 0) (hQ : ∀ τ, mq σ τ → Q (some (.int (if xs = red (lyA A i) then 1 else 0))) τ) :  RJ (GM l X h Q) X cX12_same 6 (some .int) RX12 58 [some (.ref (ad X 112)), some (.int t), some (.int o), some (.int (nI xs.length)), some (.int y), none] [] σ := by

  refine rj_ald0 dX12_same_58 rfl ?_
  refine rj_ild2 dX12_same_59 rfl ?_
  refine rj_V1 (ci := 12) cX12_141 rfl (by decide) (by first | assumption | rfl) dX12_same_60 (c_X12_leftOf2 hM hw ho hi) (fitM (by omega) (by decide)) (Nat.le_of_ble_eq_true rfl) ?_
  rintro v υ ⟨rfl, hx1, hn1, h121⟩
  simp only [Option.toList, List.cons_append, List.nil_append]
  have hl2 := hx1.2.1
  have hf1 : ∀ q, q < xs.length → υ.1 121 q = xs.getD q 0 := fun q hq => by rw [h121]; exact hf q hq
  refine rj_ild3 dX12_same_63 rfl ?_
  refine rj_ic_ne (tgt := 71) dX12_same_64 (by decide) (fun h_64 => ?_) (fun h_64 => ?_)
  · refine rj_ic0 dX12_same_71 ?_
    refine rj_ist4w dX12_same_72 (by decide) rfl ?_
    refine rj_ic0 dX12_same_74 ?_
    refine rj_ist5w dX12_same_75 (by decide) rfl ?_
    have k := l_X12_smB (l := l) (X := X) (h := h) (Q := Q) (t := t) (o := o) hx1 h24 hf1 (fun z => by have := hQ υ hn1; rw [if_pos z] at this; exact this) (fun z => by have := hQ υ hn1; rw [if_neg z] at this; exact this) (xs.length + 1) 0 (by omega) (by omega)
    rw [if_neg (fun z => h_64 (by rw [z.1]))] at k
    exact k
  · refine rj_ic1 dX12_same_67 ?_
    refine rj_goto (tgt := 72) dX12_same_68 (by decide) ?_
    refine rj_ist4w dX12_same_72 (by decide) rfl ?_
    refine rj_ic0 dX12_same_74 ?_
    refine rj_ist5w dX12_same_75 (by decide) rfl ?_
    have k := l_X12_smB (l := l) (X := X) (h := h) (Q := Q) (t := t) (o := o) hx1 h24 hf1 (fun z => by have := hQ υ hn1; rw [if_pos z] at this; exact this) (fun z => by have := hQ υ hn1; rw [if_neg z] at this; exact this) (xs.length + 1) 0 (by omega) (by omega)
    rw [if_pos ⟨nI_ij (by omega) (by omega) h_64, fun q hq => absurd hq (by omega)⟩] at k
    exact k

set_option maxRecDepth 100000 in
theorem c_X12_same {l : Launch} {X : CX} {σ : ST} {A : SA} (hM : MR σ A) (hw : wf A) {t o : Int32} : MJ l X 5 yX12_same cX12_same 6 (some .int) [.ref (ad X 112), .int t, .int o] σ (OM σ (F_same A t o)) := by
  refine MJ_of (own := RX12) [some (.ref (ad X 112)), some (.int t), some (.int o), none, none, none] (by decide) rfl (Nat.le_of_ble_eq_true rfl) rfl ?_
  refine rj_ald0 dX12_same_0 rfl ?_
  refine rj_ild1 dX12_same_1 rfl ?_
  refine rj_V1i (ci := 12) cX12_85 rfl (by decide) (by first | assumption | rfl) dX12_same_2 (c_X12_isTie hM) (fitM (by decide) (by decide)) (Nat.le_of_ble_eq_true rfl) ?_
  refine rj_if_eq (tgt := 16) dX12_same_5 (by decide) (fun h_5 => ?_) (fun h_5 => ?_)
  · have hb_5 := bz_t h_5
    refine rj_ald0 dX12_same_16 rfl ?_
    refine rj_ldc kX12_59 dX12_same_17 ?_
    refine rj_V1 (ci := 12) cX12_68 rfl (by decide) rfl dX12_same_19 (c_X12_finds (i := 0) hM (by decide) (by decide)) (fitM (by decide) (by decide)) (Nat.le_of_ble_eq_true rfl) ?_
    rintro v υq ⟨rfl, hq⟩
    simp only [Option.toList, List.cons_append, List.nil_append]
    refine rj_iret dX12_same_22 ?_
    have e : F_same A t o = fnd A 0 := by unfold F_same; rw [wT_out hb_5]
    rw [e]
    exact ⟨rfl, hq⟩
  · have hb_5 := bz_f h_5
    obtain ⟨j, hv, hj⟩ := mt_in hb_5
    have h12 := (wf_t hw hj).2.2.1
    have hlt : (nI (fT A j).2.length).toInt = (fT A j).2.length := nI_t (by omega)
    have h8 := hM.1.2.2.2.1
    obtain ⟨f1, f2, f3, f4⟩ := hM.1.2.2.2.2 j hj
    have f6 : σ.1 113 (4 + 14 * j) = nI (fT A j).2.length := f2
    have f7 : σ.1 113 (3 + 14 * j) = (fT A j).1 := f1
    refine rj_ald0 dX12_same_8 rfl ?_
    refine rj_ild2 dX12_same_9 rfl ?_
    refine rj_V1i (ci := 12) cX12_85 rfl (by decide) (by first | assumption | rfl) dX12_same_10 (c_X12_isTie hM) (fitM (by decide) (by decide)) (Nat.le_of_ble_eq_true rfl) ?_
    refine rj_if_ne (tgt := 23) dX12_same_13 (by decide) (fun h_13 => ?_) (fun h_13 => ?_)
    · have hb_13 := bz_f h_13
      obtain ⟨i, hu, hi⟩ := mt_in hb_13
      refine rj_ald0 dX12_same_23 rfl ?_
      refine rj_ild1 dX12_same_24 rfl ?_
      refine rj_V1 (ci := 12) cX12_141 rfl (by decide) (by first | assumption | rfl) dX12_same_25 (c_X12_leftOf2 hM hw hv hj) (fitM (by decide) (by decide)) (Nat.le_of_ble_eq_true rfl) ?_
      rintro v υ ⟨rfl, hx1, hn1, h121⟩
      simp only [Option.toList, List.cons_append, List.nil_append]
      have hM1 := mr_s hM hn1
      refine rj_ist3 dX12_same_28 (by decide) rfl ?_
      refine rj_ic0 dX12_same_29 ?_
      refine rj_ist4w dX12_same_30 (by decide) rfl ?_
      have e : F_same A t o = (if red (lyA A j) = red (lyA A i) then 1 else 0, A) := by unfold F_same; rw [wT_in hv hj, wT_in hu hi]
      rw [e]
      refine l_X12_smA hx1 (fun τ y hf ho => ?_) ((red (lyA A j)).length + 1) 0 υ (by omega) ⟨by omega, fun q hq => absurd hq (by omega), off.rf⟩
      exact l_X12_smC (by decide) (mr_s hM1 (mq_21 ho)) hw hu hi hx1.2.1 hf (fun ψ h2 => ⟨rfl, mr_s (mr_s hM1 (mq_21 ho)) h2, ((mq_md hn1).tr (mq_md (mq_21 ho))).tr (mq_md h2)⟩)
    · have hb_13 := bz_t h_13
      refine rj_ald0 dX12_same_16 rfl ?_
      refine rj_ldc kX12_59 dX12_same_17 ?_
      refine rj_V1 (ci := 12) cX12_68 rfl (by decide) rfl dX12_same_19 (c_X12_finds (i := 0) hM (by decide) (by decide)) (fitM (by decide) (by decide)) (Nat.le_of_ble_eq_true rfl) ?_
      rintro v υq ⟨rfl, hq⟩
      simp only [Option.toList, List.cons_append, List.nil_append]
      refine rj_iret dX12_same_22 ?_
      have e : F_same A t o = fnd A 0 := by unfold F_same; rw [wT_in hv hj, wT_out hb_13]
      rw [e]
      exact ⟨rfl, hq⟩

