/-! the reference: rows to scratch on. fields 5 laid, 6 left, 7 tried of cell 112; cells 115, 116, 117 -/
def Sc (σ : ST) (fld cell cap : Nat) (xs : List Int32) : Prop := σ.1 112 fld = nI xs.length ∧ xs.length ≤ cap ∧ ∀ i, i < xs.length → σ.1 cell i = xs.getD i 0
def TR (σ : ST) (xs : List Int32) : Prop := Sc σ 7 117 12 xs
def LD (σ : ST) (xs : List Int32) : Prop := Sc σ 5 115 24 xs
def LF (σ : ST) (xs : List Int32) : Prop := Sc σ 6 116 24 xs
theorem mq_rfl (σ : ST) : mq σ σ := mq_rf
/-- of cell 112 only field f changes, else only cell C -/
def nq (C f : Nat) (σ τ : ST) : Prop := off (fun a => a = 112 ∨ a = C) σ τ ∧ ∀ b, b ≠ f → τ.1 112 b = σ.1 112 b
theorem nq_rf {C f : Nat} {σ : ST} : nq C f σ σ := ⟨off.rf, fun _ _ => rfl⟩
theorem nq_tr {C f : Nat} {σ τ υ : ST} (h : nq C f σ τ) (h2 : nq C f τ υ) : nq C f σ υ := ⟨h.1.tr h2.1, fun b hb => (h2.2 b hb).trans (h.2 b hb)⟩
theorem nq_c {C f j : Nat} {v : Int32} {σ τ : ST} (h : nq C f σ τ) (hC : C ≠ 112) : nq C f σ (ui τ C j v) := ⟨h.1.ui (Or.inr rfl), fun b hb => by rw [ui_ne (Ne.symm hC)]; exact h.2 b hb⟩
theorem nq_f {C f : Nat} {v : Int32} {σ τ : ST} (h : nq C f σ τ) : nq C f σ (ui τ 112 f v) := ⟨h.1.ui (Or.inl rfl), fun b hb => by rw [ui_nj hb]; exact h.2 b hb⟩
theorem nq_mq {C f : Nat} {σ τ : ST} (h : nq C f σ τ) (hC : 115 ≤ C ∧ C ≤ 121) (hf : f ≠ 13 ∧ f ≠ 26) : mq σ τ := ⟨h.1.mono (fun a ha => by unfold msP; omega), h.2 13 (Ne.symm hf.1), h.2 26 (Ne.symm hf.2)⟩
theorem sc_nq {C f fld cell cap : Nat} {σ τ : ST} {xs : List Int32} (hx : Sc σ fld cell cap xs) (h : nq C f σ τ) (h1 : fld ≠ f) (h2 : cell ≠ C) (h3 : cell ≠ 112) : Sc τ fld cell cap xs := ⟨by rw [h.2 fld h1]; exact hx.1, hx.2.1, fun i hi => by rw [(h.1 cell (by omega)).1]; exact hx.2.2 i hi⟩
set_option maxRecDepth 100000 in
theorem l_X12_tries {l : Launch} {X : CX} {h : Nat} {Q : Option Value → ST → Prop} {σ : ST} {A : SA} {t : Int32} {j : Nat} (hh : 2 ≤ h) (hM : MR σ A) (ht : t.toInt = j) (hj : j < A.2.1.2.2.length) (h12 : (fT A j).2.length ≤ 12) (hQ : ∀ τ, TR τ (fT A j).2 → nq 117 7 σ τ → Q none τ) : ∀ (N i : Nat) (τ : ST), (fT A j).2.length < i + N → (i ≤ (fT A j).2.length ∧ τ.1 112 7 = nI (fT A j).2.length ∧ (∀ q, q < i → τ.1 117 q = (fT A j).2.getD q 0) ∧ nq 117 7 σ τ) → RJ (GM l X h Q) X cX12_tries 3 none RX12 11 [some (.ref (ad X 112)), some (.int t), some (.int (nI i))] [] τ := by
  intro N
  induction N with
  | zero => intro i τ hN hi; have := hi.1; exact absurd hN (by omega)
  | succ N ih =>
    intro i τ hN hi
    obtain ⟨hi, hs, hv, hm⟩ := hi
    have hM1 := mr_s hM (nq_mq hm (by omega) (by omega))
    have hlt : (nI (fT A j).2.length).toInt = (fT A j).2.length := nI_t (by omega)
    have hit : (nI i).toInt = i := nI_t (by omega)
    refine rj_ild2 dX12_tries_11 rfl ?_
    refine rj_ald0 dX12_tries_12 rfl ?_
    refine g12_107 dX12_tries_13 ?_
    rw [hs]
    refine rj_ic_ge (tgt := 37) dX12_tries_16 (by decide) (fun h_16 => ?_) (fun h_16 => ?_)
    · refine rj_vret dX12_tries_37 ?_
      exact hQ τ ⟨hs, h12, fun q hq => hv q (by omega)⟩ hm
    · refine rj_ald0 dX12_tries_19 rfl ?_
      refine g12_22 dX12_tries_20 ?_
      refine rj_ild2 dX12_tries_23 rfl ?_
      refine rj_ald0 dX12_tries_24 rfl ?_
      refine rj_ild1 dX12_tries_25 rfl ?_
      refine rj_ild2 dX12_tries_26 rfl ?_
      refine rj_V2i (ci := 12) cX12_96 rfl (by decide) (by first | assumption | rfl) dX12_tries_27 (c_X12_crossing hM1 ht hj (by omega)) (fitM (by omega) (by decide)) (Nat.le_of_ble_eq_true rfl) ?_
      refine rj_iast (by first | assumption | rfl) (vpi (by omega) (by show _ < ((12 : Nat) : Int); omega)) dX12_tries_30 ?_
      rw [nI_clamp (by omega)]
      refine rj_iinc2 (d := 1) dX12_tries_31 (by decide) rfl (by decide) ?_
      rw [nI_1]
      refine rj_goto (tgt := 11) dX12_tries_34 (by decide) ?_
      refine ih (i + 1) _ (by omega) ⟨by omega, by rw [ui_ne (by decide)]; exact hs, fun q hq => ?_, nq_c hm (by decide)⟩
      rw [ui_at]
      by_cases z : q = i
      · rw [if_pos ⟨rfl, z⟩, z]
      · rw [if_neg (fun y => z y.2)]; exact hv q (by omega)

set_option maxRecDepth 100000 in
theorem c_X12_tries {l : Launch} {X : CX} {σ : ST} {A : SA} (hM : MR σ A) {t : Int32} {j : Nat} (ht : t.toInt = j) (hj : j < A.2.1.2.2.length) (h12 : (fT A j).2.length ≤ 12) : MJ l X 2 yX12_tries cX12_tries 3 none [.ref (ad X 112), .int t] σ (PV (fun τ => TR τ (fT A j).2 ∧ nq 117 7 σ τ)) := by
  refine MJ_of (own := RX12) [some (.ref (ad X 112)), some (.int t), none] (by decide) rfl (Nat.le_of_ble_eq_true rfl) rfl ?_
  refine rj_ald0 dX12_tries_0 rfl ?_
  refine rj_ald0 dX12_tries_1 rfl ?_
  refine rj_ild1 dX12_tries_2 rfl ?_
  refine rj_V1i (ci := 12) cX12_82 rfl (by decide) (by first | assumption | rfl) dX12_tries_3 (c_X12_sizeOfRow hM ht hj) (fitM (by decide) (by decide)) (Nat.le_of_ble_eq_true rfl) ?_
  refine p12_107 dX12_tries_6 ?_
  refine rj_ic0 dX12_tries_9 ?_
  refine rj_ist2 dX12_tries_10 (by decide) rfl ?_
  exact l_X12_tries (by decide) hM ht hj h12 (fun τ h1 h2 => ⟨rfl, h1, h2⟩) ((fT A j).2.length + 1) 0 _ (by omega) ⟨by omega, ui_same _ _ _ _, fun q hq => absurd hq (by omega), nq_f nq_rf⟩

set_option maxRecDepth 100000 in
theorem c_X12_asLaid {l : Launch} {X : CX} {σ : ST} {A : SA} (hM : MR σ A) {k c : Int32} : MJ l X 0 yX12_asLaid cX12_asLaid 4 (some .int) [.ref (ad X 112), .int k, .int c] σ (eqI (if k = 5 then (if c.toInt < 0 then A.2.1.1 + c else c - A.2.1.1) else if k = 1 ∨ k = 4 then -1 * c else 1 * c) σ) := by
  refine MJ_of (own := RX12) [some (.ref (ad X 112)), some (.int k), some (.int c), none] (by decide) rfl (Nat.le_of_ble_eq_true rfl) rfl ?_
  have h0 : σ.1 113 0 = A.2.1.1 := hM.1.1
  refine rj_ild1 dX12_asLaid_0 rfl ?_
  refine rj_ic1 dX12_asLaid_1 ?_
  refine rj_ic_eq (tgt := 15) dX12_asLaid_2 (by decide) (fun h_2 => ?_) (fun h_2 => ?_)
  · refine rj_icm1 dX12_asLaid_15 ?_
    refine rj_goto (tgt := 20) dX12_asLaid_16 (by decide) ?_
    refine rj_ist3 dX12_asLaid_20 (by decide) rfl ?_
    refine rj_ild1 dX12_asLaid_21 rfl ?_
    refine rj_ic5 dX12_asLaid_22 ?_
    refine rj_ic_ne (tgt := 50) dX12_asLaid_23 (by decide) (fun h_23 => ?_) (fun h_23 => ?_)
    · refine rj_ild3 dX12_asLaid_50 rfl ?_
      refine rj_ild2 dX12_asLaid_51 rfl ?_
      refine rj_imul dX12_asLaid_52 ?_
      refine rj_iret dX12_asLaid_53 ?_
      refine ⟨?_, rfl⟩
      rw [if_neg h_23, if_pos (Or.inl h_2)]
    · refine rj_ild2 dX12_asLaid_26 rfl ?_
      refine rj_if_ge (tgt := 41) dX12_asLaid_27 (by decide) (fun h_27 => ?_) (fun h_27 => ?_)
      · refine rj_ild2 dX12_asLaid_41 rfl ?_
        refine rj_ald0 dX12_asLaid_42 rfl ?_
        refine g12_7 dX12_asLaid_43 ?_
        refine rj_ic0 dX12_asLaid_46 ?_
        refine rj_iald (by first | assumption | rfl) (vpi (by decide) (by decide)) dX12_asLaid_47 ?_
        rw [show (0 : Int32).toNatClampNeg = 0 from rfl, h0]
        refine rj_isub dX12_asLaid_48 ?_
        refine rj_iret dX12_asLaid_49 ?_
        refine ⟨?_, rfl⟩
        rw [if_pos h_23, if_neg (by omega)]
      · refine rj_ald0 dX12_asLaid_30 rfl ?_
        refine g12_7 dX12_asLaid_31 ?_
        refine rj_ic0 dX12_asLaid_34 ?_
        refine rj_iald (by first | assumption | rfl) (vpi (by decide) (by decide)) dX12_asLaid_35 ?_
        rw [show (0 : Int32).toNatClampNeg = 0 from rfl, h0]
        refine rj_ild2 dX12_asLaid_36 rfl ?_
        refine rj_iadd dX12_asLaid_37 ?_
        refine rj_goto (tgt := 49) dX12_asLaid_38 (by decide) ?_
        refine rj_iret dX12_asLaid_49 ?_
        refine ⟨?_, rfl⟩
        rw [if_pos h_23, if_pos h_27]
  · refine rj_ild1 dX12_asLaid_5 rfl ?_
    refine rj_ic4 dX12_asLaid_6 ?_
    refine rj_ic_eq (tgt := 15) dX12_asLaid_7 (by decide) (fun h_7 => ?_) (fun h_7 => ?_)
    · refine rj_icm1 dX12_asLaid_15 ?_
      refine rj_goto (tgt := 20) dX12_asLaid_16 (by decide) ?_
      refine rj_ist3 dX12_asLaid_20 (by decide) rfl ?_
      refine rj_ild1 dX12_asLaid_21 rfl ?_
      refine rj_ic5 dX12_asLaid_22 ?_
      refine rj_ic_ne (tgt := 50) dX12_asLaid_23 (by decide) (fun h_23 => ?_) (fun h_23 => ?_)
      · refine rj_ild3 dX12_asLaid_50 rfl ?_
        refine rj_ild2 dX12_asLaid_51 rfl ?_
        refine rj_imul dX12_asLaid_52 ?_
        refine rj_iret dX12_asLaid_53 ?_
        refine ⟨?_, rfl⟩
        rw [if_neg h_23, if_pos (Or.inr h_7)]
      · refine rj_ild2 dX12_asLaid_26 rfl ?_
        refine rj_if_ge (tgt := 41) dX12_asLaid_27 (by decide) (fun h_27 => ?_) (fun h_27 => ?_)
        · refine rj_ild2 dX12_asLaid_41 rfl ?_
          refine rj_ald0 dX12_asLaid_42 rfl ?_
          refine g12_7 dX12_asLaid_43 ?_
          refine rj_ic0 dX12_asLaid_46 ?_
          refine rj_iald (by first | assumption | rfl) (vpi (by decide) (by decide)) dX12_asLaid_47 ?_
          rw [show (0 : Int32).toNatClampNeg = 0 from rfl, h0]
          refine rj_isub dX12_asLaid_48 ?_
          refine rj_iret dX12_asLaid_49 ?_
          refine ⟨?_, rfl⟩
          rw [if_pos h_23, if_neg (by omega)]
        · refine rj_ald0 dX12_asLaid_30 rfl ?_
          refine g12_7 dX12_asLaid_31 ?_
          refine rj_ic0 dX12_asLaid_34 ?_
          refine rj_iald (by first | assumption | rfl) (vpi (by decide) (by decide)) dX12_asLaid_35 ?_
          rw [show (0 : Int32).toNatClampNeg = 0 from rfl, h0]
          refine rj_ild2 dX12_asLaid_36 rfl ?_
          refine rj_iadd dX12_asLaid_37 ?_
          refine rj_goto (tgt := 49) dX12_asLaid_38 (by decide) ?_
          refine rj_iret dX12_asLaid_49 ?_
          refine ⟨?_, rfl⟩
          rw [if_pos h_23, if_pos h_27]
    · refine rj_ild1 dX12_asLaid_10 rfl ?_
      refine rj_ic5 dX12_asLaid_11 ?_
      refine rj_ic_ne (tgt := 19) dX12_asLaid_12 (by decide) (fun h_12 => ?_) (fun h_12 => ?_)
      · refine rj_ic1 dX12_asLaid_19 ?_
        refine rj_ist3 dX12_asLaid_20 (by decide) rfl ?_
        refine rj_ild1 dX12_asLaid_21 rfl ?_
        refine rj_ic5 dX12_asLaid_22 ?_
        refine rj_ic_ne (tgt := 50) dX12_asLaid_23 (by decide) (fun h_23 => ?_) (fun h_23 => ?_)
        · refine rj_ild3 dX12_asLaid_50 rfl ?_
          refine rj_ild2 dX12_asLaid_51 rfl ?_
          refine rj_imul dX12_asLaid_52 ?_
          refine rj_iret dX12_asLaid_53 ?_
          refine ⟨?_, rfl⟩
          rw [if_neg h_23, if_neg (fun z => z.elim h_2 h_7)]
        · refine rj_ild2 dX12_asLaid_26 rfl ?_
          refine rj_if_ge (tgt := 41) dX12_asLaid_27 (by decide) (fun h_27 => ?_) (fun h_27 => ?_)
          · refine rj_ild2 dX12_asLaid_41 rfl ?_
            refine rj_ald0 dX12_asLaid_42 rfl ?_
            refine g12_7 dX12_asLaid_43 ?_
            refine rj_ic0 dX12_asLaid_46 ?_
            refine rj_iald (by first | assumption | rfl) (vpi (by decide) (by decide)) dX12_asLaid_47 ?_
            rw [show (0 : Int32).toNatClampNeg = 0 from rfl, h0]
            refine rj_isub dX12_asLaid_48 ?_
            refine rj_iret dX12_asLaid_49 ?_
            refine ⟨?_, rfl⟩
            rw [if_pos h_23, if_neg (by omega)]
          · refine rj_ald0 dX12_asLaid_30 rfl ?_
            refine g12_7 dX12_asLaid_31 ?_
            refine rj_ic0 dX12_asLaid_34 ?_
            refine rj_iald (by first | assumption | rfl) (vpi (by decide) (by decide)) dX12_asLaid_35 ?_
            rw [show (0 : Int32).toNatClampNeg = 0 from rfl, h0]
            refine rj_ild2 dX12_asLaid_36 rfl ?_
            refine rj_iadd dX12_asLaid_37 ?_
            refine rj_goto (tgt := 49) dX12_asLaid_38 (by decide) ?_
            refine rj_iret dX12_asLaid_49 ?_
            refine ⟨?_, rfl⟩
            rw [if_pos h_23, if_pos h_27]
      · refine rj_icm1 dX12_asLaid_15 ?_
        refine rj_goto (tgt := 20) dX12_asLaid_16 (by decide) ?_
        refine rj_ist3 dX12_asLaid_20 (by decide) rfl ?_
        refine rj_ild1 dX12_asLaid_21 rfl ?_
        refine rj_ic5 dX12_asLaid_22 ?_
        refine rj_ic_ne (tgt := 50) dX12_asLaid_23 (by decide) (fun h_23 => ?_) (fun h_23 => ?_)
        · refine rj_ild3 dX12_asLaid_50 rfl ?_
          refine rj_ild2 dX12_asLaid_51 rfl ?_
          refine rj_imul dX12_asLaid_52 ?_
          refine rj_iret dX12_asLaid_53 ?_
          refine ⟨?_, rfl⟩
          rw [if_neg h_23, if_neg (fun z => z.elim h_2 h_7)]
          exact absurd h_12 h_23
        · refine rj_ild2 dX12_asLaid_26 rfl ?_
          refine rj_if_ge (tgt := 41) dX12_asLaid_27 (by decide) (fun h_27 => ?_) (fun h_27 => ?_)
          · refine rj_ild2 dX12_asLaid_41 rfl ?_
            refine rj_ald0 dX12_asLaid_42 rfl ?_
            refine g12_7 dX12_asLaid_43 ?_
            refine rj_ic0 dX12_asLaid_46 ?_
            refine rj_iald (by first | assumption | rfl) (vpi (by decide) (by decide)) dX12_asLaid_47 ?_
            rw [show (0 : Int32).toNatClampNeg = 0 from rfl, h0]
            refine rj_isub dX12_asLaid_48 ?_
            refine rj_iret dX12_asLaid_49 ?_
            refine ⟨?_, rfl⟩
            rw [if_pos h_23, if_neg (by omega)]
          · refine rj_ald0 dX12_asLaid_30 rfl ?_
            refine g12_7 dX12_asLaid_31 ?_
            refine rj_ic0 dX12_asLaid_34 ?_
            refine rj_iald (by first | assumption | rfl) (vpi (by decide) (by decide)) dX12_asLaid_35 ?_
            rw [show (0 : Int32).toNatClampNeg = 0 from rfl, h0]
            refine rj_ild2 dX12_asLaid_36 rfl ?_
            refine rj_iadd dX12_asLaid_37 ?_
            refine rj_goto (tgt := 49) dX12_asLaid_38 (by decide) ?_
            refine rj_iret dX12_asLaid_49 ?_
            refine ⟨?_, rfl⟩
            rw [if_pos h_23, if_pos h_27]

