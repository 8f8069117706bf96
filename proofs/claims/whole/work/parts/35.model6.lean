/-! the reference: pulls -/
/-- of cell 112 only field f changes, else only cell C -/
def nq (C f : Nat) (σ τ : ST) : Prop := off (fun a => a = 112 ∨ a = C) σ τ ∧ ∀ b, b ≠ f → τ.1 112 b = σ.1 112 b
theorem nq_rf {C f : Nat} {σ : ST} : nq C f σ σ := ⟨off.rf, fun _ _ => rfl⟩
theorem nq_tr {C f : Nat} {σ τ υ : ST} (h : nq C f σ τ) (h2 : nq C f τ υ) : nq C f σ υ := ⟨h.1.tr h2.1, fun b hb => (h2.2 b hb).trans (h.2 b hb)⟩
theorem nq_c {C f j : Nat} {v : Int32} {σ τ : ST} (h : nq C f σ τ) (hC : C ≠ 112) : nq C f σ (ui τ C j v) := ⟨h.1.ui (Or.inr rfl), fun b hb => by rw [ui_ne (Ne.symm hC)]; exact h.2 b hb⟩
theorem nq_f {C f : Nat} {v : Int32} {σ τ : ST} (h : nq C f σ τ) : nq C f σ (ui τ 112 f v) := ⟨h.1.ui (Or.inl rfl), fun b hb => by rw [ui_nj hb]; exact h.2 b hb⟩
theorem nq_mq {C f : Nat} {σ τ : ST} (h : nq C f σ τ) (hC : 115 ≤ C ∧ C ≤ 121) (hf : f ≠ 13 ∧ f ≠ 26) : mq σ τ := ⟨h.1.mono (fun a ha => by unfold msP; omega), h.2 13 (Ne.symm hf.1), h.2 26 (Ne.symm hf.2)⟩
theorem sc_nq {C f fld cell cap : Nat} {σ τ : ST} {xs : List Int32} (hx : Sc σ fld cell cap xs) (h : nq C f σ τ) (h1 : fld ≠ f) (h2 : cell ≠ C) (h3 : cell ≠ 112) : Sc τ fld cell cap xs := ⟨by rw [h.2 fld h1]; exact hx.1, hx.2.1, fun i hi => by rw [(h.1 cell (by omega)).1]; exact hx.2.2 i hi⟩
theorem lf_push {σ : ST} {s : List Int32} {c : Int32} (h : LF σ s.reverse) (hb : s.length < 24) : LF (ui (ui σ 116 s.length c) 112 6 (nI (s.length + 1))) (c :: s).reverse ∧ nq 116 6 σ (ui (ui σ 116 s.length c) 112 6 (nI (s.length + 1))) := by
  obtain ⟨a, b, d⟩ := h
  refine ⟨⟨?_, ?_, fun i hi => ?_⟩, nq_f (nq_c nq_rf (by decide))⟩
  · rw [ui_same]; simp
  · simp; omega
  · simp at hi
    rw [ui_ne (by decide), ui_at, List.reverse_cons]
    by_cases z : i = s.length
    · rw [if_pos ⟨rfl, z⟩, z, show s.length = s.reverse.length by simp, getD_snoc_eq]
    · rw [if_neg (fun y => z y.2), getD_snoc_lt (by simp; omega)]
      exact d i (by simp; omega)
theorem lf_pop {σ : ST} {s : List Int32} {t : Int32} (h : LF σ (t :: s).reverse) : LF (ui σ 112 6 (nI s.length)) s.reverse ∧ nq 116 6 σ (ui σ 112 6 (nI s.length)) := by
  obtain ⟨a, b, d⟩ := h
  refine ⟨⟨?_, ?_, fun i hi => ?_⟩, nq_f nq_rf⟩
  · rw [ui_same]; simp
  · simp at b ⊢; omega
  · simp at hi
    rw [ui_ne (by decide), d i (by simp; omega), List.reverse_cons, getD_snoc_lt (by simp; omega)]
theorem lf_top {σ : ST} {s : List Int32} {t : Int32} (h : LF σ (t :: s).reverse) : σ.1 116 s.length = t := by
  rw [h.2.2 s.length (by simp), List.reverse_cons, show s.length = s.reverse.length by simp, getD_snoc_eq]
set_option maxRecDepth 100000 in
theorem c_X12_takesUp0 {l : Launch} {X : CX} {σ : ST} {c : Int32} (hL : LF σ ([] : List Int32).reverse) : MJ l X 0 yX12_takesUp cX12_takesUp 3 none [.ref (X.2.2.1 + 112), .int c] σ (PV (fun τ => LF τ (rp [] c).reverse ∧ nq 116 6 σ τ)) := by
  refine MJ_of (own := RX12) [some (.ref (X.2.2.1 + 112)), some (.int c), none] (by decide) rfl (Nat.le_of_ble_eq_true rfl) rfl ?_
  have h6 : σ.1 112 6 = nI 0 := hL.1
  have hp := lf_push (c := c) hL (by decide)
  refine rj_ald0 dX12_takesUp_0 rfl ?_
  refine g12_129 dX12_takesUp_1 ?_
  rw [h6]
  refine rj_if_le (tgt := 38) dX12_takesUp_4 (by decide) (fun h_4 => ?_) (fun h_4 => ?_)
  · refine rj_ic0 dX12_takesUp_38 ?_
    refine rj_ist2 dX12_takesUp_39 (by decide) rfl ?_
    refine rj_ild2 dX12_takesUp_40 rfl ?_
    refine rj_if_eq (tgt := 57) dX12_takesUp_41 (by decide) (fun h_41 => ?_) (fun h_41 => ?_)
    · refine rj_ald0 dX12_takesUp_57 rfl ?_
      refine g12_19 dX12_takesUp_58 ?_
      refine rj_ald0 dX12_takesUp_61 rfl ?_
      refine g12_129 dX12_takesUp_62 ?_
      rw [h6]
      refine rj_ild1 dX12_takesUp_65 rfl ?_
      refine rj_iast (by first | assumption | rfl) (vpi (by decide) (by decide)) dX12_takesUp_66 ?_
      rw [show (nI 0).toNatClampNeg = 0 from rfl]
      refine rj_ald0 dX12_takesUp_67 rfl ?_
      refine rj_dup dX12_takesUp_68 rfl ?_
      refine g12_129 dX12_takesUp_69 ?_
      rw [ui_ne (by decide), h6]
      refine rj_ic1 dX12_takesUp_72 ?_
      refine rj_iadd dX12_takesUp_73 ?_
      rw [nI_1]
      refine p12_129 dX12_takesUp_74 ?_
      refine rj_vret dX12_takesUp_77 ?_
      exact ⟨rfl, hp⟩
    · exact absurd rfl h_41
  · exact absurd h_4 (by decide)

set_option maxRecDepth 100000 in
theorem c_X12_takesUpC {l : Launch} {X : CX} {σ : ST} {c t : Int32} {s : List Int32} (hL : LF σ (t :: s).reverse) (hb : s.length < 23) : MJ l X 0 yX12_takesUp cX12_takesUp 3 none [.ref (X.2.2.1 + 112), .int c] σ (PV (fun τ => LF τ (rp (t :: s) c).reverse ∧ nq 116 6 σ τ)) := by
  refine MJ_of (own := RX12) [some (.ref (X.2.2.1 + 112)), some (.int c), none] (by decide) rfl (Nat.le_of_ble_eq_true rfl) rfl ?_
  have h6 : σ.1 112 6 = nI (s.length + 1) := by rw [hL.1]; simp
  have hn : (nI (s.length + 1)).toInt = s.length + 1 := by rw [nI_t (by omega)]; omega
  have hm : nI (s.length + 1) - 1 = nI s.length := by
    apply i_inj
    rw [i_sub (by rw [hn, t1]; omega) (by rw [hn, t1]; omega), hn, t1, nI_t (by omega)]
    omega
  have hmt : (nI s.length).toInt = s.length := nI_t (by omega)
  have hp := lf_push (c := c) hL (by simp; omega)
  have hpop := lf_pop hL
  have htop := lf_top hL
  refine rj_ald0 dX12_takesUp_0 rfl ?_
  refine g12_129 dX12_takesUp_1 ?_
  rw [h6]
  refine rj_if_le (tgt := 38) dX12_takesUp_4 (by decide) (fun h_4 => ?_) (fun h_4 => ?_)
  · exfalso; omega
  · refine rj_ald0 dX12_takesUp_7 rfl ?_
    refine g12_19 dX12_takesUp_8 ?_
    refine rj_ald0 dX12_takesUp_11 rfl ?_
    refine g12_129 dX12_takesUp_12 ?_
    rw [h6]
    refine rj_if_le (tgt := 27) dX12_takesUp_15 (by decide) (fun h_15 => ?_) (fun h_15 => ?_)
    · exfalso; omega
    · refine rj_ald0 dX12_takesUp_18 rfl ?_
      refine g12_129 dX12_takesUp_19 ?_
      rw [h6]
      refine rj_ic1 dX12_takesUp_22 ?_
      refine rj_isub dX12_takesUp_23 ?_
      rw [hm]
      refine rj_goto (tgt := 28) dX12_takesUp_24 (by decide) ?_
      refine rj_iald (by first | assumption | rfl) (vpi (by omega) (by show _ < ((24 : Nat) : Int); omega)) dX12_takesUp_28 ?_
      rw [nI_clamp (by omega), htop]
      refine rj_ild1 dX12_takesUp_29 rfl ?_
      refine rj_ineg dX12_takesUp_30 ?_
      refine rj_ic_ne (tgt := 38) dX12_takesUp_31 (by decide) (fun h_31 => ?_) (fun h_31 => ?_)
      · refine rj_ic0 dX12_takesUp_38 ?_
        refine rj_ist2 dX12_takesUp_39 (by decide) rfl ?_
        refine rj_ild2 dX12_takesUp_40 rfl ?_
        refine rj_if_eq (tgt := 57) dX12_takesUp_41 (by decide) (fun h_41 => ?_) (fun h_41 => ?_)
        · refine rj_ald0 dX12_takesUp_57 rfl ?_
          refine g12_19 dX12_takesUp_58 ?_
          refine rj_ald0 dX12_takesUp_61 rfl ?_
          refine g12_129 dX12_takesUp_62 ?_
          rw [h6]
          refine rj_ild1 dX12_takesUp_65 rfl ?_
          refine rj_iast (by first | assumption | rfl) (vpi (by omega) (by show _ < ((24 : Nat) : Int); omega)) dX12_takesUp_66 ?_
          rw [nI_clamp (by omega)]
          refine rj_ald0 dX12_takesUp_67 rfl ?_
          refine rj_dup dX12_takesUp_68 rfl ?_
          refine g12_129 dX12_takesUp_69 ?_
          rw [ui_ne (by decide), h6]
          refine rj_ic1 dX12_takesUp_72 ?_
          refine rj_iadd dX12_takesUp_73 ?_
          rw [nI_1]
          refine p12_129 dX12_takesUp_74 ?_
          refine rj_vret dX12_takesUp_77 ?_
          refine ⟨rfl, ?_⟩
          show LF _ (if t = -c then s else c :: t :: s).reverse ∧ _
          rw [if_neg h_31]
          exact hp
        · exact absurd rfl h_41
      · refine rj_ic1 dX12_takesUp_34 ?_
        refine rj_goto (tgt := 39) dX12_takesUp_35 (by decide) ?_
        refine rj_ist2 dX12_takesUp_39 (by decide) rfl ?_
        refine rj_ild2 dX12_takesUp_40 rfl ?_
        refine rj_if_eq (tgt := 57) dX12_takesUp_41 (by decide) (fun h_41 => ?_) (fun h_41 => ?_)
        · exact absurd h_41 (by decide)
        · refine rj_ald0 dX12_takesUp_44 rfl ?_
          refine rj_dup dX12_takesUp_45 rfl ?_
          refine g12_129 dX12_takesUp_46 ?_
          rw [h6]
          refine rj_ic1 dX12_takesUp_49 ?_
          refine rj_isub dX12_takesUp_50 ?_
          rw [hm]
          refine p12_129 dX12_takesUp_51 ?_
          refine rj_goto (tgt := 77) dX12_takesUp_54 (by decide) ?_
          refine rj_vret dX12_takesUp_77 ?_
          refine ⟨rfl, ?_⟩
          show LF _ (if t = -c then s else c :: t :: s).reverse ∧ _
          rw [if_pos h_31]
          exact hpop

theorem c_X12_takesUp {l : Launch} {X : CX} {σ : ST} {c : Int32} {s : List Int32} (hL : LF σ s.reverse) (hb : s.length < 24) : MJ l X 0 yX12_takesUp cX12_takesUp 3 none [.ref (X.2.2.1 + 112), .int c] σ (PV (fun τ => LF τ (rp s c).reverse ∧ nq 116 6 σ τ)) := by
  cases s with
  | nil => exact c_X12_takesUp0 hL
  | cons t s => exact c_X12_takesUpC hL (by simp at hb; omega)
