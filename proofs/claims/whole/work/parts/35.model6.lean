/-! the reference: pulls -/
theorem lf_push {σ : ST} {s : List Int32} {c : Int32} (h : LF σ s.reverse) (hb : s.length < 24) : LF (ui (ui σ 116 s.length c) 112 6 (nI (s.length + 1))) (c :: s).reverse ∧ nq 116 6 σ (ui (ui σ 116 s.length c) 112 6 (nI (s.length + 1))) := by
  obtain ⟨a, b, d⟩ := h
  refine ⟨⟨?_, ?_, fun i hi => ?_⟩, nq_f (nq_c nq_rf (by decide))⟩
  · rw [ui_same]; simp
  · simp; omega
  · simp at hi
    rw [ui_ne (by decide), ui_at, List.reverse_cons]
    by_cases z : i = s.length
    · rw [if_pos ⟨rfl, z⟩, z, show s.length = s.reverse.length by simp, getD_snoc_eq]
    · rw [if_neg (fun y => z y.2), getD_snoc_lt (by simp; omega)]
      exact d i (by simp; omega)
theorem lf_pop {σ : ST} {s : List Int32} {t : Int32} (h : LF σ (t :: s).reverse) : LF (ui σ 112 6 (nI s.length)) s.reverse ∧ nq 116 6 σ (ui σ 112 6 (nI s.length)) := by
  obtain ⟨a, b, d⟩ := h
  refine ⟨⟨?_, ?_, fun i hi => ?_⟩, nq_f nq_rf⟩
  · rw [ui_same]; simp
  · simp at b ⊢; omega
  · simp at hi
    rw [ui_ne (by decide), d i (by simp; omega), List.reverse_cons, getD_snoc_lt (by simp; omega)]
theorem lf_top {σ : ST} {s : List Int32} {t : Int32} (h : LF σ (t :: s).reverse) : σ.1 116 s.length = t := by
  rw [h.2.2 s.length (by simp), List.reverse_cons, show s.length = s.reverse.length by simp, getD_snoc_eq]
set_option maxRecDepth 100000 in
theorem c_X12_takesUp0 {l : Launch} {X : CX} {σ : ST} {c : Int32} (hL : LF σ ([] : List Int32).reverse) : MJ l X 0 yX12_takesUp cX12_takesUp 3 none [.ref (ad X 112), .int c] σ (PV (fun τ => LF τ (rp [] c).reverse ∧ nq 116 6 σ τ)) := by
  refine MJ_of (own := RX12) [some (.ref (ad X 112)), some (.int c), none] (by decide) rfl (Nat.le_of_ble_eq_true rfl) rfl ?_
  have h6 : σ.1 112 6 = nI 0 := hL.1
  have hp := lf_push (c := c) hL (by decide)
  refine rj_ald0 dX12_takesUp_0 rfl ?_
  refine g12_129 dX12_takesUp_1 ?_
  rw [h6]
  refine rj_if_le (tgt := 38) dX12_takesUp_4 (by decide) (fun h_4 => ?_) (fun h_4 => ?_)
  · refine rj_ic0 dX12_takesUp_38 ?_
    refine rj_ist2 dX12_takesUp_39 (by decide) rfl ?_
    refine rj_ild2 dX12_takesUp_40 rfl ?_
    refine rj_if_eq (tgt := 57) dX12_takesUp_41 (by decide) (fun h_41 => ?_) (fun h_41 => ?_)
    · refine rj_ald0 dX12_takesUp_57 rfl ?_
      refine g12_19 dX12_takesUp_58 ?_
      refine rj_ald0 dX12_takesUp_61 rfl ?_
      refine g12_129 dX12_takesUp_62 ?_
      rw [h6]
      refine rj_ild1 dX12_takesUp_65 rfl ?_
      refine rj_iast (by first | assumption | rfl) (vpi (by decide) (by decide)) dX12_takesUp_66 ?_
      rw [show (nI 0).toNatClampNeg = 0 from rfl]
      refine rj_ald0 dX12_takesUp_67 rfl ?_
      refine rj_dup dX12_takesUp_68 rfl ?_
      refine g12_129 dX12_takesUp_69 ?_
      rw [ui_ne (by decide), h6]
      refine rj_ic1 dX12_takesUp_72 ?_
      refine rj_iadd dX12_takesUp_73 ?_
      rw [nI_1]
      refine p12_129 dX12_takesUp_74 ?_
      refine rj_vret dX12_takesUp_77 ?_
      exact ⟨rfl, hp⟩
    · exact absurd rfl h_41
  · exact absurd h_4 (by decide)

set_option maxRecDepth 100000 in
theorem c_X12_takesUpC {l : Launch} {X : CX} {σ : ST} {c t : Int32} {s : List Int32} (hL : LF σ (t :: s).reverse) (hb : s.length < 23) : MJ l X 0 yX12_takesUp cX12_takesUp 3 none [.ref (ad X 112), .int c] σ (PV (fun τ => LF τ (rp (t :: s) c).reverse ∧ nq 116 6 σ τ)) := by
  refine MJ_of (own := RX12) [some (.ref (ad X 112)), some (.int c), none] (by decide) rfl (Nat.le_of_ble_eq_true rfl) rfl ?_
  have h6 : σ.1 112 6 = nI (s.length + 1) := by rw [hL.1]; simp
  have hn : (nI (s.length + 1)).toInt = s.length + 1 := by rw [nI_t (by omega)]; omega
  have hm : nI (s.length + 1) - 1 = nI s.length := by
    apply i_inj
    rw [i_sub (by rw [hn, t1]; omega) (by rw [hn, t1]; omega), hn, t1, nI_t (by omega)]
    omega
  have hmt : (nI s.length).toInt = s.length := nI_t (by omega)
  have hp := lf_push (c := c) hL (by simp; omega)
  have hpop := lf_pop hL
  have htop := lf_top hL
  refine rj_ald0 dX12_takesUp_0 rfl ?_
  refine g12_129 dX12_takesUp_1 ?_
  rw [h6]
  refine rj_if_le (tgt := 38) dX12_takesUp_4 (by decide) (fun h_4 => ?_) (fun h_4 => ?_)
  · exfalso; omega
  · refine rj_ald0 dX12_takesUp_7 rfl ?_
    refine g12_19 dX12_takesUp_8 ?_
    refine rj_ald0 dX12_takesUp_11 rfl ?_
    refine g12_129 dX12_takesUp_12 ?_
    rw [h6]
    refine rj_if_le (tgt := 27) dX12_takesUp_15 (by decide) (fun h_15 => ?_) (fun h_15 => ?_)
    · exfalso; omega
    · refine rj_ald0 dX12_takesUp_18 rfl ?_
      refine g12_129 dX12_takesUp_19 ?_
      rw [h6]
      refine rj_ic1 dX12_takesUp_22 ?_
      refine rj_isub dX12_takesUp_23 ?_
      rw [hm]
      refine rj_goto (tgt := 28) dX12_takesUp_24 (by decide) ?_
      refine rj_iald (by first | assumption | rfl) (vpi (by omega) (by show _ < ((24 : Nat) : Int); omega)) dX12_takesUp_28 ?_
      rw [nI_clamp (by omega), htop]
      refine rj_ild1 dX12_takesUp_29 rfl ?_
      refine rj_ineg dX12_takesUp_30 ?_
      refine rj_ic_ne (tgt := 38) dX12_takesUp_31 (by decide) (fun h_31 => ?_) (fun h_31 => ?_)
      · refine rj_ic0 dX12_takesUp_38 ?_
        refine rj_ist2 dX12_takesUp_39 (by decide) rfl ?_
        refine rj_ild2 dX12_takesUp_40 rfl ?_
        refine rj_if_eq (tgt := 57) dX12_takesUp_41 (by decide) (fun h_41 => ?_) (fun h_41 => ?_)
        · refine rj_ald0 dX12_takesUp_57 rfl ?_
          refine g12_19 dX12_takesUp_58 ?_
          refine rj_ald0 dX12_takesUp_61 rfl ?_
          refine g12_129 dX12_takesUp_62 ?_
          rw [h6]
          refine rj_ild1 dX12_takesUp_65 rfl ?_
          refine rj_iast (by first | assumption | rfl) (vpi (by omega) (by show _ < ((24 : Nat) : Int); omega)) dX12_takesUp_66 ?_
          rw [nI_clamp (by omega)]
          refine rj_ald0 dX12_takesUp_67 rfl ?_
          refine rj_dup dX12_takesUp_68 rfl ?_
          refine g12_129 dX12_takesUp_69 ?_
          rw [ui_ne (by decide), h6]
          refine rj_ic1 dX12_takesUp_72 ?_
          refine rj_iadd dX12_takesUp_73 ?_
          rw [nI_1]
          refine p12_129 dX12_takesUp_74 ?_
          refine rj_vret dX12_takesUp_77 ?_
          refine ⟨rfl, ?_⟩
          show LF _ (if t = -c then s else c :: t :: s).reverse ∧ _
          rw [if_neg h_31]
          exact hp
        · exact absurd rfl h_41
      · refine rj_ic1 dX12_takesUp_34 ?_
        refine rj_goto (tgt := 39) dX12_takesUp_35 (by decide) ?_
        refine rj_ist2 dX12_takesUp_39 (by decide) rfl ?_
        refine rj_ild2 dX12_takesUp_40 rfl ?_
        refine rj_if_eq (tgt := 57) dX12_takesUp_41 (by decide) (fun h_41 => ?_) (fun h_41 => ?_)
        · exact absurd h_41 (by decide)
        · refine rj_ald0 dX12_takesUp_44 rfl ?_
          refine rj_dup dX12_takesUp_45 rfl ?_
          refine g12_129 dX12_takesUp_46 ?_
          rw [h6]
          refine rj_ic1 dX12_takesUp_49 ?_
          refine rj_isub dX12_takesUp_50 ?_
          rw [hm]
          refine p12_129 dX12_takesUp_51 ?_
          refine rj_goto (tgt := 77) dX12_takesUp_54 (by decide) ?_
          refine rj_vret dX12_takesUp_77 ?_
          refine ⟨rfl, ?_⟩
          show LF _ (if t = -c then s else c :: t :: s).reverse ∧ _
          rw [if_pos h_31]
          exact hpop

theorem c_X12_takesUp {l : Launch} {X : CX} {σ : ST} {c : Int32} {s : List Int32} (hL : LF σ s.reverse) (hb : s.length < 24) : MJ l X 0 yX12_takesUp cX12_takesUp 3 none [.ref (ad X 112), .int c] σ (PV (fun τ => LF τ (rp s c).reverse ∧ nq 116 6 σ τ)) := by
  cases s with
  | nil => exact c_X12_takesUp0 hL
  | cons t s => exact c_X12_takesUpC hL (by simp at hb; omega)
set_option maxRecDepth 100000 in
theorem l_X12_pullLaid {l : Launch} {X : CX} {h : Nat} {Q : Option Value → ST → Prop} {σ : ST} {xs : List Int32} (hh : 1 ≤ h) (hx : LD σ xs) (hQ : ∀ τ, LF τ (red xs) → nq 116 6 σ τ → Q none τ) : ∀ (N i : Nat) (τ : ST), xs.length < i + N → (i ≤ xs.length ∧ LF τ (redR (xs.take i)).reverse ∧ nq 116 6 σ τ) → RJ (GM l X h Q) X cX12_pullLaid 2 none RX12 7 [some (.ref (ad X 112)), some (.int (nI i))] [] τ := by
  intro N
  induction N with
  | zero => intro i τ hN hi; have := hi.1; exact absurd hN (by omega)
  | succ N ih =>
    intro i τ hN hi
    obtain ⟨hi, hL, hm⟩ := hi
    have hX : LD τ xs := sc_nq hx hm (by decide) (by decide) (by decide)
    have hc := hX.2.1
    have hs := hX.1
    have hlt : (nI xs.length).toInt = xs.length := nI_t (by omega)
    have hit : (nI i).toInt = i := nI_t (by omega)
    have hrl := redR_len (xs.take i)
    rw [List.length_take] at hrl
    refine rj_ild1 dX12_pullLaid_7 rfl ?_
    refine rj_ald0 dX12_pullLaid_8 rfl ?_
    refine g12_114 dX12_pullLaid_9 ?_
    rw [hs]
    refine rj_ic_ge (tgt := 31) dX12_pullLaid_12 (by decide) (fun h_12 => ?_) (fun h_12 => ?_)
    · refine rj_vret dX12_pullLaid_31 ?_
      have hie : i = xs.length := by omega
      rw [hie, List.take_length] at hL
      exact hQ τ hL hm
    · refine rj_ald0 dX12_pullLaid_15 rfl ?_
      refine rj_ald0 dX12_pullLaid_16 rfl ?_
      refine g12_16 dX12_pullLaid_17 ?_
      refine rj_ild1 dX12_pullLaid_20 rfl ?_
      refine rj_iald (by first | assumption | rfl) (vpi (by omega) (by show _ < ((24 : Nat) : Int); omega)) dX12_pullLaid_21 ?_
      rw [nI_clamp (by omega), hX.2.2 i (by omega)]
      refine rj_V1 (ci := 12) cX12_132 rfl (by decide) (by first | assumption | rfl) dX12_pullLaid_22 (c_X12_takesUp hL (by omega)) (fitM (by omega) (by decide)) (Nat.le_of_ble_eq_true rfl) ?_
      rintro v υ ⟨rfl, hL1, hm1⟩
      simp only [Option.toList, List.nil_append]
      rw [← redR_snoc, ← take_snoc (by omega)] at hL1
      refine rj_iinc1 (d := 1) dX12_pullLaid_25 (by decide) rfl (by decide) ?_
      rw [nI_1]
      refine rj_goto (tgt := 7) dX12_pullLaid_28 (by decide) ?_
      exact ih (i + 1) υ (by omega) ⟨by omega, hL1, nq_tr hm hm1⟩

set_option maxRecDepth 100000 in
theorem c_X12_pullLaid {l : Launch} {X : CX} {σ : ST} {xs : List Int32} (hx : LD σ xs) : MJ l X 1 yX12_pullLaid cX12_pullLaid 2 none [.ref (ad X 112)] σ (PV (fun τ => LF τ (red xs) ∧ nq 116 6 σ τ)) := by
  refine MJ_of (own := RX12) [some (.ref (ad X 112)), none] (by decide) rfl (Nat.le_of_ble_eq_true rfl) rfl ?_
  refine rj_ald0 dX12_pullLaid_0 rfl ?_
  refine rj_ic0 dX12_pullLaid_1 ?_
  refine p12_129 dX12_pullLaid_2 ?_
  refine rj_ic0 dX12_pullLaid_5 ?_
  refine rj_ist1 dX12_pullLaid_6 (by decide) rfl ?_
  have hm : nq 116 6 σ (ui σ 112 6 0) := nq_f nq_rf
  refine l_X12_pullLaid (by decide) (sc_nq hx hm (by decide) (by decide) (by decide)) (fun τ h1 h2 => ⟨rfl, h1, nq_tr hm h2⟩) (xs.length + 1) 0 _ (by omega) ⟨by omega, ⟨?_, by simp [redR], fun i hi => by simp [redR] at hi⟩, nq_rf⟩
  rw [ui_same]; rfl

set_option maxRecDepth 100000 in
theorem l_X12_pullTried {l : Launch} {X : CX} {h : Nat} {Q : Option Value → ST → Prop} {σ : ST} {xs : List Int32} (hh : 1 ≤ h) (hx : TR σ xs) (hQ : ∀ τ, LF τ (red xs) → nq 116 6 σ τ → Q none τ) : ∀ (N i : Nat) (τ : ST), xs.length < i + N → (i ≤ xs.length ∧ LF τ (redR (xs.take i)).reverse ∧ nq 116 6 σ τ) → RJ (GM l X h Q) X cX12_pullTried 2 none RX12 7 [some (.ref (ad X 112)), some (.int (nI i))] [] τ := by
  intro N
  induction N with
  | zero => intro i τ hN hi; have := hi.1; exact absurd hN (by omega)
  | succ N ih =>
    intro i τ hN hi
    obtain ⟨hi, hL, hm⟩ := hi
    have hX : TR τ xs := sc_nq hx hm (by decide) (by decide) (by decide)
    have hc := hX.2.1
    have hs := hX.1
    have hlt : (nI xs.length).toInt = xs.length := nI_t (by omega)
    have hit : (nI i).toInt = i := nI_t (by omega)
    have hrl := redR_len (xs.take i)
    rw [List.length_take] at hrl
    refine rj_ild1 dX12_pullTried_7 rfl ?_
    refine rj_ald0 dX12_pullTried_8 rfl ?_
    refine g12_107 dX12_pullTried_9 ?_
    rw [hs]
    refine rj_ic_ge (tgt := 31) dX12_pullTried_12 (by decide) (fun h_12 => ?_) (fun h_12 => ?_)
    · refine rj_vret dX12_pullTried_31 ?_
      have hie : i = xs.length := by omega
      rw [hie, List.take_length] at hL
      exact hQ τ hL hm
    · refine rj_ald0 dX12_pullTried_15 rfl ?_
      refine rj_ald0 dX12_pullTried_16 rfl ?_
      refine g12_22 dX12_pullTried_17 ?_
      refine rj_ild1 dX12_pullTried_20 rfl ?_
      refine rj_iald (by first | assumption | rfl) (vpi (by omega) (by show _ < ((12 : Nat) : Int); omega)) dX12_pullTried_21 ?_
      rw [nI_clamp (by omega), hX.2.2 i (by omega)]
      refine rj_V1 (ci := 12) cX12_132 rfl (by decide) (by first | assumption | rfl) dX12_pullTried_22 (c_X12_takesUp hL (by omega)) (fitM (by omega) (by decide)) (Nat.le_of_ble_eq_true rfl) ?_
      rintro v υ ⟨rfl, hL1, hm1⟩
      simp only [Option.toList, List.nil_append]
      rw [← redR_snoc, ← take_snoc (by omega)] at hL1
      refine rj_iinc1 (d := 1) dX12_pullTried_25 (by decide) rfl (by decide) ?_
      rw [nI_1]
      refine rj_goto (tgt := 7) dX12_pullTried_28 (by decide) ?_
      exact ih (i + 1) υ (by omega) ⟨by omega, hL1, nq_tr hm hm1⟩

set_option maxRecDepth 100000 in
theorem c_X12_pullTried {l : Launch} {X : CX} {σ : ST} {xs : List Int32} (hx : TR σ xs) : MJ l X 1 yX12_pullTried cX12_pullTried 2 none [.ref (ad X 112)] σ (PV (fun τ => LF τ (red xs) ∧ nq 116 6 σ τ)) := by
  refine MJ_of (own := RX12) [some (.ref (ad X 112)), none] (by decide) rfl (Nat.le_of_ble_eq_true rfl) rfl ?_
  refine rj_ald0 dX12_pullTried_0 rfl ?_
  refine rj_ic0 dX12_pullTried_1 ?_
  refine p12_129 dX12_pullTried_2 ?_
  refine rj_ic0 dX12_pullTried_5 ?_
  refine rj_ist1 dX12_pullTried_6 (by decide) rfl ?_
  have hm : nq 116 6 σ (ui σ 112 6 0) := nq_f nq_rf
  refine l_X12_pullTried (by decide) (sc_nq hx hm (by decide) (by decide) (by decide)) (fun τ h1 h2 => ⟨rfl, h1, nq_tr hm h2⟩) (xs.length + 1) 0 _ (by omega) ⟨by omega, ⟨?_, by simp [redR], fun i hi => by simp [redR] at hi⟩, nq_rf⟩
  rw [ui_same]; rfl

