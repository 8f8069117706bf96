/-! the reference: what a text wants -/
set_option maxRecDepth 100000 in
theorem c_X12_addCrossingF {l : Launch} {X : CX} {σ : ST} {A : SA} (hM : MR σ A) {t : Int32} {j : Nat} (ht : t.toInt = j) (hj : j < A.2.1.2.2.length) {c : Int32} (hl : (fT A j).2.length < 12) : MJ l X 2 yX12_addCrossing cX12_addCrossing 3 none [.ref (ad X 112), .int t, .int c] σ (PV (fun τ => MR τ (sT A j ((fT A j).1, (fT A j).2 ++ [c])) ∧ off (fun a => a = 113) σ τ)) := by
  refine MJ_of (own := RX12) [some (.ref (ad X 112)), some (.int t), some (.int c)] (by decide) rfl (Nat.le_of_ble_eq_true rfl) rfl ?_
  have h8 := hM.1.2.2.2.1
  obtain ⟨f1, f2, f3, f4⟩ := hM.1.2.2.2.2 j hj
  have f5 : (fT A j).2.length ≤ 12 := f3
  have f6 : σ.1 113 (4 + 14 * j) = nI (fT A j).2.length := f2
  have hq1 := at_s (b := 1) ht (by omega) (by omega)
  have hq2 := at_s (b := 2 + (fT A j).2.length) ht (by omega) (by omega)
  have e2 : (2 : Int32) + nI (fT A j).2.length = nI (2 + (fT A j).2.length) := by rw [show (2 : Int32) = nI 2 from rfl, nI_add]
  refine rj_ald0 dX12_addCrossing_0 rfl ?_
  refine g12_7 dX12_addCrossing_1 ?_
  refine rj_ild1 dX12_addCrossing_4 rfl ?_
  refine rj_ic2 dX12_addCrossing_5 ?_
  refine rj_ald0 dX12_addCrossing_6 rfl ?_
  refine rj_ild1 dX12_addCrossing_7 rfl ?_
  refine rj_V1i (ci := 12) cX12_82 rfl (by decide) (by first | assumption | rfl) dX12_addCrossing_8 (c_X12_sizeOfRow hM ht hj) (fitM (by decide) (by decide)) (Nat.le_of_ble_eq_true rfl) ?_
  refine rj_iadd dX12_addCrossing_11 ?_
  rw [e2]
  refine rj_S2i cX12_64 dX12_addCrossing_12 c_X12_at (fitM (by decide) (by decide)) (Nat.le_of_ble_eq_true rfl) ?_
  refine rj_ild2 dX12_addCrossing_15 rfl ?_
  refine rj_iast (by first | assumption | rfl) (vpi (by omega) (by show _ < ((115 : Nat) : Int); omega)) dX12_addCrossing_16 ?_
  rw [hq2.2]
  refine rj_ald0 dX12_addCrossing_17 rfl ?_
  refine g12_7 dX12_addCrossing_18 ?_
  refine rj_ild1 dX12_addCrossing_21 rfl ?_
  refine rj_ic1 dX12_addCrossing_22 ?_
  rw [show (1 : Int32) = nI 1 from rfl]
  refine rj_S2i cX12_64 dX12_addCrossing_23 c_X12_at (fitM (by decide) (by decide)) (Nat.le_of_ble_eq_true rfl) ?_
  refine rj_dup2 dX12_addCrossing_26 rfl rfl ?_
  refine rj_iald (by first | assumption | rfl) (vpi (by omega) (by show _ < ((115 : Nat) : Int); omega)) dX12_addCrossing_27 ?_
  rw [hq1.2]
  refine rj_ic1 dX12_addCrossing_28 ?_
  refine rj_iadd dX12_addCrossing_29 ?_
  refine rj_iast (by first | assumption | rfl) (vpi (by omega) (by show _ < ((115 : Nat) : Int); omega)) dX12_addCrossing_30 ?_
  refine rj_vret dX12_addCrossing_31 ?_
  rw [hq1.2]
  refine ⟨rfl, (mr_tie hM hj (off_r (off_r off.rf)) (fun b hb => ?_) ?_ ?_ (by rw [List.length_append, List.length_singleton]; omega) (fun i hi => ?_)).1, off_r (off_r off.rf)⟩
  · rw [ui_at, if_neg (by omega), ui_at, if_neg (by omega)]
  · rw [ui_at, if_neg (by omega), ui_at, if_neg (by omega)]; exact f1
  · rw [ui_at, if_pos ⟨rfl, by omega⟩, ui_at, if_neg (by omega), show 3 + 14 * j + 1 = 4 + 14 * j by omega, f6, nI_1, List.length_append, List.length_singleton]
  · rw [List.length_append, List.length_singleton] at hi
    rw [ui_at, if_neg (by omega), ui_at]
    by_cases q : i = (fT A j).2.length
    · subst q; rw [if_pos ⟨rfl, by omega⟩, getD_snoc_eq]
    · rw [if_neg (by omega), getD_snoc_lt (by omega)]; exact f4 i (by show i < (fT A j).2.length; omega)

set_option maxRecDepth 100000 in
theorem c_X12_addTieF {l : Launch} {X : CX} {σ : ST} {A : SA} (hM : MR σ A) {k : Int32} (hl : A.2.1.2.2.length < 8) : MJ l X 1 yX12_addTie cX12_addTie 3 none [.ref (ad X 112), .int k] σ (PV (fun τ => MR τ (A.1, (A.2.1.1, A.2.1.2.1, A.2.1.2.2 ++ [(k, [])]), A.2.2) ∧ off (fun a => a = 113) σ τ)) := by
  refine MJ_of (own := RX12) [some (.ref (ad X 112)), some (.int k), none] (by decide) rfl (Nat.le_of_ble_eq_true rfl) rfl ?_
  have h1 := hM.1.2.1
  have hlt : (nI A.2.1.2.2.length).toInt = A.2.1.2.2.length := nI_t (by omega)
  have hq0 := at_s (b := 0) hlt (by omega) (by omega)
  have hq1 := at_s (b := 1) hlt (by omega) (by omega)
  refine rj_ald0 dX12_addTie_0 rfl ?_
  refine g12_7 dX12_addTie_1 ?_
  refine rj_ic1 dX12_addTie_4 ?_
  refine rj_iald (by first | assumption | rfl) (vpi (by decide) (by decide)) dX12_addTie_5 ?_
  rw [show (1 : Int32).toNatClampNeg = 1 from rfl, h1]
  refine rj_ist2 dX12_addTie_6 (by decide) rfl ?_
  refine rj_ald0 dX12_addTie_7 rfl ?_
  refine g12_7 dX12_addTie_8 ?_
  refine rj_ild2 dX12_addTie_11 rfl ?_
  refine rj_ic0 dX12_addTie_12 ?_
  rw [show (0 : Int32) = nI 0 from rfl]
  refine rj_S2i cX12_64 dX12_addTie_13 c_X12_at (fitM (by decide) (by decide)) (Nat.le_of_ble_eq_true rfl) ?_
  refine rj_ild1 dX12_addTie_16 rfl ?_
  refine rj_iast (by first | assumption | rfl) (vpi (by omega) (by show _ < ((115 : Nat) : Int); omega)) dX12_addTie_17 ?_
  rw [hq0.2]
  refine rj_ald0 dX12_addTie_18 rfl ?_
  refine g12_7 dX12_addTie_19 ?_
  refine rj_ild2 dX12_addTie_22 rfl ?_
  refine rj_ic1 dX12_addTie_23 ?_
  rw [show (1 : Int32) = nI 1 from rfl]
  refine rj_S2i cX12_64 dX12_addTie_24 c_X12_at (fitM (by decide) (by decide)) (Nat.le_of_ble_eq_true rfl) ?_
  refine rj_ic0 dX12_addTie_27 ?_
  refine rj_iast (by first | assumption | rfl) (vpi (by omega) (by show _ < ((115 : Nat) : Int); omega)) dX12_addTie_28 ?_
  rw [hq1.2]
  refine rj_ald0 dX12_addTie_29 rfl ?_
  refine g12_7 dX12_addTie_30 ?_
  refine rj_ic1 dX12_addTie_33 ?_
  refine rj_dup2 dX12_addTie_34 rfl rfl ?_
  refine rj_iald (by first | assumption | rfl) (vpi (by decide) (by decide)) dX12_addTie_35 ?_
  refine rj_ic1 dX12_addTie_36 ?_
  refine rj_iadd dX12_addTie_37 ?_
  refine rj_iast (by first | assumption | rfl) (vpi (by decide) (by decide)) dX12_addTie_38 ?_
  refine rj_vret dX12_addTie_39 ?_
  rw [show (1 : Int32).toNatClampNeg = 1 from rfl]
  refine ⟨rfl, (mr_row hM (fm_begin hM.1 hl (fun b hb h => ?_) ?_ ?_ ?_) (off_r (off_r (off_r off.rf))) rfl).1, off_r (off_r (off_r off.rf))⟩
  · rw [ui_at, if_neg (by omega), ui_at, if_neg (by omega), ui_at, if_neg (by omega)]
  · rw [ui_same, ui_at, if_neg (by omega), ui_at, if_neg (by omega), h1, nI_1]
  · rw [ui_at, if_neg (by omega), ui_at, if_neg (by omega), ui_at, if_pos ⟨rfl, rfl⟩]
  · rw [ui_at, if_neg (by omega), ui_at, if_pos ⟨rfl, by omega⟩]

def fA (A : SA) (F : FA) : SA := (A.1, F, A.2.2)
abbrev bsA (A : SA) : List Int32 := A.2.2.2.1
abbrev cX : Nat → Prop := fun a => a = 112 ∨ a = 113
theorem tk_3 {σ τ : ST} {bs : List Int32} {p : Nat} (h : TKM σ bs p) (ho : off (fun a => a = 113) σ τ) : TKM τ bs p := by
  unfold TKM
  rw [(ho 112 (by decide)).1, (ho 112 (by decide)).2]
  exact h
theorem tk_g {σ : ST} {bs : List Int32} {p : Nat} {g : Int32} (h : TKM σ bs p) : TKM (ui σ 112 19 g) bs p := by
  unfold TKM
  rw [ui_nj (by decide), ui_nj (by decide), ui_nj (by decide), ui_nj (by decide), ui_2]
  exact h
theorem mr_g {σ : ST} {A : SA} {g : Int32} (h : MR σ A) : MR (ui σ 112 19 g) A := mr_s h (mq_ui mq_rf (by omega))
theorem tpm_mr {σ : ST} {A : SA} (h : MR σ A) : TPm σ (bsA A) := h.2.2.2.1
/-- good, the fair, the token -/
def XS (σ : ST) (A : SA) (g : Bool) (p : Nat) (F : FA) : Prop := σ.1 112 19 = (if g = true then 1 else 0) ∧ MR σ (fA A F) ∧ TKM σ (bsA A) p ∧ p ≤ (bsA A).length
def WQ (σ : ST) (A : SA) (r : Bool × Nat × FA) : Option Value → ST → Prop := fun v τ => v = none ∧ XS τ A r.1 r.2.1 r.2.2 ∧ off cX σ τ
def byP (A : SA) : Prop := ∀ i, i < (bsA A).length → 0 ≤ ((bsA A).getD i 0).toInt
theorem x_adv {l : Launch} {X : CX} {σ : ST} {A : SA} {F : FA} {g : Bool} {p : Nat} (hb : byP A) (h : XS σ A g p F) : MJ l X 2 yX12_advance cX12_advance 2 none [.ref (ad X 112)] σ (PV (fun τ => XS τ A g (nx (bsA A) p) F ∧ off cX σ τ)) := by
  have hl := tR_le h.2.2.2
  refine MJ_c (c_X12_advance (tpm_mr h.2.1) hb (p := nx (bsA A) p) hl.2 h.2.2.1.2.2.1) (fun v τ q => ?_)
  obtain ⟨rfl, q1, q2⟩ := q
  exact ⟨rfl, ⟨by rw [q2.2 19 (by decide) (by decide) (by decide) (by decide)]; exact h.1, mr_s h.2.1 (tq_mq q2), q1, hl.2⟩, q2.1.mono (fun a ha => Or.inl ha)⟩
theorem x_g {σ : ST} {A : SA} {F : FA} {g : Bool} {p : Nat} (b : Bool) (h : XS σ A g p F) : XS (ui σ 112 19 (if b = true then 1 else 0)) A b p F := ⟨ui_same _ _ _ _, mr_g h.2.1, tk_g h.2.2.1, h.2.2.2⟩
theorem oX_g {σ : ST} {v : Int32} : off cX σ (ui σ 112 19 v) := off.rf.ui (Or.inl rfl)
set_option maxRecDepth 100000 in
theorem c_X12_isMinus {l : Launch} {X : CX} {σ : ST} {bs : List Int32} {p : Nat} (hK : TKM σ bs p) : MJ l X 0 yX12_isMinus cX12_isMinus 1 (some .boolean) [.ref (ad X 112)] σ (eqI (if isS bs p 45 then 1 else 0) σ) := by
  refine MJ_of (own := RX12) [some (.ref (ad X 112))] (by decide) rfl (Nat.le_of_ble_eq_true rfl) rfl ?_
  have h14 := hK.1
  refine rj_ald0 dX12_isMinus_0 rfl ?_
  refine g12_236 dX12_isMinus_1 ?_
  rw [h14]
  refine rj_ic3 dX12_isMinus_4 ?_
  refine rj_ic_ne (tgt := 21) dX12_isMinus_5 (by decide) (fun h_5 => ?_) (fun h_5 => ?_)
  · refine rj_ic0 dX12_isMinus_21 ?_
    refine rj_zret dX12_isMinus_22 (rfl) ?_
    refine ⟨?_, rfl⟩
    rw [if_neg (fun z => h_5 z.1)]
  · have h18 := hK.2.2.2.2.1 h_5
    refine rj_ald0 dX12_isMinus_8 rfl ?_
    refine g12_243 dX12_isMinus_9 ?_
    rw [h18]
    refine rj_bipush (v := 45) dX12_isMinus_12 (by decide) ?_
    refine rj_ic_ne (tgt := 21) dX12_isMinus_14 (by decide) (fun h_14 => ?_) (fun h_14 => ?_)
    · refine rj_ic0 dX12_isMinus_21 ?_
      refine rj_zret dX12_isMinus_22 (rfl) ?_
      refine ⟨?_, rfl⟩
      rw [if_neg (fun z => h_14 z.2)]
    · refine rj_ic1 dX12_isMinus_17 ?_
      refine rj_goto (tgt := 22) dX12_isMinus_18 (by decide) ?_
      refine rj_zret dX12_isMinus_22 (rfl) ?_
      refine ⟨?_, rfl⟩
      rw [if_pos ⟨h_5, h_14⟩]

set_option maxRecDepth 100000 in
theorem c_X12_kindHere {l : Launch} {X : CX} {σ : ST} {bs : List Int32} {p : Nat} (hK : TKM σ bs p) (hp : p ≤ bs.length) : MJ l X 1 yX12_kindHere cX12_kindHere 1 (some .int) [.ref (ad X 112)] σ (eqI (kdN bs p 6 0) σ) := by
  refine MJ_of (own := RX12) [some (.ref (ad X 112))] (by decide) rfl (Nat.le_of_ble_eq_true rfl) rfl ?_
  refine rj_ald0 dX12_kindHere_0 rfl ?_
  refine rj_ldc2 kX12_252 dX12_kindHere_1 ?_
  refine rj_V1i (ci := 12) cX12_254 rfl (by decide) (by first | assumption | rfl) dX12_kindHere_4 (c_X12_isWord hK hp (i := 2) (by decide) rfl) (fitM (by decide) (by decide)) (Nat.le_of_ble_eq_true rfl) ?_
  refine rj_if_eq (tgt := 14) dX12_kindHere_7 (by decide) (fun h_7 => ?_) (fun h_7 => ?_)
  · have hb_7 := bz_t h_7
    refine rj_ald0 dX12_kindHere_14 rfl ?_
    refine rj_ldc2 kX12_258 dX12_kindHere_15 ?_
    refine rj_V1i (ci := 12) cX12_254 rfl (by decide) (by first | assumption | rfl) dX12_kindHere_18 (c_X12_isWord hK hp (i := 3) (by decide) rfl) (fitM (by decide) (by decide)) (Nat.le_of_ble_eq_true rfl) ?_
    refine rj_if_eq (tgt := 28) dX12_kindHere_21 (by decide) (fun h_21 => ?_) (fun h_21 => ?_)
    · have hb_21 := bz_t h_21
      refine rj_ald0 dX12_kindHere_28 rfl ?_
      refine rj_ldc2 kX12_260 dX12_kindHere_29 ?_
      refine rj_V1i (ci := 12) cX12_254 rfl (by decide) (by first | assumption | rfl) dX12_kindHere_32 (c_X12_isWord hK hp (i := 4) (by decide) rfl) (fitM (by decide) (by decide)) (Nat.le_of_ble_eq_true rfl) ?_
      refine rj_if_eq (tgt := 42) dX12_kindHere_35 (by decide) (fun h_35 => ?_) (fun h_35 => ?_)
      · have hb_35 := bz_t h_35
        refine rj_ald0 dX12_kindHere_42 rfl ?_
        refine rj_ldc2 kX12_262 dX12_kindHere_43 ?_
        refine rj_V1i (ci := 12) cX12_254 rfl (by decide) (by first | assumption | rfl) dX12_kindHere_46 (c_X12_isWord hK hp (i := 5) (by decide) rfl) (fitM (by decide) (by decide)) (Nat.le_of_ble_eq_true rfl) ?_
        refine rj_if_eq (tgt := 56) dX12_kindHere_49 (by decide) (fun h_49 => ?_) (fun h_49 => ?_)
        · have hb_49 := bz_t h_49
          refine rj_ald0 dX12_kindHere_56 rfl ?_
          refine rj_ldc2 kX12_264 dX12_kindHere_57 ?_
          refine rj_V1i (ci := 12) cX12_254 rfl (by decide) (by first | assumption | rfl) dX12_kindHere_60 (c_X12_isWord hK hp (i := 6) (by decide) rfl) (fitM (by decide) (by decide)) (Nat.le_of_ble_eq_true rfl) ?_
          refine rj_if_eq (tgt := 70) dX12_kindHere_63 (by decide) (fun h_63 => ?_) (fun h_63 => ?_)
          · have hb_63 := bz_t h_63
            refine rj_ald0 dX12_kindHere_70 rfl ?_
            refine rj_ldc2 kX12_266 dX12_kindHere_71 ?_
            refine rj_V1i (ci := 12) cX12_254 rfl (by decide) (by first | assumption | rfl) dX12_kindHere_74 (c_X12_isWord hK hp (i := 7) (by decide) rfl) (fitM (by decide) (by decide)) (Nat.le_of_ble_eq_true rfl) ?_
            refine rj_if_eq (tgt := 84) dX12_kindHere_77 (by decide) (fun h_77 => ?_) (fun h_77 => ?_)
            · have hb_77 := bz_t h_77
              refine rj_icm1 dX12_kindHere_84 ?_
              refine rj_iret dX12_kindHere_85 ?_
              refine ⟨?_, rfl⟩
              unfold kdN
              rw [if_neg hb_7]
              unfold kdN
              rw [if_neg hb_21]
              unfold kdN
              rw [if_neg hb_35]
              unfold kdN
              rw [if_neg hb_49]
              unfold kdN
              rw [if_neg hb_63]
              unfold kdN
              rw [if_neg hb_77]
              rfl
            · have hb_77 := bz_f h_77
              refine rj_ic5 dX12_kindHere_80 ?_
              refine rj_goto (tgt := 85) dX12_kindHere_81 (by decide) ?_
              refine rj_iret dX12_kindHere_85 ?_
              refine ⟨?_, rfl⟩
              unfold kdN
              rw [if_neg hb_7]
              unfold kdN
              rw [if_neg hb_21]
              unfold kdN
              rw [if_neg hb_35]
              unfold kdN
              rw [if_neg hb_49]
              unfold kdN
              rw [if_neg hb_63]
              unfold kdN
              rw [if_pos hb_77]
              rfl
          · have hb_63 := bz_f h_63
            refine rj_ic4 dX12_kindHere_66 ?_
            refine rj_goto (tgt := 85) dX12_kindHere_67 (by decide) ?_
            refine rj_iret dX12_kindHere_85 ?_
            refine ⟨?_, rfl⟩
            unfold kdN
            rw [if_neg hb_7]
            unfold kdN
            rw [if_neg hb_21]
            unfold kdN
            rw [if_neg hb_35]
            unfold kdN
            rw [if_neg hb_49]
            unfold kdN
            rw [if_pos hb_63]
            rfl
        · have hb_49 := bz_f h_49
          refine rj_ic3 dX12_kindHere_52 ?_
          refine rj_goto (tgt := 85) dX12_kindHere_53 (by decide) ?_
          refine rj_iret dX12_kindHere_85 ?_
          refine ⟨?_, rfl⟩
          unfold kdN
          rw [if_neg hb_7]
          unfold kdN
          rw [if_neg hb_21]
          unfold kdN
          rw [if_neg hb_35]
          unfold kdN
          rw [if_pos hb_49]
          rfl
      · have hb_35 := bz_f h_35
        refine rj_ic2 dX12_kindHere_38 ?_
        refine rj_goto (tgt := 85) dX12_kindHere_39 (by decide) ?_
        refine rj_iret dX12_kindHere_85 ?_
        refine ⟨?_, rfl⟩
        unfold kdN
        rw [if_neg hb_7]
        unfold kdN
        rw [if_neg hb_21]
        unfold kdN
        rw [if_pos hb_35]
        rfl
    · have hb_21 := bz_f h_21
      refine rj_ic1 dX12_kindHere_24 ?_
      refine rj_goto (tgt := 85) dX12_kindHere_25 (by decide) ?_
      refine rj_iret dX12_kindHere_85 ?_
      refine ⟨?_, rfl⟩
      unfold kdN
      rw [if_neg hb_7]
      unfold kdN
      rw [if_pos hb_21]
      rfl
  · have hb_7 := bz_f h_7
    refine rj_ic0 dX12_kindHere_10 ?_
    refine rj_goto (tgt := 85) dX12_kindHere_11 (by decide) ?_
    refine rj_iret dX12_kindHere_85 ?_
    refine ⟨?_, rfl⟩
    unfold kdN
    rw [if_pos hb_7]
    rfl

set_option maxRecDepth 100000 in
theorem c_X12_wantNumber0 {l : Launch} {X : CX} {σ : ST} {A : SA} {F : FA} {p : Nat} {a b : Int32} (h : XS σ A false p F) : MJ l X 3 yX12_wantNumber cX12_wantNumber 4 (some .int) [.ref (ad X 112), .int a, .int b] σ ((fun v τ => (∃ r, v = some (.int r)) ∧ XS τ A false p F ∧ off cX σ τ)) := by
  refine MJ_of (own := RX12) [some (.ref (ad X 112)), some (.int a), some (.int b), none] (by decide) rfl (Nat.le_of_ble_eq_true rfl) rfl ?_
  have h19 : σ.1 112 19 = 0 := h.1
  refine rj_ald0 dX12_wantNumber_0 rfl ?_
  refine g12_243 dX12_wantNumber_1 ?_
  refine rj_ist3 dX12_wantNumber_4 (by decide) rfl ?_
  refine rj_ald0 dX12_wantNumber_5 rfl ?_
  refine rj_ald0 dX12_wantNumber_6 rfl ?_
  refine g12_268 dX12_wantNumber_7 ?_
  rw [h19]
  refine rj_if_eq (tgt := 34) dX12_wantNumber_10 (by decide) (fun h_10 => ?_) (fun h_10 => ?_)
  · refine rj_ic0 dX12_wantNumber_34 ?_
    refine p12_268 (by first | exact Or.inl rfl | exact Or.inr rfl) dX12_wantNumber_35 ?_
    refine rj_ald0 dX12_wantNumber_38 rfl ?_
    refine g12_268 dX12_wantNumber_39 ?_
    rw [ui_same]
    refine rj_if_eq (tgt := 49) dX12_wantNumber_42 (by decide) (fun h_42 => ?_) (fun h_42 => ?_)
    · refine rj_ild3 dX12_wantNumber_49 rfl ?_
      refine rj_iret dX12_wantNumber_50 ?_
      exact ⟨⟨_, rfl⟩, x_g false h, oX_g⟩
    · exact absurd rfl h_42
  · exact absurd rfl h_10

set_option maxRecDepth 100000 in
theorem c_X12_wantNumber1 {l : Launch} {X : CX} {σ : ST} {A : SA} {F : FA} {p : Nat} {a b : Int32} (hb : byP A) (h : XS σ A true p F) : MJ l X 3 yX12_wantNumber cX12_wantNumber 4 (some .int) [.ref (ad X 112), .int a, .int b] σ ((fun v τ => (∃ r, v = some (.int r) ∧ (isN (bsA A) p a b → r = (tR (bsA A) p).2)) ∧ XS τ A (decide (isN (bsA A) p a b)) (if isN (bsA A) p a b then nx (bsA A) p else p) F ∧ off cX σ τ)) := by
  refine MJ_of (own := RX12) [some (.ref (ad X 112)), some (.int a), some (.int b), none] (by decide) rfl (Nat.le_of_ble_eq_true rfl) rfl ?_
  have h19 : σ.1 112 19 = 1 := h.1
  have h14 := h.2.2.1.1
  refine rj_ald0 dX12_wantNumber_0 rfl ?_
  refine g12_243 dX12_wantNumber_1 ?_
  refine rj_ist3 dX12_wantNumber_4 (by decide) rfl ?_
  refine rj_ald0 dX12_wantNumber_5 rfl ?_
  refine rj_ald0 dX12_wantNumber_6 rfl ?_
  refine g12_268 dX12_wantNumber_7 ?_
  rw [h19]
  refine rj_if_eq (tgt := 34) dX12_wantNumber_10 (by decide) (fun h_10 => ?_) (fun h_10 => ?_)
  · exact absurd h_10 (by decide)
  · refine rj_ald0 dX12_wantNumber_13 rfl ?_
    refine g12_236 dX12_wantNumber_14 ?_
    rw [h14]
    refine rj_ic2 dX12_wantNumber_17 ?_
    refine rj_ic_ne (tgt := 34) dX12_wantNumber_18 (by decide) (fun h_18 => ?_) (fun h_18 => ?_)
    · refine rj_ic0 dX12_wantNumber_34 ?_
      refine p12_268 (by first | exact Or.inl rfl | exact Or.inr rfl) dX12_wantNumber_35 ?_
      refine rj_ald0 dX12_wantNumber_38 rfl ?_
      refine g12_268 dX12_wantNumber_39 ?_
      rw [ui_same]
      refine rj_if_eq (tgt := 49) dX12_wantNumber_42 (by decide) (fun h_42 => ?_) (fun h_42 => ?_)
      · refine rj_ild3 dX12_wantNumber_49 rfl ?_
        refine rj_iret dX12_wantNumber_50 ?_
        have hn : ¬ isN (bsA A) p a b := fun z => h_18 z.1
        rw [if_neg hn, decide_eq_false hn]
        exact ⟨⟨_, rfl, fun z => absurd z hn⟩, x_g false h, oX_g⟩
      · exact absurd rfl h_42
    · have h18 := h.2.2.1.2.2.2.1 h_18
      refine rj_ild3 dX12_wantNumber_21 rfl ?_
      refine rj_ild1 dX12_wantNumber_22 rfl ?_
      refine rj_ild2 dX12_wantNumber_23 rfl ?_
      refine rj_S3i cX12_60 dX12_wantNumber_24 c_X12_in (fitM (by decide) (by decide)) (Nat.le_of_ble_eq_true rfl) ?_
      refine rj_if_eq (tgt := 34) dX12_wantNumber_27 (by decide) (fun h_27 => ?_) (fun h_27 => ?_)
      · have hb_27 := bz_t h_27
        rw [h18] at hb_27
        refine rj_ic0 dX12_wantNumber_34 ?_
        refine p12_268 (by first | exact Or.inl rfl | exact Or.inr rfl) dX12_wantNumber_35 ?_
        refine rj_ald0 dX12_wantNumber_38 rfl ?_
        refine g12_268 dX12_wantNumber_39 ?_
        rw [ui_same]
        refine rj_if_eq (tgt := 49) dX12_wantNumber_42 (by decide) (fun h_42 => ?_) (fun h_42 => ?_)
        · refine rj_ild3 dX12_wantNumber_49 rfl ?_
          refine rj_iret dX12_wantNumber_50 ?_
          have hn : ¬ isN (bsA A) p a b := fun z => hb_27 z.2
          rw [if_neg hn, decide_eq_false hn]
          exact ⟨⟨_, rfl, fun z => absurd z hn⟩, x_g false h, oX_g⟩
        · exact absurd rfl h_42
      · have hb_27 := bz_f h_27
        rw [h18] at hb_27
        refine rj_ic1 dX12_wantNumber_30 ?_
        refine rj_goto (tgt := 35) dX12_wantNumber_31 (by decide) ?_
        refine p12_268 (by first | exact Or.inl rfl | exact Or.inr rfl) dX12_wantNumber_35 ?_
        refine rj_ald0 dX12_wantNumber_38 rfl ?_
        refine g12_268 dX12_wantNumber_39 ?_
        rw [ui_same]
        refine rj_if_eq (tgt := 49) dX12_wantNumber_42 (by decide) (fun h_42 => ?_) (fun h_42 => ?_)
        · exact absurd h_42 (by decide)
        · refine rj_ald0 dX12_wantNumber_45 rfl ?_
          refine rj_V0 (ci := 12) cX12_272 rfl (by decide) (by first | assumption | rfl) dX12_wantNumber_46 (x_adv hb (x_g true h)) (fitM (by decide) (by decide)) (Nat.le_of_ble_eq_true rfl) ?_
          rintro v υ ⟨rfl, hX1, ho1⟩
          simp only [Option.toList, List.nil_append]
          refine rj_ild3 dX12_wantNumber_49 rfl ?_
          refine rj_iret dX12_wantNumber_50 ?_
          have hn : isN (bsA A) p a b := ⟨h_18, hb_27⟩
          rw [if_pos hn, decide_eq_true hn]
          exact ⟨⟨_, rfl, fun _ => h18⟩, hX1, oX_g.tr ho1⟩

