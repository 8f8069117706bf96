/-! pulls, moves, numbers -/
def F_left (A : SA) (t : Int32) : Int32 × SA := wT A t fun j => (nI (red (lyA A j)).length, A)
def F_rest (A : SA) (t i : Int32) : Int32 × SA := wT A t fun j => if i.toInt < 0 then fnd A 0 else if i.toInt < (red (lyA A j)).length then ((red (lyA A j)).getD i.toInt.toNat 0, A) else fnd A 3
def F_slide (A : SA) (t i : Int32) : Int32 × SA := wT A t fun j => if i.toInt < 0 then fnd A 0 else if csl (fT A j).2 i.toInt.toNat then (1, sT A j ((fT A j).1, msl (fT A j).2 i.toInt.toNat)) else fnd A 4
def F_third (A : SA) (t i : Int32) : Int32 × SA := wT A t fun j => if i.toInt < 0 then fnd A 0 else if cth (fT A j).2 i.toInt.toNat then (1, sT A j ((fT A j).1, mth (fT A j).2 i.toInt.toNat)) else fnd A 4
def F_sum (A : SA) (t : Int32) : Int32 × SA := wT A t fun j => (sgs (lyA A j), A)
def F_ends (A : SA) (t p : Int32) : Int32 × SA := wT A t fun j => if 0 ≤ p.toInt ∧ p.toInt < A.2.1.1.toInt then (eoF A.2.1.1 (stf (lyA A j)).1 p, A) else fnd A 0
def F_links (A : SA) (t a b : Int32) : Int32 × SA := wT A t fun j => if 0 ≤ a.toInt ∧ a.toInt < A.2.1.1.toInt then (if 0 ≤ b.toInt ∧ b.toInt < A.2.1.1.toInt then (if a = b then fnd A 0 else ((stf (lyA A j)).2 (pr a b).toNatClampNeg, A)) else fnd A 0) else fnd A 0
def F_rings (A : SA) (t : Int32) : Int32 × SA := wT A t fun j => (rgF A.2.1.1 (stf (lyA A j)).1, A)
def F_colours (A : SA) (t p : Int32) : Int32 × SA := wT A t fun j => if p = 3 ∨ p = 5 ∨ p = 7 then (colN A j p, A) else fnd A 0
def F_same (A : SA) (t o : Int32) : Int32 × SA := wT A t fun j => wT A o fun i => (if red (lyA A j) = red (lyA A i) then 1 else 0, A)
theorem of_row {k : Nat} (hk : k = 33 ∨ k = 35) : ∀ a, rowC k a → sysP a := fun a ha => by unfold rowC at ha; unfold sysP; omega
theorem of_fo {k : Nat} (hk : k = 37 ∨ k = 40) : ∀ a, foP k a → sysP a := fun a ha => by unfold foP rowC sdC at ha; unfold sysP; omega
theorem of_co : ∀ a, coP a → sysP a := fun a ha => by unfold coP rowC at ha; unfold sysP; omega
set_option maxRecDepth 100000 in
theorem c_X11_left {l : Launch} {X : CX} {σ : ST} {fb : Nat} {A : SA} (hC : CR σ fb A) (hw : wf A) {t : Int32} : MJ l X 5 yX11_left cX11_left 3 (some .int) [.ref (ad X 0), .int t] σ (OP σ (F_left A t)) := by
  refine MJ_of (own := RX11) [some (.ref (ad X 0)), some (.int t), none] (by decide) rfl (Nat.le_of_ble_eq_true rfl) rfl ?_
  have hk := cr_k hC
  have hF := hC.2.2.2.2.1
  refine rj_ald0 dX11_left_0 rfl ?_
  refine g11_76 dX11_left_1 ?_
  rw [cr_f hC]
  refine rj_ild1 dX11_left_4 rfl ?_
  refine rj_V1 (ci := 1) cX11_112 rfl (by decide) (by first | assumption | rfl) dX11_left_5 (c_X1_tieAt (cr_k hC) hC.2.2.2.2.1) (fitM (by decide) (by decide)) (Nat.le_of_ble_eq_true rfl) ?_
  rintro v υj ⟨hυj, ⟨j, hvj, hjj, rfl⟩ | ⟨hnj, rfl⟩⟩
  · rw [hυj]
    simp only [Option.toList, List.cons_append, List.nil_append]
    have hj8j : j < 8 := Nat.lt_of_lt_of_le hjj hC.2.2.2.2.1.2.2.2.1
    have hktj := (fair_next (cr_k hC)).2.2 j hj8j
    obtain ⟨hkrj, hkaj, hlnj⟩ := tie_next hktj
    have htij : Ti _ (tk fb j) (fT A j).1 (fT A j).2 := fr_tie hC.2.2.2.2.1 hjj
    have hxj : Rw _ (tk fb j + 1) (fT A j).2 := htij.2
    refine rj_ast2 dX11_left_8 (by decide) rfl ?_
    refine rj_ald2 dX11_left_9 rfl ?_
    refine rj_nn_ref (tgt := 20) dX11_left_10 (by decide) ?_
    refine rj_ald0 dX11_left_20 rfl ?_
    refine rj_ald2 dX11_left_21 rfl ?_
    refine rj_ald0 dX11_left_22 rfl ?_
    refine g11_38 dX11_left_23 ?_
    refine rj_V2 (ci := 11) cX11_168 rfl (by decide) (by first | assumption | rfl) dX11_left_26 (c_X11_layPulled hC hjj (k := 33) (Or.inl rfl)) (fitM (by decide) (by decide)) (Nat.le_of_ble_eq_true rfl) ?_
    rintro v τ ⟨rfl, hC1, hx1, ho1⟩
    simp only [Option.toList, List.nil_append]
    refine rj_ald0 dX11_left_29 rfl ?_
    refine g11_38 dX11_left_30 ?_
    refine g11_129 (by first | assumption | rfl) dX11_left_33 ?_
    refine rj_iret dX11_left_36 ?_
    have e : F_left A t = (nI (red (lyA A j)).length, A) := by unfold F_left; rw [wT_in hvj hjj]
    rw [e]
    exact ⟨by rw [hx1.size], cr_ex ⟨hC1, ho1.mono (of_row (Or.inl rfl))⟩⟩
  · rw [hυj]
    simp only [Option.toList, List.cons_append, List.nil_append]
    refine rj_nst2 dX11_left_8 (by decide) rfl ?_
    refine rj_ald2N dX11_left_9 rfl ?_
    refine rj_nn_null dX11_left_10 ?_
    refine rj_ald0 dX11_left_13 rfl ?_
    refine rj_ldc kX11_87 dX11_left_14 ?_
    refine rj_V1 (ci := 11) cX11_88 rfl (by decide) rfl dX11_left_16 (c_X11_found (i := 0) hC (by decide) (by decide)) (fitM (by decide) (by decide)) (Nat.le_of_ble_eq_true rfl) ?_
    rintro v υq ⟨rfl, hq⟩
    simp only [Option.toList, List.cons_append, List.nil_append]
    refine rj_iret dX11_left_19 ?_
    have e : F_left A t = fnd A 0 := by unfold F_left; rw [wT_out hnj]
    rw [e]
    exact ⟨rfl, hq⟩

set_option maxRecDepth 100000 in
theorem c_X11_rest {l : Launch} {X : CX} {σ : ST} {fb : Nat} {A : SA} (hC : CR σ fb A) (hw : wf A) {t i : Int32} : MJ l X 5 yX11_rest cX11_rest 4 (some .int) [.ref (ad X 0), .int t, .int i] σ (OP σ (F_rest A t i)) := by
  refine MJ_of (own := RX11) [some (.ref (ad X 0)), some (.int t), some (.int i), none] (by decide) rfl (Nat.le_of_ble_eq_true rfl) rfl ?_
  have hk := cr_k hC
  have hF := hC.2.2.2.2.1
  refine rj_ald0 dX11_rest_0 rfl ?_
  refine g11_76 dX11_rest_1 ?_
  rw [cr_f hC]
  refine rj_ild1 dX11_rest_4 rfl ?_
  refine rj_V1 (ci := 1) cX11_112 rfl (by decide) (by first | assumption | rfl) dX11_rest_5 (c_X1_tieAt (cr_k hC) hC.2.2.2.2.1) (fitM (by decide) (by decide)) (Nat.le_of_ble_eq_true rfl) ?_
  rintro v υj ⟨hυj, ⟨j, hvj, hjj, rfl⟩ | ⟨hnj, rfl⟩⟩
  · rw [hυj]
    simp only [Option.toList, List.cons_append, List.nil_append]
    have hj8j : j < 8 := Nat.lt_of_lt_of_le hjj hC.2.2.2.2.1.2.2.2.1
    have hktj := (fair_next (cr_k hC)).2.2 j hj8j
    obtain ⟨hkrj, hkaj, hlnj⟩ := tie_next hktj
    have htij : Ti _ (tk fb j) (fT A j).1 (fT A j).2 := fr_tie hC.2.2.2.2.1 hjj
    have hxj : Rw _ (tk fb j + 1) (fT A j).2 := htij.2
    refine rj_ast3 dX11_rest_8 (by decide) rfl ?_
    refine rj_ald3 dX11_rest_9 rfl ?_
    refine rj_nu_ref dX11_rest_10 ?_
    refine rj_ild2 dX11_rest_13 rfl ?_
    refine rj_if_ge (tgt := 24) dX11_rest_14 (by decide) (fun h_14 => ?_) (fun h_14 => ?_)
    · refine rj_ald0 dX11_rest_24 rfl ?_
      refine rj_ald3 dX11_rest_25 rfl ?_
      refine rj_ald0 dX11_rest_26 rfl ?_
      refine g11_38 dX11_rest_27 ?_
      refine rj_V2 (ci := 11) cX11_168 rfl (by decide) (by first | assumption | rfl) dX11_rest_30 (c_X11_layPulled hC hjj (k := 33) (Or.inl rfl)) (fitM (by decide) (by decide)) (Nat.le_of_ble_eq_true rfl) ?_
      rintro v τ ⟨rfl, hC1, hx1, ho1⟩
      simp only [Option.toList, List.nil_append]
      have hs1 := hx1.1
      refine rj_ild2 dX11_rest_33 rfl ?_
      refine rj_ald0 dX11_rest_34 rfl ?_
      refine g11_38 dX11_rest_35 ?_
      refine g11_129 (by first | assumption | rfl) dX11_rest_38 ?_
      refine rj_ic_lt (tgt := 51) dX11_rest_41 (by decide) (fun h_41 => ?_) (fun h_41 => ?_)
      · refine rj_ald0 dX11_rest_51 rfl ?_
        refine g11_38 dX11_rest_52 ?_
        refine rj_ild2 dX11_rest_55 rfl ?_
        refine rj_V1i (ci := 2) cX11_133 rfl (by decide) (by first | assumption | rfl) dX11_rest_56 (c_X2_atL rfl hx1) (fitM (by decide) (by decide)) (Nat.le_of_ble_eq_true rfl) ?_
        refine rj_iret dX11_rest_59 ?_
        have e : F_rest A t i = ((red (lyA A j)).getD i.toInt.toNat 0, A) := by unfold F_rest; rw [wT_in hvj hjj, if_neg (by omega), if_pos (by omega)]
        rw [e]
        exact ⟨by rw [rat_in (j := i.toInt.toNat) (by omega) (by omega)], cr_ex ⟨hC1, ho1.mono (of_row (Or.inl rfl))⟩⟩
      · refine rj_ald0 dX11_rest_44 rfl ?_
        refine rj_ldc kX11_132 dX11_rest_45 ?_
        refine rj_V1 (ci := 11) cX11_88 rfl (by decide) rfl dX11_rest_47 (c_X11_found (i := 3) hC1 (by decide) (by decide)) (fitM (by decide) (by decide)) (Nat.le_of_ble_eq_true rfl) ?_
        rintro v υq ⟨rfl, hq⟩
        simp only [Option.toList, List.cons_append, List.nil_append]
        refine rj_iret dX11_rest_50 ?_
        have e : F_rest A t i = fnd A 3 := by unfold F_rest; rw [wT_in hvj hjj, if_neg (by omega), if_neg (by omega)]
        rw [e]
        exact OP.tr ⟨rfl, hq⟩ (ho1.mono (of_row (Or.inl rfl)))
    · refine rj_ald0 dX11_rest_17 rfl ?_
      refine rj_ldc kX11_87 dX11_rest_18 ?_
      refine rj_V1 (ci := 11) cX11_88 rfl (by decide) rfl dX11_rest_20 (c_X11_found (i := 0) hC (by decide) (by decide)) (fitM (by decide) (by decide)) (Nat.le_of_ble_eq_true rfl) ?_
      rintro v υq ⟨rfl, hq⟩
      simp only [Option.toList, List.cons_append, List.nil_append]
      refine rj_iret dX11_rest_23 ?_
      have e : F_rest A t i = fnd A 0 := by unfold F_rest; rw [wT_in hvj hjj, if_pos (by omega)]
      rw [e]
      exact ⟨rfl, hq⟩
  · rw [hυj]
    simp only [Option.toList, List.cons_append, List.nil_append]
    refine rj_nst3 dX11_rest_8 (by decide) rfl ?_
    refine rj_ald3N dX11_rest_9 rfl ?_
    refine rj_nu_null (tgt := 17) dX11_rest_10 (by decide) ?_
    refine rj_ald0 dX11_rest_17 rfl ?_
    refine rj_ldc kX11_87 dX11_rest_18 ?_
    refine rj_V1 (ci := 11) cX11_88 rfl (by decide) rfl dX11_rest_20 (c_X11_found (i := 0) hC (by decide) (by decide)) (fitM (by decide) (by decide)) (Nat.le_of_ble_eq_true rfl) ?_
    rintro v υq ⟨rfl, hq⟩
    simp only [Option.toList, List.cons_append, List.nil_append]
    refine rj_iret dX11_rest_23 ?_
    have e : F_rest A t i = fnd A 0 := by unfold F_rest; rw [wT_out hnj]
    rw [e]
    exact ⟨rfl, hq⟩

set_option maxRecDepth 100000 in
theorem c_X11_slide {l : Launch} {X : CX} {σ : ST} {fb : Nat} {A : SA} (hC : CR σ fb A) (hw : wf A) {t i : Int32} : MJ l X 3 yX11_slide cX11_slide 4 (some .int) [.ref (ad X 0), .int t, .int i] σ (OP σ (F_slide A t i)) := by
  refine MJ_of (own := RX11) [some (.ref (ad X 0)), some (.int t), some (.int i), none] (by decide) rfl (Nat.le_of_ble_eq_true rfl) rfl ?_
  have hk := cr_k hC
  have hF := hC.2.2.2.2.1
  refine rj_ald0 dX11_slide_0 rfl ?_
  refine g11_76 dX11_slide_1 ?_
  rw [cr_f hC]
  refine rj_ild1 dX11_slide_4 rfl ?_
  refine rj_V1 (ci := 1) cX11_112 rfl (by decide) (by first | assumption | rfl) dX11_slide_5 (c_X1_tieAt (cr_k hC) hC.2.2.2.2.1) (fitM (by decide) (by decide)) (Nat.le_of_ble_eq_true rfl) ?_
  rintro v υj ⟨hυj, ⟨j, hvj, hjj, rfl⟩ | ⟨hnj, rfl⟩⟩
  · rw [hυj]
    simp only [Option.toList, List.cons_append, List.nil_append]
    have hj8j : j < 8 := Nat.lt_of_lt_of_le hjj hC.2.2.2.2.1.2.2.2.1
    have hktj := (fair_next (cr_k hC)).2.2 j hj8j
    obtain ⟨hkrj, hkaj, hlnj⟩ := tie_next hktj
    have htij : Ti _ (tk fb j) (fT A j).1 (fT A j).2 := fr_tie hC.2.2.2.2.1 hjj
    have hxj : Rw _ (tk fb j + 1) (fT A j).2 := htij.2
    refine rj_ast3 dX11_slide_8 (by decide) rfl ?_
    refine rj_ald3 dX11_slide_9 rfl ?_
    refine rj_nu_ref dX11_slide_10 ?_
    refine rj_ild2 dX11_slide_13 rfl ?_
    refine rj_if_ge (tgt := 24) dX11_slide_14 (by decide) (fun h_14 => ?_) (fun h_14 => ?_)
    · refine rj_ald3 dX11_slide_24 rfl ?_
      refine g11_120 (by first | assumption | rfl) dX11_slide_25 ?_
      refine rj_ild2 dX11_slide_28 rfl ?_
      refine rj_V1i (ci := 2) cX11_172 rfl (by decide) (by first | assumption | rfl) dX11_slide_29 (c_X2_canSlide hkrj hxj) (fitM (by decide) (by decide)) (Nat.le_of_ble_eq_true rfl) ?_
      refine rj_if_ne (tgt := 42) dX11_slide_32 (by decide) (fun h_32 => ?_) (fun h_32 => ?_)
      · have hb_32 := bz_f h_32
        refine rj_ald3 dX11_slide_42 rfl ?_
        refine g11_120 (by first | assumption | rfl) dX11_slide_43 ?_
        refine rj_ild2 dX11_slide_46 rfl ?_
        refine rj_V1 (ci := 2) cX11_175 rfl (by decide) (by first | assumption | rfl) dX11_slide_47 (c_X2_makeSlide hkrj hxj (j := i.toInt.toNat) (by omega) (by have := hb_32.2; unfold csl at this; omega)) (fitM (by decide) (by decide)) (Nat.le_of_ble_eq_true rfl) ?_
        rintro v τ ⟨rfl, hx1, ho1⟩
        simp only [Option.toList, List.nil_append]
        refine rj_ic1 dX11_slide_50 ?_
        refine rj_iret dX11_slide_51 ?_
        have e : F_slide A t i = (1, sT A j ((fT A j).1, msl (fT A j).2 i.toInt.toNat)) := by unfold F_slide; rw [wT_in hvj hjj, if_neg (by omega), if_pos hb_32.2]
        rw [e]
        exact ⟨rfl, cr_ex (cr_trow hC hjj hx1 ho1)⟩
      · have hb_32 := bz_t h_32
        refine rj_ald0 dX11_slide_35 rfl ?_
        refine rj_ldc kX11_96 dX11_slide_36 ?_
        refine rj_V1 (ci := 11) cX11_88 rfl (by decide) rfl dX11_slide_38 (c_X11_found (i := 4) hC (by decide) (by decide)) (fitM (by decide) (by decide)) (Nat.le_of_ble_eq_true rfl) ?_
        rintro v υq ⟨rfl, hq⟩
        simp only [Option.toList, List.cons_append, List.nil_append]
        refine rj_iret dX11_slide_41 ?_
        have e : F_slide A t i = fnd A 4 := by unfold F_slide; rw [wT_in hvj hjj, if_neg (by omega), if_neg (fun q => hb_32 ⟨by omega, q⟩)]
        rw [e]
        exact ⟨rfl, hq⟩
    · refine rj_ald0 dX11_slide_17 rfl ?_
      refine rj_ldc kX11_87 dX11_slide_18 ?_
      refine rj_V1 (ci := 11) cX11_88 rfl (by decide) rfl dX11_slide_20 (c_X11_found (i := 0) hC (by decide) (by decide)) (fitM (by decide) (by decide)) (Nat.le_of_ble_eq_true rfl) ?_
      rintro v υq ⟨rfl, hq⟩
      simp only [Option.toList, List.cons_append, List.nil_append]
      refine rj_iret dX11_slide_23 ?_
      have e : F_slide A t i = fnd A 0 := by unfold F_slide; rw [wT_in hvj hjj, if_pos (by omega)]
      rw [e]
      exact ⟨rfl, hq⟩
  · rw [hυj]
    simp only [Option.toList, List.cons_append, List.nil_append]
    refine rj_nst3 dX11_slide_8 (by decide) rfl ?_
    refine rj_ald3N dX11_slide_9 rfl ?_
    refine rj_nu_null (tgt := 17) dX11_slide_10 (by decide) ?_
    refine rj_ald0 dX11_slide_17 rfl ?_
    refine rj_ldc kX11_87 dX11_slide_18 ?_
    refine rj_V1 (ci := 11) cX11_88 rfl (by decide) rfl dX11_slide_20 (c_X11_found (i := 0) hC (by decide) (by decide)) (fitM (by decide) (by decide)) (Nat.le_of_ble_eq_true rfl) ?_
    rintro v υq ⟨rfl, hq⟩
    simp only [Option.toList, List.cons_append, List.nil_append]
    refine rj_iret dX11_slide_23 ?_
    have e : F_slide A t i = fnd A 0 := by unfold F_slide; rw [wT_out hnj]
    rw [e]
    exact ⟨rfl, hq⟩

set_option maxRecDepth 100000 in
theorem c_X11_third {l : Launch} {X : CX} {σ : ST} {fb : Nat} {A : SA} (hC : CR σ fb A) (hw : wf A) {t i : Int32} : MJ l X 3 yX11_third cX11_third 4 (some .int) [.ref (ad X 0), .int t, .int i] σ (OP σ (F_third A t i)) := by
  refine MJ_of (own := RX11) [some (.ref (ad X 0)), some (.int t), some (.int i), none] (by decide) rfl (Nat.le_of_ble_eq_true rfl) rfl ?_
  have hk := cr_k hC
  have hF := hC.2.2.2.2.1
  refine rj_ald0 dX11_third_0 rfl ?_
  refine g11_76 dX11_third_1 ?_
  rw [cr_f hC]
  refine rj_ild1 dX11_third_4 rfl ?_
  refine rj_V1 (ci := 1) cX11_112 rfl (by decide) (by first | assumption | rfl) dX11_third_5 (c_X1_tieAt (cr_k hC) hC.2.2.2.2.1) (fitM (by decide) (by decide)) (Nat.le_of_ble_eq_true rfl) ?_
  rintro v υj ⟨hυj, ⟨j, hvj, hjj, rfl⟩ | ⟨hnj, rfl⟩⟩
  · rw [hυj]
    simp only [Option.toList, List.cons_append, List.nil_append]
    have hj8j : j < 8 := Nat.lt_of_lt_of_le hjj hC.2.2.2.2.1.2.2.2.1
    have hktj := (fair_next (cr_k hC)).2.2 j hj8j
    obtain ⟨hkrj, hkaj, hlnj⟩ := tie_next hktj
    have htij : Ti _ (tk fb j) (fT A j).1 (fT A j).2 := fr_tie hC.2.2.2.2.1 hjj
    have hxj : Rw _ (tk fb j + 1) (fT A j).2 := htij.2
    refine rj_ast3 dX11_third_8 (by decide) rfl ?_
    refine rj_ald3 dX11_third_9 rfl ?_
    refine rj_nu_ref dX11_third_10 ?_
    refine rj_ild2 dX11_third_13 rfl ?_
    refine rj_if_ge (tgt := 24) dX11_third_14 (by decide) (fun h_14 => ?_) (fun h_14 => ?_)
    · refine rj_ald3 dX11_third_24 rfl ?_
      refine g11_120 (by first | assumption | rfl) dX11_third_25 ?_
      refine rj_ild2 dX11_third_28 rfl ?_
      refine rj_V1i (ci := 2) cX11_178 rfl (by decide) (by first | assumption | rfl) dX11_third_29 (c_X2_canThird hkrj hxj) (fitM (by decide) (by decide)) (Nat.le_of_ble_eq_true rfl) ?_
      refine rj_if_ne (tgt := 42) dX11_third_32 (by decide) (fun h_32 => ?_) (fun h_32 => ?_)
      · have hb_32 := bz_f h_32
        refine rj_ald3 dX11_third_42 rfl ?_
        refine g11_120 (by first | assumption | rfl) dX11_third_43 ?_
        refine rj_ild2 dX11_third_46 rfl ?_
        refine rj_V1 (ci := 2) cX11_181 rfl (by decide) (by first | assumption | rfl) dX11_third_47 (c_X2_makeThird hkrj hxj (j := i.toInt.toNat) (by omega) (by have := hb_32.2; unfold cth at this; omega)) (fitM (by decide) (by decide)) (Nat.le_of_ble_eq_true rfl) ?_
        rintro v τ ⟨rfl, hx1, ho1⟩
        simp only [Option.toList, List.nil_append]
        refine rj_ic1 dX11_third_50 ?_
        refine rj_iret dX11_third_51 ?_
        have e : F_third A t i = (1, sT A j ((fT A j).1, mth (fT A j).2 i.toInt.toNat)) := by unfold F_third; rw [wT_in hvj hjj, if_neg (by omega), if_pos hb_32.2]
        rw [e]
        exact ⟨rfl, cr_ex (cr_trow hC hjj hx1 ho1)⟩
      · have hb_32 := bz_t h_32
        refine rj_ald0 dX11_third_35 rfl ?_
        refine rj_ldc kX11_96 dX11_third_36 ?_
        refine rj_V1 (ci := 11) cX11_88 rfl (by decide) rfl dX11_third_38 (c_X11_found (i := 4) hC (by decide) (by decide)) (fitM (by decide) (by decide)) (Nat.le_of_ble_eq_true rfl) ?_
        rintro v υq ⟨rfl, hq⟩
        simp only [Option.toList, List.cons_append, List.nil_append]
        refine rj_iret dX11_third_41 ?_
        have e : F_third A t i = fnd A 4 := by unfold F_third; rw [wT_in hvj hjj, if_neg (by omega), if_neg (fun q => hb_32 ⟨by omega, q⟩)]
        rw [e]
        exact ⟨rfl, hq⟩
    · refine rj_ald0 dX11_third_17 rfl ?_
      refine rj_ldc kX11_87 dX11_third_18 ?_
      refine rj_V1 (ci := 11) cX11_88 rfl (by decide) rfl dX11_third_20 (c_X11_found (i := 0) hC (by decide) (by decide)) (fitM (by decide) (by decide)) (Nat.le_of_ble_eq_true rfl) ?_
      rintro v υq ⟨rfl, hq⟩
      simp only [Option.toList, List.cons_append, List.nil_append]
      refine rj_iret dX11_third_23 ?_
      have e : F_third A t i = fnd A 0 := by unfold F_third; rw [wT_in hvj hjj, if_pos (by omega)]
      rw [e]
      exact ⟨rfl, hq⟩
  · rw [hυj]
    simp only [Option.toList, List.cons_append, List.nil_append]
    refine rj_nst3 dX11_third_8 (by decide) rfl ?_
    refine rj_ald3N dX11_third_9 rfl ?_
    refine rj_nu_null (tgt := 17) dX11_third_10 (by decide) ?_
    refine rj_ald0 dX11_third_17 rfl ?_
    refine rj_ldc kX11_87 dX11_third_18 ?_
    refine rj_V1 (ci := 11) cX11_88 rfl (by decide) rfl dX11_third_20 (c_X11_found (i := 0) hC (by decide) (by decide)) (fitM (by decide) (by decide)) (Nat.le_of_ble_eq_true rfl) ?_
    rintro v υq ⟨rfl, hq⟩
    simp only [Option.toList, List.cons_append, List.nil_append]
    refine rj_iret dX11_third_23 ?_
    have e : F_third A t i = fnd A 0 := by unfold F_third; rw [wT_out hnj]
    rw [e]
    exact ⟨rfl, hq⟩

set_option maxRecDepth 100000 in
theorem c_X11_sum {l : Launch} {X : CX} {σ : ST} {fb : Nat} {A : SA} (hC : CR σ fb A) (hw : wf A) {t : Int32} : MJ l X 4 yX11_sum cX11_sum 3 (some .int) [.ref (ad X 0), .int t] σ (OP σ (F_sum A t)) := by
  refine MJ_of (own := RX11) [some (.ref (ad X 0)), some (.int t), none] (by decide) rfl (Nat.le_of_ble_eq_true rfl) rfl ?_
  have hk := cr_k hC
  have hF := hC.2.2.2.2.1
  refine rj_ald0 dX11_sum_0 rfl ?_
  refine g11_76 dX11_sum_1 ?_
  rw [cr_f hC]
  refine rj_ild1 dX11_sum_4 rfl ?_
  refine rj_V1 (ci := 1) cX11_112 rfl (by decide) (by first | assumption | rfl) dX11_sum_5 (c_X1_tieAt (cr_k hC) hC.2.2.2.2.1) (fitM (by decide) (by decide)) (Nat.le_of_ble_eq_true rfl) ?_
  rintro v υj ⟨hυj, ⟨j, hvj, hjj, rfl⟩ | ⟨hnj, rfl⟩⟩
  · rw [hυj]
    simp only [Option.toList, List.cons_append, List.nil_append]
    have hj8j : j < 8 := Nat.lt_of_lt_of_le hjj hC.2.2.2.2.1.2.2.2.1
    have hktj := (fair_next (cr_k hC)).2.2 j hj8j
    obtain ⟨hkrj, hkaj, hlnj⟩ := tie_next hktj
    have htij : Ti _ (tk fb j) (fT A j).1 (fT A j).2 := fr_tie hC.2.2.2.2.1 hjj
    have hxj : Rw _ (tk fb j + 1) (fT A j).2 := htij.2
    refine rj_ast2 dX11_sum_8 (by decide) rfl ?_
    refine rj_ald2 dX11_sum_9 rfl ?_
    refine rj_nn_ref (tgt := 20) dX11_sum_10 (by decide) ?_
    obtain ⟨ys, hy⟩ := (cr_frow hC (k := 33) (Or.inl rfl)).1
    refine rj_ald0 dX11_sum_20 rfl ?_
    refine g11_38 dX11_sum_21 ?_
    refine rj_ald2 dX11_sum_24 rfl ?_
    refine rj_ald0 dX11_sum_25 rfl ?_
    refine g11_76 dX11_sum_26 ?_
    rw [cr_f hC]
    refine g11_97 (by first | assumption | rfl) dX11_sum_29 ?_
    rw [hF.2.1]
    refine rj_V2 (ci := 2) cX11_198 rfl (by decide) (by first | assumption | rfl) dX11_sum_32 (c_X2_layOut rfl hktj (tk_out hC (by omega)) rfl hy htij) (fitM (by decide) (by decide)) (Nat.le_of_ble_eq_true rfl) ?_
    rintro v τ ⟨rfl, hx1, ho1⟩
    simp only [Option.toList, List.nil_append]
    refine rj_ald0 dX11_sum_35 rfl ?_
    refine g11_38 dX11_sum_36 ?_
    refine rj_V0i (ci := 2) cX11_202 rfl (by decide) (by first | assumption | rfl) dX11_sum_39 (c_X2_signSum rfl hx1) (fitM (by decide) (by decide)) (Nat.le_of_ble_eq_true rfl) ?_
    refine rj_iret dX11_sum_42 ?_
    have e : F_sum A t = (sgs (lyA A j), A) := by unfold F_sum; rw [wT_in hvj hjj]
    rw [e]
    exact ⟨rfl, cr_ex (cr_row hC (Or.inl rfl) hx1 ho1)⟩
  · rw [hυj]
    simp only [Option.toList, List.cons_append, List.nil_append]
    refine rj_nst2 dX11_sum_8 (by decide) rfl ?_
    refine rj_ald2N dX11_sum_9 rfl ?_
    refine rj_nn_null dX11_sum_10 ?_
    refine rj_ald0 dX11_sum_13 rfl ?_
    refine rj_ldc kX11_87 dX11_sum_14 ?_
    refine rj_V1 (ci := 11) cX11_88 rfl (by decide) rfl dX11_sum_16 (c_X11_found (i := 0) hC (by decide) (by decide)) (fitM (by decide) (by decide)) (Nat.le_of_ble_eq_true rfl) ?_
    rintro v υq ⟨rfl, hq⟩
    simp only [Option.toList, List.cons_append, List.nil_append]
    refine rj_iret dX11_sum_19 ?_
    have e : F_sum A t = fnd A 0 := by unfold F_sum; rw [wT_out hnj]
    rw [e]
    exact ⟨rfl, hq⟩

set_option maxRecDepth 100000 in
theorem c_X11_ends {l : Launch} {X : CX} {σ : ST} {fb : Nat} {A : SA} (hC : CR σ fb A) (hw : wf A) {t p : Int32} : MJ l X 5 yX11_ends cX11_ends 4 (some .int) [.ref (ad X 0), .int t, .int p] σ (OP σ (F_ends A t p)) := by
  refine MJ_of (own := RX11) [some (.ref (ad X 0)), some (.int t), some (.int p), none] (by decide) rfl (Nat.le_of_ble_eq_true rfl) rfl ?_
  have hk := cr_k hC
  have hF := hC.2.2.2.2.1
  refine rj_ald0 dX11_ends_0 rfl ?_
  refine g11_76 dX11_ends_1 ?_
  rw [cr_f hC]
  refine rj_ild1 dX11_ends_4 rfl ?_
  refine rj_V1 (ci := 1) cX11_112 rfl (by decide) (by first | assumption | rfl) dX11_ends_5 (c_X1_tieAt (cr_k hC) hC.2.2.2.2.1) (fitM (by decide) (by decide)) (Nat.le_of_ble_eq_true rfl) ?_
  rintro v υj ⟨hυj, ⟨j, hvj, hjj, rfl⟩ | ⟨hnj, rfl⟩⟩
  · rw [hυj]
    simp only [Option.toList, List.cons_append, List.nil_append]
    have hj8j : j < 8 := Nat.lt_of_lt_of_le hjj hC.2.2.2.2.1.2.2.2.1
    have hktj := (fair_next (cr_k hC)).2.2 j hj8j
    obtain ⟨hkrj, hkaj, hlnj⟩ := tie_next hktj
    have htij : Ti _ (tk fb j) (fT A j).1 (fT A j).2 := fr_tie hC.2.2.2.2.1 hjj
    have hxj : Rw _ (tk fb j + 1) (fT A j).2 := htij.2
    refine rj_ast3 dX11_ends_8 (by decide) rfl ?_
    refine rj_ald3 dX11_ends_9 rfl ?_
    refine rj_nu_ref dX11_ends_10 ?_
    refine rj_ald0 dX11_ends_13 rfl ?_
    refine g11_76 dX11_ends_14 ?_
    rw [cr_f hC]
    refine rj_ild2 dX11_ends_17 rfl ?_
    refine rj_V1i (ci := 1) cX11_188 rfl (by decide) (by first | assumption | rfl) dX11_ends_18 (c_X1_isPlace hk) (fitM (by decide) (by decide)) (Nat.le_of_ble_eq_true rfl) ?_
    rw [hF.2.1]
    refine rj_if_ne (tgt := 31) dX11_ends_21 (by decide) (fun h_21 => ?_) (fun h_21 => ?_)
    · have hb_21 := bz_f h_21
      refine rj_ald0 dX11_ends_31 rfl ?_
      refine rj_ald3 dX11_ends_32 rfl ?_
      refine rj_ald0 dX11_ends_33 rfl ?_
      refine g11_48 dX11_ends_34 ?_
      refine rj_V2 (ci := 11) cX11_191 rfl (by decide) (by first | assumption | rfl) dX11_ends_37 (c_X11_follow hC hjj hw (k := 37) (Or.inl rfl)) (fitM (by decide) (by decide)) (Nat.le_of_ble_eq_true rfl) ?_
      rintro v τ ⟨rfl, hC1, hS1, ho1⟩
      simp only [Option.toList, List.nil_append]
      refine rj_ald0 dX11_ends_40 rfl ?_
      refine g11_48 dX11_ends_41 ?_
      refine rj_ild2 dX11_ends_44 rfl ?_
      refine rj_V1i (ci := 5) cX11_195 rfl (by decide) (by first | assumption | rfl) dX11_ends_45 (c_X5_endOf rfl hS1 hw.1.2.1) (fitM (by decide) (by decide)) (Nat.le_of_ble_eq_true rfl) ?_
      refine rj_iret dX11_ends_48 ?_
      have e : F_ends A t p = (eoF A.2.1.1 (stf (lyA A j)).1 p, A) := by unfold F_ends; rw [wT_in hvj hjj, if_pos hb_21]
      rw [e]
      exact ⟨rfl, cr_ex ⟨hC1, ho1.mono (of_fo (Or.inl rfl))⟩⟩
    · have hb_21 := bz_t h_21
      refine rj_ald0 dX11_ends_24 rfl ?_
      refine rj_ldc kX11_87 dX11_ends_25 ?_
      refine rj_V1 (ci := 11) cX11_88 rfl (by decide) rfl dX11_ends_27 (c_X11_found (i := 0) hC (by decide) (by decide)) (fitM (by decide) (by decide)) (Nat.le_of_ble_eq_true rfl) ?_
      rintro v υq ⟨rfl, hq⟩
      simp only [Option.toList, List.cons_append, List.nil_append]
      refine rj_iret dX11_ends_30 ?_
      have e : F_ends A t p = fnd A 0 := by unfold F_ends; rw [wT_in hvj hjj, if_neg hb_21]
      rw [e]
      exact ⟨rfl, hq⟩
  · rw [hυj]
    simp only [Option.toList, List.cons_append, List.nil_append]
    refine rj_nst3 dX11_ends_8 (by decide) rfl ?_
    refine rj_ald3N dX11_ends_9 rfl ?_
    refine rj_nu_null (tgt := 24) dX11_ends_10 (by decide) ?_
    refine rj_ald0 dX11_ends_24 rfl ?_
    refine rj_ldc kX11_87 dX11_ends_25 ?_
    refine rj_V1 (ci := 11) cX11_88 rfl (by decide) rfl dX11_ends_27 (c_X11_found (i := 0) hC (by decide) (by decide)) (fitM (by decide) (by decide)) (Nat.le_of_ble_eq_true rfl) ?_
    rintro v υq ⟨rfl, hq⟩
    simp only [Option.toList, List.cons_append, List.nil_append]
    refine rj_iret dX11_ends_30 ?_
    have e : F_ends A t p = fnd A 0 := by unfold F_ends; rw [wT_out hnj]
    rw [e]
    exact ⟨rfl, hq⟩

set_option maxRecDepth 100000 in
theorem c_X11_links {l : Launch} {X : CX} {σ : ST} {fb : Nat} {A : SA} (hC : CR σ fb A) (hw : wf A) {t a b : Int32} : MJ l X 5 yX11_links cX11_links 5 (some .int) [.ref (ad X 0), .int t, .int a, .int b] σ (OP σ (F_links A t a b)) := by
  refine MJ_of (own := RX11) [some (.ref (ad X 0)), some (.int t), some (.int a), some (.int b), none] (by decide) rfl (Nat.le_of_ble_eq_true rfl) rfl ?_
  have hk := cr_k hC
  have hF := hC.2.2.2.2.1
  refine rj_ald0 dX11_links_0 rfl ?_
  refine g11_76 dX11_links_1 ?_
  rw [cr_f hC]
  refine rj_ild1 dX11_links_4 rfl ?_
  refine rj_V1 (ci := 1) cX11_112 rfl (by decide) (by first | assumption | rfl) dX11_links_5 (c_X1_tieAt (cr_k hC) hC.2.2.2.2.1) (fitM (by decide) (by decide)) (Nat.le_of_ble_eq_true rfl) ?_
  rintro v υj ⟨hυj, ⟨j, hvj, hjj, rfl⟩ | ⟨hnj, rfl⟩⟩
  · rw [hυj]
    simp only [Option.toList, List.cons_append, List.nil_append]
    have hj8j : j < 8 := Nat.lt_of_lt_of_le hjj hC.2.2.2.2.1.2.2.2.1
    have hktj := (fair_next (cr_k hC)).2.2 j hj8j
    obtain ⟨hkrj, hkaj, hlnj⟩ := tie_next hktj
    have htij : Ti _ (tk fb j) (fT A j).1 (fT A j).2 := fr_tie hC.2.2.2.2.1 hjj
    have hxj : Rw _ (tk fb j + 1) (fT A j).2 := htij.2
    refine rj_ast4w dX11_links_8 (by decide) rfl ?_
    refine rj_ald dX11_links_10 rfl ?_
    refine rj_nu_ref dX11_links_12 ?_
    refine rj_ald0 dX11_links_15 rfl ?_
    refine g11_76 dX11_links_16 ?_
    rw [cr_f hC]
    refine rj_ild2 dX11_links_19 rfl ?_
    refine rj_V1i (ci := 1) cX11_188 rfl (by decide) (by first | assumption | rfl) dX11_links_20 (c_X1_isPlace hk) (fitM (by decide) (by decide)) (Nat.le_of_ble_eq_true rfl) ?_
    rw [hF.2.1]
    refine rj_if_eq (tgt := 42) dX11_links_23 (by decide) (fun h_23 => ?_) (fun h_23 => ?_)
    · have hb_23 := bz_t h_23
      refine rj_ald0 dX11_links_42 rfl ?_
      refine rj_ldc kX11_87 dX11_links_43 ?_
      refine rj_V1 (ci := 11) cX11_88 rfl (by decide) rfl dX11_links_45 (c_X11_found (i := 0) hC (by decide) (by decide)) (fitM (by decide) (by decide)) (Nat.le_of_ble_eq_true rfl) ?_
      rintro v υq ⟨rfl, hq⟩
      simp only [Option.toList, List.cons_append, List.nil_append]
      refine rj_iret dX11_links_48 ?_
      have e : F_links A t a b = fnd A 0 := by unfold F_links; rw [wT_in hvj hjj, if_neg hb_23]
      rw [e]
      exact ⟨rfl, hq⟩
    · have hb_23 := bz_f h_23
      refine rj_ald0 dX11_links_26 rfl ?_
      refine g11_76 dX11_links_27 ?_
      rw [cr_f hC]
      refine rj_ild3 dX11_links_30 rfl ?_
      refine rj_V1i (ci := 1) cX11_188 rfl (by decide) (by first | assumption | rfl) dX11_links_31 (c_X1_isPlace hk) (fitM (by decide) (by decide)) (Nat.le_of_ble_eq_true rfl) ?_
      rw [hF.2.1]
      refine rj_if_eq (tgt := 42) dX11_links_34 (by decide) (fun h_34 => ?_) (fun h_34 => ?_)
      · have hb_34 := bz_t h_34
        refine rj_ald0 dX11_links_42 rfl ?_
        refine rj_ldc kX11_87 dX11_links_43 ?_
        refine rj_V1 (ci := 11) cX11_88 rfl (by decide) rfl dX11_links_45 (c_X11_found (i := 0) hC (by decide) (by decide)) (fitM (by decide) (by decide)) (Nat.le_of_ble_eq_true rfl) ?_
        rintro v υq ⟨rfl, hq⟩
        simp only [Option.toList, List.cons_append, List.nil_append]
        refine rj_iret dX11_links_48 ?_
        have e : F_links A t a b = fnd A 0 := by unfold F_links; rw [wT_in hvj hjj, if_pos hb_23, if_neg hb_34]
        rw [e]
        exact ⟨rfl, hq⟩
      · have hb_34 := bz_f h_34
        refine rj_ild2 dX11_links_37 rfl ?_
        refine rj_ild3 dX11_links_38 rfl ?_
        refine rj_ic_ne (tgt := 49) dX11_links_39 (by decide) (fun h_39 => ?_) (fun h_39 => ?_)
        · refine rj_ald0 dX11_links_49 rfl ?_
          refine rj_ald dX11_links_50 rfl ?_
          refine rj_ald0 dX11_links_52 rfl ?_
          refine g11_48 dX11_links_53 ?_
          refine rj_V2 (ci := 11) cX11_191 rfl (by decide) (by first | assumption | rfl) dX11_links_56 (c_X11_follow hC hjj hw (k := 37) (Or.inl rfl)) (fitM (by decide) (by decide)) (Nat.le_of_ble_eq_true rfl) ?_
          rintro v τ ⟨rfl, hC1, hS1, ho1⟩
          simp only [Option.toList, List.nil_append]
          refine rj_ald0 dX11_links_59 rfl ?_
          refine g11_48 dX11_links_60 ?_
          refine rj_ild2 dX11_links_63 rfl ?_
          refine rj_ild3 dX11_links_64 rfl ?_
          refine rj_V2i (ci := 5) cX11_205 rfl (by decide) (by first | assumption | rfl) dX11_links_65 (c_X5_linkOf rfl hS1) (fitM (by decide) (by decide)) (Nat.le_of_ble_eq_true rfl) ?_
          refine rj_iret dX11_links_68 ?_
          have e : F_links A t a b = ((stf (lyA A j)).2 (pr a b).toNatClampNeg, A) := by unfold F_links; rw [wT_in hvj hjj, if_pos hb_23, if_pos hb_34, if_neg h_39]
          rw [e]
          exact ⟨rfl, cr_ex ⟨hC1, ho1.mono (of_fo (Or.inl rfl))⟩⟩
        · refine rj_ald0 dX11_links_42 rfl ?_
          refine rj_ldc kX11_87 dX11_links_43 ?_
          refine rj_V1 (ci := 11) cX11_88 rfl (by decide) rfl dX11_links_45 (c_X11_found (i := 0) hC (by decide) (by decide)) (fitM (by decide) (by decide)) (Nat.le_of_ble_eq_true rfl) ?_
          rintro v υq ⟨rfl, hq⟩
          simp only [Option.toList, List.cons_append, List.nil_append]
          refine rj_iret dX11_links_48 ?_
          have e : F_links A t a b = fnd A 0 := by unfold F_links; rw [wT_in hvj hjj, if_pos hb_23, if_pos hb_34, if_pos h_39]
          rw [e]
          exact ⟨rfl, hq⟩
  · rw [hυj]
    simp only [Option.toList, List.cons_append, List.nil_append]
    refine rj_nst4w dX11_links_8 (by decide) rfl ?_
    refine rj_aldN dX11_links_10 rfl ?_
    refine rj_nu_null (tgt := 42) dX11_links_12 (by decide) ?_
    refine rj_ald0 dX11_links_42 rfl ?_
    refine rj_ldc kX11_87 dX11_links_43 ?_
    refine rj_V1 (ci := 11) cX11_88 rfl (by decide) rfl dX11_links_45 (c_X11_found (i := 0) hC (by decide) (by decide)) (fitM (by decide) (by decide)) (Nat.le_of_ble_eq_true rfl) ?_
    rintro v υq ⟨rfl, hq⟩
    simp only [Option.toList, List.cons_append, List.nil_append]
    refine rj_iret dX11_links_48 ?_
    have e : F_links A t a b = fnd A 0 := by unfold F_links; rw [wT_out hnj]
    rw [e]
    exact ⟨rfl, hq⟩

set_option maxRecDepth 100000 in
theorem c_X11_rings {l : Launch} {X : CX} {σ : ST} {fb : Nat} {A : SA} (hC : CR σ fb A) (hw : wf A) {t : Int32} : MJ l X 5 yX11_rings cX11_rings 3 (some .int) [.ref (ad X 0), .int t] σ (OP σ (F_rings A t)) := by
  refine MJ_of (own := RX11) [some (.ref (ad X 0)), some (.int t), none] (by decide) rfl (Nat.le_of_ble_eq_true rfl) rfl ?_
  have hk := cr_k hC
  have hF := hC.2.2.2.2.1
  refine rj_ald0 dX11_rings_0 rfl ?_
  refine g11_76 dX11_rings_1 ?_
  rw [cr_f hC]
  refine rj_ild1 dX11_rings_4 rfl ?_
  refine rj_V1 (ci := 1) cX11_112 rfl (by decide) (by first | assumption | rfl) dX11_rings_5 (c_X1_tieAt (cr_k hC) hC.2.2.2.2.1) (fitM (by decide) (by decide)) (Nat.le_of_ble_eq_true rfl) ?_
  rintro v υj ⟨hυj, ⟨j, hvj, hjj, rfl⟩ | ⟨hnj, rfl⟩⟩
  · rw [hυj]
    simp only [Option.toList, List.cons_append, List.nil_append]
    have hj8j : j < 8 := Nat.lt_of_lt_of_le hjj hC.2.2.2.2.1.2.2.2.1
    have hktj := (fair_next (cr_k hC)).2.2 j hj8j
    obtain ⟨hkrj, hkaj, hlnj⟩ := tie_next hktj
    have htij : Ti _ (tk fb j) (fT A j).1 (fT A j).2 := fr_tie hC.2.2.2.2.1 hjj
    have hxj : Rw _ (tk fb j + 1) (fT A j).2 := htij.2
    refine rj_ast2 dX11_rings_8 (by decide) rfl ?_
    refine rj_ald2 dX11_rings_9 rfl ?_
    refine rj_nn_ref (tgt := 20) dX11_rings_10 (by decide) ?_
    refine rj_ald0 dX11_rings_20 rfl ?_
    refine rj_ald2 dX11_rings_21 rfl ?_
    refine rj_ald0 dX11_rings_22 rfl ?_
    refine g11_48 dX11_rings_23 ?_
    refine rj_V2 (ci := 11) cX11_191 rfl (by decide) (by first | assumption | rfl) dX11_rings_26 (c_X11_follow hC hjj hw (k := 37) (Or.inl rfl)) (fitM (by decide) (by decide)) (Nat.le_of_ble_eq_true rfl) ?_
    rintro v τ ⟨rfl, hC1, hS1, ho1⟩
    simp only [Option.toList, List.nil_append]
    refine rj_ald0 dX11_rings_29 rfl ?_
    refine g11_48 dX11_rings_30 ?_
    refine rj_V0i (ci := 5) cX11_208 rfl (by decide) (by first | assumption | rfl) dX11_rings_33 (c_X5_ringCount rfl hS1 hw.1.2.1) (fitM (by decide) (by decide)) (Nat.le_of_ble_eq_true rfl) ?_
    refine rj_iret dX11_rings_36 ?_
    have e : F_rings A t = (rgF A.2.1.1 (stf (lyA A j)).1, A) := by unfold F_rings; rw [wT_in hvj hjj]
    rw [e]
    exact ⟨rfl, cr_ex ⟨hC1, ho1.mono (of_fo (Or.inl rfl))⟩⟩
  · rw [hυj]
    simp only [Option.toList, List.cons_append, List.nil_append]
    refine rj_nst2 dX11_rings_8 (by decide) rfl ?_
    refine rj_ald2N dX11_rings_9 rfl ?_
    refine rj_nn_null dX11_rings_10 ?_
    refine rj_ald0 dX11_rings_13 rfl ?_
    refine rj_ldc kX11_87 dX11_rings_14 ?_
    refine rj_V1 (ci := 11) cX11_88 rfl (by decide) rfl dX11_rings_16 (c_X11_found (i := 0) hC (by decide) (by decide)) (fitM (by decide) (by decide)) (Nat.le_of_ble_eq_true rfl) ?_
    rintro v υq ⟨rfl, hq⟩
    simp only [Option.toList, List.cons_append, List.nil_append]
    refine rj_iret dX11_rings_19 ?_
    have e : F_rings A t = fnd A 0 := by unfold F_rings; rw [wT_out hnj]
    rw [e]
    exact ⟨rfl, hq⟩

theorem cn_in {p : Int32} (h : p = 3 ∨ p = 5 ∨ p = 7) : 2 ≤ p.toInt ∧ p.toInt ≤ 7 := by rcases h with rfl | rfl | rfl <;> decide
set_option maxRecDepth 100000 in
theorem c_X11_colours {l : Launch} {X : CX} {σ : ST} {fb : Nat} {A : SA} (hC : CR σ fb A) (hw : wf A) {t p : Int32} : MJ l X 6 yX11_colours cX11_colours 4 (some .int) [.ref (ad X 0), .int t, .int p] σ (OP σ (F_colours A t p)) := by
  refine MJ_of (own := RX11) [some (.ref (ad X 0)), some (.int t), some (.int p), none] (by decide) rfl (Nat.le_of_ble_eq_true rfl) rfl ?_
  have hk := cr_k hC
  have hF := hC.2.2.2.2.1
  refine rj_ald0 dX11_colours_0 rfl ?_
  refine g11_76 dX11_colours_1 ?_
  rw [cr_f hC]
  refine rj_ild1 dX11_colours_4 rfl ?_
  refine rj_V1 (ci := 1) cX11_112 rfl (by decide) (by first | assumption | rfl) dX11_colours_5 (c_X1_tieAt (cr_k hC) hC.2.2.2.2.1) (fitM (by decide) (by decide)) (Nat.le_of_ble_eq_true rfl) ?_
  rintro v υj ⟨hυj, ⟨j, hvj, hjj, rfl⟩ | ⟨hnj, rfl⟩⟩
  · rw [hυj]
    simp only [Option.toList, List.cons_append, List.nil_append]
    have hj8j : j < 8 := Nat.lt_of_lt_of_le hjj hC.2.2.2.2.1.2.2.2.1
    have hktj := (fair_next (cr_k hC)).2.2 j hj8j
    obtain ⟨hkrj, hkaj, hlnj⟩ := tie_next hktj
    have htij : Ti _ (tk fb j) (fT A j).1 (fT A j).2 := fr_tie hC.2.2.2.2.1 hjj
    have hxj : Rw _ (tk fb j + 1) (fT A j).2 := htij.2
    refine rj_ast3 dX11_colours_8 (by decide) rfl ?_
    refine rj_ald3 dX11_colours_9 rfl ?_
    refine rj_nu_ref dX11_colours_10 ?_
    refine rj_ild2 dX11_colours_13 rfl ?_
    refine rj_S1i cX11_211 dX11_colours_14 c_X11_isColourNumber (fitM (by decide) (by decide)) (Nat.le_of_ble_eq_true rfl) ?_
    refine rj_if_ne (tgt := 27) dX11_colours_17 (by decide) (fun h_17 => ?_) (fun h_17 => ?_)
    · have hb_17 := bz_f h_17
      refine rj_ald0 dX11_colours_27 rfl ?_
      refine rj_ald3 dX11_colours_28 rfl ?_
      refine rj_ild2 dX11_colours_29 rfl ?_
      refine rj_V2 (ci := 11) cX11_214 rfl (by decide) (by first | assumption | rfl) dX11_colours_30 (c_X11_coloursOf hC hjj hw (cn_in hb_17)) (fitM (by decide) (by decide)) (Nat.le_of_ble_eq_true rfl) ?_
      rintro v τ ⟨r, rfl, rfl, hC1, ho1⟩
      simp only [Option.toList, List.cons_append, List.nil_append]
      refine rj_iret dX11_colours_33 ?_
      have e : F_colours A t p = (colN A j p, A) := by unfold F_colours; rw [wT_in hvj hjj, if_pos hb_17]
      rw [e]
      exact ⟨rfl, cr_ex ⟨hC1, ho1.mono of_co⟩⟩
    · have hb_17 := bz_t h_17
      refine rj_ald0 dX11_colours_20 rfl ?_
      refine rj_ldc kX11_87 dX11_colours_21 ?_
      refine rj_V1 (ci := 11) cX11_88 rfl (by decide) rfl dX11_colours_23 (c_X11_found (i := 0) hC (by decide) (by decide)) (fitM (by decide) (by decide)) (Nat.le_of_ble_eq_true rfl) ?_
      rintro v υq ⟨rfl, hq⟩
      simp only [Option.toList, List.cons_append, List.nil_append]
      refine rj_iret dX11_colours_26 ?_
      have e : F_colours A t p = fnd A 0 := by unfold F_colours; rw [wT_in hvj hjj, if_neg hb_17]
      rw [e]
      exact ⟨rfl, hq⟩
  · rw [hυj]
    simp only [Option.toList, List.cons_append, List.nil_append]
    refine rj_nst3 dX11_colours_8 (by decide) rfl ?_
    refine rj_ald3N dX11_colours_9 rfl ?_
    refine rj_nu_null (tgt := 20) dX11_colours_10 (by decide) ?_
    refine rj_ald0 dX11_colours_20 rfl ?_
    refine rj_ldc kX11_87 dX11_colours_21 ?_
    refine rj_V1 (ci := 11) cX11_88 rfl (by decide) rfl dX11_colours_23 (c_X11_found (i := 0) hC (by decide) (by decide)) (fitM (by decide) (by decide)) (Nat.le_of_ble_eq_true rfl) ?_
    rintro v υq ⟨rfl, hq⟩
    simp only [Option.toList, List.cons_append, List.nil_append]
    refine rj_iret dX11_colours_26 ?_
    have e : F_colours A t p = fnd A 0 := by unfold F_colours; rw [wT_out hnj]
    rw [e]
    exact ⟨rfl, hq⟩

set_option maxRecDepth 100000 in
theorem c_X11_same {l : Launch} {X : CX} {σ : ST} {fb : Nat} {A : SA} (hC : CR σ fb A) (hw : wf A) {t o : Int32} : MJ l X 5 yX11_same cX11_same 5 (some .int) [.ref (ad X 0), .int t, .int o] σ (OP σ (F_same A t o)) := by
  refine MJ_of (own := RX11) [some (.ref (ad X 0)), some (.int t), some (.int o), none, none] (by decide) rfl (Nat.le_of_ble_eq_true rfl) rfl ?_
  have hk := cr_k hC
  have hF := hC.2.2.2.2.1
  refine rj_ald0 dX11_same_0 rfl ?_
  refine g11_76 dX11_same_1 ?_
  rw [cr_f hC]
  refine rj_ild1 dX11_same_4 rfl ?_
  refine rj_V1 (ci := 1) cX11_112 rfl (by decide) (by first | assumption | rfl) dX11_same_5 (c_X1_tieAt (cr_k hC) hC.2.2.2.2.1) (fitM (by decide) (by decide)) (Nat.le_of_ble_eq_true rfl) ?_
  rintro v υj ⟨hυj, ⟨j, hvj, hjj, rfl⟩ | ⟨hnj, rfl⟩⟩
  · rw [hυj]
    simp only [Option.toList, List.cons_append, List.nil_append]
    have hj8j : j < 8 := Nat.lt_of_lt_of_le hjj hC.2.2.2.2.1.2.2.2.1
    have hktj := (fair_next (cr_k hC)).2.2 j hj8j
    obtain ⟨hkrj, hkaj, hlnj⟩ := tie_next hktj
    have htij : Ti _ (tk fb j) (fT A j).1 (fT A j).2 := fr_tie hC.2.2.2.2.1 hjj
    have hxj : Rw _ (tk fb j + 1) (fT A j).2 := htij.2
    refine rj_ast3 dX11_same_8 (by decide) rfl ?_
    refine rj_ald0 dX11_same_9 rfl ?_
    refine g11_76 dX11_same_10 ?_
    rw [cr_f hC]
    refine rj_ild2 dX11_same_13 rfl ?_
    refine rj_V1 (ci := 1) cX11_112 rfl (by decide) (by first | assumption | rfl) dX11_same_14 (c_X1_tieAt (cr_k hC) hC.2.2.2.2.1) (fitM (by decide) (by decide)) (Nat.le_of_ble_eq_true rfl) ?_
    rintro v υi ⟨hυi, ⟨i, hvi, hji, rfl⟩ | ⟨hni, rfl⟩⟩
    · rw [hυi]
      simp only [Option.toList, List.cons_append, List.nil_append]
      have hj8i : i < 8 := Nat.lt_of_lt_of_le hji hC.2.2.2.2.1.2.2.2.1
      have hkti := (fair_next (cr_k hC)).2.2 i hj8i
      obtain ⟨hkri, hkai, hlni⟩ := tie_next hkti
      have htii : Ti _ (tk fb i) (fT A i).1 (fT A i).2 := fr_tie hC.2.2.2.2.1 hji
      have hxi : Rw _ (tk fb i + 1) (fT A i).2 := htii.2
      refine rj_ast4w dX11_same_17 (by decide) rfl ?_
      refine rj_ald3 dX11_same_19 rfl ?_
      refine rj_nu_ref dX11_same_20 ?_
      refine rj_ald dX11_same_23 rfl ?_
      refine rj_nn_ref (tgt := 35) dX11_same_25 (by decide) ?_
      refine rj_ald0 dX11_same_35 rfl ?_
      refine rj_ald3 dX11_same_36 rfl ?_
      refine rj_ald0 dX11_same_37 rfl ?_
      refine g11_38 dX11_same_38 ?_
      refine rj_V2 (ci := 11) cX11_168 rfl (by decide) (by first | assumption | rfl) dX11_same_41 (c_X11_layPulled hC hjj (k := 33) (Or.inl rfl)) (fitM (by decide) (by decide)) (Nat.le_of_ble_eq_true rfl) ?_
      rintro v τ ⟨rfl, hC1, hx1, ho1⟩
      simp only [Option.toList, List.nil_append]
      refine rj_ald0 dX11_same_44 rfl ?_
      refine rj_ald dX11_same_45 rfl ?_
      refine rj_ald0 dX11_same_47 rfl ?_
      refine g11_42 dX11_same_48 ?_
      refine rj_V2 (ci := 11) cX11_168 rfl (by decide) (by first | assumption | rfl) dX11_same_51 (c_X11_layPulled hC1 hji (k := 35) (Or.inr rfl)) (fitM (by decide) (by decide)) (Nat.le_of_ble_eq_true rfl) ?_
      rintro v υ ⟨rfl, hC2, hx2, ho2⟩
      simp only [Option.toList, List.nil_append]
      have hx3 := hx1.off ho2 (by unfold rowC; omega) (by unfold rowC; omega)
      refine rj_ald0 dX11_same_54 rfl ?_
      refine g11_38 dX11_same_55 ?_
      refine rj_ald0 dX11_same_58 rfl ?_
      refine g11_42 dX11_same_59 ?_
      refine rj_V1i (ci := 2) cX11_231 rfl (by decide) (by first | assumption | rfl) dX11_same_62 (c_X2_isSameRow rfl rfl hx3 hx2) (fitM (by decide) (by decide)) (Nat.le_of_ble_eq_true rfl) ?_
      refine rj_if_eq (tgt := 72) dX11_same_65 (by decide) (fun h_65 => ?_) (fun h_65 => ?_)
      · have hb_65 := bz_t h_65
        refine rj_ic0 dX11_same_72 ?_
        refine rj_iret dX11_same_73 ?_
        have e : F_same A t o = (0, A) := by unfold F_same; rw [wT_in hvj hjj, wT_in hvi hji, if_neg hb_65]
        rw [e]
        exact ⟨rfl, cr_ex ⟨hC2, (ho1.mono (of_row (Or.inl rfl))).tr (ho2.mono (of_row (Or.inr rfl)))⟩⟩
      · have hb_65 := bz_f h_65
        refine rj_ic1 dX11_same_68 ?_
        refine rj_goto (tgt := 73) dX11_same_69 (by decide) ?_
        refine rj_iret dX11_same_73 ?_
        have e : F_same A t o = (1, A) := by unfold F_same; rw [wT_in hvj hjj, wT_in hvi hji, if_pos hb_65]
        rw [e]
        exact ⟨rfl, cr_ex ⟨hC2, (ho1.mono (of_row (Or.inl rfl))).tr (ho2.mono (of_row (Or.inr rfl)))⟩⟩
    · rw [hυi]
      simp only [Option.toList, List.cons_append, List.nil_append]
      refine rj_nst4w dX11_same_17 (by decide) rfl ?_
      refine rj_ald3 dX11_same_19 rfl ?_
      refine rj_nu_ref dX11_same_20 ?_
      refine rj_aldN dX11_same_23 rfl ?_
      refine rj_nn_null dX11_same_25 ?_
      refine rj_ald0 dX11_same_28 rfl ?_
      refine rj_ldc kX11_87 dX11_same_29 ?_
      refine rj_V1 (ci := 11) cX11_88 rfl (by decide) rfl dX11_same_31 (c_X11_found (i := 0) hC (by decide) (by decide)) (fitM (by decide) (by decide)) (Nat.le_of_ble_eq_true rfl) ?_
      rintro v υq ⟨rfl, hq⟩
      simp only [Option.toList, List.cons_append, List.nil_append]
      refine rj_iret dX11_same_34 ?_
      have e : F_same A t o = fnd A 0 := by unfold F_same; rw [wT_in hvj hjj, wT_out hni]
      rw [e]
      exact ⟨rfl, hq⟩
  · rw [hυj]
    simp only [Option.toList, List.cons_append, List.nil_append]
    refine rj_nst3 dX11_same_8 (by decide) rfl ?_
    refine rj_ald0 dX11_same_9 rfl ?_
    refine g11_76 dX11_same_10 ?_
    rw [cr_f hC]
    refine rj_ild2 dX11_same_13 rfl ?_
    refine rj_V1 (ci := 1) cX11_112 rfl (by decide) (by first | assumption | rfl) dX11_same_14 (c_X1_tieAt (cr_k hC) hC.2.2.2.2.1) (fitM (by decide) (by decide)) (Nat.le_of_ble_eq_true rfl) ?_
    rintro v υi ⟨hυi, ⟨i, hvi, hji, rfl⟩ | ⟨hni, rfl⟩⟩
    · rw [hυi]
      simp only [Option.toList, List.cons_append, List.nil_append]
      have hj8i : i < 8 := Nat.lt_of_lt_of_le hji hC.2.2.2.2.1.2.2.2.1
      have hkti := (fair_next (cr_k hC)).2.2 i hj8i
      obtain ⟨hkri, hkai, hlni⟩ := tie_next hkti
      have htii : Ti _ (tk fb i) (fT A i).1 (fT A i).2 := fr_tie hC.2.2.2.2.1 hji
      have hxi : Rw _ (tk fb i + 1) (fT A i).2 := htii.2
      refine rj_ast4w dX11_same_17 (by decide) rfl ?_
      refine rj_ald3N dX11_same_19 rfl ?_
      refine rj_nu_null (tgt := 28) dX11_same_20 (by decide) ?_
      refine rj_ald0 dX11_same_28 rfl ?_
      refine rj_ldc kX11_87 dX11_same_29 ?_
      refine rj_V1 (ci := 11) cX11_88 rfl (by decide) rfl dX11_same_31 (c_X11_found (i := 0) hC (by decide) (by decide)) (fitM (by decide) (by decide)) (Nat.le_of_ble_eq_true rfl) ?_
      rintro v υq ⟨rfl, hq⟩
      simp only [Option.toList, List.cons_append, List.nil_append]
      refine rj_iret dX11_same_34 ?_
      have e : F_same A t o = fnd A 0 := by unfold F_same; rw [wT_out hnj]
      rw [e]
      exact ⟨rfl, hq⟩
    · rw [hυi]
      simp only [Option.toList, List.cons_append, List.nil_append]
      refine rj_nst4w dX11_same_17 (by decide) rfl ?_
      refine rj_ald3N dX11_same_19 rfl ?_
      refine rj_nu_null (tgt := 28) dX11_same_20 (by decide) ?_
      refine rj_ald0 dX11_same_28 rfl ?_
      refine rj_ldc kX11_87 dX11_same_29 ?_
      refine rj_V1 (ci := 11) cX11_88 rfl (by decide) rfl dX11_same_31 (c_X11_found (i := 0) hC (by decide) (by decide)) (fitM (by decide) (by decide)) (Nat.le_of_ble_eq_true rfl) ?_
      rintro v υq ⟨rfl, hq⟩
      simp only [Option.toList, List.cons_append, List.nil_append]
      refine rj_iret dX11_same_34 ?_
      have e : F_same A t o = fnd A 0 := by unfold F_same; rw [wT_out hnj]
      rw [e]
      exact ⟨rfl, hq⟩

