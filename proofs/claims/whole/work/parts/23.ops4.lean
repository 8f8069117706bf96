/-! searches, what holds, what was tied -/
noncomputable def fmN (xs : List Int32) : Int32 := @ite _ (cob 0 xs) (Classical.propDecidable _) 0 (@ite _ (cob 1 xs) (Classical.propDecidable _) 1 (@ite _ (cob 2 xs) (Classical.propDecidable _) 2 (@ite _ (cob 3 xs) (Classical.propDecidable _) 3 (-1))))
theorem fm_fn {xs : List Int32} {r : Int32} (h : fmR xs r) : r = fmN xs ∧ (r = -1 ∨ 0 ≤ r.toInt) := by
  unfold fmN
  rcases h with ⟨m, hm, h1, h2, rfl⟩ | ⟨h1, rfl⟩
  · refine ⟨?_, Or.inr (by rw [nI_t (by omega)]; omega)⟩
    rcases m with _ | _ | _ | _ | m
    · rw [if_pos h1]; rfl
    · rw [if_neg (h2 0 (by omega)), if_pos h1]; rfl
    · rw [if_neg (h2 0 (by omega)), if_neg (h2 1 (by omega)), if_pos h1]; rfl
    · rw [if_neg (h2 0 (by omega)), if_neg (h2 1 (by omega)), if_neg (h2 2 (by omega)), if_pos h1]; rfl
    · omega
  · exact ⟨by rw [if_neg (h1 0 (by omega)), if_neg (h1 1 (by omega)), if_neg (h1 2 (by omega)), if_neg (h1 3 (by omega))], Or.inl rfl⟩
noncomputable def F_steps (A : SA) (t : Int32) : Int32 × SA := wT A t fun j => if (fmN (fT A j).2).toInt < 0 then fnd A 3 else (fmN (fT A j).2, A)
def F_ways (A : SA) (t n : Int32) : Int32 × SA := wT A t fun j => if n.toInt < 0 ∨ 12 < n.toInt then fnd A 0 else (nI (ch n.toInt.toNat (fT A j).2 []), A)
def F_fewest (A : SA) (t : Int32) : Int32 × SA := wT A t fun j => if cs (fT A j).2 0 (fT A j).2.length < 16777216 then (nI (cs (fT A j).2 0 (fT A j).2.length / 4096), A) else fnd A 3
def F_turned (A : SA) (t : Int32) : Int32 × SA := wT A t fun j => if cs (fT A j).2 0 (fT A j).2.length < 16777216 then (nI (cs (fT A j).2 0 (fT A j).2.length % 4096), A) else fnd A 3
theorem cr_se {σ τ : ST} {fb : Nat} {A : SA} (h : CR σ fb A) (ho : off (seC 47) σ τ) (h1 : ∃ xs, Rw τ 48 xs) (h2 : ∃ xs, Rw τ 50 xs) : CR τ fb A ∧ off sysP σ τ := by
  obtain ⟨⟨a, ha⟩, ⟨b, hb⟩, -⟩ := h.2.2.2.2.2.2.2.2.2.2
  exact cr_scr h (ho.mono (fun a ha => by unfold seC at ha; unfold scrP; omega)) ⟨⟨a, ha.off ho (by unfold seC; omega) (by unfold seC; omega)⟩, ⟨b, hb.off ho (by unfold seC; omega) (by unfold seC; omega)⟩, h1, h2⟩
theorem okc_nz {rc : Int32} {xs : List Int32} (hr : rc.toInt ≤ 4) (h : okL rc xs) : ∀ i, i < xs.length → ¬ (0 : Int32) = iab (xs.getD i 0) := fun i hi q => by
  have h1 := iab_ok (okL_get h hi) hr
  rw [← q, t0] at h1
  omega
set_option maxRecDepth 100000 in
theorem c_X11_steps {l : Launch} {X : CX} {σ : ST} {fb : Nat} {A : SA} (hC : CR σ fb A) (hw : wf A) {t : Int32} : MJ l X 9 yX11_steps cX11_steps 4 (some .int) [.ref (ad X 0), .int t] σ (OP σ (F_steps A t)) := by
  refine MJ_of (own := RX11) [some (.ref (ad X 0)), some (.int t), none, none] (by decide) rfl (Nat.le_of_ble_eq_true rfl) rfl ?_
  have hk := cr_k hC
  have hF := hC.2.2.2.2.1
  refine rj_ald0 dX11_steps_0 rfl ?_
  refine g11_76 dX11_steps_1 ?_
  rw [cr_f hC]
  refine rj_ild1 dX11_steps_4 rfl ?_
  refine rj_V1 (ci := 1) cX11_112 rfl (by decide) (by first | assumption | rfl) dX11_steps_5 (c_X1_tieAt (cr_k hC) hC.2.2.2.2.1) (fitM (by decide) (by decide)) (Nat.le_of_ble_eq_true rfl) ?_
  rintro v υj ⟨hυj, ⟨j, hvj, hjj, rfl⟩ | ⟨hnj, rfl⟩⟩
  · rw [hυj]
    simp only [Option.toList, List.cons_append, List.nil_append]
    have hj8j : j < 8 := Nat.lt_of_lt_of_le hjj hC.2.2.2.2.1.2.2.2.1
    have hktj := (fair_next (cr_k hC)).2.2 j hj8j
    obtain ⟨hkrj, hkaj, hlnj⟩ := tie_next hktj
    have htij : Ti _ (tk fb j) (fT A j).1 (fT A j).2 := fr_tie hC.2.2.2.2.1 hjj
    have hxj : Rw _ (tk fb j + 1) (fT A j).2 := htij.2
    refine rj_ast2 dX11_steps_8 (by decide) rfl ?_
    refine rj_ald2 dX11_steps_9 rfl ?_
    refine rj_nn_ref (tgt := 20) dX11_steps_10 (by decide) ?_
    obtain ⟨-, -, ⟨ys, hy⟩, zs, hz⟩ := hC.2.2.2.2.2.2.2.2.2.2
    have hwt := wf_t hw hjj
    refine rj_ald0 dX11_steps_20 rfl ?_
    refine g11_72 dX11_steps_21 ?_
    refine rj_ald2 dX11_steps_24 rfl ?_
    refine g11_120 (by first | assumption | rfl) dX11_steps_25 ?_
    refine rj_V1 (ci := 3) cX11_184 rfl (by decide) (by first | assumption | rfl) dX11_steps_28 (c_X3_fewestMoves (k := 47) rfl hkrj hxj hwt.2.2.2 hw.1.2.1 hwt.2.2.1 hy hz) (fitM (by decide) (by decide)) (Nat.le_of_ble_eq_true rfl) ?_
    rintro v τ ⟨r, rfl, hr, ⟨ws, hSe⟩, ho1⟩
    simp only [Option.toList, List.cons_append, List.nil_append]
    have hC1 := cr_se hC ho1 ⟨ws, hSe.1⟩ hSe.2
    have hm := fm_fn hr
    have hm1 : (-1 : Int32).toInt = -1 := by decide
    refine rj_ist3 dX11_steps_31 (by decide) rfl ?_
    refine rj_ild3 dX11_steps_32 rfl ?_
    refine rj_if_ge (tgt := 45) dX11_steps_33 (by decide) (fun h_33 => ?_) (fun h_33 => ?_)
    · refine rj_ild3 dX11_steps_45 rfl ?_
      refine rj_iret dX11_steps_46 ?_
      have e : F_steps A t = (fmN (fT A j).2, A) := by unfold F_steps; rw [wT_in hvj hjj, if_neg (by rw [← hm.1]; omega)]
      rw [e]
      exact ⟨by rw [hm.1], cr_ex hC1⟩
    · refine rj_ald0 dX11_steps_36 rfl ?_
      refine rj_ldc kX11_132 dX11_steps_37 ?_
      refine rj_V1 (ci := 11) cX11_88 rfl (by decide) rfl dX11_steps_39 (c_X11_found (i := 3) hC1.1 (by decide) (by decide)) (fitM (by decide) (by decide)) (Nat.le_of_ble_eq_true rfl) ?_
      rintro v υq ⟨rfl, hq⟩
      simp only [Option.toList, List.cons_append, List.nil_append]
      refine rj_goto (tgt := 46) dX11_steps_42 (by decide) ?_
      refine rj_iret dX11_steps_46 ?_
      have e : F_steps A t = fnd A 3 := by unfold F_steps; rw [wT_in hvj hjj, if_pos (by rw [← hm.1]; omega)]
      rw [e]
      exact OP.tr ⟨rfl, hq⟩ hC1.2
  · rw [hυj]
    simp only [Option.toList, List.cons_append, List.nil_append]
    refine rj_nst2 dX11_steps_8 (by decide) rfl ?_
    refine rj_ald2N dX11_steps_9 rfl ?_
    refine rj_nn_null dX11_steps_10 ?_
    refine rj_ald0 dX11_steps_13 rfl ?_
    refine rj_ldc kX11_87 dX11_steps_14 ?_
    refine rj_V1 (ci := 11) cX11_88 rfl (by decide) rfl dX11_steps_16 (c_X11_found (i := 0) hC (by decide) (by decide)) (fitM (by decide) (by decide)) (Nat.le_of_ble_eq_true rfl) ?_
    rintro v υq ⟨rfl, hq⟩
    simp only [Option.toList, List.cons_append, List.nil_append]
    refine rj_iret dX11_steps_19 ?_
    have e : F_steps A t = fnd A 0 := by unfold F_steps; rw [wT_out hnj]
    rw [e]
    exact ⟨rfl, hq⟩

set_option maxRecDepth 100000 in
theorem c_X11_ways {l : Launch} {X : CX} {σ : ST} {fb : Nat} {A : SA} (hC : CR σ fb A) (hw : wf A) {t n : Int32} : MJ l X 16 yX11_ways cX11_ways 4 (some .int) [.ref (ad X 0), .int t, .int n] σ (OP σ (F_ways A t n)) := by
  refine MJ_of (own := RX11) [some (.ref (ad X 0)), some (.int t), some (.int n), none] (by decide) rfl (Nat.le_of_ble_eq_true rfl) rfl ?_
  have hk := cr_k hC
  have hF := hC.2.2.2.2.1
  have h12 : (12 : Int32).toInt = 12 := by decide
  refine rj_ald0 dX11_ways_0 rfl ?_
  refine g11_76 dX11_ways_1 ?_
  rw [cr_f hC]
  refine rj_ild1 dX11_ways_4 rfl ?_
  refine rj_V1 (ci := 1) cX11_112 rfl (by decide) (by first | assumption | rfl) dX11_ways_5 (c_X1_tieAt (cr_k hC) hC.2.2.2.2.1) (fitM (by decide) (by decide)) (Nat.le_of_ble_eq_true rfl) ?_
  rintro v υj ⟨hυj, ⟨j, hvj, hjj, rfl⟩ | ⟨hnj, rfl⟩⟩
  · rw [hυj]
    simp only [Option.toList, List.cons_append, List.nil_append]
    have hj8j : j < 8 := Nat.lt_of_lt_of_le hjj hC.2.2.2.2.1.2.2.2.1
    have hktj := (fair_next (cr_k hC)).2.2 j hj8j
    obtain ⟨hkrj, hkaj, hlnj⟩ := tie_next hktj
    have htij : Ti _ (tk fb j) (fT A j).1 (fT A j).2 := fr_tie hC.2.2.2.2.1 hjj
    have hxj : Rw _ (tk fb j + 1) (fT A j).2 := htij.2
    refine rj_ast3 dX11_ways_8 (by decide) rfl ?_
    refine rj_ald3 dX11_ways_9 rfl ?_
    refine rj_nu_ref dX11_ways_10 ?_
    refine rj_ild2 dX11_ways_13 rfl ?_
    refine rj_if_lt (tgt := 23) dX11_ways_14 (by decide) (fun h_14 => ?_) (fun h_14 => ?_)
    · refine rj_ald0 dX11_ways_23 rfl ?_
      refine rj_ldc kX11_87 dX11_ways_24 ?_
      refine rj_V1 (ci := 11) cX11_88 rfl (by decide) rfl dX11_ways_26 (c_X11_found (i := 0) hC (by decide) (by decide)) (fitM (by decide) (by decide)) (Nat.le_of_ble_eq_true rfl) ?_
      rintro v υq ⟨rfl, hq⟩
      simp only [Option.toList, List.cons_append, List.nil_append]
      refine rj_iret dX11_ways_29 ?_
      have e : F_ways A t n = fnd A 0 := by unfold F_ways; rw [wT_in hvj hjj, if_pos (by omega)]
      rw [e]
      exact ⟨rfl, hq⟩
    · refine rj_ild2 dX11_ways_17 rfl ?_
      refine rj_bipush (v := 12) dX11_ways_18 (by decide) ?_
      refine rj_ic_le (tgt := 30) dX11_ways_20 (by decide) (fun h_20 => ?_) (fun h_20 => ?_)
      · obtain ⟨-, -, ⟨ys, hy⟩, zs, hz⟩ := hC.2.2.2.2.2.2.2.2.2.2
        have hwt := wf_t hw hjj
        refine rj_ald0 dX11_ways_30 rfl ?_
        refine g11_72 dX11_ways_31 ?_
        refine rj_ald3 dX11_ways_34 rfl ?_
        refine g11_120 (by first | assumption | rfl) dX11_ways_35 ?_
        refine rj_ild2 dX11_ways_38 rfl ?_
        rw [show n = nI n.toInt.toNat from i_nI (by omega)]
        refine rj_V2 (ci := 3) cX11_244 rfl (by decide) (by first | assumption | rfl) dX11_ways_39 (c_X3_rowsLeaving (k := 47) (n := n.toInt.toNat) rfl hkrj (tk_out hC (by omega)) hwt.2.2.1 (by omega) (okc_nz hw.1.2.1 hwt.2.2.2) hxj hz) (fitM (by decide) (by decide)) (Nat.le_of_ble_eq_true rfl) ?_
        rintro v τ ⟨r, rfl, hr, hz1, ho1⟩
        simp only [Option.toList, List.cons_append, List.nil_append]
        have hC1 := cr_se hC (ho1.mono (fun a ha => by unfold rowC at ha; unfold seC; omega)) ⟨ys, hy.off ho1 (by unfold rowC; omega) (by unfold rowC; omega)⟩ hz1
        refine rj_iret dX11_ways_42 ?_
        rw [show nI n.toInt.toNat = n from (i_nI (by omega)).symm]
        have e : F_ways A t n = (nI (ch n.toInt.toNat (fT A j).2 []), A) := by unfold F_ways; rw [wT_in hvj hjj, if_neg (by omega)]
        rw [e]
        exact ⟨by rw [hr], cr_ex hC1⟩
      · refine rj_ald0 dX11_ways_23 rfl ?_
        refine rj_ldc kX11_87 dX11_ways_24 ?_
        refine rj_V1 (ci := 11) cX11_88 rfl (by decide) rfl dX11_ways_26 (c_X11_found (i := 0) hC (by decide) (by decide)) (fitM (by decide) (by decide)) (Nat.le_of_ble_eq_true rfl) ?_
        rintro v υq ⟨rfl, hq⟩
        simp only [Option.toList, List.cons_append, List.nil_append]
        refine rj_iret dX11_ways_29 ?_
        have e : F_ways A t n = fnd A 0 := by unfold F_ways; rw [wT_in hvj hjj, if_pos (by omega)]
        rw [e]
        exact ⟨rfl, hq⟩
  · rw [hυj]
    simp only [Option.toList, List.cons_append, List.nil_append]
    refine rj_nst3 dX11_ways_8 (by decide) rfl ?_
    refine rj_ald3N dX11_ways_9 rfl ?_
    refine rj_nu_null (tgt := 23) dX11_ways_10 (by decide) ?_
    refine rj_ald0 dX11_ways_23 rfl ?_
    refine rj_ldc kX11_87 dX11_ways_24 ?_
    refine rj_V1 (ci := 11) cX11_88 rfl (by decide) rfl dX11_ways_26 (c_X11_found (i := 0) hC (by decide) (by decide)) (fitM (by decide) (by decide)) (Nat.le_of_ble_eq_true rfl) ?_
    rintro v υq ⟨rfl, hq⟩
    simp only [Option.toList, List.cons_append, List.nil_append]
    refine rj_iret dX11_ways_29 ?_
    have e : F_ways A t n = fnd A 0 := by unfold F_ways; rw [wT_out hnj]
    rw [e]
    exact ⟨rfl, hq⟩

set_option maxRecDepth 100000 in
theorem c_X11_fewest {l : Launch} {X : CX} {σ : ST} {fb : Nat} {A : SA} (hC : CR σ fb A) (hw : wf A) {t : Int32} : MJ l X 5 yX11_fewest cX11_fewest 3 (some .int) [.ref (ad X 0), .int t] σ (OP σ (F_fewest A t)) := by
  refine MJ_of (own := RX11) [some (.ref (ad X 0)), some (.int t), none] (by decide) rfl (Nat.le_of_ble_eq_true rfl) rfl ?_
  have hk := cr_k hC
  have hF := hC.2.2.2.2.1
  refine rj_ald0 dX11_fewest_0 rfl ?_
  refine g11_76 dX11_fewest_1 ?_
  rw [cr_f hC]
  refine rj_ild1 dX11_fewest_4 rfl ?_
  refine rj_V1 (ci := 1) cX11_112 rfl (by decide) (by first | assumption | rfl) dX11_fewest_5 (c_X1_tieAt (cr_k hC) hC.2.2.2.2.1) (fitM (by decide) (by decide)) (Nat.le_of_ble_eq_true rfl) ?_
  rintro v υj ⟨hυj, ⟨j, hvj, hjj, rfl⟩ | ⟨hnj, rfl⟩⟩
  · rw [hυj]
    simp only [Option.toList, List.cons_append, List.nil_append]
    have hj8j : j < 8 := Nat.lt_of_lt_of_le hjj hC.2.2.2.2.1.2.2.2.1
    have hktj := (fair_next (cr_k hC)).2.2 j hj8j
    obtain ⟨hkrj, hkaj, hlnj⟩ := tie_next hktj
    have htij : Ti _ (tk fb j) (fT A j).1 (fT A j).2 := fr_tie hC.2.2.2.2.1 hjj
    have hxj : Rw _ (tk fb j + 1) (fT A j).2 := htij.2
    refine rj_ast2 dX11_fewest_8 (by decide) rfl ?_
    refine rj_ald2 dX11_fewest_9 rfl ?_
    refine rj_nn_ref (tgt := 20) dX11_fewest_10 (by decide) ?_
    refine rj_ald0 dX11_fewest_20 rfl ?_
    refine g11_65 dX11_fewest_21 ?_
    refine rj_ald2 dX11_fewest_24 rfl ?_
    refine g11_120 (by first | assumption | rfl) dX11_fewest_25 ?_
    refine rj_V1 (ci := 10) cX11_235 rfl (by decide) (by first | assumption | rfl) dX11_fewest_28 (c_X10_solve (k := 45) rfl hkrj hxj (wf_t hw hjj).2.2.1) (fitM (by decide) (by decide)) (Nat.le_of_ble_eq_true rfl) ?_
    rintro v τ ⟨rfl, hc1, ho1⟩
    simp only [Option.toList, List.cons_append, List.nil_append]
    have hC1 := cr_oth hC ho1 (fun a ha => by unfold rowC at ha; omega)
    refine rj_if_ne (tgt := 41) dX11_fewest_31 (by decide) (fun h_31 => ?_) (fun h_31 => ?_)
    · have hb_31 := bz_f h_31
      refine rj_ald0 dX11_fewest_41 rfl ?_
      refine g11_65 dX11_fewest_42 ?_
      refine rj_V0i (ci := 10) cX11_238 rfl (by decide) (by first | assumption | rfl) dX11_fewest_45 (c_X10_turnedCount (k := 45) rfl hc1 (by omega)) (fitM (by decide) (by decide)) (Nat.le_of_ble_eq_true rfl) ?_
      refine rj_iret dX11_fewest_48 ?_
      have e : F_fewest A t = (nI (cs (fT A j).2 0 (fT A j).2.length / 4096), A) := by unfold F_fewest; rw [wT_in hvj hjj, if_pos hb_31]
      rw [e]
      exact ⟨rfl, cr_ex hC1⟩
    · have hb_31 := bz_t h_31
      refine rj_ald0 dX11_fewest_34 rfl ?_
      refine rj_ldc kX11_132 dX11_fewest_35 ?_
      refine rj_V1 (ci := 11) cX11_88 rfl (by decide) rfl dX11_fewest_37 (c_X11_found (i := 3) hC1.1 (by decide) (by decide)) (fitM (by decide) (by decide)) (Nat.le_of_ble_eq_true rfl) ?_
      rintro v υq ⟨rfl, hq⟩
      simp only [Option.toList, List.cons_append, List.nil_append]
      refine rj_iret dX11_fewest_40 ?_
      have e : F_fewest A t = fnd A 3 := by unfold F_fewest; rw [wT_in hvj hjj, if_neg hb_31]
      rw [e]
      exact OP.tr ⟨rfl, hq⟩ hC1.2
  · rw [hυj]
    simp only [Option.toList, List.cons_append, List.nil_append]
    refine rj_nst2 dX11_fewest_8 (by decide) rfl ?_
    refine rj_ald2N dX11_fewest_9 rfl ?_
    refine rj_nn_null dX11_fewest_10 ?_
    refine rj_ald0 dX11_fewest_13 rfl ?_
    refine rj_ldc kX11_87 dX11_fewest_14 ?_
    refine rj_V1 (ci := 11) cX11_88 rfl (by decide) rfl dX11_fewest_16 (c_X11_found (i := 0) hC (by decide) (by decide)) (fitM (by decide) (by decide)) (Nat.le_of_ble_eq_true rfl) ?_
    rintro v υq ⟨rfl, hq⟩
    simp only [Option.toList, List.cons_append, List.nil_append]
    refine rj_iret dX11_fewest_19 ?_
    have e : F_fewest A t = fnd A 0 := by unfold F_fewest; rw [wT_out hnj]
    rw [e]
    exact ⟨rfl, hq⟩

set_option maxRecDepth 100000 in
theorem c_X11_turned {l : Launch} {X : CX} {σ : ST} {fb : Nat} {A : SA} (hC : CR σ fb A) (hw : wf A) {t : Int32} : MJ l X 5 yX11_turned cX11_turned 3 (some .int) [.ref (ad X 0), .int t] σ (OP σ (F_turned A t)) := by
  refine MJ_of (own := RX11) [some (.ref (ad X 0)), some (.int t), none] (by decide) rfl (Nat.le_of_ble_eq_true rfl) rfl ?_
  have hk := cr_k hC
  have hF := hC.2.2.2.2.1
  refine rj_ald0 dX11_turned_0 rfl ?_
  refine g11_76 dX11_turned_1 ?_
  rw [cr_f hC]
  refine rj_ild1 dX11_turned_4 rfl ?_
  refine rj_V1 (ci := 1) cX11_112 rfl (by decide) (by first | assumption | rfl) dX11_turned_5 (c_X1_tieAt (cr_k hC) hC.2.2.2.2.1) (fitM (by decide) (by decide)) (Nat.le_of_ble_eq_true rfl) ?_
  rintro v υj ⟨hυj, ⟨j, hvj, hjj, rfl⟩ | ⟨hnj, rfl⟩⟩
  · rw [hυj]
    simp only [Option.toList, List.cons_append, List.nil_append]
    have hj8j : j < 8 := Nat.lt_of_lt_of_le hjj hC.2.2.2.2.1.2.2.2.1
    have hktj := (fair_next (cr_k hC)).2.2 j hj8j
    obtain ⟨hkrj, hkaj, hlnj⟩ := tie_next hktj
    have htij : Ti _ (tk fb j) (fT A j).1 (fT A j).2 := fr_tie hC.2.2.2.2.1 hjj
    have hxj : Rw _ (tk fb j + 1) (fT A j).2 := htij.2
    refine rj_ast2 dX11_turned_8 (by decide) rfl ?_
    refine rj_ald2 dX11_turned_9 rfl ?_
    refine rj_nn_ref (tgt := 20) dX11_turned_10 (by decide) ?_
    refine rj_ald0 dX11_turned_20 rfl ?_
    refine g11_65 dX11_turned_21 ?_
    refine rj_ald2 dX11_turned_24 rfl ?_
    refine g11_120 (by first | assumption | rfl) dX11_turned_25 ?_
    refine rj_V1 (ci := 10) cX11_235 rfl (by decide) (by first | assumption | rfl) dX11_turned_28 (c_X10_solve (k := 45) rfl hkrj hxj (wf_t hw hjj).2.2.1) (fitM (by decide) (by decide)) (Nat.le_of_ble_eq_true rfl) ?_
    rintro v τ ⟨rfl, hc1, ho1⟩
    simp only [Option.toList, List.cons_append, List.nil_append]
    have hC1 := cr_oth hC ho1 (fun a ha => by unfold rowC at ha; omega)
    refine rj_if_ne (tgt := 41) dX11_turned_31 (by decide) (fun h_31 => ?_) (fun h_31 => ?_)
    · have hb_31 := bz_f h_31
      refine rj_ald0 dX11_turned_41 rfl ?_
      refine g11_65 dX11_turned_42 ?_
      refine rj_V0i (ci := 10) cX11_241 rfl (by decide) (by first | assumption | rfl) dX11_turned_45 (c_X10_turnedSet (k := 45) rfl hc1 (by omega)) (fitM (by decide) (by decide)) (Nat.le_of_ble_eq_true rfl) ?_
      refine rj_iret dX11_turned_48 ?_
      have e : F_turned A t = (nI (cs (fT A j).2 0 (fT A j).2.length % 4096), A) := by unfold F_turned; rw [wT_in hvj hjj, if_pos hb_31]
      rw [e]
      exact ⟨rfl, cr_ex hC1⟩
    · have hb_31 := bz_t h_31
      refine rj_ald0 dX11_turned_34 rfl ?_
      refine rj_ldc kX11_132 dX11_turned_35 ?_
      refine rj_V1 (ci := 11) cX11_88 rfl (by decide) rfl dX11_turned_37 (c_X11_found (i := 3) hC1.1 (by decide) (by decide)) (fitM (by decide) (by decide)) (Nat.le_of_ble_eq_true rfl) ?_
      rintro v υq ⟨rfl, hq⟩
      simp only [Option.toList, List.cons_append, List.nil_append]
      refine rj_iret dX11_turned_40 ?_
      have e : F_turned A t = fnd A 3 := by unfold F_turned; rw [wT_in hvj hjj, if_neg hb_31]
      rw [e]
      exact OP.tr ⟨rfl, hq⟩ hC1.2
  · rw [hυj]
    simp only [Option.toList, List.cons_append, List.nil_append]
    refine rj_nst2 dX11_turned_8 (by decide) rfl ?_
    refine rj_ald2N dX11_turned_9 rfl ?_
    refine rj_nn_null dX11_turned_10 ?_
    refine rj_ald0 dX11_turned_13 rfl ?_
    refine rj_ldc kX11_87 dX11_turned_14 ?_
    refine rj_V1 (ci := 11) cX11_88 rfl (by decide) rfl dX11_turned_16 (c_X11_found (i := 0) hC (by decide) (by decide)) (fitM (by decide) (by decide)) (Nat.le_of_ble_eq_true rfl) ?_
    rintro v υq ⟨rfl, hq⟩
    simp only [Option.toList, List.cons_append, List.nil_append]
    refine rj_iret dX11_turned_19 ?_
    have e : F_turned A t = fnd A 0 := by unfold F_turned; rw [wT_out hnj]
    rw [e]
    exact ⟨rfl, hq⟩

def cmv (xs : List Int32) (b : Int32) (i : Nat) : Prop := (b = 0 ∧ csl xs i) ∨ (¬ b = 0 ∧ cth xs i)
noncomputable def mvR (xs : List Int32) (b : Int32) : Nat → Nat → Int32 → Int32
  | 0, _, c => c
  | n + 1, i, c => mvR xs b n (i + 1) (@ite _ (cmv xs b i) (Classical.propDecidable _) (c + 1) c)
noncomputable def F_moves (A : SA) (t b : Int32) : Int32 × SA := wT A t fun j => if b.toInt < 0 ∨ 1 < b.toInt then fnd A 0 else (mvR (fT A j).2 b (fT A j).2.length 0 0, A)
set_option maxRecDepth 100000 in
theorem l_X11_moves {l : Launch} {X : CX} {h : Nat} {Q : Option Value → ST → Prop} {σ : ST} {k : Nat} {t b : Int32} {xs : List Int32} (hh : 3 ≤ h) (hkt : kd k = 8) (hx : Rw σ (k + 1) xs) : ∀ (N i : Nat) (c : Int32), xs.length < i + N → (i ≤ xs.length ∧ Q (some (.int (mvR xs b (xs.length - i) i c))) σ) → RJ (GM l X h Q) X cX11_moves 6 (some .int) RX11 35 [some (.ref (ad X 0)), some (.int t), some (.int b), some (.ref (ad X k)), some (.int c), some (.int (nI i))] [] σ := by
  intro N
  induction N with
  | zero => intro i c hN hi; have := hi.1; exact absurd hN (by omega)
  | succ N ih =>
    intro i c hN hi
    obtain ⟨hi, hQ⟩ := hi
    obtain ⟨hkr, hka, hln⟩ := tie_next hkt
    have hsm := hx.small hkr
    have hs := hx.1
    have hit : (nI i).toInt = i := nI_t (by omega)
    refine rj_ild dX11_moves_35 rfl ?_
    refine rj_ald3 dX11_moves_37 rfl ?_
    refine g11_120 (by first | assumption | rfl) dX11_moves_38 ?_
    refine g11_129 (by first | assumption | rfl) dX11_moves_41 ?_
    refine rj_ic_ge (tgt := 87) dX11_moves_44 (by decide) (fun h_44 => ?_) (fun h_44 => ?_)
    · refine rj_ild dX11_moves_87 rfl ?_
      refine rj_iret dX11_moves_89 ?_
      rw [show xs.length - i = 0 by omega] at hQ
      exact hQ
    · rw [show xs.length - i = (xs.length - (i + 1)) + 1 by omega] at hQ
      unfold mvR at hQ
      have hin : (nI i).toInt.toNat = i := by omega
      refine rj_ild2 dX11_moves_47 rfl ?_
      refine rj_if_ne (tgt := 66) dX11_moves_48 (by decide) (fun h_48 => ?_) (fun h_48 => ?_)
      · refine rj_ald3 dX11_moves_66 rfl ?_
        refine g11_120 (by first | assumption | rfl) dX11_moves_67 ?_
        refine rj_ild dX11_moves_70 rfl ?_
        refine rj_V1i (ci := 2) cX11_178 rfl (by decide) (by first | assumption | rfl) dX11_moves_72 (c_X2_canThird hkr hx) (fitM (by omega) (by decide)) (Nat.le_of_ble_eq_true rfl) ?_
        refine rj_if_eq (tgt := 81) dX11_moves_75 (by decide) (fun h_75 => ?_) (fun h_75 => ?_)
        · have hb_75 := bz_t h_75
          rw [hin] at hb_75
          rw [if_neg (fun q => q.elim (fun z => h_48 z.1) (fun z => hb_75 ⟨by omega, z.2⟩))] at hQ
          refine rj_iinc5 (d := 1) dX11_moves_81 (by decide) rfl (by decide) ?_
          rw [nI_1]
          refine rj_goto (tgt := 35) dX11_moves_84 (by decide) ?_
          exact ih (i + 1) _ (by omega) ⟨by omega, hQ⟩
        · have hb_75 := bz_f h_75
          rw [hin] at hb_75
          rw [if_pos (show cmv xs b i from Or.inr ⟨h_48, hb_75.2⟩)] at hQ
          refine rj_iinc4 (d := 1) dX11_moves_78 (by decide) rfl (by decide) ?_
          refine rj_iinc5 (d := 1) dX11_moves_81 (by decide) rfl (by decide) ?_
          rw [nI_1]
          refine rj_goto (tgt := 35) dX11_moves_84 (by decide) ?_
          exact ih (i + 1) _ (by omega) ⟨by omega, hQ⟩
      · refine rj_ald3 dX11_moves_51 rfl ?_
        refine g11_120 (by first | assumption | rfl) dX11_moves_52 ?_
        refine rj_ild dX11_moves_55 rfl ?_
        refine rj_V1i (ci := 2) cX11_172 rfl (by decide) (by first | assumption | rfl) dX11_moves_57 (c_X2_canSlide hkr hx) (fitM (by omega) (by decide)) (Nat.le_of_ble_eq_true rfl) ?_
        refine rj_if_eq (tgt := 81) dX11_moves_60 (by decide) (fun h_60 => ?_) (fun h_60 => ?_)
        · have hb_60 := bz_t h_60
          rw [hin] at hb_60
          rw [if_neg (fun q => q.elim (fun z => hb_60 ⟨by omega, z.2⟩) (fun z => z.1 h_48))] at hQ
          refine rj_iinc5 (d := 1) dX11_moves_81 (by decide) rfl (by decide) ?_
          rw [nI_1]
          refine rj_goto (tgt := 35) dX11_moves_84 (by decide) ?_
          exact ih (i + 1) _ (by omega) ⟨by omega, hQ⟩
        · have hb_60 := bz_f h_60
          rw [hin] at hb_60
          rw [if_pos (show cmv xs b i from Or.inl ⟨h_48, hb_60.2⟩)] at hQ
          refine rj_goto (tgt := 78) dX11_moves_63 (by decide) ?_
          refine rj_iinc4 (d := 1) dX11_moves_78 (by decide) rfl (by decide) ?_
          refine rj_iinc5 (d := 1) dX11_moves_81 (by decide) rfl (by decide) ?_
          rw [nI_1]
          refine rj_goto (tgt := 35) dX11_moves_84 (by decide) ?_
          exact ih (i + 1) _ (by omega) ⟨by omega, hQ⟩

set_option maxRecDepth 100000 in
theorem c_X11_moves {l : Launch} {X : CX} {σ : ST} {fb : Nat} {A : SA} (hC : CR σ fb A) (hw : wf A) {t b : Int32} : MJ l X 3 yX11_moves cX11_moves 6 (some .int) [.ref (ad X 0), .int t, .int b] σ (OP σ (F_moves A t b)) := by
  refine MJ_of (own := RX11) [some (.ref (ad X 0)), some (.int t), some (.int b), none, none, none] (by decide) rfl (Nat.le_of_ble_eq_true rfl) rfl ?_
  have hk := cr_k hC
  have hF := hC.2.2.2.2.1
  have e1 : (1 : Int32).toInt = 1 := by decide
  refine rj_ald0 dX11_moves_0 rfl ?_
  refine g11_76 dX11_moves_1 ?_
  rw [cr_f hC]
  refine rj_ild1 dX11_moves_4 rfl ?_
  refine rj_V1 (ci := 1) cX11_112 rfl (by decide) (by first | assumption | rfl) dX11_moves_5 (c_X1_tieAt (cr_k hC) hC.2.2.2.2.1) (fitM (by decide) (by decide)) (Nat.le_of_ble_eq_true rfl) ?_
  rintro v υj ⟨hυj, ⟨j, hvj, hjj, rfl⟩ | ⟨hnj, rfl⟩⟩
  · rw [hυj]
    simp only [Option.toList, List.cons_append, List.nil_append]
    have hj8j : j < 8 := Nat.lt_of_lt_of_le hjj hC.2.2.2.2.1.2.2.2.1
    have hktj := (fair_next (cr_k hC)).2.2 j hj8j
    obtain ⟨hkrj, hkaj, hlnj⟩ := tie_next hktj
    have htij : Ti _ (tk fb j) (fT A j).1 (fT A j).2 := fr_tie hC.2.2.2.2.1 hjj
    have hxj : Rw _ (tk fb j + 1) (fT A j).2 := htij.2
    refine rj_ast3 dX11_moves_8 (by decide) rfl ?_
    refine rj_ald3 dX11_moves_9 rfl ?_
    refine rj_nu_ref dX11_moves_10 ?_
    refine rj_ild2 dX11_moves_13 rfl ?_
    refine rj_if_lt (tgt := 22) dX11_moves_14 (by decide) (fun h_14 => ?_) (fun h_14 => ?_)
    · refine rj_ald0 dX11_moves_22 rfl ?_
      refine rj_ldc kX11_87 dX11_moves_23 ?_
      refine rj_V1 (ci := 11) cX11_88 rfl (by decide) rfl dX11_moves_25 (c_X11_found (i := 0) hC (by decide) (by decide)) (fitM (by decide) (by decide)) (Nat.le_of_ble_eq_true rfl) ?_
      rintro v υq ⟨rfl, hq⟩
      simp only [Option.toList, List.cons_append, List.nil_append]
      refine rj_iret dX11_moves_28 ?_
      have e : F_moves A t b = fnd A 0 := by unfold F_moves; rw [wT_in hvj hjj, if_pos (by omega)]
      rw [e]
      exact ⟨rfl, hq⟩
    · refine rj_ild2 dX11_moves_17 rfl ?_
      refine rj_ic1 dX11_moves_18 ?_
      refine rj_ic_le (tgt := 29) dX11_moves_19 (by decide) (fun h_19 => ?_) (fun h_19 => ?_)
      · refine rj_ic0 dX11_moves_29 ?_
        refine rj_ist4w dX11_moves_30 (by decide) rfl ?_
        refine rj_ic0 dX11_moves_32 ?_
        refine rj_ist5w dX11_moves_33 (by decide) rfl ?_
        have e : F_moves A t b = (mvR (fT A j).2 b (fT A j).2.length 0 0, A) := by unfold F_moves; rw [wT_in hvj hjj, if_neg (by omega)]
        exact l_X11_moves (by decide) hktj hxj ((fT A j).2.length + 1) 0 0 (by omega) ⟨by omega, by rw [e]; exact ⟨rfl, cr_same hC⟩⟩
      · refine rj_ald0 dX11_moves_22 rfl ?_
        refine rj_ldc kX11_87 dX11_moves_23 ?_
        refine rj_V1 (ci := 11) cX11_88 rfl (by decide) rfl dX11_moves_25 (c_X11_found (i := 0) hC (by decide) (by decide)) (fitM (by decide) (by decide)) (Nat.le_of_ble_eq_true rfl) ?_
        rintro v υq ⟨rfl, hq⟩
        simp only [Option.toList, List.cons_append, List.nil_append]
        refine rj_iret dX11_moves_28 ?_
        have e : F_moves A t b = fnd A 0 := by unfold F_moves; rw [wT_in hvj hjj, if_pos (by omega)]
        rw [e]
        exact ⟨rfl, hq⟩
  · rw [hυj]
    simp only [Option.toList, List.cons_append, List.nil_append]
    refine rj_nst3 dX11_moves_8 (by decide) rfl ?_
    refine rj_ald3N dX11_moves_9 rfl ?_
    refine rj_nu_null (tgt := 22) dX11_moves_10 (by decide) ?_
    refine rj_ald0 dX11_moves_22 rfl ?_
    refine rj_ldc kX11_87 dX11_moves_23 ?_
    refine rj_V1 (ci := 11) cX11_88 rfl (by decide) rfl dX11_moves_25 (c_X11_found (i := 0) hC (by decide) (by decide)) (fitM (by decide) (by decide)) (Nat.le_of_ble_eq_true rfl) ?_
    rintro v υq ⟨rfl, hq⟩
    simp only [Option.toList, List.cons_append, List.nil_append]
    refine rj_iret dX11_moves_28 ?_
    have e : F_moves A t b = fnd A 0 := by unfold F_moves; rw [wT_out hnj]
    rw [e]
    exact ⟨rfl, hq⟩

def whR (xs : List Int32) : Nat → Nat → Option Nat
  | 0, _ => none
  | n + 1, i => if (red (xs.set i (-(xs.getD i 0)))).length = 0 then some i else whR xs n (i + 1)
def oF (A : SA) (o : Option Nat) : Int32 × SA := match o with
  | none => fnd A 3
  | some i => (nI i, A)
def F_which (A : SA) (t : Int32) : Int32 × SA := wT A t fun j => oF A (whR (fT A j).2 (fT A j).2.length 0)
set_option maxRecDepth 100000 in
theorem l_X11_which {l : Launch} {X : CX} {h : Nat} {Q : Option Value → ST → Prop} {σ : ST} {fb j : Nat} {t : Int32} {A : SA} (hh : 3 ≤ h) (hj : j < A.2.1.2.2.length) {r : Int32 × SA} (hQ : ∀ v τ, OP σ r v τ → Q v τ) : ∀ (N i : Nat) (τ : ST), (fT A j).2.length < i + N → (i ≤ (fT A j).2.length ∧ CR τ fb A ∧ off sysP σ τ ∧ oF A (whR (fT A j).2 ((fT A j).2.length - i) i) = r) → RJ (GM l X h Q) X cX11_which 4 (some .int) RX11 22 [some (.ref (ad X 0)), some (.int t), some (.ref (ad X (tk fb j))), some (.int (nI i))] [] τ := by
  intro N
  induction N with
  | zero => intro i τ hN hi; have := hi.1; exact absurd hN (by omega)
  | succ N ih =>
    intro i τ hN hi
    obtain ⟨hi, hC, ho, hr⟩ := hi
    have hkt := (fair_next (cr_k hC)).2.2 j (Nat.lt_of_lt_of_le hj hC.2.2.2.2.1.2.2.2.1)
    have hti : Ti _ (tk fb j) (fT A j).1 (fT A j).2 := fr_tie hC.2.2.2.2.1 hj
    have hk := cr_k hC
    have hF := hC.2.2.2.2.1
    obtain ⟨hkr, hka, hln⟩ := tie_next hkt
    have hx : Rw _ (tk fb j + 1) (fT A j).2 := hti.2
    have hsm := hx.small hkr
    have hs := hx.1
    have h12 := hti.len hkt
    have hit : (nI i).toInt = i := nI_t (by omega)
    refine rj_ild3 dX11_which_22 rfl ?_
    refine rj_ald2 dX11_which_23 rfl ?_
    refine g11_120 (by first | assumption | rfl) dX11_which_24 ?_
    refine g11_129 (by first | assumption | rfl) dX11_which_27 ?_
    refine rj_ic_ge (tgt := 77) dX11_which_30 (by decide) (fun h_30 => ?_) (fun h_30 => ?_)
    · refine rj_ald0 dX11_which_77 rfl ?_
      refine rj_ldc kX11_132 dX11_which_78 ?_
      refine rj_V1 (ci := 11) cX11_88 rfl (by decide) rfl dX11_which_80 (c_X11_found (i := 3) hC (by decide) (by decide)) (fitM (by omega) (by decide)) (Nat.le_of_ble_eq_true rfl) ?_
      rintro v υq ⟨rfl, hq⟩
      simp only [Option.toList, List.cons_append, List.nil_append]
      refine rj_iret dX11_which_83 ?_
      rw [show (fT A j).2.length - i = 0 by omega] at hr
      subst hr
      exact hQ _ _ (OP.tr ⟨rfl, hq⟩ ho)
    · rw [show (fT A j).2.length - i = ((fT A j).2.length - (i + 1)) + 1 by omega] at hr
      unfold whR at hr
      refine rj_ald0 dX11_which_33 rfl ?_
      refine g11_38 dX11_which_34 ?_
      refine rj_ald2 dX11_which_37 rfl ?_
      refine g11_120 (by first | assumption | rfl) dX11_which_38 ?_
      refine rj_V1 (ci := 2) cX11_161 rfl (by decide) (by first | assumption | rfl) dX11_which_41 (c_X2_take (k := 33) rfl hkr hx (by show _ ≤ 24; omega)) (fitM (by omega) (by decide)) (Nat.le_of_ble_eq_true rfl) ?_
      rintro v υ ⟨rfl, hx1, ho1⟩
      simp only [Option.toList, List.nil_append]
      refine rj_ald0 dX11_which_44 rfl ?_
      refine g11_38 dX11_which_45 ?_
      refine rj_ild3 dX11_which_48 rfl ?_
      refine rj_V1 (ci := 2) cX11_142 rfl (by decide) (by first | assumption | rfl) dX11_which_49 (c_X2_negateL (k := 33) (j := i) rfl hx1 hit (by omega)) (fitM (by omega) (by decide)) (Nat.le_of_ble_eq_true rfl) ?_
      rintro v φ ⟨rfl, hx2, ho2⟩
      simp only [Option.toList, List.nil_append]
      refine rj_ald0 dX11_which_52 rfl ?_
      refine g11_38 dX11_which_53 ?_
      refine rj_V0 (ci := 2) cX11_165 rfl (by decide) (by first | assumption | rfl) dX11_which_56 (c_X2_tighten (k := 33) rfl hx2) (fitM (by omega) (by decide)) (Nat.le_of_ble_eq_true rfl) ?_
      rintro v ψ ⟨rfl, hx3, ho3⟩
      simp only [Option.toList, List.nil_append]
      have hC1 := cr_row hC (Or.inl rfl) hx3 ((ho1.tr ho2).tr ho3)
      have hs3 := hx3.1
      refine rj_ald0 dX11_which_59 rfl ?_
      refine g11_38 dX11_which_60 ?_
      refine g11_129 (by first | assumption | rfl) dX11_which_63 ?_
      refine rj_if_ne (tgt := 71) dX11_which_66 (by decide) (fun h_66 => ?_) (fun h_66 => ?_)
      · have hz : ¬ (red ((fT A j).2.set i (-((fT A j).2.getD i 0)))).length = 0 := fun z => h_66 (by rw [hx3.size, z]; rfl)
        rw [if_neg hz] at hr
        refine rj_iinc3 (d := 1) dX11_which_71 (by decide) rfl (by decide) ?_
        rw [nI_1]
        refine rj_goto (tgt := 22) dX11_which_74 (by decide) ?_
        exact ih (i + 1) _ (by omega) ⟨by omega, hC1.1, ho.tr hC1.2, hr⟩
      · have hz : (red ((fT A j).2.set i (-((fT A j).2.getD i 0)))).length = 0 := by rw [h_66, t0] at hs3; omega
        rw [if_pos hz] at hr
        refine rj_ild3 dX11_which_69 rfl ?_
        refine rj_iret dX11_which_70 ?_
        subst hr
        exact hQ _ _ ⟨rfl, ⟨fb, hC1.1⟩, ho.tr hC1.2⟩

set_option maxRecDepth 100000 in
theorem c_X11_which {l : Launch} {X : CX} {σ : ST} {fb : Nat} {A : SA} (hC : CR σ fb A) (hw : wf A) {t : Int32} : MJ l X 3 yX11_which cX11_which 4 (some .int) [.ref (ad X 0), .int t] σ (OP σ (F_which A t)) := by
  refine MJ_of (own := RX11) [some (.ref (ad X 0)), some (.int t), none, none] (by decide) rfl (Nat.le_of_ble_eq_true rfl) rfl ?_
  have hk := cr_k hC
  have hF := hC.2.2.2.2.1
  refine rj_ald0 dX11_which_0 rfl ?_
  refine g11_76 dX11_which_1 ?_
  rw [cr_f hC]
  refine rj_ild1 dX11_which_4 rfl ?_
  refine rj_V1 (ci := 1) cX11_112 rfl (by decide) (by first | assumption | rfl) dX11_which_5 (c_X1_tieAt (cr_k hC) hC.2.2.2.2.1) (fitM (by decide) (by decide)) (Nat.le_of_ble_eq_true rfl) ?_
  rintro v υj ⟨hυj, ⟨j, hvj, hjj, rfl⟩ | ⟨hnj, rfl⟩⟩
  · rw [hυj]
    simp only [Option.toList, List.cons_append, List.nil_append]
    have hj8j : j < 8 := Nat.lt_of_lt_of_le hjj hC.2.2.2.2.1.2.2.2.1
    have hktj := (fair_next (cr_k hC)).2.2 j hj8j
    obtain ⟨hkrj, hkaj, hlnj⟩ := tie_next hktj
    have htij : Ti _ (tk fb j) (fT A j).1 (fT A j).2 := fr_tie hC.2.2.2.2.1 hjj
    have hxj : Rw _ (tk fb j + 1) (fT A j).2 := htij.2
    refine rj_ast2 dX11_which_8 (by decide) rfl ?_
    refine rj_ald2 dX11_which_9 rfl ?_
    refine rj_nn_ref (tgt := 20) dX11_which_10 (by decide) ?_
    refine rj_ic0 dX11_which_20 ?_
    refine rj_ist3 dX11_which_21 (by decide) rfl ?_
    have e : F_which A t = oF A (whR (fT A j).2 (fT A j).2.length 0) := by unfold F_which; rw [wT_in hvj hjj]
    exact l_X11_which (by decide) hjj (fun v τ h => h) ((fT A j).2.length + 1) 0 _ (by omega) ⟨by omega, hC, off.rf, e.symm⟩
  · rw [hυj]
    simp only [Option.toList, List.cons_append, List.nil_append]
    refine rj_nst2 dX11_which_8 (by decide) rfl ?_
    refine rj_ald2N dX11_which_9 rfl ?_
    refine rj_nn_null dX11_which_10 ?_
    refine rj_ald0 dX11_which_13 rfl ?_
    refine rj_ldc kX11_87 dX11_which_14 ?_
    refine rj_V1 (ci := 11) cX11_88 rfl (by decide) rfl dX11_which_16 (c_X11_found (i := 0) hC (by decide) (by decide)) (fitM (by decide) (by decide)) (Nat.le_of_ble_eq_true rfl) ?_
    rintro v υq ⟨rfl, hq⟩
    simp only [Option.toList, List.cons_append, List.nil_append]
    refine rj_iret dX11_which_19 ?_
    have e : F_which A t = fnd A 0 := by unfold F_which; rw [wT_out hnj]
    rw [e]
    exact ⟨rfl, hq⟩

def shR (A : SA) (j : Nat) : Nat → Nat → Int32 × SA
  | 0, _ => fnd A 3
  | n + 1, i => if colN A j (cnL.getD i 0) = pwr (cnL.getD i 0) A.2.1.1.toInt.toNat then shR A j n (i + 1) else (cnL.getD i 0, A)
def F_shows (A : SA) (t : Int32) : Int32 × SA := wT A t fun j => shR A j 3 0
set_option maxRecDepth 100000 in
theorem l_X11_shows {l : Launch} {X : CX} {h : Nat} {Q : Option Value → ST → Prop} {σ : ST} {fb j : Nat} {t : Int32} {A : SA} (hh : 6 ≤ h) (hw : wf A) (hj : j < A.2.1.2.2.length) {r : Int32 × SA} (hQ : ∀ v τ, OP σ r v τ → Q v τ) : ∀ (N i : Nat) (τ : ST) (v6 : Option Value), 3 < i + N → (i ≤ 3 ∧ CR τ fb A ∧ off sysP σ τ ∧ shR A j (3 - i) i = r) → RJ (GM l X h Q) X cX11_shows 7 (some .int) RX11 31 [some (.ref (ad X 0)), some (.int t), some (.ref (ad X (tk fb j))), some (.ref (X.2.2.2 1)), some (.int 3), some (.int (nI i)), v6] [] τ := by
  intro N
  induction N with
  | zero => intro i τ v6 hN hi; have := hi.1; exact absurd hN (by omega)
  | succ N ih =>
    intro i τ v6 hN hi
    obtain ⟨hi, hC, ho, hr⟩ := hi
    have hk := cr_k hC
    have h3 : (3 : Int32).toInt = 3 := by decide
    have hit : (nI i).toInt = i := nI_t (by omega)
    refine rj_ild dX11_shows_31 rfl ?_
    refine rj_ild dX11_shows_33 rfl ?_
    refine rj_ic_ge (tgt := 75) dX11_shows_35 (by decide) (fun h_35 => ?_) (fun h_35 => ?_)
    · refine rj_ald0 dX11_shows_75 rfl ?_
      refine rj_ldc kX11_132 dX11_shows_76 ?_
      refine rj_V1 (ci := 11) cX11_88 rfl (by decide) rfl dX11_shows_78 (c_X11_found (i := 3) hC (by decide) (by decide)) (fitM (by omega) (by decide)) (Nat.le_of_ble_eq_true rfl) ?_
      rintro v υq ⟨rfl, hq⟩
      simp only [Option.toList, List.cons_append, List.nil_append]
      refine rj_iret dX11_shows_81 ?_
      rw [show 3 - i = 0 by omega] at hr
      subst hr
      exact hQ _ _ (OP.tr ⟨rfl, hq⟩ ho)
    · rw [show 3 - i = (3 - (i + 1)) + 1 by omega] at hr
      unfold shR at hr
      refine rj_ald3 dX11_shows_38 rfl ?_
      refine rj_ild dX11_shows_39 rfl ?_
      refine rj_ldCN (vpi (by omega) (by omega)) dX11_shows_41 ?_
      rw [nI_clamp (by omega)]
      refine rj_ist6w dX11_shows_42 (by decide) rfl ?_
      refine rj_ald0 dX11_shows_44 rfl ?_
      refine rj_ald2 dX11_shows_45 rfl ?_
      refine rj_ild dX11_shows_46 rfl ?_
      refine rj_V2 (ci := 11) cX11_214 rfl (by decide) (by first | assumption | rfl) dX11_shows_48 (c_X11_coloursOf hC hj hw (cn_in (cn_i i (by omega)))) (fitM (by omega) (by decide)) (Nat.le_of_ble_eq_true rfl) ?_
      rintro v υ ⟨r2, rfl, rfl, hC1, ho1⟩
      simp only [Option.toList, List.cons_append, List.nil_append]
      have ho2 := ho.tr (ho1.mono of_co)
      refine rj_ild dX11_shows_51 rfl ?_
      refine rj_ald0 dX11_shows_53 rfl ?_
      refine g11_76 dX11_shows_54 ?_
      rw [cr_f hC1]
      refine g11_97 (by first | assumption | rfl) dX11_shows_57 ?_
      rw [hC1.2.2.2.2.1.2.1]
      refine rj_S2i cX11_221 dX11_shows_60 c_X11_power (fitM (by omega) (by decide)) (Nat.le_of_ble_eq_true rfl) ?_
      refine rj_ic_eq (tgt := 69) dX11_shows_63 (by decide) (fun h_63 => ?_) (fun h_63 => ?_)
      · rw [if_pos h_63] at hr
        refine rj_iinc5 (d := 1) dX11_shows_69 (by decide) rfl (by decide) ?_
        rw [nI_1]
        refine rj_goto (tgt := 31) dX11_shows_72 (by decide) ?_
        exact ih (i + 1) _ _ (by omega) ⟨by omega, hC1, ho2, hr⟩
      · rw [if_neg h_63] at hr
        refine rj_ild dX11_shows_66 rfl ?_
        refine rj_iret dX11_shows_68 ?_
        subst hr
        exact hQ _ _ ⟨rfl, ⟨fb, hC1⟩, ho2⟩

set_option maxRecDepth 100000 in
theorem c_X11_shows {l : Launch} {X : CX} {σ : ST} {fb : Nat} {A : SA} (hC : CR σ fb A) (hw : wf A) {t : Int32} : MJ l X 6 yX11_shows cX11_shows 7 (some .int) [.ref (ad X 0), .int t] σ (OP σ (F_shows A t)) := by
  refine MJ_of (own := RX11) [some (.ref (ad X 0)), some (.int t), none, none, none, none, none] (by decide) rfl (Nat.le_of_ble_eq_true rfl) rfl ?_
  have hk := cr_k hC
  have hF := hC.2.2.2.2.1
  refine rj_ald0 dX11_shows_0 rfl ?_
  refine g11_76 dX11_shows_1 ?_
  rw [cr_f hC]
  refine rj_ild1 dX11_shows_4 rfl ?_
  refine rj_V1 (ci := 1) cX11_112 rfl (by decide) (by first | assumption | rfl) dX11_shows_5 (c_X1_tieAt (cr_k hC) hC.2.2.2.2.1) (fitM (by decide) (by decide)) (Nat.le_of_ble_eq_true rfl) ?_
  rintro v υj ⟨hυj, ⟨j, hvj, hjj, rfl⟩ | ⟨hnj, rfl⟩⟩
  · rw [hυj]
    simp only [Option.toList, List.cons_append, List.nil_append]
    have hj8j : j < 8 := Nat.lt_of_lt_of_le hjj hC.2.2.2.2.1.2.2.2.1
    have hktj := (fair_next (cr_k hC)).2.2 j hj8j
    obtain ⟨hkrj, hkaj, hlnj⟩ := tie_next hktj
    have htij : Ti _ (tk fb j) (fT A j).1 (fT A j).2 := fr_tie hC.2.2.2.2.1 hjj
    have hxj : Rw _ (tk fb j + 1) (fT A j).2 := htij.2
    refine rj_ast2 dX11_shows_8 (by decide) rfl ?_
    refine rj_ald2 dX11_shows_9 rfl ?_
    refine rj_nn_ref (tgt := 20) dX11_shows_10 (by decide) ?_
    refine rj_getCN sX11_218 dX11_shows_20 ?_
    refine rj_ast3 dX11_shows_23 (by decide) rfl ?_
    refine rj_ald3 dX11_shows_24 rfl ?_
    refine rj_lenCN dX11_shows_25 ?_
    refine rj_ist4w dX11_shows_26 (by decide) rfl ?_
    refine rj_ic0 dX11_shows_28 ?_
    refine rj_ist5w dX11_shows_29 (by decide) rfl ?_
    have e : F_shows A t = shR A j 3 0 := by unfold F_shows; rw [wT_in hvj hjj]
    exact l_X11_shows (by decide) hw hjj (fun v τ h => h) 4 0 _ _ (by omega) ⟨by omega, hC, off.rf, e.symm⟩
  · rw [hυj]
    simp only [Option.toList, List.cons_append, List.nil_append]
    refine rj_nst2 dX11_shows_8 (by decide) rfl ?_
    refine rj_ald2N dX11_shows_9 rfl ?_
    refine rj_nn_null dX11_shows_10 ?_
    refine rj_ald0 dX11_shows_13 rfl ?_
    refine rj_ldc kX11_87 dX11_shows_14 ?_
    refine rj_V1 (ci := 11) cX11_88 rfl (by decide) rfl dX11_shows_16 (c_X11_found (i := 0) hC (by decide) (by decide)) (fitM (by decide) (by decide)) (Nat.le_of_ble_eq_true rfl) ?_
    rintro v υq ⟨rfl, hq⟩
    simp only [Option.toList, List.cons_append, List.nil_append]
    refine rj_iret dX11_shows_19 ?_
    have e : F_shows A t = fnd A 0 := by unfold F_shows; rw [wT_out hnj]
    rw [e]
    exact ⟨rfl, hq⟩

def apR (A : SA) (j i : Nat) : Nat → Nat → Int32 × SA
  | 0, _ => (0, A)
  | n + 1, q => if colN A j (cnL.getD q 0) = colN A i (cnL.getD q 0) then apR A j i n (q + 1) else (3, A)
def F_apart (A : SA) (t o : Int32) : Int32 × SA := wT A t fun j => wT A o fun i => if endsAsInA (lyA A j) (lyA A i) then (if linksAsInA (lyA A j) (lyA A i) then apR A j i 3 0 else (2, A)) else (1, A)
set_option maxRecDepth 100000 in
theorem l_X11_apart {l : Launch} {X : CX} {h : Nat} {Q : Option Value → ST → Prop} {σ : ST} {fb j i : Nat} {t o : Int32} {A : SA} (hh : 6 ≤ h) (hw : wf A) (hj : j < A.2.1.2.2.length) (hi2 : i < A.2.1.2.2.length) {r : Int32 × SA} (hQ : ∀ v τ, OP σ r v τ → Q v τ) : ∀ (N q : Nat) (τ : ST) (v8 : Option Value), 3 < q + N → (q ≤ 3 ∧ CR τ fb A ∧ off sysP σ τ ∧ apR A j i (3 - q) q = r) → RJ (GM l X h Q) X cX11_apart 9 (some .int) RX11 99 [some (.ref (ad X 0)), some (.int t), some (.int o), some (.ref (ad X (tk fb j))), some (.ref (ad X (tk fb i))), some (.ref (X.2.2.2 1)), some (.int 3), some (.int (nI q)), v8] [] τ := by
  intro N
  induction N with
  | zero => intro q τ v8 hN hi; have := hi.1; exact absurd hN (by omega)
  | succ N ih =>
    intro q τ v8 hN hi
    obtain ⟨hi, hC, ho, hr⟩ := hi
    have hk := cr_k hC
    have h3 : (3 : Int32).toInt = 3 := by decide
    have hit : (nI q).toInt = q := nI_t (by omega)
    refine rj_ild dX11_apart_99 rfl ?_
    refine rj_ild dX11_apart_101 rfl ?_
    refine rj_ic_ge (tgt := 139) dX11_apart_103 (by decide) (fun h_103 => ?_) (fun h_103 => ?_)
    · refine rj_ic0 dX11_apart_139 ?_
      refine rj_iret dX11_apart_140 ?_
      rw [show 3 - q = 0 by omega] at hr
      subst hr
      exact hQ _ _ ⟨rfl, ⟨fb, hC⟩, ho⟩
    · rw [show 3 - q = (3 - (q + 1)) + 1 by omega] at hr
      unfold apR at hr
      refine rj_ald dX11_apart_106 rfl ?_
      refine rj_ild dX11_apart_108 rfl ?_
      refine rj_ldCN (vpi (by omega) (by omega)) dX11_apart_110 ?_
      rw [nI_clamp (by omega)]
      refine rj_ist8w dX11_apart_111 (by decide) rfl ?_
      refine rj_ald0 dX11_apart_113 rfl ?_
      refine rj_ald3 dX11_apart_114 rfl ?_
      refine rj_ild dX11_apart_115 rfl ?_
      refine rj_V2 (ci := 11) cX11_214 rfl (by decide) (by first | assumption | rfl) dX11_apart_117 (c_X11_coloursOf hC hj hw (cn_in (cn_i q (by omega)))) (fitM (by omega) (by decide)) (Nat.le_of_ble_eq_true rfl) ?_
      rintro v υ ⟨r2, rfl, rfl, hC1, ho1⟩
      simp only [Option.toList, List.cons_append, List.nil_append]
      refine rj_ald0 dX11_apart_120 rfl ?_
      refine rj_ald dX11_apart_121 rfl ?_
      refine rj_ild dX11_apart_123 rfl ?_
      refine rj_V2 (ci := 11) cX11_214 rfl (by decide) (by first | assumption | rfl) dX11_apart_125 (c_X11_coloursOf hC1 hi2 hw (cn_in (cn_i q (by omega)))) (fitM (by omega) (by decide)) (Nat.le_of_ble_eq_true rfl) ?_
      rintro v φ ⟨r2, rfl, rfl, hC2, ho2⟩
      simp only [Option.toList, List.cons_append, List.nil_append]
      have ho3 := (ho.tr (ho1.mono of_co)).tr (ho2.mono of_co)
      refine rj_ic_eq (tgt := 133) dX11_apart_128 (by decide) (fun h_128 => ?_) (fun h_128 => ?_)
      · rw [if_pos h_128] at hr
        refine rj_iinc7 (d := 1) dX11_apart_133 (by decide) rfl (by decide) ?_
        rw [nI_1]
        refine rj_goto (tgt := 99) dX11_apart_136 (by decide) ?_
        exact ih (q + 1) _ _ (by omega) ⟨by omega, hC2, ho3, hr⟩
      · rw [if_neg h_128] at hr
        refine rj_ic3 dX11_apart_131 ?_
        refine rj_iret dX11_apart_132 ?_
        subst hr
        exact hQ _ _ ⟨rfl, ⟨fb, hC2⟩, ho3⟩

set_option maxRecDepth 100000 in
theorem c_X11_apart {l : Launch} {X : CX} {σ : ST} {fb : Nat} {A : SA} (hC : CR σ fb A) (hw : wf A) {t o : Int32} : MJ l X 6 yX11_apart cX11_apart 9 (some .int) [.ref (ad X 0), .int t, .int o] σ (OP σ (F_apart A t o)) := by
  refine MJ_of (own := RX11) [some (.ref (ad X 0)), some (.int t), some (.int o), none, none, none, none, none, none] (by decide) rfl (Nat.le_of_ble_eq_true rfl) rfl ?_
  have hk := cr_k hC
  have hF := hC.2.2.2.2.1
  refine rj_ald0 dX11_apart_0 rfl ?_
  refine g11_76 dX11_apart_1 ?_
  rw [cr_f hC]
  refine rj_ild1 dX11_apart_4 rfl ?_
  refine rj_V1 (ci := 1) cX11_112 rfl (by decide) (by first | assumption | rfl) dX11_apart_5 (c_X1_tieAt (cr_k hC) hC.2.2.2.2.1) (fitM (by decide) (by decide)) (Nat.le_of_ble_eq_true rfl) ?_
  rintro v υj ⟨hυj, ⟨j, hvj, hjj, rfl⟩ | ⟨hnj, rfl⟩⟩
  · rw [hυj]
    simp only [Option.toList, List.cons_append, List.nil_append]
    have hj8j : j < 8 := Nat.lt_of_lt_of_le hjj hC.2.2.2.2.1.2.2.2.1
    have hktj := (fair_next (cr_k hC)).2.2 j hj8j
    obtain ⟨hkrj, hkaj, hlnj⟩ := tie_next hktj
    have htij : Ti _ (tk fb j) (fT A j).1 (fT A j).2 := fr_tie hC.2.2.2.2.1 hjj
    have hxj : Rw _ (tk fb j + 1) (fT A j).2 := htij.2
    refine rj_ast3 dX11_apart_8 (by decide) rfl ?_
    refine rj_ald0 dX11_apart_9 rfl ?_
    refine g11_76 dX11_apart_10 ?_
    rw [cr_f hC]
    refine rj_ild2 dX11_apart_13 rfl ?_
    refine rj_V1 (ci := 1) cX11_112 rfl (by decide) (by first | assumption | rfl) dX11_apart_14 (c_X1_tieAt (cr_k hC) hC.2.2.2.2.1) (fitM (by decide) (by decide)) (Nat.le_of_ble_eq_true rfl) ?_
    rintro v υi ⟨hυi, ⟨i, hvi, hji, rfl⟩ | ⟨hni, rfl⟩⟩
    · rw [hυi]
      simp only [Option.toList, List.cons_append, List.nil_append]
      have hj8i : i < 8 := Nat.lt_of_lt_of_le hji hC.2.2.2.2.1.2.2.2.1
      have hkti := (fair_next (cr_k hC)).2.2 i hj8i
      obtain ⟨hkri, hkai, hlni⟩ := tie_next hkti
      have htii : Ti _ (tk fb i) (fT A i).1 (fT A i).2 := fr_tie hC.2.2.2.2.1 hji
      have hxi : Rw _ (tk fb i + 1) (fT A i).2 := htii.2
      refine rj_ast4w dX11_apart_17 (by decide) rfl ?_
      refine rj_ald3 dX11_apart_19 rfl ?_
      refine rj_nu_ref dX11_apart_20 ?_
      refine rj_ald dX11_apart_23 rfl ?_
      refine rj_nn_ref (tgt := 35) dX11_apart_25 (by decide) ?_
      refine rj_ald0 dX11_apart_35 rfl ?_
      refine rj_ald3 dX11_apart_36 rfl ?_
      refine rj_ald0 dX11_apart_37 rfl ?_
      refine g11_48 dX11_apart_38 ?_
      refine rj_V2 (ci := 11) cX11_191 rfl (by decide) (by first | assumption | rfl) dX11_apart_41 (c_X11_follow hC hjj hw (k := 37) (Or.inl rfl)) (fitM (by decide) (by decide)) (Nat.le_of_ble_eq_true rfl) ?_
      rintro v τ ⟨rfl, hC1, hS1, ho1⟩
      simp only [Option.toList, List.nil_append]
      refine rj_ald0 dX11_apart_44 rfl ?_
      refine rj_ald dX11_apart_45 rfl ?_
      refine rj_ald0 dX11_apart_47 rfl ?_
      refine g11_52 dX11_apart_48 ?_
      refine rj_V2 (ci := 11) cX11_191 rfl (by decide) (by first | assumption | rfl) dX11_apart_51 (c_X11_follow hC1 hji hw (k := 40) (Or.inr rfl)) (fitM (by decide) (by decide)) (Nat.le_of_ble_eq_true rfl) ?_
      rintro v υ ⟨rfl, hC2, hS2, ho2⟩
      simp only [Option.toList, List.nil_append]
      have hS3 := hS1.off ho2 (fun a ha hb => by unfold foP rowC sdC at ha; unfold sdC at hb; omega)
      have ho3 := (ho1.mono (of_fo (Or.inl rfl))).tr (ho2.mono (of_fo (Or.inr rfl)))
      refine rj_ald0 dX11_apart_54 rfl ?_
      refine g11_48 dX11_apart_55 ?_
      refine rj_ald0 dX11_apart_58 rfl ?_
      refine g11_52 dX11_apart_59 ?_
      refine rj_V1i (ci := 5) cX11_224 rfl (by decide) (by first | assumption | rfl) dX11_apart_62 (c_X5_endsAsIn rfl rfl hS3 hS2) (fitM (by decide) (by decide)) (Nat.le_of_ble_eq_true rfl) ?_
      refine rj_if_ne (tgt := 70) dX11_apart_65 (by decide) (fun h_65 => ?_) (fun h_65 => ?_)
      · have hb_65 := bz_f h_65
        refine rj_ald0 dX11_apart_70 rfl ?_
        refine g11_48 dX11_apart_71 ?_
        refine rj_ald0 dX11_apart_74 rfl ?_
        refine g11_52 dX11_apart_75 ?_
        refine rj_V1i (ci := 5) cX11_228 rfl (by decide) (by first | assumption | rfl) dX11_apart_78 (c_X5_linksAsIn rfl rfl hS3 hS2) (fitM (by decide) (by decide)) (Nat.le_of_ble_eq_true rfl) ?_
        refine rj_if_ne (tgt := 86) dX11_apart_81 (by decide) (fun h_81 => ?_) (fun h_81 => ?_)
        · have hb_81 := bz_f h_81
          refine rj_getCN sX11_218 dX11_apart_86 ?_
          refine rj_ast5w dX11_apart_89 (by decide) rfl ?_
          refine rj_ald dX11_apart_91 rfl ?_
          refine rj_lenCN dX11_apart_93 ?_
          refine rj_ist6w dX11_apart_94 (by decide) rfl ?_
          refine rj_ic0 dX11_apart_96 ?_
          refine rj_ist7w dX11_apart_97 (by decide) rfl ?_
          have e : F_apart A t o = apR A j i 3 0 := by unfold F_apart; rw [wT_in hvj hjj, wT_in hvi hji, if_pos hb_65, if_pos hb_81]
          exact l_X11_apart (by decide) hw hjj hji (fun v τ h => h) 4 0 _ _ (by omega) ⟨by omega, hC2, ho3, e.symm⟩
        · have hb_81 := bz_t h_81
          refine rj_ic2 dX11_apart_84 ?_
          refine rj_iret dX11_apart_85 ?_
          have e : F_apart A t o = (2, A) := by unfold F_apart; rw [wT_in hvj hjj, wT_in hvi hji, if_pos hb_65, if_neg hb_81]
          rw [e]
          exact ⟨rfl, ⟨fb, hC2⟩, ho3⟩
      · have hb_65 := bz_t h_65
        refine rj_ic1 dX11_apart_68 ?_
        refine rj_iret dX11_apart_69 ?_
        have e : F_apart A t o = (1, A) := by unfold F_apart; rw [wT_in hvj hjj, wT_in hvi hji, if_neg hb_65]
        rw [e]
        exact ⟨rfl, ⟨fb, hC2⟩, ho3⟩
    · rw [hυi]
      simp only [Option.toList, List.cons_append, List.nil_append]
      refine rj_nst4w dX11_apart_17 (by decide) rfl ?_
      refine rj_ald3 dX11_apart_19 rfl ?_
      refine rj_nu_ref dX11_apart_20 ?_
      refine rj_aldN dX11_apart_23 rfl ?_
      refine rj_nn_null dX11_apart_25 ?_
      refine rj_ald0 dX11_apart_28 rfl ?_
      refine rj_ldc kX11_87 dX11_apart_29 ?_
      refine rj_V1 (ci := 11) cX11_88 rfl (by decide) rfl dX11_apart_31 (c_X11_found (i := 0) hC (by decide) (by decide)) (fitM (by decide) (by decide)) (Nat.le_of_ble_eq_true rfl) ?_
      rintro v υq ⟨rfl, hq⟩
      simp only [Option.toList, List.cons_append, List.nil_append]
      refine rj_iret dX11_apart_34 ?_
      have e : F_apart A t o = fnd A 0 := by unfold F_apart; rw [wT_in hvj hjj, wT_out hni]
      rw [e]
      exact ⟨rfl, hq⟩
  · rw [hυj]
    simp only [Option.toList, List.cons_append, List.nil_append]
    refine rj_nst3 dX11_apart_8 (by decide) rfl ?_
    refine rj_ald0 dX11_apart_9 rfl ?_
    refine g11_76 dX11_apart_10 ?_
    rw [cr_f hC]
    refine rj_ild2 dX11_apart_13 rfl ?_
    refine rj_V1 (ci := 1) cX11_112 rfl (by decide) (by first | assumption | rfl) dX11_apart_14 (c_X1_tieAt (cr_k hC) hC.2.2.2.2.1) (fitM (by decide) (by decide)) (Nat.le_of_ble_eq_true rfl) ?_
    rintro v υi ⟨hυi, ⟨i, hvi, hji, rfl⟩ | ⟨hni, rfl⟩⟩
    · rw [hυi]
      simp only [Option.toList, List.cons_append, List.nil_append]
      have hj8i : i < 8 := Nat.lt_of_lt_of_le hji hC.2.2.2.2.1.2.2.2.1
      have hkti := (fair_next (cr_k hC)).2.2 i hj8i
      obtain ⟨hkri, hkai, hlni⟩ := tie_next hkti
      have htii : Ti _ (tk fb i) (fT A i).1 (fT A i).2 := fr_tie hC.2.2.2.2.1 hji
      have hxi : Rw _ (tk fb i + 1) (fT A i).2 := htii.2
      refine rj_ast4w dX11_apart_17 (by decide) rfl ?_
      refine rj_ald3N dX11_apart_19 rfl ?_
      refine rj_nu_null (tgt := 28) dX11_apart_20 (by decide) ?_
      refine rj_ald0 dX11_apart_28 rfl ?_
      refine rj_ldc kX11_87 dX11_apart_29 ?_
      refine rj_V1 (ci := 11) cX11_88 rfl (by decide) rfl dX11_apart_31 (c_X11_found (i := 0) hC (by decide) (by decide)) (fitM (by decide) (by decide)) (Nat.le_of_ble_eq_true rfl) ?_
      rintro v υq ⟨rfl, hq⟩
      simp only [Option.toList, List.cons_append, List.nil_append]
      refine rj_iret dX11_apart_34 ?_
      have e : F_apart A t o = fnd A 0 := by unfold F_apart; rw [wT_out hnj]
      rw [e]
      exact ⟨rfl, hq⟩
    · rw [hυi]
      simp only [Option.toList, List.cons_append, List.nil_append]
      refine rj_nst4w dX11_apart_17 (by decide) rfl ?_
      refine rj_ald3N dX11_apart_19 rfl ?_
      refine rj_nu_null (tgt := 28) dX11_apart_20 (by decide) ?_
      refine rj_ald0 dX11_apart_28 rfl ?_
      refine rj_ldc kX11_87 dX11_apart_29 ?_
      refine rj_V1 (ci := 11) cX11_88 rfl (by decide) rfl dX11_apart_31 (c_X11_found (i := 0) hC (by decide) (by decide)) (fitM (by decide) (by decide)) (Nat.le_of_ble_eq_true rfl) ?_
      rintro v υq ⟨rfl, hq⟩
      simp only [Option.toList, List.cons_append, List.nil_append]
      refine rj_iret dX11_apart_34 ?_
      have e : F_apart A t o = fnd A 0 := by unfold F_apart; rw [wT_out hnj]
      rw [e]
      exact ⟨rfl, hq⟩

