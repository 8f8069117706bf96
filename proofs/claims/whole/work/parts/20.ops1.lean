/-! the calls on ties -/
def wfT (rc : Int32) (t : TA) : Prop := 0 ≤ t.1.toInt ∧ t.1.toInt < 6 ∧ t.2.length ≤ 12 ∧ okL rc t.2
def wfF (F : FA) : Prop := 2 ≤ F.1.toInt ∧ F.1.toInt ≤ 4 ∧ F.2.2.length ≤ 8 ∧ ∀ t ∈ F.2.2, wfT F.1 t
def wf (A : SA) : Prop := wfF A.2.1 ∧ (∀ K, A.2.2.1 = some K → wfF K) ∧ (A.2.2.2.1.length ≤ 120 ∧ ∀ b ∈ A.2.2.2.1, 0 ≤ b.toInt ∧ b.toInt ≤ 255) ∧ ∀ s, s < 4 → ((A.2.2.2.2 s).1 = 0 ∨ (A.2.2.2.2 s).1 = 8 ∨ (A.2.2.2.2 s).1 = 16 ∨ (A.2.2.2.2 s).1 = 64) ∧ (A.2.2.2.2 s).2.length ≤ 40 ∧ ((A.2.2.2.2 s).1 = 0 → (A.2.2.2.2 s).2 = [])
abbrev fT (A : SA) (j : Nat) : TA := A.2.1.2.2.getD j t0A
theorem wf_t {A : SA} (h : wf A) {j : Nat} (hj : j < A.2.1.2.2.length) : wfT A.2.1.1 (fT A j) := by
  refine h.1.2.2.2 _ ?_
  show A.2.1.2.2.getD j t0A ∈ _
  rw [List.getD, List.getElem?_eq_getElem hj]
  exact List.getElem_mem hj
def sT (A : SA) (j : Nat) (t : TA) : SA := (A.1, (A.2.1.1, A.2.1.2.1, A.2.1.2.2.set j t), A.2.2)
def wT (A : SA) (t : Int32) (f : Nat → Int32 × SA) : Int32 × SA := if 0 ≤ t.toInt ∧ t.toInt < A.2.1.2.2.length then f t.toInt.toNat else fnd A 0
theorem wT_in {A : SA} {t : Int32} {j : Nat} {f : Nat → Int32 × SA} (h : t.toInt = j) (hj : j < A.2.1.2.2.length) : wT A t f = f j := by
  unfold wT; rw [if_pos (by omega), h]; rfl
theorem wT_out {A : SA} {t : Int32} {f : Nat → Int32 × SA} (h : ¬ (0 ≤ t.toInt ∧ t.toInt < A.2.1.2.2.length)) : wT A t f = fnd A 0 := if_neg h
theorem cr_trow {σ τ : ST} {fb j : Nat} {A : SA} {xs : List Int32} (h : CR σ fb A) (hj : j < A.2.1.2.2.length) (hx : Rw τ (tk fb j + 1) xs) (ho : off (rowC (tk fb j + 1)) σ τ) : CR τ fb (sT A j ((fT A j).1, xs)) ∧ off sysP σ τ := by
  have hu := fr_upd (kind := (fT A j).1) h.2.2.2.2.1 hj (ho.mono (fun a ha => ha.elim (fun q => Or.inr (Or.inl q)) (fun q => Or.inr (Or.inr q)))) (⟨by rw [(ho _ (by unfold rowC; omega)).1]; exact (fr_tie h.2.2.2.2.1 hj).1, hx⟩)
  exact cr_fair h hu.1 hu.2
theorem cr_kind {σ : ST} {fb j : Nat} {A : SA} {kind : Int32} (h : CR σ fb A) (hj : j < A.2.1.2.2.length) : CR (ui σ (tk fb j) 1 kind) fb (sT A j (kind, (fT A j).2)) ∧ off sysP σ (ui σ (tk fb j) 1 kind) := by
  have ho : off (fun a => a = tk fb j) σ (ui σ (tk fb j) 1 kind) := off.rf.ui rfl
  have hu := fr_upd (kind := kind) (xs := (fT A j).2) h.2.2.2.2.1 hj (ho.mono (fun a ha => Or.inl ha)) ⟨ui_same _ _ _ _, (fr_tie h.2.2.2.2.1 hj).2.off ho (by omega) (by omega)⟩
  exact cr_fair h hu.1 hu.2
theorem cr_same {σ : ST} {fb : Nat} {A : SA} (h : CR σ fb A) : (∃ fb, CR σ fb A) ∧ off sysP σ σ := ⟨⟨fb, h⟩, off.rf⟩
theorem cr_ex {σ τ : ST} {fb : Nat} {A : SA} (h : CR τ fb A ∧ off sysP σ τ) : (∃ fb, CR τ fb A) ∧ off sysP σ τ := ⟨⟨fb, h.1⟩, h.2⟩
def F_ropes (A : SA) (n : Int32) : Int32 × SA := if n.toInt < 2 ∨ 4 < n.toInt then fnd A 0 else if 0 < A.2.1.2.2.length then fnd A 4 else (A.2.1.1, A.1, (n, A.2.1.2), A.2.2)
def F_tie (A : SA) (k : Int32) : Int32 × SA := if 0 ≤ k.toInt ∧ k.toInt < 6 then (if A.2.1.2.2.length < 8 then (nI A.2.1.2.2.length, A.1, (A.2.1.1, A.2.1.2.1, A.2.1.2.2 ++ [(k, [])]), A.2.2) else fnd A 1) else fnd A 0
def F_add (A : SA) (t c : Int32) : Int32 × SA := wT A t fun j => if c.toInt ≠ 0 ∧ -A.2.1.1.toInt < c.toInt ∧ c.toInt < A.2.1.1.toInt then (if (fT A j).2.length < 12 then (nI ((fT A j).2.length + 1), sT A j ((fT A j).1, (fT A j).2 ++ [c])) else fnd A 1) else fnd A 0
def F_drop (A : SA) (t : Int32) : Int32 × SA := wT A t fun j => if (fT A j).2.length = 0 then fnd A 3 else ((fT A j).2.getD ((fT A j).2.length - 1) 0, sT A j ((fT A j).1, (fT A j).2.take ((fT A j).2.length - 1)))
def F_flip (A : SA) (t i : Int32) : Int32 × SA := wT A t fun j => if 0 ≤ i.toInt ∧ i.toInt < (fT A j).2.length then (-((fT A j).2.getD i.toInt.toNat 0), sT A j ((fT A j).1, (fT A j).2.set i.toInt.toNat (-((fT A j).2.getD i.toInt.toNat 0)))) else fnd A 0
def F_of (A : SA) (t i : Int32) : Int32 × SA := wT A t fun j => if i.toInt < 0 ∨ 2 < i.toInt then fnd A 0 else if i = 0 then ((fT A j).1, A) else if i = 1 then (nI (fT A j).2.length, A) else (nI (lyN (fT A j).1 (fT A j).2.length), A)
def F_turn (A : SA) (t k : Int32) : Int32 × SA := wT A t fun j => if 0 ≤ k.toInt ∧ k.toInt < 6 then ((fT A j).1, sT A j (k, (fT A j).2)) else fnd A 0
def F_lays (A : SA) (t i : Int32) : Int32 × SA := wT A t fun j => if i.toInt < 0 then fnd A 0 else if i.toInt < lyN (fT A j).1 (fT A j).2.length then ((ly (fT A j).1 A.2.1.1 (fT A j).2).getD i.toInt.toNat 0, A) else fnd A 3
def F_like (A : SA) (t o : Int32) : Int32 × SA := wT A t fun j => wT A o fun i => (nI (fT A i).2.length, sT A j ((fT A j).1, (fT A i).2))
def F_pull (A : SA) (t : Int32) : Int32 × SA := wT A t fun j => (nI (fT A j).2.length - nI (red (fT A j).2).length, sT A j ((fT A j).1, red (fT A j).2))
def F_seed (A : SA) (v : Int32) : Int32 × SA := (A.2.1.2.1, A.1, (A.2.1.1, v, A.2.1.2.2), A.2.2)
theorem fr_z {σ : ST} {k : Nat} {A : FA} {v : Int32} (h : Fr σ k A) : Fr (ui σ k 3 v) k (A.1, v, A.2.2) ∧ off (fairC k) σ (ui σ k 3 v) := by
  obtain ⟨a, b, c, d, e, f⟩ := h
  have ho : off (fun a => a = k) σ (ui σ k 3 v) := off.rf.ui rfl
  refine ⟨⟨by rw [ui_nj (by decide)]; exact a, by rw [ui_nj (by decide)]; exact b, ui_same _ _ _ _, d, fun j hj => (e j hj).off ho (by unfold tk; omega) (by unfold tk; omega) (by unfold tk; omega), fun j hj => ?_⟩, ho.mono (fun a ha => by rw [show a = k from ha]; unfold fairC; omega)⟩
  obtain ⟨xs, hx⟩ := f j hj
  exact ⟨xs, hx.off ho (by unfold tk; omega) (by unfold tk; omega)⟩
set_option maxRecDepth 100000 in
theorem c_X11_ropes {l : Launch} {X : CX} {σ : ST} {fb : Nat} {A : SA} (hC : CR σ fb A) (hw : wf A) {n : Int32} : MJ l X 1 yX11_ropes cX11_ropes 3 (some .int) [.ref (ad X 0), .int n] σ (OP σ (F_ropes A n)) := by
  refine MJ_of (own := RX11) [some (.ref (ad X 0)), some (.int n), none] (by decide) rfl (Nat.le_of_ble_eq_true rfl) rfl ?_
  have e2 : (2 : Int32).toInt = 2 := by decide
  have e4 : (4 : Int32).toInt = 4 := by decide
  have hk := cr_k hC
  have hF := hC.2.2.2.2.1
  have hl := hF.1
  refine rj_ild1 dX11_ropes_0 rfl ?_
  refine rj_ic2 dX11_ropes_1 ?_
  refine rj_ic_lt (tgt := 10) dX11_ropes_2 (by decide) (fun h_2 => ?_) (fun h_2 => ?_)
  · refine rj_ald0 dX11_ropes_10 rfl ?_
    refine rj_ldc kX11_87 dX11_ropes_11 ?_
    refine rj_V1 (ci := 11) cX11_88 rfl (by decide) rfl dX11_ropes_13 (c_X11_found (i := 0) hC (by decide) (by decide)) (fitM (by decide) (by decide)) (Nat.le_of_ble_eq_true rfl) ?_
    rintro v υq ⟨rfl, hq⟩
    simp only [Option.toList, List.cons_append, List.nil_append]
    refine rj_iret dX11_ropes_16 ?_
    have e : F_ropes A n = fnd A 0 := by unfold F_ropes; rw [if_pos (by omega)]
    rw [e]
    exact ⟨rfl, hq⟩
  · refine rj_ild1 dX11_ropes_5 rfl ?_
    refine rj_ic4 dX11_ropes_6 ?_
    refine rj_ic_le (tgt := 17) dX11_ropes_7 (by decide) (fun h_7 => ?_) (fun h_7 => ?_)
    · refine rj_ald0 dX11_ropes_17 rfl ?_
      refine g11_76 dX11_ropes_18 ?_
      rw [cr_f hC]
      refine g11_92 (by first | assumption | rfl) dX11_ropes_21 ?_
      refine rj_if_le (tgt := 34) dX11_ropes_24 (by decide) (fun h_24 => ?_) (fun h_24 => ?_)
      · refine rj_ald0 dX11_ropes_34 rfl ?_
        refine g11_76 dX11_ropes_35 ?_
        rw [cr_f hC]
        refine g11_97 (by first | assumption | rfl) dX11_ropes_38 ?_
        refine rj_ist2 dX11_ropes_41 (by decide) rfl ?_
        refine rj_ald0 dX11_ropes_42 rfl ?_
        refine g11_76 dX11_ropes_43 ?_
        rw [cr_f hC]
        refine rj_ild1 dX11_ropes_46 rfl ?_
        refine p11_97 (by first | assumption | rfl) dX11_ropes_47 ?_
        refine rj_ild2 dX11_ropes_50 rfl ?_
        refine rj_iret dX11_ropes_51 ?_
        have e : F_ropes A n = (A.2.1.1, A.1, (n, A.2.1.2), A.2.2) := by unfold F_ropes; rw [if_neg (by omega), if_neg (by omega)]
        rw [e]
        have hr := fr_rope (v := n) hF
        exact ⟨by rw [hF.2.1], cr_ex (cr_fair hC hr.1 hr.2)⟩
      · refine rj_ald0 dX11_ropes_27 rfl ?_
        refine rj_ldc kX11_96 dX11_ropes_28 ?_
        refine rj_V1 (ci := 11) cX11_88 rfl (by decide) rfl dX11_ropes_30 (c_X11_found (i := 4) hC (by decide) (by decide)) (fitM (by decide) (by decide)) (Nat.le_of_ble_eq_true rfl) ?_
        rintro v υq ⟨rfl, hq⟩
        simp only [Option.toList, List.cons_append, List.nil_append]
        refine rj_iret dX11_ropes_33 ?_
        have e : F_ropes A n = fnd A 4 := by unfold F_ropes; rw [if_neg (by omega), if_pos (by omega)]
        rw [e]
        exact ⟨rfl, hq⟩
    · refine rj_ald0 dX11_ropes_10 rfl ?_
      refine rj_ldc kX11_87 dX11_ropes_11 ?_
      refine rj_V1 (ci := 11) cX11_88 rfl (by decide) rfl dX11_ropes_13 (c_X11_found (i := 0) hC (by decide) (by decide)) (fitM (by decide) (by decide)) (Nat.le_of_ble_eq_true rfl) ?_
      rintro v υq ⟨rfl, hq⟩
      simp only [Option.toList, List.cons_append, List.nil_append]
      refine rj_iret dX11_ropes_16 ?_
      have e : F_ropes A n = fnd A 0 := by unfold F_ropes; rw [if_pos (by omega)]
      rw [e]
      exact ⟨rfl, hq⟩

set_option maxRecDepth 100000 in
theorem c_X11_tie {l : Launch} {X : CX} {σ : ST} {fb : Nat} {A : SA} (hC : CR σ fb A) (hw : wf A) {n : Int32} : MJ l X 3 yX11_tie cX11_tie 2 (some .int) [.ref (ad X 0), .int n] σ (OP σ (F_tie A n)) := by
  refine MJ_of (own := RX11) [some (.ref (ad X 0)), some (.int n)] (by decide) rfl (Nat.le_of_ble_eq_true rfl) rfl ?_
  have hk := cr_k hC
  have hF := hC.2.2.2.2.1
  refine rj_ild1 dX11_tie_0 rfl ?_
  refine rj_S1i cX11_100 dX11_tie_1 c_X11_isKind (fitM (by decide) (by decide)) (Nat.le_of_ble_eq_true rfl) ?_
  refine rj_if_ne (tgt := 14) dX11_tie_4 (by decide) (fun h_4 => ?_) (fun h_4 => ?_)
  · have hb_4 := bz_f h_4
    refine rj_ald0 dX11_tie_14 rfl ?_
    refine g11_76 dX11_tie_15 ?_
    rw [cr_f hC]
    refine rj_V0i (ci := 1) cX11_104 rfl (by decide) (by first | assumption | rfl) dX11_tie_18 (c_X1_hasRoomForTie hk hF) (fitM (by decide) (by decide)) (Nat.le_of_ble_eq_true rfl) ?_
    refine rj_if_ne (tgt := 31) dX11_tie_21 (by decide) (fun h_21 => ?_) (fun h_21 => ?_)
    · have hb_21 := bz_f h_21
      refine rj_ald0 dX11_tie_31 rfl ?_
      refine g11_76 dX11_tie_32 ?_
      rw [cr_f hC]
      refine rj_ild1 dX11_tie_35 rfl ?_
      refine rj_V1 (ci := 1) cX11_109 rfl (by decide) (by first | assumption | rfl) dX11_tie_36 (c_X1_begin hk hF hb_21) (fitM (by decide) (by decide)) (Nat.le_of_ble_eq_true rfl) ?_
      rintro v τ ⟨rfl, hF1, ho1⟩
      simp only [Option.toList, List.cons_append, List.nil_append]
      refine rj_iret dX11_tie_39 ?_
      have e : F_tie A n = (nI A.2.1.2.2.length, A.1, (A.2.1.1, A.2.1.2.1, A.2.1.2.2 ++ [(n, [])]), A.2.2) := by unfold F_tie; rw [if_pos hb_4, if_pos hb_21]
      rw [e]
      exact ⟨rfl, cr_ex (cr_fair hC hF1 ho1)⟩
    · have hb_21 := bz_t h_21
      refine rj_ald0 dX11_tie_24 rfl ?_
      refine rj_ldc kX11_108 dX11_tie_25 ?_
      refine rj_V1 (ci := 11) cX11_88 rfl (by decide) rfl dX11_tie_27 (c_X11_found (i := 1) hC (by decide) (by decide)) (fitM (by decide) (by decide)) (Nat.le_of_ble_eq_true rfl) ?_
      rintro v υq ⟨rfl, hq⟩
      simp only [Option.toList, List.cons_append, List.nil_append]
      refine rj_iret dX11_tie_30 ?_
      have e : F_tie A n = fnd A 1 := by unfold F_tie; rw [if_pos hb_4, if_neg hb_21]
      rw [e]
      exact ⟨rfl, hq⟩
  · have hb_4 := bz_t h_4
    refine rj_ald0 dX11_tie_7 rfl ?_
    refine rj_ldc kX11_87 dX11_tie_8 ?_
    refine rj_V1 (ci := 11) cX11_88 rfl (by decide) rfl dX11_tie_10 (c_X11_found (i := 0) hC (by decide) (by decide)) (fitM (by decide) (by decide)) (Nat.le_of_ble_eq_true rfl) ?_
    rintro v υq ⟨rfl, hq⟩
    simp only [Option.toList, List.cons_append, List.nil_append]
    refine rj_iret dX11_tie_13 ?_
    have e : F_tie A n = fnd A 0 := by unfold F_tie; rw [if_neg hb_4]
    rw [e]
    exact ⟨rfl, hq⟩

set_option maxRecDepth 100000 in
theorem c_X11_add {l : Launch} {X : CX} {σ : ST} {fb : Nat} {A : SA} (hC : CR σ fb A) (hw : wf A) {t c : Int32} : MJ l X 3 yX11_add cX11_add 4 (some .int) [.ref (ad X 0), .int t, .int c] σ (OP σ (F_add A t c)) := by
  refine MJ_of (own := RX11) [some (.ref (ad X 0)), some (.int t), some (.int c), none] (by decide) rfl (Nat.le_of_ble_eq_true rfl) rfl ?_
  have hk := cr_k hC
  have hF := hC.2.2.2.2.1
  refine rj_ald0 dX11_add_0 rfl ?_
  refine g11_76 dX11_add_1 ?_
  rw [cr_f hC]
  refine rj_ild1 dX11_add_4 rfl ?_
  refine rj_V1 (ci := 1) cX11_112 rfl (by decide) (by first | assumption | rfl) dX11_add_5 (c_X1_tieAt (cr_k hC) hC.2.2.2.2.1) (fitM (by decide) (by decide)) (Nat.le_of_ble_eq_true rfl) ?_
  rintro v υj ⟨hυj, ⟨j, hvj, hjj, rfl⟩ | ⟨hnj, rfl⟩⟩
  · rw [hυj]
    simp only [Option.toList, List.cons_append, List.nil_append]
    have hj8j : j < 8 := Nat.lt_of_lt_of_le hjj hC.2.2.2.2.1.2.2.2.1
    have hktj := (fair_next (cr_k hC)).2.2 j hj8j
    obtain ⟨hkrj, hkaj, hlnj⟩ := tie_next hktj
    have htij : Ti _ (tk fb j) (fT A j).1 (fT A j).2 := fr_tie hC.2.2.2.2.1 hjj
    have hxj : Rw _ (tk fb j + 1) (fT A j).2 := htij.2
    refine rj_ast3 dX11_add_8 (by decide) rfl ?_
    refine rj_ald3 dX11_add_9 rfl ?_
    refine rj_nu_ref dX11_add_10 ?_
    refine rj_ald0 dX11_add_13 rfl ?_
    refine g11_76 dX11_add_14 ?_
    rw [cr_f hC]
    refine rj_ild2 dX11_add_17 rfl ?_
    refine rj_i2l dX11_add_18 ?_
    refine rj_V1i (ci := 1) cX11_116 rfl (by decide) (by first | assumption | rfl) dX11_add_19 (c_X1_isCrossing hk (by rw [hF.2.1]; exact ⟨hw.1.1, hw.1.2.1⟩)) (fitM (by decide) (by decide)) (Nat.le_of_ble_eq_true rfl) ?_
    rw [hF.2.1, i2l_t]
    refine rj_if_ne (tgt := 32) dX11_add_22 (by decide) (fun h_22 => ?_) (fun h_22 => ?_)
    · have hb_22 := bz_f h_22
      refine rj_ald3 dX11_add_32 rfl ?_
      refine g11_120 (by first | assumption | rfl) dX11_add_33 ?_
      refine rj_V0i (ci := 2) cX11_123 rfl (by decide) (by first | assumption | rfl) dX11_add_36 (c_X2_hasRoom (n := (fT A j).2.length) hkrj hxj.1 hxj.2.1) (fitM (by decide) (by decide)) (Nat.le_of_ble_eq_true rfl) ?_
      refine rj_if_ne (tgt := 49) dX11_add_39 (by decide) (fun h_39 => ?_) (fun h_39 => ?_)
      · have hb_39 := bz_f h_39
        refine rj_ald3 dX11_add_49 rfl ?_
        refine g11_120 (by first | assumption | rfl) dX11_add_50 ?_
        refine rj_ild2 dX11_add_53 rfl ?_
        refine rj_V1 (ci := 2) cX11_126 rfl (by decide) (by first | assumption | rfl) dX11_add_54 (c_X2_appendL hkrj hxj hb_39) (fitM (by decide) (by decide)) (Nat.le_of_ble_eq_true rfl) ?_
        rintro v τ ⟨rfl, hx1, ho1⟩
        simp only [Option.toList, List.nil_append]
        refine rj_ald3 dX11_add_57 rfl ?_
        refine g11_120 (by first | assumption | rfl) dX11_add_58 ?_
        refine g11_129 (by first | assumption | rfl) dX11_add_61 ?_
        refine rj_iret dX11_add_64 ?_
        have e : F_add A t c = (nI ((fT A j).2.length + 1), sT A j ((fT A j).1, (fT A j).2 ++ [c])) := by unfold F_add; rw [wT_in hvj hjj, if_pos hb_22, if_pos (by rw [hlnj] at hb_39; exact hb_39)]
        rw [e]
        exact ⟨by rw [hx1.size]; simp, cr_ex (cr_trow hC hjj hx1 ho1)⟩
      · have hb_39 := bz_t h_39
        refine rj_ald0 dX11_add_42 rfl ?_
        refine rj_ldc kX11_108 dX11_add_43 ?_
        refine rj_V1 (ci := 11) cX11_88 rfl (by decide) rfl dX11_add_45 (c_X11_found (i := 1) hC (by decide) (by decide)) (fitM (by decide) (by decide)) (Nat.le_of_ble_eq_true rfl) ?_
        rintro v υq ⟨rfl, hq⟩
        simp only [Option.toList, List.cons_append, List.nil_append]
        refine rj_iret dX11_add_48 ?_
        have e : F_add A t c = fnd A 1 := by unfold F_add; rw [wT_in hvj hjj, if_pos hb_22, if_neg (by rw [hlnj] at hb_39; exact hb_39)]
        rw [e]
        exact ⟨rfl, hq⟩
    · have hb_22 := bz_t h_22
      refine rj_ald0 dX11_add_25 rfl ?_
      refine rj_ldc kX11_87 dX11_add_26 ?_
      refine rj_V1 (ci := 11) cX11_88 rfl (by decide) rfl dX11_add_28 (c_X11_found (i := 0) hC (by decide) (by decide)) (fitM (by decide) (by decide)) (Nat.le_of_ble_eq_true rfl) ?_
      rintro v υq ⟨rfl, hq⟩
      simp only [Option.toList, List.cons_append, List.nil_append]
      refine rj_iret dX11_add_31 ?_
      have e : F_add A t c = fnd A 0 := by unfold F_add; rw [wT_in hvj hjj, if_neg hb_22]
      rw [e]
      exact ⟨rfl, hq⟩
  · rw [hυj]
    simp only [Option.toList, List.cons_append, List.nil_append]
    refine rj_nst3 dX11_add_8 (by decide) rfl ?_
    refine rj_ald3N dX11_add_9 rfl ?_
    refine rj_nu_null (tgt := 25) dX11_add_10 (by decide) ?_
    refine rj_ald0 dX11_add_25 rfl ?_
    refine rj_ldc kX11_87 dX11_add_26 ?_
    refine rj_V1 (ci := 11) cX11_88 rfl (by decide) rfl dX11_add_28 (c_X11_found (i := 0) hC (by decide) (by decide)) (fitM (by decide) (by decide)) (Nat.le_of_ble_eq_true rfl) ?_
    rintro v υq ⟨rfl, hq⟩
    simp only [Option.toList, List.cons_append, List.nil_append]
    refine rj_iret dX11_add_31 ?_
    have e : F_add A t c = fnd A 0 := by unfold F_add; rw [wT_out hnj]
    rw [e]
    exact ⟨rfl, hq⟩

set_option maxRecDepth 100000 in
theorem c_X11_drop {l : Launch} {X : CX} {σ : ST} {fb : Nat} {A : SA} (hC : CR σ fb A) (hw : wf A) {t : Int32} : MJ l X 3 yX11_drop cX11_drop 4 (some .int) [.ref (ad X 0), .int t] σ (OP σ (F_drop A t)) := by
  refine MJ_of (own := RX11) [some (.ref (ad X 0)), some (.int t), none, none] (by decide) rfl (Nat.le_of_ble_eq_true rfl) rfl ?_
  have hk := cr_k hC
  have hF := hC.2.2.2.2.1
  refine rj_ald0 dX11_drop_0 rfl ?_
  refine g11_76 dX11_drop_1 ?_
  rw [cr_f hC]
  refine rj_ild1 dX11_drop_4 rfl ?_
  refine rj_V1 (ci := 1) cX11_112 rfl (by decide) (by first | assumption | rfl) dX11_drop_5 (c_X1_tieAt (cr_k hC) hC.2.2.2.2.1) (fitM (by decide) (by decide)) (Nat.le_of_ble_eq_true rfl) ?_
  rintro v υj ⟨hυj, ⟨j, hvj, hjj, rfl⟩ | ⟨hnj, rfl⟩⟩
  · rw [hυj]
    simp only [Option.toList, List.cons_append, List.nil_append]
    have hj8j : j < 8 := Nat.lt_of_lt_of_le hjj hC.2.2.2.2.1.2.2.2.1
    have hktj := (fair_next (cr_k hC)).2.2 j hj8j
    obtain ⟨hkrj, hkaj, hlnj⟩ := tie_next hktj
    have htij : Ti _ (tk fb j) (fT A j).1 (fT A j).2 := fr_tie hC.2.2.2.2.1 hjj
    have hxj : Rw _ (tk fb j + 1) (fT A j).2 := htij.2
    refine rj_ast2 dX11_drop_8 (by decide) rfl ?_
    refine rj_ald2 dX11_drop_9 rfl ?_
    refine rj_nn_ref (tgt := 20) dX11_drop_10 (by decide) ?_
    have h12 := hxj.small hkrj
    have hsz := hxj.size
    refine rj_ald2 dX11_drop_20 rfl ?_
    refine g11_120 (by first | assumption | rfl) dX11_drop_21 ?_
    refine g11_129 (by first | assumption | rfl) dX11_drop_24 ?_
    rw [hsz]
    refine rj_if_ne (tgt := 37) dX11_drop_27 (by decide) (fun h_27 => ?_) (fun h_27 => ?_)
    · have hz : ¬ (fT A j).2.length = 0 := fun z => h_27 (by rw [z]; rfl)
      have hm : (nI (fT A j).2.length - 1).toInt = ((fT A j).2.length - 1 : Nat) := by rw [i_sub (by rw [nI_t (by omega), t1]; omega) (by rw [nI_t (by omega), t1]; omega), nI_t (by omega), t1]; omega
      refine rj_ald2 dX11_drop_37 rfl ?_
      refine g11_120 (by first | assumption | rfl) dX11_drop_38 ?_
      refine rj_ald2 dX11_drop_41 rfl ?_
      refine g11_120 (by first | assumption | rfl) dX11_drop_42 ?_
      refine g11_129 (by first | assumption | rfl) dX11_drop_45 ?_
      rw [hsz]
      refine rj_ic1 dX11_drop_48 ?_
      refine rj_isub dX11_drop_49 ?_
      refine rj_V1i (ci := 2) cX11_133 rfl (by decide) (by first | assumption | rfl) dX11_drop_50 (c_X2_atL hkrj hxj) (fitM (by decide) (by decide)) (Nat.le_of_ble_eq_true rfl) ?_
      refine rj_ist3 dX11_drop_53 (by decide) rfl ?_
      refine rj_ald2 dX11_drop_54 rfl ?_
      refine g11_120 (by first | assumption | rfl) dX11_drop_55 ?_
      refine rj_ald2 dX11_drop_58 rfl ?_
      refine g11_120 (by first | assumption | rfl) dX11_drop_59 ?_
      refine g11_129 (by first | assumption | rfl) dX11_drop_62 ?_
      rw [hsz]
      refine rj_ic1 dX11_drop_65 ?_
      refine rj_isub dX11_drop_66 ?_
      refine rj_V1 (ci := 2) cX11_136 rfl (by decide) (by first | assumption | rfl) dX11_drop_67 (c_X2_cutToL hkrj hxj) (fitM (by decide) (by decide)) (Nat.le_of_ble_eq_true rfl) ?_
      rintro v τ ⟨rfl, hx1, ho1⟩
      simp only [Option.toList, List.nil_append]
      refine rj_ild3 dX11_drop_70 rfl ?_
      refine rj_iret dX11_drop_71 ?_
      have e : F_drop A t = ((fT A j).2.getD ((fT A j).2.length - 1) 0, sT A j ((fT A j).1, (fT A j).2.take ((fT A j).2.length - 1))) := by unfold F_drop; rw [wT_in hvj hjj, if_neg hz]
      rw [e]
      rw [hm] at hx1
      exact ⟨by rw [rat_in hm (by omega)], cr_ex (cr_trow hC hjj hx1 ho1)⟩
    · have hz : (fT A j).2.length = 0 := by have := congrArg Int32.toInt h_27; rw [nI_t (by omega), t0] at this; omega
      refine rj_ald0 dX11_drop_30 rfl ?_
      refine rj_ldc kX11_132 dX11_drop_31 ?_
      refine rj_V1 (ci := 11) cX11_88 rfl (by decide) rfl dX11_drop_33 (c_X11_found (i := 3) hC (by decide) (by decide)) (fitM (by decide) (by decide)) (Nat.le_of_ble_eq_true rfl) ?_
      rintro v υq ⟨rfl, hq⟩
      simp only [Option.toList, List.cons_append, List.nil_append]
      refine rj_iret dX11_drop_36 ?_
      have e : F_drop A t = fnd A 3 := by unfold F_drop; rw [wT_in hvj hjj, if_pos hz]
      rw [e]
      exact ⟨rfl, hq⟩
  · rw [hυj]
    simp only [Option.toList, List.cons_append, List.nil_append]
    refine rj_nst2 dX11_drop_8 (by decide) rfl ?_
    refine rj_ald2N dX11_drop_9 rfl ?_
    refine rj_nn_null dX11_drop_10 ?_
    refine rj_ald0 dX11_drop_13 rfl ?_
    refine rj_ldc kX11_87 dX11_drop_14 ?_
    refine rj_V1 (ci := 11) cX11_88 rfl (by decide) rfl dX11_drop_16 (c_X11_found (i := 0) hC (by decide) (by decide)) (fitM (by decide) (by decide)) (Nat.le_of_ble_eq_true rfl) ?_
    rintro v υq ⟨rfl, hq⟩
    simp only [Option.toList, List.cons_append, List.nil_append]
    refine rj_iret dX11_drop_19 ?_
    have e : F_drop A t = fnd A 0 := by unfold F_drop; rw [wT_out hnj]
    rw [e]
    exact ⟨rfl, hq⟩

set_option maxRecDepth 100000 in
theorem c_X11_flip {l : Launch} {X : CX} {σ : ST} {fb : Nat} {A : SA} (hC : CR σ fb A) (hw : wf A) {t i : Int32} : MJ l X 3 yX11_flip cX11_flip 4 (some .int) [.ref (ad X 0), .int t, .int i] σ (OP σ (F_flip A t i)) := by
  refine MJ_of (own := RX11) [some (.ref (ad X 0)), some (.int t), some (.int i), none] (by decide) rfl (Nat.le_of_ble_eq_true rfl) rfl ?_
  have hk := cr_k hC
  have hF := hC.2.2.2.2.1
  refine rj_ald0 dX11_flip_0 rfl ?_
  refine g11_76 dX11_flip_1 ?_
  rw [cr_f hC]
  refine rj_ild1 dX11_flip_4 rfl ?_
  refine rj_V1 (ci := 1) cX11_112 rfl (by decide) (by first | assumption | rfl) dX11_flip_5 (c_X1_tieAt (cr_k hC) hC.2.2.2.2.1) (fitM (by decide) (by decide)) (Nat.le_of_ble_eq_true rfl) ?_
  rintro v υj ⟨hυj, ⟨j, hvj, hjj, rfl⟩ | ⟨hnj, rfl⟩⟩
  · rw [hυj]
    simp only [Option.toList, List.cons_append, List.nil_append]
    have hj8j : j < 8 := Nat.lt_of_lt_of_le hjj hC.2.2.2.2.1.2.2.2.1
    have hktj := (fair_next (cr_k hC)).2.2 j hj8j
    obtain ⟨hkrj, hkaj, hlnj⟩ := tie_next hktj
    have htij : Ti _ (tk fb j) (fT A j).1 (fT A j).2 := fr_tie hC.2.2.2.2.1 hjj
    have hxj : Rw _ (tk fb j + 1) (fT A j).2 := htij.2
    refine rj_ast3 dX11_flip_8 (by decide) rfl ?_
    refine rj_ald3 dX11_flip_9 rfl ?_
    refine rj_nu_ref dX11_flip_10 ?_
    refine rj_ald3 dX11_flip_13 rfl ?_
    refine g11_120 (by first | assumption | rfl) dX11_flip_14 ?_
    refine rj_ild2 dX11_flip_17 rfl ?_
    refine rj_V1i (ci := 2) cX11_139 rfl (by decide) (by first | assumption | rfl) dX11_flip_18 (c_X2_has (n := (fT A j).2.length) hkrj hxj.1 hxj.2.1) (fitM (by decide) (by decide)) (Nat.le_of_ble_eq_true rfl) ?_
    refine rj_if_ne (tgt := 31) dX11_flip_21 (by decide) (fun h_21 => ?_) (fun h_21 => ?_)
    · have hb_21 := bz_f h_21
      refine rj_ald3 dX11_flip_31 rfl ?_
      refine g11_120 (by first | assumption | rfl) dX11_flip_32 ?_
      refine rj_ild2 dX11_flip_35 rfl ?_
      refine rj_V1 (ci := 2) cX11_142 rfl (by decide) (by first | assumption | rfl) dX11_flip_36 (c_X2_negateL (j := i.toInt.toNat) hkrj hxj (by omega) (by omega)) (fitM (by decide) (by decide)) (Nat.le_of_ble_eq_true rfl) ?_
      rintro v τ ⟨rfl, hx1, ho1⟩
      simp only [Option.toList, List.nil_append]
      refine rj_ald3 dX11_flip_39 rfl ?_
      refine g11_120 (by first | assumption | rfl) dX11_flip_40 ?_
      refine rj_ild2 dX11_flip_43 rfl ?_
      refine rj_V1i (ci := 2) cX11_133 rfl (by decide) (by first | assumption | rfl) dX11_flip_44 (c_X2_atL hkrj hx1) (fitM (by decide) (by decide)) (Nat.le_of_ble_eq_true rfl) ?_
      refine rj_iret dX11_flip_47 ?_
      have e : F_flip A t i = (-((fT A j).2.getD i.toInt.toNat 0), sT A j ((fT A j).1, (fT A j).2.set i.toInt.toNat (-((fT A j).2.getD i.toInt.toNat 0)))) := by unfold F_flip; rw [wT_in hvj hjj, if_pos hb_21]
      rw [e]
      exact ⟨by rw [rat_in (j := i.toInt.toNat) (by omega) (by rw [List.length_set]; omega), getD_set _ _ _ _ _ (by omega), if_pos rfl], cr_ex (cr_trow hC hjj hx1 ho1)⟩
    · have hb_21 := bz_t h_21
      refine rj_ald0 dX11_flip_24 rfl ?_
      refine rj_ldc kX11_87 dX11_flip_25 ?_
      refine rj_V1 (ci := 11) cX11_88 rfl (by decide) rfl dX11_flip_27 (c_X11_found (i := 0) hC (by decide) (by decide)) (fitM (by decide) (by decide)) (Nat.le_of_ble_eq_true rfl) ?_
      rintro v υq ⟨rfl, hq⟩
      simp only [Option.toList, List.cons_append, List.nil_append]
      refine rj_iret dX11_flip_30 ?_
      have e : F_flip A t i = fnd A 0 := by unfold F_flip; rw [wT_in hvj hjj, if_neg hb_21]
      rw [e]
      exact ⟨rfl, hq⟩
  · rw [hυj]
    simp only [Option.toList, List.cons_append, List.nil_append]
    refine rj_nst3 dX11_flip_8 (by decide) rfl ?_
    refine rj_ald3N dX11_flip_9 rfl ?_
    refine rj_nu_null (tgt := 24) dX11_flip_10 (by decide) ?_
    refine rj_ald0 dX11_flip_24 rfl ?_
    refine rj_ldc kX11_87 dX11_flip_25 ?_
    refine rj_V1 (ci := 11) cX11_88 rfl (by decide) rfl dX11_flip_27 (c_X11_found (i := 0) hC (by decide) (by decide)) (fitM (by decide) (by decide)) (Nat.le_of_ble_eq_true rfl) ?_
    rintro v υq ⟨rfl, hq⟩
    simp only [Option.toList, List.cons_append, List.nil_append]
    refine rj_iret dX11_flip_30 ?_
    have e : F_flip A t i = fnd A 0 := by unfold F_flip; rw [wT_out hnj]
    rw [e]
    exact ⟨rfl, hq⟩

set_option maxRecDepth 100000 in
theorem c_X11_of {l : Launch} {X : CX} {σ : ST} {fb : Nat} {A : SA} (hC : CR σ fb A) (hw : wf A) {t i : Int32} : MJ l X 3 yX11_of cX11_of 4 (some .int) [.ref (ad X 0), .int t, .int i] σ (OP σ (F_of A t i)) := by
  refine MJ_of (own := RX11) [some (.ref (ad X 0)), some (.int t), some (.int i), none] (by decide) rfl (Nat.le_of_ble_eq_true rfl) rfl ?_
  have hk := cr_k hC
  have hF := hC.2.2.2.2.1
  have e2 : (2 : Int32).toInt = 2 := by decide
  have e4 : (4 : Int32).toInt = 4 := by decide
  refine rj_ald0 dX11_of_0 rfl ?_
  refine g11_76 dX11_of_1 ?_
  rw [cr_f hC]
  refine rj_ild1 dX11_of_4 rfl ?_
  refine rj_V1 (ci := 1) cX11_112 rfl (by decide) (by first | assumption | rfl) dX11_of_5 (c_X1_tieAt (cr_k hC) hC.2.2.2.2.1) (fitM (by decide) (by decide)) (Nat.le_of_ble_eq_true rfl) ?_
  rintro v υj ⟨hυj, ⟨j, hvj, hjj, rfl⟩ | ⟨hnj, rfl⟩⟩
  · rw [hυj]
    simp only [Option.toList, List.cons_append, List.nil_append]
    have hj8j : j < 8 := Nat.lt_of_lt_of_le hjj hC.2.2.2.2.1.2.2.2.1
    have hktj := (fair_next (cr_k hC)).2.2 j hj8j
    obtain ⟨hkrj, hkaj, hlnj⟩ := tie_next hktj
    have htij : Ti _ (tk fb j) (fT A j).1 (fT A j).2 := fr_tie hC.2.2.2.2.1 hjj
    have hxj : Rw _ (tk fb j + 1) (fT A j).2 := htij.2
    refine rj_ast3 dX11_of_8 (by decide) rfl ?_
    refine rj_ald3 dX11_of_9 rfl ?_
    refine rj_nu_ref dX11_of_10 ?_
    refine rj_ild2 dX11_of_13 rfl ?_
    refine rj_if_lt (tgt := 22) dX11_of_14 (by decide) (fun h_14 => ?_) (fun h_14 => ?_)
    · refine rj_ald0 dX11_of_22 rfl ?_
      refine rj_ldc kX11_87 dX11_of_23 ?_
      refine rj_V1 (ci := 11) cX11_88 rfl (by decide) rfl dX11_of_25 (c_X11_found (i := 0) hC (by decide) (by decide)) (fitM (by decide) (by decide)) (Nat.le_of_ble_eq_true rfl) ?_
      rintro v υq ⟨rfl, hq⟩
      simp only [Option.toList, List.cons_append, List.nil_append]
      refine rj_iret dX11_of_28 ?_
      have e : F_of A t i = fnd A 0 := by unfold F_of; rw [wT_in hvj hjj, if_pos (by omega)]
      rw [e]
      exact ⟨rfl, hq⟩
    · refine rj_ild2 dX11_of_17 rfl ?_
      refine rj_ic2 dX11_of_18 ?_
      refine rj_ic_le (tgt := 29) dX11_of_19 (by decide) (fun h_19 => ?_) (fun h_19 => ?_)
      · refine rj_ild2 dX11_of_29 rfl ?_
        refine rj_if_ne (tgt := 38) dX11_of_30 (by decide) (fun h_30 => ?_) (fun h_30 => ?_)
        · refine rj_ild2 dX11_of_38 rfl ?_
          refine rj_ic1 dX11_of_39 ?_
          refine rj_ic_ne (tgt := 53) dX11_of_40 (by decide) (fun h_40 => ?_) (fun h_40 => ?_)
          · refine rj_ald3 dX11_of_53 rfl ?_
            refine rj_V0i (ci := 8) cX11_148 rfl (by decide) (by first | assumption | rfl) dX11_of_54 (c_X8_laidSize hktj htij) (fitM (by decide) (by decide)) (Nat.le_of_ble_eq_true rfl) ?_
            refine rj_iret dX11_of_57 ?_
            have e : F_of A t i = (nI (lyN (fT A j).1 (fT A j).2.length), A) := by unfold F_of; rw [wT_in hvj hjj, if_neg (by omega), if_neg h_30, if_neg h_40]
            rw [e]
            exact ⟨rfl, cr_same hC⟩
          · refine rj_ald3 dX11_of_43 rfl ?_
            refine g11_120 (by first | assumption | rfl) dX11_of_44 ?_
            refine g11_129 (by first | assumption | rfl) dX11_of_47 ?_
            refine rj_goto (tgt := 57) dX11_of_50 (by decide) ?_
            refine rj_iret dX11_of_57 ?_
            have e : F_of A t i = (nI (fT A j).2.length, A) := by unfold F_of; rw [wT_in hvj hjj, if_neg (by omega), if_neg h_30, if_pos h_40]
            rw [e]
            exact ⟨by rw [hxj.size], cr_same hC⟩
        · refine rj_ald3 dX11_of_33 rfl ?_
          refine g11_145 (by first | assumption | rfl) dX11_of_34 ?_
          refine rj_iret dX11_of_37 ?_
          have e : F_of A t i = ((fT A j).1, A) := by unfold F_of; rw [wT_in hvj hjj, if_neg (by omega), if_pos h_30]
          rw [e]
          exact ⟨by rw [htij.1], cr_same hC⟩
      · refine rj_ald0 dX11_of_22 rfl ?_
        refine rj_ldc kX11_87 dX11_of_23 ?_
        refine rj_V1 (ci := 11) cX11_88 rfl (by decide) rfl dX11_of_25 (c_X11_found (i := 0) hC (by decide) (by decide)) (fitM (by decide) (by decide)) (Nat.le_of_ble_eq_true rfl) ?_
        rintro v υq ⟨rfl, hq⟩
        simp only [Option.toList, List.cons_append, List.nil_append]
        refine rj_iret dX11_of_28 ?_
        have e : F_of A t i = fnd A 0 := by unfold F_of; rw [wT_in hvj hjj, if_pos (by omega)]
        rw [e]
        exact ⟨rfl, hq⟩
  · rw [hυj]
    simp only [Option.toList, List.cons_append, List.nil_append]
    refine rj_nst3 dX11_of_8 (by decide) rfl ?_
    refine rj_ald3N dX11_of_9 rfl ?_
    refine rj_nu_null (tgt := 22) dX11_of_10 (by decide) ?_
    refine rj_ald0 dX11_of_22 rfl ?_
    refine rj_ldc kX11_87 dX11_of_23 ?_
    refine rj_V1 (ci := 11) cX11_88 rfl (by decide) rfl dX11_of_25 (c_X11_found (i := 0) hC (by decide) (by decide)) (fitM (by decide) (by decide)) (Nat.le_of_ble_eq_true rfl) ?_
    rintro v υq ⟨rfl, hq⟩
    simp only [Option.toList, List.cons_append, List.nil_append]
    refine rj_iret dX11_of_28 ?_
    have e : F_of A t i = fnd A 0 := by unfold F_of; rw [wT_out hnj]
    rw [e]
    exact ⟨rfl, hq⟩

set_option maxRecDepth 100000 in
theorem c_X11_turn {l : Launch} {X : CX} {σ : ST} {fb : Nat} {A : SA} (hC : CR σ fb A) (hw : wf A) {t k : Int32} : MJ l X 3 yX11_turn cX11_turn 5 (some .int) [.ref (ad X 0), .int t, .int k] σ (OP σ (F_turn A t k)) := by
  refine MJ_of (own := RX11) [some (.ref (ad X 0)), some (.int t), some (.int k), none, none] (by decide) rfl (Nat.le_of_ble_eq_true rfl) rfl ?_
  have hk := cr_k hC
  have hF := hC.2.2.2.2.1
  refine rj_ald0 dX11_turn_0 rfl ?_
  refine g11_76 dX11_turn_1 ?_
  rw [cr_f hC]
  refine rj_ild1 dX11_turn_4 rfl ?_
  refine rj_V1 (ci := 1) cX11_112 rfl (by decide) (by first | assumption | rfl) dX11_turn_5 (c_X1_tieAt (cr_k hC) hC.2.2.2.2.1) (fitM (by decide) (by decide)) (Nat.le_of_ble_eq_true rfl) ?_
  rintro v υj ⟨hυj, ⟨j, hvj, hjj, rfl⟩ | ⟨hnj, rfl⟩⟩
  · rw [hυj]
    simp only [Option.toList, List.cons_append, List.nil_append]
    have hj8j : j < 8 := Nat.lt_of_lt_of_le hjj hC.2.2.2.2.1.2.2.2.1
    have hktj := (fair_next (cr_k hC)).2.2 j hj8j
    obtain ⟨hkrj, hkaj, hlnj⟩ := tie_next hktj
    have htij : Ti _ (tk fb j) (fT A j).1 (fT A j).2 := fr_tie hC.2.2.2.2.1 hjj
    have hxj : Rw _ (tk fb j + 1) (fT A j).2 := htij.2
    refine rj_ast3 dX11_turn_8 (by decide) rfl ?_
    refine rj_ald3 dX11_turn_9 rfl ?_
    refine rj_nu_ref dX11_turn_10 ?_
    refine rj_ild2 dX11_turn_13 rfl ?_
    refine rj_S1i cX11_100 dX11_turn_14 c_X11_isKind (fitM (by decide) (by decide)) (Nat.le_of_ble_eq_true rfl) ?_
    refine rj_if_ne (tgt := 27) dX11_turn_17 (by decide) (fun h_17 => ?_) (fun h_17 => ?_)
    · have hb_17 := bz_f h_17
      refine rj_ald3 dX11_turn_27 rfl ?_
      refine g11_145 (by first | assumption | rfl) dX11_turn_28 ?_
      refine rj_ist4w dX11_turn_31 (by decide) rfl ?_
      refine rj_ald3 dX11_turn_33 rfl ?_
      refine rj_ild2 dX11_turn_34 rfl ?_
      refine p11_145 (by first | assumption | rfl) dX11_turn_35 ?_
      refine rj_ild dX11_turn_38 rfl ?_
      refine rj_iret dX11_turn_40 ?_
      have e : F_turn A t k = ((fT A j).1, sT A j (k, (fT A j).2)) := by unfold F_turn; rw [wT_in hvj hjj, if_pos hb_17]
      rw [e]
      exact ⟨by rw [htij.1], cr_ex (cr_kind hC hjj)⟩
    · have hb_17 := bz_t h_17
      refine rj_ald0 dX11_turn_20 rfl ?_
      refine rj_ldc kX11_87 dX11_turn_21 ?_
      refine rj_V1 (ci := 11) cX11_88 rfl (by decide) rfl dX11_turn_23 (c_X11_found (i := 0) hC (by decide) (by decide)) (fitM (by decide) (by decide)) (Nat.le_of_ble_eq_true rfl) ?_
      rintro v υq ⟨rfl, hq⟩
      simp only [Option.toList, List.cons_append, List.nil_append]
      refine rj_iret dX11_turn_26 ?_
      have e : F_turn A t k = fnd A 0 := by unfold F_turn; rw [wT_in hvj hjj, if_neg hb_17]
      rw [e]
      exact ⟨rfl, hq⟩
  · rw [hυj]
    simp only [Option.toList, List.cons_append, List.nil_append]
    refine rj_nst3 dX11_turn_8 (by decide) rfl ?_
    refine rj_ald3N dX11_turn_9 rfl ?_
    refine rj_nu_null (tgt := 20) dX11_turn_10 (by decide) ?_
    refine rj_ald0 dX11_turn_20 rfl ?_
    refine rj_ldc kX11_87 dX11_turn_21 ?_
    refine rj_V1 (ci := 11) cX11_88 rfl (by decide) rfl dX11_turn_23 (c_X11_found (i := 0) hC (by decide) (by decide)) (fitM (by decide) (by decide)) (Nat.le_of_ble_eq_true rfl) ?_
    rintro v υq ⟨rfl, hq⟩
    simp only [Option.toList, List.cons_append, List.nil_append]
    refine rj_iret dX11_turn_26 ?_
    have e : F_turn A t k = fnd A 0 := by unfold F_turn; rw [wT_out hnj]
    rw [e]
    exact ⟨rfl, hq⟩

def undR (top : Int32) : Nat → Int32 → Bool
  | 0, _ => false
  | n + 1, k => if 0 ≤ k.toInt ∧ k.toInt < 6 then (if k = top then true else undR top n (kaL.getD k.toNatClampNeg 0)) else false
def F_as (A : SA) (t k : Int32) : Int32 × SA := wT A t fun j => if 0 ≤ k.toInt ∧ k.toInt < 6 then (if undR k 6 (fT A j).1 = true then (nI (fT A j).2.length, A) else fnd A 2) else fnd A 0
set_option maxRecDepth 100000 in
theorem l_X11_isUnder {l : Launch} {X : CX} {h : Nat} {Q : Option Value → ST → Prop} {σ : ST} {v0 top : Int32} (hh : 1 ≤ h) : ∀ (N i : Nat) (k : Int32), 6 < i + N → (i ≤ 6 ∧ Q (some (.int (if undR top (6 - i) k = true then 1 else 0))) σ) → RJ (GM l X h Q) X cX11_isUnder 4 (some .boolean) RX11 4 [some (.int v0), some (.int top), some (.int k), some (.int (nI i))] [] σ := by
  intro N
  induction N with
  | zero => intro i k hN hi; have := hi.1; exact absurd hN (by omega)
  | succ N ih =>
    intro i k hN hi
    obtain ⟨hi, hQ⟩ := hi
    have hit : (nI i).toInt = i := nI_t (by omega)
    have h6 : (6 : Int32).toInt = 6 := by decide
    refine rj_ild3 dX11_isUnder_4 rfl ?_
    refine rj_bipush (v := 6) dX11_isUnder_5 (by decide) ?_
    refine rj_ic_ge (tgt := 36) dX11_isUnder_7 (by decide) (fun h_7 => ?_) (fun h_7 => ?_)
    · refine rj_ic0 dX11_isUnder_36 ?_
      refine rj_zret dX11_isUnder_37 (rfl) ?_
      rw [show 6 - i = 0 by omega] at hQ
      exact hQ
    · rw [show 6 - i = (6 - (i + 1)) + 1 by omega] at hQ
      unfold undR at hQ
      refine rj_ild2 dX11_isUnder_10 rfl ?_
      refine rj_S1i cX11_100 dX11_isUnder_11 c_X11_isKind (fitM (by omega) (by decide)) (Nat.le_of_ble_eq_true rfl) ?_
      refine rj_if_eq (tgt := 36) dX11_isUnder_14 (by decide) (fun h_14 => ?_) (fun h_14 => ?_)
      · have hb_14 := bz_t h_14
        rw [if_neg hb_14] at hQ
        refine rj_ic0 dX11_isUnder_36 ?_
        refine rj_zret dX11_isUnder_37 (rfl) ?_
        exact hQ
      · have hb_14 := bz_f h_14
        rw [if_pos hb_14] at hQ
        refine rj_ild2 dX11_isUnder_17 rfl ?_
        refine rj_ild1 dX11_isUnder_18 rfl ?_
        refine rj_ic_ne (tgt := 24) dX11_isUnder_19 (by decide) (fun h_19 => ?_) (fun h_19 => ?_)
        · rw [if_neg h_19] at hQ
          refine rj_getKA sX11_319 dX11_isUnder_24 ?_
          refine rj_ild2 dX11_isUnder_27 rfl ?_
          refine rj_ldKA (vpi hb_14.1 (by omega)) dX11_isUnder_28 ?_
          refine rj_ist2 dX11_isUnder_29 (by decide) rfl ?_
          refine rj_iinc3 (d := 1) dX11_isUnder_30 (by decide) rfl (by decide) ?_
          rw [nI_1]
          refine rj_goto (tgt := 4) dX11_isUnder_33 (by decide) ?_
          exact ih (i + 1) _ (by omega) ⟨by omega, hQ⟩
        · refine rj_ic1 dX11_isUnder_22 ?_
          refine rj_zret dX11_isUnder_23 (rfl) ?_
          rw [if_pos h_19] at hQ
          exact hQ

set_option maxRecDepth 100000 in
theorem c_X11_isUnder {l : Launch} {X : CX} {σ : ST} {k top : Int32} : MJ l X 1 yX11_isUnder cX11_isUnder 4 (some .boolean) [.int k, .int top] σ (eqI (if undR top 6 k = true then 1 else 0) σ) := by
  refine MJ_of (own := RX11) [some (.int k), some (.int top), none, none] (by decide) rfl (Nat.le_of_ble_eq_true rfl) rfl ?_
  refine rj_ild0 dX11_isUnder_0 rfl ?_
  refine rj_ist2 dX11_isUnder_1 (by decide) rfl ?_
  refine rj_ic0 dX11_isUnder_2 ?_
  refine rj_ist3 dX11_isUnder_3 (by decide) rfl ?_
  exact l_X11_isUnder (by decide) 7 0 _ (by omega) ⟨by omega, ⟨rfl, rfl⟩⟩

set_option maxRecDepth 100000 in
theorem c_X11_as {l : Launch} {X : CX} {σ : ST} {fb : Nat} {A : SA} (hC : CR σ fb A) (hw : wf A) {t k : Int32} : MJ l X 3 yX11_as cX11_as 4 (some .int) [.ref (ad X 0), .int t, .int k] σ (OP σ (F_as A t k)) := by
  refine MJ_of (own := RX11) [some (.ref (ad X 0)), some (.int t), some (.int k), none] (by decide) rfl (Nat.le_of_ble_eq_true rfl) rfl ?_
  have hk := cr_k hC
  have hF := hC.2.2.2.2.1
  refine rj_ald0 dX11_as_0 rfl ?_
  refine g11_76 dX11_as_1 ?_
  rw [cr_f hC]
  refine rj_ild1 dX11_as_4 rfl ?_
  refine rj_V1 (ci := 1) cX11_112 rfl (by decide) (by first | assumption | rfl) dX11_as_5 (c_X1_tieAt (cr_k hC) hC.2.2.2.2.1) (fitM (by decide) (by decide)) (Nat.le_of_ble_eq_true rfl) ?_
  rintro v υj ⟨hυj, ⟨j, hvj, hjj, rfl⟩ | ⟨hnj, rfl⟩⟩
  · rw [hυj]
    simp only [Option.toList, List.cons_append, List.nil_append]
    have hj8j : j < 8 := Nat.lt_of_lt_of_le hjj hC.2.2.2.2.1.2.2.2.1
    have hktj := (fair_next (cr_k hC)).2.2 j hj8j
    obtain ⟨hkrj, hkaj, hlnj⟩ := tie_next hktj
    have htij : Ti _ (tk fb j) (fT A j).1 (fT A j).2 := fr_tie hC.2.2.2.2.1 hjj
    have hxj : Rw _ (tk fb j + 1) (fT A j).2 := htij.2
    refine rj_ast3 dX11_as_8 (by decide) rfl ?_
    refine rj_ald3 dX11_as_9 rfl ?_
    refine rj_nu_ref dX11_as_10 ?_
    refine rj_ild2 dX11_as_13 rfl ?_
    refine rj_S1i cX11_100 dX11_as_14 c_X11_isKind (fitM (by decide) (by decide)) (Nat.le_of_ble_eq_true rfl) ?_
    refine rj_if_ne (tgt := 27) dX11_as_17 (by decide) (fun h_17 => ?_) (fun h_17 => ?_)
    · have hb_17 := bz_f h_17
      refine rj_ald3 dX11_as_27 rfl ?_
      refine g11_145 (by first | assumption | rfl) dX11_as_28 ?_
      rw [htij.1]
      refine rj_ild2 dX11_as_31 rfl ?_
      refine rj_S2i cX11_152 dX11_as_32 c_X11_isUnder (fitM (by decide) (by decide)) (Nat.le_of_ble_eq_true rfl) ?_
      refine rj_if_ne (tgt := 45) dX11_as_35 (by decide) (fun h_35 => ?_) (fun h_35 => ?_)
      · have hb_35 := bz_f h_35
        refine rj_ald3 dX11_as_45 rfl ?_
        refine g11_120 (by first | assumption | rfl) dX11_as_46 ?_
        refine g11_129 (by first | assumption | rfl) dX11_as_49 ?_
        refine rj_iret dX11_as_52 ?_
        have e : F_as A t k = (nI (fT A j).2.length, A) := by unfold F_as; rw [wT_in hvj hjj, if_pos hb_17, if_pos hb_35]
        rw [e]
        exact ⟨by rw [hxj.size], cr_same hC⟩
      · have hb_35 := bz_t h_35
        refine rj_ald0 dX11_as_38 rfl ?_
        refine rj_ldc kX11_156 dX11_as_39 ?_
        refine rj_V1 (ci := 11) cX11_88 rfl (by decide) rfl dX11_as_41 (c_X11_found (i := 2) hC (by decide) (by decide)) (fitM (by decide) (by decide)) (Nat.le_of_ble_eq_true rfl) ?_
        rintro v υq ⟨rfl, hq⟩
        simp only [Option.toList, List.cons_append, List.nil_append]
        refine rj_iret dX11_as_44 ?_
        have e : F_as A t k = fnd A 2 := by unfold F_as; rw [wT_in hvj hjj, if_pos hb_17, if_neg hb_35]
        rw [e]
        exact ⟨rfl, hq⟩
    · have hb_17 := bz_t h_17
      refine rj_ald0 dX11_as_20 rfl ?_
      refine rj_ldc kX11_87 dX11_as_21 ?_
      refine rj_V1 (ci := 11) cX11_88 rfl (by decide) rfl dX11_as_23 (c_X11_found (i := 0) hC (by decide) (by decide)) (fitM (by decide) (by decide)) (Nat.le_of_ble_eq_true rfl) ?_
      rintro v υq ⟨rfl, hq⟩
      simp only [Option.toList, List.cons_append, List.nil_append]
      refine rj_iret dX11_as_26 ?_
      have e : F_as A t k = fnd A 0 := by unfold F_as; rw [wT_in hvj hjj, if_neg hb_17]
      rw [e]
      exact ⟨rfl, hq⟩
  · rw [hυj]
    simp only [Option.toList, List.cons_append, List.nil_append]
    refine rj_nst3 dX11_as_8 (by decide) rfl ?_
    refine rj_ald3N dX11_as_9 rfl ?_
    refine rj_nu_null (tgt := 20) dX11_as_10 (by decide) ?_
    refine rj_ald0 dX11_as_20 rfl ?_
    refine rj_ldc kX11_87 dX11_as_21 ?_
    refine rj_V1 (ci := 11) cX11_88 rfl (by decide) rfl dX11_as_23 (c_X11_found (i := 0) hC (by decide) (by decide)) (fitM (by decide) (by decide)) (Nat.le_of_ble_eq_true rfl) ?_
    rintro v υq ⟨rfl, hq⟩
    simp only [Option.toList, List.cons_append, List.nil_append]
    refine rj_iret dX11_as_26 ?_
    have e : F_as A t k = fnd A 0 := by unfold F_as; rw [wT_out hnj]
    rw [e]
    exact ⟨rfl, hq⟩

set_option maxRecDepth 100000 in
theorem c_X11_lays {l : Launch} {X : CX} {σ : ST} {fb : Nat} {A : SA} (hC : CR σ fb A) (hw : wf A) {t i : Int32} : MJ l X 3 yX11_lays cX11_lays 4 (some .int) [.ref (ad X 0), .int t, .int i] σ (OP σ (F_lays A t i)) := by
  refine MJ_of (own := RX11) [some (.ref (ad X 0)), some (.int t), some (.int i), none] (by decide) rfl (Nat.le_of_ble_eq_true rfl) rfl ?_
  have hk := cr_k hC
  have hF := hC.2.2.2.2.1
  refine rj_ald0 dX11_lays_0 rfl ?_
  refine g11_76 dX11_lays_1 ?_
  rw [cr_f hC]
  refine rj_ild1 dX11_lays_4 rfl ?_
  refine rj_V1 (ci := 1) cX11_112 rfl (by decide) (by first | assumption | rfl) dX11_lays_5 (c_X1_tieAt (cr_k hC) hC.2.2.2.2.1) (fitM (by decide) (by decide)) (Nat.le_of_ble_eq_true rfl) ?_
  rintro v υj ⟨hυj, ⟨j, hvj, hjj, rfl⟩ | ⟨hnj, rfl⟩⟩
  · rw [hυj]
    simp only [Option.toList, List.cons_append, List.nil_append]
    have hj8j : j < 8 := Nat.lt_of_lt_of_le hjj hC.2.2.2.2.1.2.2.2.1
    have hktj := (fair_next (cr_k hC)).2.2 j hj8j
    obtain ⟨hkrj, hkaj, hlnj⟩ := tie_next hktj
    have htij : Ti _ (tk fb j) (fT A j).1 (fT A j).2 := fr_tie hC.2.2.2.2.1 hjj
    have hxj : Rw _ (tk fb j + 1) (fT A j).2 := htij.2
    refine rj_ast3 dX11_lays_8 (by decide) rfl ?_
    refine rj_ald3 dX11_lays_9 rfl ?_
    refine rj_nu_ref dX11_lays_10 ?_
    refine rj_ild2 dX11_lays_13 rfl ?_
    refine rj_if_ge (tgt := 24) dX11_lays_14 (by decide) (fun h_14 => ?_) (fun h_14 => ?_)
    · have h12 := htij.len hktj
      have hlt : (nI (lyN (fT A j).1 (fT A j).2.length)).toInt = lyN (fT A j).1 (fT A j).2.length := nI_t (by have := lyN_le (kind := (fT A j).1) h12; omega)
      refine rj_ild2 dX11_lays_24 rfl ?_
      refine rj_ald3 dX11_lays_25 rfl ?_
      refine rj_V0i (ci := 8) cX11_148 rfl (by decide) (by first | assumption | rfl) dX11_lays_26 (c_X8_laidSize hktj htij) (fitM (by decide) (by decide)) (Nat.le_of_ble_eq_true rfl) ?_
      refine rj_ic_lt (tgt := 39) dX11_lays_29 (by decide) (fun h_29 => ?_) (fun h_29 => ?_)
      · refine rj_ald3 dX11_lays_39 rfl ?_
        refine rj_ild2 dX11_lays_40 rfl ?_
        refine rj_ald0 dX11_lays_41 rfl ?_
        refine g11_76 dX11_lays_42 ?_
        rw [cr_f hC]
        refine g11_97 (by first | assumption | rfl) dX11_lays_45 ?_
        rw [hF.2.1]
        refine rj_V2i (ci := 8) cX11_157 rfl (by decide) (by first | assumption | rfl) dX11_lays_48 (c_X8_laidAt (j := i.toInt.toNat) hktj htij (by omega) (by omega)) (fitM (by decide) (by decide)) (Nat.le_of_ble_eq_true rfl) ?_
        refine rj_iret dX11_lays_51 ?_
        have e : F_lays A t i = ((ly (fT A j).1 A.2.1.1 (fT A j).2).getD i.toInt.toNat 0, A) := by unfold F_lays; rw [wT_in hvj hjj, if_neg (by omega), if_pos (by omega)]
        rw [e]
        exact ⟨rfl, cr_same hC⟩
      · refine rj_ald0 dX11_lays_32 rfl ?_
        refine rj_ldc kX11_132 dX11_lays_33 ?_
        refine rj_V1 (ci := 11) cX11_88 rfl (by decide) rfl dX11_lays_35 (c_X11_found (i := 3) hC (by decide) (by decide)) (fitM (by decide) (by decide)) (Nat.le_of_ble_eq_true rfl) ?_
        rintro v υq ⟨rfl, hq⟩
        simp only [Option.toList, List.cons_append, List.nil_append]
        refine rj_iret dX11_lays_38 ?_
        have e : F_lays A t i = fnd A 3 := by unfold F_lays; rw [wT_in hvj hjj, if_neg (by omega), if_neg (by omega)]
        rw [e]
        exact ⟨rfl, hq⟩
    · refine rj_ald0 dX11_lays_17 rfl ?_
      refine rj_ldc kX11_87 dX11_lays_18 ?_
      refine rj_V1 (ci := 11) cX11_88 rfl (by decide) rfl dX11_lays_20 (c_X11_found (i := 0) hC (by decide) (by decide)) (fitM (by decide) (by decide)) (Nat.le_of_ble_eq_true rfl) ?_
      rintro v υq ⟨rfl, hq⟩
      simp only [Option.toList, List.cons_append, List.nil_append]
      refine rj_iret dX11_lays_23 ?_
      have e : F_lays A t i = fnd A 0 := by unfold F_lays; rw [wT_in hvj hjj, if_pos (by omega)]
      rw [e]
      exact ⟨rfl, hq⟩
  · rw [hυj]
    simp only [Option.toList, List.cons_append, List.nil_append]
    refine rj_nst3 dX11_lays_8 (by decide) rfl ?_
    refine rj_ald3N dX11_lays_9 rfl ?_
    refine rj_nu_null (tgt := 17) dX11_lays_10 (by decide) ?_
    refine rj_ald0 dX11_lays_17 rfl ?_
    refine rj_ldc kX11_87 dX11_lays_18 ?_
    refine rj_V1 (ci := 11) cX11_88 rfl (by decide) rfl dX11_lays_20 (c_X11_found (i := 0) hC (by decide) (by decide)) (fitM (by decide) (by decide)) (Nat.le_of_ble_eq_true rfl) ?_
    rintro v υq ⟨rfl, hq⟩
    simp only [Option.toList, List.cons_append, List.nil_append]
    refine rj_iret dX11_lays_23 ?_
    have e : F_lays A t i = fnd A 0 := by unfold F_lays; rw [wT_out hnj]
    rw [e]
    exact ⟨rfl, hq⟩

set_option maxRecDepth 100000 in
theorem c_X11_like {l : Launch} {X : CX} {σ : ST} {fb : Nat} {A : SA} (hC : CR σ fb A) (hw : wf A) {t o : Int32} : MJ l X 3 yX11_like cX11_like 5 (some .int) [.ref (ad X 0), .int t, .int o] σ (OP σ (F_like A t o)) := by
  refine MJ_of (own := RX11) [some (.ref (ad X 0)), some (.int t), some (.int o), none, none] (by decide) rfl (Nat.le_of_ble_eq_true rfl) rfl ?_
  have hk := cr_k hC
  have hF := hC.2.2.2.2.1
  refine rj_ald0 dX11_like_0 rfl ?_
  refine g11_76 dX11_like_1 ?_
  rw [cr_f hC]
  refine rj_ild1 dX11_like_4 rfl ?_
  refine rj_V1 (ci := 1) cX11_112 rfl (by decide) (by first | assumption | rfl) dX11_like_5 (c_X1_tieAt (cr_k hC) hC.2.2.2.2.1) (fitM (by decide) (by decide)) (Nat.le_of_ble_eq_true rfl) ?_
  rintro v υj ⟨hυj, ⟨j, hvj, hjj, rfl⟩ | ⟨hnj, rfl⟩⟩
  · rw [hυj]
    simp only [Option.toList, List.cons_append, List.nil_append]
    have hj8j : j < 8 := Nat.lt_of_lt_of_le hjj hC.2.2.2.2.1.2.2.2.1
    have hktj := (fair_next (cr_k hC)).2.2 j hj8j
    obtain ⟨hkrj, hkaj, hlnj⟩ := tie_next hktj
    have htij : Ti _ (tk fb j) (fT A j).1 (fT A j).2 := fr_tie hC.2.2.2.2.1 hjj
    have hxj : Rw _ (tk fb j + 1) (fT A j).2 := htij.2
    refine rj_ast3 dX11_like_8 (by decide) rfl ?_
    refine rj_ald0 dX11_like_9 rfl ?_
    refine g11_76 dX11_like_10 ?_
    rw [cr_f hC]
    refine rj_ild2 dX11_like_13 rfl ?_
    refine rj_V1 (ci := 1) cX11_112 rfl (by decide) (by first | assumption | rfl) dX11_like_14 (c_X1_tieAt (cr_k hC) hC.2.2.2.2.1) (fitM (by decide) (by decide)) (Nat.le_of_ble_eq_true rfl) ?_
    rintro v υi ⟨hυi, ⟨i, hvi, hji, rfl⟩ | ⟨hni, rfl⟩⟩
    · rw [hυi]
      simp only [Option.toList, List.cons_append, List.nil_append]
      have hj8i : i < 8 := Nat.lt_of_lt_of_le hji hC.2.2.2.2.1.2.2.2.1
      have hkti := (fair_next (cr_k hC)).2.2 i hj8i
      obtain ⟨hkri, hkai, hlni⟩ := tie_next hkti
      have htii : Ti _ (tk fb i) (fT A i).1 (fT A i).2 := fr_tie hC.2.2.2.2.1 hji
      have hxi : Rw _ (tk fb i + 1) (fT A i).2 := htii.2
      refine rj_ast4w dX11_like_17 (by decide) rfl ?_
      refine rj_ald3 dX11_like_19 rfl ?_
      refine rj_nu_ref dX11_like_20 ?_
      refine rj_ald dX11_like_23 rfl ?_
      refine rj_nn_ref (tgt := 35) dX11_like_25 (by decide) ?_
      refine rj_ald3 dX11_like_35 rfl ?_
      refine g11_120 (by first | assumption | rfl) dX11_like_36 ?_
      refine rj_ald dX11_like_39 rfl ?_
      refine g11_120 (by first | assumption | rfl) dX11_like_41 ?_
      refine rj_V1 (ci := 2) cX11_161 rfl (by decide) (by first | assumption | rfl) dX11_like_44 (c_X2_take hkrj hkri hxi (by rw [hlnj]; exact htii.len hkti)) (fitM (by decide) (by decide)) (Nat.le_of_ble_eq_true rfl) ?_
      rintro v τ ⟨rfl, hx1, ho1⟩
      simp only [Option.toList, List.nil_append]
      refine rj_ald3 dX11_like_47 rfl ?_
      refine g11_120 (by first | assumption | rfl) dX11_like_48 ?_
      refine g11_129 (by first | assumption | rfl) dX11_like_51 ?_
      refine rj_iret dX11_like_54 ?_
      have e : F_like A t o = (nI (fT A i).2.length, sT A j ((fT A j).1, (fT A i).2)) := by unfold F_like; rw [wT_in hvj hjj, wT_in hvi hji]
      rw [e]
      exact ⟨by rw [hx1.size], cr_ex (cr_trow hC hjj hx1 ho1)⟩
    · rw [hυi]
      simp only [Option.toList, List.cons_append, List.nil_append]
      refine rj_nst4w dX11_like_17 (by decide) rfl ?_
      refine rj_ald3 dX11_like_19 rfl ?_
      refine rj_nu_ref dX11_like_20 ?_
      refine rj_aldN dX11_like_23 rfl ?_
      refine rj_nn_null dX11_like_25 ?_
      refine rj_ald0 dX11_like_28 rfl ?_
      refine rj_ldc kX11_87 dX11_like_29 ?_
      refine rj_V1 (ci := 11) cX11_88 rfl (by decide) rfl dX11_like_31 (c_X11_found (i := 0) hC (by decide) (by decide)) (fitM (by decide) (by decide)) (Nat.le_of_ble_eq_true rfl) ?_
      rintro v υq ⟨rfl, hq⟩
      simp only [Option.toList, List.cons_append, List.nil_append]
      refine rj_iret dX11_like_34 ?_
      have e : F_like A t o = fnd A 0 := by unfold F_like; rw [wT_in hvj hjj, wT_out hni]
      rw [e]
      exact ⟨rfl, hq⟩
  · rw [hυj]
    simp only [Option.toList, List.cons_append, List.nil_append]
    refine rj_nst3 dX11_like_8 (by decide) rfl ?_
    refine rj_ald0 dX11_like_9 rfl ?_
    refine g11_76 dX11_like_10 ?_
    rw [cr_f hC]
    refine rj_ild2 dX11_like_13 rfl ?_
    refine rj_V1 (ci := 1) cX11_112 rfl (by decide) (by first | assumption | rfl) dX11_like_14 (c_X1_tieAt (cr_k hC) hC.2.2.2.2.1) (fitM (by decide) (by decide)) (Nat.le_of_ble_eq_true rfl) ?_
    rintro v υi ⟨hυi, ⟨i, hvi, hji, rfl⟩ | ⟨hni, rfl⟩⟩
    · rw [hυi]
      simp only [Option.toList, List.cons_append, List.nil_append]
      have hj8i : i < 8 := Nat.lt_of_lt_of_le hji hC.2.2.2.2.1.2.2.2.1
      have hkti := (fair_next (cr_k hC)).2.2 i hj8i
      obtain ⟨hkri, hkai, hlni⟩ := tie_next hkti
      have htii : Ti _ (tk fb i) (fT A i).1 (fT A i).2 := fr_tie hC.2.2.2.2.1 hji
      have hxi : Rw _ (tk fb i + 1) (fT A i).2 := htii.2
      refine rj_ast4w dX11_like_17 (by decide) rfl ?_
      refine rj_ald3N dX11_like_19 rfl ?_
      refine rj_nu_null (tgt := 28) dX11_like_20 (by decide) ?_
      refine rj_ald0 dX11_like_28 rfl ?_
      refine rj_ldc kX11_87 dX11_like_29 ?_
      refine rj_V1 (ci := 11) cX11_88 rfl (by decide) rfl dX11_like_31 (c_X11_found (i := 0) hC (by decide) (by decide)) (fitM (by decide) (by decide)) (Nat.le_of_ble_eq_true rfl) ?_
      rintro v υq ⟨rfl, hq⟩
      simp only [Option.toList, List.cons_append, List.nil_append]
      refine rj_iret dX11_like_34 ?_
      have e : F_like A t o = fnd A 0 := by unfold F_like; rw [wT_out hnj]
      rw [e]
      exact ⟨rfl, hq⟩
    · rw [hυi]
      simp only [Option.toList, List.cons_append, List.nil_append]
      refine rj_nst4w dX11_like_17 (by decide) rfl ?_
      refine rj_ald3N dX11_like_19 rfl ?_
      refine rj_nu_null (tgt := 28) dX11_like_20 (by decide) ?_
      refine rj_ald0 dX11_like_28 rfl ?_
      refine rj_ldc kX11_87 dX11_like_29 ?_
      refine rj_V1 (ci := 11) cX11_88 rfl (by decide) rfl dX11_like_31 (c_X11_found (i := 0) hC (by decide) (by decide)) (fitM (by decide) (by decide)) (Nat.le_of_ble_eq_true rfl) ?_
      rintro v υq ⟨rfl, hq⟩
      simp only [Option.toList, List.cons_append, List.nil_append]
      refine rj_iret dX11_like_34 ?_
      have e : F_like A t o = fnd A 0 := by unfold F_like; rw [wT_out hnj]
      rw [e]
      exact ⟨rfl, hq⟩

set_option maxRecDepth 100000 in
theorem c_X11_pull {l : Launch} {X : CX} {σ : ST} {fb : Nat} {A : SA} (hC : CR σ fb A) (hw : wf A) {t : Int32} : MJ l X 3 yX11_pull cX11_pull 4 (some .int) [.ref (ad X 0), .int t] σ (OP σ (F_pull A t)) := by
  refine MJ_of (own := RX11) [some (.ref (ad X 0)), some (.int t), none, none] (by decide) rfl (Nat.le_of_ble_eq_true rfl) rfl ?_
  have hk := cr_k hC
  have hF := hC.2.2.2.2.1
  refine rj_ald0 dX11_pull_0 rfl ?_
  refine g11_76 dX11_pull_1 ?_
  rw [cr_f hC]
  refine rj_ild1 dX11_pull_4 rfl ?_
  refine rj_V1 (ci := 1) cX11_112 rfl (by decide) (by first | assumption | rfl) dX11_pull_5 (c_X1_tieAt (cr_k hC) hC.2.2.2.2.1) (fitM (by decide) (by decide)) (Nat.le_of_ble_eq_true rfl) ?_
  rintro v υj ⟨hυj, ⟨j, hvj, hjj, rfl⟩ | ⟨hnj, rfl⟩⟩
  · rw [hυj]
    simp only [Option.toList, List.cons_append, List.nil_append]
    have hj8j : j < 8 := Nat.lt_of_lt_of_le hjj hC.2.2.2.2.1.2.2.2.1
    have hktj := (fair_next (cr_k hC)).2.2 j hj8j
    obtain ⟨hkrj, hkaj, hlnj⟩ := tie_next hktj
    have htij : Ti _ (tk fb j) (fT A j).1 (fT A j).2 := fr_tie hC.2.2.2.2.1 hjj
    have hxj : Rw _ (tk fb j + 1) (fT A j).2 := htij.2
    refine rj_ast2 dX11_pull_8 (by decide) rfl ?_
    refine rj_ald2 dX11_pull_9 rfl ?_
    refine rj_nn_ref (tgt := 20) dX11_pull_10 (by decide) ?_
    refine rj_ald2 dX11_pull_20 rfl ?_
    refine g11_120 (by first | assumption | rfl) dX11_pull_21 ?_
    refine g11_129 (by first | assumption | rfl) dX11_pull_24 ?_
    refine rj_ist3 dX11_pull_27 (by decide) rfl ?_
    refine rj_ald2 dX11_pull_28 rfl ?_
    refine g11_120 (by first | assumption | rfl) dX11_pull_29 ?_
    refine rj_V0 (ci := 2) cX11_165 rfl (by decide) (by first | assumption | rfl) dX11_pull_32 (c_X2_tighten hkrj hxj) (fitM (by decide) (by decide)) (Nat.le_of_ble_eq_true rfl) ?_
    rintro v τ ⟨rfl, hx1, ho1⟩
    simp only [Option.toList, List.nil_append]
    refine rj_ild3 dX11_pull_35 rfl ?_
    refine rj_ald2 dX11_pull_36 rfl ?_
    refine g11_120 (by first | assumption | rfl) dX11_pull_37 ?_
    refine g11_129 (by first | assumption | rfl) dX11_pull_40 ?_
    refine rj_isub dX11_pull_43 ?_
    refine rj_iret dX11_pull_44 ?_
    have e : F_pull A t = (nI (fT A j).2.length - nI (red (fT A j).2).length, sT A j ((fT A j).1, red (fT A j).2)) := by unfold F_pull; rw [wT_in hvj hjj]
    rw [e]
    exact ⟨by rw [hx1.size, hxj.size], cr_ex (cr_trow hC hjj hx1 ho1)⟩
  · rw [hυj]
    simp only [Option.toList, List.cons_append, List.nil_append]
    refine rj_nst2 dX11_pull_8 (by decide) rfl ?_
    refine rj_ald2N dX11_pull_9 rfl ?_
    refine rj_nn_null dX11_pull_10 ?_
    refine rj_ald0 dX11_pull_13 rfl ?_
    refine rj_ldc kX11_87 dX11_pull_14 ?_
    refine rj_V1 (ci := 11) cX11_88 rfl (by decide) rfl dX11_pull_16 (c_X11_found (i := 0) hC (by decide) (by decide)) (fitM (by decide) (by decide)) (Nat.le_of_ble_eq_true rfl) ?_
    rintro v υq ⟨rfl, hq⟩
    simp only [Option.toList, List.cons_append, List.nil_append]
    refine rj_iret dX11_pull_19 ?_
    have e : F_pull A t = fnd A 0 := by unfold F_pull; rw [wT_out hnj]
    rw [e]
    exact ⟨rfl, hq⟩

set_option maxRecDepth 100000 in
theorem c_X11_seed {l : Launch} {X : CX} {σ : ST} {fb : Nat} {A : SA} (hC : CR σ fb A) (hw : wf A) {n : Int32} : MJ l X 1 yX11_seed cX11_seed 3 (some .int) [.ref (ad X 0), .int n] σ (OP σ (F_seed A n)) := by
  refine MJ_of (own := RX11) [some (.ref (ad X 0)), some (.int n), none] (by decide) rfl (Nat.le_of_ble_eq_true rfl) rfl ?_
  have hk := cr_k hC
  have hF := hC.2.2.2.2.1
  refine rj_ald0 dX11_seed_0 rfl ?_
  refine g11_76 dX11_seed_1 ?_
  rw [cr_f hC]
  refine g11_251 (by first | assumption | rfl) dX11_seed_4 ?_
  refine rj_ist2 dX11_seed_7 (by decide) rfl ?_
  refine rj_ald0 dX11_seed_8 rfl ?_
  refine g11_76 dX11_seed_9 ?_
  rw [cr_f hC]
  refine rj_ild1 dX11_seed_12 rfl ?_
  refine p11_251 (by first | assumption | rfl) dX11_seed_13 ?_
  refine rj_ild2 dX11_seed_16 rfl ?_
  refine rj_iret dX11_seed_17 ?_
  have hr := fr_z (v := n) hF
  exact ⟨by rw [hF.2.2.1]; rfl, cr_ex (cr_fair hC hr.1 hr.2)⟩

