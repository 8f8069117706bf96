/-! the reference: calls on ties -/
theorem fm_tie {f g : Nat → Int32} {F : FA} {j : Nat} {k : Int32} {xs : List Int32} (h : FM f F) (hj : j < F.2.2.length) (ho : ∀ b, b < 3 + 14 * j ∨ 17 + 14 * j ≤ b → g b = f b) (h1 : g (3 + 14 * j) = k) (h2 : g (4 + 14 * j) = nI xs.length) (h3 : xs.length ≤ 12) (h4 : ∀ i, i < xs.length → g (5 + 14 * j + i) = xs.getD i 0) : FM g (F.1, F.2.1, F.2.2.set j (k, xs)) := by
  obtain ⟨a, b, c, d, e⟩ := h
  refine ⟨by rw [ho 0 (by omega)]; exact a, by rw [ho 1 (by omega)]; simpa using b, by rw [ho 2 (by omega)]; exact c, by simpa using d, fun t ht => ?_⟩
  have ht2 : t < F.2.2.length := by simpa using ht
  show g (3 + 14 * t) = ((F.2.2.set j (k, xs)).getD t t0A).1 ∧ g (4 + 14 * t) = nI ((F.2.2.set j (k, xs)).getD t t0A).2.length ∧ ((F.2.2.set j (k, xs)).getD t t0A).2.length ≤ 12 ∧ ∀ i, i < ((F.2.2.set j (k, xs)).getD t t0A).2.length → g (5 + 14 * t + i) = ((F.2.2.set j (k, xs)).getD t t0A).2.getD i 0
  rw [getD_set _ _ _ _ _ hj]
  by_cases q : t = j
  · subst q
    rw [if_pos rfl]
    exact ⟨h1, h2, h3, h4⟩
  · rw [if_neg q]
    obtain ⟨e1, e2, e3, e4⟩ := e t ht2
    exact ⟨by rw [ho _ (by omega)]; exact e1, by rw [ho _ (by omega)]; exact e2, e3, fun i hi => by rw [ho _ (by omega)]; exact e4 i hi⟩
theorem fm_begin {f g : Nat → Int32} {F : FA} {k : Int32} (h : FM f F) (hl : F.2.2.length < 8) (ho : ∀ b, b < 3 + 14 * F.2.2.length → b ≠ 1 → g b = f b) (h0 : g 1 = nI (F.2.2.length + 1)) (h1 : g (3 + 14 * F.2.2.length) = k) (h2 : g (4 + 14 * F.2.2.length) = 0) : FM g (F.1, F.2.1, F.2.2 ++ [(k, [])]) := by
  obtain ⟨a, b, c, d, e⟩ := h
  refine ⟨by rw [ho 0 (by omega) (by omega)]; exact a, by rw [h0]; simp, by rw [ho 2 (by omega) (by omega)]; exact c, by simp; omega, fun t ht => ?_⟩
  have ht2 : t < F.2.2.length + 1 := by simpa using ht
  show g (3 + 14 * t) = ((F.2.2 ++ [(k, [])]).getD t t0A).1 ∧ g (4 + 14 * t) = nI ((F.2.2 ++ [(k, [])]).getD t t0A).2.length ∧ ((F.2.2 ++ [(k, [])]).getD t t0A).2.length ≤ 12 ∧ ∀ i, i < ((F.2.2 ++ [(k, [])]).getD t t0A).2.length → g (5 + 14 * t + i) = ((F.2.2 ++ [(k, [])]).getD t t0A).2.getD i 0
  by_cases q : t = F.2.2.length
  · subst q
    have hg : List.getD (F.2.2 ++ [((k, ([] : List Int32)) : TA)]) F.2.2.length t0A = (k, []) := by simp [List.getD]
    rw [hg]
    exact ⟨h1, h2, by simp, fun i hi => by simp at hi⟩
  · have hg : List.getD (F.2.2 ++ [((k, ([] : List Int32)) : TA)]) t t0A = F.2.2.getD t t0A := by simp [List.getD, List.getElem?_append_left (show t < F.2.2.length by omega)]
    rw [hg]
    obtain ⟨e1, e2, e3, e4⟩ := e t (by omega)
    exact ⟨by rw [ho _ (by omega) (by omega)]; exact e1, by rw [ho _ (by omega) (by omega)]; exact e2, e3, fun i hi => by rw [ho _ (by omega) (by omega)]; exact e4 i hi⟩
theorem fm_rope {f g : Nat → Int32} {F : FA} {v : Int32} (h : FM f F) (h0 : g 0 = v) (ho : ∀ b, b ≠ 0 → g b = f b) : FM g (v, F.2) := by
  obtain ⟨a, b, c, d, e⟩ := h
  refine ⟨h0, by rw [ho 1 (by omega)]; exact b, by rw [ho 2 (by omega)]; exact c, d, fun t ht => ?_⟩
  obtain ⟨e1, e2, e3, e4⟩ := e t ht
  exact ⟨by rw [ho _ (by omega)]; exact e1, by rw [ho _ (by omega)]; exact e2, e3, fun i hi => by rw [ho _ (by omega)]; exact e4 i hi⟩
theorem fm_z {f g : Nat → Int32} {F : FA} {v : Int32} (h : FM f F) (h0 : g 2 = v) (ho : ∀ b, b ≠ 2 → g b = f b) : FM g (F.1, v, F.2.2) := by
  obtain ⟨a, b, c, d, e⟩ := h
  refine ⟨by rw [ho 0 (by omega)]; exact a, by rw [ho 1 (by omega)]; exact b, h0, d, fun t ht => ?_⟩
  obtain ⟨e1, e2, e3, e4⟩ := e t ht
  exact ⟨by rw [ho _ (by omega)]; exact e1, by rw [ho _ (by omega)]; exact e2, e3, fun i hi => by rw [ho _ (by omega)]; exact e4 i hi⟩
set_option maxRecDepth 100000 in
theorem c_X12_ropes {l : Launch} {X : CX} {σ : ST} {A : SA} (hM : MR σ A) (hw : wf A) {n : Int32} : MJ l X 1 yX12_ropes cX12_ropes 3 (some .int) [.ref (ad X 112), .int n] σ (OM σ (F_ropes A n)) := by
  refine MJ_of (own := RX12) [some (.ref (ad X 112)), some (.int n), none] (by decide) rfl (Nat.le_of_ble_eq_true rfl) rfl ?_
  have h1 := hM.1.2.1
  have h8 := hM.1.2.2.2.1
  have e2 : (2 : Int32).toInt = 2 := by decide
  have e4 : (4 : Int32).toInt = 4 := by decide
  refine rj_ild1 dX12_ropes_0 rfl ?_
  refine rj_ic2 dX12_ropes_1 ?_
  refine rj_ic4 dX12_ropes_2 ?_
  refine rj_S3i cX12_60 dX12_ropes_3 c_X12_in (fitM (by decide) (by decide)) (Nat.le_of_ble_eq_true rfl) ?_
  refine rj_if_ne (tgt := 16) dX12_ropes_6 (by decide) (fun h_6 => ?_) (fun h_6 => ?_)
  · have hb_6 := bz_f h_6
    refine rj_ald0 dX12_ropes_16 rfl ?_
    refine g12_7 dX12_ropes_17 ?_
    refine rj_ic1 dX12_ropes_20 ?_
    refine rj_iald (by first | assumption | rfl) (vpi (by decide) (by decide)) dX12_ropes_21 ?_
    rw [show (1 : Int32).toNatClampNeg = 1 from rfl, h1]
    refine rj_if_le (tgt := 32) dX12_ropes_22 (by decide) (fun h_22 => ?_) (fun h_22 => ?_)
    · rw [nI_t (by omega)] at h_22
      refine rj_ald0 dX12_ropes_32 rfl ?_
      refine g12_7 dX12_ropes_33 ?_
      refine rj_ic0 dX12_ropes_36 ?_
      refine rj_iald (by first | assumption | rfl) (vpi (by decide) (by decide)) dX12_ropes_37 ?_
      refine rj_ist2 dX12_ropes_38 (by decide) rfl ?_
      refine rj_ald0 dX12_ropes_39 rfl ?_
      refine g12_7 dX12_ropes_40 ?_
      refine rj_ic0 dX12_ropes_43 ?_
      refine rj_ild1 dX12_ropes_44 rfl ?_
      refine rj_iast (by first | assumption | rfl) (vpi (by decide) (by decide)) dX12_ropes_45 ?_
      refine rj_ild2 dX12_ropes_46 rfl ?_
      refine rj_iret dX12_ropes_47 ?_
      have e : F_ropes A n = (A.2.1.1, A.1, (n, A.2.1.2), A.2.2) := by unfold F_ropes; rw [if_neg (by omega), if_neg (by omega)]
      rw [e]
      have hF := fm_rope (g := (ui σ 113 0 n).1 113) (v := n) hM.1 (ui_same _ _ _ _) (fun b hb => by rw [ui_at, if_neg (fun z => hb z.2)])
      exact ⟨by rw [show (0 : Int32).toNatClampNeg = 0 from rfl, hM.1.1], mr_row hM hF (off.rf.ui rfl) rfl⟩
    · rw [nI_t (by omega)] at h_22
      refine rj_ald0 dX12_ropes_25 rfl ?_
      refine rj_ldc kX12_72 dX12_ropes_26 ?_
      refine rj_V1 (ci := 12) cX12_68 rfl (by decide) rfl dX12_ropes_28 (c_X12_finds (i := 4) hM (by decide) (by decide)) (fitM (by decide) (by decide)) (Nat.le_of_ble_eq_true rfl) ?_
      rintro v υq ⟨rfl, hq⟩
      simp only [Option.toList, List.cons_append, List.nil_append]
      refine rj_iret dX12_ropes_31 ?_
      have e : F_ropes A n = fnd A 4 := by unfold F_ropes; rw [if_neg (by omega), if_pos (by omega)]
      rw [e]
      exact ⟨rfl, hq⟩
  · have hb_6 := bz_t h_6
    refine rj_ald0 dX12_ropes_9 rfl ?_
    refine rj_ldc kX12_59 dX12_ropes_10 ?_
    refine rj_V1 (ci := 12) cX12_68 rfl (by decide) rfl dX12_ropes_12 (c_X12_finds (i := 0) hM (by decide) (by decide)) (fitM (by decide) (by decide)) (Nat.le_of_ble_eq_true rfl) ?_
    rintro v υq ⟨rfl, hq⟩
    simp only [Option.toList, List.cons_append, List.nil_append]
    refine rj_iret dX12_ropes_15 ?_
    have e : F_ropes A n = fnd A 0 := by unfold F_ropes; rw [if_pos (by omega)]
    rw [e]
    exact ⟨rfl, hq⟩

set_option maxRecDepth 100000 in
theorem c_X12_seed {l : Launch} {X : CX} {σ : ST} {A : SA} (hM : MR σ A) (hw : wf A) {n : Int32} : MJ l X 1 yX12_seed cX12_seed 3 (some .int) [.ref (ad X 112), .int n] σ (OM σ (F_seed A n)) := by
  refine MJ_of (own := RX12) [some (.ref (ad X 112)), some (.int n), none] (by decide) rfl (Nat.le_of_ble_eq_true rfl) rfl ?_
  refine rj_ald0 dX12_seed_0 rfl ?_
  refine g12_7 dX12_seed_1 ?_
  refine rj_ic2 dX12_seed_4 ?_
  refine rj_iald (by first | assumption | rfl) (vpi (by decide) (by decide)) dX12_seed_5 ?_
  refine rj_ist2 dX12_seed_6 (by decide) rfl ?_
  refine rj_ald0 dX12_seed_7 rfl ?_
  refine g12_7 dX12_seed_8 ?_
  refine rj_ic2 dX12_seed_11 ?_
  refine rj_ild1 dX12_seed_12 rfl ?_
  refine rj_iast (by first | assumption | rfl) (vpi (by decide) (by decide)) dX12_seed_13 ?_
  refine rj_ild2 dX12_seed_14 rfl ?_
  refine rj_iret dX12_seed_15 ?_
  have hF := fm_z (g := (ui σ 113 2 n).1 113) (v := n) hM.1 (ui_same _ _ _ _) (fun b hb => by rw [ui_at, if_neg (fun z => hb z.2)])
  exact ⟨by rw [show (2 : Int32).toNatClampNeg = 2 from rfl, hM.1.2.2.1]; rfl, mr_row hM hF (off.rf.ui rfl) rfl⟩

theorem off_r {σ τ : ST} {j : Nat} {v : Int32} (h : off (fun a => a = 113) σ τ) : off (fun a => a = 113) σ (ui τ 113 j v) := h.ui rfl
theorem at_s {t : Int32} {j b : Nat} (ht : t.toInt = j) (h : j ≤ 8) (hb : b ≤ 14) : (3 + 14 * t + nI b).toInt = (3 + 14 * j + b : Nat) ∧ (3 + 14 * t + nI b).toNatClampNeg = 3 + 14 * j + b := by
  have e := at_n (t := j) h hb
  rw [← nI_of_toInt ht] at e
  refine ⟨by rw [e]; omega, by rw [cl_i, e]; omega⟩
set_option maxRecDepth 100000 in
theorem c_X12_crossingR {l : Launch} {X : CX} {σ : ST} {t : Int32} {j i : Nat} (ht : t.toInt = j) (hj : j < 8) (hi : i < 12) : MJ l X 1 yX12_crossing cX12_crossing 3 (some .int) [.ref (ad X 112), .int t, .int (nI i)] σ (eqI (σ.1 113 (5 + 14 * j + i)) σ) := by
  refine MJ_of (own := RX12) [some (.ref (ad X 112)), some (.int t), some (.int (nI i))] (by decide) rfl (Nat.le_of_ble_eq_true rfl) rfl ?_
  have hq := at_s (b := 2 + i) ht (by omega) (by omega)
  have e2 : (2 : Int32) + nI i = nI (2 + i) := by rw [show (2 : Int32) = nI 2 from rfl, nI_add]
  refine rj_ald0 dX12_crossing_0 rfl ?_
  refine g12_7 dX12_crossing_1 ?_
  refine rj_ild1 dX12_crossing_4 rfl ?_
  refine rj_ic2 dX12_crossing_5 ?_
  refine rj_ild2 dX12_crossing_6 rfl ?_
  refine rj_iadd dX12_crossing_7 ?_
  rw [e2]
  refine rj_S2i cX12_64 dX12_crossing_8 c_X12_at (fitM (by decide) (by decide)) (Nat.le_of_ble_eq_true rfl) ?_
  refine rj_iald (by first | assumption | rfl) (vpi (by omega) (by show _ < ((115 : Nat) : Int); omega)) dX12_crossing_11 ?_
  refine rj_iret dX12_crossing_12 ?_
  refine ⟨?_, rfl⟩
  rw [hq.2, show 3 + 14 * j + (2 + i) = 5 + 14 * j + i by omega]

set_option maxRecDepth 100000 in
theorem c_X12_addTie {l : Launch} {X : CX} {σ : ST} {A : SA} (hM : MR σ A) {k : Int32} (hl : A.2.1.2.2.length < 8) : MJ l X 1 yX12_addTie cX12_addTie 3 none [.ref (ad X 112), .int k] σ (PV (fun τ => MR τ (A.1, (A.2.1.1, A.2.1.2.1, A.2.1.2.2 ++ [(k, [])]), A.2.2) ∧ off mdP σ τ)) := by
  refine MJ_of (own := RX12) [some (.ref (ad X 112)), some (.int k), none] (by decide) rfl (Nat.le_of_ble_eq_true rfl) rfl ?_
  have h1 := hM.1.2.1
  have hlt : (nI A.2.1.2.2.length).toInt = A.2.1.2.2.length := nI_t (by omega)
  have hq0 := at_s (b := 0) hlt (by omega) (by omega)
  have hq1 := at_s (b := 1) hlt (by omega) (by omega)
  refine rj_ald0 dX12_addTie_0 rfl ?_
  refine g12_7 dX12_addTie_1 ?_
  refine rj_ic1 dX12_addTie_4 ?_
  refine rj_iald (by first | assumption | rfl) (vpi (by decide) (by decide)) dX12_addTie_5 ?_
  rw [show (1 : Int32).toNatClampNeg = 1 from rfl, h1]
  refine rj_ist2 dX12_addTie_6 (by decide) rfl ?_
  refine rj_ald0 dX12_addTie_7 rfl ?_
  refine g12_7 dX12_addTie_8 ?_
  refine rj_ild2 dX12_addTie_11 rfl ?_
  refine rj_ic0 dX12_addTie_12 ?_
  rw [show (0 : Int32) = nI 0 from rfl]
  refine rj_S2i cX12_64 dX12_addTie_13 c_X12_at (fitM (by decide) (by decide)) (Nat.le_of_ble_eq_true rfl) ?_
  refine rj_ild1 dX12_addTie_16 rfl ?_
  refine rj_iast (by first | assumption | rfl) (vpi (by omega) (by show _ < ((115 : Nat) : Int); omega)) dX12_addTie_17 ?_
  rw [hq0.2]
  refine rj_ald0 dX12_addTie_18 rfl ?_
  refine g12_7 dX12_addTie_19 ?_
  refine rj_ild2 dX12_addTie_22 rfl ?_
  refine rj_ic1 dX12_addTie_23 ?_
  rw [show (1 : Int32) = nI 1 from rfl]
  refine rj_S2i cX12_64 dX12_addTie_24 c_X12_at (fitM (by decide) (by decide)) (Nat.le_of_ble_eq_true rfl) ?_
  refine rj_ic0 dX12_addTie_27 ?_
  refine rj_iast (by first | assumption | rfl) (vpi (by omega) (by show _ < ((115 : Nat) : Int); omega)) dX12_addTie_28 ?_
  rw [hq1.2]
  refine rj_ald0 dX12_addTie_29 rfl ?_
  refine g12_7 dX12_addTie_30 ?_
  refine rj_ic1 dX12_addTie_33 ?_
  refine rj_dup2 dX12_addTie_34 rfl rfl ?_
  refine rj_iald (by first | assumption | rfl) (vpi (by decide) (by decide)) dX12_addTie_35 ?_
  refine rj_ic1 dX12_addTie_36 ?_
  refine rj_iadd dX12_addTie_37 ?_
  refine rj_iast (by first | assumption | rfl) (vpi (by decide) (by decide)) dX12_addTie_38 ?_
  refine rj_vret dX12_addTie_39 ?_
  rw [show (1 : Int32).toNatClampNeg = 1 from rfl]
  refine ⟨rfl, mr_row hM (fm_begin hM.1 hl (fun b hb h => ?_) ?_ ?_ ?_) (off_r (off_r (off_r off.rf))) rfl⟩
  · rw [ui_at, if_neg (by omega), ui_at, if_neg (by omega), ui_at, if_neg (by omega)]
  · rw [ui_same, ui_at, if_neg (by omega), ui_at, if_neg (by omega), h1, nI_1]
  · rw [ui_at, if_neg (by omega), ui_at, if_neg (by omega), ui_at, if_pos ⟨rfl, rfl⟩]
  · rw [ui_at, if_neg (by omega), ui_at, if_pos ⟨rfl, by omega⟩]

set_option maxRecDepth 100000 in
theorem c_X12_tie {l : Launch} {X : CX} {σ : ST} {A : SA} (hM : MR σ A) (hw : wf A) {n : Int32} : MJ l X 2 yX12_tie cX12_tie 2 (some .int) [.ref (ad X 112), .int n] σ (OM σ (F_tie A n)) := by
  refine MJ_of (own := RX12) [some (.ref (ad X 112)), some (.int n)] (by decide) rfl (Nat.le_of_ble_eq_true rfl) rfl ?_
  have h1 := hM.1.2.1
  have h8 := hM.1.2.2.2.1
  have e8 : (8 : Int32).toInt = 8 := by decide
  have hlt : (nI A.2.1.2.2.length).toInt = A.2.1.2.2.length := nI_t (by omega)
  refine rj_ild1 dX12_tie_0 rfl ?_
  refine rj_S1i cX12_73 dX12_tie_1 c_X12_isKind (fitM (by decide) (by decide)) (Nat.le_of_ble_eq_true rfl) ?_
  refine rj_if_ne (tgt := 14) dX12_tie_4 (by decide) (fun h_4 => ?_) (fun h_4 => ?_)
  · have hb_4 := bz_f h_4
    refine rj_ald0 dX12_tie_14 rfl ?_
    refine g12_7 dX12_tie_15 ?_
    refine rj_ic1 dX12_tie_18 ?_
    refine rj_iald (by first | assumption | rfl) (vpi (by decide) (by decide)) dX12_tie_19 ?_
    rw [show (1 : Int32).toNatClampNeg = 1 from rfl, h1]
    refine rj_bipush (v := 8) dX12_tie_20 (by decide) ?_
    refine rj_ic_ne (tgt := 32) dX12_tie_22 (by decide) (fun h_22 => ?_) (fun h_22 => ?_)
    · have hl : A.2.1.2.2.length < 8 := by
        rcases Nat.lt_or_ge A.2.1.2.2.length 8 with z | z
        · exact z
        · exact absurd (i_inj (by omega)) h_22
      refine rj_ald0 dX12_tie_32 rfl ?_
      refine rj_ild1 dX12_tie_33 rfl ?_
      refine rj_V1 (ci := 12) cX12_78 rfl (by decide) (by first | assumption | rfl) dX12_tie_34 (c_X12_addTie hM hl) (fitM (by decide) (by decide)) (Nat.le_of_ble_eq_true rfl) ?_
      rintro v τ ⟨rfl, hM1, ho1⟩
      simp only [Option.toList, List.nil_append]
      refine rj_ald0 dX12_tie_37 rfl ?_
      refine g12_7 dX12_tie_38 ?_
      refine rj_ic1 dX12_tie_41 ?_
      refine rj_iald (by first | assumption | rfl) (vpi (by decide) (by decide)) dX12_tie_42 ?_
      refine rj_ic1 dX12_tie_43 ?_
      refine rj_isub dX12_tie_44 ?_
      refine rj_iret dX12_tie_45 ?_
      have e : F_tie A n = (nI A.2.1.2.2.length, A.1, (A.2.1.1, A.2.1.2.1, A.2.1.2.2 ++ [(n, [])]), A.2.2) := by unfold F_tie; rw [if_pos hb_4, if_pos hl]
      rw [e]
      refine ⟨?_, hM1, ho1⟩
      rw [show (1 : Int32).toNatClampNeg = 1 from rfl, hM1.1.2.1]
      congr 2
      apply i_inj
      have hlen : (A.2.1.2.2 ++ [((n, ([] : List Int32)) : TA)]).length = A.2.1.2.2.length + 1 := by simp
      show (nI (A.2.1.2.2 ++ [((n, ([] : List Int32)) : TA)]).length - 1).toInt = _
      rw [hlen, i_sub (by rw [nI_t (by omega), t1]; omega) (by rw [nI_t (by omega), t1]; omega), nI_t (by omega), nI_t (by omega), t1]
      omega
    · have hl : ¬ A.2.1.2.2.length < 8 := by have := congrArg Int32.toInt h_22; omega
      refine rj_ald0 dX12_tie_25 rfl ?_
      refine rj_ldc kX12_77 dX12_tie_26 ?_
      refine rj_V1 (ci := 12) cX12_68 rfl (by decide) rfl dX12_tie_28 (c_X12_finds (i := 1) hM (by decide) (by decide)) (fitM (by decide) (by decide)) (Nat.le_of_ble_eq_true rfl) ?_
      rintro v υq ⟨rfl, hq⟩
      simp only [Option.toList, List.cons_append, List.nil_append]
      refine rj_iret dX12_tie_31 ?_
      have e : F_tie A n = fnd A 1 := by unfold F_tie; rw [if_pos hb_4, if_neg hl]
      rw [e]
      exact ⟨rfl, hq⟩
  · have hb_4 := bz_t h_4
    refine rj_ald0 dX12_tie_7 rfl ?_
    refine rj_ldc kX12_59 dX12_tie_8 ?_
    refine rj_V1 (ci := 12) cX12_68 rfl (by decide) rfl dX12_tie_10 (c_X12_finds (i := 0) hM (by decide) (by decide)) (fitM (by decide) (by decide)) (Nat.le_of_ble_eq_true rfl) ?_
    rintro v υq ⟨rfl, hq⟩
    simp only [Option.toList, List.cons_append, List.nil_append]
    refine rj_iret dX12_tie_13 ?_
    have e : F_tie A n = fnd A 0 := by unfold F_tie; rw [if_neg hb_4]
    rw [e]
    exact ⟨rfl, hq⟩

