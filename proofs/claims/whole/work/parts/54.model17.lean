/-! the reference: sheets -/
abbrev c4s : Nat → Prop := fun a => 123 ≤ a ∧ a ≤ 126
theorem mr_sheet {σ τ : ST} {A : SA} {p : Nat} {b : Int32} {xs : List Int64} (h : MR σ A) (hp : p < 4) (ho : off c4s σ τ) (h1 : ∀ s, s < 4 → s ≠ p → τ.1 123 s = σ.1 123 s ∧ τ.1 124 s = σ.1 124 s ∧ ∀ i, i < 40 → τ.2 125 (40 * s + i) = σ.2 125 (40 * s + i)) (h2 : τ.1 123 p = b) (h3 : τ.1 124 p = nI xs.length) (h4 : xs.length ≤ 40) (h5 : ∀ i, i < xs.length → τ.2 125 (40 * p + i) = xs.getD i 0) : MR τ (sS A p (b, xs)) ∧ off mdP σ τ := by
  refine ⟨?_, ho.mono (fun a ha => by unfold mdP; omega)⟩
  obtain ⟨a1, a2, a3, a4, a5⟩ := h
  unfold MR
  rw [(ho 112 (by omega)).1, (ho 113 (by omega)).1, (ho 114 (by omega)).1, (ho 122 (by omega)).1, (ho 127 (by omega)).1]
  refine ⟨a1, a2, a3, a4, fun s hs => ?_⟩
  show τ.1 123 s = (if s = p then (b, xs) else A.2.2.2.2 s).1 ∧ τ.1 124 s = nI (if s = p then (b, xs) else A.2.2.2.2 s).2.length ∧ (if s = p then (b, xs) else A.2.2.2.2 s).2.length ≤ 40 ∧ ∀ i, i < (if s = p then (b, xs) else A.2.2.2.2 s).2.length → τ.2 125 (40 * s + i) = (if s = p then (b, xs) else A.2.2.2.2 s).2.getD i 0
  by_cases z : s = p
  · subst z
    rw [if_pos rfl]
    exact ⟨h2, h3, h4, h5⟩
  · rw [if_neg z]
    obtain ⟨e1, e2, e3, e4⟩ := a5 s hs
    obtain ⟨q1, q2, q3⟩ := h1 s hs z
    exact ⟨by rw [q1]; exact e1, by rw [q2]; exact e2, e3, fun i hi => by rw [q3 i (Nat.lt_of_lt_of_le hi e3)]; exact e4 i hi⟩
theorem q3i : (3 : Int32).toInt = 3 := by decide
theorem e40 (p k : Nat) : 40 * nI p + nI k = nI (40 * p + k) := by rw [show (40 : Int32) = nI 40 from rfl, pk_mul, nI_add]
theorem ms_in {s : Int32} (h : 0 ≤ s.toInt ∧ s.toInt < 4) : ∃ p : Nat, s = nI p ∧ p < 4 := ⟨s.toInt.toNat, i_nI h.1, by omega⟩
set_option maxRecDepth 100000 in
theorem c_X12_isSheet {l : Launch} {X : CX} {σ : ST} {s : Int32} : MJ l X 1 yX12_isSheet cX12_isSheet 1 (some .boolean) [.int s] σ (eqI (if 0 ≤ s.toInt ∧ s.toInt < 4 then 1 else 0) σ) := by
  refine MJ_of (own := RX12) [some (.int s)] (by decide) rfl (Nat.le_of_ble_eq_true rfl) rfl ?_
  refine rj_ild0 dX12_isSheet_0 rfl ?_
  refine rj_ic0 dX12_isSheet_1 ?_
  refine rj_ic3 dX12_isSheet_2 ?_
  refine rj_S3i cX12_60 dX12_isSheet_3 c_X12_in (fitM (by decide) (by decide)) (Nat.le_of_ble_eq_true rfl) ?_
  refine rj_zret dX12_isSheet_6 (by split <;> rfl) ?_
  refine ⟨?_, rfl⟩
  have q3 := q3i
  congr 2
  by_cases h : 0 ≤ s.toInt ∧ s.toInt < 4
  · rw [if_pos h, if_pos (by rw [t0]; omega)]
  · rw [if_neg h, if_neg (by rw [t0]; omega)]

set_option maxRecDepth 100000 in
theorem c_X12_narrow {l : Launch} {X : CX} {σ : ST} {b : Int32} {v : Int64} : MJ l X 0 yX12_narrow cX12_narrow 3 (some .long) [.int b, .long v] σ (eqL (lowB b v) σ) := by
  refine MJ_of (own := RX12) [some (.int b), some (.long v), none] (by decide) rfl (Nat.le_of_ble_eq_true rfl) rfl ?_
  refine rj_ild0 dX12_narrow_0 rfl ?_
  refine rj_bipush (v := 8) dX12_narrow_1 (by decide) ?_
  refine rj_ic_ne (tgt := 16) dX12_narrow_3 (by decide) (fun h_3 => ?_) (fun h_3 => ?_)
  · refine rj_ild0 dX12_narrow_16 rfl ?_
    refine rj_bipush (v := 16) dX12_narrow_17 (by decide) ?_
    refine rj_ic_ne (tgt := 32) dX12_narrow_19 (by decide) (fun h_19 => ?_) (fun h_19 => ?_)
    · refine rj_lld1 dX12_narrow_32 rfl ?_
      refine rj_lret dX12_narrow_33 ?_
      refine ⟨?_, rfl⟩
      unfold lowB
      rw [if_neg h_3, if_neg h_19]
    · refine rj_lld1 dX12_narrow_22 rfl ?_
      refine rj_bipush (v := 48) dX12_narrow_23 (by decide) ?_
      refine rj_lshl dX12_narrow_25 ?_
      refine rj_bipush (v := 48) dX12_narrow_26 (by decide) ?_
      refine rj_lshr dX12_narrow_28 ?_
      refine rj_goto (tgt := 33) dX12_narrow_29 (by decide) ?_
      refine rj_lret dX12_narrow_33 ?_
      refine ⟨?_, rfl⟩
      unfold lowB
      rw [if_neg h_3, if_pos h_19, nr16]
  · refine rj_lld1 dX12_narrow_6 rfl ?_
    refine rj_bipush (v := 56) dX12_narrow_7 (by decide) ?_
    refine rj_lshl dX12_narrow_9 ?_
    refine rj_bipush (v := 56) dX12_narrow_10 (by decide) ?_
    refine rj_lshr dX12_narrow_12 ?_
    refine rj_goto (tgt := 33) dX12_narrow_13 (by decide) ?_
    refine rj_lret dX12_narrow_33 ?_
    refine ⟨?_, rfl⟩
    unfold lowB
    rw [if_pos h_3, nr8]

set_option maxRecDepth 100000 in
theorem l_X12_sheet {l : Launch} {X : CX} {h : Nat} {Q : Option Value → ST → Prop} {σ : ST} {p : Nat} {b n r : Int32} (hp : p < 4) (hr : σ.1 124 p = r) (hQ : ∀ τ, (∀ i, i < 40 → τ.2 125 (40 * p + i) = 0) → (∀ i, i < 40 * p ∨ 40 * p + 40 ≤ i → τ.2 125 i = σ.2 125 i) → off (fun a => a = 125) σ τ → τ.1 = σ.1 → Q (some (.int r)) τ) : ∀ (N i : Nat) (τ : ST), 40 < i + N → (i ≤ 40 ∧ (∀ q, q < i → τ.2 125 (40 * p + q) = 0) ∧ (∀ q, q < 40 * p ∨ 40 * p + 40 ≤ q → τ.2 125 q = σ.2 125 q) ∧ off (fun a => a = 125) σ τ ∧ τ.1 = σ.1) → RJ (GM l X h Q) X cX12_sheet 5 (some .int) RX12 86 [some (.ref (ad X 112)), some (.int (nI p)), some (.int b), some (.int n), some (.int (nI i))] [] τ := by
  intro N
  induction N with
  | zero => intro i τ hN hi; have := hi.1; exact absurd hN (by omega)
  | succ N ih =>
    intro i τ hN hi
    obtain ⟨hi, h1, h2, ho, h3⟩ := hi
    have hit : (nI i).toInt = i := nI_t (by omega)
    have q40 : (40 : Int32).toInt = 40 := by decide
    have hpt : (nI p).toInt = p := nI_t (by omega)
    have het : (nI (40 * p + i)).toInt = 40 * p + i := by rw [nI_t (by omega)]; omega
    refine rj_ild dX12_sheet_86 rfl ?_
    refine rj_bipush (v := 40) dX12_sheet_88 (by decide) ?_
    refine rj_ic_ge (tgt := 112) dX12_sheet_90 (by decide) (fun h_90 => ?_) (fun h_90 => ?_)
    · refine rj_ald0 dX12_sheet_112 rfl ?_
      refine g12_43 dX12_sheet_113 ?_
      refine rj_ild1 dX12_sheet_116 rfl ?_
      refine rj_iald (by first | assumption | rfl) (vpi (by omega) (by show _ < ((4 : Nat) : Int); omega)) dX12_sheet_117 ?_
      rw [nI_clamp (by omega), h3, hr]
      refine rj_iret dX12_sheet_118 ?_
      exact hQ τ (fun q hq => h1 q (by omega)) h2 ho h3
    · refine rj_ald0 dX12_sheet_93 rfl ?_
      refine g12_46 dX12_sheet_94 ?_
      refine rj_bipush (v := 40) dX12_sheet_97 (by decide) ?_
      refine rj_ild1 dX12_sheet_99 rfl ?_
      refine rj_imul dX12_sheet_100 ?_
      refine rj_ild dX12_sheet_101 rfl ?_
      refine rj_iadd dX12_sheet_103 ?_
      rw [e40]
      refine rj_lc0 dX12_sheet_104 ?_
      refine rj_last (by first | assumption | rfl) (vpi (by omega) (by show _ < ((160 : Nat) : Int); omega)) dX12_sheet_105 ?_
      rw [nI_clamp (by omega)]
      refine rj_iinc4 (d := 1) dX12_sheet_106 (by decide) rfl (by decide) ?_
      rw [nI_1]
      refine rj_goto (tgt := 86) dX12_sheet_109 (by decide) ?_
      refine ih (i + 1) _ (by omega) ⟨by omega, fun q hq => ?_, fun q hq => ?_, ho.ul rfl, by rw [ul_1]; exact h3⟩
      · rw [ul_at]
        by_cases z : q = i
        · rw [if_pos ⟨rfl, by omega⟩]
        · rw [if_neg (by omega)]; exact h1 q (by omega)
      · rw [ul_at, if_neg (by omega)]; exact h2 q hq

theorem gd_rep (n i : Nat) : (List.replicate n (0 : Int64)).getD i 0 = 0 := by
  rw [List.getD_eq_getElem?_getD, List.getElem?_replicate]
  split <;> rfl
set_option maxRecDepth 100000 in
theorem c_X12_sheet {l : Launch} {X : CX} {σ : ST} {A : SA} (hM : MR σ A) (hw : wf A) {s b n : Int32} : MJ l X 2 yX12_sheet cX12_sheet 5 (some .int) [.ref (ad X 112), .int s, .int b, .int n] σ (OM σ (F_sheet A s b n)) := by
  refine MJ_of (own := RX12) [some (.ref (ad X 112)), some (.int s), some (.int b), some (.int n), none] (by decide) rfl (Nat.le_of_ble_eq_true rfl) rfl ?_
  have q40 : (40 : Int32).toInt = 40 := by decide
  refine rj_ild1 dX12_sheet_0 rfl ?_
  refine rj_S1i cX12_308 dX12_sheet_1 c_X12_isSheet (fitM (by decide) (by decide)) (Nat.le_of_ble_eq_true rfl) ?_
  refine rj_if_eq (tgt := 29) dX12_sheet_4 (by decide) (fun h_4 => ?_) (fun h_4 => ?_)
  · have hb_4 := bz_t h_4
    refine rj_ald0 dX12_sheet_29 rfl ?_
    refine rj_ldc kX12_59 dX12_sheet_30 ?_
    refine rj_V1 (ci := 12) cX12_68 rfl (by decide) rfl dX12_sheet_32 (c_X12_finds (i := 0) hM (by decide) (by decide)) (fitM (by decide) (by decide)) (Nat.le_of_ble_eq_true rfl) ?_
    rintro v υq ⟨rfl, hq⟩
    simp only [Option.toList, List.cons_append, List.nil_append]
    refine rj_iret dX12_sheet_35 ?_
    have e : F_sheet A s b n = fnd A 0 := by unfold F_sheet; rw [wS_out hb_4]
    rw [e]
    exact ⟨rfl, hq⟩
  · have hb_4 := bz_f h_4
    obtain ⟨p, rfl, hp⟩ := ms_in hb_4
    obtain ⟨g1, g2, g3, g4⟩ := hM.2.2.2.2 p hp
    have hpt : (nI p).toInt = p := nI_t (by omega)
    have hlt : (nI (shT A p).2.length).toInt = (shT A p).2.length := nI_t (by omega)
    refine rj_ild2 dX12_sheet_7 rfl ?_
    refine rj_if_eq (tgt := 36) dX12_sheet_8 (by decide) (fun h_8 => ?_) (fun h_8 => ?_)
    · have h4b : b = 0 ∨ b = 8 ∨ b = 16 ∨ b = 64 := Or.inl h_8
      refine rj_ild3 dX12_sheet_36 rfl ?_
      refine rj_if_ge (tgt := 48) dX12_sheet_37 (by decide) (fun h_37 => ?_) (fun h_37 => ?_)
      · refine rj_ild3 dX12_sheet_48 rfl ?_
        refine rj_bipush (v := 40) dX12_sheet_49 (by decide) ?_
        refine rj_ic_le (tgt := 61) dX12_sheet_51 (by decide) (fun h_51 => ?_) (fun h_51 => ?_)
        · refine rj_ald0 dX12_sheet_61 rfl ?_
          refine g12_40 dX12_sheet_62 ?_
          refine rj_ild1 dX12_sheet_65 rfl ?_
          refine rj_ild2 dX12_sheet_66 rfl ?_
          refine rj_iast (by first | assumption | rfl) (vpi (by omega) (by show _ < ((4 : Nat) : Int); omega)) dX12_sheet_67 ?_
          rw [nI_clamp (by omega)]
          refine rj_ald0 dX12_sheet_68 rfl ?_
          refine g12_43 dX12_sheet_69 ?_
          refine rj_ild1 dX12_sheet_72 rfl ?_
          refine rj_ild2 dX12_sheet_73 rfl ?_
          refine rj_if_ne (tgt := 81) dX12_sheet_74 (by decide) (fun h_74 => ?_) (fun h_74 => ?_)
          · exact absurd h_8 h_74
          · refine rj_ic0 dX12_sheet_77 ?_
            refine rj_goto (tgt := 82) dX12_sheet_78 (by decide) ?_
            refine rj_iast (by first | assumption | rfl) (vpi (by omega) (by show _ < ((4 : Nat) : Int); omega)) dX12_sheet_82 ?_
            rw [nI_clamp (by omega)]
            refine rj_ic0 dX12_sheet_83 ?_
            refine rj_ist4w dX12_sheet_84 (by decide) rfl ?_
            have e : F_sheet A (nI p) b n = (nI (0), sS A p (b, List.replicate (0) 0)) := by unfold F_sheet; rw [wS_in hpt hp, if_pos h4b, if_neg (by omega), if_neg (by omega), if_pos h_8]
            rw [e]
            refine l_X12_sheet (r := nI (0)) hp (by rw [ui_same]; rfl) (fun τ k1 k2 ko k3 => ⟨rfl, ?_⟩) 41 0 _ (by omega) ⟨by omega, fun q hq => absurd hq (by omega), fun _ _ => rfl, off.rf, rfl⟩
            have ho : off c4s σ τ := ((off.rf.ui (by omega)).ui (by omega)).tr (ko.mono (fun a ha => by rw [show a = 125 from ha]; omega))
            refine mr_sheet hM hp ho (fun s hs hne => ⟨?_, ?_, fun i hi => ?_⟩) ?_ ?_ (by rw [List.length_replicate]; omega) (fun i hi => ?_)
            · rw [k3, ui_ne (by decide), ui_at, if_neg (fun z => hne z.2)]
            · rw [k3, ui_at, if_neg (fun z => hne z.2), ui_ne (by decide)]
            · rw [k2 _ (by omega)]; rfl
            · rw [k3, ui_ne (by decide), ui_same]
            · rw [k3, ui_same, List.length_replicate]; rfl
            · rw [List.length_replicate] at hi
              rw [k1 i (by omega), gd_rep]
        · refine rj_ald0 dX12_sheet_54 rfl ?_
          refine rj_ldc kX12_59 dX12_sheet_55 ?_
          refine rj_V1 (ci := 12) cX12_68 rfl (by decide) rfl dX12_sheet_57 (c_X12_finds (i := 0) hM (by decide) (by decide)) (fitM (by decide) (by decide)) (Nat.le_of_ble_eq_true rfl) ?_
          rintro v υq ⟨rfl, hq⟩
          simp only [Option.toList, List.cons_append, List.nil_append]
          refine rj_iret dX12_sheet_60 ?_
          have e : F_sheet A (nI p) b n = fnd A 0 := by unfold F_sheet; rw [wS_in hpt hp, if_pos h4b, if_neg (by omega), if_pos (by omega)]
          rw [e]
          exact ⟨rfl, hq⟩
      · refine rj_ald0 dX12_sheet_40 rfl ?_
        refine rj_ldcw kX12_311 dX12_sheet_41 ?_
        refine rj_V1 (ci := 12) cX12_68 rfl (by decide) rfl dX12_sheet_44 (c_X12_finds (i := 6) hM (by decide) (by decide)) (fitM (by decide) (by decide)) (Nat.le_of_ble_eq_true rfl) ?_
        rintro v υq ⟨rfl, hq⟩
        simp only [Option.toList, List.cons_append, List.nil_append]
        refine rj_iret dX12_sheet_47 ?_
        have e : F_sheet A (nI p) b n = fnd A 6 := by unfold F_sheet; rw [wS_in hpt hp, if_pos h4b, if_pos (by omega)]
        rw [e]
        exact ⟨rfl, hq⟩
    · refine rj_ild2 dX12_sheet_11 rfl ?_
      refine rj_bipush (v := 8) dX12_sheet_12 (by decide) ?_
      refine rj_ic_eq (tgt := 36) dX12_sheet_14 (by decide) (fun h_14 => ?_) (fun h_14 => ?_)
      · have h4b : b = 0 ∨ b = 8 ∨ b = 16 ∨ b = 64 := Or.inr (Or.inl h_14)
        refine rj_ild3 dX12_sheet_36 rfl ?_
        refine rj_if_ge (tgt := 48) dX12_sheet_37 (by decide) (fun h_37 => ?_) (fun h_37 => ?_)
        · refine rj_ild3 dX12_sheet_48 rfl ?_
          refine rj_bipush (v := 40) dX12_sheet_49 (by decide) ?_
          refine rj_ic_le (tgt := 61) dX12_sheet_51 (by decide) (fun h_51 => ?_) (fun h_51 => ?_)
          · refine rj_ald0 dX12_sheet_61 rfl ?_
            refine g12_40 dX12_sheet_62 ?_
            refine rj_ild1 dX12_sheet_65 rfl ?_
            refine rj_ild2 dX12_sheet_66 rfl ?_
            refine rj_iast (by first | assumption | rfl) (vpi (by omega) (by show _ < ((4 : Nat) : Int); omega)) dX12_sheet_67 ?_
            rw [nI_clamp (by omega)]
            refine rj_ald0 dX12_sheet_68 rfl ?_
            refine g12_43 dX12_sheet_69 ?_
            refine rj_ild1 dX12_sheet_72 rfl ?_
            refine rj_ild2 dX12_sheet_73 rfl ?_
            refine rj_if_ne (tgt := 81) dX12_sheet_74 (by decide) (fun h_74 => ?_) (fun h_74 => ?_)
            · refine rj_ild3 dX12_sheet_81 rfl ?_
              refine rj_iast (by first | assumption | rfl) (vpi (by omega) (by show _ < ((4 : Nat) : Int); omega)) dX12_sheet_82 ?_
              rw [nI_clamp (by omega)]
              refine rj_ic0 dX12_sheet_83 ?_
              refine rj_ist4w dX12_sheet_84 (by decide) rfl ?_
              have e : F_sheet A (nI p) b n = (nI (n.toInt.toNat), sS A p (b, List.replicate (n.toInt.toNat) 0)) := by unfold F_sheet; rw [wS_in hpt hp, if_pos h4b, if_neg (by omega), if_neg (by omega), if_neg h_8]
              rw [e]
              refine l_X12_sheet (r := nI (n.toInt.toNat)) hp (by rw [ui_same]; exact i_nI (by omega)) (fun τ k1 k2 ko k3 => ⟨rfl, ?_⟩) 41 0 _ (by omega) ⟨by omega, fun q hq => absurd hq (by omega), fun _ _ => rfl, off.rf, rfl⟩
              have ho : off c4s σ τ := ((off.rf.ui (by omega)).ui (by omega)).tr (ko.mono (fun a ha => by rw [show a = 125 from ha]; omega))
              refine mr_sheet hM hp ho (fun s hs hne => ⟨?_, ?_, fun i hi => ?_⟩) ?_ ?_ (by rw [List.length_replicate]; omega) (fun i hi => ?_)
              · rw [k3, ui_ne (by decide), ui_at, if_neg (fun z => hne z.2)]
              · rw [k3, ui_at, if_neg (fun z => hne z.2), ui_ne (by decide)]
              · rw [k2 _ (by omega)]; rfl
              · rw [k3, ui_ne (by decide), ui_same]
              · rw [k3, ui_same, List.length_replicate]; exact i_nI (by omega)
              · rw [List.length_replicate] at hi
                rw [k1 i (by omega), gd_rep]
            · exact absurd h_74 h_8
          · refine rj_ald0 dX12_sheet_54 rfl ?_
            refine rj_ldc kX12_59 dX12_sheet_55 ?_
            refine rj_V1 (ci := 12) cX12_68 rfl (by decide) rfl dX12_sheet_57 (c_X12_finds (i := 0) hM (by decide) (by decide)) (fitM (by decide) (by decide)) (Nat.le_of_ble_eq_true rfl) ?_
            rintro v υq ⟨rfl, hq⟩
            simp only [Option.toList, List.cons_append, List.nil_append]
            refine rj_iret dX12_sheet_60 ?_
            have e : F_sheet A (nI p) b n = fnd A 0 := by unfold F_sheet; rw [wS_in hpt hp, if_pos h4b, if_neg (by omega), if_pos (by omega)]
            rw [e]
            exact ⟨rfl, hq⟩
        · refine rj_ald0 dX12_sheet_40 rfl ?_
          refine rj_ldcw kX12_311 dX12_sheet_41 ?_
          refine rj_V1 (ci := 12) cX12_68 rfl (by decide) rfl dX12_sheet_44 (c_X12_finds (i := 6) hM (by decide) (by decide)) (fitM (by decide) (by decide)) (Nat.le_of_ble_eq_true rfl) ?_
          rintro v υq ⟨rfl, hq⟩
          simp only [Option.toList, List.cons_append, List.nil_append]
          refine rj_iret dX12_sheet_47 ?_
          have e : F_sheet A (nI p) b n = fnd A 6 := by unfold F_sheet; rw [wS_in hpt hp, if_pos h4b, if_pos (by omega)]
          rw [e]
          exact ⟨rfl, hq⟩
      · refine rj_ild2 dX12_sheet_17 rfl ?_
        refine rj_bipush (v := 16) dX12_sheet_18 (by decide) ?_
        refine rj_ic_eq (tgt := 36) dX12_sheet_20 (by decide) (fun h_20 => ?_) (fun h_20 => ?_)
        · have h4b : b = 0 ∨ b = 8 ∨ b = 16 ∨ b = 64 := Or.inr (Or.inr (Or.inl h_20))
          refine rj_ild3 dX12_sheet_36 rfl ?_
          refine rj_if_ge (tgt := 48) dX12_sheet_37 (by decide) (fun h_37 => ?_) (fun h_37 => ?_)
          · refine rj_ild3 dX12_sheet_48 rfl ?_
            refine rj_bipush (v := 40) dX12_sheet_49 (by decide) ?_
            refine rj_ic_le (tgt := 61) dX12_sheet_51 (by decide) (fun h_51 => ?_) (fun h_51 => ?_)
            · refine rj_ald0 dX12_sheet_61 rfl ?_
              refine g12_40 dX12_sheet_62 ?_
              refine rj_ild1 dX12_sheet_65 rfl ?_
              refine rj_ild2 dX12_sheet_66 rfl ?_
              refine rj_iast (by first | assumption | rfl) (vpi (by omega) (by show _ < ((4 : Nat) : Int); omega)) dX12_sheet_67 ?_
              rw [nI_clamp (by omega)]
              refine rj_ald0 dX12_sheet_68 rfl ?_
              refine g12_43 dX12_sheet_69 ?_
              refine rj_ild1 dX12_sheet_72 rfl ?_
              refine rj_ild2 dX12_sheet_73 rfl ?_
              refine rj_if_ne (tgt := 81) dX12_sheet_74 (by decide) (fun h_74 => ?_) (fun h_74 => ?_)
              · refine rj_ild3 dX12_sheet_81 rfl ?_
                refine rj_iast (by first | assumption | rfl) (vpi (by omega) (by show _ < ((4 : Nat) : Int); omega)) dX12_sheet_82 ?_
                rw [nI_clamp (by omega)]
                refine rj_ic0 dX12_sheet_83 ?_
                refine rj_ist4w dX12_sheet_84 (by decide) rfl ?_
                have e : F_sheet A (nI p) b n = (nI (n.toInt.toNat), sS A p (b, List.replicate (n.toInt.toNat) 0)) := by unfold F_sheet; rw [wS_in hpt hp, if_pos h4b, if_neg (by omega), if_neg (by omega), if_neg h_8]
                rw [e]
                refine l_X12_sheet (r := nI (n.toInt.toNat)) hp (by rw [ui_same]; exact i_nI (by omega)) (fun τ k1 k2 ko k3 => ⟨rfl, ?_⟩) 41 0 _ (by omega) ⟨by omega, fun q hq => absurd hq (by omega), fun _ _ => rfl, off.rf, rfl⟩
                have ho : off c4s σ τ := ((off.rf.ui (by omega)).ui (by omega)).tr (ko.mono (fun a ha => by rw [show a = 125 from ha]; omega))
                refine mr_sheet hM hp ho (fun s hs hne => ⟨?_, ?_, fun i hi => ?_⟩) ?_ ?_ (by rw [List.length_replicate]; omega) (fun i hi => ?_)
                · rw [k3, ui_ne (by decide), ui_at, if_neg (fun z => hne z.2)]
                · rw [k3, ui_at, if_neg (fun z => hne z.2), ui_ne (by decide)]
                · rw [k2 _ (by omega)]; rfl
                · rw [k3, ui_ne (by decide), ui_same]
                · rw [k3, ui_same, List.length_replicate]; exact i_nI (by omega)
                · rw [List.length_replicate] at hi
                  rw [k1 i (by omega), gd_rep]
              · exact absurd h_74 h_8
            · refine rj_ald0 dX12_sheet_54 rfl ?_
              refine rj_ldc kX12_59 dX12_sheet_55 ?_
              refine rj_V1 (ci := 12) cX12_68 rfl (by decide) rfl dX12_sheet_57 (c_X12_finds (i := 0) hM (by decide) (by decide)) (fitM (by decide) (by decide)) (Nat.le_of_ble_eq_true rfl) ?_
              rintro v υq ⟨rfl, hq⟩
              simp only [Option.toList, List.cons_append, List.nil_append]
              refine rj_iret dX12_sheet_60 ?_
              have e : F_sheet A (nI p) b n = fnd A 0 := by unfold F_sheet; rw [wS_in hpt hp, if_pos h4b, if_neg (by omega), if_pos (by omega)]
              rw [e]
              exact ⟨rfl, hq⟩
          · refine rj_ald0 dX12_sheet_40 rfl ?_
            refine rj_ldcw kX12_311 dX12_sheet_41 ?_
            refine rj_V1 (ci := 12) cX12_68 rfl (by decide) rfl dX12_sheet_44 (c_X12_finds (i := 6) hM (by decide) (by decide)) (fitM (by decide) (by decide)) (Nat.le_of_ble_eq_true rfl) ?_
            rintro v υq ⟨rfl, hq⟩
            simp only [Option.toList, List.cons_append, List.nil_append]
            refine rj_iret dX12_sheet_47 ?_
            have e : F_sheet A (nI p) b n = fnd A 6 := by unfold F_sheet; rw [wS_in hpt hp, if_pos h4b, if_pos (by omega)]
            rw [e]
            exact ⟨rfl, hq⟩
        · refine rj_ild2 dX12_sheet_23 rfl ?_
          refine rj_bipush (v := 64) dX12_sheet_24 (by decide) ?_
          refine rj_ic_eq (tgt := 36) dX12_sheet_26 (by decide) (fun h_26 => ?_) (fun h_26 => ?_)
          · have h4b : b = 0 ∨ b = 8 ∨ b = 16 ∨ b = 64 := Or.inr (Or.inr (Or.inr h_26))
            refine rj_ild3 dX12_sheet_36 rfl ?_
            refine rj_if_ge (tgt := 48) dX12_sheet_37 (by decide) (fun h_37 => ?_) (fun h_37 => ?_)
            · refine rj_ild3 dX12_sheet_48 rfl ?_
              refine rj_bipush (v := 40) dX12_sheet_49 (by decide) ?_
              refine rj_ic_le (tgt := 61) dX12_sheet_51 (by decide) (fun h_51 => ?_) (fun h_51 => ?_)
              · refine rj_ald0 dX12_sheet_61 rfl ?_
                refine g12_40 dX12_sheet_62 ?_
                refine rj_ild1 dX12_sheet_65 rfl ?_
                refine rj_ild2 dX12_sheet_66 rfl ?_
                refine rj_iast (by first | assumption | rfl) (vpi (by omega) (by show _ < ((4 : Nat) : Int); omega)) dX12_sheet_67 ?_
                rw [nI_clamp (by omega)]
                refine rj_ald0 dX12_sheet_68 rfl ?_
                refine g12_43 dX12_sheet_69 ?_
                refine rj_ild1 dX12_sheet_72 rfl ?_
                refine rj_ild2 dX12_sheet_73 rfl ?_
                refine rj_if_ne (tgt := 81) dX12_sheet_74 (by decide) (fun h_74 => ?_) (fun h_74 => ?_)
                · refine rj_ild3 dX12_sheet_81 rfl ?_
                  refine rj_iast (by first | assumption | rfl) (vpi (by omega) (by show _ < ((4 : Nat) : Int); omega)) dX12_sheet_82 ?_
                  rw [nI_clamp (by omega)]
                  refine rj_ic0 dX12_sheet_83 ?_
                  refine rj_ist4w dX12_sheet_84 (by decide) rfl ?_
                  have e : F_sheet A (nI p) b n = (nI (n.toInt.toNat), sS A p (b, List.replicate (n.toInt.toNat) 0)) := by unfold F_sheet; rw [wS_in hpt hp, if_pos h4b, if_neg (by omega), if_neg (by omega), if_neg h_8]
                  rw [e]
                  refine l_X12_sheet (r := nI (n.toInt.toNat)) hp (by rw [ui_same]; exact i_nI (by omega)) (fun τ k1 k2 ko k3 => ⟨rfl, ?_⟩) 41 0 _ (by omega) ⟨by omega, fun q hq => absurd hq (by omega), fun _ _ => rfl, off.rf, rfl⟩
                  have ho : off c4s σ τ := ((off.rf.ui (by omega)).ui (by omega)).tr (ko.mono (fun a ha => by rw [show a = 125 from ha]; omega))
                  refine mr_sheet hM hp ho (fun s hs hne => ⟨?_, ?_, fun i hi => ?_⟩) ?_ ?_ (by rw [List.length_replicate]; omega) (fun i hi => ?_)
                  · rw [k3, ui_ne (by decide), ui_at, if_neg (fun z => hne z.2)]
                  · rw [k3, ui_at, if_neg (fun z => hne z.2), ui_ne (by decide)]
                  · rw [k2 _ (by omega)]; rfl
                  · rw [k3, ui_ne (by decide), ui_same]
                  · rw [k3, ui_same, List.length_replicate]; exact i_nI (by omega)
                  · rw [List.length_replicate] at hi
                    rw [k1 i (by omega), gd_rep]
                · exact absurd h_74 h_8
              · refine rj_ald0 dX12_sheet_54 rfl ?_
                refine rj_ldc kX12_59 dX12_sheet_55 ?_
                refine rj_V1 (ci := 12) cX12_68 rfl (by decide) rfl dX12_sheet_57 (c_X12_finds (i := 0) hM (by decide) (by decide)) (fitM (by decide) (by decide)) (Nat.le_of_ble_eq_true rfl) ?_
                rintro v υq ⟨rfl, hq⟩
                simp only [Option.toList, List.cons_append, List.nil_append]
                refine rj_iret dX12_sheet_60 ?_
                have e : F_sheet A (nI p) b n = fnd A 0 := by unfold F_sheet; rw [wS_in hpt hp, if_pos h4b, if_neg (by omega), if_pos (by omega)]
                rw [e]
                exact ⟨rfl, hq⟩
            · refine rj_ald0 dX12_sheet_40 rfl ?_
              refine rj_ldcw kX12_311 dX12_sheet_41 ?_
              refine rj_V1 (ci := 12) cX12_68 rfl (by decide) rfl dX12_sheet_44 (c_X12_finds (i := 6) hM (by decide) (by decide)) (fitM (by decide) (by decide)) (Nat.le_of_ble_eq_true rfl) ?_
              rintro v υq ⟨rfl, hq⟩
              simp only [Option.toList, List.cons_append, List.nil_append]
              refine rj_iret dX12_sheet_47 ?_
              have e : F_sheet A (nI p) b n = fnd A 6 := by unfold F_sheet; rw [wS_in hpt hp, if_pos h4b, if_pos (by omega)]
              rw [e]
              exact ⟨rfl, hq⟩
          · refine rj_ald0 dX12_sheet_29 rfl ?_
            refine rj_ldc kX12_59 dX12_sheet_30 ?_
            refine rj_V1 (ci := 12) cX12_68 rfl (by decide) rfl dX12_sheet_32 (c_X12_finds (i := 0) hM (by decide) (by decide)) (fitM (by decide) (by decide)) (Nat.le_of_ble_eq_true rfl) ?_
            rintro v υq ⟨rfl, hq⟩
            simp only [Option.toList, List.cons_append, List.nil_append]
            refine rj_iret dX12_sheet_35 ?_
            have e : F_sheet A (nI p) b n = fnd A 0 := by unfold F_sheet; rw [wS_in hpt hp, if_neg (fun z => z.elim h_8 (fun z => z.elim h_14 (fun z => z.elim h_20 h_26)))]
            rw [e]
            exact ⟨rfl, hq⟩

def OML (σ : ST) (r : Int64 × SA) : Option Value → ST → Prop := fun v τ => v = some (.long r.1) ∧ MR τ r.2 ∧ off mdP σ τ
theorem gd_set64 (l : List Int64) (j i : Nat) (v : Int64) (hj : j < l.length) : (l.set j v).getD i 0 = if i = j then v else l.getD i 0 := by
  rw [List.getD_eq_getElem?_getD, List.getElem?_set, List.getD_eq_getElem?_getD]
  by_cases z : i = j
  · subst z; rw [if_pos rfl, if_pos hj, if_pos rfl]; rfl
  · rw [if_neg (fun y => z y.symm), if_neg z]
set_option maxRecDepth 100000 in
theorem c_X12_write {l : Launch} {X : CX} {σ : ST} {A : SA} (hM : MR σ A) (hw : wf A) {s i : Int32} {v : Int64} : MJ l X 2 yX12_write cX12_write 7 (some .long) [.ref (ad X 112), .int s, .int i, .long v] σ (OML σ (F_write A s i v)) := by
  refine MJ_of (own := RX12) [some (.ref (ad X 112)), some (.int s), some (.int i), some (.long v), none, none, none] (by decide) rfl (Nat.le_of_ble_eq_true rfl) rfl ?_
  refine rj_ild1 dX12_write_0 rfl ?_
  refine rj_S1i cX12_308 dX12_write_1 c_X12_isSheet (fitM (by decide) (by decide)) (Nat.le_of_ble_eq_true rfl) ?_
  refine rj_if_ne (tgt := 15) dX12_write_4 (by decide) (fun h_4 => ?_) (fun h_4 => ?_)
  · have hb_4 := bz_f h_4
    obtain ⟨p, rfl, hp⟩ := ms_in hb_4
    obtain ⟨g1, g2, g3, g4⟩ := hM.2.2.2.2 p hp
    have hpt : (nI p).toInt = p := nI_t (by omega)
    have hlt : (nI (shT A p).2.length).toInt = (shT A p).2.length := nI_t (by omega)
    have hsn : (nI p).toInt.toNat = p := by rw [hpt]; omega
    have hs4 : 0 ≤ (nI p).toInt ∧ (nI p).toInt < 4 := by omega
    have hsz : (nI (shT A p).2.length - 1).toInt = (shT A p).2.length - 1 := by rw [i_sub (by rw [hlt, t1]; omega) (by rw [hlt, t1]; omega), hlt, t1]
    refine rj_ald0 dX12_write_15 rfl ?_
    refine g12_40 dX12_write_16 ?_
    refine rj_ild1 dX12_write_19 rfl ?_
    refine rj_iald (by first | assumption | rfl) (vpi (by omega) (by show _ < ((4 : Nat) : Int); omega)) dX12_write_20 ?_
    rw [nI_clamp (by omega), g1]
    refine rj_if_ne (tgt := 33) dX12_write_21 (by decide) (fun h_21 => ?_) (fun h_21 => ?_)
    · refine rj_ild2 dX12_write_33 rfl ?_
      refine rj_ic0 dX12_write_34 ?_
      refine rj_ald0 dX12_write_35 rfl ?_
      refine g12_43 dX12_write_36 ?_
      refine rj_ild1 dX12_write_39 rfl ?_
      refine rj_iald (by first | assumption | rfl) (vpi (by omega) (by show _ < ((4 : Nat) : Int); omega)) dX12_write_40 ?_
      rw [nI_clamp (by omega), g2]
      refine rj_ic1 dX12_write_41 ?_
      refine rj_isub dX12_write_42 ?_
      refine rj_S3i cX12_60 dX12_write_43 c_X12_in (fitM (by decide) (by decide)) (Nat.le_of_ble_eq_true rfl) ?_
      refine rj_if_ne (tgt := 57) dX12_write_46 (by decide) (fun h_46 => ?_) (fun h_46 => ?_)
      · have hb_46 := bz_f h_46
        rw [t0, hsz] at hb_46
        obtain ⟨k, hk, rfl⟩ : ∃ k : Nat, i.toInt = k ∧ i = nI k := ⟨i.toInt.toNat, by omega, i_nI hb_46.1⟩
        rw [hk] at hb_46
        have het : (nI (40 * p + k)).toInt = 40 * p + k := by rw [nI_t (by omega)]; omega
        refine rj_ald0 dX12_write_57 rfl ?_
        refine g12_46 dX12_write_58 ?_
        refine rj_bipush (v := 40) dX12_write_61 (by decide) ?_
        refine rj_ild1 dX12_write_63 rfl ?_
        refine rj_imul dX12_write_64 ?_
        refine rj_ild2 dX12_write_65 rfl ?_
        refine rj_iadd dX12_write_66 ?_
        rw [e40]
        refine rj_lald (by first | assumption | rfl) (vpi (by omega) (by show _ < ((160 : Nat) : Int); omega)) dX12_write_67 ?_
        rw [nI_clamp (by omega), g4 k (by omega)]
        refine rj_lst5w dX12_write_68 (by decide) rfl ?_
        refine rj_ald0 dX12_write_70 rfl ?_
        refine g12_46 dX12_write_71 ?_
        refine rj_bipush (v := 40) dX12_write_74 (by decide) ?_
        refine rj_ild1 dX12_write_76 rfl ?_
        refine rj_imul dX12_write_77 ?_
        refine rj_ild2 dX12_write_78 rfl ?_
        refine rj_iadd dX12_write_79 ?_
        rw [e40]
        refine rj_ald0 dX12_write_80 rfl ?_
        refine g12_40 dX12_write_81 ?_
        refine rj_ild1 dX12_write_84 rfl ?_
        refine rj_iald (by first | assumption | rfl) (vpi (by omega) (by show _ < ((4 : Nat) : Int); omega)) dX12_write_85 ?_
        rw [nI_clamp (by omega), g1]
        refine rj_lld3 dX12_write_86 rfl ?_
        refine rj_S2l cX12_313 dX12_write_87 c_X12_narrow (fitM (by decide) (by decide)) (Nat.le_of_ble_eq_true rfl) ?_
        refine rj_last (by first | assumption | rfl) (vpi (by omega) (by show _ < ((160 : Nat) : Int); omega)) dX12_write_90 ?_
        rw [nI_clamp (by omega)]
        refine rj_lld dX12_write_91 rfl ?_
        refine rj_lret dX12_write_93 ?_
        have e : F_write A (nI p) (nI k) v = ((shT A p).2.getD k 0, sS A p ((shT A p).1, (shT A p).2.set k (lowB (shT A p).1 v))) := by unfold F_write; rw [if_pos hs4, hsn, if_neg h_21, if_pos (by omega), show (nI k).toInt.toNat = k by rw [hk]; omega]
        rw [e]
        refine ⟨rfl, mr_sheet hM hp (off.rf.ul (by omega)) (fun s hs hne => ⟨rfl, rfl, fun i hi => ?_⟩) g1 (by rw [List.length_set]; exact g2) (by rw [List.length_set]; exact g3) (fun i hi => ?_)⟩
        · rw [ul_at, if_neg (by omega)]
        · rw [List.length_set] at hi
          rw [ul_at, gd_set64 _ _ _ _ (show k < (shT A p).2.length by omega)]
          by_cases z : i = k
          · rw [if_pos ⟨rfl, by omega⟩, if_pos z]
          · rw [if_neg (by omega), if_neg z]; exact g4 i hi
      · have hb_46 := bz_t h_46
        rw [t0, hsz] at hb_46
        refine rj_ald0 dX12_write_49 rfl ?_
        refine rj_ldc kX12_59 dX12_write_50 ?_
        refine rj_V1 (ci := 12) cX12_68 rfl (by decide) rfl dX12_write_52 (c_X12_finds (i := 0) hM (by decide) (by decide)) (fitM (by decide) (by decide)) (Nat.le_of_ble_eq_true rfl) ?_
        rintro v υq ⟨rfl, hq⟩
        simp only [Option.toList, List.cons_append, List.nil_append]
        refine rj_i2l dX12_write_55 ?_
        refine rj_lret dX12_write_56 ?_
        have e : F_write A (nI p) i v = fndL A 0 := by unfold F_write; rw [if_pos hs4, hsn, if_neg h_21, if_neg (by omega)]
        rw [e]
        exact ⟨rfl, hq⟩
    · refine rj_ald0 dX12_write_24 rfl ?_
      refine rj_ldcw kX12_312 dX12_write_25 ?_
      refine rj_V1 (ci := 12) cX12_68 rfl (by decide) rfl dX12_write_28 (c_X12_finds (i := 5) hM (by decide) (by decide)) (fitM (by decide) (by decide)) (Nat.le_of_ble_eq_true rfl) ?_
      rintro v υq ⟨rfl, hq⟩
      simp only [Option.toList, List.cons_append, List.nil_append]
      refine rj_i2l dX12_write_31 ?_
      refine rj_lret dX12_write_32 ?_
      have e : F_write A (nI p) i v = fndL A 5 := by unfold F_write; rw [if_pos hs4, hsn, if_pos h_21]
      rw [e]
      exact ⟨rfl, hq⟩
  · have hb_4 := bz_t h_4
    refine rj_ald0 dX12_write_7 rfl ?_
    refine rj_ldc kX12_59 dX12_write_8 ?_
    refine rj_V1 (ci := 12) cX12_68 rfl (by decide) rfl dX12_write_10 (c_X12_finds (i := 0) hM (by decide) (by decide)) (fitM (by decide) (by decide)) (Nat.le_of_ble_eq_true rfl) ?_
    rintro v υq ⟨rfl, hq⟩
    simp only [Option.toList, List.cons_append, List.nil_append]
    refine rj_i2l dX12_write_13 ?_
    refine rj_lret dX12_write_14 ?_
    have e : F_write A s i v = fndL A 0 := by unfold F_write; rw [if_neg hb_4]
    rw [e]
    exact ⟨rfl, hq⟩

set_option maxRecDepth 100000 in
theorem c_X12_isPart {l : Launch} {X : CX} {σ : ST} {A : SA} (hM : MR σ A) {p : Nat} (hp : p < 4) {f n : Int32} : MJ l X 0 yX12_isPart cX12_isPart 4 (some .boolean) [.ref (ad X 112), .int (nI p), .int f, .int n] σ (eqI (if hsF (shT A p).2.length f n then 1 else 0) σ) := by
  refine MJ_of (own := RX12) [some (.ref (ad X 112)), some (.int (nI p)), some (.int f), some (.int n)] (by decide) rfl (Nat.le_of_ble_eq_true rfl) rfl ?_
  obtain ⟨g1, g2, g3, g4⟩ := hM.2.2.2.2 p hp
  have hpt : (nI p).toInt = p := nI_t (by omega)
  have hlt : (nI (shT A p).2.length).toInt = (shT A p).2.length := nI_t (by omega)
  refine rj_ild2 dX12_isPart_0 rfl ?_
  refine rj_if_lt (tgt := 34) dX12_isPart_1 (by decide) (fun h_1 => ?_) (fun h_1 => ?_)
  · refine rj_ic0 dX12_isPart_34 ?_
    refine rj_zret dX12_isPart_35 (rfl) ?_
    first | (refine ⟨?_, rfl⟩; rw [if_pos (by omega)]; done) | (refine ⟨?_, rfl⟩; rw [if_neg (by omega)]; done) | (exfalso; omega)
  · refine rj_ild3 dX12_isPart_4 rfl ?_
    refine rj_if_lt (tgt := 34) dX12_isPart_5 (by decide) (fun h_5 => ?_) (fun h_5 => ?_)
    · refine rj_ic0 dX12_isPart_34 ?_
      refine rj_zret dX12_isPart_35 (rfl) ?_
      first | (refine ⟨?_, rfl⟩; rw [if_pos (by omega)]; done) | (refine ⟨?_, rfl⟩; rw [if_neg (by omega)]; done) | (exfalso; omega)
    · refine rj_ild3 dX12_isPart_8 rfl ?_
      refine rj_ald0 dX12_isPart_9 rfl ?_
      refine g12_43 dX12_isPart_10 ?_
      refine rj_ild1 dX12_isPart_13 rfl ?_
      refine rj_iald (by first | assumption | rfl) (vpi (by omega) (by show _ < ((4 : Nat) : Int); omega)) dX12_isPart_14 ?_
      rw [nI_clamp (by omega), g2]
      refine rj_ic_gt (tgt := 34) dX12_isPart_15 (by decide) (fun h_15 => ?_) (fun h_15 => ?_)
      · refine rj_ic0 dX12_isPart_34 ?_
        refine rj_zret dX12_isPart_35 (rfl) ?_
        first | (refine ⟨?_, rfl⟩; rw [if_pos (by omega)]; done) | (refine ⟨?_, rfl⟩; rw [if_neg (by omega)]; done) | (exfalso; omega)
      · refine rj_ild2 dX12_isPart_18 rfl ?_
        refine rj_ald0 dX12_isPart_19 rfl ?_
        refine g12_43 dX12_isPart_20 ?_
        refine rj_ild1 dX12_isPart_23 rfl ?_
        refine rj_iald (by first | assumption | rfl) (vpi (by omega) (by show _ < ((4 : Nat) : Int); omega)) dX12_isPart_24 ?_
        rw [nI_clamp (by omega), g2]
        refine rj_ild3 dX12_isPart_25 rfl ?_
        refine rj_isub dX12_isPart_26 ?_
        have hsb : (nI (shT A p).2.length - n).toInt = (shT A p).2.length - n.toInt := by rw [i_sub (by omega) (by omega), hlt]
        refine rj_ic_gt (tgt := 34) dX12_isPart_27 (by decide) (fun h_27 => ?_) (fun h_27 => ?_)
        · refine rj_ic0 dX12_isPart_34 ?_
          refine rj_zret dX12_isPart_35 (rfl) ?_
          first | (refine ⟨?_, rfl⟩; rw [if_pos (by omega)]; done) | (refine ⟨?_, rfl⟩; rw [if_neg (by omega)]; done) | (exfalso; omega)
        · refine rj_ic1 dX12_isPart_30 ?_
          refine rj_goto (tgt := 35) dX12_isPart_31 (by decide) ?_
          refine rj_zret dX12_isPart_35 (rfl) ?_
          first | (refine ⟨?_, rfl⟩; rw [if_pos (by omega)]; done) | (refine ⟨?_, rfl⟩; rw [if_neg (by omega)]; done) | (exfalso; omega)

