/-! sheets -/
abbrev shT (A : SA) (s : Nat) : Int32 × List Int64 := A.2.2.2.2 s
def sS (A : SA) (s : Nat) (p : Int32 × List Int64) : SA := (A.1, A.2.1, A.2.2.1, A.2.2.2.1, fun i => if i = s then p else A.2.2.2.2 i)
theorem cr_sheet {σ τ : ST} {fb s : Nat} {A : SA} {b : Int32} {xs : List Int64} (h : CR σ fb A) (hs : s < 4) (hS : Sh τ (104 + 2 * s) b xs) (ho : off (shC (104 + 2 * s)) σ τ) : CR τ fb (sS A s (b, xs)) ∧ off sysP σ τ := by
  obtain ⟨h1, h2, h3, h4, h5, h6, h7, h8, h9, h10, ⟨a, ha⟩, ⟨b, hb⟩, ⟨c, hc⟩, d, hd⟩ := h
  have q : ∀ a, a < 104 → ¬ shC (104 + 2 * s) a := fun a ha hb => by unfold shC at hb; omega
  have qf : ∀ b, b ≤ 78 → ∀ a, shC (104 + 2 * s) a → ¬ fairC b a := fun b hb a ha hc => by unfold shC at ha; unfold fairC at hc; omega
  refine ⟨⟨h1, by rw [(ho 0 (q 0 (by omega))).1]; exact h2, by rw [(ho 0 (q 0 (by omega))).1]; exact h3, fun j hj => by rw [(ho 1 (q 1 (by omega))).1]; exact h4 j hj, h5.off ho (qf _ (by omega)), h6.off ho (qf _ (by omega)), h7.off ho (qf _ (by omega)), ?_, h9.off ho (q _ (by omega)) (q _ (by omega)), fun i hi => ?_, ⟨a, ha.off ho (q _ (by omega)) (q _ (by omega))⟩, ⟨b, hb.off ho (q _ (by omega)) (q _ (by omega))⟩, ⟨c, hc.off ho (q _ (by omega)) (q _ (by omega))⟩, d, hd.off ho (q _ (by omega)) (q _ (by omega))⟩, ho.mono (fun a ha => by unfold shC at ha; unfold sysP; omega)⟩
  · rcases h8 with ⟨a, b⟩ | ⟨K, a, b, c⟩
    · exact Or.inl ⟨a, by rw [(ho 0 (q 0 (by omega))).1]; exact b⟩
    · exact Or.inr ⟨K, a, by rw [(ho 0 (q 0 (by omega))).1]; exact b, c.off ho (qf _ (by omega))⟩
  · by_cases e : i = s
    · subst e
      simp only [sS, if_true]
      exact hS
    · simp only [sS, if_neg e]
      exact (h10 i hi).off ho (by unfold shC; omega) (by unfold shC; omega)
def wS (A : SA) (s : Int32) (f : Nat → Int32 × SA) : Int32 × SA := if 0 ≤ s.toInt ∧ s.toInt < 4 then f s.toInt.toNat else fnd A 0
theorem wS_in {A : SA} {s : Int32} {j : Nat} {f : Nat → Int32 × SA} (h : s.toInt = j) (hj : j < 4) : wS A s f = f j := by
  unfold wS; rw [if_pos (by omega), h]; rfl
theorem wS_out {A : SA} {s : Int32} {f : Nat → Int32 × SA} (h : ¬ (0 ≤ s.toInt ∧ s.toInt < 4)) : wS A s f = fnd A 0 := if_neg h
theorem sh_kd : ∀ s, s < 4 → kd (104 + 2 * s) = 4 := by decide
set_option maxRecDepth 100000 in
theorem c_X11_sheetIn {l : Launch} {X : CX} {σ : ST} {s : Int32} {j : Nat} (hs : s.toInt = j) (hj : j < 4) : MJ l X 0 yX11_sheetAt cX11_sheetAt 2 (some (.object "KnotFair$Sheet")) [.ref (ad X 0), .int s] σ (eqR (.ref (ad X (104 + 2 * j))) σ) := by
  refine MJ_of (own := RX11) [some (.ref (ad X 0)), some (.int s)] (by decide) rfl (Nat.le_of_ble_eq_true rfl) rfl ?_
  have h4 : (4 : Int32).toInt = 4 := by decide
  have hcl : s.toNatClampNeg = j := by rw [cl_i, hs]; rfl
  refine rj_ild1 dX11_sheetAt_0 rfl ?_
  refine rj_if_lt (tgt := 22) dX11_sheetAt_1 (by decide) (fun h_1 => ?_) (fun h_1 => ?_)
  · exfalso; omega
  · refine rj_ild1 dX11_sheetAt_4 rfl ?_
    refine rj_ald0 dX11_sheetAt_5 rfl ?_
    refine g11_29 dX11_sheetAt_6 ?_
    refine rj_alenS (by first | assumption | rfl) dX11_sheetAt_9 ?_
    refine rj_ic_ge (tgt := 22) dX11_sheetAt_10 (by decide) (fun h_10 => ?_) (fun h_10 => ?_)
    · exfalso; omega
    · refine rj_ald0 dX11_sheetAt_13 rfl ?_
      refine g11_29 dX11_sheetAt_14 ?_
      refine rj_ild1 dX11_sheetAt_17 rfl ?_
      refine rj_aldS (by first | assumption | rfl) (vpi (by omega) (by show _ < ((4 : Nat) : Int); omega)) dX11_sheetAt_18 ?_
      rw [hcl]
      refine rj_goto (tgt := 23) dX11_sheetAt_19 (by decide) ?_
      refine rj_aret dX11_sheetAt_23 ?_
      exact ⟨rfl, rfl⟩

set_option maxRecDepth 100000 in
theorem c_X11_sheetOut {l : Launch} {X : CX} {σ : ST} {s : Int32} (hs : ¬ (0 ≤ s.toInt ∧ s.toInt < 4)) : MJ l X 0 yX11_sheetAt cX11_sheetAt 2 (some (.object "KnotFair$Sheet")) [.ref (ad X 0), .int s] σ (eqR .null σ) := by
  refine MJ_of (own := RX11) [some (.ref (ad X 0)), some (.int s)] (by decide) rfl (Nat.le_of_ble_eq_true rfl) rfl ?_
  have h4 : (4 : Int32).toInt = 4 := by decide
  refine rj_ild1 dX11_sheetAt_0 rfl ?_
  refine rj_if_lt (tgt := 22) dX11_sheetAt_1 (by decide) (fun h_1 => ?_) (fun h_1 => ?_)
  · refine rj_null dX11_sheetAt_22 ?_
    refine rj_aretN dX11_sheetAt_23 ?_
    exact ⟨rfl, rfl⟩
  · refine rj_ild1 dX11_sheetAt_4 rfl ?_
    refine rj_ald0 dX11_sheetAt_5 rfl ?_
    refine g11_29 dX11_sheetAt_6 ?_
    refine rj_alenS (by first | assumption | rfl) dX11_sheetAt_9 ?_
    refine rj_ic_ge (tgt := 22) dX11_sheetAt_10 (by decide) (fun h_10 => ?_) (fun h_10 => ?_)
    · refine rj_null dX11_sheetAt_22 ?_
      refine rj_aretN dX11_sheetAt_23 ?_
      exact ⟨rfl, rfl⟩
    · exfalso; omega

theorem c_X11_sheetAt {l : Launch} {X : CX} {σ : ST} {s : Int32} : MJ l X 0 yX11_sheetAt cX11_sheetAt 2 (some (.object "KnotFair$Sheet")) [.ref (ad X 0), .int s] σ (fun v τ => τ = σ ∧ ((∃ j : Nat, s.toInt = j ∧ j < 4 ∧ v = some (.ref (ad X (104 + 2 * j)))) ∨ (¬ (0 ≤ s.toInt ∧ s.toInt < 4) ∧ v = some .null))) := by
  by_cases h : 0 ≤ s.toInt ∧ s.toInt < 4
  · exact MJ_c (c_X11_sheetIn (j := s.toInt.toNat) (by omega) (by omega)) (fun v τ q => ⟨q.2, Or.inl ⟨s.toInt.toNat, by omega, by omega, q.1⟩⟩)
  · exact MJ_c (c_X11_sheetOut h) (fun v τ q => ⟨q.2, Or.inr ⟨h, q.1⟩⟩)
def F_sheet (A : SA) (s b n : Int32) : Int32 × SA := wS A s fun p => if b = 0 ∨ b = 8 ∨ b = 16 ∨ b = 64 then (if n.toInt < 0 then fnd A 6 else if 40 < n.toInt then fnd A 0 else (nI (if b = 0 then 0 else n.toInt.toNat), sS A p (b, List.replicate (if b = 0 then 0 else n.toInt.toNat) 0))) else fnd A 0
set_option maxRecDepth 100000 in
theorem c_X11_sheet {l : Launch} {X : CX} {σ : ST} {fb : Nat} {A : SA} (hC : CR σ fb A) (hw : wf A) {s b n : Int32} : MJ l X 1 yX11_sheet cX11_sheet 5 (some .int) [.ref (ad X 0), .int s, .int b, .int n] σ (OP σ (F_sheet A s b n)) := by
  refine MJ_of (own := RX11) [some (.ref (ad X 0)), some (.int s), some (.int b), some (.int n), none] (by decide) rfl (Nat.le_of_ble_eq_true rfl) rfl ?_
  have h40 : (40 : Int32).toInt = 40 := by decide
  refine rj_ald0 dX11_sheet_0 rfl ?_
  refine rj_ild1 dX11_sheet_1 rfl ?_
  refine rj_V1 (ci := 11) cX11_268 rfl (by decide) (by first | assumption | rfl) dX11_sheet_2 c_X11_sheetAt (fitM (by decide) (by decide)) (Nat.le_of_ble_eq_true rfl) ?_
  rintro v υp ⟨hυp, ⟨p, hvp, hjp, rfl⟩ | ⟨hnp, rfl⟩⟩
  · rw [hυp]
    simp only [Option.toList, List.cons_append, List.nil_append]
    have hksp := sh_kd p hjp
    have hSp : Sh _ (104 + 2 * p) (shT A p).1 (shT A p).2 := hC.2.2.2.2.2.2.2.2.2.1 p hjp
    refine rj_ast4w dX11_sheet_5 (by decide) rfl ?_
    refine rj_ald dX11_sheet_7 rfl ?_
    refine rj_nu_ref dX11_sheet_9 ?_
    refine rj_ild2 dX11_sheet_12 rfl ?_
    refine rj_if_eq (tgt := 41) dX11_sheet_13 (by decide) (fun h_13 => ?_) (fun h_13 => ?_)
    · have hb4 : b = 0 ∨ b = 8 ∨ b = 16 ∨ b = 64 := Or.inl h_13
      refine rj_ild3 dX11_sheet_41 rfl ?_
      refine rj_if_ge (tgt := 53) dX11_sheet_42 (by decide) (fun h_42 => ?_) (fun h_42 => ?_)
      · refine rj_ild3 dX11_sheet_53 rfl ?_
        refine rj_bipush (v := 40) dX11_sheet_54 (by decide) ?_
        refine rj_ic_le (tgt := 66) dX11_sheet_56 (by decide) (fun h_56 => ?_) (fun h_56 => ?_)
        · refine rj_ald dX11_sheet_66 rfl ?_
          refine rj_ild2 dX11_sheet_68 rfl ?_
          refine rj_ild3 dX11_sheet_69 rfl ?_
          refine rj_V2 (ci := 4) cX11_273 rfl (by decide) (by first | assumption | rfl) dX11_sheet_70 (c_X4_begin hksp (by omega)) (fitM (by decide) (by decide)) (Nat.le_of_ble_eq_true rfl) ?_
          rintro v τ ⟨rfl, hS1, ho1⟩
          simp only [Option.toList, List.nil_append]
          refine rj_ald dX11_sheet_73 rfl ?_
          refine g11_276 (by first | assumption | rfl) dX11_sheet_75 ?_
          refine rj_iret dX11_sheet_78 ?_
          have e : F_sheet A s b n = (nI (if b = 0 then 0 else n.toInt.toNat), sS A p (b, List.replicate (if b = 0 then 0 else n.toInt.toNat) 0)) := by unfold F_sheet; rw [wS_in hvp hjp, if_pos hb4, if_neg (by omega), if_neg (by omega)]
          rw [e]
          exact ⟨by rw [nI_of_toInt hS1.2.1, List.length_replicate], cr_ex (cr_sheet hC hjp hS1 ho1)⟩
        · refine rj_ald0 dX11_sheet_59 rfl ?_
          refine rj_ldc kX11_87 dX11_sheet_60 ?_
          refine rj_V1 (ci := 11) cX11_88 rfl (by decide) rfl dX11_sheet_62 (c_X11_found (i := 0) hC (by decide) (by decide)) (fitM (by decide) (by decide)) (Nat.le_of_ble_eq_true rfl) ?_
          rintro v υq ⟨rfl, hq⟩
          simp only [Option.toList, List.cons_append, List.nil_append]
          refine rj_iret dX11_sheet_65 ?_
          have e : F_sheet A s b n = fnd A 0 := by unfold F_sheet; rw [wS_in hvp hjp, if_pos hb4, if_neg (by omega), if_pos (by omega)]
          rw [e]
          exact ⟨rfl, hq⟩
      · refine rj_ald0 dX11_sheet_45 rfl ?_
        refine rj_ldcw kX11_272 dX11_sheet_46 ?_
        refine rj_V1 (ci := 11) cX11_88 rfl (by decide) rfl dX11_sheet_49 (c_X11_found (i := 6) hC (by decide) (by decide)) (fitM (by decide) (by decide)) (Nat.le_of_ble_eq_true rfl) ?_
        rintro v υq ⟨rfl, hq⟩
        simp only [Option.toList, List.cons_append, List.nil_append]
        refine rj_iret dX11_sheet_52 ?_
        have e : F_sheet A s b n = fnd A 6 := by unfold F_sheet; rw [wS_in hvp hjp, if_pos hb4, if_pos (by omega)]
        rw [e]
        exact ⟨rfl, hq⟩
    · refine rj_ild2 dX11_sheet_16 rfl ?_
      refine rj_bipush (v := 8) dX11_sheet_17 (by decide) ?_
      refine rj_ic_eq (tgt := 41) dX11_sheet_19 (by decide) (fun h_19 => ?_) (fun h_19 => ?_)
      · have hb4 : b = 0 ∨ b = 8 ∨ b = 16 ∨ b = 64 := Or.inr (Or.inl h_19)
        refine rj_ild3 dX11_sheet_41 rfl ?_
        refine rj_if_ge (tgt := 53) dX11_sheet_42 (by decide) (fun h_42 => ?_) (fun h_42 => ?_)
        · refine rj_ild3 dX11_sheet_53 rfl ?_
          refine rj_bipush (v := 40) dX11_sheet_54 (by decide) ?_
          refine rj_ic_le (tgt := 66) dX11_sheet_56 (by decide) (fun h_56 => ?_) (fun h_56 => ?_)
          · refine rj_ald dX11_sheet_66 rfl ?_
            refine rj_ild2 dX11_sheet_68 rfl ?_
            refine rj_ild3 dX11_sheet_69 rfl ?_
            refine rj_V2 (ci := 4) cX11_273 rfl (by decide) (by first | assumption | rfl) dX11_sheet_70 (c_X4_begin hksp (by omega)) (fitM (by decide) (by decide)) (Nat.le_of_ble_eq_true rfl) ?_
            rintro v τ ⟨rfl, hS1, ho1⟩
            simp only [Option.toList, List.nil_append]
            refine rj_ald dX11_sheet_73 rfl ?_
            refine g11_276 (by first | assumption | rfl) dX11_sheet_75 ?_
            refine rj_iret dX11_sheet_78 ?_
            have e : F_sheet A s b n = (nI (if b = 0 then 0 else n.toInt.toNat), sS A p (b, List.replicate (if b = 0 then 0 else n.toInt.toNat) 0)) := by unfold F_sheet; rw [wS_in hvp hjp, if_pos hb4, if_neg (by omega), if_neg (by omega)]
            rw [e]
            exact ⟨by rw [nI_of_toInt hS1.2.1, List.length_replicate], cr_ex (cr_sheet hC hjp hS1 ho1)⟩
          · refine rj_ald0 dX11_sheet_59 rfl ?_
            refine rj_ldc kX11_87 dX11_sheet_60 ?_
            refine rj_V1 (ci := 11) cX11_88 rfl (by decide) rfl dX11_sheet_62 (c_X11_found (i := 0) hC (by decide) (by decide)) (fitM (by decide) (by decide)) (Nat.le_of_ble_eq_true rfl) ?_
            rintro v υq ⟨rfl, hq⟩
            simp only [Option.toList, List.cons_append, List.nil_append]
            refine rj_iret dX11_sheet_65 ?_
            have e : F_sheet A s b n = fnd A 0 := by unfold F_sheet; rw [wS_in hvp hjp, if_pos hb4, if_neg (by omega), if_pos (by omega)]
            rw [e]
            exact ⟨rfl, hq⟩
        · refine rj_ald0 dX11_sheet_45 rfl ?_
          refine rj_ldcw kX11_272 dX11_sheet_46 ?_
          refine rj_V1 (ci := 11) cX11_88 rfl (by decide) rfl dX11_sheet_49 (c_X11_found (i := 6) hC (by decide) (by decide)) (fitM (by decide) (by decide)) (Nat.le_of_ble_eq_true rfl) ?_
          rintro v υq ⟨rfl, hq⟩
          simp only [Option.toList, List.cons_append, List.nil_append]
          refine rj_iret dX11_sheet_52 ?_
          have e : F_sheet A s b n = fnd A 6 := by unfold F_sheet; rw [wS_in hvp hjp, if_pos hb4, if_pos (by omega)]
          rw [e]
          exact ⟨rfl, hq⟩
      · refine rj_ild2 dX11_sheet_22 rfl ?_
        refine rj_bipush (v := 16) dX11_sheet_23 (by decide) ?_
        refine rj_ic_eq (tgt := 41) dX11_sheet_25 (by decide) (fun h_25 => ?_) (fun h_25 => ?_)
        · have hb4 : b = 0 ∨ b = 8 ∨ b = 16 ∨ b = 64 := Or.inr (Or.inr (Or.inl h_25))
          refine rj_ild3 dX11_sheet_41 rfl ?_
          refine rj_if_ge (tgt := 53) dX11_sheet_42 (by decide) (fun h_42 => ?_) (fun h_42 => ?_)
          · refine rj_ild3 dX11_sheet_53 rfl ?_
            refine rj_bipush (v := 40) dX11_sheet_54 (by decide) ?_
            refine rj_ic_le (tgt := 66) dX11_sheet_56 (by decide) (fun h_56 => ?_) (fun h_56 => ?_)
            · refine rj_ald dX11_sheet_66 rfl ?_
              refine rj_ild2 dX11_sheet_68 rfl ?_
              refine rj_ild3 dX11_sheet_69 rfl ?_
              refine rj_V2 (ci := 4) cX11_273 rfl (by decide) (by first | assumption | rfl) dX11_sheet_70 (c_X4_begin hksp (by omega)) (fitM (by decide) (by decide)) (Nat.le_of_ble_eq_true rfl) ?_
              rintro v τ ⟨rfl, hS1, ho1⟩
              simp only [Option.toList, List.nil_append]
              refine rj_ald dX11_sheet_73 rfl ?_
              refine g11_276 (by first | assumption | rfl) dX11_sheet_75 ?_
              refine rj_iret dX11_sheet_78 ?_
              have e : F_sheet A s b n = (nI (if b = 0 then 0 else n.toInt.toNat), sS A p (b, List.replicate (if b = 0 then 0 else n.toInt.toNat) 0)) := by unfold F_sheet; rw [wS_in hvp hjp, if_pos hb4, if_neg (by omega), if_neg (by omega)]
              rw [e]
              exact ⟨by rw [nI_of_toInt hS1.2.1, List.length_replicate], cr_ex (cr_sheet hC hjp hS1 ho1)⟩
            · refine rj_ald0 dX11_sheet_59 rfl ?_
              refine rj_ldc kX11_87 dX11_sheet_60 ?_
              refine rj_V1 (ci := 11) cX11_88 rfl (by decide) rfl dX11_sheet_62 (c_X11_found (i := 0) hC (by decide) (by decide)) (fitM (by decide) (by decide)) (Nat.le_of_ble_eq_true rfl) ?_
              rintro v υq ⟨rfl, hq⟩
              simp only [Option.toList, List.cons_append, List.nil_append]
              refine rj_iret dX11_sheet_65 ?_
              have e : F_sheet A s b n = fnd A 0 := by unfold F_sheet; rw [wS_in hvp hjp, if_pos hb4, if_neg (by omega), if_pos (by omega)]
              rw [e]
              exact ⟨rfl, hq⟩
          · refine rj_ald0 dX11_sheet_45 rfl ?_
            refine rj_ldcw kX11_272 dX11_sheet_46 ?_
            refine rj_V1 (ci := 11) cX11_88 rfl (by decide) rfl dX11_sheet_49 (c_X11_found (i := 6) hC (by decide) (by decide)) (fitM (by decide) (by decide)) (Nat.le_of_ble_eq_true rfl) ?_
            rintro v υq ⟨rfl, hq⟩
            simp only [Option.toList, List.cons_append, List.nil_append]
            refine rj_iret dX11_sheet_52 ?_
            have e : F_sheet A s b n = fnd A 6 := by unfold F_sheet; rw [wS_in hvp hjp, if_pos hb4, if_pos (by omega)]
            rw [e]
            exact ⟨rfl, hq⟩
        · refine rj_ild2 dX11_sheet_28 rfl ?_
          refine rj_bipush (v := 64) dX11_sheet_29 (by decide) ?_
          refine rj_ic_eq (tgt := 41) dX11_sheet_31 (by decide) (fun h_31 => ?_) (fun h_31 => ?_)
          · have hb4 : b = 0 ∨ b = 8 ∨ b = 16 ∨ b = 64 := Or.inr (Or.inr (Or.inr h_31))
            refine rj_ild3 dX11_sheet_41 rfl ?_
            refine rj_if_ge (tgt := 53) dX11_sheet_42 (by decide) (fun h_42 => ?_) (fun h_42 => ?_)
            · refine rj_ild3 dX11_sheet_53 rfl ?_
              refine rj_bipush (v := 40) dX11_sheet_54 (by decide) ?_
              refine rj_ic_le (tgt := 66) dX11_sheet_56 (by decide) (fun h_56 => ?_) (fun h_56 => ?_)
              · refine rj_ald dX11_sheet_66 rfl ?_
                refine rj_ild2 dX11_sheet_68 rfl ?_
                refine rj_ild3 dX11_sheet_69 rfl ?_
                refine rj_V2 (ci := 4) cX11_273 rfl (by decide) (by first | assumption | rfl) dX11_sheet_70 (c_X4_begin hksp (by omega)) (fitM (by decide) (by decide)) (Nat.le_of_ble_eq_true rfl) ?_
                rintro v τ ⟨rfl, hS1, ho1⟩
                simp only [Option.toList, List.nil_append]
                refine rj_ald dX11_sheet_73 rfl ?_
                refine g11_276 (by first | assumption | rfl) dX11_sheet_75 ?_
                refine rj_iret dX11_sheet_78 ?_
                have e : F_sheet A s b n = (nI (if b = 0 then 0 else n.toInt.toNat), sS A p (b, List.replicate (if b = 0 then 0 else n.toInt.toNat) 0)) := by unfold F_sheet; rw [wS_in hvp hjp, if_pos hb4, if_neg (by omega), if_neg (by omega)]
                rw [e]
                exact ⟨by rw [nI_of_toInt hS1.2.1, List.length_replicate], cr_ex (cr_sheet hC hjp hS1 ho1)⟩
              · refine rj_ald0 dX11_sheet_59 rfl ?_
                refine rj_ldc kX11_87 dX11_sheet_60 ?_
                refine rj_V1 (ci := 11) cX11_88 rfl (by decide) rfl dX11_sheet_62 (c_X11_found (i := 0) hC (by decide) (by decide)) (fitM (by decide) (by decide)) (Nat.le_of_ble_eq_true rfl) ?_
                rintro v υq ⟨rfl, hq⟩
                simp only [Option.toList, List.cons_append, List.nil_append]
                refine rj_iret dX11_sheet_65 ?_
                have e : F_sheet A s b n = fnd A 0 := by unfold F_sheet; rw [wS_in hvp hjp, if_pos hb4, if_neg (by omega), if_pos (by omega)]
                rw [e]
                exact ⟨rfl, hq⟩
            · refine rj_ald0 dX11_sheet_45 rfl ?_
              refine rj_ldcw kX11_272 dX11_sheet_46 ?_
              refine rj_V1 (ci := 11) cX11_88 rfl (by decide) rfl dX11_sheet_49 (c_X11_found (i := 6) hC (by decide) (by decide)) (fitM (by decide) (by decide)) (Nat.le_of_ble_eq_true rfl) ?_
              rintro v υq ⟨rfl, hq⟩
              simp only [Option.toList, List.cons_append, List.nil_append]
              refine rj_iret dX11_sheet_52 ?_
              have e : F_sheet A s b n = fnd A 6 := by unfold F_sheet; rw [wS_in hvp hjp, if_pos hb4, if_pos (by omega)]
              rw [e]
              exact ⟨rfl, hq⟩
          · refine rj_ald0 dX11_sheet_34 rfl ?_
            refine rj_ldc kX11_87 dX11_sheet_35 ?_
            refine rj_V1 (ci := 11) cX11_88 rfl (by decide) rfl dX11_sheet_37 (c_X11_found (i := 0) hC (by decide) (by decide)) (fitM (by decide) (by decide)) (Nat.le_of_ble_eq_true rfl) ?_
            rintro v υq ⟨rfl, hq⟩
            simp only [Option.toList, List.cons_append, List.nil_append]
            refine rj_iret dX11_sheet_40 ?_
            have e : F_sheet A s b n = fnd A 0 := by unfold F_sheet; rw [wS_in hvp hjp, if_neg (fun q => q.elim h_13 (fun q => q.elim h_19 (fun q => q.elim h_25 h_31)))]
            rw [e]
            exact ⟨rfl, hq⟩
  · rw [hυp]
    simp only [Option.toList, List.cons_append, List.nil_append]
    refine rj_nst4w dX11_sheet_5 (by decide) rfl ?_
    refine rj_aldN dX11_sheet_7 rfl ?_
    refine rj_nu_null (tgt := 34) dX11_sheet_9 (by decide) ?_
    refine rj_ald0 dX11_sheet_34 rfl ?_
    refine rj_ldc kX11_87 dX11_sheet_35 ?_
    refine rj_V1 (ci := 11) cX11_88 rfl (by decide) rfl dX11_sheet_37 (c_X11_found (i := 0) hC (by decide) (by decide)) (fitM (by decide) (by decide)) (Nat.le_of_ble_eq_true rfl) ?_
    rintro v υq ⟨rfl, hq⟩
    simp only [Option.toList, List.cons_append, List.nil_append]
    refine rj_iret dX11_sheet_40 ?_
    have e : F_sheet A s b n = fnd A 0 := by unfold F_sheet; rw [wS_out hnp]
    rw [e]
    exact ⟨rfl, hq⟩

def OPL (σ : ST) (r : Int64 × SA) : Option Value → ST → Prop := fun v τ => v = some (.long r.1) ∧ (∃ fb, CR τ fb r.2) ∧ off sysP σ τ
def fndL (A : SA) (i : Nat) : Int64 × SA := ((fc i).toInt64, (fnd A i).2)
def F_write (A : SA) (s i : Int32) (v : Int64) : Int64 × SA := if 0 ≤ s.toInt ∧ s.toInt < 4 then (if (shT A s.toInt.toNat).1 = 0 then fndL A 5 else if 0 ≤ i.toInt ∧ i.toInt < (shT A s.toInt.toNat).2.length then ((shT A s.toInt.toNat).2.getD i.toInt.toNat 0, sS A s.toInt.toNat ((shT A s.toInt.toNat).1, (shT A s.toInt.toNat).2.set i.toInt.toNat (lowB (shT A s.toInt.toNat).1 v))) else fndL A 0) else fndL A 0
set_option maxRecDepth 100000 in
theorem c_X11_write {l : Launch} {X : CX} {σ : ST} {fb : Nat} {A : SA} (hC : CR σ fb A) (hw : wf A) {s i : Int32} {v : Int64} : MJ l X 2 yX11_write cX11_write 8 (some .long) [.ref (ad X 0), .int s, .int i, .long v] σ (OPL σ (F_write A s i v)) := by
  refine MJ_of (own := RX11) [some (.ref (ad X 0)), some (.int s), some (.int i), some (.long v), none, none, none, none] (by decide) rfl (Nat.le_of_ble_eq_true rfl) rfl ?_
  refine rj_ald0 dX11_write_0 rfl ?_
  refine rj_ild1 dX11_write_1 rfl ?_
  refine rj_V1 (ci := 11) cX11_268 rfl (by decide) (by first | assumption | rfl) dX11_write_2 c_X11_sheetAt (fitM (by decide) (by decide)) (Nat.le_of_ble_eq_true rfl) ?_
  rintro v υp ⟨hυp, ⟨p, hvp, hjp, rfl⟩ | ⟨hnp, rfl⟩⟩
  · rw [hυp]
    simp only [Option.toList, List.cons_append, List.nil_append]
    have hksp := sh_kd p hjp
    have hSp : Sh _ (104 + 2 * p) (shT A p).1 (shT A p).2 := hC.2.2.2.2.2.2.2.2.2.1 p hjp
    refine rj_ast5w dX11_write_5 (by decide) rfl ?_
    refine rj_ald dX11_write_7 rfl ?_
    refine rj_nn_ref (tgt := 20) dX11_write_9 (by decide) ?_
    have hpt : s.toInt.toNat = p := by rw [hvp]; rfl
    have hsz := hSp.2.1
    refine rj_ald dX11_write_20 rfl ?_
    refine rj_V0i (ci := 4) cX11_277 rfl (by decide) (by first | assumption | rfl) dX11_write_22 (c_X4_isMissing hksp hSp) (fitM (by decide) (by decide)) (Nat.le_of_ble_eq_true rfl) ?_
    refine rj_if_eq (tgt := 37) dX11_write_25 (by decide) (fun h_25 => ?_) (fun h_25 => ?_)
    · have hb_25 := bz_t h_25
      refine rj_ild2 dX11_write_37 rfl ?_
      refine rj_if_lt (tgt := 50) dX11_write_38 (by decide) (fun h_38 => ?_) (fun h_38 => ?_)
      · refine rj_ald0 dX11_write_50 rfl ?_
        refine rj_ldc kX11_87 dX11_write_51 ?_
        refine rj_V1 (ci := 11) cX11_88 rfl (by decide) rfl dX11_write_53 (c_X11_found (i := 0) hC (by decide) (by decide)) (fitM (by decide) (by decide)) (Nat.le_of_ble_eq_true rfl) ?_
        rintro v υq ⟨rfl, hq⟩
        simp only [Option.toList, List.cons_append, List.nil_append]
        refine rj_i2l dX11_write_56 ?_
        refine rj_lret dX11_write_57 ?_
        have e : F_write A s i v = fndL A 0 := by unfold F_write; rw [if_pos (by omega), hpt, if_neg hb_25, if_neg (by omega)]
        rw [e]
        exact ⟨rfl, hq⟩
      · refine rj_ild2 dX11_write_41 rfl ?_
        refine rj_ald dX11_write_42 rfl ?_
        refine g11_276 (by first | assumption | rfl) dX11_write_44 ?_
        refine rj_ic_lt (tgt := 58) dX11_write_47 (by decide) (fun h_47 => ?_) (fun h_47 => ?_)
        · refine rj_ald dX11_write_58 rfl ?_
          refine rj_ild2 dX11_write_60 rfl ?_
          refine rj_V1l (ci := 4) cX11_281 rfl (by decide) (by first | assumption | rfl) dX11_write_61 (c_X4_at hksp hSp) (fitM (by decide) (by decide)) (Nat.le_of_ble_eq_true rfl) ?_
          refine rj_lst6w dX11_write_64 (by decide) rfl ?_
          refine rj_ald dX11_write_66 rfl ?_
          refine rj_ild2 dX11_write_68 rfl ?_
          refine rj_lld3 dX11_write_69 rfl ?_
          refine rj_V2 (ci := 4) cX11_284 rfl (by decide) (by first | assumption | rfl) dX11_write_70 (c_X4_put hksp hSp (j := i.toInt.toNat) (by omega) (by omega)) (fitM (by decide) (by decide)) (Nat.le_of_ble_eq_true rfl) ?_
          rintro v τ ⟨rfl, hS1, ho1⟩
          simp only [Option.toList, List.nil_append]
          refine rj_lld dX11_write_73 rfl ?_
          refine rj_lret dX11_write_75 ?_
          have e : F_write A s i v = ((shT A p).2.getD i.toInt.toNat 0, sS A p ((shT A p).1, (shT A p).2.set i.toInt.toNat (lowB (shT A p).1 v))) := by unfold F_write; rw [if_pos (by omega), hpt, if_neg hb_25, if_pos (by omega)]
          rw [e]
          exact ⟨by rw [sat_in (j := i.toInt.toNat) (by omega) (by omega)], cr_ex (cr_sheet hC hjp hS1 ho1)⟩
        · refine rj_ald0 dX11_write_50 rfl ?_
          refine rj_ldc kX11_87 dX11_write_51 ?_
          refine rj_V1 (ci := 11) cX11_88 rfl (by decide) rfl dX11_write_53 (c_X11_found (i := 0) hC (by decide) (by decide)) (fitM (by decide) (by decide)) (Nat.le_of_ble_eq_true rfl) ?_
          rintro v υq ⟨rfl, hq⟩
          simp only [Option.toList, List.cons_append, List.nil_append]
          refine rj_i2l dX11_write_56 ?_
          refine rj_lret dX11_write_57 ?_
          have e : F_write A s i v = fndL A 0 := by unfold F_write; rw [if_pos (by omega), hpt, if_neg hb_25, if_neg (by omega)]
          rw [e]
          exact ⟨rfl, hq⟩
    · have hb_25 := bz_f h_25
      refine rj_ald0 dX11_write_28 rfl ?_
      refine rj_ldcw kX11_280 dX11_write_29 ?_
      refine rj_V1 (ci := 11) cX11_88 rfl (by decide) rfl dX11_write_32 (c_X11_found (i := 5) hC (by decide) (by decide)) (fitM (by decide) (by decide)) (Nat.le_of_ble_eq_true rfl) ?_
      rintro v υq ⟨rfl, hq⟩
      simp only [Option.toList, List.cons_append, List.nil_append]
      refine rj_i2l dX11_write_35 ?_
      refine rj_lret dX11_write_36 ?_
      have e : F_write A s i v = fndL A 5 := by unfold F_write; rw [if_pos (by omega), hpt, if_pos hb_25]
      rw [e]
      exact ⟨rfl, hq⟩
  · rw [hυp]
    simp only [Option.toList, List.cons_append, List.nil_append]
    refine rj_nst5w dX11_write_5 (by decide) rfl ?_
    refine rj_aldN dX11_write_7 rfl ?_
    refine rj_nn_null dX11_write_9 ?_
    refine rj_ald0 dX11_write_12 rfl ?_
    refine rj_ldc kX11_87 dX11_write_13 ?_
    refine rj_V1 (ci := 11) cX11_88 rfl (by decide) rfl dX11_write_15 (c_X11_found (i := 0) hC (by decide) (by decide)) (fitM (by decide) (by decide)) (Nat.le_of_ble_eq_true rfl) ?_
    rintro v υq ⟨rfl, hq⟩
    simp only [Option.toList, List.cons_append, List.nil_append]
    refine rj_i2l dX11_write_18 ?_
    refine rj_lret dX11_write_19 ?_
    have e : F_write A s i v = fndL A 0 := by unfold F_write; rw [if_neg hnp]
    rw [e]
    exact ⟨rfl, hq⟩

def cpL (src dst : List Int64) (f t n : Nat) : List Int64 := (List.range dst.length).map (fun i => if t ≤ i ∧ i < t + n then src.getD (f + (i - t)) 0 else dst.getD i 0)
theorem cpL_len (src dst : List Int64) (f t n : Nat) : (cpL src dst f t n).length = dst.length := by unfold cpL; simp
theorem cpL_at {src dst : List Int64} {f t n i : Nat} (h : i < dst.length) : (cpL src dst f t n).getD i 0 = if t ≤ i ∧ i < t + n then src.getD (f + (i - t)) 0 else dst.getD i 0 := by
  unfold cpL
  rw [List.getD, List.getElem?_map, List.getElem?_range h]
  rfl
abbrev hsF (n : Nat) (f m : Int32) : Prop := 0 ≤ f.toInt ∧ 0 ≤ m.toInt ∧ f.toInt ≤ n - m.toInt
def F_copy (A : SA) (s f t o n : Int32) : Int32 × SA := wS A s fun p => wS A t fun q => if (shT A p).1 = 0 ∨ (shT A q).1 = 0 then fnd A 5 else if (shT A p).1 = (shT A q).1 then (if hsF (shT A p).2.length f n ∧ hsF (shT A q).2.length o n then (n, sS A q ((shT A q).1, cpL (shT A p).2 (shT A q).2 f.toInt.toNat o.toInt.toNat n.toInt.toNat)) else fnd A 0) else fnd A 2
theorem nlt0 {x : Int32} (h : 0 ≤ x.toInt) : ¬ x < 0 := fun q => by have := tlt q; rw [t0] at this; omega
theorem sh_copy {σ : ST} {k k1 : Nat} {b b1 : Int32} {xs ys : List Int64} {f t n : Nat} (hk : kd k = 4) (hk1 : kd k1 = 4) (hx : Sh σ k b xs) (hy : Sh σ k1 b1 ys) (h1 : f + n ≤ xs.length) (h2 : t + n ≤ ys.length) : Sh (uaL σ (k1 + 1) (va_cpy (σ.2 (k + 1)) (σ.2 (k1 + 1)) f t n)) k1 b1 (cpL xs ys f t n) ∧ off (shC k1) σ (uaL σ (k1 + 1) (va_cpy (σ.2 (k + 1)) (σ.2 (k1 + 1)) f t n)) := by
  refine ⟨⟨hy.1, by rw [cpL_len]; exact hy.2.1, by rw [cpL_len]; exact hy.2.2.1, fun i hi => ?_⟩, off.rf.uaL (Or.inr rfl)⟩
  rw [cpL_len] at hi
  rw [uaL_same, cpL_at hi]
  unfold va_cpy
  by_cases h : t ≤ i ∧ i < t + n
  · rw [if_pos h, if_pos h, hx.2.2.2 _ (by omega)]
  · rw [if_neg h, if_neg h, hy.2.2.2 _ hi]
set_option maxRecDepth 100000 in
theorem c_X11_copy {l : Launch} {X : CX} {σ : ST} {fb : Nat} {A : SA} (hC : CR σ fb A) (hw : wf A) {s f t o n : Int32} : MJ l X 2 yX11_copy cX11_copy 8 (some .int) [.ref (ad X 0), .int s, .int f, .int t, .int o, .int n] σ (OP σ (F_copy A s f t o n)) := by
  refine MJ_of (own := RX11) [some (.ref (ad X 0)), some (.int s), some (.int f), some (.int t), some (.int o), some (.int n), none, none] (by decide) rfl (Nat.le_of_ble_eq_true rfl) rfl ?_
  refine rj_ald0 dX11_copy_0 rfl ?_
  refine rj_ild1 dX11_copy_1 rfl ?_
  refine rj_V1 (ci := 11) cX11_268 rfl (by decide) (by first | assumption | rfl) dX11_copy_2 c_X11_sheetAt (fitM (by decide) (by decide)) (Nat.le_of_ble_eq_true rfl) ?_
  rintro v υp ⟨hυp, ⟨p, hvp, hjp, rfl⟩ | ⟨hnp, rfl⟩⟩
  · rw [hυp]
    simp only [Option.toList, List.cons_append, List.nil_append]
    have hksp := sh_kd p hjp
    have hSp : Sh _ (104 + 2 * p) (shT A p).1 (shT A p).2 := hC.2.2.2.2.2.2.2.2.2.1 p hjp
    refine rj_ast6w dX11_copy_5 (by decide) rfl ?_
    refine rj_ald0 dX11_copy_7 rfl ?_
    refine rj_ild3 dX11_copy_8 rfl ?_
    refine rj_V1 (ci := 11) cX11_268 rfl (by decide) (by first | assumption | rfl) dX11_copy_9 c_X11_sheetAt (fitM (by decide) (by decide)) (Nat.le_of_ble_eq_true rfl) ?_
    rintro v υq ⟨hυq, ⟨q, hvq, hjq, rfl⟩ | ⟨hnq, rfl⟩⟩
    · rw [hυq]
      simp only [Option.toList, List.cons_append, List.nil_append]
      have hksq := sh_kd q hjq
      have hSq : Sh _ (104 + 2 * q) (shT A q).1 (shT A q).2 := hC.2.2.2.2.2.2.2.2.2.1 q hjq
      refine rj_ast7w dX11_copy_12 (by decide) rfl ?_
      refine rj_ald dX11_copy_14 rfl ?_
      refine rj_nu_ref dX11_copy_16 ?_
      refine rj_ald dX11_copy_19 rfl ?_
      refine rj_nn_ref (tgt := 31) dX11_copy_21 (by decide) ?_
      have hlp := hSp.2.2.1
      have hlq := hSq.2.2.1
      refine rj_ald dX11_copy_31 rfl ?_
      refine rj_V0i (ci := 4) cX11_277 rfl (by decide) (by first | assumption | rfl) dX11_copy_33 (c_X4_isMissing hksp hSp) (fitM (by decide) (by decide)) (Nat.le_of_ble_eq_true rfl) ?_
      refine rj_if_ne (tgt := 47) dX11_copy_36 (by decide) (fun h_36 => ?_) (fun h_36 => ?_)
      · have hb_36 := bz_f h_36
        refine rj_ald0 dX11_copy_47 rfl ?_
        refine rj_ldcw kX11_280 dX11_copy_48 ?_
        refine rj_V1 (ci := 11) cX11_88 rfl (by decide) rfl dX11_copy_51 (c_X11_found (i := 5) hC (by decide) (by decide)) (fitM (by decide) (by decide)) (Nat.le_of_ble_eq_true rfl) ?_
        rintro v υq ⟨rfl, hq⟩
        simp only [Option.toList, List.cons_append, List.nil_append]
        refine rj_iret dX11_copy_54 ?_
        have e : F_copy A s f t o n = fnd A 5 := by unfold F_copy; rw [wS_in hvp hjp, wS_in hvq hjq, if_pos (Or.inl hb_36)]
        rw [e]
        exact ⟨rfl, hq⟩
      · have hb_36 := bz_t h_36
        refine rj_ald dX11_copy_39 rfl ?_
        refine rj_V0i (ci := 4) cX11_277 rfl (by decide) (by first | assumption | rfl) dX11_copy_41 (c_X4_isMissing hksq hSq) (fitM (by decide) (by decide)) (Nat.le_of_ble_eq_true rfl) ?_
        refine rj_if_eq (tgt := 55) dX11_copy_44 (by decide) (fun h_44 => ?_) (fun h_44 => ?_)
        · have hb_44 := bz_t h_44
          refine rj_ald dX11_copy_55 rfl ?_
          refine g11_288 (by first | assumption | rfl) dX11_copy_57 ?_
          rw [hSp.1]
          refine rj_ald dX11_copy_60 rfl ?_
          refine g11_288 (by first | assumption | rfl) dX11_copy_62 ?_
          rw [hSq.1]
          refine rj_ic_eq (tgt := 75) dX11_copy_65 (by decide) (fun h_65 => ?_) (fun h_65 => ?_)
          · refine rj_ald dX11_copy_75 rfl ?_
            refine rj_ild2 dX11_copy_77 rfl ?_
            refine rj_ild dX11_copy_78 rfl ?_
            refine rj_V2i (ci := 4) cX11_291 rfl (by decide) (by first | assumption | rfl) dX11_copy_80 (c_X4_hasFrom hksp hSp) (fitM (by decide) (by decide)) (Nat.le_of_ble_eq_true rfl) ?_
            refine rj_if_eq (tgt := 98) dX11_copy_83 (by decide) (fun h_83 => ?_) (fun h_83 => ?_)
            · have hb_83 := bz_t h_83
              refine rj_ald0 dX11_copy_98 rfl ?_
              refine rj_ldc kX11_87 dX11_copy_99 ?_
              refine rj_V1 (ci := 11) cX11_88 rfl (by decide) rfl dX11_copy_101 (c_X11_found (i := 0) hC (by decide) (by decide)) (fitM (by decide) (by decide)) (Nat.le_of_ble_eq_true rfl) ?_
              rintro v υq ⟨rfl, hq⟩
              simp only [Option.toList, List.cons_append, List.nil_append]
              refine rj_iret dX11_copy_104 ?_
              have e : F_copy A s f t o n = fnd A 0 := by unfold F_copy; rw [wS_in hvp hjp, wS_in hvq hjq, if_neg (fun z => z.elim hb_36 hb_44), if_pos h_65, if_neg (fun z => hb_83 z.1)]
              rw [e]
              exact ⟨rfl, hq⟩
            · have hb_83 := bz_f h_83
              refine rj_ald dX11_copy_86 rfl ?_
              refine rj_ild dX11_copy_88 rfl ?_
              refine rj_ild dX11_copy_90 rfl ?_
              refine rj_V2i (ci := 4) cX11_291 rfl (by decide) (by first | assumption | rfl) dX11_copy_92 (c_X4_hasFrom hksq hSq) (fitM (by decide) (by decide)) (Nat.le_of_ble_eq_true rfl) ?_
              refine rj_if_ne (tgt := 105) dX11_copy_95 (by decide) (fun h_95 => ?_) (fun h_95 => ?_)
              · have hb_95 := bz_f h_95
                have hcp := sh_copy (f := f.toNatClampNeg) (t := o.toNatClampNeg) (n := n.toNatClampNeg) hksp hksq hSp hSq (by rw [cl_i, cl_i]; omega) (by rw [cl_i, cl_i]; omega)
                refine rj_ald dX11_copy_105 rfl ?_
                refine g11_294 (by first | assumption | rfl) dX11_copy_107 ?_
                refine rj_ild2 dX11_copy_110 rfl ?_
                refine rj_ald dX11_copy_111 rfl ?_
                refine g11_294 (by first | assumption | rfl) dX11_copy_113 ?_
                refine rj_ild dX11_copy_116 rfl ?_
                refine rj_ild dX11_copy_118 rfl ?_
                refine rj_copyl cX11_298 (sh_next hksp).1 (sh_next hksq).1 (nlt0 hb_83.1) (nlt0 hb_95.1) (nlt0 hb_83.2.1) (by rw [(sh_next hksp).2, cl_i, cl_i]; omega) (by rw [(sh_next hksq).2, cl_i, cl_i]; omega) (fitNM (by decide) (Nat.le_of_ble_eq_true rfl)) dX11_copy_120 ?_
                refine rj_ild dX11_copy_123 rfl ?_
                refine rj_iret dX11_copy_125 ?_
                have e : F_copy A s f t o n = (n, sS A q ((shT A q).1, cpL (shT A p).2 (shT A q).2 f.toInt.toNat o.toInt.toNat n.toInt.toNat)) := by unfold F_copy; rw [wS_in hvp hjp, wS_in hvq hjq, if_neg (fun z => z.elim hb_36 hb_44), if_pos h_65, if_pos ⟨hb_83, hb_95⟩]
                rw [e]
                exact ⟨rfl, cr_ex (cr_sheet hC hjq hcp.1 hcp.2)⟩
              · have hb_95 := bz_t h_95
                refine rj_ald0 dX11_copy_98 rfl ?_
                refine rj_ldc kX11_87 dX11_copy_99 ?_
                refine rj_V1 (ci := 11) cX11_88 rfl (by decide) rfl dX11_copy_101 (c_X11_found (i := 0) hC (by decide) (by decide)) (fitM (by decide) (by decide)) (Nat.le_of_ble_eq_true rfl) ?_
                rintro v υq ⟨rfl, hq⟩
                simp only [Option.toList, List.cons_append, List.nil_append]
                refine rj_iret dX11_copy_104 ?_
                have e : F_copy A s f t o n = fnd A 0 := by unfold F_copy; rw [wS_in hvp hjp, wS_in hvq hjq, if_neg (fun z => z.elim hb_36 hb_44), if_pos h_65, if_neg (fun z => hb_95 z.2)]
                rw [e]
                exact ⟨rfl, hq⟩
          · refine rj_ald0 dX11_copy_68 rfl ?_
            refine rj_ldc kX11_156 dX11_copy_69 ?_
            refine rj_V1 (ci := 11) cX11_88 rfl (by decide) rfl dX11_copy_71 (c_X11_found (i := 2) hC (by decide) (by decide)) (fitM (by decide) (by decide)) (Nat.le_of_ble_eq_true rfl) ?_
            rintro v υq ⟨rfl, hq⟩
            simp only [Option.toList, List.cons_append, List.nil_append]
            refine rj_iret dX11_copy_74 ?_
            have e : F_copy A s f t o n = fnd A 2 := by unfold F_copy; rw [wS_in hvp hjp, wS_in hvq hjq, if_neg (fun z => z.elim hb_36 hb_44), if_neg h_65]
            rw [e]
            exact ⟨rfl, hq⟩
        · have hb_44 := bz_f h_44
          refine rj_ald0 dX11_copy_47 rfl ?_
          refine rj_ldcw kX11_280 dX11_copy_48 ?_
          refine rj_V1 (ci := 11) cX11_88 rfl (by decide) rfl dX11_copy_51 (c_X11_found (i := 5) hC (by decide) (by decide)) (fitM (by decide) (by decide)) (Nat.le_of_ble_eq_true rfl) ?_
          rintro v υq ⟨rfl, hq⟩
          simp only [Option.toList, List.cons_append, List.nil_append]
          refine rj_iret dX11_copy_54 ?_
          have e : F_copy A s f t o n = fnd A 5 := by unfold F_copy; rw [wS_in hvp hjp, wS_in hvq hjq, if_pos (Or.inr hb_44)]
          rw [e]
          exact ⟨rfl, hq⟩
    · rw [hυq]
      simp only [Option.toList, List.cons_append, List.nil_append]
      refine rj_nst7w dX11_copy_12 (by decide) rfl ?_
      refine rj_ald dX11_copy_14 rfl ?_
      refine rj_nu_ref dX11_copy_16 ?_
      refine rj_aldN dX11_copy_19 rfl ?_
      refine rj_nn_null dX11_copy_21 ?_
      refine rj_ald0 dX11_copy_24 rfl ?_
      refine rj_ldc kX11_87 dX11_copy_25 ?_
      refine rj_V1 (ci := 11) cX11_88 rfl (by decide) rfl dX11_copy_27 (c_X11_found (i := 0) hC (by decide) (by decide)) (fitM (by decide) (by decide)) (Nat.le_of_ble_eq_true rfl) ?_
      rintro v υq ⟨rfl, hq⟩
      simp only [Option.toList, List.cons_append, List.nil_append]
      refine rj_iret dX11_copy_30 ?_
      have e : F_copy A s f t o n = fnd A 0 := by unfold F_copy; rw [wS_in hvp hjp, wS_out hnq]
      rw [e]
      exact ⟨rfl, hq⟩
  · rw [hυp]
    simp only [Option.toList, List.cons_append, List.nil_append]
    refine rj_nst6w dX11_copy_5 (by decide) rfl ?_
    refine rj_ald0 dX11_copy_7 rfl ?_
    refine rj_ild3 dX11_copy_8 rfl ?_
    refine rj_V1 (ci := 11) cX11_268 rfl (by decide) (by first | assumption | rfl) dX11_copy_9 c_X11_sheetAt (fitM (by decide) (by decide)) (Nat.le_of_ble_eq_true rfl) ?_
    rintro v υq ⟨hυq, ⟨q, hvq, hjq, rfl⟩ | ⟨hnq, rfl⟩⟩
    · rw [hυq]
      simp only [Option.toList, List.cons_append, List.nil_append]
      have hksq := sh_kd q hjq
      have hSq : Sh _ (104 + 2 * q) (shT A q).1 (shT A q).2 := hC.2.2.2.2.2.2.2.2.2.1 q hjq
      refine rj_ast7w dX11_copy_12 (by decide) rfl ?_
      refine rj_aldN dX11_copy_14 rfl ?_
      refine rj_nu_null (tgt := 24) dX11_copy_16 (by decide) ?_
      refine rj_ald0 dX11_copy_24 rfl ?_
      refine rj_ldc kX11_87 dX11_copy_25 ?_
      refine rj_V1 (ci := 11) cX11_88 rfl (by decide) rfl dX11_copy_27 (c_X11_found (i := 0) hC (by decide) (by decide)) (fitM (by decide) (by decide)) (Nat.le_of_ble_eq_true rfl) ?_
      rintro v υq ⟨rfl, hq⟩
      simp only [Option.toList, List.cons_append, List.nil_append]
      refine rj_iret dX11_copy_30 ?_
      have e : F_copy A s f t o n = fnd A 0 := by unfold F_copy; rw [wS_out hnp]
      rw [e]
      exact ⟨rfl, hq⟩
    · rw [hυq]
      simp only [Option.toList, List.cons_append, List.nil_append]
      refine rj_nst7w dX11_copy_12 (by decide) rfl ?_
      refine rj_aldN dX11_copy_14 rfl ?_
      refine rj_nu_null (tgt := 24) dX11_copy_16 (by decide) ?_
      refine rj_ald0 dX11_copy_24 rfl ?_
      refine rj_ldc kX11_87 dX11_copy_25 ?_
      refine rj_V1 (ci := 11) cX11_88 rfl (by decide) rfl dX11_copy_27 (c_X11_found (i := 0) hC (by decide) (by decide)) (fitM (by decide) (by decide)) (Nat.le_of_ble_eq_true rfl) ?_
      rintro v υq ⟨rfl, hq⟩
      simp only [Option.toList, List.cons_append, List.nil_append]
      refine rj_iret dX11_copy_30 ?_
      have e : F_copy A s f t o n = fnd A 0 := by unfold F_copy; rw [wS_out hnp]
      rw [e]
      exact ⟨rfl, hq⟩

