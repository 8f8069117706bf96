/-! the reference: moves -/
set_option maxRecDepth 100000 in
theorem c_X12_canSlide {l : Launch} {X : CX} {σ : ST} {xs : List Int32} (hx : TR σ xs) {j : Nat} (hj : j ≤ 12) : MJ l X 1 yX12_canSlide cX12_canSlide 2 (some .boolean) [.ref (ad X 112), .int (nI j)] σ (eqI (if csl xs j then 1 else 0) σ) := by
  refine MJ_of (own := RX12) [some (.ref (ad X 112)), some (.int (nI j))] (by decide) rfl (Nat.le_of_ble_eq_true rfl) rfl ?_
  have hc := hx.2.1
  have hs := hx.1
  have hlt : (nI xs.length).toInt = xs.length := nI_t (by omega)
  have hit : (nI j).toInt = j := nI_t (by omega)
  have hit1 : (nI (j + 1)).toInt = j + 1 := by rw [nI_t (by omega)]; omega
  have hit2 : (nI (j + 2)).toInt = j + 2 := by rw [nI_t (by omega)]; omega
  have e2 : nI j + 2 = nI (j + 2) := by rw [show (2 : Int32) = nI 2 from rfl, nI_add]
  refine rj_ild1 dX12_canSlide_0 rfl ?_
  refine rj_ic1 dX12_canSlide_1 ?_
  refine rj_iadd dX12_canSlide_2 ?_
  rw [nI_1]
  refine rj_ald0 dX12_canSlide_3 rfl ?_
  refine g12_107 dX12_canSlide_4 ?_
  rw [hs]
  refine rj_ic_lt (tgt := 12) dX12_canSlide_7 (by decide) (fun h_7 => ?_) (fun h_7 => ?_)
  · refine rj_ald0 dX12_canSlide_12 rfl ?_
    refine g12_22 dX12_canSlide_13 ?_
    refine rj_ild1 dX12_canSlide_16 rfl ?_
    refine rj_iald (by first | assumption | rfl) (vpi (by omega) (by show _ < ((12 : Nat) : Int); omega)) dX12_canSlide_17 ?_
    rw [nI_clamp (by omega), hx.2.2 j (by omega)]
    refine rj_S1i cX12_144 dX12_canSlide_18 c_X12_apartOf (fitM (by decide) (by decide)) (Nat.le_of_ble_eq_true rfl) ?_
    refine rj_ald0 dX12_canSlide_21 rfl ?_
    refine g12_22 dX12_canSlide_22 ?_
    refine rj_ild1 dX12_canSlide_25 rfl ?_
    refine rj_ic1 dX12_canSlide_26 ?_
    refine rj_iadd dX12_canSlide_27 ?_
    rw [nI_1]
    refine rj_iald (by first | assumption | rfl) (vpi (by omega) (by show _ < ((12 : Nat) : Int); omega)) dX12_canSlide_28 ?_
    rw [nI_clamp (by omega), hx.2.2 (j + 1) (by omega)]
    refine rj_S1i cX12_144 dX12_canSlide_29 c_X12_apartOf (fitM (by decide) (by decide)) (Nat.le_of_ble_eq_true rfl) ?_
    refine rj_isub dX12_canSlide_32 ?_
    refine rj_S1i cX12_144 dX12_canSlide_33 c_X12_apartOf (fitM (by decide) (by decide)) (Nat.le_of_ble_eq_true rfl) ?_
    refine rj_ic1 dX12_canSlide_36 ?_
    refine rj_ic_le (tgt := 44) dX12_canSlide_37 (by decide) (fun h_37 => ?_) (fun h_37 => ?_)
    · refine rj_ic0 dX12_canSlide_44 ?_
      refine rj_zret dX12_canSlide_45 (rfl) ?_
      have h2 : (dst (xs.getD j 0) (xs.getD (j + 1) 0)).toInt ≤ (1 : Int32).toInt := h_37
      rw [t1] at h2
      refine ⟨?_, rfl⟩
      rw [if_neg (fun z => by have := z.2; omega)]
    · refine rj_ic1 dX12_canSlide_40 ?_
      refine rj_goto (tgt := 45) dX12_canSlide_41 (by decide) ?_
      refine rj_zret dX12_canSlide_45 (rfl) ?_
      have h2 : (1 : Int32).toInt < (dst (xs.getD j 0) (xs.getD (j + 1) 0)).toInt := h_37
      rw [t1] at h2
      refine ⟨?_, rfl⟩
      rw [if_pos ⟨by omega, by omega⟩]
  · refine rj_ic0 dX12_canSlide_10 ?_
    refine rj_zret dX12_canSlide_11 (rfl) ?_
    refine ⟨?_, rfl⟩
    rw [if_neg (fun z => by have := z.1; omega)]

set_option maxRecDepth 100000 in
theorem c_X12_canThird {l : Launch} {X : CX} {σ : ST} {xs : List Int32} (hx : TR σ xs) {j : Nat} (hj : j ≤ 12) : MJ l X 1 yX12_canThird cX12_canThird 3 (some .boolean) [.ref (ad X 112), .int (nI j)] σ (eqI (if cth xs j then 1 else 0) σ) := by
  refine MJ_of (own := RX12) [some (.ref (ad X 112)), some (.int (nI j)), none] (by decide) rfl (Nat.le_of_ble_eq_true rfl) rfl ?_
  have hc := hx.2.1
  have hs := hx.1
  have hlt : (nI xs.length).toInt = xs.length := nI_t (by omega)
  have hit : (nI j).toInt = j := nI_t (by omega)
  have hit1 : (nI (j + 1)).toInt = j + 1 := by rw [nI_t (by omega)]; omega
  have hit2 : (nI (j + 2)).toInt = j + 2 := by rw [nI_t (by omega)]; omega
  have e2 : nI j + 2 = nI (j + 2) := by rw [show (2 : Int32) = nI 2 from rfl, nI_add]
  refine rj_ild1 dX12_canThird_0 rfl ?_
  refine rj_ic2 dX12_canThird_1 ?_
  refine rj_iadd dX12_canThird_2 ?_
  rw [e2]
  refine rj_ald0 dX12_canThird_3 rfl ?_
  refine g12_107 dX12_canThird_4 ?_
  rw [hs]
  refine rj_ic_ge (tgt := 27) dX12_canThird_7 (by decide) (fun h_7 => ?_) (fun h_7 => ?_)
  · refine rj_ic0 dX12_canThird_27 ?_
    refine rj_zret dX12_canThird_28 (rfl) ?_
    refine ⟨?_, rfl⟩
    rw [if_neg (fun z => by have := z.1; omega)]
  · refine rj_ald0 dX12_canThird_10 rfl ?_
    refine g12_22 dX12_canThird_11 ?_
    refine rj_ild1 dX12_canThird_14 rfl ?_
    refine rj_iald (by first | assumption | rfl) (vpi (by omega) (by show _ < ((12 : Nat) : Int); omega)) dX12_canThird_15 ?_
    rw [nI_clamp (by omega), hx.2.2 j (by omega)]
    refine rj_ald0 dX12_canThird_16 rfl ?_
    refine g12_22 dX12_canThird_17 ?_
    refine rj_ild1 dX12_canThird_20 rfl ?_
    refine rj_ic2 dX12_canThird_21 ?_
    refine rj_iadd dX12_canThird_22 ?_
    rw [e2]
    refine rj_iald (by first | assumption | rfl) (vpi (by omega) (by show _ < ((12 : Nat) : Int); omega)) dX12_canThird_23 ?_
    rw [nI_clamp (by omega), hx.2.2 (j + 2) (by omega)]
    refine rj_ic_eq (tgt := 29) dX12_canThird_24 (by decide) (fun h_24 => ?_) (fun h_24 => ?_)
    · refine rj_ald0 dX12_canThird_29 rfl ?_
      refine g12_22 dX12_canThird_30 ?_
      refine rj_ild1 dX12_canThird_33 rfl ?_
      refine rj_iald (by first | assumption | rfl) (vpi (by omega) (by show _ < ((12 : Nat) : Int); omega)) dX12_canThird_34 ?_
      rw [nI_clamp (by omega), hx.2.2 j (by omega)]
      refine rj_if_le (tgt := 42) dX12_canThird_35 (by decide) (fun h_35 => ?_) (fun h_35 => ?_)
      · refine rj_ic0 dX12_canThird_42 ?_
        refine rj_ald0 dX12_canThird_43 rfl ?_
        refine g12_22 dX12_canThird_44 ?_
        refine rj_ild1 dX12_canThird_47 rfl ?_
        refine rj_ic1 dX12_canThird_48 ?_
        refine rj_iadd dX12_canThird_49 ?_
        rw [nI_1]
        refine rj_iald (by first | assumption | rfl) (vpi (by omega) (by show _ < ((12 : Nat) : Int); omega)) dX12_canThird_50 ?_
        rw [nI_clamp (by omega), hx.2.2 (j + 1) (by omega)]
        refine rj_if_le (tgt := 58) dX12_canThird_51 (by decide) (fun h_51 => ?_) (fun h_51 => ?_)
        · refine rj_ic0 dX12_canThird_58 ?_
          refine rj_ic_ne (tgt := 66) dX12_canThird_59 (by decide) (fun h_59 => ?_) (fun h_59 => ?_)
          · exact absurd rfl h_59
          · refine rj_ic1 dX12_canThird_62 ?_
            refine rj_goto (tgt := 67) dX12_canThird_63 (by decide) ?_
            refine rj_ist2 dX12_canThird_67 (by decide) rfl ?_
            refine rj_ild2 dX12_canThird_68 rfl ?_
            refine rj_if_eq (tgt := 104) dX12_canThird_69 (by decide) (fun h_69 => ?_) (fun h_69 => ?_)
            · exact absurd h_69 (by decide)
            · refine rj_ald0 dX12_canThird_72 rfl ?_
              refine g12_22 dX12_canThird_73 ?_
              refine rj_ild1 dX12_canThird_76 rfl ?_
              refine rj_iald (by first | assumption | rfl) (vpi (by omega) (by show _ < ((12 : Nat) : Int); omega)) dX12_canThird_77 ?_
              rw [nI_clamp (by omega), hx.2.2 j (by omega)]
              refine rj_S1i cX12_144 dX12_canThird_78 c_X12_apartOf (fitM (by decide) (by decide)) (Nat.le_of_ble_eq_true rfl) ?_
              refine rj_ald0 dX12_canThird_81 rfl ?_
              refine g12_22 dX12_canThird_82 ?_
              refine rj_ild1 dX12_canThird_85 rfl ?_
              refine rj_ic1 dX12_canThird_86 ?_
              refine rj_iadd dX12_canThird_87 ?_
              rw [nI_1]
              refine rj_iald (by first | assumption | rfl) (vpi (by omega) (by show _ < ((12 : Nat) : Int); omega)) dX12_canThird_88 ?_
              rw [nI_clamp (by omega), hx.2.2 (j + 1) (by omega)]
              refine rj_S1i cX12_144 dX12_canThird_89 c_X12_apartOf (fitM (by decide) (by decide)) (Nat.le_of_ble_eq_true rfl) ?_
              refine rj_isub dX12_canThird_92 ?_
              refine rj_S1i cX12_144 dX12_canThird_93 c_X12_apartOf (fitM (by decide) (by decide)) (Nat.le_of_ble_eq_true rfl) ?_
              refine rj_ic1 dX12_canThird_96 ?_
              refine rj_ic_ne (tgt := 104) dX12_canThird_97 (by decide) (fun h_97 => ?_) (fun h_97 => ?_)
              · refine rj_ic0 dX12_canThird_104 ?_
                refine rj_zret dX12_canThird_105 (rfl) ?_
                refine ⟨?_, rfl⟩
                rw [if_neg (fun z => h_97 z.2.2.2)]
              · refine rj_ic1 dX12_canThird_100 ?_
                refine rj_goto (tgt := 105) dX12_canThird_101 (by decide) ?_
                refine rj_zret dX12_canThird_105 (rfl) ?_
                refine ⟨?_, rfl⟩
                rw [if_pos ⟨by omega, h_24, by omega, h_97⟩]
        · refine rj_ic1 dX12_canThird_54 ?_
          refine rj_goto (tgt := 59) dX12_canThird_55 (by decide) ?_
          refine rj_ic_ne (tgt := 66) dX12_canThird_59 (by decide) (fun h_59 => ?_) (fun h_59 => ?_)
          · refine rj_ic0 dX12_canThird_66 ?_
            refine rj_ist2 dX12_canThird_67 (by decide) rfl ?_
            refine rj_ild2 dX12_canThird_68 rfl ?_
            refine rj_if_eq (tgt := 104) dX12_canThird_69 (by decide) (fun h_69 => ?_) (fun h_69 => ?_)
            · refine rj_ic0 dX12_canThird_104 ?_
              refine rj_zret dX12_canThird_105 (rfl) ?_
              refine ⟨?_, rfl⟩
              rw [if_neg (fun z => by have := z.2.2.1; omega)]
            · exact absurd rfl h_69
          · exact absurd h_59 (by decide)
      · refine rj_ic1 dX12_canThird_38 ?_
        refine rj_goto (tgt := 43) dX12_canThird_39 (by decide) ?_
        refine rj_ald0 dX12_canThird_43 rfl ?_
        refine g12_22 dX12_canThird_44 ?_
        refine rj_ild1 dX12_canThird_47 rfl ?_
        refine rj_ic1 dX12_canThird_48 ?_
        refine rj_iadd dX12_canThird_49 ?_
        rw [nI_1]
        refine rj_iald (by first | assumption | rfl) (vpi (by omega) (by show _ < ((12 : Nat) : Int); omega)) dX12_canThird_50 ?_
        rw [nI_clamp (by omega), hx.2.2 (j + 1) (by omega)]
        refine rj_if_le (tgt := 58) dX12_canThird_51 (by decide) (fun h_51 => ?_) (fun h_51 => ?_)
        · refine rj_ic0 dX12_canThird_58 ?_
          refine rj_ic_ne (tgt := 66) dX12_canThird_59 (by decide) (fun h_59 => ?_) (fun h_59 => ?_)
          · refine rj_ic0 dX12_canThird_66 ?_
            refine rj_ist2 dX12_canThird_67 (by decide) rfl ?_
            refine rj_ild2 dX12_canThird_68 rfl ?_
            refine rj_if_eq (tgt := 104) dX12_canThird_69 (by decide) (fun h_69 => ?_) (fun h_69 => ?_)
            · refine rj_ic0 dX12_canThird_104 ?_
              refine rj_zret dX12_canThird_105 (rfl) ?_
              refine ⟨?_, rfl⟩
              rw [if_neg (fun z => by have := z.2.2.1; omega)]
            · exact absurd rfl h_69
          · exact absurd h_59 (by decide)
        · refine rj_ic1 dX12_canThird_54 ?_
          refine rj_goto (tgt := 59) dX12_canThird_55 (by decide) ?_
          refine rj_ic_ne (tgt := 66) dX12_canThird_59 (by decide) (fun h_59 => ?_) (fun h_59 => ?_)
          · exact absurd rfl h_59
          · refine rj_ic1 dX12_canThird_62 ?_
            refine rj_goto (tgt := 67) dX12_canThird_63 (by decide) ?_
            refine rj_ist2 dX12_canThird_67 (by decide) rfl ?_
            refine rj_ild2 dX12_canThird_68 rfl ?_
            refine rj_if_eq (tgt := 104) dX12_canThird_69 (by decide) (fun h_69 => ?_) (fun h_69 => ?_)
            · exact absurd h_69 (by decide)
            · refine rj_ald0 dX12_canThird_72 rfl ?_
              refine g12_22 dX12_canThird_73 ?_
              refine rj_ild1 dX12_canThird_76 rfl ?_
              refine rj_iald (by first | assumption | rfl) (vpi (by omega) (by show _ < ((12 : Nat) : Int); omega)) dX12_canThird_77 ?_
              rw [nI_clamp (by omega), hx.2.2 j (by omega)]
              refine rj_S1i cX12_144 dX12_canThird_78 c_X12_apartOf (fitM (by decide) (by decide)) (Nat.le_of_ble_eq_true rfl) ?_
              refine rj_ald0 dX12_canThird_81 rfl ?_
              refine g12_22 dX12_canThird_82 ?_
              refine rj_ild1 dX12_canThird_85 rfl ?_
              refine rj_ic1 dX12_canThird_86 ?_
              refine rj_iadd dX12_canThird_87 ?_
              rw [nI_1]
              refine rj_iald (by first | assumption | rfl) (vpi (by omega) (by show _ < ((12 : Nat) : Int); omega)) dX12_canThird_88 ?_
              rw [nI_clamp (by omega), hx.2.2 (j + 1) (by omega)]
              refine rj_S1i cX12_144 dX12_canThird_89 c_X12_apartOf (fitM (by decide) (by decide)) (Nat.le_of_ble_eq_true rfl) ?_
              refine rj_isub dX12_canThird_92 ?_
              refine rj_S1i cX12_144 dX12_canThird_93 c_X12_apartOf (fitM (by decide) (by decide)) (Nat.le_of_ble_eq_true rfl) ?_
              refine rj_ic1 dX12_canThird_96 ?_
              refine rj_ic_ne (tgt := 104) dX12_canThird_97 (by decide) (fun h_97 => ?_) (fun h_97 => ?_)
              · refine rj_ic0 dX12_canThird_104 ?_
                refine rj_zret dX12_canThird_105 (rfl) ?_
                refine ⟨?_, rfl⟩
                rw [if_neg (fun z => h_97 z.2.2.2)]
              · refine rj_ic1 dX12_canThird_100 ?_
                refine rj_goto (tgt := 105) dX12_canThird_101 (by decide) ?_
                refine rj_zret dX12_canThird_105 (rfl) ?_
                refine ⟨?_, rfl⟩
                rw [if_pos ⟨by omega, h_24, by omega, h_97⟩]
    · refine rj_ic0 dX12_canThird_27 ?_
      refine rj_zret dX12_canThird_28 (rfl) ?_
      refine ⟨?_, rfl⟩
      rw [if_neg (fun z => h_24 z.2.1)]

abbrev cmM (xs : List Int32) (m : Nat) : Prop := (m < 12 ∧ csl xs m) ∨ (12 ≤ m ∧ cth xs (m - 12))
def mvM (xs : List Int32) (m : Nat) : List Int32 := if m < 12 then msl xs m else mth xs (m - 12)
theorem mvM_len (xs : List Int32) (m : Nat) : (mvM xs m).length = xs.length := by unfold mvM; split; exact msl_len xs m; exact mth_len xs _
theorem mvM_2 {xs : List Int32} {m : Nat} (h : cmM xs m) : mvM (mvM xs m) m = xs := by
  unfold mvM
  rcases h with ⟨h1, h2⟩ | ⟨h1, h2⟩
  · rw [if_pos h1, if_pos h1]; exact msl_msl h2
  · rw [if_neg (by omega), if_neg (by omega)]; exact mth_mth h2
theorem cob_M {n : Nat} {xs : List Int32} (h12 : xs.length ≤ 12) : cob (n + 1) xs ↔ ∃ m, m < 24 ∧ cmM xs m ∧ cob n (mvM xs m) := by
  constructor
  · rintro ⟨j, hj, hc, hr⟩
    by_cases h1 : csl xs j
    · refine ⟨j, by omega, Or.inl ⟨by omega, h1⟩, ?_⟩
      unfold mv at hr
      rw [if_pos h1] at hr
      unfold mvM
      rw [if_pos (by omega)]
      exact hr
    · have h2 : cth xs j := hc.resolve_left h1
      unfold mv at hr
      rw [if_neg h1, if_pos h2] at hr
      refine ⟨j + 12, by omega, Or.inr ⟨by omega, by rw [Nat.add_sub_cancel]; exact h2⟩, ?_⟩
      unfold mvM
      rw [if_neg (by omega), Nat.add_sub_cancel]
      exact hr
  · rintro ⟨m, hm, hc, hr⟩
    unfold mvM at hr
    rcases hc with ⟨h1, h2⟩ | ⟨h1, h2⟩
    · rw [if_pos h1] at hr
      refine ⟨m, by have := h2.1; omega, Or.inl h2, ?_⟩
      unfold mv
      rw [if_pos h2]
      exact hr
    · rw [if_neg (by omega)] at hr
      refine ⟨m - 12, by have := h2.1; omega, Or.inr h2, ?_⟩
      unfold mv
      rw [if_neg (csl_cth h2), if_pos h2]
      exact hr
theorem bP_c {p q : Prop} (h : p ↔ q) : bP p = bP q := by rw [propext h]
theorem e12 : (12 : Int32).toInt = 12 := by decide
theorem sub12 {m : Nat} (h : m < 100) (h2 : 12 ≤ m) : nI m - 12 = nI (m - 12) := by
  apply i_inj
  rw [i_sub (by rw [nI_t (by omega), e12]; omega) (by rw [nI_t (by omega), e12]; omega), nI_t (by omega), nI_t (by omega), e12]
  omega
set_option maxRecDepth 100000 in
theorem c_X12_canMove {l : Launch} {X : CX} {σ : ST} {xs : List Int32} (hx : TR σ xs) {m : Nat} (hm : m < 24) : MJ l X 2 yX12_canMove cX12_canMove 2 (some .boolean) [.ref (ad X 112), .int (nI m)] σ (eqI (if cmM xs m then 1 else 0) σ) := by
  refine MJ_of (own := RX12) [some (.ref (ad X 112)), some (.int (nI m))] (by decide) rfl (Nat.le_of_ble_eq_true rfl) rfl ?_
  have hit : (nI m).toInt = m := nI_t (by omega)
  have q12 := e12
  refine rj_ild1 dX12_canMove_0 rfl ?_
  refine rj_bipush (v := 12) dX12_canMove_1 (by decide) ?_
  refine rj_ic_ge (tgt := 14) dX12_canMove_3 (by decide) (fun h_3 => ?_) (fun h_3 => ?_)
  · refine rj_ald0 dX12_canMove_14 rfl ?_
    refine rj_ild1 dX12_canMove_15 rfl ?_
    refine rj_bipush (v := 12) dX12_canMove_16 (by decide) ?_
    refine rj_isub dX12_canMove_18 ?_
    rw [sub12 (by omega) (by omega)]
    refine rj_V1i (ci := 12) cX12_150 rfl (by decide) (by first | assumption | rfl) dX12_canMove_19 (c_X12_canThird hx (by omega)) (fitM (by decide) (by decide)) (Nat.le_of_ble_eq_true rfl) ?_
    refine rj_zret dX12_canMove_22 (by first | rfl | (split <;> rfl)) ?_
    refine ⟨?_, rfl⟩
    congr 2
    by_cases q : cth xs (m - 12)
    · rw [if_pos q, if_pos (Or.inr ⟨by omega, q⟩)]
    · rw [if_neg q, if_neg (fun z => z.elim (fun y => by omega) (fun y => q y.2))]
  · refine rj_ald0 dX12_canMove_6 rfl ?_
    refine rj_ild1 dX12_canMove_7 rfl ?_
    refine rj_V1i (ci := 12) cX12_147 rfl (by decide) (by first | assumption | rfl) dX12_canMove_8 (c_X12_canSlide hx (by omega)) (fitM (by decide) (by decide)) (Nat.le_of_ble_eq_true rfl) ?_
    refine rj_goto (tgt := 22) dX12_canMove_11 (by decide) ?_
    refine rj_zret dX12_canMove_22 (by first | rfl | (split <;> rfl)) ?_
    refine ⟨?_, rfl⟩
    congr 2
    by_cases q : csl xs m
    · rw [if_pos q, if_pos (Or.inl ⟨by omega, q⟩)]
    · rw [if_neg q, if_neg (fun z => z.elim (fun y => q y.2) (fun y => by omega))]

theorem tr_put {σ : ST} {xs : List Int32} {j : Nat} {v : Int32} (h : TR σ xs) (hj : j < xs.length) : TR (ui σ 117 j v) (xs.set j v) ∧ nq 117 7 σ (ui σ 117 j v) := by
  refine ⟨⟨by rw [ui_ne (by decide), List.length_set]; exact h.1, by rw [List.length_set]; exact h.2.1, fun i hi => ?_⟩, nq_c nq_rf (by decide)⟩
  rw [List.length_set] at hi
  rw [getD_setI _ _ _ _ hj, ui_at]
  by_cases z : i = j
  · rw [if_pos ⟨rfl, z⟩, if_pos z]
  · rw [if_neg (fun y => z y.2), if_neg z]; exact h.2.2 i hi
set_option maxRecDepth 100000 in
theorem c_X12_makeMoveS {l : Launch} {X : CX} {σ : ST} {xs : List Int32} (hx : TR σ xs) {j : Nat} (hj : j < 12) (h1 : j + 1 < xs.length) : MJ l X 0 yX12_makeMove cX12_makeMove 5 none [.ref (ad X 112), .int (nI j)] σ (PV (fun τ => TR τ (msl xs j) ∧ nq 117 7 σ τ)) := by
  refine MJ_of (own := RX12) [some (.ref (ad X 112)), some (.int (nI j)), none, none, none] (by decide) rfl (Nat.le_of_ble_eq_true rfl) rfl ?_
  have hc := hx.2.1
  have hs := hx.1
  have hlt : (nI xs.length).toInt = xs.length := nI_t (by omega)
  have hit : (nI j).toInt = j := nI_t (by omega)
  have hit1 : (nI (j + 1)).toInt = j + 1 := by rw [nI_t (by omega)]; omega
  have hit2 : (nI (j + 2)).toInt = j + 2 := by rw [nI_t (by omega)]; omega
  have e2 : nI j + 2 = nI (j + 2) := by rw [show (2 : Int32) = nI 2 from rfl, nI_add]
  have q12 := e12
  refine rj_ild1 dX12_makeMove_0 rfl ?_
  refine rj_bipush (v := 12) dX12_makeMove_1 (by decide) ?_
  refine rj_ic_ge (tgt := 10) dX12_makeMove_3 (by decide) (fun h_3 => ?_) (fun h_3 => ?_)
  · exfalso; omega
  · refine rj_ild1 dX12_makeMove_6 rfl ?_
    refine rj_goto (tgt := 14) dX12_makeMove_7 (by decide) ?_
    refine rj_ist2 dX12_makeMove_14 (by decide) rfl ?_
    refine rj_ald0 dX12_makeMove_15 rfl ?_
    refine g12_22 dX12_makeMove_16 ?_
    refine rj_ild2 dX12_makeMove_19 rfl ?_
    refine rj_iald (by first | assumption | rfl) (vpi (by omega) (by show _ < ((12 : Nat) : Int); omega)) dX12_makeMove_20 ?_
    rw [nI_clamp (by omega), hx.2.2 j (by omega)]
    refine rj_ist3 dX12_makeMove_21 (by decide) rfl ?_
    refine rj_ald0 dX12_makeMove_22 rfl ?_
    refine g12_22 dX12_makeMove_23 ?_
    refine rj_ild2 dX12_makeMove_26 rfl ?_
    refine rj_ic1 dX12_makeMove_27 ?_
    refine rj_iadd dX12_makeMove_28 ?_
    rw [nI_1]
    refine rj_iald (by first | assumption | rfl) (vpi (by omega) (by show _ < ((12 : Nat) : Int); omega)) dX12_makeMove_29 ?_
    rw [nI_clamp (by omega), hx.2.2 (j + 1) (by omega)]
    refine rj_ist4w dX12_makeMove_30 (by decide) rfl ?_
    refine rj_ald0 dX12_makeMove_32 rfl ?_
    refine g12_22 dX12_makeMove_33 ?_
    refine rj_ild2 dX12_makeMove_36 rfl ?_
    refine rj_ild dX12_makeMove_37 rfl ?_
    refine rj_iast (by first | assumption | rfl) (vpi (by omega) (by show _ < ((12 : Nat) : Int); omega)) dX12_makeMove_39 ?_
    rw [nI_clamp (by omega)]
    refine rj_ald0 dX12_makeMove_40 rfl ?_
    refine g12_22 dX12_makeMove_41 ?_
    refine rj_ild2 dX12_makeMove_44 rfl ?_
    refine rj_ic1 dX12_makeMove_45 ?_
    refine rj_iadd dX12_makeMove_46 ?_
    rw [nI_1]
    refine rj_ild3 dX12_makeMove_47 rfl ?_
    refine rj_iast (by first | assumption | rfl) (vpi (by omega) (by show _ < ((12 : Nat) : Int); omega)) dX12_makeMove_48 ?_
    rw [nI_clamp (by omega)]
    refine rj_ild1 dX12_makeMove_49 rfl ?_
    refine rj_bipush (v := 12) dX12_makeMove_50 (by decide) ?_
    refine rj_ic_lt (tgt := 65) dX12_makeMove_52 (by decide) (fun h_52 => ?_) (fun h_52 => ?_)
    · refine rj_vret dX12_makeMove_65 ?_
      have q1 := tr_put (j := j) (v := xs.getD (j + 1) 0) hx (by omega)
      have q2 := tr_put (j := j + 1) (v := xs.getD j 0) q1.1 (by rw [List.length_set]; omega)
      exact ⟨rfl, q2.1, nq_tr q1.2 q2.2⟩
    · exfalso; omega

set_option maxRecDepth 100000 in
theorem c_X12_makeMoveT {l : Launch} {X : CX} {σ : ST} {xs : List Int32} (hx : TR σ xs) {j : Nat} (hj : j < 12) (h1 : j + 2 < xs.length) : MJ l X 0 yX12_makeMove cX12_makeMove 5 none [.ref (ad X 112), .int (nI (j + 12))] σ (PV (fun τ => TR τ (mth xs j) ∧ nq 117 7 σ τ)) := by
  refine MJ_of (own := RX12) [some (.ref (ad X 112)), some (.int (nI (j + 12))), none, none, none] (by decide) rfl (Nat.le_of_ble_eq_true rfl) rfl ?_
  have hc := hx.2.1
  have hs := hx.1
  have hlt : (nI xs.length).toInt = xs.length := nI_t (by omega)
  have hit : (nI j).toInt = j := nI_t (by omega)
  have hit1 : (nI (j + 1)).toInt = j + 1 := by rw [nI_t (by omega)]; omega
  have hit2 : (nI (j + 2)).toInt = j + 2 := by rw [nI_t (by omega)]; omega
  have e2 : nI j + 2 = nI (j + 2) := by rw [show (2 : Int32) = nI 2 from rfl, nI_add]
  have q12 := e12
  have hi12 : (nI (j + 12)).toInt = j + 12 := by rw [nI_t (by omega)]; omega
  have h12 : nI (j + 12) - 12 = nI j := by rw [sub12 (by omega) (by omega), Nat.add_sub_cancel]
  refine rj_ild1 dX12_makeMove_0 rfl ?_
  refine rj_bipush (v := 12) dX12_makeMove_1 (by decide) ?_
  refine rj_ic_ge (tgt := 10) dX12_makeMove_3 (by decide) (fun h_3 => ?_) (fun h_3 => ?_)
  · refine rj_ild1 dX12_makeMove_10 rfl ?_
    refine rj_bipush (v := 12) dX12_makeMove_11 (by decide) ?_
    refine rj_isub dX12_makeMove_13 ?_
    rw [h12]
    refine rj_ist2 dX12_makeMove_14 (by decide) rfl ?_
    refine rj_ald0 dX12_makeMove_15 rfl ?_
    refine g12_22 dX12_makeMove_16 ?_
    refine rj_ild2 dX12_makeMove_19 rfl ?_
    refine rj_iald (by first | assumption | rfl) (vpi (by omega) (by show _ < ((12 : Nat) : Int); omega)) dX12_makeMove_20 ?_
    rw [nI_clamp (by omega), hx.2.2 j (by omega)]
    refine rj_ist3 dX12_makeMove_21 (by decide) rfl ?_
    refine rj_ald0 dX12_makeMove_22 rfl ?_
    refine g12_22 dX12_makeMove_23 ?_
    refine rj_ild2 dX12_makeMove_26 rfl ?_
    refine rj_ic1 dX12_makeMove_27 ?_
    refine rj_iadd dX12_makeMove_28 ?_
    rw [nI_1]
    refine rj_iald (by first | assumption | rfl) (vpi (by omega) (by show _ < ((12 : Nat) : Int); omega)) dX12_makeMove_29 ?_
    rw [nI_clamp (by omega), hx.2.2 (j + 1) (by omega)]
    refine rj_ist4w dX12_makeMove_30 (by decide) rfl ?_
    refine rj_ald0 dX12_makeMove_32 rfl ?_
    refine g12_22 dX12_makeMove_33 ?_
    refine rj_ild2 dX12_makeMove_36 rfl ?_
    refine rj_ild dX12_makeMove_37 rfl ?_
    refine rj_iast (by first | assumption | rfl) (vpi (by omega) (by show _ < ((12 : Nat) : Int); omega)) dX12_makeMove_39 ?_
    rw [nI_clamp (by omega)]
    refine rj_ald0 dX12_makeMove_40 rfl ?_
    refine g12_22 dX12_makeMove_41 ?_
    refine rj_ild2 dX12_makeMove_44 rfl ?_
    refine rj_ic1 dX12_makeMove_45 ?_
    refine rj_iadd dX12_makeMove_46 ?_
    rw [nI_1]
    refine rj_ild3 dX12_makeMove_47 rfl ?_
    refine rj_iast (by first | assumption | rfl) (vpi (by omega) (by show _ < ((12 : Nat) : Int); omega)) dX12_makeMove_48 ?_
    rw [nI_clamp (by omega)]
    refine rj_ild1 dX12_makeMove_49 rfl ?_
    refine rj_bipush (v := 12) dX12_makeMove_50 (by decide) ?_
    refine rj_ic_lt (tgt := 65) dX12_makeMove_52 (by decide) (fun h_52 => ?_) (fun h_52 => ?_)
    · exfalso; omega
    · refine rj_ald0 dX12_makeMove_55 rfl ?_
      refine g12_22 dX12_makeMove_56 ?_
      refine rj_ild2 dX12_makeMove_59 rfl ?_
      refine rj_ic2 dX12_makeMove_60 ?_
      refine rj_iadd dX12_makeMove_61 ?_
      rw [e2]
      refine rj_ild dX12_makeMove_62 rfl ?_
      refine rj_iast (by first | assumption | rfl) (vpi (by omega) (by show _ < ((12 : Nat) : Int); omega)) dX12_makeMove_64 ?_
      rw [nI_clamp (by omega)]
      refine rj_vret dX12_makeMove_65 ?_
      have q1 := tr_put (j := j) (v := xs.getD (j + 1) 0) hx (by omega)
      have q2 := tr_put (j := j + 1) (v := xs.getD j 0) q1.1 (by rw [List.length_set]; omega)
      have q3 := tr_put (j := j + 2) (v := xs.getD (j + 1) 0) q2.1 (by rw [List.length_set, List.length_set]; omega)
      exact ⟨rfl, q3.1, nq_tr (nq_tr q1.2 q2.2) q3.2⟩
  · exfalso; omega

theorem c_X12_makeMove {l : Launch} {X : CX} {σ : ST} {xs : List Int32} (hx : TR σ xs) {m : Nat} (hm : m < 24) (h1 : m < 12 → m + 1 < xs.length) (h2 : 12 ≤ m → m - 12 + 2 < xs.length) : MJ l X 0 yX12_makeMove cX12_makeMove 5 none [.ref (ad X 112), .int (nI m)] σ (PV (fun τ => TR τ (mvM xs m) ∧ nq 117 7 σ τ)) := by
  unfold mvM
  by_cases h : m < 12
  · rw [if_pos h]; exact c_X12_makeMoveS hx h (h1 h)
  · rw [if_neg h]
    obtain ⟨j, rfl⟩ : ∃ j, m = j + 12 := ⟨m - 12, by omega⟩
    rw [Nat.add_sub_cancel]
    exact c_X12_makeMoveT hx (by omega) (by have := h2 (by omega); omega)
theorem cmM_1 {xs : List Int32} {m : Nat} (h : cmM xs m) (h2 : m < 12) : m + 1 < xs.length := by
  rcases h with h | h
  · exact h.2.1
  · have := h.1; omega
theorem cmM_2 {xs : List Int32} {m : Nat} (h : cmM xs m) (h2 : 12 ≤ m) : m - 12 + 2 < xs.length := by
  rcases h with h | h
  · have := h.1; omega
  · exact h.2.1
set_option maxRecDepth 100000 in
theorem c_X12_movedN {l : Launch} {X : CX} {σ : ST} {A : SA} (hM : MR σ A) {t i m : Int32} (h : ¬ (0 ≤ t.toInt ∧ t.toInt < A.2.1.2.2.length) ∨ i.toInt < 0) : MJ l X 3 yX12_moved cX12_moved 4 (some .int) [.ref (ad X 112), .int t, .int i, .int m] σ (OM σ (fnd A 0)) := by
  refine MJ_of (own := RX12) [some (.ref (ad X 112)), some (.int t), some (.int i), some (.int m)] (by decide) rfl (Nat.le_of_ble_eq_true rfl) rfl ?_
  refine rj_ald0 dX12_moved_0 rfl ?_
  refine rj_ild1 dX12_moved_1 rfl ?_
  refine rj_V1i (ci := 12) cX12_85 rfl (by decide) (by first | assumption | rfl) dX12_moved_2 (c_X12_isTie hM) (fitM (by decide) (by decide)) (Nat.le_of_ble_eq_true rfl) ?_
  refine rj_if_eq (tgt := 12) dX12_moved_5 (by decide) (fun h_5 => ?_) (fun h_5 => ?_)
  · have hb_5 := bz_t h_5
    refine rj_ald0 dX12_moved_12 rfl ?_
    refine rj_ldc kX12_59 dX12_moved_13 ?_
    refine rj_V1 (ci := 12) cX12_68 rfl (by decide) rfl dX12_moved_15 (c_X12_finds (i := 0) hM (by decide) (by decide)) (fitM (by decide) (by decide)) (Nat.le_of_ble_eq_true rfl) ?_
    rintro v υq ⟨rfl, hq⟩
    simp only [Option.toList, List.cons_append, List.nil_append]
    refine rj_iret dX12_moved_18 ?_
    exact ⟨rfl, hq⟩
  · have hb_5 := bz_f h_5
    refine rj_ild2 dX12_moved_8 rfl ?_
    refine rj_if_ge (tgt := 19) dX12_moved_9 (by decide) (fun h_9 => ?_) (fun h_9 => ?_)
    · exfalso; omega
    · refine rj_ald0 dX12_moved_12 rfl ?_
      refine rj_ldc kX12_59 dX12_moved_13 ?_
      refine rj_V1 (ci := 12) cX12_68 rfl (by decide) rfl dX12_moved_15 (c_X12_finds (i := 0) hM (by decide) (by decide)) (fitM (by decide) (by decide)) (Nat.le_of_ble_eq_true rfl) ?_
      rintro v υq ⟨rfl, hq⟩
      simp only [Option.toList, List.cons_append, List.nil_append]
      refine rj_iret dX12_moved_18 ?_
      exact ⟨rfl, hq⟩

set_option maxRecDepth 100000 in
theorem c_X12_movedB {l : Launch} {X : CX} {σ : ST} {A : SA} (hM : MR σ A) {t : Int32} {j : Nat} (ht : t.toInt = j) (hj : j < A.2.1.2.2.length) (h12 : (fT A j).2.length ≤ 12) {i m : Int32} (hi : 12 ≤ i.toInt) : MJ l X 3 yX12_moved cX12_moved 4 (some .int) [.ref (ad X 112), .int t, .int i, .int m] σ (OM σ (fnd A 4)) := by
  refine MJ_of (own := RX12) [some (.ref (ad X 112)), some (.int t), some (.int i), some (.int m)] (by decide) rfl (Nat.le_of_ble_eq_true rfl) rfl ?_
  have q12 := e12
  refine rj_ald0 dX12_moved_0 rfl ?_
  refine rj_ild1 dX12_moved_1 rfl ?_
  refine rj_V1i (ci := 12) cX12_85 rfl (by decide) (by first | assumption | rfl) dX12_moved_2 (c_X12_isTie hM) (fitM (by decide) (by decide)) (Nat.le_of_ble_eq_true rfl) ?_
  refine rj_if_eq (tgt := 12) dX12_moved_5 (by decide) (fun h_5 => ?_) (fun h_5 => ?_)
  · exact absurd ⟨by omega, by omega⟩ (bz_t h_5)
  · have hb_5 := bz_f h_5
    refine rj_ild2 dX12_moved_8 rfl ?_
    refine rj_if_ge (tgt := 19) dX12_moved_9 (by decide) (fun h_9 => ?_) (fun h_9 => ?_)
    · refine rj_ald0 dX12_moved_19 rfl ?_
      refine rj_ild1 dX12_moved_20 rfl ?_
      refine rj_V1 (ci := 12) cX12_117 rfl (by decide) (by first | assumption | rfl) dX12_moved_21 (c_X12_tries hM ht hj h12) (fitM (by decide) (by decide)) (Nat.le_of_ble_eq_true rfl) ?_
      rintro v υ ⟨rfl, hx1, hn1⟩
      simp only [Option.toList, List.nil_append]
      have hM1 := mr_s hM (nq_mq hn1 (by omega) (by omega))
      refine rj_ild2 dX12_moved_24 rfl ?_
      refine rj_bipush (v := 12) dX12_moved_25 (by decide) ?_
      refine rj_ic_ge (tgt := 38) dX12_moved_27 (by decide) (fun h_27 => ?_) (fun h_27 => ?_)
      · refine rj_ald0 dX12_moved_38 rfl ?_
        refine rj_ldc kX12_72 dX12_moved_39 ?_
        refine rj_V1 (ci := 12) cX12_68 rfl (by decide) rfl dX12_moved_41 (c_X12_finds (i := 4) hM1 (by decide) (by decide)) (fitM (by decide) (by decide)) (Nat.le_of_ble_eq_true rfl) ?_
        rintro v υq ⟨rfl, hq⟩
        simp only [Option.toList, List.cons_append, List.nil_append]
        refine rj_iret dX12_moved_44 ?_
        exact ⟨rfl, hq.1, (mq_md (nq_mq hn1 (by omega) (by omega))).tr hq.2⟩
      · exfalso; omega
    · exfalso; omega

set_option maxRecDepth 100000 in
theorem c_X12_movedY {l : Launch} {X : CX} {σ : ST} {A : SA} (hM : MR σ A) {t : Int32} {j : Nat} (ht : t.toInt = j) (hj : j < A.2.1.2.2.length) (h12 : (fT A j).2.length ≤ 12) {i : Int32} (hi : 0 ≤ i.toInt ∧ i.toInt < 12) {m : Nat} (hm : m < 24) : MJ l X 3 yX12_moved cX12_moved 4 (some .int) [.ref (ad X 112), .int t, .int i, .int (nI m)] σ (OM σ (if cmM (fT A j).2 m then (1, sT A j ((fT A j).1, mvM (fT A j).2 m)) else fnd A 4)) := by
  refine MJ_of (own := RX12) [some (.ref (ad X 112)), some (.int t), some (.int i), some (.int (nI m))] (by decide) rfl (Nat.le_of_ble_eq_true rfl) rfl ?_
  have q12 := e12
  refine rj_ald0 dX12_moved_0 rfl ?_
  refine rj_ild1 dX12_moved_1 rfl ?_
  refine rj_V1i (ci := 12) cX12_85 rfl (by decide) (by first | assumption | rfl) dX12_moved_2 (c_X12_isTie hM) (fitM (by decide) (by decide)) (Nat.le_of_ble_eq_true rfl) ?_
  refine rj_if_eq (tgt := 12) dX12_moved_5 (by decide) (fun h_5 => ?_) (fun h_5 => ?_)
  · exact absurd ⟨by omega, by omega⟩ (bz_t h_5)
  · have hb_5 := bz_f h_5
    refine rj_ild2 dX12_moved_8 rfl ?_
    refine rj_if_ge (tgt := 19) dX12_moved_9 (by decide) (fun h_9 => ?_) (fun h_9 => ?_)
    · refine rj_ald0 dX12_moved_19 rfl ?_
      refine rj_ild1 dX12_moved_20 rfl ?_
      refine rj_V1 (ci := 12) cX12_117 rfl (by decide) (by first | assumption | rfl) dX12_moved_21 (c_X12_tries hM ht hj h12) (fitM (by decide) (by decide)) (Nat.le_of_ble_eq_true rfl) ?_
      rintro v υ ⟨rfl, hx1, hn1⟩
      simp only [Option.toList, List.nil_append]
      have hM1 := mr_s hM (nq_mq hn1 (by omega) (by omega))
      refine rj_ild2 dX12_moved_24 rfl ?_
      refine rj_bipush (v := 12) dX12_moved_25 (by decide) ?_
      refine rj_ic_ge (tgt := 38) dX12_moved_27 (by decide) (fun h_27 => ?_) (fun h_27 => ?_)
      · exfalso; omega
      · refine rj_ald0 dX12_moved_30 rfl ?_
        refine rj_ild3 dX12_moved_31 rfl ?_
        refine rj_V1i (ci := 12) cX12_153 rfl (by decide) (by first | assumption | rfl) dX12_moved_32 (c_X12_canMove hx1 hm) (fitM (by decide) (by decide)) (Nat.le_of_ble_eq_true rfl) ?_
        refine rj_if_ne (tgt := 45) dX12_moved_35 (by decide) (fun h_35 => ?_) (fun h_35 => ?_)
        · have hb_35 := bz_f h_35
          refine rj_ald0 dX12_moved_45 rfl ?_
          refine rj_ild3 dX12_moved_46 rfl ?_
          refine rj_V1 (ci := 12) cX12_156 rfl (by decide) (by first | assumption | rfl) dX12_moved_47 (c_X12_makeMove hx1 hm (cmM_1 hb_35) (cmM_2 hb_35)) (fitM (by decide) (by decide)) (Nat.le_of_ble_eq_true rfl) ?_
          rintro v υ2 ⟨rfl, hx2, hn2⟩
          simp only [Option.toList, List.nil_append]
          have hM2 := mr_s hM1 (nq_mq hn2 (by omega) (by omega))
          refine rj_ald0 dX12_moved_50 rfl ?_
          refine rj_ild1 dX12_moved_51 rfl ?_
          refine rj_V1 (ci := 12) cX12_126 rfl (by decide) (by first | assumption | rfl) dX12_moved_52 (c_X12_takes hM2 ht hj hx2) (fitM (by decide) (by decide)) (Nat.le_of_ble_eq_true rfl) ?_
          rintro v υ3 ⟨rfl, hM3, ho3⟩
          simp only [Option.toList, List.nil_append]
          refine rj_ic1 dX12_moved_55 ?_
          refine rj_iret dX12_moved_56 ?_
          rw [if_pos hb_35]
          exact ⟨rfl, hM3, ((mq_md (nq_mq hn1 (by omega) (by omega))).tr (mq_md (nq_mq hn2 (by omega) (by omega)))).tr (off_md ho3)⟩
        · have hb_35 := bz_t h_35
          refine rj_ald0 dX12_moved_38 rfl ?_
          refine rj_ldc kX12_72 dX12_moved_39 ?_
          refine rj_V1 (ci := 12) cX12_68 rfl (by decide) rfl dX12_moved_41 (c_X12_finds (i := 4) hM1 (by decide) (by decide)) (fitM (by decide) (by decide)) (Nat.le_of_ble_eq_true rfl) ?_
          rintro v υq ⟨rfl, hq⟩
          simp only [Option.toList, List.cons_append, List.nil_append]
          refine rj_iret dX12_moved_44 ?_
          rw [if_neg hb_35]
          exact ⟨rfl, hq.1, (mq_md (nq_mq hn1 (by omega) (by omega))).tr hq.2⟩
    · exfalso; omega

theorem om_eq {σ : ST} {r r' : Int32 × SA} (h : r = r') {v : Option Value} {τ : ST} (k : OM σ r v τ) : OM σ r' v τ := by rw [← h]; exact k
theorem c_X12_movedS {l : Launch} {X : CX} {σ : ST} {A : SA} (hM : MR σ A) (hw : wf A) {t i : Int32} : MJ l X 3 yX12_moved cX12_moved 4 (some .int) [.ref (ad X 112), .int t, .int i, .int i] σ (OM σ (F_slide A t i)) := by
  by_cases ht : 0 ≤ t.toInt ∧ t.toInt < A.2.1.2.2.length
  · obtain ⟨j, hv, hj⟩ := mt_in ht
    have h12 := (wf_t hw hj).2.2.1
    by_cases hi : i.toInt < 0
    · have e : F_slide A t i = fnd A 0 := by unfold F_slide; rw [wT_in hv hj, if_pos hi]
      rw [e]; exact c_X12_movedN hM (Or.inr hi)
    · by_cases hi2 : 12 ≤ i.toInt
      · have e : F_slide A t i = fnd A 4 := by unfold F_slide; rw [wT_in hv hj, if_neg hi, if_neg (fun z => by have := z.1; omega)]
        rw [e]; exact c_X12_movedB hM hv hj h12 hi2
      · have hin : i = nI i.toInt.toNat := i_nI (by omega)
        have k := c_X12_movedY (l := l) (X := X) hM hv hj h12 (i := i) ⟨by omega, by omega⟩ (m := i.toInt.toNat) (by omega)
        rw [← hin] at k
        refine MJ_c k (fun v τ => om_eq ?_)
        unfold F_slide mvM
        rw [wT_in hv hj, if_neg hi]
        by_cases hc : csl (fT A j).2 i.toInt.toNat
        · rw [if_pos hc, if_pos (Or.inl ⟨by omega, hc⟩), if_pos (by omega)]
        · rw [if_neg hc, if_neg (fun z => z.elim (fun y => hc y.2) (fun y => by have := y.1; omega))]
  · have e : F_slide A t i = fnd A 0 := by unfold F_slide; rw [wT_out ht]
    rw [e]; exact c_X12_movedN hM (Or.inl ht)
theorem c_X12_movedT {l : Launch} {X : CX} {σ : ST} {A : SA} (hM : MR σ A) (hw : wf A) {t i m : Int32} (hm : i.toInt < 12 → m = 12 + i) : MJ l X 3 yX12_moved cX12_moved 4 (some .int) [.ref (ad X 112), .int t, .int i, .int m] σ (OM σ (F_third A t i)) := by
  by_cases ht : 0 ≤ t.toInt ∧ t.toInt < A.2.1.2.2.length
  · obtain ⟨j, hv, hj⟩ := mt_in ht
    have h12 := (wf_t hw hj).2.2.1
    by_cases hi : i.toInt < 0
    · have e : F_third A t i = fnd A 0 := by unfold F_third; rw [wT_in hv hj, if_pos hi]
      rw [e]; exact c_X12_movedN hM (Or.inr hi)
    · by_cases hi2 : 12 ≤ i.toInt
      · have e : F_third A t i = fnd A 4 := by unfold F_third; rw [wT_in hv hj, if_neg hi, if_neg (fun z => by have := z.1; omega)]
        rw [e]; exact c_X12_movedB hM hv hj h12 hi2
      · have hin : i = nI i.toInt.toNat := i_nI (by omega)
        have hmn : m = nI (i.toInt.toNat + 12) := by
          rw [hm (by omega), Nat.add_comm, ← nI_add, ← hin]; rfl
        have k := c_X12_movedY (l := l) (X := X) hM hv hj h12 (i := i) ⟨by omega, by omega⟩ (m := i.toInt.toNat + 12) (by omega)
        rw [← hmn] at k
        refine MJ_c k (fun v τ => om_eq ?_)
        unfold F_third mvM
        rw [wT_in hv hj, if_neg hi]
        by_cases hc : cth (fT A j).2 i.toInt.toNat
        · rw [if_pos hc, if_pos (Or.inr ⟨by omega, by rw [Nat.add_sub_cancel]; exact hc⟩), if_neg (by omega), Nat.add_sub_cancel]
        · rw [if_neg hc, if_neg (fun z => z.elim (fun y => by have := y.1; omega) (fun y => hc (by have := y.2; rw [Nat.add_sub_cancel] at this; exact this)))]
  · have e : F_third A t i = fnd A 0 := by unfold F_third; rw [wT_out ht]
    rw [e]; exact c_X12_movedN hM (Or.inl ht)
set_option maxRecDepth 100000 in
theorem c_X12_slide {l : Launch} {X : CX} {σ : ST} {A : SA} (hM : MR σ A) (hw : wf A) {t i : Int32} : MJ l X 4 yX12_slide cX12_slide 3 (some .int) [.ref (ad X 112), .int t, .int i] σ (OM σ (F_slide A t i)) := by
  refine MJ_of (own := RX12) [some (.ref (ad X 112)), some (.int t), some (.int i)] (by decide) rfl (Nat.le_of_ble_eq_true rfl) rfl ?_
  refine rj_ald0 dX12_slide_0 rfl ?_
  refine rj_ild1 dX12_slide_1 rfl ?_
  refine rj_ild2 dX12_slide_2 rfl ?_
  refine rj_ild2 dX12_slide_3 rfl ?_
  refine rj_V3 (ci := 12) cX12_159 rfl (by decide) (by first | assumption | rfl) dX12_slide_4 (c_X12_movedS hM hw) (fitM (by decide) (by decide)) (Nat.le_of_ble_eq_true rfl) ?_
  rintro v υ hO
  obtain ⟨rfl, hO⟩ := hO
  simp only [Option.toList, List.cons_append, List.nil_append]
  refine rj_iret dX12_slide_7 ?_
  exact ⟨rfl, hO⟩

set_option maxRecDepth 100000 in
theorem c_X12_third {l : Launch} {X : CX} {σ : ST} {A : SA} (hM : MR σ A) (hw : wf A) {t i : Int32} : MJ l X 4 yX12_third cX12_third 3 (some .int) [.ref (ad X 112), .int t, .int i] σ (OM σ (F_third A t i)) := by
  refine MJ_of (own := RX12) [some (.ref (ad X 112)), some (.int t), some (.int i)] (by decide) rfl (Nat.le_of_ble_eq_true rfl) rfl ?_
  have q12 := e12
  refine rj_ald0 dX12_third_0 rfl ?_
  refine rj_ild1 dX12_third_1 rfl ?_
  refine rj_ild2 dX12_third_2 rfl ?_
  refine rj_ild2 dX12_third_3 rfl ?_
  refine rj_bipush (v := 12) dX12_third_4 (by decide) ?_
  refine rj_ic_ge (tgt := 16) dX12_third_6 (by decide) (fun h_6 => ?_) (fun h_6 => ?_)
  · refine rj_bipush (v := 12) dX12_third_16 (by decide) ?_
    refine rj_V3 (ci := 12) cX12_159 rfl (by decide) (by first | assumption | rfl) dX12_third_18 (c_X12_movedT hM hw (fun z => by first | rfl | (exfalso; omega))) (fitM (by decide) (by decide)) (Nat.le_of_ble_eq_true rfl) ?_
    rintro v υ hO
    obtain ⟨rfl, hO⟩ := hO
    simp only [Option.toList, List.cons_append, List.nil_append]
    refine rj_iret dX12_third_21 ?_
    exact ⟨rfl, hO⟩
  · refine rj_bipush (v := 12) dX12_third_9 (by decide) ?_
    refine rj_ild2 dX12_third_11 rfl ?_
    refine rj_iadd dX12_third_12 ?_
    refine rj_goto (tgt := 18) dX12_third_13 (by decide) ?_
    refine rj_V3 (ci := 12) cX12_159 rfl (by decide) (by first | assumption | rfl) dX12_third_18 (c_X12_movedT hM hw (fun z => by first | rfl | (exfalso; omega))) (fitM (by decide) (by decide)) (Nat.le_of_ble_eq_true rfl) ?_
    rintro v υ hO
    obtain ⟨rfl, hO⟩ := hO
    simp only [Option.toList, List.cons_append, List.nil_append]
    refine rj_iret dX12_third_21 ?_
    exact ⟨rfl, hO⟩

theorem mvR_out {xs : List Int32} {b : Int32} : ∀ (n i : Nat) (c : Int32), xs.length ≤ i → mvR xs b n i c = c
  | 0, _, _, _ => rfl
  | n + 1, i, c, h => by
    unfold mvR
    have hn : ¬ cmv xs b i := by
      rintro (⟨_, z⟩ | ⟨_, z⟩)
      · have := z.1; omega
      · have := z.1; omega
    rw [if_neg hn]
    exact mvR_out n (i + 1) c (by omega)
theorem mvR_add {xs : List Int32} {b : Int32} : ∀ (n k i : Nat) (c : Int32), xs.length ≤ i + n → mvR xs b (n + k) i c = mvR xs b n i c
  | 0, k, i, c, h => by rw [mvR_out _ _ _ (by omega), mvR_out _ _ _ (by omega)]
  | n + 1, k, i, c, h => by
    rw [show n + 1 + k = (n + k) + 1 by omega]
    unfold mvR
    exact mvR_add n k (i + 1) _ (by omega)
set_option maxRecDepth 100000 in
theorem l_X12_moves {l : Launch} {X : CX} {h : Nat} {Q : Option Value → ST → Prop} {σ : ST} {xs : List Int32} {t b : Int32} {B : Nat} (hh : 3 ≤ h) (hx : TR σ xs) (hb : b = nI B) (hB : B < 2) (hQ : Q (some (.int (mvR xs b 12 0 0))) σ) : ∀ (N i : Nat) (c : Int32), 12 < i + N → (i ≤ 12 ∧ mvR xs b 12 0 0 = mvR xs b (12 - i) i c) → RJ (GM l X h Q) X cX12_moves 5 (some .int) RX12 34 [some (.ref (ad X 112)), some (.int t), some (.int b), some (.int c), some (.int (nI i))] [] σ := by
  intro N
  induction N with
  | zero => intro i c hN hi; have := hi.1; exact absurd hN (by omega)
  | succ N ih =>
    intro i c hN hi
    obtain ⟨hi, hv⟩ := hi
    have hit : (nI i).toInt = i := nI_t (by omega)
    have q12 := e12
    have hbn : 12 * b + nI i = nI (12 * B + i) := by rw [hb, show (12 : Int32) = nI 12 from rfl, pk_mul, nI_add]
    refine rj_ild dX12_moves_34 rfl ?_
    refine rj_bipush (v := 12) dX12_moves_36 (by decide) ?_
    refine rj_ic_ge (tgt := 69) dX12_moves_38 (by decide) (fun h_38 => ?_) (fun h_38 => ?_)
    · refine rj_ild3 dX12_moves_69 rfl ?_
      refine rj_iret dX12_moves_70 ?_
      have hie : i = 12 := by omega
      subst hie
      rw [hv] at hQ
      exact hQ
    · have hi11 : i < 12 := by omega
      have hcm : cmM xs (12 * B + i) ↔ cmv xs b i ∨ False := by
        have hb0 : b = 0 ↔ B = 0 := by
          rw [hb]
          constructor
          · intro z; have := congrArg Int32.toInt z; rw [nI_t (by omega), t0] at this; omega
          · intro z; rw [z]; rfl
        rcases Nat.lt_or_ge 0 B with z | z
        · have hB1 : B = 1 := by omega
          subst hB1
          have hb1 : ¬ b = 0 := fun y => by have := hb0.mp y; omega
          by_cases hi12 : i < 12
          · constructor
            · rintro (y | y)
              · have := y.1; omega
              · exact Or.inl (Or.inr ⟨hb1, by have := y.2; rw [show 12 * 1 + i - 12 = i by omega] at this; exact this⟩)
            · rintro ((y | y) | y)
              · exact absurd y.1 hb1
              · exact Or.inr ⟨by omega, by rw [show 12 * 1 + i - 12 = i by omega]; exact y.2⟩
              · exact y.elim
          · have hi13 : xs.length ≤ i := by have := hx.2.1; omega
            constructor
            · rintro (y | y)
              · have := y.1; omega
              · have := y.2.1; omega
            · rintro ((y | y) | y)
              · have := y.2.1; omega
              · have := y.2.1; omega
              · exact y.elim
        · have hB0 : B = 0 := by omega
          subst hB0
          have hbz : b = 0 := hb0.mpr rfl
          constructor
          · rintro (y | y)
            · exact Or.inl (Or.inl ⟨hbz, by have := y.2; rw [show 12 * 0 + i = i by omega] at this; exact this⟩)
            · have h1 := y.1
              have h2 := y.2.1
              have := hx.2.1
              omega
          · rintro ((y | y) | y)
            · have := y.2.1
              have := hx.2.1
              exact Or.inl ⟨by omega, by rw [show 12 * 0 + i = i by omega]; exact y.2⟩
            · exact absurd hbz y.1
            · exact y.elim
      refine rj_ild3 dX12_moves_41 rfl ?_
      refine rj_ald0 dX12_moves_42 rfl ?_
      refine rj_bipush (v := 12) dX12_moves_43 (by decide) ?_
      refine rj_ild2 dX12_moves_45 rfl ?_
      refine rj_imul dX12_moves_46 ?_
      refine rj_ild dX12_moves_47 rfl ?_
      refine rj_iadd dX12_moves_49 ?_
      rw [hbn]
      refine rj_V1i (ci := 12) cX12_153 rfl (by decide) (by first | assumption | rfl) dX12_moves_50 (c_X12_canMove hx (by omega)) (fitM (by omega) (by decide)) (Nat.le_of_ble_eq_true rfl) ?_
      refine rj_if_eq (tgt := 60) dX12_moves_53 (by decide) (fun h_53 => ?_) (fun h_53 => ?_)
      · have hb_53 := bz_t h_53
        refine rj_ic0 dX12_moves_60 ?_
        refine rj_iadd dX12_moves_61 ?_
        refine rj_ist3 dX12_moves_62 (by decide) rfl ?_
        refine rj_iinc4 (d := 1) dX12_moves_63 (by decide) rfl (by decide) ?_
        rw [nI_1]
        refine rj_goto (tgt := 34) dX12_moves_66 (by decide) ?_
        refine ih (i + 1) _ (by omega) ⟨by omega, ?_⟩
        rw [hv, show 12 - i = (12 - (i + 1)) + 1 by omega]
        show mvR xs b (12 - (i + 1)) (i + 1) _ = _
        rw [if_neg (fun z => hb_53 (hcm.mpr (Or.inl z))), Int32.add_zero]
      · have hb_53 := bz_f h_53
        refine rj_ic1 dX12_moves_56 ?_
        refine rj_goto (tgt := 61) dX12_moves_57 (by decide) ?_
        refine rj_iadd dX12_moves_61 ?_
        refine rj_ist3 dX12_moves_62 (by decide) rfl ?_
        refine rj_iinc4 (d := 1) dX12_moves_63 (by decide) rfl (by decide) ?_
        rw [nI_1]
        refine rj_goto (tgt := 34) dX12_moves_66 (by decide) ?_
        refine ih (i + 1) _ (by omega) ⟨by omega, ?_⟩
        rw [hv, show 12 - i = (12 - (i + 1)) + 1 by omega]
        show mvR xs b (12 - (i + 1)) (i + 1) _ = _
        rw [if_pos ((hcm.mp hb_53).resolve_right id)]

set_option maxRecDepth 100000 in
theorem c_X12_moves {l : Launch} {X : CX} {σ : ST} {A : SA} (hM : MR σ A) (hw : wf A) {t b : Int32} : MJ l X 3 yX12_moves cX12_moves 5 (some .int) [.ref (ad X 112), .int t, .int b] σ (OM σ (F_moves A t b)) := by
  refine MJ_of (own := RX12) [some (.ref (ad X 112)), some (.int t), some (.int b), none, none] (by decide) rfl (Nat.le_of_ble_eq_true rfl) rfl ?_
  refine rj_ald0 dX12_moves_0 rfl ?_
  refine rj_ild1 dX12_moves_1 rfl ?_
  refine rj_V1i (ci := 12) cX12_85 rfl (by decide) (by first | assumption | rfl) dX12_moves_2 (c_X12_isTie hM) (fitM (by decide) (by decide)) (Nat.le_of_ble_eq_true rfl) ?_
  refine rj_if_eq (tgt := 17) dX12_moves_5 (by decide) (fun h_5 => ?_) (fun h_5 => ?_)
  · have hb_5 := bz_t h_5
    refine rj_ald0 dX12_moves_17 rfl ?_
    refine rj_ldc kX12_59 dX12_moves_18 ?_
    refine rj_V1 (ci := 12) cX12_68 rfl (by decide) rfl dX12_moves_20 (c_X12_finds (i := 0) hM (by decide) (by decide)) (fitM (by decide) (by decide)) (Nat.le_of_ble_eq_true rfl) ?_
    rintro v υq ⟨rfl, hq⟩
    simp only [Option.toList, List.cons_append, List.nil_append]
    refine rj_iret dX12_moves_23 ?_
    have e : F_moves A t b = fnd A 0 := by unfold F_moves; rw [wT_out hb_5]
    rw [e]
    exact ⟨rfl, hq⟩
  · have hb_5 := bz_f h_5
    obtain ⟨j, hv, hj⟩ := mt_in hb_5
    have h12 := (wf_t hw hj).2.2.1
    have hlt : (nI (fT A j).2.length).toInt = (fT A j).2.length := nI_t (by omega)
    have h8 := hM.1.2.2.2.1
    obtain ⟨f1, f2, f3, f4⟩ := hM.1.2.2.2.2 j hj
    have f6 : σ.1 113 (4 + 14 * j) = nI (fT A j).2.length := f2
    have f7 : σ.1 113 (3 + 14 * j) = (fT A j).1 := f1
    refine rj_ild2 dX12_moves_8 rfl ?_
    refine rj_ic0 dX12_moves_9 ?_
    refine rj_ic1 dX12_moves_10 ?_
    refine rj_S3i cX12_60 dX12_moves_11 c_X12_in (fitM (by decide) (by decide)) (Nat.le_of_ble_eq_true rfl) ?_
    refine rj_if_ne (tgt := 24) dX12_moves_14 (by decide) (fun h_14 => ?_) (fun h_14 => ?_)
    · have hb_14 := bz_f h_14
      rw [t0, t1] at hb_14
      refine rj_ald0 dX12_moves_24 rfl ?_
      refine rj_ild1 dX12_moves_25 rfl ?_
      refine rj_V1 (ci := 12) cX12_117 rfl (by decide) (by first | assumption | rfl) dX12_moves_26 (c_X12_tries hM hv hj h12) (fitM (by decide) (by decide)) (Nat.le_of_ble_eq_true rfl) ?_
      rintro v υ ⟨rfl, hx1, hn1⟩
      simp only [Option.toList, List.nil_append]
      have hM1 := mr_s hM (nq_mq hn1 (by omega) (by omega))
      refine rj_ic0 dX12_moves_29 ?_
      refine rj_ist3 dX12_moves_30 (by decide) rfl ?_
      refine rj_ic0 dX12_moves_31 ?_
      refine rj_ist4w dX12_moves_32 (by decide) rfl ?_
      have e : F_moves A t b = (mvR (fT A j).2 b (fT A j).2.length 0 0, A) := by unfold F_moves; rw [wT_in hv hj, if_neg (by omega)]
      rw [e]
      refine l_X12_moves (by decide) hx1 (i_nI hb_14.1) (by omega) ⟨?_, hM1, mq_md (nq_mq hn1 (by omega) (by omega))⟩ 13 0 0 (by omega) ⟨by omega, rfl⟩
      have := mvR_add (xs := (fT A j).2) (b := b) (fT A j).2.length (12 - (fT A j).2.length) 0 0 (by omega)
      rw [show (fT A j).2.length + (12 - (fT A j).2.length) = 12 by omega] at this
      rw [this]
    · have hb_14 := bz_t h_14
      rw [t0, t1] at hb_14
      refine rj_ald0 dX12_moves_17 rfl ?_
      refine rj_ldc kX12_59 dX12_moves_18 ?_
      refine rj_V1 (ci := 12) cX12_68 rfl (by decide) rfl dX12_moves_20 (c_X12_finds (i := 0) hM (by decide) (by decide)) (fitM (by decide) (by decide)) (Nat.le_of_ble_eq_true rfl) ?_
      rintro v υq ⟨rfl, hq⟩
      simp only [Option.toList, List.cons_append, List.nil_append]
      refine rj_iret dX12_moves_23 ?_
      have e : F_moves A t b = fnd A 0 := by unfold F_moves; rw [wT_in hv hj, if_pos (by omega)]
      rw [e]
      exact ⟨rfl, hq⟩

abbrev nQ (σ : ST) (xs : List Int32) (p : Prop) : Option Value → ST → Prop := fun v τ => v = some (.int (bP p)) ∧ TR τ xs ∧ mq σ τ
set_option maxRecDepth 100000 in
theorem c_X12_isNothing {l : Launch} {X : CX} {σ : ST} {xs : List Int32} (hx : TR σ xs) : MJ l X 2 yX12_isNothing cX12_isNothing 1 (some .boolean) [.ref (ad X 112)] σ (nQ σ xs (cob 0 xs)) := by
  refine MJ_of (own := RX12) [some (.ref (ad X 112))] (by decide) rfl (Nat.le_of_ble_eq_true rfl) rfl ?_
  refine rj_ald0 dX12_isNothing_0 rfl ?_
  refine rj_V0 (ci := 12) cX12_135 rfl (by decide) (by first | assumption | rfl) dX12_isNothing_1 (c_X12_pullTried hx) (fitM (by decide) (by decide)) (Nat.le_of_ble_eq_true rfl) ?_
  rintro v υ ⟨rfl, hx1, hn1⟩
  simp only [Option.toList, List.nil_append]
  have hl := hx1.1
  have hl2 := hx1.2.1
  have hlt : (nI (red xs).length).toInt = (red xs).length := nI_t (by omega)
  refine rj_ald0 dX12_isNothing_4 rfl ?_
  refine g12_129 dX12_isNothing_5 ?_
  rw [hl]
  refine rj_if_ne (tgt := 15) dX12_isNothing_8 (by decide) (fun h_8 => ?_) (fun h_8 => ?_)
  · refine rj_ic0 dX12_isNothing_15 ?_
    refine rj_zret dX12_isNothing_16 (rfl) ?_
    refine ⟨?_, sc_nq hx hn1 (by decide) (by decide) (by decide), nq_mq hn1 (by omega) (by omega)⟩
    rw [bP_f (p := cob 0 xs) (fun z => h_8 (by have z2 : redR xs = [] := z; unfold red; rw [z2]; rfl))]
  · refine rj_ic1 dX12_isNothing_11 ?_
    refine rj_goto (tgt := 16) dX12_isNothing_12 (by decide) ?_
    refine rj_zret dX12_isNothing_16 (rfl) ?_
    refine ⟨?_, sc_nq hx hn1 (by decide) (by decide) (by decide), nq_mq hn1 (by omega) (by omega)⟩
    rw [bP_t (p := cob 0 xs) ?_]
    show redR xs = []
    have := congrArg Int32.toInt h_8
    rw [hlt, t0] at this
    unfold red at this
    rw [List.length_reverse] at this
    exact List.length_eq_zero_iff.mp (by omega)

set_option maxRecDepth 100000 in
theorem l_X12_byOne {l : Launch} {X : CX} {h : Nat} {Q : Option Value → ST → Prop} {σ : ST} {xs : List Int32} (hh : 3 ≤ h) (hQ : ∀ τ, TR τ xs → mq σ τ → Q (some (.int (bP (cob 1 xs)))) τ) : ∀ (N m : Nat) (τ : ST), 24 < m + N → (m ≤ 24 ∧ TR τ xs ∧ mq σ τ) → RJ (GM l X h Q) X cX12_byOne 3 (some .boolean) RX12 4 [some (.ref (ad X 112)), some (.int (bP (∃ q, q < m ∧ cmM xs q ∧ cob 0 (mvM xs q)))), some (.int (nI m))] [] τ := by
  intro N
  induction N with
  | zero => intro m τ hN hi; have := hi.1; exact absurd hN (by omega)
  | succ N ih =>
    intro m τ hN hi
    obtain ⟨hm, hx, ho⟩ := hi
    have hit : (nI m).toInt = m := nI_t (by omega)
    have q24 : (24 : Int32).toInt = 24 := by decide
    have hcb := cob_M (n := 0) (xs := xs) hx.2.1
    refine rj_ild2 dX12_byOne_4 rfl ?_
    refine rj_bipush (v := 24) dX12_byOne_5 (by decide) ?_
    refine rj_ic_ge (tgt := 43) dX12_byOne_7 (by decide) (fun h_7 => ?_) (fun h_7 => ?_)
    · refine rj_ild1 dX12_byOne_43 rfl ?_
      refine rj_zret dX12_byOne_44 (bP_n _) ?_
      have hie : m = 24 := by omega
      subst hie
      have := hQ τ hx ho
      rw [bP_c hcb] at this
      exact this
    · refine rj_ild1 dX12_byOne_10 rfl ?_
      refine rj_if_ne (tgt := 43) dX12_byOne_11 (by decide) (fun h_11 => ?_) (fun h_11 => ?_)
      · have hp := bP_nz h_11
        refine rj_ild1 dX12_byOne_43 rfl ?_
        refine rj_zret dX12_byOne_44 (bP_n _) ?_
        have := hQ τ hx ho
        obtain ⟨q, h1, h2⟩ := hp
        rw [bP_t (hcb.mpr ⟨q, by omega, h2⟩)] at this
        rw [bP_t ⟨q, h1, h2⟩]
        exact this
      · have hp := bP_z h_11
        refine rj_ald0 dX12_byOne_14 rfl ?_
        refine rj_ild2 dX12_byOne_15 rfl ?_
        refine rj_V1i (ci := 12) cX12_153 rfl (by decide) (by first | assumption | rfl) dX12_byOne_16 (c_X12_canMove hx (by omega)) (fitM (by omega) (by decide)) (Nat.le_of_ble_eq_true rfl) ?_
        refine rj_if_eq (tgt := 37) dX12_byOne_19 (by decide) (fun h_19 => ?_) (fun h_19 => ?_)
        · have hb_19 := bz_t h_19
          refine rj_iinc2 (d := 1) dX12_byOne_37 (by decide) rfl (by decide) ?_
          rw [nI_1]
          refine rj_goto (tgt := 4) dX12_byOne_40 (by decide) ?_
          have hcg : bP (∃ q, q < m ∧ cmM xs q ∧ cob 0 (mvM xs q)) = bP (∃ q, q < m + 1 ∧ cmM xs q ∧ cob 0 (mvM xs q)) := bP_c ⟨fun ⟨q, h1, h2⟩ => ⟨q, by omega, h2⟩, fun ⟨q, h1, h2, h3⟩ => ⟨q, by
            rcases Nat.lt_or_ge q m with z | z
            · exact z
            · have : q = m := by omega
              subst this; exact absurd h2 hb_19, h2, h3⟩⟩
          rw [hcg]
          exact ih (m + 1) τ (by omega) ⟨by omega, hx, ho⟩
        · have hb_19 := bz_f h_19
          refine rj_ald0 dX12_byOne_22 rfl ?_
          refine rj_ild2 dX12_byOne_23 rfl ?_
          refine rj_V1 (ci := 12) cX12_156 rfl (by decide) (by first | assumption | rfl) dX12_byOne_24 (c_X12_makeMove hx (by omega) (cmM_1 hb_19) (cmM_2 hb_19)) (fitM (by omega) (by decide)) (Nat.le_of_ble_eq_true rfl) ?_
          rintro v υ ⟨rfl, hx1, hn1⟩
          simp only [Option.toList, List.nil_append]
          refine rj_ald0 dX12_byOne_27 rfl ?_
          refine rj_V0 (ci := 12) cX12_163 rfl (by decide) (by first | assumption | rfl) dX12_byOne_28 (c_X12_isNothing hx1) (fitM (by omega) (by decide)) (Nat.le_of_ble_eq_true rfl) ?_
          rintro v υ2 ⟨rfl, hx2, hm2⟩
          simp only [Option.toList, List.cons_append, List.nil_append]
          refine rj_ist1 dX12_byOne_31 (by decide) rfl ?_
          refine rj_ald0 dX12_byOne_32 rfl ?_
          refine rj_ild2 dX12_byOne_33 rfl ?_
          refine rj_V1 (ci := 12) cX12_156 rfl (by decide) (by first | assumption | rfl) dX12_byOne_34 (c_X12_makeMove hx2 (by omega) (fun z => by rw [mvM_len]; exact cmM_1 hb_19 z) (fun z => by rw [mvM_len]; exact cmM_2 hb_19 z)) (fitM (by omega) (by decide)) (Nat.le_of_ble_eq_true rfl) ?_
          rintro v υ3 ⟨rfl, hx3, hn3⟩
          simp only [Option.toList, List.nil_append]
          rw [mvM_2 hb_19] at hx3
          refine rj_iinc2 (d := 1) dX12_byOne_37 (by decide) rfl (by decide) ?_
          rw [nI_1]
          refine rj_goto (tgt := 4) dX12_byOne_40 (by decide) ?_
          have hcg : bP (cob 0 (mvM xs m)) = bP (∃ q, q < m + 1 ∧ cmM xs q ∧ cob 0 (mvM xs q)) := bP_c ⟨fun z => ⟨m, by omega, hb_19, z⟩, fun ⟨q, h1, h2, h3⟩ => by
            rcases Nat.lt_or_ge q m with z | z
            · exact absurd ⟨q, z, h2, h3⟩ hp
            · have : q = m := by omega
              subst this; exact h3⟩
          rw [hcg]
          exact ih (m + 1) υ3 (by omega) ⟨by omega, hx3, mq_tr (mq_tr (mq_tr ho (nq_mq hn1 (by omega) (by omega))) hm2) (nq_mq hn3 (by omega) (by omega))⟩

set_option maxRecDepth 100000 in
theorem c_X12_byOne {l : Launch} {X : CX} {σ : ST} {xs : List Int32} (hx : TR σ xs) : MJ l X 3 yX12_byOne cX12_byOne 3 (some .boolean) [.ref (ad X 112)] σ (nQ σ xs (cob 1 xs)) := by
  refine MJ_of (own := RX12) [some (.ref (ad X 112)), none, none] (by decide) rfl (Nat.le_of_ble_eq_true rfl) rfl ?_
  refine rj_ic0 dX12_byOne_0 ?_
  refine rj_ist1 dX12_byOne_1 (by decide) rfl ?_
  refine rj_ic0 dX12_byOne_2 ?_
  refine rj_ist2 dX12_byOne_3 (by decide) rfl ?_
  have k := l_X12_byOne (l := l) (X := X) (h := 3) (Q := nQ σ xs (cob 1 xs)) (σ := σ) (xs := xs) (by decide) (fun τ h1 h2 => ⟨rfl, h1, h2⟩) 25 0 σ (by omega) ⟨by omega, hx, mq_rf⟩
  rw [bP_f (fun ⟨q, h1, _⟩ => absurd h1 (by omega))] at k
  exact k

set_option maxRecDepth 100000 in
theorem l_X12_byTwo {l : Launch} {X : CX} {h : Nat} {Q : Option Value → ST → Prop} {σ : ST} {xs : List Int32} (hh : 4 ≤ h) (hQ : ∀ τ, TR τ xs → mq σ τ → Q (some (.int (bP (cob 2 xs)))) τ) : ∀ (N m : Nat) (τ : ST), 24 < m + N → (m ≤ 24 ∧ TR τ xs ∧ mq σ τ) → RJ (GM l X h Q) X cX12_byTwo 3 (some .boolean) RX12 4 [some (.ref (ad X 112)), some (.int (bP (∃ q, q < m ∧ cmM xs q ∧ cob 1 (mvM xs q)))), some (.int (nI m))] [] τ := by
  intro N
  induction N with
  | zero => intro m τ hN hi; have := hi.1; exact absurd hN (by omega)
  | succ N ih =>
    intro m τ hN hi
    obtain ⟨hm, hx, ho⟩ := hi
    have hit : (nI m).toInt = m := nI_t (by omega)
    have q24 : (24 : Int32).toInt = 24 := by decide
    have hcb := cob_M (n := 1) (xs := xs) hx.2.1
    refine rj_ild2 dX12_byTwo_4 rfl ?_
    refine rj_bipush (v := 24) dX12_byTwo_5 (by decide) ?_
    refine rj_ic_ge (tgt := 43) dX12_byTwo_7 (by decide) (fun h_7 => ?_) (fun h_7 => ?_)
    · refine rj_ild1 dX12_byTwo_43 rfl ?_
      refine rj_zret dX12_byTwo_44 (bP_n _) ?_
      have hie : m = 24 := by omega
      subst hie
      have := hQ τ hx ho
      rw [bP_c hcb] at this
      exact this
    · refine rj_ild1 dX12_byTwo_10 rfl ?_
      refine rj_if_ne (tgt := 43) dX12_byTwo_11 (by decide) (fun h_11 => ?_) (fun h_11 => ?_)
      · have hp := bP_nz h_11
        refine rj_ild1 dX12_byTwo_43 rfl ?_
        refine rj_zret dX12_byTwo_44 (bP_n _) ?_
        have := hQ τ hx ho
        obtain ⟨q, h1, h2⟩ := hp
        rw [bP_t (hcb.mpr ⟨q, by omega, h2⟩)] at this
        rw [bP_t ⟨q, h1, h2⟩]
        exact this
      · have hp := bP_z h_11
        refine rj_ald0 dX12_byTwo_14 rfl ?_
        refine rj_ild2 dX12_byTwo_15 rfl ?_
        refine rj_V1i (ci := 12) cX12_153 rfl (by decide) (by first | assumption | rfl) dX12_byTwo_16 (c_X12_canMove hx (by omega)) (fitM (by omega) (by decide)) (Nat.le_of_ble_eq_true rfl) ?_
        refine rj_if_eq (tgt := 37) dX12_byTwo_19 (by decide) (fun h_19 => ?_) (fun h_19 => ?_)
        · have hb_19 := bz_t h_19
          refine rj_iinc2 (d := 1) dX12_byTwo_37 (by decide) rfl (by decide) ?_
          rw [nI_1]
          refine rj_goto (tgt := 4) dX12_byTwo_40 (by decide) ?_
          have hcg : bP (∃ q, q < m ∧ cmM xs q ∧ cob 1 (mvM xs q)) = bP (∃ q, q < m + 1 ∧ cmM xs q ∧ cob 1 (mvM xs q)) := bP_c ⟨fun ⟨q, h1, h2⟩ => ⟨q, by omega, h2⟩, fun ⟨q, h1, h2, h3⟩ => ⟨q, by
            rcases Nat.lt_or_ge q m with z | z
            · exact z
            · have : q = m := by omega
              subst this; exact absurd h2 hb_19, h2, h3⟩⟩
          rw [hcg]
          exact ih (m + 1) τ (by omega) ⟨by omega, hx, ho⟩
        · have hb_19 := bz_f h_19
          refine rj_ald0 dX12_byTwo_22 rfl ?_
          refine rj_ild2 dX12_byTwo_23 rfl ?_
          refine rj_V1 (ci := 12) cX12_156 rfl (by decide) (by first | assumption | rfl) dX12_byTwo_24 (c_X12_makeMove hx (by omega) (cmM_1 hb_19) (cmM_2 hb_19)) (fitM (by omega) (by decide)) (Nat.le_of_ble_eq_true rfl) ?_
          rintro v υ ⟨rfl, hx1, hn1⟩
          simp only [Option.toList, List.nil_append]
          refine rj_ald0 dX12_byTwo_27 rfl ?_
          refine rj_V0 (ci := 12) cX12_167 rfl (by decide) (by first | assumption | rfl) dX12_byTwo_28 (c_X12_byOne hx1) (fitM (by omega) (by decide)) (Nat.le_of_ble_eq_true rfl) ?_
          rintro v υ2 ⟨rfl, hx2, hm2⟩
          simp only [Option.toList, List.cons_append, List.nil_append]
          refine rj_ist1 dX12_byTwo_31 (by decide) rfl ?_
          refine rj_ald0 dX12_byTwo_32 rfl ?_
          refine rj_ild2 dX12_byTwo_33 rfl ?_
          refine rj_V1 (ci := 12) cX12_156 rfl (by decide) (by first | assumption | rfl) dX12_byTwo_34 (c_X12_makeMove hx2 (by omega) (fun z => by rw [mvM_len]; exact cmM_1 hb_19 z) (fun z => by rw [mvM_len]; exact cmM_2 hb_19 z)) (fitM (by omega) (by decide)) (Nat.le_of_ble_eq_true rfl) ?_
          rintro v υ3 ⟨rfl, hx3, hn3⟩
          simp only [Option.toList, List.nil_append]
          rw [mvM_2 hb_19] at hx3
          refine rj_iinc2 (d := 1) dX12_byTwo_37 (by decide) rfl (by decide) ?_
          rw [nI_1]
          refine rj_goto (tgt := 4) dX12_byTwo_40 (by decide) ?_
          have hcg : bP (cob 1 (mvM xs m)) = bP (∃ q, q < m + 1 ∧ cmM xs q ∧ cob 1 (mvM xs q)) := bP_c ⟨fun z => ⟨m, by omega, hb_19, z⟩, fun ⟨q, h1, h2, h3⟩ => by
            rcases Nat.lt_or_ge q m with z | z
            · exact absurd ⟨q, z, h2, h3⟩ hp
            · have : q = m := by omega
              subst this; exact h3⟩
          rw [hcg]
          exact ih (m + 1) υ3 (by omega) ⟨by omega, hx3, mq_tr (mq_tr (mq_tr ho (nq_mq hn1 (by omega) (by omega))) hm2) (nq_mq hn3 (by omega) (by omega))⟩

set_option maxRecDepth 100000 in
theorem c_X12_byTwo {l : Launch} {X : CX} {σ : ST} {xs : List Int32} (hx : TR σ xs) : MJ l X 4 yX12_byTwo cX12_byTwo 3 (some .boolean) [.ref (ad X 112)] σ (nQ σ xs (cob 2 xs)) := by
  refine MJ_of (own := RX12) [some (.ref (ad X 112)), none, none] (by decide) rfl (Nat.le_of_ble_eq_true rfl) rfl ?_
  refine rj_ic0 dX12_byTwo_0 ?_
  refine rj_ist1 dX12_byTwo_1 (by decide) rfl ?_
  refine rj_ic0 dX12_byTwo_2 ?_
  refine rj_ist2 dX12_byTwo_3 (by decide) rfl ?_
  have k := l_X12_byTwo (l := l) (X := X) (h := 4) (Q := nQ σ xs (cob 2 xs)) (σ := σ) (xs := xs) (by decide) (fun τ h1 h2 => ⟨rfl, h1, h2⟩) 25 0 σ (by omega) ⟨by omega, hx, mq_rf⟩
  rw [bP_f (fun ⟨q, h1, _⟩ => absurd h1 (by omega))] at k
  exact k

set_option maxRecDepth 100000 in
theorem l_X12_byThree {l : Launch} {X : CX} {h : Nat} {Q : Option Value → ST → Prop} {σ : ST} {xs : List Int32} (hh : 5 ≤ h) (hQ : ∀ τ, TR τ xs → mq σ τ → Q (some (.int (bP (cob 3 xs)))) τ) : ∀ (N m : Nat) (τ : ST), 24 < m + N → (m ≤ 24 ∧ TR τ xs ∧ mq σ τ) → RJ (GM l X h Q) X cX12_byThree 3 (some .boolean) RX12 4 [some (.ref (ad X 112)), some (.int (bP (∃ q, q < m ∧ cmM xs q ∧ cob 2 (mvM xs q)))), some (.int (nI m))] [] τ := by
  intro N
  induction N with
  | zero => intro m τ hN hi; have := hi.1; exact absurd hN (by omega)
  | succ N ih =>
    intro m τ hN hi
    obtain ⟨hm, hx, ho⟩ := hi
    have hit : (nI m).toInt = m := nI_t (by omega)
    have q24 : (24 : Int32).toInt = 24 := by decide
    have hcb := cob_M (n := 2) (xs := xs) hx.2.1
    refine rj_ild2 dX12_byThree_4 rfl ?_
    refine rj_bipush (v := 24) dX12_byThree_5 (by decide) ?_
    refine rj_ic_ge (tgt := 43) dX12_byThree_7 (by decide) (fun h_7 => ?_) (fun h_7 => ?_)
    · refine rj_ild1 dX12_byThree_43 rfl ?_
      refine rj_zret dX12_byThree_44 (bP_n _) ?_
      have hie : m = 24 := by omega
      subst hie
      have := hQ τ hx ho
      rw [bP_c hcb] at this
      exact this
    · refine rj_ild1 dX12_byThree_10 rfl ?_
      refine rj_if_ne (tgt := 43) dX12_byThree_11 (by decide) (fun h_11 => ?_) (fun h_11 => ?_)
      · have hp := bP_nz h_11
        refine rj_ild1 dX12_byThree_43 rfl ?_
        refine rj_zret dX12_byThree_44 (bP_n _) ?_
        have := hQ τ hx ho
        obtain ⟨q, h1, h2⟩ := hp
        rw [bP_t (hcb.mpr ⟨q, by omega, h2⟩)] at this
        rw [bP_t ⟨q, h1, h2⟩]
        exact this
      · have hp := bP_z h_11
        refine rj_ald0 dX12_byThree_14 rfl ?_
        refine rj_ild2 dX12_byThree_15 rfl ?_
        refine rj_V1i (ci := 12) cX12_153 rfl (by decide) (by first | assumption | rfl) dX12_byThree_16 (c_X12_canMove hx (by omega)) (fitM (by omega) (by decide)) (Nat.le_of_ble_eq_true rfl) ?_
        refine rj_if_eq (tgt := 37) dX12_byThree_19 (by decide) (fun h_19 => ?_) (fun h_19 => ?_)
        · have hb_19 := bz_t h_19
          refine rj_iinc2 (d := 1) dX12_byThree_37 (by decide) rfl (by decide) ?_
          rw [nI_1]
          refine rj_goto (tgt := 4) dX12_byThree_40 (by decide) ?_
          have hcg : bP (∃ q, q < m ∧ cmM xs q ∧ cob 2 (mvM xs q)) = bP (∃ q, q < m + 1 ∧ cmM xs q ∧ cob 2 (mvM xs q)) := bP_c ⟨fun ⟨q, h1, h2⟩ => ⟨q, by omega, h2⟩, fun ⟨q, h1, h2, h3⟩ => ⟨q, by
            rcases Nat.lt_or_ge q m with z | z
            · exact z
            · have : q = m := by omega
              subst this; exact absurd h2 hb_19, h2, h3⟩⟩
          rw [hcg]
          exact ih (m + 1) τ (by omega) ⟨by omega, hx, ho⟩
        · have hb_19 := bz_f h_19
          refine rj_ald0 dX12_byThree_22 rfl ?_
          refine rj_ild2 dX12_byThree_23 rfl ?_
          refine rj_V1 (ci := 12) cX12_156 rfl (by decide) (by first | assumption | rfl) dX12_byThree_24 (c_X12_makeMove hx (by omega) (cmM_1 hb_19) (cmM_2 hb_19)) (fitM (by omega) (by decide)) (Nat.le_of_ble_eq_true rfl) ?_
          rintro v υ ⟨rfl, hx1, hn1⟩
          simp only [Option.toList, List.nil_append]
          refine rj_ald0 dX12_byThree_27 rfl ?_
          refine rj_V0 (ci := 12) cX12_170 rfl (by decide) (by first | assumption | rfl) dX12_byThree_28 (c_X12_byTwo hx1) (fitM (by omega) (by decide)) (Nat.le_of_ble_eq_true rfl) ?_
          rintro v υ2 ⟨rfl, hx2, hm2⟩
          simp only [Option.toList, List.cons_append, List.nil_append]
          refine rj_ist1 dX12_byThree_31 (by decide) rfl ?_
          refine rj_ald0 dX12_byThree_32 rfl ?_
          refine rj_ild2 dX12_byThree_33 rfl ?_
          refine rj_V1 (ci := 12) cX12_156 rfl (by decide) (by first | assumption | rfl) dX12_byThree_34 (c_X12_makeMove hx2 (by omega) (fun z => by rw [mvM_len]; exact cmM_1 hb_19 z) (fun z => by rw [mvM_len]; exact cmM_2 hb_19 z)) (fitM (by omega) (by decide)) (Nat.le_of_ble_eq_true rfl) ?_
          rintro v υ3 ⟨rfl, hx3, hn3⟩
          simp only [Option.toList, List.nil_append]
          rw [mvM_2 hb_19] at hx3
          refine rj_iinc2 (d := 1) dX12_byThree_37 (by decide) rfl (by decide) ?_
          rw [nI_1]
          refine rj_goto (tgt := 4) dX12_byThree_40 (by decide) ?_
          have hcg : bP (cob 2 (mvM xs m)) = bP (∃ q, q < m + 1 ∧ cmM xs q ∧ cob 2 (mvM xs q)) := bP_c ⟨fun z => ⟨m, by omega, hb_19, z⟩, fun ⟨q, h1, h2, h3⟩ => by
            rcases Nat.lt_or_ge q m with z | z
            · exact absurd ⟨q, z, h2, h3⟩ hp
            · have : q = m := by omega
              subst this; exact h3⟩
          rw [hcg]
          exact ih (m + 1) υ3 (by omega) ⟨by omega, hx3, mq_tr (mq_tr (mq_tr ho (nq_mq hn1 (by omega) (by omega))) hm2) (nq_mq hn3 (by omega) (by omega))⟩

set_option maxRecDepth 100000 in
theorem c_X12_byThree {l : Launch} {X : CX} {σ : ST} {xs : List Int32} (hx : TR σ xs) : MJ l X 5 yX12_byThree cX12_byThree 3 (some .boolean) [.ref (ad X 112)] σ (nQ σ xs (cob 3 xs)) := by
  refine MJ_of (own := RX12) [some (.ref (ad X 112)), none, none] (by decide) rfl (Nat.le_of_ble_eq_true rfl) rfl ?_
  refine rj_ic0 dX12_byThree_0 ?_
  refine rj_ist1 dX12_byThree_1 (by decide) rfl ?_
  refine rj_ic0 dX12_byThree_2 ?_
  refine rj_ist2 dX12_byThree_3 (by decide) rfl ?_
  have k := l_X12_byThree (l := l) (X := X) (h := 5) (Q := nQ σ xs (cob 3 xs)) (σ := σ) (xs := xs) (by decide) (fun τ h1 h2 => ⟨rfl, h1, h2⟩) 25 0 σ (by omega) ⟨by omega, hx, mq_rf⟩
  rw [bP_f (fun ⟨q, h1, _⟩ => absurd h1 (by omega))] at k
  exact k

set_option maxRecDepth 100000 in
theorem c_X12_steps {l : Launch} {X : CX} {σ : ST} {A : SA} (hM : MR σ A) (hw : wf A) {t : Int32} : MJ l X 6 yX12_steps cX12_steps 2 (some .int) [.ref (ad X 112), .int t] σ (OM σ (F_steps A t)) := by
  refine MJ_of (own := RX12) [some (.ref (ad X 112)), some (.int t)] (by decide) rfl (Nat.le_of_ble_eq_true rfl) rfl ?_
  refine rj_ald0 dX12_steps_0 rfl ?_
  refine rj_ild1 dX12_steps_1 rfl ?_
  refine rj_V1i (ci := 12) cX12_85 rfl (by decide) (by first | assumption | rfl) dX12_steps_2 (c_X12_isTie hM) (fitM (by decide) (by decide)) (Nat.le_of_ble_eq_true rfl) ?_
  refine rj_if_ne (tgt := 15) dX12_steps_5 (by decide) (fun h_5 => ?_) (fun h_5 => ?_)
  · have hb_5 := bz_f h_5
    obtain ⟨j, hv, hj⟩ := mt_in hb_5
    have h12 := (wf_t hw hj).2.2.1
    have hlt : (nI (fT A j).2.length).toInt = (fT A j).2.length := nI_t (by omega)
    have h8 := hM.1.2.2.2.1
    obtain ⟨f1, f2, f3, f4⟩ := hM.1.2.2.2.2 j hj
    have f6 : σ.1 113 (4 + 14 * j) = nI (fT A j).2.length := f2
    have f7 : σ.1 113 (3 + 14 * j) = (fT A j).1 := f1
    refine rj_ald0 dX12_steps_15 rfl ?_
    refine rj_ild1 dX12_steps_16 rfl ?_
    refine rj_V1 (ci := 12) cX12_117 rfl (by decide) (by first | assumption | rfl) dX12_steps_17 (c_X12_tries hM hv hj h12) (fitM (by decide) (by decide)) (Nat.le_of_ble_eq_true rfl) ?_
    rintro v υ1 ⟨rfl, hx1, hn1⟩
    simp only [Option.toList, List.nil_append]
    refine rj_ald0 dX12_steps_20 rfl ?_
    refine rj_V0 (ci := 12) cX12_163 rfl (by decide) (by first | assumption | rfl) dX12_steps_21 (c_X12_isNothing hx1) (fitM (by decide) (by decide)) (Nat.le_of_ble_eq_true rfl) ?_
    rintro v υ2 ⟨rfl, hx2, hm2⟩
    simp only [Option.toList, List.cons_append, List.nil_append]
    refine rj_if_eq (tgt := 31) dX12_steps_24 (by decide) (fun h_24 => ?_) (fun h_24 => ?_)
    · have p_24 := bP_z h_24
      refine rj_ald0 dX12_steps_31 rfl ?_
      refine rj_V0 (ci := 12) cX12_167 rfl (by decide) (by first | assumption | rfl) dX12_steps_32 (c_X12_byOne hx2) (fitM (by decide) (by decide)) (Nat.le_of_ble_eq_true rfl) ?_
      rintro v υ3 ⟨rfl, hx3, hm3⟩
      simp only [Option.toList, List.cons_append, List.nil_append]
      refine rj_if_eq (tgt := 42) dX12_steps_35 (by decide) (fun h_35 => ?_) (fun h_35 => ?_)
      · have p_35 := bP_z h_35
        refine rj_ald0 dX12_steps_42 rfl ?_
        refine rj_V0 (ci := 12) cX12_170 rfl (by decide) (by first | assumption | rfl) dX12_steps_43 (c_X12_byTwo hx3) (fitM (by decide) (by decide)) (Nat.le_of_ble_eq_true rfl) ?_
        rintro v υ4 ⟨rfl, hx4, hm4⟩
        simp only [Option.toList, List.cons_append, List.nil_append]
        refine rj_if_eq (tgt := 53) dX12_steps_46 (by decide) (fun h_46 => ?_) (fun h_46 => ?_)
        · have p_46 := bP_z h_46
          refine rj_ald0 dX12_steps_53 rfl ?_
          refine rj_V0 (ci := 12) cX12_173 rfl (by decide) (by first | assumption | rfl) dX12_steps_54 (c_X12_byThree hx4) (fitM (by decide) (by decide)) (Nat.le_of_ble_eq_true rfl) ?_
          rintro v υ5 ⟨rfl, hx5, hm5⟩
          simp only [Option.toList, List.cons_append, List.nil_append]
          refine rj_if_eq (tgt := 64) dX12_steps_57 (by decide) (fun h_57 => ?_) (fun h_57 => ?_)
          · have p_57 := bP_z h_57
            refine rj_ald0 dX12_steps_64 rfl ?_
            refine rj_ldc kX12_95 dX12_steps_65 ?_
            refine rj_V1 (ci := 12) cX12_68 rfl (by decide) rfl dX12_steps_67 (c_X12_finds (i := 3) (mr_s hM (mq_tr (mq_tr (mq_tr (mq_tr (nq_mq hn1 (by omega) (by omega)) hm2) hm3) hm4) hm5)) (by decide) (by decide)) (fitM (by decide) (by decide)) (Nat.le_of_ble_eq_true rfl) ?_
            rintro v υq ⟨rfl, hq⟩
            simp only [Option.toList, List.cons_append, List.nil_append]
            refine rj_iret dX12_steps_70 ?_
            have ef : fmN (fT A j).2 = -1 := by unfold fmN; rw [if_neg p_24, if_neg p_35, if_neg p_46, if_neg p_57]
            have e : F_steps A t = fnd A 3 := by unfold F_steps; rw [wT_in hv hj, ef, if_pos (by decide)]
            rw [e]
            exact ⟨rfl, hq.1, (mq_md (mq_tr (mq_tr (mq_tr (mq_tr (nq_mq hn1 (by omega) (by omega)) hm2) hm3) hm4) hm5)).tr hq.2⟩
          · have p_57 := bP_nz h_57
            refine rj_ic3 dX12_steps_60 ?_
            refine rj_goto (tgt := 70) dX12_steps_61 (by decide) ?_
            refine rj_iret dX12_steps_70 ?_
            have ef : fmN (fT A j).2 = 3 := by unfold fmN; rw [if_neg p_24, if_neg p_35, if_neg p_46, if_pos p_57]
            have e : F_steps A t = (3, A) := by unfold F_steps; rw [wT_in hv hj, ef, if_neg (by decide)]
            rw [e]
            exact ⟨rfl, mr_s hM (mq_tr (mq_tr (mq_tr (mq_tr (nq_mq hn1 (by omega) (by omega)) hm2) hm3) hm4) hm5), mq_md (mq_tr (mq_tr (mq_tr (mq_tr (nq_mq hn1 (by omega) (by omega)) hm2) hm3) hm4) hm5)⟩
        · have p_46 := bP_nz h_46
          refine rj_ic2 dX12_steps_49 ?_
          refine rj_goto (tgt := 70) dX12_steps_50 (by decide) ?_
          refine rj_iret dX12_steps_70 ?_
          have ef : fmN (fT A j).2 = 2 := by unfold fmN; rw [if_neg p_24, if_neg p_35, if_pos p_46]
          have e : F_steps A t = (2, A) := by unfold F_steps; rw [wT_in hv hj, ef, if_neg (by decide)]
          rw [e]
          exact ⟨rfl, mr_s hM (mq_tr (mq_tr (mq_tr (nq_mq hn1 (by omega) (by omega)) hm2) hm3) hm4), mq_md (mq_tr (mq_tr (mq_tr (nq_mq hn1 (by omega) (by omega)) hm2) hm3) hm4)⟩
      · have p_35 := bP_nz h_35
        refine rj_ic1 dX12_steps_38 ?_
        refine rj_goto (tgt := 70) dX12_steps_39 (by decide) ?_
        refine rj_iret dX12_steps_70 ?_
        have ef : fmN (fT A j).2 = 1 := by unfold fmN; rw [if_neg p_24, if_pos p_35]
        have e : F_steps A t = (1, A) := by unfold F_steps; rw [wT_in hv hj, ef, if_neg (by decide)]
        rw [e]
        exact ⟨rfl, mr_s hM (mq_tr (mq_tr (nq_mq hn1 (by omega) (by omega)) hm2) hm3), mq_md (mq_tr (mq_tr (nq_mq hn1 (by omega) (by omega)) hm2) hm3)⟩
    · have p_24 := bP_nz h_24
      refine rj_ic0 dX12_steps_27 ?_
      refine rj_goto (tgt := 70) dX12_steps_28 (by decide) ?_
      refine rj_iret dX12_steps_70 ?_
      have ef : fmN (fT A j).2 = 0 := by unfold fmN; rw [if_pos p_24]
      have e : F_steps A t = (0, A) := by unfold F_steps; rw [wT_in hv hj, ef, if_neg (by decide)]
      rw [e]
      exact ⟨rfl, mr_s hM (mq_tr (nq_mq hn1 (by omega) (by omega)) hm2), mq_md (mq_tr (nq_mq hn1 (by omega) (by omega)) hm2)⟩
  · have hb_5 := bz_t h_5
    refine rj_ald0 dX12_steps_8 rfl ?_
    refine rj_ldc kX12_59 dX12_steps_9 ?_
    refine rj_V1 (ci := 12) cX12_68 rfl (by decide) rfl dX12_steps_11 (c_X12_finds (i := 0) hM (by decide) (by decide)) (fitM (by decide) (by decide)) (Nat.le_of_ble_eq_true rfl) ?_
    rintro v υq ⟨rfl, hq⟩
    simp only [Option.toList, List.cons_append, List.nil_append]
    refine rj_iret dX12_steps_14 ?_
    have e : F_steps A t = fnd A 0 := by unfold F_steps; rw [wT_out hb_5]
    rw [e]
    exact ⟨rfl, hq⟩

