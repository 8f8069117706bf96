/-! the reference: colours, shows, apart, same -/
theorem colN_n {A : SA} {j P : Nat} (hP : P < 2147483648) : colN A j (nI P) = pwr (nI P) (frN A.2.1.1.toInt.toNat P (lyA A j)) := by unfold colN; rw [nI_t hP]
set_option maxRecDepth 100000 in
theorem c_X12_colours {l : Launch} {X : CX} {σ : ST} {A : SA} (hM : MR σ A) (hw : wf A) {t p : Int32} : MJ l X 4 yX12_colours cX12_colours 3 (some .int) [.ref (ad X 112), .int t, .int p] σ (OM σ (F_colours A t p)) := by
  refine MJ_of (own := RX12) [some (.ref (ad X 112)), some (.int t), some (.int p)] (by decide) rfl (Nat.le_of_ble_eq_true rfl) rfl ?_
  refine rj_ald0 dX12_colours_0 rfl ?_
  refine rj_ild1 dX12_colours_1 rfl ?_
  refine rj_V1i (ci := 12) cX12_85 rfl (by decide) (by first | assumption | rfl) dX12_colours_2 (c_X12_isTie hM) (fitM (by decide) (by decide)) (Nat.le_of_ble_eq_true rfl) ?_
  refine rj_if_eq (tgt := 24) dX12_colours_5 (by decide) (fun h_5 => ?_) (fun h_5 => ?_)
  · have hb_5 := bz_t h_5
    refine rj_ald0 dX12_colours_24 rfl ?_
    refine rj_ldc kX12_59 dX12_colours_25 ?_
    refine rj_V1 (ci := 12) cX12_68 rfl (by decide) rfl dX12_colours_27 (c_X12_finds (i := 0) hM (by decide) (by decide)) (fitM (by decide) (by decide)) (Nat.le_of_ble_eq_true rfl) ?_
    rintro v υq ⟨rfl, hq⟩
    simp only [Option.toList, List.cons_append, List.nil_append]
    refine rj_iret dX12_colours_30 ?_
    have e : F_colours A t p = fnd A 0 := by unfold F_colours; rw [wT_out hb_5]
    rw [e]
    exact ⟨rfl, hq⟩
  · have hb_5 := bz_f h_5
    obtain ⟨j, hv, hj⟩ := mt_in hb_5
    have h12 := (wf_t hw hj).2.2.1
    have hlt : (nI (fT A j).2.length).toInt = (fT A j).2.length := nI_t (by omega)
    have h8 := hM.1.2.2.2.1
    obtain ⟨f1, f2, f3, f4⟩ := hM.1.2.2.2.2 j hj
    have f6 : σ.1 113 (4 + 14 * j) = nI (fT A j).2.length := f2
    have f7 : σ.1 113 (3 + 14 * j) = (fT A j).1 := f1
    refine rj_ild2 dX12_colours_8 rfl ?_
    refine rj_ic3 dX12_colours_9 ?_
    refine rj_ic_eq (tgt := 31) dX12_colours_10 (by decide) (fun h_10 => ?_) (fun h_10 => ?_)
    · obtain ⟨P, hP, rfl⟩ : ∃ P : Nat, (P = 3 ∨ P = 5 ∨ P = 7) ∧ p = nI P := ⟨3, Or.inl rfl, h_10.trans rfl⟩
      obtain ⟨hpt, hp3, hp7⟩ := p3 hP
      have h357 : nI P = 3 ∨ nI P = 5 ∨ nI P = 7 := by rcases hP with rfl | rfl | rfl <;> decide
      refine rj_ald0 dX12_colours_31 rfl ?_
      refine rj_ild1 dX12_colours_32 rfl ?_
      refine rj_V1 (ci := 12) cX12_123 rfl (by decide) (by first | assumption | rfl) dX12_colours_33 (c_X12_layTie hM hw hv hj) (fitM (by decide) (by decide)) (Nat.le_of_ble_eq_true rfl) ?_
      rintro v υ ⟨rfl, hx1, hy1, hn1⟩
      simp only [Option.toList, List.nil_append]
      have hly : lyN (fT A j).1 (fT A j).2.length = (lyA A j).length := (ly_len _ _ _).symm
      have hM1 := mr_s hM hn1
      have hl1 := hx1.1
      have hl2 := hx1.2.1
      have hl3 : (nI (lyA A j).length).toInt = (lyA A j).length := nI_t (by omega)
      refine rj_ald0 dX12_colours_36 rfl ?_
      refine rj_ild2 dX12_colours_37 rfl ?_
      refine rj_V1 (ci := 12) cX12_197 rfl (by decide) (by first | assumption | rfl) dX12_colours_38 (c_X12_coloursBy hM1 hw hP hx1 (wf_ly hw hj)) (fitM (by decide) (by decide)) (Nat.le_of_ble_eq_true rfl) ?_
      rintro v υ2 ⟨rfl, ho2⟩
      simp only [Option.toList, List.cons_append, List.nil_append]
      refine rj_iret dX12_colours_41 ?_
      have e : F_colours A t (nI P) = (pwr (nI P) (frN A.2.1.1.toInt.toNat P (lyA A j)), A) := by unfold F_colours; rw [wT_in hv hj, if_pos h357, colN_n (by omega)]
      rw [e]
      exact ⟨rfl, mr_s hM1 (mq_9 ho2), (mq_md hn1).tr (mq_md (mq_9 ho2))⟩
    · refine rj_ild2 dX12_colours_13 rfl ?_
      refine rj_ic5 dX12_colours_14 ?_
      refine rj_ic_eq (tgt := 31) dX12_colours_15 (by decide) (fun h_15 => ?_) (fun h_15 => ?_)
      · obtain ⟨P, hP, rfl⟩ : ∃ P : Nat, (P = 3 ∨ P = 5 ∨ P = 7) ∧ p = nI P := ⟨5, Or.inr (Or.inl rfl), h_15.trans rfl⟩
        obtain ⟨hpt, hp3, hp7⟩ := p3 hP
        have h357 : nI P = 3 ∨ nI P = 5 ∨ nI P = 7 := by rcases hP with rfl | rfl | rfl <;> decide
        refine rj_ald0 dX12_colours_31 rfl ?_
        refine rj_ild1 dX12_colours_32 rfl ?_
        refine rj_V1 (ci := 12) cX12_123 rfl (by decide) (by first | assumption | rfl) dX12_colours_33 (c_X12_layTie hM hw hv hj) (fitM (by decide) (by decide)) (Nat.le_of_ble_eq_true rfl) ?_
        rintro v υ ⟨rfl, hx1, hy1, hn1⟩
        simp only [Option.toList, List.nil_append]
        have hly : lyN (fT A j).1 (fT A j).2.length = (lyA A j).length := (ly_len _ _ _).symm
        have hM1 := mr_s hM hn1
        have hl1 := hx1.1
        have hl2 := hx1.2.1
        have hl3 : (nI (lyA A j).length).toInt = (lyA A j).length := nI_t (by omega)
        refine rj_ald0 dX12_colours_36 rfl ?_
        refine rj_ild2 dX12_colours_37 rfl ?_
        refine rj_V1 (ci := 12) cX12_197 rfl (by decide) (by first | assumption | rfl) dX12_colours_38 (c_X12_coloursBy hM1 hw hP hx1 (wf_ly hw hj)) (fitM (by decide) (by decide)) (Nat.le_of_ble_eq_true rfl) ?_
        rintro v υ2 ⟨rfl, ho2⟩
        simp only [Option.toList, List.cons_append, List.nil_append]
        refine rj_iret dX12_colours_41 ?_
        have e : F_colours A t (nI P) = (pwr (nI P) (frN A.2.1.1.toInt.toNat P (lyA A j)), A) := by unfold F_colours; rw [wT_in hv hj, if_pos h357, colN_n (by omega)]
        rw [e]
        exact ⟨rfl, mr_s hM1 (mq_9 ho2), (mq_md hn1).tr (mq_md (mq_9 ho2))⟩
      · refine rj_ild2 dX12_colours_18 rfl ?_
        refine rj_bipush (v := 7) dX12_colours_19 (by decide) ?_
        refine rj_ic_eq (tgt := 31) dX12_colours_21 (by decide) (fun h_21 => ?_) (fun h_21 => ?_)
        · obtain ⟨P, hP, rfl⟩ : ∃ P : Nat, (P = 3 ∨ P = 5 ∨ P = 7) ∧ p = nI P := ⟨7, Or.inr (Or.inr rfl), h_21.trans rfl⟩
          obtain ⟨hpt, hp3, hp7⟩ := p3 hP
          have h357 : nI P = 3 ∨ nI P = 5 ∨ nI P = 7 := by rcases hP with rfl | rfl | rfl <;> decide
          refine rj_ald0 dX12_colours_31 rfl ?_
          refine rj_ild1 dX12_colours_32 rfl ?_
          refine rj_V1 (ci := 12) cX12_123 rfl (by decide) (by first | assumption | rfl) dX12_colours_33 (c_X12_layTie hM hw hv hj) (fitM (by decide) (by decide)) (Nat.le_of_ble_eq_true rfl) ?_
          rintro v υ ⟨rfl, hx1, hy1, hn1⟩
          simp only [Option.toList, List.nil_append]
          have hly : lyN (fT A j).1 (fT A j).2.length = (lyA A j).length := (ly_len _ _ _).symm
          have hM1 := mr_s hM hn1
          have hl1 := hx1.1
          have hl2 := hx1.2.1
          have hl3 : (nI (lyA A j).length).toInt = (lyA A j).length := nI_t (by omega)
          refine rj_ald0 dX12_colours_36 rfl ?_
          refine rj_ild2 dX12_colours_37 rfl ?_
          refine rj_V1 (ci := 12) cX12_197 rfl (by decide) (by first | assumption | rfl) dX12_colours_38 (c_X12_coloursBy hM1 hw hP hx1 (wf_ly hw hj)) (fitM (by decide) (by decide)) (Nat.le_of_ble_eq_true rfl) ?_
          rintro v υ2 ⟨rfl, ho2⟩
          simp only [Option.toList, List.cons_append, List.nil_append]
          refine rj_iret dX12_colours_41 ?_
          have e : F_colours A t (nI P) = (pwr (nI P) (frN A.2.1.1.toInt.toNat P (lyA A j)), A) := by unfold F_colours; rw [wT_in hv hj, if_pos h357, colN_n (by omega)]
          rw [e]
          exact ⟨rfl, mr_s hM1 (mq_9 ho2), (mq_md hn1).tr (mq_md (mq_9 ho2))⟩
        · refine rj_ald0 dX12_colours_24 rfl ?_
          refine rj_ldc kX12_59 dX12_colours_25 ?_
          refine rj_V1 (ci := 12) cX12_68 rfl (by decide) rfl dX12_colours_27 (c_X12_finds (i := 0) hM (by decide) (by decide)) (fitM (by decide) (by decide)) (Nat.le_of_ble_eq_true rfl) ?_
          rintro v υq ⟨rfl, hq⟩
          simp only [Option.toList, List.cons_append, List.nil_append]
          refine rj_iret dX12_colours_30 ?_
          have e : F_colours A t p = fnd A 0 := by unfold F_colours; rw [wT_in hv hj, if_neg (fun z => z.elim h_10 (fun y => y.elim h_15 h_21))]
          rw [e]
          exact ⟨rfl, hq⟩

theorem cn_n : ∀ i, i < 3 → cnL.getD i 0 = nI (3 + 2 * i) := by decide
theorem P_i {i : Nat} (h : i < 3) : 3 + 2 * i = 3 ∨ 3 + 2 * i = 5 ∨ 3 + 2 * i = 7 := by omega
set_option maxRecDepth 100000 in
theorem l_X12_shows {l : Launch} {X : CX} {h : Nat} {Q : Option Value → ST → Prop} {σ : ST} {A : SA} {j : Nat} {t : Int32} (hh : 3 ≤ h) (hw : wf A) (hj : j < A.2.1.2.2.length) (hM : MR σ A) (hx : LD σ (lyA A j)) (hQ : ∀ v τ, OM σ (shR A j 3 0) v τ → Q v τ) : ∀ (N i : Nat) (τ : ST), 3 < i + N → (i ≤ 3 ∧ off c9 σ τ ∧ shR A j 3 0 = shR A j (3 - i) i) → RJ (GM l X h Q) X cX12_shows 3 (some .int) RX12 22 [some (.ref (ad X 112)), some (.int t), some (.int (nI (3 + 2 * i)))] [] τ := by
  intro N
  induction N with
  | zero => intro i τ hN hi; have := hi.1; exact absurd hN (by omega)
  | succ N ih =>
    intro i τ hN hi
    obtain ⟨hi, ho, hr⟩ := hi
    have hM1 := mr_s hM (mq_9 ho)
    have hit : (nI (3 + 2 * i)).toInt = 3 + 2 * i := by rw [nI_t (by omega)]; omega
    have q9 : (9 : Int32).toInt = 9 := by decide
    have hstep : nI (3 + 2 * i) + 2 = nI (3 + 2 * (i + 1)) := by rw [show (2 : Int32) = nI 2 from rfl, nI_add, show 3 + 2 * i + 2 = 3 + 2 * (i + 1) by omega]
    refine rj_ild2 dX12_shows_22 rfl ?_
    refine rj_bipush (v := 9) dX12_shows_23 (by decide) ?_
    refine rj_ic_ge (tgt := 47) dX12_shows_25 (by decide) (fun h_25 => ?_) (fun h_25 => ?_)
    · refine rj_ild2 dX12_shows_47 rfl ?_
      refine rj_bipush (v := 9) dX12_shows_48 (by decide) ?_
      refine rj_ic_ge (tgt := 57) dX12_shows_50 (by decide) (fun h_50 => ?_) (fun h_50 => ?_)
      · refine rj_ald0 dX12_shows_57 rfl ?_
        refine rj_ldc kX12_95 dX12_shows_58 ?_
        refine rj_V1 (ci := 12) cX12_68 rfl (by decide) rfl dX12_shows_60 (c_X12_finds (i := 3) hM1 (by decide) (by decide)) (fitM (by omega) (by decide)) (Nat.le_of_ble_eq_true rfl) ?_
        rintro v υq ⟨rfl, hq⟩
        simp only [Option.toList, List.cons_append, List.nil_append]
        refine rj_iret dX12_shows_63 ?_
        apply hQ
        rw [hr, show 3 - i = 0 by omega]
        exact ⟨rfl, hq.1, (mq_md (mq_9 ho)).tr hq.2⟩
      · exfalso; omega
    · have hsh : shR A j (3 - i) i = if colN A j (nI (3 + 2 * i)) = pwr (nI (3 + 2 * i)) A.2.1.1.toInt.toNat then shR A j (3 - (i + 1)) (i + 1) else (nI (3 + 2 * i), A) := by
        rw [show 3 - i = (3 - (i + 1)) + 1 by omega]
        show (if colN A j (cnL.getD i 0) = pwr (cnL.getD i 0) A.2.1.1.toInt.toNat then shR A j (3 - (i + 1)) (i + 1) else (cnL.getD i 0, A)) = _
        rw [cn_n i (by omega)]
      rw [colN_n (by omega)] at hsh
      refine rj_ald0 dX12_shows_28 rfl ?_
      refine rj_ild2 dX12_shows_29 rfl ?_
      refine rj_V1 (ci := 12) cX12_197 rfl (by decide) (by first | assumption | rfl) dX12_shows_30 (c_X12_coloursBy hM1 hw (P_i (by omega)) (ld_9 hx ho) (wf_ly hw hj)) (fitM (by omega) (by decide)) (Nat.le_of_ble_eq_true rfl) ?_
      rintro v υ2 ⟨rfl, ho2⟩
      simp only [Option.toList, List.cons_append, List.nil_append]
      have hM2 := mr_s hM1 (mq_9 ho2)
      refine rj_ald0 dX12_shows_33 rfl ?_
      refine rj_ild2 dX12_shows_34 rfl ?_
      refine rj_V1i (ci := 12) cX12_191 rfl (by decide) (by first | assumption | rfl) dX12_shows_35 (c_X12_all hM2 hw) (fitM (by omega) (by decide)) (Nat.le_of_ble_eq_true rfl) ?_
      refine rj_ic_ne (tgt := 47) dX12_shows_38 (by decide) (fun h_38 => ?_) (fun h_38 => ?_)
      · refine rj_ild2 dX12_shows_47 rfl ?_
        refine rj_bipush (v := 9) dX12_shows_48 (by decide) ?_
        refine rj_ic_ge (tgt := 57) dX12_shows_50 (by decide) (fun h_50 => ?_) (fun h_50 => ?_)
        · exfalso; omega
        · refine rj_ild2 dX12_shows_53 rfl ?_
          refine rj_goto (tgt := 63) dX12_shows_54 (by decide) ?_
          refine rj_iret dX12_shows_63 ?_
          rw [if_neg h_38] at hsh
          apply hQ
          rw [hr, hsh]
          exact ⟨rfl, hM2, (mq_md (mq_9 ho)).tr (mq_md (mq_9 ho2))⟩
      · refine rj_iinc2 (d := 2) dX12_shows_41 (by decide) rfl (by decide) ?_
        rw [hstep]
        refine rj_goto (tgt := 22) dX12_shows_44 (by decide) ?_
        rw [if_pos h_38] at hsh
        exact ih (i + 1) υ2 (by omega) ⟨by omega, ho.tr ho2, hr.trans hsh⟩

set_option maxRecDepth 100000 in
theorem c_X12_shows {l : Launch} {X : CX} {σ : ST} {A : SA} (hM : MR σ A) (hw : wf A) {t : Int32} : MJ l X 4 yX12_shows cX12_shows 3 (some .int) [.ref (ad X 112), .int t] σ (OM σ (F_shows A t)) := by
  refine MJ_of (own := RX12) [some (.ref (ad X 112)), some (.int t), none] (by decide) rfl (Nat.le_of_ble_eq_true rfl) rfl ?_
  refine rj_ald0 dX12_shows_0 rfl ?_
  refine rj_ild1 dX12_shows_1 rfl ?_
  refine rj_V1i (ci := 12) cX12_85 rfl (by decide) (by first | assumption | rfl) dX12_shows_2 (c_X12_isTie hM) (fitM (by decide) (by decide)) (Nat.le_of_ble_eq_true rfl) ?_
  refine rj_if_ne (tgt := 15) dX12_shows_5 (by decide) (fun h_5 => ?_) (fun h_5 => ?_)
  · have hb_5 := bz_f h_5
    obtain ⟨j, hv, hj⟩ := mt_in hb_5
    have h12 := (wf_t hw hj).2.2.1
    have hlt : (nI (fT A j).2.length).toInt = (fT A j).2.length := nI_t (by omega)
    have h8 := hM.1.2.2.2.1
    obtain ⟨f1, f2, f3, f4⟩ := hM.1.2.2.2.2 j hj
    have f6 : σ.1 113 (4 + 14 * j) = nI (fT A j).2.length := f2
    have f7 : σ.1 113 (3 + 14 * j) = (fT A j).1 := f1
    refine rj_ald0 dX12_shows_15 rfl ?_
    refine rj_ild1 dX12_shows_16 rfl ?_
    refine rj_V1 (ci := 12) cX12_123 rfl (by decide) (by first | assumption | rfl) dX12_shows_17 (c_X12_layTie hM hw hv hj) (fitM (by decide) (by decide)) (Nat.le_of_ble_eq_true rfl) ?_
    rintro v υ ⟨rfl, hx1, hy1, hn1⟩
    simp only [Option.toList, List.nil_append]
    have hly : lyN (fT A j).1 (fT A j).2.length = (lyA A j).length := (ly_len _ _ _).symm
    have hM1 := mr_s hM hn1
    have hl1 := hx1.1
    have hl2 := hx1.2.1
    have hl3 : (nI (lyA A j).length).toInt = (lyA A j).length := nI_t (by omega)
    refine rj_ic3 dX12_shows_20 ?_
    refine rj_ist2 dX12_shows_21 (by decide) rfl ?_
    have e : F_shows A t = shR A j 3 0 := by unfold F_shows; rw [wT_in hv hj]
    rw [e]
    exact l_X12_shows (by decide) hw hj hM1 hx1 (fun v τ h => h.tr (mq_md hn1)) 4 0 υ (by omega) ⟨by omega, off.rf, rfl⟩
  · have hb_5 := bz_t h_5
    refine rj_ald0 dX12_shows_8 rfl ?_
    refine rj_ldc kX12_59 dX12_shows_9 ?_
    refine rj_V1 (ci := 12) cX12_68 rfl (by decide) rfl dX12_shows_11 (c_X12_finds (i := 0) hM (by decide) (by decide)) (fitM (by decide) (by decide)) (Nat.le_of_ble_eq_true rfl) ?_
    rintro v υq ⟨rfl, hq⟩
    simp only [Option.toList, List.cons_append, List.nil_append]
    refine rj_iret dX12_shows_14 ?_
    have e : F_shows A t = fnd A 0 := by unfold F_shows; rw [wT_out hb_5]
    rw [e]
    exact ⟨rfl, hq⟩

/-! what is told -/
abbrev cT : Nat → Prop := fun a => a = 118 ∨ a = 119 ∨ a = 120
theorem cT_8 {σ τ : ST} (h : off c8 σ τ) : off cT σ τ := h.mono (fun _ ha => Or.inl ha)
theorem cT_9 {σ τ : ST} (h : off c9 σ τ) : off cT σ τ := h.mono (fun _ ha => Or.inr (Or.inl ha))
theorem mq_T {σ τ : ST} (h : off cT σ τ) : mq σ τ := ⟨h.mono (fun a ha => by rcases ha with z | z | z <;> (subst z; unfold msP; omega)), by rw [(h 112 (by decide)).1], by rw [(h 112 (by decide)).1]⟩
theorem ld_T {σ τ : ST} {xs : List Int32} (hx : LD σ xs) (h : off cT σ τ) : LD τ xs := ⟨by rw [(h 112 (by decide)).1]; exact hx.1, hx.2.1, fun i hi => by rw [(h 115 (by decide)).1]; exact hx.2.2 i hi⟩
def lkv (xs : List Int32) (k : Nat) : Int32 := if k / 4 < k % 4 then (stf xs).2 (pr (nI (k / 4)) (nI (k % 4))).toNatClampNeg else 0
def cov (n : Nat) (xs : List Int32) (k : Nat) : Int32 := pwr (nI (3 + 2 * k)) (frN n ((3 + 2 * k : Nat) : Int) xs)
def TO1 (σ : ST) (rc : Int32) (xs : List Int32) (i : Nat) : Prop := ∀ q, q < i → σ.1 120 q = eoF rc (stf xs).1 (nI q)
def TO2 (σ : ST) (xs : List Int32) (i : Nat) : Prop := ∀ q, q < i → σ.1 120 (4 + q) = lkv xs q
def TO3 (σ : ST) (n : Nat) (xs : List Int32) (i : Nat) : Prop := ∀ q, q < i → σ.1 120 (20 + q) = cov n xs q
theorem to1_o {σ τ : ST} {rc : Int32} {xs : List Int32} {i : Nat} (h : TO1 σ rc xs i) (ho : τ.1 120 = σ.1 120) : TO1 τ rc xs i := fun q hq => by rw [ho]; exact h q hq
theorem to2_o {σ τ : ST} {xs : List Int32} {i : Nat} (h : TO2 σ xs i) (ho : τ.1 120 = σ.1 120) : TO2 τ xs i := fun q hq => by rw [ho]; exact h q hq
theorem to3_o {σ τ : ST} {n : Nat} {xs : List Int32} {i : Nat} (h : TO3 σ n xs i) (ho : τ.1 120 = σ.1 120) : TO3 τ n xs i := fun q hq => by rw [ho]; exact h q hq
theorem oT {σ τ : ST} {j : Nat} {v : Int32} (h : off cT σ τ) : off cT σ (ui τ 120 j v) := h.ui (Or.inr (Or.inr rfl))
theorem t16 : (16 : Int32).toInt = 16 := by decide
theorem t3 : (3 : Int32).toInt = 3 := by decide
set_option maxRecDepth 100000 in
theorem l_X12_tellsC {l : Launch} {X : CX} {h : Nat} {Q : Option Value → ST → Prop} {σ : ST} {A : SA} {xs : List Int32} (hh : 3 ≤ h) (hw : wf A) (hM : MR σ A) (hx : LD σ xs) (hok : okL A.2.1.1 xs)(hQ : ∀ τ, TO1 τ A.2.1.1 xs A.2.1.1.toInt.toNat → TO2 τ xs 16 → TO3 τ A.2.1.1.toInt.toNat xs 3 → off cT σ τ → Q none τ) : ∀ (N i : Nat) (τ : ST), 3 < i + N → (i ≤ 3 ∧ off cT σ τ ∧ TO1 τ A.2.1.1 xs A.2.1.1.toInt.toNat ∧ TO2 τ xs 16 ∧ TO3 τ A.2.1.1.toInt.toNat xs i) → RJ (GM l X h Q) X cX12_tells 2 none RX12 76 [some (.ref (ad X 112)), some (.int (nI i))] [] τ := by
  intro N
  induction N with
  | zero => intro i τ hN hi; have := hi.1; exact absurd hN (by omega)
  | succ N ih =>
    intro i τ hN hi
    obtain ⟨hi, ho, h1, h2, h3⟩ := hi
    have q3 := t3
    have hr4 := hw.1.2.1
    have hit : (nI i).toInt = i := nI_t (by omega)
    have hM1 := mr_s hM (mq_T ho)
    have h0 : τ.1 113 0 = A.2.1.1 := hM1.1.1
    have hX := ld_T hx ho
    have e3 : (3 : Int32) + 2 * nI i = nI (3 + 2 * i) := by rw [show (3 : Int32) = nI 3 from rfl, show (2 : Int32) = nI 2 from rfl, pk_mul, nI_add]
    have e20 : (20 : Int32) + nI i = nI (20 + i) := by rw [show (20 : Int32) = nI 20 from rfl, nI_add]
    have e20t : (nI (20 + i)).toInt = 20 + i := by rw [nI_t (by omega)]; omega
    refine rj_ild1 dX12_tells_76 rfl ?_
    refine rj_ic3 dX12_tells_77 ?_
    refine rj_ic_ge (tgt := 105) dX12_tells_78 (by decide) (fun h_78 => ?_) (fun h_78 => ?_)
    · refine rj_vret dX12_tells_105 ?_
      rw [show i = 3 by omega] at h3
      exact hQ τ h1 h2 h3 ho
    · refine rj_ald0 dX12_tells_81 rfl ?_
      refine g12_31 dX12_tells_82 ?_
      refine rj_bipush (v := 20) dX12_tells_85 (by decide) ?_
      refine rj_ild1 dX12_tells_87 rfl ?_
      refine rj_iadd dX12_tells_88 ?_
      rw [e20]
      refine rj_ald0 dX12_tells_89 rfl ?_
      refine rj_ic3 dX12_tells_90 ?_
      refine rj_ic2 dX12_tells_91 ?_
      refine rj_ild1 dX12_tells_92 rfl ?_
      refine rj_imul dX12_tells_93 ?_
      refine rj_iadd dX12_tells_94 ?_
      rw [e3]
      refine rj_V1 (ci := 12) cX12_197 rfl (by decide) (by first | assumption | rfl) dX12_tells_95 (c_X12_coloursBy hM1 hw (P_i (by omega)) hX hok) (fitM (by omega) (by decide)) (Nat.le_of_ble_eq_true rfl) ?_
      rintro v υ2 ⟨rfl, ho2⟩
      simp only [Option.toList, List.cons_append, List.nil_append]
      refine rj_iast (by first | assumption | rfl) (vpi (by omega) (by show _ < ((23 : Nat) : Int); omega)) dX12_tells_98 ?_
      rw [nI_clamp (by omega)]
      refine rj_iinc1 (d := 1) dX12_tells_99 (by decide) rfl (by decide) ?_
      rw [nI_1]
      refine rj_goto (tgt := 76) dX12_tells_102 (by decide) ?_
      have hu : υ2.1 120 = τ.1 120 := (ho2 120 (by decide)).1
      refine ih (i + 1) _ (by omega) ⟨by omega, oT (ho.tr (cT_9 ho2)), fun q hq => ?_, fun q hq => ?_, fun q hq => ?_⟩
      · rw [ui_at, if_neg (by omega), hu]; exact h1 q hq
      · rw [ui_at, if_neg (by omega), hu]; exact h2 q hq
      · rw [ui_at]
        by_cases z : q = i
        · rw [if_pos ⟨rfl, by omega⟩, z]; rfl
        · rw [if_neg (by omega), hu]; exact h3 q (by omega)

set_option maxRecDepth 100000 in
theorem l_X12_tellsB {l : Launch} {X : CX} {h : Nat} {Q : Option Value → ST → Prop} {σ : ST} {A : SA} {xs : List Int32} (hh : 3 ≤ h) (hw : wf A) (hM : MR σ A) (hx : LD σ xs) (hok : okL A.2.1.1 xs)(hQ : ∀ τ, TO1 τ A.2.1.1 xs A.2.1.1.toInt.toNat → TO2 τ xs 16 → TO3 τ A.2.1.1.toInt.toNat xs 3 → off cT σ τ → Q none τ) : ∀ (N i : Nat) (τ : ST), 16 < i + N → (i ≤ 16 ∧ off cT σ τ ∧ TO1 τ A.2.1.1 xs A.2.1.1.toInt.toNat ∧ TO2 τ xs i) → RJ (GM l X h Q) X cX12_tells 2 none RX12 31 [some (.ref (ad X 112)), some (.int (nI i))] [] τ := by
  intro N
  induction N with
  | zero => intro i τ hN hi; have := hi.1; exact absurd hN (by omega)
  | succ N ih =>
    intro i τ hN hi
    obtain ⟨hi, ho, h1, h2⟩ := hi
    have q16 := t16
    have hr4 := hw.1.2.1
    have hit : (nI i).toInt = i := nI_t (by omega)
    have hM1 := mr_s hM (mq_T ho)
    have h0 : τ.1 113 0 = A.2.1.1 := hM1.1.1
    have hX := ld_T hx ho
    have e4 : (4 : Int32) + nI i = nI (4 + i) := by rw [show (4 : Int32) = nI 4 from rfl, nI_add]
    have e4t : (nI (4 + i)).toInt = 4 + i := by rw [nI_t (by omega)]; omega
    have ed : nI i / 4 = nI (i / 4) := by rw [show (4 : Int32) = nI 4 from rfl, idiv_n (by omega) (by omega) (by omega)]
    have er : nI i - nI i / 4 * 4 = nI (i % 4) := by rw [show (4 : Int32) = nI 4 from rfl, irem_n (by omega) (by omega)]
    have edt : (nI (i / 4)).toInt = (i / 4 : Nat) := nI_t (by omega)
    have ert : (nI (i % 4)).toInt = (i % 4 : Nat) := nI_t (by omega)
    refine rj_ild1 dX12_tells_31 rfl ?_
    refine rj_bipush (v := 16) dX12_tells_32 (by decide) ?_
    refine rj_ic_ge (tgt := 74) dX12_tells_34 (by decide) (fun h_34 => ?_) (fun h_34 => ?_)
    · refine rj_ic0 dX12_tells_74 ?_
      refine rj_ist1 dX12_tells_75 (by decide) rfl ?_
      rw [show i = 16 by omega] at h2
      exact l_X12_tellsC hh hw hM1 hX hok (fun ψ a b c d => hQ ψ a b c (ho.tr d)) 4 0 τ (by omega) ⟨by omega, off.rf, h1, h2, fun q hq => absurd hq (by omega)⟩
    · refine rj_ald0 dX12_tells_37 rfl ?_
      refine g12_31 dX12_tells_38 ?_
      refine rj_ic4 dX12_tells_41 ?_
      refine rj_ild1 dX12_tells_42 rfl ?_
      refine rj_iadd dX12_tells_43 ?_
      rw [e4]
      refine rj_ild1 dX12_tells_44 rfl ?_
      refine rj_ic4 dX12_tells_45 ?_
      refine rj_idiv dX12_tells_46 (by decide) ?_
      refine rj_ild1 dX12_tells_47 rfl ?_
      refine rj_ic4 dX12_tells_48 ?_
      refine rj_irem dX12_tells_49 (by decide) ?_
      rw [er, ed]
      refine rj_ic_ge (tgt := 66) dX12_tells_50 (by decide) (fun h_50 => ?_) (fun h_50 => ?_)
      · refine rj_ic0 dX12_tells_66 ?_
        refine rj_iast (by first | assumption | rfl) (vpi (by omega) (by show _ < ((23 : Nat) : Int); omega)) dX12_tells_67 ?_
        rw [nI_clamp (by omega)]
        refine rj_iinc1 (d := 1) dX12_tells_68 (by decide) rfl (by decide) ?_
        rw [nI_1]
        refine rj_goto (tgt := 31) dX12_tells_71 (by decide) ?_
        have ho2 : off c8 τ τ := off.rf
        have hu : τ.1 120 = τ.1 120 := (ho2 120 (by decide)).1
        refine ih (i + 1) _ (by omega) ⟨by omega, oT (ho.tr (cT_8 ho2)), fun q hq => ?_, fun q hq => ?_⟩
        · rw [ui_at, if_neg (by omega), hu]; exact h1 q hq
        · rw [ui_at]
          by_cases z : q = i
          · rw [if_pos ⟨rfl, by omega⟩, z]; unfold lkv; rw [if_neg (by omega)]
          · rw [if_neg (by omega), hu]; exact h2 q (by omega)
      · refine rj_ald0 dX12_tells_53 rfl ?_
        refine rj_ild1 dX12_tells_54 rfl ?_
        refine rj_ic4 dX12_tells_55 ?_
        refine rj_idiv dX12_tells_56 (by decide) ?_
        refine rj_ild1 dX12_tells_57 rfl ?_
        refine rj_ic4 dX12_tells_58 ?_
        refine rj_irem dX12_tells_59 (by decide) ?_
        rw [er, ed]
        refine rj_V2 (ci := 12) cX12_188 rfl (by decide) (by first | assumption | rfl) dX12_tells_60 (c_X12_linksOf hX hok hr4 (a := i / 4) (b := i % 4) (by omega) (by omega)) (fitM (by omega) (by decide)) (Nat.le_of_ble_eq_true rfl) ?_
        rintro v υ2 ⟨rfl, ho2⟩
        simp only [Option.toList, List.cons_append, List.nil_append]
        refine rj_goto (tgt := 67) dX12_tells_63 (by decide) ?_
        refine rj_iast (by first | assumption | rfl) (vpi (by omega) (by show _ < ((23 : Nat) : Int); omega)) dX12_tells_67 ?_
        rw [nI_clamp (by omega)]
        refine rj_iinc1 (d := 1) dX12_tells_68 (by decide) rfl (by decide) ?_
        rw [nI_1]
        refine rj_goto (tgt := 31) dX12_tells_71 (by decide) ?_
        have hu : υ2.1 120 = τ.1 120 := (ho2 120 (by decide)).1
        refine ih (i + 1) _ (by omega) ⟨by omega, oT (ho.tr (cT_8 ho2)), fun q hq => ?_, fun q hq => ?_⟩
        · rw [ui_at, if_neg (by omega), hu]; exact h1 q hq
        · rw [ui_at]
          by_cases z : q = i
          · rw [if_pos ⟨rfl, by omega⟩, z]; unfold lkv; rw [if_pos (by omega)]
          · rw [if_neg (by omega), hu]; exact h2 q (by omega)

set_option maxRecDepth 100000 in
theorem l_X12_tellsA {l : Launch} {X : CX} {h : Nat} {Q : Option Value → ST → Prop} {σ : ST} {A : SA} {xs : List Int32} (hh : 3 ≤ h) (hw : wf A) (hM : MR σ A) (hx : LD σ xs) (hok : okL A.2.1.1 xs)(hQ : ∀ τ, TO1 τ A.2.1.1 xs A.2.1.1.toInt.toNat → TO2 τ xs 16 → TO3 τ A.2.1.1.toInt.toNat xs 3 → off cT σ τ → Q none τ) : ∀ (N i : Nat) (τ : ST), A.2.1.1.toInt.toNat < i + N → (i ≤ A.2.1.1.toInt.toNat ∧ off cT σ τ ∧ TO1 τ A.2.1.1 xs i) → RJ (GM l X h Q) X cX12_tells 2 none RX12 2 [some (.ref (ad X 112)), some (.int (nI i))] [] τ := by
  intro N
  induction N with
  | zero => intro i τ hN hi; have := hi.1; exact absurd hN (by omega)
  | succ N ih =>
    intro i τ hN hi
    obtain ⟨hi, ho, h1⟩ := hi
    have hr4 := hw.1.2.1
    have hit : (nI i).toInt = i := nI_t (by omega)
    have hM1 := mr_s hM (mq_T ho)
    have h0 : τ.1 113 0 = A.2.1.1 := hM1.1.1
    have hX := ld_T hx ho
    refine rj_ild1 dX12_tells_2 rfl ?_
    refine rj_ald0 dX12_tells_3 rfl ?_
    refine g12_7 dX12_tells_4 ?_
    refine rj_ic0 dX12_tells_7 ?_
    refine rj_iald (by first | assumption | rfl) (vpi (by decide) (by decide)) dX12_tells_8 ?_
    rw [show (0 : Int32).toNatClampNeg = 0 from rfl, h0]
    refine rj_ic_ge (tgt := 29) dX12_tells_9 (by decide) (fun h_9 => ?_) (fun h_9 => ?_)
    · refine rj_ic0 dX12_tells_29 ?_
      refine rj_ist1 dX12_tells_30 (by decide) rfl ?_
      rw [show i = A.2.1.1.toInt.toNat by omega] at h1
      exact l_X12_tellsB hh hw hM1 hX hok (fun ψ a b c d => hQ ψ a b c (ho.tr d)) 17 0 τ (by omega) ⟨by omega, off.rf, h1, fun q hq => absurd hq (by omega)⟩
    · refine rj_ald0 dX12_tells_12 rfl ?_
      refine g12_31 dX12_tells_13 ?_
      refine rj_ild1 dX12_tells_16 rfl ?_
      refine rj_ald0 dX12_tells_17 rfl ?_
      refine rj_ild1 dX12_tells_18 rfl ?_
      refine rj_V1 (ci := 12) cX12_185 rfl (by decide) (by first | assumption | rfl) dX12_tells_19 (c_X12_endOf hM1 hw hX hok (m := i) (by omega)) (fitM (by omega) (by decide)) (Nat.le_of_ble_eq_true rfl) ?_
      rintro v υ2 ⟨rfl, ho2⟩
      simp only [Option.toList, List.cons_append, List.nil_append]
      refine rj_iast (by first | assumption | rfl) (vpi (by omega) (by show _ < ((23 : Nat) : Int); omega)) dX12_tells_22 ?_
      rw [nI_clamp (by omega)]
      refine rj_iinc1 (d := 1) dX12_tells_23 (by decide) rfl (by decide) ?_
      rw [nI_1]
      refine rj_goto (tgt := 2) dX12_tells_26 (by decide) ?_
      have hu : υ2.1 120 = τ.1 120 := (ho2 120 (by decide)).1
      refine ih (i + 1) _ (by omega) ⟨by omega, oT (ho.tr (cT_8 ho2)), fun q hq => ?_⟩
      rw [ui_at]
      by_cases z : q = i
      · rw [if_pos ⟨rfl, z⟩, z]
      · rw [if_neg (fun y => z y.2), hu]; exact h1 q (by omega)

set_option maxRecDepth 100000 in
theorem c_X12_tells {l : Launch} {X : CX} {σ : ST} {A : SA} (hM : MR σ A) (hw : wf A) {xs : List Int32} (hx : LD σ xs) (hok : okL A.2.1.1 xs) : MJ l X 3 yX12_tells cX12_tells 2 none [.ref (ad X 112)] σ (PV (fun τ => TO1 τ A.2.1.1 xs A.2.1.1.toInt.toNat ∧ TO2 τ xs 16 ∧ TO3 τ A.2.1.1.toInt.toNat xs 3 ∧ off cT σ τ)) := by
  refine MJ_of (own := RX12) [some (.ref (ad X 112)), none] (by decide) rfl (Nat.le_of_ble_eq_true rfl) rfl ?_
  refine rj_ic0 dX12_tells_0 ?_
  refine rj_ist1 dX12_tells_1 (by decide) rfl ?_
  exact l_X12_tellsA (by decide) hw hM hx hok (fun τ a b c d => ⟨rfl, a, b, c, d⟩) (A.2.1.1.toInt.toNat + 1) 0 σ (by omega) ⟨by omega, off.rf, fun q hq => absurd hq (by omega)⟩

set_option maxRecDepth 100000 in
theorem c_X12_isTold {l : Launch} {X : CX} {σ : ST} {k : Nat} {v : Int32} (hk : k < 23) : MJ l X 0 yX12_isTold cX12_isTold 3 (some .boolean) [.ref (ad X 112), .int (nI k), .int v] σ (eqI (if σ.1 120 k = v then 1 else 0) σ) := by
  refine MJ_of (own := RX12) [some (.ref (ad X 112)), some (.int (nI k)), some (.int v)] (by decide) rfl (Nat.le_of_ble_eq_true rfl) rfl ?_
  have hkt : (nI k).toInt = k := nI_t (by omega)
  refine rj_ald0 dX12_isTold_0 rfl ?_
  refine g12_31 dX12_isTold_1 ?_
  refine rj_ild1 dX12_isTold_4 rfl ?_
  refine rj_iald (by first | assumption | rfl) (vpi (by omega) (by show _ < ((23 : Nat) : Int); omega)) dX12_isTold_5 ?_
  rw [nI_clamp (by omega)]
  refine rj_ild2 dX12_isTold_6 rfl ?_
  refine rj_ic_ne (tgt := 14) dX12_isTold_7 (by decide) (fun h_7 => ?_) (fun h_7 => ?_)
  · refine rj_ic0 dX12_isTold_14 ?_
    refine rj_zret dX12_isTold_15 (rfl) ?_
    exact ⟨by rw [if_neg h_7], rfl⟩
  · refine rj_ic1 dX12_isTold_10 ?_
    refine rj_goto (tgt := 15) dX12_isTold_11 (by decide) ?_
    refine rj_zret dX12_isTold_15 (rfl) ?_
    exact ⟨by rw [if_pos h_7], rfl⟩

