/-! Int32 by its bits: rows of laws/BITS.to-paste -/
def bt (x : Int32) (i : Nat) : Bool := x.toBitVec.getLsbD i
theorem b_ext {x y : Int32} (h : ∀ i, i < 32 → bt x i = bt y i) : x = y := Int32.toBitVec_inj.mp (BitVec.eq_of_getLsbD_eq (fun i hi => h i hi))
theorem b_and (x y : Int32) (i : Nat) : bt (x &&& y) i = (bt x i && bt y i) := by unfold bt; rw [Int32.toBitVec_and, BitVec.getLsbD_and]
theorem b_big {x : Int32} {i : Nat} (h : 32 ≤ i) : bt x i = false := BitVec.getLsbD_of_ge _ _ h
theorem b_255 (i : Nat) : bt 255 i = decide (i < 8) := by
  rcases Nat.lt_or_ge i 32 with h | h
  · exact (by decide +kernel : ∀ i, i < 32 → bt 255 i = decide (i < 8)) i h
  · rw [b_big h, decide_eq_false (by omega)]
theorem s_l : ∀ n, n < 32 → ((nI n &&& 31).toBitVec.smod 32).toNat = n := by decide +kernel
theorem s_u : ∀ n, n < 32 → (((nI n).toUInt32 &&& Int32.toUInt32 31).toBitVec % 32).toNat = n := by decide +kernel
theorem b_ushr (n : Nat) (hn : n < 32) (x : Int32) (i : Nat) : bt ((x.toUInt32 >>> ((nI n).toUInt32 &&& Int32.toUInt32 31)).toInt32) i = bt x (n + i) := by
  show (x.toUInt32 >>> ((nI n).toUInt32 &&& Int32.toUInt32 31)).toBitVec.getLsbD i = x.toUInt32.toBitVec.getLsbD (n + i)
  rw [UInt32.toBitVec_shiftRight]
  show (x.toUInt32.toBitVec >>> (((nI n).toUInt32 &&& Int32.toUInt32 31).toBitVec % 32).toNat).getLsbD i = _
  rw [s_u n hn, BitVec.getLsbD_ushiftRight]
theorem b_sshr (n : Nat) (hn : n < 32) (x : Int32) {i : Nat} (hi : i < 32) : bt (x >>> (nI n &&& 31)) i = if n + i < 32 then bt x (n + i) else bt x 31 := by
  unfold bt
  rw [Int32.toBitVec_shiftRight]
  show (x.toBitVec.sshiftRight ((nI n &&& 31).toBitVec.smod 32).toNat).getLsbD i = _
  rw [s_l n hn, BitVec.getLsbD_sshiftRight, BitVec.msb_eq_getLsbD_last]
  simp [hi]
theorem fdb_s {x : Int32} {k : Nat} (hk : k < 4) : (x >>> (((8 : Int32) * nI k) &&& 31)) &&& 255 = fdb x k := by
  unfold fdb
  rw [show (8 : Int32) = nI 8 from rfl, pk_mul]
  refine b_ext (fun i hi => ?_)
  rw [b_and, b_and, b_255, b_ushr _ (by omega), b_sshr _ (by omega) x hi]
  by_cases z : i < 8
  · rw [if_pos (by omega)]
  · rw [decide_eq_false z, Bool.and_false, Bool.and_false]
/-! the reference: draws, the tape -/
theorem zA_z (A : SA) (v : Int32) : (zA A v).2.1.2.1 = v := rfl
theorem mr_z {σ τ : ST} {A : SA} {v : Int32} (h : MR σ A) (ho : off (fun a => a = 113) σ τ) (h0 : τ.1 113 2 = v) (hb : ∀ b, b ≠ 2 → τ.1 113 b = σ.1 113 b) : MR τ (zA A v) ∧ off mdP σ τ := mr_row h (fm_z (v := v) h.1 h0 hb) ho rfl
set_option maxRecDepth 100000 in
theorem c_X12_draws {l : Launch} {X : CX} {σ : ST} {A : SA} (hM : MR σ A) {i z : Int32} (hi : 0 < i.toInt) (hz : A.2.1.2.1 = z) : MJ l X 0 yX12_draws cX12_draws 2 (some .int) [.ref (ad X 112), .int i] σ ((fun v τ => v = some (.int (dwv z i)) ∧ MR τ (zA A (dwz z)) ∧ off mdP σ τ)) := by
  refine MJ_of (own := RX12) [some (.ref (ad X 112)), some (.int i)] (by decide) rfl (Nat.le_of_ble_eq_true rfl) rfl ?_
  have hz0 : σ.1 113 2 = z := by rw [← hz]; exact hM.1.2.2.1
  refine rj_ald0 dX12_draws_0 rfl ?_
  refine g12_7 dX12_draws_1 ?_
  refine rj_ic2 dX12_draws_4 ?_
  refine rj_ald0 dX12_draws_5 rfl ?_
  refine g12_7 dX12_draws_6 ?_
  refine rj_ic2 dX12_draws_9 ?_
  refine rj_iald (by first | assumption | rfl) (vpi (by decide) (by decide)) dX12_draws_10 ?_
  rw [show (2 : Int32).toNatClampNeg = 2 from rfl, hz0]
  refine rj_ldc kX12_215 dX12_draws_11 ?_
  refine rj_imul dX12_draws_13 ?_
  refine rj_sipush (v := 12345) dX12_draws_14 (by decide) ?_
  refine rj_iadd dX12_draws_17 ?_
  rw [show z * 1103515245 + 12345 = dwz z from rfl]
  refine rj_iast (by first | assumption | rfl) (vpi (by decide) (by decide)) dX12_draws_18 ?_
  rw [show (2 : Int32).toNatClampNeg = 2 from rfl]
  refine rj_ald0 dX12_draws_19 rfl ?_
  refine g12_7 dX12_draws_20 ?_
  refine rj_ic2 dX12_draws_23 ?_
  refine rj_iald (by first | assumption | rfl) (vpi (by decide) (by decide)) dX12_draws_24 ?_
  rw [show (2 : Int32).toNatClampNeg = 2 from rfl, ui_same]
  refine rj_bipush (v := 8) dX12_draws_25 (by decide) ?_
  refine rj_iushr dX12_draws_27 ?_
  refine rj_ild1 dX12_draws_28 rfl ?_
  refine rj_irem dX12_draws_29 (fun q => by rw [q, t0] at hi; omega) ?_
  refine rj_iret dX12_draws_30 ?_
  have hm := mr_z (τ := ui σ 113 2 (dwz z)) (v := dwz z) hM (off_r off.rf) (ui_same _ _ _ _) (fun b hb => by rw [ui_at, if_neg (fun y => hb y.2)])
  exact ⟨rfl, hm⟩

theorem layR_s (j m i : Nat) (A : SA) : layR j (m + 1) i A = if (fT A j).2.length < 12 then layR j m (i + 1) (layS A j) else (nI i, A) := rfl
set_option maxRecDepth 100000 in
theorem l_X12_lay {l : Launch} {X : CX} {h : Nat} {Q : Option Value → ST → Prop} {σ : ST} {j : Nat} {t n : Int32} (hh : 3 ≤ h) (ht : t.toInt = j) {r : Int32 × SA} (hQ : ∀ v τ, OM σ r v τ → Q v τ) (hn : 0 ≤ n.toInt) : ∀ (N i : Nat) (A : SA) (τ : ST) (v5 v6 : Option Value), n.toInt.toNat < i + N → (i ≤ n.toInt.toNat ∧ (2 ≤ A.2.1.1.toInt ∧ A.2.1.1.toInt ≤ 4) ∧ j < A.2.1.2.2.length ∧ MR τ A ∧ off mdP σ τ ∧ layR j (n.toInt.toNat - i) i A = r) → RJ (GM l X h Q) X cX12_lay 6 (some .int) RX12 27 [some (.ref (ad X 112)), some (.int t), some (.int n), some (.int (nI i)), v5, v6] [] τ := by
  intro N
  induction N with
  | zero => intro i A τ v5 v6 hN hi; have := hi.1; exact absurd hN (by omega)
  | succ N ih =>
    intro i A τ v5 v6 hN hi
    obtain ⟨hi, hr4, hj, hM, ho, hr⟩ := hi
    have hnh := i_hi n
    have hit : (nI i).toInt = i := nI_t (by omega)
    have h12 := (hM.1.2.2.2.2 j hj).2.2.1
    have hlt : (nI (fT A j).2.length).toInt = (fT A j).2.length := nI_t (by show (A.2.1.2.2.getD j t0A).2.length < 2147483648; omega)
    have q12 := e12
    have h0 : τ.1 113 0 = A.2.1.1 := hM.1.1
    have hrm : (A.2.1.1 - 1).toInt = A.2.1.1.toInt - 1 := by rw [i_sub (by rw [t1]; omega) (by rw [t1]; omega), t1]
    refine rj_ild3 dX12_lay_27 rfl ?_
    refine rj_ild2 dX12_lay_28 rfl ?_
    refine rj_ic_ge (tgt := 90) dX12_lay_29 (by decide) (fun h_29 => ?_) (fun h_29 => ?_)
    · refine rj_ild3 dX12_lay_90 rfl ?_
      refine rj_iret dX12_lay_91 ?_
      rw [show n.toInt.toNat - i = 0 by omega] at hr
      apply hQ
      rw [← hr]
      exact ⟨rfl, hM, ho⟩
    · rw [show n.toInt.toNat - i = (n.toInt.toNat - (i + 1)) + 1 by omega, layR_s] at hr
      refine rj_ald0 dX12_lay_32 rfl ?_
      refine rj_ild1 dX12_lay_33 rfl ?_
      refine rj_V1i (ci := 12) cX12_82 rfl (by decide) (by first | assumption | rfl) dX12_lay_34 (c_X12_sizeOfRow hM ht hj) (fitM (by omega) (by decide)) (Nat.le_of_ble_eq_true rfl) ?_
      refine rj_bipush (v := 12) dX12_lay_37 (by decide) ?_
      refine rj_ic_ge (tgt := 90) dX12_lay_39 (by decide) (fun h_39 => ?_) (fun h_39 => ?_)
      · rw [if_neg (by omega)] at hr
        refine rj_ild3 dX12_lay_90 rfl ?_
        refine rj_iret dX12_lay_91 ?_
        apply hQ
        rw [← hr]
        exact ⟨rfl, hM, ho⟩
      · rw [if_pos (by omega)] at hr
        refine rj_ic1 dX12_lay_42 ?_
        refine rj_ald0 dX12_lay_43 rfl ?_
        refine rj_ald0 dX12_lay_44 rfl ?_
        refine g12_7 dX12_lay_45 ?_
        refine rj_ic0 dX12_lay_48 ?_
        refine rj_iald (by first | assumption | rfl) (vpi (by decide) (by decide)) dX12_lay_49 ?_
        rw [show (0 : Int32).toNatClampNeg = 0 from rfl, h0]
        refine rj_ic1 dX12_lay_50 ?_
        refine rj_isub dX12_lay_51 ?_
        refine rj_V1 (ci := 12) cX12_216 rfl (by decide) (by first | assumption | rfl) dX12_lay_52 (c_X12_draws hM (by omega) rfl) (fitM (by omega) (by decide)) (Nat.le_of_ble_eq_true rfl) ?_
        rintro v υ1 ⟨rfl, hM1, ho1⟩
        simp only [Option.toList, List.cons_append, List.nil_append]
        refine rj_iadd dX12_lay_55 ?_
        rw [Int32.add_comm 1]
        refine rj_ist4w dX12_lay_56 (by decide) rfl ?_
        refine rj_ald0 dX12_lay_58 rfl ?_
        refine rj_ic2 dX12_lay_59 ?_
        refine rj_V1 (ci := 12) cX12_216 rfl (by decide) (by first | assumption | rfl) dX12_lay_60 (c_X12_draws hM1 (by decide) (zA_z _ _)) (fitM (by omega) (by decide)) (Nat.le_of_ble_eq_true rfl) ?_
        rintro v υ2 ⟨rfl, hM2, ho2⟩
        simp only [Option.toList, List.cons_append, List.nil_append]
        have hj2 : j < (zA (zA A (dwz A.2.1.2.1)) (dwz (dwz A.2.1.2.1))).2.1.2.2.length := by rw [zA_len, zA_len]; exact hj
        refine rj_ist5w dX12_lay_63 (by decide) rfl ?_
        refine rj_ald0 dX12_lay_65 rfl ?_
        refine rj_ild1 dX12_lay_66 rfl ?_
        refine rj_ild dX12_lay_67 rfl ?_
        refine rj_ic1 dX12_lay_69 ?_
        refine rj_ic_ne (tgt := 79) dX12_lay_70 (by decide) (fun h_70 => ?_) (fun h_70 => ?_)
        · refine rj_ild dX12_lay_79 rfl ?_
          refine rj_V2 (ci := 12) cX12_91 rfl (by decide) (by first | assumption | rfl) dX12_lay_81 (c_X12_addCrossing hM2 ht hj2 (by rw [zA_fT, zA_fT]; omega)) (fitM (by omega) (by decide)) (Nat.le_of_ble_eq_true rfl) ?_
          rintro v υ3 ⟨rfl, hM3, ho3⟩
          simp only [Option.toList, List.nil_append]
          rw [zA_fT, zA_fT] at hM3
          refine rj_iinc3 (d := 1) dX12_lay_84 (by decide) rfl (by decide) ?_
          rw [nI_1]
          refine rj_goto (tgt := 27) dX12_lay_87 (by decide) ?_
          have hc : layC A = dwv A.2.1.2.1 (A.2.1.1 - 1) + 1 := by unfold layC; rw [if_neg h_70]
          refine ih (i + 1) (layS A j) _ _ _ (by omega) ⟨by omega, by rw [layS_rc]; exact hr4, by rw [layS_len]; exact hj, ?_, ((ho.tr ho1).tr ho2).tr ho3, hr⟩
          unfold layS
          rw [hc]
          exact hM3
        · refine rj_ild dX12_lay_73 rfl ?_
          refine rj_ineg dX12_lay_75 ?_
          refine rj_goto (tgt := 81) dX12_lay_76 (by decide) ?_
          refine rj_V2 (ci := 12) cX12_91 rfl (by decide) (by first | assumption | rfl) dX12_lay_81 (c_X12_addCrossing hM2 ht hj2 (by rw [zA_fT, zA_fT]; omega)) (fitM (by omega) (by decide)) (Nat.le_of_ble_eq_true rfl) ?_
          rintro v υ3 ⟨rfl, hM3, ho3⟩
          simp only [Option.toList, List.nil_append]
          rw [zA_fT, zA_fT] at hM3
          refine rj_iinc3 (d := 1) dX12_lay_84 (by decide) rfl (by decide) ?_
          rw [nI_1]
          refine rj_goto (tgt := 27) dX12_lay_87 (by decide) ?_
          have hc : layC A = -(dwv A.2.1.2.1 (A.2.1.1 - 1) + 1) := by unfold layC; rw [if_pos h_70]
          refine ih (i + 1) (layS A j) _ _ _ (by omega) ⟨by omega, by rw [layS_rc]; exact hr4, by rw [layS_len]; exact hj, ?_, ((ho.tr ho1).tr ho2).tr ho3, hr⟩
          unfold layS
          rw [hc]
          exact hM3

set_option maxRecDepth 100000 in
theorem c_X12_lay {l : Launch} {X : CX} {σ : ST} {A : SA} (hM : MR σ A) (hw : wf A) {t n : Int32} : MJ l X 3 yX12_lay cX12_lay 6 (some .int) [.ref (ad X 112), .int t, .int n] σ (OM σ (F_lay A t n)) := by
  refine MJ_of (own := RX12) [some (.ref (ad X 112)), some (.int t), some (.int n), none, none, none] (by decide) rfl (Nat.le_of_ble_eq_true rfl) rfl ?_
  have q12 := e12
  refine rj_ald0 dX12_lay_0 rfl ?_
  refine rj_ild1 dX12_lay_1 rfl ?_
  refine rj_V1i (ci := 12) cX12_85 rfl (by decide) (by first | assumption | rfl) dX12_lay_2 (c_X12_isTie hM) (fitM (by decide) (by decide)) (Nat.le_of_ble_eq_true rfl) ?_
  refine rj_if_eq (tgt := 18) dX12_lay_5 (by decide) (fun h_5 => ?_) (fun h_5 => ?_)
  · have hb_5 := bz_t h_5
    refine rj_ald0 dX12_lay_18 rfl ?_
    refine rj_ldc kX12_59 dX12_lay_19 ?_
    refine rj_V1 (ci := 12) cX12_68 rfl (by decide) rfl dX12_lay_21 (c_X12_finds (i := 0) hM (by decide) (by decide)) (fitM (by decide) (by decide)) (Nat.le_of_ble_eq_true rfl) ?_
    rintro v υq ⟨rfl, hq⟩
    simp only [Option.toList, List.cons_append, List.nil_append]
    refine rj_iret dX12_lay_24 ?_
    have e : F_lay A t n = fnd A 0 := by unfold F_lay; rw [wT_out hb_5]
    rw [e]
    exact ⟨rfl, hq⟩
  · have hb_5 := bz_f h_5
    obtain ⟨j, hv, hj⟩ := mt_in hb_5
    have h12 := (wf_t hw hj).2.2.1
    have hlt : (nI (fT A j).2.length).toInt = (fT A j).2.length := nI_t (by omega)
    have h8 := hM.1.2.2.2.1
    obtain ⟨f1, f2, f3, f4⟩ := hM.1.2.2.2.2 j hj
    have f6 : σ.1 113 (4 + 14 * j) = nI (fT A j).2.length := f2
    have f7 : σ.1 113 (3 + 14 * j) = (fT A j).1 := f1
    refine rj_ild2 dX12_lay_8 rfl ?_
    refine rj_ic1 dX12_lay_9 ?_
    refine rj_bipush (v := 12) dX12_lay_10 (by decide) ?_
    refine rj_S3i cX12_60 dX12_lay_12 c_X12_in (fitM (by decide) (by decide)) (Nat.le_of_ble_eq_true rfl) ?_
    refine rj_if_ne (tgt := 25) dX12_lay_15 (by decide) (fun h_15 => ?_) (fun h_15 => ?_)
    · have hb_15 := bz_f h_15
      rw [t1, q12] at hb_15
      refine rj_ic0 dX12_lay_25 ?_
      refine rj_ist3 dX12_lay_26 (by decide) rfl ?_
      have e : F_lay A t n = layR j n.toInt.toNat 0 A := by unfold F_lay; rw [wT_in hv hj, if_neg (by omega)]
      exact l_X12_lay (by decide) hv (fun v τ h => h) (by omega) (n.toInt.toNat + 1) 0 A _ _ _ (by omega) ⟨by omega, ⟨hw.1.1, hw.1.2.1⟩, hj, hM, off.rf, e.symm⟩
    · have hb_15 := bz_t h_15
      rw [t1, q12] at hb_15
      refine rj_ald0 dX12_lay_18 rfl ?_
      refine rj_ldc kX12_59 dX12_lay_19 ?_
      refine rj_V1 (ci := 12) cX12_68 rfl (by decide) rfl dX12_lay_21 (c_X12_finds (i := 0) hM (by decide) (by decide)) (fitM (by decide) (by decide)) (Nat.le_of_ble_eq_true rfl) ?_
      rintro v υq ⟨rfl, hq⟩
      simp only [Option.toList, List.cons_append, List.nil_append]
      refine rj_iret dX12_lay_24 ?_
      have e : F_lay A t n = fnd A 0 := by unfold F_lay; rw [wT_in hv hj, if_pos (by omega)]
      rw [e]
      exact ⟨rfl, hq⟩

theorem mr_tape {σ τ : ST} {A : SA} {bs : List Int32} (h : MR σ A) (ho : off (fun a => a = 112 ∨ a = 122) σ τ) (h26 : τ.1 112 26 = σ.1 112 26) (h1 : τ.1 112 13 = nI bs.length) (h2 : bs.length ≤ 120) (h3 : ∀ i, i < bs.length → τ.1 122 i = bs.getD i 0) : MR τ (tpA A bs) ∧ off mdP σ τ := by
  refine ⟨?_, ho.mono (fun a ha => by unfold mdP; omega)⟩
  obtain ⟨a1, a2, a3, a4, a5⟩ := h
  unfold MR
  rw [(ho 113 (by omega)).1, (ho 114 (by omega)).1, (ho 123 (by omega)).1, (ho 124 (by omega)).1, (ho 125 (by omega)).2, (ho 127 (by omega)).1, h26]
  exact ⟨a1, a2, a3, ⟨h1, h2, h3⟩, a5⟩
set_option maxRecDepth 100000 in
theorem c_X12_wipe {l : Launch} {X : CX} {σ : ST} {A : SA} (hM : MR σ A) (hw : wf A) : MJ l X 0 yX12_wipe cX12_wipe 2 (some .int) [.ref (ad X 112)] σ (OM σ (F_wipe A)) := by
  refine MJ_of (own := RX12) [some (.ref (ad X 112)), none] (by decide) rfl (Nat.le_of_ble_eq_true rfl) rfl ?_
  have h13 := hM.2.2.2.1.1
  refine rj_ald0 dX12_wipe_0 rfl ?_
  refine g12_219 dX12_wipe_1 ?_
  rw [h13]
  refine rj_ist1 dX12_wipe_4 (by decide) rfl ?_
  refine rj_ald0 dX12_wipe_5 rfl ?_
  refine rj_ic0 dX12_wipe_6 ?_
  refine p12_219 dX12_wipe_7 ?_
  refine rj_ild1 dX12_wipe_10 rfl ?_
  refine rj_iret dX12_wipe_11 ?_
  exact ⟨rfl, mr_tape (bs := []) hM (off.rf.ui (Or.inl rfl)) (by rw [ui_nj (by decide)]) (ui_same _ _ _ _) (by simp) (fun i hi => absurd hi (by simp))⟩

set_option maxRecDepth 100000 in
theorem l_X12_feed {l : Launch} {X : CX} {h : Nat} {Q : Option Value → ST → Prop} {σ : ST} {x n : Int32} {A : SA} {bs : List Int32} (hQ : ∀ v τ, OM σ (nI bs.length, tpA A bs) v τ → Q v τ) : ∀ (m : Nat) (cs2 : List Int32) (τ : ST), cs2.length + m ≤ 120 → m ≤ 4 → MR τ (tpA A cs2) → off mdP σ τ → cs2 ++ fdL x m = bs → RJ (GM l X h Q) X cX12_feed 4 (some .int) RX12 38 [some (.ref (ad X 112)), some (.int x), some (.int n), some (.int (nI m - 1))] [] τ := by
  intro m
  induction m with
  | zero =>
    intro cs2 τ h1 h2 hM ho hb
    simp only [fdL, List.append_nil] at hb
    rw [show nI 0 - 1 = (-1 : Int32) from rfl]
    have h13 : τ.1 112 13 = nI cs2.length := hM.2.2.2.1.1
    refine rj_ild3 dX12_feed_38 rfl ?_
    refine rj_if_lt (tgt := 77) dX12_feed_39 (by decide) (fun h_39 => ?_) (fun h_39 => ?_)
    · refine rj_ald0 dX12_feed_77 rfl ?_
      refine g12_219 dX12_feed_78 ?_
      rw [h13]
      refine rj_iret dX12_feed_81 ?_
      apply hQ
      rw [← hb]
      exact ⟨rfl, hM, ho⟩
    · exact absurd h_39 (by decide)
  | succ m ih =>
    intro cs2 τ h1 h2 hM ho hb
    have h13 : τ.1 112 13 = nI cs2.length := hM.2.2.2.1.1
    have h14 := hM.2.2.2.1.2.2
    have hlt : (nI cs2.length).toInt = cs2.length := nI_t (by omega)
    have hkm : nI (m + 1) - 1 = nI m := by
      apply i_inj
      rw [i_sub (by rw [nI_t (by omega), t1]; omega) (by rw [nI_t (by omega), t1]; omega), nI_t (by omega), nI_t (by omega), t1]
      omega
    have hmt : (nI m).toInt = m := nI_t (by omega)
    rw [hkm]
    refine rj_ild3 dX12_feed_38 rfl ?_
    refine rj_if_lt (tgt := 77) dX12_feed_39 (by decide) (fun h_39 => ?_) (fun h_39 => ?_)
    · exfalso; omega
    · refine rj_ald0 dX12_feed_42 rfl ?_
      refine g12_37 dX12_feed_43 ?_
      refine rj_ald0 dX12_feed_46 rfl ?_
      refine g12_219 dX12_feed_47 ?_
      rw [h13]
      refine rj_ild1 dX12_feed_50 rfl ?_
      refine rj_bipush (v := 8) dX12_feed_51 (by decide) ?_
      refine rj_ild3 dX12_feed_53 rfl ?_
      refine rj_imul dX12_feed_54 ?_
      refine rj_ishr dX12_feed_55 ?_
      refine rj_sipush (v := 255) dX12_feed_56 (by decide) ?_
      refine rj_iand dX12_feed_59 ?_
      rw [fdb_s (by omega)]
      refine rj_iast (by first | assumption | rfl) (vpi (by omega) (by show _ < ((120 : Nat) : Int); omega)) dX12_feed_60 ?_
      rw [nI_clamp (by omega)]
      refine rj_ald0 dX12_feed_61 rfl ?_
      refine rj_dup dX12_feed_62 rfl ?_
      refine g12_219 dX12_feed_63 ?_
      rw [ui_ne (by decide), h13]
      refine rj_ic1 dX12_feed_66 ?_
      refine rj_iadd dX12_feed_67 ?_
      rw [nI_1]
      refine p12_219 dX12_feed_68 ?_
      refine rj_iinc3 (d := (-1)) dX12_feed_71 (by decide) rfl (by decide) ?_
      refine rj_goto (tgt := 38) dX12_feed_74 (by decide) ?_
      rw [show (nI m + (-1 : Int32)) = nI m - 1 from (Int32.sub_eq_add_neg _ _).symm]
      have hN := mr_tape (bs := cs2 ++ [fdb x m]) (τ := ui (ui τ 122 cs2.length (fdb x m)) 112 13 (nI (cs2.length + 1))) hM ((off.rf.ui (Or.inr rfl)).ui (Or.inl rfl)) (by rw [ui_nj (by decide), ui_ne (by decide)]) (by rw [ui_same, List.length_append, List.length_singleton]) (by rw [List.length_append, List.length_singleton]; omega) (fun i hi => by
        rw [List.length_append, List.length_singleton] at hi
        rw [ui_ne (by decide), ui_at]
        by_cases z : i = cs2.length
        · rw [if_pos ⟨rfl, z⟩, z, getD_snoc_eq]
        · rw [if_neg (fun y => z y.2), getD_snoc_lt (by omega)]; exact h14 i (by show i < cs2.length; omega))
      exact ih (cs2 ++ [fdb x m]) _ (by rw [List.length_append, List.length_singleton]; omega) (by omega) hN.1 (ho.tr hN.2) (by rw [List.append_assoc]; exact hb)

set_option maxRecDepth 100000 in
theorem c_X12_feed {l : Launch} {X : CX} {σ : ST} {A : SA} (hM : MR σ A) (hw : wf A) {x n : Int32} : MJ l X 1 yX12_feed cX12_feed 4 (some .int) [.ref (ad X 112), .int x, .int n] σ (OM σ (F_feed A x n)) := by
  refine MJ_of (own := RX12) [some (.ref (ad X 112)), some (.int x), some (.int n), none] (by decide) rfl (Nat.le_of_ble_eq_true rfl) rfl ?_
  have h13 := hM.2.2.2.1.1
  have h120 := hM.2.2.2.1.2.1
  have q4 : (4 : Int32).toInt = 4 := by decide
  have q120 : (120 : Int32).toInt = 120 := by decide
  have hlt : (nI A.2.2.2.1.length).toInt = A.2.2.2.1.length := nI_t (by omega)
  refine rj_ild2 dX12_feed_0 rfl ?_
  refine rj_ic1 dX12_feed_1 ?_
  refine rj_ic4 dX12_feed_2 ?_
  refine rj_S3i cX12_60 dX12_feed_3 c_X12_in (fitM (by decide) (by decide)) (Nat.le_of_ble_eq_true rfl) ?_
  refine rj_if_ne (tgt := 16) dX12_feed_6 (by decide) (fun h_6 => ?_) (fun h_6 => ?_)
  · have hb_6 := bz_f h_6
    rw [t1, q4] at hb_6
    have hsum : (nI A.2.2.2.1.length + n).toInt = A.2.2.2.1.length + n.toInt := by rw [i_add (by omega) (by omega), hlt]
    refine rj_ald0 dX12_feed_16 rfl ?_
    refine g12_219 dX12_feed_17 ?_
    rw [h13]
    refine rj_ild2 dX12_feed_20 rfl ?_
    refine rj_iadd dX12_feed_21 ?_
    refine rj_bipush (v := 120) dX12_feed_22 (by decide) ?_
    refine rj_ic_le (tgt := 34) dX12_feed_24 (by decide) (fun h_24 => ?_) (fun h_24 => ?_)
    · refine rj_ild2 dX12_feed_34 rfl ?_
      refine rj_ic1 dX12_feed_35 ?_
      refine rj_isub dX12_feed_36 ?_
      refine rj_ist3 dX12_feed_37 (by decide) rfl ?_
      have e : F_feed A x n = (nI (A.2.2.2.1 ++ fdL x n.toInt.toNat).length, tpA A (A.2.2.2.1 ++ fdL x n.toInt.toNat)) := by unfold F_feed; rw [if_neg (by omega), if_neg (by omega), List.length_append, fdL_len]
      rw [e]
      have k := l_X12_feed (l := l) (X := X) (h := 1) (Q := OM σ (nI (A.2.2.2.1 ++ fdL x n.toInt.toNat).length, tpA A (A.2.2.2.1 ++ fdL x n.toInt.toNat))) (x := x) (n := n) (fun v τ h => h) n.toInt.toNat A.2.2.2.1 σ (by omega) (by omega) hM off.rf rfl
      rw [← i_nI (by omega)] at k
      exact k
    · refine rj_ald0 dX12_feed_27 rfl ?_
      refine rj_ldc kX12_77 dX12_feed_28 ?_
      refine rj_V1 (ci := 12) cX12_68 rfl (by decide) rfl dX12_feed_30 (c_X12_finds (i := 1) hM (by decide) (by decide)) (fitM (by decide) (by decide)) (Nat.le_of_ble_eq_true rfl) ?_
      rintro v υq ⟨rfl, hq⟩
      simp only [Option.toList, List.cons_append, List.nil_append]
      refine rj_iret dX12_feed_33 ?_
      have e : F_feed A x n = fnd A 1 := by unfold F_feed; rw [if_neg (by omega), if_pos (by omega)]
      rw [e]
      exact ⟨rfl, hq⟩
  · have hb_6 := bz_t h_6
    rw [t1, q4] at hb_6
    refine rj_ald0 dX12_feed_9 rfl ?_
    refine rj_ldc kX12_59 dX12_feed_10 ?_
    refine rj_V1 (ci := 12) cX12_68 rfl (by decide) rfl dX12_feed_12 (c_X12_finds (i := 0) hM (by decide) (by decide)) (fitM (by decide) (by decide)) (Nat.le_of_ble_eq_true rfl) ?_
    rintro v υq ⟨rfl, hq⟩
    simp only [Option.toList, List.cons_append, List.nil_append]
    refine rj_iret dX12_feed_15 ?_
    have e : F_feed A x n = fnd A 0 := by unfold F_feed; rw [if_pos (by omega)]
    rw [e]
    exact ⟨rfl, hq⟩

