/-! the reference: with crossings turned -/
def FLI (σ τ : ST) (xs : List Int32) (S i : Nat) : Prop := τ.1 112 7 = nI xs.length ∧ (∀ q, q < xs.length → τ.1 117 q = if q < i then fx xs (bitf S) q else xs.getD q 0) ∧ nq 117 7 σ τ
theorem fli_0 {σ : ST} {xs : List Int32} {S : Nat} (h : TR σ xs) : FLI σ σ xs S 0 := ⟨h.1, fun q hq => by rw [if_neg (by omega)]; exact h.2.2 q hq, nq_rf⟩
theorem fli_s {σ τ : ST} {xs : List Int32} {S i : Nat} {v : Int32} (h : FLI σ τ xs S i) (hv : v = fx xs (bitf S) i) : FLI σ (ui τ 117 i v) xs S (i + 1) := by
  refine ⟨by rw [ui_ne (by decide)]; exact h.1, fun q hq => ?_, nq_c h.2.2 (by decide)⟩
  rw [ui_at]
  by_cases z : q = i
  · rw [if_pos ⟨rfl, z⟩, if_pos (by omega), hv, z]
  · rw [if_neg (fun y => z y.2), h.2.1 q hq]
    by_cases y : q < i
    · rw [if_pos y, if_pos (by omega)]
    · rw [if_neg y, if_neg (by omega)]
theorem fli_e {σ τ : ST} {xs : List Int32} {S i : Nat} (hx : TR σ xs) (h : FLI σ τ xs S i) (hi : xs.length ≤ i) : TR τ (sgm xs (bitf S) 0 xs.length) := by
  refine ⟨by rw [h.1, sgm_len], by rw [sgm_len]; exact hx.2.1, fun q hq => ?_⟩
  rw [sgm_len] at hq
  rw [h.2.1 q hq, if_pos (by omega), sgm_get _ _ _ hq, Nat.zero_add]
theorem okc_ng {rc c : Int32} (hr : rc.toInt ≤ 4) (h : okc rc c.toInt) : okc rc (-c).toInt := by
  unfold okc at *
  rw [i_neg (by omega)]
  omega
theorem fx_ok {rc : Int32} {xs : List Int32} {s : Nat → Bool} (hr : rc.toInt ≤ 4) (h : okL rc xs) {i : Nat} (hi : i < xs.length) : okc rc (fx xs s i).toInt := by
  unfold fx
  split
  · exact okc_ng hr (okL_get h hi)
  · exact okL_get h hi
theorem sgm_ok {rc : Int32} {xs : List Int32} {s : Nat → Bool} (hr : rc.toInt ≤ 4) (h : okL rc xs) : ∀ (m f : Nat), f + m ≤ xs.length → okL rc (sgm xs s f m)
  | 0, _, _, c, hc => absurd hc (by simp [sgm])
  | m + 1, f, hf, c, hc => by
    rcases List.mem_cons.mp hc with z | z
    · rw [z]; exact fx_ok hr h (by omega)
    · exact sgm_ok hr h m (f + 1) (by omega) c z
theorem p12 {n : Nat} (h : n ≤ 12) : 2 ^ n ≤ 4096 := Nat.le_trans (Nat.pow_le_pow_right (by decide) h) (by decide)
set_option maxRecDepth 100000 in
theorem l_X12_inwA {l : Launch} {X : CX} {h : Nat} {Q : Option Value → ST → Prop} {σ : ST} {xs : List Int32} {S : Nat} {t : Int32} (hS : S < 4096) (hx : TR σ xs) (hY : ∀ τ (y : Int32), TR τ (sgm xs (bitf S) 0 xs.length) → nq 117 7 σ τ → RJ (GM l X h Q) X cX12_isNoneWith 4 (some .boolean) RX12 52 [some (.ref (ad X 112)), some (.int t), some (.int (nI S)), some (.int y)] [] τ) : ∀ (N i : Nat) (τ : ST), xs.length < i + N → (i ≤ xs.length ∧ FLI σ τ xs S i) → RJ (GM l X h Q) X cX12_isNoneWith 4 (some .boolean) RX12 7 [some (.ref (ad X 112)), some (.int t), some (.int (nI S)), some (.int (nI i))] [] τ := by
  intro N
  induction N with
  | zero => intro i τ hN hi; have := hi.1; exact absurd hN (by omega)
  | succ N ih =>
    intro i τ hN hi
    obtain ⟨hi, hv⟩ := hi
    have hc := hx.2.1
    have hs : τ.1 112 7 = nI xs.length := hv.1
    have hlt : (nI xs.length).toInt = xs.length := nI_t (by omega)
    have hit : (nI i).toInt = i := nI_t (by omega)
    refine rj_ild3 dX12_isNoneWith_7 rfl ?_
    refine rj_ald0 dX12_isNoneWith_8 rfl ?_
    refine g12_107 dX12_isNoneWith_9 ?_
    rw [hs]
    refine rj_ic_ge (tgt := 52) dX12_isNoneWith_12 (by decide) (fun h_12 => ?_) (fun h_12 => ?_)
    · exact hY τ _ (fli_e hx hv (by omega)) hv.2.2
    · have hg : τ.1 117 i = xs.getD i 0 := by rw [hv.2.1 i (by omega), if_neg (by omega)]
      have hbt := bt_i (S := S) (i := i) hS (by omega)
      refine rj_ald0 dX12_isNoneWith_15 rfl ?_
      refine g12_22 dX12_isNoneWith_16 ?_
      refine rj_ild3 dX12_isNoneWith_19 rfl ?_
      refine rj_ild2 dX12_isNoneWith_20 rfl ?_
      refine rj_ild3 dX12_isNoneWith_21 rfl ?_
      refine rj_ishr dX12_isNoneWith_22 ?_
      refine rj_ic1 dX12_isNoneWith_23 ?_
      refine rj_iand dX12_isNoneWith_24 ?_
      refine rj_ic1 dX12_isNoneWith_25 ?_
      refine rj_ic_ne (tgt := 39) dX12_isNoneWith_26 (by decide) (fun h_26 => ?_) (fun h_26 => ?_)
      · refine rj_ald0 dX12_isNoneWith_39 rfl ?_
        refine g12_22 dX12_isNoneWith_40 ?_
        refine rj_ild3 dX12_isNoneWith_43 rfl ?_
        refine rj_iald (by first | assumption | rfl) (vpi (by omega) (by show _ < ((12 : Nat) : Int); omega)) dX12_isNoneWith_44 ?_
        rw [nI_clamp (by omega), hg]
        refine rj_iast (by first | assumption | rfl) (vpi (by omega) (by show _ < ((12 : Nat) : Int); omega)) dX12_isNoneWith_45 ?_
        rw [nI_clamp (by omega)]
        refine rj_iinc3 (d := 1) dX12_isNoneWith_46 (by decide) rfl (by decide) ?_
        rw [nI_1]
        refine rj_goto (tgt := 7) dX12_isNoneWith_49 (by decide) ?_
        exact ih (i + 1) _ (by omega) ⟨by omega, fli_s hv (by unfold fx; rw [if_neg (fun z => h_26 (hbt.mpr z))])⟩
      · refine rj_ald0 dX12_isNoneWith_29 rfl ?_
        refine g12_22 dX12_isNoneWith_30 ?_
        refine rj_ild3 dX12_isNoneWith_33 rfl ?_
        refine rj_iald (by first | assumption | rfl) (vpi (by omega) (by show _ < ((12 : Nat) : Int); omega)) dX12_isNoneWith_34 ?_
        rw [nI_clamp (by omega), hg]
        refine rj_ineg dX12_isNoneWith_35 ?_
        refine rj_goto (tgt := 45) dX12_isNoneWith_36 (by decide) ?_
        refine rj_iast (by first | assumption | rfl) (vpi (by omega) (by show _ < ((12 : Nat) : Int); omega)) dX12_isNoneWith_45 ?_
        rw [nI_clamp (by omega)]
        refine rj_iinc3 (d := 1) dX12_isNoneWith_46 (by decide) rfl (by decide) ?_
        rw [nI_1]
        refine rj_goto (tgt := 7) dX12_isNoneWith_49 (by decide) ?_
        exact ih (i + 1) _ (by omega) ⟨by omega, fli_s hv (by unfold fx; rw [if_pos (hbt.mp h_26)])⟩

set_option maxRecDepth 100000 in
theorem l_X12_inwB {l : Launch} {X : CX} {h : Nat} {Q : Option Value → ST → Prop} {σ : ST} {A : SA} {S j : Nat} {t y : Int32} (hh : 2 ≤ h) (hM : MR σ A) (hw : wf A) (ht : t.toInt = j) (hj : j < A.2.1.2.2.length) (hx : TR σ (sgm (fT A j).2 (bitf S) 0 (fT A j).2.length)) (hQ : ∀ τ, mq σ τ → Q (some (.int (if NWk (fT A j).2 S then 1 else 0))) τ) :  RJ (GM l X h Q) X cX12_isNoneWith 4 (some .boolean) RX12 52 [some (.ref (ad X 112)), some (.int t), some (.int (nI S)), some (.int y)] [] σ := by
  have hr := And.intro hw.1.1 hw.1.2.1
  have hok := (wf_t hw hj).2.2.2
  have hokS := sgm_ok (s := bitf S) hr.2 hok (fT A j).2.length 0 (by omega)
  refine rj_ald0 dX12_isNoneWith_52 rfl ?_
  refine rj_ald0 dX12_isNoneWith_53 rfl ?_
  refine rj_ild1 dX12_isNoneWith_54 rfl ?_
  refine rj_V1i (ci := 12) cX12_99 rfl (by decide) (by first | assumption | rfl) dX12_isNoneWith_55 (c_X12_kindOf hM ht hj) (fitM (by omega) (by decide)) (Nat.le_of_ble_eq_true rfl) ?_
  refine rj_V1 (ci := 12) cX12_120 rfl (by decide) (by first | assumption | rfl) dX12_isNoneWith_58 (c_X12_laysAs hM hx (fun i hi => okL_nz hokS hi)) (fitM (by omega) (by decide)) (Nat.le_of_ble_eq_true rfl) ?_
  rintro v υ ⟨rfl, hx1, hn1⟩
  simp only [Option.toList, List.nil_append]
  refine rj_ald0 dX12_isNoneWith_61 rfl ?_
  refine rj_V0 (ci := 12) cX12_138 rfl (by decide) (by first | assumption | rfl) dX12_isNoneWith_62 (c_X12_pullLaid hx1) (fitM (by omega) (by decide)) (Nat.le_of_ble_eq_true rfl) ?_
  rintro v υ2 ⟨rfl, hx2, hn2⟩
  simp only [Option.toList, List.nil_append]
  have hlen := hx2.2.1
  have hlt : (nI (red (ly (fT A j).1 A.2.1.1 (sgm (fT A j).2 (bitf S) 0 (fT A j).2.length))).length).toInt = (red (ly (fT A j).1 A.2.1.1 (sgm (fT A j).2 (bitf S) 0 (fT A j).2.length))).length := nI_t (by omega)
  have hno := none_ly (k := (fT A j).1) hr hokS
  have hrd : (red (ly (fT A j).1 A.2.1.1 (sgm (fT A j).2 (bitf S) 0 (fT A j).2.length))).length = 0 ↔ NWk (fT A j).2 S := by
    unfold red
    rw [List.length_reverse, List.length_eq_zero_iff]
    exact hno
  have hmm := mq_tr (nq_mq hn1 (by omega) (by omega)) (nq_mq hn2 (by omega) (by omega))
  refine rj_ald0 dX12_isNoneWith_65 rfl ?_
  refine g12_129 dX12_isNoneWith_66 ?_
  rw [hx2.1]
  refine rj_if_ne (tgt := 76) dX12_isNoneWith_69 (by decide) (fun h_69 => ?_) (fun h_69 => ?_)
  · refine rj_ic0 dX12_isNoneWith_76 ?_
    refine rj_zret dX12_isNoneWith_77 (rfl) ?_
    have hne : ¬ NWk (fT A j).2 S := fun z => h_69 (by rw [hrd.mpr z]; rfl)
    have := hQ υ2 hmm
    rw [if_neg hne] at this
    exact this
  · refine rj_ic1 dX12_isNoneWith_72 ?_
    refine rj_goto (tgt := 77) dX12_isNoneWith_73 (by decide) ?_
    refine rj_zret dX12_isNoneWith_77 (rfl) ?_
    have hye : NWk (fT A j).2 S := hrd.mp (by have := congrArg Int32.toInt h_69; rw [hlt, t0] at this; omega)
    have := hQ υ2 hmm
    rw [if_pos hye] at this
    exact this

set_option maxRecDepth 100000 in
theorem c_X12_isNoneWith {l : Launch} {X : CX} {σ : ST} {A : SA} (hM : MR σ A) (hw : wf A) {t : Int32} {j S : Nat} (ht : t.toInt = j) (hj : j < A.2.1.2.2.length) (hS : S < 4096) : MJ l X 3 yX12_isNoneWith cX12_isNoneWith 4 (some .boolean) [.ref (ad X 112), .int t, .int (nI S)] σ ((fun v τ => v = some (.int (if NWk (fT A j).2 S then 1 else 0)) ∧ mq σ τ)) := by
  refine MJ_of (own := RX12) [some (.ref (ad X 112)), some (.int t), some (.int (nI S)), none] (by decide) rfl (Nat.le_of_ble_eq_true rfl) rfl ?_
  have h12 := (wf_t hw hj).2.2.1
  refine rj_ald0 dX12_isNoneWith_0 rfl ?_
  refine rj_ild1 dX12_isNoneWith_1 rfl ?_
  refine rj_V1 (ci := 12) cX12_117 rfl (by decide) (by first | assumption | rfl) dX12_isNoneWith_2 (c_X12_tries hM ht hj h12) (fitM (by decide) (by decide)) (Nat.le_of_ble_eq_true rfl) ?_
  rintro v υ ⟨rfl, hx1, hn1⟩
  simp only [Option.toList, List.nil_append]
  have hm1 := nq_mq hn1 (by omega) (by omega)
  refine rj_ic0 dX12_isNoneWith_5 ?_
  refine rj_ist3 dX12_isNoneWith_6 (by decide) rfl ?_
  refine l_X12_inwA hS hx1 (fun τ y hT hn => ?_) ((fT A j).2.length + 1) 0 υ (by omega) ⟨by omega, fli_0 hx1⟩
  have hm2 := nq_mq hn (by omega) (by omega)
  exact l_X12_inwB (by decide) (mr_s hM (mq_tr hm1 hm2)) hw ht hj hT (fun ψ h1 => ⟨rfl, mq_tr (mq_tr hm1 hm2) h1⟩)

theorem whR_s (xs : List Int32) (n i : Nat) : whR xs (n + 1) i = if (red (xs.set i (-(xs.getD i 0)))).length = 0 then some i else whR xs n (i + 1) := rfl
theorem nw_1 {xs : List Int32} {i : Nat} (h12 : xs.length ≤ 12) (hi : i < xs.length) : NWk xs (2 ^ i) ↔ (red (xs.set i (-(xs.getD i 0)))).length = 0 := by
  have e : sgm xs (bitf (2 ^ i)) 0 xs.length = xs.set i (-(xs.getD i 0)) := by
    refine getD_ext (by rw [sgm_len, List.length_set]) (fun q hq => ?_)
    rw [sgm_len] at hq
    rw [sgm_get _ _ _ hq, Nat.zero_add, getD_setI _ _ _ _ hi]
    unfold fx
    have hb := bt_1 i (by omega) q (by omega)
    by_cases z : q = i
    · rw [if_pos (hb.mpr z), if_pos z, z]
    · rw [if_neg (fun y => z (hb.mp y)), if_neg z]
  show redR (sgm xs (bitf (2 ^ i)) 0 xs.length) = [] ↔ _
  rw [e]
  unfold red
  rw [List.length_reverse, List.length_eq_zero_iff]
set_option maxRecDepth 100000 in
theorem l_X12_which {l : Launch} {X : CX} {h : Nat} {Q : Option Value → ST → Prop} {σ : ST} {A : SA} {j : Nat} {t : Int32} (hh : 4 ≤ h) (hM : MR σ A) (hw : wf A) (ht : t.toInt = j) (hj : j < A.2.1.2.2.length) (hQ : ∀ v τ, OM σ (oF A (whR (fT A j).2 (fT A j).2.length 0)) v τ → Q v τ) : ∀ (N i : Nat) (τ : ST), (fT A j).2.length < i + N → (i ≤ (fT A j).2.length ∧ mq σ τ ∧ whR (fT A j).2 (fT A j).2.length 0 = whR (fT A j).2 ((fT A j).2.length - i) i) → RJ (GM l X h Q) X cX12_which 3 (some .int) RX12 17 [some (.ref (ad X 112)), some (.int t), some (.int (nI i))] [] τ := by
  intro N
  induction N with
  | zero => intro i τ hN hi; have := hi.1; exact absurd hN (by omega)
  | succ N ih =>
    intro i τ hN hi
    obtain ⟨hi, ho, hr⟩ := hi
    have hM1 := mr_s hM ho
    have h12 := (wf_t hw hj).2.2.1
    have hlt : (nI (fT A j).2.length).toInt = (fT A j).2.length := nI_t (by omega)
    have hit : (nI i).toInt = i := nI_t (by omega)
    refine rj_ild2 dX12_which_17 rfl ?_
    refine rj_ald0 dX12_which_18 rfl ?_
    refine rj_ild1 dX12_which_19 rfl ?_
    refine rj_V1i (ci := 12) cX12_82 rfl (by decide) (by first | assumption | rfl) dX12_which_20 (c_X12_sizeOfRow hM1 ht hj) (fitM (by omega) (by decide)) (Nat.le_of_ble_eq_true rfl) ?_
    refine rj_ic_ge (tgt := 43) dX12_which_23 (by decide) (fun h_23 => ?_) (fun h_23 => ?_)
    · refine rj_ild2 dX12_which_43 rfl ?_
      refine rj_ald0 dX12_which_44 rfl ?_
      refine rj_ild1 dX12_which_45 rfl ?_
      refine rj_V1i (ci := 12) cX12_82 rfl (by decide) (by first | assumption | rfl) dX12_which_46 (c_X12_sizeOfRow hM1 ht hj) (fitM (by omega) (by decide)) (Nat.le_of_ble_eq_true rfl) ?_
      refine rj_ic_ge (tgt := 56) dX12_which_49 (by decide) (fun h_49 => ?_) (fun h_49 => ?_)
      · refine rj_ald0 dX12_which_56 rfl ?_
        refine rj_ldc kX12_95 dX12_which_57 ?_
        refine rj_V1 (ci := 12) cX12_68 rfl (by decide) rfl dX12_which_59 (c_X12_finds (i := 3) hM1 (by decide) (by decide)) (fitM (by omega) (by decide)) (Nat.le_of_ble_eq_true rfl) ?_
        rintro v υq ⟨rfl, hq⟩
        simp only [Option.toList, List.cons_append, List.nil_append]
        refine rj_iret dX12_which_62 ?_
        apply hQ
        rw [hr, show (fT A j).2.length - i = 0 by omega]
        exact ⟨rfl, hq.1, (mq_md ho).tr hq.2⟩
      · exfalso; omega
    · refine rj_ald0 dX12_which_26 rfl ?_
      refine rj_ild1 dX12_which_27 rfl ?_
      refine rj_ic1 dX12_which_28 ?_
      refine rj_ild2 dX12_which_29 rfl ?_
      refine rj_ishl dX12_which_30 ?_
      rw [sh_i i (by omega)]
      refine rj_V2 (ci := 12) cX12_206 rfl (by decide) (by first | assumption | rfl) dX12_which_31 (c_X12_isNoneWith hM1 hw ht hj (S := 2 ^ i) (Nat.lt_of_lt_of_le (Nat.pow_lt_pow_right (by decide) (show i < 12 by omega)) (by decide))) (fitM (by omega) (by decide)) (Nat.le_of_ble_eq_true rfl) ?_
      rintro v υ ⟨rfl, ho1⟩
      simp only [Option.toList, List.cons_append, List.nil_append]
      have hM2 := mr_s hM1 ho1
      have hn1 := nw_1 h12 (show i < (fT A j).2.length by omega)
      rw [show (fT A j).2.length - i = ((fT A j).2.length - (i + 1)) + 1 by omega, whR_s] at hr
      refine rj_if_ne (tgt := 43) dX12_which_34 (by decide) (fun h_34 => ?_) (fun h_34 => ?_)
      · have hb := bz_f h_34
        rw [if_pos (hn1.mp hb)] at hr
        refine rj_ild2 dX12_which_43 rfl ?_
        refine rj_ald0 dX12_which_44 rfl ?_
        refine rj_ild1 dX12_which_45 rfl ?_
        refine rj_V1i (ci := 12) cX12_82 rfl (by decide) (by first | assumption | rfl) dX12_which_46 (c_X12_sizeOfRow hM2 ht hj) (fitM (by omega) (by decide)) (Nat.le_of_ble_eq_true rfl) ?_
        refine rj_ic_ge (tgt := 56) dX12_which_49 (by decide) (fun h_49 => ?_) (fun h_49 => ?_)
        · exfalso; omega
        · refine rj_ild2 dX12_which_52 rfl ?_
          refine rj_goto (tgt := 62) dX12_which_53 (by decide) ?_
          refine rj_iret dX12_which_62 ?_
          apply hQ
          rw [hr]
          exact ⟨rfl, hM2, (mq_md ho).tr (mq_md ho1)⟩
      · have hb := bz_t h_34
        rw [if_neg (fun z => hb (hn1.mpr z))] at hr
        refine rj_iinc2 (d := 1) dX12_which_37 (by decide) rfl (by decide) ?_
        rw [nI_1]
        refine rj_goto (tgt := 17) dX12_which_40 (by decide) ?_
        exact ih (i + 1) υ (by omega) ⟨by omega, mq_tr ho ho1, hr⟩

set_option maxRecDepth 100000 in
theorem c_X12_which {l : Launch} {X : CX} {σ : ST} {A : SA} (hM : MR σ A) (hw : wf A) {t : Int32} : MJ l X 4 yX12_which cX12_which 3 (some .int) [.ref (ad X 112), .int t] σ (OM σ (F_which A t)) := by
  refine MJ_of (own := RX12) [some (.ref (ad X 112)), some (.int t), none] (by decide) rfl (Nat.le_of_ble_eq_true rfl) rfl ?_
  refine rj_ald0 dX12_which_0 rfl ?_
  refine rj_ild1 dX12_which_1 rfl ?_
  refine rj_V1i (ci := 12) cX12_85 rfl (by decide) (by first | assumption | rfl) dX12_which_2 (c_X12_isTie hM) (fitM (by decide) (by decide)) (Nat.le_of_ble_eq_true rfl) ?_
  refine rj_if_ne (tgt := 15) dX12_which_5 (by decide) (fun h_5 => ?_) (fun h_5 => ?_)
  · have hb_5 := bz_f h_5
    obtain ⟨j, hv, hj⟩ := mt_in hb_5
    have h12 := (wf_t hw hj).2.2.1
    have hlt : (nI (fT A j).2.length).toInt = (fT A j).2.length := nI_t (by omega)
    have h8 := hM.1.2.2.2.1
    obtain ⟨f1, f2, f3, f4⟩ := hM.1.2.2.2.2 j hj
    have f6 : σ.1 113 (4 + 14 * j) = nI (fT A j).2.length := f2
    have f7 : σ.1 113 (3 + 14 * j) = (fT A j).1 := f1
    refine rj_ic0 dX12_which_15 ?_
    refine rj_ist2 dX12_which_16 (by decide) rfl ?_
    have e : F_which A t = oF A (whR (fT A j).2 (fT A j).2.length 0) := by unfold F_which; rw [wT_in hv hj]
    rw [e]
    exact l_X12_which (by decide) hM hw hv hj (fun v τ h => h) ((fT A j).2.length + 1) 0 σ (by omega) ⟨by omega, mq_rf, rfl⟩
  · have hb_5 := bz_t h_5
    refine rj_ald0 dX12_which_8 rfl ?_
    refine rj_ldc kX12_59 dX12_which_9 ?_
    refine rj_V1 (ci := 12) cX12_68 rfl (by decide) rfl dX12_which_11 (c_X12_finds (i := 0) hM (by decide) (by decide)) (fitM (by decide) (by decide)) (Nat.le_of_ble_eq_true rfl) ?_
    rintro v υq ⟨rfl, hq⟩
    simp only [Option.toList, List.cons_append, List.nil_append]
    refine rj_iret dX12_which_14 ?_
    have e : F_which A t = fnd A 0 := by unfold F_which; rw [wT_out hb_5]
    rw [e]
    exact ⟨rfl, hq⟩

set_option maxRecDepth 100000 in
theorem l_X12_ones {l : Launch} {X : CX} {h : Nat} {Q : Option Value → ST → Prop} {σ : ST} {s r : Int32} (hQ : Q (some (.int r)) σ) : ∀ (N : Nat) (x c : Int32), onS N x = true → c + nI (onN N x) = r → RJ (GM l X h Q) X cX12_ones 3 (some .int) RX12 4 [some (.int s), some (.int c), some (.int x)] [] σ := by
  intro N
  induction N with
  | zero =>
    intro x c h1 h2
    have hx : x = 0 := of_decide_eq_true h1
    have h2 : c + 0 = r := h2
    rw [Int32.add_zero] at h2
    refine rj_ild2 dX12_ones_4 rfl ?_
    refine rj_if_eq (tgt := 20) dX12_ones_5 (by decide) (fun h_5 => ?_) (fun h_5 => ?_)
    · refine rj_ild1 dX12_ones_20 rfl ?_
      refine rj_iret dX12_ones_21 ?_
      rw [h2]
      exact hQ
    · exact absurd hx h_5
  | succ N ih =>
    intro x c h1 h2
    unfold onS at h1
    unfold onN at h2
    refine rj_ild2 dX12_ones_4 rfl ?_
    refine rj_if_eq (tgt := 20) dX12_ones_5 (by decide) (fun h_5 => ?_) (fun h_5 => ?_)
    · rw [if_pos h_5] at h1 h2
      refine rj_ild1 dX12_ones_20 rfl ?_
      refine rj_iret dX12_ones_21 ?_
      have h2 : c + 0 = r := h2
      rw [Int32.add_zero] at h2
      rw [h2]
      exact hQ
    · rw [if_neg h_5] at h1 h2
      refine rj_iinc1 (d := 1) dX12_ones_8 (by decide) rfl (by decide) ?_
      refine rj_ild2 dX12_ones_11 rfl ?_
      refine rj_ild2 dX12_ones_12 rfl ?_
      refine rj_ic1 dX12_ones_13 ?_
      refine rj_isub dX12_ones_14 ?_
      refine rj_iand dX12_ones_15 ?_
      refine rj_ist2 dX12_ones_16 (by decide) rfl ?_
      refine rj_goto (tgt := 4) dX12_ones_17 (by decide) ?_
      refine ih _ _ h1 ?_
      rw [← h2, ← nI_1, Int32.add_assoc, Int32.add_comm 1]

set_option maxRecDepth 100000 in
theorem c_X12_ones {l : Launch} {X : CX} {σ : ST} {S : Nat} (hS : S < 4096) : MJ l X 0 yX12_ones cX12_ones 3 (some .int) [.int (nI S)] σ (eqI (nI (onN 12 (nI S))) σ) := by
  refine MJ_of (own := RX12) [some (.int (nI S)), none, none] (by decide) rfl (Nat.le_of_ble_eq_true rfl) rfl ?_
  refine rj_ic0 dX12_ones_0 ?_
  refine rj_ist1 dX12_ones_1 (by decide) rfl ?_
  refine rj_ild0 dX12_ones_2 rfl ?_
  refine rj_ist2 dX12_ones_3 (by decide) rfl ?_
  exact l_X12_ones ⟨rfl, rfl⟩ 12 _ _ (on_i hS).1 (Int32.zero_add _)

