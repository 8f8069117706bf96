/-! the reference: show, read -/
theorem low_q : ∀ n, n < 7 → ∀ b, b < 3 → lowB ([8, 16, 64].getD b 0) (nI n - 3).toInt64 = (nI n - 3).toInt64 := by decide +kernel
theorem low_ok {rc c b : Int32} (hr : rc.toInt ≤ 4) (h : okc rc c.toInt) (hb : b = 8 ∨ b = 16 ∨ b = 64) : lowB b c.toInt64 = c.toInt64 := by
  unfold okc at h
  have e3 : (3 : Int32).toInt = 3 := by decide
  have hc : c = nI (c.toInt + 3).toNat - 3 := by
    apply i_inj
    rw [i_sub (by rw [nI_t (by omega), e3]; omega) (by rw [nI_t (by omega), e3]; omega), nI_t (by omega), e3]
    omega
  have := low_q (c.toInt + 3).toNat (by omega)
  rw [← hc] at this
  rcases hb with rfl | rfl | rfl
  · exact this 0 (by omega)
  · exact this 1 (by omega)
  · exact this 2 (by omega)
theorem swR_s (b : Int32) (ys : List Int32) (n i : Nat) (xs : List Int64) : swR b ys (n + 1) i xs = swR b ys n (i + 1) (xs.set i (lowB b (ys.getD i 0).toInt64)) := rfl
set_option maxRecDepth 100000 in
theorem l_X12_show {l : Launch} {X : CX} {h : Nat} {Q : Option Value → ST → Prop} {σ : ST} {A : SA} {p m : Nat} {b t no : Int32} {ys : List Int32} {r : List Int64} (hp : p < 4) (hy : LD σ ys) (hlow : ∀ i, i < ys.length → lowB b (ys.getD i 0).toInt64 = (ys.getD i 0).toInt64) (hm : m = if ys.length < (shT A p).2.length then ys.length else (shT A p).2.length) (h40 : (shT A p).2.length ≤ 40) (hsz : σ.1 124 p = nI (shT A p).2.length) (hQ : ∀ τ, r.length = (shT A p).2.length → (∀ i, i < r.length → τ.2 125 (40 * p + i) = r.getD i 0) → (∀ q, q < 40 * p ∨ 40 * p + 40 ≤ q → τ.2 125 q = σ.2 125 q) → off (fun a => a = 125) σ τ → τ.1 = σ.1 → Q (some (.int (nI m))) τ) : ∀ (N i : Nat) (xs : List Int64) (τ : ST), m < i + N → (i ≤ m ∧ xs.length = (shT A p).2.length ∧ swR b ys (m - i) i xs = r ∧ (∀ i, i < xs.length → τ.2 125 (40 * p + i) = xs.getD i 0) ∧ (∀ q, q < 40 * p ∨ 40 * p + 40 ≤ q → τ.2 125 q = σ.2 125 q) ∧ off (fun a => a = 125) σ τ ∧ τ.1 = σ.1) → RJ (GM l X h Q) X cX12_show 5 (some .int) RX12 60 [some (.ref (ad X 112)), some (.int (nI p)), some (.int t), some (.int no), some (.int (nI i))] [] τ := by
  intro N
  induction N with
  | zero => intro i xs τ hN hi; have := hi.1; exact absurd hN (by omega)
  | succ N ih =>
    intro i xs τ hN hi
    obtain ⟨hi, hxl, hr, hv, hb, ho, h1⟩ := hi
    have hyl := hy.2.1
    have hys : τ.1 112 5 = nI ys.length := by rw [h1]; exact hy.1
    have hyv : ∀ k, k < ys.length → τ.1 115 k = ys.getD k 0 := fun k hk => by rw [h1]; exact hy.2.2 k hk
    have hsz2 : τ.1 124 p = nI (shT A p).2.length := by rw [h1]; exact hsz
    have hml : m ≤ ys.length ∧ m ≤ (shT A p).2.length ∧ (m = ys.length ∨ m = (shT A p).2.length) := by rw [hm]; split <;> omega
    have hit : (nI i).toInt = i := nI_t (by omega)
    have hlt : (nI (shT A p).2.length).toInt = (shT A p).2.length := nI_t (by omega)
    have hyt : (nI ys.length).toInt = ys.length := nI_t (by omega)
    have hpt : (nI p).toInt = p := nI_t (by omega)
    have het : (nI (40 * p + i)).toInt = 40 * p + i := by rw [nI_t (by omega)]; omega
    refine rj_ild dX12_show_60 rfl ?_
    refine rj_ald0 dX12_show_62 rfl ?_
    refine g12_114 dX12_show_63 ?_
    rw [hys]
    refine rj_ic_ge (tgt := 106) dX12_show_66 (by decide) (fun h_66 => ?_) (fun h_66 => ?_)
    · refine rj_ild dX12_show_106 rfl ?_
      refine rj_iret dX12_show_108 ?_
      have hie : i = m := by omega
      rw [show m - i = 0 by omega] at hr
      have hr2 : xs = r := hr
      rw [← hr2] at hQ
      rw [hie]
      exact hQ τ hxl hv hb ho h1
    · refine rj_ild dX12_show_69 rfl ?_
      refine rj_ald0 dX12_show_71 rfl ?_
      refine g12_43 dX12_show_72 ?_
      refine rj_ild1 dX12_show_75 rfl ?_
      refine rj_iald (by first | assumption | rfl) (vpi (by omega) (by show _ < ((4 : Nat) : Int); omega)) dX12_show_76 ?_
      rw [nI_clamp (by omega), hsz2]
      refine rj_ic_ge (tgt := 106) dX12_show_77 (by decide) (fun h_77 => ?_) (fun h_77 => ?_)
      · refine rj_ild dX12_show_106 rfl ?_
        refine rj_iret dX12_show_108 ?_
        have hie : i = m := by omega
        rw [show m - i = 0 by omega] at hr
        have hr2 : xs = r := hr
        rw [← hr2] at hQ
        rw [hie]
        exact hQ τ hxl hv hb ho h1
      · refine rj_ald0 dX12_show_80 rfl ?_
        refine g12_46 dX12_show_81 ?_
        refine rj_bipush (v := 40) dX12_show_84 (by decide) ?_
        refine rj_ild1 dX12_show_86 rfl ?_
        refine rj_imul dX12_show_87 ?_
        refine rj_ild dX12_show_88 rfl ?_
        refine rj_iadd dX12_show_90 ?_
        rw [e40]
        refine rj_ald0 dX12_show_91 rfl ?_
        refine g12_16 dX12_show_92 ?_
        refine rj_ild dX12_show_95 rfl ?_
        refine rj_iald (by first | assumption | rfl) (vpi (by omega) (by show _ < ((24 : Nat) : Int); omega)) dX12_show_97 ?_
        rw [nI_clamp (by omega), hyv i (by omega)]
        refine rj_i2l dX12_show_98 ?_
        refine rj_last (by first | assumption | rfl) (vpi (by omega) (by show _ < ((160 : Nat) : Int); omega)) dX12_show_99 ?_
        rw [nI_clamp (by omega)]
        refine rj_iinc4 (d := 1) dX12_show_100 (by decide) rfl (by decide) ?_
        rw [nI_1]
        refine rj_goto (tgt := 60) dX12_show_103 (by decide) ?_
        rw [show m - i = (m - (i + 1)) + 1 by omega, swR_s, hlow i (by omega)] at hr
        refine ih (i + 1) _ _ (by omega) ⟨by omega, by rw [List.length_set]; exact hxl, hr, fun k hk => ?_, fun q hq => ?_, ho.ul rfl, by rw [ul_1]; exact h1⟩
        · rw [List.length_set] at hk
          rw [ul_at, gd_set64 _ _ _ _ (by omega)]
          by_cases z : k = i
          · rw [if_pos ⟨rfl, by omega⟩, if_pos z]
          · rw [if_neg (by omega), if_neg z]; exact hv k hk
        · rw [ul_at, if_neg (by omega)]; exact hb q hq

set_option maxRecDepth 100000 in
theorem c_X12_show {l : Launch} {X : CX} {σ : ST} {A : SA} (hM : MR σ A) (hw : wf A) {s t : Int32} : MJ l X 4 yX12_show cX12_show 5 (some .int) [.ref (ad X 112), .int s, .int t] σ (OM σ (F_show A s t)) := by
  refine MJ_of (own := RX12) [some (.ref (ad X 112)), some (.int s), some (.int t), none, none] (by decide) rfl (Nat.le_of_ble_eq_true rfl) rfl ?_
  refine rj_ild1 dX12_show_0 rfl ?_
  refine rj_S1i cX12_308 dX12_show_1 c_X12_isSheet (fitM (by decide) (by decide)) (Nat.le_of_ble_eq_true rfl) ?_
  refine rj_if_ne (tgt := 12) dX12_show_4 (by decide) (fun h_4 => ?_) (fun h_4 => ?_)
  · have hb_4 := bz_f h_4
    obtain ⟨p, rfl, hp⟩ := ms_in hb_4
    obtain ⟨g1, g2, g3, g4⟩ := hM.2.2.2.2 p hp
    have hpt : (nI p).toInt = p := nI_t (by omega)
    have hlt : (nI (shT A p).2.length).toInt = (shT A p).2.length := nI_t (by omega)
    refine rj_ald0 dX12_show_12 rfl ?_
    refine g12_40 dX12_show_13 ?_
    refine rj_ild1 dX12_show_16 rfl ?_
    refine rj_iald (by first | assumption | rfl) (vpi (by omega) (by show _ < ((4 : Nat) : Int); omega)) dX12_show_17 ?_
    rw [nI_clamp (by omega), g1]
    refine rj_if_ne (tgt := 27) dX12_show_18 (by decide) (fun h_18 => ?_) (fun h_18 => ?_)
    · refine rj_ald0 dX12_show_27 rfl ?_
      refine rj_ild2 dX12_show_28 rfl ?_
      refine rj_V1i (ci := 12) cX12_85 rfl (by decide) (by first | assumption | rfl) dX12_show_29 (c_X12_isTie hM) (fitM (by decide) (by decide)) (Nat.le_of_ble_eq_true rfl) ?_
      refine rj_if_ne (tgt := 40) dX12_show_32 (by decide) (fun h_32 => ?_) (fun h_32 => ?_)
      · have hb_32 := bz_f h_32
        obtain ⟨j, hv, hj⟩ := mt_in hb_32
        have h12 := (wf_t hw hj).2.2.1
        have h8 := hM.1.2.2.2.1
        refine rj_ic0 dX12_show_40 ?_
        refine rj_ist3 dX12_show_41 (by decide) rfl ?_
        refine rj_ild3 dX12_show_42 rfl ?_
        refine rj_if_eq (tgt := 52) dX12_show_43 (by decide) (fun h_43 => ?_) (fun h_43 => ?_)
        · refine rj_ald0 dX12_show_52 rfl ?_
          refine rj_ild2 dX12_show_53 rfl ?_
          refine rj_V1 (ci := 12) cX12_123 rfl (by decide) (by first | assumption | rfl) dX12_show_54 (c_X12_layTie hM hw hv hj) (fitM (by decide) (by decide)) (Nat.le_of_ble_eq_true rfl) ?_
          rintro v υ ⟨rfl, hx1, hy1, hn1⟩
          simp only [Option.toList, List.nil_append]
          have hly : lyN (fT A j).1 (fT A j).2.length = (lyA A j).length := (ly_len _ _ _).symm
          have hM1 := mr_s hM hn1
          have hl1 := hx1.1
          have hl2 := hx1.2.1
          have hl3 : (nI (lyA A j).length).toInt = (lyA A j).length := nI_t (by omega)
          refine rj_ic0 dX12_show_57 ?_
          refine rj_ist4w dX12_show_58 (by decide) rfl ?_
          have e : F_show A (nI p) t = (nI (shN A p j), sS A p ((shT A p).1, swR (shT A p).1 (lyA A j) (shN A p j) 0 (shT A p).2)) := by unfold F_show; rw [wS_in hpt hp, if_neg h_18, wT_in hv hj]
          rw [e]
          obtain ⟨k1, k2, k3, k4⟩ := hM1.2.2.2.2 p hp
          have hbb : (shT A p).1 = 8 ∨ (shT A p).1 = 16 ∨ (shT A p).1 = 64 := (hw.2.2.2 p hp).1.resolve_left h_18
          have hok := wf_ly hw hj
          refine l_X12_show (m := shN A p j) (b := (shT A p).1) (r := swR (shT A p).1 (lyA A j) (shN A p j) 0 (shT A p).2) hp hx1 (fun i hi => low_ok hw.1.2.1 (okL_get hok hi) hbb) (by unfold shN; rw [hly]) g3 k2 (fun τ a1 a2 a3 a4 a5 => ⟨rfl, ?_⟩) (shN A p j + 1) 0 (shT A p).2 υ (by omega) ⟨by omega, rfl, rfl, k4, fun _ _ => rfl, off.rf, rfl⟩
          have hm := mr_sheet (τ := τ) (b := (shT A p).1) (xs := swR (shT A p).1 (lyA A j) (shN A p j) 0 (shT A p).2) hM1 hp (a4.mono (fun a ha => by rw [show a = 125 from ha]; omega)) (fun s hs hne => ⟨by rw [a5], by rw [a5], fun i hi => a3 _ (by omega)⟩) (by rw [a5]; exact k1) (by rw [a5, a1]; exact k2) (by rw [a1]; exact g3) a2
          exact ⟨hm.1, (mq_md hn1).tr hm.2⟩
        · exact absurd rfl h_43
      · have hb_32 := bz_t h_32
        refine rj_ldc kX12_59 dX12_show_35 ?_
        refine rj_goto (tgt := 41) dX12_show_37 (by decide) ?_
        refine rj_ist3 dX12_show_41 (by decide) rfl ?_
        refine rj_ild3 dX12_show_42 rfl ?_
        refine rj_if_eq (tgt := 52) dX12_show_43 (by decide) (fun h_43 => ?_) (fun h_43 => ?_)
        · exact absurd h_43 (by decide)
        · refine rj_ald0 dX12_show_46 rfl ?_
          refine rj_ild3 dX12_show_47 rfl ?_
          refine rj_V1 (ci := 12) cX12_68 rfl (by decide) rfl dX12_show_48 (c_X12_finds (i := 0) hM (by decide) (by decide)) (fitM (by decide) (by decide)) (Nat.le_of_ble_eq_true rfl) ?_
          rintro v υq ⟨rfl, hq⟩
          simp only [Option.toList, List.cons_append, List.nil_append]
          refine rj_iret dX12_show_51 ?_
          have e : F_show A (nI p) t = fnd A 0 := by unfold F_show; rw [wS_in hpt hp, if_neg h_18, wT_out hb_32]
          rw [e]
          exact ⟨rfl, hq⟩
    · refine rj_ldcw kX12_312 dX12_show_21 ?_
      refine rj_goto (tgt := 41) dX12_show_24 (by decide) ?_
      refine rj_ist3 dX12_show_41 (by decide) rfl ?_
      refine rj_ild3 dX12_show_42 rfl ?_
      refine rj_if_eq (tgt := 52) dX12_show_43 (by decide) (fun h_43 => ?_) (fun h_43 => ?_)
      · exact absurd h_43 (by decide)
      · refine rj_ald0 dX12_show_46 rfl ?_
        refine rj_ild3 dX12_show_47 rfl ?_
        refine rj_V1 (ci := 12) cX12_68 rfl (by decide) rfl dX12_show_48 (c_X12_finds (i := 5) hM (by decide) (by decide)) (fitM (by decide) (by decide)) (Nat.le_of_ble_eq_true rfl) ?_
        rintro v υq ⟨rfl, hq⟩
        simp only [Option.toList, List.cons_append, List.nil_append]
        refine rj_iret dX12_show_51 ?_
        have e : F_show A (nI p) t = fnd A 5 := by unfold F_show; rw [wS_in hpt hp, if_pos h_18]
        rw [e]
        exact ⟨rfl, hq⟩
  · have hb_4 := bz_t h_4
    refine rj_ldc kX12_59 dX12_show_7 ?_
    refine rj_goto (tgt := 41) dX12_show_9 (by decide) ?_
    refine rj_ist3 dX12_show_41 (by decide) rfl ?_
    refine rj_ild3 dX12_show_42 rfl ?_
    refine rj_if_eq (tgt := 52) dX12_show_43 (by decide) (fun h_43 => ?_) (fun h_43 => ?_)
    · exact absurd h_43 (by decide)
    · refine rj_ald0 dX12_show_46 rfl ?_
      refine rj_ild3 dX12_show_47 rfl ?_
      refine rj_V1 (ci := 12) cX12_68 rfl (by decide) rfl dX12_show_48 (c_X12_finds (i := 0) hM (by decide) (by decide)) (fitM (by decide) (by decide)) (Nat.le_of_ble_eq_true rfl) ?_
      rintro v υq ⟨rfl, hq⟩
      simp only [Option.toList, List.cons_append, List.nil_append]
      refine rj_iret dX12_show_51 ?_
      have e : F_show A s t = fnd A 0 := by unfold F_show; rw [wS_out hb_4]
      rw [e]
      exact ⟨rfl, hq⟩

theorem fitD {xs : List Int64} {ys : List Int32} (h : sgL xs) {i : Nat} (hi : i < xs.length) : (xs.getD i 0 = 0 ∨ xs.getD i 0 = (sg (ys.getD i 0)).toInt64) ↔ ((xs.getD i 0).toInt = 0 ∨ (0 < (xs.getD i 0).toInt ↔ 0 < (ys.getD i 0).toInt)) := by
  have hb := h i hi
  have z0 : (0 : Int64).toInt = 0 := by decide
  have z1 : (1 : Int32).toInt64.toInt = 1 := by decide
  have z2 : (-1 : Int32).toInt64.toInt = -1 := by decide
  have inj : ∀ a b : Int64, a.toInt = b.toInt → a = b := fun a b q => Int64.toInt_inj.mp q
  unfold sg
  constructor
  · rintro (z | z)
    · left; rw [z, z0]
    · right
      by_cases y : 0 < (ys.getD i 0).toInt
      · rw [if_pos y] at z; rw [z, z1]; omega
      · rw [if_neg y] at z; rw [z, z2]; omega
  · rintro (z | z)
    · left; exact inj _ _ (by rw [z, z0])
    · by_cases q : (xs.getD i 0).toInt = 0
      · left; exact inj _ _ (by rw [q, z0])
      · right
        by_cases y : 0 < (ys.getD i 0).toInt
        · rw [if_pos y]; exact inj _ _ (by rw [z1]; omega)
        · rw [if_neg y]; exact inj _ _ (by rw [z2]; omega)
set_option maxRecDepth 100000 in
theorem l_X12_fitE {l : Launch} {X : CX} {h : Nat} {Q : Option Value → ST → Prop} {σ : ST} {p : Nat} {k : Int32} {y : Option Value} : Q (some (.int 0)) σ → RJ (GM l X h Q) X cX12_fits 6 (some .boolean) RX12 21 [some (.ref (ad X 112)), some (.int (nI p)), some (.int 0), some (.int k), y, none] [] σ := by
  intro hk
  refine rj_ild2 dX12_fits_21 rfl ?_
  refine rj_if_eq (tgt := 94) dX12_fits_22 (by decide) (fun h_22 => ?_) (fun h_22 => ?_)
  · refine rj_ild2 dX12_fits_94 rfl ?_
    refine rj_zret dX12_fits_95 (rfl) ?_
    exact hk
  · exact absurd rfl h_22

set_option maxRecDepth 100000 in
theorem l_X12_fits {l : Launch} {X : CX} {h : Nat} {Q : Option Value → ST → Prop} {σ : ST} {A : SA} {p : Nat} {ys : List Int32} (hp : p < 4) (hM : MR σ A) (hy : LD σ ys) (hl : ys.length = (shT A p).2.length) (hsg : sgL (shT A p).2) (hQ1 : fitA (shT A p).2 ys → Q (some (.int 1)) σ) (hQ0 : ¬ fitA (shT A p).2 ys → Q (some (.int 0)) σ) : ∀ (N i : Nat) (y : Option Value), ys.length < i + N → (i ≤ ys.length ∧ ∀ q, q < i → ((shT A p).2.getD q 0 = 0 ∨ (shT A p).2.getD q 0 = (sg (ys.getD q 0)).toInt64)) → RJ (GM l X h Q) X cX12_fits 6 (some .boolean) RX12 21 [some (.ref (ad X 112)), some (.int (nI p)), some (.int 1), some (.int (nI i)), y, none] [] σ := by
  intro N
  induction N with
  | zero => intro i y hN hi; have := hi.1; exact absurd hN (by omega)
  | succ N ih =>
    intro i y hN hi
    obtain ⟨hi, hv⟩ := hi
    obtain ⟨g1, g2, g3, g4⟩ := hM.2.2.2.2 p hp
    have hyl := hy.2.1
    have hit : (nI i).toInt = i := nI_t (by omega)
    have hyt : (nI ys.length).toInt = ys.length := nI_t (by omega)
    have z0 : (0 : Int64).toInt = 0 := by decide
    have het : (nI (40 * p + i)).toInt = 40 * p + i := by rw [nI_t (by omega)]; omega
    refine rj_ild2 dX12_fits_21 rfl ?_
    refine rj_if_eq (tgt := 94) dX12_fits_22 (by decide) (fun h_22 => ?_) (fun h_22 => ?_)
    · exact absurd h_22 (by decide)
    · refine rj_ild3 dX12_fits_25 rfl ?_
      refine rj_ald0 dX12_fits_26 rfl ?_
      refine g12_114 dX12_fits_27 ?_
      rw [hy.1]
      refine rj_ic_ge (tgt := 94) dX12_fits_30 (by decide) (fun h_30 => ?_) (fun h_30 => ?_)
      · refine rj_ild2 dX12_fits_94 rfl ?_
        refine rj_zret dX12_fits_95 (rfl) ?_
        exact hQ1 ⟨hl.symm, fun q hq => hv q (by omega)⟩
      · refine rj_ald0 dX12_fits_33 rfl ?_
        refine g12_46 dX12_fits_34 ?_
        refine rj_bipush (v := 40) dX12_fits_37 (by decide) ?_
        refine rj_ild1 dX12_fits_39 rfl ?_
        refine rj_imul dX12_fits_40 ?_
        refine rj_ild3 dX12_fits_41 rfl ?_
        refine rj_iadd dX12_fits_42 ?_
        rw [e40]
        refine rj_lald (by first | assumption | rfl) (vpi (by omega) (by show _ < ((160 : Nat) : Int); omega)) dX12_fits_43 ?_
        rw [nI_clamp (by omega), g4 i (by omega)]
        refine rj_lst4w dX12_fits_44 (by decide) rfl ?_
        refine rj_lld dX12_fits_46 rfl ?_
        refine rj_lc0 dX12_fits_48 ?_
        refine rj_lcmp dX12_fits_49 ?_
        refine rj_if_eq (tgt := 82) dX12_fits_50 (by decide) (fun h_50 => ?_) (fun h_50 => ?_)
        · have h50 : ((shT A p).2.getD i 0).toInt = 0 := by rw [lcm_0.mp h_50, z0]
          refine rj_ic1 dX12_fits_82 ?_
          refine rj_goto (tgt := 87) dX12_fits_83 (by decide) ?_
          refine rj_ist2 dX12_fits_87 (by decide) rfl ?_
          refine rj_iinc3 (d := 1) dX12_fits_88 (by decide) rfl (by decide) ?_
          rw [nI_1]
          refine rj_goto (tgt := 21) dX12_fits_91 (by decide) ?_
          refine ih (i + 1) _ (by omega) ⟨by omega, fun q hq => ?_⟩
          by_cases z : q = i
          · rw [z]; exact (fitD hsg (by omega)).mpr (Or.inl h50)
          · exact hv q (by omega)
        · have h50 : ¬ ((shT A p).2.getD i 0).toInt = 0 := fun z => h_50 (lcm_0.mpr (by rw [z, z0]))
          refine rj_lld dX12_fits_53 rfl ?_
          refine rj_lc0 dX12_fits_55 ?_
          refine rj_lcmp dX12_fits_56 ?_
          refine rj_if_le (tgt := 64) dX12_fits_57 (by decide) (fun h_57 => ?_) (fun h_57 => ?_)
          · have h57 := lcm_le.mp h_57
            rw [z0] at h57
            refine rj_ic0 dX12_fits_64 ?_
            refine rj_ald0 dX12_fits_65 rfl ?_
            refine g12_16 dX12_fits_66 ?_
            refine rj_ild3 dX12_fits_69 rfl ?_
            refine rj_iald (by first | assumption | rfl) (vpi (by omega) (by show _ < ((24 : Nat) : Int); omega)) dX12_fits_70 ?_
            rw [nI_clamp (by omega), hy.2.2 i (by omega)]
            refine rj_if_le (tgt := 78) dX12_fits_71 (by decide) (fun h_71 => ?_) (fun h_71 => ?_)
            · refine rj_ic0 dX12_fits_78 ?_
              refine rj_ic_ne (tgt := 86) dX12_fits_79 (by decide) (fun h_79 => ?_) (fun h_79 => ?_)
              · exact absurd rfl h_79
              · refine rj_ic1 dX12_fits_82 ?_
                refine rj_goto (tgt := 87) dX12_fits_83 (by decide) ?_
                refine rj_ist2 dX12_fits_87 (by decide) rfl ?_
                refine rj_iinc3 (d := 1) dX12_fits_88 (by decide) rfl (by decide) ?_
                rw [nI_1]
                refine rj_goto (tgt := 21) dX12_fits_91 (by decide) ?_
                refine ih (i + 1) _ (by omega) ⟨by omega, fun q hq => ?_⟩
                by_cases z : q = i
                · rw [z]; exact (fitD hsg (by omega)).mpr (Or.inr (by omega))
                · exact hv q (by omega)
            · refine rj_ic1 dX12_fits_74 ?_
              refine rj_goto (tgt := 79) dX12_fits_75 (by decide) ?_
              refine rj_ic_ne (tgt := 86) dX12_fits_79 (by decide) (fun h_79 => ?_) (fun h_79 => ?_)
              · refine rj_ic0 dX12_fits_86 ?_
                refine rj_ist2 dX12_fits_87 (by decide) rfl ?_
                refine rj_iinc3 (d := 1) dX12_fits_88 (by decide) rfl (by decide) ?_
                rw [nI_1]
                refine rj_goto (tgt := 21) dX12_fits_91 (by decide) ?_
                have k := l_X12_fitE (l := l) (X := X) (h := h) (p := p) (k := nI (i + 1)) (y := some (.long ((shT A p).2.getD i 0))) (hQ0 (fun z => ?_))
                · exact k
                · exact absurd ((fitD hsg (show i < (shT A p).2.length by omega)).mp (z.2 i (by omega))) (fun y => y.elim h50 (fun u => by omega))
              · exact absurd h_79 (by decide)
          · have h57 := lcm_gt h_57
            rw [z0] at h57
            refine rj_ic1 dX12_fits_60 ?_
            refine rj_goto (tgt := 65) dX12_fits_61 (by decide) ?_
            refine rj_ald0 dX12_fits_65 rfl ?_
            refine g12_16 dX12_fits_66 ?_
            refine rj_ild3 dX12_fits_69 rfl ?_
            refine rj_iald (by first | assumption | rfl) (vpi (by omega) (by show _ < ((24 : Nat) : Int); omega)) dX12_fits_70 ?_
            rw [nI_clamp (by omega), hy.2.2 i (by omega)]
            refine rj_if_le (tgt := 78) dX12_fits_71 (by decide) (fun h_71 => ?_) (fun h_71 => ?_)
            · refine rj_ic0 dX12_fits_78 ?_
              refine rj_ic_ne (tgt := 86) dX12_fits_79 (by decide) (fun h_79 => ?_) (fun h_79 => ?_)
              · refine rj_ic0 dX12_fits_86 ?_
                refine rj_ist2 dX12_fits_87 (by decide) rfl ?_
                refine rj_iinc3 (d := 1) dX12_fits_88 (by decide) rfl (by decide) ?_
                rw [nI_1]
                refine rj_goto (tgt := 21) dX12_fits_91 (by decide) ?_
                have k := l_X12_fitE (l := l) (X := X) (h := h) (p := p) (k := nI (i + 1)) (y := some (.long ((shT A p).2.getD i 0))) (hQ0 (fun z => ?_))
                · exact k
                · exact absurd ((fitD hsg (show i < (shT A p).2.length by omega)).mp (z.2 i (by omega))) (fun y => y.elim h50 (fun u => by omega))
              · exact absurd h_79 (by decide)
            · refine rj_ic1 dX12_fits_74 ?_
              refine rj_goto (tgt := 79) dX12_fits_75 (by decide) ?_
              refine rj_ic_ne (tgt := 86) dX12_fits_79 (by decide) (fun h_79 => ?_) (fun h_79 => ?_)
              · exact absurd rfl h_79
              · refine rj_ic1 dX12_fits_82 ?_
                refine rj_goto (tgt := 87) dX12_fits_83 (by decide) ?_
                refine rj_ist2 dX12_fits_87 (by decide) rfl ?_
                refine rj_iinc3 (d := 1) dX12_fits_88 (by decide) rfl (by decide) ?_
                rw [nI_1]
                refine rj_goto (tgt := 21) dX12_fits_91 (by decide) ?_
                refine ih (i + 1) _ (by omega) ⟨by omega, fun q hq => ?_⟩
                by_cases z : q = i
                · rw [z]; exact (fitD hsg (by omega)).mpr (Or.inr (by omega))
                · exact hv q (by omega)

set_option maxRecDepth 100000 in
theorem c_X12_fits {l : Launch} {X : CX} {σ : ST} {A : SA} {p : Nat} {ys : List Int32} (hp : p < 4) (hM : MR σ A) (hy : LD σ ys) (hsg : sgL (shT A p).2) : MJ l X 0 yX12_fits cX12_fits 6 (some .boolean) [.ref (ad X 112), .int (nI p)] σ (eqI (if fitA (shT A p).2 ys then 1 else 0) σ) := by
  refine MJ_of (own := RX12) [some (.ref (ad X 112)), some (.int (nI p)), none, none, none, none] (by decide) rfl (Nat.le_of_ble_eq_true rfl) rfl ?_
  obtain ⟨g1, g2, g3, g4⟩ := hM.2.2.2.2 p hp
  have hyl := hy.2.1
  have hpt : (nI p).toInt = p := nI_t (by omega)
  refine rj_ald0 dX12_fits_0 rfl ?_
  refine g12_114 dX12_fits_1 ?_
  rw [hy.1]
  refine rj_ald0 dX12_fits_4 rfl ?_
  refine g12_43 dX12_fits_5 ?_
  refine rj_ild1 dX12_fits_8 rfl ?_
  refine rj_iald (by first | assumption | rfl) (vpi (by omega) (by show _ < ((4 : Nat) : Int); omega)) dX12_fits_9 ?_
  rw [nI_clamp (by omega), g2]
  refine rj_ic_ne (tgt := 17) dX12_fits_10 (by decide) (fun h_10 => ?_) (fun h_10 => ?_)
  · refine rj_ic0 dX12_fits_17 ?_
    refine rj_ist2 dX12_fits_18 (by decide) rfl ?_
    refine rj_ic0 dX12_fits_19 ?_
    refine rj_ist3 dX12_fits_20 (by decide) rfl ?_
    exact l_X12_fitE (l := l) (by rw [if_neg (fun z => h_10 (by rw [z.1]))]; exact ⟨rfl, rfl⟩)
  · refine rj_ic1 dX12_fits_13 ?_
    refine rj_goto (tgt := 18) dX12_fits_14 (by decide) ?_
    refine rj_ist2 dX12_fits_18 (by decide) rfl ?_
    refine rj_ic0 dX12_fits_19 ?_
    refine rj_ist3 dX12_fits_20 (by decide) rfl ?_
    exact l_X12_fits hp hM hy (nI_ij (by omega) (by omega) h_10) hsg (fun z => by rw [if_pos z]; exact ⟨rfl, rfl⟩) (fun z => by rw [if_neg z]; exact ⟨rfl, rfl⟩) (ys.length + 1) 0 _ (by omega) ⟨by omega, fun q hq => absurd hq (by omega)⟩

theorem rdR_s (A : SA) (xs : List Int64) (n k : Nat) (a : Int32) : rdR A xs (n + 1) k a = rdR A xs n (k + 1) (if fitA xs (lyA A k) then a ||| (1 <<< (nI k &&& 31)) else a) := rfl
theorem m2 : (-2 : Int64).toInt = -2 := by decide
theorem p2 : (2 : Int64).toInt = 2 := by decide
set_option maxRecDepth 100000 in
theorem l_X12_rdA {l : Launch} {X : CX} {h : Nat} {Q : Option Value → ST → Prop} {σ : ST} {A : SA} {p : Nat} (hp : p < 4) (hM : MR σ A) (hNo : ¬ sgL (shT A p).2 → ∀ y, RJ (GM l X h Q) X cX12_read 6 (some .int) RX12 96 [some (.ref (ad X 112)), some (.int (nI p)), some (.int 0), some (.int (nI (shT A p).2.length)), y, none] [] σ) (hY : sgL (shT A p).2 → ∀ y, RJ (GM l X h Q) X cX12_read 6 (some .int) RX12 103 [some (.ref (ad X 112)), some (.int (nI p)), some (.int 1), some (.int (nI (shT A p).2.length)), y, none] [] σ) : ∀ (N i : Nat) (y : Option Value), (shT A p).2.length < i + N → i ≤ (shT A p).2.length → RJ (GM l X h Q) X cX12_read 6 (some .int) RX12 35 [some (.ref (ad X 112)), some (.int (nI p)), some (.int (if (∀ q, q < i → (-1 ≤ ((shT A p).2.getD q 0).toInt ∧ ((shT A p).2.getD q 0).toInt ≤ 1)) then 1 else 0)), some (.int (nI i)), y, none] [] σ := by
  intro N
  induction N with
  | zero => intro i y hN hi; exact absurd hN (by omega)
  | succ N ih =>
    intro i y hN hi
    obtain ⟨g1, g2, g3, g4⟩ := hM.2.2.2.2 p hp
    have hit : (nI i).toInt = i := nI_t (by omega)
    have hlt : (nI (shT A p).2.length).toInt = (shT A p).2.length := nI_t (by omega)
    have hpt : (nI p).toInt = p := nI_t (by omega)
    have z4 := m2
    have z5 := p2
    have het : (nI (40 * p + i)).toInt = 40 * p + i := by rw [nI_t (by omega)]; omega
    refine rj_ild3 dX12_read_35 rfl ?_
    refine rj_ald0 dX12_read_36 rfl ?_
    refine g12_43 dX12_read_37 ?_
    refine rj_ild1 dX12_read_40 rfl ?_
    refine rj_iald (by first | assumption | rfl) (vpi (by omega) (by show _ < ((4 : Nat) : Int); omega)) dX12_read_41 ?_
    rw [nI_clamp (by omega), g2]
    refine rj_ic_ge (tgt := 92) dX12_read_42 (by decide) (fun h_42 => ?_) (fun h_42 => ?_)
    · refine rj_ild2 dX12_read_92 rfl ?_
      refine rj_if_ne (tgt := 103) dX12_read_93 (by decide) (fun h_93 => ?_) (fun h_93 => ?_)
      · have hb_93 := bz_f h_93
        rw [show i = (shT A p).2.length by omega] at hb_93 ⊢
        rw [if_pos hb_93]
        exact hY hb_93 y
      · have hb_93 := bz_t h_93
        rw [show i = (shT A p).2.length by omega] at hb_93 ⊢
        rw [if_neg hb_93]
        exact hNo hb_93 y
    · refine rj_ald0 dX12_read_45 rfl ?_
      refine g12_46 dX12_read_46 ?_
      refine rj_bipush (v := 40) dX12_read_49 (by decide) ?_
      refine rj_ild1 dX12_read_51 rfl ?_
      refine rj_imul dX12_read_52 ?_
      refine rj_ild3 dX12_read_53 rfl ?_
      refine rj_iadd dX12_read_54 ?_
      rw [e40]
      refine rj_lald (by first | assumption | rfl) (vpi (by omega) (by show _ < ((160 : Nat) : Int); omega)) dX12_read_55 ?_
      rw [nI_clamp (by omega), g4 _ (by omega)]
      refine rj_lst4w dX12_read_56 (by decide) rfl ?_
      refine rj_ild2 dX12_read_58 rfl ?_
      refine rj_if_eq (tgt := 84) dX12_read_59 (by decide) (fun h_59 => ?_) (fun h_59 => ?_)
      · have hb_59 := bz_t h_59
        refine rj_ic0 dX12_read_84 ?_
        refine rj_ist2 dX12_read_85 (by decide) rfl ?_
        refine rj_iinc3 (d := 1) dX12_read_86 (by decide) rfl (by decide) ?_
        rw [nI_1]
        refine rj_goto (tgt := 35) dX12_read_89 (by decide) ?_
        have k := ih (i + 1) (some (.long ((shT A p).2.getD i 0))) (by omega) (by omega)
        rw [if_neg (fun z => hb_59 (fun q hq => z q (by omega)))] at k
        exact k
      · have hb_59 := bz_f h_59
        refine rj_lld dX12_read_62 rfl ?_
        refine rj_ldc2 kX12_324 dX12_read_64 ?_
        refine rj_lcmp dX12_read_67 ?_
        refine rj_if_le (tgt := 84) dX12_read_68 (by decide) (fun h_68 => ?_) (fun h_68 => ?_)
        · have h68 := lcm_le.mp h_68
          rw [z4] at h68
          refine rj_ic0 dX12_read_84 ?_
          refine rj_ist2 dX12_read_85 (by decide) rfl ?_
          refine rj_iinc3 (d := 1) dX12_read_86 (by decide) rfl (by decide) ?_
          rw [nI_1]
          refine rj_goto (tgt := 35) dX12_read_89 (by decide) ?_
          have k := ih (i + 1) (some (.long ((shT A p).2.getD i 0))) (by omega) (by omega)
          rw [if_neg (fun z => by have := z i (by omega); omega)] at k
          exact k
        · have h68 := lcm_gt h_68
          rw [z4] at h68
          refine rj_lld dX12_read_71 rfl ?_
          refine rj_ldc2 kX12_326 dX12_read_73 ?_
          refine rj_lcmp dX12_read_76 ?_
          refine rj_if_ge (tgt := 84) dX12_read_77 (by decide) (fun h_77 => ?_) (fun h_77 => ?_)
          · have h77 := lcm_ge.mp h_77
            rw [z5] at h77
            refine rj_ic0 dX12_read_84 ?_
            refine rj_ist2 dX12_read_85 (by decide) rfl ?_
            refine rj_iinc3 (d := 1) dX12_read_86 (by decide) rfl (by decide) ?_
            rw [nI_1]
            refine rj_goto (tgt := 35) dX12_read_89 (by decide) ?_
            have k := ih (i + 1) (some (.long ((shT A p).2.getD i 0))) (by omega) (by omega)
            rw [if_neg (fun z => by have := z i (by omega); omega)] at k
            exact k
          · have h77 := lcm_lt h_77
            rw [z5] at h77
            refine rj_ic1 dX12_read_80 ?_
            refine rj_goto (tgt := 85) dX12_read_81 (by decide) ?_
            refine rj_ist2 dX12_read_85 (by decide) rfl ?_
            refine rj_iinc3 (d := 1) dX12_read_86 (by decide) rfl (by decide) ?_
            rw [nI_1]
            refine rj_goto (tgt := 35) dX12_read_89 (by decide) ?_
            have k := ih (i + 1) (some (.long ((shT A p).2.getD i 0))) (by omega) (by omega)
            rw [if_pos (all_s hb_59 (by omega))] at k
            exact k

set_option maxRecDepth 100000 in
theorem l_X12_rdN {l : Launch} {X : CX} {h : Nat} {Q : Option Value → ST → Prop} {σ : ST} {A : SA} {p : Nat} {k : Int32} {y : Option Value} (hM : MR σ A) (hQ : ∀ v τ, OM σ (fnd A 4) v τ → Q v τ) (hh : 1 ≤ h) :  RJ (GM l X h Q) X cX12_read 6 (some .int) RX12 96 [some (.ref (ad X 112)), some (.int (nI p)), some (.int 0), some (.int k), y, none] [] σ := by

  refine rj_ald0 dX12_read_96 rfl ?_
  refine rj_ldc kX12_72 dX12_read_97 ?_
  refine rj_V1 (ci := 12) cX12_68 rfl (by decide) rfl dX12_read_99 (c_X12_finds (i := 4) hM (by decide) (by decide)) (fitM (by omega) (by decide)) (Nat.le_of_ble_eq_true rfl) ?_
  rintro v υq ⟨rfl, hq⟩
  simp only [Option.toList, List.cons_append, List.nil_append]
  refine rj_iret dX12_read_102 ?_
  exact hQ _ _ ⟨rfl, hq⟩

set_option maxRecDepth 100000 in
theorem l_X12_rdB {l : Launch} {X : CX} {h : Nat} {Q : Option Value → ST → Prop} {σ : ST} {A : SA} {p : Nat} {c : Int32} (hh : 4 ≤ h) (hp : p < 4) (hw : wf A) (hM : MR σ A) (hsg : sgL (shT A p).2) {r : Int32} (hQ : ∀ τ, mq σ τ → Q (some (.int r)) τ) : ∀ (N i : Nat) (τ : ST) (a : Int32), A.2.1.2.2.length < i + N → (i ≤ A.2.1.2.2.length ∧ mq σ τ ∧ rdR A (shT A p).2 (A.2.1.2.2.length - i) i a = r) → RJ (GM l X h Q) X cX12_read 6 (some .int) RX12 108 [some (.ref (ad X 112)), some (.int (nI p)), some (.int c), some (.int a), some (.int (nI i)), none] [] τ := by
  intro N
  induction N with
  | zero => intro i τ a hN hi; have := hi.1; exact absurd hN (by omega)
  | succ N ih =>
    intro i τ a hN hi
    obtain ⟨hi, ho, hr⟩ := hi
    have hM1 := mr_s hM ho
    have h1 := hM1.1.2.1
    have h8 := hM1.1.2.2.2.1
    have hit : (nI i).toInt = i := nI_t (by omega)
    have hlt : (nI A.2.1.2.2.length).toInt = A.2.1.2.2.length := nI_t (by omega)
    refine rj_ild dX12_read_108 rfl ?_
    refine rj_ald0 dX12_read_110 rfl ?_
    refine g12_7 dX12_read_111 ?_
    refine rj_ic1 dX12_read_114 ?_
    refine rj_iald (by first | assumption | rfl) (vpi (by decide) (by decide)) dX12_read_115 ?_
    rw [show (1 : Int32).toNatClampNeg = 1 from rfl, h1]
    refine rj_ic_ge (tgt := 150) dX12_read_116 (by decide) (fun h_116 => ?_) (fun h_116 => ?_)
    · refine rj_ild3 dX12_read_150 rfl ?_
      refine rj_iret dX12_read_151 ?_
      rw [show A.2.1.2.2.length - i = 0 by omega] at hr
      have hr2 : a = r := hr
      rw [hr2]
      exact hQ τ ho
    · refine rj_ald0 dX12_read_119 rfl ?_
      refine rj_ild dX12_read_120 rfl ?_
      refine rj_V1 (ci := 12) cX12_123 rfl (by decide) (by first | assumption | rfl) dX12_read_122 (c_X12_layTie hM1 hw hit (by omega)) (fitM (by omega) (by decide)) (Nat.le_of_ble_eq_true rfl) ?_
      rintro v υ ⟨rfl, hx1, hy1, hn1⟩
      simp only [Option.toList, List.nil_append]
      have hM2 := mr_s hM1 hn1
      rw [show A.2.1.2.2.length - i = (A.2.1.2.2.length - (i + 1)) + 1 by omega, rdR_s] at hr
      refine rj_ild3 dX12_read_125 rfl ?_
      refine rj_ald0 dX12_read_126 rfl ?_
      refine rj_ild1 dX12_read_127 rfl ?_
      refine rj_V1i (ci := 12) cX12_328 rfl (by decide) (by first | assumption | rfl) dX12_read_128 (c_X12_fits hp hM2 hx1 hsg) (fitM (by omega) (by decide)) (Nat.le_of_ble_eq_true rfl) ?_
      refine rj_if_eq (tgt := 141) dX12_read_131 (by decide) (fun h_131 => ?_) (fun h_131 => ?_)
      · have hb_131 := bz_t h_131
        refine rj_ic0 dX12_read_141 ?_
        refine rj_ior dX12_read_142 ?_
        refine rj_ist3 dX12_read_143 (by decide) rfl ?_
        refine rj_iinc4 (d := 1) dX12_read_144 (by decide) rfl (by decide) ?_
        rw [nI_1]
        refine rj_goto (tgt := 108) dX12_read_147 (by decide) ?_
        rw [if_neg hb_131] at hr
        rw [Int32.or_zero]
        exact ih (i + 1) υ _ (by omega) ⟨by omega, mq_tr ho hn1, hr⟩
      · have hb_131 := bz_f h_131
        refine rj_ic1 dX12_read_134 ?_
        refine rj_ild dX12_read_135 rfl ?_
        refine rj_ishl dX12_read_137 ?_
        refine rj_goto (tgt := 142) dX12_read_138 (by decide) ?_
        refine rj_ior dX12_read_142 ?_
        refine rj_ist3 dX12_read_143 (by decide) rfl ?_
        refine rj_iinc4 (d := 1) dX12_read_144 (by decide) rfl (by decide) ?_
        rw [nI_1]
        refine rj_goto (tgt := 108) dX12_read_147 (by decide) ?_
        rw [if_pos hb_131] at hr
        exact ih (i + 1) υ _ (by omega) ⟨by omega, mq_tr ho hn1, hr⟩

set_option maxRecDepth 100000 in
theorem l_X12_rdC {l : Launch} {X : CX} {G : GT} {p : Nat} {k c : Int32} {y : Option Value} {τ : ST} : RJ G X cX12_read 6 (some .int) RX12 108 [some (.ref (ad X 112)), some (.int (nI p)), some (.int c), some (.int 0), some (.int (nI 0)), none] [] τ → RJ (G) X cX12_read 6 (some .int) RX12 103 [some (.ref (ad X 112)), some (.int (nI p)), some (.int c), some (.int k), y, none] [] τ := by
  intro hk
  refine rj_ic0 dX12_read_103 ?_
  refine rj_ist3 dX12_read_104 (by decide) rfl ?_
  refine rj_ic0 dX12_read_105 ?_
  refine rj_ist4w dX12_read_106 (by decide) rfl ?_
  exact hk

set_option maxRecDepth 100000 in
theorem c_X12_read {l : Launch} {X : CX} {σ : ST} {A : SA} (hM : MR σ A) (hw : wf A) {s : Int32} : MJ l X 4 yX12_read cX12_read 6 (some .int) [.ref (ad X 112), .int s] σ (OM σ (F_read A s)) := by
  refine MJ_of (own := RX12) [some (.ref (ad X 112)), some (.int s), none, none, none, none] (by decide) rfl (Nat.le_of_ble_eq_true rfl) rfl ?_
  refine rj_ild1 dX12_read_0 rfl ?_
  refine rj_S1i cX12_308 dX12_read_1 c_X12_isSheet (fitM (by decide) (by decide)) (Nat.le_of_ble_eq_true rfl) ?_
  refine rj_if_ne (tgt := 14) dX12_read_4 (by decide) (fun h_4 => ?_) (fun h_4 => ?_)
  · have hb_4 := bz_f h_4
    obtain ⟨p, rfl, hp⟩ := ms_in hb_4
    obtain ⟨g1, g2, g3, g4⟩ := hM.2.2.2.2 p hp
    have hpt : (nI p).toInt = p := nI_t (by omega)
    have hlt : (nI (shT A p).2.length).toInt = (shT A p).2.length := nI_t (by omega)
    refine rj_ald0 dX12_read_14 rfl ?_
    refine g12_40 dX12_read_15 ?_
    refine rj_ild1 dX12_read_18 rfl ?_
    refine rj_iald (by first | assumption | rfl) (vpi (by omega) (by show _ < ((4 : Nat) : Int); omega)) dX12_read_19 ?_
    rw [nI_clamp (by omega), g1]
    refine rj_if_ne (tgt := 31) dX12_read_20 (by decide) (fun h_20 => ?_) (fun h_20 => ?_)
    · refine rj_ic1 dX12_read_31 ?_
      refine rj_ist2 dX12_read_32 (by decide) rfl ?_
      refine rj_ic0 dX12_read_33 ?_
      refine rj_ist3 dX12_read_34 (by decide) rfl ?_
      have e : F_read A (nI p) = if sgL (shT A p).2 then (rdR A (shT A p).2 A.2.1.2.2.length 0 0, A) else fnd A 4 := by unfold F_read; rw [wS_in hpt hp, if_neg h_20]
      rw [e]
      have k := l_X12_rdA (l := l) (X := X) (h := 4) (Q := OM σ (if sgL (shT A p).2 then (rdR A (shT A p).2 A.2.1.2.2.length 0 0, A) else fnd A 4)) hp hM (fun hn y => ?_) (fun hy y => ?_) ((shT A p).2.length + 1) 0 none (by omega) (by omega)
      · rw [ite_0] at k
        exact k
      · rw [if_neg hn]
        exact l_X12_rdN hM (fun v τ h => h) (by decide)
      · rw [if_pos hy]
        exact l_X12_rdC (l := l) (l_X12_rdB (by decide) hp hw hM hy (fun τ h => ⟨rfl, mr_s hM h, mq_md h⟩) (A.2.1.2.2.length + 1) 0 σ 0 (by omega) ⟨by omega, mq_rf, rfl⟩)
    · refine rj_ald0 dX12_read_23 rfl ?_
      refine rj_ldcw kX12_312 dX12_read_24 ?_
      refine rj_V1 (ci := 12) cX12_68 rfl (by decide) rfl dX12_read_27 (c_X12_finds (i := 5) hM (by decide) (by decide)) (fitM (by decide) (by decide)) (Nat.le_of_ble_eq_true rfl) ?_
      rintro v υq ⟨rfl, hq⟩
      simp only [Option.toList, List.cons_append, List.nil_append]
      refine rj_iret dX12_read_30 ?_
      have e : F_read A (nI p) = fnd A 5 := by unfold F_read; rw [wS_in hpt hp, if_pos h_20]
      rw [e]
      exact ⟨rfl, hq⟩
  · have hb_4 := bz_t h_4
    refine rj_ald0 dX12_read_7 rfl ?_
    refine rj_ldc kX12_59 dX12_read_8 ?_
    refine rj_V1 (ci := 12) cX12_68 rfl (by decide) rfl dX12_read_10 (c_X12_finds (i := 0) hM (by decide) (by decide)) (fitM (by decide) (by decide)) (Nat.le_of_ble_eq_true rfl) ?_
    rintro v υq ⟨rfl, hq⟩
    simp only [Option.toList, List.cons_append, List.nil_append]
    refine rj_iret dX12_read_13 ?_
    have e : F_read A s = fnd A 0 := by unfold F_read; rw [wS_out hb_4]
    rw [e]
    exact ⟨rfl, hq⟩

