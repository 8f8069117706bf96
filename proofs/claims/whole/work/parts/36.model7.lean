/-! the reference: what a kind lays -/
theorem lc_ref {k rc c : Int32} (h : ¬ c.toInt = 0) : (if k = 5 then (if c.toInt < 0 then rc + c else c - rc) else if k = 1 ∨ k = 4 then -1 * c else 1 * c) = lc k rc c := by
  unfold lc
  by_cases h5 : k = 5
  · have hn : ¬ (k = 1 ∨ k = 4) := by rw [h5]; decide
    rw [if_pos h5, if_neg hn, if_pos h5]
    by_cases q : c.toInt < 0
    · rw [if_pos q, if_neg (show ¬ 0 < c.toInt by omega), Int32.add_comm]
    · rw [if_neg q, if_pos (show 0 < c.toInt by omega)]
  · rw [if_neg h5]
    by_cases q : k = 1 ∨ k = 4
    · rw [if_pos q, if_pos q, Int32.neg_mul, Int32.one_mul]
    · rw [if_neg q, if_neg q, if_neg h5, Int32.one_mul]
theorem okL_nz {rc : Int32} {xs : List Int32} (h : okL rc xs) {i : Nat} (hi : i < xs.length) : ¬ (xs.getD i 0).toInt = 0 := (okL_get h hi).1
theorem ld_of {τ : ST} {k rc : Int32} {xs : List Int32} (h12 : xs.length ≤ 12) (hv : ∀ q, q < xs.length → τ.1 115 q = (ly1 k rc xs).getD q 0 ∧ τ.1 115 (xs.length + q) = (ly1 k rc xs).getD q 0) : LD (ui τ 112 5 (nI (lyN k xs.length))) (ly k rc xs) := by
  refine ⟨by rw [ui_same, ly_len], by rw [ly_len]; exact lyN_le h12, fun i hi => ?_⟩
  rw [ly_len] at hi
  rw [ui_ne (by decide), ly_get hi]
  by_cases q : i < xs.length
  · rw [if_pos q]; exact (hv i q).1
  · have h2 : i - xs.length < xs.length := by unfold lyN at hi; split at hi <;> omega
    rw [if_neg q]
    have := (hv (i - xs.length) h2).2
    rw [show xs.length + (i - xs.length) = i by omega] at this
    exact this
set_option maxRecDepth 100000 in
theorem c_X12_flip {l : Launch} {X : CX} {σ : ST} {A : SA} (hM : MR σ A) (hw : wf A) {t i : Int32} : MJ l X 2 yX12_flip cX12_flip 3 (some .int) [.ref (ad X 112), .int t, .int i] σ (OM σ (F_flip A t i)) := by
  refine MJ_of (own := RX12) [some (.ref (ad X 112)), some (.int t), some (.int i)] (by decide) rfl (Nat.le_of_ble_eq_true rfl) rfl ?_
  refine rj_ald0 dX12_flip_0 rfl ?_
  refine rj_ild1 dX12_flip_1 rfl ?_
  refine rj_V1i (ci := 12) cX12_85 rfl (by decide) (by first | assumption | rfl) dX12_flip_2 (c_X12_isTie hM) (fitM (by decide) (by decide)) (Nat.le_of_ble_eq_true rfl) ?_
  refine rj_if_eq (tgt := 23) dX12_flip_5 (by decide) (fun h_5 => ?_) (fun h_5 => ?_)
  · have hb_5 := bz_t h_5
    refine rj_ald0 dX12_flip_23 rfl ?_
    refine rj_ldc kX12_59 dX12_flip_24 ?_
    refine rj_V1 (ci := 12) cX12_68 rfl (by decide) rfl dX12_flip_26 (c_X12_finds (i := 0) hM (by decide) (by decide)) (fitM (by decide) (by decide)) (Nat.le_of_ble_eq_true rfl) ?_
    rintro v υq ⟨rfl, hq⟩
    simp only [Option.toList, List.cons_append, List.nil_append]
    refine rj_iret dX12_flip_29 ?_
    have e : F_flip A t i = fnd A 0 := by unfold F_flip; rw [wT_out hb_5]
    rw [e]
    exact ⟨rfl, hq⟩
  · have hb_5 := bz_f h_5
    obtain ⟨j, hv, hj⟩ := mt_in hb_5
    have h12 := (wf_t hw hj).2.2.1
    have hlt : (nI (fT A j).2.length).toInt = (fT A j).2.length := nI_t (by omega)
    have h8 := hM.1.2.2.2.1
    obtain ⟨f1, f2, f3, f4⟩ := hM.1.2.2.2.2 j hj
    have f6 : σ.1 113 (4 + 14 * j) = nI (fT A j).2.length := f2
    have f7 : σ.1 113 (3 + 14 * j) = (fT A j).1 := f1
    have hs : (nI (fT A j).2.length - 1).toInt = (fT A j).2.length - 1 := by rw [i_sub (by rw [hlt, t1]; omega) (by rw [hlt, t1]; omega), hlt, t1]
    refine rj_ild2 dX12_flip_8 rfl ?_
    refine rj_ic0 dX12_flip_9 ?_
    refine rj_ald0 dX12_flip_10 rfl ?_
    refine rj_ild1 dX12_flip_11 rfl ?_
    refine rj_V1i (ci := 12) cX12_82 rfl (by decide) (by first | assumption | rfl) dX12_flip_12 (c_X12_sizeOfRow hM hv hj) (fitM (by decide) (by decide)) (Nat.le_of_ble_eq_true rfl) ?_
    refine rj_ic1 dX12_flip_15 ?_
    refine rj_isub dX12_flip_16 ?_
    refine rj_S3i cX12_60 dX12_flip_17 c_X12_in (fitM (by decide) (by decide)) (Nat.le_of_ble_eq_true rfl) ?_
    refine rj_if_ne (tgt := 30) dX12_flip_20 (by decide) (fun h_20 => ?_) (fun h_20 => ?_)
    · have hb_20 := bz_f h_20
      rw [t0, hs] at hb_20
      obtain ⟨n, hn⟩ : ∃ n : Nat, i.toInt = n := ⟨i.toInt.toNat, by omega⟩
      have hin : i = nI n := nI_of_toInt hn
      subst hin
      rw [hn] at hb_20
      have hq2 := at_s (b := 2 + n) hv (by omega) (by omega)
      have e2 : (2 : Int32) + nI n = nI (2 + n) := by rw [show (2 : Int32) = nI 2 from rfl, nI_add]
      have f8 : σ.1 113 (5 + 14 * j + n) = (fT A j).2.getD n 0 := f4 n (by show n < (fT A j).2.length; omega)
      refine rj_ald0 dX12_flip_30 rfl ?_
      refine g12_7 dX12_flip_31 ?_
      refine rj_ild1 dX12_flip_34 rfl ?_
      refine rj_ic2 dX12_flip_35 ?_
      refine rj_ild2 dX12_flip_36 rfl ?_
      refine rj_iadd dX12_flip_37 ?_
      rw [e2]
      refine rj_S2i cX12_64 dX12_flip_38 c_X12_at (fitM (by decide) (by decide)) (Nat.le_of_ble_eq_true rfl) ?_
      refine rj_ic0 dX12_flip_41 ?_
      refine rj_ald0 dX12_flip_42 rfl ?_
      refine rj_ild1 dX12_flip_43 rfl ?_
      refine rj_ild2 dX12_flip_44 rfl ?_
      refine rj_V2i (ci := 12) cX12_96 rfl (by decide) (by first | assumption | rfl) dX12_flip_45 (c_X12_crossingR hv (by omega) (by omega)) (fitM (by decide) (by decide)) (Nat.le_of_ble_eq_true rfl) ?_
      rw [f8]
      refine rj_isub dX12_flip_48 ?_
      refine rj_iast (by first | assumption | rfl) (vpi (by omega) (by show _ < ((115 : Nat) : Int); omega)) dX12_flip_49 ?_
      rw [hq2.2, show 3 + 14 * j + (2 + n) = 5 + 14 * j + n by omega, Int32.zero_sub]
      refine rj_ald0 dX12_flip_50 rfl ?_
      refine rj_ild1 dX12_flip_51 rfl ?_
      refine rj_ild2 dX12_flip_52 rfl ?_
      refine rj_V2i (ci := 12) cX12_96 rfl (by decide) (by first | assumption | rfl) dX12_flip_53 (c_X12_crossingR hv (by omega) (by omega)) (fitM (by decide) (by decide)) (Nat.le_of_ble_eq_true rfl) ?_
      refine rj_iret dX12_flip_56 ?_
      have e : F_flip A t (nI n) = (-((fT A j).2.getD n 0), sT A j ((fT A j).1, (fT A j).2.set n (-((fT A j).2.getD n 0)))) := by unfold F_flip; rw [wT_in hv hj, if_pos (by rw [hn]; omega), hn]; rfl
      rw [e]
      refine ⟨by rw [ui_same], mr_tie hM hj (off_r off.rf) (fun b hb => ?_) ?_ ?_ (by rw [List.length_set]; omega) (fun q hq => ?_)⟩
      · rw [ui_at, if_neg (by omega)]
      · rw [ui_at, if_neg (by omega)]; exact f7
      · rw [ui_at, if_neg (by omega), List.length_set]; exact f6
      · rw [List.length_set] at hq
        rw [getD_setI _ _ _ _ (by omega), ui_at]
        by_cases z : q = n
        · rw [if_pos ⟨rfl, by omega⟩, if_pos z]
        · rw [if_neg (by omega), if_neg z]; exact f4 q hq
    · have hb_20 := bz_t h_20
      rw [t0, hs] at hb_20
      refine rj_ald0 dX12_flip_23 rfl ?_
      refine rj_ldc kX12_59 dX12_flip_24 ?_
      refine rj_V1 (ci := 12) cX12_68 rfl (by decide) rfl dX12_flip_26 (c_X12_finds (i := 0) hM (by decide) (by decide)) (fitM (by decide) (by decide)) (Nat.le_of_ble_eq_true rfl) ?_
      rintro v υq ⟨rfl, hq⟩
      simp only [Option.toList, List.cons_append, List.nil_append]
      refine rj_iret dX12_flip_29 ?_
      have e : F_flip A t i = fnd A 0 := by unfold F_flip; rw [wT_in hv hj, if_neg (by omega)]
      rw [e]
      exact ⟨rfl, hq⟩

set_option maxRecDepth 100000 in
theorem l_X12_laysAs {l : Launch} {X : CX} {h : Nat} {Q : Option Value → ST → Prop} {σ : ST} {A : SA} {xs : List Int32} {k b : Int32} (hh : 1 ≤ h) (hM : MR σ A) (hx : TR σ xs) (hz : ∀ i, i < xs.length → ¬ (xs.getD i 0).toInt = 0) (hb : b = 0 ↔ ¬ (k = 2 ∨ k = 4)) (hQ : ∀ τ, LD τ (ly k A.2.1.1 xs) → nq 115 5 σ τ → Q none τ) : ∀ (N i : Nat) (τ : ST) (z : Option Value), xs.length < i + N → (i ≤ xs.length ∧ (∀ q, q < i → τ.1 115 q = (ly1 k A.2.1.1 xs).getD q 0 ∧ τ.1 115 (xs.length + q) = (ly1 k A.2.1.1 xs).getD q 0) ∧ nq 115 5 σ τ) → RJ (GM l X h Q) X cX12_laysAs 5 none RX12 18 [some (.ref (ad X 112)), some (.int k), some (.int b), some (.int (nI i)), z] [] τ := by
  intro N
  induction N with
  | zero => intro i τ z hN hi; have := hi.1; exact absurd hN (by omega)
  | succ N ih =>
    intro i τ z hN hi
    obtain ⟨hi, hv, hm⟩ := hi
    have hM1 := mr_s hM (nq_mq hm (by omega) (by omega))
    have hX : TR τ xs := sc_nq hx hm (by decide) (by decide) (by decide)
    have hc := hX.2.1
    have hs := hX.1
    have hlt : (nI xs.length).toInt = xs.length := nI_t (by omega)
    have hit : (nI i).toInt = i := nI_t (by omega)
    have hit2 : (nI (xs.length + i)).toInt = xs.length + i := by rw [nI_t (by omega)]; omega
    refine rj_ild3 dX12_laysAs_18 rfl ?_
    refine rj_ald0 dX12_laysAs_19 rfl ?_
    refine g12_107 dX12_laysAs_20 ?_
    rw [hs]
    refine rj_ic_ge (tgt := 81) dX12_laysAs_23 (by decide) (fun h_23 => ?_) (fun h_23 => ?_)
    · refine rj_ald0 dX12_laysAs_81 rfl ?_
      refine rj_ild1 dX12_laysAs_82 rfl ?_
      refine rj_ic3 dX12_laysAs_83 ?_
      refine rj_ic_ne (tgt := 96) dX12_laysAs_84 (by decide) (fun h_84 => ?_) (fun h_84 => ?_)
      · refine rj_ald0 dX12_laysAs_96 rfl ?_
        refine g12_107 dX12_laysAs_97 ?_
        rw [hs]
        refine p12_114 dX12_laysAs_100 ?_
        refine rj_vret dX12_laysAs_103 ?_
        have hie : i = xs.length := by omega
        subst hie
        have hL := ld_of (τ := τ) (k := k) (rc := A.2.1.1) hc hv
        rw [show lyN k xs.length = xs.length by unfold lyN; rw [if_neg h_84]] at hL
        exact hQ _ hL (nq_f hm)
      · refine rj_ic2 dX12_laysAs_87 ?_
        refine rj_ald0 dX12_laysAs_88 rfl ?_
        refine g12_107 dX12_laysAs_89 ?_
        rw [hs]
        refine rj_imul dX12_laysAs_92 ?_
        rw [show (2 : Int32) = nI 2 from rfl, pk_mul]
        refine rj_goto (tgt := 100) dX12_laysAs_93 (by decide) ?_
        refine p12_114 dX12_laysAs_100 ?_
        refine rj_vret dX12_laysAs_103 ?_
        have hie : i = xs.length := by omega
        subst hie
        have hL := ld_of (τ := τ) (k := k) (rc := A.2.1.1) hc hv
        rw [show lyN k xs.length = 2 * xs.length by unfold lyN; rw [if_pos h_84]] at hL
        exact hQ _ hL (nq_f hm)
    · have hg := ly1_get (kind := k) (rc := A.2.1.1) (xs := xs) (j := i) (by omega)
      refine rj_ald0 dX12_laysAs_26 rfl ?_
      refine rj_ild1 dX12_laysAs_27 rfl ?_
      refine rj_ald0 dX12_laysAs_28 rfl ?_
      refine g12_22 dX12_laysAs_29 ?_
      refine rj_ild2 dX12_laysAs_32 rfl ?_
      refine rj_if_eq (tgt := 47) dX12_laysAs_33 (by decide) (fun h_33 => ?_) (fun h_33 => ?_)
      · rw [if_neg (hb.mp h_33)] at hg
        refine rj_ild3 dX12_laysAs_47 rfl ?_
        refine rj_iald (by first | assumption | rfl) (vpi (by omega) (by show _ < ((12 : Nat) : Int); omega)) dX12_laysAs_48 ?_
        rw [nI_clamp (by omega), hX.2.2 _ (by omega)]
        refine rj_V2i (ci := 12) cX12_111 rfl (by decide) (by first | assumption | rfl) dX12_laysAs_49 (c_X12_asLaid hM1) (fitM (by omega) (by decide)) (Nat.le_of_ble_eq_true rfl) ?_
        rw [lc_ref (hz _ (by omega)), ← hg]
        refine rj_ist4w dX12_laysAs_52 (by decide) rfl ?_
        refine rj_ald0 dX12_laysAs_54 rfl ?_
        refine g12_16 dX12_laysAs_55 ?_
        refine rj_ild3 dX12_laysAs_58 rfl ?_
        refine rj_ild dX12_laysAs_59 rfl ?_
        refine rj_iast (by first | assumption | rfl) (vpi (by omega) (by show _ < ((24 : Nat) : Int); omega)) dX12_laysAs_61 ?_
        rw [nI_clamp (by omega)]
        refine rj_ald0 dX12_laysAs_62 rfl ?_
        refine g12_16 dX12_laysAs_63 ?_
        refine rj_ald0 dX12_laysAs_66 rfl ?_
        refine g12_107 dX12_laysAs_67 ?_
        rw [ui_ne (by decide), hs]
        refine rj_ild3 dX12_laysAs_70 rfl ?_
        refine rj_iadd dX12_laysAs_71 ?_
        rw [nI_add]
        refine rj_ild dX12_laysAs_72 rfl ?_
        refine rj_iast (by first | assumption | rfl) (vpi (by omega) (by show _ < ((24 : Nat) : Int); omega)) dX12_laysAs_74 ?_
        rw [nI_clamp (by omega)]
        refine rj_iinc3 (d := 1) dX12_laysAs_75 (by decide) rfl (by decide) ?_
        rw [nI_1]
        refine rj_goto (tgt := 18) dX12_laysAs_78 (by decide) ?_
        refine ih (i + 1) _ _ (by omega) ⟨by omega, fun q hq => ?_, nq_c (nq_c hm (by decide)) (by decide)⟩
        rw [ui_at, ui_at, ui_at, ui_at]
        by_cases y : q = i
        · subst y
          refine ⟨?_, by rw [if_pos ⟨rfl, rfl⟩]⟩
          by_cases y2 : q = xs.length + q
          · rw [if_pos ⟨rfl, y2⟩]
          · rw [if_neg (fun u => y2 u.2), if_pos ⟨rfl, rfl⟩]
        · rw [if_neg (by omega), if_neg (by omega), if_neg (by omega), if_neg (by omega)]
          exact hv q (by omega)
      · rw [if_pos (Classical.byContradiction (fun y => h_33 (hb.mpr y)))] at hg
        have hm1 : nI xs.length - 1 - nI i = nI (xs.length - 1 - i) := by
          have e1 : (nI xs.length - 1).toInt = xs.length - 1 := by rw [i_sub (by rw [hlt, t1]; omega) (by rw [hlt, t1]; omega), hlt, t1]
          apply i_inj
          rw [i_sub (by rw [e1, hit]; omega) (by rw [e1, hit]; omega), e1, hit, nI_t (by omega)]
          omega
        have hm1t : (nI (xs.length - 1 - i)).toInt = (xs.length - 1 - i : Nat) := nI_t (by omega)
        refine rj_ald0 dX12_laysAs_36 rfl ?_
        refine g12_107 dX12_laysAs_37 ?_
        rw [hs]
        refine rj_ic1 dX12_laysAs_40 ?_
        refine rj_isub dX12_laysAs_41 ?_
        refine rj_ild3 dX12_laysAs_42 rfl ?_
        refine rj_isub dX12_laysAs_43 ?_
        refine rj_goto (tgt := 48) dX12_laysAs_44 (by decide) ?_
        rw [hm1]
        refine rj_iald (by first | assumption | rfl) (vpi (by omega) (by show _ < ((12 : Nat) : Int); omega)) dX12_laysAs_48 ?_
        rw [nI_clamp (by omega), hX.2.2 _ (by omega)]
        refine rj_V2i (ci := 12) cX12_111 rfl (by decide) (by first | assumption | rfl) dX12_laysAs_49 (c_X12_asLaid hM1) (fitM (by omega) (by decide)) (Nat.le_of_ble_eq_true rfl) ?_
        rw [lc_ref (hz _ (by omega)), ← hg]
        refine rj_ist4w dX12_laysAs_52 (by decide) rfl ?_
        refine rj_ald0 dX12_laysAs_54 rfl ?_
        refine g12_16 dX12_laysAs_55 ?_
        refine rj_ild3 dX12_laysAs_58 rfl ?_
        refine rj_ild dX12_laysAs_59 rfl ?_
        refine rj_iast (by first | assumption | rfl) (vpi (by omega) (by show _ < ((24 : Nat) : Int); omega)) dX12_laysAs_61 ?_
        rw [nI_clamp (by omega)]
        refine rj_ald0 dX12_laysAs_62 rfl ?_
        refine g12_16 dX12_laysAs_63 ?_
        refine rj_ald0 dX12_laysAs_66 rfl ?_
        refine g12_107 dX12_laysAs_67 ?_
        rw [ui_ne (by decide), hs]
        refine rj_ild3 dX12_laysAs_70 rfl ?_
        refine rj_iadd dX12_laysAs_71 ?_
        rw [nI_add]
        refine rj_ild dX12_laysAs_72 rfl ?_
        refine rj_iast (by first | assumption | rfl) (vpi (by omega) (by show _ < ((24 : Nat) : Int); omega)) dX12_laysAs_74 ?_
        rw [nI_clamp (by omega)]
        refine rj_iinc3 (d := 1) dX12_laysAs_75 (by decide) rfl (by decide) ?_
        rw [nI_1]
        refine rj_goto (tgt := 18) dX12_laysAs_78 (by decide) ?_
        refine ih (i + 1) _ _ (by omega) ⟨by omega, fun q hq => ?_, nq_c (nq_c hm (by decide)) (by decide)⟩
        rw [ui_at, ui_at, ui_at, ui_at]
        by_cases y : q = i
        · subst y
          refine ⟨?_, by rw [if_pos ⟨rfl, rfl⟩]⟩
          by_cases y2 : q = xs.length + q
          · rw [if_pos ⟨rfl, y2⟩]
          · rw [if_neg (fun u => y2 u.2), if_pos ⟨rfl, rfl⟩]
        · rw [if_neg (by omega), if_neg (by omega), if_neg (by omega), if_neg (by omega)]
          exact hv q (by omega)

set_option maxRecDepth 100000 in
theorem c_X12_laysAs {l : Launch} {X : CX} {σ : ST} {A : SA} (hM : MR σ A) {xs : List Int32} (hx : TR σ xs) (hz : ∀ i, i < xs.length → ¬ (xs.getD i 0).toInt = 0) {k : Int32} : MJ l X 1 yX12_laysAs cX12_laysAs 5 none [.ref (ad X 112), .int k] σ (PV (fun τ => LD τ (ly k A.2.1.1 xs) ∧ nq 115 5 σ τ)) := by
  refine MJ_of (own := RX12) [some (.ref (ad X 112)), some (.int k), none, none, none] (by decide) rfl (Nat.le_of_ble_eq_true rfl) rfl ?_
  refine rj_ild1 dX12_laysAs_0 rfl ?_
  refine rj_ic2 dX12_laysAs_1 ?_
  refine rj_ic_eq (tgt := 10) dX12_laysAs_2 (by decide) (fun h_2 => ?_) (fun h_2 => ?_)
  · refine rj_ic1 dX12_laysAs_10 ?_
    refine rj_goto (tgt := 15) dX12_laysAs_11 (by decide) ?_
    refine rj_ist2 dX12_laysAs_15 (by decide) rfl ?_
    refine rj_ic0 dX12_laysAs_16 ?_
    refine rj_ist3 dX12_laysAs_17 (by decide) rfl ?_
    exact l_X12_laysAs (by decide) hM hx hz (by simp [h_2]) (fun τ h1 h2 => ⟨rfl, h1, h2⟩) (xs.length + 1) 0 _ _ (by omega) ⟨by omega, fun q hq => absurd hq (by omega), nq_rf⟩
  · refine rj_ild1 dX12_laysAs_5 rfl ?_
    refine rj_ic4 dX12_laysAs_6 ?_
    refine rj_ic_ne (tgt := 14) dX12_laysAs_7 (by decide) (fun h_7 => ?_) (fun h_7 => ?_)
    · refine rj_ic0 dX12_laysAs_14 ?_
      refine rj_ist2 dX12_laysAs_15 (by decide) rfl ?_
      refine rj_ic0 dX12_laysAs_16 ?_
      refine rj_ist3 dX12_laysAs_17 (by decide) rfl ?_
      exact l_X12_laysAs (by decide) hM hx hz (by simp [h_2, h_7]) (fun τ h1 h2 => ⟨rfl, h1, h2⟩) (xs.length + 1) 0 _ _ (by omega) ⟨by omega, fun q hq => absurd hq (by omega), nq_rf⟩
    · refine rj_ic1 dX12_laysAs_10 ?_
      refine rj_goto (tgt := 15) dX12_laysAs_11 (by decide) ?_
      refine rj_ist2 dX12_laysAs_15 (by decide) rfl ?_
      refine rj_ic0 dX12_laysAs_16 ?_
      refine rj_ist3 dX12_laysAs_17 (by decide) rfl ?_
      exact l_X12_laysAs (by decide) hM hx hz (by simp [h_7]) (fun τ h1 h2 => ⟨rfl, h1, h2⟩) (xs.length + 1) 0 _ _ (by omega) ⟨by omega, fun q hq => absurd hq (by omega), nq_rf⟩

set_option maxRecDepth 100000 in
theorem c_X12_layTie {l : Launch} {X : CX} {σ : ST} {A : SA} (hM : MR σ A) (hw : wf A) {t : Int32} {j : Nat} (ht : t.toInt = j) (hj : j < A.2.1.2.2.length) : MJ l X 3 yX12_layTie cX12_layTie 2 none [.ref (ad X 112), .int t] σ (PV (fun τ => LD τ (lyA A j) ∧ TR τ (fT A j).2 ∧ mq σ τ)) := by
  refine MJ_of (own := RX12) [some (.ref (ad X 112)), some (.int t)] (by decide) rfl (Nat.le_of_ble_eq_true rfl) rfl ?_
  have h12 := (wf_t hw hj).2.2.1
  have hok := (wf_t hw hj).2.2.2
  refine rj_ald0 dX12_layTie_0 rfl ?_
  refine rj_ild1 dX12_layTie_1 rfl ?_
  refine rj_V1 (ci := 12) cX12_117 rfl (by decide) (by first | assumption | rfl) dX12_layTie_2 (c_X12_tries hM ht hj h12) (fitM (by decide) (by decide)) (Nat.le_of_ble_eq_true rfl) ?_
  rintro v υ ⟨rfl, hx1, hn1⟩
  simp only [Option.toList, List.nil_append]
  have hM1 := mr_s hM (nq_mq hn1 (by omega) (by omega))
  refine rj_ald0 dX12_layTie_5 rfl ?_
  refine rj_ald0 dX12_layTie_6 rfl ?_
  refine rj_ild1 dX12_layTie_7 rfl ?_
  refine rj_V1i (ci := 12) cX12_99 rfl (by decide) (by first | assumption | rfl) dX12_layTie_8 (c_X12_kindOf hM1 ht hj) (fitM (by decide) (by decide)) (Nat.le_of_ble_eq_true rfl) ?_
  refine rj_V1 (ci := 12) cX12_120 rfl (by decide) (by first | assumption | rfl) dX12_layTie_11 (c_X12_laysAs hM1 hx1 (fun i hi => okL_nz hok hi)) (fitM (by decide) (by decide)) (Nat.le_of_ble_eq_true rfl) ?_
  rintro v υ2 ⟨rfl, hx2, hn2⟩
  simp only [Option.toList, List.nil_append]
  refine rj_vret dX12_layTie_14 ?_
  exact ⟨rfl, hx2, sc_nq hx1 hn2 (by decide) (by decide) (by decide), mq_tr (nq_mq hn1 (by omega) (by omega)) (nq_mq hn2 (by omega) (by omega))⟩

set_option maxRecDepth 100000 in
theorem c_X12_lays {l : Launch} {X : CX} {σ : ST} {A : SA} (hM : MR σ A) (hw : wf A) {t i : Int32} : MJ l X 4 yX12_lays cX12_lays 3 (some .int) [.ref (ad X 112), .int t, .int i] σ (OM σ (F_lays A t i)) := by
  refine MJ_of (own := RX12) [some (.ref (ad X 112)), some (.int t), some (.int i)] (by decide) rfl (Nat.le_of_ble_eq_true rfl) rfl ?_
  refine rj_ald0 dX12_lays_0 rfl ?_
  refine rj_ild1 dX12_lays_1 rfl ?_
  refine rj_V1i (ci := 12) cX12_85 rfl (by decide) (by first | assumption | rfl) dX12_lays_2 (c_X12_isTie hM) (fitM (by decide) (by decide)) (Nat.le_of_ble_eq_true rfl) ?_
  refine rj_if_eq (tgt := 12) dX12_lays_5 (by decide) (fun h_5 => ?_) (fun h_5 => ?_)
  · have hb_5 := bz_t h_5
    refine rj_ald0 dX12_lays_12 rfl ?_
    refine rj_ldc kX12_59 dX12_lays_13 ?_
    refine rj_V1 (ci := 12) cX12_68 rfl (by decide) rfl dX12_lays_15 (c_X12_finds (i := 0) hM (by decide) (by decide)) (fitM (by decide) (by decide)) (Nat.le_of_ble_eq_true rfl) ?_
    rintro v υq ⟨rfl, hq⟩
    simp only [Option.toList, List.cons_append, List.nil_append]
    refine rj_iret dX12_lays_18 ?_
    have e : F_lays A t i = fnd A 0 := by unfold F_lays; rw [wT_out hb_5]
    rw [e]
    exact ⟨rfl, hq⟩
  · have hb_5 := bz_f h_5
    obtain ⟨j, hv, hj⟩ := mt_in hb_5
    have h12 := (wf_t hw hj).2.2.1
    have hlt : (nI (fT A j).2.length).toInt = (fT A j).2.length := nI_t (by omega)
    have h8 := hM.1.2.2.2.1
    obtain ⟨f1, f2, f3, f4⟩ := hM.1.2.2.2.2 j hj
    have f6 : σ.1 113 (4 + 14 * j) = nI (fT A j).2.length := f2
    have f7 : σ.1 113 (3 + 14 * j) = (fT A j).1 := f1
    refine rj_ild2 dX12_lays_8 rfl ?_
    refine rj_if_ge (tgt := 19) dX12_lays_9 (by decide) (fun h_9 => ?_) (fun h_9 => ?_)
    · refine rj_ald0 dX12_lays_19 rfl ?_
      refine rj_ild1 dX12_lays_20 rfl ?_
      refine rj_V1 (ci := 12) cX12_123 rfl (by decide) (by first | assumption | rfl) dX12_lays_21 (c_X12_layTie hM hw hv hj) (fitM (by decide) (by decide)) (Nat.le_of_ble_eq_true rfl) ?_
      rintro v υ ⟨rfl, hx1, hy1, hn1⟩
      simp only [Option.toList, List.nil_append]
      have hly : lyN (fT A j).1 (fT A j).2.length = (lyA A j).length := (ly_len _ _ _).symm
      have hM1 := mr_s hM hn1
      have hl1 := hx1.1
      have hl2 := hx1.2.1
      have hl3 : (nI (lyA A j).length).toInt = (lyA A j).length := nI_t (by omega)
      refine rj_ild2 dX12_lays_24 rfl ?_
      refine rj_ald0 dX12_lays_25 rfl ?_
      refine g12_114 dX12_lays_26 ?_
      rw [hl1]
      refine rj_ic_ge (tgt := 41) dX12_lays_29 (by decide) (fun h_29 => ?_) (fun h_29 => ?_)
      · refine rj_ald0 dX12_lays_41 rfl ?_
        refine rj_ldc kX12_95 dX12_lays_42 ?_
        refine rj_V1 (ci := 12) cX12_68 rfl (by decide) rfl dX12_lays_44 (c_X12_finds (i := 3) hM1 (by decide) (by decide)) (fitM (by decide) (by decide)) (Nat.le_of_ble_eq_true rfl) ?_
        rintro v υq ⟨rfl, hq⟩
        simp only [Option.toList, List.cons_append, List.nil_append]
        refine rj_iret dX12_lays_47 ?_
        have e : F_lays A t i = fnd A 3 := by unfold F_lays; rw [wT_in hv hj, if_neg (by omega), if_neg (by rw [hly]; omega)]
        rw [e]
        exact ⟨rfl, hq.1, (mq_md hn1).tr hq.2⟩
      · refine rj_ald0 dX12_lays_32 rfl ?_
        refine g12_16 dX12_lays_33 ?_
        refine rj_ild2 dX12_lays_36 rfl ?_
        refine rj_iald (by first | assumption | rfl) (vpi (by omega) (by show _ < ((24 : Nat) : Int); omega)) dX12_lays_37 ?_
        rw [cl_i, hx1.2.2 _ (by omega)]
        refine rj_goto (tgt := 47) dX12_lays_38 (by decide) ?_
        refine rj_iret dX12_lays_47 ?_
        have e : F_lays A t i = ((lyA A j).getD i.toInt.toNat 0, A) := by unfold F_lays; rw [wT_in hv hj, if_neg (by omega), if_pos (by rw [hly]; omega)]
        rw [e]
        exact ⟨rfl, hM1, mq_md hn1⟩
    · refine rj_ald0 dX12_lays_12 rfl ?_
      refine rj_ldc kX12_59 dX12_lays_13 ?_
      refine rj_V1 (ci := 12) cX12_68 rfl (by decide) rfl dX12_lays_15 (c_X12_finds (i := 0) hM (by decide) (by decide)) (fitM (by decide) (by decide)) (Nat.le_of_ble_eq_true rfl) ?_
      rintro v υq ⟨rfl, hq⟩
      simp only [Option.toList, List.cons_append, List.nil_append]
      refine rj_iret dX12_lays_18 ?_
      have e : F_lays A t i = fnd A 0 := by unfold F_lays; rw [wT_in hv hj, if_pos (by omega)]
      rw [e]
      exact ⟨rfl, hq⟩

/-- a tie's row in the writing -/
def TKI (σ τ : ST) (j : Nat) (xs : List Int32) (i : Nat) : Prop := τ.1 113 (4 + 14 * j) = nI xs.length ∧ (∀ q, q < i → τ.1 113 (5 + 14 * j + q) = xs.getD q 0) ∧ (∀ b, b < 4 + 14 * j ∨ 17 + 14 * j ≤ b → τ.1 113 b = σ.1 113 b) ∧ off (fun a => a = 113) σ τ
theorem tki_0 {σ : ST} {j : Nat} {xs : List Int32} : TKI σ (ui σ 113 (4 + 14 * j) (nI xs.length)) j xs 0 := ⟨ui_same _ _ _ _, fun q hq => absurd hq (by omega), fun b hb => by rw [ui_at, if_neg (by omega)], off_r off.rf⟩
theorem tki_s {σ τ : ST} {j i : Nat} {xs : List Int32} (h : TKI σ τ j xs i) (hi : i < 12) : TKI σ (ui τ 113 (5 + 14 * j + i) (xs.getD i 0)) j xs (i + 1) := by
  refine ⟨by rw [ui_at, if_neg (by omega)]; exact h.1, fun q hq => ?_, fun b hb => by rw [ui_at, if_neg (by omega)]; exact h.2.2.1 b hb, off_r h.2.2.2⟩
  rw [ui_at]
  by_cases z : q = i
  · rw [if_pos ⟨rfl, by omega⟩, z]
  · rw [if_neg (by omega)]; exact h.2.1 q (by omega)
theorem tki_e {σ τ : ST} {A : SA} {j i : Nat} {xs : List Int32} (hM : MR σ A) (hj : j < A.2.1.2.2.length) (h : TKI σ τ j xs i) (h12 : xs.length ≤ 12) (hi : xs.length ≤ i) : MR τ (sT A j ((fT A j).1, xs)) ∧ off mdP σ τ :=
  mr_tie hM hj h.2.2.2 (fun b hb => h.2.2.1 b (by omega)) (by rw [h.2.2.1 _ (by omega)]; exact (hM.1.2.2.2.2 j hj).1) h.1 h12 (fun q hq => h.2.1 q (by omega))
set_option maxRecDepth 100000 in
theorem l_X12_takes {l : Launch} {X : CX} {h : Nat} {Q : Option Value → ST → Prop} {σ : ST} {t : Int32} {j : Nat} {xs : List Int32} (hh : 1 ≤ h) (ht : t.toInt = j) (hj : j < 8) (hx : TR σ xs) (hc : xs.length ≤ 12) (hQ : ∀ τ, TKI σ τ j xs xs.length → Q none τ) : ∀ (N i : Nat) (τ : ST), xs.length < i + N → (i ≤ xs.length ∧ TKI σ τ j xs i) → RJ (GM l X h Q) X cX12_takes 3 none RX12 16 [some (.ref (ad X 112)), some (.int t), some (.int (nI i))] [] τ := by
  intro N
  induction N with
  | zero => intro i τ hN hi; have := hi.1; exact absurd hN (by omega)
  | succ N ih =>
    intro i τ hN hi
    obtain ⟨hi, hv⟩ := hi
    have hs : τ.1 112 7 = nI xs.length := by rw [(hv.2.2.2 112 (by omega)).1]; exact hx.1
    have hlt : (nI xs.length).toInt = xs.length := nI_t (by omega)
    have hit : (nI i).toInt = i := nI_t (by omega)
    refine rj_ild2 dX12_takes_16 rfl ?_
    refine rj_ald0 dX12_takes_17 rfl ?_
    refine g12_107 dX12_takes_18 ?_
    rw [hs]
    refine rj_ic_ge (tgt := 48) dX12_takes_21 (by decide) (fun h_21 => ?_) (fun h_21 => ?_)
    · refine rj_vret dX12_takes_48 ?_
      have hie : i = xs.length := by omega
      subst hie
      exact hQ τ hv
    · have hq2 := at_s (b := 2 + i) ht (by omega) (by omega)
      have e2 : (2 : Int32) + nI i = nI (2 + i) := by rw [show (2 : Int32) = nI 2 from rfl, nI_add]
      have hce : τ.1 117 i = xs.getD i 0 := by rw [(hv.2.2.2 117 (by omega)).1]; exact hx.2.2 i (by omega)
      refine rj_ald0 dX12_takes_24 rfl ?_
      refine g12_7 dX12_takes_25 ?_
      refine rj_ild1 dX12_takes_28 rfl ?_
      refine rj_ic2 dX12_takes_29 ?_
      refine rj_ild2 dX12_takes_30 rfl ?_
      refine rj_iadd dX12_takes_31 ?_
      rw [e2]
      refine rj_S2i cX12_64 dX12_takes_32 c_X12_at (fitM (by omega) (by decide)) (Nat.le_of_ble_eq_true rfl) ?_
      refine rj_ald0 dX12_takes_35 rfl ?_
      refine g12_22 dX12_takes_36 ?_
      refine rj_ild2 dX12_takes_39 rfl ?_
      refine rj_iald (by first | assumption | rfl) (vpi (by omega) (by show _ < ((12 : Nat) : Int); omega)) dX12_takes_40 ?_
      rw [nI_clamp (by omega), hce]
      refine rj_iast (by first | assumption | rfl) (vpi (by omega) (by show _ < ((115 : Nat) : Int); omega)) dX12_takes_41 ?_
      rw [hq2.2, show 3 + 14 * j + (2 + i) = 5 + 14 * j + i by omega]
      refine rj_iinc2 (d := 1) dX12_takes_42 (by decide) rfl (by decide) ?_
      rw [nI_1]
      refine rj_goto (tgt := 16) dX12_takes_45 (by decide) ?_
      exact ih (i + 1) _ (by omega) ⟨by omega, tki_s hv (by omega)⟩

set_option maxRecDepth 100000 in
theorem l_X12_pull {l : Launch} {X : CX} {h : Nat} {Q : Option Value → ST → Prop} {σ : ST} {t : Int32} {j : Nat} {xs : List Int32} (hh : 1 ≤ h) (ht : t.toInt = j) (hj : j < 8) (hx : LF σ xs) (hc : xs.length ≤ 12) {m : Nat} (h7 : σ.1 112 7 = nI m) (hQ : ∀ τ, TKI σ τ j xs xs.length → Q (some (.int (nI m - nI xs.length))) τ) : ∀ (N i : Nat) (τ : ST), xs.length < i + N → (i ≤ xs.length ∧ TKI σ τ j xs i) → RJ (GM l X h Q) X cX12_pull 3 (some .int) RX12 40 [some (.ref (ad X 112)), some (.int t), some (.int (nI i))] [] τ := by
  intro N
  induction N with
  | zero => intro i τ hN hi; have := hi.1; exact absurd hN (by omega)
  | succ N ih =>
    intro i τ hN hi
    obtain ⟨hi, hv⟩ := hi
    have hs : τ.1 112 6 = nI xs.length := by rw [(hv.2.2.2 112 (by omega)).1]; exact hx.1
    have hlt : (nI xs.length).toInt = xs.length := nI_t (by omega)
    have hit : (nI i).toInt = i := nI_t (by omega)
    refine rj_ild2 dX12_pull_40 rfl ?_
    refine rj_ald0 dX12_pull_41 rfl ?_
    refine g12_129 dX12_pull_42 ?_
    rw [hs]
    refine rj_ic_ge (tgt := 72) dX12_pull_45 (by decide) (fun h_45 => ?_) (fun h_45 => ?_)
    · refine rj_ald0 dX12_pull_72 rfl ?_
      refine g12_107 dX12_pull_73 ?_
      rw [(hv.2.2.2 112 (by omega)).1, h7]
      refine rj_ald0 dX12_pull_76 rfl ?_
      refine g12_129 dX12_pull_77 ?_
      rw [hs]
      refine rj_isub dX12_pull_80 ?_
      refine rj_iret dX12_pull_81 ?_
      have hie : i = xs.length := by omega
      subst hie
      exact hQ τ hv
    · have hq2 := at_s (b := 2 + i) ht (by omega) (by omega)
      have e2 : (2 : Int32) + nI i = nI (2 + i) := by rw [show (2 : Int32) = nI 2 from rfl, nI_add]
      have hce : τ.1 116 i = xs.getD i 0 := by rw [(hv.2.2.2 116 (by omega)).1]; exact hx.2.2 i (by omega)
      refine rj_ald0 dX12_pull_48 rfl ?_
      refine g12_7 dX12_pull_49 ?_
      refine rj_ild1 dX12_pull_52 rfl ?_
      refine rj_ic2 dX12_pull_53 ?_
      refine rj_ild2 dX12_pull_54 rfl ?_
      refine rj_iadd dX12_pull_55 ?_
      rw [e2]
      refine rj_S2i cX12_64 dX12_pull_56 c_X12_at (fitM (by omega) (by decide)) (Nat.le_of_ble_eq_true rfl) ?_
      refine rj_ald0 dX12_pull_59 rfl ?_
      refine g12_19 dX12_pull_60 ?_
      refine rj_ild2 dX12_pull_63 rfl ?_
      refine rj_iald (by first | assumption | rfl) (vpi (by omega) (by show _ < ((24 : Nat) : Int); omega)) dX12_pull_64 ?_
      rw [nI_clamp (by omega), hce]
      refine rj_iast (by first | assumption | rfl) (vpi (by omega) (by show _ < ((115 : Nat) : Int); omega)) dX12_pull_65 ?_
      rw [hq2.2, show 3 + 14 * j + (2 + i) = 5 + 14 * j + i by omega]
      refine rj_iinc2 (d := 1) dX12_pull_66 (by decide) rfl (by decide) ?_
      rw [nI_1]
      refine rj_goto (tgt := 40) dX12_pull_69 (by decide) ?_
      exact ih (i + 1) _ (by omega) ⟨by omega, tki_s hv (by omega)⟩

set_option maxRecDepth 100000 in
theorem c_X12_takes {l : Launch} {X : CX} {σ : ST} {A : SA} (hM : MR σ A) {t : Int32} {j : Nat} (ht : t.toInt = j) (hj : j < A.2.1.2.2.length) {xs : List Int32} (hx : TR σ xs) : MJ l X 1 yX12_takes cX12_takes 3 none [.ref (ad X 112), .int t] σ (PV (fun τ => MR τ (sT A j ((fT A j).1, xs)) ∧ off (fun a => a = 113) σ τ)) := by
  refine MJ_of (own := RX12) [some (.ref (ad X 112)), some (.int t), none] (by decide) rfl (Nat.le_of_ble_eq_true rfl) rfl ?_
  have h8 := hM.1.2.2.2.1
  obtain ⟨f1, f2, f3, f4⟩ := hM.1.2.2.2.2 j hj
  have f5 : (fT A j).2.length ≤ 12 := f3
  have f6 : σ.1 113 (4 + 14 * j) = nI (fT A j).2.length := f2
  have hq1 := at_s (b := 1) ht (by omega) (by omega)
  have hc := hx.2.1
  refine rj_ald0 dX12_takes_0 rfl ?_
  refine g12_7 dX12_takes_1 ?_
  refine rj_ild1 dX12_takes_4 rfl ?_
  refine rj_ic1 dX12_takes_5 ?_
  rw [show (1 : Int32) = nI 1 from rfl]
  refine rj_S2i cX12_64 dX12_takes_6 c_X12_at (fitM (by decide) (by decide)) (Nat.le_of_ble_eq_true rfl) ?_
  refine rj_ald0 dX12_takes_9 rfl ?_
  refine g12_107 dX12_takes_10 ?_
  rw [hx.1]
  refine rj_iast (by first | assumption | rfl) (vpi (by omega) (by show _ < ((115 : Nat) : Int); omega)) dX12_takes_13 ?_
  rw [hq1.2, show 3 + 14 * j + 1 = 4 + 14 * j by omega]
  refine rj_ic0 dX12_takes_14 ?_
  refine rj_ist2 dX12_takes_15 (by decide) rfl ?_
  refine l_X12_takes (by decide) ht (by omega) (xs := xs) (⟨?_, hc, fun i hi => ?_⟩) hc (fun τ h => ⟨rfl, ?_, ?_⟩) (xs.length + 1) 0 _ (by omega) ⟨by omega, ⟨ui_same _ _ _ _, fun q hq => absurd hq (by omega), fun _ _ => rfl, off.rf⟩⟩
  · rw [ui_ne (by decide)]; exact hx.1
  · rw [ui_ne (by decide)]; exact hx.2.2 i hi
  · have h2 : TKI σ τ j xs xs.length := ⟨h.1, h.2.1, fun b hb => by rw [h.2.2.1 b hb, ui_at, if_neg (by omega)], (off_r off.rf).tr h.2.2.2⟩
    exact (tki_e hM hj h2 hc (by omega)).1
  · exact (off_r off.rf).tr h.2.2.2

theorem off_md {σ τ : ST} (h : off (fun a => a = 113) σ τ) : off mdP σ τ := h.mono (fun a ha => by rw [show a = 113 from ha]; unfold mdP; omega)
theorem sT_j {A : SA} {j : Nat} (x : TA) (h : j < A.2.1.2.2.length) : j < (sT A j x).2.1.2.2.length := by rw [sT_len]; exact h
set_option maxRecDepth 100000 in
theorem c_X12_like {l : Launch} {X : CX} {σ : ST} {A : SA} (hM : MR σ A) (hw : wf A) {t o : Int32} : MJ l X 3 yX12_like cX12_like 3 (some .int) [.ref (ad X 112), .int t, .int o] σ (OM σ (F_like A t o)) := by
  refine MJ_of (own := RX12) [some (.ref (ad X 112)), some (.int t), some (.int o)] (by decide) rfl (Nat.le_of_ble_eq_true rfl) rfl ?_
  refine rj_ald0 dX12_like_0 rfl ?_
  refine rj_ild1 dX12_like_1 rfl ?_
  refine rj_V1i (ci := 12) cX12_85 rfl (by decide) (by first | assumption | rfl) dX12_like_2 (c_X12_isTie hM) (fitM (by decide) (by decide)) (Nat.le_of_ble_eq_true rfl) ?_
  refine rj_if_eq (tgt := 16) dX12_like_5 (by decide) (fun h_5 => ?_) (fun h_5 => ?_)
  · have hb_5 := bz_t h_5
    refine rj_ald0 dX12_like_16 rfl ?_
    refine rj_ldc kX12_59 dX12_like_17 ?_
    refine rj_V1 (ci := 12) cX12_68 rfl (by decide) rfl dX12_like_19 (c_X12_finds (i := 0) hM (by decide) (by decide)) (fitM (by decide) (by decide)) (Nat.le_of_ble_eq_true rfl) ?_
    rintro v υq ⟨rfl, hq⟩
    simp only [Option.toList, List.cons_append, List.nil_append]
    refine rj_iret dX12_like_22 ?_
    have e : F_like A t o = fnd A 0 := by unfold F_like; rw [wT_out hb_5]
    rw [e]
    exact ⟨rfl, hq⟩
  · have hb_5 := bz_f h_5
    obtain ⟨j, hv, hj⟩ := mt_in hb_5
    have h12 := (wf_t hw hj).2.2.1
    have hlt : (nI (fT A j).2.length).toInt = (fT A j).2.length := nI_t (by omega)
    have h8 := hM.1.2.2.2.1
    obtain ⟨f1, f2, f3, f4⟩ := hM.1.2.2.2.2 j hj
    have f6 : σ.1 113 (4 + 14 * j) = nI (fT A j).2.length := f2
    have f7 : σ.1 113 (3 + 14 * j) = (fT A j).1 := f1
    refine rj_ald0 dX12_like_8 rfl ?_
    refine rj_ild2 dX12_like_9 rfl ?_
    refine rj_V1i (ci := 12) cX12_85 rfl (by decide) (by first | assumption | rfl) dX12_like_10 (c_X12_isTie hM) (fitM (by decide) (by decide)) (Nat.le_of_ble_eq_true rfl) ?_
    refine rj_if_ne (tgt := 23) dX12_like_13 (by decide) (fun h_13 => ?_) (fun h_13 => ?_)
    · have hb_13 := bz_f h_13
      obtain ⟨i, hu, hi⟩ := mt_in hb_13
      refine rj_ald0 dX12_like_23 rfl ?_
      refine rj_ild2 dX12_like_24 rfl ?_
      refine rj_V1 (ci := 12) cX12_117 rfl (by decide) (by first | assumption | rfl) dX12_like_25 (c_X12_tries hM hu hi (wf_t hw hi).2.2.1) (fitM (by decide) (by decide)) (Nat.le_of_ble_eq_true rfl) ?_
      rintro v υ ⟨rfl, hx1, hn1⟩
      simp only [Option.toList, List.nil_append]
      have hM1 := mr_s hM (nq_mq hn1 (by omega) (by omega))
      refine rj_ald0 dX12_like_28 rfl ?_
      refine rj_ild1 dX12_like_29 rfl ?_
      refine rj_V1 (ci := 12) cX12_126 rfl (by decide) (by first | assumption | rfl) dX12_like_30 (c_X12_takes hM1 hv hj hx1) (fitM (by decide) (by decide)) (Nat.le_of_ble_eq_true rfl) ?_
      rintro v υ2 ⟨rfl, hM2, ho2⟩
      simp only [Option.toList, List.nil_append]
      refine rj_ald0 dX12_like_33 rfl ?_
      refine g12_107 dX12_like_34 ?_
      rw [(ho2 112 (by omega)).1, hx1.1]
      refine rj_iret dX12_like_37 ?_
      have e : F_like A t o = (nI (fT A i).2.length, sT A j ((fT A j).1, (fT A i).2)) := by unfold F_like; rw [wT_in hv hj, wT_in hu hi]
      rw [e]
      exact ⟨rfl, hM2, (mq_md (nq_mq hn1 (by omega) (by omega))).tr (off_md ho2)⟩
    · have hb_13 := bz_t h_13
      refine rj_ald0 dX12_like_16 rfl ?_
      refine rj_ldc kX12_59 dX12_like_17 ?_
      refine rj_V1 (ci := 12) cX12_68 rfl (by decide) rfl dX12_like_19 (c_X12_finds (i := 0) hM (by decide) (by decide)) (fitM (by decide) (by decide)) (Nat.le_of_ble_eq_true rfl) ?_
      rintro v υq ⟨rfl, hq⟩
      simp only [Option.toList, List.cons_append, List.nil_append]
      refine rj_iret dX12_like_22 ?_
      have e : F_like A t o = fnd A 0 := by unfold F_like; rw [wT_in hv hj, wT_out hb_13]
      rw [e]
      exact ⟨rfl, hq⟩

set_option maxRecDepth 100000 in
theorem c_X12_pull {l : Launch} {X : CX} {σ : ST} {A : SA} (hM : MR σ A) (hw : wf A) {t : Int32} : MJ l X 3 yX12_pull cX12_pull 3 (some .int) [.ref (ad X 112), .int t] σ (OM σ (F_pull A t)) := by
  refine MJ_of (own := RX12) [some (.ref (ad X 112)), some (.int t), none] (by decide) rfl (Nat.le_of_ble_eq_true rfl) rfl ?_
  refine rj_ald0 dX12_pull_0 rfl ?_
  refine rj_ild1 dX12_pull_1 rfl ?_
  refine rj_V1i (ci := 12) cX12_85 rfl (by decide) (by first | assumption | rfl) dX12_pull_2 (c_X12_isTie hM) (fitM (by decide) (by decide)) (Nat.le_of_ble_eq_true rfl) ?_
  refine rj_if_ne (tgt := 15) dX12_pull_5 (by decide) (fun h_5 => ?_) (fun h_5 => ?_)
  · have hb_5 := bz_f h_5
    obtain ⟨j, hv, hj⟩ := mt_in hb_5
    have h12 := (wf_t hw hj).2.2.1
    have hlt : (nI (fT A j).2.length).toInt = (fT A j).2.length := nI_t (by omega)
    have h8 := hM.1.2.2.2.1
    obtain ⟨f1, f2, f3, f4⟩ := hM.1.2.2.2.2 j hj
    have f6 : σ.1 113 (4 + 14 * j) = nI (fT A j).2.length := f2
    have f7 : σ.1 113 (3 + 14 * j) = (fT A j).1 := f1
    have hq1 := at_s (b := 1) hv (by omega) (by omega)
    refine rj_ald0 dX12_pull_15 rfl ?_
    refine rj_ild1 dX12_pull_16 rfl ?_
    refine rj_V1 (ci := 12) cX12_117 rfl (by decide) (by first | assumption | rfl) dX12_pull_17 (c_X12_tries hM hv hj h12) (fitM (by decide) (by decide)) (Nat.le_of_ble_eq_true rfl) ?_
    rintro v υ ⟨rfl, hx1, hn1⟩
    simp only [Option.toList, List.nil_append]
    refine rj_ald0 dX12_pull_20 rfl ?_
    refine rj_V0 (ci := 12) cX12_135 rfl (by decide) (by first | assumption | rfl) dX12_pull_21 (c_X12_pullTried hx1) (fitM (by decide) (by decide)) (Nat.le_of_ble_eq_true rfl) ?_
    rintro v υ2 ⟨rfl, hx2, hn2⟩
    simp only [Option.toList, List.nil_append]
    have hm2 := mq_tr (nq_mq hn1 (by omega) (by omega)) (nq_mq hn2 (by omega) (by omega))
    have hM2 := mr_s hM hm2
    have hrl : (red (fT A j).2).length ≤ 12 := by have := redR_len (fT A j).2; unfold red; rw [List.length_reverse]; omega
    refine rj_ald0 dX12_pull_24 rfl ?_
    refine g12_7 dX12_pull_25 ?_
    refine rj_ild1 dX12_pull_28 rfl ?_
    refine rj_ic1 dX12_pull_29 ?_
    rw [show (1 : Int32) = nI 1 from rfl]
    refine rj_S2i cX12_64 dX12_pull_30 c_X12_at (fitM (by decide) (by decide)) (Nat.le_of_ble_eq_true rfl) ?_
    refine rj_ald0 dX12_pull_33 rfl ?_
    refine g12_129 dX12_pull_34 ?_
    rw [hx2.1]
    refine rj_iast (by first | assumption | rfl) (vpi (by omega) (by show _ < ((115 : Nat) : Int); omega)) dX12_pull_37 ?_
    rw [hq1.2, show 3 + 14 * j + 1 = 4 + 14 * j by omega]
    refine rj_ic0 dX12_pull_38 ?_
    refine rj_ist2 dX12_pull_39 (by decide) rfl ?_
    have e : F_pull A t = (nI (fT A j).2.length - nI (red (fT A j).2).length, sT A j ((fT A j).1, red (fT A j).2)) := by unfold F_pull; rw [wT_in hv hj]
    rw [e]
    refine l_X12_pull (by decide) hv (by omega) (xs := red (fT A j).2) (⟨?_, hx2.2.1, fun i hi => ?_⟩) hrl (m := (fT A j).2.length) ?_ (fun τ h => ⟨rfl, ?_, ?_⟩) ((red (fT A j).2).length + 1) 0 _ (by omega) ⟨by omega, ⟨ui_same _ _ _ _, fun q hq => absurd hq (by omega), fun _ _ => rfl, off.rf⟩⟩
    · rw [ui_ne (by decide)]; exact hx2.1
    · rw [ui_ne (by decide)]; exact hx2.2.2 i hi
    · rw [ui_ne (by decide), hn2.2 7 (by decide)]; exact hx1.1
    · have h2 : TKI υ2 τ j (red (fT A j).2) (red (fT A j).2).length := ⟨h.1, h.2.1, fun b hb => by rw [h.2.2.1 b hb, ui_at, if_neg (by omega)], (off_r off.rf).tr h.2.2.2⟩
      exact (tki_e hM2 hj h2 hrl (by omega)).1
    · exact (mq_md hm2).tr (off_md ((off_r off.rf).tr h.2.2.2))
  · have hb_5 := bz_t h_5
    refine rj_ald0 dX12_pull_8 rfl ?_
    refine rj_ldc kX12_59 dX12_pull_9 ?_
    refine rj_V1 (ci := 12) cX12_68 rfl (by decide) rfl dX12_pull_11 (c_X12_finds (i := 0) hM (by decide) (by decide)) (fitM (by decide) (by decide)) (Nat.le_of_ble_eq_true rfl) ?_
    rintro v υq ⟨rfl, hq⟩
    simp only [Option.toList, List.cons_append, List.nil_append]
    refine rj_iret dX12_pull_14 ?_
    have e : F_pull A t = fnd A 0 := by unfold F_pull; rw [wT_out hb_5]
    rw [e]
    exact ⟨rfl, hq⟩

set_option maxRecDepth 100000 in
theorem c_X12_leftOf {l : Launch} {X : CX} {σ : ST} {A : SA} (hM : MR σ A) (hw : wf A) {t : Int32} {j : Nat} (ht : t.toInt = j) (hj : j < A.2.1.2.2.length) : MJ l X 4 yX12_leftOf cX12_leftOf 2 (some .int) [.ref (ad X 112), .int t] σ ((fun v τ => v = some (.int (nI (red (lyA A j)).length)) ∧ LF τ (red (lyA A j)) ∧ mq σ τ)) := by
  refine MJ_of (own := RX12) [some (.ref (ad X 112)), some (.int t)] (by decide) rfl (Nat.le_of_ble_eq_true rfl) rfl ?_
  refine rj_ald0 dX12_leftOf_0 rfl ?_
  refine rj_ild1 dX12_leftOf_1 rfl ?_
  refine rj_V1 (ci := 12) cX12_123 rfl (by decide) (by first | assumption | rfl) dX12_leftOf_2 (c_X12_layTie hM hw ht hj) (fitM (by decide) (by decide)) (Nat.le_of_ble_eq_true rfl) ?_
  rintro v υ ⟨rfl, hx1, hy1, hn1⟩
  simp only [Option.toList, List.nil_append]
  refine rj_ald0 dX12_leftOf_5 rfl ?_
  refine rj_V0 (ci := 12) cX12_138 rfl (by decide) (by first | assumption | rfl) dX12_leftOf_6 (c_X12_pullLaid hx1) (fitM (by decide) (by decide)) (Nat.le_of_ble_eq_true rfl) ?_
  rintro v υ2 ⟨rfl, hx2, hn2⟩
  simp only [Option.toList, List.nil_append]
  refine rj_ald0 dX12_leftOf_9 rfl ?_
  refine g12_129 dX12_leftOf_10 ?_
  refine rj_iret dX12_leftOf_13 ?_
  exact ⟨by rw [hx2.1], hx2, mq_tr hn1 (nq_mq hn2 (by omega) (by omega))⟩

set_option maxRecDepth 100000 in
theorem c_X12_left {l : Launch} {X : CX} {σ : ST} {A : SA} (hM : MR σ A) (hw : wf A) {t : Int32} : MJ l X 5 yX12_left cX12_left 2 (some .int) [.ref (ad X 112), .int t] σ (OM σ (F_left A t)) := by
  refine MJ_of (own := RX12) [some (.ref (ad X 112)), some (.int t)] (by decide) rfl (Nat.le_of_ble_eq_true rfl) rfl ?_
  refine rj_ald0 dX12_left_0 rfl ?_
  refine rj_ild1 dX12_left_1 rfl ?_
  refine rj_V1i (ci := 12) cX12_85 rfl (by decide) (by first | assumption | rfl) dX12_left_2 (c_X12_isTie hM) (fitM (by decide) (by decide)) (Nat.le_of_ble_eq_true rfl) ?_
  refine rj_if_eq (tgt := 16) dX12_left_5 (by decide) (fun h_5 => ?_) (fun h_5 => ?_)
  · have hb_5 := bz_t h_5
    refine rj_ald0 dX12_left_16 rfl ?_
    refine rj_ldc kX12_59 dX12_left_17 ?_
    refine rj_V1 (ci := 12) cX12_68 rfl (by decide) rfl dX12_left_19 (c_X12_finds (i := 0) hM (by decide) (by decide)) (fitM (by decide) (by decide)) (Nat.le_of_ble_eq_true rfl) ?_
    rintro v υq ⟨rfl, hq⟩
    simp only [Option.toList, List.cons_append, List.nil_append]
    refine rj_iret dX12_left_22 ?_
    have e : F_left A t = fnd A 0 := by unfold F_left; rw [wT_out hb_5]
    rw [e]
    exact ⟨rfl, hq⟩
  · have hb_5 := bz_f h_5
    obtain ⟨j, hv, hj⟩ := mt_in hb_5
    have h12 := (wf_t hw hj).2.2.1
    have hlt : (nI (fT A j).2.length).toInt = (fT A j).2.length := nI_t (by omega)
    have h8 := hM.1.2.2.2.1
    obtain ⟨f1, f2, f3, f4⟩ := hM.1.2.2.2.2 j hj
    have f6 : σ.1 113 (4 + 14 * j) = nI (fT A j).2.length := f2
    have f7 : σ.1 113 (3 + 14 * j) = (fT A j).1 := f1
    refine rj_ald0 dX12_left_8 rfl ?_
    refine rj_ild1 dX12_left_9 rfl ?_
    refine rj_V1 (ci := 12) cX12_141 rfl (by decide) (by first | assumption | rfl) dX12_left_10 (c_X12_leftOf hM hw hv hj) (fitM (by decide) (by decide)) (Nat.le_of_ble_eq_true rfl) ?_
    rintro v υ ⟨rfl, hx1, hn1⟩
    simp only [Option.toList, List.cons_append, List.nil_append]
    have hM1 := mr_s hM hn1
    have hl2 := hx1.2.1
    have hl3 : (nI (red (lyA A j)).length).toInt = (red (lyA A j)).length := nI_t (by omega)
    refine rj_goto (tgt := 22) dX12_left_13 (by decide) ?_
    refine rj_iret dX12_left_22 ?_
    have e : F_left A t = (nI (red (lyA A j)).length, A) := by unfold F_left; rw [wT_in hv hj]
    rw [e]
    exact ⟨rfl, hM1, mq_md hn1⟩

set_option maxRecDepth 100000 in
theorem c_X12_rest {l : Launch} {X : CX} {σ : ST} {A : SA} (hM : MR σ A) (hw : wf A) {t i : Int32} : MJ l X 5 yX12_rest cX12_rest 3 (some .int) [.ref (ad X 112), .int t, .int i] σ (OM σ (F_rest A t i)) := by
  refine MJ_of (own := RX12) [some (.ref (ad X 112)), some (.int t), some (.int i)] (by decide) rfl (Nat.le_of_ble_eq_true rfl) rfl ?_
  refine rj_ald0 dX12_rest_0 rfl ?_
  refine rj_ild1 dX12_rest_1 rfl ?_
  refine rj_V1i (ci := 12) cX12_85 rfl (by decide) (by first | assumption | rfl) dX12_rest_2 (c_X12_isTie hM) (fitM (by decide) (by decide)) (Nat.le_of_ble_eq_true rfl) ?_
  refine rj_if_eq (tgt := 12) dX12_rest_5 (by decide) (fun h_5 => ?_) (fun h_5 => ?_)
  · have hb_5 := bz_t h_5
    refine rj_ald0 dX12_rest_12 rfl ?_
    refine rj_ldc kX12_59 dX12_rest_13 ?_
    refine rj_V1 (ci := 12) cX12_68 rfl (by decide) rfl dX12_rest_15 (c_X12_finds (i := 0) hM (by decide) (by decide)) (fitM (by decide) (by decide)) (Nat.le_of_ble_eq_true rfl) ?_
    rintro v υq ⟨rfl, hq⟩
    simp only [Option.toList, List.cons_append, List.nil_append]
    refine rj_iret dX12_rest_18 ?_
    have e : F_rest A t i = fnd A 0 := by unfold F_rest; rw [wT_out hb_5]
    rw [e]
    exact ⟨rfl, hq⟩
  · have hb_5 := bz_f h_5
    obtain ⟨j, hv, hj⟩ := mt_in hb_5
    have h12 := (wf_t hw hj).2.2.1
    have hlt : (nI (fT A j).2.length).toInt = (fT A j).2.length := nI_t (by omega)
    have h8 := hM.1.2.2.2.1
    obtain ⟨f1, f2, f3, f4⟩ := hM.1.2.2.2.2 j hj
    have f6 : σ.1 113 (4 + 14 * j) = nI (fT A j).2.length := f2
    have f7 : σ.1 113 (3 + 14 * j) = (fT A j).1 := f1
    refine rj_ild2 dX12_rest_8 rfl ?_
    refine rj_if_ge (tgt := 19) dX12_rest_9 (by decide) (fun h_9 => ?_) (fun h_9 => ?_)
    · refine rj_ild2 dX12_rest_19 rfl ?_
      refine rj_ald0 dX12_rest_20 rfl ?_
      refine rj_ild1 dX12_rest_21 rfl ?_
      refine rj_V1 (ci := 12) cX12_141 rfl (by decide) (by first | assumption | rfl) dX12_rest_22 (c_X12_leftOf hM hw hv hj) (fitM (by decide) (by decide)) (Nat.le_of_ble_eq_true rfl) ?_
      rintro v υ ⟨rfl, hx1, hn1⟩
      simp only [Option.toList, List.cons_append, List.nil_append]
      have hM1 := mr_s hM hn1
      have hl2 := hx1.2.1
      have hl3 : (nI (red (lyA A j)).length).toInt = (red (lyA A j)).length := nI_t (by omega)
      refine rj_ic_ge (tgt := 37) dX12_rest_25 (by decide) (fun h_25 => ?_) (fun h_25 => ?_)
      · refine rj_ald0 dX12_rest_37 rfl ?_
        refine rj_ldc kX12_95 dX12_rest_38 ?_
        refine rj_V1 (ci := 12) cX12_68 rfl (by decide) rfl dX12_rest_40 (c_X12_finds (i := 3) hM1 (by decide) (by decide)) (fitM (by decide) (by decide)) (Nat.le_of_ble_eq_true rfl) ?_
        rintro v υq ⟨rfl, hq⟩
        simp only [Option.toList, List.cons_append, List.nil_append]
        refine rj_iret dX12_rest_43 ?_
        have e : F_rest A t i = fnd A 3 := by unfold F_rest; rw [wT_in hv hj, if_neg (by omega), if_neg (by omega)]
        rw [e]
        exact ⟨rfl, hq.1, (mq_md hn1).tr hq.2⟩
      · refine rj_ald0 dX12_rest_28 rfl ?_
        refine g12_19 dX12_rest_29 ?_
        refine rj_ild2 dX12_rest_32 rfl ?_
        refine rj_iald (by first | assumption | rfl) (vpi (by omega) (by show _ < ((24 : Nat) : Int); omega)) dX12_rest_33 ?_
        rw [cl_i, hx1.2.2 _ (by omega)]
        refine rj_goto (tgt := 43) dX12_rest_34 (by decide) ?_
        refine rj_iret dX12_rest_43 ?_
        have e : F_rest A t i = ((red (lyA A j)).getD i.toInt.toNat 0, A) := by unfold F_rest; rw [wT_in hv hj, if_neg (by omega), if_pos (by omega)]
        rw [e]
        exact ⟨rfl, hM1, mq_md hn1⟩
    · refine rj_ald0 dX12_rest_12 rfl ?_
      refine rj_ldc kX12_59 dX12_rest_13 ?_
      refine rj_V1 (ci := 12) cX12_68 rfl (by decide) rfl dX12_rest_15 (c_X12_finds (i := 0) hM (by decide) (by decide)) (fitM (by decide) (by decide)) (Nat.le_of_ble_eq_true rfl) ?_
      rintro v υq ⟨rfl, hq⟩
      simp only [Option.toList, List.cons_append, List.nil_append]
      refine rj_iret dX12_rest_18 ?_
      have e : F_rest A t i = fnd A 0 := by unfold F_rest; rw [wT_in hv hj, if_pos (by omega)]
      rw [e]
      exact ⟨rfl, hq⟩

