/-! the reference: a text -/
theorem nx_le {bs : List Int32} {p : Nat} (h : p ≤ bs.length) : p ≤ nx bs p ∧ nx bs p ≤ bs.length := tR_le h
theorem nx_1 {bs : List Int32} {p : Nat} (h : p ≤ bs.length) (h1 : tS bs p = 1) : p + 1 ≤ nx bs p := by
  have hf := tF_le h
  obtain ⟨z, y⟩ := (tb_so (s := 1) (by decide)).mp (show so (tb bs (tF bs p)) = 1 from h1)
  unfold nx tR
  rw [if_neg (by rw [h1]; decide), h1, show bs.length - tF bs p = (bs.length - (tF bs p + 1)) + 1 by omega, tkT_s, if_pos y]
  have := (tkT_le bs 1 (bs.length - (tF bs p + 1)) (tF bs p + 1) (if (1 : Int32) = 2 then vl 0 (bs.getD (tF bs p) 0) else 0)).1
  omega
theorem nx_S {bs : List Int32} {p : Nat} {c : Int32} (h : p ≤ bs.length) (h1 : isS bs p c) : p + 1 ≤ nx bs p := by
  have hf := tF_le h
  unfold nx tR
  rw [if_pos h1.1]
  show p + 1 ≤ tF bs p + 1
  omega
theorem tlC2_ge {bs : List Int32} {j p : Nat} {u : Bool} {A : FA} (h : p ≤ bs.length) : p ≤ (tlC2 bs j p u A).2.1 ∧ (tlC2 bs j p u A).2.1 ≤ bs.length := by
  have := nx_le h
  unfold tlC2
  split
  · exact this
  · exact ⟨Nat.le_refl _, h⟩
theorem tlC_ge {bs : List Int32} {j p : Nat} {A : FA} (h : p ≤ bs.length) : p ≤ (tlC bs j p A).2.1 ∧ (tlC bs j p A).2.1 ≤ bs.length := by
  have h1 := nx_le h
  unfold tlC
  split
  · split
    · have := tlC2_ge (j := j) (u := true) (A := A) h1.2; omega
    · exact tlC2_ge h
  · exact ⟨Nat.le_refl _, h⟩
theorem tlL_ge {bs : List Int32} {j : Nat} : ∀ (n p : Nat) (A : FA), p ≤ bs.length → p ≤ (tlL bs j n p A).2.1
  | 0, p, A, _ => Nat.le_refl _
  | n + 1, p, A, h => by
    have h1 := tlC_ge (j := j) (A := A) h
    rw [tlL_s]
    split
    · split
      · have := tlL_ge (bs := bs) (j := j) n _ (tlC bs j p A).2.2 h1.2; omega
      · exact h1.1
    · exact Nat.le_refl _
theorem tlI_ok {bs : List Int32} {p : Nat} {A : FA} (h : p ≤ bs.length) (hk : (tlI bs p A).1 = true) : p + 1 ≤ (tlI bs p A).2.1 := by
  have h1 := nx_le h
  have h2 := nx_le h1.2
  unfold tlI at hk ⊢
  by_cases z : isW bs p 0
  · have hn := nx_1 h z.1
    rw [if_pos z] at hk ⊢
    unfold tlR at hk ⊢
    split at hk
    · exact absurd (show false = true from hk) (by decide)
    · split at hk
      · rename_i a b
        rw [if_neg a, if_pos b]
        show p + 1 ≤ nx bs (nx bs p)
        omega
      · exact absurd (show false = true from hk) (by decide)
  · rw [if_neg z] at hk ⊢
    by_cases y : isW bs p 1
    · have hn := nx_1 h y.1
      rw [if_pos y] at hk ⊢
      unfold tlM at hk ⊢
      split at hk
      · rename_i a
        rw [if_pos a]
        have := tlC_ge (bs := bs) (j := (tR bs (nx bs p)).2.toInt.toNat) (A := A) h2.2
        omega
      · exact absurd (show false = true from hk) (by decide)
    · rw [if_neg y] at hk ⊢
      unfold tlT at hk ⊢
      split at hk
      · rename_i a
        rw [if_pos a]
        have hw : tS bs p = 1 := by
          rcases kdN_c bs p 6 0 (by omega) with ⟨q, _, _, c, _⟩ | ⟨_, b⟩
          · exact c.1
          · rw [b] at a; exact absurd a.1.1 (by decide)
        have hn := nx_1 h hw
        have := tlL_ge (bs := bs) (j := A.2.2.length) 13 (nx bs p) (A.1, A.2.1, A.2.2 ++ [(kdN bs p 6 0, [])]) h1.2
        omega
      · exact absurd (show false = true from hk) (by decide)
theorem tlA_s (bs : List Int32) (n : Nat) (it : Int32) (p : Nat) (A : FA) : tlA bs (n + 1) it p A = if (tlI bs p A).1 = true then (if tS bs (tlI bs p A).2.1 = 0 then (it, (tlI bs p A).2.2) else if isS bs (tlI bs p A).2.1 59 then tlA bs n (it + 1) (nx bs (tlI bs p A).2.1) (tlI bs p A).2.2 else (-1 - nI (tF bs (tlI bs p A).2.1), (tlI bs p A).2.2)) else (-1 - nI (tF bs (tlI bs p A).2.1), (tlI bs p A).2.2) := rfl
/-- what comes of a text, out of what was told -/
def txR (A : SA) (r : Int32 × FA) : Int32 × SA := if r.1.toInt < 0 then (r.1, tpA A []) else (r.1, A.1, r.2, A.2.2.1, [], A.2.2.2.2)
theorem tx_f {A : SA} {F : FA} {k : Nat} (hk : k ≤ 120) : txR A (-1 - nI k, F) = (-1 - nI k, tpA A []) := by
  unfold txR
  have tm : (-1 : Int32).toInt = -1 := by decide
  rw [if_pos]
  show (-1 - nI k).toInt < 0
  rw [i_sub (by rw [tm, nI_t (by omega)]; omega) (by rw [tm, nI_t (by omega)]; omega), tm, nI_t (by omega)]
  omega
theorem tx_t {A : SA} {F : FA} {k : Nat} (hk : k ≤ 1000) : txR A (nI k, F) = (nI k, A.1, F, A.2.2.1, [], A.2.2.2.2) := by
  unfold txR
  rw [if_neg]
  show ¬ (nI k).toInt < 0
  rw [nI_t (by omega)]
  omega
set_option maxRecDepth 100000 in
theorem l_X12_txE {l : Launch} {X : CX} {h : Nat} {Q : Option Value → ST → Prop} {σ : ST} {A : SA} (hM0 : MR σ A) {r : Int32 × FA} (hQ : ∀ v τ, OM σ (txR A r) v τ → Q v τ) {g : Bool} {p it : Nat} {F : FA} {τ : ST} (hh : 1 ≤ h) (hit : it ≤ 200) (hX : XS τ A g p F) (hB : ∀ q, q < 115 → τ.1 128 q = σ.1 113 q) (ho : off mdP σ τ) (h1 : g = true → tS (bsA A) p = 0 → r = (nI it, F)) (h0 : ¬ (g = true ∧ tS (bsA A) p = 0) → r = (-1 - nI (tF (bsA A) p), F)) :  RJ (GM l X h Q) X cX12_text 3 (some .int) RX12 23 [some (.ref (ad X 112)), some (.int (nI it)), some (.int 0)] [] τ := by
  have h14 := hX.2.2.1.1
  have h15 := hX.2.2.1.2.1
  have h120 : (bsA A).length ≤ 120 := (tpm_mr hX.2.1).2.1
  have hfl := tF_le hX.2.2.2
  refine rj_ild2 dX12_text_23 rfl ?_
  refine rj_if_eq (tgt := 71) dX12_text_24 (by decide) (fun h_24 => ?_) (fun h_24 => ?_)
  · refine rj_ald0 dX12_text_71 rfl ?_
    refine rj_ald0 dX12_text_72 rfl ?_
    refine g12_268 dX12_text_73 ?_
    rw [hX.1]
    refine rj_if_eq (tgt := 90) dX12_text_76 (by decide) (fun h_76 => ?_) (fun h_76 => ?_)
    · have hg := bz_t h_76
      refine rj_ic0 dX12_text_90 ?_
      refine p12_268 (by first | exact Or.inl rfl | exact Or.inr rfl) dX12_text_91 ?_
      refine rj_ald0 dX12_text_94 rfl ?_
      refine rj_ic0 dX12_text_95 ?_
      refine p12_219 dX12_text_96 ?_
      refine rj_ald0 dX12_text_99 rfl ?_
      refine g12_268 dX12_text_100 ?_
      rw [ui_nj (by decide), ui_same]
      refine rj_if_ne (tgt := 122) dX12_text_103 (by decide) (fun h_103 => ?_) (fun h_103 => ?_)
      · exact absurd rfl h_103
      · refine rj_ald0 dX12_text_106 rfl ?_
        refine rj_ic0 dX12_text_107 ?_
        refine rj_ald0 dX12_text_108 rfl ?_
        refine g12_56 dX12_text_109 ?_
        refine rj_V2 (ci := 12) cX12_301 rfl (by decide) (by first | assumption | rfl) dX12_text_112 (c_X12_moveAllF (c := 128) rfl rfl (by decide)) (fitM (by omega) (by decide)) (Nat.le_of_ble_eq_true rfl) ?_
        rintro v υ ⟨rfl, hv1, ho1⟩
        simp only [Option.toList, List.nil_append]
        refine rj_icm1 dX12_text_115 ?_
        refine rj_ald0 dX12_text_116 rfl ?_
        refine g12_225 dX12_text_117 ?_
        rw [(ho1 112 (by decide)).1, ui_nj (by decide), ui_nj (by decide), h15]
        refine rj_isub dX12_text_120 ?_
        refine rj_iret dX12_text_121 ?_
        have e := h0 (fun z => hg z.1)
        apply hQ
        rw [e, tx_f (by omega)]
        have hm := mr_tape (bs := []) (τ := ui (ui τ 112 19 0) 112 13 0) hX.2.1 ((off.rf.ui (Or.inl rfl)).ui (Or.inl rfl)) (by rw [ui_nj (by decide), ui_nj (by decide)]) (by rw [ui_same]; rfl) (by simp) (fun i hi => absurd hi (by simp))
        have hr := mr_row (F := A.2.1) hm.1 (FM_c hM0.1 (fun q hq => by rw [hv1 q hq, ui_ne (by decide), ui_ne (by decide)]; exact hB q hq)) ho1 rfl
        exact ⟨rfl, hr.1, (ho.tr hm.2).tr hr.2⟩
    · have hg := bz_f h_76
      refine rj_ald0 dX12_text_79 rfl ?_
      refine g12_236 dX12_text_80 ?_
      rw [h14]
      refine rj_if_ne (tgt := 90) dX12_text_83 (by decide) (fun h_83 => ?_) (fun h_83 => ?_)
      · refine rj_ic0 dX12_text_90 ?_
        refine p12_268 (by first | exact Or.inl rfl | exact Or.inr rfl) dX12_text_91 ?_
        refine rj_ald0 dX12_text_94 rfl ?_
        refine rj_ic0 dX12_text_95 ?_
        refine p12_219 dX12_text_96 ?_
        refine rj_ald0 dX12_text_99 rfl ?_
        refine g12_268 dX12_text_100 ?_
        rw [ui_nj (by decide), ui_same]
        refine rj_if_ne (tgt := 122) dX12_text_103 (by decide) (fun h_103 => ?_) (fun h_103 => ?_)
        · exact absurd rfl h_103
        · refine rj_ald0 dX12_text_106 rfl ?_
          refine rj_ic0 dX12_text_107 ?_
          refine rj_ald0 dX12_text_108 rfl ?_
          refine g12_56 dX12_text_109 ?_
          refine rj_V2 (ci := 12) cX12_301 rfl (by decide) (by first | assumption | rfl) dX12_text_112 (c_X12_moveAllF (c := 128) rfl rfl (by decide)) (fitM (by omega) (by decide)) (Nat.le_of_ble_eq_true rfl) ?_
          rintro v υ ⟨rfl, hv1, ho1⟩
          simp only [Option.toList, List.nil_append]
          refine rj_icm1 dX12_text_115 ?_
          refine rj_ald0 dX12_text_116 rfl ?_
          refine g12_225 dX12_text_117 ?_
          rw [(ho1 112 (by decide)).1, ui_nj (by decide), ui_nj (by decide), h15]
          refine rj_isub dX12_text_120 ?_
          refine rj_iret dX12_text_121 ?_
          have e := h0 (fun z => h_83 z.2)
          apply hQ
          rw [e, tx_f (by omega)]
          have hm := mr_tape (bs := []) (τ := ui (ui τ 112 19 0) 112 13 0) hX.2.1 ((off.rf.ui (Or.inl rfl)).ui (Or.inl rfl)) (by rw [ui_nj (by decide), ui_nj (by decide)]) (by rw [ui_same]; rfl) (by simp) (fun i hi => absurd hi (by simp))
          have hr := mr_row (F := A.2.1) hm.1 (FM_c hM0.1 (fun q hq => by rw [hv1 q hq, ui_ne (by decide), ui_ne (by decide)]; exact hB q hq)) ho1 rfl
          exact ⟨rfl, hr.1, (ho.tr hm.2).tr hr.2⟩
      · refine rj_ic1 dX12_text_86 ?_
        refine rj_goto (tgt := 91) dX12_text_87 (by decide) ?_
        refine p12_268 (by first | exact Or.inl rfl | exact Or.inr rfl) dX12_text_91 ?_
        refine rj_ald0 dX12_text_94 rfl ?_
        refine rj_ic0 dX12_text_95 ?_
        refine p12_219 dX12_text_96 ?_
        refine rj_ald0 dX12_text_99 rfl ?_
        refine g12_268 dX12_text_100 ?_
        rw [ui_nj (by decide), ui_same]
        refine rj_if_ne (tgt := 122) dX12_text_103 (by decide) (fun h_103 => ?_) (fun h_103 => ?_)
        · refine rj_ild1 dX12_text_122 rfl ?_
          refine rj_iret dX12_text_123 ?_
          have e := h1 hg h_83
          apply hQ
          rw [e, tx_t (by omega)]
          have hm := mr_tape (bs := []) (τ := ui (ui τ 112 19 1) 112 13 0) hX.2.1 ((off.rf.ui (Or.inl rfl)).ui (Or.inl rfl)) (by rw [ui_nj (by decide), ui_nj (by decide)]) (by rw [ui_same]; rfl) (by simp) (fun i hi => absurd hi (by simp))
          exact ⟨rfl, hm.1, ho.tr hm.2⟩
        · exact absurd h_103 (by decide)
  · exact absurd rfl h_24

set_option maxRecDepth 100000 in
theorem l_X12_tx {l : Launch} {X : CX} {h : Nat} {Q : Option Value → ST → Prop} {σ : ST} {A : SA} (hM0 : MR σ A) {r : Int32 × FA} (hQ : ∀ v τ, OM σ (txR A r) v τ → Q v τ) (hh : 7 ≤ h) (hb : byP A) : ∀ (n p : Nat) (F : FA) (it : Nat) (τ : ST), n + it = 120 → (2 * it ≤ p ∧ p ≤ (bsA A).length ∧ τ.1 112 16 = nI p ∧ τ.1 112 19 = 1 ∧ MR τ (fA A F) ∧ (∀ q, q < 115 → τ.1 128 q = σ.1 113 q) ∧ off mdP σ τ ∧ tlA (bsA A) n (nI (it + 1)) p F = r) → RJ (GM l X h Q) X cX12_text 3 (some .int) RX12 23 [some (.ref (ad X 112)), some (.int (nI it)), some (.int 1)] [] τ := by
  intro n
  induction n with
  | zero =>
    intro p F it τ hN hi
    have := (tpm_mr hM0).2.1
    have h2 := hi.1
    have h3 := hi.2.1
    exact absurd (show (bsA A).length ≤ 120 from this) (by omega)
  | succ n ih =>
    intro p F it τ hN hi
    obtain ⟨hpi, hp, h16, h19, hM, hB, ho, hr⟩ := hi
    have h120 := (tpm_mr hM0).2.1
    refine rj_ild2 dX12_text_23 rfl ?_
    refine rj_if_eq (tgt := 71) dX12_text_24 (by decide) (fun h_24 => ?_) (fun h_24 => ?_)
    · exact absurd h_24 (by decide)
    · refine rj_ald0 dX12_text_27 rfl ?_
      refine rj_V0 (ci := 12) cX12_272 rfl (by decide) (by first | assumption | rfl) dX12_text_28 (c_X12_advance (bs := bsA A) (show TPm τ (bsA (fA A F)) from tpm_mr hM) hb hp h16) (fitM (by omega) (by decide)) (Nat.le_of_ble_eq_true rfl) ?_
      rintro v υ ⟨rfl, hK1, hq1⟩
      simp only [Option.toList, List.nil_append]
      have hX1 : XS υ A true p F := ⟨by rw [hq1.2 19 (by decide) (by decide) (by decide) (by decide)]; exact h19, mr_s hM (tq_mq hq1), hK1, hp⟩
      have ho2d : off mdP τ υ := mq_md (tq_mq hq1)
      refine rj_ald0 dX12_text_31 rfl ?_
      refine rj_V0 (ci := 12) cX12_305 rfl (by decide) (by first | assumption | rfl) dX12_text_32 (c_X12_wantItem hb hX1) (fitM (by omega) (by decide)) (Nat.le_of_ble_eq_true rfl) ?_
      rintro v υ2 ⟨rfl, hX2, ho3⟩
      simp only [Option.toList, List.nil_append]
      have ho3d : off mdP υ υ2 := ho3.mono (fun a ha => by unfold mdP; omega)
      have hB2 : ∀ q, q < 115 → υ2.1 128 q = σ.1 113 q := fun q hq => by rw [(ho3 128 (by decide)).1, (hq1.1 128 (by decide)).1]; exact hB q hq
      have h14 := hX2.2.2.1.1
      refine rj_iinc1 (d := 1) dX12_text_35 (by decide) rfl (by decide) ?_
      rw [nI_1]
      refine rj_ald0 dX12_text_38 rfl ?_
      refine g12_268 dX12_text_39 ?_
      rw [hX2.1]
      refine rj_if_eq (tgt := 66) dX12_text_42 (by decide) (fun h_42 => ?_) (fun h_42 => ?_)
      · have hg := bz_t h_42
        refine rj_ic0 dX12_text_66 ?_
        refine rj_ist2 dX12_text_67 (by decide) rfl ?_
        refine rj_goto (tgt := 23) dX12_text_68 (by decide) ?_
        rw [tlA_s] at hr
        rw [if_neg hg] at hr
        exact l_X12_txE hM0 hQ (by omega) (by omega) hX2 hB2 (ho.tr (ho2d.tr ho3d)) (fun z _ => absurd z hg) (fun _ => hr.symm)
      · have hg := bz_f h_42
        refine rj_ald0 dX12_text_45 rfl ?_
        refine g12_236 dX12_text_46 ?_
        rw [h14]
        refine rj_ic3 dX12_text_49 ?_
        refine rj_ic_ne (tgt := 66) dX12_text_50 (by decide) (fun h_50 => ?_) (fun h_50 => ?_)
        · refine rj_ic0 dX12_text_66 ?_
          refine rj_ist2 dX12_text_67 (by decide) rfl ?_
          refine rj_goto (tgt := 23) dX12_text_68 (by decide) ?_
          rw [tlA_s] at hr
          rw [if_pos hg] at hr
          refine l_X12_txE hM0 hQ (by omega) (by omega) hX2 hB2 (ho.tr (ho2d.tr ho3d)) (fun _ z => ?_) (fun z => ?_)
          · rw [if_pos z] at hr; exact hr.symm
          · have hz : ¬ tS (bsA A) (tlI (bsA A) p F).2.1 = 0 := fun y => z ⟨hg, y⟩
            rw [if_neg hz, if_neg (fun y => h_50 y.1)] at hr
            exact hr.symm
        · refine rj_ald0 dX12_text_53 rfl ?_
          refine g12_243 dX12_text_54 ?_
          refine rj_bipush (v := 59) dX12_text_57 (by decide) ?_
          refine rj_ic_ne (tgt := 66) dX12_text_59 (by decide) (fun h_59 => ?_) (fun h_59 => ?_)
          · have hsv := hX2.2.2.1.2.2.2.2.1 h_50
            refine rj_ic0 dX12_text_66 ?_
            refine rj_ist2 dX12_text_67 (by decide) rfl ?_
            refine rj_goto (tgt := 23) dX12_text_68 (by decide) ?_
            rw [tlA_s] at hr
            rw [if_pos hg] at hr
            refine l_X12_txE hM0 hQ (by omega) (by omega) hX2 hB2 (ho.tr (ho2d.tr ho3d)) (fun _ z => ?_) (fun z => ?_)
            · rw [if_pos z] at hr; exact hr.symm
            · have hz : ¬ tS (bsA A) (tlI (bsA A) p F).2.1 = 0 := fun y => z ⟨hg, y⟩
              rw [if_neg hz, if_neg (fun y => h_59 (hsv.trans y.2))] at hr
              exact hr.symm
          · have hsv := (hX2.2.2.1.2.2.2.2.1 h_50).symm.trans h_59
            refine rj_ic1 dX12_text_62 ?_
            refine rj_goto (tgt := 67) dX12_text_63 (by decide) ?_
            refine rj_ist2 dX12_text_67 (by decide) rfl ?_
            refine rj_goto (tgt := 23) dX12_text_68 (by decide) ?_
            rw [tlA_s] at hr
            rw [if_pos hg, if_neg (fun z => absurd (h_50.symm.trans z) (by decide)), if_pos ⟨h_50, hsv⟩, nI_1] at hr
            have g1 := tlI_ok hp hg
            have g2 := nx_S hX2.2.2.2 ⟨h_50, hsv⟩
            have g3 := nx_le hX2.2.2.2
            rw [hg] at hX2
            exact ih (nx (bsA A) (tlI (bsA A) p F).2.1) (tlI (bsA A) p F).2.2 (it + 1) υ2 (by omega) ⟨by omega, g3.2, hX2.2.2.1.2.2.1, hX2.1, hX2.2.1, hB2, ho.tr (ho2d.tr ho3d), hr⟩

set_option maxRecDepth 100000 in
theorem c_X12_text {l : Launch} {X : CX} {σ : ST} {A : SA} (hM : MR σ A) (hw : wf A) : MJ l X 7 yX12_text cX12_text 3 (some .int) [.ref (ad X 112)] σ (OM σ (F_text A)) := by
  refine MJ_of (own := RX12) [some (.ref (ad X 112)), none, none] (by decide) rfl (Nat.le_of_ble_eq_true rfl) rfl ?_
  refine rj_ald0 dX12_text_0 rfl ?_
  refine rj_ic1 dX12_text_1 ?_
  refine rj_ald0 dX12_text_2 rfl ?_
  refine g12_56 dX12_text_3 ?_
  refine rj_V2 (ci := 12) cX12_301 rfl (by decide) (by first | assumption | rfl) dX12_text_6 (c_X12_moveAllT (c := 128) rfl rfl (by decide)) (fitM (by decide) (by decide)) (Nat.le_of_ble_eq_true rfl) ?_
  rintro v υ ⟨rfl, hv1, ho1⟩
  simp only [Option.toList, List.nil_append]
  refine rj_ald0 dX12_text_9 rfl ?_
  refine rj_ic0 dX12_text_10 ?_
  refine p12_222 dX12_text_11 ?_
  refine rj_ald0 dX12_text_14 rfl ?_
  refine rj_ic1 dX12_text_15 ?_
  refine p12_268 (by first | exact Or.inl rfl | exact Or.inr rfl) dX12_text_16 ?_
  refine rj_ic0 dX12_text_19 ?_
  refine rj_ist1 dX12_text_20 (by decide) rfl ?_
  refine rj_ic1 dX12_text_21 ?_
  refine rj_ist2 dX12_text_22 (by decide) rfl ?_
  have e : F_text A = txR A (tlA (bsA A) 120 (nI (0 + 1)) 0 A.2.1) := rfl
  rw [e]
  have hmq : mq σ υ := ⟨ho1.mono (fun a ha => by rw [show a = 128 from ha]; unfold msP; omega), by rw [(ho1 112 (by decide)).1], by rw [(ho1 112 (by decide)).1]⟩
  have hmq2 : mq σ (ui (ui υ 112 16 0) 112 19 1) := mq_ui (mq_ui hmq (by omega)) (by omega)
  have hb : byP A := fun i hi => by
    have hm : (bsA A).getD i 0 ∈ bsA A := by
      rw [List.getD_eq_getElem?_getD, List.getElem?_eq_getElem hi]
      exact List.getElem_mem _
    exact (hw.2.2.1.2 _ hm).1
  exact l_X12_tx hM (fun v τ q => q) (by decide) hb 120 0 A.2.1 0 _ (by omega) ⟨by omega, by omega, by rw [ui_nj (by decide), ui_same]; rfl, ui_same _ _ _ _, mr_s hM hmq2, fun q hq => by rw [ui_ne (by decide), ui_ne (by decide)]; exact hv1 q hq, mq_md hmq2, rfl⟩

