/-! the reference: crossings, ties, ropes of a text -/
set_option maxRecDepth 100000 in
theorem c_X12_wantCrossing {l : Launch} {X : CX} {σ : ST} {A : SA} {F : FA} {p : Nat} (hb : byP A) (h : XS σ A true p F) {t : Int32} {j : Nat} (ht : t.toInt = j) (hj : j < F.2.2.length) : MJ l X 4 yX12_wantCrossing cX12_wantCrossing 4 none [.ref (ad X 112), .int t] σ (WQ σ A (tlC (bsA A) j p F)) := by
  refine MJ_of (own := RX12) [some (.ref (ad X 112)), some (.int t), none, none] (by decide) rfl (Nat.le_of_ble_eq_true rfl) rfl ?_
  have h19 : σ.1 112 19 = 1 := h.1
  have hM := h.2.1
  have q12 := e12
  have h12 : (F.2.2.getD j t0A).2.length ≤ 12 := (hM.1.2.2.2.2 j hj).2.2.1
  have hlt : (nI (F.2.2.getD j t0A).2.length).toInt = (F.2.2.getD j t0A).2.length := nI_t (by omega)
  have hsz : ∀ τ, MR τ (fA A F) → MJ l X 1 yX12_sizeOfRow cX12_sizeOfRow 2 (some .int) [.ref (ad X 112), .int t] τ (eqI (nI (F.2.2.getD j t0A).2.length) τ) := fun τ k => c_X12_sizeOfRow k ht hj
  refine rj_ald0 dX12_wantCrossing_0 rfl ?_
  refine rj_ald0 dX12_wantCrossing_1 rfl ?_
  refine g12_268 dX12_wantCrossing_2 ?_
  rw [h19]
  refine rj_if_eq (tgt := 22) dX12_wantCrossing_5 (by decide) (fun h_5 => ?_) (fun h_5 => ?_)
  · exact absurd h_5 (by decide)
  · refine rj_ald0 dX12_wantCrossing_8 rfl ?_
    refine rj_ild1 dX12_wantCrossing_9 rfl ?_
    refine rj_V1i (ci := 12) cX12_82 rfl (by decide) (by first | assumption | rfl) dX12_wantCrossing_10 (hsz _ hM) (fitM (by decide) (by decide)) (Nat.le_of_ble_eq_true rfl) ?_
    refine rj_bipush (v := 12) dX12_wantCrossing_13 (by decide) ?_
    refine rj_ic_ge (tgt := 22) dX12_wantCrossing_15 (by decide) (fun h_15 => ?_) (fun h_15 => ?_)
    · refine rj_ic0 dX12_wantCrossing_22 ?_
      refine p12_268 (by first | exact Or.inl rfl | exact Or.inr rfl) dX12_wantCrossing_23 ?_
      refine rj_ald0 dX12_wantCrossing_26 rfl ?_
      refine g12_268 dX12_wantCrossing_27 ?_
      rw [ui_same]
      refine rj_if_eq (tgt := 44) dX12_wantCrossing_30 (by decide) (fun h_30 => ?_) (fun h_30 => ?_)
      · refine rj_ic0 dX12_wantCrossing_44 ?_
        refine rj_ist2 dX12_wantCrossing_45 (by decide) rfl ?_
        refine rj_ild2 dX12_wantCrossing_46 rfl ?_
        refine rj_if_eq (tgt := 54) dX12_wantCrossing_47 (by decide) (fun h_47 => ?_) (fun h_47 => ?_)
        · refine rj_ald0 dX12_wantCrossing_54 rfl ?_
          refine rj_ic1 dX12_wantCrossing_55 ?_
          refine rj_ald0 dX12_wantCrossing_56 rfl ?_
          refine g12_7 dX12_wantCrossing_57 ?_
          refine rj_ic0 dX12_wantCrossing_60 ?_
          refine rj_iald (by first | assumption | rfl) (vpi (by decide) (by decide)) dX12_wantCrossing_61 ?_
          rw [show (0 : Int32).toNatClampNeg = 0 from rfl, show (ui σ 112 19 0).1 113 0 = F.1 from (mr_g hM).1.1]
          refine rj_ic1 dX12_wantCrossing_62 ?_
          refine rj_isub dX12_wantCrossing_63 ?_
          refine rj_V2 (ci := 12) cX12_278 rfl (by decide) (by first | assumption | rfl) dX12_wantCrossing_64 (c_X12_wantNumber0 (x_g false h)) (fitM (by decide) (by decide)) (Nat.le_of_ble_eq_true rfl) ?_
          rintro v υ ⟨⟨c, rfl⟩, hX, ho⟩
          simp only [Option.toList, List.cons_append, List.nil_append]
          refine rj_ist3 dX12_wantCrossing_67 (by decide) rfl ?_
          refine rj_ald0 dX12_wantCrossing_68 rfl ?_
          refine g12_268 dX12_wantCrossing_69 ?_
          rw [hX.1]
          refine rj_if_eq (tgt := 90) dX12_wantCrossing_72 (by decide) (fun h_72 => ?_) (fun h_72 => ?_)
          · refine rj_vret dX12_wantCrossing_90 ?_
            have e : tlC (bsA A) j p F = (false, p, F) := by unfold tlC; rw [if_neg (by omega)]
            rw [e]
            exact ⟨rfl, hX, oX_g.tr ho⟩
          · exact absurd rfl h_72
        · exact absurd rfl h_47
      · exact absurd rfl h_30
    · refine rj_ic1 dX12_wantCrossing_18 ?_
      refine rj_goto (tgt := 23) dX12_wantCrossing_19 (by decide) ?_
      refine p12_268 (by first | exact Or.inl rfl | exact Or.inr rfl) dX12_wantCrossing_23 ?_
      refine rj_ald0 dX12_wantCrossing_26 rfl ?_
      refine g12_268 dX12_wantCrossing_27 ?_
      rw [ui_same]
      refine rj_if_eq (tgt := 44) dX12_wantCrossing_30 (by decide) (fun h_30 => ?_) (fun h_30 => ?_)
      · exact absurd h_30 (by decide)
      · refine rj_ald0 dX12_wantCrossing_33 rfl ?_
        refine rj_V0i (ci := 12) cX12_275 rfl (by decide) (by first | assumption | rfl) dX12_wantCrossing_34 (c_X12_isMinus (tk_g h.2.2.1)) (fitM (by decide) (by decide)) (Nat.le_of_ble_eq_true rfl) ?_
        refine rj_if_eq (tgt := 44) dX12_wantCrossing_37 (by decide) (fun h_37 => ?_) (fun h_37 => ?_)
        · have hb_37 := bz_t h_37
          refine rj_ic0 dX12_wantCrossing_44 ?_
          refine rj_ist2 dX12_wantCrossing_45 (by decide) rfl ?_
          refine rj_ild2 dX12_wantCrossing_46 rfl ?_
          refine rj_if_eq (tgt := 54) dX12_wantCrossing_47 (by decide) (fun h_47 => ?_) (fun h_47 => ?_)
          · refine rj_ald0 dX12_wantCrossing_54 rfl ?_
            refine rj_ic1 dX12_wantCrossing_55 ?_
            refine rj_ald0 dX12_wantCrossing_56 rfl ?_
            refine g12_7 dX12_wantCrossing_57 ?_
            refine rj_ic0 dX12_wantCrossing_60 ?_
            refine rj_iald (by first | assumption | rfl) (vpi (by decide) (by decide)) dX12_wantCrossing_61 ?_
            rw [show (0 : Int32).toNatClampNeg = 0 from rfl, show (ui σ 112 19 1).1 113 0 = F.1 from (mr_g hM).1.1]
            refine rj_ic1 dX12_wantCrossing_62 ?_
            refine rj_isub dX12_wantCrossing_63 ?_
            refine rj_V2 (ci := 12) cX12_278 rfl (by decide) (by first | assumption | rfl) dX12_wantCrossing_64 (c_X12_wantNumber1 hb (x_g true h)) (fitM (by decide) (by decide)) (Nat.le_of_ble_eq_true rfl) ?_
            rintro v υ ⟨⟨c, rfl, hc⟩, hX, ho⟩
            simp only [Option.toList, List.cons_append, List.nil_append]
            refine rj_ist3 dX12_wantCrossing_67 (by decide) rfl ?_
            refine rj_ald0 dX12_wantCrossing_68 rfl ?_
            refine g12_268 dX12_wantCrossing_69 ?_
            rw [hX.1]
            refine rj_if_eq (tgt := 90) dX12_wantCrossing_72 (by decide) (fun h_72 => ?_) (fun h_72 => ?_)
            · have hni : ¬ isN (bsA A) p 1 (F.1 - 1) := fun z => by rw [decide_eq_true z] at h_72; exact absurd h_72 (by decide)
              refine rj_vret dX12_wantCrossing_90 ?_
              rw [if_neg hni, decide_eq_false hni] at hX
              have e : tlC (bsA A) j p F = (false, p, F) := by unfold tlC tlC2; rw [if_pos (by omega), if_neg hb_37, if_neg hni]
              rw [e]
              exact ⟨rfl, hX, oX_g.tr ho⟩
            · have hni : isN (bsA A) p 1 (F.1 - 1) := Classical.byContradiction (fun z => h_72 (by rw [decide_eq_false z]; rfl))
              rw [if_pos hni, decide_eq_true hni] at hX
              refine rj_ald0 dX12_wantCrossing_75 rfl ?_
              refine rj_ild1 dX12_wantCrossing_76 rfl ?_
              refine rj_ild2 dX12_wantCrossing_77 rfl ?_
              refine rj_if_eq (tgt := 86) dX12_wantCrossing_78 (by decide) (fun h_78 => ?_) (fun h_78 => ?_)
              · refine rj_ild3 dX12_wantCrossing_86 rfl ?_
                refine rj_V2 (ci := 12) cX12_91 rfl (by decide) (by first | assumption | rfl) dX12_wantCrossing_87 (c_X12_addCrossingF hX.2.1 ht hj (by show (F.2.2.getD j t0A).2.length < 12; omega)) (fitM (by decide) (by decide)) (Nat.le_of_ble_eq_true rfl) ?_
                rintro v υ2 ⟨rfl, hM2, ho2⟩
                simp only [Option.toList, List.nil_append]
                refine rj_vret dX12_wantCrossing_90 ?_
                have e : tlC (bsA A) j p F = (true, nx (bsA A) p, aAdd F j ((tR (bsA A) p).2)) := by unfold tlC tlC2; rw [if_pos (by omega), if_neg hb_37, if_pos hni, if_neg (by decide)]
                rw [e]
                refine ⟨rfl, ⟨by rw [(ho2 112 (by decide)).1]; exact hX.1, ?_, tk_3 hX.2.2.1 ho2, hX.2.2.2⟩, (oX_g.tr ho).tr (ho2.mono (fun a ha => Or.inr ha))⟩
                rw [hc hni] at hM2
                exact hM2
              · exact absurd rfl h_78
          · exact absurd rfl h_47
        · have hb_37 := bz_f h_37
          refine rj_ic1 dX12_wantCrossing_40 ?_
          refine rj_goto (tgt := 45) dX12_wantCrossing_41 (by decide) ?_
          refine rj_ist2 dX12_wantCrossing_45 (by decide) rfl ?_
          refine rj_ild2 dX12_wantCrossing_46 rfl ?_
          refine rj_if_eq (tgt := 54) dX12_wantCrossing_47 (by decide) (fun h_47 => ?_) (fun h_47 => ?_)
          · exact absurd h_47 (by decide)
          · refine rj_ald0 dX12_wantCrossing_50 rfl ?_
            refine rj_V0 (ci := 12) cX12_272 rfl (by decide) (by first | assumption | rfl) dX12_wantCrossing_51 (x_adv hb (x_g true h)) (fitM (by decide) (by decide)) (Nat.le_of_ble_eq_true rfl) ?_
            rintro v υm ⟨rfl, hXm, hom⟩
            simp only [Option.toList, List.nil_append]
            refine rj_ald0 dX12_wantCrossing_54 rfl ?_
            refine rj_ic1 dX12_wantCrossing_55 ?_
            refine rj_ald0 dX12_wantCrossing_56 rfl ?_
            refine g12_7 dX12_wantCrossing_57 ?_
            refine rj_ic0 dX12_wantCrossing_60 ?_
            refine rj_iald (by first | assumption | rfl) (vpi (by decide) (by decide)) dX12_wantCrossing_61 ?_
            rw [show (0 : Int32).toNatClampNeg = 0 from rfl, show υm.1 113 0 = F.1 from hXm.2.1.1.1]
            refine rj_ic1 dX12_wantCrossing_62 ?_
            refine rj_isub dX12_wantCrossing_63 ?_
            refine rj_V2 (ci := 12) cX12_278 rfl (by decide) (by first | assumption | rfl) dX12_wantCrossing_64 (c_X12_wantNumber1 hb hXm) (fitM (by decide) (by decide)) (Nat.le_of_ble_eq_true rfl) ?_
            rintro v υ ⟨⟨c, rfl, hc⟩, hX, ho⟩
            simp only [Option.toList, List.cons_append, List.nil_append]
            refine rj_ist3 dX12_wantCrossing_67 (by decide) rfl ?_
            refine rj_ald0 dX12_wantCrossing_68 rfl ?_
            refine g12_268 dX12_wantCrossing_69 ?_
            rw [hX.1]
            refine rj_if_eq (tgt := 90) dX12_wantCrossing_72 (by decide) (fun h_72 => ?_) (fun h_72 => ?_)
            · have hni : ¬ isN (bsA A) (nx (bsA A) p) 1 (F.1 - 1) := fun z => by rw [decide_eq_true z] at h_72; exact absurd h_72 (by decide)
              refine rj_vret dX12_wantCrossing_90 ?_
              rw [if_neg hni, decide_eq_false hni] at hX
              have e : tlC (bsA A) j p F = (false, (nx (bsA A) p), F) := by unfold tlC tlC2; rw [if_pos (by omega), if_pos hb_37, if_neg hni]
              rw [e]
              exact ⟨rfl, hX, (oX_g.tr hom).tr ho⟩
            · have hni : isN (bsA A) (nx (bsA A) p) 1 (F.1 - 1) := Classical.byContradiction (fun z => h_72 (by rw [decide_eq_false z]; rfl))
              rw [if_pos hni, decide_eq_true hni] at hX
              refine rj_ald0 dX12_wantCrossing_75 rfl ?_
              refine rj_ild1 dX12_wantCrossing_76 rfl ?_
              refine rj_ild2 dX12_wantCrossing_77 rfl ?_
              refine rj_if_eq (tgt := 86) dX12_wantCrossing_78 (by decide) (fun h_78 => ?_) (fun h_78 => ?_)
              · exact absurd h_78 (by decide)
              · refine rj_ild3 dX12_wantCrossing_81 rfl ?_
                refine rj_ineg dX12_wantCrossing_82 ?_
                refine rj_goto (tgt := 87) dX12_wantCrossing_83 (by decide) ?_
                refine rj_V2 (ci := 12) cX12_91 rfl (by decide) (by first | assumption | rfl) dX12_wantCrossing_87 (c_X12_addCrossingF hX.2.1 ht hj (by show (F.2.2.getD j t0A).2.length < 12; omega)) (fitM (by decide) (by decide)) (Nat.le_of_ble_eq_true rfl) ?_
                rintro v υ2 ⟨rfl, hM2, ho2⟩
                simp only [Option.toList, List.nil_append]
                refine rj_vret dX12_wantCrossing_90 ?_
                have e : tlC (bsA A) j p F = (true, nx (bsA A) (nx (bsA A) p), aAdd F j (-(tR (bsA A) (nx (bsA A) p)).2)) := by unfold tlC tlC2; rw [if_pos (by omega), if_pos hb_37, if_pos hni, if_pos rfl]
                rw [e]
                refine ⟨rfl, ⟨by rw [(ho2 112 (by decide)).1]; exact hX.1, ?_, tk_3 hX.2.2.1 ho2, hX.2.2.2⟩, ((oX_g.tr hom).tr ho).tr (ho2.mono (fun a ha => Or.inr ha))⟩
                rw [hc hni] at hM2
                exact hM2

theorem tlC2_row {bs : List Int32} {j p : Nat} {u : Bool} {A : FA} (hj : j < A.2.2.length) (h : (tlC2 bs j p u A).1 = true) : ((tlC2 bs j p u A).2.2.2.2.getD j t0A).2.length = (A.2.2.getD j t0A).2.length + 1 := by
  unfold tlC2 at h ⊢
  by_cases z : isN bs p 1 (A.1 - 1)
  · rw [if_pos z]
    show ((A.2.2.set j _).getD j t0A).2.length = _
    rw [getD_set _ _ _ _ _ hj, if_pos rfl]
    show (_ ++ [_]).length = _
    rw [List.length_append, List.length_singleton]
  · rw [if_neg z] at h; exact absurd (show false = true from h) (by decide)
theorem tlC_row {bs : List Int32} {j p : Nat} {A : FA} (hj : j < A.2.2.length) (h : (tlC bs j p A).1 = true) : ((tlC bs j p A).2.2.2.2.getD j t0A).2.length = (A.2.2.getD j t0A).2.length + 1 := by
  unfold tlC at h ⊢
  by_cases z : (A.2.2.getD j t0A).2.length < 12
  · rw [if_pos z] at h ⊢
    by_cases y : isS bs p 45
    · rw [if_pos y] at h ⊢; exact tlC2_row hj h
    · rw [if_neg y] at h ⊢; exact tlC2_row hj h
  · rw [if_neg z] at h; exact absurd (show false = true from h) (by decide)
theorem tlL_s (bs : List Int32) (j n p : Nat) (A : FA) : tlL bs j (n + 1) p A = if tS bs p = 2 ∨ isS bs p 45 then (if (tlC bs j p A).1 = true then tlL bs j n (tlC bs j p A).2.1 (tlC bs j p A).2.2 else tlC bs j p A) else (true, p, A) := rfl
set_option maxRecDepth 100000 in
theorem l_X12_wtE {l : Launch} {X : CX} {h : Nat} {Q : Option Value → ST → Prop} {σ : ST} {k t : Int32} (h19 : σ.1 112 19 = 0) (hQ : Q none σ) :  RJ (GM l X h Q) X cX12_wantTie 3 none RX12 46 [some (.ref (ad X 112)), some (.int k), some (.int t)] [] σ := by

  refine rj_ald0 dX12_wantTie_46 rfl ?_
  refine g12_268 dX12_wantTie_47 ?_
  rw [h19]
  refine rj_if_eq (tgt := 76) dX12_wantTie_50 (by decide) (fun h_50 => ?_) (fun h_50 => ?_)
  · refine rj_vret dX12_wantTie_76 ?_
    exact hQ
  · exact absurd rfl h_50

set_option maxRecDepth 100000 in
theorem l_X12_wt {l : Launch} {X : CX} {h : Nat} {Q : Option Value → ST → Prop} {σ : ST} {A : SA} {k t : Int32} {j : Nat} (hh : 5 ≤ h) (hb : byP A) (ht : t.toInt = j) {r : Bool × Nat × FA} (hQ : ∀ v τ, WQ σ A r v τ → Q v τ) : ∀ (n : Nat) (p : Nat) (F : FA) (τ : ST), XS τ A true p F → j < F.2.2.length → (F.2.2.getD j t0A).2.length + n = 13 → off cX σ τ → tlL (bsA A) j n p F = r → RJ (GM l X h Q) X cX12_wantTie 3 none RX12 46 [some (.ref (ad X 112)), some (.int k), some (.int t)] [] τ := by
  intro n
  induction n with
  | zero =>
    intro p F τ hX hj hn ho hr
    have := (hX.2.1.1.2.2.2.2 j hj).2.2.1
    exact absurd (show (F.2.2.getD j t0A).2.length ≤ 12 from this) (by omega)
  | succ n ih =>
    intro p F τ hX hj hn ho hr
    have h19 : τ.1 112 19 = 1 := hX.1
    have h14 := hX.2.2.1.1
    rw [tlL_s] at hr
    refine rj_ald0 dX12_wantTie_46 rfl ?_
    refine g12_268 dX12_wantTie_47 ?_
    rw [h19]
    refine rj_if_eq (tgt := 76) dX12_wantTie_50 (by decide) (fun h_50 => ?_) (fun h_50 => ?_)
    · exact absurd h_50 (by decide)
    · refine rj_ald0 dX12_wantTie_53 rfl ?_
      refine rj_V0i (ci := 12) cX12_275 rfl (by decide) (by first | assumption | rfl) dX12_wantTie_54 (c_X12_isMinus hX.2.2.1) (fitM (by omega) (by decide)) (Nat.le_of_ble_eq_true rfl) ?_
      refine rj_if_ne (tgt := 68) dX12_wantTie_57 (by decide) (fun h_57 => ?_) (fun h_57 => ?_)
      · have hb_57 := bz_f h_57
        rw [if_pos (Or.inr hb_57)] at hr
        refine rj_ald0 dX12_wantTie_68 rfl ?_
        refine rj_ild2 dX12_wantTie_69 rfl ?_
        refine rj_V1 (ci := 12) cX12_281 rfl (by decide) (by first | assumption | rfl) dX12_wantTie_70 (c_X12_wantCrossing hb hX ht hj) (fitM (by omega) (by decide)) (Nat.le_of_ble_eq_true rfl) ?_
        rintro v υ ⟨rfl, hX1, ho1⟩
        simp only [Option.toList, List.nil_append]
        refine rj_goto (tgt := 46) dX12_wantTie_73 (by decide) ?_
        rcases hg : (tlC (bsA A) j p F).1 with _ | _
        · rw [hg] at hX1 hr
          rw [if_neg (by decide)] at hr
          refine l_X12_wtE hX1.1 (hQ _ _ ⟨rfl, ?_, ho.tr ho1⟩)
          rw [← hr, hg]
          exact hX1
        · rw [hg] at hX1 hr
          rw [if_pos rfl] at hr
          have hrow := tlC_row hj hg
          exact ih _ _ υ hX1 (by rw [tlC_len]; exact hj) (by omega) (ho.tr ho1) hr
      · have hb_57 := bz_t h_57
        refine rj_ald0 dX12_wantTie_60 rfl ?_
        refine g12_236 dX12_wantTie_61 ?_
        rw [h14]
        refine rj_ic2 dX12_wantTie_64 ?_
        refine rj_ic_ne (tgt := 76) dX12_wantTie_65 (by decide) (fun h_65 => ?_) (fun h_65 => ?_)
        · refine rj_vret dX12_wantTie_76 ?_
          rw [if_neg (fun z => z.elim h_65 hb_57)] at hr
          refine hQ _ _ ⟨rfl, ?_, ho⟩
          rw [← hr]
          exact hX
        · rw [if_pos (Or.inl h_65)] at hr
          refine rj_ald0 dX12_wantTie_68 rfl ?_
          refine rj_ild2 dX12_wantTie_69 rfl ?_
          refine rj_V1 (ci := 12) cX12_281 rfl (by decide) (by first | assumption | rfl) dX12_wantTie_70 (c_X12_wantCrossing hb hX ht hj) (fitM (by omega) (by decide)) (Nat.le_of_ble_eq_true rfl) ?_
          rintro v υ ⟨rfl, hX1, ho1⟩
          simp only [Option.toList, List.nil_append]
          refine rj_goto (tgt := 46) dX12_wantTie_73 (by decide) ?_
          rcases hg : (tlC (bsA A) j p F).1 with _ | _
          · rw [hg] at hX1 hr
            rw [if_neg (by decide)] at hr
            refine l_X12_wtE hX1.1 (hQ _ _ ⟨rfl, ?_, ho.tr ho1⟩)
            rw [← hr, hg]
            exact hX1
          · rw [hg] at hX1 hr
            rw [if_pos rfl] at hr
            have hrow := tlC_row hj hg
            exact ih _ _ υ hX1 (by rw [tlC_len]; exact hj) (by omega) (ho.tr ho1) hr

set_option maxRecDepth 100000 in
theorem c_X12_wantTie {l : Launch} {X : CX} {σ : ST} {A : SA} {F : FA} {p : Nat} (hb : byP A) (h : XS σ A true p F) {k : Int32} (hk : 0 ≤ k.toInt ∧ k.toInt < 6) : MJ l X 5 yX12_wantTie cX12_wantTie 3 none [.ref (ad X 112), .int k] σ (WQ σ A (tlT (bsA A) k p F)) := by
  refine MJ_of (own := RX12) [some (.ref (ad X 112)), some (.int k), none] (by decide) rfl (Nat.le_of_ble_eq_true rfl) rfl ?_
  have hM := h.2.1
  have h1 : σ.1 113 1 = nI F.2.2.length := hM.1.2.1
  have h8 : F.2.2.length ≤ 8 := hM.1.2.2.2.1
  have hlt : (nI F.2.2.length).toInt = F.2.2.length := nI_t (by omega)
  have q8 : (8 : Int32).toInt = 8 := by decide
  refine rj_ald0 dX12_wantTie_0 rfl ?_
  refine rj_ald0 dX12_wantTie_1 rfl ?_
  refine g12_7 dX12_wantTie_2 ?_
  refine rj_ic1 dX12_wantTie_5 ?_
  refine rj_iald (by first | assumption | rfl) (vpi (by decide) (by decide)) dX12_wantTie_6 ?_
  rw [show (1 : Int32).toNatClampNeg = 1 from rfl, h1]
  refine rj_bipush (v := 8) dX12_wantTie_7 (by decide) ?_
  refine rj_ic_ge (tgt := 16) dX12_wantTie_9 (by decide) (fun h_9 => ?_) (fun h_9 => ?_)
  · refine rj_ic0 dX12_wantTie_16 ?_
    refine p12_268 (by first | exact Or.inl rfl | exact Or.inr rfl) dX12_wantTie_17 ?_
    refine rj_ald0 dX12_wantTie_20 rfl ?_
    refine g12_268 dX12_wantTie_21 ?_
    rw [ui_same]
    refine rj_if_ne (tgt := 28) dX12_wantTie_24 (by decide) (fun h_24 => ?_) (fun h_24 => ?_)
    · exact absurd rfl h_24
    · refine rj_vret dX12_wantTie_27 ?_
      have e : tlT (bsA A) k p F = (false, p, F) := by unfold tlT; rw [if_neg (fun z => by have := z.2; omega)]
      rw [e]
      exact ⟨rfl, x_g false h, oX_g⟩
  · refine rj_ic1 dX12_wantTie_12 ?_
    refine rj_goto (tgt := 17) dX12_wantTie_13 (by decide) ?_
    refine p12_268 (by first | exact Or.inl rfl | exact Or.inr rfl) dX12_wantTie_17 ?_
    refine rj_ald0 dX12_wantTie_20 rfl ?_
    refine g12_268 dX12_wantTie_21 ?_
    rw [ui_same]
    refine rj_if_ne (tgt := 28) dX12_wantTie_24 (by decide) (fun h_24 => ?_) (fun h_24 => ?_)
    · refine rj_ald0 dX12_wantTie_28 rfl ?_
      refine rj_ild1 dX12_wantTie_29 rfl ?_
      refine rj_V1 (ci := 12) cX12_78 rfl (by decide) (by first | assumption | rfl) dX12_wantTie_30 (c_X12_addTieF (mr_g (g := 1) hM) (by show F.2.2.length < 8; omega)) (fitM (by decide) (by decide)) (Nat.le_of_ble_eq_true rfl) ?_
      rintro v υ ⟨rfl, hM1, ho1⟩
      simp only [Option.toList, List.nil_append]
      have hMn : MR υ (fA A (F.1, F.2.1, F.2.2 ++ [(k, [])])) := hM1
      have hlen : (F.2.2 ++ [((k, ([] : List Int32)) : TA)]).length = F.2.2.length + 1 := by rw [List.length_append, List.length_singleton]
      have hm1 : υ.1 113 1 = nI (F.2.2.length + 1) := by rw [← hlen]; exact hMn.1.2.1
      have hXn : XS υ A true p (F.1, F.2.1, F.2.2 ++ [(k, [])]) := ⟨by rw [(ho1 112 (by decide)).1, ui_same]; rfl, hMn, tk_3 (tk_g h.2.2.1) ho1, h.2.2.2⟩
      have hsub : nI (F.2.2.length + 1) - 1 = nI F.2.2.length := by
        apply i_inj
        rw [i_sub (by rw [nI_t (by omega), t1]; omega) (by rw [nI_t (by omega), t1]; omega), nI_t (by omega), nI_t (by omega), t1]
        omega
      refine rj_ald0 dX12_wantTie_33 rfl ?_
      refine g12_7 dX12_wantTie_34 ?_
      refine rj_ic1 dX12_wantTie_37 ?_
      refine rj_iald (by first | assumption | rfl) (vpi (by decide) (by decide)) dX12_wantTie_38 ?_
      rw [show (1 : Int32).toNatClampNeg = 1 from rfl, hm1]
      refine rj_ic1 dX12_wantTie_39 ?_
      refine rj_isub dX12_wantTie_40 ?_
      rw [hsub]
      refine rj_ist2 dX12_wantTie_41 (by decide) rfl ?_
      refine rj_ald0 dX12_wantTie_42 rfl ?_
      refine rj_V0 (ci := 12) cX12_272 rfl (by decide) (by first | assumption | rfl) dX12_wantTie_43 (x_adv hb hXn) (fitM (by decide) (by decide)) (Nat.le_of_ble_eq_true rfl) ?_
      rintro v υ2 ⟨rfl, hX2, ho2⟩
      simp only [Option.toList, List.nil_append]
      have e : tlT (bsA A) k p F = tlL (bsA A) F.2.2.length 13 (nx (bsA A) p) (F.1, F.2.1, F.2.2 ++ [(k, [])]) := by unfold tlT; rw [if_pos ⟨hk, by omega⟩]
      rw [e]
      refine l_X12_wt (by decide) hb hlt (fun v τ q => q) 13 _ _ υ2 hX2 (by show F.2.2.length < (F.2.2 ++ [((k, ([] : List Int32)) : TA)]).length; omega) ?_ ((oX_g.tr (ho1.mono (fun a ha => Or.inr ha))).tr ho2) rfl
      show (List.getD (F.2.2 ++ [((k, ([] : List Int32)) : TA)]) F.2.2.length t0A).2.length + 13 = 13
      have hg : List.getD (F.2.2 ++ [((k, ([] : List Int32)) : TA)]) F.2.2.length t0A = (k, []) := by simp [List.getD]
      rw [hg]
      rfl
    · exact absurd h_24 (by decide)

