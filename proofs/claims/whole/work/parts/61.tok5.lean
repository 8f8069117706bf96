/-! the reference: items of a text -/
set_option maxRecDepth 100000 in
theorem c_X12_wantMore {l : Launch} {X : CX} {σ : ST} {A : SA} {F : FA} {p : Nat} (hb : byP A) (h : XS σ A true p F) : MJ l X 5 yX12_wantMore cX12_wantMore 2 none [.ref (ad X 112)] σ (WQ σ A (tlM (bsA A) p F)) := by
  refine MJ_of (own := RX12) [some (.ref (ad X 112)), none] (by decide) rfl (Nat.le_of_ble_eq_true rfl) rfl ?_
  have h8 : F.2.2.length ≤ 8 := h.2.1.1.2.2.2.1
  have hlt : (nI F.2.2.length).toInt = F.2.2.length := nI_t (by omega)
  have hls : (nI F.2.2.length - 1).toInt = F.2.2.length - 1 := by rw [i_sub (by rw [hlt, t1]; omega) (by rw [hlt, t1]; omega), hlt, t1]
  refine rj_ald0 dX12_wantMore_0 rfl ?_
  refine rj_V0 (ci := 12) cX12_272 rfl (by decide) (by first | assumption | rfl) dX12_wantMore_1 (x_adv hb h) (fitM (by decide) (by decide)) (Nat.le_of_ble_eq_true rfl) ?_
  rintro v υ ⟨rfl, hX1, ho1⟩
  simp only [Option.toList, List.nil_append]
  refine rj_ald0 dX12_wantMore_4 rfl ?_
  refine rj_ic0 dX12_wantMore_5 ?_
  refine rj_ald0 dX12_wantMore_6 rfl ?_
  refine g12_7 dX12_wantMore_7 ?_
  refine rj_ic1 dX12_wantMore_10 ?_
  refine rj_iald (by first | assumption | rfl) (vpi (by decide) (by decide)) dX12_wantMore_11 ?_
  rw [show (1 : Int32).toNatClampNeg = 1 from rfl, show υ.1 113 1 = nI F.2.2.length from hX1.2.1.1.2.1]
  refine rj_ic1 dX12_wantMore_12 ?_
  refine rj_isub dX12_wantMore_13 ?_
  refine rj_V2 (ci := 12) cX12_278 rfl (by decide) (by first | assumption | rfl) dX12_wantMore_14 (c_X12_wantNumber1 hb hX1) (fitM (by decide) (by decide)) (Nat.le_of_ble_eq_true rfl) ?_
  rintro v υ2 ⟨⟨c, rfl, hc⟩, hX2, ho2⟩
  simp only [Option.toList, List.cons_append, List.nil_append]
  refine rj_ist1 dX12_wantMore_17 (by decide) rfl ?_
  refine rj_ald0 dX12_wantMore_18 rfl ?_
  refine g12_268 dX12_wantMore_19 ?_
  rw [hX2.1]
  refine rj_if_eq (tgt := 30) dX12_wantMore_22 (by decide) (fun h_22 => ?_) (fun h_22 => ?_)
  · have hni : ¬ isN (bsA A) (nx (bsA A) p) 0 (nI F.2.2.length - 1) := fun z => by rw [decide_eq_true z] at h_22; exact absurd h_22 (by decide)
    rw [if_neg hni, decide_eq_false hni] at hX2
    refine rj_vret dX12_wantMore_30 ?_
    have e : tlM (bsA A) p F = (false, nx (bsA A) p, F) := by unfold tlM; rw [if_neg hni]
    rw [e]
    exact ⟨rfl, hX2, ho1.tr ho2⟩
  · have hni : isN (bsA A) (nx (bsA A) p) 0 (nI F.2.2.length - 1) := Classical.byContradiction (fun z => h_22 (by rw [decide_eq_false z]; rfl))
    rw [if_pos hni, decide_eq_true hni] at hX2
    have hcr := hc hni
    have hc1 := hni.2
    rw [← hcr, t0, hls] at hc1
    refine rj_ald0 dX12_wantMore_25 rfl ?_
    refine rj_ild1 dX12_wantMore_26 rfl ?_
    refine rj_V1 (ci := 12) cX12_281 rfl (by decide) (by first | assumption | rfl) dX12_wantMore_27 (c_X12_wantCrossing (j := c.toInt.toNat) hb hX2 (by omega) (by omega)) (fitM (by decide) (by decide)) (Nat.le_of_ble_eq_true rfl) ?_
    rintro v υ3 ⟨rfl, hX3, ho3⟩
    simp only [Option.toList, List.nil_append]
    refine rj_vret dX12_wantMore_30 ?_
    have e : tlM (bsA A) p F = tlC (bsA A) c.toInt.toNat (nx (bsA A) (nx (bsA A) p)) F := by unfold tlM; rw [if_pos hni, hcr]
    rw [e]
    exact ⟨rfl, hX3, (ho1.tr ho2).tr ho3⟩

set_option maxRecDepth 100000 in
theorem c_X12_wantRopes {l : Launch} {X : CX} {σ : ST} {A : SA} {F : FA} {p : Nat} (hb : byP A) (h : XS σ A true p F) : MJ l X 4 yX12_wantRopes cX12_wantRopes 2 none [.ref (ad X 112)] σ (WQ σ A (tlR (bsA A) p F)) := by
  refine MJ_of (own := RX12) [some (.ref (ad X 112)), none] (by decide) rfl (Nat.le_of_ble_eq_true rfl) rfl ?_
  have h1 : σ.1 113 1 = nI F.2.2.length := h.2.1.1.2.1
  have h8 : F.2.2.length ≤ 8 := h.2.1.1.2.2.2.1
  have hlt : (nI F.2.2.length).toInt = F.2.2.length := nI_t (by omega)
  refine rj_ald0 dX12_wantRopes_0 rfl ?_
  refine rj_ald0 dX12_wantRopes_1 rfl ?_
  refine g12_7 dX12_wantRopes_2 ?_
  refine rj_ic1 dX12_wantRopes_5 ?_
  refine rj_iald (by first | assumption | rfl) (vpi (by decide) (by decide)) dX12_wantRopes_6 ?_
  rw [show (1 : Int32).toNatClampNeg = 1 from rfl, h1]
  refine rj_if_ne (tgt := 14) dX12_wantRopes_7 (by decide) (fun h_7 => ?_) (fun h_7 => ?_)
  · have hz : 0 < F.2.2.length := by
      rcases Nat.eq_zero_or_pos F.2.2.length with z | z
      · exact absurd (by rw [z]; rfl) h_7
      · exact z
    refine rj_ic0 dX12_wantRopes_14 ?_
    refine p12_268 (by first | exact Or.inl rfl | exact Or.inr rfl) dX12_wantRopes_15 ?_
    refine rj_ald0 dX12_wantRopes_18 rfl ?_
    refine g12_268 dX12_wantRopes_19 ?_
    rw [ui_same]
    refine rj_if_ne (tgt := 26) dX12_wantRopes_22 (by decide) (fun h_22 => ?_) (fun h_22 => ?_)
    · exact absurd rfl h_22
    · refine rj_vret dX12_wantRopes_25 ?_
      have e : tlR (bsA A) p F = (false, p, F) := by unfold tlR; rw [if_pos hz]
      rw [e]
      exact ⟨rfl, x_g false h, oX_g⟩
  · have hz : ¬ 0 < F.2.2.length := by have := congrArg Int32.toInt h_7; rw [hlt, t0] at this; omega
    refine rj_ic1 dX12_wantRopes_10 ?_
    refine rj_goto (tgt := 15) dX12_wantRopes_11 (by decide) ?_
    refine p12_268 (by first | exact Or.inl rfl | exact Or.inr rfl) dX12_wantRopes_15 ?_
    refine rj_ald0 dX12_wantRopes_18 rfl ?_
    refine g12_268 dX12_wantRopes_19 ?_
    rw [ui_same]
    refine rj_if_ne (tgt := 26) dX12_wantRopes_22 (by decide) (fun h_22 => ?_) (fun h_22 => ?_)
    · refine rj_ald0 dX12_wantRopes_26 rfl ?_
      refine rj_V0 (ci := 12) cX12_272 rfl (by decide) (by first | assumption | rfl) dX12_wantRopes_27 (x_adv hb (x_g true h)) (fitM (by decide) (by decide)) (Nat.le_of_ble_eq_true rfl) ?_
      rintro v υ ⟨rfl, hX1, ho1⟩
      simp only [Option.toList, List.nil_append]
      refine rj_ald0 dX12_wantRopes_30 rfl ?_
      refine rj_ic2 dX12_wantRopes_31 ?_
      refine rj_ic4 dX12_wantRopes_32 ?_
      refine rj_V2 (ci := 12) cX12_278 rfl (by decide) (by first | assumption | rfl) dX12_wantRopes_33 (c_X12_wantNumber1 hb hX1) (fitM (by decide) (by decide)) (Nat.le_of_ble_eq_true rfl) ?_
      rintro v υ2 ⟨⟨c, rfl, hc⟩, hX2, ho2⟩
      simp only [Option.toList, List.cons_append, List.nil_append]
      refine rj_ist1 dX12_wantRopes_36 (by decide) rfl ?_
      refine rj_ald0 dX12_wantRopes_37 rfl ?_
      refine g12_268 dX12_wantRopes_38 ?_
      rw [hX2.1]
      refine rj_if_eq (tgt := 51) dX12_wantRopes_41 (by decide) (fun h_41 => ?_) (fun h_41 => ?_)
      · have hni : ¬ isN (bsA A) (nx (bsA A) p) 2 4 := fun z => by rw [decide_eq_true z] at h_41; exact absurd h_41 (by decide)
        rw [if_neg hni, decide_eq_false hni] at hX2
        refine rj_vret dX12_wantRopes_51 ?_
        have e : tlR (bsA A) p F = (false, nx (bsA A) p, F) := by unfold tlR; rw [if_neg hz, if_neg hni]
        rw [e]
        exact ⟨rfl, hX2, (oX_g.tr ho1).tr ho2⟩
      · have hni : isN (bsA A) (nx (bsA A) p) 2 4 := Classical.byContradiction (fun z => h_41 (by rw [decide_eq_false z]; rfl))
        rw [if_pos hni, decide_eq_true hni] at hX2
        have hcr := hc hni
        refine rj_ald0 dX12_wantRopes_44 rfl ?_
        refine g12_7 dX12_wantRopes_45 ?_
        refine rj_ic0 dX12_wantRopes_48 ?_
        refine rj_ild1 dX12_wantRopes_49 rfl ?_
        refine rj_iast (by first | assumption | rfl) (vpi (by decide) (by decide)) dX12_wantRopes_50 ?_
        rw [show (0 : Int32).toNatClampNeg = 0 from rfl]
        refine rj_vret dX12_wantRopes_51 ?_
        have e : tlR (bsA A) p F = (true, nx (bsA A) (nx (bsA A) p), ((tR (bsA A) (nx (bsA A) p)).2, F.2)) := by unfold tlR; rw [if_neg hz, if_pos hni]
        rw [e, ← hcr]
        have ho3 : off (fun a => a = 113) υ2 (ui υ2 113 0 c) := off.rf.ui rfl
        have hm := mr_row hX2.2.1 (fm_rope (g := (ui υ2 113 0 c).1 113) (v := c) hX2.2.1.1 (ui_same _ _ _ _) (fun b hb => by rw [ui_at, if_neg (fun z => hb z.2)])) ho3 rfl
        exact ⟨rfl, ⟨by rw [(ho3 112 (by decide)).1]; exact hX2.1, hm.1, tk_3 hX2.2.2.1 ho3, hX2.2.2.2⟩, ((oX_g.tr ho1).tr ho2).tr (ho3.mono (fun a ha => Or.inr ha))⟩
    · exact absurd h_22 (by decide)

theorem wc_d : ∀ i, i < 8 → ∀ j, j < 8 → wcd.getD i 0 = wcd.getD j 0 → i = j := by decide +kernel
theorem isW_u {bs : List Int32} {p i j : Nat} (hp : p ≤ bs.length) (hi : i < 8) (hj : j < 8) (h1 : isW bs p i) (h2 : isW bs p j) : i = j := wc_d i hi j hj (by rw [← (w_iff hi hp h1.1).mpr h1, (w_iff hj hp h2.1).mpr h2])
theorem kdN_c (bs : List Int32) (p : Nat) : ∀ n j, j + n ≤ 6 → (∃ q, j ≤ q ∧ q < j + n ∧ isW bs p (2 + q) ∧ kdN bs p n j = nI q) ∨ ((∀ q, j ≤ q → q < j + n → ¬ isW bs p (2 + q)) ∧ kdN bs p n j = -1)
  | 0, j, _ => Or.inr ⟨fun q h1 h2 => absurd h2 (by omega), rfl⟩
  | n + 1, j, h => by
    unfold kdN
    by_cases z : isW bs p (2 + j)
    · rw [if_pos z]; exact Or.inl ⟨j, Nat.le_refl _, by omega, z, rfl⟩
    · rw [if_neg z]
      rcases kdN_c bs p n (j + 1) (by omega) with ⟨q, a, b, c, d⟩ | ⟨a, b⟩
      · exact Or.inl ⟨q, by omega, by omega, c, d⟩
      · refine Or.inr ⟨fun q h1 h2 => ?_, b⟩
        by_cases y : q = j
        · rw [y]; exact z
        · exact a q (by omega) (by omega)
set_option maxRecDepth 100000 in
theorem c_X12_wantItem {l : Launch} {X : CX} {σ : ST} {A : SA} {F : FA} {p : Nat} (hb : byP A) (h : XS σ A true p F) : MJ l X 6 yX12_wantItem cX12_wantItem 1 none [.ref (ad X 112)] σ (WQ σ A (tlI (bsA A) p F)) := by
  refine MJ_of (own := RX12) [some (.ref (ad X 112))] (by decide) rfl (Nat.le_of_ble_eq_true rfl) rfl ?_
  have hp := h.2.2.2
  have hK := h.2.2.1
  have hkc := kdN_c (bsA A) p 6 0 (by omega)
  refine rj_ald0 dX12_wantItem_0 rfl ?_
  refine rj_V0i (ci := 12) cX12_284 rfl (by decide) (by first | assumption | rfl) dX12_wantItem_1 (c_X12_kindHere hK hp) (fitM (by decide) (by decide)) (Nat.le_of_ble_eq_true rfl) ?_
  refine rj_if_lt (tgt := 18) dX12_wantItem_4 (by decide) (fun h_4 => ?_) (fun h_4 => ?_)
  · refine rj_ald0 dX12_wantItem_18 rfl ?_
    refine rj_ldc2 kX12_291 dX12_wantItem_19 ?_
    refine rj_V1i (ci := 12) cX12_254 rfl (by decide) (by first | assumption | rfl) dX12_wantItem_22 (c_X12_isWord hK hp (i := 1) (by decide) rfl) (fitM (by decide) (by decide)) (Nat.le_of_ble_eq_true rfl) ?_
    refine rj_if_eq (tgt := 35) dX12_wantItem_25 (by decide) (fun h_25 => ?_) (fun h_25 => ?_)
    · have hb_25 := bz_t h_25
      refine rj_ald0 dX12_wantItem_35 rfl ?_
      refine rj_ldc2 kX12_296 dX12_wantItem_36 ?_
      refine rj_V1i (ci := 12) cX12_254 rfl (by decide) (by first | assumption | rfl) dX12_wantItem_39 (c_X12_isWord hK hp (i := 0) (by decide) rfl) (fitM (by decide) (by decide)) (Nat.le_of_ble_eq_true rfl) ?_
      refine rj_if_eq (tgt := 52) dX12_wantItem_42 (by decide) (fun h_42 => ?_) (fun h_42 => ?_)
      · have hb_42 := bz_t h_42
        refine rj_ald0 dX12_wantItem_52 rfl ?_
        refine rj_ic0 dX12_wantItem_53 ?_
        refine p12_268 (by first | exact Or.inl rfl | exact Or.inr rfl) dX12_wantItem_54 ?_
        refine rj_vret dX12_wantItem_57 ?_
        have e : tlI (bsA A) p F = (false, p, F) := by
          unfold tlI tlT
          rw [if_neg hb_42, if_neg hb_25, if_neg (fun z => by have := z.1.1; omega)]
        rw [e]
        exact ⟨rfl, x_g false h, oX_g⟩
      · have hb_42 := bz_f h_42
        refine rj_ald0 dX12_wantItem_45 rfl ?_
        refine rj_V0 (ci := 12) cX12_298 rfl (by decide) (by first | assumption | rfl) dX12_wantItem_46 (c_X12_wantRopes hb h) (fitM (by decide) (by decide)) (Nat.le_of_ble_eq_true rfl) ?_
        rintro v υ ⟨rfl, hX1, ho1⟩
        simp only [Option.toList, List.nil_append]
        refine rj_goto (tgt := 57) dX12_wantItem_49 (by decide) ?_
        refine rj_vret dX12_wantItem_57 ?_
        have e : tlI (bsA A) p F = tlR (bsA A) p F := by unfold tlI; rw [if_pos hb_42]
        rw [e]
        exact ⟨rfl, hX1, ho1⟩
    · have hb_25 := bz_f h_25
      have hn0 : ¬ isW (bsA A) p 0 := fun z => absurd (isW_u hp (by decide) (by decide) hb_25 z) (by omega)
      refine rj_ald0 dX12_wantItem_28 rfl ?_
      refine rj_V0 (ci := 12) cX12_293 rfl (by decide) (by first | assumption | rfl) dX12_wantItem_29 (c_X12_wantMore hb h) (fitM (by decide) (by decide)) (Nat.le_of_ble_eq_true rfl) ?_
      rintro v υ ⟨rfl, hX1, ho1⟩
      simp only [Option.toList, List.nil_append]
      refine rj_goto (tgt := 57) dX12_wantItem_32 (by decide) ?_
      refine rj_vret dX12_wantItem_57 ?_
      have e : tlI (bsA A) p F = tlM (bsA A) p F := by unfold tlI; rw [if_neg hn0, if_pos hb_25]
      rw [e]
      exact ⟨rfl, hX1, ho1⟩
  · obtain ⟨q, q1, q2, q3, q4⟩ : ∃ q, 0 ≤ q ∧ q < 0 + 6 ∧ isW (bsA A) p (2 + q) ∧ kdN (bsA A) p 6 0 = nI q := hkc.resolve_right (fun z => by rw [z.2] at h_4; exact absurd h_4 (by decide))
    have hqt : (nI q).toInt = q := nI_t (by omega)
    have hkr : 0 ≤ (kdN (bsA A) p 6 0).toInt ∧ (kdN (bsA A) p 6 0).toInt < 6 := by rw [q4, hqt]; omega
    have hn0 : ¬ isW (bsA A) p 0 := fun z => absurd (isW_u hp (by omega) (by decide) q3 z) (by omega)
    have hn1 : ¬ isW (bsA A) p 1 := fun z => absurd (isW_u hp (by omega) (by decide) q3 z) (by omega)
    refine rj_ald0 dX12_wantItem_7 rfl ?_
    refine rj_ald0 dX12_wantItem_8 rfl ?_
    refine rj_V0i (ci := 12) cX12_284 rfl (by decide) (by first | assumption | rfl) dX12_wantItem_9 (c_X12_kindHere hK hp) (fitM (by decide) (by decide)) (Nat.le_of_ble_eq_true rfl) ?_
    refine rj_V1 (ci := 12) cX12_288 rfl (by decide) (by first | assumption | rfl) dX12_wantItem_12 (c_X12_wantTie hb h hkr) (fitM (by decide) (by decide)) (Nat.le_of_ble_eq_true rfl) ?_
    rintro v υ ⟨rfl, hX1, ho1⟩
    simp only [Option.toList, List.nil_append]
    refine rj_goto (tgt := 57) dX12_wantItem_15 (by decide) ?_
    refine rj_vret dX12_wantItem_57 ?_
    have e : tlI (bsA A) p F = tlT (bsA A) (kdN (bsA A) p 6 0) p F := by unfold tlI; rw [if_neg hn0, if_neg hn1]
    rw [e]
    exact ⟨rfl, hX1, ho1⟩

