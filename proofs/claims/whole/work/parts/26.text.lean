/-! the text -/
theorem cr_dr {σ τ : ST} {P : Nat → Prop} {fb : Nat} {A : SA} (h : CR σ fb A) (ho : off P σ τ) (hp : ∀ a, P a → fairC (130 - fb) a ∨ a = 31) (hS : FrS τ (130 - fb)) : CR τ fb A ∧ off sysP σ τ := by
  obtain ⟨h1, h2, h3, h4, h5, h6, h7, h8, h9, h10, ⟨a, ha⟩, ⟨b, hb⟩, ⟨c, hc⟩, d, hd⟩ := h
  have q : ∀ a, a < 31 ∨ (32 ≤ a ∧ a < 52) ∨ 104 ≤ a → ¬ P a := fun a ha hb => by have := hp a hb; unfold fairC at this; rcases h1 with rfl | rfl <;> omega
  have qf : ∀ a, P a → ¬ fairC fb a := fun a ha hc => by have := hp a ha; unfold fairC at this hc; rcases h1 with rfl | rfl <;> omega
  have q2 : ∀ a, P a → ¬ fairC 2 a := fun a ha hc => by have := hp a ha; unfold fairC at this hc; rcases h1 with rfl | rfl <;> omega
  refine ⟨⟨h1, by rw [(ho 0 (q 0 (by omega))).1]; exact h2, by rw [(ho 0 (q 0 (by omega))).1]; exact h3, fun j hj => by rw [(ho 1 (q 1 (by omega))).1]; exact h4 j hj, h5.off ho qf, hS, h7.off ho q2, ?_, h9.off ho (q _ (by omega)) (q _ (by omega)), fun s hs => (h10 s hs).off ho (q _ (by omega)) (q _ (by omega)), ⟨a, ha.off ho (q _ (by omega)) (q _ (by omega))⟩, ⟨b, hb.off ho (q _ (by omega)) (q _ (by omega))⟩, ⟨c, hc.off ho (q _ (by omega)) (q _ (by omega))⟩, d, hd.off ho (q _ (by omega)) (q _ (by omega))⟩, ho.mono (fun a ha => by have := hp a ha; unfold fairC at this; unfold sysP; rcases h1 with rfl | rfl <;> omega)⟩
  rcases h8 with ⟨a, b⟩ | ⟨K, a, b, c⟩
  · exact Or.inl ⟨a, by rw [(ho 0 (q 0 (by omega))).1]; exact b⟩
  · exact Or.inr ⟨K, a, by rw [(ho 0 (q 0 (by omega))).1]; exact b, c.off ho q2⟩
theorem cr_swap {σ : ST} {fb : Nat} {A : SA} {F : FA} (h : CR σ fb A) (hF : Fr σ (130 - fb) F) : CR (ui (ui σ 0 11 (nI (130 - fb))) 0 12 (nI fb)) (130 - fb) (A.1, F, A.2.2) ∧ off sysP σ (ui (ui σ 0 11 (nI (130 - fb))) 0 12 (nI fb)) := by
  obtain ⟨h1, h2, h3, h4, h5, h6, h7, h8, h9, h10, ⟨a, ha⟩, ⟨b, hb⟩, ⟨c, hc⟩, d, hd⟩ := h
  have ho0 : off (fun a => a = 0) σ (ui σ 0 11 (nI (130 - fb))) := off.rf.ui rfl
  have ho : off (fun a => a = 0) σ (ui (ui σ 0 11 (nI (130 - fb))) 0 12 (nI fb)) := ho0.ui rfl
  have qf : ∀ b, 1 ≤ b → ∀ a, a = 0 → ¬ fairC b a := fun b hb a ha hc => by unfold fairC at hc; omega
  have h130 : 130 - (130 - fb) = fb := by rcases h1 with rfl | rfl <;> rfl
  refine ⟨⟨by rcases h1 with rfl | rfl <;> omega, by rw [ui_nj (by decide), ui_same], by rw [ui_same, h130], fun j hj => by rw [(ho 1 (by omega)).1]; exact h4 j hj, hF.off ho (qf _ (by rcases h1 with rfl | rfl <;> omega)), by rw [h130]; exact h5.2.2.2.2.2.off ho (qf _ (by omega)), h7.off ho (qf _ (by omega)), ?_, h9.off ho (by omega) (by omega), fun s hs => (h10 s hs).off ho (by omega) (by omega), ⟨a, ha.off ho (by omega) (by omega)⟩, ⟨b, hb.off ho (by omega) (by omega)⟩, ⟨c, hc.off ho (by omega) (by omega)⟩, d, hd.off ho (by omega) (by omega)⟩, ho.mono (fun a ha => by rw [show a = 0 from ha]; unfold sysP; omega)⟩
  rcases h8 with ⟨a, b⟩ | ⟨K, a, b, c⟩
  · exact Or.inl ⟨a, by rw [ui_nj (by decide), ui_nj (by decide)]; exact b⟩
  · exact Or.inr ⟨K, a, by rw [ui_nj (by decide), ui_nj (by decide)]; exact b, c.off ho (qf _ (by omega))⟩
def txA (A : SA) : Int32 × FA := tlA A.2.2.2.1 120 1 0 A.2.1
def F_text (A : SA) : Int32 × SA := if (txA A).1.toInt < 0 then ((txA A).1, tpA A []) else ((txA A).1, A.1, (txA A).2, A.2.2.1, [], A.2.2.2.2)
set_option maxRecDepth 100000 in
theorem c_X11_text {l : Launch} {X : CX} {σ : ST} {fb : Nat} {A : SA} (hC : CR σ fb A) (hw : wf A) : MJ l X 8 yX11_text cX11_text 3 (some .int) [.ref (ad X 0)] σ (OP σ (F_text A)) := by
  refine MJ_of (own := RX11) [some (.ref (ad X 0)), none, none] (by decide) rfl (Nat.le_of_ble_eq_true rfl) rfl ?_
  have hk := cr_k hC
  have hF := hC.2.2.2.2.1
  have hkd := cr_kd hC
  have hne : fb ≠ 130 - fb := by rcases hC.1 with rfl | rfl <;> decide
  have hT := hC.2.2.2.2.2.2.2.2.1
  refine rj_ald0 dX11_text_0 rfl ?_
  refine g11_79 dX11_text_1 ?_
  rw [cr_d hC]
  refine rj_ald0 dX11_text_4 rfl ?_
  refine g11_76 dX11_text_5 ?_
  rw [cr_f hC]
  refine rj_V1 (ci := 1) cX11_259 rfl (by decide) (by first | assumption | rfl) dX11_text_8 (c_X1_take hkd hk hne hF hC.2.2.2.2.2.1) (fitM (by decide) (by decide)) (Nat.le_of_ble_eq_true rfl) ?_
  rintro v τ ⟨rfl, hF1, ho1⟩
  simp only [Option.toList, List.nil_append]
  have hC1 := cr_dr hC ho1 (fun a ha => Or.inl ha) hF1.2.2.2.2.2
  refine rj_ald0 dX11_text_11 rfl ?_
  refine g11_23 dX11_text_12 ?_
  refine rj_ald0 dX11_text_15 rfl ?_
  refine g11_79 dX11_text_16 ?_
  rw [cr_d hC1.1]
  refine rj_S2 cX11_262 dX11_text_19 (c_X7_tell hkd hC1.1.2.2.2.2.2.2.2.2.1 hF1) (fitM (by decide) (by decide)) (Nat.le_of_ble_eq_true rfl) ?_
  rintro v υ ⟨rfl, hT2, hF2, ho2⟩
  simp only [Option.toList, List.cons_append, List.nil_append]
  have hC2 := cr_dr hC1.1 ho2 (fun a ha => ha.elim Or.inr Or.inl) hF2.2.2.2.2.2
  refine rj_ist1 dX11_text_22 (by decide) rfl ?_
  refine rj_ald0 dX11_text_23 rfl ?_
  refine g11_23 dX11_text_24 ?_
  refine rj_V0 (ci := 6) cX11_256 rfl (by decide) (by first | assumption | rfl) dX11_text_27 (c_X6_empty (k := 28) rfl) (fitM (by decide) (by decide)) (Nat.le_of_ble_eq_true rfl) ?_
  rintro v φ ⟨rfl, hT3, ho3⟩
  simp only [Option.toList, List.nil_append]
  have hC3 := cr_tape hC2.1 hT3 ho3
  have hF3 := hF2.off ho3 (fun a ha hb => by unfold rowC at ha; unfold fairC at hb; rcases hC.1 with rfl | rfl <;> omega)
  have ho4 := (hC1.2.tr hC2.2).tr hC3.2
  refine rj_ild1 dX11_text_30 rfl ?_
  refine rj_if_lt (tgt := 52) dX11_text_31 (by decide) (fun h_31 => ?_) (fun h_31 => ?_)
  · refine rj_ild1 dX11_text_52 rfl ?_
    refine rj_iret dX11_text_53 ?_
    have e : F_text A = ((txA A).1, tpA A []) := by unfold F_text txA; rw [if_pos h_31]
    rw [e]
    exact ⟨rfl, ⟨fb, hC3.1⟩, ho4⟩
  · refine rj_ald0 dX11_text_34 rfl ?_
    refine g11_76 dX11_text_35 ?_
    rw [cr_f hC3.1]
    refine rj_ast2 dX11_text_38 (by decide) rfl ?_
    refine rj_ald0 dX11_text_39 rfl ?_
    refine rj_ald0 dX11_text_40 rfl ?_
    refine g11_79 dX11_text_41 ?_
    rw [cr_d hC3.1]
    refine p11_76 (Nat.lt_of_le_of_lt (Nat.sub_le _ _) (by decide)) dX11_text_44 ?_
    refine rj_ald0 dX11_text_47 rfl ?_
    refine rj_ald2 dX11_text_48 rfl ?_
    refine p11_79 (by rcases hC.1 with rfl | rfl <;> decide) dX11_text_49 ?_
    refine rj_ild1 dX11_text_52 rfl ?_
    refine rj_iret dX11_text_53 ?_
    have e : F_text A = ((txA A).1, A.1, (txA A).2, A.2.2.1, [], A.2.2.2.2) := by unfold F_text txA; rw [if_neg (Int.not_lt.mpr h_31)]
    rw [e]
    have hC4 := cr_swap hC3.1 hF3
    exact ⟨rfl, ⟨130 - fb, hC4.1⟩, ho4.tr hC4.2⟩

