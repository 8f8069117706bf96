/-! helpers on rows, strands, colours -/
abbrev lyA (A : SA) (j : Nat) : List Int32 := ly (fT A j).1 A.2.1.1 (fT A j).2
theorem lc_ok {kind rc c : Int32} (hr : 2 ≤ rc.toInt ∧ rc.toInt ≤ 4) (h : okc rc c.toInt) : okc rc (lc kind rc c).toInt := by
  unfold okc at h ⊢
  unfold lc
  split
  · rw [i_neg (by omega)]; omega
  · split
    · split
      · rw [i_sub (by omega) (by omega)]; omega
      · rw [i_add (by omega) (by omega)]; omega
    · exact h
theorem ly_ok {kind rc : Int32} {xs : List Int32} (hr : 2 ≤ rc.toInt ∧ rc.toInt ≤ 4) (h : okL rc xs) : okL rc (ly kind rc xs) := by
  have h1 : okL rc (ly1 kind rc xs) := by
    intro c hc
    unfold ly1 at hc
    obtain ⟨a, ha, rfl⟩ := List.mem_map.mp hc
    refine lc_ok hr (h a ?_)
    split at ha
    · exact List.mem_reverse.mp ha
    · exact ha
  intro c hc
  unfold ly at hc
  split at hc
  · exact (List.mem_append.mp hc).elim (h1 c) (h1 c)
  · exact h1 c hc
theorem wf_ly {A : SA} (hw : wf A) {j : Nat} (hj : j < A.2.1.2.2.length) : okL A.2.1.1 (lyA A j) := ly_ok ⟨hw.1.1, hw.1.2.1⟩ (wf_t hw hj).2.2.2
theorem tk_out {σ : ST} {fb j k : Nat} {A : SA} (h : CR σ fb A) (hk : k < 52) : tk fb j + 1 ≠ k := by unfold tk; rcases h.1 with rfl | rfl <;> omega
theorem cr_frow {σ : ST} {fb k : Nat} {A : SA} (h : CR σ fb A) (hk : k = 33 ∨ k = 35) : (∃ ys, Rw σ k ys) ∧ kd k = 2 ∧ ln (k + 1) = 24 := by
  obtain ⟨s1, s2, -⟩ := h.2.2.2.2.2.2.2.2.2.2
  rcases hk with rfl | rfl
  · exact ⟨s1, rfl, rfl⟩
  · exact ⟨s2, rfl, rfl⟩
set_option maxRecDepth 100000 in
theorem c_X11_layPulled {l : Launch} {X : CX} {σ : ST} {fb j : Nat} {A : SA} (hC : CR σ fb A) (hj : j < A.2.1.2.2.length) {k : Nat} (hk3 : k = 33 ∨ k = 35) : MJ l X 4 yX11_layPulled cX11_layPulled 3 none [.ref (ad X 0), .ref (ad X (tk fb j)), .ref (ad X k)] σ (PV (fun τ => CR τ fb A ∧ Rw τ k (red (lyA A j)) ∧ off (rowC k) σ τ)) := by
  refine MJ_of (own := RX11) [some (.ref (ad X 0)), some (.ref (ad X (tk fb j))), some (.ref (ad X k))] (by decide) rfl (Nat.le_of_ble_eq_true rfl) rfl ?_
  have hkt := (fair_next (cr_k hC)).2.2 j (Nat.lt_of_lt_of_le hj hC.2.2.2.2.1.2.2.2.1)
  have hti : Ti _ (tk fb j) (fT A j).1 (fT A j).2 := fr_tie hC.2.2.2.2.1 hj
  have hk := cr_k hC
  have hF := hC.2.2.2.2.1
  obtain ⟨⟨ys, hy⟩, hkk, hc⟩ := cr_frow hC hk3
  refine rj_ald2 dX11_layPulled_0 rfl ?_
  refine rj_ald1 dX11_layPulled_1 rfl ?_
  refine rj_ald0 dX11_layPulled_2 rfl ?_
  refine g11_76 dX11_layPulled_3 ?_
  rw [cr_f hC]
  refine g11_97 (by first | assumption | rfl) dX11_layPulled_6 ?_
  rw [hF.2.1]
  refine rj_V2 (ci := 2) cX11_198 rfl (by decide) (by first | assumption | rfl) dX11_layPulled_9 (c_X2_layOut hkk hkt (tk_out hC (by omega)) hc hy hti) (fitM (by decide) (by decide)) (Nat.le_of_ble_eq_true rfl) ?_
  rintro v τ ⟨rfl, hx1, ho1⟩
  simp only [Option.toList, List.nil_append]
  refine rj_ald2 dX11_layPulled_12 rfl ?_
  refine rj_V0 (ci := 2) cX11_165 rfl (by decide) (by first | assumption | rfl) dX11_layPulled_13 (c_X2_tighten hkk hx1) (fitM (by decide) (by decide)) (Nat.le_of_ble_eq_true rfl) ?_
  rintro v υ ⟨rfl, hx2, ho2⟩
  simp only [Option.toList, List.nil_append]
  refine rj_vret dX11_layPulled_16 ?_
  exact ⟨rfl, (cr_row hC (by omega) hx2 (ho1.tr ho2)).1, hx2, ho1.tr ho2⟩

def foP (k : Nat) : Nat → Prop := fun a => rowC 33 a ∨ sdC k a
set_option maxRecDepth 100000 in
theorem c_X11_follow {l : Launch} {X : CX} {σ : ST} {fb j : Nat} {A : SA} (hC : CR σ fb A) (hj : j < A.2.1.2.2.length) (hw : wf A) {k : Nat} (hk3 : k = 37 ∨ k = 40) : MJ l X 4 yX11_follow cX11_follow 3 none [.ref (ad X 0), .ref (ad X (tk fb j)), .ref (ad X k)] σ (PV (fun τ => CR τ fb A ∧ Sd τ k A.2.1.1 (lyA A j) ∧ off (foP k) σ τ)) := by
  refine MJ_of (own := RX11) [some (.ref (ad X 0)), some (.ref (ad X (tk fb j))), some (.ref (ad X k))] (by decide) rfl (Nat.le_of_ble_eq_true rfl) rfl ?_
  have hkt := (fair_next (cr_k hC)).2.2 j (Nat.lt_of_lt_of_le hj hC.2.2.2.2.1.2.2.2.1)
  have hti : Ti _ (tk fb j) (fT A j).1 (fT A j).2 := fr_tie hC.2.2.2.2.1 hj
  have hk := cr_k hC
  have hF := hC.2.2.2.2.1
  obtain ⟨⟨ys, hy⟩, hkk, hc⟩ := cr_frow hC (k := 33) (Or.inl rfl)
  have hks : kd k = 5 := by rcases hk3 with rfl | rfl <;> rfl
  refine rj_ald0 dX11_follow_0 rfl ?_
  refine g11_38 dX11_follow_1 ?_
  refine rj_ald1 dX11_follow_4 rfl ?_
  refine rj_ald0 dX11_follow_5 rfl ?_
  refine g11_76 dX11_follow_6 ?_
  rw [cr_f hC]
  refine g11_97 (by first | assumption | rfl) dX11_follow_9 ?_
  rw [hF.2.1]
  refine rj_V2 (ci := 2) cX11_198 rfl (by decide) (by first | assumption | rfl) dX11_follow_12 (c_X2_layOut hkk hkt (tk_out hC (by omega)) hc hy hti) (fitM (by decide) (by decide)) (Nat.le_of_ble_eq_true rfl) ?_
  rintro v τ ⟨rfl, hx1, ho1⟩
  simp only [Option.toList, List.nil_append]
  have hC1 := (cr_row hC (Or.inl rfl) hx1 ho1).1
  refine rj_ald2 dX11_follow_15 rfl ?_
  refine rj_ald0 dX11_follow_16 rfl ?_
  refine g11_38 dX11_follow_17 ?_
  refine rj_ald0 dX11_follow_20 rfl ?_
  refine g11_76 dX11_follow_21 ?_
  rw [cr_f hC1]
  refine g11_97 (by first | assumption | rfl) dX11_follow_24 ?_
  rw [hC1.2.2.2.2.1.2.1]
  refine rj_V2 (ci := 5) cX11_322 rfl (by decide) (by first | assumption | rfl) dX11_follow_27 (c_X5_follow hks hkk hx1 (wf_ly hw hj) ⟨hw.1.1, hw.1.2.1⟩) (fitM (by decide) (by decide)) (Nat.le_of_ble_eq_true rfl) ?_
  rintro v υ ⟨rfl, hS2, ho2⟩
  simp only [Option.toList, List.nil_append]
  refine rj_vret dX11_follow_30 ?_
  exact ⟨rfl, (cr_oth hC1 ho2 (fun a ha => by unfold sdC at ha; omega)).1, hS2, (ho1.mono (fun a ha => Or.inl ha)).tr (ho2.mono (fun a ha => Or.inr ha))⟩

def pwr (b : Int32) : Nat → Int32
  | 0 => 1
  | n + 1 => pwr b n * b
set_option maxRecDepth 100000 in
theorem l_X11_power {l : Launch} {X : CX} {h : Nat} {Q : Option Value → ST → Prop} {σ : ST} {b e : Int32} (hQ : Q (some (.int (pwr b e.toInt.toNat))) σ) : ∀ (N i : Nat), e.toInt.toNat < i + N → i ≤ e.toInt.toNat → RJ (GM l X h Q) X cX11_power 4 (some .int) RX11 4 [some (.int b), some (.int e), some (.int (pwr b i)), some (.int (nI i))] [] σ := by
  intro N
  induction N with
  | zero => intro i hN hi; exact absurd hN (by omega)
  | succ N ih =>
    intro i hN hi
    have hit : (nI i).toInt = i := nI_t (by have := i_hi e; omega)
    refine rj_ild3 dX11_power_4 rfl ?_
    refine rj_ild1 dX11_power_5 rfl ?_
    refine rj_ic_ge (tgt := 19) dX11_power_6 (by decide) (fun h_6 => ?_) (fun h_6 => ?_)
    · refine rj_ild2 dX11_power_19 rfl ?_
      refine rj_iret dX11_power_20 ?_
      rw [show i = e.toInt.toNat by omega]
      exact hQ
    · refine rj_ild2 dX11_power_9 rfl ?_
      refine rj_ild0 dX11_power_10 rfl ?_
      refine rj_imul dX11_power_11 ?_
      refine rj_ist2 dX11_power_12 (by decide) rfl ?_
      refine rj_iinc3 (d := 1) dX11_power_13 (by decide) rfl (by decide) ?_
      rw [nI_1]
      refine rj_goto (tgt := 4) dX11_power_16 (by decide) ?_
      exact ih (i + 1) (by omega) (by omega)

set_option maxRecDepth 100000 in
theorem c_X11_power {l : Launch} {X : CX} {σ : ST} {b e : Int32} : MJ l X 0 yX11_power cX11_power 4 (some .int) [.int b, .int e] σ (eqI (pwr b e.toInt.toNat) σ) := by
  refine MJ_of (own := RX11) [some (.int b), some (.int e), none, none] (by decide) rfl (Nat.le_of_ble_eq_true rfl) rfl ?_
  refine rj_ic1 dX11_power_0 ?_
  refine rj_ist2 dX11_power_1 (by decide) rfl ?_
  refine rj_ic0 dX11_power_2 ?_
  refine rj_ist3 dX11_power_3 (by decide) rfl ?_
  exact l_X11_power ⟨rfl, rfl⟩ (e.toInt.toNat + 1) 0 (by omega) (by omega)

def colN (A : SA) (j : Nat) (p : Int32) : Int32 := pwr p (frN A.2.1.1.toInt.toNat p.toInt (lyA A j))
def coP : Nat → Prop := fun a => rowC 33 a ∨ rowC 43 a
theorem frN_le (rc : Nat) (p : Int) (xs : List Int32) : frN rc p xs ≤ rc := by unfold frN; omega
set_option maxRecDepth 100000 in
theorem c_X11_coloursOf {l : Launch} {X : CX} {σ : ST} {fb j : Nat} {A : SA} (hC : CR σ fb A) (hj : j < A.2.1.2.2.length) (hw : wf A) {p : Int32} (hp : 2 ≤ p.toInt ∧ p.toInt ≤ 7) : MJ l X 5 yX11_coloursOf cX11_coloursOf 4 (some .int) [.ref (ad X 0), .ref (ad X (tk fb j)), .int p] σ (PI (fun r τ => r = colN A j p ∧ CR τ fb A ∧ off coP σ τ)) := by
  refine MJ_of (own := RX11) [some (.ref (ad X 0)), some (.ref (ad X (tk fb j))), some (.int p), none] (by decide) rfl (Nat.le_of_ble_eq_true rfl) rfl ?_
  have hkt := (fair_next (cr_k hC)).2.2 j (Nat.lt_of_lt_of_le hj hC.2.2.2.2.1.2.2.2.1)
  have hti : Ti _ (tk fb j) (fT A j).1 (fT A j).2 := fr_tie hC.2.2.2.2.1 hj
  have hk := cr_k hC
  have hF := hC.2.2.2.2.1
  obtain ⟨⟨ys, hy⟩, hkk, hc⟩ := cr_frow hC (k := 33) (Or.inl rfl)
  refine rj_ald0 dX11_coloursOf_0 rfl ?_
  refine g11_38 dX11_coloursOf_1 ?_
  refine rj_ald1 dX11_coloursOf_4 rfl ?_
  refine rj_ald0 dX11_coloursOf_5 rfl ?_
  refine g11_76 dX11_coloursOf_6 ?_
  rw [cr_f hC]
  refine g11_97 (by first | assumption | rfl) dX11_coloursOf_9 ?_
  rw [hF.2.1]
  refine rj_V2 (ci := 2) cX11_198 rfl (by decide) (by first | assumption | rfl) dX11_coloursOf_12 (c_X2_layOut hkk hkt (tk_out hC (by omega)) hc hy hti) (fitM (by decide) (by decide)) (Nat.le_of_ble_eq_true rfl) ?_
  rintro v τ ⟨rfl, hx1, ho1⟩
  simp only [Option.toList, List.nil_append]
  have hC1 := (cr_row hC (Or.inl rfl) hx1 ho1).1
  refine rj_ald0 dX11_coloursOf_15 rfl ?_
  refine g11_58 dX11_coloursOf_16 ?_
  refine rj_ald0 dX11_coloursOf_19 rfl ?_
  refine g11_38 dX11_coloursOf_20 ?_
  refine rj_ald0 dX11_coloursOf_23 rfl ?_
  refine g11_76 dX11_coloursOf_24 ?_
  rw [cr_f hC1]
  refine g11_97 (by first | assumption | rfl) dX11_coloursOf_27 ?_
  rw [hC1.2.2.2.2.1.2.1]
  refine rj_ild2 dX11_coloursOf_30 rfl ?_
  refine rj_V3 (ci := 0) cX11_325 rfl (by decide) (by first | assumption | rfl) dX11_coloursOf_31 (c_X0_freeOnes rfl hkk hx1 (wf_ly hw hj) ⟨hw.1.1, hw.1.2.1⟩ hp) (fitM (by decide) (by decide)) (Nat.le_of_ble_eq_true rfl) ?_
  rintro v υ ⟨r, rfl, rfl, ho2⟩
  simp only [Option.toList, List.cons_append, List.nil_append]
  refine rj_ist3 dX11_coloursOf_34 (by decide) rfl ?_
  refine rj_ild2 dX11_coloursOf_35 rfl ?_
  refine rj_ild3 dX11_coloursOf_36 rfl ?_
  refine rj_S2i cX11_221 dX11_coloursOf_37 c_X11_power (fitM (by decide) (by decide)) (Nat.le_of_ble_eq_true rfl) ?_
  refine rj_iret dX11_coloursOf_40 ?_
  refine ⟨_, rfl, ?_, (cr_oth hC1 ho2 (fun a ha => by unfold rowC at ha; omega)).1, (ho1.mono (fun a ha => Or.inl ha)).tr (ho2.mono (fun a ha => Or.inr ha))⟩
  have hle : frN A.2.1.1.toInt.toNat p.toInt (ly (fT A j).1 A.2.1.1 (fT A j).2) ≤ A.2.1.1.toInt.toNat := frN_le _ _ _
  have h4 := hw.1.2.1
  rw [nI_t (by omega)]
  rfl

theorem cn_i : ∀ q, q < 3 → (cnL.getD q 0 = 3 ∨ cnL.getD q 0 = 5 ∨ cnL.getD q 0 = 7) := by decide
theorem cn_o {p : Int32} (h : ∀ q, q < 3 → ¬ cnL.getD q 0 = p) : ¬ (p = 3 ∨ p = 5 ∨ p = 7) := by
  rintro (rfl | rfl | rfl)
  · exact h 0 (by decide) rfl
  · exact h 1 (by decide) rfl
  · exact h 2 (by decide) rfl
set_option maxRecDepth 100000 in
theorem l_X11_isCN {l : Launch} {X : CX} {h : Nat} {Q : Option Value → ST → Prop} {σ : ST} {p : Int32} (hQ : Q (some (.int (if p = 3 ∨ p = 5 ∨ p = 7 then 1 else 0))) σ) : ∀ (N i : Nat) (v4 : Option Value), 3 < i + N → (i ≤ 3 ∧ ∀ q, q < i → ¬ cnL.getD q 0 = p) → RJ (GM l X h Q) X cX11_isColourNumber 5 (some .boolean) RX11 9 [some (.int p), some (.ref (X.2.2.2 1)), some (.int 3), some (.int (nI i)), v4] [] σ := by
  intro N
  induction N with
  | zero => intro i v4 hN hi; have := hi.1; exact absurd hN (by omega)
  | succ N ih =>
    intro i v4 hN hi
    obtain ⟨hi, hv⟩ := hi
    have hit : (nI i).toInt = i := nI_t (by omega)
    have h3 : (3 : Int32).toInt = 3 := by decide
    refine rj_ild3 dX11_isColourNumber_9 rfl ?_
    refine rj_ild2 dX11_isColourNumber_10 rfl ?_
    refine rj_ic_ge (tgt := 33) dX11_isColourNumber_11 (by decide) (fun h_11 => ?_) (fun h_11 => ?_)
    · refine rj_ic0 dX11_isColourNumber_33 ?_
      refine rj_zret dX11_isColourNumber_34 (rfl) ?_
      rw [if_neg (cn_o (fun q hq => hv q (by omega)))] at hQ
      exact hQ
    · refine rj_ald1 dX11_isColourNumber_14 rfl ?_
      refine rj_ild3 dX11_isColourNumber_15 rfl ?_
      refine rj_ldCN (vpi (by omega) (by omega)) dX11_isColourNumber_16 ?_
      refine rj_ist4w dX11_isColourNumber_17 (by decide) rfl ?_
      rw [nI_clamp (by omega)]
      refine rj_ild dX11_isColourNumber_19 rfl ?_
      refine rj_ild0 dX11_isColourNumber_21 rfl ?_
      refine rj_ic_ne (tgt := 27) dX11_isColourNumber_22 (by decide) (fun h_22 => ?_) (fun h_22 => ?_)
      · refine rj_iinc3 (d := 1) dX11_isColourNumber_27 (by decide) rfl (by decide) ?_
        rw [nI_1]
        refine rj_goto (tgt := 9) dX11_isColourNumber_30 (by decide) ?_
        exact ih (i + 1) _ (by omega) ⟨by omega, fun q hq => by rcases Nat.lt_or_ge q i with z | z; exact hv q z; rw [show q = i by omega]; exact h_22⟩
      · refine rj_ic1 dX11_isColourNumber_25 ?_
        refine rj_zret dX11_isColourNumber_26 (rfl) ?_
        rw [if_pos (by rw [← h_22]; exact cn_i i (by omega))] at hQ
        exact hQ

set_option maxRecDepth 100000 in
theorem c_X11_isColourNumber {l : Launch} {X : CX} {σ : ST} {p : Int32} : MJ l X 0 yX11_isColourNumber cX11_isColourNumber 5 (some .boolean) [.int p] σ (eqI (if p = 3 ∨ p = 5 ∨ p = 7 then 1 else 0) σ) := by
  refine MJ_of (own := RX11) [some (.int p), none, none, none, none] (by decide) rfl (Nat.le_of_ble_eq_true rfl) rfl ?_
  refine rj_getCN sX11_218 dX11_isColourNumber_0 ?_
  refine rj_ast1 dX11_isColourNumber_3 (by decide) rfl ?_
  refine rj_ald1 dX11_isColourNumber_4 rfl ?_
  refine rj_lenCN dX11_isColourNumber_5 ?_
  refine rj_ist2 dX11_isColourNumber_6 (by decide) rfl ?_
  refine rj_ic0 dX11_isColourNumber_7 ?_
  refine rj_ist3 dX11_isColourNumber_8 (by decide) rfl ?_
  exact l_X11_isCN ⟨rfl, rfl⟩ 4 0 _ (by omega) ⟨by omega, fun q hq => absurd hq (by omega)⟩

