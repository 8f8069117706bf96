/-! best, lay, the tape, the image, counts -/
theorem sT_len (A : SA) (j : Nat) (t : TA) : (sT A j t).2.1.2.2.length = A.2.1.2.2.length := by unfold sT; simp
theorem sT_sT (A : SA) (j : Nat) (t u : TA) : sT (sT A j t) j u = sT A j u := by unfold sT; simp
theorem sT_fT {A : SA} {j : Nat} (t : TA) (hj : j < A.2.1.2.2.length) : fT (sT A j t) j = t := by
  show (A.2.1.2.2.set j t).getD j t0A = t
  rw [getD_set _ _ _ _ _ hj, if_pos rfl]
theorem sT_self {A : SA} {j : Nat} (hj : j < A.2.1.2.2.length) : sT A j (fT A j) = A := by
  show (A.1, (A.2.1.1, A.2.1.2.1, A.2.1.2.2.set j (A.2.1.2.2.getD j t0A)), A.2.2) = A
  rw [List.getD, List.getElem?_eq_getElem hj]
  simp
theorem cr_kind2 {σ : ST} {fb j : Nat} {A : SA} {k k2 : Int32} {xs : List Int32} (h : CR σ fb (sT A j (k, xs))) (hj : j < A.2.1.2.2.length) : CR (ui σ (tk fb j) 1 k2) fb (sT A j (k2, xs)) ∧ off sysP σ (ui σ (tk fb j) 1 k2) := by
  have := cr_kind (kind := k2) h (by rw [sT_len]; exact hj)
  rw [sT_sT, sT_fT _ hj] at this
  exact this
def beR (f : Nat → Nat) : Nat → Nat → Int32 → Int32 → Int32
  | 0, _, b, _ => b
  | n + 1, i, b, m => if (nI (f i)).toInt < m.toInt then beR f n (i + 1) (nI i) (nI (f i)) else beR f n (i + 1) b m
def beF (A : SA) (j i : Nat) : Nat := (red (ly (nI i) A.2.1.1 (fT A j).2)).length
def F_best (A : SA) (t : Int32) : Int32 × SA := wT A t fun j => (beR (beF A j) 6 0 0 25, A)
def zA (A : SA) (v : Int32) : SA := (A.1, (A.2.1.1, v, A.2.1.2.2), A.2.2)
theorem cr_z {σ : ST} {fb : Nat} {A : SA} {v : Int32} (h : CR σ fb A) : CR (ui σ fb 3 v) fb (zA A v) ∧ off sysP σ (ui σ fb 3 v) := cr_fair h (fr_z h.2.2.2.2.1).1 (fr_z h.2.2.2.2.1).2
theorem zA_fT (A : SA) (v : Int32) (j : Nat) : fT (zA A v) j = fT A j := rfl
theorem zA_len (A : SA) (v : Int32) : (zA A v).2.1.2.2.length = A.2.1.2.2.length := rfl
def layC (A : SA) : Int32 := if dwv (dwz A.2.1.2.1) 2 = 1 then -(dwv A.2.1.2.1 (A.2.1.1 - 1) + 1) else dwv A.2.1.2.1 (A.2.1.1 - 1) + 1
def layS (A : SA) (j : Nat) : SA := sT (zA (zA A (dwz A.2.1.2.1)) (dwz (dwz A.2.1.2.1))) j ((fT A j).1, (fT A j).2 ++ [layC A])
theorem sz_rc (A : SA) (v u : Int32) (j : Nat) (t : TA) : (sT (zA (zA A v) u) j t).2.1.1 = A.2.1.1 := rfl
theorem layS_rc (A : SA) (j : Nat) : (layS A j).2.1.1 = A.2.1.1 := by unfold layS; rw [sz_rc]
theorem layS_len (A : SA) (j : Nat) : (layS A j).2.1.2.2.length = A.2.1.2.2.length := by unfold layS; rw [sT_len, zA_len, zA_len]
def layR (j : Nat) : Nat → Nat → SA → Int32 × SA
  | 0, i, A => (nI i, A)
  | m + 1, i, A => if (fT A j).2.length < 12 then layR j m (i + 1) (layS A j) else (nI i, A)
def F_lay (A : SA) (t n : Int32) : Int32 × SA := wT A t fun j => if n.toInt < 1 ∨ 12 < n.toInt then fnd A 0 else layR j n.toInt.toNat 0 A
set_option maxRecDepth 100000 in
theorem l_X11_best {l : Launch} {X : CX} {h : Nat} {Q : Option Value → ST → Prop} {σ : ST} {fb j : Nat} {t own : Int32} {A : SA} (hh : 5 ≤ h) (hj : j < A.2.1.2.2.length) (hown : own = (fT A j).1) {r : Int32} (hQ : ∀ v τ, OP σ (r, A) v τ → Q v τ) : ∀ (N i : Nat) (b m : Int32) (κ : Int32) (τ : ST), 6 < i + N → (i ≤ 6 ∧ CR τ fb (sT A j (κ, (fT A j).2)) ∧ off sysP σ τ ∧ beR (beF A j) (6 - i) i b m = r) → RJ (GM l X h Q) X cX11_best 7 (some .int) RX11 35 [some (.ref (ad X 0)), some (.int t), some (.ref (ad X (tk fb j))), some (.int own), some (.int b), some (.int m), some (.int (nI i))] [] τ := by
  intro N
  induction N with
  | zero => intro i b m κ τ hN hi; have := hi.1; exact absurd hN (by omega)
  | succ N ih =>
    intro i b m κ τ hN hi
    obtain ⟨hi, hC, ho, hr⟩ := hi
    have hk := cr_k hC
    have hj2 : j < (sT A j (nI i, (fT A j).2)).2.1.2.2.length := by rw [sT_len]; exact hj
    have hkt := (fair_next hk).2.2 j (Nat.lt_of_lt_of_le (by rw [sT_len]; exact hj) hC.2.2.2.2.1.2.2.2.1)
    have h6 : (6 : Int32).toInt = 6 := by decide
    have hit : (nI i).toInt = i := nI_t (by omega)
    have hC0 := cr_kind2 (k2 := nI i) hC hj
    refine rj_ild dX11_best_35 rfl ?_
    refine rj_bipush (v := 6) dX11_best_37 (by decide) ?_
    refine rj_ic_ge (tgt := 88) dX11_best_39 (by decide) (fun h_39 => ?_) (fun h_39 => ?_)
    · refine rj_ald2 dX11_best_88 rfl ?_
      refine rj_ild3 dX11_best_89 rfl ?_
      refine p11_145 (by first | assumption | rfl) dX11_best_90 ?_
      refine rj_ild dX11_best_93 rfl ?_
      refine rj_iret dX11_best_95 ?_
      rw [show 6 - i = 0 by omega] at hr
      have hm := cr_kind2 (k2 := own) hC hj
      rw [hown, sT_self hj] at hm
      have hr2 : b = r := hr
      subst hr2
      rw [hown]
      exact hQ _ _ ⟨rfl, ⟨fb, hm.1⟩, ho.tr hm.2⟩
    · rw [show 6 - i = (6 - (i + 1)) + 1 by omega] at hr
      unfold beR at hr
      refine rj_ald2 dX11_best_42 rfl ?_
      refine rj_ild dX11_best_43 rfl ?_
      refine p11_145 (by first | assumption | rfl) dX11_best_45 ?_
      refine rj_ald0 dX11_best_48 rfl ?_
      refine rj_ald2 dX11_best_49 rfl ?_
      refine rj_ald0 dX11_best_50 rfl ?_
      refine g11_38 dX11_best_51 ?_
      refine rj_V2 (ci := 11) cX11_168 rfl (by decide) (by first | assumption | rfl) dX11_best_54 (c_X11_layPulled hC0.1 hj2 (k := 33) (Or.inl rfl)) (fitM (by omega) (by decide)) (Nat.le_of_ble_eq_true rfl) ?_
      rintro v υ ⟨rfl, hC1, hx1, ho1⟩
      simp only [Option.toList, List.nil_append]
      have ho2 := (ho.tr hC0.2).tr (ho1.mono (of_row (Or.inl rfl)))
      have hs1 : υ.1 33 1 = nI (beF A j i) := by rw [hx1.size]; unfold lyA; rw [sT_fT _ hj]; rfl
      refine rj_ald0 dX11_best_57 rfl ?_
      refine g11_38 dX11_best_58 ?_
      refine g11_129 (by first | assumption | rfl) dX11_best_61 ?_
      rw [hs1]
      refine rj_ild dX11_best_64 rfl ?_
      refine rj_ic_ge (tgt := 82) dX11_best_66 (by decide) (fun h_66 => ?_) (fun h_66 => ?_)
      · rw [if_neg (by omega)] at hr
        refine rj_iinc6 (d := 1) dX11_best_82 (by decide) rfl (by decide) ?_
        rw [nI_1]
        refine rj_goto (tgt := 35) dX11_best_85 (by decide) ?_
        exact ih (i + 1) _ _ _ _ (by omega) ⟨by omega, hC1, ho2, hr⟩
      · rw [if_pos h_66] at hr
        refine rj_ald0 dX11_best_69 rfl ?_
        refine g11_38 dX11_best_70 ?_
        refine g11_129 (by first | assumption | rfl) dX11_best_73 ?_
        rw [hs1]
        refine rj_ist5w dX11_best_76 (by decide) rfl ?_
        refine rj_ild dX11_best_78 rfl ?_
        refine rj_ist4w dX11_best_80 (by decide) rfl ?_
        refine rj_iinc6 (d := 1) dX11_best_82 (by decide) rfl (by decide) ?_
        rw [nI_1]
        refine rj_goto (tgt := 35) dX11_best_85 (by decide) ?_
        exact ih (i + 1) _ _ _ _ (by omega) ⟨by omega, hC1, ho2, hr⟩

set_option maxRecDepth 100000 in
theorem c_X11_best {l : Launch} {X : CX} {σ : ST} {fb : Nat} {A : SA} (hC : CR σ fb A) (hw : wf A) {t : Int32} : MJ l X 5 yX11_best cX11_best 7 (some .int) [.ref (ad X 0), .int t] σ (OP σ (F_best A t)) := by
  refine MJ_of (own := RX11) [some (.ref (ad X 0)), some (.int t), none, none, none, none, none] (by decide) rfl (Nat.le_of_ble_eq_true rfl) rfl ?_
  have hk := cr_k hC
  have hF := hC.2.2.2.2.1
  refine rj_ald0 dX11_best_0 rfl ?_
  refine g11_76 dX11_best_1 ?_
  rw [cr_f hC]
  refine rj_ild1 dX11_best_4 rfl ?_
  refine rj_V1 (ci := 1) cX11_112 rfl (by decide) (by first | assumption | rfl) dX11_best_5 (c_X1_tieAt (cr_k hC) hC.2.2.2.2.1) (fitM (by decide) (by decide)) (Nat.le_of_ble_eq_true rfl) ?_
  rintro v υj ⟨hυj, ⟨j, hvj, hjj, rfl⟩ | ⟨hnj, rfl⟩⟩
  · rw [hυj]
    simp only [Option.toList, List.cons_append, List.nil_append]
    have hj8j : j < 8 := Nat.lt_of_lt_of_le hjj hC.2.2.2.2.1.2.2.2.1
    have hktj := (fair_next (cr_k hC)).2.2 j hj8j
    obtain ⟨hkrj, hkaj, hlnj⟩ := tie_next hktj
    have htij : Ti _ (tk fb j) (fT A j).1 (fT A j).2 := fr_tie hC.2.2.2.2.1 hjj
    have hxj : Rw _ (tk fb j + 1) (fT A j).2 := htij.2
    refine rj_ast2 dX11_best_8 (by decide) rfl ?_
    refine rj_ald2 dX11_best_9 rfl ?_
    refine rj_nn_ref (tgt := 20) dX11_best_10 (by decide) ?_
    refine rj_ald2 dX11_best_20 rfl ?_
    refine g11_145 (by first | assumption | rfl) dX11_best_21 ?_
    refine rj_ist3 dX11_best_24 (by decide) rfl ?_
    refine rj_ic0 dX11_best_25 ?_
    refine rj_ist4w dX11_best_26 (by decide) rfl ?_
    refine rj_bipush (v := 25) dX11_best_28 (by decide) ?_
    refine rj_ist5w dX11_best_30 (by decide) rfl ?_
    refine rj_ic0 dX11_best_32 ?_
    refine rj_ist6w dX11_best_33 (by decide) rfl ?_
    have e : F_best A t = (beR (beF A j) 6 0 0 25, A) := by unfold F_best; rw [wT_in hvj hjj]
    rw [e]
    exact l_X11_best (by decide) hjj htij.1 (fun v τ h => h) 7 0 0 25 (fT A j).1 _ (by omega) ⟨by omega, by rw [sT_self hjj]; exact hC, off.rf, rfl⟩
  · rw [hυj]
    simp only [Option.toList, List.cons_append, List.nil_append]
    refine rj_nst2 dX11_best_8 (by decide) rfl ?_
    refine rj_ald2N dX11_best_9 rfl ?_
    refine rj_nn_null dX11_best_10 ?_
    refine rj_ald0 dX11_best_13 rfl ?_
    refine rj_ldc kX11_87 dX11_best_14 ?_
    refine rj_V1 (ci := 11) cX11_88 rfl (by decide) rfl dX11_best_16 (c_X11_found (i := 0) hC (by decide) (by decide)) (fitM (by decide) (by decide)) (Nat.le_of_ble_eq_true rfl) ?_
    rintro v υq ⟨rfl, hq⟩
    simp only [Option.toList, List.cons_append, List.nil_append]
    refine rj_iret dX11_best_19 ?_
    have e : F_best A t = fnd A 0 := by unfold F_best; rw [wT_out hnj]
    rw [e]
    exact ⟨rfl, hq⟩

set_option maxRecDepth 100000 in
theorem l_X11_lay {l : Launch} {X : CX} {h : Nat} {Q : Option Value → ST → Prop} {σ : ST} {fb j : Nat} {t n : Int32} (hh : 2 ≤ h) {r : Int32 × SA} (hQ : ∀ v τ, OP σ r v τ → Q v τ) (hn : 0 ≤ n.toInt) : ∀ (N i : Nat) (A : SA) (τ : ST) (v5 v6 : Option Value), n.toInt.toNat < i + N → (i ≤ n.toInt.toNat ∧ (2 ≤ A.2.1.1.toInt ∧ A.2.1.1.toInt ≤ 4) ∧ j < A.2.1.2.2.length ∧ CR τ fb A ∧ off sysP σ τ ∧ layR j (n.toInt.toNat - i) i A = r) → RJ (GM l X h Q) X cX11_lay 7 (some .int) RX11 34 [some (.ref (ad X 0)), some (.int t), some (.int n), some (.ref (ad X (tk fb j))), some (.int (nI i)), v5, v6] [] τ := by
  intro N
  induction N with
  | zero => intro i A τ v5 v6 hN hi; have := hi.1; exact absurd hN (by omega)
  | succ N ih =>
    intro i A τ v5 v6 hN hi
    obtain ⟨hi, hr4, hj, hC, ho, hr⟩ := hi
    have hkt := (fair_next (cr_k hC)).2.2 j (Nat.lt_of_lt_of_le hj hC.2.2.2.2.1.2.2.2.1)
    have hti : Ti _ (tk fb j) (fT A j).1 (fT A j).2 := fr_tie hC.2.2.2.2.1 hj
    have hk := cr_k hC
    have hF := hC.2.2.2.2.1
    obtain ⟨hkr, hka, hln⟩ := tie_next hkt
    have hx : Rw _ (tk fb j + 1) (fT A j).2 := hti.2
    have hit : (nI i).toInt = i := nI_t (by have := i_hi n; omega)
    have hz0 := hF.2.2.1
    have hz1 := cr_z (v := dwz A.2.1.2.1) hC
    have hz2 := cr_z (v := dwz (dwz A.2.1.2.1)) hz1.1
    have hj2 : j < (zA (zA A (dwz A.2.1.2.1)) (dwz (dwz A.2.1.2.1))).2.1.2.2.length := by rw [zA_len, zA_len]; exact hj
    have hx2 : Rw _ (tk fb j + 1) (fT (zA (zA A (dwz A.2.1.2.1)) (dwz (dwz A.2.1.2.1))) j).2 := (fr_tie hz2.1.2.2.2.2.1 hj2).2
    rw [zA_fT, zA_fT] at hx2
    have hrm : (A.2.1.1 - 1).toInt = A.2.1.1.toInt - 1 := by rw [i_sub (by rw [t1]; omega) (by rw [t1]; omega), t1]
    refine rj_ild dX11_lay_34 rfl ?_
    refine rj_ild2 dX11_lay_36 rfl ?_
    refine rj_ic_ge (tgt := 115) dX11_lay_37 (by decide) (fun h_37 => ?_) (fun h_37 => ?_)
    · refine rj_ild dX11_lay_115 rfl ?_
      refine rj_iret dX11_lay_117 ?_
      rw [show n.toInt.toNat - i = 0 by omega] at hr
      subst hr
      exact hQ _ _ ⟨rfl, ⟨fb, hC⟩, ho⟩
    · rw [show n.toInt.toNat - i = (n.toInt.toNat - (i + 1)) + 1 by omega] at hr
      unfold layR at hr
      refine rj_ald3 dX11_lay_40 rfl ?_
      refine g11_120 (by first | assumption | rfl) dX11_lay_41 ?_
      refine rj_V0i (ci := 2) cX11_123 rfl (by decide) (by first | assumption | rfl) dX11_lay_44 (c_X2_hasRoom (n := (fT A j).2.length) hkr hx.1 hx.2.1) (fitM (by omega) (by decide)) (Nat.le_of_ble_eq_true rfl) ?_
      refine rj_if_eq (tgt := 115) dX11_lay_47 (by decide) (fun h_47 => ?_) (fun h_47 => ?_)
      · have hb_47 := bz_t h_47
        rw [if_neg (by rw [hln] at hb_47; exact hb_47)] at hr
        refine rj_ild dX11_lay_115 rfl ?_
        refine rj_iret dX11_lay_117 ?_
        subst hr
        exact hQ _ _ ⟨rfl, ⟨fb, hC⟩, ho⟩
      · have hb_47 := bz_f h_47
        rw [if_pos (by rw [hln] at hb_47; exact hb_47)] at hr
        refine rj_ald0 dX11_lay_50 rfl ?_
        refine g11_76 dX11_lay_51 ?_
        rw [cr_f hC]
        refine rj_ald0 dX11_lay_54 rfl ?_
        refine g11_76 dX11_lay_55 ?_
        rw [cr_f hC]
        refine g11_97 (by first | assumption | rfl) dX11_lay_58 ?_
        refine rj_ic1 dX11_lay_61 ?_
        refine rj_isub dX11_lay_62 ?_
        rw [hF.2.1]
        refine rj_V1i (ci := 1) cX11_248 rfl (by decide) (by first | assumption | rfl) dX11_lay_63 (c_X1_drawBy hk (by omega)) (fitM (by omega) (by decide)) (Nat.le_of_ble_eq_true rfl) ?_
        rw [hz0]
        refine rj_ic1 dX11_lay_66 ?_
        refine rj_iadd dX11_lay_67 ?_
        refine rj_ist5w dX11_lay_68 (by decide) rfl ?_
        refine rj_ald0 dX11_lay_70 rfl ?_
        refine g11_76 dX11_lay_71 ?_
        rw [cr_f hz1.1]
        refine rj_ic2 dX11_lay_74 ?_
        refine rj_V1i (ci := 1) cX11_248 rfl (by decide) (by first | assumption | rfl) dX11_lay_75 (c_X1_drawBy hk (by decide)) (fitM (by omega) (by decide)) (Nat.le_of_ble_eq_true rfl) ?_
        rw [ui_same, show ui (ui τ fb 3 (dwz A.2.1.2.1)) fb 3 (dwz (dwz A.2.1.2.1)) = ui (ui τ fb 3 (dwz A.2.1.2.1)) fb 3 (dwz (dwz A.2.1.2.1)) from rfl]
        refine rj_ic1 dX11_lay_78 ?_
        refine rj_ic_ne (tgt := 86) dX11_lay_79 (by decide) (fun h_79 => ?_) (fun h_79 => ?_)
        · refine rj_ic0 dX11_lay_86 ?_
          refine rj_ist6w dX11_lay_87 (by decide) rfl ?_
          refine rj_ald3 dX11_lay_89 rfl ?_
          refine g11_120 (by first | assumption | rfl) dX11_lay_90 ?_
          refine rj_ild dX11_lay_93 rfl ?_
          refine rj_if_eq (tgt := 104) dX11_lay_95 (by decide) (fun h_95 => ?_) (fun h_95 => ?_)
          · refine rj_ild dX11_lay_104 rfl ?_
            refine rj_V1 (ci := 2) cX11_126 rfl (by decide) (by first | assumption | rfl) dX11_lay_106 (c_X2_appendL hkr hx2 hb_47) (fitM (by omega) (by decide)) (Nat.le_of_ble_eq_true rfl) ?_
            rintro v υ ⟨rfl, hx3, ho3⟩
            simp only [Option.toList, List.nil_append]
            have hC3 := cr_trow hz2.1 (j := j) hj2 hx3 ho3
            rw [zA_fT, zA_fT] at hC3
            refine rj_iinc4 (d := 1) dX11_lay_109 (by decide) rfl (by decide) ?_
            rw [nI_1]
            refine rj_goto (tgt := 34) dX11_lay_112 (by decide) ?_
            have hc : layC A = dwv A.2.1.2.1 (A.2.1.1 - 1) + 1 := by unfold layC; rw [if_neg h_79]
            refine ih (i + 1) (layS A j) _ _ _ (by omega) ⟨by omega, by rw [layS_rc]; exact hr4, by rw [layS_len]; exact hj, ?_, ((ho.tr hz1.2).tr hz2.2).tr hC3.2, hr⟩
            unfold layS
            rw [hc]
            exact hC3.1
          · exact absurd rfl h_95
        · refine rj_ic1 dX11_lay_82 ?_
          refine rj_goto (tgt := 87) dX11_lay_83 (by decide) ?_
          refine rj_ist6w dX11_lay_87 (by decide) rfl ?_
          refine rj_ald3 dX11_lay_89 rfl ?_
          refine g11_120 (by first | assumption | rfl) dX11_lay_90 ?_
          refine rj_ild dX11_lay_93 rfl ?_
          refine rj_if_eq (tgt := 104) dX11_lay_95 (by decide) (fun h_95 => ?_) (fun h_95 => ?_)
          · exact absurd h_95 (by decide)
          · refine rj_ild dX11_lay_98 rfl ?_
            refine rj_ineg dX11_lay_100 ?_
            refine rj_goto (tgt := 106) dX11_lay_101 (by decide) ?_
            refine rj_V1 (ci := 2) cX11_126 rfl (by decide) (by first | assumption | rfl) dX11_lay_106 (c_X2_appendL hkr hx2 hb_47) (fitM (by omega) (by decide)) (Nat.le_of_ble_eq_true rfl) ?_
            rintro v υ ⟨rfl, hx3, ho3⟩
            simp only [Option.toList, List.nil_append]
            have hC3 := cr_trow hz2.1 (j := j) hj2 hx3 ho3
            rw [zA_fT, zA_fT] at hC3
            refine rj_iinc4 (d := 1) dX11_lay_109 (by decide) rfl (by decide) ?_
            rw [nI_1]
            refine rj_goto (tgt := 34) dX11_lay_112 (by decide) ?_
            have hc : layC A = -(dwv A.2.1.2.1 (A.2.1.1 - 1) + 1) := by unfold layC; rw [if_pos h_79]
            refine ih (i + 1) (layS A j) _ _ _ (by omega) ⟨by omega, by rw [layS_rc]; exact hr4, by rw [layS_len]; exact hj, ?_, ((ho.tr hz1.2).tr hz2.2).tr hC3.2, hr⟩
            unfold layS
            rw [hc]
            exact hC3.1

set_option maxRecDepth 100000 in
theorem c_X11_lay {l : Launch} {X : CX} {σ : ST} {fb : Nat} {A : SA} (hC : CR σ fb A) (hw : wf A) {t n : Int32} : MJ l X 2 yX11_lay cX11_lay 7 (some .int) [.ref (ad X 0), .int t, .int n] σ (OP σ (F_lay A t n)) := by
  refine MJ_of (own := RX11) [some (.ref (ad X 0)), some (.int t), some (.int n), none, none, none, none] (by decide) rfl (Nat.le_of_ble_eq_true rfl) rfl ?_
  have hk := cr_k hC
  have hF := hC.2.2.2.2.1
  have h12 : (12 : Int32).toInt = 12 := by decide
  have h1 : (1 : Int32).toInt = 1 := by decide
  refine rj_ald0 dX11_lay_0 rfl ?_
  refine g11_76 dX11_lay_1 ?_
  rw [cr_f hC]
  refine rj_ild1 dX11_lay_4 rfl ?_
  refine rj_V1 (ci := 1) cX11_112 rfl (by decide) (by first | assumption | rfl) dX11_lay_5 (c_X1_tieAt (cr_k hC) hC.2.2.2.2.1) (fitM (by decide) (by decide)) (Nat.le_of_ble_eq_true rfl) ?_
  rintro v υj ⟨hυj, ⟨j, hvj, hjj, rfl⟩ | ⟨hnj, rfl⟩⟩
  · rw [hυj]
    simp only [Option.toList, List.cons_append, List.nil_append]
    have hj8j : j < 8 := Nat.lt_of_lt_of_le hjj hC.2.2.2.2.1.2.2.2.1
    have hktj := (fair_next (cr_k hC)).2.2 j hj8j
    obtain ⟨hkrj, hkaj, hlnj⟩ := tie_next hktj
    have htij : Ti _ (tk fb j) (fT A j).1 (fT A j).2 := fr_tie hC.2.2.2.2.1 hjj
    have hxj : Rw _ (tk fb j + 1) (fT A j).2 := htij.2
    refine rj_ast3 dX11_lay_8 (by decide) rfl ?_
    refine rj_ald3 dX11_lay_9 rfl ?_
    refine rj_nu_ref dX11_lay_10 ?_
    refine rj_ild2 dX11_lay_13 rfl ?_
    refine rj_ic1 dX11_lay_14 ?_
    refine rj_ic_lt (tgt := 24) dX11_lay_15 (by decide) (fun h_15 => ?_) (fun h_15 => ?_)
    · refine rj_ald0 dX11_lay_24 rfl ?_
      refine rj_ldc kX11_87 dX11_lay_25 ?_
      refine rj_V1 (ci := 11) cX11_88 rfl (by decide) rfl dX11_lay_27 (c_X11_found (i := 0) hC (by decide) (by decide)) (fitM (by decide) (by decide)) (Nat.le_of_ble_eq_true rfl) ?_
      rintro v υq ⟨rfl, hq⟩
      simp only [Option.toList, List.cons_append, List.nil_append]
      refine rj_iret dX11_lay_30 ?_
      have e : F_lay A t n = fnd A 0 := by unfold F_lay; rw [wT_in hvj hjj, if_pos (by omega)]
      rw [e]
      exact ⟨rfl, hq⟩
    · refine rj_ild2 dX11_lay_18 rfl ?_
      refine rj_bipush (v := 12) dX11_lay_19 (by decide) ?_
      refine rj_ic_le (tgt := 31) dX11_lay_21 (by decide) (fun h_21 => ?_) (fun h_21 => ?_)
      · refine rj_ic0 dX11_lay_31 ?_
        refine rj_ist4w dX11_lay_32 (by decide) rfl ?_
        have e : F_lay A t n = layR j n.toInt.toNat 0 A := by unfold F_lay; rw [wT_in hvj hjj, if_neg (by omega)]
        exact l_X11_lay (by decide) (fun v τ h => h) (by omega) (n.toInt.toNat + 1) 0 A _ _ _ (by omega) ⟨by omega, ⟨hw.1.1, hw.1.2.1⟩, hjj, hC, off.rf, e.symm⟩
      · refine rj_ald0 dX11_lay_24 rfl ?_
        refine rj_ldc kX11_87 dX11_lay_25 ?_
        refine rj_V1 (ci := 11) cX11_88 rfl (by decide) rfl dX11_lay_27 (c_X11_found (i := 0) hC (by decide) (by decide)) (fitM (by decide) (by decide)) (Nat.le_of_ble_eq_true rfl) ?_
        rintro v υq ⟨rfl, hq⟩
        simp only [Option.toList, List.cons_append, List.nil_append]
        refine rj_iret dX11_lay_30 ?_
        have e : F_lay A t n = fnd A 0 := by unfold F_lay; rw [wT_in hvj hjj, if_pos (by omega)]
        rw [e]
        exact ⟨rfl, hq⟩
  · rw [hυj]
    simp only [Option.toList, List.cons_append, List.nil_append]
    refine rj_nst3 dX11_lay_8 (by decide) rfl ?_
    refine rj_ald3N dX11_lay_9 rfl ?_
    refine rj_nu_null (tgt := 24) dX11_lay_10 (by decide) ?_
    refine rj_ald0 dX11_lay_24 rfl ?_
    refine rj_ldc kX11_87 dX11_lay_25 ?_
    refine rj_V1 (ci := 11) cX11_88 rfl (by decide) rfl dX11_lay_27 (c_X11_found (i := 0) hC (by decide) (by decide)) (fitM (by decide) (by decide)) (Nat.le_of_ble_eq_true rfl) ?_
    rintro v υq ⟨rfl, hq⟩
    simp only [Option.toList, List.cons_append, List.nil_append]
    refine rj_iret dX11_lay_30 ?_
    have e : F_lay A t n = fnd A 0 := by unfold F_lay; rw [wT_out hnj]
    rw [e]
    exact ⟨rfl, hq⟩

