/-! sheets and ties -/
def ldR (rc : Int32) (xs : List Int64) : Nat → Nat → List Int32 → List Int32
  | 0, _, a => a
  | n + 1, i, a => if a.length < 12 then (if (xs.getD i 0).toInt ≠ 0 ∧ -rc.toInt < (xs.getD i 0).toInt ∧ (xs.getD i 0).toInt < rc.toInt then ldR rc xs n (i + 1) (a ++ [(xs.getD i 0).toInt32]) else a) else a
def F_load (A : SA) (s t : Int32) : Int32 × SA := wS A s fun p => if (shT A p).1 = 0 then fnd A 5 else wT A t fun j => (nI (ldR A.2.1.1 (shT A p).2 (shT A p).2.length 0 []).length, sT A j ((fT A j).1, ldR A.2.1.1 (shT A p).2 (shT A p).2.length 0 []))
def swR (b : Int32) (ys : List Int32) : Nat → Nat → List Int64 → List Int64
  | 0, _, xs => xs
  | n + 1, i, xs => swR b ys n (i + 1) (xs.set i (lowB b (ys.getD i 0).toInt64))
def shN (A : SA) (p j : Nat) : Nat := if lyN (fT A j).1 (fT A j).2.length < (shT A p).2.length then lyN (fT A j).1 (fT A j).2.length else (shT A p).2.length
def F_show (A : SA) (s t : Int32) : Int32 × SA := wS A s fun p => if (shT A p).1 = 0 then fnd A 5 else wT A t fun j => (nI (shN A p j), sS A p ((shT A p).1, swR (shT A p).1 (lyA A j) (shN A p j) 0 (shT A p).2))
abbrev fitA (xs : List Int64) (ys : List Int32) : Prop := xs.length = ys.length ∧ ∀ i, i < xs.length → (xs.getD i 0 = 0 ∨ xs.getD i 0 = (sg (ys.getD i 0)).toInt64)
def rdR (A : SA) (xs : List Int64) : Nat → Nat → Int32 → Int32
  | 0, _, a => a
  | n + 1, k, a => rdR A xs n (k + 1) (if fitA xs (lyA A k) then a ||| (1 <<< (nI k &&& 31)) else a)
def F_read (A : SA) (s : Int32) : Int32 × SA := wS A s fun p => if (shT A p).1 = 0 then fnd A 5 else if sgL (shT A p).2 then (rdR A (shT A p).2 A.2.1.2.2.length 0 0, A) else fnd A 4
theorem fr_sh {σ : ST} {fb p : Nat} {A : SA} (hC : CR σ fb A) (hp : p < 4) : Sh σ (104 + 2 * p) (shT A p).1 (shT A p).2 := hC.2.2.2.2.2.2.2.2.2.1 p hp
theorem sS_sS (A : SA) (s : Nat) (t u : Int32 × List Int64) : sS (sS A s t) s u = sS A s u := by
  unfold sS
  have : (fun i => if i = s then u else (if i = s then t else A.2.2.2.2 i)) = fun i => if i = s then u else A.2.2.2.2 i := by
    funext i
    by_cases h : i = s
    · rw [if_pos h, if_pos h]
    · rw [if_neg h, if_neg h, if_neg h]
  simp only [this]
theorem sS_self (A : SA) (s : Nat) : sS A s ((shT A s).1, (shT A s).2) = A := by
  unfold sS
  have : (fun i => if i = s then ((shT A s).1, (shT A s).2) else A.2.2.2.2 i) = A.2.2.2.2 := by
    funext i
    by_cases h : i = s
    · rw [if_pos h, h]
    · rw [if_neg h]
  rw [this]
set_option maxRecDepth 100000 in
theorem l_X11_load {l : Launch} {X : CX} {h : Nat} {Q : Option Value → ST → Prop} {σ : ST} {fb p j : Nat} {s t : Int32} {A : SA} (hh : 2 ≤ h) (hw : wf A) (hp : p < 4) (hj : j < A.2.1.2.2.length) {r : List Int32} (hQ : ∀ v τ, OP σ (nI r.length, sT A j ((fT A j).1, r)) v τ → Q v τ) : ∀ (N i : Nat) (a : List Int32) (τ : ST), (shT A p).2.length < i + N → (i ≤ (shT A p).2.length ∧ CR τ fb (sT A j ((fT A j).1, a)) ∧ off sysP σ τ ∧ ldR A.2.1.1 (shT A p).2 ((shT A p).2.length - i) i a = r) → RJ (GM l X h Q) X cX11_load 6 (some .int) RX11 66 [some (.ref (ad X 0)), some (.int s), some (.int t), some (.ref (ad X (104 + 2 * p))), some (.ref (ad X (tk fb j))), some (.int (nI i))] [] τ := by
  intro N
  induction N with
  | zero => intro i a τ hN hi; have := hi.1; exact absurd hN (by omega)
  | succ N ih =>
    intro i a τ hN hi
    obtain ⟨hi, hC, ho, hr⟩ := hi
    have hk := cr_k hC
    have hF := hC.2.2.2.2.1
    have hj2 : j < (sT A j ((fT A j).1, a)).2.1.2.2.length := by rw [sT_len]; exact hj
    have hkt := (fair_next hk).2.2 j (Nat.lt_of_lt_of_le hj2 hC.2.2.2.2.1.2.2.2.1)
    obtain ⟨hkr, hka, hln⟩ := tie_next hkt
    have hti := fr_tie hC.2.2.2.2.1 hj2
    have hx : Rw _ (tk fb j + 1) (fT (sT A j ((fT A j).1, a)) j).2 := hti.2
    rw [sT_fT _ hj] at hx
    have hS : Sh τ (104 + 2 * p) (shT A p).1 (shT A p).2 := fr_sh (A := sT A j ((fT A j).1, a)) hC hp
    have hks := sh_kd p hp
    have hsz := hS.2.1
    have h40 := hS.2.2.1
    have hit : (nI i).toInt = i := nI_t (by omega)
    have hrc : τ.1 fb 2 = A.2.1.1 := hF.2.1
    refine rj_ild dX11_load_66 rfl ?_
    refine rj_ald3 dX11_load_68 rfl ?_
    refine g11_276 (by first | assumption | rfl) dX11_load_69 ?_
    refine rj_ic_ge (tgt := 126) dX11_load_72 (by decide) (fun h_72 => ?_) (fun h_72 => ?_)
    · refine rj_ald dX11_load_126 rfl ?_
      refine g11_120 (by first | assumption | rfl) dX11_load_128 ?_
      refine g11_129 (by first | assumption | rfl) dX11_load_131 ?_
      refine rj_iret dX11_load_134 ?_
      rw [show (shT A p).2.length - i = 0 by omega] at hr
      unfold ldR at hr
      subst hr
      exact hQ _ _ ⟨by rw [hx.size], ⟨fb, hC⟩, ho⟩
    · rw [show (shT A p).2.length - i = ((shT A p).2.length - (i + 1)) + 1 by omega] at hr
      unfold ldR at hr
      refine rj_ald dX11_load_75 rfl ?_
      refine g11_120 (by first | assumption | rfl) dX11_load_77 ?_
      refine rj_V0i (ci := 2) cX11_123 rfl (by decide) (by first | assumption | rfl) dX11_load_80 (c_X2_hasRoom (n := a.length) hkr hx.1 hx.2.1) (fitM (by omega) (by decide)) (Nat.le_of_ble_eq_true rfl) ?_
      refine rj_if_eq (tgt := 126) dX11_load_83 (by decide) (fun h_83 => ?_) (fun h_83 => ?_)
      · have hb_83 := bz_t h_83
        rw [if_neg (by rw [hln] at hb_83; exact hb_83)] at hr
        refine rj_ald dX11_load_126 rfl ?_
        refine g11_120 (by first | assumption | rfl) dX11_load_128 ?_
        refine g11_129 (by first | assumption | rfl) dX11_load_131 ?_
        refine rj_iret dX11_load_134 ?_
        subst hr
        exact hQ _ _ ⟨by rw [hx.size], ⟨fb, hC⟩, ho⟩
      · have hb_83 := bz_f h_83
        rw [if_pos (by rw [hln] at hb_83; exact hb_83)] at hr
        refine rj_ald0 dX11_load_86 rfl ?_
        refine g11_76 dX11_load_87 ?_
        rw [cr_f hC]
        refine rj_ald3 dX11_load_90 rfl ?_
        refine rj_ild dX11_load_91 rfl ?_
        refine rj_V1l (ci := 4) cX11_281 rfl (by decide) (by first | assumption | rfl) dX11_load_93 (c_X4_at hks hS) (fitM (by omega) (by decide)) (Nat.le_of_ble_eq_true rfl) ?_
        rw [sat_in hit (by omega)]
        refine rj_V1i (ci := 1) cX11_116 rfl (by decide) (by first | assumption | rfl) dX11_load_96 (c_X1_isCrossing hk (by rw [hrc]; exact ⟨hw.1.1, hw.1.2.1⟩)) (fitM (by omega) (by decide)) (Nat.le_of_ble_eq_true rfl) ?_
        rw [hrc]
        refine rj_if_ne (tgt := 105) dX11_load_99 (by decide) (fun h_99 => ?_) (fun h_99 => ?_)
        · have hb_99 := bz_f h_99
          rw [if_pos hb_99] at hr
          refine rj_ald dX11_load_105 rfl ?_
          refine g11_120 (by first | assumption | rfl) dX11_load_107 ?_
          refine rj_ald3 dX11_load_110 rfl ?_
          refine rj_ild dX11_load_111 rfl ?_
          refine rj_V1l (ci := 4) cX11_281 rfl (by decide) (by first | assumption | rfl) dX11_load_113 (c_X4_at hks hS) (fitM (by omega) (by decide)) (Nat.le_of_ble_eq_true rfl) ?_
          rw [sat_in hit (by omega)]
          refine rj_l2i dX11_load_116 ?_
          refine rj_V1 (ci := 2) cX11_126 rfl (by decide) (by first | assumption | rfl) dX11_load_117 (c_X2_appendL hkr hx hb_83) (fitM (by omega) (by decide)) (Nat.le_of_ble_eq_true rfl) ?_
          rintro v υ ⟨rfl, hx1, ho1⟩
          simp only [Option.toList, List.nil_append]
          have hC1 := cr_trow hC hj2 hx1 ho1
          rw [sT_sT, sT_fT _ hj] at hC1
          refine rj_iinc5 (d := 1) dX11_load_120 (by decide) rfl (by decide) ?_
          rw [nI_1]
          refine rj_goto (tgt := 66) dX11_load_123 (by decide) ?_
          exact ih (i + 1) _ _ (by omega) ⟨by omega, hC1.1, ho.tr hC1.2, hr⟩
        · have hb_99 := bz_t h_99
          rw [if_neg hb_99] at hr
          refine rj_goto (tgt := 126) dX11_load_102 (by decide) ?_
          refine rj_ald dX11_load_126 rfl ?_
          refine g11_120 (by first | assumption | rfl) dX11_load_128 ?_
          refine g11_129 (by first | assumption | rfl) dX11_load_131 ?_
          refine rj_iret dX11_load_134 ?_
          subst hr
          exact hQ _ _ ⟨by rw [hx.size], ⟨fb, hC⟩, ho⟩

set_option maxRecDepth 100000 in
theorem c_X11_load {l : Launch} {X : CX} {σ : ST} {fb : Nat} {A : SA} (hC : CR σ fb A) (hw : wf A) {s t : Int32} : MJ l X 2 yX11_load cX11_load 6 (some .int) [.ref (ad X 0), .int s, .int t] σ (OP σ (F_load A s t)) := by
  refine MJ_of (own := RX11) [some (.ref (ad X 0)), some (.int s), some (.int t), none, none, none] (by decide) rfl (Nat.le_of_ble_eq_true rfl) rfl ?_
  have hk := cr_k hC
  have hF := hC.2.2.2.2.1
  refine rj_ald0 dX11_load_0 rfl ?_
  refine rj_ild1 dX11_load_1 rfl ?_
  refine rj_V1 (ci := 11) cX11_268 rfl (by decide) (by first | assumption | rfl) dX11_load_2 c_X11_sheetAt (fitM (by decide) (by decide)) (Nat.le_of_ble_eq_true rfl) ?_
  rintro v υp ⟨hυp, ⟨p, hvp, hjp, rfl⟩ | ⟨hnp, rfl⟩⟩
  · rw [hυp]
    simp only [Option.toList, List.cons_append, List.nil_append]
    have hksp := sh_kd p hjp
    have hSp : Sh _ (104 + 2 * p) (shT A p).1 (shT A p).2 := hC.2.2.2.2.2.2.2.2.2.1 p hjp
    refine rj_ast3 dX11_load_5 (by decide) rfl ?_
    refine rj_ald3 dX11_load_6 rfl ?_
    refine rj_nn_ref (tgt := 17) dX11_load_7 (by decide) ?_
    refine rj_ald3 dX11_load_17 rfl ?_
    refine rj_V0i (ci := 4) cX11_277 rfl (by decide) (by first | assumption | rfl) dX11_load_18 (c_X4_isMissing hksp hSp) (fitM (by decide) (by decide)) (Nat.le_of_ble_eq_true rfl) ?_
    refine rj_if_eq (tgt := 32) dX11_load_21 (by decide) (fun h_21 => ?_) (fun h_21 => ?_)
    · have hb_21 := bz_t h_21
      refine rj_ald0 dX11_load_32 rfl ?_
      refine g11_76 dX11_load_33 ?_
      rw [cr_f hC]
      refine rj_ild2 dX11_load_36 rfl ?_
      refine rj_V1 (ci := 1) cX11_112 rfl (by decide) (by first | assumption | rfl) dX11_load_37 (c_X1_tieAt (cr_k hC) hC.2.2.2.2.1) (fitM (by decide) (by decide)) (Nat.le_of_ble_eq_true rfl) ?_
      rintro v υj ⟨hυj, ⟨j, hvj, hjj, rfl⟩ | ⟨hnj, rfl⟩⟩
      · rw [hυj]
        simp only [Option.toList, List.cons_append, List.nil_append]
        have hj8j : j < 8 := Nat.lt_of_lt_of_le hjj hC.2.2.2.2.1.2.2.2.1
        have hktj := (fair_next (cr_k hC)).2.2 j hj8j
        obtain ⟨hkrj, hkaj, hlnj⟩ := tie_next hktj
        have htij : Ti _ (tk fb j) (fT A j).1 (fT A j).2 := fr_tie hC.2.2.2.2.1 hjj
        have hxj : Rw _ (tk fb j + 1) (fT A j).2 := htij.2
        refine rj_ast4w dX11_load_40 (by decide) rfl ?_
        refine rj_ald dX11_load_42 rfl ?_
        refine rj_nn_ref (tgt := 54) dX11_load_44 (by decide) ?_
        refine rj_ald dX11_load_54 rfl ?_
        refine g11_120 (by first | assumption | rfl) dX11_load_56 ?_
        refine rj_ic0 dX11_load_59 ?_
        refine rj_V1 (ci := 2) cX11_136 rfl (by decide) (by first | assumption | rfl) dX11_load_60 (c_X2_cutToL hkrj hxj) (fitM (by decide) (by decide)) (Nat.le_of_ble_eq_true rfl) ?_
        rintro v τ ⟨rfl, hx1, ho1⟩
        simp only [Option.toList, List.nil_append]
        have hC1 := cr_trow hC hjj hx1 ho1
        refine rj_ic0 dX11_load_63 ?_
        refine rj_ist5w dX11_load_64 (by decide) rfl ?_
        have e : F_load A s t = (nI (ldR A.2.1.1 (shT A p).2 (shT A p).2.length 0 []).length, sT A j ((fT A j).1, ldR A.2.1.1 (shT A p).2 (shT A p).2.length 0 [])) := by unfold F_load; rw [wS_in hvp hjp, if_neg hb_21, wT_in hvj hjj]
        rw [e]
        exact l_X11_load (by decide) hw hjp hjj (fun v τ h => h) ((shT A p).2.length + 1) 0 [] _ (by omega) ⟨by omega, hC1.1, hC1.2, rfl⟩
      · rw [hυj]
        simp only [Option.toList, List.cons_append, List.nil_append]
        refine rj_nst4w dX11_load_40 (by decide) rfl ?_
        refine rj_aldN dX11_load_42 rfl ?_
        refine rj_nn_null dX11_load_44 ?_
        refine rj_ald0 dX11_load_47 rfl ?_
        refine rj_ldc kX11_87 dX11_load_48 ?_
        refine rj_V1 (ci := 11) cX11_88 rfl (by decide) rfl dX11_load_50 (c_X11_found (i := 0) hC (by decide) (by decide)) (fitM (by decide) (by decide)) (Nat.le_of_ble_eq_true rfl) ?_
        rintro v υq ⟨rfl, hq⟩
        simp only [Option.toList, List.cons_append, List.nil_append]
        refine rj_iret dX11_load_53 ?_
        have e : F_load A s t = fnd A 0 := by unfold F_load; rw [wS_in hvp hjp, if_neg hb_21, wT_out hnj]
        rw [e]
        exact ⟨rfl, hq⟩
    · have hb_21 := bz_f h_21
      refine rj_ald0 dX11_load_24 rfl ?_
      refine rj_ldcw kX11_280 dX11_load_25 ?_
      refine rj_V1 (ci := 11) cX11_88 rfl (by decide) rfl dX11_load_28 (c_X11_found (i := 5) hC (by decide) (by decide)) (fitM (by decide) (by decide)) (Nat.le_of_ble_eq_true rfl) ?_
      rintro v υq ⟨rfl, hq⟩
      simp only [Option.toList, List.cons_append, List.nil_append]
      refine rj_iret dX11_load_31 ?_
      have e : F_load A s t = fnd A 5 := by unfold F_load; rw [wS_in hvp hjp, if_pos hb_21]
      rw [e]
      exact ⟨rfl, hq⟩
  · rw [hυp]
    simp only [Option.toList, List.cons_append, List.nil_append]
    refine rj_nst3 dX11_load_5 (by decide) rfl ?_
    refine rj_ald3N dX11_load_6 rfl ?_
    refine rj_nn_null dX11_load_7 ?_
    refine rj_ald0 dX11_load_10 rfl ?_
    refine rj_ldc kX11_87 dX11_load_11 ?_
    refine rj_V1 (ci := 11) cX11_88 rfl (by decide) rfl dX11_load_13 (c_X11_found (i := 0) hC (by decide) (by decide)) (fitM (by decide) (by decide)) (Nat.le_of_ble_eq_true rfl) ?_
    rintro v υq ⟨rfl, hq⟩
    simp only [Option.toList, List.cons_append, List.nil_append]
    refine rj_iret dX11_load_16 ?_
    have e : F_load A s t = fnd A 0 := by unfold F_load; rw [wS_out hnp]
    rw [e]
    exact ⟨rfl, hq⟩

set_option maxRecDepth 100000 in
theorem l_X11_show {l : Launch} {X : CX} {h : Nat} {Q : Option Value → ST → Prop} {σ : ST} {fb p j M : Nat} {s t : Int32} {A : SA} (hh : 3 ≤ h) (hp : p < 4) (hj : j < A.2.1.2.2.length) (hM : M ≤ 40) (hM2 : M ≤ lyN (fT A j).1 (fT A j).2.length) {r : List Int64} (hQ : ∀ v τ, OP σ (nI M, sS A p ((shT A p).1, r)) v τ → Q v τ) : ∀ (N i : Nat) (a : List Int64) (τ : ST), M < i + N → (i ≤ M ∧ M ≤ a.length ∧ CR τ fb (sS A p ((shT A p).1, a)) ∧ off sysP σ τ ∧ swR (shT A p).1 (lyA A j) (M - i) i a = r) → RJ (GM l X h Q) X cX11_show 7 (some .int) RX11 71 [some (.ref (ad X 0)), some (.int s), some (.int t), some (.ref (ad X (104 + 2 * p))), some (.ref (ad X (tk fb j))), some (.int (nI M)), some (.int (nI i))] [] τ := by
  intro N
  induction N with
  | zero => intro i a τ hN hi; have := hi.1; exact absurd hN (by omega)
  | succ N ih =>
    intro i a τ hN hi
    obtain ⟨hi, hMa, hC, ho, hr⟩ := hi
    have hk := cr_k hC
    have hF := hC.2.2.2.2.1
    have hkt := (fair_next hk).2.2 j (Nat.lt_of_lt_of_le hj hC.2.2.2.2.1.2.2.2.1)
    have hti : Ti _ (tk fb j) (fT A j).1 (fT A j).2 := fr_tie (A := A.2.1) hF hj
    have hS0 := fr_sh hC hp
    have hS : Sh τ (104 + 2 * p) (shT A p).1 a := by
      have hq : shT (sS A p ((shT A p).1, a)) p = ((shT A p).1, a) := by unfold shT sS; simp
      rw [hq] at hS0
      exact hS0
    have hks := sh_kd p hp
    have hMt : (nI M).toInt = M := nI_t (by omega)
    have hit : (nI i).toInt = i := nI_t (by omega)
    have hrc : τ.1 fb 2 = A.2.1.1 := hF.2.1
    refine rj_ild dX11_show_71 rfl ?_
    refine rj_ild dX11_show_73 rfl ?_
    refine rj_ic_ge (tgt := 105) dX11_show_75 (by decide) (fun h_75 => ?_) (fun h_75 => ?_)
    · refine rj_ild dX11_show_105 rfl ?_
      refine rj_iret dX11_show_107 ?_
      rw [show M - i = 0 by omega] at hr
      unfold swR at hr
      subst hr
      exact hQ _ _ ⟨rfl, ⟨fb, hC⟩, ho⟩
    · rw [show M - i = (M - (i + 1)) + 1 by omega] at hr
      unfold swR at hr
      refine rj_ald3 dX11_show_78 rfl ?_
      refine rj_ild dX11_show_79 rfl ?_
      refine rj_ald dX11_show_81 rfl ?_
      refine rj_ild dX11_show_83 rfl ?_
      refine rj_ald0 dX11_show_85 rfl ?_
      refine g11_76 dX11_show_86 ?_
      rw [cr_f hC]
      refine g11_97 (by first | assumption | rfl) dX11_show_89 ?_
      rw [hrc]
      refine rj_V2i (ci := 8) cX11_157 rfl (by decide) (by first | assumption | rfl) dX11_show_92 (c_X8_laidAt (j := i) hkt hti hit (by omega)) (fitM (by omega) (by decide)) (Nat.le_of_ble_eq_true rfl) ?_
      refine rj_i2l dX11_show_95 ?_
      refine rj_V2 (ci := 4) cX11_284 rfl (by decide) (by first | assumption | rfl) dX11_show_96 (c_X4_put hks hS (j := i) hit (by omega)) (fitM (by omega) (by decide)) (Nat.le_of_ble_eq_true rfl) ?_
      rintro v υ ⟨rfl, hS1, ho1⟩
      simp only [Option.toList, List.nil_append]
      have hC1 := cr_sheet hC hp hS1 ho1
      rw [sS_sS] at hC1
      refine rj_iinc6 (d := 1) dX11_show_99 (by decide) rfl (by decide) ?_
      rw [nI_1]
      refine rj_goto (tgt := 71) dX11_show_102 (by decide) ?_
      exact ih (i + 1) _ _ (by omega) ⟨by omega, by rw [List.length_set]; exact hMa, hC1.1, ho.tr hC1.2, hr⟩

set_option maxRecDepth 100000 in
theorem c_X11_show {l : Launch} {X : CX} {σ : ST} {fb : Nat} {A : SA} (hC : CR σ fb A) (hw : wf A) {s t : Int32} : MJ l X 3 yX11_show cX11_show 7 (some .int) [.ref (ad X 0), .int s, .int t] σ (OP σ (F_show A s t)) := by
  refine MJ_of (own := RX11) [some (.ref (ad X 0)), some (.int s), some (.int t), none, none, none, none] (by decide) rfl (Nat.le_of_ble_eq_true rfl) rfl ?_
  have hk := cr_k hC
  have hF := hC.2.2.2.2.1
  refine rj_ald0 dX11_show_0 rfl ?_
  refine rj_ild1 dX11_show_1 rfl ?_
  refine rj_V1 (ci := 11) cX11_268 rfl (by decide) (by first | assumption | rfl) dX11_show_2 c_X11_sheetAt (fitM (by decide) (by decide)) (Nat.le_of_ble_eq_true rfl) ?_
  rintro v υp ⟨hυp, ⟨p, hvp, hjp, rfl⟩ | ⟨hnp, rfl⟩⟩
  · rw [hυp]
    simp only [Option.toList, List.cons_append, List.nil_append]
    have hksp := sh_kd p hjp
    have hSp : Sh _ (104 + 2 * p) (shT A p).1 (shT A p).2 := hC.2.2.2.2.2.2.2.2.2.1 p hjp
    refine rj_ast3 dX11_show_5 (by decide) rfl ?_
    refine rj_ald3 dX11_show_6 rfl ?_
    refine rj_nn_ref (tgt := 17) dX11_show_7 (by decide) ?_
    refine rj_ald3 dX11_show_17 rfl ?_
    refine rj_V0i (ci := 4) cX11_277 rfl (by decide) (by first | assumption | rfl) dX11_show_18 (c_X4_isMissing hksp hSp) (fitM (by decide) (by decide)) (Nat.le_of_ble_eq_true rfl) ?_
    refine rj_if_eq (tgt := 32) dX11_show_21 (by decide) (fun h_21 => ?_) (fun h_21 => ?_)
    · have hb_21 := bz_t h_21
      refine rj_ald0 dX11_show_32 rfl ?_
      refine g11_76 dX11_show_33 ?_
      rw [cr_f hC]
      refine rj_ild2 dX11_show_36 rfl ?_
      refine rj_V1 (ci := 1) cX11_112 rfl (by decide) (by first | assumption | rfl) dX11_show_37 (c_X1_tieAt (cr_k hC) hC.2.2.2.2.1) (fitM (by decide) (by decide)) (Nat.le_of_ble_eq_true rfl) ?_
      rintro v υj ⟨hυj, ⟨j, hvj, hjj, rfl⟩ | ⟨hnj, rfl⟩⟩
      · rw [hυj]
        simp only [Option.toList, List.cons_append, List.nil_append]
        have hj8j : j < 8 := Nat.lt_of_lt_of_le hjj hC.2.2.2.2.1.2.2.2.1
        have hktj := (fair_next (cr_k hC)).2.2 j hj8j
        obtain ⟨hkrj, hkaj, hlnj⟩ := tie_next hktj
        have htij : Ti _ (tk fb j) (fT A j).1 (fT A j).2 := fr_tie hC.2.2.2.2.1 hjj
        have hxj : Rw _ (tk fb j + 1) (fT A j).2 := htij.2
        refine rj_ast4w dX11_show_40 (by decide) rfl ?_
        refine rj_ald dX11_show_42 rfl ?_
        refine rj_nn_ref (tgt := 54) dX11_show_44 (by decide) ?_
        have h12 := htij.len hktj
        have hlt : (nI (lyN (fT A j).1 (fT A j).2.length)).toInt = lyN (fT A j).1 (fT A j).2.length := nI_t (by have := lyN_le (kind := (fT A j).1) h12; omega)
        have h40 := hSp.2.2.1
        have hszt : (nI (shT A p).2.length).toInt = (shT A p).2.length := nI_t (by omega)
        have hmin : (if nI (lyN (fT A j).1 (fT A j).2.length) < nI (shT A p).2.length then nI (lyN (fT A j).1 (fT A j).2.length) else nI (shT A p).2.length) = nI (shN A p j) := by
          unfold shN
          by_cases q : lyN (fT A j).1 (fT A j).2.length < (shT A p).2.length
          · rw [if_pos q, if_pos (Int32.lt_iff_toInt_lt.mpr (by omega))]
          · rw [if_neg q, if_neg (fun z => q (by have := Int32.lt_iff_toInt_lt.mp z; omega))]
        have hle : shN A p j ≤ (shT A p).2.length ∧ shN A p j ≤ lyN (fT A j).1 (fT A j).2.length := by unfold shN; split <;> omega
        refine rj_ald3 dX11_show_54 rfl ?_
        refine g11_276 (by first | assumption | rfl) dX11_show_55 ?_
        rw [nI_of_toInt hSp.2.1]
        refine rj_ald dX11_show_58 rfl ?_
        refine rj_V0i (ci := 8) cX11_148 rfl (by decide) (by first | assumption | rfl) dX11_show_60 (c_X8_laidSize hktj htij) (fitM (by decide) (by decide)) (Nat.le_of_ble_eq_true rfl) ?_
        refine rj_min cX11_304 (fitNM (by first | decide | omega) (Nat.le_of_ble_eq_true rfl)) dX11_show_63 ?_
        rw [hmin]
        refine rj_ist5w dX11_show_66 (by decide) rfl ?_
        refine rj_ic0 dX11_show_68 ?_
        refine rj_ist6w dX11_show_69 (by decide) rfl ?_
        have e : F_show A s t = (nI (shN A p j), sS A p ((shT A p).1, swR (shT A p).1 (lyA A j) (shN A p j) 0 (shT A p).2)) := by unfold F_show; rw [wS_in hvp hjp, if_neg hb_21, wT_in hvj hjj]
        rw [e]
        exact l_X11_show (by decide) hjp hjj (by omega) hle.2 (fun v τ h => h) (shN A p j + 1) 0 (shT A p).2 _ (by omega) ⟨by omega, hle.1, by rw [sS_self]; exact hC, off.rf, rfl⟩
      · rw [hυj]
        simp only [Option.toList, List.cons_append, List.nil_append]
        refine rj_nst4w dX11_show_40 (by decide) rfl ?_
        refine rj_aldN dX11_show_42 rfl ?_
        refine rj_nn_null dX11_show_44 ?_
        refine rj_ald0 dX11_show_47 rfl ?_
        refine rj_ldc kX11_87 dX11_show_48 ?_
        refine rj_V1 (ci := 11) cX11_88 rfl (by decide) rfl dX11_show_50 (c_X11_found (i := 0) hC (by decide) (by decide)) (fitM (by decide) (by decide)) (Nat.le_of_ble_eq_true rfl) ?_
        rintro v υq ⟨rfl, hq⟩
        simp only [Option.toList, List.cons_append, List.nil_append]
        refine rj_iret dX11_show_53 ?_
        have e : F_show A s t = fnd A 0 := by unfold F_show; rw [wS_in hvp hjp, if_neg hb_21, wT_out hnj]
        rw [e]
        exact ⟨rfl, hq⟩
    · have hb_21 := bz_f h_21
      refine rj_ald0 dX11_show_24 rfl ?_
      refine rj_ldcw kX11_280 dX11_show_25 ?_
      refine rj_V1 (ci := 11) cX11_88 rfl (by decide) rfl dX11_show_28 (c_X11_found (i := 5) hC (by decide) (by decide)) (fitM (by decide) (by decide)) (Nat.le_of_ble_eq_true rfl) ?_
      rintro v υq ⟨rfl, hq⟩
      simp only [Option.toList, List.cons_append, List.nil_append]
      refine rj_iret dX11_show_31 ?_
      have e : F_show A s t = fnd A 5 := by unfold F_show; rw [wS_in hvp hjp, if_pos hb_21]
      rw [e]
      exact ⟨rfl, hq⟩
  · rw [hυp]
    simp only [Option.toList, List.cons_append, List.nil_append]
    refine rj_nst3 dX11_show_5 (by decide) rfl ?_
    refine rj_ald3N dX11_show_6 rfl ?_
    refine rj_nn_null dX11_show_7 ?_
    refine rj_ald0 dX11_show_10 rfl ?_
    refine rj_ldc kX11_87 dX11_show_11 ?_
    refine rj_V1 (ci := 11) cX11_88 rfl (by decide) rfl dX11_show_13 (c_X11_found (i := 0) hC (by decide) (by decide)) (fitM (by decide) (by decide)) (Nat.le_of_ble_eq_true rfl) ?_
    rintro v υq ⟨rfl, hq⟩
    simp only [Option.toList, List.cons_append, List.nil_append]
    refine rj_iret dX11_show_16 ?_
    have e : F_show A s t = fnd A 0 := by unfold F_show; rw [wS_out hnp]
    rw [e]
    exact ⟨rfl, hq⟩

set_option maxRecDepth 100000 in
theorem l_X11_fits {l : Launch} {X : CX} {h : Nat} {Q : Option Value → ST → Prop} {σ : ST} {fb p j : Nat} {A : SA} (hh : 3 ≤ h) (hC : CR σ fb A) (hp : p < 4) (hj : j < A.2.1.2.2.length) (hl : (shT A p).2.length = (lyA A j).length) (hQ : Q (some (.int (if fitA (shT A p).2 (lyA A j) then 1 else 0))) σ) : ∀ (N i : Nat) (v4 v5 : Option Value), (shT A p).2.length < i + N → (i ≤ (shT A p).2.length ∧ ∀ q, q < i → ((shT A p).2.getD q 0 = 0 ∨ (shT A p).2.getD q 0 = (sg ((lyA A j).getD q 0)).toInt64)) → RJ (GM l X h Q) X cX11_fits 6 (some .boolean) RX11 15 [some (.ref (ad X 0)), some (.ref (ad X (104 + 2 * p))), some (.ref (ad X (tk fb j))), some (.int (nI i)), v4, v5] [] σ := by
  intro N
  induction N with
  | zero => intro i v4 v5 hN hi; have := hi.1; exact absurd hN (by omega)
  | succ N ih =>
    intro i v4 v5 hN hi
    obtain ⟨hi, hv⟩ := hi
    have hkt := (fair_next (cr_k hC)).2.2 j (Nat.lt_of_lt_of_le hj hC.2.2.2.2.1.2.2.2.1)
    have hti : Ti _ (tk fb j) (fT A j).1 (fT A j).2 := fr_tie hC.2.2.2.2.1 hj
    have hk := cr_k hC
    have hF := hC.2.2.2.2.1
    have hS : Sh σ (104 + 2 * p) (shT A p).1 (shT A p).2 := fr_sh hC hp
    have hks := sh_kd p hp
    have hsz := hS.2.1
    have h40 := hS.2.2.1
    have hll : (shT A p).2.length = lyN (fT A j).1 (fT A j).2.length := by rw [hl, ly_len]
    have hit : (nI i).toInt = i := nI_t (by omega)
    refine rj_ild3 dX11_fits_15 rfl ?_
    refine rj_ald1 dX11_fits_16 rfl ?_
    refine g11_276 (by first | assumption | rfl) dX11_fits_17 ?_
    refine rj_ic_ge (tgt := 67) dX11_fits_20 (by decide) (fun h_20 => ?_) (fun h_20 => ?_)
    · refine rj_ic1 dX11_fits_67 ?_
      refine rj_zret dX11_fits_68 (rfl) ?_
      rw [if_pos ⟨hl, fun q hq => hv q (by omega)⟩] at hQ
      exact hQ
    · refine rj_ald1 dX11_fits_23 rfl ?_
      refine rj_ild3 dX11_fits_24 rfl ?_
      refine rj_V1l (ci := 4) cX11_281 rfl (by decide) (by first | assumption | rfl) dX11_fits_25 (c_X4_at hks hS) (fitM (by omega) (by decide)) (Nat.le_of_ble_eq_true rfl) ?_
      rw [sat_in hit (by omega)]
      refine rj_lst4w dX11_fits_28 (by decide) rfl ?_
      refine rj_lld dX11_fits_30 rfl ?_
      refine rj_lc0 dX11_fits_32 ?_
      refine rj_lcmp dX11_fits_33 ?_
      refine rj_if_eq (tgt := 61) dX11_fits_34 (by decide) (fun h_34 => ?_) (fun h_34 => ?_)
      · have hok : (shT A p).2.getD i 0 = 0 ∨ (shT A p).2.getD i 0 = (sg ((lyA A j).getD i 0)).toInt64 := Or.inl (Int64.toInt_inj.mp (lcm_0.mp h_34))
        refine rj_iinc3 (d := 1) dX11_fits_61 (by decide) rfl (by decide) ?_
        rw [nI_1]
        refine rj_goto (tgt := 15) dX11_fits_64 (by decide) ?_
        exact ih (i + 1) _ _ (by omega) ⟨by omega, fun q hq => by rcases Nat.lt_or_ge q i with z | z; exact hv q z; rw [show q = i by omega]; exact hok⟩
      · have hn0 : ¬ (shT A p).2.getD i 0 = 0 := fun z => h_34 (lcm_0.mpr (by rw [z]))
        refine rj_lld dX11_fits_37 rfl ?_
        refine rj_ald2 dX11_fits_39 rfl ?_
        refine rj_ild3 dX11_fits_40 rfl ?_
        refine rj_ald0 dX11_fits_41 rfl ?_
        refine g11_76 dX11_fits_42 ?_
        rw [cr_f hC]
        refine g11_97 (by first | assumption | rfl) dX11_fits_45 ?_
        rw [hF.2.1]
        refine rj_V2i (ci := 8) cX11_157 rfl (by decide) (by first | assumption | rfl) dX11_fits_48 (c_X8_laidAt (j := i) hkt hti hit (by omega)) (fitM (by omega) (by decide)) (Nat.le_of_ble_eq_true rfl) ?_
        refine rj_S1i cX11_329 dX11_fits_51 c_X11_signOf (fitM (by omega) (by decide)) (Nat.le_of_ble_eq_true rfl) ?_
        refine rj_i2l dX11_fits_54 ?_
        refine rj_lcmp dX11_fits_55 ?_
        refine rj_if_eq (tgt := 61) dX11_fits_56 (by decide) (fun h_56 => ?_) (fun h_56 => ?_)
        · have hok : (shT A p).2.getD i 0 = 0 ∨ (shT A p).2.getD i 0 = (sg ((lyA A j).getD i 0)).toInt64 := Or.inr (Int64.toInt_inj.mp (lcm_0.mp h_56))
          refine rj_iinc3 (d := 1) dX11_fits_61 (by decide) rfl (by decide) ?_
          rw [nI_1]
          refine rj_goto (tgt := 15) dX11_fits_64 (by decide) ?_
          exact ih (i + 1) _ _ (by omega) ⟨by omega, fun q hq => by rcases Nat.lt_or_ge q i with z | z; exact hv q z; rw [show q = i by omega]; exact hok⟩
        · have hns : ¬ (shT A p).2.getD i 0 = (sg ((lyA A j).getD i 0)).toInt64 := fun z => h_56 (lcm_0.mpr (congrArg Int64.toInt z))
          refine rj_ic0 dX11_fits_59 ?_
          refine rj_zret dX11_fits_60 (rfl) ?_
          rw [if_neg (fun z => (z.2 i (by omega)).elim hn0 hns)] at hQ
          exact hQ

set_option maxRecDepth 100000 in
theorem c_X11_fits {l : Launch} {X : CX} {σ : ST} {fb j : Nat} {A : SA} (hC : CR σ fb A) (hj : j < A.2.1.2.2.length) {p : Nat} (hp : p < 4) : MJ l X 3 yX11_fits cX11_fits 6 (some .boolean) [.ref (ad X 0), .ref (ad X (104 + 2 * p)), .ref (ad X (tk fb j))] σ (eqI (if fitA (shT A p).2 (lyA A j) then 1 else 0) σ) := by
  refine MJ_of (own := RX11) [some (.ref (ad X 0)), some (.ref (ad X (104 + 2 * p))), some (.ref (ad X (tk fb j))), none, none, none] (by decide) rfl (Nat.le_of_ble_eq_true rfl) rfl ?_
  have hkt := (fair_next (cr_k hC)).2.2 j (Nat.lt_of_lt_of_le hj hC.2.2.2.2.1.2.2.2.1)
  have hti : Ti _ (tk fb j) (fT A j).1 (fT A j).2 := fr_tie hC.2.2.2.2.1 hj
  have hk := cr_k hC
  have hF := hC.2.2.2.2.1
  have hS : Sh σ (104 + 2 * p) (shT A p).1 (shT A p).2 := fr_sh hC hp
  have hks := sh_kd p hp
  have h40 := hS.2.2.1
  have h12 := hti.len hkt
  have hlt : (nI (lyN (fT A j).1 (fT A j).2.length)).toInt = lyN (fT A j).1 (fT A j).2.length := nI_t (by have := lyN_le (kind := (fT A j).1) h12; omega)
  have hsz := hS.2.1
  have hly : (lyA A j).length = lyN (fT A j).1 (fT A j).2.length := ly_len _ _ _
  refine rj_ald1 dX11_fits_0 rfl ?_
  refine g11_276 (by first | assumption | rfl) dX11_fits_1 ?_
  refine rj_ald2 dX11_fits_4 rfl ?_
  refine rj_V0i (ci := 8) cX11_148 rfl (by decide) (by first | assumption | rfl) dX11_fits_5 (c_X8_laidSize hkt hti) (fitM (by decide) (by decide)) (Nat.le_of_ble_eq_true rfl) ?_
  refine rj_ic_eq (tgt := 13) dX11_fits_8 (by decide) (fun h_8 => ?_) (fun h_8 => ?_)
  · refine rj_ic0 dX11_fits_13 ?_
    refine rj_ist3 dX11_fits_14 (by decide) rfl ?_
    have h8 := congrArg Int32.toInt h_8
    exact l_X11_fits (by decide) hC hp hj (by omega) ⟨rfl, rfl⟩ ((shT A p).2.length + 1) 0 _ _ (by omega) ⟨by omega, fun q hq => absurd hq (by omega)⟩
  · refine rj_ic0 dX11_fits_11 ?_
    refine rj_zret dX11_fits_12 (rfl) ?_
    refine ⟨?_, rfl⟩
    rw [if_neg]
    intro z
    have z1 := z.1
    exact h_8 (i_inj (by omega))

set_option maxRecDepth 100000 in
theorem l_X11_read {l : Launch} {X : CX} {h : Nat} {Q : Option Value → ST → Prop} {σ : ST} {fb p : Nat} {s : Int32} {A : SA} (hh : 4 ≤ h) (hC : CR σ fb A) (hp : p < 4) : ∀ (N i : Nat) (a : Int32) (v5 : Option Value), A.2.1.2.2.length < i + N → (i ≤ A.2.1.2.2.length ∧ Q (some (.int (rdR A (shT A p).2 (A.2.1.2.2.length - i) i a))) σ) → RJ (GM l X h Q) X cX11_read 6 (some .int) RX11 51 [some (.ref (ad X 0)), some (.int s), some (.ref (ad X (104 + 2 * p))), some (.int a), some (.int (nI i)), v5] [] σ := by
  intro N
  induction N with
  | zero => intro i a v5 hN hi; have := hi.1; exact absurd hN (by omega)
  | succ N ih =>
    intro i a v5 hN hi
    obtain ⟨hi, hQ⟩ := hi
    have hk := cr_k hC
    have hF := hC.2.2.2.2.1
    have hsz := hF.1
    have h8 := hF.2.2.2.1
    have hks := sh_kd p hp
    have hit : (nI i).toInt = i := nI_t (by omega)
    refine rj_ild dX11_read_51 rfl ?_
    refine rj_ald0 dX11_read_53 rfl ?_
    refine g11_76 dX11_read_54 ?_
    rw [cr_f hC]
    refine g11_92 (by first | assumption | rfl) dX11_read_57 ?_
    refine rj_ic_ge (tgt := 102) dX11_read_60 (by decide) (fun h_60 => ?_) (fun h_60 => ?_)
    · refine rj_ild3 dX11_read_102 rfl ?_
      refine rj_iret dX11_read_103 ?_
      rw [show A.2.1.2.2.length - i = 0 by omega] at hQ
      exact hQ
    · rw [show A.2.1.2.2.length - i = (A.2.1.2.2.length - (i + 1)) + 1 by omega] at hQ
      unfold rdR at hQ
      refine rj_ald0 dX11_read_63 rfl ?_
      refine g11_76 dX11_read_64 ?_
      rw [cr_f hC]
      refine rj_ild dX11_read_67 rfl ?_
      refine rj_V1r (ci := 1) cX11_112 rfl (by decide) (by first | assumption | rfl) dX11_read_69 (c_X1_tieIn hk hsz h8 hit (by omega)) (fitM (by omega) (by decide)) (Nat.le_of_ble_eq_true rfl) ?_
      refine rj_ast5w dX11_read_72 (by decide) rfl ?_
      refine rj_ald dX11_read_74 rfl ?_
      refine rj_nu_ref dX11_read_76 ?_
      refine rj_ald0 dX11_read_79 rfl ?_
      refine rj_ald2 dX11_read_80 rfl ?_
      refine rj_ald dX11_read_81 rfl ?_
      refine rj_V2i (ci := 11) cX11_312 rfl (by decide) (by first | assumption | rfl) dX11_read_83 (c_X11_fits hC (j := i) (by omega) hp) (fitM (by omega) (by decide)) (Nat.le_of_ble_eq_true rfl) ?_
      refine rj_if_eq (tgt := 96) dX11_read_86 (by decide) (fun h_86 => ?_) (fun h_86 => ?_)
      · have hb_86 := bz_t h_86
        rw [if_neg hb_86] at hQ
        refine rj_iinc4 (d := 1) dX11_read_96 (by decide) rfl (by decide) ?_
        rw [nI_1]
        refine rj_goto (tgt := 51) dX11_read_99 (by decide) ?_
        exact ih (i + 1) _ _ (by omega) ⟨by omega, hQ⟩
      · have hb_86 := bz_f h_86
        rw [if_pos hb_86] at hQ
        refine rj_ild3 dX11_read_89 rfl ?_
        refine rj_ic1 dX11_read_90 ?_
        refine rj_ild dX11_read_91 rfl ?_
        refine rj_ishl dX11_read_93 ?_
        refine rj_ior dX11_read_94 ?_
        refine rj_ist3 dX11_read_95 (by decide) rfl ?_
        refine rj_iinc4 (d := 1) dX11_read_96 (by decide) rfl (by decide) ?_
        rw [nI_1]
        refine rj_goto (tgt := 51) dX11_read_99 (by decide) ?_
        exact ih (i + 1) _ _ (by omega) ⟨by omega, hQ⟩

set_option maxRecDepth 100000 in
theorem c_X11_read {l : Launch} {X : CX} {σ : ST} {fb : Nat} {A : SA} (hC : CR σ fb A) (hw : wf A) {s : Int32} : MJ l X 4 yX11_read cX11_read 6 (some .int) [.ref (ad X 0), .int s] σ (OP σ (F_read A s)) := by
  refine MJ_of (own := RX11) [some (.ref (ad X 0)), some (.int s), none, none, none, none] (by decide) rfl (Nat.le_of_ble_eq_true rfl) rfl ?_
  have hk := cr_k hC
  have hF := hC.2.2.2.2.1
  refine rj_ald0 dX11_read_0 rfl ?_
  refine rj_ild1 dX11_read_1 rfl ?_
  refine rj_V1 (ci := 11) cX11_268 rfl (by decide) (by first | assumption | rfl) dX11_read_2 c_X11_sheetAt (fitM (by decide) (by decide)) (Nat.le_of_ble_eq_true rfl) ?_
  rintro v υp ⟨hυp, ⟨p, hvp, hjp, rfl⟩ | ⟨hnp, rfl⟩⟩
  · rw [hυp]
    simp only [Option.toList, List.cons_append, List.nil_append]
    have hksp := sh_kd p hjp
    have hSp : Sh _ (104 + 2 * p) (shT A p).1 (shT A p).2 := hC.2.2.2.2.2.2.2.2.2.1 p hjp
    refine rj_ast2 dX11_read_5 (by decide) rfl ?_
    refine rj_ald2 dX11_read_6 rfl ?_
    refine rj_nn_ref (tgt := 17) dX11_read_7 (by decide) ?_
    refine rj_ald2 dX11_read_17 rfl ?_
    refine rj_V0i (ci := 4) cX11_277 rfl (by decide) (by first | assumption | rfl) dX11_read_18 (c_X4_isMissing hksp hSp) (fitM (by decide) (by decide)) (Nat.le_of_ble_eq_true rfl) ?_
    refine rj_if_eq (tgt := 32) dX11_read_21 (by decide) (fun h_21 => ?_) (fun h_21 => ?_)
    · have hb_21 := bz_t h_21
      refine rj_ald2 dX11_read_32 rfl ?_
      refine rj_V0i (ci := 4) cX11_309 rfl (by decide) (by first | assumption | rfl) dX11_read_33 (c_X4_holdsSignsOnly hksp hSp) (fitM (by decide) (by decide)) (Nat.le_of_ble_eq_true rfl) ?_
      refine rj_if_ne (tgt := 46) dX11_read_36 (by decide) (fun h_36 => ?_) (fun h_36 => ?_)
      · have hb_36 := bz_f h_36
        refine rj_ic0 dX11_read_46 ?_
        refine rj_ist3 dX11_read_47 (by decide) rfl ?_
        refine rj_ic0 dX11_read_48 ?_
        refine rj_ist4w dX11_read_49 (by decide) rfl ?_
        have e : F_read A s = (rdR A (shT A p).2 A.2.1.2.2.length 0 0, A) := by unfold F_read; rw [wS_in hvp hjp, if_neg hb_21, if_pos hb_36]
        exact l_X11_read (by decide) hC hjp (A.2.1.2.2.length + 1) 0 0 _ (by omega) ⟨by omega, by rw [e]; exact ⟨rfl, cr_same hC⟩⟩
      · have hb_36 := bz_t h_36
        refine rj_ald0 dX11_read_39 rfl ?_
        refine rj_ldc kX11_96 dX11_read_40 ?_
        refine rj_V1 (ci := 11) cX11_88 rfl (by decide) rfl dX11_read_42 (c_X11_found (i := 4) hC (by decide) (by decide)) (fitM (by decide) (by decide)) (Nat.le_of_ble_eq_true rfl) ?_
        rintro v υq ⟨rfl, hq⟩
        simp only [Option.toList, List.cons_append, List.nil_append]
        refine rj_iret dX11_read_45 ?_
        have e : F_read A s = fnd A 4 := by unfold F_read; rw [wS_in hvp hjp, if_neg hb_21, if_neg hb_36]
        rw [e]
        exact ⟨rfl, hq⟩
    · have hb_21 := bz_f h_21
      refine rj_ald0 dX11_read_24 rfl ?_
      refine rj_ldcw kX11_280 dX11_read_25 ?_
      refine rj_V1 (ci := 11) cX11_88 rfl (by decide) rfl dX11_read_28 (c_X11_found (i := 5) hC (by decide) (by decide)) (fitM (by decide) (by decide)) (Nat.le_of_ble_eq_true rfl) ?_
      rintro v υq ⟨rfl, hq⟩
      simp only [Option.toList, List.cons_append, List.nil_append]
      refine rj_iret dX11_read_31 ?_
      have e : F_read A s = fnd A 5 := by unfold F_read; rw [wS_in hvp hjp, if_pos hb_21]
      rw [e]
      exact ⟨rfl, hq⟩
  · rw [hυp]
    simp only [Option.toList, List.cons_append, List.nil_append]
    refine rj_nst2 dX11_read_5 (by decide) rfl ?_
    refine rj_ald2N dX11_read_6 rfl ?_
    refine rj_nn_null dX11_read_7 ?_
    refine rj_ald0 dX11_read_10 rfl ?_
    refine rj_ldc kX11_87 dX11_read_11 ?_
    refine rj_V1 (ci := 11) cX11_88 rfl (by decide) rfl dX11_read_13 (c_X11_found (i := 0) hC (by decide) (by decide)) (fitM (by decide) (by decide)) (Nat.le_of_ble_eq_true rfl) ?_
    rintro v υq ⟨rfl, hq⟩
    simp only [Option.toList, List.cons_append, List.nil_append]
    refine rj_iret dX11_read_16 ?_
    have e : F_read A s = fnd A 0 := by unfold F_read; rw [wS_out hnp]
    rw [e]
    exact ⟨rfl, hq⟩

