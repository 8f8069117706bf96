/-! constructors with loops -/
abbrev aq (X : CX) (t N : Nat) (f : Nat → Option Nat) : va_E := .inl (X.2.1 t, N, .inr (.inr (.inr (.inr f))))
def fTq (X : CX) (b st i : Nat) : Nat → Option Nat := fun j => if j < i then some (X.2.2.1 + (b + st * j)) else none
theorem fTq_0 {X : CX} {b st : Nat} : fTq X b st 0 = (fun _ => none) := funext fun j => if_neg (Nat.not_lt_zero j)
theorem fTq_s {X : CX} {b st i : Nat} : va_up (fTq X b st i) i (some (X.2.2.1 + (b + st * i))) = fTq X b st (i + 1) := by
  funext j
  unfold fTq
  by_cases h : j = i
  · subst h
    rw [up_same, if_pos (by omega)]
  · rw [up_other _ _ h]
    by_cases h2 : j < i
    · rw [if_pos h2, if_pos (by omega)]
    · rw [if_neg h2, if_neg (by omega)]
theorem up_id {α : Type} {f : Nat → α} {k : Nat} {v : α} (h : f k = v) : va_up f k v = f := by
  funext j
  by_cases hj : j = k
  · subst hj
    rw [up_same, h]
  · rw [up_other _ _ hj]
theorem lay_fair {X : CX} {k : Nat} (h1 : kd (xi k) = 1) (h4 : sg0.1 (xi k) 1 = 0) (h5 : sg0.1 (xi k) 2 = 4) (h6 : sg0.1 (xi k) 3 = 1) (h7 : xi (k + 1) = xi k + 1) : lo X k = .inr (1, [.ref (X.2.2.1 + (k + 1)), .int 0, .int 4, .int 1]) := by
  rw [lo_obj h1 (by decide), ← ad_s h7]
  simp [flsG, ftab, fv, h4, h5, h6]
theorem i_lpF {l : Launch} {X : CX} {w : Nat → va_E} {k : Nat} (h1 : kd (xi k) = 1) (h2 : kd (xi (k + 1)) = 16) (h3 : ∀ i, i < 8 → okT (k + 1 + (1 + 3 * i)) = true) (h4 : sg0.1 (xi k) 1 = 0) (h5 : sg0.1 (xi k) 2 = 4) (h6 : sg0.1 (xi k) 3 = 1) (h7 : xi (k + 1) = xi k + 1) (h8 : ∀ j, j < 8 → xi (k + 2 + 3 * j) = xi (k + 1) + 1 + 3 * j) : ∀ M i : Nat, i + M = 8 → KJ (GK l X 3 25 136 (k + 1 + 25) (mx w (lo X) (k))) X cX1_init 2 none RX1 "<init>" (k + 1) 30 [some (.ref (X.2.2.1 + k)), some (.int (nI i))] [] (1 + 3 * i) (mx w (va_up (va_up (lo X) (k + 1) (aq X 3 8 (fTq X (k + 2) 3 i))) (k) (.inr (1, [.ref (X.2.2.1 + (k + 1)), .int 0, .int 4, .int 1]))) (k)) (8 + 16 * i) := by
  intro M
  induction M with
  | zero =>
    intro i hi
    have hi2 : i = 8 := by omega
    subst hi2
    refine kj_ild1 dX1_init_30 rfl ?_
    refine kj_ald0 dX1_init_31 rfl ?_
    refine kb_get fb1_11 (by omega) rfl dX1_init_32 ?_
    refine kj_alen (k := k + 1) (t := 3) (N := 8) (by omega) ((mx_oth (by omega)).trans (up_same _ _ _)) rfl dX1_init_35 ?_
    refine kj_ic_ge dX1_init_36 (tgt := 58) (by decide) (fun _ => ?_) (fun h => absurd h (Int.lt_irrefl _))
    refine kj_ext (a := k + 1) (g := fun j => some (ad X (xi (k + 1) + 1 + 3 * j))) ((mx_oth (by omega)).trans (up_same _ _ _)) (fun j hj => (if_pos hj).trans (by rw [← h8 j hj, ad_xi])) ?_
    refine kj_ret dX1_init_58 rfl (fun i _ => ?_)
    refine (mx_arr (by omega)).trans ?_
    rw [up_id (lo_ti h2)]
    exact mx_end (lay_fair h1 h4 h5 h6 h7)
  | succ M ih =>
    intro i hi
    have hil : i < 8 := by omega
    refine kj_ild1 dX1_init_30 rfl ?_
    refine kj_ald0 dX1_init_31 rfl ?_
    refine kb_get fb1_11 (by omega) rfl dX1_init_32 ?_
    refine kj_alen (k := k + 1) (t := 3) (N := 8) (by omega) ((mx_oth (by omega)).trans (up_same _ _ _)) rfl dX1_init_35 ?_
    refine kj_ic_ge dX1_init_36 (tgt := 58) (by decide) (fun h => ?_) (fun _ => ?_)
    · rw [nI_t (by omega), nI_t (by omega)] at h
      omega
    refine kj_ald0 dX1_init_39 rfl ?_
    refine kb_get fb1_11 (by omega) rfl dX1_init_40 ?_
    refine kj_ild1 dX1_init_43 rfl ?_
    refine kj_new (fs := [.null, .int 0]) (⟨RX8, TX8, rfl, iw8, (tw_t (tm1 33 rfl) rfl), (tw_t (tm1 35 rfl) rfl), (tw_t (tm1 3 rfl) rfl)⟩ : nwA RX1 9 8 2) ft8 df8 (fitK_K (by omega) (by omega) (by omega) (by omega)) dX1_init_44 ?_
    refine kj_dup dX1_init_47 rfl ?_
    refine kb_init (As := []) niX1_27 (i_tie (k := k + 1 + (1 + 3 * i)) (h3 i hil)) (by omega) (by omega) (fun j hj1 hj2 => up_other _ _ (by omega)) rfl (fitI_K (by omega) (by omega) (by omega) (by omega)) (Nat.le_of_ble_eq_true rfl) dX1_init_48 ?_
    refine kb_astq (t := 3) (ci := 8) (r := (RX8, TX8, 2)) (by omega) (by omega) (by omega) rfl (by omega) (lay_tie (h3 i hil)) rfl (vpi (by rw [nI_t (by omega)]; omega) (by rw [nI_t (by omega)]; omega)) dX1_init_51 ?_
    rw [nI_clamp (by omega)]
    refine kj_iinc1 (d := 1) dX1_init_52 (by decide) rfl (by decide) ?_
    refine kj_goto dX1_init_55 (tgt := 30) (by decide) ?_
    rw [nI_1, show k + 1 + (1 + 3 * i) = k + 2 + 3 * i by omega, fTq_s, show 1 + 3 * i + 1 + 2 = 1 + 3 * (i + 1) by omega, show 8 + 16 * i + 2 + 14 = 8 + 16 * (i + 1) by omega]
    exact ih (i + 1) (by omega)
theorem i_fai {l : Launch} {X : CX} {k : Nat} (h1 : kd (xi k) = 1) (h2 : kd (xi (k + 1)) = 16) (h3 : ∀ i, i < 8 → okT (k + 1 + (1 + 3 * i)) = true) (h4 : sg0.1 (xi k) 1 = 0) (h5 : sg0.1 (xi k) 2 = 4) (h6 : sg0.1 (xi k) 3 = 1) (h7 : xi (k + 1) = xi k + 1) (h8 : ∀ j, j < 8 → xi (k + 2 + 3 * j) = xi (k + 1) + 1 + 3 * j) : MK l X 3 yX1_init cX1_init 2 [.ref (X.2.2.1 + k)] k 25 136 1 [.null, .int 0, .int 0, .int 0] := by
  refine MK_of (own := RX1) (va_up (lo X) (k + 1) (aq X 3 8 (fTq X (k + 2) 3 0))) [some (.ref (X.2.2.1 + k)), none] (by decide) rfl rfl (Nat.le_of_ble_eq_true rfl) rfl (fun w => ?_)
  refine kj_ald0 dX1_init_0 rfl ?_
  refine kj_obj (⟨(tw_t (tm1 32 rfl) rfl), (tw_t (tm1 25 rfl) rfl), (tw_t (tm1 26 rfl) rfl)⟩ : mO RX1 3) ⟨by show 1 ≤ 3; omega, by show 0 + 12 ≤ 64 * 3; omega⟩ dX1_init_1 ?_
  refine kj_ald0 dX1_init_4 rfl ?_
  refine kj_bipush (v := 8) dX1_init_5 (by decide) ?_
  refine kb_newq (t := 3) (N := 8) (tw_t (tm1 33 rfl) rfl) (fun _ h => h.1) rfl (by decide) (by decide) (by omega) (fitK_K (by omega) (by omega) (by omega) (by omega)) (by omega) (by rw [up_same, fTq_0]) dX1_init_7 ?_
  refine kb_put fb1_11 ft1 rfl rfl (by omega) (by show 0 < 4; omega) rfl (dc1 (by decide)) dX1_init_10 ?_
  refine kj_ald0 dX1_init_13 rfl ?_
  refine kj_ic0 dX1_init_14 ?_
  refine kb_put fb1_17 ft1 rfl rfl (by omega) (by show 1 < 4; omega) rfl (dc1 (by decide)) dX1_init_15 ?_
  refine kj_ald0 dX1_init_18 rfl ?_
  refine kj_ic4 dX1_init_19 ?_
  refine kb_put fb1_21 ft1 rfl rfl (by omega) (by show 2 < 4; omega) rfl (dc1 (by decide)) dX1_init_20 ?_
  refine kj_ald0 dX1_init_23 rfl ?_
  refine kj_ic1 dX1_init_24 ?_
  refine kb_put fb1_24 ft1 rfl rfl (by omega) (by show 3 < 4; omega) rfl (dc1 (by decide)) dX1_init_25 ?_
  refine kj_ic0 dX1_init_28 ?_
  refine kj_ist1 dX1_init_29 (by decide) rfl ?_
  exact i_lpF h1 h2 h3 h4 h5 h6 h7 h8 8 0 rfl
