/-! the two roots' constructors -/
theorem lay_11 {X : CX} : lo X 0 = .inr (11, [.ref (X.2.2.1 + 1), .ref (X.2.2.1 + 2), .ref (X.2.2.1 + 28), .ref (X.2.2.1 + 30), .ref (X.2.2.1 + 31), .ref (X.2.2.1 + 33), .ref (X.2.2.1 + 35), .ref (X.2.2.1 + 38), .ref (X.2.2.1 + 41), .ref (X.2.2.1 + 43), .ref (X.2.2.1 + 45), .ref (X.2.2.1 + 50), .ref (X.2.2.1 + 76), .int 0]) := rfl
theorem i_lpS {l : Launch} {X : CX} {w : Nat → va_E} (h3 : ∀ i, i < 4 → kd (xi (0 + 1 + (101 + 2 * i))) = 4 ∧ kd (xi (0 + 1 + (101 + 2 * i) + 1)) = 14 ∧ ln (xi (0 + 1 + (101 + 2 * i) + 1)) = 40 ∧ zr (xi (0 + 1 + (101 + 2 * i))) = true ∧ xi (0 + 1 + (101 + 2 * i) + 1) = xi (0 + 1 + (101 + 2 * i)) + 1) : ∀ M i : Nat, i + M = 4 → KJ (GK l X 4 109 1047 (0 + 1 + 109) (mx w (lo X) (0))) X cX11_init 2 none RX11 "<init>" (0 + 1) 152 [some (.ref (X.2.2.1 + 0)), some (.int (nI i))] [] (101 + 2 * i) (mx w (va_up (va_up (lo X) (30) (aq X 2 4 (fTq X (102) 2 i))) (0) (.inr (11, [.ref (X.2.2.1 + 1), .ref (X.2.2.1 + 2), .ref (X.2.2.1 + 28), .ref (X.2.2.1 + 30), .ref (X.2.2.1 + 31), .ref (X.2.2.1 + 33), .ref (X.2.2.1 + 35), .ref (X.2.2.1 + 38), .ref (X.2.2.1 + 41), .ref (X.2.2.1 + 43), .ref (X.2.2.1 + 45), .ref (X.2.2.1 + 50), .ref (X.2.2.1 + 76), .int 0]))) (0)) (875 + 43 * i) := by
  intro M
  induction M with
  | zero =>
    intro i hi
    have hi2 : i = 4 := by omega
    subst hi2
    refine kj_ild1 dX11_init_152 rfl ?_
    refine kj_ald0 dX11_init_153 rfl ?_
    refine kb_get fb11_29 (by omega) rfl dX11_init_154 ?_
    refine kj_alen (k := 30) (t := 2) (N := 4) (by omega) ((mx_oth (by omega)).trans (up_same _ _ _)) rfl dX11_init_157 ?_
    refine kj_ic_ge dX11_init_158 (tgt := 180) (by decide) (fun _ => ?_) (fun h => absurd h (Int.lt_irrefl _))
    refine kj_ext (a := 30) (g := fun j => some (ad X (104 + 2 * j))) ((mx_oth (by omega)).trans (up_same _ _ _)) (fun j hj => (if_pos hj).trans (by unfold ad ix; rw [if_neg (by omega), show 104 + 2 * j - 2 = 102 + 2 * j by omega])) ?_
    refine kj_ret dX11_init_180 rfl (fun i _ => ?_)
    refine (mx_arr (by omega)).trans ?_
    rw [up_id (lo_sh (by decide))]
    exact mx_end lay_11
  | succ M ih =>
    intro i hi
    have hil : i < 4 := by omega
    refine kj_ild1 dX11_init_152 rfl ?_
    refine kj_ald0 dX11_init_153 rfl ?_
    refine kb_get fb11_29 (by omega) rfl dX11_init_154 ?_
    refine kj_alen (k := 30) (t := 2) (N := 4) (by omega) ((mx_oth (by omega)).trans (up_same _ _ _)) rfl dX11_init_157 ?_
    refine kj_ic_ge dX11_init_158 (tgt := 180) (by decide) (fun h => ?_) (fun _ => ?_)
    · rw [nI_t (by omega), nI_t (by omega)] at h
      omega
    refine kj_ald0 dX11_init_161 rfl ?_
    refine kb_get fb11_29 (by omega) rfl dX11_init_162 ?_
    refine kj_ild1 dX11_init_165 rfl ?_
    refine kj_new (fs := [.null, .int 0, .int 0]) (⟨RX4, TX4, rfl, iw4, (tw_t (tm1 123 rfl) rfl), (tw_t (tm1 188 rfl) rfl), (tw_t (tm1 11 rfl) rfl)⟩ : nwA RX11 27 4 3) ft4 df4 (fitK_K (by omega) (by omega) (by omega) (by omega)) dX11_init_166 ?_
    refine kj_dup dX11_init_169 rfl ?_
    refine kb_init (As := []) niX11_86 (i_sht (k := 0 + 1 + (101 + 2 * i)) (h3 i hil).1 (h3 i hil).2.1 (h3 i hil).2.2.1 (h3 i hil).2.2.2.1 (h3 i hil).2.2.2.2) (by omega) (by omega) (fun j hj1 hj2 => up_other _ _ (by omega)) rfl (fitI_K (by omega) (by omega) (by omega) (by omega)) (Nat.le_of_ble_eq_true rfl) dX11_init_170 ?_
    refine kb_astq (t := 2) (ci := 4) (r := (RX4, TX4, 3)) (by omega) (by omega) (by omega) rfl (by omega) (lay_shO (h3 i hil).1 (h3 i hil).2.2.2.1 (h3 i hil).2.2.2.2) rfl (vpi (by rw [nI_t (by omega)]; omega) (by rw [nI_t (by omega)]; omega)) dX11_init_173 ?_
    rw [nI_clamp (by omega)]
    refine kj_iinc1 (d := 1) dX11_init_174 (by decide) rfl (by decide) ?_
    refine kj_goto dX11_init_177 (tgt := 152) (by decide) ?_
    rw [nI_1, show 0 + 1 + (101 + 2 * i) = 102 + 2 * i by omega, fTq_s, show 101 + 2 * i + 1 + 1 = 101 + 2 * (i + 1) by omega, show 875 + 43 * i + 3 + 40 = 875 + 43 * (i + 1) by omega]
    exact ih (i + 1) (by omega)
theorem i_sys {l : Launch} {X : CX}  : MK l X 4 yX11_init cX11_init 2 [.ref (X.2.2.1 + 0)] 0 109 1047 11 [.null, .null, .null, .null, .null, .null, .null, .null, .null, .null, .null, .null, .null, .int 0] := by
  refine MK_of (own := RX11) (va_up (lo X) 30 (aq X 2 4 (fTq X 102 2 0))) [some (.ref (X.2.2.1 + 0)), none] (by decide) rfl rfl (Nat.le_of_ble_eq_true rfl) rfl (fun w => ?_)
  refine kj_ald0 dX11_init_0 rfl ?_
  refine kj_obj (⟨(tw_t (tm1 24 rfl) rfl), (tw_t (tm1 25 rfl) rfl), (tw_t (tm1 26 rfl) rfl)⟩ : mO RX11 3) ⟨by show 1 ≤ 4; omega, by show 0 + 12 ≤ 64 * 4; omega⟩ dX11_init_1 ?_
  refine kj_ald0 dX11_init_4 rfl ?_
  refine kj_bipush (v := 7) dX11_init_5 (by decide) ?_
  refine kb_newi (tw_t (tm1 63 rfl) rfl) (N := 7) (by decide) (by decide) (by show 7 * 4 ≤ 536870912; omega) (fitK_K (by omega) (by omega) (by omega) (by omega)) (by omega) ((up_other _ _ (by omega)).trans (lo_zi (by decide) (by decide) (by decide))) dX11_init_7 ?_
  refine kb_put fb11_9 ft11 rfl rfl (by omega) (by show 0 < 14; omega) rfl (dc11 (by decide)) dX11_init_9 ?_
  refine kj_ald0 dX11_init_12 rfl ?_
  refine kj_new (fs := [.null, .int 0, .int 0, .int 0]) (⟨RX1, TX1, rfl, iw1, (tw_t (tm1 27 rfl) rfl), (tw_t (tm1 28 rfl) rfl), (tw_t (tm1 2 rfl) rfl)⟩ : nwA RX11 13 1 4) ft1 df1 (fitK_K (by omega) (by omega) (by omega) (by omega)) dX11_init_13 ?_
  refine kj_dup dX11_init_16 rfl ?_
  refine kb_init (As := []) niX11_15 (i_fai (k := 2) (by decide) (by decide) (by decide) (by decide) (by decide) (by decide) (by decide) (by decide)) (by omega) (by omega) (fun j hj1 hj2 => up_other _ _ (by omega)) rfl (fitI_K (by omega) (by omega) (by omega) (by omega)) (Nat.le_of_ble_eq_true rfl) dX11_init_17 ?_
  refine kb_put fb11_16 ft11 rfl rfl (by omega) (by show 1 < 14; omega) rfl (dc11 (by decide)) dX11_init_20 ?_
  refine kj_ald0 dX11_init_23 rfl ?_
  refine kj_new (fs := [.null, .int 0, .int 0, .int 0, .int 0, .int 0]) (⟨RX6, TX6, rfl, iw6, (tw_t (tm1 94 rfl) rfl), (tw_t (tm1 95 rfl) rfl), (tw_t (tm1 6 rfl) rfl)⟩ : nwA RX11 20 6 6) ft6 df6 (fitK_K (by omega) (by omega) (by omega) (by omega)) dX11_init_24 ?_
  refine kj_dup dX11_init_27 rfl ?_
  refine kb_init (As := []) niX11_22 i_tap (by omega) (by omega) (fun j hj1 hj2 => up_other _ _ (by omega)) rfl (fitI_K (by omega) (by omega) (by omega) (by omega)) (Nat.le_of_ble_eq_true rfl) dX11_init_28 ?_
  refine kb_put fb11_23 ft11 rfl rfl (by omega) (by show 2 < 14; omega) rfl (dc11 (by decide)) dX11_init_31 ?_
  refine kj_ald0 dX11_init_34 rfl ?_
  refine kj_ic4 dX11_init_35 ?_
  refine kb_newq (t := 2) (N := 4) (tw_t (tm1 123 rfl) rfl) (fun _ h => h.2) rfl (by decide) (by decide) (by omega) (fitK_K (by omega) (by omega) (by omega) (by omega)) (by omega) (by show va_up _ 30 _ 30 = _; rw [up_same, fTq_0]) dX11_init_36 ?_
  refine kb_put fb11_29 ft11 rfl rfl (by omega) (by show 3 < 14; omega) rfl (dc11 (by decide)) dX11_init_39 ?_
  refine kj_ald0 dX11_init_42 rfl ?_
  refine kj_new (fs := [.null, .int 0]) (⟨RX2, TX2, rfl, iw2, (tw_t (tm1 125 rfl) rfl), (tw_t (tm1 41 rfl) rfl), (tw_t (tm1 4 rfl) rfl)⟩ : nwA RX11 33 2 2) ft2 df2 (fitK_K (by omega) (by omega) (by omega) (by omega)) dX11_init_43 ?_
  refine kj_dup dX11_init_46 rfl ?_
  refine kj_bipush (v := 24) dX11_init_47 (by decide) ?_
  refine kb_init (As := [.int 24]) niX11_35 (i_row (k := 31) (r := 24) (x := 24) (by decide) (by decide) (by decide) (by decide) (by omega)) (by omega) (by omega) (fun j hj1 hj2 => up_other _ _ (by omega)) rfl (fitI_K (by omega) (by omega) (by omega) (by omega)) (Nat.le_of_ble_eq_true rfl) dX11_init_49 ?_
  refine kb_put fb11_38 ft11 rfl rfl (by omega) (by show 4 < 14; omega) rfl (dc11 (by decide)) dX11_init_52 ?_
  refine kj_ald0 dX11_init_55 rfl ?_
  refine kj_new (fs := [.null, .int 0]) (⟨RX2, TX2, rfl, iw2, (tw_t (tm1 125 rfl) rfl), (tw_t (tm1 41 rfl) rfl), (tw_t (tm1 4 rfl) rfl)⟩ : nwA RX11 33 2 2) ft2 df2 (fitK_K (by omega) (by omega) (by omega) (by omega)) dX11_init_56 ?_
  refine kj_dup dX11_init_59 rfl ?_
  refine kj_bipush (v := 24) dX11_init_60 (by decide) ?_
  refine kb_init (As := [.int 24]) niX11_35 (i_row (k := 33) (r := 24) (x := 24) (by decide) (by decide) (by decide) (by decide) (by omega)) (by omega) (by omega) (fun j hj1 hj2 => up_other _ _ (by omega)) rfl (fitI_K (by omega) (by omega) (by omega) (by omega)) (Nat.le_of_ble_eq_true rfl) dX11_init_62 ?_
  refine kb_put fb11_42 ft11 rfl rfl (by omega) (by show 5 < 14; omega) rfl (dc11 (by decide)) dX11_init_65 ?_
  refine kj_ald0 dX11_init_68 rfl ?_
  refine kj_new (fs := [.null, .null, .int 0]) (⟨RX5, TX5, rfl, iw5, (tw_t (tm1 127 rfl) rfl), (tw_t (tm1 128 rfl) rfl), (tw_t (tm1 7 rfl) rfl)⟩ : nwA RX11 45 5 3) ft5 df5 (fitK_K (by omega) (by omega) (by omega) (by omega)) dX11_init_69 ?_
  refine kj_dup dX11_init_72 rfl ?_
  refine kb_init (As := []) niX11_47 (i_str (k := 35) (by decide) (by decide) (by decide) (by decide) (by decide) (by decide) (by decide) (by decide) (by decide) (by decide)) (by omega) (by omega) (fun j hj1 hj2 => up_other _ _ (by omega)) rfl (fitI_K (by omega) (by omega) (by omega) (by omega)) (Nat.le_of_ble_eq_true rfl) dX11_init_73 ?_
  refine kb_put fb11_48 ft11 rfl rfl (by omega) (by show 6 < 14; omega) rfl (dc11 (by decide)) dX11_init_76 ?_
  refine kj_ald0 dX11_init_79 rfl ?_
  refine kj_new (fs := [.null, .null, .int 0]) (⟨RX5, TX5, rfl, iw5, (tw_t (tm1 127 rfl) rfl), (tw_t (tm1 128 rfl) rfl), (tw_t (tm1 7 rfl) rfl)⟩ : nwA RX11 45 5 3) ft5 df5 (fitK_K (by omega) (by omega) (by omega) (by omega)) dX11_init_80 ?_
  refine kj_dup dX11_init_83 rfl ?_
  refine kb_init (As := []) niX11_47 (i_str (k := 38) (by decide) (by decide) (by decide) (by decide) (by decide) (by decide) (by decide) (by decide) (by decide) (by decide)) (by omega) (by omega) (fun j hj1 hj2 => up_other _ _ (by omega)) rfl (fitI_K (by omega) (by omega) (by omega) (by omega)) (Nat.le_of_ble_eq_true rfl) dX11_init_84 ?_
  refine kb_put fb11_52 ft11 rfl rfl (by omega) (by show 7 < 14; omega) rfl (dc11 (by decide)) dX11_init_87 ?_
  refine kj_ald0 dX11_init_90 rfl ?_
  refine kj_new (fs := [.null, .int 0, .int 0]) (⟨RX0, TX0, rfl, iw0, (tw_t (tm1 143 rfl) rfl), (tw_t (tm1 144 rfl) rfl), (tw_t (tm1 8 rfl) rfl)⟩ : nwA RX11 55 0 3) ft0 df0 (fitK_K (by omega) (by omega) (by omega) (by omega)) dX11_init_91 ?_
  refine kj_dup dX11_init_94 rfl ?_
  refine kb_init (As := []) niX11_57 i_col (by omega) (by omega) (fun j hj1 hj2 => up_other _ _ (by omega)) rfl (fitI_K (by omega) (by omega) (by omega) (by omega)) (Nat.le_of_ble_eq_true rfl) dX11_init_95 ?_
  refine kb_put fb11_58 ft11 rfl rfl (by omega) (by show 8 < 14; omega) rfl (dc11 (by decide)) dX11_init_98 ?_
  refine kj_ald0 dX11_init_101 rfl ?_
  refine kj_new (fs := [.null, .int 0]) (⟨RX10, TX10, rfl, iw10, (tw_t (tm1 159 rfl) rfl), (tw_t (tm1 160 rfl) rfl), (tw_t (tm1 9 rfl) rfl)⟩ : nwA RX11 62 10 2) ft10 df10 (fitK_K (by omega) (by omega) (by omega) (by omega)) dX11_init_102 ?_
  refine kj_dup dX11_init_105 rfl ?_
  refine kb_init (As := []) niX11_64 i_unt (by omega) (by omega) (fun j hj1 hj2 => up_other _ _ (by omega)) rfl (fitI_K (by omega) (by omega) (by omega) (by omega)) (Nat.le_of_ble_eq_true rfl) dX11_init_106 ?_
  refine kb_put fb11_65 ft11 rfl rfl (by omega) (by show 9 < 14; omega) rfl (dc11 (by decide)) dX11_init_109 ?_
  refine kj_ald0 dX11_init_112 rfl ?_
  refine kj_new (fs := [.null, .null]) (⟨RX3, TX3, rfl, iw3, (tw_t (tm1 173 rfl) rfl), (tw_t (tm1 174 rfl) rfl), (tw_t (tm1 10 rfl) rfl)⟩ : nwA RX11 69 3 2) ft3 df3 (fitK_K (by omega) (by omega) (by omega) (by omega)) dX11_init_113 ?_
  refine kj_dup dX11_init_116 rfl ?_
  refine kb_init (As := []) niX11_71 i_sea (by omega) (by omega) (fun j hj1 hj2 => up_other _ _ (by omega)) rfl (fitI_K (by omega) (by omega) (by omega) (by omega)) (Nat.le_of_ble_eq_true rfl) dX11_init_117 ?_
  refine kb_put fb11_72 ft11 rfl rfl (by omega) (by show 10 < 14; omega) rfl (dc11 (by decide)) dX11_init_120 ?_
  refine kj_ald0 dX11_init_123 rfl ?_
  refine kj_new (fs := [.null, .int 0, .int 0, .int 0]) (⟨RX1, TX1, rfl, iw1, (tw_t (tm1 27 rfl) rfl), (tw_t (tm1 28 rfl) rfl), (tw_t (tm1 2 rfl) rfl)⟩ : nwA RX11 13 1 4) ft1 df1 (fitK_K (by omega) (by omega) (by omega) (by omega)) dX11_init_124 ?_
  refine kj_dup dX11_init_127 rfl ?_
  refine kb_init (As := []) niX11_15 (i_fai (k := 50) (by decide) (by decide) (by decide) (by decide) (by decide) (by decide) (by decide) (by decide)) (by omega) (by omega) (fun j hj1 hj2 => up_other _ _ (by omega)) rfl (fitI_K (by omega) (by omega) (by omega) (by omega)) (Nat.le_of_ble_eq_true rfl) dX11_init_128 ?_
  refine kb_put fb11_76 ft11 rfl rfl (by omega) (by show 11 < 14; omega) rfl (dc11 (by decide)) dX11_init_131 ?_
  refine kj_ald0 dX11_init_134 rfl ?_
  refine kj_new (fs := [.null, .int 0, .int 0, .int 0]) (⟨RX1, TX1, rfl, iw1, (tw_t (tm1 27 rfl) rfl), (tw_t (tm1 28 rfl) rfl), (tw_t (tm1 2 rfl) rfl)⟩ : nwA RX11 13 1 4) ft1 df1 (fitK_K (by omega) (by omega) (by omega) (by omega)) dX11_init_135 ?_
  refine kj_dup dX11_init_138 rfl ?_
  refine kb_init (As := []) niX11_15 (i_fai (k := 76) (by decide) (by decide) (by decide) (by decide) (by decide) (by decide) (by decide) (by decide)) (by omega) (by omega) (fun j hj1 hj2 => up_other _ _ (by omega)) rfl (fitI_K (by omega) (by omega) (by omega) (by omega)) (Nat.le_of_ble_eq_true rfl) dX11_init_139 ?_
  refine kb_put fb11_79 ft11 rfl rfl (by omega) (by show 12 < 14; omega) rfl (dc11 (by decide)) dX11_init_142 ?_
  refine kj_ald0 dX11_init_145 rfl ?_
  refine kj_ic0 dX11_init_146 ?_
  refine kb_put fb11_82 ft11 rfl rfl (by omega) (by show 13 < 14; omega) rfl (dc11 (by decide)) dX11_init_147 ?_
  refine kj_ic0 dX11_init_150 ?_
  refine kj_ist1 dX11_init_151 (by decide) rfl ?_
  exact i_lpS (by decide) 4 0 rfl
theorem kb_iast {G : GT} {X : CX} {cc : ByteArray} {nL : Nat} {ret : Option FieldType} {own nm : String} {pc : Nat} {lv : List (Option Value)} {st : List Value} {n0 nk ks : Nat} {w S : Nat → va_E} {e0 : va_E} {k a N : Nat} {i x : Int32} {f : Nat → Int32} (hka : k < a) (hk : a < n0 + nk) (hin : vp_in i N) (hd : decode cc pc = .ok (.iastore, 1)) (kk : KJ G X cc nL ret own nm n0 (pc + 1) lv st nk (mx w (va_up (va_up S a (.inl (X.2.1 0, N, .inl (upd f i.toNatClampNeg x)))) k e0) k) ks) : KJ G X cc nL ret own nm n0 pc lv (.int x :: .int i :: .ref (X.2.2.1 + a) :: st) nk (mx w (va_up (va_up S a (.inl (X.2.1 0, N, .inl f))) k e0) k) ks :=
  kj_iast hk ((mx_oth hka).trans (up_same _ _ _)) hin hd (kj_conv (fun i _ => mx_arr hka) kk)
theorem row0 : sg0.1 113 = upd (upd (fun _ => 0) (0 : Int32).toNatClampNeg 4) (2 : Int32).toNatClampNeg 1 := by
  have e0 : (0 : Int32).toNatClampNeg = 0 := by decide
  have e2 : (2 : Int32).toNatClampNeg = 2 := by decide
  rw [e0, e2]
  funext j
  have hj : sg0.1 113 j = if j = 0 then (4 : Int32) else if j = 2 then 1 else 0 := rfl
  rw [hj]
  unfold upd
  by_cases h0 : j = 0
  · subst h0
    rfl
  · by_cases h2 : j = 2
    · subst h2
      rfl
    · simp [h0, h2]
theorem lay_12 {X : CX} : lo X 110 = .inr (12, [.ref (X.2.2.1 + 111), .ref (X.2.2.1 + 112), .ref (X.2.2.1 + 113), .ref (X.2.2.1 + 114), .ref (X.2.2.1 + 115), .int 0, .int 0, .int 0, .ref (X.2.2.1 + 116), .ref (X.2.2.1 + 117), .ref (X.2.2.1 + 118), .ref (X.2.2.1 + 119), .ref (X.2.2.1 + 120), .int 0, .int 0, .int 0, .int 0, .long 0, .int 0, .int 0, .ref (X.2.2.1 + 121), .ref (X.2.2.1 + 122), .ref (X.2.2.1 + 123), .ref (X.2.2.1 + 124), .ref (X.2.2.1 + 125), .ref (X.2.2.1 + 126), .int 0]) := rfl
theorem i_mod {l : Launch} {X : CX}  : MK l X 1 yX12_init cX12_init 1 [.ref (X.2.2.1 + 110)] 110 16 795 12 [.null, .null, .null, .null, .null, .int 0, .int 0, .int 0, .null, .null, .null, .null, .null, .int 0, .int 0, .int 0, .int 0, .long 0, .int 0, .int 0, .null, .null, .null, .null, .null, .null, .int 0] := by
  have hB : lo X 111 = .inl (X.2.1 0, 115, .inl (upd (upd (fun _ => 0) (0 : Int32).toNatClampNeg 4) (2 : Int32).toNatClampNeg 1)) := by show lay X sg0 113 = _; rw [lay_int (by decide), row0]; rfl
  refine MK_of (own := RX12) (va_up (lo X) 111 (.inl (X.2.1 0, 115, .inl (fun _ => 0)))) [some (.ref (X.2.2.1 + 110))] (by decide) rfl rfl (Nat.le_of_ble_eq_true rfl) rfl (fun w => ?_)
  refine kj_ald0 dX12_init_0 rfl ?_
  refine kj_obj (⟨(tw_t (tm4 198 rfl) rfl), (tw_t (tm1 25 rfl) rfl), (tw_t (tm1 26 rfl) rfl)⟩ : mO RX12 1) ⟨by show 1 ≤ 1; omega, by show 0 + 12 ≤ 64 * 1; omega⟩ dX12_init_1 ?_
  refine kj_ald0 dX12_init_4 rfl ?_
  refine kj_bipush (v := 115) dX12_init_5 (by decide) ?_
  refine kb_newi (tw_t (tm1 63 rfl) rfl) (N := 115) (by decide) (by decide) (by show 115 * 4 ≤ 536870912; omega) (fitK_K (by omega) (by omega) (by omega) (by omega)) (by omega) (up_same _ _ _) dX12_init_7 ?_
  refine kb_put fb12_7 ft12 rfl rfl (by omega) (by show 0 < 27; omega) rfl (dc12 (by decide)) dX12_init_9 ?_
  refine kj_ald0 dX12_init_12 rfl ?_
  refine kj_bipush (v := 7) dX12_init_13 (by decide) ?_
  refine kb_newi (tw_t (tm1 63 rfl) rfl) (N := 7) (by decide) (by decide) (by show 7 * 4 ≤ 536870912; omega) (fitK_K (by omega) (by omega) (by omega) (by omega)) (by omega) ((up_other _ _ (by omega)).trans (lo_zi (by decide) (by decide) (by decide))) dX12_init_15 ?_
  refine kb_put fb12_13 ft12 rfl rfl (by omega) (by show 1 < 27; omega) rfl (dc12 (by decide)) dX12_init_17 ?_
  refine kj_ald0 dX12_init_20 rfl ?_
  refine kj_bipush (v := 24) dX12_init_21 (by decide) ?_
  refine kb_newi (tw_t (tm1 63 rfl) rfl) (N := 24) (by decide) (by decide) (by show 24 * 4 ≤ 536870912; omega) (fitK_K (by omega) (by omega) (by omega) (by omega)) (by omega) ((up_other _ _ (by omega)).trans (lo_zi (by decide) (by decide) (by decide))) dX12_init_23 ?_
  refine kb_put fb12_16 ft12 rfl rfl (by omega) (by show 2 < 27; omega) rfl (dc12 (by decide)) dX12_init_25 ?_
  refine kj_ald0 dX12_init_28 rfl ?_
  refine kj_bipush (v := 24) dX12_init_29 (by decide) ?_
  refine kb_newi (tw_t (tm1 63 rfl) rfl) (N := 24) (by decide) (by decide) (by show 24 * 4 ≤ 536870912; omega) (fitK_K (by omega) (by omega) (by omega) (by omega)) (by omega) ((up_other _ _ (by omega)).trans (lo_zi (by decide) (by decide) (by decide))) dX12_init_31 ?_
  refine kb_put fb12_19 ft12 rfl rfl (by omega) (by show 3 < 27; omega) rfl (dc12 (by decide)) dX12_init_33 ?_
  refine kj_ald0 dX12_init_36 rfl ?_
  refine kj_bipush (v := 12) dX12_init_37 (by decide) ?_
  refine kb_newi (tw_t (tm1 63 rfl) rfl) (N := 12) (by decide) (by decide) (by show 12 * 4 ≤ 536870912; omega) (fitK_K (by omega) (by omega) (by omega) (by omega)) (by omega) ((up_other _ _ (by omega)).trans (lo_zi (by decide) (by decide) (by decide))) dX12_init_39 ?_
  refine kb_put fb12_22 ft12 rfl rfl (by omega) (by show 4 < 27; omega) rfl (dc12 (by decide)) dX12_init_41 ?_
  refine kj_ald0 dX12_init_44 rfl ?_
  refine kj_ic4 dX12_init_45 ?_
  refine kb_newi (tw_t (tm1 63 rfl) rfl) (N := 4) (by decide) (by decide) (by show 4 * 4 ≤ 536870912; omega) (fitK_K (by omega) (by omega) (by omega) (by omega)) (by omega) ((up_other _ _ (by omega)).trans (lo_zi (by decide) (by decide) (by decide))) dX12_init_46 ?_
  refine kb_put fb12_25 ft12 rfl rfl (by omega) (by show 8 < 27; omega) rfl (dc12 (by decide)) dX12_init_48 ?_
  refine kj_ald0 dX12_init_51 rfl ?_
  refine kj_ic4 dX12_init_52 ?_
  refine kb_newi (tw_t (tm1 63 rfl) rfl) (N := 4) (by decide) (by decide) (by show 4 * 4 ≤ 536870912; omega) (fitK_K (by omega) (by omega) (by omega) (by omega)) (by omega) ((up_other _ _ (by omega)).trans (lo_zi (by decide) (by decide) (by decide))) dX12_init_53 ?_
  refine kb_put fb12_28 ft12 rfl rfl (by omega) (by show 9 < 27; omega) rfl (dc12 (by decide)) dX12_init_55 ?_
  refine kj_ald0 dX12_init_58 rfl ?_
  refine kj_bipush (v := 23) dX12_init_59 (by decide) ?_
  refine kb_newi (tw_t (tm1 63 rfl) rfl) (N := 23) (by decide) (by decide) (by show 23 * 4 ≤ 536870912; omega) (fitK_K (by omega) (by omega) (by omega) (by omega)) (by omega) ((up_other _ _ (by omega)).trans (lo_zi (by decide) (by decide) (by decide))) dX12_init_61 ?_
  refine kb_put fb12_31 ft12 rfl rfl (by omega) (by show 10 < 27; omega) rfl (dc12 (by decide)) dX12_init_63 ?_
  refine kj_ald0 dX12_init_66 rfl ?_
  refine kj_bipush (v := 24) dX12_init_67 (by decide) ?_
  refine kb_newi (tw_t (tm1 63 rfl) rfl) (N := 24) (by decide) (by decide) (by show 24 * 4 ≤ 536870912; omega) (fitK_K (by omega) (by omega) (by omega) (by omega)) (by omega) ((up_other _ _ (by omega)).trans (lo_zi (by decide) (by decide) (by decide))) dX12_init_69 ?_
  refine kb_put fb12_34 ft12 rfl rfl (by omega) (by show 11 < 27; omega) rfl (dc12 (by decide)) dX12_init_71 ?_
  refine kj_ald0 dX12_init_74 rfl ?_
  refine kj_bipush (v := 120) dX12_init_75 (by decide) ?_
  refine kb_newi (tw_t (tm1 63 rfl) rfl) (N := 120) (by decide) (by decide) (by show 120 * 4 ≤ 536870912; omega) (fitK_K (by omega) (by omega) (by omega) (by omega)) (by omega) ((up_other _ _ (by omega)).trans (lo_zi (by decide) (by decide) (by decide))) dX12_init_77 ?_
  refine kb_put fb12_37 ft12 rfl rfl (by omega) (by show 12 < 27; omega) rfl (dc12 (by decide)) dX12_init_79 ?_
  refine kj_ald0 dX12_init_82 rfl ?_
  refine kj_ic4 dX12_init_83 ?_
  refine kb_newi (tw_t (tm1 63 rfl) rfl) (N := 4) (by decide) (by decide) (by show 4 * 4 ≤ 536870912; omega) (fitK_K (by omega) (by omega) (by omega) (by omega)) (by omega) ((up_other _ _ (by omega)).trans (lo_zi (by decide) (by decide) (by decide))) dX12_init_84 ?_
  refine kb_put fb12_40 ft12 rfl rfl (by omega) (by show 20 < 27; omega) rfl (dc12 (by decide)) dX12_init_86 ?_
  refine kj_ald0 dX12_init_89 rfl ?_
  refine kj_ic4 dX12_init_90 ?_
  refine kb_newi (tw_t (tm1 63 rfl) rfl) (N := 4) (by decide) (by decide) (by show 4 * 4 ≤ 536870912; omega) (fitK_K (by omega) (by omega) (by omega) (by omega)) (by omega) ((up_other _ _ (by omega)).trans (lo_zi (by decide) (by decide) (by decide))) dX12_init_91 ?_
  refine kb_put fb12_43 ft12 rfl rfl (by omega) (by show 21 < 27; omega) rfl (dc12 (by decide)) dX12_init_93 ?_
  refine kj_ald0 dX12_init_96 rfl ?_
  refine kj_sipush (v := 160) dX12_init_97 (by decide) ?_
  refine kb_newl (tw_t (tm1 206 rfl) rfl) (N := 160) (by decide) (by decide) (by show 160 * 8 ≤ 536870912; omega) (fitK_K (by omega) (by omega) (by omega) (by omega)) (by omega) ((up_other _ _ (by omega)).trans (lo_zl (by decide) (by decide))) dX12_init_100 ?_
  refine kb_put fb12_46 ft12 rfl rfl (by omega) (by show 22 < 27; omega) rfl (dc12 (by decide)) dX12_init_102 ?_
  refine kj_ald0 dX12_init_105 rfl ?_
  refine kj_bipush (v := 40) dX12_init_106 (by decide) ?_
  refine kb_newl (tw_t (tm1 206 rfl) rfl) (N := 40) (by decide) (by decide) (by show 40 * 8 ≤ 536870912; omega) (fitK_K (by omega) (by omega) (by omega) (by omega)) (by omega) ((up_other _ _ (by omega)).trans (lo_zl (by decide) (by decide))) dX12_init_108 ?_
  refine kb_put fb12_50 ft12 rfl rfl (by omega) (by show 23 < 27; omega) rfl (dc12 (by decide)) dX12_init_110 ?_
  refine kj_ald0 dX12_init_113 rfl ?_
  refine kj_bipush (v := 115) dX12_init_114 (by decide) ?_
  refine kb_newi (tw_t (tm1 63 rfl) rfl) (N := 115) (by decide) (by decide) (by show 115 * 4 ≤ 536870912; omega) (fitK_K (by omega) (by omega) (by omega) (by omega)) (by omega) ((up_other _ _ (by omega)).trans (lo_zi (by decide) (by decide) (by decide))) dX12_init_116 ?_
  refine kb_put fb12_53 ft12 rfl rfl (by omega) (by show 24 < 27; omega) rfl (dc12 (by decide)) dX12_init_118 ?_
  refine kj_ald0 dX12_init_121 rfl ?_
  refine kj_bipush (v := 115) dX12_init_122 (by decide) ?_
  refine kb_newi (tw_t (tm1 63 rfl) rfl) (N := 115) (by decide) (by decide) (by show 115 * 4 ≤ 536870912; omega) (fitK_K (by omega) (by omega) (by omega) (by omega)) (by omega) ((up_other _ _ (by omega)).trans (lo_zi (by decide) (by decide) (by decide))) dX12_init_124 ?_
  refine kb_put fb12_56 ft12 rfl rfl (by omega) (by show 25 < 27; omega) rfl (dc12 (by decide)) dX12_init_126 ?_
  refine kj_ald0 dX12_init_129 rfl ?_
  refine kb_get fb12_7 (by omega) rfl dX12_init_130 ?_
  refine kj_ic0 dX12_init_133 ?_
  refine kj_ic4 dX12_init_134 ?_
  refine kb_iast (a := 111) (by omega) (by omega) (vpi (by decide) (by decide)) dX12_init_135 ?_
  refine kj_ald0 dX12_init_136 rfl ?_
  refine kb_get fb12_7 (by omega) rfl dX12_init_137 ?_
  refine kj_ic2 dX12_init_140 ?_
  refine kj_ic1 dX12_init_141 ?_
  refine kb_iast (a := 111) (by omega) (by omega) (vpi (by decide) (by decide)) dX12_init_142 ?_
  refine kj_ret dX12_init_143 rfl (fun i _ => ?_)
  exact (congrArg (fun S => mx w (va_up S 110 _) 110 i) (up_id hB)).trans (mx_end lay_12)
