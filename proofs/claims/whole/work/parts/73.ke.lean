/-! the two roots' constructors -/
theorem lay_11 {X : CX} : lay X sg0 0 = .inr (11, [.ref (X.2.2.1 + 1), .ref (X.2.2.1 + 2), .ref (X.2.2.1 + 28), .ref (X.2.2.1 + 30), .ref (X.2.2.1 + 32), .ref (X.2.2.1 + 33), .ref (X.2.2.1 + 35), .ref (X.2.2.1 + 37), .ref (X.2.2.1 + 40), .ref (X.2.2.1 + 43), .ref (X.2.2.1 + 45), .ref (X.2.2.1 + 47), .ref (X.2.2.1 + 52), .ref (X.2.2.1 + 78), .int 0]) := rfl
theorem i_lpS {l : Launch} {X : CX} {w : Nat → va_E} (h3 : ∀ i, i < 4 → kd (0 + 1 + (103 + 2 * i)) = 4 ∧ kd (0 + 1 + (103 + 2 * i) + 1) = 14 ∧ ln (0 + 1 + (103 + 2 * i) + 1) = 40 ∧ zr (0 + 1 + (103 + 2 * i)) = true) : ∀ M i : Nat, i + M = 4 → KJ (GK l X 4 111 1049 (0 + 1 + 111) (mx w (lay X sg0) (0))) X cX11_init 2 none RX11 "<init>" (0 + 1) 167 [some (.ref (X.2.2.1 + 0)), some (.int (nI i))] [] (103 + 2 * i) (mx w (va_up (va_up (lay X sg0) (32) (aq X 2 4 (fTq X (104) 2 i))) (0) (.inr (11, [.ref (X.2.2.1 + 1), .ref (X.2.2.1 + 2), .ref (X.2.2.1 + 28), .ref (X.2.2.1 + 30), .ref (X.2.2.1 + 32), .ref (X.2.2.1 + 33), .ref (X.2.2.1 + 35), .ref (X.2.2.1 + 37), .ref (X.2.2.1 + 40), .ref (X.2.2.1 + 43), .ref (X.2.2.1 + 45), .ref (X.2.2.1 + 47), .ref (X.2.2.1 + 52), .ref (X.2.2.1 + 78), .int 0]))) (0)) (877 + 43 * i) := by
  intro M
  induction M with
  | zero =>
    intro i hi
    have hi2 : i = 4 := by omega
    subst hi2
    refine kj_ild1 dX11_init_167 rfl ?_
    refine kj_ald0 dX11_init_168 rfl ?_
    refine kb_get fb11_38 (by omega) rfl dX11_init_169 ?_
    refine kj_alen (k := 32) (t := 2) (N := 4) (by omega) ((mx_oth (by omega)).trans (up_same _ _ _)) rfl dX11_init_172 ?_
    refine kj_ic_ge dX11_init_173 (tgt := 195) (by decide) (fun _ => ?_) (fun h => absurd h (Int.lt_irrefl _))
    refine kj_ext (a := 32) (g := fun j => some (X.2.2.1 + (104 + 2 * j))) ((mx_oth (by omega)).trans (up_same _ _ _)) (fun j hj => (if_pos hj).trans (by rfl)) ?_
    refine kj_ret dX11_init_195 rfl (fun i _ => ?_)
    refine (mx_arr (by omega)).trans ?_
    rw [up_id (lay_sh (by decide))]
    exact mx_end lay_11
  | succ M ih =>
    intro i hi
    have hil : i < 4 := by omega
    refine kj_ild1 dX11_init_167 rfl ?_
    refine kj_ald0 dX11_init_168 rfl ?_
    refine kb_get fb11_38 (by omega) rfl dX11_init_169 ?_
    refine kj_alen (k := 32) (t := 2) (N := 4) (by omega) ((mx_oth (by omega)).trans (up_same _ _ _)) rfl dX11_init_172 ?_
    refine kj_ic_ge dX11_init_173 (tgt := 195) (by decide) (fun h => ?_) (fun _ => ?_)
    · rw [nI_t (by omega), nI_t (by omega)] at h
      omega
    refine kj_ald0 dX11_init_176 rfl ?_
    refine kb_get fb11_38 (by omega) rfl dX11_init_177 ?_
    refine kj_ild1 dX11_init_180 rfl ?_
    refine kj_new (fs := [.null, .int 0, .int 0]) (⟨RX4, TX4, rfl, iw4, (tw_t (tm1 145 rfl) rfl), (tw_t (tm1 210 rfl) rfl), (tw_t (tm1 13 rfl) rfl)⟩ : nwA RX11 36 4 3) ft4 df4 (fitK_K (by omega) (by omega) (by omega) (by omega)) dX11_init_181 ?_
    refine kj_dup dX11_init_184 rfl ?_
    refine kb_init (As := []) niX11_95 (i_sht (k := 0 + 1 + (103 + 2 * i)) (h3 i hil).1 (h3 i hil).2.1 (h3 i hil).2.2.1 (h3 i hil).2.2.2) (by omega) (by omega) (fun j hj1 hj2 => up_other _ _ (by omega)) rfl (fitI_K (by omega) (by omega) (by omega) (by omega)) (Nat.le_of_ble_eq_true rfl) dX11_init_185 ?_
    refine kb_astq (t := 2) (ci := 4) (r := (RX4, TX4, 3)) (by omega) (by omega) (by omega) rfl (by omega) (lay_shO (h3 i hil).1 (h3 i hil).2.2.2) rfl (vpi (by rw [nI_t (by omega)]; omega) (by rw [nI_t (by omega)]; omega)) dX11_init_188 ?_
    rw [nI_clamp (by omega)]
    refine kj_iinc1 (d := 1) dX11_init_189 (by decide) rfl (by decide) ?_
    refine kj_goto dX11_init_192 (tgt := 167) (by decide) ?_
    rw [nI_1, show 0 + 1 + (103 + 2 * i) = 104 + 2 * i by omega, fTq_s, show 103 + 2 * i + 1 + 1 = 103 + 2 * (i + 1) by omega, show 877 + 43 * i + 3 + 40 = 877 + 43 * (i + 1) by omega]
    exact ih (i + 1) (by omega)
theorem i_sys {l : Launch} {X : CX}  : MK l X 4 yX11_init cX11_init 2 [.ref (X.2.2.1 + 0)] 0 111 1049 11 [.null, .null, .null, .null, .null, .null, .null, .null, .null, .null, .null, .null, .null, .null, .int 0] := by
  refine MK_of (own := RX11) (va_up (lay X sg0) 32 (aq X 2 4 (fTq X 104 2 0))) [some (.ref (X.2.2.1 + 0)), none] (by decide) rfl rfl (Nat.le_of_ble_eq_true rfl) rfl (fun w => ?_)
  refine kj_ald0 dX11_init_0 rfl ?_
  refine kj_obj (⟨(tw_t (tm1 25 rfl) rfl), (tw_t (tm1 26 rfl) rfl), (tw_t (tm1 27 rfl) rfl)⟩ : mO RX11 3) ⟨by show 1 ≤ 4; omega, by show 0 + 12 ≤ 64 * 4; omega⟩ dX11_init_1 ?_
  refine kj_ald0 dX11_init_4 rfl ?_
  refine kj_bipush (v := 7) dX11_init_5 (by decide) ?_
  refine kb_newi (tw_t (tm1 64 rfl) rfl) (N := 7) (by decide) (by decide) (by show 7 * 4 ≤ 536870912; omega) (fitK_K (by omega) (by omega) (by omega) (by omega)) (by omega) ((up_other _ _ (by omega)).trans (lay_zi (by decide) (by decide) (by decide))) dX11_init_7 ?_
  refine kb_put fb11_9 ft11 rfl rfl (by omega) (by show 0 < 15; omega) rfl (dc11 (by decide)) dX11_init_9 ?_
  refine kj_ald0 dX11_init_12 rfl ?_
  refine kj_new (fs := [.null, .int 0, .int 0, .int 0]) (⟨RX1, TX1, rfl, iw1, (tw_t (tm1 28 rfl) rfl), (tw_t (tm1 29 rfl) rfl), (tw_t (tm1 2 rfl) rfl)⟩ : nwA RX11 13 1 4) ft1 df1 (fitK_K (by omega) (by omega) (by omega) (by omega)) dX11_init_13 ?_
  refine kj_dup dX11_init_16 rfl ?_
  refine kb_init (As := []) niX11_15 (i_fai (k := 2) (by decide) (by decide) (by decide) (by decide) (by decide) (by decide)) (by omega) (by omega) (fun j hj1 hj2 => up_other _ _ (by omega)) rfl (fitI_K (by omega) (by omega) (by omega) (by omega)) (Nat.le_of_ble_eq_true rfl) dX11_init_17 ?_
  refine kb_put fb11_16 ft11 rfl rfl (by omega) (by show 1 < 15; omega) rfl (dc11 (by decide)) dX11_init_20 ?_
  refine kj_ald0 dX11_init_23 rfl ?_
  refine kj_new (fs := [.null, .int 0]) (⟨RX6, TX6, rfl, iw6, (tw_t (tm1 95 rfl) rfl), (tw_t (tm1 96 rfl) rfl), (tw_t (tm1 6 rfl) rfl)⟩ : nwA RX11 20 6 2) ft6 df6 (fitK_K (by omega) (by omega) (by omega) (by omega)) dX11_init_24 ?_
  refine kj_dup dX11_init_27 rfl ?_
  refine kb_init (As := []) niX11_22 i_tap (by omega) (by omega) (fun j hj1 hj2 => up_other _ _ (by omega)) rfl (fitI_K (by omega) (by omega) (by omega) (by omega)) (Nat.le_of_ble_eq_true rfl) dX11_init_28 ?_
  refine kb_put fb11_23 ft11 rfl rfl (by omega) (by show 2 < 15; omega) rfl (dc11 (by decide)) dX11_init_31 ?_
  refine kj_ald0 dX11_init_34 rfl ?_
  refine kj_new (fs := [.null]) (⟨RX7, TX7, rfl, iw7, (tw_t (tm1 110 rfl) rfl), (tw_t (tm1 111 rfl) rfl), (tw_t (tm1 7 rfl) rfl)⟩ : nwA RX11 27 7 1) ft7 df7 (fitK_K (by omega) (by omega) (by omega) (by omega)) dX11_init_35 ?_
  refine kj_dup dX11_init_38 rfl ?_
  refine kj_ald0 dX11_init_39 rfl ?_
  refine kj_get (k := 0) fb11_23 (by omega) ((up_other _ _ (by omega)).trans mx_at) rfl dX11_init_40 ?_
  refine kb_init (As := [.ref (X.2.2.1 + 28)]) niX11_29 i_tel (by omega) (by omega) (fun j hj1 hj2 => up_other _ _ (by omega)) rfl (fitI_K (by omega) (by omega) (by omega) (by omega)) (Nat.le_of_ble_eq_true rfl) dX11_init_43 ?_
  refine kb_put fb11_32 ft11 rfl rfl (by omega) (by show 3 < 15; omega) rfl (dc11 (by decide)) dX11_init_46 ?_
  refine kj_ald0 dX11_init_49 rfl ?_
  refine kj_ic4 dX11_init_50 ?_
  refine kb_newq (t := 2) (N := 4) (tw_t (tm1 145 rfl) rfl) (fun _ h => h.2) rfl (by decide) (by decide) (by omega) (fitK_K (by omega) (by omega) (by omega) (by omega)) (by omega) (by show va_up _ 32 _ 32 = _; rw [up_same, fTq_0]) dX11_init_51 ?_
  refine kb_put fb11_38 ft11 rfl rfl (by omega) (by show 4 < 15; omega) rfl (dc11 (by decide)) dX11_init_54 ?_
  refine kj_ald0 dX11_init_57 rfl ?_
  refine kj_new (fs := [.null, .int 0]) (⟨RX2, TX2, rfl, iw2, (tw_t (tm1 147 rfl) rfl), (tw_t (tm1 42 rfl) rfl), (tw_t (tm1 4 rfl) rfl)⟩ : nwA RX11 42 2 2) ft2 df2 (fitK_K (by omega) (by omega) (by omega) (by omega)) dX11_init_58 ?_
  refine kj_dup dX11_init_61 rfl ?_
  refine kj_bipush (v := 24) dX11_init_62 (by decide) ?_
  refine kb_init (As := [.int 24]) niX11_44 (i_row (k := 33) (r := 24) (x := 24) (by decide) (by decide) (by decide) (by decide) (by omega)) (by omega) (by omega) (fun j hj1 hj2 => up_other _ _ (by omega)) rfl (fitI_K (by omega) (by omega) (by omega) (by omega)) (Nat.le_of_ble_eq_true rfl) dX11_init_64 ?_
  refine kb_put fb11_47 ft11 rfl rfl (by omega) (by show 5 < 15; omega) rfl (dc11 (by decide)) dX11_init_67 ?_
  refine kj_ald0 dX11_init_70 rfl ?_
  refine kj_new (fs := [.null, .int 0]) (⟨RX2, TX2, rfl, iw2, (tw_t (tm1 147 rfl) rfl), (tw_t (tm1 42 rfl) rfl), (tw_t (tm1 4 rfl) rfl)⟩ : nwA RX11 42 2 2) ft2 df2 (fitK_K (by omega) (by omega) (by omega) (by omega)) dX11_init_71 ?_
  refine kj_dup dX11_init_74 rfl ?_
  refine kj_bipush (v := 24) dX11_init_75 (by decide) ?_
  refine kb_init (As := [.int 24]) niX11_44 (i_row (k := 35) (r := 24) (x := 24) (by decide) (by decide) (by decide) (by decide) (by omega)) (by omega) (by omega) (fun j hj1 hj2 => up_other _ _ (by omega)) rfl (fitI_K (by omega) (by omega) (by omega) (by omega)) (Nat.le_of_ble_eq_true rfl) dX11_init_77 ?_
  refine kb_put fb11_51 ft11 rfl rfl (by omega) (by show 6 < 15; omega) rfl (dc11 (by decide)) dX11_init_80 ?_
  refine kj_ald0 dX11_init_83 rfl ?_
  refine kj_new (fs := [.null, .null, .int 0]) (⟨RX5, TX5, rfl, iw5, (tw_t (tm1 149 rfl) rfl), (tw_t (tm1 150 rfl) rfl), (tw_t (tm1 9 rfl) rfl)⟩ : nwA RX11 54 5 3) ft5 df5 (fitK_K (by omega) (by omega) (by omega) (by omega)) dX11_init_84 ?_
  refine kj_dup dX11_init_87 rfl ?_
  refine kb_init (As := []) niX11_56 (i_str (k := 37) (by decide) (by decide) (by decide) (by decide) (by decide) (by decide) (by decide) (by decide)) (by omega) (by omega) (fun j hj1 hj2 => up_other _ _ (by omega)) rfl (fitI_K (by omega) (by omega) (by omega) (by omega)) (Nat.le_of_ble_eq_true rfl) dX11_init_88 ?_
  refine kb_put fb11_57 ft11 rfl rfl (by omega) (by show 7 < 15; omega) rfl (dc11 (by decide)) dX11_init_91 ?_
  refine kj_ald0 dX11_init_94 rfl ?_
  refine kj_new (fs := [.null, .null, .int 0]) (⟨RX5, TX5, rfl, iw5, (tw_t (tm1 149 rfl) rfl), (tw_t (tm1 150 rfl) rfl), (tw_t (tm1 9 rfl) rfl)⟩ : nwA RX11 54 5 3) ft5 df5 (fitK_K (by omega) (by omega) (by omega) (by omega)) dX11_init_95 ?_
  refine kj_dup dX11_init_98 rfl ?_
  refine kb_init (As := []) niX11_56 (i_str (k := 40) (by decide) (by decide) (by decide) (by decide) (by decide) (by decide) (by decide) (by decide)) (by omega) (by omega) (fun j hj1 hj2 => up_other _ _ (by omega)) rfl (fitI_K (by omega) (by omega) (by omega) (by omega)) (Nat.le_of_ble_eq_true rfl) dX11_init_99 ?_
  refine kb_put fb11_61 ft11 rfl rfl (by omega) (by show 8 < 15; omega) rfl (dc11 (by decide)) dX11_init_102 ?_
  refine kj_ald0 dX11_init_105 rfl ?_
  refine kj_new (fs := [.null, .int 0, .int 0]) (⟨RX0, TX0, rfl, iw0, (tw_t (tm1 165 rfl) rfl), (tw_t (tm1 166 rfl) rfl), (tw_t (tm1 10 rfl) rfl)⟩ : nwA RX11 64 0 3) ft0 df0 (fitK_K (by omega) (by omega) (by omega) (by omega)) dX11_init_106 ?_
  refine kj_dup dX11_init_109 rfl ?_
  refine kb_init (As := []) niX11_66 i_col (by omega) (by omega) (fun j hj1 hj2 => up_other _ _ (by omega)) rfl (fitI_K (by omega) (by omega) (by omega) (by omega)) (Nat.le_of_ble_eq_true rfl) dX11_init_110 ?_
  refine kb_put fb11_67 ft11 rfl rfl (by omega) (by show 9 < 15; omega) rfl (dc11 (by decide)) dX11_init_113 ?_
  refine kj_ald0 dX11_init_116 rfl ?_
  refine kj_new (fs := [.null, .int 0]) (⟨RX10, TX10, rfl, iw10, (tw_t (tm1 181 rfl) rfl), (tw_t (tm1 182 rfl) rfl), (tw_t (tm1 11 rfl) rfl)⟩ : nwA RX11 71 10 2) ft10 df10 (fitK_K (by omega) (by omega) (by omega) (by omega)) dX11_init_117 ?_
  refine kj_dup dX11_init_120 rfl ?_
  refine kb_init (As := []) niX11_73 i_unt (by omega) (by omega) (fun j hj1 hj2 => up_other _ _ (by omega)) rfl (fitI_K (by omega) (by omega) (by omega) (by omega)) (Nat.le_of_ble_eq_true rfl) dX11_init_121 ?_
  refine kb_put fb11_74 ft11 rfl rfl (by omega) (by show 10 < 15; omega) rfl (dc11 (by decide)) dX11_init_124 ?_
  refine kj_ald0 dX11_init_127 rfl ?_
  refine kj_new (fs := [.null, .null]) (⟨RX3, TX3, rfl, iw3, (tw_t (tm1 195 rfl) rfl), (tw_t (tm1 196 rfl) rfl), (tw_t (tm1 12 rfl) rfl)⟩ : nwA RX11 78 3 2) ft3 df3 (fitK_K (by omega) (by omega) (by omega) (by omega)) dX11_init_128 ?_
  refine kj_dup dX11_init_131 rfl ?_
  refine kb_init (As := []) niX11_80 i_sea (by omega) (by omega) (fun j hj1 hj2 => up_other _ _ (by omega)) rfl (fitI_K (by omega) (by omega) (by omega) (by omega)) (Nat.le_of_ble_eq_true rfl) dX11_init_132 ?_
  refine kb_put fb11_81 ft11 rfl rfl (by omega) (by show 11 < 15; omega) rfl (dc11 (by decide)) dX11_init_135 ?_
  refine kj_ald0 dX11_init_138 rfl ?_
  refine kj_new (fs := [.null, .int 0, .int 0, .int 0]) (⟨RX1, TX1, rfl, iw1, (tw_t (tm1 28 rfl) rfl), (tw_t (tm1 29 rfl) rfl), (tw_t (tm1 2 rfl) rfl)⟩ : nwA RX11 13 1 4) ft1 df1 (fitK_K (by omega) (by omega) (by omega) (by omega)) dX11_init_139 ?_
  refine kj_dup dX11_init_142 rfl ?_
  refine kb_init (As := []) niX11_15 (i_fai (k := 52) (by decide) (by decide) (by decide) (by decide) (by decide) (by decide)) (by omega) (by omega) (fun j hj1 hj2 => up_other _ _ (by omega)) rfl (fitI_K (by omega) (by omega) (by omega) (by omega)) (Nat.le_of_ble_eq_true rfl) dX11_init_143 ?_
  refine kb_put fb11_85 ft11 rfl rfl (by omega) (by show 12 < 15; omega) rfl (dc11 (by decide)) dX11_init_146 ?_
  refine kj_ald0 dX11_init_149 rfl ?_
  refine kj_new (fs := [.null, .int 0, .int 0, .int 0]) (⟨RX1, TX1, rfl, iw1, (tw_t (tm1 28 rfl) rfl), (tw_t (tm1 29 rfl) rfl), (tw_t (tm1 2 rfl) rfl)⟩ : nwA RX11 13 1 4) ft1 df1 (fitK_K (by omega) (by omega) (by omega) (by omega)) dX11_init_150 ?_
  refine kj_dup dX11_init_153 rfl ?_
  refine kb_init (As := []) niX11_15 (i_fai (k := 78) (by decide) (by decide) (by decide) (by decide) (by decide) (by decide)) (by omega) (by omega) (fun j hj1 hj2 => up_other _ _ (by omega)) rfl (fitI_K (by omega) (by omega) (by omega) (by omega)) (Nat.le_of_ble_eq_true rfl) dX11_init_154 ?_
  refine kb_put fb11_88 ft11 rfl rfl (by omega) (by show 13 < 15; omega) rfl (dc11 (by decide)) dX11_init_157 ?_
  refine kj_ald0 dX11_init_160 rfl ?_
  refine kj_ic0 dX11_init_161 ?_
  refine kb_put fb11_91 ft11 rfl rfl (by omega) (by show 14 < 15; omega) rfl (dc11 (by decide)) dX11_init_162 ?_
  refine kj_ic0 dX11_init_165 ?_
  refine kj_ist1 dX11_init_166 (by decide) rfl ?_
  exact i_lpS (by decide) 4 0 rfl
theorem kb_iast {G : GT} {X : CX} {cc : ByteArray} {nL : Nat} {ret : Option FieldType} {own nm : String} {pc : Nat} {lv : List (Option Value)} {st : List Value} {n0 nk ks : Nat} {w S : Nat → va_E} {e0 : va_E} {k a N : Nat} {i x : Int32} {f : Nat → Int32} (hka : k < a) (hk : a < n0 + nk) (hin : vp_in i N) (hd : decode cc pc = .ok (.iastore, 1)) (kk : KJ G X cc nL ret own nm n0 (pc + 1) lv st nk (mx w (va_up (va_up S a (.inl (X.2.1 0, N, .inl (upd f i.toNatClampNeg x)))) k e0) k) ks) : KJ G X cc nL ret own nm n0 pc lv (.int x :: .int i :: .ref (X.2.2.1 + a) :: st) nk (mx w (va_up (va_up S a (.inl (X.2.1 0, N, .inl f))) k e0) k) ks :=
  kj_iast hk ((mx_oth hka).trans (up_same _ _ _)) hin hd (kj_conv (fun i _ => mx_arr hka) kk)
theorem row0 : sg0.1 113 = upd (upd (fun _ => 0) (0 : Int32).toNatClampNeg 4) (2 : Int32).toNatClampNeg 1 := by
  have e0 : (0 : Int32).toNatClampNeg = 0 := by decide
  have e2 : (2 : Int32).toNatClampNeg = 2 := by decide
  rw [e0, e2]
  funext j
  have hj : sg0.1 113 j = if j = 0 then (4 : Int32) else if j = 2 then 1 else 0 := rfl
  rw [hj]
  unfold upd
  by_cases h0 : j = 0
  · subst h0
    rfl
  · by_cases h2 : j = 2
    · subst h2
      rfl
    · simp [h0, h2]
theorem lay_12 {X : CX} : lay X sg0 112 = .inr (12, [.ref (X.2.2.1 + 113), .ref (X.2.2.1 + 114), .ref (X.2.2.1 + 115), .ref (X.2.2.1 + 116), .ref (X.2.2.1 + 117), .int 0, .int 0, .int 0, .ref (X.2.2.1 + 118), .ref (X.2.2.1 + 119), .ref (X.2.2.1 + 120), .ref (X.2.2.1 + 121), .ref (X.2.2.1 + 122), .int 0, .int 0, .int 0, .int 0, .long 0, .int 0, .int 0, .ref (X.2.2.1 + 123), .ref (X.2.2.1 + 124), .ref (X.2.2.1 + 125), .ref (X.2.2.1 + 126), .ref (X.2.2.1 + 127), .ref (X.2.2.1 + 128), .int 0]) := rfl
theorem i_mod {l : Launch} {X : CX}  : MK l X 1 yX12_init cX12_init 1 [.ref (X.2.2.1 + 112)] 112 16 795 12 [.null, .null, .null, .null, .null, .int 0, .int 0, .int 0, .null, .null, .null, .null, .null, .int 0, .int 0, .int 0, .int 0, .long 0, .int 0, .int 0, .null, .null, .null, .null, .null, .null, .int 0] := by
  have hB : lay X sg0 113 = .inl (X.2.1 0, 115, .inl (upd (upd (fun _ => 0) (0 : Int32).toNatClampNeg 4) (2 : Int32).toNatClampNeg 1)) := by rw [lay_int (by decide), row0]; rfl
  refine MK_of (own := RX12) (va_up (lay X sg0) 113 (.inl (X.2.1 0, 115, .inl (fun _ => 0)))) [some (.ref (X.2.2.1 + 112))] (by decide) rfl rfl (Nat.le_of_ble_eq_true rfl) rfl (fun w => ?_)
  refine kj_ald0 dX12_init_0 rfl ?_
  refine kj_obj (⟨(tw_t (tm4 229 rfl) rfl), (tw_t (tm1 26 rfl) rfl), (tw_t (tm1 27 rfl) rfl)⟩ : mO RX12 1) ⟨by show 1 ≤ 1; omega, by show 0 + 12 ≤ 64 * 1; omega⟩ dX12_init_1 ?_
  refine kj_ald0 dX12_init_4 rfl ?_
  refine kj_bipush (v := 115) dX12_init_5 (by decide) ?_
  refine kb_newi (tw_t (tm1 64 rfl) rfl) (N := 115) (by decide) (by decide) (by show 115 * 4 ≤ 536870912; omega) (fitK_K (by omega) (by omega) (by omega) (by omega)) (by omega) (up_same _ _ _) dX12_init_7 ?_
  refine kb_put fb12_7 ft12 rfl rfl (by omega) (by show 0 < 27; omega) rfl (dc12 (by decide)) dX12_init_9 ?_
  refine kj_ald0 dX12_init_12 rfl ?_
  refine kj_bipush (v := 7) dX12_init_13 (by decide) ?_
  refine kb_newi (tw_t (tm1 64 rfl) rfl) (N := 7) (by decide) (by decide) (by show 7 * 4 ≤ 536870912; omega) (fitK_K (by omega) (by omega) (by omega) (by omega)) (by omega) ((up_other _ _ (by omega)).trans (lay_zi (by decide) (by decide) (by decide))) dX12_init_15 ?_
  refine kb_put fb12_13 ft12 rfl rfl (by omega) (by show 1 < 27; omega) rfl (dc12 (by decide)) dX12_init_17 ?_
  refine kj_ald0 dX12_init_20 rfl ?_
  refine kj_bipush (v := 24) dX12_init_21 (by decide) ?_
  refine kb_newi (tw_t (tm1 64 rfl) rfl) (N := 24) (by decide) (by decide) (by show 24 * 4 ≤ 536870912; omega) (fitK_K (by omega) (by omega) (by omega) (by omega)) (by omega) ((up_other _ _ (by omega)).trans (lay_zi (by decide) (by decide) (by decide))) dX12_init_23 ?_
  refine kb_put fb12_16 ft12 rfl rfl (by omega) (by show 2 < 27; omega) rfl (dc12 (by decide)) dX12_init_25 ?_
  refine kj_ald0 dX12_init_28 rfl ?_
  refine kj_bipush (v := 24) dX12_init_29 (by decide) ?_
  refine kb_newi (tw_t (tm1 64 rfl) rfl) (N := 24) (by decide) (by decide) (by show 24 * 4 ≤ 536870912; omega) (fitK_K (by omega) (by omega) (by omega) (by omega)) (by omega) ((up_other _ _ (by omega)).trans (lay_zi (by decide) (by decide) (by decide))) dX12_init_31 ?_
  refine kb_put fb12_19 ft12 rfl rfl (by omega) (by show 3 < 27; omega) rfl (dc12 (by decide)) dX12_init_33 ?_
  refine kj_ald0 dX12_init_36 rfl ?_
  refine kj_bipush (v := 12) dX12_init_37 (by decide) ?_
  refine kb_newi (tw_t (tm1 64 rfl) rfl) (N := 12) (by decide) (by decide) (by show 12 * 4 ≤ 536870912; omega) (fitK_K (by omega) (by omega) (by omega) (by omega)) (by omega) ((up_other _ _ (by omega)).trans (lay_zi (by decide) (by decide) (by decide))) dX12_init_39 ?_
  refine kb_put fb12_22 ft12 rfl rfl (by omega) (by show 4 < 27; omega) rfl (dc12 (by decide)) dX12_init_41 ?_
  refine kj_ald0 dX12_init_44 rfl ?_
  refine kj_ic4 dX12_init_45 ?_
  refine kb_newi (tw_t (tm1 64 rfl) rfl) (N := 4) (by decide) (by decide) (by show 4 * 4 ≤ 536870912; omega) (fitK_K (by omega) (by omega) (by omega) (by omega)) (by omega) ((up_other _ _ (by omega)).trans (lay_zi (by decide) (by decide) (by decide))) dX12_init_46 ?_
  refine kb_put fb12_25 ft12 rfl rfl (by omega) (by show 8 < 27; omega) rfl (dc12 (by decide)) dX12_init_48 ?_
  refine kj_ald0 dX12_init_51 rfl ?_
  refine kj_ic4 dX12_init_52 ?_
  refine kb_newi (tw_t (tm1 64 rfl) rfl) (N := 4) (by decide) (by decide) (by show 4 * 4 ≤ 536870912; omega) (fitK_K (by omega) (by omega) (by omega) (by omega)) (by omega) ((up_other _ _ (by omega)).trans (lay_zi (by decide) (by decide) (by decide))) dX12_init_53 ?_
  refine kb_put fb12_28 ft12 rfl rfl (by omega) (by show 9 < 27; omega) rfl (dc12 (by decide)) dX12_init_55 ?_
  refine kj_ald0 dX12_init_58 rfl ?_
  refine kj_bipush (v := 23) dX12_init_59 (by decide) ?_
  refine kb_newi (tw_t (tm1 64 rfl) rfl) (N := 23) (by decide) (by decide) (by show 23 * 4 ≤ 536870912; omega) (fitK_K (by omega) (by omega) (by omega) (by omega)) (by omega) ((up_other _ _ (by omega)).trans (lay_zi (by decide) (by decide) (by decide))) dX12_init_61 ?_
  refine kb_put fb12_31 ft12 rfl rfl (by omega) (by show 10 < 27; omega) rfl (dc12 (by decide)) dX12_init_63 ?_
  refine kj_ald0 dX12_init_66 rfl ?_
  refine kj_bipush (v := 24) dX12_init_67 (by decide) ?_
  refine kb_newi (tw_t (tm1 64 rfl) rfl) (N := 24) (by decide) (by decide) (by show 24 * 4 ≤ 536870912; omega) (fitK_K (by omega) (by omega) (by omega) (by omega)) (by omega) ((up_other _ _ (by omega)).trans (lay_zi (by decide) (by decide) (by decide))) dX12_init_69 ?_
  refine kb_put fb12_34 ft12 rfl rfl (by omega) (by show 11 < 27; omega) rfl (dc12 (by decide)) dX12_init_71 ?_
  refine kj_ald0 dX12_init_74 rfl ?_
  refine kj_bipush (v := 120) dX12_init_75 (by decide) ?_
  refine kb_newi (tw_t (tm1 64 rfl) rfl) (N := 120) (by decide) (by decide) (by show 120 * 4 ≤ 536870912; omega) (fitK_K (by omega) (by omega) (by omega) (by omega)) (by omega) ((up_other _ _ (by omega)).trans (lay_zi (by decide) (by decide) (by decide))) dX12_init_77 ?_
  refine kb_put fb12_37 ft12 rfl rfl (by omega) (by show 12 < 27; omega) rfl (dc12 (by decide)) dX12_init_79 ?_
  refine kj_ald0 dX12_init_82 rfl ?_
  refine kj_ic4 dX12_init_83 ?_
  refine kb_newi (tw_t (tm1 64 rfl) rfl) (N := 4) (by decide) (by decide) (by show 4 * 4 ≤ 536870912; omega) (fitK_K (by omega) (by omega) (by omega) (by omega)) (by omega) ((up_other _ _ (by omega)).trans (lay_zi (by decide) (by decide) (by decide))) dX12_init_84 ?_
  refine kb_put fb12_40 ft12 rfl rfl (by omega) (by show 20 < 27; omega) rfl (dc12 (by decide)) dX12_init_86 ?_
  refine kj_ald0 dX12_init_89 rfl ?_
  refine kj_ic4 dX12_init_90 ?_
  refine kb_newi (tw_t (tm1 64 rfl) rfl) (N := 4) (by decide) (by decide) (by show 4 * 4 ≤ 536870912; omega) (fitK_K (by omega) (by omega) (by omega) (by omega)) (by omega) ((up_other _ _ (by omega)).trans (lay_zi (by decide) (by decide) (by decide))) dX12_init_91 ?_
  refine kb_put fb12_43 ft12 rfl rfl (by omega) (by show 21 < 27; omega) rfl (dc12 (by decide)) dX12_init_93 ?_
  refine kj_ald0 dX12_init_96 rfl ?_
  refine kj_sipush (v := 160) dX12_init_97 (by decide) ?_
  refine kb_newl (tw_t (tm1 228 rfl) rfl) (N := 160) (by decide) (by decide) (by show 160 * 8 ≤ 536870912; omega) (fitK_K (by omega) (by omega) (by omega) (by omega)) (by omega) ((up_other _ _ (by omega)).trans (lay_zl (by decide) (by decide))) dX12_init_100 ?_
  refine kb_put fb12_46 ft12 rfl rfl (by omega) (by show 22 < 27; omega) rfl (dc12 (by decide)) dX12_init_102 ?_
  refine kj_ald0 dX12_init_105 rfl ?_
  refine kj_bipush (v := 40) dX12_init_106 (by decide) ?_
  refine kb_newl (tw_t (tm1 228 rfl) rfl) (N := 40) (by decide) (by decide) (by show 40 * 8 ≤ 536870912; omega) (fitK_K (by omega) (by omega) (by omega) (by omega)) (by omega) ((up_other _ _ (by omega)).trans (lay_zl (by decide) (by decide))) dX12_init_108 ?_
  refine kb_put fb12_50 ft12 rfl rfl (by omega) (by show 23 < 27; omega) rfl (dc12 (by decide)) dX12_init_110 ?_
  refine kj_ald0 dX12_init_113 rfl ?_
  refine kj_bipush (v := 115) dX12_init_114 (by decide) ?_
  refine kb_newi (tw_t (tm1 64 rfl) rfl) (N := 115) (by decide) (by decide) (by show 115 * 4 ≤ 536870912; omega) (fitK_K (by omega) (by omega) (by omega) (by omega)) (by omega) ((up_other _ _ (by omega)).trans (lay_zi (by decide) (by decide) (by decide))) dX12_init_116 ?_
  refine kb_put fb12_53 ft12 rfl rfl (by omega) (by show 24 < 27; omega) rfl (dc12 (by decide)) dX12_init_118 ?_
  refine kj_ald0 dX12_init_121 rfl ?_
  refine kj_bipush (v := 115) dX12_init_122 (by decide) ?_
  refine kb_newi (tw_t (tm1 64 rfl) rfl) (N := 115) (by decide) (by decide) (by show 115 * 4 ≤ 536870912; omega) (fitK_K (by omega) (by omega) (by omega) (by omega)) (by omega) ((up_other _ _ (by omega)).trans (lay_zi (by decide) (by decide) (by decide))) dX12_init_124 ?_
  refine kb_put fb12_56 ft12 rfl rfl (by omega) (by show 25 < 27; omega) rfl (dc12 (by decide)) dX12_init_126 ?_
  refine kj_ald0 dX12_init_129 rfl ?_
  refine kb_get fb12_7 (by omega) rfl dX12_init_130 ?_
  refine kj_ic0 dX12_init_133 ?_
  refine kj_ic4 dX12_init_134 ?_
  refine kb_iast (a := 113) (by omega) (by omega) (vpi (by decide) (by decide)) dX12_init_135 ?_
  refine kj_ald0 dX12_init_136 rfl ?_
  refine kb_get fb12_7 (by omega) rfl dX12_init_137 ?_
  refine kj_ic2 dX12_init_140 ?_
  refine kj_ic1 dX12_init_141 ?_
  refine kb_iast (a := 113) (by omega) (by omega) (vpi (by decide) (by decide)) dX12_init_142 ?_
  refine kj_ret dX12_init_143 rfl (fun i _ => ?_)
  exact (congrArg (fun S => mx w (va_up S 112 _) 112 i) (up_id hB)).trans (mx_end lay_12)
