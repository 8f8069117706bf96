/-! constructors -/
theorem lo_zi {X : CX} {q r : Nat} (h : kd (xi q) = 13) (hl : ln (xi q) = r) (hz : zr (xi q) = true) : lo X q = .inl (X.2.1 0, r, .inl (fun _ => 0)) := by unfold lo; rw [lay_int h, hl, sg0_z hz]
theorem lo_zl {X : CX} {q r : Nat} (h : kd (xi q) = 14) (hl : ln (xi q) = r) : lo X q = .inl (X.2.1 1, r, .inr (.inl (fun _ => 0))) := by unfold lo; rw [lay_long h, hl]; rfl
theorem lo_ti {X : CX} {q : Nat} (h : kd (xi q) = 16) : lo X q = .inl (X.2.1 3, 8, .inr (.inr (.inr (.inr (fun j => some (ad X (xi q + 1 + 3 * j))))))) := lay_ti h
theorem lo_sh {X : CX} {q : Nat} (h : kd (xi q) = 15) : lo X q = .inl (X.2.1 2, 4, .inr (.inr (.inr (.inr (fun j => some (ad X (104 + 2 * j))))))) := lay_sh h
theorem lo_obj {X : CX} {q c : Nat} (h : kd (xi q) = c) (hc : c < 13) : lo X q = .inr (c, flsG X sg0 (xi q) 0 (ftab c)) := lay_obj h hc
def okR (q r : Nat) : Bool := kd (xi q) == 2 && kd (xi (q + 1)) == 13 && ln (xi (q + 1)) == r && zr (xi q) && zr (xi (q + 1)) && xi (q + 1) == xi q + 1
theorem okR_ {q r : Nat} (h : okR q r = true) : kd (xi q) = 2 ∧ kd (xi (q + 1)) = 13 ∧ ln (xi (q + 1)) = r ∧ zr (xi q) = true ∧ zr (xi (q + 1)) = true ∧ xi (q + 1) = xi q + 1 := by
  simp only [okR, Bool.and_eq_true, beq_iff_eq] at h
  exact ⟨h.1.1.1.1.1, h.1.1.1.1.2, h.1.1.1.2, h.1.1.2, h.1.2, h.2⟩
theorem i_row {l : Launch} {X : CX} {k r : Nat} {x : Int32} (h0 : okR k r = true) (hmx : (if x < 0 then (0 : Int32) else x) = x) (hr1 : ¬ x < 0) (hr2 : x.toNatClampNeg = r) (hr3 : r ≤ 1000) : MK l X 1 yX2_init cX2_init 2 [.ref (X.2.2.1 + k), .int x] k 1 r 2 [.null, .int 0] := by
  obtain ⟨q1, q2, q3, q4, q5, q6⟩ := okR_ h0
  have hA : lo X (k + 1) = .inl (X.2.1 0, r, .inl (fun _ => 0)) := lo_zi q2 q3 q5
  have hE : lo X k = .inr (2, [.ref (X.2.2.1 + (k + 1)), .int 0]) := by
    rw [lo_obj q1 (by decide), ← ad_s q6]
    simp [flsG, ftab, fv, sg0_z q4]
  refine MK_of (own := RX2) (lo X) [some (.ref (X.2.2.1 + k)), some (.int x)] (by decide) rfl rfl (Nat.le_of_ble_eq_true rfl) rfl (fun w => ?_)
  refine kj_ald0 dX2_init_0 rfl ?_
  refine kj_obj (⟨(tw_t (tm1 45 rfl) rfl), (tw_t (tm1 25 rfl) rfl), (tw_t (tm1 26 rfl) rfl)⟩ : mO RX2 1) ⟨by show 1 ≤ 1; omega, by show 0 + 12 ≤ 64 * 1; omega⟩ dX2_init_1 ?_
  refine kj_ald0 dX2_init_4 rfl ?_
  refine kj_ic0 dX2_init_5 ?_
  refine kb_put fb2_7 ft2 rfl rfl (by omega) (by show 1 < 2; omega) rfl (dc2 (by decide)) dX2_init_6 ?_
  refine kj_ald0 dX2_init_9 rfl ?_
  refine kj_ild1 dX2_init_10 rfl ?_
  refine kj_ic0 dX2_init_11 ?_
  refine kj_max cX2_13 (fitK_K (by omega) (by show 1 + 13 ≤ 64; omega) (by omega) (by omega)) dX2_init_12 ?_
  rw [hmx]
  refine kb_newi (tw_t (tm1 63 rfl) rfl) (N := r) hr1 hr2 (by show r * 4 ≤ 536870912; omega) (fitK_K (by omega) (by omega) (by omega) (by omega)) (by omega) hA dX2_init_15 ?_
  refine kb_put fb2_19 ft2 rfl rfl (by omega) (by show 0 < 2; omega) rfl (dc2 (by decide)) dX2_init_17 ?_
  rw [show 0 + r = r from Nat.zero_add r]
  refine kj_ret dX2_init_20 rfl (fun i _ => ?_)
  exact mx_end hE
def okT (q : Nat) : Bool := kd (xi q) == 8 && zr (xi q) && okR (q + 1) 12 && xi (q + 1) == xi q + 1
theorem okT_ {q : Nat} (h : okT q = true) : kd (xi q) = 8 ∧ zr (xi q) = true ∧ okR (q + 1) 12 = true ∧ xi (q + 1) = xi q + 1 := by
  simp only [okT, Bool.and_eq_true, beq_iff_eq] at h
  exact ⟨h.1.1.1, h.1.1.2, h.1.2, h.2⟩
theorem lay_tie {X : CX} {q : Nat} (h : okT q = true) : lo X q = .inr (8, [.ref (X.2.2.1 + (q + 1)), .int 0]) := by
  obtain ⟨q1, q2, q3, q4⟩ := okT_ h
  rw [lo_obj q1 (by decide), ← ad_s q4]
  simp [flsG, ftab, fv, sg0_z q2]
theorem i_tie {l : Launch} {X : CX} {k : Nat} (h0 : okT k = true) : MK l X 2 yX8_init cX8_init 1 [.ref (X.2.2.1 + k)] k 2 14 8 [.null, .int 0] := by
  obtain ⟨q1, q2, q3, q4⟩ := okT_ h0
  have hE := lay_tie (X := X) h0
  refine MK_of (own := RX8) (lo X) [some (.ref (X.2.2.1 + k))] (by decide) rfl rfl (Nat.le_of_ble_eq_true rfl) rfl (fun w => ?_)
  refine kj_ald0 dX8_init_0 rfl ?_
  refine kj_obj (⟨(tw_t (tm1 39 rfl) rfl), (tw_t (tm1 25 rfl) rfl), (tw_t (tm1 26 rfl) rfl)⟩ : mO RX8 3) ⟨by show 1 ≤ 2; omega, by show 0 + 12 ≤ 64 * 2; omega⟩ dX8_init_1 ?_
  refine kj_ald0 dX8_init_4 rfl ?_
  refine kj_new (fs := [.null, .int 0]) (⟨RX2, TX2, rfl, iw2, (tw_t (tm1 40 rfl) rfl), (tw_t (tm1 41 rfl) rfl), (tw_t (tm1 4 rfl) rfl)⟩ : nwA RX8 9 2 2) ft2 df2 (fitK_K (by omega) (by omega) (by omega) (by omega)) dX8_init_5 ?_
  refine kj_dup dX8_init_8 rfl ?_
  refine kj_bipush (v := 12) dX8_init_9 (by decide) ?_
  refine kb_init (As := [.int 12]) niX8_11 (i_row (k := k + 1) (r := 12) (x := 12) q3 (by decide) (by decide) (by decide) (by omega)) (by omega) (by omega) (fun j hj1 hj2 => rfl) rfl (fitI_K (by omega) (by omega) (by omega) (by omega)) (Nat.le_of_ble_eq_true rfl) dX8_init_11 ?_
  refine kb_put fb8_14 ft8 rfl rfl (by omega) (by show 0 < 2; omega) rfl (dc8 (by decide)) dX8_init_14 ?_
  refine kj_ald0 dX8_init_17 rfl ?_
  refine kj_ic0 dX8_init_18 ?_
  refine kb_put fb8_20 ft8 rfl rfl (by omega) (by show 1 < 2; omega) rfl (dc8 (by decide)) dX8_init_19 ?_
  refine kj_ret dX8_init_22 rfl (fun i _ => ?_)
  exact mx_end hE
theorem i_str {l : Launch} {X : CX} {k : Nat} (q1 : kd (xi k) = 5) (q2 : kd (xi (k + 1)) = 13) (q3 : ln (xi (k + 1)) = 4) (q4 : kd (xi (k + 2)) = 13) (q5 : ln (xi (k + 2)) = 16) (q6 : zr (xi k) = true) (q7 : zr (xi (k + 1)) = true) (q8 : zr (xi (k + 2)) = true) (q9 : xi (k + 1) = xi k + 1) (q10 : xi (k + 2) = xi k + 2) : MK l X 1 yX5_init cX5_init 1 [.ref (X.2.2.1 + k)] k 2 20 5 [.null, .null, .int 0] := by
  have hA : lo X (k + 1) = .inl (X.2.1 0, 4, .inl (fun _ => 0)) := lo_zi q2 q3 q7
  have hB : lo X (k + 2) = .inl (X.2.1 0, 16, .inl (fun _ => 0)) := lo_zi q4 q5 q8
  have hE : lo X k = .inr (5, [.ref (X.2.2.1 + (k + 1)), .ref (X.2.2.1 + (k + 2)), .int 0]) := by
    rw [lo_obj q1 (by decide), ← ad_s q9, ← ad_s q10]
    simp [flsG, ftab, fv, sg0_z q6]
  refine MK_of (own := RX5) (lo X) [some (.ref (X.2.2.1 + k))] (by decide) rfl rfl (Nat.le_of_ble_eq_true rfl) rfl (fun w => ?_)
  refine kj_ald0 dX5_init_0 rfl ?_
  refine kj_obj (⟨(tw_t (tm1 132 rfl) rfl), (tw_t (tm1 25 rfl) rfl), (tw_t (tm1 26 rfl) rfl)⟩ : mO RX5 3) ⟨by show 1 ≤ 1; omega, by show 0 + 12 ≤ 64 * 1; omega⟩ dX5_init_1 ?_
  refine kj_ald0 dX5_init_4 rfl ?_
  refine kj_ic4 dX5_init_5 ?_
  refine kb_newi (tw_t (tm1 63 rfl) rfl) (N := 4) (by decide) (by decide) (by show 4 * 4 ≤ 536870912; omega) (fitK_K (by omega) (by omega) (by omega) (by omega)) (by omega) hA dX5_init_6 ?_
  refine kb_put fb5_9 ft5 rfl rfl (by omega) (by show 0 < 3; omega) rfl (dc5 (by decide)) dX5_init_8 ?_
  refine kj_ald0 dX5_init_11 rfl ?_
  refine kj_bipush (v := 16) dX5_init_12 (by decide) ?_
  refine kb_newi (tw_t (tm1 63 rfl) rfl) (N := 16) (by decide) (by decide) (by show 16 * 4 ≤ 536870912; omega) (fitK_K (by omega) (by omega) (by omega) (by omega)) (by omega) hB dX5_init_14 ?_
  refine kb_put fb5_15 ft5 rfl rfl (by omega) (by show 1 < 3; omega) rfl (dc5 (by decide)) dX5_init_16 ?_
  refine kj_ald0 dX5_init_19 rfl ?_
  refine kj_ic0 dX5_init_20 ?_
  refine kb_put fb5_18 ft5 rfl rfl (by omega) (by show 2 < 3; omega) rfl (dc5 (by decide)) dX5_init_21 ?_
  refine kj_ret dX5_init_24 rfl (fun i _ => ?_)
  exact mx_end hE
theorem lay_shO {X : CX} {q : Nat} (q1 : kd (xi q) = 4) (q4 : zr (xi q) = true) (q5 : xi (q + 1) = xi q + 1) : lo X q = .inr (4, [.ref (X.2.2.1 + (q + 1)), .int 0, .int 0]) := by
  rw [lo_obj q1 (by decide), ← ad_s q5]
  simp [flsG, ftab, fv, sg0_z q4]
theorem i_sht {l : Launch} {X : CX} {k : Nat} (q1 : kd (xi k) = 4) (q2 : kd (xi (k + 1)) = 14) (q3 : ln (xi (k + 1)) = 40) (q4 : zr (xi k) = true) (q5 : xi (k + 1) = xi k + 1) : MK l X 1 yX4_init cX4_init 1 [.ref (X.2.2.1 + k)] k 1 40 4 [.null, .int 0, .int 0] := by
  have hA : lo X (k + 1) = .inl (X.2.1 1, 40, .inr (.inl (fun _ => 0))) := lo_zl q2 q3
  have hE := lay_shO (X := X) q1 q4 q5
  refine MK_of (own := RX4) (lo X) [some (.ref (X.2.2.1 + k))] (by decide) rfl rfl (Nat.le_of_ble_eq_true rfl) rfl (fun w => ?_)
  refine kj_ald0 dX4_init_0 rfl ?_
  refine kj_obj (⟨(tw_t (tm1 192 rfl) rfl), (tw_t (tm1 25 rfl) rfl), (tw_t (tm1 26 rfl) rfl)⟩ : mO RX4 3) ⟨by show 1 ≤ 1; omega, by show 0 + 12 ≤ 64 * 1; omega⟩ dX4_init_1 ?_
  refine kj_ald0 dX4_init_4 rfl ?_
  refine kj_bipush (v := 40) dX4_init_5 (by decide) ?_
  refine kb_newl (tw_t (tm1 206 rfl) rfl) (N := 40) (by decide) (by decide) (by show 40 * 8 ≤ 536870912; omega) (fitK_K (by omega) (by omega) (by omega) (by omega)) (by omega) hA dX4_init_7 ?_
  refine kb_put fb4_9 ft4 rfl rfl (by omega) (by show 0 < 3; omega) rfl (dc4 (by decide)) dX4_init_9 ?_
  refine kj_ald0 dX4_init_12 rfl ?_
  refine kj_ic0 dX4_init_13 ?_
  refine kb_put fb4_15 ft4 rfl rfl (by omega) (by show 1 < 3; omega) rfl (dc4 (by decide)) dX4_init_14 ?_
  refine kj_ald0 dX4_init_17 rfl ?_
  refine kj_ic0 dX4_init_18 ?_
  refine kb_put fb4_19 ft4 rfl rfl (by omega) (by show 2 < 3; omega) rfl (dc4 (by decide)) dX4_init_19 ?_
  refine kj_ret dX4_init_22 rfl (fun i _ => ?_)
  exact mx_end hE
theorem i_col {l : Launch} {X : CX}  : MK l X 1 yX0_init cX0_init 1 [.ref (X.2.2.1 + 41)] 41 1 16 0 [.null, .int 0, .int 0] := by
  have hE : lo X 41 = .inr (0, [.ref (X.2.2.1 + 42), .int 0, .int 3]) := rfl
  refine MK_of (own := RX0) (lo X) [some (.ref (X.2.2.1 + 41))] (by decide) rfl rfl (Nat.le_of_ble_eq_true rfl) rfl (fun w => ?_)
  refine kj_ald0 dX0_init_0 rfl ?_
  refine kj_obj (⟨(tw_t (tm1 148 rfl) rfl), (tw_t (tm1 25 rfl) rfl), (tw_t (tm1 26 rfl) rfl)⟩ : mO RX0 3) ⟨by show 1 ≤ 1; omega, by show 0 + 12 ≤ 64 * 1; omega⟩ dX0_init_1 ?_
  refine kj_ald0 dX0_init_4 rfl ?_
  refine kj_bipush (v := 16) dX0_init_5 (by decide) ?_
  refine kb_newi (tw_t (tm1 63 rfl) rfl) (N := 16) (by decide) (by decide) (by show 16 * 4 ≤ 536870912; omega) (fitK_K (by omega) (by omega) (by omega) (by omega)) (by omega) (lo_zi (by decide) (by decide) (by decide)) dX0_init_7 ?_
  refine kb_put fb0_9 ft0 rfl rfl (by omega) (by show 0 < 3; omega) rfl (dc0 (by decide)) dX0_init_9 ?_
  refine kj_ald0 dX0_init_12 rfl ?_
  refine kj_ic0 dX0_init_13 ?_
  refine kb_put fb0_15 ft0 rfl rfl (by omega) (by show 1 < 3; omega) rfl (dc0 (by decide)) dX0_init_14 ?_
  refine kj_ald0 dX0_init_17 rfl ?_
  refine kj_ic3 dX0_init_18 ?_
  refine kb_put fb0_19 ft0 rfl rfl (by omega) (by show 2 < 3; omega) rfl (dc0 (by decide)) dX0_init_19 ?_
  refine kj_ret dX0_init_22 rfl (fun i _ => ?_)
  exact mx_end hE
theorem i_unt {l : Launch} {X : CX}  : MK l X 1 yX10_init cX10_init 1 [.ref (X.2.2.1 + 43)] 43 1 169 10 [.null, .int 0] := by
  have hE : lo X 43 = .inr (10, [.ref (X.2.2.1 + 44), .int 16777216]) := rfl
  refine MK_of (own := RX10) (lo X) [some (.ref (X.2.2.1 + 43))] (by decide) rfl rfl (Nat.le_of_ble_eq_true rfl) rfl (fun w => ?_)
  refine kj_ald0 dX10_init_0 rfl ?_
  refine kj_obj (⟨(tw_t (tm1 164 rfl) rfl), (tw_t (tm1 25 rfl) rfl), (tw_t (tm1 26 rfl) rfl)⟩ : mO RX10 3) ⟨by show 1 ≤ 1; omega, by show 0 + 12 ≤ 64 * 1; omega⟩ dX10_init_1 ?_
  refine kj_ald0 dX10_init_4 rfl ?_
  refine kj_sipush (v := 169) dX10_init_5 (by decide) ?_
  refine kb_newi (tw_t (tm1 63 rfl) rfl) (N := 169) (by decide) (by decide) (by show 169 * 4 ≤ 536870912; omega) (fitK_K (by omega) (by omega) (by omega) (by omega)) (by omega) (lo_zi (by decide) (by decide) (by decide)) dX10_init_8 ?_
  refine kb_put fb10_11 ft10 rfl rfl (by omega) (by show 0 < 2; omega) rfl (dc10 (by decide)) dX10_init_10 ?_
  refine kj_ald0 dX10_init_13 rfl ?_
  refine kj_ldc (v := 16777216) (tw_t (tm1 165 rfl) rfl) dX10_init_14 ?_
  refine kb_put fb10_16 ft10 rfl rfl (by omega) (by show 1 < 2; omega) rfl (dc10 (by decide)) dX10_init_16 ?_
  refine kj_ret dX10_init_19 rfl (fun i _ => ?_)
  exact mx_end hE
theorem i_tap {l : Launch} {X : CX}  : MK l X 1 yX6_init cX6_init 1 [.ref (X.2.2.1 + 28)] 28 1 120 6 [.null, .int 0, .int 0, .int 0, .int 0, .int 0] := by
  have hE : lo X 28 = .inr (6, [.ref (X.2.2.1 + 29), .int 0, .int 0, .int 0, .int 0, .int 0]) := rfl
  refine MK_of (own := RX6) (lo X) [some (.ref (X.2.2.1 + 28))] (by decide) rfl rfl (Nat.le_of_ble_eq_true rfl) rfl (fun w => ?_)
  refine kj_ald0 dX6_init_0 rfl ?_
  refine kj_obj (⟨(tw_t (tm1 99 rfl) rfl), (tw_t (tm1 25 rfl) rfl), (tw_t (tm1 26 rfl) rfl)⟩ : mO RX6 3) ⟨by show 1 ≤ 1; omega, by show 0 + 12 ≤ 64 * 1; omega⟩ dX6_init_1 ?_
  refine kj_ald0 dX6_init_4 rfl ?_
  refine kj_bipush (v := 120) dX6_init_5 (by decide) ?_
  refine kb_newi (tw_t (tm1 63 rfl) rfl) (N := 120) (by decide) (by decide) (by show 120 * 4 ≤ 536870912; omega) (fitK_K (by omega) (by omega) (by omega) (by omega)) (by omega) (lo_zi (by decide) (by decide) (by decide)) dX6_init_7 ?_
  refine kb_put fb6_9 ft6 rfl rfl (by omega) (by show 0 < 6; omega) rfl (dc6 (by decide)) dX6_init_9 ?_
  refine kj_ald0 dX6_init_12 rfl ?_
  refine kj_ic0 dX6_init_13 ?_
  refine kb_put fb6_15 ft6 rfl rfl (by omega) (by show 1 < 6; omega) rfl (dc6 (by decide)) dX6_init_14 ?_
  refine kj_ald0 dX6_init_17 rfl ?_
  refine kj_ic0 dX6_init_18 ?_
  refine kb_put fb6_19 ft6 rfl rfl (by omega) (by show 2 < 6; omega) rfl (dc6 (by decide)) dX6_init_19 ?_
  refine kj_ald0 dX6_init_22 rfl ?_
  refine kj_ic0 dX6_init_23 ?_
  refine kb_put fb6_22 ft6 rfl rfl (by omega) (by show 3 < 6; omega) rfl (dc6 (by decide)) dX6_init_24 ?_
  refine kj_ald0 dX6_init_27 rfl ?_
  refine kj_ic0 dX6_init_28 ?_
  refine kb_put fb6_25 ft6 rfl rfl (by omega) (by show 4 < 6; omega) rfl (dc6 (by decide)) dX6_init_29 ?_
  refine kj_ald0 dX6_init_32 rfl ?_
  refine kj_ic0 dX6_init_33 ?_
  refine kb_put fb6_28 ft6 rfl rfl (by omega) (by show 5 < 6; omega) rfl (dc6 (by decide)) dX6_init_34 ?_
  refine kj_ret dX6_init_37 rfl (fun i _ => ?_)
  exact mx_end hE
theorem i_sea {l : Launch} {X : CX}  : MK l X 2 yX3_init cX3_init 1 [.ref (X.2.2.1 + 45)] 45 4 28 3 [.null, .null] := by
  have hE : lo X 45 = .inr (3, [.ref (X.2.2.1 + 46), .ref (X.2.2.1 + 48)]) := rfl
  refine MK_of (own := RX3) (lo X) [some (.ref (X.2.2.1 + 45))] (by decide) rfl rfl (Nat.le_of_ble_eq_true rfl) rfl (fun w => ?_)
  refine kj_ald0 dX3_init_0 rfl ?_
  refine kj_obj (⟨(tw_t (tm1 178 rfl) rfl), (tw_t (tm1 25 rfl) rfl), (tw_t (tm1 26 rfl) rfl)⟩ : mO RX3 3) ⟨by show 1 ≤ 2; omega, by show 0 + 12 ≤ 64 * 2; omega⟩ dX3_init_1 ?_
  refine kj_ald0 dX3_init_4 rfl ?_
  refine kj_new (fs := [.null, .int 0]) (⟨RX2, TX2, rfl, iw2, (tw_t (tm1 179 rfl) rfl), (tw_t (tm1 41 rfl) rfl), (tw_t (tm1 4 rfl) rfl)⟩ : nwA RX3 9 2 2) ft2 df2 (fitK_K (by omega) (by omega) (by omega) (by omega)) dX3_init_5 ?_
  refine kj_dup dX3_init_8 rfl ?_
  refine kj_bipush (v := 12) dX3_init_9 (by decide) ?_
  refine kb_init (As := [.int 12]) niX3_11 (i_row (k := 46) (r := 12) (x := 12) (by decide) (by decide) (by decide) (by decide) (by omega)) (by omega) (by omega) (fun j hj1 hj2 => rfl) rfl (fitI_K (by omega) (by omega) (by omega) (by omega)) (Nat.le_of_ble_eq_true rfl) dX3_init_11 ?_
  refine kb_put fb3_14 ft3 rfl rfl (by omega) (by show 0 < 2; omega) rfl (dc3 (by decide)) dX3_init_14 ?_
  refine kj_ald0 dX3_init_17 rfl ?_
  refine kj_new (fs := [.null, .int 0]) (⟨RX2, TX2, rfl, iw2, (tw_t (tm1 179 rfl) rfl), (tw_t (tm1 41 rfl) rfl), (tw_t (tm1 4 rfl) rfl)⟩ : nwA RX3 9 2 2) ft2 df2 (fitK_K (by omega) (by omega) (by omega) (by omega)) dX3_init_18 ?_
  refine kj_dup dX3_init_21 rfl ?_
  refine kj_bipush (v := 12) dX3_init_22 (by decide) ?_
  refine kb_init (As := [.int 12]) niX3_11 (i_row (k := 48) (r := 12) (x := 12) (by decide) (by decide) (by decide) (by decide) (by omega)) (by omega) (by omega) (fun j hj1 hj2 => rfl) rfl (fitI_K (by omega) (by omega) (by omega) (by omega)) (Nat.le_of_ble_eq_true rfl) dX3_init_24 ?_
  refine kb_put fb3_20 ft3 rfl rfl (by omega) (by show 1 < 2; omega) rfl (dc3 (by decide)) dX3_init_27 ?_
  refine kj_ret dX3_init_30 rfl (fun i _ => ?_)
  exact mx_end hE
