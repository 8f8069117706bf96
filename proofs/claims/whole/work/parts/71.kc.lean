/-! constructors -/
theorem cat_ok {n m : Nat} (h : n ≤ m) : n ≤ m := h
theorem lay_zi {X : CX} {q r : Nat} (h : kd q = 13) (hl : ln q = r) (hz : zr q = true) : lay X sg0 q = .inl (X.2.1 0, r, .inl (fun _ => 0)) := by rw [lay_int h, hl, sg0_z hz]
theorem lay_zl {X : CX} {q r : Nat} (h : kd q = 14) (hl : ln q = r) : lay X sg0 q = .inl (X.2.1 1, r, .inr (.inl (fun _ => 0))) := by rw [lay_long h, hl]; rfl
def okR (q r : Nat) : Bool := kd q == 2 && kd (q + 1) == 13 && ln (q + 1) == r && zr q && zr (q + 1)
theorem okR_ {q r : Nat} (h : okR q r = true) : kd q = 2 ∧ kd (q + 1) = 13 ∧ ln (q + 1) = r ∧ zr q = true ∧ zr (q + 1) = true := by
  simp only [okR, Bool.and_eq_true, beq_iff_eq] at h
  exact ⟨h.1.1.1.1, h.1.1.1.2, h.1.1.2, h.1.2, h.2⟩
theorem i_row {l : Launch} {X : CX} {k r : Nat} {x : Int32} (h0 : okR k r = true) (hmx : (if x < 0 then (0 : Int32) else x) = x) (hr1 : ¬ x < 0) (hr2 : x.toNatClampNeg = r) (hr3 : r ≤ 1000) : MK l X 1 yX2_init cX2_init 2 [.ref (X.2.2.1 + k), .int x] k 1 r 2 [.null, .int 0] := by
  obtain ⟨q1, q2, q3, q4, q5⟩ := okR_ h0
  have hA : lay X sg0 (k + 1) = .inl (X.2.1 0, r, .inl (fun _ => 0)) := lay_zi q2 q3 q5
  have hE : lay X sg0 k = .inr (2, [.ref (X.2.2.1 + (k + 1)), .int 0]) := by
    rw [lay_obj q1 (by decide)]
    simp [flsG, ftab, fv, sg0_z q4]
  refine MK_of (own := RX2) (lay X sg0) [some (.ref (X.2.2.1 + k)), some (.int x)] rfl rfl rfl (by simp [lg_sl, lg_slots, Value.category]) rfl (fun w => ?_)
  refine kj_ald0 dX2_init_0 rfl ?_
  refine kj_obj (⟨(tw_t (tm1 46 rfl) rfl), (tw_t (tm1 26 rfl) rfl), (tw_t (tm1 27 rfl) rfl)⟩ : mO RX2 1) ⟨by show 1 ≤ _; omega, by show 0 + 12 ≤ 64 * _; omega⟩ dX2_init_1 ?_
  refine kj_ald0 dX2_init_4 rfl ?_
  refine kj_ic0 dX2_init_5 ?_
  refine kb_put fb2_7 ft2 rfl rfl (by omega) (by show 1 < 2; omega) rfl (dc2 (by decide)) dX2_init_6 ?_
  refine kj_ald0 dX2_init_9 rfl ?_
  refine kj_ild1 dX2_init_10 rfl ?_
  refine kj_ic0 dX2_init_11 ?_
  refine kj_max cX2_13 (fitK_K (by omega) (by show 1 + 13 ≤ 64; omega) (by omega) (by omega)) dX2_init_12 ?_
  rw [hmx]
  refine kb_newi (tw_t (tm1 64 rfl) rfl) (N := r) hr1 hr2 (by show r * 4 ≤ 536870912; omega) (fitK_K (by omega) (by omega) (by omega) (by omega)) (by omega) hA dX2_init_15 ?_
  refine kb_put fb2_19 ft2 rfl rfl (by omega) (by show 0 < 2; omega) rfl (dc2 (by decide)) dX2_init_17 ?_
  exact kj_ret dX2_init_20 rfl (fun i _ => mx_end hE)
