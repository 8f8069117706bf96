/-! the reference's cells -/
def FM (f : Nat → Int32) (F : FA) : Prop := f 0 = F.1 ∧ f 1 = nI F.2.2.length ∧ f 2 = F.2.1 ∧ F.2.2.length ≤ 8 ∧ ∀ t, t < F.2.2.length → f (3 + 14 * t) = (F.2.2.getD t t0A).1 ∧ f (4 + 14 * t) = nI (F.2.2.getD t t0A).2.length ∧ (F.2.2.getD t t0A).2.length ≤ 12 ∧ ∀ i, i < (F.2.2.getD t t0A).2.length → f (5 + 14 * t + i) = (F.2.2.getD t t0A).2.getD i 0
def MR (σ : ST) (A : SA) : Prop := FM (σ.1 113) A.2.1 ∧ (∀ j, j < 7 → σ.1 114 j = A.1 j) ∧ ((A.2.2.1 = none ∧ σ.1 112 26 = 0) ∨ ∃ K, A.2.2.1 = some K ∧ σ.1 112 26 = 1 ∧ FM (σ.1 127) K) ∧
  (σ.1 112 13 = nI A.2.2.2.1.length ∧ A.2.2.2.1.length ≤ 120 ∧ ∀ i, i < A.2.2.2.1.length → σ.1 122 i = A.2.2.2.1.getD i 0) ∧
  ∀ s, s < 4 → σ.1 123 s = (shT A s).1 ∧ σ.1 124 s = nI (shT A s).2.length ∧ (shT A s).2.length ≤ 40 ∧ ∀ i, i < (shT A s).2.length → σ.2 125 (40 * s + i) = (shT A s).2.getD i 0
def mdP : Nat → Prop := fun a => 112 ≤ a
def OM (σ : ST) (r : Int32 × SA) : Option Value → ST → Prop := fun v τ => v = some (.int r.1) ∧ MR τ r.2 ∧ off mdP σ τ
theorem OM.tr {σ τ υ : ST} {r : Int32 × SA} {v : Option Value} (h : OM τ r v υ) (ho : off mdP σ τ) : OM σ r v υ := ⟨h.1, h.2.1, ho.tr h.2.2⟩
/-- what the reference scratches on -/
def msP : Nat → Prop := fun a => a = 112 ∨ (115 ≤ a ∧ a ≤ 121) ∨ a = 126 ∨ a = 128
def mq (σ τ : ST) : Prop := off msP σ τ ∧ τ.1 112 13 = σ.1 112 13 ∧ τ.1 112 26 = σ.1 112 26
theorem mq_rf {σ : ST} : mq σ σ := ⟨off.rf, rfl, rfl⟩
theorem mq_tr {σ τ υ : ST} (h : mq σ τ) (h2 : mq τ υ) : mq σ υ := ⟨h.1.tr h2.1, h2.2.1.trans h.2.1, h2.2.2.trans h.2.2⟩
theorem mq_md {σ τ : ST} (h : mq σ τ) : off mdP σ τ := h.1.mono (fun a ha => by unfold msP at ha; unfold mdP; omega)
theorem mr_s {σ τ : ST} {A : SA} (h : MR σ A) (hs : mq σ τ) : MR τ A := by
  obtain ⟨ho, h13, h26⟩ := hs
  have q : ∀ a, a = 113 ∨ a = 114 ∨ (122 ≤ a ∧ a ≤ 125) ∨ a = 127 → ¬ msP a := fun a ha hb => by unfold msP at hb; omega
  unfold MR
  rw [(ho 113 (q _ (by omega))).1, (ho 114 (q _ (by omega))).1, (ho 122 (q _ (by omega))).1, (ho 123 (q _ (by omega))).1, (ho 124 (q _ (by omega))).1, (ho 125 (q _ (by omega))).2, (ho 127 (q _ (by omega))).1, h13, h26]
  exact h
theorem mq_ui {σ τ : ST} {k j : Nat} {v : Int32} (h : mq σ τ) (hk : (115 ≤ k ∧ k ≤ 121) ∨ k = 126 ∨ k = 128 ∨ (k = 112 ∧ j ≠ 13 ∧ j ≠ 26)) : mq σ (ui τ k j v) := by
  refine ⟨h.1.ui (by unfold msP; omega), ?_, ?_⟩
  · rw [ui_at, if_neg (by omega)]; exact h.2.1
  · rw [ui_at, if_neg (by omega)]; exact h.2.2
/-- the fair of the reference changes -/
theorem mr_row {σ : ST} {A : SA} {F : FA} {f : Nat → Int32} (h : MR σ A) (hF : FM f F) {τ : ST} (ho : off (fun a => a = 113) σ τ) (hf : τ.1 113 = f) : MR τ (A.1, F, A.2.2) ∧ off mdP σ τ := by
  refine ⟨?_, ho.mono (fun a ha => by rw [show a = 113 from ha]; unfold mdP; omega)⟩
  obtain ⟨-, h2, h3, h4, h5⟩ := h
  unfold MR
  rw [hf, (ho 112 (by omega)).1, (ho 114 (by omega)).1, (ho 122 (by omega)).1, (ho 123 (by omega)).1, (ho 124 (by omega)).1, (ho 125 (by omega)).2, (ho 127 (by omega)).1]
  exact ⟨hF, h2, h3, h4, h5⟩
set_option maxRecDepth 100000 in
theorem c_X12_in {l : Launch} {X : CX} {σ : ST} {v a b : Int32} : MJ l X 0 yX12_in cX12_in 3 (some .boolean) [.int v, .int a, .int b] σ (eqI (if a.toInt ≤ v.toInt ∧ v.toInt ≤ b.toInt then 1 else 0) σ) := by
  refine MJ_of (own := RX12) [some (.int v), some (.int a), some (.int b)] (by decide) rfl (Nat.le_of_ble_eq_true rfl) rfl ?_
  refine rj_ild0 dX12_in_0 rfl ?_
  refine rj_ild1 dX12_in_1 rfl ?_
  refine rj_ic_lt (tgt := 14) dX12_in_2 (by decide) (fun h_2 => ?_) (fun h_2 => ?_)
  · refine rj_ic0 dX12_in_14 ?_
    refine rj_zret dX12_in_15 (rfl) ?_
    first | (refine ⟨?_, rfl⟩; rw [if_pos (by omega)]; done) | (refine ⟨?_, rfl⟩; rw [if_neg (by omega)]; done) | (exfalso; omega)
  · refine rj_ild0 dX12_in_5 rfl ?_
    refine rj_ild2 dX12_in_6 rfl ?_
    refine rj_ic_gt (tgt := 14) dX12_in_7 (by decide) (fun h_7 => ?_) (fun h_7 => ?_)
    · refine rj_ic0 dX12_in_14 ?_
      refine rj_zret dX12_in_15 (rfl) ?_
      first | (refine ⟨?_, rfl⟩; rw [if_pos (by omega)]; done) | (refine ⟨?_, rfl⟩; rw [if_neg (by omega)]; done) | (exfalso; omega)
    · refine rj_ic1 dX12_in_10 ?_
      refine rj_goto (tgt := 15) dX12_in_11 (by decide) ?_
      refine rj_zret dX12_in_15 (rfl) ?_
      first | (refine ⟨?_, rfl⟩; rw [if_pos (by omega)]; done) | (refine ⟨?_, rfl⟩; rw [if_neg (by omega)]; done) | (exfalso; omega)

set_option maxRecDepth 100000 in
theorem c_X12_at {l : Launch} {X : CX} {σ : ST} {a b : Int32} : MJ l X 0 yX12_at cX12_at 2 (some .int) [.int a, .int b] σ (eqI (3 + 14 * a + b) σ) := by
  refine MJ_of (own := RX12) [some (.int a), some (.int b)] (by decide) rfl (Nat.le_of_ble_eq_true rfl) rfl ?_
  refine rj_ic3 dX12_at_0 ?_
  refine rj_bipush (v := 14) dX12_at_1 (by decide) ?_
  refine rj_ild0 dX12_at_3 rfl ?_
  refine rj_imul dX12_at_4 ?_
  refine rj_iadd dX12_at_5 ?_
  refine rj_ild1 dX12_at_6 rfl ?_
  refine rj_iadd dX12_at_7 ?_
  refine rj_iret dX12_at_8 ?_
  exact ⟨rfl, rfl⟩

set_option maxRecDepth 100000 in
theorem c_X12_apartOf {l : Launch} {X : CX} {σ : ST} {a : Int32} : MJ l X 0 yX12_apartOf cX12_apartOf 1 (some .int) [.int a] σ (eqI (iab a) σ) := by
  refine MJ_of (own := RX12) [some (.int a)] (by decide) rfl (Nat.le_of_ble_eq_true rfl) rfl ?_
  refine rj_ild0 dX12_apartOf_0 rfl ?_
  refine rj_if_ge (tgt := 9) dX12_apartOf_1 (by decide) (fun h_1 => ?_) (fun h_1 => ?_)
  · refine rj_ild0 dX12_apartOf_9 rfl ?_
    refine rj_iret dX12_apartOf_10 ?_
    refine ⟨?_, rfl⟩
    unfold iab
    rw [if_pos (Int32.le_iff_toInt_le.mpr (by rw [t0]; exact h_1))]
  · refine rj_ild0 dX12_apartOf_4 rfl ?_
    refine rj_ineg dX12_apartOf_5 ?_
    refine rj_goto (tgt := 10) dX12_apartOf_6 (by decide) ?_
    refine rj_iret dX12_apartOf_10 ?_
    refine ⟨?_, rfl⟩
    unfold iab
    rw [if_neg (fun z => by have := tle z; rw [t0] at this; omega), Int32.zero_sub]

set_option maxRecDepth 100000 in
theorem c_X12_isKind {l : Launch} {X : CX} {σ : ST} {a : Int32} : MJ l X 1 yX12_isKind cX12_isKind 1 (some .boolean) [.int a] σ (eqI (if 0 ≤ a.toInt ∧ a.toInt < 6 then 1 else 0) σ) := by
  refine MJ_of (own := RX12) [some (.int a)] (by decide) rfl (Nat.le_of_ble_eq_true rfl) rfl ?_
  refine rj_ild0 dX12_isKind_0 rfl ?_
  refine rj_ic0 dX12_isKind_1 ?_
  refine rj_ic5 dX12_isKind_2 ?_
  refine rj_S3i cX12_60 dX12_isKind_3 c_X12_in (fitM (by decide) (by decide)) (Nat.le_of_ble_eq_true rfl) ?_
  refine rj_zret dX12_isKind_6 (by split <;> rfl) ?_
  refine ⟨?_, rfl⟩
  have e0 : (0 : Int32).toInt = 0 := by decide
  have e5 : (5 : Int32).toInt = 5 := by decide
  congr 2
  by_cases h : 0 ≤ a.toInt ∧ a.toInt < 6
  · rw [if_pos h, if_pos (by omega)]
  · rw [if_neg h, if_neg (by omega)]

theorem at_n {t b : Nat} (h : t ≤ 8) (hb : b ≤ 14) : (3 + 14 * nI t + nI b).toInt = 3 + 14 * t + b := by
  have e : (3 : Int32) + 14 * nI t + nI b = nI (3 + 14 * t + b) := by
    rw [show (3 : Int32) = nI 3 from rfl, show (14 : Int32) = nI 14 from rfl, pk_mul, nI_add, nI_add]
  rw [e, nI_t (by omega)]
  omega
set_option maxRecDepth 100000 in
theorem c_X12_finds {l : Launch} {X : CX} {σ : ST} {i : Nat} {A : SA} {x : Int32} (hM : MR σ A) (hi : i < 7) (hx : x = fc i) : MJ l X 0 yX12_finds cX12_finds 2 (some .int) [.ref (ad X 112), .int x] σ (OM σ (fnd A i)) := by
  refine MJ_of (own := RX12) [some (.ref (ad X 112)), some (.int x)] (by decide) rfl (Nat.le_of_ble_eq_true rfl) rfl ?_
  subst hx
  have hw := fc_w i hi
  refine rj_ald0 dX12_finds_0 rfl ?_
  refine g12_13 dX12_finds_1 ?_
  refine rj_ldc kX12_59 dX12_finds_4 ?_
  refine rj_ild1 dX12_finds_6 rfl ?_
  refine rj_isub dX12_finds_7 ?_
  refine rj_dup2 dX12_finds_8 rfl rfl ?_
  refine rj_iald (by first | assumption | rfl) (vpi (by omega) (by show _ < ((7 : Nat) : Int); omega)) dX12_finds_9 ?_
  refine rj_ic1 dX12_finds_10 ?_
  refine rj_iadd dX12_finds_11 ?_
  refine rj_iast (by first | assumption | rfl) (vpi (by omega) (by show _ < ((7 : Nat) : Int); omega)) dX12_finds_12 ?_
  refine rj_ild1 dX12_finds_13 rfl ?_
  refine rj_iret dX12_finds_14 ?_
  rw [hw.2]
  have ho : off (fun a => a = 114) σ (ui σ 114 i (σ.1 114 i + 1)) := off.rf.ui rfl
  obtain ⟨h1, h2, h3, h4, h5⟩ := hM
  refine ⟨rfl, ?_, ho.mono (fun a ha => by rw [show a = 114 from ha]; unfold mdP; omega)⟩
  unfold MR
  rw [(ho 112 (by omega)).1, (ho 113 (by omega)).1, (ho 122 (by omega)).1, (ho 123 (by omega)).1, (ho 124 (by omega)).1, (ho 125 (by omega)).2, (ho 127 (by omega)).1]
  refine ⟨h1, fun j hj => ?_, h3, h4, h5⟩
  rw [ui_at, h2 i hi]
  show _ = upd A.1 i (A.1 i + 1) j
  unfold upd
  by_cases e : j = i
  · rw [if_pos ⟨rfl, e⟩, if_pos e]
  · rw [if_neg (fun z => e z.2), if_neg e]; exact h2 j hj

set_option maxRecDepth 100000 in
theorem c_X12_isTie {l : Launch} {X : CX} {σ : ST} {A : SA} (hM : MR σ A) {t : Int32} : MJ l X 1 yX12_isTie cX12_isTie 2 (some .boolean) [.ref (ad X 112), .int t] σ (eqI (if 0 ≤ t.toInt ∧ t.toInt < A.2.1.2.2.length then 1 else 0) σ) := by
  refine MJ_of (own := RX12) [some (.ref (ad X 112)), some (.int t)] (by decide) rfl (Nat.le_of_ble_eq_true rfl) rfl ?_
  have h1 := hM.1.2.1
  have h8 := hM.1.2.2.2.1
  refine rj_ild1 dX12_isTie_0 rfl ?_
  refine rj_ic0 dX12_isTie_1 ?_
  refine rj_ald0 dX12_isTie_2 rfl ?_
  refine g12_7 dX12_isTie_3 ?_
  refine rj_ic1 dX12_isTie_6 ?_
  refine rj_iald (by first | assumption | rfl) (vpi (by decide) (by decide)) dX12_isTie_7 ?_
  rw [show (1 : Int32).toNatClampNeg = 1 from rfl, h1]
  refine rj_ic1 dX12_isTie_8 ?_
  refine rj_isub dX12_isTie_9 ?_
  refine rj_S3i cX12_60 dX12_isTie_10 c_X12_in (fitM (by decide) (by decide)) (Nat.le_of_ble_eq_true rfl) ?_
  refine rj_zret dX12_isTie_13 (by split <;> rfl) ?_
  refine ⟨?_, rfl⟩
  have hs : (nI A.2.1.2.2.length - 1).toInt = A.2.1.2.2.length - 1 := by rw [i_sub (by rw [nI_t (by omega), t1]; omega) (by rw [nI_t (by omega), t1]; omega), nI_t (by omega), t1]
  congr 2
  by_cases h : 0 ≤ t.toInt ∧ t.toInt < A.2.1.2.2.length
  · rw [if_pos h, if_pos (by rw [t0, hs]; omega)]
  · rw [if_neg h, if_neg (by rw [t0, hs]; omega)]

set_option maxRecDepth 100000 in
theorem c_X12_kindOf {l : Launch} {X : CX} {σ : ST} {A : SA} (hM : MR σ A) {t : Int32} {j : Nat} (ht : t.toInt = j) (hj : j < A.2.1.2.2.length) : MJ l X 1 yX12_kindOf cX12_kindOf 2 (some .int) [.ref (ad X 112), .int t] σ (eqI (fT A j).1 σ) := by
  refine MJ_of (own := RX12) [some (.ref (ad X 112)), some (.int t)] (by decide) rfl (Nat.le_of_ble_eq_true rfl) rfl ?_
  have h8 := hM.1.2.2.2.1
  obtain ⟨f1, f2, f3, f4⟩ := hM.1.2.2.2.2 j hj
  have htn : t = nI j := nI_of_toInt ht
  have hq0 := at_n (t := j) (b := 0) (by omega) (by omega)
  have hq1 := at_n (t := j) (b := 1) (by omega) (by omega)
  rw [← htn] at hq0 hq1
  rw [show nI 0 = 0 from rfl] at hq0
  rw [show nI 1 = 1 from rfl] at hq1
  refine rj_ald0 dX12_kindOf_0 rfl ?_
  refine g12_7 dX12_kindOf_1 ?_
  refine rj_ild1 dX12_kindOf_4 rfl ?_
  refine rj_ic0 dX12_kindOf_5 ?_
  refine rj_S2i cX12_64 dX12_kindOf_6 c_X12_at (fitM (by decide) (by decide)) (Nat.le_of_ble_eq_true rfl) ?_
  refine rj_iald (by first | assumption | rfl) (vpi (by omega) (by show _ < ((115 : Nat) : Int); omega)) dX12_kindOf_9 ?_
  refine rj_iret dX12_kindOf_10 ?_
  refine ⟨?_, rfl⟩
  rw [cl_i, hq0, show ((3 : Int) + 14 * (j : Int) + ((0 : Nat) : Int)).toNat = 3 + 14 * j by omega, f1]

set_option maxRecDepth 100000 in
theorem c_X12_sizeOfRow {l : Launch} {X : CX} {σ : ST} {A : SA} (hM : MR σ A) {t : Int32} {j : Nat} (ht : t.toInt = j) (hj : j < A.2.1.2.2.length) : MJ l X 1 yX12_sizeOfRow cX12_sizeOfRow 2 (some .int) [.ref (ad X 112), .int t] σ (eqI (nI (fT A j).2.length) σ) := by
  refine MJ_of (own := RX12) [some (.ref (ad X 112)), some (.int t)] (by decide) rfl (Nat.le_of_ble_eq_true rfl) rfl ?_
  have h8 := hM.1.2.2.2.1
  obtain ⟨f1, f2, f3, f4⟩ := hM.1.2.2.2.2 j hj
  have htn : t = nI j := nI_of_toInt ht
  have hq0 := at_n (t := j) (b := 0) (by omega) (by omega)
  have hq1 := at_n (t := j) (b := 1) (by omega) (by omega)
  rw [← htn] at hq0 hq1
  rw [show nI 0 = 0 from rfl] at hq0
  rw [show nI 1 = 1 from rfl] at hq1
  refine rj_ald0 dX12_sizeOfRow_0 rfl ?_
  refine g12_7 dX12_sizeOfRow_1 ?_
  refine rj_ild1 dX12_sizeOfRow_4 rfl ?_
  refine rj_ic1 dX12_sizeOfRow_5 ?_
  refine rj_S2i cX12_64 dX12_sizeOfRow_6 c_X12_at (fitM (by decide) (by decide)) (Nat.le_of_ble_eq_true rfl) ?_
  refine rj_iald (by first | assumption | rfl) (vpi (by omega) (by show _ < ((115 : Nat) : Int); omega)) dX12_sizeOfRow_9 ?_
  refine rj_iret dX12_sizeOfRow_10 ?_
  refine ⟨?_, rfl⟩
  rw [cl_i, hq1, show ((3 : Int) + 14 * (j : Int) + ((1 : Nat) : Int)).toNat = 4 + 14 * j by omega, f2]

set_option maxRecDepth 100000 in
theorem c_X12_crossing {l : Launch} {X : CX} {σ : ST} {A : SA} (hM : MR σ A) {t : Int32} {j : Nat} (ht : t.toInt = j) (hj : j < A.2.1.2.2.length) {i : Nat} (hi : i < (fT A j).2.length) : MJ l X 1 yX12_crossing cX12_crossing 3 (some .int) [.ref (ad X 112), .int t, .int (nI i)] σ (eqI ((fT A j).2.getD i 0) σ) := by
  refine MJ_of (own := RX12) [some (.ref (ad X 112)), some (.int t), some (.int (nI i))] (by decide) rfl (Nat.le_of_ble_eq_true rfl) rfl ?_
  have h8 := hM.1.2.2.2.1
  obtain ⟨f1, f2, f3, f4⟩ := hM.1.2.2.2.2 j hj
  have htn : t = nI j := nI_of_toInt ht
  have hq0 := at_n (t := j) (b := 0) (by omega) (by omega)
  have hq1 := at_n (t := j) (b := 1) (by omega) (by omega)
  rw [← htn] at hq0 hq1
  rw [show nI 0 = 0 from rfl] at hq0
  rw [show nI 1 = 1 from rfl] at hq1
  have f5 : (fT A j).2.length ≤ 12 := f3
  have hq2 := at_n (t := j) (b := 2 + i) (by omega) (by omega)
  rw [← htn] at hq2
  have e2 : (2 : Int32) + nI i = nI (2 + i) := by rw [show (2 : Int32) = nI 2 from rfl, nI_add]
  refine rj_ald0 dX12_crossing_0 rfl ?_
  refine g12_7 dX12_crossing_1 ?_
  refine rj_ild1 dX12_crossing_4 rfl ?_
  refine rj_ic2 dX12_crossing_5 ?_
  refine rj_ild2 dX12_crossing_6 rfl ?_
  refine rj_iadd dX12_crossing_7 ?_
  rw [e2]
  refine rj_S2i cX12_64 dX12_crossing_8 c_X12_at (fitM (by decide) (by decide)) (Nat.le_of_ble_eq_true rfl) ?_
  refine rj_iald (by first | assumption | rfl) (vpi (by omega) (by show _ < ((115 : Nat) : Int); omega)) dX12_crossing_11 ?_
  refine rj_iret dX12_crossing_12 ?_
  refine ⟨?_, rfl⟩
  rw [cl_i, hq2, show ((3 : Int) + 14 * (j : Int) + ((2 + i : Nat) : Int)).toNat = 5 + 14 * j + i by omega, f4 i hi]

