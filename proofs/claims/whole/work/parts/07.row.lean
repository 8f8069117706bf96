/-! rows of crossings -/
theorem bz_t {p : Prop} {i : Decidable p} (h : (@ite Int32 p i 1 0) = 0) : ¬ p := fun q => by rw [if_pos q] at h; exact absurd h (by decide)
theorem bz_f {p : Prop} {i : Decidable p} (h : ¬ (@ite Int32 p i 1 0) = 0) : p := by
  by_cases q : p
  · exact q
  · rw [if_neg q] at h; exact absurd rfl h
theorem row_all : ∀ k, k < 129 → kd k = 2 → (kd (k + 1) = 13 ∧ ln (k + 1) ≤ 24 ∧ 12 ≤ ln (k + 1)) := by decide +kernel
theorem row_next {k : Nat} (h : kd k = 2) : kd (k + 1) = 13 ∧ ln (k + 1) ≤ 24 ∧ 12 ≤ ln (k + 1) := row_all k (kd_lt (by omega)) h
/-- cell k is a row that holds xs -/
def Rw (σ : ST) (k : Nat) (xs : List Int32) : Prop := (σ.1 k 1).toInt = xs.length ∧ xs.length ≤ ln (k + 1) ∧ ∀ i, i < xs.length → σ.1 (k + 1) i = xs.getD i 0
def rowC (k : Nat) : Nat → Prop := fun a => a = k ∨ a = k + 1
theorem Rw.off {P : Nat → Prop} {σ τ : ST} {k : Nat} {xs : List Int32} (h : Rw σ k xs) (ho : off P σ τ) (h1 : ¬ P k) (h2 : ¬ P (k + 1)) : Rw τ k xs := by
  obtain ⟨a, b, c⟩ := h
  exact ⟨by rw [(ho k h1).1]; exact a, b, fun i hi => by rw [(ho _ h2).1]; exact c i hi⟩
theorem i_min {x z : Int32} {a b : Nat} (hx : x.toInt = a) (hz : z.toInt = b) : (if z < x then z else x) = nI (min a b) := by
  apply nI_of_toInt
  by_cases h : z < x
  · rw [if_pos h]; have := tlt h; omega
  · rw [if_neg h]; have := tnlt h; omega
theorem i_max0 {x : Int32} : (if (0 : Int32) < x then x else 0) = nI x.toInt.toNat := by
  apply nI_of_toInt
  by_cases h : (0 : Int32) < x
  · rw [if_pos h]; have := tlt h; rw [t0] at this; omega
  · rw [if_neg h]; have := tnlt h; rw [t0] at this ⊢; omega
set_option maxRecDepth 100000 in
theorem c_X2_has {l : Launch} {X : CX} {σ : ST} {k n : Nat} (hk : kd k = 2) (hs : (σ.1 k 1).toInt = n) (hn : n ≤ ln (k + 1)) {i : Int32} : MJ l X 0 yX2_has cX2_has 2 (some .boolean) [.ref (ad X k), .int i] σ (eqI (if 0 ≤ i.toInt ∧ i.toInt < n then 1 else 0) σ) := by
  refine MJ_of (own := RX2) [some (.ref (ad X k)), some (.int i)] (by decide) rfl (Nat.le_of_ble_eq_true rfl) rfl ?_
  have ha := (row_next hk).1
  have hln := (row_next hk).2.1
  have hcap : (nI (ln (k + 1))).toInt = ln (k + 1) := nI_t (by omega)
  refine rj_ild1 dX2_has_0 rfl ?_
  refine rj_if_lt (tgt := 25) dX2_has_1 (by decide) (fun h_1 => ?_) (fun h_1 => ?_)
  · refine rj_ic0 dX2_has_25 ?_
    refine rj_zret dX2_has_26 (rfl) ?_
    first | (refine ⟨?_, rfl⟩; rw [if_pos (by omega)]; done) | (refine ⟨?_, rfl⟩; rw [if_neg (by omega)]; done) | (exfalso; omega)
  · refine rj_ild1 dX2_has_4 rfl ?_
    refine rj_ald0 dX2_has_5 rfl ?_
    refine g2_7 (by first | assumption | rfl) dX2_has_6 ?_
    refine rj_ic_ge (tgt := 25) dX2_has_9 (by decide) (fun h_9 => ?_) (fun h_9 => ?_)
    · refine rj_ic0 dX2_has_25 ?_
      refine rj_zret dX2_has_26 (rfl) ?_
      first | (refine ⟨?_, rfl⟩; rw [if_pos (by omega)]; done) | (refine ⟨?_, rfl⟩; rw [if_neg (by omega)]; done) | (exfalso; omega)
    · refine rj_ild1 dX2_has_12 rfl ?_
      refine rj_ald0 dX2_has_13 rfl ?_
      refine g2_19 (by first | assumption | rfl) dX2_has_14 ?_
      refine rj_alen (by first | assumption | rfl) dX2_has_17 ?_
      refine rj_ic_ge (tgt := 25) dX2_has_18 (by decide) (fun h_18 => ?_) (fun h_18 => ?_)
      · refine rj_ic0 dX2_has_25 ?_
        refine rj_zret dX2_has_26 (rfl) ?_
        first | (refine ⟨?_, rfl⟩; rw [if_pos (by omega)]; done) | (refine ⟨?_, rfl⟩; rw [if_neg (by omega)]; done) | (exfalso; omega)
      · refine rj_ic1 dX2_has_21 ?_
        refine rj_goto (tgt := 26) dX2_has_22 (by decide) ?_
        refine rj_zret dX2_has_26 (rfl) ?_
        first | (refine ⟨?_, rfl⟩; rw [if_pos (by omega)]; done) | (refine ⟨?_, rfl⟩; rw [if_neg (by omega)]; done) | (exfalso; omega)

set_option maxRecDepth 100000 in
theorem c_X2_at {l : Launch} {X : CX} {σ : ST} {k n : Nat} (hk : kd k = 2) (hs : (σ.1 k 1).toInt = n) (hn : n ≤ ln (k + 1)) {i : Int32} : MJ l X 1 yX2_at cX2_at 2 (some .int) [.ref (ad X k), .int i] σ (eqI (if 0 ≤ i.toInt ∧ i.toInt < n then σ.1 (k + 1) i.toNatClampNeg else 0) σ) := by
  refine MJ_of (own := RX2) [some (.ref (ad X k)), some (.int i)] (by decide) rfl (Nat.le_of_ble_eq_true rfl) rfl ?_
  have ha := (row_next hk).1
  have hln := (row_next hk).2.1
  have hcap : (nI (ln (k + 1))).toInt = ln (k + 1) := nI_t (by omega)
  refine rj_ald0 dX2_at_0 rfl ?_
  refine rj_ild1 dX2_at_1 rfl ?_
  refine rj_V1i (ci := 2) cX2_23 rfl (by decide) (by first | assumption | rfl) dX2_at_2 (c_X2_has hk hs hn) (fitM (by decide) (by decide)) (Nat.le_of_ble_eq_true rfl) ?_
  refine rj_if_eq (tgt := 17) dX2_at_5 (by decide) (fun h_5 => ?_) (fun h_5 => ?_)
  · have hb_5 := bz_t h_5
    refine rj_ic0 dX2_at_17 ?_
    refine rj_iret dX2_at_18 ?_
    first | (refine ⟨?_, rfl⟩; rw [if_pos (by omega)]; done) | (refine ⟨?_, rfl⟩; rw [if_neg (by omega)]; done) | (exfalso; omega)
  · have hb_5 := bz_f h_5
    refine rj_ald0 dX2_at_8 rfl ?_
    refine g2_19 (by first | assumption | rfl) dX2_at_9 ?_
    refine rj_ild1 dX2_at_12 rfl ?_
    refine rj_iald (by first | assumption | rfl) (vp_in_iff.mpr ⟨by omega, by omega⟩) dX2_at_13 ?_
    refine rj_goto (tgt := 18) dX2_at_14 (by decide) ?_
    refine rj_iret dX2_at_18 ?_
    first | (refine ⟨?_, rfl⟩; rw [if_pos (by omega)]; done) | (refine ⟨?_, rfl⟩; rw [if_neg (by omega)]; done) | (exfalso; omega)

set_option maxRecDepth 100000 in
theorem c_X2_put {l : Launch} {X : CX} {σ : ST} {k n : Nat} (hk : kd k = 2) (hs : (σ.1 k 1).toInt = n) (hn : n ≤ ln (k + 1)) {i x : Int32} : MJ l X 1 yX2_put cX2_put 3 none [.ref (ad X k), .int i, .int x] σ (eqV (if 0 ≤ i.toInt ∧ i.toInt < n then ui σ (k + 1) i.toNatClampNeg x else σ)) := by
  refine MJ_of (own := RX2) [some (.ref (ad X k)), some (.int i), some (.int x)] (by decide) rfl (Nat.le_of_ble_eq_true rfl) rfl ?_
  have ha := (row_next hk).1
  have hln := (row_next hk).2.1
  have hcap : (nI (ln (k + 1))).toInt = ln (k + 1) := nI_t (by omega)
  refine rj_ald0 dX2_put_0 rfl ?_
  refine rj_ild1 dX2_put_1 rfl ?_
  refine rj_V1i (ci := 2) cX2_23 rfl (by decide) (by first | assumption | rfl) dX2_put_2 (c_X2_has hk hs hn) (fitM (by decide) (by decide)) (Nat.le_of_ble_eq_true rfl) ?_
  refine rj_if_eq (tgt := 15) dX2_put_5 (by decide) (fun h_5 => ?_) (fun h_5 => ?_)
  · have hb_5 := bz_t h_5
    refine rj_vret dX2_put_15 ?_
    first | (refine ⟨rfl, ?_⟩; rw [if_pos (by omega)]; done) | (refine ⟨rfl, ?_⟩; rw [if_neg (by omega)]; done) | (exfalso; omega)
  · have hb_5 := bz_f h_5
    refine rj_ald0 dX2_put_8 rfl ?_
    refine g2_19 (by first | assumption | rfl) dX2_put_9 ?_
    refine rj_ild1 dX2_put_12 rfl ?_
    refine rj_ild2 dX2_put_13 rfl ?_
    refine rj_iast (by first | assumption | rfl) (vp_in_iff.mpr ⟨by omega, by omega⟩) dX2_put_14 ?_
    refine rj_vret dX2_put_15 ?_
    first | (refine ⟨rfl, ?_⟩; rw [if_pos (by omega)]; done) | (refine ⟨rfl, ?_⟩; rw [if_neg (by omega)]; done) | (exfalso; omega)

set_option maxRecDepth 100000 in
theorem c_X2_hasRoom {l : Launch} {X : CX} {σ : ST} {k n : Nat} (hk : kd k = 2) (hs : (σ.1 k 1).toInt = n) (hn : n ≤ ln (k + 1)) : MJ l X 0 yX2_hasRoom cX2_hasRoom 1 (some .boolean) [.ref (ad X k)] σ (eqI (if n < ln (k + 1) then 1 else 0) σ) := by
  refine MJ_of (own := RX2) [some (.ref (ad X k))] (by decide) rfl (Nat.le_of_ble_eq_true rfl) rfl ?_
  have ha := (row_next hk).1
  have hln := (row_next hk).2.1
  have hcap : (nI (ln (k + 1))).toInt = ln (k + 1) := nI_t (by omega)
  refine rj_ald0 dX2_hasRoom_0 rfl ?_
  refine g2_7 (by first | assumption | rfl) dX2_hasRoom_1 ?_
  refine rj_ald0 dX2_hasRoom_4 rfl ?_
  refine g2_19 (by first | assumption | rfl) dX2_hasRoom_5 ?_
  refine rj_alen (by first | assumption | rfl) dX2_hasRoom_8 ?_
  refine rj_ic_ge (tgt := 16) dX2_hasRoom_9 (by decide) (fun h_9 => ?_) (fun h_9 => ?_)
  · refine rj_ic0 dX2_hasRoom_16 ?_
    refine rj_zret dX2_hasRoom_17 (rfl) ?_
    first | (refine ⟨?_, rfl⟩; rw [if_pos (by omega)]; done) | (refine ⟨?_, rfl⟩; rw [if_neg (by omega)]; done) | (exfalso; omega)
  · refine rj_ic1 dX2_hasRoom_12 ?_
    refine rj_goto (tgt := 17) dX2_hasRoom_13 (by decide) ?_
    refine rj_zret dX2_hasRoom_17 (rfl) ?_
    first | (refine ⟨?_, rfl⟩; rw [if_pos (by omega)]; done) | (refine ⟨?_, rfl⟩; rw [if_neg (by omega)]; done) | (exfalso; omega)

set_option maxRecDepth 100000 in
theorem c_X2_append {l : Launch} {X : CX} {σ : ST} {k n : Nat} (hk : kd k = 2) (hs : (σ.1 k 1).toInt = n) (hn : n ≤ ln (k + 1)) {x : Int32} : MJ l X 0 yX2_append cX2_append 2 none [.ref (ad X k), .int x] σ (eqV (if n < ln (k + 1) then ui (ui σ (k + 1) n x) k 1 (nI (n + 1)) else σ)) := by
  refine MJ_of (own := RX2) [some (.ref (ad X k)), some (.int x)] (by decide) rfl (Nat.le_of_ble_eq_true rfl) rfl ?_
  have ha := (row_next hk).1
  have hln := (row_next hk).2.1
  have hcap : (nI (ln (k + 1))).toInt = ln (k + 1) := nI_t (by omega)
  refine rj_ald0 dX2_append_0 rfl ?_
  refine g2_7 (by first | assumption | rfl) dX2_append_1 ?_
  refine rj_if_lt (tgt := 39) dX2_append_4 (by decide) (fun h_4 => ?_) (fun h_4 => ?_)
  · refine rj_vret dX2_append_39 ?_
    exact ⟨rfl, by rw [if_neg (by omega)]⟩
  · refine rj_ald0 dX2_append_7 rfl ?_
    refine g2_7 (by first | assumption | rfl) dX2_append_8 ?_
    refine rj_ald0 dX2_append_11 rfl ?_
    refine g2_19 (by first | assumption | rfl) dX2_append_12 ?_
    refine rj_alen (by first | assumption | rfl) dX2_append_15 ?_
    refine rj_ic_ge (tgt := 39) dX2_append_16 (by decide) (fun h_16 => ?_) (fun h_16 => ?_)
    · refine rj_vret dX2_append_39 ?_
      exact ⟨rfl, by rw [if_neg (by omega)]⟩
    · refine rj_ald0 dX2_append_19 rfl ?_
      refine g2_19 (by first | assumption | rfl) dX2_append_20 ?_
      refine rj_ald0 dX2_append_23 rfl ?_
      refine g2_7 (by first | assumption | rfl) dX2_append_24 ?_
      refine rj_ild1 dX2_append_27 rfl ?_
      refine rj_iast (by first | assumption | rfl) (vp_in_iff.mpr ⟨by omega, by omega⟩) dX2_append_28 ?_
      refine rj_ald0 dX2_append_29 rfl ?_
      refine rj_dup dX2_append_30 rfl ?_
      refine g2_7 (by first | assumption | rfl) dX2_append_31 ?_
      refine rj_ic1 dX2_append_34 ?_
      refine rj_iadd dX2_append_35 ?_
      refine p2_7 (by first | assumption | rfl) dX2_append_36 ?_
      refine rj_vret dX2_append_39 ?_
      refine ⟨rfl, ?_⟩
      rw [if_pos (by omega), ui_ne (by omega), cl_i, hs, Int.toNat_natCast, nI_of_toInt hs, nI_1]

set_option maxRecDepth 100000 in
theorem c_X2_cutTo {l : Launch} {X : CX} {σ : ST} {k n : Nat} (hk : kd k = 2) (hs : (σ.1 k 1).toInt = n) (hn : n ≤ ln (k + 1)) {i : Int32} : MJ l X 1 yX2_cutTo cX2_cutTo 2 none [.ref (ad X k), .int i] σ (eqV (ui σ k 1 (nI (min i.toInt.toNat n)))) := by
  refine MJ_of (own := RX2) [some (.ref (ad X k)), some (.int i)] (by decide) rfl (Nat.le_of_ble_eq_true rfl) rfl ?_
  have ha := (row_next hk).1
  have hln := (row_next hk).2.1
  have hcap : (nI (ln (k + 1))).toInt = ln (k + 1) := nI_t (by omega)
  refine rj_ald0 dX2_cutTo_0 rfl ?_
  refine rj_ic0 dX2_cutTo_1 ?_
  refine rj_ild1 dX2_cutTo_2 rfl ?_
  refine rj_ald0 dX2_cutTo_3 rfl ?_
  refine g2_7 (by first | assumption | rfl) dX2_cutTo_4 ?_
  refine rj_min cX2_27 (fitNM (by decide) (Nat.le_of_ble_eq_true rfl)) dX2_cutTo_7 ?_
  refine rj_max cX2_13 (fitNM (by decide) (Nat.le_of_ble_eq_true rfl)) dX2_cutTo_10 ?_
  refine p2_7 (by first | assumption | rfl) dX2_cutTo_13 ?_
  refine rj_vret dX2_cutTo_16 ?_
  refine ⟨rfl, ?_⟩
  rw [i_max0]
  congr 2
  by_cases h : σ.1 k 1 < i
  · rw [if_pos h]; have := tlt h; omega
  · rw [if_neg h]; have := tnlt h; omega

set_option maxRecDepth 100000 in
theorem c_X2_negate {l : Launch} {X : CX} {σ : ST} {k n : Nat} (hk : kd k = 2) (hs : (σ.1 k 1).toInt = n) (hn : n ≤ ln (k + 1)) {i : Int32} : MJ l X 2 yX2_negate cX2_negate 2 none [.ref (ad X k), .int i] σ (eqV (if 0 ≤ i.toInt ∧ i.toInt < n then ui σ (k + 1) i.toNatClampNeg (-(σ.1 (k + 1) i.toNatClampNeg)) else σ)) := by
  refine MJ_of (own := RX2) [some (.ref (ad X k)), some (.int i)] (by decide) rfl (Nat.le_of_ble_eq_true rfl) rfl ?_
  have ha := (row_next hk).1
  have hln := (row_next hk).2.1
  have hcap : (nI (ln (k + 1))).toInt = ln (k + 1) := nI_t (by omega)
  refine rj_ald0 dX2_negate_0 rfl ?_
  refine rj_ild1 dX2_negate_1 rfl ?_
  refine rj_ald0 dX2_negate_2 rfl ?_
  refine rj_ild1 dX2_negate_3 rfl ?_
  refine rj_V1i (ci := 2) cX2_30 rfl (by decide) (by first | assumption | rfl) dX2_negate_4 (c_X2_at hk hs hn) (fitM (by decide) (by decide)) (Nat.le_of_ble_eq_true rfl) ?_
  refine rj_ineg dX2_negate_7 ?_
  refine rj_V2v (ci := 2) cX2_34 rfl (by decide) (by first | assumption | rfl) dX2_negate_8 (c_X2_put hk hs hn) (fitM (by decide) (by decide)) (Nat.le_of_ble_eq_true rfl) ?_
  refine rj_vret dX2_negate_11 ?_
  refine ⟨rfl, ?_⟩
  by_cases h : 0 ≤ i.toInt ∧ i.toInt < n
  · rw [if_pos h, if_pos h, if_pos h]
  · rw [if_neg h, if_neg h]

/-! what is left of a row at a pull: the rope's own stack, its top first -/
def rp (s : List Int32) (c : Int32) : List Int32 := match s with
  | [] => [c]
  | t :: r => if t = -c then r else c :: t :: r
def redR (xs : List Int32) : List Int32 := xs.foldl rp []
def red (xs : List Int32) : List Int32 := (redR xs).reverse
theorem rp_len (s : List Int32) (c : Int32) : (rp s c).length ≤ s.length + 1 := by
  unfold rp; split
  · simp
  · split <;> simp <;> omega
theorem redR_snoc (xs : List Int32) (c : Int32) : redR (xs ++ [c]) = rp (redR xs) c := by simp [redR]
theorem redR_len : ∀ (xs : List Int32), (redR xs).length ≤ xs.length := by
  intro xs
  have : ∀ (n : Nat) (xs : List Int32), xs.length = n → (redR xs).length ≤ n := by
    intro n
    induction n with
    | zero => intro xs h; rw [List.length_eq_zero_iff.mp h]; simp [redR]
    | succ n ih =>
      intro xs h
      have hne : xs ≠ [] := fun q => by rw [q] at h; simp at h
      rw [← List.dropLast_concat_getLast hne, redR_snoc]
      have h1 := ih xs.dropLast (by simp [h])
      have h2 := rp_len (redR xs.dropLast) (xs.getLast hne)
      omega
  exact this _ xs rfl
theorem take_snoc {xs : List Int32} {i : Nat} (h : i < xs.length) : xs.take (i + 1) = xs.take i ++ [xs.getD i 0] := by
  rw [List.take_add_one, List.getElem?_eq_getElem h]
  simp [List.getD, List.getElem?_eq_getElem h]
theorem getD_rev_last {t : Int32} {r : List Int32} : ((t :: r).reverse).getD r.length 0 = t := by simp [List.getD]
theorem getD_snoc_lt {xs : List Int32} {c : Int32} {j : Nat} (h : j < xs.length) : (xs ++ [c]).getD j 0 = xs.getD j 0 := by simp [List.getD, List.getElem?_append_left h]
theorem getD_snoc_eq {xs : List Int32} {c : Int32} : (xs ++ [c]).getD xs.length 0 = c := by simp [List.getD]
/-- the pull under way: i crossings are looked at -/
def TI (σ τ : ST) (k : Nat) (xs : List Int32) (i : Nat) : Prop :=
  (τ.1 k 1).toInt = (redR (xs.take i)).length ∧ (∀ j, j < (redR (xs.take i)).length → τ.1 (k + 1) j = ((redR (xs.take i)).reverse).getD j 0) ∧ (∀ j, i ≤ j → τ.1 (k + 1) j = σ.1 (k + 1) j) ∧ off (rowC k) σ τ
theorem TI_pop {σ τ : ST} {k : Nat} {xs : List Int32} {i : Nat} {t : Int32} {r : List Int32} (h : TI σ τ k xs i) (hi : i < xs.length) (hS : redR (xs.take i) = t :: r) (ht : t = -(xs.getD i 0)) (hk : kd k = 2) : TI σ (ui τ k 1 (nI r.length)) k xs (i + 1) := by
  obtain ⟨h1, h2, h3, h4⟩ := h
  have e : redR (xs.take (i + 1)) = r := by rw [take_snoc hi, redR_snoc, hS]; simp [rp, ht]
  have hl := redR_len (xs.take i)
  rw [hS] at hl h2
  simp at hl
  have hne : k + 1 ≠ k := by omega
  refine ⟨?_, fun j hj => ?_, fun j hj => ?_, h4.ui (Or.inl rfl)⟩
  · rw [e, ui_same, nI_t (by have := i_hi (τ.1 k 1); rw [h1, hS] at this; simp at this; omega)]
  · rw [e] at hj ⊢
    rw [ui_ne hne, h2 j (by simp; omega), List.reverse_cons, getD_snoc_lt (by simpa using hj)]
  · rw [ui_ne hne, h3 j (by omega)]
theorem TI_push {σ τ : ST} {k : Nat} {xs : List Int32} {i : Nat} (h : TI σ τ k xs i) (hb : xs.length < 2147483648) (hi : i < xs.length) (hc : ∀ t r, redR (xs.take i) = t :: r → ¬ t = -(xs.getD i 0)) : TI σ (ui (ui τ (k + 1) (redR (xs.take i)).length (xs.getD i 0)) k 1 (nI ((redR (xs.take i)).length + 1))) k xs (i + 1) := by
  obtain ⟨h1, h2, h3, h4⟩ := h
  have e : redR (xs.take (i + 1)) = xs.getD i 0 :: redR (xs.take i) := by
    rw [take_snoc hi, redR_snoc]
    cases hS : redR (xs.take i) with
    | nil => rfl
    | cons t r => simp only [rp]; rw [if_neg (hc t r hS)]
  have hl := redR_len (xs.take i)
  have hlt : (xs.take i).length = i := by simp; omega
  rw [hlt] at hl
  have hne : k + 1 ≠ k := by omega
  have hbig := i_hi (τ.1 k 1)
  rw [h1] at hbig
  refine ⟨?_, fun j hj => ?_, fun j hj => ?_, (h4.ui (Or.inr rfl)).ui (Or.inl rfl)⟩
  · rw [e, ui_same]
    simp only [List.length_cons]
    have hsm : (redR (xs.take i)).length + 1 < 2147483648 := by
      rcases Nat.lt_or_ge ((redR (xs.take i)).length + 1) 2147483648 with q | q
      · exact q
      · exfalso; omega
    rw [nI_t hsm]
  · rw [e] at hj ⊢
    simp only [List.length_cons] at hj
    rw [ui_ne hne, ui_at, List.reverse_cons]
    by_cases hj2 : j = (redR (xs.take i)).length
    · subst hj2
      rw [if_pos ⟨rfl, rfl⟩]
      have := getD_snoc_eq (xs := (redR (xs.take i)).reverse) (c := xs.getD i 0)
      rw [List.length_reverse] at this
      exact this.symm
    · rw [if_neg (fun q => hj2 q.2), h2 j (by omega), getD_snoc_lt (by simp; omega)]
  · rw [ui_ne hne, ui_at, if_neg (fun q => by omega), h3 j (by omega)]
set_option maxRecDepth 100000 in
theorem l_X2_tighten {l : Launch} {X : CX} {h : Nat} {Q : Option Value → ST → Prop} {σ : ST} {k : Nat} {xs : List Int32} (hh : 2 ≤ h) (hk : kd k = 2) (hx : xs.length ≤ ln (k + 1)) (hx2 : ∀ i, i < xs.length → σ.1 (k + 1) i = xs.getD i 0) (hQ : ∀ τ, TI σ τ k xs xs.length → Q none τ) : ∀ (N i : Nat) (τ : ST) (a3 : Option Value), xs.length < i + N → i ≤ xs.length → TI σ τ k xs i → RJ (GM l X h Q) X cX2_tighten 4 none RX2 12 [some (.ref (ad X k)), some (.int (nI xs.length)), some (.int (nI i)), a3] [] τ := by
  intro N
  induction N with
  | zero => intro i τ a3 hN hi; exact absurd hN (by omega)
  | succ N ih =>
    intro i τ a3 hN hi hT
    have ha := (row_next hk).1
    have hln := (row_next hk).2.1
    have hcap : (nI (ln (k + 1))).toInt = ln (k + 1) := nI_t (by omega)
    obtain ⟨h1, h2, h3, h4⟩ := id hT
    have hl := redR_len (xs.take i)
    have hlt : (xs.take i).length = i := by simp; omega
    rw [hlt] at hl
    have hit : (nI i).toInt = i := nI_t (by omega)
    have hnt : (nI xs.length).toInt = xs.length := nI_t (by omega)
    refine rj_ild2 dX2_tighten_12 rfl ?_
    refine rj_ild1 dX2_tighten_13 rfl ?_
    refine rj_ic_ge (tgt := 79) dX2_tighten_14 (by decide) (fun h_14 => ?_) (fun h_14 => ?_)
    · have hie : i = xs.length := by omega
      subst hie
      refine rj_vret dX2_tighten_79 ?_
      exact hQ _ hT
    · refine rj_ild2 dX2_tighten_17 rfl ?_
      refine rj_ald0 dX2_tighten_18 rfl ?_
      refine g2_19 (by first | assumption | rfl) dX2_tighten_19 ?_
      refine rj_alen (by first | assumption | rfl) dX2_tighten_22 ?_
      refine rj_ic_ge (tgt := 79) dX2_tighten_23 (by decide) (fun h_23 => ?_) (fun h_23 => ?_)
      · exfalso; omega
      · have hiv : τ.1 (k + 1) (nI i).toNatClampNeg = xs.getD i 0 := by rw [nI_clamp (by omega), h3 i (Nat.le_refl i), hx2 i (by omega)]
        refine rj_ald0 dX2_tighten_26 rfl ?_
        refine g2_19 (by first | assumption | rfl) dX2_tighten_27 ?_
        refine rj_ild2 dX2_tighten_30 rfl ?_
        refine rj_iald (by first | assumption | rfl) (vp_in_iff.mpr ⟨by omega, by omega⟩) dX2_tighten_31 ?_
        rw [hiv]
        refine rj_ist3 dX2_tighten_32 (by decide) rfl ?_
        refine rj_ald0 dX2_tighten_33 rfl ?_
        refine g2_7 (by first | assumption | rfl) dX2_tighten_34 ?_
        refine rj_if_le (tgt := 68) dX2_tighten_37 (by decide) (fun h_37 => ?_) (fun h_37 => ?_)
        · have hz : redR (xs.take i) = [] := List.length_eq_zero_iff.mp (by omega)
          refine rj_ald0 dX2_tighten_68 rfl ?_
          refine rj_ild3 dX2_tighten_69 rfl ?_
          refine rj_V1v (ci := 2) cX2_57 rfl (by decide) (by first | assumption | rfl) dX2_tighten_70 (c_X2_append hk h1 (by omega)) (fitM (by omega) (by decide)) (Nat.le_of_ble_eq_true rfl) ?_
          rw [if_pos (by omega)]
          refine rj_iinc2 (d := 1) dX2_tighten_73 (by decide) rfl (by decide) ?_
          rw [nI_1]
          refine rj_goto (tgt := 12) dX2_tighten_76 (by decide) ?_
          exact ih (i + 1) _ _ (by omega) (by omega) (TI_push hT (by omega) (by omega) (fun t0 r0 e0 => by rw [hz] at e0; cases e0))
        · obtain ⟨t, r, hS⟩ : ∃ t r, redR (xs.take i) = t :: r := by
            cases hq : redR (xs.take i) with
            | nil => rw [hq] at h1; simp at h1; omega
            | cons t r => exact ⟨t, r, rfl⟩
          have hrl : (redR (xs.take i)).length = r.length + 1 := by rw [hS]; rfl
          have hm1 : (τ.1 k 1 - 1).toInt = r.length := by rw [i_sub (by rw [t1]; omega) (by rw [t1]; omega), t1]; omega
          have hat : (if 0 ≤ (τ.1 k 1 - 1).toInt ∧ (τ.1 k 1 - 1).toInt < ((redR (xs.take i)).length : Nat) then τ.1 (k + 1) (τ.1 k 1 - 1).toNatClampNeg else 0) = t := by
            rw [if_pos (by omega), cl_i, hm1, Int.toNat_natCast, h2 r.length (by omega), hS, getD_rev_last]
          refine rj_ald0 dX2_tighten_40 rfl ?_
          refine rj_ald0 dX2_tighten_41 rfl ?_
          refine g2_7 (by first | assumption | rfl) dX2_tighten_42 ?_
          refine rj_ic1 dX2_tighten_45 ?_
          refine rj_isub dX2_tighten_46 ?_
          refine rj_V1i (ci := 2) cX2_30 rfl (by decide) (by first | assumption | rfl) dX2_tighten_47 (c_X2_at hk h1 (by omega)) (fitM (by omega) (by decide)) (Nat.le_of_ble_eq_true rfl) ?_
          rw [hat]
          refine rj_ild3 dX2_tighten_50 rfl ?_
          refine rj_ineg dX2_tighten_51 ?_
          refine rj_ic_ne (tgt := 68) dX2_tighten_52 (by decide) (fun h_52 => ?_) (fun h_52 => ?_)
          · refine rj_ald0 dX2_tighten_68 rfl ?_
            refine rj_ild3 dX2_tighten_69 rfl ?_
            refine rj_V1v (ci := 2) cX2_57 rfl (by decide) (by first | assumption | rfl) dX2_tighten_70 (c_X2_append hk h1 (by omega)) (fitM (by omega) (by decide)) (Nat.le_of_ble_eq_true rfl) ?_
            rw [if_pos (by omega)]
            refine rj_iinc2 (d := 1) dX2_tighten_73 (by decide) rfl (by decide) ?_
            rw [nI_1]
            refine rj_goto (tgt := 12) dX2_tighten_76 (by decide) ?_
            exact ih (i + 1) _ _ (by omega) (by omega) (TI_push hT (by omega) (by omega) (fun t0 r0 e0 => by rw [hS] at e0; cases e0; exact h_52))
          · refine rj_ald0 dX2_tighten_55 rfl ?_
            refine rj_ald0 dX2_tighten_56 rfl ?_
            refine g2_7 (by first | assumption | rfl) dX2_tighten_57 ?_
            refine rj_ic1 dX2_tighten_60 ?_
            refine rj_isub dX2_tighten_61 ?_
            refine rj_V1v (ci := 2) cX2_44 rfl (by decide) (by first | assumption | rfl) dX2_tighten_62 (c_X2_cutTo hk h1 (by omega)) (fitM (by omega) (by decide)) (Nat.le_of_ble_eq_true rfl) ?_
            rw [hm1, Int.toNat_natCast, hrl, Nat.min_eq_left (by omega)]
            refine rj_goto (tgt := 73) dX2_tighten_65 (by decide) ?_
            refine rj_iinc2 (d := 1) dX2_tighten_73 (by decide) rfl (by decide) ?_
            rw [nI_1]
            refine rj_goto (tgt := 12) dX2_tighten_76 (by decide) ?_
            exact ih (i + 1) _ _ (by omega) (by omega) (TI_pop hT (by omega) hS (by rw [h_52]) hk)

set_option maxRecDepth 100000 in
theorem c_X2_tighten {l : Launch} {X : CX} {σ : ST} {k : Nat} {xs : List Int32} (hk : kd k = 2) (hx : Rw σ k xs) : MJ l X 2 yX2_tighten cX2_tighten 4 none [.ref (ad X k)] σ (PV (fun τ => Rw τ k (red xs) ∧ off (rowC k) σ τ)) := by
  refine MJ_of (own := RX2) [some (.ref (ad X k)), none, none, none] (by decide) rfl (Nat.le_of_ble_eq_true rfl) rfl ?_
  have hln := (row_next hk).2.1
  obtain ⟨hs, hn, hv⟩ := hx
  have he : σ.1 k 1 = nI xs.length := nI_of_toInt hs
  refine rj_ald0 dX2_tighten_0 rfl ?_
  refine g2_7 (by first | assumption | rfl) dX2_tighten_1 ?_
  rw [he]
  refine rj_ist1 dX2_tighten_4 (by decide) rfl ?_
  refine rj_ald0 dX2_tighten_5 rfl ?_
  refine rj_ic0 dX2_tighten_6 ?_
  refine rj_V1v (ci := 2) cX2_44 rfl (by decide) (by first | assumption | rfl) dX2_tighten_7 (c_X2_cutTo hk hs hn) (fitM (by decide) (by decide)) (Nat.le_of_ble_eq_true rfl) ?_
  rw [show (0 : Int32).toInt.toNat = 0 by decide, Nat.zero_min]
  refine rj_ic0 dX2_tighten_10 ?_
  refine rj_ist2 dX2_tighten_11 (by decide) rfl ?_
  refine l_X2_tighten (by decide) hk hn hv (fun τ hT => ?_) (xs.length + 1) 0 _ _ (by omega) (by omega) ⟨by rw [ui_same]; rfl, fun j hj => absurd hj (by simp [redR]), fun j _ => by rw [ui_ne (by omega)], off.rf.ui (Or.inl rfl)⟩
  obtain ⟨h1, h2, h3, h4⟩ := hT
  rw [List.take_length] at h1 h2
  have hl := redR_len xs
  exact ⟨rfl, ⟨by rw [h1]; simp [red], by simp [red]; omega, fun i hi => h2 i (by simpa [red] using hi)⟩, h4⟩

