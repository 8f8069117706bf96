/-! untying -/
theorem un_all : ∀ k, k < 129 → kd k = 10 → (kd (k + 1) = 13 ∧ ln (k + 1) = 169) := by decide +kernel
theorem un_next {k : Nat} (h : kd k = 10) : kd (k + 1) = 13 ∧ ln (k + 1) = 169 := un_all k (kd_lt (by omega)) h
theorem un_ro : ∀ k, k < 129 → kd k = 10 → ∀ q, q < 129 → kd q = 2 → (q + 1 < k ∨ k + 1 < q) := by decide +kernel
theorem un_row {k q : Nat} (h : kd k = 10) (h2 : kd q = 2) : ¬ rowC k q ∧ ¬ rowC k (q + 1) := by
  have := un_ro k (kd_lt (by omega)) h q (kd_lt (by omega)) h2
  unfold rowC; omega
def pcN (xs : List Int32) (i k : Nat) : Nat := if xs.getD i 0 = -(xs.getD k 0) then 0 else if xs.getD i 0 = xs.getD k 0 then 4096 + 2 ^ i else 16777216
def cF (xs : List Int32) : Nat → Nat → Nat → Nat
  | 0, _, _ => 0
  | n + 1, f, t => if f = t then 0 else (List.range (t - (f + 1))).foldl (fun m j => min m (pcN xs f (f + 1 + j) + cF xs n (f + 1) (f + 1 + j) + cF xs n (f + 1 + j + 1) t)) 16777216
def cs (xs : List Int32) (f t : Nat) : Nat := cF xs (t - f + 1) f t
theorem foldl_min_congr {g h : Nat → Nat} : ∀ (l : List Nat) (m : Nat), (∀ j ∈ l, g j = h j) → l.foldl (fun m j => min m (g j)) m = l.foldl (fun m j => min m (h j)) m
  | [], _, _ => rfl
  | a :: l, m, hl => by
    simp only [List.foldl_cons]
    rw [hl a List.mem_cons_self]
    exact foldl_min_congr l _ (fun j hj => hl j (List.mem_cons_of_mem _ hj))
theorem cF_st (xs : List Int32) : ∀ (n m f t : Nat), f ≤ t → t - f < n → t - f < m → cF xs n f t = cF xs m f t
  | 0, _, _, _, _, h, _ => absurd h (by omega)
  | _, 0, _, _, _, _, h => absurd h (by omega)
  | n + 1, m + 1, f, t, hf, h1, h2 => by
    rw [cF, cF]
    by_cases q : f = t
    · rw [if_pos q, if_pos q]
    · rw [if_neg q, if_neg q]
      refine foldl_min_congr _ _ (fun j hj => ?_)
      have hj := List.mem_range.mp hj
      rw [cF_st xs n m (f + 1) (f + 1 + j) (by omega) (by omega) (by omega), cF_st xs n m (f + 1 + j + 1) t (by omega) (by omega) (by omega)]
def csT (xs : List Int32) (f t j : Nat) : Nat := pcN xs f (f + 1 + j) + cs xs (f + 1) (f + 1 + j) + cs xs (f + 1 + j + 1) t
theorem cs_eq {xs : List Int32} {f t : Nat} (hf : f < t) : cs xs f t = (List.range (t - (f + 1))).foldl (fun m j => min m (csT xs f t j)) 16777216 := by
  unfold cs
  rw [cF, if_neg (by omega)]
  refine foldl_min_congr _ _ (fun j hj => ?_)
  have hj := List.mem_range.mp hj
  unfold csT cs
  rw [cF_st xs (t - f) (f + 1 + j - (f + 1) + 1) (f + 1) (f + 1 + j) (by omega) (by omega) (by omega), cF_st xs (t - f) (t - (f + 1 + j + 1) + 1) (f + 1 + j + 1) t (by omega) (by omega) (by omega)]
theorem cs_self (xs : List Int32) (f : Nat) : cs xs f f = 0 := by unfold cs; rw [cF, if_pos rfl]
theorem foldl_min_le {g : Nat → Nat} : ∀ (l : List Nat) (m : Nat), l.foldl (fun m j => min m (g j)) m ≤ m
  | [], m => Nat.le_refl m
  | a :: l, m => Nat.le_trans (foldl_min_le l (min m (g a))) (Nat.min_le_left _ _)
theorem cs_le (xs : List Int32) {f t : Nat} (hf : f ≤ t) : cs xs f t ≤ 16777216 := by
  by_cases q : f = t
  · rw [q, cs_self]; omega
  · rw [cs_eq (by omega)]; exact foldl_min_le _ _
theorem pow12 {i : Nat} (h : i < 12) : 2 ^ i ≤ 2048 := Nat.pow_le_pow_right (by decide) (show i ≤ 11 by omega)
theorem pcN_le (xs : List Int32) {i k : Nat} (h : i < 12) : pcN xs i k ≤ 16777216 := by
  have := pow12 h
  unfold pcN; split
  · omega
  · split <;> omega
/-- the table's places: those that P names hold their costs -/
def Un (σ : ST) (k : Nat) (xs : List Int32) (P : Nat → Nat → Prop) : Prop := ∀ f t, f ≤ t → t ≤ 12 → P f t → σ.1 (k + 1) (13 * f + t) = nI (cs xs f t)
theorem or_pc : ∀ i, i < 12 → ((4096 : Int32) ||| ((1 : Int32) <<< (nI i &&& 31))) = nI (4096 + 2 ^ i) := by decide +kernel
set_option maxRecDepth 100000 in
theorem c_X10_pairCost {l : Launch} {X : CX} {σ : ST} {k i j : Nat} {xs : List Int32} (hk : kd k = 2) (hx : Rw σ k xs) (hi : i < xs.length) (hj : j < xs.length) (h12 : i < 12) : MJ l X 2 yX10_pairCost cX10_pairCost 3 (some .int) [.ref (ad X k), .int (nI i), .int (nI j)] σ (eqI (nI (pcN xs i j)) σ) := by
  refine MJ_of (own := RX10) [some (.ref (ad X k)), some (.int (nI i)), some (.int (nI j))] (by decide) rfl (Nat.le_of_ble_eq_true rfl) rfl ?_
  have hsm := hx.small hk
  refine rj_ald0 dX10_pairCost_0 rfl ?_
  refine rj_ild1 dX10_pairCost_1 rfl ?_
  refine rj_V1i (ci := 2) cX10_45 rfl (by decide) (by first | assumption | rfl) dX10_pairCost_2 (c_X2_atL hk hx) (fitM (by decide) (by decide)) (Nat.le_of_ble_eq_true rfl) ?_
  rw [rat_nI hi (by omega)]
  refine rj_ald0 dX10_pairCost_5 rfl ?_
  refine rj_ild2 dX10_pairCost_6 rfl ?_
  refine rj_V1i (ci := 2) cX10_45 rfl (by decide) (by first | assumption | rfl) dX10_pairCost_7 (c_X2_atL hk hx) (fitM (by decide) (by decide)) (Nat.le_of_ble_eq_true rfl) ?_
  rw [rat_nI hj (by omega)]
  refine rj_ineg dX10_pairCost_10 ?_
  refine rj_ic_ne (tgt := 16) dX10_pairCost_11 (by decide) (fun h_11 => ?_) (fun h_11 => ?_)
  · refine rj_ald0 dX10_pairCost_16 rfl ?_
    refine rj_ild1 dX10_pairCost_17 rfl ?_
    refine rj_V1i (ci := 2) cX10_45 rfl (by decide) (by first | assumption | rfl) dX10_pairCost_18 (c_X2_atL hk hx) (fitM (by decide) (by decide)) (Nat.le_of_ble_eq_true rfl) ?_
    rw [rat_nI hi (by omega)]
    refine rj_ald0 dX10_pairCost_21 rfl ?_
    refine rj_ild2 dX10_pairCost_22 rfl ?_
    refine rj_V1i (ci := 2) cX10_45 rfl (by decide) (by first | assumption | rfl) dX10_pairCost_23 (c_X2_atL hk hx) (fitM (by decide) (by decide)) (Nat.le_of_ble_eq_true rfl) ?_
    rw [rat_nI hj (by omega)]
    refine rj_ic_ne (tgt := 39) dX10_pairCost_26 (by decide) (fun h_26 => ?_) (fun h_26 => ?_)
    · refine rj_ldc kX10_15 dX10_pairCost_39 ?_
      refine rj_iret dX10_pairCost_41 ?_
      unfold pcN
      exact ⟨by rw [if_neg h_11, if_neg h_26]; rfl, rfl⟩
    · refine rj_sipush (v := 4096) dX10_pairCost_29 (by decide) ?_
      refine rj_ic1 dX10_pairCost_32 ?_
      refine rj_ild1 dX10_pairCost_33 rfl ?_
      refine rj_ishl dX10_pairCost_34 ?_
      refine rj_ior dX10_pairCost_35 ?_
      refine rj_goto (tgt := 41) dX10_pairCost_36 (by decide) ?_
      refine rj_iret dX10_pairCost_41 ?_
      unfold pcN
      exact ⟨by rw [if_neg h_11, if_pos h_26, or_pc i h12], rfl⟩
  · refine rj_ic0 dX10_pairCost_14 ?_
    refine rj_iret dX10_pairCost_15 ?_
    unfold pcN
    exact ⟨by rw [if_pos h_11]; rfl, rfl⟩

set_option maxRecDepth 100000 in
theorem c_X10_cost {l : Launch} {X : CX} {σ : ST} {k f t : Nat} {xs : List Int32} {P : Nat → Nat → Prop} (hk : kd k = 10) (hU : Un σ k xs P) (hf : f ≤ t) (ht : t ≤ 12) (hP : P f t) : MJ l X 0 yX10_cost cX10_cost 4 (some .int) [.ref (ad X k), .int (nI f), .int (nI t)] σ (eqI (nI (cs xs f t)) σ) := by
  refine MJ_of (own := RX10) [some (.ref (ad X k)), some (.int (nI f)), some (.int (nI t)), none] (by decide) rfl (Nat.le_of_ble_eq_true rfl) rfl ?_
  obtain ⟨hka, hkl⟩ := un_next hk
  have hcap : (nI (ln (k + 1))).toInt = 169 := by rw [hkl]; decide
  have hix : nI f * 13 + nI t = nI (13 * f + t) := by rw [show (13 : Int32) = nI 13 from rfl, pk_mul, nI_add, Nat.mul_comm]
  have hit : (nI (13 * f + t)).toInt = (13 * f + t : Nat) := nI_t (by omega)
  refine rj_ild1 dX10_cost_0 rfl ?_
  refine rj_bipush (v := 13) dX10_cost_1 (by decide) ?_
  refine rj_imul dX10_cost_3 ?_
  refine rj_ild2 dX10_cost_4 rfl ?_
  refine rj_iadd dX10_cost_5 ?_
  rw [hix]
  refine rj_ist3 dX10_cost_6 (by decide) rfl ?_
  refine rj_ild3 dX10_cost_7 rfl ?_
  refine rj_if_lt (tgt := 29) dX10_cost_8 (by decide) (fun h_8 => ?_) (fun h_8 => ?_)
  · exfalso; omega
  · refine rj_ild3 dX10_cost_11 rfl ?_
    refine rj_ald0 dX10_cost_12 rfl ?_
    refine g10_11 (by first | assumption | rfl) dX10_cost_13 ?_
    refine rj_alen (by first | assumption | rfl) dX10_cost_16 ?_
    refine rj_ic_ge (tgt := 29) dX10_cost_17 (by decide) (fun h_17 => ?_) (fun h_17 => ?_)
    · exfalso; omega
    · refine rj_ald0 dX10_cost_20 rfl ?_
      refine g10_11 (by first | assumption | rfl) dX10_cost_21 ?_
      refine rj_ild3 dX10_cost_24 rfl ?_
      refine rj_iald (by first | assumption | rfl) (vpi (by omega) (by rw [hkl]; omega)) dX10_cost_25 ?_
      refine rj_goto (tgt := 31) dX10_cost_26 (by decide) ?_
      refine rj_iret dX10_cost_31 ?_
      exact ⟨by rw [nI_clamp (by omega), hU f t hf ht hP], rfl⟩

set_option maxRecDepth 100000 in
theorem c_X10_setCost {l : Launch} {X : CX} {σ : ST} {k f t : Nat} {xs : List Int32} {P : Nat → Nat → Prop} (hk : kd k = 10) (hU : Un σ k xs P) (hf : f ≤ t) (ht : t ≤ 12) : MJ l X 0 yX10_setCost cX10_setCost 5 none [.ref (ad X k), .int (nI f), .int (nI t), .int (nI (cs xs f t))] σ (PV (fun τ => Un τ k xs (fun a b => P a b ∨ (a = f ∧ b = t)) ∧ off (rowC k) σ τ)) := by
  refine MJ_of (own := RX10) [some (.ref (ad X k)), some (.int (nI f)), some (.int (nI t)), some (.int (nI (cs xs f t))), none] (by decide) rfl (Nat.le_of_ble_eq_true rfl) rfl ?_
  obtain ⟨hka, hkl⟩ := un_next hk
  have hcap : (nI (ln (k + 1))).toInt = 169 := by rw [hkl]; decide
  have hix : nI f * 13 + nI t = nI (13 * f + t) := by rw [show (13 : Int32) = nI 13 from rfl, pk_mul, nI_add, Nat.mul_comm]
  have hit : (nI (13 * f + t)).toInt = (13 * f + t : Nat) := nI_t (by omega)
  refine rj_ild1 dX10_setCost_0 rfl ?_
  refine rj_bipush (v := 13) dX10_setCost_1 (by decide) ?_
  refine rj_imul dX10_setCost_3 ?_
  refine rj_ild2 dX10_setCost_4 rfl ?_
  refine rj_iadd dX10_setCost_5 ?_
  rw [hix]
  refine rj_ist4w dX10_setCost_6 (by decide) rfl ?_
  refine rj_ild dX10_setCost_8 rfl ?_
  refine rj_if_lt (tgt := 31) dX10_setCost_10 (by decide) (fun h_10 => ?_) (fun h_10 => ?_)
  · exfalso; omega
  · refine rj_ild dX10_setCost_13 rfl ?_
    refine rj_ald0 dX10_setCost_15 rfl ?_
    refine g10_11 (by first | assumption | rfl) dX10_setCost_16 ?_
    refine rj_alen (by first | assumption | rfl) dX10_setCost_19 ?_
    refine rj_ic_ge (tgt := 31) dX10_setCost_20 (by decide) (fun h_20 => ?_) (fun h_20 => ?_)
    · exfalso; omega
    · refine rj_ald0 dX10_setCost_23 rfl ?_
      refine g10_11 (by first | assumption | rfl) dX10_setCost_24 ?_
      refine rj_ild dX10_setCost_27 rfl ?_
      refine rj_ild3 dX10_setCost_29 rfl ?_
      refine rj_iast (by first | assumption | rfl) (vpi (by omega) (by rw [hkl]; omega)) dX10_setCost_30 ?_
      refine rj_vret dX10_setCost_31 ?_
      refine ⟨rfl, fun a b ha hb hp => ?_, off.rf.ui (Or.inr rfl)⟩
      rw [ui_at, nI_clamp (by omega)]
      by_cases q : a = f ∧ b = t
      · rw [if_pos ⟨rfl, by omega⟩, q.1, q.2]
      · rw [if_neg (by omega), hU a b ha hb (hp.resolve_right q)]

set_option maxRecDepth 100000 in
theorem l_X10_stretch {l : Launch} {X : CX} {h : Nat} {Q : Option Value → ST → Prop} {σ : ST} {k k1 f t : Nat} {xs : List Int32} {P : Nat → Nat → Prop} (hh : 3 ≤ h) (hk : kd k = 10) (hk1 : kd k1 = 2) (hx : Rw σ k1 xs) (h12 : xs.length ≤ 12) (hU : Un σ k xs P) (hP : ∀ a b, b ≤ t → b - a < t - f → P a b) (hf : f < t) (ht : t ≤ xs.length) (hQ : Q (some (.int (nI (cs xs f t)))) σ) : ∀ (N i : Nat) (a6 : Option Value), t - (f + 1) < i + N → i ≤ t - (f + 1) → RJ (GM l X h Q) X cX10_stretchCost 7 (some .int) RX10 16 [some (.ref (ad X k)), some (.ref (ad X k1)), some (.int (nI f)), some (.int (nI t)), some (.int (nI ((List.range i).foldl (fun m j => min m (csT xs f t j)) 16777216))), some (.int (nI (f + 1 + i))), a6] [] σ := by
  intro N
  induction N with
  | zero => intro i a6 hN hi; exact absurd hN (by omega)
  | succ N ih =>
    intro i a6 hN hi
    have hit : (nI (f + 1 + i)).toInt = (f + 1 + i : Nat) := nI_t (by omega)
    have htt : (nI t).toInt = t := nI_t (by omega)
    refine rj_ild dX10_stretchCost_16 rfl ?_
    refine rj_ild3 dX10_stretchCost_18 rfl ?_
    refine rj_ic_ge (tgt := 66) dX10_stretchCost_19 (by decide) (fun h_19 => ?_) (fun h_19 => ?_)
    · refine rj_ild dX10_stretchCost_66 rfl ?_
      refine rj_iret dX10_stretchCost_68 ?_
      have hie : i = t - (f + 1) := by omega
      subst hie
      rw [cs_eq hf] at hQ
      exact hQ
    · refine rj_ald1 dX10_stretchCost_22 rfl ?_
      refine rj_ild2 dX10_stretchCost_23 rfl ?_
      refine rj_ild dX10_stretchCost_24 rfl ?_
      refine rj_S3i cX10_42 dX10_stretchCost_26 (c_X10_pairCost hk1 hx (by omega) (by omega) (by omega)) (fitM (by omega) (by decide)) (Nat.le_of_ble_eq_true rfl) ?_
      refine rj_ald0 dX10_stretchCost_29 rfl ?_
      refine rj_ild2 dX10_stretchCost_30 rfl ?_
      refine rj_ic1 dX10_stretchCost_31 ?_
      refine rj_iadd dX10_stretchCost_32 ?_
      rw [nI_1]
      refine rj_ild dX10_stretchCost_33 rfl ?_
      refine rj_V2i (ci := 10) cX10_39 rfl (by decide) (by first | assumption | rfl) dX10_stretchCost_35 (c_X10_cost hk hU (f := f + 1) (t := f + 1 + i) (by omega) (by omega) (hP _ _ (by omega) (by omega))) (fitM (by omega) (by decide)) (Nat.le_of_ble_eq_true rfl) ?_
      refine rj_iadd dX10_stretchCost_38 ?_
      rw [nI_add]
      refine rj_ald0 dX10_stretchCost_39 rfl ?_
      refine rj_ild dX10_stretchCost_40 rfl ?_
      refine rj_ic1 dX10_stretchCost_42 ?_
      refine rj_iadd dX10_stretchCost_43 ?_
      rw [nI_1]
      refine rj_ild3 dX10_stretchCost_44 rfl ?_
      refine rj_V2i (ci := 10) cX10_39 rfl (by decide) (by first | assumption | rfl) dX10_stretchCost_45 (c_X10_cost hk hU (f := f + 1 + i + 1) (t := t) (by omega) (by omega) (hP _ _ (by omega) (by omega))) (fitM (by omega) (by decide)) (Nat.le_of_ble_eq_true rfl) ?_
      refine rj_iadd dX10_stretchCost_48 ?_
      refine rj_top (x' := nI (csT xs f t i)) (by rw [nI_add]; rfl) ?_
      refine rj_ist6w dX10_stretchCost_49 (by decide) rfl ?_
      refine rj_ild dX10_stretchCost_51 rfl ?_
      refine rj_ild dX10_stretchCost_53 rfl ?_
      refine rj_min cX10_25 (fitNM (by first | decide | omega) (Nat.le_of_ble_eq_true rfl)) dX10_stretchCost_55 ?_
      have b1 := pcN_le xs (i := f) (k := f + 1 + i) (by omega)
      have b2 := cs_le xs (f := f + 1) (t := f + 1 + i) (by omega)
      have b3 := cs_le xs (f := f + 1 + i + 1) (t := t) (by omega)
      have b4 : (List.range i).foldl (fun m j => min m (csT xs f t j)) 16777216 ≤ 16777216 := foldl_min_le _ _
      rw [i_min (nI_t (by omega)) (nI_t (by unfold csT; omega)), show min ((List.range i).foldl (fun m j => min m (csT xs f t j)) 16777216) (csT xs f t i) = (List.range (i + 1)).foldl (fun m j => min m (csT xs f t j)) 16777216 by rw [List.range_succ, List.foldl_append]; rfl]
      refine rj_ist4w dX10_stretchCost_58 (by decide) rfl ?_
      refine rj_iinc5 (d := 1) dX10_stretchCost_60 (by decide) rfl (by decide) ?_
      rw [nI_1, show f + 1 + i + 1 = f + 1 + (i + 1) by omega]
      refine rj_goto (tgt := 16) dX10_stretchCost_63 (by decide) ?_
      exact ih (i + 1) _ (by omega) (by omega)

set_option maxRecDepth 100000 in
theorem c_X10_stretchCost {l : Launch} {X : CX} {σ : ST} {k k1 f t : Nat} {xs : List Int32} {P : Nat → Nat → Prop} (hk : kd k = 10) (hk1 : kd k1 = 2) (hx : Rw σ k1 xs) (h12 : xs.length ≤ 12) (hU : Un σ k xs P) (hP : ∀ a b, b ≤ t → b - a < t - f → P a b) (hf : f ≤ t) (ht : t ≤ xs.length) : MJ l X 3 yX10_stretchCost cX10_stretchCost 7 (some .int) [.ref (ad X k), .ref (ad X k1), .int (nI f), .int (nI t)] σ (eqI (nI (cs xs f t)) σ) := by
  refine MJ_of (own := RX10) [some (.ref (ad X k)), some (.ref (ad X k1)), some (.int (nI f)), some (.int (nI t)), none, none, none] (by decide) rfl (Nat.le_of_ble_eq_true rfl) rfl ?_
  refine rj_ild2 dX10_stretchCost_0 rfl ?_
  refine rj_ild3 dX10_stretchCost_1 rfl ?_
  refine rj_ic_ne (tgt := 7) dX10_stretchCost_2 (by decide) (fun h_2 => ?_) (fun h_2 => ?_)
  · have hne : f ≠ t := fun q => h_2 (by rw [q])
    refine rj_ldc kX10_15 dX10_stretchCost_7 ?_
    refine rj_ist4w dX10_stretchCost_9 (by decide) rfl ?_
    refine rj_ild2 dX10_stretchCost_11 rfl ?_
    refine rj_ic1 dX10_stretchCost_12 ?_
    refine rj_iadd dX10_stretchCost_13 ?_
    rw [nI_1]
    refine rj_ist5w dX10_stretchCost_14 (by decide) rfl ?_
    exact l_X10_stretch (by decide) hk hk1 hx h12 hU hP (by omega) ht ⟨rfl, rfl⟩ (t + 1) 0 _ (by omega) (by omega)
  · have heq : f = t := (nI_eq (by omega) (by omega)).mp h_2
    refine rj_ic0 dX10_stretchCost_5 ?_
    refine rj_iret dX10_stretchCost_6 ?_
    subst heq
    exact ⟨by rw [cs_self]; rfl, rfl⟩

set_option maxRecDepth 100000 in
theorem l_X10_solveI {l : Launch} {X : CX} {h : Nat} {Q : Option Value → ST → Prop} {σ : ST} {k k1 m : Nat} {xs : List Int32} (hh : 4 ≤ h) (hk : kd k = 10) (hk1 : kd k1 = 2) (hx : Rw σ k1 xs) (h12 : xs.length ≤ 12) (hm : m ≤ xs.length) (hQ : ∀ τ a4, Un τ k xs (fun a b => b ≤ xs.length ∧ b - a < m + 1) → off (rowC k) σ τ → RJ (GM l X h Q) X cX10_solve 5 (some .boolean) RX10 55 [some (.ref (ad X k)), some (.ref (ad X k1)), some (.int (nI xs.length)), some (.int (nI m)), a4] [] τ) : ∀ (N i : Nat) (τ : ST), xs.length + 1 < i + N → (i ≤ xs.length + 1 - m ∧ Un τ k xs (fun a b => b ≤ xs.length ∧ (b - a < m ∨ (b - a = m ∧ a < i))) ∧ off (rowC k) σ τ) → RJ (GM l X h Q) X cX10_solve 5 (some .boolean) RX10 20 [some (.ref (ad X k)), some (.ref (ad X k1)), some (.int (nI xs.length)), some (.int (nI m)), some (.int (nI i))] [] τ := by
  intro N
  induction N with
  | zero => intro i τ hN hi; have := hi.1; exact absurd hN (by omega)
  | succ N ih =>
    intro i τ hN hi
    obtain ⟨hi, hU, ho⟩ := hi
    have hx1 : Rw τ k1 xs := hx.off ho (un_row hk hk1).1 (un_row hk hk1).2
    have hit : (nI (i + m)).toInt = (i + m : Nat) := nI_t (by omega)
    have hnt : (nI xs.length).toInt = xs.length := nI_t (by omega)
    refine rj_ild dX10_solve_20 rfl ?_
    refine rj_ild3 dX10_solve_22 rfl ?_
    refine rj_iadd dX10_solve_23 ?_
    rw [nI_add]
    refine rj_ild2 dX10_solve_24 rfl ?_
    refine rj_ic_gt (tgt := 55) dX10_solve_25 (by decide) (fun h_25 => ?_) (fun h_25 => ?_)
    · exact hQ τ _ (fun a b ha hb hp => hU a b ha hb (by omega)) ho
    · refine rj_ald0 dX10_solve_28 rfl ?_
      refine rj_ild dX10_solve_29 rfl ?_
      refine rj_ild dX10_solve_31 rfl ?_
      refine rj_ild3 dX10_solve_33 rfl ?_
      refine rj_iadd dX10_solve_34 ?_
      rw [nI_add]
      refine rj_ald0 dX10_solve_35 rfl ?_
      refine rj_ald1 dX10_solve_36 rfl ?_
      refine rj_ild dX10_solve_37 rfl ?_
      refine rj_ild dX10_solve_39 rfl ?_
      refine rj_ild3 dX10_solve_41 rfl ?_
      refine rj_iadd dX10_solve_42 ?_
      rw [nI_add]
      refine rj_V3i (ci := 10) cX10_31 rfl (by decide) (by first | assumption | rfl) dX10_solve_43 (c_X10_stretchCost hk hk1 hx1 h12 hU (f := i) (t := i + m) (fun a b hb hab => ⟨by omega, Or.inl (by omega)⟩) (by omega) (by omega)) (fitM (by omega) (by decide)) (Nat.le_of_ble_eq_true rfl) ?_
      refine rj_V3 (ci := 10) cX10_35 rfl (by decide) (by first | assumption | rfl) dX10_solve_46 (c_X10_setCost hk hU (f := i) (t := i + m) (by omega) (by omega)) (fitM (by omega) (by decide)) (Nat.le_of_ble_eq_true rfl) ?_
      rintro v υ ⟨rfl, hU1, ho1⟩
      simp only [Option.toList, List.nil_append]
      refine rj_iinc4 (d := 1) dX10_solve_49 (by decide) rfl (by decide) ?_
      rw [nI_1]
      refine rj_goto (tgt := 20) dX10_solve_52 (by decide) ?_
      exact ih (i + 1) υ (by omega) ⟨by omega, fun a b ha hb hp => hU1 a b ha hb (by omega), ho.tr ho1⟩

set_option maxRecDepth 100000 in
theorem l_X10_solveO {l : Launch} {X : CX} {h : Nat} {Q : Option Value → ST → Prop} {σ : ST} {k k1 : Nat} {xs : List Int32} (hh : 4 ≤ h) (hk : kd k = 10) (hk1 : kd k1 = 2) (hx : Rw σ k1 xs) (h12 : xs.length ≤ 12) (hQ : ∀ τ a3 a4, Un τ k xs (fun a b => b ≤ xs.length ∧ b - a < xs.length + 1) → off (rowC k) σ τ → RJ (GM l X h Q) X cX10_solve 5 (some .boolean) RX10 61 [some (.ref (ad X k)), some (.ref (ad X k1)), some (.int (nI xs.length)), a3, a4] [] τ) : ∀ (N m : Nat) (τ : ST) (a4 : Option Value), xs.length + 1 < m + N → (m ≤ xs.length + 1 ∧ Un τ k xs (fun a b => b ≤ xs.length ∧ b - a < m) ∧ off (rowC k) σ τ) → RJ (GM l X h Q) X cX10_solve 5 (some .boolean) RX10 12 [some (.ref (ad X k)), some (.ref (ad X k1)), some (.int (nI xs.length)), some (.int (nI m)), a4] [] τ := by
  intro N
  induction N with
  | zero => intro m τ a4 hN hi; have := hi.1; exact absurd hN (by omega)
  | succ N ih =>
    intro m τ a4 hN hi
    obtain ⟨hi, hU, ho⟩ := hi
    have hx1 : Rw τ k1 xs := hx.off ho (un_row hk hk1).1 (un_row hk hk1).2
    have hmt : (nI m).toInt = m := nI_t (by omega)
    have hnt : (nI xs.length).toInt = xs.length := nI_t (by omega)
    refine rj_ild3 dX10_solve_12 rfl ?_
    refine rj_ild2 dX10_solve_13 rfl ?_
    refine rj_ic_gt (tgt := 61) dX10_solve_14 (by decide) (fun h_14 => ?_) (fun h_14 => ?_)
    · have hme : m = xs.length + 1 := by omega
      subst hme
      exact hQ τ _ _ hU ho
    · refine rj_ic0 dX10_solve_17 ?_
      refine rj_ist4w dX10_solve_18 (by decide) rfl ?_
      refine l_X10_solveI hh hk hk1 hx1 h12 (by omega) (fun υ a4 hU1 ho1 => ?_) (xs.length + 2) 0 τ (by omega) ⟨by omega, fun a b ha hb hp => hU a b ha hb (by omega), off.rf⟩
      refine rj_iinc3 (d := 1) dX10_solve_55 (by decide) rfl (by decide) ?_
      refine rj_goto (tgt := 12) dX10_solve_58 (by decide) ?_
      rw [nI_1]
      exact ih (m + 1) υ _ (by omega) ⟨by omega, hU1, ho.tr ho1⟩

theorem c_X10_solve {l : Launch} {X : CX} {σ : ST} {k k1 : Nat} {xs : List Int32} (hk : kd k = 10) (hk1 : kd k1 = 2) (hx : Rw σ k1 xs) (h12 : xs.length ≤ 12) : MJ l X 4 yX10_solve cX10_solve 5 (some .boolean) [.ref (ad X k), .ref (ad X k1)] σ (fun v τ => v = some (.int (if cs xs 0 xs.length < 16777216 then 1 else 0)) ∧ τ.1 k 1 = nI (cs xs 0 xs.length) ∧ off (rowC k) σ τ) := by
  refine MJ_of (own := RX10) [some (.ref (ad X k)), some (.ref (ad X k1)), none, none, none] (by decide) rfl (Nat.le_of_ble_eq_true rfl) rfl ?_
  have hsz := hx.1
  refine rj_ald1 dX10_solve_0 rfl ?_
  refine g10_20 (by first | assumption | rfl) dX10_solve_1 ?_
  refine rj_bipush (v := 12) dX10_solve_4 (by decide) ?_
  refine rj_min cX10_25 (fitNM (by first | decide | omega) (Nat.le_of_ble_eq_true rfl)) dX10_solve_6 ?_
  refine rj_top (x' := nI xs.length) (by rw [i_min hsz (b := 12) (by decide), Nat.min_eq_left h12]) ?_
  refine rj_ist2 dX10_solve_9 (by decide) rfl ?_
  refine rj_ic0 dX10_solve_10 ?_
  refine rj_ist3 dX10_solve_11 (by decide) rfl ?_
  refine l_X10_solveO (by decide) hk hk1 hx h12 (fun τ a3 a4 hU1 ho1 => ?_) (xs.length + 2) 0 σ _ (by omega) ⟨by omega, fun a b ha hb hp => absurd hp (by omega), off.rf⟩
  have hle := cs_le xs (f := 0) (t := xs.length) (by omega)
  have hct : (nI (cs xs 0 xs.length)).toInt = cs xs 0 xs.length := nI_t (by omega)
  have him : (16777216 : Int32).toInt = 16777216 := by decide
  refine rj_ald0 dX10_solve_61 rfl ?_
  refine rj_ald0 dX10_solve_62 rfl ?_
  refine rj_ic0 dX10_solve_63 ?_
  refine rj_ild2 dX10_solve_64 rfl ?_
  refine rj_V2i (ci := 10) cX10_39 rfl (by decide) (by first | assumption | rfl) dX10_solve_65 (c_X10_cost hk hU1 (f := 0) (t := xs.length) (by omega) (by omega) (show xs.length ≤ xs.length ∧ xs.length - 0 < xs.length + 1 by omega)) (fitM (by decide) (by decide)) (Nat.le_of_ble_eq_true rfl) ?_
  refine p10_16 (by first | assumption | rfl) dX10_solve_68 ?_
  refine rj_ald0 dX10_solve_71 rfl ?_
  refine g10_16 (by first | assumption | rfl) dX10_solve_72 ?_
  rw [ui_same]
  refine rj_ldc kX10_15 dX10_solve_75 ?_
  refine rj_ic_ge (tgt := 84) dX10_solve_77 (by decide) (fun h_77 => ?_) (fun h_77 => ?_)
  · refine rj_ic0 dX10_solve_84 ?_
    refine rj_zret dX10_solve_85 (rfl) ?_
    refine ⟨?_, ui_same _ _ _ _, ho1.ui (Or.inl rfl)⟩
    rw [if_neg (by omega)]
  · refine rj_ic1 dX10_solve_80 ?_
    refine rj_goto (tgt := 85) dX10_solve_81 (by decide) ?_
    refine rj_zret dX10_solve_85 (rfl) ?_
    refine ⟨?_, ui_same _ _ _ _, ho1.ui (Or.inl rfl)⟩
    rw [if_pos (by omega)]
set_option maxRecDepth 100000 in
theorem c_X10_turnedCount {l : Launch} {X : CX} {σ : ST} {k c : Nat} (hk : kd k = 10) (hc : σ.1 k 1 = nI c) (hb : c < 2147483648) : MJ l X 0 yX10_turnedCount cX10_turnedCount 1 (some .int) [.ref (ad X k)] σ (eqI (nI (c / 4096)) σ) := by
  refine MJ_of (own := RX10) [some (.ref (ad X k))] (by decide) rfl (Nat.le_of_ble_eq_true rfl) rfl ?_
  refine rj_ald0 dX10_turnedCount_0 rfl ?_
  refine g10_16 (by first | assumption | rfl) dX10_turnedCount_1 ?_
  refine rj_bipush (v := 12) dX10_turnedCount_4 (by decide) ?_
  refine rj_ishr dX10_turnedCount_6 ?_
  refine rj_iret dX10_turnedCount_7 ?_
  exact ⟨by rw [hc, pk_shrN hb _ 12 (by decide)], rfl⟩

set_option maxRecDepth 100000 in
theorem c_X10_turnedSet {l : Launch} {X : CX} {σ : ST} {k c : Nat} (hk : kd k = 10) (hc : σ.1 k 1 = nI c) (hb : c < 2147483648) : MJ l X 0 yX10_turnedSet cX10_turnedSet 1 (some .int) [.ref (ad X k)] σ (eqI (nI (c % 4096)) σ) := by
  refine MJ_of (own := RX10) [some (.ref (ad X k))] (by decide) rfl (Nat.le_of_ble_eq_true rfl) rfl ?_
  refine rj_ald0 dX10_turnedSet_0 rfl ?_
  refine g10_16 (by first | assumption | rfl) dX10_turnedSet_1 ?_
  refine rj_sipush (v := 4095) dX10_turnedSet_4 (by decide) ?_
  refine rj_iand dX10_turnedSet_7 ?_
  refine rj_iret dX10_turnedSet_8 ?_
  exact ⟨by rw [hc, pk_andN (by omega) 12 (by decide)], rfl⟩

