/-! strands, what is read of them -/
set_option maxRecDepth 100000 in
theorem c_X5_linkOf {l : Launch} {X : CX} {σ : ST} {k : Nat} {rc : Int32} {xs : List Int32} (hk : kd k = 5) (hS : Sd σ k rc xs) {a b : Int32} : MJ l X 2 yX5_linkOf cX5_linkOf 3 (some .int) [.ref (ad X k), .int a, .int b] σ (eqI ((stf xs).2 (pr a b).toNatClampNeg) σ) := by
  refine MJ_of (own := RX5) [some (.ref (ad X k)), some (.int a), some (.int b)] (by decide) rfl (Nat.le_of_ble_eq_true rfl) rfl ?_
  obtain ⟨hka, hkl, hkb, hkm⟩ := sd_next hk
  refine rj_ald0 dX5_linkOf_0 rfl ?_
  refine g5_15 (by first | assumption | rfl) dX5_linkOf_1 ?_
  refine rj_ild1 dX5_linkOf_4 rfl ?_
  refine rj_ild2 dX5_linkOf_5 rfl ?_
  refine rj_S2i cX5_47 dX5_linkOf_6 c_X5_pairOf (fitM (by decide) (by decide)) (Nat.le_of_ble_eq_true rfl) ?_
  refine rj_iald (by first | assumption | rfl) (vpi (pr_in a b).1 (by rw [hkm]; have := (pr_in a b).2; omega)) dX5_linkOf_9 ?_
  refine rj_iret dX5_linkOf_10 ?_
  exact ⟨by rw [hS.2.2 _ (pr_cl _ _)], rfl⟩

/-- the first place, from i on, at which f is r; r itself where there is none -/
def eoR (f : Nat → Int32) (r : Int32) : Nat → Nat → Int32
  | 0, _ => r
  | n + 1, i => if f i = r then nI i else eoR f r n (i + 1)
def eoF (rc : Int32) (f : Nat → Int32) (r : Int32) : Int32 := eoR f r rc.toInt.toNat 0
set_option maxRecDepth 100000 in
theorem l_X5_endOf {l : Launch} {X : CX} {h : Nat} {Q : Option Value → ST → Prop} {σ : ST} {k : Nat} {rc r : Int32} {xs : List Int32} (hk : kd k = 5) (hS : Sd σ k rc xs) (hr : rc.toInt ≤ 4) : ∀ (N i : Nat), rc.toInt.toNat < i + N → (i ≤ rc.toInt.toNat ∧ Q (some (.int (eoR (stf xs).1 r (rc.toInt.toNat - i) i))) σ) → RJ (GM l X h Q) X cX5_endOf 3 (some .int) RX5 2 [some (.ref (ad X k)), some (.int r), some (.int (nI i))] [] σ := by
  intro N
  induction N with
  | zero => intro i hN hi; have := hi.1; exact absurd hN (by omega)
  | succ N ih =>
    intro i hN hi
    obtain ⟨hi, hQ⟩ := hi
    obtain ⟨hka, hkl, hkb, hkm⟩ := sd_next hk
    have hS0 := hS.1
    have hit : (nI i).toInt = i := nI_t (by omega)
    refine rj_ild2 dX5_endOf_2 rfl ?_
    refine rj_ald0 dX5_endOf_3 rfl ?_
    refine g5_18 (by first | assumption | rfl) dX5_endOf_4 ?_
    refine rj_ic_ge (tgt := 28) dX5_endOf_7 (by decide) (fun h_7 => ?_) (fun h_7 => ?_)
    · rw [hS0] at h_7
      refine rj_ild1 dX5_endOf_28 rfl ?_
      refine rj_iret dX5_endOf_29 ?_
      rw [show rc.toInt.toNat - i = 0 by omega] at hQ
      exact hQ
    · rw [hS0] at h_7
      rw [show rc.toInt.toNat - i = (rc.toInt.toNat - (i + 1)) + 1 by omega] at hQ
      unfold eoR at hQ
      refine rj_ald0 dX5_endOf_10 rfl ?_
      refine g5_9 (by first | assumption | rfl) dX5_endOf_11 ?_
      refine rj_ild2 dX5_endOf_14 rfl ?_
      refine rj_iald (by first | assumption | rfl) (vpi (by omega) (by rw [hkl]; omega)) dX5_endOf_15 ?_
      refine rj_ild1 dX5_endOf_16 rfl ?_
      rw [nI_clamp (by omega), hS.2.1 i (by omega)]
      refine rj_ic_ne (tgt := 22) dX5_endOf_17 (by decide) (fun h_17 => ?_) (fun h_17 => ?_)
      · rw [if_neg h_17] at hQ
        refine rj_iinc2 (d := 1) dX5_endOf_22 (by decide) rfl (by decide) ?_
        rw [nI_1]
        refine rj_goto (tgt := 2) dX5_endOf_25 (by decide) ?_
        exact ih (i + 1) (by omega) ⟨by omega, hQ⟩
      · refine rj_ild2 dX5_endOf_20 rfl ?_
        refine rj_iret dX5_endOf_21 ?_
        rw [if_pos h_17] at hQ
        exact hQ

set_option maxRecDepth 100000 in
theorem c_X5_endOf {l : Launch} {X : CX} {σ : ST} {k : Nat} {rc : Int32} {xs : List Int32} (hk : kd k = 5) (hS : Sd σ k rc xs) {r : Int32} (hr : rc.toInt ≤ 4) : MJ l X 0 yX5_endOf cX5_endOf 3 (some .int) [.ref (ad X k), .int r] σ (eqI (eoF rc (stf xs).1 r) σ) := by
  refine MJ_of (own := RX5) [some (.ref (ad X k)), some (.int r), none] (by decide) rfl (Nat.le_of_ble_eq_true rfl) rfl ?_
  refine rj_ic0 dX5_endOf_0 ?_
  refine rj_ist2 dX5_endOf_1 (by decide) rfl ?_
  exact l_X5_endOf hk hS hr (rc.toInt.toNat + 1) 0 (by omega) ⟨by omega, ⟨rfl, rfl⟩⟩

/-- the ropes met in n steps from a, as bits on s -/
def rgA (e : Int32 → Int32) : Nat → Int32 → Int32 → Int32
  | 0, s, _ => s
  | n + 1, s, a => rgA e n (s ||| (1 <<< (a &&& 31))) (e a)
def rgB (e : Int32 → Int32) (m : Nat) : Nat → Nat → Int32 → Int32 → Int32
  | 0, _, c, _ => c
  | n + 1, i, c, s => rgB e m n (i + 1) (if (s >>> (nI i &&& 31)) &&& 1 = 0 then c + 1 else c) (rgA e m s (nI i))
def rgF (rc : Int32) (f : Nat → Int32) : Int32 := rgB (eoF rc f) rc.toInt.toNat rc.toInt.toNat 0 0 0
set_option maxRecDepth 100000 in
theorem l_X5_ring1 {l : Launch} {X : CX} {h : Nat} {Q : Option Value → ST → Prop} {σ : ST} {k : Nat} {rc c : Int32} {v3 : Int32} {xs : List Int32} (hh : 1 ≤ h) (hk : kd k = 5) (hS : Sd σ k rc xs) (hr : rc.toInt ≤ 4) {m : Int32} (hQ : ∀ (i4 : Int32) (v5 : Option Value), RJ (GM l X h Q) X cX5_ringCount 6 (some .int) RX5 61 [some (.ref (ad X k)), some (.int c), some (.int m), some (.int v3), some (.int i4), v5] [] σ) : ∀ (N i : Nat) (s a : Int32), rc.toInt.toNat < i + N → (i ≤ rc.toInt.toNat ∧ rgA (eoF rc (stf xs).1) (rc.toInt.toNat - i) s a = m) → RJ (GM l X h Q) X cX5_ringCount 6 (some .int) RX5 31 [some (.ref (ad X k)), some (.int c), some (.int s), some (.int v3), some (.int a), some (.int (nI i))] [] σ := by
  intro N
  induction N with
  | zero => intro i s a hN hi; have := hi.1; exact absurd hN (by omega)
  | succ N ih =>
    intro i s a hN hi
    obtain ⟨hi, hm⟩ := hi
    have hS0 := hS.1
    have hit : (nI i).toInt = i := nI_t (by omega)
    refine rj_ild dX5_ringCount_31 rfl ?_
    refine rj_ald0 dX5_ringCount_33 rfl ?_
    refine g5_18 (by first | assumption | rfl) dX5_ringCount_34 ?_
    refine rj_ic_ge (tgt := 61) dX5_ringCount_37 (by decide) (fun h_37 => ?_) (fun h_37 => ?_)
    · rw [hS0] at h_37
      rw [show rc.toInt.toNat - i = 0 by omega] at hm
      have hm2 : s = m := hm
      subst hm2
      exact hQ _ _
    · rw [hS0] at h_37
      rw [show rc.toInt.toNat - i = (rc.toInt.toNat - (i + 1)) + 1 by omega] at hm
      unfold rgA at hm
      refine rj_ild2 dX5_ringCount_40 rfl ?_
      refine rj_ic1 dX5_ringCount_41 ?_
      refine rj_ild dX5_ringCount_42 rfl ?_
      refine rj_ishl dX5_ringCount_44 ?_
      refine rj_ior dX5_ringCount_45 ?_
      refine rj_ist2 dX5_ringCount_46 (by decide) rfl ?_
      refine rj_ald0 dX5_ringCount_47 rfl ?_
      refine rj_ild dX5_ringCount_48 rfl ?_
      refine rj_V1i (ci := 5) cX5_53 rfl (by decide) (by first | assumption | rfl) dX5_ringCount_50 (c_X5_endOf hk hS hr) (fitM (by omega) (by decide)) (Nat.le_of_ble_eq_true rfl) ?_
      refine rj_ist4w dX5_ringCount_53 (by decide) rfl ?_
      refine rj_iinc5 (d := 1) dX5_ringCount_55 (by decide) rfl (by decide) ?_
      rw [nI_1]
      refine rj_goto (tgt := 31) dX5_ringCount_58 (by decide) ?_
      exact ih (i + 1) _ _ (by omega) ⟨by omega, hm⟩

set_option maxRecDepth 100000 in
theorem l_X5_ring2 {l : Launch} {X : CX} {h : Nat} {Q : Option Value → ST → Prop} {σ : ST} {k : Nat} {rc : Int32} {xs : List Int32} (hh : 1 ≤ h) (hk : kd k = 5) (hS : Sd σ k rc xs) (hr : rc.toInt ≤ 4) : ∀ (N i : Nat) (c s : Int32) (v4 v5 : Option Value), nl v4 = true → rc.toInt.toNat < i + N → (i ≤ rc.toInt.toNat ∧ Q (some (.int (rgB (eoF rc (stf xs).1) rc.toInt.toNat (rc.toInt.toNat - i) i c s))) σ) → RJ (GM l X h Q) X cX5_ringCount 6 (some .int) RX5 6 [some (.ref (ad X k)), some (.int c), some (.int s), some (.int (nI i)), v4, v5] [] σ := by
  intro N
  induction N with
  | zero => intro i c s v4 v5 h4 hN hi; have := hi.1; exact absurd hN (by omega)
  | succ N ih =>
    intro i c s v4 v5 h4 hN hi
    obtain ⟨hi, hQ⟩ := hi
    have hS0 := hS.1
    have hit : (nI i).toInt = i := nI_t (by omega)
    refine rj_ild3 dX5_ringCount_6 rfl ?_
    refine rj_ald0 dX5_ringCount_7 rfl ?_
    refine g5_18 (by first | assumption | rfl) dX5_ringCount_8 ?_
    refine rj_ic_ge (tgt := 67) dX5_ringCount_11 (by decide) (fun h_11 => ?_) (fun h_11 => ?_)
    · rw [hS0] at h_11
      refine rj_ild1 dX5_ringCount_67 rfl ?_
      refine rj_iret dX5_ringCount_68 ?_
      rw [show rc.toInt.toNat - i = 0 by omega] at hQ
      exact hQ
    · rw [hS0] at h_11
      rw [show rc.toInt.toNat - i = (rc.toInt.toNat - (i + 1)) + 1 by omega] at hQ
      unfold rgB at hQ
      refine rj_ild2 dX5_ringCount_14 rfl ?_
      refine rj_ild3 dX5_ringCount_15 rfl ?_
      refine rj_ishr dX5_ringCount_16 ?_
      refine rj_ic1 dX5_ringCount_17 ?_
      refine rj_iand dX5_ringCount_18 ?_
      refine rj_if_ne (tgt := 25) dX5_ringCount_19 (by decide) (fun h_19 => ?_) (fun h_19 => ?_)
      · rw [if_neg h_19] at hQ
        refine rj_ild3 dX5_ringCount_25 rfl ?_
        refine rj_ist4w dX5_ringCount_26 (by decide) rfl ?_
        refine rj_ic0 dX5_ringCount_28 ?_
        refine rj_ist5w dX5_ringCount_29 (by decide) rfl ?_
        refine l_X5_ring1 hh hk hS hr (fun v4 v5 => ?_) (rc.toInt.toNat + 1) 0 _ _ (by omega) ⟨by omega, rfl⟩
        refine rj_iinc3 (d := 1) dX5_ringCount_61 (by decide) rfl (by decide) ?_
        rw [nI_1]
        refine rj_goto (tgt := 6) dX5_ringCount_64 (by decide) ?_
        exact ih (i + 1) _ _ _ _ rfl (by omega) ⟨by omega, hQ⟩
      · rw [if_pos h_19] at hQ
        refine rj_iinc1 (d := 1) dX5_ringCount_22 (by decide) rfl (by decide) ?_
        refine rj_ild3 dX5_ringCount_25 rfl ?_
        refine rj_ist4w dX5_ringCount_26 (by decide) rfl ?_
        refine rj_ic0 dX5_ringCount_28 ?_
        refine rj_ist5w dX5_ringCount_29 (by decide) rfl ?_
        refine l_X5_ring1 hh hk hS hr (fun v4 v5 => ?_) (rc.toInt.toNat + 1) 0 _ _ (by omega) ⟨by omega, rfl⟩
        refine rj_iinc3 (d := 1) dX5_ringCount_61 (by decide) rfl (by decide) ?_
        rw [nI_1]
        refine rj_goto (tgt := 6) dX5_ringCount_64 (by decide) ?_
        exact ih (i + 1) _ _ _ _ rfl (by omega) ⟨by omega, hQ⟩

set_option maxRecDepth 100000 in
theorem c_X5_ringCount {l : Launch} {X : CX} {σ : ST} {k : Nat} {rc : Int32} {xs : List Int32} (hk : kd k = 5) (hS : Sd σ k rc xs) (hr : rc.toInt ≤ 4) : MJ l X 1 yX5_ringCount cX5_ringCount 6 (some .int) [.ref (ad X k)] σ (eqI (rgF rc (stf xs).1) σ) := by
  refine MJ_of (own := RX5) [some (.ref (ad X k)), none, none, none, none, none] (by decide) rfl (Nat.le_of_ble_eq_true rfl) rfl ?_
  refine rj_ic0 dX5_ringCount_0 ?_
  refine rj_ist1 dX5_ringCount_1 (by decide) rfl ?_
  refine rj_ic0 dX5_ringCount_2 ?_
  refine rj_ist2 dX5_ringCount_3 (by decide) rfl ?_
  refine rj_ic0 dX5_ringCount_4 ?_
  refine rj_ist3 dX5_ringCount_5 (by decide) rfl ?_
  exact l_X5_ring2 (by decide) hk hS hr (rc.toInt.toNat + 1) 0 _ _ _ _ rfl (by omega) ⟨by omega, ⟨rfl, rfl⟩⟩

abbrev endsAsInA (xs ys : List Int32) : Prop := ∀ j, j < 4 → (stf xs).1 j = (stf ys).1 j
set_option maxRecDepth 100000 in
theorem l_X5_endsAsIn {l : Launch} {X : CX} {h : Nat} {Q : Option Value → ST → Prop} {σ : ST} {k k1 : Nat} {rc rc1 : Int32} {xs ys : List Int32} (hk : kd k = 5) (hk1 : kd k1 = 5) (hS : Sd σ k rc xs) (hT : Sd σ k1 rc1 ys) (hQ : Q (some (.int (if endsAsInA xs ys then 1 else 0))) σ) : ∀ (N i : Nat), 4 < i + N → (i ≤ 4 ∧ ∀ j, j < i → (stf xs).1 j = (stf ys).1 j) → RJ (GM l X h Q) X cX5_endsAsIn 3 (some .boolean) RX5 2 [some (.ref (ad X k)), some (.ref (ad X k1)), some (.int (nI i))] [] σ := by
  intro N
  induction N with
  | zero => intro i hN hi; have := hi.1; exact absurd hN (by omega)
  | succ N ih =>
    intro i hN hi
    obtain ⟨hi, hv⟩ := hi
    obtain ⟨hka, hkl, hkb, hkm⟩ := sd_next hk
    obtain ⟨hka1, hkl1, hkb1, hkm1⟩ := sd_next hk1
    have hit : (nI i).toInt = i := nI_t (by omega)
    have hcap : (nI (ln (k + 1))).toInt = 4 := by rw [hkl]; decide
    refine rj_ild2 dX5_endsAsIn_2 rfl ?_
    refine rj_ald0 dX5_endsAsIn_3 rfl ?_
    refine g5_9 (by first | assumption | rfl) dX5_endsAsIn_4 ?_
    refine rj_alen (by first | assumption | rfl) dX5_endsAsIn_7 ?_
    refine rj_ic_ge (tgt := 34) dX5_endsAsIn_8 (by decide) (fun h_8 => ?_) (fun h_8 => ?_)
    · refine rj_ic1 dX5_endsAsIn_34 ?_
      refine rj_zret dX5_endsAsIn_35 (rfl) ?_
      rw [if_pos (fun j hj => hv j (by omega))] at hQ
      exact hQ
    · refine rj_ald0 dX5_endsAsIn_11 rfl ?_
      refine g5_9 (by first | assumption | rfl) dX5_endsAsIn_12 ?_
      refine rj_ild2 dX5_endsAsIn_15 rfl ?_
      refine rj_iald (by first | assumption | rfl) (vpi (by omega) (by rw [hkl]; omega)) dX5_endsAsIn_16 ?_
      rw [nI_clamp (by omega), hS.2.1 i (by omega)]
      refine rj_ald1 dX5_endsAsIn_17 rfl ?_
      refine g5_9 (by first | assumption | rfl) dX5_endsAsIn_18 ?_
      refine rj_ild2 dX5_endsAsIn_21 rfl ?_
      refine rj_iald (by first | assumption | rfl) (vpi (by omega) (by rw [hkl1]; omega)) dX5_endsAsIn_22 ?_
      rw [nI_clamp (by omega), hT.2.1 i (by omega)]
      refine rj_ic_eq (tgt := 28) dX5_endsAsIn_23 (by decide) (fun h_23 => ?_) (fun h_23 => ?_)
      · refine rj_iinc2 (d := 1) dX5_endsAsIn_28 (by decide) rfl (by decide) ?_
        rw [nI_1]
        refine rj_goto (tgt := 2) dX5_endsAsIn_31 (by decide) ?_
        exact ih (i + 1) (by omega) ⟨by omega, fun j hj => by rcases Nat.lt_or_ge j i with q | q; exact hv j q; rw [show j = i by omega]; exact h_23⟩
      · refine rj_ic0 dX5_endsAsIn_26 ?_
        refine rj_zret dX5_endsAsIn_27 (rfl) ?_
        rw [if_neg (fun q => h_23 (q i (by omega)))] at hQ
        exact hQ

set_option maxRecDepth 100000 in
theorem c_X5_endsAsIn {l : Launch} {X : CX} {σ : ST} {k k1 : Nat} {rc rc1 : Int32} {xs ys : List Int32} (hk : kd k = 5) (hk1 : kd k1 = 5) (hS : Sd σ k rc xs) (hT : Sd σ k1 rc1 ys) : MJ l X 0 yX5_endsAsIn cX5_endsAsIn 3 (some .boolean) [.ref (ad X k), .ref (ad X k1)] σ (eqI (if endsAsInA xs ys then 1 else 0) σ) := by
  refine MJ_of (own := RX5) [some (.ref (ad X k)), some (.ref (ad X k1)), none] (by decide) rfl (Nat.le_of_ble_eq_true rfl) rfl ?_
  refine rj_ic0 dX5_endsAsIn_0 ?_
  refine rj_ist2 dX5_endsAsIn_1 (by decide) rfl ?_
  exact l_X5_endsAsIn hk hk1 hS hT ⟨rfl, rfl⟩ 5 0 (by omega) ⟨by omega, fun j hj => absurd hj (by omega)⟩

abbrev linksAsInA (xs ys : List Int32) : Prop := ∀ j, j < 16 → (stf xs).2 j = (stf ys).2 j
set_option maxRecDepth 100000 in
theorem l_X5_linksAsIn {l : Launch} {X : CX} {h : Nat} {Q : Option Value → ST → Prop} {σ : ST} {k k1 : Nat} {rc rc1 : Int32} {xs ys : List Int32} (hk : kd k = 5) (hk1 : kd k1 = 5) (hS : Sd σ k rc xs) (hT : Sd σ k1 rc1 ys) (hQ : Q (some (.int (if linksAsInA xs ys then 1 else 0))) σ) : ∀ (N i : Nat), 16 < i + N → (i ≤ 16 ∧ ∀ j, j < i → (stf xs).2 j = (stf ys).2 j) → RJ (GM l X h Q) X cX5_linksAsIn 3 (some .boolean) RX5 2 [some (.ref (ad X k)), some (.ref (ad X k1)), some (.int (nI i))] [] σ := by
  intro N
  induction N with
  | zero => intro i hN hi; have := hi.1; exact absurd hN (by omega)
  | succ N ih =>
    intro i hN hi
    obtain ⟨hi, hv⟩ := hi
    obtain ⟨hka, hkl, hkb, hkm⟩ := sd_next hk
    obtain ⟨hka1, hkl1, hkb1, hkm1⟩ := sd_next hk1
    have hit : (nI i).toInt = i := nI_t (by omega)
    have hcap : (nI (ln (k + 2))).toInt = 16 := by rw [hkm]; decide
    refine rj_ild2 dX5_linksAsIn_2 rfl ?_
    refine rj_ald0 dX5_linksAsIn_3 rfl ?_
    refine g5_15 (by first | assumption | rfl) dX5_linksAsIn_4 ?_
    refine rj_alen (by first | assumption | rfl) dX5_linksAsIn_7 ?_
    refine rj_ic_ge (tgt := 34) dX5_linksAsIn_8 (by decide) (fun h_8 => ?_) (fun h_8 => ?_)
    · refine rj_ic1 dX5_linksAsIn_34 ?_
      refine rj_zret dX5_linksAsIn_35 (rfl) ?_
      rw [if_pos (fun j hj => hv j (by omega))] at hQ
      exact hQ
    · refine rj_ald0 dX5_linksAsIn_11 rfl ?_
      refine g5_15 (by first | assumption | rfl) dX5_linksAsIn_12 ?_
      refine rj_ild2 dX5_linksAsIn_15 rfl ?_
      refine rj_iald (by first | assumption | rfl) (vpi (by omega) (by rw [hkm]; omega)) dX5_linksAsIn_16 ?_
      rw [nI_clamp (by omega), hS.2.2 i (by omega)]
      refine rj_ald1 dX5_linksAsIn_17 rfl ?_
      refine g5_15 (by first | assumption | rfl) dX5_linksAsIn_18 ?_
      refine rj_ild2 dX5_linksAsIn_21 rfl ?_
      refine rj_iald (by first | assumption | rfl) (vpi (by omega) (by rw [hkm1]; omega)) dX5_linksAsIn_22 ?_
      rw [nI_clamp (by omega), hT.2.2 i (by omega)]
      refine rj_ic_eq (tgt := 28) dX5_linksAsIn_23 (by decide) (fun h_23 => ?_) (fun h_23 => ?_)
      · refine rj_iinc2 (d := 1) dX5_linksAsIn_28 (by decide) rfl (by decide) ?_
        rw [nI_1]
        refine rj_goto (tgt := 2) dX5_linksAsIn_31 (by decide) ?_
        exact ih (i + 1) (by omega) ⟨by omega, fun j hj => by rcases Nat.lt_or_ge j i with q | q; exact hv j q; rw [show j = i by omega]; exact h_23⟩
      · refine rj_ic0 dX5_linksAsIn_26 ?_
        refine rj_zret dX5_linksAsIn_27 (rfl) ?_
        rw [if_neg (fun q => h_23 (q i (by omega)))] at hQ
        exact hQ

set_option maxRecDepth 100000 in
theorem c_X5_linksAsIn {l : Launch} {X : CX} {σ : ST} {k k1 : Nat} {rc rc1 : Int32} {xs ys : List Int32} (hk : kd k = 5) (hk1 : kd k1 = 5) (hS : Sd σ k rc xs) (hT : Sd σ k1 rc1 ys) : MJ l X 0 yX5_linksAsIn cX5_linksAsIn 3 (some .boolean) [.ref (ad X k), .ref (ad X k1)] σ (eqI (if linksAsInA xs ys then 1 else 0) σ) := by
  refine MJ_of (own := RX5) [some (.ref (ad X k)), some (.ref (ad X k1)), none] (by decide) rfl (Nat.le_of_ble_eq_true rfl) rfl ?_
  refine rj_ic0 dX5_linksAsIn_0 ?_
  refine rj_ist2 dX5_linksAsIn_1 (by decide) rfl ?_
  exact l_X5_linksAsIn hk hk1 hS hT ⟨rfl, rfl⟩ 17 0 (by omega) ⟨by omega, fun j hj => absurd hj (by omega)⟩

