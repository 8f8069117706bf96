/-! telling a text to a fair -/
theorem fair_nt : ∀ k, k < 129 → kd k = 1 → (¬ fairC k 28 ∧ ¬ fairC k 29 ∧ ¬ fairC k 31) := by unfold fairC; decide +kernel
def nx (bs : List Int32) (p : Nat) : Nat := (tR bs p).1
def tlP (k : Nat) : Nat → Prop := fun a => a = 31 ∨ fairC k a
def TS (σ : ST) (k : Nat) (bs : List Int32) (p : Nat) (A : FA) : Prop := Tp σ 28 bs ∧ p ≤ bs.length ∧ Tk σ bs p ∧ Fr σ k A
def TQ (k : Nat) (bs : List Int32) (σ : ST) (r : Bool × Nat × FA) : Option Value → ST → Prop := fun v τ => v = some (.int (if r.1 = true then 1 else 0)) ∧ TS τ k bs r.2.1 r.2.2 ∧ off (tlP k) σ τ
def aAdd (A : FA) (j : Nat) (c : Int32) : FA := (A.1, A.2.1, A.2.2.set j ((A.2.2.getD j t0A).1, (A.2.2.getD j t0A).2 ++ [c]))
def tlC2 (bs : List Int32) (j p : Nat) (u : Bool) (A : FA) : Bool × Nat × FA := if isN bs p 1 (A.1 - 1) then (true, nx bs p, aAdd A j (if u = true then -(tR bs p).2 else (tR bs p).2)) else (false, p, A)
def tlC (bs : List Int32) (j p : Nat) (A : FA) : Bool × Nat × FA :=
  if (A.2.2.getD j t0A).2.length < 12 then (if isS bs p 45 then tlC2 bs j (nx bs p) true A else tlC2 bs j p false A) else (false, p, A)
def tlR (bs : List Int32) (p : Nat) (A : FA) : Bool × Nat × FA :=
  if 0 < A.2.2.length then (false, p, A) else if isN bs (nx bs p) 2 4 then (true, nx bs (nx bs p), ((tR bs (nx bs p)).2, A.2)) else (false, nx bs p, A)
def tlM (bs : List Int32) (p : Nat) (A : FA) : Bool × Nat × FA :=
  if isN bs (nx bs p) 0 (nI A.2.2.length - 1) then tlC bs (tR bs (nx bs p)).2.toInt.toNat (nx bs (nx bs p)) A else (false, nx bs p, A)
def tlL (bs : List Int32) (j : Nat) : Nat → Nat → FA → Bool × Nat × FA
  | 0, p, A => (false, p, A)
  | n + 1, p, A => if tS bs p = 2 ∨ isS bs p 45 then (if (tlC bs j p A).1 = true then tlL bs j n (tlC bs j p A).2.1 (tlC bs j p A).2.2 else tlC bs j p A) else (true, p, A)
def tlT (bs : List Int32) (kind : Int32) (p : Nat) (A : FA) : Bool × Nat × FA :=
  if (0 ≤ kind.toInt ∧ kind.toInt < 6) ∧ A.2.2.length < 8 then tlL bs A.2.2.length 13 (nx bs p) (A.1, A.2.1, A.2.2 ++ [(kind, [])]) else (false, p, A)
def kdN (bs : List Int32) (p : Nat) : Nat → Nat → Int32
  | 0, _ => -1
  | n + 1, j => if isW bs p (2 + j) then nI j else kdN bs p n (j + 1)
def tlI (bs : List Int32) (p : Nat) (A : FA) : Bool × Nat × FA :=
  if isW bs p 0 then tlR bs p A else if isW bs p 1 then tlM bs p A else tlT bs (kdN bs p 6 0) p A
def tlA (bs : List Int32) : Nat → Int32 → Nat → FA → Int32 × FA
  | 0, _, p, A => (-1 - nI (tF bs p), A)
  | n + 1, it, p, A => if (tlI bs p A).1 = true then (if tS bs (tlI bs p A).2.1 = 0 then (it, (tlI bs p A).2.2) else if isS bs (tlI bs p A).2.1 59 then tlA bs n (it + 1) (nx bs (tlI bs p A).2.1) (tlI bs p A).2.2 else (-1 - nI (tF bs (tlI bs p A).2.1), (tlI bs p A).2.2)) else (-1 - nI (tF bs (tlI bs p A).2.1), (tlI bs p A).2.2)
theorem ts_on {σ τ : ST} {k : Nat} {bs : List Int32} {p : Nat} {A : FA} (hk : kd k = 1) (h : TS σ k bs p A) (h1 : Tk τ bs (nx bs p)) (ho : off tkC σ τ) : TS τ k bs (nx bs p) A ∧ off (tlP k) σ τ :=
  ⟨⟨tp_tk h.1 ho, (tR_le h.2.1).2, h1, h.2.2.2.off ho (fun a ha => by rw [show a = 31 from ha]; exact (fair_nt k (kd_lt (by omega)) hk).2.2)⟩, ho.mono (fun a ha => Or.inl ha)⟩
theorem ts_fair {σ τ : ST} {k : Nat} {bs : List Int32} {p : Nat} {A A' : FA} (hk : kd k = 1) (h : TS σ k bs p A) (h1 : Fr τ k A') (ho : off (fairC k) σ τ) : TS τ k bs p A' ∧ off (tlP k) σ τ :=
  have hn := fair_nt k (kd_lt (by omega)) hk
  ⟨⟨h.1.off ho hn.1 hn.2.1, h.2.1, h.2.2.1.off ho hn.2.2, h1⟩, ho.mono (fun a ha => Or.inr ha)⟩
theorem c_X7_on {l : Launch} {X : CX} {σ : ST} {k : Nat} {bs : List Int32} {p : Nat} {A : FA} (hk : kd k = 1) (h : TS σ k bs p A) : MJ l X 1 yX6_goOn cX6_goOn 1 none [.ref (ad X 28)] σ (PV (fun τ => TS τ k bs (nx bs p) A ∧ off (tlP k) σ τ)) :=
  MJ_c (c_X9_goOn h.1 (tR_le h.2.1).2 h.2.2.1.2.2.1) (fun v τ q => ⟨q.1, ts_on hk h q.2.1 q.2.2⟩)
set_option maxRecDepth 100000 in
theorem c_X11_isKind {l : Launch} {X : CX} {σ : ST} {i : Int32} : MJ l X 0 yX11_isKind cX11_isKind 1 (some .boolean) [.int i] σ (eqI (if 0 ≤ i.toInt ∧ i.toInt < 6 then 1 else 0) σ) := by
  refine MJ_of (own := RX11) [some (.int i)] (by decide) rfl (Nat.le_of_ble_eq_true rfl) rfl ?_
  have h6 : (6 : Int32).toInt = 6 := by decide
  refine rj_ild0 dX11_isKind_0 rfl ?_
  refine rj_if_lt (tgt := 14) dX11_isKind_1 (by decide) (fun h_1 => ?_) (fun h_1 => ?_)
  · refine rj_ic0 dX11_isKind_14 ?_
    refine rj_zret dX11_isKind_15 (rfl) ?_
    first | (refine ⟨?_, rfl⟩; rw [if_pos (by omega)]; done) | (refine ⟨?_, rfl⟩; rw [if_neg (by omega)]; done) | (exfalso; omega)
  · refine rj_ild0 dX11_isKind_4 rfl ?_
    refine rj_bipush (v := 6) dX11_isKind_5 (by decide) ?_
    refine rj_ic_ge (tgt := 14) dX11_isKind_7 (by decide) (fun h_7 => ?_) (fun h_7 => ?_)
    · refine rj_ic0 dX11_isKind_14 ?_
      refine rj_zret dX11_isKind_15 (rfl) ?_
      first | (refine ⟨?_, rfl⟩; rw [if_pos (by omega)]; done) | (refine ⟨?_, rfl⟩; rw [if_neg (by omega)]; done) | (exfalso; omega)
    · refine rj_ic1 dX11_isKind_10 ?_
      refine rj_goto (tgt := 15) dX11_isKind_11 (by decide) ?_
      refine rj_zret dX11_isKind_15 (rfl) ?_
      first | (refine ⟨?_, rfl⟩; rw [if_pos (by omega)]; done) | (refine ⟨?_, rfl⟩; rw [if_neg (by omega)]; done) | (exfalso; omega)

set_option maxRecDepth 100000 in
theorem c_X7_nameOf0 {l : Launch} {X : CX} {σ : ST}  : MJ l X 0 yX7_nameOf cX7_nameOf 1 (some (.object "java/lang/String")) [.int (nI 0)] σ (eqR (.ref (X.2.2.2 (10 + (2 + 0)))) σ) := by
  refine MJ_of (own := RX7) [some (.int (nI 0))] (by decide) rfl (Nat.le_of_ble_eq_true rfl) rfl ?_
  refine rj_ild0 dX7_nameOf_0 rfl ?_
  · refine rj_tabIn (tgt := 36) dX7_nameOf_1 (by decide) (by decide) rfl (by decide) ?_
    refine rj_ldcS (i := 2) (by decide) rfl dX7_nameOf_36 ?_
    refine rj_aret dX7_nameOf_38 ?_
    exact ⟨rfl, rfl⟩

set_option maxRecDepth 100000 in
theorem c_X7_nameOf1 {l : Launch} {X : CX} {σ : ST}  : MJ l X 0 yX7_nameOf cX7_nameOf 1 (some (.object "java/lang/String")) [.int (nI 1)] σ (eqR (.ref (X.2.2.2 (10 + (2 + 1)))) σ) := by
  refine MJ_of (own := RX7) [some (.int (nI 1))] (by decide) rfl (Nat.le_of_ble_eq_true rfl) rfl ?_
  refine rj_ild0 dX7_nameOf_0 rfl ?_
  · refine rj_tabIn (tgt := 39) dX7_nameOf_1 (by decide) (by decide) rfl (by decide) ?_
    refine rj_ldcS (i := 3) (by decide) rfl dX7_nameOf_39 ?_
    refine rj_aret dX7_nameOf_41 ?_
    exact ⟨rfl, rfl⟩

set_option maxRecDepth 100000 in
theorem c_X7_nameOf2 {l : Launch} {X : CX} {σ : ST}  : MJ l X 0 yX7_nameOf cX7_nameOf 1 (some (.object "java/lang/String")) [.int (nI 2)] σ (eqR (.ref (X.2.2.2 (10 + (2 + 2)))) σ) := by
  refine MJ_of (own := RX7) [some (.int (nI 2))] (by decide) rfl (Nat.le_of_ble_eq_true rfl) rfl ?_
  refine rj_ild0 dX7_nameOf_0 rfl ?_
  · refine rj_tabIn (tgt := 42) dX7_nameOf_1 (by decide) (by decide) rfl (by decide) ?_
    refine rj_ldcS (i := 4) (by decide) rfl dX7_nameOf_42 ?_
    refine rj_aret dX7_nameOf_44 ?_
    exact ⟨rfl, rfl⟩

set_option maxRecDepth 100000 in
theorem c_X7_nameOf3 {l : Launch} {X : CX} {σ : ST}  : MJ l X 0 yX7_nameOf cX7_nameOf 1 (some (.object "java/lang/String")) [.int (nI 3)] σ (eqR (.ref (X.2.2.2 (10 + (2 + 3)))) σ) := by
  refine MJ_of (own := RX7) [some (.int (nI 3))] (by decide) rfl (Nat.le_of_ble_eq_true rfl) rfl ?_
  refine rj_ild0 dX7_nameOf_0 rfl ?_
  · refine rj_tabIn (tgt := 45) dX7_nameOf_1 (by decide) (by decide) rfl (by decide) ?_
    refine rj_ldcS (i := 5) (by decide) rfl dX7_nameOf_45 ?_
    refine rj_aret dX7_nameOf_47 ?_
    exact ⟨rfl, rfl⟩

set_option maxRecDepth 100000 in
theorem c_X7_nameOf4 {l : Launch} {X : CX} {σ : ST}  : MJ l X 0 yX7_nameOf cX7_nameOf 1 (some (.object "java/lang/String")) [.int (nI 4)] σ (eqR (.ref (X.2.2.2 (10 + (2 + 4)))) σ) := by
  refine MJ_of (own := RX7) [some (.int (nI 4))] (by decide) rfl (Nat.le_of_ble_eq_true rfl) rfl ?_
  refine rj_ild0 dX7_nameOf_0 rfl ?_
  · refine rj_tabIn (tgt := 48) dX7_nameOf_1 (by decide) (by decide) rfl (by decide) ?_
    refine rj_ldcS (i := 6) (by decide) rfl dX7_nameOf_48 ?_
    refine rj_aret dX7_nameOf_50 ?_
    exact ⟨rfl, rfl⟩

set_option maxRecDepth 100000 in
theorem c_X7_nameOf5 {l : Launch} {X : CX} {σ : ST}  : MJ l X 0 yX7_nameOf cX7_nameOf 1 (some (.object "java/lang/String")) [.int (nI 5)] σ (eqR (.ref (X.2.2.2 (10 + (2 + 5)))) σ) := by
  refine MJ_of (own := RX7) [some (.int (nI 5))] (by decide) rfl (Nat.le_of_ble_eq_true rfl) rfl ?_
  refine rj_ild0 dX7_nameOf_0 rfl ?_
  · refine rj_tabOut (tgt := 51) dX7_nameOf_1 (by decide) (by decide) ?_
    refine rj_ldcS (i := 7) (by decide) rfl dX7_nameOf_51 ?_
    refine rj_aret dX7_nameOf_53 ?_
    exact ⟨rfl, rfl⟩

theorem c_X7_nameOf {l : Launch} {X : CX} {σ : ST} {n : Nat} (hn : n < 6) : MJ l X 0 yX7_nameOf cX7_nameOf 1 (some (.object "java/lang/String")) [.int (nI n)] σ (eqR (.ref (X.2.2.2 (10 + (2 + n)))) σ) := by
  rcases n with _ | _ | _ | _ | _ | _ | n
  · exact c_X7_nameOf0
  · exact c_X7_nameOf1
  · exact c_X7_nameOf2
  · exact c_X7_nameOf3
  · exact c_X7_nameOf4
  · exact c_X7_nameOf5
  · omega
set_option maxRecDepth 100000 in
theorem l_X7_kindNamed {l : Launch} {X : CX} {h : Nat} {Q : Option Value → ST → Prop} {σ : ST} {k : Nat} {bs : List Int32} {p : Nat} {A : FA} (hk : kd k = 1) (hS : TS σ k bs p A) (hh : 5 ≤ h) : ∀ (N j : Nat), 6 < j + N → (j ≤ 6 ∧ Q (some (.int (kdN bs p (6 - j) j))) σ) → RJ (GM l X h Q) X cX7_kindNamed 2 (some .int) RX7 2 [some (.ref (ad X 28)), some (.int (nI j))] [] σ := by
  intro N
  induction N with
  | zero => intro j hN hi; have := hi.1; exact absurd hN (by omega)
  | succ N ih =>
    intro j hN hi
    obtain ⟨hj, hQ⟩ := hi
    have hjt : (nI j).toInt = j := nI_t (by omega)
    have h6 : (6 : Int32).toInt = 6 := by decide
    refine rj_ild1 dX7_kindNamed_2 rfl ?_
    refine rj_bipush (v := 6) dX7_kindNamed_3 (by decide) ?_
    refine rj_ic_ge (tgt := 27) dX7_kindNamed_5 (by decide) (fun h_5 => ?_) (fun h_5 => ?_)
    · refine rj_icm1 dX7_kindNamed_27 ?_
      refine rj_iret dX7_kindNamed_28 ?_
      rw [show 6 - j = 0 by omega] at hQ
      exact hQ
    · rw [show 6 - j = (6 - (j + 1)) + 1 by omega] at hQ
      unfold kdN at hQ
      refine rj_ald0 dX7_kindNamed_8 rfl ?_
      refine rj_ild1 dX7_kindNamed_9 rfl ?_
      refine rj_S1r cX7_56 dX7_kindNamed_10 (c_X7_nameOf (by omega)) (fitM (by omega) (by decide)) (Nat.le_of_ble_eq_true rfl) ?_
      refine rj_V1i (ci := 6) cX7_36 rfl (by decide) (by first | assumption | rfl) dX7_kindNamed_13 (c_X9_isWord hS.1 hS.2.1 hS.2.2.1 (i := 2 + j) (by omega)) (fitM (by omega) (by decide)) (Nat.le_of_ble_eq_true rfl) ?_
      refine rj_if_eq (tgt := 21) dX7_kindNamed_16 (by decide) (fun h_19 => ?_) (fun h_19 => ?_)
      · have hb_19 := bz_t h_19
        rw [if_neg hb_19] at hQ
        refine rj_iinc1 (d := 1) dX7_kindNamed_21 (by decide) rfl (by decide) ?_
        rw [nI_1]
        refine rj_goto (tgt := 2) dX7_kindNamed_24 (by decide) ?_
        exact ih (j + 1) (by omega) ⟨by omega, hQ⟩
      · have hb_19 := bz_f h_19
        refine rj_ild1 dX7_kindNamed_19 rfl ?_
        refine rj_iret dX7_kindNamed_20 ?_
        rw [if_pos hb_19] at hQ
        exact hQ

set_option maxRecDepth 100000 in
theorem c_X7_kindNamed {l : Launch} {X : CX} {σ : ST} {k : Nat} {bs : List Int32} {p : Nat} {A : FA} (hk : kd k = 1) (hS : TS σ k bs p A) : MJ l X 5 yX7_kindNamed cX7_kindNamed 2 (some .int) [.ref (ad X 28)] σ (eqI (kdN bs p 6 0) σ) := by
  refine MJ_of (own := RX7) [some (.ref (ad X 28)), none] (by decide) rfl (Nat.le_of_ble_eq_true rfl) rfl ?_
  refine rj_ic0 dX7_kindNamed_0 ?_
  refine rj_ist1 dX7_kindNamed_1 (by decide) rfl ?_
  exact l_X7_kindNamed hk hS (by decide) 7 0 (by omega) ⟨by omega, ⟨rfl, rfl⟩⟩

set_option maxRecDepth 100000 in
theorem c_X7_tellCrossing {l : Launch} {X : CX} {σ : ST} {k : Nat} {bs : List Int32} {p : Nat} {A : FA} (hk : kd k = 1) (hS : TS σ k bs p A) {j : Nat} (hj : j < A.2.2.length) : MJ l X 2 yX7_tellCrossing cX7_tellCrossing 4 (some .boolean) [.ref (ad X 28), .ref (ad X k), .ref (ad X (tk k j))] σ (TQ k bs σ (tlC bs j p A)) := by
  refine MJ_of (own := RX7) [some (.ref (ad X 28)), some (.ref (ad X k)), some (.ref (ad X (tk k j))), none] (by decide) rfl (Nat.le_of_ble_eq_true rfl) rfl ?_
  have hj8 : j < 8 := Nat.lt_of_lt_of_le hj hS.2.2.2.2.2.2.1
  have hkt := (fair_next hk).2.2 j hj8
  obtain ⟨hkr, hka, hln⟩ := tie_next hkt
  have hti := fr_tie hS.2.2.2 hj
  have hx := hti.2
  refine rj_ald2 dX7_tellCrossing_0 rfl ?_
  refine rj_nu_ref dX7_tellCrossing_1 ?_
  refine rj_ald2 dX7_tellCrossing_4 rfl ?_
  refine g7_107 (by first | assumption | rfl) dX7_tellCrossing_5 ?_
  refine rj_V0i (ci := 2) cX7_113 rfl (by decide) (by first | assumption | rfl) dX7_tellCrossing_8 (c_X2_hasRoom (n := (A.2.2.getD j t0A).2.length) hkr hx.1 hx.2.1) (fitM (by decide) (by decide)) (Nat.le_of_ble_eq_true rfl) ?_
  refine rj_if_ne (tgt := 16) dX7_tellCrossing_11 (by decide) (fun h_11 => ?_) (fun h_11 => ?_)
  · have hb_11 := bz_f h_11
    rw [hln] at hb_11
    have hlt := hb_11
    refine rj_ald0 dX7_tellCrossing_16 rfl ?_
    refine rj_bipush (v := 45) dX7_tellCrossing_17 (by decide) ?_
    refine rj_V1i (ci := 6) cX7_24 rfl (by decide) (by first | assumption | rfl) dX7_tellCrossing_19 (c_X9_isSign hS.1 hS.2.1 hS.2.2.1) (fitM (by decide) (by decide)) (Nat.le_of_ble_eq_true rfl) ?_
    refine rj_ist3 dX7_tellCrossing_22 (by decide) rfl ?_
    refine rj_ild3 dX7_tellCrossing_23 rfl ?_
    refine rj_if_eq (tgt := 31) dX7_tellCrossing_24 (by decide) (fun h_27 => ?_) (fun h_27 => ?_)
    · have hb := bz_t h_27
      have hS1 := hS
      have ho1 : off (tlP k) σ σ := off.rf
      refine rj_ald0 dX7_tellCrossing_31 rfl ?_
      refine rj_ic1 dX7_tellCrossing_32 ?_
      refine rj_ald1 dX7_tellCrossing_33 rfl ?_
      refine g7_84 (by first | assumption | rfl) dX7_tellCrossing_34 ?_
      rw [hS1.2.2.2.2.1]
      refine rj_ic1 dX7_tellCrossing_37 ?_
      refine rj_isub dX7_tellCrossing_38 ?_
      refine rj_V2i (ci := 6) cX7_77 rfl (by decide) (by first | assumption | rfl) dX7_tellCrossing_39 (c_X9_isNumber hS1.1 hS1.2.1 hS1.2.2.1) (fitM (by decide) (by decide)) (Nat.le_of_ble_eq_true rfl) ?_
      refine rj_if_ne (tgt := 47) dX7_tellCrossing_42 (by decide) (fun h_51 => ?_) (fun h_51 => ?_)
      · have hb_51 := bz_f h_51
        refine rj_ald2 dX7_tellCrossing_47 rfl ?_
        refine g7_107 (by first | assumption | rfl) dX7_tellCrossing_48 ?_
        refine rj_ild3 dX7_tellCrossing_51 rfl ?_
        refine rj_if_eq (tgt := 63) dX7_tellCrossing_52 (by decide) (fun h_61 => ?_) (fun h_61 => ?_)
        · refine rj_ald0 dX7_tellCrossing_63 rfl ?_
          refine g7_81 (by first | assumption | rfl) dX7_tellCrossing_64 ?_
          rw [hS1.2.2.1.2.2.2]
          refine rj_V1 (ci := 2) cX7_118 rfl (by decide) (by first | assumption | rfl) dX7_tellCrossing_67 (c_X2_appendL hkr (fr_tie hS1.2.2.2 hj).2 (by rw [hln]; exact hlt)) (fitM (by decide) (by decide)) (Nat.le_of_ble_eq_true rfl) ?_
          rintro v φ ⟨rfl, hx2, ho2⟩
          simp only [Option.toList, List.nil_append]
          have hu := fr_upd (kind := (A.2.2.getD j t0A).1) hS1.2.2.2 hj (ho2.mono (fun a ha => ha.elim (fun q => Or.inr (Or.inl q)) (fun q => Or.inr (Or.inr q)))) (⟨by rw [(ho2 _ (by unfold rowC; omega)).1]; exact (fr_tie hS1.2.2.2 hj).1, hx2⟩)
          have hS2 := ts_fair hk hS1 hu.1 hu.2
          refine rj_ald0 dX7_tellCrossing_70 rfl ?_
          refine rj_V0 (ci := 6) cX7_28 rfl (by decide) (by first | assumption | rfl) dX7_tellCrossing_71 (c_X7_on hk hS2.1) (fitM (by decide) (by decide)) (Nat.le_of_ble_eq_true rfl) ?_
          rintro v ψ ⟨rfl, hS3, ho3⟩
          simp only [Option.toList, List.nil_append]
          refine rj_ic1 dX7_tellCrossing_74 ?_
          refine rj_zret dX7_tellCrossing_75 (rfl) ?_
          have e : tlC bs j p A = (true, nx bs p, aAdd A j ((tR bs p).2)) := by unfold tlC; rw [if_pos hlt, if_neg hb]; unfold tlC2; rw [if_pos hb_51]; rfl
          rw [e]
          exact ⟨rfl, hS3, (ho1.tr hS2.2).tr ho3⟩
        · exact absurd (bz_f h_61) hb
      · have hb_51 := bz_t h_51
        refine rj_ic0 dX7_tellCrossing_45 ?_
        refine rj_zret dX7_tellCrossing_46 (rfl) ?_
        have e : tlC bs j p A = (false, p, A) := by unfold tlC; rw [if_pos hlt, if_neg hb]; unfold tlC2; rw [if_neg hb_51]
        rw [e]
        exact ⟨rfl, hS1, ho1⟩
    · have hb := bz_f h_27
      refine rj_ald0 dX7_tellCrossing_27 rfl ?_
      refine rj_V0 (ci := 6) cX7_28 rfl (by decide) (by first | assumption | rfl) dX7_tellCrossing_28 (c_X7_on hk hS) (fitM (by decide) (by decide)) (Nat.le_of_ble_eq_true rfl) ?_
      rintro v υ ⟨rfl, hS1, ho1⟩
      simp only [Option.toList, List.nil_append]
      refine rj_ald0 dX7_tellCrossing_31 rfl ?_
      refine rj_ic1 dX7_tellCrossing_32 ?_
      refine rj_ald1 dX7_tellCrossing_33 rfl ?_
      refine g7_84 (by first | assumption | rfl) dX7_tellCrossing_34 ?_
      rw [hS1.2.2.2.2.1]
      refine rj_ic1 dX7_tellCrossing_37 ?_
      refine rj_isub dX7_tellCrossing_38 ?_
      refine rj_V2i (ci := 6) cX7_77 rfl (by decide) (by first | assumption | rfl) dX7_tellCrossing_39 (c_X9_isNumber hS1.1 hS1.2.1 hS1.2.2.1) (fitM (by decide) (by decide)) (Nat.le_of_ble_eq_true rfl) ?_
      refine rj_if_ne (tgt := 47) dX7_tellCrossing_42 (by decide) (fun h_51 => ?_) (fun h_51 => ?_)
      · have hb_51 := bz_f h_51
        refine rj_ald2 dX7_tellCrossing_47 rfl ?_
        refine g7_107 (by first | assumption | rfl) dX7_tellCrossing_48 ?_
        refine rj_ild3 dX7_tellCrossing_51 rfl ?_
        refine rj_if_eq (tgt := 63) dX7_tellCrossing_52 (by decide) (fun h_61 => ?_) (fun h_61 => ?_)
        · exact absurd (bz_t h_61) (not_not_intro hb)
        · refine rj_ald0 dX7_tellCrossing_55 rfl ?_
          refine g7_81 (by first | assumption | rfl) dX7_tellCrossing_56 ?_
          rw [hS1.2.2.1.2.2.2]
          refine rj_ineg dX7_tellCrossing_59 ?_
          refine rj_goto (tgt := 67) dX7_tellCrossing_60 (by decide) ?_
          refine rj_V1 (ci := 2) cX7_118 rfl (by decide) (by first | assumption | rfl) dX7_tellCrossing_67 (c_X2_appendL hkr (fr_tie hS1.2.2.2 hj).2 (by rw [hln]; exact hlt)) (fitM (by decide) (by decide)) (Nat.le_of_ble_eq_true rfl) ?_
          rintro v φ ⟨rfl, hx2, ho2⟩
          simp only [Option.toList, List.nil_append]
          have hu := fr_upd (kind := (A.2.2.getD j t0A).1) hS1.2.2.2 hj (ho2.mono (fun a ha => ha.elim (fun q => Or.inr (Or.inl q)) (fun q => Or.inr (Or.inr q)))) (⟨by rw [(ho2 _ (by unfold rowC; omega)).1]; exact (fr_tie hS1.2.2.2 hj).1, hx2⟩)
          have hS2 := ts_fair hk hS1 hu.1 hu.2
          refine rj_ald0 dX7_tellCrossing_70 rfl ?_
          refine rj_V0 (ci := 6) cX7_28 rfl (by decide) (by first | assumption | rfl) dX7_tellCrossing_71 (c_X7_on hk hS2.1) (fitM (by decide) (by decide)) (Nat.le_of_ble_eq_true rfl) ?_
          rintro v ψ ⟨rfl, hS3, ho3⟩
          simp only [Option.toList, List.nil_append]
          refine rj_ic1 dX7_tellCrossing_74 ?_
          refine rj_zret dX7_tellCrossing_75 (rfl) ?_
          have e : tlC bs j p A = (true, nx bs (nx bs p), aAdd A j (-(tR bs (nx bs p)).2)) := by unfold tlC; rw [if_pos hlt, if_pos hb]; unfold tlC2; rw [if_pos hb_51]; rfl
          rw [e]
          exact ⟨rfl, hS3, (ho1.tr hS2.2).tr ho3⟩
      · have hb_51 := bz_t h_51
        refine rj_ic0 dX7_tellCrossing_45 ?_
        refine rj_zret dX7_tellCrossing_46 (rfl) ?_
        have e : tlC bs j p A = (false, nx bs p, A) := by unfold tlC; rw [if_pos hlt, if_pos hb]; unfold tlC2; rw [if_neg hb_51]
        rw [e]
        exact ⟨rfl, hS1, ho1⟩
  · have hb_11 := bz_t h_11
    rw [hln] at hb_11
    refine rj_ic0 dX7_tellCrossing_14 ?_
    refine rj_zret dX7_tellCrossing_15 (rfl) ?_
    have e : tlC bs j p A = (false, p, A) := by unfold tlC; rw [if_neg hb_11]
    rw [e]
    exact ⟨rfl, hS, off.rf⟩

theorem tlC_len (bs : List Int32) (j p : Nat) (A : FA) : (tlC bs j p A).2.2.2.2.length = A.2.2.length := by
  unfold tlC tlC2 aAdd
  split
  · split <;> split <;> simp
  · rfl
theorem fr_rope {σ : ST} {k : Nat} {A : FA} {v : Int32} (h : Fr σ k A) : Fr (ui σ k 2 v) k (v, A.2) ∧ off (fairC k) σ (ui σ k 2 v) := by
  obtain ⟨a, b, c, d, e, f⟩ := h
  have ho : off (fun a => a = k) σ (ui σ k 2 v) := off.rf.ui rfl
  refine ⟨⟨by rw [ui_nj (by decide)]; exact a, ui_same _ _ _ _, by rw [ui_nj (by decide)]; exact c, d, fun j hj => (e j hj).off ho (by unfold tk; omega) (by unfold tk; omega) (by unfold tk; omega), fun j hj => ?_⟩, ho.mono (fun a ha => by rw [show a = k from ha]; unfold fairC; omega)⟩
  obtain ⟨xs, hx⟩ := f j hj
  exact ⟨xs, hx.off ho (by unfold tk; omega) (by unfold tk; omega)⟩
set_option maxRecDepth 100000 in
theorem c_X7_tellRopes {l : Launch} {X : CX} {σ : ST} {k : Nat} {bs : List Int32} {p : Nat} {A : FA} (hk : kd k = 1) (hS : TS σ k bs p A) : MJ l X 2 yX7_tellRopes cX7_tellRopes 2 (some .boolean) [.ref (ad X 28), .ref (ad X k)] σ (TQ k bs σ (tlR bs p A)) := by
  refine MJ_of (own := RX7) [some (.ref (ad X 28)), some (.ref (ad X k))] (by decide) rfl (Nat.le_of_ble_eq_true rfl) rfl ?_
  have hl := hS.2.2.2.1
  refine rj_ald1 dX7_tellRopes_0 rfl ?_
  refine g7_72 (by first | assumption | rfl) dX7_tellRopes_1 ?_
  refine rj_if_le (tgt := 9) dX7_tellRopes_4 (by decide) (fun h_4 => ?_) (fun h_4 => ?_)
  · refine rj_ald0 dX7_tellRopes_9 rfl ?_
    refine rj_V0 (ci := 6) cX7_28 rfl (by decide) (by first | assumption | rfl) dX7_tellRopes_10 (c_X7_on hk hS) (fitM (by decide) (by decide)) (Nat.le_of_ble_eq_true rfl) ?_
    rintro v υ ⟨rfl, hS1, ho1⟩
    simp only [Option.toList, List.nil_append]
    refine rj_ald0 dX7_tellRopes_13 rfl ?_
    refine rj_ic2 dX7_tellRopes_14 ?_
    refine rj_ic4 dX7_tellRopes_15 ?_
    refine rj_V2i (ci := 6) cX7_77 rfl (by decide) (by first | assumption | rfl) dX7_tellRopes_16 (c_X9_isNumber hS1.1 hS1.2.1 hS1.2.2.1) (fitM (by decide) (by decide)) (Nat.le_of_ble_eq_true rfl) ?_
    refine rj_if_ne (tgt := 24) dX7_tellRopes_19 (by decide) (fun h_25 => ?_) (fun h_25 => ?_)
    · have hb_25 := bz_f h_25
      refine rj_ald1 dX7_tellRopes_24 rfl ?_
      refine rj_ald0 dX7_tellRopes_25 rfl ?_
      refine g7_81 (by first | assumption | rfl) dX7_tellRopes_26 ?_
      rw [hS1.2.2.1.2.2.2]
      refine p7_84 (by first | assumption | rfl) dX7_tellRopes_29 ?_
      have hr := fr_rope (v := (tR bs (nx bs p)).2) hS1.2.2.2
      have hS2 := ts_fair hk hS1 hr.1 hr.2
      refine rj_ald0 dX7_tellRopes_32 rfl ?_
      refine rj_V0 (ci := 6) cX7_28 rfl (by decide) (by first | assumption | rfl) dX7_tellRopes_33 (c_X7_on hk hS2.1) (fitM (by decide) (by decide)) (Nat.le_of_ble_eq_true rfl) ?_
      rintro v φ ⟨rfl, hS3, ho3⟩
      simp only [Option.toList, List.nil_append]
      refine rj_ic1 dX7_tellRopes_36 ?_
      refine rj_zret dX7_tellRopes_37 (rfl) ?_
      have e : tlR bs p A = (true, nx bs (nx bs p), ((tR bs (nx bs p)).2, A.2)) := by unfold tlR; rw [if_neg (by omega), if_pos hb_25]
      rw [e]
      exact ⟨rfl, hS3, (ho1.tr hS2.2).tr ho3⟩
    · have hb_25 := bz_t h_25
      refine rj_ic0 dX7_tellRopes_22 ?_
      refine rj_zret dX7_tellRopes_23 (rfl) ?_
      have e : tlR bs p A = (false, nx bs p, A) := by unfold tlR; rw [if_neg (by omega), if_neg hb_25]
      rw [e]
      exact ⟨rfl, hS1, ho1⟩
  · refine rj_ic0 dX7_tellRopes_7 ?_
    refine rj_zret dX7_tellRopes_8 (rfl) ?_
    have e : tlR bs p A = (false, p, A) := by unfold tlR; rw [if_pos (by omega)]
    rw [e]
    exact ⟨rfl, hS, off.rf⟩

set_option maxRecDepth 100000 in
theorem c_X7_tellMore {l : Launch} {X : CX} {σ : ST} {k : Nat} {bs : List Int32} {p : Nat} {A : FA} (hk : kd k = 1) (hS : TS σ k bs p A) : MJ l X 3 yX7_tellMore cX7_tellMore 3 (some .boolean) [.ref (ad X 28), .ref (ad X k)] σ (TQ k bs σ (tlM bs p A)) := by
  refine MJ_of (own := RX7) [some (.ref (ad X 28)), some (.ref (ad X k)), none] (by decide) rfl (Nat.le_of_ble_eq_true rfl) rfl ?_
  have hl := hS.2.2.2.1
  have h8 := hS.2.2.2.2.2.2.1
  refine rj_ald0 dX7_tellMore_0 rfl ?_
  refine rj_V0 (ci := 6) cX7_28 rfl (by decide) (by first | assumption | rfl) dX7_tellMore_1 (c_X7_on hk hS) (fitM (by decide) (by decide)) (Nat.le_of_ble_eq_true rfl) ?_
  rintro v υ ⟨rfl, hS1, ho1⟩
  simp only [Option.toList, List.nil_append]
  refine rj_ald0 dX7_tellMore_4 rfl ?_
  refine rj_ic0 dX7_tellMore_5 ?_
  refine rj_ald1 dX7_tellMore_6 rfl ?_
  refine g7_72 (by first | assumption | rfl) dX7_tellMore_7 ?_
  rw [nI_of_toInt hS1.2.2.2.1]
  refine rj_ic1 dX7_tellMore_10 ?_
  refine rj_isub dX7_tellMore_11 ?_
  refine rj_V2i (ci := 6) cX7_77 rfl (by decide) (by first | assumption | rfl) dX7_tellMore_12 (c_X9_isNumber hS1.1 hS1.2.1 hS1.2.2.1) (fitM (by decide) (by decide)) (Nat.le_of_ble_eq_true rfl) ?_
  refine rj_if_ne (tgt := 20) dX7_tellMore_15 (by decide) (fun h_21 => ?_) (fun h_21 => ?_)
  · have hb_21 := bz_f h_21
    have h3 := hb_21.2.1
    have h4 := hb_21.2.2
    rw [i_sub (by rw [t1, nI_t (by omega)]; omega) (by rw [t1, nI_t (by omega)]; omega), t1, nI_t (by omega)] at h4
    rw [t0] at h3
    have hv : (tR bs (nx bs p)).2.toInt = (tR bs (nx bs p)).2.toInt.toNat := by omega
    have hj : (tR bs (nx bs p)).2.toInt.toNat < A.2.2.length := by omega
    refine rj_ald1 dX7_tellMore_20 rfl ?_
    refine rj_ald0 dX7_tellMore_21 rfl ?_
    refine g7_81 (by first | assumption | rfl) dX7_tellMore_22 ?_
    rw [hS1.2.2.1.2.2.2]
    refine rj_V1r (ci := 1) cX7_87 rfl (by decide) (by first | assumption | rfl) dX7_tellMore_25 (c_X1_tieIn hk hS1.2.2.2.1 h8 hv hj) (fitM (by decide) (by decide)) (Nat.le_of_ble_eq_true rfl) ?_
    refine rj_ast2 dX7_tellMore_28 (by decide) rfl ?_
    refine rj_ald0 dX7_tellMore_29 rfl ?_
    refine rj_V0 (ci := 6) cX7_28 rfl (by decide) (by first | assumption | rfl) dX7_tellMore_30 (c_X7_on hk hS1) (fitM (by decide) (by decide)) (Nat.le_of_ble_eq_true rfl) ?_
    rintro v φ ⟨rfl, hS2, ho2⟩
    simp only [Option.toList, List.nil_append]
    refine rj_ald0 dX7_tellMore_33 rfl ?_
    refine rj_ald1 dX7_tellMore_34 rfl ?_
    refine rj_ald2 dX7_tellMore_35 rfl ?_
    refine rj_S3 cX7_91 dX7_tellMore_36 (c_X7_tellCrossing hk hS2 hj) (fitM (by decide) (by decide)) (Nat.le_of_ble_eq_true rfl) ?_
    rintro v ψ ⟨rfl, hS3, ho3⟩
    simp only [Option.toList, List.cons_append, List.nil_append]
    refine rj_zret dX7_tellMore_39 (by split <;> rfl) ?_
    have e : tlM bs p A = tlC bs (tR bs (nx bs p)).2.toInt.toNat (nx bs (nx bs p)) A := by unfold tlM; rw [if_pos hb_21]
    rw [e]
    exact ⟨rfl, hS3, (ho1.tr ho2).tr ho3⟩
  · have hb_21 := bz_t h_21
    refine rj_ic0 dX7_tellMore_18 ?_
    refine rj_zret dX7_tellMore_19 (rfl) ?_
    have e : tlM bs p A = (false, nx bs p, A) := by unfold tlM; rw [if_neg hb_21]
    rw [e]
    exact ⟨rfl, hS1, ho1⟩

set_option maxRecDepth 100000 in
theorem l_X7_tie {l : Launch} {X : CX} {h : Nat} {Q : Option Value → ST → Prop} {σ : ST} {k : Nat} {bs : List Int32} {kind : Int32} {j : Nat} (hk : kd k = 1) (hh : 3 ≤ h) {r : Bool × Nat × FA} (hQ : ∀ v τ, TQ k bs σ r v τ → Q v τ) : ∀ (N i : Nat) (p : Nat) (A : FA) (τ : ST), 13 < i + N → (i ≤ 13 ∧ TS τ k bs p A ∧ j < A.2.2.length ∧ off (tlP k) σ τ ∧ tlL bs j (13 - i) p A = r) → RJ (GM l X h Q) X cX7_tellTie 5 (some .boolean) RX7 33 [some (.ref (ad X 28)), some (.ref (ad X k)), some (.int kind), some (.ref (ad X (tk k j))), some (.int (nI i))] [] τ := by
  intro N
  induction N with
  | zero => intro i p A τ hN hi; have := hi.1; exact absurd hN (by omega)
  | succ N ih =>
    intro i p A τ hN hi
    obtain ⟨hi, hS, hj, ho, hr⟩ := hi
    have hit : (nI i).toInt = i := nI_t (by omega)
    have h12 : (12 : Int32).toInt = 12 := by decide
    refine rj_ild dX7_tellTie_33 rfl ?_
    refine rj_bipush (v := 12) dX7_tellTie_35 (by decide) ?_
    refine rj_ic_gt (tgt := 76) dX7_tellTie_37 (by decide) (fun h_40 => ?_) (fun h_40 => ?_)
    · refine rj_ic0 dX7_tellTie_76 ?_
      refine rj_zret dX7_tellTie_77 (rfl) ?_
      rw [show 13 - i = 0 by omega] at hr
      unfold tlL at hr
      subst hr
      exact hQ _ _ ⟨rfl, hS, ho⟩
    · rw [show 13 - i = (13 - (i + 1)) + 1 by omega] at hr
      unfold tlL at hr
      refine rj_ald0 dX7_tellTie_40 rfl ?_
      refine g7_20 (by first | assumption | rfl) dX7_tellTie_41 ?_
      refine rj_ic2 dX7_tellTie_44 ?_
      refine rj_ic_eq (tgt := 59) dX7_tellTie_45 (by decide) (fun h_51 => ?_) (fun h_51 => ?_)
      · rw [hS.2.2.1.1] at h_51
        rw [if_pos (Or.inl h_51)] at hr
        refine rj_ald0 dX7_tellTie_59 rfl ?_
        refine rj_ald1 dX7_tellTie_60 rfl ?_
        refine rj_ald3 dX7_tellTie_61 rfl ?_
        refine rj_S3 cX7_91 dX7_tellTie_62 (c_X7_tellCrossing hk hS hj) (fitM (by omega) (by decide)) (Nat.le_of_ble_eq_true rfl) ?_
        rintro v υ ⟨rfl, hS1, ho1⟩
        simp only [Option.toList, List.cons_append, List.nil_append]
        refine rj_if_ne (tgt := 70) dX7_tellTie_65 (by decide) (fun h_74 => ?_) (fun h_74 => ?_)
        · have hb_74 := bz_f h_74
          rw [if_pos hb_74] at hr
          refine rj_iinc4 (d := 1) dX7_tellTie_70 (by decide) rfl (by decide) ?_
          rw [nI_1]
          refine rj_goto (tgt := 33) dX7_tellTie_73 (by decide) ?_
          exact ih (i + 1) _ _ _ (by omega) ⟨by omega, hS1, by rw [tlC_len]; exact hj, ho.tr ho1, hr⟩
        · have hb_74 := bz_t h_74
          rw [if_neg hb_74] at hr
          refine rj_ic0 dX7_tellTie_68 ?_
          refine rj_zret dX7_tellTie_69 (rfl) ?_
          subst hr
          exact hQ _ _ ⟨by rw [if_neg hb_74], hS1, ho.tr ho1⟩
      · rw [hS.2.2.1.1] at h_51
        refine rj_ald0 dX7_tellTie_48 rfl ?_
        refine rj_bipush (v := 45) dX7_tellTie_49 (by decide) ?_
        refine rj_V1i (ci := 6) cX7_24 rfl (by decide) (by first | assumption | rfl) dX7_tellTie_51 (c_X9_isSign hS.1 hS.2.1 hS.2.2.1) (fitM (by omega) (by decide)) (Nat.le_of_ble_eq_true rfl) ?_
        refine rj_if_ne (tgt := 59) dX7_tellTie_54 (by decide) (fun h_63 => ?_) (fun h_63 => ?_)
        · have hb_63 := bz_f h_63
          rw [if_pos (Or.inr hb_63)] at hr
          refine rj_ald0 dX7_tellTie_59 rfl ?_
          refine rj_ald1 dX7_tellTie_60 rfl ?_
          refine rj_ald3 dX7_tellTie_61 rfl ?_
          refine rj_S3 cX7_91 dX7_tellTie_62 (c_X7_tellCrossing hk hS hj) (fitM (by omega) (by decide)) (Nat.le_of_ble_eq_true rfl) ?_
          rintro v υ ⟨rfl, hS1, ho1⟩
          simp only [Option.toList, List.cons_append, List.nil_append]
          refine rj_if_ne (tgt := 70) dX7_tellTie_65 (by decide) (fun h_74 => ?_) (fun h_74 => ?_)
          · have hb_74 := bz_f h_74
            rw [if_pos hb_74] at hr
            refine rj_iinc4 (d := 1) dX7_tellTie_70 (by decide) rfl (by decide) ?_
            rw [nI_1]
            refine rj_goto (tgt := 33) dX7_tellTie_73 (by decide) ?_
            exact ih (i + 1) _ _ _ (by omega) ⟨by omega, hS1, by rw [tlC_len]; exact hj, ho.tr ho1, hr⟩
          · have hb_74 := bz_t h_74
            rw [if_neg hb_74] at hr
            refine rj_ic0 dX7_tellTie_68 ?_
            refine rj_zret dX7_tellTie_69 (rfl) ?_
            subst hr
            exact hQ _ _ ⟨by rw [if_neg hb_74], hS1, ho.tr ho1⟩
        · have hb_63 := bz_t h_63
          rw [if_neg (fun q => q.elim h_51 hb_63)] at hr
          refine rj_ic1 dX7_tellTie_57 ?_
          refine rj_zret dX7_tellTie_58 (rfl) ?_
          subst hr
          exact hQ _ _ ⟨rfl, hS, ho⟩

set_option maxRecDepth 100000 in
theorem c_X7_tellTie {l : Launch} {X : CX} {σ : ST} {k : Nat} {bs : List Int32} {p : Nat} {A : FA} (hk : kd k = 1) (hS : TS σ k bs p A) {kind : Int32} : MJ l X 3 yX7_tellTie cX7_tellTie 5 (some .boolean) [.ref (ad X 28), .ref (ad X k), .int kind] σ (TQ k bs σ (tlT bs kind p A)) := by
  refine MJ_of (own := RX7) [some (.ref (ad X 28)), some (.ref (ad X k)), some (.int kind), none, none] (by decide) rfl (Nat.le_of_ble_eq_true rfl) rfl ?_
  have hl := hS.2.2.2.1
  have h8 := hS.2.2.2.2.2.2.1
  refine rj_ild2 dX7_tellTie_0 rfl ?_
  refine rj_N1i cX7_95 dX7_tellTie_1 c_X11_isKind (fitM (by decide) (by decide)) (Nat.le_of_ble_eq_true rfl) ?_
  refine rj_if_eq (tgt := 14) dX7_tellTie_4 (by decide) (fun h_4 => ?_) (fun h_4 => ?_)
  · have hb_4 := bz_t h_4
    refine rj_ic0 dX7_tellTie_14 ?_
    refine rj_zret dX7_tellTie_15 (rfl) ?_
    have e : tlT bs kind p A = (false, p, A) := by unfold tlT; rw [if_neg (fun q => hb_4 q.1)]
    rw [e]
    exact ⟨rfl, hS, off.rf⟩
  · have hb_4 := bz_f h_4
    refine rj_ald1 dX7_tellTie_7 rfl ?_
    refine rj_V0i (ci := 1) cX7_99 rfl (by decide) (by first | assumption | rfl) dX7_tellTie_8 (c_X1_hasRoomForTie hk hS.2.2.2) (fitM (by decide) (by decide)) (Nat.le_of_ble_eq_true rfl) ?_
    refine rj_if_ne (tgt := 16) dX7_tellTie_11 (by decide) (fun h_11 => ?_) (fun h_11 => ?_)
    · have hb_11 := bz_f h_11
      refine rj_ald1 dX7_tellTie_16 rfl ?_
      refine rj_ald1 dX7_tellTie_17 rfl ?_
      refine rj_ild2 dX7_tellTie_18 rfl ?_
      refine rj_V1 (ci := 1) cX7_103 rfl (by decide) (by first | assumption | rfl) dX7_tellTie_19 (c_X1_begin hk hS.2.2.2 hb_11) (fitM (by decide) (by decide)) (Nat.le_of_ble_eq_true rfl) ?_
      rintro v υ ⟨rfl, hF1, hoF⟩
      simp only [Option.toList, List.cons_append, List.nil_append]
      have hS1 := ts_fair hk hS hF1 hoF
      have hlen : (A.2.2 ++ [(kind, ([] : List Int32))]).length = A.2.2.length + 1 := by simp
      refine rj_V1r (ci := 1) cX7_87 rfl (by decide) (by first | assumption | rfl) dX7_tellTie_22 (c_X1_tieIn hk hS1.1.2.2.2.1 (by show (A.2.2 ++ [(kind, ([] : List Int32))]).length ≤ 8; omega) (nI_t (n := A.2.2.length) (by omega)) (by show A.2.2.length < (A.2.2 ++ [(kind, ([] : List Int32))]).length; omega)) (fitM (by decide) (by decide)) (Nat.le_of_ble_eq_true rfl) ?_
      refine rj_ast3 dX7_tellTie_25 (by decide) rfl ?_
      refine rj_ald0 dX7_tellTie_26 rfl ?_
      refine rj_V0 (ci := 6) cX7_28 rfl (by decide) (by first | assumption | rfl) dX7_tellTie_27 (c_X7_on hk hS1.1) (fitM (by decide) (by decide)) (Nat.le_of_ble_eq_true rfl) ?_
      rintro v φ ⟨rfl, hS2, ho2⟩
      simp only [Option.toList, List.nil_append]
      refine rj_ic0 dX7_tellTie_30 ?_
      refine rj_ist4w dX7_tellTie_31 (by decide) rfl ?_
      have e : tlT bs kind p A = tlL bs A.2.2.length 13 (nx bs p) (A.1, A.2.1, A.2.2 ++ [(kind, [])]) := by unfold tlT; rw [if_pos ⟨hb_4, hb_11⟩]
      exact l_X7_tie hk (by decide) (fun v τ h => h) 14 0 _ _ φ (by omega) ⟨by omega, hS2, by show A.2.2.length < (A.2.2 ++ [(kind, ([] : List Int32))]).length; omega, hS1.2.tr ho2, e.symm⟩
    · have hb_11 := bz_t h_11
      refine rj_ic0 dX7_tellTie_14 ?_
      refine rj_zret dX7_tellTie_15 (rfl) ?_
      have e : tlT bs kind p A = (false, p, A) := by unfold tlT; rw [if_neg (fun q => hb_11 q.2)]
      rw [e]
      exact ⟨rfl, hS, off.rf⟩

set_option maxRecDepth 100000 in
theorem c_X7_tellItem {l : Launch} {X : CX} {σ : ST} {k : Nat} {bs : List Int32} {p : Nat} {A : FA} (hk : kd k = 1) (hS : TS σ k bs p A) : MJ l X 6 yX7_tellItem cX7_tellItem 2 (some .boolean) [.ref (ad X 28), .ref (ad X k)] σ (TQ k bs σ (tlI bs p A)) := by
  refine MJ_of (own := RX7) [some (.ref (ad X 28)), some (.ref (ad X k))] (by decide) rfl (Nat.le_of_ble_eq_true rfl) rfl ?_
  refine rj_ald0 dX7_tellItem_0 rfl ?_
  refine rj_ldcS (i := 0) (by decide) rfl dX7_tellItem_1 ?_
  refine rj_V1i (ci := 6) cX7_36 rfl (by decide) (by first | assumption | rfl) dX7_tellItem_3 (c_X9_isWord hS.1 hS.2.1 hS.2.2.1 (i := 0) (by decide)) (fitM (by decide) (by decide)) (Nat.le_of_ble_eq_true rfl) ?_
  refine rj_if_eq (tgt := 15) dX7_tellItem_6 (by decide) (fun h_9 => ?_) (fun h_9 => ?_)
  · have hb_9 := bz_t h_9
    refine rj_ald0 dX7_tellItem_15 rfl ?_
    refine rj_ldcS (i := 1) (by decide) rfl dX7_tellItem_16 ?_
    refine rj_V1i (ci := 6) cX7_36 rfl (by decide) (by first | assumption | rfl) dX7_tellItem_18 (c_X9_isWord hS.1 hS.2.1 hS.2.2.1 (i := 1) (by decide)) (fitM (by decide) (by decide)) (Nat.le_of_ble_eq_true rfl) ?_
    refine rj_if_eq (tgt := 30) dX7_tellItem_21 (by decide) (fun h_27 => ?_) (fun h_27 => ?_)
    · have hb_27 := bz_t h_27
      refine rj_ald0 dX7_tellItem_30 rfl ?_
      refine rj_ald1 dX7_tellItem_31 rfl ?_
      refine rj_ald0 dX7_tellItem_32 rfl ?_
      refine rj_S1i cX7_48 dX7_tellItem_33 (c_X7_kindNamed hk hS) (fitM (by decide) (by decide)) (Nat.le_of_ble_eq_true rfl) ?_
      refine rj_S3 cX7_52 dX7_tellItem_36 (c_X7_tellTie hk hS) (fitM (by decide) (by decide)) (Nat.le_of_ble_eq_true rfl) ?_
      rintro v ψ ⟨rfl, hS3, ho3⟩
      simp only [Option.toList, List.cons_append, List.nil_append]
      refine rj_zret dX7_tellItem_39 (by split <;> rfl) ?_
      have e : tlI bs p A = tlT bs (kdN bs p 6 0) p A := by unfold tlI; rw [if_neg hb_9, if_neg hb_27]
      rw [e]
      exact ⟨rfl, hS3, ho3⟩
    · have hb_27 := bz_f h_27
      refine rj_ald0 dX7_tellItem_24 rfl ?_
      refine rj_ald1 dX7_tellItem_25 rfl ?_
      refine rj_S2 cX7_45 dX7_tellItem_26 (c_X7_tellMore hk hS) (fitM (by decide) (by decide)) (Nat.le_of_ble_eq_true rfl) ?_
      rintro v ψ ⟨rfl, hS3, ho3⟩
      simp only [Option.toList, List.cons_append, List.nil_append]
      refine rj_zret dX7_tellItem_29 (by split <;> rfl) ?_
      have e : tlI bs p A = tlM bs p A := by unfold tlI; rw [if_neg hb_9, if_pos hb_27]
      rw [e]
      exact ⟨rfl, hS3, ho3⟩
  · have hb_9 := bz_f h_9
    refine rj_ald0 dX7_tellItem_9 rfl ?_
    refine rj_ald1 dX7_tellItem_10 rfl ?_
    refine rj_S2 cX7_40 dX7_tellItem_11 (c_X7_tellRopes hk hS) (fitM (by decide) (by decide)) (Nat.le_of_ble_eq_true rfl) ?_
    rintro v ψ ⟨rfl, hS3, ho3⟩
    simp only [Option.toList, List.cons_append, List.nil_append]
    refine rj_zret dX7_tellItem_14 (by split <;> rfl) ?_
    have e : tlI bs p A = tlR bs p A := by unfold tlI; rw [if_pos hb_9]
    rw [e]
    exact ⟨rfl, hS3, ho3⟩

def TQ2 (k : Nat) (bs : List Int32) (σ : ST) (r : Int32 × FA) : Option Value → ST → Prop := fun v τ => v = some (.int r.1) ∧ Tp τ 28 bs ∧ Fr τ k r.2 ∧ off (tlP k) σ τ
set_option maxRecDepth 100000 in
theorem l_X7_tell {l : Launch} {X : CX} {h : Nat} {Q : Option Value → ST → Prop} {σ : ST} {k : Nat} {bs : List Int32} (hk : kd k = 1) (hh : 7 ≤ h) {r : Int32 × FA} (hQ : ∀ v τ, TQ2 k bs σ r v τ → Q v τ) : ∀ (N i : Nat) (p : Nat) (A : FA) (τ : ST), 121 < i + N → (i ≤ 121 ∧ TS τ k bs p A ∧ off (tlP k) σ τ ∧ tlA bs (121 - i) (nI i) p A = r) → RJ (GM l X h Q) X cX7_tell 3 (some .int) RX7 6 [some (.ref (ad X 28)), some (.ref (ad X k)), some (.int (nI i))] [] τ := by
  intro N
  induction N with
  | zero => intro i p A τ hN hi; have := hi.1; exact absurd hN (by omega)
  | succ N ih =>
    intro i p A τ hN hi
    obtain ⟨hi, hS, ho, hr⟩ := hi
    have hit : (nI i).toInt = i := nI_t (by omega)
    have h12 : (120 : Int32).toInt = 120 := by decide
    refine rj_ild2 dX7_tell_6 rfl ?_
    refine rj_bipush (v := 120) dX7_tell_7 (by decide) ?_
    refine rj_ic_gt (tgt := 54) dX7_tell_9 (by decide) (fun h_12 => ?_) (fun h_12 => ?_)
    · rw [show 121 - i = 0 by omega] at hr
      unfold tlA at hr
      refine rj_icm1 dX7_tell_54 ?_
      refine rj_ald0 dX7_tell_55 rfl ?_
      refine g7_31 (by first | assumption | rfl) dX7_tell_56 ?_
      rw [hS.2.2.1.2.1]
      refine rj_isub dX7_tell_59 ?_
      refine rj_iret dX7_tell_60 ?_
      subst hr
      exact hQ _ _ ⟨rfl, hS.1, hS.2.2.2, ho⟩
    · rw [show 121 - i = (121 - (i + 1)) + 1 by omega] at hr
      unfold tlA at hr
      refine rj_ald0 dX7_tell_12 rfl ?_
      refine rj_ald1 dX7_tell_13 rfl ?_
      refine rj_S2 cX7_14 dX7_tell_14 (c_X7_tellItem hk hS) (fitM (by omega) (by decide)) (Nat.le_of_ble_eq_true rfl) ?_
      rintro v υ ⟨rfl, hS1, ho1⟩
      simp only [Option.toList, List.cons_append, List.nil_append]
      refine rj_if_ne (tgt := 23) dX7_tell_17 (by decide) (fun h_20 => ?_) (fun h_20 => ?_)
      · have hb_20 := bz_f h_20
        rw [if_pos hb_20] at hr
        refine rj_ald0 dX7_tell_23 rfl ?_
        refine g7_20 (by first | assumption | rfl) dX7_tell_24 ?_
        refine rj_if_ne (tgt := 32) dX7_tell_27 (by decide) (fun h_33 => ?_) (fun h_33 => ?_)
        · rw [hS1.2.2.1.1] at h_33
          rw [if_neg h_33] at hr
          refine rj_ald0 dX7_tell_32 rfl ?_
          refine rj_bipush (v := 59) dX7_tell_33 (by decide) ?_
          refine rj_V1i (ci := 6) cX7_24 rfl (by decide) (by first | assumption | rfl) dX7_tell_35 (c_X9_isSign hS1.1 hS1.2.1 hS1.2.2.1) (fitM (by omega) (by decide)) (Nat.le_of_ble_eq_true rfl) ?_
          refine rj_if_ne (tgt := 44) dX7_tell_38 (by decide) (fun h_47 => ?_) (fun h_47 => ?_)
          · have hb_47 := bz_f h_47
            rw [if_pos hb_47] at hr
            refine rj_ald0 dX7_tell_44 rfl ?_
            refine rj_V0 (ci := 6) cX7_28 rfl (by decide) (by first | assumption | rfl) dX7_tell_45 (c_X7_on hk hS1) (fitM (by omega) (by decide)) (Nat.le_of_ble_eq_true rfl) ?_
            rintro v φ ⟨rfl, hS2, ho2⟩
            simp only [Option.toList, List.nil_append]
            refine rj_iinc2 (d := 1) dX7_tell_48 (by decide) rfl (by decide) ?_
            rw [nI_1] at *
            refine rj_goto (tgt := 6) dX7_tell_51 (by decide) ?_
            exact ih (i + 1) _ _ _ (by omega) ⟨by omega, hS2, (ho.tr ho1).tr ho2, hr⟩
          · have hb_47 := bz_t h_47
            rw [if_neg hb_47] at hr
            refine rj_goto (tgt := 54) dX7_tell_41 (by decide) ?_
            refine rj_icm1 dX7_tell_54 ?_
            refine rj_ald0 dX7_tell_55 rfl ?_
            refine g7_31 (by first | assumption | rfl) dX7_tell_56 ?_
            rw [hS1.2.2.1.2.1]
            refine rj_isub dX7_tell_59 ?_
            refine rj_iret dX7_tell_60 ?_
            subst hr
            exact hQ _ _ ⟨rfl, hS1.1, hS1.2.2.2, ho.tr ho1⟩
        · rw [hS1.2.2.1.1] at h_33
          rw [if_pos h_33] at hr
          refine rj_ild2 dX7_tell_30 rfl ?_
          refine rj_iret dX7_tell_31 ?_
          subst hr
          exact hQ _ _ ⟨rfl, hS1.1, hS1.2.2.2, ho.tr ho1⟩
      · have hb_20 := bz_t h_20
        rw [if_neg hb_20] at hr
        refine rj_goto (tgt := 54) dX7_tell_20 (by decide) ?_
        refine rj_icm1 dX7_tell_54 ?_
        refine rj_ald0 dX7_tell_55 rfl ?_
        refine g7_31 (by first | assumption | rfl) dX7_tell_56 ?_
        rw [hS1.2.2.1.2.1]
        refine rj_isub dX7_tell_59 ?_
        refine rj_iret dX7_tell_60 ?_
        subst hr
        exact hQ _ _ ⟨rfl, hS1.1, hS1.2.2.2, ho.tr ho1⟩

set_option maxRecDepth 100000 in
theorem c_X7_tell {l : Launch} {X : CX} {σ : ST} {k : Nat} {bs : List Int32} {A : FA} (hk : kd k = 1) (hT : Tp σ 28 bs) (hF : Fr σ k A) : MJ l X 7 yX7_tell cX7_tell 3 (some .int) [.ref (ad X 28), .ref (ad X k)] σ (TQ2 k bs σ (tlA bs 120 1 0 A)) := by
  refine MJ_of (own := RX7) [some (.ref (ad X 28)), some (.ref (ad X k)), none] (by decide) rfl (Nat.le_of_ble_eq_true rfl) rfl ?_
  refine rj_ald0 dX7_tell_0 rfl ?_
  refine rj_V0 (ci := 6) cX7_9 rfl (by decide) (by first | assumption | rfl) dX7_tell_1 (c_X9_goToFirst hT) (fitM (by decide) (by decide)) (Nat.le_of_ble_eq_true rfl) ?_
  rintro v υ ⟨rfl, hK, ho⟩
  simp only [Option.toList, List.nil_append]
  have hS : TS υ k bs 0 A := ⟨tp_tk hT ho, Nat.zero_le _, hK, hF.off ho (fun a ha => by rw [show a = 31 from ha]; exact (fair_nt k (kd_lt (by omega)) hk).2.2)⟩
  refine rj_ic1 dX7_tell_4 ?_
  refine rj_ist2 dX7_tell_5 (by decide) rfl ?_
  exact l_X7_tell hk (by decide) (fun v τ h => h) 121 1 0 A υ (by omega) ⟨by omega, hS, ho.mono (fun a ha => Or.inl ha), rfl⟩

