/-! the law: its loop -/
theorem and63 (x : Int32) : 0 ≤ (x &&& 63).toInt ∧ (x &&& 63).toInt ≤ 63 := by
  have h1 : (x &&& 63).toBitVec.toNat ≤ 63 := by
    rw [Int32.toBitVec_and, BitVec.toNat_and]
    exact Nat.and_le_right
  rw [i_bv (by omega)]
  omega
set_option maxRecDepth 100000 in
theorem law_sw {l : Launch} {X : CX} {b L k n i : Nat} {xs : Nat → Int32} {σ : ST} (hk : k ≤ 600000) (hn : n ≤ 7302250) (hL : L ≤ 3072) (hi : i + 6 ≤ L) (hI : LI σ) (hY : ∀ τ, LI τ → RJ (GL l X b L xs k n) X cL_law 4 (some .boolean) RL 1571 [some (.ref b), some (.ref (ad X 0)), some (.ref (ad X 112)), some (.int (nI i))] [] τ) {v : Int32} : ∀ q : Nat, v.toInt = q → RJ (GL l X b L xs k n) X cL_law 4 (some .boolean) RL 33 [some (.ref b), some (.ref (ad X 0)), some (.ref (ad X 112)), some (.int (nI i))] [.int v] σ
  | 0, hv => rj_tabIn (tgt := 232) dL_law_33 (by omega) (by omega) (by rw [hv]; rfl) (by decide) (lawc_0 hk hn hL hi hI hY)
  | 1, hv => rj_tabIn (tgt := 255) dL_law_33 (by omega) (by omega) (by rw [hv]; rfl) (by decide) (lawc_1 hk hn hL hi hI hY)
  | 2, hv => rj_tabIn (tgt := 278) dL_law_33 (by omega) (by omega) (by rw [hv]; rfl) (by decide) (lawc_2 hk hn hL hi hI hY)
  | 3, hv => rj_tabIn (tgt := 311) dL_law_33 (by omega) (by omega) (by rw [hv]; rfl) (by decide) (lawc_3 hk hn hL hi hI hY)
  | 4, hv => rj_tabIn (tgt := 334) dL_law_33 (by omega) (by omega) (by rw [hv]; rfl) (by decide) (lawc_4 hk hn hL hi hI hY)
  | 5, hv => rj_tabIn (tgt := 367) dL_law_33 (by omega) (by omega) (by rw [hv]; rfl) (by decide) (lawc_5 hk hn hL hi hI hY)
  | 6, hv => rj_tabIn (tgt := 400) dL_law_33 (by omega) (by omega) (by rw [hv]; rfl) (by decide) (lawc_6 hk hn hL hi hI hY)
  | 7, hv => rj_tabIn (tgt := 433) dL_law_33 (by omega) (by omega) (by rw [hv]; rfl) (by decide) (lawc_7 hk hn hL hi hI hY)
  | 8, hv => rj_tabIn (tgt := 466) dL_law_33 (by omega) (by omega) (by rw [hv]; rfl) (by decide) (lawc_8 hk hn hL hi hI hY)
  | 9, hv => rj_tabIn (tgt := 499) dL_law_33 (by omega) (by omega) (by rw [hv]; rfl) (by decide) (lawc_9 hk hn hL hi hI hY)
  | 10, hv => rj_tabIn (tgt := 532) dL_law_33 (by omega) (by omega) (by rw [hv]; rfl) (by decide) (lawc_10 hk hn hL hi hI hY)
  | 11, hv => rj_tabIn (tgt := 555) dL_law_33 (by omega) (by omega) (by rw [hv]; rfl) (by decide) (lawc_11 hk hn hL hi hI hY)
  | 12, hv => rj_tabIn (tgt := 578) dL_law_33 (by omega) (by omega) (by rw [hv]; rfl) (by decide) (lawc_12 hk hn hL hi hI hY)
  | 13, hv => rj_tabIn (tgt := 611) dL_law_33 (by omega) (by omega) (by rw [hv]; rfl) (by decide) (lawc_13 hk hn hL hi hI hY)
  | 14, hv => rj_tabIn (tgt := 644) dL_law_33 (by omega) (by omega) (by rw [hv]; rfl) (by decide) (lawc_14 hk hn hL hi hI hY)
  | 15, hv => rj_tabIn (tgt := 677) dL_law_33 (by omega) (by omega) (by rw [hv]; rfl) (by decide) (lawc_15 hk hn hL hi hI hY)
  | 16, hv => rj_tabIn (tgt := 710) dL_law_33 (by omega) (by omega) (by rw [hv]; rfl) (by decide) (lawc_16 hk hn hL hi hI hY)
  | 17, hv => rj_tabIn (tgt := 733) dL_law_33 (by omega) (by omega) (by rw [hv]; rfl) (by decide) (lawc_17 hk hn hL hi hI hY)
  | 18, hv => rj_tabIn (tgt := 766) dL_law_33 (by omega) (by omega) (by rw [hv]; rfl) (by decide) (lawc_18 hk hn hL hi hI hY)
  | 19, hv => rj_tabIn (tgt := 789) dL_law_33 (by omega) (by omega) (by rw [hv]; rfl) (by decide) (lawc_19 hk hn hL hi hI hY)
  | 20, hv => rj_tabIn (tgt := 832) dL_law_33 (by omega) (by omega) (by rw [hv]; rfl) (by decide) (lawc_20 hk hn hL hi hI hY)
  | 21, hv => rj_tabIn (tgt := 855) dL_law_33 (by omega) (by omega) (by rw [hv]; rfl) (by decide) (lawc_21 hk hn hL hi hI hY)
  | 22, hv => rj_tabIn (tgt := 888) dL_law_33 (by omega) (by omega) (by rw [hv]; rfl) (by decide) (lawc_22 hk hn hL hi hI hY)
  | 23, hv => rj_tabIn (tgt := 911) dL_law_33 (by omega) (by omega) (by rw [hv]; rfl) (by decide) (lawc_23 hk hn hL hi hI hY)
  | 24, hv => rj_tabIn (tgt := 944) dL_law_33 (by omega) (by omega) (by rw [hv]; rfl) (by decide) (lawc_24 hk hn hL hi hI hY)
  | 25, hv => rj_tabIn (tgt := 977) dL_law_33 (by omega) (by omega) (by rw [hv]; rfl) (by decide) (lawc_25 hk hn hL hi hI hY)
  | 26, hv => rj_tabIn (tgt := 1000) dL_law_33 (by omega) (by omega) (by rw [hv]; rfl) (by decide) (lawc_26 hk hn hL hi hI hY)
  | 27, hv => rj_tabIn (tgt := 1023) dL_law_33 (by omega) (by omega) (by rw [hv]; rfl) (by decide) (lawc_27 hk hn hL hi hI hY)
  | 28, hv => rj_tabIn (tgt := 1046) dL_law_33 (by omega) (by omega) (by rw [hv]; rfl) (by decide) (lawc_28 hk hn hL hi hI hY)
  | 29, hv => rj_tabIn (tgt := 1069) dL_law_33 (by omega) (by omega) (by rw [hv]; rfl) (by decide) (lawc_29 hk hn hL hi hI hY)
  | 30, hv => rj_tabIn (tgt := 1102) dL_law_33 (by omega) (by omega) (by rw [hv]; rfl) (by decide) (lawc_30 hk hn hL hi hI hY)
  | 31, hv => rj_tabIn (tgt := 1135) dL_law_33 (by omega) (by omega) (by rw [hv]; rfl) (by decide) (lawc_31 hk hn hL hi hI hY)
  | 32, hv => rj_tabIn (tgt := 1158) dL_law_33 (by omega) (by omega) (by rw [hv]; rfl) (by decide) (lawc_32 hk hn hL hi hI hY)
  | 33, hv => rj_tabIn (tgt := 1191) dL_law_33 (by omega) (by omega) (by rw [hv]; rfl) (by decide) (lawc_33 hk hn hL hi hI hY)
  | 34, hv => rj_tabIn (tgt := 1204) dL_law_33 (by omega) (by omega) (by rw [hv]; rfl) (by decide) (lawc_34 hk hn hL hi hI hY)
  | 35, hv => rj_tabIn (tgt := 1217) dL_law_33 (by omega) (by omega) (by rw [hv]; rfl) (by decide) (lawc_35 hk hn hL hi hI hY)
  | 36, hv => rj_tabIn (tgt := 1260) dL_law_33 (by omega) (by omega) (by rw [hv]; rfl) (by decide) (lawc_36 hk hn hL hi hI hY)
  | 37, hv => rj_tabIn (tgt := 1334) dL_law_33 (by omega) (by omega) (by rw [hv]; rfl) (by decide) (lawc_37 hk hn hL hi hI hY)
  | 38, hv => rj_tabIn (tgt := 1397) dL_law_33 (by omega) (by omega) (by rw [hv]; rfl) (by decide) (lawc_38 hk hn hL hi hI hY)
  | 39, hv => rj_tabIn (tgt := 1430) dL_law_33 (by omega) (by omega) (by rw [hv]; rfl) (by decide) (lawc_39 hk hn hL hi hI hY)
  | 40, hv => rj_tabIn (tgt := 1463) dL_law_33 (by omega) (by omega) (by rw [hv]; rfl) (by decide) (lawc_40 hk hn hL hi hI hY)
  | 41, hv => rj_tabIn (tgt := 1486) dL_law_33 (by omega) (by omega) (by rw [hv]; rfl) (by decide) (lawc_41 hk hn hL hi hI hY)
  | 42, hv => rj_tabIn (tgt := 1499) dL_law_33 (by omega) (by omega) (by rw [hv]; rfl) (by decide) (lawc_42 hk hn hL hi hI hY)
  | 43, hv => rj_tabIn (tgt := 1512) dL_law_33 (by omega) (by omega) (by rw [hv]; rfl) (by decide) (lawc_43 hk hn hL hi hI hY)
  | 44, hv => rj_tabIn (tgt := 1525) dL_law_33 (by omega) (by omega) (by rw [hv]; rfl) (by decide) (lawc_44 hk hn hL hi hI hY)
  | 45, hv => rj_tabIn (tgt := 1548) dL_law_33 (by omega) (by omega) (by rw [hv]; rfl) (by decide) (lawc_45 hk hn hL hi hI hY)
  | q + 46, hv => rj_tabOut (tgt := 1571) dL_law_33 (Or.inr (by omega)) (by decide) (hY σ hI)

set_option maxRecDepth 100000 in
theorem law_tail {l : Launch} {X : CX} {b L k n i : Nat} {xs : Nat → Int32} {σ : ST} : RJ (GL l X b L xs k n) X cL_law 4 (some .boolean) RL 18 [some (.ref b), some (.ref (ad X 0)), some (.ref (ad X 112)), some (.int (nI (i + 6)))] [] σ → RJ (GL l X b L xs k n) X cL_law 4 (some .boolean) RL 1571 [some (.ref b), some (.ref (ad X 0)), some (.ref (ad X 112)), some (.int (nI i))] [] σ := by
  intro hk
  refine rj_iinc3 (d := 6) dL_law_1571 (by decide) rfl (by decide) ?_
  rw [show (6 : Int32) = nI 6 from rfl, nI_add]
  refine rj_goto (tgt := 18) dL_law_1574 (by decide) ?_
  exact hk

set_option maxRecDepth 100000 in
theorem law_loop {l : Launch} {X : CX} {b L k n : Nat} {xs : Nat → Int32} (hk : k ≤ 600000) (hn : n ≤ 7302250) (hL : L ≤ 3072) : ∀ (N i : Nat) (σ : ST), L < i + N → i ≤ L + 6 → LI σ → RJ (GL l X b L xs k n) X cL_law 4 (some .boolean) RL 18 [some (.ref b), some (.ref (ad X 0)), some (.ref (ad X 112)), some (.int (nI i))] [] σ := by
  intro N
  induction N with
  | zero =>
    intro i σ hN hi hI
    have hit : (nI i).toInt = i := nI_t (by omega)
    have hlt : (nI L).toInt = L := nI_t (by omega)
    have q6 : (6 : Int32).toInt = 6 := by decide
    have hls : (nI L - 6).toInt = L - 6 := by rw [i_sub (by omega) (by omega), hlt, q6]
    refine rj_ild3 dL_law_18 rfl ?_
    refine rj_ald0 dL_law_19 rfl ?_
    refine rj_scl dL_law_20 ?_
    refine rj_bipush (v := 6) dL_law_21 (by decide) ?_
    refine rj_isub dL_law_23 ?_
    refine rj_ic_gt (tgt := 1577) dL_law_24 (by decide) (fun h_24 => ?_) (fun h_24 => ?_)
    · refine rj_ic1 dL_law_1577 ?_
      exact rj_law1 hk hn dL_law_1578
    · exfalso; omega
  | succ N ih =>
    intro i σ hN hi hI
    have hit : (nI i).toInt = i := nI_t (by omega)
    have hlt : (nI L).toInt = L := nI_t (by omega)
    have q6 : (6 : Int32).toInt = 6 := by decide
    have hls : (nI L - 6).toInt = L - 6 := by rw [i_sub (by omega) (by omega), hlt, q6]
    refine rj_ild3 dL_law_18 rfl ?_
    refine rj_ald0 dL_law_19 rfl ?_
    refine rj_scl dL_law_20 ?_
    refine rj_bipush (v := 6) dL_law_21 (by decide) ?_
    refine rj_isub dL_law_23 ?_
    refine rj_ic_gt (tgt := 1577) dL_law_24 (by decide) (fun h_24 => ?_) (fun h_24 => ?_)
    · refine rj_ic1 dL_law_1577 ?_
      exact rj_law1 hk hn dL_law_1578
    · refine rj_ald0 dL_law_27 rfl ?_
      refine rj_ild3 dL_law_28 rfl ?_
      refine rj_sld (vp_in_iff.mpr ⟨by omega, by omega⟩) dL_law_29 ?_
      refine rj_bipush (v := 63) dL_law_30 (by decide) ?_
      refine rj_iand dL_law_32 ?_
      have hv := and63 (xs (nI i).toNatClampNeg)
      exact law_sw hk hn hL (by omega) hI (fun τ hτ => law_tail (ih (i + 6) τ (by omega) (by omega) hτ)) (xs (nI i).toNatClampNeg &&& 63).toInt.toNat (by omega)

