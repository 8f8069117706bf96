/-! the reference: a token -/
set_option maxRecDepth 100000 in
theorem l_X12_advB {l : Launch} {X : CX} {h : Nat} {Q : Option Value → ST → Prop} {σ : ST} {bs : List Int32} (hh : 2 ≤ h) (hT : TPm σ bs) {p : Nat} (hby : ∀ i, i < bs.length → 0 ≤ (bs.getD i 0).toInt) (hf : tF bs p ≤ bs.length) (h15 : σ.1 112 15 = nI (tF bs p)) (hQ : ∀ τ, TKM τ bs p → tq σ τ → Q none τ) :  RJ (GM l X h Q) X cX12_advance 2 none RX12 34 [some (.ref (ad X 112)), none] [] σ := by
  have hT1 := tp_q hT (tq_u (f := 16) (v := nI (tF bs p)) tq_rf (by omega))
  have h120 := hT.2.1
  refine rj_ald0 dX12_advance_34 rfl ?_
  refine rj_ald0 dX12_advance_35 rfl ?_
  refine g12_225 dX12_advance_36 ?_
  rw [h15]
  refine p12_222 dX12_advance_39 ?_
  refine rj_ald0 dX12_advance_42 rfl ?_
  refine rj_ald0 dX12_advance_43 rfl ?_
  refine g12_225 dX12_advance_44 ?_
  rw [ui_nj (by decide), h15]
  refine rj_V1i (ci := 12) cX12_227 rfl (by decide) (by first | assumption | rfl) dX12_advance_47 (c_X12_byteAt hT1 (by omega)) (fitM (by omega) (by decide)) (Nat.le_of_ble_eq_true rfl) ?_
  refine rj_ist1 dX12_advance_50 (by decide) rfl ?_
  refine rj_ald0 dX12_advance_51 rfl ?_
  refine rj_ild1 dX12_advance_52 rfl ?_
  refine rj_if_ge (tgt := 60) dX12_advance_53 (by decide) (fun h_53 => ?_) (fun h_53 => ?_)
  · refine rj_ild1 dX12_advance_60 rfl ?_
    refine rj_S1i cX12_230 dX12_advance_61 c_X12_isLetter (fitM (by omega) (by decide)) (Nat.le_of_ble_eq_true rfl) ?_
    refine rj_if_eq (tgt := 71) dX12_advance_64 (by decide) (fun h_64 => ?_) (fun h_64 => ?_)
    · have hb_64 := bz_t h_64
      refine rj_ild1 dX12_advance_71 rfl ?_
      refine rj_S1i cX12_233 dX12_advance_72 c_X12_isDigit (fitM (by omega) (by decide)) (Nat.le_of_ble_eq_true rfl) ?_
      refine rj_if_eq (tgt := 82) dX12_advance_75 (by decide) (fun h_75 => ?_) (fun h_75 => ?_)
      · have hb_75 := bz_t h_75
        refine rj_ic3 dX12_advance_82 ?_
        refine p12_236 dX12_advance_83 ?_
        refine rj_ald0 dX12_advance_86 rfl ?_
        refine rj_lc0 dX12_advance_87 ?_
        refine p12_239 dX12_advance_88 ?_
        refine rj_ald0 dX12_advance_91 rfl ?_
        refine rj_ald0 dX12_advance_92 rfl ?_
        refine g12_236 dX12_advance_93 ?_
        rw [ul_1, ui_same]
        refine rj_ic2 dX12_advance_96 ?_
        refine rj_ic_ne (tgt := 104) dX12_advance_97 (by decide) (fun h_97 => ?_) (fun h_97 => ?_)
        · refine rj_ild1 dX12_advance_104 rfl ?_
          refine p12_243 dX12_advance_105 ?_
          refine rj_ald0 dX12_advance_108 rfl ?_
          refine g12_236 dX12_advance_109 ?_
          rw [ui_nj (by decide), ul_1, ui_same]
          refine rj_ic3 dX12_advance_112 ?_
          refine rj_ic_ne (tgt := 126) dX12_advance_113 (by decide) (fun h_113 => ?_) (fun h_113 => ?_)
          · exact absurd rfl h_113
          · refine rj_ald0 dX12_advance_116 rfl ?_
            refine rj_dup dX12_advance_117 rfl ?_
            refine g12_222 dX12_advance_118 ?_
            rw [ui_nj (by decide), ul_1, ui_nj (by decide), ui_same]
            refine rj_ic1 dX12_advance_121 ?_
            refine rj_iadd dX12_advance_122 ?_
            rw [nI_1]
            refine p12_222 dX12_advance_123 ?_
            have htS : tS bs p = 3 := by
              unfold tS so
              rw [if_neg (by omega), if_neg (fun z => hb_64 (so_1.mpr z)), if_neg (fun z => hb_75 (so_2.mpr z))]
            have hnx : nx bs p = tF bs p + 1 := by unfold nx tR; rw [if_pos htS]
            have htq : tq σ (ui (ui (ul (ui (ui σ 112 16 (nI (tF bs p))) 112 14 3) 112 17 0) 112 18 (tb bs (tF bs p))) 112 16 (nI (tF bs p + 1))) := tq_u (tq_u (tq_l (tq_u (tq_u tq_rf (by omega)) (by omega))) (by omega)) (by omega)
            refine l_X12_advY (l := l) (s := 3) (by rw [ui_nj (by decide), ui_nj (by decide), ul_1, ui_same]) (by decide) (l_X12_advX (s := 3) (by rw [ui_nj (by decide), ui_nj (by decide), ul_1, ui_same]) (by decide) (hQ _ ⟨?_, by rw [ui_nj (by decide), ui_nj (by decide), ul_1, ui_nj (by decide), ui_nj (by decide)]; exact h15, by rw [hnx, ui_same], fun z => absurd (htS.symm.trans z) (by decide), fun _ => by rw [ui_nj (by decide), ui_same], fun z => absurd (htS.symm.trans z) (by decide)⟩ htq))
            rw [htS, ui_nj (by decide), ui_nj (by decide), ul_1, ui_same]
        · exact absurd h_97 (by decide)
      · have hb_75 := bz_f h_75
        refine rj_ic2 dX12_advance_78 ?_
        refine rj_goto (tgt := 83) dX12_advance_79 (by decide) ?_
        refine p12_236 dX12_advance_83 ?_
        refine rj_ald0 dX12_advance_86 rfl ?_
        refine rj_lc0 dX12_advance_87 ?_
        refine p12_239 dX12_advance_88 ?_
        refine rj_ald0 dX12_advance_91 rfl ?_
        refine rj_ald0 dX12_advance_92 rfl ?_
        refine g12_236 dX12_advance_93 ?_
        rw [ul_1, ui_same]
        refine rj_ic2 dX12_advance_96 ?_
        refine rj_ic_ne (tgt := 104) dX12_advance_97 (by decide) (fun h_97 => ?_) (fun h_97 => ?_)
        · exact absurd rfl h_97
        · refine rj_ic0 dX12_advance_100 ?_
          refine rj_goto (tgt := 105) dX12_advance_101 (by decide) ?_
          refine p12_243 dX12_advance_105 ?_
          refine rj_ald0 dX12_advance_108 rfl ?_
          refine g12_236 dX12_advance_109 ?_
          rw [ui_nj (by decide), ul_1, ui_same]
          refine rj_ic3 dX12_advance_112 ?_
          refine rj_ic_ne (tgt := 126) dX12_advance_113 (by decide) (fun h_113 => ?_) (fun h_113 => ?_)
          · have htS : tS bs p = 2 := hb_75
            have hre : tR bs p = tkT bs 2 (bs.length - tF bs p) (tF bs p) 0 := by unfold tR; rw [if_neg (by rw [htS]; decide), htS]
            refine l_X12_advY (l := l) (s := 2) (by rw [ui_nj (by decide), ul_1, ui_same]) (by decide) ?_
            exact l_X12_advD hh (tp_q hT (tq_u (tq_l (tq_u (tq_u tq_rf (by omega)) (by omega))) (by omega))) (r := tR bs p) (f := tF bs p) (fun τ a1 a2 a3 a4 a5 => hQ τ ⟨by rw [htS]; exact a1, a2, a3, fun _ => a4, fun z => absurd (htS.symm.trans z) (by decide), fun z => absurd (htS.symm.trans z) (by decide)⟩ (tq_tr (tq_u (tq_l (tq_u (tq_u tq_rf (by omega)) (by omega))) (by omega)) a5)) (bs.length + 1) (tF bs p) 0 _ (by omega) ⟨hf, by decide, by rw [ui_nj (by decide), ul_1, ui_same], by rw [ui_nj (by decide), ul_1, ui_nj (by decide), ui_nj (by decide)]; exact h15, by rw [ui_nj (by decide), ul_1, ui_nj (by decide), ui_same], ui_same _ _ _ _, tq_rf, hre.symm⟩
          · exact absurd h_113 (by decide)
    · have hb_64 := bz_f h_64
      refine rj_ic1 dX12_advance_67 ?_
      refine rj_goto (tgt := 83) dX12_advance_68 (by decide) ?_
      refine p12_236 dX12_advance_83 ?_
      refine rj_ald0 dX12_advance_86 rfl ?_
      refine rj_lc0 dX12_advance_87 ?_
      refine p12_239 dX12_advance_88 ?_
      refine rj_ald0 dX12_advance_91 rfl ?_
      refine rj_ald0 dX12_advance_92 rfl ?_
      refine g12_236 dX12_advance_93 ?_
      rw [ul_1, ui_same]
      refine rj_ic2 dX12_advance_96 ?_
      refine rj_ic_ne (tgt := 104) dX12_advance_97 (by decide) (fun h_97 => ?_) (fun h_97 => ?_)
      · refine rj_ild1 dX12_advance_104 rfl ?_
        refine p12_243 dX12_advance_105 ?_
        refine rj_ald0 dX12_advance_108 rfl ?_
        refine g12_236 dX12_advance_109 ?_
        rw [ui_nj (by decide), ul_1, ui_same]
        refine rj_ic3 dX12_advance_112 ?_
        refine rj_ic_ne (tgt := 126) dX12_advance_113 (by decide) (fun h_113 => ?_) (fun h_113 => ?_)
        · have htS : tS bs p = 1 := hb_64
          have hnx : nx bs p = (tkT bs 1 (bs.length - tF bs p) (tF bs p) 0).1 := by unfold nx tR; rw [if_neg (by rw [htS]; decide), htS]
          refine l_X12_advW hh (tp_q hT (tq_u (tq_l (tq_u (tq_u tq_rf (by omega)) (by omega))) (by omega))) (e := nx bs p) (f := tF bs p) (by omega) (fun τ a1 a2 a3 a4 a5 => hQ τ ⟨by rw [htS]; exact a1, a2, a3, fun z => absurd (htS.symm.trans z) (by decide), fun z => absurd (htS.symm.trans z) (by decide), fun _ => a4⟩ (tq_tr (tq_u (tq_l (tq_u (tq_u tq_rf (by omega)) (by omega))) (by omega)) a5)) (bs.length + 1) (tF bs p) _ (by omega) ⟨hf, Nat.le_refl _, by rw [ui_nj (by decide), ul_1, ui_same], by rw [ui_nj (by decide), ul_1, ui_nj (by decide), ui_nj (by decide)]; exact h15, by rw [ui_nj (by decide), ul_1, ui_nj (by decide), ui_same], ?_, tq_rf, hnx.symm⟩
          rw [Nat.sub_self, ui_2, ul_at, if_pos ⟨rfl, rfl⟩]
          rfl
        · exact absurd h_113 (by decide)
      · exact absurd h_97 (by decide)
  · refine rj_ic0 dX12_advance_56 ?_
    refine rj_goto (tgt := 83) dX12_advance_57 (by decide) ?_
    refine p12_236 dX12_advance_83 ?_
    refine rj_ald0 dX12_advance_86 rfl ?_
    refine rj_lc0 dX12_advance_87 ?_
    refine p12_239 dX12_advance_88 ?_
    refine rj_ald0 dX12_advance_91 rfl ?_
    refine rj_ald0 dX12_advance_92 rfl ?_
    refine g12_236 dX12_advance_93 ?_
    rw [ul_1, ui_same]
    refine rj_ic2 dX12_advance_96 ?_
    refine rj_ic_ne (tgt := 104) dX12_advance_97 (by decide) (fun h_97 => ?_) (fun h_97 => ?_)
    · refine rj_ild1 dX12_advance_104 rfl ?_
      refine p12_243 dX12_advance_105 ?_
      refine rj_ald0 dX12_advance_108 rfl ?_
      refine g12_236 dX12_advance_109 ?_
      rw [ui_nj (by decide), ul_1, ui_same]
      refine rj_ic3 dX12_advance_112 ?_
      refine rj_ic_ne (tgt := 126) dX12_advance_113 (by decide) (fun h_113 => ?_) (fun h_113 => ?_)
      · have htS : tS bs p = 0 := by unfold tS so; rw [if_pos h_53]
        have hnx : nx bs p = tF bs p := by
          have hge : bs.length ≤ tF bs p := by
            rcases Nat.lt_or_ge (tF bs p) bs.length with z | z
            · rw [tb_lt z] at h_53; have := hby _ z; omega
            · exact z
          unfold nx tR
          rw [if_neg (by rw [htS]; decide), show bs.length - tF bs p = 0 by omega]
          rfl
        refine l_X12_advY (l := l) (s := 0) (by rw [ui_nj (by decide), ul_1, ui_same]) (by decide) (l_X12_advX (s := 0) (by rw [ui_nj (by decide), ul_1, ui_same]) (by decide) (hQ _ ⟨?_, by rw [ui_nj (by decide), ul_1, ui_nj (by decide), ui_nj (by decide)]; exact h15, ?_, fun z => absurd (htS.symm.trans z) (by decide), fun z => absurd (htS.symm.trans z) (by decide), fun z => absurd (htS.symm.trans z) (by decide)⟩ (tq_u (tq_l (tq_u (tq_u tq_rf (by omega)) (by omega))) (by omega))))
        · rw [htS, ui_nj (by decide), ul_1, ui_same]
        · rw [hnx, ui_nj (by decide), ul_1, ui_nj (by decide), ui_same]
      · exact absurd h_113 (by decide)
    · exact absurd h_97 (by decide)

set_option maxRecDepth 100000 in
theorem c_X12_advance {l : Launch} {X : CX} {σ : ST} {bs : List Int32} {p : Nat} (hT : TPm σ bs) (hby : ∀ i, i < bs.length → 0 ≤ (bs.getD i 0).toInt) (hp : p ≤ bs.length) (h16 : σ.1 112 16 = nI p) : MJ l X 2 yX12_advance cX12_advance 2 none [.ref (ad X 112)] σ (PV (fun τ => TKM τ bs p ∧ tq σ τ)) := by
  refine MJ_of (own := RX12) [some (.ref (ad X 112)), none] (by decide) rfl (Nat.le_of_ble_eq_true rfl) rfl ?_
  have hfl := tF_le hp
  refine rj_ald0 dX12_advance_0 rfl ?_
  refine rj_ald0 dX12_advance_1 rfl ?_
  refine g12_222 dX12_advance_2 ?_
  rw [h16]
  refine p12_225 dX12_advance_5 ?_
  have hq1 : tq σ (ui σ 112 15 (nI p)) := tq_u tq_rf (by omega)
  refine l_X12_advA (by decide) (tp_q hT hq1) (f := tF bs p) (fun τ a1 a2 => ?_) (bs.length + 1) p _ (by omega) ⟨hp, ui_same _ _ _ _, tq_rf, rfl⟩
  exact l_X12_advB (by decide) (tp_q (tp_q hT hq1) a2) hby hfl.2 a1 (fun υ b1 b2 => ⟨rfl, b1, tq_tr (tq_tr hq1 a2) b2⟩)

/-! words by their numbers -/
def cdF (d : Nat → Nat) : Nat → Nat
  | 0 => 0
  | n + 1 => 27 * cdF d n + d n
theorem cd_iff {d e : Nat → Nat} : ∀ (n k : Nat), (∀ i, i < n → 1 ≤ d i ∧ d i ≤ 26) → (∀ i, i < k → 1 ≤ e i ∧ e i ≤ 26) → (cdF d n = cdF e k ↔ (n = k ∧ ∀ i, i < k → d i = e i))
  | 0, 0, _, _ => ⟨fun _ => ⟨rfl, fun i hi => absurd hi (by omega)⟩, fun _ => rfl⟩
  | 0, k + 1, _, he => by
    have := he k (by omega)
    show 0 = 27 * cdF e k + e k ↔ _
    exact ⟨fun h => by omega, fun h => absurd h.1 (by omega)⟩
  | n + 1, 0, hd, _ => by
    have := hd n (by omega)
    show 27 * cdF d n + d n = 0 ↔ _
    exact ⟨fun h => by omega, fun h => absurd h.1 (by omega)⟩
  | n + 1, k + 1, hd, he => by
    have h1 := hd n (by omega)
    have h2 := he k (by omega)
    have ih := cd_iff n k (fun i hi => hd i (by omega)) (fun i hi => he i (by omega))
    show 27 * cdF d n + d n = 27 * cdF e k + e k ↔ _
    constructor
    · intro h
      have a : cdF d n = cdF e k := by omega
      have b : d n = e k := by omega
      obtain ⟨c1, c2⟩ := ih.mp a
      refine ⟨by omega, fun i hi => ?_⟩
      by_cases z : i = k
      · rw [z, ← b, c1]
      · exact c2 i (by omega)
    · rintro ⟨c1, c2⟩
      have c1 : n = k := by omega
      have a := ih.mpr ⟨c1, fun i hi => c2 i (by omega)⟩
      have b := c2 k (by omega)
      rw [c1] at a ⊢
      omega
theorem cd_lt {d : Nat → Nat} : ∀ n, (∀ i, i < n → d i ≤ 26) → cdF d n < 27 ^ n
  | 0, _ => by show 0 < 1; omega
  | n + 1, h => by
    have := cd_lt n (fun i hi => h i (by omega))
    have := h n (by omega)
    show 27 * cdF d n + d n < 27 ^ (n + 1)
    rw [Nat.pow_succ]
    omega
theorem p27 : ∀ n, n ≤ 12 → 27 ^ n ≤ 150094635296999121 := by decide
theorem l_bm {a : Int} (h1 : -9223372036854775808 ≤ a) (h2 : a < 9223372036854775808) : a.bmod (2 ^ 64) = a := Int.bmod_eq_of_le (by omega) (by omega)
def dgt (bs : List Int32) (f i : Nat) : Nat := ((bs.getD (f + i) 0).toInt - 96).toNat
theorem wd_cd {bs : List Int32} {f : Nat} : ∀ n, n ≤ 12 → (∀ i, i < n → 97 ≤ (bs.getD (f + i) 0).toInt ∧ (bs.getD (f + i) 0).toInt ≤ 122) → (wdN bs f n).toInt = cdF (dgt bs f) n
  | 0, _, _ => by show (0 : Int64).toInt = 0; decide
  | n + 1, hn, h => by
    have ih := wd_cd (bs := bs) (f := f) n (by omega) (fun i hi => h i (by omega))
    have hb := h n (by omega)
    have hl := cd_lt (d := dgt bs f) n (fun i hi => by have := h i (by omega); unfold dgt; omega)
    have hp := p27 n (by omega)
    have t27 : (27 : Int64).toInt = 27 := by decide
    have t96 : (96 : Int64).toInt = 96 := by decide
    have e1 : (27 * wdN bs f n).toInt = 27 * cdF (dgt bs f) n := by rw [Int64.toInt_mul, t27, ih, l_bm (by omega) (by omega)]
    have e2 : (bs.getD (f + n) 0).toInt64.toInt = (bs.getD (f + n) 0).toInt := Int32.toInt_toInt64 _
    have e3 : (27 * wdN bs f n + (bs.getD (f + n) 0).toInt64).toInt = 27 * cdF (dgt bs f) n + (bs.getD (f + n) 0).toInt := by rw [Int64.toInt_add, e1, e2, l_bm (by omega) (by omega)]
    rw [wdN_s, if_pos (by omega), Int64.toInt_sub, e3, t96, l_bm (by omega) (by omega)]
    show _ = ((27 * cdF (dgt bs f) n + dgt bs f n : Nat) : Int)
    unfold dgt at *
    omega
def wcd : List Int64 := [9873001, 267305, 14828, 298503040, 40187, 11088176, 308857271, 139739530810]
def edg (i j : Nat) : Nat := (((sbyt.getD i []).getD j 0).toInt - 96).toNat
theorem wc_q : ∀ i, i < 8 → (wcd.getD i 0).toInt = cdF (edg i) (slen.getD i 0) ∧ slen.getD i 0 ≤ 8 := by decide +kernel
theorem wc_b : ∀ i, i < 8 → ∀ j, j < slen.getD i 0 → (97 ≤ ((sbyt.getD i []).getD j 0).toInt ∧ ((sbyt.getD i []).getD j 0).toInt ≤ 122) := by decide +kernel
theorem wc_n : ∀ i, i < 8 → ¬ (-1 : Int64) = wcd.getD i 0 := by decide +kernel
theorem tkT_1 {bs : List Int32} : ∀ (n i : Nat), i + n ≤ bs.length → ∀ q, i ≤ q → q < (tkT bs 1 n i 0).1 → so (bs.getD q 0) = 1
  | 0, i, _, q, h1, h2 => absurd h2 (by show ¬ q < i; omega)
  | n + 1, i, hl, q, h1, h2 => by
    rw [tkT_s] at h2
    by_cases z : so (bs.getD i 0) = 1
    · rw [if_pos z, if_neg (by decide)] at h2
      by_cases y : q = i
      · rw [y]; exact z
      · exact tkT_1 n (i + 1) (by omega) q (by omega) h2
    · rw [if_neg z] at h2
      exact absurd h2 (by show ¬ q < i; omega)
theorem w_iff {bs : List Int32} {p i : Nat} (hi : i < 8) (hp : p ≤ bs.length) (h1 : tS bs p = 1) : wdc bs p = wcd.getD i 0 ↔ isW bs p i := by
  have hf := tF_le hp
  have hr := tR_ge hp
  have hl := tR_le hp
  have hnx : (tR bs p).1 = (tkT bs 1 (bs.length - tF bs p) (tF bs p) 0).1 := by unfold tR; rw [if_neg (by rw [h1]; decide), h1]
  have hlet : ∀ q, q < nx bs p - tF bs p → 97 ≤ (bs.getD (tF bs p + q) 0).toInt ∧ (bs.getD (tF bs p + q) 0).toInt ≤ 122 := fun q hq => so_1.mp (tkT_1 (bs.length - tF bs p) (tF bs p) (by omega) (tF bs p + q) (by omega) (by rw [← hnx]; unfold nx at hq; omega))
  obtain ⟨w1, w2⟩ := wc_q i hi
  have wb := wc_b i hi
  unfold wdc
  by_cases z : nx bs p - tF bs p ≤ 12
  · have e := wd_cd (nx bs p - tF bs p) z hlet
    have cdi := cd_iff (d := dgt bs (tF bs p)) (e := edg i) (nx bs p - tF bs p) (slen.getD i 0) (fun q hq => by have := hlet q hq; unfold dgt; omega) (fun q hq => by have := wb q hq; unfold edg; omega)
    constructor
    · intro h
      have h2 := congrArg Int64.toInt h
      rw [e, w1] at h2
      obtain ⟨c1, c2⟩ := cdi.mp (by omega)
      refine ⟨h1, by unfold nx at c1; omega, fun j hj => ?_⟩
      have a := c2 j hj
      have b1 := hlet j (by omega)
      have b2 := wb j hj
      apply i_inj
      unfold dgt edg at a
      omega
    · rintro ⟨_, c1, c2⟩
      apply Int64.toInt_inj.mp
      rw [e, w1]
      have hn : nx bs p - tF bs p = slen.getD i 0 := by unfold nx; omega
      have := cdi.mpr ⟨hn, fun j hj => by unfold dgt edg; rw [c2 j hj]⟩
      omega
  · constructor
    · intro h
      obtain ⟨m, hm⟩ : ∃ m, nx bs p - tF bs p = m + 1 := ⟨nx bs p - tF bs p - 1, by omega⟩
      rw [hm, wdN_s, if_neg (by omega)] at h
      exact absurd h (wc_n i hi)
    · rintro ⟨_, c1, _⟩
      unfold nx at z
      omega
set_option maxRecDepth 100000 in
theorem c_X12_isWord {l : Launch} {X : CX} {σ : ST} {bs : List Int32} {p i : Nat} (hK : TKM σ bs p) (hp : p ≤ bs.length) (hi : i < 8) {x : Int64} (hx : x = wcd.getD i 0) : MJ l X 0 yX12_isWord cX12_isWord 3 (some .boolean) [.ref (ad X 112), .long x] σ (eqI (if isW bs p i then 1 else 0) σ) := by
  refine MJ_of (own := RX12) [some (.ref (ad X 112)), some (.long x), none] (by decide) rfl (Nat.le_of_ble_eq_true rfl) rfl ?_
  subst hx
  have h14 := hK.1
  refine rj_ald0 dX12_isWord_0 rfl ?_
  refine g12_236 dX12_isWord_1 ?_
  rw [h14]
  refine rj_ic1 dX12_isWord_4 ?_
  refine rj_ic_ne (tgt := 21) dX12_isWord_5 (by decide) (fun h_5 => ?_) (fun h_5 => ?_)
  · refine rj_ic0 dX12_isWord_21 ?_
    refine rj_zret dX12_isWord_22 (rfl) ?_
    refine ⟨?_, rfl⟩
    rw [if_neg (fun z => h_5 z.1)]
  · have hw := w_iff hi hp h_5
    have h17 := hK.2.2.2.2.2 h_5
    refine rj_ald0 dX12_isWord_8 rfl ?_
    refine g12_239 dX12_isWord_9 ?_
    rw [h17]
    refine rj_lld1 dX12_isWord_12 rfl ?_
    refine rj_lcmp dX12_isWord_13 ?_
    refine rj_if_ne (tgt := 21) dX12_isWord_14 (by decide) (fun h_14 => ?_) (fun h_14 => ?_)
    · refine rj_ic0 dX12_isWord_21 ?_
      refine rj_zret dX12_isWord_22 (rfl) ?_
      refine ⟨?_, rfl⟩
      rw [if_neg (fun z => h_14 (lcm_0.mpr (by rw [hw.mpr z])))]
    · refine rj_ic1 dX12_isWord_17 ?_
      refine rj_goto (tgt := 22) dX12_isWord_18 (by decide) ?_
      refine rj_zret dX12_isWord_22 (rfl) ?_
      refine ⟨?_, rfl⟩
      rw [if_pos (hw.mp (Int64.toInt_inj.mp (lcm_0.mp h_14)))]

