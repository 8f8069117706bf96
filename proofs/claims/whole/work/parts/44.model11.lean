/-! told apart -/
theorem pr_lt : ∀ u, u < 4 → ∀ z, z < 4 → u ≠ z → (pr (nI u) (nI z)).toNatClampNeg / 4 < (pr (nI u) (nI z)).toNatClampNeg % 4 := by decide +kernel
theorem pr_id : ∀ q, q < 16 → q / 4 < q % 4 → (pr (nI (q / 4)) (nI (q % 4))).toNatClampNeg = q := by decide +kernel
theorem z_fold : ∀ (xs : List Int32) (fs : (Nat → Int32) × (Nat → Int32)), okk 4 xs → pmP 4 fs.1 → (∀ q, q < 16 → ¬ q / 4 < q % 4 → fs.2 q = 0) → ∀ q, q < 16 → ¬ q / 4 < q % 4 → (xs.foldl stp fs).2 q = 0
  | [], _, _, _, h, q, hq, hn => h q hq hn
  | c :: r, fs, hk, hp, h, q, hq, hn => by
    have h1 := hk c List.mem_cons_self
    refine z_fold r (stp fs c) (fun d hd => hk d (List.mem_cons_of_mem _ hd)) (pm_step hp h1.1 h1.2) (fun a ha hna => ?_) q hq hn
    rw [stp2]
    obtain ⟨u, hu, eu⟩ := hp.2.1 (c.toInt.natAbs - 1) (by omega)
    obtain ⟨z, hz, ez⟩ := hp.2.1 c.toInt.natAbs h1.2
    have hne : u ≠ z := fun y => by
      have := hp.2.2 (c.toInt.natAbs - 1) c.toInt.natAbs (by omega) h1.2 (by rw [eu, ez, y])
      omega
    rw [eu, ez, if_neg (fun y => hna (by rw [y]; exact pr_lt u hu z hz hne))]
    exact h a ha hna
theorem lkv_eq {xs : List Int32} (hk : okk 4 xs) {q : Nat} (hq : q < 16) : lkv xs q = (stf xs).2 q := by
  unfold lkv
  by_cases z : q / 4 < q % 4
  · rw [if_pos z, pr_id q hq z]
  · rw [if_neg z]
    exact (z_fold xs _ hk ⟨fun m hm => ⟨m, hm, rfl⟩, fun j hj => ⟨j, hj, rfl⟩, fun i j hi hj y => nI_ij (by omega) (by omega) y⟩ (fun _ _ _ => rfl) q hq z).symm
theorem ends_iff {rc : Int32} {n : Nat} {xs ys : List Int32} (hn : rc.toInt.toNat = n) (h4 : n ≤ 4) (hx : okk n xs) (hy : okk n ys) : (∀ q, q < n → eoF rc (stf xs).1 (nI q) = eoF rc (stf ys).1 (nI q)) ↔ endsAsInA xs ys := by
  have px := pm_stf hx (by omega)
  have py := pm_stf hy (by omega)
  constructor
  · intro h j hj
    by_cases z : j < n
    · obtain ⟨m, hm, em⟩ := px.2.1 j z
      have h1 := eoF_at (rc := rc) px hn z
      rw [em, h m hm] at h1
      obtain ⟨j2, hj2, e2, e3⟩ := eoF_in (rc := rc) py hn hm
      rw [e3] at h1
      have : j2 = j := nI_ij (by omega) (by omega) h1
      rw [em, ← this, e2]
    · rw [ge_stf hx (by omega), ge_stf hy (by omega)]
  · intro h q hq
    rw [eoF_c hn (fun j hj => h j (by omega))]
theorem links_iff {xs ys : List Int32} (hx : okk 4 xs) (hy : okk 4 ys) : (∀ q, q < 16 → lkv xs q = lkv ys q) ↔ linksAsInA xs ys := by
  constructor
  · intro h q hq
    rw [← lkv_eq hx hq, ← lkv_eq hy hq]; exact h q hq
  · intro h q hq
    rw [lkv_eq hx hq, lkv_eq hy hq]; exact h q hq
theorem cov_n {A : SA} {j q : Nat} (hq : q < 3) : colN A j (cnL.getD q 0) = cov A.2.1.1.toInt.toNat (lyA A j) q := by rw [cn_n q hq, colN_n (by omega)]; rfl
theorem apR_t {A : SA} {j i : Nat} (h : ∀ q, q < 3 → cov A.2.1.1.toInt.toNat (lyA A j) q = cov A.2.1.1.toInt.toNat (lyA A i) q) : apR A j i 3 0 = (0, A) := by
  unfold apR; rw [if_pos (by rw [cov_n (by omega), cov_n (by omega)]; exact h 0 (by omega))]
  unfold apR; rw [if_pos (by rw [cov_n (by omega), cov_n (by omega)]; exact h 1 (by omega))]
  unfold apR; rw [if_pos (by rw [cov_n (by omega), cov_n (by omega)]; exact h 2 (by omega))]
  rfl
theorem apR_f {A : SA} {j i : Nat} (h : ¬ ∀ q, q < 3 → cov A.2.1.1.toInt.toNat (lyA A j) q = cov A.2.1.1.toInt.toNat (lyA A i) q) : apR A j i 3 0 = (3, A) := by
  unfold apR
  by_cases h0 : colN A j (cnL.getD 0 0) = colN A i (cnL.getD 0 0)
  · rw [if_pos h0]
    unfold apR
    by_cases h1 : colN A j (cnL.getD 1 0) = colN A i (cnL.getD 1 0)
    · rw [if_pos h1]
      unfold apR
      by_cases h2 : colN A j (cnL.getD 2 0) = colN A i (cnL.getD 2 0)
      · rw [cov_n (by omega), cov_n (by omega)] at h0 h1 h2
        refine absurd (fun q hq => ?_) h
        match q, hq with
        | 0, _ => exact h0
        | 1, _ => exact h1
        | 2, _ => exact h2
      · rw [if_neg h2]
    · rw [if_neg h1]
  · rw [if_neg h0]
theorem ite_0 {P : Nat → Prop} {d : Decidable (∀ q, q < 0 → P q)} : (@ite Int32 (∀ q, q < 0 → P q) d 1 0) = 1 := if_pos (fun q hq => absurd hq (by omega))
theorem all_s {P : Nat → Prop} {i : Nat} (h : ∀ q, q < i → P q) (h2 : P i) : ∀ q, q < i + 1 → P q := fun q hq => by
  by_cases z : q = i
  · rw [z]; exact h2
  · exact h q (by omega)
set_option maxRecDepth 100000 in
theorem l_X12_apC {l : Launch} {X : CX} {h : Nat} {Q : Option Value → ST → Prop} {σ : ST} {A : SA} {t o : Int32} {xs ys : List Int32} (hh : 3 ≤ h) (hw : wf A) (hM : MR σ A) (hx : LD σ ys) (hok : okL A.2.1.1 ys) (h3 : TO3 σ A.2.1.1.toInt.toNat xs 3) (hY : ∀ τ, off cT σ τ → (∀ q, q < 3 → cov A.2.1.1.toInt.toNat xs q = cov A.2.1.1.toInt.toNat ys q) → Q (some (.int 0)) τ) (hNo : ∀ τ, off cT σ τ → ¬ (∀ q, q < 3 → cov A.2.1.1.toInt.toNat xs q = cov A.2.1.1.toInt.toNat ys q) → Q (some (.int 3)) τ) : ∀ (N i : Nat) (τ : ST), 3 < i + N → (i ≤ 3 ∧ off cT σ τ ∧ τ.1 120 = σ.1 120) → RJ (GM l X h Q) X cX12_apart 5 (some .int) RX12 159 [some (.ref (ad X 112)), some (.int t), some (.int o), some (.int (if ∀ q, q < i → cov A.2.1.1.toInt.toNat xs q = cov A.2.1.1.toInt.toNat ys q then 1 else 0)), some (.int (nI i))] [] τ := by
  intro N
  induction N with
  | zero => intro i τ hN hi; have := hi.1; exact absurd hN (by omega)
  | succ N ih =>
    intro i τ hN hi
    obtain ⟨hi, ho, hu⟩ := hi
    have q3 := t3
    have hr4 := hw.1.2.1
    have hit : (nI i).toInt = i := nI_t (by omega)
    have hM1 := mr_s hM (mq_T ho)
    have h0 : τ.1 113 0 = A.2.1.1 := hM1.1.1
    have hX := ld_T hx ho
    have e3 : (3 : Int32) + 2 * nI i = nI (3 + 2 * i) := by rw [show (3 : Int32) = nI 3 from rfl, show (2 : Int32) = nI 2 from rfl, pk_mul, nI_add]
    have e20 : (20 : Int32) + nI i = nI (20 + i) := by rw [show (20 : Int32) = nI 20 from rfl, nI_add]
    refine rj_ild dX12_apart_159 rfl ?_
    refine rj_ic3 dX12_apart_161 ?_
    refine rj_ic_ge (tgt := 203) dX12_apart_162 (by decide) (fun h_162 => ?_) (fun h_162 => ?_)
    · refine rj_ild3 dX12_apart_203 rfl ?_
      refine rj_if_eq (tgt := 211) dX12_apart_204 (by decide) (fun h_204 => ?_) (fun h_204 => ?_)
      · have hb_204 := bz_t h_204
        refine rj_ic3 dX12_apart_211 ?_
        refine rj_iret dX12_apart_212 ?_
        rw [show i = 3 by omega] at hb_204
        exact hNo τ ho hb_204
      · have hb_204 := bz_f h_204
        refine rj_ic0 dX12_apart_207 ?_
        refine rj_goto (tgt := 212) dX12_apart_208 (by decide) ?_
        refine rj_iret dX12_apart_212 ?_
        rw [show i = 3 by omega] at hb_204
        exact hY τ ho hb_204
    · refine rj_ild3 dX12_apart_165 rfl ?_
      refine rj_if_eq (tgt := 195) dX12_apart_166 (by decide) (fun h_166 => ?_) (fun h_166 => ?_)
      · have hb_166 := bz_t h_166
        refine rj_ic0 dX12_apart_195 ?_
        refine rj_ist3 dX12_apart_196 (by decide) rfl ?_
        refine rj_iinc4 (d := 1) dX12_apart_197 (by decide) rfl (by decide) ?_
        rw [nI_1]
        refine rj_goto (tgt := 159) dX12_apart_200 (by decide) ?_
        have k2 := ih (i + 1) τ (by omega) ⟨by omega, ho, hu⟩
        rw [if_neg (fun z => hb_166 (fun q hq => z q (by omega)))] at k2
        exact k2
      · have hb_166 := bz_f h_166
        refine rj_ald0 dX12_apart_169 rfl ?_
        refine rj_bipush (v := 20) dX12_apart_170 (by decide) ?_
        refine rj_ild dX12_apart_172 rfl ?_
        refine rj_iadd dX12_apart_174 ?_
        rw [e20]
        refine rj_ald0 dX12_apart_175 rfl ?_
        refine rj_ic3 dX12_apart_176 ?_
        refine rj_ic2 dX12_apart_177 ?_
        refine rj_ild dX12_apart_178 rfl ?_
        refine rj_imul dX12_apart_180 ?_
        refine rj_iadd dX12_apart_181 ?_
        rw [e3]
        refine rj_V1 (ci := 12) cX12_197 rfl (by decide) (by first | assumption | rfl) dX12_apart_182 (c_X12_coloursBy hM1 hw (P_i (by omega)) hX hok) (fitM (by omega) (by decide)) (Nat.le_of_ble_eq_true rfl) ?_
        rintro v υ2 ⟨rfl, ho2⟩
        simp only [Option.toList, List.cons_append, List.nil_append]
        have hu2 : υ2.1 120 = σ.1 120 := ((ho2 120 (by decide)).1).trans hu
        have htl : υ2.1 120 (20 + i) = cov A.2.1.1.toInt.toNat xs i := by rw [hu2]; exact h3 i (by omega)
        refine rj_V2i (ci := 12) cX12_203 rfl (by decide) (by first | assumption | rfl) dX12_apart_185 (c_X12_isTold (by omega)) (fitM (by omega) (by decide)) (Nat.le_of_ble_eq_true rfl) ?_
        refine rj_if_eq (tgt := 195) dX12_apart_188 (by decide) (fun h_188 => ?_) (fun h_188 => ?_)
        · have hb_188 := bz_t h_188
          refine rj_ic0 dX12_apart_195 ?_
          refine rj_ist3 dX12_apart_196 (by decide) rfl ?_
          refine rj_iinc4 (d := 1) dX12_apart_197 (by decide) rfl (by decide) ?_
          rw [nI_1]
          refine rj_goto (tgt := 159) dX12_apart_200 (by decide) ?_
          have k2 := ih (i + 1) υ2 (by omega) ⟨by omega, ho.tr (cT_9 ho2), hu2⟩
          rw [if_neg (fun z => hb_188 (by rw [htl]; exact z i (by omega)))] at k2
          exact k2
        · have hb_188 := bz_f h_188
          refine rj_ic1 dX12_apart_191 ?_
          refine rj_goto (tgt := 196) dX12_apart_192 (by decide) ?_
          refine rj_ist3 dX12_apart_196 (by decide) rfl ?_
          refine rj_iinc4 (d := 1) dX12_apart_197 (by decide) rfl (by decide) ?_
          rw [nI_1]
          refine rj_goto (tgt := 159) dX12_apart_200 (by decide) ?_
          have k2 := ih (i + 1) υ2 (by omega) ⟨by omega, ho.tr (cT_9 ho2), hu2⟩
          rw [if_pos (all_s hb_166 (by rw [← htl]; exact hb_188))] at k2
          exact k2

set_option maxRecDepth 100000 in
theorem l_X12_apB {l : Launch} {X : CX} {h : Nat} {Q : Option Value → ST → Prop} {σ : ST} {A : SA} {t o : Int32} {xs ys : List Int32} (hh : 3 ≤ h) (hw : wf A) (hM : MR σ A) (hx : LD σ ys) (hok : okL A.2.1.1 ys) (h2 : TO2 σ xs 16) (hNo : ∀ τ, off cT σ τ → ¬ (∀ q, q < 16 → lkv xs q = lkv ys q) → Q (some (.int 2)) τ) (hY : ∀ τ, off cT σ τ → τ.1 120 = σ.1 120 → (∀ q, q < 16 → lkv xs q = lkv ys q) → RJ (GM l X h Q) X cX12_apart 5 (some .int) RX12 159 [some (.ref (ad X 112)), some (.int t), some (.int o), some (.int 1), some (.int 0)] [] τ) : ∀ (N i : Nat) (τ : ST), 16 < i + N → (i ≤ 16 ∧ off cT σ τ ∧ τ.1 120 = σ.1 120) → RJ (GM l X h Q) X cX12_apart 5 (some .int) RX12 93 [some (.ref (ad X 112)), some (.int t), some (.int o), some (.int (if ∀ q, q < i → lkv xs q = lkv ys q then 1 else 0)), some (.int (nI i))] [] τ := by
  intro N
  induction N with
  | zero => intro i τ hN hi; have := hi.1; exact absurd hN (by omega)
  | succ N ih =>
    intro i τ hN hi
    obtain ⟨hi, ho, hu⟩ := hi
    have q16 := t16
    have hr4 := hw.1.2.1
    have hit : (nI i).toInt = i := nI_t (by omega)
    have hM1 := mr_s hM (mq_T ho)
    have h0 : τ.1 113 0 = A.2.1.1 := hM1.1.1
    have hX := ld_T hx ho
    have e4 : (4 : Int32) + nI i = nI (4 + i) := by rw [show (4 : Int32) = nI 4 from rfl, nI_add]
    have ed : nI i / 4 = nI (i / 4) := by rw [show (4 : Int32) = nI 4 from rfl, idiv_n (by omega) (by omega) (by omega)]
    have er : nI i - nI i / 4 * 4 = nI (i % 4) := by rw [show (4 : Int32) = nI 4 from rfl, irem_n (by omega) (by omega)]
    have edt : (nI (i / 4)).toInt = (i / 4 : Nat) := nI_t (by omega)
    have ert : (nI (i % 4)).toInt = (i % 4 : Nat) := nI_t (by omega)
    refine rj_ild dX12_apart_93 rfl ?_
    refine rj_bipush (v := 16) dX12_apart_95 (by decide) ?_
    refine rj_ic_ge (tgt := 150) dX12_apart_97 (by decide) (fun h_97 => ?_) (fun h_97 => ?_)
    · refine rj_ild3 dX12_apart_150 rfl ?_
      refine rj_if_ne (tgt := 156) dX12_apart_151 (by decide) (fun h_151 => ?_) (fun h_151 => ?_)
      · have hb_151 := bz_f h_151
        refine rj_ic0 dX12_apart_156 ?_
        refine rj_ist4w dX12_apart_157 (by decide) rfl ?_
        rw [show i = 16 by omega] at hb_151 ⊢
        rw [if_pos hb_151]
        exact hY τ ho hu hb_151
      · have hb_151 := bz_t h_151
        refine rj_ic2 dX12_apart_154 ?_
        refine rj_iret dX12_apart_155 ?_
        rw [show i = 16 by omega] at hb_151
        exact hNo τ ho hb_151
    · refine rj_ild3 dX12_apart_100 rfl ?_
      refine rj_if_eq (tgt := 142) dX12_apart_101 (by decide) (fun h_101 => ?_) (fun h_101 => ?_)
      · have hb_101 := bz_t h_101
        refine rj_ic0 dX12_apart_142 ?_
        refine rj_ist3 dX12_apart_143 (by decide) rfl ?_
        refine rj_iinc4 (d := 1) dX12_apart_144 (by decide) rfl (by decide) ?_
        rw [nI_1]
        refine rj_goto (tgt := 93) dX12_apart_147 (by decide) ?_
        have k2 := ih (i + 1) τ (by omega) ⟨by omega, ho, hu⟩
        rw [if_neg (fun z => hb_101 (fun q hq => z q (by omega)))] at k2
        exact k2
      · have hb_101 := bz_f h_101
        refine rj_ild dX12_apart_104 rfl ?_
        refine rj_ic4 dX12_apart_106 ?_
        refine rj_idiv dX12_apart_107 (by decide) ?_
        refine rj_ild dX12_apart_108 rfl ?_
        refine rj_ic4 dX12_apart_110 ?_
        refine rj_irem dX12_apart_111 (by decide) ?_
        rw [er, ed]
        refine rj_ic_ge (tgt := 138) dX12_apart_112 (by decide) (fun h_112 => ?_) (fun h_112 => ?_)
        · refine rj_ic1 dX12_apart_138 ?_
          refine rj_goto (tgt := 143) dX12_apart_139 (by decide) ?_
          refine rj_ist3 dX12_apart_143 (by decide) rfl ?_
          refine rj_iinc4 (d := 1) dX12_apart_144 (by decide) rfl (by decide) ?_
          rw [nI_1]
          refine rj_goto (tgt := 93) dX12_apart_147 (by decide) ?_
          have k2 := ih (i + 1) τ (by omega) ⟨by omega, ho, hu⟩
          rw [if_pos (all_s hb_101 (by unfold lkv; rw [if_neg (by omega), if_neg (by omega)]))] at k2
          exact k2
        · refine rj_ald0 dX12_apart_115 rfl ?_
          refine rj_ic4 dX12_apart_116 ?_
          refine rj_ild dX12_apart_117 rfl ?_
          refine rj_iadd dX12_apart_119 ?_
          rw [e4]
          refine rj_ald0 dX12_apart_120 rfl ?_
          refine rj_ild dX12_apart_121 rfl ?_
          refine rj_ic4 dX12_apart_123 ?_
          refine rj_idiv dX12_apart_124 (by decide) ?_
          refine rj_ild dX12_apart_125 rfl ?_
          refine rj_ic4 dX12_apart_127 ?_
          refine rj_irem dX12_apart_128 (by decide) ?_
          rw [er, ed]
          refine rj_V2 (ci := 12) cX12_188 rfl (by decide) (by first | assumption | rfl) dX12_apart_129 (c_X12_linksOf hX hok hr4 (a := i / 4) (b := i % 4) (by omega) (by omega)) (fitM (by omega) (by decide)) (Nat.le_of_ble_eq_true rfl) ?_
          rintro v υ2 ⟨rfl, ho2⟩
          simp only [Option.toList, List.cons_append, List.nil_append]
          have hu2 : υ2.1 120 = σ.1 120 := ((ho2 120 (by decide)).1).trans hu
          have hlk : (stf ys).2 (pr (nI (i / 4)) (nI (i % 4))).toNatClampNeg = lkv ys i := by unfold lkv; rw [if_pos (by omega)]
          rw [hlk]
          have htl : υ2.1 120 (4 + i) = lkv xs i := by rw [hu2]; exact h2 i (by omega)
          refine rj_V2i (ci := 12) cX12_203 rfl (by decide) (by first | assumption | rfl) dX12_apart_132 (c_X12_isTold (by omega)) (fitM (by omega) (by decide)) (Nat.le_of_ble_eq_true rfl) ?_
          refine rj_if_eq (tgt := 142) dX12_apart_135 (by decide) (fun h_135 => ?_) (fun h_135 => ?_)
          · have hb_135 := bz_t h_135
            refine rj_ic0 dX12_apart_142 ?_
            refine rj_ist3 dX12_apart_143 (by decide) rfl ?_
            refine rj_iinc4 (d := 1) dX12_apart_144 (by decide) rfl (by decide) ?_
            rw [nI_1]
            refine rj_goto (tgt := 93) dX12_apart_147 (by decide) ?_
            have k2 := ih (i + 1) υ2 (by omega) ⟨by omega, ho.tr (cT_8 ho2), hu2⟩
            rw [if_neg (fun z => hb_135 (by rw [htl]; exact z i (by omega)))] at k2
            exact k2
          · have hb_135 := bz_f h_135
            refine rj_ic1 dX12_apart_138 ?_
            refine rj_goto (tgt := 143) dX12_apart_139 (by decide) ?_
            refine rj_ist3 dX12_apart_143 (by decide) rfl ?_
            refine rj_iinc4 (d := 1) dX12_apart_144 (by decide) rfl (by decide) ?_
            rw [nI_1]
            refine rj_goto (tgt := 93) dX12_apart_147 (by decide) ?_
            have k2 := ih (i + 1) υ2 (by omega) ⟨by omega, ho.tr (cT_8 ho2), hu2⟩
            rw [if_pos (all_s hb_101 (by rw [← htl]; exact hb_135))] at k2
            exact k2

set_option maxRecDepth 100000 in
theorem l_X12_apA {l : Launch} {X : CX} {h : Nat} {Q : Option Value → ST → Prop} {σ : ST} {A : SA} {t o : Int32} {xs ys : List Int32} (hh : 3 ≤ h) (hw : wf A) (hM : MR σ A) (hx : LD σ ys) (hok : okL A.2.1.1 ys) (h1 : TO1 σ A.2.1.1 xs A.2.1.1.toInt.toNat) (hNo : ∀ τ, off cT σ τ → ¬ (∀ q, q < A.2.1.1.toInt.toNat → eoF A.2.1.1 (stf xs).1 (nI q) = eoF A.2.1.1 (stf ys).1 (nI q)) → Q (some (.int 1)) τ) (hY : ∀ τ, off cT σ τ → τ.1 120 = σ.1 120 → (∀ q, q < A.2.1.1.toInt.toNat → eoF A.2.1.1 (stf xs).1 (nI q) = eoF A.2.1.1 (stf ys).1 (nI q)) → RJ (GM l X h Q) X cX12_apart 5 (some .int) RX12 93 [some (.ref (ad X 112)), some (.int t), some (.int o), some (.int 1), some (.int 0)] [] τ) : ∀ (N i : Nat) (τ : ST), A.2.1.1.toInt.toNat < i + N → (i ≤ A.2.1.1.toInt.toNat ∧ off cT σ τ ∧ τ.1 120 = σ.1 120) → RJ (GM l X h Q) X cX12_apart 5 (some .int) RX12 42 [some (.ref (ad X 112)), some (.int t), some (.int o), some (.int (if ∀ q, q < i → eoF A.2.1.1 (stf xs).1 (nI q) = eoF A.2.1.1 (stf ys).1 (nI q) then 1 else 0)), some (.int (nI i))] [] τ := by
  intro N
  induction N with
  | zero => intro i τ hN hi; have := hi.1; exact absurd hN (by omega)
  | succ N ih =>
    intro i τ hN hi
    obtain ⟨hi, ho, hu⟩ := hi
    have hr4 := hw.1.2.1
    have hit : (nI i).toInt = i := nI_t (by omega)
    have hM1 := mr_s hM (mq_T ho)
    have h0 : τ.1 113 0 = A.2.1.1 := hM1.1.1
    have hX := ld_T hx ho
    refine rj_ild dX12_apart_42 rfl ?_
    refine rj_ald0 dX12_apart_44 rfl ?_
    refine g12_7 dX12_apart_45 ?_
    refine rj_ic0 dX12_apart_48 ?_
    refine rj_iald (by first | assumption | rfl) (vpi (by decide) (by decide)) dX12_apart_49 ?_
    rw [show (0 : Int32).toNatClampNeg = 0 from rfl, h0]
    refine rj_ic_ge (tgt := 84) dX12_apart_50 (by decide) (fun h_50 => ?_) (fun h_50 => ?_)
    · refine rj_ild3 dX12_apart_84 rfl ?_
      refine rj_if_ne (tgt := 90) dX12_apart_85 (by decide) (fun h_85 => ?_) (fun h_85 => ?_)
      · have hb_85 := bz_f h_85
        refine rj_ic0 dX12_apart_90 ?_
        refine rj_ist4w dX12_apart_91 (by decide) rfl ?_
        rw [show i = A.2.1.1.toInt.toNat by omega] at hb_85 ⊢
        rw [if_pos hb_85]
        exact hY τ ho hu hb_85
      · have hb_85 := bz_t h_85
        refine rj_ic1 dX12_apart_88 ?_
        refine rj_iret dX12_apart_89 ?_
        rw [show i = A.2.1.1.toInt.toNat by omega] at hb_85
        exact hNo τ ho hb_85
    · refine rj_ild3 dX12_apart_53 rfl ?_
      refine rj_if_eq (tgt := 76) dX12_apart_54 (by decide) (fun h_54 => ?_) (fun h_54 => ?_)
      · have hb_54 := bz_t h_54
        refine rj_ic0 dX12_apart_76 ?_
        refine rj_ist3 dX12_apart_77 (by decide) rfl ?_
        refine rj_iinc4 (d := 1) dX12_apart_78 (by decide) rfl (by decide) ?_
        rw [nI_1]
        refine rj_goto (tgt := 42) dX12_apart_81 (by decide) ?_
        have k2 := ih (i + 1) τ (by omega) ⟨by omega, ho, hu⟩
        rw [if_neg (fun z => hb_54 (fun q hq => z q (by omega)))] at k2
        exact k2
      · have hb_54 := bz_f h_54
        refine rj_ald0 dX12_apart_57 rfl ?_
        refine rj_ild dX12_apart_58 rfl ?_
        refine rj_ald0 dX12_apart_60 rfl ?_
        refine rj_ild dX12_apart_61 rfl ?_
        refine rj_V1 (ci := 12) cX12_185 rfl (by decide) (by first | assumption | rfl) dX12_apart_63 (c_X12_endOf hM1 hw hX hok (m := i) (by omega)) (fitM (by omega) (by decide)) (Nat.le_of_ble_eq_true rfl) ?_
        rintro v υ2 ⟨rfl, ho2⟩
        simp only [Option.toList, List.cons_append, List.nil_append]
        have hu2 : υ2.1 120 = σ.1 120 := ((ho2 120 (by decide)).1).trans hu
        have htl : υ2.1 120 i = eoF A.2.1.1 (stf xs).1 (nI i) := by rw [hu2]; exact h1 i (by omega)
        refine rj_V2i (ci := 12) cX12_203 rfl (by decide) (by first | assumption | rfl) dX12_apart_66 (c_X12_isTold (by omega)) (fitM (by omega) (by decide)) (Nat.le_of_ble_eq_true rfl) ?_
        refine rj_if_eq (tgt := 76) dX12_apart_69 (by decide) (fun h_69 => ?_) (fun h_69 => ?_)
        · have hb_69 := bz_t h_69
          refine rj_ic0 dX12_apart_76 ?_
          refine rj_ist3 dX12_apart_77 (by decide) rfl ?_
          refine rj_iinc4 (d := 1) dX12_apart_78 (by decide) rfl (by decide) ?_
          rw [nI_1]
          refine rj_goto (tgt := 42) dX12_apart_81 (by decide) ?_
          have k2 := ih (i + 1) υ2 (by omega) ⟨by omega, ho.tr (cT_8 ho2), hu2⟩
          rw [if_neg (fun z => hb_69 (by rw [htl]; exact z i (by omega)))] at k2
          exact k2
        · have hb_69 := bz_f h_69
          refine rj_ic1 dX12_apart_72 ?_
          refine rj_goto (tgt := 77) dX12_apart_73 (by decide) ?_
          refine rj_ist3 dX12_apart_77 (by decide) rfl ?_
          refine rj_iinc4 (d := 1) dX12_apart_78 (by decide) rfl (by decide) ?_
          rw [nI_1]
          refine rj_goto (tgt := 42) dX12_apart_81 (by decide) ?_
          have k2 := ih (i + 1) υ2 (by omega) ⟨by omega, ho.tr (cT_8 ho2), hu2⟩
          rw [if_pos (all_s hb_54 (by rw [← htl]; exact hb_69))] at k2
          exact k2

set_option maxRecDepth 100000 in
theorem c_X12_layTie2 {l : Launch} {X : CX} {σ : ST} {A : SA} (hM : MR σ A) (hw : wf A) {t : Int32} {j : Nat} (ht : t.toInt = j) (hj : j < A.2.1.2.2.length) : MJ l X 3 yX12_layTie cX12_layTie 2 none [.ref (ad X 112), .int t] σ (PV (fun τ => LD τ (lyA A j) ∧ mq σ τ ∧ τ.1 120 = σ.1 120)) := by
  refine MJ_of (own := RX12) [some (.ref (ad X 112)), some (.int t)] (by decide) rfl (Nat.le_of_ble_eq_true rfl) rfl ?_
  have h12 := (wf_t hw hj).2.2.1
  have hok := (wf_t hw hj).2.2.2
  refine rj_ald0 dX12_layTie_0 rfl ?_
  refine rj_ild1 dX12_layTie_1 rfl ?_
  refine rj_V1 (ci := 12) cX12_117 rfl (by decide) (by first | assumption | rfl) dX12_layTie_2 (c_X12_tries hM ht hj h12) (fitM (by decide) (by decide)) (Nat.le_of_ble_eq_true rfl) ?_
  rintro v υ ⟨rfl, hx1, hn1⟩
  simp only [Option.toList, List.nil_append]
  have hM1 := mr_s hM (nq_mq hn1 (by omega) (by omega))
  refine rj_ald0 dX12_layTie_5 rfl ?_
  refine rj_ald0 dX12_layTie_6 rfl ?_
  refine rj_ild1 dX12_layTie_7 rfl ?_
  refine rj_V1i (ci := 12) cX12_99 rfl (by decide) (by first | assumption | rfl) dX12_layTie_8 (c_X12_kindOf hM1 ht hj) (fitM (by decide) (by decide)) (Nat.le_of_ble_eq_true rfl) ?_
  refine rj_V1 (ci := 12) cX12_120 rfl (by decide) (by first | assumption | rfl) dX12_layTie_11 (c_X12_laysAs hM1 hx1 (fun i hi => okL_nz hok hi)) (fitM (by decide) (by decide)) (Nat.le_of_ble_eq_true rfl) ?_
  rintro v υ2 ⟨rfl, hx2, hn2⟩
  simp only [Option.toList, List.nil_append]
  refine rj_vret dX12_layTie_14 ?_
  exact ⟨rfl, hx2, mq_tr (nq_mq hn1 (by omega) (by omega)) (nq_mq hn2 (by omega) (by omega)), ((hn2.1 120 (by decide)).1).trans (hn1.1 120 (by decide)).1⟩

set_option maxRecDepth 100000 in
theorem c_X12_apart {l : Launch} {X : CX} {σ : ST} {A : SA} (hM : MR σ A) (hw : wf A) {t o : Int32} : MJ l X 4 yX12_apart cX12_apart 5 (some .int) [.ref (ad X 112), .int t, .int o] σ (OM σ (F_apart A t o)) := by
  refine MJ_of (own := RX12) [some (.ref (ad X 112)), some (.int t), some (.int o), none, none] (by decide) rfl (Nat.le_of_ble_eq_true rfl) rfl ?_
  have hr2 := hw.1.1
  have hr4 := hw.1.2.1
  refine rj_ald0 dX12_apart_0 rfl ?_
  refine rj_ild1 dX12_apart_1 rfl ?_
  refine rj_V1i (ci := 12) cX12_85 rfl (by decide) (by first | assumption | rfl) dX12_apart_2 (c_X12_isTie hM) (fitM (by decide) (by decide)) (Nat.le_of_ble_eq_true rfl) ?_
  refine rj_if_eq (tgt := 16) dX12_apart_5 (by decide) (fun h_5 => ?_) (fun h_5 => ?_)
  · have hb_5 := bz_t h_5
    refine rj_ald0 dX12_apart_16 rfl ?_
    refine rj_ldc kX12_59 dX12_apart_17 ?_
    refine rj_V1 (ci := 12) cX12_68 rfl (by decide) rfl dX12_apart_19 (c_X12_finds (i := 0) hM (by decide) (by decide)) (fitM (by decide) (by decide)) (Nat.le_of_ble_eq_true rfl) ?_
    rintro v υq ⟨rfl, hq⟩
    simp only [Option.toList, List.cons_append, List.nil_append]
    refine rj_iret dX12_apart_22 ?_
    have e : F_apart A t o = fnd A 0 := by unfold F_apart; rw [wT_out hb_5]
    rw [e]
    exact ⟨rfl, hq⟩
  · have hb_5 := bz_f h_5
    obtain ⟨j, hv, hj⟩ := mt_in hb_5
    have h12 := (wf_t hw hj).2.2.1
    have hlt : (nI (fT A j).2.length).toInt = (fT A j).2.length := nI_t (by omega)
    have h8 := hM.1.2.2.2.1
    obtain ⟨f1, f2, f3, f4⟩ := hM.1.2.2.2.2 j hj
    have f6 : σ.1 113 (4 + 14 * j) = nI (fT A j).2.length := f2
    have f7 : σ.1 113 (3 + 14 * j) = (fT A j).1 := f1
    refine rj_ald0 dX12_apart_8 rfl ?_
    refine rj_ild2 dX12_apart_9 rfl ?_
    refine rj_V1i (ci := 12) cX12_85 rfl (by decide) (by first | assumption | rfl) dX12_apart_10 (c_X12_isTie hM) (fitM (by decide) (by decide)) (Nat.le_of_ble_eq_true rfl) ?_
    refine rj_if_ne (tgt := 23) dX12_apart_13 (by decide) (fun h_13 => ?_) (fun h_13 => ?_)
    · have hb_13 := bz_f h_13
      obtain ⟨i, hu, hi⟩ := mt_in hb_13
      refine rj_ald0 dX12_apart_23 rfl ?_
      refine rj_ild1 dX12_apart_24 rfl ?_
      refine rj_V1 (ci := 12) cX12_123 rfl (by decide) (by first | assumption | rfl) dX12_apart_25 (c_X12_layTie hM hw hv hj) (fitM (by decide) (by decide)) (Nat.le_of_ble_eq_true rfl) ?_
      rintro v υ ⟨rfl, hx1, hy1, hn1⟩
      simp only [Option.toList, List.nil_append]
      have hly : lyN (fT A j).1 (fT A j).2.length = (lyA A j).length := (ly_len _ _ _).symm
      have hM1 := mr_s hM hn1
      have hl1 := hx1.1
      have hl2 := hx1.2.1
      have hl3 : (nI (lyA A j).length).toInt = (lyA A j).length := nI_t (by omega)
      refine rj_ald0 dX12_apart_28 rfl ?_
      refine rj_V0 (ci := 12) cX12_200 rfl (by decide) (by first | assumption | rfl) dX12_apart_29 (c_X12_tells hM1 hw hx1 (wf_ly hw hj)) (fitM (by decide) (by decide)) (Nat.le_of_ble_eq_true rfl) ?_
      rintro v υ2 ⟨rfl, hT1, hT2, hT3, hoT⟩
      simp only [Option.toList, List.nil_append]
      have hM2 := mr_s hM1 (mq_T hoT)
      refine rj_ald0 dX12_apart_32 rfl ?_
      refine rj_ild2 dX12_apart_33 rfl ?_
      refine rj_V1 (ci := 12) cX12_123 rfl (by decide) (by first | assumption | rfl) dX12_apart_34 (c_X12_layTie2 hM2 hw hu hi) (fitM (by decide) (by decide)) (Nat.le_of_ble_eq_true rfl) ?_
      rintro v υ3 ⟨rfl, hx3, hn3, h120⟩
      simp only [Option.toList, List.nil_append]
      have hM3 := mr_s hM2 hn3
      refine rj_ic1 dX12_apart_37 ?_
      refine rj_ist3 dX12_apart_38 (by decide) rfl ?_
      refine rj_ic0 dX12_apart_39 ?_
      refine rj_ist4w dX12_apart_40 (by decide) rfl ?_
      have ef : F_apart A t o = if endsAsInA (lyA A j) (lyA A i) then (if linksAsInA (lyA A j) (lyA A i) then apR A j i 3 0 else (2, A)) else (1, A) := by unfold F_apart; rw [wT_in hv hj, wT_in hu hi]
      rw [ef]
      have hokx := wf_ly hw hj
      have hoky := wf_ly hw hi
      have hmd : off mdP σ υ3 := ((mq_md hn1).tr (mq_md (mq_T hoT))).tr (mq_md hn3)
      have ei := ends_iff (rc := A.2.1.1) (xs := lyA A j) (ys := lyA A i) rfl (by omega) (okL_k hokx (by omega)) (okL_k hoky (by omega))
      have li := links_iff (xs := lyA A j) (ys := lyA A i) (okL_k hokx (by omega)) (okL_k hoky (by omega))
      have hA := l_X12_apA (l := l) (X := X) (h := 4) (Q := OM σ (if endsAsInA (lyA A j) (lyA A i) then (if linksAsInA (lyA A j) (lyA A i) then apR A j i 3 0 else (2, A)) else (1, A))) (t := t) (o := o) (xs := lyA A j) (ys := lyA A i) (by decide) hw hM3 hx3 hoky (to1_o hT1 h120) (fun τ ho hn => ?_) (fun τ ho hu1 hy => ?_) (A.2.1.1.toInt.toNat + 1) 0 υ3 (by omega) ⟨by omega, off.rf, rfl⟩
      · rw [ite_0] at hA
        exact hA
      · rw [if_neg (fun z => hn (ei.mpr z))]
        exact ⟨rfl, mr_s hM3 (mq_T ho), hmd.tr (mq_md (mq_T ho))⟩
      · rw [if_pos (ei.mp hy)]
        have hM4 := mr_s hM3 (mq_T ho)
        have hB := l_X12_apB (l := l) (X := X) (h := 4) (Q := OM σ (if linksAsInA (lyA A j) (lyA A i) then apR A j i 3 0 else (2, A))) (t := t) (o := o) (xs := lyA A j) (ys := lyA A i) (by decide) hw hM4 (ld_T hx3 ho) hoky (to2_o hT2 (hu1.trans h120)) (fun τ2 ho2 hn => ?_) (fun τ2 ho2 hu2 hy2 => ?_) 17 0 τ (by omega) ⟨by omega, off.rf, rfl⟩
        · rw [ite_0] at hB
          exact hB
        · rw [if_neg (fun z => hn (li.mpr z))]
          exact ⟨rfl, mr_s hM4 (mq_T ho2), (hmd.tr (mq_md (mq_T ho))).tr (mq_md (mq_T ho2))⟩
        · rw [if_pos (li.mp hy2)]
          have hC := l_X12_apC (l := l) (X := X) (h := 4) (Q := OM σ (apR A j i 3 0)) (t := t) (o := o) (xs := lyA A j) (ys := lyA A i) (by decide) hw (mr_s hM4 (mq_T ho2)) (ld_T (ld_T hx3 ho) ho2) hoky (to3_o hT3 ((hu2.trans hu1).trans h120)) (fun τ3 ho3 hz => ?_) (fun τ3 ho3 hz => ?_) 4 0 τ2 (by omega) ⟨by omega, off.rf, rfl⟩
          · rw [ite_0] at hC
            exact hC
          · rw [apR_t hz]; exact ⟨rfl, mr_s (mr_s hM4 (mq_T ho2)) (mq_T ho3), ((hmd.tr (mq_md (mq_T ho))).tr (mq_md (mq_T ho2))).tr (mq_md (mq_T ho3))⟩
          · rw [apR_f hz]; exact ⟨rfl, mr_s (mr_s hM4 (mq_T ho2)) (mq_T ho3), ((hmd.tr (mq_md (mq_T ho))).tr (mq_md (mq_T ho2))).tr (mq_md (mq_T ho3))⟩
    · have hb_13 := bz_t h_13
      refine rj_ald0 dX12_apart_16 rfl ?_
      refine rj_ldc kX12_59 dX12_apart_17 ?_
      refine rj_V1 (ci := 12) cX12_68 rfl (by decide) rfl dX12_apart_19 (c_X12_finds (i := 0) hM (by decide) (by decide)) (fitM (by decide) (by decide)) (Nat.le_of_ble_eq_true rfl) ?_
      rintro v υq ⟨rfl, hq⟩
      simp only [Option.toList, List.cons_append, List.nil_append]
      refine rj_iret dX12_apart_22 ?_
      have e : F_apart A t o = fnd A 0 := by unfold F_apart; rw [wT_in hv hj, wT_out hb_13]
      rw [e]
      exact ⟨rfl, hq⟩

