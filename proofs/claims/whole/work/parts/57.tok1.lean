/-! the reference: tokens -/
def TPm (σ : ST) (bs : List Int32) : Prop := σ.1 112 13 = nI bs.length ∧ bs.length ≤ 120 ∧ ∀ i, i < bs.length → σ.1 122 i = bs.getD i 0
def wdN (bs : List Int32) (f : Nat) : Nat → Int64
  | 0 => 0
  | n + 1 => if n < 12 then 27 * wdN bs f n + (bs.getD (f + n) 0).toInt64 - 96 else -1
def wdc (bs : List Int32) (p : Nat) : Int64 := wdN bs (tF bs p) (nx bs p - tF bs p)
/-- only the token's fields change -/
def tq (σ τ : ST) : Prop := off (fun a => a = 112) σ τ ∧ ∀ b, b ≠ 14 → b ≠ 15 → b ≠ 16 → b ≠ 18 → τ.1 112 b = σ.1 112 b
theorem tq_rf {σ : ST} : tq σ σ := ⟨off.rf, fun _ _ _ _ _ => rfl⟩
theorem tq_tr {σ τ υ : ST} (h : tq σ τ) (h2 : tq τ υ) : tq σ υ := ⟨h.1.tr h2.1, fun b a1 a2 a3 a4 => (h2.2 b a1 a2 a3 a4).trans (h.2 b a1 a2 a3 a4)⟩
theorem tq_u {σ τ : ST} {f : Nat} {v : Int32} (h : tq σ τ) (hf : f = 14 ∨ f = 15 ∨ f = 16 ∨ f = 18) : tq σ (ui τ 112 f v) := ⟨h.1.ui rfl, fun b a1 a2 a3 a4 => by rw [ui_nj (by omega)]; exact h.2 b a1 a2 a3 a4⟩
theorem tq_l {σ τ : ST} {f : Nat} {v : Int64} (h : tq σ τ) : tq σ (ul τ 112 f v) := ⟨h.1.ul rfl, fun b a1 a2 a3 a4 => by rw [ul_1]; exact h.2 b a1 a2 a3 a4⟩
theorem tq_mq {σ τ : ST} (h : tq σ τ) : mq σ τ := ⟨h.1.mono (fun a ha => by rw [show a = 112 from ha]; unfold msP; omega), h.2 13 (by decide) (by decide) (by decide) (by decide), h.2 26 (by decide) (by decide) (by decide) (by decide)⟩
theorem tp_q {σ τ : ST} {bs : List Int32} (h : TPm σ bs) (hq : tq σ τ) : TPm τ bs := ⟨by rw [hq.2 13 (by decide) (by decide) (by decide) (by decide)]; exact h.1, h.2.1, fun i hi => by rw [(hq.1 122 (by decide)).1]; exact h.2.2 i hi⟩
def TKM (σ : ST) (bs : List Int32) (p : Nat) : Prop := σ.1 112 14 = tS bs p ∧ σ.1 112 15 = nI (tF bs p) ∧ σ.1 112 16 = nI (nx bs p) ∧ (tS bs p = 2 → σ.1 112 18 = (tR bs p).2) ∧ (tS bs p = 3 → σ.1 112 18 = tb bs (tF bs p)) ∧ (tS bs p = 1 → σ.2 112 17 = wdc bs p)
theorem tkF_s (bs : List Int32) (n i : Nat) : tkF bs (n + 1) i = if bs.getD i 0 = 32 then tkF bs n (i + 1) else i := rfl
theorem tkT_s (bs : List Int32) (s : Int32) (n i : Nat) (v : Int32) : tkT bs s (n + 1) i v = if so (bs.getD i 0) = s then tkT bs s n (i + 1) (if s = 2 then vl v (bs.getD i 0) else v) else (i, v) := rfl
theorem so_1 {b : Int32} : so b = 1 ↔ (97 ≤ b.toInt ∧ b.toInt ≤ 122) := by
  unfold so
  by_cases h0 : b.toInt < 0
  · rw [if_pos h0]; exact ⟨fun h => absurd h (by decide), fun h => by omega⟩
  · rw [if_neg h0]
    by_cases h1 : 97 ≤ b.toInt ∧ b.toInt ≤ 122
    · rw [if_pos h1]; exact ⟨fun _ => h1, fun _ => rfl⟩
    · rw [if_neg h1]
      refine ⟨fun h => ?_, fun h => absurd h h1⟩
      split at h
      · exact absurd h (by decide)
      · exact absurd h (by decide)
theorem so_2 {b : Int32} : so b = 2 ↔ (48 ≤ b.toInt ∧ b.toInt ≤ 57) := by
  unfold so
  by_cases h0 : b.toInt < 0
  · rw [if_pos h0]; exact ⟨fun h => absurd h (by decide), fun h => by omega⟩
  · rw [if_neg h0]
    by_cases h1 : 97 ≤ b.toInt ∧ b.toInt ≤ 122
    · rw [if_pos h1]; exact ⟨fun h => absurd h (by decide), fun h => by omega⟩
    · rw [if_neg h1]
      by_cases h2 : 48 ≤ b.toInt ∧ b.toInt ≤ 57
      · rw [if_pos h2]; exact ⟨fun _ => h2, fun _ => rfl⟩
      · rw [if_neg h2]; exact ⟨fun h => absurd h (by decide), fun h => absurd h h2⟩
theorem tb_so {bs : List Int32} {i : Nat} {s : Int32} (hs : ¬ s = 0) : so (tb bs i) = s ↔ (i < bs.length ∧ so (bs.getD i 0) = s) := by
  unfold tb
  by_cases z : i < bs.length
  · rw [if_pos z]; exact ⟨fun h => ⟨z, h⟩, fun h => h.2⟩
  · rw [if_neg z]
    exact ⟨fun h => absurd (show so (-1) = 0 by decide) (fun y => hs (h.symm.trans y)), fun h => absurd h.1 z⟩
theorem vl_eq {v b : Int32} (hv : 0 ≤ v.toInt ∧ v.toInt ≤ 1000) (hb : 48 ≤ b.toInt ∧ b.toInt ≤ 57) : vl v b = (if v.toInt ≤ 99 then 10 * v + b - 48 else 1000) ∧ 0 ≤ (vl v b).toInt ∧ (vl v b).toInt ≤ 1000 := by
  have t10 : (10 : Int32).toInt = 10 := by decide
  have t48 : (48 : Int32).toInt = 48 := by decide
  have t1k : (1000 : Int32).toInt = 1000 := by decide
  have e1 : (v * 10).toInt = v.toInt * 10 := by rw [i_mul (by rw [t10]; omega) (by rw [t10]; omega), t10]
  have e2 : (v * 10 + b).toInt = v.toInt * 10 + b.toInt := by rw [i_add (by omega) (by omega), e1]
  have e3 : (v * 10 + b - 48).toInt = v.toInt * 10 + b.toInt - 48 := by rw [i_sub (by omega) (by omega), e2, t48]
  unfold vl
  by_cases z : v.toInt ≤ 99
  · rw [if_pos z, if_pos (Int32.lt_iff_toInt_lt.mpr (by omega)), Int32.mul_comm v 10]
    rw [Int32.mul_comm v 10] at e3
    exact ⟨rfl, by omega, by omega⟩
  · rw [if_neg z, if_neg (fun q => by have := Int32.lt_iff_toInt_lt.mp q; omega)]
    exact ⟨rfl, by omega, by omega⟩
set_option maxRecDepth 100000 in
theorem c_X12_byteAt {l : Launch} {X : CX} {σ : ST} {bs : List Int32} (hT : TPm σ bs) {i : Nat} (hi : i < 1000) : MJ l X 0 yX12_byteAt cX12_byteAt 2 (some .int) [.ref (ad X 112), .int (nI i)] σ (eqI (tb bs i) σ) := by
  refine MJ_of (own := RX12) [some (.ref (ad X 112)), some (.int (nI i))] (by decide) rfl (Nat.le_of_ble_eq_true rfl) rfl ?_
  have h120 := hT.2.1
  have hit : (nI i).toInt = i := nI_t (by omega)
  have hlt : (nI bs.length).toInt = bs.length := nI_t (by omega)
  refine rj_ild1 dX12_byteAt_0 rfl ?_
  refine rj_ald0 dX12_byteAt_1 rfl ?_
  refine g12_219 dX12_byteAt_2 ?_
  rw [hT.1]
  refine rj_ic_ge (tgt := 17) dX12_byteAt_5 (by decide) (fun h_5 => ?_) (fun h_5 => ?_)
  · refine rj_icm1 dX12_byteAt_17 ?_
    refine rj_iret dX12_byteAt_18 ?_
    refine ⟨?_, rfl⟩
    unfold tb
    rw [if_neg (by omega)]
  · refine rj_ald0 dX12_byteAt_8 rfl ?_
    refine g12_37 dX12_byteAt_9 ?_
    refine rj_ild1 dX12_byteAt_12 rfl ?_
    refine rj_iald (by first | assumption | rfl) (vpi (by omega) (by show _ < ((120 : Nat) : Int); omega)) dX12_byteAt_13 ?_
    rw [nI_clamp (by omega), hT.2.2 i (by omega)]
    refine rj_goto (tgt := 18) dX12_byteAt_14 (by decide) ?_
    refine rj_iret dX12_byteAt_18 ?_
    refine ⟨?_, rfl⟩
    unfold tb
    rw [if_pos (by omega)]

set_option maxRecDepth 100000 in
theorem c_X12_isLetter {l : Launch} {X : CX} {σ : ST} {b : Int32} : MJ l X 1 yX12_isLetter cX12_isLetter 1 (some .boolean) [.int b] σ (eqI (if so b = 1 then 1 else 0) σ) := by
  refine MJ_of (own := RX12) [some (.int b)] (by decide) rfl (Nat.le_of_ble_eq_true rfl) rfl ?_
  refine rj_ild0 dX12_isLetter_0 rfl ?_
  refine rj_bipush (v := 97) dX12_isLetter_1 (by decide) ?_
  refine rj_bipush (v := 122) dX12_isLetter_3 (by decide) ?_
  refine rj_S3i cX12_60 dX12_isLetter_5 c_X12_in (fitM (by decide) (by decide)) (Nat.le_of_ble_eq_true rfl) ?_
  refine rj_zret dX12_isLetter_8 (by split <;> rfl) ?_
  refine ⟨?_, rfl⟩
  have qa : (97 : Int32).toInt = 97 := by decide
  have qb : (122 : Int32).toInt = 122 := by decide
  have hs := so_1 (b := b)
  congr 2
  by_cases h : so b = 1
  · rw [if_pos h, if_pos (by rw [qa, qb]; exact hs.mp h)]
  · rw [if_neg h, if_neg (fun z => h (hs.mpr (by rw [qa, qb] at z; exact z)))]

set_option maxRecDepth 100000 in
theorem c_X12_isDigit {l : Launch} {X : CX} {σ : ST} {b : Int32} : MJ l X 1 yX12_isDigit cX12_isDigit 1 (some .boolean) [.int b] σ (eqI (if so b = 2 then 1 else 0) σ) := by
  refine MJ_of (own := RX12) [some (.int b)] (by decide) rfl (Nat.le_of_ble_eq_true rfl) rfl ?_
  refine rj_ild0 dX12_isDigit_0 rfl ?_
  refine rj_bipush (v := 48) dX12_isDigit_1 (by decide) ?_
  refine rj_bipush (v := 57) dX12_isDigit_3 (by decide) ?_
  refine rj_S3i cX12_60 dX12_isDigit_5 c_X12_in (fitM (by decide) (by decide)) (Nat.le_of_ble_eq_true rfl) ?_
  refine rj_zret dX12_isDigit_8 (by split <;> rfl) ?_
  refine ⟨?_, rfl⟩
  have qa : (48 : Int32).toInt = 48 := by decide
  have qb : (57 : Int32).toInt = 57 := by decide
  have hs := so_2 (b := b)
  congr 2
  by_cases h : so b = 2
  · rw [if_pos h, if_pos (by rw [qa, qb]; exact hs.mp h)]
  · rw [if_neg h, if_neg (fun z => h (hs.mpr (by rw [qa, qb] at z; exact z)))]

set_option maxRecDepth 100000 in
theorem l_X12_advA {l : Launch} {X : CX} {h : Nat} {Q : Option Value → ST → Prop} {σ : ST} {bs : List Int32} (hh : 2 ≤ h) (hT : TPm σ bs) {f : Nat} (hY : ∀ τ, τ.1 112 15 = nI f → tq σ τ → RJ (GM l X h Q) X cX12_advance 2 none RX12 34 [some (.ref (ad X 112)), none] [] τ) : ∀ (N i : Nat) (τ : ST), bs.length < i + N → (i ≤ bs.length ∧ τ.1 112 15 = nI i ∧ tq σ τ ∧ tkF bs (bs.length - i) i = f) → RJ (GM l X h Q) X cX12_advance 2 none RX12 8 [some (.ref (ad X 112)), none] [] τ := by
  intro N
  induction N with
  | zero => intro i τ hN hi; have := hi.1; exact absurd hN (by omega)
  | succ N ih =>
    intro i τ hN hi
    obtain ⟨hi, h15, hq, hf⟩ := hi
    have hT1 := tp_q hT hq
    have h120 := hT.2.1
    have q32 : (32 : Int32).toInt = 32 := by decide
    refine rj_ald0 dX12_advance_8 rfl ?_
    refine rj_ald0 dX12_advance_9 rfl ?_
    refine g12_225 dX12_advance_10 ?_
    rw [h15]
    refine rj_V1i (ci := 12) cX12_227 rfl (by decide) (by first | assumption | rfl) dX12_advance_13 (c_X12_byteAt hT1 (by omega)) (fitM (by omega) (by decide)) (Nat.le_of_ble_eq_true rfl) ?_
    refine rj_bipush (v := 32) dX12_advance_16 (by decide) ?_
    refine rj_ic_ne (tgt := 34) dX12_advance_18 (by decide) (fun h_18 => ?_) (fun h_18 => ?_)
    · have hfe : f = i := by
        rcases Nat.lt_or_ge i bs.length with z | z
        · rw [tb_lt z] at h_18
          rw [show bs.length - i = (bs.length - (i + 1)) + 1 by omega, tkF_s, if_neg h_18] at hf
          exact hf.symm
        · rw [show bs.length - i = 0 by omega] at hf
          exact hf.symm
      exact hY τ (by rw [hfe]; exact h15) hq
    · have hil : i < bs.length := by
        rcases Nat.lt_or_ge i bs.length with z | z
        · exact z
        · unfold tb at h_18; rw [if_neg (by omega)] at h_18; exact absurd h_18 (by decide)
      rw [tb_lt hil] at h_18
      rw [show bs.length - i = (bs.length - (i + 1)) + 1 by omega, tkF_s, if_pos h_18] at hf
      refine rj_ald0 dX12_advance_21 rfl ?_
      refine rj_dup dX12_advance_22 rfl ?_
      refine g12_225 dX12_advance_23 ?_
      rw [h15]
      refine rj_ic1 dX12_advance_26 ?_
      refine rj_iadd dX12_advance_27 ?_
      rw [nI_1]
      refine p12_225 dX12_advance_28 ?_
      refine rj_goto (tgt := 8) dX12_advance_31 (by decide) ?_
      exact ih (i + 1) _ (by omega) ⟨by omega, ui_same _ _ _ _, tq_u hq (by omega), hf⟩

set_option maxRecDepth 100000 in
theorem l_X12_advX {l : Launch} {X : CX} {h : Nat} {Q : Option Value → ST → Prop} {σ : ST} {s b : Int32} (h14 : σ.1 112 14 = s) (hs : ¬ s = 2) (hQ : Q none σ) :  RJ (GM l X h Q) X cX12_advance 2 none RX12 207 [some (.ref (ad X 112)), some (.int b)] [] σ := by

  refine rj_ald0 dX12_advance_207 rfl ?_
  refine g12_236 dX12_advance_208 ?_
  rw [h14]
  refine rj_ic2 dX12_advance_211 ?_
  refine rj_ic_ne (tgt := 280) dX12_advance_212 (by decide) (fun h_212 => ?_) (fun h_212 => ?_)
  · refine rj_vret dX12_advance_280 ?_
    exact hQ
  · exact absurd h_212 hs

set_option maxRecDepth 100000 in
theorem l_X12_advD {l : Launch} {X : CX} {h : Nat} {Q : Option Value → ST → Prop} {σ : ST} {bs : List Int32} (hh : 2 ≤ h) (hT : TPm σ bs) {b : Int32} {r : Nat × Int32} {f : Nat} (hQ : ∀ τ, τ.1 112 14 = 2 → τ.1 112 15 = nI f → τ.1 112 16 = nI r.1 → τ.1 112 18 = r.2 → tq σ τ → Q none τ) : ∀ (N i : Nat) (v : Int32) (τ : ST), bs.length < i + N → (i ≤ bs.length ∧ (0 ≤ v.toInt ∧ v.toInt ≤ 1000) ∧ τ.1 112 14 = 2 ∧ τ.1 112 15 = nI f ∧ τ.1 112 16 = nI i ∧ τ.1 112 18 = v ∧ tq σ τ ∧ tkT bs 2 (bs.length - i) i v = r) → RJ (GM l X h Q) X cX12_advance 2 none RX12 207 [some (.ref (ad X 112)), some (.int b)] [] τ := by
  intro N
  induction N with
  | zero => intro i v τ hN hi; have := hi.1; exact absurd hN (by omega)
  | succ N ih =>
    intro i v τ hN hi
    obtain ⟨hi, hv, h14, h15, h16, h18, hq, hr⟩ := hi
    have hT1 := tp_q hT hq
    have h120 := hT.2.1
    have q99 : (99 : Int32).toInt = 99 := by decide
    refine rj_ald0 dX12_advance_207 rfl ?_
    refine g12_236 dX12_advance_208 ?_
    rw [h14]
    refine rj_ic2 dX12_advance_211 ?_
    refine rj_ic_ne (tgt := 280) dX12_advance_212 (by decide) (fun h_212 => ?_) (fun h_212 => ?_)
    · exact absurd rfl h_212
    · refine rj_ald0 dX12_advance_215 rfl ?_
      refine rj_ald0 dX12_advance_216 rfl ?_
      refine g12_222 dX12_advance_217 ?_
      rw [h16]
      refine rj_V1i (ci := 12) cX12_227 rfl (by decide) (by first | assumption | rfl) dX12_advance_220 (c_X12_byteAt hT1 (by omega)) (fitM (by omega) (by decide)) (Nat.le_of_ble_eq_true rfl) ?_
      refine rj_S1i cX12_233 dX12_advance_223 c_X12_isDigit (fitM (by omega) (by decide)) (Nat.le_of_ble_eq_true rfl) ?_
      refine rj_if_eq (tgt := 280) dX12_advance_226 (by decide) (fun h_226 => ?_) (fun h_226 => ?_)
      · have hb_226 := bz_t h_226
        refine rj_vret dX12_advance_280 ?_
        have hre : (i, v) = r := by
          rcases Nat.lt_or_ge i bs.length with z | z
          · rw [show bs.length - i = (bs.length - (i + 1)) + 1 by omega, tkT_s, if_neg (fun y => hb_226 ((tb_so (by decide)).mpr ⟨z, y⟩))] at hr
            exact hr
          · rw [show bs.length - i = 0 by omega] at hr
            exact hr
        exact hQ τ h14 h15 (by rw [← hre]; exact h16) (by rw [← hre]; exact h18) hq
      · have hb_226 := bz_f h_226
        have hd := (tb_so (by decide)).mp hb_226
        have hb2 := so_2.mp hd.2
        have hve := vl_eq hv hb2
        rw [show bs.length - i = (bs.length - (i + 1)) + 1 by omega, tkT_s, if_pos hd.2, if_pos rfl] at hr
        refine rj_ald0 dX12_advance_229 rfl ?_
        refine rj_ald0 dX12_advance_230 rfl ?_
        refine g12_243 dX12_advance_231 ?_
        rw [h18]
        refine rj_bipush (v := 99) dX12_advance_234 (by decide) ?_
        refine rj_ic_le (tgt := 245) dX12_advance_236 (by decide) (fun h_236 => ?_) (fun h_236 => ?_)
        · refine rj_bipush (v := 10) dX12_advance_245 (by decide) ?_
          refine rj_ald0 dX12_advance_247 rfl ?_
          refine g12_243 dX12_advance_248 ?_
          rw [h18]
          refine rj_imul dX12_advance_251 ?_
          refine rj_ald0 dX12_advance_252 rfl ?_
          refine rj_ald0 dX12_advance_253 rfl ?_
          refine g12_222 dX12_advance_254 ?_
          rw [h16]
          refine rj_V1i (ci := 12) cX12_227 rfl (by decide) (by first | assumption | rfl) dX12_advance_257 (c_X12_byteAt hT1 (by omega)) (fitM (by omega) (by decide)) (Nat.le_of_ble_eq_true rfl) ?_
          rw [tb_lt hd.1]
          refine rj_iadd dX12_advance_260 ?_
          refine rj_bipush (v := 48) dX12_advance_261 (by decide) ?_
          refine rj_isub dX12_advance_263 ?_
          refine p12_243 dX12_advance_264 ?_
          refine rj_ald0 dX12_advance_267 rfl ?_
          refine rj_dup dX12_advance_268 rfl ?_
          refine g12_222 dX12_advance_269 ?_
          rw [ui_nj (by decide), h16]
          refine rj_ic1 dX12_advance_272 ?_
          refine rj_iadd dX12_advance_273 ?_
          rw [nI_1]
          refine p12_222 dX12_advance_274 ?_
          refine rj_goto (tgt := 207) dX12_advance_277 (by decide) ?_
          have hvv : vl v (bs.getD i 0) = 10 * v + bs.getD i 0 - 48 := by rw [hve.1, if_pos (by omega)]
          rw [hvv] at hr
          exact ih (i + 1) _ _ (by omega) ⟨by omega, by rw [← hvv]; exact hve.2, by rw [ui_nj (by decide), ui_nj (by decide)]; exact h14, by rw [ui_nj (by decide), ui_nj (by decide)]; exact h15, ui_same _ _ _ _, by rw [ui_nj (by decide), ui_same], tq_u (tq_u hq (by omega)) (by omega), hr⟩
        · refine rj_sipush (v := 1000) dX12_advance_239 (by decide) ?_
          refine rj_goto (tgt := 264) dX12_advance_242 (by decide) ?_
          refine p12_243 dX12_advance_264 ?_
          refine rj_ald0 dX12_advance_267 rfl ?_
          refine rj_dup dX12_advance_268 rfl ?_
          refine g12_222 dX12_advance_269 ?_
          rw [ui_nj (by decide), h16]
          refine rj_ic1 dX12_advance_272 ?_
          refine rj_iadd dX12_advance_273 ?_
          rw [nI_1]
          refine p12_222 dX12_advance_274 ?_
          refine rj_goto (tgt := 207) dX12_advance_277 (by decide) ?_
          have hvv : vl v (bs.getD i 0) = 1000 := by rw [hve.1, if_neg (by omega)]
          rw [hvv] at hr
          exact ih (i + 1) _ _ (by omega) ⟨by omega, by rw [← hvv]; exact hve.2, by rw [ui_nj (by decide), ui_nj (by decide)]; exact h14, by rw [ui_nj (by decide), ui_nj (by decide)]; exact h15, ui_same _ _ _ _, by rw [ui_nj (by decide), ui_same], tq_u (tq_u hq (by omega)) (by omega), hr⟩

theorem wdN_s (bs : List Int32) (f n : Nat) : wdN bs f (n + 1) = if n < 12 then 27 * wdN bs f n + (bs.getD (f + n) 0).toInt64 - 96 else -1 := rfl
set_option maxRecDepth 100000 in
theorem l_X12_advW {l : Launch} {X : CX} {h : Nat} {Q : Option Value → ST → Prop} {σ : ST} {bs : List Int32} (hh : 2 ≤ h) (hT : TPm σ bs) {b : Int32} {e f : Nat} (hf : f < 1000) (hQ : ∀ τ, τ.1 112 14 = 1 → τ.1 112 15 = nI f → τ.1 112 16 = nI e → τ.2 112 17 = wdN bs f (e - f) → tq σ τ → Q none τ) : ∀ (N i : Nat) (τ : ST), bs.length < i + N → (i ≤ bs.length ∧ f ≤ i ∧ τ.1 112 14 = 1 ∧ τ.1 112 15 = nI f ∧ τ.1 112 16 = nI i ∧ τ.2 112 17 = wdN bs f (i - f) ∧ tq σ τ ∧ (tkT bs 1 (bs.length - i) i 0).1 = e) → RJ (GM l X h Q) X cX12_advance 2 none RX12 126 [some (.ref (ad X 112)), some (.int b)] [] τ := by
  intro N
  induction N with
  | zero => intro i τ hN hi; have := hi.1; exact absurd hN (by omega)
  | succ N ih =>
    intro i τ hN hi
    obtain ⟨hi, hfi, h14, h15, h16, h17, hq, hr⟩ := hi
    have hT1 := tp_q hT hq
    have h120 := hT.2.1
    have q12 := e12
    have hsub : nI i - nI f = nI (i - f) := by
      apply i_inj
      rw [i_sub (by rw [nI_t (by omega), nI_t (by omega)]; omega) (by rw [nI_t (by omega), nI_t (by omega)]; omega), nI_t (by omega), nI_t (by omega), nI_t (by omega)]
      omega
    have hst : (nI (i - f)).toInt = (i - f : Nat) := nI_t (by omega)
    refine rj_ald0 dX12_advance_126 rfl ?_
    refine g12_236 dX12_advance_127 ?_
    rw [h14]
    refine rj_ic1 dX12_advance_130 ?_
    refine rj_ic_ne (tgt := 207) dX12_advance_131 (by decide) (fun h_131 => ?_) (fun h_131 => ?_)
    · exact absurd rfl h_131
    · refine rj_ald0 dX12_advance_134 rfl ?_
      refine rj_ald0 dX12_advance_135 rfl ?_
      refine g12_222 dX12_advance_136 ?_
      rw [h16]
      refine rj_V1i (ci := 12) cX12_227 rfl (by decide) (by first | assumption | rfl) dX12_advance_139 (c_X12_byteAt hT1 (by omega)) (fitM (by omega) (by decide)) (Nat.le_of_ble_eq_true rfl) ?_
      refine rj_S1i cX12_230 dX12_advance_142 c_X12_isLetter (fitM (by omega) (by decide)) (Nat.le_of_ble_eq_true rfl) ?_
      refine rj_if_eq (tgt := 207) dX12_advance_145 (by decide) (fun h_145 => ?_) (fun h_145 => ?_)
      · have hb_145 := bz_t h_145
        have hie : i = e := by
          rcases Nat.lt_or_ge i bs.length with z | z
          · rw [show bs.length - i = (bs.length - (i + 1)) + 1 by omega, tkT_s, if_neg (fun y => hb_145 ((tb_so (by decide)).mpr ⟨z, y⟩))] at hr
            exact hr
          · rw [show bs.length - i = 0 by omega] at hr
            exact hr
        exact l_X12_advX h14 (by decide) (hQ τ h14 h15 (by rw [← hie]; exact h16) (by rw [← hie]; exact h17) hq)
      · have hb_145 := bz_f h_145
        have hd := (tb_so (by decide)).mp hb_145
        rw [show bs.length - i = (bs.length - (i + 1)) + 1 by omega, tkT_s, if_pos hd.2, if_neg (by decide)] at hr
        refine rj_ald0 dX12_advance_148 rfl ?_
        refine rj_ald0 dX12_advance_149 rfl ?_
        refine g12_222 dX12_advance_150 ?_
        rw [h16]
        refine rj_ald0 dX12_advance_153 rfl ?_
        refine g12_225 dX12_advance_154 ?_
        rw [h15]
        refine rj_isub dX12_advance_157 ?_
        rw [hsub]
        refine rj_bipush (v := 12) dX12_advance_158 (by decide) ?_
        refine rj_ic_ge (tgt := 188) dX12_advance_160 (by decide) (fun h_160 => ?_) (fun h_160 => ?_)
        · refine rj_ldc2 kX12_250 dX12_advance_188 ?_
          refine p12_239 dX12_advance_191 ?_
          refine rj_ald0 dX12_advance_194 rfl ?_
          refine rj_dup dX12_advance_195 rfl ?_
          refine g12_222 dX12_advance_196 ?_
          rw [ul_1, h16]
          refine rj_ic1 dX12_advance_199 ?_
          refine rj_iadd dX12_advance_200 ?_
          rw [nI_1]
          refine p12_222 dX12_advance_201 ?_
          refine rj_goto (tgt := 126) dX12_advance_204 (by decide) ?_
          have hww : wdN bs f (i + 1 - f) = -1 := by rw [show i + 1 - f = (i - f) + 1 by omega, wdN_s, if_neg (by omega)]
          exact ih (i + 1) _ (by omega) ⟨by omega, by omega, by rw [ui_nj (by decide), ul_1]; exact h14, by rw [ui_nj (by decide), ul_1]; exact h15, ui_same _ _ _ _, by rw [hww, ui_2, ul_at, if_pos ⟨rfl, rfl⟩], tq_u (tq_l hq) (by omega), hr⟩
        · refine rj_ldc2 kX12_246 dX12_advance_163 ?_
          refine rj_ald0 dX12_advance_166 rfl ?_
          refine g12_239 dX12_advance_167 ?_
          rw [h17]
          refine rj_lmul dX12_advance_170 ?_
          refine rj_ald0 dX12_advance_171 rfl ?_
          refine rj_ald0 dX12_advance_172 rfl ?_
          refine g12_222 dX12_advance_173 ?_
          rw [h16]
          refine rj_V1i (ci := 12) cX12_227 rfl (by decide) (by first | assumption | rfl) dX12_advance_176 (c_X12_byteAt hT1 (by omega)) (fitM (by omega) (by decide)) (Nat.le_of_ble_eq_true rfl) ?_
          rw [tb_lt hd.1]
          refine rj_i2l dX12_advance_179 ?_
          refine rj_ladd dX12_advance_180 ?_
          refine rj_ldc2 kX12_248 dX12_advance_181 ?_
          refine rj_lsub dX12_advance_184 ?_
          refine rj_goto (tgt := 191) dX12_advance_185 (by decide) ?_
          refine p12_239 dX12_advance_191 ?_
          refine rj_ald0 dX12_advance_194 rfl ?_
          refine rj_dup dX12_advance_195 rfl ?_
          refine g12_222 dX12_advance_196 ?_
          rw [ul_1, h16]
          refine rj_ic1 dX12_advance_199 ?_
          refine rj_iadd dX12_advance_200 ?_
          rw [nI_1]
          refine p12_222 dX12_advance_201 ?_
          refine rj_goto (tgt := 126) dX12_advance_204 (by decide) ?_
          have hww : wdN bs f (i + 1 - f) = 27 * wdN bs f (i - f) + (bs.getD i 0).toInt64 - 96 := by rw [show i + 1 - f = (i - f) + 1 by omega, wdN_s, if_pos (by omega), show f + (i - f) = i by omega]
          exact ih (i + 1) _ (by omega) ⟨by omega, by omega, by rw [ui_nj (by decide), ul_1]; exact h14, by rw [ui_nj (by decide), ul_1]; exact h15, ui_same _ _ _ _, by rw [hww, ui_2, ul_at, if_pos ⟨rfl, rfl⟩], tq_u (tq_l hq) (by omega), hr⟩

set_option maxRecDepth 100000 in
theorem l_X12_advY {l : Launch} {X : CX} {G : GT} {σ : ST} {s b : Int32} (h14 : σ.1 112 14 = s) (hs : ¬ s = 1) : RJ G X cX12_advance 2 none RX12 207 [some (.ref (ad X 112)), some (.int b)] [] σ → RJ (G) X cX12_advance 2 none RX12 126 [some (.ref (ad X 112)), some (.int b)] [] σ := by
  intro hk
  refine rj_ald0 dX12_advance_126 rfl ?_
  refine g12_236 dX12_advance_127 ?_
  rw [h14]
  refine rj_ic1 dX12_advance_130 ?_
  refine rj_ic_ne (tgt := 207) dX12_advance_131 (by decide) (fun h_131 => ?_) (fun h_131 => ?_)
  · exact hk
  · exact absurd h_131 hs

