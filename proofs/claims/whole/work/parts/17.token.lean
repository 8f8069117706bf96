/-! the token -/
def tb (bs : List Int32) (i : Nat) : Int32 := if i < bs.length then bs.getD i 0 else -1
theorem tb_lt {bs : List Int32} {i : Nat} (h : i < bs.length) : tb bs i = bs.getD i 0 := if_pos h
theorem tat_nI {bs : List Int32} {i : Nat} (h : i < 2147483648) : tat bs (nI i) = tb bs i := by
  unfold tat tb
  rw [nI_t h]
  by_cases q : i < bs.length
  · rw [if_pos ⟨by omega, by omega⟩, if_pos q]; rfl
  · rw [if_neg (by omega), if_neg q]
def so (b : Int32) : Int32 := if b.toInt < 0 then 0 else if 97 ≤ b.toInt ∧ b.toInt ≤ 122 then 1 else if 48 ≤ b.toInt ∧ b.toInt ≤ 57 then 2 else 3
/-- where the next token begins -/
def tkF (bs : List Int32) : Nat → Nat → Nat
  | 0, i => i
  | n + 1, i => if bs.getD i 0 = 32 then tkF bs n (i + 1) else i
def vl (v b : Int32) : Int32 := if v * 10 + b - 48 < 1000 then v * 10 + b - 48 else 1000
def tkT (bs : List Int32) (s : Int32) : Nat → Nat → Int32 → Nat × Int32
  | 0, i, v => (i, v)
  | n + 1, i, v => if so (bs.getD i 0) = s then tkT bs s n (i + 1) (if s = 2 then vl v (bs.getD i 0) else v) else (i, v)
def tF (bs : List Int32) (i : Nat) : Nat := tkF bs (bs.length - i) i
def tS (bs : List Int32) (i : Nat) : Int32 := so (tb bs (tF bs i))
def tR (bs : List Int32) (i : Nat) : Nat × Int32 := if tS bs i = 3 then (tF bs i + 1, 0) else tkT bs (tS bs i) (bs.length - tF bs i) (tF bs i) 0
theorem tkF_le (bs : List Int32) : ∀ n i, i ≤ tkF bs n i ∧ tkF bs n i ≤ i + n := by
  intro n
  induction n with
  | zero => intro i; unfold tkF; omega
  | succ n ih =>
    intro i
    unfold tkF
    split
    · have := ih (i + 1); omega
    · omega
theorem tF_le {bs : List Int32} {i : Nat} (h : i ≤ bs.length) : i ≤ tF bs i ∧ tF bs i ≤ bs.length := by
  unfold tF; have := tkF_le bs (bs.length - i) i; omega
theorem tkT_le (bs : List Int32) (s : Int32) : ∀ n i v, i ≤ (tkT bs s n i v).1 ∧ (tkT bs s n i v).1 ≤ i + n := by
  intro n
  induction n with
  | zero => intro i v; unfold tkT; simp
  | succ n ih =>
    intro i v
    unfold tkT
    split
    · have := ih (i + 1) (if s = 2 then vl v (bs.getD i 0) else v); omega
    · simp
theorem tS_end {bs : List Int32} {i : Nat} (h : bs.length ≤ tF bs i) : tS bs i = 0 := by
  unfold tS tb; rw [if_neg (by omega)]; rfl
theorem tR_le {bs : List Int32} {i : Nat} (h : i ≤ bs.length) : i ≤ (tR bs i).1 ∧ (tR bs i).1 ≤ bs.length := by
  have hf := tF_le h
  unfold tR
  by_cases q : tS bs i = 3
  · rw [if_pos q]
    have : ¬ bs.length ≤ tF bs i := fun z => by rw [tS_end z] at q; exact absurd q (by decide)
    simp; omega
  · rw [if_neg q]
    have := tkT_le bs (tS bs i) (bs.length - tF bs i) (tF bs i) 0
    omega
/-- the token of bs at i stands -/
def Tk (σ : ST) (bs : List Int32) (i : Nat) : Prop := σ.1 31 1 = tS bs i ∧ σ.1 31 2 = nI (tF bs i) ∧ σ.1 31 3 = nI (tR bs i).1 ∧ σ.1 31 4 = (tR bs i).2
theorem Tk.off {P : Nat → Prop} {σ τ : ST} {bs : List Int32} {i : Nat} (h : Tk σ bs i) (ho : off P σ τ) (hp : ¬ P 31) : Tk τ bs i := by
  unfold Tk; rw [(ho 31 hp).1]; exact h
def tkC : Nat → Prop := fun a => a = 31
theorem tp_tk {σ τ : ST} {bs : List Int32} (h : Tp σ 28 bs) (ho : off tkC σ τ) : Tp τ 28 bs := h.off ho (by unfold tkC; omega) (by unfold tkC; omega)
theorem tR_ge {bs : List Int32} {i : Nat} (h : i ≤ bs.length) : tF bs i ≤ (tR bs i).1 := by
  unfold tR
  split
  · simp
  · exact (tkT_le bs (tS bs i) (bs.length - tF bs i) (tF bs i) 0).1
set_option maxRecDepth 100000 in
theorem c_X9_sortOf {l : Launch} {X : CX} {σ : ST} {b : Int32} : MJ l X 0 yX6_sortOf cX6_sortOf 1 (some .int) [.int b] σ (eqI (so b) σ) := by
  refine MJ_of (own := RX6) [some (.int b)] (by decide) rfl (Nat.le_of_ble_eq_true rfl) rfl ?_
  have e1 : (97 : Int32).toInt = 97 := by decide
  have e2 : (122 : Int32).toInt = 122 := by decide
  have e3 : (48 : Int32).toInt = 48 := by decide
  have e4 : (57 : Int32).toInt = 57 := by decide
  refine rj_ild0 dX6_sortOf_0 rfl ?_
  refine rj_if_ge (tgt := 6) dX6_sortOf_1 (by decide) (fun h_1 => ?_) (fun h_1 => ?_)
  · refine rj_ild0 dX6_sortOf_6 rfl ?_
    refine rj_bipush (v := 97) dX6_sortOf_7 (by decide) ?_
    refine rj_ic_lt (tgt := 20) dX6_sortOf_9 (by decide) (fun h_9 => ?_) (fun h_9 => ?_)
    · refine rj_ild0 dX6_sortOf_20 rfl ?_
      refine rj_bipush (v := 48) dX6_sortOf_21 (by decide) ?_
      refine rj_ic_lt (tgt := 36) dX6_sortOf_23 (by decide) (fun h_23 => ?_) (fun h_23 => ?_)
      · refine rj_ic3 dX6_sortOf_36 ?_
        refine rj_iret dX6_sortOf_37 ?_
        refine ⟨?_, rfl⟩
        unfold so
        rw [if_neg (by omega), if_neg (by omega), if_neg (by omega)]
      · refine rj_ild0 dX6_sortOf_26 rfl ?_
        refine rj_bipush (v := 57) dX6_sortOf_27 (by decide) ?_
        refine rj_ic_gt (tgt := 36) dX6_sortOf_29 (by decide) (fun h_29 => ?_) (fun h_29 => ?_)
        · refine rj_ic3 dX6_sortOf_36 ?_
          refine rj_iret dX6_sortOf_37 ?_
          refine ⟨?_, rfl⟩
          unfold so
          rw [if_neg (by omega), if_neg (by omega), if_neg (by omega)]
        · refine rj_ic2 dX6_sortOf_32 ?_
          refine rj_goto (tgt := 37) dX6_sortOf_33 (by decide) ?_
          refine rj_iret dX6_sortOf_37 ?_
          refine ⟨?_, rfl⟩
          unfold so
          rw [if_neg (by omega), if_neg (by omega), if_pos (by omega)]
    · refine rj_ild0 dX6_sortOf_12 rfl ?_
      refine rj_bipush (v := 122) dX6_sortOf_13 (by decide) ?_
      refine rj_ic_gt (tgt := 20) dX6_sortOf_15 (by decide) (fun h_15 => ?_) (fun h_15 => ?_)
      · refine rj_ild0 dX6_sortOf_20 rfl ?_
        refine rj_bipush (v := 48) dX6_sortOf_21 (by decide) ?_
        refine rj_ic_lt (tgt := 36) dX6_sortOf_23 (by decide) (fun h_23 => ?_) (fun h_23 => ?_)
        · refine rj_ic3 dX6_sortOf_36 ?_
          refine rj_iret dX6_sortOf_37 ?_
          refine ⟨?_, rfl⟩
          unfold so
          rw [if_neg (by omega), if_neg (by omega), if_neg (by omega)]
        · refine rj_ild0 dX6_sortOf_26 rfl ?_
          refine rj_bipush (v := 57) dX6_sortOf_27 (by decide) ?_
          refine rj_ic_gt (tgt := 36) dX6_sortOf_29 (by decide) (fun h_29 => ?_) (fun h_29 => ?_)
          · refine rj_ic3 dX6_sortOf_36 ?_
            refine rj_iret dX6_sortOf_37 ?_
            refine ⟨?_, rfl⟩
            unfold so
            rw [if_neg (by omega), if_neg (by omega), if_neg (by omega)]
          · refine rj_ic2 dX6_sortOf_32 ?_
            refine rj_goto (tgt := 37) dX6_sortOf_33 (by decide) ?_
            refine rj_iret dX6_sortOf_37 ?_
            refine ⟨?_, rfl⟩
            unfold so
            rw [if_neg (by omega), if_neg (by omega), if_pos (by omega)]
      · refine rj_ic1 dX6_sortOf_18 ?_
        refine rj_iret dX6_sortOf_19 ?_
        refine ⟨?_, rfl⟩
        unfold so
        rw [if_neg (by omega), if_pos (by omega)]
  · refine rj_ic0 dX6_sortOf_4 ?_
    refine rj_iret dX6_sortOf_5 ?_
    refine ⟨?_, rfl⟩
    unfold so
    rw [if_pos (by omega)]

set_option maxRecDepth 100000 in
theorem l_X9_go1 {l : Launch} {X : CX} {h : Nat} {Q : Option Value → ST → Prop} {σ : ST} {bs : List Int32} (hT : Tp σ 28 bs) (hh : 1 ≤ h) {m : Nat} (hQ : ∀ τ, τ.1 31 2 = nI m → off tkC σ τ → RJ (GM l X h Q) X cX6_goOn 1 none RX6 45 [some (.ref (ad X 28))] [] τ) : ∀ (N i : Nat) (τ : ST), bs.length < i + N → (i ≤ bs.length ∧ tkF bs (bs.length - i) i = m ∧ τ.1 31 2 = nI i ∧ off tkC σ τ) → RJ (GM l X h Q) X cX6_goOn 1 none RX6 8 [some (.ref (ad X 28))] [] τ := by
  intro N
  induction N with
  | zero => intro i τ hN hi; have := hi.1; exact absurd hN (by omega)
  | succ N ih =>
    intro i τ hN hi
    obtain ⟨hi, hm, hf, ho⟩ := hi
    have hT1 := tp_tk hT ho
    have hsz := hT1.1
    have hle := hT1.2.1
    have hit : (nI i).toInt = i := nI_t (by omega)
    refine rj_ald0 dX6_goOn_8 rfl ?_
    refine g6_22 (by first | assumption | rfl) dX6_goOn_9 ?_
    refine rj_ald0 dX6_goOn_12 rfl ?_
    refine g6_15 (by first | assumption | rfl) dX6_goOn_13 ?_
    refine rj_ic_ge (tgt := 45) dX6_goOn_16 (by decide) (fun h_19 => ?_) (fun h_19 => ?_)
    · rw [hf] at h_19
      rw [show bs.length - i = 0 by omega] at hm
      exact hQ τ (by rw [hf]; exact congrArg nI hm) ho
    · rw [hf] at h_19
      rw [show bs.length - i = (bs.length - (i + 1)) + 1 by omega] at hm
      unfold tkF at hm
      refine rj_ald0 dX6_goOn_19 rfl ?_
      refine rj_ald0 dX6_goOn_20 rfl ?_
      refine g6_22 (by first | assumption | rfl) dX6_goOn_21 ?_
      refine rj_V1i (ci := 6) cX6_34 rfl (by decide) (by first | assumption | rfl) dX6_goOn_24 (c_X6_at rfl hT1) (fitM (by omega) (by decide)) (Nat.le_of_ble_eq_true rfl) ?_
      rw [hf, tat_nI (by omega), tb_lt (by omega)]
      refine rj_bipush (v := 32) dX6_goOn_27 (by decide) ?_
      refine rj_ic_ne (tgt := 45) dX6_goOn_29 (by decide) (fun h_35 => ?_) (fun h_35 => ?_)
      · rw [if_neg h_35] at hm
        exact hQ τ (by rw [hf, hm]) ho
      · rw [if_pos h_35] at hm
        refine rj_ald0 dX6_goOn_32 rfl ?_
        refine rj_dup dX6_goOn_33 rfl ?_
        refine g6_22 (by first | assumption | rfl) dX6_goOn_34 ?_
        refine rj_ic1 dX6_goOn_37 ?_
        refine rj_iadd dX6_goOn_38 ?_
        refine p6_22 (by first | assumption | rfl) dX6_goOn_39 ?_
        refine rj_goto (tgt := 8) dX6_goOn_42 (by decide) ?_
        exact ih (i + 1) _ (by omega) ⟨by omega, hm, by rw [ui_same, hf, nI_1], ho.ui rfl⟩

set_option maxRecDepth 100000 in
theorem l_X9_go2 {l : Launch} {X : CX} {h : Nat} {Q : Option Value → ST → Prop} {σ : ST} {bs : List Int32} (hT : Tp σ 28 bs) (hh : 1 ≤ h) {m : Nat × Int32} {s f : Int32} (hs3 : ¬ s = 3) (hQ : ∀ τ, τ.1 31 1 = s → τ.1 31 2 = f → τ.1 31 3 = nI m.1 → τ.1 31 4 = m.2 → off tkC σ τ → Q none τ) : ∀ (N i : Nat) (v : Int32) (τ : ST), bs.length < i + N → (i ≤ bs.length ∧ tkT bs s (bs.length - i) i v = m ∧ τ.1 31 1 = s ∧ τ.1 31 2 = f ∧ τ.1 31 3 = nI i ∧ τ.1 31 4 = v ∧ off tkC σ τ) → RJ (GM l X h Q) X cX6_goOn 1 none RX6 90 [some (.ref (ad X 28))] [] τ := by
  intro N
  induction N with
  | zero => intro i v τ hN hi; have := hi.1; exact absurd hN (by omega)
  | succ N ih =>
    intro i v τ hN hi
    obtain ⟨hi, hm, hs, hf, ht, hv, ho⟩ := hi
    have hT1 := tp_tk hT ho
    have hsz := hT1.1
    have hle := hT1.2.1
    have hit : (nI i).toInt = i := nI_t (by omega)
    refine rj_ald0 dX6_goOn_90 rfl ?_
    refine g6_19 (by first | assumption | rfl) dX6_goOn_91 ?_
    refine rj_ic3 dX6_goOn_94 ?_
    refine rj_ic_eq (tgt := 177) dX6_goOn_95 (by decide) (fun h_104 => ?_) (fun h_104 => ?_)
    · exact absurd (hs ▸ h_104) hs3
    · refine rj_ald0 dX6_goOn_98 rfl ?_
      refine g6_25 (by first | assumption | rfl) dX6_goOn_99 ?_
      refine rj_ald0 dX6_goOn_102 rfl ?_
      refine g6_15 (by first | assumption | rfl) dX6_goOn_103 ?_
      refine rj_ic_ge (tgt := 177) dX6_goOn_106 (by decide) (fun h_118 => ?_) (fun h_118 => ?_)
      · rw [ht] at h_118
        refine rj_vret dX6_goOn_177 ?_
        rw [show bs.length - i = 0 by omega] at hm
        unfold tkT at hm
        subst hm
        exact hQ τ hs hf ht hv ho
      · rw [ht] at h_118
        rw [show bs.length - i = (bs.length - (i + 1)) + 1 by omega] at hm
        unfold tkT at hm
        refine rj_ald0 dX6_goOn_109 rfl ?_
        refine rj_ald0 dX6_goOn_110 rfl ?_
        refine g6_25 (by first | assumption | rfl) dX6_goOn_111 ?_
        refine rj_V1i (ci := 6) cX6_34 rfl (by decide) (by first | assumption | rfl) dX6_goOn_114 (c_X6_at rfl hT1) (fitM (by omega) (by decide)) (Nat.le_of_ble_eq_true rfl) ?_
        rw [ht, tat_nI (by omega), tb_lt (by omega)]
        refine rj_S1i cX6_38 dX6_goOn_117 c_X9_sortOf (fitM (by omega) (by decide)) (Nat.le_of_ble_eq_true rfl) ?_
        refine rj_ald0 dX6_goOn_120 rfl ?_
        refine g6_19 (by first | assumption | rfl) dX6_goOn_121 ?_
        refine rj_ic_ne (tgt := 177) dX6_goOn_124 (by decide) (fun h_139 => ?_) (fun h_139 => ?_)
        · rw [hs] at h_139
          rw [if_neg h_139] at hm
          refine rj_vret dX6_goOn_177 ?_
          subst hm
          exact hQ τ hs hf ht hv ho
        · rw [hs] at h_139
          rw [if_pos h_139] at hm
          refine rj_ald0 dX6_goOn_127 rfl ?_
          refine g6_19 (by first | assumption | rfl) dX6_goOn_128 ?_
          refine rj_ic2 dX6_goOn_131 ?_
          refine rj_ic_ne (tgt := 164) dX6_goOn_132 (by decide) (fun h_147 => ?_) (fun h_147 => ?_)
          · rw [hs] at h_147
            rw [if_neg h_147] at hm
            refine rj_ald0 dX6_goOn_164 rfl ?_
            refine rj_dup dX6_goOn_165 rfl ?_
            refine g6_25 (by first | assumption | rfl) dX6_goOn_166 ?_
            refine rj_ic1 dX6_goOn_169 ?_
            refine rj_iadd dX6_goOn_170 ?_
            refine p6_25 (by first | assumption | rfl) dX6_goOn_171 ?_
            refine rj_goto (tgt := 90) dX6_goOn_174 (by decide) ?_
            refine ih (i + 1) _ _ (by omega) ⟨by omega, hm, ?_, ?_, ?_, ?_, ho.ui rfl⟩
            · rw [ui_nj (by decide)]; exact hs
            · rw [ui_nj (by decide)]; exact hf
            · rw [ui_same, ht, nI_1]
            · rw [ui_nj (by decide), hv]
          · rw [hs] at h_147
            rw [if_pos h_147] at hm
            refine rj_ald0 dX6_goOn_135 rfl ?_
            refine rj_sipush (v := 1000) dX6_goOn_136 (by decide) ?_
            refine rj_ald0 dX6_goOn_139 rfl ?_
            refine g6_28 (by first | assumption | rfl) dX6_goOn_140 ?_
            refine rj_bipush (v := 10) dX6_goOn_143 (by decide) ?_
            refine rj_imul dX6_goOn_145 ?_
            refine rj_ald0 dX6_goOn_146 rfl ?_
            refine rj_ald0 dX6_goOn_147 rfl ?_
            refine g6_25 (by first | assumption | rfl) dX6_goOn_148 ?_
            refine rj_V1i (ci := 6) cX6_34 rfl (by decide) (by first | assumption | rfl) dX6_goOn_151 (c_X6_at rfl hT1) (fitM (by omega) (by decide)) (Nat.le_of_ble_eq_true rfl) ?_
            rw [ht, tat_nI (by omega), tb_lt (by omega), hv]
            refine rj_iadd dX6_goOn_154 ?_
            refine rj_bipush (v := 48) dX6_goOn_155 (by decide) ?_
            refine rj_isub dX6_goOn_157 ?_
            refine rj_min cX6_41 (fitNM (by first | decide | omega) (Nat.le_of_ble_eq_true rfl)) dX6_goOn_158 ?_
            rw [show (if v * 10 + bs.getD i 0 - 48 < 1000 then v * 10 + bs.getD i 0 - 48 else 1000) = vl v (bs.getD i 0) from rfl]
            refine p6_28 (by first | assumption | rfl) dX6_goOn_161 ?_
            refine rj_ald0 dX6_goOn_164 rfl ?_
            refine rj_dup dX6_goOn_165 rfl ?_
            refine g6_25 (by first | assumption | rfl) dX6_goOn_166 ?_
            refine rj_ic1 dX6_goOn_169 ?_
            refine rj_iadd dX6_goOn_170 ?_
            refine p6_25 (by first | assumption | rfl) dX6_goOn_171 ?_
            refine rj_goto (tgt := 90) dX6_goOn_174 (by decide) ?_
            refine ih (i + 1) _ _ (by omega) ⟨by omega, hm, ?_, ?_, ?_, ?_, (ho.ui rfl).ui rfl⟩
            · rw [ui_nj (by decide), ui_nj (by decide)]; exact hs
            · rw [ui_nj (by decide), ui_nj (by decide)]; exact hf
            · rw [ui_same, ui_nj (by decide), ht, nI_1]
            · rw [ui_nj (by decide), ui_same]

set_option maxRecDepth 100000 in
theorem c_X9_goOn {l : Launch} {X : CX} {σ : ST} {bs : List Int32} {i : Nat} (hT : Tp σ 28 bs) (hi : i ≤ bs.length) (ht : σ.1 31 3 = nI i) : MJ l X 1 yX6_goOn cX6_goOn 1 none [.ref (ad X 28)] σ (PV (fun τ => Tk τ bs i ∧ off tkC σ τ)) := by
  refine MJ_of (own := RX6) [some (.ref (ad X 28))] (by decide) rfl (Nat.le_of_ble_eq_true rfl) rfl ?_
  have hb := hT.2.1
  have hF := tF_le hi
  refine rj_ald0 dX6_goOn_0 rfl ?_
  refine rj_ald0 dX6_goOn_1 rfl ?_
  refine g6_25 (by first | assumption | rfl) dX6_goOn_2 ?_
  refine p6_22 (by first | assumption | rfl) dX6_goOn_5 ?_
  rw [ht]
  refine l_X9_go1 hT (by decide) (m := tF bs i) (fun τ hf ho => ?_) (bs.length + 1) i _ (by omega) ⟨hi, rfl, by rw [ui_same], off.rf.ui rfl⟩
  have hT1 := tp_tk hT ho
  refine rj_ald0 dX6_goOn_45 rfl ?_
  refine rj_ald0 dX6_goOn_46 rfl ?_
  refine rj_ald0 dX6_goOn_47 rfl ?_
  refine g6_22 (by first | assumption | rfl) dX6_goOn_48 ?_
  refine rj_V1i (ci := 6) cX6_34 rfl (by decide) (by first | assumption | rfl) dX6_goOn_51 (c_X6_at rfl hT1) (fitM (by decide) (by decide)) (Nat.le_of_ble_eq_true rfl) ?_
  rw [hf, tat_nI (by omega)]
  refine rj_S1i cX6_38 dX6_goOn_54 c_X9_sortOf (fitM (by decide) (by decide)) (Nat.le_of_ble_eq_true rfl) ?_
  refine p6_19 (by first | assumption | rfl) dX6_goOn_57 ?_
  refine rj_ald0 dX6_goOn_60 rfl ?_
  refine rj_ic0 dX6_goOn_61 ?_
  refine p6_28 (by first | assumption | rfl) dX6_goOn_62 ?_
  refine rj_ald0 dX6_goOn_65 rfl ?_
  refine rj_ald0 dX6_goOn_66 rfl ?_
  refine g6_19 (by first | assumption | rfl) dX6_goOn_67 ?_
  refine rj_ic3 dX6_goOn_70 ?_
  refine rj_ic_ne (tgt := 83) dX6_goOn_71 (by decide) (fun h_80 => ?_) (fun h_80 => ?_)
  · have h3 : ¬ tS bs i = 3 := by intro z; apply h_80; rw [ui_nj (by decide), ui_same]; exact z
    refine rj_ald0 dX6_goOn_83 rfl ?_
    refine g6_22 (by first | assumption | rfl) dX6_goOn_84 ?_
    refine p6_25 (by first | assumption | rfl) dX6_goOn_87 ?_
    refine l_X9_go2 hT (by decide) (m := tkT bs (tS bs i) (bs.length - tF bs i) (tF bs i) 0) (s := tS bs i) (f := nI (tF bs i)) h3 (fun υ g1 g2 g3 g4 go => ⟨rfl, ⟨g1, g2, ?_, ?_⟩, go⟩) (bs.length + 1) (tF bs i) 0 _ (by omega) ⟨hF.2, rfl, ?_, ?_, ?_, ?_, ((ho.ui rfl).ui rfl).ui rfl⟩
    · rw [ui_nj (by decide), ui_nj (by decide), ui_same]; rfl
    · rw [ui_nj (by decide), ui_nj (by decide), ui_nj (by decide)]; exact hf
    · rw [ui_same, ui_nj (by decide), ui_nj (by decide), hf]
    · rw [ui_nj (by decide), ui_same]
    · unfold tR; rw [if_neg h3]; exact g3
    · unfold tR; rw [if_neg h3]; exact g4
  · have h3 : tS bs i = 3 := by rw [ui_nj (by decide), ui_same] at h_80; exact h_80
    refine rj_ald0 dX6_goOn_74 rfl ?_
    refine g6_22 (by first | assumption | rfl) dX6_goOn_75 ?_
    refine rj_ic1 dX6_goOn_78 ?_
    refine rj_iadd dX6_goOn_79 ?_
    refine rj_goto (tgt := 87) dX6_goOn_80 (by decide) ?_
    refine p6_25 (by first | assumption | rfl) dX6_goOn_87 ?_
    refine rj_ald0 dX6_goOn_90 rfl ?_
    refine g6_19 (by first | assumption | rfl) dX6_goOn_91 ?_
    refine rj_ic3 dX6_goOn_94 ?_
    refine rj_ic_eq (tgt := 177) dX6_goOn_95 (by decide) (fun h_104 => ?_) (fun h_104 => ?_)
    · refine rj_vret dX6_goOn_177 ?_
      refine ⟨rfl, ⟨?_, ?_, ?_, ?_⟩, ((ho.ui rfl).ui rfl).ui rfl⟩
      · rw [ui_nj (by decide), ui_nj (by decide), ui_same]; rfl
      · rw [ui_nj (by decide), ui_nj (by decide), ui_nj (by decide)]; exact hf
      · rw [ui_same, ui_nj (by decide), ui_nj (by decide), hf, nI_1]; unfold tR; rw [if_pos h3]
      · rw [ui_nj (by decide), ui_same]; unfold tR; rw [if_pos h3]
    · exfalso; apply h_104; rw [ui_nj (by decide), ui_nj (by decide), ui_same]; exact h3

set_option maxRecDepth 100000 in
theorem c_X9_goToFirst {l : Launch} {X : CX} {σ : ST} {bs : List Int32} (hT : Tp σ 28 bs) : MJ l X 2 yX6_goToFirst cX6_goToFirst 1 none [.ref (ad X 28)] σ (PV (fun τ => Tk τ bs 0 ∧ off tkC σ τ)) := by
  refine MJ_of (own := RX6) [some (.ref (ad X 28))] (by decide) rfl (Nat.le_of_ble_eq_true rfl) rfl ?_
  have ho : off tkC σ (ui σ 31 3 0) := off.rf.ui rfl
  refine rj_ald0 dX6_goToFirst_0 rfl ?_
  refine rj_ic0 dX6_goToFirst_1 ?_
  refine p6_25 (by first | assumption | rfl) dX6_goToFirst_2 ?_
  refine rj_ald0 dX6_goToFirst_5 rfl ?_
  refine rj_V0 (ci := 6) cX6_31 rfl (by decide) (by first | assumption | rfl) dX6_goToFirst_6 (c_X9_goOn (tp_tk hT ho) (Nat.zero_le _) (by rw [ui_same]; rfl)) (fitM (by decide) (by decide)) (Nat.le_of_ble_eq_true rfl) ?_
  rintro v υ ⟨rfl, hK, ho1⟩
  simp only [Option.toList, List.nil_append]
  refine rj_vret dX6_goToFirst_9 ?_
  exact ⟨rfl, hK, ho.tr ho1⟩

abbrev isW (bs : List Int32) (p i : Nat) : Prop := tS bs p = 1 ∧ (tR bs p).1 = tF bs p + slen.getD i 0 ∧ ∀ j, j < slen.getD i 0 → bs.getD (tF bs p + j) 0 = (sbyt.getD i []).getD j 0
abbrev isS (bs : List Int32) (p : Nat) (c : Int32) : Prop := tS bs p = 3 ∧ tb bs (tF bs p) = c
abbrev isN (bs : List Int32) (p : Nat) (a b : Int32) : Prop := tS bs p = 2 ∧ a.toInt ≤ (tR bs p).2.toInt ∧ (tR bs p).2.toInt ≤ b.toInt
set_option maxRecDepth 100000 in
theorem c_X9_isSign {l : Launch} {X : CX} {σ : ST} {bs : List Int32} {p : Nat} (hT : Tp σ 28 bs) (hp : p ≤ bs.length) (hK : Tk σ bs p) {c : Int32} : MJ l X 1 yX6_isSign cX6_isSign 2 (some .boolean) [.ref (ad X 28), .int c] σ (eqI (if isS bs p c then 1 else 0) σ) := by
  refine MJ_of (own := RX6) [some (.ref (ad X 28)), some (.int c)] (by decide) rfl (Nat.le_of_ble_eq_true rfl) rfl ?_
  obtain ⟨k1, k2, k3, k4⟩ := hK
  have hb := hT.2.1
  have hF := tF_le hp
  have hR := tR_le hp
  refine rj_ald0 dX6_isSign_0 rfl ?_
  refine g6_19 (by first | assumption | rfl) dX6_isSign_1 ?_
  refine rj_ic3 dX6_isSign_4 ?_
  refine rj_ic_ne (tgt := 24) dX6_isSign_5 (by decide) (fun h_5 => ?_) (fun h_5 => ?_)
  · rw [k1] at h_5
    refine rj_ic0 dX6_isSign_24 ?_
    refine rj_zret dX6_isSign_25 (rfl) ?_
    refine ⟨?_, rfl⟩
    rw [if_neg (fun q => h_5 q.1)]
  · rw [k1] at h_5
    refine rj_ald0 dX6_isSign_8 rfl ?_
    refine rj_ald0 dX6_isSign_9 rfl ?_
    refine g6_22 (by first | assumption | rfl) dX6_isSign_10 ?_
    refine rj_V1i (ci := 6) cX6_34 rfl (by decide) (by first | assumption | rfl) dX6_isSign_13 (c_X6_at rfl hT) (fitM (by decide) (by decide)) (Nat.le_of_ble_eq_true rfl) ?_
    rw [k2, tat_nI (by omega)]
    refine rj_ild1 dX6_isSign_16 rfl ?_
    refine rj_ic_ne (tgt := 24) dX6_isSign_17 (by decide) (fun h_20 => ?_) (fun h_20 => ?_)
    · refine rj_ic0 dX6_isSign_24 ?_
      refine rj_zret dX6_isSign_25 (rfl) ?_
      refine ⟨?_, rfl⟩
      rw [if_neg (fun q => h_20 q.2)]
    · refine rj_ic1 dX6_isSign_20 ?_
      refine rj_goto (tgt := 25) dX6_isSign_21 (by decide) ?_
      refine rj_zret dX6_isSign_25 (rfl) ?_
      refine ⟨?_, rfl⟩
      rw [if_pos ⟨h_5, h_20⟩]

set_option maxRecDepth 100000 in
theorem c_X9_isNumber {l : Launch} {X : CX} {σ : ST} {bs : List Int32} {p : Nat} (hT : Tp σ 28 bs) (hp : p ≤ bs.length) (hK : Tk σ bs p) {a b : Int32} : MJ l X 0 yX6_isNumber cX6_isNumber 3 (some .boolean) [.ref (ad X 28), .int a, .int b] σ (eqI (if isN bs p a b then 1 else 0) σ) := by
  refine MJ_of (own := RX6) [some (.ref (ad X 28)), some (.int a), some (.int b)] (by decide) rfl (Nat.le_of_ble_eq_true rfl) rfl ?_
  obtain ⟨k1, k2, k3, k4⟩ := hK
  have hb := hT.2.1
  have hF := tF_le hp
  have hR := tR_le hp
  refine rj_ald0 dX6_isNumber_0 rfl ?_
  refine g6_19 (by first | assumption | rfl) dX6_isNumber_1 ?_
  refine rj_ic2 dX6_isNumber_4 ?_
  refine rj_ic_ne (tgt := 28) dX6_isNumber_5 (by decide) (fun h_5 => ?_) (fun h_5 => ?_)
  · rw [k1] at h_5
    refine rj_ic0 dX6_isNumber_28 ?_
    refine rj_zret dX6_isNumber_29 (rfl) ?_
    refine ⟨?_, rfl⟩
    rw [if_neg (fun q => h_5 q.1)]
  · rw [k1] at h_5
    refine rj_ald0 dX6_isNumber_8 rfl ?_
    refine g6_28 (by first | assumption | rfl) dX6_isNumber_9 ?_
    refine rj_ild1 dX6_isNumber_12 rfl ?_
    refine rj_ic_lt (tgt := 28) dX6_isNumber_13 (by decide) (fun h_13 => ?_) (fun h_13 => ?_)
    · rw [k4] at h_13
      refine rj_ic0 dX6_isNumber_28 ?_
      refine rj_zret dX6_isNumber_29 (rfl) ?_
      refine ⟨?_, rfl⟩
      rw [if_neg (fun q => by have := q.2.1; omega)]
    · rw [k4] at h_13
      refine rj_ald0 dX6_isNumber_16 rfl ?_
      refine g6_28 (by first | assumption | rfl) dX6_isNumber_17 ?_
      refine rj_ild2 dX6_isNumber_20 rfl ?_
      refine rj_ic_gt (tgt := 28) dX6_isNumber_21 (by decide) (fun h_21 => ?_) (fun h_21 => ?_)
      · rw [k4] at h_21
        refine rj_ic0 dX6_isNumber_28 ?_
        refine rj_zret dX6_isNumber_29 (rfl) ?_
        refine ⟨?_, rfl⟩
        rw [if_neg (fun q => by have := q.2.2; omega)]
      · rw [k4] at h_21
        refine rj_ic1 dX6_isNumber_24 ?_
        refine rj_goto (tgt := 29) dX6_isNumber_25 (by decide) ?_
        refine rj_zret dX6_isNumber_29 (rfl) ?_
        refine ⟨?_, rfl⟩
        rw [if_pos ⟨h_5, h_13, h_21⟩]

set_option maxRecDepth 100000 in
theorem l_X9_isWord {l : Launch} {X : CX} {h : Nat} {Q : Option Value → ST → Prop} {σ : ST} {bs : List Int32} (hT : Tp σ 28 bs) {p i : Nat} (hp : p ≤ bs.length) (hK : Tk σ bs p) (hi0 : i < 8) (hh : 4 ≤ h) (h1 : tS bs p = 1) (h2 : (tR bs p).1 = tF bs p + slen.getD i 0) (hQ : Q (some (.int (if isW bs p i then 1 else 0))) σ) : ∀ (N j : Nat), slen.getD i 0 < j + N → (j ≤ slen.getD i 0 ∧ ∀ q, q < j → bs.getD (tF bs p + q) 0 = (sbyt.getD i []).getD q 0) → RJ (GM l X h Q) X cX6_isWord 3 (some .boolean) RX6 28 [some (.ref (ad X 28)), some (.ref (X.2.2.2 (10 + i))), some (.int (nI j))] [] σ := by
  intro N
  induction N with
  | zero => intro j hN hi; have := hi.1; exact absurd hN (by omega)
  | succ N ih =>
    intro j hN hi
    obtain ⟨hj, hv⟩ := hi
    obtain ⟨k1, k2, k3, k4⟩ := hK
    have hb := hT.2.1
    have hF := tF_le hp
    have hR := tR_le hp
    have hl := sl_le i hi0
    have hjt : (nI j).toInt = j := nI_t (by omega)
    refine rj_ild2 dX6_isWord_28 rfl ?_
    refine rj_ald1 dX6_isWord_29 rfl ?_
    refine rj_T0i hi0 rfl cX6_47 dX6_isWord_30 (c_J0_length hi0) (fitM (by omega) (by decide)) (Nat.le_of_ble_eq_true rfl) ?_
    refine rj_ic_ge (tgt := 62) dX6_isWord_33 (by decide) (fun h_33 => ?_) (fun h_33 => ?_)
    · refine rj_ic1 dX6_isWord_62 ?_
      refine rj_zret dX6_isWord_63 (rfl) ?_
      rw [if_pos ⟨h1, h2, fun q hq => hv q (by omega)⟩] at hQ
      exact hQ
    · refine rj_ald0 dX6_isWord_36 rfl ?_
      refine rj_ald0 dX6_isWord_37 rfl ?_
      refine g6_22 (by first | assumption | rfl) dX6_isWord_38 ?_
      refine rj_ild2 dX6_isWord_41 rfl ?_
      refine rj_iadd dX6_isWord_42 ?_
      rw [k2, nI_add]
      refine rj_V1i (ci := 6) cX6_34 rfl (by decide) (by first | assumption | rfl) dX6_isWord_43 (c_X6_at rfl hT) (fitM (by omega) (by decide)) (Nat.le_of_ble_eq_true rfl) ?_
      rw [tat_nI (by omega), tb_lt (by omega)]
      refine rj_ald1 dX6_isWord_46 rfl ?_
      refine rj_ild2 dX6_isWord_47 rfl ?_
      refine rj_T1i hi0 rfl cX6_53 dX6_isWord_48 (c_J0_charAt hi0 (by omega) (by omega)) (fitM (by omega) (by decide)) (Nat.le_of_ble_eq_true rfl) ?_
      rw [nI_clamp (by omega)]
      refine rj_ic_eq (tgt := 56) dX6_isWord_51 (by decide) (fun h_54 => ?_) (fun h_54 => ?_)
      · refine rj_iinc2 (d := 1) dX6_isWord_56 (by decide) rfl (by decide) ?_
        rw [nI_1]
        refine rj_goto (tgt := 28) dX6_isWord_59 (by decide) ?_
        exact ih (j + 1) (by omega) ⟨by omega, fun q hq => by rcases Nat.lt_or_ge q j with z | z; exact hv q z; rw [show q = j by omega]; exact h_54⟩
      · refine rj_ic0 dX6_isWord_54 ?_
        refine rj_zret dX6_isWord_55 (rfl) ?_
        rw [if_neg (fun q => h_54 (q.2.2 j (by omega)))] at hQ
        exact hQ

set_option maxRecDepth 100000 in
theorem c_X9_isWord {l : Launch} {X : CX} {σ : ST} {bs : List Int32} {p : Nat} (hT : Tp σ 28 bs) (hp : p ≤ bs.length) (hK : Tk σ bs p) {i : Nat} (hi : i < 8) : MJ l X 4 yX6_isWord cX6_isWord 3 (some .boolean) [.ref (ad X 28), .ref (X.2.2.2 (10 + i))] σ (eqI (if isW bs p i then 1 else 0) σ) := by
  refine MJ_of (own := RX6) [some (.ref (ad X 28)), some (.ref (X.2.2.2 (10 + i))), none] (by decide) rfl (Nat.le_of_ble_eq_true rfl) rfl ?_
  obtain ⟨k1, k2, k3, k4⟩ := hK
  have hb := hT.2.1
  have hF := tF_le hp
  have hR := tR_le hp
  have hl := sl_le i hi
  refine rj_ald0 dX6_isWord_0 rfl ?_
  refine g6_19 (by first | assumption | rfl) dX6_isWord_1 ?_
  refine rj_ic1 dX6_isWord_4 ?_
  refine rj_ic_ne (tgt := 24) dX6_isWord_5 (by decide) (fun h_5 => ?_) (fun h_5 => ?_)
  · rw [k1] at h_5
    refine rj_ic0 dX6_isWord_24 ?_
    refine rj_zret dX6_isWord_25 (rfl) ?_
    refine ⟨?_, rfl⟩
    rw [if_neg (fun q => h_5 q.1)]
  · rw [k1] at h_5
    refine rj_ald0 dX6_isWord_8 rfl ?_
    refine g6_25 (by first | assumption | rfl) dX6_isWord_9 ?_
    refine rj_ald0 dX6_isWord_12 rfl ?_
    refine g6_22 (by first | assumption | rfl) dX6_isWord_13 ?_
    refine rj_isub dX6_isWord_16 ?_
    refine rj_ald1 dX6_isWord_17 rfl ?_
    refine rj_T0i hi rfl cX6_47 dX6_isWord_18 (c_J0_length hi) (fitM (by decide) (by decide)) (Nat.le_of_ble_eq_true rfl) ?_
    rw [k3, k2]
    refine rj_ic_eq (tgt := 26) dX6_isWord_21 (by decide) (fun h_21 => ?_) (fun h_21 => ?_)
    · have h2 : (tR bs p).1 = tF bs p + slen.getD i 0 := by
        have := congrArg Int32.toInt h_21
        rw [i_sub (by rw [nI_t (by omega), nI_t (by omega)]; omega) (by rw [nI_t (by omega), nI_t (by omega)]; omega), nI_t (by omega), nI_t (by omega), hl.1] at this
        have := tR_ge hp
        omega
      refine rj_ic0 dX6_isWord_26 ?_
      refine rj_ist2 dX6_isWord_27 (by decide) rfl ?_
      exact l_X9_isWord hT hp ⟨k1, k2, k3, k4⟩ hi (by decide) h_5 h2 ⟨rfl, rfl⟩ (slen.getD i 0 + 1) 0 (by omega) ⟨by omega, fun j hj => absurd hj (by omega)⟩
    · refine rj_ic0 dX6_isWord_24 ?_
      refine rj_zret dX6_isWord_25 (rfl) ?_
      refine ⟨?_, rfl⟩
      rw [if_neg]
      intro q
      apply h_21
      rw [q.2.1, ← nI_add]
      apply i_inj
      rw [i_sub (by rw [i_add (by rw [nI_t (by omega), hl.1]; omega) (by rw [nI_t (by omega), hl.1]; omega), nI_t (by omega), hl.1]; omega) (by rw [i_add (by rw [nI_t (by omega), hl.1]; omega) (by rw [nI_t (by omega), hl.1]; omega), nI_t (by omega), hl.1]; omega), i_add (by rw [nI_t (by omega), hl.1]; omega) (by rw [nI_t (by omega), hl.1]; omega)]
      omega

