/-! the reference: copy, load, show, read -/
set_option maxRecDepth 100000 in
theorem l_X12_cpA {l : Launch} {X : CX} {h : Nat} {Q : Option Value → ST → Prop} {σ : ST} {p f q o n : Nat} (hp : p < 4) (hf : f + n ≤ 40) (hY : ∀ τ (y : Int32), (∀ k, k < n → τ.2 126 k = σ.2 125 (40 * p + f + k)) → off (fun a => a = 126) σ τ → RJ (GM l X h Q) X cX12_copy 7 (some .int) RX12 136 [some (.ref (ad X 112)), some (.int (nI p)), some (.int (nI f)), some (.int (nI q)), some (.int (nI o)), some (.int (nI n)), some (.int y)] [] τ) : ∀ (N i : Nat) (τ : ST), n < i + N → (i ≤ n ∧ (∀ k, k < i → τ.2 126 k = σ.2 125 (40 * p + f + k)) ∧ off (fun a => a = 126) σ τ) → RJ (GM l X h Q) X cX12_copy 7 (some .int) RX12 102 [some (.ref (ad X 112)), some (.int (nI p)), some (.int (nI f)), some (.int (nI q)), some (.int (nI o)), some (.int (nI n)), some (.int (nI i))] [] τ := by
  intro N
  induction N with
  | zero => intro i τ hN hi; have := hi.1; exact absurd hN (by omega)
  | succ N ih =>
    intro i τ hN hi
    obtain ⟨hi, hv, ho⟩ := hi
    have hit : (nI i).toInt = i := nI_t (by omega)
    have hnt : (nI n).toInt = n := nI_t (by omega)
    have ei : 40 * nI p + nI f + nI i = nI (40 * p + f + i) := by rw [e40, nI_add]
    have het : (nI (40 * p + f + i)).toInt = 40 * p + f + i := by rw [nI_t (by omega)]; omega
    refine rj_ild dX12_copy_102 rfl ?_
    refine rj_ild dX12_copy_104 rfl ?_
    refine rj_ic_ge (tgt := 136) dX12_copy_106 (by decide) (fun h_106 => ?_) (fun h_106 => ?_)
    · exact hY τ _ (fun k hk => hv k (by omega)) ho
    · refine rj_ald0 dX12_copy_109 rfl ?_
      refine g12_50 dX12_copy_110 ?_
      refine rj_ild dX12_copy_113 rfl ?_
      refine rj_ald0 dX12_copy_115 rfl ?_
      refine g12_46 dX12_copy_116 ?_
      refine rj_bipush (v := 40) dX12_copy_119 (by decide) ?_
      refine rj_ild1 dX12_copy_121 rfl ?_
      refine rj_imul dX12_copy_122 ?_
      refine rj_ild2 dX12_copy_123 rfl ?_
      refine rj_iadd dX12_copy_124 ?_
      refine rj_ild dX12_copy_125 rfl ?_
      refine rj_iadd dX12_copy_127 ?_
      rw [ei]
      refine rj_lald (by first | assumption | rfl) (vpi (by omega) (by show _ < ((160 : Nat) : Int); omega)) dX12_copy_128 ?_
      rw [nI_clamp (by omega), (ho 125 (by decide)).2]
      refine rj_last (by first | assumption | rfl) (vpi (by omega) (by show _ < ((40 : Nat) : Int); omega)) dX12_copy_129 ?_
      rw [nI_clamp (by omega)]
      refine rj_iinc6 (d := 1) dX12_copy_130 (by decide) rfl (by decide) ?_
      rw [nI_1]
      refine rj_goto (tgt := 102) dX12_copy_133 (by decide) ?_
      refine ih (i + 1) _ (by omega) ⟨by omega, fun k hk => ?_, ho.ul rfl⟩
      rw [ul_at]
      by_cases z : k = i
      · rw [if_pos ⟨rfl, z⟩, z]
      · rw [if_neg (fun y => z y.2)]; exact hv k (by omega)

set_option maxRecDepth 100000 in
theorem l_X12_cpB {l : Launch} {X : CX} {h : Nat} {Q : Option Value → ST → Prop} {σ : ST} {p f q o n : Nat} (hq : q < 4) (hf : o + n ≤ 40) (hQ : ∀ τ, (∀ k, k < n → τ.2 125 (40 * q + o + k) = σ.2 126 k) → (∀ b, b < 40 * q + o ∨ 40 * q + o + n ≤ b → τ.2 125 b = σ.2 125 b) → off (fun a => a = 125) σ τ → τ.1 = σ.1 → Q (some (.int (nI n))) τ) : ∀ (N i : Nat) (τ : ST), n < i + N → (i ≤ n ∧ (∀ k, k < i → τ.2 125 (40 * q + o + k) = σ.2 126 k) ∧ (∀ b, b < 40 * q + o ∨ 40 * q + o + n ≤ b → τ.2 125 b = σ.2 125 b) ∧ off (fun a => a = 125) σ τ ∧ τ.1 = σ.1) → RJ (GM l X h Q) X cX12_copy 7 (some .int) RX12 139 [some (.ref (ad X 112)), some (.int (nI p)), some (.int (nI f)), some (.int (nI q)), some (.int (nI o)), some (.int (nI n)), some (.int (nI i))] [] τ := by
  intro N
  induction N with
  | zero => intro i τ hN hi; have := hi.1; exact absurd hN (by omega)
  | succ N ih =>
    intro i τ hN hi
    obtain ⟨hi, hv, hb, ho, h1⟩ := hi
    have hit : (nI i).toInt = i := nI_t (by omega)
    have hnt : (nI n).toInt = n := nI_t (by omega)
    have ei : 40 * nI q + nI o + nI i = nI (40 * q + o + i) := by rw [e40, nI_add]
    have het : (nI (40 * q + o + i)).toInt = 40 * q + o + i := by rw [nI_t (by omega)]; omega
    refine rj_ild dX12_copy_139 rfl ?_
    refine rj_ild dX12_copy_141 rfl ?_
    refine rj_ic_ge (tgt := 174) dX12_copy_143 (by decide) (fun h_143 => ?_) (fun h_143 => ?_)
    · refine rj_ild dX12_copy_174 rfl ?_
      refine rj_iret dX12_copy_176 ?_
      exact hQ τ (fun k hk => hv k (by omega)) hb ho h1
    · refine rj_ald0 dX12_copy_146 rfl ?_
      refine g12_46 dX12_copy_147 ?_
      refine rj_bipush (v := 40) dX12_copy_150 (by decide) ?_
      refine rj_ild3 dX12_copy_152 rfl ?_
      refine rj_imul dX12_copy_153 ?_
      refine rj_ild dX12_copy_154 rfl ?_
      refine rj_iadd dX12_copy_156 ?_
      refine rj_ild dX12_copy_157 rfl ?_
      refine rj_iadd dX12_copy_159 ?_
      rw [ei]
      refine rj_ald0 dX12_copy_160 rfl ?_
      refine g12_50 dX12_copy_161 ?_
      refine rj_ild dX12_copy_164 rfl ?_
      refine rj_lald (by first | assumption | rfl) (vpi (by omega) (by show _ < ((40 : Nat) : Int); omega)) dX12_copy_166 ?_
      rw [nI_clamp (by omega), (ho 126 (by decide)).2]
      refine rj_last (by first | assumption | rfl) (vpi (by omega) (by show _ < ((160 : Nat) : Int); omega)) dX12_copy_167 ?_
      rw [nI_clamp (by omega)]
      refine rj_iinc6 (d := 1) dX12_copy_168 (by decide) rfl (by decide) ?_
      rw [nI_1]
      refine rj_goto (tgt := 139) dX12_copy_171 (by decide) ?_
      refine ih (i + 1) _ (by omega) ⟨by omega, fun k hk => ?_, fun b hb2 => ?_, ho.ul rfl, by rw [ul_1]; exact h1⟩
      · rw [ul_at]
        by_cases z : k = i
        · rw [if_pos ⟨rfl, by omega⟩, z]
        · rw [if_neg (by omega)]; exact hv k (by omega)
      · rw [ul_at, if_neg (by omega)]; exact hb b hb2

set_option maxRecDepth 100000 in
theorem l_X12_cpC {l : Launch} {X : CX} {G : GT} {p f q o n : Nat} {y : Int32} {τ : ST} : RJ G X cX12_copy 7 (some .int) RX12 139 [some (.ref (ad X 112)), some (.int (nI p)), some (.int (nI f)), some (.int (nI q)), some (.int (nI o)), some (.int (nI n)), some (.int (nI 0))] [] τ → RJ (G) X cX12_copy 7 (some .int) RX12 136 [some (.ref (ad X 112)), some (.int (nI p)), some (.int (nI f)), some (.int (nI q)), some (.int (nI o)), some (.int (nI n)), some (.int y)] [] τ := by
  intro hk
  refine rj_ic0 dX12_copy_136 ?_
  refine rj_ist6w dX12_copy_137 (by decide) rfl ?_
  exact hk

set_option maxRecDepth 100000 in
theorem c_X12_copy {l : Launch} {X : CX} {σ : ST} {A : SA} (hM : MR σ A) (hw : wf A) {s f t o n : Int32} : MJ l X 2 yX12_copy cX12_copy 7 (some .int) [.ref (ad X 112), .int s, .int f, .int t, .int o, .int n] σ (OM σ (F_copy A s f t o n)) := by
  refine MJ_of (own := RX12) [some (.ref (ad X 112)), some (.int s), some (.int f), some (.int t), some (.int o), some (.int n), none] (by decide) rfl (Nat.le_of_ble_eq_true rfl) rfl ?_
  refine rj_ild1 dX12_copy_0 rfl ?_
  refine rj_S1i cX12_308 dX12_copy_1 c_X12_isSheet (fitM (by decide) (by decide)) (Nat.le_of_ble_eq_true rfl) ?_
  refine rj_if_eq (tgt := 14) dX12_copy_4 (by decide) (fun h_4 => ?_) (fun h_4 => ?_)
  · have hb_4 := bz_t h_4
    refine rj_ald0 dX12_copy_14 rfl ?_
    refine rj_ldc kX12_59 dX12_copy_15 ?_
    refine rj_V1 (ci := 12) cX12_68 rfl (by decide) rfl dX12_copy_17 (c_X12_finds (i := 0) hM (by decide) (by decide)) (fitM (by decide) (by decide)) (Nat.le_of_ble_eq_true rfl) ?_
    rintro v υq ⟨rfl, hq⟩
    simp only [Option.toList, List.cons_append, List.nil_append]
    refine rj_iret dX12_copy_20 ?_
    have e : F_copy A s f t o n = fnd A 0 := by unfold F_copy; rw [wS_out hb_4]
    rw [e]
    exact ⟨rfl, hq⟩
  · have hb_4 := bz_f h_4
    obtain ⟨p, rfl, hp⟩ := ms_in hb_4
    obtain ⟨g1, g2, g3, g4⟩ := hM.2.2.2.2 p hp
    have hpt : (nI p).toInt = p := nI_t (by omega)
    have hlt : (nI (shT A p).2.length).toInt = (shT A p).2.length := nI_t (by omega)
    refine rj_ild3 dX12_copy_7 rfl ?_
    refine rj_S1i cX12_308 dX12_copy_8 c_X12_isSheet (fitM (by decide) (by decide)) (Nat.le_of_ble_eq_true rfl) ?_
    refine rj_if_ne (tgt := 21) dX12_copy_11 (by decide) (fun h_11 => ?_) (fun h_11 => ?_)
    · have hb_11 := bz_f h_11
      obtain ⟨q, rfl, hq4⟩ := ms_in hb_11
      obtain ⟨u1, u2, u3, u4⟩ := hM.2.2.2.2 q hq4
      have hqt : (nI q).toInt = q := nI_t (by omega)
      refine rj_ald0 dX12_copy_21 rfl ?_
      refine g12_40 dX12_copy_22 ?_
      refine rj_ild1 dX12_copy_25 rfl ?_
      refine rj_iald (by first | assumption | rfl) (vpi (by omega) (by show _ < ((4 : Nat) : Int); omega)) dX12_copy_26 ?_
      rw [nI_clamp (by omega), g1]
      refine rj_if_eq (tgt := 39) dX12_copy_27 (by decide) (fun h_27 => ?_) (fun h_27 => ?_)
      · refine rj_ald0 dX12_copy_39 rfl ?_
        refine rj_ldcw kX12_312 dX12_copy_40 ?_
        refine rj_V1 (ci := 12) cX12_68 rfl (by decide) rfl dX12_copy_43 (c_X12_finds (i := 5) hM (by decide) (by decide)) (fitM (by decide) (by decide)) (Nat.le_of_ble_eq_true rfl) ?_
        rintro v υq ⟨rfl, hq⟩
        simp only [Option.toList, List.cons_append, List.nil_append]
        refine rj_iret dX12_copy_46 ?_
        have e : F_copy A (nI p) f (nI q) o n = fnd A 5 := by unfold F_copy; rw [wS_in hpt hp, wS_in hqt hq4, if_pos (Or.inl h_27)]
        rw [e]
        exact ⟨rfl, hq⟩
      · refine rj_ald0 dX12_copy_30 rfl ?_
        refine g12_40 dX12_copy_31 ?_
        refine rj_ild3 dX12_copy_34 rfl ?_
        refine rj_iald (by first | assumption | rfl) (vpi (by omega) (by show _ < ((4 : Nat) : Int); omega)) dX12_copy_35 ?_
        rw [nI_clamp (by omega), u1]
        refine rj_if_ne (tgt := 47) dX12_copy_36 (by decide) (fun h_36 => ?_) (fun h_36 => ?_)
        · have hms : ¬ ((shT A p).1 = 0 ∨ (shT A q).1 = 0) := fun z => z.elim h_27 h_36
          refine rj_ald0 dX12_copy_47 rfl ?_
          refine g12_40 dX12_copy_48 ?_
          refine rj_ild1 dX12_copy_51 rfl ?_
          refine rj_iald (by first | assumption | rfl) (vpi (by omega) (by show _ < ((4 : Nat) : Int); omega)) dX12_copy_52 ?_
          rw [nI_clamp (by omega), g1]
          refine rj_ald0 dX12_copy_53 rfl ?_
          refine g12_40 dX12_copy_54 ?_
          refine rj_ild3 dX12_copy_57 rfl ?_
          refine rj_iald (by first | assumption | rfl) (vpi (by omega) (by show _ < ((4 : Nat) : Int); omega)) dX12_copy_58 ?_
          rw [nI_clamp (by omega), u1]
          refine rj_ic_eq (tgt := 69) dX12_copy_59 (by decide) (fun h_59 => ?_) (fun h_59 => ?_)
          · refine rj_ald0 dX12_copy_69 rfl ?_
            refine rj_ild1 dX12_copy_70 rfl ?_
            refine rj_ild2 dX12_copy_71 rfl ?_
            refine rj_ild dX12_copy_72 rfl ?_
            refine rj_V3i (ci := 12) cX12_317 rfl (by decide) (by first | assumption | rfl) dX12_copy_74 (c_X12_isPart hM hp) (fitM (by decide) (by decide)) (Nat.le_of_ble_eq_true rfl) ?_
            refine rj_if_eq (tgt := 92) dX12_copy_77 (by decide) (fun h_77 => ?_) (fun h_77 => ?_)
            · have hb_77 := bz_t h_77
              refine rj_ald0 dX12_copy_92 rfl ?_
              refine rj_ldc kX12_59 dX12_copy_93 ?_
              refine rj_V1 (ci := 12) cX12_68 rfl (by decide) rfl dX12_copy_95 (c_X12_finds (i := 0) hM (by decide) (by decide)) (fitM (by decide) (by decide)) (Nat.le_of_ble_eq_true rfl) ?_
              rintro v υq ⟨rfl, hq⟩
              simp only [Option.toList, List.cons_append, List.nil_append]
              refine rj_iret dX12_copy_98 ?_
              have e : F_copy A (nI p) f (nI q) o n = fnd A 0 := by unfold F_copy; rw [wS_in hpt hp, wS_in hqt hq4, if_neg hms, if_pos h_59, if_neg (fun z => hb_77 z.1)]
              rw [e]
              exact ⟨rfl, hq⟩
            · have hb_77 := bz_f h_77
              refine rj_ald0 dX12_copy_80 rfl ?_
              refine rj_ild3 dX12_copy_81 rfl ?_
              refine rj_ild dX12_copy_82 rfl ?_
              refine rj_ild dX12_copy_84 rfl ?_
              refine rj_V3i (ci := 12) cX12_317 rfl (by decide) (by first | assumption | rfl) dX12_copy_86 (c_X12_isPart hM hq4) (fitM (by decide) (by decide)) (Nat.le_of_ble_eq_true rfl) ?_
              refine rj_if_ne (tgt := 99) dX12_copy_89 (by decide) (fun h_89 => ?_) (fun h_89 => ?_)
              · have hb_89 := bz_f h_89
                refine rj_ic0 dX12_copy_99 ?_
                refine rj_ist6w dX12_copy_100 (by decide) rfl ?_
                obtain ⟨b1, b2, b3⟩ := hb_77
                obtain ⟨d1, d2, d3⟩ := hb_89
                obtain ⟨F, hF, rfl⟩ : ∃ F : Nat, f.toInt = F ∧ f = nI F := ⟨f.toInt.toNat, by omega, i_nI b1⟩
                obtain ⟨O, hO, rfl⟩ : ∃ O : Nat, o.toInt = O ∧ o = nI O := ⟨o.toInt.toNat, by omega, i_nI d1⟩
                obtain ⟨N, hN, rfl⟩ : ∃ N : Nat, n.toInt = N ∧ n = nI N := ⟨n.toInt.toNat, by omega, i_nI b2⟩
                have e : F_copy A (nI p) (nI F) (nI q) (nI O) (nI N) = (nI N, sS A q ((shT A q).1, cpL (shT A p).2 (shT A q).2 F O N)) := by
                  unfold F_copy
                  rw [wS_in hpt hp, wS_in hqt hq4, if_neg hms, if_pos h_59, if_pos ⟨⟨b1, b2, b3⟩, ⟨d1, d2, d3⟩⟩, hF, hO, hN]
                  rfl
                rw [e]
                rw [hF, hN] at b3
                rw [hO, hN] at d3
                refine l_X12_cpA hp (by omega) (fun τ y h1 ho1 => ?_) (N + 1) 0 σ (by omega) ⟨by omega, fun k hk => absurd hk (by omega), off.rf⟩
                refine l_X12_cpC (l := l) (l_X12_cpB hq4 (by omega) (fun ψ k1 k2 ko k3 => ⟨rfl, ?_⟩) (N + 1) 0 τ (by omega) ⟨by omega, fun k hk => absurd hk (by omega), fun _ _ => rfl, off.rf, rfl⟩)
                have ho : off c4s σ ψ := (ho1.mono (fun a ha => by rw [show a = 126 from ha]; omega)).tr (ko.mono (fun a ha => by rw [show a = 125 from ha]; omega))
                refine mr_sheet hM hq4 ho (fun s hs hne => ⟨?_, ?_, fun i hi => ?_⟩) ?_ ?_ (by rw [cpL_len]; exact u3) (fun i hi => ?_)
                · rw [k3, (ho1 123 (by decide)).1]
                · rw [k3, (ho1 124 (by decide)).1]
                · rw [k2 _ (by omega), (ho1 125 (by decide)).2]
                · rw [k3, (ho1 123 (by decide)).1]; exact u1
                · rw [k3, (ho1 124 (by decide)).1, cpL_len]; exact u2
                · rw [cpL_len] at hi
                  rw [cpL_at hi]
                  by_cases z : O ≤ i ∧ i < O + N
                  · rw [if_pos z]
                    have := k1 (i - O) (by omega)
                    rw [show 40 * q + O + (i - O) = 40 * q + i by omega] at this
                    rw [this, h1 _ (by omega), show 40 * p + F + (i - O) = 40 * p + (F + (i - O)) by omega]
                    exact g4 _ (by omega)
                  · rw [if_neg z, k2 _ (by omega), (ho1 125 (by decide)).2]
                    exact u4 i hi
              · have hb_89 := bz_t h_89
                refine rj_ald0 dX12_copy_92 rfl ?_
                refine rj_ldc kX12_59 dX12_copy_93 ?_
                refine rj_V1 (ci := 12) cX12_68 rfl (by decide) rfl dX12_copy_95 (c_X12_finds (i := 0) hM (by decide) (by decide)) (fitM (by decide) (by decide)) (Nat.le_of_ble_eq_true rfl) ?_
                rintro v υq ⟨rfl, hq⟩
                simp only [Option.toList, List.cons_append, List.nil_append]
                refine rj_iret dX12_copy_98 ?_
                have e : F_copy A (nI p) f (nI q) o n = fnd A 0 := by unfold F_copy; rw [wS_in hpt hp, wS_in hqt hq4, if_neg hms, if_pos h_59, if_neg (fun z => hb_89 z.2)]
                rw [e]
                exact ⟨rfl, hq⟩
          · refine rj_ald0 dX12_copy_62 rfl ?_
            refine rj_ldc kX12_106 dX12_copy_63 ?_
            refine rj_V1 (ci := 12) cX12_68 rfl (by decide) rfl dX12_copy_65 (c_X12_finds (i := 2) hM (by decide) (by decide)) (fitM (by decide) (by decide)) (Nat.le_of_ble_eq_true rfl) ?_
            rintro v υq ⟨rfl, hq⟩
            simp only [Option.toList, List.cons_append, List.nil_append]
            refine rj_iret dX12_copy_68 ?_
            have e : F_copy A (nI p) f (nI q) o n = fnd A 2 := by unfold F_copy; rw [wS_in hpt hp, wS_in hqt hq4, if_neg hms, if_neg h_59]
            rw [e]
            exact ⟨rfl, hq⟩
        · refine rj_ald0 dX12_copy_39 rfl ?_
          refine rj_ldcw kX12_312 dX12_copy_40 ?_
          refine rj_V1 (ci := 12) cX12_68 rfl (by decide) rfl dX12_copy_43 (c_X12_finds (i := 5) hM (by decide) (by decide)) (fitM (by decide) (by decide)) (Nat.le_of_ble_eq_true rfl) ?_
          rintro v υq ⟨rfl, hq⟩
          simp only [Option.toList, List.cons_append, List.nil_append]
          refine rj_iret dX12_copy_46 ?_
          have e : F_copy A (nI p) f (nI q) o n = fnd A 5 := by unfold F_copy; rw [wS_in hpt hp, wS_in hqt hq4, if_pos (Or.inr h_36)]
          rw [e]
          exact ⟨rfl, hq⟩
    · have hb_11 := bz_t h_11
      refine rj_ald0 dX12_copy_14 rfl ?_
      refine rj_ldc kX12_59 dX12_copy_15 ?_
      refine rj_V1 (ci := 12) cX12_68 rfl (by decide) rfl dX12_copy_17 (c_X12_finds (i := 0) hM (by decide) (by decide)) (fitM (by decide) (by decide)) (Nat.le_of_ble_eq_true rfl) ?_
      rintro v υq ⟨rfl, hq⟩
      simp only [Option.toList, List.cons_append, List.nil_append]
      refine rj_iret dX12_copy_20 ?_
      have e : F_copy A (nI p) f t o n = fnd A 0 := by unfold F_copy; rw [wS_in hpt hp, wS_out hb_11]
      rw [e]
      exact ⟨rfl, hq⟩

theorem l_i32 {v : Int64} (h1 : -4 < v.toInt) (h2 : v.toInt < 4) : v.toInt32.toInt = v.toInt := by
  rw [Int64.toInt_toInt32, bm_id (by omega) (by omega)]
theorem m4 : (-4 : Int64).toInt = -4 := by decide
theorem p4 : (4 : Int64).toInt = 4 := by decide
theorem ldR_s (rc : Int32) (xs : List Int64) (n i : Nat) (a : List Int32) : ldR rc xs (n + 1) i a = if a.length < 12 then (if (xs.getD i 0).toInt ≠ 0 ∧ -rc.toInt < (xs.getD i 0).toInt ∧ (xs.getD i 0).toInt < rc.toInt then ldR rc xs n (i + 1) (a ++ [(xs.getD i 0).toInt32]) else a) else a := rfl
theorem ldR_f {rc : Int32} {xs : List Int64} {a : List Int32} (h : 12 ≤ a.length) : ∀ n i, ldR rc xs n i a = a
  | 0, _ => rfl
  | n + 1, i => by rw [ldR_s, if_neg (by omega)]
theorem sT_sT2 (A : SA) (j : Nat) (x z : TA) : sT (sT A j x) j z = sT A j z := by
  unfold sT
  show (A.1, (A.2.1.1, A.2.1.2.1, (A.2.1.2.2.set j x).set j z), A.2.2) = _
  rw [List.set_set]
set_option maxRecDepth 100000 in
theorem l_X12_ldE {l : Launch} {X : CX} {h : Nat} {Q : Option Value → ST → Prop} {p : Nat} {t no k : Int32} {y : Option Value} {τ : ST} : Q (some (.int k)) τ → RJ (GM l X h Q) X cX12_load 8 (some .int) RX12 69 [some (.ref (ad X 112)), some (.int (nI p)), some (.int t), some (.int no), some (.int k), some (.int 0), y, none] [] τ := by
  intro hk
  refine rj_ild dX12_load_69 rfl ?_
  refine rj_if_eq (tgt := 160) dX12_load_71 (by decide) (fun h_71 => ?_) (fun h_71 => ?_)
  · refine rj_ild dX12_load_160 rfl ?_
    refine rj_iret dX12_load_162 ?_
    exact hk
  · exact absurd rfl h_71

set_option maxRecDepth 100000 in
theorem c_X12_isCrossing' {l : Launch} {X : CX} {σ : ST} {A : SA} (hM : MR σ A) (hr : 2 ≤ A.2.1.1.toInt) (hr4 : A.2.1.1.toInt ≤ 4) {c : Int32} : MJ l X 1 yX12_isCrossing cX12_isCrossing 2 (some .boolean) [.ref (ad X 112), .int c] σ (eqI (if c.toInt ≠ 0 ∧ -A.2.1.1.toInt < c.toInt ∧ c.toInt < A.2.1.1.toInt then 1 else 0) σ) := by
  refine MJ_of (own := RX12) [some (.ref (ad X 112)), some (.int c)] (by decide) rfl (Nat.le_of_ble_eq_true rfl) rfl ?_
  have h0 : σ.1 113 0 = A.2.1.1 := hM.1.1
  have e1 : (1 - A.2.1.1).toInt = 1 - A.2.1.1.toInt := by rw [i_sub (by rw [t1]; omega) (by rw [t1]; omega), t1]
  have e2 : (A.2.1.1 - 1).toInt = A.2.1.1.toInt - 1 := by rw [i_sub (by rw [t1]; omega) (by rw [t1]; omega), t1]
  refine rj_ild1 dX12_isCrossing_0 rfl ?_
  refine rj_if_eq (tgt := 31) dX12_isCrossing_1 (by decide) (fun h_1 => ?_) (fun h_1 => ?_)
  · have hz : c.toInt = 0 := by rw [h_1]; rfl
    refine rj_ic0 dX12_isCrossing_31 ?_
    refine rj_zret dX12_isCrossing_32 (rfl) ?_
    first | (refine ⟨?_, rfl⟩; rw [if_pos (by omega)]; done) | (refine ⟨?_, rfl⟩; rw [if_neg (by omega)]; done) | (exfalso; omega)
  · have hz : ¬ c.toInt = 0 := fun z => h_1 (i_inj (z.trans t0.symm))
    refine rj_ild1 dX12_isCrossing_4 rfl ?_
    refine rj_ic1 dX12_isCrossing_5 ?_
    refine rj_ald0 dX12_isCrossing_6 rfl ?_
    refine g12_7 dX12_isCrossing_7 ?_
    refine rj_ic0 dX12_isCrossing_10 ?_
    refine rj_iald (by first | assumption | rfl) (vpi (by decide) (by decide)) dX12_isCrossing_11 ?_
    rw [show (0 : Int32).toNatClampNeg = 0 from rfl, h0]
    refine rj_isub dX12_isCrossing_12 ?_
    refine rj_ald0 dX12_isCrossing_13 rfl ?_
    refine g12_7 dX12_isCrossing_14 ?_
    refine rj_ic0 dX12_isCrossing_17 ?_
    refine rj_iald (by first | assumption | rfl) (vpi (by decide) (by decide)) dX12_isCrossing_18 ?_
    rw [show (0 : Int32).toNatClampNeg = 0 from rfl, h0]
    refine rj_ic1 dX12_isCrossing_19 ?_
    refine rj_isub dX12_isCrossing_20 ?_
    refine rj_S3i cX12_60 dX12_isCrossing_21 c_X12_in (fitM (by decide) (by decide)) (Nat.le_of_ble_eq_true rfl) ?_
    refine rj_if_eq (tgt := 31) dX12_isCrossing_24 (by decide) (fun h_24 => ?_) (fun h_24 => ?_)
    · have hb_24 := bz_t h_24
      refine rj_ic0 dX12_isCrossing_31 ?_
      refine rj_zret dX12_isCrossing_32 (rfl) ?_
      first | (refine ⟨?_, rfl⟩; rw [if_pos (by omega)]; done) | (refine ⟨?_, rfl⟩; rw [if_neg (by omega)]; done) | (exfalso; omega)
    · have hb_24 := bz_f h_24
      refine rj_ic1 dX12_isCrossing_27 ?_
      refine rj_goto (tgt := 32) dX12_isCrossing_28 (by decide) ?_
      refine rj_zret dX12_isCrossing_32 (rfl) ?_
      first | (refine ⟨?_, rfl⟩; rw [if_pos (by omega)]; done) | (refine ⟨?_, rfl⟩; rw [if_neg (by omega)]; done) | (exfalso; omega)

set_option maxRecDepth 100000 in
theorem l_X12_load {l : Launch} {X : CX} {h : Nat} {Q : Option Value → ST → Prop} {σ : ST} {A : SA} {p j : Nat} {t no : Int32} {r : List Int32} (hh : 3 ≤ h) (hw : wf A) (hp : p < 4) (ht : t.toInt = j) (hj : j < A.2.1.2.2.length) (hQ : ∀ τ, MR τ (sT A j ((fT A j).1, r)) → off mdP σ τ → Q (some (.int (nI r.length))) τ) : ∀ (N : Nat) (a : List Int32) (τ : ST) (y : Option Value), 12 < a.length + N → (a.length ≤ 12 ∧ a.length ≤ (shT A p).2.length ∧ ldR A.2.1.1 (shT A p).2 ((shT A p).2.length - a.length) a.length a = r ∧ MR τ (sT A j ((fT A j).1, a)) ∧ off mdP σ τ) → RJ (GM l X h Q) X cX12_load 8 (some .int) RX12 69 [some (.ref (ad X 112)), some (.int (nI p)), some (.int t), some (.int no), some (.int (nI a.length)), some (.int 1), y, none] [] τ := by
  intro N
  induction N with
  | zero => intro a τ y hN hi; have := hi.1; exact absurd hN (by omega)
  | succ N ih =>
    intro a τ y hN hi
    obtain ⟨hi, hi2, hr, hM, ho⟩ := hi
    have hr2 := hw.1.1
    have hr4 := hw.1.2.1
    obtain ⟨g1, g2, g3, g4⟩ := hM.2.2.2.2 p hp
    have g2 : τ.1 124 p = nI (shT A p).2.length := g2
    have g3 : (shT A p).2.length ≤ 40 := g3
    have g4 : ∀ i, i < (shT A p).2.length → τ.2 125 (40 * p + i) = (shT A p).2.getD i 0 := g4
    have hlt : (nI (shT A p).2.length).toInt = (shT A p).2.length := nI_t (by omega)
    have hit : (nI a.length).toInt = a.length := nI_t (by omega)
    have hpt : (nI p).toInt = p := nI_t (by omega)
    have q12 := e12
    have z4 := m4
    have z5 := p4
    have hjs := sT_j (A := A) ((fT A j).1, a) hj
    have het : (nI (40 * p + a.length)).toInt = 40 * p + a.length := by rw [nI_t (by omega)]; omega
    have hic : ∀ c, MJ l X 1 yX12_isCrossing cX12_isCrossing 2 (some .boolean) [.ref (ad X 112), .int c] τ (eqI (if c.toInt ≠ 0 ∧ -A.2.1.1.toInt < c.toInt ∧ c.toInt < A.2.1.1.toInt then 1 else 0) τ) := fun c => c_X12_isCrossing' (A := sT A j ((fT A j).1, a)) hM hr2 hr4
    have hac : ∀ c, a.length < 12 → MJ l X 2 yX12_addCrossing cX12_addCrossing 3 none [.ref (ad X 112), .int t, .int c] τ (PV (fun υ => MR υ (sT A j ((fT A j).1, a ++ [c])) ∧ off mdP τ υ)) := fun c hl => by
      have k := c_X12_addCrossing (l := l) (X := X) (c := c) hM ht hjs (by rw [sT_fT _ hj]; exact hl)
      rw [sT_fT _ hj, sT_sT2] at k
      exact k
    refine rj_ild dX12_load_69 rfl ?_
    refine rj_if_eq (tgt := 160) dX12_load_71 (by decide) (fun h_71 => ?_) (fun h_71 => ?_)
    · exact absurd h_71 (by decide)
    · refine rj_ild dX12_load_74 rfl ?_
      refine rj_ald0 dX12_load_76 rfl ?_
      refine g12_43 dX12_load_77 ?_
      refine rj_ild1 dX12_load_80 rfl ?_
      refine rj_iald (by first | assumption | rfl) (vpi (by omega) (by show _ < ((4 : Nat) : Int); omega)) dX12_load_81 ?_
      rw [nI_clamp (by omega), g2]
      refine rj_ic_ge (tgt := 160) dX12_load_82 (by decide) (fun h_82 => ?_) (fun h_82 => ?_)
      · refine rj_ild dX12_load_160 rfl ?_
        refine rj_iret dX12_load_162 ?_
        rw [show (shT A p).2.length - a.length = 0 by omega] at hr
        have hr3 : a = r := hr
        rw [← hr3] at hQ
        exact hQ τ hM ho
      · refine rj_ild dX12_load_85 rfl ?_
        refine rj_bipush (v := 12) dX12_load_87 (by decide) ?_
        refine rj_ic_ge (tgt := 160) dX12_load_89 (by decide) (fun h_89 => ?_) (fun h_89 => ?_)
        · refine rj_ild dX12_load_160 rfl ?_
          refine rj_iret dX12_load_162 ?_
          rw [ldR_f (by omega)] at hr
          rw [← hr] at hQ
          exact hQ τ hM ho
        · refine rj_ald0 dX12_load_92 rfl ?_
          refine g12_46 dX12_load_93 ?_
          refine rj_bipush (v := 40) dX12_load_96 (by decide) ?_
          refine rj_ild1 dX12_load_98 rfl ?_
          refine rj_imul dX12_load_99 ?_
          refine rj_ild dX12_load_100 rfl ?_
          refine rj_iadd dX12_load_102 ?_
          rw [e40]
          refine rj_lald (by first | assumption | rfl) (vpi (by omega) (by show _ < ((160 : Nat) : Int); omega)) dX12_load_103 ?_
          rw [nI_clamp (by omega), g4 _ (by omega)]
          refine rj_lst6w dX12_load_104 (by decide) rfl ?_
          refine rj_lld dX12_load_106 rfl ?_
          refine rj_ldc2 kX12_320 dX12_load_108 ?_
          refine rj_lcmp dX12_load_111 ?_
          refine rj_if_le (tgt := 138) dX12_load_112 (by decide) (fun h_112 => ?_) (fun h_112 => ?_)
          · have h112 := lcm_le.mp h_112
            rw [z4] at h112
            refine rj_ic0 dX12_load_138 ?_
            refine rj_ist5w dX12_load_139 (by decide) rfl ?_
            refine rj_ild dX12_load_141 rfl ?_
            refine rj_if_eq (tgt := 157) dX12_load_143 (by decide) (fun h_143 => ?_) (fun h_143 => ?_)
            · refine rj_goto (tgt := 69) dX12_load_157 (by decide) ?_
              rw [show (shT A p).2.length - a.length = ((shT A p).2.length - (a.length + 1)) + 1 by omega, ldR_s, if_pos (by omega)] at hr
              rw [if_neg (fun z => by omega)] at hr
              rw [← hr] at hQ
              exact l_X12_ldE (l := l) (hQ τ hM ho)
            · exact absurd rfl h_143
          · have h112 := lcm_gt h_112
            rw [z4] at h112
            refine rj_lld dX12_load_115 rfl ?_
            refine rj_ldc2 kX12_322 dX12_load_117 ?_
            refine rj_lcmp dX12_load_120 ?_
            refine rj_if_ge (tgt := 138) dX12_load_121 (by decide) (fun h_121 => ?_) (fun h_121 => ?_)
            · have h121 := lcm_ge.mp h_121
              rw [z5] at h121
              refine rj_ic0 dX12_load_138 ?_
              refine rj_ist5w dX12_load_139 (by decide) rfl ?_
              refine rj_ild dX12_load_141 rfl ?_
              refine rj_if_eq (tgt := 157) dX12_load_143 (by decide) (fun h_143 => ?_) (fun h_143 => ?_)
              · refine rj_goto (tgt := 69) dX12_load_157 (by decide) ?_
                rw [show (shT A p).2.length - a.length = ((shT A p).2.length - (a.length + 1)) + 1 by omega, ldR_s, if_pos (by omega)] at hr
                rw [if_neg (fun z => by omega)] at hr
                rw [← hr] at hQ
                exact l_X12_ldE (l := l) (hQ τ hM ho)
              · exact absurd rfl h_143
            · have h121 := lcm_lt h_121
              rw [z5] at h121
              refine rj_ald0 dX12_load_124 rfl ?_
              refine rj_lld dX12_load_125 rfl ?_
              refine rj_l2i dX12_load_127 ?_
              refine rj_V1i (ci := 12) cX12_88 rfl (by decide) (by first | assumption | rfl) dX12_load_128 (hic _) (fitM (by omega) (by decide)) (Nat.le_of_ble_eq_true rfl) ?_
              refine rj_if_eq (tgt := 138) dX12_load_131 (by decide) (fun h_131 => ?_) (fun h_131 => ?_)
              · have hb_131 := bz_t h_131
                refine rj_ic0 dX12_load_138 ?_
                refine rj_ist5w dX12_load_139 (by decide) rfl ?_
                refine rj_ild dX12_load_141 rfl ?_
                refine rj_if_eq (tgt := 157) dX12_load_143 (by decide) (fun h_143 => ?_) (fun h_143 => ?_)
                · refine rj_goto (tgt := 69) dX12_load_157 (by decide) ?_
                  rw [show (shT A p).2.length - a.length = ((shT A p).2.length - (a.length + 1)) + 1 by omega, ldR_s, if_pos (by omega)] at hr
                  rw [if_neg (fun z => hb_131 ⟨by rw [l_i32 h112 h121]; exact z.1, by rw [l_i32 h112 h121]; exact z.2.1, by rw [l_i32 h112 h121]; exact z.2.2⟩)] at hr
                  rw [← hr] at hQ
                  exact l_X12_ldE (l := l) (hQ τ hM ho)
                · exact absurd rfl h_143
              · have hb_131 := bz_f h_131
                refine rj_ic1 dX12_load_134 ?_
                refine rj_goto (tgt := 139) dX12_load_135 (by decide) ?_
                refine rj_ist5w dX12_load_139 (by decide) rfl ?_
                refine rj_ild dX12_load_141 rfl ?_
                refine rj_if_eq (tgt := 157) dX12_load_143 (by decide) (fun h_143 => ?_) (fun h_143 => ?_)
                · exact absurd h_143 (by decide)
                · refine rj_ald0 dX12_load_146 rfl ?_
                  refine rj_ild2 dX12_load_147 rfl ?_
                  refine rj_lld dX12_load_148 rfl ?_
                  refine rj_l2i dX12_load_150 ?_
                  refine rj_V2 (ci := 12) cX12_91 rfl (by decide) (by first | assumption | rfl) dX12_load_151 (hac _ (by omega)) (fitM (by omega) (by decide)) (Nat.le_of_ble_eq_true rfl) ?_
                  rintro v υ ⟨rfl, hM1, ho1⟩
                  simp only [Option.toList, List.nil_append]
                  refine rj_iinc4 (d := 1) dX12_load_154 (by decide) rfl (by decide) ?_
                  rw [nI_1]
                  refine rj_goto (tgt := 69) dX12_load_157 (by decide) ?_
                  rw [show (shT A p).2.length - a.length = ((shT A p).2.length - (a.length + 1)) + 1 by omega, ldR_s, if_pos (by omega)] at hr
                  rw [if_pos ⟨by rw [← l_i32 h112 h121]; exact hb_131.1, by rw [← l_i32 h112 h121]; exact hb_131.2.1, by rw [← l_i32 h112 h121]; exact hb_131.2.2⟩] at hr
                  have hla : (a ++ [((shT A p).2.getD a.length 0).toInt32]).length = a.length + 1 := by rw [List.length_append, List.length_singleton]
                  have k := ih (a ++ [((shT A p).2.getD a.length 0).toInt32]) υ (some (.long ((shT A p).2.getD a.length 0))) (by omega) ⟨by omega, by omega, by rw [hla]; exact hr, hM1, ho.tr ho1⟩
                  rw [hla] at k
                  exact k

set_option maxRecDepth 100000 in
theorem c_X12_load {l : Launch} {X : CX} {σ : ST} {A : SA} (hM : MR σ A) (hw : wf A) {s t : Int32} : MJ l X 3 yX12_load cX12_load 8 (some .int) [.ref (ad X 112), .int s, .int t] σ (OM σ (F_load A s t)) := by
  refine MJ_of (own := RX12) [some (.ref (ad X 112)), some (.int s), some (.int t), none, none, none, none, none] (by decide) rfl (Nat.le_of_ble_eq_true rfl) rfl ?_
  refine rj_ild1 dX12_load_0 rfl ?_
  refine rj_S1i cX12_308 dX12_load_1 c_X12_isSheet (fitM (by decide) (by decide)) (Nat.le_of_ble_eq_true rfl) ?_
  refine rj_if_ne (tgt := 12) dX12_load_4 (by decide) (fun h_4 => ?_) (fun h_4 => ?_)
  · have hb_4 := bz_f h_4
    obtain ⟨p, rfl, hp⟩ := ms_in hb_4
    obtain ⟨g1, g2, g3, g4⟩ := hM.2.2.2.2 p hp
    have hpt : (nI p).toInt = p := nI_t (by omega)
    have hlt : (nI (shT A p).2.length).toInt = (shT A p).2.length := nI_t (by omega)
    refine rj_ald0 dX12_load_12 rfl ?_
    refine g12_40 dX12_load_13 ?_
    refine rj_ild1 dX12_load_16 rfl ?_
    refine rj_iald (by first | assumption | rfl) (vpi (by omega) (by show _ < ((4 : Nat) : Int); omega)) dX12_load_17 ?_
    rw [nI_clamp (by omega), g1]
    refine rj_if_ne (tgt := 27) dX12_load_18 (by decide) (fun h_18 => ?_) (fun h_18 => ?_)
    · refine rj_ald0 dX12_load_27 rfl ?_
      refine rj_ild2 dX12_load_28 rfl ?_
      refine rj_V1i (ci := 12) cX12_85 rfl (by decide) (by first | assumption | rfl) dX12_load_29 (c_X12_isTie hM) (fitM (by decide) (by decide)) (Nat.le_of_ble_eq_true rfl) ?_
      refine rj_if_ne (tgt := 40) dX12_load_32 (by decide) (fun h_32 => ?_) (fun h_32 => ?_)
      · have hb_32 := bz_f h_32
        obtain ⟨j, hv, hj⟩ := mt_in hb_32
        have h12 := (wf_t hw hj).2.2.1
        have h8 := hM.1.2.2.2.1
        have hq1 := at_s (b := 1) hv (by omega) (by omega)
        refine rj_ic0 dX12_load_40 ?_
        refine rj_ist3 dX12_load_41 (by decide) rfl ?_
        refine rj_ild3 dX12_load_42 rfl ?_
        refine rj_if_eq (tgt := 52) dX12_load_43 (by decide) (fun h_43 => ?_) (fun h_43 => ?_)
        · refine rj_ald0 dX12_load_52 rfl ?_
          refine g12_7 dX12_load_53 ?_
          refine rj_ild2 dX12_load_56 rfl ?_
          refine rj_ic1 dX12_load_57 ?_
          rw [show (1 : Int32) = nI 1 from rfl]
          refine rj_S2i cX12_64 dX12_load_58 c_X12_at (fitM (by decide) (by decide)) (Nat.le_of_ble_eq_true rfl) ?_
          refine rj_ic0 dX12_load_61 ?_
          refine rj_iast (by first | assumption | rfl) (vpi (by omega) (by show _ < ((115 : Nat) : Int); omega)) dX12_load_62 ?_
          rw [hq1.2, show 3 + 14 * j + 1 = 4 + 14 * j by omega]
          refine rj_ic0 dX12_load_63 ?_
          refine rj_ist4w dX12_load_64 (by decide) rfl ?_
          refine rj_ic1 dX12_load_66 ?_
          refine rj_ist5w dX12_load_67 (by decide) rfl ?_
          have e : F_load A (nI p) t = (nI (ldR A.2.1.1 (shT A p).2 (shT A p).2.length 0 []).length, sT A j ((fT A j).1, ldR A.2.1.1 (shT A p).2 (shT A p).2.length 0 [])) := by unfold F_load; rw [wS_in hpt hp, if_neg h_18, wT_in hv hj]
          rw [e]
          have hM0 := mr_tie (τ := ui σ 113 (4 + 14 * j) 0) (k := (fT A j).1) (xs := []) hM hj (off_r off.rf) (fun b hb => by rw [ui_at, if_neg (by omega)]) (by rw [ui_at, if_neg (by omega)]; exact (hM.1.2.2.2.2 j hj).1) (by rw [ui_same]; rfl) (by simp) (fun i hi => absurd hi (by simp))
          exact l_X12_load (by decide) hw hp hv hj (fun τ h1 h2 => ⟨rfl, h1, h2⟩) 13 [] _ _ (by simp) ⟨by simp, by simp, rfl, hM0.1, hM0.2⟩
        · exact absurd rfl h_43
      · have hb_32 := bz_t h_32
        refine rj_ldc kX12_59 dX12_load_35 ?_
        refine rj_goto (tgt := 41) dX12_load_37 (by decide) ?_
        refine rj_ist3 dX12_load_41 (by decide) rfl ?_
        refine rj_ild3 dX12_load_42 rfl ?_
        refine rj_if_eq (tgt := 52) dX12_load_43 (by decide) (fun h_43 => ?_) (fun h_43 => ?_)
        · exact absurd h_43 (by decide)
        · refine rj_ald0 dX12_load_46 rfl ?_
          refine rj_ild3 dX12_load_47 rfl ?_
          refine rj_V1 (ci := 12) cX12_68 rfl (by decide) rfl dX12_load_48 (c_X12_finds (i := 0) hM (by decide) (by decide)) (fitM (by decide) (by decide)) (Nat.le_of_ble_eq_true rfl) ?_
          rintro v υq ⟨rfl, hq⟩
          simp only [Option.toList, List.cons_append, List.nil_append]
          refine rj_iret dX12_load_51 ?_
          have e : F_load A (nI p) t = fnd A 0 := by unfold F_load; rw [wS_in hpt hp, if_neg h_18, wT_out hb_32]
          rw [e]
          exact ⟨rfl, hq⟩
    · refine rj_ldcw kX12_312 dX12_load_21 ?_
      refine rj_goto (tgt := 41) dX12_load_24 (by decide) ?_
      refine rj_ist3 dX12_load_41 (by decide) rfl ?_
      refine rj_ild3 dX12_load_42 rfl ?_
      refine rj_if_eq (tgt := 52) dX12_load_43 (by decide) (fun h_43 => ?_) (fun h_43 => ?_)
      · exact absurd h_43 (by decide)
      · refine rj_ald0 dX12_load_46 rfl ?_
        refine rj_ild3 dX12_load_47 rfl ?_
        refine rj_V1 (ci := 12) cX12_68 rfl (by decide) rfl dX12_load_48 (c_X12_finds (i := 5) hM (by decide) (by decide)) (fitM (by decide) (by decide)) (Nat.le_of_ble_eq_true rfl) ?_
        rintro v υq ⟨rfl, hq⟩
        simp only [Option.toList, List.cons_append, List.nil_append]
        refine rj_iret dX12_load_51 ?_
        have e : F_load A (nI p) t = fnd A 5 := by unfold F_load; rw [wS_in hpt hp, if_pos h_18]
        rw [e]
        exact ⟨rfl, hq⟩
  · have hb_4 := bz_t h_4
    refine rj_ldc kX12_59 dX12_load_7 ?_
    refine rj_goto (tgt := 41) dX12_load_9 (by decide) ?_
    refine rj_ist3 dX12_load_41 (by decide) rfl ?_
    refine rj_ild3 dX12_load_42 rfl ?_
    refine rj_if_eq (tgt := 52) dX12_load_43 (by decide) (fun h_43 => ?_) (fun h_43 => ?_)
    · exact absurd h_43 (by decide)
    · refine rj_ald0 dX12_load_46 rfl ?_
      refine rj_ild3 dX12_load_47 rfl ?_
      refine rj_V1 (ci := 12) cX12_68 rfl (by decide) rfl dX12_load_48 (c_X12_finds (i := 0) hM (by decide) (by decide)) (fitM (by decide) (by decide)) (Nat.le_of_ble_eq_true rfl) ?_
      rintro v υq ⟨rfl, hq⟩
      simp only [Option.toList, List.cons_append, List.nil_append]
      refine rj_iret dX12_load_51 ?_
      have e : F_load A s t = fnd A 0 := by unfold F_load; rw [wS_out hb_4]
      rw [e]
      exact ⟨rfl, hq⟩

