/-! the reference: images, counts -/
theorem FM_c {f g : Nat → Int32} {F : FA} (h : FM f F) (hg : ∀ q, q < 115 → g q = f q) : FM g F := by
  obtain ⟨a, b, c, d, e⟩ := h
  refine ⟨by rw [hg 0 (by omega)]; exact a, by rw [hg 1 (by omega)]; exact b, by rw [hg 2 (by omega)]; exact c, d, fun t ht => ?_⟩
  obtain ⟨e1, e2, e3, e4⟩ := e t ht
  exact ⟨by rw [hg _ (by omega)]; exact e1, by rw [hg _ (by omega)]; exact e2, e3, fun i hi => by rw [hg _ (by omega)]; exact e4 i hi⟩
set_option maxRecDepth 100000 in
theorem l_X12_mvT {l : Launch} {X : CX} {h : Nat} {Q : Option Value → ST → Prop} {σ : ST} {c : Nat} (hk : kd c = 13) (hl : ln c = 115) (hc : c ≠ 113) (hQ : ∀ τ, (∀ q, q < 115 → τ.1 c q = σ.1 113 q) → off (fun a => a = c) σ τ → Q none τ) : ∀ (N i : Nat) (τ : ST), 115 < i + N → (i ≤ 115 ∧ (∀ q, q < i → τ.1 c q = σ.1 113 q) ∧ off (fun a => a = c) σ τ) → RJ (GM l X h Q) X cX12_moveAll 4 none RX12 2 [some (.ref (ad X 112)), some (.int 1), some (.ref (ad X c)), some (.int (nI i))] [] τ := by
  intro N
  induction N with
  | zero => intro i τ hN hi; have := hi.1; exact absurd hN (by omega)
  | succ N ih =>
    intro i τ hN hi
    obtain ⟨hi, hv, ho⟩ := hi
    have hit : (nI i).toInt = i := nI_t (by omega)
    have q115 : (115 : Int32).toInt = 115 := by decide
    refine rj_ild3 dX12_moveAll_2 rfl ?_
    refine rj_bipush (v := 115) dX12_moveAll_3 (by decide) ?_
    refine rj_ic_ge (tgt := 39) dX12_moveAll_5 (by decide) (fun h_5 => ?_) (fun h_5 => ?_)
    · refine rj_vret dX12_moveAll_39 ?_
      exact hQ τ (fun q hq => hv q (by omega)) ho
    · refine rj_ild1 dX12_moveAll_8 rfl ?_
      refine rj_if_eq (tgt := 24) dX12_moveAll_9 (by decide) (fun h_9 => ?_) (fun h_9 => ?_)
      · exact absurd h_9 (by decide)
      · refine rj_ald2 dX12_moveAll_12 rfl ?_
        refine rj_ild3 dX12_moveAll_13 rfl ?_
        refine rj_ald0 dX12_moveAll_14 rfl ?_
        refine g12_7 dX12_moveAll_15 ?_
        refine rj_ild3 dX12_moveAll_18 rfl ?_
        refine rj_iald (by first | assumption | rfl) (vpi (by omega) (by show _ < ((115 : Nat) : Int); omega)) dX12_moveAll_19 ?_
        rw [nI_clamp (by omega), (ho 113 (by omega)).1]
        refine rj_iast (by first | assumption | rfl) (vpi (by omega) (by rw [hl]; omega)) dX12_moveAll_20 ?_
        rw [nI_clamp (by omega)]
        refine rj_goto (tgt := 33) dX12_moveAll_21 (by decide) ?_
        refine rj_iinc3 (d := 1) dX12_moveAll_33 (by decide) rfl (by decide) ?_
        rw [nI_1]
        refine rj_goto (tgt := 2) dX12_moveAll_36 (by decide) ?_
        refine ih (i + 1) _ (by omega) ⟨by omega, fun q hq => ?_, ho.ui rfl⟩
        rw [ui_at]
        by_cases z : q = i
        · rw [if_pos ⟨rfl, z⟩, z]
        · rw [if_neg (fun y => z y.2)]; exact hv q (by omega)

set_option maxRecDepth 100000 in
theorem c_X12_moveAllT {l : Launch} {X : CX} {σ : ST} {c : Nat} (hk : kd c = 13) (hl : ln c = 115) (hc : c ≠ 113) : MJ l X 0 yX12_moveAll cX12_moveAll 4 none [.ref (ad X 112), .int 1, .ref (ad X c)] σ (PV (fun τ => (∀ q, q < 115 → τ.1 c q = σ.1 113 q) ∧ off (fun a => a = c) σ τ)) := by
  refine MJ_of (own := RX12) [some (.ref (ad X 112)), some (.int 1), some (.ref (ad X c)), none] (by decide) rfl (Nat.le_of_ble_eq_true rfl) rfl ?_
  refine rj_ic0 dX12_moveAll_0 ?_
  refine rj_ist3 dX12_moveAll_1 (by decide) rfl ?_
  exact l_X12_mvT hk hl hc (fun τ h1 h2 => ⟨rfl, h1, h2⟩) 116 0 σ (by omega) ⟨by omega, fun q hq => absurd hq (by omega), off.rf⟩

set_option maxRecDepth 100000 in
theorem l_X12_mvF {l : Launch} {X : CX} {h : Nat} {Q : Option Value → ST → Prop} {σ : ST} {c : Nat} (hk : kd c = 13) (hl : ln c = 115) (hc : c ≠ 113) (hQ : ∀ τ, (∀ q, q < 115 → τ.1 113 q = σ.1 c q) → off (fun a => a = 113) σ τ → Q none τ) : ∀ (N i : Nat) (τ : ST), 115 < i + N → (i ≤ 115 ∧ (∀ q, q < i → τ.1 113 q = σ.1 c q) ∧ off (fun a => a = 113) σ τ) → RJ (GM l X h Q) X cX12_moveAll 4 none RX12 2 [some (.ref (ad X 112)), some (.int 0), some (.ref (ad X c)), some (.int (nI i))] [] τ := by
  intro N
  induction N with
  | zero => intro i τ hN hi; have := hi.1; exact absurd hN (by omega)
  | succ N ih =>
    intro i τ hN hi
    obtain ⟨hi, hv, ho⟩ := hi
    have hit : (nI i).toInt = i := nI_t (by omega)
    have q115 : (115 : Int32).toInt = 115 := by decide
    refine rj_ild3 dX12_moveAll_2 rfl ?_
    refine rj_bipush (v := 115) dX12_moveAll_3 (by decide) ?_
    refine rj_ic_ge (tgt := 39) dX12_moveAll_5 (by decide) (fun h_5 => ?_) (fun h_5 => ?_)
    · refine rj_vret dX12_moveAll_39 ?_
      exact hQ τ (fun q hq => hv q (by omega)) ho
    · refine rj_ild1 dX12_moveAll_8 rfl ?_
      refine rj_if_eq (tgt := 24) dX12_moveAll_9 (by decide) (fun h_9 => ?_) (fun h_9 => ?_)
      · refine rj_ald0 dX12_moveAll_24 rfl ?_
        refine g12_7 dX12_moveAll_25 ?_
        refine rj_ild3 dX12_moveAll_28 rfl ?_
        refine rj_ald2 dX12_moveAll_29 rfl ?_
        refine rj_ild3 dX12_moveAll_30 rfl ?_
        refine rj_iald (by first | assumption | rfl) (vpi (by omega) (by rw [hl]; omega)) dX12_moveAll_31 ?_
        rw [nI_clamp (by omega), (ho c (by omega)).1]
        refine rj_iast (by first | assumption | rfl) (vpi (by omega) (by show _ < ((115 : Nat) : Int); omega)) dX12_moveAll_32 ?_
        rw [nI_clamp (by omega)]
        refine rj_iinc3 (d := 1) dX12_moveAll_33 (by decide) rfl (by decide) ?_
        rw [nI_1]
        refine rj_goto (tgt := 2) dX12_moveAll_36 (by decide) ?_
        refine ih (i + 1) _ (by omega) ⟨by omega, fun q hq => ?_, ho.ui rfl⟩
        rw [ui_at]
        by_cases z : q = i
        · rw [if_pos ⟨rfl, z⟩, z]
        · rw [if_neg (fun y => z y.2)]; exact hv q (by omega)
      · exact absurd rfl h_9

set_option maxRecDepth 100000 in
theorem c_X12_moveAllF {l : Launch} {X : CX} {σ : ST} {c : Nat} (hk : kd c = 13) (hl : ln c = 115) (hc : c ≠ 113) : MJ l X 0 yX12_moveAll cX12_moveAll 4 none [.ref (ad X 112), .int 0, .ref (ad X c)] σ (PV (fun τ => (∀ q, q < 115 → τ.1 113 q = σ.1 c q) ∧ off (fun a => a = 113) σ τ)) := by
  refine MJ_of (own := RX12) [some (.ref (ad X 112)), some (.int 0), some (.ref (ad X c)), none] (by decide) rfl (Nat.le_of_ble_eq_true rfl) rfl ?_
  refine rj_ic0 dX12_moveAll_0 ?_
  refine rj_ist3 dX12_moveAll_1 (by decide) rfl ?_
  exact l_X12_mvF hk hl hc (fun τ h1 h2 => ⟨rfl, h1, h2⟩) 116 0 σ (by omega) ⟨by omega, fun q hq => absurd hq (by omega), off.rf⟩

theorem mr_kept {σ τ : ST} {A : SA} {K : Option FA} (h : MR σ A) (ho : off (fun a => a = 112 ∨ a = 127) σ τ) (h13 : τ.1 112 13 = σ.1 112 13) (hK : (K = none ∧ τ.1 112 26 = 0) ∨ ∃ F, K = some F ∧ τ.1 112 26 = 1 ∧ FM (τ.1 127) F) : MR τ (A.1, A.2.1, K, A.2.2.2) ∧ off mdP σ τ := by
  refine ⟨?_, ho.mono (fun a ha => by unfold mdP; omega)⟩
  obtain ⟨a1, a2, a3, a4, a5⟩ := h
  unfold MR
  rw [(ho 113 (by omega)).1, (ho 114 (by omega)).1, (ho 122 (by omega)).1, (ho 123 (by omega)).1, (ho 124 (by omega)).1, (ho 125 (by omega)).2, h13]
  exact ⟨a1, a2, hK, a4, a5⟩
set_option maxRecDepth 100000 in
theorem c_X12_image {l : Launch} {X : CX} {σ : ST} {A : SA} (hM : MR σ A) (hw : wf A) : MJ l X 1 yX12_image cX12_image 1 (some .int) [.ref (ad X 112)] σ (OM σ (F_image A)) := by
  refine MJ_of (own := RX12) [some (.ref (ad X 112))] (by decide) rfl (Nat.le_of_ble_eq_true rfl) rfl ?_
  refine rj_ald0 dX12_image_0 rfl ?_
  refine rj_ic1 dX12_image_1 ?_
  refine rj_ald0 dX12_image_2 rfl ?_
  refine g12_53 dX12_image_3 ?_
  refine rj_V2 (ci := 12) cX12_301 rfl (by decide) (by first | assumption | rfl) dX12_image_6 (c_X12_moveAllT (c := 127) rfl rfl (by decide)) (fitM (by decide) (by decide)) (Nat.le_of_ble_eq_true rfl) ?_
  rintro v υ ⟨rfl, h1, ho1⟩
  simp only [Option.toList, List.nil_append]
  refine rj_ald0 dX12_image_9 rfl ?_
  refine rj_ic1 dX12_image_10 ?_
  refine p12_331 (by first | exact Or.inl rfl | exact Or.inr rfl) dX12_image_11 ?_
  refine rj_ic1 dX12_image_14 ?_
  refine rj_iret dX12_image_15 ?_
  have ho2 : off (fun a => a = 112 ∨ a = 127) σ (ui υ 112 26 1) := (ho1.mono (fun a ha => Or.inr ha)).ui (Or.inl rfl)
  exact ⟨rfl, mr_kept (K := some A.2.1) hM ho2 (by rw [ui_nj (by decide), (ho1 112 (by decide)).1]) (Or.inr ⟨A.2.1, rfl, ui_same _ _ _ _, FM_c hM.1 (fun q hq => by rw [ui_ne (by decide)]; exact h1 q hq)⟩)⟩

set_option maxRecDepth 100000 in
theorem c_X12_undo {l : Launch} {X : CX} {σ : ST} {A : SA} (hM : MR σ A) (hw : wf A) : MJ l X 1 yX12_undo cX12_undo 1 (some .int) [.ref (ad X 112)] σ (OM σ (F_undo A)) := by
  refine MJ_of (own := RX12) [some (.ref (ad X 112))] (by decide) rfl (Nat.le_of_ble_eq_true rfl) rfl ?_
  have hK := hM.2.2.1
  refine rj_ald0 dX12_undo_0 rfl ?_
  refine g12_331 dX12_undo_1 ?_
  refine rj_if_ne (tgt := 14) dX12_undo_4 (by decide) (fun h_4 => ?_) (fun h_4 => ?_)
  · obtain ⟨K, hK1, hK2, hK3⟩ : ∃ K, A.2.2.1 = some K ∧ σ.1 112 26 = 1 ∧ FM (σ.1 127) K := hK.resolve_left (fun q => h_4 q.2)
    have e : F_undo A = (nI K.2.2.length, A.1, K, A.2.2) := by unfold F_undo; rw [hK1]
    refine rj_ald0 dX12_undo_14 rfl ?_
    refine rj_ic0 dX12_undo_15 ?_
    refine rj_ald0 dX12_undo_16 rfl ?_
    refine g12_53 dX12_undo_17 ?_
    refine rj_V2 (ci := 12) cX12_301 rfl (by decide) (by first | assumption | rfl) dX12_undo_20 (c_X12_moveAllF (c := 127) rfl rfl (by decide)) (fitM (by decide) (by decide)) (Nat.le_of_ble_eq_true rfl) ?_
    rintro v υ ⟨rfl, h1, ho1⟩
    simp only [Option.toList, List.nil_append]
    have hM1 := mr_row (F := K) hM (FM_c hK3 h1) ho1 rfl
    refine rj_ald0 dX12_undo_23 rfl ?_
    refine g12_7 dX12_undo_24 ?_
    refine rj_ic1 dX12_undo_27 ?_
    refine rj_iald (by first | assumption | rfl) (vpi (by decide) (by decide)) dX12_undo_28 ?_
    rw [show (1 : Int32).toNatClampNeg = 1 from rfl, hM1.1.1.2.1]
    refine rj_iret dX12_undo_29 ?_
    rw [e]
    exact ⟨rfl, hM1⟩
  · have e : F_undo A = fnd A 3 := by
      rcases hK with ⟨a, b⟩ | ⟨K, a, b, c⟩
      · unfold F_undo; rw [a]
      · rw [b] at h_4; exact absurd h_4 (by decide)
    refine rj_ald0 dX12_undo_7 rfl ?_
    refine rj_ldc kX12_95 dX12_undo_8 ?_
    refine rj_V1 (ci := 12) cX12_68 rfl (by decide) rfl dX12_undo_10 (c_X12_finds (i := 3) hM (by decide) (by decide)) (fitM (by decide) (by decide)) (Nat.le_of_ble_eq_true rfl) ?_
    rintro v υq ⟨rfl, hq⟩
    simp only [Option.toList, List.cons_append, List.nil_append]
    refine rj_iret dX12_undo_13 ?_
    rw [e]
    exact ⟨rfl, hq⟩

set_option maxRecDepth 100000 in
theorem c_X12_tear {l : Launch} {X : CX} {σ : ST} {A : SA} (hM : MR σ A) (hw : wf A) : MJ l X 0 yX12_tear cX12_tear 2 (some .int) [.ref (ad X 112)] σ (OM σ (F_tear A)) := by
  refine MJ_of (own := RX12) [some (.ref (ad X 112)), none] (by decide) rfl (Nat.le_of_ble_eq_true rfl) rfl ?_
  have hK := hM.2.2.1
  have hM1 := mr_kept (K := none) (τ := ui σ 112 26 0) hM (off.rf.ui (Or.inl rfl)) (by rw [ui_nj (by decide)]) (Or.inl ⟨rfl, ui_same _ _ _ _⟩)
  refine rj_ald0 dX12_tear_0 rfl ?_
  refine g12_331 dX12_tear_1 ?_
  refine rj_if_eq (tgt := 11) dX12_tear_4 (by decide) (fun h_4 => ?_) (fun h_4 => ?_)
  · refine rj_ic0 dX12_tear_11 ?_
    refine rj_ist1 dX12_tear_12 (by decide) rfl ?_
    refine rj_ald0 dX12_tear_13 rfl ?_
    refine rj_ic0 dX12_tear_14 ?_
    refine p12_331 (by first | exact Or.inl rfl | exact Or.inr rfl) dX12_tear_15 ?_
    refine rj_ild1 dX12_tear_18 rfl ?_
    refine rj_iret dX12_tear_19 ?_
    have hn : A.2.2.1 = none := by
      rcases hK with ⟨a, b⟩ | ⟨K, a, b, c⟩
      · exact a
      · rw [b] at h_4; exact absurd h_4 (by decide)
    exact ⟨by unfold F_tear; rw [if_pos hn], hM1⟩
  · refine rj_ic1 dX12_tear_7 ?_
    refine rj_goto (tgt := 12) dX12_tear_8 (by decide) ?_
    refine rj_ist1 dX12_tear_12 (by decide) rfl ?_
    refine rj_ald0 dX12_tear_13 rfl ?_
    refine rj_ic0 dX12_tear_14 ?_
    refine p12_331 (by first | exact Or.inl rfl | exact Or.inr rfl) dX12_tear_15 ?_
    refine rj_ild1 dX12_tear_18 rfl ?_
    refine rj_iret dX12_tear_19 ?_
    have hn : ¬ A.2.2.1 = none := fun z => by
      rcases hK with ⟨a, b⟩ | ⟨K, a, b, c⟩
      · exact h_4 b
      · rw [a] at z; cases z
    exact ⟨by unfold F_tear; rw [if_neg hn], hM1⟩

set_option maxRecDepth 100000 in
theorem l_X12_count {l : Launch} {X : CX} {h : Nat} {Q : Option Value → ST → Prop} {σ : ST} {A : SA} {t : Int32} (hh : 2 ≤ h) (hM : MR σ A) (hQ : Q (some (.int (cN A.2.1.2.2))) σ) : ∀ (N i : Nat), A.2.1.2.2.length < i + N → i ≤ A.2.1.2.2.length → RJ (GM l X h Q) X cX12_count 4 (some .int) RX12 52 [some (.ref (ad X 112)), some (.int t), some (.int (cN (A.2.1.2.2.take i))), some (.int (nI i))] [] σ := by
  intro N
  induction N with
  | zero => intro i hN hi; exact absurd hN (by omega)
  | succ N ih =>
    intro i hN hi
    have h1 := hM.1.2.1
    have h8 := hM.1.2.2.2.1
    have hlt : (nI A.2.1.2.2.length).toInt = A.2.1.2.2.length := nI_t (by omega)
    have hit : (nI i).toInt = i := nI_t (by omega)
    refine rj_ild3 dX12_count_52 rfl ?_
    refine rj_ald0 dX12_count_53 rfl ?_
    refine g12_7 dX12_count_54 ?_
    refine rj_ic1 dX12_count_57 ?_
    refine rj_iald (by first | assumption | rfl) (vpi (by decide) (by decide)) dX12_count_58 ?_
    rw [show (1 : Int32).toNatClampNeg = 1 from rfl, h1]
    refine rj_ic_ge (tgt := 76) dX12_count_59 (by decide) (fun h_59 => ?_) (fun h_59 => ?_)
    · refine rj_ild2 dX12_count_76 rfl ?_
      refine rj_iret dX12_count_77 ?_
      rw [show i = A.2.1.2.2.length by omega, List.take_length]
      exact hQ
    · refine rj_ild2 dX12_count_62 rfl ?_
      refine rj_ald0 dX12_count_63 rfl ?_
      refine rj_ild3 dX12_count_64 rfl ?_
      refine rj_V1i (ci := 12) cX12_82 rfl (by decide) (by first | assumption | rfl) dX12_count_65 (c_X12_sizeOfRow hM hit (by omega)) (fitM (by omega) (by decide)) (Nat.le_of_ble_eq_true rfl) ?_
      refine rj_iadd dX12_count_68 ?_
      refine rj_ist2 dX12_count_69 (by decide) rfl ?_
      refine rj_iinc3 (d := 1) dX12_count_70 (by decide) rfl (by decide) ?_
      rw [nI_1]
      refine rj_goto (tgt := 52) dX12_count_73 (by decide) ?_
      have k := ih (i + 1) (by omega) (by omega)
      rw [takeT_snoc (by omega), cN_snoc] at k
      exact k

set_option maxRecDepth 100000 in
theorem c_X12_count0 {l : Launch} {X : CX} {σ : ST} {A : SA} (hM : MR σ A) (hw : wf A) : MJ l X 2 yX12_count cX12_count 4 (some .int) [.ref (ad X 112), .int 0] σ (OM σ (F_count A 0)) := by
  refine MJ_of (own := RX12) [some (.ref (ad X 112)), some (.int 0), none, none] (by decide) rfl (Nat.le_of_ble_eq_true rfl) rfl ?_
  refine rj_ic0 dX12_count_0 ?_
  refine rj_ist2 dX12_count_1 (by decide) rfl ?_
  refine rj_ild1 dX12_count_2 rfl ?_
  · refine rj_tabIn (tgt := 36) dX12_count_3 (by decide) (by decide) rfl (by decide) ?_
    refine rj_ald0 dX12_count_36 rfl ?_
    refine g12_7 dX12_count_37 ?_
    refine rj_ic1 dX12_count_40 ?_
    refine rj_iald (by first | assumption | rfl) (vpi (by decide) (by decide)) dX12_count_41 ?_
    rw [show (1 : Int32).toNatClampNeg = 1 from rfl, hM.1.2.1]
    refine rj_iret dX12_count_42 ?_
    exact ⟨rfl, hM, off.rf⟩

set_option maxRecDepth 100000 in
theorem c_X12_count1 {l : Launch} {X : CX} {σ : ST} {A : SA} (hM : MR σ A) (hw : wf A) : MJ l X 2 yX12_count cX12_count 4 (some .int) [.ref (ad X 112), .int 1] σ (OM σ (F_count A 1)) := by
  refine MJ_of (own := RX12) [some (.ref (ad X 112)), some (.int 1), none, none] (by decide) rfl (Nat.le_of_ble_eq_true rfl) rfl ?_
  refine rj_ic0 dX12_count_0 ?_
  refine rj_ist2 dX12_count_1 (by decide) rfl ?_
  refine rj_ild1 dX12_count_2 rfl ?_
  · refine rj_tabIn (tgt := 43) dX12_count_3 (by decide) (by decide) rfl (by decide) ?_
    refine rj_ald0 dX12_count_43 rfl ?_
    refine g12_7 dX12_count_44 ?_
    refine rj_ic0 dX12_count_47 ?_
    refine rj_iald (by first | assumption | rfl) (vpi (by decide) (by decide)) dX12_count_48 ?_
    rw [show (0 : Int32).toNatClampNeg = 0 from rfl, hM.1.1]
    refine rj_iret dX12_count_49 ?_
    exact ⟨rfl, hM, off.rf⟩

set_option maxRecDepth 100000 in
theorem c_X12_count3 {l : Launch} {X : CX} {σ : ST} {A : SA} (hM : MR σ A) (hw : wf A) : MJ l X 2 yX12_count cX12_count 4 (some .int) [.ref (ad X 112), .int 3] σ (OM σ (F_count A 3)) := by
  refine MJ_of (own := RX12) [some (.ref (ad X 112)), some (.int 3), none, none] (by decide) rfl (Nat.le_of_ble_eq_true rfl) rfl ?_
  refine rj_ic0 dX12_count_0 ?_
  refine rj_ist2 dX12_count_1 (by decide) rfl ?_
  refine rj_ild1 dX12_count_2 rfl ?_
  · refine rj_tabIn (tgt := 78) dX12_count_3 (by decide) (by decide) rfl (by decide) ?_
    refine rj_ald0 dX12_count_78 rfl ?_
    refine g12_219 dX12_count_79 ?_
    rw [hM.2.2.2.1.1]
    refine rj_iret dX12_count_82 ?_
    exact ⟨rfl, hM, off.rf⟩

set_option maxRecDepth 100000 in
theorem c_X12_count4 {l : Launch} {X : CX} {σ : ST} {A : SA} (hM : MR σ A) (hw : wf A) : MJ l X 2 yX12_count cX12_count 4 (some .int) [.ref (ad X 112), .int 4] σ (OM σ (F_count A 4)) := by
  refine MJ_of (own := RX12) [some (.ref (ad X 112)), some (.int 4), none, none] (by decide) rfl (Nat.le_of_ble_eq_true rfl) rfl ?_
  refine rj_ic0 dX12_count_0 ?_
  refine rj_ist2 dX12_count_1 (by decide) rfl ?_
  refine rj_ild1 dX12_count_2 rfl ?_
  · refine rj_tabIn (tgt := 83) dX12_count_3 (by decide) (by decide) rfl (by decide) ?_
    refine rj_ald0 dX12_count_83 rfl ?_
    refine g12_7 dX12_count_84 ?_
    refine rj_ic2 dX12_count_87 ?_
    refine rj_iald (by first | assumption | rfl) (vpi (by decide) (by decide)) dX12_count_88 ?_
    rw [show (2 : Int32).toNatClampNeg = 2 from rfl, hM.1.2.2.1]
    refine rj_iret dX12_count_89 ?_
    exact ⟨rfl, hM, off.rf⟩

set_option maxRecDepth 100000 in
theorem c_X12_count2 {l : Launch} {X : CX} {σ : ST} {A : SA} (hM : MR σ A) (hw : wf A) : MJ l X 2 yX12_count cX12_count 4 (some .int) [.ref (ad X 112), .int 2] σ (OM σ (F_count A 2)) := by
  refine MJ_of (own := RX12) [some (.ref (ad X 112)), some (.int 2), none, none] (by decide) rfl (Nat.le_of_ble_eq_true rfl) rfl ?_
  refine rj_ic0 dX12_count_0 ?_
  refine rj_ist2 dX12_count_1 (by decide) rfl ?_
  refine rj_ild1 dX12_count_2 rfl ?_
  · refine rj_tabIn (tgt := 50) dX12_count_3 (by decide) (by decide) rfl (by decide) ?_
    refine rj_ic0 dX12_count_50 ?_
    refine rj_ist3 dX12_count_51 (by decide) rfl ?_
    exact l_X12_count (by decide) hM ⟨rfl, hM, off.rf⟩ (A.2.1.2.2.length + 1) 0 (by omega) (by omega)

set_option maxRecDepth 100000 in
theorem c_X12_countO {l : Launch} {X : CX} {σ : ST} {A : SA} (hM : MR σ A) (hw : wf A) {i : Int32} (hi : i.toInt < 0 ∨ 4 < i.toInt) : MJ l X 2 yX12_count cX12_count 4 (some .int) [.ref (ad X 112), .int i] σ (OM σ (F_count A i)) := by
  refine MJ_of (own := RX12) [some (.ref (ad X 112)), some (.int i), none, none] (by decide) rfl (Nat.le_of_ble_eq_true rfl) rfl ?_
  have e0 : (0 : Int32).toInt = 0 := by decide
  have e1 : (1 : Int32).toInt = 1 := by decide
  have e2 : (2 : Int32).toInt = 2 := by decide
  have e3 : (3 : Int32).toInt = 3 := by decide
  have e4 : (4 : Int32).toInt = 4 := by decide
  refine rj_ic0 dX12_count_0 ?_
  refine rj_ist2 dX12_count_1 (by decide) rfl ?_
  refine rj_ild1 dX12_count_2 rfl ?_
  · refine rj_tabOut (tgt := 90) dX12_count_3 hi (by decide) ?_
    refine rj_ald0 dX12_count_90 rfl ?_
    refine rj_ldc kX12_59 dX12_count_91 ?_
    refine rj_V1 (ci := 12) cX12_68 rfl (by decide) rfl dX12_count_93 (c_X12_finds (i := 0) hM (by decide) (by decide)) (fitM (by decide) (by decide)) (Nat.le_of_ble_eq_true rfl) ?_
    rintro v υq ⟨rfl, hq⟩
    simp only [Option.toList, List.cons_append, List.nil_append]
    refine rj_iret dX12_count_96 ?_
    have e : F_count A i = fnd A 0 := by unfold F_count; rw [if_neg (fun q => by rw [q] at hi; omega), if_neg (fun q => by rw [q] at hi; omega), if_neg (fun q => by rw [q] at hi; omega), if_neg (fun q => by rw [q] at hi; omega), if_neg (fun q => by rw [q] at hi; omega)]
    rw [e]
    exact ⟨rfl, hq⟩

theorem c_X12_count {l : Launch} {X : CX} {σ : ST} {A : SA} (hM : MR σ A) (hw : wf A) {i : Int32} : MJ l X 2 yX12_count cX12_count 4 (some .int) [.ref (ad X 112), .int i] σ (OM σ (F_count A i)) := by
  by_cases h : i.toInt < 0 ∨ 4 < i.toInt
  · exact c_X12_countO hM hw h
  · have hc : i.toInt = 0 ∨ i.toInt = 1 ∨ i.toInt = 2 ∨ i.toInt = 3 ∨ i.toInt = 4 := by omega
    rcases hc with q | q | q | q | q
    · rw [show i = 0 from i_inj (q.trans (by decide))]; exact c_X12_count0 hM hw
    · rw [show i = 1 from i_inj (q.trans (by decide))]; exact c_X12_count1 hM hw
    · rw [show i = 2 from i_inj (q.trans (by decide))]; exact c_X12_count2 hM hw
    · rw [show i = 3 from i_inj (q.trans (by decide))]; exact c_X12_count3 hM hw
    · rw [show i = 4 from i_inj (q.trans (by decide))]; exact c_X12_count4 hM hw
theorem fdS_s (f : Nat → Int32) (n i : Nat) (a : Int32) : fdS f (n + 1) i a = fdS f n (i + 1) (a + f i) := rfl
set_option maxRecDepth 100000 in
theorem l_X12_status {l : Launch} {X : CX} {h : Nat} {Q : Option Value → ST → Prop} {σ : ST} {t r : Int32} {f : Nat → Int32} (hf : ∀ j, j < 7 → σ.1 114 j = f j) (hY : RJ (GM l X h Q) X cX12_status 4 (some .int) RX12 42 [some (.ref (ad X 112)), some (.int t), some (.int r), some (.int 7)] [] σ) : ∀ (N i : Nat) (a : Int32), 7 < i + N → (i ≤ 7 ∧ fdS f (7 - i) i a = r) → RJ (GM l X h Q) X cX12_status 4 (some .int) RX12 21 [some (.ref (ad X 112)), some (.int t), some (.int a), some (.int (nI i))] [] σ := by
  intro N
  induction N with
  | zero => intro i a hN hi; have := hi.1; exact absurd hN (by omega)
  | succ N ih =>
    intro i a hN hi
    obtain ⟨hi, hr⟩ := hi
    have hit : (nI i).toInt = i := nI_t (by omega)
    have h7 : (7 : Int32).toInt = 7 := by decide
    refine rj_ild3 dX12_status_21 rfl ?_
    refine rj_bipush (v := 7) dX12_status_22 (by decide) ?_
    refine rj_ic_ge (tgt := 42) dX12_status_24 (by decide) (fun h_24 => ?_) (fun h_24 => ?_)
    · rw [show 7 - i = 0 by omega] at hr
      have hr2 : a = r := hr
      rw [hr2, show i = 7 by omega]
      exact hY
    · refine rj_ild2 dX12_status_27 rfl ?_
      refine rj_ald0 dX12_status_28 rfl ?_
      refine g12_13 dX12_status_29 ?_
      refine rj_ild3 dX12_status_32 rfl ?_
      refine rj_iald (by first | assumption | rfl) (vpi (by omega) (by show _ < ((7 : Nat) : Int); omega)) dX12_status_33 ?_
      rw [nI_clamp (by omega), hf i (by omega)]
      refine rj_iadd dX12_status_34 ?_
      refine rj_ist2 dX12_status_35 (by decide) rfl ?_
      refine rj_iinc3 (d := 1) dX12_status_36 (by decide) rfl (by decide) ?_
      rw [nI_1]
      refine rj_goto (tgt := 21) dX12_status_39 (by decide) ?_
      rw [show 7 - i = (7 - (i + 1)) + 1 by omega, fdS_s] at hr
      exact ih (i + 1) _ (by omega) ⟨by omega, hr⟩

set_option maxRecDepth 100000 in
theorem l_X12_statusB {l : Launch} {X : CX} {h : Nat} {Q : Option Value → ST → Prop} {σ : ST} {A : SA} {i : Int32} (hM : MR σ A) (hi : -1 ≤ i.toInt ∧ i.toInt ≤ 6) (hQ : ∀ v τ, OM σ (F_status A i) v τ → Q v τ) :  RJ (GM l X h Q) X cX12_status 4 (some .int) RX12 42 [some (.ref (ad X 112)), some (.int i), some (.int (fdS A.1 7 0 0)), some (.int 7)] [] σ := by
  have hf := hM.2.1
  refine rj_ild1 dX12_status_42 rfl ?_
  refine rj_if_ge (tgt := 50) dX12_status_43 (by decide) (fun h_43 => ?_) (fun h_43 => ?_)
  · refine rj_ald0 dX12_status_50 rfl ?_
    refine g12_13 dX12_status_51 ?_
    refine rj_ild1 dX12_status_54 rfl ?_
    refine rj_if_ge (tgt := 62) dX12_status_55 (by decide) (fun h_55 => ?_) (fun h_55 => ?_)
    · refine rj_ild1 dX12_status_62 rfl ?_
      refine rj_iald (by first | assumption | rfl) (vpi (by omega) (by show _ < ((7 : Nat) : Int); omega)) dX12_status_63 ?_
      refine rj_iret dX12_status_64 ?_
      have e : F_status A i = (A.1 i.toInt.toNat, A) := by unfold F_status; rw [if_neg (by omega), if_pos (by omega)]
      apply hQ
      rw [e]
      exact ⟨by rw [cl_i, hf _ (by omega)], hM, off.rf⟩
    · exfalso; omega
  · refine rj_ild2 dX12_status_46 rfl ?_
    refine rj_goto (tgt := 64) dX12_status_47 (by decide) ?_
    refine rj_iret dX12_status_64 ?_
    have e : F_status A i = (fdS A.1 7 0 0, A) := by unfold F_status; rw [if_neg (by omega), if_neg (by omega)]
    apply hQ
    rw [e]
    exact ⟨rfl, hM, off.rf⟩

set_option maxRecDepth 100000 in
theorem c_X12_status {l : Launch} {X : CX} {σ : ST} {A : SA} (hM : MR σ A) (hw : wf A) {i : Int32} : MJ l X 1 yX12_status cX12_status 4 (some .int) [.ref (ad X 112), .int i] σ (OM σ (F_status A i)) := by
  refine MJ_of (own := RX12) [some (.ref (ad X 112)), some (.int i), none, none] (by decide) rfl (Nat.le_of_ble_eq_true rfl) rfl ?_
  have hm1 : (-1 : Int32).toInt = -1 := by decide
  have h6 : (6 : Int32).toInt = 6 := by decide
  refine rj_ild1 dX12_status_0 rfl ?_
  refine rj_icm1 dX12_status_1 ?_
  refine rj_bipush (v := 6) dX12_status_2 (by decide) ?_
  refine rj_S3i cX12_60 dX12_status_4 c_X12_in (fitM (by decide) (by decide)) (Nat.le_of_ble_eq_true rfl) ?_
  refine rj_if_ne (tgt := 17) dX12_status_7 (by decide) (fun h_7 => ?_) (fun h_7 => ?_)
  · have hb_7 := bz_f h_7
    rw [hm1, h6] at hb_7
    refine rj_ic0 dX12_status_17 ?_
    refine rj_ist2 dX12_status_18 (by decide) rfl ?_
    refine rj_ic0 dX12_status_19 ?_
    refine rj_ist3 dX12_status_20 (by decide) rfl ?_
    exact l_X12_status (r := fdS A.1 7 0 0) hM.2.1 (l_X12_statusB hM hb_7 (fun v τ h => h)) 8 0 0 (by omega) ⟨by omega, rfl⟩
  · have hb_7 := bz_t h_7
    rw [hm1, h6] at hb_7
    refine rj_ald0 dX12_status_10 rfl ?_
    refine rj_ldc kX12_59 dX12_status_11 ?_
    refine rj_V1 (ci := 12) cX12_68 rfl (by decide) rfl dX12_status_13 (c_X12_finds (i := 0) hM (by decide) (by decide)) (fitM (by decide) (by decide)) (Nat.le_of_ble_eq_true rfl) ?_
    rintro v υq ⟨rfl, hq⟩
    simp only [Option.toList, List.cons_append, List.nil_append]
    refine rj_iret dX12_status_16 ?_
    have e : F_status A i = fnd A 0 := by unfold F_status; rw [if_pos (by omega)]
    rw [e]
    exact ⟨rfl, hq⟩

