/-! the tape, the image, counts, the text -/
theorem fr_o {σ τ : ST} {P : Nat → Prop} {fb b : Nat} {F : FA} (hb : b = 2 ∨ b = 52 ∨ b = 78) (h : Fr σ b F) (ho : off P σ τ) (hp : ∀ a, P a → a < 2 ∨ (28 ≤ a ∧ a < 52) ∨ 104 ≤ a) : Fr τ b F := h.off ho (fun a ha hc => by have := hp a ha; unfold fairC at hc; omega)
def tpA (A : SA) (bs : List Int32) : SA := (A.1, A.2.1, A.2.2.1, bs, A.2.2.2.2)
theorem cr_tape {σ τ : ST} {fb : Nat} {A : SA} {bs : List Int32} (h : CR σ fb A) (hT : Tp τ 28 bs) (ho : off (rowC 28) σ τ) : CR τ fb (tpA A bs) ∧ off sysP σ τ := by
  obtain ⟨h1, h2, h3, h4, h5, h6, h7, h8, h9, h10, ⟨a, ha⟩, ⟨b, hb⟩, ⟨c, hc⟩, d, hd⟩ := h
  have q : ∀ a, ¬ (a = 28 ∨ a = 29) → ¬ rowC 28 a := fun a ha hb => ha hb
  have qf : ∀ b, b = 2 ∨ b = 52 ∨ b = 78 → ∀ a, rowC 28 a → ¬ fairC b a := fun b hb a ha hc => by unfold rowC at ha; unfold fairC at hc; omega
  refine ⟨⟨h1, by rw [(ho 0 (q 0 (by omega))).1]; exact h2, by rw [(ho 0 (q 0 (by omega))).1]; exact h3, fun j hj => by rw [(ho 1 (q 1 (by omega))).1]; exact h4 j hj, h5.off ho (qf _ (by omega)), h6.off ho (qf _ (by omega)), h7.off ho (qf _ (by omega)), ?_, hT, fun s hs => (h10 s hs).off ho (q _ (by omega)) (q _ (by omega)), ⟨a, ha.off ho (q _ (by omega)) (q _ (by omega))⟩, ⟨b, hb.off ho (q _ (by omega)) (q _ (by omega))⟩, ⟨c, hc.off ho (q _ (by omega)) (q _ (by omega))⟩, d, hd.off ho (q _ (by omega)) (q _ (by omega))⟩, ho.mono (fun a ha => by unfold rowC at ha; unfold sysP; omega)⟩
  rcases h8 with ⟨a, b⟩ | ⟨K, a, b, c⟩
  · exact Or.inl ⟨a, by rw [(ho 0 (q 0 (by omega))).1]; exact b⟩
  · exact Or.inr ⟨K, a, by rw [(ho 0 (q 0 (by omega))).1]; exact b, c.off ho (qf _ (by omega))⟩
/-- what is kept changes: cell 0's last field and the kept fair -/
theorem cr_kept {σ τ : ST} {P : Nat → Prop} {fb : Nat} {A : SA} {K : Option FA} (h : CR σ fb A) (ho : off P σ τ) (hp : ∀ a, P a → a = 0 ∨ fairC 2 a) (h12 : τ.1 0 11 = σ.1 0 11) (h13 : τ.1 0 12 = σ.1 0 12) (hS : FrS τ 2) (hK : (K = none ∧ τ.1 0 13 = 0) ∨ ∃ F, K = some F ∧ τ.1 0 13 = 1 ∧ Fr τ 2 F) : CR τ fb (A.1, A.2.1, K, A.2.2.2) ∧ off sysP σ τ := by
  obtain ⟨h1, h2, h3, h4, h5, h6, h7, h8, h9, h10, ⟨a, ha⟩, ⟨b, hb⟩, ⟨c, hc⟩, d, hd⟩ := h
  have q : ∀ a, a = 1 ∨ 28 ≤ a → ¬ P a := fun a ha hb => by have := hp a hb; unfold fairC at this; omega
  have qf : ∀ b, b = 52 ∨ b = 78 → ∀ a, P a → ¬ fairC b a := fun b hb a ha hc => by have := hp a ha; unfold fairC at this hc; omega
  exact ⟨⟨h1, by rw [h12]; exact h2, by rw [h13]; exact h3, fun j hj => by rw [(ho 1 (q 1 (by omega))).1]; exact h4 j hj, h5.off ho (qf _ (by omega)), h6.off ho (qf _ (by omega)), hS, hK, h9.off ho (q _ (by omega)) (q _ (by omega)), fun s hs => (h10 s hs).off ho (q _ (by omega)) (q _ (by omega)), ⟨a, ha.off ho (q _ (by omega)) (q _ (by omega))⟩, ⟨b, hb.off ho (q _ (by omega)) (q _ (by omega))⟩, ⟨c, hc.off ho (q _ (by omega)) (q _ (by omega))⟩, d, hd.off ho (q _ (by omega)) (q _ (by omega))⟩, ho.mono (fun a ha => by have := hp a ha; unfold fairC at this; unfold sysP; omega)⟩
def fdb (x : Int32) (k : Nat) : Int32 := (x.toUInt32 >>> (((8 : Int32) * nI k).toUInt32 &&& Int32.toUInt32 31)).toInt32 &&& 255
def fdL (x : Int32) : Nat → List Int32
  | 0 => []
  | k + 1 => fdb x k :: fdL x k
theorem fdL_len (x : Int32) (n : Nat) : (fdL x n).length = n := by induction n with
  | zero => rfl
  | succ n ih => simp [fdL, ih]
def F_feed (A : SA) (x n : Int32) : Int32 × SA := if n.toInt < 1 ∨ 4 < n.toInt then fnd A 0 else if 120 < A.2.2.2.1.length + n.toInt then fnd A 1 else (nI (A.2.2.2.1.length + n.toInt.toNat), tpA A (A.2.2.2.1 ++ fdL x n.toInt.toNat))
def F_wipe (A : SA) : Int32 × SA := (nI A.2.2.2.1.length, tpA A [])
def F_image (A : SA) : Int32 × SA := (1, A.1, A.2.1, some A.2.1, A.2.2.2)
def F_undo (A : SA) : Int32 × SA := match A.2.2.1 with
  | none => fnd A 3
  | some K => (nI K.2.2.length, A.1, K, A.2.2)
def F_tear (A : SA) : Int32 × SA := (if A.2.2.1 = none then 0 else 1, A.1, A.2.1, none, A.2.2.2)
def F_count (A : SA) (i : Int32) : Int32 × SA := if i = 0 then (nI A.2.1.2.2.length, A) else if i = 1 then (A.2.1.1, A) else if i = 2 then (cN A.2.1.2.2, A) else if i = 3 then (nI A.2.2.2.1.length, A) else if i = 4 then (A.2.1.2.1, A) else fnd A 0
def fdS (f : Nat → Int32) : Nat → Nat → Int32 → Int32
  | 0, _, a => a
  | n + 1, i, a => fdS f n (i + 1) (a + f i)
def F_status (A : SA) (i : Int32) : Int32 × SA := if i.toInt < -1 ∨ 7 ≤ i.toInt then fnd A 0 else if 0 ≤ i.toInt then (A.1 i.toInt.toNat, A) else (fdS A.1 7 0 0, A)
set_option maxRecDepth 100000 in
theorem c_X11_wipe {l : Launch} {X : CX} {σ : ST} {fb : Nat} {A : SA} (hC : CR σ fb A) (hw : wf A) : MJ l X 1 yX11_wipe cX11_wipe 2 (some .int) [.ref (ad X 0)] σ (OP σ (F_wipe A)) := by
  refine MJ_of (own := RX11) [some (.ref (ad X 0)), none] (by decide) rfl (Nat.le_of_ble_eq_true rfl) rfl ?_
  have hT := hC.2.2.2.2.2.2.2.2.1
  have hts := hT.1
  have htl := hT.2.1
  refine rj_ald0 dX11_wipe_0 rfl ?_
  refine g11_23 dX11_wipe_1 ?_
  refine g11_254 (by first | assumption | rfl) dX11_wipe_4 ?_
  refine rj_ist1 dX11_wipe_7 (by decide) rfl ?_
  refine rj_ald0 dX11_wipe_8 rfl ?_
  refine g11_23 dX11_wipe_9 ?_
  refine rj_V0 (ci := 6) cX11_256 rfl (by decide) (by first | assumption | rfl) dX11_wipe_12 (c_X6_empty (k := 28) rfl) (fitM (by decide) (by decide)) (Nat.le_of_ble_eq_true rfl) ?_
  rintro v τ ⟨rfl, hT1, ho1⟩
  simp only [Option.toList, List.nil_append]
  refine rj_ild1 dX11_wipe_15 rfl ?_
  refine rj_iret dX11_wipe_16 ?_
  exact ⟨by rw [nI_of_toInt hts]; rfl, cr_ex (cr_tape hC hT1 ho1)⟩

set_option maxRecDepth 100000 in
theorem l_X11_feed {l : Launch} {X : CX} {h : Nat} {Q : Option Value → ST → Prop} {σ : ST} {fb : Nat} {x n : Int32} {A : SA} (hh : 1 ≤ h) {bs : List Int32} (hQ : ∀ v τ, OP σ (nI bs.length, tpA A bs) v τ → Q v τ) : ∀ (m : Nat) (cs2 : List Int32) (τ : ST), cs2.length + m ≤ 120 → m ≤ 4 → CR τ fb (tpA A cs2) → off sysP σ τ → cs2 ++ fdL x m = bs → RJ (GM l X h Q) X cX11_feed 4 (some .int) RX11 42 [some (.ref (ad X 0)), some (.int x), some (.int n), some (.int (nI m - 1))] [] τ := by
  intro m
  induction m with
  | zero =>
    intro cs2 τ h120 h4 hC ho hb
    have hT := hC.2.2.2.2.2.2.2.2.1
    simp only [fdL, List.append_nil] at hb
    subst hb
    have hm1 : (nI 0 - 1).toInt = -1 := by decide
    refine rj_ild3 dX11_feed_42 rfl ?_
    refine rj_if_lt (tgt := 69) dX11_feed_43 (by decide) (fun h_43 => ?_) (fun h_43 => ?_)
    · refine rj_ald0 dX11_feed_69 rfl ?_
      refine g11_23 dX11_feed_70 ?_
      refine g11_254 (by first | assumption | rfl) dX11_feed_73 ?_
      refine rj_iret dX11_feed_76 ?_
      exact hQ _ _ ⟨by rw [nI_of_toInt hT.1]; rfl, ⟨fb, hC⟩, ho⟩
    · exfalso; omega
  | succ m ih =>
    intro cs2 τ h120 h4 hC ho hb
    have hT := hC.2.2.2.2.2.2.2.2.1
    have hnm : nI (m + 1) - 1 = nI m := by
      apply i_inj
      rw [i_sub (by rw [nI_t (by omega), t1]; omega) (by rw [nI_t (by omega), t1]; omega), nI_t (by omega), nI_t (by omega), t1]
      omega
    rw [hnm]
    have hmt : (nI m).toInt = m := nI_t (by omega)
    refine rj_ild3 dX11_feed_42 rfl ?_
    refine rj_if_lt (tgt := 69) dX11_feed_43 (by decide) (fun h_43 => ?_) (fun h_43 => ?_)
    · exfalso; omega
    · refine rj_ald0 dX11_feed_46 rfl ?_
      refine g11_23 dX11_feed_47 ?_
      refine rj_ild1 dX11_feed_50 rfl ?_
      refine rj_bipush (v := 8) dX11_feed_51 (by decide) ?_
      refine rj_ild3 dX11_feed_53 rfl ?_
      refine rj_imul dX11_feed_54 ?_
      refine rj_iushr dX11_feed_55 ?_
      refine rj_sipush (v := 255) dX11_feed_56 (by decide) ?_
      refine rj_iand dX11_feed_59 ?_
      refine rj_V1 (ci := 6) cX11_255 rfl (by decide) (by first | assumption | rfl) dX11_feed_60 (c_X6_append (k := 28) rfl hT (by show cs2.length < 120; omega)) (fitM (by omega) (by decide)) (Nat.le_of_ble_eq_true rfl) ?_
      rintro v υ ⟨rfl, hT1, ho1⟩
      simp only [Option.toList, List.nil_append]
      have hC1 := cr_tape hC hT1 ho1
      refine rj_iinc3 (d := (-1)) dX11_feed_63 (by decide) rfl (by decide) ?_
      rw [show nI m + -1 = nI m - 1 from (Int32.sub_eq_add_neg _ _).symm]
      refine rj_goto (tgt := 42) dX11_feed_66 (by decide) ?_
      exact ih (cs2 ++ [fdb x m]) _ (by simp; omega) (by omega) hC1.1 (ho.tr hC1.2) (by rw [List.append_assoc]; exact hb)

set_option maxRecDepth 100000 in
theorem c_X11_feed {l : Launch} {X : CX} {σ : ST} {fb : Nat} {A : SA} (hC : CR σ fb A) (hw : wf A) {x n : Int32} : MJ l X 1 yX11_feed cX11_feed 4 (some .int) [.ref (ad X 0), .int x, .int n] σ (OP σ (F_feed A x n)) := by
  refine MJ_of (own := RX11) [some (.ref (ad X 0)), some (.int x), some (.int n), none] (by decide) rfl (Nat.le_of_ble_eq_true rfl) rfl ?_
  have hT := hC.2.2.2.2.2.2.2.2.1
  have hts := hT.1
  have htl := hT.2.1
  have h1 : (1 : Int32).toInt = 1 := by decide
  have h4 : (4 : Int32).toInt = 4 := by decide
  have h120 : (120 : Int32).toInt = 120 := by decide
  refine rj_ild2 dX11_feed_0 rfl ?_
  refine rj_ic1 dX11_feed_1 ?_
  refine rj_ic_lt (tgt := 10) dX11_feed_2 (by decide) (fun h_2 => ?_) (fun h_2 => ?_)
  · refine rj_ald0 dX11_feed_10 rfl ?_
    refine rj_ldc kX11_87 dX11_feed_11 ?_
    refine rj_V1 (ci := 11) cX11_88 rfl (by decide) rfl dX11_feed_13 (c_X11_found (i := 0) hC (by decide) (by decide)) (fitM (by decide) (by decide)) (Nat.le_of_ble_eq_true rfl) ?_
    rintro v υq ⟨rfl, hq⟩
    simp only [Option.toList, List.cons_append, List.nil_append]
    refine rj_iret dX11_feed_16 ?_
    have e : F_feed A x n = fnd A 0 := by unfold F_feed; rw [if_pos (by omega)]
    rw [e]
    exact ⟨rfl, hq⟩
  · refine rj_ild2 dX11_feed_5 rfl ?_
    refine rj_ic4 dX11_feed_6 ?_
    refine rj_ic_le (tgt := 17) dX11_feed_7 (by decide) (fun h_7 => ?_) (fun h_7 => ?_)
    · have hsum : (σ.1 28 1 + n).toInt = A.2.2.2.1.length + n.toInt := by rw [i_add (by omega) (by omega), hts]
      refine rj_ald0 dX11_feed_17 rfl ?_
      refine g11_23 dX11_feed_18 ?_
      refine g11_254 (by first | assumption | rfl) dX11_feed_21 ?_
      refine rj_ild2 dX11_feed_24 rfl ?_
      refine rj_iadd dX11_feed_25 ?_
      refine rj_bipush (v := 120) dX11_feed_26 (by decide) ?_
      refine rj_ic_le (tgt := 38) dX11_feed_28 (by decide) (fun h_28 => ?_) (fun h_28 => ?_)
      · refine rj_ild2 dX11_feed_38 rfl ?_
        refine rj_ic1 dX11_feed_39 ?_
        refine rj_isub dX11_feed_40 ?_
        refine rj_ist3 dX11_feed_41 (by decide) rfl ?_
        rw [show n - 1 = nI n.toInt.toNat - 1 by rw [← i_nI (by omega)]]
        have e : F_feed A x n = (nI (A.2.2.2.1 ++ fdL x n.toInt.toNat).length, tpA A (A.2.2.2.1 ++ fdL x n.toInt.toNat)) := by unfold F_feed; rw [if_neg (by omega), if_neg (by omega), List.length_append, fdL_len]
        rw [e]
        exact l_X11_feed (A := A) (by decide) (fun v τ h => h) n.toInt.toNat A.2.2.2.1 _ (by omega) (by omega) hC off.rf rfl
      · refine rj_ald0 dX11_feed_31 rfl ?_
        refine rj_ldc kX11_108 dX11_feed_32 ?_
        refine rj_V1 (ci := 11) cX11_88 rfl (by decide) rfl dX11_feed_34 (c_X11_found (i := 1) hC (by decide) (by decide)) (fitM (by decide) (by decide)) (Nat.le_of_ble_eq_true rfl) ?_
        rintro v υq ⟨rfl, hq⟩
        simp only [Option.toList, List.cons_append, List.nil_append]
        refine rj_iret dX11_feed_37 ?_
        have e : F_feed A x n = fnd A 1 := by unfold F_feed; rw [if_neg (by omega), if_pos (by omega)]
        rw [e]
        exact ⟨rfl, hq⟩
    · refine rj_ald0 dX11_feed_10 rfl ?_
      refine rj_ldc kX11_87 dX11_feed_11 ?_
      refine rj_V1 (ci := 11) cX11_88 rfl (by decide) rfl dX11_feed_13 (c_X11_found (i := 0) hC (by decide) (by decide)) (fitM (by decide) (by decide)) (Nat.le_of_ble_eq_true rfl) ?_
      rintro v υq ⟨rfl, hq⟩
      simp only [Option.toList, List.cons_append, List.nil_append]
      refine rj_iret dX11_feed_16 ?_
      have e : F_feed A x n = fnd A 0 := by unfold F_feed; rw [if_pos (by omega)]
      rw [e]
      exact ⟨rfl, hq⟩

set_option maxRecDepth 100000 in
theorem c_X11_image {l : Launch} {X : CX} {σ : ST} {fb : Nat} {A : SA} (hC : CR σ fb A) (hw : wf A) : MJ l X 4 yX11_image cX11_image 1 (some .int) [.ref (ad X 0)] σ (OP σ (F_image A)) := by
  refine MJ_of (own := RX11) [some (.ref (ad X 0))] (by decide) rfl (Nat.le_of_ble_eq_true rfl) rfl ?_
  have hk := cr_k hC
  have hF := hC.2.2.2.2.1
  refine rj_ald0 dX11_image_0 rfl ?_
  refine g11_16 dX11_image_1 ?_
  refine rj_ald0 dX11_image_4 rfl ?_
  refine g11_76 dX11_image_5 ?_
  rw [cr_f hC]
  refine rj_V1 (ci := 1) cX11_259 rfl (by decide) (by first | assumption | rfl) dX11_image_8 (c_X1_take (k := 2) rfl hk (by rcases hC.1 with rfl | rfl <;> decide) hF hC.2.2.2.2.2.2.1) (fitM (by decide) (by decide)) (Nat.le_of_ble_eq_true rfl) ?_
  rintro v τ ⟨rfl, hF1, ho1⟩
  simp only [Option.toList, List.nil_append]
  refine rj_ald0 dX11_image_11 rfl ?_
  refine rj_ic1 dX11_image_12 ?_
  refine p11_82 (by first | exact Or.inl rfl | exact Or.inr rfl) dX11_image_13 ?_
  refine rj_ic1 dX11_image_16 ?_
  refine rj_iret dX11_image_17 ?_
  have ho2 : off (fun a => a = 0 ∨ fairC 2 a) σ (ui τ 0 13 1) := (ho1.mono (fun a ha => Or.inr ha)).ui (Or.inl rfl)
  have hz := ho1 0 (by unfold fairC; omega)
  have hoz : off (fun a => a = 0) τ (ui τ 0 13 1) := off.rf.ui rfl
  have hF2 : Fr (ui τ 0 13 1) 2 A.2.1 := hF1.off hoz (fun a ha hb => by rw [show a = 0 from ha] at hb; unfold fairC at hb; omega)
  exact ⟨rfl, cr_ex (cr_kept hC ho2 (fun a ha => ha) (by rw [ui_nj (by decide), hz.1]) (by rw [ui_nj (by decide), hz.1]) hF2.2.2.2.2.2 (Or.inr ⟨A.2.1, rfl, ui_same _ _ _ _, hF2⟩))⟩

set_option maxRecDepth 100000 in
theorem c_X11_undo {l : Launch} {X : CX} {σ : ST} {fb : Nat} {A : SA} (hC : CR σ fb A) (hw : wf A) : MJ l X 4 yX11_undo cX11_undo 1 (some .int) [.ref (ad X 0)] σ (OP σ (F_undo A)) := by
  refine MJ_of (own := RX11) [some (.ref (ad X 0))] (by decide) rfl (Nat.le_of_ble_eq_true rfl) rfl ?_
  have hk := cr_k hC
  have hF := hC.2.2.2.2.1
  have hK := hC.2.2.2.2.2.2.2.1
  refine rj_ald0 dX11_undo_0 rfl ?_
  refine g11_82 dX11_undo_1 ?_
  refine rj_if_ne (tgt := 14) dX11_undo_4 (by decide) (fun h_4 => ?_) (fun h_4 => ?_)
  · obtain ⟨K, hK1, hK2, hK3⟩ : ∃ K, A.2.2.1 = some K ∧ σ.1 0 13 = 1 ∧ Fr σ 2 K := hK.resolve_left (fun q => h_4 q.2)
    have e : F_undo A = (nI K.2.2.length, A.1, K, A.2.2) := by unfold F_undo; rw [hK1]
    refine rj_ald0 dX11_undo_14 rfl ?_
    refine g11_76 dX11_undo_15 ?_
    rw [cr_f hC]
    refine rj_ald0 dX11_undo_18 rfl ?_
    refine g11_16 dX11_undo_19 ?_
    refine rj_V1 (ci := 1) cX11_259 rfl (by decide) (by first | assumption | rfl) dX11_undo_22 (c_X1_take (k1 := 2) hk rfl (by rcases hC.1 with rfl | rfl <;> decide) hK3 hF.2.2.2.2.2) (fitM (by decide) (by decide)) (Nat.le_of_ble_eq_true rfl) ?_
    rintro v τ ⟨rfl, hF1, ho1⟩
    simp only [Option.toList, List.nil_append]
    have hC1 := cr_fair hC hF1 ho1
    refine rj_ald0 dX11_undo_25 rfl ?_
    refine g11_76 dX11_undo_26 ?_
    rw [cr_f hC1.1]
    refine g11_92 (by first | assumption | rfl) dX11_undo_29 ?_
    refine rj_iret dX11_undo_32 ?_
    rw [e]
    exact ⟨by rw [nI_of_toInt hF1.1], cr_ex hC1⟩
  · have e : F_undo A = fnd A 3 := by
      rcases hK with ⟨a, b⟩ | ⟨K, a, b, c⟩
      · unfold F_undo; rw [a]
      · rw [b] at h_4; exact absurd h_4 (by decide)
    refine rj_ald0 dX11_undo_7 rfl ?_
    refine rj_ldc kX11_132 dX11_undo_8 ?_
    refine rj_V1 (ci := 11) cX11_88 rfl (by decide) rfl dX11_undo_10 (c_X11_found (i := 3) hC (by decide) (by decide)) (fitM (by decide) (by decide)) (Nat.le_of_ble_eq_true rfl) ?_
    rintro v υq ⟨rfl, hq⟩
    simp only [Option.toList, List.cons_append, List.nil_append]
    refine rj_iret dX11_undo_13 ?_
    rw [e]
    exact ⟨rfl, hq⟩

set_option maxRecDepth 100000 in
theorem c_X11_tear {l : Launch} {X : CX} {σ : ST} {fb : Nat} {A : SA} (hC : CR σ fb A) (hw : wf A) : MJ l X 1 yX11_tear cX11_tear 2 (some .int) [.ref (ad X 0)] σ (OP σ (F_tear A)) := by
  refine MJ_of (own := RX11) [some (.ref (ad X 0)), none] (by decide) rfl (Nat.le_of_ble_eq_true rfl) rfl ?_
  have hK := hC.2.2.2.2.2.2.2.1
  have hoz : off (fun a => a = 0) σ (ui σ 0 13 0) := off.rf.ui rfl
  have hC1 := cr_kept (K := none) hC hoz (fun a ha => Or.inl ha) (by rw [ui_nj (by decide)]) (by rw [ui_nj (by decide)]) (hC.2.2.2.2.2.2.1.off hoz (fun a ha hb => by rw [show a = 0 from ha] at hb; unfold fairC at hb; omega)) (Or.inl ⟨rfl, ui_same _ _ _ _⟩)
  refine rj_ald0 dX11_tear_0 rfl ?_
  refine g11_82 dX11_tear_1 ?_
  refine rj_if_eq (tgt := 11) dX11_tear_4 (by decide) (fun h_4 => ?_) (fun h_4 => ?_)
  · refine rj_ic0 dX11_tear_11 ?_
    refine rj_ist1 dX11_tear_12 (by decide) rfl ?_
    refine rj_ald0 dX11_tear_13 rfl ?_
    refine rj_ic0 dX11_tear_14 ?_
    refine p11_82 (by first | exact Or.inl rfl | exact Or.inr rfl) dX11_tear_15 ?_
    refine rj_ild1 dX11_tear_18 rfl ?_
    refine rj_iret dX11_tear_19 ?_
    have hn : A.2.2.1 = none := by
      rcases hK with ⟨a, b⟩ | ⟨K, a, b, c⟩
      · exact a
      · rw [b] at h_4; exact absurd h_4 (by decide)
    exact ⟨by unfold F_tear; rw [if_pos hn], cr_ex hC1⟩
  · refine rj_ic1 dX11_tear_7 ?_
    refine rj_goto (tgt := 12) dX11_tear_8 (by decide) ?_
    refine rj_ist1 dX11_tear_12 (by decide) rfl ?_
    refine rj_ald0 dX11_tear_13 rfl ?_
    refine rj_ic0 dX11_tear_14 ?_
    refine p11_82 (by first | exact Or.inl rfl | exact Or.inr rfl) dX11_tear_15 ?_
    refine rj_ild1 dX11_tear_18 rfl ?_
    refine rj_iret dX11_tear_19 ?_
    have hn : ¬ A.2.2.1 = none := fun z => by
      rcases hK with ⟨a, b⟩ | ⟨K, a, b, c⟩
      · exact h_4 b
      · rw [a] at z; cases z
    exact ⟨by unfold F_tear; rw [if_neg hn], cr_ex hC1⟩

set_option maxRecDepth 100000 in
theorem c_X11_count0 {l : Launch} {X : CX} {σ : ST} {fb : Nat} {A : SA} (hC : CR σ fb A) (hw : wf A) : MJ l X 2 yX11_count cX11_count 2 (some .int) [.ref (ad X 0), .int 0] σ (OP σ (F_count A 0)) := by
  refine MJ_of (own := RX11) [some (.ref (ad X 0)), some (.int 0)] (by decide) rfl (Nat.le_of_ble_eq_true rfl) rfl ?_
  have hk := cr_k hC
  have hF := hC.2.2.2.2.1
  have hT := hC.2.2.2.2.2.2.2.2.1
  have hts := hT.1
  have htl := hT.2.1
  refine rj_ild1 dX11_count_0 rfl ?_
  · refine rj_tabIn (tgt := 36) dX11_count_1 (by decide) (by decide) rfl (by decide) ?_
    refine rj_ald0 dX11_count_36 rfl ?_
    refine g11_76 dX11_count_37 ?_
    rw [cr_f hC]
    refine g11_92 (by first | assumption | rfl) dX11_count_40 ?_
    refine rj_iret dX11_count_43 ?_
    exact ⟨by rw [nI_of_toInt hF.1]; rfl, cr_same hC⟩

set_option maxRecDepth 100000 in
theorem c_X11_count1 {l : Launch} {X : CX} {σ : ST} {fb : Nat} {A : SA} (hC : CR σ fb A) (hw : wf A) : MJ l X 2 yX11_count cX11_count 2 (some .int) [.ref (ad X 0), .int 1] σ (OP σ (F_count A 1)) := by
  refine MJ_of (own := RX11) [some (.ref (ad X 0)), some (.int 1)] (by decide) rfl (Nat.le_of_ble_eq_true rfl) rfl ?_
  have hk := cr_k hC
  have hF := hC.2.2.2.2.1
  have hT := hC.2.2.2.2.2.2.2.2.1
  have hts := hT.1
  have htl := hT.2.1
  refine rj_ild1 dX11_count_0 rfl ?_
  · refine rj_tabIn (tgt := 44) dX11_count_1 (by decide) (by decide) rfl (by decide) ?_
    refine rj_ald0 dX11_count_44 rfl ?_
    refine g11_76 dX11_count_45 ?_
    rw [cr_f hC]
    refine g11_97 (by first | assumption | rfl) dX11_count_48 ?_
    refine rj_iret dX11_count_51 ?_
    exact ⟨by rw [hF.2.1]; rfl, cr_same hC⟩

set_option maxRecDepth 100000 in
theorem c_X11_count2 {l : Launch} {X : CX} {σ : ST} {fb : Nat} {A : SA} (hC : CR σ fb A) (hw : wf A) : MJ l X 2 yX11_count cX11_count 2 (some .int) [.ref (ad X 0), .int 2] σ (OP σ (F_count A 2)) := by
  refine MJ_of (own := RX11) [some (.ref (ad X 0)), some (.int 2)] (by decide) rfl (Nat.le_of_ble_eq_true rfl) rfl ?_
  have hk := cr_k hC
  have hF := hC.2.2.2.2.1
  have hT := hC.2.2.2.2.2.2.2.2.1
  have hts := hT.1
  have htl := hT.2.1
  refine rj_ild1 dX11_count_0 rfl ?_
  · refine rj_tabIn (tgt := 52) dX11_count_1 (by decide) (by decide) rfl (by decide) ?_
    refine rj_ald0 dX11_count_52 rfl ?_
    refine g11_76 dX11_count_53 ?_
    rw [cr_f hC]
    refine rj_V0i (ci := 1) cX11_316 rfl (by decide) (by first | assumption | rfl) dX11_count_56 (c_X1_crossingCount hk hF) (fitM (by decide) (by decide)) (Nat.le_of_ble_eq_true rfl) ?_
    refine rj_iret dX11_count_59 ?_
    exact ⟨rfl, cr_same hC⟩

set_option maxRecDepth 100000 in
theorem c_X11_count3 {l : Launch} {X : CX} {σ : ST} {fb : Nat} {A : SA} (hC : CR σ fb A) (hw : wf A) : MJ l X 2 yX11_count cX11_count 2 (some .int) [.ref (ad X 0), .int 3] σ (OP σ (F_count A 3)) := by
  refine MJ_of (own := RX11) [some (.ref (ad X 0)), some (.int 3)] (by decide) rfl (Nat.le_of_ble_eq_true rfl) rfl ?_
  have hk := cr_k hC
  have hF := hC.2.2.2.2.1
  have hT := hC.2.2.2.2.2.2.2.2.1
  have hts := hT.1
  have htl := hT.2.1
  refine rj_ild1 dX11_count_0 rfl ?_
  · refine rj_tabIn (tgt := 60) dX11_count_1 (by decide) (by decide) rfl (by decide) ?_
    refine rj_ald0 dX11_count_60 rfl ?_
    refine g11_23 dX11_count_61 ?_
    refine g11_254 (by first | assumption | rfl) dX11_count_64 ?_
    refine rj_iret dX11_count_67 ?_
    exact ⟨by rw [nI_of_toInt hts]; rfl, cr_same hC⟩

set_option maxRecDepth 100000 in
theorem c_X11_count4 {l : Launch} {X : CX} {σ : ST} {fb : Nat} {A : SA} (hC : CR σ fb A) (hw : wf A) : MJ l X 2 yX11_count cX11_count 2 (some .int) [.ref (ad X 0), .int 4] σ (OP σ (F_count A 4)) := by
  refine MJ_of (own := RX11) [some (.ref (ad X 0)), some (.int 4)] (by decide) rfl (Nat.le_of_ble_eq_true rfl) rfl ?_
  have hk := cr_k hC
  have hF := hC.2.2.2.2.1
  have hT := hC.2.2.2.2.2.2.2.2.1
  have hts := hT.1
  have htl := hT.2.1
  refine rj_ild1 dX11_count_0 rfl ?_
  · refine rj_tabIn (tgt := 68) dX11_count_1 (by decide) (by decide) rfl (by decide) ?_
    refine rj_ald0 dX11_count_68 rfl ?_
    refine g11_76 dX11_count_69 ?_
    rw [cr_f hC]
    refine g11_251 (by first | assumption | rfl) dX11_count_72 ?_
    refine rj_iret dX11_count_75 ?_
    exact ⟨by rw [hF.2.2.1]; rfl, cr_same hC⟩

set_option maxRecDepth 100000 in
theorem c_X11_countO {l : Launch} {X : CX} {σ : ST} {fb : Nat} {A : SA} (hC : CR σ fb A) (hw : wf A) {i : Int32} (hi : i.toInt < 0 ∨ 4 < i.toInt) : MJ l X 2 yX11_count cX11_count 2 (some .int) [.ref (ad X 0), .int i] σ (OP σ (F_count A i)) := by
  refine MJ_of (own := RX11) [some (.ref (ad X 0)), some (.int i)] (by decide) rfl (Nat.le_of_ble_eq_true rfl) rfl ?_
  have e0 : (0 : Int32).toInt = 0 := by decide
  have e1 : (1 : Int32).toInt = 1 := by decide
  have e2 : (2 : Int32).toInt = 2 := by decide
  have e3 : (3 : Int32).toInt = 3 := by decide
  have e4 : (4 : Int32).toInt = 4 := by decide
  refine rj_ild1 dX11_count_0 rfl ?_
  · refine rj_tabOut (tgt := 76) dX11_count_1 hi (by decide) ?_
    refine rj_ald0 dX11_count_76 rfl ?_
    refine rj_ldc kX11_87 dX11_count_77 ?_
    refine rj_V1 (ci := 11) cX11_88 rfl (by decide) rfl dX11_count_79 (c_X11_found (i := 0) hC (by decide) (by decide)) (fitM (by decide) (by decide)) (Nat.le_of_ble_eq_true rfl) ?_
    rintro v υq ⟨rfl, hq⟩
    simp only [Option.toList, List.cons_append, List.nil_append]
    refine rj_iret dX11_count_82 ?_
    have e : F_count A i = fnd A 0 := by unfold F_count; rw [if_neg (fun q => by rw [q] at hi; omega), if_neg (fun q => by rw [q] at hi; omega), if_neg (fun q => by rw [q] at hi; omega), if_neg (fun q => by rw [q] at hi; omega), if_neg (fun q => by rw [q] at hi; omega)]
    rw [e]
    exact ⟨rfl, hq⟩

theorem c_X11_count {l : Launch} {X : CX} {σ : ST} {fb : Nat} {A : SA} (hC : CR σ fb A) (hw : wf A) {i : Int32} : MJ l X 2 yX11_count cX11_count 2 (some .int) [.ref (ad X 0), .int i] σ (OP σ (F_count A i)) := by
  by_cases h : i.toInt < 0 ∨ 4 < i.toInt
  · exact c_X11_countO hC hw h
  · have h5 : i.toInt = 0 ∨ i.toInt = 1 ∨ i.toInt = 2 ∨ i.toInt = 3 ∨ i.toInt = 4 := by omega
    rcases h5 with q | q | q | q | q
    · rw [show i = 0 from i_inj (q.trans (by decide))]; exact c_X11_count0 hC hw
    · rw [show i = 1 from i_inj (q.trans (by decide))]; exact c_X11_count1 hC hw
    · rw [show i = 2 from i_inj (q.trans (by decide))]; exact c_X11_count2 hC hw
    · rw [show i = 3 from i_inj (q.trans (by decide))]; exact c_X11_count3 hC hw
    · rw [show i = 4 from i_inj (q.trans (by decide))]; exact c_X11_count4 hC hw
set_option maxRecDepth 100000 in
theorem l_X11_status {l : Launch} {X : CX} {h : Nat} {Q : Option Value → ST → Prop} {σ : ST} {t : Int32} {f : Nat → Int32} (hf : ∀ j, j < 7 → σ.1 1 j = f j) : ∀ (N i : Nat) (a : Int32) (v6 : Option Value), 7 < i + N → (i ≤ 7 ∧ Q (some (.int (fdS f (7 - i) i a))) σ) → RJ (GM l X h Q) X cX11_status 7 (some .int) RX11 46 [some (.ref (ad X 0)), some (.int t), some (.int a), some (.ref (ad X 1)), some (.int (nI (ln 1))), some (.int (nI i)), v6] [] σ := by
  intro N
  induction N with
  | zero => intro i a v6 hN hi; have := hi.1; exact absurd hN (by omega)
  | succ N ih =>
    intro i a v6 hN hi
    obtain ⟨hi, hQ⟩ := hi
    have hit : (nI i).toInt = i := nI_t (by omega)
    have h7 : (nI (ln 1)).toInt = 7 := by decide
    refine rj_ild dX11_status_46 rfl ?_
    refine rj_ild dX11_status_48 rfl ?_
    refine rj_ic_ge (tgt := 70) dX11_status_50 (by decide) (fun h_50 => ?_) (fun h_50 => ?_)
    · refine rj_ild2 dX11_status_70 rfl ?_
      refine rj_iret dX11_status_71 ?_
      rw [show 7 - i = 0 by omega] at hQ
      exact hQ
    · rw [show 7 - i = (7 - (i + 1)) + 1 by omega] at hQ
      unfold fdS at hQ
      refine rj_ald3 dX11_status_53 rfl ?_
      refine rj_ild dX11_status_54 rfl ?_
      refine rj_iald (by first | assumption | rfl) (vpi (by omega) (by show _ < ((7 : Nat) : Int); omega)) dX11_status_56 ?_
      rw [nI_clamp (by omega), hf i (by omega)]
      refine rj_ist6w dX11_status_57 (by decide) rfl ?_
      refine rj_ild2 dX11_status_59 rfl ?_
      refine rj_ild dX11_status_60 rfl ?_
      refine rj_iadd dX11_status_62 ?_
      refine rj_ist2 dX11_status_63 (by decide) rfl ?_
      refine rj_iinc5 (d := 1) dX11_status_64 (by decide) rfl (by decide) ?_
      rw [nI_1]
      refine rj_goto (tgt := 46) dX11_status_67 (by decide) ?_
      exact ih (i + 1) _ _ (by omega) ⟨by omega, hQ⟩

set_option maxRecDepth 100000 in
theorem c_X11_status {l : Launch} {X : CX} {σ : ST} {fb : Nat} {A : SA} (hC : CR σ fb A) (hw : wf A) {i : Int32} : MJ l X 1 yX11_status cX11_status 7 (some .int) [.ref (ad X 0), .int i] σ (OP σ (F_status A i)) := by
  refine MJ_of (own := RX11) [some (.ref (ad X 0)), some (.int i), none, none, none, none, none] (by decide) rfl (Nat.le_of_ble_eq_true rfl) rfl ?_
  have hm1 : (-1 : Int32).toInt = -1 := by decide
  have h7 : (nI (ln 1)).toInt = 7 := by decide
  have hf := hC.2.2.2.1
  refine rj_ild1 dX11_status_0 rfl ?_
  refine rj_icm1 dX11_status_1 ?_
  refine rj_ic_lt (tgt := 14) dX11_status_2 (by decide) (fun h_2 => ?_) (fun h_2 => ?_)
  · refine rj_ald0 dX11_status_14 rfl ?_
    refine rj_ldc kX11_87 dX11_status_15 ?_
    refine rj_V1 (ci := 11) cX11_88 rfl (by decide) rfl dX11_status_17 (c_X11_found (i := 0) hC (by decide) (by decide)) (fitM (by decide) (by decide)) (Nat.le_of_ble_eq_true rfl) ?_
    rintro v υq ⟨rfl, hq⟩
    simp only [Option.toList, List.cons_append, List.nil_append]
    refine rj_iret dX11_status_20 ?_
    have e : F_status A i = fnd A 0 := by unfold F_status; rw [if_pos (by omega)]
    rw [e]
    exact ⟨rfl, hq⟩
  · refine rj_ild1 dX11_status_5 rfl ?_
    refine rj_ald0 dX11_status_6 rfl ?_
    refine g11_9 dX11_status_7 ?_
    refine rj_alen (by first | assumption | rfl) dX11_status_10 ?_
    refine rj_ic_lt (tgt := 21) dX11_status_11 (by decide) (fun h_11 => ?_) (fun h_11 => ?_)
    · refine rj_ild1 dX11_status_21 rfl ?_
      refine rj_if_lt (tgt := 32) dX11_status_22 (by decide) (fun h_22 => ?_) (fun h_22 => ?_)
      · refine rj_ic0 dX11_status_32 ?_
        refine rj_ist2 dX11_status_33 (by decide) rfl ?_
        refine rj_ald0 dX11_status_34 rfl ?_
        refine g11_9 dX11_status_35 ?_
        refine rj_ast3 dX11_status_38 (by decide) rfl ?_
        refine rj_ald3 dX11_status_39 rfl ?_
        refine rj_alen (by first | assumption | rfl) dX11_status_40 ?_
        refine rj_ist4w dX11_status_41 (by decide) rfl ?_
        refine rj_ic0 dX11_status_43 ?_
        refine rj_ist5w dX11_status_44 (by decide) rfl ?_
        have e : F_status A i = (fdS A.1 7 0 0, A) := by unfold F_status; rw [if_neg (by omega), if_neg (by omega)]
        exact l_X11_status hf 8 0 0 _ (by omega) ⟨by omega, by rw [e]; exact ⟨rfl, cr_same hC⟩⟩
      · refine rj_ald0 dX11_status_25 rfl ?_
        refine g11_9 dX11_status_26 ?_
        refine rj_ild1 dX11_status_29 rfl ?_
        refine rj_iald (by first | assumption | rfl) (vpi (by omega) (by show _ < ((7 : Nat) : Int); omega)) dX11_status_30 ?_
        refine rj_iret dX11_status_31 ?_
        have e : F_status A i = (A.1 i.toInt.toNat, A) := by unfold F_status; rw [if_neg (by omega), if_pos (by omega)]
        rw [e]
        exact ⟨by rw [cl_i, hf _ (by omega)], cr_same hC⟩
    · refine rj_ald0 dX11_status_14 rfl ?_
      refine rj_ldc kX11_87 dX11_status_15 ?_
      refine rj_V1 (ci := 11) cX11_88 rfl (by decide) rfl dX11_status_17 (c_X11_found (i := 0) hC (by decide) (by decide)) (fitM (by decide) (by decide)) (Nat.le_of_ble_eq_true rfl) ?_
      rintro v υq ⟨rfl, hq⟩
      simp only [Option.toList, List.cons_append, List.nil_append]
      refine rj_iret dX11_status_20 ?_
      have e : F_status A i = fnd A 0 := by unfold F_status; rw [if_pos (by omega)]
      rw [e]
      exact ⟨rfl, hq⟩

