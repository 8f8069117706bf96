/-! what the cells of the program stand for -/
abbrev SA : Type := (Nat → Int32) × FA × Option FA × List Int32 × (Nat → Int32 × List Int64)
def scr (σ : ST) : Prop := (∃ xs, Rw σ 33 xs) ∧ (∃ xs, Rw σ 35 xs) ∧ (∃ xs, Rw σ 48 xs) ∧ ∃ xs, Rw σ 50 xs
def CR (σ : ST) (fb : Nat) (A : SA) : Prop :=
  (fb = 52 ∨ fb = 78) ∧ σ.1 0 11 = nI fb ∧ σ.1 0 12 = nI (130 - fb) ∧ (∀ j, j < 7 → σ.1 1 j = A.1 j) ∧ Fr σ fb A.2.1 ∧ FrS σ (130 - fb) ∧ FrS σ 2 ∧
  ((A.2.2.1 = none ∧ σ.1 0 13 = 0) ∨ ∃ K, A.2.2.1 = some K ∧ σ.1 0 13 = 1 ∧ Fr σ 2 K) ∧ Tp σ 28 A.2.2.2.1 ∧ (∀ s, s < 4 → Sh σ (104 + 2 * s) (A.2.2.2.2 s).1 (A.2.2.2.2 s).2) ∧ scr σ
def sysP : Nat → Prop := fun a => a < 112
def scrP : Nat → Prop := fun a => 30 ≤ a ∧ a < 52
def OP (σ : ST) (r : Int32 × SA) : Option Value → ST → Prop := fun v τ => v = some (.int r.1) ∧ (∃ fb, CR τ fb r.2) ∧ off sysP σ τ
theorem OP.tr {σ τ υ : ST} {r : Int32 × SA} {v : Option Value} (h : OP τ r v υ) (ho : off sysP σ τ) : OP σ r v υ := ⟨h.1, h.2.1, ho.tr h.2.2⟩
theorem cr_k {σ : ST} {fb : Nat} {A : SA} (h : CR σ fb A) : kd fb = 1 := by rcases h.1 with rfl | rfl <;> rfl
theorem cr_kd {σ : ST} {fb : Nat} {A : SA} (h : CR σ fb A) : kd (130 - fb) = 1 := by rcases h.1 with rfl | rfl <;> rfl
theorem cr_f {σ : ST} {fb : Nat} {A : SA} (h : CR σ fb A) : (σ.1 0 11).toNatClampNeg = fb := by
  rw [h.2.1]; rcases h.1 with rfl | rfl <;> rfl
theorem cr_d {σ : ST} {fb : Nat} {A : SA} (h : CR σ fb A) : (σ.1 0 12).toNatClampNeg = 130 - fb := by
  rw [h.2.2.1]; rcases h.1 with rfl | rfl <;> rfl
/-- the fair changes -/
theorem cr_fair {σ τ : ST} {fb : Nat} {A : SA} {F : FA} (h : CR σ fb A) (hF : Fr τ fb F) (ho : off (fairC fb) σ τ) : CR τ fb (A.1, F, A.2.2) ∧ off sysP σ τ := by
  obtain ⟨h1, h2, h3, h4, h5, h6, h7, h8, h9, h10, s1, s2, s3, s4⟩ := h
  have q : ∀ a, a < 30 ∨ (30 ≤ a ∧ a < 52) ∨ (104 ≤ a) → ¬ fairC fb a := fun a ha hb => by unfold fairC at hb; rcases h1 with rfl | rfl <;> omega
  have q2 : ∀ a, fairC fb a → ¬ fairC 2 a := fun a ha hb => q a (by unfold fairC at hb; omega) ha
  refine ⟨⟨h1, by rw [(ho 0 (q 0 (by omega))).1]; exact h2, by rw [(ho 0 (q 0 (by omega))).1]; exact h3, fun j hj => by rw [(ho 1 (q 1 (by omega))).1]; exact h4 j hj, hF, h6.off ho (fun a ha hb => ?_), h7.off ho q2, ?_, h9.off ho (q _ (by omega)) (q _ (by omega)), fun s hs => (h10 s hs).off ho (q _ (by omega)) (q _ (by omega)), ?_, ?_, ?_, ?_⟩, ho.mono (fun a ha => ?_)⟩
  · unfold fairC at ha hb; rcases h1 with rfl | rfl <;> omega
  · rcases h8 with ⟨a, b⟩ | ⟨K, a, b, c⟩
    · exact Or.inl ⟨a, by rw [(ho 0 (q 0 (by omega))).1]; exact b⟩
    · exact Or.inr ⟨K, a, by rw [(ho 0 (q 0 (by omega))).1]; exact b, c.off ho q2⟩
  · obtain ⟨xs, hx⟩ := s1; exact ⟨xs, hx.off ho (q _ (by omega)) (q _ (by omega))⟩
  · obtain ⟨xs, hx⟩ := s2; exact ⟨xs, hx.off ho (q _ (by omega)) (q _ (by omega))⟩
  · obtain ⟨xs, hx⟩ := s3; exact ⟨xs, hx.off ho (q _ (by omega)) (q _ (by omega))⟩
  · obtain ⟨xs, hx⟩ := s4; exact ⟨xs, hx.off ho (q _ (by omega)) (q _ (by omega))⟩
  · unfold fairC at ha; unfold sysP; rcases h1 with rfl | rfl <;> omega
/-- only what is scratched on changes -/
theorem cr_scr {σ τ : ST} {fb : Nat} {A : SA} (h : CR σ fb A) (ho : off scrP σ τ) (hs : scr τ) : CR τ fb A ∧ off sysP σ τ := by
  obtain ⟨h1, h2, h3, h4, h5, h6, h7, h8, h9, h10, -⟩ := h
  have q : ∀ a, a < 30 ∨ 52 ≤ a → ¬ scrP a := fun a ha hb => by unfold scrP at hb; omega
  have qf : ∀ b, b = 2 ∨ b = 52 ∨ b = 78 → ∀ a, scrP a → ¬ fairC b a := fun b hb a ha hc => by unfold scrP at ha; unfold fairC at hc; omega
  refine ⟨⟨h1, by rw [(ho 0 (q 0 (by omega))).1]; exact h2, by rw [(ho 0 (q 0 (by omega))).1]; exact h3, fun j hj => by rw [(ho 1 (q 1 (by omega))).1]; exact h4 j hj, h5.off ho (qf _ (by omega)), h6.off ho (qf _ (by omega)), h7.off ho (qf _ (by omega)), ?_, h9.off ho (q _ (by omega)) (q _ (by omega)), fun s hs => (h10 s hs).off ho (q _ (by omega)) (q _ (by omega)), hs⟩, ho.mono (fun a ha => by unfold scrP at ha; unfold sysP; omega)⟩
  rcases h8 with ⟨a, b⟩ | ⟨K, a, b, c⟩
  · exact Or.inl ⟨a, by rw [(ho 0 (q 0 (by omega))).1]; exact b⟩
  · exact Or.inr ⟨K, a, by rw [(ho 0 (q 0 (by omega))).1]; exact b, c.off ho (qf _ (by omega))⟩
/-- a row to scratch on has changed -/
theorem cr_row {σ τ : ST} {fb k : Nat} {A : SA} {xs : List Int32} (h : CR σ fb A) (hk : k = 33 ∨ k = 35 ∨ k = 48 ∨ k = 50) (hx : Rw τ k xs) (ho : off (rowC k) σ τ) : CR τ fb A ∧ off sysP σ τ := by
  obtain ⟨s1, s2, s3, s4⟩ := h.2.2.2.2.2.2.2.2.2.2
  refine cr_scr h (ho.mono (fun a ha => by unfold rowC at ha; unfold scrP; omega)) ⟨?_, ?_, ?_, ?_⟩
  · by_cases e : k = 33
    · subst e; exact ⟨xs, hx⟩
    · obtain ⟨ys, hy⟩ := s1; exact ⟨ys, hy.off ho (by unfold rowC; omega) (by unfold rowC; omega)⟩
  · by_cases e : k = 35
    · subst e; exact ⟨xs, hx⟩
    · obtain ⟨ys, hy⟩ := s2; exact ⟨ys, hy.off ho (by unfold rowC; omega) (by unfold rowC; omega)⟩
  · by_cases e : k = 48
    · subst e; exact ⟨xs, hx⟩
    · obtain ⟨ys, hy⟩ := s3; exact ⟨ys, hy.off ho (by unfold rowC; omega) (by unfold rowC; omega)⟩
  · by_cases e : k = 50
    · subst e; exact ⟨xs, hx⟩
    · obtain ⟨ys, hy⟩ := s4; exact ⟨ys, hy.off ho (by unfold rowC; omega) (by unfold rowC; omega)⟩
/-- cells that hold no row to scratch on -/
theorem cr_oth {σ τ : ST} {P : Nat → Prop} {fb : Nat} {A : SA} (h : CR σ fb A) (ho : off P σ τ) (hp : ∀ a, P a → (30 ≤ a ∧ a < 33) ∨ (37 ≤ a ∧ a < 48)) : CR τ fb A ∧ off sysP σ τ := by
  have q : ∀ a, a = 33 ∨ a = 34 ∨ a = 35 ∨ a = 36 ∨ (48 ≤ a ∧ a < 52) → ¬ P a := fun a ha hb => by have := hp a hb; omega
  obtain ⟨⟨a, ha⟩, ⟨b, hb⟩, ⟨c, hc⟩, d, hd⟩ := h.2.2.2.2.2.2.2.2.2.2
  exact cr_scr h (ho.mono (fun a ha => by have := hp a ha; unfold scrP; omega)) ⟨⟨a, ha.off ho (q _ (by omega)) (q _ (by omega))⟩, ⟨b, hb.off ho (q _ (by omega)) (q _ (by omega))⟩, ⟨c, hc.off ho (q _ (by omega)) (q _ (by omega))⟩, d, hd.off ho (q _ (by omega)) (q _ (by omega))⟩
/-! findings -/
def fc (i : Nat) : Int32 := -1000000001 - nI i
def fnd (A : SA) (i : Nat) : Int32 × SA := (fc i, upd A.1 i (A.1 i + 1), A.2)
theorem fc_w : ∀ i, i < 7 → (-1000000001 - fc i).toInt = i ∧ (-1000000001 - fc i).toNatClampNeg = i := by decide +kernel
set_option maxRecDepth 100000 in
theorem c_X11_found {l : Launch} {X : CX} {σ : ST} {fb i : Nat} {A : SA} {x : Int32} (hC : CR σ fb A) (hi : i < 7) (hx : x = fc i) : MJ l X 0 yX11_found cX11_found 3 (some .int) [.ref (ad X 0), .int x] σ (OP σ (fnd A i)) := by
  refine MJ_of (own := RX11) [some (.ref (ad X 0)), some (.int x), none] (by decide) rfl (Nat.le_of_ble_eq_true rfl) rfl ?_
  subst hx
  have hw := fc_w i hi
  have h7 : (nI (ln 1)).toInt = 7 := by decide
  refine rj_ldc kX11_87 dX11_found_0 ?_
  refine rj_ild1 dX11_found_2 rfl ?_
  refine rj_isub dX11_found_3 ?_
  refine rj_ist2 dX11_found_4 (by decide) rfl ?_
  refine rj_ild2 dX11_found_5 rfl ?_
  refine rj_if_lt (tgt := 28) dX11_found_6 (by decide) (fun h_6 => ?_) (fun h_6 => ?_)
  · exfalso; omega
  · refine rj_ild2 dX11_found_9 rfl ?_
    refine rj_ald0 dX11_found_10 rfl ?_
    refine g11_9 dX11_found_11 ?_
    refine rj_alen (by first | assumption | rfl) dX11_found_14 ?_
    refine rj_ic_ge (tgt := 28) dX11_found_15 (by decide) (fun h_15 => ?_) (fun h_15 => ?_)
    · exfalso; omega
    · refine rj_ald0 dX11_found_18 rfl ?_
      refine g11_9 dX11_found_19 ?_
      refine rj_ild2 dX11_found_22 rfl ?_
      refine rj_dup2 dX11_found_23 rfl rfl ?_
      refine rj_iald (by first | assumption | rfl) (vpi (by omega) (by show _ < ((7 : Nat) : Int); omega)) dX11_found_24 ?_
      refine rj_ic1 dX11_found_25 ?_
      refine rj_iadd dX11_found_26 ?_
      refine rj_iast (by first | assumption | rfl) (vpi (by omega) (by show _ < ((7 : Nat) : Int); omega)) dX11_found_27 ?_
      refine rj_ild1 dX11_found_28 rfl ?_
      refine rj_iret dX11_found_29 ?_
      rw [hw.2]
      obtain ⟨h1, h2, h3, h4, h5, h6, h7, h8, h9, h10, ⟨a, ha⟩, ⟨b, hb⟩, ⟨c, hc⟩, d, hd⟩ := hC
      have ho : off (fun a => a = 1) σ (ui σ 1 i (σ.1 1 i + 1)) := off.rf.ui rfl
      have qf : ∀ b, 2 ≤ b → ∀ a, a = 1 → ¬ fairC b a := fun b hb a ha hc => by unfold fairC at hc; omega
      refine ⟨rfl, ⟨fb, h1, by rw [ui_ne (by decide)]; exact h2, by rw [ui_ne (by decide)]; exact h3, fun j hj => ?_, h5.off ho (qf _ (by omega)), h6.off ho (qf _ (by omega)), h7.off ho (qf _ (by omega)), ?_, h9.off ho (by omega) (by omega), fun s hs => (h10 s hs).off ho (by omega) (by omega), ⟨a, ha.off ho (by omega) (by omega)⟩, ⟨b, hb.off ho (by omega) (by omega)⟩, ⟨c, hc.off ho (by omega) (by omega)⟩, d, hd.off ho (by omega) (by omega)⟩, ho.mono (fun a ha => by rw [ha]; unfold sysP; omega)⟩
      · rw [ui_at, h4 i hi]
        show _ = upd A.1 i (A.1 i + 1) j
        unfold upd
        by_cases e : j = i
        · rw [if_pos ⟨rfl, e⟩, if_pos e]
        · rw [if_neg (fun z => e z.2), if_neg e]; exact h4 j hj
      · rcases h8 with ⟨a, b⟩ | ⟨K, a, b, c⟩
        · exact Or.inl ⟨a, by rw [ui_ne (by decide)]; exact b⟩
        · exact Or.inr ⟨K, a, by rw [ui_ne (by decide)]; exact b, c.off ho (qf _ (by omega))⟩

