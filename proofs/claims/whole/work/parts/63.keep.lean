/-! what holds of a state is kept -/
theorem wf_fnd {A : SA} (h : wf A) (i : Nat) : wf (fnd A i).2 := h
theorem wf_wT {A : SA} {t : Int32} {f : Nat → Int32 × SA} (h : wf A) (k : ∀ j, j < A.2.1.2.2.length → wf (f j).2) : wf (wT A t f).2 := by
  unfold wT
  split
  · exact k _ (by omega)
  · exact wf_fnd h 0
theorem wf_wS {A : SA} {t : Int32} {f : Nat → Int32 × SA} (h : wf A) (k : ∀ j, j < 4 → wf (f j).2) : wf (wS A t f).2 := by
  unfold wS
  split
  · exact k _ (by omega)
  · exact wf_fnd h 0
theorem wf_F {A : SA} {F : FA} (h : wf A) (hF : wfF F) : wf (A.1, F, A.2.2) := ⟨hF, h.2⟩
theorem wf_sT {A : SA} {j : Nat} {t : TA} (h : wf A) (ht : wfT A.2.1.1 t) : wf (sT A j t) := by
  refine ⟨⟨h.1.1, h.1.2.1, ?_, fun u hu => ?_⟩, h.2⟩
  · show (A.2.1.2.2.set j t).length ≤ 8
    rw [List.length_set]; exact h.1.2.2.1
  · rcases List.mem_or_eq_of_mem_set hu with z | z
    · exact h.1.2.2.2 u z
    · rw [z]; exact ht
theorem wf_row {A : SA} {j : Nat} {xs : List Int32} (h : wf A) (hj : j < A.2.1.2.2.length) (h1 : xs.length ≤ 12) (h2 : okL A.2.1.1 xs) : wf (sT A j ((fT A j).1, xs)) := wf_sT h ⟨(wf_t h hj).1, (wf_t h hj).2.1, h1, h2⟩
theorem k_ropes {A : SA} {n : Int32} (h : wf A) : wf (F_ropes A n).2 := by
  unfold F_ropes
  split
  · exact h
  · split
    · exact h
    · refine ⟨⟨by show 2 ≤ n.toInt; omega, by show n.toInt ≤ 4; omega, h.1.2.2.1, fun t ht => ?_⟩, h.2⟩
      have : A.2.1.2.2 = [] := List.length_eq_zero_iff.mp (by omega)
      have ht : t ∈ A.2.1.2.2 := ht
      rw [this] at ht
      exact absurd ht (by simp)
theorem k_tie {A : SA} {n : Int32} (h : wf A) : wf (F_tie A n).2 := by
  unfold F_tie
  split
  · rename_i hk
    split
    · refine ⟨⟨h.1.1, h.1.2.1, ?_, fun t ht => ?_⟩, h.2⟩
      · show (A.2.1.2.2 ++ [(n, [])]).length ≤ 8
        rw [List.length_append, List.length_singleton]; omega
      · rcases List.mem_append.mp ht with z | z
        · exact h.1.2.2.2 t z
        · rw [List.mem_singleton.mp z]
          exact ⟨hk.1, hk.2, by simp, fun c hc => absurd hc (by simp)⟩
    · exact h
  · exact h
theorem okL_app {rc c : Int32} {xs : List Int32} (h : okL rc xs) (hc : okc rc c.toInt) : okL rc (xs ++ [c]) := fun d hd => by
  rcases List.mem_append.mp hd with z | z
  · exact h d z
  · rw [List.mem_singleton.mp z]; exact hc
theorem k_add {A : SA} {t c : Int32} (h : wf A) : wf (F_add A t c).2 := by
  refine wf_wT h (fun j hj => ?_)
  split
  · rename_i hc
    split
    · refine wf_row h hj (by rw [List.length_append, List.length_singleton]; omega) (okL_app (wf_t h hj).2.2.2 hc)
    · exact h
  · exact h
theorem k_drop {A : SA} {t : Int32} (h : wf A) : wf (F_drop A t).2 := by
  refine wf_wT h (fun j hj => ?_)
  split
  · exact h
  · have := (wf_t h hj).2.2.1
    exact wf_row h hj (by rw [List.length_take]; omega) (fun c hc => (wf_t h hj).2.2.2 c (List.mem_of_mem_take hc))
theorem k_flip {A : SA} {t i : Int32} (h : wf A) : wf (F_flip A t i).2 := by
  refine wf_wT h (fun j hj => ?_)
  split
  · rename_i hi
    exact wf_row h hj (by rw [List.length_set]; exact (wf_t h hj).2.2.1) (okL_set (wf_t h hj).2.2.2 (okc_ng h.1.2.1 (okL_get (wf_t h hj).2.2.2 (by omega))))
  · exact h
theorem k_of {A : SA} {t i : Int32} (h : wf A) : wf (F_of A t i).2 := by
  refine wf_wT h (fun j hj => ?_)
  repeat' split
  all_goals exact h
theorem k_turn {A : SA} {t k : Int32} (h : wf A) : wf (F_turn A t k).2 := by
  refine wf_wT h (fun j hj => ?_)
  split
  · rename_i hk
    exact wf_sT h ⟨hk.1, hk.2, (wf_t h hj).2.2⟩
  · exact h
theorem k_as {A : SA} {t i : Int32} (h : wf A) : wf (F_as A t i).2 := by
  refine wf_wT h (fun j hj => ?_)
  repeat' split
  all_goals exact h
theorem k_lays {A : SA} {t i : Int32} (h : wf A) : wf (F_lays A t i).2 := by
  refine wf_wT h (fun j hj => ?_)
  repeat' split
  all_goals exact h
theorem k_like {A : SA} {t o : Int32} (h : wf A) : wf (F_like A t o).2 := by
  refine wf_wT h (fun j hj => wf_wT h (fun i hi => ?_))
  exact wf_row h hj (wf_t h hi).2.2.1 (wf_t h hi).2.2.2
theorem k_pull {A : SA} {t : Int32} (h : wf A) : wf (F_pull A t).2 := by
  refine wf_wT h (fun j hj => ?_)
  have h1 := (wf_t h hj).2.2.1
  have h2 := redR_len (fT A j).2
  refine wf_row h hj (by unfold red; rw [List.length_reverse]; omega) (fun c hc => ?_)
  unfold red at hc
  exact (sgs_red h.1.2.1 _ (wf_t h hj).2.2.2).2 c (List.mem_reverse.mp hc)
theorem k_left {A : SA} {t : Int32} (h : wf A) : wf (F_left A t).2 := wf_wT h (fun j hj => h)
theorem k_rest {A : SA} {t i : Int32} (h : wf A) : wf (F_rest A t i).2 := by
  refine wf_wT h (fun j hj => ?_)
  repeat' split
  all_goals exact h
theorem k_slide {A : SA} {t i : Int32} (h : wf A) : wf (F_slide A t i).2 := by
  refine wf_wT h (fun j hj => ?_)
  have hk := (wf_t h hj).2.2.2
  split
  · exact h
  · split
    · rename_i hc
      have := hc.1
      refine wf_row h hj (by rw [msl_len]; exact (wf_t h hj).2.2.1) ?_
      unfold msl
      exact okL_set (okL_set hk (okL_get hk hc.1)) (okL_get hk (by omega))
    · exact h
theorem k_third {A : SA} {t i : Int32} (h : wf A) : wf (F_third A t i).2 := by
  refine wf_wT h (fun j hj => ?_)
  have hk := (wf_t h hj).2.2.2
  split
  · exact h
  · split
    · rename_i hc
      have := hc.1
      refine wf_row h hj (by rw [mth_len]; exact (wf_t h hj).2.2.1) ?_
      unfold mth
      exact okL_set (okL_set (okL_set hk (okL_get hk (by omega))) (okL_get hk (by omega))) (okL_get hk (by omega))
    · exact h
theorem k_moves {A : SA} {t i : Int32} (h : wf A) : wf (F_moves A t i).2 := by
  refine wf_wT h (fun j hj => ?_)
  repeat' split
  all_goals exact h
theorem k_steps {A : SA} {t : Int32} (h : wf A) : wf (F_steps A t).2 := by
  refine wf_wT h (fun j hj => ?_)
  repeat' split
  all_goals exact h
theorem k_ends {A : SA} {t i : Int32} (h : wf A) : wf (F_ends A t i).2 := by
  refine wf_wT h (fun j hj => ?_)
  repeat' split
  all_goals exact h
theorem k_sum {A : SA} {t : Int32} (h : wf A) : wf (F_sum A t).2 := wf_wT h (fun j hj => h)
theorem k_links {A : SA} {t a b : Int32} (h : wf A) : wf (F_links A t a b).2 := by
  refine wf_wT h (fun j hj => ?_)
  repeat' split
  all_goals exact h
theorem k_rings {A : SA} {t : Int32} (h : wf A) : wf (F_rings A t).2 := wf_wT h (fun j hj => h)
theorem k_colours {A : SA} {t i : Int32} (h : wf A) : wf (F_colours A t i).2 := by
  refine wf_wT h (fun j hj => ?_)
  repeat' split
  all_goals exact h
theorem wf_shR {A : SA} (h : wf A) (j : Nat) : ∀ n i, wf (shR A j n i).2
  | 0, _ => h
  | n + 1, i => by
    unfold shR
    split
    · exact wf_shR h j n (i + 1)
    · exact h
theorem k_shows {A : SA} {t : Int32} (h : wf A) : wf (F_shows A t).2 := wf_wT h (fun j hj => wf_shR h j 3 0)
theorem wf_apR {A : SA} (h : wf A) (j i : Nat) : ∀ n q, wf (apR A j i n q).2
  | 0, _ => h
  | n + 1, q => by
    unfold apR
    split
    · exact wf_apR h j i n (q + 1)
    · exact h
theorem k_apart {A : SA} {t o : Int32} (h : wf A) : wf (F_apart A t o).2 := by
  refine wf_wT h (fun j hj => wf_wT h (fun i hi => ?_))
  split
  · split
    · exact wf_apR h j i 3 0
    · exact h
  · exact h
theorem k_same {A : SA} {t o : Int32} (h : wf A) : wf (F_same A t o).2 := wf_wT h (fun j hj => wf_wT h (fun i hi => h))
theorem k_which {A : SA} {t : Int32} (h : wf A) : wf (F_which A t).2 := by
  refine wf_wT h (fun j hj => ?_)
  unfold oF
  split
  all_goals exact h
theorem k_fewest {A : SA} {t : Int32} (h : wf A) : wf (F_fewest A t).2 := by
  refine wf_wT h (fun j hj => ?_)
  repeat' split
  all_goals exact h
theorem k_turned {A : SA} {t : Int32} (h : wf A) : wf (F_turned A t).2 := by
  refine wf_wT h (fun j hj => ?_)
  repeat' split
  all_goals exact h
theorem k_best {A : SA} {t : Int32} (h : wf A) : wf (F_best A t).2 := wf_wT h (fun j hj => h)
theorem k_ways {A : SA} {t i : Int32} (h : wf A) : wf (F_ways A t i).2 := by
  refine wf_wT h (fun j hj => ?_)
  repeat' split
  all_goals exact h
theorem k_seed {A : SA} {v : Int32} (h : wf A) : wf (F_seed A v).2 := h
theorem k_wipe {A : SA} (h : wf A) : wf (F_wipe A).2 := ⟨h.1, h.2.1, ⟨by simp [F_wipe, tpA], fun b hb => absurd hb (by simp [F_wipe, tpA])⟩, h.2.2.2⟩
theorem k_image {A : SA} (h : wf A) : wf (F_image A).2 := ⟨h.1, fun K hK => by rw [← Option.some.inj hK]; exact h.1, h.2.2⟩
theorem k_undo {A : SA} (h : wf A) : wf (F_undo A).2 := by
  unfold F_undo
  split
  · exact h
  · rename_i K hK
    exact ⟨h.2.1 K hK, h.2⟩
theorem k_tear {A : SA} (h : wf A) : wf (F_tear A).2 := ⟨h.1, fun K hK => absurd (show (none : Option FA) = some K from hK) (by simp), h.2.2⟩
theorem k_count {A : SA} {i : Int32} (h : wf A) : wf (F_count A i).2 := by
  unfold F_count
  repeat' split
  all_goals exact h
theorem k_status {A : SA} {i : Int32} (h : wf A) : wf (F_status A i).2 := by
  unfold F_status
  repeat' split
  all_goals exact h
theorem wf_sS {A : SA} {s : Nat} {b : Int32} {xs : List Int64} (h : wf A) (h1 : b = 0 ∨ b = 8 ∨ b = 16 ∨ b = 64) (h2 : xs.length ≤ 40) (h3 : b = 0 → xs = []) : wf (sS A s (b, xs)) := by
  refine ⟨h.1, h.2.1, h.2.2.1, fun p hp => ?_⟩
  show ((if p = s then (b, xs) else A.2.2.2.2 p).1 = 0 ∨ (if p = s then (b, xs) else A.2.2.2.2 p).1 = 8 ∨ (if p = s then (b, xs) else A.2.2.2.2 p).1 = 16 ∨ (if p = s then (b, xs) else A.2.2.2.2 p).1 = 64) ∧ (if p = s then (b, xs) else A.2.2.2.2 p).2.length ≤ 40 ∧ ((if p = s then (b, xs) else A.2.2.2.2 p).1 = 0 → (if p = s then (b, xs) else A.2.2.2.2 p).2 = [])
  by_cases z : p = s
  · rw [if_pos z]; exact ⟨h1, h2, h3⟩
  · rw [if_neg z]; exact h.2.2.2 p hp
theorem k_sheet {A : SA} {s b n : Int32} (h : wf A) : wf (F_sheet A s b n).2 := by
  refine wf_wS h (fun p hp => ?_)
  split
  · rename_i hb
    split
    · exact h
    · split
      · exact h
      · refine wf_sS h hb (by rw [List.length_replicate]; split <;> omega) (fun z => ?_)
        rw [if_pos z]; rfl
  · exact h
theorem k_write {A : SA} {s i : Int32} {v : Int64} (h : wf A) : wf (F_write A s i v).2 := by
  unfold F_write
  split
  · rename_i hs
    split
    · exact h
    · rename_i hb
      have hk := h.2.2.2 s.toInt.toNat (by omega)
      split
      · exact wf_sS h hk.1 (by rw [List.length_set]; exact hk.2.1) (fun z => absurd z hb)
      · exact h
  · exact h
theorem k_copy {A : SA} {s f t o n : Int32} (h : wf A) : wf (F_copy A s f t o n).2 := by
  refine wf_wS h (fun p hp => wf_wS h (fun q hq => ?_))
  have hk := h.2.2.2 q hq
  split
  · exact h
  · rename_i hm
    split
    · split
      · exact wf_sS h hk.1 (by rw [cpL_len]; exact hk.2.1) (fun z => absurd (Or.inr z) hm)
      · exact h
    · exact h
theorem ldR_ok {rc : Int32} {xs : List Int64} (hr : rc.toInt ≤ 4) : ∀ (n i : Nat) (a : List Int32), a.length ≤ 12 → okL rc a → (ldR rc xs n i a).length ≤ 12 ∧ okL rc (ldR rc xs n i a)
  | 0, _, a, h1, h2 => ⟨h1, h2⟩
  | n + 1, i, a, h1, h2 => by
    rw [ldR_s]
    split
    · split
      · rename_i hc
        refine ldR_ok hr n (i + 1) _ (by rw [List.length_append, List.length_singleton]; omega) (okL_app h2 ?_)
        unfold okc
        rw [l_i32 (by omega) (by omega)]
        exact hc
      · exact ⟨h1, h2⟩
    · exact ⟨h1, h2⟩
theorem k_load {A : SA} {s t : Int32} (h : wf A) : wf (F_load A s t).2 := by
  refine wf_wS h (fun p hp => ?_)
  split
  · exact h
  · refine wf_wT h (fun j hj => ?_)
    have := ldR_ok (rc := A.2.1.1) (xs := (shT A p).2) h.1.2.1 (shT A p).2.length 0 [] (by simp) (fun c hc => absurd hc (by simp))
    exact wf_row h hj this.1 this.2
theorem swR_len {b : Int32} {ys : List Int32} : ∀ (n i : Nat) (xs : List Int64), (swR b ys n i xs).length = xs.length
  | 0, _, _ => rfl
  | n + 1, i, xs => by rw [swR_s, swR_len n, List.length_set]
theorem k_show {A : SA} {s t : Int32} (h : wf A) : wf (F_show A s t).2 := by
  refine wf_wS h (fun p hp => ?_)
  have hk := h.2.2.2 p hp
  split
  · exact h
  · rename_i hb
    refine wf_wT h (fun j hj => ?_)
    exact wf_sS h hk.1 (by rw [swR_len]; exact hk.2.1) (fun z => absurd z hb)
theorem k_read {A : SA} {s : Int32} (h : wf A) : wf (F_read A s).2 := by
  refine wf_wS h (fun p hp => ?_)
  repeat' split
  all_goals exact h
