/-! what the constructors leave is what the two sides agree on -/
def A00 : SA := (fun _ => 0, (4, 1, []), none, [], fun _ => (0, []))
theorem rw00 {k : Nat} (h : zr k = true) : Rw sg0 k [] := ⟨by rw [sg0_z h]; rfl, Nat.zero_le _, fun i hi => absurd hi (Nat.not_lt_zero i)⟩
theorem frs00 {k : Nat} (h : ∀ j, j < 8 → zr (tk k j + 1) = true) : FrS sg0 k := fun j hj => ⟨[], rw00 (h j hj)⟩
theorem cr00 : CR sg0 52 A00 := by
  refine ⟨Or.inl rfl, by decide, by decide, fun j _ => by rw [sg0_z (by decide)]; rfl, ?_, frs00 (by decide), frs00 (by decide), Or.inl ⟨rfl, by decide⟩, ?_, ?_, ?_⟩
  · exact ⟨by decide, by decide, by decide, Nat.zero_le _, fun j hj => absurd hj (Nat.not_lt_zero j), frs00 (by decide)⟩
  · exact ⟨by decide, Nat.zero_le _, fun i hi => absurd hi (Nat.not_lt_zero i)⟩
  · have hz : ∀ s, s < 4 → zr (104 + 2 * s) = true := by decide
    exact fun s hs => ⟨by rw [sg0_z (hz s hs)]; rfl, by rw [sg0_z (hz s hs)]; rfl, Nat.zero_le _, fun i hi => absurd hi (Nat.not_lt_zero i)⟩
  · exact ⟨⟨[], rw00 (by decide)⟩, ⟨[], rw00 (by decide)⟩, ⟨[], rw00 (by decide)⟩, [], rw00 (by decide)⟩
theorem mr00 : MR sg0 A00 := by
  refine ⟨⟨by decide, by decide, by decide, Nat.zero_le _, fun t ht => absurd ht (Nat.not_lt_zero t)⟩, fun j _ => by rw [sg0_z (by decide)]; rfl, Or.inl ⟨rfl, by decide⟩, ⟨by decide, Nat.zero_le _, fun i hi => absurd hi (Nat.not_lt_zero i)⟩, fun s hs => ?_⟩
  exact ⟨by rw [sg0_z (by decide)]; rfl, by rw [sg0_z (by decide)]; rfl, Nat.zero_le _, fun i hi => absurd hi (Nat.not_lt_zero i)⟩
theorem wf00 : wf A00 := ⟨⟨by decide, by decide, Nat.zero_le _, fun t ht => (by cases ht)⟩, fun K h => (by cases h), ⟨Nat.zero_le _, fun b hb => (by cases hb)⟩, fun s hs => ⟨Or.inl rfl, Nat.zero_le _, fun _ => rfl⟩⟩
theorem li00 : LI sg0 := ⟨52, A00, cr00, mr00, wf00⟩

