/-! bits of sets -/
theorem bt_q : ∀ a, a < 64 → ∀ b, b < 64 → ∀ i, i < 12 → (((nI (64 * a + b) >>> (nI i &&& 31)) &&& 1 = 1) ↔ (64 * a + b) / 2 ^ i % 2 = 1) := by decide +kernel
theorem bt_i {S i : Nat} (hS : S < 4096) (hi : i < 12) : ((nI S >>> (nI i &&& 31)) &&& 1 = 1) ↔ bitf S i = true := by
  have := bt_q (S / 64) (by omega) (S % 64) (by omega) i hi
  rw [show 64 * (S / 64) + S % 64 = S by omega] at this
  rw [this]
  unfold bitf
  exact ⟨fun h => decide_eq_true h, fun h => of_decide_eq_true h⟩
theorem sh_i : ∀ i, i < 13 → ((1 : Int32) <<< (nI i &&& 31)) = nI (2 ^ i) := by decide +kernel
theorem bt_1 : ∀ i, i < 12 → ∀ q, q < 12 → (bitf (2 ^ i) q = true ↔ q = i) := by decide +kernel
/-- how many are in a set -/
def onN : Nat → Int32 → Nat
  | 0, _ => 0
  | n + 1, x => if x = 0 then 0 else onN n (x &&& (x - 1)) + 1
def onS : Nat → Int32 → Bool
  | 0, x => decide (x = 0)
  | n + 1, x => if x = 0 then true else onS n (x &&& (x - 1))
theorem on_q : ∀ a, a < 64 → ∀ b, b < 64 → (onS 12 (nI (64 * a + b)) = true ∧ kyS (64 * a + b) = 4096 * onN 12 (nI (64 * a + b)) + (64 * a + b)) := by decide +kernel
theorem on_i {S : Nat} (hS : S < 4096) : onS 12 (nI S) = true ∧ kyS S = 4096 * onN 12 (nI S) + S := by
  have := on_q (S / 64) (by omega) (S % 64) (by omega)
  rw [show 64 * (S / 64) + S % 64 = S by omega] at this
  exact this
theorem onN_le : ∀ (n : Nat) (x : Int32), onN n x ≤ n
  | 0, _ => Nat.le_refl _
  | n + 1, x => by
    unfold onN
    split
    · omega
    · have := onN_le n (x &&& (x - 1)); omega
