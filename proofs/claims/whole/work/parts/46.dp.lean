/-! crossings turned -/
def fx (xs : List Int32) (s : Nat → Bool) (i : Nat) : Int32 := if s i = true then -(xs.getD i 0) else xs.getD i 0
def sgm (xs : List Int32) (s : Nat → Bool) : Nat → Nat → List Int32
  | _, 0 => []
  | f, m + 1 => fx xs s f :: sgm xs s (f + 1) m
def cst (s : Nat → Bool) : Nat → Nat → Nat
  | _, 0 => 0
  | f, m + 1 => (if s f = true then 4096 + 2 ^ f else 0) + cst s (f + 1) m
theorem sgm_len {xs : List Int32} {s : Nat → Bool} : ∀ (f m : Nat), (sgm xs s f m).length = m
  | _, 0 => rfl
  | f, m + 1 => by show (sgm xs s (f + 1) m).length + 1 = m + 1; rw [sgm_len (f + 1) m]
theorem sgm_app {xs : List Int32} {s : Nat → Bool} : ∀ (f a b : Nat), sgm xs s f (a + b) = sgm xs s f a ++ sgm xs s (f + a) b
  | f, 0, b => by rw [Nat.zero_add, Nat.add_zero]; rfl
  | f, a + 1, b => by
    rw [show a + 1 + b = (a + b) + 1 by omega]
    show fx xs s f :: sgm xs s (f + 1) (a + b) = fx xs s f :: (sgm xs s (f + 1) a ++ sgm xs s (f + (a + 1)) b)
    rw [sgm_app (f + 1) a b, show f + 1 + a = f + (a + 1) by omega]
theorem cst_app {s : Nat → Bool} : ∀ (f a b : Nat), cst s f (a + b) = cst s f a + cst s (f + a) b
  | f, 0, b => by rw [Nat.zero_add, Nat.add_zero]; show _ = 0 + _; omega
  | f, a + 1, b => by
    rw [show a + 1 + b = (a + b) + 1 by omega]
    show _ + cst s (f + 1) (a + b) = (_ + cst s (f + 1) a) + cst s (f + (a + 1)) b
    rw [cst_app (f + 1) a b, show f + 1 + a = f + (a + 1) by omega]
    omega
theorem sgm_c {xs : List Int32} {s r : Nat → Bool} : ∀ (f m : Nat), (∀ i, f ≤ i → i < f + m → s i = r i) → sgm xs s f m = sgm xs r f m
  | _, 0, _ => rfl
  | f, m + 1, h => by
    show fx xs s f :: sgm xs s (f + 1) m = fx xs r f :: sgm xs r (f + 1) m
    rw [sgm_c (f + 1) m (fun i h1 h2 => h i (by omega) (by omega)), show fx xs s f = fx xs r f by unfold fx; rw [h f (by omega) (by omega)]]
theorem cst_c {s r : Nat → Bool} : ∀ (f m : Nat), (∀ i, f ≤ i → i < f + m → s i = r i) → cst s f m = cst r f m
  | _, 0, _ => rfl
  | f, m + 1, h => by
    show (if s f = true then 4096 + 2 ^ f else 0) + cst s (f + 1) m = (if r f = true then 4096 + 2 ^ f else 0) + cst r (f + 1) m
    rw [cst_c (f + 1) m (fun i h1 h2 => h i (by omega) (by omega)), h f (by omega) (by omega)]
theorem cst_0 {s : Nat → Bool} : ∀ (f m : Nat), (∀ i, f ≤ i → i < f + m → s i = false) → cst s f m = 0
  | _, 0, _ => rfl
  | f, m + 1, h => by
    show (if s f = true then 4096 + 2 ^ f else 0) + cst s (f + 1) m = 0
    rw [cst_0 (f + 1) m (fun i h1 h2 => h i (by omega) (by omega)), h f (by omega) (by omega)]
    rfl
theorem sgm_get {xs : List Int32} {s : Nat → Bool} : ∀ (m f q : Nat), q < m → (sgm xs s f m).getD q 0 = fx xs s (f + q)
  | 0, _, _, h => absurd h (by omega)
  | m + 1, f, 0, _ => rfl
  | m + 1, f, q + 1, h => by
    show (sgm xs s (f + 1) m).getD q 0 = _
    rw [sgm_get m (f + 1) q (by omega), show f + 1 + q = f + (q + 1) by omega]
theorem sgm_cut {xs : List Int32} {s : Nat → Bool} {f m : Nat} {u v : List Int32} {x : Int32} (h : sgm xs s f m = u ++ x :: v) : u.length < m ∧ u = sgm xs s f u.length ∧ x = fx xs s (f + u.length) ∧ v = sgm xs s (f + u.length + 1) (m - u.length - 1) := by
  have hl := congrArg List.length h
  rw [sgm_len, List.length_append, List.length_cons] at hl
  have hm : m = u.length + ((m - u.length - 1) + 1) := by omega
  rw [hm, sgm_app] at h
  have h2 := List.append_inj h (by rw [sgm_len])
  have h3 : fx xs s (f + u.length) :: sgm xs s (f + u.length + 1) (m - u.length - 1) = x :: v := h2.2
  exact ⟨by omega, h2.1.symm, (List.cons.inj h3).1.symm, (List.cons.inj h3).2.symm⟩
theorem fmin_mem {g : Nat → Nat} : ∀ (l : List Nat) (m : Nat) {j : Nat}, j ∈ l → l.foldl (fun m j => min m (g j)) m ≤ g j
  | [], _, _, h => absurd h (by simp)
  | a :: l, m, j, h => by
    rcases List.mem_cons.mp h with z | z
    · rw [z]; exact Nat.le_trans (foldl_min_le l (min m (g a))) (Nat.min_le_right _ _)
    · exact fmin_mem l (min m (g a)) z
theorem fmin_at {g : Nat → Nat} : ∀ (l : List Nat) (m : Nat), l.foldl (fun m j => min m (g j)) m = m ∨ ∃ j ∈ l, l.foldl (fun m j => min m (g j)) m = g j
  | [], _ => Or.inl rfl
  | a :: l, m => by
    show l.foldl (fun m j => min m (g j)) (min m (g a)) = m ∨ ∃ j ∈ a :: l, l.foldl (fun m j => min m (g j)) (min m (g a)) = g j
    rcases fmin_at l (min m (g a)) with h | ⟨j, hj, h⟩
    · rcases Nat.le_total m (g a) with z | z
      · left; rw [h, Nat.min_eq_left z]
      · right; exact ⟨a, List.mem_cons_self, by rw [h, Nat.min_eq_right z]⟩
    · right; exact ⟨j, List.mem_cons_of_mem _ hj, h⟩
theorem pc_lo {xs : List Int32} {s : Nat → Bool} {f k : Nat} (hfk : f ≤ k) (h : -fx xs s f = fx xs s k) : pcN xs f k ≤ (if s f = true then 4096 + 2 ^ f else 0) + (if s k = true then 4096 + 2 ^ k else 0) := by
  have hp : 2 ^ f ≤ 2 ^ k := Nat.pow_le_pow_right (by omega) hfk
  unfold fx at h
  unfold pcN
  by_cases z1 : xs.getD f 0 = -(xs.getD k 0)
  · rw [if_pos z1]; exact Nat.zero_le _
  · rw [if_neg z1]
    by_cases a : s f = true
    · rw [if_pos a] at h ⊢
      by_cases b : s k = true
      · rw [if_pos b] at h
        rw [ng2] at h
        exact absurd h z1
      · rw [if_neg b] at h
        rw [ng2] at h
        rw [if_pos h]; omega
    · rw [if_neg a] at h ⊢
      by_cases b : s k = true
      · rw [if_pos b] at h ⊢
        have h2 : -(-(xs.getD f 0)) = -(-(xs.getD k 0)) := by rw [h]
        rw [show -(-(xs.getD f 0)) = xs.getD f 0 from ng2 _, show -(-(xs.getD k 0)) = xs.getD k 0 from ng2 _] at h2
        rw [if_pos h2]; omega
      · rw [if_neg b] at h
        exact absurd (ng_sw.mp h.symm) z1
theorem cs_lo {xs : List Int32} {s : Nat → Bool} : ∀ (n m f : Nat), m ≤ n → redR (sgm xs s f m) = [] → cs xs f (f + m) ≤ cst s f m
  | _, 0, f, _, _ => by rw [Nat.add_zero, cs_self]; exact Nat.zero_le _
  | 0, m + 1, _, h, _ => absurd h (by omega)
  | n + 1, m + 1, f, hn, h => by
    have h0 : (sgm xs s (f + 1) m).foldl rp ([] ++ [fx xs s f]) = [] := h
    obtain ⟨u, v, e, hu, hv⟩ := none_cut _ _ h0
    obtain ⟨hq, eu, ex, ev⟩ := sgm_cut e
    have hu2 : redR (sgm xs s (f + 1) u.length) = [] := by rw [← eu]; exact hu
    rw [ev] at hv
    have i1 := cs_lo n u.length (f + 1) (by omega) hu2
    have i2 := cs_lo n (m - u.length - 1) (f + 1 + u.length + 1) (by omega) hv
    have hp := pc_lo (xs := xs) (s := s) (f := f) (k := f + 1 + u.length) (by omega) ex
    have hT : cs xs f (f + (m + 1)) ≤ csT xs f (f + (m + 1)) u.length := by
      rw [cs_eq (by omega)]
      exact fmin_mem _ _ (List.mem_range.mpr (by omega))
    unfold csT at hT
    rw [show f + 1 + u.length + 1 + (m - u.length - 1) = f + (m + 1) by omega] at i2
    have hc : cst s f (m + 1) = (if s f = true then 4096 + 2 ^ f else 0) + (cst s (f + 1) u.length + ((if s (f + 1 + u.length) = true then 4096 + 2 ^ (f + 1 + u.length) else 0) + cst s (f + 1 + u.length + 1) (m - u.length - 1))) := by
      show _ + cst s (f + 1) m = _
      congr 1
      have hm : m = u.length + ((m - u.length - 1) + 1) := by omega
      conv => lhs; rw [hm, cst_app]
      rfl
    rw [hc]
    omega
theorem cs_hi {xs : List Int32} : ∀ (n m f : Nat), m ≤ n → cs xs f (f + m) < 16777216 → ∃ s : Nat → Bool, redR (sgm xs s f m) = [] ∧ cst s f m = cs xs f (f + m)
  | _, 0, f, _, _ => ⟨fun _ => false, rfl, by rw [Nat.add_zero, cs_self]; rfl⟩
  | 0, m + 1, _, h, _ => absurd h (by omega)
  | n + 1, m + 1, f, hn, h => by
    have he := cs_eq (xs := xs) (f := f) (t := f + (m + 1)) (by omega)
    rcases fmin_at (g := csT xs f (f + (m + 1))) (List.range (f + (m + 1) - (f + 1))) 16777216 with z | ⟨j, hj, z⟩
    · rw [← he] at z; omega
    · rw [← he] at z
      have hj := List.mem_range.mp hj
      rw [z] at h
      unfold csT at h z
      obtain ⟨s1, a1, b1⟩ := cs_hi (xs := xs) n j (f + 1) (by omega) (by omega)
      obtain ⟨s2, a2, b2⟩ := cs_hi (xs := xs) n (m - j - 1) (f + 1 + j + 1) (by omega) (by rw [show f + 1 + j + 1 + (m - j - 1) = f + (m + 1) by omega]; omega)
      rw [show f + 1 + j + 1 + (m - j - 1) = f + (m + 1) by omega] at b2
      have hpc : xs.getD f 0 = -(xs.getD (f + 1 + j) 0) ∨ xs.getD f 0 = xs.getD (f + 1 + j) 0 := by
        unfold pcN at h
        by_cases y1 : xs.getD f 0 = -(xs.getD (f + 1 + j) 0)
        · exact Or.inl y1
        · by_cases y2 : xs.getD f 0 = xs.getD (f + 1 + j) 0
          · exact Or.inr y2
          · rw [if_neg y1, if_neg y2] at h; omega
      have hdec : ∃ b : Bool, (b = true ↔ ¬ xs.getD f 0 = -(xs.getD (f + 1 + j) 0)) := ⟨decide (¬ xs.getD f 0 = -(xs.getD (f + 1 + j) 0)), by simp⟩
      obtain ⟨b, hb⟩ := hdec
      let s : Nat → Bool := fun i => if i = f then b else if i < f + 1 + j then s1 i else if i = f + 1 + j then false else s2 i
      have s_f : s f = b := if_pos rfl
      have s_k : s (f + 1 + j) = false := by show (if f + 1 + j = f then b else if f + 1 + j < f + 1 + j then _ else _) = false; rw [if_neg (by omega), if_neg (by omega), if_pos rfl]
      have c1 : ∀ i, f + 1 ≤ i → i < f + 1 + j → s i = s1 i := fun i h1 h2 => by show (if i = f then b else if i < f + 1 + j then s1 i else _) = s1 i; rw [if_neg (by omega), if_pos h2]
      have c2 : ∀ i, f + 1 + j + 1 ≤ i → i < f + 1 + j + 1 + (m - j - 1) → s i = s2 i := fun i h1 h2 => by show (if i = f then b else if i < f + 1 + j then s1 i else if i = f + 1 + j then false else s2 i) = s2 i; rw [if_neg (by omega), if_neg (by omega), if_neg (by omega)]
      have hm : m = j + ((m - j - 1) + 1) := by omega
      have e1 : sgm xs s (f + 1) m = sgm xs s1 (f + 1) j ++ (fx xs s (f + 1 + j) :: sgm xs s2 (f + 1 + j + 1) (m - j - 1)) := by
        conv => lhs; rw [hm, sgm_app]
        rw [sgm_c (f + 1) j c1]
        congr 1
        show fx xs s (f + 1 + j) :: sgm xs s (f + 1 + j + 1) (m - j - 1) = _
        rw [sgm_c _ _ c2]
      have e2 : cst s (f + 1) m = cst s1 (f + 1) j + (0 + cst s2 (f + 1 + j + 1) (m - j - 1)) := by
        conv => lhs; rw [hm, cst_app]
        rw [cst_c (f + 1) j c1]
        congr 1
        show (if s (f + 1 + j) = true then _ else 0) + cst s (f + 1 + j + 1) (m - j - 1) = _
        rw [s_k, cst_c _ _ c2]
        rfl
      have hk : fx xs s (f + 1 + j) = xs.getD (f + 1 + j) 0 := by unfold fx; rw [s_k]; rfl
      refine ⟨s, ?_, ?_⟩
      · show redR (fx xs s f :: sgm xs s (f + 1) m) = []
        rw [e1]
        have hx : fx xs s (f + 1 + j) = -fx xs s f := by
          rw [hk]
          unfold fx
          rw [s_f]
          by_cases y : b = true
          · rw [if_pos y, ng2]
            exact (hpc.resolve_left (hb.mp y)).symm
          · rw [if_neg y]
            have : xs.getD f 0 = -(xs.getD (f + 1 + j) 0) := Classical.byContradiction (fun q => y (hb.mpr q))
            exact ng_sw.mp this
        rw [hx]
        exact none_put a1 a2
      · show (if s f = true then 4096 + 2 ^ f else 0) + cst s (f + 1) m = _
        rw [e2, s_f, z, b1, b2]
        have hpq : pcN xs f (f + 1 + j) = if b = true then 4096 + 2 ^ f else 0 := by
          unfold pcN
          by_cases y : b = true
          · rw [if_pos y, if_neg (hb.mp y), if_pos (hpc.resolve_left (hb.mp y))]
          · rw [if_neg y, if_pos (Classical.byContradiction (fun q => y (hb.mpr q)))]
        rw [hpq]
        omega
/-! sets by bits -/
def bitf (S i : Nat) : Bool := decide (S / 2 ^ i % 2 = 1)
theorem ex_set : ∀ (n : Nat) (s : Nat → Bool), ∃ S, S < 2 ^ n ∧ ∀ i, i < n → bitf S i = s i
  | 0, _ => ⟨0, by decide, fun i hi => absurd hi (by omega)⟩
  | n + 1, s => by
    obtain ⟨S, h1, h2⟩ := ex_set n (fun i => s (i + 1))
    refine ⟨(if s 0 = true then 1 else 0) + 2 * S, ?_, fun i hi => ?_⟩
    · rw [Nat.pow_succ]; split <;> omega
    · cases i with
      | zero =>
        unfold bitf
        rw [Nat.pow_zero, Nat.div_one]
        by_cases z : s 0 = true
        · rw [if_pos z, z]; exact decide_eq_true (by omega)
        · rw [if_neg z, show s 0 = false by simpa using z]; exact decide_eq_false (by omega)
      | succ i =>
        have e : ((if s 0 = true then 1 else 0) + 2 * S) / 2 ^ (i + 1) = S / 2 ^ i := by
          rw [Nat.pow_succ', ← Nat.div_div_eq_div_mul]
          congr 1
          split <;> omega
        have := h2 i (by omega)
        unfold bitf at this ⊢
        rw [e]
        exact this
theorem bit_hi {S n i : Nat} (h : S < 2 ^ n) (hi : n ≤ i) : bitf S i = false := by
  unfold bitf
  rw [Nat.div_eq_of_lt (Nat.lt_of_lt_of_le h (Nat.pow_le_pow_right (by omega) hi))]
  rfl
def kyS (S : Nat) : Nat := cst (bitf S) 0 12
abbrev NWk (xs : List Int32) (S : Nat) : Prop := redR (sgm xs (bitf S) 0 xs.length) = []
theorem ky_n {S n : Nat} (hn : n ≤ 12) (h : S < 2 ^ n) : kyS S = cst (bitf S) 0 n := by
  unfold kyS
  rw [show 12 = n + (12 - n) by omega, cst_app, cst_0 (0 + n) (12 - n) (fun i h1 _ => bit_hi h (by omega)), Nat.add_zero]
theorem best_lo {xs : List Int32} (hn : xs.length ≤ 12) {S : Nat} (h : S < 2 ^ xs.length) (hw : NWk xs S) : cs xs 0 xs.length ≤ kyS S := by
  have := cs_lo xs.length xs.length 0 (Nat.le_refl _) hw
  rw [Nat.zero_add] at this
  rw [ky_n hn h]; exact this
theorem best_hi {xs : List Int32} (hn : xs.length ≤ 12) (h : cs xs 0 xs.length < 16777216) : ∃ S, S < 2 ^ xs.length ∧ NWk xs S ∧ kyS S = cs xs 0 xs.length := by
  obtain ⟨s, h1, h2⟩ := cs_hi (xs := xs) xs.length xs.length 0 (Nat.le_refl _) (by rw [Nat.zero_add]; exact h)
  obtain ⟨S, h3, h4⟩ := ex_set xs.length s
  rw [Nat.zero_add] at h2
  refine ⟨S, h3, ?_, ?_⟩
  · show redR (sgm xs (bitf S) 0 xs.length) = []
    rw [sgm_c 0 xs.length (fun i _ hi => h4 i (by omega))]; exact h1
  · rw [ky_n hn h3, cst_c 0 xs.length (fun i _ hi => h4 i (by omega))]; exact h2
