/-! how many solve -/
abbrev inN (n : Nat) (p : Int) (M : Mx) : Prop := ∀ a b, a < n → b < n → 0 ≤ M a b ∧ M a b < p
/-- rows from d on, columns from k on -/
abbrev SolD (n : Nat) (p : Int) (M : Mx) (d k : Nat) (v : Nat → Int) : Prop := ∀ a, d ≤ a → a < n → dt M v k (n - k) a % p = 0
noncomputable def iP (q : Prop) : Nat := @ite _ q (Classical.propDecidable _) 1 0
theorem iP_t {q : Prop} (h : q) : iP q = 1 := if_pos h
theorem iP_f {q : Prop} (h : ¬ q) : iP q = 0 := if_neg h
theorem iP_c {q r : Prop} (h : q ↔ r) : iP q = iP r := by rw [propext h]
theorem sol_sw {n : Nat} {p : Int} {M : Mx} {d k x : Nat} {v : Nat → Int} (hd : d ≤ x) (hx : x < n) : SolD n p M d k v ↔ SolD n p (swM d x M) d k v := by
  have key : ∀ a, dt (swM d x M) v k (n - k) a = dt M v k (n - k) (if a = d then x else if a = x then d else a) := fun a => by
    unfold dt swM
    split
    · rfl
    · split <;> rfl
  constructor
  · intro h a h1 h2
    rw [key]
    split
    · exact h x hd hx
    · split
      · exact h d (by omega) (by omega)
      · exact h a h1 h2
  · intro h a h1 h2
    have := h (if a = d then x else if a = x then d else a) (by split; exact hd; split <;> omega) (by split; exact hx; split <;> omega)
    rw [key] at this
    by_cases z : a = d
    · subst z
      rw [if_pos rfl] at this
      by_cases y : x = a
      · subst y; rw [if_pos rfl] at this; exact this
      · rw [if_neg y, if_pos rfl] at this; exact this
    · rw [if_neg z] at this
      by_cases y : a = x
      · subst y; rw [if_pos rfl, if_pos rfl] at this; exact this
      · rw [if_neg y, if_neg z, if_neg y] at this; exact this
theorem cl_dt {n : Nat} {p : Int} {M : Mx} {d k a : Nat} {v : Nat → Int} (m : Nat) (k' : Nat) (h : d < a) : cg p (dt (clM p d k M) v k' m a) (M d k * dt M v k' m a + (- M a k) * dt M v k' m d) := by
  unfold dt
  rw [← sK_l]
  refine sK_m k' m (fun b _ _ => ?_)
  have e : clM p d k M a b = (M a b * M d k - M d b * M a k) % p := by unfold clM; rw [if_pos h]
  have e2 : M d k * (M a b * v b) + -M a k * (M d b * v b) = (M a b * M d k - M d b * M a k) * v b := by
    rw [Int.sub_mul, Int.neg_mul, ← Int.mul_assoc, ← Int.mul_assoc, Int.mul_comm (M d k) (M a b), Int.mul_comm (M a k) (M d b)]
    omega
  show cg p (clM p d k M a b * v b) (M d k * (M a b * v b) + -M a k * (M d b * v b))
  rw [e, e2]
  exact cg_mul (cg_mod _ _) (cg_rf _ _)
theorem cl_top {p : Int} {M : Mx} {d k a : Nat} (h : ¬ d < a) : clM p d k M a = M a := by funext b; unfold clM; rw [if_neg h]
theorem sol_cl {n P : Nat} (hp : P = 3 ∨ P = 5 ∨ P = 7) {M : Mx} {d k : Nat} {v : Nat → Int} (hd : d < n) (hh1 : 0 ≤ M d k) (hh2 : M d k < P) (hh3 : M d k ≠ 0) : SolD n P M d k v ↔ SolD n P (clM P d k M) d k v := by
  have hT : dt (clM P d k M) v k (n - k) d = dt M v k (n - k) d := by unfold dt; rw [cl_top (by omega)]
  constructor
  · intro h a h1 h2
    by_cases z : d < a
    · have c := cl_dt (p := P) (M := M) (d := d) (k := k) (n := n) (v := v) (n - k) k z
      have c2 : cg P (M d k * dt M v k (n - k) a + (- M a k) * dt M v k (n - k) d) (M d k * 0 + (- M a k) * 0) := cg_add (cg_mul (cg_rf _ _) (by unfold cg; rw [h a h1 h2]; rfl)) (cg_mul (cg_rf _ _) (by unfold cg; rw [h d (by omega) hd]; rfl))
      have c3 := cg_tr c c2
      unfold cg at c3
      rw [c3, Int.mul_zero, Int.mul_zero]
      rfl
    · have : a = d := by omega
      subst this
      rw [hT]; exact h a h1 h2
  · intro h a h1 h2
    have h0 : dt M v k (n - k) d % P = 0 := by rw [← hT]; exact h d (by omega) hd
    by_cases z : d < a
    · have c := cl_dt (p := P) (M := M) (d := d) (k := k) (n := n) (v := v) (n - k) k z
      have c2 : cg P (M d k * dt M v k (n - k) a + (- M a k) * dt M v k (n - k) d) (M d k * dt M v k (n - k) a + (- M a k) * 0) := cg_add (cg_rf _ _) (cg_mul (cg_rf _ _) (by unfold cg; rw [h0]; rfl))
      have c3 := cg_tr (cg_sy c) c
      have c4 := cg_tr (cg_sy c2) (cg_sy c)
      unfold cg at c4
      rw [h a h1 h2, Int.mul_zero, Int.add_zero] at c4
      exact cz hp hh1 hh2 hh3 c4
    · have : a = d := by omega
      subst this
      exact h0
theorem pv_none {M : Mx} {k : Nat} : ∀ {n a : Nat}, pv M k n a = none → ∀ x, a ≤ x → x < a + n → M x k = 0
  | 0, a, _, x, h1, h2 => absurd h2 (by omega)
  | n + 1, a, h, x, h1, h2 => by
    unfold pv at h
    by_cases z : M a k = 0
    · rw [if_pos z] at h
      by_cases y : x = a
      · rw [y]; exact z
      · exact pv_none h x (by omega) (by omega)
    · rw [if_neg z] at h; exact absurd h (by simp)
def rkG (n : Nat) (p : Int) : Nat → Nat → Mx × Nat → Mx × Nat
  | 0, _, s => s
  | m + 1, k, s => rkG n p m (k + 1) (rkS n p s k)
theorem rkG_s {n : Nat} {p : Int} : ∀ (m k : Nat) (s : Mx × Nat), rkG n p (m + 1) k s = rkS n p (rkG n p m k s) (k + m)
  | 0, _, _ => rfl
  | m + 1, k, s => by
    show rkG n p (m + 1) (k + 1) (rkS n p s k) = rkS n p (rkG n p m (k + 1) (rkS n p s k)) (k + (m + 1))
    rw [rkG_s m (k + 1), show k + 1 + m = k + (m + 1) by omega]
theorem rkG_F {n : Nat} {p : Int} {M : Mx} : ∀ i, rkF n p M i = rkG n p i 0 (M, 0)
  | 0 => by simp [rkF, rkG]
  | i + 1 => by rw [rkF_succ, rkG_F i, rkG_s, Nat.zero_add]
theorem rkG_le {n : Nat} {p : Int} : ∀ (m k : Nat) (s : Mx × Nat), s.2 ≤ (rkG n p m k s).2 ∧ (rkG n p m k s).2 ≤ s.2 + m
  | 0, _, s => ⟨Nat.le_refl _, Nat.le_refl _⟩
  | m + 1, k, s => by
    have := rkG_le (n := n) (p := p) m (k + 1) (rkS n p s k)
    have h2 : s.2 ≤ (rkS n p s k).2 ∧ (rkS n p s k).2 ≤ s.2 + 1 := by
      unfold rkS
      split
      · omega
      · exact ⟨by show s.2 ≤ s.2 + 1; omega, by show s.2 + 1 ≤ s.2 + 1; omega⟩
    show s.2 ≤ (rkG n p m (k + 1) (rkS n p s k)).2 ∧ (rkG n p m (k + 1) (rkS n p s k)).2 ≤ s.2 + (m + 1)
    omega
theorem count_all {n P : Nat} (hp : P = 3 ∨ P = 5 ∨ P = 7) : ∀ (m k : Nat) (M : Mx) (d : Nat) (v : Nat → Int), k + m = n → d ≤ k → inN n P M → svR P k (fun w => iP (SolD n P M d k w)) m v = P ^ (m - ((rkG n P m k (M, d)).2 - d))
  | 0, k, M, d, v, hk, hd, hin => by
    show iP (SolD n P M d k v) = P ^ (0 - (d - d))
    rw [iP_t (fun a h1 h2 => by rw [show n - k = 0 by omega]; show (0 : Int) % P = 0; simp), show 0 - (d - d) = 0 by omega, Nat.pow_zero]
  | m + 1, k, M, d, v, hk, hd, hin => by
    rw [svR_in]
    have hg := rkG_le (n := n) (p := P) m (k + 1) (rkS n P (M, d) k)
    show _ = P ^ (m + 1 - ((rkG n P m (k + 1) (rkS n P (M, d) k)).2 - d))
    rcases hpv : pv M k (n - d) d with _ | x
    · have hS : rkS n P (M, d) k = (M, d) := by unfold rkS; show (match pv M k (n - d) d with | none => (M, d) | some a => _) = _; rw [hpv]
      have hz := pv_none hpv
      rw [hS] at hg ⊢
      rw [svR_c (G := fun w => P * iP (SolD n P M d (k + 1) w)) (fun w => ?_), svR_m, count_all hp m (k + 1) M d v (by omega) (by omega) hin, Nat.mul_comm, ← Nat.pow_succ]
      · congr 1
        have h3 : d ≤ (rkG n P m (k + 1) (M, d)).2 := hg.1
        have h4 : (rkG n P m (k + 1) (M, d)).2 ≤ d + m := hg.2
        omega
      · rw [← sR_k]
        refine sR_c P (fun y _ => iP_c ?_)
        have key : ∀ a, d ≤ a → a < n → dt M (updI w k y) k (n - k) a = dt M w (k + 1) (n - (k + 1)) a := fun a h1 h2 => by
          rw [show n - k = (n - (k + 1)) + 1 by omega, dt_u, hz a h1 (by omega)]
          omega
        exact ⟨fun h a h1 h2 => by rw [← key a h1 h2]; exact h a h1 h2, fun h a h1 h2 => by rw [key a h1 h2]; exact h a h1 h2⟩
    · have hx := pv_in hpv
      have hS : rkS n P (M, d) k = (clM P d k (swM d x M), d + 1) := by unfold rkS; show (match pv M k (n - d) d with | none => (M, d) | some a => _) = _; rw [hpv]
      have hdn : d < n := by omega
      have hM1 : inN n P (swM d x M) := fun a b ha hb => by
        unfold swM
        split
        · exact hin x b (by omega) hb
        · split
          · exact hin d b hdn hb
          · exact hin a b ha hb
      have hM2 : inN n P (clM P d k (swM d x M)) := fun a b ha hb => by
        unfold clM
        split
        · exact ⟨Int.emod_nonneg _ (by omega), Int.emod_lt_of_pos _ (by omega)⟩
        · exact hM1 a b ha hb
      have hhd : swM d x M d k = M x k := by unfold swM; rw [if_pos rfl]
      have hb := hin x k (by omega) (by omega)
      rw [hS] at hg ⊢
      have ihh := count_all hp m (k + 1) (clM P d k (swM d x M)) (d + 1) v (by omega) (by omega) hM2
      rw [svR_c (G := fun w => iP (SolD n P (clM P d k (swM d x M)) (d + 1) (k + 1) w)) (fun w => ?_), ihh]
      · congr 1
        have h3 : d + 1 ≤ (rkG n P m (k + 1) (clM P d k (swM d x M), d + 1)).2 := hg.1
        have h4 : (rkG n P m (k + 1) (clM P d k (swM d x M), d + 1)).2 ≤ d + 1 + m := hg.2
        omega
      · have hkey : ∀ y : Int, SolD n P M d k (updI w k y) ↔ ((M x k * y + dt (clM P d k (swM d x M)) w (k + 1) (n - (k + 1)) d) % P = 0 ∧ SolD n P (clM P d k (swM d x M)) (d + 1) (k + 1) w) := fun y => by
          rw [sol_sw (by omega) (show x < n by omega), sol_cl hp hdn (by rw [hhd]; exact hb.1) (by rw [hhd]; exact hb.2) (by rw [hhd]; exact hx.2.2)]
          have k1 : ∀ a, dt (clM P d k (swM d x M)) (updI w k y) k (n - k) a = clM P d k (swM d x M) a k * y + dt (clM P d k (swM d x M)) w (k + 1) (n - (k + 1)) a := fun a => by rw [show n - k = (n - (k + 1)) + 1 by omega, dt_u]
          have k2 : clM P d k (swM d x M) d k = M x k := by unfold clM; rw [if_neg (by omega)]; exact hhd
          have k3 : ∀ a, d < a → clM P d k (swM d x M) a k = 0 := fun a ha => by
            unfold clM
            rw [if_pos ha, Int.mul_comm, Int.sub_self]
            simp
          constructor
          · intro h
            refine ⟨by have := h d (by omega) hdn; rw [k1, k2] at this; exact this, fun a h1 h2 => ?_⟩
            have := h a (by omega) h2
            rw [k1, k3 a (by omega), Int.zero_mul, Int.zero_add] at this
            exact this
          · rintro ⟨h0, h⟩ a h1 h2
            rw [k1]
            by_cases z : a = d
            · subst z; rw [k2]; exact h0
            · rw [k3 a (by omega), Int.zero_mul, Int.zero_add]; exact h a (by omega) h2
        by_cases hs : SolD n P (clM P d k (swM d x M)) (d + 1) (k + 1) w
        · rw [iP_t hs]
          refine Eq.trans (sR_c P (fun y _ => ?_)) (uq hp (h := M x k) (s := dt (clM P d k (swM d x M)) w (k + 1) (n - (k + 1)) d) hb.1 hb.2 hx.2.2)
          by_cases z : (M x k * (y : Int) + dt (clM P d k (swM d x M)) w (k + 1) (n - (k + 1)) d) % (P : Int) = 0
          · rw [if_pos z, iP_t ((hkey y).mpr ⟨z, hs⟩)]
          · rw [if_neg z, iP_f (fun q => z ((hkey y).mp q).1)]
        · rw [iP_f hs]
          refine Eq.trans (sR_c P (g := fun _ => 0) (fun y _ => iP_f (fun q => hs ((hkey y).mp q).2))) ?_
          rw [sR_k, Nat.mul_zero]
