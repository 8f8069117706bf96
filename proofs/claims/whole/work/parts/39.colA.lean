/-! sums, and rests by p -/
def sK (f : Nat → Int) : Nat → Nat → Int
  | _, 0 => 0
  | k, m + 1 => f k + sK f (k + 1) m
abbrev cg (p x z : Int) : Prop := x % p = z % p
theorem cg_add {p a b c d : Int} (h1 : cg p a b) (h2 : cg p c d) : cg p (a + c) (b + d) := by unfold cg at *; rw [Int.add_emod a, Int.add_emod b, h1, h2]
theorem cg_sub {p a b c d : Int} (h1 : cg p a b) (h2 : cg p c d) : cg p (a - c) (b - d) := by unfold cg at *; rw [Int.sub_emod a, Int.sub_emod b, h1, h2]
theorem cg_mul {p a b c d : Int} (h1 : cg p a b) (h2 : cg p c d) : cg p (a * c) (b * d) := by unfold cg at *; rw [Int.mul_emod a, Int.mul_emod b, h1, h2]
theorem cg_mod (p x : Int) : cg p (x % p) x := Int.emod_emod_of_dvd x (Int.dvd_refl p)
theorem cg_rf (p x : Int) : cg p x x := rfl
theorem cg_tr {p x y z : Int} (h : cg p x y) (h2 : cg p y z) : cg p x z := Eq.trans h h2
theorem cg_sy {p x y : Int} (h : cg p x y) : cg p y x := Eq.symm h
theorem sK_c {f g : Nat → Int} : ∀ (k m : Nat), (∀ b, k ≤ b → b < k + m → f b = g b) → sK f k m = sK g k m
  | _, 0, _ => rfl
  | k, m + 1, h => by
    show f k + sK f (k + 1) m = g k + sK g (k + 1) m
    rw [h k (by omega) (by omega), sK_c (k + 1) m (fun b h1 h2 => h b (by omega) (by omega))]
theorem sK_m {p : Int} {f g : Nat → Int} : ∀ (k m : Nat), (∀ b, k ≤ b → b < k + m → cg p (f b) (g b)) → cg p (sK f k m) (sK g k m)
  | _, 0, _ => rfl
  | k, m + 1, h => cg_add (h k (by omega) (by omega)) (sK_m (k + 1) m (fun b h1 h2 => h b (by omega) (by omega)))
theorem sK_l {f g : Nat → Int} {x y : Int} : ∀ (k m : Nat), sK (fun b => x * f b + y * g b) k m = x * sK f k m + y * sK g k m
  | _, 0 => by show (0 : Int) = x * 0 + y * 0; omega
  | k, m + 1 => by
    show x * f k + y * g k + sK (fun b => x * f b + y * g b) (k + 1) m = x * (f k + sK f (k + 1) m) + y * (g k + sK g (k + 1) m)
    rw [sK_l (k + 1) m, Int.mul_add, Int.mul_add]
    omega
theorem sK_0 {f : Nat → Int} : ∀ (k m : Nat), (∀ b, k ≤ b → b < k + m → f b = 0) → sK f k m = 0
  | _, 0, _ => rfl
  | k, m + 1, h => by
    show f k + sK f (k + 1) m = 0
    rw [h k (by omega) (by omega), sK_0 (k + 1) m (fun b h1 h2 => h b (by omega) (by omega))]
    rfl
theorem sK_1 {f : Nat → Int} {a : Nat} : ∀ (k m : Nat), k ≤ a → a < k + m → sK (fun b => if a = b then f b else 0) k m = f a
  | _, 0, h1, h2 => absurd h2 (by omega)
  | k, m + 1, h1, h2 => by
    show (if a = k then f k else 0) + sK (fun b => if a = b then f b else 0) (k + 1) m = f a
    by_cases z : a = k
    · rw [if_pos z, sK_0 (k + 1) m (fun b hb _ => if_neg (by omega)), z]; omega
    · rw [if_neg z, sK_1 (k + 1) m (by omega) (by omega)]; omega
/-- a row of a matrix on a vector -/
def dt (M : Mx) (v : Nat → Int) (k m a : Nat) : Int := sK (fun b => M a b * v b) k m
abbrev updI (v : Nat → Int) (k : Nat) (x : Int) : Nat → Int := fun j => if j = k then x else v j
theorem dt_u {M : Mx} {v : Nat → Int} {k m a : Nat} {x : Int} : dt M (updI v k x) k (m + 1) a = M a k * x + dt M v (k + 1) m a := by
  show M a k * (if k = k then x else v k) + sK (fun b => M a b * updI v k x b) (k + 1) m = _
  rw [if_pos rfl]
  congr 1
  exact sK_c (k + 1) m (fun b h1 h2 => by show M a b * (if b = k then x else v b) = _; rw [if_neg (by omega)])
/-! sums over all numbers of ropes -/
def sR (f : Nat → Nat) : Nat → Nat
  | 0 => 0
  | n + 1 => sR f n + f n
theorem sR_c {f g : Nat → Nat} : ∀ n, (∀ x, x < n → f x = g x) → sR f n = sR g n
  | 0, _ => rfl
  | n + 1, h => by show sR f n + f n = sR g n + g n; rw [sR_c n (fun x hx => h x (by omega)), h n (by omega)]
theorem sR_k {c : Nat} : ∀ n, sR (fun _ => c) n = n * c
  | 0 => by show 0 = 0 * c; omega
  | n + 1 => by show sR (fun _ => c) n + c = (n + 1) * c; rw [sR_k n, Nat.add_mul, Nat.one_mul]
theorem sR_m {c : Nat} {f : Nat → Nat} : ∀ n, sR (fun x => c * f x) n = c * sR f n
  | 0 => by show 0 = c * 0; omega
  | n + 1 => by show sR (fun x => c * f x) n + c * f n = c * (sR f n + f n); rw [sR_m n, Nat.mul_add]
def svR (p k : Nat) (F : (Nat → Int) → Nat) : Nat → (Nat → Int) → Nat
  | 0, v => F v
  | m + 1, v => sR (fun x => svR p k F m (updI v (k + m) x)) p
theorem svR_in {p k : Nat} {F : (Nat → Int) → Nat} : ∀ (m : Nat) (v : Nat → Int), svR p k F (m + 1) v = svR p (k + 1) (fun w => sR (fun x => F (updI w k x)) p) m v
  | 0, v => rfl
  | m + 1, v => by
    show sR (fun x => svR p k F (m + 1) (updI v (k + (m + 1)) x)) p = sR (fun x => svR p (k + 1) (fun w => sR (fun x => F (updI w k x)) p) m (updI v (k + 1 + m) x)) p
    refine sR_c p (fun x _ => ?_)
    rw [svR_in m, show k + (m + 1) = k + 1 + m by omega]
theorem svR_c {p k : Nat} {F G : (Nat → Int) → Nat} (h : ∀ w, F w = G w) (m : Nat) (v : Nat → Int) : svR p k F m v = svR p k G m v := by rw [show F = G from funext h]
theorem svR_m {p k c : Nat} {F : (Nat → Int) → Nat} : ∀ (m : Nat) (v : Nat → Int), svR p k (fun w => c * F w) m v = c * svR p k F m v
  | 0, v => rfl
  | m + 1, v => by
    show sR (fun x => svR p k (fun w => c * F w) m (updI v (k + m) x)) p = c * sR (fun x => svR p k F m (updI v (k + m) x)) p
    rw [← sR_m]
    exact sR_c p (fun x _ => svR_m m _)
/-! elimination keeps how many solve -/
abbrev p357 (p : Int) : Prop := p = 3 ∨ p = 5 ∨ p = 7
theorem uq3 : ∀ h, h < 3 → ∀ s, s < 3 → h ≠ 0 → sR (fun x => if (h * x + s) % 3 = 0 then 1 else 0) 3 = 1 := by decide +kernel
theorem uq5 : ∀ h, h < 5 → ∀ s, s < 5 → h ≠ 0 → sR (fun x => if (h * x + s) % 5 = 0 then 1 else 0) 5 = 1 := by decide +kernel
theorem uq7 : ∀ h, h < 7 → ∀ s, s < 7 → h ≠ 0 → sR (fun x => if (h * x + s) % 7 = 0 then 1 else 0) 7 = 1 := by decide +kernel
theorem uqN {P : Nat} (hp : P = 3 ∨ P = 5 ∨ P = 7) (h s : Nat) (h1 : h < P) (h2 : s < P) (h3 : h ≠ 0) : sR (fun x => if (h * x + s) % P = 0 then 1 else 0) P = 1 := by
  rcases hp with rfl | rfl | rfl
  · exact uq3 h h1 s h2 h3
  · exact uq5 h h1 s h2 h3
  · exact uq7 h h1 s h2 h3
theorem uq {P : Nat} (hp : P = 3 ∨ P = 5 ∨ P = 7) {h s : Int} (h1 : 0 ≤ h) (h2 : h < P) (h3 : h ≠ 0) : sR (fun x => if (h * (x : Int) + s) % (P : Int) = 0 then 1 else 0) P = 1 := by
  have hP : 0 < P := by omega
  have := uqN hp h.toNat (s % P).toNat (by omega) (by have := Int.emod_lt_of_pos s (show (0 : Int) < P by omega); have := Int.emod_nonneg s (show (P : Int) ≠ 0 by omega); omega) (by omega)
  refine Eq.trans (sR_c P (fun x _ => ?_)) this
  have e : (h * (x : Int) + s) % (P : Int) = ((h.toNat * x + (s % P).toNat) % P : Nat) := by
    have q1 : ((h.toNat : Nat) : Int) = h := Int.toNat_of_nonneg h1
    have q2 : (((s % P).toNat : Nat) : Int) = s % P := Int.toNat_of_nonneg (Int.emod_nonneg s (by omega))
    rw [Int.natCast_emod, Int.natCast_add, Int.natCast_mul, q1, q2]
    exact cg_add (cg_rf _ _) (cg_sy (cg_mod _ _))
  rw [e]
  by_cases z : (h.toNat * x + (s % P).toNat) % P = 0
  · rw [if_pos z, if_pos (by rw [z]; rfl)]
  · rw [if_neg z, if_neg (by omega)]
theorem cz3 : ∀ h, h < 3 → ∀ s, s < 3 → h ≠ 0 → h * s % 3 = 0 → s = 0 := by decide +kernel
theorem cz5 : ∀ h, h < 5 → ∀ s, s < 5 → h ≠ 0 → h * s % 5 = 0 → s = 0 := by decide +kernel
theorem cz7 : ∀ h, h < 7 → ∀ s, s < 7 → h ≠ 0 → h * s % 7 = 0 → s = 0 := by decide +kernel
theorem cz {P : Nat} (hp : P = 3 ∨ P = 5 ∨ P = 7) {h s : Int} (h1 : 0 ≤ h) (h2 : h < P) (h3 : h ≠ 0) (h4 : (h * s) % (P : Int) = 0) : s % (P : Int) = 0 := by
  have hP : 0 < P := by omega
  have b1 := Int.emod_lt_of_pos s (show (0 : Int) < P by omega)
  have b2 := Int.emod_nonneg s (show (P : Int) ≠ 0 by omega)
  have e : (h.toNat * (s % P).toNat) % P = 0 := by
    have q1 : ((h.toNat : Nat) : Int) = h := Int.toNat_of_nonneg h1
    have q2 : (((s % P).toNat : Nat) : Int) = s % P := Int.toNat_of_nonneg b2
    have : ((h.toNat * (s % P).toNat % P : Nat) : Int) = (h * s) % (P : Int) := by
      rw [Int.natCast_emod, Int.natCast_mul, q1, q2]
      exact cg_mul (cg_rf _ _) (cg_mod _ _)
    omega
  have : (s % P).toNat = 0 := by
    rcases hp with rfl | rfl | rfl
    · exact cz3 _ (by omega) _ (by omega) (by omega) e
    · exact cz5 _ (by omega) _ (by omega) (by omega) e
    · exact cz7 _ (by omega) _ (by omega) (by omega) e
  omega
