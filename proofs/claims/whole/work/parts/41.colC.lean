/-! colours as they go -/
def crV (p : Int) (c : Int32) (v : Nat → Int) : Nat → Int := fun a => if a = c.toInt.natAbs - 1 then (if 0 < c.toInt then (2 * v (c.toInt.natAbs - 1) + p - v c.toInt.natAbs) % p else v c.toInt.natAbs) else if a = c.toInt.natAbs then (if 0 < c.toInt then v (c.toInt.natAbs - 1) else (2 * v c.toInt.natAbs + p - v (c.toInt.natAbs - 1)) % p) else v a
def fnV (p : Int) (xs : List Int32) (v : Nat → Int) : Nat → Int := xs.foldl (fun w c => crV p c w) v
theorem fnV_snoc (p : Int) (xs : List Int32) (c : Int32) (v : Nat → Int) : fnV p (xs ++ [c]) v = crV p c (fnV p xs v) := by simp [fnV]
theorem cg_lin {p x z : Int} : (2 * (x % p) + p - z % p) % p = (2 * x - z) % p := by
  have h1 : cg p (2 * (x % p) + p - z % p) (2 * x + 0 - z) := cg_sub (cg_add (cg_mul (cg_rf _ _) (cg_mod _ _)) (by unfold cg; simp)) (cg_mod _ _)
  rw [Int.add_zero] at h1
  exact h1
theorem dt_row {M N : Mx} {v : Nat → Int} {k m a a' : Nat} (h : ∀ b, M a b = N a' b) : dt M v k m a = dt N v k m a' := by
  unfold dt
  exact sK_c k m (fun b _ _ => by rw [h b])
theorem dt_two {p : Int} {M N : Mx} {v : Nat → Int} {k m a x z : Nat} (h : ∀ b, M a b = (2 * N x b - N z b) % p) : dt M v k m a % p = (2 * dt N v k m x - dt N v k m z) % p := by
  have e : 2 * dt N v k m x - dt N v k m z = 2 * dt N v k m x + (-1) * dt N v k m z := by omega
  rw [e]
  unfold dt
  rw [← sK_l]
  refine sK_m k m (fun b _ _ => ?_)
  show cg p (M a b * v b) (2 * (N x b * v b) + -1 * (N z b * v b))
  have e2 : 2 * (N x b * v b) + -1 * (N z b * v b) = (2 * N x b - N z b) * v b := by rw [Int.sub_mul, Int.mul_assoc]; omega
  rw [h b, e2]
  exact cg_mul (cg_mod _ _) (cg_rf _ _)
theorem crV_dt {p : Int} {n : Nat} {c : Int32} {M : Mx} {v w : Nat → Int} (h1 : 1 ≤ c.toInt.natAbs) (h2 : c.toInt.natAbs < n) (h : ∀ a, a < n → w a = dt M v 0 n a % p) : ∀ a, a < n → crV p c w a = dt (crM p c M) v 0 n a % p := by
  intro a ha
  unfold crV
  by_cases z : a = c.toInt.natAbs - 1
  · rw [if_pos z]
    by_cases y : 0 < c.toInt
    · rw [if_pos y, h _ (by omega), h _ h2, cg_lin]
      refine (dt_two (fun b => ?_)).symm
      unfold crM
      rw [if_pos z, if_pos y, show a + 1 = c.toInt.natAbs by omega, ← z]
    · rw [if_neg y, h _ h2]
      congr 1
      refine (dt_row (fun b => ?_)).symm
      unfold crM
      rw [if_pos z, if_neg y, show a + 1 = c.toInt.natAbs by omega]
  · rw [if_neg z]
    by_cases y2 : a = c.toInt.natAbs
    · rw [if_pos y2]
      by_cases y : 0 < c.toInt
      · rw [if_pos y, h _ (by omega)]
        congr 1
        refine (dt_row (fun b => ?_)).symm
        unfold crM
        rw [if_neg z, if_pos y2, if_pos y, y2]
      · rw [if_neg y, h _ h2, h (c.toInt.natAbs - 1) (by omega), cg_lin]
        refine (dt_two (fun b => ?_)).symm
        unfold crM
        rw [if_neg z, if_pos y2, if_neg y, y2]
    · rw [if_neg y2, h a ha]
      congr 1
      refine (dt_row (fun b => ?_)).symm
      unfold crM
      rw [if_neg z, if_neg y2]
theorem fnV_dt {p : Int} {n : Nat} {xs : List Int32} {v : Nat → Int} (hk : okk n xs) (hv : ∀ a, a < n → 0 ≤ v a ∧ v a < p) : ∀ i, i ≤ xs.length → ∀ a, a < n → fnV p (xs.take i) v a = dt (crsM p (xs.take i)) v 0 n a % p
  | 0, _, a, ha => by
    show v a = dt idM v 0 n a % p
    have e : dt idM v 0 n a = v a := by
      unfold dt idM
      rw [sK_c (g := fun b => if a = b then v b else 0) 0 n (fun b _ _ => by split <;> omega), sK_1 0 n (by omega) (by omega)]
    rw [e, Int.emod_eq_of_lt (hv a ha).1 (hv a ha).2]
  | i + 1, hi, a, ha => by
    have hm : xs.getD i 0 ∈ xs := by
      rw [List.getD_eq_getElem?_getD, List.getElem?_eq_getElem (by omega)]
      exact List.getElem_mem _
    rw [take_snoc (by omega), fnV_snoc, crsM_snoc]
    exact crV_dt (hk _ hm).1 (hk _ hm).2 (fnV_dt hk hv i (by omega)) a ha
theorem fnV_ge {p : Int} {n : Nat} : ∀ {xs : List Int32} {v : Nat → Int}, okk n xs → ∀ {a : Nat}, n ≤ a → fnV p xs v a = v a
  | [], _, _, _, _ => rfl
  | c :: r, v, hk, a, ha => by
    have hc := hk c List.mem_cons_self
    show fnV p r (crV p c v) a = v a
    rw [fnV_ge (n := n) (fun d hd => hk d (List.mem_cons_of_mem _ hd)) ha]
    unfold crV
    rw [if_neg (by omega), if_neg (by omega)]
theorem fnV_in {p : Int} {n : Nat} (hp : 0 < p) : ∀ {xs : List Int32} {v : Nat → Int}, (∀ a, 0 ≤ v a ∧ v a < p) → ∀ a, 0 ≤ fnV p xs v a ∧ fnV p xs v a < p
  | [], v, hv, a => hv a
  | c :: r, v, hv, a => by
    show 0 ≤ fnV p r (crV p c v) a ∧ fnV p r (crV p c v) a < p
    refine fnV_in (n := n) hp (fun b => ?_) a
    unfold crV
    split
    · split
      · exact ⟨Int.emod_nonneg _ (by omega), Int.emod_lt_of_pos _ hp⟩
      · exact hv _
    · split
      · split
        · exact hv _
        · exact ⟨Int.emod_nonneg _ (by omega), Int.emod_lt_of_pos _ hp⟩
      · exact hv b
theorem dg_dt {p : Int} {n a : Nat} {M : Mx} {v : Nat → Int} (ha : a < n) : dt (dgM p M) v 0 n a % p = (dt M v 0 n a - v a) % p := by
  have e : dt M v 0 n a - v a = 1 * dt M v 0 n a + (-1) * sK (fun b => if a = b then v b else 0) 0 n := by rw [sK_1 0 n (by omega) (by omega)]; omega
  rw [e]
  unfold dt
  rw [← sK_l]
  refine sK_m 0 n (fun b _ _ => ?_)
  show cg p (dgM p M a b * v b) (1 * (M a b * v b) + -1 * (if a = b then v b else 0))
  unfold dgM
  by_cases z : a = b
  · rw [if_pos z, if_pos z]
    have e2 : 1 * (M a b * v b) + -1 * v b = (M a b - 1) * v b := by rw [Int.sub_mul]; omega
    rw [e2]
    exact cg_mul (cg_mod _ _) (cg_rf _ _)
  · rw [if_neg z, if_neg z]
    have e2 : 1 * (M a b * v b) + -1 * 0 = M a b * v b := by omega
    rw [e2]
theorem fix_sol {p : Int} {n : Nat} {xs : List Int32} {v : Nat → Int} (hk : okk n xs) (hv : ∀ a, a < n → 0 ≤ v a ∧ v a < p) : (∀ a, a < n → fnV p xs v a = v a) ↔ SolD n p (dgM p (crsM p xs)) 0 0 v := by
  have h := fnV_dt hk hv xs.length (Nat.le_refl _)
  rw [List.take_length] at h
  constructor
  · intro q a _ ha
    rw [Nat.sub_zero, dg_dt ha]
    have := h a ha
    rw [q a ha] at this
    have c : cg p (dt (crsM p xs) v 0 n a - v a) (v a - v a) := cg_sub (by unfold cg; rw [← this, Int.emod_eq_of_lt (hv a ha).1 (hv a ha).2]) (cg_rf _ _)
    unfold cg at c
    rw [c, Int.sub_self]
    simp
  · intro q a ha
    have := q a (by omega) ha
    rw [Nat.sub_zero, dg_dt ha] at this
    rw [h a ha]
    have c : cg p (dt (crsM p xs) v 0 n a - v a + v a) (0 + v a) := cg_add (by unfold cg; rw [this]; simp) (cg_rf _ _)
    unfold cg at c
    rw [Int.sub_add_cancel, Int.zero_add, Int.emod_eq_of_lt (hv a ha).1 (hv a ha).2] at c
    exact c
/-! all codes -/
theorem sR_add {g : Nat → Nat} : ∀ (a b : Nat), sR g (a + b) = sR g a + sR (fun c => g (a + c)) b
  | a, 0 => rfl
  | a, b + 1 => by
    show sR g (a + b) + g (a + b) = sR g a + (sR (fun c => g (a + c)) b + g (a + b))
    rw [sR_add a b]; omega
theorem sR_mul {g : Nat → Nat} {Q : Nat} : ∀ P, sR g (P * Q) = sR (fun x => sR (fun c => g (x * Q + c)) Q) P
  | 0 => by rw [Nat.zero_mul]; rfl
  | P + 1 => by
    rw [Nat.add_mul, Nat.one_mul, sR_add]
    show sR g (P * Q) + _ = sR (fun x => sR (fun c => g (x * Q + c)) Q) P + sR (fun c => g (P * Q + c)) Q
    rw [sR_mul P]
abbrev vec (P m c : Nat) (v : Nat → Int) : Nat → Int := fun j => if j < m then ((c / P ^ j % P : Nat) : Int) else v j
theorem svR_code {P : Nat} (hP : 0 < P) {F : (Nat → Int) → Nat} : ∀ (m : Nat) (v : Nat → Int), svR P 0 F m v = sR (fun c => F (vec P m c v)) (P ^ m)
  | 0, v => by
    show F v = sR (fun c => F (vec P 0 c v)) (P ^ 0)
    rw [Nat.pow_zero]
    show F v = 0 + F (vec P 0 0 v)
    rw [Nat.zero_add]
    congr 1
  | m + 1, v => by
    rw [Nat.pow_succ, Nat.mul_comm, sR_mul]
    show sR (fun x => svR P 0 F m (updI v (0 + m) x)) P = _
    refine sR_c P (fun x hx => ?_)
    rw [svR_code hP m, Nat.zero_add]
    refine sR_c _ (fun c hc => ?_)
    congr 1
    funext j
    show (if j < m then ((c / P ^ j % P : Nat) : Int) else if j = m then (x : Int) else v j) = if j < m + 1 then (((x * P ^ m + c) / P ^ j % P : Nat) : Int) else v j
    have hpj : 0 < P ^ j := Nat.pow_pos hP
    by_cases z : j < m
    · rw [if_pos z, if_pos (by omega)]
      congr 1
      have e : x * P ^ m + c = P ^ j * (P * (x * P ^ (m - j - 1))) + c := by
        congr 1
        rw [show P ^ j * (P * (x * P ^ (m - j - 1))) = x * (P ^ j * P * P ^ (m - j - 1)) by rw [← Nat.mul_assoc, ← Nat.mul_assoc, Nat.mul_comm (P ^ j * P) x, Nat.mul_assoc], ← Nat.pow_succ, ← Nat.pow_add, show j + 1 + (m - j - 1) = m by omega]
      rw [e, Nat.mul_add_div hpj, Nat.mul_add_mod]
    · rw [if_neg z]
      by_cases y : j = m
      · subst y
        rw [if_pos rfl, if_pos (by omega), Nat.mul_comm x, Nat.mul_add_div hpj, Nat.div_eq_of_lt hc, Nat.add_zero, Nat.mod_eq_of_lt hx]
      · rw [if_neg y, if_neg (by omega)]
abbrev dgv (P c : Nat) : Nat → Int := fun j => ((c / P ^ j % P : Nat) : Int)
/-- whether numbers told as one come out as they went in -/
abbrev cmo (P : Nat) (xs : List Int32) (c : Nat) : Prop := ∀ a, a < 4 → fnV P xs (dgv P c) a = dgv P c a
theorem cnt_eq {P n : Nat} {xs : List Int32} (hp : P = 3 ∨ P = 5 ∨ P = 7) (hk : okk n xs) (hn : n ≤ 4) : sR (fun c => if cmo P xs c then 1 else 0) (P ^ n) = P ^ (frN n P xs) := by
  have hP : 0 < P := by omega
  have hin : inN n P (dgM P (crsM P xs)) := by
    have hc : ∀ (ys : List Int32), inN n P (crsM P ys) → ∀ c, inN n P (crsM P (ys ++ [c])) ∨ ¬ (1 ≤ c.toInt.natAbs ∧ c.toInt.natAbs < n) := fun ys h c => by
      by_cases z : 1 ≤ c.toInt.natAbs ∧ c.toInt.natAbs < n
      · left
        intro a b ha hb
        rw [crsM_snoc]
        unfold crM
        split
        · split
          · exact ⟨Int.emod_nonneg _ (by omega), Int.emod_lt_of_pos _ (by omega)⟩
          · exact h _ b (by omega) hb
        · split
          · split
            · exact h _ b (by omega) hb
            · exact ⟨Int.emod_nonneg _ (by omega), Int.emod_lt_of_pos _ (by omega)⟩
          · exact h a b ha hb
      · exact Or.inr z
    have h0 : ∀ i, i ≤ xs.length → inN n P (crsM P (xs.take i)) := by
      intro i
      induction i with
      | zero =>
        intro _ a b _ _
        show 0 ≤ idM a b ∧ idM a b < P
        unfold idM
        split <;> omega
      | succ i ih =>
        intro hi
        have hm : xs.getD i 0 ∈ xs := by
          rw [List.getD_eq_getElem?_getD, List.getElem?_eq_getElem (by omega)]
          exact List.getElem_mem _
        rw [take_snoc (by omega)]
        exact (hc _ (ih (by omega)) _).resolve_right (fun q => q (hk _ hm))
    have h1 := h0 xs.length (Nat.le_refl _)
    rw [List.take_length] at h1
    intro a b ha hb
    unfold dgM
    split
    · exact ⟨Int.emod_nonneg _ (by omega), Int.emod_lt_of_pos _ (by omega)⟩
    · exact h1 a b ha hb
  have hca := count_all hp n 0 (dgM P (crsM P xs)) 0 (fun _ => 0) (by omega) (by omega) hin
  rw [← rkG_F, Nat.sub_zero, svR_code hP] at hca
  unfold frN
  rw [← hca]
  refine sR_c _ (fun c hc => ?_)
  have hv : vec P n c (fun _ => 0) = dgv P c := by
    funext j
    show (if j < n then ((c / P ^ j % P : Nat) : Int) else 0) = ((c / P ^ j % P : Nat) : Int)
    by_cases z : j < n
    · rw [if_pos z]
    · rw [if_neg z, Nat.div_eq_of_lt (Nat.lt_of_lt_of_le hc (Nat.pow_le_pow_right hP (by omega))), Nat.zero_mod]; rfl
  rw [hv]
  have hdv : ∀ a, a < n → 0 ≤ dgv P c a ∧ dgv P c a < (P : Int) := fun a _ => by
    have := Nat.mod_lt (c / P ^ a) hP
    exact ⟨by show (0 : Int) ≤ ((c / P ^ a % P : Nat) : Int); omega, by show ((c / P ^ a % P : Nat) : Int) < P; omega⟩
  by_cases z : cmo P xs c
  · rw [if_pos z, iP_t ((fix_sol hk hdv).mp (fun a ha => z a (by omega)))]
  · rw [if_neg z, iP_f (fun q => z (fun a ha => ?_))]
    by_cases y : a < n
    · exact (fix_sol hk hdv).mpr q a y
    · exact fnV_ge hk (by omega)
