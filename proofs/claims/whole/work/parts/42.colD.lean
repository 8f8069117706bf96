/-! the reference: colours -/
theorem irem_t {x z : Int32} (h : 0 ≤ x.toInt) : (x - x / z * z).toInt = x.toInt % z.toInt := by rw [rem_toInt, Int.tmod_eq_emod_of_nonneg h]
theorem idiv_t {x z : Int32} (h : 0 ≤ x.toInt) (hz : 0 < z.toInt) : (x / z).toInt = x.toInt / z.toInt := by
  have h1 := i_hi x
  have h2 : x.toInt / z.toInt ≤ x.toInt := Int.ediv_le_self _ h
  have h3 : 0 ≤ x.toInt / z.toInt := Int.ediv_nonneg h (by omega)
  rw [Int32.toInt_div, Int.tdiv_eq_ediv_of_nonneg h, bm_id (by omega) (by omega)]
abbrev c9 : Nat → Prop := fun a => a = 119
theorem mq_9 {σ τ : ST} (h : off c9 σ τ) : mq σ τ := ⟨h.mono (fun a ha => by rw [show a = 119 from ha]; unfold msP; omega), by rw [(h 112 (by decide)).1], by rw [(h 112 (by decide)).1]⟩
theorem ld_9 {σ τ : ST} {xs : List Int32} (hx : LD σ xs) (h : off c9 σ τ) : LD τ xs := ⟨by rw [(h 112 (by decide)).1]; exact hx.1, hx.2.1, fun i hi => by rw [(h 115 (by decide)).1]; exact hx.2.2 i hi⟩
theorem o9 {σ τ : ST} {j : Nat} {v : Int32} (h : off c9 σ τ) : off c9 σ (ui τ 119 j v) := h.ui rfl
def CV (σ : ST) (v : Nat → Int) : Prop := ∀ j, j < 4 → (σ.1 119 j).toInt = v j
theorem p3 {P : Nat} (hp : P = 3 ∨ P = 5 ∨ P = 7) : (nI P).toInt = P ∧ 3 ≤ P ∧ P ≤ 7 := by rcases hp with rfl | rfl | rfl <;> decide
theorem hor {P c : Nat} (hp : P = 3 ∨ P = 5 ∨ P = 7) (hc : c < P ^ 4) {w0 w1 w2 w3 : Int} (h0 : 0 ≤ w0 ∧ w0 < P) (h1 : 0 ≤ w1 ∧ w1 < P) (h2 : 0 ≤ w2 ∧ w2 < P) (h3 : 0 ≤ w3 ∧ w3 < P) : (P : Int) * (P * (P * (P * 0 + w3) + w2) + w1) + w0 = c ↔ (w0 = (c / P ^ 0 % P : Nat) ∧ w1 = (c / P ^ 1 % P : Nat) ∧ w2 = (c / P ^ 2 % P : Nat) ∧ w3 = (c / P ^ 3 % P : Nat)) := by
  rcases hp with rfl | rfl | rfl
  · have hc : c < 81 := hc
    rw [show 3 ^ 0 = 1 from rfl, show 3 ^ 1 = 3 from rfl, show 3 ^ 2 = 9 from rfl, show 3 ^ 3 = 27 from rfl]
    omega
  · have hc : c < 625 := hc
    rw [show 5 ^ 0 = 1 from rfl, show 5 ^ 1 = 5 from rfl, show 5 ^ 2 = 25 from rfl, show 5 ^ 3 = 125 from rfl]
    omega
  · have hc : c < 2401 := hc
    rw [show 7 ^ 0 = 1 from rfl, show 7 ^ 1 = 7 from rfl, show 7 ^ 2 = 49 from rfl, show 7 ^ 3 = 343 from rfl]
    omega
theorem p_le {P : Nat} (hp : P = 3 ∨ P = 5 ∨ P = 7) {j : Nat} (hj : j ≤ 4) : 1 ≤ P ^ j ∧ P ^ j ≤ 2401 := by
  refine ⟨Nat.pow_pos (by omega), ?_⟩
  refine Nat.le_trans (Nat.pow_le_pow_right (by omega) hj) ?_
  rcases hp with rfl | rfl | rfl <;> decide
theorem i_lin {a b m d : Int32} {x z : Int} (hP : a.toInt = x) (hm : m.toInt = z) {u : Int} (hd : d.toInt = u) (h1 : -2147483648 ≤ x * z) (h2 : x * z < 2147483648) (h3 : -2147483648 ≤ x * z + u) (h4 : x * z + u < 2147483648) : (a * m + d).toInt = x * z + u := by
  have e := i_mul (x := a) (z := m) (by rw [hP, hm]; exact h1) (by rw [hP, hm]; exact h2)
  rw [hP, hm] at e
  rw [i_add (by rw [e, hd]; exact h3) (by rw [e, hd]; exact h4), e, hd]
set_option maxRecDepth 100000 in
theorem l_X12_coC {l : Launch} {X : CX} {h : Nat} {Q : Option Value → ST → Prop} {σ : ST} {P c : Nat} {v : Nat → Int} {q3 : Int32} {q6 q7 q8 : Option Value} (hp : P = 3 ∨ P = 5 ∨ P = 7) (hv : CV σ v) (hin : ∀ j, j < 4 → 0 ≤ v j ∧ v j < P) (hQ : ∀ a : Int32, a.toInt = (P : Int) * (P * (P * (P * 0 + v 3) + v 2) + v 1) + v 0 → Q (some (.int (if a = nI c then 1 else 0))) σ) : ∀ (N k : Nat) (a : Int32), N = k → (k ≤ 4 ∧ a.toInt = (List.range (4 - k)).foldl (fun z j => P * z + v (3 - j)) 0) → RJ (GM l X h Q) X cX12_comesOut 9 (some .boolean) RX12 162 [some (.ref (ad X 112)), some (.int (nI c)), some (.int (nI P)), some (.int q3), some (.int a), some (.int (nI k - 1)), q6, q7, q8] [] σ := by
  intro N
  induction N with
  | zero =>
    intro k a hN hi
    subst hN
    obtain ⟨hpt, hp3, hp7⟩ := p3 hp
    have ha := hi.2
    clear hi
    rw [show (nI 0 - 1) = (-1 : Int32) from rfl]
    refine rj_ild dX12_comesOut_162 rfl ?_
    refine rj_if_lt (tgt := 187) dX12_comesOut_164 (by decide) (fun h_164 => ?_) (fun h_164 => ?_)
    · refine rj_ild dX12_comesOut_187 rfl ?_
      refine rj_ild1 dX12_comesOut_189 rfl ?_
      refine rj_ic_ne (tgt := 197) dX12_comesOut_190 (by decide) (fun h_190 => ?_) (fun h_190 => ?_)
      · refine rj_ic0 dX12_comesOut_197 ?_
        refine rj_zret dX12_comesOut_198 (rfl) ?_
        have k2 := hQ a (ha.trans rfl)
        rw [if_neg h_190] at k2
        exact k2
      · refine rj_ic1 dX12_comesOut_193 ?_
        refine rj_goto (tgt := 198) dX12_comesOut_194 (by decide) ?_
        refine rj_zret dX12_comesOut_198 (rfl) ?_
        have k2 := hQ a (ha.trans rfl)
        rw [if_pos h_190] at k2
        exact k2
    · exact absurd h_164 (by decide)
  | succ N ih =>
    intro k a hN hi
    subst hN
    obtain ⟨hi4, ha⟩ := hi
    obtain ⟨hpt, hp3, hp7⟩ := p3 hp
    have hkm : nI (N + 1) - 1 = nI N := by
      apply i_inj
      rw [i_sub (by rw [nI_t (by omega), t1]; omega) (by rw [nI_t (by omega), t1]; omega), nI_t (by omega), nI_t (by omega), t1]
      omega
    have hkt : (nI N).toInt = N := nI_t (by omega)
    have hvN := hv N (by omega)
    have hb := hin N (by omega)
    have hal : 0 ≤ a.toInt ∧ a.toInt < 400 := by
      rw [ha]
      have b0 := hin 0 (by omega)
      have b1 := hin 1 (by omega)
      have b2 := hin 2 (by omega)
      have b3 := hin 3 (by omega)
      match N, hi4 with
      | 0, _ => show 0 ≤ (P : Int) * (P * (P * 0 + v 3) + v 2) + v 1 ∧ (P : Int) * (P * (P * 0 + v 3) + v 2) + v 1 < 400; rcases hp with rfl | rfl | rfl <;> omega
      | 1, _ => show 0 ≤ (P : Int) * (P * 0 + v 3) + v 2 ∧ (P : Int) * (P * 0 + v 3) + v 2 < 400; rcases hp with rfl | rfl | rfl <;> omega
      | 2, _ => show 0 ≤ (P : Int) * 0 + v 3 ∧ (P : Int) * 0 + v 3 < 400; rcases hp with rfl | rfl | rfl <;> omega
      | 3, _ => exact ⟨by show (0 : Int) ≤ 0; omega, by show (0 : Int) < 400; omega⟩
    have hlin : (nI P * a + σ.1 119 N).toInt = P * a.toInt + v N := i_lin (b := 0) hpt rfl hvN (by rcases hp with rfl | rfl | rfl <;> omega) (by rcases hp with rfl | rfl | rfl <;> omega) (by rcases hp with rfl | rfl | rfl <;> omega) (by rcases hp with rfl | rfl | rfl <;> omega)
    rw [hkm]
    refine rj_ild dX12_comesOut_162 rfl ?_
    refine rj_if_lt (tgt := 187) dX12_comesOut_164 (by decide) (fun h_164 => ?_) (fun h_164 => ?_)
    · exfalso; omega
    · refine rj_ild2 dX12_comesOut_167 rfl ?_
      refine rj_ild dX12_comesOut_168 rfl ?_
      refine rj_imul dX12_comesOut_170 ?_
      refine rj_ald0 dX12_comesOut_171 rfl ?_
      refine g12_28 dX12_comesOut_172 ?_
      refine rj_ild dX12_comesOut_175 rfl ?_
      refine rj_iald (by first | assumption | rfl) (vpi (by omega) (by show _ < ((4 : Nat) : Int); omega)) dX12_comesOut_177 ?_
      rw [nI_clamp (by omega)]
      refine rj_iadd dX12_comesOut_178 ?_
      refine rj_ist4w dX12_comesOut_179 (by decide) rfl ?_
      refine rj_iinc5 (d := (-1)) dX12_comesOut_181 (by decide) rfl (by decide) ?_
      refine rj_goto (tgt := 162) dX12_comesOut_184 (by decide) ?_
      rw [show (nI N + (-1 : Int32)) = nI N - 1 from (Int32.sub_eq_add_neg _ _).symm]
      refine ih N _ rfl ⟨by omega, ?_⟩
      rw [hlin, ha, show 4 - N = (4 - (N + 1)) + 1 by omega, List.range_succ, List.foldl_append]
      show _ = P * _ + v (3 - (4 - (N + 1)))
      rw [show 3 - (4 - (N + 1)) = N by omega]

theorem irem_n {x P : Nat} (hx : x < 2147483648) (hP : P < 2147483648) : nI x - nI x / nI P * nI P = nI (x % P) := by
  apply i_inj
  have h : x % P ≤ x := Nat.mod_le _ _
  rw [irem_t (by rw [nI_t hx]; omega), nI_t hx, nI_t hP, nI_t (by omega), Int.natCast_emod]
theorem idiv_n {x P : Nat} (hx : x < 2147483648) (h0 : 0 < P) (hP : P < 2147483648) : nI x / nI P = nI (x / P) := by
  apply i_inj
  have h : x / P ≤ x := Nat.div_le_self _ _
  rw [idiv_t (by rw [nI_t hx]; omega) (by rw [nI_t hP]; omega), nI_t hx, nI_t hP, nI_t (by omega), Int.natCast_ediv]
theorem cmo_iff {P c : Nat} {xs : List Int32} {v : Nat → Int} (hp : P = 3 ∨ P = 5 ∨ P = 7) (hc : c < P ^ 4) (hv : ∀ j, j < 4 → v j = fnV P xs (dgv P c) j) (hin : ∀ j, j < 4 → 0 ≤ v j ∧ v j < P) {a : Int32} (ha : a.toInt = (P : Int) * (P * (P * (P * 0 + v 3) + v 2) + v 1) + v 0) : (if a = nI c then (1 : Int32) else 0) = if cmo P xs c then 1 else 0 := by
  have h4 := (p_le hp (Nat.le_refl 4)).2
  have hct : (nI c).toInt = c := nI_t (by omega)
  have hh := hor hp hc (hin 0 (by omega)) (hin 1 (by omega)) (hin 2 (by omega)) (hin 3 (by omega))
  have e : a = nI c ↔ cmo P xs c := by
    constructor
    · intro q
      have q2 := hh.mp (by rw [← ha, q, hct])
      intro j hj
      rw [← hv j hj]
      match j, hj with
      | 0, _ => exact q2.1
      | 1, _ => exact q2.2.1
      | 2, _ => exact q2.2.2.1
      | 3, _ => exact q2.2.2.2
    · intro q
      apply i_inj
      rw [ha, hct]
      exact hh.mpr ⟨by rw [hv 0 (by omega)]; exact q 0 (by omega), by rw [hv 1 (by omega)]; exact q 1 (by omega), by rw [hv 2 (by omega)]; exact q 2 (by omega), by rw [hv 3 (by omega)]; exact q 3 (by omega)⟩
  by_cases z : a = nI c
  · rw [if_pos z, if_pos (e.mp z)]
  · rw [if_neg z, if_neg (fun y => z (e.mpr y))]
theorem two_m {a b : Int32} {P : Nat} {x z : Int} (hp : P = 3 ∨ P = 5 ∨ P = 7) (ha : a.toInt = x) (hb : b.toInt = z) (h1 : 0 ≤ x ∧ x < P) (h2 : 0 ≤ z ∧ z < P) : ((2 * a + nI P - b) - (2 * a + nI P - b) / nI P * nI P).toInt = (2 * x + P - z) % P := by
  obtain ⟨hpt, hp3, hp7⟩ := p3 hp
  have t2 : (2 : Int32).toInt = 2 := by decide
  have e1 : (2 * a).toInt = 2 * x := by rw [i_mul (by rw [t2, ha]; omega) (by rw [t2, ha]; omega), t2, ha]
  have e2 : (2 * a + nI P).toInt = 2 * x + P := by rw [i_add (by rw [e1, hpt]; omega) (by rw [e1, hpt]; omega), e1, hpt]
  have e3 : (2 * a + nI P - b).toInt = 2 * x + P - z := by rw [i_sub (by rw [e2, hb]; omega) (by rw [e2, hb]; omega), e2, hb]
  rw [irem_t (by rw [e3]; omega), e3, hpt]
theorem cv_put {σ : ST} {k : Nat} {x z : Int32} {v w : Nat → Int} (hk : 1 ≤ k) (hk4 : k < 4) (hv : CV σ v) (h1 : w (k - 1) = x.toInt) (h2 : w k = z.toInt) (h3 : ∀ j, j ≠ k - 1 → j ≠ k → w j = v j) : CV (ui (ui σ 119 (k - 1) x) 119 k z) w := by
  intro j hj
  rw [ui_at, ui_at]
  by_cases a : j = k
  · rw [if_pos ⟨rfl, a⟩, a, h2]
  · rw [if_neg (fun y => a y.2)]
    by_cases b : j = k - 1
    · rw [if_pos ⟨rfl, b⟩, b, h1]
    · rw [if_neg (fun y => b y.2), h3 j b a]; exact hv j hj
set_option maxRecDepth 100000 in
theorem l_X12_coB {l : Launch} {X : CX} {h : Nat} {Q : Option Value → ST → Prop} {σ : ST} {rc : Int32} {P c : Nat} {xs : List Int32} {q3 : Int32} (hh : 1 ≤ h) (hp : P = 3 ∨ P = 5 ∨ P = 7) (hc : c < P ^ 4) (hx : LD σ xs) (hok : okL rc xs) (hr4 : rc.toInt ≤ 4) (hQ : ∀ τ, off c9 σ τ → Q (some (.int (if cmo P xs c then 1 else 0))) τ) : ∀ (N i : Nat) (τ : ST) (y5 y6 y7 y8 : Option Value), xs.length < i + N → (i ≤ xs.length ∧ CV τ (fnV P (xs.take i) (dgv P c)) ∧ off c9 σ τ) → RJ (GM l X h Q) X cX12_comesOut 9 (some .boolean) RX12 34 [some (.ref (ad X 112)), some (.int (nI c)), some (.int (nI P)), some (.int q3), some (.int (nI i)), y5, y6, y7, y8] [] τ := by
  intro N
  induction N with
  | zero => intro i τ y5 y6 y7 y8 hN hi; have := hi.1; exact absurd hN (by omega)
  | succ N ih =>
    intro i τ y5 y6 y7 y8 hN hi
    obtain ⟨hi, hT, ho⟩ := hi
    obtain ⟨hpt, hp3, hp7⟩ := p3 hp
    have hX := ld_9 hx ho
    have hcl := hX.2.1
    have hs := hX.1
    have hlt : (nI xs.length).toInt = xs.length := nI_t (by omega)
    have hit : (nI i).toInt = i := nI_t (by omega)
    have hdv : ∀ a, 0 ≤ dgv P c a ∧ dgv P c a < (P : Int) := fun a => by
      have := Nat.mod_lt (c / P ^ a) (show 0 < P by omega)
      exact ⟨by show (0 : Int) ≤ ((c / P ^ a % P : Nat) : Int); omega, by show ((c / P ^ a % P : Nat) : Int) < P; omega⟩
    have hbd := fnV_in (p := P) (n := 4) (by omega) (xs := xs.take i) hdv
    refine rj_ild dX12_comesOut_34 rfl ?_
    refine rj_ald0 dX12_comesOut_36 rfl ?_
    refine g12_114 dX12_comesOut_37 ?_
    rw [hs]
    refine rj_ic_ge (tgt := 156) dX12_comesOut_40 (by decide) (fun h_40 => ?_) (fun h_40 => ?_)
    · refine rj_ic0 dX12_comesOut_156 ?_
      refine rj_ist4w dX12_comesOut_157 (by decide) rfl ?_
      refine rj_ic3 dX12_comesOut_159 ?_
      refine rj_ist5w dX12_comesOut_160 (by decide) rfl ?_
      have hie : i = xs.length := by omega
      rw [hie, List.take_length] at hT hbd
      have k := l_X12_coC (l := l) (X := X) (h := h) (Q := Q) (c := c) (q3 := q3) (q6 := y6) (q7 := y7) (q8 := y8) hp hT (fun j _ => hbd j) (fun a ha => by rw [cmo_iff hp hc (fun j _ => rfl) (fun j _ => hbd j) ha]; exact hQ τ ho) 4 4 0 rfl ⟨by omega, rfl⟩
      rw [show nI 4 - 1 = (3 : Int32) from rfl] at k
      exact k
    · obtain ⟨k, hk, hcv, hk1, hk4⟩ : ∃ k : Nat, (xs.getD i 0).toInt.natAbs = k ∧ iab (xs.getD i 0) = nI k ∧ 1 ≤ k ∧ k < 4 := by
        have q := iab_ok (okL_get hok (show i < xs.length by omega)) hr4
        exact ⟨_, rfl, nI_of_toInt q.1, q.2.1, q.2.2.1⟩
      have hkt : (nI k).toInt = k := nI_t (by omega)
      have hkm : nI k - 1 = nI (k - 1) := by
        apply i_inj
        rw [i_sub (by rw [hkt, t1]; omega) (by rw [hkt, t1]; omega), hkt, t1, nI_t (by omega)]
        omega
      have hkmt : (nI (k - 1)).toInt = (k - 1 : Nat) := nI_t (by omega)
      have hA := hT (k - 1) (by omega)
      have hB := hT k hk4
      have hbA := hbd (k - 1)
      have hbB := hbd k
      refine rj_ald0 dX12_comesOut_43 rfl ?_
      refine g12_16 dX12_comesOut_44 ?_
      refine rj_ild dX12_comesOut_47 rfl ?_
      refine rj_iald (by first | assumption | rfl) (vpi (by omega) (by show _ < ((24 : Nat) : Int); omega)) dX12_comesOut_49 ?_
      rw [nI_clamp (by omega), hX.2.2 i (by omega)]
      refine rj_S1i cX12_144 dX12_comesOut_50 c_X12_apartOf (fitM (by omega) (by decide)) (Nat.le_of_ble_eq_true rfl) ?_
      rw [hcv]
      refine rj_ist5w dX12_comesOut_53 (by decide) rfl ?_
      refine rj_ald0 dX12_comesOut_55 rfl ?_
      refine g12_28 dX12_comesOut_56 ?_
      refine rj_ild dX12_comesOut_59 rfl ?_
      refine rj_ic1 dX12_comesOut_61 ?_
      refine rj_isub dX12_comesOut_62 ?_
      rw [hkm]
      refine rj_iald (by first | assumption | rfl) (vpi (by omega) (by show _ < ((4 : Nat) : Int); omega)) dX12_comesOut_63 ?_
      rw [nI_clamp (by omega)]
      refine rj_ist6w dX12_comesOut_64 (by decide) rfl ?_
      refine rj_ald0 dX12_comesOut_66 rfl ?_
      refine g12_28 dX12_comesOut_67 ?_
      refine rj_ild dX12_comesOut_70 rfl ?_
      refine rj_iald (by first | assumption | rfl) (vpi (by omega) (by show _ < ((4 : Nat) : Int); omega)) dX12_comesOut_72 ?_
      rw [nI_clamp (by omega)]
      refine rj_ist7w dX12_comesOut_73 (by decide) rfl ?_
      refine rj_ald0 dX12_comesOut_75 rfl ?_
      refine g12_16 dX12_comesOut_76 ?_
      refine rj_ild dX12_comesOut_79 rfl ?_
      refine rj_iald (by first | assumption | rfl) (vpi (by omega) (by show _ < ((24 : Nat) : Int); omega)) dX12_comesOut_81 ?_
      rw [nI_clamp (by omega), hX.2.2 i (by omega)]
      refine rj_if_le (tgt := 89) dX12_comesOut_82 (by decide) (fun h_82 => ?_) (fun h_82 => ?_)
      · refine rj_ic0 dX12_comesOut_89 ?_
        refine rj_ist8w dX12_comesOut_90 (by decide) rfl ?_
        refine rj_ald0 dX12_comesOut_92 rfl ?_
        refine g12_28 dX12_comesOut_93 ?_
        refine rj_ild dX12_comesOut_96 rfl ?_
        refine rj_ic1 dX12_comesOut_98 ?_
        refine rj_isub dX12_comesOut_99 ?_
        rw [hkm]
        refine rj_ild dX12_comesOut_100 rfl ?_
        refine rj_if_eq (tgt := 119) dX12_comesOut_102 (by decide) (fun h_102 => ?_) (fun h_102 => ?_)
        · refine rj_ild dX12_comesOut_119 rfl ?_
          refine rj_iast (by first | assumption | rfl) (vpi (by omega) (by show _ < ((4 : Nat) : Int); omega)) dX12_comesOut_121 ?_
          rw [nI_clamp (by omega)]
          refine rj_ald0 dX12_comesOut_122 rfl ?_
          refine g12_28 dX12_comesOut_123 ?_
          refine rj_ild dX12_comesOut_126 rfl ?_
          refine rj_ild dX12_comesOut_128 rfl ?_
          refine rj_if_eq (tgt := 138) dX12_comesOut_130 (by decide) (fun h_130 => ?_) (fun h_130 => ?_)
          · refine rj_ic2 dX12_comesOut_138 ?_
            refine rj_ild dX12_comesOut_139 rfl ?_
            refine rj_imul dX12_comesOut_141 ?_
            refine rj_ild2 dX12_comesOut_142 rfl ?_
            refine rj_iadd dX12_comesOut_143 ?_
            refine rj_ild dX12_comesOut_144 rfl ?_
            refine rj_isub dX12_comesOut_146 ?_
            refine rj_ild2 dX12_comesOut_147 rfl ?_
            refine rj_irem dX12_comesOut_148 (fun q => by have := congrArg Int32.toInt q; rw [t0] at this; omega) ?_
            refine rj_iast (by first | assumption | rfl) (vpi (by omega) (by show _ < ((4 : Nat) : Int); omega)) dX12_comesOut_149 ?_
            rw [nI_clamp (by omega)]
            refine rj_iinc4 (d := 1) dX12_comesOut_150 (by decide) rfl (by decide) ?_
            rw [nI_1]
            refine rj_goto (tgt := 34) dX12_comesOut_153 (by decide) ?_
            have hcr := fnV_snoc P (xs.take i) (xs.getD i 0) (dgv P c)
            rw [← take_snoc (by omega)] at hcr
            refine ih (i + 1) _ _ _ _ _ (by omega) ⟨by omega, cv_put hk1 hk4 hT ?_ ?_ (fun j z1 z2 => ?_), o9 (o9 ho)⟩
            · rw [hcr, crV, hk, if_pos rfl, if_neg (show ¬ 0 < (xs.getD i 0).toInt by omega)]; exact hB.symm
            · rw [hcr, crV, hk, if_neg (by omega), if_pos rfl, if_neg (show ¬ 0 < (xs.getD i 0).toInt by omega), two_m hp hB hA hbB hbA]
            · rw [hcr, crV, hk, if_neg z1, if_neg z2]
          · exact absurd rfl h_130
        · exact absurd rfl h_102
      · refine rj_ic1 dX12_comesOut_85 ?_
        refine rj_goto (tgt := 90) dX12_comesOut_86 (by decide) ?_
        refine rj_ist8w dX12_comesOut_90 (by decide) rfl ?_
        refine rj_ald0 dX12_comesOut_92 rfl ?_
        refine g12_28 dX12_comesOut_93 ?_
        refine rj_ild dX12_comesOut_96 rfl ?_
        refine rj_ic1 dX12_comesOut_98 ?_
        refine rj_isub dX12_comesOut_99 ?_
        rw [hkm]
        refine rj_ild dX12_comesOut_100 rfl ?_
        refine rj_if_eq (tgt := 119) dX12_comesOut_102 (by decide) (fun h_102 => ?_) (fun h_102 => ?_)
        · exact absurd h_102 (by decide)
        · refine rj_ic2 dX12_comesOut_105 ?_
          refine rj_ild dX12_comesOut_106 rfl ?_
          refine rj_imul dX12_comesOut_108 ?_
          refine rj_ild2 dX12_comesOut_109 rfl ?_
          refine rj_iadd dX12_comesOut_110 ?_
          refine rj_ild dX12_comesOut_111 rfl ?_
          refine rj_isub dX12_comesOut_113 ?_
          refine rj_ild2 dX12_comesOut_114 rfl ?_
          refine rj_irem dX12_comesOut_115 (fun q => by have := congrArg Int32.toInt q; rw [t0] at this; omega) ?_
          refine rj_goto (tgt := 121) dX12_comesOut_116 (by decide) ?_
          refine rj_iast (by first | assumption | rfl) (vpi (by omega) (by show _ < ((4 : Nat) : Int); omega)) dX12_comesOut_121 ?_
          rw [nI_clamp (by omega)]
          refine rj_ald0 dX12_comesOut_122 rfl ?_
          refine g12_28 dX12_comesOut_123 ?_
          refine rj_ild dX12_comesOut_126 rfl ?_
          refine rj_ild dX12_comesOut_128 rfl ?_
          refine rj_if_eq (tgt := 138) dX12_comesOut_130 (by decide) (fun h_130 => ?_) (fun h_130 => ?_)
          · exact absurd h_130 (by decide)
          · refine rj_ild dX12_comesOut_133 rfl ?_
            refine rj_goto (tgt := 149) dX12_comesOut_135 (by decide) ?_
            refine rj_iast (by first | assumption | rfl) (vpi (by omega) (by show _ < ((4 : Nat) : Int); omega)) dX12_comesOut_149 ?_
            rw [nI_clamp (by omega)]
            refine rj_iinc4 (d := 1) dX12_comesOut_150 (by decide) rfl (by decide) ?_
            rw [nI_1]
            refine rj_goto (tgt := 34) dX12_comesOut_153 (by decide) ?_
            have hcr := fnV_snoc P (xs.take i) (xs.getD i 0) (dgv P c)
            rw [← take_snoc (by omega)] at hcr
            refine ih (i + 1) _ _ _ _ _ (by omega) ⟨by omega, cv_put hk1 hk4 hT ?_ ?_ (fun j z1 z2 => ?_), o9 (o9 ho)⟩
            · rw [hcr, crV, hk, if_pos rfl, if_pos (show 0 < (xs.getD i 0).toInt by omega), two_m hp hA hB hbA hbB]
            · rw [hcr, crV, hk, if_neg (by omega), if_pos rfl, if_pos (show 0 < (xs.getD i 0).toInt by omega)]; exact hA.symm
            · rw [hcr, crV, hk, if_neg z1, if_neg z2]

set_option maxRecDepth 100000 in
theorem l_X12_coA {l : Launch} {X : CX} {h : Nat} {Q : Option Value → ST → Prop} {σ : ST} {rc : Int32} {P c : Nat} {xs : List Int32} (hh : 1 ≤ h) (hp : P = 3 ∨ P = 5 ∨ P = 7) (hc : c < P ^ 4) (hx : LD σ xs) (hok : okL rc xs) (hr4 : rc.toInt ≤ 4) (hQ : ∀ τ, off c9 σ τ → Q (some (.int (if cmo P xs c then 1 else 0))) τ) : ∀ (N i : Nat) (τ : ST), 4 < i + N → (i ≤ 4 ∧ (∀ j, j < i → (τ.1 119 j).toInt = dgv P c j) ∧ off c9 σ τ) → RJ (GM l X h Q) X cX12_comesOut 9 (some .boolean) RX12 5 [some (.ref (ad X 112)), some (.int (nI c)), some (.int (nI P)), some (.int (nI (c / P ^ i))), some (.int (nI i)), none, none, none, none] [] τ := by
  intro N
  induction N with
  | zero => intro i τ hN hi; have := hi.1; exact absurd hN (by omega)
  | succ N ih =>
    intro i τ hN hi
    obtain ⟨hi, hT, ho⟩ := hi
    obtain ⟨hpt, hp3, hp7⟩ := p3 hp
    have h4 := (p_le hp (Nat.le_refl 4)).2
    have hit : (nI i).toInt = i := nI_t (by omega)
    have q4 : (4 : Int32).toInt = 4 := by decide
    have hle : c / P ^ i ≤ c := Nat.div_le_self _ _
    refine rj_ild dX12_comesOut_5 rfl ?_
    refine rj_ic4 dX12_comesOut_7 ?_
    refine rj_ic_ge (tgt := 31) dX12_comesOut_8 (by decide) (fun h_8 => ?_) (fun h_8 => ?_)
    · refine rj_ic0 dX12_comesOut_31 ?_
      refine rj_ist4w dX12_comesOut_32 (by decide) rfl ?_
      exact l_X12_coB hh hp hc (ld_9 hx ho) hok hr4 (fun ψ h1 => hQ ψ (ho.tr h1)) (xs.length + 1) 0 τ _ _ _ _ (by omega) ⟨by omega, fun j hj => hT j (by omega), off.rf⟩
    · refine rj_ald0 dX12_comesOut_11 rfl ?_
      refine g12_28 dX12_comesOut_12 ?_
      refine rj_ild dX12_comesOut_15 rfl ?_
      refine rj_ild3 dX12_comesOut_17 rfl ?_
      refine rj_ild2 dX12_comesOut_18 rfl ?_
      refine rj_irem dX12_comesOut_19 (fun q => by have := congrArg Int32.toInt q; rw [t0] at this; omega) ?_
      rw [irem_n (by omega) (by omega)]
      refine rj_iast (by first | assumption | rfl) (vpi (by omega) (by show _ < ((4 : Nat) : Int); omega)) dX12_comesOut_20 ?_
      rw [nI_clamp (by omega)]
      refine rj_ild3 dX12_comesOut_21 rfl ?_
      refine rj_ild2 dX12_comesOut_22 rfl ?_
      refine rj_idiv dX12_comesOut_23 (fun q => by have := congrArg Int32.toInt q; rw [t0] at this; omega) ?_
      rw [idiv_n (by omega) (by omega) (by omega), Nat.div_div_eq_div_mul, ← Nat.pow_succ]
      refine rj_ist3 dX12_comesOut_24 (by decide) rfl ?_
      refine rj_iinc4 (d := 1) dX12_comesOut_25 (by decide) rfl (by decide) ?_
      rw [nI_1]
      refine rj_goto (tgt := 5) dX12_comesOut_28 (by decide) ?_
      refine ih (i + 1) _ (by omega) ⟨by omega, fun j hj => ?_, o9 ho⟩
      rw [ui_at]
      by_cases z : j = i
      · have hm : c / P ^ i % P < P := Nat.mod_lt _ (by omega)
        rw [if_pos ⟨rfl, z⟩, z, nI_t (by omega)]
      · rw [if_neg (fun y => z y.2)]; exact hT j (by omega)

set_option maxRecDepth 100000 in
theorem c_X12_comesOut {l : Launch} {X : CX} {σ : ST} {rc : Int32} {P c : Nat} {xs : List Int32} (hp : P = 3 ∨ P = 5 ∨ P = 7) (hc : c < P ^ 4) (hx : LD σ xs) (hok : okL rc xs) (hr4 : rc.toInt ≤ 4) : MJ l X 1 yX12_comesOut cX12_comesOut 9 (some .boolean) [.ref (ad X 112), .int (nI c), .int (nI P)] σ ((fun v τ => v = some (.int (if cmo P xs c then 1 else 0)) ∧ off c9 σ τ)) := by
  refine MJ_of (own := RX12) [some (.ref (ad X 112)), some (.int (nI c)), some (.int (nI P)), none, none, none, none, none, none] (by decide) rfl (Nat.le_of_ble_eq_true rfl) rfl ?_
  refine rj_ild1 dX12_comesOut_0 rfl ?_
  refine rj_ist3 dX12_comesOut_1 (by decide) rfl ?_
  refine rj_ic0 dX12_comesOut_2 ?_
  refine rj_ist4w dX12_comesOut_3 (by decide) rfl ?_
  have k := l_X12_coA (l := l) (X := X) (h := 1) (Q := (fun v τ => v = some (.int (if cmo P xs c then 1 else 0)) ∧ off c9 σ τ)) (by decide) hp hc hx hok hr4 (fun τ h1 => ⟨rfl, h1⟩) 5 0 σ (by omega) ⟨by omega, fun j hj => absurd hj (by omega), off.rf⟩
  rw [Nat.pow_zero, Nat.div_one] at k
  exact k

theorem pwr_n {P : Nat} : ∀ n, pwr (nI P) n = nI (P ^ n)
  | 0 => rfl
  | n + 1 => by show pwr (nI P) n * nI P = _; rw [pwr_n n, pk_mul, ← Nat.pow_succ]
set_option maxRecDepth 100000 in
theorem l_X12_all {l : Launch} {X : CX} {h : Nat} {Q : Option Value → ST → Prop} {σ : ST} {A : SA} {p : Int32} (hw : wf A) (hM : MR σ A) (hQ : Q (some (.int (pwr p A.2.1.1.toInt.toNat))) σ) : ∀ (N i : Nat), A.2.1.1.toInt.toNat < i + N → i ≤ A.2.1.1.toInt.toNat → RJ (GM l X h Q) X cX12_all 4 (some .int) RX12 4 [some (.ref (ad X 112)), some (.int p), some (.int (pwr p i)), some (.int (nI i))] [] σ := by
  intro N
  induction N with
  | zero => intro i hN hi; exact absurd hN (by omega)
  | succ N ih =>
    intro i hN hi
    have h0 : σ.1 113 0 = A.2.1.1 := hM.1.1
    have hr4 := hw.1.2.1
    have hit : (nI i).toInt = i := nI_t (by omega)
    refine rj_ild3 dX12_all_4 rfl ?_
    refine rj_ald0 dX12_all_5 rfl ?_
    refine g12_7 dX12_all_6 ?_
    refine rj_ic0 dX12_all_9 ?_
    refine rj_iald (by first | assumption | rfl) (vpi (by decide) (by decide)) dX12_all_10 ?_
    rw [show (0 : Int32).toNatClampNeg = 0 from rfl, h0]
    refine rj_ic_ge (tgt := 24) dX12_all_11 (by decide) (fun h_11 => ?_) (fun h_11 => ?_)
    · refine rj_ild2 dX12_all_24 rfl ?_
      refine rj_iret dX12_all_25 ?_
      rw [show i = A.2.1.1.toInt.toNat by omega]
      exact hQ
    · refine rj_ild2 dX12_all_14 rfl ?_
      refine rj_ild1 dX12_all_15 rfl ?_
      refine rj_imul dX12_all_16 ?_
      refine rj_ist2 dX12_all_17 (by decide) rfl ?_
      refine rj_iinc3 (d := 1) dX12_all_18 (by decide) rfl (by decide) ?_
      rw [nI_1]
      refine rj_goto (tgt := 4) dX12_all_21 (by decide) ?_
      exact ih (i + 1) (by omega) (by omega)

set_option maxRecDepth 100000 in
theorem c_X12_all {l : Launch} {X : CX} {σ : ST} {A : SA} (hM : MR σ A) (hw : wf A) {p : Int32} : MJ l X 0 yX12_all cX12_all 4 (some .int) [.ref (ad X 112), .int p] σ (eqI (pwr p A.2.1.1.toInt.toNat) σ) := by
  refine MJ_of (own := RX12) [some (.ref (ad X 112)), some (.int p), none, none] (by decide) rfl (Nat.le_of_ble_eq_true rfl) rfl ?_
  refine rj_ic1 dX12_all_0 ?_
  refine rj_ist2 dX12_all_1 (by decide) rfl ?_
  refine rj_ic0 dX12_all_2 ?_
  refine rj_ist3 dX12_all_3 (by decide) rfl ?_
  exact l_X12_all hw hM ⟨rfl, rfl⟩ (A.2.1.1.toInt.toNat + 1) 0 (by omega) (by omega)

theorem sR_le {g : Nat → Nat} (h : ∀ x, g x ≤ 1) : ∀ n, sR g n ≤ n
  | 0 => Nat.le_refl _
  | n + 1 => by show sR g n + g n ≤ n + 1; have := sR_le h n; have := h n; omega
set_option maxRecDepth 100000 in
theorem l_X12_coloursBy {l : Launch} {X : CX} {h : Nat} {Q : Option Value → ST → Prop} {σ : ST} {rc : Int32} {P n : Nat} {xs : List Int32} (hh : 2 ≤ h) (hn : n ≤ 4) (hp : P = 3 ∨ P = 5 ∨ P = 7) (hx : LD σ xs) (hok : okL rc xs) (hr4 : rc.toInt ≤ 4) (hQ : ∀ τ, off c9 σ τ → Q (some (.int (nI (sR (fun c => if cmo P xs c then 1 else 0) (P ^ n))))) τ) : ∀ (N i : Nat) (τ : ST), P ^ n < i + N → (i ≤ P ^ n ∧ off c9 σ τ) → RJ (GM l X h Q) X cX12_coloursBy 5 (some .int) RX12 11 [some (.ref (ad X 112)), some (.int (nI P)), some (.int (nI (P ^ n))), some (.int (nI (sR (fun c => if cmo P xs c then 1 else 0) i))), some (.int (nI i))] [] τ := by
  intro N
  induction N with
  | zero => intro i τ hN hi; have := hi.1; exact absurd hN (by omega)
  | succ N ih =>
    intro i τ hN hi
    obtain ⟨hi, ho⟩ := hi
    have hpn := (p_le hp hn).2
    have hp4 : P ^ n ≤ P ^ 4 := Nat.pow_le_pow_right (by omega) hn
    have hit : (nI i).toInt = i := nI_t (by omega)
    have hnt : (nI (P ^ n)).toInt = (P ^ n : Nat) := nI_t (by omega)
    refine rj_ild dX12_coloursBy_11 rfl ?_
    refine rj_ild2 dX12_coloursBy_13 rfl ?_
    refine rj_ic_ge (tgt := 41) dX12_coloursBy_14 (by decide) (fun h_14 => ?_) (fun h_14 => ?_)
    · refine rj_ild3 dX12_coloursBy_41 rfl ?_
      refine rj_iret dX12_coloursBy_42 ?_
      rw [show i = P ^ n by omega]
      exact hQ τ ho
    · refine rj_ild3 dX12_coloursBy_17 rfl ?_
      refine rj_ald0 dX12_coloursBy_18 rfl ?_
      refine rj_ild dX12_coloursBy_19 rfl ?_
      refine rj_ild1 dX12_coloursBy_21 rfl ?_
      refine rj_V2 (ci := 12) cX12_194 rfl (by decide) (by first | assumption | rfl) dX12_coloursBy_22 (c_X12_comesOut hp (show i < P ^ 4 by omega) (ld_9 hx ho) hok hr4) (fitM (by omega) (by decide)) (Nat.le_of_ble_eq_true rfl) ?_
      rintro v υ ⟨rfl, ho1⟩
      simp only [Option.toList, List.cons_append, List.nil_append]
      refine rj_if_eq (tgt := 32) dX12_coloursBy_25 (by decide) (fun h_25 => ?_) (fun h_25 => ?_)
      · have hb := bz_t h_25
        refine rj_ic0 dX12_coloursBy_32 ?_
        refine rj_iadd dX12_coloursBy_33 ?_
        refine rj_ist3 dX12_coloursBy_34 (by decide) rfl ?_
        refine rj_iinc4 (d := 1) dX12_coloursBy_35 (by decide) rfl (by decide) ?_
        rw [nI_1]
        refine rj_goto (tgt := 11) dX12_coloursBy_38 (by decide) ?_
        have hs : sR (fun c => if cmo P xs c then 1 else 0) (i + 1) = sR (fun c => if cmo P xs c then 1 else 0) i + 0 := by show _ + (if cmo P xs i then 1 else 0) = _; rw [if_neg hb]
        have k := ih (i + 1) υ (by omega) ⟨by omega, ho.tr ho1⟩
        rw [hs] at k
        rw [Nat.add_zero] at k
        rw [Int32.add_zero]
        exact k
      · have hb := bz_f h_25
        refine rj_ic1 dX12_coloursBy_28 ?_
        refine rj_goto (tgt := 33) dX12_coloursBy_29 (by decide) ?_
        refine rj_iadd dX12_coloursBy_33 ?_
        refine rj_ist3 dX12_coloursBy_34 (by decide) rfl ?_
        refine rj_iinc4 (d := 1) dX12_coloursBy_35 (by decide) rfl (by decide) ?_
        rw [nI_1]
        refine rj_goto (tgt := 11) dX12_coloursBy_38 (by decide) ?_
        have hs : sR (fun c => if cmo P xs c then 1 else 0) (i + 1) = sR (fun c => if cmo P xs c then 1 else 0) i + 1 := by show _ + (if cmo P xs i then 1 else 0) = _; rw [if_pos hb]
        have k := ih (i + 1) υ (by omega) ⟨by omega, ho.tr ho1⟩
        rw [hs] at k
        rw [nI_1]
        exact k

set_option maxRecDepth 100000 in
theorem c_X12_coloursBy {l : Launch} {X : CX} {σ : ST} {A : SA} (hM : MR σ A) (hw : wf A) {P : Nat} {xs : List Int32} (hp : P = 3 ∨ P = 5 ∨ P = 7) (hx : LD σ xs) (hok : okL A.2.1.1 xs) : MJ l X 2 yX12_coloursBy cX12_coloursBy 5 (some .int) [.ref (ad X 112), .int (nI P)] σ ((fun v τ => v = some (.int (pwr (nI P) (frN A.2.1.1.toInt.toNat P xs))) ∧ off c9 σ τ)) := by
  refine MJ_of (own := RX12) [some (.ref (ad X 112)), some (.int (nI P)), none, none, none] (by decide) rfl (Nat.le_of_ble_eq_true rfl) rfl ?_
  have hr2 := hw.1.1
  have hr4 := hw.1.2.1
  have hce := cnt_eq (n := A.2.1.1.toInt.toNat) hp (okL_k hok (by omega)) (by omega)
  refine rj_ald0 dX12_coloursBy_0 rfl ?_
  refine rj_ild1 dX12_coloursBy_1 rfl ?_
  refine rj_V1i (ci := 12) cX12_191 rfl (by decide) (by first | assumption | rfl) dX12_coloursBy_2 (c_X12_all hM hw) (fitM (by decide) (by decide)) (Nat.le_of_ble_eq_true rfl) ?_
  rw [pwr_n]
  refine rj_ist2 dX12_coloursBy_5 (by decide) rfl ?_
  refine rj_ic0 dX12_coloursBy_6 ?_
  refine rj_ist3 dX12_coloursBy_7 (by decide) rfl ?_
  refine rj_ic0 dX12_coloursBy_8 ?_
  refine rj_ist4w dX12_coloursBy_9 (by decide) rfl ?_
  rw [pwr_n, ← hce]
  exact l_X12_coloursBy (by decide) (by omega) hp hx hok hr4 (fun τ ho => ⟨rfl, ho⟩) (P ^ A.2.1.1.toInt.toNat + 1) 0 σ (by omega) ⟨by omega, off.rf⟩

