/-! ropes as they go -/
abbrev okk (n : Nat) (xs : List Int32) : Prop := ∀ c ∈ xs, 1 ≤ c.toInt.natAbs ∧ c.toInt.natAbs < n
theorem okL_k {rc : Int32} {n : Nat} {xs : List Int32} (h : okL rc xs) (hn : rc.toInt ≤ n) : okk n xs := fun c hc => by
  have := h c hc
  unfold okc at this
  omega
def pmP (n : Nat) (f : Nat → Int32) : Prop := (∀ m, m < n → ∃ j, j < n ∧ f j = nI m) ∧ (∀ j, j < n → ∃ m, m < n ∧ f j = nI m) ∧ ∀ i j, i < n → j < n → f i = f j → i = j
def swk (k j : Nat) : Nat := if j = k then k - 1 else if j = k - 1 then k else j
theorem swk_in {k n j : Nat} (hk : k < n) (hj : j < n) : swk k j < n := by unfold swk; split; omega; split <;> omega
theorem swk_2 {k j : Nat} (hk : 1 ≤ k) : swk k (swk k j) = j := by unfold swk; split <;> (try split) <;> (try split) <;> (try split) <;> omega
theorem swk_inj {k i j : Nat} (hk : 1 ≤ k) (h : swk k i = swk k j) : i = j := by rw [← swk_2 (j := i) hk, h, swk_2 hk]
theorem stp1 (fs : (Nat → Int32) × (Nat → Int32)) (c : Int32) (j : Nat) : (stp fs c).1 j = fs.1 (swk c.toInt.natAbs j) := by
  unfold stp swk
  show upd (upd fs.1 (c.toInt.natAbs - 1) (fs.1 c.toInt.natAbs)) c.toInt.natAbs (fs.1 (c.toInt.natAbs - 1)) j = _
  unfold upd
  split
  · rfl
  · split <;> rfl
theorem stp2 (fs : (Nat → Int32) × (Nat → Int32)) (c : Int32) (q : Nat) : (stp fs c).2 q = if q = (pr (fs.1 (c.toInt.natAbs - 1)) (fs.1 c.toInt.natAbs)).toNatClampNeg then fs.2 q + sg c else fs.2 q := by
  unfold stp
  show upd fs.2 (pr (fs.1 (c.toInt.natAbs - 1)) (fs.1 c.toInt.natAbs)).toNatClampNeg (fs.2 (pr (fs.1 (c.toInt.natAbs - 1)) (fs.1 c.toInt.natAbs)).toNatClampNeg + sg c) q = _
  unfold upd
  split
  · rename_i h; rw [← h]
  · rfl
theorem pm_step {n : Nat} {fs : (Nat → Int32) × (Nat → Int32)} {c : Int32} (h : pmP n fs.1) (h1 : 1 ≤ c.toInt.natAbs) (h2 : c.toInt.natAbs < n) : pmP n (stp fs c).1 := by
  obtain ⟨a, b, d⟩ := h
  refine ⟨fun m hm => ?_, fun j hj => ?_, fun i j hi hj q => ?_⟩
  · obtain ⟨j, hj, e⟩ := a m hm
    exact ⟨swk c.toInt.natAbs j, swk_in h2 hj, by rw [stp1, swk_2 h1]; exact e⟩
  · rw [stp1]; exact b _ (swk_in h2 hj)
  · rw [stp1, stp1] at q
    exact swk_inj h1 (d _ _ (swk_in h2 hi) (swk_in h2 hj) q)
theorem pm_fold {n : Nat} : ∀ (xs : List Int32) (fs : (Nat → Int32) × (Nat → Int32)), okk n xs → pmP n fs.1 → pmP n (xs.foldl stp fs).1
  | [], _, _, h => h
  | c :: r, fs, hk, h => pm_fold r (stp fs c) (fun d hd => hk d (List.mem_cons_of_mem _ hd)) (pm_step h (hk c List.mem_cons_self).1 (hk c List.mem_cons_self).2)
theorem nI_ij {a b : Nat} (ha : a < 2147483648) (hb : b < 2147483648) (h : nI a = nI b) : a = b := by
  have := congrArg Int32.toInt h
  rw [nI_t ha, nI_t hb] at this
  omega
theorem pm_stf {n : Nat} {xs : List Int32} (hk : okk n xs) (hn : n < 1000) : pmP n (stf xs).1 :=
  pm_fold xs _ hk ⟨fun m hm => ⟨m, hm, rfl⟩, fun j hj => ⟨j, hj, rfl⟩, fun i j hi hj q => nI_ij (by omega) (by omega) q⟩
theorem ge_fold {n : Nat} : ∀ (xs : List Int32) (fs : (Nat → Int32) × (Nat → Int32)), okk n xs → ∀ j, n ≤ j → (xs.foldl stp fs).1 j = fs.1 j
  | [], _, _, _, _ => rfl
  | c :: r, fs, hk, j, hj => by
    have h1 := hk c List.mem_cons_self
    show (r.foldl stp (stp fs c)).1 j = fs.1 j
    rw [ge_fold r (stp fs c) (fun d hd => hk d (List.mem_cons_of_mem _ hd)) j hj, stp1]
    unfold swk
    rw [if_neg (by omega), if_neg (by omega)]
theorem ge_stf {n : Nat} {xs : List Int32} (hk : okk n xs) {j : Nat} (hj : n ≤ j) : (stf xs).1 j = nI j := ge_fold xs _ hk j hj
theorem eoR_at {f : Nat → Int32} {r : Int32} {j : Nat} (hf : f j = r) : ∀ (n i : Nat), i ≤ j → j < i + n → (∀ q, i ≤ q → q < j → ¬ f q = r) → eoR f r n i = nI j
  | 0, i, h1, h2, _ => absurd h2 (by omega)
  | n + 1, i, h1, h2, h3 => by
    unfold eoR
    by_cases z : f i = r
    · rw [if_pos z]
      rcases Nat.lt_or_ge i j with y | y
      · exact absurd z (h3 i (by omega) y)
      · rw [show i = j by omega]
    · rw [if_neg z]
      have : i ≠ j := fun y => z (by rw [y]; exact hf)
      exact eoR_at hf n (i + 1) (by omega) (by omega) (fun q hq => h3 q (by omega))
theorem eoF_at {rc : Int32} {n : Nat} {f : Nat → Int32} (h : pmP n f) (hn : rc.toInt.toNat = n) {j : Nat} (hj : j < n) : eoF rc f (f j) = nI j := by
  unfold eoF
  rw [hn]
  exact eoR_at rfl n 0 (by omega) (by omega) (fun q _ hq z => absurd (h.2.2 q j (by omega) hj z) (by omega))
theorem eoF_in {rc : Int32} {n : Nat} {f : Nat → Int32} (h : pmP n f) (hn : rc.toInt.toNat = n) {m : Nat} (hm : m < n) : ∃ j, j < n ∧ f j = nI m ∧ eoF rc f (nI m) = nI j := by
  obtain ⟨j, hj, e⟩ := h.1 m hm
  exact ⟨j, hj, e, by rw [← e]; exact eoF_at h hn hj⟩
theorem eoR_c {f g : Nat → Int32} {r : Int32} : ∀ (n i : Nat), (∀ j, i ≤ j → j < i + n → f j = g j) → eoR f r n i = eoR g r n i
  | 0, _, _ => rfl
  | n + 1, i, h => by
    unfold eoR
    rw [h i (by omega) (by omega), eoR_c n (i + 1) (fun j h1 h2 => h j (by omega) (by omega))]
theorem eoF_c {rc : Int32} {n : Nat} {f g : Nat → Int32} (hn : rc.toInt.toNat = n) (h : ∀ j, j < n → f j = g j) : eoF rc f = eoF rc g := by
  funext r
  unfold eoF
  rw [hn]
  exact eoR_c n 0 (fun j _ hj => h j (by omega))
/-- the reference's rings -/
def lsR (e : Int32 → Int32) : Nat → Int32 → Int32 → Int32
  | 0, a, _ => a
  | n + 1, a, k => lsR e n (if k.toInt < a.toInt then k else a) (e k)
def rnB (e : Int32 → Int32) : Nat → Nat → Int32 → Int32
  | 0, _, c => c
  | n + 1, i, c => rnB e n (i + 1) (c + if lsR e 4 (nI i) (e (nI i)) = nI i then 1 else 0)
def rnF (rc : Int32) (f : Nat → Int32) : Int32 := rnB (eoF rc f) rc.toInt.toNat 0 0
def fL (l : List Nat) : Nat → Int32 := fun j => nI (l.getD j 0)
theorem rg2 : ∀ a, a < 2 → ∀ b, b < 2 → a ≠ b → rgF 2 (fL [a, b]) = rnF 2 (fL [a, b]) := by decide +kernel
theorem rg3q : ∀ n, n < 27 → (n / 9 ≠ n / 3 % 3 ∧ n / 9 ≠ n % 3 ∧ n / 3 % 3 ≠ n % 3) → rgF 3 (fL [n / 9, n / 3 % 3, n % 3]) = rnF 3 (fL [n / 9, n / 3 % 3, n % 3]) := by decide +kernel
theorem rg3 (a : Nat) (ha : a < 3) (b : Nat) (hb : b < 3) (c : Nat) (hc : c < 3) (h1 : a ≠ b) (h2 : a ≠ c) (h3 : b ≠ c) : rgF 3 (fL [a, b, c]) = rnF 3 (fL [a, b, c]) := by
  have := rg3q (9 * a + 3 * b + c) (by omega)
  rw [show (9 * a + 3 * b + c) / 9 = a by omega, show (9 * a + 3 * b + c) / 3 % 3 = b by omega, show (9 * a + 3 * b + c) % 3 = c by omega] at this
  exact this ⟨h1, h2, h3⟩
theorem rg4q : ∀ n, n < 256 → (n / 64 ≠ n / 16 % 4 ∧ n / 64 ≠ n / 4 % 4 ∧ n / 64 ≠ n % 4 ∧ n / 16 % 4 ≠ n / 4 % 4 ∧ n / 16 % 4 ≠ n % 4 ∧ n / 4 % 4 ≠ n % 4) → rgF 4 (fL [n / 64, n / 16 % 4, n / 4 % 4, n % 4]) = rnF 4 (fL [n / 64, n / 16 % 4, n / 4 % 4, n % 4]) := by decide +kernel
theorem q4d {a b c d : Nat} (hb : b < 4) (hc : c < 4) (hd : d < 4) : (64 * a + 16 * b + 4 * c + d) / 64 = a ∧ (64 * a + 16 * b + 4 * c + d) / 16 % 4 = b ∧ (64 * a + 16 * b + 4 * c + d) / 4 % 4 = c ∧ (64 * a + 16 * b + 4 * c + d) % 4 = d := by omega
theorem rg4 (a : Nat) (ha : a < 4) (b : Nat) (hb : b < 4) (c : Nat) (hc : c < 4) (d : Nat) (hd : d < 4) (h1 : a ≠ b) (h2 : a ≠ c) (h3 : a ≠ d) (h4 : b ≠ c) (h5 : b ≠ d) (h6 : c ≠ d) : rgF 4 (fL [a, b, c, d]) = rnF 4 (fL [a, b, c, d]) := by
  have := rg4q (64 * a + 16 * b + 4 * c + d) (by omega)
  obtain ⟨e1, e2, e3, e4⟩ := q4d (a := a) hb hc hd
  rw [e1, e2, e3, e4] at this
  exact this ⟨h1, h2, h3, h4, h5, h6⟩
theorem rg_c {rc : Int32} {n : Nat} {f g : Nat → Int32} (hn : rc.toInt.toNat = n) (h : ∀ j, j < n → f j = g j) (k : rgF rc g = rnF rc g) : rgF rc f = rnF rc f := by
  unfold rgF rnF at k ⊢
  rw [eoF_c hn h]
  exact k
theorem rg_eq {rc : Int32} {f : Nat → Int32} (h2 : 2 ≤ rc.toInt) (h4 : rc.toInt ≤ 4) (h : pmP rc.toInt.toNat f) : rgF rc f = rnF rc f := by
  have hd : ∀ (n : Nat) (l : List Nat), n < 100 → (∀ j, j < n → f j = nI (l.getD j 0) ∧ l.getD j 0 < n) → (∀ i j, i < n → j < n → f i = f j → i = j) → ∀ i j, i < n → j < n → i ≠ j → l.getD i 0 ≠ l.getD j 0 := fun n l hn hl hi i j h1 h2 h3 q => h3 (hi i j h1 h2 (by rw [(hl i h1).1, (hl j h2).1, q]))
  rcases (by omega : rc.toInt = 2 ∨ rc.toInt = 3 ∨ rc.toInt = 4) with z | z | z
  · have hr : rc = 2 := i_inj z
    subst hr
    obtain ⟨-, hb, hi⟩ := h
    obtain ⟨a, ha, ea⟩ := hb 0 (by decide)
    obtain ⟨b, hb', eb⟩ := hb 1 (by decide)
    have ha : a < 2 := ha
    have hb' : b < 2 := hb'
    refine rg_c (n := 2) rfl (g := fL [a, b]) (fun j hj => ?_) (rg2 a ha b hb' (fun q => absurd (hi 0 1 (by decide) (by decide) (by rw [ea, eb, q])) (by decide)))
    match j, hj with
    | 0, _ => exact ea
    | 1, _ => exact eb
  · have hr : rc = 3 := i_inj z
    subst hr
    obtain ⟨-, hb, hi⟩ := h
    obtain ⟨a, ha, ea⟩ := hb 0 (by decide)
    obtain ⟨b, hb', eb⟩ := hb 1 (by decide)
    obtain ⟨c, hc, ec⟩ := hb 2 (by decide)
    refine rg_c (n := 3) rfl (g := fL [a, b, c]) (fun j hj => ?_) (rg3 a ha b hb' c hc (fun q => absurd (hi 0 1 (by decide) (by decide) (by rw [ea, eb, q])) (by decide)) (fun q => absurd (hi 0 2 (by decide) (by decide) (by rw [ea, ec, q])) (by decide)) (fun q => absurd (hi 1 2 (by decide) (by decide) (by rw [eb, ec, q])) (by decide)))
    match j, hj with
    | 0, _ => exact ea
    | 1, _ => exact eb
    | 2, _ => exact ec
  · have hr : rc = 4 := i_inj z
    subst hr
    obtain ⟨-, hb, hi⟩ := h
    obtain ⟨a, ha, ea⟩ := hb 0 (by decide)
    obtain ⟨b, hb', eb⟩ := hb 1 (by decide)
    obtain ⟨c, hc, ec⟩ := hb 2 (by decide)
    obtain ⟨d, hd', ed⟩ := hb 3 (by decide)
    refine rg_c (n := 4) rfl (g := fL [a, b, c, d]) (fun j hj => ?_) (rg4 a ha b hb' c hc d hd' (fun q => absurd (hi 0 1 (by decide) (by decide) (by rw [ea, eb, q])) (by decide)) (fun q => absurd (hi 0 2 (by decide) (by decide) (by rw [ea, ec, q])) (by decide)) (fun q => absurd (hi 0 3 (by decide) (by decide) (by rw [ea, ed, q])) (by decide)) (fun q => absurd (hi 1 2 (by decide) (by decide) (by rw [eb, ec, q])) (by decide)) (fun q => absurd (hi 1 3 (by decide) (by decide) (by rw [eb, ed, q])) (by decide)) (fun q => absurd (hi 2 3 (by decide) (by decide) (by rw [ec, ed, q])) (by decide)))
    match j, hj with
    | 0, _ => exact ea
    | 1, _ => exact eb
    | 2, _ => exact ec
    | 3, _ => exact ed
theorem pr_q : ∀ n, n < 256 → ((pr (nI (n / 64)) (nI (n / 16 % 4))).toNatClampNeg = (pr (nI (n / 4 % 4)) (nI (n % 4))).toNatClampNeg ↔ (n / 64 = n / 4 % 4 ∧ n / 16 % 4 = n % 4) ∨ (n / 64 = n % 4 ∧ n / 16 % 4 = n / 4 % 4)) := by decide +kernel
theorem pr_iff (a : Nat) (ha : a < 4) (b : Nat) (hb : b < 4) (c : Nat) (hc : c < 4) (d : Nat) (hd : d < 4) : ((pr (nI a) (nI b)).toNatClampNeg = (pr (nI c) (nI d)).toNatClampNeg ↔ (a = c ∧ b = d) ∨ (a = d ∧ b = c)) := by
  have := pr_q (64 * a + 16 * b + 4 * c + d) (by omega)
  obtain ⟨e1, e2, e3, e4⟩ := q4d (a := a) hb hc hd
  rw [e1, e2, e3, e4] at this
  exact this
/-! the reference: where ropes come out -/
def TH (σ : ST) (xs : List Int32) : Prop := ∀ j, j < 4 → σ.1 118 j = (stf xs).1 j
abbrev c8 : Nat → Prop := fun a => a = 118
theorem mq_8 {σ τ : ST} (h : off c8 σ τ) : mq σ τ := ⟨h.mono (fun a ha => by rw [show a = 118 from ha]; unfold msP; omega), by rw [(h 112 (by decide)).1], by rw [(h 112 (by decide)).1]⟩
theorem ld_8 {σ τ : ST} {xs : List Int32} (hx : LD σ xs) (h : off c8 σ τ) : LD τ xs := ⟨by rw [(h 112 (by decide)).1]; exact hx.1, hx.2.1, fun i hi => by rw [(h 115 (by decide)).1]; exact hx.2.2 i hi⟩
theorem o8 {σ τ : ST} {j : Nat} {v : Int32} (h : off c8 σ τ) : off c8 σ (ui τ 118 j v) := h.ui rfl
set_option maxRecDepth 100000 in
theorem l_X12_begins {l : Launch} {X : CX} {h : Nat} {Q : Option Value → ST → Prop} {σ : ST} (hQ : ∀ τ, TH τ [] → off c8 σ τ → Q none τ) : ∀ (N i : Nat) (τ : ST), 4 < i + N → (i ≤ 4 ∧ (∀ q, q < i → τ.1 118 q = nI q) ∧ off c8 σ τ) → RJ (GM l X h Q) X cX12_begins 2 none RX12 2 [some (.ref (ad X 112)), some (.int (nI i))] [] τ := by
  intro N
  induction N with
  | zero => intro i τ hN hi; have := hi.1; exact absurd hN (by omega)
  | succ N ih =>
    intro i τ hN hi
    obtain ⟨hi, hv, ho⟩ := hi
    have hit : (nI i).toInt = i := nI_t (by omega)
    have q4 : (4 : Int32).toInt = 4 := by decide
    refine rj_ild1 dX12_begins_2 rfl ?_
    refine rj_ic4 dX12_begins_3 ?_
    refine rj_ic_ge (tgt := 20) dX12_begins_4 (by decide) (fun h_4 => ?_) (fun h_4 => ?_)
    · refine rj_vret dX12_begins_20 ?_
      exact hQ τ (fun q hq => hv q (by omega)) ho
    · refine rj_ald0 dX12_begins_7 rfl ?_
      refine g12_25 dX12_begins_8 ?_
      refine rj_ild1 dX12_begins_11 rfl ?_
      refine rj_ild1 dX12_begins_12 rfl ?_
      refine rj_iast (by first | assumption | rfl) (vpi (by omega) (by show _ < ((4 : Nat) : Int); omega)) dX12_begins_13 ?_
      rw [nI_clamp (by omega)]
      refine rj_iinc1 (d := 1) dX12_begins_14 (by decide) rfl (by decide) ?_
      rw [nI_1]
      refine rj_goto (tgt := 2) dX12_begins_17 (by decide) ?_
      refine ih (i + 1) _ (by omega) ⟨by omega, fun q hq => ?_, o8 ho⟩
      rw [ui_at]
      by_cases z : q = i
      · rw [if_pos ⟨rfl, z⟩, z]
      · rw [if_neg (fun y => z y.2)]; exact hv q (by omega)

set_option maxRecDepth 100000 in
theorem c_X12_begins {l : Launch} {X : CX} {σ : ST}  : MJ l X 0 yX12_begins cX12_begins 2 none [.ref (ad X 112)] σ (PV (fun τ => TH τ [] ∧ off c8 σ τ)) := by
  refine MJ_of (own := RX12) [some (.ref (ad X 112)), none] (by decide) rfl (Nat.le_of_ble_eq_true rfl) rfl ?_
  refine rj_ic0 dX12_begins_0 ?_
  refine rj_ist1 dX12_begins_1 (by decide) rfl ?_
  exact l_X12_begins (fun τ h1 h2 => ⟨rfl, h1, h2⟩) 5 0 σ (by omega) ⟨by omega, fun q hq => absurd hq (by omega), off.rf⟩

set_option maxRecDepth 100000 in
theorem c_X12_crosses {l : Launch} {X : CX} {σ : ST} {rc : Int32} {xs : List Int32} {i : Nat} (hx : LD σ xs) (hok : okL rc xs) (hr4 : rc.toInt ≤ 4) (hi : i < xs.length) (hT : TH σ (xs.take i)) : MJ l X 1 yX12_crosses cX12_crosses 4 none [.ref (ad X 112), .int (nI i)] σ (PV (fun τ => TH τ (xs.take (i + 1)) ∧ off c8 σ τ)) := by
  refine MJ_of (own := RX12) [some (.ref (ad X 112)), some (.int (nI i)), none, none] (by decide) rfl (Nat.le_of_ble_eq_true rfl) rfl ?_
  have hc := hx.2.1
  have hit : (nI i).toInt = i := nI_t (by omega)
  obtain ⟨k, hk, hcv, hk1, hk4⟩ : ∃ k : Nat, (xs.getD i 0).toInt.natAbs = k ∧ iab (xs.getD i 0) = nI k ∧ 1 ≤ k ∧ k < 4 := by
    have q := iab_ok (okL_get hok (show i < xs.length by omega)) hr4
    exact ⟨_, rfl, nI_of_toInt q.1, q.2.1, q.2.2.1⟩
  have hkt : (nI k).toInt = k := nI_t (by omega)
  have hkm : nI k - 1 = nI (k - 1) := by
    apply i_inj
    rw [i_sub (by rw [hkt, t1]; omega) (by rw [hkt, t1]; omega), hkt, t1, nI_t (by omega)]
    omega
  have hkmt : (nI (k - 1)).toInt = (k - 1 : Nat) := nI_t (by omega)
  refine rj_ald0 dX12_crosses_0 rfl ?_
  refine g12_16 dX12_crosses_1 ?_
  refine rj_ild1 dX12_crosses_4 rfl ?_
  refine rj_iald (by first | assumption | rfl) (vpi (by omega) (by show _ < ((24 : Nat) : Int); omega)) dX12_crosses_5 ?_
  rw [nI_clamp (by omega), hx.2.2 i hi]
  refine rj_S1i cX12_144 dX12_crosses_6 c_X12_apartOf (fitM (by decide) (by decide)) (Nat.le_of_ble_eq_true rfl) ?_
  rw [hcv]
  refine rj_ist2 dX12_crosses_9 (by decide) rfl ?_
  refine rj_ald0 dX12_crosses_10 rfl ?_
  refine g12_25 dX12_crosses_11 ?_
  refine rj_ild2 dX12_crosses_14 rfl ?_
  refine rj_iald (by first | assumption | rfl) (vpi (by omega) (by show _ < ((4 : Nat) : Int); omega)) dX12_crosses_15 ?_
  rw [nI_clamp (by omega), hT k hk4]
  refine rj_ist3 dX12_crosses_16 (by decide) rfl ?_
  refine rj_ald0 dX12_crosses_17 rfl ?_
  refine g12_25 dX12_crosses_18 ?_
  refine rj_ild2 dX12_crosses_21 rfl ?_
  refine rj_ald0 dX12_crosses_22 rfl ?_
  refine g12_25 dX12_crosses_23 ?_
  refine rj_ild2 dX12_crosses_26 rfl ?_
  refine rj_ic1 dX12_crosses_27 ?_
  refine rj_isub dX12_crosses_28 ?_
  rw [hkm]
  refine rj_iald (by first | assumption | rfl) (vpi (by omega) (by show _ < ((4 : Nat) : Int); omega)) dX12_crosses_29 ?_
  rw [nI_clamp (by omega), hT (k - 1) (by omega)]
  refine rj_iast (by first | assumption | rfl) (vpi (by omega) (by show _ < ((4 : Nat) : Int); omega)) dX12_crosses_30 ?_
  rw [nI_clamp (by omega)]
  refine rj_ald0 dX12_crosses_31 rfl ?_
  refine g12_25 dX12_crosses_32 ?_
  refine rj_ild2 dX12_crosses_35 rfl ?_
  refine rj_ic1 dX12_crosses_36 ?_
  refine rj_isub dX12_crosses_37 ?_
  rw [hkm]
  refine rj_ild3 dX12_crosses_38 rfl ?_
  refine rj_iast (by first | assumption | rfl) (vpi (by omega) (by show _ < ((4 : Nat) : Int); omega)) dX12_crosses_39 ?_
  rw [nI_clamp (by omega)]
  refine rj_vret dX12_crosses_40 ?_
  refine ⟨rfl, fun j hj => ?_, o8 (o8 off.rf)⟩
  rw [take_snoc hi, stf_snoc, stp1, hk, ui_at, ui_at]
  unfold swk
  by_cases z1 : j = k
  · rw [if_neg (by omega), if_pos ⟨rfl, z1⟩, if_pos z1]
  · by_cases z2 : j = k - 1
    · rw [if_pos ⟨rfl, z2⟩, if_neg z1, if_pos z2]
    · rw [if_neg (by omega), if_neg (by omega), if_neg z1, if_neg z2]; exact hT j hj

set_option maxRecDepth 100000 in
theorem l_X12_endB {l : Launch} {X : CX} {h : Nat} {Q : Option Value → ST → Prop} {σ : ST} {A : SA} {xs : List Int32} {r : Int32} {j : Nat} (hM : MR σ A) (hr4 : A.2.1.1.toInt ≤ 4) (hT : TH σ xs) (hp : pmP A.2.1.1.toInt.toNat (stf xs).1) (hj : j < A.2.1.1.toInt.toNat) (hf : (stf xs).1 j = r) (hQ : Q (some (.int (nI j))) σ) : ∀ (N i : Nat) (e : Int32), A.2.1.1.toInt.toNat < i + N → (i ≤ A.2.1.1.toInt.toNat ∧ (j < i → e = nI j)) → RJ (GM l X h Q) X cX12_endOf 4 (some .int) RX12 29 [some (.ref (ad X 112)), some (.int r), some (.int e), some (.int (nI i))] [] σ := by
  intro N
  induction N with
  | zero => intro i e hN hi; have := hi.1; exact absurd hN (by omega)
  | succ N ih =>
    intro i e hN hi
    obtain ⟨hi, he⟩ := hi
    have h0 : σ.1 113 0 = A.2.1.1 := hM.1.1
    have hit : (nI i).toInt = i := nI_t (by omega)
    refine rj_ild3 dX12_endOf_29 rfl ?_
    refine rj_ald0 dX12_endOf_30 rfl ?_
    refine g12_7 dX12_endOf_31 ?_
    refine rj_ic0 dX12_endOf_34 ?_
    refine rj_iald (by first | assumption | rfl) (vpi (by decide) (by decide)) dX12_endOf_35 ?_
    rw [show (0 : Int32).toNatClampNeg = 0 from rfl, h0]
    refine rj_ic_ge (tgt := 61) dX12_endOf_36 (by decide) (fun h_36 => ?_) (fun h_36 => ?_)
    · refine rj_ild2 dX12_endOf_61 rfl ?_
      refine rj_iret dX12_endOf_62 ?_
      rw [he (by omega)]
      exact hQ
    · refine rj_ald0 dX12_endOf_39 rfl ?_
      refine g12_25 dX12_endOf_40 ?_
      refine rj_ild3 dX12_endOf_43 rfl ?_
      refine rj_iald (by first | assumption | rfl) (vpi (by omega) (by show _ < ((4 : Nat) : Int); omega)) dX12_endOf_44 ?_
      rw [nI_clamp (by omega), hT i (by omega)]
      refine rj_ild1 dX12_endOf_45 rfl ?_
      refine rj_ic_ne (tgt := 53) dX12_endOf_46 (by decide) (fun h_46 => ?_) (fun h_46 => ?_)
      · refine rj_ild2 dX12_endOf_53 rfl ?_
        refine rj_ist2 dX12_endOf_54 (by decide) rfl ?_
        refine rj_iinc3 (d := 1) dX12_endOf_55 (by decide) rfl (by decide) ?_
        rw [nI_1]
        refine rj_goto (tgt := 29) dX12_endOf_58 (by decide) ?_
        refine ih (i + 1) _ (by omega) ⟨by omega, fun z => ?_⟩
        rcases Nat.lt_or_ge j i with y | y
        · exact he y
        · have : j = i := by omega
          subst this; exact absurd hf h_46
      · refine rj_ild3 dX12_endOf_49 rfl ?_
        refine rj_goto (tgt := 54) dX12_endOf_50 (by decide) ?_
        refine rj_ist2 dX12_endOf_54 (by decide) rfl ?_
        refine rj_iinc3 (d := 1) dX12_endOf_55 (by decide) rfl (by decide) ?_
        rw [nI_1]
        refine rj_goto (tgt := 29) dX12_endOf_58 (by decide) ?_
        refine ih (i + 1) _ (by omega) ⟨by omega, fun z => ?_⟩
        rw [hp.2.2 i j (by omega) hj (h_46.trans hf.symm)]

set_option maxRecDepth 100000 in
theorem l_X12_endA {l : Launch} {X : CX} {h : Nat} {Q : Option Value → ST → Prop} {σ : ST} {A : SA} {xs : List Int32} {r : Int32} {j : Nat} (hh : 2 ≤ h) (hM : MR σ A) (hr4 : A.2.1.1.toInt ≤ 4) (hx : LD σ xs) (hok : okL A.2.1.1 xs) (hp : pmP A.2.1.1.toInt.toNat (stf xs).1) (hj : j < A.2.1.1.toInt.toNat) (hf : (stf xs).1 j = r) (hQ : ∀ τ, off c8 σ τ → Q (some (.int (nI j))) τ) : ∀ (N i : Nat) (τ : ST), xs.length < i + N → (i ≤ xs.length ∧ TH τ (xs.take i) ∧ off c8 σ τ) → RJ (GM l X h Q) X cX12_endOf 4 (some .int) RX12 6 [some (.ref (ad X 112)), some (.int r), some (.int (nI i)), none] [] τ := by
  intro N
  induction N with
  | zero => intro i τ hN hi; have := hi.1; exact absurd hN (by omega)
  | succ N ih =>
    intro i τ hN hi
    obtain ⟨hi, hT, ho⟩ := hi
    have hX := ld_8 hx ho
    have hc := hX.2.1
    have hs := hX.1
    have hlt : (nI xs.length).toInt = xs.length := nI_t (by omega)
    have hit : (nI i).toInt = i := nI_t (by omega)
    refine rj_ild2 dX12_endOf_6 rfl ?_
    refine rj_ald0 dX12_endOf_7 rfl ?_
    refine g12_114 dX12_endOf_8 ?_
    rw [hs]
    refine rj_ic_ge (tgt := 25) dX12_endOf_11 (by decide) (fun h_11 => ?_) (fun h_11 => ?_)
    · refine rj_ic0 dX12_endOf_25 ?_
      refine rj_ist2 dX12_endOf_26 (by decide) rfl ?_
      refine rj_ic0 dX12_endOf_27 ?_
      refine rj_ist3 dX12_endOf_28 (by decide) rfl ?_
      have hie : i = xs.length := by omega
      rw [hie, List.take_length] at hT
      exact l_X12_endB (mr_s hM (mq_8 ho)) hr4 hT hp hj hf (hQ τ ho) (A.2.1.1.toInt.toNat + 1) 0 0 (by omega) ⟨by omega, fun z => absurd z (by omega)⟩
    · refine rj_ald0 dX12_endOf_14 rfl ?_
      refine rj_ild2 dX12_endOf_15 rfl ?_
      refine rj_V1 (ci := 12) cX12_179 rfl (by decide) (by first | assumption | rfl) dX12_endOf_16 (c_X12_crosses hX hok hr4 (by omega) hT) (fitM (by omega) (by decide)) (Nat.le_of_ble_eq_true rfl) ?_
      rintro v υ ⟨rfl, hT1, ho1⟩
      simp only [Option.toList, List.nil_append]
      refine rj_iinc2 (d := 1) dX12_endOf_19 (by decide) rfl (by decide) ?_
      rw [nI_1]
      refine rj_goto (tgt := 6) dX12_endOf_22 (by decide) ?_
      exact ih (i + 1) υ (by omega) ⟨by omega, hT1, ho.tr ho1⟩

set_option maxRecDepth 100000 in
theorem c_X12_endOf {l : Launch} {X : CX} {σ : ST} {A : SA} (hM : MR σ A) (hw : wf A) {xs : List Int32} (hx : LD σ xs) (hok : okL A.2.1.1 xs) {m : Nat} (hm : m < A.2.1.1.toInt.toNat) : MJ l X 2 yX12_endOf cX12_endOf 4 (some .int) [.ref (ad X 112), .int (nI m)] σ ((fun v τ => v = some (.int (eoF A.2.1.1 (stf xs).1 (nI m))) ∧ off c8 σ τ)) := by
  refine MJ_of (own := RX12) [some (.ref (ad X 112)), some (.int (nI m)), none, none] (by decide) rfl (Nat.le_of_ble_eq_true rfl) rfl ?_
  have hr2 := hw.1.1
  have hr4 := hw.1.2.1
  have h0 : σ.1 113 0 = A.2.1.1 := hM.1.1
  have hp := pm_stf (okL_k hok (n := A.2.1.1.toInt.toNat) (by omega)) (by omega)
  obtain ⟨j, hj, hf, he⟩ := eoF_in hp rfl hm
  rw [he]
  refine rj_ald0 dX12_endOf_0 rfl ?_
  refine rj_V0 (ci := 12) cX12_176 rfl (by decide) (by first | assumption | rfl) dX12_endOf_1 c_X12_begins (fitM (by decide) (by decide)) (Nat.le_of_ble_eq_true rfl) ?_
  rintro v υ ⟨rfl, hT1, ho1⟩
  simp only [Option.toList, List.nil_append]
  refine rj_ic0 dX12_endOf_4 ?_
  refine rj_ist2 dX12_endOf_5 (by decide) rfl ?_
  exact l_X12_endA (by decide) (mr_s hM (mq_8 ho1)) hr4 (ld_8 hx ho1) hok hp hj hf (fun τ ho => ⟨rfl, ho1.tr ho⟩) (xs.length + 1) 0 υ (by omega) ⟨by omega, hT1, off.rf⟩

set_option maxRecDepth 100000 in
theorem c_X12_isPlace {l : Launch} {X : CX} {σ : ST} {A : SA} (hM : MR σ A) (hw : wf A) {c : Int32} : MJ l X 1 yX12_isPlace cX12_isPlace 2 (some .boolean) [.ref (ad X 112), .int c] σ (eqI (if 0 ≤ c.toInt ∧ c.toInt < A.2.1.1.toInt then 1 else 0) σ) := by
  refine MJ_of (own := RX12) [some (.ref (ad X 112)), some (.int c)] (by decide) rfl (Nat.le_of_ble_eq_true rfl) rfl ?_
  have hr2 := hw.1.1
  have hr4 := hw.1.2.1
  have h0 : σ.1 113 0 = A.2.1.1 := hM.1.1
  have e2 : (A.2.1.1 - 1).toInt = A.2.1.1.toInt - 1 := by rw [i_sub (by rw [t1]; omega) (by rw [t1]; omega), t1]
  refine rj_ild1 dX12_isPlace_0 rfl ?_
  refine rj_ic0 dX12_isPlace_1 ?_
  refine rj_ald0 dX12_isPlace_2 rfl ?_
  refine g12_7 dX12_isPlace_3 ?_
  refine rj_ic0 dX12_isPlace_6 ?_
  refine rj_iald (by first | assumption | rfl) (vpi (by decide) (by decide)) dX12_isPlace_7 ?_
  rw [show (0 : Int32).toNatClampNeg = 0 from rfl, h0]
  refine rj_ic1 dX12_isPlace_8 ?_
  refine rj_isub dX12_isPlace_9 ?_
  refine rj_S3i cX12_60 dX12_isPlace_10 c_X12_in (fitM (by decide) (by decide)) (Nat.le_of_ble_eq_true rfl) ?_
  refine rj_zret dX12_isPlace_13 (by split <;> rfl) ?_
  refine ⟨?_, rfl⟩
  congr 2
  by_cases h : 0 ≤ c.toInt ∧ c.toInt < A.2.1.1.toInt
  · rw [if_pos h, if_pos (by rw [t0, e2]; omega)]
  · rw [if_neg h, if_neg (by rw [t0, e2]; omega)]

set_option maxRecDepth 100000 in
theorem c_X12_ends {l : Launch} {X : CX} {σ : ST} {A : SA} (hM : MR σ A) (hw : wf A) {t q : Int32} : MJ l X 4 yX12_ends cX12_ends 3 (some .int) [.ref (ad X 112), .int t, .int q] σ (OM σ (F_ends A t q)) := by
  refine MJ_of (own := RX12) [some (.ref (ad X 112)), some (.int t), some (.int q)] (by decide) rfl (Nat.le_of_ble_eq_true rfl) rfl ?_
  refine rj_ald0 dX12_ends_0 rfl ?_
  refine rj_ild1 dX12_ends_1 rfl ?_
  refine rj_V1i (ci := 12) cX12_85 rfl (by decide) (by first | assumption | rfl) dX12_ends_2 (c_X12_isTie hM) (fitM (by decide) (by decide)) (Nat.le_of_ble_eq_true rfl) ?_
  refine rj_if_eq (tgt := 16) dX12_ends_5 (by decide) (fun h_5 => ?_) (fun h_5 => ?_)
  · have hb_5 := bz_t h_5
    refine rj_ald0 dX12_ends_16 rfl ?_
    refine rj_ldc kX12_59 dX12_ends_17 ?_
    refine rj_V1 (ci := 12) cX12_68 rfl (by decide) rfl dX12_ends_19 (c_X12_finds (i := 0) hM (by decide) (by decide)) (fitM (by decide) (by decide)) (Nat.le_of_ble_eq_true rfl) ?_
    rintro v υq ⟨rfl, hq⟩
    simp only [Option.toList, List.cons_append, List.nil_append]
    refine rj_iret dX12_ends_22 ?_
    have e : F_ends A t q = fnd A 0 := by unfold F_ends; rw [wT_out hb_5]
    rw [e]
    exact ⟨rfl, hq⟩
  · have hb_5 := bz_f h_5
    obtain ⟨j, hv, hj⟩ := mt_in hb_5
    have h12 := (wf_t hw hj).2.2.1
    have hlt : (nI (fT A j).2.length).toInt = (fT A j).2.length := nI_t (by omega)
    have h8 := hM.1.2.2.2.1
    obtain ⟨f1, f2, f3, f4⟩ := hM.1.2.2.2.2 j hj
    have f6 : σ.1 113 (4 + 14 * j) = nI (fT A j).2.length := f2
    have f7 : σ.1 113 (3 + 14 * j) = (fT A j).1 := f1
    refine rj_ald0 dX12_ends_8 rfl ?_
    refine rj_ild2 dX12_ends_9 rfl ?_
    refine rj_V1i (ci := 12) cX12_182 rfl (by decide) (by first | assumption | rfl) dX12_ends_10 (c_X12_isPlace hM hw) (fitM (by decide) (by decide)) (Nat.le_of_ble_eq_true rfl) ?_
    refine rj_if_ne (tgt := 23) dX12_ends_13 (by decide) (fun h_13 => ?_) (fun h_13 => ?_)
    · have hb_13 := bz_f h_13
      obtain ⟨n, hn, rfl⟩ : ∃ n : Nat, q.toInt = n ∧ q = nI n := ⟨q.toInt.toNat, by omega, i_nI hb_13.1⟩
      rw [hn] at hb_13
      refine rj_ald0 dX12_ends_23 rfl ?_
      refine rj_ild1 dX12_ends_24 rfl ?_
      refine rj_V1 (ci := 12) cX12_123 rfl (by decide) (by first | assumption | rfl) dX12_ends_25 (c_X12_layTie hM hw hv hj) (fitM (by decide) (by decide)) (Nat.le_of_ble_eq_true rfl) ?_
      rintro v υ ⟨rfl, hx1, hy1, hn1⟩
      simp only [Option.toList, List.nil_append]
      have hly : lyN (fT A j).1 (fT A j).2.length = (lyA A j).length := (ly_len _ _ _).symm
      have hM1 := mr_s hM hn1
      have hl1 := hx1.1
      have hl2 := hx1.2.1
      have hl3 : (nI (lyA A j).length).toInt = (lyA A j).length := nI_t (by omega)
      refine rj_ald0 dX12_ends_28 rfl ?_
      refine rj_ild2 dX12_ends_29 rfl ?_
      refine rj_V1 (ci := 12) cX12_185 rfl (by decide) (by first | assumption | rfl) dX12_ends_30 (c_X12_endOf hM1 hw hx1 (wf_ly hw hj) (m := n) (by omega)) (fitM (by decide) (by decide)) (Nat.le_of_ble_eq_true rfl) ?_
      rintro v υ2 ⟨rfl, ho2⟩
      simp only [Option.toList, List.cons_append, List.nil_append]
      refine rj_iret dX12_ends_33 ?_
      have e : F_ends A t (nI n) = (eoF A.2.1.1 (stf (lyA A j)).1 (nI n), A) := by unfold F_ends; rw [wT_in hv hj, hn, if_pos hb_13]
      rw [e]
      exact ⟨rfl, mr_s hM1 (mq_8 ho2), (mq_md hn1).tr (mq_md (mq_8 ho2))⟩
    · have hb_13 := bz_t h_13
      refine rj_ald0 dX12_ends_16 rfl ?_
      refine rj_ldc kX12_59 dX12_ends_17 ?_
      refine rj_V1 (ci := 12) cX12_68 rfl (by decide) rfl dX12_ends_19 (c_X12_finds (i := 0) hM (by decide) (by decide)) (fitM (by decide) (by decide)) (Nat.le_of_ble_eq_true rfl) ?_
      rintro v υq ⟨rfl, hq⟩
      simp only [Option.toList, List.cons_append, List.nil_append]
      refine rj_iret dX12_ends_22 ?_
      have e : F_ends A t q = fnd A 0 := by unfold F_ends; rw [wT_in hv hj, if_neg hb_13]
      rw [e]
      exact ⟨rfl, hq⟩

set_option maxRecDepth 100000 in
theorem l_X12_sum {l : Launch} {X : CX} {h : Nat} {Q : Option Value → ST → Prop} {σ : ST} {xs : List Int32} {t : Int32} (hx : LD σ xs) (hQ : Q (some (.int (sgs xs))) σ) : ∀ (N i : Nat), xs.length < i + N → i ≤ xs.length → RJ (GM l X h Q) X cX12_sum 4 (some .int) RX12 24 [some (.ref (ad X 112)), some (.int t), some (.int (sgs (xs.take i))), some (.int (nI i))] [] σ := by
  intro N
  induction N with
  | zero => intro i hN hi; exact absurd hN (by omega)
  | succ N ih =>
    intro i hN hi
    have hc := hx.2.1
    have hs := hx.1
    have hlt : (nI xs.length).toInt = xs.length := nI_t (by omega)
    have hit : (nI i).toInt = i := nI_t (by omega)
    refine rj_ild3 dX12_sum_24 rfl ?_
    refine rj_ald0 dX12_sum_25 rfl ?_
    refine g12_114 dX12_sum_26 ?_
    rw [hs]
    refine rj_ic_ge (tgt := 55) dX12_sum_29 (by decide) (fun h_29 => ?_) (fun h_29 => ?_)
    · refine rj_ild2 dX12_sum_55 rfl ?_
      refine rj_iret dX12_sum_56 ?_
      rw [show i = xs.length by omega, List.take_length]
      exact hQ
    · refine rj_ild2 dX12_sum_32 rfl ?_
      refine rj_ald0 dX12_sum_33 rfl ?_
      refine g12_16 dX12_sum_34 ?_
      refine rj_ild3 dX12_sum_37 rfl ?_
      refine rj_iald (by first | assumption | rfl) (vpi (by omega) (by show _ < ((24 : Nat) : Int); omega)) dX12_sum_38 ?_
      rw [nI_clamp (by omega), hx.2.2 i (by omega)]
      refine rj_if_le (tgt := 46) dX12_sum_39 (by decide) (fun h_39 => ?_) (fun h_39 => ?_)
      · refine rj_icm1 dX12_sum_46 ?_
        refine rj_iadd dX12_sum_47 ?_
        refine rj_ist2 dX12_sum_48 (by decide) rfl ?_
        refine rj_iinc3 (d := 1) dX12_sum_49 (by decide) rfl (by decide) ?_
        rw [nI_1]
        refine rj_goto (tgt := 24) dX12_sum_52 (by decide) ?_
        have k := ih (i + 1) (by omega) (by omega)
        rw [take_snoc (by omega), sgs_snoc, show sg (xs.getD i 0) = -1 by unfold sg; rw [if_neg (by omega)]] at k
        exact k
      · refine rj_ic1 dX12_sum_42 ?_
        refine rj_goto (tgt := 47) dX12_sum_43 (by decide) ?_
        refine rj_iadd dX12_sum_47 ?_
        refine rj_ist2 dX12_sum_48 (by decide) rfl ?_
        refine rj_iinc3 (d := 1) dX12_sum_49 (by decide) rfl (by decide) ?_
        rw [nI_1]
        refine rj_goto (tgt := 24) dX12_sum_52 (by decide) ?_
        have k := ih (i + 1) (by omega) (by omega)
        rw [take_snoc (by omega), sgs_snoc, show sg (xs.getD i 0) = 1 by unfold sg; rw [if_pos (by omega)]] at k
        exact k

set_option maxRecDepth 100000 in
theorem c_X12_sum {l : Launch} {X : CX} {σ : ST} {A : SA} (hM : MR σ A) (hw : wf A) {t : Int32} : MJ l X 4 yX12_sum cX12_sum 4 (some .int) [.ref (ad X 112), .int t] σ (OM σ (F_sum A t)) := by
  refine MJ_of (own := RX12) [some (.ref (ad X 112)), some (.int t), none, none] (by decide) rfl (Nat.le_of_ble_eq_true rfl) rfl ?_
  refine rj_ald0 dX12_sum_0 rfl ?_
  refine rj_ild1 dX12_sum_1 rfl ?_
  refine rj_V1i (ci := 12) cX12_85 rfl (by decide) (by first | assumption | rfl) dX12_sum_2 (c_X12_isTie hM) (fitM (by decide) (by decide)) (Nat.le_of_ble_eq_true rfl) ?_
  refine rj_if_ne (tgt := 15) dX12_sum_5 (by decide) (fun h_5 => ?_) (fun h_5 => ?_)
  · have hb_5 := bz_f h_5
    obtain ⟨j, hv, hj⟩ := mt_in hb_5
    have h12 := (wf_t hw hj).2.2.1
    have hlt : (nI (fT A j).2.length).toInt = (fT A j).2.length := nI_t (by omega)
    have h8 := hM.1.2.2.2.1
    obtain ⟨f1, f2, f3, f4⟩ := hM.1.2.2.2.2 j hj
    have f6 : σ.1 113 (4 + 14 * j) = nI (fT A j).2.length := f2
    have f7 : σ.1 113 (3 + 14 * j) = (fT A j).1 := f1
    refine rj_ald0 dX12_sum_15 rfl ?_
    refine rj_ild1 dX12_sum_16 rfl ?_
    refine rj_V1 (ci := 12) cX12_123 rfl (by decide) (by first | assumption | rfl) dX12_sum_17 (c_X12_layTie hM hw hv hj) (fitM (by decide) (by decide)) (Nat.le_of_ble_eq_true rfl) ?_
    rintro v υ ⟨rfl, hx1, hy1, hn1⟩
    simp only [Option.toList, List.nil_append]
    have hly : lyN (fT A j).1 (fT A j).2.length = (lyA A j).length := (ly_len _ _ _).symm
    have hM1 := mr_s hM hn1
    have hl1 := hx1.1
    have hl2 := hx1.2.1
    have hl3 : (nI (lyA A j).length).toInt = (lyA A j).length := nI_t (by omega)
    refine rj_ic0 dX12_sum_20 ?_
    refine rj_ist2 dX12_sum_21 (by decide) rfl ?_
    refine rj_ic0 dX12_sum_22 ?_
    refine rj_ist3 dX12_sum_23 (by decide) rfl ?_
    have e : F_sum A t = (sgs (lyA A j), A) := by unfold F_sum; rw [wT_in hv hj]
    rw [e]
    exact l_X12_sum hx1 ⟨rfl, hM1, mq_md hn1⟩ ((lyA A j).length + 1) 0 (by omega) (by omega)
  · have hb_5 := bz_t h_5
    refine rj_ald0 dX12_sum_8 rfl ?_
    refine rj_ldc kX12_59 dX12_sum_9 ?_
    refine rj_V1 (ci := 12) cX12_68 rfl (by decide) rfl dX12_sum_11 (c_X12_finds (i := 0) hM (by decide) (by decide)) (fitM (by decide) (by decide)) (Nat.le_of_ble_eq_true rfl) ?_
    rintro v υq ⟨rfl, hq⟩
    simp only [Option.toList, List.cons_append, List.nil_append]
    refine rj_iret dX12_sum_14 ?_
    have e : F_sum A t = fnd A 0 := by unfold F_sum; rw [wT_out hb_5]
    rw [e]
    exact ⟨rfl, hq⟩

set_option maxRecDepth 100000 in
theorem l_X12_linksOf {l : Launch} {X : CX} {h : Nat} {Q : Option Value → ST → Prop} {σ : ST} {rc : Int32} {xs : List Int32} {a b : Nat} (hh : 2 ≤ h) (hx : LD σ xs) (hok : okL rc xs) (hr4 : rc.toInt ≤ 4) (ha : a < 4) (hb : b < 4) (hQ : ∀ τ, off c8 σ τ → Q (some (.int ((stf xs).2 (pr (nI a) (nI b)).toNatClampNeg))) τ) : ∀ (N i : Nat) (τ : ST) (y1 y2 : Option Value), xs.length < i + N → (i ≤ xs.length ∧ TH τ (xs.take i) ∧ off c8 σ τ) → RJ (GM l X h Q) X cX12_linksOf 7 (some .int) RX12 9 [some (.ref (ad X 112)), some (.int (nI a)), some (.int (nI b)), some (.int ((stf (xs.take i)).2 (pr (nI a) (nI b)).toNatClampNeg)), some (.int (nI i)), y1, y2] [] τ := by
  intro N
  induction N with
  | zero => intro i τ y1 y2 hN hi; have := hi.1; exact absurd hN (by omega)
  | succ N ih =>
    intro i τ y1 y2 hN hi
    obtain ⟨hi, hT, ho⟩ := hi
    have hX := ld_8 hx ho
    have hc := hX.2.1
    have hs := hX.1
    have hlt : (nI xs.length).toInt = xs.length := nI_t (by omega)
    have hit : (nI i).toInt = i := nI_t (by omega)
    refine rj_ild dX12_linksOf_9 rfl ?_
    refine rj_ald0 dX12_linksOf_11 rfl ?_
    refine g12_114 dX12_linksOf_12 ?_
    rw [hs]
    refine rj_ic_ge (tgt := 124) dX12_linksOf_15 (by decide) (fun h_15 => ?_) (fun h_15 => ?_)
    · refine rj_ild3 dX12_linksOf_124 rfl ?_
      refine rj_iret dX12_linksOf_125 ?_
      rw [show i = xs.length by omega, List.take_length]
      exact hQ τ ho
    · obtain ⟨k, hk, hcv, hk1, hk4⟩ : ∃ k : Nat, (xs.getD i 0).toInt.natAbs = k ∧ iab (xs.getD i 0) = nI k ∧ 1 ≤ k ∧ k < 4 := by
        have q := iab_ok (okL_get hok (show i < xs.length by omega)) hr4
        exact ⟨_, rfl, nI_of_toInt q.1, q.2.1, q.2.2.1⟩
      have hkt : (nI k).toInt = k := nI_t (by omega)
      have hkm : nI k - 1 = nI (k - 1) := by
        apply i_inj
        rw [i_sub (by rw [hkt, t1]; omega) (by rw [hkt, t1]; omega), hkt, t1, nI_t (by omega)]
        omega
      have hkmt : (nI (k - 1)).toInt = (k - 1 : Nat) := nI_t (by omega)
      have hpm := pm_stf (n := 4) (xs := xs.take i) (okL_k (rc := rc) (fun c hcc => hok c (List.mem_of_mem_take hcc)) (by omega)) (by omega)
      obtain ⟨u, hu, ef⟩ := hpm.2.1 k hk4
      obtain ⟨u1, hu1, ef1⟩ := hpm.2.1 (k - 1) (by omega)
      refine rj_ald0 dX12_linksOf_18 rfl ?_
      refine g12_16 dX12_linksOf_19 ?_
      refine rj_ild dX12_linksOf_22 rfl ?_
      refine rj_iald (by first | assumption | rfl) (vpi (by omega) (by show _ < ((24 : Nat) : Int); omega)) dX12_linksOf_24 ?_
      rw [nI_clamp (by omega), hX.2.2 i (by omega)]
      refine rj_S1i cX12_144 dX12_linksOf_25 c_X12_apartOf (fitM (by omega) (by decide)) (Nat.le_of_ble_eq_true rfl) ?_
      rw [hcv]
      refine rj_ist5w dX12_linksOf_28 (by decide) rfl ?_
      refine rj_ald0 dX12_linksOf_30 rfl ?_
      refine g12_25 dX12_linksOf_31 ?_
      refine rj_ild dX12_linksOf_34 rfl ?_
      refine rj_iald (by first | assumption | rfl) (vpi (by omega) (by show _ < ((4 : Nat) : Int); omega)) dX12_linksOf_36 ?_
      rw [nI_clamp (by omega), hT k hk4]
      refine rj_ild1 dX12_linksOf_37 rfl ?_
      refine rj_ic_ne (tgt := 54) dX12_linksOf_38 (by decide) (fun h_38 => ?_) (fun h_38 => ?_)
      · refine rj_ald0 dX12_linksOf_54 rfl ?_
        refine g12_25 dX12_linksOf_55 ?_
        refine rj_ild dX12_linksOf_58 rfl ?_
        refine rj_iald (by first | assumption | rfl) (vpi (by omega) (by show _ < ((4 : Nat) : Int); omega)) dX12_linksOf_60 ?_
        rw [nI_clamp (by omega), hT k hk4]
        refine rj_ild2 dX12_linksOf_61 rfl ?_
        refine rj_ic_ne (tgt := 82) dX12_linksOf_62 (by decide) (fun h_62 => ?_) (fun h_62 => ?_)
        · refine rj_ic0 dX12_linksOf_82 ?_
          refine rj_ist6w dX12_linksOf_83 (by decide) rfl ?_
          refine rj_ild3 dX12_linksOf_85 rfl ?_
          refine rj_ild dX12_linksOf_86 rfl ?_
          refine rj_if_ne (tgt := 95) dX12_linksOf_88 (by decide) (fun h_88 => ?_) (fun h_88 => ?_)
          · exact absurd rfl h_88
          · refine rj_ic0 dX12_linksOf_91 ?_
            refine rj_goto (tgt := 110) dX12_linksOf_92 (by decide) ?_
            refine rj_iadd dX12_linksOf_110 ?_
            refine rj_ist3 dX12_linksOf_111 (by decide) rfl ?_
            refine rj_ald0 dX12_linksOf_112 rfl ?_
            refine rj_ild dX12_linksOf_113 rfl ?_
            refine rj_V1 (ci := 12) cX12_179 rfl (by decide) (by first | assumption | rfl) dX12_linksOf_115 (c_X12_crosses hX hok hr4 (by omega) hT) (fitM (by omega) (by decide)) (Nat.le_of_ble_eq_true rfl) ?_
            rintro v υ ⟨rfl, hT1, ho1⟩
            simp only [Option.toList, List.nil_append]
            refine rj_iinc4 (d := 1) dX12_linksOf_118 (by decide) rfl (by decide) ?_
            rw [nI_1]
            refine rj_goto (tgt := 9) dX12_linksOf_121 (by decide) ?_
            have k2 := ih (i + 1) υ (some (.int (nI k))) (some (.int 0)) (by omega) ⟨by omega, hT1, ho.tr ho1⟩
            rw [take_snoc (by omega), stf_snoc] at k2
            rw [stp2, hk] at k2
            have hl : ¬ (pr (nI a) (nI b)).toNatClampNeg = (pr ((stf (xs.take i)).1 (k - 1)) ((stf (xs.take i)).1 k)).toNatClampNeg := by
              rw [ef, ef1]
              intro z
              exact ((pr_iff u1 hu1 u hu a ha b hb).mp z.symm).elim (fun y => h_62 (by rw [ef, y.2])) (fun y => h_38 (by rw [ef, y.2]))
            rw [if_neg hl] at k2
            rw [Int32.add_zero]
            exact k2
        · refine rj_ald0 dX12_linksOf_65 rfl ?_
          refine g12_25 dX12_linksOf_66 ?_
          refine rj_ild dX12_linksOf_69 rfl ?_
          refine rj_ic1 dX12_linksOf_71 ?_
          refine rj_isub dX12_linksOf_72 ?_
          rw [hkm]
          refine rj_iald (by first | assumption | rfl) (vpi (by omega) (by show _ < ((4 : Nat) : Int); omega)) dX12_linksOf_73 ?_
          rw [nI_clamp (by omega), hT (k - 1) (by omega)]
          refine rj_ild1 dX12_linksOf_74 rfl ?_
          refine rj_ic_ne (tgt := 82) dX12_linksOf_75 (by decide) (fun h_75 => ?_) (fun h_75 => ?_)
          · refine rj_ic0 dX12_linksOf_82 ?_
            refine rj_ist6w dX12_linksOf_83 (by decide) rfl ?_
            refine rj_ild3 dX12_linksOf_85 rfl ?_
            refine rj_ild dX12_linksOf_86 rfl ?_
            refine rj_if_ne (tgt := 95) dX12_linksOf_88 (by decide) (fun h_88 => ?_) (fun h_88 => ?_)
            · exact absurd rfl h_88
            · refine rj_ic0 dX12_linksOf_91 ?_
              refine rj_goto (tgt := 110) dX12_linksOf_92 (by decide) ?_
              refine rj_iadd dX12_linksOf_110 ?_
              refine rj_ist3 dX12_linksOf_111 (by decide) rfl ?_
              refine rj_ald0 dX12_linksOf_112 rfl ?_
              refine rj_ild dX12_linksOf_113 rfl ?_
              refine rj_V1 (ci := 12) cX12_179 rfl (by decide) (by first | assumption | rfl) dX12_linksOf_115 (c_X12_crosses hX hok hr4 (by omega) hT) (fitM (by omega) (by decide)) (Nat.le_of_ble_eq_true rfl) ?_
              rintro v υ ⟨rfl, hT1, ho1⟩
              simp only [Option.toList, List.nil_append]
              refine rj_iinc4 (d := 1) dX12_linksOf_118 (by decide) rfl (by decide) ?_
              rw [nI_1]
              refine rj_goto (tgt := 9) dX12_linksOf_121 (by decide) ?_
              have k2 := ih (i + 1) υ (some (.int (nI k))) (some (.int 0)) (by omega) ⟨by omega, hT1, ho.tr ho1⟩
              rw [take_snoc (by omega), stf_snoc] at k2
              rw [stp2, hk] at k2
              have hl : ¬ (pr (nI a) (nI b)).toNatClampNeg = (pr ((stf (xs.take i)).1 (k - 1)) ((stf (xs.take i)).1 k)).toNatClampNeg := by
                rw [ef, ef1]
                intro z
                exact ((pr_iff u1 hu1 u hu a ha b hb).mp z.symm).elim (fun y => h_75 (by rw [ef1, y.1])) (fun y => h_38 (by rw [ef, y.2]))
              rw [if_neg hl] at k2
              rw [Int32.add_zero]
              exact k2
          · refine rj_ic1 dX12_linksOf_78 ?_
            refine rj_goto (tgt := 83) dX12_linksOf_79 (by decide) ?_
            refine rj_ist6w dX12_linksOf_83 (by decide) rfl ?_
            refine rj_ild3 dX12_linksOf_85 rfl ?_
            refine rj_ild dX12_linksOf_86 rfl ?_
            refine rj_if_ne (tgt := 95) dX12_linksOf_88 (by decide) (fun h_88 => ?_) (fun h_88 => ?_)
            · refine rj_ald0 dX12_linksOf_95 rfl ?_
              refine g12_16 dX12_linksOf_96 ?_
              refine rj_ild dX12_linksOf_99 rfl ?_
              refine rj_iald (by first | assumption | rfl) (vpi (by omega) (by show _ < ((24 : Nat) : Int); omega)) dX12_linksOf_101 ?_
              rw [nI_clamp (by omega), hX.2.2 i (by omega)]
              refine rj_if_le (tgt := 109) dX12_linksOf_102 (by decide) (fun h_102 => ?_) (fun h_102 => ?_)
              · refine rj_icm1 dX12_linksOf_109 ?_
                refine rj_iadd dX12_linksOf_110 ?_
                refine rj_ist3 dX12_linksOf_111 (by decide) rfl ?_
                refine rj_ald0 dX12_linksOf_112 rfl ?_
                refine rj_ild dX12_linksOf_113 rfl ?_
                refine rj_V1 (ci := 12) cX12_179 rfl (by decide) (by first | assumption | rfl) dX12_linksOf_115 (c_X12_crosses hX hok hr4 (by omega) hT) (fitM (by omega) (by decide)) (Nat.le_of_ble_eq_true rfl) ?_
                rintro v υ ⟨rfl, hT1, ho1⟩
                simp only [Option.toList, List.nil_append]
                refine rj_iinc4 (d := 1) dX12_linksOf_118 (by decide) rfl (by decide) ?_
                rw [nI_1]
                refine rj_goto (tgt := 9) dX12_linksOf_121 (by decide) ?_
                have k2 := ih (i + 1) υ (some (.int (nI k))) (some (.int 1)) (by omega) ⟨by omega, hT1, ho.tr ho1⟩
                rw [take_snoc (by omega), stf_snoc] at k2
                rw [stp2, hk] at k2
                have hl : (pr ((stf (xs.take i)).1 (k - 1)) ((stf (xs.take i)).1 k)).toNatClampNeg = (pr (nI a) (nI b)).toNatClampNeg := by rw [ef, ef1]; exact (pr_iff u1 hu1 u hu a ha b hb).mpr (Or.inl ⟨nI_ij (by omega) (by omega) (ef1.symm.trans h_75), nI_ij (by omega) (by omega) (ef.symm.trans h_62)⟩)
                rw [if_pos hl.symm, show sg (xs.getD i 0) = -1 by unfold sg; rw [if_neg (by omega)]] at k2
                exact k2
              · refine rj_ic1 dX12_linksOf_105 ?_
                refine rj_goto (tgt := 110) dX12_linksOf_106 (by decide) ?_
                refine rj_iadd dX12_linksOf_110 ?_
                refine rj_ist3 dX12_linksOf_111 (by decide) rfl ?_
                refine rj_ald0 dX12_linksOf_112 rfl ?_
                refine rj_ild dX12_linksOf_113 rfl ?_
                refine rj_V1 (ci := 12) cX12_179 rfl (by decide) (by first | assumption | rfl) dX12_linksOf_115 (c_X12_crosses hX hok hr4 (by omega) hT) (fitM (by omega) (by decide)) (Nat.le_of_ble_eq_true rfl) ?_
                rintro v υ ⟨rfl, hT1, ho1⟩
                simp only [Option.toList, List.nil_append]
                refine rj_iinc4 (d := 1) dX12_linksOf_118 (by decide) rfl (by decide) ?_
                rw [nI_1]
                refine rj_goto (tgt := 9) dX12_linksOf_121 (by decide) ?_
                have k2 := ih (i + 1) υ (some (.int (nI k))) (some (.int 1)) (by omega) ⟨by omega, hT1, ho.tr ho1⟩
                rw [take_snoc (by omega), stf_snoc] at k2
                rw [stp2, hk] at k2
                have hl : (pr ((stf (xs.take i)).1 (k - 1)) ((stf (xs.take i)).1 k)).toNatClampNeg = (pr (nI a) (nI b)).toNatClampNeg := by rw [ef, ef1]; exact (pr_iff u1 hu1 u hu a ha b hb).mpr (Or.inl ⟨nI_ij (by omega) (by omega) (ef1.symm.trans h_75), nI_ij (by omega) (by omega) (ef.symm.trans h_62)⟩)
                rw [if_pos hl.symm, show sg (xs.getD i 0) = 1 by unfold sg; rw [if_pos (by omega)]] at k2
                exact k2
            · exact absurd h_88 (by decide)
      · refine rj_ald0 dX12_linksOf_41 rfl ?_
        refine g12_25 dX12_linksOf_42 ?_
        refine rj_ild dX12_linksOf_45 rfl ?_
        refine rj_ic1 dX12_linksOf_47 ?_
        refine rj_isub dX12_linksOf_48 ?_
        rw [hkm]
        refine rj_iald (by first | assumption | rfl) (vpi (by omega) (by show _ < ((4 : Nat) : Int); omega)) dX12_linksOf_49 ?_
        rw [nI_clamp (by omega), hT (k - 1) (by omega)]
        refine rj_ild2 dX12_linksOf_50 rfl ?_
        refine rj_ic_eq (tgt := 78) dX12_linksOf_51 (by decide) (fun h_51 => ?_) (fun h_51 => ?_)
        · refine rj_ic1 dX12_linksOf_78 ?_
          refine rj_goto (tgt := 83) dX12_linksOf_79 (by decide) ?_
          refine rj_ist6w dX12_linksOf_83 (by decide) rfl ?_
          refine rj_ild3 dX12_linksOf_85 rfl ?_
          refine rj_ild dX12_linksOf_86 rfl ?_
          refine rj_if_ne (tgt := 95) dX12_linksOf_88 (by decide) (fun h_88 => ?_) (fun h_88 => ?_)
          · refine rj_ald0 dX12_linksOf_95 rfl ?_
            refine g12_16 dX12_linksOf_96 ?_
            refine rj_ild dX12_linksOf_99 rfl ?_
            refine rj_iald (by first | assumption | rfl) (vpi (by omega) (by show _ < ((24 : Nat) : Int); omega)) dX12_linksOf_101 ?_
            rw [nI_clamp (by omega), hX.2.2 i (by omega)]
            refine rj_if_le (tgt := 109) dX12_linksOf_102 (by decide) (fun h_102 => ?_) (fun h_102 => ?_)
            · refine rj_icm1 dX12_linksOf_109 ?_
              refine rj_iadd dX12_linksOf_110 ?_
              refine rj_ist3 dX12_linksOf_111 (by decide) rfl ?_
              refine rj_ald0 dX12_linksOf_112 rfl ?_
              refine rj_ild dX12_linksOf_113 rfl ?_
              refine rj_V1 (ci := 12) cX12_179 rfl (by decide) (by first | assumption | rfl) dX12_linksOf_115 (c_X12_crosses hX hok hr4 (by omega) hT) (fitM (by omega) (by decide)) (Nat.le_of_ble_eq_true rfl) ?_
              rintro v υ ⟨rfl, hT1, ho1⟩
              simp only [Option.toList, List.nil_append]
              refine rj_iinc4 (d := 1) dX12_linksOf_118 (by decide) rfl (by decide) ?_
              rw [nI_1]
              refine rj_goto (tgt := 9) dX12_linksOf_121 (by decide) ?_
              have k2 := ih (i + 1) υ (some (.int (nI k))) (some (.int 1)) (by omega) ⟨by omega, hT1, ho.tr ho1⟩
              rw [take_snoc (by omega), stf_snoc] at k2
              rw [stp2, hk] at k2
              have hl : (pr ((stf (xs.take i)).1 (k - 1)) ((stf (xs.take i)).1 k)).toNatClampNeg = (pr (nI a) (nI b)).toNatClampNeg := by rw [ef, ef1]; exact (pr_iff u1 hu1 u hu a ha b hb).mpr (Or.inr ⟨nI_ij (by omega) (by omega) (ef1.symm.trans h_51), nI_ij (by omega) (by omega) (ef.symm.trans h_38)⟩)
              rw [if_pos hl.symm, show sg (xs.getD i 0) = -1 by unfold sg; rw [if_neg (by omega)]] at k2
              exact k2
            · refine rj_ic1 dX12_linksOf_105 ?_
              refine rj_goto (tgt := 110) dX12_linksOf_106 (by decide) ?_
              refine rj_iadd dX12_linksOf_110 ?_
              refine rj_ist3 dX12_linksOf_111 (by decide) rfl ?_
              refine rj_ald0 dX12_linksOf_112 rfl ?_
              refine rj_ild dX12_linksOf_113 rfl ?_
              refine rj_V1 (ci := 12) cX12_179 rfl (by decide) (by first | assumption | rfl) dX12_linksOf_115 (c_X12_crosses hX hok hr4 (by omega) hT) (fitM (by omega) (by decide)) (Nat.le_of_ble_eq_true rfl) ?_
              rintro v υ ⟨rfl, hT1, ho1⟩
              simp only [Option.toList, List.nil_append]
              refine rj_iinc4 (d := 1) dX12_linksOf_118 (by decide) rfl (by decide) ?_
              rw [nI_1]
              refine rj_goto (tgt := 9) dX12_linksOf_121 (by decide) ?_
              have k2 := ih (i + 1) υ (some (.int (nI k))) (some (.int 1)) (by omega) ⟨by omega, hT1, ho.tr ho1⟩
              rw [take_snoc (by omega), stf_snoc] at k2
              rw [stp2, hk] at k2
              have hl : (pr ((stf (xs.take i)).1 (k - 1)) ((stf (xs.take i)).1 k)).toNatClampNeg = (pr (nI a) (nI b)).toNatClampNeg := by rw [ef, ef1]; exact (pr_iff u1 hu1 u hu a ha b hb).mpr (Or.inr ⟨nI_ij (by omega) (by omega) (ef1.symm.trans h_51), nI_ij (by omega) (by omega) (ef.symm.trans h_38)⟩)
              rw [if_pos hl.symm, show sg (xs.getD i 0) = 1 by unfold sg; rw [if_pos (by omega)]] at k2
              exact k2
          · exact absurd h_88 (by decide)
        · refine rj_ald0 dX12_linksOf_54 rfl ?_
          refine g12_25 dX12_linksOf_55 ?_
          refine rj_ild dX12_linksOf_58 rfl ?_
          refine rj_iald (by first | assumption | rfl) (vpi (by omega) (by show _ < ((4 : Nat) : Int); omega)) dX12_linksOf_60 ?_
          rw [nI_clamp (by omega), hT k hk4]
          refine rj_ild2 dX12_linksOf_61 rfl ?_
          refine rj_ic_ne (tgt := 82) dX12_linksOf_62 (by decide) (fun h_62 => ?_) (fun h_62 => ?_)
          · refine rj_ic0 dX12_linksOf_82 ?_
            refine rj_ist6w dX12_linksOf_83 (by decide) rfl ?_
            refine rj_ild3 dX12_linksOf_85 rfl ?_
            refine rj_ild dX12_linksOf_86 rfl ?_
            refine rj_if_ne (tgt := 95) dX12_linksOf_88 (by decide) (fun h_88 => ?_) (fun h_88 => ?_)
            · exact absurd rfl h_88
            · refine rj_ic0 dX12_linksOf_91 ?_
              refine rj_goto (tgt := 110) dX12_linksOf_92 (by decide) ?_
              refine rj_iadd dX12_linksOf_110 ?_
              refine rj_ist3 dX12_linksOf_111 (by decide) rfl ?_
              refine rj_ald0 dX12_linksOf_112 rfl ?_
              refine rj_ild dX12_linksOf_113 rfl ?_
              refine rj_V1 (ci := 12) cX12_179 rfl (by decide) (by first | assumption | rfl) dX12_linksOf_115 (c_X12_crosses hX hok hr4 (by omega) hT) (fitM (by omega) (by decide)) (Nat.le_of_ble_eq_true rfl) ?_
              rintro v υ ⟨rfl, hT1, ho1⟩
              simp only [Option.toList, List.nil_append]
              refine rj_iinc4 (d := 1) dX12_linksOf_118 (by decide) rfl (by decide) ?_
              rw [nI_1]
              refine rj_goto (tgt := 9) dX12_linksOf_121 (by decide) ?_
              have k2 := ih (i + 1) υ (some (.int (nI k))) (some (.int 0)) (by omega) ⟨by omega, hT1, ho.tr ho1⟩
              rw [take_snoc (by omega), stf_snoc] at k2
              rw [stp2, hk] at k2
              have hl : ¬ (pr (nI a) (nI b)).toNatClampNeg = (pr ((stf (xs.take i)).1 (k - 1)) ((stf (xs.take i)).1 k)).toNatClampNeg := by
                rw [ef, ef1]
                intro z
                exact ((pr_iff u1 hu1 u hu a ha b hb).mp z.symm).elim (fun y => h_62 (by rw [ef, y.2])) (fun y => h_51 (by rw [ef1, y.1]))
              rw [if_neg hl] at k2
              rw [Int32.add_zero]
              exact k2
          · refine rj_ald0 dX12_linksOf_65 rfl ?_
            refine g12_25 dX12_linksOf_66 ?_
            refine rj_ild dX12_linksOf_69 rfl ?_
            refine rj_ic1 dX12_linksOf_71 ?_
            refine rj_isub dX12_linksOf_72 ?_
            rw [hkm]
            refine rj_iald (by first | assumption | rfl) (vpi (by omega) (by show _ < ((4 : Nat) : Int); omega)) dX12_linksOf_73 ?_
            rw [nI_clamp (by omega), hT (k - 1) (by omega)]
            refine rj_ild1 dX12_linksOf_74 rfl ?_
            refine rj_ic_ne (tgt := 82) dX12_linksOf_75 (by decide) (fun h_75 => ?_) (fun h_75 => ?_)
            · refine rj_ic0 dX12_linksOf_82 ?_
              refine rj_ist6w dX12_linksOf_83 (by decide) rfl ?_
              refine rj_ild3 dX12_linksOf_85 rfl ?_
              refine rj_ild dX12_linksOf_86 rfl ?_
              refine rj_if_ne (tgt := 95) dX12_linksOf_88 (by decide) (fun h_88 => ?_) (fun h_88 => ?_)
              · exact absurd rfl h_88
              · refine rj_ic0 dX12_linksOf_91 ?_
                refine rj_goto (tgt := 110) dX12_linksOf_92 (by decide) ?_
                refine rj_iadd dX12_linksOf_110 ?_
                refine rj_ist3 dX12_linksOf_111 (by decide) rfl ?_
                refine rj_ald0 dX12_linksOf_112 rfl ?_
                refine rj_ild dX12_linksOf_113 rfl ?_
                refine rj_V1 (ci := 12) cX12_179 rfl (by decide) (by first | assumption | rfl) dX12_linksOf_115 (c_X12_crosses hX hok hr4 (by omega) hT) (fitM (by omega) (by decide)) (Nat.le_of_ble_eq_true rfl) ?_
                rintro v υ ⟨rfl, hT1, ho1⟩
                simp only [Option.toList, List.nil_append]
                refine rj_iinc4 (d := 1) dX12_linksOf_118 (by decide) rfl (by decide) ?_
                rw [nI_1]
                refine rj_goto (tgt := 9) dX12_linksOf_121 (by decide) ?_
                have k2 := ih (i + 1) υ (some (.int (nI k))) (some (.int 0)) (by omega) ⟨by omega, hT1, ho.tr ho1⟩
                rw [take_snoc (by omega), stf_snoc] at k2
                rw [stp2, hk] at k2
                have hl : ¬ (pr (nI a) (nI b)).toNatClampNeg = (pr ((stf (xs.take i)).1 (k - 1)) ((stf (xs.take i)).1 k)).toNatClampNeg := by
                  rw [ef, ef1]
                  intro z
                  exact ((pr_iff u1 hu1 u hu a ha b hb).mp z.symm).elim (fun y => h_75 (by rw [ef1, y.1])) (fun y => h_51 (by rw [ef1, y.1]))
                rw [if_neg hl] at k2
                rw [Int32.add_zero]
                exact k2
            · refine rj_ic1 dX12_linksOf_78 ?_
              refine rj_goto (tgt := 83) dX12_linksOf_79 (by decide) ?_
              refine rj_ist6w dX12_linksOf_83 (by decide) rfl ?_
              refine rj_ild3 dX12_linksOf_85 rfl ?_
              refine rj_ild dX12_linksOf_86 rfl ?_
              refine rj_if_ne (tgt := 95) dX12_linksOf_88 (by decide) (fun h_88 => ?_) (fun h_88 => ?_)
              · refine rj_ald0 dX12_linksOf_95 rfl ?_
                refine g12_16 dX12_linksOf_96 ?_
                refine rj_ild dX12_linksOf_99 rfl ?_
                refine rj_iald (by first | assumption | rfl) (vpi (by omega) (by show _ < ((24 : Nat) : Int); omega)) dX12_linksOf_101 ?_
                rw [nI_clamp (by omega), hX.2.2 i (by omega)]
                refine rj_if_le (tgt := 109) dX12_linksOf_102 (by decide) (fun h_102 => ?_) (fun h_102 => ?_)
                · refine rj_icm1 dX12_linksOf_109 ?_
                  refine rj_iadd dX12_linksOf_110 ?_
                  refine rj_ist3 dX12_linksOf_111 (by decide) rfl ?_
                  refine rj_ald0 dX12_linksOf_112 rfl ?_
                  refine rj_ild dX12_linksOf_113 rfl ?_
                  refine rj_V1 (ci := 12) cX12_179 rfl (by decide) (by first | assumption | rfl) dX12_linksOf_115 (c_X12_crosses hX hok hr4 (by omega) hT) (fitM (by omega) (by decide)) (Nat.le_of_ble_eq_true rfl) ?_
                  rintro v υ ⟨rfl, hT1, ho1⟩
                  simp only [Option.toList, List.nil_append]
                  refine rj_iinc4 (d := 1) dX12_linksOf_118 (by decide) rfl (by decide) ?_
                  rw [nI_1]
                  refine rj_goto (tgt := 9) dX12_linksOf_121 (by decide) ?_
                  have k2 := ih (i + 1) υ (some (.int (nI k))) (some (.int 1)) (by omega) ⟨by omega, hT1, ho.tr ho1⟩
                  rw [take_snoc (by omega), stf_snoc] at k2
                  rw [stp2, hk] at k2
                  have hl : (pr ((stf (xs.take i)).1 (k - 1)) ((stf (xs.take i)).1 k)).toNatClampNeg = (pr (nI a) (nI b)).toNatClampNeg := by rw [ef, ef1]; exact (pr_iff u1 hu1 u hu a ha b hb).mpr (Or.inl ⟨nI_ij (by omega) (by omega) (ef1.symm.trans h_75), nI_ij (by omega) (by omega) (ef.symm.trans h_62)⟩)
                  rw [if_pos hl.symm, show sg (xs.getD i 0) = -1 by unfold sg; rw [if_neg (by omega)]] at k2
                  exact k2
                · refine rj_ic1 dX12_linksOf_105 ?_
                  refine rj_goto (tgt := 110) dX12_linksOf_106 (by decide) ?_
                  refine rj_iadd dX12_linksOf_110 ?_
                  refine rj_ist3 dX12_linksOf_111 (by decide) rfl ?_
                  refine rj_ald0 dX12_linksOf_112 rfl ?_
                  refine rj_ild dX12_linksOf_113 rfl ?_
                  refine rj_V1 (ci := 12) cX12_179 rfl (by decide) (by first | assumption | rfl) dX12_linksOf_115 (c_X12_crosses hX hok hr4 (by omega) hT) (fitM (by omega) (by decide)) (Nat.le_of_ble_eq_true rfl) ?_
                  rintro v υ ⟨rfl, hT1, ho1⟩
                  simp only [Option.toList, List.nil_append]
                  refine rj_iinc4 (d := 1) dX12_linksOf_118 (by decide) rfl (by decide) ?_
                  rw [nI_1]
                  refine rj_goto (tgt := 9) dX12_linksOf_121 (by decide) ?_
                  have k2 := ih (i + 1) υ (some (.int (nI k))) (some (.int 1)) (by omega) ⟨by omega, hT1, ho.tr ho1⟩
                  rw [take_snoc (by omega), stf_snoc] at k2
                  rw [stp2, hk] at k2
                  have hl : (pr ((stf (xs.take i)).1 (k - 1)) ((stf (xs.take i)).1 k)).toNatClampNeg = (pr (nI a) (nI b)).toNatClampNeg := by rw [ef, ef1]; exact (pr_iff u1 hu1 u hu a ha b hb).mpr (Or.inl ⟨nI_ij (by omega) (by omega) (ef1.symm.trans h_75), nI_ij (by omega) (by omega) (ef.symm.trans h_62)⟩)
                  rw [if_pos hl.symm, show sg (xs.getD i 0) = 1 by unfold sg; rw [if_pos (by omega)]] at k2
                  exact k2
              · exact absurd h_88 (by decide)

set_option maxRecDepth 100000 in
theorem c_X12_linksOf {l : Launch} {X : CX} {σ : ST} {rc : Int32} {xs : List Int32} {a b : Nat} (hx : LD σ xs) (hok : okL rc xs) (hr4 : rc.toInt ≤ 4) (ha : a < 4) (hb : b < 4) : MJ l X 2 yX12_linksOf cX12_linksOf 7 (some .int) [.ref (ad X 112), .int (nI a), .int (nI b)] σ ((fun v τ => v = some (.int ((stf xs).2 (pr (nI a) (nI b)).toNatClampNeg)) ∧ off c8 σ τ)) := by
  refine MJ_of (own := RX12) [some (.ref (ad X 112)), some (.int (nI a)), some (.int (nI b)), none, none, none, none] (by decide) rfl (Nat.le_of_ble_eq_true rfl) rfl ?_
  refine rj_ald0 dX12_linksOf_0 rfl ?_
  refine rj_V0 (ci := 12) cX12_176 rfl (by decide) (by first | assumption | rfl) dX12_linksOf_1 c_X12_begins (fitM (by decide) (by decide)) (Nat.le_of_ble_eq_true rfl) ?_
  rintro v υ ⟨rfl, hT1, ho1⟩
  simp only [Option.toList, List.nil_append]
  refine rj_ic0 dX12_linksOf_4 ?_
  refine rj_ist3 dX12_linksOf_5 (by decide) rfl ?_
  refine rj_ic0 dX12_linksOf_6 ?_
  refine rj_ist4w dX12_linksOf_7 (by decide) rfl ?_
  exact l_X12_linksOf (by decide) (ld_8 hx ho1) hok hr4 ha hb (fun τ ho => ⟨rfl, ho1.tr ho⟩) (xs.length + 1) 0 υ _ _ (by omega) ⟨by omega, hT1, off.rf⟩

set_option maxRecDepth 100000 in
theorem c_X12_links {l : Launch} {X : CX} {σ : ST} {A : SA} (hM : MR σ A) (hw : wf A) {t a b : Int32} : MJ l X 4 yX12_links cX12_links 4 (some .int) [.ref (ad X 112), .int t, .int a, .int b] σ (OM σ (F_links A t a b)) := by
  refine MJ_of (own := RX12) [some (.ref (ad X 112)), some (.int t), some (.int a), some (.int b)] (by decide) rfl (Nat.le_of_ble_eq_true rfl) rfl ?_
  have hr4 := hw.1.2.1
  refine rj_ald0 dX12_links_0 rfl ?_
  refine rj_ild1 dX12_links_1 rfl ?_
  refine rj_V1i (ci := 12) cX12_85 rfl (by decide) (by first | assumption | rfl) dX12_links_2 (c_X12_isTie hM) (fitM (by decide) (by decide)) (Nat.le_of_ble_eq_true rfl) ?_
  refine rj_if_eq (tgt := 29) dX12_links_5 (by decide) (fun h_5 => ?_) (fun h_5 => ?_)
  · have hb_5 := bz_t h_5
    refine rj_ald0 dX12_links_29 rfl ?_
    refine rj_ldc kX12_59 dX12_links_30 ?_
    refine rj_V1 (ci := 12) cX12_68 rfl (by decide) rfl dX12_links_32 (c_X12_finds (i := 0) hM (by decide) (by decide)) (fitM (by decide) (by decide)) (Nat.le_of_ble_eq_true rfl) ?_
    rintro v υq ⟨rfl, hq⟩
    simp only [Option.toList, List.cons_append, List.nil_append]
    refine rj_iret dX12_links_35 ?_
    have e : F_links A t a b = fnd A 0 := by unfold F_links; rw [wT_out hb_5]
    rw [e]
    exact ⟨rfl, hq⟩
  · have hb_5 := bz_f h_5
    obtain ⟨j, hv, hj⟩ := mt_in hb_5
    have h12 := (wf_t hw hj).2.2.1
    have hlt : (nI (fT A j).2.length).toInt = (fT A j).2.length := nI_t (by omega)
    have h8 := hM.1.2.2.2.1
    obtain ⟨f1, f2, f3, f4⟩ := hM.1.2.2.2.2 j hj
    have f6 : σ.1 113 (4 + 14 * j) = nI (fT A j).2.length := f2
    have f7 : σ.1 113 (3 + 14 * j) = (fT A j).1 := f1
    refine rj_ald0 dX12_links_8 rfl ?_
    refine rj_ild2 dX12_links_9 rfl ?_
    refine rj_V1i (ci := 12) cX12_182 rfl (by decide) (by first | assumption | rfl) dX12_links_10 (c_X12_isPlace hM hw) (fitM (by decide) (by decide)) (Nat.le_of_ble_eq_true rfl) ?_
    refine rj_if_eq (tgt := 29) dX12_links_13 (by decide) (fun h_13 => ?_) (fun h_13 => ?_)
    · have hb_13 := bz_t h_13
      refine rj_ald0 dX12_links_29 rfl ?_
      refine rj_ldc kX12_59 dX12_links_30 ?_
      refine rj_V1 (ci := 12) cX12_68 rfl (by decide) rfl dX12_links_32 (c_X12_finds (i := 0) hM (by decide) (by decide)) (fitM (by decide) (by decide)) (Nat.le_of_ble_eq_true rfl) ?_
      rintro v υq ⟨rfl, hq⟩
      simp only [Option.toList, List.cons_append, List.nil_append]
      refine rj_iret dX12_links_35 ?_
      have e : F_links A t a b = fnd A 0 := by unfold F_links; rw [wT_in hv hj, if_neg hb_13]
      rw [e]
      exact ⟨rfl, hq⟩
    · have hb_13 := bz_f h_13
      obtain ⟨x1, hx1n, rfl⟩ : ∃ n : Nat, a.toInt = n ∧ a = nI n := ⟨a.toInt.toNat, by omega, i_nI hb_13.1⟩
      rw [hx1n] at hb_13
      refine rj_ald0 dX12_links_16 rfl ?_
      refine rj_ild3 dX12_links_17 rfl ?_
      refine rj_V1i (ci := 12) cX12_182 rfl (by decide) (by first | assumption | rfl) dX12_links_18 (c_X12_isPlace hM hw) (fitM (by decide) (by decide)) (Nat.le_of_ble_eq_true rfl) ?_
      refine rj_if_eq (tgt := 29) dX12_links_21 (by decide) (fun h_21 => ?_) (fun h_21 => ?_)
      · have hb_21 := bz_t h_21
        refine rj_ald0 dX12_links_29 rfl ?_
        refine rj_ldc kX12_59 dX12_links_30 ?_
        refine rj_V1 (ci := 12) cX12_68 rfl (by decide) rfl dX12_links_32 (c_X12_finds (i := 0) hM (by decide) (by decide)) (fitM (by decide) (by decide)) (Nat.le_of_ble_eq_true rfl) ?_
        rintro v υq ⟨rfl, hq⟩
        simp only [Option.toList, List.cons_append, List.nil_append]
        refine rj_iret dX12_links_35 ?_
        have e : F_links A t (nI x1) b = fnd A 0 := by unfold F_links; rw [wT_in hv hj, hx1n, if_pos hb_13, if_neg hb_21]
        rw [e]
        exact ⟨rfl, hq⟩
      · have hb_21 := bz_f h_21
        obtain ⟨x2, hx2n, rfl⟩ : ∃ n : Nat, b.toInt = n ∧ b = nI n := ⟨b.toInt.toNat, by omega, i_nI hb_21.1⟩
        rw [hx2n] at hb_21
        refine rj_ild2 dX12_links_24 rfl ?_
        refine rj_ild3 dX12_links_25 rfl ?_
        refine rj_ic_ne (tgt := 36) dX12_links_26 (by decide) (fun h_26 => ?_) (fun h_26 => ?_)
        · refine rj_ald0 dX12_links_36 rfl ?_
          refine rj_ild1 dX12_links_37 rfl ?_
          refine rj_V1 (ci := 12) cX12_123 rfl (by decide) (by first | assumption | rfl) dX12_links_38 (c_X12_layTie hM hw hv hj) (fitM (by decide) (by decide)) (Nat.le_of_ble_eq_true rfl) ?_
          rintro v υ ⟨rfl, hx1, hy1, hn1⟩
          simp only [Option.toList, List.nil_append]
          have hly : lyN (fT A j).1 (fT A j).2.length = (lyA A j).length := (ly_len _ _ _).symm
          have hM1 := mr_s hM hn1
          have hl1 := hx1.1
          have hl2 := hx1.2.1
          have hl3 : (nI (lyA A j).length).toInt = (lyA A j).length := nI_t (by omega)
          refine rj_ald0 dX12_links_41 rfl ?_
          refine rj_ild2 dX12_links_42 rfl ?_
          refine rj_ild3 dX12_links_43 rfl ?_
          refine rj_V2 (ci := 12) cX12_188 rfl (by decide) (by first | assumption | rfl) dX12_links_44 (c_X12_linksOf hx1 (wf_ly hw hj) hr4 (a := x1) (b := x2) (by omega) (by omega)) (fitM (by decide) (by decide)) (Nat.le_of_ble_eq_true rfl) ?_
          rintro v υ2 ⟨rfl, ho2⟩
          simp only [Option.toList, List.cons_append, List.nil_append]
          refine rj_iret dX12_links_47 ?_
          have e : F_links A t (nI x1) (nI x2) = ((stf (lyA A j)).2 (pr (nI x1) (nI x2)).toNatClampNeg, A) := by unfold F_links; rw [wT_in hv hj, hx1n, hx2n, if_pos hb_13, if_pos hb_21, if_neg h_26]
          rw [e]
          exact ⟨rfl, mr_s hM1 (mq_8 ho2), (mq_md hn1).tr (mq_md (mq_8 ho2))⟩
        · refine rj_ald0 dX12_links_29 rfl ?_
          refine rj_ldc kX12_59 dX12_links_30 ?_
          refine rj_V1 (ci := 12) cX12_68 rfl (by decide) rfl dX12_links_32 (c_X12_finds (i := 0) hM (by decide) (by decide)) (fitM (by decide) (by decide)) (Nat.le_of_ble_eq_true rfl) ?_
          rintro v υq ⟨rfl, hq⟩
          simp only [Option.toList, List.cons_append, List.nil_append]
          refine rj_iret dX12_links_35 ?_
          have e : F_links A t (nI x1) (nI x2) = fnd A 0 := by unfold F_links; rw [wT_in hv hj, hx1n, hx2n, if_pos hb_13, if_pos hb_21, if_pos h_26]
          rw [e]
          exact ⟨rfl, hq⟩

set_option maxRecDepth 100000 in
theorem l_X12_ringA {l : Launch} {X : CX} {h : Nat} {Q : Option Value → ST → Prop} {σ : ST} {A : SA} {xs : List Int32} {t : Int32} {c : Int32} {p : Nat} {r : Int32} (hh : 3 ≤ h) (hw : wf A) (hM : MR σ A) (hx : LD σ xs) (hok : okL A.2.1.1 xs) (hQ : ∀ (τ : ST) (k y : Value), off c8 σ τ → RJ (GM l X h Q) X cX12_rings 7 (some .int) RX12 83 [some (.ref (ad X 112)), some (.int t), some (.int c), some (.int (nI p)), some (.int r), some k, some y] [] τ) : ∀ (N i : Nat) (τ : ST) (a : Int32) (k : Nat), 4 < i + N → (i ≤ 4 ∧ k < A.2.1.1.toInt.toNat ∧ off c8 σ τ ∧ lsR (eoF A.2.1.1 (stf xs).1) (4 - i) a (nI k) = r) → RJ (GM l X h Q) X cX12_rings 7 (some .int) RX12 47 [some (.ref (ad X 112)), some (.int t), some (.int c), some (.int (nI p)), some (.int a), some (.int (nI k)), some (.int (nI i))] [] τ := by
  intro N
  induction N with
  | zero => intro i τ a k hN hi; have := hi.1; exact absurd hN (by omega)
  | succ N ih =>
    intro i τ a k hN hi
    obtain ⟨hi, hk, ho, hl⟩ := hi
    have hit : (nI i).toInt = i := nI_t (by omega)
    have q4 : (4 : Int32).toInt = 4 := by decide
    have hr4 := hw.1.2.1
    have hp := pm_stf (okL_k hok (n := A.2.1.1.toInt.toNat) (by omega)) (by omega)
    obtain ⟨k2, hk2, -, hek⟩ := eoF_in hp rfl hk
    refine rj_ild dX12_rings_47 rfl ?_
    refine rj_ic4 dX12_rings_49 ?_
    refine rj_ic_ge (tgt := 83) dX12_rings_50 (by decide) (fun h_50 => ?_) (fun h_50 => ?_)
    · rw [show 4 - i = 0 by omega] at hl
      have hl2 : a = r := hl
      rw [hl2]
      exact hQ τ _ _ ho
    · refine rj_ild dX12_rings_53 rfl ?_
      refine rj_ild dX12_rings_55 rfl ?_
      refine rj_ic_ge (tgt := 65) dX12_rings_57 (by decide) (fun h_57 => ?_) (fun h_57 => ?_)
      · refine rj_ild dX12_rings_65 rfl ?_
        refine rj_ist4w dX12_rings_67 (by decide) rfl ?_
        refine rj_ald0 dX12_rings_69 rfl ?_
        refine rj_ild dX12_rings_70 rfl ?_
        refine rj_V1 (ci := 12) cX12_185 rfl (by decide) (by first | assumption | rfl) dX12_rings_72 (c_X12_endOf (mr_s hM (mq_8 ho)) hw (ld_8 hx ho) hok hk) (fitM (by omega) (by decide)) (Nat.le_of_ble_eq_true rfl) ?_
        rintro v υ ⟨rfl, ho1⟩
        simp only [Option.toList, List.cons_append, List.nil_append]
        rw [hek]
        refine rj_ist5w dX12_rings_75 (by decide) rfl ?_
        refine rj_iinc6 (d := 1) dX12_rings_77 (by decide) rfl (by decide) ?_
        rw [nI_1]
        refine rj_goto (tgt := 47) dX12_rings_80 (by decide) ?_
        rw [show 4 - i = (4 - (i + 1)) + 1 by omega] at hl
        unfold lsR at hl
        rw [if_neg (by omega), hek] at hl
        exact ih (i + 1) υ _ k2 (by omega) ⟨by omega, hk2, ho.tr ho1, hl⟩
      · refine rj_ild dX12_rings_60 rfl ?_
        refine rj_goto (tgt := 67) dX12_rings_62 (by decide) ?_
        refine rj_ist4w dX12_rings_67 (by decide) rfl ?_
        refine rj_ald0 dX12_rings_69 rfl ?_
        refine rj_ild dX12_rings_70 rfl ?_
        refine rj_V1 (ci := 12) cX12_185 rfl (by decide) (by first | assumption | rfl) dX12_rings_72 (c_X12_endOf (mr_s hM (mq_8 ho)) hw (ld_8 hx ho) hok hk) (fitM (by omega) (by decide)) (Nat.le_of_ble_eq_true rfl) ?_
        rintro v υ ⟨rfl, ho1⟩
        simp only [Option.toList, List.cons_append, List.nil_append]
        rw [hek]
        refine rj_ist5w dX12_rings_75 (by decide) rfl ?_
        refine rj_iinc6 (d := 1) dX12_rings_77 (by decide) rfl (by decide) ?_
        rw [nI_1]
        refine rj_goto (tgt := 47) dX12_rings_80 (by decide) ?_
        rw [show 4 - i = (4 - (i + 1)) + 1 by omega] at hl
        unfold lsR at hl
        rw [if_pos h_57, hek] at hl
        exact ih (i + 1) υ _ k2 (by omega) ⟨by omega, hk2, ho.tr ho1, hl⟩

set_option maxRecDepth 100000 in
theorem l_X12_ringC {l : Launch} {X : CX} {G : GT} {e : Int32 → Int32} {n i : Nat} {c v1 : Int32} {t : Int32} {y1 y2 : Value} {z : Int32} {τ : ST} : (∀ c2 : Int32, rnB e n (i + 1) c2 = z → RJ G X cX12_rings 7 (some .int) RX12 24 [some (.ref (ad X 112)), some (.int t), some (.int c2), some (.int (nI (i + 1))), some (.int v1), some y1, some y2] [] τ) → rnB e n (i + 1) (c + if v1 = nI i then 1 else 0) = z → RJ (G) X cX12_rings 7 (some .int) RX12 83 [some (.ref (ad X 112)), some (.int t), some (.int c), some (.int (nI i)), some (.int v1), some y1, some y2] [] τ := by
  intro hk hl
  refine rj_ild2 dX12_rings_83 rfl ?_
  refine rj_ild dX12_rings_84 rfl ?_
  refine rj_ild3 dX12_rings_86 rfl ?_
  refine rj_ic_ne (tgt := 94) dX12_rings_87 (by decide) (fun h_87 => ?_) (fun h_87 => ?_)
  · refine rj_ic0 dX12_rings_94 ?_
    refine rj_iadd dX12_rings_95 ?_
    refine rj_ist2 dX12_rings_96 (by decide) rfl ?_
    refine rj_iinc3 (d := 1) dX12_rings_97 (by decide) rfl (by decide) ?_
    rw [nI_1]
    refine rj_goto (tgt := 24) dX12_rings_100 (by decide) ?_
    rw [if_neg h_87] at hl
    exact hk _ hl
  · refine rj_ic1 dX12_rings_90 ?_
    refine rj_goto (tgt := 95) dX12_rings_91 (by decide) ?_
    refine rj_iadd dX12_rings_95 ?_
    refine rj_ist2 dX12_rings_96 (by decide) rfl ?_
    refine rj_iinc3 (d := 1) dX12_rings_97 (by decide) rfl (by decide) ?_
    rw [nI_1]
    refine rj_goto (tgt := 24) dX12_rings_100 (by decide) ?_
    rw [if_pos h_87] at hl
    exact hk _ hl

set_option maxRecDepth 100000 in
theorem l_X12_ringB {l : Launch} {X : CX} {h : Nat} {Q : Option Value → ST → Prop} {σ : ST} {A : SA} {xs : List Int32} {t : Int32} (hh : 3 ≤ h) (hw : wf A) (hM : MR σ A) (hx : LD σ xs) (hok : okL A.2.1.1 xs) (hQ : ∀ τ, off c8 σ τ → Q (some (.int (rnF A.2.1.1 (stf xs).1))) τ) : ∀ (N i : Nat) (τ : ST) (c : Int32) (y1 y2 y3 : Option Value), A.2.1.1.toInt.toNat < i + N → (i ≤ A.2.1.1.toInt.toNat ∧ off c8 σ τ ∧ rnB (eoF A.2.1.1 (stf xs).1) (A.2.1.1.toInt.toNat - i) i c = rnF A.2.1.1 (stf xs).1) → RJ (GM l X h Q) X cX12_rings 7 (some .int) RX12 24 [some (.ref (ad X 112)), some (.int t), some (.int c), some (.int (nI i)), y1, y2, y3] [] τ := by
  intro N
  induction N with
  | zero => intro i τ c y1 y2 y3 hN hi; have := hi.1; exact absurd hN (by omega)
  | succ N ih =>
    intro i τ c y1 y2 y3 hN hi
    obtain ⟨hi, ho, hl⟩ := hi
    have hr4 := hw.1.2.1
    have hit : (nI i).toInt = i := nI_t (by omega)
    have hM1 := mr_s hM (mq_8 ho)
    have h0 : τ.1 113 0 = A.2.1.1 := hM1.1.1
    refine rj_ild3 dX12_rings_24 rfl ?_
    refine rj_ald0 dX12_rings_25 rfl ?_
    refine g12_7 dX12_rings_26 ?_
    refine rj_ic0 dX12_rings_29 ?_
    refine rj_iald (by first | assumption | rfl) (vpi (by decide) (by decide)) dX12_rings_30 ?_
    rw [show (0 : Int32).toNatClampNeg = 0 from rfl, h0]
    refine rj_ic_ge (tgt := 103) dX12_rings_31 (by decide) (fun h_31 => ?_) (fun h_31 => ?_)
    · refine rj_ild2 dX12_rings_103 rfl ?_
      refine rj_iret dX12_rings_104 ?_
      rw [show A.2.1.1.toInt.toNat - i = 0 by omega] at hl
      have hl2 : c = rnF A.2.1.1 (stf xs).1 := hl
      rw [hl2]
      exact hQ τ ho
    · refine rj_ild3 dX12_rings_34 rfl ?_
      refine rj_ist4w dX12_rings_35 (by decide) rfl ?_
      refine rj_ald0 dX12_rings_37 rfl ?_
      refine rj_ild3 dX12_rings_38 rfl ?_
      refine rj_V1 (ci := 12) cX12_185 rfl (by decide) (by first | assumption | rfl) dX12_rings_39 (c_X12_endOf hM1 hw (ld_8 hx ho) hok (m := i) (by omega)) (fitM (by omega) (by decide)) (Nat.le_of_ble_eq_true rfl) ?_
      rintro v υ ⟨rfl, ho1⟩
      simp only [Option.toList, List.cons_append, List.nil_append]
      have hp := pm_stf (okL_k hok (n := A.2.1.1.toInt.toNat) (by omega)) (by omega)
      obtain ⟨k2, hk2, -, hek⟩ := eoF_in hp rfl (show i < A.2.1.1.toInt.toNat by omega)
      rw [hek]
      refine rj_ist5w dX12_rings_42 (by decide) rfl ?_
      refine rj_ic0 dX12_rings_44 ?_
      refine rj_ist6w dX12_rings_45 (by decide) rfl ?_
      rw [show A.2.1.1.toInt.toNat - i = (A.2.1.1.toInt.toNat - (i + 1)) + 1 by omega] at hl
      unfold rnB at hl
      rw [hek] at hl
      refine l_X12_ringA (r := lsR (eoF A.2.1.1 (stf xs).1) 4 (nI i) (nI k2)) (by omega) hw (mr_s hM1 (mq_8 ho1)) (ld_8 (ld_8 hx ho) ho1) hok (fun ψ v1 v2 ho2 => ?_) 5 0 υ (nI i) k2 (by omega) ⟨by omega, hk2, off.rf, rfl⟩
      exact l_X12_ringC (l := l) (fun c2 r1 => ih (i + 1) ψ c2 _ _ _ (by omega) ⟨by omega, (ho.tr ho1).tr ho2, r1⟩) hl

set_option maxRecDepth 100000 in
theorem c_X12_rings {l : Launch} {X : CX} {σ : ST} {A : SA} (hM : MR σ A) (hw : wf A) {t : Int32} : MJ l X 4 yX12_rings cX12_rings 7 (some .int) [.ref (ad X 112), .int t] σ (OM σ (F_rings A t)) := by
  refine MJ_of (own := RX12) [some (.ref (ad X 112)), some (.int t), none, none, none, none, none] (by decide) rfl (Nat.le_of_ble_eq_true rfl) rfl ?_
  refine rj_ald0 dX12_rings_0 rfl ?_
  refine rj_ild1 dX12_rings_1 rfl ?_
  refine rj_V1i (ci := 12) cX12_85 rfl (by decide) (by first | assumption | rfl) dX12_rings_2 (c_X12_isTie hM) (fitM (by decide) (by decide)) (Nat.le_of_ble_eq_true rfl) ?_
  refine rj_if_ne (tgt := 15) dX12_rings_5 (by decide) (fun h_5 => ?_) (fun h_5 => ?_)
  · have hb_5 := bz_f h_5
    obtain ⟨j, hv, hj⟩ := mt_in hb_5
    have h12 := (wf_t hw hj).2.2.1
    have hlt : (nI (fT A j).2.length).toInt = (fT A j).2.length := nI_t (by omega)
    have h8 := hM.1.2.2.2.1
    obtain ⟨f1, f2, f3, f4⟩ := hM.1.2.2.2.2 j hj
    have f6 : σ.1 113 (4 + 14 * j) = nI (fT A j).2.length := f2
    have f7 : σ.1 113 (3 + 14 * j) = (fT A j).1 := f1
    refine rj_ald0 dX12_rings_15 rfl ?_
    refine rj_ild1 dX12_rings_16 rfl ?_
    refine rj_V1 (ci := 12) cX12_123 rfl (by decide) (by first | assumption | rfl) dX12_rings_17 (c_X12_layTie hM hw hv hj) (fitM (by decide) (by decide)) (Nat.le_of_ble_eq_true rfl) ?_
    rintro v υ ⟨rfl, hx1, hy1, hn1⟩
    simp only [Option.toList, List.nil_append]
    have hly : lyN (fT A j).1 (fT A j).2.length = (lyA A j).length := (ly_len _ _ _).symm
    have hM1 := mr_s hM hn1
    have hl1 := hx1.1
    have hl2 := hx1.2.1
    have hl3 : (nI (lyA A j).length).toInt = (lyA A j).length := nI_t (by omega)
    refine rj_ic0 dX12_rings_20 ?_
    refine rj_ist2 dX12_rings_21 (by decide) rfl ?_
    refine rj_ic0 dX12_rings_22 ?_
    refine rj_ist3 dX12_rings_23 (by decide) rfl ?_
    have e : F_rings A t = (rnF A.2.1.1 (stf (lyA A j)).1, A) := by unfold F_rings; rw [wT_in hv hj, rg_eq hw.1.1 hw.1.2.1 (pm_stf (okL_k (wf_ly hw hj) (by omega)) (by have := hw.1.2.1; omega))]
    rw [e]
    exact l_X12_ringB (by decide) hw hM1 hx1 (wf_ly hw hj) (fun τ ho => ⟨rfl, mr_s hM1 (mq_8 ho), (mq_md hn1).tr (mq_md (mq_8 ho))⟩) (A.2.1.1.toInt.toNat + 1) 0 υ 0 _ _ _ (by omega) ⟨by omega, off.rf, rfl⟩
  · have hb_5 := bz_t h_5
    refine rj_ald0 dX12_rings_8 rfl ?_
    refine rj_ldc kX12_59 dX12_rings_9 ?_
    refine rj_V1 (ci := 12) cX12_68 rfl (by decide) rfl dX12_rings_11 (c_X12_finds (i := 0) hM (by decide) (by decide)) (fitM (by decide) (by decide)) (Nat.le_of_ble_eq_true rfl) ?_
    rintro v υq ⟨rfl, hq⟩
    simp only [Option.toList, List.cons_append, List.nil_append]
    refine rj_iret dX12_rings_14 ?_
    have e : F_rings A t = fnd A 0 := by unfold F_rings; rw [wT_out hb_5]
    rw [e]
    exact ⟨rfl, hq⟩

