/-! the fixed layout: cells 0 .. 128, of which 30 and 31 are none (what a token holds is kept as cell 31's numbers, and lies in cell 28); cell k lies at ad X k; all that changes is a number: ST -/
abbrev ST : Type := (Nat → Nat → Int32) × (Nat → Nat → Int64)
abbrev CX : Type := va_G × (Nat → ClassId) × Nat × (Nat → Nat)
def TW : List Cond := lw_tbl.filter goodWord
def isNest : Cond → Bool
  | .fieldLinkNest .. => true
  | .methodLinkNest .. => true
  | _ => false
def NW : List Cond := lw_tbl.filter isNest
def kdL : List Nat := [11, 13, 1, 16, 8, 2, 13, 8, 2, 13, 8, 2, 13, 8, 2, 13, 8, 2, 13, 8, 2, 13, 8, 2, 13, 8, 2, 13, 6, 13, 99, 99, 15, 2, 13, 2, 13, 5, 13, 13, 5, 13, 13, 0, 13, 10, 13, 3, 2, 13, 2, 13, 1, 16, 8, 2, 13, 8, 2, 13, 8, 2, 13, 8, 2, 13, 8, 2, 13, 8, 2, 13, 8, 2, 13, 8, 2, 13, 1, 16, 8, 2, 13, 8, 2, 13, 8, 2, 13, 8, 2, 13, 8, 2, 13, 8, 2, 13, 8, 2, 13, 8, 2, 13, 4, 14, 4, 14, 4, 14, 4, 14, 12, 13, 13, 13, 13, 13, 13, 13, 13, 13, 13, 13, 13, 14, 14, 13, 13]
def lnL : List Nat := [0, 7, 0, 8, 0, 0, 12, 0, 0, 12, 0, 0, 12, 0, 0, 12, 0, 0, 12, 0, 0, 12, 0, 0, 12, 0, 0, 12, 0, 120, 0, 0, 4, 0, 24, 0, 24, 0, 4, 16, 0, 4, 16, 0, 16, 0, 169, 0, 0, 12, 0, 12, 0, 8, 0, 0, 12, 0, 0, 12, 0, 0, 12, 0, 0, 12, 0, 0, 12, 0, 0, 12, 0, 0, 12, 0, 0, 12, 0, 8, 0, 0, 12, 0, 0, 12, 0, 0, 12, 0, 0, 12, 0, 0, 12, 0, 0, 12, 0, 0, 12, 0, 0, 12, 0, 40, 0, 40, 0, 40, 0, 40, 0, 115, 7, 24, 24, 12, 4, 4, 23, 24, 120, 4, 4, 160, 40, 115, 115]
def kd (k : Nat) : Nat := kdL.getD k 99
def ln (k : Nat) : Nat := lnL.getD k 0
def ftab (c : Nat) : List (Nat × Nat) := match c with
  | 0 => [(2, 1), (0, 0), (0, 0)]
  | 1 => [(2, 1), (0, 0), (0, 0), (0, 0)]
  | 2 => [(2, 1), (0, 0)]
  | 3 => [(2, 1), (2, 3)]
  | 4 => [(2, 1), (0, 0), (0, 0)]
  | 5 => [(2, 1), (2, 2), (0, 0)]
  | 6 => [(2, 1), (0, 0), (3, 1), (3, 2), (3, 3), (3, 4)]
  | 7 => []
  | 8 => [(2, 1), (0, 0)]
  | 9 => []
  | 10 => [(2, 1), (0, 0)]
  | 11 => [(2, 1), (2, 2), (2, 28), (2, 32), (2, 33), (2, 35), (2, 37), (2, 40), (2, 43), (2, 45), (2, 47), (4, 0), (4, 0), (0, 0)]
  | 12 => [(2, 1), (2, 2), (2, 3), (2, 4), (2, 5), (0, 0), (0, 0), (0, 0), (2, 6), (2, 7), (2, 8), (2, 9), (2, 10), (0, 0), (0, 0), (0, 0), (0, 0), (1, 0), (0, 0), (0, 0), (2, 11), (2, 12), (2, 13), (2, 14), (2, 15), (2, 16), (0, 0)]
  | _ => []
theorem kd_lt {k : Nat} (h : kd k < 99) : k < 129 := by
  rcases Nat.lt_or_ge k 129 with q | q
  · exact q
  · exfalso
    have : kdL.length ≤ k := q
    simp [kd, List.getD, List.getElem?_eq_none this] at h
def ix (k : Nat) : Nat := if k < 30 then k else k - 2
def xi (i : Nat) : Nat := if i < 30 then i else i + 2
def ad (X : CX) (k : Nat) : Nat := X.2.2.1 + ix k
theorem kd_30 {k : Nat} (h : kd k < 99) : k ≠ 30 ∧ k ≠ 31 := by
  refine ⟨fun e => ?_, fun e => ?_⟩
  · subst e; exact absurd h (by decide)
  · subst e; exact absurd h (by decide)
theorem ix_xi (i : Nat) : ix (xi i) = i := by
  by_cases q : i < 30
  · unfold xi; rw [if_pos q]; unfold ix; rw [if_pos q]
  · unfold xi; rw [if_neg q]; unfold ix; rw [if_neg (by omega)]; omega
theorem xi_ix {k : Nat} (h : kd k < 99) : xi (ix k) = k := by
  have h2 := kd_30 h
  by_cases q : k < 30
  · unfold ix; rw [if_pos q]; unfold xi; rw [if_pos q]
  · unfold ix; rw [if_neg q]; unfold xi; rw [if_neg (by omega)]; omega
theorem ix_lt {k : Nat} (h : kd k < 99) : ix k < 127 := by
  have h2 := kd_30 h
  have h3 := kd_lt h
  unfold ix; split <;> omega
theorem kd_6 {k : Nat} (h : kd k = 6) : k = 28 := (by decide +kernel : ∀ k, k < 129 → kd k = 6 → k = 28) k (kd_lt (by omega)) h
theorem ftab_3 {c : Nat} {t : Nat × Nat} (ht : t ∈ ftab c) (h : t.1 = 3) : c = 6 := by
  rcases Nat.lt_or_ge c 13 with q | q
  · exact (by decide +kernel : ∀ c, c < 13 → ∀ t ∈ ftab c, t.1 = 3 → c = 6) c q t ht h
  · have e : ftab c = [] := by unfold ftab; split <;> first | omega | rfl
    rw [e] at ht
    cases ht
def ui (σ : ST) (k j : Nat) (v : Int32) : ST := (va_up σ.1 k (upd (σ.1 k) j v), σ.2)
def ul (σ : ST) (k j : Nat) (v : Int64) : ST := (σ.1, va_up σ.2 k (vp_updL (σ.2 k) j v))
def ua (σ : ST) (k : Nat) (f : Nat → Int32) : ST := (va_up σ.1 k f, σ.2)
def uaL (σ : ST) (k : Nat) (f : Nat → Int64) : ST := (σ.1, va_up σ.2 k f)
def fv (X : CX) (σ : ST) (k j : Nat) (t : Nat × Nat) : Value := match t.1 with
  | 0 => .int (σ.1 k j)
  | 1 => .long (σ.2 k j)
  | 2 => .ref (ad X (k + t.2))
  | 3 => .int (σ.1 31 t.2)
  | _ => .ref (ad X (σ.1 k j).toNatClampNeg)
def flsG (X : CX) (σ : ST) (k : Nat) : Nat → List (Nat × Nat) → List Value
  | _, [] => []
  | j, t :: r => fv X σ k j t :: flsG X σ k (j + 1) r
theorem flsG_get (X : CX) (σ : ST) (k : Nat) : ∀ (L : List (Nat × Nat)) (i j : Nat), (flsG X σ k i L)[j]? = (L[j]?).map (fun t => fv X σ k (i + j) t)
  | [], i, j => by simp [flsG]
  | t :: r, i, j => by
    cases j with
    | zero => simp [flsG]
    | succ j => simp only [flsG, List.getElem?_cons_succ]; rw [flsG_get X σ k r (i + 1) j, show i + 1 + j = i + (j + 1) by omega]
theorem fv_congr {X : CX} {σ τ : ST} {k j : Nat} (h1 : σ.1 k j = τ.1 k j) (h2 : σ.2 k j = τ.2 k j) (t : Nat × Nat) (h3 : t.1 = 3 → σ.1 31 = τ.1 31) : fv X σ k j t = fv X τ k j t := by
  unfold fv; split <;> first | simp [h1, h2]; done | simp [h3 (by assumption)]
theorem flsG_congr {X : CX} {σ τ : ST} {k : Nat} (h1 : σ.1 k = τ.1 k) (h2 : σ.2 k = τ.2 k) : ∀ (i : Nat) (L : List (Nat × Nat)), (∀ t ∈ L, t.1 = 3 → σ.1 31 = τ.1 31) → flsG X σ k i L = flsG X τ k i L
  | _, [], _ => rfl
  | i, t :: r, h3 => by
    unfold flsG
    rw [fv_congr (by rw [h1]) (by rw [h2]) t (h3 t (List.mem_cons_self ..)), flsG_congr h1 h2 (i + 1) r (fun u hu => h3 u (List.mem_cons_of_mem _ hu))]
def lay (X : CX) (σ : ST) (k : Nat) : va_E :=
  if kd k = 13 then .inl (X.2.1 0, ln k, .inl (σ.1 k))
  else if kd k = 14 then .inl (X.2.1 1, ln k, .inr (.inl (σ.2 k)))
  else if kd k = 15 then .inl (X.2.1 2, 4, .inr (.inr (.inr (.inr (fun j => some (ad X (104 + 2 * j)))))))
  else if kd k = 16 then .inl (X.2.1 3, 8, .inr (.inr (.inr (.inr (fun j => some (ad X (k + 1 + 3 * j)))))))
  else .inr (kd k, flsG X σ k 0 (ftab (kd k)))
theorem lay_obj {X : CX} {σ : ST} {k c : Nat} (h : kd k = c) (hc : c < 13) : lay X σ k = .inr (c, flsG X σ k 0 (ftab c)) := by
  unfold lay
  rw [if_neg (by omega), if_neg (by omega), if_neg (by omega), if_neg (by omega), h]
theorem lay_int {X : CX} {σ : ST} {k : Nat} (h : kd k = 13) : lay X σ k = .inl (X.2.1 0, ln k, .inl (σ.1 k)) := by unfold lay; rw [if_pos h]
theorem lay_long {X : CX} {σ : ST} {k : Nat} (h : kd k = 14) : lay X σ k = .inl (X.2.1 1, ln k, .inr (.inl (σ.2 k))) := by unfold lay; rw [if_neg (by omega), if_pos h]
theorem lay_sh {X : CX} {σ : ST} {k : Nat} (h : kd k = 15) : lay X σ k = .inl (X.2.1 2, 4, .inr (.inr (.inr (.inr (fun j => some (ad X (104 + 2 * j))))))) := by unfold lay; rw [if_neg (by omega), if_neg (by omega), if_pos h]
theorem lay_ti {X : CX} {σ : ST} {k : Nat} (h : kd k = 16) : lay X σ k = .inl (X.2.1 3, 8, .inr (.inr (.inr (.inr (fun j => some (ad X (k + 1 + 3 * j))))))) := by unfold lay; rw [if_neg (by omega), if_neg (by omega), if_neg (by omega), if_pos h]
theorem lay_congr {X : CX} {σ τ : ST} {k : Nat} (h1 : σ.1 k = τ.1 k) (h2 : σ.2 k = τ.2 k) (h3 : kd k = 6 → σ.1 31 = τ.1 31) : lay X σ k = lay X τ k := by
  unfold lay; rw [h1, h2, flsG_congr h1 h2 0 (ftab (kd k)) (fun t ht h => h3 (ftab_3 ht h))]
theorem up_same {α : Type} (f : Nat → α) (k : Nat) (v : α) : va_up f k v k = v := by simp [va_up]
theorem up_other {α : Type} (f : Nat → α) {k j : Nat} (v : α) (h : j ≠ k) : va_up f k v j = f j := by simp [va_up, h]
theorem ui_31 {σ : ST} {k j : Nat} {v : Int32} (h : kd k < 99) : σ.1 31 = (ui σ k j v).1 31 := (up_other _ _ (fun e => (kd_30 h).2 e.symm)).symm
theorem ua_31 {σ : ST} {k : Nat} {f : Nat → Int32} (h : kd k < 99) : σ.1 31 = (ua σ k f).1 31 := (up_other _ _ (fun e => (kd_30 h).2 e.symm)).symm
theorem lay_ui {X : CX} {σ : ST} {k c j d : Nat} {v : Int32} (h : kd k = c) (hc : c < 13) (hj : (ftab c)[j]? = some (0, d)) :
    va_up (lay X σ) k (.inr (c, (flsG X σ k 0 (ftab c)).set j (.int v))) = lay X (ui σ k j v) := by
  funext i
  by_cases hi : i = k
  · subst hi
    rw [up_same, lay_obj h hc]
    congr 2
    apply List.ext_getElem?
    intro q
    rw [List.getElem?_set, flsG_get, flsG_get]
    by_cases hq : j = q
    · subst hq
      have hl : j < (flsG X σ i 0 (ftab c)).length := by
        rcases Nat.lt_or_ge j (flsG X σ i 0 (ftab c)).length with g | g
        · exact g
        · have := List.getElem?_eq_none g
          rw [flsG_get, hj] at this
          simp at this
      rw [if_pos rfl, if_pos hl, hj]
      simp [fv, ui, up_same, upd]
    · rw [if_neg hq]
      congr 1
      funext t
      refine fv_congr (σ := σ) (τ := ui σ i j v) ?_ rfl t (fun _ => ui_31 (by omega))
      simp [ui, up_same, upd, Ne.symm hq]
  · rw [up_other _ _ hi]
    refine lay_congr (σ := σ) (τ := ui σ k j v) ?_ rfl (fun _ => ui_31 (by omega))
    simp [ui, up_other _ _ hi]
theorem lay_ul {X : CX} {σ : ST} {k c j d : Nat} {v : Int64} (h : kd k = c) (hc : c < 13) (hj : (ftab c)[j]? = some (1, d)) :
    va_up (lay X σ) k (.inr (c, (flsG X σ k 0 (ftab c)).set j (.long v))) = lay X (ul σ k j v) := by
  funext i
  by_cases hi : i = k
  · subst hi
    rw [up_same, lay_obj h hc]
    congr 2
    apply List.ext_getElem?
    intro q
    rw [List.getElem?_set, flsG_get, flsG_get]
    by_cases hq : j = q
    · subst hq
      have hl : j < (flsG X σ i 0 (ftab c)).length := by
        rcases Nat.lt_or_ge j (flsG X σ i 0 (ftab c)).length with g | g
        · exact g
        · have := List.getElem?_eq_none g
          rw [flsG_get, hj] at this
          simp at this
      rw [if_pos rfl, if_pos hl, hj]
      simp [fv, ul, up_same, vp_updL]
    · rw [if_neg hq]
      congr 1
      funext t
      refine fv_congr (σ := σ) (τ := ul σ i j v) rfl ?_ t (fun _ => rfl)
      simp [ul, up_same, vp_updL, Ne.symm hq]
  · rw [up_other _ _ hi]
    refine lay_congr (σ := σ) (τ := ul σ k j v) rfl ?_ (fun _ => rfl)
    simp [ul, up_other _ _ hi]
theorem lay_ur {X : CX} {σ : ST} {k c j d a : Nat} (h : kd k = c) (hc : c < 13) (hj : (ftab c)[j]? = some (4, d)) (ha : a < 2 ^ 31) :
    va_up (lay X σ) k (.inr (c, (flsG X σ k 0 (ftab c)).set j (.ref (ad X a)))) = lay X (ui σ k j (nI a)) := by
  funext i
  by_cases hi : i = k
  · subst hi
    rw [up_same, lay_obj h hc]
    congr 2
    apply List.ext_getElem?
    intro q
    rw [List.getElem?_set, flsG_get, flsG_get]
    by_cases hq : j = q
    · subst hq
      have hl : j < (flsG X σ i 0 (ftab c)).length := by
        rcases Nat.lt_or_ge j (flsG X σ i 0 (ftab c)).length with g | g
        · exact g
        · have := List.getElem?_eq_none g
          rw [flsG_get, hj] at this
          simp at this
      rw [if_pos rfl, if_pos hl, hj]
      simp [fv, ui, up_same, upd, nI_clamp ha]
    · rw [if_neg hq]
      congr 1
      funext t
      refine fv_congr (σ := σ) (τ := ui σ i j (nI a)) ?_ rfl t (fun _ => ui_31 (by omega))
      simp [ui, up_same, upd, Ne.symm hq]
  · rw [up_other _ _ hi]
    refine lay_congr (σ := σ) (τ := ui σ k j (nI a)) ?_ rfl (fun _ => ui_31 (by omega))
    simp [ui, up_other _ _ hi]
theorem lay_ua {X : CX} {σ : ST} {k : Nat} (f : Nat → Int32) (h : kd k = 13) : va_up (lay X σ) k (.inl (X.2.1 0, ln k, .inl f)) = lay X (ua σ k f) := by
  funext i
  by_cases hi : i = k
  · subst hi
    rw [up_same, lay_int h]
    simp [ua, up_same]
  · rw [up_other _ _ hi]
    refine lay_congr (σ := σ) (τ := ua σ k f) ?_ rfl (fun _ => ua_31 (by omega))
    simp [ua, up_other _ _ hi]
theorem lay_uaL {X : CX} {σ : ST} {k : Nat} (f : Nat → Int64) (h : kd k = 14) : va_up (lay X σ) k (.inl (X.2.1 1, ln k, .inr (.inl f))) = lay X (uaL σ k f) := by
  funext i
  by_cases hi : i = k
  · subst hi
    rw [up_same, lay_long h]
    simp [uaL, up_same]
  · rw [up_other _ _ hi]
    refine lay_congr (σ := σ) (τ := uaL σ k f) rfl ?_ (fun _ => rfl)
    simp [uaL, up_other _ _ hi]
theorem lay_uo {X : CX} {σ : ST} {i d : Nat} {v : Int32} (h : i ≠ 28) : lay X σ i = lay X (ui σ 31 d v) i := by
  by_cases hi : i = 31
  · subst hi
    rfl
  · exact lay_congr (σ := σ) (τ := ui σ 31 d v) (by simp [ui, up_other _ _ hi]) rfl (fun q => absurd (kd_6 q) h)
theorem lay_u1 {X : CX} {σ : ST} {k : Nat} {v : Int32} (h : kd k = 6) : va_up (lay X σ) k (.inr (6, (flsG X σ k 0 (ftab 6)).set 2 (.int v))) = lay X (ui σ 31 1 v) := by
  have e := kd_6 h
  subst e
  funext i
  by_cases hi : i = 28
  · subst hi
    rw [up_same, lay_obj h (by decide)]
    simp [flsG, ftab, fv, ui, va_up, upd]
  · rw [up_other _ _ hi]
    exact lay_uo hi
theorem lay_u2 {X : CX} {σ : ST} {k : Nat} {v : Int32} (h : kd k = 6) : va_up (lay X σ) k (.inr (6, (flsG X σ k 0 (ftab 6)).set 3 (.int v))) = lay X (ui σ 31 2 v) := by
  have e := kd_6 h
  subst e
  funext i
  by_cases hi : i = 28
  · subst hi
    rw [up_same, lay_obj h (by decide)]
    simp [flsG, ftab, fv, ui, va_up, upd]
  · rw [up_other _ _ hi]
    exact lay_uo hi
theorem lay_u3 {X : CX} {σ : ST} {k : Nat} {v : Int32} (h : kd k = 6) : va_up (lay X σ) k (.inr (6, (flsG X σ k 0 (ftab 6)).set 4 (.int v))) = lay X (ui σ 31 3 v) := by
  have e := kd_6 h
  subst e
  funext i
  by_cases hi : i = 28
  · subst hi
    rw [up_same, lay_obj h (by decide)]
    simp [flsG, ftab, fv, ui, va_up, upd]
  · rw [up_other _ _ hi]
    exact lay_uo hi
theorem lay_u4 {X : CX} {σ : ST} {k : Nat} {v : Int32} (h : kd k = 6) : va_up (lay X σ) k (.inr (6, (flsG X σ k 0 (ftab 6)).set 5 (.int v))) = lay X (ui σ 31 4 v) := by
  have e := kd_6 h
  subst e
  funext i
  by_cases hi : i = 28
  · subst hi
    rw [up_same, lay_obj h (by decide)]
    simp [flsG, ftab, fv, ui, va_up, upd]
  · rw [up_other _ _ hi]
    exact lay_uo hi
def wl (X : CX) (σ : ST) : va_W := (List.range 127).map (fun i => (X.2.2.1 + i, lay X σ (xi i)))
def AA (X : CX) : Nat → Prop := fun q => X.2.2.1 ≤ q
theorem wl_at {X : CX} {σ : ST} {i : Nat} (h : i < 127) : (wl X σ)[i]? = some (X.2.2.1 + i, lay X σ (xi i)) := by
  simp [wl, h]
theorem wl_get {X : CX} {σ : ST} {k : Nat} (h : kd k < 99) : (wl X σ)[ix k]? = some (ad X k, lay X σ k) := by
  rw [wl_at (ix_lt h), xi_ix h]; rfl
theorem wl_len {X : CX} {σ : ST} : (wl X σ).length = 127 := by simp [wl]
theorem wl_set {X : CX} {σ τ : ST} {k : Nat} {e : va_E} (h : kd k < 99) (he : va_up (lay X σ) k e = lay X τ) : (wl X σ).set (ix k) (ad X k, e) = wl X τ := by
  apply List.ext_getElem?
  intro i
  rw [List.getElem?_set]
  by_cases hi : ix k = i
  · subst hi
    rw [if_pos rfl, if_pos (by rw [wl_len]; exact ix_lt h), wl_get h, ← he, up_same]
  · rw [if_neg hi]
    by_cases h2 : i < 127
    · rw [wl_at h2, wl_at h2, ← he, up_other _ _ (fun q => hi (by rw [← q, ix_xi]))]
    · rw [List.getElem?_eq_none (by rw [wl_len]; omega), List.getElem?_eq_none (by rw [wl_len]; omega)]
theorem wl_in {X : CX} {σ : ST} {k : Nat} {q : Nat × va_E} (h : (wl X σ)[k]? = some q) : k < 127 ∧ q = (X.2.2.1 + k, lay X σ (xi k)) := by
  by_cases h2 : k < 127
  · rw [wl_at h2] at h
    exact ⟨h2, (Option.some.inj h).symm⟩
  · rw [List.getElem?_eq_none (by rw [wl_len]; omega)] at h
    cases h
theorem wl_D (X : CX) (σ : ST) : va_D (AA X) (wl X σ) := by
  refine ⟨fun i j p q hi hj hpq => ?_, fun k q hk => ?_⟩
  · obtain ⟨_, rfl⟩ := wl_in hi
    obtain ⟨_, rfl⟩ := wl_in hj
    simp at hpq
    exact hpq
  · obtain ⟨_, rfl⟩ := wl_in hk
    exact Nat.le_add_right _ _
/-! what the start gives of the tables, statics and texts, and keeps -/
abbrev tysX (X : CX) : List (ClassId × FieldType) := [(X.2.1 0, .int), (X.2.1 1, .long), (X.2.1 2, .object "KnotFair$Sheet"), (X.2.1 3, .object "KnotFair$Tie")]
def kaL : List Int32 := [-1, 0, 0, 0, 2, 1]
def cnL : List Int32 := [3, 5, 7]
def scp : List Nat := [34, 43, 60, 62, 64, 66, 68, 70]
def stx : List String := ["ropes", "more", "tie", "turned", "back", "twice", "undone", "mirrored"]
def slen : List Nat := [5, 4, 3, 6, 4, 5, 6, 8]
def sbyt : List (List Int32) := [[114, 111, 112, 101, 115], [109, 111, 114, 101], [116, 105, 101], [116, 117, 114, 110, 101, 100], [98, 97, 99, 107], [116, 119, 105, 99, 101], [117, 110, 100, 111, 110, 101], [109, 105, 114, 114, 111, 114, 101, 100]]
def AmS (X : CX) (U : State) (H : Heap) : Prop :=
  va_Z "KnotFair" "KIND_ABOVE" "[I" (.ref (X.2.2.2 0)) (AA X) U H ∧ va_T .int (X.2.2.2 0) 6 (fun j => .int (kaL.getD j 0)) (AA X) U H ∧
  va_Z "KnotFair" "COLOUR_NUMBERS" "[I" (.ref (X.2.2.2 1)) (AA X) U H ∧ va_T .int (X.2.2.2 1) 3 (fun j => .int (cnL.getD j 0)) (AA X) U H ∧
  va_Z "java/lang/String" "COMPACT_STRINGS" "Z" (.int 1) (AA X) U H ∧
  (∀ i, i < 8 → vk_R "KnotFair$Teller" (scp.getD i 0) (stx.getD i "") (X.2.2.2 (10 + i)) U) ∧
  vk_S 8 slen sbyt (fun i => X.2.2.2 (10 + i)) (fun i => X.2.2.2 (20 + i)) (AA X) U H ∧
  va_Zq "jdk/internal/util/Preconditions" "SIOOBE_FORMATTER" "Ljava/util/function/BiFunction;" (AA X) U H
def Amb (X : CX) (U : State) : Prop := va_K X.1 vwCl (tysX X) U ∧ (∀ w ∈ NW, va_Nw w U) ∧ AmS X U U.heap
theorem nest_same {w : Cond} (h : isNest w = true) {u U : State} (hv : u.vm = U.vm) (hw : va_Nw w u) : va_Nw w U := by
  cases w <;> first | (simp [isNest] at h; done) | exact va_Nw.same rfl hv hw
theorem nest_warm {w : Cond} (h : isNest w = true) {s U : State} (hW : s.WarmedH U.vm) (hw : va_Nw w s) : va_Nw w U := by
  cases w <;> first | (simp [isNest] at h; done) | exact va_Nw.warmF hW hw | exact va_Nw.warmM hW hw
theorem Amb.same {X : CX} {u U : State} (hv : u.vm = U.vm) (hh : u.heap = U.heap) (h : Amb X u) : Amb X U := by
  obtain ⟨h1, h2, a, b, c, d, e, f, g, z⟩ := h
  have hal : u.vm.Alike U.vm := by rw [hv]; exact Vm.Alike.refl _
  rw [hh] at a b c d e g z
  exact ⟨va_K.moved hal h1, fun w hw => nest_same (List.mem_filter.mp hw).2 hv (h2 w hw), va_Z.moved hal a, va_T.moved hal b, va_Z.moved hal c, va_T.moved hal d, va_Z.moved hal e, fun i hi => vk_R.same hv.symm (f i hi), vk_S.moved hal g, va_Zq.moved hal z⟩
theorem Amb.warm {X : CX} {s U : State} {H : Heap} {locs : List Loc} (hW : s.WarmedH U.vm) (hH : U.heap = H) (hS : va_S (AA X) s.heap H locs) (h : Amb X s) : Amb X U := by
  obtain ⟨h1, h2, a, b, c, d, e, f, g, z⟩ := h
  have hal := hW.alike
  subst hH
  exact ⟨va_K.moved hal h1, fun w hw => nest_warm (List.mem_filter.mp hw).2 hW (h2 w hw), va_Z.moved hal (a.kept hS.2.1), va_T.moved hal (b.kept hS.2.1), va_Z.moved hal (c.kept hS.2.1), va_T.moved hal (d.kept hS.2.1), va_Z.moved hal (e.kept hS.2.1), fun i hi => vk_R.warm hW (f i hi), vk_S.moved hal (g.kept hS.2.1), va_Zq.moved hal (z.kept hS.2.1)⟩
/-! the light judgement -/
def prs : Nat → List (Option Value) → List (Nat × Value)
  | _, [] => []
  | i, some v :: r => (i, v) :: prs (i + 1) r
  | i, none :: r => prs (i + 1) r
theorem mem_prs {q : Nat × Value} : ∀ {lv : List (Option Value)} {i : Nat}, q ∈ prs i lv ↔ ∃ j, q.1 = i + j ∧ lv[j]? = some (some q.2)
  | [], i => by simp [prs]
  | some v :: r, i => by
    rw [prs, List.mem_cons, mem_prs (lv := r)]
    constructor
    · rintro (rfl | ⟨j, h1, h2⟩)
      · exact ⟨0, rfl, rfl⟩
      · exact ⟨j + 1, by omega, by simpa using h2⟩
    · rintro ⟨j, h1, h2⟩
      cases j with
      | zero => exact Or.inl (by simp at h1 h2; exact Prod.ext h1 h2.symm)
      | succ j => exact Or.inr ⟨j, by omega, by simpa using h2⟩
  | none :: r, i => by
    rw [prs, mem_prs (lv := r)]
    constructor
    · rintro ⟨j, h1, h2⟩
      exact ⟨j + 1, by omega, by simpa using h2⟩
    · rintro ⟨j, h1, h2⟩
      cases j with
      | zero => simp at h2
      | succ j => exact ⟨j, by omega, by simpa using h2⟩
theorem lvh_sub {ls : Array Slot} {nL : Nat} {l l' : List (Nat × Value)} (h : lv_has ls nL l) (hs : ∀ q ∈ l', q ∈ l) : lv_has ls nL l' := ⟨h.1, h.2.1, fun q hq => h.2.2 q (hs q hq)⟩
theorem lvp_at {ls : Array Slot} {nL : Nat} {lv : List (Option Value)} (h : lv_has ls nL (prs 0 lv)) {k : Nat} {v : Value} (hk : lv[k]? = some (some v)) : ls[k]? = some (.val v) :=
  h.2.2 (k, v) (mem_prs.mpr ⟨k, by simp, hk⟩)
def nl (o : Option Value) : Bool := match o with
  | some v => v.category == 1
  | none => true
theorem lvp_st1 {ls : Array Slot} {nL : Nat} {lv : List (Option Value)} {k : Nat} {v : Value} (hk : k < lv.length) (hn : ∀ j, j + 1 = k → nl (lv.getD j none) = true) (h : lv_has ls nL ((k, v) :: (prs 0 lv).filter (fun q => !(q.1 == k) && !(q.1 + 1 == k && q.2.category == 2)))) : lv_has ls nL (prs 0 (lv.set k (some v))) := by
  refine lvh_sub h fun q hq => ?_
  obtain ⟨j, h1, h2⟩ := mem_prs.mp hq
  rw [Nat.zero_add] at h1
  rw [List.getElem?_set] at h2
  by_cases hj : k = j
  · subst hj
    rw [if_pos rfl, if_pos hk] at h2
    simp at h2
    exact List.mem_cons.mpr (Or.inl (Prod.ext h1 h2.symm))
  · rw [if_neg hj] at h2
    refine List.mem_cons.mpr (Or.inr (List.mem_filter.mpr ⟨mem_prs.mpr ⟨j, by simpa using h1, h2⟩, ?_⟩))
    have hne : q.1 ≠ k := by omega
    by_cases hk1 : q.1 + 1 = k
    · have hx := hn j (by omega)
      rw [List.getD, h2] at hx
      simp [nl] at hx
      simp [hne, hx]
    · simp [hne, hk1]
theorem lvp_st2 {ls : Array Slot} {nL : Nat} {lv : List (Option Value)} {k : Nat} {v : Value} (hk : k < lv.length) (hn : ∀ j, j + 1 = k → nl (lv.getD j none) = true) (h : lv_has ls nL ((k, v) :: (prs 0 lv).filter (fun q => !(q.1 == k) && (!(q.1 == k + 1) && !(q.1 + 1 == k && q.2.category == 2))))) : lv_has ls nL (prs 0 ((lv.set k (some v)).set (k + 1) none)) := by
  refine lvh_sub h fun q hq => ?_
  obtain ⟨j, h1, h2⟩ := mem_prs.mp hq
  rw [Nat.zero_add] at h1
  rw [List.getElem?_set] at h2
  by_cases hj1 : k + 1 = j
  · rw [if_pos hj1] at h2
    split at h2 <;> simp at h2
  · rw [if_neg hj1, List.getElem?_set] at h2
    by_cases hj : k = j
    · subst hj
      rw [if_pos rfl, if_pos hk] at h2
      simp at h2
      exact List.mem_cons.mpr (Or.inl (Prod.ext h1 h2.symm))
    · rw [if_neg hj] at h2
      refine List.mem_cons.mpr (Or.inr (List.mem_filter.mpr ⟨mem_prs.mpr ⟨j, by simpa using h1, h2⟩, ?_⟩))
      have hne : q.1 ≠ k := by omega
      have hne2 : q.1 ≠ k + 1 := by omega
      by_cases hk1 : q.1 + 1 = k
      · have hx := hn j (by omega)
        rw [List.getD, h2] at hx
        simp [nl] at hx
        simp [hne, hne2, hx]
      · simp [hne, hne2, hk1]
abbrev GT : Type := Launch × Room × (Nat × Nat) × (Array Value → State → Prop) × (List Frame → Array Value → State → State → Prop)
def SC (G : GT) (X : CX) (cc : ByteArray) (nL : Nat) (ret : Option FieldType) (own : String) (p : Program) (s : State) (m : MethodId) (args : Array Value) (meth : Method) (c : Code) : Prop :=
  p.tables.exec = Jvm.exec ∧ c.code = cc ∧ meth.sig.returnType = ret ∧ c.maxLocals = nL ∧ s.vm.findClass own = some m.cls ∧ (∀ w ∈ TW, w.before args s = true) ∧ meth.locks = false ∧ Amb X s ∧ G.2.2.2.1 args s
def RJ (G : GT) (X : CX) (cc : ByteArray) (nL : Nat) (ret : Option FieldType) (own : String) (pc : Nat) (lv : List (Option Value)) (st : List Value) (σ : ST) : Prop :=
  ∀ (p : Program) (e : Env) (s : State) (m : MethodId) (args : Array Value) (below : List Frame) (meth : Method) (c : Code) (H : Heap) (locs : List Loc) (ls : Array Slot),
    SC G X cc nL ret own p s m args meth c → va_P X.1 vwCl (wl X σ) H → va_S (AA X) s.heap H locs → lv_has ls nL (prs 0 lv) →
    W p G.1 e G.2.1 s m args below meth c H locs G.2.2.1.1 G.2.2.1.2 (G.2.2.2.2 below args s) (F0 m pc ls st)
def rmd (h : Nat) : Room := { frames := h, cells := 0, slots := 0, locals := 64 * h }
def QC (X : CX) (Q : Option Value → ST → Prop) : Array Value → State → Outcome → State → Prop := fun _ st oc t => (∃ (v : Option Value) (σ' : ST), oc = .returned v ∧ Q v σ' ∧ va_P X.1 vwCl (wl X σ') t.heap) ∧ va_F (AA X) st t
def GM (l : Launch) (X : CX) (h : Nat) (Q : Option Value → ST → Prop) : GT := (l, rmd h, (0, 0), fun _ _ => True, fun below args s => MQ below (QC X Q) args s 0 0 (AA X))
def IV (X : CX) (σ : ST) (U : State) : Prop := Amb X U ∧ va_P X.1 vwCl (wl X σ) U.heap
def MJ (l : Launch) (X : CX) (h : Nat) (y : MethodName) (cc : ByteArray) (nL : Nat) (ret : Option FieldType) (av : List Value) (σ : ST) (Q : Option Value → ST → Prop) : Prop :=
  Met l y (Cond.code y cc nL ret :: TW) (rmd h) (va_Pc av (IV X σ)) (QC X Q) 0 0 (AA X)
theorem MJ_of {l : Launch} {X : CX} {h : Nat} {y : MethodName} {cc : ByteArray} {nL : Nat} {ret : Option FieldType} {av : List Value} {σ : ST} {Q : Option Value → ST → Prop} {own : String} (lv : List (Option Value)) (hy : plainName y.cls = true) (ho : y.cls = own) (hlen : (lg_sl av).length ≤ nL) (hlv : prs 0 lv = lv_args 0 av)
    (k : RJ (GM l X h Q) X cc nL ret own 0 lv [] σ) : MJ l X h y cc nL ret av σ Q := by
  refine Met.ofW (cc := cc) (maxL := nL) (ret := ret) hy rfl ?_
  intro p e s m args below meth c s₁ B hml hv
  obtain ⟨rfl, hA, hP⟩ := hv
  have hts := atoms_spec (ws := Cond.code y cc nL ret :: TW) B.pre
  have hl := lv_entry av (n := nL) hlen
  rw [lg_entry_eq]
  subst ho
  exact k p e s m _ below meth c s.heap [] _ ⟨B.exec, B.bytes, B.returns, hml, findClass_of_methodNamed B.named, fun w hw => hts w (List.mem_cons_of_mem _ hw), B.notSynchronized, hA, trivial⟩ hP va_S.rf (by rw [hlv]; exact hl)
theorem MJ_mono {l : Launch} {X : CX} {h : Nat} {y : MethodName} {cc : ByteArray} {nL : Nat} {ret : Option FieldType} {av : List Value} {σ : ST} {Q Q' : Option Value → ST → Prop} (hQ : ∀ v τ, Q v τ → Q' v τ) (k : MJ l X h y cc nL ret av σ Q) : MJ l X h y cc nL ret av σ Q' := by
  intro p e ha hc hk s m args below hf happ hP hK
  obtain ⟨n, o, h1, h2, h3, ⟨⟨v, τ, e1, e2, e3⟩, hF⟩, hL⟩ := k p e ha hc hk s m args below hf happ hP hK
  exact ⟨n, o, h1, h2, h3, ⟨⟨v, τ, e1, hQ _ _ e2, e3⟩, hF⟩, hL⟩
section ROWS
variable {G : GT} {X : CX} {cc : ByteArray} {nL : Nat} {ret : Option FieldType} {own : String} {pc : Nat} {lv : List (Option Value)} {st : List Value} {σ : ST}
theorem rj_icm1  (hd : decode cc pc = .ok (.iconst (-1), 1))  (k : RJ G X cc nL ret own (pc + 1) lv (.int (-1) :: st) σ) : RJ G X cc nL ret own pc lv (st) σ := by
  intro p e s m args below meth c H locs ls C hP hS hl
  exact lv_iconst C.1 C.2.1 hd (v := (-1)) (by decide) (k p e s m args below meth c H locs ls C hP hS hl)
theorem rj_ic0  (hd : decode cc pc = .ok (.iconst 0, 1))  (k : RJ G X cc nL ret own (pc + 1) lv (.int 0 :: st) σ) : RJ G X cc nL ret own pc lv (st) σ := by
  intro p e s m args below meth c H locs ls C hP hS hl
  exact lv_iconst C.1 C.2.1 hd (v := 0) (by decide) (k p e s m args below meth c H locs ls C hP hS hl)
theorem rj_ic1  (hd : decode cc pc = .ok (.iconst 1, 1))  (k : RJ G X cc nL ret own (pc + 1) lv (.int 1 :: st) σ) : RJ G X cc nL ret own pc lv (st) σ := by
  intro p e s m args below meth c H locs ls C hP hS hl
  exact lv_iconst C.1 C.2.1 hd (v := 1) (by decide) (k p e s m args below meth c H locs ls C hP hS hl)
theorem rj_ic2  (hd : decode cc pc = .ok (.iconst 2, 1))  (k : RJ G X cc nL ret own (pc + 1) lv (.int 2 :: st) σ) : RJ G X cc nL ret own pc lv (st) σ := by
  intro p e s m args below meth c H locs ls C hP hS hl
  exact lv_iconst C.1 C.2.1 hd (v := 2) (by decide) (k p e s m args below meth c H locs ls C hP hS hl)
theorem rj_ic3  (hd : decode cc pc = .ok (.iconst 3, 1))  (k : RJ G X cc nL ret own (pc + 1) lv (.int 3 :: st) σ) : RJ G X cc nL ret own pc lv (st) σ := by
  intro p e s m args below meth c H locs ls C hP hS hl
  exact lv_iconst C.1 C.2.1 hd (v := 3) (by decide) (k p e s m args below meth c H locs ls C hP hS hl)
theorem rj_ic4  (hd : decode cc pc = .ok (.iconst 4, 1))  (k : RJ G X cc nL ret own (pc + 1) lv (.int 4 :: st) σ) : RJ G X cc nL ret own pc lv (st) σ := by
  intro p e s m args below meth c H locs ls C hP hS hl
  exact lv_iconst C.1 C.2.1 hd (v := 4) (by decide) (k p e s m args below meth c H locs ls C hP hS hl)
theorem rj_ic5  (hd : decode cc pc = .ok (.iconst 5, 1))  (k : RJ G X cc nL ret own (pc + 1) lv (.int 5 :: st) σ) : RJ G X cc nL ret own pc lv (st) σ := by
  intro p e s m args below meth c H locs ls C hP hS hl
  exact lv_iconst C.1 C.2.1 hd (v := 5) (by decide) (k p e s m args below meth c H locs ls C hP hS hl)
theorem rj_bipush {n : Int} {v : Int32} (hd : decode cc pc = .ok (.bipush n, 2)) (hv : (Int8.ofInt n).toInt32 = v) (k : RJ G X cc nL ret own (pc + 2) lv (.int v :: st) σ) : RJ G X cc nL ret own pc lv (st) σ := by
  intro p e s m args below meth c H locs ls C hP hS hl
  exact lv_bipush C.1 C.2.1 hd hv (k p e s m args below meth c H locs ls C hP hS hl)
theorem rj_sipush {n : Int} {v : Int32} (hd : decode cc pc = .ok (.sipush n, 3)) (hv : (Int16.ofInt n).toInt32 = v) (k : RJ G X cc nL ret own (pc + 3) lv (.int v :: st) σ) : RJ G X cc nL ret own pc lv (st) σ := by
  intro p e s m args below meth c H locs ls C hP hS hl
  exact lv_sipush C.1 C.2.1 hd hv (k p e s m args below meth c H locs ls C hP hS hl)
theorem rj_lc0  (hd : decode cc pc = .ok (.lconst 0, 1))  (k : RJ G X cc nL ret own (pc + 1) lv (.long 0 :: st) σ) : RJ G X cc nL ret own pc lv (st) σ := by
  intro p e s m args below meth c H locs ls C hP hS hl
  exact lv_lconst C.1 C.2.1 hd (v := 0) (by decide) (k p e s m args below meth c H locs ls C hP hS hl)
theorem rj_lc1  (hd : decode cc pc = .ok (.lconst 1, 1))  (k : RJ G X cc nL ret own (pc + 1) lv (.long 1 :: st) σ) : RJ G X cc nL ret own pc lv (st) σ := by
  intro p e s m args below meth c H locs ls C hP hS hl
  exact lv_lconst C.1 C.2.1 hd (v := 1) (by decide) (k p e s m args below meth c H locs ls C hP hS hl)
theorem rj_ild0 {x : Int32} (hd : decode cc pc = .ok (.iload_n 0, 1)) (hl0 : lv[0]? = some (some (.int x))) (k : RJ G X cc nL ret own (pc + 1) lv (.int x :: st) σ) : RJ G X cc nL ret own pc lv (st) σ := by
  intro p e s m args below meth c H locs ls C hP hS hl
  exact lv_iload_n C.1 C.2.1 hd rfl (lvp_at hl hl0) (k p e s m args below meth c H locs ls C hP hS hl)
theorem rj_lld0 {x : Int64} (hd : decode cc pc = .ok (.lload_n 0, 1)) (hl0 : lv[0]? = some (some (.long x))) (k : RJ G X cc nL ret own (pc + 1) lv (.long x :: st) σ) : RJ G X cc nL ret own pc lv (st) σ := by
  intro p e s m args below meth c H locs ls C hP hS hl
  exact lv_lload_n C.1 C.2.1 hd rfl (lvp_at hl hl0) (k p e s m args below meth c H locs ls C hP hS hl)
theorem rj_ald0 {x : Nat} (hd : decode cc pc = .ok (.aload_n 0, 1)) (hl0 : lv[0]? = some (some (.ref x))) (k : RJ G X cc nL ret own (pc + 1) lv (.ref x :: st) σ) : RJ G X cc nL ret own pc lv (st) σ := by
  intro p e s m args below meth c H locs ls C hP hS hl
  exact lv_aload_n C.1 C.2.1 hd rfl (lvp_at hl hl0) (k p e s m args below meth c H locs ls C hP hS hl)
theorem rj_ald0N  (hd : decode cc pc = .ok (.aload_n 0, 1)) (hl0 : lv[0]? = some (some .null)) (k : RJ G X cc nL ret own (pc + 1) lv (.null :: st) σ) : RJ G X cc nL ret own pc lv (st) σ := by
  intro p e s m args below meth c H locs ls C hP hS hl
  exact lv_aload_nN C.1 C.2.1 hd rfl (lvp_at hl hl0) (k p e s m args below meth c H locs ls C hP hS hl)
theorem rj_ild1 {x : Int32} (hd : decode cc pc = .ok (.iload_n 1, 1)) (hl0 : lv[1]? = some (some (.int x))) (k : RJ G X cc nL ret own (pc + 1) lv (.int x :: st) σ) : RJ G X cc nL ret own pc lv (st) σ := by
  intro p e s m args below meth c H locs ls C hP hS hl
  exact lv_iload_n C.1 C.2.1 hd rfl (lvp_at hl hl0) (k p e s m args below meth c H locs ls C hP hS hl)
theorem rj_lld1 {x : Int64} (hd : decode cc pc = .ok (.lload_n 1, 1)) (hl0 : lv[1]? = some (some (.long x))) (k : RJ G X cc nL ret own (pc + 1) lv (.long x :: st) σ) : RJ G X cc nL ret own pc lv (st) σ := by
  intro p e s m args below meth c H locs ls C hP hS hl
  exact lv_lload_n C.1 C.2.1 hd rfl (lvp_at hl hl0) (k p e s m args below meth c H locs ls C hP hS hl)
theorem rj_ald1 {x : Nat} (hd : decode cc pc = .ok (.aload_n 1, 1)) (hl0 : lv[1]? = some (some (.ref x))) (k : RJ G X cc nL ret own (pc + 1) lv (.ref x :: st) σ) : RJ G X cc nL ret own pc lv (st) σ := by
  intro p e s m args below meth c H locs ls C hP hS hl
  exact lv_aload_n C.1 C.2.1 hd rfl (lvp_at hl hl0) (k p e s m args below meth c H locs ls C hP hS hl)
theorem rj_ald1N  (hd : decode cc pc = .ok (.aload_n 1, 1)) (hl0 : lv[1]? = some (some .null)) (k : RJ G X cc nL ret own (pc + 1) lv (.null :: st) σ) : RJ G X cc nL ret own pc lv (st) σ := by
  intro p e s m args below meth c H locs ls C hP hS hl
  exact lv_aload_nN C.1 C.2.1 hd rfl (lvp_at hl hl0) (k p e s m args below meth c H locs ls C hP hS hl)
theorem rj_ild2 {x : Int32} (hd : decode cc pc = .ok (.iload_n 2, 1)) (hl0 : lv[2]? = some (some (.int x))) (k : RJ G X cc nL ret own (pc + 1) lv (.int x :: st) σ) : RJ G X cc nL ret own pc lv (st) σ := by
  intro p e s m args below meth c H locs ls C hP hS hl
  exact lv_iload_n C.1 C.2.1 hd rfl (lvp_at hl hl0) (k p e s m args below meth c H locs ls C hP hS hl)
theorem rj_lld2 {x : Int64} (hd : decode cc pc = .ok (.lload_n 2, 1)) (hl0 : lv[2]? = some (some (.long x))) (k : RJ G X cc nL ret own (pc + 1) lv (.long x :: st) σ) : RJ G X cc nL ret own pc lv (st) σ := by
  intro p e s m args below meth c H locs ls C hP hS hl
  exact lv_lload_n C.1 C.2.1 hd rfl (lvp_at hl hl0) (k p e s m args below meth c H locs ls C hP hS hl)
theorem rj_ald2 {x : Nat} (hd : decode cc pc = .ok (.aload_n 2, 1)) (hl0 : lv[2]? = some (some (.ref x))) (k : RJ G X cc nL ret own (pc + 1) lv (.ref x :: st) σ) : RJ G X cc nL ret own pc lv (st) σ := by
  intro p e s m args below meth c H locs ls C hP hS hl
  exact lv_aload_n C.1 C.2.1 hd rfl (lvp_at hl hl0) (k p e s m args below meth c H locs ls C hP hS hl)
theorem rj_ald2N  (hd : decode cc pc = .ok (.aload_n 2, 1)) (hl0 : lv[2]? = some (some .null)) (k : RJ G X cc nL ret own (pc + 1) lv (.null :: st) σ) : RJ G X cc nL ret own pc lv (st) σ := by
  intro p e s m args below meth c H locs ls C hP hS hl
  exact lv_aload_nN C.1 C.2.1 hd rfl (lvp_at hl hl0) (k p e s m args below meth c H locs ls C hP hS hl)
theorem rj_ild3 {x : Int32} (hd : decode cc pc = .ok (.iload_n 3, 1)) (hl0 : lv[3]? = some (some (.int x))) (k : RJ G X cc nL ret own (pc + 1) lv (.int x :: st) σ) : RJ G X cc nL ret own pc lv (st) σ := by
  intro p e s m args below meth c H locs ls C hP hS hl
  exact lv_iload_n C.1 C.2.1 hd rfl (lvp_at hl hl0) (k p e s m args below meth c H locs ls C hP hS hl)
theorem rj_lld3 {x : Int64} (hd : decode cc pc = .ok (.lload_n 3, 1)) (hl0 : lv[3]? = some (some (.long x))) (k : RJ G X cc nL ret own (pc + 1) lv (.long x :: st) σ) : RJ G X cc nL ret own pc lv (st) σ := by
  intro p e s m args below meth c H locs ls C hP hS hl
  exact lv_lload_n C.1 C.2.1 hd rfl (lvp_at hl hl0) (k p e s m args below meth c H locs ls C hP hS hl)
theorem rj_ald3 {x : Nat} (hd : decode cc pc = .ok (.aload_n 3, 1)) (hl0 : lv[3]? = some (some (.ref x))) (k : RJ G X cc nL ret own (pc + 1) lv (.ref x :: st) σ) : RJ G X cc nL ret own pc lv (st) σ := by
  intro p e s m args below meth c H locs ls C hP hS hl
  exact lv_aload_n C.1 C.2.1 hd rfl (lvp_at hl hl0) (k p e s m args below meth c H locs ls C hP hS hl)
theorem rj_ald3N  (hd : decode cc pc = .ok (.aload_n 3, 1)) (hl0 : lv[3]? = some (some .null)) (k : RJ G X cc nL ret own (pc + 1) lv (.null :: st) σ) : RJ G X cc nL ret own pc lv (st) σ := by
  intro p e s m args below meth c H locs ls C hP hS hl
  exact lv_aload_nN C.1 C.2.1 hd rfl (lvp_at hl hl0) (k p e s m args below meth c H locs ls C hP hS hl)
theorem rj_ild {k : Nat} {x : Int32} (hd : decode cc pc = .ok (.iload k, 2)) (hl0 : lv[k]? = some (some (.int x))) (k : RJ G X cc nL ret own (pc + 2) lv (.int x :: st) σ) : RJ G X cc nL ret own pc lv (st) σ := by
  intro p e s m args below meth c H locs ls C hP hS hl
  exact lv_iload C.1 C.2.1 hd (lvp_at hl hl0) (k p e s m args below meth c H locs ls C hP hS hl)
theorem rj_lld {k : Nat} {x : Int64} (hd : decode cc pc = .ok (.lload k, 2)) (hl0 : lv[k]? = some (some (.long x))) (k : RJ G X cc nL ret own (pc + 2) lv (.long x :: st) σ) : RJ G X cc nL ret own pc lv (st) σ := by
  intro p e s m args below meth c H locs ls C hP hS hl
  exact lv_lload C.1 C.2.1 hd (lvp_at hl hl0) (k p e s m args below meth c H locs ls C hP hS hl)
theorem rj_ald {k : Nat} {x : Nat} (hd : decode cc pc = .ok (.aload k, 2)) (hl0 : lv[k]? = some (some (.ref x))) (k : RJ G X cc nL ret own (pc + 2) lv (.ref x :: st) σ) : RJ G X cc nL ret own pc lv (st) σ := by
  intro p e s m args below meth c H locs ls C hP hS hl
  exact lv_aload C.1 C.2.1 hd (lvp_at hl hl0) (k p e s m args below meth c H locs ls C hP hS hl)
theorem rj_aldN {k : Nat} (hd : decode cc pc = .ok (.aload k, 2)) (hl0 : lv[k]? = some (some .null)) (k : RJ G X cc nL ret own (pc + 2) lv (.null :: st) σ) : RJ G X cc nL ret own pc lv (st) σ := by
  intro p e s m args below meth c H locs ls C hP hS hl
  exact lv_aloadN C.1 C.2.1 hd (lvp_at hl hl0) (k p e s m args below meth c H locs ls C hP hS hl)
theorem rj_iadd {x y : Int32} (hd : decode cc pc = .ok (.iadd, 1))  (k : RJ G X cc nL ret own (pc + 1) lv (.int (x + y) :: st) σ) : RJ G X cc nL ret own pc lv (.int y :: .int x :: st) σ := by
  intro p e s m args below meth c H locs ls C hP hS hl
  exact lv_iadd C.1 C.2.1 hd  (k p e s m args below meth c H locs ls C hP hS hl)
theorem rj_isub {x y : Int32} (hd : decode cc pc = .ok (.isub, 1))  (k : RJ G X cc nL ret own (pc + 1) lv (.int (x - y) :: st) σ) : RJ G X cc nL ret own pc lv (.int y :: .int x :: st) σ := by
  intro p e s m args below meth c H locs ls C hP hS hl
  exact lv_isub C.1 C.2.1 hd  (k p e s m args below meth c H locs ls C hP hS hl)
theorem rj_imul {x y : Int32} (hd : decode cc pc = .ok (.imul, 1))  (k : RJ G X cc nL ret own (pc + 1) lv (.int (x * y) :: st) σ) : RJ G X cc nL ret own pc lv (.int y :: .int x :: st) σ := by
  intro p e s m args below meth c H locs ls C hP hS hl
  exact lv_imul C.1 C.2.1 hd  (k p e s m args below meth c H locs ls C hP hS hl)
theorem rj_iand {x y : Int32} (hd : decode cc pc = .ok (.iand, 1))  (k : RJ G X cc nL ret own (pc + 1) lv (.int (x &&& y) :: st) σ) : RJ G X cc nL ret own pc lv (.int y :: .int x :: st) σ := by
  intro p e s m args below meth c H locs ls C hP hS hl
  exact lv_iand C.1 C.2.1 hd  (k p e s m args below meth c H locs ls C hP hS hl)
theorem rj_ior {x y : Int32} (hd : decode cc pc = .ok (.ior, 1))  (k : RJ G X cc nL ret own (pc + 1) lv (.int (x ||| y) :: st) σ) : RJ G X cc nL ret own pc lv (.int y :: .int x :: st) σ := by
  intro p e s m args below meth c H locs ls C hP hS hl
  exact lv_ior C.1 C.2.1 hd  (k p e s m args below meth c H locs ls C hP hS hl)
theorem rj_ixor {x y : Int32} (hd : decode cc pc = .ok (.ixor, 1))  (k : RJ G X cc nL ret own (pc + 1) lv (.int (x ^^^ y) :: st) σ) : RJ G X cc nL ret own pc lv (.int y :: .int x :: st) σ := by
  intro p e s m args below meth c H locs ls C hP hS hl
  exact lv_ixor C.1 C.2.1 hd  (k p e s m args below meth c H locs ls C hP hS hl)
theorem rj_ishl {x y : Int32} (hd : decode cc pc = .ok (.ishl, 1))  (k : RJ G X cc nL ret own (pc + 1) lv (.int (x <<< (y &&& 31)) :: st) σ) : RJ G X cc nL ret own pc lv (.int y :: .int x :: st) σ := by
  intro p e s m args below meth c H locs ls C hP hS hl
  exact lv_ishl C.1 C.2.1 hd  (k p e s m args below meth c H locs ls C hP hS hl)
theorem rj_ishr {x y : Int32} (hd : decode cc pc = .ok (.ishr, 1))  (k : RJ G X cc nL ret own (pc + 1) lv (.int (x >>> (y &&& 31)) :: st) σ) : RJ G X cc nL ret own pc lv (.int y :: .int x :: st) σ := by
  intro p e s m args below meth c H locs ls C hP hS hl
  exact lv_ishr C.1 C.2.1 hd  (k p e s m args below meth c H locs ls C hP hS hl)
theorem rj_idiv {x y : Int32} (hd : decode cc pc = .ok (.idiv, 1)) (h0 : ¬ y = 0) (k : RJ G X cc nL ret own (pc + 1) lv (.int (x / y) :: st) σ) : RJ G X cc nL ret own pc lv (.int y :: .int x :: st) σ := by
  intro p e s m args below meth c H locs ls C hP hS hl
  exact lv_idiv C.1 C.2.1 hd h0 (k p e s m args below meth c H locs ls C hP hS hl)
theorem rj_irem {x y : Int32} (hd : decode cc pc = .ok (.irem, 1)) (h0 : ¬ y = 0) (k : RJ G X cc nL ret own (pc + 1) lv (.int (x - x / y * y) :: st) σ) : RJ G X cc nL ret own pc lv (.int y :: .int x :: st) σ := by
  intro p e s m args below meth c H locs ls C hP hS hl
  exact lv_irem C.1 C.2.1 hd h0 (k p e s m args below meth c H locs ls C hP hS hl)
theorem rj_ineg {x : Int32} (hd : decode cc pc = .ok (.ineg, 1))  (k : RJ G X cc nL ret own (pc + 1) lv (.int (-x) :: st) σ) : RJ G X cc nL ret own pc lv (.int x :: st) σ := by
  intro p e s m args below meth c H locs ls C hP hS hl
  exact lv_ineg C.1 C.2.1 hd  (k p e s m args below meth c H locs ls C hP hS hl)
theorem rj_iushr {x y : Int32} (hd : decode cc pc = .ok (.iushr, 1))  (k : RJ G X cc nL ret own (pc + 1) lv (.int (x.toUInt32 >>> (y.toUInt32 &&& Int32.toUInt32 31)).toInt32 :: st) σ) : RJ G X cc nL ret own pc lv (.int y :: .int x :: st) σ := by
  intro p e s m args below meth c H locs ls C hP hS hl
  exact lv_iushr C.1 C.2.1 hd rfl (k p e s m args below meth c H locs ls C hP hS hl)
theorem rj_ladd {x y : Int64} (hd : decode cc pc = .ok (.ladd, 1))  (k : RJ G X cc nL ret own (pc + 1) lv (.long (x + y) :: st) σ) : RJ G X cc nL ret own pc lv (.long y :: .long x :: st) σ := by
  intro p e s m args below meth c H locs ls C hP hS hl
  exact lv_ladd C.1 C.2.1 hd  (k p e s m args below meth c H locs ls C hP hS hl)
theorem rj_lsub {x y : Int64} (hd : decode cc pc = .ok (.lsub, 1))  (k : RJ G X cc nL ret own (pc + 1) lv (.long (x - y) :: st) σ) : RJ G X cc nL ret own pc lv (.long y :: .long x :: st) σ := by
  intro p e s m args below meth c H locs ls C hP hS hl
  exact lv_lsub C.1 C.2.1 hd  (k p e s m args below meth c H locs ls C hP hS hl)
theorem rj_lmul {x y : Int64} (hd : decode cc pc = .ok (.lmul, 1))  (k : RJ G X cc nL ret own (pc + 1) lv (.long (x * y) :: st) σ) : RJ G X cc nL ret own pc lv (.long y :: .long x :: st) σ := by
  intro p e s m args below meth c H locs ls C hP hS hl
  exact lv_lmul C.1 C.2.1 hd  (k p e s m args below meth c H locs ls C hP hS hl)
theorem rj_land {x y : Int64} (hd : decode cc pc = .ok (.land, 1))  (k : RJ G X cc nL ret own (pc + 1) lv (.long (x &&& y) :: st) σ) : RJ G X cc nL ret own pc lv (.long y :: .long x :: st) σ := by
  intro p e s m args below meth c H locs ls C hP hS hl
  exact lv_land C.1 C.2.1 hd  (k p e s m args below meth c H locs ls C hP hS hl)
theorem rj_lor {x y : Int64} (hd : decode cc pc = .ok (.lor, 1))  (k : RJ G X cc nL ret own (pc + 1) lv (.long (x ||| y) :: st) σ) : RJ G X cc nL ret own pc lv (.long y :: .long x :: st) σ := by
  intro p e s m args below meth c H locs ls C hP hS hl
  exact lv_lor C.1 C.2.1 hd  (k p e s m args below meth c H locs ls C hP hS hl)
theorem rj_lshl {x : Int64} {y : Int32} (hd : decode cc pc = .ok (.lshl, 1))  (k : RJ G X cc nL ret own (pc + 1) lv (.long (x <<< (y.toInt64 &&& 63)) :: st) σ) : RJ G X cc nL ret own pc lv (.int y :: .long x :: st) σ := by
  intro p e s m args below meth c H locs ls C hP hS hl
  exact lv_lshl C.1 C.2.1 hd rfl (k p e s m args below meth c H locs ls C hP hS hl)
theorem rj_lshr {x : Int64} {y : Int32} (hd : decode cc pc = .ok (.lshr, 1))  (k : RJ G X cc nL ret own (pc + 1) lv (.long (x >>> (y.toInt64 &&& 63)) :: st) σ) : RJ G X cc nL ret own pc lv (.int y :: .long x :: st) σ := by
  intro p e s m args below meth c H locs ls C hP hS hl
  exact lv_lshr C.1 C.2.1 hd rfl (k p e s m args below meth c H locs ls C hP hS hl)
theorem rj_lcmp {x y : Int64} (hd : decode cc pc = .ok (.lcmp, 1))  (k : RJ G X cc nL ret own (pc + 1) lv (.int (lg_cmp x y) :: st) σ) : RJ G X cc nL ret own pc lv (.long y :: .long x :: st) σ := by
  intro p e s m args below meth c H locs ls C hP hS hl
  exact W.lcmp C.1 C.2.1 hd  (k p e s m args below meth c H locs ls C hP hS hl)
theorem rj_i2l {x : Int32} (hd : decode cc pc = .ok (.i2l, 1))  (k : RJ G X cc nL ret own (pc + 1) lv (.long x.toInt64 :: st) σ) : RJ G X cc nL ret own pc lv (.int x :: st) σ := by
  intro p e s m args below meth c H locs ls C hP hS hl
  exact lv_i2l C.1 C.2.1 hd rfl (k p e s m args below meth c H locs ls C hP hS hl)
theorem rj_l2i {x : Int64} (hd : decode cc pc = .ok (.l2i, 1))  (k : RJ G X cc nL ret own (pc + 1) lv (.int x.toInt32 :: st) σ) : RJ G X cc nL ret own pc lv (.long x :: st) σ := by
  intro p e s m args below meth c H locs ls C hP hS hl
  exact lv_l2i C.1 C.2.1 hd rfl (k p e s m args below meth c H locs ls C hP hS hl)
theorem rj_i2b {x : Int32} (hd : decode cc pc = .ok (.i2b, 1))  (k : RJ G X cc nL ret own (pc + 1) lv (.int x.toInt8.toInt32 :: st) σ) : RJ G X cc nL ret own pc lv (.int x :: st) σ := by
  intro p e s m args below meth c H locs ls C hP hS hl
  exact lv_i2b C.1 C.2.1 hd rfl (k p e s m args below meth c H locs ls C hP hS hl)
theorem rj_i2s {x : Int32} (hd : decode cc pc = .ok (.i2s, 1))  (k : RJ G X cc nL ret own (pc + 1) lv (.int x.toInt16.toInt32 :: st) σ) : RJ G X cc nL ret own pc lv (.int x :: st) σ := by
  intro p e s m args below meth c H locs ls C hP hS hl
  exact lv_i2s C.1 C.2.1 hd rfl (k p e s m args below meth c H locs ls C hP hS hl)
theorem rj_i2c {x : Int32} (hd : decode cc pc = .ok (.i2c, 1))  (k : RJ G X cc nL ret own (pc + 1) lv (.int (x.toUInt32 % 65536).toInt32 :: st) σ) : RJ G X cc nL ret own pc lv (.int x :: st) σ := by
  intro p e s m args below meth c H locs ls C hP hS hl
  exact lv_i2c C.1 C.2.1 hd rfl (k p e s m args below meth c H locs ls C hP hS hl)
theorem rj_dup {v : Value} (hd : decode cc pc = .ok (.dup, 1)) (hc : v.category = 1) (k : RJ G X cc nL ret own (pc + 1) lv (v :: v :: st) σ) : RJ G X cc nL ret own pc lv (v :: st) σ := by
  intro p e s m args below meth c H locs ls C hP hS hl
  exact lv_dup C.1 C.2.1 hd hc (k p e s m args below meth c H locs ls C hP hS hl)
theorem rj_pop {v : Value} (hd : decode cc pc = .ok (.pop, 1)) (hc : v.category = 1) (k : RJ G X cc nL ret own (pc + 1) lv (st) σ) : RJ G X cc nL ret own pc lv (v :: st) σ := by
  intro p e s m args below meth c H locs ls C hP hS hl
  exact lv_pop C.1 C.2.1 hd hc (k p e s m args below meth c H locs ls C hP hS hl)
theorem rj_dup2 {v u : Value} (hd : decode cc pc = .ok (.dup2, 1)) (hc : v.category = 1) (hc2 : u.category = 1) (k : RJ G X cc nL ret own (pc + 1) lv (v :: u :: v :: u :: st) σ) : RJ G X cc nL ret own pc lv (v :: u :: st) σ := by
  intro p e s m args below meth c H locs ls C hP hS hl
  exact lv_dup2_11 C.1 C.2.1 hd hc hc2 (k p e s m args below meth c H locs ls C hP hS hl)
theorem rj_null  (hd : decode cc pc = .ok (.aconst_null, 1))  (k : RJ G X cc nL ret own (pc + 1) lv (.null :: st) σ) : RJ G X cc nL ret own pc lv (st) σ := by
  intro p e s m args below meth c H locs ls C hP hS hl
  exact lv_null C.1 C.2.1 hd  (k p e s m args below meth c H locs ls C hP hS hl)
theorem tlt {x y : Int32} (h : x < y) : x.toInt < y.toInt := Int32.lt_iff_toInt_lt.mp h
theorem tnlt {x y : Int32} (h : ¬ x < y) : y.toInt ≤ x.toInt := Int.not_lt.mp (fun q => h (Int32.lt_iff_toInt_lt.mpr q))
theorem tle {x y : Int32} (h : x ≤ y) : x.toInt ≤ y.toInt := Int32.le_iff_toInt_le.mp h
theorem tnle {x y : Int32} (h : ¬ x ≤ y) : y.toInt < x.toInt := Int.not_le.mp (fun q => h (Int32.le_iff_toInt_le.mpr q))
theorem t0 : (0 : Int32).toInt = 0 := by decide
theorem rj_if_eq {x : Int32} {off : Int} {tgt : Nat} (hd : decode cc pc = .ok (.ifCond .eq off, 3)) (ht : (pc : Int) + off = (tgt : Int)) (kt : x = 0 → RJ G X cc nL ret own tgt lv st σ) (kf : ¬ x = 0 → RJ G X cc nL ret own (pc + 3) lv st σ) : RJ G X cc nL ret own pc lv (.int x :: st) σ := by
  intro p e s m args below meth c H locs ls C hP hS hl
  exact lv_if_eq C.1 C.2.1 hd ht (fun h => kt (h) p e s m args below meth c H locs ls C hP hS hl) (fun h => kf (h) p e s m args below meth c H locs ls C hP hS hl)
theorem rj_if_ne {x : Int32} {off : Int} {tgt : Nat} (hd : decode cc pc = .ok (.ifCond .ne off, 3)) (ht : (pc : Int) + off = (tgt : Int)) (kt : ¬ x = 0 → RJ G X cc nL ret own tgt lv st σ) (kf : x = 0 → RJ G X cc nL ret own (pc + 3) lv st σ) : RJ G X cc nL ret own pc lv (.int x :: st) σ := by
  intro p e s m args below meth c H locs ls C hP hS hl
  exact lv_if_ne C.1 C.2.1 hd ht (fun h => kt (h) p e s m args below meth c H locs ls C hP hS hl) (fun h => kf (h) p e s m args below meth c H locs ls C hP hS hl)
theorem rj_if_lt {x : Int32} {off : Int} {tgt : Nat} (hd : decode cc pc = .ok (.ifCond .lt off, 3)) (ht : (pc : Int) + off = (tgt : Int)) (kt : x.toInt < 0 → RJ G X cc nL ret own tgt lv st σ) (kf : 0 ≤ x.toInt → RJ G X cc nL ret own (pc + 3) lv st σ) : RJ G X cc nL ret own pc lv (.int x :: st) σ := by
  intro p e s m args below meth c H locs ls C hP hS hl
  exact lv_if_lt C.1 C.2.1 hd ht (fun h => kt (t0 ▸ tlt h) p e s m args below meth c H locs ls C hP hS hl) (fun h => kf (t0 ▸ tnlt h) p e s m args below meth c H locs ls C hP hS hl)
theorem rj_if_ge {x : Int32} {off : Int} {tgt : Nat} (hd : decode cc pc = .ok (.ifCond .ge off, 3)) (ht : (pc : Int) + off = (tgt : Int)) (kt : 0 ≤ x.toInt → RJ G X cc nL ret own tgt lv st σ) (kf : x.toInt < 0 → RJ G X cc nL ret own (pc + 3) lv st σ) : RJ G X cc nL ret own pc lv (.int x :: st) σ := by
  intro p e s m args below meth c H locs ls C hP hS hl
  exact lv_if_ge C.1 C.2.1 hd ht (fun h => kt (t0 ▸ tle h) p e s m args below meth c H locs ls C hP hS hl) (fun h => kf (t0 ▸ tnle h) p e s m args below meth c H locs ls C hP hS hl)
theorem rj_if_gt {x : Int32} {off : Int} {tgt : Nat} (hd : decode cc pc = .ok (.ifCond .gt off, 3)) (ht : (pc : Int) + off = (tgt : Int)) (kt : 0 < x.toInt → RJ G X cc nL ret own tgt lv st σ) (kf : x.toInt ≤ 0 → RJ G X cc nL ret own (pc + 3) lv st σ) : RJ G X cc nL ret own pc lv (.int x :: st) σ := by
  intro p e s m args below meth c H locs ls C hP hS hl
  exact lv_if_gt C.1 C.2.1 hd ht (fun h => kt (t0 ▸ tlt h) p e s m args below meth c H locs ls C hP hS hl) (fun h => kf (t0 ▸ tnlt h) p e s m args below meth c H locs ls C hP hS hl)
theorem rj_if_le {x : Int32} {off : Int} {tgt : Nat} (hd : decode cc pc = .ok (.ifCond .le off, 3)) (ht : (pc : Int) + off = (tgt : Int)) (kt : x.toInt ≤ 0 → RJ G X cc nL ret own tgt lv st σ) (kf : 0 < x.toInt → RJ G X cc nL ret own (pc + 3) lv st σ) : RJ G X cc nL ret own pc lv (.int x :: st) σ := by
  intro p e s m args below meth c H locs ls C hP hS hl
  exact lv_if_le C.1 C.2.1 hd ht (fun h => kt (t0 ▸ tle h) p e s m args below meth c H locs ls C hP hS hl) (fun h => kf (t0 ▸ tnle h) p e s m args below meth c H locs ls C hP hS hl)
theorem rj_ic_eq {x y : Int32} {off : Int} {tgt : Nat} (hd : decode cc pc = .ok (.if_icmp .eq off, 3)) (ht : (pc : Int) + off = (tgt : Int)) (kt : x = y → RJ G X cc nL ret own tgt lv st σ) (kf : ¬ x = y → RJ G X cc nL ret own (pc + 3) lv st σ) : RJ G X cc nL ret own pc lv (.int y :: .int x :: st) σ := by
  intro p e s m args below meth c H locs ls C hP hS hl
  exact lv_icmp_eq C.1 C.2.1 hd ht (fun h => kt (h) p e s m args below meth c H locs ls C hP hS hl) (fun h => kf (h) p e s m args below meth c H locs ls C hP hS hl)
theorem rj_ic_ne {x y : Int32} {off : Int} {tgt : Nat} (hd : decode cc pc = .ok (.if_icmp .ne off, 3)) (ht : (pc : Int) + off = (tgt : Int)) (kt : ¬ x = y → RJ G X cc nL ret own tgt lv st σ) (kf : x = y → RJ G X cc nL ret own (pc + 3) lv st σ) : RJ G X cc nL ret own pc lv (.int y :: .int x :: st) σ := by
  intro p e s m args below meth c H locs ls C hP hS hl
  exact lv_icmp_ne C.1 C.2.1 hd ht (fun h => kt (h) p e s m args below meth c H locs ls C hP hS hl) (fun h => kf (h) p e s m args below meth c H locs ls C hP hS hl)
theorem rj_ic_lt {x y : Int32} {off : Int} {tgt : Nat} (hd : decode cc pc = .ok (.if_icmp .lt off, 3)) (ht : (pc : Int) + off = (tgt : Int)) (kt : x.toInt < y.toInt → RJ G X cc nL ret own tgt lv st σ) (kf : y.toInt ≤ x.toInt → RJ G X cc nL ret own (pc + 3) lv st σ) : RJ G X cc nL ret own pc lv (.int y :: .int x :: st) σ := by
  intro p e s m args below meth c H locs ls C hP hS hl
  exact lv_icmp_lt C.1 C.2.1 hd ht (fun h => kt (tlt h) p e s m args below meth c H locs ls C hP hS hl) (fun h => kf (tnlt h) p e s m args below meth c H locs ls C hP hS hl)
theorem rj_ic_ge {x y : Int32} {off : Int} {tgt : Nat} (hd : decode cc pc = .ok (.if_icmp .ge off, 3)) (ht : (pc : Int) + off = (tgt : Int)) (kt : y.toInt ≤ x.toInt → RJ G X cc nL ret own tgt lv st σ) (kf : x.toInt < y.toInt → RJ G X cc nL ret own (pc + 3) lv st σ) : RJ G X cc nL ret own pc lv (.int y :: .int x :: st) σ := by
  intro p e s m args below meth c H locs ls C hP hS hl
  exact lv_icmp_ge C.1 C.2.1 hd ht (fun h => kt (tle h) p e s m args below meth c H locs ls C hP hS hl) (fun h => kf (tnle h) p e s m args below meth c H locs ls C hP hS hl)
theorem rj_ic_gt {x y : Int32} {off : Int} {tgt : Nat} (hd : decode cc pc = .ok (.if_icmp .gt off, 3)) (ht : (pc : Int) + off = (tgt : Int)) (kt : y.toInt < x.toInt → RJ G X cc nL ret own tgt lv st σ) (kf : x.toInt ≤ y.toInt → RJ G X cc nL ret own (pc + 3) lv st σ) : RJ G X cc nL ret own pc lv (.int y :: .int x :: st) σ := by
  intro p e s m args below meth c H locs ls C hP hS hl
  exact lv_icmp_gt C.1 C.2.1 hd ht (fun h => kt (tlt h) p e s m args below meth c H locs ls C hP hS hl) (fun h => kf (tnlt h) p e s m args below meth c H locs ls C hP hS hl)
theorem rj_ic_le {x y : Int32} {off : Int} {tgt : Nat} (hd : decode cc pc = .ok (.if_icmp .le off, 3)) (ht : (pc : Int) + off = (tgt : Int)) (kt : x.toInt ≤ y.toInt → RJ G X cc nL ret own tgt lv st σ) (kf : y.toInt < x.toInt → RJ G X cc nL ret own (pc + 3) lv st σ) : RJ G X cc nL ret own pc lv (.int y :: .int x :: st) σ := by
  intro p e s m args below meth c H locs ls C hP hS hl
  exact lv_icmp_le C.1 C.2.1 hd ht (fun h => kt (tle h) p e s m args below meth c H locs ls C hP hS hl) (fun h => kf (tnle h) p e s m args below meth c H locs ls C hP hS hl)
theorem rj_goto  {off : Int} {tgt : Nat} (hd : decode cc pc = .ok (.goto off, 3)) (ht : (pc : Int) + off = (tgt : Int)) (k : RJ G X cc nL ret own tgt lv st σ) : RJ G X cc nL ret own pc lv (st) σ := by
  intro p e s m args below meth c H locs ls C hP hS hl
  exact lv_goto C.1 C.2.1 hd ht (k p e s m args below meth c H locs ls C hP hS hl)
theorem rj_nn_ref {x : Nat} {off : Int} {tgt : Nat} (hd : decode cc pc = .ok (.ifnonnull off, 3)) (ht : (pc : Int) + off = (tgt : Int)) (k : RJ G X cc nL ret own tgt lv st σ) : RJ G X cc nL ret own pc lv (.ref x :: st) σ := by
  intro p e s m args below meth c H locs ls C hP hS hl
  exact lv_ifnonnull C.1 C.2.1 hd ht (k p e s m args below meth c H locs ls C hP hS hl)
theorem rj_nu_ref {x : Nat} {off : Int}  (hd : decode cc pc = .ok (.ifnull off, 3))  (k : RJ G X cc nL ret own (pc + 3) lv st σ) : RJ G X cc nL ret own pc lv (.ref x :: st) σ := by
  intro p e s m args below meth c H locs ls C hP hS hl
  exact lv_ifnull C.1 C.2.1 hd  (k p e s m args below meth c H locs ls C hP hS hl)
theorem rj_nu_null  {off : Int} {tgt : Nat} (hd : decode cc pc = .ok (.ifnull off, 3)) (ht : (pc : Int) + off = (tgt : Int)) (k : RJ G X cc nL ret own tgt lv st σ) : RJ G X cc nL ret own pc lv (.null :: st) σ := by
  intro p e s m args below meth c H locs ls C hP hS hl
  exact lv_ifnullN C.1 C.2.1 hd ht (k p e s m args below meth c H locs ls C hP hS hl)
theorem rj_nn_null  {off : Int}  (hd : decode cc pc = .ok (.ifnonnull off, 3))  (k : RJ G X cc nL ret own (pc + 3) lv st σ) : RJ G X cc nL ret own pc lv (.null :: st) σ := by
  intro p e s m args below meth c H locs ls C hP hS hl
  exact lv_ifnonnullN C.1 C.2.1 hd  (k p e s m args below meth c H locs ls C hP hS hl)
theorem rj_tabOut {dflt lo hi : Int} {offs : Array Int} {len : Nat} {x : Int32} {tgt : Nat} (hd : decode cc pc = .ok (.tableswitch dflt lo hi offs, len)) (h : x.toInt < lo ∨ hi < x.toInt) (ht : (pc : Int) + dflt = (tgt : Int)) (k : RJ G X cc nL ret own tgt lv st σ) : RJ G X cc nL ret own pc lv (.int x :: st) σ := by
  intro p e s m args below meth c H locs ls C hP hS hl
  exact lv_tableOut C.1 C.2.1 hd h ht (k p e s m args below meth c H locs ls C hP hS hl)
theorem rj_tabIn {dflt lo hi : Int} {offs : Array Int} {len : Nat} {x : Int32} {off : Int} {tgt : Nat} (hd : decode cc pc = .ok (.tableswitch dflt lo hi offs, len)) (h1 : ¬ x.toInt < lo) (h2 : ¬ hi < x.toInt) (ho : offs[(x.toInt - lo).toNat]? = some off) (ht : (pc : Int) + off = (tgt : Int)) (k : RJ G X cc nL ret own tgt lv st σ) : RJ G X cc nL ret own pc lv (.int x :: st) σ := by
  intro p e s m args below meth c H locs ls C hP hS hl
  exact lv_tableIn C.1 C.2.1 hd h1 h2 ho ht (k p e s m args below meth c H locs ls C hP hS hl)
theorem rj_ist0w {x : Int32} {a0 : Option Value} {L : List (Option Value)} (hd : decode cc pc = .ok (.istore 0, 2)) (hN : 0 < nL)  (k : RJ G X cc nL ret own (pc + 2) (some (.int x) :: L) st σ) : RJ G X cc nL ret own pc (a0 :: L) ((.int x) :: st) σ := by
  intro p e s m args below meth c H locs ls C hP hS hl
  refine lv_istore C.1 C.2.1 hd  hl hN rfl (fun ls hl2 => ?_)
  exact k p e s m args below meth c H locs ls C hP hS (lvp_st1 (lv := a0 :: L) (k := 0) (by simp) (fun j hj => by omega) hl2)
theorem rj_ist0 {x : Int32} {a0 : Option Value} {L : List (Option Value)} (hd : decode cc pc = .ok (.istore_n 0, 1)) (hN : 0 < nL)  (k : RJ G X cc nL ret own (pc + 1) (some (.int x) :: L) st σ) : RJ G X cc nL ret own pc (a0 :: L) ((.int x) :: st) σ := by
  intro p e s m args below meth c H locs ls C hP hS hl
  refine lv_istore_n C.1 C.2.1 hd rfl hl hN rfl (fun ls hl2 => ?_)
  exact k p e s m args below meth c H locs ls C hP hS (lvp_st1 (lv := a0 :: L) (k := 0) (by simp) (fun j hj => by omega) hl2)
theorem rj_ast0w {x : Nat} {a0 : Option Value} {L : List (Option Value)} (hd : decode cc pc = .ok (.astore 0, 2)) (hN : 0 < nL)  (k : RJ G X cc nL ret own (pc + 2) (some (.ref x) :: L) st σ) : RJ G X cc nL ret own pc (a0 :: L) ((.ref x) :: st) σ := by
  intro p e s m args below meth c H locs ls C hP hS hl
  refine lv_astore C.1 C.2.1 hd  hl hN rfl (fun ls hl2 => ?_)
  exact k p e s m args below meth c H locs ls C hP hS (lvp_st1 (lv := a0 :: L) (k := 0) (by simp) (fun j hj => by omega) hl2)
theorem rj_ast0 {x : Nat} {a0 : Option Value} {L : List (Option Value)} (hd : decode cc pc = .ok (.astore_n 0, 1)) (hN : 0 < nL)  (k : RJ G X cc nL ret own (pc + 1) (some (.ref x) :: L) st σ) : RJ G X cc nL ret own pc (a0 :: L) ((.ref x) :: st) σ := by
  intro p e s m args below meth c H locs ls C hP hS hl
  refine lv_astore_n C.1 C.2.1 hd rfl hl hN rfl (fun ls hl2 => ?_)
  exact k p e s m args below meth c H locs ls C hP hS (lvp_st1 (lv := a0 :: L) (k := 0) (by simp) (fun j hj => by omega) hl2)
theorem rj_nst0w  {a0 : Option Value} {L : List (Option Value)} (hd : decode cc pc = .ok (.astore 0, 2)) (hN : 0 < nL)  (k : RJ G X cc nL ret own (pc + 2) (some .null :: L) st σ) : RJ G X cc nL ret own pc (a0 :: L) (.null :: st) σ := by
  intro p e s m args below meth c H locs ls C hP hS hl
  refine lv_astoreN C.1 C.2.1 hd  hl hN rfl (fun ls hl2 => ?_)
  exact k p e s m args below meth c H locs ls C hP hS (lvp_st1 (lv := a0 :: L) (k := 0) (by simp) (fun j hj => by omega) hl2)
theorem rj_nst0  {a0 : Option Value} {L : List (Option Value)} (hd : decode cc pc = .ok (.astore_n 0, 1)) (hN : 0 < nL)  (k : RJ G X cc nL ret own (pc + 1) (some .null :: L) st σ) : RJ G X cc nL ret own pc (a0 :: L) (.null :: st) σ := by
  intro p e s m args below meth c H locs ls C hP hS hl
  refine lv_astore_nN C.1 C.2.1 hd rfl hl hN rfl (fun ls hl2 => ?_)
  exact k p e s m args below meth c H locs ls C hP hS (lvp_st1 (lv := a0 :: L) (k := 0) (by simp) (fun j hj => by omega) hl2)
theorem rj_iinc0 {x d : Int32} {n : Int} {a0_ : Option Value} {L : List (Option Value)} (hd : decode cc pc = .ok (.iinc 0 n, 3)) (hN : 0 < nL)  (hv : Int32.ofInt n = d) (k : RJ G X cc nL ret own (pc + 3) (some (.int (x + d)) :: L) st σ) : RJ G X cc nL ret own pc (some (.int x) :: L) st σ := by
  subst hv
  intro p e s m args below meth c H locs ls C hP hS hl
  obtain ⟨q, hq⟩ := List.getElem?_of_mem (mem_prs.mpr ⟨0, by simp, rfl⟩ : ((0, Value.int x) : Nat × Value) ∈ prs 0 (some (.int x) :: L))
  refine lv_iinc C.1 C.2.1 hd hl hq rfl hN rfl (fun ls hl2 => ?_)
  exact k p e s m args below meth c H locs ls C hP hS (lvp_st1 (lv := some (.int x) :: L) (k := 0) (by simp) (fun j hj => by omega) hl2)
theorem rj_ist1w {x : Int32} {a0 a1 : Option Value} {L : List (Option Value)} (hd : decode cc pc = .ok (.istore 1, 2)) (hN : 1 < nL) (hn : nl a0 = true) (k : RJ G X cc nL ret own (pc + 2) (a0 :: some (.int x) :: L) st σ) : RJ G X cc nL ret own pc (a0 :: a1 :: L) ((.int x) :: st) σ := by
  intro p e s m args below meth c H locs ls C hP hS hl
  refine lv_istore C.1 C.2.1 hd  hl hN rfl (fun ls hl2 => ?_)
  exact k p e s m args below meth c H locs ls C hP hS (lvp_st1 (lv := a0 :: a1 :: L) (k := 1) (by simp) (fun j hj => by have h9 : j = 0 := (by omega); subst h9; exact hn) hl2)
theorem rj_ist1 {x : Int32} {a0 a1 : Option Value} {L : List (Option Value)} (hd : decode cc pc = .ok (.istore_n 1, 1)) (hN : 1 < nL) (hn : nl a0 = true) (k : RJ G X cc nL ret own (pc + 1) (a0 :: some (.int x) :: L) st σ) : RJ G X cc nL ret own pc (a0 :: a1 :: L) ((.int x) :: st) σ := by
  intro p e s m args below meth c H locs ls C hP hS hl
  refine lv_istore_n C.1 C.2.1 hd rfl hl hN rfl (fun ls hl2 => ?_)
  exact k p e s m args below meth c H locs ls C hP hS (lvp_st1 (lv := a0 :: a1 :: L) (k := 1) (by simp) (fun j hj => by have h9 : j = 0 := (by omega); subst h9; exact hn) hl2)
theorem rj_ast1w {x : Nat} {a0 a1 : Option Value} {L : List (Option Value)} (hd : decode cc pc = .ok (.astore 1, 2)) (hN : 1 < nL) (hn : nl a0 = true) (k : RJ G X cc nL ret own (pc + 2) (a0 :: some (.ref x) :: L) st σ) : RJ G X cc nL ret own pc (a0 :: a1 :: L) ((.ref x) :: st) σ := by
  intro p e s m args below meth c H locs ls C hP hS hl
  refine lv_astore C.1 C.2.1 hd  hl hN rfl (fun ls hl2 => ?_)
  exact k p e s m args below meth c H locs ls C hP hS (lvp_st1 (lv := a0 :: a1 :: L) (k := 1) (by simp) (fun j hj => by have h9 : j = 0 := (by omega); subst h9; exact hn) hl2)
theorem rj_ast1 {x : Nat} {a0 a1 : Option Value} {L : List (Option Value)} (hd : decode cc pc = .ok (.astore_n 1, 1)) (hN : 1 < nL) (hn : nl a0 = true) (k : RJ G X cc nL ret own (pc + 1) (a0 :: some (.ref x) :: L) st σ) : RJ G X cc nL ret own pc (a0 :: a1 :: L) ((.ref x) :: st) σ := by
  intro p e s m args below meth c H locs ls C hP hS hl
  refine lv_astore_n C.1 C.2.1 hd rfl hl hN rfl (fun ls hl2 => ?_)
  exact k p e s m args below meth c H locs ls C hP hS (lvp_st1 (lv := a0 :: a1 :: L) (k := 1) (by simp) (fun j hj => by have h9 : j = 0 := (by omega); subst h9; exact hn) hl2)
theorem rj_nst1w  {a0 a1 : Option Value} {L : List (Option Value)} (hd : decode cc pc = .ok (.astore 1, 2)) (hN : 1 < nL) (hn : nl a0 = true) (k : RJ G X cc nL ret own (pc + 2) (a0 :: some .null :: L) st σ) : RJ G X cc nL ret own pc (a0 :: a1 :: L) (.null :: st) σ := by
  intro p e s m args below meth c H locs ls C hP hS hl
  refine lv_astoreN C.1 C.2.1 hd  hl hN rfl (fun ls hl2 => ?_)
  exact k p e s m args below meth c H locs ls C hP hS (lvp_st1 (lv := a0 :: a1 :: L) (k := 1) (by simp) (fun j hj => by have h9 : j = 0 := (by omega); subst h9; exact hn) hl2)
theorem rj_nst1  {a0 a1 : Option Value} {L : List (Option Value)} (hd : decode cc pc = .ok (.astore_n 1, 1)) (hN : 1 < nL) (hn : nl a0 = true) (k : RJ G X cc nL ret own (pc + 1) (a0 :: some .null :: L) st σ) : RJ G X cc nL ret own pc (a0 :: a1 :: L) (.null :: st) σ := by
  intro p e s m args below meth c H locs ls C hP hS hl
  refine lv_astore_nN C.1 C.2.1 hd rfl hl hN rfl (fun ls hl2 => ?_)
  exact k p e s m args below meth c H locs ls C hP hS (lvp_st1 (lv := a0 :: a1 :: L) (k := 1) (by simp) (fun j hj => by have h9 : j = 0 := (by omega); subst h9; exact hn) hl2)
theorem rj_iinc1 {x d : Int32} {n : Int} {a0 : Option Value} {L : List (Option Value)} (hd : decode cc pc = .ok (.iinc 1 n, 3)) (hN : 1 < nL) (hn : nl a0 = true) (hv : Int32.ofInt n = d) (k : RJ G X cc nL ret own (pc + 3) (a0 :: some (.int (x + d)) :: L) st σ) : RJ G X cc nL ret own pc (a0 :: some (.int x) :: L) st σ := by
  subst hv
  intro p e s m args below meth c H locs ls C hP hS hl
  obtain ⟨q, hq⟩ := List.getElem?_of_mem (mem_prs.mpr ⟨1, by simp, rfl⟩ : ((1, Value.int x) : Nat × Value) ∈ prs 0 (a0 :: some (.int x) :: L))
  refine lv_iinc C.1 C.2.1 hd hl hq rfl hN rfl (fun ls hl2 => ?_)
  exact k p e s m args below meth c H locs ls C hP hS (lvp_st1 (lv := a0 :: some (.int x) :: L) (k := 1) (by simp) (fun j hj => by have h9 : j = 0 := (by omega); subst h9; exact hn) hl2)
theorem rj_ist2w {x : Int32} {a0 a1 a2 : Option Value} {L : List (Option Value)} (hd : decode cc pc = .ok (.istore 2, 2)) (hN : 2 < nL) (hn : nl a1 = true) (k : RJ G X cc nL ret own (pc + 2) (a0 :: a1 :: some (.int x) :: L) st σ) : RJ G X cc nL ret own pc (a0 :: a1 :: a2 :: L) ((.int x) :: st) σ := by
  intro p e s m args below meth c H locs ls C hP hS hl
  refine lv_istore C.1 C.2.1 hd  hl hN rfl (fun ls hl2 => ?_)
  exact k p e s m args below meth c H locs ls C hP hS (lvp_st1 (lv := a0 :: a1 :: a2 :: L) (k := 2) (by simp) (fun j hj => by have h9 : j = 1 := (by omega); subst h9; exact hn) hl2)
theorem rj_ist2 {x : Int32} {a0 a1 a2 : Option Value} {L : List (Option Value)} (hd : decode cc pc = .ok (.istore_n 2, 1)) (hN : 2 < nL) (hn : nl a1 = true) (k : RJ G X cc nL ret own (pc + 1) (a0 :: a1 :: some (.int x) :: L) st σ) : RJ G X cc nL ret own pc (a0 :: a1 :: a2 :: L) ((.int x) :: st) σ := by
  intro p e s m args below meth c H locs ls C hP hS hl
  refine lv_istore_n C.1 C.2.1 hd rfl hl hN rfl (fun ls hl2 => ?_)
  exact k p e s m args below meth c H locs ls C hP hS (lvp_st1 (lv := a0 :: a1 :: a2 :: L) (k := 2) (by simp) (fun j hj => by have h9 : j = 1 := (by omega); subst h9; exact hn) hl2)
theorem rj_ast2w {x : Nat} {a0 a1 a2 : Option Value} {L : List (Option Value)} (hd : decode cc pc = .ok (.astore 2, 2)) (hN : 2 < nL) (hn : nl a1 = true) (k : RJ G X cc nL ret own (pc + 2) (a0 :: a1 :: some (.ref x) :: L) st σ) : RJ G X cc nL ret own pc (a0 :: a1 :: a2 :: L) ((.ref x) :: st) σ := by
  intro p e s m args below meth c H locs ls C hP hS hl
  refine lv_astore C.1 C.2.1 hd  hl hN rfl (fun ls hl2 => ?_)
  exact k p e s m args below meth c H locs ls C hP hS (lvp_st1 (lv := a0 :: a1 :: a2 :: L) (k := 2) (by simp) (fun j hj => by have h9 : j = 1 := (by omega); subst h9; exact hn) hl2)
theorem rj_ast2 {x : Nat} {a0 a1 a2 : Option Value} {L : List (Option Value)} (hd : decode cc pc = .ok (.astore_n 2, 1)) (hN : 2 < nL) (hn : nl a1 = true) (k : RJ G X cc nL ret own (pc + 1) (a0 :: a1 :: some (.ref x) :: L) st σ) : RJ G X cc nL ret own pc (a0 :: a1 :: a2 :: L) ((.ref x) :: st) σ := by
  intro p e s m args below meth c H locs ls C hP hS hl
  refine lv_astore_n C.1 C.2.1 hd rfl hl hN rfl (fun ls hl2 => ?_)
  exact k p e s m args below meth c H locs ls C hP hS (lvp_st1 (lv := a0 :: a1 :: a2 :: L) (k := 2) (by simp) (fun j hj => by have h9 : j = 1 := (by omega); subst h9; exact hn) hl2)
theorem rj_nst2w  {a0 a1 a2 : Option Value} {L : List (Option Value)} (hd : decode cc pc = .ok (.astore 2, 2)) (hN : 2 < nL) (hn : nl a1 = true) (k : RJ G X cc nL ret own (pc + 2) (a0 :: a1 :: some .null :: L) st σ) : RJ G X cc nL ret own pc (a0 :: a1 :: a2 :: L) (.null :: st) σ := by
  intro p e s m args below meth c H locs ls C hP hS hl
  refine lv_astoreN C.1 C.2.1 hd  hl hN rfl (fun ls hl2 => ?_)
  exact k p e s m args below meth c H locs ls C hP hS (lvp_st1 (lv := a0 :: a1 :: a2 :: L) (k := 2) (by simp) (fun j hj => by have h9 : j = 1 := (by omega); subst h9; exact hn) hl2)
theorem rj_nst2  {a0 a1 a2 : Option Value} {L : List (Option Value)} (hd : decode cc pc = .ok (.astore_n 2, 1)) (hN : 2 < nL) (hn : nl a1 = true) (k : RJ G X cc nL ret own (pc + 1) (a0 :: a1 :: some .null :: L) st σ) : RJ G X cc nL ret own pc (a0 :: a1 :: a2 :: L) (.null :: st) σ := by
  intro p e s m args below meth c H locs ls C hP hS hl
  refine lv_astore_nN C.1 C.2.1 hd rfl hl hN rfl (fun ls hl2 => ?_)
  exact k p e s m args below meth c H locs ls C hP hS (lvp_st1 (lv := a0 :: a1 :: a2 :: L) (k := 2) (by simp) (fun j hj => by have h9 : j = 1 := (by omega); subst h9; exact hn) hl2)
theorem rj_iinc2 {x d : Int32} {n : Int} {a0 a1 : Option Value} {L : List (Option Value)} (hd : decode cc pc = .ok (.iinc 2 n, 3)) (hN : 2 < nL) (hn : nl a1 = true) (hv : Int32.ofInt n = d) (k : RJ G X cc nL ret own (pc + 3) (a0 :: a1 :: some (.int (x + d)) :: L) st σ) : RJ G X cc nL ret own pc (a0 :: a1 :: some (.int x) :: L) st σ := by
  subst hv
  intro p e s m args below meth c H locs ls C hP hS hl
  obtain ⟨q, hq⟩ := List.getElem?_of_mem (mem_prs.mpr ⟨2, by simp, rfl⟩ : ((2, Value.int x) : Nat × Value) ∈ prs 0 (a0 :: a1 :: some (.int x) :: L))
  refine lv_iinc C.1 C.2.1 hd hl hq rfl hN rfl (fun ls hl2 => ?_)
  exact k p e s m args below meth c H locs ls C hP hS (lvp_st1 (lv := a0 :: a1 :: some (.int x) :: L) (k := 2) (by simp) (fun j hj => by have h9 : j = 1 := (by omega); subst h9; exact hn) hl2)
theorem rj_ist3w {x : Int32} {a0 a1 a2 a3 : Option Value} {L : List (Option Value)} (hd : decode cc pc = .ok (.istore 3, 2)) (hN : 3 < nL) (hn : nl a2 = true) (k : RJ G X cc nL ret own (pc + 2) (a0 :: a1 :: a2 :: some (.int x) :: L) st σ) : RJ G X cc nL ret own pc (a0 :: a1 :: a2 :: a3 :: L) ((.int x) :: st) σ := by
  intro p e s m args below meth c H locs ls C hP hS hl
  refine lv_istore C.1 C.2.1 hd  hl hN rfl (fun ls hl2 => ?_)
  exact k p e s m args below meth c H locs ls C hP hS (lvp_st1 (lv := a0 :: a1 :: a2 :: a3 :: L) (k := 3) (by simp) (fun j hj => by have h9 : j = 2 := (by omega); subst h9; exact hn) hl2)
theorem rj_ist3 {x : Int32} {a0 a1 a2 a3 : Option Value} {L : List (Option Value)} (hd : decode cc pc = .ok (.istore_n 3, 1)) (hN : 3 < nL) (hn : nl a2 = true) (k : RJ G X cc nL ret own (pc + 1) (a0 :: a1 :: a2 :: some (.int x) :: L) st σ) : RJ G X cc nL ret own pc (a0 :: a1 :: a2 :: a3 :: L) ((.int x) :: st) σ := by
  intro p e s m args below meth c H locs ls C hP hS hl
  refine lv_istore_n C.1 C.2.1 hd rfl hl hN rfl (fun ls hl2 => ?_)
  exact k p e s m args below meth c H locs ls C hP hS (lvp_st1 (lv := a0 :: a1 :: a2 :: a3 :: L) (k := 3) (by simp) (fun j hj => by have h9 : j = 2 := (by omega); subst h9; exact hn) hl2)
theorem rj_ast3w {x : Nat} {a0 a1 a2 a3 : Option Value} {L : List (Option Value)} (hd : decode cc pc = .ok (.astore 3, 2)) (hN : 3 < nL) (hn : nl a2 = true) (k : RJ G X cc nL ret own (pc + 2) (a0 :: a1 :: a2 :: some (.ref x) :: L) st σ) : RJ G X cc nL ret own pc (a0 :: a1 :: a2 :: a3 :: L) ((.ref x) :: st) σ := by
  intro p e s m args below meth c H locs ls C hP hS hl
  refine lv_astore C.1 C.2.1 hd  hl hN rfl (fun ls hl2 => ?_)
  exact k p e s m args below meth c H locs ls C hP hS (lvp_st1 (lv := a0 :: a1 :: a2 :: a3 :: L) (k := 3) (by simp) (fun j hj => by have h9 : j = 2 := (by omega); subst h9; exact hn) hl2)
theorem rj_ast3 {x : Nat} {a0 a1 a2 a3 : Option Value} {L : List (Option Value)} (hd : decode cc pc = .ok (.astore_n 3, 1)) (hN : 3 < nL) (hn : nl a2 = true) (k : RJ G X cc nL ret own (pc + 1) (a0 :: a1 :: a2 :: some (.ref x) :: L) st σ) : RJ G X cc nL ret own pc (a0 :: a1 :: a2 :: a3 :: L) ((.ref x) :: st) σ := by
  intro p e s m args below meth c H locs ls C hP hS hl
  refine lv_astore_n C.1 C.2.1 hd rfl hl hN rfl (fun ls hl2 => ?_)
  exact k p e s m args below meth c H locs ls C hP hS (lvp_st1 (lv := a0 :: a1 :: a2 :: a3 :: L) (k := 3) (by simp) (fun j hj => by have h9 : j = 2 := (by omega); subst h9; exact hn) hl2)
theorem rj_nst3w  {a0 a1 a2 a3 : Option Value} {L : List (Option Value)} (hd : decode cc pc = .ok (.astore 3, 2)) (hN : 3 < nL) (hn : nl a2 = true) (k : RJ G X cc nL ret own (pc + 2) (a0 :: a1 :: a2 :: some .null :: L) st σ) : RJ G X cc nL ret own pc (a0 :: a1 :: a2 :: a3 :: L) (.null :: st) σ := by
  intro p e s m args below meth c H locs ls C hP hS hl
  refine lv_astoreN C.1 C.2.1 hd  hl hN rfl (fun ls hl2 => ?_)
  exact k p e s m args below meth c H locs ls C hP hS (lvp_st1 (lv := a0 :: a1 :: a2 :: a3 :: L) (k := 3) (by simp) (fun j hj => by have h9 : j = 2 := (by omega); subst h9; exact hn) hl2)
theorem rj_nst3  {a0 a1 a2 a3 : Option Value} {L : List (Option Value)} (hd : decode cc pc = .ok (.astore_n 3, 1)) (hN : 3 < nL) (hn : nl a2 = true) (k : RJ G X cc nL ret own (pc + 1) (a0 :: a1 :: a2 :: some .null :: L) st σ) : RJ G X cc nL ret own pc (a0 :: a1 :: a2 :: a3 :: L) (.null :: st) σ := by
  intro p e s m args below meth c H locs ls C hP hS hl
  refine lv_astore_nN C.1 C.2.1 hd rfl hl hN rfl (fun ls hl2 => ?_)
  exact k p e s m args below meth c H locs ls C hP hS (lvp_st1 (lv := a0 :: a1 :: a2 :: a3 :: L) (k := 3) (by simp) (fun j hj => by have h9 : j = 2 := (by omega); subst h9; exact hn) hl2)
theorem rj_iinc3 {x d : Int32} {n : Int} {a0 a1 a2 : Option Value} {L : List (Option Value)} (hd : decode cc pc = .ok (.iinc 3 n, 3)) (hN : 3 < nL) (hn : nl a2 = true) (hv : Int32.ofInt n = d) (k : RJ G X cc nL ret own (pc + 3) (a0 :: a1 :: a2 :: some (.int (x + d)) :: L) st σ) : RJ G X cc nL ret own pc (a0 :: a1 :: a2 :: some (.int x) :: L) st σ := by
  subst hv
  intro p e s m args below meth c H locs ls C hP hS hl
  obtain ⟨q, hq⟩ := List.getElem?_of_mem (mem_prs.mpr ⟨3, by simp, rfl⟩ : ((3, Value.int x) : Nat × Value) ∈ prs 0 (a0 :: a1 :: a2 :: some (.int x) :: L))
  refine lv_iinc C.1 C.2.1 hd hl hq rfl hN rfl (fun ls hl2 => ?_)
  exact k p e s m args below meth c H locs ls C hP hS (lvp_st1 (lv := a0 :: a1 :: a2 :: some (.int x) :: L) (k := 3) (by simp) (fun j hj => by have h9 : j = 2 := (by omega); subst h9; exact hn) hl2)
theorem rj_ist4w {x : Int32} {a0 a1 a2 a3 a4 : Option Value} {L : List (Option Value)} (hd : decode cc pc = .ok (.istore 4, 2)) (hN : 4 < nL) (hn : nl a3 = true) (k : RJ G X cc nL ret own (pc + 2) (a0 :: a1 :: a2 :: a3 :: some (.int x) :: L) st σ) : RJ G X cc nL ret own pc (a0 :: a1 :: a2 :: a3 :: a4 :: L) ((.int x) :: st) σ := by
  intro p e s m args below meth c H locs ls C hP hS hl
  refine lv_istore C.1 C.2.1 hd  hl hN rfl (fun ls hl2 => ?_)
  exact k p e s m args below meth c H locs ls C hP hS (lvp_st1 (lv := a0 :: a1 :: a2 :: a3 :: a4 :: L) (k := 4) (by simp) (fun j hj => by have h9 : j = 3 := (by omega); subst h9; exact hn) hl2)
theorem rj_ast4w {x : Nat} {a0 a1 a2 a3 a4 : Option Value} {L : List (Option Value)} (hd : decode cc pc = .ok (.astore 4, 2)) (hN : 4 < nL) (hn : nl a3 = true) (k : RJ G X cc nL ret own (pc + 2) (a0 :: a1 :: a2 :: a3 :: some (.ref x) :: L) st σ) : RJ G X cc nL ret own pc (a0 :: a1 :: a2 :: a3 :: a4 :: L) ((.ref x) :: st) σ := by
  intro p e s m args below meth c H locs ls C hP hS hl
  refine lv_astore C.1 C.2.1 hd  hl hN rfl (fun ls hl2 => ?_)
  exact k p e s m args below meth c H locs ls C hP hS (lvp_st1 (lv := a0 :: a1 :: a2 :: a3 :: a4 :: L) (k := 4) (by simp) (fun j hj => by have h9 : j = 3 := (by omega); subst h9; exact hn) hl2)
theorem rj_nst4w  {a0 a1 a2 a3 a4 : Option Value} {L : List (Option Value)} (hd : decode cc pc = .ok (.astore 4, 2)) (hN : 4 < nL) (hn : nl a3 = true) (k : RJ G X cc nL ret own (pc + 2) (a0 :: a1 :: a2 :: a3 :: some .null :: L) st σ) : RJ G X cc nL ret own pc (a0 :: a1 :: a2 :: a3 :: a4 :: L) (.null :: st) σ := by
  intro p e s m args below meth c H locs ls C hP hS hl
  refine lv_astoreN C.1 C.2.1 hd  hl hN rfl (fun ls hl2 => ?_)
  exact k p e s m args below meth c H locs ls C hP hS (lvp_st1 (lv := a0 :: a1 :: a2 :: a3 :: a4 :: L) (k := 4) (by simp) (fun j hj => by have h9 : j = 3 := (by omega); subst h9; exact hn) hl2)
theorem rj_iinc4 {x d : Int32} {n : Int} {a0 a1 a2 a3 : Option Value} {L : List (Option Value)} (hd : decode cc pc = .ok (.iinc 4 n, 3)) (hN : 4 < nL) (hn : nl a3 = true) (hv : Int32.ofInt n = d) (k : RJ G X cc nL ret own (pc + 3) (a0 :: a1 :: a2 :: a3 :: some (.int (x + d)) :: L) st σ) : RJ G X cc nL ret own pc (a0 :: a1 :: a2 :: a3 :: some (.int x) :: L) st σ := by
  subst hv
  intro p e s m args below meth c H locs ls C hP hS hl
  obtain ⟨q, hq⟩ := List.getElem?_of_mem (mem_prs.mpr ⟨4, by simp, rfl⟩ : ((4, Value.int x) : Nat × Value) ∈ prs 0 (a0 :: a1 :: a2 :: a3 :: some (.int x) :: L))
  refine lv_iinc C.1 C.2.1 hd hl hq rfl hN rfl (fun ls hl2 => ?_)
  exact k p e s m args below meth c H locs ls C hP hS (lvp_st1 (lv := a0 :: a1 :: a2 :: a3 :: some (.int x) :: L) (k := 4) (by simp) (fun j hj => by have h9 : j = 3 := (by omega); subst h9; exact hn) hl2)
theorem rj_ist5w {x : Int32} {a0 a1 a2 a3 a4 a5 : Option Value} {L : List (Option Value)} (hd : decode cc pc = .ok (.istore 5, 2)) (hN : 5 < nL) (hn : nl a4 = true) (k : RJ G X cc nL ret own (pc + 2) (a0 :: a1 :: a2 :: a3 :: a4 :: some (.int x) :: L) st σ) : RJ G X cc nL ret own pc (a0 :: a1 :: a2 :: a3 :: a4 :: a5 :: L) ((.int x) :: st) σ := by
  intro p e s m args below meth c H locs ls C hP hS hl
  refine lv_istore C.1 C.2.1 hd  hl hN rfl (fun ls hl2 => ?_)
  exact k p e s m args below meth c H locs ls C hP hS (lvp_st1 (lv := a0 :: a1 :: a2 :: a3 :: a4 :: a5 :: L) (k := 5) (by simp) (fun j hj => by have h9 : j = 4 := (by omega); subst h9; exact hn) hl2)
theorem rj_ast5w {x : Nat} {a0 a1 a2 a3 a4 a5 : Option Value} {L : List (Option Value)} (hd : decode cc pc = .ok (.astore 5, 2)) (hN : 5 < nL) (hn : nl a4 = true) (k : RJ G X cc nL ret own (pc + 2) (a0 :: a1 :: a2 :: a3 :: a4 :: some (.ref x) :: L) st σ) : RJ G X cc nL ret own pc (a0 :: a1 :: a2 :: a3 :: a4 :: a5 :: L) ((.ref x) :: st) σ := by
  intro p e s m args below meth c H locs ls C hP hS hl
  refine lv_astore C.1 C.2.1 hd  hl hN rfl (fun ls hl2 => ?_)
  exact k p e s m args below meth c H locs ls C hP hS (lvp_st1 (lv := a0 :: a1 :: a2 :: a3 :: a4 :: a5 :: L) (k := 5) (by simp) (fun j hj => by have h9 : j = 4 := (by omega); subst h9; exact hn) hl2)
theorem rj_nst5w  {a0 a1 a2 a3 a4 a5 : Option Value} {L : List (Option Value)} (hd : decode cc pc = .ok (.astore 5, 2)) (hN : 5 < nL) (hn : nl a4 = true) (k : RJ G X cc nL ret own (pc + 2) (a0 :: a1 :: a2 :: a3 :: a4 :: some .null :: L) st σ) : RJ G X cc nL ret own pc (a0 :: a1 :: a2 :: a3 :: a4 :: a5 :: L) (.null :: st) σ := by
  intro p e s m args below meth c H locs ls C hP hS hl
  refine lv_astoreN C.1 C.2.1 hd  hl hN rfl (fun ls hl2 => ?_)
  exact k p e s m args below meth c H locs ls C hP hS (lvp_st1 (lv := a0 :: a1 :: a2 :: a3 :: a4 :: a5 :: L) (k := 5) (by simp) (fun j hj => by have h9 : j = 4 := (by omega); subst h9; exact hn) hl2)
theorem rj_iinc5 {x d : Int32} {n : Int} {a0 a1 a2 a3 a4 : Option Value} {L : List (Option Value)} (hd : decode cc pc = .ok (.iinc 5 n, 3)) (hN : 5 < nL) (hn : nl a4 = true) (hv : Int32.ofInt n = d) (k : RJ G X cc nL ret own (pc + 3) (a0 :: a1 :: a2 :: a3 :: a4 :: some (.int (x + d)) :: L) st σ) : RJ G X cc nL ret own pc (a0 :: a1 :: a2 :: a3 :: a4 :: some (.int x) :: L) st σ := by
  subst hv
  intro p e s m args below meth c H locs ls C hP hS hl
  obtain ⟨q, hq⟩ := List.getElem?_of_mem (mem_prs.mpr ⟨5, by simp, rfl⟩ : ((5, Value.int x) : Nat × Value) ∈ prs 0 (a0 :: a1 :: a2 :: a3 :: a4 :: some (.int x) :: L))
  refine lv_iinc C.1 C.2.1 hd hl hq rfl hN rfl (fun ls hl2 => ?_)
  exact k p e s m args below meth c H locs ls C hP hS (lvp_st1 (lv := a0 :: a1 :: a2 :: a3 :: a4 :: some (.int x) :: L) (k := 5) (by simp) (fun j hj => by have h9 : j = 4 := (by omega); subst h9; exact hn) hl2)
theorem rj_ist6w {x : Int32} {a0 a1 a2 a3 a4 a5 a6 : Option Value} {L : List (Option Value)} (hd : decode cc pc = .ok (.istore 6, 2)) (hN : 6 < nL) (hn : nl a5 = true) (k : RJ G X cc nL ret own (pc + 2) (a0 :: a1 :: a2 :: a3 :: a4 :: a5 :: some (.int x) :: L) st σ) : RJ G X cc nL ret own pc (a0 :: a1 :: a2 :: a3 :: a4 :: a5 :: a6 :: L) ((.int x) :: st) σ := by
  intro p e s m args below meth c H locs ls C hP hS hl
  refine lv_istore C.1 C.2.1 hd  hl hN rfl (fun ls hl2 => ?_)
  exact k p e s m args below meth c H locs ls C hP hS (lvp_st1 (lv := a0 :: a1 :: a2 :: a3 :: a4 :: a5 :: a6 :: L) (k := 6) (by simp) (fun j hj => by have h9 : j = 5 := (by omega); subst h9; exact hn) hl2)
theorem rj_ast6w {x : Nat} {a0 a1 a2 a3 a4 a5 a6 : Option Value} {L : List (Option Value)} (hd : decode cc pc = .ok (.astore 6, 2)) (hN : 6 < nL) (hn : nl a5 = true) (k : RJ G X cc nL ret own (pc + 2) (a0 :: a1 :: a2 :: a3 :: a4 :: a5 :: some (.ref x) :: L) st σ) : RJ G X cc nL ret own pc (a0 :: a1 :: a2 :: a3 :: a4 :: a5 :: a6 :: L) ((.ref x) :: st) σ := by
  intro p e s m args below meth c H locs ls C hP hS hl
  refine lv_astore C.1 C.2.1 hd  hl hN rfl (fun ls hl2 => ?_)
  exact k p e s m args below meth c H locs ls C hP hS (lvp_st1 (lv := a0 :: a1 :: a2 :: a3 :: a4 :: a5 :: a6 :: L) (k := 6) (by simp) (fun j hj => by have h9 : j = 5 := (by omega); subst h9; exact hn) hl2)
theorem rj_nst6w  {a0 a1 a2 a3 a4 a5 a6 : Option Value} {L : List (Option Value)} (hd : decode cc pc = .ok (.astore 6, 2)) (hN : 6 < nL) (hn : nl a5 = true) (k : RJ G X cc nL ret own (pc + 2) (a0 :: a1 :: a2 :: a3 :: a4 :: a5 :: some .null :: L) st σ) : RJ G X cc nL ret own pc (a0 :: a1 :: a2 :: a3 :: a4 :: a5 :: a6 :: L) (.null :: st) σ := by
  intro p e s m args below meth c H locs ls C hP hS hl
  refine lv_astoreN C.1 C.2.1 hd  hl hN rfl (fun ls hl2 => ?_)
  exact k p e s m args below meth c H locs ls C hP hS (lvp_st1 (lv := a0 :: a1 :: a2 :: a3 :: a4 :: a5 :: a6 :: L) (k := 6) (by simp) (fun j hj => by have h9 : j = 5 := (by omega); subst h9; exact hn) hl2)
theorem rj_iinc6 {x d : Int32} {n : Int} {a0 a1 a2 a3 a4 a5 : Option Value} {L : List (Option Value)} (hd : decode cc pc = .ok (.iinc 6 n, 3)) (hN : 6 < nL) (hn : nl a5 = true) (hv : Int32.ofInt n = d) (k : RJ G X cc nL ret own (pc + 3) (a0 :: a1 :: a2 :: a3 :: a4 :: a5 :: some (.int (x + d)) :: L) st σ) : RJ G X cc nL ret own pc (a0 :: a1 :: a2 :: a3 :: a4 :: a5 :: some (.int x) :: L) st σ := by
  subst hv
  intro p e s m args below meth c H locs ls C hP hS hl
  obtain ⟨q, hq⟩ := List.getElem?_of_mem (mem_prs.mpr ⟨6, by simp, rfl⟩ : ((6, Value.int x) : Nat × Value) ∈ prs 0 (a0 :: a1 :: a2 :: a3 :: a4 :: a5 :: some (.int x) :: L))
  refine lv_iinc C.1 C.2.1 hd hl hq rfl hN rfl (fun ls hl2 => ?_)
  exact k p e s m args below meth c H locs ls C hP hS (lvp_st1 (lv := a0 :: a1 :: a2 :: a3 :: a4 :: a5 :: some (.int x) :: L) (k := 6) (by simp) (fun j hj => by have h9 : j = 5 := (by omega); subst h9; exact hn) hl2)
theorem rj_ist7w {x : Int32} {a0 a1 a2 a3 a4 a5 a6 a7 : Option Value} {L : List (Option Value)} (hd : decode cc pc = .ok (.istore 7, 2)) (hN : 7 < nL) (hn : nl a6 = true) (k : RJ G X cc nL ret own (pc + 2) (a0 :: a1 :: a2 :: a3 :: a4 :: a5 :: a6 :: some (.int x) :: L) st σ) : RJ G X cc nL ret own pc (a0 :: a1 :: a2 :: a3 :: a4 :: a5 :: a6 :: a7 :: L) ((.int x) :: st) σ := by
  intro p e s m args below meth c H locs ls C hP hS hl
  refine lv_istore C.1 C.2.1 hd  hl hN rfl (fun ls hl2 => ?_)
  exact k p e s m args below meth c H locs ls C hP hS (lvp_st1 (lv := a0 :: a1 :: a2 :: a3 :: a4 :: a5 :: a6 :: a7 :: L) (k := 7) (by simp) (fun j hj => by have h9 : j = 6 := (by omega); subst h9; exact hn) hl2)
theorem rj_ast7w {x : Nat} {a0 a1 a2 a3 a4 a5 a6 a7 : Option Value} {L : List (Option Value)} (hd : decode cc pc = .ok (.astore 7, 2)) (hN : 7 < nL) (hn : nl a6 = true) (k : RJ G X cc nL ret own (pc + 2) (a0 :: a1 :: a2 :: a3 :: a4 :: a5 :: a6 :: some (.ref x) :: L) st σ) : RJ G X cc nL ret own pc (a0 :: a1 :: a2 :: a3 :: a4 :: a5 :: a6 :: a7 :: L) ((.ref x) :: st) σ := by
  intro p e s m args below meth c H locs ls C hP hS hl
  refine lv_astore C.1 C.2.1 hd  hl hN rfl (fun ls hl2 => ?_)
  exact k p e s m args below meth c H locs ls C hP hS (lvp_st1 (lv := a0 :: a1 :: a2 :: a3 :: a4 :: a5 :: a6 :: a7 :: L) (k := 7) (by simp) (fun j hj => by have h9 : j = 6 := (by omega); subst h9; exact hn) hl2)
theorem rj_nst7w  {a0 a1 a2 a3 a4 a5 a6 a7 : Option Value} {L : List (Option Value)} (hd : decode cc pc = .ok (.astore 7, 2)) (hN : 7 < nL) (hn : nl a6 = true) (k : RJ G X cc nL ret own (pc + 2) (a0 :: a1 :: a2 :: a3 :: a4 :: a5 :: a6 :: some .null :: L) st σ) : RJ G X cc nL ret own pc (a0 :: a1 :: a2 :: a3 :: a4 :: a5 :: a6 :: a7 :: L) (.null :: st) σ := by
  intro p e s m args below meth c H locs ls C hP hS hl
  refine lv_astoreN C.1 C.2.1 hd  hl hN rfl (fun ls hl2 => ?_)
  exact k p e s m args below meth c H locs ls C hP hS (lvp_st1 (lv := a0 :: a1 :: a2 :: a3 :: a4 :: a5 :: a6 :: a7 :: L) (k := 7) (by simp) (fun j hj => by have h9 : j = 6 := (by omega); subst h9; exact hn) hl2)
theorem rj_iinc7 {x d : Int32} {n : Int} {a0 a1 a2 a3 a4 a5 a6 : Option Value} {L : List (Option Value)} (hd : decode cc pc = .ok (.iinc 7 n, 3)) (hN : 7 < nL) (hn : nl a6 = true) (hv : Int32.ofInt n = d) (k : RJ G X cc nL ret own (pc + 3) (a0 :: a1 :: a2 :: a3 :: a4 :: a5 :: a6 :: some (.int (x + d)) :: L) st σ) : RJ G X cc nL ret own pc (a0 :: a1 :: a2 :: a3 :: a4 :: a5 :: a6 :: some (.int x) :: L) st σ := by
  subst hv
  intro p e s m args below meth c H locs ls C hP hS hl
  obtain ⟨q, hq⟩ := List.getElem?_of_mem (mem_prs.mpr ⟨7, by simp, rfl⟩ : ((7, Value.int x) : Nat × Value) ∈ prs 0 (a0 :: a1 :: a2 :: a3 :: a4 :: a5 :: a6 :: some (.int x) :: L))
  refine lv_iinc C.1 C.2.1 hd hl hq rfl hN rfl (fun ls hl2 => ?_)
  exact k p e s m args below meth c H locs ls C hP hS (lvp_st1 (lv := a0 :: a1 :: a2 :: a3 :: a4 :: a5 :: a6 :: some (.int x) :: L) (k := 7) (by simp) (fun j hj => by have h9 : j = 6 := (by omega); subst h9; exact hn) hl2)
theorem rj_ist8w {x : Int32} {a0 a1 a2 a3 a4 a5 a6 a7 a8 : Option Value} {L : List (Option Value)} (hd : decode cc pc = .ok (.istore 8, 2)) (hN : 8 < nL) (hn : nl a7 = true) (k : RJ G X cc nL ret own (pc + 2) (a0 :: a1 :: a2 :: a3 :: a4 :: a5 :: a6 :: a7 :: some (.int x) :: L) st σ) : RJ G X cc nL ret own pc (a0 :: a1 :: a2 :: a3 :: a4 :: a5 :: a6 :: a7 :: a8 :: L) ((.int x) :: st) σ := by
  intro p e s m args below meth c H locs ls C hP hS hl
  refine lv_istore C.1 C.2.1 hd  hl hN rfl (fun ls hl2 => ?_)
  exact k p e s m args below meth c H locs ls C hP hS (lvp_st1 (lv := a0 :: a1 :: a2 :: a3 :: a4 :: a5 :: a6 :: a7 :: a8 :: L) (k := 8) (by simp) (fun j hj => by have h9 : j = 7 := (by omega); subst h9; exact hn) hl2)
theorem rj_ast8w {x : Nat} {a0 a1 a2 a3 a4 a5 a6 a7 a8 : Option Value} {L : List (Option Value)} (hd : decode cc pc = .ok (.astore 8, 2)) (hN : 8 < nL) (hn : nl a7 = true) (k : RJ G X cc nL ret own (pc + 2) (a0 :: a1 :: a2 :: a3 :: a4 :: a5 :: a6 :: a7 :: some (.ref x) :: L) st σ) : RJ G X cc nL ret own pc (a0 :: a1 :: a2 :: a3 :: a4 :: a5 :: a6 :: a7 :: a8 :: L) ((.ref x) :: st) σ := by
  intro p e s m args below meth c H locs ls C hP hS hl
  refine lv_astore C.1 C.2.1 hd  hl hN rfl (fun ls hl2 => ?_)
  exact k p e s m args below meth c H locs ls C hP hS (lvp_st1 (lv := a0 :: a1 :: a2 :: a3 :: a4 :: a5 :: a6 :: a7 :: a8 :: L) (k := 8) (by simp) (fun j hj => by have h9 : j = 7 := (by omega); subst h9; exact hn) hl2)
theorem rj_nst8w  {a0 a1 a2 a3 a4 a5 a6 a7 a8 : Option Value} {L : List (Option Value)} (hd : decode cc pc = .ok (.astore 8, 2)) (hN : 8 < nL) (hn : nl a7 = true) (k : RJ G X cc nL ret own (pc + 2) (a0 :: a1 :: a2 :: a3 :: a4 :: a5 :: a6 :: a7 :: some .null :: L) st σ) : RJ G X cc nL ret own pc (a0 :: a1 :: a2 :: a3 :: a4 :: a5 :: a6 :: a7 :: a8 :: L) (.null :: st) σ := by
  intro p e s m args below meth c H locs ls C hP hS hl
  refine lv_astoreN C.1 C.2.1 hd  hl hN rfl (fun ls hl2 => ?_)
  exact k p e s m args below meth c H locs ls C hP hS (lvp_st1 (lv := a0 :: a1 :: a2 :: a3 :: a4 :: a5 :: a6 :: a7 :: a8 :: L) (k := 8) (by simp) (fun j hj => by have h9 : j = 7 := (by omega); subst h9; exact hn) hl2)
theorem rj_iinc8 {x d : Int32} {n : Int} {a0 a1 a2 a3 a4 a5 a6 a7 : Option Value} {L : List (Option Value)} (hd : decode cc pc = .ok (.iinc 8 n, 3)) (hN : 8 < nL) (hn : nl a7 = true) (hv : Int32.ofInt n = d) (k : RJ G X cc nL ret own (pc + 3) (a0 :: a1 :: a2 :: a3 :: a4 :: a5 :: a6 :: a7 :: some (.int (x + d)) :: L) st σ) : RJ G X cc nL ret own pc (a0 :: a1 :: a2 :: a3 :: a4 :: a5 :: a6 :: a7 :: some (.int x) :: L) st σ := by
  subst hv
  intro p e s m args below meth c H locs ls C hP hS hl
  obtain ⟨q, hq⟩ := List.getElem?_of_mem (mem_prs.mpr ⟨8, by simp, rfl⟩ : ((8, Value.int x) : Nat × Value) ∈ prs 0 (a0 :: a1 :: a2 :: a3 :: a4 :: a5 :: a6 :: a7 :: some (.int x) :: L))
  refine lv_iinc C.1 C.2.1 hd hl hq rfl hN rfl (fun ls hl2 => ?_)
  exact k p e s m args below meth c H locs ls C hP hS (lvp_st1 (lv := a0 :: a1 :: a2 :: a3 :: a4 :: a5 :: a6 :: a7 :: some (.int x) :: L) (k := 8) (by simp) (fun j hj => by have h9 : j = 7 := (by omega); subst h9; exact hn) hl2)
theorem rj_lst2w {x : Int64} {a0 a1 a2 a3 : Option Value} {L : List (Option Value)} (hd : decode cc pc = .ok (.lstore 2, 2)) (hN : 2 + 1 < nL) (hn : nl a1 = true) (k : RJ G X cc nL ret own (pc + 2) (a0 :: a1 :: some (.long x) :: none :: L) st σ) : RJ G X cc nL ret own pc (a0 :: a1 :: a2 :: a3 :: L) (.long x :: st) σ := by
  intro p e s m args below meth c H locs ls C hP hS hl
  refine lv_lstore C.1 C.2.1 hd  hl hN rfl (fun ls hl2 => ?_)
  exact k p e s m args below meth c H locs ls C hP hS (lvp_st2 (lv := a0 :: a1 :: a2 :: a3 :: L) (k := 2) (by simp) (fun j hj => by have h9 : j = 1 := (by omega); subst h9; exact hn) hl2)
theorem rj_lst2 {x : Int64} {a0 a1 a2 a3 : Option Value} {L : List (Option Value)} (hd : decode cc pc = .ok (.lstore_n 2, 1)) (hN : 2 + 1 < nL) (hn : nl a1 = true) (k : RJ G X cc nL ret own (pc + 1) (a0 :: a1 :: some (.long x) :: none :: L) st σ) : RJ G X cc nL ret own pc (a0 :: a1 :: a2 :: a3 :: L) (.long x :: st) σ := by
  intro p e s m args below meth c H locs ls C hP hS hl
  refine lv_lstore_n C.1 C.2.1 hd rfl hl hN rfl (fun ls hl2 => ?_)
  exact k p e s m args below meth c H locs ls C hP hS (lvp_st2 (lv := a0 :: a1 :: a2 :: a3 :: L) (k := 2) (by simp) (fun j hj => by have h9 : j = 1 := (by omega); subst h9; exact hn) hl2)
theorem rj_lst3w {x : Int64} {a0 a1 a2 a3 a4 : Option Value} {L : List (Option Value)} (hd : decode cc pc = .ok (.lstore 3, 2)) (hN : 3 + 1 < nL) (hn : nl a2 = true) (k : RJ G X cc nL ret own (pc + 2) (a0 :: a1 :: a2 :: some (.long x) :: none :: L) st σ) : RJ G X cc nL ret own pc (a0 :: a1 :: a2 :: a3 :: a4 :: L) (.long x :: st) σ := by
  intro p e s m args below meth c H locs ls C hP hS hl
  refine lv_lstore C.1 C.2.1 hd  hl hN rfl (fun ls hl2 => ?_)
  exact k p e s m args below meth c H locs ls C hP hS (lvp_st2 (lv := a0 :: a1 :: a2 :: a3 :: a4 :: L) (k := 3) (by simp) (fun j hj => by have h9 : j = 2 := (by omega); subst h9; exact hn) hl2)
theorem rj_lst3 {x : Int64} {a0 a1 a2 a3 a4 : Option Value} {L : List (Option Value)} (hd : decode cc pc = .ok (.lstore_n 3, 1)) (hN : 3 + 1 < nL) (hn : nl a2 = true) (k : RJ G X cc nL ret own (pc + 1) (a0 :: a1 :: a2 :: some (.long x) :: none :: L) st σ) : RJ G X cc nL ret own pc (a0 :: a1 :: a2 :: a3 :: a4 :: L) (.long x :: st) σ := by
  intro p e s m args below meth c H locs ls C hP hS hl
  refine lv_lstore_n C.1 C.2.1 hd rfl hl hN rfl (fun ls hl2 => ?_)
  exact k p e s m args below meth c H locs ls C hP hS (lvp_st2 (lv := a0 :: a1 :: a2 :: a3 :: a4 :: L) (k := 3) (by simp) (fun j hj => by have h9 : j = 2 := (by omega); subst h9; exact hn) hl2)
theorem rj_lst4w {x : Int64} {a0 a1 a2 a3 a4 a5 : Option Value} {L : List (Option Value)} (hd : decode cc pc = .ok (.lstore 4, 2)) (hN : 4 + 1 < nL) (hn : nl a3 = true) (k : RJ G X cc nL ret own (pc + 2) (a0 :: a1 :: a2 :: a3 :: some (.long x) :: none :: L) st σ) : RJ G X cc nL ret own pc (a0 :: a1 :: a2 :: a3 :: a4 :: a5 :: L) (.long x :: st) σ := by
  intro p e s m args below meth c H locs ls C hP hS hl
  refine lv_lstore C.1 C.2.1 hd  hl hN rfl (fun ls hl2 => ?_)
  exact k p e s m args below meth c H locs ls C hP hS (lvp_st2 (lv := a0 :: a1 :: a2 :: a3 :: a4 :: a5 :: L) (k := 4) (by simp) (fun j hj => by have h9 : j = 3 := (by omega); subst h9; exact hn) hl2)
theorem rj_lst5w {x : Int64} {a0 a1 a2 a3 a4 a5 a6 : Option Value} {L : List (Option Value)} (hd : decode cc pc = .ok (.lstore 5, 2)) (hN : 5 + 1 < nL) (hn : nl a4 = true) (k : RJ G X cc nL ret own (pc + 2) (a0 :: a1 :: a2 :: a3 :: a4 :: some (.long x) :: none :: L) st σ) : RJ G X cc nL ret own pc (a0 :: a1 :: a2 :: a3 :: a4 :: a5 :: a6 :: L) (.long x :: st) σ := by
  intro p e s m args below meth c H locs ls C hP hS hl
  refine lv_lstore C.1 C.2.1 hd  hl hN rfl (fun ls hl2 => ?_)
  exact k p e s m args below meth c H locs ls C hP hS (lvp_st2 (lv := a0 :: a1 :: a2 :: a3 :: a4 :: a5 :: a6 :: L) (k := 5) (by simp) (fun j hj => by have h9 : j = 4 := (by omega); subst h9; exact hn) hl2)
theorem rj_lst6w {x : Int64} {a0 a1 a2 a3 a4 a5 a6 a7 : Option Value} {L : List (Option Value)} (hd : decode cc pc = .ok (.lstore 6, 2)) (hN : 6 + 1 < nL) (hn : nl a5 = true) (k : RJ G X cc nL ret own (pc + 2) (a0 :: a1 :: a2 :: a3 :: a4 :: a5 :: some (.long x) :: none :: L) st σ) : RJ G X cc nL ret own pc (a0 :: a1 :: a2 :: a3 :: a4 :: a5 :: a6 :: a7 :: L) (.long x :: st) σ := by
  intro p e s m args below meth c H locs ls C hP hS hl
  refine lv_lstore C.1 C.2.1 hd  hl hN rfl (fun ls hl2 => ?_)
  exact k p e s m args below meth c H locs ls C hP hS (lvp_st2 (lv := a0 :: a1 :: a2 :: a3 :: a4 :: a5 :: a6 :: a7 :: L) (k := 6) (by simp) (fun j hj => by have h9 : j = 5 := (by omega); subst h9; exact hn) hl2)
/-- fewer locals are remembered -/
def lle : List (Option Value) → List (Option Value) → Prop
  | [], _ => True
  | none :: a, _ :: b => lle a b
  | some v :: a, y :: b => y = some v ∧ lle a b
  | none :: a, [] => lle a []
  | some _ :: _, [] => False
theorem lle_get : ∀ {a b : List (Option Value)}, lle a b → ∀ (j : Nat) (v : Value), a[j]? = some (some v) → b[j]? = some (some v)
  | [], _, _, j, v, h => by simp at h
  | none :: a, y :: b, hl, j, v, h => by
    cases j with
    | zero => simp at h
    | succ j => simp only [List.getElem?_cons_succ] at h ⊢; exact lle_get (a := a) (b := b) hl j v h
  | some u :: a, y :: b, hl, j, v, h => by
    cases j with
    | zero => simp only [List.getElem?_cons_zero] at h ⊢; rw [hl.1]; exact h
    | succ j => simp only [List.getElem?_cons_succ] at h ⊢; exact lle_get (a := a) (b := b) hl.2 j v h
  | none :: a, [], hl, j, v, h => by
    cases j with
    | zero => simp at h
    | succ j =>
      simp only [List.getElem?_cons_succ] at h
      have := lle_get (a := a) (b := []) hl j v h
      simp at this
  | some _ :: _, [], hl, _, _, _ => hl.elim
theorem rj_lv {lv' : List (Option Value)} (h : lle lv' lv) (k : RJ G X cc nL ret own pc lv' st σ) : RJ G X cc nL ret own pc lv st σ := by
  intro p e s m args below meth c H locs ls C hP hS hl
  refine k p e s m args below meth c H locs ls C hP hS (lvh_sub hl fun q hq => ?_)
  obtain ⟨j, h1, h2⟩ := mem_prs.mp hq
  exact mem_prs.mpr ⟨j, h1, lle_get h j _ h2⟩
theorem rj_eq {σ' : ST} {st' : List Value} (hs : σ = σ') (ht : st = st') (k : RJ G X cc nL ret own pc lv st' σ') : RJ G X cc nL ret own pc lv st σ := by rw [hs, ht]; exact k
theorem rj_top {x x' : Int32} (h : x = x') (k : RJ G X cc nL ret own pc lv (.int x' :: st) σ) : RJ G X cc nL ret own pc lv (.int x :: st) σ := by rw [h]; exact k
theorem rj_topi {x : Int32} (k : ∀ y : Int32, y = x → RJ G X cc nL ret own pc lv (.int y :: st) σ) : RJ G X cc nL ret own pc lv (.int x :: st) σ := k x rfl
/-! fields -/
def fgA (own : String) (idx ci j : Nat) : Prop := ∃ (C : String) (T : u_T) (N : Nat), vwCl[ci]? = some (C, T, N) ∧ (∀ w ∈ u_ws C T N, w ∈ TW) ∧ j < N ∧ Cond.fieldLink own idx (T j).1 (T j).2.1 (T j).2.2.1 ∈ TW
def fgN (own : String) (idx ci j : Nat) : Prop := ∃ (C : String) (T : u_T) (N : Nat) (host : String), vwCl[ci]? = some (C, T, N) ∧ (∀ w ∈ u_ws C T N, w ∈ TW) ∧ j < N ∧ Cond.fieldLinkNest own idx (T j).1 (T j).2.1 (T j).2.2.1 host ∈ NW
theorem rj_getA {idx ci j k : Nat} {t : Nat × Nat} (hb : fgA own idx ci j) (hc : ci < 13) (ht : (ftab ci)[j]? = some t) (hk : kd k = ci) (hd : decode cc pc = .ok (.getfield idx, 3))
    (kk : RJ G X cc nL ret own (pc + 3) lv (fv X σ k j t :: st) σ) : RJ G X cc nL ret own pc lv (.ref (ad X k) :: st) σ := by
  intro p e s m args below meth c H locs ls C hP hS hl
  obtain ⟨Cn, T, N, h1, h2, h3, h4⟩ := hb
  have hk2 : kd k < 99 := by omega
  exact va_get C.1 C.2.1 C.2.2.2.2.2.1 h2 C.2.2.2.2.1 C.2.2.2.2.2.2.2.1.1 hP (ix k) (by rw [wl_get hk2, lay_obj hk hc]) h1 j h3 (C.2.2.2.2.2.1 _ h4) (fun _ h => h) (v := fv X σ k j t) (by rw [flsG_get, ht]; simp) hd (kk p e s m args below meth c H locs ls C hP hS hl)
theorem rj_getN {idx ci j k : Nat} {t : Nat × Nat} (hb : fgN own idx ci j) (hc : ci < 13) (ht : (ftab ci)[j]? = some t) (hk : kd k = ci) (hd : decode cc pc = .ok (.getfield idx, 3))
    (kk : RJ G X cc nL ret own (pc + 3) lv (fv X σ k j t :: st) σ) : RJ G X cc nL ret own pc lv (.ref (ad X k) :: st) σ := by
  intro p e s m args below meth c H locs ls C hP hS hl
  obtain ⟨Cn, T, N, host, h1, h2, h3, h4⟩ := hb
  have hk2 : kd k < 99 := by omega
  exact va_getN C.1 C.2.1 C.2.2.2.2.2.1 h2 C.2.2.2.2.1 C.2.2.2.2.2.2.2.1.1 hP (ix k) (by rw [wl_get hk2, lay_obj hk hc]) h1 j h3 (va_Nw.use rfl (C.2.2.2.2.2.2.2.1.2.1 _ h4)) (fun _ h => h) (v := fv X σ k j t) (by rw [flsG_get, ht]; simp) hd (kk p e s m args below meth c H locs ls C hP hS hl)
def fpT (ci : Nat) (tyf : Nat → FieldType) : Prop := ∃ (C : String) (T : u_T) (N : Nat), vwCl[ci]? = some (C, T, N) ∧ (∀ k, k < N → parseFieldDescriptor (T k).2.2.1 = some (tyf k)) ∧ (∀ a, a < N → ∀ b, b < N → a ≠ b → (T a).2.1 ≠ (T b).2.1)
theorem rj_putA {idx ci j k : Nat} {v : Value} {τ : ST} {tyf : Nat → FieldType} (hb : fgA own idx ci j) (hT : fpT ci tyf) (hc : ci < 13) (hf : ((vwCl[ci]?).map fun q => (q.2.1 j).2.2.2) = some false) (hn : narrow (tyf j) v = v) (hfit : fits (tyf j) v = true) (hj : j < (ftab ci).length) (hk : kd k = ci)
    (hu : va_up (lay X σ) k (.inr (ci, (flsG X σ k 0 (ftab ci)).set j v)) = lay X τ) (hd : decode cc pc = .ok (.putfield idx, 3))
    (kk : RJ G X cc nL ret own (pc + 3) lv st τ) : RJ G X cc nL ret own pc lv (v :: .ref (ad X k) :: st) σ := by
  intro p e s m args below meth c H locs ls C hP hS hl
  obtain ⟨Cn, T, N, h1, h2, h3, h4⟩ := hb
  obtain ⟨Cn', T', N', h1', h5, h6⟩ := hT
  cases h1.symm.trans h1'
  have hk2 : kd k < 99 := by omega
  have hfin : (T j).2.2.2 = false := by rw [h1] at hf; simpa using hf
  have hlen : j < (flsG X σ k 0 (ftab ci)).length := by
    rcases Nat.lt_or_ge j (flsG X σ k 0 (ftab ci)).length with g | g
    · exact g
    · have := List.getElem?_eq_none g
      rw [flsG_get, List.getElem?_eq_getElem hj] at this
      simp at this
  refine va_put C.1 C.2.1 C.2.2.2.2.2.1 h2 tyf h5 h6 C.2.2.2.2.1 C.2.2.2.2.2.2.2.1.1 hP (wl_D X σ) hS (ix k) (by rw [wl_get hk2, lay_obj hk hc]) h1 j h3 (C.2.2.2.2.2.1 _ h4) (fun _ h => h) hfin (h5 j h3) hn hfit hlen hd (fun H1 locs1 hP1 _ hS1 => ?_)
  rw [wl_set hk2 hu] at hP1
  exact kk p e s m args below meth c H1 locs1 ls C hP1 hS1 hl
theorem rj_putN {idx ci j k : Nat} {v : Value} {τ : ST} {tyf : Nat → FieldType} (hb : fgN own idx ci j) (hT : fpT ci tyf) (hc : ci < 13) (hf : ((vwCl[ci]?).map fun q => (q.2.1 j).2.2.2) = some false) (hn : narrow (tyf j) v = v) (hfit : fits (tyf j) v = true) (hj : j < (ftab ci).length) (hk : kd k = ci)
    (hu : va_up (lay X σ) k (.inr (ci, (flsG X σ k 0 (ftab ci)).set j v)) = lay X τ) (hd : decode cc pc = .ok (.putfield idx, 3))
    (kk : RJ G X cc nL ret own (pc + 3) lv st τ) : RJ G X cc nL ret own pc lv (v :: .ref (ad X k) :: st) σ := by
  intro p e s m args below meth c H locs ls C hP hS hl
  obtain ⟨Cn, T, N, host, h1, h2, h3, h4⟩ := hb
  obtain ⟨Cn', T', N', h1', h5, h6⟩ := hT
  cases h1.symm.trans h1'
  have hk2 : kd k < 99 := by omega
  have hfin : (T j).2.2.2 = false := by rw [h1] at hf; simpa using hf
  have hlen : j < (flsG X σ k 0 (ftab ci)).length := by
    rcases Nat.lt_or_ge j (flsG X σ k 0 (ftab ci)).length with g | g
    · exact g
    · have := List.getElem?_eq_none g
      rw [flsG_get, List.getElem?_eq_getElem hj] at this
      simp at this
  refine va_putN C.1 C.2.1 C.2.2.2.2.2.1 h2 tyf h5 h6 C.2.2.2.2.1 C.2.2.2.2.2.2.2.1.1 hP (wl_D X σ) hS (ix k) (by rw [wl_get hk2, lay_obj hk hc]) h1 j h3 (va_Nw.use rfl (C.2.2.2.2.2.2.2.1.2.1 _ h4)) (fun _ h => h) hfin (h5 j h3) hn hfit hlen hd (fun H1 locs1 hP1 _ hS1 => ?_)
  rw [wl_set hk2 hu] at hP1
  exact kk p e s m args below meth c H1 locs1 ls C hP1 hS1 hl
/-! arrays -/
theorem rj_iald {k : Nat} {i : Int32} (hk : kd k = 13) (hin : vp_in i (ln k)) (hd : decode cc pc = .ok (.iaload, 1)) (kk : RJ G X cc nL ret own (pc + 1) lv (.int (σ.1 k i.toNatClampNeg) :: st) σ) : RJ G X cc nL ret own pc lv (.int i :: .ref (ad X k) :: st) σ := by
  intro p e s m args below meth c H locs ls C hP hS hl
  have hk2 : kd k < 99 := by omega
  exact va_iald C.1 C.2.1 C.2.2.2.2.2.2.2.1.1 hP (ix k) 0 (by rw [wl_get hk2, lay_int hk]) rfl hin hd (kk p e s m args below meth c H locs ls C hP hS hl)
theorem rj_lald {k : Nat} {i : Int32} (hk : kd k = 14) (hin : vp_in i (ln k)) (hd : decode cc pc = .ok (.laload, 1)) (kk : RJ G X cc nL ret own (pc + 1) lv (.long (σ.2 k i.toNatClampNeg) :: st) σ) : RJ G X cc nL ret own pc lv (.int i :: .ref (ad X k) :: st) σ := by
  intro p e s m args below meth c H locs ls C hP hS hl
  have hk2 : kd k < 99 := by omega
  exact va_lald C.1 C.2.1 C.2.2.2.2.2.2.2.1.1 hP (ix k) 1 (by rw [wl_get hk2, lay_long hk]) rfl hin hd (kk p e s m args below meth c H locs ls C hP hS hl)
theorem rj_iast {k : Nat} {i x : Int32} (hk : kd k = 13) (hin : vp_in i (ln k)) (hd : decode cc pc = .ok (.iastore, 1)) (kk : RJ G X cc nL ret own (pc + 1) lv st (ui σ k i.toNatClampNeg x)) : RJ G X cc nL ret own pc lv (.int x :: .int i :: .ref (ad X k) :: st) σ := by
  intro p e s m args below meth c H locs ls C hP hS hl
  have hk2 : kd k < 99 := by omega
  refine va_iast C.1 C.2.1 C.2.2.2.2.2.2.2.1.1 hP (wl_D X σ) hS (ix k) 0 (by rw [wl_get hk2, lay_int hk]) rfl hin hd (fun H1 locs1 hP1 _ hS1 => ?_)
  rw [wl_set hk2 (lay_ua _ hk)] at hP1
  exact kk p e s m args below meth c H1 locs1 ls C hP1 hS1 hl
theorem rj_last {k : Nat} {i : Int32} {x : Int64} (hk : kd k = 14) (hin : vp_in i (ln k)) (hd : decode cc pc = .ok (.lastore, 1)) (kk : RJ G X cc nL ret own (pc + 1) lv st (ul σ k i.toNatClampNeg x)) : RJ G X cc nL ret own pc lv (.long x :: .int i :: .ref (ad X k) :: st) σ := by
  intro p e s m args below meth c H locs ls C hP hS hl
  have hk2 : kd k < 99 := by omega
  refine va_last C.1 C.2.1 C.2.2.2.2.2.2.2.1.1 hP (wl_D X σ) hS (ix k) 1 (by rw [wl_get hk2, lay_long hk]) rfl hin hd (fun H1 locs1 hP1 _ hS1 => ?_)
  rw [wl_set hk2 (lay_uaL _ hk)] at hP1
  exact kk p e s m args below meth c H1 locs1 ls C hP1 hS1 hl
theorem rj_alen {k : Nat} (hk : kd k = 13) (hd : decode cc pc = .ok (.arraylength, 1)) (kk : RJ G X cc nL ret own (pc + 1) lv (.int (nI (ln k)) :: st) σ) : RJ G X cc nL ret own pc lv (.ref (ad X k) :: st) σ := by
  intro p e s m args below meth c H locs ls C hP hS hl
  have hk2 : kd k < 99 := by omega
  have ha : (wl X σ)[ix k]? = some (ad X k, .inl (X.2.1 0, ln k, .inl (σ.1 k))) := by rw [wl_get hk2, lay_int hk]
  exact va_alen C.1 C.2.1 C.2.2.2.2.2.2.2.1.1 hP (ix k) 0 ha rfl rfl hd (kk p e s m args below meth c H locs ls C hP hS hl)
theorem rj_alenL {k : Nat} (hk : kd k = 14) (hd : decode cc pc = .ok (.arraylength, 1)) (kk : RJ G X cc nL ret own (pc + 1) lv (.int (nI (ln k)) :: st) σ) : RJ G X cc nL ret own pc lv (.ref (ad X k) :: st) σ := by
  intro p e s m args below meth c H locs ls C hP hS hl
  have hk2 : kd k < 99 := by omega
  have ha : (wl X σ)[ix k]? = some (ad X k, .inl (X.2.1 1, ln k, .inr (.inl (σ.2 k)))) := by rw [wl_get hk2, lay_long hk]
  exact va_alen C.1 C.2.1 C.2.2.2.2.2.2.2.1.1 hP (ix k) 1 ha rfl rfl hd (kk p e s m args below meth c H locs ls C hP hS hl)
theorem rj_alenS {k : Nat} (hk : kd k = 15) (hd : decode cc pc = .ok (.arraylength, 1)) (kk : RJ G X cc nL ret own (pc + 1) lv (.int 4 :: st) σ) : RJ G X cc nL ret own pc lv (.ref (ad X k) :: st) σ := by
  intro p e s m args below meth c H locs ls C hP hS hl
  have hk2 : kd k < 99 := by omega
  exact va_alen C.1 C.2.1 C.2.2.2.2.2.2.2.1.1 hP (ix k) 2 (by rw [wl_get hk2, lay_sh hk]) rfl rfl hd (kk p e s m args below meth c H locs ls C hP hS hl)
theorem rj_alenT {k : Nat} (hk : kd k = 16) (hd : decode cc pc = .ok (.arraylength, 1)) (kk : RJ G X cc nL ret own (pc + 1) lv (.int 8 :: st) σ) : RJ G X cc nL ret own pc lv (.ref (ad X k) :: st) σ := by
  intro p e s m args below meth c H locs ls C hP hS hl
  have hk2 : kd k < 99 := by omega
  exact va_alen C.1 C.2.1 C.2.2.2.2.2.2.2.1.1 hP (ix k) 3 (by rw [wl_get hk2, lay_ti hk]) rfl rfl hd (kk p e s m args below meth c H locs ls C hP hS hl)
theorem rj_aldS {k : Nat} {i : Int32} (hk : kd k = 15) (hin : vp_in i 4) (hd : decode cc pc = .ok (.aaload, 1)) (kk : RJ G X cc nL ret own (pc + 1) lv (.ref (ad X (104 + 2 * i.toNatClampNeg)) :: st) σ) : RJ G X cc nL ret own pc lv (.int i :: .ref (ad X k) :: st) σ := by
  intro p e s m args below meth c H locs ls C hP hS hl
  have hk2 : kd k < 99 := by omega
  have ha : (wl X σ)[ix k]? = some (ad X k, .inl (X.2.1 2, 4, .inr (.inr (.inr (.inr (fun j => some (ad X (104 + 2 * j)))))))) := by rw [wl_get hk2, lay_sh hk]
  exact va_aldq C.1 C.2.1 C.2.2.2.2.2.2.2.1.1 hP (ix k) 2 ha rfl hin hd (kk p e s m args below meth c H locs ls C hP hS hl)
theorem rj_aldT {k : Nat} {i : Int32} (hk : kd k = 16) (hin : vp_in i 8) (hd : decode cc pc = .ok (.aaload, 1)) (kk : RJ G X cc nL ret own (pc + 1) lv (.ref (ad X (k + 1 + 3 * i.toNatClampNeg)) :: st) σ) : RJ G X cc nL ret own pc lv (.int i :: .ref (ad X k) :: st) σ := by
  intro p e s m args below meth c H locs ls C hP hS hl
  have hk2 : kd k < 99 := by omega
  have ha : (wl X σ)[ix k]? = some (ad X k, .inl (X.2.1 3, 8, .inr (.inr (.inr (.inr (fun j => some (ad X (k + 1 + 3 * j)))))))) := by rw [wl_get hk2, lay_ti hk]
  exact va_aldq C.1 C.2.1 C.2.2.2.2.2.2.2.1.1 hP (ix k) 3 ha rfl hin hd (kk p e s m args below meth c H locs ls C hP hS hl)
/-! constants, statics -/
theorem rj_ldc {idx : Nat} {v : Int32} (hw : Cond.constant own idx v ∈ TW) (hd : decode cc pc = .ok (.ldc idx, 2)) (k : RJ G X cc nL ret own (pc + 2) lv (.int v :: st) σ) : RJ G X cc nL ret own pc lv st σ := by
  intro p e s m args below meth c H locs ls C hP hS hl
  exact lv_ldc C.1 C.2.1 C.2.2.2.2.1 (C.2.2.2.2.2.1 _ hw) hd (k p e s m args below meth c H locs ls C hP hS hl)
theorem rj_ldcw {idx : Nat} {v : Int32} (hw : Cond.constant own idx v ∈ TW) (hd : decode cc pc = .ok (.ldc_w idx, 3)) (k : RJ G X cc nL ret own (pc + 3) lv (.int v :: st) σ) : RJ G X cc nL ret own pc lv st σ := by
  intro p e s m args below meth c H locs ls C hP hS hl
  exact lv_ldcw C.1 C.2.1 C.2.2.2.2.1 (C.2.2.2.2.2.1 _ hw) hd (k p e s m args below meth c H locs ls C hP hS hl)
theorem rj_ldc2 {idx : Nat} {v : Int64} (hw : Cond.constantLong own idx v ∈ TW) (hd : decode cc pc = .ok (.ldc2_w idx, 3)) (k : RJ G X cc nL ret own (pc + 3) lv (.long v :: st) σ) : RJ G X cc nL ret own pc lv st σ := by
  intro p e s m args below meth c H locs ls C hP hS hl
  exact lv_ldc2 C.1 C.2.1 C.2.2.2.2.1 (C.2.2.2.2.2.1 _ hw) hd (k p e s m args below meth c H locs ls C hP hS hl)
end ROWS
section RETS
variable {l : Launch} {X : CX} {h : Nat} {Q : Option Value → ST → Prop} {cc : ByteArray} {nL : Nat} {own : String} {pc : Nat} {lv : List (Option Value)} {σ : ST}
theorem rj_iret {v : Int32} (hd : decode cc pc = .ok (.ireturn, 1)) (k : Q (some (.int v)) σ) : RJ (GM l X h Q) X cc nL (some .int) own pc lv [.int v] σ := by
  intro p e s m args below meth c H locs ls C hP hS hl
  have hlk : meth.locks = false := C.2.2.2.2.2.2.1
  exact W.iret C.1 C.2.1 C.2.2.1 (fun t ht _ => ⟨⟨some (.int v), σ, rfl, k, by rw [ht]; exact hP⟩, hS.F ht⟩) hS.2.2 hd
theorem rj_zret {v : Int32} {ty : FieldType} (hd : decode cc pc = .ok (.ireturn, 1)) (hn : narrow ty (.int v) = .int v) (k : Q (some (.int v)) σ) : RJ (GM l X h Q) X cc nL (some ty) own pc lv [.int v] σ := by
  intro p e s m args below meth c H locs ls C hP hS hl
  have hlk : meth.locks = false := C.2.2.2.2.2.2.1
  exact W.zret C.1 C.2.1 C.2.2.1 hn (fun t ht _ => ⟨⟨some (.int v), σ, rfl, k, by rw [ht]; exact hP⟩, hS.F ht⟩) hS.2.2 hd
theorem rj_lret {v : Int64} (hd : decode cc pc = .ok (.lreturn, 1)) (k : Q (some (.long v)) σ) : RJ (GM l X h Q) X cc nL (some .long) own pc lv [.long v] σ := by
  intro p e s m args below meth c H locs ls C hP hS hl
  have hlk : meth.locks = false := C.2.2.2.2.2.2.1
  exact W.lret C.1 C.2.1 C.2.2.1 (fun t ht _ => ⟨⟨some (.long v), σ, rfl, k, by rw [ht]; exact hP⟩, hS.F ht⟩) hS.2.2 hd
theorem rj_vret (hd : decode cc pc = .ok (.return_, 1)) (k : Q none σ) : RJ (GM l X h Q) X cc nL none own pc lv [] σ := by
  intro p e s m args below meth c H locs ls C hP hS hl
  have hlk : meth.locks = false := C.2.2.2.2.2.2.1
  exact W.vret C.1 C.2.1 C.2.2.1 (fun t ht _ => ⟨⟨none, σ, rfl, k, by rw [ht]; exact hP⟩, hS.F ht⟩) hS.2.2 hd
theorem rj_aret {a : Nat} {nm : String} (hd : decode cc pc = .ok (.areturn, 1)) (k : Q (some (.ref a)) σ) : RJ (GM l X h Q) X cc nL (some (.object nm)) own pc lv [.ref a] σ := by
  intro p e s m args below meth c H locs ls C hP hS hl
  have hlk : meth.locks = false := C.2.2.2.2.2.2.1
  exact W.aret C.1 C.2.1 C.2.2.1 (Or.inl ⟨_, rfl⟩) (Or.inr ⟨_, rfl⟩) (fun t ht _ => ⟨⟨some (.ref a), σ, rfl, k, by rw [ht]; exact hP⟩, hS.F ht⟩) hS.2.2 hd
theorem rj_aretN {nm : String} (hd : decode cc pc = .ok (.areturn, 1)) (k : Q (some .null) σ) : RJ (GM l X h Q) X cc nL (some (.object nm)) own pc lv [.null] σ := by
  intro p e s m args below meth c H locs ls C hP hS hl
  have hlk : meth.locks = false := C.2.2.2.2.2.2.1
  exact W.aret C.1 C.2.1 C.2.2.1 (Or.inl ⟨_, rfl⟩) (Or.inl rfl) (fun t ht _ => ⟨⟨some .null, σ, rfl, k, by rw [ht]; exact hP⟩, hS.F ht⟩) hS.2.2 hd
end RETS
