/-! pulling, as in a free group -/
def rdd : List Int32 → Prop
  | [] => True
  | a :: r => (match r with | [] => True | b :: _ => ¬ a = -b) ∧ rdd r
theorem ng2 (c : Int32) : -(-c) = c := Int32.neg_neg
theorem ng_sw {a b : Int32} : a = -b ↔ b = -a := ⟨fun h => by rw [h, ng2], fun h => by rw [h, ng2]⟩
theorem rp_rd {s : List Int32} {c : Int32} (h : rdd s) : rdd (rp s c) := by
  cases s with
  | nil => exact ⟨trivial, trivial⟩
  | cons t r =>
    show rdd (if t = -c then r else c :: t :: r)
    by_cases z : t = -c
    · rw [if_pos z]; exact h.2
    · rw [if_neg z]; exact ⟨fun y => z (ng_sw.mp y), h⟩
theorem rp_rp {s : List Int32} {c : Int32} (h : rdd s) : rp (rp s c) (-c) = s := by
  cases s with
  | nil => show (if c = -(-c) then [] else -c :: [c]) = []; rw [if_pos (ng2 c).symm]
  | cons t r =>
    show rp (if t = -c then r else c :: t :: r) (-c) = t :: r
    by_cases z : t = -c
    · rw [if_pos z]
      cases r with
      | nil => show [-c] = [t]; rw [z]
      | cons u r' =>
        have h1 : ¬ t = -u := h.1
        show (if u = -(-c) then r' else -c :: u :: r') = t :: u :: r'
        rw [if_neg (fun y => h1 (by rw [z, y, ng2])), z]
    · rw [if_neg z]
      show (if c = -(-c) then t :: r else -c :: c :: t :: r) = t :: r
      rw [if_pos (ng2 c).symm]
theorem fo_rd : ∀ (xs s : List Int32), rdd s → rdd (xs.foldl rp s)
  | [], _, h => h
  | c :: r, s, h => fo_rd r (rp s c) (rp_rd h)
def inv (xs : List Int32) : List Int32 := (xs.map (fun c => -c)).reverse
theorem fo_inv : ∀ (xs s : List Int32), rdd s → (inv xs).foldl rp (xs.foldl rp s) = s
  | [], _, _ => rfl
  | c :: r, s, h => by
    have e : inv (c :: r) = inv r ++ [-c] := by simp [inv]
    rw [e, List.foldl_append]
    show rp ((inv r).foldl rp (r.foldl rp (rp s c))) (-c) = s
    rw [fo_inv r (rp s c) (rp_rd h), rp_rp h]
theorem fo_acc (s : List Int32) (hs : rdd s) : ∀ (ys acc : List Int32), (ys.foldl rp acc).reverse.foldl rp s = ys.foldl rp (acc.reverse.foldl rp s)
  | [], _ => rfl
  | c :: r, acc => by
    show (r.foldl rp (rp acc c)).reverse.foldl rp s = r.foldl rp (rp (acc.reverse.foldl rp s) c)
    rw [fo_acc s hs r (rp acc c)]
    congr 1
    cases acc with
    | nil => rfl
    | cons t u =>
      show (if t = -c then u else c :: t :: u).reverse.foldl rp s = rp ((t :: u).reverse.foldl rp s) c
      by_cases z : t = -c
      · rw [if_pos z, List.reverse_cons, List.foldl_append]
        show _ = rp (rp (u.reverse.foldl rp s) t) c
        have := rp_rp (s := u.reverse.foldl rp s) (c := -c) (fo_rd _ _ hs)
        rw [ng2] at this
        rw [z, this]
      · rw [if_neg z, List.reverse_cons, List.foldl_append]
        rfl
theorem fo_red {s : List Int32} (hs : rdd s) (ys : List Int32) : ys.foldl rp s = (redR ys).reverse.foldl rp s := (fo_acc s hs ys []).symm
theorem rd_nil : rdd [] := trivial
theorem none_inv {xs : List Int32} (h : redR xs = []) : redR (inv xs) = [] := by
  have := fo_inv xs [] rd_nil
  rw [show xs.foldl rp [] = [] from h] at this
  exact this
theorem fo_map {φ : Int32 → Int32} {S : Int32 → Prop} (hφ : ∀ a b, S a → S b → (a = -b ↔ φ a = -φ b)) : ∀ (xs s : List Int32), (∀ c ∈ xs, S c) → (∀ c ∈ s, S c) → (xs.map φ).foldl rp (s.map φ) = (xs.foldl rp s).map φ
  | [], _, _, _ => rfl
  | c :: r, s, hx, hs => by
    have hc := hx c List.mem_cons_self
    show (r.map φ).foldl rp (rp (s.map φ) (φ c)) = (r.foldl rp (rp s c)).map φ
    have e : rp (s.map φ) (φ c) = (rp s c).map φ ∧ ∀ d ∈ rp s c, S d := by
      cases s with
      | nil => exact ⟨rfl, fun d hd => by rw [show d = c by simpa [rp] using hd]; exact hc⟩
      | cons t u =>
        have ht := hs t List.mem_cons_self
        show (if φ t = -φ c then u.map φ else φ c :: φ t :: u.map φ) = (if t = -c then u else c :: t :: u).map φ ∧ ∀ d ∈ (if t = -c then u else c :: t :: u), S d
        by_cases z : t = -c
        · rw [if_pos z, if_pos ((hφ t c ht hc).mp z)]
          exact ⟨rfl, fun d hd => hs d (List.mem_cons_of_mem _ hd)⟩
        · rw [if_neg z, if_neg (fun y => z ((hφ t c ht hc).mpr y))]
          refine ⟨rfl, fun d hd => ?_⟩
          rcases List.mem_cons.mp hd with y | y
          · rw [y]; exact hc
          · exact hs d y
    rw [e.1]
    exact fo_map hφ r (rp s c) (fun d hd => hx d (List.mem_cons_of_mem _ hd)) e.2
theorem none_map {φ : Int32 → Int32} {S : Int32 → Prop} (hφ : ∀ a b, S a → S b → (a = -b ↔ φ a = -φ b)) {xs : List Int32} (hx : ∀ c ∈ xs, S c) : redR (xs.map φ) = [] ↔ redR xs = [] := by
  have := fo_map hφ xs [] hx (fun c hc => absurd hc (by simp))
  have e : redR (xs.map φ) = (redR xs).map φ := this
  rw [e]
  exact List.map_eq_nil_iff
theorem none_rev {xs : List Int32} : redR xs.reverse = [] ↔ redR xs = [] := by
  have key : ∀ ys : List Int32, redR ys = [] → redR ys.reverse = [] := fun ys h => by
    have h1 : redR (ys.map (fun c => -c)) = [] := (none_map (S := fun _ => True) (fun a b _ _ => ⟨fun z => by rw [z], fun z => by have := congrArg (fun q => -q) z; simpa [ng2] using this⟩) (fun _ _ => trivial)).mpr h
    have h2 := none_inv h1
    have e : inv (ys.map (fun c => -c)) = ys.reverse := by
      unfold inv
      rw [List.map_map]
      congr 1
      exact (List.map_congr_left (fun c _ => ng2 c)).trans (List.map_id' ys)
    rw [e] at h2
    exact h2
  exact ⟨fun h => by have := key _ h; rwa [List.reverse_reverse] at this, key xs⟩
theorem rdd_i : ∀ {s : List Int32}, rdd s → ∀ i, i + 1 < s.length → ¬ s.getD i 0 = -(s.getD (i + 1) 0)
  | [], _, i, hi => absurd hi (by simp)
  | [a], _, i, hi => absurd hi (by simp)
  | a :: b :: r, h, 0, _ => h.1
  | a :: b :: r, h, i + 1, hi => rdd_i (s := b :: r) h.2 i (by simp at hi ⊢; omega)
theorem rdd_of : ∀ {s : List Int32}, (∀ i, i + 1 < s.length → ¬ s.getD i 0 = -(s.getD (i + 1) 0)) → rdd s
  | [], _ => trivial
  | [a], _ => ⟨trivial, trivial⟩
  | a :: b :: r, h => ⟨h 0 (by simp), rdd_of (s := b :: r) (fun i hi => h (i + 1) (by simp at hi ⊢; omega))⟩
theorem getD_rev {s : List Int32} {i : Nat} (hi : i < s.length) : s.reverse.getD i 0 = s.getD (s.length - 1 - i) 0 := by
  rw [List.getD_eq_getElem?_getD, List.getD_eq_getElem?_getD, List.getElem?_reverse hi]
theorem rdd_rev {s : List Int32} (h : rdd s) : rdd s.reverse := by
  refine rdd_of (fun i hi => ?_)
  rw [List.length_reverse] at hi
  rw [getD_rev (by omega), getD_rev (by omega)]
  have := rdd_i h (s.length - 1 - (i + 1)) (by omega)
  rw [show s.length - 1 - (i + 1) + 1 = s.length - 1 - i by omega] at this
  exact fun z => this (ng_sw.mp z)
theorem rdd_sfx : ∀ {u v : List Int32}, rdd (u ++ v) → rdd v
  | [], _, h => h
  | _ :: u, v, h => rdd_sfx (u := u) h.2
theorem fo_self : ∀ (s acc : List Int32), rdd (s.reverse ++ acc) → s.foldl rp acc = s.reverse ++ acc
  | [], _, _ => rfl
  | c :: r, acc, h => by
    rw [List.reverse_cons, List.append_assoc] at h ⊢
    have h2 : rdd (c :: acc) := rdd_sfx h
    have e : rp acc c = c :: acc := by
      cases acc with
      | nil => rfl
      | cons t u =>
        show (if t = -c then u else c :: t :: u) = _
        rw [if_neg (fun z => h2.1 (ng_sw.mp z))]
    show r.foldl rp (rp acc c) = _
    rw [e]
    exact fo_self r (c :: acc) h
theorem red_self {s : List Int32} (h : rdd s) : redR s = s.reverse := by
  have := fo_self s [] (by rw [List.append_nil]; exact rdd_rev h)
  rw [List.append_nil] at this
  exact this
theorem none_twice {xs : List Int32} (hz : ∀ c ∈ redR xs, ¬ c = -c) : redR (xs ++ xs) = [] ↔ redR xs = [] := by
  constructor
  · intro h
    have hr : rdd (redR xs) := fo_rd xs [] rd_nil
    have h1 : xs.foldl rp (redR xs) = [] := by
      have : redR (xs ++ xs) = xs.foldl rp (redR xs) := by unfold redR; rw [List.foldl_append]
      rw [← this]; exact h
    rw [fo_red hr xs] at h1
    have h2 := fo_inv (redR xs).reverse (redR xs) hr
    rw [h1] at h2
    have e : inv (redR xs).reverse = (redR xs).map (fun c => -c) := by unfold inv; rw [List.map_reverse, List.reverse_reverse]
    rw [e] at h2
    have h3 : redR ((redR xs).map (fun c => -c)) = (redR (redR xs)).map (fun c => -c) := fo_map (S := fun _ => True) (fun a b _ _ => ⟨fun z => by rw [z], fun z => by have := congrArg (fun q => -q) z; simpa [ng2] using this⟩) (redR xs) [] (fun _ _ => trivial) (fun c hc => absurd hc (by simp))
    have h4 : redR xs = ((redR xs).reverse).map (fun c => -c) := by
      rw [← red_self hr, ← h3]; exact h2.symm
    generalize redR xs = s at *
    have key : ∀ i, i < s.length → s.getD i 0 = -(s.getD (s.length - 1 - i) 0) := fun i hi => by
      have : s.getD i 0 = ((s.reverse).map (fun c => -c)).getD i 0 := by rw [← h4]
      rw [this, List.getD_eq_getElem?_getD, List.getElem?_map, List.getElem?_reverse hi, List.getD_eq_getElem?_getD, List.getElem?_eq_getElem (by omega)]
      rfl
    rcases Nat.eq_zero_or_pos s.length with z | z
    · exact List.length_eq_zero_iff.mp z
    · rcases Nat.mod_two_eq_zero_or_one s.length with y | y
      · have := key (s.length / 2 - 1) (by omega)
        rw [show s.length - 1 - (s.length / 2 - 1) = s.length / 2 - 1 + 1 by omega] at this
        exact absurd this (rdd_i hr _ (by omega))
      · have := key (s.length / 2) (by omega)
        rw [show s.length - 1 - s.length / 2 = s.length / 2 by omega] at this
        refine absurd this (hz _ ?_)
        rw [List.getD_eq_getElem?_getD, List.getElem?_eq_getElem (by omega)]
        exact List.getElem_mem _
  · intro h
    unfold redR at h ⊢
    rw [List.foldl_append, h, h]
theorem okc_nn {rc c : Int32} (hr : rc.toInt ≤ 4) (h : okc rc c.toInt) : ¬ c = -c := fun z => by
  unfold okc at h
  have := congrArg Int32.toInt z
  rw [i_neg (by omega)] at this
  omega
/-- what a kind lays is none just when the row is -/
theorem none_ly {k rc : Int32} {xs : List Int32} (hr : 2 ≤ rc.toInt ∧ rc.toInt ≤ 4) (h : okL rc xs) : redR (ly k rc xs) = [] ↔ redR xs = [] := by
  have hm : ∀ a b, okc rc (Int32.toInt a) → okc rc (Int32.toInt b) → (a = -b ↔ lc k rc a = -lc k rc b) := fun a b ha hb => by
    have la := lc_ok (kind := k) hr ha
    have lb := lc_ok (kind := k) hr hb
    unfold lc at la lb ⊢
    by_cases z : k = 1 ∨ k = 4
    · rw [if_pos z, if_pos z]
      exact ⟨fun y => by rw [y], fun y => by have := congrArg (fun q => -q) y; simpa [ng2] using this⟩
    · rw [if_neg z] at la lb ⊢
      rw [if_neg z]
      by_cases y : k = 5
      · rw [if_pos y] at la lb ⊢
        rw [if_pos y]
        unfold okc at ha hb
        have nb := i_neg (x := b) (by omega)
        have sa : (a - rc).toInt = a.toInt - rc.toInt := i_sub (by omega) (by omega)
        have aa : (a + rc).toInt = a.toInt + rc.toInt := i_add (by omega) (by omega)
        have sb : (b - rc).toInt = b.toInt - rc.toInt := i_sub (by omega) (by omega)
        have ab : (b + rc).toInt = b.toInt + rc.toInt := i_add (by omega) (by omega)
        have nsb : (-(b - rc)).toInt = -(b.toInt - rc.toInt) := by rw [i_neg (by omega), sb]
        have nab : (-(b + rc)).toInt = -(b.toInt + rc.toInt) := by rw [i_neg (by omega), ab]
        constructor
        · intro q
          have q2 := congrArg Int32.toInt q
          apply i_inj
          split <;> split <;> omega
        · intro q
          have q2 := congrArg Int32.toInt q
          apply i_inj
          split at q2 <;> split at q2 <;> omega
      · rw [if_neg y, if_neg y]
  have h1 : redR (ly1 k rc xs) = [] ↔ redR xs = [] := by
    unfold ly1
    by_cases z : k = 2 ∨ k = 4
    · rw [if_pos z, none_map (S := fun c => okc rc c.toInt) hm (fun c hc => h c (List.mem_reverse.mp hc)), none_rev]
    · rw [if_neg z, none_map (S := fun c => okc rc c.toInt) hm h]
  unfold ly
  by_cases z : k = 3
  · rw [if_pos z]
    have ho : okL rc (ly1 k rc xs) := by
      have := ly_ok (kind := k) hr h
      unfold ly at this
      rw [if_pos z] at this
      exact fun c hc => this c (List.mem_append_left _ hc)
    have hrr := (sgs_red hr.2 _ ho).2
    rw [none_twice (fun c hc => okc_nn hr.2 (hrr c hc)), h1]
  · rw [if_neg z, h1]
theorem none_put {a : Int32} {u v : List Int32} (hu : redR u = []) (hv : redR v = []) : redR (a :: (u ++ -a :: v)) = [] := by
  show (u ++ -a :: v).foldl rp [a] = []
  rw [List.foldl_append, fo_red (s := [a]) ⟨trivial, trivial⟩ u, hu]
  show v.foldl rp (if a = -(-a) then [] else -a :: [a]) = []
  rw [if_pos (ng2 a).symm]
  exact hv
theorem none_cut {a : Int32} : ∀ (zs s : List Int32), zs.foldl rp (s ++ [a]) = [] → ∃ u v, zs = u ++ -a :: v ∧ u.foldl rp s = [] ∧ redR v = []
  | [], s, h => absurd h (by simp)
  | c :: r, [], h => by
    have h' : r.foldl rp (if a = -c then [] else c :: [a]) = [] := h
    by_cases z : a = -c
    · rw [if_pos z] at h'
      exact ⟨[], r, by rw [z, ng2]; rfl, rfl, h'⟩
    · rw [if_neg z] at h'
      obtain ⟨u, v, e, h1, h2⟩ := none_cut r [c] h'
      exact ⟨c :: u, v, by rw [e]; rfl, h1, h2⟩
  | c :: r, t :: s, h => by
    have e : rp (t :: s ++ [a]) c = rp (t :: s) c ++ [a] := by
      show (if t = -c then s ++ [a] else c :: t :: (s ++ [a])) = (if t = -c then s else c :: t :: s) ++ [a]
      split <;> rfl
    have h' : r.foldl rp (rp (t :: s ++ [a]) c) = [] := h
    rw [e] at h'
    obtain ⟨u, v, e2, h1, h2⟩ := none_cut r (rp (t :: s) c) h'
    exact ⟨c :: u, v, by rw [e2]; rfl, h1, h2⟩
