/-! in how many ways -/
def wy (n : Nat) : List Int32 → List Int32 → Nat
  | [], s => if s.length = n then 1 else 0
  | c :: r, s => wy n r (rp s c) + wy n r (rp s (-c))
theorem rp_ln (s : List Int32) (c : Int32) : (rp s c).length = s.length + 1 ∨ (rp s c).length + 1 = s.length := by
  cases s with
  | nil => exact Or.inl rfl
  | cons t u =>
    show (if t = -c then u else c :: t :: u).length = _ ∨ (if t = -c then u else c :: t :: u).length + 1 = _
    by_cases z : t = -c
    · rw [if_pos z]; exact Or.inr rfl
    · rw [if_neg z]; exact Or.inl rfl
theorem wy_0 {n : Nat} : ∀ (r s : List Int32), (r.length < n - s.length ∨ r.length < s.length - n) → wy n r s = 0
  | [], s, h => by
    show (if s.length = n then 1 else 0) = 0
    rw [if_neg (by simp at h; omega)]
  | c :: r, s, h => by
    have h1 := rp_ln s c
    have h2 := rp_ln s (-c)
    have hl : (c :: r).length = r.length + 1 := rfl
    show wy n r (rp s c) + wy n r (rp s (-c)) = 0
    rw [wy_0 r (rp s c) (by omega), wy_0 r (rp s (-c)) (by omega)]
theorem iab_ng {rc c : Int32} (hr : rc.toInt ≤ 4) (h : okc rc c.toInt) : iab (-c) = iab c := by
  have h1 := (iab_ok h hr).1
  have h2 := (iab_ok (okc_ng hr h) hr).1
  unfold okc at h
  rw [i_neg (by omega)] at h2
  apply i_inj
  rw [h1, h2]
  omega
theorem iab_eq {rc a c : Int32} (hr : rc.toInt ≤ 4) (ha : okc rc a.toInt) (hc : okc rc c.toInt) : iab a = iab c ↔ (a = c ∨ a = -c) := by
  have h1 := (iab_ok ha hr).1
  have h2 := (iab_ok hc hr).1
  constructor
  · intro h
    rw [h, h2] at h1
    unfold okc at ha hc
    rcases (by omega : a.toInt = c.toInt ∨ a.toInt = -c.toInt) with z | z
    · exact Or.inl (i_inj z)
    · exact Or.inr (i_inj (by rw [i_neg (by omega)]; exact z))
  · rintro (h | h)
    · rw [h]
    · rw [h, iab_ng hr hc]
theorem ch_wy {rc : Int32} (hr : rc.toInt ≤ 4) {n : Nat} : ∀ (r s : List Int32), okL rc r → okL rc s → ch n r (s.map iab) = wy n r s
  | [], s, _, _ => by
    show (if (s.map iab).length = n then 1 else 0) = if s.length = n then 1 else 0
    rw [List.length_map]
  | c :: r, s, hk, hs => by
    have hc := hk c List.mem_cons_self
    have hk2 : okL rc r := fun d hd => hk d (List.mem_cons_of_mem _ hd)
    have hcn := okc_ng hr hc
    unfold ch
    rw [List.length_map]
    by_cases z : r.length + 1 < n - s.length ∨ r.length + 1 < s.length - n
    · rw [if_pos z, wy_0 (c :: r) s z]
    · rw [if_neg z]
      show _ = wy n r (rp s c) + wy n r (rp s (-c))
      have push : ∀ d, okc rc d.toInt → iab d = iab c → ch n r (iab c :: s.map iab) = wy n r (d :: s) := fun d hd e => by
        have := ch_wy hr (n := n) r (d :: s) hk2 (fun x hx => by
          rcases List.mem_cons.mp hx with y | y
          · rw [y]; exact hd
          · exact hs x y)
        rw [← this, List.map_cons, e]
      cases s with
      | nil =>
        show 2 * ch n r [iab c] = wy n r [c] + wy n r [-c]
        have p1 := push c hc rfl
        have p2 := push (-c) hcn (iab_ng hr hc)
        rw [← p1, ← p2]
        show 2 * ch n r [iab c] = ch n r [iab c] + ch n r [iab c]
        omega
      | cons t u =>
        have ht := hs t List.mem_cons_self
        have hu : okL rc u := fun d hd => hs d (List.mem_cons_of_mem _ hd)
        have p1 := push c hc rfl
        have p2 := push (-c) hcn (iab_ng hr hc)
        show (if iab t = iab c then ch n r (u.map iab) + ch n r (iab c :: iab t :: u.map iab) else 2 * ch n r (iab c :: iab t :: u.map iab)) = wy n r (if t = -c then u else c :: t :: u) + wy n r (if t = -(-c) then u else -c :: t :: u)
        rw [ng2]
        have q1 : ch n r (iab c :: iab t :: u.map iab) = wy n r (c :: t :: u) := p1
        have q2 : ch n r (iab c :: iab t :: u.map iab) = wy n r (-c :: t :: u) := p2
        have q3 := ch_wy hr (n := n) r u hk2 hu
        by_cases y : iab t = iab c
        · rw [if_pos y]
          rcases (iab_eq hr ht hc).mp y with x | x
          · rw [if_pos x, if_neg (fun k => okc_nn hr hc (by rw [← x]; rw [x] at k; rw [x]; exact k)), ← q1, q3]; omega
          · rw [if_pos x, if_neg (fun k => okc_nn hr hc (by rw [← k]; exact x.trans (by rw [k]))), ← q2, q3]
        · rw [if_neg y, if_neg (fun k => y ((iab_eq hr ht hc).mpr (Or.inr k))), if_neg (fun k => y ((iab_eq hr ht hc).mpr (Or.inl k))), ← q1, ← q2]; omega
def flp : List Int32 → Nat → List Int32
  | [], _ => []
  | c :: r, S => (if S % 2 = 1 then -c else c) :: flp r (S / 2)
theorem sgm_sh {c : Int32} {r : List Int32} {s : Nat → Bool} : ∀ (m f : Nat), sgm (c :: r) s (f + 1) m = sgm r (fun i => s (i + 1)) f m
  | 0, _ => rfl
  | m + 1, f => by
    show fx (c :: r) s (f + 1) :: sgm (c :: r) s (f + 1 + 1) m = fx r (fun i => s (i + 1)) f :: sgm r (fun i => s (i + 1)) (f + 1) m
    rw [sgm_sh m (f + 1)]
    rfl
theorem flp_sgm : ∀ (xs : List Int32) (S : Nat), sgm xs (bitf S) 0 xs.length = flp xs S
  | [], _ => rfl
  | c :: r, S => by
    show fx (c :: r) (bitf S) 0 :: sgm (c :: r) (bitf S) (0 + 1) r.length = (if S % 2 = 1 then -c else c) :: flp r (S / 2)
    have e : (fun i => bitf S (i + 1)) = bitf (S / 2) := by
      funext i
      unfold bitf
      rw [Nat.pow_succ', ← Nat.div_div_eq_div_mul]
    rw [sgm_sh, e, flp_sgm r (S / 2)]
    congr 1
    unfold fx bitf
    rw [Nat.pow_zero, Nat.div_one]
    by_cases z : S % 2 = 1
    · rw [if_pos z, if_pos (decide_eq_true z)]; rfl
    · rw [if_neg z, if_neg (by simp [z])]; rfl
theorem sR_2 {g : Nat → Nat} : ∀ m, sR g (2 * m) = sR (fun x => g (2 * x) + g (2 * x + 1)) m
  | 0 => rfl
  | m + 1 => by
    rw [show 2 * (m + 1) = 2 * m + 1 + 1 by omega]
    show sR g (2 * m) + g (2 * m) + g (2 * m + 1) = sR (fun x => g (2 * x) + g (2 * x + 1)) m + (g (2 * m) + g (2 * m + 1))
    rw [sR_2 m]; omega
theorem sR_p {a b : Nat → Nat} : ∀ m, sR (fun x => a x + b x) m = sR a m + sR b m
  | 0 => rfl
  | m + 1 => by
    show sR (fun x => a x + b x) m + (a m + b m) = (sR a m + a m) + (sR b m + b m)
    rw [sR_p m]; omega
theorem wy_sum {n : Nat} : ∀ (xs s : List Int32), sR (fun S => if ((flp xs S).foldl rp s).length = n then 1 else 0) (2 ^ xs.length) = wy n xs s
  | [], s => by show 0 + (if s.length = n then 1 else 0) = if s.length = n then 1 else 0; omega
  | c :: r, s => by
    show sR (fun S => if ((flp (c :: r) S).foldl rp s).length = n then 1 else 0) (2 ^ (r.length + 1)) = wy n r (rp s c) + wy n r (rp s (-c))
    rw [Nat.pow_succ', sR_2, sR_p, ← wy_sum r (rp s c), ← wy_sum r (rp s (-c))]
    congr 1
    · refine sR_c _ (fun x _ => ?_)
      show (if (((if 2 * x % 2 = 1 then -c else c) :: flp r (2 * x / 2)).foldl rp s).length = n then 1 else 0) = _
      rw [if_neg (show ¬ 2 * x % 2 = 1 by omega), show 2 * x / 2 = x by omega]
      rfl
    · refine sR_c _ (fun x _ => ?_)
      show (if (((if (2 * x + 1) % 2 = 1 then -c else c) :: flp r ((2 * x + 1) / 2)).foldl rp s).length = n then 1 else 0) = _
      rw [if_pos (show (2 * x + 1) % 2 = 1 by omega), show (2 * x + 1) / 2 = x by omega]
      rfl
def wyG (xs : List Int32) (n S : Nat) : Nat := if (red (sgm xs (bitf S) 0 xs.length)).length = n then 1 else 0
theorem ways_eq {rc : Int32} {xs : List Int32} {n : Nat} (hr : rc.toInt ≤ 4) (h : okL rc xs) : sR (wyG xs n) (2 ^ xs.length) = ch n xs [] := by
  have h1 := ch_wy hr (n := n) xs [] h (fun c hc => absurd hc (by simp))
  rw [show ([] : List Int32).map iab = [] from rfl] at h1
  rw [h1, ← wy_sum]
  refine sR_c _ (fun S _ => ?_)
  unfold wyG red
  rw [List.length_reverse, flp_sgm]
  rfl
/-! the reference: ways -/
set_option maxRecDepth 100000 in
theorem l_X12_wayA {l : Launch} {X : CX} {h : Nat} {Q : Option Value → ST → Prop} {σ : ST} {xs : List Int32} {S : Nat} {t many : Int32} {n : Nat} (hS : S < 4096) (hx : TR σ xs) (hY : ∀ τ (y : Int32), TR τ (sgm xs (bitf S) 0 xs.length) → nq 117 7 σ τ → RJ (GM l X h Q) X cX12_ways 6 (some .int) RX12 101 [some (.ref (ad X 112)), some (.int t), some (.int (nI n)), some (.int many), some (.int (nI S)), some (.int y)] [] τ) : ∀ (N i : Nat) (τ : ST), xs.length < i + N → (i ≤ xs.length ∧ FLI σ τ xs S i) → RJ (GM l X h Q) X cX12_ways 6 (some .int) RX12 50 [some (.ref (ad X 112)), some (.int t), some (.int (nI n)), some (.int many), some (.int (nI S)), some (.int (nI i))] [] τ := by
  intro N
  induction N with
  | zero => intro i τ hN hi; have := hi.1; exact absurd hN (by omega)
  | succ N ih =>
    intro i τ hN hi
    obtain ⟨hi, hv⟩ := hi
    have hc := hx.2.1
    have hs : τ.1 112 7 = nI xs.length := hv.1
    have hlt : (nI xs.length).toInt = xs.length := nI_t (by omega)
    have hit : (nI i).toInt = i := nI_t (by omega)
    refine rj_ild dX12_ways_50 rfl ?_
    refine rj_ald0 dX12_ways_52 rfl ?_
    refine g12_107 dX12_ways_53 ?_
    rw [hs]
    refine rj_ic_ge (tgt := 101) dX12_ways_56 (by decide) (fun h_56 => ?_) (fun h_56 => ?_)
    · exact hY τ _ (fli_e hx hv (by omega)) hv.2.2
    · have hg : τ.1 117 i = xs.getD i 0 := by rw [hv.2.1 i (by omega), if_neg (by omega)]
      have hbt := bt_i (S := S) (i := i) hS (by omega)
      refine rj_ald0 dX12_ways_59 rfl ?_
      refine g12_22 dX12_ways_60 ?_
      refine rj_ild dX12_ways_63 rfl ?_
      refine rj_ild dX12_ways_65 rfl ?_
      refine rj_ild dX12_ways_67 rfl ?_
      refine rj_ishr dX12_ways_69 ?_
      refine rj_ic1 dX12_ways_70 ?_
      refine rj_iand dX12_ways_71 ?_
      refine rj_ic1 dX12_ways_72 ?_
      refine rj_ic_ne (tgt := 87) dX12_ways_73 (by decide) (fun h_73 => ?_) (fun h_73 => ?_)
      · refine rj_ald0 dX12_ways_87 rfl ?_
        refine g12_22 dX12_ways_88 ?_
        refine rj_ild dX12_ways_91 rfl ?_
        refine rj_iald (by first | assumption | rfl) (vpi (by omega) (by show _ < ((12 : Nat) : Int); omega)) dX12_ways_93 ?_
        rw [nI_clamp (by omega), hg]
        refine rj_iast (by first | assumption | rfl) (vpi (by omega) (by show _ < ((12 : Nat) : Int); omega)) dX12_ways_94 ?_
        rw [nI_clamp (by omega)]
        refine rj_iinc5 (d := 1) dX12_ways_95 (by decide) rfl (by decide) ?_
        rw [nI_1]
        refine rj_goto (tgt := 50) dX12_ways_98 (by decide) ?_
        exact ih (i + 1) _ (by omega) ⟨by omega, fli_s hv (by unfold fx; rw [if_neg (fun z => h_73 (hbt.mpr z))])⟩
      · refine rj_ald0 dX12_ways_76 rfl ?_
        refine g12_22 dX12_ways_77 ?_
        refine rj_ild dX12_ways_80 rfl ?_
        refine rj_iald (by first | assumption | rfl) (vpi (by omega) (by show _ < ((12 : Nat) : Int); omega)) dX12_ways_82 ?_
        rw [nI_clamp (by omega), hg]
        refine rj_ineg dX12_ways_83 ?_
        refine rj_goto (tgt := 94) dX12_ways_84 (by decide) ?_
        refine rj_iast (by first | assumption | rfl) (vpi (by omega) (by show _ < ((12 : Nat) : Int); omega)) dX12_ways_94 ?_
        rw [nI_clamp (by omega)]
        refine rj_iinc5 (d := 1) dX12_ways_95 (by decide) rfl (by decide) ?_
        rw [nI_1]
        refine rj_goto (tgt := 50) dX12_ways_98 (by decide) ?_
        exact ih (i + 1) _ (by omega) ⟨by omega, fli_s hv (by unfold fx; rw [if_pos (hbt.mp h_73)])⟩

set_option maxRecDepth 100000 in
theorem l_X12_wayC {l : Launch} {X : CX} {h : Nat} {Q : Option Value → ST → Prop} {σ : ST} {S n : Nat} {t y : Int32} {many : Nat} {xs : List Int32} (hh : 2 ≤ h) (hn : n ≤ 12) (hx : TR σ (sgm xs (bitf S) 0 xs.length)) (hk : ∀ τ, mq σ τ → RJ (GM l X h Q) X cX12_ways 6 (some .int) RX12 30 [some (.ref (ad X 112)), some (.int t), some (.int (nI n)), some (.int (nI (many + wyG xs n S))), some (.int (nI (S + 1))), some (.int y)] [] τ) :  RJ (GM l X h Q) X cX12_ways 6 (some .int) RX12 101 [some (.ref (ad X 112)), some (.int t), some (.int (nI n)), some (.int (nI many)), some (.int (nI S)), some (.int y)] [] σ := by

  refine rj_ald0 dX12_ways_101 rfl ?_
  refine rj_V0 (ci := 12) cX12_135 rfl (by decide) (by first | assumption | rfl) dX12_ways_102 (c_X12_pullTried hx) (fitM (by omega) (by decide)) (Nat.le_of_ble_eq_true rfl) ?_
  rintro v υ ⟨rfl, hx1, hn1⟩
  simp only [Option.toList, List.nil_append]
  have hl2 := hx1.2.1
  have hm := nq_mq hn1 (by omega) (by omega)
  refine rj_ild3 dX12_ways_105 rfl ?_
  refine rj_ald0 dX12_ways_106 rfl ?_
  refine g12_129 dX12_ways_107 ?_
  rw [hx1.1]
  refine rj_ild2 dX12_ways_110 rfl ?_
  refine rj_ic_ne (tgt := 118) dX12_ways_111 (by decide) (fun h_111 => ?_) (fun h_111 => ?_)
  · refine rj_ic0 dX12_ways_118 ?_
    refine rj_iadd dX12_ways_119 ?_
    refine rj_ist3 dX12_ways_120 (by decide) rfl ?_
    refine rj_iinc4 (d := 1) dX12_ways_121 (by decide) rfl (by decide) ?_
    rw [nI_1]
    refine rj_goto (tgt := 30) dX12_ways_124 (by decide) ?_
    have k := hk υ hm
    unfold wyG at k
    rw [if_neg (fun z => h_111 (by rw [z])), Nat.add_zero] at k
    rw [Int32.add_zero]
    exact k
  · refine rj_ic1 dX12_ways_114 ?_
    refine rj_goto (tgt := 119) dX12_ways_115 (by decide) ?_
    refine rj_iadd dX12_ways_119 ?_
    refine rj_ist3 dX12_ways_120 (by decide) rfl ?_
    refine rj_iinc4 (d := 1) dX12_ways_121 (by decide) rfl (by decide) ?_
    rw [nI_1]
    refine rj_goto (tgt := 30) dX12_ways_124 (by decide) ?_
    have k := hk υ hm
    unfold wyG at k
    rw [if_pos (nI_ij (by omega) (by omega) h_111)] at k
    rw [nI_1]
    exact k

set_option maxRecDepth 100000 in
theorem l_X12_wayB {l : Launch} {X : CX} {h : Nat} {Q : Option Value → ST → Prop} {σ : ST} {A : SA} {j n : Nat} {t : Int32} (hh : 3 ≤ h) (hn : n ≤ 12) (hM : MR σ A) (hw : wf A) (ht : t.toInt = j) (hj : j < A.2.1.2.2.length) (hQ : ∀ τ, mq σ τ → Q (some (.int (nI (sR (wyG (fT A j).2 n) (2 ^ (fT A j).2.length))))) τ) : ∀ (N i : Nat) (τ : ST) (y : Option Value), 2 ^ (fT A j).2.length < i + N → (i ≤ 2 ^ (fT A j).2.length ∧ mq σ τ) → RJ (GM l X h Q) X cX12_ways 6 (some .int) RX12 30 [some (.ref (ad X 112)), some (.int t), some (.int (nI n)), some (.int (nI (sR (wyG (fT A j).2 n) i))), some (.int (nI i)), y] [] τ := by
  intro N
  induction N with
  | zero => intro i τ y hN hi; have := hi.1; exact absurd hN (by omega)
  | succ N ih =>
    intro i τ y hN hi
    obtain ⟨hi, ho⟩ := hi
    have hM1 := mr_s hM ho
    have h12 := (wf_t hw hj).2.2.1
    have hp := p12 h12
    have hit : (nI i).toInt = i := nI_t (by omega)
    have hpt : (nI (2 ^ (fT A j).2.length)).toInt = (2 ^ (fT A j).2.length : Nat) := nI_t (by omega)
    refine rj_ild dX12_ways_30 rfl ?_
    refine rj_ic1 dX12_ways_32 ?_
    refine rj_ald0 dX12_ways_33 rfl ?_
    refine rj_ild1 dX12_ways_34 rfl ?_
    refine rj_V1i (ci := 12) cX12_82 rfl (by decide) (by first | assumption | rfl) dX12_ways_35 (c_X12_sizeOfRow hM1 ht hj) (fitM (by omega) (by decide)) (Nat.le_of_ble_eq_true rfl) ?_
    refine rj_ishl dX12_ways_38 ?_
    rw [sh_i _ (by omega)]
    refine rj_ic_ge (tgt := 127) dX12_ways_39 (by decide) (fun h_39 => ?_) (fun h_39 => ?_)
    · refine rj_ild3 dX12_ways_127 rfl ?_
      refine rj_iret dX12_ways_128 ?_
      rw [show i = 2 ^ (fT A j).2.length by omega]
      exact hQ τ ho
    · refine rj_ald0 dX12_ways_42 rfl ?_
      refine rj_ild1 dX12_ways_43 rfl ?_
      refine rj_V1 (ci := 12) cX12_117 rfl (by decide) (by first | assumption | rfl) dX12_ways_44 (c_X12_tries hM1 ht hj h12) (fitM (by omega) (by decide)) (Nat.le_of_ble_eq_true rfl) ?_
      rintro v υ ⟨rfl, hx1, hn1⟩
      simp only [Option.toList, List.nil_append]
      refine rj_ic0 dX12_ways_47 ?_
      refine rj_ist5w dX12_ways_48 (by decide) rfl ?_
      have hm1 := nq_mq hn1 (by omega) (by omega)
      refine l_X12_wayA (S := i) (by omega) hx1 (fun ψ y2 hT hn2 => ?_) ((fT A j).2.length + 1) 0 υ (by omega) ⟨by omega, fli_0 hx1⟩
      have hm2 := nq_mq hn2 (by omega) (by omega)
      exact l_X12_wayC (by omega) hn hT (fun φ hm3 => ih (i + 1) φ _ (by omega) ⟨by omega, mq_tr (mq_tr (mq_tr ho hm1) hm2) hm3⟩)

set_option maxRecDepth 100000 in
theorem c_X12_ways {l : Launch} {X : CX} {σ : ST} {A : SA} (hM : MR σ A) (hw : wf A) {t n : Int32} : MJ l X 3 yX12_ways cX12_ways 6 (some .int) [.ref (ad X 112), .int t, .int n] σ (OM σ (F_ways A t n)) := by
  refine MJ_of (own := RX12) [some (.ref (ad X 112)), some (.int t), some (.int n), none, none, none] (by decide) rfl (Nat.le_of_ble_eq_true rfl) rfl ?_
  have q12 := e12
  refine rj_ald0 dX12_ways_0 rfl ?_
  refine rj_ild1 dX12_ways_1 rfl ?_
  refine rj_V1i (ci := 12) cX12_85 rfl (by decide) (by first | assumption | rfl) dX12_ways_2 (c_X12_isTie hM) (fitM (by decide) (by decide)) (Nat.le_of_ble_eq_true rfl) ?_
  refine rj_if_eq (tgt := 18) dX12_ways_5 (by decide) (fun h_5 => ?_) (fun h_5 => ?_)
  · have hb_5 := bz_t h_5
    refine rj_ald0 dX12_ways_18 rfl ?_
    refine rj_ldc kX12_59 dX12_ways_19 ?_
    refine rj_V1 (ci := 12) cX12_68 rfl (by decide) rfl dX12_ways_21 (c_X12_finds (i := 0) hM (by decide) (by decide)) (fitM (by decide) (by decide)) (Nat.le_of_ble_eq_true rfl) ?_
    rintro v υq ⟨rfl, hq⟩
    simp only [Option.toList, List.cons_append, List.nil_append]
    refine rj_iret dX12_ways_24 ?_
    have e : F_ways A t n = fnd A 0 := by unfold F_ways; rw [wT_out hb_5]
    rw [e]
    exact ⟨rfl, hq⟩
  · have hb_5 := bz_f h_5
    obtain ⟨j, hv, hj⟩ := mt_in hb_5
    have h12 := (wf_t hw hj).2.2.1
    have hlt : (nI (fT A j).2.length).toInt = (fT A j).2.length := nI_t (by omega)
    have h8 := hM.1.2.2.2.1
    obtain ⟨f1, f2, f3, f4⟩ := hM.1.2.2.2.2 j hj
    have f6 : σ.1 113 (4 + 14 * j) = nI (fT A j).2.length := f2
    have f7 : σ.1 113 (3 + 14 * j) = (fT A j).1 := f1
    refine rj_ild2 dX12_ways_8 rfl ?_
    refine rj_ic0 dX12_ways_9 ?_
    refine rj_bipush (v := 12) dX12_ways_10 (by decide) ?_
    refine rj_S3i cX12_60 dX12_ways_12 c_X12_in (fitM (by decide) (by decide)) (Nat.le_of_ble_eq_true rfl) ?_
    refine rj_if_ne (tgt := 25) dX12_ways_15 (by decide) (fun h_15 => ?_) (fun h_15 => ?_)
    · have hb_15 := bz_f h_15
      rw [t0, q12] at hb_15
      obtain ⟨m, hm, rfl⟩ : ∃ m : Nat, n.toInt = m ∧ n = nI m := ⟨n.toInt.toNat, by omega, i_nI hb_15.1⟩
      rw [hm] at hb_15
      refine rj_ic0 dX12_ways_25 ?_
      refine rj_ist3 dX12_ways_26 (by decide) rfl ?_
      refine rj_ic0 dX12_ways_27 ?_
      refine rj_ist4w dX12_ways_28 (by decide) rfl ?_
      have e : F_ways A t (nI m) = (nI (ch m (fT A j).2 []), A) := by unfold F_ways; rw [wT_in hv hj, hm, if_neg (by omega)]; rfl
      rw [e, ← ways_eq (n := m) hw.1.2.1 (wf_t hw hj).2.2.2]
      exact l_X12_wayB (by decide) (by omega) hM hw hv hj (fun τ h => ⟨rfl, mr_s hM h, mq_md h⟩) (2 ^ (fT A j).2.length + 1) 0 σ _ (by rw [Nat.zero_add]; exact Nat.lt_succ_self _) ⟨Nat.zero_le _, mq_rf⟩
    · have hb_15 := bz_t h_15
      rw [t0, q12] at hb_15
      refine rj_ald0 dX12_ways_18 rfl ?_
      refine rj_ldc kX12_59 dX12_ways_19 ?_
      refine rj_V1 (ci := 12) cX12_68 rfl (by decide) rfl dX12_ways_21 (c_X12_finds (i := 0) hM (by decide) (by decide)) (fitM (by decide) (by decide)) (Nat.le_of_ble_eq_true rfl) ?_
      rintro v υq ⟨rfl, hq⟩
      simp only [Option.toList, List.cons_append, List.nil_append]
      refine rj_iret dX12_ways_24 ?_
      have e : F_ways A t n = fnd A 0 := by unfold F_ways; rw [wT_in hv hj, if_pos (by omega)]
      rw [e]
      exact ⟨rfl, hq⟩

