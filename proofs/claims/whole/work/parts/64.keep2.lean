/-! what holds of a state is kept: draws, the tape, a text -/
theorem i_bv {x : Int32} (h : x.toBitVec.toNat < 2147483648) : x.toInt = x.toBitVec.toNat := by
  show x.toBitVec.toInt = _
  exact BitVec.toInt_eq_toNat_of_lt (by omega)
theorem dw_q : (((8 : Int32).toUInt32 &&& Int32.toUInt32 31).toBitVec % 32).toNat = 8 := by decide
theorem dwv_in {z n : Int32} (hn : 0 < n.toInt) : 0 ≤ (dwv z n).toInt ∧ (dwv z n).toInt < n.toInt := by
  have h1 := pk_ushr (dwz z) 8 8 dw_q
  have h2 : (dwz z).toBitVec.toNat < 4294967296 := (dwz z).toBitVec.isLt
  unfold dwv
  generalize ((dwz z).toUInt32 >>> ((8 : Int32).toUInt32 &&& Int32.toUInt32 31)).toInt32 = u at *
  have h3 : u.toBitVec.toNat < 16777216 := by rw [h1]; omega
  have h4 := i_bv (x := u) (by omega)
  rw [irem_t (by omega)]
  exact ⟨Int.emod_nonneg _ (by omega), Int.emod_lt_of_pos _ hn⟩
theorem layC_ok {A : SA} (h2 : 2 ≤ A.2.1.1.toInt) (h4 : A.2.1.1.toInt ≤ 4) : okc A.2.1.1 (layC A).toInt := by
  have hrm : (A.2.1.1 - 1).toInt = A.2.1.1.toInt - 1 := by rw [i_sub (by rw [t1]; omega) (by rw [t1]; omega), t1]
  have hd := dwv_in (z := A.2.1.2.1) (n := A.2.1.1 - 1) (by omega)
  have hp : (dwv A.2.1.2.1 (A.2.1.1 - 1) + 1).toInt = (dwv A.2.1.2.1 (A.2.1.1 - 1)).toInt + 1 := by rw [i_add (by rw [t1]; omega) (by rw [t1]; omega), t1]
  unfold layC okc
  split
  · rw [i_neg (by omega), hp]; omega
  · rw [hp]; omega
theorem wf_sz {A : SA} {v u : Int32} {j : Nat} {t : TA} (h : wf A) (ht : wfT A.2.1.1 t) : wf (sT (zA (zA A v) u) j t) := wf_sT (A := zA (zA A v) u) h ht
theorem wfT_app {rc k c : Int32} {xs : List Int32} (h : wfT rc (k, xs)) (hl : xs.length < 12) (hc : okc rc c.toInt) : wfT rc (k, xs ++ [c]) := ⟨h.1, h.2.1, by show (xs ++ [c]).length ≤ 12; rw [List.length_append, List.length_singleton]; omega, okL_app h.2.2.2 hc⟩
theorem k_layR {j : Nat} : ∀ (m i : Nat) (A : SA), j < A.2.1.2.2.length → wf A → wf (layR j m i A).2
  | 0, _, _, _, h => h
  | m + 1, i, A, hj, h => by
    rw [layR_s]
    split
    · rename_i hl
      refine k_layR m (i + 1) (layS A j) (by rw [layS_len]; exact hj) ?_
      unfold layS
      exact wf_sz h (wfT_app (wf_t h hj) hl (layC_ok h.1.1 h.1.2.1))
    · exact h
theorem k_lay {A : SA} {t n : Int32} (h : wf A) : wf (F_lay A t n).2 := by
  refine wf_wT h (fun j hj => ?_)
  split
  · exact h
  · exact k_layR _ _ _ hj h
theorem and255 (x : Int32) : 0 ≤ (x &&& 255).toInt ∧ (x &&& 255).toInt ≤ 255 := by
  have h1 : (x &&& 255).toBitVec.toNat ≤ 255 := by
    rw [Int32.toBitVec_and, BitVec.toNat_and]
    exact Nat.and_le_right
  rw [i_bv (by omega)]
  omega
theorem fdL_in {x : Int32} : ∀ n, ∀ b ∈ fdL x n, 0 ≤ b.toInt ∧ b.toInt ≤ 255
  | 0, b, hb => absurd hb (by simp [fdL])
  | n + 1, b, hb => by
    rcases List.mem_cons.mp (show b ∈ fdb x n :: fdL x n from hb) with z | z
    · rw [z]; unfold fdb; exact and255 _
    · exact fdL_in n b z
theorem k_feed {A : SA} {x n : Int32} (h : wf A) : wf (F_feed A x n).2 := by
  unfold F_feed
  split
  · exact h
  · split
    · exact h
    · refine ⟨h.1, h.2.1, ⟨?_, fun b hb => ?_⟩, h.2.2.2⟩
      · show (A.2.2.2.1 ++ fdL x n.toInt.toNat).length ≤ 120
        rw [List.length_append, fdL_len]; omega
      · rcases List.mem_append.mp (show b ∈ A.2.2.2.1 ++ fdL x n.toInt.toNat from hb) with z | z
        · exact h.2.2.1.2 b z
        · exact fdL_in _ b z
theorem wfF_add {F : FA} {j : Nat} {c : Int32} (h : wfF F) (hl : (F.2.2.getD j t0A).2.length < 12) (hj : j < F.2.2.length) (hc : okc F.1 c.toInt) : wfF (aAdd F j c) := by
  have ht : wfT F.1 (F.2.2.getD j t0A) := by
    rw [List.getD_eq_getElem?_getD, List.getElem?_eq_getElem hj]
    exact h.2.2.2 _ (List.getElem_mem _)
  refine ⟨h.1, h.2.1, ?_, fun u hu => ?_⟩
  · show (F.2.2.set j _).length ≤ 8
    rw [List.length_set]; exact h.2.2.1
  · rcases List.mem_or_eq_of_mem_set hu with z | z
    · exact h.2.2.2 u z
    · rw [z]
      exact ⟨ht.1, ht.2.1, by show (_ ++ [c]).length ≤ 12; rw [List.length_append, List.length_singleton]; omega, okL_app ht.2.2.2 hc⟩
theorem wf_tlC2 {bs : List Int32} {j p : Nat} {u : Bool} {F : FA} (h : wfF F) (hl : (F.2.2.getD j t0A).2.length < 12) (hj : j < F.2.2.length) : wfF (tlC2 bs j p u F).2.2 := by
  have hrm : (F.1 - 1).toInt = F.1.toInt - 1 := by have := h.1; have := h.2.1; rw [i_sub (by rw [t1]; omega) (by rw [t1]; omega), t1]
  unfold tlC2
  split
  · rename_i hn
    have h1 := hn.2.1
    have h2 := hn.2.2
    rw [t1] at h1
    rw [hrm] at h2
    have h3 := h.2.1
    refine wfF_add h hl hj ?_
    unfold okc
    split
    · rw [i_neg (by omega)]; omega
    · omega
  · exact h
theorem wf_tlC {bs : List Int32} {j p : Nat} {F : FA} (h : wfF F) (hj : j < F.2.2.length) : wfF (tlC bs j p F).2.2 := by
  unfold tlC
  split
  · rename_i hl
    split
    · exact wf_tlC2 h hl hj
    · exact wf_tlC2 h hl hj
  · exact h
theorem wf_tlL {bs : List Int32} {j : Nat} : ∀ (n p : Nat) (F : FA), wfF F → j < F.2.2.length → wfF (tlL bs j n p F).2.2
  | 0, _, _, h, _ => h
  | n + 1, p, F, h, hj => by
    rw [tlL_s]
    split
    · split
      · exact wf_tlL n _ _ (wf_tlC h hj) (by rw [tlC_len]; exact hj)
      · exact wf_tlC h hj
    · exact h
theorem wf_tlI {bs : List Int32} {p : Nat} {F : FA} (h : wfF F) : wfF (tlI bs p F).2.2 := by
  unfold tlI
  split
  · unfold tlR
    split
    · exact h
    · split
      · rename_i h0 hn
        have h1 := hn.2.1
        have h2 := hn.2.2
        have e2 : (2 : Int32).toInt = 2 := by decide
        have e4 : (4 : Int32).toInt = 4 := by decide
        refine ⟨by show 2 ≤ (tR bs (nx bs p)).2.toInt; omega, by show (tR bs (nx bs p)).2.toInt ≤ 4; omega, h.2.2.1, fun t ht => ?_⟩
        have : F.2.2 = [] := List.length_eq_zero_iff.mp (by omega)
        have ht : t ∈ F.2.2 := ht
        rw [this] at ht
        exact absurd ht (by simp)
      · exact h
  · split
    · unfold tlM
      split
      · rename_i hn
        have h1 := hn.2.1
        have h2 := hn.2.2
        have h8 := h.2.2.1
        have hls : (nI F.2.2.length - 1).toInt = F.2.2.length - 1 := by rw [i_sub (by rw [nI_t (by omega), t1]; omega) (by rw [nI_t (by omega), t1]; omega), nI_t (by omega), t1]
        rw [t0] at h1
        rw [hls] at h2
        exact wf_tlC h (by omega)
      · exact h
    · unfold tlT
      split
      · rename_i hk
        refine wf_tlL 13 _ _ ⟨h.1, h.2.1, ?_, fun t ht => ?_⟩ ?_
        · show (F.2.2 ++ [(kdN bs p 6 0, [])]).length ≤ 8
          rw [List.length_append, List.length_singleton]; omega
        · rcases List.mem_append.mp ht with z | z
          · exact h.2.2.2 t z
          · rw [List.mem_singleton.mp z]
            exact ⟨hk.1.1, hk.1.2, by simp, fun c hc => absurd hc (by simp)⟩
        · show F.2.2.length < (F.2.2 ++ [(kdN bs p 6 0, [])]).length
          rw [List.length_append, List.length_singleton]; omega
      · exact h
theorem wf_tlA {bs : List Int32} : ∀ (n : Nat) (it : Int32) (p : Nat) (F : FA), wfF F → wfF (tlA bs n it p F).2
  | 0, _, _, _, h => h
  | n + 1, it, p, F, h => by
    have h1 := wf_tlI (bs := bs) (p := p) h
    rw [tlA_s]
    split
    · split
      · exact h1
      · split
        · exact wf_tlA n _ _ _ h1
        · exact h1
    · exact h1
theorem k_text {A : SA} (h : wf A) : wf (F_text A).2 := by
  unfold F_text
  have ht : ([] : List Int32).length ≤ 120 ∧ ∀ b ∈ ([] : List Int32), 0 ≤ b.toInt ∧ b.toInt ≤ 255 := ⟨by simp, fun b hb => absurd hb (by simp)⟩
  split
  · exact ⟨h.1, h.2.1, ht, h.2.2.2⟩
  · exact ⟨wf_tlA 120 1 0 A.2.1 h.1, h.2.1, ht, h.2.2.2⟩
