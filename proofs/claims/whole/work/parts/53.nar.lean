/-! the lowest bits of a long -/
theorem nr_e56 : (((56 : Int32).toInt64 &&& 63).toBitVec.smod 64).toNat = 56 := by decide
theorem nr_e48 : (((48 : Int32).toInt64 &&& 63).toBitVec.smod 64).toNat = 48 := by decide
theorem nr_sx {w : Nat} (x : BitVec w) (n i : Nat) (h : i < n) : (x.signExtend n).getLsbD i = if i < w then x.getLsbD i else x.getLsbD (w - 1) := by
  rw [BitVec.getLsbD_signExtend, decide_eq_true h, Bool.true_and, BitVec.msb_eq_getLsbD_last]
theorem nr_sh {w : Nat} (x : BitVec w) (s i : Nat) (h : i < w) (hs : s < w) : ((x <<< s).sshiftRight s).getLsbD i = if s + i < w then x.getLsbD i else x.getLsbD (w - 1 - s) := by
  rw [BitVec.getLsbD_sshiftRight, BitVec.msb_eq_getLsbD_last, BitVec.getLsbD_shiftLeft, BitVec.getLsbD_shiftLeft, decide_eq_false (by omega : ¬ w ≤ i), Bool.not_false, Bool.true_and]
  by_cases z : s + i < w
  · rw [if_pos z, if_pos z, decide_eq_true z, decide_eq_false (by omega : ¬ s + i < s), Bool.not_false, Bool.true_and, Bool.true_and, Nat.add_sub_cancel_left]
  · rw [if_neg z, if_neg z, decide_eq_true (by omega : w - 1 < w), decide_eq_false (by omega : ¬ w - 1 < s), Bool.not_false, Bool.true_and, Bool.true_and]
theorem nr8 (v : Int64) : (v <<< ((56 : Int32).toInt64 &&& 63)) >>> ((56 : Int32).toInt64 &&& 63) = v.toInt32.toInt8.toInt32.toInt64 := by
  apply Int64.toBitVec_inj.mp
  show ((v.toBitVec <<< (((56 : Int32).toInt64 &&& 63).toBitVec.smod 64).toNat).sshiftRight (((56 : Int32).toInt64 &&& 63).toBitVec.smod 64).toNat) = (((v.toBitVec.signExtend 32).signExtend 8).signExtend 32).signExtend 64
  rw [nr_e56]
  apply BitVec.eq_of_getLsbD_eq
  intro i hi
  rw [nr_sh _ _ _ hi (by omega), nr_sx _ _ _ hi]
  by_cases h : i < 8
  · rw [if_pos (by omega), if_pos (by omega), nr_sx _ _ _ (by omega), if_pos h, nr_sx _ _ _ h, if_pos (by omega), nr_sx _ _ _ (by omega), if_pos (by omega)]
  · rw [if_neg (by omega)]
    have e : ((v.toBitVec.signExtend 32).signExtend 8).getLsbD 7 = v.toBitVec.getLsbD 7 := by rw [nr_sx _ _ _ (by omega), if_pos (by omega), nr_sx _ _ _ (by omega), if_pos (by omega)]
    by_cases h2 : i < 32
    · rw [if_pos h2, nr_sx _ _ _ h2, if_neg h]; exact e.symm
    · rw [if_neg h2, nr_sx _ _ _ (by omega), if_neg (by omega)]; exact e.symm
theorem nr16 (v : Int64) : (v <<< ((48 : Int32).toInt64 &&& 63)) >>> ((48 : Int32).toInt64 &&& 63) = v.toInt32.toInt16.toInt32.toInt64 := by
  apply Int64.toBitVec_inj.mp
  show ((v.toBitVec <<< (((48 : Int32).toInt64 &&& 63).toBitVec.smod 64).toNat).sshiftRight (((48 : Int32).toInt64 &&& 63).toBitVec.smod 64).toNat) = (((v.toBitVec.signExtend 32).signExtend 16).signExtend 32).signExtend 64
  rw [nr_e48]
  apply BitVec.eq_of_getLsbD_eq
  intro i hi
  rw [nr_sh _ _ _ hi (by omega), nr_sx _ _ _ hi]
  by_cases h : i < 16
  · rw [if_pos (by omega), if_pos (by omega), nr_sx _ _ _ (by omega), if_pos h, nr_sx _ _ _ h, if_pos (by omega), nr_sx _ _ _ (by omega), if_pos (by omega)]
  · rw [if_neg (by omega)]
    have e : ((v.toBitVec.signExtend 32).signExtend 16).getLsbD 15 = v.toBitVec.getLsbD 15 := by rw [nr_sx _ _ _ (by omega), if_pos (by omega), nr_sx _ _ _ (by omega), if_pos (by omega)]
    by_cases h2 : i < 32
    · rw [if_pos h2, nr_sx _ _ _ h2, if_neg h]; exact e.symm
    · rw [if_neg h2, nr_sx _ _ _ (by omega), if_neg (by omega)]; exact e.symm
