/-! the told numbers as the model reads them -/
theorem su_tl_sh : ∀ i, i < 6 → ((nI (6 * i)).toInt64 &&& 63).toBitVec.smod 64 = BitVec.ofNat 64 (6 * i) := by decide +kernel
theorem su_tl_bn {h : Int64} {i : Nat} (hi : i < 6) : ((h >>> ((nI (6 * i)).toInt64 &&& 63)).toInt32 &&& (63 : Int32)) = nI (bn h i) := by
  apply Int32.toBitVec_inj.mp
  rw [Int32.toBitVec_and, Int64.toBitVec_toInt32, Int64.toBitVec_shiftRight, su_tl_sh i hi]
  apply BitVec.eq_of_getLsbD_eq
  intro j hj
  have e1 : (nI (bn h i)).toBitVec = BitVec.ofNat 32 (bn h i) := rfl
  have e2 : (63 : Int32).toBitVec = BitVec.ofNat 32 (2 ^ 6 - 1) := rfl
  have e3 : (BitVec.ofNat 64 (6 * i)).toNat = 6 * i := by rw [BitVec.toNat_ofNat]; omega
  rw [e1, e2, BitVec.getLsbD_and, BitVec.getLsbD_signExtend, BitVec.getLsbD_ofNat, BitVec.getLsbD_ofNat, Nat.testBit_two_pow_sub_one, BitVec.sshiftRight_eq', e3, BitVec.getLsbD_sshiftRight]
  have e4 : (bn h i).testBit j = (decide (j < 6) && h.toBitVec.toNat.testBit (6 * i + j)) := by
    have e5 : bn h i = h.toBitVec.toNat / 2 ^ (6 * i) % 2 ^ 6 := rfl
    rw [e5, Nat.testBit_mod_two_pow, Nat.testBit_div_two_pow, Nat.add_comm]
  rw [e4]
  by_cases h6 : j < 6
  · have h7 : ¬ 64 ≤ j := by omega
    have h8 : 6 * i + j < 64 := by omega
    have h9 : j < 64 := by omega
    simp only [hj, h6, h8, h9, decide_true, Bool.true_and, Bool.and_true, if_true]
    simp [h7, BitVec.getLsbD]
  · simp only [h6, decide_false, Bool.false_and, Bool.and_false]
