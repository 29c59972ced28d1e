/-! ===== a long shifted right with its sign ===== -/
def asrN (n k : Nat) : Nat := (lN n >>> lN k).toBitVec.toNat
theorem asrN_lt (n k : Nat) : asrN n k < 2 ^ 64 := (lN n >>> lN k).toBitVec.isLt
theorem asr_e (n : Nat) {k : Nat} (hk : k < 64) : lN n >>> ((iI (k : Int)).toInt64 &&& 63) = lN (asrN n k) := by
  rw [iI_nat, wb_c k hk]
  apply wb_inj
  rw [wb_tb]
  unfold asrN
  rw [BitVec.ofNat_toNat, BitVec.setWidth_eq]
theorem asr_bv (n : Nat) {k : Nat} (hk : k < 64) : (lN n >>> lN k).toBitVec = (BitVec.ofNat 64 n).sshiftRight k := by
  rw [Int64.toBitVec_shiftRight, wb_tb, wb_tb, wb_sm k hk, BitVec.sshiftRight_eq', BitVec.toNat_ofNat, Nat.mod_eq_of_lt (show k < 2 ^ 64 by omega)]
theorem asr_tb {n k j : Nat} (hn : n < 2 ^ 64) (hk : k < 64) (h : k + j < 64) : (asrN n k).testBit j = n.testBit (k + j) := by
  unfold asrN
  rw [asr_bv n hk, BitVec.testBit_toNat, BitVec.getLsbD_sshiftRight, if_pos h, ← BitVec.testBit_toNat, BitVec.toNat_ofNat, Nat.mod_eq_of_lt hn]
  simp
  omega
theorem asr_low {n k m : Nat} (hn : n < 2 ^ 64) (hk : k < 64) (h : k + m ≤ 64) : asrN n k % 2 ^ m = n / 2 ^ k % 2 ^ m := by
  apply Nat.eq_of_testBit_eq
  intro j
  rw [Nat.testBit_mod_two_pow, Nat.testBit_mod_two_pow, Nat.testBit_div_two_pow]
  by_cases hj : j < m
  · rw [asr_tb hn hk (by omega), Nat.add_comm]
  · simp [hj]
