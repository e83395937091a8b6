/-! the reference: send -/
theorem lsbm3 (b : BitVec 32) (n m : Nat) (h : n + m ≤ 32) : (b.sshiftRight n &&& BitVec.ofNat 32 (2 ^ m - 1)).toNat = b.toNat / 2 ^ n % 2 ^ m := by
  apply Nat.eq_of_testBit_eq
  intro i
  rw [BitVec.testBit_toNat, BitVec.getLsbD_and, Nat.testBit_mod_two_pow, Nat.testBit_div_two_pow, BitVec.testBit_toNat, BitVec.getLsbD_ofNat, Nat.testBit_two_pow_sub_one, BitVec.getLsbD_sshiftRight]
  by_cases hi : i < m
  · simp only [show ¬ 32 ≤ i by omega, show n + i < 32 by omega, hi, show i < 32 by omega, decide_true, decide_false, Bool.not_false, Bool.true_and, Bool.and_true, if_true, Nat.add_comm i n]
  · simp [hi]
/-- a byte of a number of four -/
theorem shb {v k : Nat} (hv : v < 2 ^ 32) (hk : k < 4) : mBop 3 (mBop 7 (nI v) (nI (8 * k))) (nI 255) = nI (v / 2 ^ (8 * k) % 256) := by
  apply Int32.toBitVec_inj.mp
  apply BitVec.eq_of_toNat_eq
  rw [pk_tn (by omega)]
  have e2 : (mBop 3 (mBop 7 (nI v) (nI (8 * k))) (nI 255)).toBitVec = (nI v).toBitVec.sshiftRight (8 * k) &&& BitVec.ofNat 32 (2 ^ 8 - 1) := by
    show (nI v >>> (nI (8 * k) &&& 31) &&& nI 255).toBitVec = _
    rw [Int32.toBitVec_and, Int32.toBitVec_shiftRight, BitVec.sshiftRight', sh_e (8 * k) (by omega)]
    rfl
  rw [e2, lsbm3 _ _ _ (by omega), pk_tn hv]
