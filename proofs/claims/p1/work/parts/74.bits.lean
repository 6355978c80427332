/-! BITS -/
theorem I_ofNat (a : Nat) : (I (a : Int)).toBitVec = BitVec.ofNat 32 a := by
  unfold I
  rw [Int32.toBitVec_ofInt, BitVec.ofInt_natCast]
theorem I_or (a b : Nat) : I (a : Int) ||| I (b : Int) = I ((a ||| b : Nat) : Int) := Int32.toBitVec_inj.mp (by
  rw [Int32.toBitVec_or, I_ofNat, I_ofNat, I_ofNat, BitVec.ofNat_or])
theorem I_and (a b : Nat) : I (a : Int) &&& I (b : Int) = I ((a &&& b : Nat) : Int) := Int32.toBitVec_inj.mp (by
  rw [Int32.toBitVec_and, I_ofNat, I_ofNat, I_ofNat, BitVec.ofNat_and])
theorem I_shm {k : Nat} (hk : k < 32) : (I (k : Int) &&& 31).toBitVec.smod 32 = BitVec.ofNat 32 k := by
  rw [show (31 : Int32) = I ((31 : Nat) : Int) from rfl, I_and, I_ofNat, show (k &&& 31) = k from by
    rw [show (31 : Nat) = 2 ^ 5 - 1 from rfl, Nat.and_two_pow_sub_one_eq_mod]
    omega]
  revert hk
  revert k
  decide
theorem I_shl {a k : Nat} (hk : k < 32) : I (a : Int) <<< (I (k : Int) &&& 31) = I ((a <<< k : Nat) : Int) := Int32.toBitVec_inj.mp (by
  rw [Int32.toBitVec_shiftLeft, I_shm hk, I_ofNat, I_ofNat, BitVec.shiftLeft_ofNat_eq, Nat.mod_eq_of_lt (by omega)]
  apply BitVec.eq_of_toNat_eq
  simp [Nat.shiftLeft_eq])
theorem I_shr {a k : Nat} (ha : a < 2147483648) (hk : k < 32) : I (a : Int) >>> (I (k : Int) &&& 31) = I ((a >>> k : Nat) : Int) := Int32.toBitVec_inj.mp (by
  rw [Int32.toBitVec_shiftRight, I_shm hk, I_ofNat, I_ofNat]
  apply BitVec.eq_of_toNat_eq
  have hm : (BitVec.ofNat 32 a).msb = false := by
    rw [BitVec.msb_eq_decide]
    simp
    omega
  rw [BitVec.toNat_sshiftRight'_of_msb_false hm]
  simp [Nat.mod_eq_of_lt (show a < 4294967296 by omega), Nat.mod_eq_of_lt (show k < 4294967296 by omega)]
  rw [Nat.mod_eq_of_lt]
  exact Nat.lt_of_le_of_lt (Nat.shiftRight_le _ _) (by omega))
