/-! INTS: Int32 values as I n -/
theorem I_toInt (x : Int32) : I x.toInt = x := by
  unfold I
  exact Int32.ofInt_toInt x
theorem I_ex (x : Int32) : ∃ n : Int, x = I n ∧ -2147483648 ≤ n ∧ n < 2147483648 := ⟨x.toInt, (I_toInt x).symm, x.le_toInt, x.toInt_lt⟩
theorem toInt_I {a : Int} (h0 : -2147483648 ≤ a) (h1 : a < 2147483648) : (I a).toInt = a := by
  unfold I
  exact Int32.toInt_ofInt_of_le (by omega) (by omega)
theorem I_lt {a b : Int} (h0 : -2147483648 ≤ a) (h1 : a < 2147483648) (h2 : -2147483648 ≤ b) (h3 : b < 2147483648) : (I a < I b) = (a < b) := by
  rw [Int32.lt_iff_toInt_lt, toInt_I h0 h1, toInt_I h2 h3]
theorem I_le {a b : Int} (h0 : -2147483648 ≤ a) (h1 : a < 2147483648) (h2 : -2147483648 ≤ b) (h3 : b < 2147483648) : (I a ≤ I b) = (a ≤ b) := by
  rw [Int32.le_iff_toInt_le, toInt_I h0 h1, toInt_I h2 h3]
theorem I_eq {a b : Int} (h0 : -2147483648 ≤ a) (h1 : a < 2147483648) (h2 : -2147483648 ≤ b) (h3 : b < 2147483648) : (I a = I b) = (a = b) := by
  rw [← Int32.toInt_inj, toInt_I h0 h1, toInt_I h2 h3]
theorem I_add (a b : Int) : I a + I b = I (a + b) := (Int32.ofInt_add a b).symm
theorem I_mul (a b : Int) : I a * I b = I (a * b) := (Int32.ofInt_mul a b).symm
theorem I_neg (a : Int) : - I a = I (- a) := (Int32.ofInt_neg a).symm
theorem I_sub (a b : Int) : I a - I b = I (a - b) := (Int32.ofInt_sub a b).symm
theorem I_lit (n : Nat) [NeZero n] : (no_index (OfNat.ofNat n) : Int32) = I (n : Int) := (Int32.ofInt_eq_ofNat).symm
theorem I_0 : (0 : Int32) = I 0 := rfl
theorem I_1 : (1 : Int32) = I 1 := rfl
theorem I_n1 : (-1 : Int32) = I (-1) := rfl
