/-! HOW MANY BITS -/
def sw1 (x : Nat) : Nat := x - ((x >>> 1) &&& 1431655765)
def sw2 (v : Nat) : Nat := (v &&& 858993459) + ((v >>> 2) &&& 858993459)
def sw3 (v : Nat) : Nat := (v + (v >>> 4)) &&& 252645135
def sw4 (v : Nat) : Nat := v + (v >>> 8)
def sw5 (v : Nat) : Nat := (v + (v >>> 16)) &&& 63
def bcN (x : Nat) : Nat := sw5 (sw4 (sw3 (sw2 (sw1 x))))
theorem and_st (a b k : Nat) : a &&& b = (a % 2 ^ k &&& b % 2 ^ k) + 2 ^ k * (a / 2 ^ k &&& b / 2 ^ k) := by
  rw [← Nat.and_mod_two_pow, ← Nat.and_div_two_pow]
  exact (Nat.mod_add_div _ _).symm
def cntB (x : Nat) : Nat → Nat
  | 0 => 0
  | d + 1 => cntB x d + (x.testBit d).toNat
theorem bcN_cnt {x : Nat} (h : x < 1048576) : bcN x = cntB x 20 := by
  sorry
theorem bl_cnt (m : Nat) : (bl m 0).length = cntB m 20 := by
  have h : ∀ d, ((List.range' 0 d).filter (fun j => m.testBit j)).length = cntB m d := by
    intro d
    induction d with
    | zero => rfl
    | succ d ih =>
      rw [List.range'_concat, List.filter_append, List.length_append, ih]
      show _ = cntB m d + (m.testBit d).toNat
      congr 1
      cases hb : m.testBit d <;> simp [hb]
  exact h 20
theorem bcN_ok {m : Nat} (h : m < 1048576) : bcN m = (bl m 0).length := by
  rw [bl_cnt, bcN_cnt h]
theorem I_ushr {a k : Nat} (ha : a < 2147483648) (hk : k < 32) : ((I (a : Int)).toUInt32 >>> ((I (k : Int)).toUInt32 &&& Int32.toUInt32 31)).toInt32 = I ((a >>> k : Nat) : Int) := by
  have e : ∀ n : Nat, (I (n : Int)).toUInt32 = UInt32.ofNat n := fun n => by
    unfold I
    rw [Int32.ofInt_eq_ofNat, Int32.toUInt32_ofNat']
  have e2 : UInt32.ofNat a >>> (UInt32.ofNat k &&& Int32.toUInt32 31) = UInt32.ofNat (a >>> k) := by
    apply UInt32.toNat_inj.mp
    rw [UInt32.toNat_shiftRight, UInt32.toNat_and, UInt32.toNat_ofNat_of_lt' (show a < 4294967296 by omega), UInt32.toNat_ofNat_of_lt' (show k < 4294967296 by omega), UInt32.toNat_ofNat_of_lt' (show a >>> k < 4294967296 from Nat.lt_of_le_of_lt (Nat.shiftRight_le _ _) (by omega))]
    have e3 : k &&& (Int32.toUInt32 31).toNat = k := by
      show k &&& 31 = k
      rw [show (31 : Nat) = 2 ^ 5 - 1 from rfl, Nat.and_two_pow_sub_one_eq_mod]
      omega
    rw [e3, Nat.mod_eq_of_lt (show k < 32 by omega)]
  rw [e, e, e2]
  unfold I
  rw [Int32.ofInt_eq_ofNat]
  rfl
theorem I_ushr2 {a k : Nat} (ha : a < 2147483648) (hk : k < 32) : ((I (a : Int)).toUInt32 >>> ((I (k : Int)).toUInt32 &&& (I ((31 : Nat) : Int)).toUInt32)).toInt32 = I ((a >>> k : Nat) : Int) := I_ushr ha hk
theorem and_le_r (a b : Nat) : a &&& b ≤ b := Nat.and_le_right
theorem x_bitCount {F m : Nat} {M : cM} (h : m < 1048576) : f_J6_bitCount_0f7a4 F (I (m : Nat)) M = some (I ((bl m 0).length : Nat), M) := by
  rw [← bcN_ok h]
  have b1 : (m >>> 1) &&& 1431655765 ≤ m := Nat.le_trans Nat.and_le_left (Nat.shiftRight_le _ _)
  have b2 := and_le_r (m - ((m >>> 1) &&& 1431655765)) 858993459
  have b3 := and_le_r ((m - ((m >>> 1) &&& 1431655765)) >>> 2) 858993459
  have b4 := Nat.shiftRight_le (((m - ((m >>> 1) &&& 1431655765)) &&& 858993459) + (((m - ((m >>> 1) &&& 1431655765)) >>> 2) &&& 858993459)) 4
  have c2 : (m - ((m >>> 1) &&& 1431655765)) &&& 858993459 ≤ m - ((m >>> 1) &&& 1431655765) := Nat.and_le_left
  have c3 : ((m - ((m >>> 1) &&& 1431655765)) >>> 2) &&& 858993459 ≤ (m - ((m >>> 1) &&& 1431655765)) >>> 2 := Nat.and_le_left
  have c4 := Nat.shiftRight_le (m - ((m >>> 1) &&& 1431655765)) 2
  have b5 := and_le_r ((((m - ((m >>> 1) &&& 1431655765)) &&& 858993459) + (((m - ((m >>> 1) &&& 1431655765)) >>> 2) &&& 858993459)) + ((((m - ((m >>> 1) &&& 1431655765)) &&& 858993459) + (((m - ((m >>> 1) &&& 1431655765)) >>> 2) &&& 858993459)) >>> 4)) 252645135
  have b6 := Nat.shiftRight_le (((((m - ((m >>> 1) &&& 1431655765)) &&& 858993459) + (((m - ((m >>> 1) &&& 1431655765)) >>> 2) &&& 858993459)) + ((((m - ((m >>> 1) &&& 1431655765)) &&& 858993459) + (((m - ((m >>> 1) &&& 1431655765)) >>> 2) &&& 858993459)) >>> 4)) &&& 252645135) 8
  simp (disch := first | assumption | omega | exact is_Script_draft | exact is_Script_made | exact is_Learner_made | exact is_Learner_madeFirst | (apply is_eScript_tasks; omega) | (apply is_eScript_lines; omega) | (apply is_eScript_ranBy; omega)) only [↓reduceIte, ↓I_n1, obs, I_0n, l_1, l_2, l_3, l_4, l_5, l_6, l_7, l_8, l_11, l_12, l_15, l_16, l_18, l_20, l_21, l_29, l_30, l_31, l_32, l_33, l_39, l_40, l_44, l_45, l_46, l_47, l_48, l_53, l_57, l_63, l_64, l_65, l_66, l_71, l_72, l_75, l_90, l_97, l_120, l_122, l_127, l_128, l_1812, l_3600, l_4000, l_252645135, l_268435456, l_858993459, l_1431655765, I_add, I_mul, I_sub, I_addN, I_mulN, I_subN, ilt_t, ilt_f, ile_t, ile_f, ieq_t, ieq_f, up_same, up_up, I_and, I_or, I_shlN, I_shrN, I_divN, I_remN, dzI, i2cI, narI, Int.toNat_natCast, true_or, or_true, false_or, or_false, true_and, and_true, false_and, and_false, not_true_eq_false, not_false_eq_true, f_J6_bitCount_0f7a4, f_J6_bitCount_0f7a4_0, b_J6_bitCount_0f7a4_0, f_J6_bitCount_0f7a4_24, b_J6_bitCount_0f7a4_24, I_ushr2]
  rfl
