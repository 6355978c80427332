/-! HOW MANY BITS -/
def sw1 (x : Nat) : Nat := x - ((x >>> 1) &&& 1431655765)
def sw2 (v : Nat) : Nat := (v &&& 858993459) + ((v >>> 2) &&& 858993459)
def sw3 (v : Nat) : Nat := (v + (v >>> 4)) &&& 252645135
def sw4 (v : Nat) : Nat := v + (v >>> 8)
def sw5 (v : Nat) : Nat := (v + (v >>> 16)) &&& 63
def bcN (x : Nat) : Nat := sw5 (sw4 (sw3 (sw2 (sw1 x))))
theorem and_st (a b k : Nat) : a &&& b = (a % 2 ^ k &&& b % 2 ^ k) + 2 ^ k * (a / 2 ^ k &&& b / 2 ^ k) := by
  rw [← Nat.and_mod_two_pow, ← Nat.and_div_two_pow]
  exact (Nat.mod_add_div _ _).symm
def cntB (x : Nat) : Nat → Nat
  | 0 => 0
  | d + 1 => cntB x d + (x.testBit d).toNat
def bq1 (x : Nat) : Nat := x - ((x >>> 1) &&& 85)
def bq2 (v : Nat) : Nat := (v &&& 51) + ((v >>> 2) &&& 51)
def bq3 (v : Nat) : Nat := (v + (v >>> 4)) &&& 15
theorem bq_sm : ∀ a, a < 256 → (bq1 a < 256 ∧ bq2 (bq1 a) < 256) ∧ bq2 (bq1 a) / 16 ≤ 4 ∧ bq2 (bq1 a) % 16 ≤ 4 ∧ bq3 (bq2 (bq1 a)) = cntB a 8 ∧ cntB a 8 ≤ 8 := by decide +kernel
theorem bq_and : ∀ a, a < 256 → ∀ t, t < 2 → (a / 2 + 128 * t) &&& 85 = (a >>> 1) &&& 85 := by decide +kernel
theorem bq_and2 : ∀ a, a < 256 → ∀ t, t < 4 → (a / 4 + 64 * t) &&& 51 = (a >>> 2) &&& 51 := by decide +kernel
theorem bq_c : ∀ c, c < 16 → bq1 c = c - ((c >>> 1) &&& 21845) ∧ bq2 (bq1 c) = (bq1 c &&& 13107) + ((bq1 c >>> 2) &&& 13107) ∧ bq3 (bq2 (bq1 c)) = (bq2 (bq1 c) + (bq2 (bq1 c) >>> 4)) &&& 3855 ∧ (c >>> 1) &&& 21845 ≤ c ∧ cntB c 8 = cntB c 4 := by decide +kernel
theorem bs_1 {a b m : Nat} (h : a < 256) : ((256 * b + a) >>> 1) &&& (256 * m + 85) = 256 * ((b >>> 1) &&& m) + ((a >>> 1) &&& 85) := by
  rw [and_st _ _ 8, ← bq_and a h (b % 2) (by omega), Nat.add_comm]
  simp only [Nat.shiftRight_eq_div_pow]
  rw [show (256 * b + a) / 2 ^ 1 % 2 ^ 8 = a / 2 + 128 * (b % 2) by omega, show (256 * b + a) / 2 ^ 1 / 2 ^ 8 = b / 2 ^ 1 by omega, show (256 * m + 85) % 2 ^ 8 = 85 by omega, show (256 * m + 85) / 2 ^ 8 = m by omega]
theorem bs_2 {a b m : Nat} (h : a < 256) : ((256 * b + a) >>> 2) &&& (256 * m + 51) = 256 * ((b >>> 2) &&& m) + ((a >>> 2) &&& 51) := by
  rw [and_st _ _ 8, ← bq_and2 a h (b % 4) (by omega), Nat.add_comm]
  simp only [Nat.shiftRight_eq_div_pow]
  rw [show (256 * b + a) / 2 ^ 2 % 2 ^ 8 = a / 4 + 64 * (b % 4) by omega, show (256 * b + a) / 2 ^ 2 / 2 ^ 8 = b / 2 ^ 2 by omega, show (256 * m + 51) % 2 ^ 8 = 51 by omega, show (256 * m + 51) / 2 ^ 8 = m by omega]
theorem bs_0 {a b m : Nat} (h : a < 256) : (256 * b + a) &&& (256 * m + 51) = 256 * (b &&& m) + (a &&& 51) := by
  rw [and_st _ _ 8, Nat.add_comm, show (256 * b + a) % 2 ^ 8 = a by omega, show (256 * b + a) / 2 ^ 8 = b by omega, show (256 * m + 51) % 2 ^ 8 = 51 by omega, show (256 * m + 51) / 2 ^ 8 = m by omega]
theorem bs_3 {a b m : Nat} (h : a < 256) (h1 : a / 16 ≤ 4) (h2 : a % 16 ≤ 4) (h3 : b % 16 ≤ 4) : ((256 * b + a) + ((256 * b + a) >>> 4)) &&& (256 * m + 15) = 256 * ((b + (b >>> 4)) &&& m) + bq3 a := by
  unfold bq3
  rw [and_st _ _ 8, Nat.add_comm]
  simp only [Nat.shiftRight_eq_div_pow]
  rw [show (256 * b + a + (256 * b + a) / 2 ^ 4) / 2 ^ 8 = b + b / 2 ^ 4 by omega, show (256 * m + 15) % 2 ^ 8 = 15 by omega, show (256 * m + 15) / 2 ^ 8 = m by omega]
  congr 1
  rw [show (15 : Nat) = 2 ^ 4 - 1 from rfl, Nat.and_two_pow_sub_one_eq_mod, Nat.and_two_pow_sub_one_eq_mod]
  omega
theorem cntB_lo {a b : Nat} (h : a < 256) : ∀ d, d ≤ 8 → cntB (256 * b + a) d = cntB a d
  | 0, _ => rfl
  | d + 1, hd => by
    show cntB (256 * b + a) d + ((256 * b + a).testBit d).toNat = cntB a d + (a.testBit d).toNat
    rw [cntB_lo h d (by omega), show 256 * b + a = 2 ^ 8 * b + a from rfl, Nat.testBit_two_pow_mul_add b (show a < 2 ^ 8 from h), if_pos (show d < 8 by omega)]
theorem cntB_hi {a b : Nat} (h : a < 256) : ∀ d, cntB (256 * b + a) (8 + d) = cntB a 8 + cntB b d
  | 0 => cntB_lo h 8 (by omega)
  | d + 1 => by
    show cntB (256 * b + a) (8 + d) + ((256 * b + a).testBit (8 + d)).toNat = cntB a 8 + (cntB b d + (b.testBit d).toNat)
    rw [cntB_hi h d, show 256 * b + a = 2 ^ 8 * b + a from rfl, Nat.testBit_two_pow_mul_add b (show a < 2 ^ 8 from h), if_neg (show ¬ 8 + d < 8 by omega), show 8 + d - 8 = d by omega]
    omega
theorem sub_3 {a b c p q r : Nat} (h1 : p ≤ a) (h2 : q ≤ b) (h3 : r ≤ c) : 256 * (256 * c + b) + a - (256 * (256 * r + q) + p) = 256 * (256 * (c - r) + (b - q)) + (a - p) := by omega
theorem add_3 {x1 x2 x3 x4 x5 x6 : Nat} : 256 * (256 * x1 + x3) + x5 + (256 * (256 * x2 + x4) + x6) = 256 * (256 * (x1 + x2) + (x3 + x4)) + (x5 + x6) := by omega
theorem bcN_cnt {x : Nat} (h : x < 1048576) : bcN x = cntB x 20 := by
  obtain ⟨a, b, c, rfl, ha, hb, hc⟩ : ∃ a b c, x = 256 * (256 * c + b) + a ∧ a < 256 ∧ b < 256 ∧ c < 16 := ⟨x % 256, x / 256 % 256, x / 65536, by omega, by omega, by omega, by omega⟩
  clear h
  rw [show (20 : Nat) = 8 + (8 + 4) from rfl, cntB_hi ha, cntB_hi hb]
  obtain ⟨⟨a0, a1⟩, a2, a3, a4, a5⟩ := bq_sm a ha
  obtain ⟨⟨b0, b1⟩, b2, b3, b4, b5⟩ := bq_sm b hb
  obtain ⟨-, c2, c3, c4, c5⟩ := bq_sm c (by omega)
  obtain ⟨d1, d2, d3, d4, d5⟩ := bq_c c hc
  have e1 : sw1 (256 * (256 * c + b) + a) = 256 * (256 * bq1 c + bq1 b) + bq1 a := by
    unfold sw1
    rw [show (1431655765 : Nat) = 256 * (256 * 21845 + 85) + 85 from rfl, bs_1 ha, bs_1 hb, sub_3 (Nat.le_trans Nat.and_le_left (Nat.shiftRight_le _ _)) (Nat.le_trans Nat.and_le_left (Nat.shiftRight_le _ _)) d4, ← d1]
    rfl
  have e2 : sw2 (256 * (256 * bq1 c + bq1 b) + bq1 a) = 256 * (256 * bq2 (bq1 c) + bq2 (bq1 b)) + bq2 (bq1 a) := by
    unfold sw2
    rw [show (858993459 : Nat) = 256 * (256 * 13107 + 51) + 51 from rfl, bs_0 a0, bs_2 a0, bs_0 b0, bs_2 b0, d2]
    unfold bq2
    exact add_3
  have e3 : sw3 (256 * (256 * bq2 (bq1 c) + bq2 (bq1 b)) + bq2 (bq1 a)) = 256 * (256 * cntB c 4 + cntB b 8) + cntB a 8 := by
    unfold sw3
    rw [show (252645135 : Nat) = 256 * (256 * 3855 + 15) + 15 from rfl, bs_3 a1 a2 a3 (by omega), bs_3 b1 b2 b3 c3, ← d3, a4, b4, c4, d5]
  unfold bcN
  rw [e1, e2, e3]
  rw [d5] at c5
  generalize cntB a 8 = A at a5 ⊢
  generalize cntB b 8 = B at b5 ⊢
  generalize cntB c 4 = C at c5 ⊢
  unfold sw5 sw4
  rw [show (63 : Nat) = 2 ^ 6 - 1 from rfl, Nat.and_two_pow_sub_one_eq_mod]
  simp only [Nat.shiftRight_eq_div_pow]
  clear e1 e2 e3 a0 a1 a2 a3 a4 b0 b1 b2 b3 b4 c2 c3 c4 d1 d2 d3 d4 d5 ha hb hc
  rw [show (256 * (256 * C + B) + A) / 2 ^ 8 = 256 * C + B by omega, show (256 * (256 * C + B) + A + (256 * C + B)) / 2 ^ 16 = C by omega]
  omega
theorem bl_cnt (m : Nat) : (bl m 0).length = cntB m 20 := by
  have h : ∀ d, ((List.range' 0 d).filter (fun j => m.testBit j)).length = cntB m d := by
    intro d
    induction d with
    | zero => rfl
    | succ d ih =>
      rw [List.range'_concat, List.filter_append, List.length_append, ih]
      show _ = cntB m d + (m.testBit d).toNat
      congr 1
      cases hb : m.testBit d <;> simp [hb]
  exact h 20
theorem bcN_ok {m : Nat} (h : m < 1048576) : bcN m = (bl m 0).length := by
  rw [bl_cnt, bcN_cnt h]
theorem I_ushr {a k : Nat} (ha : a < 2147483648) (hk : k < 32) : ((I (a : Int)).toUInt32 >>> ((I (k : Int)).toUInt32 &&& Int32.toUInt32 31)).toInt32 = I ((a >>> k : Nat) : Int) := by
  have e : ∀ n : Nat, (I (n : Int)).toUInt32 = UInt32.ofNat n := fun n => by
    unfold I
    rw [Int32.ofInt_eq_ofNat, Int32.toUInt32_ofNat']
  have e2 : UInt32.ofNat a >>> (UInt32.ofNat k &&& Int32.toUInt32 31) = UInt32.ofNat (a >>> k) := by
    apply UInt32.toNat_inj.mp
    rw [UInt32.toNat_shiftRight, UInt32.toNat_and, UInt32.toNat_ofNat_of_lt' (show a < 4294967296 by omega), UInt32.toNat_ofNat_of_lt' (show k < 4294967296 by omega), UInt32.toNat_ofNat_of_lt' (show a >>> k < 4294967296 from Nat.lt_of_le_of_lt (Nat.shiftRight_le _ _) (by omega))]
    have e3 : k &&& (Int32.toUInt32 31).toNat = k := by
      show k &&& 31 = k
      rw [show (31 : Nat) = 2 ^ 5 - 1 from rfl, Nat.and_two_pow_sub_one_eq_mod]
      omega
    rw [e3, Nat.mod_eq_of_lt (show k < 32 by omega)]
  rw [e, e, e2]
  unfold I
  rw [Int32.ofInt_eq_ofNat]
  rfl
theorem I_ushr2 {a k : Nat} (ha : a < 2147483648) (hk : k < 32) : ((I (a : Int)).toUInt32 >>> ((I (k : Int)).toUInt32 &&& (I ((31 : Nat) : Int)).toUInt32)).toInt32 = I ((a >>> k : Nat) : Int) := I_ushr ha hk
theorem and_le_r (a b : Nat) : a &&& b ≤ b := Nat.and_le_right
theorem x_bitCount {F m : Nat} {M : cM} (h : m < 1048576) : f_J6_bitCount_0f7a4 F (I (m : Nat)) M = some (I ((bl m 0).length : Nat), M) := by
  rw [← bcN_ok h]
  have b1 : (m >>> 1) &&& 1431655765 ≤ m := Nat.le_trans Nat.and_le_left (Nat.shiftRight_le _ _)
  have b2 := and_le_r (m - ((m >>> 1) &&& 1431655765)) 858993459
  have b3 := and_le_r ((m - ((m >>> 1) &&& 1431655765)) >>> 2) 858993459
  have b4 := Nat.shiftRight_le (((m - ((m >>> 1) &&& 1431655765)) &&& 858993459) + (((m - ((m >>> 1) &&& 1431655765)) >>> 2) &&& 858993459)) 4
  have c2 : (m - ((m >>> 1) &&& 1431655765)) &&& 858993459 ≤ m - ((m >>> 1) &&& 1431655765) := Nat.and_le_left
  have c3 : ((m - ((m >>> 1) &&& 1431655765)) >>> 2) &&& 858993459 ≤ (m - ((m >>> 1) &&& 1431655765)) >>> 2 := Nat.and_le_left
  have c4 := Nat.shiftRight_le (m - ((m >>> 1) &&& 1431655765)) 2
  have b5 := and_le_r ((((m - ((m >>> 1) &&& 1431655765)) &&& 858993459) + (((m - ((m >>> 1) &&& 1431655765)) >>> 2) &&& 858993459)) + ((((m - ((m >>> 1) &&& 1431655765)) &&& 858993459) + (((m - ((m >>> 1) &&& 1431655765)) >>> 2) &&& 858993459)) >>> 4)) 252645135
  have b6 := Nat.shiftRight_le (((((m - ((m >>> 1) &&& 1431655765)) &&& 858993459) + (((m - ((m >>> 1) &&& 1431655765)) >>> 2) &&& 858993459)) + ((((m - ((m >>> 1) &&& 1431655765)) &&& 858993459) + (((m - ((m >>> 1) &&& 1431655765)) >>> 2) &&& 858993459)) >>> 4)) &&& 252645135) 8
  simp (disch := first | assumption | omega | exact is_Script_draft | exact is_Script_made | exact is_Learner_made | exact is_Learner_madeFirst | (apply is_eScript_tasks; omega) | (apply is_eScript_lines; omega) | (apply is_eScript_ranBy; omega)) only [↓reduceIte, ↓I_n1, obs, I_0n, l_1, l_2, l_3, l_4, l_5, l_6, l_7, l_8, l_11, l_12, l_15, l_16, l_18, l_20, l_21, l_29, l_30, l_31, l_32, l_33, l_39, l_40, l_44, l_45, l_46, l_47, l_48, l_53, l_57, l_63, l_64, l_65, l_66, l_71, l_72, l_75, l_90, l_97, l_120, l_122, l_127, l_128, l_1812, l_3600, l_4000, l_252645135, l_268435456, l_858993459, l_1431655765, I_add, I_mul, I_sub, I_addN, I_mulN, I_subN, ilt_t, ilt_f, ile_t, ile_f, ieq_t, ieq_f, up_same, up_up, I_and, I_or, I_shlN, I_shrN, I_divN, I_remN, dzI, i2cI, narI, Int.toNat_natCast, true_or, or_true, false_or, or_false, true_and, and_true, false_and, and_false, not_true_eq_false, not_false_eq_true, f_J6_bitCount_0f7a4, f_J6_bitCount_0f7a4_0, b_J6_bitCount_0f7a4_0, f_J6_bitCount_0f7a4_24, b_J6_bitCount_0f7a4_24, I_ushr2]
  rfl
