/-! LONGS AS SETS OF BITS -/
def bj (x : Int64) (b : Nat) : Bool := x.toBitVec.getLsbD b
theorem bj_or {x y : Int64} {b : Nat} : bj (x ||| y) b = (bj x b || bj y b) := by
  unfold bj
  rw [Int64.toBitVec_or, BitVec.getLsbD_or]
theorem bj_and {x y : Int64} {b : Nat} : bj (x &&& y) b = (bj x b && bj y b) := by
  unfold bj
  rw [Int64.toBitVec_and, BitVec.getLsbD_and]
theorem sh63 {k : Nat} (hk : k < 64) : ((I (k : Int)).toInt64 &&& 63).toBitVec.smod 64 = BitVec.ofNat 64 k := by
  revert hk
  revert k
  decide +kernel
theorem bj_shl {x : Int64} {k b : Nat} (hk : k < 64) (hb : b < 64) : bj (x <<< ((I (k : Int)).toInt64 &&& 63)) b = (decide (k ≤ b) && bj x (b - k)) := by
  unfold bj
  rw [Int64.toBitVec_shiftLeft, sh63 hk, BitVec.shiftLeft_eq', BitVec.toNat_ofNat, Nat.mod_eq_of_lt (by omega), BitVec.getLsbD_shiftLeft, decide_eq_true hb, Bool.true_and]
  by_cases h : b < k
  · rw [decide_eq_true h, decide_eq_false (by omega)]
    simp
  · rw [decide_eq_false h, decide_eq_true (by omega)]
    simp
theorem bj_shr {x : Int64} {k b : Nat} (hb : b + k < 64) : bj (x >>> ((I (k : Int)).toInt64 &&& 63)) b = bj x (b + k) := by
  unfold bj
  rw [Int64.toBitVec_shiftRight, sh63 (by omega), BitVec.sshiftRight_eq', BitVec.toNat_ofNat, Nat.mod_eq_of_lt (by omega), BitVec.getLsbD_sshiftRight]
  rw [decide_eq_false (by omega)]
  simp only [Bool.not_false, Bool.true_and]
  rw [if_pos (by omega), Nat.add_comm]
theorem bj_1 {b : Nat} : bj 1 b = decide (b = 0) := by
  unfold bj
  show (1#64).getLsbD b = _
  rw [BitVec.getLsbD_one]
  simp
theorem bj_0 {b : Nat} : bj 0 b = false := by
  unfold bj
  show (0#64).getLsbD b = _
  simp
theorem bj_m1 {b : Nat} (hb : b < 64) : bj (-1) b = true := by
  unfold bj
  show (BitVec.allOnes 64).getLsbD b = true
  rw [BitVec.getLsbD_allOnes]
  exact decide_eq_true hb
theorem bj_ext {x y : Int64} (h : ∀ b, b < 64 → bj x b = bj y b) : x = y := by
  apply Int64.toBitVec_inj.mp
  apply BitVec.eq_of_getLsbD_eq
  intro i hi
  exact h i hi
theorem lgc {x y : Int64} : (lg_cmp x y = I ((0 : Nat) : Int)) = (x = y) := by
  unfold lg_cmp
  apply propext
  by_cases h : x > y
  · rw [if_pos h]
    constructor
    · intro q
      exact absurd q (by decide)
    · intro q
      subst q
      exact absurd h Int64.lt_irrefl
  · rw [if_neg h]
    by_cases h2 : x = y
    · rw [if_pos h2]
      exact ⟨fun _ => h2, fun _ => rfl⟩
    · rw [if_neg h2]
      exact ⟨fun q => absurd q (by decide), fun q => absurd q h2⟩
/-- a bit there: the whole isn't 0 -/
theorem bj_ne {x : Int64} {b : Nat} (h : bj x b = true) : ¬ x = 0 := by
  intro q
  rw [q, bj_0] at h
  cases h
/-- x >> k & 1 is 0 -/
theorem bj_test {x : Int64} {k : Nat} (hk : k < 64) : ((x >>> ((I (k : Int)).toInt64 &&& 63)) &&& 1 = 0) = (bj x k = false) := by
  apply propext
  constructor
  · intro h
    have h1 : bj ((x >>> ((I (k : Int)).toInt64 &&& 63)) &&& 1) 0 = bj x k := by
      rw [bj_and, bj_shr (by omega), bj_1]
      simp
    rw [h, bj_0] at h1
    exact h1.symm
  · intro h
    apply bj_ext
    intro b hb
    rw [bj_and, bj_1, bj_0]
    by_cases c : b = 0
    · subst c
      rw [bj_shr (by omega), Nat.zero_add, h]
      rfl
    · rw [decide_eq_false c, Bool.and_false]
/-- heavier: each weight of a set, on top -/
theorem I_bit {w k : Nat} (hw : w < 2147483648) (hk : k < 32) : (I (w : Int) >>> I ((k &&& 31 : Nat) : Int)) &&& I ((1 : Nat) : Int) = I (((w.testBit k).toNat : Nat) : Int) := by
  rw [I_shrN hw hk, I_and, shr_and1]
section
variable {F : Nat} {M : cM}
theorem x_heav5 {e : Int64} {w : Nat} (hw : w < 8192) : ∀ (f a : Nat) (r : Int64), a ≤ 13 → 14 - a ≤ f → ∃ r', f_X2_heavier_5 F f e (I (w : Nat)) r (I (a : Nat)) M = some (r', M) ∧ (∀ b, b < 64 → bj r b = true → bj r' b = true) ∧ ∀ k b, a ≤ k → k ≤ 12 → w.testBit k = true → bj e b = true → b + k < 64 → bj r' (b + k) = true := by
  intro f
  induction f with
  | zero => intros; omega
  | succ f ih =>
    intro a r ha hf
    rw [s_X2_heavier_5]
    by_cases h0 : e = 0
    · refine ⟨r, ?_, fun _ _ h => h, fun k b _ _ _ hb _ => by rw [h0, bj_0] at hb; cases hb⟩
      simp (disch := first | assumption | omega | exact is_Script_draft | exact is_Script_made | exact is_Learner_made | exact is_Learner_madeFirst | (apply is_eScript_tasks; omega) | (apply is_eScript_lines; omega) | (apply is_eScript_ranBy; omega)) only [↓reduceIte, ↓I_n1, obs, I_0n, l_1, l_2, l_3, l_4, l_5, l_6, l_7, l_8, l_11, l_12, l_15, l_16, l_18, l_20, l_21, l_29, l_30, l_31, l_32, l_33, l_39, l_40, l_44, l_45, l_46, l_47, l_48, l_53, l_57, l_63, l_64, l_65, l_66, l_71, l_72, l_75, l_90, l_97, l_120, l_122, l_127, l_128, l_1812, l_3600, l_4000, l_252645135, l_268435456, l_858993459, l_1431655765, I_add, I_mul, I_sub, I_addN, I_mulN, I_subN, ilt_t, ilt_f, ile_t, ile_f, ieq_t, ieq_f, up_same, up_up, I_and, I_or, I_shlN, I_shrN, I_divN, I_remN, dzI, i2cI, narI, Int.toNat_natCast, true_or, or_true, false_or, or_false, true_and, and_true, false_and, and_false, not_true_eq_false, not_false_eq_true, b_X2_heavier_5, lgc, h0]
    · have hz : (e = 0) = False := eq_false h0
      by_cases g : a ≤ 12
      · have ht : (w >>> a) &&& 1 = (w.testBit a).toNat := shr_and1 w a
        cases hb : w.testBit a
        · rw [hb] at ht
          have ht : (w >>> a) &&& 1 = 0 := ht
          obtain ⟨r', e', h1, h2⟩ := ih (a + 1) r (by omega) (by omega)
          refine ⟨r', ?_, h1, fun k b k1 k2 k3 k4 k5 => ?_⟩
          · simp (disch := first | assumption | omega | exact is_Script_draft | exact is_Script_made | exact is_Learner_made | exact is_Learner_madeFirst | (apply is_eScript_tasks; omega) | (apply is_eScript_lines; omega) | (apply is_eScript_ranBy; omega)) only [↓reduceIte, ↓I_n1, obs, I_0n, l_1, l_2, l_3, l_4, l_5, l_6, l_7, l_8, l_11, l_12, l_15, l_16, l_18, l_20, l_21, l_29, l_30, l_31, l_32, l_33, l_39, l_40, l_44, l_45, l_46, l_47, l_48, l_53, l_57, l_63, l_64, l_65, l_66, l_71, l_72, l_75, l_90, l_97, l_120, l_122, l_127, l_128, l_1812, l_3600, l_4000, l_252645135, l_268435456, l_858993459, l_1431655765, I_add, I_mul, I_sub, I_addN, I_mulN, I_subN, ilt_t, ilt_f, ile_t, ile_f, ieq_t, ieq_f, up_same, up_up, I_and, I_or, I_shlN, I_shrN, I_divN, I_remN, dzI, i2cI, narI, Int.toNat_natCast, true_or, or_true, false_or, or_false, true_and, and_true, false_and, and_false, not_true_eq_false, not_false_eq_true, b_X2_heavier_5, lgc, hz, ht]
            exact e'
          · by_cases c : k = a
            · rw [c, hb] at k3
              cases k3
            · exact h2 k b (by omega) k2 k3 k4 k5
        · rw [hb] at ht
          have ht : (w >>> a) &&& 1 = 1 := ht
          obtain ⟨r', e', h1, h2⟩ := ih (a + 1) (r ||| (e <<< ((I (a : Int)).toInt64 &&& 63))) (by omega) (by omega)
          refine ⟨r', ?_, fun b hb2 h => h1 b hb2 (by rw [bj_or, h]; rfl), fun k b k1 k2 k3 k4 k5 => ?_⟩
          · simp (disch := first | assumption | omega | exact is_Script_draft | exact is_Script_made | exact is_Learner_made | exact is_Learner_madeFirst | (apply is_eScript_tasks; omega) | (apply is_eScript_lines; omega) | (apply is_eScript_ranBy; omega)) only [↓reduceIte, ↓I_n1, obs, I_0n, l_1, l_2, l_3, l_4, l_5, l_6, l_7, l_8, l_11, l_12, l_15, l_16, l_18, l_20, l_21, l_29, l_30, l_31, l_32, l_33, l_39, l_40, l_44, l_45, l_46, l_47, l_48, l_53, l_57, l_63, l_64, l_65, l_66, l_71, l_72, l_75, l_90, l_97, l_120, l_122, l_127, l_128, l_1812, l_3600, l_4000, l_252645135, l_268435456, l_858993459, l_1431655765, I_add, I_mul, I_sub, I_addN, I_mulN, I_subN, ilt_t, ilt_f, ile_t, ile_f, ieq_t, ieq_f, up_same, up_up, I_and, I_or, I_shlN, I_shrN, I_divN, I_remN, dzI, i2cI, narI, Int.toNat_natCast, true_or, or_true, false_or, or_false, true_and, and_true, false_and, and_false, not_true_eq_false, not_false_eq_true, b_X2_heavier_5, lgc, hz, ht]
            exact e'
          · by_cases c : k = a
            · subst c
              apply h1 _ k5
              rw [bj_or, bj_shl (by omega) k5, decide_eq_true (by omega), Nat.add_sub_cancel, k4]
              simp
            · exact h2 k b (by omega) k2 k3 k4 k5
      · refine ⟨r, ?_, fun _ _ h => h, fun k b k1 k2 => absurd k1 (by omega)⟩
        simp (disch := first | assumption | omega | exact is_Script_draft | exact is_Script_made | exact is_Learner_made | exact is_Learner_madeFirst | (apply is_eScript_tasks; omega) | (apply is_eScript_lines; omega) | (apply is_eScript_ranBy; omega)) only [↓reduceIte, ↓I_n1, obs, I_0n, l_1, l_2, l_3, l_4, l_5, l_6, l_7, l_8, l_11, l_12, l_15, l_16, l_18, l_20, l_21, l_29, l_30, l_31, l_32, l_33, l_39, l_40, l_44, l_45, l_46, l_47, l_48, l_53, l_57, l_63, l_64, l_65, l_66, l_71, l_72, l_75, l_90, l_97, l_120, l_122, l_127, l_128, l_1812, l_3600, l_4000, l_252645135, l_268435456, l_858993459, l_1431655765, I_add, I_mul, I_sub, I_addN, I_mulN, I_subN, ilt_t, ilt_f, ile_t, ile_f, ieq_t, ieq_f, up_same, up_up, I_and, I_or, I_shlN, I_shrN, I_divN, I_remN, dzI, i2cI, narI, Int.toNat_natCast, true_or, or_true, false_or, or_false, true_and, and_true, false_and, and_false, not_true_eq_false, not_false_eq_true, b_X2_heavier_5, lgc, hz]
theorem x_heavier {e : Int64} {w : Nat} (hF : 200000 ≤ F) (hw : w < 8192) : ∃ r', f_X2_heavier F e (I (w : Nat)) M = some (r', M) ∧ ∀ k b, k ≤ 12 → w.testBit k = true → bj e b = true → b + k < 64 → bj r' (b + k) = true := by
  obtain ⟨r', e', h1, h2⟩ := x_heav5 (F := F) (M := M) (e := e) hw F 0 0 (by omega) (by omega)
  refine ⟨r', ?_, fun k b k2 k3 k4 k5 => h2 k b (Nat.zero_le _) k2 k3 k4 k5⟩
  simp (disch := first | assumption | omega | exact is_Script_draft | exact is_Script_made | exact is_Learner_made | exact is_Learner_madeFirst | (apply is_eScript_tasks; omega) | (apply is_eScript_lines; omega) | (apply is_eScript_ranBy; omega)) only [↓reduceIte, ↓I_n1, obs, I_0n, l_1, l_2, l_3, l_4, l_5, l_6, l_7, l_8, l_11, l_12, l_15, l_16, l_18, l_20, l_21, l_29, l_30, l_31, l_32, l_33, l_39, l_40, l_44, l_45, l_46, l_47, l_48, l_53, l_57, l_63, l_64, l_65, l_66, l_71, l_72, l_75, l_90, l_97, l_120, l_122, l_127, l_128, l_1812, l_3600, l_4000, l_252645135, l_268435456, l_858993459, l_1431655765, I_add, I_mul, I_sub, I_addN, I_mulN, I_subN, ilt_t, ilt_f, ile_t, ile_f, ieq_t, ieq_f, up_same, up_up, I_and, I_or, I_shlN, I_shrN, I_divN, I_remN, dzI, i2cI, narI, Int.toNat_natCast, true_or, or_true, false_or, or_false, true_and, and_true, false_and, and_false, not_true_eq_false, not_false_eq_true, b_X2_heavier_5, b_X2_heavier_0, f_X2_heavier_0, f_X2_heavier]
  exact e'
end
