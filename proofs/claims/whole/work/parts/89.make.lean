/-! WHAT ATOMS AND PROGRAMS MAKE, IN THE CLASS -/
/-- what is behind acc when an atom's signs are added to it -/
def addP (acc : Tx) (o : Option Tx) : Option Tx := o.bind fun t => if acc.length + t.length ≤ 20 then some (acc ++ t) else none
def runP (acc : Tx) (p : List At) (s : Tx) : Option Tx := match p with
  | [] => some acc
  | a :: p => (addP acc (mkA a s)).bind fun acc' => runP acc' p s
def mkP (p : List At) (s : Tx) : Option Tx := runP [] p s
def low (b : Nat) : Nat := (BitVec.ofNat 32 b &&& -BitVec.ofNat 32 b).toNat
theorem I_low (b : Nat) : I (b : Int) &&& -I (b : Int) = I ((low b : Nat) : Int) := Int32.toBitVec_inj.mp (by
  rw [Int32.toBitVec_and, Int32.toBitVec_neg, I_ofNat, I_ofNat]
  unfold low
  rw [BitVec.ofNat_toNat, BitVec.setWidth_eq])
theorem low_bit {b i : Nat} (hb : b < 4294967296) (hi : i < 32) : (low b).testBit i = (b.testBit i && !(List.range i).any b.testBit) := by
  unfold low
  rw [BitVec.testBit_toNat, BitVec.getLsbD_and, BitVec.getLsbD_neg]
  have e : ∀ j, j < 32 → (BitVec.ofNat 32 b).getLsbD j = b.testBit j := fun j hj => by
    rw [BitVec.getLsbD_ofNat]
    simp [hj]
  have e2 : (decide (∃ j, j < i ∧ (BitVec.ofNat 32 b).getLsbD j = true)) = (List.range i).any b.testBit := by
    rw [Bool.eq_iff_iff, decide_eq_true_iff, List.any_eq_true]
    constructor
    · rintro ⟨j, hj, h⟩
      exact ⟨j, List.mem_range.mpr hj, by rw [← e j (by omega)]; exact h⟩
    · rintro ⟨j, hj, h⟩
      have := List.mem_range.mp hj
      exact ⟨j, this, by rw [e j (by omega)]; exact h⟩
  rw [e i hi, e2]
  cases b.testBit i <;> cases (List.range i).any b.testBit <;> simp [hi]
theorem low_lt (b : Nat) : low b < 4294967296 := (BitVec.ofNat 32 b &&& -BitVec.ofNat 32 b).isLt
theorem and_bit (m i : Nat) : m &&& (1 <<< i) = if m.testBit i = true then 2 ^ i else 0 := by
  rw [Nat.one_shiftLeft, and_p2]
  cases m.testBit i <;> simp
theorem p2_lt {i n : Nat} (h : i < n) : 2 ^ i < 2 ^ n := Nat.pow_lt_pow_right (by decide) h
section
variable {F : Nat}
theorem x_addO {a : Nat} {tx : Nat → ZText} {pg : Nat → ZProg} {le : Nat → ZLearnt} {ln : Nat → ZLine} {tk : Nat → ZTask} {bd : Nat → ZBoard} {vi : Nat → Int32} {va : Nat → Nat → Int32} {vl : Nat → Nat → Int64} {vj : Int64} {la : Option Nat} {me : Nat → Option Nat} (hT : isText a) {s : Tx} (hs : txt (tx a) s) {c : Int} (hc : okS c) (hF : 200000 ≤ F) : ∃ v u r, txt v u ∧ f_X10_add F a (I c) (mk (tx, pg, le, ln, tk, bd, vi, va, vl, vj, la, me)) = some (I ((r : Nat) : Int), mk ((up tx a v), pg, le, ln, tk, bd, vi, va, vl, vj, la, me)) ∧ (s.length < 20 ∧ r = 1 ∧ u = s ++ [c] ∨ s.length = 20 ∧ r = 0) := by
  by_cases h : s.length < 20
  · obtain ⟨v, hv, e⟩ := x_add (F := F) (tx := tx) (pg := pg) (le := le) (ln := ln) (tk := tk) (bd := bd) (vi := vi) (va := va) (vl := vl) (vj := vj) (la := la) (me := me) hT hs hc h (by omega)
    exact ⟨v, s ++ [c], 1, hv, e, Or.inl ⟨h, rfl, rfl⟩⟩
  · have h20 : s.length = 20 := by
      have := hs.2.1
      omega
    refine ⟨tx a, s, 0, hs, ?_, Or.inr ⟨h20, rfl⟩⟩
    rw [up_self]
    exact x_addFull hT hs h20
theorem x_mkConst7 {b : Nat} (hT : isText b) {l : Tx} (h1 : l ≠ []) (h4 : l.length ≤ 4) (ho : okT l) (hF : 200000 ≤ F) : ∀ (m i : Nat) (tx : Nat → ZText) (pg : Nat → ZProg) (le : Nat → ZLearnt) (ln : Nat → ZLine) (tk : Nat → ZTask) (bd : Nat → ZBoard) (vi : Nat → Int32) (va : Nat → Nat → Int32) (vl : Nat → Nat → Int64) (vj : Int64) (la : Option Nat) (me : Nat → Option Nat) (acc : Tx), i ≤ l.length → l.length + 1 - i ≤ m → txt (tx b) acc → ∃ v u r, txt v u ∧ f_X0_makesConst_7 F m (I (cst l : Nat)) b (I (l.length : Nat)) (I (i : Nat)) (mk (tx, pg, le, ln, tk, bd, vi, va, vl, vj, la, me)) = some (I ((r : Nat) : Int), mk ((up tx b v), pg, le, ln, tk, bd, vi, va, vl, vj, la, me)) ∧ (acc.length + (l.length - i) ≤ 20 ∧ r = 1 ∧ u = acc ++ l.drop i ∨ 20 < acc.length + (l.length - i) ∧ r = 0) := by
  intro m
  induction m with
  | zero => intros; omega
  | succ m ih =>
    intro i tx pg le ln tk bd vi va vl vj la me acc hi hm ha
    rw [s_X0_makesConst_7]
    by_cases g : i < l.length
    · obtain ⟨v, u, r, hv, e, hr⟩ := x_addO (F := F) (tx := tx) (pg := pg) (le := le) (ln := ln) (tk := tk) (bd := bd) (vi := vi) (va := va) (vl := vl) (vj := vj) (la := la) (me := me) hT ha (okT_fa ho g) hF
      simp (disch := first | assumption | omega | exact is_Script_draft | exact is_Script_made | exact is_Learner_made | exact is_Learner_madeFirst | (apply is_eScript_tasks; omega) | (apply is_eScript_lines; omega) | (apply is_eScript_ranBy; omega)) only [↓reduceIte, ↓I_n1, obs, I_0n, l_1, l_2, l_3, l_4, l_5, l_6, l_7, l_8, l_11, l_12, l_15, l_16, l_18, l_20, l_21, l_29, l_30, l_31, l_32, l_33, l_39, l_40, l_44, l_45, l_46, l_47, l_48, l_53, l_57, l_63, l_64, l_65, l_66, l_71, l_72, l_75, l_90, l_97, l_120, l_122, l_127, l_128, l_1812, l_3600, l_4000, l_252645135, l_268435456, l_858993459, l_1431655765, I_add, I_mul, I_sub, I_addN, I_mulN, I_subN, ilt_t, ilt_f, ile_t, ile_f, ieq_t, ieq_f, up_same, up_up, I_and, I_or, I_shlN, I_shrN, I_divN, I_remN, dzI, i2cI, narI, Int.toNat_natCast, true_or, or_true, false_or, or_false, true_and, and_true, false_and, and_false, not_true_eq_false, not_false_eq_true, b_X0_makesConst_7, x_signOf h1 h4 ho (i := i) (by omega), e]
      rcases hr with ⟨hl, rfl, rfl⟩ | ⟨hl, rfl⟩
      · obtain ⟨v', u', r', hv', e', hr'⟩ := ih (i + 1) (up tx b v) pg le ln tk bd vi va vl vj la me (acc ++ [fa l i]) (by omega) (by omega) (by rw [up_same]; exact hv)
        simp (disch := first | assumption | omega | exact is_Script_draft | exact is_Script_made | exact is_Learner_made | exact is_Learner_madeFirst | (apply is_eScript_tasks; omega) | (apply is_eScript_lines; omega) | (apply is_eScript_ranBy; omega)) only [↓reduceIte, ↓I_n1, obs, I_0n, l_1, l_2, l_3, l_4, l_5, l_6, l_7, l_8, l_11, l_12, l_15, l_16, l_18, l_20, l_21, l_29, l_30, l_31, l_32, l_33, l_39, l_40, l_44, l_45, l_46, l_47, l_48, l_53, l_57, l_63, l_64, l_65, l_66, l_71, l_72, l_75, l_90, l_97, l_120, l_122, l_127, l_128, l_1812, l_3600, l_4000, l_252645135, l_268435456, l_858993459, l_1431655765, I_add, I_mul, I_sub, I_addN, I_mulN, I_subN, ilt_t, ilt_f, ile_t, ile_f, ieq_t, ieq_f, up_same, up_up, I_and, I_or, I_shlN, I_shrN, I_divN, I_remN, dzI, i2cI, narI, Int.toNat_natCast, true_or, or_true, false_or, or_false, true_and, and_true, false_and, and_false, not_true_eq_false, not_false_eq_true, e']
        refine ⟨v', u', r', hv', rfl, ?_⟩
        rw [List.length_append, List.length_singleton] at hr'
        rcases hr' with ⟨q1, q2, q3⟩ | ⟨q1, q2⟩
        · refine Or.inl ⟨by omega, q2, ?_⟩
          rw [q3, drop_fa g, List.append_assoc]
          rfl
        · exact Or.inr ⟨by omega, q2⟩
      · simp (disch := first | assumption | omega | exact is_Script_draft | exact is_Script_made | exact is_Learner_made | exact is_Learner_madeFirst | (apply is_eScript_tasks; omega) | (apply is_eScript_lines; omega) | (apply is_eScript_ranBy; omega)) only [↓reduceIte, ↓I_n1, obs, I_0n, l_1, l_2, l_3, l_4, l_5, l_6, l_7, l_8, l_11, l_12, l_15, l_16, l_18, l_20, l_21, l_29, l_30, l_31, l_32, l_33, l_39, l_40, l_44, l_45, l_46, l_47, l_48, l_53, l_57, l_63, l_64, l_65, l_66, l_71, l_72, l_75, l_90, l_97, l_120, l_122, l_127, l_128, l_1812, l_3600, l_4000, l_252645135, l_268435456, l_858993459, l_1431655765, I_add, I_mul, I_sub, I_addN, I_mulN, I_subN, ilt_t, ilt_f, ile_t, ile_f, ieq_t, ieq_f, up_same, up_up, I_and, I_or, I_shlN, I_shrN, I_divN, I_remN, dzI, i2cI, narI, Int.toNat_natCast, true_or, or_true, false_or, or_false, true_and, and_true, false_and, and_false, not_true_eq_false, not_false_eq_true]
        exact ⟨v, u, 0, hv, rfl, Or.inr ⟨by omega, rfl⟩⟩
    · simp (disch := first | assumption | omega | exact is_Script_draft | exact is_Script_made | exact is_Learner_made | exact is_Learner_madeFirst | (apply is_eScript_tasks; omega) | (apply is_eScript_lines; omega) | (apply is_eScript_ranBy; omega)) only [↓reduceIte, ↓I_n1, obs, I_0n, l_1, l_2, l_3, l_4, l_5, l_6, l_7, l_8, l_11, l_12, l_15, l_16, l_18, l_20, l_21, l_29, l_30, l_31, l_32, l_33, l_39, l_40, l_44, l_45, l_46, l_47, l_48, l_53, l_57, l_63, l_64, l_65, l_66, l_71, l_72, l_75, l_90, l_97, l_120, l_122, l_127, l_128, l_1812, l_3600, l_4000, l_252645135, l_268435456, l_858993459, l_1431655765, I_add, I_mul, I_sub, I_addN, I_mulN, I_subN, ilt_t, ilt_f, ile_t, ile_f, ieq_t, ieq_f, up_same, up_up, I_and, I_or, I_shlN, I_shrN, I_divN, I_remN, dzI, i2cI, narI, Int.toNat_natCast, true_or, or_true, false_or, or_false, true_and, and_true, false_and, and_false, not_true_eq_false, not_false_eq_true, b_X0_makesConst_7]
      refine ⟨tx b, acc, 1, ha, by rw [up_self], Or.inl ⟨?_, rfl, ?_⟩⟩
      · have := ha.2.1
        omega
      · rw [List.drop_eq_nil_of_le (by omega), List.append_nil]
theorem x_mkConst {b : Nat} {tx : Nat → ZText} {pg : Nat → ZProg} {le : Nat → ZLearnt} {ln : Nat → ZLine} {tk : Nat → ZTask} {bd : Nat → ZBoard} {vi : Nat → Int32} {va : Nat → Nat → Int32} {vl : Nat → Nat → Int64} {vj : Int64} {la : Option Nat} {me : Nat → Option Nat} (hT : isText b) {l : Tx} (h1 : l ≠ []) (h4 : l.length ≤ 4) (ho : okT l) (hF : 200000 ≤ F) {acc : Tx} (ha : txt (tx b) acc) : ∃ v u r, txt v u ∧ f_X0_makesConst F (I (cst l : Nat)) b (mk (tx, pg, le, ln, tk, bd, vi, va, vl, vj, la, me)) = some (I ((r : Nat) : Int), mk ((up tx b v), pg, le, ln, tk, bd, vi, va, vl, vj, la, me)) ∧ (addP acc (some l) = some u ∧ r = 1 ∨ addP acc (some l) = none ∧ r = 0) := by
  obtain ⟨v, u, r, hv, e, hr⟩ := x_mkConst7 hT h1 h4 ho hF F 0 tx pg le ln tk bd vi va vl vj la me acc (by omega) (by omega) ha
  refine ⟨v, u, r, hv, ?_, ?_⟩
  · simp (disch := first | assumption | omega | exact is_Script_draft | exact is_Script_made | exact is_Learner_made | exact is_Learner_madeFirst | (apply is_eScript_tasks; omega) | (apply is_eScript_lines; omega) | (apply is_eScript_ranBy; omega)) only [↓reduceIte, ↓I_n1, obs, I_0n, l_1, l_2, l_3, l_4, l_5, l_6, l_7, l_8, l_11, l_12, l_15, l_16, l_18, l_20, l_21, l_29, l_30, l_31, l_32, l_33, l_39, l_40, l_44, l_45, l_46, l_47, l_48, l_53, l_57, l_63, l_64, l_65, l_66, l_71, l_72, l_75, l_90, l_97, l_120, l_122, l_127, l_128, l_1812, l_3600, l_4000, l_252645135, l_268435456, l_858993459, l_1431655765, I_add, I_mul, I_sub, I_addN, I_mulN, I_subN, ilt_t, ilt_f, ile_t, ile_f, ieq_t, ieq_f, up_same, up_up, I_and, I_or, I_shlN, I_shrN, I_divN, I_remN, dzI, i2cI, narI, Int.toNat_natCast, true_or, or_true, false_or, or_false, true_and, and_true, false_and, and_false, not_true_eq_false, not_false_eq_true, b_X0_makesConst_7, b_X0_makesConst_0, f_X0_makesConst_0, f_X0_makesConst, x_signsOf h1 h4 ho hF]
    exact e
  · unfold addP
    rw [Option.bind_some]
    rcases hr with ⟨q1, q2, q3⟩ | ⟨q1, q2⟩
    · refine Or.inl ⟨?_, q2⟩
      rw [if_pos (by omega), q3]
      rfl
    · exact Or.inr ⟨if_neg (by omega), q2⟩
theorem cutF_step {s : Tx} {f t w i : Nat} (h : i < t) : cutF s f t w i = trn (fa s i) w (if i = f then 1 else 0) :: cutF s f t w (i + 1) := by
  unfold cutF
  rw [show t - i = (t - (i + 1)) + 1 by omega, List.range'_succ, List.map_cons]
theorem cutF_end {s : Tx} {f t w i : Nat} (h : t ≤ i) : cutF s f t w i = [] := by
  unfold cutF
  rw [show t - i = 0 by omega]
  rfl
theorem cutF_len {s : Tx} {f t w i : Nat} : (cutF s f t w i).length = t - i := by
  unfold cutF
  rw [List.length_map, List.length_range']
theorem x_mkCut43 {a b : Nat} (hU : isText a) (hT : isText b) (hab : a ≠ b) {s : Tx} {f t w : Nat} (ht : t ≤ s.length) (hw : w < 4) (hF : 200000 ≤ F) : ∀ (m i : Nat) (tx : Nat → ZText) (pg : Nat → ZProg) (le : Nat → ZLearnt) (ln : Nat → ZLine) (tk : Nat → ZTask) (bd : Nat → ZBoard) (vi : Nat → Int32) (va : Nat → Nat → Int32) (vl : Nat → Nat → Int64) (vj : Int64) (la : Option Nat) (me : Nat → Option Nat) (acc : Tx), f ≤ i → i ≤ t → t + 1 - i ≤ m → txt (tx a) s → txt (tx b) acc → ∃ v u r, txt v u ∧ f_X0_makesCut_43 F m a b (I (f : Nat)) (I (t : Nat)) (I (w : Nat)) (I (i : Nat)) (mk (tx, pg, le, ln, tk, bd, vi, va, vl, vj, la, me)) = some (I ((r : Nat) : Int), mk ((up tx b v), pg, le, ln, tk, bd, vi, va, vl, vj, la, me)) ∧ (acc.length + (t - i) ≤ 20 ∧ r = 1 ∧ u = acc ++ cutF s f t w i ∨ 20 < acc.length + (t - i) ∧ r = 0) := by
  intro m
  induction m with
  | zero => intros; omega
  | succ m ih =>
    intro i tx pg le ln tk bd vi va vl vj la me acc hf hi hm hs ha
    have hsl := hs.2.1
    have hal := ha.2.1
    rw [s_X0_makesCut_43]
    by_cases g : i < t
    · have hok := okT_fa hs.2.2.2.1 (show i < s.length by omega)
      have hat : f_X10_at F a (I (i : Nat)) (mk (tx, pg, le, ln, tk, bd, vi, va, vl, vj, la, me)) = some (I (fa s i), mk (tx, pg, le, ln, tk, bd, vi, va, vl, vj, la, me)) := by
        rw [x_at hU hs (by omega) (by omega), if_pos (by omega)]
        rfl
      have key : ∀ q : Int, q = 0 ∨ q = 1 → (if i = f then (1 : Int) else 0) = q → ∀ R, R = ((f_X7_turned F (I (fa s i)) (I (w : Nat)) (I q) (mk (tx, pg, le, ln, tk, bd, vi, va, vl, vj, la, me))).bind fun v2 => (f_X10_add F b v2.1 v2.2).bind fun v3 => if v3.1 = 0 then some ((0 : Int32), v3.2) else f_X0_makesCut_43 F m a b (I (f : Nat)) (I (t : Nat)) (I (w : Nat)) (I ((i + 1 : Nat) : Int)) v3.2) → ∃ v u r, txt v u ∧ R = some (I ((r : Nat) : Int), mk ((up tx b v), pg, le, ln, tk, bd, vi, va, vl, vj, la, me)) ∧ (acc.length + (t - i) ≤ 20 ∧ r = 1 ∧ u = acc ++ cutF s f t w i ∨ 20 < acc.length + (t - i) ∧ r = 0) := by
        intro q hq hif R hR
        obtain ⟨v, u, r, hv, e, hr⟩ := x_addO (F := F) (tx := tx) (pg := pg) (le := le) (ln := ln) (tk := tk) (bd := bd) (vi := vi) (va := va) (vl := vl) (vj := vj) (la := la) (me := me) hT ha (trn_ok (w := w) (f := q) hok) hF
        rw [x_turned hok (by omega) (by omega) hq, Option.bind_some] at hR
        dsimp only at hR
        rw [e, Option.bind_some] at hR
        dsimp only at hR
        rcases hr with ⟨hl, rfl, rfl⟩ | ⟨hl, rfl⟩
        · obtain ⟨v', u', r', hv', e', hr'⟩ := ih (i + 1) (up tx b v) pg le ln tk bd vi va vl vj la me (acc ++ [trn (fa s i) w q]) (by omega) (by omega) (by omega) (by rw [up_ne hab]; exact hs) (by rw [up_same]; exact hv)
          rw [if_neg (by decide), e', up_up] at hR
          refine ⟨v', u', r', hv', hR, ?_⟩
          rw [List.length_append, List.length_singleton] at hr'
          rcases hr' with ⟨q1, q2, q3⟩ | ⟨q1, q2⟩
          · refine Or.inl ⟨by omega, q2, ?_⟩
            rw [q3, cutF_step g, hif, List.append_assoc]
            rfl
          · exact Or.inr ⟨by omega, q2⟩
        · rw [if_pos (show I ((0 : Nat) : Int) = 0 from rfl)] at hR
          exact ⟨v, u, 0, hv, hR, Or.inr ⟨by omega, rfl⟩⟩
      by_cases gf : i = f
      · refine key 1 (Or.inr rfl) (if_pos gf) _ ?_
        subst gf
        simp (disch := first | assumption | omega | exact is_Script_draft | exact is_Script_made | exact is_Learner_made | exact is_Learner_madeFirst | (apply is_eScript_tasks; omega) | (apply is_eScript_lines; omega) | (apply is_eScript_ranBy; omega)) only [↓reduceIte, ↓I_n1, obs, I_0n, l_1, l_2, l_3, l_4, l_5, l_6, l_7, l_8, l_11, l_12, l_15, l_16, l_18, l_20, l_21, l_29, l_30, l_31, l_32, l_33, l_39, l_40, l_44, l_45, l_46, l_47, l_48, l_53, l_57, l_63, l_64, l_65, l_66, l_71, l_72, l_75, l_90, l_97, l_120, l_122, l_127, l_128, l_1812, l_3600, l_4000, l_252645135, l_268435456, l_858993459, l_1431655765, I_add, I_mul, I_sub, I_addN, I_mulN, I_subN, ilt_t, ilt_f, ile_t, ile_f, ieq_t, ieq_f, up_same, up_up, I_and, I_or, I_shlN, I_shrN, I_divN, I_remN, dzI, i2cI, narI, Int.toNat_natCast, true_or, or_true, false_or, or_false, true_and, and_true, false_and, and_false, not_true_eq_false, not_false_eq_true, b_X0_makesCut_43, hat]
        rfl
      · refine key 0 (Or.inl rfl) (if_neg gf) _ ?_
        simp (disch := first | assumption | omega | exact is_Script_draft | exact is_Script_made | exact is_Learner_made | exact is_Learner_madeFirst | (apply is_eScript_tasks; omega) | (apply is_eScript_lines; omega) | (apply is_eScript_ranBy; omega)) only [↓reduceIte, ↓I_n1, obs, I_0n, l_1, l_2, l_3, l_4, l_5, l_6, l_7, l_8, l_11, l_12, l_15, l_16, l_18, l_20, l_21, l_29, l_30, l_31, l_32, l_33, l_39, l_40, l_44, l_45, l_46, l_47, l_48, l_53, l_57, l_63, l_64, l_65, l_66, l_71, l_72, l_75, l_90, l_97, l_120, l_122, l_127, l_128, l_1812, l_3600, l_4000, l_252645135, l_268435456, l_858993459, l_1431655765, I_add, I_mul, I_sub, I_addN, I_mulN, I_subN, ilt_t, ilt_f, ile_t, ile_f, ieq_t, ieq_f, up_same, up_up, I_and, I_or, I_shlN, I_shrN, I_divN, I_remN, dzI, i2cI, narI, Int.toNat_natCast, true_or, or_true, false_or, or_false, true_and, and_true, false_and, and_false, not_true_eq_false, not_false_eq_true, b_X0_makesCut_43, hat]
        rfl
    · simp (disch := first | assumption | omega | exact is_Script_draft | exact is_Script_made | exact is_Learner_made | exact is_Learner_madeFirst | (apply is_eScript_tasks; omega) | (apply is_eScript_lines; omega) | (apply is_eScript_ranBy; omega)) only [↓reduceIte, ↓I_n1, obs, I_0n, l_1, l_2, l_3, l_4, l_5, l_6, l_7, l_8, l_11, l_12, l_15, l_16, l_18, l_20, l_21, l_29, l_30, l_31, l_32, l_33, l_39, l_40, l_44, l_45, l_46, l_47, l_48, l_53, l_57, l_63, l_64, l_65, l_66, l_71, l_72, l_75, l_90, l_97, l_120, l_122, l_127, l_128, l_1812, l_3600, l_4000, l_252645135, l_268435456, l_858993459, l_1431655765, I_add, I_mul, I_sub, I_addN, I_mulN, I_subN, ilt_t, ilt_f, ile_t, ile_f, ieq_t, ieq_f, up_same, up_up, I_and, I_or, I_shlN, I_shrN, I_divN, I_remN, dzI, i2cI, narI, Int.toNat_natCast, true_or, or_true, false_or, or_false, true_and, and_true, false_and, and_false, not_true_eq_false, not_false_eq_true, b_X0_makesCut_43]
      refine ⟨tx b, acc, 1, ha, by rw [up_self], Or.inl ⟨?_, rfl, ?_⟩⟩
      · omega
      · rw [cutF_end (by omega), List.append_nil]
end
theorem bl_mem {m x : Nat} (h : x ∈ bl m 0) : x < 20 ∧ m.testBit x = true := by
  unfold bl at h
  have h := List.mem_filter.mp h
  have h1 := h.1
  rw [List.mem_range'] at h1
  exact ⟨by omega, by simpa using h.2⟩
theorem nthB_in {l : List Nat} {w : Int} : nthB l w (-1) = -1 ∨ ∃ x, x ∈ l ∧ nthB l w (-1) = (x : Int) := by
  unfold nthB
  by_cases h : w = 2
  · rw [if_pos h]
    cases hg : l.getLast? with
    | none => exact Or.inl rfl
    | some x => exact Or.inr ⟨x, List.mem_of_getLast? hg, rfl⟩
  · rw [if_neg h]
    cases hg : l[w.toNat]? with
    | none => exact Or.inl rfl
    | some x => exact Or.inr ⟨x, List.mem_of_getElem? hg, rfl⟩
theorem bit_lt {m n x : Nat} (hm : m < 2 ^ n) (h : m.testBit x = true) : x < n := by
  by_cases hx : x < n
  · exact hx
  · have := Nat.testBit_lt_two_pow (Nat.lt_of_lt_of_le hm (Nat.pow_le_pow_right (by decide) (show n ≤ x by omega)))
    rw [this] at h
    cases h
theorem plc_bd {s : Tx} {sp : Nat} : -1 ≤ plc s sp ∧ plc s sp ≤ s.length := by
  unfold plc
  split
  · split <;> omega
  · split
    · split <;> omega
    · unfold plr
      have hm := msk_lt (fa s) ((sp - 6) / 6 : Nat) s.length
      split
      · rcases nthB_in (l := bl (bgM (msk (fa s) ((sp - 6) / 6 : Nat) s.length)) 0) (w := ((sp - 6) % 3 : Nat)) with e | ⟨x, hx, e⟩
        · rw [e]
          omega
        · have := bit_lt (bgM_lt hm) (bl_mem hx).2
          rw [e]
          omega
      · split
        · omega
        · rcases nthB_in (l := bl (enM (msk (fa s) ((sp - 6) / 6 : Nat) s.length)) 0) (w := ((sp - 6) % 3 : Nat)) with e | ⟨x, hx, e⟩
          · rw [e]
            omega
          · have := bit_lt (enM_lt hm) (bl_mem hx).2
            rw [e]
            omega
section
variable {F : Nat}
theorem x_mkCut {a b : Nat} {tx : Nat → ZText} {pg : Nat → ZProg} {le : Nat → ZLearnt} {ln : Nat → ZLine} {tk : Nat → ZTask} {bd : Nat → ZBoard} {vi : Nat → Int32} {va : Nat → Nat → Int32} {vl : Nat → Nat → Int64} {vj : Int64} {la : Option Nat} {me : Nat → Option Nat} (hU : isText a) (hT : isText b) (hab : a ≠ b) {s acc : Tx} {n : Nat} (hn : n < 3600) (hs : txt (tx a) s) (ha : txt (tx b) acc) (hF : 200000 ≤ F) : ∃ v u r, txt v u ∧ f_X0_makesCut F (I (n : Nat)) a b (mk (tx, pg, le, ln, tk, bd, vi, va, vl, vj, la, me)) = some (I ((r : Nat) : Int), mk ((up tx b v), pg, le, ln, tk, bd, vi, va, vl, vj, la, me)) ∧ (addP acc (mkCut (pp n 1) (pp n 2) (pp n 3) s) = some u ∧ r = 1 ∨ addP acc (mkCut (pp n 1) (pp n 2) (pp n 3) s) = none ∧ r = 0) := by
  have hp := (pp_bd (show n < 3672 by omega)).1 hn
  have e1 := x_partOf (F := F) (M := mk (tx, pg, le, ln, tk, bd, vi, va, vl, vj, la, me)) (show n < 3672 by omega) (w := 1) (by decide) (by decide)
  have e2 := x_partOf (F := F) (M := mk (tx, pg, le, ln, tk, bd, vi, va, vl, vj, la, me)) (show n < 3672 by omega) (w := 2) (by decide) (by decide)
  have e3 := x_partOf (F := F) (M := mk (tx, pg, le, ln, tk, bd, vi, va, vl, vj, la, me)) (show n < 3672 by omega) (w := 3) (by decide) (by decide)
  have g1 := x_placeOfSpot (F := F) (tx := tx) (pg := pg) (le := le) (ln := ln) (tk := tk) (bd := bd) (vi := vi) (va := va) (vl := vl) (vj := vj) (la := la) (me := me) hU hs (by omega) hp.1
  have g2 := x_placeOfSpot (F := F) (tx := tx) (pg := pg) (le := le) (ln := ln) (tk := tk) (bd := bd) (vi := vi) (va := va) (vl := vl) (vj := vj) (la := la) (me := me) hU hs (by omega) hp.2.1
  have b1 := plc_bd (s := s) (sp := pp n 1)
  have b2 := plc_bd (s := s) (sp := pp n 2)
  have hl := hs.2.1
  unfold mkCut
  by_cases c1 : plc s (pp n 1) < 0
  · refine ⟨tx b, acc, 0, ha, ?_, Or.inr ⟨?_, rfl⟩⟩
    · rw [up_self]
      simp (disch := first | assumption | omega | exact is_Script_draft | exact is_Script_made | exact is_Learner_made | exact is_Learner_madeFirst | (apply is_eScript_tasks; omega) | (apply is_eScript_lines; omega) | (apply is_eScript_ranBy; omega)) only [↓reduceIte, ↓I_n1, obs, I_0n, l_1, l_2, l_3, l_4, l_5, l_6, l_7, l_8, l_11, l_12, l_15, l_16, l_18, l_20, l_21, l_29, l_30, l_31, l_32, l_33, l_39, l_40, l_44, l_45, l_46, l_47, l_48, l_53, l_57, l_63, l_64, l_65, l_66, l_71, l_72, l_75, l_90, l_97, l_120, l_122, l_127, l_128, l_1812, l_3600, l_4000, l_252645135, l_268435456, l_858993459, l_1431655765, I_add, I_mul, I_sub, I_addN, I_mulN, I_subN, ilt_t, ilt_f, ile_t, ile_f, ieq_t, ieq_f, up_same, up_up, I_and, I_or, I_shlN, I_shrN, I_divN, I_remN, dzI, i2cI, narI, Int.toNat_natCast, true_or, or_true, false_or, or_false, true_and, and_true, false_and, and_false, not_true_eq_false, not_false_eq_true, b_X0_makesCut_43, b_X0_makesCut_0, f_X0_makesCut_0, f_X0_makesCut, e1, e2, e3, g1, g2]
    · rw [if_pos (Or.inl c1)]
      rfl
  by_cases c2 : plc s (pp n 2) ≤ plc s (pp n 1)
  · refine ⟨tx b, acc, 0, ha, ?_, Or.inr ⟨?_, rfl⟩⟩
    · rw [up_self]
      simp (disch := first | assumption | omega | exact is_Script_draft | exact is_Script_made | exact is_Learner_made | exact is_Learner_madeFirst | (apply is_eScript_tasks; omega) | (apply is_eScript_lines; omega) | (apply is_eScript_ranBy; omega)) only [↓reduceIte, ↓I_n1, obs, I_0n, l_1, l_2, l_3, l_4, l_5, l_6, l_7, l_8, l_11, l_12, l_15, l_16, l_18, l_20, l_21, l_29, l_30, l_31, l_32, l_33, l_39, l_40, l_44, l_45, l_46, l_47, l_48, l_53, l_57, l_63, l_64, l_65, l_66, l_71, l_72, l_75, l_90, l_97, l_120, l_122, l_127, l_128, l_1812, l_3600, l_4000, l_252645135, l_268435456, l_858993459, l_1431655765, I_add, I_mul, I_sub, I_addN, I_mulN, I_subN, ilt_t, ilt_f, ile_t, ile_f, ieq_t, ieq_f, up_same, up_up, I_and, I_or, I_shlN, I_shrN, I_divN, I_remN, dzI, i2cI, narI, Int.toNat_natCast, true_or, or_true, false_or, or_false, true_and, and_true, false_and, and_false, not_true_eq_false, not_false_eq_true, b_X0_makesCut_43, b_X0_makesCut_0, f_X0_makesCut_0, f_X0_makesCut, e1, e2, e3, g1, g2]
    · rw [if_pos (Or.inr c2)]
      rfl
  · obtain ⟨f, hf⟩ : ∃ f : Nat, plc s (pp n 1) = f := ⟨_, (Int.toNat_of_nonneg (by omega)).symm⟩
    obtain ⟨t, ht⟩ : ∃ t : Nat, plc s (pp n 2) = t := ⟨_, (Int.toNat_of_nonneg (by omega)).symm⟩
    rw [hf] at g1 b1 c1 c2 ⊢
    rw [ht] at g2 b2 c2 ⊢
    obtain ⟨v, u, r, hv, e, hr⟩ := x_mkCut43 hU hT hab (f := f) (t := t) (w := pp n 3) (by omega) hp.2.2 hF F f tx pg le ln tk bd vi va vl vj la me acc (Nat.le_refl _) (by omega) (by omega) hs ha
    refine ⟨v, u, r, hv, ?_, ?_⟩
    · simp (disch := first | assumption | omega | exact is_Script_draft | exact is_Script_made | exact is_Learner_made | exact is_Learner_madeFirst | (apply is_eScript_tasks; omega) | (apply is_eScript_lines; omega) | (apply is_eScript_ranBy; omega)) only [↓reduceIte, ↓I_n1, obs, I_0n, l_1, l_2, l_3, l_4, l_5, l_6, l_7, l_8, l_11, l_12, l_15, l_16, l_18, l_20, l_21, l_29, l_30, l_31, l_32, l_33, l_39, l_40, l_44, l_45, l_46, l_47, l_48, l_53, l_57, l_63, l_64, l_65, l_66, l_71, l_72, l_75, l_90, l_97, l_120, l_122, l_127, l_128, l_1812, l_3600, l_4000, l_252645135, l_268435456, l_858993459, l_1431655765, I_add, I_mul, I_sub, I_addN, I_mulN, I_subN, ilt_t, ilt_f, ile_t, ile_f, ieq_t, ieq_f, up_same, up_up, I_and, I_or, I_shlN, I_shrN, I_divN, I_remN, dzI, i2cI, narI, Int.toNat_natCast, true_or, or_true, false_or, or_false, true_and, and_true, false_and, and_false, not_true_eq_false, not_false_eq_true, b_X0_makesCut_43, b_X0_makesCut_0, f_X0_makesCut_0, f_X0_makesCut, e1, e2, e3, g1, g2]
      exact e
    · rw [if_neg (by omega)]
      unfold addP
      rw [Option.bind_some, Int.toNat_natCast, Int.toNat_natCast, cutF_len]
      rcases hr with ⟨q1, q2, q3⟩ | ⟨q1, q2⟩
      · exact Or.inl ⟨by rw [if_pos q1, q3], q2⟩
      · exact Or.inr ⟨if_neg (by omega), q2⟩
theorem eachF_step {s : Tx} {k p m i : Nat} (h : i < s.length) : eachF s k p m i = eachAt s k p m i ++ eachF s k p m (i + 1) := by
  unfold eachF
  rw [show s.length - i = (s.length - (i + 1)) + 1 by omega, List.range'_succ, List.flatMap_cons]
theorem eachF_end {s : Tx} {k p m i : Nat} (h : s.length ≤ i) : eachF s k p m i = [] := by
  unfold eachF
  rw [show s.length - i = 0 by omega]
  rfl
theorem mark_bit {bg i : Nat} (hb : bg < 4294967296) (hi : i < 32) : (bg &&& (1 <<< i)) ^^^ ((bg &&& (1 <<< i)) &&& low bg) = if bg.testBit i = true ∧ (List.range i).any bg.testBit = true then 2 ^ i else 0 := by
  rw [and_bit]
  have hl := low_bit hb hi
  cases h1 : bg.testBit i
  · simp
  · rw [h1] at hl
    simp only [if_true, true_and]
    rw [Nat.and_comm (2 ^ i), and_p2, hl]
    cases (List.range i).any bg.testBit <;> simp
theorem mrk_ok (z : Int) : okS (mrk z) := by
  unfold mrk
  (repeat' split) <;> omega
theorem x_each92 {a b : Nat} {tx : Nat → ZText} {pg : Nat → ZProg} {le : Nat → ZLearnt} {ln : Nat → ZLine} {tk : Nat → ZTask} {bd : Nat → ZBoard} {vi : Nat → Int32} {va : Nat → Nat → Int32} {vl : Nat → Nat → Int64} {vj : Int64} {la : Option Nat} {me : Nat → Option Nat} (hU : isText a) (hT : isText b) {s acc : Tx} {K : Nat → Nat → Int32 → Int32 → Int32 → Int32 → Int32 → cM → Option (Int32 × cM)} {x4 x5 x6 : Int32} {tkn i : Nat} (ht : tkn < 2147483648) (hi : i < s.length) (hs : txt (tx a) s) (ha : txt (tx b) acc) (hF : 200000 ≤ F) : ∃ v u, txt v u ∧ (acc.length + (if tkn.testBit i = true then [fa s i] else []).length ≤ 20 ∧ u = acc ++ (if tkn.testBit i = true then [fa s i] else []) ∧ f_X0_makesEach_92 F K a b (I (tkn : Nat)) x4 x5 x6 (I (i : Nat)) (I ((1 <<< i : Nat) : Int)) (mk (tx, pg, le, ln, tk, bd, vi, va, vl, vj, la, me)) = K a b (I (tkn : Nat)) x4 x5 x6 (I ((i + 1 : Nat) : Int)) (mk ((up tx b v), pg, le, ln, tk, bd, vi, va, vl, vj, la, me)) ∨ 20 < acc.length + (if tkn.testBit i = true then [fa s i] else []).length ∧ f_X0_makesEach_92 F K a b (I (tkn : Nat)) x4 x5 x6 (I (i : Nat)) (I ((1 <<< i : Nat) : Int)) (mk (tx, pg, le, ln, tk, bd, vi, va, vl, vj, la, me)) = some (I ((0 : Nat) : Int), mk ((up tx b v), pg, le, ln, tk, bd, vi, va, vl, vj, la, me))) := by
  have hsl := hs.2.1
  have hal := ha.2.1
  have eb := and_bit tkn i
  unfold f_X0_makesEach_92
  by_cases g : tkn.testBit i = true
  · rw [if_pos g] at eb
    simp only [if_pos g]
    have h1 := Nat.two_pow_pos i
    have h2 := p2_lt (show i < 31 by omega)
    obtain ⟨v, u, r, hv, e, hr⟩ := x_addO (F := F) (tx := tx) (pg := pg) (le := le) (ln := ln) (tk := tk) (bd := bd) (vi := vi) (va := va) (vl := vl) (vj := vj) (la := la) (me := me) hT ha (okT_fa hs.2.2.2.1 hi) hF
    have hat : f_X10_at F a (I (i : Nat)) (mk (tx, pg, le, ln, tk, bd, vi, va, vl, vj, la, me)) = some (I (fa s i), mk (tx, pg, le, ln, tk, bd, vi, va, vl, vj, la, me)) := by
      rw [x_at hU hs (by omega) (by omega), if_pos (by omega)]
      rfl
    refine ⟨v, u, hv, ?_⟩
    rcases hr with ⟨hl, rfl, rfl⟩ | ⟨hl, rfl⟩
    · refine Or.inl ⟨by rw [List.length_singleton]; omega, rfl, ?_⟩
      simp (disch := first | assumption | omega | exact is_Script_draft | exact is_Script_made | exact is_Learner_made | exact is_Learner_madeFirst | (apply is_eScript_tasks; omega) | (apply is_eScript_lines; omega) | (apply is_eScript_ranBy; omega)) only [↓reduceIte, ↓I_n1, obs, I_0n, l_1, l_2, l_3, l_4, l_5, l_6, l_7, l_8, l_11, l_12, l_15, l_16, l_18, l_20, l_21, l_29, l_30, l_31, l_32, l_33, l_39, l_40, l_44, l_45, l_46, l_47, l_48, l_53, l_57, l_63, l_64, l_65, l_66, l_71, l_72, l_75, l_90, l_97, l_120, l_122, l_127, l_128, l_1812, l_3600, l_4000, l_252645135, l_268435456, l_858993459, l_1431655765, I_add, I_mul, I_sub, I_addN, I_mulN, I_subN, ilt_t, ilt_f, ile_t, ile_f, ieq_t, ieq_f, up_same, up_up, I_and, I_or, I_shlN, I_shrN, I_divN, I_remN, dzI, i2cI, narI, Int.toNat_natCast, true_or, or_true, false_or, or_false, true_and, and_true, false_and, and_false, not_true_eq_false, not_false_eq_true, b_X0_makesEach_92, eb, hat, e]
    · refine Or.inr ⟨by rw [List.length_singleton]; omega, ?_⟩
      simp (disch := first | assumption | omega | exact is_Script_draft | exact is_Script_made | exact is_Learner_made | exact is_Learner_madeFirst | (apply is_eScript_tasks; omega) | (apply is_eScript_lines; omega) | (apply is_eScript_ranBy; omega)) only [↓reduceIte, ↓I_n1, obs, I_0n, l_1, l_2, l_3, l_4, l_5, l_6, l_7, l_8, l_11, l_12, l_15, l_16, l_18, l_20, l_21, l_29, l_30, l_31, l_32, l_33, l_39, l_40, l_44, l_45, l_46, l_47, l_48, l_53, l_57, l_63, l_64, l_65, l_66, l_71, l_72, l_75, l_90, l_97, l_120, l_122, l_127, l_128, l_1812, l_3600, l_4000, l_252645135, l_268435456, l_858993459, l_1431655765, I_add, I_mul, I_sub, I_addN, I_mulN, I_subN, ilt_t, ilt_f, ile_t, ile_f, ieq_t, ieq_f, up_same, up_up, I_and, I_or, I_shlN, I_shrN, I_divN, I_remN, dzI, i2cI, narI, Int.toNat_natCast, true_or, or_true, false_or, or_false, true_and, and_true, false_and, and_false, not_true_eq_false, not_false_eq_true, b_X0_makesEach_92, eb, hat, e]
  · rw [if_neg g] at eb
    simp only [if_neg g]
    refine ⟨tx b, acc, ha, Or.inl ⟨by simpa using hal, (List.append_nil _).symm, ?_⟩⟩
    rw [up_self]
    simp (disch := first | assumption | omega | exact is_Script_draft | exact is_Script_made | exact is_Learner_made | exact is_Learner_madeFirst | (apply is_eScript_tasks; omega) | (apply is_eScript_lines; omega) | (apply is_eScript_ranBy; omega)) only [↓reduceIte, ↓I_n1, obs, I_0n, l_1, l_2, l_3, l_4, l_5, l_6, l_7, l_8, l_11, l_12, l_15, l_16, l_18, l_20, l_21, l_29, l_30, l_31, l_32, l_33, l_39, l_40, l_44, l_45, l_46, l_47, l_48, l_53, l_57, l_63, l_64, l_65, l_66, l_71, l_72, l_75, l_90, l_97, l_120, l_122, l_127, l_128, l_1812, l_3600, l_4000, l_252645135, l_268435456, l_858993459, l_1431655765, I_add, I_mul, I_sub, I_addN, I_mulN, I_subN, ilt_t, ilt_f, ile_t, ile_f, ieq_t, ieq_f, up_same, up_up, I_and, I_or, I_shlN, I_shrN, I_divN, I_remN, dzI, i2cI, narI, Int.toNat_natCast, true_or, or_true, false_or, or_false, true_and, and_true, false_and, and_false, not_true_eq_false, not_false_eq_true, b_X0_makesEach_92, eb]
theorem x_each45 {a b : Nat} (hU : isText a) (hT : isText b) (hab : a ≠ b) {s : Tx} {k p z : Nat} (hk : k < 4) (hz : z < 6) (hF : 200000 ≤ F) : ∀ (m i : Nat) (tx : Nat → ZText) (pg : Nat → ZProg) (le : Nat → ZLearnt) (ln : Nat → ZLine) (tk : Nat → ZTask) (bd : Nat → ZBoard) (vi : Nat → Int32) (va : Nat → Nat → Int32) (vl : Nat → Nat → Int64) (vj : Int64) (la : Option Nat) (me : Nat → Option Nat) (acc : Tx), i ≤ s.length → s.length + 1 - i ≤ m → txt (tx a) s → txt (tx b) acc → ∃ v u r, txt v u ∧ f_X0_makesEach_45 F m a b (I (prt (pk s k) p : Nat)) (I (bgM (pk s k) : Nat)) (I (z : Nat)) (I (low (bgM (pk s k)) : Nat)) (I (i : Nat)) (mk (tx, pg, le, ln, tk, bd, vi, va, vl, vj, la, me)) = some (I ((r : Nat) : Int), mk ((up tx b v), pg, le, ln, tk, bd, vi, va, vl, vj, la, me)) ∧ (acc.length + (eachF s k p z i).length ≤ 20 ∧ r = (if bgM (pk s k) = 0 then 0 else 1) ∧ u = acc ++ eachF s k p z i ∨ 20 < acc.length + (eachF s k p z i).length ∧ r = 0) := by
  intro m
  induction m with
  | zero => intros; omega
  | succ m ih =>
    intro i tx pg le ln tk bd vi va vl vj la me acc hi hm hs ha
    have hsl := hs.2.1
    have hal := ha.2.1
    have hpk : pk s k < 2 ^ s.length := msk_lt (fa s) k s.length
    have h20 : 2 ^ s.length ≤ 2 ^ 20 := Nat.pow_le_pow_right (by decide) hsl
    have hbg : bgM (pk s k) < 2 ^ s.length := bgM_lt hpk
    have hen : enM (pk s k) < 2 ^ s.length := enM_lt hpk
    have htk : prt (pk s k) p < 1048576 := by
      unfold prt
      split
      · omega
      · split <;> omega
    rw [s_X0_makesEach_45]
    by_cases g : i < s.length
    · -- the step behind the mark
      have tail : ∀ (tx' : Nat → ZText) (acc' : Tx) (d : Tx), txt (tx' a) s → txt (tx' b) acc' → eachAt s k p z i = d ++ (if (prt (pk s k) p).testBit i = true then [fa s i] else []) → acc' = acc ++ d → (∀ v, up tx' b v = up tx b v) → ∃ v u r, txt v u ∧ f_X0_makesEach_92 F (f_X0_makesEach_45 F m) a b (I (prt (pk s k) p : Nat)) (I (bgM (pk s k) : Nat)) (I (z : Nat)) (I (low (bgM (pk s k)) : Nat)) (I (i : Nat)) (I ((1 <<< i : Nat) : Int)) (mk ((tx'), pg, le, ln, tk, bd, vi, va, vl, vj, la, me)) = some (I ((r : Nat) : Int), mk ((up tx b v), pg, le, ln, tk, bd, vi, va, vl, vj, la, me)) ∧ (acc.length + (eachF s k p z i).length ≤ 20 ∧ r = (if bgM (pk s k) = 0 then 0 else 1) ∧ u = acc ++ eachF s k p z i ∨ 20 < acc.length + (eachF s k p z i).length ∧ r = 0) := by
        intro tx' acc' d hs' ha' hd hacc hup
        obtain ⟨v, u, hv, h⟩ := x_each92 (F := F) (tx := tx') (pg := pg) (le := le) (ln := ln) (tk := tk) (bd := bd) (vi := vi) (va := va) (vl := vl) (vj := vj) (la := la) (me := me) (K := f_X0_makesEach_45 F m) (x4 := I (bgM (pk s k) : Nat)) (x5 := I (z : Nat)) (x6 := I (low (bgM (pk s k)) : Nat)) (tkn := prt (pk s k) p) hU hT (by omega) g hs' ha' hF
        rw [eachF_step g, hd]
        rw [hacc] at h
        rcases h with ⟨q1, q2, q3⟩ | ⟨q1, q2⟩
        · obtain ⟨v', u', r', hv', e', hr'⟩ := ih (i + 1) (up tx' b v) pg le ln tk bd vi va vl vj la me u (by omega) (by omega) (by rw [up_ne hab]; exact hs') (by rw [up_same]; exact hv)
          refine ⟨v', u', r', hv', ?_, ?_⟩
          · rw [q3, e', up_up, hup]
          · rw [q2] at hr'
            simp only [List.length_append] at hr' q1 ⊢
            rcases hr' with ⟨w1, w2, w3⟩ | ⟨w1, w2⟩
            · exact Or.inl ⟨by omega, w2, by rw [w3]; simp only [List.append_assoc]⟩
            · exact Or.inr ⟨by omega, w2⟩
        · refine ⟨v, u, 0, hv, by rw [q2, hup], Or.inr ⟨?_, rfl⟩⟩
          simp only [List.length_append] at q1 ⊢
          omega
      have hmb := mark_bit (bg := bgM (pk s k)) (i := i) (by omega) (by omega)
      have hba : bgM (pk s k) &&& (1 <<< i) < 4294967296 := Nat.lt_of_le_of_lt Nat.and_le_left (by omega)
      have h1 := Nat.two_pow_pos i
      have h2 := p2_lt (show i < 31 by omega)
      by_cases z0 : z = 0
      · have hd : eachAt s k p z i = [] ++ (if (prt (pk s k) p).testBit i = true then [fa s i] else []) := by
          unfold eachAt
          rw [if_neg (fun q => q.1 z0)]
        have := tail tx acc [] hs ha hd (List.append_nil _).symm (fun v => rfl)
        simp (disch := first | assumption | omega | exact is_Script_draft | exact is_Script_made | exact is_Learner_made | exact is_Learner_madeFirst | (apply is_eScript_tasks; omega) | (apply is_eScript_lines; omega) | (apply is_eScript_ranBy; omega)) only [↓reduceIte, ↓I_n1, obs, I_0n, l_1, l_2, l_3, l_4, l_5, l_6, l_7, l_8, l_11, l_12, l_15, l_16, l_18, l_20, l_21, l_29, l_30, l_31, l_32, l_33, l_39, l_40, l_44, l_45, l_46, l_47, l_48, l_53, l_57, l_63, l_64, l_65, l_66, l_71, l_72, l_75, l_90, l_97, l_120, l_122, l_127, l_128, l_1812, l_3600, l_4000, l_252645135, l_268435456, l_858993459, l_1431655765, I_add, I_mul, I_sub, I_addN, I_mulN, I_subN, ilt_t, ilt_f, ile_t, ile_f, ieq_t, ieq_f, up_same, up_up, I_and, I_or, I_shlN, I_shrN, I_divN, I_remN, dzI, i2cI, narI, Int.toNat_natCast, true_or, or_true, false_or, or_false, true_and, and_true, false_and, and_false, not_true_eq_false, not_false_eq_true, cText, gText_signs, nText_signs, rText_signs, wText_signs, gText_placesOf, nText_placesOf, rText_placesOf, wText_placesOf, gText_size, pText_size, b_X0_makesEach_45, hs.1, I_shlN]
        exact this
      · by_cases hc : (bgM (pk s k)).testBit i = true ∧ (List.range i).any (bgM (pk s k)).testBit = true
        · rw [if_pos hc] at hmb
          have hd : eachAt s k p z i = [mrk z] ++ (if (prt (pk s k) p).testBit i = true then [fa s i] else []) := by
            unfold eachAt
            rw [if_pos ⟨z0, hc⟩]
          obtain ⟨v, u, r, hv, e, hr⟩ := x_addO (F := F) (tx := tx) (pg := pg) (le := le) (ln := ln) (tk := tk) (bd := bd) (vi := vi) (va := va) (vl := vl) (vj := vj) (la := la) (me := me) hT ha (mrk_ok z) hF
          have em := x_markOf (F := F) (M := mk (tx, pg, le, ln, tk, bd, vi, va, vl, vj, la, me)) (m := z) (by omega) (by omega)
          simp (disch := first | assumption | omega | exact is_Script_draft | exact is_Script_made | exact is_Learner_made | exact is_Learner_madeFirst | (apply is_eScript_tasks; omega) | (apply is_eScript_lines; omega) | (apply is_eScript_ranBy; omega)) only [↓reduceIte, ↓I_n1, obs, I_0n, l_1, l_2, l_3, l_4, l_5, l_6, l_7, l_8, l_11, l_12, l_15, l_16, l_18, l_20, l_21, l_29, l_30, l_31, l_32, l_33, l_39, l_40, l_44, l_45, l_46, l_47, l_48, l_53, l_57, l_63, l_64, l_65, l_66, l_71, l_72, l_75, l_90, l_97, l_120, l_122, l_127, l_128, l_1812, l_3600, l_4000, l_252645135, l_268435456, l_858993459, l_1431655765, I_add, I_mul, I_sub, I_addN, I_mulN, I_subN, ilt_t, ilt_f, ile_t, ile_f, ieq_t, ieq_f, up_same, up_up, I_and, I_or, I_shlN, I_shrN, I_divN, I_remN, dzI, i2cI, narI, Int.toNat_natCast, true_or, or_true, false_or, or_false, true_and, and_true, false_and, and_false, not_true_eq_false, not_false_eq_true, cText, gText_signs, nText_signs, rText_signs, wText_signs, gText_placesOf, nText_placesOf, rText_placesOf, wText_placesOf, gText_size, pText_size, b_X0_makesEach_45, hs.1, I_andn, hmb, em, e]
          rcases hr with ⟨hl, rfl, rfl⟩ | ⟨hl, rfl⟩
          · have := tail (up tx b v) (acc ++ [mrk z]) [mrk z] (by rw [up_ne hab]; exact hs) (by rw [up_same]; exact hv) hd rfl (fun v => up_up)
            simp (disch := first | assumption | omega | exact is_Script_draft | exact is_Script_made | exact is_Learner_made | exact is_Learner_madeFirst | (apply is_eScript_tasks; omega) | (apply is_eScript_lines; omega) | (apply is_eScript_ranBy; omega)) only [↓reduceIte, ↓I_n1, obs, I_0n, l_1, l_2, l_3, l_4, l_5, l_6, l_7, l_8, l_11, l_12, l_15, l_16, l_18, l_20, l_21, l_29, l_30, l_31, l_32, l_33, l_39, l_40, l_44, l_45, l_46, l_47, l_48, l_53, l_57, l_63, l_64, l_65, l_66, l_71, l_72, l_75, l_90, l_97, l_120, l_122, l_127, l_128, l_1812, l_3600, l_4000, l_252645135, l_268435456, l_858993459, l_1431655765, I_add, I_mul, I_sub, I_addN, I_mulN, I_subN, ilt_t, ilt_f, ile_t, ile_f, ieq_t, ieq_f, up_same, up_up, I_and, I_or, I_shlN, I_shrN, I_divN, I_remN, dzI, i2cI, narI, Int.toNat_natCast, true_or, or_true, false_or, or_false, true_and, and_true, false_and, and_false, not_true_eq_false, not_false_eq_true]
            exact this
          · simp (disch := first | assumption | omega | exact is_Script_draft | exact is_Script_made | exact is_Learner_made | exact is_Learner_madeFirst | (apply is_eScript_tasks; omega) | (apply is_eScript_lines; omega) | (apply is_eScript_ranBy; omega)) only [↓reduceIte, ↓I_n1, obs, I_0n, l_1, l_2, l_3, l_4, l_5, l_6, l_7, l_8, l_11, l_12, l_15, l_16, l_18, l_20, l_21, l_29, l_30, l_31, l_32, l_33, l_39, l_40, l_44, l_45, l_46, l_47, l_48, l_53, l_57, l_63, l_64, l_65, l_66, l_71, l_72, l_75, l_90, l_97, l_120, l_122, l_127, l_128, l_1812, l_3600, l_4000, l_252645135, l_268435456, l_858993459, l_1431655765, I_add, I_mul, I_sub, I_addN, I_mulN, I_subN, ilt_t, ilt_f, ile_t, ile_f, ieq_t, ieq_f, up_same, up_up, I_and, I_or, I_shlN, I_shrN, I_divN, I_remN, dzI, i2cI, narI, Int.toNat_natCast, true_or, or_true, false_or, or_false, true_and, and_true, false_and, and_false, not_true_eq_false, not_false_eq_true]
            refine ⟨v, u, 0, hv, rfl, Or.inr ⟨?_, rfl⟩⟩
            rw [eachF_step g, hd]
            simp only [List.length_append, List.length_singleton]
            omega
        · rw [if_neg hc] at hmb
          have hd : eachAt s k p z i = [] ++ (if (prt (pk s k) p).testBit i = true then [fa s i] else []) := by
            unfold eachAt
            rw [if_neg (fun q => hc q.2)]
          have := tail tx acc [] hs ha hd (List.append_nil _).symm (fun v => rfl)
          simp (disch := first | assumption | omega | exact is_Script_draft | exact is_Script_made | exact is_Learner_made | exact is_Learner_madeFirst | (apply is_eScript_tasks; omega) | (apply is_eScript_lines; omega) | (apply is_eScript_ranBy; omega)) only [↓reduceIte, ↓I_n1, obs, I_0n, l_1, l_2, l_3, l_4, l_5, l_6, l_7, l_8, l_11, l_12, l_15, l_16, l_18, l_20, l_21, l_29, l_30, l_31, l_32, l_33, l_39, l_40, l_44, l_45, l_46, l_47, l_48, l_53, l_57, l_63, l_64, l_65, l_66, l_71, l_72, l_75, l_90, l_97, l_120, l_122, l_127, l_128, l_1812, l_3600, l_4000, l_252645135, l_268435456, l_858993459, l_1431655765, I_add, I_mul, I_sub, I_addN, I_mulN, I_subN, ilt_t, ilt_f, ile_t, ile_f, ieq_t, ieq_f, up_same, up_up, I_and, I_or, I_shlN, I_shrN, I_divN, I_remN, dzI, i2cI, narI, Int.toNat_natCast, true_or, or_true, false_or, or_false, true_and, and_true, false_and, and_false, not_true_eq_false, not_false_eq_true, cText, gText_signs, nText_signs, rText_signs, wText_signs, gText_placesOf, nText_placesOf, rText_placesOf, wText_placesOf, gText_size, pText_size, b_X0_makesEach_45, hs.1, I_andn, hmb]
          exact this
    · rw [eachF_end (by omega)]
      by_cases c0 : bgM (pk s k) = 0
      · refine ⟨tx b, acc, 0, ha, ?_, Or.inl ⟨hal, by rw [if_pos c0], (List.append_nil _).symm⟩⟩
        rw [up_self]
        simp (disch := first | assumption | omega | exact is_Script_draft | exact is_Script_made | exact is_Learner_made | exact is_Learner_madeFirst | (apply is_eScript_tasks; omega) | (apply is_eScript_lines; omega) | (apply is_eScript_ranBy; omega)) only [↓reduceIte, ↓I_n1, obs, I_0n, l_1, l_2, l_3, l_4, l_5, l_6, l_7, l_8, l_11, l_12, l_15, l_16, l_18, l_20, l_21, l_29, l_30, l_31, l_32, l_33, l_39, l_40, l_44, l_45, l_46, l_47, l_48, l_53, l_57, l_63, l_64, l_65, l_66, l_71, l_72, l_75, l_90, l_97, l_120, l_122, l_127, l_128, l_1812, l_3600, l_4000, l_252645135, l_268435456, l_858993459, l_1431655765, I_add, I_mul, I_sub, I_addN, I_mulN, I_subN, ilt_t, ilt_f, ile_t, ile_f, ieq_t, ieq_f, up_same, up_up, I_and, I_or, I_shlN, I_shrN, I_divN, I_remN, dzI, i2cI, narI, Int.toNat_natCast, true_or, or_true, false_or, or_false, true_and, and_true, false_and, and_false, not_true_eq_false, not_false_eq_true, cText, gText_signs, nText_signs, rText_signs, wText_signs, gText_placesOf, nText_placesOf, rText_placesOf, wText_placesOf, gText_size, pText_size, b_X0_makesEach_45, hs.1, c0]
      · refine ⟨tx b, acc, 1, ha, ?_, Or.inl ⟨hal, by rw [if_neg c0], (List.append_nil _).symm⟩⟩
        rw [up_self]
        simp (disch := first | assumption | omega | exact is_Script_draft | exact is_Script_made | exact is_Learner_made | exact is_Learner_madeFirst | (apply is_eScript_tasks; omega) | (apply is_eScript_lines; omega) | (apply is_eScript_ranBy; omega)) only [↓reduceIte, ↓I_n1, obs, I_0n, l_1, l_2, l_3, l_4, l_5, l_6, l_7, l_8, l_11, l_12, l_15, l_16, l_18, l_20, l_21, l_29, l_30, l_31, l_32, l_33, l_39, l_40, l_44, l_45, l_46, l_47, l_48, l_53, l_57, l_63, l_64, l_65, l_66, l_71, l_72, l_75, l_90, l_97, l_120, l_122, l_127, l_128, l_1812, l_3600, l_4000, l_252645135, l_268435456, l_858993459, l_1431655765, I_add, I_mul, I_sub, I_addN, I_mulN, I_subN, ilt_t, ilt_f, ile_t, ile_f, ieq_t, ieq_f, up_same, up_up, I_and, I_or, I_shlN, I_shrN, I_divN, I_remN, dzI, i2cI, narI, Int.toNat_natCast, true_or, or_true, false_or, or_false, true_and, and_true, false_and, and_false, not_true_eq_false, not_false_eq_true, cText, gText_signs, nText_signs, rText_signs, wText_signs, gText_placesOf, nText_placesOf, rText_placesOf, wText_placesOf, gText_size, pText_size, b_X0_makesEach_45, hs.1]
theorem x_mkEach {a b : Nat} {tx : Nat → ZText} {pg : Nat → ZProg} {le : Nat → ZLearnt} {ln : Nat → ZLine} {tk : Nat → ZTask} {bd : Nat → ZBoard} {vi : Nat → Int32} {va : Nat → Nat → Int32} {vl : Nat → Nat → Int64} {vj : Int64} {la : Option Nat} {me : Nat → Option Nat} (hU : isText a) (hT : isText b) (hab : a ≠ b) {s acc : Tx} {n : Nat} (hn : n < 3672) (hn2 : 3600 ≤ n) (hs : txt (tx a) s) (ha : txt (tx b) acc) (hF : 200000 ≤ F) : ∃ v u r, txt v u ∧ f_X0_makesEach F (I (n : Nat)) a b (mk (tx, pg, le, ln, tk, bd, vi, va, vl, vj, la, me)) = some (I ((r : Nat) : Int), mk ((up tx b v), pg, le, ln, tk, bd, vi, va, vl, vj, la, me)) ∧ (addP acc (mkEach (pp n 1) (pp n 2) (pp n 3) s) = some u ∧ r = 1 ∨ addP acc (mkEach (pp n 1) (pp n 2) (pp n 3) s) = none ∧ r = 0) := by
  have hp := (pp_bd hn).2 hn2
  have e1 := x_partOf (F := F) (M := mk (tx, pg, le, ln, tk, bd, vi, va, vl, vj, la, me)) hn (w := 1) (by decide) (by decide)
  have e2 := x_partOf (F := F) (M := mk (tx, pg, le, ln, tk, bd, vi, va, vl, vj, la, me)) hn (w := 2) (by decide) (by decide)
  have e3 := x_partOf (F := F) (M := mk (tx, pg, le, ln, tk, bd, vi, va, vl, vj, la, me)) hn (w := 3) (by decide) (by decide)
  have g1 := x_placesOfRuns (F := F) (tx := tx) (pg := pg) (le := le) (ln := ln) (tk := tk) (bd := bd) (vi := vi) (va := va) (vl := vl) (vj := vj) (la := la) (me := me) hU hs (k := (pp n 1 : Nat)) (p := (pp n 2 : Nat)) (by omega) (by omega) (by omega) (by omega)
  have g2 := x_placesOfRuns (F := F) (tx := tx) (pg := pg) (le := le) (ln := ln) (tk := tk) (bd := bd) (vi := vi) (va := va) (vl := vl) (vj := vj) (la := la) (me := me) hU hs (k := (pp n 1 : Nat)) (p := ((1 : Nat) : Int)) (by omega) (by omega) (by omega) (by omega)
  obtain ⟨v, u, r, hv, e, hr⟩ := x_each45 hU hT hab (s := s) (k := pp n 1) (p := pp n 2) (z := pp n 3) hp.1 hp.2.2 hF F 0 tx pg le ln tk bd vi va vl vj la me acc (by omega) (by have := hs.2.1; omega) hs ha
  have g3 : prt (msk (fa s) (pp n 1 : Nat) s.length) ((1 : Nat) : Int) = bgM (pk s (pp n 1)) := by
    unfold prt
    rw [if_pos (by decide)]
    rfl
  rw [g3] at g2
  refine ⟨v, u, r, hv, ?_, ?_⟩
  · simp (disch := first | assumption | omega | exact is_Script_draft | exact is_Script_made | exact is_Learner_made | exact is_Learner_madeFirst | (apply is_eScript_tasks; omega) | (apply is_eScript_lines; omega) | (apply is_eScript_ranBy; omega)) only [↓reduceIte, ↓I_n1, obs, I_0n, l_1, l_2, l_3, l_4, l_5, l_6, l_7, l_8, l_11, l_12, l_15, l_16, l_18, l_20, l_21, l_29, l_30, l_31, l_32, l_33, l_39, l_40, l_44, l_45, l_46, l_47, l_48, l_53, l_57, l_63, l_64, l_65, l_66, l_71, l_72, l_75, l_90, l_97, l_120, l_122, l_127, l_128, l_1812, l_3600, l_4000, l_252645135, l_268435456, l_858993459, l_1431655765, I_add, I_mul, I_sub, I_addN, I_mulN, I_subN, ilt_t, ilt_f, ile_t, ile_f, ieq_t, ieq_f, up_same, up_up, I_and, I_or, I_shlN, I_shrN, I_divN, I_remN, dzI, i2cI, narI, Int.toNat_natCast, true_or, or_true, false_or, or_false, true_and, and_true, false_and, and_false, not_true_eq_false, not_false_eq_true, b_X0_makesEach_92, f_X0_makesEach_92, b_X0_makesEach_45, b_X0_makesEach_0, f_X0_makesEach_0, f_X0_makesEach, e1, e2, e3, g1, g2, I_low]
    exact e
  · unfold mkEach
    by_cases c0 : bgM (pk s (pp n 1)) = 0
    · rw [if_pos c0]
      refine Or.inr ⟨rfl, ?_⟩
      rcases hr with ⟨q1, q2, q3⟩ | ⟨q1, q2⟩
      · rw [q2, if_pos c0]
      · exact q2
    · rw [if_neg c0]
      unfold addP
      rw [Option.bind_some]
      rcases hr with ⟨q1, q2, q3⟩ | ⟨q1, q2⟩
      · exact Or.inl ⟨by rw [if_pos q1, q3], by rw [q2, if_neg c0]⟩
      · exact Or.inr ⟨if_neg (by omega), q2⟩
end
