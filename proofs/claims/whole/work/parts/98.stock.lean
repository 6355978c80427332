/-! THE STOCK OF ATOMS OF A SET OF EXAMPLES -/
def ocp (n : Nat) (m : Tx × Tx) : Nat := match mkA (.inr n) m.1 with
  | none => 0
  | some t => occ t m.2
def sz (n : Nat) (m : Tx × Tx) : Nat := match mkA (.inr n) m.1 with
  | none => 0
  | some t => t.length
theorem ocp_lt (n : Nat) (m : Tx × Tx) : ocp n m < 1048576 := by
  unfold ocp
  split
  · decide
  · exact occ_lt _ _
theorem sz_le {n : Nat} {m : Tx × Tx} (hn : n < 3672) (hm : m.1.length ≤ 20) : sz n m ≤ 20 := by
  unfold sz
  split
  · decide
  · next t h => exact mkA_len (a := .inr n) hn hm h
theorem cutN {a b w : Nat} (ha : a < 30) (hb : b < 30) (hw : w < 4) : (a * 30 + b) * 4 + w < 3600 ∧ pp ((a * 30 + b) * 4 + w) 1 = a ∧ pp ((a * 30 + b) * 4 + w) 2 = b ∧ pp ((a * 30 + b) * 4 + w) 3 = w := by
  have h : (a * 30 + b) * 4 + w < 3600 := by omega
  obtain ⟨p1, p2, p3⟩ := pp_cut h
  have e1 : ((a * 30 + b) * 4 + w) / 4 = a * 30 + b := by omega
  rw [e1] at p1 p2
  refine ⟨h, p1.trans ?_, p2.trans ?_, p3.trans ?_⟩
  · clear p1 p2 p3 e1 h
    omega
  · clear p1 p2 p3 e1 h
    omega
  · clear p1 p2 p3 e1 h
    omega
theorem mkA_cut {a b w : Nat} (ha : a < 30) (hb : b < 30) (hw : w < 4) (s : Tx) : mkA (.inr ((a * 30 + b) * 4 + w)) s = mkCut a b w s := by
  obtain ⟨h, h1, h2, h3⟩ := cutN ha hb hw
  generalize (a * 30 + b) * 4 + w = n at *
  unfold mkA
  dsimp only
  rw [if_pos h, h1, h2, h3]
section
variable {F : Nat}
theorem x_hasCut {A a b : Nat} {tx : Nat → ZText} {pg : Nat → ZProg} {le : Nat → ZLearnt} {ln : Nat → ZLine} {tk : Nat → ZTask} {bd : Nat → ZBoard} {vi : Nat → Int32} {va : Nat → Nat → Int32} {vl : Nat → Nat → Int64} {vj : Int64} {la : Option Nat} {me : Nat → Option Nat} (hB : isBoard A) {m : Tx × Tx} (hb : brd tx (bd A) A m) (ha : a < 30) (hb2 : b < 30) : f_X1_hasCut F A (I (a : Nat)) (I (b : Nat)) (mk (tx, pg, le, ln, tk, bd, vi, va, vl, vj, la, me)) = some (I ((if 0 ≤ plc m.1 a ∧ plc m.1 a < plc m.1 b then 1 else 0 : Nat) : Int), mk (tx, pg, le, ln, tk, bd, vi, va, vl, vj, la, me)) := by
  obtain ⟨h1, h2, h3, h4, h5⟩ := hb
  have e1 := h3 a ha
  have e2 := h3 b hb2
  have b1 := plc_bd (s := m.1) (sp := a)
  have b2 := plc_bd (s := m.1) (sp := b)
  have hl := h1.2.1
  by_cases c1 : plc m.1 a < 0
  · rw [if_neg (by omega)]
    simp (disch := first | assumption | omega | exact is_Script_draft | exact is_Script_made | exact is_Learner_made | exact is_Learner_madeFirst | (apply is_eScript_tasks; omega) | (apply is_eScript_lines; omega) | (apply is_eScript_ranBy; omega)) only [↓reduceIte, ↓I_n1, obs, I_0n, l_1, l_2, l_3, l_4, l_5, l_6, l_7, l_8, l_11, l_12, l_15, l_16, l_18, l_20, l_21, l_29, l_30, l_31, l_32, l_33, l_39, l_40, l_44, l_45, l_46, l_47, l_48, l_53, l_57, l_63, l_64, l_65, l_66, l_71, l_72, l_75, l_90, l_97, l_120, l_122, l_127, l_128, l_1812, l_3600, l_4000, l_252645135, l_268435456, l_858993459, l_1431655765, I_add, I_mul, I_sub, I_addN, I_mulN, I_subN, ilt_t, ilt_f, ile_t, ile_f, ieq_t, ieq_f, up_same, up_up, I_and, I_or, I_shlN, I_shrN, I_divN, I_remN, dzI, i2cI, narI, Int.toNat_natCast, true_or, or_true, false_or, or_false, true_and, and_true, false_and, and_false, not_true_eq_false, not_false_eq_true, cBoard, gBoard_was, gBoard_shown, gBoard_spots, nBoard_spots, rBoard_spots, wBoard_spots, gBoard_placesOfSign, nBoard_placesOfSign, rBoard_placesOfSign, wBoard_placesOfSign, gBoard_cutPlaces, nBoard_cutPlaces, rBoard_cutPlaces, wBoard_cutPlaces, gBoard_eachPlaces, nBoard_eachPlaces, rBoard_eachPlaces, wBoard_eachPlaces, gBoard_eachSizes, nBoard_eachSizes, rBoard_eachSizes, wBoard_eachSizes, gBoard_made, b_X1_hasCut_0, f_X1_hasCut_0, f_X1_hasCut, e1, e2]
  · by_cases c2 : plc m.1 a < plc m.1 b
    · rw [if_pos (by omega)]
      simp (disch := first | assumption | omega | exact is_Script_draft | exact is_Script_made | exact is_Learner_made | exact is_Learner_madeFirst | (apply is_eScript_tasks; omega) | (apply is_eScript_lines; omega) | (apply is_eScript_ranBy; omega)) only [↓reduceIte, ↓I_n1, obs, I_0n, l_1, l_2, l_3, l_4, l_5, l_6, l_7, l_8, l_11, l_12, l_15, l_16, l_18, l_20, l_21, l_29, l_30, l_31, l_32, l_33, l_39, l_40, l_44, l_45, l_46, l_47, l_48, l_53, l_57, l_63, l_64, l_65, l_66, l_71, l_72, l_75, l_90, l_97, l_120, l_122, l_127, l_128, l_1812, l_3600, l_4000, l_252645135, l_268435456, l_858993459, l_1431655765, I_add, I_mul, I_sub, I_addN, I_mulN, I_subN, ilt_t, ilt_f, ile_t, ile_f, ieq_t, ieq_f, up_same, up_up, I_and, I_or, I_shlN, I_shrN, I_divN, I_remN, dzI, i2cI, narI, Int.toNat_natCast, true_or, or_true, false_or, or_false, true_and, and_true, false_and, and_false, not_true_eq_false, not_false_eq_true, cBoard, gBoard_was, gBoard_shown, gBoard_spots, nBoard_spots, rBoard_spots, wBoard_spots, gBoard_placesOfSign, nBoard_placesOfSign, rBoard_placesOfSign, wBoard_placesOfSign, gBoard_cutPlaces, nBoard_cutPlaces, rBoard_cutPlaces, wBoard_cutPlaces, gBoard_eachPlaces, nBoard_eachPlaces, rBoard_eachPlaces, wBoard_eachPlaces, gBoard_eachSizes, nBoard_eachSizes, rBoard_eachSizes, wBoard_eachSizes, gBoard_made, b_X1_hasCut_0, f_X1_hasCut_0, f_X1_hasCut, e1, e2]
    · rw [if_neg (by omega)]
      simp (disch := first | assumption | omega | exact is_Script_draft | exact is_Script_made | exact is_Learner_made | exact is_Learner_madeFirst | (apply is_eScript_tasks; omega) | (apply is_eScript_lines; omega) | (apply is_eScript_ranBy; omega)) only [↓reduceIte, ↓I_n1, obs, I_0n, l_1, l_2, l_3, l_4, l_5, l_6, l_7, l_8, l_11, l_12, l_15, l_16, l_18, l_20, l_21, l_29, l_30, l_31, l_32, l_33, l_39, l_40, l_44, l_45, l_46, l_47, l_48, l_53, l_57, l_63, l_64, l_65, l_66, l_71, l_72, l_75, l_90, l_97, l_120, l_122, l_127, l_128, l_1812, l_3600, l_4000, l_252645135, l_268435456, l_858993459, l_1431655765, I_add, I_mul, I_sub, I_addN, I_mulN, I_subN, ilt_t, ilt_f, ile_t, ile_f, ieq_t, ieq_f, up_same, up_up, I_and, I_or, I_shlN, I_shrN, I_divN, I_remN, dzI, i2cI, narI, Int.toNat_natCast, true_or, or_true, false_or, or_false, true_and, and_true, false_and, and_false, not_true_eq_false, not_false_eq_true, cBoard, gBoard_was, gBoard_shown, gBoard_spots, nBoard_spots, rBoard_spots, wBoard_spots, gBoard_placesOfSign, nBoard_placesOfSign, rBoard_placesOfSign, wBoard_placesOfSign, gBoard_cutPlaces, nBoard_cutPlaces, rBoard_cutPlaces, wBoard_cutPlaces, gBoard_eachPlaces, nBoard_eachPlaces, rBoard_eachPlaces, wBoard_eachPlaces, gBoard_eachSizes, nBoard_eachSizes, rBoard_eachSizes, wBoard_eachSizes, gBoard_made, b_X1_hasCut_0, f_X1_hasCut_0, f_X1_hasCut, e1, e2]
theorem x_placesOfCut {A a b w : Nat} {tx : Nat → ZText} {pg : Nat → ZProg} {le : Nat → ZLearnt} {ln : Nat → ZLine} {tk : Nat → ZTask} {bd : Nat → ZBoard} {vi : Nat → Int32} {va : Nat → Nat → Int32} {vl : Nat → Nat → Int64} {vj : Int64} {la : Option Nat} {me : Nat → Option Nat} (hB : isBoard A) {m : Tx × Tx} (hb : brd tx (bd A) A m) (ha : a < 30) (hb2 : b < 30) (hw : w < 4) : f_X1_placesOfCut F A (I (a : Nat)) (I (b : Nat)) (I (w : Nat)) (mk (tx, pg, le, ln, tk, bd, vi, va, vl, vj, la, me)) = some (I (ocp ((a * 30 + b) * 4 + w) m : Nat), mk (tx, pg, le, ln, tk, bd, vi, va, vl, vj, la, me)) := by
  have eh := x_hasCut (F := F) (tx := tx) (pg := pg) (le := le) (ln := ln) (tk := tk) (bd := bd) (vi := vi) (va := va) (vl := vl) (vj := vj) (la := la) (me := me) hB hb ha hb2
  obtain ⟨h1, h2, h3, h4, h5⟩ := hb
  have e1 := h3 a ha
  have e2 := h3 b hb2
  have b1 := plc_bd (s := m.1) (sp := a)
  have b2 := plc_bd (s := m.1) (sp := b)
  have hl := h1.2.1
  unfold ocp
  rw [mkA_cut ha hb2 hw]
  unfold mkCut
  by_cases c : 0 ≤ plc m.1 a ∧ plc m.1 a < plc m.1 b
  · rw [if_pos c] at eh
    rw [if_neg (by omega)]
    obtain ⟨f, hf⟩ : ∃ f : Nat, plc m.1 a = f := ⟨_, (Int.toNat_of_nonneg (by omega)).symm⟩
    obtain ⟨t, ht⟩ : ∃ t : Nat, plc m.1 b = t := ⟨_, (Int.toNat_of_nonneg (by omega)).symm⟩
    rw [hf] at e1 b1 c ⊢
    rw [ht] at e2 b2 c ⊢
    have e4 := h4 w f t hw (by omega) (by omega)
    rw [Int.toNat_natCast, Int.toNat_natCast]
    simp (disch := first | assumption | omega | exact is_Script_draft | exact is_Script_made | exact is_Learner_made | exact is_Learner_madeFirst | (apply is_eScript_tasks; omega) | (apply is_eScript_lines; omega) | (apply is_eScript_ranBy; omega)) only [↓reduceIte, ↓I_n1, obs, I_0n, l_1, l_2, l_3, l_4, l_5, l_6, l_7, l_8, l_11, l_12, l_15, l_16, l_18, l_20, l_21, l_29, l_30, l_31, l_32, l_33, l_39, l_40, l_44, l_45, l_46, l_47, l_48, l_53, l_57, l_63, l_64, l_65, l_66, l_71, l_72, l_75, l_90, l_97, l_120, l_122, l_127, l_128, l_1812, l_3600, l_4000, l_252645135, l_268435456, l_858993459, l_1431655765, I_add, I_mul, I_sub, I_addN, I_mulN, I_subN, ilt_t, ilt_f, ile_t, ile_f, ieq_t, ieq_f, up_same, up_up, I_and, I_or, I_shlN, I_shrN, I_divN, I_remN, dzI, i2cI, narI, Int.toNat_natCast, true_or, or_true, false_or, or_false, true_and, and_true, false_and, and_false, not_true_eq_false, not_false_eq_true, cBoard, gBoard_was, gBoard_shown, gBoard_spots, nBoard_spots, rBoard_spots, wBoard_spots, gBoard_placesOfSign, nBoard_placesOfSign, rBoard_placesOfSign, wBoard_placesOfSign, gBoard_cutPlaces, nBoard_cutPlaces, rBoard_cutPlaces, wBoard_cutPlaces, gBoard_eachPlaces, nBoard_eachPlaces, rBoard_eachPlaces, wBoard_eachPlaces, gBoard_eachSizes, nBoard_eachSizes, rBoard_eachSizes, wBoard_eachSizes, gBoard_made, b_X1_placesOfCut_0, f_X1_placesOfCut_0, f_X1_placesOfCut, eh, e1, e2, e4]
  · rw [if_neg c] at eh
    rw [if_pos (by omega)]
    simp (disch := first | assumption | omega | exact is_Script_draft | exact is_Script_made | exact is_Learner_made | exact is_Learner_madeFirst | (apply is_eScript_tasks; omega) | (apply is_eScript_lines; omega) | (apply is_eScript_ranBy; omega)) only [↓reduceIte, ↓I_n1, obs, I_0n, l_1, l_2, l_3, l_4, l_5, l_6, l_7, l_8, l_11, l_12, l_15, l_16, l_18, l_20, l_21, l_29, l_30, l_31, l_32, l_33, l_39, l_40, l_44, l_45, l_46, l_47, l_48, l_53, l_57, l_63, l_64, l_65, l_66, l_71, l_72, l_75, l_90, l_97, l_120, l_122, l_127, l_128, l_1812, l_3600, l_4000, l_252645135, l_268435456, l_858993459, l_1431655765, I_add, I_mul, I_sub, I_addN, I_mulN, I_subN, ilt_t, ilt_f, ile_t, ile_f, ieq_t, ieq_f, up_same, up_up, I_and, I_or, I_shlN, I_shrN, I_divN, I_remN, dzI, i2cI, narI, Int.toNat_natCast, true_or, or_true, false_or, or_false, true_and, and_true, false_and, and_false, not_true_eq_false, not_false_eq_true, cBoard, gBoard_was, gBoard_shown, gBoard_spots, nBoard_spots, rBoard_spots, wBoard_spots, gBoard_placesOfSign, nBoard_placesOfSign, rBoard_placesOfSign, wBoard_placesOfSign, gBoard_cutPlaces, nBoard_cutPlaces, rBoard_cutPlaces, wBoard_cutPlaces, gBoard_eachPlaces, nBoard_eachPlaces, rBoard_eachPlaces, wBoard_eachPlaces, gBoard_eachSizes, nBoard_eachSizes, rBoard_eachSizes, wBoard_eachSizes, gBoard_made, b_X1_placesOfCut_0, f_X1_placesOfCut_0, f_X1_placesOfCut, eh]
theorem x_sizeOfCut {A a b w : Nat} {tx : Nat → ZText} {pg : Nat → ZProg} {le : Nat → ZLearnt} {ln : Nat → ZLine} {tk : Nat → ZTask} {bd : Nat → ZBoard} {vi : Nat → Int32} {va : Nat → Nat → Int32} {vl : Nat → Nat → Int64} {vj : Int64} {la : Option Nat} {me : Nat → Option Nat} (hB : isBoard A) {m : Tx × Tx} (hb : brd tx (bd A) A m) (ha : a < 30) (hb2 : b < 30) (hw : w < 4) (c : 0 ≤ plc m.1 a ∧ plc m.1 a < plc m.1 b) : f_X1_sizeOfCut F A (I (a : Nat)) (I (b : Nat)) (mk (tx, pg, le, ln, tk, bd, vi, va, vl, vj, la, me)) = some (I (sz ((a * 30 + b) * 4 + w) m : Nat), mk (tx, pg, le, ln, tk, bd, vi, va, vl, vj, la, me)) := by
  obtain ⟨h1, h2, h3, h4, h5⟩ := hb
  have e1 := h3 a ha
  have e2 := h3 b hb2
  have b2 := plc_bd (s := m.1) (sp := b)
  have hl := h1.2.1
  unfold sz
  rw [mkA_cut ha hb2 hw]
  unfold mkCut
  rw [if_neg (by omega)]
  obtain ⟨f, hf⟩ : ∃ f : Nat, plc m.1 a = f := ⟨_, (Int.toNat_of_nonneg (by omega)).symm⟩
  obtain ⟨t, ht⟩ : ∃ t : Nat, plc m.1 b = t := ⟨_, (Int.toNat_of_nonneg (by omega)).symm⟩
  rw [hf] at e1 c ⊢
  rw [ht] at e2 b2 c ⊢
  rw [Int.toNat_natCast, Int.toNat_natCast]
  show _ = some (I ((cutF m.1 f t w f).length : Nat), _)
  rw [cutF_len]
  simp (disch := first | assumption | omega | exact is_Script_draft | exact is_Script_made | exact is_Learner_made | exact is_Learner_madeFirst | (apply is_eScript_tasks; omega) | (apply is_eScript_lines; omega) | (apply is_eScript_ranBy; omega)) only [↓reduceIte, ↓I_n1, obs, I_0n, l_1, l_2, l_3, l_4, l_5, l_6, l_7, l_8, l_11, l_12, l_15, l_16, l_18, l_20, l_21, l_29, l_30, l_31, l_32, l_33, l_39, l_40, l_44, l_45, l_46, l_47, l_48, l_53, l_57, l_63, l_64, l_65, l_66, l_71, l_72, l_75, l_90, l_97, l_120, l_122, l_127, l_128, l_1812, l_3600, l_4000, l_252645135, l_268435456, l_858993459, l_1431655765, I_add, I_mul, I_sub, I_addN, I_mulN, I_subN, ilt_t, ilt_f, ile_t, ile_f, ieq_t, ieq_f, up_same, up_up, I_and, I_or, I_shlN, I_shrN, I_divN, I_remN, dzI, i2cI, narI, Int.toNat_natCast, true_or, or_true, false_or, or_false, true_and, and_true, false_and, and_false, not_true_eq_false, not_false_eq_true, cBoard, gBoard_was, gBoard_shown, gBoard_spots, nBoard_spots, rBoard_spots, wBoard_spots, gBoard_placesOfSign, nBoard_placesOfSign, rBoard_placesOfSign, wBoard_placesOfSign, gBoard_cutPlaces, nBoard_cutPlaces, rBoard_cutPlaces, wBoard_cutPlaces, gBoard_eachPlaces, nBoard_eachPlaces, rBoard_eachPlaces, wBoard_eachPlaces, gBoard_eachSizes, nBoard_eachSizes, rBoard_eachSizes, wBoard_eachSizes, gBoard_made, b_X1_sizeOfCut_0, f_X1_sizeOfCut_0, f_X1_sizeOfCut, e1, e2]
theorem x_placesOfEach {A q : Nat} {tx : Nat → ZText} {pg : Nat → ZProg} {le : Nat → ZLearnt} {ln : Nat → ZLine} {tk : Nat → ZTask} {bd : Nat → ZBoard} {vi : Nat → Int32} {va : Nat → Nat → Int32} {vl : Nat → Nat → Int64} {vj : Int64} {la : Option Nat} {me : Nat → Option Nat} (hB : isBoard A) {m : Tx × Tx} (hb : brd tx (bd A) A m) (hq : q < 72) : f_X1_placesOfEach F A (I (q : Nat)) (mk (tx, pg, le, ln, tk, bd, vi, va, vl, vj, la, me)) = some (I (ocp (3600 + q) m : Nat), mk (tx, pg, le, ln, tk, bd, vi, va, vl, vj, la, me)) := by
  have h5 := hb.2.2.2.2 q hq
  have e : (bd A).2.2.2.1 q = I (ocp (3600 + q) m : Nat) := by
    unfold ocp
    cases hm : mkA (.inr (3600 + q)) m.1 with
    | none => rw [hm] at h5; exact h5
    | some t => rw [hm] at h5; exact h5.1
  simp (disch := first | assumption | omega | exact is_Script_draft | exact is_Script_made | exact is_Learner_made | exact is_Learner_madeFirst | (apply is_eScript_tasks; omega) | (apply is_eScript_lines; omega) | (apply is_eScript_ranBy; omega)) only [↓reduceIte, ↓I_n1, obs, I_0n, l_1, l_2, l_3, l_4, l_5, l_6, l_7, l_8, l_11, l_12, l_15, l_16, l_18, l_20, l_21, l_29, l_30, l_31, l_32, l_33, l_39, l_40, l_44, l_45, l_46, l_47, l_48, l_53, l_57, l_63, l_64, l_65, l_66, l_71, l_72, l_75, l_90, l_97, l_120, l_122, l_127, l_128, l_1812, l_3600, l_4000, l_252645135, l_268435456, l_858993459, l_1431655765, I_add, I_mul, I_sub, I_addN, I_mulN, I_subN, ilt_t, ilt_f, ile_t, ile_f, ieq_t, ieq_f, up_same, up_up, I_and, I_or, I_shlN, I_shrN, I_divN, I_remN, dzI, i2cI, narI, Int.toNat_natCast, true_or, or_true, false_or, or_false, true_and, and_true, false_and, and_false, not_true_eq_false, not_false_eq_true, cBoard, gBoard_was, gBoard_shown, gBoard_spots, nBoard_spots, rBoard_spots, wBoard_spots, gBoard_placesOfSign, nBoard_placesOfSign, rBoard_placesOfSign, wBoard_placesOfSign, gBoard_cutPlaces, nBoard_cutPlaces, rBoard_cutPlaces, wBoard_cutPlaces, gBoard_eachPlaces, nBoard_eachPlaces, rBoard_eachPlaces, wBoard_eachPlaces, gBoard_eachSizes, nBoard_eachSizes, rBoard_eachSizes, wBoard_eachSizes, gBoard_made, b_X1_placesOfEach_0, f_X1_placesOfEach_0, f_X1_placesOfEach, e]
theorem x_sizeOfEach {A q : Nat} {tx : Nat → ZText} {pg : Nat → ZProg} {le : Nat → ZLearnt} {ln : Nat → ZLine} {tk : Nat → ZTask} {bd : Nat → ZBoard} {vi : Nat → Int32} {va : Nat → Nat → Int32} {vl : Nat → Nat → Int64} {vj : Int64} {la : Option Nat} {me : Nat → Option Nat} (hB : isBoard A) {m : Tx × Tx} (hb : brd tx (bd A) A m) (hq : q < 72) (h0 : ocp (3600 + q) m ≠ 0) : f_X1_sizeOfEach F A (I (q : Nat)) (mk (tx, pg, le, ln, tk, bd, vi, va, vl, vj, la, me)) = some (I (sz (3600 + q) m : Nat), mk (tx, pg, le, ln, tk, bd, vi, va, vl, vj, la, me)) := by
  have h5 := hb.2.2.2.2 q hq
  have e : (bd A).2.2.2.2 q = I (sz (3600 + q) m : Nat) := by
    unfold sz
    unfold ocp at h0
    cases hm : mkA (.inr (3600 + q)) m.1 with
    | none => rw [hm] at h0; exact absurd rfl h0
    | some t => rw [hm] at h5; exact h5.2
  simp (disch := first | assumption | omega | exact is_Script_draft | exact is_Script_made | exact is_Learner_made | exact is_Learner_madeFirst | (apply is_eScript_tasks; omega) | (apply is_eScript_lines; omega) | (apply is_eScript_ranBy; omega)) only [↓reduceIte, ↓I_n1, obs, I_0n, l_1, l_2, l_3, l_4, l_5, l_6, l_7, l_8, l_11, l_12, l_15, l_16, l_18, l_20, l_21, l_29, l_30, l_31, l_32, l_33, l_39, l_40, l_44, l_45, l_46, l_47, l_48, l_53, l_57, l_63, l_64, l_65, l_66, l_71, l_72, l_75, l_90, l_97, l_120, l_122, l_127, l_128, l_1812, l_3600, l_4000, l_252645135, l_268435456, l_858993459, l_1431655765, I_add, I_mul, I_sub, I_addN, I_mulN, I_subN, ilt_t, ilt_f, ile_t, ile_f, ieq_t, ieq_f, up_same, up_up, I_and, I_or, I_shlN, I_shrN, I_divN, I_remN, dzI, i2cI, narI, Int.toNat_natCast, true_or, or_true, false_or, or_false, true_and, and_true, false_and, and_false, not_true_eq_false, not_false_eq_true, cBoard, gBoard_was, gBoard_shown, gBoard_spots, nBoard_spots, rBoard_spots, wBoard_spots, gBoard_placesOfSign, nBoard_placesOfSign, rBoard_placesOfSign, wBoard_placesOfSign, gBoard_cutPlaces, nBoard_cutPlaces, rBoard_cutPlaces, wBoard_cutPlaces, gBoard_eachPlaces, nBoard_eachPlaces, rBoard_eachPlaces, wBoard_eachPlaces, gBoard_eachSizes, nBoard_eachSizes, rBoard_eachSizes, wBoard_eachSizes, gBoard_made, b_X1_sizeOfEach_0, f_X1_sizeOfEach_0, f_X1_sizeOfEach, e]
end
/-- the members of a search -/
def mems (tx : Nat → ZText) (bd : Nat → ZBoard) (vi : Nat → Int32) (me : Nat → Option Nat) (A : Nat → Nat) (ms : List (Tx × Tx)) : Prop := vi 602 = I (ms.length : Nat) ∧ 1 ≤ ms.length ∧ ms.length ≤ 4 ∧ okM ms ∧ ∀ i, i < ms.length → me i = some (A i) ∧ isBoard (A i) ∧ brd tx (bd (A i)) (A i) (gm ms i)
def gl (L : List Nat) (j : Nat) : Nat := L.getD j 0
theorem gl_mem {L : List Nat} {j : Nat} (h : j < L.length) : gl L j ∈ L := by
  unfold gl
  rw [List.getD_eq_getElem?_getD, List.getElem?_eq_getElem h]
  exact List.getElem_mem h
theorem gl_app {L : List Nat} {n j : Nat} : gl (L ++ [n]) j = if j < L.length then gl L j else if j = L.length then n else 0 := by
  unfold gl
  rw [List.getD_eq_getElem?_getD, List.getD_eq_getElem?_getD]
  by_cases h : j < L.length
  · rw [if_pos h, List.getElem?_append_left h]
  · rw [if_neg h, List.getElem?_append_right (by omega)]
    by_cases h2 : j = L.length
    · rw [if_pos h2, h2, Nat.sub_self]
      rfl
    · rw [if_neg h2, List.getElem?_eq_none (by rw [List.length_singleton]; omega)]
      rfl
/-- the rows of atom number c hold those of the code n -/
def rowOk (va : Nat → Nat → Int32) (ms : List (Tx × Tx)) (c n : Nat) : Prop := ∀ i, i < ms.length → va 446 (c * 4 + i) = I (ocp n (gm ms i) : Nat) ∧ va 447 (c * 4 + i) = I (sz n (gm ms i) : Nat)
def stk (vi : Nat → Int32) (va : Nat → Nat → Int32) (ms : List (Tx × Tx)) (L : List Nat) : Prop := vi 607 = I (L.length : Nat) ∧ L.length ≤ 1812 ∧ (∀ n, n ∈ L → n < 3672) ∧ ∀ j, j < L.length → va 444 j = I (gl L j : Nat) ∧ va 445 j = I (wt (.inr (gl L j)) : Nat) ∧ rowOk va ms j (gl L j)
def alike (ms : List (Tx × Tx)) (n n' : Nat) : Prop := ∀ i, i < ms.length → sz n (gm ms i) = sz n' (gm ms i) ∧ ocp n (gm ms i) = ocp n' (gm ms i)
def grp (vi : Nat → Int32) (va : Nat → Nat → Int32) (ms : List (Tx × Tx)) (L : List Nat) (G : Nat) (J W : Nat → Nat) : Prop := vi 611 = I (G : Nat) ∧ G ≤ L.length ∧ (∀ g, g < G → va 449 g = I (J g : Nat) ∧ J g < L.length ∧ va 450 g = I (W g : Nat) ∧ W g < 8192) ∧ (∀ s, s < 21 → ∃ z : Int, va 451 s = I z ∧ -1 ≤ z ∧ z < G) ∧ (∀ g, g < G → ∃ z : Int, va 452 g = I z ∧ -1 ≤ z ∧ z < g) ∧ ∀ j, j < L.length → ∃ g, g < G ∧ alike ms (gl L j) (gl L (J g)) ∧ (W g).testBit (wt (.inr (gl L j)) - 4) = true
section
variable {F : Nat}
theorem x_like2 {ms : List (Tx × Tx)} {A : Nat → Nat} {c o n n' : Nat} {tx : Nat → ZText} {pg : Nat → ZProg} {le : Nat → ZLearnt} {ln : Nat → ZLine} {tk : Nat → ZTask} {bd : Nat → ZBoard} {vi : Nat → Int32} {va : Nat → Nat → Int32} {vl : Nat → Nat → Int64} {vj : Int64} {la : Option Nat} {me : Nat → Option Nat} (hM : mems tx bd vi me A ms) (hc : c < 1812) (ho : o < 1812) (hn : n < 3672) (hn' : n' < 3672) (h1 : vi 607 = I (c : Nat)) (h2 : rowOk va ms c n) (h3 : rowOk va ms o n') : ∀ (f i : Nat), i ≤ ms.length → 5 - i ≤ f → (∀ k, k < i → sz n (gm ms k) = sz n' (gm ms k) ∧ ocp n (gm ms k) = ocp n' (gm ms k)) → ∃ r : Nat, f_X8_isLike_2 F f aStock (I (o : Nat)) (I (i : Nat)) (mk (tx, pg, le, ln, tk, bd, vi, va, vl, vj, la, me)) = some (I (r : Nat), mk (tx, pg, le, ln, tk, bd, vi, va, vl, vj, la, me)) ∧ (r = 1 ∧ alike ms n n' ∨ r = 0 ∧ ¬ alike ms n n') := by
  obtain ⟨m1, m2, m3, m4, m5⟩ := hM
  intro f
  induction f with
  | zero => intros; omega
  | succ f ih =>
    intro i hi hf hk
    rw [s_X8_isLike_2]
    by_cases g : i < ms.length
    · obtain ⟨a1, a2⟩ := h2 i g
      obtain ⟨a3, a4⟩ := h3 i g
      have b1 := ocp_lt n (gm ms i)
      have b2 := ocp_lt n' (gm ms i)
      have hl : (gm ms i).1.length ≤ 20 := by
        have : gm ms i ∈ ms := by
          unfold gm
          rw [List.getD_eq_getElem?_getD, List.getElem?_eq_getElem g]
          exact List.getElem_mem g
        exact (m4 _ this).2.1
      have b3 := sz_le hn hl
      have b4 := sz_le hn' hl
      by_cases c1 : sz n (gm ms i) = sz n' (gm ms i)
      · by_cases c2 : ocp n (gm ms i) = ocp n' (gm ms i)
        · obtain ⟨r, e, hr⟩ := ih (i + 1) (by omega) (by omega) (fun k hk2 => by
            by_cases q : k = i
            · rw [q]; exact ⟨c1, c2⟩
            · exact hk k (by omega))
          refine ⟨r, ?_, hr⟩
          simp (disch := first | assumption | omega | exact is_Script_draft | exact is_Script_made | exact is_Learner_made | exact is_Learner_madeFirst | (apply is_eScript_tasks; omega) | (apply is_eScript_lines; omega) | (apply is_eScript_ranBy; omega)) only [↓reduceIte, ↓I_n1, obs, I_0n, l_1, l_2, l_3, l_4, l_5, l_6, l_7, l_8, l_11, l_12, l_15, l_16, l_18, l_20, l_21, l_29, l_30, l_31, l_32, l_33, l_39, l_40, l_44, l_45, l_46, l_47, l_48, l_53, l_57, l_63, l_64, l_65, l_66, l_71, l_72, l_75, l_90, l_97, l_120, l_122, l_127, l_128, l_1812, l_3600, l_4000, l_252645135, l_268435456, l_858993459, l_1431655765, I_add, I_mul, I_sub, I_addN, I_mulN, I_subN, ilt_t, ilt_f, ile_t, ile_f, ieq_t, ieq_f, up_same, up_up, I_and, I_or, I_shlN, I_shrN, I_divN, I_remN, dzI, i2cI, narI, Int.toNat_natCast, true_or, or_true, false_or, or_false, true_and, and_true, false_and, and_false, not_true_eq_false, not_false_eq_true, cStock, gStock_boards, nStock_boards, rStock_boards, gStock_members, nStock_members, rStock_members, wStock_members, gStock_memberCount, pStock_memberCount, gStock_atoms, nStock_atoms, rStock_atoms, wStock_atoms, gStock_weights, nStock_weights, rStock_weights, wStock_weights, gStock_places, nStock_places, rStock_places, wStock_places, gStock_sizes, nStock_sizes, rStock_sizes, wStock_sizes, gStock_atomCount, pStock_atomCount, gStock_shared, nStock_shared, rStock_shared, wStock_shared, gStock_groups, nStock_groups, rStock_groups, wStock_groups, gStock_groupWeights, nStock_groupWeights, rStock_groupWeights, wStock_groupWeights, gStock_groupCount, pStock_groupCount, gStock_newest, nStock_newest, rStock_newest, wStock_newest, gStock_older, nStock_older, rStock_older, wStock_older, b_X8_isLike_2, m1, h1, a1, a2, a3, a4]
          exact e
        · refine ⟨0, ?_, Or.inr ⟨rfl, fun q => c2 (q i g).2⟩⟩
          simp (disch := first | assumption | omega | exact is_Script_draft | exact is_Script_made | exact is_Learner_made | exact is_Learner_madeFirst | (apply is_eScript_tasks; omega) | (apply is_eScript_lines; omega) | (apply is_eScript_ranBy; omega)) only [↓reduceIte, ↓I_n1, obs, I_0n, l_1, l_2, l_3, l_4, l_5, l_6, l_7, l_8, l_11, l_12, l_15, l_16, l_18, l_20, l_21, l_29, l_30, l_31, l_32, l_33, l_39, l_40, l_44, l_45, l_46, l_47, l_48, l_53, l_57, l_63, l_64, l_65, l_66, l_71, l_72, l_75, l_90, l_97, l_120, l_122, l_127, l_128, l_1812, l_3600, l_4000, l_252645135, l_268435456, l_858993459, l_1431655765, I_add, I_mul, I_sub, I_addN, I_mulN, I_subN, ilt_t, ilt_f, ile_t, ile_f, ieq_t, ieq_f, up_same, up_up, I_and, I_or, I_shlN, I_shrN, I_divN, I_remN, dzI, i2cI, narI, Int.toNat_natCast, true_or, or_true, false_or, or_false, true_and, and_true, false_and, and_false, not_true_eq_false, not_false_eq_true, cStock, gStock_boards, nStock_boards, rStock_boards, gStock_members, nStock_members, rStock_members, wStock_members, gStock_memberCount, pStock_memberCount, gStock_atoms, nStock_atoms, rStock_atoms, wStock_atoms, gStock_weights, nStock_weights, rStock_weights, wStock_weights, gStock_places, nStock_places, rStock_places, wStock_places, gStock_sizes, nStock_sizes, rStock_sizes, wStock_sizes, gStock_atomCount, pStock_atomCount, gStock_shared, nStock_shared, rStock_shared, wStock_shared, gStock_groups, nStock_groups, rStock_groups, wStock_groups, gStock_groupWeights, nStock_groupWeights, rStock_groupWeights, wStock_groupWeights, gStock_groupCount, pStock_groupCount, gStock_newest, nStock_newest, rStock_newest, wStock_newest, gStock_older, nStock_older, rStock_older, wStock_older, b_X8_isLike_2, m1, h1, a1, a2, a3, a4]
      · refine ⟨0, ?_, Or.inr ⟨rfl, fun q => c1 (q i g).1⟩⟩
        simp (disch := first | assumption | omega | exact is_Script_draft | exact is_Script_made | exact is_Learner_made | exact is_Learner_madeFirst | (apply is_eScript_tasks; omega) | (apply is_eScript_lines; omega) | (apply is_eScript_ranBy; omega)) only [↓reduceIte, ↓I_n1, obs, I_0n, l_1, l_2, l_3, l_4, l_5, l_6, l_7, l_8, l_11, l_12, l_15, l_16, l_18, l_20, l_21, l_29, l_30, l_31, l_32, l_33, l_39, l_40, l_44, l_45, l_46, l_47, l_48, l_53, l_57, l_63, l_64, l_65, l_66, l_71, l_72, l_75, l_90, l_97, l_120, l_122, l_127, l_128, l_1812, l_3600, l_4000, l_252645135, l_268435456, l_858993459, l_1431655765, I_add, I_mul, I_sub, I_addN, I_mulN, I_subN, ilt_t, ilt_f, ile_t, ile_f, ieq_t, ieq_f, up_same, up_up, I_and, I_or, I_shlN, I_shrN, I_divN, I_remN, dzI, i2cI, narI, Int.toNat_natCast, true_or, or_true, false_or, or_false, true_and, and_true, false_and, and_false, not_true_eq_false, not_false_eq_true, cStock, gStock_boards, nStock_boards, rStock_boards, gStock_members, nStock_members, rStock_members, wStock_members, gStock_memberCount, pStock_memberCount, gStock_atoms, nStock_atoms, rStock_atoms, wStock_atoms, gStock_weights, nStock_weights, rStock_weights, wStock_weights, gStock_places, nStock_places, rStock_places, wStock_places, gStock_sizes, nStock_sizes, rStock_sizes, wStock_sizes, gStock_atomCount, pStock_atomCount, gStock_shared, nStock_shared, rStock_shared, wStock_shared, gStock_groups, nStock_groups, rStock_groups, wStock_groups, gStock_groupWeights, nStock_groupWeights, rStock_groupWeights, wStock_groupWeights, gStock_groupCount, pStock_groupCount, gStock_newest, nStock_newest, rStock_newest, wStock_newest, gStock_older, nStock_older, rStock_older, wStock_older, b_X8_isLike_2, m1, h1, a1, a2, a3, a4]
    · refine ⟨1, ?_, Or.inl ⟨rfl, fun k hk2 => hk k (by omega)⟩⟩
      simp (disch := first | assumption | omega | exact is_Script_draft | exact is_Script_made | exact is_Learner_made | exact is_Learner_madeFirst | (apply is_eScript_tasks; omega) | (apply is_eScript_lines; omega) | (apply is_eScript_ranBy; omega)) only [↓reduceIte, ↓I_n1, obs, I_0n, l_1, l_2, l_3, l_4, l_5, l_6, l_7, l_8, l_11, l_12, l_15, l_16, l_18, l_20, l_21, l_29, l_30, l_31, l_32, l_33, l_39, l_40, l_44, l_45, l_46, l_47, l_48, l_53, l_57, l_63, l_64, l_65, l_66, l_71, l_72, l_75, l_90, l_97, l_120, l_122, l_127, l_128, l_1812, l_3600, l_4000, l_252645135, l_268435456, l_858993459, l_1431655765, I_add, I_mul, I_sub, I_addN, I_mulN, I_subN, ilt_t, ilt_f, ile_t, ile_f, ieq_t, ieq_f, up_same, up_up, I_and, I_or, I_shlN, I_shrN, I_divN, I_remN, dzI, i2cI, narI, Int.toNat_natCast, true_or, or_true, false_or, or_false, true_and, and_true, false_and, and_false, not_true_eq_false, not_false_eq_true, cStock, gStock_boards, nStock_boards, rStock_boards, gStock_members, nStock_members, rStock_members, wStock_members, gStock_memberCount, pStock_memberCount, gStock_atoms, nStock_atoms, rStock_atoms, wStock_atoms, gStock_weights, nStock_weights, rStock_weights, wStock_weights, gStock_places, nStock_places, rStock_places, wStock_places, gStock_sizes, nStock_sizes, rStock_sizes, wStock_sizes, gStock_atomCount, pStock_atomCount, gStock_shared, nStock_shared, rStock_shared, wStock_shared, gStock_groups, nStock_groups, rStock_groups, wStock_groups, gStock_groupWeights, nStock_groupWeights, rStock_groupWeights, wStock_groupWeights, gStock_groupCount, pStock_groupCount, gStock_newest, nStock_newest, rStock_newest, wStock_newest, gStock_older, nStock_older, rStock_older, wStock_older, b_X8_isLike_2, m1]
theorem x_like {ms : List (Tx × Tx)} {A : Nat → Nat} {c o n n' : Nat} {tx : Nat → ZText} {pg : Nat → ZProg} {le : Nat → ZLearnt} {ln : Nat → ZLine} {tk : Nat → ZTask} {bd : Nat → ZBoard} {vi : Nat → Int32} {va : Nat → Nat → Int32} {vl : Nat → Nat → Int64} {vj : Int64} {la : Option Nat} {me : Nat → Option Nat} (hF : 200000 ≤ F) (hM : mems tx bd vi me A ms) (hc : c < 1812) (ho : o < 1812) (hn : n < 3672) (hn' : n' < 3672) (h1 : vi 607 = I (c : Nat)) (h2 : rowOk va ms c n) (h3 : rowOk va ms o n') : ∃ r : Nat, f_X8_isLike F aStock (I (o : Nat)) (mk (tx, pg, le, ln, tk, bd, vi, va, vl, vj, la, me)) = some (I (r : Nat), mk (tx, pg, le, ln, tk, bd, vi, va, vl, vj, la, me)) ∧ (r = 1 ∧ alike ms n n' ∨ r = 0 ∧ ¬ alike ms n n') := by
  obtain ⟨r, e, hr⟩ := x_like2 (F := F) (tx := tx) (pg := pg) (le := le) (ln := ln) (tk := tk) (bd := bd) (vi := vi) (va := va) (vl := vl) (vj := vj) (la := la) (me := me) hM hc ho hn hn' h1 h2 h3 F 0 (Nat.zero_le _) (by omega) (fun k hk => absurd hk (Nat.not_lt_zero _))
  refine ⟨r, ?_, hr⟩
  simp (disch := first | assumption | omega | exact is_Script_draft | exact is_Script_made | exact is_Learner_made | exact is_Learner_madeFirst | (apply is_eScript_tasks; omega) | (apply is_eScript_lines; omega) | (apply is_eScript_ranBy; omega)) only [↓reduceIte, ↓I_n1, obs, I_0n, l_1, l_2, l_3, l_4, l_5, l_6, l_7, l_8, l_11, l_12, l_15, l_16, l_18, l_20, l_21, l_29, l_30, l_31, l_32, l_33, l_39, l_40, l_44, l_45, l_46, l_47, l_48, l_53, l_57, l_63, l_64, l_65, l_66, l_71, l_72, l_75, l_90, l_97, l_120, l_122, l_127, l_128, l_1812, l_3600, l_4000, l_252645135, l_268435456, l_858993459, l_1431655765, I_add, I_mul, I_sub, I_addN, I_mulN, I_subN, ilt_t, ilt_f, ile_t, ile_f, ieq_t, ieq_f, up_same, up_up, I_and, I_or, I_shlN, I_shrN, I_divN, I_remN, dzI, i2cI, narI, Int.toNat_natCast, true_or, or_true, false_or, or_false, true_and, and_true, false_and, and_false, not_true_eq_false, not_false_eq_true, cStock, gStock_boards, nStock_boards, rStock_boards, gStock_members, nStock_members, rStock_members, wStock_members, gStock_memberCount, pStock_memberCount, gStock_atoms, nStock_atoms, rStock_atoms, wStock_atoms, gStock_weights, nStock_weights, rStock_weights, wStock_weights, gStock_places, nStock_places, rStock_places, wStock_places, gStock_sizes, nStock_sizes, rStock_sizes, wStock_sizes, gStock_atomCount, pStock_atomCount, gStock_shared, nStock_shared, rStock_shared, wStock_shared, gStock_groups, nStock_groups, rStock_groups, wStock_groups, gStock_groupWeights, nStock_groupWeights, rStock_groupWeights, wStock_groupWeights, gStock_groupCount, pStock_groupCount, gStock_newest, nStock_newest, rStock_newest, wStock_newest, gStock_older, nStock_older, rStock_older, wStock_older, b_X8_isLike_2, b_X8_isLike_0, f_X8_isLike_0, f_X8_isLike]
  exact e
/-- the group that is like it, or none -/
theorem x_add48 {ms : List (Tx × Tx)} {A : Nat → Nat} {L : List Nat} {G n s : Nat} {J W : Nat → Nat} {w : Nat} {tx : Nat → ZText} {pg : Nat → ZProg} {le : Nat → ZLearnt} {ln : Nat → ZLine} {tk : Nat → ZTask} {bd : Nat → ZBoard} {vi : Nat → Int32} {va : Nat → Nat → Int32} {vl : Nat → Nat → Int64} {vj : Int64} {la : Option Nat} {me : Nat → Option Nat} (hF : 200000 ≤ F) (hM : mems tx bd vi me A ms) (hn : n < 3672) (h1 : vi 607 = I (L.length : Nat)) (hL : L.length < 1812) (hLn : ∀ n, n ∈ L → n < 3672) (h2 : rowOk va ms L.length n) (h3 : ∀ j, j < L.length → rowOk va ms j (gl L j)) (hG : grp vi va ms L G J W) : ∀ (f k : Nat) (z : Int), k ≤ G → G + 2 - k ≤ f → -1 ≤ z → z < G - k → ∃ z' : Int, f_X8_addAtom_48 F f aStock (I (w : Nat)) (I (s : Nat)) (I z) (I (k : Nat)) (mk (tx, pg, le, ln, tk, bd, vi, va, vl, vj, la, me)) = f_X8_addAtom_92 F aStock (I (w : Nat)) (I (s : Nat)) (I z') (mk (tx, pg, le, ln, tk, bd, vi, va, vl, vj, la, me)) ∧ (z' = -1 ∨ ∃ g : Nat, z' = g ∧ g < G ∧ alike ms n (gl L (J g))) := by
  obtain ⟨g1, g2, g3, g4, g5, g6⟩ := hG
  intro f
  induction f with
  | zero => intros; omega
  | succ f ih =>
    intro k z hk hf hz0 hz1
    rw [s_X8_addAtom_48]
    by_cases g : k < G
    · by_cases c : z = -1
      · subst c
        refine ⟨-1, ?_, Or.inl rfl⟩
        simp (disch := first | assumption | omega | exact is_Script_draft | exact is_Script_made | exact is_Learner_made | exact is_Learner_madeFirst | (apply is_eScript_tasks; omega) | (apply is_eScript_lines; omega) | (apply is_eScript_ranBy; omega)) only [↓reduceIte, ↓I_n1, obs, I_0n, l_1, l_2, l_3, l_4, l_5, l_6, l_7, l_8, l_11, l_12, l_15, l_16, l_18, l_20, l_21, l_29, l_30, l_31, l_32, l_33, l_39, l_40, l_44, l_45, l_46, l_47, l_48, l_53, l_57, l_63, l_64, l_65, l_66, l_71, l_72, l_75, l_90, l_97, l_120, l_122, l_127, l_128, l_1812, l_3600, l_4000, l_252645135, l_268435456, l_858993459, l_1431655765, I_add, I_mul, I_sub, I_addN, I_mulN, I_subN, ilt_t, ilt_f, ile_t, ile_f, ieq_t, ieq_f, up_same, up_up, I_and, I_or, I_shlN, I_shrN, I_divN, I_remN, dzI, i2cI, narI, Int.toNat_natCast, true_or, or_true, false_or, or_false, true_and, and_true, false_and, and_false, not_true_eq_false, not_false_eq_true, cStock, gStock_boards, nStock_boards, rStock_boards, gStock_members, nStock_members, rStock_members, wStock_members, gStock_memberCount, pStock_memberCount, gStock_atoms, nStock_atoms, rStock_atoms, wStock_atoms, gStock_weights, nStock_weights, rStock_weights, wStock_weights, gStock_places, nStock_places, rStock_places, wStock_places, gStock_sizes, nStock_sizes, rStock_sizes, wStock_sizes, gStock_atomCount, pStock_atomCount, gStock_shared, nStock_shared, rStock_shared, wStock_shared, gStock_groups, nStock_groups, rStock_groups, wStock_groups, gStock_groupWeights, nStock_groupWeights, rStock_groupWeights, wStock_groupWeights, gStock_groupCount, pStock_groupCount, gStock_newest, nStock_newest, rStock_newest, wStock_newest, gStock_older, nStock_older, rStock_older, wStock_older, b_X8_addAtom_48, g1]
      · obtain ⟨y, rfl⟩ : ∃ y : Nat, z = y := ⟨z.toNat, by omega⟩
        obtain ⟨a1, a2, a3, a4⟩ := g3 y (by omega)
        obtain ⟨r, e, hr⟩ := x_like (F := F) (tx := tx) (pg := pg) (le := le) (ln := ln) (tk := tk) (bd := bd) (vi := vi) (va := va) (vl := vl) (vj := vj) (la := la) (me := me) hF hM hL (by omega) hn (hLn _ (gl_mem a2)) h1 h2 (h3 _ a2)
        rcases hr with ⟨rfl, hal⟩ | ⟨rfl, hal⟩
        · refine ⟨y, ?_, Or.inr ⟨y, rfl, by omega, hal⟩⟩
          simp (disch := first | assumption | omega | exact is_Script_draft | exact is_Script_made | exact is_Learner_made | exact is_Learner_madeFirst | (apply is_eScript_tasks; omega) | (apply is_eScript_lines; omega) | (apply is_eScript_ranBy; omega)) only [↓reduceIte, ↓I_n1, obs, I_0n, l_1, l_2, l_3, l_4, l_5, l_6, l_7, l_8, l_11, l_12, l_15, l_16, l_18, l_20, l_21, l_29, l_30, l_31, l_32, l_33, l_39, l_40, l_44, l_45, l_46, l_47, l_48, l_53, l_57, l_63, l_64, l_65, l_66, l_71, l_72, l_75, l_90, l_97, l_120, l_122, l_127, l_128, l_1812, l_3600, l_4000, l_252645135, l_268435456, l_858993459, l_1431655765, I_add, I_mul, I_sub, I_addN, I_mulN, I_subN, ilt_t, ilt_f, ile_t, ile_f, ieq_t, ieq_f, up_same, up_up, I_and, I_or, I_shlN, I_shrN, I_divN, I_remN, dzI, i2cI, narI, Int.toNat_natCast, true_or, or_true, false_or, or_false, true_and, and_true, false_and, and_false, not_true_eq_false, not_false_eq_true, cStock, gStock_boards, nStock_boards, rStock_boards, gStock_members, nStock_members, rStock_members, wStock_members, gStock_memberCount, pStock_memberCount, gStock_atoms, nStock_atoms, rStock_atoms, wStock_atoms, gStock_weights, nStock_weights, rStock_weights, wStock_weights, gStock_places, nStock_places, rStock_places, wStock_places, gStock_sizes, nStock_sizes, rStock_sizes, wStock_sizes, gStock_atomCount, pStock_atomCount, gStock_shared, nStock_shared, rStock_shared, wStock_shared, gStock_groups, nStock_groups, rStock_groups, wStock_groups, gStock_groupWeights, nStock_groupWeights, rStock_groupWeights, wStock_groupWeights, gStock_groupCount, pStock_groupCount, gStock_newest, nStock_newest, rStock_newest, wStock_newest, gStock_older, nStock_older, rStock_older, wStock_older, b_X8_addAtom_48, g1, a1, e]
        · obtain ⟨z2, b1, b2, b3⟩ := g5 y (by omega)
          obtain ⟨z', e', h'⟩ := ih (k + 1) z2 (by omega) (by omega) b2 (by omega)
          refine ⟨z', ?_, h'⟩
          simp (disch := first | assumption | omega | exact is_Script_draft | exact is_Script_made | exact is_Learner_made | exact is_Learner_madeFirst | (apply is_eScript_tasks; omega) | (apply is_eScript_lines; omega) | (apply is_eScript_ranBy; omega)) only [↓reduceIte, ↓I_n1, obs, I_0n, l_1, l_2, l_3, l_4, l_5, l_6, l_7, l_8, l_11, l_12, l_15, l_16, l_18, l_20, l_21, l_29, l_30, l_31, l_32, l_33, l_39, l_40, l_44, l_45, l_46, l_47, l_48, l_53, l_57, l_63, l_64, l_65, l_66, l_71, l_72, l_75, l_90, l_97, l_120, l_122, l_127, l_128, l_1812, l_3600, l_4000, l_252645135, l_268435456, l_858993459, l_1431655765, I_add, I_mul, I_sub, I_addN, I_mulN, I_subN, ilt_t, ilt_f, ile_t, ile_f, ieq_t, ieq_f, up_same, up_up, I_and, I_or, I_shlN, I_shrN, I_divN, I_remN, dzI, i2cI, narI, Int.toNat_natCast, true_or, or_true, false_or, or_false, true_and, and_true, false_and, and_false, not_true_eq_false, not_false_eq_true, cStock, gStock_boards, nStock_boards, rStock_boards, gStock_members, nStock_members, rStock_members, wStock_members, gStock_memberCount, pStock_memberCount, gStock_atoms, nStock_atoms, rStock_atoms, wStock_atoms, gStock_weights, nStock_weights, rStock_weights, wStock_weights, gStock_places, nStock_places, rStock_places, wStock_places, gStock_sizes, nStock_sizes, rStock_sizes, wStock_sizes, gStock_atomCount, pStock_atomCount, gStock_shared, nStock_shared, rStock_shared, wStock_shared, gStock_groups, nStock_groups, rStock_groups, wStock_groups, gStock_groupWeights, nStock_groupWeights, rStock_groupWeights, wStock_groupWeights, gStock_groupCount, pStock_groupCount, gStock_newest, nStock_newest, rStock_newest, wStock_newest, gStock_older, nStock_older, rStock_older, wStock_older, b_X8_addAtom_48, g1, a1, e, b1]
          exact e'
    · have hzz : z = -1 := by omega
      subst hzz
      refine ⟨-1, ?_, Or.inl rfl⟩
      simp (disch := first | assumption | omega | exact is_Script_draft | exact is_Script_made | exact is_Learner_made | exact is_Learner_madeFirst | (apply is_eScript_tasks; omega) | (apply is_eScript_lines; omega) | (apply is_eScript_ranBy; omega)) only [↓reduceIte, ↓I_n1, obs, I_0n, l_1, l_2, l_3, l_4, l_5, l_6, l_7, l_8, l_11, l_12, l_15, l_16, l_18, l_20, l_21, l_29, l_30, l_31, l_32, l_33, l_39, l_40, l_44, l_45, l_46, l_47, l_48, l_53, l_57, l_63, l_64, l_65, l_66, l_71, l_72, l_75, l_90, l_97, l_120, l_122, l_127, l_128, l_1812, l_3600, l_4000, l_252645135, l_268435456, l_858993459, l_1431655765, I_add, I_mul, I_sub, I_addN, I_mulN, I_subN, ilt_t, ilt_f, ile_t, ile_f, ieq_t, ieq_f, up_same, up_up, I_and, I_or, I_shlN, I_shrN, I_divN, I_remN, dzI, i2cI, narI, Int.toNat_natCast, true_or, or_true, false_or, or_false, true_and, and_true, false_and, and_false, not_true_eq_false, not_false_eq_true, cStock, gStock_boards, nStock_boards, rStock_boards, gStock_members, nStock_members, rStock_members, wStock_members, gStock_memberCount, pStock_memberCount, gStock_atoms, nStock_atoms, rStock_atoms, wStock_atoms, gStock_weights, nStock_weights, rStock_weights, wStock_weights, gStock_places, nStock_places, rStock_places, wStock_places, gStock_sizes, nStock_sizes, rStock_sizes, wStock_sizes, gStock_atomCount, pStock_atomCount, gStock_shared, nStock_shared, rStock_shared, wStock_shared, gStock_groups, nStock_groups, rStock_groups, wStock_groups, gStock_groupWeights, nStock_groupWeights, rStock_groupWeights, wStock_groupWeights, gStock_groupCount, pStock_groupCount, gStock_newest, nStock_newest, rStock_newest, wStock_newest, gStock_older, nStock_older, rStock_older, wStock_older, b_X8_addAtom_48, g1]
end
