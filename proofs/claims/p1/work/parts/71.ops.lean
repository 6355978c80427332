/-! SIMPLE CALLS OF BOTH, AND WHAT A CALL'S END WANTS (source: wip/whole/src, laid by tools/prep.py) -/
theorem lg_cmp_self (x : Int64) : lg_cmp x x = 0 := by
  unfold lg_cmp
  simp
section
variable {tx : Nat → ZText} {pg : Nat → ZProg} {le : Nat → ZLearnt} {ln : Nat → ZLine} {tk : Nat → ZTask} {bd : Nat → ZBoard} {vi : Nat → Int32} {va : Nat → Nat → Int32} {vl : Nat → Nat → Int64} {vj : Int64} {la : Option Nat} {me : Nat → Option Nat} {F : Nat}
theorem m_thrown : f_X12_thrown F 570 (mk (tx, pg, le, ln, tk, bd, vi, va, vl, vj, la, me)) = some (vi 1000, mk (tx, pg, le, ln, tk, bd, vi, va, vl, vj, la, me)) := by
  show f_X12_thrown F aModel (mk (tx, pg, le, ln, tk, bd, vi, va, vl, vj, la, me)) = _
  simp only [f_X12_thrown, f_X12_thrown_0, b_X12_thrown_0, cModel, gModel_thrown, if_true, Option.bind_some]
theorem x_needTask {t : Int} (h0 : -2147483648 ≤ t) (h1 : t < 2147483648) : f_X11_needTask F aScript (I t) (mk (tx, pg, le, ln, tk, bd, vi, va, vl, vj, la, me)) = some (if 0 ≤ t ∧ t < 3 then 0 else 3, mk (tx, pg, le, ln, tk, bd, vi, va, vl, vj, la, me)) := by
  simp (disch := first | omega | assumption | exact is_Script_draft | exact is_Script_made | exact is_Learner_made | exact is_Learner_madeFirst | (apply is_eScript_tasks; omega) | (apply is_eScript_lines; omega) | (apply is_eScript_ranBy; omega)) only [f_X11_needTask, f_X11_needTask_0, b_X11_needTask_0, cScript, if_true, I_0, I_lit, I_lt, kxTV]
  by_cases a : t < 0
  · rw [if_pos a, if_neg (show ¬ (0 ≤ t ∧ t < 3) by omega)]
    rfl
  · rw [if_neg a]
    by_cases b : t < ((3 : Nat) : Int)
    · rw [if_pos b, if_pos (show 0 ≤ t ∧ t < 3 by omega)]
    · rw [if_neg b, if_neg (show ¬ (0 ≤ t ∧ t < 3) by omega)]
      rfl
end
section
variable {tx : Nat → ZText} {pg : Nat → ZProg} {le : Nat → ZLearnt} {ln : Nat → ZLine} {tk : Nat → ZTask} {bd : Nat → ZBoard} {vi : Nat → Int32} {va : Nat → Nat → Int32} {vl : Nat → Nat → Int64} {vj : Int64} {la : Option Nat} {me : Nat → Option Nat} {F : Nat}
theorem x_needLine {l n : Int} (h0 : -2147483648 ≤ l) (h1 : l < 2147483648) (hn : vi 907 = I n) (n0 : 0 ≤ n) (n1 : n ≤ 8) : f_X11_needLine F aScript (I l) (mk (tx, pg, le, ln, tk, bd, vi, va, vl, vj, la, me)) = some (if 0 ≤ l ∧ l < n then 0 else 3, mk (tx, pg, le, ln, tk, bd, vi, va, vl, vj, la, me)) := by
  simp (disch := first | omega | assumption | exact is_Script_draft | exact is_Script_made | exact is_Learner_made | exact is_Learner_madeFirst | (apply is_eScript_tasks; omega) | (apply is_eScript_lines; omega) | (apply is_eScript_ranBy; omega)) only [f_X11_needLine, f_X11_needLine_0, b_X11_needLine_0, cScript, gScript_lineCount, hn, if_true, Option.bind_some, I_0, I_lit, I_lt, I_le, kxTV]
  by_cases a : l < 0
  · rw [if_pos a, if_neg (show ¬ (0 ≤ l ∧ l < n) by omega)]
    rfl
  · rw [if_neg a]
    by_cases b : n ≤ l
    · rw [if_pos b, if_neg (show ¬ (0 ≤ l ∧ l < n) by omega)]
      rfl
    · rw [if_neg b, if_pos (show l < ((8 : Nat) : Int) by omega), if_pos (show 0 ≤ l ∧ l < n by omega)]
theorem x_length {l n : Int} (h0 : -2147483648 ≤ l) (h1 : l < 2147483648) (hn : vi 907 = I n) (n0 : 0 ≤ n) (n1 : n ≤ 8) : f_X11_length F aScript (I l) (mk (tx, pg, le, ln, tk, bd, vi, va, vl, vj, la, me)) = some (if 0 ≤ l ∧ l < n then (0, (tx (aLine_now (eScript_lines l.toNat))).2.2, mk (tx, pg, le, ln, tk, bd, vi, va, vl, vj, la, me)) else (3, 0, mk (tx, pg, le, ln, tk, bd, vi, va, vl, vj, la, me))) := by
  simp (disch := first | omega | assumption | exact is_Script_draft | exact is_Script_made | exact is_Learner_made | exact is_Learner_madeFirst | (apply is_eScript_tasks; omega) | (apply is_eScript_lines; omega) | (apply is_eScript_ranBy; omega)) only [f_X11_length, f_X11_length_0, b_X11_length_0, cScript, if_true, x_needLine h0 h1 hn n0 n1, Option.bind_some]
  by_cases a : 0 ≤ l ∧ l < n
  · obtain ⟨a0, a1⟩ := a
    have hL : isLine (eScript_lines l.toNat) := is_eScript_lines (by omega)
    have hT := is_Line_now hL
    simp (disch := first | omega | assumption | exact is_Script_draft | exact is_Script_made | exact is_Learner_made | exact is_Learner_madeFirst | (apply is_eScript_tasks; omega) | (apply is_eScript_lines; omega) | (apply is_eScript_ranBy; omega)) only [if_pos (show 0 ≤ l ∧ l < n from ⟨a0, a1⟩), cScript, gScript_draft, gScript_made, gScript_tasks, nScript_tasks, rScript_tasks, gScript_lines, nScript_lines, rScript_lines, gScript_ranBy, nScript_ranBy, rScript_ranBy, gScript_runCounts, nScript_runCounts, rScript_runCounts, wScript_runCounts, gScript_learner, gScript_lineCount, pScript_lineCount, gScript_runCount, pScript_runCount, gScript_askedLines, pScript_askedLines, cLine, gLine_came, gLine_now, gLine_steps, nLine_steps, rLine_steps, wLine_steps, gLine_stepCount, pLine_stepCount, cText, gText_signs, nText_signs, rText_signs, wText_signs, gText_placesOf, nText_placesOf, rText_placesOf, wText_placesOf, gText_size, pText_size, if_true, Option.bind_some]
  · simp only [if_neg a]
    rfl
theorem x_signAt0 {l p : Int} (h0 : -2147483648 ≤ l) (h1 : l < 2147483648) (hn : vi 907 = I 0) : f_X11_signAt F aScript (I l) (I p) (mk (tx, pg, le, ln, tk, bd, vi, va, vl, vj, la, me)) = some (3, 0, mk (tx, pg, le, ln, tk, bd, vi, va, vl, vj, la, me)) := by
  simp (disch := first | omega | assumption | exact is_Script_draft | exact is_Script_made | exact is_Learner_made | exact is_Learner_madeFirst | (apply is_eScript_tasks; omega) | (apply is_eScript_lines; omega) | (apply is_eScript_ranBy; omega)) only [f_X11_signAt, f_X11_signAt_0, b_X11_signAt_0, cScript, if_true, x_needLine h0 h1 hn (Int.le_refl 0) (by decide), Option.bind_some, if_neg (show ¬ (0 ≤ l ∧ l < 0) by omega)]
  rfl
theorem x_placeOf0 {l p : Int} (h0 : -2147483648 ≤ l) (h1 : l < 2147483648) (hn : vi 907 = I 0) : f_X11_placeOf F aScript (I l) (I p) (mk (tx, pg, le, ln, tk, bd, vi, va, vl, vj, la, me)) = some (3, 0, mk (tx, pg, le, ln, tk, bd, vi, va, vl, vj, la, me)) := by
  simp (disch := first | omega | assumption | exact is_Script_draft | exact is_Script_made | exact is_Learner_made | exact is_Learner_madeFirst | (apply is_eScript_tasks; omega) | (apply is_eScript_lines; omega) | (apply is_eScript_ranBy; omega)) only [f_X11_placeOf, f_X11_placeOf_0, b_X11_placeOf_0, cScript, if_true, x_needLine h0 h1 hn (Int.le_refl 0) (by decide), Option.bind_some, if_neg (show ¬ (0 ≤ l ∧ l < 0) by omega)]
  rfl
theorem x_show0 {t l : Int} (t0 : -2147483648 ≤ t) (t1 : t < 2147483648) (h0 : -2147483648 ≤ l) (h1 : l < 2147483648) (hn : vi 907 = I 0) : f_X11_show F aScript (I t) (I l) (mk (tx, pg, le, ln, tk, bd, vi, va, vl, vj, la, me)) = some (3, 0, mk (tx, pg, le, ln, tk, bd, vi, va, vl, vj, la, me)) := by
  simp (disch := first | omega | assumption | exact is_Script_draft | exact is_Script_made | exact is_Learner_made | exact is_Learner_madeFirst | (apply is_eScript_tasks; omega) | (apply is_eScript_lines; omega) | (apply is_eScript_ranBy; omega)) only [f_X11_show, f_X11_show_0, b_X11_show_0, cScript, if_true, x_needTask t0 t1, x_needLine h0 h1 hn (Int.le_refl 0) (by decide), Option.bind_some, if_neg (show ¬ (0 ≤ l ∧ l < 0) by omega)]
  split <;> rfl
theorem x_refuse0 {t l : Int} (t0 : -2147483648 ≤ t) (t1 : t < 2147483648) (h0 : -2147483648 ≤ l) (h1 : l < 2147483648) (hn : vi 907 = I 0) : f_X11_refuse F aScript (I t) (I l) (mk (tx, pg, le, ln, tk, bd, vi, va, vl, vj, la, me)) = some (3, 0, mk (tx, pg, le, ln, tk, bd, vi, va, vl, vj, la, me)) := by
  simp (disch := first | omega | assumption | exact is_Script_draft | exact is_Script_made | exact is_Learner_made | exact is_Learner_madeFirst | (apply is_eScript_tasks; omega) | (apply is_eScript_lines; omega) | (apply is_eScript_ranBy; omega)) only [f_X11_refuse, f_X11_refuse_0, b_X11_refuse_0, cScript, if_true, x_needTask t0 t1, x_needLine h0 h1 hn (Int.le_refl 0) (by decide), Option.bind_some, if_neg (show ¬ (0 ≤ l ∧ l < 0) by omega)]
  split <;> rfl
theorem x_preview0 {t l p : Int} (t0 : -2147483648 ≤ t) (t1 : t < 2147483648) (h0 : -2147483648 ≤ l) (h1 : l < 2147483648) (hn : vi 907 = I 0) : f_X11_preview F aScript (I t) (I l) (I p) (mk (tx, pg, le, ln, tk, bd, vi, va, vl, vj, la, me)) = some (3, 0, mk (tx, pg, le, ln, tk, bd, vi, va, vl, vj, la, me)) := by
  simp (disch := first | omega | assumption | exact is_Script_draft | exact is_Script_made | exact is_Learner_made | exact is_Learner_madeFirst | (apply is_eScript_tasks; omega) | (apply is_eScript_lines; omega) | (apply is_eScript_ranBy; omega)) only [f_X11_preview, f_X11_preview_0, b_X11_preview_0, cScript, if_true, x_needTask t0 t1, x_needLine h0 h1 hn (Int.le_refl 0) (by decide), Option.bind_some, if_neg (show ¬ (0 ≤ l ∧ l < 0) by omega)]
  split <;> rfl
theorem x_run0 {t l l2 w : Int} (t0 : -2147483648 ≤ t) (t1 : t < 2147483648) (h0 : -2147483648 ≤ l) (h1 : l < 2147483648) (hn : vi 907 = I 0) : f_X11_run F aScript (I t) (I l) (I l2) (I w) (mk (tx, pg, le, ln, tk, bd, vi, va, vl, vj, la, me)) = some (3, 0, mk (tx, pg, le, ln, tk, bd, vi, va, vl, vj, la, me)) := by
  simp (disch := first | omega | assumption | exact is_Script_draft | exact is_Script_made | exact is_Learner_made | exact is_Learner_madeFirst | (apply is_eScript_tasks; omega) | (apply is_eScript_lines; omega) | (apply is_eScript_ranBy; omega)) only [f_X11_run, cScript, if_true]
  unfold f_X11_run_0 b_X11_run_0
  rw [x_needTask t0 t1, Option.bind_some]
  by_cases a : 0 ≤ t ∧ t < 3
  · rw [if_pos a]
    dsimp only
    rw [if_pos rfl, x_needLine h0 h1 hn (Int.le_refl 0) (by decide), Option.bind_some, if_neg (show ¬ (0 ≤ l ∧ l < 0) by omega)]
    rfl
  · rw [if_neg a]
    rfl
theorem x_runs : f_X11_runs F aScript (mk (tx, pg, le, ln, tk, bd, vi, va, vl, vj, la, me)) = some (vi 908, mk (tx, pg, le, ln, tk, bd, vi, va, vl, vj, la, me)) := by
  simp (disch := first | omega | assumption | exact is_Script_draft | exact is_Script_made | exact is_Learner_made | exact is_Learner_madeFirst | (apply is_eScript_tasks; omega) | (apply is_eScript_lines; omega) | (apply is_eScript_ranBy; omega)) only [f_X11_runs, f_X11_runs_0, b_X11_runs_0, cScript, gScript_runCount, if_true, Option.bind_some]
theorem x_asked : f_X11_asked F aScript (mk (tx, pg, le, ln, tk, bd, vi, va, vl, vj, la, me)) = some (vi 909, mk (tx, pg, le, ln, tk, bd, (up vi 909 (I 0)), va, vl, vj, la, me)) := by
  simp (disch := first | omega | assumption | exact is_Script_draft | exact is_Script_made | exact is_Learner_made | exact is_Learner_madeFirst | (apply is_eScript_tasks; omega) | (apply is_eScript_lines; omega) | (apply is_eScript_ranBy; omega)) only [f_X11_asked, f_X11_asked_0, b_X11_asked_0, cScript, gScript_askedLines, pScript_askedLines, if_true, Option.bind_some, I_0]
theorem x_undo0 {r : Int} (t0 : -2147483648 ≤ r) (t1 : r < 2147483648) (hn : vi 908 = I 0) : f_X11_undo F aScript (I r) (mk (tx, pg, le, ln, tk, bd, vi, va, vl, vj, la, me)) = some (3, 0, mk (tx, pg, le, ln, tk, bd, vi, va, vl, vj, la, me)) := by
  have e1 : (I r < 0) = (r < 0) := I_lt (b := 0) t0 t1 (by decide) (by decide)
  have e2 : (I 0 ≤ I r) = ((0 : Int) ≤ r) := I_le (by decide) (by decide) t0 t1
  simp (disch := first | omega | assumption | exact is_Script_draft | exact is_Script_made | exact is_Learner_made | exact is_Learner_madeFirst | (apply is_eScript_tasks; omega) | (apply is_eScript_lines; omega) | (apply is_eScript_ranBy; omega)) only [f_X11_undo, cScript, if_true]
  unfold f_X11_undo_0 b_X11_undo_0
  rw [gScript_runCount, Option.bind_some, hn]
  by_cases a : r < 0
  · rw [if_pos (e1 ▸ a)]
    rfl
  · rw [if_neg (e1 ▸ a), if_pos (e2 ▸ (show (0 : Int) ≤ r by omega))]
    rfl
theorem x_condition {t : Int} (h0 : -2147483648 ≤ t) (h1 : t < 2147483648) : f_X11_condition F aScript (I t) (mk (tx, pg, le, ln, tk, bd, vi, va, vl, vj, la, me)) = some (if 0 ≤ t ∧ t < 3 then (0, (if (le (aTask_learnt (eScript_tasks t.toNat))).1 = I 0 then I (-1) else (le (aTask_learnt (eScript_tasks t.toNat))).2), mk (tx, pg, le, ln, tk, bd, vi, va, vl, vj, la, me)) else (3, 0, mk (tx, pg, le, ln, tk, bd, vi, va, vl, vj, la, me))) := by
  simp (disch := first | omega | assumption | exact is_Script_draft | exact is_Script_made | exact is_Learner_made | exact is_Learner_madeFirst | (apply is_eScript_tasks; omega) | (apply is_eScript_lines; omega) | (apply is_eScript_ranBy; omega)) only [f_X11_condition, f_X11_condition_0, b_X11_condition_0, cScript, if_true, x_needTask h0 h1, Option.bind_some]
  by_cases a : 0 ≤ t ∧ t < 3
  · obtain ⟨a0, a1⟩ := a
    have hT : isTask (eScript_tasks t.toNat) := is_eScript_tasks (by omega)
    have hL := is_Task_learnt hT
    simp (disch := first | omega | assumption | exact is_Script_draft | exact is_Script_made | exact is_Learner_made | exact is_Learner_madeFirst | (apply is_eScript_tasks; omega) | (apply is_eScript_lines; omega) | (apply is_eScript_ranBy; omega)) only [if_pos (show 0 ≤ t ∧ t < 3 from ⟨a0, a1⟩), cScript, gScript_draft, gScript_made, gScript_tasks, nScript_tasks, rScript_tasks, gScript_lines, nScript_lines, rScript_lines, gScript_ranBy, nScript_ranBy, rScript_ranBy, gScript_runCounts, nScript_runCounts, rScript_runCounts, wScript_runCounts, gScript_learner, gScript_lineCount, pScript_lineCount, gScript_runCount, pScript_runCount, gScript_askedLines, pScript_askedLines, cTask, gTask_was, nTask_was, rTask_was, gTask_shown, nTask_shown, rTask_shown, gTask_lineOf, nTask_lineOf, rTask_lineOf, wTask_lineOf, gTask_examples, pTask_examples, gTask_refusedOf, nTask_refusedOf, rTask_refusedOf, gTask_refused, nTask_refused, rTask_refused, gTask_refusals, pTask_refusals, gTask_pins, nTask_pins, rTask_pins, wTask_pins, gTask_learnt, gTask_standing, pTask_standing, gTask_best, nTask_best, rTask_best, gTask_bestCount, pTask_bestCount, gTask_isBestKnown, pTask_isBestKnown, cLearnt, gLearnt_first, gLearnt_second, gLearnt_any, pLearnt_any, gLearnt_parting, pLearnt_parting, if_true, Option.bind_some, I_0, I_n1]
    split <;> simp_all
  · simp only [if_neg a]
    rfl
end
