/-! CALLS OF THE CLASS WHERE A TASK HAS NO EXAMPLES -/
section
variable {tx : Nat → ZText} {pg : Nat → ZProg} {le : Nat → ZLearnt} {ln : Nat → ZLine} {tk : Nat → ZTask} {bd : Nat → ZBoard} {vi : Nat → Int32} {va : Nat → Nat → Int32} {vl : Nat → Nat → Int64} {vj : Int64} {la : Option Nat} {me : Nat → Option Nat} {F : Nat}
theorem x_findBest0 {a : Nat} (hT : isTask a) (hk : (tk a).2.2.2.2.2.2 = I 0) (he : (tk a).2.1 = I 0) : f_X3_findBest F aLearner a (mk (tx, pg, le, ln, tk, bd, vi, va, vl, vj, la, me)) = some (mk (tx, pg, le, ln, (up tk a ((tk a).1, (tk a).2.1, (tk a).2.2.1, (tk a).2.2.2.1, (tk a).2.2.2.2.1, I 0, I 1)), bd, vi, va, vl, vj, la, me)) := by
  simp (disch := first | omega | assumption | exact is_Script_draft | exact is_Script_made | exact is_Learner_made | exact is_Learner_madeFirst | (apply is_eScript_tasks; omega) | (apply is_eScript_lines; omega) | (apply is_eScript_ranBy; omega)) only [f_X3_findBest, f_X3_findBest_0, b_X3_findBest_0, cLearner, gLearner_finder, gLearner_chosen, nLearner_chosen, rLearner_chosen, gLearner_tried, nLearner_tried, rLearner_tried, wLearner_tried, gLearner_made, gLearner_madeFirst, cTask, gTask_was, nTask_was, rTask_was, gTask_shown, nTask_shown, rTask_shown, gTask_lineOf, nTask_lineOf, rTask_lineOf, wTask_lineOf, gTask_examples, pTask_examples, gTask_refusedOf, nTask_refusedOf, rTask_refusedOf, gTask_refused, nTask_refused, rTask_refused, gTask_refusals, pTask_refusals, gTask_pins, nTask_pins, rTask_pins, wTask_pins, gTask_learnt, gTask_standing, pTask_standing, gTask_best, nTask_best, rTask_best, gTask_bestCount, pTask_bestCount, gTask_isBestKnown, pTask_isBestKnown, hk, he, if_true, Option.bind_some, I_0, I_1, up_same, up_up]
theorem x_count0 {t : Int} (h0 : -2147483648 ≤ t) (h1 : t < 2147483648) (hk : ∀ a, isTask a → (tk a).2.2.2.2.2.2 = I 0 ∧ (tk a).2.1 = I 0) : ∃ tk', f_X11_count F aScript (I t) (mk (tx, pg, le, ln, tk, bd, vi, va, vl, vj, la, me)) = some (if 0 ≤ t ∧ t < 3 then (0, I 0, mk (tx, pg, le, ln, (tk'), bd, vi, va, vl, vj, la, me)) else (3, 0, mk (tx, pg, le, ln, tk, bd, vi, va, vl, vj, la, me))) := by
  simp (disch := first | omega | assumption | exact is_Script_draft | exact is_Script_made | exact is_Learner_made | exact is_Learner_madeFirst | (apply is_eScript_tasks; omega) | (apply is_eScript_lines; omega) | (apply is_eScript_ranBy; omega)) only [f_X11_count, f_X11_count_0, b_X11_count_0, cScript, if_true, x_needTask h0 h1, Option.bind_some]
  by_cases a : 0 ≤ t ∧ t < 3
  · have hT : isTask (eScript_tasks t.toNat) := is_eScript_tasks (by omega)
    obtain ⟨k1, k2⟩ := hk _ hT
    obtain ⟨a0, a1⟩ := a
    exact ⟨up tk (eScript_tasks t.toNat) _, by
      simp (disch := first | omega | assumption | exact is_Script_draft | exact is_Script_made | exact is_Learner_made | exact is_Learner_madeFirst | (apply is_eScript_tasks; omega) | (apply is_eScript_lines; omega) | (apply is_eScript_ranBy; omega)) only [if_pos (show 0 ≤ t ∧ t < 3 from ⟨a0, a1⟩), cScript, gScript_draft, gScript_made, gScript_tasks, nScript_tasks, rScript_tasks, gScript_lines, nScript_lines, rScript_lines, gScript_ranBy, nScript_ranBy, rScript_ranBy, gScript_runCounts, nScript_runCounts, rScript_runCounts, wScript_runCounts, gScript_learner, gScript_lineCount, pScript_lineCount, gScript_runCount, pScript_runCount, gScript_askedLines, pScript_askedLines, cTask, gTask_was, nTask_was, rTask_was, gTask_shown, nTask_shown, rTask_shown, gTask_lineOf, nTask_lineOf, rTask_lineOf, wTask_lineOf, gTask_examples, pTask_examples, gTask_refusedOf, nTask_refusedOf, rTask_refusedOf, gTask_refused, nTask_refused, rTask_refused, gTask_refusals, pTask_refusals, gTask_pins, nTask_pins, rTask_pins, wTask_pins, gTask_learnt, gTask_standing, pTask_standing, gTask_best, nTask_best, rTask_best, gTask_bestCount, pTask_bestCount, gTask_isBestKnown, pTask_isBestKnown, if_true, Option.bind_some, x_findBest0 hT k1 k2, up_same]
      rfl⟩
  · exact ⟨tk, by simp only [if_neg a]; rfl⟩
theorem x_weight0 {t w : Int} (h0 : -2147483648 ≤ t) (h1 : t < 2147483648) (w0 : -2147483648 ≤ w) (w1 : w < 2147483648) (hk : ∀ a, isTask a → (tk a).2.2.2.2.2.2 = I 0 ∧ (tk a).2.1 = I 0) : ∃ tk', f_X11_weight F aScript (I t) (I w) (mk (tx, pg, le, ln, tk, bd, vi, va, vl, vj, la, me)) = some (3, 0, mk (tx, pg, le, ln, (tk'), bd, vi, va, vl, vj, la, me)) := by
  simp (disch := first | omega | assumption | exact is_Script_draft | exact is_Script_made | exact is_Learner_made | exact is_Learner_madeFirst | (apply is_eScript_tasks; omega) | (apply is_eScript_lines; omega) | (apply is_eScript_ranBy; omega)) only [f_X11_weight, f_X11_weight_0, b_X11_weight_0, cScript, if_true, x_needTask h0 h1, Option.bind_some]
  by_cases a : 0 ≤ t ∧ t < 3
  · have hT : isTask (eScript_tasks t.toNat) := is_eScript_tasks (by omega)
    obtain ⟨k1, k2⟩ := hk _ hT
    obtain ⟨a0, a1⟩ := a
    exact ⟨up tk (eScript_tasks t.toNat) _, by
      simp (disch := first | omega | assumption | exact is_Script_draft | exact is_Script_made | exact is_Learner_made | exact is_Learner_madeFirst | (apply is_eScript_tasks; omega) | (apply is_eScript_lines; omega) | (apply is_eScript_ranBy; omega)) only [if_pos (show 0 ≤ t ∧ t < 3 from ⟨a0, a1⟩), cScript, gScript_draft, gScript_made, gScript_tasks, nScript_tasks, rScript_tasks, gScript_lines, nScript_lines, rScript_lines, gScript_ranBy, nScript_ranBy, rScript_ranBy, gScript_runCounts, nScript_runCounts, rScript_runCounts, wScript_runCounts, gScript_learner, gScript_lineCount, pScript_lineCount, gScript_runCount, pScript_runCount, gScript_askedLines, pScript_askedLines, cTask, gTask_was, nTask_was, rTask_was, gTask_shown, nTask_shown, rTask_shown, gTask_lineOf, nTask_lineOf, rTask_lineOf, wTask_lineOf, gTask_examples, pTask_examples, gTask_refusedOf, nTask_refusedOf, rTask_refusedOf, gTask_refused, nTask_refused, rTask_refused, gTask_refusals, pTask_refusals, gTask_pins, nTask_pins, rTask_pins, wTask_pins, gTask_learnt, gTask_standing, pTask_standing, gTask_best, nTask_best, rTask_best, gTask_bestCount, pTask_bestCount, gTask_isBestKnown, pTask_isBestKnown, if_true, Option.bind_some, x_findBest0 hT k1 k2, up_same, I_0, I_lt]
      by_cases b : w < 0
      · rw [if_pos b]
        rfl
      · simp only [if_neg b]
        rfl⟩
  · exact ⟨tk, by simp only [if_neg a]; rfl⟩
theorem x_question0 {t : Int} (hF : 1 ≤ F) (h0 : -2147483648 ≤ t) (h1 : t < 2147483648) (hn : vi 907 = I 0) (hk : ∀ a, isTask a → (tk a).2.2.2.2.2.2 = I 0 ∧ (tk a).2.1 = I 0) : ∃ tk', f_X11_question F aScript (I t) (mk (tx, pg, le, ln, tk, bd, vi, va, vl, vj, la, me)) = some (if 0 ≤ t ∧ t < 3 then (0, I (-1), mk (tx, pg, le, ln, (tk'), bd, vi, va, vl, vj, la, me)) else (3, 0, mk (tx, pg, le, ln, tk, bd, vi, va, vl, vj, la, me))) := by
  obtain ⟨n, rfl⟩ : ∃ n, F = n + 1 := ⟨F - 1, by omega⟩
  simp (disch := first | omega | assumption | exact is_Script_draft | exact is_Script_made | exact is_Learner_made | exact is_Learner_madeFirst | (apply is_eScript_tasks; omega) | (apply is_eScript_lines; omega) | (apply is_eScript_ranBy; omega)) only [f_X11_question, f_X11_question_0, b_X11_question_0, cScript, if_true, x_needTask h0 h1, Option.bind_some]
  by_cases a : 0 ≤ t ∧ t < 3
  · have hT : isTask (eScript_tasks t.toNat) := is_eScript_tasks (by omega)
    obtain ⟨k1, k2⟩ := hk _ hT
    obtain ⟨a0, a1⟩ := a
    exact ⟨up tk (eScript_tasks t.toNat) _, by
      simp (disch := first | omega | assumption | exact is_Script_draft | exact is_Script_made | exact is_Learner_made | exact is_Learner_madeFirst | (apply is_eScript_tasks; omega) | (apply is_eScript_lines; omega) | (apply is_eScript_ranBy; omega)) only [if_pos (show 0 ≤ t ∧ t < 3 from ⟨a0, a1⟩), cScript, gScript_draft, gScript_made, gScript_tasks, nScript_tasks, rScript_tasks, gScript_lines, nScript_lines, rScript_lines, gScript_ranBy, nScript_ranBy, rScript_ranBy, gScript_runCounts, nScript_runCounts, rScript_runCounts, wScript_runCounts, gScript_learner, gScript_lineCount, pScript_lineCount, gScript_runCount, pScript_runCount, gScript_askedLines, pScript_askedLines, cTask, gTask_was, nTask_was, rTask_was, gTask_shown, nTask_shown, rTask_shown, gTask_lineOf, nTask_lineOf, rTask_lineOf, wTask_lineOf, gTask_examples, pTask_examples, gTask_refusedOf, nTask_refusedOf, rTask_refusedOf, gTask_refused, nTask_refused, rTask_refused, gTask_refusals, pTask_refusals, gTask_pins, nTask_pins, rTask_pins, wTask_pins, gTask_learnt, gTask_standing, pTask_standing, gTask_best, nTask_best, rTask_best, gTask_bestCount, pTask_bestCount, gTask_isBestKnown, pTask_isBestKnown, if_true, Option.bind_some, x_findBest0 hT k1 k2]
      show b_X11_question_20 (n + 1) (f_X11_question_20 (n + 1) n) aScript (I t) 0 _ = _
      unfold b_X11_question_20
      rw [gScript_lineCount, Option.bind_some, hn, if_pos (by decide)]
      rfl⟩
  · exact ⟨tk, by simp only [if_neg a]; rfl⟩
theorem x_learn0 {t : Int} (h0 : -2147483648 ≤ t) (h1 : t < 2147483648) (hk : ∀ a, isTask a → (tk a).2.1 = I 0) : f_X11_learn F aScript (I t) (mk (tx, pg, le, ln, tk, bd, vi, va, vl, vj, la, me)) = some (if 0 ≤ t ∧ t < 3 then 2 else 3, 0, mk (tx, pg, le, ln, tk, bd, vi, va, vl, vj, la, me)) := by
  simp (disch := first | omega | assumption | exact is_Script_draft | exact is_Script_made | exact is_Learner_made | exact is_Learner_madeFirst | (apply is_eScript_tasks; omega) | (apply is_eScript_lines; omega) | (apply is_eScript_ranBy; omega)) only [f_X11_learn, cScript, if_true]
  unfold f_X11_learn_0 b_X11_learn_0
  rw [x_needTask h0 h1, Option.bind_some]
  by_cases a : 0 ≤ t ∧ t < 3
  · have hT : isTask (eScript_tasks t.toNat) := is_eScript_tasks (by omega)
    have k2 := hk _ hT
    obtain ⟨a0, a1⟩ := a
    simp only [if_pos (show 0 ≤ t ∧ t < 3 from ⟨a0, a1⟩)]
    rw [if_pos trivial, gScript_tasks, Option.bind_some, rScript_tasks (by omega) (by omega), Option.bind_some, gTask_examples hT, Option.bind_some, k2, if_pos I00]
    rfl
  · simp only [if_neg a]
    rfl
theorem x_atomAt0 {t e p w : Int} (h0 : -2147483648 ≤ t) (h1 : t < 2147483648) (p0 : -2147483648 ≤ p) (p1 : p < 2147483648) (w0 : -2147483648 ≤ w) (w1 : w < 2147483648) (hk : ∀ a, isLearnt a → (le a).1 = I 0) : f_X11_atomAt F aScript (I t) (I e) (I p) (I w) (mk (tx, pg, le, ln, tk, bd, vi, va, vl, vj, la, me)) = some (if 0 ≤ t ∧ t < 3 ∧ 0 ≤ p then if 0 ≤ w ∧ w ≤ 4 then (0, I (-1), mk (tx, pg, le, ln, tk, bd, vi, va, vl, vj, la, me)) else (1, 0, mk (tx, pg, le, ln, tk, bd, vi, va, vl, vj, la, me)) else (3, 0, mk (tx, pg, le, ln, tk, bd, vi, va, vl, vj, la, me))) := by
  simp (disch := first | omega | assumption | exact is_Script_draft | exact is_Script_made | exact is_Learner_made | exact is_Learner_madeFirst | (apply is_eScript_tasks; omega) | (apply is_eScript_lines; omega) | (apply is_eScript_ranBy; omega)) only [f_X11_atomAt, cScript, if_true]
  unfold f_X11_atomAt_0 b_X11_atomAt_0
  rw [x_needTask h0 h1, Option.bind_some]
  by_cases a : 0 ≤ t ∧ t < 3
  · have hT : isTask (eScript_tasks t.toNat) := is_eScript_tasks (by omega)
    have hL := is_Task_learnt hT
    have k2 := hk _ hL
    obtain ⟨a0, a1⟩ := a
    rw [if_pos (show 0 ≤ t ∧ t < 3 from ⟨a0, a1⟩)]
    dsimp only
    rw [if_pos rfl]
    have e1 : (0 ≤ I p) = ((0 : Int) ≤ p) := I_le (a := 0) (by decide) (by decide) p0 p1
    have e2 : (I w < 0) = (w < 0) := I_lt (b := 0) w0 w1 (by decide) (by decide)
    have e3 : (I w ≤ 4) = (w ≤ 4) := I_le (b := 4) w0 w1 (by decide) (by decide)
    by_cases b : 0 ≤ p
    · rw [if_pos (e1 ▸ b)]
      by_cases c : w < 0
      · rw [if_pos (e2 ▸ c), if_pos (by omega), if_neg (by omega)]
        rfl
      · rw [if_neg (e2 ▸ c)]
        by_cases d : w ≤ 4
        · rw [if_pos (e3 ▸ d), gScript_tasks, Option.bind_some, rScript_tasks (by omega) (by omega), Option.bind_some, gTask_learnt hT, Option.bind_some, gLearnt_any hL, Option.bind_some, k2, if_pos I00, if_pos (by omega), if_pos (by omega)]
          rfl
        · rw [if_neg (e3 ▸ d), if_pos (by omega), if_neg (by omega)]
          rfl
    · rw [if_neg (e1 ▸ b), if_neg (by omega)]
      rfl
  · rw [if_neg a, if_neg (show ¬ (0 ≤ t ∧ t < 3 ∧ 0 ≤ p) by omega)]
    rfl
theorem x_stand0 {t b : Int} (hb : b = 0 ∨ b = 1) (h0 : -2147483648 ≤ t) (h1 : t < 2147483648) (hk : ∀ a, isLearnt a → (le a).1 = I 0) (hs : ∀ a, isTask a → (tk a).2.2.2.2.1 = I 0) : ∃ tk', f_X11_stand F aScript (I t) (I b) (mk (tx, pg, le, ln, tk, bd, vi, va, vl, vj, la, me)) = some (if 0 ≤ t ∧ t < 3 then if b = 0 then (0, I 0, mk (tx, pg, le, ln, (tk'), bd, vi, va, vl, vj, la, me)) else (2, 0, mk (tx, pg, le, ln, tk, bd, vi, va, vl, vj, la, me)) else (3, 0, mk (tx, pg, le, ln, tk, bd, vi, va, vl, vj, la, me))) := by
  simp (disch := first | omega | assumption | exact is_Script_draft | exact is_Script_made | exact is_Learner_made | exact is_Learner_madeFirst | (apply is_eScript_tasks; omega) | (apply is_eScript_lines; omega) | (apply is_eScript_ranBy; omega)) only [f_X11_stand, cScript, if_true]
  unfold f_X11_stand_0 b_X11_stand_0
  rw [x_needTask h0 h1, Option.bind_some]
  by_cases a : 0 ≤ t ∧ t < 3
  · have hT : isTask (eScript_tasks t.toNat) := is_eScript_tasks (by omega)
    have hL := is_Task_learnt hT
    have k2 := hk _ hL
    have k3 := hs _ hT
    obtain ⟨a0, a1⟩ := a
    simp only [if_pos (show 0 ≤ t ∧ t < 3 from ⟨a0, a1⟩)]
    rcases hb with rfl | rfl
    · refine ⟨up tk (eScript_tasks t.toNat) ((tk (eScript_tasks t.toNat)).1, (tk (eScript_tasks t.toNat)).2.1, (tk (eScript_tasks t.toNat)).2.2.1, (tk (eScript_tasks t.toNat)).2.2.2.1, I 0, (tk (eScript_tasks t.toNat)).2.2.2.2.2.1, (tk (eScript_tasks t.toNat)).2.2.2.2.2.2), ?_⟩
      rw [if_pos I00]
      simp (disch := first | omega | assumption | exact is_Script_draft | exact is_Script_made | exact is_Learner_made | exact is_Learner_madeFirst | (apply is_eScript_tasks; omega) | (apply is_eScript_lines; omega) | (apply is_eScript_ranBy; omega)) only [f_X11_stand_35, b_X11_stand_35, cScript, gScript_draft, gScript_made, gScript_tasks, nScript_tasks, rScript_tasks, gScript_lines, nScript_lines, rScript_lines, gScript_ranBy, nScript_ranBy, rScript_ranBy, gScript_runCounts, nScript_runCounts, rScript_runCounts, wScript_runCounts, gScript_learner, gScript_lineCount, pScript_lineCount, gScript_runCount, pScript_runCount, gScript_askedLines, pScript_askedLines, cTask, gTask_was, nTask_was, rTask_was, gTask_shown, nTask_shown, rTask_shown, gTask_lineOf, nTask_lineOf, rTask_lineOf, wTask_lineOf, gTask_examples, pTask_examples, gTask_refusedOf, nTask_refusedOf, rTask_refusedOf, gTask_refused, nTask_refused, rTask_refused, gTask_refusals, pTask_refusals, gTask_pins, nTask_pins, rTask_pins, wTask_pins, gTask_learnt, gTask_standing, pTask_standing, gTask_best, nTask_best, rTask_best, gTask_bestCount, pTask_bestCount, gTask_isBestKnown, pTask_isBestKnown, if_true, Option.bind_some, k3]
      rw [if_pos (Or.inl I00), if_pos (Or.inl I00)]
    · refine ⟨tk, ?_⟩
      rw [if_neg I10', gScript_tasks, Option.bind_some, rScript_tasks (by omega) (by omega), Option.bind_some, gTask_learnt hT, Option.bind_some, gLearnt_any hL, Option.bind_some, k2, if_pos I00]
      rfl
  · exact ⟨tk, by simp only [if_neg a]; rfl⟩
end
