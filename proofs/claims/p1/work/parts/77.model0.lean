/-! CALLS OF THE REFERENCE: what is thrown; and where there are no lines, no examples, nothing learnt -/
section
variable {F : Nat} {tx : Nat → ZText} {pg : Nat → ZProg} {le : Nat → ZLearnt} {ln : Nat → ZLine} {tk : Nat → ZTask} {bd : Nat → ZBoard} {vi : Nat → Int32} {va : Nat → Nat → Int32} {vl : Nat → Nat → Int64} {vj : Int64} {la : Option Nat} {me : Nat → Option Nat}
theorem m_isTask {t : Int} (t0 : -2147483648 ≤ t) (t1 : t < 2147483648) : f_X12_isTask F (I t) (mk (tx, pg, le, ln, tk, bd, vi, va, vl, vj, la, me)) = some (if 0 ≤ t ∧ t < 3 then I 1 else I 0, mk (tx, pg, le, ln, tk, bd, vi, va, vl, vj, la, me)) := by
  simp only [f_X12_isTask, f_X12_isTask_0, b_X12_isTask_0]
  rw [show (0 : Int32) = I 0 from rfl, show (2 : Int32) = I 2 from rfl, m_isIn t0 t1 (by decide) (by decide) (by decide) (by decide), Option.bind_some]
  by_cases h : 0 ≤ t ∧ t < 3
  · rw [if_pos h, if_pos (show 0 ≤ t ∧ t ≤ 2 by omega)]
    rfl
  · rw [if_neg h, if_neg (show ¬ (0 ≤ t ∧ t ≤ 2) by omega)]
    rfl
theorem m_isLine {l n : Int} (h0 : -2147483648 ≤ l) (h1 : l < 2147483648) (hn : vi 1003 = I n) (n0 : 0 ≤ n) (n1 : n ≤ 8) : f_X12_isLine F aModel (I l) (mk (tx, pg, le, ln, tk, bd, vi, va, vl, vj, la, me)) = some (if 0 ≤ l ∧ l < n then I 1 else I 0, mk (tx, pg, le, ln, tk, bd, vi, va, vl, vj, la, me)) := by
  simp only [f_X12_isLine, f_X12_isLine_0, b_X12_isLine_0, cModel, if_true]
  rw [gModel_lines, Option.bind_some, hn, show (0 : Int32) = I 0 from rfl, show (1 : Int32) = I 1 from rfl, I_sub, m_isIn h0 h1 (by decide) (by decide) (by omega) (by omega), Option.bind_some]
  by_cases h : 0 ≤ l ∧ l < n
  · rw [if_pos h, if_pos (show 0 ≤ l ∧ l ≤ n - 1 by omega)]
    rfl
  · rw [if_neg h, if_neg (show ¬ (0 ≤ l ∧ l ≤ n - 1) by omega)]
    rfl
theorem me_length {l : Int32} {er : Int} (he : er = 1 ∨ er = 2 ∨ er = 3) : f_X12_length_14 F aModel l aModel (I er) (mk (tx, pg, le, ln, tk, bd, vi, va, vl, vj, la, me)) = some (0, mk (tx, pg, le, ln, tk, bd, (up vi 1000 (I er)), va, vl, vj, la, me)) := by
  unfold f_X12_length_14 b_X12_length_14
  rw [pModel_thrown, Option.bind_some, gModel_thrown, Option.bind_some, up_same]
  rcases he with rfl | rfl | rfl
  all_goals
    rw [if_neg (by decide)]
theorem me_placeOf {l p : Int32} {er : Int} (he : er = 1 ∨ er = 2 ∨ er = 3) : f_X12_placeOf_28 F aModel l p aModel (I er) (mk (tx, pg, le, ln, tk, bd, vi, va, vl, vj, la, me)) = some (0, mk (tx, pg, le, ln, tk, bd, (up vi 1000 (I er)), va, vl, vj, la, me)) := by
  unfold f_X12_placeOf_28 b_X12_placeOf_28
  rw [pModel_thrown, Option.bind_some, gModel_thrown, Option.bind_some, up_same]
  rcases he with rfl | rfl | rfl
  all_goals
    rw [if_neg (by decide)]
theorem me_show {t l : Int32} {er : Int} (he : er = 1 ∨ er = 2 ∨ er = 3) : f_X12_show_51 F aModel t l aModel (I er) (mk (tx, pg, le, ln, tk, bd, vi, va, vl, vj, la, me)) = some (0, mk (tx, pg, le, ln, tk, bd, (up vi 1000 (I er)), va, vl, vj, la, me)) := by
  unfold f_X12_show_51 b_X12_show_51
  rw [pModel_thrown, Option.bind_some, gModel_thrown, Option.bind_some, up_same]
  rcases he with rfl | rfl | rfl
  all_goals
    rw [if_neg (by decide)]
theorem me_refuse {t l : Int32} {er : Int} (he : er = 1 ∨ er = 2 ∨ er = 3) : f_X12_refuse_44 F aModel t l aModel (I er) (mk (tx, pg, le, ln, tk, bd, vi, va, vl, vj, la, me)) = some (0, mk (tx, pg, le, ln, tk, bd, (up vi 1000 (I er)), va, vl, vj, la, me)) := by
  unfold f_X12_refuse_44 b_X12_refuse_44
  rw [pModel_thrown, Option.bind_some, gModel_thrown, Option.bind_some, up_same]
  rcases he with rfl | rfl | rfl
  all_goals
    rw [if_neg (by decide)]
theorem me_preview {t l p : Int32} {er : Int} (he : er = 1 ∨ er = 2 ∨ er = 3) : f_X12_preview_25 F aModel t l p aModel (I er) (mk (tx, pg, le, ln, tk, bd, vi, va, vl, vj, la, me)) = some (32, mk (tx, pg, le, ln, tk, bd, (up vi 1000 (I er)), va, vl, vj, la, me)) := by
  unfold f_X12_preview_25 b_X12_preview_25
  rw [pModel_thrown, Option.bind_some, gModel_thrown, Option.bind_some, up_same]
  rcases he with rfl | rfl | rfl
  all_goals
    rw [if_neg (by decide)]
theorem me_run {t l q w : Int32} {er : Int} (he : er = 1 ∨ er = 2 ∨ er = 3) : f_X12_run_70 F aModel t l q w aModel (I er) (mk (tx, pg, le, ln, tk, bd, vi, va, vl, vj, la, me)) = some (0, mk (tx, pg, le, ln, tk, bd, (up vi 1000 (I er)), va, vl, vj, la, me)) := by
  unfold f_X12_run_70 b_X12_run_70
  rw [pModel_thrown, Option.bind_some, gModel_thrown, Option.bind_some, up_same]
  rcases he with rfl | rfl | rfl
  all_goals
    rw [if_neg (by decide)]
theorem me_undo {r : Int32} {er : Int} (he : er = 1 ∨ er = 2 ∨ er = 3) : f_X12_undo_20 F aModel r aModel (I er) (mk (tx, pg, le, ln, tk, bd, vi, va, vl, vj, la, me)) = some (0, mk (tx, pg, le, ln, tk, bd, (up vi 1000 (I er)), va, vl, vj, la, me)) := by
  unfold f_X12_undo_20 b_X12_undo_20
  rw [pModel_thrown, Option.bind_some, gModel_thrown, Option.bind_some, up_same]
  rcases he with rfl | rfl | rfl
  all_goals
    rw [if_neg (by decide)]
theorem me_learn {t : Int32} {er : Int} (he : er = 1 ∨ er = 2 ∨ er = 3) : f_X12_learn_26 F aModel t aModel (I er) (mk (tx, pg, le, ln, tk, bd, vi, va, vl, vj, la, me)) = some (0, mk (tx, pg, le, ln, tk, bd, (up vi 1000 (I er)), va, vl, vj, la, me)) := by
  unfold f_X12_learn_26 b_X12_learn_26
  rw [pModel_thrown, Option.bind_some, gModel_thrown, Option.bind_some, up_same]
  rcases he with rfl | rfl | rfl
  all_goals
    rw [if_neg (by decide)]
theorem me_count {t : Int32} {er : Int} (he : er = 1 ∨ er = 2 ∨ er = 3) : f_X12_count_13 F aModel t aModel (I er) (mk (tx, pg, le, ln, tk, bd, vi, va, vl, vj, la, me)) = some (0, mk (tx, pg, le, ln, tk, bd, (up vi 1000 (I er)), va, vl, vj, la, me)) := by
  unfold f_X12_count_13 b_X12_count_13
  rw [pModel_thrown, Option.bind_some, gModel_thrown, Option.bind_some, up_same]
  rcases he with rfl | rfl | rfl
  all_goals
    rw [if_neg (by decide)]
theorem me_weight {t w : Int32} {er : Int} (he : er = 1 ∨ er = 2 ∨ er = 3) : f_X12_weight_17 F aModel t w aModel (I er) (mk (tx, pg, le, ln, tk, bd, vi, va, vl, vj, la, me)) = some (0, mk (tx, pg, le, ln, tk, bd, (up vi 1000 (I er)), va, vl, vj, la, me)) := by
  unfold f_X12_weight_17 b_X12_weight_17
  rw [pModel_thrown, Option.bind_some, gModel_thrown, Option.bind_some, up_same]
  rcases he with rfl | rfl | rfl
  all_goals
    rw [if_neg (by decide)]
theorem me_question {t : Int32} {er : Int} (he : er = 1 ∨ er = 2 ∨ er = 3) : f_X12_question_13 F aModel t aModel (I er) (mk (tx, pg, le, ln, tk, bd, vi, va, vl, vj, la, me)) = some (0, mk (tx, pg, le, ln, tk, bd, (up vi 1000 (I er)), va, vl, vj, la, me)) := by
  unfold f_X12_question_13 b_X12_question_13
  rw [pModel_thrown, Option.bind_some, gModel_thrown, Option.bind_some, up_same]
  rcases he with rfl | rfl | rfl
  all_goals
    rw [if_neg (by decide)]
theorem me_condition {t : Int32} {er : Int} (he : er = 1 ∨ er = 2 ∨ er = 3) : f_X12_condition_13 F aModel t aModel (I er) (mk (tx, pg, le, ln, tk, bd, vi, va, vl, vj, la, me)) = some (0, mk (tx, pg, le, ln, tk, bd, (up vi 1000 (I er)), va, vl, vj, la, me)) := by
  unfold f_X12_condition_13 b_X12_condition_13
  rw [pModel_thrown, Option.bind_some, gModel_thrown, Option.bind_some, up_same]
  rcases he with rfl | rfl | rfl
  all_goals
    rw [if_neg (by decide)]
theorem me_atomAt {t e p w : Int32} {er : Int} (he : er = 1 ∨ er = 2 ∨ er = 3) : f_X12_atomAt_31 F aModel t e p w aModel (I er) (mk (tx, pg, le, ln, tk, bd, vi, va, vl, vj, la, me)) = some (0, mk (tx, pg, le, ln, tk, bd, (up vi 1000 (I er)), va, vl, vj, la, me)) := by
  unfold f_X12_atomAt_31 b_X12_atomAt_31
  rw [pModel_thrown, Option.bind_some, gModel_thrown, Option.bind_some, up_same]
  rcases he with rfl | rfl | rfl
  all_goals
    rw [if_neg (by decide)]
theorem me_stand {t b : Int32} {er : Int} (he : er = 1 ∨ er = 2 ∨ er = 3) : f_X12_stand_30 F aModel t b aModel (I er) (mk (tx, pg, le, ln, tk, bd, vi, va, vl, vj, la, me)) = some (0, mk (tx, pg, le, ln, tk, bd, (up vi 1000 (I er)), va, vl, vj, la, me)) := by
  unfold f_X12_stand_30 b_X12_stand_30
  rw [pModel_thrown, Option.bind_some, gModel_thrown, Option.bind_some, up_same]
  rcases he with rfl | rfl | rfl
  all_goals
    rw [if_neg (by decide)]
theorem me_signAt {l p : Int32} {er : Int} (he : er = 1 ∨ er = 2 ∨ er = 3) : f_X12_signAt_18 F aModel l p aModel (I er) (mk (tx, pg, le, ln, tk, bd, vi, va, vl, vj, la, me)) = some (32, mk (tx, pg, le, ln, tk, bd, (up vi 1000 (I er)), va, vl, vj, la, me)) := by
  unfold f_X12_signAt_18 b_X12_signAt_18
  rw [pModel_thrown, Option.bind_some, gModel_thrown, Option.bind_some, up_same]
  rcases he with rfl | rfl | rfl
  all_goals
    rw [if_neg (by decide)]
    unfold f_X12_signAt_50 b_X12_signAt_50
    rw [gModel_thrown, Option.bind_some, up_same, if_neg (by decide)]
theorem m0_length {l : Int} (l0 : -2147483648 ≤ l) (l1 : l < 2147483648) (hn : vi 1003 = I 0) : f_X12_length F aModel (I l) (mk (tx, pg, le, ln, tk, bd, vi, va, vl, vj, la, me)) = some (0, mk (tx, pg, le, ln, tk, bd, (up vi 1000 (I 1)), va, vl, vj, la, me)) := by
  simp only [f_X12_length, cModel, if_true]
  unfold f_X12_length_0 b_X12_length_0
  rw [m_isLine l0 l1 hn (by decide) (by decide), Option.bind_some, if_neg (show ¬ (0 ≤ l ∧ l < 0) by omega), if_pos I00]
  exact me_length (er := 1) (Or.inl rfl)
theorem m0_signAt {l : Int} {p : Int32} (l0 : -2147483648 ≤ l) (l1 : l < 2147483648) (hn : vi 1003 = I 0) : f_X12_signAt F aModel (I l) p (mk (tx, pg, le, ln, tk, bd, vi, va, vl, vj, la, me)) = some (32, mk (tx, pg, le, ln, tk, bd, (up vi 1000 (I 1)), va, vl, vj, la, me)) := by
  simp only [f_X12_signAt, cModel, if_true]
  unfold f_X12_signAt_0 b_X12_signAt_0
  rw [m_isLine l0 l1 hn (by decide) (by decide), Option.bind_some, if_neg (show ¬ (0 ≤ l ∧ l < 0) by omega), if_pos I00]
  exact me_signAt (er := 1) (Or.inl rfl)
theorem m0_placeOf {l : Int} {p : Int32} (l0 : -2147483648 ≤ l) (l1 : l < 2147483648) (hn : vi 1003 = I 0) : f_X12_placeOf F aModel (I l) p (mk (tx, pg, le, ln, tk, bd, vi, va, vl, vj, la, me)) = some (0, mk (tx, pg, le, ln, tk, bd, (up vi 1000 (I 1)), va, vl, vj, la, me)) := by
  simp only [f_X12_placeOf, cModel, if_true]
  unfold f_X12_placeOf_0 b_X12_placeOf_0
  rw [m_isLine l0 l1 hn (by decide) (by decide), Option.bind_some, if_neg (show ¬ (0 ≤ l ∧ l < 0) by omega), if_pos I00]
  exact me_placeOf (er := 1) (Or.inl rfl)
theorem m0_show {t l : Int} (t0 : -2147483648 ≤ t) (t1 : t < 2147483648) (l0 : -2147483648 ≤ l) (l1 : l < 2147483648) (hn : vi 1003 = I 0) : f_X12_show F aModel (I t) (I l)  (mk (tx, pg, le, ln, tk, bd, vi, va, vl, vj, la, me)) = some (0, mk (tx, pg, le, ln, tk, bd, (up vi 1000 (I 1)), va, vl, vj, la, me)) := by
  simp only [f_X12_show, cModel, if_true]
  unfold f_X12_show_0 b_X12_show_0
  rw [m_isTask t0 t1, Option.bind_some]
  by_cases h : 0 ≤ t ∧ t < 3
  · rw [if_pos h, if_neg I10', m_isLine l0 l1 hn (by decide) (by decide), Option.bind_some, if_neg (show ¬ (0 ≤ l ∧ l < 0) by omega), if_pos I00]
    exact me_show (er := 1) (Or.inl rfl)
  · rw [if_neg h, if_pos I00]
    exact me_show (er := 1) (Or.inl rfl)
theorem m0_refuse {t l : Int} (t0 : -2147483648 ≤ t) (t1 : t < 2147483648) (l0 : -2147483648 ≤ l) (l1 : l < 2147483648) (hn : vi 1003 = I 0) : f_X12_refuse F aModel (I t) (I l)  (mk (tx, pg, le, ln, tk, bd, vi, va, vl, vj, la, me)) = some (0, mk (tx, pg, le, ln, tk, bd, (up vi 1000 (I 1)), va, vl, vj, la, me)) := by
  simp only [f_X12_refuse, cModel, if_true]
  unfold f_X12_refuse_0 b_X12_refuse_0
  rw [m_isTask t0 t1, Option.bind_some]
  by_cases h : 0 ≤ t ∧ t < 3
  · rw [if_pos h, if_neg I10', m_isLine l0 l1 hn (by decide) (by decide), Option.bind_some, if_neg (show ¬ (0 ≤ l ∧ l < 0) by omega), if_pos I00]
    exact me_refuse (er := 1) (Or.inl rfl)
  · rw [if_neg h, if_pos I00]
    exact me_refuse (er := 1) (Or.inl rfl)
theorem m0_preview {t l : Int} {p : Int32} (t0 : -2147483648 ≤ t) (t1 : t < 2147483648) (l0 : -2147483648 ≤ l) (l1 : l < 2147483648) (hn : vi 1003 = I 0) : f_X12_preview F aModel (I t) (I l) p (mk (tx, pg, le, ln, tk, bd, vi, va, vl, vj, la, me)) = some (32, mk (tx, pg, le, ln, tk, bd, (up vi 1000 (I 1)), va, vl, vj, la, me)) := by
  simp only [f_X12_preview, cModel, if_true]
  unfold f_X12_preview_0 b_X12_preview_0
  rw [m_isTask t0 t1, Option.bind_some]
  by_cases h : 0 ≤ t ∧ t < 3
  · rw [if_pos h, if_neg I10', m_isLine l0 l1 hn (by decide) (by decide), Option.bind_some, if_neg (show ¬ (0 ≤ l ∧ l < 0) by omega), if_pos I00]
    exact me_preview (er := 1) (Or.inl rfl)
  · rw [if_neg h, if_pos I00]
    exact me_preview (er := 1) (Or.inl rfl)
theorem m0_run {t l : Int} {q w : Int32} (t0 : -2147483648 ≤ t) (t1 : t < 2147483648) (l0 : -2147483648 ≤ l) (l1 : l < 2147483648) (hn : vi 1003 = I 0) : f_X12_run F aModel (I t) (I l) q w (mk (tx, pg, le, ln, tk, bd, vi, va, vl, vj, la, me)) = some (0, mk (tx, pg, le, ln, tk, bd, (up vi 1000 (I 1)), va, vl, vj, la, me)) := by
  simp only [f_X12_run, cModel, if_true]
  unfold f_X12_run_0 b_X12_run_0
  rw [m_isTask t0 t1, Option.bind_some]
  by_cases h : 0 ≤ t ∧ t < 3
  · rw [if_pos h, if_neg I10', m_isLine l0 l1 hn (by decide) (by decide), Option.bind_some, if_neg (show ¬ (0 ≤ l ∧ l < 0) by omega), if_pos I00]
    exact me_run (er := 1) (Or.inl rfl)
  · rw [if_neg h, if_pos I00]
    exact me_run (er := 1) (Or.inl rfl)
theorem m0_undo {r : Int} (r0 : -2147483648 ≤ r) (r1 : r < 2147483648) (hn : vi 1027 = I 0) : f_X12_undo F aModel (I r) (mk (tx, pg, le, ln, tk, bd, vi, va, vl, vj, la, me)) = some (0, mk (tx, pg, le, ln, tk, bd, (up vi 1000 (I 1)), va, vl, vj, la, me)) := by
  simp only [f_X12_undo, cModel, if_true]
  unfold f_X12_undo_0 b_X12_undo_0
  rw [gModel_runs, Option.bind_some, hn, show (0 : Int32) = I 0 from rfl, show (1 : Int32) = I 1 from rfl, I_sub, m_isIn r0 r1 (by decide) (by decide) (by decide) (by decide), Option.bind_some, if_neg (show ¬ (0 ≤ r ∧ r ≤ 0 - 1) by omega), if_pos rfl]
  exact me_undo (er := 1) (Or.inl rfl)
theorem m_runs : f_X12_runs F aModel (mk (tx, pg, le, ln, tk, bd, vi, va, vl, vj, la, me)) = some (vi 1027, mk (tx, pg, le, ln, tk, bd, (up vi 1000 (I 0)), va, vl, vj, la, me)) := by
  simp only [f_X12_runs, cModel, if_true]
  unfold f_X12_runs_0 b_X12_runs_0
  rw [pModel_thrown, Option.bind_some, gModel_runs, Option.bind_some, up_ne (by decide)]
  rfl
theorem m_asked : f_X12_asked F aModel (mk (tx, pg, le, ln, tk, bd, vi, va, vl, vj, la, me)) = some (vi 1030, mk (tx, pg, le, ln, tk, bd, (up (up vi 1000 (I 0)) 1030 (I 0)), va, vl, vj, la, me)) := by
  simp only [f_X12_asked, cModel, if_true]
  unfold f_X12_asked_0 b_X12_asked_0
  rw [pModel_thrown, Option.bind_some, gModel_askedLines, Option.bind_some, up_ne (by decide), pModel_askedLines, Option.bind_some]
  rfl
theorem m0_learn {t : Int} (t0 : -2147483648 ≤ t) (t1 : t < 2147483648) (hx : ∀ k : Nat, k < 3 → va 576 k = I 0) : f_X12_learn F aModel (I t) (mk (tx, pg, le, ln, tk, bd, vi, va, vl, vj, la, me)) = some (0, mk (tx, pg, le, ln, tk, bd, (up vi 1000 (I (if 0 ≤ t ∧ t < 3 then 2 else 1))), va, vl, vj, la, me)) := by
  simp only [f_X12_learn, cModel, if_true]
  unfold f_X12_learn_0 b_X12_learn_0
  rw [m_isTask t0 t1, Option.bind_some]
  by_cases h : 0 ≤ t ∧ t < 3
  · rw [if_pos h, if_neg I10', gModel_examples, Option.bind_some, rModel_examples h.1 h.2, Option.bind_some, hx _ (by omega), if_pos I00, if_pos h]
    exact me_learn (er := 2) (Or.inr (Or.inl rfl))
  · rw [if_neg h, if_pos I00, if_neg h]
    exact me_learn (er := 1) (Or.inl rfl)
end
