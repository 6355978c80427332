/-! THE CLASS: LINE, UNDO -/
def stdR (SD : Nat → Bool) : Nat → Nat
  | 0 => 0
  | n + 1 => (SD (3 - (n + 1))).toNat + stdR SD n
abbrev LSt : Type := (Nat → List Int) × Nat × Nat × (Nat → Le) × (Nat → Bool)
def lnG (EL : Nat → List (Tx × Tx × Nat)) (CM : Nat → Tx) (Ls : Nat → Le) (SD : Nat → Bool) (l : Nat) : Nat → LSt → LSt
  | 0, x => x
  | n + 1, x => if SD (3 - (n + 1)) = true then lnG EL CM Ls SD l n ((rnF EL x.2.2.2.1 x.2.2.2.2 CM x.1 Ls x.2.1 x.2.2.1 (3 - (n + 1)) l l 1).1, (rnF EL x.2.2.2.1 x.2.2.2.2 CM x.1 Ls x.2.1 x.2.2.1 (3 - (n + 1)) l l 1).2.1, x.2.2.1 + 1, up x.2.2.2.1 x.2.2.1 (Ls (3 - (n + 1))), up x.2.2.2.2 x.2.2.1 true) else lnG EL CM Ls SD l n x
/-- a line has begun -/
theorem CI_begin {S : Nat} {D : Tx} {nl : Nat} {CM : Nat → Tx} {SS : Nat → List Int} {EL : Nat → List (Tx × Tx × Nat)} {RF : Nat → List (Tx × Tx)} {PN : Nat → Nat → Option At} {Ls : Nat → Le} {SD : Nat → Bool} {rn : Nat} {RL : Nat → Le} {RC : Nat → Bool} {AK : Nat} {tx : Nat → ZText} {pg : Nat → ZProg} {le : Nat → ZLearnt} {ln : Nat → ZLine} {tk : Nat → ZTask} {bd : Nat → ZBoard} {vi : Nat → Int32} {va : Nat → Nat → Int32} {vl : Nat → Nat → Int64} {vj : Int64} {la : Option Nat} {me : Nat → Option Nat} {v1 v2 v3 : ZText} (hn : nl < 8) (hA : AC nl SS EL Ls SD rn RL AK) (t1 : txt v1 D) (t2 : txt v2 D) (t3 : txt v3 []) (g : CIn S D nl CM SS EL RF PN Ls SD rn RL RC AK tx pg le ln tk bd vi va vl vj la me) : CIn S ([]) (nl + 1) (up CM nl D) SS EL RF PN Ls SD rn RL RC AK (up (up (up tx (aLine_came (eScript_lines nl)) v1) (aLine_now (eScript_lines nl)) v2) aScript_draft v3) pg le ln tk bd (up vi 907 (I ((nl + 1 : Nat) : Int))) va vl vj la me := by
  obtain ⟨g1, ⟨⟨m1, m1'⟩, ⟨m2, m2'⟩, m3, m3'⟩, g3, g4, g5, g6, nb, f1, f2, f3, f4, f5⟩ := g
  have hE : ∀ T, T < 3 → (EL T).length ≤ 4 := fun T hT => (hA.2.2.2.2.2.2.2 T hT).1
  have ac : aLine_came (eScript_lines nl) = 223 + 8 * nl := by unfold aLine_came eScript_lines; omega
  have an : aLine_now (eScript_lines nl) = 226 + 8 * nl := by unfold aLine_now eScript_lines; omega
  have am : aScript_draft = 1 := rfl
  obtain ⟨tx4, htx⟩ : ∃ tx4, tx4 = up (up (up tx (aLine_came (eScript_lines nl)) v1) (aLine_now (eScript_lines nl)) v2) aScript_draft v3 := ⟨_, rfl⟩
  rw [← htx]
  rw [ac, an, am] at htx
  have q0 : ∀ x, x ≠ 1 → x ≠ 223 + 8 * nl → x ≠ 226 + 8 * nl → tx4 x = tx x := fun x b1 b2 b3 => by rw [htx, up_ne b1, up_ne b3, up_ne b2]
  have q1 : tx4 1 = v3 := by rw [htx, up_same]
  have q2 : tx4 (223 + 8 * nl) = v1 := by rw [htx, up_ne (by omega), up_ne (by omega), up_same]
  have q3 : tx4 (226 + 8 * nl) = v2 := by rw [htx, up_ne (by omega), up_same]
  have hf := fiOK_fr (tx' := tx4) (vi' := up vi 907 (I ((nl + 1 : Nat) : Int))) (vl' := vl) hE (fun x h1 h2 => q0 x (by omega) (by omega) (by omega)) (up_ne (by decide)) rfl ⟨nb, f1, f2, f3, f4, f5⟩
  refine ⟨by rw [am, q1]; exact t3, ⟨⟨m1, ?_⟩, ⟨m2, ?_⟩, m3, ?_⟩, ⟨?_, ?_, ?_⟩, fun l' hl' => ?_, fun T' hT' => ?_, g6, hf⟩
  · rw [q0 _ (by decide) (by unfold aScript_made; omega) (by unfold aScript_made; omega)]
    exact m1'
  · rw [q0 _ (by decide) (by unfold aLearner_made; omega) (by unfold aLearner_made; omega)]
    exact m2'
  · rw [q0 _ (by decide) (by unfold aLearner_madeFirst; omega) (by unfold aLearner_madeFirst; omega)]
    exact m3'
  · rw [up_same]
  · rw [up_ne (by decide)]
    exact g3.2.1
  · rw [up_ne (by decide)]
    exact g3.2.2
  · obtain ⟨b1, b2⟩ := g4 l' hl'
    have ac' : aLine_came (eScript_lines l') = 223 + 8 * l' := by unfold aLine_came eScript_lines; omega
    have an' : aLine_now (eScript_lines l') = 226 + 8 * l' := by unfold aLine_now eScript_lines; omega
    refine ⟨fun h => ?_, b2⟩
    show txt _ (up CM nl D l') ∧ txt _ (nowT EL RL RC (up CM nl D l') (SS l'))
    rw [ac', an']
    by_cases q : l' = nl
    · subst q
      rw [up_same, q2, q3, hA.2.2.2.1 l' (Nat.le_refl _)]
      exact ⟨t1, t2⟩
    · rw [up_ne q, q0 _ (by omega) (by omega) (by omega), q0 _ (by omega) (by omega) (by omega), ← ac', ← an']
      exact b1 (by omega)
  · exact tkOK_fr (fun x h1 h2 => q0 x (by unfold eScript_tasks at h1 h2; omega) (by unfold eScript_tasks at h1 h2; omega) (by unfold eScript_tasks at h1 h2; omega)) (fun _ _ _ => rfl) (fun _ _ _ => rfl) (g5 T' hT')
theorem AC_begin {nl : Nat} {SS : Nat → List Int} {EL : Nat → List (Tx × Tx × Nat)} {Ls : Nat → Le} {SD : Nat → Bool} {rn : Nat} {RL : Nat → Le} {AK : Nat} (hn : nl < 8) (hA : AC nl SS EL Ls SD rn RL AK) : AC (nl + 1) SS EL Ls SD rn RL AK := by
  obtain ⟨a1, a2, a3, a4, a5, a6, a7, a8⟩ := hA
  refine ⟨by omega, a2, a3, fun l hl => a4 l (by omega), fun l hl => ?_, a6, a7, fun T hT => ⟨(a8 T hT).1, fun x hx => Nat.lt_succ_of_lt ((a8 T hT).2 x hx)⟩⟩
  by_cases q : l < nl
  · exact a5 l q
  · rw [a4 l (by omega)]
    exact ⟨Nat.zero_le _, fun k hk => absurd hk List.not_mem_nil⟩
theorem onL_new {nl : Nat} {SS : Nat → List Int} {EL : Nat → List (Tx × Tx × Nat)} {Ls : Nat → Le} {SD : Nat → Bool} {rn : Nat} {RL : Nat → Le} {AK T : Nat} (hT : T < 3) (hA : AC nl SS EL Ls SD rn RL AK) : onL (EL T) nl = false := by
  obtain ⟨-, -, -, -, -, -, -, a8⟩ := hA
  unfold onL
  rw [List.any_eq_false]
  intro x hx
  have := (a8 T hT).2 x hx
  rw [decide_eq_false (by omega)]
  decide
section
variable {F : Nat}
theorem x_st4 {tx : Nat → ZText} {pg : Nat → ZProg} {le : Nat → ZLearnt} {ln : Nat → ZLine} {tk : Nat → ZTask} {bd : Nat → ZBoard} {vi : Nat → Int32} {va : Nat → Nat → Int32} {vl : Nat → Nat → Int64} {vj : Int64} {la : Option Nat} {me : Nat → Option Nat} {SD : Nat → Bool} (h : ∀ T, T < 3 → (tk (eScript_tasks T)).2.2.2.2.1 = I (((SD T).toNat : Nat) : Int)) : ∀ (f k x : Nat), k ≤ 3 → 3 - k < f → x ≤ k → f_X11_standingTasks_4 F f aScript (I (x : Nat)) (I (k : Nat)) (mk (tx, pg, le, ln, tk, bd, vi, va, vl, vj, la, me)) = some (I ((x + stdR SD (3 - k) : Nat) : Int), mk (tx, pg, le, ln, tk, bd, vi, va, vl, vj, la, me)) := by
  intro f
  induction f with
  | zero => intros; omega
  | succ f ih =>
    intro k x hk hf hx
    rw [s_X11_standingTasks_4]
    by_cases c : k < 3
    · have h1 := h k c
      rw [show 3 - k = (3 - (k + 1)) + 1 by omega]
      show _ = some (I ((x + ((SD (3 - ((3 - (k + 1)) + 1))).toNat + stdR SD (3 - (k + 1))) : Nat) : Int), _)
      rw [show 3 - ((3 - (k + 1)) + 1) = k by omega]
      cases hs : SD k
      · rw [hs] at h1
        have h1 : (tk (eScript_tasks k)).2.2.2.2.1 = I ((0 : Nat) : Int) := h1
        have e' := ih (k + 1) x (by omega) (by omega) (by omega)
        rw [show x + (false.toNat + stdR SD (3 - (k + 1))) = x + stdR SD (3 - (k + 1)) by rw [Bool.toNat_false]; omega, ← e']
        simp (disch := first | assumption | omega | exact is_Script_draft | exact is_Script_made | exact is_Learner_made | exact is_Learner_madeFirst | (apply is_eScript_tasks; omega) | (apply is_eScript_lines; omega) | (apply is_eScript_ranBy; omega)) only [↓reduceIte, ↓I_n1, obs, I_0n, l_1, l_2, l_3, l_4, l_5, l_6, l_7, l_8, l_11, l_12, l_15, l_16, l_18, l_20, l_21, l_29, l_30, l_31, l_32, l_33, l_39, l_40, l_44, l_45, l_46, l_47, l_48, l_53, l_57, l_63, l_64, l_65, l_66, l_71, l_72, l_75, l_90, l_97, l_120, l_122, l_127, l_128, l_1812, l_3600, l_4000, l_252645135, l_268435456, l_858993459, l_1431655765, I_add, I_mul, I_sub, I_addN, I_mulN, I_subN, ilt_t, ilt_f, ile_t, ile_f, ieq_t, ieq_f, up_same, up_up, I_and, I_or, I_shlN, I_shrN, I_divN, I_remN, dzI, i2cI, narI, Int.toNat_natCast, true_or, or_true, false_or, or_false, true_and, and_true, false_and, and_false, not_true_eq_false, not_false_eq_true, cScript, gScript_draft, gScript_made, gScript_tasks, nScript_tasks, rScript_tasks, gScript_lines, nScript_lines, rScript_lines, gScript_ranBy, nScript_ranBy, rScript_ranBy, gScript_runCounts, nScript_runCounts, rScript_runCounts, wScript_runCounts, gScript_learner, gScript_lineCount, pScript_lineCount, gScript_runCount, pScript_runCount, gScript_askedLines, pScript_askedLines, cTask, gTask_was, nTask_was, rTask_was, gTask_shown, nTask_shown, rTask_shown, gTask_lineOf, nTask_lineOf, rTask_lineOf, wTask_lineOf, gTask_examples, pTask_examples, gTask_refusedOf, nTask_refusedOf, rTask_refusedOf, gTask_refused, nTask_refused, rTask_refused, gTask_refusals, pTask_refusals, gTask_pins, nTask_pins, rTask_pins, wTask_pins, gTask_learnt, gTask_standing, pTask_standing, gTask_best, nTask_best, rTask_best, gTask_bestCount, pTask_bestCount, gTask_isBestKnown, pTask_isBestKnown, b_X11_standingTasks_4, h1]
      · rw [hs] at h1
        have h1 : (tk (eScript_tasks k)).2.2.2.2.1 = I ((1 : Nat) : Int) := h1
        have e' := ih (k + 1) (x + 1) (by omega) (by omega) (by omega)
        rw [show x + (true.toNat + stdR SD (3 - (k + 1))) = x + 1 + stdR SD (3 - (k + 1)) by rw [Bool.toNat_true]; omega, ← e']
        simp (disch := first | assumption | omega | exact is_Script_draft | exact is_Script_made | exact is_Learner_made | exact is_Learner_madeFirst | (apply is_eScript_tasks; omega) | (apply is_eScript_lines; omega) | (apply is_eScript_ranBy; omega)) only [↓reduceIte, ↓I_n1, obs, I_0n, l_1, l_2, l_3, l_4, l_5, l_6, l_7, l_8, l_11, l_12, l_15, l_16, l_18, l_20, l_21, l_29, l_30, l_31, l_32, l_33, l_39, l_40, l_44, l_45, l_46, l_47, l_48, l_53, l_57, l_63, l_64, l_65, l_66, l_71, l_72, l_75, l_90, l_97, l_120, l_122, l_127, l_128, l_1812, l_3600, l_4000, l_252645135, l_268435456, l_858993459, l_1431655765, I_add, I_mul, I_sub, I_addN, I_mulN, I_subN, ilt_t, ilt_f, ile_t, ile_f, ieq_t, ieq_f, up_same, up_up, I_and, I_or, I_shlN, I_shrN, I_divN, I_remN, dzI, i2cI, narI, Int.toNat_natCast, true_or, or_true, false_or, or_false, true_and, and_true, false_and, and_false, not_true_eq_false, not_false_eq_true, cScript, gScript_draft, gScript_made, gScript_tasks, nScript_tasks, rScript_tasks, gScript_lines, nScript_lines, rScript_lines, gScript_ranBy, nScript_ranBy, rScript_ranBy, gScript_runCounts, nScript_runCounts, rScript_runCounts, wScript_runCounts, gScript_learner, gScript_lineCount, pScript_lineCount, gScript_runCount, pScript_runCount, gScript_askedLines, pScript_askedLines, cTask, gTask_was, nTask_was, rTask_was, gTask_shown, nTask_shown, rTask_shown, gTask_lineOf, nTask_lineOf, rTask_lineOf, wTask_lineOf, gTask_examples, pTask_examples, gTask_refusedOf, nTask_refusedOf, rTask_refusedOf, gTask_refused, nTask_refused, rTask_refused, gTask_refusals, pTask_refusals, gTask_pins, nTask_pins, rTask_pins, wTask_pins, gTask_learnt, gTask_standing, pTask_standing, gTask_best, nTask_best, rTask_best, gTask_bestCount, pTask_bestCount, gTask_isBestKnown, pTask_isBestKnown, b_X11_standingTasks_4, h1]
    · have : k = 3 := by omega
      subst this
      simp (disch := first | assumption | omega | exact is_Script_draft | exact is_Script_made | exact is_Learner_made | exact is_Learner_madeFirst | (apply is_eScript_tasks; omega) | (apply is_eScript_lines; omega) | (apply is_eScript_ranBy; omega)) only [↓reduceIte, ↓I_n1, obs, I_0n, l_1, l_2, l_3, l_4, l_5, l_6, l_7, l_8, l_11, l_12, l_15, l_16, l_18, l_20, l_21, l_29, l_30, l_31, l_32, l_33, l_39, l_40, l_44, l_45, l_46, l_47, l_48, l_53, l_57, l_63, l_64, l_65, l_66, l_71, l_72, l_75, l_90, l_97, l_120, l_122, l_127, l_128, l_1812, l_3600, l_4000, l_252645135, l_268435456, l_858993459, l_1431655765, I_add, I_mul, I_sub, I_addN, I_mulN, I_subN, ilt_t, ilt_f, ile_t, ile_f, ieq_t, ieq_f, up_same, up_up, I_and, I_or, I_shlN, I_shrN, I_divN, I_remN, dzI, i2cI, narI, Int.toNat_natCast, true_or, or_true, false_or, or_false, true_and, and_true, false_and, and_false, not_true_eq_false, not_false_eq_true, cScript, gScript_draft, gScript_made, gScript_tasks, nScript_tasks, rScript_tasks, gScript_lines, nScript_lines, rScript_lines, gScript_ranBy, nScript_ranBy, rScript_ranBy, gScript_runCounts, nScript_runCounts, rScript_runCounts, wScript_runCounts, gScript_learner, gScript_lineCount, pScript_lineCount, gScript_runCount, pScript_runCount, gScript_askedLines, pScript_askedLines, b_X11_standingTasks_4]
      rfl
theorem x_line80K {S l : Nat} {D : Tx} {nl : Nat} {CM : Nat → Tx} {SS : Nat → List Int} {EL : Nat → List (Tx × Tx × Nat)} {RF : Nat → List (Tx × Tx)} {PN : Nat → Nat → Option At} {Ls : Nat → Le} {SD : Nat → Bool} {rn : Nat} {RL : Nat → Le} {RC : Nat → Bool} {AK : Nat} (hF : 200000 ≤ F) (hl : l + 1 = nl) : ∀ (f k : Nat) (tx : Nat → ZText) (pg : Nat → ZProg) (le : Nat → ZLearnt) (ln : Nat → ZLine) (tk : Nat → ZTask) (bd : Nat → ZBoard) (vi : Nat → Int32) (va : Nat → Nat → Int32) (vl : Nat → Nat → Int64) (vj : Int64) (la : Option Nat) (me : Nat → Option Nat) (X : LSt), k ≤ 3 → 3 - k < f → X.2.2.1 + stdR SD (3 - k) ≤ 30 → AC nl X.1 EL Ls SD X.2.2.1 X.2.2.2.1 X.2.1 → CIn S D nl CM (X.1) EL RF PN Ls SD (X.2.2.1) (X.2.2.2.1) (X.2.2.2.2) (X.2.1) tx pg le ln tk bd vi va vl vj la me → ∃ tx' pg' le' ln' vi' va', f_X11_line_80 F f aScript (I (l : Nat)) (I (k : Nat)) (mk (tx, pg, le, ln, tk, bd, vi, va, vl, vj, la, me)) = some (0, I (l : Nat), mk ((tx'), (pg'), (le'), (ln'), tk, bd, (vi'), (va'), vl, vj, la, me)) ∧ CIn S D nl CM ((lnG EL CM Ls SD l (3 - k) X).1) EL RF PN Ls SD ((lnG EL CM Ls SD l (3 - k) X).2.2.1) ((lnG EL CM Ls SD l (3 - k) X).2.2.2.1) ((lnG EL CM Ls SD l (3 - k) X).2.2.2.2) ((lnG EL CM Ls SD l (3 - k) X).2.1) (tx') (pg') (le') (ln') tk bd (vi') (va') vl vj la me ∧ AC nl (lnG EL CM Ls SD l (3 - k) X).1 EL Ls SD (lnG EL CM Ls SD l (3 - k) X).2.2.1 (lnG EL CM Ls SD l (3 - k) X).2.2.2.1 (lnG EL CM Ls SD l (3 - k) X).2.1 ∧ frC vi vi' va va' := by
  intro f
  induction f with
  | zero => intros; omega
  | succ f ih =>
    intro k tx pg le ln tk bd vi va vl vj la me X hk hf hr hA g
    rw [s_X11_line_80]
    by_cases c : k < 3
    · have h1 := (g.2.2.2.2.1 k c).2.2.2.2.1
      have n8 := hA.1
      have hst : stdR SD (3 - k) = (SD k).toNat + stdR SD (3 - (k + 1)) := by
        rw [show 3 - k = (3 - (k + 1)) + 1 by omega]
        show (SD (3 - ((3 - (k + 1)) + 1))).toNat + stdR SD (3 - (k + 1)) = _
        rw [show 3 - ((3 - (k + 1)) + 1) = k by omega]
      have hG : lnG EL CM Ls SD l (3 - k) X = if SD k = true then lnG EL CM Ls SD l (3 - (k + 1)) ((rnF EL X.2.2.2.1 X.2.2.2.2 CM X.1 Ls X.2.1 X.2.2.1 k l l 1).1, (rnF EL X.2.2.2.1 X.2.2.2.2 CM X.1 Ls X.2.1 X.2.2.1 k l l 1).2.1, X.2.2.1 + 1, up X.2.2.2.1 X.2.2.1 (Ls k), up X.2.2.2.2 X.2.2.1 true) else lnG EL CM Ls SD l (3 - (k + 1)) X := by
        rw [show 3 - k = (3 - (k + 1)) + 1 by omega]
        show (if SD (3 - ((3 - (k + 1)) + 1)) = true then _ else _) = _
        rw [show 3 - ((3 - (k + 1)) + 1) = k by omega]
      rw [hG]
      cases hs : SD k
      · rw [hs] at h1 hst
        have h1 : (tk (eScript_tasks k)).2.2.2.2.1 = I ((0 : Nat) : Int) := h1
        have hst : stdR SD (3 - k) = 0 + stdR SD (3 - (k + 1)) := hst
        obtain ⟨tx', pg', le', ln', vi', va', e', h⟩ := ih (k + 1) tx pg le ln tk bd vi va vl vj la me X (by omega) (by omega) (by omega) hA g
        rw [if_neg (by decide)]
        refine ⟨tx', pg', le', ln', vi', va', ?_, h⟩
        rw [← e']
        simp (disch := first | assumption | omega | exact is_Script_draft | exact is_Script_made | exact is_Learner_made | exact is_Learner_madeFirst | (apply is_eScript_tasks; omega) | (apply is_eScript_lines; omega) | (apply is_eScript_ranBy; omega)) only [↓reduceIte, ↓I_n1, obs, I_0n, l_1, l_2, l_3, l_4, l_5, l_6, l_7, l_8, l_11, l_12, l_15, l_16, l_18, l_20, l_21, l_29, l_30, l_31, l_32, l_33, l_39, l_40, l_44, l_45, l_46, l_47, l_48, l_53, l_57, l_63, l_64, l_65, l_66, l_71, l_72, l_75, l_90, l_97, l_120, l_122, l_127, l_128, l_1812, l_3600, l_4000, l_252645135, l_268435456, l_858993459, l_1431655765, I_add, I_mul, I_sub, I_addN, I_mulN, I_subN, ilt_t, ilt_f, ile_t, ile_f, ieq_t, ieq_f, up_same, up_up, I_and, I_or, I_shlN, I_shrN, I_divN, I_remN, dzI, i2cI, narI, Int.toNat_natCast, true_or, or_true, false_or, or_false, true_and, and_true, false_and, and_false, not_true_eq_false, not_false_eq_true, cScript, gScript_draft, gScript_made, gScript_tasks, nScript_tasks, rScript_tasks, gScript_lines, nScript_lines, rScript_lines, gScript_ranBy, nScript_ranBy, rScript_ranBy, gScript_runCounts, nScript_runCounts, rScript_runCounts, wScript_runCounts, gScript_learner, gScript_lineCount, pScript_lineCount, gScript_runCount, pScript_runCount, gScript_askedLines, pScript_askedLines, cTask, gTask_was, nTask_was, rTask_was, gTask_shown, nTask_shown, rTask_shown, gTask_lineOf, nTask_lineOf, rTask_lineOf, wTask_lineOf, gTask_examples, pTask_examples, gTask_refusedOf, nTask_refusedOf, rTask_refusedOf, gTask_refused, nTask_refused, rTask_refused, gTask_refusals, pTask_refusals, gTask_pins, nTask_pins, rTask_pins, wTask_pins, gTask_learnt, gTask_standing, pTask_standing, gTask_best, nTask_best, rTask_best, gTask_bestCount, pTask_bestCount, gTask_isBestKnown, pTask_isBestKnown, b_X11_line_80, h1]
      · rw [hs] at h1 hst
        have h1 : (tk (eScript_tasks k)).2.2.2.2.1 = I ((1 : Nat) : Int) := h1
        have hst : stdR SD (3 - k) = 1 + stdR SD (3 - (k + 1)) := hst
        obtain ⟨tx1, pg1, le1, ln1, vi1, va1, e1, h2, h3⟩ := x_runOn (F := F) (T := k) (lo := l) (hi := l) (w := 1) hF c (show X.2.2.1 < 30 by omega) (by decide) (Nat.le_refl _) (by omega) hA g
        have hA2 := AC_run (T := k) (lo := l) (hi := l) (w := 1) (RC := X.2.2.2.2) (CM := CM) (show X.2.2.1 < 30 by omega) (show l < nl by omega) (hA.2.2.2.2.2.2.1 k c hs) hA (Nat.le_refl _)
        obtain ⟨tx', pg', le', ln', vi', va', e', h4, h5, h6⟩ := ih (k + 1) (tx1) (pg1) (le1) (ln1) tk bd (vi1) (va1) vl vj la me ((rnF EL X.2.2.2.1 X.2.2.2.2 CM X.1 Ls X.2.1 X.2.2.1 k l l 1).1, (rnF EL X.2.2.2.1 X.2.2.2.2 CM X.1 Ls X.2.1 X.2.2.1 k l l 1).2.1, X.2.2.1 + 1, up X.2.2.2.1 X.2.2.1 (Ls k), up X.2.2.2.2 X.2.2.1 true) (by omega) (by omega) (show X.2.2.1 + 1 + _ ≤ 30 by omega) hA2 h2
        rw [if_pos rfl]
        refine ⟨tx', pg', le', ln', vi', va', ?_, h4, h5, frC_trans h3 h6⟩
        rw [← e']
        simp (disch := first | assumption | omega | exact is_Script_draft | exact is_Script_made | exact is_Learner_made | exact is_Learner_madeFirst | (apply is_eScript_tasks; omega) | (apply is_eScript_lines; omega) | (apply is_eScript_ranBy; omega)) only [↓reduceIte, ↓I_n1, obs, I_0n, l_1, l_2, l_3, l_4, l_5, l_6, l_7, l_8, l_11, l_12, l_15, l_16, l_18, l_20, l_21, l_29, l_30, l_31, l_32, l_33, l_39, l_40, l_44, l_45, l_46, l_47, l_48, l_53, l_57, l_63, l_64, l_65, l_66, l_71, l_72, l_75, l_90, l_97, l_120, l_122, l_127, l_128, l_1812, l_3600, l_4000, l_252645135, l_268435456, l_858993459, l_1431655765, I_add, I_mul, I_sub, I_addN, I_mulN, I_subN, ilt_t, ilt_f, ile_t, ile_f, ieq_t, ieq_f, up_same, up_up, I_and, I_or, I_shlN, I_shrN, I_divN, I_remN, dzI, i2cI, narI, Int.toNat_natCast, true_or, or_true, false_or, or_false, true_and, and_true, false_and, and_false, not_true_eq_false, not_false_eq_true, cScript, gScript_draft, gScript_made, gScript_tasks, nScript_tasks, rScript_tasks, gScript_lines, nScript_lines, rScript_lines, gScript_ranBy, nScript_ranBy, rScript_ranBy, gScript_runCounts, nScript_runCounts, rScript_runCounts, wScript_runCounts, gScript_learner, gScript_lineCount, pScript_lineCount, gScript_runCount, pScript_runCount, gScript_askedLines, pScript_askedLines, cTask, gTask_was, nTask_was, rTask_was, gTask_shown, nTask_shown, rTask_shown, gTask_lineOf, nTask_lineOf, rTask_lineOf, wTask_lineOf, gTask_examples, pTask_examples, gTask_refusedOf, nTask_refusedOf, rTask_refusedOf, gTask_refused, nTask_refused, rTask_refused, gTask_refusals, pTask_refusals, gTask_pins, nTask_pins, rTask_pins, wTask_pins, gTask_learnt, gTask_standing, pTask_standing, gTask_best, nTask_best, rTask_best, gTask_bestCount, pTask_bestCount, gTask_isBestKnown, pTask_isBestKnown, b_X11_line_80, h1, e1]
    · have hk3 : k = 3 := by omega
      subst hk3
      refine ⟨tx, pg, le, ln, vi, va, ?_, g, hA, frC_refl⟩
      simp (disch := first | assumption | omega | exact is_Script_draft | exact is_Script_made | exact is_Learner_made | exact is_Learner_madeFirst | (apply is_eScript_tasks; omega) | (apply is_eScript_lines; omega) | (apply is_eScript_ranBy; omega)) only [↓reduceIte, ↓I_n1, obs, I_0n, l_1, l_2, l_3, l_4, l_5, l_6, l_7, l_8, l_11, l_12, l_15, l_16, l_18, l_20, l_21, l_29, l_30, l_31, l_32, l_33, l_39, l_40, l_44, l_45, l_46, l_47, l_48, l_53, l_57, l_63, l_64, l_65, l_66, l_71, l_72, l_75, l_90, l_97, l_120, l_122, l_127, l_128, l_1812, l_3600, l_4000, l_252645135, l_268435456, l_858993459, l_1431655765, I_add, I_mul, I_sub, I_addN, I_mulN, I_subN, ilt_t, ilt_f, ile_t, ile_f, ieq_t, ieq_f, up_same, up_up, I_and, I_or, I_shlN, I_shrN, I_divN, I_remN, dzI, i2cI, narI, Int.toNat_natCast, true_or, or_true, false_or, or_false, true_and, and_true, false_and, and_false, not_true_eq_false, not_false_eq_true, cScript, gScript_draft, gScript_made, gScript_tasks, nScript_tasks, rScript_tasks, gScript_lines, nScript_lines, rScript_lines, gScript_ranBy, nScript_ranBy, rScript_ranBy, gScript_runCounts, nScript_runCounts, rScript_runCounts, wScript_runCounts, gScript_learner, gScript_lineCount, pScript_lineCount, gScript_runCount, pScript_runCount, gScript_askedLines, pScript_askedLines, b_X11_line_80]
theorem x_lineK {S : Nat} {D : Tx} {nl : Nat} {CM : Nat → Tx} {SS : Nat → List Int} {EL : Nat → List (Tx × Tx × Nat)} {RF : Nat → List (Tx × Tx)} {PN : Nat → Nat → Option At} {Ls : Nat → Le} {SD : Nat → Bool} {rn : Nat} {RL : Nat → Le} {RC : Nat → Bool} {AK : Nat} {tx : Nat → ZText} {pg : Nat → ZProg} {le : Nat → ZLearnt} {ln : Nat → ZLine} {tk : Nat → ZTask} {bd : Nat → ZBoard} {vi : Nat → Int32} {va : Nat → Nat → Int32} {vl : Nat → Nat → Int64} {vj : Int64} {la : Option Nat} {me : Nat → Option Nat} (hF : 200000 ≤ F) (hn : nl < 8) (hr : rn + stdR SD 3 ≤ 30) (hA : AC nl SS EL Ls SD rn RL AK) (g : CIn S D nl CM SS EL RF PN Ls SD rn RL RC AK tx pg le ln tk bd vi va vl vj la me) : ∃ tx' pg' le' ln' vi' va', f_X11_line F aScript (mk (tx, pg, le, ln, tk, bd, vi, va, vl, vj, la, me)) = some (0, I (nl : Nat), mk ((tx'), (pg'), (le'), (ln'), tk, bd, (vi'), (va'), vl, vj, la, me)) ∧ CIn S ([]) (nl + 1) (up CM nl D) ((lnG EL (up CM nl D) Ls SD nl 3 (SS, AK, rn, RL, RC)).1) EL RF PN Ls SD ((lnG EL (up CM nl D) Ls SD nl 3 (SS, AK, rn, RL, RC)).2.2.1) ((lnG EL (up CM nl D) Ls SD nl 3 (SS, AK, rn, RL, RC)).2.2.2.1) ((lnG EL (up CM nl D) Ls SD nl 3 (SS, AK, rn, RL, RC)).2.2.2.2) ((lnG EL (up CM nl D) Ls SD nl 3 (SS, AK, rn, RL, RC)).2.1) (tx') (pg') (le') (ln') tk bd (vi') (va') vl vj la me ∧ AC (nl + 1) (lnG EL (up CM nl D) Ls SD nl 3 (SS, AK, rn, RL, RC)).1 EL Ls SD (lnG EL (up CM nl D) Ls SD nl 3 (SS, AK, rn, RL, RC)).2.2.1 (lnG EL (up CM nl D) Ls SD nl 3 (SS, AK, rn, RL, RC)).2.2.2.1 (lnG EL (up CM nl D) Ls SD nl 3 (SS, AK, rn, RL, RC)).2.1 ∧ frC vi vi' va va' := by
  have hV : isText aScript_draft := is_Script_draft
  obtain ⟨g1, g2, g3, g4, g5, g6, g7⟩ := id g
  have hlc := g3.1
  have hrc := g3.2.1
  have e1 := x_st4 (F := F) (SD := SD) (tx := tx) (pg := pg) (le := le) (ln := ln) (tk := tk) (bd := bd) (vi := vi) (va := va) (vl := vl) (vj := vj) (la := la) (me := me) (fun T hT => (g5 T hT).2.2.2.2.1) F 0 0 (Nat.zero_le _) (by omega) (Nat.le_refl _)
  rw [Nat.zero_add, Nat.sub_zero] at e1
  have e1 : f_X11_standingTasks F aScript (mk (tx, pg, le, ln, tk, bd, vi, va, vl, vj, la, me)) = some (I (stdR SD 3 : Nat), mk (tx, pg, le, ln, tk, bd, vi, va, vl, vj, la, me)) := by
    rw [← e1]
    simp (disch := first | assumption | omega | exact is_Script_draft | exact is_Script_made | exact is_Learner_made | exact is_Learner_madeFirst | (apply is_eScript_tasks; omega) | (apply is_eScript_lines; omega) | (apply is_eScript_ranBy; omega)) only [↓reduceIte, ↓I_n1, obs, I_0n, l_1, l_2, l_3, l_4, l_5, l_6, l_7, l_8, l_11, l_12, l_15, l_16, l_18, l_20, l_21, l_29, l_30, l_31, l_32, l_33, l_39, l_40, l_44, l_45, l_46, l_47, l_48, l_53, l_57, l_63, l_64, l_65, l_66, l_71, l_72, l_75, l_90, l_97, l_120, l_122, l_127, l_128, l_1812, l_3600, l_4000, l_252645135, l_268435456, l_858993459, l_1431655765, I_add, I_mul, I_sub, I_addN, I_mulN, I_subN, ilt_t, ilt_f, ile_t, ile_f, ieq_t, ieq_f, up_same, up_up, I_and, I_or, I_shlN, I_shrN, I_divN, I_remN, dzI, i2cI, narI, Int.toNat_natCast, true_or, or_true, false_or, or_false, true_and, and_true, false_and, and_false, not_true_eq_false, not_false_eq_true, cScript, gScript_draft, gScript_made, gScript_tasks, nScript_tasks, rScript_tasks, gScript_lines, nScript_lines, rScript_lines, gScript_ranBy, nScript_ranBy, rScript_ranBy, gScript_runCounts, nScript_runCounts, rScript_runCounts, wScript_runCounts, gScript_learner, gScript_lineCount, pScript_lineCount, gScript_runCount, pScript_runCount, gScript_askedLines, pScript_askedLines, f_X11_standingTasks, f_X11_standingTasks_0, b_X11_standingTasks_0]
  obtain ⟨v1, v2, e2, t1, t2⟩ := x_begin (F := F) (tx := tx) (pg := pg) (le := le) (ln := ln) (tk := tk) (bd := bd) (vi := up vi 907 (I ((nl + 1 : Nat) : Int))) (va := va) (vl := vl) (vj := vj) (la := la) (me := me) hF hn g1
  obtain ⟨v3, t3, e3⟩ := x_clear (F := F) (tx := up (up tx (aLine_came (eScript_lines nl)) v1) (aLine_now (eScript_lines nl)) v2) (pg := pg) (le := le) (ln := ln) (tk := tk) (bd := bd) (vi := up vi 907 (I ((nl + 1 : Nat) : Int))) (va := va) (vl := vl) (vj := vj) (la := la) (me := me) hV (by omega)
  have g' := CI_begin hn hA t1 t2 t3 g
  have hA' := AC_begin hn hA
  obtain ⟨tx', pg', le', ln', vi', va', e4, h1, h2, h3⟩ := x_line80K (F := F) (l := nl) (D := []) (nl := nl + 1) (CM := up CM nl D) (SS := SS) (EL := EL) (RF := RF) (PN := PN) (Ls := Ls) (SD := SD) (rn := rn) (RL := RL) (RC := RC) (AK := AK) hF rfl F 0 (up (up (up tx (aLine_came (eScript_lines nl)) v1) (aLine_now (eScript_lines nl)) v2) aScript_draft v3) pg le ln tk bd (up vi 907 (I ((nl + 1 : Nat) : Int))) va vl vj la me (SS, AK, rn, RL, RC) (Nat.zero_le _) (by omega) hr hA' g'
  refine ⟨tx', pg', le', ln', vi', va', ?_, h1, h2, frC_trans ⟨fun k hk => up_ne (by omega), fun _ _ => rfl⟩ h3⟩
  rw [← e4]
  simp (disch := first | assumption | omega | exact is_Script_draft | exact is_Script_made | exact is_Learner_made | exact is_Learner_madeFirst | (apply is_eScript_tasks; omega) | (apply is_eScript_lines; omega) | (apply is_eScript_ranBy; omega)) only [↓reduceIte, ↓I_n1, obs, I_0n, l_1, l_2, l_3, l_4, l_5, l_6, l_7, l_8, l_11, l_12, l_15, l_16, l_18, l_20, l_21, l_29, l_30, l_31, l_32, l_33, l_39, l_40, l_44, l_45, l_46, l_47, l_48, l_53, l_57, l_63, l_64, l_65, l_66, l_71, l_72, l_75, l_90, l_97, l_120, l_122, l_127, l_128, l_1812, l_3600, l_4000, l_252645135, l_268435456, l_858993459, l_1431655765, I_add, I_mul, I_sub, I_addN, I_mulN, I_subN, ilt_t, ilt_f, ile_t, ile_f, ieq_t, ieq_f, up_same, up_up, I_and, I_or, I_shlN, I_shrN, I_divN, I_remN, dzI, i2cI, narI, Int.toNat_natCast, true_or, or_true, false_or, or_false, true_and, and_true, false_and, and_false, not_true_eq_false, not_false_eq_true, cScript, gScript_draft, gScript_made, gScript_tasks, nScript_tasks, rScript_tasks, gScript_lines, nScript_lines, rScript_lines, gScript_ranBy, nScript_ranBy, rScript_ranBy, gScript_runCounts, nScript_runCounts, rScript_runCounts, wScript_runCounts, gScript_learner, gScript_lineCount, pScript_lineCount, gScript_runCount, pScript_runCount, gScript_askedLines, pScript_askedLines, f_X11_line, f_X11_line_0, b_X11_line_0, hlc, hrc, e1, e2, e3]
theorem stR_le {SD : Nat → Bool} : ∀ n, stdR SD n ≤ n := by
  intro n
  induction n with
  | zero => exact Nat.le_refl _
  | succ n ih =>
    unfold stdR
    have : (SD (3 - (n + 1))).toNat ≤ 1 := by cases SD (3 - (n + 1)) <;> decide
    omega
theorem x_lineE {S : Nat} {D : Tx} {nl : Nat} {CM : Nat → Tx} {SS : Nat → List Int} {EL : Nat → List (Tx × Tx × Nat)} {RF : Nat → List (Tx × Tx)} {PN : Nat → Nat → Option At} {Ls : Nat → Le} {SD : Nat → Bool} {rn : Nat} {RL : Nat → Le} {RC : Nat → Bool} {AK : Nat} {tx : Nat → ZText} {pg : Nat → ZProg} {le : Nat → ZLearnt} {ln : Nat → ZLine} {tk : Nat → ZTask} {bd : Nat → ZBoard} {vi : Nat → Int32} {va : Nat → Nat → Int32} {vl : Nat → Nat → Int64} {vj : Int64} {la : Option Nat} {me : Nat → Option Nat} (hF : 200000 ≤ F) (h : nl = 8 ∨ 30 < rn + stdR SD 3) (hA : AC nl SS EL Ls SD rn RL AK) (g : CIn S D nl CM SS EL RF PN Ls SD rn RL RC AK tx pg le ln tk bd vi va vl vj la me) : f_X11_line F aScript (mk (tx, pg, le, ln, tk, bd, vi, va, vl, vj, la, me)) = some (2, 0, mk (tx, pg, le, ln, tk, bd, vi, va, vl, vj, la, me)) := by
  obtain ⟨g1, g2, g3, g4, g5, g6, g7⟩ := id g
  have hlc := g3.1
  have hrc := g3.2.1
  have n8 := hA.1
  have r30 := hA.2.1
  have s3 := stR_le (SD := SD) 3
  by_cases c : nl = 8
  · rw [c] at hlc
    simp (disch := first | assumption | omega | exact is_Script_draft | exact is_Script_made | exact is_Learner_made | exact is_Learner_madeFirst | (apply is_eScript_tasks; omega) | (apply is_eScript_lines; omega) | (apply is_eScript_ranBy; omega)) only [↓reduceIte, ↓I_n1, obs, I_0n, l_1, l_2, l_3, l_4, l_5, l_6, l_7, l_8, l_11, l_12, l_15, l_16, l_18, l_20, l_21, l_29, l_30, l_31, l_32, l_33, l_39, l_40, l_44, l_45, l_46, l_47, l_48, l_53, l_57, l_63, l_64, l_65, l_66, l_71, l_72, l_75, l_90, l_97, l_120, l_122, l_127, l_128, l_1812, l_3600, l_4000, l_252645135, l_268435456, l_858993459, l_1431655765, I_add, I_mul, I_sub, I_addN, I_mulN, I_subN, ilt_t, ilt_f, ile_t, ile_f, ieq_t, ieq_f, up_same, up_up, I_and, I_or, I_shlN, I_shrN, I_divN, I_remN, dzI, i2cI, narI, Int.toNat_natCast, true_or, or_true, false_or, or_false, true_and, and_true, false_and, and_false, not_true_eq_false, not_false_eq_true, cScript, gScript_draft, gScript_made, gScript_tasks, nScript_tasks, rScript_tasks, gScript_lines, nScript_lines, rScript_lines, gScript_ranBy, nScript_ranBy, rScript_ranBy, gScript_runCounts, nScript_runCounts, rScript_runCounts, wScript_runCounts, gScript_learner, gScript_lineCount, pScript_lineCount, gScript_runCount, pScript_runCount, gScript_askedLines, pScript_askedLines, f_X11_line, f_X11_line_0, b_X11_line_0, hlc, kxTI, n3_0, n2_0, n1_0]
    all_goals rfl
  · have e1 := x_st4 (F := F) (SD := SD) (tx := tx) (pg := pg) (le := le) (ln := ln) (tk := tk) (bd := bd) (vi := vi) (va := va) (vl := vl) (vj := vj) (la := la) (me := me) (fun T hT => (g5 T hT).2.2.2.2.1) F 0 0 (Nat.zero_le _) (by omega) (Nat.le_refl _)
    rw [Nat.zero_add, Nat.sub_zero] at e1
    have e1 : f_X11_standingTasks F aScript (mk (tx, pg, le, ln, tk, bd, vi, va, vl, vj, la, me)) = some (I (stdR SD 3 : Nat), mk (tx, pg, le, ln, tk, bd, vi, va, vl, vj, la, me)) := by
      rw [← e1]
      simp (disch := first | assumption | omega | exact is_Script_draft | exact is_Script_made | exact is_Learner_made | exact is_Learner_madeFirst | (apply is_eScript_tasks; omega) | (apply is_eScript_lines; omega) | (apply is_eScript_ranBy; omega)) only [↓reduceIte, ↓I_n1, obs, I_0n, l_1, l_2, l_3, l_4, l_5, l_6, l_7, l_8, l_11, l_12, l_15, l_16, l_18, l_20, l_21, l_29, l_30, l_31, l_32, l_33, l_39, l_40, l_44, l_45, l_46, l_47, l_48, l_53, l_57, l_63, l_64, l_65, l_66, l_71, l_72, l_75, l_90, l_97, l_120, l_122, l_127, l_128, l_1812, l_3600, l_4000, l_252645135, l_268435456, l_858993459, l_1431655765, I_add, I_mul, I_sub, I_addN, I_mulN, I_subN, ilt_t, ilt_f, ile_t, ile_f, ieq_t, ieq_f, up_same, up_up, I_and, I_or, I_shlN, I_shrN, I_divN, I_remN, dzI, i2cI, narI, Int.toNat_natCast, true_or, or_true, false_or, or_false, true_and, and_true, false_and, and_false, not_true_eq_false, not_false_eq_true, cScript, gScript_draft, gScript_made, gScript_tasks, nScript_tasks, rScript_tasks, gScript_lines, nScript_lines, rScript_lines, gScript_ranBy, nScript_ranBy, rScript_ranBy, gScript_runCounts, nScript_runCounts, rScript_runCounts, wScript_runCounts, gScript_learner, gScript_lineCount, pScript_lineCount, gScript_runCount, pScript_runCount, gScript_askedLines, pScript_askedLines, f_X11_standingTasks, f_X11_standingTasks_0, b_X11_standingTasks_0]
    simp (disch := first | assumption | omega | exact is_Script_draft | exact is_Script_made | exact is_Learner_made | exact is_Learner_madeFirst | (apply is_eScript_tasks; omega) | (apply is_eScript_lines; omega) | (apply is_eScript_ranBy; omega)) only [↓reduceIte, ↓I_n1, obs, I_0n, l_1, l_2, l_3, l_4, l_5, l_6, l_7, l_8, l_11, l_12, l_15, l_16, l_18, l_20, l_21, l_29, l_30, l_31, l_32, l_33, l_39, l_40, l_44, l_45, l_46, l_47, l_48, l_53, l_57, l_63, l_64, l_65, l_66, l_71, l_72, l_75, l_90, l_97, l_120, l_122, l_127, l_128, l_1812, l_3600, l_4000, l_252645135, l_268435456, l_858993459, l_1431655765, I_add, I_mul, I_sub, I_addN, I_mulN, I_subN, ilt_t, ilt_f, ile_t, ile_f, ieq_t, ieq_f, up_same, up_up, I_and, I_or, I_shlN, I_shrN, I_divN, I_remN, dzI, i2cI, narI, Int.toNat_natCast, true_or, or_true, false_or, or_false, true_and, and_true, false_and, and_false, not_true_eq_false, not_false_eq_true, cScript, gScript_draft, gScript_made, gScript_tasks, nScript_tasks, rScript_tasks, gScript_lines, nScript_lines, rScript_lines, gScript_ranBy, nScript_ranBy, rScript_ranBy, gScript_runCounts, nScript_runCounts, rScript_runCounts, wScript_runCounts, gScript_learner, gScript_lineCount, pScript_lineCount, gScript_runCount, pScript_runCount, gScript_askedLines, pScript_askedLines, f_X11_line, f_X11_line_0, b_X11_line_0, hlc, hrc, e1, kxTI, n3_0, n2_0, n1_0]
    all_goals rfl
/-! undo -/
theorem x_taskOf {T e : Nat} {k : Int} {M : cM} (hT : T < 3) (he : e < 4) (hk : k = -1 - ((4 * T + e : Nat) : Int)) : f_X5_taskOfStep F (I k) M = some (I (T : Nat), M) := by
  have h1 : (-1 : Int) - k = ((4 * T + e : Nat) : Int) := by omega
  have h2 : (4 * T + e) / 4 = T := by omega
  simp (disch := first | assumption | omega | exact is_Script_draft | exact is_Script_made | exact is_Learner_made | exact is_Learner_madeFirst | (apply is_eScript_tasks; omega) | (apply is_eScript_lines; omega) | (apply is_eScript_ranBy; omega)) only [↓reduceIte, ↓I_n1, obs, I_0n, l_1, l_2, l_3, l_4, l_5, l_6, l_7, l_8, l_11, l_12, l_15, l_16, l_18, l_20, l_21, l_29, l_30, l_31, l_32, l_33, l_39, l_40, l_44, l_45, l_46, l_47, l_48, l_53, l_57, l_63, l_64, l_65, l_66, l_71, l_72, l_75, l_90, l_97, l_120, l_122, l_127, l_128, l_1812, l_3600, l_4000, l_252645135, l_268435456, l_858993459, l_1431655765, I_add, I_mul, I_sub, I_addN, I_mulN, I_subN, ilt_t, ilt_f, ile_t, ile_f, ieq_t, ieq_f, up_same, up_up, I_and, I_or, I_shlN, I_shrN, I_divN, I_remN, dzI, i2cI, narI, Int.toNat_natCast, true_or, or_true, false_or, or_false, true_and, and_true, false_and, and_false, not_true_eq_false, not_false_eq_true, b_X5_taskOfStep_0, f_X5_taskOfStep_0, f_X5_taskOfStep, h1, h2]
theorem x_exOf {T e : Nat} {k : Int} {M : cM} (hT : T < 3) (he : e < 4) (hk : k = -1 - ((4 * T + e : Nat) : Int)) : f_X5_exampleOfStep F (I k) M = some (I (e : Nat), M) := by
  have h1 : (-1 : Int) - k = ((4 * T + e : Nat) : Int) := by omega
  have h2 : 4 * T + e - (4 * T + e) / 4 * 4 = e := by omega
  simp (disch := first | assumption | omega | exact is_Script_draft | exact is_Script_made | exact is_Learner_made | exact is_Learner_madeFirst | (apply is_eScript_tasks; omega) | (apply is_eScript_lines; omega) | (apply is_eScript_ranBy; omega)) only [↓reduceIte, ↓I_n1, obs, I_0n, l_1, l_2, l_3, l_4, l_5, l_6, l_7, l_8, l_11, l_12, l_15, l_16, l_18, l_20, l_21, l_29, l_30, l_31, l_32, l_33, l_39, l_40, l_44, l_45, l_46, l_47, l_48, l_53, l_57, l_63, l_64, l_65, l_66, l_71, l_72, l_75, l_90, l_97, l_120, l_122, l_127, l_128, l_1812, l_3600, l_4000, l_252645135, l_268435456, l_858993459, l_1431655765, I_add, I_mul, I_sub, I_addN, I_mulN, I_subN, ilt_t, ilt_f, ile_t, ile_f, ieq_t, ieq_f, up_same, up_up, I_and, I_or, I_shlN, I_shrN, I_divN, I_remN, dzI, i2cI, narI, Int.toNat_natCast, true_or, or_true, false_or, or_false, true_and, and_true, false_and, and_false, not_true_eq_false, not_false_eq_true, b_X5_exampleOfStep_0, f_X5_exampleOfStep_0, f_X5_exampleOfStep, h1, h2]
theorem x_shownAt {T e : Nat} {k : Int} {tx : Nat → ZText} {pg : Nat → ZProg} {le : Nat → ZLearnt} {ln : Nat → ZLine} {tk : Nat → ZTask} {bd : Nat → ZBoard} {vi : Nat → Int32} {va : Nat → Nat → Int32} {vl : Nat → Nat → Int64} {vj : Int64} {la : Option Nat} {me : Nat → Option Nat} (hT : T < 3) (he : e < 4) (hk : k = -1 - ((4 * T + e : Nat) : Int)) : f_X11_shownAt F aScript (I k) (mk (tx, pg, le, ln, tk, bd, vi, va, vl, vj, la, me)) = some (eTask_shown (eScript_tasks T) e, mk (tx, pg, le, ln, tk, bd, vi, va, vl, vj, la, me)) := by
  have hK : isTask (eScript_tasks T) := is_eScript_tasks hT
  have e1 := x_taskOf (F := F) (M := mk (tx, pg, le, ln, tk, bd, vi, va, vl, vj, la, me)) hT he hk
  have e2 := x_exOf (F := F) (M := mk (tx, pg, le, ln, tk, bd, vi, va, vl, vj, la, me)) hT he hk
  simp (disch := first | assumption | omega | exact is_Script_draft | exact is_Script_made | exact is_Learner_made | exact is_Learner_madeFirst | (apply is_eScript_tasks; omega) | (apply is_eScript_lines; omega) | (apply is_eScript_ranBy; omega)) only [↓reduceIte, ↓I_n1, obs, I_0n, l_1, l_2, l_3, l_4, l_5, l_6, l_7, l_8, l_11, l_12, l_15, l_16, l_18, l_20, l_21, l_29, l_30, l_31, l_32, l_33, l_39, l_40, l_44, l_45, l_46, l_47, l_48, l_53, l_57, l_63, l_64, l_65, l_66, l_71, l_72, l_75, l_90, l_97, l_120, l_122, l_127, l_128, l_1812, l_3600, l_4000, l_252645135, l_268435456, l_858993459, l_1431655765, I_add, I_mul, I_sub, I_addN, I_mulN, I_subN, ilt_t, ilt_f, ile_t, ile_f, ieq_t, ieq_f, up_same, up_up, I_and, I_or, I_shlN, I_shrN, I_divN, I_remN, dzI, i2cI, narI, Int.toNat_natCast, true_or, or_true, false_or, or_false, true_and, and_true, false_and, and_false, not_true_eq_false, not_false_eq_true, cScript, gScript_draft, gScript_made, gScript_tasks, nScript_tasks, rScript_tasks, gScript_lines, nScript_lines, rScript_lines, gScript_ranBy, nScript_ranBy, rScript_ranBy, gScript_runCounts, nScript_runCounts, rScript_runCounts, wScript_runCounts, gScript_learner, gScript_lineCount, pScript_lineCount, gScript_runCount, pScript_runCount, gScript_askedLines, pScript_askedLines, cTask, gTask_was, nTask_was, rTask_was, gTask_shown, nTask_shown, rTask_shown, gTask_lineOf, nTask_lineOf, rTask_lineOf, wTask_lineOf, gTask_examples, pTask_examples, gTask_refusedOf, nTask_refusedOf, rTask_refusedOf, gTask_refused, nTask_refused, rTask_refused, gTask_refusals, pTask_refusals, gTask_pins, nTask_pins, rTask_pins, wTask_pins, gTask_learnt, gTask_standing, pTask_standing, gTask_best, nTask_best, rTask_best, gTask_bestCount, pTask_bestCount, gTask_isBestKnown, pTask_isBestKnown, b_X11_shownAt_5, f_X11_shownAt_5, b_X11_shownAt_0, f_X11_shownAt_0, f_X11_shownAt, e1, e2]
theorem x_ma13 {l : Nat} {EL : Nat → List (Tx × Tx × Nat)} {RL : Nat → Le} {RC : Nat → Bool} {S : List Int} {cm : Tx} {rn : Nat} (hF : 200000 ≤ F) (hl : l < 8) (hr : rn ≤ 30) (hk : ∀ k, k ∈ S → okK EL rn k) (h33 : S.length ≤ 33) : ∀ (f i : Nat) (tx : Nat → ZText) (pg : Nat → ZProg) (le : Nat → ZLearnt) (ln : Nat → ZLine) (tk : Nat → ZTask) (bd : Nat → ZBoard) (vi : Nat → Int32) (va : Nat → Nat → Int32) (vl : Nat → Nat → Int64) (vj : Int64) (la : Option Nat) (me : Nat → Option Nat), i ≤ S.length → S.length - i < f → (ln (eScript_lines l)).2 = I (S.length : Nat) → (∀ i, i < S.length → (ln (eScript_lines l)).1 i = I (fa S i)) → (∀ T, T < 3 → exs tx (tk (eScript_tasks T)) (eScript_tasks T) (EL T)) → rnOK pg le (va 437) rn RL RC → (∃ u, txt (tx aScript_made) u) → txt (tx (aLine_now (eScript_lines l))) (nowT EL RL RC cm (S.take i)) → ∃ tx', f_X11_makeAgain_13 F f aScript (eScript_lines l) (I (i : Nat)) (mk (tx, pg, le, ln, tk, bd, vi, va, vl, vj, la, me)) = some (mk ((tx'), pg, le, ln, tk, bd, vi, va, vl, vj, la, me)) ∧ txt (tx' (aLine_now (eScript_lines l))) (nowT EL RL RC cm S) ∧ (∃ u, txt (tx' aScript_made) u) ∧ ∀ x, x ≠ 4 → x ≠ 226 + 8 * l → tx' x = tx x := by
  have an : aLine_now (eScript_lines l) = 226 + 8 * l := by unfold aLine_now eScript_lines; omega
  have am : aScript_made = 4 := rfl
  have hLn : isLine (eScript_lines l) := is_eScript_lines hl
  have hU := is_Line_now hLn
  have hV : isText aScript_made := is_Script_made
  have exsF : ∀ {tx tx' : Nat → ZText} {tk : Nat → ZTask}, (∀ x, x ≠ 4 → x ≠ 226 + 8 * l → tx' x = tx x) → (∀ T, T < 3 → exs tx (tk (eScript_tasks T)) (eScript_tasks T) (EL T)) → ∀ T, T < 3 → exs tx' (tk (eScript_tasks T)) (eScript_tasks T) (EL T) := fun h g T hT => by
    obtain ⟨g1, g2, g3⟩ := g T hT
    refine ⟨g1, g2, fun i hi => ?_⟩
    rw [h _ (by unfold eTask_was eScript_tasks; omega) (by unfold eTask_was eScript_tasks; omega), h _ (by unfold eTask_shown eScript_tasks; omega) (by unfold eTask_shown eScript_tasks; omega)]
    exact g3 i hi
  intro f
  induction f with
  | zero => intros; omega
  | succ f ih =>
    intro i tx pg le ln tk bd vi va vl vj la me hi hf n1 n2 hE hR hm hs
    rw [s_X11_makeAgain_13]
    by_cases c : i < S.length
    · have hki := hk _ (fa_mem c)
      have hsi := n2 i c
      have htk : nowT EL RL RC cm (S.take (i + 1)) = stpT EL RL RC (nowT EL RL RC cm (S.take i)) (fa S i) := by
        rw [← take_fa c, nowT_app]
      rcases hki with ⟨k1, k2⟩ | ⟨k1, T, e, k2, k3, k4, k5⟩
      · obtain ⟨r, hrk⟩ : ∃ r : Nat, fa S i = r := ⟨(fa S i).toNat, by omega⟩
        rw [hrk] at hsi htk
        have hr2 : r < rn := by omega
        obtain ⟨w1, w2⟩ := hR r hr2
        have hB : isLearnt (eScript_ranBy r) := is_eScript_ranBy (by omega)
        unfold stpT at htk
        rw [if_neg (by omega), Int.toNat_natCast] at htk
        cases hc : RC r
        · rw [hc] at w2 htk
          have w2 : va 437 r = I ((0 : Nat) : Int) := w2
          rw [if_neg (by decide)] at htk
          obtain ⟨tx', e', h⟩ := ih (i + 1) tx pg le ln tk bd vi va vl vj la me (by omega) (by omega) n1 n2 hE hR hm (by rw [htk]; exact hs)
          refine ⟨tx', ?_, h⟩
          rw [← e']
          simp (disch := first | assumption | omega | exact is_Script_draft | exact is_Script_made | exact is_Learner_made | exact is_Learner_madeFirst | (apply is_eScript_tasks; omega) | (apply is_eScript_lines; omega) | (apply is_eScript_ranBy; omega)) only [↓reduceIte, ↓I_n1, obs, I_0n, l_1, l_2, l_3, l_4, l_5, l_6, l_7, l_8, l_11, l_12, l_15, l_16, l_18, l_20, l_21, l_29, l_30, l_31, l_32, l_33, l_39, l_40, l_44, l_45, l_46, l_47, l_48, l_53, l_57, l_63, l_64, l_65, l_66, l_71, l_72, l_75, l_90, l_97, l_120, l_122, l_127, l_128, l_1812, l_3600, l_4000, l_252645135, l_268435456, l_858993459, l_1431655765, I_add, I_mul, I_sub, I_addN, I_mulN, I_subN, ilt_t, ilt_f, ile_t, ile_f, ieq_t, ieq_f, up_same, up_up, I_and, I_or, I_shlN, I_shrN, I_divN, I_remN, dzI, i2cI, narI, Int.toNat_natCast, true_or, or_true, false_or, or_false, true_and, and_true, false_and, and_false, not_true_eq_false, not_false_eq_true, cScript, gScript_draft, gScript_made, gScript_tasks, nScript_tasks, rScript_tasks, gScript_lines, nScript_lines, rScript_lines, gScript_ranBy, nScript_ranBy, rScript_ranBy, gScript_runCounts, nScript_runCounts, rScript_runCounts, wScript_runCounts, gScript_learner, gScript_lineCount, pScript_lineCount, gScript_runCount, pScript_runCount, gScript_askedLines, pScript_askedLines, cLine, gLine_came, gLine_now, gLine_steps, nLine_steps, rLine_steps, wLine_steps, gLine_stepCount, pLine_stepCount, b_X11_makeAgain_13, n1, hsi, w2]
        · rw [hc] at w2 htk
          have w2 : va 437 r = I ((1 : Nat) : Int) := w2
          rw [if_pos rfl] at htk
          obtain ⟨u0, hu0⟩ := hm
          obtain ⟨v, u, r1, hv, e2, h⟩ := x_learntMakes (F := F) (tx := tx) (pg := pg) (le := le) (ln := ln) (tk := tk) (bd := bd) (vi := vi) (va := va) (vl := vl) (vj := vj) (la := la) (me := me) hB hU hV (by omega) hF w1 hs hu0
          have q0 : ∀ x, x ≠ 4 → x ≠ 226 + 8 * l → up tx aScript_made v x = tx x := fun x a b => up_ne (by omega)
          rcases h with ⟨h, rfl⟩ | ⟨h, rfl⟩
          · obtain ⟨v3, hv3, e3⟩ := x_set (F := F) (tx := up tx aScript_made v) (pg := pg) (le := le) (ln := ln) (tk := tk) (bd := bd) (vi := vi) (va := va) (vl := vl) (vj := vj) (la := la) (me := me) hU hV (by omega) (s := u) (by rw [up_same]; exact hv) (by omega)
            have q1 : ∀ x, x ≠ 4 → x ≠ 226 + 8 * l → up (up tx aScript_made v) (aLine_now (eScript_lines l)) v3 x = tx x := fun x a b => by rw [up_ne (by omega), up_ne (by omega)]
            obtain ⟨tx', e', h1, h2, h3⟩ := ih (i + 1) (up (up tx aScript_made v) (aLine_now (eScript_lines l)) v3) pg le ln tk bd vi va vl vj la me (by omega) (by omega) n1 n2 (exsF q1 hE) hR ⟨u, by rw [up_ne (by omega), up_same]; exact hv⟩ (by
              rw [up_same, htk, h]
              exact hv3)
            refine ⟨tx', ?_, h1, h2, fun x a b => by rw [h3 x a b, q1 x a b]⟩
            rw [← e']
            simp (disch := first | assumption | omega | exact is_Script_draft | exact is_Script_made | exact is_Learner_made | exact is_Learner_madeFirst | (apply is_eScript_tasks; omega) | (apply is_eScript_lines; omega) | (apply is_eScript_ranBy; omega)) only [↓reduceIte, ↓I_n1, obs, I_0n, l_1, l_2, l_3, l_4, l_5, l_6, l_7, l_8, l_11, l_12, l_15, l_16, l_18, l_20, l_21, l_29, l_30, l_31, l_32, l_33, l_39, l_40, l_44, l_45, l_46, l_47, l_48, l_53, l_57, l_63, l_64, l_65, l_66, l_71, l_72, l_75, l_90, l_97, l_120, l_122, l_127, l_128, l_1812, l_3600, l_4000, l_252645135, l_268435456, l_858993459, l_1431655765, I_add, I_mul, I_sub, I_addN, I_mulN, I_subN, ilt_t, ilt_f, ile_t, ile_f, ieq_t, ieq_f, up_same, up_up, I_and, I_or, I_shlN, I_shrN, I_divN, I_remN, dzI, i2cI, narI, Int.toNat_natCast, true_or, or_true, false_or, or_false, true_and, and_true, false_and, and_false, not_true_eq_false, not_false_eq_true, cScript, gScript_draft, gScript_made, gScript_tasks, nScript_tasks, rScript_tasks, gScript_lines, nScript_lines, rScript_lines, gScript_ranBy, nScript_ranBy, rScript_ranBy, gScript_runCounts, nScript_runCounts, rScript_runCounts, wScript_runCounts, gScript_learner, gScript_lineCount, pScript_lineCount, gScript_runCount, pScript_runCount, gScript_askedLines, pScript_askedLines, cLine, gLine_came, gLine_now, gLine_steps, nLine_steps, rLine_steps, wLine_steps, gLine_stepCount, pLine_stepCount, b_X11_makeAgain_13, n1, hsi, w2, e2, e3]
          · obtain ⟨tx', e', h1, h2, h3⟩ := ih (i + 1) (up tx aScript_made v) pg le ln tk bd vi va vl vj la me (by omega) (by omega) n1 n2 (exsF q0 hE) hR ⟨u, by rw [up_same]; exact hv⟩ (by
              rw [up_ne (by omega), htk, h]
              exact hs)
            refine ⟨tx', ?_, h1, h2, fun x a b => by rw [h3 x a b, q0 x a b]⟩
            rw [← e']
            simp (disch := first | assumption | omega | exact is_Script_draft | exact is_Script_made | exact is_Learner_made | exact is_Learner_madeFirst | (apply is_eScript_tasks; omega) | (apply is_eScript_lines; omega) | (apply is_eScript_ranBy; omega)) only [↓reduceIte, ↓I_n1, obs, I_0n, l_1, l_2, l_3, l_4, l_5, l_6, l_7, l_8, l_11, l_12, l_15, l_16, l_18, l_20, l_21, l_29, l_30, l_31, l_32, l_33, l_39, l_40, l_44, l_45, l_46, l_47, l_48, l_53, l_57, l_63, l_64, l_65, l_66, l_71, l_72, l_75, l_90, l_97, l_120, l_122, l_127, l_128, l_1812, l_3600, l_4000, l_252645135, l_268435456, l_858993459, l_1431655765, I_add, I_mul, I_sub, I_addN, I_mulN, I_subN, ilt_t, ilt_f, ile_t, ile_f, ieq_t, ieq_f, up_same, up_up, I_and, I_or, I_shlN, I_shrN, I_divN, I_remN, dzI, i2cI, narI, Int.toNat_natCast, true_or, or_true, false_or, or_false, true_and, and_true, false_and, and_false, not_true_eq_false, not_false_eq_true, cScript, gScript_draft, gScript_made, gScript_tasks, nScript_tasks, rScript_tasks, gScript_lines, nScript_lines, rScript_lines, gScript_ranBy, nScript_ranBy, rScript_ranBy, gScript_runCounts, nScript_runCounts, rScript_runCounts, wScript_runCounts, gScript_learner, gScript_lineCount, pScript_lineCount, gScript_runCount, pScript_runCount, gScript_askedLines, pScript_askedLines, cLine, gLine_came, gLine_now, gLine_steps, nLine_steps, rLine_steps, wLine_steps, gLine_stepCount, pLine_stepCount, b_X11_makeAgain_13, n1, hsi, w2, e2]
      · have hK : isTask (eScript_tasks T) := is_eScript_tasks k2
        have e1 := x_shownAt (F := F) (tx := tx) (pg := pg) (le := le) (ln := ln) (tk := tk) (bd := bd) (vi := vi) (va := va) (vl := vl) (vj := vj) (la := la) (me := me) k2 k3 k5
        have hb := (hE T k2).2.2 e k4
        obtain ⟨v3, hv3, e3⟩ := x_set (F := F) (tx := tx) (pg := pg) (le := le) (ln := ln) (tk := tk) (bd := bd) (vi := vi) (va := va) (vl := vl) (vj := vj) (la := la) (me := me) hU (is_eTask_shown hK k3) (by unfold eTask_shown eScript_tasks; omega) hb.2.1 (by omega)
        have q1 : ∀ x, x ≠ 4 → x ≠ 226 + 8 * l → up tx (aLine_now (eScript_lines l)) v3 x = tx x := fun x a b => up_ne (by omega)
        unfold stpT at htk
        rw [if_pos k1, show (-1 - fa S i).toNat / 4 = T by omega, show (-1 - fa S i).toNat % 4 = e by omega] at htk
        obtain ⟨u0, hu0⟩ := hm
        obtain ⟨tx', e', h1, h2, h3⟩ := ih (i + 1) (up tx (aLine_now (eScript_lines l)) v3) pg le ln tk bd vi va vl vj la me (by omega) (by omega) n1 n2 (exsF q1 hE) hR ⟨u0, by rw [up_ne (by omega)]; exact hu0⟩ (by
          rw [up_same, htk]
          exact hv3)
        refine ⟨tx', ?_, h1, h2, fun x a b => by rw [h3 x a b, q1 x a b]⟩
        rw [← e']
        have hneg : -100 < fa S i := by omega
        simp (disch := first | assumption | omega | exact is_Script_draft | exact is_Script_made | exact is_Learner_made | exact is_Learner_madeFirst | (apply is_eScript_tasks; omega) | (apply is_eScript_lines; omega) | (apply is_eScript_ranBy; omega)) only [↓reduceIte, ↓I_n1, obs, I_0n, l_1, l_2, l_3, l_4, l_5, l_6, l_7, l_8, l_11, l_12, l_15, l_16, l_18, l_20, l_21, l_29, l_30, l_31, l_32, l_33, l_39, l_40, l_44, l_45, l_46, l_47, l_48, l_53, l_57, l_63, l_64, l_65, l_66, l_71, l_72, l_75, l_90, l_97, l_120, l_122, l_127, l_128, l_1812, l_3600, l_4000, l_252645135, l_268435456, l_858993459, l_1431655765, I_add, I_mul, I_sub, I_addN, I_mulN, I_subN, ilt_t, ilt_f, ile_t, ile_f, ieq_t, ieq_f, up_same, up_up, I_and, I_or, I_shlN, I_shrN, I_divN, I_remN, dzI, i2cI, narI, Int.toNat_natCast, true_or, or_true, false_or, or_false, true_and, and_true, false_and, and_false, not_true_eq_false, not_false_eq_true, cScript, gScript_draft, gScript_made, gScript_tasks, nScript_tasks, rScript_tasks, gScript_lines, nScript_lines, rScript_lines, gScript_ranBy, nScript_ranBy, rScript_ranBy, gScript_runCounts, nScript_runCounts, rScript_runCounts, wScript_runCounts, gScript_learner, gScript_lineCount, pScript_lineCount, gScript_runCount, pScript_runCount, gScript_askedLines, pScript_askedLines, cLine, gLine_came, gLine_now, gLine_steps, nLine_steps, rLine_steps, wLine_steps, gLine_stepCount, pLine_stepCount, b_X11_makeAgain_13, n1, hsi, e1, e3]
    · have hi2 : i = S.length := by omega
      subst hi2
      rw [List.take_length] at hs
      refine ⟨tx, ?_, hs, hm, fun _ _ _ => rfl⟩
      simp (disch := first | assumption | omega | exact is_Script_draft | exact is_Script_made | exact is_Learner_made | exact is_Learner_madeFirst | (apply is_eScript_tasks; omega) | (apply is_eScript_lines; omega) | (apply is_eScript_ranBy; omega)) only [↓reduceIte, ↓I_n1, obs, I_0n, l_1, l_2, l_3, l_4, l_5, l_6, l_7, l_8, l_11, l_12, l_15, l_16, l_18, l_20, l_21, l_29, l_30, l_31, l_32, l_33, l_39, l_40, l_44, l_45, l_46, l_47, l_48, l_53, l_57, l_63, l_64, l_65, l_66, l_71, l_72, l_75, l_90, l_97, l_120, l_122, l_127, l_128, l_1812, l_3600, l_4000, l_252645135, l_268435456, l_858993459, l_1431655765, I_add, I_mul, I_sub, I_addN, I_mulN, I_subN, ilt_t, ilt_f, ile_t, ile_f, ieq_t, ieq_f, up_same, up_up, I_and, I_or, I_shlN, I_shrN, I_divN, I_remN, dzI, i2cI, narI, Int.toNat_natCast, true_or, or_true, false_or, or_false, true_and, and_true, false_and, and_false, not_true_eq_false, not_false_eq_true, cScript, gScript_draft, gScript_made, gScript_tasks, nScript_tasks, rScript_tasks, gScript_lines, nScript_lines, rScript_lines, gScript_ranBy, nScript_ranBy, rScript_ranBy, gScript_runCounts, nScript_runCounts, rScript_runCounts, wScript_runCounts, gScript_learner, gScript_lineCount, pScript_lineCount, gScript_runCount, pScript_runCount, gScript_askedLines, pScript_askedLines, cLine, gLine_came, gLine_now, gLine_steps, nLine_steps, rLine_steps, wLine_steps, gLine_stepCount, pLine_stepCount, b_X11_makeAgain_13, n1]
theorem x_makeAgain {l : Nat} {tx : Nat → ZText} {pg : Nat → ZProg} {le : Nat → ZLearnt} {ln : Nat → ZLine} {tk : Nat → ZTask} {bd : Nat → ZBoard} {vi : Nat → Int32} {va : Nat → Nat → Int32} {vl : Nat → Nat → Int64} {vj : Int64} {la : Option Nat} {me : Nat → Option Nat} {EL : Nat → List (Tx × Tx × Nat)} {RL : Nat → Le} {RC : Nat → Bool} {S : List Int} {cm : Tx} {rn : Nat} (hF : 200000 ≤ F) (hl : l < 8) (hr : rn ≤ 30) (hk : ∀ k, k ∈ S → okK EL rn k) (h33 : S.length ≤ 33) (n1 : (ln (eScript_lines l)).2 = I (S.length : Nat)) (n2 : ∀ i, i < S.length → (ln (eScript_lines l)).1 i = I (fa S i)) (hE : ∀ T, T < 3 → exs tx (tk (eScript_tasks T)) (eScript_tasks T) (EL T)) (hR : rnOK pg le (va 437) rn RL RC) (hm : ∃ u, txt (tx aScript_made) u) (hc : txt (tx (aLine_came (eScript_lines l))) cm) : ∃ tx', f_X11_makeAgain F aScript (eScript_lines l) (mk (tx, pg, le, ln, tk, bd, vi, va, vl, vj, la, me)) = some (mk ((tx'), pg, le, ln, tk, bd, vi, va, vl, vj, la, me)) ∧ txt (tx' (aLine_now (eScript_lines l))) (nowT EL RL RC cm S) ∧ (∃ u, txt (tx' aScript_made) u) ∧ ∀ x, x ≠ 4 → x ≠ 226 + 8 * l → tx' x = tx x := by
  have an : aLine_now (eScript_lines l) = 226 + 8 * l := by unfold aLine_now eScript_lines; omega
  have ac : aLine_came (eScript_lines l) = 223 + 8 * l := by unfold aLine_came eScript_lines; omega
  have am : aScript_made = 4 := rfl
  have hLn : isLine (eScript_lines l) := is_eScript_lines hl
  obtain ⟨v3, hv3, e3⟩ := x_set (F := F) (tx := tx) (pg := pg) (le := le) (ln := ln) (tk := tk) (bd := bd) (vi := vi) (va := va) (vl := vl) (vj := vj) (la := la) (me := me) (is_Line_now hLn) (is_Line_came hLn) (by omega) hc (by omega)
  have q1 : ∀ x, x ≠ 4 → x ≠ 226 + 8 * l → up tx (aLine_now (eScript_lines l)) v3 x = tx x := fun x a b => up_ne (by omega)
  obtain ⟨u0, hu0⟩ := hm
  obtain ⟨tx', e', h1, h2, h3⟩ := x_ma13 (F := F) (EL := EL) (RL := RL) (RC := RC) (S := S) (cm := cm) hF hl hr hk h33 F 0 (up tx (aLine_now (eScript_lines l)) v3) pg le ln tk bd vi va vl vj la me (Nat.zero_le _) (by omega) n1 n2 (fun T hT => by
    obtain ⟨g1, g2, g3⟩ := hE T hT
    refine ⟨g1, g2, fun i hi => ?_⟩
    rw [q1 _ (by unfold eTask_was eScript_tasks; omega) (by unfold eTask_was eScript_tasks; omega), q1 _ (by unfold eTask_shown eScript_tasks; omega) (by unfold eTask_shown eScript_tasks; omega)]
    exact g3 i hi) hR ⟨u0, by rw [up_ne (by omega)]; exact hu0⟩ (by
    rw [up_same]
    exact hv3)
  refine ⟨tx', ?_, h1, h2, fun x a b => by rw [h3 x a b, q1 x a b]⟩
  rw [← e']
  simp (disch := first | assumption | omega | exact is_Script_draft | exact is_Script_made | exact is_Learner_made | exact is_Learner_madeFirst | (apply is_eScript_tasks; omega) | (apply is_eScript_lines; omega) | (apply is_eScript_ranBy; omega)) only [↓reduceIte, ↓I_n1, obs, I_0n, l_1, l_2, l_3, l_4, l_5, l_6, l_7, l_8, l_11, l_12, l_15, l_16, l_18, l_20, l_21, l_29, l_30, l_31, l_32, l_33, l_39, l_40, l_44, l_45, l_46, l_47, l_48, l_53, l_57, l_63, l_64, l_65, l_66, l_71, l_72, l_75, l_90, l_97, l_120, l_122, l_127, l_128, l_1812, l_3600, l_4000, l_252645135, l_268435456, l_858993459, l_1431655765, I_add, I_mul, I_sub, I_addN, I_mulN, I_subN, ilt_t, ilt_f, ile_t, ile_f, ieq_t, ieq_f, up_same, up_up, I_and, I_or, I_shlN, I_shrN, I_divN, I_remN, dzI, i2cI, narI, Int.toNat_natCast, true_or, or_true, false_or, or_false, true_and, and_true, false_and, and_false, not_true_eq_false, not_false_eq_true, cScript, gScript_draft, gScript_made, gScript_tasks, nScript_tasks, rScript_tasks, gScript_lines, nScript_lines, rScript_lines, gScript_ranBy, nScript_ranBy, rScript_ranBy, gScript_runCounts, nScript_runCounts, rScript_runCounts, wScript_runCounts, gScript_learner, gScript_lineCount, pScript_lineCount, gScript_runCount, pScript_runCount, gScript_askedLines, pScript_askedLines, cLine, gLine_came, gLine_now, gLine_steps, nLine_steps, rLine_steps, wLine_steps, gLine_stepCount, pLine_stepCount, f_X11_makeAgain, f_X11_makeAgain_0, b_X11_makeAgain_0, e3]
theorem nowT_skip {EL : Nat → List (Tx × Tx × Nat)} {RL : Nat → Le} {RC : Nat → Bool} {r : Nat} {b : Bool} : ∀ (S : List Int) (c : Tx), ((r : Nat) : Int) ∉ S → nowT EL RL (up RC r b) c S = nowT EL RL RC c S
  | [], _, _ => rfl
  | k :: S, c, h => by
    have hk : stpT EL RL (up RC r b) c k = stpT EL RL RC c k := by
      unfold stpT
      by_cases q : k < 0
      · rw [if_pos q, if_pos q]
      · rw [if_neg q, if_neg q, up_ne (fun z => h (by
          rw [show ((r : Nat) : Int) = k by omega]
          exact List.mem_cons_self))]
    unfold nowT
    rw [List.foldl_cons, List.foldl_cons, hk]
    exact nowT_skip S _ (fun z => h (List.mem_cons_of_mem _ z))
theorem x_un51 {S r : Nat} {b : Bool} {D : Tx} {nl : Nat} {CM : Nat → Tx} {SS : Nat → List Int} {EL : Nat → List (Tx × Tx × Nat)} {RF : Nat → List (Tx × Tx)} {PN : Nat → Nat → Option At} {Ls : Nat → Le} {SD : Nat → Bool} {rn : Nat} {RL : Nat → Le} {RC : Nat → Bool} {AK : Nat} (hF : 200000 ≤ F) (hr : r < rn) (hA : AC nl SS EL Ls SD rn RL AK) : ∀ (f i : Nat) (tx : Nat → ZText) (pg : Nat → ZProg) (le : Nat → ZLearnt) (ln : Nat → ZLine) (tk : Nat → ZTask) (bd : Nat → ZBoard) (vi : Nat → Int32) (va : Nat → Nat → Int32) (vl : Nat → Nat → Int64) (vj : Int64) (la : Option Nat) (me : Nat → Option Nat), i ≤ nl → nl - i < f → va 437 r = I ((b.toNat : Nat) : Int) → vi 907 = I (nl : Nat) → (∀ T, T < 3 → exs tx (tk (eScript_tasks T)) (eScript_tasks T) (EL T)) → rnOK pg le (va 437) rn RL (up RC r b) → (∃ u, txt (tx aScript_made) u) → lnOK tx ln nl CM (fun l => nowT EL RL (if l < i then up RC r b else RC) (CM l) (SS l)) SS → ∃ tx', f_X11_undo_51 F f aScript (I (r : Nat)) (I (i : Nat)) (mk (tx, pg, le, ln, tk, bd, vi, va, vl, vj, la, me)) = some (0, I ((b.toNat : Nat) : Int), mk ((tx'), pg, le, ln, tk, bd, vi, va, vl, vj, la, me)) ∧ lnOK tx' ln nl CM (fun l => nowT EL RL (up RC r b) (CM l) (SS l)) SS ∧ (∃ u, txt (tx' aScript_made) u) ∧ ∀ x, x ≠ 4 → (x < 222 ∨ 286 ≤ x) → tx' x = tx x := by
  have am : aScript_made = 4 := rfl
  have n8 := hA.1
  have r30 := hA.2.1
  intro f
  induction f with
  | zero => intros; omega
  | succ f ih =>
    intro i tx pg le ln tk bd vi va vl vj la me hi hf hb hlc hE hR hm hL
    rw [s_X11_undo_51]
    by_cases c : i < nl
    · have hl8 : i < 8 := by omega
      obtain ⟨b1, n1, h33, n2⟩ := hL i hl8
      have hk := (hA.2.2.2.2.1 i c).2
      have hbd : ∀ k, k ∈ SS i → -100 ≤ k ∧ k < 100 := fun k hk2 => by
        rcases hk k hk2 with ⟨a1, a2⟩ | ⟨a1, T, e, a2, a3, a4, a5⟩ <;> omega
      have e1 := x_hasStep (F := F) (tx := tx) (pg := pg) (le := le) (ln := ln) (tk := tk) (bd := bd) (vi := vi) (va := va) (vl := vl) (vj := vj) (la := la) (me := me) hF hl8 n1 h33 n2 hbd (show r < 30 by omega)
      have nx : ∀ (tx' : Nat → ZText), (∀ x, x ≠ 4 → x ≠ 226 + 8 * i → tx' x = tx x) → txt (tx' (aLine_now (eScript_lines i))) (nowT EL RL (up RC r b) (CM i) (SS i)) → lnOK tx' ln nl CM (fun l => nowT EL RL (if l < i + 1 then up RC r b else RC) (CM l) (SS l)) SS := fun tx' hx ht l hl => by
        obtain ⟨d1, d2⟩ := hL l hl
        refine ⟨fun hn => ?_, d2⟩
        obtain ⟨d3, d4⟩ := d1 hn
        have an' : aLine_now (eScript_lines l) = 226 + 8 * l := by unfold aLine_now eScript_lines; omega
        have ac' : aLine_came (eScript_lines l) = 223 + 8 * l := by unfold aLine_came eScript_lines; omega
        refine ⟨by rw [hx _ (by omega) (by omega)]; exact d3, ?_⟩
        show txt _ (nowT EL RL (if l < i + 1 then up RC r b else RC) (CM l) (SS l))
        by_cases q : l = i
        · subst q
          rw [if_pos (by omega)]
          exact ht
        · rw [hx _ (by omega) (by omega)]
          have d4 : txt (tx (aLine_now (eScript_lines l))) (nowT EL RL (if l < i then up RC r b else RC) (CM l) (SS l)) := d4
          by_cases q2 : l < i
          · rw [if_pos q2] at d4
            rw [if_pos (by omega)]
            exact d4
          · rw [if_neg q2] at d4
            rw [if_neg (by omega)]
            exact d4
      by_cases hst : ((r : Nat) : Int) ∈ SS i
      · rw [if_pos hst] at e1
        obtain ⟨tx1, e2, h1, h2, h3⟩ := x_makeAgain (F := F) (EL := EL) (RL := RL) (RC := up RC r b) (cm := CM i) (tx := tx) (pg := pg) (le := le) (ln := ln) (tk := tk) (bd := bd) (vi := vi) (va := va) (vl := vl) (vj := vj) (la := la) (me := me) hF hl8 r30 hk h33 n1 n2 hE hR hm (b1 c).1
        obtain ⟨tx', e', k1, k2, k3⟩ := ih (i + 1) (tx1) pg le ln tk bd vi va vl vj la me (by omega) (by omega) hb hlc (fun T hT => by
          obtain ⟨g1, g2, g3⟩ := hE T hT
          refine ⟨g1, g2, fun j hj => ?_⟩
          rw [h3 _ (by unfold eTask_was eScript_tasks; omega) (by unfold eTask_was eScript_tasks; omega), h3 _ (by unfold eTask_shown eScript_tasks; omega) (by unfold eTask_shown eScript_tasks; omega)]
          exact g3 j hj) hR h2 (nx tx1 h3 h1)
        refine ⟨tx', ?_, k1, k2, fun x a b => by rw [k3 x a b, h3 x a (by omega)]⟩
        rw [← e']
        simp (disch := first | assumption | omega | exact is_Script_draft | exact is_Script_made | exact is_Learner_made | exact is_Learner_madeFirst | (apply is_eScript_tasks; omega) | (apply is_eScript_lines; omega) | (apply is_eScript_ranBy; omega)) only [↓reduceIte, ↓I_n1, obs, I_0n, l_1, l_2, l_3, l_4, l_5, l_6, l_7, l_8, l_11, l_12, l_15, l_16, l_18, l_20, l_21, l_29, l_30, l_31, l_32, l_33, l_39, l_40, l_44, l_45, l_46, l_47, l_48, l_53, l_57, l_63, l_64, l_65, l_66, l_71, l_72, l_75, l_90, l_97, l_120, l_122, l_127, l_128, l_1812, l_3600, l_4000, l_252645135, l_268435456, l_858993459, l_1431655765, I_add, I_mul, I_sub, I_addN, I_mulN, I_subN, ilt_t, ilt_f, ile_t, ile_f, ieq_t, ieq_f, up_same, up_up, I_and, I_or, I_shlN, I_shrN, I_divN, I_remN, dzI, i2cI, narI, Int.toNat_natCast, true_or, or_true, false_or, or_false, true_and, and_true, false_and, and_false, not_true_eq_false, not_false_eq_true, cScript, gScript_draft, gScript_made, gScript_tasks, nScript_tasks, rScript_tasks, gScript_lines, nScript_lines, rScript_lines, gScript_ranBy, nScript_ranBy, rScript_ranBy, gScript_runCounts, nScript_runCounts, rScript_runCounts, wScript_runCounts, gScript_learner, gScript_lineCount, pScript_lineCount, gScript_runCount, pScript_runCount, gScript_askedLines, pScript_askedLines, b_X11_undo_51, hlc, e1, e2]
      · rw [if_neg hst] at e1
        have d4 : txt (tx (aLine_now (eScript_lines i))) (nowT EL RL (if i < i then up RC r b else RC) (CM i) (SS i)) := (b1 c).2
        rw [if_neg (by omega)] at d4
        obtain ⟨tx', e', k⟩ := ih (i + 1) tx pg le ln tk bd vi va vl vj la me (by omega) (by omega) hb hlc hE hR hm (nx tx (fun _ _ _ => rfl) (by rw [nowT_skip _ _ hst]; exact d4))
        refine ⟨tx', ?_, k⟩
        rw [← e']
        simp (disch := first | assumption | omega | exact is_Script_draft | exact is_Script_made | exact is_Learner_made | exact is_Learner_madeFirst | (apply is_eScript_tasks; omega) | (apply is_eScript_lines; omega) | (apply is_eScript_ranBy; omega)) only [↓reduceIte, ↓I_n1, obs, I_0n, l_1, l_2, l_3, l_4, l_5, l_6, l_7, l_8, l_11, l_12, l_15, l_16, l_18, l_20, l_21, l_29, l_30, l_31, l_32, l_33, l_39, l_40, l_44, l_45, l_46, l_47, l_48, l_53, l_57, l_63, l_64, l_65, l_66, l_71, l_72, l_75, l_90, l_97, l_120, l_122, l_127, l_128, l_1812, l_3600, l_4000, l_252645135, l_268435456, l_858993459, l_1431655765, I_add, I_mul, I_sub, I_addN, I_mulN, I_subN, ilt_t, ilt_f, ile_t, ile_f, ieq_t, ieq_f, up_same, up_up, I_and, I_or, I_shlN, I_shrN, I_divN, I_remN, dzI, i2cI, narI, Int.toNat_natCast, true_or, or_true, false_or, or_false, true_and, and_true, false_and, and_false, not_true_eq_false, not_false_eq_true, cScript, gScript_draft, gScript_made, gScript_tasks, nScript_tasks, rScript_tasks, gScript_lines, nScript_lines, rScript_lines, gScript_ranBy, nScript_ranBy, rScript_ranBy, gScript_runCounts, nScript_runCounts, rScript_runCounts, wScript_runCounts, gScript_learner, gScript_lineCount, pScript_lineCount, gScript_runCount, pScript_runCount, gScript_askedLines, pScript_askedLines, b_X11_undo_51, hlc, e1]
    · have hi2 : i = nl := by omega
      subst hi2
      refine ⟨tx, ?_, fun l hl => ?_, hm, fun _ _ _ => rfl⟩
      · cases b
        · have hb : va 437 r = I ((0 : Nat) : Int) := hb
          show _ = some (0, I ((0 : Nat) : Int), _)
          simp (disch := first | assumption | omega | exact is_Script_draft | exact is_Script_made | exact is_Learner_made | exact is_Learner_madeFirst | (apply is_eScript_tasks; omega) | (apply is_eScript_lines; omega) | (apply is_eScript_ranBy; omega)) only [↓reduceIte, ↓I_n1, obs, I_0n, l_1, l_2, l_3, l_4, l_5, l_6, l_7, l_8, l_11, l_12, l_15, l_16, l_18, l_20, l_21, l_29, l_30, l_31, l_32, l_33, l_39, l_40, l_44, l_45, l_46, l_47, l_48, l_53, l_57, l_63, l_64, l_65, l_66, l_71, l_72, l_75, l_90, l_97, l_120, l_122, l_127, l_128, l_1812, l_3600, l_4000, l_252645135, l_268435456, l_858993459, l_1431655765, I_add, I_mul, I_sub, I_addN, I_mulN, I_subN, ilt_t, ilt_f, ile_t, ile_f, ieq_t, ieq_f, up_same, up_up, I_and, I_or, I_shlN, I_shrN, I_divN, I_remN, dzI, i2cI, narI, Int.toNat_natCast, true_or, or_true, false_or, or_false, true_and, and_true, false_and, and_false, not_true_eq_false, not_false_eq_true, cScript, gScript_draft, gScript_made, gScript_tasks, nScript_tasks, rScript_tasks, gScript_lines, nScript_lines, rScript_lines, gScript_ranBy, nScript_ranBy, rScript_ranBy, gScript_runCounts, nScript_runCounts, rScript_runCounts, wScript_runCounts, gScript_learner, gScript_lineCount, pScript_lineCount, gScript_runCount, pScript_runCount, gScript_askedLines, pScript_askedLines, b_X11_undo_51, hlc, hb]
        · have hb : va 437 r = I ((1 : Nat) : Int) := hb
          show _ = some (0, I ((1 : Nat) : Int), _)
          simp (disch := first | assumption | omega | exact is_Script_draft | exact is_Script_made | exact is_Learner_made | exact is_Learner_madeFirst | (apply is_eScript_tasks; omega) | (apply is_eScript_lines; omega) | (apply is_eScript_ranBy; omega)) only [↓reduceIte, ↓I_n1, obs, I_0n, l_1, l_2, l_3, l_4, l_5, l_6, l_7, l_8, l_11, l_12, l_15, l_16, l_18, l_20, l_21, l_29, l_30, l_31, l_32, l_33, l_39, l_40, l_44, l_45, l_46, l_47, l_48, l_53, l_57, l_63, l_64, l_65, l_66, l_71, l_72, l_75, l_90, l_97, l_120, l_122, l_127, l_128, l_1812, l_3600, l_4000, l_252645135, l_268435456, l_858993459, l_1431655765, I_add, I_mul, I_sub, I_addN, I_mulN, I_subN, ilt_t, ilt_f, ile_t, ile_f, ieq_t, ieq_f, up_same, up_up, I_and, I_or, I_shlN, I_shrN, I_divN, I_remN, dzI, i2cI, narI, Int.toNat_natCast, true_or, or_true, false_or, or_false, true_and, and_true, false_and, and_false, not_true_eq_false, not_false_eq_true, cScript, gScript_draft, gScript_made, gScript_tasks, nScript_tasks, rScript_tasks, gScript_lines, nScript_lines, rScript_lines, gScript_ranBy, nScript_ranBy, rScript_ranBy, gScript_runCounts, nScript_runCounts, rScript_runCounts, wScript_runCounts, gScript_learner, gScript_lineCount, pScript_lineCount, gScript_runCount, pScript_runCount, gScript_askedLines, pScript_askedLines, b_X11_undo_51, hlc, hb]
      · obtain ⟨d1, d2⟩ := hL l hl
        refine ⟨fun hn => ?_, d2⟩
        have d3 := d1 hn
        have d4 : txt (tx (aLine_came (eScript_lines l))) (CM l) ∧ txt (tx (aLine_now (eScript_lines l))) (nowT EL RL (if l < i then up RC r b else RC) (CM l) (SS l)) := d3
        rw [if_pos hn] at d4
        exact d4
theorem x_undoK {S r : Nat} {D : Tx} {nl : Nat} {CM : Nat → Tx} {SS : Nat → List Int} {EL : Nat → List (Tx × Tx × Nat)} {RF : Nat → List (Tx × Tx)} {PN : Nat → Nat → Option At} {Ls : Nat → Le} {SD : Nat → Bool} {rn : Nat} {RL : Nat → Le} {RC : Nat → Bool} {AK : Nat} {tx : Nat → ZText} {pg : Nat → ZProg} {le : Nat → ZLearnt} {ln : Nat → ZLine} {tk : Nat → ZTask} {bd : Nat → ZBoard} {vi : Nat → Int32} {va : Nat → Nat → Int32} {vl : Nat → Nat → Int64} {vj : Int64} {la : Option Nat} {me : Nat → Option Nat} (hF : 200000 ≤ F) (hr : r < rn) (hA : AC nl SS EL Ls SD rn RL AK) (g : CIn S D nl CM SS EL RF PN Ls SD rn RL RC AK tx pg le ln tk bd vi va vl vj la me) : ∃ tx' va', f_X11_undo F aScript (I (r : Nat)) (mk (tx, pg, le, ln, tk, bd, vi, va, vl, vj, la, me)) = some (0, I ((((!(RC r)).toNat : Nat)) : Int), mk ((tx'), pg, le, ln, tk, bd, vi, (va'), vl, vj, la, me)) ∧ CIn S D nl CM SS EL RF PN Ls SD rn RL (up RC r (!(RC r))) AK (tx') pg le ln tk bd vi (va') vl vj la me ∧ frC vi vi va va' := by
  have am : aScript_made = 4 := rfl
  have n8 := hA.1
  have r30 := hA.2.1
  have hE : ∀ T, T < 3 → (EL T).length ≤ 4 := fun T hT => (hA.2.2.2.2.2.2.2 T hT).1
  obtain ⟨g1, g2, g3, g4, g5, g6, g7⟩ := g
  obtain ⟨va1, hva1⟩ : ∃ va1, va1 = up va 437 (upd (va 437) r (I ((((!(RC r)).toNat : Nat)) : Int))) := ⟨_, rfl⟩
  have hrr : va1 437 r = I ((((!(RC r)).toNat : Nat)) : Int) := by rw [hva1, up_same, updS]
  have hR : rnOK pg le (va1 437) rn RL (up RC r (!(RC r))) := fun r' hr' => by
    refine ⟨(g6 r' hr').1, ?_⟩
    rw [hva1, up_same]
    by_cases q : r' = r
    · subst q
      rw [updS, up_same]
    · rw [updN q, up_ne q]
      exact (g6 r' hr').2
  obtain ⟨tx', e1, h1, h2, h3⟩ := x_un51 (F := F) (S := S) (r := r) (b := !(RC r)) (D := D) (nl := nl) (CM := CM) (SS := SS) (EL := EL) (RF := RF) (PN := PN) (Ls := Ls) (SD := SD) (rn := rn) (RL := RL) (RC := RC) (AK := AK) hF hr hA F 0 tx pg le ln tk bd vi (va1) vl vj la me (Nat.zero_le _) (by omega) hrr g3.1 (fun T hT => (g5 T hT).1) hR g2.1 (fun l hl => by
    obtain ⟨d1, d2⟩ := g4 l hl
    refine ⟨fun hn => ?_, d2⟩
    have d3 : txt (tx (aLine_came (eScript_lines l))) (CM l) ∧ txt (tx (aLine_now (eScript_lines l))) (nowT EL RL RC (CM l) (SS l)) := d1 hn
    show txt (tx (aLine_came (eScript_lines l))) (CM l) ∧ txt (tx (aLine_now (eScript_lines l))) (nowT EL RL (if l < 0 then up RC r (!(RC r)) else RC) (CM l) (SS l))
    rw [if_neg (by omega)]
    exact d3)
  refine ⟨tx', va1, ?_, ⟨?_, ⟨h2, ?_, ?_⟩, g3, h1, fun T hT => ?_, hR, ?_⟩, fun _ _ => rfl, fun K hK => by rw [hva1, up_ne (by omega)]⟩
  · have hrc := g3.2.1
    have hrv := (g6 r hr).2
    have n0 : nrT 3 (I ((0 : Nat) : Int)) = I ((0 : Nat) : Int) := rfl
    have n1 : nrT 3 (I ((1 : Nat) : Int)) = I ((1 : Nat) : Int) := rfl
    rw [hva1] at e1 ⊢
    cases hc : RC r
    · rw [hc] at hrv e1
      have hrv : va 437 r = I ((0 : Nat) : Int) := hrv
      have e1 : f_X11_undo_51 F F aScript (I (r : Nat)) (I ((0 : Nat) : Int)) (mk (tx, pg, le, ln, tk, bd, vi, (up va 437 (upd (va 437) r (I ((1 : Nat) : Int)))), vl, vj, la, me)) = some (0, I ((1 : Nat) : Int), mk ((tx'), pg, le, ln, tk, bd, vi, (up va 437 (upd (va 437) r (I ((1 : Nat) : Int)))), vl, vj, la, me)) := e1
      show _ = some (0, I ((1 : Nat) : Int), mk ((tx'), pg, le, ln, tk, bd, vi, (up va 437 (upd (va 437) r (I ((1 : Nat) : Int)))), vl, vj, la, me))
      simp (disch := first | assumption | omega | exact is_Script_draft | exact is_Script_made | exact is_Learner_made | exact is_Learner_madeFirst | (apply is_eScript_tasks; omega) | (apply is_eScript_lines; omega) | (apply is_eScript_ranBy; omega)) only [↓reduceIte, ↓I_n1, obs, I_0n, l_1, l_2, l_3, l_4, l_5, l_6, l_7, l_8, l_11, l_12, l_15, l_16, l_18, l_20, l_21, l_29, l_30, l_31, l_32, l_33, l_39, l_40, l_44, l_45, l_46, l_47, l_48, l_53, l_57, l_63, l_64, l_65, l_66, l_71, l_72, l_75, l_90, l_97, l_120, l_122, l_127, l_128, l_1812, l_3600, l_4000, l_252645135, l_268435456, l_858993459, l_1431655765, I_add, I_mul, I_sub, I_addN, I_mulN, I_subN, ilt_t, ilt_f, ile_t, ile_f, ieq_t, ieq_f, up_same, up_up, I_and, I_or, I_shlN, I_shrN, I_divN, I_remN, dzI, i2cI, narI, Int.toNat_natCast, true_or, or_true, false_or, or_false, true_and, and_true, false_and, and_false, not_true_eq_false, not_false_eq_true, cScript, gScript_draft, gScript_made, gScript_tasks, nScript_tasks, rScript_tasks, gScript_lines, nScript_lines, rScript_lines, gScript_ranBy, nScript_ranBy, rScript_ranBy, gScript_runCounts, nScript_runCounts, rScript_runCounts, wScript_runCounts, gScript_learner, gScript_lineCount, pScript_lineCount, gScript_runCount, pScript_runCount, gScript_askedLines, pScript_askedLines, f_X11_undo, f_X11_undo_0, b_X11_undo_0, hrc, hrv, n1, e1]
    · rw [hc] at hrv e1
      have hrv : va 437 r = I ((1 : Nat) : Int) := hrv
      have e1 : f_X11_undo_51 F F aScript (I (r : Nat)) (I ((0 : Nat) : Int)) (mk (tx, pg, le, ln, tk, bd, vi, (up va 437 (upd (va 437) r (I ((0 : Nat) : Int)))), vl, vj, la, me)) = some (0, I ((0 : Nat) : Int), mk ((tx'), pg, le, ln, tk, bd, vi, (up va 437 (upd (va 437) r (I ((0 : Nat) : Int)))), vl, vj, la, me)) := e1
      show _ = some (0, I ((0 : Nat) : Int), mk ((tx'), pg, le, ln, tk, bd, vi, (up va 437 (upd (va 437) r (I ((0 : Nat) : Int)))), vl, vj, la, me))
      simp (disch := first | assumption | omega | exact is_Script_draft | exact is_Script_made | exact is_Learner_made | exact is_Learner_madeFirst | (apply is_eScript_tasks; omega) | (apply is_eScript_lines; omega) | (apply is_eScript_ranBy; omega)) only [↓reduceIte, ↓I_n1, obs, I_0n, l_1, l_2, l_3, l_4, l_5, l_6, l_7, l_8, l_11, l_12, l_15, l_16, l_18, l_20, l_21, l_29, l_30, l_31, l_32, l_33, l_39, l_40, l_44, l_45, l_46, l_47, l_48, l_53, l_57, l_63, l_64, l_65, l_66, l_71, l_72, l_75, l_90, l_97, l_120, l_122, l_127, l_128, l_1812, l_3600, l_4000, l_252645135, l_268435456, l_858993459, l_1431655765, I_add, I_mul, I_sub, I_addN, I_mulN, I_subN, ilt_t, ilt_f, ile_t, ile_f, ieq_t, ieq_f, up_same, up_up, I_and, I_or, I_shlN, I_shrN, I_divN, I_remN, dzI, i2cI, narI, Int.toNat_natCast, true_or, or_true, false_or, or_false, true_and, and_true, false_and, and_false, not_true_eq_false, not_false_eq_true, cScript, gScript_draft, gScript_made, gScript_tasks, nScript_tasks, rScript_tasks, gScript_lines, nScript_lines, rScript_lines, gScript_ranBy, nScript_ranBy, rScript_ranBy, gScript_runCounts, nScript_runCounts, rScript_runCounts, wScript_runCounts, gScript_learner, gScript_lineCount, pScript_lineCount, gScript_runCount, pScript_runCount, gScript_askedLines, pScript_askedLines, f_X11_undo, f_X11_undo_0, b_X11_undo_0, hrc, hrv, n0, e1]
  · rw [h3 _ (by decide) (by decide)]
    exact g1
  · rw [h3 _ (by decide) (by decide)]
    exact g2.2.1
  · rw [h3 _ (by decide) (by decide)]
    exact g2.2.2
  · exact tkOK_fr (fun x a b => h3 x (by unfold eScript_tasks at a b; omega) (by unfold eScript_tasks at a b; omega)) (fun _ _ _ => rfl) (fun _ _ _ => rfl) (g5 T hT)
  · exact fiOK_fr hE (fun x a b => h3 x (by omega) (by omega)) rfl rfl g7
theorem x_undoE {tx : Nat → ZText} {pg : Nat → ZProg} {le : Nat → ZLearnt} {ln : Nat → ZLine} {tk : Nat → ZTask} {bd : Nat → ZBoard} {vi : Nat → Int32} {va : Nat → Nat → Int32} {vl : Nat → Nat → Int64} {vj : Int64} {la : Option Nat} {me : Nat → Option Nat} {r : Int} {n : Nat} (r0 : -2147483648 ≤ r) (r1 : r < 2147483648) (hn : vi 908 = I (n : Nat)) (n30 : n ≤ 30) (h : ¬ (0 ≤ r ∧ r < n)) : f_X11_undo F aScript (I r) (mk (tx, pg, le, ln, tk, bd, vi, va, vl, vj, la, me)) = some (3, 0, mk (tx, pg, le, ln, tk, bd, vi, va, vl, vj, la, me)) := by
  by_cases c : r < 0
  · simp (disch := first | assumption | omega | exact is_Script_draft | exact is_Script_made | exact is_Learner_made | exact is_Learner_madeFirst | (apply is_eScript_tasks; omega) | (apply is_eScript_lines; omega) | (apply is_eScript_ranBy; omega)) only [↓reduceIte, ↓I_n1, obs, I_0n, l_1, l_2, l_3, l_4, l_5, l_6, l_7, l_8, l_11, l_12, l_15, l_16, l_18, l_20, l_21, l_29, l_30, l_31, l_32, l_33, l_39, l_40, l_44, l_45, l_46, l_47, l_48, l_53, l_57, l_63, l_64, l_65, l_66, l_71, l_72, l_75, l_90, l_97, l_120, l_122, l_127, l_128, l_1812, l_3600, l_4000, l_252645135, l_268435456, l_858993459, l_1431655765, I_add, I_mul, I_sub, I_addN, I_mulN, I_subN, ilt_t, ilt_f, ile_t, ile_f, ieq_t, ieq_f, up_same, up_up, I_and, I_or, I_shlN, I_shrN, I_divN, I_remN, dzI, i2cI, narI, Int.toNat_natCast, true_or, or_true, false_or, or_false, true_and, and_true, false_and, and_false, not_true_eq_false, not_false_eq_true, cScript, gScript_draft, gScript_made, gScript_tasks, nScript_tasks, rScript_tasks, gScript_lines, nScript_lines, rScript_lines, gScript_ranBy, nScript_ranBy, rScript_ranBy, gScript_runCounts, nScript_runCounts, rScript_runCounts, wScript_runCounts, gScript_learner, gScript_lineCount, pScript_lineCount, gScript_runCount, pScript_runCount, gScript_askedLines, pScript_askedLines, f_X11_undo, f_X11_undo_0, b_X11_undo_0, hn, kxTI, n3_0, n2_0, n1_0]
    all_goals rfl
  · simp (disch := first | assumption | omega | exact is_Script_draft | exact is_Script_made | exact is_Learner_made | exact is_Learner_madeFirst | (apply is_eScript_tasks; omega) | (apply is_eScript_lines; omega) | (apply is_eScript_ranBy; omega)) only [↓reduceIte, ↓I_n1, obs, I_0n, l_1, l_2, l_3, l_4, l_5, l_6, l_7, l_8, l_11, l_12, l_15, l_16, l_18, l_20, l_21, l_29, l_30, l_31, l_32, l_33, l_39, l_40, l_44, l_45, l_46, l_47, l_48, l_53, l_57, l_63, l_64, l_65, l_66, l_71, l_72, l_75, l_90, l_97, l_120, l_122, l_127, l_128, l_1812, l_3600, l_4000, l_252645135, l_268435456, l_858993459, l_1431655765, I_add, I_mul, I_sub, I_addN, I_mulN, I_subN, ilt_t, ilt_f, ile_t, ile_f, ieq_t, ieq_f, up_same, up_up, I_and, I_or, I_shlN, I_shrN, I_divN, I_remN, dzI, i2cI, narI, Int.toNat_natCast, true_or, or_true, false_or, or_false, true_and, and_true, false_and, and_false, not_true_eq_false, not_false_eq_true, cScript, gScript_draft, gScript_made, gScript_tasks, nScript_tasks, rScript_tasks, gScript_lines, nScript_lines, rScript_lines, gScript_ranBy, nScript_ranBy, rScript_ranBy, gScript_runCounts, nScript_runCounts, rScript_runCounts, wScript_runCounts, gScript_learner, gScript_lineCount, pScript_lineCount, gScript_runCount, pScript_runCount, gScript_askedLines, pScript_askedLines, f_X11_undo, f_X11_undo_0, b_X11_undo_0, hn, kxTI, n3_0, n2_0, n1_0]
    all_goals rfl
end
