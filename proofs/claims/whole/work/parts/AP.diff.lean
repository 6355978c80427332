/-! THE LEARNER: WHETHER THE BEST DIFFER, THE WHOLE -/
def dfB (s : Tx) (R : List (Tx × Tx)) : List (List At) → Bool
  | [] => false
  | p :: l => if fitP p R = true then dfA s (mkP p s) R l else dfB s R l
/-- only the learner's own two texts may be others, and they hold texts -/
def frM (tx tx' : Nat → ZText) : Prop := (∀ a, a ≠ aLearner_made → a ≠ aLearner_madeFirst → tx' a = tx a) ∧ (∃ u, txt (tx' aLearner_made) u) ∧ ∃ u, txt (tx' aLearner_madeFirst) u
section
variable {F : Nat}
theorem x_bdB {T b : Nat} (hF : 200000 ≤ F) (hT : isTask T) (hb : isText b) (hbl : b < 440) {fs : List (List At)} {R : List (Tx × Tx)} {s : Tx} (h5 : fs.length ≤ 5) : ∀ (f i : Nat) (tx : Nat → ZText) (pg : Nat → ZProg) (le : Nat → ZLearnt) (ln : Nat → ZLine) (tk : Nat → ZTask) (bd : Nat → ZBoard) (vi : Nat → Int32) (va : Nat → Nat → Int32) (vl : Nat → Nat → Int64) (vj : Int64) (la : Option Nat) (me : Nat → Option Nat) (s0 u0 : Tx), i ≤ fs.length → fs.length - i < f → (tk T).2.2.2.2.2.1 = I (fs.length : Nat) → (∀ j, j < fs.length → prg (pg (eTask_best T j)) (gpf fs j)) → rfs tx (tk T) T R → txt (tx b) s → txt (tx aLearner_made) s0 → txt (tx aLearner_madeFirst) u0 → ∃ tx', frM tx tx' ∧ f_X3_bestDiffer_8 F f aLearner T b (I ((0 : Nat) : Int)) (I ((0 : Nat) : Int)) (I (i : Nat)) (mk (tx, pg, le, ln, tk, bd, vi, va, vl, vj, la, me)) = some (I ((dfB s R (fs.drop i)).toNat : Nat), mk ((tx'), pg, le, ln, tk, bd, vi, va, vl, vj, la, me)) := by
  have hmade : isText aLearner_made := is_Learner_made
  have hfirst : isText aLearner_madeFirst := is_Learner_madeFirst
  have hb1 : b ≠ aLearner_made := by unfold aLearner_made; omega
  have hb2 : b ≠ aLearner_madeFirst := by unfold aLearner_madeFirst; omega
  have hff : aLearner_madeFirst ≠ aLearner_made := by decide
  intro f
  induction f with
  | zero => intros; omega
  | succ f ih =>
    intro i tx pg le ln tk bd vi va vl vj la me s0 u0 hi hf hbc hpr hr hs hs0 hu0
    rw [s_X3_bestDiffer_8]
    by_cases c : i < fs.length
    · have hdr : fs.drop i = gpf fs i :: fs.drop (i + 1) := by
        have hg : gpf fs i = fs[i] := by
          unfold gpf
          rw [List.getD_eq_getElem?_getD, List.getElem?_eq_getElem c]
          rfl
        rw [hg]
        exact List.drop_eq_getElem_cons c
      obtain ⟨v, u, hv, e1⟩ := x_bears (F := F) (sc := aLearner_made) (tx := tx) (pg := pg) (le := le) (ln := ln) (tk := tk) (bd := bd) (vi := vi) (va := va) (vl := vl) (vj := vj) (la := la) (me := me) hT (is_eTask_best hT (show i < 5 by omega)) hmade (by decide) hF (hpr i c) hr hs0
      have hB : dfB s R (fs.drop i) = if fitP (gpf fs i) R = true then dfA s (mkP (gpf fs i) s) R (fs.drop (i + 1)) else dfB s R (fs.drop (i + 1)) := by
        rw [hdr]
        rfl
      cases hfit : fitP (gpf fs i) R
      · rw [hfit] at e1
        rw [hfit, if_neg (by decide)] at hB
        have e1 : f_X9_bears F T (eTask_best T i) aLearner_made (mk (tx, pg, le, ln, tk, bd, vi, va, vl, vj, la, me)) = some (I ((0 : Nat) : Int), mk ((up tx aLearner_made v), pg, le, ln, tk, bd, vi, va, vl, vj, la, me)) := e1
        obtain ⟨tx', hfr, h⟩ := ih (i + 1) (up tx aLearner_made v) pg le ln tk bd vi va vl vj la me u u0 (by omega) (by omega) hbc hpr (rfs_up hT (by decide) hr) (by rw [up_ne hb1]; exact hs) (by rw [up_same]; exact hv) (by rw [up_ne hff]; exact hu0)
        refine ⟨tx', ⟨fun a x y => (hfr.1 a x y).trans (up_ne x), hfr.2⟩, ?_⟩
        rw [hB, ← h]
        simp (disch := first | assumption | omega | exact is_Script_draft | exact is_Script_made | exact is_Learner_made | exact is_Learner_madeFirst | (apply is_eScript_tasks; omega) | (apply is_eScript_lines; omega) | (apply is_eScript_ranBy; omega)) only [↓reduceIte, ↓I_n1, obs, I_0n, l_1, l_2, l_3, l_4, l_5, l_6, l_7, l_8, l_11, l_12, l_15, l_16, l_18, l_20, l_21, l_29, l_30, l_31, l_32, l_33, l_39, l_40, l_44, l_45, l_46, l_47, l_48, l_53, l_57, l_63, l_64, l_65, l_66, l_71, l_72, l_75, l_90, l_97, l_120, l_122, l_127, l_128, l_1812, l_3600, l_4000, l_252645135, l_268435456, l_858993459, l_1431655765, I_add, I_mul, I_sub, I_addN, I_mulN, I_subN, ilt_t, ilt_f, ile_t, ile_f, ieq_t, ieq_f, up_same, up_up, I_and, I_or, I_shlN, I_shrN, I_divN, I_remN, dzI, i2cI, narI, Int.toNat_natCast, true_or, or_true, false_or, or_false, true_and, and_true, false_and, and_false, not_true_eq_false, not_false_eq_true, cLearner, gLearner_finder, gLearner_chosen, nLearner_chosen, rLearner_chosen, gLearner_tried, nLearner_tried, rLearner_tried, wLearner_tried, gLearner_made, gLearner_madeFirst, cTask, gTask_was, nTask_was, rTask_was, gTask_shown, nTask_shown, rTask_shown, gTask_lineOf, nTask_lineOf, rTask_lineOf, wTask_lineOf, gTask_examples, pTask_examples, gTask_refusedOf, nTask_refusedOf, rTask_refusedOf, gTask_refused, nTask_refused, rTask_refused, gTask_refusals, pTask_refusals, gTask_pins, nTask_pins, rTask_pins, wTask_pins, gTask_learnt, gTask_standing, pTask_standing, gTask_best, nTask_best, rTask_best, gTask_bestCount, pTask_bestCount, gTask_isBestKnown, pTask_isBestKnown, b_X3_bestDiffer_8, hbc, e1]
      · rw [hfit] at e1
        rw [hfit, if_pos rfl] at hB
        have e1 : f_X9_bears F T (eTask_best T i) aLearner_made (mk (tx, pg, le, ln, tk, bd, vi, va, vl, vj, la, me)) = some (I ((1 : Nat) : Int), mk ((up tx aLearner_made v), pg, le, ln, tk, bd, vi, va, vl, vj, la, me)) := e1
        obtain ⟨v2, u2, r, hv2, e2, hr2⟩ := x_progMakes (F := F) (tx := up tx aLearner_made v) (pg := pg) (le := le) (ln := ln) (tk := tk) (bd := bd) (vi := vi) (va := va) (vl := vl) (vj := vj) (la := la) (me := me) (is_eTask_best hT (show i < 5 by omega)) hb hfirst hb2 hF (hpr i c) (by rw [up_ne hb1]; exact hs)
        have ho : mkP (gpf fs i) s = some u2 ∧ r = 1 ∨ mkP (gpf fs i) s = none ∧ r = 0 := hr2
        obtain ⟨v3, u3, hv3, h⟩ := x_bdA (F := F) hF hT hb hbl (R := R) (fs := fs) h5 ho f (i + 1) (up (up tx aLearner_made v) aLearner_madeFirst v2) pg le ln tk bd vi va vl vj la me u (by omega) (by omega) hbc hpr (rfs_up hT (by decide) (rfs_up hT (by decide) hr)) (by rw [up_ne hb2, up_ne hb1]; exact hs) (by rw [up_ne hff.symm, up_same]; exact hv) (by rw [up_same]; exact hv2)
        refine ⟨up (up (up tx aLearner_made v) aLearner_madeFirst v2) aLearner_made v3, ⟨fun a x y => (up_ne x).trans ((up_ne y).trans (up_ne x)), ⟨u3, by rw [up_same]; exact hv3⟩, ⟨u2, by rw [up_ne hff, up_same]; exact hv2⟩⟩, ?_⟩
        rw [hB, ← h]
        simp (disch := first | assumption | omega | exact is_Script_draft | exact is_Script_made | exact is_Learner_made | exact is_Learner_madeFirst | (apply is_eScript_tasks; omega) | (apply is_eScript_lines; omega) | (apply is_eScript_ranBy; omega)) only [↓reduceIte, ↓I_n1, obs, I_0n, l_1, l_2, l_3, l_4, l_5, l_6, l_7, l_8, l_11, l_12, l_15, l_16, l_18, l_20, l_21, l_29, l_30, l_31, l_32, l_33, l_39, l_40, l_44, l_45, l_46, l_47, l_48, l_53, l_57, l_63, l_64, l_65, l_66, l_71, l_72, l_75, l_90, l_97, l_120, l_122, l_127, l_128, l_1812, l_3600, l_4000, l_252645135, l_268435456, l_858993459, l_1431655765, I_add, I_mul, I_sub, I_addN, I_mulN, I_subN, ilt_t, ilt_f, ile_t, ile_f, ieq_t, ieq_f, up_same, up_up, I_and, I_or, I_shlN, I_shrN, I_divN, I_remN, dzI, i2cI, narI, Int.toNat_natCast, true_or, or_true, false_or, or_false, true_and, and_true, false_and, and_false, not_true_eq_false, not_false_eq_true, cLearner, gLearner_finder, gLearner_chosen, nLearner_chosen, rLearner_chosen, gLearner_tried, nLearner_tried, rLearner_tried, wLearner_tried, gLearner_made, gLearner_madeFirst, cTask, gTask_was, nTask_was, rTask_was, gTask_shown, nTask_shown, rTask_shown, gTask_lineOf, nTask_lineOf, rTask_lineOf, wTask_lineOf, gTask_examples, pTask_examples, gTask_refusedOf, nTask_refusedOf, rTask_refusedOf, gTask_refused, nTask_refused, rTask_refused, gTask_refusals, pTask_refusals, gTask_pins, nTask_pins, rTask_pins, wTask_pins, gTask_learnt, gTask_standing, pTask_standing, gTask_best, nTask_best, rTask_best, gTask_bestCount, pTask_bestCount, gTask_isBestKnown, pTask_isBestKnown, b_X3_bestDiffer_8, hbc, e1, e2]
    · have : i = fs.length := by omega
      subst this
      refine ⟨tx, ⟨fun _ _ _ => rfl, ⟨s0, hs0⟩, ⟨u0, hu0⟩⟩, ?_⟩
      rw [List.drop_length]
      simp (disch := first | assumption | omega | exact is_Script_draft | exact is_Script_made | exact is_Learner_made | exact is_Learner_madeFirst | (apply is_eScript_tasks; omega) | (apply is_eScript_lines; omega) | (apply is_eScript_ranBy; omega)) only [↓reduceIte, ↓I_n1, obs, I_0n, l_1, l_2, l_3, l_4, l_5, l_6, l_7, l_8, l_11, l_12, l_15, l_16, l_18, l_20, l_21, l_29, l_30, l_31, l_32, l_33, l_39, l_40, l_44, l_45, l_46, l_47, l_48, l_53, l_57, l_63, l_64, l_65, l_66, l_71, l_72, l_75, l_90, l_97, l_120, l_122, l_127, l_128, l_1812, l_3600, l_4000, l_252645135, l_268435456, l_858993459, l_1431655765, I_add, I_mul, I_sub, I_addN, I_mulN, I_subN, ilt_t, ilt_f, ile_t, ile_f, ieq_t, ieq_f, up_same, up_up, I_and, I_or, I_shlN, I_shrN, I_divN, I_remN, dzI, i2cI, narI, Int.toNat_natCast, true_or, or_true, false_or, or_false, true_and, and_true, false_and, and_false, not_true_eq_false, not_false_eq_true, cLearner, gLearner_finder, gLearner_chosen, nLearner_chosen, rLearner_chosen, gLearner_tried, nLearner_tried, rLearner_tried, wLearner_tried, gLearner_made, gLearner_madeFirst, cTask, gTask_was, nTask_was, rTask_was, gTask_shown, nTask_shown, rTask_shown, gTask_lineOf, nTask_lineOf, rTask_lineOf, wTask_lineOf, gTask_examples, pTask_examples, gTask_refusedOf, nTask_refusedOf, rTask_refusedOf, gTask_refused, nTask_refused, rTask_refused, gTask_refusals, pTask_refusals, gTask_pins, nTask_pins, rTask_pins, wTask_pins, gTask_learnt, gTask_standing, pTask_standing, gTask_best, nTask_best, rTask_best, gTask_bestCount, pTask_bestCount, gTask_isBestKnown, pTask_isBestKnown, b_X3_bestDiffer_8, hbc]
      rfl
theorem x_bestDiffer {T b : Nat} {fs : List (List At)} {R : List (Tx × Tx)} {s s0 u0 : Tx} {tx : Nat → ZText} {pg : Nat → ZProg} {le : Nat → ZLearnt} {ln : Nat → ZLine} {tk : Nat → ZTask} {bd : Nat → ZBoard} {vi : Nat → Int32} {va : Nat → Nat → Int32} {vl : Nat → Nat → Int64} {vj : Int64} {la : Option Nat} {me : Nat → Option Nat} (hF : 200000 ≤ F) (hT : isTask T) (hb : isText b) (hbl : b < 440) (h5 : fs.length ≤ 5) (hbc : (tk T).2.2.2.2.2.1 = I (fs.length : Nat)) (hpr : ∀ j, j < fs.length → prg (pg (eTask_best T j)) (gpf fs j)) (hr : rfs tx (tk T) T R) (hs : txt (tx b) s) (hs0 : txt (tx aLearner_made) s0) (hu0 : txt (tx aLearner_madeFirst) u0) : ∃ tx', frM tx tx' ∧ f_X3_bestDiffer F aLearner T b (mk (tx, pg, le, ln, tk, bd, vi, va, vl, vj, la, me)) = some (I ((dfB s R fs).toNat : Nat), mk ((tx'), pg, le, ln, tk, bd, vi, va, vl, vj, la, me)) := by
  obtain ⟨tx', h1, h2⟩ := x_bdB (F := F) hF hT hb hbl h5 F 0 tx pg le ln tk bd vi va vl vj la me s0 u0 (Nat.zero_le _) (by omega) hbc hpr hr hs hs0 hu0
  refine ⟨tx', h1, ?_⟩
  rw [List.drop_zero] at h2
  rw [← h2]
  simp (disch := first | assumption | omega | exact is_Script_draft | exact is_Script_made | exact is_Learner_made | exact is_Learner_madeFirst | (apply is_eScript_tasks; omega) | (apply is_eScript_lines; omega) | (apply is_eScript_ranBy; omega)) only [↓reduceIte, ↓I_n1, obs, I_0n, l_1, l_2, l_3, l_4, l_5, l_6, l_7, l_8, l_11, l_12, l_15, l_16, l_18, l_20, l_21, l_29, l_30, l_31, l_32, l_33, l_39, l_40, l_44, l_45, l_46, l_47, l_48, l_53, l_57, l_63, l_64, l_65, l_66, l_71, l_72, l_75, l_90, l_97, l_120, l_122, l_127, l_128, l_1812, l_3600, l_4000, l_252645135, l_268435456, l_858993459, l_1431655765, I_add, I_mul, I_sub, I_addN, I_mulN, I_subN, ilt_t, ilt_f, ile_t, ile_f, ieq_t, ieq_f, up_same, up_up, I_and, I_or, I_shlN, I_shrN, I_divN, I_remN, dzI, i2cI, narI, Int.toNat_natCast, true_or, or_true, false_or, or_false, true_and, and_true, false_and, and_false, not_true_eq_false, not_false_eq_true, cLearner, gLearner_finder, gLearner_chosen, nLearner_chosen, rLearner_chosen, gLearner_tried, nLearner_tried, rLearner_tried, wLearner_tried, gLearner_made, gLearner_madeFirst, b_X3_bestDiffer_8, b_X3_bestDiffer_0, f_X3_bestDiffer_0, f_X3_bestDiffer]
end
