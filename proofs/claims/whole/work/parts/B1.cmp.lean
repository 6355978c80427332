/-! THE REFERENCE'S ORDER OF CONSTANTS -/
def lx : Tx → Tx → Int
  | a :: s, b :: t => if a = b then lx s t else a - b
  | _, _ => 0
def cmT (s t : Tx) : Int := if s.length = t.length then lx s t else (s.length : Int) - t.length
def sgn (x : Int) : Int := if x < 0 then -1 else if 0 < x then 1 else 0
theorem lx_neg : ∀ {s t : Tx}, lx t s = - lx s t
  | [], [] => rfl
  | [], _ :: _ => rfl
  | _ :: _, [] => rfl
  | a :: s, b :: t => by
    show (if b = a then lx t s else b - a) = - (if a = b then lx s t else a - b)
    by_cases h : a = b
    · rw [if_pos h, if_pos h.symm]
      exact lx_neg
    · rw [if_neg h, if_neg (fun q => h q.symm)]
      omega
theorem lx_zero : ∀ {s t : Tx}, s.length = t.length → lx s t = 0 → s = t
  | [], [], _, _ => rfl
  | [], _ :: _, h, _ => by cases h
  | _ :: _, [], h, _ => by cases h
  | a :: s, b :: t, h, e => by
    have e : (if a = b then lx s t else a - b) = 0 := e
    by_cases c : a = b
    · rw [if_pos c] at e
      rw [c, lx_zero (by simpa using h) e]
    · rw [if_neg c] at e
      omega
theorem lx_self : ∀ {s : Tx}, lx s s = 0
  | [] => rfl
  | a :: s => by
    show (if a = a then lx s s else a - a) = 0
    rw [if_pos rfl]
    exact lx_self
theorem lx_tr : ∀ {s t u : Tx}, s.length = t.length → t.length = u.length → lx s t < 0 → lx t u < 0 → lx s u < 0
  | [], [], [], _, _, h, _ => absurd h (by decide)
  | [], _ :: _, _, h, _, _, _ => by cases h
  | _ :: _, [], _, h, _, _, _ => by cases h
  | _ :: _, _ :: _, [], _, h, _, _ => by cases h
  | [], [], _ :: _, _, h, _, _ => by cases h
  | a :: s, b :: t, c :: u, h1, h2, h3, h4 => by
    have h3 : (if a = b then lx s t else a - b) < 0 := h3
    have h4 : (if b = c then lx t u else b - c) < 0 := h4
    show (if a = c then lx s u else a - c) < 0
    by_cases p : a = b
    · rw [if_pos p] at h3
      by_cases q : b = c
      · rw [if_pos q] at h4
        rw [if_pos (p.trans q)]
        exact lx_tr (by simpa using h1) (by simpa using h2) h3 h4
      · rw [if_neg q] at h4
        rw [if_neg (by omega)]
        omega
    · rw [if_neg p] at h3
      by_cases q : b = c
      · rw [if_neg (by omega)]
        omega
      · rw [if_neg q] at h4
        rw [if_neg (by omega)]
        omega
theorem cmT_neg {s t : Tx} : cmT t s = - cmT s t := by
  unfold cmT
  by_cases h : s.length = t.length
  · rw [if_pos h, if_pos h.symm, lx_neg]
  · rw [if_neg h, if_neg (fun q => h q.symm)]
    omega
theorem cmT_zero {s t : Tx} (h : cmT s t = 0) : s = t := by
  unfold cmT at h
  by_cases c : s.length = t.length
  · rw [if_pos c] at h
    exact lx_zero c h
  · rw [if_neg c] at h
    omega
theorem cmT_self {s : Tx} : cmT s s = 0 := by
  unfold cmT
  rw [if_pos rfl]
  exact lx_self
theorem cmT_len {s t : Tx} (h : cmT s t < 0) : s.length ≤ t.length := by
  unfold cmT at h
  by_cases c : s.length = t.length
  · omega
  · rw [if_neg c] at h
    omega
theorem cmT_tr {s t u : Tx} (h1 : cmT s t < 0) (h2 : cmT t u < 0) : cmT s u < 0 := by
  have l1 := cmT_len h1
  have l2 := cmT_len h2
  unfold cmT at *
  by_cases a : s.length = u.length
  · rw [if_pos a]
    rw [if_pos (by omega)] at h1 h2
    exact lx_tr (by omega) (by omega) h1 h2
  · rw [if_neg a]
    omega
theorem lx_bd : ∀ {s t : Tx}, okT s → okT t → -1000 < lx s t ∧ lx s t < 1000
  | [], [], _, _ => by decide
  | [], _ :: _, _, _ => ⟨by show (-1000 : Int) < 0; decide, by show (0 : Int) < 1000; decide⟩
  | _ :: _, [], _, _ => ⟨by show (-1000 : Int) < 0; decide, by show (0 : Int) < 1000; decide⟩
  | a :: s, b :: t, h1, h2 => by
    show -1000 < (if a = b then lx s t else a - b) ∧ (if a = b then lx s t else a - b) < 1000
    have ha := okS_bd (h1 a List.mem_cons_self)
    have hb := okS_bd (h2 b List.mem_cons_self)
    by_cases c : a = b
    · rw [if_pos c]
      exact lx_bd (fun x hx => h1 x (List.mem_cons_of_mem _ hx)) (fun x hx => h2 x (List.mem_cons_of_mem _ hx))
    · rw [if_neg c]
      omega
theorem okT_drop {s : Tx} {n : Nat} (h : okT s) : okT (s.drop n) := fun c hc => h c (List.mem_of_mem_drop hc)
theorem okT_take {s : Tx} {n : Nat} (h : okT s) : okT (s.take n) := fun c hc => h c (List.mem_of_mem_take hc)
/-- reading of a row that is handed over -/
def rdS (x1 K N : Nat) : Prop := ∀ (tx : Nat → ZText) (pg : Nat → ZProg) (le : Nat → ZLearnt) (ln : Nat → ZLine) (tk : Nat → ZTask) (bd : Nat → ZBoard) (vi : Nat → Int32) (va : Nat → Nat → Int32) (vl : Nat → Nat → Int64) (vj : Int64) (la : Option Nat) (me : Nat → Option Nat) (i : Int), 0 ≤ i → i < N → aI 0 (mk (tx, pg, le, ln, tk, bd, vi, va, vl, vj, la, me)) x1 (I i) = some (va K i.toNat)
section
variable {F : Nat}
theorem m_cmp52 {x : Int} {M : cM} (h0 : -100000 < x) (h1 : x < 100000) : f_X12_compares_52 F (I x) M = some (I (sgn x), M) := by
  unfold sgn
  by_cases a : x < 0
  · rw [if_pos a]
    simp (disch := first | assumption | omega | exact is_Script_draft | exact is_Script_made | exact is_Learner_made | exact is_Learner_madeFirst | (apply is_eScript_tasks; omega) | (apply is_eScript_lines; omega) | (apply is_eScript_ranBy; omega)) only [↓reduceIte, ↓I_n1, obs, I_0n, l_1, l_2, l_3, l_4, l_5, l_6, l_7, l_8, l_11, l_12, l_15, l_16, l_18, l_20, l_21, l_29, l_30, l_31, l_32, l_33, l_39, l_40, l_44, l_45, l_46, l_47, l_48, l_53, l_57, l_63, l_64, l_65, l_66, l_71, l_72, l_75, l_90, l_97, l_120, l_122, l_127, l_128, l_1812, l_3600, l_4000, l_252645135, l_268435456, l_858993459, l_1431655765, I_add, I_mul, I_sub, I_addN, I_mulN, I_subN, ilt_t, ilt_f, ile_t, ile_f, ieq_t, ieq_f, up_same, up_up, I_and, I_or, I_shlN, I_shrN, I_divN, I_remN, dzI, i2cI, narI, Int.toNat_natCast, true_or, or_true, false_or, or_false, true_and, and_true, false_and, and_false, not_true_eq_false, not_false_eq_true, f_X12_compares_52, b_X12_compares_52]
  · rw [if_neg a]
    by_cases b : 0 < x
    · rw [if_pos b]
      simp (disch := first | assumption | omega | exact is_Script_draft | exact is_Script_made | exact is_Learner_made | exact is_Learner_madeFirst | (apply is_eScript_tasks; omega) | (apply is_eScript_lines; omega) | (apply is_eScript_ranBy; omega)) only [↓reduceIte, ↓I_n1, obs, I_0n, l_1, l_2, l_3, l_4, l_5, l_6, l_7, l_8, l_11, l_12, l_15, l_16, l_18, l_20, l_21, l_29, l_30, l_31, l_32, l_33, l_39, l_40, l_44, l_45, l_46, l_47, l_48, l_53, l_57, l_63, l_64, l_65, l_66, l_71, l_72, l_75, l_90, l_97, l_120, l_122, l_127, l_128, l_1812, l_3600, l_4000, l_252645135, l_268435456, l_858993459, l_1431655765, I_add, I_mul, I_sub, I_addN, I_mulN, I_subN, ilt_t, ilt_f, ile_t, ile_f, ieq_t, ieq_f, up_same, up_up, I_and, I_or, I_shlN, I_shrN, I_divN, I_remN, dzI, i2cI, narI, Int.toNat_natCast, true_or, or_true, false_or, or_false, true_and, and_true, false_and, and_false, not_true_eq_false, not_false_eq_true, f_X12_compares_52, b_X12_compares_52]
      rfl
    · rw [if_neg b]
      simp (disch := first | assumption | omega | exact is_Script_draft | exact is_Script_made | exact is_Learner_made | exact is_Learner_madeFirst | (apply is_eScript_tasks; omega) | (apply is_eScript_lines; omega) | (apply is_eScript_ranBy; omega)) only [↓reduceIte, ↓I_n1, obs, I_0n, l_1, l_2, l_3, l_4, l_5, l_6, l_7, l_8, l_11, l_12, l_15, l_16, l_18, l_20, l_21, l_29, l_30, l_31, l_32, l_33, l_39, l_40, l_44, l_45, l_46, l_47, l_48, l_53, l_57, l_63, l_64, l_65, l_66, l_71, l_72, l_75, l_90, l_97, l_120, l_122, l_127, l_128, l_1812, l_3600, l_4000, l_252645135, l_268435456, l_858993459, l_1431655765, I_add, I_mul, I_sub, I_addN, I_mulN, I_subN, ilt_t, ilt_f, ile_t, ile_f, ieq_t, ieq_f, up_same, up_up, I_and, I_or, I_shlN, I_shrN, I_divN, I_remN, dzI, i2cI, narI, Int.toNat_natCast, true_or, or_true, false_or, or_false, true_and, and_true, false_and, and_false, not_true_eq_false, not_false_eq_true, f_X12_compares_52, b_X12_compares_52]
      rfl
theorem m_cmpE {x1 : Nat} {o n k j : Int32} {x : Int} {M : cM} {f : Nat} (h : x ≠ 0) (h0 : -100000 < x) (h1 : x < 100000) : f_X12_compares_14 F (f + 1) aModel x1 o n k (I x) j M = some (I (sgn x), M) := by
  rw [s_X12_compares_14]
  have e := m_cmp52 (F := F) (M := M) h0 h1
  unfold b_X12_compares_14
  by_cases c : n ≤ j
  · rw [if_pos c]
    exact e
  · rw [if_neg c]
    have hx : ¬ (I x = 0) := fun q => by
      have : (I x = I 0) = False := ieq_f h (by omega) (by omega) (by decide) (by decide)
      rw [I_0n] at q
      exact this ▸ q
    rw [if_neg hx]
    exact e
theorem m_cmp14 {x1 K N o k : Nat} {s t : Tx} (hr : rdS x1 K N) (hN : N ≤ 2000) (ho : o + s.length ≤ N) (hk : k < 300) (hs : okT s) (ht : okT t) (hl : s.length = t.length) (h4 : t.length ≤ 4) : ∀ (f j : Nat) (tx : Nat → ZText) (pg : Nat → ZProg) (le : Nat → ZLearnt) (ln : Nat → ZLine) (tk : Nat → ZTask) (bd : Nat → ZBoard) (vi : Nat → Int32) (va : Nat → Nat → Int32) (vl : Nat → Nat → Int64) (vj : Int64) (la : Option Nat) (me : Nat → Option Nat), j ≤ s.length → s.length - j + 1 < f → (∀ i, i < s.length → va K (o + i) = I (fa s i)) → (∀ i, i < t.length → va 610 (4 * k + i) = I (fa t i)) → f_X12_compares_14 F f aModel x1 (I (o : Nat)) (I (s.length : Nat)) (I (k : Nat)) (I ((0 : Nat) : Int)) (I (j : Nat)) (mk (tx, pg, le, ln, tk, bd, vi, va, vl, vj, la, me)) = some (I (sgn (lx (s.drop j) (t.drop j))), mk (tx, pg, le, ln, tk, bd, vi, va, vl, vj, la, me)) := by
  intro f
  induction f with
  | zero => intros; omega
  | succ f ih =>
    intro j tx pg le ln tk bd vi va vl vj la me hj hf hvs hvt
    rw [s_X12_compares_14]
    by_cases c : j < s.length
    · have e1 := hvs j c
      have e2 := hvt j (by omega)
      have e3 : aI 0 (mk (tx, pg, le, ln, tk, bd, vi, va, vl, vj, la, me)) x1 (I ((o + j : Nat) : Int)) = some (I (fa s j)) := by
        rw [hr tx pg le ln tk bd vi va vl vj la me _ (by omega) (by omega), Int.toNat_natCast, e1]
      have b1 := fa_bd hs j
      have b2 := fa_bd ht j
      rw [drop_fa c, drop_fa (show j < t.length by omega)]
      by_cases q : fa s j = fa t j
      · have hlx : lx (fa s j :: s.drop (j + 1)) (fa t j :: t.drop (j + 1)) = lx (s.drop (j + 1)) (t.drop (j + 1)) := if_pos q
        have e' := ih (j + 1) tx pg le ln tk bd vi va vl vj la me (by omega) (by omega) hvs hvt
        have hz : I (fa s j) - I (fa t j) = I ((0 : Nat) : Int) := by
          rw [I_sub, q, Int.sub_self]
          rfl
        rw [hlx, ← e']
        simp (disch := first | assumption | omega | exact is_Script_draft | exact is_Script_made | exact is_Learner_made | exact is_Learner_madeFirst | (apply is_eScript_tasks; omega) | (apply is_eScript_lines; omega) | (apply is_eScript_ranBy; omega)) only [↓reduceIte, ↓I_n1, obs, I_0n, l_1, l_2, l_3, l_4, l_5, l_6, l_7, l_8, l_11, l_12, l_15, l_16, l_18, l_20, l_21, l_29, l_30, l_31, l_32, l_33, l_39, l_40, l_44, l_45, l_46, l_47, l_48, l_53, l_57, l_63, l_64, l_65, l_66, l_71, l_72, l_75, l_90, l_97, l_120, l_122, l_127, l_128, l_1812, l_3600, l_4000, l_252645135, l_268435456, l_858993459, l_1431655765, I_add, I_mul, I_sub, I_addN, I_mulN, I_subN, ilt_t, ilt_f, ile_t, ile_f, ieq_t, ieq_f, up_same, up_up, I_and, I_or, I_shlN, I_shrN, I_divN, I_remN, dzI, i2cI, narI, Int.toNat_natCast, true_or, or_true, false_or, or_false, true_and, and_true, false_and, and_false, not_true_eq_false, not_false_eq_true, cModel, gModel_thrown, pModel_thrown, gModel_draftSize, pModel_draftSize, gModel_draft, nModel_draft, rModel_draft, wModel_draft, gModel_lines, pModel_lines, gModel_came, nModel_came, rModel_came, wModel_came, gModel_cameSize, nModel_cameSize, rModel_cameSize, wModel_cameSize, gModel_steps, nModel_steps, rModel_steps, wModel_steps, gModel_step, nModel_step, rModel_step, wModel_step, gModel_examples, nModel_examples, rModel_examples, wModel_examples, gModel_shownOn, nModel_shownOn, rModel_shownOn, wModel_shownOn, gModel_example_, nModel_example_, rModel_example_, wModel_example_, gModel_exampleSize, nModel_exampleSize, rModel_exampleSize, wModel_exampleSize, gModel_shown, nModel_shown, rModel_shown, wModel_shown, gModel_shownSize, nModel_shownSize, rModel_shownSize, wModel_shownSize, gModel_refusals, nModel_refusals, rModel_refusals, wModel_refusals, gModel_refusal, nModel_refusal, rModel_refusal, wModel_refusal, gModel_refusalSize, nModel_refusalSize, rModel_refusalSize, wModel_refusalSize, gModel_refused, nModel_refused, rModel_refused, wModel_refused, gModel_refusedSize, nModel_refusedSize, rModel_refusedSize, wModel_refusedSize, gModel_pinKind, nModel_pinKind, rModel_pinKind, wModel_pinKind, gModel_pinA, nModel_pinA, rModel_pinA, wModel_pinA, gModel_pinB, nModel_pinB, rModel_pinB, wModel_pinB, gModel_pinC, nModel_pinC, rModel_pinC, wModel_pinC, gModel_pinSign, nModel_pinSign, rModel_pinSign, wModel_pinSign, gModel_hasLearnt, nModel_hasLearnt, rModel_hasLearnt, wModel_hasLearnt, gModel_conditionOf, nModel_conditionOf, rModel_conditionOf, wModel_conditionOf, gModel_isStanding, nModel_isStanding, rModel_isStanding, wModel_isStanding, gModel_runs, pModel_runs, gModel_isUndone, nModel_isUndone, rModel_isUndone, wModel_isUndone, gModel_runCondition, nModel_runCondition, rModel_runCondition, wModel_runCondition, gModel_askedLines, pModel_askedLines, gModel_atoms, nModel_atoms, rModel_atoms, wModel_atoms, gModel_weightOf, nModel_weightOf, rModel_weightOf, wModel_weightOf, gModel_kind, nModel_kind, rModel_kind, wModel_kind, gModel_a, nModel_a, rModel_a, wModel_a, gModel_b, nModel_b, rModel_b, wModel_b, gModel_c, nModel_c, rModel_c, wModel_c, gModel_sign, nModel_sign, rModel_sign, wModel_sign, gModel_counted, pModel_counted, gModel_setState, nModel_setState, rModel_setState, wModel_setState, gModel_size, pModel_size, gModel_text, nModel_text, rModel_text, wModel_text, gModel_runsOf, nModel_runsOf, rModel_runsOf, wModel_runsOf, gModel_runAt, nModel_runAt, rModel_runAt, wModel_runAt, gModel_runEnd, nModel_runEnd, rModel_runEnd, wModel_runEnd, gModel_made, pModel_made, gModel_making, nModel_making, rModel_making, wModel_making, gModel_consts, pModel_consts, gModel_constSign, nModel_constSign, rModel_constSign, wModel_constSign, gModel_constSize, nModel_constSize, rModel_constSize, wModel_constSize, gModel_all, pModel_all, gModel_match_, nModel_match_, rModel_match_, wModel_match_, gModel_length, nModel_length, rModel_length, wModel_length, gModel_weight, nModel_weight, rModel_weight, wModel_weight, gModel_valids, pModel_valids, gModel_valid, nModel_valid, rModel_valid, wModel_valid, gModel_task, pModel_task, gModel_many, pModel_many, gModel_in_, nModel_in_, rModel_in_, wModel_in_, gModel_stride, nModel_stride, rModel_stride, wModel_stride, gModel_radix, nModel_radix, rModel_radix, wModel_radix, gModel_codes, pModel_codes, gModel_one, nModel_one, rModel_one, wModel_one, gModel_two, nModel_two, rModel_two, wModel_two, gModel_mark, nModel_mark, rModel_mark, wModel_mark, gModel_threes, pModel_threes, gModel_three, nModel_three, rModel_three, wModel_three, gModel_pinned, nModel_pinned, rModel_pinned, wModel_pinned, gModel_at_, nModel_at_, rModel_at_, wModel_at_, gModel_chosen, nModel_chosen, rModel_chosen, wModel_chosen, gModel_left, nModel_left, rModel_left, wModel_left, gModel_found, nModel_found, rModel_found, wModel_found, gModel_foundWeight, nModel_foundWeight, rModel_foundWeight, wModel_foundWeight, gModel_foundAtom, nModel_foundAtom, rModel_foundAtom, wModel_foundAtom, gModel_taken, nModel_taken, rModel_taken, wModel_taken, gModel_other, nModel_other, rModel_other, wModel_other, b_X12_compares_14, e3, e2, hz]
      · have hlx : lx (fa s j :: s.drop (j + 1)) (fa t j :: t.drop (j + 1)) = fa s j - fa t j := if_neg q
        obtain ⟨f, rfl⟩ : ∃ g, f = g + 1 := ⟨f - 1, by omega⟩
        have e' := m_cmpE (F := F) (x1 := x1) (o := I (o : Nat)) (n := I (s.length : Nat)) (k := I (k : Nat)) (j := I ((j + 1 : Nat) : Int)) (M := mk (tx, pg, le, ln, tk, bd, vi, va, vl, vj, la, me)) (f := f) (x := fa s j - fa t j) (by omega) (by omega) (by omega)
        have hz : I (fa s j) - I (fa t j) = I (fa s j - fa t j) := I_sub _ _
        rw [hlx, ← e']
        simp (disch := first | assumption | omega | exact is_Script_draft | exact is_Script_made | exact is_Learner_made | exact is_Learner_madeFirst | (apply is_eScript_tasks; omega) | (apply is_eScript_lines; omega) | (apply is_eScript_ranBy; omega)) only [↓reduceIte, ↓I_n1, obs, I_0n, l_1, l_2, l_3, l_4, l_5, l_6, l_7, l_8, l_11, l_12, l_15, l_16, l_18, l_20, l_21, l_29, l_30, l_31, l_32, l_33, l_39, l_40, l_44, l_45, l_46, l_47, l_48, l_53, l_57, l_63, l_64, l_65, l_66, l_71, l_72, l_75, l_90, l_97, l_120, l_122, l_127, l_128, l_1812, l_3600, l_4000, l_252645135, l_268435456, l_858993459, l_1431655765, I_add, I_mul, I_sub, I_addN, I_mulN, I_subN, ilt_t, ilt_f, ile_t, ile_f, ieq_t, ieq_f, up_same, up_up, I_and, I_or, I_shlN, I_shrN, I_divN, I_remN, dzI, i2cI, narI, Int.toNat_natCast, true_or, or_true, false_or, or_false, true_and, and_true, false_and, and_false, not_true_eq_false, not_false_eq_true, cModel, gModel_thrown, pModel_thrown, gModel_draftSize, pModel_draftSize, gModel_draft, nModel_draft, rModel_draft, wModel_draft, gModel_lines, pModel_lines, gModel_came, nModel_came, rModel_came, wModel_came, gModel_cameSize, nModel_cameSize, rModel_cameSize, wModel_cameSize, gModel_steps, nModel_steps, rModel_steps, wModel_steps, gModel_step, nModel_step, rModel_step, wModel_step, gModel_examples, nModel_examples, rModel_examples, wModel_examples, gModel_shownOn, nModel_shownOn, rModel_shownOn, wModel_shownOn, gModel_example_, nModel_example_, rModel_example_, wModel_example_, gModel_exampleSize, nModel_exampleSize, rModel_exampleSize, wModel_exampleSize, gModel_shown, nModel_shown, rModel_shown, wModel_shown, gModel_shownSize, nModel_shownSize, rModel_shownSize, wModel_shownSize, gModel_refusals, nModel_refusals, rModel_refusals, wModel_refusals, gModel_refusal, nModel_refusal, rModel_refusal, wModel_refusal, gModel_refusalSize, nModel_refusalSize, rModel_refusalSize, wModel_refusalSize, gModel_refused, nModel_refused, rModel_refused, wModel_refused, gModel_refusedSize, nModel_refusedSize, rModel_refusedSize, wModel_refusedSize, gModel_pinKind, nModel_pinKind, rModel_pinKind, wModel_pinKind, gModel_pinA, nModel_pinA, rModel_pinA, wModel_pinA, gModel_pinB, nModel_pinB, rModel_pinB, wModel_pinB, gModel_pinC, nModel_pinC, rModel_pinC, wModel_pinC, gModel_pinSign, nModel_pinSign, rModel_pinSign, wModel_pinSign, gModel_hasLearnt, nModel_hasLearnt, rModel_hasLearnt, wModel_hasLearnt, gModel_conditionOf, nModel_conditionOf, rModel_conditionOf, wModel_conditionOf, gModel_isStanding, nModel_isStanding, rModel_isStanding, wModel_isStanding, gModel_runs, pModel_runs, gModel_isUndone, nModel_isUndone, rModel_isUndone, wModel_isUndone, gModel_runCondition, nModel_runCondition, rModel_runCondition, wModel_runCondition, gModel_askedLines, pModel_askedLines, gModel_atoms, nModel_atoms, rModel_atoms, wModel_atoms, gModel_weightOf, nModel_weightOf, rModel_weightOf, wModel_weightOf, gModel_kind, nModel_kind, rModel_kind, wModel_kind, gModel_a, nModel_a, rModel_a, wModel_a, gModel_b, nModel_b, rModel_b, wModel_b, gModel_c, nModel_c, rModel_c, wModel_c, gModel_sign, nModel_sign, rModel_sign, wModel_sign, gModel_counted, pModel_counted, gModel_setState, nModel_setState, rModel_setState, wModel_setState, gModel_size, pModel_size, gModel_text, nModel_text, rModel_text, wModel_text, gModel_runsOf, nModel_runsOf, rModel_runsOf, wModel_runsOf, gModel_runAt, nModel_runAt, rModel_runAt, wModel_runAt, gModel_runEnd, nModel_runEnd, rModel_runEnd, wModel_runEnd, gModel_made, pModel_made, gModel_making, nModel_making, rModel_making, wModel_making, gModel_consts, pModel_consts, gModel_constSign, nModel_constSign, rModel_constSign, wModel_constSign, gModel_constSize, nModel_constSize, rModel_constSize, wModel_constSize, gModel_all, pModel_all, gModel_match_, nModel_match_, rModel_match_, wModel_match_, gModel_length, nModel_length, rModel_length, wModel_length, gModel_weight, nModel_weight, rModel_weight, wModel_weight, gModel_valids, pModel_valids, gModel_valid, nModel_valid, rModel_valid, wModel_valid, gModel_task, pModel_task, gModel_many, pModel_many, gModel_in_, nModel_in_, rModel_in_, wModel_in_, gModel_stride, nModel_stride, rModel_stride, wModel_stride, gModel_radix, nModel_radix, rModel_radix, wModel_radix, gModel_codes, pModel_codes, gModel_one, nModel_one, rModel_one, wModel_one, gModel_two, nModel_two, rModel_two, wModel_two, gModel_mark, nModel_mark, rModel_mark, wModel_mark, gModel_threes, pModel_threes, gModel_three, nModel_three, rModel_three, wModel_three, gModel_pinned, nModel_pinned, rModel_pinned, wModel_pinned, gModel_at_, nModel_at_, rModel_at_, wModel_at_, gModel_chosen, nModel_chosen, rModel_chosen, wModel_chosen, gModel_left, nModel_left, rModel_left, wModel_left, gModel_found, nModel_found, rModel_found, wModel_found, gModel_foundWeight, nModel_foundWeight, rModel_foundWeight, wModel_foundWeight, gModel_foundAtom, nModel_foundAtom, rModel_foundAtom, wModel_foundAtom, gModel_taken, nModel_taken, rModel_taken, wModel_taken, gModel_other, nModel_other, rModel_other, wModel_other, b_X12_compares_14, e3, e2, hz]
    · have : j = s.length := by omega
      subst this
      rw [List.drop_length, hl, List.drop_length]
      have e := m_cmp52 (F := F) (x := 0) (M := mk (tx, pg, le, ln, tk, bd, vi, va, vl, vj, la, me)) (by decide) (by decide)
      have e : f_X12_compares_52 F (I ((0 : Nat) : Int)) (mk (tx, pg, le, ln, tk, bd, vi, va, vl, vj, la, me)) = some (I (sgn 0), mk (tx, pg, le, ln, tk, bd, vi, va, vl, vj, la, me)) := e
      simp (disch := first | assumption | omega | exact is_Script_draft | exact is_Script_made | exact is_Learner_made | exact is_Learner_madeFirst | (apply is_eScript_tasks; omega) | (apply is_eScript_lines; omega) | (apply is_eScript_ranBy; omega)) only [↓reduceIte, ↓I_n1, obs, I_0n, l_1, l_2, l_3, l_4, l_5, l_6, l_7, l_8, l_11, l_12, l_15, l_16, l_18, l_20, l_21, l_29, l_30, l_31, l_32, l_33, l_39, l_40, l_44, l_45, l_46, l_47, l_48, l_53, l_57, l_63, l_64, l_65, l_66, l_71, l_72, l_75, l_90, l_97, l_120, l_122, l_127, l_128, l_1812, l_3600, l_4000, l_252645135, l_268435456, l_858993459, l_1431655765, I_add, I_mul, I_sub, I_addN, I_mulN, I_subN, ilt_t, ilt_f, ile_t, ile_f, ieq_t, ieq_f, up_same, up_up, I_and, I_or, I_shlN, I_shrN, I_divN, I_remN, dzI, i2cI, narI, Int.toNat_natCast, true_or, or_true, false_or, or_false, true_and, and_true, false_and, and_false, not_true_eq_false, not_false_eq_true, cModel, gModel_thrown, pModel_thrown, gModel_draftSize, pModel_draftSize, gModel_draft, nModel_draft, rModel_draft, wModel_draft, gModel_lines, pModel_lines, gModel_came, nModel_came, rModel_came, wModel_came, gModel_cameSize, nModel_cameSize, rModel_cameSize, wModel_cameSize, gModel_steps, nModel_steps, rModel_steps, wModel_steps, gModel_step, nModel_step, rModel_step, wModel_step, gModel_examples, nModel_examples, rModel_examples, wModel_examples, gModel_shownOn, nModel_shownOn, rModel_shownOn, wModel_shownOn, gModel_example_, nModel_example_, rModel_example_, wModel_example_, gModel_exampleSize, nModel_exampleSize, rModel_exampleSize, wModel_exampleSize, gModel_shown, nModel_shown, rModel_shown, wModel_shown, gModel_shownSize, nModel_shownSize, rModel_shownSize, wModel_shownSize, gModel_refusals, nModel_refusals, rModel_refusals, wModel_refusals, gModel_refusal, nModel_refusal, rModel_refusal, wModel_refusal, gModel_refusalSize, nModel_refusalSize, rModel_refusalSize, wModel_refusalSize, gModel_refused, nModel_refused, rModel_refused, wModel_refused, gModel_refusedSize, nModel_refusedSize, rModel_refusedSize, wModel_refusedSize, gModel_pinKind, nModel_pinKind, rModel_pinKind, wModel_pinKind, gModel_pinA, nModel_pinA, rModel_pinA, wModel_pinA, gModel_pinB, nModel_pinB, rModel_pinB, wModel_pinB, gModel_pinC, nModel_pinC, rModel_pinC, wModel_pinC, gModel_pinSign, nModel_pinSign, rModel_pinSign, wModel_pinSign, gModel_hasLearnt, nModel_hasLearnt, rModel_hasLearnt, wModel_hasLearnt, gModel_conditionOf, nModel_conditionOf, rModel_conditionOf, wModel_conditionOf, gModel_isStanding, nModel_isStanding, rModel_isStanding, wModel_isStanding, gModel_runs, pModel_runs, gModel_isUndone, nModel_isUndone, rModel_isUndone, wModel_isUndone, gModel_runCondition, nModel_runCondition, rModel_runCondition, wModel_runCondition, gModel_askedLines, pModel_askedLines, gModel_atoms, nModel_atoms, rModel_atoms, wModel_atoms, gModel_weightOf, nModel_weightOf, rModel_weightOf, wModel_weightOf, gModel_kind, nModel_kind, rModel_kind, wModel_kind, gModel_a, nModel_a, rModel_a, wModel_a, gModel_b, nModel_b, rModel_b, wModel_b, gModel_c, nModel_c, rModel_c, wModel_c, gModel_sign, nModel_sign, rModel_sign, wModel_sign, gModel_counted, pModel_counted, gModel_setState, nModel_setState, rModel_setState, wModel_setState, gModel_size, pModel_size, gModel_text, nModel_text, rModel_text, wModel_text, gModel_runsOf, nModel_runsOf, rModel_runsOf, wModel_runsOf, gModel_runAt, nModel_runAt, rModel_runAt, wModel_runAt, gModel_runEnd, nModel_runEnd, rModel_runEnd, wModel_runEnd, gModel_made, pModel_made, gModel_making, nModel_making, rModel_making, wModel_making, gModel_consts, pModel_consts, gModel_constSign, nModel_constSign, rModel_constSign, wModel_constSign, gModel_constSize, nModel_constSize, rModel_constSize, wModel_constSize, gModel_all, pModel_all, gModel_match_, nModel_match_, rModel_match_, wModel_match_, gModel_length, nModel_length, rModel_length, wModel_length, gModel_weight, nModel_weight, rModel_weight, wModel_weight, gModel_valids, pModel_valids, gModel_valid, nModel_valid, rModel_valid, wModel_valid, gModel_task, pModel_task, gModel_many, pModel_many, gModel_in_, nModel_in_, rModel_in_, wModel_in_, gModel_stride, nModel_stride, rModel_stride, wModel_stride, gModel_radix, nModel_radix, rModel_radix, wModel_radix, gModel_codes, pModel_codes, gModel_one, nModel_one, rModel_one, wModel_one, gModel_two, nModel_two, rModel_two, wModel_two, gModel_mark, nModel_mark, rModel_mark, wModel_mark, gModel_threes, pModel_threes, gModel_three, nModel_three, rModel_three, wModel_three, gModel_pinned, nModel_pinned, rModel_pinned, wModel_pinned, gModel_at_, nModel_at_, rModel_at_, wModel_at_, gModel_chosen, nModel_chosen, rModel_chosen, wModel_chosen, gModel_left, nModel_left, rModel_left, wModel_left, gModel_found, nModel_found, rModel_found, wModel_found, gModel_foundWeight, nModel_foundWeight, rModel_foundWeight, wModel_foundWeight, gModel_foundAtom, nModel_foundAtom, rModel_foundAtom, wModel_foundAtom, gModel_taken, nModel_taken, rModel_taken, wModel_taken, gModel_other, nModel_other, rModel_other, wModel_other, b_X12_compares_14, e]
      rfl
theorem m_compares {x1 K N o k : Nat} {s t : Tx} {tx : Nat → ZText} {pg : Nat → ZProg} {le : Nat → ZLearnt} {ln : Nat → ZLine} {tk : Nat → ZTask} {bd : Nat → ZBoard} {vi : Nat → Int32} {va : Nat → Nat → Int32} {vl : Nat → Nat → Int64} {vj : Int64} {la : Option Nat} {me : Nat → Option Nat} (hr : rdS x1 K N) (hN : N ≤ 2000) (ho : o + s.length ≤ N) (hk : k < 300) (hF : 200000 ≤ F) (hs : okT s) (ht : okT t) (h4 : s.length ≤ 20) (t4 : t.length ≤ 4) (hvs : ∀ i, i < s.length → va K (o + i) = I (fa s i)) (hz : va 611 k = I (t.length : Nat)) (hvt : ∀ i, i < t.length → va 610 (4 * k + i) = I (fa t i)) : f_X12_compares F aModel x1 (I (o : Nat)) (I (s.length : Nat)) (I (k : Nat)) (mk (tx, pg, le, ln, tk, bd, vi, va, vl, vj, la, me)) = some (I (sgn (cmT s t)), mk (tx, pg, le, ln, tk, bd, vi, va, vl, vj, la, me)) := by
  unfold cmT
  by_cases c : s.length = t.length
  · rw [if_pos c]
    have e := m_cmp14 (F := F) hr hN ho hk hs ht c t4 F 0 tx pg le ln tk bd vi va vl vj la me (Nat.zero_le _) (by omega) hvs hvt
    rw [List.drop_zero, List.drop_zero] at e
    have hz0 : I (s.length : Int) - I (t.length : Int) = I ((0 : Nat) : Int) := by
      rw [I_sub, c, Int.sub_self]
      rfl
    rw [← e]
    simp (disch := first | assumption | omega | exact is_Script_draft | exact is_Script_made | exact is_Learner_made | exact is_Learner_madeFirst | (apply is_eScript_tasks; omega) | (apply is_eScript_lines; omega) | (apply is_eScript_ranBy; omega)) only [↓reduceIte, ↓I_n1, obs, I_0n, l_1, l_2, l_3, l_4, l_5, l_6, l_7, l_8, l_11, l_12, l_15, l_16, l_18, l_20, l_21, l_29, l_30, l_31, l_32, l_33, l_39, l_40, l_44, l_45, l_46, l_47, l_48, l_53, l_57, l_63, l_64, l_65, l_66, l_71, l_72, l_75, l_90, l_97, l_120, l_122, l_127, l_128, l_1812, l_3600, l_4000, l_252645135, l_268435456, l_858993459, l_1431655765, I_add, I_mul, I_sub, I_addN, I_mulN, I_subN, ilt_t, ilt_f, ile_t, ile_f, ieq_t, ieq_f, up_same, up_up, I_and, I_or, I_shlN, I_shrN, I_divN, I_remN, dzI, i2cI, narI, Int.toNat_natCast, true_or, or_true, false_or, or_false, true_and, and_true, false_and, and_false, not_true_eq_false, not_false_eq_true, cModel, gModel_thrown, pModel_thrown, gModel_draftSize, pModel_draftSize, gModel_draft, nModel_draft, rModel_draft, wModel_draft, gModel_lines, pModel_lines, gModel_came, nModel_came, rModel_came, wModel_came, gModel_cameSize, nModel_cameSize, rModel_cameSize, wModel_cameSize, gModel_steps, nModel_steps, rModel_steps, wModel_steps, gModel_step, nModel_step, rModel_step, wModel_step, gModel_examples, nModel_examples, rModel_examples, wModel_examples, gModel_shownOn, nModel_shownOn, rModel_shownOn, wModel_shownOn, gModel_example_, nModel_example_, rModel_example_, wModel_example_, gModel_exampleSize, nModel_exampleSize, rModel_exampleSize, wModel_exampleSize, gModel_shown, nModel_shown, rModel_shown, wModel_shown, gModel_shownSize, nModel_shownSize, rModel_shownSize, wModel_shownSize, gModel_refusals, nModel_refusals, rModel_refusals, wModel_refusals, gModel_refusal, nModel_refusal, rModel_refusal, wModel_refusal, gModel_refusalSize, nModel_refusalSize, rModel_refusalSize, wModel_refusalSize, gModel_refused, nModel_refused, rModel_refused, wModel_refused, gModel_refusedSize, nModel_refusedSize, rModel_refusedSize, wModel_refusedSize, gModel_pinKind, nModel_pinKind, rModel_pinKind, wModel_pinKind, gModel_pinA, nModel_pinA, rModel_pinA, wModel_pinA, gModel_pinB, nModel_pinB, rModel_pinB, wModel_pinB, gModel_pinC, nModel_pinC, rModel_pinC, wModel_pinC, gModel_pinSign, nModel_pinSign, rModel_pinSign, wModel_pinSign, gModel_hasLearnt, nModel_hasLearnt, rModel_hasLearnt, wModel_hasLearnt, gModel_conditionOf, nModel_conditionOf, rModel_conditionOf, wModel_conditionOf, gModel_isStanding, nModel_isStanding, rModel_isStanding, wModel_isStanding, gModel_runs, pModel_runs, gModel_isUndone, nModel_isUndone, rModel_isUndone, wModel_isUndone, gModel_runCondition, nModel_runCondition, rModel_runCondition, wModel_runCondition, gModel_askedLines, pModel_askedLines, gModel_atoms, nModel_atoms, rModel_atoms, wModel_atoms, gModel_weightOf, nModel_weightOf, rModel_weightOf, wModel_weightOf, gModel_kind, nModel_kind, rModel_kind, wModel_kind, gModel_a, nModel_a, rModel_a, wModel_a, gModel_b, nModel_b, rModel_b, wModel_b, gModel_c, nModel_c, rModel_c, wModel_c, gModel_sign, nModel_sign, rModel_sign, wModel_sign, gModel_counted, pModel_counted, gModel_setState, nModel_setState, rModel_setState, wModel_setState, gModel_size, pModel_size, gModel_text, nModel_text, rModel_text, wModel_text, gModel_runsOf, nModel_runsOf, rModel_runsOf, wModel_runsOf, gModel_runAt, nModel_runAt, rModel_runAt, wModel_runAt, gModel_runEnd, nModel_runEnd, rModel_runEnd, wModel_runEnd, gModel_made, pModel_made, gModel_making, nModel_making, rModel_making, wModel_making, gModel_consts, pModel_consts, gModel_constSign, nModel_constSign, rModel_constSign, wModel_constSign, gModel_constSize, nModel_constSize, rModel_constSize, wModel_constSize, gModel_all, pModel_all, gModel_match_, nModel_match_, rModel_match_, wModel_match_, gModel_length, nModel_length, rModel_length, wModel_length, gModel_weight, nModel_weight, rModel_weight, wModel_weight, gModel_valids, pModel_valids, gModel_valid, nModel_valid, rModel_valid, wModel_valid, gModel_task, pModel_task, gModel_many, pModel_many, gModel_in_, nModel_in_, rModel_in_, wModel_in_, gModel_stride, nModel_stride, rModel_stride, wModel_stride, gModel_radix, nModel_radix, rModel_radix, wModel_radix, gModel_codes, pModel_codes, gModel_one, nModel_one, rModel_one, wModel_one, gModel_two, nModel_two, rModel_two, wModel_two, gModel_mark, nModel_mark, rModel_mark, wModel_mark, gModel_threes, pModel_threes, gModel_three, nModel_three, rModel_three, wModel_three, gModel_pinned, nModel_pinned, rModel_pinned, wModel_pinned, gModel_at_, nModel_at_, rModel_at_, wModel_at_, gModel_chosen, nModel_chosen, rModel_chosen, wModel_chosen, gModel_left, nModel_left, rModel_left, wModel_left, gModel_found, nModel_found, rModel_found, wModel_found, gModel_foundWeight, nModel_foundWeight, rModel_foundWeight, wModel_foundWeight, gModel_foundAtom, nModel_foundAtom, rModel_foundAtom, wModel_foundAtom, gModel_taken, nModel_taken, rModel_taken, wModel_taken, gModel_other, nModel_other, rModel_other, wModel_other, b_X12_compares_52, f_X12_compares_52, b_X12_compares_14, b_X12_compares_0, f_X12_compares_0, f_X12_compares, hz, hz0]
  · rw [if_neg c]
    obtain ⟨G, rfl⟩ : ∃ G, F = G + 1 := ⟨F - 1, by omega⟩
    have e := m_cmpE (F := G + 1) (x1 := x1) (o := I (o : Nat)) (n := I (s.length : Nat)) (k := I (k : Nat)) (j := I ((0 : Nat) : Int)) (M := mk (tx, pg, le, ln, tk, bd, vi, va, vl, vj, la, me)) (f := G) (x := (s.length : Int) - t.length) (by omega) (by omega) (by omega)
    have hz0 : I (s.length : Int) - I (t.length : Int) = I ((s.length : Int) - t.length) := I_sub _ _
    rw [← e]
    simp (disch := first | assumption | omega | exact is_Script_draft | exact is_Script_made | exact is_Learner_made | exact is_Learner_madeFirst | (apply is_eScript_tasks; omega) | (apply is_eScript_lines; omega) | (apply is_eScript_ranBy; omega)) only [↓reduceIte, ↓I_n1, obs, I_0n, l_1, l_2, l_3, l_4, l_5, l_6, l_7, l_8, l_11, l_12, l_15, l_16, l_18, l_20, l_21, l_29, l_30, l_31, l_32, l_33, l_39, l_40, l_44, l_45, l_46, l_47, l_48, l_53, l_57, l_63, l_64, l_65, l_66, l_71, l_72, l_75, l_90, l_97, l_120, l_122, l_127, l_128, l_1812, l_3600, l_4000, l_252645135, l_268435456, l_858993459, l_1431655765, I_add, I_mul, I_sub, I_addN, I_mulN, I_subN, ilt_t, ilt_f, ile_t, ile_f, ieq_t, ieq_f, up_same, up_up, I_and, I_or, I_shlN, I_shrN, I_divN, I_remN, dzI, i2cI, narI, Int.toNat_natCast, true_or, or_true, false_or, or_false, true_and, and_true, false_and, and_false, not_true_eq_false, not_false_eq_true, cModel, gModel_thrown, pModel_thrown, gModel_draftSize, pModel_draftSize, gModel_draft, nModel_draft, rModel_draft, wModel_draft, gModel_lines, pModel_lines, gModel_came, nModel_came, rModel_came, wModel_came, gModel_cameSize, nModel_cameSize, rModel_cameSize, wModel_cameSize, gModel_steps, nModel_steps, rModel_steps, wModel_steps, gModel_step, nModel_step, rModel_step, wModel_step, gModel_examples, nModel_examples, rModel_examples, wModel_examples, gModel_shownOn, nModel_shownOn, rModel_shownOn, wModel_shownOn, gModel_example_, nModel_example_, rModel_example_, wModel_example_, gModel_exampleSize, nModel_exampleSize, rModel_exampleSize, wModel_exampleSize, gModel_shown, nModel_shown, rModel_shown, wModel_shown, gModel_shownSize, nModel_shownSize, rModel_shownSize, wModel_shownSize, gModel_refusals, nModel_refusals, rModel_refusals, wModel_refusals, gModel_refusal, nModel_refusal, rModel_refusal, wModel_refusal, gModel_refusalSize, nModel_refusalSize, rModel_refusalSize, wModel_refusalSize, gModel_refused, nModel_refused, rModel_refused, wModel_refused, gModel_refusedSize, nModel_refusedSize, rModel_refusedSize, wModel_refusedSize, gModel_pinKind, nModel_pinKind, rModel_pinKind, wModel_pinKind, gModel_pinA, nModel_pinA, rModel_pinA, wModel_pinA, gModel_pinB, nModel_pinB, rModel_pinB, wModel_pinB, gModel_pinC, nModel_pinC, rModel_pinC, wModel_pinC, gModel_pinSign, nModel_pinSign, rModel_pinSign, wModel_pinSign, gModel_hasLearnt, nModel_hasLearnt, rModel_hasLearnt, wModel_hasLearnt, gModel_conditionOf, nModel_conditionOf, rModel_conditionOf, wModel_conditionOf, gModel_isStanding, nModel_isStanding, rModel_isStanding, wModel_isStanding, gModel_runs, pModel_runs, gModel_isUndone, nModel_isUndone, rModel_isUndone, wModel_isUndone, gModel_runCondition, nModel_runCondition, rModel_runCondition, wModel_runCondition, gModel_askedLines, pModel_askedLines, gModel_atoms, nModel_atoms, rModel_atoms, wModel_atoms, gModel_weightOf, nModel_weightOf, rModel_weightOf, wModel_weightOf, gModel_kind, nModel_kind, rModel_kind, wModel_kind, gModel_a, nModel_a, rModel_a, wModel_a, gModel_b, nModel_b, rModel_b, wModel_b, gModel_c, nModel_c, rModel_c, wModel_c, gModel_sign, nModel_sign, rModel_sign, wModel_sign, gModel_counted, pModel_counted, gModel_setState, nModel_setState, rModel_setState, wModel_setState, gModel_size, pModel_size, gModel_text, nModel_text, rModel_text, wModel_text, gModel_runsOf, nModel_runsOf, rModel_runsOf, wModel_runsOf, gModel_runAt, nModel_runAt, rModel_runAt, wModel_runAt, gModel_runEnd, nModel_runEnd, rModel_runEnd, wModel_runEnd, gModel_made, pModel_made, gModel_making, nModel_making, rModel_making, wModel_making, gModel_consts, pModel_consts, gModel_constSign, nModel_constSign, rModel_constSign, wModel_constSign, gModel_constSize, nModel_constSize, rModel_constSize, wModel_constSize, gModel_all, pModel_all, gModel_match_, nModel_match_, rModel_match_, wModel_match_, gModel_length, nModel_length, rModel_length, wModel_length, gModel_weight, nModel_weight, rModel_weight, wModel_weight, gModel_valids, pModel_valids, gModel_valid, nModel_valid, rModel_valid, wModel_valid, gModel_task, pModel_task, gModel_many, pModel_many, gModel_in_, nModel_in_, rModel_in_, wModel_in_, gModel_stride, nModel_stride, rModel_stride, wModel_stride, gModel_radix, nModel_radix, rModel_radix, wModel_radix, gModel_codes, pModel_codes, gModel_one, nModel_one, rModel_one, wModel_one, gModel_two, nModel_two, rModel_two, wModel_two, gModel_mark, nModel_mark, rModel_mark, wModel_mark, gModel_threes, pModel_threes, gModel_three, nModel_three, rModel_three, wModel_three, gModel_pinned, nModel_pinned, rModel_pinned, wModel_pinned, gModel_at_, nModel_at_, rModel_at_, wModel_at_, gModel_chosen, nModel_chosen, rModel_chosen, wModel_chosen, gModel_left, nModel_left, rModel_left, wModel_left, gModel_found, nModel_found, rModel_found, wModel_found, gModel_foundWeight, nModel_foundWeight, rModel_foundWeight, wModel_foundWeight, gModel_foundAtom, nModel_foundAtom, rModel_foundAtom, wModel_foundAtom, gModel_taken, nModel_taken, rModel_taken, wModel_taken, gModel_other, nModel_other, rModel_other, wModel_other, f_X12_compares, f_X12_compares_0, b_X12_compares_0, hz, hz0]
end
