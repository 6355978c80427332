/-! THE SEARCH -/
def kOld (vl : Nat → Nat → Int64) (S : Nat) : Prop := ∀ z, z < 2048 → ∃ x, vl 516 z = Lg x ∧ x < (S + 1) * 2139291
theorem kOld_of {vl : Nat → Nat → Int64} {iP : Bool} {P : Nat → Option At} {ms : List (Tx × Tx)} {S : Nat} (h : mOK vl iP P ms S) : kOld vl S := fun z hz => by
  obtain ⟨x, h1, h2, -⟩ := h z hz
  exact ⟨x, h1, h2⟩
theorem mOK_of {vl : Nat → Nat → Int64} {iP : Bool} {P : Nat → Option At} {ms : List (Tx × Tx)} {S : Nat} (hM : okM ms) (h : kOld vl S) : mOK vl iP P ms (S + 1) := fun z hz => by
  obtain ⟨x, h1, h2⟩ := h z hz
  have hx2 : x < (S + 1 + 1) * 2139291 := Nat.lt_of_lt_of_le h2 (Nat.mul_le_mul_right _ (Nat.le_succ _))
  refine ⟨x, h1, hx2, fun s q ps a1 a2 a3 a4 => ?_⟩
  have := keyN_bd (S := S + 1) (lay_lt iP s (by omega) q (by omega)) (fun i hi => by
    have := (gm_ok hM hi).2.2.2
    have := a3.2 i hi
    show gn ps i ≤ 20
    omega)
  exact absurd (Nat.lt_of_lt_of_le h2 this.1) (by rw [← a4]; exact Nat.lt_irrefl _)
theorem zers_ok {ms : List (Tx × Tx)} : psOk ms (zers ms) ∧ ∀ i, i < ms.length → gn (zers ms) i = 0 := by
  have h : ∀ i, i < ms.length → gn (zers ms) i = 0 := fun i hi => by
    unfold gn zers
    rw [List.getD_eq_getElem?_getD, List.getElem?_map, List.getElem?_eq_getElem hi]
    rfl
  refine ⟨⟨by unfold zers; rw [List.length_map], fun i hi => by rw [h i hi]; exact Nat.zero_le _⟩, h⟩
/-- all that count with a weight, from a length on; and from a weight on -/
def gN (P : Nat → Option At) (ms : List (Tx × Tx)) (w x : Nat) : List (List At) := (List.range' x (5 - x)).flatMap fun n => comps P ms n 0 (w : Nat) (zers ms)
def gW (P : Nat → Option At) (ms : List (Tx × Tx)) (w : Nat) : List (List At) := (List.range' w (65 - w)).flatMap fun w => gN P ms w 1
theorem best_eq {P : Nat → Option At} {ms : List (Tx × Tx)} : best P ms = (gW P ms 4).take 5 := by
  unfold best
  rw [List.map_take]
  congr 1
  unfold allG gW gN
  rw [List.map_flatMap]
  refine flatMap_congr' fun w _ => ?_
  rw [List.map_flatMap]
  refine flatMap_congr' fun n _ => ?_
  rw [List.map_map]
  exact List.map_id' _
section
variable {F : Nat}
theorem x_fi77 {K : Nat → Int32 → cM → Option cM} {A : Nat → Nat} {P : Nat → Option At} {iP : Bool} {ms : List (Tx × Tx)} {S w : Nat} (hF : 200000 ≤ F) (hw : w ≤ 64) : ∀ (f x : Nat) (fs : List (List At)) (tx : Nat → ZText) (pg : Nat → ZProg) (le : Nat → ZLearnt) (ln : Nat → ZLine) (tk : Nat → ZTask) (bd : Nat → ZBoard) (vi : Nat → Int32) (va : Nat → Nat → Int32) (vl : Nat → Nat → Int64) (vj : Int64) (la : Option Nat) (me : Nat → Option Nat), 1 ≤ x → x ≤ 5 → 5 - x < f → EI tx bd vi va vl vj me A P iP ms S → atR va ms 0 (zers ms) → fnd pg vi fs → ∃ pg' vi' va' vl', f_X2_find_77 F K f aFinder (I (w : Nat)) (I (x : Nat)) (mk (tx, pg, le, ln, tk, bd, vi, va, vl, vj, la, me)) = K aFinder (I ((w + 1 : Nat) : Int)) (mk (tx, (pg'), le, ln, tk, bd, (vi'), (va'), (vl'), vj, la, me)) ∧ frw 0 pg pg' vi vi' va va' vl vl' ∧ EI tx bd vi' va' vl' vj me A P iP ms S ∧ fnd pg' vi' ((fs ++ gN P ms w x).take 5) := by
  intro f
  induction f with
  | zero => intros; omega
  | succ f ih =>
    intro x fs tx pg le ln tk bd vi va vl vj la me h1 h5 hf hE hat hfd
    obtain ⟨d1, d2, d3⟩ := id hfd
    have m3 := hE.1.1.1.2.2.1
    rw [s_X2_find_77]
    by_cases c : x ≤ 4
    · by_cases c5 : 5 ≤ fs.length
      · refine ⟨pg, vi, va, vl, ?_, frw_refl, hE, ?_⟩
        · simp (disch := first | assumption | omega | exact is_Script_draft | exact is_Script_made | exact is_Learner_made | exact is_Learner_madeFirst | (apply is_eScript_tasks; omega) | (apply is_eScript_lines; omega) | (apply is_eScript_ranBy; omega)) only [↓reduceIte, ↓I_n1, obs, I_0n, l_1, l_2, l_3, l_4, l_5, l_6, l_7, l_8, l_11, l_12, l_15, l_16, l_18, l_20, l_21, l_29, l_30, l_31, l_32, l_33, l_39, l_40, l_44, l_45, l_46, l_47, l_48, l_53, l_57, l_63, l_64, l_65, l_66, l_71, l_72, l_75, l_90, l_97, l_120, l_122, l_127, l_128, l_1812, l_3600, l_4000, l_252645135, l_268435456, l_858993459, l_1431655765, I_add, I_mul, I_sub, I_addN, I_mulN, I_subN, ilt_t, ilt_f, ile_t, ile_f, ieq_t, ieq_f, up_same, up_up, I_and, I_or, I_shlN, I_shrN, I_divN, I_remN, dzI, i2cI, narI, Int.toNat_natCast, true_or, or_true, false_or, or_false, true_and, and_true, false_and, and_false, not_true_eq_false, not_false_eq_true, cFinder, gFinder_found, nFinder_found, rFinder_found, gFinder_foundCount, pFinder_foundCount, gFinder_stock, gFinder_lookedAt, pFinder_lookedAt, gFinder_boardCount, pFinder_boardCount, gFinder_pins, nFinder_pins, rFinder_pins, wFinder_pins, gFinder_pinIndexes, nFinder_pinIndexes, rFinder_pinIndexes, wFinder_pinIndexes, gFinder_isPinned, pFinder_isPinned, gFinder_ways, nFinder_ways, rFinder_ways, wFinder_ways, gFinder_knownKeys, nFinder_knownKeys, rFinder_knownKeys, wFinder_knownKeys, gFinder_knownEndings, nFinder_knownEndings, rFinder_knownEndings, wFinder_knownEndings, gFinder_searches, pFinder_searches, gFinder_at_, nFinder_at_, rFinder_at_, wFinder_at_, gFinder_row, nFinder_row, rFinder_row, wFinder_row, b_X2_find_77, d1]
        · rw [tk_full c5 d2]
          exact hfd
      obtain ⟨pg1, vi1, va1, vl1, i1, i2, i3, i4⟩ := x_walk (F := F) (A := A) (P := P) (iP := iP) (ms := ms) (S := S) hF 8 x 0 (Nat.zero_le _) c (by omega) tx pg le ln tk bd vi va vl vj la me (zers ms) [] fs (w : Nat) hE zers_ok.1 hat rfl ⟨fun y hy => (by cases hy), fun j hj => absurd hj (Nat.not_lt_zero _)⟩ hfd (by omega)
      obtain ⟨pg2, vi2, va2, vl2, k1, k2, k3, k4⟩ := ih (x + 1) _ tx (pg1) le ln tk bd (vi1) (va1) (vl1) vj la me (by omega) (by omega) (by omega) i3 (atR_frw m3 (Nat.le_refl _) i2 hat) i4
      refine ⟨pg2, vi2, va2, vl2, ?_, frw_trans i2 k2, k3, ?_⟩
      · rw [← k1]
        have i1 : r_X2_walk F 8 aFinder (I (x : Nat)) (I ((0 : Nat) : Int)) (I (w : Nat)) (mk (tx, pg, le, ln, tk, bd, vi, va, vl, vj, la, me)) = _ := i1
        simp (disch := first | assumption | omega | exact is_Script_draft | exact is_Script_made | exact is_Learner_made | exact is_Learner_madeFirst | (apply is_eScript_tasks; omega) | (apply is_eScript_lines; omega) | (apply is_eScript_ranBy; omega)) only [↓reduceIte, ↓I_n1, obs, I_0n, l_1, l_2, l_3, l_4, l_5, l_6, l_7, l_8, l_11, l_12, l_15, l_16, l_18, l_20, l_21, l_29, l_30, l_31, l_32, l_33, l_39, l_40, l_44, l_45, l_46, l_47, l_48, l_53, l_57, l_63, l_64, l_65, l_66, l_71, l_72, l_75, l_90, l_97, l_120, l_122, l_127, l_128, l_1812, l_3600, l_4000, l_252645135, l_268435456, l_858993459, l_1431655765, I_add, I_mul, I_sub, I_addN, I_mulN, I_subN, ilt_t, ilt_f, ile_t, ile_f, ieq_t, ieq_f, up_same, up_up, I_and, I_or, I_shlN, I_shrN, I_divN, I_remN, dzI, i2cI, narI, Int.toNat_natCast, true_or, or_true, false_or, or_false, true_and, and_true, false_and, and_false, not_true_eq_false, not_false_eq_true, cFinder, gFinder_found, nFinder_found, rFinder_found, gFinder_foundCount, pFinder_foundCount, gFinder_stock, gFinder_lookedAt, pFinder_lookedAt, gFinder_boardCount, pFinder_boardCount, gFinder_pins, nFinder_pins, rFinder_pins, wFinder_pins, gFinder_pinIndexes, nFinder_pinIndexes, rFinder_pinIndexes, wFinder_pinIndexes, gFinder_isPinned, pFinder_isPinned, gFinder_ways, nFinder_ways, rFinder_ways, wFinder_ways, gFinder_knownKeys, nFinder_knownKeys, rFinder_knownKeys, wFinder_knownKeys, gFinder_knownEndings, nFinder_knownEndings, rFinder_knownEndings, wFinder_knownEndings, gFinder_searches, pFinder_searches, gFinder_at_, nFinder_at_, rFinder_at_, wFinder_at_, gFinder_row, nFinder_row, rFinder_row, wFinder_row, b_X2_find_77, d1, i1]
      · rw [tk_tk] at k4
        have e : gN P ms w x = (comps P ms (x - 0) 0 (w : Nat) (zers ms)).map (([] : List At) ++ ·) ++ gN P ms w (x + 1) := by
          unfold gN
          rw [show 5 - x = (5 - (x + 1)) + 1 by omega, List.range'_succ, List.flatMap_cons, Nat.sub_zero]
          congr 1
          exact (List.map_id' _).symm
        rw [e]
        exact k4
    · have : x = 5 := by omega
      subst this
      refine ⟨pg, vi, va, vl, ?_, frw_refl, hE, ?_⟩
      · simp (disch := first | assumption | omega | exact is_Script_draft | exact is_Script_made | exact is_Learner_made | exact is_Learner_madeFirst | (apply is_eScript_tasks; omega) | (apply is_eScript_lines; omega) | (apply is_eScript_ranBy; omega)) only [↓reduceIte, ↓I_n1, obs, I_0n, l_1, l_2, l_3, l_4, l_5, l_6, l_7, l_8, l_11, l_12, l_15, l_16, l_18, l_20, l_21, l_29, l_30, l_31, l_32, l_33, l_39, l_40, l_44, l_45, l_46, l_47, l_48, l_53, l_57, l_63, l_64, l_65, l_66, l_71, l_72, l_75, l_90, l_97, l_120, l_122, l_127, l_128, l_1812, l_3600, l_4000, l_252645135, l_268435456, l_858993459, l_1431655765, I_add, I_mul, I_sub, I_addN, I_mulN, I_subN, ilt_t, ilt_f, ile_t, ile_f, ieq_t, ieq_f, up_same, up_up, I_and, I_or, I_shlN, I_shrN, I_divN, I_remN, dzI, i2cI, narI, Int.toNat_natCast, true_or, or_true, false_or, or_false, true_and, and_true, false_and, and_false, not_true_eq_false, not_false_eq_true, cFinder, gFinder_found, nFinder_found, rFinder_found, gFinder_foundCount, pFinder_foundCount, gFinder_stock, gFinder_lookedAt, pFinder_lookedAt, gFinder_boardCount, pFinder_boardCount, gFinder_pins, nFinder_pins, rFinder_pins, wFinder_pins, gFinder_pinIndexes, nFinder_pinIndexes, rFinder_pinIndexes, wFinder_pinIndexes, gFinder_isPinned, pFinder_isPinned, gFinder_ways, nFinder_ways, rFinder_ways, wFinder_ways, gFinder_knownKeys, nFinder_knownKeys, rFinder_knownKeys, wFinder_knownKeys, gFinder_knownEndings, nFinder_knownEndings, rFinder_knownEndings, wFinder_knownEndings, gFinder_searches, pFinder_searches, gFinder_at_, nFinder_at_, rFinder_at_, wFinder_at_, gFinder_row, nFinder_row, rFinder_row, wFinder_row, b_X2_find_77]
      · show fnd pg vi ((fs ++ []).take 5)
        rw [tk_nil d2]
        exact hfd
theorem x_fi61 {A : Nat → Nat} {P : Nat → Option At} {iP : Bool} {ms : List (Tx × Tx)} {S : Nat} (hF : 200000 ≤ F) : ∀ (f w : Nat) (fs : List (List At)) (tx : Nat → ZText) (pg : Nat → ZProg) (le : Nat → ZLearnt) (ln : Nat → ZLine) (tk : Nat → ZTask) (bd : Nat → ZBoard) (vi : Nat → Int32) (va : Nat → Nat → Int32) (vl : Nat → Nat → Int64) (vj : Int64) (la : Option Nat) (me : Nat → Option Nat), w ≤ 65 → 65 - w < f → EI tx bd vi va vl vj me A P iP ms S → atR va ms 0 (zers ms) → fnd pg vi fs → ∃ pg' vi' va' vl', f_X2_find_61 F f aFinder (I (w : Nat)) (mk (tx, pg, le, ln, tk, bd, vi, va, vl, vj, la, me)) = some (mk (tx, (pg'), le, ln, tk, bd, (vi'), (va'), (vl'), vj, la, me)) ∧ frw 0 pg pg' vi vi' va va' vl vl' ∧ EI tx bd vi' va' vl' vj me A P iP ms S ∧ fnd pg' vi' ((fs ++ gW P ms w).take 5) := by
  intro f
  induction f with
  | zero => intros; omega
  | succ f ih =>
    intro w fs tx pg le ln tk bd vi va vl vj la me hw hf hE hat hfd
    obtain ⟨d1, d2, d3⟩ := id hfd
    have m3 := hE.1.1.1.2.2.1
    rw [s_X2_find_61]
    by_cases c : w ≤ 64
    · by_cases c5 : 5 ≤ fs.length
      · refine ⟨pg, vi, va, vl, ?_, frw_refl, hE, ?_⟩
        · simp (disch := first | assumption | omega | exact is_Script_draft | exact is_Script_made | exact is_Learner_made | exact is_Learner_madeFirst | (apply is_eScript_tasks; omega) | (apply is_eScript_lines; omega) | (apply is_eScript_ranBy; omega)) only [↓reduceIte, ↓I_n1, obs, I_0n, l_1, l_2, l_3, l_4, l_5, l_6, l_7, l_8, l_11, l_12, l_15, l_16, l_18, l_20, l_21, l_29, l_30, l_31, l_32, l_33, l_39, l_40, l_44, l_45, l_46, l_47, l_48, l_53, l_57, l_63, l_64, l_65, l_66, l_71, l_72, l_75, l_90, l_97, l_120, l_122, l_127, l_128, l_1812, l_3600, l_4000, l_252645135, l_268435456, l_858993459, l_1431655765, I_add, I_mul, I_sub, I_addN, I_mulN, I_subN, ilt_t, ilt_f, ile_t, ile_f, ieq_t, ieq_f, up_same, up_up, I_and, I_or, I_shlN, I_shrN, I_divN, I_remN, dzI, i2cI, narI, Int.toNat_natCast, true_or, or_true, false_or, or_false, true_and, and_true, false_and, and_false, not_true_eq_false, not_false_eq_true, cFinder, gFinder_found, nFinder_found, rFinder_found, gFinder_foundCount, pFinder_foundCount, gFinder_stock, gFinder_lookedAt, pFinder_lookedAt, gFinder_boardCount, pFinder_boardCount, gFinder_pins, nFinder_pins, rFinder_pins, wFinder_pins, gFinder_pinIndexes, nFinder_pinIndexes, rFinder_pinIndexes, wFinder_pinIndexes, gFinder_isPinned, pFinder_isPinned, gFinder_ways, nFinder_ways, rFinder_ways, wFinder_ways, gFinder_knownKeys, nFinder_knownKeys, rFinder_knownKeys, wFinder_knownKeys, gFinder_knownEndings, nFinder_knownEndings, rFinder_knownEndings, wFinder_knownEndings, gFinder_searches, pFinder_searches, gFinder_at_, nFinder_at_, rFinder_at_, wFinder_at_, gFinder_row, nFinder_row, rFinder_row, wFinder_row, b_X2_find_61, d1]
        · rw [tk_full c5 d2]
          exact hfd
      obtain ⟨pg1, vi1, va1, vl1, i1, i2, i3, i4⟩ := x_fi77 (F := F) (K := f_X2_find_61 F f) hF c F 1 fs tx pg le ln tk bd vi va vl vj la me (Nat.le_refl _) (by omega) (by omega) hE hat hfd
      obtain ⟨pg2, vi2, va2, vl2, k1, k2, k3, k4⟩ := ih (w + 1) _ tx (pg1) le ln tk bd (vi1) (va1) (vl1) vj la me (by omega) (by omega) i3 (atR_frw m3 (Nat.le_refl _) i2 hat) i4
      refine ⟨pg2, vi2, va2, vl2, ?_, frw_trans i2 k2, k3, ?_⟩
      · rw [← k1, ← i1]
        simp (disch := first | assumption | omega | exact is_Script_draft | exact is_Script_made | exact is_Learner_made | exact is_Learner_madeFirst | (apply is_eScript_tasks; omega) | (apply is_eScript_lines; omega) | (apply is_eScript_ranBy; omega)) only [↓reduceIte, ↓I_n1, obs, I_0n, l_1, l_2, l_3, l_4, l_5, l_6, l_7, l_8, l_11, l_12, l_15, l_16, l_18, l_20, l_21, l_29, l_30, l_31, l_32, l_33, l_39, l_40, l_44, l_45, l_46, l_47, l_48, l_53, l_57, l_63, l_64, l_65, l_66, l_71, l_72, l_75, l_90, l_97, l_120, l_122, l_127, l_128, l_1812, l_3600, l_4000, l_252645135, l_268435456, l_858993459, l_1431655765, I_add, I_mul, I_sub, I_addN, I_mulN, I_subN, ilt_t, ilt_f, ile_t, ile_f, ieq_t, ieq_f, up_same, up_up, I_and, I_or, I_shlN, I_shrN, I_divN, I_remN, dzI, i2cI, narI, Int.toNat_natCast, true_or, or_true, false_or, or_false, true_and, and_true, false_and, and_false, not_true_eq_false, not_false_eq_true, cFinder, gFinder_found, nFinder_found, rFinder_found, gFinder_foundCount, pFinder_foundCount, gFinder_stock, gFinder_lookedAt, pFinder_lookedAt, gFinder_boardCount, pFinder_boardCount, gFinder_pins, nFinder_pins, rFinder_pins, wFinder_pins, gFinder_pinIndexes, nFinder_pinIndexes, rFinder_pinIndexes, wFinder_pinIndexes, gFinder_isPinned, pFinder_isPinned, gFinder_ways, nFinder_ways, rFinder_ways, wFinder_ways, gFinder_knownKeys, nFinder_knownKeys, rFinder_knownKeys, wFinder_knownKeys, gFinder_knownEndings, nFinder_knownEndings, rFinder_knownEndings, wFinder_knownEndings, gFinder_searches, pFinder_searches, gFinder_at_, nFinder_at_, rFinder_at_, wFinder_at_, gFinder_row, nFinder_row, rFinder_row, wFinder_row, b_X2_find_61, d1]
      · rw [tk_tk] at k4
        have e : gW P ms w = gN P ms w 1 ++ gW P ms (w + 1) := by
          unfold gW
          rw [show 65 - w = (65 - (w + 1)) + 1 by omega, List.range'_succ, List.flatMap_cons]
        rw [e]
        exact k4
    · have : w = 65 := by omega
      subst this
      refine ⟨pg, vi, va, vl, ?_, frw_refl, hE, ?_⟩
      · simp (disch := first | assumption | omega | exact is_Script_draft | exact is_Script_made | exact is_Learner_made | exact is_Learner_madeFirst | (apply is_eScript_tasks; omega) | (apply is_eScript_lines; omega) | (apply is_eScript_ranBy; omega)) only [↓reduceIte, ↓I_n1, obs, I_0n, l_1, l_2, l_3, l_4, l_5, l_6, l_7, l_8, l_11, l_12, l_15, l_16, l_18, l_20, l_21, l_29, l_30, l_31, l_32, l_33, l_39, l_40, l_44, l_45, l_46, l_47, l_48, l_53, l_57, l_63, l_64, l_65, l_66, l_71, l_72, l_75, l_90, l_97, l_120, l_122, l_127, l_128, l_1812, l_3600, l_4000, l_252645135, l_268435456, l_858993459, l_1431655765, I_add, I_mul, I_sub, I_addN, I_mulN, I_subN, ilt_t, ilt_f, ile_t, ile_f, ieq_t, ieq_f, up_same, up_up, I_and, I_or, I_shlN, I_shrN, I_divN, I_remN, dzI, i2cI, narI, Int.toNat_natCast, true_or, or_true, false_or, or_false, true_and, and_true, false_and, and_false, not_true_eq_false, not_false_eq_true, cFinder, gFinder_found, nFinder_found, rFinder_found, gFinder_foundCount, pFinder_foundCount, gFinder_stock, gFinder_lookedAt, pFinder_lookedAt, gFinder_boardCount, pFinder_boardCount, gFinder_pins, nFinder_pins, rFinder_pins, wFinder_pins, gFinder_pinIndexes, nFinder_pinIndexes, rFinder_pinIndexes, wFinder_pinIndexes, gFinder_isPinned, pFinder_isPinned, gFinder_ways, nFinder_ways, rFinder_ways, wFinder_ways, gFinder_knownKeys, nFinder_knownKeys, rFinder_knownKeys, wFinder_knownKeys, gFinder_knownEndings, nFinder_knownEndings, rFinder_knownEndings, wFinder_knownEndings, gFinder_searches, pFinder_searches, gFinder_at_, nFinder_at_, rFinder_at_, wFinder_at_, gFinder_row, nFinder_row, rFinder_row, wFinder_row, b_X2_find_61]
      · show fnd pg vi ((fs ++ []).take 5)
        rw [tk_nil d2]
        exact hfd
end
