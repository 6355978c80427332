/-! CALLS OF THE REFERENCE, WHERE A TASK HAS NO EXAMPLES AND HAS LEARNT NOTHING -/
section
variable {F : Nat} {tx : Nat → ZText} {pg : Nat → ZProg} {le : Nat → ZLearnt} {ln : Nat → ZLine} {tk : Nat → ZTask} {bd : Nat → ZBoard} {vi : Nat → Int32} {va : Nat → Nat → Int32} {vl : Nat → Nat → Int64} {vj : Int64} {la : Option Nat} {me : Nat → Option Nat}
theorem m0_countsAll {t : Int} (t0 : 0 ≤ t) (t1 : t < 3) (hx : ∀ k : Nat, k < 3 → va 576 k = I 0) : f_X12_countsAll F aModel (I t) (mk (tx, pg, le, ln, tk, bd, vi, va, vl, vj, la, me)) = some (mk (tx, pg, le, ln, tk, bd, (up vi 1038 (I 0)), va, vl, vj, la, me)) := by
  simp only [f_X12_countsAll, cModel, if_true]
  unfold f_X12_countsAll_0 b_X12_countsAll_0
  rw [pModel_counted, Option.bind_some, gModel_examples, Option.bind_some, rModel_examples t0 t1, Option.bind_some, hx _ (by omega), if_pos (by decide)]
  rfl
theorem m0_count {t : Int} (t0 : -2147483648 ≤ t) (t1 : t < 2147483648) (hx : ∀ k : Nat, k < 3 → va 576 k = I 0) : ∃ vi', vi' 1000 = I (if 0 ≤ t ∧ t < 3 then 0 else 1) ∧ f_X12_count F aModel (I t) (mk (tx, pg, le, ln, tk, bd, vi, va, vl, vj, la, me)) = some (I 0, mk (tx, pg, le, ln, tk, bd, (vi'), va, vl, vj, la, me)) := by
  simp only [f_X12_count, cModel, if_true]
  unfold f_X12_count_0 b_X12_count_0
  rw [m_isTask t0 t1, Option.bind_some]
  by_cases h : 0 ≤ t ∧ t < 3
  · refine ⟨up (up vi 1000 (I 0)) 1038 (I 0), by rw [up_ne (by decide), up_same, if_pos h], ?_⟩
    rw [if_pos h, if_neg I10']
    unfold f_X12_count_13 b_X12_count_13
    rw [show (0 : Int32) = I 0 from rfl, pModel_thrown, Option.bind_some, gModel_thrown, Option.bind_some, up_same, if_pos (by decide), m0_countsAll h.1 h.2 hx, Option.bind_some, gModel_counted, Option.bind_some, up_same]
  · refine ⟨up vi 1000 (I 1), by rw [up_same, if_neg h], ?_⟩
    rw [if_neg h, if_pos I00]
    exact me_count (er := 1) (Or.inl rfl)
theorem m0_weight {t w : Int} (t0 : -2147483648 ≤ t) (t1 : t < 2147483648) (w0 : -2147483648 ≤ w) (w1 : w < 2147483648) (hx : ∀ k : Nat, k < 3 → va 576 k = I 0) : ∃ vi', vi' 1000 = I 1 ∧ f_X12_weight F aModel (I t) (I w) (mk (tx, pg, le, ln, tk, bd, vi, va, vl, vj, la, me)) = some (0, mk (tx, pg, le, ln, tk, bd, (vi'), va, vl, vj, la, me)) := by
  simp only [f_X12_weight, cModel, if_true]
  unfold f_X12_weight_0 b_X12_weight_0
  rw [m_isTask t0 t1, Option.bind_some]
  have e0 : (I w < 0) = (w < 0) := I_lt (b := 0) w0 w1 (by decide) (by decide)
  by_cases h : 0 ≤ t ∧ t < 3
  · rw [if_pos h, if_neg I10']
    by_cases hw : w < 0
    · refine ⟨up vi 1000 (I 1), by rw [up_same], ?_⟩
      rw [if_pos (e0 ▸ hw)]
      exact me_weight (er := 1) (Or.inl rfl)
    · refine ⟨up (up (up vi 1000 (I 0)) 1038 (I 0)) 1000 (I 1), by rw [up_same], ?_⟩
      rw [if_neg (e0 ▸ hw)]
      unfold f_X12_weight_17 b_X12_weight_17
      have e1 : (I 0 ≤ I w) = ((0 : Int) ≤ w) := I_le (by decide) (by decide) w0 w1
      rw [show (0 : Int32) = I 0 from rfl, pModel_thrown, Option.bind_some, gModel_thrown, Option.bind_some, up_same, if_pos (by decide), m0_countsAll h.1 h.2 hx, Option.bind_some, gModel_counted, Option.bind_some, up_same, if_pos (e1 ▸ (show (0 : Int) ≤ w by omega))]
      simp only [f_X12_fails, cModel, if_true, f_X12_fails_0, b_X12_fails_0, pModel_thrown, Option.bind_some]
      rfl
  · refine ⟨up vi 1000 (I 1), by rw [up_same], ?_⟩
    rw [if_neg h, if_pos I00]
    exact me_weight (er := 1) (Or.inl rfl)
theorem m0_question {t : Int} (hF : 1 ≤ F) (t0 : -2147483648 ≤ t) (t1 : t < 2147483648) (hn : vi 1003 = I 0) (hx : ∀ k : Nat, k < 3 → va 576 k = I 0) : ∃ vi', vi' 1000 = I (if 0 ≤ t ∧ t < 3 then 0 else 1) ∧ f_X12_question F aModel (I t) (mk (tx, pg, le, ln, tk, bd, vi, va, vl, vj, la, me)) = some (if 0 ≤ t ∧ t < 3 then I (-1) else 0, mk (tx, pg, le, ln, tk, bd, (vi'), va, vl, vj, la, me)) := by
  obtain ⟨n, rfl⟩ : ∃ n, F = n + 1 := ⟨F - 1, by omega⟩
  simp only [f_X12_question, cModel, if_true]
  unfold f_X12_question_0 b_X12_question_0
  rw [m_isTask t0 t1, Option.bind_some]
  by_cases h : 0 ≤ t ∧ t < 3
  · refine ⟨up (up vi 1000 (I 0)) 1038 (I 0), by rw [up_ne (by decide), up_same, if_pos h], ?_⟩
    rw [if_pos h, if_neg I10', if_pos h]
    unfold f_X12_question_13 b_X12_question_13
    rw [show (0 : Int32) = I 0 from rfl, pModel_thrown, Option.bind_some, gModel_thrown, Option.bind_some, up_same, if_pos (by decide), m0_countsAll h.1 h.2 hx, Option.bind_some]
    show b_X12_question_34 (n + 1) (f_X12_question_34 (n + 1) n) (f_X12_question_80 (n + 1) (n + 1)) aModel (I t) (I 0) (I 0) _ = _
    unfold b_X12_question_34
    rw [gModel_counted, Option.bind_some, up_same, if_pos (by decide), gModel_lines, Option.bind_some, up_ne (by decide), up_ne (by decide), hn]
    show b_X12_question_80 (n + 1) (f_X12_question_80 (n + 1) n) aModel (I t) (I 0) (-1) (I 0 - 1) _ = _
    unfold b_X12_question_80
    rw [if_pos (by decide)]
    rfl
  · refine ⟨up vi 1000 (I 1), by rw [up_same, if_neg h], ?_⟩
    rw [if_neg h, if_pos I00, if_neg h]
    exact me_question (er := 1) (Or.inl rfl)
theorem m0_condition {t : Int} (t0 : -2147483648 ≤ t) (t1 : t < 2147483648) (hl : ∀ k : Nat, k < 3 → va 592 k = I 0) : ∃ vi', vi' 1000 = I (if 0 ≤ t ∧ t < 3 then 0 else 1) ∧ f_X12_condition F aModel (I t) (mk (tx, pg, le, ln, tk, bd, vi, va, vl, vj, la, me)) = some (if 0 ≤ t ∧ t < 3 then I (-1) else 0, mk (tx, pg, le, ln, tk, bd, (vi'), va, vl, vj, la, me)) := by
  simp only [f_X12_condition, cModel, if_true]
  unfold f_X12_condition_0 b_X12_condition_0
  rw [m_isTask t0 t1, Option.bind_some]
  by_cases h : 0 ≤ t ∧ t < 3
  · refine ⟨up vi 1000 (I 0), by rw [up_same, if_pos h], ?_⟩
    rw [if_pos h, if_neg I10', if_pos h]
    unfold f_X12_condition_13 b_X12_condition_13
    rw [show (0 : Int32) = I 0 from rfl, pModel_thrown, Option.bind_some, gModel_thrown, Option.bind_some, up_same, if_pos (by decide), gModel_hasLearnt, Option.bind_some, rModel_hasLearnt h.1 h.2, Option.bind_some, hl _ (by omega), if_pos rfl]
    rfl
  · refine ⟨up vi 1000 (I 1), by rw [up_same, if_neg h], ?_⟩
    rw [if_neg h, if_pos I00, if_neg h]
    exact me_condition (er := 1) (Or.inl rfl)
theorem m0_stand {t b : Int} (hb : b = 0 ∨ b = 1) (t0 : -2147483648 ≤ t) (t1 : t < 2147483648) (hl : ∀ k : Nat, k < 3 → va 592 k = I 0) (hs : ∀ k : Nat, k < 3 → va 594 k = I 0) : ∃ vi' va', vi' 1000 = I (if 0 ≤ t ∧ t < 3 then if b = 0 then 0 else 2 else 1) ∧ f_X12_stand F aModel (I t) (I b) (mk (tx, pg, le, ln, tk, bd, vi, va, vl, vj, la, me)) = some (I 0, mk (tx, pg, le, ln, tk, bd, (vi'), (va'), vl, vj, la, me)) := by
  simp only [f_X12_stand, cModel, if_true]
  unfold f_X12_stand_0 b_X12_stand_0
  rw [m_isTask t0 t1, Option.bind_some]
  by_cases h : 0 ≤ t ∧ t < 3
  · simp only [if_pos h]
    rcases hb with rfl | rfl
    · refine ⟨up vi 1000 (I 0), up va 594 (upd (va 594) t.toNat (nrT 3 (I 0))), by rw [up_same, if_pos rfl], ?_⟩
      rw [if_neg I10', if_pos I00]
      unfold f_X12_stand_30 b_X12_stand_30
      rw [show (0 : Int32) = I 0 from rfl, pModel_thrown, Option.bind_some, gModel_thrown, Option.bind_some, up_same, if_pos (by decide), gModel_isStanding, Option.bind_some, rModel_isStanding h.1 h.2, Option.bind_some, hs _ (by omega), Option.bind_some, wModel_isStanding h.1 h.2, Option.bind_some, if_pos (Or.inl rfl)]
    · refine ⟨up vi 1000 (I 2), va, by rw [up_same, if_neg (by decide)], ?_⟩
      rw [if_neg I10', if_neg I10', gModel_hasLearnt, Option.bind_some, rModel_hasLearnt h.1 h.2, Option.bind_some, hl _ (by omega), if_pos I00]
      exact me_stand (er := 2) (Or.inr (Or.inl rfl))
  · refine ⟨up vi 1000 (I 1), va, by rw [up_same, if_neg h], ?_⟩
    rw [if_neg h, if_pos I00]
    exact me_stand (er := 1) (Or.inl rfl)
theorem m0_atomAt {t e p w : Int} (hb : e = 0 ∨ e = 1) (t0 : -2147483648 ≤ t) (t1 : t < 2147483648) (p0 : -2147483648 ≤ p) (p1 : p < 2147483648) (w0 : -2147483648 ≤ w) (w1 : w < 2147483648) (hl : ∀ k : Nat, k < 3 → va 592 k = I 0) : ∃ vi', vi' 1000 = I (if 0 ≤ t ∧ t < 3 ∧ 0 ≤ p then if 0 ≤ w ∧ w ≤ 4 then 0 else 2 else 1) ∧ f_X12_atomAt F aModel (I t) (I e) (I p) (I w) (mk (tx, pg, le, ln, tk, bd, vi, va, vl, vj, la, me)) = some (if 0 ≤ t ∧ t < 3 ∧ 0 ≤ p ∧ 0 ≤ w ∧ w ≤ 4 then I (-1) else 0, mk (tx, pg, le, ln, tk, bd, (vi'), va, vl, vj, la, me)) := by
  simp only [f_X12_atomAt, cModel, if_true]
  unfold f_X12_atomAt_0 b_X12_atomAt_0
  rw [m_isTask t0 t1, Option.bind_some]
  have e1 : (0 ≤ I p) = ((0 : Int) ≤ p) := I_le (a := 0) (by decide) (by decide) p0 p1
  by_cases h : 0 ≤ t ∧ t < 3
  · rw [if_pos h, if_neg I10']
    by_cases hp : 0 ≤ p
    · rw [if_pos (e1.mpr hp), show (0 : Int32) = I 0 from rfl, show (4 : Int32) = I 4 from rfl, m_isIn w0 w1 (by decide) (by decide) (by decide) (by decide), Option.bind_some]
      by_cases hw : 0 ≤ w ∧ w ≤ 4
      · refine ⟨up vi 1000 (I 0), by rw [up_same, if_pos ⟨h.1, h.2, hp⟩, if_pos hw], ?_⟩
        rw [if_pos hw, if_neg I10, if_pos ⟨h.1, h.2, hp, hw⟩]
        unfold f_X12_atomAt_31 b_X12_atomAt_31
        rw [pModel_thrown, Option.bind_some, gModel_thrown, Option.bind_some, up_same, if_pos (by decide)]
        rcases hb with rfl | rfl
        · rw [if_pos I00]
          unfold f_X12_atomAt_55 b_X12_atomAt_55
          rw [gModel_hasLearnt, Option.bind_some, rModel_hasLearnt h.1 h.2, Option.bind_some, hl _ (by omega), if_pos I00]
          rfl
        · rw [if_neg I10']
          unfold f_X12_atomAt_55 b_X12_atomAt_55
          rw [gModel_hasLearnt, Option.bind_some, rModel_hasLearnt h.1 h.2, Option.bind_some, hl _ (by omega), if_pos I00]
          rfl
      · refine ⟨up vi 1000 (I 2), by rw [up_same, if_pos ⟨h.1, h.2, hp⟩, if_neg hw], ?_⟩
        rw [if_neg hw, if_pos rfl, if_neg (fun q => hw q.2.2.2)]
        exact me_atomAt (er := 2) (Or.inr (Or.inl rfl))
    · refine ⟨up vi 1000 (I 1), by rw [up_same, if_neg (fun q => hp q.2.2)], ?_⟩
      rw [if_neg (fun q => hp (e1.mp q)), if_neg (fun q => hp q.2.2.1)]
      exact me_atomAt (er := 1) (Or.inl rfl)
  · refine ⟨up vi 1000 (I 1), by rw [up_same, if_neg (fun q => h ⟨q.1, q.2.1⟩)], ?_⟩
    rw [if_neg h, if_pos I00, if_neg (fun q => h ⟨q.1, q.2.1⟩)]
    exact me_atomAt (er := 1) (Or.inl rfl)
end
