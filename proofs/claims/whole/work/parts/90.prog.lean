/-! PROGRAMS AND WHAT IS LEARNT, IN THE CLASS -/
def ga (p : List At) (i : Nat) : At := p.getD i (.inr 0)
theorem ga_mem {p : List At} {i : Nat} (h : i < p.length) : ga p i ∈ p := by
  unfold ga
  rw [List.getD_eq_getElem?_getD, List.getElem?_eq_getElem h]
  exact List.getElem_mem h
theorem drop_ga {p : List At} {i : Nat} (h : i < p.length) : p.drop i = ga p i :: p.drop (i + 1) := by
  unfold ga
  rw [List.drop_eq_getElem_cons h, List.getD_eq_getElem?_getD, List.getElem?_eq_getElem h]
  rfl
/-- the cells of a program hold p -/
def prg (v : ZProg) (p : List At) : Prop := v.2 = I (p.length : Nat) ∧ p.length ≤ 4 ∧ (∀ a, a ∈ p → okA a) ∧ ∀ i, i < p.length → v.1 i = I (enc (ga p i) : Nat)
section
variable {F : Nat}
theorem x_makes9 {c a b : Nat} (hP : isProg c) (hU : isText a) (hT : isText b) (hab : a ≠ b) {s : Tx} {p : List At} (hF : 200000 ≤ F) : ∀ (m i : Nat) (tx : Nat → ZText) (pg : Nat → ZProg) (le : Nat → ZLearnt) (ln : Nat → ZLine) (tk : Nat → ZTask) (bd : Nat → ZBoard) (vi : Nat → Int32) (va : Nat → Nat → Int32) (vl : Nat → Nat → Int64) (vj : Int64) (la : Option Nat) (me : Nat → Option Nat) (acc : Tx), i ≤ p.length → 6 - i ≤ m → prg (pg c) p → txt (tx a) s → txt (tx b) acc → ∃ v u r, txt v u ∧ f_X6_makes_9 F m c a b (I ((1 : Nat) : Int)) (I (i : Nat)) (mk (tx, pg, le, ln, tk, bd, vi, va, vl, vj, la, me)) = some (I ((r : Nat) : Int), mk ((up tx b v), pg, le, ln, tk, bd, vi, va, vl, vj, la, me)) ∧ (runP acc (p.drop i) s = some u ∧ r = 1 ∨ runP acc (p.drop i) s = none ∧ r = 0) := by
  intro m
  induction m with
  | zero => intro i tx pg le ln tk bd vi va vl vj la me acc hi hm hp; have := hp.2.1; omega
  | succ m ih =>
    intro i tx pg le ln tk bd vi va vl vj la me acc hi hm hp hs ha
    obtain ⟨p1, p2, p3, p4⟩ := hp
    rw [s_X6_makes_9]
    by_cases g : i < p.length
    · have hok := p3 _ (ga_mem g)
      have tail : ∀ v u r, txt v u → (addP acc (mkA (ga p i) s) = some u ∧ r = 1 ∨ addP acc (mkA (ga p i) s) = none ∧ r = 0) → ∃ v' u' r', txt v' u' ∧ f_X6_makes_9 F m c a b (I ((r : Nat) : Int)) (I ((i + 1 : Nat) : Int)) (mk ((up tx b v), pg, le, ln, tk, bd, vi, va, vl, vj, la, me)) = some (I ((r' : Nat) : Int), mk ((up tx b v'), pg, le, ln, tk, bd, vi, va, vl, vj, la, me)) ∧ (runP acc (p.drop i) s = some u' ∧ r' = 1 ∨ runP acc (p.drop i) s = none ∧ r' = 0) := by
        intro v u r hv hr
        rw [drop_ga g]
        unfold runP
        rcases hr with ⟨q1, rfl⟩ | ⟨q1, rfl⟩
        · rw [q1, Option.bind_some]
          obtain ⟨v', u', r', hv', e', hr'⟩ := ih (i + 1) (up tx b v) pg le ln tk bd vi va vl vj la me u (by omega) (by omega) ⟨p1, p2, p3, p4⟩ (by rw [up_ne hab]; exact hs) (by rw [up_same]; exact hv)
          rw [up_up] at e'
          exact ⟨v', u', r', hv', e', hr'⟩
        · rw [q1]
          obtain ⟨m', rfl⟩ : ∃ m', m = m' + 1 := ⟨m - 1, by omega⟩
          refine ⟨v, u, 0, hv, ?_, Or.inr ⟨rfl, rfl⟩⟩
          rw [s_X6_makes_9]
          by_cases g2 : i + 1 < p.length
          · simp (disch := first | assumption | omega | exact is_Script_draft | exact is_Script_made | exact is_Learner_made | exact is_Learner_madeFirst | (apply is_eScript_tasks; omega) | (apply is_eScript_lines; omega) | (apply is_eScript_ranBy; omega)) only [↓reduceIte, ↓I_n1, obs, I_0n, l_1, l_2, l_3, l_4, l_5, l_6, l_7, l_8, l_11, l_12, l_15, l_16, l_18, l_20, l_21, l_29, l_30, l_31, l_32, l_33, l_39, l_40, l_44, l_45, l_46, l_47, l_48, l_53, l_57, l_63, l_64, l_65, l_66, l_71, l_72, l_75, l_90, l_97, l_120, l_122, l_127, l_128, l_1812, l_3600, l_4000, l_252645135, l_268435456, l_858993459, l_1431655765, I_add, I_mul, I_sub, I_addN, I_mulN, I_subN, ilt_t, ilt_f, ile_t, ile_f, ieq_t, ieq_f, up_same, up_up, I_and, I_or, I_shlN, I_shrN, I_divN, I_remN, dzI, i2cI, narI, Int.toNat_natCast, true_or, or_true, false_or, or_false, true_and, and_true, false_and, and_false, not_true_eq_false, not_false_eq_true, cProg, gProg_atoms, nProg_atoms, rProg_atoms, wProg_atoms, gProg_size, pProg_size, b_X6_makes_9, p1]
          · simp (disch := first | assumption | omega | exact is_Script_draft | exact is_Script_made | exact is_Learner_made | exact is_Learner_madeFirst | (apply is_eScript_tasks; omega) | (apply is_eScript_lines; omega) | (apply is_eScript_ranBy; omega)) only [↓reduceIte, ↓I_n1, obs, I_0n, l_1, l_2, l_3, l_4, l_5, l_6, l_7, l_8, l_11, l_12, l_15, l_16, l_18, l_20, l_21, l_29, l_30, l_31, l_32, l_33, l_39, l_40, l_44, l_45, l_46, l_47, l_48, l_53, l_57, l_63, l_64, l_65, l_66, l_71, l_72, l_75, l_90, l_97, l_120, l_122, l_127, l_128, l_1812, l_3600, l_4000, l_252645135, l_268435456, l_858993459, l_1431655765, I_add, I_mul, I_sub, I_addN, I_mulN, I_subN, ilt_t, ilt_f, ile_t, ile_f, ieq_t, ieq_f, up_same, up_up, I_and, I_or, I_shlN, I_shrN, I_divN, I_remN, dzI, i2cI, narI, Int.toNat_natCast, true_or, or_true, false_or, or_false, true_and, and_true, false_and, and_false, not_true_eq_false, not_false_eq_true, cProg, gProg_atoms, nProg_atoms, rProg_atoms, wProg_atoms, gProg_size, pProg_size, b_X6_makes_9, p1]
      have ek := x_kindOf (F := F) (M := mk (tx, pg, le, ln, tk, bd, vi, va, vl, vj, la, me)) hok
      have e4 := p4 i g
      cases hga : ga p i with
      | inl l =>
        rw [hga] at hok ek e4 tail
        have ek : f_X0_kindOf F (I (cst l : Nat)) (mk (tx, pg, le, ln, tk, bd, vi, va, vl, vj, la, me)) = some (I ((0 : Nat) : Int), mk (tx, pg, le, ln, tk, bd, vi, va, vl, vj, la, me)) := ek
        have e4 : (pg c).1 i = I (cst l : Nat) := e4
        obtain ⟨v, u, r, hv, e, hr⟩ := x_mkConst (F := F) (tx := tx) (pg := pg) (le := le) (ln := ln) (tk := tk) (bd := bd) (vi := vi) (va := va) (vl := vl) (vj := vj) (la := la) (me := me) hT hok.1 hok.2.1 hok.2.2 hF ha
        have := tail v u r hv hr
        simp (disch := first | assumption | omega | exact is_Script_draft | exact is_Script_made | exact is_Learner_made | exact is_Learner_madeFirst | (apply is_eScript_tasks; omega) | (apply is_eScript_lines; omega) | (apply is_eScript_ranBy; omega)) only [↓reduceIte, ↓I_n1, obs, I_0n, l_1, l_2, l_3, l_4, l_5, l_6, l_7, l_8, l_11, l_12, l_15, l_16, l_18, l_20, l_21, l_29, l_30, l_31, l_32, l_33, l_39, l_40, l_44, l_45, l_46, l_47, l_48, l_53, l_57, l_63, l_64, l_65, l_66, l_71, l_72, l_75, l_90, l_97, l_120, l_122, l_127, l_128, l_1812, l_3600, l_4000, l_252645135, l_268435456, l_858993459, l_1431655765, I_add, I_mul, I_sub, I_addN, I_mulN, I_subN, ilt_t, ilt_f, ile_t, ile_f, ieq_t, ieq_f, up_same, up_up, I_and, I_or, I_shlN, I_shrN, I_divN, I_remN, dzI, i2cI, narI, Int.toNat_natCast, true_or, or_true, false_or, or_false, true_and, and_true, false_and, and_false, not_true_eq_false, not_false_eq_true, cProg, gProg_atoms, nProg_atoms, rProg_atoms, wProg_atoms, gProg_size, pProg_size, b_X6_makes_9, p1, e4, ek, e]
        exact this
      | inr n =>
        rw [hga] at hok ek e4 tail
        have hn : n < 3672 := hok
        have e4 : (pg c).1 i = I (n : Nat) := e4
        have ek := x_kindN (F := F) (M := mk (tx, pg, le, ln, tk, bd, vi, va, vl, vj, la, me)) hn
        by_cases gn : n < 3600
        · rw [if_pos gn] at ek
          obtain ⟨v, u, r, hv, e, hr⟩ := x_mkCut (F := F) (tx := tx) (pg := pg) (le := le) (ln := ln) (tk := tk) (bd := bd) (vi := vi) (va := va) (vl := vl) (vj := vj) (la := la) (me := me) hU hT hab gn hs ha hF
          have := tail v u r hv (by simp only [mkA, if_pos gn]; exact hr)
          simp (disch := first | assumption | omega | exact is_Script_draft | exact is_Script_made | exact is_Learner_made | exact is_Learner_madeFirst | (apply is_eScript_tasks; omega) | (apply is_eScript_lines; omega) | (apply is_eScript_ranBy; omega)) only [↓reduceIte, ↓I_n1, obs, I_0n, l_1, l_2, l_3, l_4, l_5, l_6, l_7, l_8, l_11, l_12, l_15, l_16, l_18, l_20, l_21, l_29, l_30, l_31, l_32, l_33, l_39, l_40, l_44, l_45, l_46, l_47, l_48, l_53, l_57, l_63, l_64, l_65, l_66, l_71, l_72, l_75, l_90, l_97, l_120, l_122, l_127, l_128, l_1812, l_3600, l_4000, l_252645135, l_268435456, l_858993459, l_1431655765, I_add, I_mul, I_sub, I_addN, I_mulN, I_subN, ilt_t, ilt_f, ile_t, ile_f, ieq_t, ieq_f, up_same, up_up, I_and, I_or, I_shlN, I_shrN, I_divN, I_remN, dzI, i2cI, narI, Int.toNat_natCast, true_or, or_true, false_or, or_false, true_and, and_true, false_and, and_false, not_true_eq_false, not_false_eq_true, cProg, gProg_atoms, nProg_atoms, rProg_atoms, wProg_atoms, gProg_size, pProg_size, b_X6_makes_9, p1, e4, ek, e]
          exact this
        · rw [if_neg gn] at ek
          obtain ⟨v, u, r, hv, e, hr⟩ := x_mkEach (F := F) (tx := tx) (pg := pg) (le := le) (ln := ln) (tk := tk) (bd := bd) (vi := vi) (va := va) (vl := vl) (vj := vj) (la := la) (me := me) hU hT hab hn (by omega) hs ha hF
          have := tail v u r hv (by simp only [mkA, if_neg gn]; exact hr)
          simp (disch := first | assumption | omega | exact is_Script_draft | exact is_Script_made | exact is_Learner_made | exact is_Learner_madeFirst | (apply is_eScript_tasks; omega) | (apply is_eScript_lines; omega) | (apply is_eScript_ranBy; omega)) only [↓reduceIte, ↓I_n1, obs, I_0n, l_1, l_2, l_3, l_4, l_5, l_6, l_7, l_8, l_11, l_12, l_15, l_16, l_18, l_20, l_21, l_29, l_30, l_31, l_32, l_33, l_39, l_40, l_44, l_45, l_46, l_47, l_48, l_53, l_57, l_63, l_64, l_65, l_66, l_71, l_72, l_75, l_90, l_97, l_120, l_122, l_127, l_128, l_1812, l_3600, l_4000, l_252645135, l_268435456, l_858993459, l_1431655765, I_add, I_mul, I_sub, I_addN, I_mulN, I_subN, ilt_t, ilt_f, ile_t, ile_f, ieq_t, ieq_f, up_same, up_up, I_and, I_or, I_shlN, I_shrN, I_divN, I_remN, dzI, i2cI, narI, Int.toNat_natCast, true_or, or_true, false_or, or_false, true_and, and_true, false_and, and_false, not_true_eq_false, not_false_eq_true, cProg, gProg_atoms, nProg_atoms, rProg_atoms, wProg_atoms, gProg_size, pProg_size, b_X6_makes_9, p1, e4, ek, e]
          exact this
    · rw [List.drop_eq_nil_of_le (by omega)]
      refine ⟨tx b, acc, 1, ha, ?_, Or.inl ⟨rfl, rfl⟩⟩
      rw [up_self]
      simp (disch := first | assumption | omega | exact is_Script_draft | exact is_Script_made | exact is_Learner_made | exact is_Learner_madeFirst | (apply is_eScript_tasks; omega) | (apply is_eScript_lines; omega) | (apply is_eScript_ranBy; omega)) only [↓reduceIte, ↓I_n1, obs, I_0n, l_1, l_2, l_3, l_4, l_5, l_6, l_7, l_8, l_11, l_12, l_15, l_16, l_18, l_20, l_21, l_29, l_30, l_31, l_32, l_33, l_39, l_40, l_44, l_45, l_46, l_47, l_48, l_53, l_57, l_63, l_64, l_65, l_66, l_71, l_72, l_75, l_90, l_97, l_120, l_122, l_127, l_128, l_1812, l_3600, l_4000, l_252645135, l_268435456, l_858993459, l_1431655765, I_add, I_mul, I_sub, I_addN, I_mulN, I_subN, ilt_t, ilt_f, ile_t, ile_f, ieq_t, ieq_f, up_same, up_up, I_and, I_or, I_shlN, I_shrN, I_divN, I_remN, dzI, i2cI, narI, Int.toNat_natCast, true_or, or_true, false_or, or_false, true_and, and_true, false_and, and_false, not_true_eq_false, not_false_eq_true, cProg, gProg_atoms, nProg_atoms, rProg_atoms, wProg_atoms, gProg_size, pProg_size, b_X6_makes_9, p1]
theorem x_progMakes {c a b : Nat} {tx : Nat → ZText} {pg : Nat → ZProg} {le : Nat → ZLearnt} {ln : Nat → ZLine} {tk : Nat → ZTask} {bd : Nat → ZBoard} {vi : Nat → Int32} {va : Nat → Nat → Int32} {vl : Nat → Nat → Int64} {vj : Int64} {la : Option Nat} {me : Nat → Option Nat} (hP : isProg c) (hU : isText a) (hT : isText b) (hab : a ≠ b) {s : Tx} {p : List At} (hF : 200000 ≤ F) (hp : prg (pg c) p) (hs : txt (tx a) s) : ∃ v u r, txt v u ∧ f_X6_makes F c a b (mk (tx, pg, le, ln, tk, bd, vi, va, vl, vj, la, me)) = some (I ((r : Nat) : Int), mk ((up tx b v), pg, le, ln, tk, bd, vi, va, vl, vj, la, me)) ∧ (mkP p s = some u ∧ r = 1 ∨ mkP p s = none ∧ r = 0) := by
  obtain ⟨v, hv, e⟩ := x_clear (F := F) (tx := tx) (pg := pg) (le := le) (ln := ln) (tk := tk) (bd := bd) (vi := vi) (va := va) (vl := vl) (vj := vj) (la := la) (me := me) hT (by omega)
  obtain ⟨v', u', r', hv', e', hr'⟩ := x_makes9 (F := F) hP hU hT hab (s := s) (p := p) hF F 0 (up tx b v) pg le ln tk bd vi va vl vj la me [] (by omega) (by omega) hp (by rw [up_ne hab]; exact hs) (by rw [up_same]; exact hv)
  rw [up_up] at e'
  refine ⟨v', u', r', hv', ?_, hr'⟩
  simp (disch := first | assumption | omega | exact is_Script_draft | exact is_Script_made | exact is_Learner_made | exact is_Learner_madeFirst | (apply is_eScript_tasks; omega) | (apply is_eScript_lines; omega) | (apply is_eScript_ranBy; omega)) only [↓reduceIte, ↓I_n1, obs, I_0n, l_1, l_2, l_3, l_4, l_5, l_6, l_7, l_8, l_11, l_12, l_15, l_16, l_18, l_20, l_21, l_29, l_30, l_31, l_32, l_33, l_39, l_40, l_44, l_45, l_46, l_47, l_48, l_53, l_57, l_63, l_64, l_65, l_66, l_71, l_72, l_75, l_90, l_97, l_120, l_122, l_127, l_128, l_1812, l_3600, l_4000, l_252645135, l_268435456, l_858993459, l_1431655765, I_add, I_mul, I_sub, I_addN, I_mulN, I_subN, ilt_t, ilt_f, ile_t, ile_f, ieq_t, ieq_f, up_same, up_up, I_and, I_or, I_shlN, I_shrN, I_divN, I_remN, dzI, i2cI, narI, Int.toNat_natCast, true_or, or_true, false_or, or_false, true_and, and_true, false_and, and_false, not_true_eq_false, not_false_eq_true, cProg, gProg_atoms, nProg_atoms, rProg_atoms, wProg_atoms, gProg_size, pProg_size, b_X6_makes_9, b_X6_makes_0, f_X6_makes_0, f_X6_makes, e]
  exact e'
theorem x_isLike15 {a b : Nat} {tx : Nat → ZText} {pg : Nat → ZProg} {le : Nat → ZLearnt} {ln : Nat → ZLine} {tk : Nat → ZTask} {bd : Nat → ZBoard} {vi : Nat → Int32} {va : Nat → Nat → Int32} {vl : Nat → Nat → Int64} {vj : Int64} {la : Option Nat} {me : Nat → Option Nat} (hU : isText a) (hT : isText b) {s t : Tx} (hs : txt (tx a) s) (ht : txt (tx b) t) (hl : s.length = t.length) : ∀ (m i : Nat), i ≤ s.length → 21 - i ≤ m → s.take i = t.take i → f_X10_isLike_15 F m a b (I (i : Nat)) (mk (tx, pg, le, ln, tk, bd, vi, va, vl, vj, la, me)) = some (I ((if s = t then 1 else 0 : Nat) : Int), mk (tx, pg, le, ln, tk, bd, vi, va, vl, vj, la, me)) := by
  obtain ⟨s1, s2, s3, s4, s5⟩ := hs
  obtain ⟨t1, t2, t3, t4, t5⟩ := ht
  intro m
  induction m with
  | zero => intros; omega
  | succ m ih =>
    intro i hi hm he
    rw [s_X10_isLike_15]
    by_cases g : i < s.length
    · have a1 := s3 i g
      have a2 := t3 i (by omega)
      have b1 := fa_bd s4 i
      have b2 := fa_bd t4 i
      by_cases h : fa s i = fa t i
      · simp (disch := first | assumption | omega | exact is_Script_draft | exact is_Script_made | exact is_Learner_made | exact is_Learner_madeFirst | (apply is_eScript_tasks; omega) | (apply is_eScript_lines; omega) | (apply is_eScript_ranBy; omega)) only [↓reduceIte, ↓I_n1, obs, I_0n, l_1, l_2, l_3, l_4, l_5, l_6, l_7, l_8, l_11, l_12, l_15, l_16, l_18, l_20, l_21, l_29, l_30, l_31, l_32, l_33, l_39, l_40, l_44, l_45, l_46, l_47, l_48, l_53, l_57, l_63, l_64, l_65, l_66, l_71, l_72, l_75, l_90, l_97, l_120, l_122, l_127, l_128, l_1812, l_3600, l_4000, l_252645135, l_268435456, l_858993459, l_1431655765, I_add, I_mul, I_sub, I_addN, I_mulN, I_subN, ilt_t, ilt_f, ile_t, ile_f, ieq_t, ieq_f, up_same, up_up, I_and, I_or, I_shlN, I_shrN, I_divN, I_remN, dzI, i2cI, narI, Int.toNat_natCast, true_or, or_true, false_or, or_false, true_and, and_true, false_and, and_false, not_true_eq_false, not_false_eq_true, cText, gText_signs, nText_signs, rText_signs, wText_signs, gText_placesOf, nText_placesOf, rText_placesOf, wText_placesOf, gText_size, pText_size, b_X10_isLike_15, s1, a1, a2]
        apply ih (i + 1) (by omega) (by omega)
        rw [← take_fa g, ← take_fa (by omega), he, h]
      · simp (disch := first | assumption | omega | exact is_Script_draft | exact is_Script_made | exact is_Learner_made | exact is_Learner_madeFirst | (apply is_eScript_tasks; omega) | (apply is_eScript_lines; omega) | (apply is_eScript_ranBy; omega)) only [↓reduceIte, ↓I_n1, obs, I_0n, l_1, l_2, l_3, l_4, l_5, l_6, l_7, l_8, l_11, l_12, l_15, l_16, l_18, l_20, l_21, l_29, l_30, l_31, l_32, l_33, l_39, l_40, l_44, l_45, l_46, l_47, l_48, l_53, l_57, l_63, l_64, l_65, l_66, l_71, l_72, l_75, l_90, l_97, l_120, l_122, l_127, l_128, l_1812, l_3600, l_4000, l_252645135, l_268435456, l_858993459, l_1431655765, I_add, I_mul, I_sub, I_addN, I_mulN, I_subN, ilt_t, ilt_f, ile_t, ile_f, ieq_t, ieq_f, up_same, up_up, I_and, I_or, I_shlN, I_shrN, I_divN, I_remN, dzI, i2cI, narI, Int.toNat_natCast, true_or, or_true, false_or, or_false, true_and, and_true, false_and, and_false, not_true_eq_false, not_false_eq_true, cText, gText_signs, nText_signs, rText_signs, wText_signs, gText_placesOf, nText_placesOf, rText_placesOf, wText_placesOf, gText_size, pText_size, b_X10_isLike_15, s1, a1, a2]
        rw [if_neg (fun q => h (by rw [q]))]
    · rw [List.take_of_length_le (by omega), List.take_of_length_le (by omega)] at he
      simp (disch := first | assumption | omega | exact is_Script_draft | exact is_Script_made | exact is_Learner_made | exact is_Learner_madeFirst | (apply is_eScript_tasks; omega) | (apply is_eScript_lines; omega) | (apply is_eScript_ranBy; omega)) only [↓reduceIte, ↓I_n1, obs, I_0n, l_1, l_2, l_3, l_4, l_5, l_6, l_7, l_8, l_11, l_12, l_15, l_16, l_18, l_20, l_21, l_29, l_30, l_31, l_32, l_33, l_39, l_40, l_44, l_45, l_46, l_47, l_48, l_53, l_57, l_63, l_64, l_65, l_66, l_71, l_72, l_75, l_90, l_97, l_120, l_122, l_127, l_128, l_1812, l_3600, l_4000, l_252645135, l_268435456, l_858993459, l_1431655765, I_add, I_mul, I_sub, I_addN, I_mulN, I_subN, ilt_t, ilt_f, ile_t, ile_f, ieq_t, ieq_f, up_same, up_up, I_and, I_or, I_shlN, I_shrN, I_divN, I_remN, dzI, i2cI, narI, Int.toNat_natCast, true_or, or_true, false_or, or_false, true_and, and_true, false_and, and_false, not_true_eq_false, not_false_eq_true, cText, gText_signs, nText_signs, rText_signs, wText_signs, gText_placesOf, nText_placesOf, rText_placesOf, wText_placesOf, gText_size, pText_size, b_X10_isLike_15, s1]
      rw [if_pos he]
theorem x_isLike {a b : Nat} {tx : Nat → ZText} {pg : Nat → ZProg} {le : Nat → ZLearnt} {ln : Nat → ZLine} {tk : Nat → ZTask} {bd : Nat → ZBoard} {vi : Nat → Int32} {va : Nat → Nat → Int32} {vl : Nat → Nat → Int64} {vj : Int64} {la : Option Nat} {me : Nat → Option Nat} (hU : isText a) (hT : isText b) {s t : Tx} (hF : 200000 ≤ F) (hs : txt (tx a) s) (ht : txt (tx b) t) : f_X10_isLike F a b (mk (tx, pg, le, ln, tk, bd, vi, va, vl, vj, la, me)) = some (I ((if s = t then 1 else 0 : Nat) : Int), mk (tx, pg, le, ln, tk, bd, vi, va, vl, vj, la, me)) := by
  have s1 := hs.1
  have t1 := ht.1
  have s2 := hs.2.1
  have t2 := ht.2.1
  by_cases hl : s.length = t.length
  · have := x_isLike15 (F := F) (tx := tx) (pg := pg) (le := le) (ln := ln) (tk := tk) (bd := bd) (vi := vi) (va := va) (vl := vl) (vj := vj) (la := la) (me := me) hU hT hs ht hl F 0 (by omega) (by omega) rfl
    simp (disch := first | assumption | omega | exact is_Script_draft | exact is_Script_made | exact is_Learner_made | exact is_Learner_madeFirst | (apply is_eScript_tasks; omega) | (apply is_eScript_lines; omega) | (apply is_eScript_ranBy; omega)) only [↓reduceIte, ↓I_n1, obs, I_0n, l_1, l_2, l_3, l_4, l_5, l_6, l_7, l_8, l_11, l_12, l_15, l_16, l_18, l_20, l_21, l_29, l_30, l_31, l_32, l_33, l_39, l_40, l_44, l_45, l_46, l_47, l_48, l_53, l_57, l_63, l_64, l_65, l_66, l_71, l_72, l_75, l_90, l_97, l_120, l_122, l_127, l_128, l_1812, l_3600, l_4000, l_252645135, l_268435456, l_858993459, l_1431655765, I_add, I_mul, I_sub, I_addN, I_mulN, I_subN, ilt_t, ilt_f, ile_t, ile_f, ieq_t, ieq_f, up_same, up_up, I_and, I_or, I_shlN, I_shrN, I_divN, I_remN, dzI, i2cI, narI, Int.toNat_natCast, true_or, or_true, false_or, or_false, true_and, and_true, false_and, and_false, not_true_eq_false, not_false_eq_true, cText, gText_signs, nText_signs, rText_signs, wText_signs, gText_placesOf, nText_placesOf, rText_placesOf, wText_placesOf, gText_size, pText_size, b_X10_isLike_15, b_X10_isLike_0, f_X10_isLike_0, f_X10_isLike, s1, t1]
    exact this
  · simp (disch := first | assumption | omega | exact is_Script_draft | exact is_Script_made | exact is_Learner_made | exact is_Learner_madeFirst | (apply is_eScript_tasks; omega) | (apply is_eScript_lines; omega) | (apply is_eScript_ranBy; omega)) only [↓reduceIte, ↓I_n1, obs, I_0n, l_1, l_2, l_3, l_4, l_5, l_6, l_7, l_8, l_11, l_12, l_15, l_16, l_18, l_20, l_21, l_29, l_30, l_31, l_32, l_33, l_39, l_40, l_44, l_45, l_46, l_47, l_48, l_53, l_57, l_63, l_64, l_65, l_66, l_71, l_72, l_75, l_90, l_97, l_120, l_122, l_127, l_128, l_1812, l_3600, l_4000, l_252645135, l_268435456, l_858993459, l_1431655765, I_add, I_mul, I_sub, I_addN, I_mulN, I_subN, ilt_t, ilt_f, ile_t, ile_f, ieq_t, ieq_f, up_same, up_up, I_and, I_or, I_shlN, I_shrN, I_divN, I_remN, dzI, i2cI, narI, Int.toNat_natCast, true_or, or_true, false_or, or_false, true_and, and_true, false_and, and_false, not_true_eq_false, not_false_eq_true, cText, gText_signs, nText_signs, rText_signs, wText_signs, gText_placesOf, nText_placesOf, rText_placesOf, wText_placesOf, gText_size, pText_size, b_X10_isLike_15, b_X10_isLike_0, f_X10_isLike_0, f_X10_isLike, s1, t1]
    rw [if_neg (fun q => hl (by rw [q]))]
theorem x_has2 {a : Nat} {tx : Nat → ZText} {pg : Nat → ZProg} {le : Nat → ZLearnt} {ln : Nat → ZLine} {tk : Nat → ZTask} {bd : Nat → ZBoard} {vi : Nat → Int32} {va : Nat → Nat → Int32} {vl : Nat → Nat → Int64} {vj : Int64} {la : Option Nat} {me : Nat → Option Nat} (hU : isText a) {s : Tx} (hs : txt (tx a) s) {c : Int} (c0 : 0 ≤ c) (c1 : c < 65536) : ∀ (m i : Nat), i ≤ s.length → 21 - i ≤ m → f_X10_has_2 F m a (I c) (I (i : Nat)) (mk (tx, pg, le, ln, tk, bd, vi, va, vl, vj, la, me)) = some (I ((if c ∈ s.drop i then 1 else 0 : Nat) : Int), mk (tx, pg, le, ln, tk, bd, vi, va, vl, vj, la, me)) := by
  obtain ⟨s1, s2, s3, s4, s5⟩ := hs
  intro m
  induction m with
  | zero => intros; omega
  | succ m ih =>
    intro i hi hm
    rw [s_X10_has_2]
    by_cases g : i < s.length
    · have a1 := s3 i g
      have b1 := fa_bd s4 i
      rw [drop_fa g]
      by_cases h : fa s i = c
      · simp (disch := first | assumption | omega | exact is_Script_draft | exact is_Script_made | exact is_Learner_made | exact is_Learner_madeFirst | (apply is_eScript_tasks; omega) | (apply is_eScript_lines; omega) | (apply is_eScript_ranBy; omega)) only [↓reduceIte, ↓I_n1, obs, I_0n, l_1, l_2, l_3, l_4, l_5, l_6, l_7, l_8, l_11, l_12, l_15, l_16, l_18, l_20, l_21, l_29, l_30, l_31, l_32, l_33, l_39, l_40, l_44, l_45, l_46, l_47, l_48, l_53, l_57, l_63, l_64, l_65, l_66, l_71, l_72, l_75, l_90, l_97, l_120, l_122, l_127, l_128, l_1812, l_3600, l_4000, l_252645135, l_268435456, l_858993459, l_1431655765, I_add, I_mul, I_sub, I_addN, I_mulN, I_subN, ilt_t, ilt_f, ile_t, ile_f, ieq_t, ieq_f, up_same, up_up, I_and, I_or, I_shlN, I_shrN, I_divN, I_remN, dzI, i2cI, narI, Int.toNat_natCast, true_or, or_true, false_or, or_false, true_and, and_true, false_and, and_false, not_true_eq_false, not_false_eq_true, cText, gText_signs, nText_signs, rText_signs, wText_signs, gText_placesOf, nText_placesOf, rText_placesOf, wText_placesOf, gText_size, pText_size, b_X10_has_2, s1, a1]
        rw [if_pos (by rw [h]; exact List.mem_cons_self)]
      · simp (disch := first | assumption | omega | exact is_Script_draft | exact is_Script_made | exact is_Learner_made | exact is_Learner_madeFirst | (apply is_eScript_tasks; omega) | (apply is_eScript_lines; omega) | (apply is_eScript_ranBy; omega)) only [↓reduceIte, ↓I_n1, obs, I_0n, l_1, l_2, l_3, l_4, l_5, l_6, l_7, l_8, l_11, l_12, l_15, l_16, l_18, l_20, l_21, l_29, l_30, l_31, l_32, l_33, l_39, l_40, l_44, l_45, l_46, l_47, l_48, l_53, l_57, l_63, l_64, l_65, l_66, l_71, l_72, l_75, l_90, l_97, l_120, l_122, l_127, l_128, l_1812, l_3600, l_4000, l_252645135, l_268435456, l_858993459, l_1431655765, I_add, I_mul, I_sub, I_addN, I_mulN, I_subN, ilt_t, ilt_f, ile_t, ile_f, ieq_t, ieq_f, up_same, up_up, I_and, I_or, I_shlN, I_shrN, I_divN, I_remN, dzI, i2cI, narI, Int.toNat_natCast, true_or, or_true, false_or, or_false, true_and, and_true, false_and, and_false, not_true_eq_false, not_false_eq_true, cText, gText_signs, nText_signs, rText_signs, wText_signs, gText_placesOf, nText_placesOf, rText_placesOf, wText_placesOf, gText_size, pText_size, b_X10_has_2, s1, a1]
        rw [ih (i + 1) (by omega) (by omega)]
        congr 4
        simp only [List.mem_cons, show ¬ c = fa s i from fun q => h q.symm, false_or]
    · rw [List.drop_eq_nil_of_le (by omega)]
      simp (disch := first | assumption | omega | exact is_Script_draft | exact is_Script_made | exact is_Learner_made | exact is_Learner_madeFirst | (apply is_eScript_tasks; omega) | (apply is_eScript_lines; omega) | (apply is_eScript_ranBy; omega)) only [↓reduceIte, ↓I_n1, obs, I_0n, l_1, l_2, l_3, l_4, l_5, l_6, l_7, l_8, l_11, l_12, l_15, l_16, l_18, l_20, l_21, l_29, l_30, l_31, l_32, l_33, l_39, l_40, l_44, l_45, l_46, l_47, l_48, l_53, l_57, l_63, l_64, l_65, l_66, l_71, l_72, l_75, l_90, l_97, l_120, l_122, l_127, l_128, l_1812, l_3600, l_4000, l_252645135, l_268435456, l_858993459, l_1431655765, I_add, I_mul, I_sub, I_addN, I_mulN, I_subN, ilt_t, ilt_f, ile_t, ile_f, ieq_t, ieq_f, up_same, up_up, I_and, I_or, I_shlN, I_shrN, I_divN, I_remN, dzI, i2cI, narI, Int.toNat_natCast, true_or, or_true, false_or, or_false, true_and, and_true, false_and, and_false, not_true_eq_false, not_false_eq_true, cText, gText_signs, nText_signs, rText_signs, wText_signs, gText_placesOf, nText_placesOf, rText_placesOf, wText_placesOf, gText_size, pText_size, b_X10_has_2, s1]
      rfl
theorem x_has {a : Nat} {tx : Nat → ZText} {pg : Nat → ZProg} {le : Nat → ZLearnt} {ln : Nat → ZLine} {tk : Nat → ZTask} {bd : Nat → ZBoard} {vi : Nat → Int32} {va : Nat → Nat → Int32} {vl : Nat → Nat → Int64} {vj : Int64} {la : Option Nat} {me : Nat → Option Nat} (hU : isText a) {s : Tx} (hF : 200000 ≤ F) (hs : txt (tx a) s) {c : Int} (c0 : 0 ≤ c) (c1 : c < 65536) : f_X10_has F a (I c) (mk (tx, pg, le, ln, tk, bd, vi, va, vl, vj, la, me)) = some (I ((if c ∈ s then 1 else 0 : Nat) : Int), mk (tx, pg, le, ln, tk, bd, vi, va, vl, vj, la, me)) := by
  have := x_has2 (F := F) (tx := tx) (pg := pg) (le := le) (ln := ln) (tk := tk) (bd := bd) (vi := vi) (va := va) (vl := vl) (vj := vj) (la := la) (me := me) hU hs c0 c1 F 0 (by omega) (by omega)
  simp (disch := first | assumption | omega | exact is_Script_draft | exact is_Script_made | exact is_Learner_made | exact is_Learner_madeFirst | (apply is_eScript_tasks; omega) | (apply is_eScript_lines; omega) | (apply is_eScript_ranBy; omega)) only [↓reduceIte, ↓I_n1, obs, I_0n, l_1, l_2, l_3, l_4, l_5, l_6, l_7, l_8, l_11, l_12, l_15, l_16, l_18, l_20, l_21, l_29, l_30, l_31, l_32, l_33, l_39, l_40, l_44, l_45, l_46, l_47, l_48, l_53, l_57, l_63, l_64, l_65, l_66, l_71, l_72, l_75, l_90, l_97, l_120, l_122, l_127, l_128, l_1812, l_3600, l_4000, l_252645135, l_268435456, l_858993459, l_1431655765, I_add, I_mul, I_sub, I_addN, I_mulN, I_subN, ilt_t, ilt_f, ile_t, ile_f, ieq_t, ieq_f, up_same, up_up, I_and, I_or, I_shlN, I_shrN, I_divN, I_remN, dzI, i2cI, narI, Int.toNat_natCast, true_or, or_true, false_or, or_false, true_and, and_true, false_and, and_false, not_true_eq_false, not_false_eq_true, cText, gText_signs, nText_signs, rText_signs, wText_signs, gText_placesOf, nText_placesOf, rText_placesOf, wText_placesOf, gText_size, pText_size, b_X10_has_2, b_X10_has_0, f_X10_has_0, f_X10_has]
  exact this
end
/-- whether a condition holds for a text -/
def hld (c : Nat) (s : Tx) : Bool := if c < 12 then decide (c % 3 < (bl (bgM (pk s (c / 3))) 0).length) else if c < 16 then (pk s (c - 12)).testBit 0 else decide (mrk ((c : Int) - 15) ∈ s)
theorem pkm_lt {s : Tx} {k : Nat} (h : s.length ≤ 20) : pk s k < 1048576 := Nat.lt_of_lt_of_le (msk_lt (fa s) k s.length) (Nat.pow_le_pow_right (by decide) h : 2 ^ s.length ≤ 2 ^ 20)
section
variable {F : Nat}
theorem x_holds {a : Nat} {tx : Nat → ZText} {pg : Nat → ZProg} {le : Nat → ZLearnt} {ln : Nat → ZLine} {tk : Nat → ZTask} {bd : Nat → ZBoard} {vi : Nat → Int32} {va : Nat → Nat → Int32} {vl : Nat → Nat → Int64} {vj : Int64} {la : Option Nat} {me : Nat → Option Nat} (hU : isText a) {s : Tx} (hF : 200000 ≤ F) (hs : txt (tx a) s) {c : Nat} (hc : c < 21) : f_X4_holds F (I (c : Nat)) a (mk (tx, pg, le, ln, tk, bd, vi, va, vl, vj, la, me)) = some (I (((hld c s).toNat : Nat) : Int), mk (tx, pg, le, ln, tk, bd, vi, va, vl, vj, la, me)) := by
  have hl := hs.2.1
  unfold hld
  by_cases g1 : c < 12
  · rw [if_pos g1]
    have hp := pkm_lt (k := c / 3) hl
    have hb : bgM (pk s (c / 3)) < 1048576 := bgM_lt (n := 20) hp
    have e := x_placesOfRuns (F := F) (tx := tx) (pg := pg) (le := le) (ln := ln) (tk := tk) (bd := bd) (vi := vi) (va := va) (vl := vl) (vj := vj) (la := la) (me := me) hU hs (k := (c / 3 : Nat)) (p := ((1 : Nat) : Int)) (by omega) (by omega) (by omega) (by omega)
    have e2 : prt (msk (fa s) (c / 3 : Nat) s.length) ((1 : Nat) : Int) = bgM (pk s (c / 3)) := by
      unfold prt
      rw [if_pos (by decide)]
      rfl
    rw [e2] at e
    have hlen : (bl (bgM (pk s (c / 3))) 0).length ≤ 20 := by
      unfold bl
      exact Nat.le_trans (List.length_filter_le _ _) (by rw [List.length_range']; omega)
    have e3 := x_bitCount (F := F) (M := mk (tx, pg, le, ln, tk, bd, vi, va, vl, vj, la, me)) hb
    by_cases h : c % 3 < (bl (bgM (pk s (c / 3))) 0).length
    · simp (disch := first | assumption | omega | exact is_Script_draft | exact is_Script_made | exact is_Learner_made | exact is_Learner_madeFirst | (apply is_eScript_tasks; omega) | (apply is_eScript_lines; omega) | (apply is_eScript_ranBy; omega)) only [↓reduceIte, ↓I_n1, obs, I_0n, l_1, l_2, l_3, l_4, l_5, l_6, l_7, l_8, l_11, l_12, l_15, l_16, l_18, l_20, l_21, l_29, l_30, l_31, l_32, l_33, l_39, l_40, l_44, l_45, l_46, l_47, l_48, l_53, l_57, l_63, l_64, l_65, l_66, l_71, l_72, l_75, l_90, l_97, l_120, l_122, l_127, l_128, l_1812, l_3600, l_4000, l_252645135, l_268435456, l_858993459, l_1431655765, I_add, I_mul, I_sub, I_addN, I_mulN, I_subN, ilt_t, ilt_f, ile_t, ile_f, ieq_t, ieq_f, up_same, up_up, I_and, I_or, I_shlN, I_shrN, I_divN, I_remN, dzI, i2cI, narI, Int.toNat_natCast, true_or, or_true, false_or, or_false, true_and, and_true, false_and, and_false, not_true_eq_false, not_false_eq_true, b_X4_holds_0, f_X4_holds_0, f_X4_holds, e, e3]
      rw [decide_eq_true h]
      rfl
    · simp (disch := first | assumption | omega | exact is_Script_draft | exact is_Script_made | exact is_Learner_made | exact is_Learner_madeFirst | (apply is_eScript_tasks; omega) | (apply is_eScript_lines; omega) | (apply is_eScript_ranBy; omega)) only [↓reduceIte, ↓I_n1, obs, I_0n, l_1, l_2, l_3, l_4, l_5, l_6, l_7, l_8, l_11, l_12, l_15, l_16, l_18, l_20, l_21, l_29, l_30, l_31, l_32, l_33, l_39, l_40, l_44, l_45, l_46, l_47, l_48, l_53, l_57, l_63, l_64, l_65, l_66, l_71, l_72, l_75, l_90, l_97, l_120, l_122, l_127, l_128, l_1812, l_3600, l_4000, l_252645135, l_268435456, l_858993459, l_1431655765, I_add, I_mul, I_sub, I_addN, I_mulN, I_subN, ilt_t, ilt_f, ile_t, ile_f, ieq_t, ieq_f, up_same, up_up, I_and, I_or, I_shlN, I_shrN, I_divN, I_remN, dzI, i2cI, narI, Int.toNat_natCast, true_or, or_true, false_or, or_false, true_and, and_true, false_and, and_false, not_true_eq_false, not_false_eq_true, b_X4_holds_0, f_X4_holds_0, f_X4_holds, e, e3]
      rw [decide_eq_false h]
      rfl
  · rw [if_neg g1]
    by_cases g2 : c < 16
    · rw [if_pos g2]
      have hp := pkm_lt (k := c - 12) hl
      have e := x_placesOfRuns (F := F) (tx := tx) (pg := pg) (le := le) (ln := ln) (tk := tk) (bd := bd) (vi := vi) (va := va) (vl := vl) (vj := vj) (la := la) (me := me) hU hs (k := (c - 12 : Nat)) (p := ((0 : Nat) : Int)) (by omega) (by omega) (by omega) (by omega)
      have e2 : prt (msk (fa s) (c - 12 : Nat) s.length) ((0 : Nat) : Int) = pk s (c - 12) := rfl
      rw [e2] at e
      have e3 : pk s (c - 12) &&& 1 = ((pk s (c - 12)).testBit 0).toNat := by
        rw [show (1 : Nat) = 2 ^ 0 from rfl, and_p2, Nat.pow_zero, Nat.mul_one]
      cases h : (pk s (c - 12)).testBit 0
      · rw [h] at e3
        have e3 : pk s (c - 12) &&& 1 = 0 := e3
        simp (disch := first | assumption | omega | exact is_Script_draft | exact is_Script_made | exact is_Learner_made | exact is_Learner_madeFirst | (apply is_eScript_tasks; omega) | (apply is_eScript_lines; omega) | (apply is_eScript_ranBy; omega)) only [↓reduceIte, ↓I_n1, obs, I_0n, l_1, l_2, l_3, l_4, l_5, l_6, l_7, l_8, l_11, l_12, l_15, l_16, l_18, l_20, l_21, l_29, l_30, l_31, l_32, l_33, l_39, l_40, l_44, l_45, l_46, l_47, l_48, l_53, l_57, l_63, l_64, l_65, l_66, l_71, l_72, l_75, l_90, l_97, l_120, l_122, l_127, l_128, l_1812, l_3600, l_4000, l_252645135, l_268435456, l_858993459, l_1431655765, I_add, I_mul, I_sub, I_addN, I_mulN, I_subN, ilt_t, ilt_f, ile_t, ile_f, ieq_t, ieq_f, up_same, up_up, I_and, I_or, I_shlN, I_shrN, I_divN, I_remN, dzI, i2cI, narI, Int.toNat_natCast, true_or, or_true, false_or, or_false, true_and, and_true, false_and, and_false, not_true_eq_false, not_false_eq_true, b_X4_holds_0, f_X4_holds_0, f_X4_holds, e, e3]
        rfl
      · rw [h] at e3
        have e3 : pk s (c - 12) &&& 1 = 1 := e3
        simp (disch := first | assumption | omega | exact is_Script_draft | exact is_Script_made | exact is_Learner_made | exact is_Learner_madeFirst | (apply is_eScript_tasks; omega) | (apply is_eScript_lines; omega) | (apply is_eScript_ranBy; omega)) only [↓reduceIte, ↓I_n1, obs, I_0n, l_1, l_2, l_3, l_4, l_5, l_6, l_7, l_8, l_11, l_12, l_15, l_16, l_18, l_20, l_21, l_29, l_30, l_31, l_32, l_33, l_39, l_40, l_44, l_45, l_46, l_47, l_48, l_53, l_57, l_63, l_64, l_65, l_66, l_71, l_72, l_75, l_90, l_97, l_120, l_122, l_127, l_128, l_1812, l_3600, l_4000, l_252645135, l_268435456, l_858993459, l_1431655765, I_add, I_mul, I_sub, I_addN, I_mulN, I_subN, ilt_t, ilt_f, ile_t, ile_f, ieq_t, ieq_f, up_same, up_up, I_and, I_or, I_shlN, I_shrN, I_divN, I_remN, dzI, i2cI, narI, Int.toNat_natCast, true_or, or_true, false_or, or_false, true_and, and_true, false_and, and_false, not_true_eq_false, not_false_eq_true, b_X4_holds_0, f_X4_holds_0, f_X4_holds, e, e3]
        rfl
    · rw [if_neg g2]
      have e := x_markOf (F := F) (M := mk (tx, pg, le, ln, tk, bd, vi, va, vl, vj, la, me)) (m := ((c - 15 : Nat) : Int)) (by omega) (by omega)
      have hb := okS_bd (mrk_ok ((c - 15 : Nat) : Int))
      have e2 := x_has (F := F) (tx := tx) (pg := pg) (le := le) (ln := ln) (tk := tk) (bd := bd) (vi := vi) (va := va) (vl := vl) (vj := vj) (la := la) (me := me) hU hF hs (c := mrk ((c - 15 : Nat) : Int)) (by omega) (by omega)
      rw [show ((c : Int) - 15) = ((c - 15 : Nat) : Int) by omega]
      by_cases h : mrk ((c - 15 : Nat) : Int) ∈ s
      · rw [if_pos h] at e2
        simp (disch := first | assumption | omega | exact is_Script_draft | exact is_Script_made | exact is_Learner_made | exact is_Learner_madeFirst | (apply is_eScript_tasks; omega) | (apply is_eScript_lines; omega) | (apply is_eScript_ranBy; omega)) only [↓reduceIte, ↓I_n1, obs, I_0n, l_1, l_2, l_3, l_4, l_5, l_6, l_7, l_8, l_11, l_12, l_15, l_16, l_18, l_20, l_21, l_29, l_30, l_31, l_32, l_33, l_39, l_40, l_44, l_45, l_46, l_47, l_48, l_53, l_57, l_63, l_64, l_65, l_66, l_71, l_72, l_75, l_90, l_97, l_120, l_122, l_127, l_128, l_1812, l_3600, l_4000, l_252645135, l_268435456, l_858993459, l_1431655765, I_add, I_mul, I_sub, I_addN, I_mulN, I_subN, ilt_t, ilt_f, ile_t, ile_f, ieq_t, ieq_f, up_same, up_up, I_and, I_or, I_shlN, I_shrN, I_divN, I_remN, dzI, i2cI, narI, Int.toNat_natCast, true_or, or_true, false_or, or_false, true_and, and_true, false_and, and_false, not_true_eq_false, not_false_eq_true, b_X4_holds_0, f_X4_holds_0, f_X4_holds, e, e2]
        rw [decide_eq_true h]
        rfl
      · rw [if_neg h] at e2
        simp (disch := first | assumption | omega | exact is_Script_draft | exact is_Script_made | exact is_Learner_made | exact is_Learner_madeFirst | (apply is_eScript_tasks; omega) | (apply is_eScript_lines; omega) | (apply is_eScript_ranBy; omega)) only [↓reduceIte, ↓I_n1, obs, I_0n, l_1, l_2, l_3, l_4, l_5, l_6, l_7, l_8, l_11, l_12, l_15, l_16, l_18, l_20, l_21, l_29, l_30, l_31, l_32, l_33, l_39, l_40, l_44, l_45, l_46, l_47, l_48, l_53, l_57, l_63, l_64, l_65, l_66, l_71, l_72, l_75, l_90, l_97, l_120, l_122, l_127, l_128, l_1812, l_3600, l_4000, l_252645135, l_268435456, l_858993459, l_1431655765, I_add, I_mul, I_sub, I_addN, I_mulN, I_subN, ilt_t, ilt_f, ile_t, ile_f, ieq_t, ieq_f, up_same, up_up, I_and, I_or, I_shlN, I_shrN, I_divN, I_remN, dzI, i2cI, narI, Int.toNat_natCast, true_or, or_true, false_or, or_false, true_and, and_true, false_and, and_false, not_true_eq_false, not_false_eq_true, b_X4_holds_0, f_X4_holds_0, f_X4_holds, e, e2]
        rw [decide_eq_false h]
        rfl
end
abbrev Le : Type := Option (Option Nat × List At × List At)
/-- the cells of what is learnt -/
def lrn (v : ZLearnt) (v1 v2 : ZProg) (L : Le) : Prop := match L with
  | none => v.1 = I ((0 : Nat) : Int)
  | some (none, p, _) => v.1 = I ((1 : Nat) : Int) ∧ v.2 = I (-1) ∧ prg v1 p
  | some (some c, p, q) => v.1 = I ((1 : Nat) : Int) ∧ v.2 = I (c : Nat) ∧ c < 21 ∧ prg v1 p ∧ prg v2 q
def mkL (L : Le) (s : Tx) : Option Tx := match L with
  | none => none
  | some (none, p, _) => mkP p s
  | some (some c, p, q) => if hld c s = true then mkP p s else mkP q s
section
variable {F : Nat}
theorem x_learntMakes {c a b : Nat} {tx : Nat → ZText} {pg : Nat → ZProg} {le : Nat → ZLearnt} {ln : Nat → ZLine} {tk : Nat → ZTask} {bd : Nat → ZBoard} {vi : Nat → Int32} {va : Nat → Nat → Int32} {vl : Nat → Nat → Int64} {vj : Int64} {la : Option Nat} {me : Nat → Option Nat} (hC : isLearnt c) (hU : isText a) (hT : isText b) (hab : a ≠ b) {s t : Tx} {L : Le} (hF : 200000 ≤ F) (hL : lrn (le c) (pg (aLearnt_first c)) (pg (aLearnt_second c)) L) (hs : txt (tx a) s) (ht : txt (tx b) t) : ∃ v u r, txt v u ∧ f_X4_makes F c a b (mk (tx, pg, le, ln, tk, bd, vi, va, vl, vj, la, me)) = some (I ((r : Nat) : Int), mk ((up tx b v), pg, le, ln, tk, bd, vi, va, vl, vj, la, me)) ∧ (mkL L s = some u ∧ r = 1 ∨ mkL L s = none ∧ r = 0) := by
  have hP1 := is_Learnt_first hC
  have hP2 := is_Learnt_second hC
  rcases L with _ | ⟨_ | d, p, q⟩
  · refine ⟨tx b, t, 0, ht, ?_, Or.inr ⟨rfl, rfl⟩⟩
    have hL : (le c).1 = I ((0 : Nat) : Int) := hL
    rw [up_self]
    simp (disch := first | assumption | omega | exact is_Script_draft | exact is_Script_made | exact is_Learner_made | exact is_Learner_madeFirst | (apply is_eScript_tasks; omega) | (apply is_eScript_lines; omega) | (apply is_eScript_ranBy; omega)) only [↓reduceIte, ↓I_n1, obs, I_0n, l_1, l_2, l_3, l_4, l_5, l_6, l_7, l_8, l_11, l_12, l_15, l_16, l_18, l_20, l_21, l_29, l_30, l_31, l_32, l_33, l_39, l_40, l_44, l_45, l_46, l_47, l_48, l_53, l_57, l_63, l_64, l_65, l_66, l_71, l_72, l_75, l_90, l_97, l_120, l_122, l_127, l_128, l_1812, l_3600, l_4000, l_252645135, l_268435456, l_858993459, l_1431655765, I_add, I_mul, I_sub, I_addN, I_mulN, I_subN, ilt_t, ilt_f, ile_t, ile_f, ieq_t, ieq_f, up_same, up_up, I_and, I_or, I_shlN, I_shrN, I_divN, I_remN, dzI, i2cI, narI, Int.toNat_natCast, true_or, or_true, false_or, or_false, true_and, and_true, false_and, and_false, not_true_eq_false, not_false_eq_true, cLearnt, gLearnt_first, gLearnt_second, gLearnt_any, pLearnt_any, gLearnt_parting, pLearnt_parting, b_X4_makes_33, f_X4_makes_33, b_X4_makes_0, f_X4_makes_0, f_X4_makes, hL]
  · obtain ⟨h1, h2, h3⟩ := hL
    obtain ⟨v, u, r, hv, e, hr⟩ := x_progMakes (F := F) (tx := tx) (pg := pg) (le := le) (ln := ln) (tk := tk) (bd := bd) (vi := vi) (va := va) (vl := vl) (vj := vj) (la := la) (me := me) hP1 hU hT hab hF h3 hs
    refine ⟨v, u, r, hv, ?_, hr⟩
    have hr2 : r = 0 ∨ r = 1 := by omega
    rcases hr2 with rfl | rfl <;> simp (disch := first | assumption | omega | exact is_Script_draft | exact is_Script_made | exact is_Learner_made | exact is_Learner_madeFirst | (apply is_eScript_tasks; omega) | (apply is_eScript_lines; omega) | (apply is_eScript_ranBy; omega)) only [↓reduceIte, ↓I_n1, obs, I_0n, l_1, l_2, l_3, l_4, l_5, l_6, l_7, l_8, l_11, l_12, l_15, l_16, l_18, l_20, l_21, l_29, l_30, l_31, l_32, l_33, l_39, l_40, l_44, l_45, l_46, l_47, l_48, l_53, l_57, l_63, l_64, l_65, l_66, l_71, l_72, l_75, l_90, l_97, l_120, l_122, l_127, l_128, l_1812, l_3600, l_4000, l_252645135, l_268435456, l_858993459, l_1431655765, I_add, I_mul, I_sub, I_addN, I_mulN, I_subN, ilt_t, ilt_f, ile_t, ile_f, ieq_t, ieq_f, up_same, up_up, I_and, I_or, I_shlN, I_shrN, I_divN, I_remN, dzI, i2cI, narI, Int.toNat_natCast, true_or, or_true, false_or, or_false, true_and, and_true, false_and, and_false, not_true_eq_false, not_false_eq_true, cLearnt, gLearnt_first, gLearnt_second, gLearnt_any, pLearnt_any, gLearnt_parting, pLearnt_parting, b_X4_makes_33, f_X4_makes_33, b_X4_makes_0, f_X4_makes_0, f_X4_makes, h1, h2, e]
  · obtain ⟨h1, h2, hd, h3, h4⟩ := hL
    have eh := x_holds (F := F) (tx := tx) (pg := pg) (le := le) (ln := ln) (tk := tk) (bd := bd) (vi := vi) (va := va) (vl := vl) (vj := vj) (la := la) (me := me) hU hF hs hd
    cases hh : hld d s
    · rw [hh] at eh
      have eh : f_X4_holds F (I (d : Nat)) a (mk (tx, pg, le, ln, tk, bd, vi, va, vl, vj, la, me)) = some (I ((0 : Nat) : Int), mk (tx, pg, le, ln, tk, bd, vi, va, vl, vj, la, me)) := eh
      obtain ⟨v, u, r, hv, e, hr⟩ := x_progMakes (F := F) (tx := tx) (pg := pg) (le := le) (ln := ln) (tk := tk) (bd := bd) (vi := vi) (va := va) (vl := vl) (vj := vj) (la := la) (me := me) hP2 hU hT hab hF h4 hs
      refine ⟨v, u, r, hv, ?_, by simp only [mkL, hh]; exact hr⟩
      have hr2 : r = 0 ∨ r = 1 := by omega
      rcases hr2 with rfl | rfl <;> simp (disch := first | assumption | omega | exact is_Script_draft | exact is_Script_made | exact is_Learner_made | exact is_Learner_madeFirst | (apply is_eScript_tasks; omega) | (apply is_eScript_lines; omega) | (apply is_eScript_ranBy; omega)) only [↓reduceIte, ↓I_n1, obs, I_0n, l_1, l_2, l_3, l_4, l_5, l_6, l_7, l_8, l_11, l_12, l_15, l_16, l_18, l_20, l_21, l_29, l_30, l_31, l_32, l_33, l_39, l_40, l_44, l_45, l_46, l_47, l_48, l_53, l_57, l_63, l_64, l_65, l_66, l_71, l_72, l_75, l_90, l_97, l_120, l_122, l_127, l_128, l_1812, l_3600, l_4000, l_252645135, l_268435456, l_858993459, l_1431655765, I_add, I_mul, I_sub, I_addN, I_mulN, I_subN, ilt_t, ilt_f, ile_t, ile_f, ieq_t, ieq_f, up_same, up_up, I_and, I_or, I_shlN, I_shrN, I_divN, I_remN, dzI, i2cI, narI, Int.toNat_natCast, true_or, or_true, false_or, or_false, true_and, and_true, false_and, and_false, not_true_eq_false, not_false_eq_true, cLearnt, gLearnt_first, gLearnt_second, gLearnt_any, pLearnt_any, gLearnt_parting, pLearnt_parting, b_X4_makes_33, f_X4_makes_33, b_X4_makes_0, f_X4_makes_0, f_X4_makes, h1, h2, eh, e]
    · rw [hh] at eh
      have eh : f_X4_holds F (I (d : Nat)) a (mk (tx, pg, le, ln, tk, bd, vi, va, vl, vj, la, me)) = some (I ((1 : Nat) : Int), mk (tx, pg, le, ln, tk, bd, vi, va, vl, vj, la, me)) := eh
      obtain ⟨v, u, r, hv, e, hr⟩ := x_progMakes (F := F) (tx := tx) (pg := pg) (le := le) (ln := ln) (tk := tk) (bd := bd) (vi := vi) (va := va) (vl := vl) (vj := vj) (la := la) (me := me) hP1 hU hT hab hF h3 hs
      refine ⟨v, u, r, hv, ?_, by simp only [mkL, hh]; exact hr⟩
      have hr2 : r = 0 ∨ r = 1 := by omega
      rcases hr2 with rfl | rfl <;> simp (disch := first | assumption | omega | exact is_Script_draft | exact is_Script_made | exact is_Learner_made | exact is_Learner_madeFirst | (apply is_eScript_tasks; omega) | (apply is_eScript_lines; omega) | (apply is_eScript_ranBy; omega)) only [↓reduceIte, ↓I_n1, obs, I_0n, l_1, l_2, l_3, l_4, l_5, l_6, l_7, l_8, l_11, l_12, l_15, l_16, l_18, l_20, l_21, l_29, l_30, l_31, l_32, l_33, l_39, l_40, l_44, l_45, l_46, l_47, l_48, l_53, l_57, l_63, l_64, l_65, l_66, l_71, l_72, l_75, l_90, l_97, l_120, l_122, l_127, l_128, l_1812, l_3600, l_4000, l_252645135, l_268435456, l_858993459, l_1431655765, I_add, I_mul, I_sub, I_addN, I_mulN, I_subN, ilt_t, ilt_f, ile_t, ile_f, ieq_t, ieq_f, up_same, up_up, I_and, I_or, I_shlN, I_shrN, I_divN, I_remN, dzI, i2cI, narI, Int.toNat_natCast, true_or, or_true, false_or, or_false, true_and, and_true, false_and, and_false, not_true_eq_false, not_false_eq_true, cLearnt, gLearnt_first, gLearnt_second, gLearnt_any, pLearnt_any, gLearnt_parting, pLearnt_parting, b_X4_makes_33, f_X4_makes_33, b_X4_makes_0, f_X4_makes_0, f_X4_makes, h1, h2, eh, e]
end
