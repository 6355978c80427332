/-! THE WALK: WHAT IT HAS AND WHAT IT GIVES -/
section
variable {F : Nat}
theorem x_setRow11 {a : Nat} (hP : isProg a) {p : List At} (h4 : p.length ≤ 4) : ∀ (f i : Nat) (tx : Nat → ZText) (pg : Nat → ZProg) (le : Nat → ZLearnt) (ln : Nat → ZLine) (tk : Nat → ZTask) (bd : Nat → ZBoard) (vi : Nat → Int32) (va : Nat → Nat → Int32) (vl : Nat → Nat → Int64) (vj : Int64) (la : Option Nat) (me : Nat → Option Nat), i ≤ p.length → p.length - i < f → (∀ j, j < p.length → va 519 j = I (enc (ga p j) : Nat)) → (pg a).2 = I (p.length : Nat) → (∀ j, j < i → (pg a).1 j = I (enc (ga p j) : Nat)) → ∃ pg', f_X6_setRow_11 F f a aFinder_row (I (i : Nat)) (mk (tx, pg, le, ln, tk, bd, vi, va, vl, vj, la, me)) = some (mk (tx, (pg'), le, ln, tk, bd, vi, va, vl, vj, la, me)) ∧ (pg' a).2 = I (p.length : Nat) ∧ (∀ j, j < p.length → (pg' a).1 j = I (enc (ga p j) : Nat)) ∧ ∀ b, b ≠ a → pg' b = pg b := by
  intro f
  induction f with
  | zero => intros; omega
  | succ f ih =>
    intro i tx pg le ln tk bd vi va vl vj la me hi hf hr hs hd
    rw [s_X6_setRow_11]
    by_cases c : i < p.length
    · have hri := hr i c
      obtain ⟨pg1, hpg1⟩ : ∃ pg1, pg1 = up pg a (upd (pg a).1 i (I (enc (ga p i) : Nat)), (pg a).2) := ⟨_, rfl⟩
      obtain ⟨pg', e', h1, h2, h3⟩ := ih (i + 1) tx (pg1) le ln tk bd vi va vl vj la me (by omega) (by omega) hr (by rw [hpg1, up_same]; exact hs) (fun j hj => by
        rw [hpg1, up_same]
        show upd (pg a).1 i (I (enc (ga p i) : Nat)) j = _
        unfold upd
        by_cases q : j = i
        · subst q
          rw [if_pos rfl]
        · rw [if_neg q]
          exact hd j (by omega))
      refine ⟨pg', ?_, h1, h2, fun b hb => (h3 b hb).trans (by rw [hpg1, up_ne hb])⟩
      rw [← e', hpg1]
      simp (disch := first | assumption | omega | exact is_Script_draft | exact is_Script_made | exact is_Learner_made | exact is_Learner_madeFirst | (apply is_eScript_tasks; omega) | (apply is_eScript_lines; omega) | (apply is_eScript_ranBy; omega)) only [↓reduceIte, ↓I_n1, obs, I_0n, l_1, l_2, l_3, l_4, l_5, l_6, l_7, l_8, l_11, l_12, l_15, l_16, l_18, l_20, l_21, l_29, l_30, l_31, l_32, l_33, l_39, l_40, l_44, l_45, l_46, l_47, l_48, l_53, l_57, l_63, l_64, l_65, l_66, l_71, l_72, l_75, l_90, l_97, l_120, l_122, l_127, l_128, l_1812, l_3600, l_4000, l_252645135, l_268435456, l_858993459, l_1431655765, I_add, I_mul, I_sub, I_addN, I_mulN, I_subN, ilt_t, ilt_f, ile_t, ile_f, ieq_t, ieq_f, up_same, up_up, I_and, I_or, I_shlN, I_shrN, I_divN, I_remN, dzI, i2cI, narI, Int.toNat_natCast, true_or, or_true, false_or, or_false, true_and, and_true, false_and, and_false, not_true_eq_false, not_false_eq_true, cProg, gProg_atoms, nProg_atoms, rProg_atoms, wProg_atoms, gProg_size, pProg_size, cFinder, gFinder_found, nFinder_found, rFinder_found, gFinder_foundCount, pFinder_foundCount, gFinder_stock, gFinder_lookedAt, pFinder_lookedAt, gFinder_boardCount, pFinder_boardCount, gFinder_pins, nFinder_pins, rFinder_pins, wFinder_pins, gFinder_pinIndexes, nFinder_pinIndexes, rFinder_pinIndexes, wFinder_pinIndexes, gFinder_isPinned, pFinder_isPinned, gFinder_ways, nFinder_ways, rFinder_ways, wFinder_ways, gFinder_knownKeys, nFinder_knownKeys, rFinder_knownKeys, wFinder_knownKeys, gFinder_knownEndings, nFinder_knownEndings, rFinder_knownEndings, wFinder_knownEndings, gFinder_searches, pFinder_searches, gFinder_at_, nFinder_at_, rFinder_at_, wFinder_at_, gFinder_row, nFinder_row, rFinder_row, wFinder_row, b_X6_setRow_11, hs, hri]
    · refine ⟨pg, ?_, hs, fun j hj => hd j (by omega), fun _ _ => rfl⟩
      simp (disch := first | assumption | omega | exact is_Script_draft | exact is_Script_made | exact is_Learner_made | exact is_Learner_madeFirst | (apply is_eScript_tasks; omega) | (apply is_eScript_lines; omega) | (apply is_eScript_ranBy; omega)) only [↓reduceIte, ↓I_n1, obs, I_0n, l_1, l_2, l_3, l_4, l_5, l_6, l_7, l_8, l_11, l_12, l_15, l_16, l_18, l_20, l_21, l_29, l_30, l_31, l_32, l_33, l_39, l_40, l_44, l_45, l_46, l_47, l_48, l_53, l_57, l_63, l_64, l_65, l_66, l_71, l_72, l_75, l_90, l_97, l_120, l_122, l_127, l_128, l_1812, l_3600, l_4000, l_252645135, l_268435456, l_858993459, l_1431655765, I_add, I_mul, I_sub, I_addN, I_mulN, I_subN, ilt_t, ilt_f, ile_t, ile_f, ieq_t, ieq_f, up_same, up_up, I_and, I_or, I_shlN, I_shrN, I_divN, I_remN, dzI, i2cI, narI, Int.toNat_natCast, true_or, or_true, false_or, or_false, true_and, and_true, false_and, and_false, not_true_eq_false, not_false_eq_true, cProg, gProg_atoms, nProg_atoms, rProg_atoms, wProg_atoms, gProg_size, pProg_size, cFinder, gFinder_found, nFinder_found, rFinder_found, gFinder_foundCount, pFinder_foundCount, gFinder_stock, gFinder_lookedAt, pFinder_lookedAt, gFinder_boardCount, pFinder_boardCount, gFinder_pins, nFinder_pins, rFinder_pins, wFinder_pins, gFinder_pinIndexes, nFinder_pinIndexes, rFinder_pinIndexes, wFinder_pinIndexes, gFinder_isPinned, pFinder_isPinned, gFinder_ways, nFinder_ways, rFinder_ways, wFinder_ways, gFinder_knownKeys, nFinder_knownKeys, rFinder_knownKeys, wFinder_knownKeys, gFinder_knownEndings, nFinder_knownEndings, rFinder_knownEndings, wFinder_knownEndings, gFinder_searches, pFinder_searches, gFinder_at_, nFinder_at_, rFinder_at_, wFinder_at_, gFinder_row, nFinder_row, rFinder_row, wFinder_row, b_X6_setRow_11, hs]
theorem x_setRow {a : Nat} {tx : Nat → ZText} {pg : Nat → ZProg} {le : Nat → ZLearnt} {ln : Nat → ZLine} {tk : Nat → ZTask} {bd : Nat → ZBoard} {vi : Nat → Int32} {va : Nat → Nat → Int32} {vl : Nat → Nat → Int64} {vj : Int64} {la : Option Nat} {me : Nat → Option Nat} (hF : 200000 ≤ F) (hP : isProg a) {p : List At} (h4 : p.length ≤ 4) (hok : ∀ x, x ∈ p → okA x) (hr : ∀ j, j < p.length → va 519 j = I (enc (ga p j) : Nat)) : ∃ pg', f_X6_setRow F a aFinder_row (I (p.length : Nat)) (mk (tx, pg, le, ln, tk, bd, vi, va, vl, vj, la, me)) = some (mk (tx, (pg'), le, ln, tk, bd, vi, va, vl, vj, la, me)) ∧ prg (pg' a) p ∧ ∀ b, b ≠ a → pg' b = pg b := by
  obtain ⟨pg', e', h1, h2, h3⟩ := x_setRow11 (F := F) hP h4 F 0 tx (up pg a ((pg a).1, I (p.length : Nat))) le ln tk bd vi va vl vj la me (Nat.zero_le _) (by omega) hr (by rw [up_same]) (fun j hj => absurd hj (Nat.not_lt_zero _))
  refine ⟨pg', ?_, ⟨h1, h4, hok, h2⟩, fun b hb => (h3 b hb).trans (up_ne hb)⟩
  rw [← e']
  by_cases c : p.length = 4
  · rw [c]
    simp (disch := first | assumption | omega | exact is_Script_draft | exact is_Script_made | exact is_Learner_made | exact is_Learner_madeFirst | (apply is_eScript_tasks; omega) | (apply is_eScript_lines; omega) | (apply is_eScript_ranBy; omega)) only [↓reduceIte, ↓I_n1, obs, I_0n, l_1, l_2, l_3, l_4, l_5, l_6, l_7, l_8, l_11, l_12, l_15, l_16, l_18, l_20, l_21, l_29, l_30, l_31, l_32, l_33, l_39, l_40, l_44, l_45, l_46, l_47, l_48, l_53, l_57, l_63, l_64, l_65, l_66, l_71, l_72, l_75, l_90, l_97, l_120, l_122, l_127, l_128, l_1812, l_3600, l_4000, l_252645135, l_268435456, l_858993459, l_1431655765, I_add, I_mul, I_sub, I_addN, I_mulN, I_subN, ilt_t, ilt_f, ile_t, ile_f, ieq_t, ieq_f, up_same, up_up, I_and, I_or, I_shlN, I_shrN, I_divN, I_remN, dzI, i2cI, narI, Int.toNat_natCast, true_or, or_true, false_or, or_false, true_and, and_true, false_and, and_false, not_true_eq_false, not_false_eq_true, cProg, gProg_atoms, nProg_atoms, rProg_atoms, wProg_atoms, gProg_size, pProg_size, b_X6_setRow_11, b_X6_setRow_0, f_X6_setRow_0, f_X6_setRow, mnI]
  · simp (disch := first | assumption | omega | exact is_Script_draft | exact is_Script_made | exact is_Learner_made | exact is_Learner_madeFirst | (apply is_eScript_tasks; omega) | (apply is_eScript_lines; omega) | (apply is_eScript_ranBy; omega)) only [↓reduceIte, ↓I_n1, obs, I_0n, l_1, l_2, l_3, l_4, l_5, l_6, l_7, l_8, l_11, l_12, l_15, l_16, l_18, l_20, l_21, l_29, l_30, l_31, l_32, l_33, l_39, l_40, l_44, l_45, l_46, l_47, l_48, l_53, l_57, l_63, l_64, l_65, l_66, l_71, l_72, l_75, l_90, l_97, l_120, l_122, l_127, l_128, l_1812, l_3600, l_4000, l_252645135, l_268435456, l_858993459, l_1431655765, I_add, I_mul, I_sub, I_addN, I_mulN, I_subN, ilt_t, ilt_f, ile_t, ile_f, ieq_t, ieq_f, up_same, up_up, I_and, I_or, I_shlN, I_shrN, I_divN, I_remN, dzI, i2cI, narI, Int.toNat_natCast, true_or, or_true, false_or, or_false, true_and, and_true, false_and, and_false, not_true_eq_false, not_false_eq_true, cProg, gProg_atoms, nProg_atoms, rProg_atoms, wProg_atoms, gProg_size, pProg_size, b_X6_setRow_11, b_X6_setRow_0, f_X6_setRow_0, f_X6_setRow, mnI]
end
/-- the programs found -/
def gpf (fs : List (List At)) (i : Nat) : List At := fs.getD i []
def fnd (pg : Nat → ZProg) (vi : Nat → Int32) (fs : List (List At)) : Prop := vi 101 = I (fs.length : Nat) ∧ fs.length ≤ 5 ∧ ∀ i, i < fs.length → prg (pg (eFinder_found i)) (gpf fs i)
theorem gpf_app {fs : List (List At)} {p : List At} {i : Nat} (h : i < (fs ++ [p]).length) : gpf (fs ++ [p]) i = if i < fs.length then gpf fs i else p := by
  rw [List.length_append, List.length_singleton] at h
  unfold gpf
  rw [List.getD_eq_getElem?_getD, List.getD_eq_getElem?_getD]
  by_cases c : i < fs.length
  · rw [if_pos c, List.getElem?_append_left c]
  · rw [if_neg c, List.getElem?_append_right (by omega), show i - fs.length = 0 by omega]
    rfl
theorem ga_app {p : List At} {x : At} {i : Nat} (h : i < (p ++ [x]).length) : ga (p ++ [x]) i = if i < p.length then ga p i else x := by
  rw [List.length_append, List.length_singleton] at h
  unfold ga
  rw [List.getD_eq_getElem?_getD, List.getD_eq_getElem?_getD]
  by_cases c : i < p.length
  · rw [if_pos c, List.getElem?_append_left c]
  · rw [if_neg c, List.getElem?_append_right (by omega), show i - p.length = 0 by omega]
    rfl
theorem tk_tk {α : Type} (a b c : List α) : ((a ++ b).take 5 ++ c).take 5 = (a ++ (b ++ c)).take 5 := by
  rw [← List.append_assoc, List.take_append, List.take_append (l₁ := a ++ b), List.take_take, Nat.min_self, List.length_take]
  congr 1
  by_cases h : (a ++ b).length ≤ 5
  · rw [Nat.min_eq_right h]
  · rw [Nat.min_eq_left (by omega), show 5 - (a ++ b).length = 0 by omega, Nat.sub_self, List.take_zero]
theorem tk_full {α : Type} {a b : List α} (h : 5 ≤ a.length) (h' : a.length ≤ 5) : (a ++ b).take 5 = a := by
  rw [List.take_append, List.take_of_length_le h', show 5 - a.length = 0 by omega, List.take_zero, List.append_nil]
theorem tk_nil {α : Type} {a : List α} (h' : a.length ≤ 5) : (a ++ []).take 5 = a := by
  rw [List.append_nil, List.take_of_length_le h']
def cpreB (ms : List (Tx × Tx)) (ps : List Nat) (n : Nat) : Bool := decide (∀ i, i < ms.length → gn ps i + n ≤ (gm ms i).2.length ∧ ((gm ms i).2.drop (gn ps i)).take n = ((gm ms 0).2.drop (gn ps 0)).take n)
theorem cpreB_iff {ms : List (Tx × Tx)} {ps : List Nat} {n : Nat} : cpreB ms ps n = true ↔ cpre ms ps n := by
  unfold cpreB cpre
  exact decide_eq_true_iff
/-- the parts of what can follow: one length of own signs, one code -/
def cC (P : Nat → Option At) (ms : List (Tx × Tx)) (n k : Nat) (r : Int) (ps : List Nat) (n' : Nat) : List (List At) := if cpreB ms ps n' = true ∧ pinOk (P k) (.inl (cl0 ms ps n')) = true then (comps P ms n (k + 1) (r - wt (.inl (cl0 ms ps n'))) (psadd ms ps n')).map (.inl (cl0 ms ps n') :: ·) else []
def cA (P : Nat → Option At) (ms : List (Tx × Tx)) (n k : Nat) (r : Int) (ps : List Nat) (m : Nat) : List (List At) := match stAll (.inr m) ms ps with
  | none => []
  | some qs => if pinOk (P k) (.inr m) = true then (comps P ms n (k + 1) (r - wt (.inr m)) qs).map (.inr m :: ·) else []
theorem flatMap_filterMap' {α β γ : Type} {f : α → Option β} {g : β → List γ} : ∀ {l : List α}, (l.filterMap f).flatMap g = l.flatMap (fun a => match f a with | none => [] | some b => g b)
  | [] => rfl
  | a :: l => by
    rw [List.filterMap_cons, List.flatMap_cons, ← flatMap_filterMap' (l := l)]
    cases f a with
    | none => rfl
    | some b => exact List.flatMap_cons
theorem flatMap_congr' {α β : Type} {f g : α → List β} : ∀ {l : List α}, (∀ a, a ∈ l → f a = g a) → l.flatMap f = l.flatMap g
  | [], _ => rfl
  | a :: l, h => by
    rw [List.flatMap_cons, List.flatMap_cons, h a List.mem_cons_self, flatMap_congr' (fun b hb => h b (List.mem_cons_of_mem _ hb))]
theorem flatMap_filter' {α β : Type} {p : α → Bool} {g : α → List β} : ∀ {l : List α}, (∀ a, a ∈ l → p a = false → g a = []) → l.flatMap g = (l.filter p).flatMap g
  | [], _ => rfl
  | a :: l, h => by
    rw [List.flatMap_cons, flatMap_filter' (p := p) (fun b hb => h b (List.mem_cons_of_mem _ hb)), List.filter_cons]
    cases c : p a
    · rw [h a List.mem_cons_self c, if_neg (by decide)]
      rfl
    · rw [if_pos rfl, List.flatMap_cons]
theorem csts_eq {ms : List (Tx × Tx)} {ps : List Nat} (hm : 1 ≤ ms.length) (hl : ps.length = ms.length) : csts ms ps = (List.range' 1 4).filterMap (fun n => if gn ps 0 + n ≤ (gm ms 0).2.length then some (.inl (cl0 ms ps n)) else none) := by
  obtain _ | ⟨m0, ms⟩ := ms
  · exact absurd hm (by decide)
  obtain _ | ⟨p0, ps⟩ := ps
  · exact absurd hl (by simp)
  rfl
theorem comps_split {P : Nat → Option At} {ms : List (Tx × Tx)} {n k : Nat} {r : Int} {ps : List Nat} (hM : okM ms) (hm : 1 ≤ ms.length) (hp : psOk ms ps) : comps P ms (n + 1) k r ps = (List.range' 1 4).flatMap (cC P ms n k r ps) ++ (stN ms 3672).flatMap (cA P ms n k r ps) := by
  show (nxt ms ps).flatMap _ = _
  unfold nxt cand
  rw [flatMap_filterMap', List.flatMap_append]
  refine congr (congrArg HAppend.hAppend ?_) ?_
  · rw [csts_eq hm hp.1, flatMap_filterMap']
    refine flatMap_congr' fun n' hn' => ?_
    unfold cC
    by_cases hl : gn ps 0 + n' ≤ (gm ms 0).2.length
    · rw [if_pos hl]
      dsimp only
      have hst := cpre_st hp hl
      by_cases hc : cpre ms ps n'
      · rw [hst.1 hc]
        dsimp only [Option.map]
        by_cases hpo : pinOk (P k) (.inl (cl0 ms ps n')) = true
        · rw [if_pos hpo, if_pos ⟨cpreB_iff.mpr hc, hpo⟩]
        · rw [if_neg hpo, if_neg (fun h => hpo h.2)]
      · rw [hst.2 hc, if_neg (fun h => hc (cpreB_iff.mp h.1))]
        rfl
    · rw [if_neg hl, if_neg (fun h => hl (cpreB_iff.mp h.1 0 (by omega)).1)]
  · rw [List.flatMap_map]
    refine (flatMap_congr' (g := cA P ms n k r ps) (fun m _ => ?_)).trans ?_
    · unfold cA
      cases stAll (.inr m) ms ps <;> rfl
    unfold stN
    refine flatMap_filter' fun m hm' hu => ?_
    unfold cA
    cases hs : stAll (.inr m) ms ps with
    | none => rfl
    | some qs =>
      have := stN_mem hM (List.mem_range.mp hm') (fun j hj => ⟨_, _, ((stAll_iff hp.1).mp hs).2 j hj⟩)
      rw [(List.mem_filter.mp this).2] at hu
      cases hu
