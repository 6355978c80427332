/-! THE LEARNER: SETS THAT WERE TRIED -/
def fitS (P : Nat → Option At) (E : Nat → Tx × Tx) (R : List (Tx × Tx)) (z : Nat) : Option (List At) := (best P (mset E z)).find? (fun p => fitP p R)
def trO (va : Nat → Nat → Int32) (pg : Nat → ZProg) (P : Nat → Option At) (E : Nat → Tx × Tx) (R : List (Tx × Tx)) : Prop := ∀ z, z < 16 → ∃ r : Nat, va 531 z = I (r : Nat) ∧ (r = 0 ∨ r = 1 ∧ fitS P E R z = none ∨ r = 2 ∧ ∃ p, fitS P E R z = some p ∧ prg (pg (eLearner_chosen z)) p)
theorem trO_two {va : Nat → Nat → Int32} {pg : Nat → ZProg} {P : Nat → Option At} {E : Nat → Tx × Tx} {R : List (Tx × Tx)} {z : Nat} (h : trO va pg P E R) (hz : z < 16) (h2 : va 531 z = I ((2 : Nat) : Int)) : ∃ p, fitS P E R z = some p ∧ prg (pg (eLearner_chosen z)) p := by
  obtain ⟨r, e, h | h | h⟩ := h z hz
  · rw [h, h2] at e
    exact absurd e (by decide)
  · rw [h.1, h2] at e
    exact absurd e (by decide)
  · exact h.2
theorem bOK_up {tx : Nat → ZText} {bd : Nat → ZBoard} {E : Nat → Tx × Tx} {n : Nat} {v : ZText} {a : Nat} (hn : n ≤ 4) (ha : 520 ≤ a) (h : bOK tx bd E n) : bOK (up tx a v) bd E n := fun i hi => by
  obtain ⟨b1, b2⟩ := h i hi
  refine ⟨?_, b2⟩
  unfold brd at b1 ⊢
  rw [up_ne (a := a) (b := aBoard_was (eStock_boards i)) (by (first | omega | (simp only [aText_signs, aText_placesOf, aProg_atoms, aLearnt_first, aLearnt_second, aLine_came, aLine_now, aLine_steps, aTask_was, eTask_was, aTask_shown, eTask_shown, aTask_lineOf, aTask_refusedOf, eTask_refusedOf, aTask_refused, eTask_refused, aTask_pins, aTask_learnt, aTask_best, eTask_best, aBoard_was, aBoard_shown, aBoard_spots, aBoard_placesOfSign, aBoard_cutPlaces, aBoard_eachPlaces, aBoard_eachSizes, aBoard_made, aFinder, aFinder_found, eFinder_found, aFinder_pins, aFinder_pinIndexes, aFinder_ways, aFinder_knownKeys, aFinder_knownEndings, aFinder_at_, aFinder_row, aStock, aStock_boards, eStock_boards, aStock_members, aStock_atoms, aStock_weights, aStock_places, aStock_sizes, aStock_shared, aStock_groups, aStock_groupWeights, aStock_newest, aStock_older, aLearner, aLearner_chosen, eLearner_chosen, aLearner_tried, aLearner_made, aLearner_madeFirst, aScript, aScript_draft, aScript_made, aScript_tasks, eScript_tasks, aScript_lines, eScript_lines, aScript_ranBy, eScript_ranBy, aScript_runCounts] at *; omega))), up_ne (a := a) (b := aBoard_shown (eStock_boards i)) (by (first | omega | (simp only [aText_signs, aText_placesOf, aProg_atoms, aLearnt_first, aLearnt_second, aLine_came, aLine_now, aLine_steps, aTask_was, eTask_was, aTask_shown, eTask_shown, aTask_lineOf, aTask_refusedOf, eTask_refusedOf, aTask_refused, eTask_refused, aTask_pins, aTask_learnt, aTask_best, eTask_best, aBoard_was, aBoard_shown, aBoard_spots, aBoard_placesOfSign, aBoard_cutPlaces, aBoard_eachPlaces, aBoard_eachSizes, aBoard_made, aFinder, aFinder_found, eFinder_found, aFinder_pins, aFinder_pinIndexes, aFinder_ways, aFinder_knownKeys, aFinder_knownEndings, aFinder_at_, aFinder_row, aStock, aStock_boards, eStock_boards, aStock_members, aStock_atoms, aStock_weights, aStock_places, aStock_sizes, aStock_shared, aStock_groups, aStock_groupWeights, aStock_newest, aStock_older, aLearner, aLearner_chosen, eLearner_chosen, aLearner_tried, aLearner_made, aLearner_madeFirst, aScript, aScript_draft, aScript_made, aScript_tasks, eScript_tasks, aScript_lines, eScript_lines, aScript_ranBy, eScript_ranBy, aScript_runCounts] at *; omega)))]
  exact b1
theorem exOK_up {tx : Nat → ZText} {T n a : Nat} {E : Nat → Tx × Tx} {v : ZText} (hT : isTask T) (hn : n ≤ 4) (ha : 440 ≤ a) (h : exOK tx T E n) : exOK (up tx a v) T E n := fun i hi => by
  obtain ⟨l1, l2⟩ := task_low hT (show i < 4 by omega)
  rw [up_ne (by omega), up_ne (by omega)]
  exact h i hi
def LB (tx : Nat → ZText) (pg : Nat → ZProg) (tk : Nat → ZTask) (bd : Nat → ZBoard) (vi : Nat → Int32) (va : Nat → Nat → Int32) (vl : Nat → Nat → Int64) (vj : Int64) (T n : Nat) (E : Nat → Tx × Tx) (P : Nat → Option At) (iP : Bool) (R : List (Tx × Tx)) (S : Nat) : Prop := bOK tx bd E n ∧ pnS va P ∧ pdS vi P iP ∧ kOld vl S ∧ vj = Lg S ∧ rfs tx (tk T) T R ∧ (∃ s, txt (tx aLearner_made) s) ∧ trO va pg P E R ∧ (tk T).2.1 = I (n : Nat) ∧ exOK tx T E n
def frLn (pg pg' : Nat → ZProg) (vi vi' : Nat → Int32) (va va' : Nat → Nat → Int32) : Prop := (∀ a, (∀ i, i < 5 → a ≠ eFinder_found i) → (∀ i, i < 16 → a ≠ eLearner_chosen i) → pg' a = pg a) ∧ (∀ k, k ≠ 101 → k ≠ 607 → k ≠ 611 → k ≠ 602 → vi' k = vi k) ∧ (∀ K, K < 444 ∨ 452 < K → K ≠ 518 → K ≠ 519 → K ≠ 514 → K ≠ 531 → va' K = va K) ∧ ∀ z, z < 16 → va 531 z = I ((2 : Nat) : Int) → va' 531 z = I ((2 : Nat) : Int)
theorem frLn_refl {pg : Nat → ZProg} {vi : Nat → Int32} {va : Nat → Nat → Int32} : frLn pg pg vi vi va va := ⟨fun _ _ _ => rfl, fun _ _ _ _ _ => rfl, fun _ _ _ _ _ _ => rfl, fun _ _ h => h⟩
section
variable {F : Nat}
theorem x_il {T n S Sx : Nat} {E : Nat → Tx × Tx} {P : Nat → Option At} {iP : Bool} {R : List (Tx × Tx)} {tx : Nat → ZText} {pg : Nat → ZProg} {le : Nat → ZLearnt} {ln : Nat → ZLine} {tk : Nat → ZTask} {bd : Nat → ZBoard} {vi : Nat → Int32} {va : Nat → Nat → Int32} {vl : Nat → Nat → Int64} {vj : Int64} {la : Option Nat} {me : Nat → Option Nat} (hF : 200000 ≤ F) (hT : isTask T) (hn : n ≤ 4) (hS : Sx < 2 ^ n) (h0 : Sx ≠ 0) (hP : pnOk P) (hL : LB tx pg tk bd vi va vl vj T n E P iP R S) (hSb : S + 1 < 4000000000) : ∃ v pg' vi' va' vl' me' S', f_X3_isLearnable F aLearner T (I (Sx : Nat)) (mk (tx, pg, le, ln, tk, bd, vi, va, vl, vj, la, me)) = some (I ((if (fitS P E R Sx).isSome = true then 1 else 0 : Nat) : Int), mk ((up tx aLearner_made v), (pg'), le, ln, tk, bd, (vi'), (va'), (vl'), (Lg S'), la, (me'))) ∧ LB (up tx aLearner_made v) pg' tk bd vi' va' vl' (Lg S') T n E P iP R S' ∧ S' ≤ S + 1 ∧ frLn pg pg' vi vi' va va' ∧ ((fitS P E R Sx).isSome = true → va' 531 Sx = I ((2 : Nat) : Int)) := by
  have hS16 : Sx < 16 := Nat.lt_of_lt_of_le hS (Nat.pow_le_pow_right (by decide) hn)
  obtain ⟨l1, l2, l3, l4, l5, l6, ⟨s, l7⟩, l8, l9, l10⟩ := id hL
  obtain ⟨r, hr, hcase⟩ := l8 Sx hS16
  rcases hcase with rfl | ⟨rfl, hno⟩ | ⟨rfl, p, hp, hpp⟩
  · obtain ⟨v, u, pg', vi', va', vl', me', r, e, a1, a2, a3, a4, a5, a6, a7⟩ := x_ilFind (F := F) (tx := tx) (pg := pg) (le := le) (ln := ln) (tk := tk) (bd := bd) (vi := vi) (va := va) (vl := vl) (vj := vj) (la := la) (me := me) hF hT l1 hn hS h0 hP l2 l3 l4 l5 hSb l6 l7 hr
    have hres : r = (if (fitS P E R Sx).isSome = true then 1 else 0) ∧ (r = 0 ∧ fitS P E R Sx = none ∨ r = 1 ∧ ∃ p, fitS P E R Sx = some p ∧ prg (pg' (eLearner_chosen Sx)) p) := by
      rcases a7 with ⟨b1, b2⟩ | ⟨p, b1, b2, b3⟩
      · have b1 : fitS P E R Sx = none := b1
        rw [b1]
        exact ⟨b2, Or.inl ⟨b2, rfl⟩⟩
      · have b1 : fitS P E R Sx = some p := b1
        rw [b1]
        exact ⟨b2, Or.inr ⟨b2, p, rfl, b3⟩⟩
    have hz : ∀ z, z ≠ Sx → va' 531 z = va 531 z := fun z hz => by
      rw [a6]
      unfold upd
      rw [if_neg hz]
    have hpg : ∀ z, z < 16 → z ≠ Sx → pg' (eLearner_chosen z) = pg (eLearner_chosen z) := fun z h1 h2 => a5 _ (fun i hi => by (first | omega | (simp only [aText_signs, aText_placesOf, aProg_atoms, aLearnt_first, aLearnt_second, aLine_came, aLine_now, aLine_steps, aTask_was, eTask_was, aTask_shown, eTask_shown, aTask_lineOf, aTask_refusedOf, eTask_refusedOf, aTask_refused, eTask_refused, aTask_pins, aTask_learnt, aTask_best, eTask_best, aBoard_was, aBoard_shown, aBoard_spots, aBoard_placesOfSign, aBoard_cutPlaces, aBoard_eachPlaces, aBoard_eachSizes, aBoard_made, aFinder, aFinder_found, eFinder_found, aFinder_pins, aFinder_pinIndexes, aFinder_ways, aFinder_knownKeys, aFinder_knownEndings, aFinder_at_, aFinder_row, aStock, aStock_boards, eStock_boards, aStock_members, aStock_atoms, aStock_weights, aStock_places, aStock_sizes, aStock_shared, aStock_groups, aStock_groupWeights, aStock_newest, aStock_older, aLearner, aLearner_chosen, eLearner_chosen, aLearner_tried, aLearner_made, aLearner_madeFirst, aScript, aScript_draft, aScript_made, aScript_tasks, eScript_tasks, aScript_lines, eScript_lines, aScript_ranBy, eScript_ranBy, aScript_runCounts] at *; omega))) (by (first | omega | (simp only [aText_signs, aText_placesOf, aProg_atoms, aLearnt_first, aLearnt_second, aLine_came, aLine_now, aLine_steps, aTask_was, eTask_was, aTask_shown, eTask_shown, aTask_lineOf, aTask_refusedOf, eTask_refusedOf, aTask_refused, eTask_refused, aTask_pins, aTask_learnt, aTask_best, eTask_best, aBoard_was, aBoard_shown, aBoard_spots, aBoard_placesOfSign, aBoard_cutPlaces, aBoard_eachPlaces, aBoard_eachSizes, aBoard_made, aFinder, aFinder_found, eFinder_found, aFinder_pins, aFinder_pinIndexes, aFinder_ways, aFinder_knownKeys, aFinder_knownEndings, aFinder_at_, aFinder_row, aStock, aStock_boards, eStock_boards, aStock_members, aStock_atoms, aStock_weights, aStock_places, aStock_sizes, aStock_shared, aStock_groups, aStock_groupWeights, aStock_newest, aStock_older, aLearner, aLearner_chosen, eLearner_chosen, aLearner_tried, aLearner_made, aLearner_madeFirst, aScript, aScript_draft, aScript_made, aScript_tasks, eScript_tasks, aScript_lines, eScript_lines, aScript_ranBy, eScript_ranBy, aScript_runCounts] at *; omega)))
    refine ⟨v, pg', vi', va', vl', me', S + 1, ?_, ⟨bOK_up hn (by decide) l1, fun k hk => ?_, ⟨?_, l3.2⟩, a2, rfl, rfs_up hT (by decide) l6, ⟨u, by rw [up_same]; exact a1⟩, fun z hz16 => ?_, l9, exOK_up hT hn (by decide) l10⟩, Nat.le_refl _, ⟨fun a x y => a5 a x (y Sx hS16), a3, fun K y1 y2 y3 y4 y5 => a4 K y1 y2 y3 y4 y5, fun z hz16 h2 => ?_⟩, fun hsome => ?_⟩
    · rw [← hres.1]
      exact e
    · rw [a4 _ (Or.inr (by decide)) (by decide) (by decide) (by decide) (by decide)]
      exact l2 k hk
    · rw [a3 _ (by decide) (by decide) (by decide) (by decide)]
      exact l3.1
    · by_cases q : z = Sx
      · rw [q]
        refine ⟨r + 1, by rw [a6, updS], ?_⟩
        rcases hres.2 with ⟨c1, c2⟩ | ⟨c1, c2⟩
        · exact Or.inr (Or.inl ⟨by omega, c2⟩)
        · exact Or.inr (Or.inr ⟨by omega, c2⟩)
      · rw [hz z q, hpg z hz16 q]
        exact l8 z hz16
    · by_cases q : z = Sx
      · rw [q, hr] at h2
        exact absurd h2 (by decide)
      · rw [hz z q]
        exact h2
    · rcases hres.2 with ⟨c1, c2⟩ | ⟨c1, c2⟩
      · rw [c2] at hsome
        exact absurd hsome (by decide)
      · rw [a6, updS, c1]
  · have e := x_ilKnown (F := F) (T := T) (tx := tx) (pg := pg) (le := le) (ln := ln) (tk := tk) (bd := bd) (vi := vi) (va := va) (vl := vl) (vj := vj) (la := la) (me := me) hS16 (Or.inl rfl) hr
    refine ⟨tx aLearner_made, pg, vi, va, vl, me, S, ?_, ?_, Nat.le_succ _, frLn_refl, fun hsome => ?_⟩
    · rw [up_self, ← l5, hno]
      exact e
    · rw [up_self, ← l5]
      exact hL
    · rw [hno] at hsome
      exact absurd hsome (by decide)
  · have e := x_ilKnown (F := F) (T := T) (tx := tx) (pg := pg) (le := le) (ln := ln) (tk := tk) (bd := bd) (vi := vi) (va := va) (vl := vl) (vj := vj) (la := la) (me := me) hS16 (Or.inr rfl) hr
    refine ⟨tx aLearner_made, pg, vi, va, vl, me, S, ?_, ?_, Nat.le_succ _, frLn_refl, fun _ => hr⟩
    · rw [up_self, ← l5, hp]
      exact e
    · rw [up_self, ← l5]
      exact hL
end
