/-! THE WAYS OF EACH EXAMPLE ALONE: ALL LAYERS -/
/-- what a layer promises: the steps that all could take are in it -/
def LFi (vl : Nat → Nat → Int64) (P : Nat → Option At) (ms : List (Tx × Tx)) (L N k i : Nat) : Prop := ∀ a, okA a → pinOk (P k) a = true → (∀ j, j < ms.length → ∃ p q, stpA a (gm ms j) p = some q) → ∀ p q, stpA a (gm ms i) p = some q → ∀ b, bj (vl 515 ((N * 4 + i) * 21 + q)) b = true → b + (wt a - 4) < 64 → bj (vl 515 ((L * 4 + i) * 21 + p)) (b + (wt a - 4)) = true
theorem occ_of {s sh : Tx} {p : Nat} (h1 : s ≠ []) (h2 : sh.length ≤ 20) (h : p + s.length ≤ sh.length ∧ (sh.drop p).take s.length = s) : occ s sh ≠ 0 := by
  intro q
  have hs := List.length_pos_iff.mpr h1
  have hb : (occ s sh).testBit p = true := by
    rw [occ_bit, decide_eq_true (by omega)]
    unfold stands
    rw [decide_eq_true h]
    rfl
  rw [q, Nat.zero_testBit] at hb
  cases hb
theorem stpA_le {a : At} {m : Tx × Tx} {p q : Nat} (h : stpA a m p = some q) : p ≤ m.2.length := by
  unfold stpA at h
  obtain ⟨t, -, h⟩ := Option.bind_eq_some_iff.mp h
  split at h
  · next c => omega
  · cases h
theorem stN_mem {ms : List (Tx × Tx)} {n : Nat} (hM : okM ms) (hn : n < 3672) (h : ∀ j, j < ms.length → ∃ p q, stpA (.inr n) (gm ms j) p = some q) : n ∈ stN ms 3672 := by
  refine List.mem_filter.mpr ⟨List.mem_range.mpr hn, decide_eq_true fun i hi => ?_⟩
  obtain ⟨p, q, hs⟩ := h i hi
  obtain ⟨o1, o2, o3, o4⟩ := gm_ok hM hi
  rw [stpA_oc hn o2 o4] at hs
  split at hs
  · next c =>
    intro z
    rw [z, Nat.zero_testBit] at c
    cases c
  · cases hs
theorem gl_ex {L : List Nat} {n : Nat} (h : n ∈ L) : ∃ j, j < L.length ∧ gl L j = n := by
  obtain ⟨j, hj, e⟩ := List.getElem_of_mem h
  refine ⟨j, hj, ?_⟩
  unfold gl
  rw [List.getD_eq_getElem?_getD, List.getElem?_eq_getElem hj, e]
  rfl
section
variable {F : Nat}
theorem x_gl134 {K : Nat → Int32 → Int32 → Int32 → Int32 → cM → Option cM} {P : Nat → Option At} {ms : List (Tx × Tx)} {L : List Nat} {G : Nat} {J W : Nat → Nat} {LL NN : Int} {k i R T : Nat} (hF : 200000 ≤ F) (hP : pnOk P) (hM : okM ms) (h4 : ms.length ≤ 4) (hi : i < ms.length) (hk : k < 4) (hR : R < 44) (hT : T < 44) (hne : R ≠ T) : ∀ (f g : Nat) (tx : Nat → ZText) (pg : Nat → ZProg) (le : Nat → ZLearnt) (ln : Nat → ZLine) (tk : Nat → ZTask) (bd : Nat → ZBoard) (vi : Nat → Int32) (va : Nat → Nat → Int32) (vl : Nat → Nat → Int64) (vj : Int64) (la : Option Nat) (me : Nat → Option Nat), g ≤ G → G + 1 - g ≤ f → pnS va P → stk vi va ms L → grp vi va ms L G J W → ∃ vl', f_X2_gatherLayer_134 F K f aFinder (I LL) (I NN) (I (k : Nat)) (I (i : Nat)) (I ((R * 21 : Nat) : Int)) (I ((T * 21 : Nat) : Int)) (I (g : Nat)) (mk (tx, pg, le, ln, tk, bd, vi, va, vl, vj, la, me)) = K aFinder (I LL) (I NN) (I (k : Nat)) (I ((i + 1 : Nat) : Int)) (mk (tx, pg, le, ln, tk, bd, vi, va, (vl'), vj, la, me)) ∧ frW vl vl' R ∧ monW vl vl' ∧ (P k = none → ∀ g', g ≤ g' → g' < G → ∀ p, (ocp (gl L (J g')) (gm ms i)).testBit p = true → ∀ kk, kk ≤ 12 → (W g').testBit kk = true → wstp vl vl' R T p (sz (gl L (J g')) (gm ms i)) kk) := by
  intro f
  induction f with
  | zero => intros; omega
  | succ f ih =>
    intro g tx pg le ln tk bd vi va vl vj la me hg hf hp hS hG
    obtain ⟨t1, t2, t3, t4⟩ := id hS
    obtain ⟨g1, g2, g3, -, -, -⟩ := id hG
    have hpk := hp k hk
    have hpb := pinI_bd hP (k := k)
    rw [s_X2_gatherLayer_134]
    by_cases c : g < G
    · obtain ⟨j1, j2, j3, j4⟩ := g3 g c
      by_cases d : P k = none
      · have hd := pinI_none.mpr d
        rw [hd] at hpk
        obtain ⟨vl1, e1, f1, n1, h1⟩ := x_gatherAtomWays (F := F) (R := R) (T := T) (tx := tx) (pg := pg) (le := le) (ln := ln) (tk := tk) (bd := bd) (vi := vi) (va := va) (vl := vl) (vj := vj) (la := la) (me := me) hF hM h4 hS j2 hi j4 hR hT hne
        obtain ⟨vl', e', f', m', h'⟩ := ih (g + 1) tx pg le ln tk bd vi va (vl1) vj la me (by omega) (by omega) hp hS hG
        refine ⟨vl', ?_, frW_trans f1 f', monW_trans n1 m', fun _ g' a1 a2 p a3 kk a4 a5 => ?_⟩
        · rw [← e']
          simp (disch := first | assumption | omega | exact is_Script_draft | exact is_Script_made | exact is_Learner_made | exact is_Learner_madeFirst | (apply is_eScript_tasks; omega) | (apply is_eScript_lines; omega) | (apply is_eScript_ranBy; omega)) only [↓reduceIte, ↓I_n1, obs, I_0n, l_1, l_2, l_3, l_4, l_5, l_6, l_7, l_8, l_11, l_12, l_15, l_16, l_18, l_20, l_21, l_29, l_30, l_31, l_32, l_33, l_39, l_40, l_44, l_45, l_46, l_47, l_48, l_53, l_57, l_63, l_64, l_65, l_66, l_71, l_72, l_75, l_90, l_97, l_120, l_122, l_127, l_128, l_1812, l_3600, l_4000, l_252645135, l_268435456, l_858993459, l_1431655765, I_add, I_mul, I_sub, I_addN, I_mulN, I_subN, ilt_t, ilt_f, ile_t, ile_f, ieq_t, ieq_f, up_same, up_up, I_and, I_or, I_shlN, I_shrN, I_divN, I_remN, dzI, i2cI, narI, Int.toNat_natCast, true_or, or_true, false_or, or_false, true_and, and_true, false_and, and_false, not_true_eq_false, not_false_eq_true, cFinder, gFinder_found, nFinder_found, rFinder_found, gFinder_foundCount, pFinder_foundCount, gFinder_stock, gFinder_lookedAt, pFinder_lookedAt, gFinder_boardCount, pFinder_boardCount, gFinder_pins, nFinder_pins, rFinder_pins, wFinder_pins, gFinder_pinIndexes, nFinder_pinIndexes, rFinder_pinIndexes, wFinder_pinIndexes, gFinder_isPinned, pFinder_isPinned, gFinder_ways, nFinder_ways, rFinder_ways, wFinder_ways, gFinder_knownKeys, nFinder_knownKeys, rFinder_knownKeys, wFinder_knownKeys, gFinder_knownEndings, nFinder_knownEndings, rFinder_knownEndings, wFinder_knownEndings, gFinder_searches, pFinder_searches, gFinder_at_, nFinder_at_, rFinder_at_, wFinder_at_, gFinder_row, nFinder_row, rFinder_row, wFinder_row, cStock, gStock_boards, nStock_boards, rStock_boards, gStock_members, nStock_members, rStock_members, wStock_members, gStock_memberCount, pStock_memberCount, gStock_atoms, nStock_atoms, rStock_atoms, wStock_atoms, gStock_weights, nStock_weights, rStock_weights, wStock_weights, gStock_places, nStock_places, rStock_places, wStock_places, gStock_sizes, nStock_sizes, rStock_sizes, wStock_sizes, gStock_atomCount, pStock_atomCount, gStock_shared, nStock_shared, rStock_shared, wStock_shared, gStock_groups, nStock_groups, rStock_groups, wStock_groups, gStock_groupWeights, nStock_groupWeights, rStock_groupWeights, wStock_groupWeights, gStock_groupCount, pStock_groupCount, gStock_newest, nStock_newest, rStock_newest, wStock_newest, gStock_older, nStock_older, rStock_older, wStock_older, b_X2_gatherLayer_134, g1, hpk, j1, j3, e1]
        · by_cases q : g' = g
          · subst q
            exact wstp_r (fun b hb hk => h1 p a3 kk b a4 a5 hb hk) m'
          · exact wstp_l n1 (h' d g' (by omega) a2 p a3 kk a4 a5)
      · have hd : pinI P k ≠ -1 := fun q => d (pinI_none.mp q)
        refine ⟨vl, ?_, frW_refl, monW_refl, fun q => absurd q d⟩
        simp (disch := first | assumption | omega | exact is_Script_draft | exact is_Script_made | exact is_Learner_made | exact is_Learner_madeFirst | (apply is_eScript_tasks; omega) | (apply is_eScript_lines; omega) | (apply is_eScript_ranBy; omega)) only [↓reduceIte, ↓I_n1, obs, I_0n, l_1, l_2, l_3, l_4, l_5, l_6, l_7, l_8, l_11, l_12, l_15, l_16, l_18, l_20, l_21, l_29, l_30, l_31, l_32, l_33, l_39, l_40, l_44, l_45, l_46, l_47, l_48, l_53, l_57, l_63, l_64, l_65, l_66, l_71, l_72, l_75, l_90, l_97, l_120, l_122, l_127, l_128, l_1812, l_3600, l_4000, l_252645135, l_268435456, l_858993459, l_1431655765, I_add, I_mul, I_sub, I_addN, I_mulN, I_subN, ilt_t, ilt_f, ile_t, ile_f, ieq_t, ieq_f, up_same, up_up, I_and, I_or, I_shlN, I_shrN, I_divN, I_remN, dzI, i2cI, narI, Int.toNat_natCast, true_or, or_true, false_or, or_false, true_and, and_true, false_and, and_false, not_true_eq_false, not_false_eq_true, cFinder, gFinder_found, nFinder_found, rFinder_found, gFinder_foundCount, pFinder_foundCount, gFinder_stock, gFinder_lookedAt, pFinder_lookedAt, gFinder_boardCount, pFinder_boardCount, gFinder_pins, nFinder_pins, rFinder_pins, wFinder_pins, gFinder_pinIndexes, nFinder_pinIndexes, rFinder_pinIndexes, wFinder_pinIndexes, gFinder_isPinned, pFinder_isPinned, gFinder_ways, nFinder_ways, rFinder_ways, wFinder_ways, gFinder_knownKeys, nFinder_knownKeys, rFinder_knownKeys, wFinder_knownKeys, gFinder_knownEndings, nFinder_knownEndings, rFinder_knownEndings, wFinder_knownEndings, gFinder_searches, pFinder_searches, gFinder_at_, nFinder_at_, rFinder_at_, wFinder_at_, gFinder_row, nFinder_row, rFinder_row, wFinder_row, cStock, gStock_boards, nStock_boards, rStock_boards, gStock_members, nStock_members, rStock_members, wStock_members, gStock_memberCount, pStock_memberCount, gStock_atoms, nStock_atoms, rStock_atoms, wStock_atoms, gStock_weights, nStock_weights, rStock_weights, wStock_weights, gStock_places, nStock_places, rStock_places, wStock_places, gStock_sizes, nStock_sizes, rStock_sizes, wStock_sizes, gStock_atomCount, pStock_atomCount, gStock_shared, nStock_shared, rStock_shared, wStock_shared, gStock_groups, nStock_groups, rStock_groups, wStock_groups, gStock_groupWeights, nStock_groupWeights, rStock_groupWeights, wStock_groupWeights, gStock_groupCount, pStock_groupCount, gStock_newest, nStock_newest, rStock_newest, wStock_newest, gStock_older, nStock_older, rStock_older, wStock_older, b_X2_gatherLayer_134, g1, hpk]
    · refine ⟨vl, ?_, frW_refl, monW_refl, fun _ g' a1 a2 => by omega⟩
      simp (disch := first | assumption | omega | exact is_Script_draft | exact is_Script_made | exact is_Learner_made | exact is_Learner_madeFirst | (apply is_eScript_tasks; omega) | (apply is_eScript_lines; omega) | (apply is_eScript_ranBy; omega)) only [↓reduceIte, ↓I_n1, obs, I_0n, l_1, l_2, l_3, l_4, l_5, l_6, l_7, l_8, l_11, l_12, l_15, l_16, l_18, l_20, l_21, l_29, l_30, l_31, l_32, l_33, l_39, l_40, l_44, l_45, l_46, l_47, l_48, l_53, l_57, l_63, l_64, l_65, l_66, l_71, l_72, l_75, l_90, l_97, l_120, l_122, l_127, l_128, l_1812, l_3600, l_4000, l_252645135, l_268435456, l_858993459, l_1431655765, I_add, I_mul, I_sub, I_addN, I_mulN, I_subN, ilt_t, ilt_f, ile_t, ile_f, ieq_t, ieq_f, up_same, up_up, I_and, I_or, I_shlN, I_shrN, I_divN, I_remN, dzI, i2cI, narI, Int.toNat_natCast, true_or, or_true, false_or, or_false, true_and, and_true, false_and, and_false, not_true_eq_false, not_false_eq_true, cFinder, gFinder_found, nFinder_found, rFinder_found, gFinder_foundCount, pFinder_foundCount, gFinder_stock, gFinder_lookedAt, pFinder_lookedAt, gFinder_boardCount, pFinder_boardCount, gFinder_pins, nFinder_pins, rFinder_pins, wFinder_pins, gFinder_pinIndexes, nFinder_pinIndexes, rFinder_pinIndexes, wFinder_pinIndexes, gFinder_isPinned, pFinder_isPinned, gFinder_ways, nFinder_ways, rFinder_ways, wFinder_ways, gFinder_knownKeys, nFinder_knownKeys, rFinder_knownKeys, wFinder_knownKeys, gFinder_knownEndings, nFinder_knownEndings, rFinder_knownEndings, wFinder_knownEndings, gFinder_searches, pFinder_searches, gFinder_at_, nFinder_at_, rFinder_at_, wFinder_at_, gFinder_row, nFinder_row, rFinder_row, wFinder_row, cStock, gStock_boards, nStock_boards, rStock_boards, gStock_members, nStock_members, rStock_members, wStock_members, gStock_memberCount, pStock_memberCount, gStock_atoms, nStock_atoms, rStock_atoms, wStock_atoms, gStock_weights, nStock_weights, rStock_weights, wStock_weights, gStock_places, nStock_places, rStock_places, wStock_places, gStock_sizes, nStock_sizes, rStock_sizes, wStock_sizes, gStock_atomCount, pStock_atomCount, gStock_shared, nStock_shared, rStock_shared, wStock_shared, gStock_groups, nStock_groups, rStock_groups, wStock_groups, gStock_groupWeights, nStock_groupWeights, rStock_groupWeights, wStock_groupWeights, gStock_groupCount, pStock_groupCount, gStock_newest, nStock_newest, rStock_newest, wStock_newest, gStock_older, nStock_older, rStock_older, wStock_older, b_X2_gatherLayer_134, g1]
theorem x_gl40z {K : Nat → Int32 → Int32 → Int32 → Int32 → cM → Option cM} {LL NN : Int} {k i R T : Nat} (hR : R < 44) : ∀ (f x : Nat) (tx : Nat → ZText) (pg : Nat → ZProg) (le : Nat → ZLearnt) (ln : Nat → ZLine) (tk : Nat → ZTask) (bd : Nat → ZBoard) (vi : Nat → Int32) (va : Nat → Nat → Int32) (vl : Nat → Nat → Int64) (vj : Int64) (la : Option Nat) (me : Nat → Option Nat), x ≤ 21 → 22 - x ≤ f → ∃ vl' f', f_X2_gatherLayer_40 F K f aFinder (I LL) (I NN) (I (k : Nat)) (I (i : Nat)) (I ((R * 21 : Nat) : Int)) (I ((T * 21 : Nat) : Int)) (I (x : Nat)) (mk (tx, pg, le, ln, tk, bd, vi, va, vl, vj, la, me)) = f_X2_gatherLayer_40 F K (f' + 1) aFinder (I LL) (I NN) (I (k : Nat)) (I (i : Nat)) (I ((R * 21 : Nat) : Int)) (I ((T * 21 : Nat) : Int)) (I ((21 : Nat) : Int)) (mk (tx, pg, le, ln, tk, bd, vi, va, (vl'), vj, la, me)) ∧ frW vl vl' R := by
  intro f
  induction f with
  | zero => intros; omega
  | succ f ih =>
    intro x tx pg le ln tk bd vi va vl vj la me hx hf
    by_cases c : x < 21
    · obtain ⟨vl1, hvl1⟩ : ∃ vl1, vl1 = up vl 515 (vp_updL (vl 515) (R * 21 + x) 0) := ⟨_, rfl⟩
      have f1 : frW vl vl1 R := by rw [hvl1]; exact frW_put c
      obtain ⟨vl', f'', e', f'⟩ := ih (x + 1) tx pg le ln tk bd vi va (vl1) vj la me (by omega) (by omega)
      refine ⟨vl', f'', ?_, frW_trans f1 f'⟩
      rw [← e', s_X2_gatherLayer_40, hvl1]
      simp (disch := first | assumption | omega | exact is_Script_draft | exact is_Script_made | exact is_Learner_made | exact is_Learner_madeFirst | (apply is_eScript_tasks; omega) | (apply is_eScript_lines; omega) | (apply is_eScript_ranBy; omega)) only [↓reduceIte, ↓I_n1, obs, I_0n, l_1, l_2, l_3, l_4, l_5, l_6, l_7, l_8, l_11, l_12, l_15, l_16, l_18, l_20, l_21, l_29, l_30, l_31, l_32, l_33, l_39, l_40, l_44, l_45, l_46, l_47, l_48, l_53, l_57, l_63, l_64, l_65, l_66, l_71, l_72, l_75, l_90, l_97, l_120, l_122, l_127, l_128, l_1812, l_3600, l_4000, l_252645135, l_268435456, l_858993459, l_1431655765, I_add, I_mul, I_sub, I_addN, I_mulN, I_subN, ilt_t, ilt_f, ile_t, ile_f, ieq_t, ieq_f, up_same, up_up, I_and, I_or, I_shlN, I_shrN, I_divN, I_remN, dzI, i2cI, narI, Int.toNat_natCast, true_or, or_true, false_or, or_false, true_and, and_true, false_and, and_false, not_true_eq_false, not_false_eq_true, cFinder, gFinder_found, nFinder_found, rFinder_found, gFinder_foundCount, pFinder_foundCount, gFinder_stock, gFinder_lookedAt, pFinder_lookedAt, gFinder_boardCount, pFinder_boardCount, gFinder_pins, nFinder_pins, rFinder_pins, wFinder_pins, gFinder_pinIndexes, nFinder_pinIndexes, rFinder_pinIndexes, wFinder_pinIndexes, gFinder_isPinned, pFinder_isPinned, gFinder_ways, nFinder_ways, rFinder_ways, wFinder_ways, gFinder_knownKeys, nFinder_knownKeys, rFinder_knownKeys, wFinder_knownKeys, gFinder_knownEndings, nFinder_knownEndings, rFinder_knownEndings, wFinder_knownEndings, gFinder_searches, pFinder_searches, gFinder_at_, nFinder_at_, rFinder_at_, wFinder_at_, gFinder_row, nFinder_row, rFinder_row, wFinder_row, b_X2_gatherLayer_40]
    · have : x = 21 := by omega
      subst this
      exact ⟨vl, f, rfl, frW_refl⟩
/-- one column of a layer -/
theorem x_gl3 {P : Nat → Option At} {ms : List (Tx × Tx)} {A : Nat → Nat} {L N k : Nat} (hF : 200000 ≤ F) (hP : pnOk P) (hk : k < 4) (hL : L < 11) (hN : N < 11) (hne : L ≠ N) : ∀ (f i : Nat) (tx : Nat → ZText) (pg : Nat → ZProg) (le : Nat → ZLearnt) (ln : Nat → ZLine) (tk : Nat → ZTask) (bd : Nat → ZBoard) (vi : Nat → Int32) (va : Nat → Nat → Int32) (vl : Nat → Nat → Int64) (vj : Int64) (la : Option Nat) (me : Nat → Option Nat), i ≤ ms.length → 6 - i ≤ f → stockOk tx bd vi va me A ms → pnS va P → pxS va P (stN ms 3672) → (∀ i', i' < i → LFi vl P ms L N k i') → ∃ vl', f_X2_gatherLayer_3 F f aFinder (I (L : Nat)) (I (N : Nat)) (I (k : Nat)) (I (i : Nat)) (mk (tx, pg, le, ln, tk, bd, vi, va, vl, vj, la, me)) = some (mk (tx, pg, le, ln, tk, bd, vi, va, (vl'), vj, la, me)) ∧ ((∀ K, K ≠ 515 → vl' K = vl K) ∧ ∀ x, ¬ (L * 84 ≤ x ∧ x < L * 84 + 84) → vl' 515 x = vl 515 x) ∧ ∀ i', i' < ms.length → LFi vl' P ms L N k i' := by
  intro f
  induction f with
  | zero => intro i tx pg le ln tk bd vi va vl vj la me hi hf hs; have := hs.1.1.2.2.1; omega
  | succ f ih =>
    intro i tx pg le ln tk bd vi va vl vj la me hi hf hs hp hx hdone
    obtain ⟨⟨hM, hS, G, J, W, hG⟩, hsh⟩ := id hs
    obtain ⟨m1, m2, m3, m4, m5⟩ := id hM
    rw [s_X2_gatherLayer_3]
    by_cases c : i < ms.length
    · obtain ⟨o1, o2, o3, o4⟩ := gm_ok m4 c
      obtain ⟨R, hR⟩ : ∃ R, R = L * 4 + i := ⟨_, rfl⟩
      obtain ⟨T, hT⟩ : ∃ T, T = N * 4 + i := ⟨_, rfl⟩
      have hR44 : R < 44 := by omega
      have hT44 : T < 44 := by omega
      have hRT : R ≠ T := by omega
      have hpk := hp k hk
      have hpb := pinI_bd hP (k := k)
      obtain ⟨r, hr, hr2⟩ := hx k hk
      obtain ⟨vl0, f0, e0, g0⟩ := x_gl40z (F := F) (K := f_X2_gatherLayer_3 F f) (LL := (L : Nat)) (NN := (N : Nat)) (k := k) (i := i) (T := T) hR44 F 0 tx pg le ln tk bd vi va vl vj la me (Nat.zero_le _) (by omega)
      obtain ⟨vl1, e1, g1, n1, h1⟩ := x_gatherConstWays (F := F) (R := R) (T := T) (tx := tx) (pg := pg) (le := le) (ln := ln) (tk := tk) (bd := bd) (vi := vi) (va := va) (vl := vl0) (vj := vj) (la := la) (me := me) hF c hR44 hT44 hRT hpb hM (hsh i c)
      -- the pinned one
      have hpinned : ∃ vl2, (if r = -1 then f_X2_gatherLayer_134 F (f_X2_gatherLayer_3 F f) F aFinder (I (L : Nat)) (I (N : Nat)) (I (k : Nat)) (I (i : Nat)) (I ((R * 21 : Nat) : Int)) (I ((T * 21 : Nat) : Int)) (I ((0 : Nat) : Int)) (mk (tx, pg, le, ln, tk, bd, vi, va, (vl1), vj, la, me)) else f_X2_gatherLayer_90 F (f_X2_gatherLayer_3 F f) aFinder (I (L : Nat)) (I (N : Nat)) (I (k : Nat)) (I (i : Nat)) (I ((R * 21 : Nat) : Int)) (I ((T * 21 : Nat) : Int)) (mk (tx, pg, le, ln, tk, bd, vi, va, (vl1), vj, la, me))) = f_X2_gatherLayer_134 F (f_X2_gatherLayer_3 F f) F aFinder (I (L : Nat)) (I (N : Nat)) (I (k : Nat)) (I (i : Nat)) (I ((R * 21 : Nat) : Int)) (I ((T * 21 : Nat) : Int)) (I ((0 : Nat) : Int)) (mk (tx, pg, le, ln, tk, bd, vi, va, (vl2), vj, la, me)) ∧ frW vl1 vl2 R ∧ monW vl1 vl2 ∧ (r ≠ -1 → ∀ p, (ocp (gl (stN ms 3672) r.toNat) (gm ms i)).testBit p = true → wstp vl1 vl2 R T p (sz (gl (stN ms 3672) r.toNat) (gm ms i)) (wt (.inr (gl (stN ms 3672) r.toNat)) - 4)) := by
        rcases hr2 with ⟨q, -⟩ | ⟨q1, q2, q3⟩
        · exact ⟨vl1, by rw [if_pos q], frW_refl, monW_refl, fun z => absurd q z⟩
        · obtain ⟨j, rfl⟩ : ∃ j : Nat, r = j := ⟨r.toNat, by omega⟩
          rw [Int.toNat_natCast]
          have hj : j < (stN ms 3672).length := by omega
          obtain ⟨-, t2, t3, t4⟩ := id hS
          obtain ⟨d1, d2, d3⟩ := t4 j hj
          have hw := wt_bd (a := .inr (gl (stN ms 3672) j)) (t3 _ (gl_mem hj))
          have hbit : (1 <<< (wt (.inr (gl (stN ms 3672) j)) - 4) : Nat) < 8192 := by
            rw [Nat.one_shiftLeft]
            exact p2_lt (n := 13) (by omega)
          obtain ⟨vl2, e2, g2, n2, h2⟩ := x_gatherAtomWays (F := F) (R := R) (T := T) (tx := tx) (pg := pg) (le := le) (ln := ln) (tk := tk) (bd := bd) (vi := vi) (va := va) (vl := vl1) (vj := vj) (la := la) (me := me) hF m4 m3 hS hj c hbit hR44 hT44 hRT
          refine ⟨vl2, ?_, g2, n2, fun _ p a => fun b => h2 p a _ b (by omega) (by rw [Nat.one_shiftLeft, Nat.testBit_two_pow_self])⟩
          rw [if_neg (by omega)]
          simp (disch := first | assumption | omega | exact is_Script_draft | exact is_Script_made | exact is_Learner_made | exact is_Learner_madeFirst | (apply is_eScript_tasks; omega) | (apply is_eScript_lines; omega) | (apply is_eScript_ranBy; omega)) only [↓reduceIte, ↓I_n1, obs, I_0n, l_1, l_2, l_3, l_4, l_5, l_6, l_7, l_8, l_11, l_12, l_15, l_16, l_18, l_20, l_21, l_29, l_30, l_31, l_32, l_33, l_39, l_40, l_44, l_45, l_46, l_47, l_48, l_53, l_57, l_63, l_64, l_65, l_66, l_71, l_72, l_75, l_90, l_97, l_120, l_122, l_127, l_128, l_1812, l_3600, l_4000, l_252645135, l_268435456, l_858993459, l_1431655765, I_add, I_mul, I_sub, I_addN, I_mulN, I_subN, ilt_t, ilt_f, ile_t, ile_f, ieq_t, ieq_f, up_same, up_up, I_and, I_or, I_shlN, I_shrN, I_divN, I_remN, dzI, i2cI, narI, Int.toNat_natCast, true_or, or_true, false_or, or_false, true_and, and_true, false_and, and_false, not_true_eq_false, not_false_eq_true, cFinder, gFinder_found, nFinder_found, rFinder_found, gFinder_foundCount, pFinder_foundCount, gFinder_stock, gFinder_lookedAt, pFinder_lookedAt, gFinder_boardCount, pFinder_boardCount, gFinder_pins, nFinder_pins, rFinder_pins, wFinder_pins, gFinder_pinIndexes, nFinder_pinIndexes, rFinder_pinIndexes, wFinder_pinIndexes, gFinder_isPinned, pFinder_isPinned, gFinder_ways, nFinder_ways, rFinder_ways, wFinder_ways, gFinder_knownKeys, nFinder_knownKeys, rFinder_knownKeys, wFinder_knownKeys, gFinder_knownEndings, nFinder_knownEndings, rFinder_knownEndings, wFinder_knownEndings, gFinder_searches, pFinder_searches, gFinder_at_, nFinder_at_, rFinder_at_, wFinder_at_, gFinder_row, nFinder_row, rFinder_row, wFinder_row, cStock, gStock_boards, nStock_boards, rStock_boards, gStock_members, nStock_members, rStock_members, wStock_members, gStock_memberCount, pStock_memberCount, gStock_atoms, nStock_atoms, rStock_atoms, wStock_atoms, gStock_weights, nStock_weights, rStock_weights, wStock_weights, gStock_places, nStock_places, rStock_places, wStock_places, gStock_sizes, nStock_sizes, rStock_sizes, wStock_sizes, gStock_atomCount, pStock_atomCount, gStock_shared, nStock_shared, rStock_shared, wStock_shared, gStock_groups, nStock_groups, rStock_groups, wStock_groups, gStock_groupWeights, nStock_groupWeights, rStock_groupWeights, wStock_groupWeights, gStock_groupCount, pStock_groupCount, gStock_newest, nStock_newest, rStock_newest, wStock_newest, gStock_older, nStock_older, rStock_older, wStock_older, f_X2_gatherLayer_90, b_X2_gatherLayer_90, hr, d2, e2]
      obtain ⟨vl2, e2, g2, n2, h2⟩ := hpinned
      obtain ⟨vl3, e3, g3, n3, h3⟩ := x_gl134 (F := F) (K := f_X2_gatherLayer_3 F f) (LL := (L : Nat)) (NN := (N : Nat)) (G := G) (J := J) (W := W) hF hP m4 m3 c hk hR44 hT44 hRT F 0 tx pg le ln tk bd vi va (vl2) vj la me (Nat.zero_le _) (by have := hS.2.1; have := hG.2.1; omega) hp hS hG
      have fall : frW vl vl3 R := frW_trans g0 (frW_trans g1 (frW_trans g2 g3))
      have ftail : frW vl0 vl3 R := frW_trans g1 (frW_trans g2 g3)
      have hrow : LFi vl3 P ms L N k i := by
        intro a ha hpa hall p q hs b hb hbk
        rw [← hT] at hb
        rw [← hR]
        have hq : q ≤ (gm ms i).2.length := stpA_lt hs
        have hTq : ∀ v, frW v vl3 R → vl3 515 (T * 21 + q) = v 515 (T * 21 + q) := fun v h => h.2 _ (by omega)
        cases a with
        | inl s =>
          obtain ⟨s1, s2, s3⟩ := ha
          have hst : ∀ j p q, stpA (.inl s) (gm ms j) p = some q → (p + s.length ≤ (gm ms j).2.length ∧ ((gm ms j).2.drop p).take s.length = s) ∧ q = p + s.length := fun j p q h => by
            have h : (if p + s.length ≤ (gm ms j).2.length ∧ ((gm ms j).2.drop p).take s.length = s then some (p + s.length) else none) = some q := h
            split at h
            · next c =>
              cases h
              exact ⟨c, rfl⟩
            · cases h
          obtain ⟨c1, rfl⟩ := hst i p q hs
          have hs1 := List.length_pos_iff.mpr s1
          have hw := h1 p s.length hs1 s2 c1.1 (fun j hj => by
            rw [c1.2]
            obtain ⟨p', q', hh⟩ := hall j hj
            exact occ_of s1 (gm_ok m4 hj).2.2.2 (hst j p' q' hh).1) (by
            rw [c1.2]
            cases hpp : P k with
            | none => exact Or.inl (pinI_none.mpr hpp)
            | some y =>
              rw [hpp] at hpa
              have hpa := of_decide_eq_true hpa
              subst hpa
              refine Or.inr ?_
              unfold pinI
              rw [hpp]
              rfl)
          have hwt : wt (.inl s) - 4 = 3 * s.length := Nat.add_sub_cancel_left 4 _
          rw [hwt] at hbk ⊢
          rw [← Nat.add_assoc] at hb hTq
          rw [hTq vl0 ftail] at hb
          exact wstp_r (wstp_r hw n2) n3 b hb hbk
        | inr n =>
          have hn : n < 3672 := ha
          have hmem := stN_mem m4 hn hall
          obtain ⟨j, hj, rfl⟩ := gl_ex hmem
          rw [stpA_oc hn o2 o4] at hs
          split at hs
          · next hbit =>
            have hqe := Option.some.inj hs
            subst hqe
            rw [← Nat.add_assoc] at hb hTq
            have hwb := wt_bd (a := .inr (gl (stN ms 3672) j)) hn
            cases hpp : P k with
            | none =>
              obtain ⟨g', c1, c2, c3⟩ := hG.2.2.2.2.2 j hj
              obtain ⟨c4, c5⟩ := c2 i c
              rw [c5] at hbit
              rw [c4] at hb hTq
              rw [hTq vl2 g3] at hb
              exact h3 hpp g' (Nat.zero_le _) c1 p hbit _ (by omega) c3 b hb hbk
            | some y =>
              rw [hpp] at hpa
              have hpa := of_decide_eq_true hpa
              subst hpa
              rcases hr2 with ⟨q, q2⟩ | ⟨q1, q2, q3⟩
              · exact absurd hpp (q2 _ hmem)
              · rw [hpp] at q3
                have q3 : gl (stN ms 3672) j = gl (stN ms 3672) r.toNat := Sum.inr.inj (Option.some.inj q3)
                rw [q3] at hbit hb hbk hTq ⊢
                rw [hTq vl1 (frW_trans g2 g3)] at hb
                exact wstp_r (h2 (by omega) p hbit) n3 b hb hbk
          · cases hs
      obtain ⟨vl', e', f', hall⟩ := ih (i + 1) tx pg le ln tk bd vi va (vl3) vj la me (by omega) (by omega) hs hp hx (fun i' hi' => by
        by_cases q : i' = i
        · subst q
          exact hrow
        · intro a ha hpa hst p q' hs b hb hbk
          have hlen := (gm_ok m4 (show i' < ms.length by omega)).2.2.2
          have hq := stpA_lt hs
          have hpl := stpA_le hs
          rw [fall.2 _ (by omega)] at hb ⊢
          exact hdone i' (by omega) a ha hpa hst p q' hs b hb hbk)
      refine ⟨vl', ?_, ⟨fun K a => (f'.1 K a).trans (fall.1 K a), fun x a => (f'.2 x a).trans (fall.2 x (by omega))⟩, hall⟩
      rw [← e', ← e3, ← e2]
      have eb : f_X2_gatherLayer_40 F (f_X2_gatherLayer_3 F f) F aFinder (I (L : Nat)) (I (N : Nat)) (I (k : Nat)) (I (i : Nat)) (I ((R * 21 : Nat) : Int)) (I ((T * 21 : Nat) : Int)) (I ((0 : Nat) : Int)) (mk (tx, pg, le, ln, tk, bd, vi, va, vl, vj, la, me)) = if r = -1 then f_X2_gatherLayer_134 F (f_X2_gatherLayer_3 F f) F aFinder (I (L : Nat)) (I (N : Nat)) (I (k : Nat)) (I (i : Nat)) (I ((R * 21 : Nat) : Int)) (I ((T * 21 : Nat) : Int)) (I ((0 : Nat) : Int)) (mk (tx, pg, le, ln, tk, bd, vi, va, (vl1), vj, la, me)) else f_X2_gatherLayer_90 F (f_X2_gatherLayer_3 F f) aFinder (I (L : Nat)) (I (N : Nat)) (I (k : Nat)) (I (i : Nat)) (I ((R * 21 : Nat) : Int)) (I ((T * 21 : Nat) : Int)) (mk (tx, pg, le, ln, tk, bd, vi, va, (vl1), vj, la, me)) := by
        rw [e0, s_X2_gatherLayer_40]
        have hrb : -1 ≤ r ∧ r < 2147483647 := by
          have := hS.2.1
          rcases hr2 with ⟨q, -⟩ | ⟨q1, q2, -⟩ <;> omega
        by_cases q : r = -1
        · rw [if_pos q]
          rw [q] at hr
          simp (disch := first | assumption | omega | exact is_Script_draft | exact is_Script_made | exact is_Learner_made | exact is_Learner_madeFirst | (apply is_eScript_tasks; omega) | (apply is_eScript_lines; omega) | (apply is_eScript_ranBy; omega)) only [↓reduceIte, ↓I_n1, obs, I_0n, l_1, l_2, l_3, l_4, l_5, l_6, l_7, l_8, l_11, l_12, l_15, l_16, l_18, l_20, l_21, l_29, l_30, l_31, l_32, l_33, l_39, l_40, l_44, l_45, l_46, l_47, l_48, l_53, l_57, l_63, l_64, l_65, l_66, l_71, l_72, l_75, l_90, l_97, l_120, l_122, l_127, l_128, l_1812, l_3600, l_4000, l_252645135, l_268435456, l_858993459, l_1431655765, I_add, I_mul, I_sub, I_addN, I_mulN, I_subN, ilt_t, ilt_f, ile_t, ile_f, ieq_t, ieq_f, up_same, up_up, I_and, I_or, I_shlN, I_shrN, I_divN, I_remN, dzI, i2cI, narI, Int.toNat_natCast, true_or, or_true, false_or, or_false, true_and, and_true, false_and, and_false, not_true_eq_false, not_false_eq_true, cFinder, gFinder_found, nFinder_found, rFinder_found, gFinder_foundCount, pFinder_foundCount, gFinder_stock, gFinder_lookedAt, pFinder_lookedAt, gFinder_boardCount, pFinder_boardCount, gFinder_pins, nFinder_pins, rFinder_pins, wFinder_pins, gFinder_pinIndexes, nFinder_pinIndexes, rFinder_pinIndexes, wFinder_pinIndexes, gFinder_isPinned, pFinder_isPinned, gFinder_ways, nFinder_ways, rFinder_ways, wFinder_ways, gFinder_knownKeys, nFinder_knownKeys, rFinder_knownKeys, wFinder_knownKeys, gFinder_knownEndings, nFinder_knownEndings, rFinder_knownEndings, wFinder_knownEndings, gFinder_searches, pFinder_searches, gFinder_at_, nFinder_at_, rFinder_at_, wFinder_at_, gFinder_row, nFinder_row, rFinder_row, wFinder_row, b_X2_gatherLayer_40, hpk, e1, hr]
        · rw [if_neg q]
          simp (disch := first | assumption | omega | exact is_Script_draft | exact is_Script_made | exact is_Learner_made | exact is_Learner_madeFirst | (apply is_eScript_tasks; omega) | (apply is_eScript_lines; omega) | (apply is_eScript_ranBy; omega)) only [↓reduceIte, ↓I_n1, obs, I_0n, l_1, l_2, l_3, l_4, l_5, l_6, l_7, l_8, l_11, l_12, l_15, l_16, l_18, l_20, l_21, l_29, l_30, l_31, l_32, l_33, l_39, l_40, l_44, l_45, l_46, l_47, l_48, l_53, l_57, l_63, l_64, l_65, l_66, l_71, l_72, l_75, l_90, l_97, l_120, l_122, l_127, l_128, l_1812, l_3600, l_4000, l_252645135, l_268435456, l_858993459, l_1431655765, I_add, I_mul, I_sub, I_addN, I_mulN, I_subN, ilt_t, ilt_f, ile_t, ile_f, ieq_t, ieq_f, up_same, up_up, I_and, I_or, I_shlN, I_shrN, I_divN, I_remN, dzI, i2cI, narI, Int.toNat_natCast, true_or, or_true, false_or, or_false, true_and, and_true, false_and, and_false, not_true_eq_false, not_false_eq_true, cFinder, gFinder_found, nFinder_found, rFinder_found, gFinder_foundCount, pFinder_foundCount, gFinder_stock, gFinder_lookedAt, pFinder_lookedAt, gFinder_boardCount, pFinder_boardCount, gFinder_pins, nFinder_pins, rFinder_pins, wFinder_pins, gFinder_pinIndexes, nFinder_pinIndexes, rFinder_pinIndexes, wFinder_pinIndexes, gFinder_isPinned, pFinder_isPinned, gFinder_ways, nFinder_ways, rFinder_ways, wFinder_ways, gFinder_knownKeys, nFinder_knownKeys, rFinder_knownKeys, wFinder_knownKeys, gFinder_knownEndings, nFinder_knownEndings, rFinder_knownEndings, wFinder_knownEndings, gFinder_searches, pFinder_searches, gFinder_at_, nFinder_at_, rFinder_at_, wFinder_at_, gFinder_row, nFinder_row, rFinder_row, wFinder_row, b_X2_gatherLayer_40, hpk, e1, hr]
      rw [← eb, hR, hT]
      simp (disch := first | assumption | omega | exact is_Script_draft | exact is_Script_made | exact is_Learner_made | exact is_Learner_madeFirst | (apply is_eScript_tasks; omega) | (apply is_eScript_lines; omega) | (apply is_eScript_ranBy; omega)) only [↓reduceIte, ↓I_n1, obs, I_0n, l_1, l_2, l_3, l_4, l_5, l_6, l_7, l_8, l_11, l_12, l_15, l_16, l_18, l_20, l_21, l_29, l_30, l_31, l_32, l_33, l_39, l_40, l_44, l_45, l_46, l_47, l_48, l_53, l_57, l_63, l_64, l_65, l_66, l_71, l_72, l_75, l_90, l_97, l_120, l_122, l_127, l_128, l_1812, l_3600, l_4000, l_252645135, l_268435456, l_858993459, l_1431655765, I_add, I_mul, I_sub, I_addN, I_mulN, I_subN, ilt_t, ilt_f, ile_t, ile_f, ieq_t, ieq_f, up_same, up_up, I_and, I_or, I_shlN, I_shrN, I_divN, I_remN, dzI, i2cI, narI, Int.toNat_natCast, true_or, or_true, false_or, or_false, true_and, and_true, false_and, and_false, not_true_eq_false, not_false_eq_true, cFinder, gFinder_found, nFinder_found, rFinder_found, gFinder_foundCount, pFinder_foundCount, gFinder_stock, gFinder_lookedAt, pFinder_lookedAt, gFinder_boardCount, pFinder_boardCount, gFinder_pins, nFinder_pins, rFinder_pins, wFinder_pins, gFinder_pinIndexes, nFinder_pinIndexes, rFinder_pinIndexes, wFinder_pinIndexes, gFinder_isPinned, pFinder_isPinned, gFinder_ways, nFinder_ways, rFinder_ways, wFinder_ways, gFinder_knownKeys, nFinder_knownKeys, rFinder_knownKeys, wFinder_knownKeys, gFinder_knownEndings, nFinder_knownEndings, rFinder_knownEndings, wFinder_knownEndings, gFinder_searches, pFinder_searches, gFinder_at_, nFinder_at_, rFinder_at_, wFinder_at_, gFinder_row, nFinder_row, rFinder_row, wFinder_row, cStock, gStock_boards, nStock_boards, rStock_boards, gStock_members, nStock_members, rStock_members, wStock_members, gStock_memberCount, pStock_memberCount, gStock_atoms, nStock_atoms, rStock_atoms, wStock_atoms, gStock_weights, nStock_weights, rStock_weights, wStock_weights, gStock_places, nStock_places, rStock_places, wStock_places, gStock_sizes, nStock_sizes, rStock_sizes, wStock_sizes, gStock_atomCount, pStock_atomCount, gStock_shared, nStock_shared, rStock_shared, wStock_shared, gStock_groups, nStock_groups, rStock_groups, wStock_groups, gStock_groupWeights, nStock_groupWeights, rStock_groupWeights, wStock_groupWeights, gStock_groupCount, pStock_groupCount, gStock_newest, nStock_newest, rStock_newest, wStock_newest, gStock_older, nStock_older, rStock_older, wStock_older, b_X2_gatherLayer_3, m1]
    · refine ⟨vl, ?_, ⟨fun _ _ => rfl, fun _ _ => rfl⟩, fun i' hi' => hdone i' (by omega)⟩
      simp (disch := first | assumption | omega | exact is_Script_draft | exact is_Script_made | exact is_Learner_made | exact is_Learner_madeFirst | (apply is_eScript_tasks; omega) | (apply is_eScript_lines; omega) | (apply is_eScript_ranBy; omega)) only [↓reduceIte, ↓I_n1, obs, I_0n, l_1, l_2, l_3, l_4, l_5, l_6, l_7, l_8, l_11, l_12, l_15, l_16, l_18, l_20, l_21, l_29, l_30, l_31, l_32, l_33, l_39, l_40, l_44, l_45, l_46, l_47, l_48, l_53, l_57, l_63, l_64, l_65, l_66, l_71, l_72, l_75, l_90, l_97, l_120, l_122, l_127, l_128, l_1812, l_3600, l_4000, l_252645135, l_268435456, l_858993459, l_1431655765, I_add, I_mul, I_sub, I_addN, I_mulN, I_subN, ilt_t, ilt_f, ile_t, ile_f, ieq_t, ieq_f, up_same, up_up, I_and, I_or, I_shlN, I_shrN, I_divN, I_remN, dzI, i2cI, narI, Int.toNat_natCast, true_or, or_true, false_or, or_false, true_and, and_true, false_and, and_false, not_true_eq_false, not_false_eq_true, cFinder, gFinder_found, nFinder_found, rFinder_found, gFinder_foundCount, pFinder_foundCount, gFinder_stock, gFinder_lookedAt, pFinder_lookedAt, gFinder_boardCount, pFinder_boardCount, gFinder_pins, nFinder_pins, rFinder_pins, wFinder_pins, gFinder_pinIndexes, nFinder_pinIndexes, rFinder_pinIndexes, wFinder_pinIndexes, gFinder_isPinned, pFinder_isPinned, gFinder_ways, nFinder_ways, rFinder_ways, wFinder_ways, gFinder_knownKeys, nFinder_knownKeys, rFinder_knownKeys, wFinder_knownKeys, gFinder_knownEndings, nFinder_knownEndings, rFinder_knownEndings, wFinder_knownEndings, gFinder_searches, pFinder_searches, gFinder_at_, nFinder_at_, rFinder_at_, wFinder_at_, gFinder_row, nFinder_row, rFinder_row, wFinder_row, cStock, gStock_boards, nStock_boards, rStock_boards, gStock_members, nStock_members, rStock_members, wStock_members, gStock_memberCount, pStock_memberCount, gStock_atoms, nStock_atoms, rStock_atoms, wStock_atoms, gStock_weights, nStock_weights, rStock_weights, wStock_weights, gStock_places, nStock_places, rStock_places, wStock_places, gStock_sizes, nStock_sizes, rStock_sizes, wStock_sizes, gStock_atomCount, pStock_atomCount, gStock_shared, nStock_shared, rStock_shared, wStock_shared, gStock_groups, nStock_groups, rStock_groups, wStock_groups, gStock_groupWeights, nStock_groupWeights, rStock_groupWeights, wStock_groupWeights, gStock_groupCount, pStock_groupCount, gStock_newest, nStock_newest, rStock_newest, wStock_newest, gStock_older, nStock_older, rStock_older, wStock_older, b_X2_gatherLayer_3, m1]
end
