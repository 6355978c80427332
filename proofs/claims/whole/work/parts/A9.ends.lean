/-! WHAT CAN END ALL: THE RECURSION -/
theorem upL_same {f : Nat → Int64} {i : Nat} {v : Int64} : vp_updL f i v i = v := if_pos rfl
section
variable {F : Nat}
theorem x_endings {A : Nat → Nat} {P : Nat → Option At} {iP : Bool} {ms : List (Tx × Tx)} {S : Nat} (hF : 200000 ≤ F) : ∀ (d s q : Nat), q ≤ s → s ≤ 4 → s - q < d → GE (r_X2_endings F d) A P iP ms S s q := by
  intro d
  induction d with
  | zero => intros; omega
  | succ d ih =>
    intro s q hqs hs hd tx pg le ln tk bd vi va vl vj la me ps wanted hE hp hat
    show ∃ va' vl' e, f_X2_endings F (f_X2_constEndings F (r_X2_endings F d)) (f_X2_atomEndings F (r_X2_endings F d)) aFinder (I (s : Nat)) (I (q : Nat)) wanted (mk (tx, pg, le, ln, tk, bd, vi, va, vl, vj, la, me)) = _ ∧ _
    obtain ⟨e1, e2, e3, e4, e5, e6, e7, e8, e9, e10⟩ := id hE
    obtain ⟨m1, m2, m3, m4, m5⟩ := id e1.1.1
    have hlay := x_layerOf (F := F) (s := s) (q := q) (tx := tx) (pg := pg) (le := le) (ln := ln) (tk := tk) (bd := bd) (vi := vi) (va := va) (vl := vl) (vj := vj) (la := la) (me := me) hs (by omega) e4
    have hlt : lay iP s q < 11 := lay_lt iP s (by omega) q (by omega)
    obtain ⟨m, f', h16, hm⟩ := x_en16 (F := F) (g1 := f_X2_constEndings F (r_X2_endings F d)) (g2 := f_X2_atomEndings F (r_X2_endings F d)) (wanted := wanted) (s := s) (tx := tx) (pg := pg) (le := le) (ln := ln) (tk := tk) (bd := bd) (vi := vi) (va := va) (vl := vl) (vj := vj) (la := la) (me := me) hlt (by omega) e1.1.1 hp hat F 0 (-1) (Nat.zero_le _) (by omega)
    have hstart : f_X2_endings F (f_X2_constEndings F (r_X2_endings F d)) (f_X2_atomEndings F (r_X2_endings F d)) aFinder (I (s : Nat)) (I (q : Nat)) wanted (mk (tx, pg, le, ln, tk, bd, vi, va, vl, vj, la, me)) = f_X2_endings_16 F (f_X2_constEndings F (r_X2_endings F d)) (f_X2_atomEndings F (r_X2_endings F d)) (f' + 1) aFinder (I (s : Nat)) (I (q : Nat)) wanted (I (lay iP s q : Nat)) m (I (ms.length : Nat)) (mk (tx, pg, le, ln, tk, bd, vi, va, vl, vj, la, me)) := by
      rw [← h16]
      simp (disch := first | assumption | omega | exact is_Script_draft | exact is_Script_made | exact is_Learner_made | exact is_Learner_madeFirst | (apply is_eScript_tasks; omega) | (apply is_eScript_lines; omega) | (apply is_eScript_ranBy; omega)) only [↓reduceIte, ↓I_n1, obs, I_0n, l_1, l_2, l_3, l_4, l_5, l_6, l_7, l_8, l_11, l_12, l_15, l_16, l_18, l_20, l_21, l_29, l_30, l_31, l_32, l_33, l_39, l_40, l_44, l_45, l_46, l_47, l_48, l_53, l_57, l_63, l_64, l_65, l_66, l_71, l_72, l_75, l_90, l_97, l_120, l_122, l_127, l_128, l_1812, l_3600, l_4000, l_252645135, l_268435456, l_858993459, l_1431655765, I_add, I_mul, I_sub, I_addN, I_mulN, I_subN, ilt_t, ilt_f, ile_t, ile_f, ieq_t, ieq_f, up_same, up_up, I_and, I_or, I_shlN, I_shrN, I_divN, I_remN, dzI, i2cI, narI, Int.toNat_natCast, true_or, or_true, false_or, or_false, true_and, and_true, false_and, and_false, not_true_eq_false, not_false_eq_true, cFinder, gFinder_found, nFinder_found, rFinder_found, gFinder_foundCount, pFinder_foundCount, gFinder_stock, gFinder_lookedAt, pFinder_lookedAt, gFinder_boardCount, pFinder_boardCount, gFinder_pins, nFinder_pins, rFinder_pins, wFinder_pins, gFinder_pinIndexes, nFinder_pinIndexes, rFinder_pinIndexes, wFinder_pinIndexes, gFinder_isPinned, pFinder_isPinned, gFinder_ways, nFinder_ways, rFinder_ways, wFinder_ways, gFinder_knownKeys, nFinder_knownKeys, rFinder_knownKeys, wFinder_knownKeys, gFinder_knownEndings, nFinder_knownEndings, rFinder_knownEndings, wFinder_knownEndings, gFinder_searches, pFinder_searches, gFinder_at_, nFinder_at_, rFinder_at_, wFinder_at_, gFinder_row, nFinder_row, rFinder_row, wFinder_row, b_X2_endings_122, f_X2_endings_122, b_X2_endings_16, b_X2_endings_0, f_X2_endings_0, f_X2_endings, hlay]
    rw [hstart, s_X2_endings_16]
    have hmost : ∀ r, comps P ms (s - q) q r ps ≠ [] → bj m (bt (s - q) r) = true := fun r hc => by
      have hbd := comps_ne_bd m4 hc
      exact (hm _).mpr ⟨bj_m1 (by unfold bt; omega), fun i _ hi => e7 s q hqs hs r ps hp hc i hi⟩
    have hsimple : ∀ r, comps P ms (s - q) q r ps ≠ [] → bj wanted (bt (s - q) r) = true → bj (m &&& wanted) (bt (s - q) r) = true := fun r hc hw => by
      rw [bj_and, hmost r hc, hw]
      rfl
    have hleaf : s = q → ∀ b, b < 64 → bj (m &&& wanted) b = true → b = 0 ∧ ps = ends ms := by
      intro hsq b hb h
      subst hsq
      rw [bj_and, Bool.and_eq_true] at h
      have h := ((hm b).mp h.1).2
      rw [lay_end] at h
      have hall : ∀ i, i < ms.length → b = 0 ∧ gn ps i = (gm ms i).2.length := fun i hi => by
        have hi' := h i (Nat.zero_le _) hi
        have h20 := (gm_ok m4 hi).2.2.2
        have hpi := hp.2 i hi
        rw [Nat.zero_mul, Nat.zero_add, e6 i hi _ (by omega)] at hi'
        split at hi'
        · next c =>
          rw [bj_1] at hi'
          exact ⟨of_decide_eq_true hi', c⟩
        · rw [bj_0] at hi'
          cases hi'
      refine ⟨(hall 0 (by omega)).1, ?_⟩
      refine List.ext_getElem (by unfold ends; rw [List.length_map]; exact hp.1) fun i hi hi' => ?_
      have him : i < ms.length := by rw [← hp.1]; exact hi
      have hg := (hall i him).2
      unfold gn gm at hg
      rw [List.getD_eq_getElem?_getD, List.getD_eq_getElem?_getD, List.getElem?_eq_getElem hi, List.getElem?_eq_getElem him] at hg
      have h2 : (ends ms)[i]? = some (ms[i]).2.length := by
        unfold ends
        rw [List.getElem?_map, List.getElem?_eq_getElem him]
        rfl
      rw [List.getElem?_eq_getElem hi'] at h2
      rw [Option.some.inj h2]
      exact hg
    by_cases c0 : m &&& wanted = 0
    · refine ⟨va, vl, m &&& wanted, ?_, frat_refl, hE, frE_refl, hsimple, hleaf⟩
      simp (disch := first | assumption | omega | exact is_Script_draft | exact is_Script_made | exact is_Learner_made | exact is_Learner_madeFirst | (apply is_eScript_tasks; omega) | (apply is_eScript_lines; omega) | (apply is_eScript_ranBy; omega)) only [↓reduceIte, ↓I_n1, obs, I_0n, l_1, l_2, l_3, l_4, l_5, l_6, l_7, l_8, l_11, l_12, l_15, l_16, l_18, l_20, l_21, l_29, l_30, l_31, l_32, l_33, l_39, l_40, l_44, l_45, l_46, l_47, l_48, l_53, l_57, l_63, l_64, l_65, l_66, l_71, l_72, l_75, l_90, l_97, l_120, l_122, l_127, l_128, l_1812, l_3600, l_4000, l_252645135, l_268435456, l_858993459, l_1431655765, I_add, I_mul, I_sub, I_addN, I_mulN, I_subN, ilt_t, ilt_f, ile_t, ile_f, ieq_t, ieq_f, up_same, up_up, I_and, I_or, I_shlN, I_shrN, I_divN, I_remN, dzI, i2cI, narI, Int.toNat_natCast, true_or, or_true, false_or, or_false, true_and, and_true, false_and, and_false, not_true_eq_false, not_false_eq_true, cFinder, gFinder_found, nFinder_found, rFinder_found, gFinder_foundCount, pFinder_foundCount, gFinder_stock, gFinder_lookedAt, pFinder_lookedAt, gFinder_boardCount, pFinder_boardCount, gFinder_pins, nFinder_pins, rFinder_pins, wFinder_pins, gFinder_pinIndexes, nFinder_pinIndexes, rFinder_pinIndexes, wFinder_pinIndexes, gFinder_isPinned, pFinder_isPinned, gFinder_ways, nFinder_ways, rFinder_ways, wFinder_ways, gFinder_knownKeys, nFinder_knownKeys, rFinder_knownKeys, wFinder_knownKeys, gFinder_knownEndings, nFinder_knownEndings, rFinder_knownEndings, wFinder_knownEndings, gFinder_searches, pFinder_searches, gFinder_at_, nFinder_at_, rFinder_at_, wFinder_at_, gFinder_row, nFinder_row, rFinder_row, wFinder_row, cStock, gStock_boards, nStock_boards, rStock_boards, gStock_members, nStock_members, rStock_members, wStock_members, gStock_memberCount, pStock_memberCount, gStock_atoms, nStock_atoms, rStock_atoms, wStock_atoms, gStock_weights, nStock_weights, rStock_weights, wStock_weights, gStock_places, nStock_places, rStock_places, wStock_places, gStock_sizes, nStock_sizes, rStock_sizes, wStock_sizes, gStock_atomCount, pStock_atomCount, gStock_shared, nStock_shared, rStock_shared, wStock_shared, gStock_groups, nStock_groups, rStock_groups, wStock_groups, gStock_groupWeights, nStock_groupWeights, rStock_groupWeights, wStock_groupWeights, gStock_groupCount, pStock_groupCount, gStock_newest, nStock_newest, rStock_newest, wStock_newest, gStock_older, nStock_older, rStock_older, wStock_older, b_X2_endings_16, m1, lgc, c0]
    by_cases c1 : ms.length = 1
    · refine ⟨va, vl, m &&& wanted, ?_, frat_refl, hE, frE_refl, hsimple, hleaf⟩
      rw [c1] at m1 ⊢
      simp (disch := first | assumption | omega | exact is_Script_draft | exact is_Script_made | exact is_Learner_made | exact is_Learner_madeFirst | (apply is_eScript_tasks; omega) | (apply is_eScript_lines; omega) | (apply is_eScript_ranBy; omega)) only [↓reduceIte, ↓I_n1, obs, I_0n, l_1, l_2, l_3, l_4, l_5, l_6, l_7, l_8, l_11, l_12, l_15, l_16, l_18, l_20, l_21, l_29, l_30, l_31, l_32, l_33, l_39, l_40, l_44, l_45, l_46, l_47, l_48, l_53, l_57, l_63, l_64, l_65, l_66, l_71, l_72, l_75, l_90, l_97, l_120, l_122, l_127, l_128, l_1812, l_3600, l_4000, l_252645135, l_268435456, l_858993459, l_1431655765, I_add, I_mul, I_sub, I_addN, I_mulN, I_subN, ilt_t, ilt_f, ile_t, ile_f, ieq_t, ieq_f, up_same, up_up, I_and, I_or, I_shlN, I_shrN, I_divN, I_remN, dzI, i2cI, narI, Int.toNat_natCast, true_or, or_true, false_or, or_false, true_and, and_true, false_and, and_false, not_true_eq_false, not_false_eq_true, cFinder, gFinder_found, nFinder_found, rFinder_found, gFinder_foundCount, pFinder_foundCount, gFinder_stock, gFinder_lookedAt, pFinder_lookedAt, gFinder_boardCount, pFinder_boardCount, gFinder_pins, nFinder_pins, rFinder_pins, wFinder_pins, gFinder_pinIndexes, nFinder_pinIndexes, rFinder_pinIndexes, wFinder_pinIndexes, gFinder_isPinned, pFinder_isPinned, gFinder_ways, nFinder_ways, rFinder_ways, wFinder_ways, gFinder_knownKeys, nFinder_knownKeys, rFinder_knownKeys, wFinder_knownKeys, gFinder_knownEndings, nFinder_knownEndings, rFinder_knownEndings, wFinder_knownEndings, gFinder_searches, pFinder_searches, gFinder_at_, nFinder_at_, rFinder_at_, wFinder_at_, gFinder_row, nFinder_row, rFinder_row, wFinder_row, cStock, gStock_boards, nStock_boards, rStock_boards, gStock_members, nStock_members, rStock_members, wStock_members, gStock_memberCount, pStock_memberCount, gStock_atoms, nStock_atoms, rStock_atoms, wStock_atoms, gStock_weights, nStock_weights, rStock_weights, wStock_weights, gStock_places, nStock_places, rStock_places, wStock_places, gStock_sizes, nStock_sizes, rStock_sizes, wStock_sizes, gStock_atomCount, pStock_atomCount, gStock_shared, nStock_shared, rStock_shared, wStock_shared, gStock_groups, nStock_groups, rStock_groups, wStock_groups, gStock_groupWeights, nStock_groupWeights, rStock_groupWeights, wStock_groupWeights, gStock_groupCount, pStock_groupCount, gStock_newest, nStock_newest, rStock_newest, wStock_newest, gStock_older, nStock_older, rStock_older, wStock_older, b_X2_endings_16, m1, lgc, c0]
    by_cases c2 : s ≤ q
    · refine ⟨va, vl, m &&& wanted, ?_, frat_refl, hE, frE_refl, hsimple, hleaf⟩
      simp (disch := first | assumption | omega | exact is_Script_draft | exact is_Script_made | exact is_Learner_made | exact is_Learner_madeFirst | (apply is_eScript_tasks; omega) | (apply is_eScript_lines; omega) | (apply is_eScript_ranBy; omega)) only [↓reduceIte, ↓I_n1, obs, I_0n, l_1, l_2, l_3, l_4, l_5, l_6, l_7, l_8, l_11, l_12, l_15, l_16, l_18, l_20, l_21, l_29, l_30, l_31, l_32, l_33, l_39, l_40, l_44, l_45, l_46, l_47, l_48, l_53, l_57, l_63, l_64, l_65, l_66, l_71, l_72, l_75, l_90, l_97, l_120, l_122, l_127, l_128, l_1812, l_3600, l_4000, l_252645135, l_268435456, l_858993459, l_1431655765, I_add, I_mul, I_sub, I_addN, I_mulN, I_subN, ilt_t, ilt_f, ile_t, ile_f, ieq_t, ieq_f, up_same, up_up, I_and, I_or, I_shlN, I_shrN, I_divN, I_remN, dzI, i2cI, narI, Int.toNat_natCast, true_or, or_true, false_or, or_false, true_and, and_true, false_and, and_false, not_true_eq_false, not_false_eq_true, cFinder, gFinder_found, nFinder_found, rFinder_found, gFinder_foundCount, pFinder_foundCount, gFinder_stock, gFinder_lookedAt, pFinder_lookedAt, gFinder_boardCount, pFinder_boardCount, gFinder_pins, nFinder_pins, rFinder_pins, wFinder_pins, gFinder_pinIndexes, nFinder_pinIndexes, rFinder_pinIndexes, wFinder_pinIndexes, gFinder_isPinned, pFinder_isPinned, gFinder_ways, nFinder_ways, rFinder_ways, wFinder_ways, gFinder_knownKeys, nFinder_knownKeys, rFinder_knownKeys, wFinder_knownKeys, gFinder_knownEndings, nFinder_knownEndings, rFinder_knownEndings, wFinder_knownEndings, gFinder_searches, pFinder_searches, gFinder_at_, nFinder_at_, rFinder_at_, wFinder_at_, gFinder_row, nFinder_row, rFinder_row, wFinder_row, cStock, gStock_boards, nStock_boards, rStock_boards, gStock_members, nStock_members, rStock_members, wStock_members, gStock_memberCount, pStock_memberCount, gStock_atoms, nStock_atoms, rStock_atoms, wStock_atoms, gStock_weights, nStock_weights, rStock_weights, wStock_weights, gStock_places, nStock_places, rStock_places, wStock_places, gStock_sizes, nStock_sizes, rStock_sizes, wStock_sizes, gStock_atomCount, pStock_atomCount, gStock_shared, nStock_shared, rStock_shared, wStock_shared, gStock_groups, nStock_groups, rStock_groups, wStock_groups, gStock_groupWeights, nStock_groupWeights, rStock_groupWeights, wStock_groupWeights, gStock_groupCount, pStock_groupCount, gStock_newest, nStock_newest, rStock_newest, wStock_newest, gStock_older, nStock_older, rStock_older, wStock_older, b_X2_endings_16, m1, lgc, c0]
    have hq : q < s := by omega
    have hq4 : q < 4 := by omega
    have hkey := x_keyOf (F := F) (L := lay iP s q) (q := q) (tx := tx) (pg := pg) (le := le) (ln := ln) (tk := tk) (bd := bd) (vi := vi) (va := va) (vl := vl) (vj := vj) (la := la) (me := me) hF hq4 hlt e1.1.1 hp hat e9
    obtain ⟨x0, hx0⟩ : ∃ x0, x0 = keyN S (lay iP s q) ms.length ps := ⟨_, rfl⟩
    have h20 : ∀ ps', psOk ms ps' → ∀ i, i < ms.length → gn ps' i ≤ 20 := fun ps' hp' i hi => by
      have := (gm_ok m4 hi).2.2.2
      have := hp'.2 i hi
      omega
    have hxb := keyN_bd (S := S) hlt (h20 ps hp)
    rw [← hx0] at hkey hxb
    obtain ⟨z, hz⟩ : ∃ z, z = slt (Lg x0) := ⟨_, rfl⟩
    have hzl : z < 2048 := by rw [hz]; exact slt_lt _
    have hse := slt_eq (Lg x0)
    rw [← hz, show (53 : Int32) = I ((53 : Nat) : Int) from rfl] at hse
    by_cases c3 : vl 516 z = Lg x0
    · refine ⟨va, vl, vl 517 z, ?_, frat_refl, hE, frE_refl, fun r hc _ => ?_, fun h => by omega⟩
      · simp (disch := first | assumption | omega | exact is_Script_draft | exact is_Script_made | exact is_Learner_made | exact is_Learner_madeFirst | (apply is_eScript_tasks; omega) | (apply is_eScript_lines; omega) | (apply is_eScript_ranBy; omega)) only [↓reduceIte, ↓I_n1, obs, I_0n, l_1, l_2, l_3, l_4, l_5, l_6, l_7, l_8, l_11, l_12, l_15, l_16, l_18, l_20, l_21, l_29, l_30, l_31, l_32, l_33, l_39, l_40, l_44, l_45, l_46, l_47, l_48, l_53, l_57, l_63, l_64, l_65, l_66, l_71, l_72, l_75, l_90, l_97, l_120, l_122, l_127, l_128, l_1812, l_3600, l_4000, l_252645135, l_268435456, l_858993459, l_1431655765, I_add, I_mul, I_sub, I_addN, I_mulN, I_subN, ilt_t, ilt_f, ile_t, ile_f, ieq_t, ieq_f, up_same, up_up, I_and, I_or, I_shlN, I_shrN, I_divN, I_remN, dzI, i2cI, narI, Int.toNat_natCast, true_or, or_true, false_or, or_false, true_and, and_true, false_and, and_false, not_true_eq_false, not_false_eq_true, cFinder, gFinder_found, nFinder_found, rFinder_found, gFinder_foundCount, pFinder_foundCount, gFinder_stock, gFinder_lookedAt, pFinder_lookedAt, gFinder_boardCount, pFinder_boardCount, gFinder_pins, nFinder_pins, rFinder_pins, wFinder_pins, gFinder_pinIndexes, nFinder_pinIndexes, rFinder_pinIndexes, wFinder_pinIndexes, gFinder_isPinned, pFinder_isPinned, gFinder_ways, nFinder_ways, rFinder_ways, wFinder_ways, gFinder_knownKeys, nFinder_knownKeys, rFinder_knownKeys, wFinder_knownKeys, gFinder_knownEndings, nFinder_knownEndings, rFinder_knownEndings, wFinder_knownEndings, gFinder_searches, pFinder_searches, gFinder_at_, nFinder_at_, rFinder_at_, wFinder_at_, gFinder_row, nFinder_row, rFinder_row, wFinder_row, cStock, gStock_boards, nStock_boards, rStock_boards, gStock_members, nStock_members, rStock_members, wStock_members, gStock_memberCount, pStock_memberCount, gStock_atoms, nStock_atoms, rStock_atoms, wStock_atoms, gStock_weights, nStock_weights, rStock_weights, wStock_weights, gStock_places, nStock_places, rStock_places, wStock_places, gStock_sizes, nStock_sizes, rStock_sizes, wStock_sizes, gStock_atomCount, pStock_atomCount, gStock_shared, nStock_shared, rStock_shared, wStock_shared, gStock_groups, nStock_groups, rStock_groups, wStock_groups, gStock_groupWeights, nStock_groupWeights, rStock_groupWeights, wStock_groupWeights, gStock_groupCount, pStock_groupCount, gStock_newest, nStock_newest, rStock_newest, wStock_newest, gStock_older, nStock_older, rStock_older, wStock_older, b_X2_endings_16, f_X2_endings_122, b_X2_endings_122, m1, lgc, c0, hkey, hse, c3]
      · obtain ⟨x, a1, a2, a3⟩ := e8 z hzl
        rw [c3] at a1
        have hxx : x0 = x := Lg_inj (by omega) (by omega) a1
        exact a3 s q ps hq hs hp (hxx.symm.trans hx0) r hc
    · have hg := ih s (q + 1) (by omega) hs (by omega)
      obtain ⟨va1, vl1, r1, i1, i2, i3, i4, i5⟩ := x_constEndings (F := F) (tx := tx) (pg := pg) (le := le) (ln := ln) (tk := tk) (bd := bd) (vi := vi) (va := va) (vl := vl) (vj := vj) (la := la) (me := me) hF hs hq hg hp hE hat
      obtain ⟨va2, vl2, r2, k1, k2, k3, k4, k5⟩ := x_atomEndings (F := F) (most := m) (tx := tx) (pg := pg) (le := le) (ln := ln) (tk := tk) (bd := bd) (vi := vi) (va := va1) (vl := vl1) (vj := vj) (la := la) (me := me) hF hs hq hg hp i3 (atR_frat m3 (Nat.le_refl _) i2 hat)
      obtain ⟨vl3, hvl3⟩ : ∃ vl3, vl3 = up vl2 516 (vp_updL (vl2 516) z (Lg x0)) := ⟨_, rfl⟩
      obtain ⟨vl4, hvl4⟩ : ∃ vl4, vl4 = up vl3 517 (vp_updL (vl3 517) z (r1 ||| r2)) := ⟨_, rfl⟩
      have g4 : frE vl2 vl4 := fun K a b => by
        rw [hvl4, up_ne b, hvl3, up_ne a]
      have hkeys : vl4 516 = vp_updL (vl2 516) z (Lg x0) := by
        rw [hvl4, up_ne (by decide), hvl3, up_same]
      have hends : vl4 517 = vp_updL (vl2 517) z (r1 ||| r2) := by
        rw [hvl4, up_same, hvl3, up_ne (by decide)]
      have hres : ∀ r, comps P ms (s - q) q r ps ≠ [] → bj (r1 ||| r2) (bt (s - q) r) = true := by
        intro r hc
        have hmb := hmost r hc
        have hbd := comps_ne_bd m4 hc
        have hsq : s - q = s - (q + 1) + 1 := by omega
        rw [hsq] at hc hmb ⊢
        rcases comps_cases m4 m2 hp hc with ⟨n', b1, b2, b3, b4, b5⟩ | ⟨n', qs, b1, b2, b3, b4⟩
        · have hb2 := comps_ne_bd m4 b5
          have := i5 n' b1 b2 b3 b4 _ b5
          have e : bt (s - (q + 1)) (r - (4 + 3 * n')) + 3 * n' = bt (s - (q + 1) + 1) r := by
            unfold bt
            omega
          rw [e] at this
          rw [bj_or, this]
          rfl
        · have hb2 := comps_ne_bd m4 b4
          have hwb := wt_bd (a := .inr n') b1
          have e : bt (s - (q + 1)) (r - wt (.inr n')) + (wt (.inr n') - 4) = bt (s - (q + 1) + 1) r := by
            unfold bt
            omega
          have := k5 n' qs b1 b2 b3 _ b4
          rw [e] at this
          rw [bj_or, this hmb, Bool.or_true]
      have hm4 : mOK vl4 iP P ms S := by
        intro y hy
        rw [hkeys, hends]
        by_cases w : y = z
        · subst w
          rw [upL_same, upL_same]
          refine ⟨x0, rfl, hxb.2, fun s' q' ps' a1 a2 a3 a4 r a5 => ?_⟩
          have a4 : keyN S (lay iP s q) ms.length ps = keyN S (lay iP s' q') ms.length ps' := hx0.symm.trans a4
          obtain ⟨b1, b2⟩ := keyN_inj hlt (lay_lt iP s' (by omega) q' (by omega)) hp.1 a3.1 m3 (h20 ps hp) (h20 ps' a3) a4
          subst b2
          obtain ⟨c4, c5⟩ := comps_lay e4.2 hs a2 hq a1 b1 r ps
          rw [← c5] at a5
          rw [← c4]
          exact hres r a5
        · rw [upL_at, if_neg w, upL_at, if_neg w]
          exact k3.2.2.2.2.2.2.2.1 y hy
      refine ⟨va2, vl4, r1 ||| r2, ?_, frat_trans i2 k2, EI_step (fun _ _ => rfl) g4 hm4 k3, frE_trans i4 (frE_trans k4 g4), fun r hc _ => hres r hc, fun h => by omega⟩
      rw [hvl4, hvl3]
      simp (disch := first | assumption | omega | exact is_Script_draft | exact is_Script_made | exact is_Learner_made | exact is_Learner_madeFirst | (apply is_eScript_tasks; omega) | (apply is_eScript_lines; omega) | (apply is_eScript_ranBy; omega)) only [↓reduceIte, ↓I_n1, obs, I_0n, l_1, l_2, l_3, l_4, l_5, l_6, l_7, l_8, l_11, l_12, l_15, l_16, l_18, l_20, l_21, l_29, l_30, l_31, l_32, l_33, l_39, l_40, l_44, l_45, l_46, l_47, l_48, l_53, l_57, l_63, l_64, l_65, l_66, l_71, l_72, l_75, l_90, l_97, l_120, l_122, l_127, l_128, l_1812, l_3600, l_4000, l_252645135, l_268435456, l_858993459, l_1431655765, I_add, I_mul, I_sub, I_addN, I_mulN, I_subN, ilt_t, ilt_f, ile_t, ile_f, ieq_t, ieq_f, up_same, up_up, I_and, I_or, I_shlN, I_shrN, I_divN, I_remN, dzI, i2cI, narI, Int.toNat_natCast, true_or, or_true, false_or, or_false, true_and, and_true, false_and, and_false, not_true_eq_false, not_false_eq_true, cFinder, gFinder_found, nFinder_found, rFinder_found, gFinder_foundCount, pFinder_foundCount, gFinder_stock, gFinder_lookedAt, pFinder_lookedAt, gFinder_boardCount, pFinder_boardCount, gFinder_pins, nFinder_pins, rFinder_pins, wFinder_pins, gFinder_pinIndexes, nFinder_pinIndexes, rFinder_pinIndexes, wFinder_pinIndexes, gFinder_isPinned, pFinder_isPinned, gFinder_ways, nFinder_ways, rFinder_ways, wFinder_ways, gFinder_knownKeys, nFinder_knownKeys, rFinder_knownKeys, wFinder_knownKeys, gFinder_knownEndings, nFinder_knownEndings, rFinder_knownEndings, wFinder_knownEndings, gFinder_searches, pFinder_searches, gFinder_at_, nFinder_at_, rFinder_at_, wFinder_at_, gFinder_row, nFinder_row, rFinder_row, wFinder_row, cStock, gStock_boards, nStock_boards, rStock_boards, gStock_members, nStock_members, rStock_members, wStock_members, gStock_memberCount, pStock_memberCount, gStock_atoms, nStock_atoms, rStock_atoms, wStock_atoms, gStock_weights, nStock_weights, rStock_weights, wStock_weights, gStock_places, nStock_places, rStock_places, wStock_places, gStock_sizes, nStock_sizes, rStock_sizes, wStock_sizes, gStock_atomCount, pStock_atomCount, gStock_shared, nStock_shared, rStock_shared, wStock_shared, gStock_groups, nStock_groups, rStock_groups, wStock_groups, gStock_groupWeights, nStock_groupWeights, rStock_groupWeights, wStock_groupWeights, gStock_groupCount, pStock_groupCount, gStock_newest, nStock_newest, rStock_newest, wStock_newest, gStock_older, nStock_older, rStock_older, wStock_older, b_X2_endings_16, f_X2_endings_122, b_X2_endings_122, m1, lgc, c0, hkey, hse, c3, i1, k1, upL_same]
end
