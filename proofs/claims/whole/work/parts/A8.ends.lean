/-! WHAT CAN END ALL: ATOMS, AND THE WHOLE -/
theorem stAll_alike {ms : List (Tx × Tx)} {ps : List Nat} {n n' : Nat} (hM : okM ms) (hl : ps.length = ms.length) (hn : n < 3672) (hn' : n' < 3672) (h : alike ms n n') : stAll (.inr n) ms ps = stAll (.inr n') ms ps := by
  have key : ∀ i, i < ms.length → stpA (.inr n) (gm ms i) (gn ps i) = stpA (.inr n') (gm ms i) (gn ps i) := fun i hi => by
    obtain ⟨o1, o2, o3, o4⟩ := gm_ok hM hi
    obtain ⟨a1, a2⟩ := h i hi
    rw [stpA_oc hn o2 o4, stpA_oc hn' o2 o4, a1, a2]
  cases e : stAll (.inr n') ms ps with
  | some qs =>
    obtain ⟨h1, h2⟩ := (stAll_iff hl).mp e
    exact (stAll_iff hl).mpr ⟨h1, fun i hi => by rw [key i hi]; exact h2 i hi⟩
  | none =>
    cases e' : stAll (.inr n) ms ps with
    | none => rfl
    | some qs =>
      obtain ⟨h1, h2⟩ := (stAll_iff hl).mp e'
      rw [(stAll_iff hl).mpr ⟨h1, fun i hi => by rw [← key i hi]; exact h2 i hi⟩] at e
      cases e
section
variable {F : Nat}
theorem x_ae55 {g : Nat → Int32 → Int32 → Int64 → cM → Option (Int64 × cM)} {A : Nat → Nat} {P : Nat → Option At} {iP : Bool} {ms : List (Tx × Tx)} {S s q : Nat} (hF : 200000 ≤ F) (hs : s ≤ 4) (hq : q < s) (hg : GE g A P iP ms S s (q + 1)) {ps : List Nat} (hp : psOk ms ps) {G : Nat} {Jf W : Nat → Nat} {most : Int64} : ∀ (f x : Nat) (acc : Int64) (tx : Nat → ZText) (pg : Nat → ZProg) (le : Nat → ZLearnt) (ln : Nat → ZLine) (tk : Nat → ZTask) (bd : Nat → ZBoard) (vi : Nat → Int32) (va : Nat → Nat → Int32) (vl : Nat → Nat → Int64) (vj : Int64) (la : Option Nat) (me : Nat → Option Nat), x ≤ G → G - x < f → EI tx bd vi va vl vj me A P iP ms S → grp vi va ms (stN ms 3672) G Jf W → atR va ms q ps → ∃ va' vl' e, f_X2_atomEndings_55 F g f aFinder (I (s : Nat)) (I (q : Nat)) most acc (I (x : Nat)) (mk (tx, pg, le, ln, tk, bd, vi, va, vl, vj, la, me)) = some (e, mk (tx, pg, le, ln, tk, bd, vi, (va'), (vl'), vj, la, me)) ∧ frat va va' q ∧ EI tx bd vi va' vl' vj me A P iP ms S ∧ frE vl vl' ∧ (∀ b, b < 64 → bj acc b = true → bj e b = true) ∧ (P q = none → e = most ∨ ∀ y, x ≤ y → y < G → ∀ qs, stAll (.inr (gl (stN ms 3672) (Jf y))) ms ps = some qs → ∀ kk, kk ≤ 12 → (W y).testBit kk = true → ∀ r, comps P ms (s - (q + 1)) (q + 1) r qs ≠ [] → bj e (bt (s - (q + 1)) r + kk) = true) := by
  intro f
  induction f with
  | zero => intros; omega
  | succ f ih =>
    intro x acc tx pg le ln tk bd vi va vl vj la me hx hf hE hG hat
    obtain ⟨e1, e2, e3, e4, e5, e6, e7, e8, e9⟩ := id hE
    obtain ⟨m1, m2, m3, m4, m5⟩ := id e1.1.1
    have hS := e1.1.2.1
    have hcap := hS.2.1
    have hg2 := hG.2.1
    have g1 := hG.1
    have hpin := e2 q (by omega)
    have hpb := pinI_bd e5 (k := q)
    rw [s_X2_atomEndings_55]
    by_cases c : x < G
    · obtain ⟨j1, j2, j3, j4⟩ := hG.2.2.1 x c
      by_cases d : P q = none
      · have d' := pinI_none.mpr d
        rw [d'] at hpin
        by_cases z : acc = most
        · refine ⟨va, vl, acc, ?_, frat_refl, hE, frE_refl, fun _ _ h => h, fun _ => Or.inl z⟩
          simp (disch := first | assumption | omega | exact is_Script_draft | exact is_Script_made | exact is_Learner_made | exact is_Learner_madeFirst | (apply is_eScript_tasks; omega) | (apply is_eScript_lines; omega) | (apply is_eScript_ranBy; omega)) only [↓reduceIte, ↓I_n1, obs, I_0n, l_1, l_2, l_3, l_4, l_5, l_6, l_7, l_8, l_11, l_12, l_15, l_16, l_18, l_20, l_21, l_29, l_30, l_31, l_32, l_33, l_39, l_40, l_44, l_45, l_46, l_47, l_48, l_53, l_57, l_63, l_64, l_65, l_66, l_71, l_72, l_75, l_90, l_97, l_120, l_122, l_127, l_128, l_1812, l_3600, l_4000, l_252645135, l_268435456, l_858993459, l_1431655765, I_add, I_mul, I_sub, I_addN, I_mulN, I_subN, ilt_t, ilt_f, ile_t, ile_f, ieq_t, ieq_f, up_same, up_up, I_and, I_or, I_shlN, I_shrN, I_divN, I_remN, dzI, i2cI, narI, Int.toNat_natCast, true_or, or_true, false_or, or_false, true_and, and_true, false_and, and_false, not_true_eq_false, not_false_eq_true, cFinder, gFinder_found, nFinder_found, rFinder_found, gFinder_foundCount, pFinder_foundCount, gFinder_stock, gFinder_lookedAt, pFinder_lookedAt, gFinder_boardCount, pFinder_boardCount, gFinder_pins, nFinder_pins, rFinder_pins, wFinder_pins, gFinder_pinIndexes, nFinder_pinIndexes, rFinder_pinIndexes, wFinder_pinIndexes, gFinder_isPinned, pFinder_isPinned, gFinder_ways, nFinder_ways, rFinder_ways, wFinder_ways, gFinder_knownKeys, nFinder_knownKeys, rFinder_knownKeys, wFinder_knownKeys, gFinder_knownEndings, nFinder_knownEndings, rFinder_knownEndings, wFinder_knownEndings, gFinder_searches, pFinder_searches, gFinder_at_, nFinder_at_, rFinder_at_, wFinder_at_, gFinder_row, nFinder_row, rFinder_row, wFinder_row, cStock, gStock_boards, nStock_boards, rStock_boards, gStock_members, nStock_members, rStock_members, wStock_members, gStock_memberCount, pStock_memberCount, gStock_atoms, nStock_atoms, rStock_atoms, wStock_atoms, gStock_weights, nStock_weights, rStock_weights, wStock_weights, gStock_places, nStock_places, rStock_places, wStock_places, gStock_sizes, nStock_sizes, rStock_sizes, wStock_sizes, gStock_atomCount, pStock_atomCount, gStock_shared, nStock_shared, rStock_shared, wStock_shared, gStock_groups, nStock_groups, rStock_groups, wStock_groups, gStock_groupWeights, nStock_groupWeights, rStock_groupWeights, wStock_groupWeights, gStock_groupCount, pStock_groupCount, gStock_newest, nStock_newest, rStock_newest, wStock_newest, gStock_older, nStock_older, rStock_older, wStock_older, b_X2_atomEndings_55, g1, hpin, lgc, z]
        · obtain ⟨va1, r0, h1, f1, hcase⟩ := x_stepsOver (F := F) (A := A) (j := Jf x) (k := q) (ps := ps) (tx := tx) (pg := pg) (le := le) (ln := ln) (tk := tk) (bd := bd) (vi := vi) (va := va) (vl := vl) (vj := vj) (la := la) (me := me) hF j2 (by omega) hp ⟨e1.1.1, hS⟩ hat
          have hEv := EI_at f1 hE
          have hatv := atR_frat m3 (Nat.le_refl _) f1 hat
          have hGv : ∀ va2, (∀ K, K ≠ 518 → va2 K = va K) → grp vi va2 ms (stN ms 3672) G Jf W := fun va2 h => grp_congr rfl (h _ (by decide)) (h _ (by decide)) (h _ (by decide)) (h _ (by decide)) hG
          rcases hcase with ⟨qs, hst, hr0, hpq, hatq⟩ | ⟨hst, hr0⟩
          · rw [hr0] at h1
            obtain ⟨va2, vl2, e', i1, i2, i3, i4, i5, -⟩ := hg tx pg le ln tk bd vi va1 vl vj la me qs (-1) hEv hpq hatq
            obtain ⟨r', hh, hhb⟩ := x_heavier (F := F) (M := mk (tx, pg, le, ln, tk, bd, vi, (va2), (vl2), vj, la, me)) (e := e') hF j4
            have hgw2 : va2 450 x = I (W x : Nat) := by
              rw [i2.1 _ (by decide), f1.1 _ (by decide)]
              exact j3
            obtain ⟨va3, vl3, e'', k1, k2, k3, k4, k5, k6⟩ := ih (x + 1) (acc ||| r') tx pg le ln tk bd vi (va2) (vl2) vj la me (by omega) (by omega) i3 (hGv va2 (fun K a => by rw [i2.1 K a, f1.1 K a])) (atR_frat m3 (Nat.le_succ _) i2 hatv)
            refine ⟨va3, vl3, e'', ?_, frat_trans f1 (frat_trans (frat_le (Nat.le_succ _) i2) k2), k3, frE_trans i4 k4, fun b hb h => k5 b hb (by rw [bj_or, h]; rfl), fun _ => ?_⟩
            · rw [← k1]
              simp (disch := first | assumption | omega | exact is_Script_draft | exact is_Script_made | exact is_Learner_made | exact is_Learner_madeFirst | (apply is_eScript_tasks; omega) | (apply is_eScript_lines; omega) | (apply is_eScript_ranBy; omega)) only [↓reduceIte, ↓I_n1, obs, I_0n, l_1, l_2, l_3, l_4, l_5, l_6, l_7, l_8, l_11, l_12, l_15, l_16, l_18, l_20, l_21, l_29, l_30, l_31, l_32, l_33, l_39, l_40, l_44, l_45, l_46, l_47, l_48, l_53, l_57, l_63, l_64, l_65, l_66, l_71, l_72, l_75, l_90, l_97, l_120, l_122, l_127, l_128, l_1812, l_3600, l_4000, l_252645135, l_268435456, l_858993459, l_1431655765, I_add, I_mul, I_sub, I_addN, I_mulN, I_subN, ilt_t, ilt_f, ile_t, ile_f, ieq_t, ieq_f, up_same, up_up, I_and, I_or, I_shlN, I_shrN, I_divN, I_remN, dzI, i2cI, narI, Int.toNat_natCast, true_or, or_true, false_or, or_false, true_and, and_true, false_and, and_false, not_true_eq_false, not_false_eq_true, cFinder, gFinder_found, nFinder_found, rFinder_found, gFinder_foundCount, pFinder_foundCount, gFinder_stock, gFinder_lookedAt, pFinder_lookedAt, gFinder_boardCount, pFinder_boardCount, gFinder_pins, nFinder_pins, rFinder_pins, wFinder_pins, gFinder_pinIndexes, nFinder_pinIndexes, rFinder_pinIndexes, wFinder_pinIndexes, gFinder_isPinned, pFinder_isPinned, gFinder_ways, nFinder_ways, rFinder_ways, wFinder_ways, gFinder_knownKeys, nFinder_knownKeys, rFinder_knownKeys, wFinder_knownKeys, gFinder_knownEndings, nFinder_knownEndings, rFinder_knownEndings, wFinder_knownEndings, gFinder_searches, pFinder_searches, gFinder_at_, nFinder_at_, rFinder_at_, wFinder_at_, gFinder_row, nFinder_row, rFinder_row, wFinder_row, cStock, gStock_boards, nStock_boards, rStock_boards, gStock_members, nStock_members, rStock_members, wStock_members, gStock_memberCount, pStock_memberCount, gStock_atoms, nStock_atoms, rStock_atoms, wStock_atoms, gStock_weights, nStock_weights, rStock_weights, wStock_weights, gStock_places, nStock_places, rStock_places, wStock_places, gStock_sizes, nStock_sizes, rStock_sizes, wStock_sizes, gStock_atomCount, pStock_atomCount, gStock_shared, nStock_shared, rStock_shared, wStock_shared, gStock_groups, nStock_groups, rStock_groups, wStock_groups, gStock_groupWeights, nStock_groupWeights, rStock_groupWeights, wStock_groupWeights, gStock_groupCount, pStock_groupCount, gStock_newest, nStock_newest, rStock_newest, wStock_newest, gStock_older, nStock_older, rStock_older, wStock_older, b_X2_atomEndings_55, f_X2_atomEndings_102, b_X2_atomEndings_102, g1, hpin, lgc, z, j1, h1, i1, hgw2, hh]
            · rcases k6 d with k6 | k6
              · exact Or.inl k6
              · refine Or.inr fun y a1 a2 qs' a3 kk a4 a5 r a6 => ?_
                by_cases w : y = x
                · subst w
                  rw [hst] at a3
                  cases a3
                  have hbd := comps_ne_bd m4 a6
                  have hb64 : bt (s - (q + 1)) r + kk < 64 := by unfold bt; omega
                  apply k5 _ hb64
                  rw [bj_or, hhb kk _ a4 a5 (i5 r a6 (bj_m1 (by omega))) hb64, Bool.or_true]
                · exact k6 y (by omega) a2 qs' a3 kk a4 a5 r a6
          · rw [hr0] at h1
            obtain ⟨va3, vl3, e'', k1, k2, k3, k4, k5, k6⟩ := ih (x + 1) acc tx pg le ln tk bd vi (va1) vl vj la me (by omega) (by omega) hEv (hGv va1 f1.1) hatv
            refine ⟨va3, vl3, e'', ?_, frat_trans f1 k2, k3, k4, k5, fun _ => ?_⟩
            · rw [← k1]
              simp (disch := first | assumption | omega | exact is_Script_draft | exact is_Script_made | exact is_Learner_made | exact is_Learner_madeFirst | (apply is_eScript_tasks; omega) | (apply is_eScript_lines; omega) | (apply is_eScript_ranBy; omega)) only [↓reduceIte, ↓I_n1, obs, I_0n, l_1, l_2, l_3, l_4, l_5, l_6, l_7, l_8, l_11, l_12, l_15, l_16, l_18, l_20, l_21, l_29, l_30, l_31, l_32, l_33, l_39, l_40, l_44, l_45, l_46, l_47, l_48, l_53, l_57, l_63, l_64, l_65, l_66, l_71, l_72, l_75, l_90, l_97, l_120, l_122, l_127, l_128, l_1812, l_3600, l_4000, l_252645135, l_268435456, l_858993459, l_1431655765, I_add, I_mul, I_sub, I_addN, I_mulN, I_subN, ilt_t, ilt_f, ile_t, ile_f, ieq_t, ieq_f, up_same, up_up, I_and, I_or, I_shlN, I_shrN, I_divN, I_remN, dzI, i2cI, narI, Int.toNat_natCast, true_or, or_true, false_or, or_false, true_and, and_true, false_and, and_false, not_true_eq_false, not_false_eq_true, cFinder, gFinder_found, nFinder_found, rFinder_found, gFinder_foundCount, pFinder_foundCount, gFinder_stock, gFinder_lookedAt, pFinder_lookedAt, gFinder_boardCount, pFinder_boardCount, gFinder_pins, nFinder_pins, rFinder_pins, wFinder_pins, gFinder_pinIndexes, nFinder_pinIndexes, rFinder_pinIndexes, wFinder_pinIndexes, gFinder_isPinned, pFinder_isPinned, gFinder_ways, nFinder_ways, rFinder_ways, wFinder_ways, gFinder_knownKeys, nFinder_knownKeys, rFinder_knownKeys, wFinder_knownKeys, gFinder_knownEndings, nFinder_knownEndings, rFinder_knownEndings, wFinder_knownEndings, gFinder_searches, pFinder_searches, gFinder_at_, nFinder_at_, rFinder_at_, wFinder_at_, gFinder_row, nFinder_row, rFinder_row, wFinder_row, cStock, gStock_boards, nStock_boards, rStock_boards, gStock_members, nStock_members, rStock_members, wStock_members, gStock_memberCount, pStock_memberCount, gStock_atoms, nStock_atoms, rStock_atoms, wStock_atoms, gStock_weights, nStock_weights, rStock_weights, wStock_weights, gStock_places, nStock_places, rStock_places, wStock_places, gStock_sizes, nStock_sizes, rStock_sizes, wStock_sizes, gStock_atomCount, pStock_atomCount, gStock_shared, nStock_shared, rStock_shared, wStock_shared, gStock_groups, nStock_groups, rStock_groups, wStock_groups, gStock_groupWeights, nStock_groupWeights, rStock_groupWeights, wStock_groupWeights, gStock_groupCount, pStock_groupCount, gStock_newest, nStock_newest, rStock_newest, wStock_newest, gStock_older, nStock_older, rStock_older, wStock_older, b_X2_atomEndings_55, g1, hpin, lgc, z, j1, h1]
            · rcases k6 d with k6 | k6
              · exact Or.inl k6
              · refine Or.inr fun y a1 a2 qs' a3 kk a4 a5 r a6 => ?_
                by_cases w : y = x
                · subst w
                  rw [hst] at a3
                  cases a3
                · exact k6 y (by omega) a2 qs' a3 kk a4 a5 r a6
      · have hd : pinI P q ≠ -1 := fun z => d (pinI_none.mp z)
        refine ⟨va, vl, acc, ?_, frat_refl, hE, frE_refl, fun _ _ h => h, fun z => absurd z d⟩
        simp (disch := first | assumption | omega | exact is_Script_draft | exact is_Script_made | exact is_Learner_made | exact is_Learner_madeFirst | (apply is_eScript_tasks; omega) | (apply is_eScript_lines; omega) | (apply is_eScript_ranBy; omega)) only [↓reduceIte, ↓I_n1, obs, I_0n, l_1, l_2, l_3, l_4, l_5, l_6, l_7, l_8, l_11, l_12, l_15, l_16, l_18, l_20, l_21, l_29, l_30, l_31, l_32, l_33, l_39, l_40, l_44, l_45, l_46, l_47, l_48, l_53, l_57, l_63, l_64, l_65, l_66, l_71, l_72, l_75, l_90, l_97, l_120, l_122, l_127, l_128, l_1812, l_3600, l_4000, l_252645135, l_268435456, l_858993459, l_1431655765, I_add, I_mul, I_sub, I_addN, I_mulN, I_subN, ilt_t, ilt_f, ile_t, ile_f, ieq_t, ieq_f, up_same, up_up, I_and, I_or, I_shlN, I_shrN, I_divN, I_remN, dzI, i2cI, narI, Int.toNat_natCast, true_or, or_true, false_or, or_false, true_and, and_true, false_and, and_false, not_true_eq_false, not_false_eq_true, cFinder, gFinder_found, nFinder_found, rFinder_found, gFinder_foundCount, pFinder_foundCount, gFinder_stock, gFinder_lookedAt, pFinder_lookedAt, gFinder_boardCount, pFinder_boardCount, gFinder_pins, nFinder_pins, rFinder_pins, wFinder_pins, gFinder_pinIndexes, nFinder_pinIndexes, rFinder_pinIndexes, wFinder_pinIndexes, gFinder_isPinned, pFinder_isPinned, gFinder_ways, nFinder_ways, rFinder_ways, wFinder_ways, gFinder_knownKeys, nFinder_knownKeys, rFinder_knownKeys, wFinder_knownKeys, gFinder_knownEndings, nFinder_knownEndings, rFinder_knownEndings, wFinder_knownEndings, gFinder_searches, pFinder_searches, gFinder_at_, nFinder_at_, rFinder_at_, wFinder_at_, gFinder_row, nFinder_row, rFinder_row, wFinder_row, cStock, gStock_boards, nStock_boards, rStock_boards, gStock_members, nStock_members, rStock_members, wStock_members, gStock_memberCount, pStock_memberCount, gStock_atoms, nStock_atoms, rStock_atoms, wStock_atoms, gStock_weights, nStock_weights, rStock_weights, wStock_weights, gStock_places, nStock_places, rStock_places, wStock_places, gStock_sizes, nStock_sizes, rStock_sizes, wStock_sizes, gStock_atomCount, pStock_atomCount, gStock_shared, nStock_shared, rStock_shared, wStock_shared, gStock_groups, nStock_groups, rStock_groups, wStock_groups, gStock_groupWeights, nStock_groupWeights, rStock_groupWeights, wStock_groupWeights, gStock_groupCount, pStock_groupCount, gStock_newest, nStock_newest, rStock_newest, wStock_newest, gStock_older, nStock_older, rStock_older, wStock_older, b_X2_atomEndings_55, g1, hpin]
    · refine ⟨va, vl, acc, ?_, frat_refl, hE, frE_refl, fun _ _ h => h, fun _ => Or.inr fun y a1 a2 => by omega⟩
      simp (disch := first | assumption | omega | exact is_Script_draft | exact is_Script_made | exact is_Learner_made | exact is_Learner_madeFirst | (apply is_eScript_tasks; omega) | (apply is_eScript_lines; omega) | (apply is_eScript_ranBy; omega)) only [↓reduceIte, ↓I_n1, obs, I_0n, l_1, l_2, l_3, l_4, l_5, l_6, l_7, l_8, l_11, l_12, l_15, l_16, l_18, l_20, l_21, l_29, l_30, l_31, l_32, l_33, l_39, l_40, l_44, l_45, l_46, l_47, l_48, l_53, l_57, l_63, l_64, l_65, l_66, l_71, l_72, l_75, l_90, l_97, l_120, l_122, l_127, l_128, l_1812, l_3600, l_4000, l_252645135, l_268435456, l_858993459, l_1431655765, I_add, I_mul, I_sub, I_addN, I_mulN, I_subN, ilt_t, ilt_f, ile_t, ile_f, ieq_t, ieq_f, up_same, up_up, I_and, I_or, I_shlN, I_shrN, I_divN, I_remN, dzI, i2cI, narI, Int.toNat_natCast, true_or, or_true, false_or, or_false, true_and, and_true, false_and, and_false, not_true_eq_false, not_false_eq_true, cFinder, gFinder_found, nFinder_found, rFinder_found, gFinder_foundCount, pFinder_foundCount, gFinder_stock, gFinder_lookedAt, pFinder_lookedAt, gFinder_boardCount, pFinder_boardCount, gFinder_pins, nFinder_pins, rFinder_pins, wFinder_pins, gFinder_pinIndexes, nFinder_pinIndexes, rFinder_pinIndexes, wFinder_pinIndexes, gFinder_isPinned, pFinder_isPinned, gFinder_ways, nFinder_ways, rFinder_ways, wFinder_ways, gFinder_knownKeys, nFinder_knownKeys, rFinder_knownKeys, wFinder_knownKeys, gFinder_knownEndings, nFinder_knownEndings, rFinder_knownEndings, wFinder_knownEndings, gFinder_searches, pFinder_searches, gFinder_at_, nFinder_at_, rFinder_at_, wFinder_at_, gFinder_row, nFinder_row, rFinder_row, wFinder_row, cStock, gStock_boards, nStock_boards, rStock_boards, gStock_members, nStock_members, rStock_members, wStock_members, gStock_memberCount, pStock_memberCount, gStock_atoms, nStock_atoms, rStock_atoms, wStock_atoms, gStock_weights, nStock_weights, rStock_weights, wStock_weights, gStock_places, nStock_places, rStock_places, wStock_places, gStock_sizes, nStock_sizes, rStock_sizes, wStock_sizes, gStock_atomCount, pStock_atomCount, gStock_shared, nStock_shared, rStock_shared, wStock_shared, gStock_groups, nStock_groups, rStock_groups, wStock_groups, gStock_groupWeights, nStock_groupWeights, rStock_groupWeights, wStock_groupWeights, gStock_groupCount, pStock_groupCount, gStock_newest, nStock_newest, rStock_newest, wStock_newest, gStock_older, nStock_older, rStock_older, wStock_older, b_X2_atomEndings_55, g1]
theorem x_atomEndings {g : Nat → Int32 → Int32 → Int64 → cM → Option (Int64 × cM)} {A : Nat → Nat} {P : Nat → Option At} {iP : Bool} {ms : List (Tx × Tx)} {S s q : Nat} {tx : Nat → ZText} {pg : Nat → ZProg} {le : Nat → ZLearnt} {ln : Nat → ZLine} {tk : Nat → ZTask} {bd : Nat → ZBoard} {vi : Nat → Int32} {va : Nat → Nat → Int32} {vl : Nat → Nat → Int64} {vj : Int64} {la : Option Nat} {me : Nat → Option Nat} (hF : 200000 ≤ F) (hs : s ≤ 4) (hq : q < s) (hg : GE g A P iP ms S s (q + 1)) {ps : List Nat} {most : Int64} (hp : psOk ms ps) (hE : EI tx bd vi va vl vj me A P iP ms S) (hat : atR va ms q ps) : ∃ va' vl' e, f_X2_atomEndings F g aFinder (I (s : Nat)) (I (q : Nat)) most (mk (tx, pg, le, ln, tk, bd, vi, va, vl, vj, la, me)) = some (e, mk (tx, pg, le, ln, tk, bd, vi, (va'), (vl'), vj, la, me)) ∧ frat va va' q ∧ EI tx bd vi va' vl' vj me A P iP ms S ∧ frE vl vl' ∧ ∀ n qs, n < 3672 → pinOk (P q) (.inr n) = true → stAll (.inr n) ms ps = some qs → ∀ r, comps P ms (s - (q + 1)) (q + 1) r qs ≠ [] → bj most (bt (s - (q + 1)) r + (wt (.inr n) - 4)) = true → bj e (bt (s - (q + 1)) r + (wt (.inr n) - 4)) = true := by
  obtain ⟨e1, e2, e3, e4, e5, e6, e7, e8, e9⟩ := id hE
  obtain ⟨m1, m2, m3, m4, m5⟩ := id e1.1.1
  have hS := e1.1.2.1
  have hcap := hS.2.1
  obtain ⟨G, Jf, W, hG⟩ := e1.1.2.2
  have hg2 := hG.2.1
  obtain ⟨r, hr, hr2⟩ := e3 q (by omega)
  have hin : ∀ n qs, n < 3672 → stAll (.inr n) ms ps = some qs → n ∈ stN ms 3672 := fun n qs hn h => stN_mem m4 hn (fun j hj => ⟨_, _, ((stAll_iff hp.1).mp h).2 j hj⟩)
  rcases hr2 with ⟨z, hno⟩ | ⟨z1, z2, z3⟩
  · rw [z] at hr
    obtain ⟨va', vl', e, h1, h2, h3, h4, h5, h6⟩ := x_ae55 (F := F) (most := most) hF hs hq hg hp F 0 0 tx pg le ln tk bd vi va vl vj la me (Nat.zero_le _) (by omega) hE hG hat
    refine ⟨va', vl', e, ?_, h2, h3, h4, fun n qs hn hpo hst r0 hc hm => ?_⟩
    · rw [← h1]
      simp (disch := first | assumption | omega | exact is_Script_draft | exact is_Script_made | exact is_Learner_made | exact is_Learner_madeFirst | (apply is_eScript_tasks; omega) | (apply is_eScript_lines; omega) | (apply is_eScript_ranBy; omega)) only [↓reduceIte, ↓I_n1, obs, I_0n, l_1, l_2, l_3, l_4, l_5, l_6, l_7, l_8, l_11, l_12, l_15, l_16, l_18, l_20, l_21, l_29, l_30, l_31, l_32, l_33, l_39, l_40, l_44, l_45, l_46, l_47, l_48, l_53, l_57, l_63, l_64, l_65, l_66, l_71, l_72, l_75, l_90, l_97, l_120, l_122, l_127, l_128, l_1812, l_3600, l_4000, l_252645135, l_268435456, l_858993459, l_1431655765, I_add, I_mul, I_sub, I_addN, I_mulN, I_subN, ilt_t, ilt_f, ile_t, ile_f, ieq_t, ieq_f, up_same, up_up, I_and, I_or, I_shlN, I_shrN, I_divN, I_remN, dzI, i2cI, narI, Int.toNat_natCast, true_or, or_true, false_or, or_false, true_and, and_true, false_and, and_false, not_true_eq_false, not_false_eq_true, cFinder, gFinder_found, nFinder_found, rFinder_found, gFinder_foundCount, pFinder_foundCount, gFinder_stock, gFinder_lookedAt, pFinder_lookedAt, gFinder_boardCount, pFinder_boardCount, gFinder_pins, nFinder_pins, rFinder_pins, wFinder_pins, gFinder_pinIndexes, nFinder_pinIndexes, rFinder_pinIndexes, wFinder_pinIndexes, gFinder_isPinned, pFinder_isPinned, gFinder_ways, nFinder_ways, rFinder_ways, wFinder_ways, gFinder_knownKeys, nFinder_knownKeys, rFinder_knownKeys, wFinder_knownKeys, gFinder_knownEndings, nFinder_knownEndings, rFinder_knownEndings, wFinder_knownEndings, gFinder_searches, pFinder_searches, gFinder_at_, nFinder_at_, rFinder_at_, wFinder_at_, gFinder_row, nFinder_row, rFinder_row, wFinder_row, b_X2_atomEndings_102, f_X2_atomEndings_102, b_X2_atomEndings_55, b_X2_atomEndings_0, f_X2_atomEndings_0, f_X2_atomEndings, hr]
    · have hmem := hin n qs hn hst
      have hnone : P q = none := by
        cases hpp : P q with
        | none => rfl
        | some y =>
          rw [hpp] at hpo
          have hpo := of_decide_eq_true hpo
          subst hpo
          exact absurd hpp (hno n hmem)
      rcases h6 hnone with h6 | h6
      · rw [h6]
        exact hm
      · obtain ⟨j, hj, rfl⟩ := gl_ex hmem
        obtain ⟨y, c1, c2, c3⟩ := hG.2.2.2.2.2 j hj
        have hwb := wt_bd (a := .inr (gl (stN ms 3672) j)) hn
        rw [stAll_alike m4 hp.1 hn (hS.2.2.1 _ (gl_mem (hG.2.2.1 y c1).2.1)) c2] at hst
        exact h6 y (Nat.zero_le _) c1 qs hst _ (by omega) c3 r0 hc
  · obtain ⟨j, rfl⟩ : ∃ j : Nat, r = j := ⟨r.toNat, by omega⟩
    rw [Int.toNat_natCast] at z3
    have hj : j < (stN ms 3672).length := by omega
    obtain ⟨-, t2, t3, t4⟩ := id hS
    obtain ⟨d1, d2, d3⟩ := t4 j hj
    have hwb := wt_bd (a := .inr (gl (stN ms 3672) j)) (t3 _ (gl_mem hj))
    obtain ⟨va1, r0, h1, f1, hcase⟩ := x_stepsOver (F := F) (A := A) (j := j) (k := q) (ps := ps) (tx := tx) (pg := pg) (le := le) (ln := ln) (tk := tk) (bd := bd) (vi := vi) (va := va) (vl := vl) (vj := vj) (la := la) (me := me) hF hj (by omega) hp ⟨e1.1.1, hS⟩ hat
    have hEv := EI_at f1 hE
    have hatv := atR_frat m3 (Nat.le_refl _) f1 hat
    have honly : ∀ n, pinOk (P q) (.inr n) = true → n = gl (stN ms 3672) j := fun n h => by
      rw [z3] at h
      exact Sum.inr.inj (of_decide_eq_true h)
    rcases hcase with ⟨qs, hst, hr0, hpq, hatq⟩ | ⟨hst, hr0⟩
    · rw [hr0] at h1
      obtain ⟨va2, vl2, e', i1, i2, i3, i4, i5, -⟩ := hg tx pg le ln tk bd vi va1 vl vj la me qs (-1) hEv hpq hatq
      have hwt2 : va2 445 j = I (wt (.inr (gl (stN ms 3672) j)) : Nat) := by
        rw [i2.1 _ (by decide), f1.1 _ (by decide)]
        exact d2
      refine ⟨va2, vl2, e' <<< ((I ((wt (.inr (gl (stN ms 3672) j)) - 4 : Nat) : Int)).toInt64 &&& 63), ?_, frat_trans f1 (frat_le (Nat.le_succ _) i2), i3, i4, fun n qs' hn hpo hst' r0 hc hm => ?_⟩
      · simp (disch := first | assumption | omega | exact is_Script_draft | exact is_Script_made | exact is_Learner_made | exact is_Learner_madeFirst | (apply is_eScript_tasks; omega) | (apply is_eScript_lines; omega) | (apply is_eScript_ranBy; omega)) only [↓reduceIte, ↓I_n1, obs, I_0n, l_1, l_2, l_3, l_4, l_5, l_6, l_7, l_8, l_11, l_12, l_15, l_16, l_18, l_20, l_21, l_29, l_30, l_31, l_32, l_33, l_39, l_40, l_44, l_45, l_46, l_47, l_48, l_53, l_57, l_63, l_64, l_65, l_66, l_71, l_72, l_75, l_90, l_97, l_120, l_122, l_127, l_128, l_1812, l_3600, l_4000, l_252645135, l_268435456, l_858993459, l_1431655765, I_add, I_mul, I_sub, I_addN, I_mulN, I_subN, ilt_t, ilt_f, ile_t, ile_f, ieq_t, ieq_f, up_same, up_up, I_and, I_or, I_shlN, I_shrN, I_divN, I_remN, dzI, i2cI, narI, Int.toNat_natCast, true_or, or_true, false_or, or_false, true_and, and_true, false_and, and_false, not_true_eq_false, not_false_eq_true, cFinder, gFinder_found, nFinder_found, rFinder_found, gFinder_foundCount, pFinder_foundCount, gFinder_stock, gFinder_lookedAt, pFinder_lookedAt, gFinder_boardCount, pFinder_boardCount, gFinder_pins, nFinder_pins, rFinder_pins, wFinder_pins, gFinder_pinIndexes, nFinder_pinIndexes, rFinder_pinIndexes, wFinder_pinIndexes, gFinder_isPinned, pFinder_isPinned, gFinder_ways, nFinder_ways, rFinder_ways, wFinder_ways, gFinder_knownKeys, nFinder_knownKeys, rFinder_knownKeys, wFinder_knownKeys, gFinder_knownEndings, nFinder_knownEndings, rFinder_knownEndings, wFinder_knownEndings, gFinder_searches, pFinder_searches, gFinder_at_, nFinder_at_, rFinder_at_, wFinder_at_, gFinder_row, nFinder_row, rFinder_row, wFinder_row, cStock, gStock_boards, nStock_boards, rStock_boards, gStock_members, nStock_members, rStock_members, wStock_members, gStock_memberCount, pStock_memberCount, gStock_atoms, nStock_atoms, rStock_atoms, wStock_atoms, gStock_weights, nStock_weights, rStock_weights, wStock_weights, gStock_places, nStock_places, rStock_places, wStock_places, gStock_sizes, nStock_sizes, rStock_sizes, wStock_sizes, gStock_atomCount, pStock_atomCount, gStock_shared, nStock_shared, rStock_shared, wStock_shared, gStock_groups, nStock_groups, rStock_groups, wStock_groups, gStock_groupWeights, nStock_groupWeights, rStock_groupWeights, wStock_groupWeights, gStock_groupCount, pStock_groupCount, gStock_newest, nStock_newest, rStock_newest, wStock_newest, gStock_older, nStock_older, rStock_older, wStock_older, b_X2_atomEndings_102, f_X2_atomEndings_102, b_X2_atomEndings_55, b_X2_atomEndings_0, f_X2_atomEndings_0, f_X2_atomEndings, hr, h1, i1, hwt2]
      · have hne := honly n hpo
        rw [hne] at hst' ⊢
        rw [hst] at hst'
        cases hst'
        have hbd := comps_ne_bd m4 hc
        rw [bj_shl (by omega) (by unfold bt; omega), decide_eq_true (by omega), Bool.true_and, Nat.add_sub_cancel]
        exact i5 r0 hc (bj_m1 (by unfold bt; omega))
    · rw [hr0] at h1
      obtain ⟨va', vl', e, k1, k2, k3, k4, k5, k6⟩ := x_ae55 (F := F) (most := most) hF hs hq hg hp F 0 0 tx pg le ln tk bd vi (va1) vl vj la me (Nat.zero_le _) (by omega) hEv (grp_congr rfl (f1.1 _ (by decide)) (f1.1 _ (by decide)) (f1.1 _ (by decide)) (f1.1 _ (by decide)) hG) hatv
      refine ⟨va', vl', e, ?_, frat_trans f1 k2, k3, k4, fun n qs' hn hpo hst' => ?_⟩
      · rw [← k1]
        simp (disch := first | assumption | omega | exact is_Script_draft | exact is_Script_made | exact is_Learner_made | exact is_Learner_madeFirst | (apply is_eScript_tasks; omega) | (apply is_eScript_lines; omega) | (apply is_eScript_ranBy; omega)) only [↓reduceIte, ↓I_n1, obs, I_0n, l_1, l_2, l_3, l_4, l_5, l_6, l_7, l_8, l_11, l_12, l_15, l_16, l_18, l_20, l_21, l_29, l_30, l_31, l_32, l_33, l_39, l_40, l_44, l_45, l_46, l_47, l_48, l_53, l_57, l_63, l_64, l_65, l_66, l_71, l_72, l_75, l_90, l_97, l_120, l_122, l_127, l_128, l_1812, l_3600, l_4000, l_252645135, l_268435456, l_858993459, l_1431655765, I_add, I_mul, I_sub, I_addN, I_mulN, I_subN, ilt_t, ilt_f, ile_t, ile_f, ieq_t, ieq_f, up_same, up_up, I_and, I_or, I_shlN, I_shrN, I_divN, I_remN, dzI, i2cI, narI, Int.toNat_natCast, true_or, or_true, false_or, or_false, true_and, and_true, false_and, and_false, not_true_eq_false, not_false_eq_true, cFinder, gFinder_found, nFinder_found, rFinder_found, gFinder_foundCount, pFinder_foundCount, gFinder_stock, gFinder_lookedAt, pFinder_lookedAt, gFinder_boardCount, pFinder_boardCount, gFinder_pins, nFinder_pins, rFinder_pins, wFinder_pins, gFinder_pinIndexes, nFinder_pinIndexes, rFinder_pinIndexes, wFinder_pinIndexes, gFinder_isPinned, pFinder_isPinned, gFinder_ways, nFinder_ways, rFinder_ways, wFinder_ways, gFinder_knownKeys, nFinder_knownKeys, rFinder_knownKeys, wFinder_knownKeys, gFinder_knownEndings, nFinder_knownEndings, rFinder_knownEndings, wFinder_knownEndings, gFinder_searches, pFinder_searches, gFinder_at_, nFinder_at_, rFinder_at_, wFinder_at_, gFinder_row, nFinder_row, rFinder_row, wFinder_row, b_X2_atomEndings_102, f_X2_atomEndings_102, b_X2_atomEndings_55, b_X2_atomEndings_0, f_X2_atomEndings_0, f_X2_atomEndings, hr, h1]
      · rw [honly n hpo, hst] at hst'
        cases hst'
/-- all columns' ways together -/
theorem x_en16 {g1 : Nat → Int32 → Int32 → cM → Option (Int64 × cM)} {g2 : Nat → Int32 → Int32 → Int64 → cM → Option (Int64 × cM)} {A : Nat → Nat} {ms : List (Tx × Tx)} {ps : List Nat} {s q L : Nat} {wanted : Int64} {tx : Nat → ZText} {pg : Nat → ZProg} {le : Nat → ZLearnt} {ln : Nat → ZLine} {tk : Nat → ZTask} {bd : Nat → ZBoard} {vi : Nat → Int32} {va : Nat → Nat → Int32} {vl : Nat → Nat → Int64} {vj : Int64} {la : Option Nat} {me : Nat → Option Nat} (hL : L < 11) (hq : q ≤ 4) (hM : mems tx bd vi me A ms) (hp : psOk ms ps) (hat : atR va ms q ps) : ∀ (f i : Nat) (acc : Int64), i ≤ ms.length → ms.length - i < f → ∃ m f', f_X2_endings_16 F g1 g2 f aFinder (I (s : Nat)) (I (q : Nat)) wanted (I (L : Nat)) acc (I (i : Nat)) (mk (tx, pg, le, ln, tk, bd, vi, va, vl, vj, la, me)) = f_X2_endings_16 F g1 g2 (f' + 1) aFinder (I (s : Nat)) (I (q : Nat)) wanted (I (L : Nat)) m (I (ms.length : Nat)) (mk (tx, pg, le, ln, tk, bd, vi, va, vl, vj, la, me)) ∧ ∀ b, bj m b = true ↔ bj acc b = true ∧ ∀ i', i ≤ i' → i' < ms.length → bj (vl 515 ((L * 4 + i') * 21 + gn ps i')) b = true := by
  intro f
  induction f with
  | zero => intros; omega
  | succ f ih =>
    intro i acc hi hf
    obtain ⟨m1, m2, m3, m4, m5⟩ := id hM
    by_cases c : i < ms.length
    · have hai := hat i c
      have h20 := (gm_ok m4 c).2.2.2
      have hpi := hp.2 i c
      obtain ⟨m, f', e', h'⟩ := ih (i + 1) (acc &&& vl 515 ((L * 4 + i) * 21 + gn ps i)) (by omega) (by omega)
      refine ⟨m, f', ?_, fun b => ?_⟩
      · rw [← e', s_X2_endings_16]
        simp (disch := first | assumption | omega | exact is_Script_draft | exact is_Script_made | exact is_Learner_made | exact is_Learner_madeFirst | (apply is_eScript_tasks; omega) | (apply is_eScript_lines; omega) | (apply is_eScript_ranBy; omega)) only [↓reduceIte, ↓I_n1, obs, I_0n, l_1, l_2, l_3, l_4, l_5, l_6, l_7, l_8, l_11, l_12, l_15, l_16, l_18, l_20, l_21, l_29, l_30, l_31, l_32, l_33, l_39, l_40, l_44, l_45, l_46, l_47, l_48, l_53, l_57, l_63, l_64, l_65, l_66, l_71, l_72, l_75, l_90, l_97, l_120, l_122, l_127, l_128, l_1812, l_3600, l_4000, l_252645135, l_268435456, l_858993459, l_1431655765, I_add, I_mul, I_sub, I_addN, I_mulN, I_subN, ilt_t, ilt_f, ile_t, ile_f, ieq_t, ieq_f, up_same, up_up, I_and, I_or, I_shlN, I_shrN, I_divN, I_remN, dzI, i2cI, narI, Int.toNat_natCast, true_or, or_true, false_or, or_false, true_and, and_true, false_and, and_false, not_true_eq_false, not_false_eq_true, cFinder, gFinder_found, nFinder_found, rFinder_found, gFinder_foundCount, pFinder_foundCount, gFinder_stock, gFinder_lookedAt, pFinder_lookedAt, gFinder_boardCount, pFinder_boardCount, gFinder_pins, nFinder_pins, rFinder_pins, wFinder_pins, gFinder_pinIndexes, nFinder_pinIndexes, rFinder_pinIndexes, wFinder_pinIndexes, gFinder_isPinned, pFinder_isPinned, gFinder_ways, nFinder_ways, rFinder_ways, wFinder_ways, gFinder_knownKeys, nFinder_knownKeys, rFinder_knownKeys, wFinder_knownKeys, gFinder_knownEndings, nFinder_knownEndings, rFinder_knownEndings, wFinder_knownEndings, gFinder_searches, pFinder_searches, gFinder_at_, nFinder_at_, rFinder_at_, wFinder_at_, gFinder_row, nFinder_row, rFinder_row, wFinder_row, cStock, gStock_boards, nStock_boards, rStock_boards, gStock_members, nStock_members, rStock_members, wStock_members, gStock_memberCount, pStock_memberCount, gStock_atoms, nStock_atoms, rStock_atoms, wStock_atoms, gStock_weights, nStock_weights, rStock_weights, wStock_weights, gStock_places, nStock_places, rStock_places, wStock_places, gStock_sizes, nStock_sizes, rStock_sizes, wStock_sizes, gStock_atomCount, pStock_atomCount, gStock_shared, nStock_shared, rStock_shared, wStock_shared, gStock_groups, nStock_groups, rStock_groups, wStock_groups, gStock_groupWeights, nStock_groupWeights, rStock_groupWeights, wStock_groupWeights, gStock_groupCount, pStock_groupCount, gStock_newest, nStock_newest, rStock_newest, wStock_newest, gStock_older, nStock_older, rStock_older, wStock_older, b_X2_endings_16, m1, hai]
      · rw [h', bj_and, Bool.and_eq_true]
        constructor
        · rintro ⟨⟨a1, a2⟩, a3⟩
          refine ⟨a1, fun i' b1 b2 => ?_⟩
          by_cases z : i' = i
          · subst z
            exact a2
          · exact a3 i' (by omega) b2
        · rintro ⟨a1, a2⟩
          exact ⟨⟨a1, a2 i (Nat.le_refl _) c⟩, fun i' b1 b2 => a2 i' (by omega) b2⟩
    · have : i = ms.length := by omega
      subst this
      exact ⟨acc, f, rfl, fun b => ⟨fun h => ⟨h, fun i' a1 a2 => by omega⟩, fun h => h.1⟩⟩
theorem comps_cases {P : Nat → Option At} {ms : List (Tx × Tx)} {n k : Nat} {r : Int} {ps : List Nat} (hM : okM ms) (hm : 1 ≤ ms.length) (hp : psOk ms ps) (hc : comps P ms (n + 1) k r ps ≠ []) : (∃ n', 0 < n' ∧ n' ≤ 4 ∧ cpre ms ps n' ∧ pinOk (P k) (.inl (cl0 ms ps n')) = true ∧ comps P ms n (k + 1) (r - (4 + 3 * n')) (psadd ms ps n') ≠ []) ∨ ∃ m qs, m < 3672 ∧ pinOk (P k) (.inr m) = true ∧ stAll (.inr m) ms ps = some qs ∧ comps P ms n (k + 1) (r - wt (.inr m)) qs ≠ [] := by
  unfold comps at hc
  obtain ⟨p, hpm⟩ := List.exists_mem_of_ne_nil _ hc
  obtain ⟨x, hx, hy⟩ := List.mem_flatMap.mp hpm
  split at hy
  · next hpin =>
    obtain ⟨p', hp', -⟩ := List.mem_map.mp hy
    have hne : comps P ms n (k + 1) (r - wt x.1) x.2 ≠ [] := List.ne_nil_of_mem hp'
    obtain ⟨x1, x2⟩ := nxt_mem hx
    obtain ⟨a, qs⟩ := x
    rcases List.mem_append.mp x1 with h | h
    · have hcs : csts ms ps = (List.range' 1 4).filterMap (fun n => if gn ps 0 + n ≤ (gm ms 0).2.length then some (.inl (((gm ms 0).2.drop (gn ps 0)).take n)) else none) := by
        obtain _ | ⟨m0, ms⟩ := ms
        · exact absurd hm (by decide)
        obtain _ | ⟨p0, ps⟩ := ps
        · exact absurd hp.1 (by simp)
        rfl
      rw [hcs] at h
      obtain ⟨n', hn', e⟩ := List.mem_filterMap.mp h
      rw [List.mem_range'] at hn'
      obtain ⟨i, hi, hn'⟩ := hn'
      split at e
      · next hl =>
        have e : Sum.inl (cl0 ms ps n') = a := Option.some.inj e
        subst e
        have hst := cpre_st hp hl
        by_cases hcp : cpre ms ps n'
        · have x2 : stAll (.inl (cl0 ms ps n')) ms ps = some qs := x2
          rw [hst.1 hcp] at x2
          have x2 := Option.some.inj x2
          refine Or.inl ⟨n', by omega, by omega, hcp, hpin, ?_⟩
          have hwt : ((wt (.inl (cl0 ms ps n')) : Nat) : Int) = 4 + 3 * n' := by
            show ((4 + 3 * (cl0 ms ps n').length : Nat) : Int) = _
            rw [(cl0_ok hM hm hl).2]
            omega
          have hne : comps P ms n (k + 1) (r - wt (.inl (cl0 ms ps n'))) qs ≠ [] := hne
          rw [hwt, ← x2] at hne
          exact hne
        · have x2 : stAll (.inl (cl0 ms ps n')) ms ps = some qs := x2
          rw [hst.2 hcp] at x2
          cases x2
      · cases e
    · obtain ⟨m, hm', e⟩ := List.mem_map.mp h
      have e : Sum.inr m = a := e
      subst e
      exact Or.inr ⟨m, qs, List.mem_range.mp hm', hpin, x2, hne⟩
  · cases hy
end
