/-! ATOMS COME INTO THE STOCK -/
theorem rowOk_congr {va va' : Nat → Nat → Int32} {ms : List (Tx × Tx)} {c n : Nat} (h1 : va' 446 = va 446) (h2 : va' 447 = va 447) (h : rowOk va ms c n) : rowOk va' ms c n := fun i hi => by
  rw [h1, h2]
  exact h i hi
theorem grp_congr {vi vi' : Nat → Int32} {va va' : Nat → Nat → Int32} {ms : List (Tx × Tx)} {L : List Nat} {G : Nat} {J W : Nat → Nat} (h0 : vi' 611 = vi 611) (h1 : va' 449 = va 449) (h2 : va' 450 = va 450) (h3 : va' 451 = va 451) (h4 : va' 452 = va 452) (h : grp vi va ms L G J W) : grp vi' va' ms L G J W := by
  unfold grp at *
  rw [h0, h1, h2, h3, h4]
  exact h
/-- what the gathering of atoms leaves as it was -/
def frS (vi vi' : Nat → Int32) (va va' : Nat → Nat → Int32) : Prop := (∀ k, k ≠ 607 → k ≠ 611 → vi' k = vi k) ∧ ∀ K, K ≠ 444 → K ≠ 445 → K ≠ 446 → K ≠ 447 → K ≠ 449 → K ≠ 450 → K ≠ 451 → K ≠ 452 → va' K = va K
theorem frS_refl {vi : Nat → Int32} {va : Nat → Nat → Int32} : frS vi vi va va := ⟨fun _ _ _ => rfl, fun _ _ _ _ _ _ _ _ _ => rfl⟩
theorem frS_trans {vi vi' vi'' : Nat → Int32} {va va' va'' : Nat → Nat → Int32} (h : frS vi vi' va va') (h' : frS vi' vi'' va' va'') : frS vi vi'' va va'' := ⟨fun k a b => (h'.1 k a b).trans (h.1 k a b), fun K a b c d e f g i => (h'.2 K a b c d e f g i).trans (h.2 K a b c d e f g i)⟩
theorem mems_frS {tx : Nat → ZText} {bd : Nat → ZBoard} {vi vi' : Nat → Int32} {va va' : Nat → Nat → Int32} {me : Nat → Option Nat} {A : Nat → Nat} {ms : List (Tx × Tx)} (f : frS vi vi' va va') (h : mems tx bd vi me A ms) : mems tx bd vi' me A ms := by
  unfold mems at *
  rw [f.1 _ (by decide) (by decide)]
  exact h
theorem gm_ok {ms : List (Tx × Tx)} (h : okM ms) {i : Nat} (hi : i < ms.length) : okT (gm ms i).1 ∧ (gm ms i).1.length ≤ 20 ∧ okT (gm ms i).2 ∧ (gm ms i).2.length ≤ 20 := by
  apply h
  unfold gm
  rw [List.getD_eq_getElem?_getD, List.getElem?_eq_getElem hi]
  exact List.getElem_mem hi
section
variable {F : Nat}
theorem x_addAtom {ms : List (Tx × Tx)} {A : Nat → Nat} {L : List Nat} {G n : Nat} {J W : Nat → Nat} {tx : Nat → ZText} {pg : Nat → ZProg} {le : Nat → ZLearnt} {ln : Nat → ZLine} {tk : Nat → ZTask} {bd : Nat → ZBoard} {vi : Nat → Int32} {va : Nat → Nat → Int32} {vl : Nat → Nat → Int64} {vj : Int64} {la : Option Nat} {me : Nat → Option Nat} (hF : 200000 ≤ F) (hM : mems tx bd vi me A ms) (hn : n < 3672) (hL : L.length < 1812) (hS : stk vi va ms L) (hr : rowOk va ms L.length n) (hG : grp vi va ms L G J W) : ∃ vi' va' G' J' W', f_X8_addAtom F aStock (I (n : Nat)) (I (wt (.inr n) : Nat)) (mk (tx, pg, le, ln, tk, bd, vi, va, vl, vj, la, me)) = some (mk (tx, pg, le, ln, tk, bd, (vi'), (va'), vl, vj, la, me)) ∧ stk vi' va' ms (L ++ [n]) ∧ grp vi' va' ms (L ++ [n]) G' J' W' ∧ frS vi vi' va va' := by
  obtain ⟨t1, t2, t3, t4⟩ := id hS
  obtain ⟨g1, g2, g3, g4, g5, g6⟩ := id hG
  obtain ⟨m1, m2, m3, m4, m5⟩ := id hM
  have hw := wt_bd (a := .inr n) hn
  have hsz := sz_le hn (gm_ok m4 (show 0 < ms.length by omega)).2.1
  have hr0 := (hr 0 (by omega)).2
  rw [Nat.add_zero] at hr0
  obtain ⟨z0, n1, n2, n3⟩ := g4 (sz n (gm ms 0)) (by omega)
  -- the atom's own cells
  obtain ⟨va1, hva1⟩ : ∃ va1, va1 = up (up va 444 (upd (va 444) L.length (I (n : Nat)))) 445 (upd (va 445) L.length (I (wt (.inr n) : Nat))) := ⟨_, rfl⟩
  have q1 : ∀ K, K ≠ 444 → K ≠ 445 → va1 K = va K := fun K a b => by rw [hva1, up_ne b, up_ne a]
  obtain ⟨z', e48, hz'⟩ := x_add48 (F := F) (w := wt (.inr n)) (s := sz n (gm ms 0)) (tx := tx) (pg := pg) (le := le) (ln := ln) (tk := tk) (bd := bd) (vi := vi) (va := va1) (vl := vl) (vj := vj) (la := la) (me := me) hF hM hn t1 hL t3 (rowOk_congr (q1 _ (by decide) (by decide)) (q1 _ (by decide) (by decide)) hr) (fun j hj => rowOk_congr (q1 _ (by decide) (by decide)) (q1 _ (by decide) (by decide)) (t4 j hj).2.2) (grp_congr rfl (q1 _ (by decide) (by decide)) (q1 _ (by decide) (by decide)) (q1 _ (by decide) (by decide)) (q1 _ (by decide) (by decide)) hG) F 0 z0 (Nat.zero_le _) (by omega) n2 (by omega)
  have e0 : f_X8_addAtom F aStock (I (n : Nat)) (I (wt (.inr n) : Nat)) (mk (tx, pg, le, ln, tk, bd, vi, va, vl, vj, la, me)) = f_X8_addAtom_92 F aStock (I (wt (.inr n) : Nat)) (I (sz n (gm ms 0) : Nat)) (I z') (mk (tx, pg, le, ln, tk, bd, vi, (va1), vl, vj, la, me)) := by
    rw [← e48]
    simp (disch := first | assumption | omega | exact is_Script_draft | exact is_Script_made | exact is_Learner_made | exact is_Learner_madeFirst | (apply is_eScript_tasks; omega) | (apply is_eScript_lines; omega) | (apply is_eScript_ranBy; omega)) only [↓reduceIte, ↓I_n1, obs, I_0n, l_1, l_2, l_3, l_4, l_5, l_6, l_7, l_8, l_11, l_12, l_15, l_16, l_18, l_20, l_21, l_29, l_30, l_31, l_32, l_33, l_39, l_40, l_44, l_45, l_46, l_47, l_48, l_53, l_57, l_63, l_64, l_65, l_66, l_71, l_72, l_75, l_90, l_97, l_120, l_122, l_127, l_128, l_1812, l_3600, l_4000, l_252645135, l_268435456, l_858993459, l_1431655765, I_add, I_mul, I_sub, I_addN, I_mulN, I_subN, ilt_t, ilt_f, ile_t, ile_f, ieq_t, ieq_f, up_same, up_up, I_and, I_or, I_shlN, I_shrN, I_divN, I_remN, dzI, i2cI, narI, Int.toNat_natCast, true_or, or_true, false_or, or_false, true_and, and_true, false_and, and_false, not_true_eq_false, not_false_eq_true, cStock, gStock_boards, nStock_boards, rStock_boards, gStock_members, nStock_members, rStock_members, wStock_members, gStock_memberCount, pStock_memberCount, gStock_atoms, nStock_atoms, rStock_atoms, wStock_atoms, gStock_weights, nStock_weights, rStock_weights, wStock_weights, gStock_places, nStock_places, rStock_places, wStock_places, gStock_sizes, nStock_sizes, rStock_sizes, wStock_sizes, gStock_atomCount, pStock_atomCount, gStock_shared, nStock_shared, rStock_shared, wStock_shared, gStock_groups, nStock_groups, rStock_groups, wStock_groups, gStock_groupWeights, nStock_groupWeights, rStock_groupWeights, wStock_groupWeights, gStock_groupCount, pStock_groupCount, gStock_newest, nStock_newest, rStock_newest, wStock_newest, gStock_older, nStock_older, rStock_older, wStock_older, b_X8_addAtom_154, f_X8_addAtom_154, b_X8_addAtom_92, f_X8_addAtom_92, b_X8_addAtom_48, b_X8_addAtom_0, f_X8_addAtom_0, f_X8_addAtom, t1, up_ne, hr0, n1, mnI]
    rw [← hva1]
  have hwl : W = W := rfl
  have hbit : (1 <<< (wt (.inr n) - 4) : Nat) < 8192 := by
    rw [Nat.one_shiftLeft]
    exact p2_lt (n := 13) (by omega)
  have hat : ∀ j, va1 444 j = if j = L.length then I (n : Nat) else va 444 j := fun j => by
    rw [hva1, up_ne (by decide), up_same]
    rfl
  have hwt : ∀ j, va1 445 j = if j = L.length then I (wt (.inr n) : Nat) else va 445 j := fun j => by
    rw [hva1, up_same]
    rfl
  -- the atoms' rows of any later state
  have key : ∀ vi2 va2, vi2 607 = I ((L.length + 1 : Nat) : Int) → va2 444 = va1 444 → va2 445 = va1 445 → va2 446 = va1 446 → va2 447 = va1 447 → stk vi2 va2 ms (L ++ [n]) := by
    intro vi2 va2 a1 a2 a3 a4 a5
    have b4 : va2 446 = va 446 := by rw [a4, q1 _ (by decide) (by decide)]
    have b5 : va2 447 = va 447 := by rw [a5, q1 _ (by decide) (by decide)]
    refine ⟨?_, ?_, ?_, ?_⟩
    · rw [List.length_append]
      exact a1
    · rw [List.length_append, List.length_singleton]
      omega
    · intro x hx
      rcases List.mem_append.mp hx with h | h
      · exact t3 x h
      · rw [List.mem_singleton.mp h]
        exact hn
    · intro j hj
      rw [List.length_append, List.length_singleton] at hj
      rw [a2, a3, hat, hwt, gl_app]
      by_cases c : j = L.length
      · rw [if_pos c, if_pos c, if_neg (by omega), if_pos c, c]
        exact ⟨rfl, rfl, rowOk_congr b4 b5 hr⟩
      · simp only [if_neg c, if_pos (show j < L.length by omega)]
        obtain ⟨d1, d2, d3⟩ := t4 j (by omega)
        exact ⟨d1, d2, rowOk_congr b4 b5 d3⟩
  rcases hz' with rfl | ⟨g, rfl, hg, hal⟩
  · -- a group of its own
    obtain ⟨va2, hva2⟩ : ∃ va2, va2 = up (up (up (up (up va1 449 (upd (va1 449) G (I (L.length : Nat)))) 450 (upd (va1 450) G (I ((0 : Nat) : Int)))) 452 (upd (va1 452) G (va1 451 (sz n (gm ms 0))))) 451 (upd (va1 451) (sz n (gm ms 0)) (I (G : Nat)))) 450 (upd (upd (va1 450) G (I ((0 : Nat) : Int))) G (I ((0 ||| (1 <<< (wt (.inr n) - 4)) : Nat) : Int))) := ⟨_, rfl⟩
    have q2 : ∀ K, K ≠ 449 → K ≠ 450 → K ≠ 452 → K ≠ 451 → va2 K = va1 K := fun K a b c d => by rw [hva2, up_ne b, up_ne d, up_ne c, up_ne b, up_ne a]
    refine ⟨up (up vi 611 (I ((G + 1 : Nat) : Int))) 607 (I ((L.length + 1 : Nat) : Int)), va2, G + 1, fun x => if x = G then L.length else J x, fun x => if x = G then 1 <<< (wt (.inr n) - 4) else W x, ?_, ?_, ?_, ?_⟩
    · rw [e0]
      have g1' : vi 611 = I (G : Nat) := g1
      have hu : upd (upd (va1 450) G (I ((0 : Nat) : Int))) G = upd (upd (va1 450) G (I ((0 : Nat) : Int))) G := rfl
      have hu2 : ∀ v : Int32, upd (va1 450) G v G = v := fun v => by
        unfold upd
        rw [if_pos rfl]
      simp (disch := first | assumption | omega | exact is_Script_draft | exact is_Script_made | exact is_Learner_made | exact is_Learner_madeFirst | (apply is_eScript_tasks; omega) | (apply is_eScript_lines; omega) | (apply is_eScript_ranBy; omega)) only [↓reduceIte, ↓I_n1, obs, I_0n, l_1, l_2, l_3, l_4, l_5, l_6, l_7, l_8, l_11, l_12, l_15, l_16, l_18, l_20, l_21, l_29, l_30, l_31, l_32, l_33, l_39, l_40, l_44, l_45, l_46, l_47, l_48, l_53, l_57, l_63, l_64, l_65, l_66, l_71, l_72, l_75, l_90, l_97, l_120, l_122, l_127, l_128, l_1812, l_3600, l_4000, l_252645135, l_268435456, l_858993459, l_1431655765, I_add, I_mul, I_sub, I_addN, I_mulN, I_subN, ilt_t, ilt_f, ile_t, ile_f, ieq_t, ieq_f, up_same, up_up, I_and, I_or, I_shlN, I_shrN, I_divN, I_remN, dzI, i2cI, narI, Int.toNat_natCast, true_or, or_true, false_or, or_false, true_and, and_true, false_and, and_false, not_true_eq_false, not_false_eq_true, cStock, gStock_boards, nStock_boards, rStock_boards, gStock_members, nStock_members, rStock_members, wStock_members, gStock_memberCount, pStock_memberCount, gStock_atoms, nStock_atoms, rStock_atoms, wStock_atoms, gStock_weights, nStock_weights, rStock_weights, wStock_weights, gStock_places, nStock_places, rStock_places, wStock_places, gStock_sizes, nStock_sizes, rStock_sizes, wStock_sizes, gStock_atomCount, pStock_atomCount, gStock_shared, nStock_shared, rStock_shared, wStock_shared, gStock_groups, nStock_groups, rStock_groups, wStock_groups, gStock_groupWeights, nStock_groupWeights, rStock_groupWeights, wStock_groupWeights, gStock_groupCount, pStock_groupCount, gStock_newest, nStock_newest, rStock_newest, wStock_newest, gStock_older, nStock_older, rStock_older, wStock_older, f_X8_addAtom_92, b_X8_addAtom_92, f_X8_addAtom_154, b_X8_addAtom_154, g1, t1, up_ne, hu2]
      rw [hva2]
    · exact key _ _ (by rw [up_same]) (q2 _ (by decide) (by decide) (by decide) (by decide)) (q2 _ (by decide) (by decide) (by decide) (by decide)) (q2 _ (by decide) (by decide) (by decide) (by decide)) (q2 _ (by decide) (by decide) (by decide) (by decide))
    · have k1 : ∀ g, va2 449 g = if g = G then I (L.length : Nat) else va 449 g := fun g => by
        rw [hva2, up_ne (by decide), up_ne (by decide), up_ne (by decide), up_ne (by decide), up_same]
        unfold upd
        rw [q1 _ (by decide) (by decide)]
      have k2 : ∀ g, va2 450 g = if g = G then I ((0 ||| (1 <<< (wt (.inr n) - 4)) : Nat) : Int) else va 450 g := fun g => by
        rw [hva2, up_same]
        unfold upd
        rw [q1 _ (by decide) (by decide)]
        by_cases c : g = G
        · rw [if_pos c, if_pos c]
        · rw [if_neg c, if_neg c, if_neg c]
      have k3 : ∀ s, va2 451 s = if s = sz n (gm ms 0) then I (G : Nat) else va 451 s := fun s => by
        rw [hva2, up_ne (by decide), up_same]
        unfold upd
        rw [q1 _ (by decide) (by decide)]
      have k4 : ∀ g, va2 452 g = if g = G then I z0 else va 452 g := fun g => by
        rw [hva2, up_ne (by decide), up_ne (by decide), up_same]
        unfold upd
        rw [q1 _ (by decide) (by decide), q1 _ (by decide) (by decide), n1]
      refine ⟨by rw [up_ne (by decide), up_same], by rw [List.length_append, List.length_singleton]; omega, ?_, ?_, ?_, ?_⟩
      · intro g hg
        rw [k1, k2, List.length_append, List.length_singleton]
        dsimp only
        by_cases c : g = G
        · rw [if_pos c, if_pos c, if_pos c, if_pos c, Nat.zero_or]
          exact ⟨rfl, by omega, rfl, hbit⟩
        · rw [if_neg c, if_neg c, if_neg c, if_neg c]
          obtain ⟨d1, d2, d3, d4⟩ := g3 g (by omega)
          exact ⟨d1, by omega, d3, d4⟩
      · intro s hs
        rw [k3]
        by_cases c : s = sz n (gm ms 0)
        · rw [if_pos c]
          exact ⟨(G : Nat), rfl, by omega, by omega⟩
        · rw [if_neg c]
          obtain ⟨z, d1, d2, d3⟩ := g4 s hs
          exact ⟨z, d1, d2, by omega⟩
      · intro g hg
        rw [k4]
        by_cases c : g = G
        · rw [if_pos c]
          exact ⟨z0, rfl, n2, by omega⟩
        · rw [if_neg c]
          exact g5 g (by omega)
      · intro j hj
        rw [List.length_append, List.length_singleton] at hj
        rw [gl_app]
        by_cases c : j < L.length
        · rw [if_pos c]
          obtain ⟨g, d1, d2, d3⟩ := g6 j c
          refine ⟨g, by omega, ?_, ?_⟩
          · dsimp only
            rw [if_neg (by omega), gl_app, if_pos (g3 g d1).2.1]
            exact d2
          · dsimp only
            rw [if_neg (by omega)]
            exact d3
        · rw [if_neg c, if_pos (by omega)]
          refine ⟨G, by omega, ?_, ?_⟩
          · dsimp only
            rw [if_pos rfl, gl_app, if_neg (by omega), if_pos rfl]
            exact fun i hi => ⟨rfl, rfl⟩
          · dsimp only
            rw [if_pos rfl, Nat.one_shiftLeft, Nat.testBit_two_pow]
            exact decide_eq_true rfl
    · refine ⟨fun k a b => by rw [up_ne a, up_ne b], fun K a b c d e f g h => by rw [q2 K e f h g, q1 K a b]⟩
  · -- a group that is there
    obtain ⟨d1, d2, d3, d4⟩ := g3 g hg
    have d3' : va1 450 g = I (W g : Nat) := by rw [q1 _ (by decide) (by decide)]; exact d3
    refine ⟨up vi 607 (I ((L.length + 1 : Nat) : Int)), up va1 450 (upd (va1 450) g (I ((W g ||| (1 <<< (wt (.inr n) - 4)) : Nat) : Int))), G, J, fun x => if x = g then W g ||| (1 <<< (wt (.inr n) - 4)) else W x, ?_, ?_, ?_, ?_⟩
    · rw [e0]
      simp (disch := first | assumption | omega | exact is_Script_draft | exact is_Script_made | exact is_Learner_made | exact is_Learner_madeFirst | (apply is_eScript_tasks; omega) | (apply is_eScript_lines; omega) | (apply is_eScript_ranBy; omega)) only [↓reduceIte, ↓I_n1, obs, I_0n, l_1, l_2, l_3, l_4, l_5, l_6, l_7, l_8, l_11, l_12, l_15, l_16, l_18, l_20, l_21, l_29, l_30, l_31, l_32, l_33, l_39, l_40, l_44, l_45, l_46, l_47, l_48, l_53, l_57, l_63, l_64, l_65, l_66, l_71, l_72, l_75, l_90, l_97, l_120, l_122, l_127, l_128, l_1812, l_3600, l_4000, l_252645135, l_268435456, l_858993459, l_1431655765, I_add, I_mul, I_sub, I_addN, I_mulN, I_subN, ilt_t, ilt_f, ile_t, ile_f, ieq_t, ieq_f, up_same, up_up, I_and, I_or, I_shlN, I_shrN, I_divN, I_remN, dzI, i2cI, narI, Int.toNat_natCast, true_or, or_true, false_or, or_false, true_and, and_true, false_and, and_false, not_true_eq_false, not_false_eq_true, cStock, gStock_boards, nStock_boards, rStock_boards, gStock_members, nStock_members, rStock_members, wStock_members, gStock_memberCount, pStock_memberCount, gStock_atoms, nStock_atoms, rStock_atoms, wStock_atoms, gStock_weights, nStock_weights, rStock_weights, wStock_weights, gStock_places, nStock_places, rStock_places, wStock_places, gStock_sizes, nStock_sizes, rStock_sizes, wStock_sizes, gStock_atomCount, pStock_atomCount, gStock_shared, nStock_shared, rStock_shared, wStock_shared, gStock_groups, nStock_groups, rStock_groups, wStock_groups, gStock_groupWeights, nStock_groupWeights, rStock_groupWeights, wStock_groupWeights, gStock_groupCount, pStock_groupCount, gStock_newest, nStock_newest, rStock_newest, wStock_newest, gStock_older, nStock_older, rStock_older, wStock_older, f_X8_addAtom_92, b_X8_addAtom_92, f_X8_addAtom_154, b_X8_addAtom_154, t1, d3']
    · exact key _ _ (by rw [up_same]) (up_ne (by decide)) (up_ne (by decide)) (up_ne (by decide)) (up_ne (by decide))
    · have k2 : ∀ x, up va1 450 (upd (va1 450) g (I ((W g ||| (1 <<< (wt (.inr n) - 4)) : Nat) : Int))) 450 x = if x = g then I ((W g ||| (1 <<< (wt (.inr n) - 4)) : Nat) : Int) else va 450 x := fun x => by
        rw [up_same]
        unfold upd
        rw [q1 _ (by decide) (by decide)]
      refine ⟨by rw [up_ne (by decide)]; exact g1, by rw [List.length_append]; omega, ?_, ?_, ?_, ?_⟩
      · intro x hx
        rw [up_ne (by decide), q1 _ (by decide) (by decide), k2, List.length_append]
        dsimp only
        obtain ⟨a1, a2, a3, a4⟩ := g3 x hx
        by_cases c : x = g
        · rw [if_pos c, if_pos c]
          refine ⟨a1, by omega, rfl, ?_⟩
          exact Nat.or_lt_two_pow (n := 13) d4 hbit
        · rw [if_neg c, if_neg c]
          exact ⟨a1, by omega, a3, a4⟩
      · intro s hs
        rw [up_ne (by decide), q1 _ (by decide) (by decide)]
        exact g4 s hs
      · intro x hx
        rw [up_ne (by decide), q1 _ (by decide) (by decide)]
        exact g5 x hx
      · intro j hj
        rw [List.length_append, List.length_singleton] at hj
        rw [gl_app]
        by_cases c : j < L.length
        · rw [if_pos c]
          obtain ⟨x, b1, b2, b3⟩ := g6 j c
          refine ⟨x, b1, ?_, ?_⟩
          · rw [gl_app, if_pos (g3 x b1).2.1]
            exact b2
          · dsimp only
            by_cases c2 : x = g
            · rw [if_pos c2, Nat.testBit_or, ← c2, b3]
              rfl
            · rw [if_neg c2]
              exact b3
        · rw [if_neg c, if_pos (by omega)]
          refine ⟨g, hg, ?_, ?_⟩
          · rw [gl_app, if_pos d2]
            exact hal
          · dsimp only
            rw [if_pos rfl, Nat.testBit_or, Nat.one_shiftLeft, Nat.testBit_two_pow, decide_eq_true rfl, Bool.or_true]
    · refine ⟨fun k a b => up_ne a, fun K a b c d e f g h => by rw [up_ne f, q1 K a b]⟩
end
