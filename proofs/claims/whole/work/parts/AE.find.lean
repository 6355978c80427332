/-! THE SEARCH: ITS START -/
theorem px_of {P : Nat → Option At} {L : List Nat} {k : Nat} {r : Int} (hP : pnOk P) (hL : ∀ n, n ∈ L → n < 3672) (h : r = -1 ∧ (∀ i, i < L.length → ((gl L i : Nat) : Int) ≠ pinI P k) ∨ 0 ≤ r ∧ r < L.length ∧ ((gl L r.toNat : Nat) : Int) = pinI P k) : r = -1 ∧ (∀ n, n ∈ L → P k ≠ some (.inr n)) ∨ 0 ≤ r ∧ r < L.length ∧ P k = some (.inr (gl L r.toNat)) := by
  rcases h with ⟨h1, h2⟩ | ⟨h1, h2, h3⟩
  · refine Or.inl ⟨h1, fun n hn e => ?_⟩
    obtain ⟨j, hj, rfl⟩ := gl_ex hn
    apply h2 j hj
    unfold pinI
    rw [e]
    rfl
  · refine Or.inr ⟨h1, h2, ?_⟩
    have hn := hL _ (gl_mem (show r.toNat < L.length by omega))
    cases e : P k with
    | none =>
      rw [pinI_none.mpr e] at h3
      omega
    | some a =>
      unfold pinI at h3
      rw [e] at h3
      have h3 : ((gl L r.toNat : Nat) : Int) = (enc a : Nat) := h3
      have h3 : enc (.inr (gl L r.toNat)) = enc a := Int.ofNat.inj h3
      rw [enc_inj (show okA (.inr (gl L r.toNat)) from hn) (hP k a e) h3]
def frF (pg pg' : Nat → ZProg) (vi vi' : Nat → Int32) (va va' : Nat → Nat → Int32) : Prop := (∀ a, (∀ i, i < 5 → a ≠ eFinder_found i) → pg' a = pg a) ∧ (∀ k, k ≠ 101 → k ≠ 607 → k ≠ 611 → k ≠ 602 → vi' k = vi k) ∧ ∀ K, K < 444 ∨ 452 < K → K ≠ 518 → K ≠ 519 → K ≠ 514 → va' K = va K
section
variable {F : Nat}
theorem x_fi10 {A : Nat → Nat} {P : Nat → Option At} {ms : List (Tx × Tx)} (hF : 200000 ≤ F) (hP : pnOk P) : ∀ (f i : Nat) (tx : Nat → ZText) (pg : Nat → ZProg) (le : Nat → ZLearnt) (ln : Nat → ZLine) (tk : Nat → ZTask) (bd : Nat → ZBoard) (vi : Nat → Int32) (va : Nat → Nat → Int32) (vl : Nat → Nat → Int64) (vj : Int64) (la : Option Nat) (me : Nat → Option Nat), i ≤ 4 → 4 - i < f → stockOk tx bd vi va me A ms → pnS va P → (∀ j, j < i → ∃ r : Int, va 514 j = I r ∧ (r = -1 ∧ (∀ n, n ∈ stN ms 3672 → P j ≠ some (.inr n)) ∨ 0 ≤ r ∧ r < (stN ms 3672).length ∧ P j = some (.inr (gl (stN ms 3672) r.toNat)))) → ∃ va' f', f_X2_find_10 F f aFinder (I (i : Nat)) (mk (tx, pg, le, ln, tk, bd, vi, va, vl, vj, la, me)) = f_X2_find_10 F (f' + 1) aFinder (I ((4 : Nat) : Int)) (mk (tx, pg, le, ln, tk, bd, vi, (va'), vl, vj, la, me)) ∧ (∀ K, K ≠ 514 → va' K = va K) ∧ pxS va' P (stN ms 3672) := by
  intro f
  induction f with
  | zero => intros; omega
  | succ f ih =>
    intro i tx pg le ln tk bd vi va vl vj la me hi hf hs hp hx
    by_cases c : i < 4
    · have hpi := hp i c
      obtain ⟨r, e, hr⟩ := x_indexOf (F := F) (v := pinI P i) (tx := tx) (pg := pg) (le := le) (ln := ln) (tk := tk) (bd := bd) (vi := vi) (va := va) (vl := vl) (vj := vj) (la := la) (me := me) hF (pinI_bd hP) hs.1.2.1
      obtain ⟨va1, hva1⟩ : ∃ va1, va1 = up va 514 (upd (va 514) i (I r)) := ⟨_, rfl⟩
      have g1 : ∀ K, K ≠ 514 → va1 K = va K := fun K a => by rw [hva1, up_ne a]
      obtain ⟨va', f', e', h1, h2⟩ := ih (i + 1) tx pg le ln tk bd vi (va1) vl vj la me (by omega) (by omega) (stockOk_va (fun K a b => g1 K (by omega)) hs) (fun k hk => by rw [g1 _ (by decide)]; exact hp k hk) (fun j hj => by
        rw [hva1, up_same]
        unfold upd
        by_cases q : j = i
        · subst q
          rw [if_pos rfl]
          exact ⟨r, rfl, px_of hP hs.1.2.1.2.2.1 hr⟩
        · rw [if_neg q]
          exact hx j (by omega))
      refine ⟨va', f', ?_, fun K a => (h1 K a).trans (g1 K a), h2⟩
      rw [← e', s_X2_find_10, hva1]
      simp (disch := first | assumption | omega | exact is_Script_draft | exact is_Script_made | exact is_Learner_made | exact is_Learner_madeFirst | (apply is_eScript_tasks; omega) | (apply is_eScript_lines; omega) | (apply is_eScript_ranBy; omega)) only [↓reduceIte, ↓I_n1, obs, I_0n, l_1, l_2, l_3, l_4, l_5, l_6, l_7, l_8, l_11, l_12, l_15, l_16, l_18, l_20, l_21, l_29, l_30, l_31, l_32, l_33, l_39, l_40, l_44, l_45, l_46, l_47, l_48, l_53, l_57, l_63, l_64, l_65, l_66, l_71, l_72, l_75, l_90, l_97, l_120, l_122, l_127, l_128, l_1812, l_3600, l_4000, l_252645135, l_268435456, l_858993459, l_1431655765, I_add, I_mul, I_sub, I_addN, I_mulN, I_subN, ilt_t, ilt_f, ile_t, ile_f, ieq_t, ieq_f, up_same, up_up, I_and, I_or, I_shlN, I_shrN, I_divN, I_remN, dzI, i2cI, narI, Int.toNat_natCast, true_or, or_true, false_or, or_false, true_and, and_true, false_and, and_false, not_true_eq_false, not_false_eq_true, cFinder, gFinder_found, nFinder_found, rFinder_found, gFinder_foundCount, pFinder_foundCount, gFinder_stock, gFinder_lookedAt, pFinder_lookedAt, gFinder_boardCount, pFinder_boardCount, gFinder_pins, nFinder_pins, rFinder_pins, wFinder_pins, gFinder_pinIndexes, nFinder_pinIndexes, rFinder_pinIndexes, wFinder_pinIndexes, gFinder_isPinned, pFinder_isPinned, gFinder_ways, nFinder_ways, rFinder_ways, wFinder_ways, gFinder_knownKeys, nFinder_knownKeys, rFinder_knownKeys, wFinder_knownKeys, gFinder_knownEndings, nFinder_knownEndings, rFinder_knownEndings, wFinder_knownEndings, gFinder_searches, pFinder_searches, gFinder_at_, nFinder_at_, rFinder_at_, wFinder_at_, gFinder_row, nFinder_row, rFinder_row, wFinder_row, b_X2_find_10, hpi, e]
    · have : i = 4 := by omega
      subst this
      exact ⟨va, f, rfl, fun _ _ => rfl, fun k hk => hx k hk⟩
theorem x_find {B : Nat → Tx × Tx} {nb Sx : Nat} {P : Nat → Option At} {iP : Bool} {S : Nat} {tx : Nat → ZText} {pg : Nat → ZProg} {le : Nat → ZLearnt} {ln : Nat → ZLine} {tk : Nat → ZTask} {bd : Nat → ZBoard} {vi : Nat → Int32} {va : Nat → Nat → Int32} {vl : Nat → Nat → Int64} {vj : Int64} {la : Option Nat} {me : Nat → Option Nat} (hF : 200000 ≤ F) (hb : bOK tx bd B nb) (hnb : nb ≤ 4) (hSx : Sx < 2 ^ nb) (h0 : Sx ≠ 0) (hP : pnOk P) (hpn : pnS va P) (hpd : pdS vi P iP) (hk : kOld vl S) (hj : vj = Lg S) (hSb : S + 1 < 4000000000) : ∃ pg' vi' va' vl' me', f_X2_find F aFinder (I (Sx : Nat)) (mk (tx, pg, le, ln, tk, bd, vi, va, vl, vj, la, me)) = some (mk (tx, (pg'), le, ln, tk, bd, (vi'), (va'), (vl'), (Lg (S + 1)), la, (me'))) ∧ fnd pg' vi' (best P (mset B Sx)) ∧ kOld vl' (S + 1) ∧ frF pg pg' vi vi' va va' := by
  obtain ⟨vi1, va1, me1, g1, g2, g3, g4⟩ := x_gather (F := F) (tx := tx) (pg := pg) (le := le) (ln := ln) (tk := tk) (bd := bd) (vi := vi) (va := va) (vl := vl) (vj := vj) (la := la) (me := me) hF hb hnb hSx h0
  have hM := g2.1.1.2.2.2.1
  have hpn1 : pnS va1 P := fun k hk => by rw [g4.2 _ (Or.inr (by decide))]; exact hpn k hk
  have hpd1 : pdS vi1 P iP := ⟨by rw [g4.1 _ (by decide) (by decide) (by decide)]; exact hpd.1, hpd.2⟩
  obtain ⟨va2, f', i1, i2, i3⟩ := x_fi10 (F := F) (A := mad Sx) (ms := mset B Sx) hF hP F 0 tx pg le ln tk bd (vi1) (va1) vl vj la (me1) (Nat.zero_le _) (by omega) g2 hpn1 (fun j hj => absurd hj (Nat.not_lt_zero _))
  have hs2 : stockOk tx bd vi1 va2 me1 (mad Sx) (mset B Sx) := stockOk_va (fun K a b => i2 K (by omega)) g2
  have hpn2 : pnS va2 P := fun k hk => by rw [i2 _ (by decide)]; exact hpn1 k hk
  obtain ⟨va3, vl3, k1, k2, k3, k4, k5, k6⟩ := x_gw2 (F := F) (iP := iP) hF hP F 0 tx pg le ln tk bd (vi1) (va2) vl vj la (me1) (Nat.zero_le _) (by omega) hs2 hpn2 i3 hpd1 (fun j hj => absurd hj (Nat.not_lt_zero _))
  have hgw : f_X2_gatherWays F aFinder (mk (tx, pg, le, ln, tk, bd, (vi1), (va2), vl, vj, la, (me1))) = some (mk (tx, pg, le, ln, tk, bd, (vi1), (va3), (vl3), vj, la, (me1))) := by
    rw [← k1]
    simp (disch := first | assumption | omega | exact is_Script_draft | exact is_Script_made | exact is_Learner_made | exact is_Learner_madeFirst | (apply is_eScript_tasks; omega) | (apply is_eScript_lines; omega) | (apply is_eScript_ranBy; omega)) only [↓reduceIte, ↓I_n1, obs, I_0n, l_1, l_2, l_3, l_4, l_5, l_6, l_7, l_8, l_11, l_12, l_15, l_16, l_18, l_20, l_21, l_29, l_30, l_31, l_32, l_33, l_39, l_40, l_44, l_45, l_46, l_47, l_48, l_53, l_57, l_63, l_64, l_65, l_66, l_71, l_72, l_75, l_90, l_97, l_120, l_122, l_127, l_128, l_1812, l_3600, l_4000, l_252645135, l_268435456, l_858993459, l_1431655765, I_add, I_mul, I_sub, I_addN, I_mulN, I_subN, ilt_t, ilt_f, ile_t, ile_f, ieq_t, ieq_f, up_same, up_up, I_and, I_or, I_shlN, I_shrN, I_divN, I_remN, dzI, i2cI, narI, Int.toNat_natCast, true_or, or_true, false_or, or_false, true_and, and_true, false_and, and_false, not_true_eq_false, not_false_eq_true, cFinder, gFinder_found, nFinder_found, rFinder_found, gFinder_foundCount, pFinder_foundCount, gFinder_stock, gFinder_lookedAt, pFinder_lookedAt, gFinder_boardCount, pFinder_boardCount, gFinder_pins, nFinder_pins, rFinder_pins, wFinder_pins, gFinder_pinIndexes, nFinder_pinIndexes, rFinder_pinIndexes, wFinder_pinIndexes, gFinder_isPinned, pFinder_isPinned, gFinder_ways, nFinder_ways, rFinder_ways, wFinder_ways, gFinder_knownKeys, nFinder_knownKeys, rFinder_knownKeys, wFinder_knownKeys, gFinder_knownEndings, nFinder_knownEndings, rFinder_knownEndings, wFinder_knownEndings, gFinder_searches, pFinder_searches, gFinder_at_, nFinder_at_, rFinder_at_, wFinder_at_, gFinder_row, nFinder_row, rFinder_row, wFinder_row, b_X2_gatherWays_97, b_X2_gatherWays_77, b_X2_gatherWays_22, b_X2_gatherWays_2, b_X2_gatherWays_0, f_X2_gatherWays_0, f_X2_gatherWays]
  have hk3 : kOld vl3 S := fun z hz => by rw [k3 _ (by decide)]; exact hk z hz
  obtain ⟨vi4, hvi4⟩ : ∃ vi4, vi4 = up vi1 101 (I ((0 : Nat) : Int)) := ⟨_, rfl⟩
  have hE : EI tx bd vi1 va3 vl3 (Lg (S + 1)) me1 (mad Sx) P iP (mset B Sx) (S + 1) := ⟨stockOk_va (fun K a b => k2 K (by omega)) hs2, fun k hk => by rw [k2 _ (by decide)]; exact hpn2 k hk, fun k hk => by rw [k2 _ (by decide)]; exact i3 k hk, hpd1, hP, k5, wyI_of hM k5 k6, mOK_of hM hk3, rfl, hSb⟩
  have hE4 : EI tx bd vi4 va3 vl3 (Lg (S + 1)) me1 (mad Sx) P iP (mset B Sx) (S + 1) := EI_gen (fun k a => by rw [hvi4, up_ne a]) (fun _ _ _ => rfl) frE_refl hE.2.2.2.2.2.2.2.1 hE
  obtain ⟨pg5, vi5, va5, vl5, m1, m2, m3, m4⟩ := x_fi61 (F := F) (A := mad Sx) (P := P) (iP := iP) (ms := mset B Sx) (S := S + 1) hF F 4 [] tx pg le ln tk bd (vi4) (va3) (vl3) (Lg (S + 1)) la (me1) (by omega) (by omega) hE4 (fun i hi => by
    rw [zers_ok.2 i hi, Nat.zero_mul, Nat.zero_add]
    exact k4 i hi) ⟨by rw [hvi4, up_same]; rfl, Nat.zero_le _, fun i hi => absurd hi (Nat.not_lt_zero _)⟩
  refine ⟨pg5, vi5, va5, vl5, me1, ?_, ?_, kOld_of m3.2.2.2.2.2.2.2.1, ⟨m2.1, fun k a b c d => ?_, fun K a b c d => ?_⟩⟩
  · rw [← m1]
    have hone : vj + (1 : Int64) = Lg (S + 1) := by
      rw [hj, ← Lg_add]
      rfl
    have e10 : f_X2_find F aFinder (I (Sx : Nat)) (mk (tx, pg, le, ln, tk, bd, vi, va, vl, vj, la, me)) = f_X2_find_10 F (f' + 1) aFinder (I ((4 : Nat) : Int)) (mk (tx, pg, le, ln, tk, bd, (vi1), (va2), vl, vj, la, (me1))) := by
      rw [← i1]
      simp (disch := first | assumption | omega | exact is_Script_draft | exact is_Script_made | exact is_Learner_made | exact is_Learner_madeFirst | (apply is_eScript_tasks; omega) | (apply is_eScript_lines; omega) | (apply is_eScript_ranBy; omega)) only [↓reduceIte, ↓I_n1, obs, I_0n, l_1, l_2, l_3, l_4, l_5, l_6, l_7, l_8, l_11, l_12, l_15, l_16, l_18, l_20, l_21, l_29, l_30, l_31, l_32, l_33, l_39, l_40, l_44, l_45, l_46, l_47, l_48, l_53, l_57, l_63, l_64, l_65, l_66, l_71, l_72, l_75, l_90, l_97, l_120, l_122, l_127, l_128, l_1812, l_3600, l_4000, l_252645135, l_268435456, l_858993459, l_1431655765, I_add, I_mul, I_sub, I_addN, I_mulN, I_subN, ilt_t, ilt_f, ile_t, ile_f, ieq_t, ieq_f, up_same, up_up, I_and, I_or, I_shlN, I_shrN, I_divN, I_remN, dzI, i2cI, narI, Int.toNat_natCast, true_or, or_true, false_or, or_false, true_and, and_true, false_and, and_false, not_true_eq_false, not_false_eq_true, cFinder, gFinder_found, nFinder_found, rFinder_found, gFinder_foundCount, pFinder_foundCount, gFinder_stock, gFinder_lookedAt, pFinder_lookedAt, gFinder_boardCount, pFinder_boardCount, gFinder_pins, nFinder_pins, rFinder_pins, wFinder_pins, gFinder_pinIndexes, nFinder_pinIndexes, rFinder_pinIndexes, wFinder_pinIndexes, gFinder_isPinned, pFinder_isPinned, gFinder_ways, nFinder_ways, rFinder_ways, wFinder_ways, gFinder_knownKeys, nFinder_knownKeys, rFinder_knownKeys, wFinder_knownKeys, gFinder_knownEndings, nFinder_knownEndings, rFinder_knownEndings, wFinder_knownEndings, gFinder_searches, pFinder_searches, gFinder_at_, nFinder_at_, rFinder_at_, wFinder_at_, gFinder_row, nFinder_row, rFinder_row, wFinder_row, b_X2_find_77, b_X2_find_61, b_X2_find_10, b_X2_find_0, f_X2_find_0, f_X2_find, g1]
    rw [e10, s_X2_find_10, hvi4]
    simp (disch := first | assumption | omega | exact is_Script_draft | exact is_Script_made | exact is_Learner_made | exact is_Learner_madeFirst | (apply is_eScript_tasks; omega) | (apply is_eScript_lines; omega) | (apply is_eScript_ranBy; omega)) only [↓reduceIte, ↓I_n1, obs, I_0n, l_1, l_2, l_3, l_4, l_5, l_6, l_7, l_8, l_11, l_12, l_15, l_16, l_18, l_20, l_21, l_29, l_30, l_31, l_32, l_33, l_39, l_40, l_44, l_45, l_46, l_47, l_48, l_53, l_57, l_63, l_64, l_65, l_66, l_71, l_72, l_75, l_90, l_97, l_120, l_122, l_127, l_128, l_1812, l_3600, l_4000, l_252645135, l_268435456, l_858993459, l_1431655765, I_add, I_mul, I_sub, I_addN, I_mulN, I_subN, ilt_t, ilt_f, ile_t, ile_f, ieq_t, ieq_f, up_same, up_up, I_and, I_or, I_shlN, I_shrN, I_divN, I_remN, dzI, i2cI, narI, Int.toNat_natCast, true_or, or_true, false_or, or_false, true_and, and_true, false_and, and_false, not_true_eq_false, not_false_eq_true, cFinder, gFinder_found, nFinder_found, rFinder_found, gFinder_foundCount, pFinder_foundCount, gFinder_stock, gFinder_lookedAt, pFinder_lookedAt, gFinder_boardCount, pFinder_boardCount, gFinder_pins, nFinder_pins, rFinder_pins, wFinder_pins, gFinder_pinIndexes, nFinder_pinIndexes, rFinder_pinIndexes, wFinder_pinIndexes, gFinder_isPinned, pFinder_isPinned, gFinder_ways, nFinder_ways, rFinder_ways, wFinder_ways, gFinder_knownKeys, nFinder_knownKeys, rFinder_knownKeys, wFinder_knownKeys, gFinder_knownEndings, nFinder_knownEndings, rFinder_knownEndings, wFinder_knownEndings, gFinder_searches, pFinder_searches, gFinder_at_, nFinder_at_, rFinder_at_, wFinder_at_, gFinder_row, nFinder_row, rFinder_row, wFinder_row, b_X2_find_10, hgw, hone]
  · rw [best_eq]
    rw [List.nil_append] at m4
    exact m4
  · rw [m2.2.1 k a, hvi4, up_ne a, g4.1 k b c d]
  · rw [m2.2.2.1 K b c, k2 K b, i2 K d, g4.2 K a]
end
