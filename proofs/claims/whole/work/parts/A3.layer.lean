/-! THE WAYS OF EACH EXAMPLE ALONE: A LAYER'S -/
theorem cst0_of {l : Tx} (h : l ≠ []) : cst0 l = cst l := by
  unfold cst0
  rw [if_neg h]
def pinI (P : Nat → Option At) (k : Nat) : Int := match P k with
  | none => -1
  | some a => (enc a : Nat)
def pnS (va : Nat → Nat → Int32) (P : Nat → Option At) : Prop := ∀ k, k < 4 → va 513 k = I (pinI P k)
def pnOk (P : Nat → Option At) : Prop := ∀ k a, P k = some a → okA a
def pxS (va : Nat → Nat → Int32) (P : Nat → Option At) (L : List Nat) : Prop := ∀ k, k < 4 → ∃ r : Int, va 514 k = I r ∧ (r = -1 ∧ (∀ n, n ∈ L → P k ≠ some (.inr n)) ∨ 0 ≤ r ∧ r < L.length ∧ P k = some (.inr (gl L r.toNat)))
theorem enc_bd {a : At} (h : okA a) : enc a < 536870912 := by
  cases a with
  | inl s => exact (cst_bd h.1 h.2.1 h.2.2).2
  | inr n =>
    have h : n < 3672 := h
    show n < 536870912
    omega
theorem pinI_bd {P : Nat → Option At} (h : pnOk P) {k : Nat} : -1 ≤ pinI P k ∧ pinI P k < 536870912 := by
  unfold pinI
  cases e : P k with
  | none => exact ⟨Int.le_refl _, by decide⟩
  | some a =>
    have := enc_bd (h k a e)
    exact ⟨by show (-1 : Int) ≤ (enc a : Nat); omega, by show ((enc a : Nat) : Int) < _; omega⟩
theorem pinI_none {P : Nat → Option At} {k : Nat} : pinI P k = -1 ↔ P k = none := by
  unfold pinI
  cases e : P k with
  | none => exact ⟨fun _ => rfl, fun _ => rfl⟩
  | some a =>
    constructor
    · intro q
      have q : ((enc a : Nat) : Int) = -1 := q
      omega
    · intro q
      cases q
def wstp (vl vl' : Nat → Nat → Int64) (R T p s k : Nat) : Prop := ∀ b, bj (vl 515 (T * 21 + p + s)) b = true → b + k < 64 → bj (vl' 515 (R * 21 + p)) (b + k) = true
theorem wstp_l {vl vl' vl'' : Nat → Nat → Int64} {R T p s k : Nat} (m : monW vl vl') (h : wstp vl' vl'' R T p s k) : wstp vl vl'' R T p s k := fun b hb hk => h b (m _ _ (by omega) hb) hk
theorem wstp_r {vl vl' vl'' : Nat → Nat → Int64} {R T p s k : Nat} (h : wstp vl vl' R T p s k) (m : monW vl' vl'') : wstp vl vl'' R T p s k := fun b hb hk => m _ _ hk (h b hb hk)
section
variable {F : Nat}
theorem x_gcw33 {K : Nat → Int32 → Int32 → Int32 → Int32 → Nat → Int32 → cM → Option cM} {ms : List (Tx × Tx)} {A : Nat → Nat} {i p R T : Nat} {pv : Int} (hF : 200000 ≤ F) (hi : i < ms.length) (hR : R < 44) (hT : T < 44) (hne : R ≠ T) (hpv : -1 ≤ pv ∧ pv < 536870912) {v : Nat} (hv4 : v ≤ 4) (hpl : p + v ≤ (gm ms i).2.length) : ∀ (f q : Nat) (tx : Nat → ZText) (pg : Nat → ZProg) (le : Nat → ZLearnt) (ln : Nat → ZLine) (tk : Nat → ZTask) (bd : Nat → ZBoard) (vi : Nat → Int32) (va : Nat → Nat → Int32) (vl : Nat → Nat → Int64) (vj : Int64) (la : Option Nat) (me : Nat → Option Nat), q ≤ v → v + 1 - q ≤ f → mems tx bd vi me A ms → va 448 (i * 21 + p) = I (v : Nat) → ∃ vl', f_X2_gatherConstWays_33 F K f aFinder (I (i : Nat)) (I ((R * 21 : Nat) : Int)) (I ((T * 21 : Nat) : Int)) (I pv) (aBoard_shown (A i)) (I (p : Nat)) (I (cst0 (((gm ms i).2.drop p).take q) : Nat)) (I ((q + 1 : Nat) : Int)) (mk (tx, pg, le, ln, tk, bd, vi, va, vl, vj, la, me)) = K aFinder (I (i : Nat)) (I ((R * 21 : Nat) : Int)) (I ((T * 21 : Nat) : Int)) (I pv) (aBoard_shown (A i)) (I ((p + 1 : Nat) : Int)) (mk (tx, pg, le, ln, tk, bd, vi, va, (vl'), vj, la, me)) ∧ frW vl vl' R ∧ monW vl vl' ∧ ∀ n, q < n → n ≤ v → (pv = -1 ∨ pv = (cst (((gm ms i).2.drop p).take n) : Nat)) → wstp vl vl' R T p n (3 * n) := by
  intro f
  induction f with
  | zero => intros; omega
  | succ f ih =>
    intro q tx pg le ln tk bd vi va vl vj la me hq hf hM hsh
    obtain ⟨m1, m2, m3, m4, m5⟩ := id hM
    obtain ⟨o1, o2, o3, o4⟩ := gm_ok m4 hi
    obtain ⟨b1, b2, b3⟩ := m5 i hi
    have hS := is_Board_shown b2
    rw [s_X2_gatherConstWays_33]
    by_cases c : q < v
    · have hql : (((gm ms i).2.drop p).take q).length = q := by
        rw [List.length_take, List.length_drop]
        omega
      have hfa := fa_drop (s := (gm ms i).2) (p := p) (j := q)
      have hpq : p + q < (gm ms i).2.length := by omega
      have hok := okT_fa o3 hpq
      have hok' := okS_bd hok
      have hx : f_X10_at F (aBoard_shown (A i)) (I ((p + q : Nat) : Int)) (mk (tx, pg, le, ln, tk, bd, vi, va, vl, vj, la, me)) = some (I (fa (gm ms i).2 (p + q)), mk (tx, pg, le, ln, tk, bd, vi, va, vl, vj, la, me)) := by
        rw [x_at hS b3.2.1 (by omega) (by omega), if_pos (by omega)]
        rfl
      have hoq : okT (((gm ms i).2.drop p).take q) := fun c hc => o3 c (List.mem_of_mem_drop (List.mem_of_mem_take hc))
      have hoq1 : okT (((gm ms i).2.drop p).take (q + 1)) := fun c hc => o3 c (List.mem_of_mem_drop (List.mem_of_mem_take hc))
      have hw := x_withSign (F := F) (M := mk (tx, pg, le, ln, tk, bd, vi, va, vl, vj, la, me)) (l := ((gm ms i).2.drop p).take q) (s := fa (gm ms i).2 (p + q)) (by omega) hoq hok
      have htk : ((gm ms i).2.drop p).take q ++ [fa (gm ms i).2 (p + q)] = ((gm ms i).2.drop p).take (q + 1) := by
        rw [← fa_drop, take_fa (by rw [List.length_drop]; omega)]
      have hn0 : ((gm ms i).2.drop p).take (q + 1) ≠ [] := by
        rw [← htk]
        exact List.append_ne_nil_of_right_ne_nil _ (List.cons_ne_nil _ _)
      have hl1 : (((gm ms i).2.drop p).take (q + 1)).length ≤ 4 := by
        rw [List.length_take]
        omega
      rw [htk, hql] at hw
      have hcb := cst_bd hn0 hl1 hoq1
      have hc0 := cst0_of hn0
      have e1 : p + (q + 1) - 1 = p + q := by omega
      have e2 : q + 1 - 1 = q := by omega
      have e3 : R * 21 + p < 924 := by omega
      have e4 : T * 21 + p + (q + 1) < 924 := by omega
      by_cases d : pv = -1 ∨ pv = (cst (((gm ms i).2.drop p).take (q + 1)) : Nat)
      · obtain ⟨vl1, hvl1⟩ : ∃ vl1, vl1 = up vl 515 (vp_updL (vl 515) (R * 21 + p) (vl 515 (R * 21 + p) ||| (vl 515 (T * 21 + p + (q + 1)) <<< ((I ((3 * (q + 1) : Nat) : Int)).toInt64 &&& 63)))) := ⟨_, rfl⟩
        have f1 : frW vl vl1 R := by rw [hvl1]; exact frW_put (by omega)
        have m1' : monW vl vl1 := by rw [hvl1]; exact monW_put
        obtain ⟨vl', e', f', m', hall⟩ := ih (q + 1) tx pg le ln tk bd vi va (vl1) vj la me (by omega) (by omega) hM hsh
        rw [hc0] at e'
        refine ⟨vl', ?_, frW_trans f1 f', monW_trans m1' m', fun n hn hnv hp => ?_⟩
        · rw [← e', hvl1]
          rcases d with d | d
          · subst d
            simp (disch := first | assumption | omega | exact is_Script_draft | exact is_Script_made | exact is_Learner_made | exact is_Learner_madeFirst | (apply is_eScript_tasks; omega) | (apply is_eScript_lines; omega) | (apply is_eScript_ranBy; omega)) only [↓reduceIte, ↓I_n1, obs, I_0n, l_1, l_2, l_3, l_4, l_5, l_6, l_7, l_8, l_11, l_12, l_15, l_16, l_18, l_20, l_21, l_29, l_30, l_31, l_32, l_33, l_39, l_40, l_44, l_45, l_46, l_47, l_48, l_53, l_57, l_63, l_64, l_65, l_66, l_71, l_72, l_75, l_90, l_97, l_120, l_122, l_127, l_128, l_1812, l_3600, l_4000, l_252645135, l_268435456, l_858993459, l_1431655765, I_add, I_mul, I_sub, I_addN, I_mulN, I_subN, ilt_t, ilt_f, ile_t, ile_f, ieq_t, ieq_f, up_same, up_up, I_and, I_or, I_shlN, I_shrN, I_divN, I_remN, dzI, i2cI, narI, Int.toNat_natCast, true_or, or_true, false_or, or_false, true_and, and_true, false_and, and_false, not_true_eq_false, not_false_eq_true, cFinder, gFinder_found, nFinder_found, rFinder_found, gFinder_foundCount, pFinder_foundCount, gFinder_stock, gFinder_lookedAt, pFinder_lookedAt, gFinder_boardCount, pFinder_boardCount, gFinder_pins, nFinder_pins, rFinder_pins, wFinder_pins, gFinder_pinIndexes, nFinder_pinIndexes, rFinder_pinIndexes, wFinder_pinIndexes, gFinder_isPinned, pFinder_isPinned, gFinder_ways, nFinder_ways, rFinder_ways, wFinder_ways, gFinder_knownKeys, nFinder_knownKeys, rFinder_knownKeys, wFinder_knownKeys, gFinder_knownEndings, nFinder_knownEndings, rFinder_knownEndings, wFinder_knownEndings, gFinder_searches, pFinder_searches, gFinder_at_, nFinder_at_, rFinder_at_, wFinder_at_, gFinder_row, nFinder_row, rFinder_row, wFinder_row, cStock, gStock_boards, nStock_boards, rStock_boards, gStock_members, nStock_members, rStock_members, wStock_members, gStock_memberCount, pStock_memberCount, gStock_atoms, nStock_atoms, rStock_atoms, wStock_atoms, gStock_weights, nStock_weights, rStock_weights, wStock_weights, gStock_places, nStock_places, rStock_places, wStock_places, gStock_sizes, nStock_sizes, rStock_sizes, wStock_sizes, gStock_atomCount, pStock_atomCount, gStock_shared, nStock_shared, rStock_shared, wStock_shared, gStock_groups, nStock_groups, rStock_groups, wStock_groups, gStock_groupWeights, nStock_groupWeights, rStock_groupWeights, wStock_groupWeights, gStock_groupCount, pStock_groupCount, gStock_newest, nStock_newest, rStock_newest, wStock_newest, gStock_older, nStock_older, rStock_older, wStock_older, b_X2_gatherConstWays_33, f_X2_gatherConstWays_89, b_X2_gatherConstWays_89, hsh, e1, e2, hx, hw, x_weightOfConst, Nat.add_sub_cancel]
          · subst d
            simp (disch := first | assumption | omega | exact is_Script_draft | exact is_Script_made | exact is_Learner_made | exact is_Learner_madeFirst | (apply is_eScript_tasks; omega) | (apply is_eScript_lines; omega) | (apply is_eScript_ranBy; omega)) only [↓reduceIte, ↓I_n1, obs, I_0n, l_1, l_2, l_3, l_4, l_5, l_6, l_7, l_8, l_11, l_12, l_15, l_16, l_18, l_20, l_21, l_29, l_30, l_31, l_32, l_33, l_39, l_40, l_44, l_45, l_46, l_47, l_48, l_53, l_57, l_63, l_64, l_65, l_66, l_71, l_72, l_75, l_90, l_97, l_120, l_122, l_127, l_128, l_1812, l_3600, l_4000, l_252645135, l_268435456, l_858993459, l_1431655765, I_add, I_mul, I_sub, I_addN, I_mulN, I_subN, ilt_t, ilt_f, ile_t, ile_f, ieq_t, ieq_f, up_same, up_up, I_and, I_or, I_shlN, I_shrN, I_divN, I_remN, dzI, i2cI, narI, Int.toNat_natCast, true_or, or_true, false_or, or_false, true_and, and_true, false_and, and_false, not_true_eq_false, not_false_eq_true, cFinder, gFinder_found, nFinder_found, rFinder_found, gFinder_foundCount, pFinder_foundCount, gFinder_stock, gFinder_lookedAt, pFinder_lookedAt, gFinder_boardCount, pFinder_boardCount, gFinder_pins, nFinder_pins, rFinder_pins, wFinder_pins, gFinder_pinIndexes, nFinder_pinIndexes, rFinder_pinIndexes, wFinder_pinIndexes, gFinder_isPinned, pFinder_isPinned, gFinder_ways, nFinder_ways, rFinder_ways, wFinder_ways, gFinder_knownKeys, nFinder_knownKeys, rFinder_knownKeys, wFinder_knownKeys, gFinder_knownEndings, nFinder_knownEndings, rFinder_knownEndings, wFinder_knownEndings, gFinder_searches, pFinder_searches, gFinder_at_, nFinder_at_, rFinder_at_, wFinder_at_, gFinder_row, nFinder_row, rFinder_row, wFinder_row, cStock, gStock_boards, nStock_boards, rStock_boards, gStock_members, nStock_members, rStock_members, wStock_members, gStock_memberCount, pStock_memberCount, gStock_atoms, nStock_atoms, rStock_atoms, wStock_atoms, gStock_weights, nStock_weights, rStock_weights, wStock_weights, gStock_places, nStock_places, rStock_places, wStock_places, gStock_sizes, nStock_sizes, rStock_sizes, wStock_sizes, gStock_atomCount, pStock_atomCount, gStock_shared, nStock_shared, rStock_shared, wStock_shared, gStock_groups, nStock_groups, rStock_groups, wStock_groups, gStock_groupWeights, nStock_groupWeights, rStock_groupWeights, wStock_groupWeights, gStock_groupCount, pStock_groupCount, gStock_newest, nStock_newest, rStock_newest, wStock_newest, gStock_older, nStock_older, rStock_older, wStock_older, b_X2_gatherConstWays_33, f_X2_gatherConstWays_89, b_X2_gatherConstWays_89, hsh, e1, e2, hx, hw, x_weightOfConst, Nat.add_sub_cancel]
        · by_cases g : n = q + 1
          · subst g
            refine wstp_r (fun b hb hk => ?_) m'
            rw [hvl1, up_same, upL_at, if_pos rfl, bj_or, bj_shl (by omega) hk, decide_eq_true (by omega), Bool.true_and, Nat.add_sub_cancel, hb, Bool.or_true]
          · exact wstp_l m1' (hall n (by omega) hnv hp)
      · obtain ⟨vl', e', f', m', hall⟩ := ih (q + 1) tx pg le ln tk bd vi va vl vj la me (by omega) (by omega) hM hsh
        rw [hc0] at e'
        have d1 : pv ≠ -1 := fun q => d (Or.inl q)
        have d2 : pv ≠ (cst (((gm ms i).2.drop p).take (q + 1)) : Nat) := fun q => d (Or.inr q)
        refine ⟨vl', ?_, f', m', fun n hn hnv hp => ?_⟩
        · rw [← e']
          simp (disch := first | assumption | omega | exact is_Script_draft | exact is_Script_made | exact is_Learner_made | exact is_Learner_madeFirst | (apply is_eScript_tasks; omega) | (apply is_eScript_lines; omega) | (apply is_eScript_ranBy; omega)) only [↓reduceIte, ↓I_n1, obs, I_0n, l_1, l_2, l_3, l_4, l_5, l_6, l_7, l_8, l_11, l_12, l_15, l_16, l_18, l_20, l_21, l_29, l_30, l_31, l_32, l_33, l_39, l_40, l_44, l_45, l_46, l_47, l_48, l_53, l_57, l_63, l_64, l_65, l_66, l_71, l_72, l_75, l_90, l_97, l_120, l_122, l_127, l_128, l_1812, l_3600, l_4000, l_252645135, l_268435456, l_858993459, l_1431655765, I_add, I_mul, I_sub, I_addN, I_mulN, I_subN, ilt_t, ilt_f, ile_t, ile_f, ieq_t, ieq_f, up_same, up_up, I_and, I_or, I_shlN, I_shrN, I_divN, I_remN, dzI, i2cI, narI, Int.toNat_natCast, true_or, or_true, false_or, or_false, true_and, and_true, false_and, and_false, not_true_eq_false, not_false_eq_true, cFinder, gFinder_found, nFinder_found, rFinder_found, gFinder_foundCount, pFinder_foundCount, gFinder_stock, gFinder_lookedAt, pFinder_lookedAt, gFinder_boardCount, pFinder_boardCount, gFinder_pins, nFinder_pins, rFinder_pins, wFinder_pins, gFinder_pinIndexes, nFinder_pinIndexes, rFinder_pinIndexes, wFinder_pinIndexes, gFinder_isPinned, pFinder_isPinned, gFinder_ways, nFinder_ways, rFinder_ways, wFinder_ways, gFinder_knownKeys, nFinder_knownKeys, rFinder_knownKeys, wFinder_knownKeys, gFinder_knownEndings, nFinder_knownEndings, rFinder_knownEndings, wFinder_knownEndings, gFinder_searches, pFinder_searches, gFinder_at_, nFinder_at_, rFinder_at_, wFinder_at_, gFinder_row, nFinder_row, rFinder_row, wFinder_row, cStock, gStock_boards, nStock_boards, rStock_boards, gStock_members, nStock_members, rStock_members, wStock_members, gStock_memberCount, pStock_memberCount, gStock_atoms, nStock_atoms, rStock_atoms, wStock_atoms, gStock_weights, nStock_weights, rStock_weights, wStock_weights, gStock_places, nStock_places, rStock_places, wStock_places, gStock_sizes, nStock_sizes, rStock_sizes, wStock_sizes, gStock_atomCount, pStock_atomCount, gStock_shared, nStock_shared, rStock_shared, wStock_shared, gStock_groups, nStock_groups, rStock_groups, wStock_groups, gStock_groupWeights, nStock_groupWeights, rStock_groupWeights, wStock_groupWeights, gStock_groupCount, pStock_groupCount, gStock_newest, nStock_newest, rStock_newest, wStock_newest, gStock_older, nStock_older, rStock_older, wStock_older, b_X2_gatherConstWays_33, hsh, e1, e2, hx, hw]
        · by_cases g : n = q + 1
          · subst g
            exact absurd hp d
          · exact hall n (by omega) hnv hp
    · refine ⟨vl, ?_, frW_refl, monW_refl, fun n h1 h2 => by omega⟩
      simp (disch := first | assumption | omega | exact is_Script_draft | exact is_Script_made | exact is_Learner_made | exact is_Learner_madeFirst | (apply is_eScript_tasks; omega) | (apply is_eScript_lines; omega) | (apply is_eScript_ranBy; omega)) only [↓reduceIte, ↓I_n1, obs, I_0n, l_1, l_2, l_3, l_4, l_5, l_6, l_7, l_8, l_11, l_12, l_15, l_16, l_18, l_20, l_21, l_29, l_30, l_31, l_32, l_33, l_39, l_40, l_44, l_45, l_46, l_47, l_48, l_53, l_57, l_63, l_64, l_65, l_66, l_71, l_72, l_75, l_90, l_97, l_120, l_122, l_127, l_128, l_1812, l_3600, l_4000, l_252645135, l_268435456, l_858993459, l_1431655765, I_add, I_mul, I_sub, I_addN, I_mulN, I_subN, ilt_t, ilt_f, ile_t, ile_f, ieq_t, ieq_f, up_same, up_up, I_and, I_or, I_shlN, I_shrN, I_divN, I_remN, dzI, i2cI, narI, Int.toNat_natCast, true_or, or_true, false_or, or_false, true_and, and_true, false_and, and_false, not_true_eq_false, not_false_eq_true, cFinder, gFinder_found, nFinder_found, rFinder_found, gFinder_foundCount, pFinder_foundCount, gFinder_stock, gFinder_lookedAt, pFinder_lookedAt, gFinder_boardCount, pFinder_boardCount, gFinder_pins, nFinder_pins, rFinder_pins, wFinder_pins, gFinder_pinIndexes, nFinder_pinIndexes, rFinder_pinIndexes, wFinder_pinIndexes, gFinder_isPinned, pFinder_isPinned, gFinder_ways, nFinder_ways, rFinder_ways, wFinder_ways, gFinder_knownKeys, nFinder_knownKeys, rFinder_knownKeys, wFinder_knownKeys, gFinder_knownEndings, nFinder_knownEndings, rFinder_knownEndings, wFinder_knownEndings, gFinder_searches, pFinder_searches, gFinder_at_, nFinder_at_, rFinder_at_, wFinder_at_, gFinder_row, nFinder_row, rFinder_row, wFinder_row, cStock, gStock_boards, nStock_boards, rStock_boards, gStock_members, nStock_members, rStock_members, wStock_members, gStock_memberCount, pStock_memberCount, gStock_atoms, nStock_atoms, rStock_atoms, wStock_atoms, gStock_weights, nStock_weights, rStock_weights, wStock_weights, gStock_places, nStock_places, rStock_places, wStock_places, gStock_sizes, nStock_sizes, rStock_sizes, wStock_sizes, gStock_atomCount, pStock_atomCount, gStock_shared, nStock_shared, rStock_shared, wStock_shared, gStock_groups, nStock_groups, rStock_groups, wStock_groups, gStock_groupWeights, nStock_groupWeights, rStock_groupWeights, wStock_groupWeights, gStock_groupCount, pStock_groupCount, gStock_newest, nStock_newest, rStock_newest, wStock_newest, gStock_older, nStock_older, rStock_older, wStock_older, b_X2_gatherConstWays_33, hsh]
theorem x_gcw17 {ms : List (Tx × Tx)} {A : Nat → Nat} {i R T : Nat} {pv : Int} (hF : 200000 ≤ F) (hi : i < ms.length) (hR : R < 44) (hT : T < 44) (hne : R ≠ T) (hpv : -1 ≤ pv ∧ pv < 536870912) : ∀ (f p : Nat) (tx : Nat → ZText) (pg : Nat → ZProg) (le : Nat → ZLearnt) (ln : Nat → ZLine) (tk : Nat → ZTask) (bd : Nat → ZBoard) (vi : Nat → Int32) (va : Nat → Nat → Int32) (vl : Nat → Nat → Int64) (vj : Int64) (la : Option Nat) (me : Nat → Option Nat), p ≤ (gm ms i).2.length → 22 - p ≤ f → mems tx bd vi me A ms → (∀ p, p ≤ (gm ms i).2.length → shOk va ms i p) → ∃ vl', f_X2_gatherConstWays_17 F f aFinder (I (i : Nat)) (I ((R * 21 : Nat) : Int)) (I ((T * 21 : Nat) : Int)) (I pv) (aBoard_shown (A i)) (I (p : Nat)) (mk (tx, pg, le, ln, tk, bd, vi, va, vl, vj, la, me)) = some (mk (tx, pg, le, ln, tk, bd, vi, va, (vl'), vj, la, me)) ∧ frW vl vl' R ∧ monW vl vl' ∧ ∀ p', p ≤ p' → ∀ n, 1 ≤ n → n ≤ 4 → p' + n ≤ (gm ms i).2.length → (∀ j, j < ms.length → occ (((gm ms i).2.drop p').take n) (gm ms j).2 ≠ 0) → (pv = -1 ∨ pv = (cst (((gm ms i).2.drop p').take n) : Nat)) → wstp vl vl' R T p' n (3 * n) := by
  intro f
  induction f with
  | zero =>
    intro p tx pg le ln tk bd vi va vl vj la me hp hf hM hsh
    have := (gm_ok hM.2.2.2.1 hi).2.2.2
    omega
  | succ f ih =>
    intro p tx pg le ln tk bd vi va vl vj la me hp hf hM hsh
    obtain ⟨m1, m2, m3, m4, m5⟩ := id hM
    obtain ⟨o1, o2, o3, o4⟩ := gm_ok m4 hi
    obtain ⟨b1, b2, b3⟩ := m5 i hi
    have hS := is_Board_shown b2
    have hsz := b3.2.1.1
    rw [s_X2_gatherConstWays_17]
    by_cases c : p < (gm ms i).2.length
    · obtain ⟨v, v1, v2, v3, v4⟩ := hsh p hp
      obtain ⟨vl1, e1, f1, n1, h1⟩ := x_gcw33 (F := F) (K := f_X2_gatherConstWays_17 F f) hF hi hR hT hne hpv v2 v3 F 0 tx pg le ln tk bd vi va vl vj la me (Nat.zero_le _) (by omega) hM v1
      obtain ⟨vl', e', f', m', h'⟩ := ih (p + 1) tx pg le ln tk bd vi va (vl1) vj la me (by omega) (by omega) hM hsh
      refine ⟨vl', ?_, frW_trans f1 f', monW_trans n1 m', fun p' hp' n a1 a2 a3 a4 a5 => ?_⟩
      · rw [← e', ← e1]
        simp (disch := first | assumption | omega | exact is_Script_draft | exact is_Script_made | exact is_Learner_made | exact is_Learner_madeFirst | (apply is_eScript_tasks; omega) | (apply is_eScript_lines; omega) | (apply is_eScript_ranBy; omega)) only [↓reduceIte, ↓I_n1, obs, I_0n, l_1, l_2, l_3, l_4, l_5, l_6, l_7, l_8, l_11, l_12, l_15, l_16, l_18, l_20, l_21, l_29, l_30, l_31, l_32, l_33, l_39, l_40, l_44, l_45, l_46, l_47, l_48, l_53, l_57, l_63, l_64, l_65, l_66, l_71, l_72, l_75, l_90, l_97, l_120, l_122, l_127, l_128, l_1812, l_3600, l_4000, l_252645135, l_268435456, l_858993459, l_1431655765, I_add, I_mul, I_sub, I_addN, I_mulN, I_subN, ilt_t, ilt_f, ile_t, ile_f, ieq_t, ieq_f, up_same, up_up, I_and, I_or, I_shlN, I_shrN, I_divN, I_remN, dzI, i2cI, narI, Int.toNat_natCast, true_or, or_true, false_or, or_false, true_and, and_true, false_and, and_false, not_true_eq_false, not_false_eq_true, cText, gText_signs, nText_signs, rText_signs, wText_signs, gText_placesOf, nText_placesOf, rText_placesOf, wText_placesOf, gText_size, pText_size, b_X2_gatherConstWays_17, hsz]
        rfl
      · by_cases g : p' = p
        · subst g
          exact wstp_r (h1 n (by omega) (v4 n a1 a2 a3 a4) a5) m'
        · exact wstp_l n1 (h' p' (by omega) n a1 a2 a3 a4 a5)
    · refine ⟨vl, ?_, frW_refl, monW_refl, fun p' hp' n a1 a2 a3 => by omega⟩
      simp (disch := first | assumption | omega | exact is_Script_draft | exact is_Script_made | exact is_Learner_made | exact is_Learner_madeFirst | (apply is_eScript_tasks; omega) | (apply is_eScript_lines; omega) | (apply is_eScript_ranBy; omega)) only [↓reduceIte, ↓I_n1, obs, I_0n, l_1, l_2, l_3, l_4, l_5, l_6, l_7, l_8, l_11, l_12, l_15, l_16, l_18, l_20, l_21, l_29, l_30, l_31, l_32, l_33, l_39, l_40, l_44, l_45, l_46, l_47, l_48, l_53, l_57, l_63, l_64, l_65, l_66, l_71, l_72, l_75, l_90, l_97, l_120, l_122, l_127, l_128, l_1812, l_3600, l_4000, l_252645135, l_268435456, l_858993459, l_1431655765, I_add, I_mul, I_sub, I_addN, I_mulN, I_subN, ilt_t, ilt_f, ile_t, ile_f, ieq_t, ieq_f, up_same, up_up, I_and, I_or, I_shlN, I_shrN, I_divN, I_remN, dzI, i2cI, narI, Int.toNat_natCast, true_or, or_true, false_or, or_false, true_and, and_true, false_and, and_false, not_true_eq_false, not_false_eq_true, cText, gText_signs, nText_signs, rText_signs, wText_signs, gText_placesOf, nText_placesOf, rText_placesOf, wText_placesOf, gText_size, pText_size, b_X2_gatherConstWays_17, hsz]
theorem x_gatherConstWays {ms : List (Tx × Tx)} {A : Nat → Nat} {i R T : Nat} {pv : Int} {tx : Nat → ZText} {pg : Nat → ZProg} {le : Nat → ZLearnt} {ln : Nat → ZLine} {tk : Nat → ZTask} {bd : Nat → ZBoard} {vi : Nat → Int32} {va : Nat → Nat → Int32} {vl : Nat → Nat → Int64} {vj : Int64} {la : Option Nat} {me : Nat → Option Nat} (hF : 200000 ≤ F) (hi : i < ms.length) (hR : R < 44) (hT : T < 44) (hne : R ≠ T) (hpv : -1 ≤ pv ∧ pv < 536870912) (hM : mems tx bd vi me A ms) (hsh : ∀ p, p ≤ (gm ms i).2.length → shOk va ms i p) : ∃ vl', f_X2_gatherConstWays F aFinder (I (i : Nat)) (I ((R * 21 : Nat) : Int)) (I ((T * 21 : Nat) : Int)) (I pv) (mk (tx, pg, le, ln, tk, bd, vi, va, vl, vj, la, me)) = some (mk (tx, pg, le, ln, tk, bd, vi, va, (vl'), vj, la, me)) ∧ frW vl vl' R ∧ monW vl vl' ∧ ∀ p' n, 1 ≤ n → n ≤ 4 → p' + n ≤ (gm ms i).2.length → (∀ j, j < ms.length → occ (((gm ms i).2.drop p').take n) (gm ms j).2 ≠ 0) → (pv = -1 ∨ pv = (cst (((gm ms i).2.drop p').take n) : Nat)) → wstp vl vl' R T p' n (3 * n) := by
  obtain ⟨m1, m2, m3, m4, m5⟩ := id hM
  obtain ⟨b1, b2, b3⟩ := m5 i hi
  obtain ⟨vl', e', f', m', h'⟩ := x_gcw17 (F := F) hF hi hR hT hne hpv F 0 tx pg le ln tk bd vi va vl vj la me (Nat.zero_le _) (by omega) hM hsh
  refine ⟨vl', ?_, f', m', fun p' n a => h' p' (Nat.zero_le _) n a⟩
  simp (disch := first | assumption | omega | exact is_Script_draft | exact is_Script_made | exact is_Learner_made | exact is_Learner_madeFirst | (apply is_eScript_tasks; omega) | (apply is_eScript_lines; omega) | (apply is_eScript_ranBy; omega)) only [↓reduceIte, ↓I_n1, obs, I_0n, l_1, l_2, l_3, l_4, l_5, l_6, l_7, l_8, l_11, l_12, l_15, l_16, l_18, l_20, l_21, l_29, l_30, l_31, l_32, l_33, l_39, l_40, l_44, l_45, l_46, l_47, l_48, l_53, l_57, l_63, l_64, l_65, l_66, l_71, l_72, l_75, l_90, l_97, l_120, l_122, l_127, l_128, l_1812, l_3600, l_4000, l_252645135, l_268435456, l_858993459, l_1431655765, I_add, I_mul, I_sub, I_addN, I_mulN, I_subN, ilt_t, ilt_f, ile_t, ile_f, ieq_t, ieq_f, up_same, up_up, I_and, I_or, I_shlN, I_shrN, I_divN, I_remN, dzI, i2cI, narI, Int.toNat_natCast, true_or, or_true, false_or, or_false, true_and, and_true, false_and, and_false, not_true_eq_false, not_false_eq_true, cFinder, gFinder_found, nFinder_found, rFinder_found, gFinder_foundCount, pFinder_foundCount, gFinder_stock, gFinder_lookedAt, pFinder_lookedAt, gFinder_boardCount, pFinder_boardCount, gFinder_pins, nFinder_pins, rFinder_pins, wFinder_pins, gFinder_pinIndexes, nFinder_pinIndexes, rFinder_pinIndexes, wFinder_pinIndexes, gFinder_isPinned, pFinder_isPinned, gFinder_ways, nFinder_ways, rFinder_ways, wFinder_ways, gFinder_knownKeys, nFinder_knownKeys, rFinder_knownKeys, wFinder_knownKeys, gFinder_knownEndings, nFinder_knownEndings, rFinder_knownEndings, wFinder_knownEndings, gFinder_searches, pFinder_searches, gFinder_at_, nFinder_at_, rFinder_at_, wFinder_at_, gFinder_row, nFinder_row, rFinder_row, wFinder_row, cStock, gStock_boards, nStock_boards, rStock_boards, gStock_members, nStock_members, rStock_members, wStock_members, gStock_memberCount, pStock_memberCount, gStock_atoms, nStock_atoms, rStock_atoms, wStock_atoms, gStock_weights, nStock_weights, rStock_weights, wStock_weights, gStock_places, nStock_places, rStock_places, wStock_places, gStock_sizes, nStock_sizes, rStock_sizes, wStock_sizes, gStock_atomCount, pStock_atomCount, gStock_shared, nStock_shared, rStock_shared, wStock_shared, gStock_groups, nStock_groups, rStock_groups, wStock_groups, gStock_groupWeights, nStock_groupWeights, rStock_groupWeights, wStock_groupWeights, gStock_groupCount, pStock_groupCount, gStock_newest, nStock_newest, rStock_newest, wStock_newest, gStock_older, nStock_older, rStock_older, wStock_older, cBoard, gBoard_was, gBoard_shown, gBoard_spots, nBoard_spots, rBoard_spots, wBoard_spots, gBoard_placesOfSign, nBoard_placesOfSign, rBoard_placesOfSign, wBoard_placesOfSign, gBoard_cutPlaces, nBoard_cutPlaces, rBoard_cutPlaces, wBoard_cutPlaces, gBoard_eachPlaces, nBoard_eachPlaces, rBoard_eachPlaces, wBoard_eachPlaces, gBoard_eachSizes, nBoard_eachSizes, rBoard_eachSizes, wBoard_eachSizes, gBoard_made, b_X2_gatherConstWays_89, f_X2_gatherConstWays_89, b_X2_gatherConstWays_33, b_X2_gatherConstWays_17, b_X2_gatherConstWays_0, f_X2_gatherConstWays_0, f_X2_gatherConstWays, b1]
  exact e'
end
