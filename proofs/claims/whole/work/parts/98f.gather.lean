/-! THE GATHERING FROM ITS BEGIN -/
/-- the boards of a task's examples -/
def bOK (tx : Nat → ZText) (bd : Nat → ZBoard) (B : Nat → Tx × Tx) (nb : Nat) : Prop := ∀ i, i < nb → brd tx (bd (eStock_boards i)) (eStock_boards i) (B i) ∧ ∀ c : Nat, c < 128 → (bd (eStock_boards i)).2.1 c = I (psn c (B i).2 : Nat)
def ixs (S : Nat) : List Nat := (List.range 4).filter (fun i => S.testBit i)
def mset (B : Nat → Tx × Tx) (S : Nat) : List (Tx × Tx) := (ixs S).map B
def mad (S : Nat) : Nat → Nat := fun j => eStock_boards (gl (ixs S) j)
theorem gm_map {B : Nat → Tx × Tx} {l : List Nat} {j : Nat} (h : j < l.length) : gm (l.map B) j = B (gl l j) := by
  unfold gm gl
  rw [List.getD_eq_getElem?_getD, List.getD_eq_getElem?_getD, List.getElem?_map, List.getElem?_eq_getElem h]
  rfl
theorem ixs_lt {S nb j : Nat} (hS : S < 2 ^ nb) (hj : j < (ixs S).length) : gl (ixs S) j < nb ∧ gl (ixs S) j < 4 ∧ S.testBit (gl (ixs S) j) = true := by
  have h := gl_mem hj
  have h1 := List.mem_filter.mp h
  exact ⟨bit_lt hS h1.2, List.mem_range.mp h1.1, h1.2⟩
theorem ixs_len (S : Nat) : (ixs S).length ≤ 4 := by
  unfold ixs
  exact Nat.le_trans (List.length_filter_le _ _) (by rw [List.length_range]; exact Nat.le_refl _)
theorem ixs_pos {S : Nat} (h0 : S ≠ 0) (h : S < 16) : 1 ≤ (ixs S).length := by
  have : ∃ i, i < 4 ∧ S.testBit i = true := by
    by_cases c : ∃ i, i < 4 ∧ S.testBit i = true
    · exact c
    · exfalso
      apply h0
      apply Nat.eq_of_testBit_eq
      intro i
      rw [Nat.zero_testBit]
      cases hb : S.testBit i
      · rfl
      · exact absurd ⟨i, bit_lt (n := 4) h hb, hb⟩ c
  obtain ⟨i, h1, h2⟩ := this
  exact List.length_pos_iff.mpr (List.ne_nil_of_mem (List.mem_filter.mpr ⟨List.mem_range.mpr h1, h2⟩))
theorem mset_ok {tx : Nat → ZText} {bd : Nat → ZBoard} {B : Nat → Tx × Tx} {nb S : Nat} (hb : bOK tx bd B nb) (hS : S < 2 ^ nb) : okM (mset B S) := by
  intro m hm
  obtain ⟨i, hi, rfl⟩ := List.mem_map.mp hm
  have h1 := List.mem_filter.mp hi
  have h2 := (hb i (bit_lt hS h1.2)).1
  exact ⟨h2.1.2.2.2.1, h2.1.2.1, h2.2.1.2.2.2.1, h2.2.1.2.1⟩
section
variable {F : Nat}
theorem x_ga92 {K : Nat → Int32 → cM → Option cM} {ms : List (Tx × Tx)} {A : Nat → Nat} {a : Nat} (ha : a < 30) (hF : 200000 ≤ F) : ∀ (f b : Nat) (tx : Nat → ZText) (pg : Nat → ZProg) (le : Nat → ZLearnt) (ln : Nat → ZLine) (tk : Nat → ZTask) (bd : Nat → ZBoard) (vi : Nat → Int32) (va : Nat → Nat → Int32) (vl : Nat → Nat → Int64) (vj : Int64) (la : Option Nat) (me : Nat → Option Nat), b ≤ 30 → 31 - b ≤ f → gst tx bd vi va me A ms ((a * 30 + b) * 4) → ∃ vi' va', f_X8_gather_92 F K f aStock (I (a : Nat)) (I (b : Nat)) (mk (tx, pg, le, ln, tk, bd, vi, va, vl, vj, la, me)) = K aStock (I ((a + 1 : Nat) : Int)) (mk (tx, pg, le, ln, tk, bd, (vi'), (va'), vl, vj, la, me)) ∧ gst tx bd vi' va' me A ms (((a + 1) * 30) * 4) ∧ frS vi vi' va va' := by
  intro f
  induction f with
  | zero => intros; omega
  | succ f ih =>
    intro b tx pg le ln tk bd vi va vl vj la me hb hf hg
    rw [s_X8_gather_92]
    by_cases g : b < 30
    · obtain ⟨vi1, va1, e1, s1, f1⟩ := x_gatherCuts (F := F) (tx := tx) (pg := pg) (le := le) (ln := ln) (tk := tk) (bd := bd) (vi := vi) (va := va) (vl := vl) (vj := vj) (la := la) (me := me) ha g hF hg
      obtain ⟨vi', va', e', s', f'⟩ := ih (b + 1) tx pg le ln tk bd (vi1) (va1) vl vj la me (by omega) (by omega) (by rw [show (a * 30 + (b + 1)) * 4 = (a * 30 + b) * 4 + 4 by omega]; exact s1)
      refine ⟨vi', va', ?_, s', frS_trans f1 f'⟩
      simp (disch := first | assumption | omega | exact is_Script_draft | exact is_Script_made | exact is_Learner_made | exact is_Learner_madeFirst | (apply is_eScript_tasks; omega) | (apply is_eScript_lines; omega) | (apply is_eScript_ranBy; omega)) only [↓reduceIte, ↓I_n1, obs, I_0n, l_1, l_2, l_3, l_4, l_5, l_6, l_7, l_8, l_11, l_12, l_15, l_16, l_18, l_20, l_21, l_29, l_30, l_31, l_32, l_33, l_39, l_40, l_44, l_45, l_46, l_47, l_48, l_53, l_57, l_63, l_64, l_65, l_66, l_71, l_72, l_75, l_90, l_97, l_120, l_122, l_127, l_128, l_1812, l_3600, l_4000, l_252645135, l_268435456, l_858993459, l_1431655765, I_add, I_mul, I_sub, I_addN, I_mulN, I_subN, ilt_t, ilt_f, ile_t, ile_f, ieq_t, ieq_f, up_same, up_up, I_and, I_or, I_shlN, I_shrN, I_divN, I_remN, dzI, i2cI, narI, Int.toNat_natCast, true_or, or_true, false_or, or_false, true_and, and_true, false_and, and_false, not_true_eq_false, not_false_eq_true, cStock, gStock_boards, nStock_boards, rStock_boards, gStock_members, nStock_members, rStock_members, wStock_members, gStock_memberCount, pStock_memberCount, gStock_atoms, nStock_atoms, rStock_atoms, wStock_atoms, gStock_weights, nStock_weights, rStock_weights, wStock_weights, gStock_places, nStock_places, rStock_places, wStock_places, gStock_sizes, nStock_sizes, rStock_sizes, wStock_sizes, gStock_atomCount, pStock_atomCount, gStock_shared, nStock_shared, rStock_shared, wStock_shared, gStock_groups, nStock_groups, rStock_groups, wStock_groups, gStock_groupWeights, nStock_groupWeights, rStock_groupWeights, wStock_groupWeights, gStock_groupCount, pStock_groupCount, gStock_newest, nStock_newest, rStock_newest, wStock_newest, gStock_older, nStock_older, rStock_older, wStock_older, b_X8_gather_92, e1]
      exact e'
    · refine ⟨vi, va, ?_, by rw [show (a + 1) * 30 * 4 = (a * 30 + b) * 4 by omega]; exact hg, frS_refl⟩
      simp (disch := first | assumption | omega | exact is_Script_draft | exact is_Script_made | exact is_Learner_made | exact is_Learner_madeFirst | (apply is_eScript_tasks; omega) | (apply is_eScript_lines; omega) | (apply is_eScript_ranBy; omega)) only [↓reduceIte, ↓I_n1, obs, I_0n, l_1, l_2, l_3, l_4, l_5, l_6, l_7, l_8, l_11, l_12, l_15, l_16, l_18, l_20, l_21, l_29, l_30, l_31, l_32, l_33, l_39, l_40, l_44, l_45, l_46, l_47, l_48, l_53, l_57, l_63, l_64, l_65, l_66, l_71, l_72, l_75, l_90, l_97, l_120, l_122, l_127, l_128, l_1812, l_3600, l_4000, l_252645135, l_268435456, l_858993459, l_1431655765, I_add, I_mul, I_sub, I_addN, I_mulN, I_subN, ilt_t, ilt_f, ile_t, ile_f, ieq_t, ieq_f, up_same, up_up, I_and, I_or, I_shlN, I_shrN, I_divN, I_remN, dzI, i2cI, narI, Int.toNat_natCast, true_or, or_true, false_or, or_false, true_and, and_true, false_and, and_false, not_true_eq_false, not_false_eq_true, cStock, gStock_boards, nStock_boards, rStock_boards, gStock_members, nStock_members, rStock_members, wStock_members, gStock_memberCount, pStock_memberCount, gStock_atoms, nStock_atoms, rStock_atoms, wStock_atoms, gStock_weights, nStock_weights, rStock_weights, wStock_weights, gStock_places, nStock_places, rStock_places, wStock_places, gStock_sizes, nStock_sizes, rStock_sizes, wStock_sizes, gStock_atomCount, pStock_atomCount, gStock_shared, nStock_shared, rStock_shared, wStock_shared, gStock_groups, nStock_groups, rStock_groups, wStock_groups, gStock_groupWeights, nStock_groupWeights, rStock_groupWeights, wStock_groupWeights, gStock_groupCount, pStock_groupCount, gStock_newest, nStock_newest, rStock_newest, wStock_newest, gStock_older, nStock_older, rStock_older, wStock_older, b_X8_gather_92]
theorem x_ga84 {ms : List (Tx × Tx)} {A : Nat → Nat} (hF : 200000 ≤ F) : ∀ (f a : Nat) (tx : Nat → ZText) (pg : Nat → ZProg) (le : Nat → ZLearnt) (ln : Nat → ZLine) (tk : Nat → ZTask) (bd : Nat → ZBoard) (vi : Nat → Int32) (va : Nat → Nat → Int32) (vl : Nat → Nat → Int64) (vj : Int64) (la : Option Nat) (me : Nat → Option Nat), a ≤ 30 → 31 - a ≤ f → mpos bd A ms → gst tx bd vi va me A ms ((a * 30) * 4) → ∃ vi' va', f_X8_gather_84 F f aStock (I (a : Nat)) (mk (tx, pg, le, ln, tk, bd, vi, va, vl, vj, la, me)) = some (mk (tx, pg, le, ln, tk, bd, (vi'), (va'), vl, vj, la, me)) ∧ stockOk tx bd vi' va' me A ms ∧ frG vi vi' va va' := by
  intro f
  induction f with
  | zero => intros; omega
  | succ f ih =>
    intro a tx pg le ln tk bd vi va vl vj la me ha hf hps hg
    rw [s_X8_gather_84]
    by_cases g : a < 30
    · obtain ⟨vi1, va1, e1, s1, f1⟩ := x_ga92 (F := F) (K := f_X8_gather_84 F f) g hF F 0 tx pg le ln tk bd vi va vl vj la me (Nat.zero_le _) (by omega) (by rw [Nat.add_zero]; exact hg)
      obtain ⟨vi', va', e', s', f'⟩ := ih (a + 1) tx pg le ln tk bd (vi1) (va1) vl vj la me (by omega) (by omega) hps s1
      refine ⟨vi', va', ?_, s', frG_trans (frG_S f1) f'⟩
      simp (disch := first | assumption | omega | exact is_Script_draft | exact is_Script_made | exact is_Learner_made | exact is_Learner_madeFirst | (apply is_eScript_tasks; omega) | (apply is_eScript_lines; omega) | (apply is_eScript_ranBy; omega)) only [↓reduceIte, ↓I_n1, obs, I_0n, l_1, l_2, l_3, l_4, l_5, l_6, l_7, l_8, l_11, l_12, l_15, l_16, l_18, l_20, l_21, l_29, l_30, l_31, l_32, l_33, l_39, l_40, l_44, l_45, l_46, l_47, l_48, l_53, l_57, l_63, l_64, l_65, l_66, l_71, l_72, l_75, l_90, l_97, l_120, l_122, l_127, l_128, l_1812, l_3600, l_4000, l_252645135, l_268435456, l_858993459, l_1431655765, I_add, I_mul, I_sub, I_addN, I_mulN, I_subN, ilt_t, ilt_f, ile_t, ile_f, ieq_t, ieq_f, up_same, up_up, I_and, I_or, I_shlN, I_shrN, I_divN, I_remN, dzI, i2cI, narI, Int.toNat_natCast, true_or, or_true, false_or, or_false, true_and, and_true, false_and, and_false, not_true_eq_false, not_false_eq_true, cStock, gStock_boards, nStock_boards, rStock_boards, gStock_members, nStock_members, rStock_members, wStock_members, gStock_memberCount, pStock_memberCount, gStock_atoms, nStock_atoms, rStock_atoms, wStock_atoms, gStock_weights, nStock_weights, rStock_weights, wStock_weights, gStock_places, nStock_places, rStock_places, wStock_places, gStock_sizes, nStock_sizes, rStock_sizes, wStock_sizes, gStock_atomCount, pStock_atomCount, gStock_shared, nStock_shared, rStock_shared, wStock_shared, gStock_groups, nStock_groups, rStock_groups, wStock_groups, gStock_groupWeights, nStock_groupWeights, rStock_groupWeights, wStock_groupWeights, gStock_groupCount, pStock_groupCount, gStock_newest, nStock_newest, rStock_newest, wStock_newest, gStock_older, nStock_older, rStock_older, wStock_older, b_X8_gather_84]
      exact e1.trans e'
    · obtain ⟨vi', va', e', s', f'⟩ := x_ga118 (F := F) hF F 0 tx pg le ln tk bd vi va vl vj la me (Nat.zero_le _) (by omega) hps (by rw [show 3600 + 0 = a * 30 * 4 by omega]; exact hg)
      refine ⟨vi', va', ?_, s', f'⟩
      simp (disch := first | assumption | omega | exact is_Script_draft | exact is_Script_made | exact is_Learner_made | exact is_Learner_madeFirst | (apply is_eScript_tasks; omega) | (apply is_eScript_lines; omega) | (apply is_eScript_ranBy; omega)) only [↓reduceIte, ↓I_n1, obs, I_0n, l_1, l_2, l_3, l_4, l_5, l_6, l_7, l_8, l_11, l_12, l_15, l_16, l_18, l_20, l_21, l_29, l_30, l_31, l_32, l_33, l_39, l_40, l_44, l_45, l_46, l_47, l_48, l_53, l_57, l_63, l_64, l_65, l_66, l_71, l_72, l_75, l_90, l_97, l_120, l_122, l_127, l_128, l_1812, l_3600, l_4000, l_252645135, l_268435456, l_858993459, l_1431655765, I_add, I_mul, I_sub, I_addN, I_mulN, I_subN, ilt_t, ilt_f, ile_t, ile_f, ieq_t, ieq_f, up_same, up_up, I_and, I_or, I_shlN, I_shrN, I_divN, I_remN, dzI, i2cI, narI, Int.toNat_natCast, true_or, or_true, false_or, or_false, true_and, and_true, false_and, and_false, not_true_eq_false, not_false_eq_true, cStock, gStock_boards, nStock_boards, rStock_boards, gStock_members, nStock_members, rStock_members, wStock_members, gStock_memberCount, pStock_memberCount, gStock_atoms, nStock_atoms, rStock_atoms, wStock_atoms, gStock_weights, nStock_weights, rStock_weights, wStock_weights, gStock_places, nStock_places, rStock_places, wStock_places, gStock_sizes, nStock_sizes, rStock_sizes, wStock_sizes, gStock_atomCount, pStock_atomCount, gStock_shared, nStock_shared, rStock_shared, wStock_shared, gStock_groups, nStock_groups, rStock_groups, wStock_groups, gStock_groupWeights, nStock_groupWeights, rStock_groupWeights, wStock_groupWeights, gStock_groupCount, pStock_groupCount, gStock_newest, nStock_newest, rStock_newest, wStock_newest, gStock_older, nStock_older, rStock_older, wStock_older, b_X8_gather_84]
      exact e'
theorem x_ga63 {ms : List (Tx × Tx)} {A : Nat → Nat} (hF : 200000 ≤ F) : ∀ (f i : Nat) (tx : Nat → ZText) (pg : Nat → ZProg) (le : Nat → ZLearnt) (ln : Nat → ZLine) (tk : Nat → ZTask) (bd : Nat → ZBoard) (vi : Nat → Int32) (va : Nat → Nat → Int32) (vl : Nat → Nat → Int64) (vj : Int64) (la : Option Nat) (me : Nat → Option Nat), i ≤ 21 → 22 - i ≤ f → mpos bd A ms → mems tx bd vi me A ms → vi 607 = I ((0 : Nat) : Int) → vi 611 = I ((0 : Nat) : Int) → (∀ j, j < i → va 451 j = I (-1)) → ∃ vi' va', f_X8_gather_63 F f aStock (I (i : Nat)) (mk (tx, pg, le, ln, tk, bd, vi, va, vl, vj, la, me)) = some (mk (tx, pg, le, ln, tk, bd, (vi'), (va'), vl, vj, la, me)) ∧ stockOk tx bd vi' va' me A ms ∧ frG vi vi' va va' := by
  intro f
  induction f with
  | zero => intros; omega
  | succ f ih =>
    intro i tx pg le ln tk bd vi va vl vj la me hi hf hps hM h1 h2 hn
    rw [s_X8_gather_63]
    by_cases g : i < 21
    · obtain ⟨vi', va', e', s', f'⟩ := ih (i + 1) tx pg le ln tk bd vi (up va 451 (upd (va 451) i (I (-1)))) vl vj la me (by omega) (by omega) hps hM h1 h2 (by
        intro j hj
        rw [up_same]
        unfold upd
        by_cases c : j = i
        · rw [if_pos c]
        · rw [if_neg c]
          exact hn j (by omega))
      refine ⟨vi', va', ?_, s', f'.1, fun K hK => by rw [f'.2 K hK, up_ne (by omega)]⟩
      simp (disch := first | assumption | omega | exact is_Script_draft | exact is_Script_made | exact is_Learner_made | exact is_Learner_madeFirst | (apply is_eScript_tasks; omega) | (apply is_eScript_lines; omega) | (apply is_eScript_ranBy; omega)) only [↓reduceIte, ↓I_n1, obs, I_0n, l_1, l_2, l_3, l_4, l_5, l_6, l_7, l_8, l_11, l_12, l_15, l_16, l_18, l_20, l_21, l_29, l_30, l_31, l_32, l_33, l_39, l_40, l_44, l_45, l_46, l_47, l_48, l_53, l_57, l_63, l_64, l_65, l_66, l_71, l_72, l_75, l_90, l_97, l_120, l_122, l_127, l_128, l_1812, l_3600, l_4000, l_252645135, l_268435456, l_858993459, l_1431655765, I_add, I_mul, I_sub, I_addN, I_mulN, I_subN, ilt_t, ilt_f, ile_t, ile_f, ieq_t, ieq_f, up_same, up_up, I_and, I_or, I_shlN, I_shrN, I_divN, I_remN, dzI, i2cI, narI, Int.toNat_natCast, true_or, or_true, false_or, or_false, true_and, and_true, false_and, and_false, not_true_eq_false, not_false_eq_true, cStock, gStock_boards, nStock_boards, rStock_boards, gStock_members, nStock_members, rStock_members, wStock_members, gStock_memberCount, pStock_memberCount, gStock_atoms, nStock_atoms, rStock_atoms, wStock_atoms, gStock_weights, nStock_weights, rStock_weights, wStock_weights, gStock_places, nStock_places, rStock_places, wStock_places, gStock_sizes, nStock_sizes, rStock_sizes, wStock_sizes, gStock_atomCount, pStock_atomCount, gStock_shared, nStock_shared, rStock_shared, wStock_shared, gStock_groups, nStock_groups, rStock_groups, wStock_groups, gStock_groupWeights, nStock_groupWeights, rStock_groupWeights, wStock_groupWeights, gStock_groupCount, pStock_groupCount, gStock_newest, nStock_newest, rStock_newest, wStock_newest, gStock_older, nStock_older, rStock_older, wStock_older, b_X8_gather_63]
      exact e'
    · obtain ⟨vi', va', e', s', f'⟩ := x_ga84 (F := F) hF F 0 tx pg le ln tk bd vi va vl vj la me (Nat.zero_le _) (by omega) hps ⟨hM, ⟨h1, Nat.zero_le _, fun n hn => (by cases hn), fun j hj => absurd hj (Nat.not_lt_zero _)⟩, 0, fun _ => 0, fun _ => 0, h2, Nat.le_refl _, fun g hg => absurd hg (Nat.not_lt_zero _), fun s hs => ⟨-1, hn s (by omega), by decide, by decide⟩, fun g hg => absurd hg (Nat.not_lt_zero _), fun j hj => absurd hj (Nat.not_lt_zero _)⟩
      refine ⟨vi', va', ?_, s', f'⟩
      simp (disch := first | assumption | omega | exact is_Script_draft | exact is_Script_made | exact is_Learner_made | exact is_Learner_madeFirst | (apply is_eScript_tasks; omega) | (apply is_eScript_lines; omega) | (apply is_eScript_ranBy; omega)) only [↓reduceIte, ↓I_n1, obs, I_0n, l_1, l_2, l_3, l_4, l_5, l_6, l_7, l_8, l_11, l_12, l_15, l_16, l_18, l_20, l_21, l_29, l_30, l_31, l_32, l_33, l_39, l_40, l_44, l_45, l_46, l_47, l_48, l_53, l_57, l_63, l_64, l_65, l_66, l_71, l_72, l_75, l_90, l_97, l_120, l_122, l_127, l_128, l_1812, l_3600, l_4000, l_252645135, l_268435456, l_858993459, l_1431655765, I_add, I_mul, I_sub, I_addN, I_mulN, I_subN, ilt_t, ilt_f, ile_t, ile_f, ieq_t, ieq_f, up_same, up_up, I_and, I_or, I_shlN, I_shrN, I_divN, I_remN, dzI, i2cI, narI, Int.toNat_natCast, true_or, or_true, false_or, or_false, true_and, and_true, false_and, and_false, not_true_eq_false, not_false_eq_true, cStock, gStock_boards, nStock_boards, rStock_boards, gStock_members, nStock_members, rStock_members, wStock_members, gStock_memberCount, pStock_memberCount, gStock_atoms, nStock_atoms, rStock_atoms, wStock_atoms, gStock_weights, nStock_weights, rStock_weights, wStock_weights, gStock_places, nStock_places, rStock_places, wStock_places, gStock_sizes, nStock_sizes, rStock_sizes, wStock_sizes, gStock_atomCount, pStock_atomCount, gStock_shared, nStock_shared, rStock_shared, wStock_shared, gStock_groups, nStock_groups, rStock_groups, wStock_groups, gStock_groupWeights, nStock_groupWeights, rStock_groupWeights, wStock_groupWeights, gStock_groupCount, pStock_groupCount, gStock_newest, nStock_newest, rStock_newest, wStock_newest, gStock_older, nStock_older, rStock_older, wStock_older, b_X8_gather_63]
      exact e'
theorem x_ga7 {S : Nat} (hS : S < 16) : ∀ (f i : Nat) (tx : Nat → ZText) (pg : Nat → ZProg) (le : Nat → ZLearnt) (ln : Nat → ZLine) (tk : Nat → ZTask) (bd : Nat → ZBoard) (vi : Nat → Int32) (va : Nat → Nat → Int32) (vl : Nat → Nat → Int64) (vj : Int64) (la : Option Nat) (me : Nat → Option Nat), i ≤ 4 → 5 - i ≤ f → vi 602 = I (((List.range i).filter (fun i => S.testBit i)).length : Nat) → (∀ j, j < ((List.range i).filter (fun i => S.testBit i)).length → me j = some (eStock_boards (gl ((List.range i).filter (fun i => S.testBit i)) j))) → ∃ me', f_X8_gather_7 F f aStock (I (S : Nat)) (I (i : Nat)) (mk (tx, pg, le, ln, tk, bd, vi, va, vl, vj, la, me)) = f_X8_gather_63 F F aStock (I ((0 : Nat) : Int)) (mk (tx, pg, le, ln, tk, bd, (up (up (up vi 602 (I ((ixs S).length : Nat))) 607 (I ((0 : Nat) : Int))) 611 (I ((0 : Nat) : Int))), va, vl, vj, la, (me'))) ∧ ∀ j, j < (ixs S).length → me' j = some (eStock_boards (gl (ixs S) j)) := by
  intro f
  induction f with
  | zero => intros; omega
  | succ f ih =>
    intro i tx pg le ln tk bd vi va vl vj la me hi hf hc hm
    rw [s_X8_gather_7]
    by_cases g : i < 4
    · have ht : (S >>> i) &&& 1 = (S.testBit i).toNat := shr_and1 S i
      have hl4 : ((List.range i).filter (fun i => S.testBit i)).length ≤ i := Nat.le_trans (List.length_filter_le _ _) (by rw [List.length_range]; exact Nat.le_refl _)
      have hsucc : (List.range (i + 1)).filter (fun i => S.testBit i) = (List.range i).filter (fun i => S.testBit i) ++ (if S.testBit i = true then [i] else []) := by
        rw [List.range_succ, List.filter_append]
        congr 1
        by_cases c : S.testBit i = true
        · rw [if_pos c, List.filter_cons_of_pos c]
          rfl
        · rw [if_neg c, List.filter_cons_of_neg c]
          rfl
      cases hb : S.testBit i
      · rw [hb] at ht
        have ht : (S >>> i) &&& 1 = 0 := ht
        have e0 : (List.range (i + 1)).filter (fun i => S.testBit i) = (List.range i).filter (fun i => S.testBit i) := by
          rw [hsucc, hb]
          simp
        obtain ⟨me', e', h'⟩ := ih (i + 1) tx pg le ln tk bd vi va vl vj la me (by omega) (by omega) (by rw [e0]; exact hc) (by rw [e0]; exact hm)
        refine ⟨me', ?_, h'⟩
        simp (disch := first | assumption | omega | exact is_Script_draft | exact is_Script_made | exact is_Learner_made | exact is_Learner_madeFirst | (apply is_eScript_tasks; omega) | (apply is_eScript_lines; omega) | (apply is_eScript_ranBy; omega)) only [↓reduceIte, ↓I_n1, obs, I_0n, l_1, l_2, l_3, l_4, l_5, l_6, l_7, l_8, l_11, l_12, l_15, l_16, l_18, l_20, l_21, l_29, l_30, l_31, l_32, l_33, l_39, l_40, l_44, l_45, l_46, l_47, l_48, l_53, l_57, l_63, l_64, l_65, l_66, l_71, l_72, l_75, l_90, l_97, l_120, l_122, l_127, l_128, l_1812, l_3600, l_4000, l_252645135, l_268435456, l_858993459, l_1431655765, I_add, I_mul, I_sub, I_addN, I_mulN, I_subN, ilt_t, ilt_f, ile_t, ile_f, ieq_t, ieq_f, up_same, up_up, I_and, I_or, I_shlN, I_shrN, I_divN, I_remN, dzI, i2cI, narI, Int.toNat_natCast, true_or, or_true, false_or, or_false, true_and, and_true, false_and, and_false, not_true_eq_false, not_false_eq_true, cStock, gStock_boards, nStock_boards, rStock_boards, gStock_members, nStock_members, rStock_members, wStock_members, gStock_memberCount, pStock_memberCount, gStock_atoms, nStock_atoms, rStock_atoms, wStock_atoms, gStock_weights, nStock_weights, rStock_weights, wStock_weights, gStock_places, nStock_places, rStock_places, wStock_places, gStock_sizes, nStock_sizes, rStock_sizes, wStock_sizes, gStock_atomCount, pStock_atomCount, gStock_shared, nStock_shared, rStock_shared, wStock_shared, gStock_groups, nStock_groups, rStock_groups, wStock_groups, gStock_groupWeights, nStock_groupWeights, rStock_groupWeights, wStock_groupWeights, gStock_groupCount, pStock_groupCount, gStock_newest, nStock_newest, rStock_newest, wStock_newest, gStock_older, nStock_older, rStock_older, wStock_older, b_X8_gather_7, ht]
        exact e'
      · rw [hb] at ht
        have ht : (S >>> i) &&& 1 = 1 := ht
        have e0 : (List.range (i + 1)).filter (fun i => S.testBit i) = (List.range i).filter (fun i => S.testBit i) ++ [i] := by
          rw [hsucc, if_pos hb]
        have hB := is_eStock_boards g
        obtain ⟨me', e', h'⟩ := ih (i + 1) tx pg le ln tk bd (up vi 602 (I ((((List.range i).filter (fun i => S.testBit i)).length + 1 : Nat) : Int))) va vl vj la (va_up me ((List.range i).filter (fun i => S.testBit i)).length (some (eStock_boards i))) (by omega) (by omega) (by rw [up_same, e0, List.length_append]; rfl) (by
          intro j hj
          rw [e0, List.length_append, List.length_singleton] at hj
          rw [e0, gl_app]
          unfold va_up
          by_cases c : j = ((List.range i).filter (fun i => S.testBit i)).length
          · rw [if_pos c, if_neg (by omega), if_pos c]
          · rw [if_neg c, if_pos (by omega)]
            exact hm j (by omega))
        refine ⟨me', ?_, h'⟩
        rw [up_up] at e'
        simp (disch := first | assumption | omega | exact is_Script_draft | exact is_Script_made | exact is_Learner_made | exact is_Learner_madeFirst | (apply is_eScript_tasks; omega) | (apply is_eScript_lines; omega) | (apply is_eScript_ranBy; omega)) only [↓reduceIte, ↓I_n1, obs, I_0n, l_1, l_2, l_3, l_4, l_5, l_6, l_7, l_8, l_11, l_12, l_15, l_16, l_18, l_20, l_21, l_29, l_30, l_31, l_32, l_33, l_39, l_40, l_44, l_45, l_46, l_47, l_48, l_53, l_57, l_63, l_64, l_65, l_66, l_71, l_72, l_75, l_90, l_97, l_120, l_122, l_127, l_128, l_1812, l_3600, l_4000, l_252645135, l_268435456, l_858993459, l_1431655765, I_add, I_mul, I_sub, I_addN, I_mulN, I_subN, ilt_t, ilt_f, ile_t, ile_f, ieq_t, ieq_f, up_same, up_up, I_and, I_or, I_shlN, I_shrN, I_divN, I_remN, dzI, i2cI, narI, Int.toNat_natCast, true_or, or_true, false_or, or_false, true_and, and_true, false_and, and_false, not_true_eq_false, not_false_eq_true, cStock, gStock_boards, nStock_boards, rStock_boards, gStock_members, nStock_members, rStock_members, wStock_members, gStock_memberCount, pStock_memberCount, gStock_atoms, nStock_atoms, rStock_atoms, wStock_atoms, gStock_weights, nStock_weights, rStock_weights, wStock_weights, gStock_places, nStock_places, rStock_places, wStock_places, gStock_sizes, nStock_sizes, rStock_sizes, wStock_sizes, gStock_atomCount, pStock_atomCount, gStock_shared, nStock_shared, rStock_shared, wStock_shared, gStock_groups, nStock_groups, rStock_groups, wStock_groups, gStock_groupWeights, nStock_groupWeights, rStock_groupWeights, wStock_groupWeights, gStock_groupCount, pStock_groupCount, gStock_newest, nStock_newest, rStock_newest, wStock_newest, gStock_older, nStock_older, rStock_older, wStock_older, b_X8_gather_7, ht, hc]
        exact e'
    · have hi4 : i = 4 := by omega
      subst hi4
      have hv : up vi 602 (I ((ixs S).length : Nat)) = vi := by
        have : I ((ixs S).length : Nat) = vi 602 := hc.symm
        rw [this, up_self]
      refine ⟨me, ?_, hm⟩
      rw [hv]
      simp (disch := first | assumption | omega | exact is_Script_draft | exact is_Script_made | exact is_Learner_made | exact is_Learner_madeFirst | (apply is_eScript_tasks; omega) | (apply is_eScript_lines; omega) | (apply is_eScript_ranBy; omega)) only [↓reduceIte, ↓I_n1, obs, I_0n, l_1, l_2, l_3, l_4, l_5, l_6, l_7, l_8, l_11, l_12, l_15, l_16, l_18, l_20, l_21, l_29, l_30, l_31, l_32, l_33, l_39, l_40, l_44, l_45, l_46, l_47, l_48, l_53, l_57, l_63, l_64, l_65, l_66, l_71, l_72, l_75, l_90, l_97, l_120, l_122, l_127, l_128, l_1812, l_3600, l_4000, l_252645135, l_268435456, l_858993459, l_1431655765, I_add, I_mul, I_sub, I_addN, I_mulN, I_subN, ilt_t, ilt_f, ile_t, ile_f, ieq_t, ieq_f, up_same, up_up, I_and, I_or, I_shlN, I_shrN, I_divN, I_remN, dzI, i2cI, narI, Int.toNat_natCast, true_or, or_true, false_or, or_false, true_and, and_true, false_and, and_false, not_true_eq_false, not_false_eq_true, cStock, gStock_boards, nStock_boards, rStock_boards, gStock_members, nStock_members, rStock_members, wStock_members, gStock_memberCount, pStock_memberCount, gStock_atoms, nStock_atoms, rStock_atoms, wStock_atoms, gStock_weights, nStock_weights, rStock_weights, wStock_weights, gStock_places, nStock_places, rStock_places, wStock_places, gStock_sizes, nStock_sizes, rStock_sizes, wStock_sizes, gStock_atomCount, pStock_atomCount, gStock_shared, nStock_shared, rStock_shared, wStock_shared, gStock_groups, nStock_groups, rStock_groups, wStock_groups, gStock_groupWeights, nStock_groupWeights, rStock_groupWeights, wStock_groupWeights, gStock_groupCount, pStock_groupCount, gStock_newest, nStock_newest, rStock_newest, wStock_newest, gStock_older, nStock_older, rStock_older, wStock_older, b_X8_gather_7]
theorem x_gather {B : Nat → Tx × Tx} {nb S : Nat} {tx : Nat → ZText} {pg : Nat → ZProg} {le : Nat → ZLearnt} {ln : Nat → ZLine} {tk : Nat → ZTask} {bd : Nat → ZBoard} {vi : Nat → Int32} {va : Nat → Nat → Int32} {vl : Nat → Nat → Int64} {vj : Int64} {la : Option Nat} {me : Nat → Option Nat} (hF : 200000 ≤ F) (hb : bOK tx bd B nb) (hnb : nb ≤ 4) (hS : S < 2 ^ nb) (h0 : S ≠ 0) : ∃ vi' va' me', f_X8_gather F aStock (I (S : Nat)) (mk (tx, pg, le, ln, tk, bd, vi, va, vl, vj, la, me)) = some (mk (tx, pg, le, ln, tk, bd, (vi'), (va'), vl, vj, la, (me'))) ∧ stockOk tx bd vi' va' me' (mad S) (mset B S) ∧ mpos bd (mad S) (mset B S) ∧ frG vi vi' va va' := by
  have hS16 : S < 16 := Nat.lt_of_lt_of_le hS (Nat.pow_le_pow_right (by decide) hnb : 2 ^ nb ≤ 2 ^ 4)
  have hlen : (mset B S).length = (ixs S).length := List.length_map _
  obtain ⟨me', e7, hm⟩ := x_ga7 (F := F) hS16 F 0 tx pg le ln tk bd (up vi 602 (I ((0 : Nat) : Int))) va vl vj la me (Nat.zero_le _) (by omega) (by rw [up_same]; rfl) (fun j hj => absurd hj (Nat.not_lt_zero _))
  have hps : mpos bd (mad S) (mset B S) := by
    intro i hi c hc
    rw [hlen] at hi
    unfold mset mad
    rw [gm_map hi]
    exact (hb _ (ixs_lt hS hi).1).2 c hc
  have hM : mems tx bd (up (up (up (up vi 602 (I ((0 : Nat) : Int))) 602 (I ((ixs S).length : Nat))) 607 (I ((0 : Nat) : Int))) 611 (I ((0 : Nat) : Int))) me' (mad S) (mset B S) := by
    refine ⟨?_, ?_, ?_, mset_ok hb hS, fun i hi => ?_⟩
    · rw [up_ne (by decide), up_ne (by decide), up_same, hlen]
    · rw [hlen]
      exact ixs_pos h0 hS16
    · rw [hlen]
      exact ixs_len S
    · rw [hlen] at hi
      unfold mset
      rw [gm_map hi]
      exact ⟨hm i hi, is_eStock_boards (ixs_lt hS hi).2.1, (hb _ (ixs_lt hS hi).1).1⟩
  obtain ⟨vi', va', e', s', f'⟩ := x_ga63 (F := F) hF F 0 tx pg le ln tk bd (up (up (up (up vi 602 (I ((0 : Nat) : Int))) 602 (I ((ixs S).length : Nat))) 607 (I ((0 : Nat) : Int))) 611 (I ((0 : Nat) : Int))) va vl vj la (me') (Nat.zero_le _) (by omega) hps hM (by rw [up_ne (by decide), up_same]) (by rw [up_same]) (fun j hj => absurd hj (Nat.not_lt_zero _))
  refine ⟨vi', va', me', ?_, s', hps, ⟨fun k a b c => by rw [f'.1 k a b c, up_ne b, up_ne a, up_ne c, up_ne c], f'.2⟩⟩
  simp (disch := first | assumption | omega | exact is_Script_draft | exact is_Script_made | exact is_Learner_made | exact is_Learner_madeFirst | (apply is_eScript_tasks; omega) | (apply is_eScript_lines; omega) | (apply is_eScript_ranBy; omega)) only [↓reduceIte, ↓I_n1, obs, I_0n, l_1, l_2, l_3, l_4, l_5, l_6, l_7, l_8, l_11, l_12, l_15, l_16, l_18, l_20, l_21, l_29, l_30, l_31, l_32, l_33, l_39, l_40, l_44, l_45, l_46, l_47, l_48, l_53, l_57, l_63, l_64, l_65, l_66, l_71, l_72, l_75, l_90, l_97, l_120, l_122, l_127, l_128, l_1812, l_3600, l_4000, l_252645135, l_268435456, l_858993459, l_1431655765, I_add, I_mul, I_sub, I_addN, I_mulN, I_subN, ilt_t, ilt_f, ile_t, ile_f, ieq_t, ieq_f, up_same, up_up, I_and, I_or, I_shlN, I_shrN, I_divN, I_remN, dzI, i2cI, narI, Int.toNat_natCast, true_or, or_true, false_or, or_false, true_and, and_true, false_and, and_false, not_true_eq_false, not_false_eq_true, cStock, gStock_boards, nStock_boards, rStock_boards, gStock_members, nStock_members, rStock_members, wStock_members, gStock_memberCount, pStock_memberCount, gStock_atoms, nStock_atoms, rStock_atoms, wStock_atoms, gStock_weights, nStock_weights, rStock_weights, wStock_weights, gStock_places, nStock_places, rStock_places, wStock_places, gStock_sizes, nStock_sizes, rStock_sizes, wStock_sizes, gStock_atomCount, pStock_atomCount, gStock_shared, nStock_shared, rStock_shared, wStock_shared, gStock_groups, nStock_groups, rStock_groups, wStock_groups, gStock_groupWeights, nStock_groupWeights, rStock_groupWeights, wStock_groupWeights, gStock_groupCount, pStock_groupCount, gStock_newest, nStock_newest, rStock_newest, wStock_newest, gStock_older, nStock_older, rStock_older, wStock_older, b_X8_gather_118, b_X8_gather_92, b_X8_gather_84, b_X8_gather_63, b_X8_gather_7, b_X8_gather_0, f_X8_gather_0, f_X8_gather]
  exact e7.trans e'
end
