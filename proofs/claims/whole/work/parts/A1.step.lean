/-! STEPPING OVER WHAT WAS SHOWN -/
theorem mkA_ne {n : Nat} (hn : n < 3672) {s t : Tx} (hs : s.length ≤ 20) (h : mkA (.inr n) s = some t) : t ≠ [] := by
  have h : (if n < 3600 then mkCut (pp n 1) (pp n 2) (pp n 3) s else mkEach (pp n 1) (pp n 2) (pp n 3) s) = some t := h
  split at h
  · unfold mkCut at h
    split at h
    · cases h
    · next hc =>
      cases h
      intro q
      have := congrArg List.length q
      rw [cutF_len] at this
      simp at this
      omega
  · next hc => exact mkEach_ne ((pp_bd hn).2 (by omega)).2.1 hs h
theorem stpA_oc {n p : Nat} {m : Tx × Tx} (hn : n < 3672) (h1 : m.1.length ≤ 20) (h2 : m.2.length ≤ 20) : stpA (.inr n) m p = if (ocp n m).testBit p = true then some (p + sz n m) else none := by
  unfold stpA ocp sz
  cases h : mkA (.inr n) m.1 with
  | none => simp
  | some t =>
    have hne := List.length_pos_iff.mpr (mkA_ne hn h1 h)
    rw [Option.bind_some]
    dsimp only
    rw [occ_bit]
    by_cases c : p + t.length ≤ m.2.length ∧ (m.2.drop p).take t.length = t
    · rw [if_pos c, if_pos]
      unfold stands
      rw [decide_eq_true c, decide_eq_true (show p < 20 by omega)]
      rfl
    · rw [if_neg c, if_neg]
      unfold stands
      rw [decide_eq_false c, Bool.and_false]
      decide
def psOk (ms : List (Tx × Tx)) (ps : List Nat) : Prop := ps.length = ms.length ∧ ∀ i, i < ms.length → gn ps i ≤ (gm ms i).2.length
/-- the row of the place k: where all are -/
def atR (va : Nat → Nat → Int32) (ms : List (Tx × Tx)) (k : Nat) (ps : List Nat) : Prop := ∀ i, i < ms.length → va 518 (k * 4 + i) = I (gn ps i : Nat)
/-- rows from k + 1 on may be others -/
def frat (va va' : Nat → Nat → Int32) (k : Nat) : Prop := (∀ K, K ≠ 518 → va' K = va K) ∧ ∀ x, x < (k + 1) * 4 → va' 518 x = va 518 x
theorem frat_refl {va : Nat → Nat → Int32} {k : Nat} : frat va va k := ⟨fun _ _ => rfl, fun _ _ => rfl⟩
theorem frat_trans {va va' va'' : Nat → Nat → Int32} {k : Nat} (h : frat va va' k) (h' : frat va' va'' k) : frat va va'' k := ⟨fun K a => (h'.1 K a).trans (h.1 K a), fun x a => (h'.2 x a).trans (h.2 x a)⟩
theorem frat_put {va : Nat → Nat → Int32} {k i : Nat} {x : Int32} : frat va (up va 518 (upd (va 518) ((k + 1) * 4 + i) x)) k := ⟨fun K a => up_ne a, fun z hz => by
  rw [up_same]
  unfold upd
  rw [if_neg (by omega)]⟩
def gnm (m : Nat) (f : Nat → Nat) : List Nat := (List.range m).map f
theorem gn_gnm {m i : Nat} {f : Nat → Nat} (h : i < m) : gn (gnm m f) i = f i := by
  unfold gn gnm
  rw [List.getD_eq_getElem?_getD, List.getElem?_map, List.getElem?_range h]
  rfl
theorem gnm_len {m : Nat} {f : Nat → Nat} : (gnm m f).length = m := by
  unfold gnm
  rw [List.length_map, List.length_range]
theorem stAll_none {a : At} {ms : List (Tx × Tx)} {ps : List Nat} (hl : ps.length = ms.length) {i : Nat} (hi : i < ms.length) (h : stpA a (gm ms i) (gn ps i) = none) : stAll a ms ps = none := by
  cases hs : stAll a ms ps with
  | none => rfl
  | some qs =>
    have := ((stAll_iff hl).mp hs).2 i hi
    rw [h] at this
    cases this
/-- a stock's view for the finder -/
def stv (vi : Nat → Int32) (va : Nat → Nat → Int32) (me : Nat → Option Nat) (tx : Nat → ZText) (bd : Nat → ZBoard) (A : Nat → Nat) (ms : List (Tx × Tx)) : Prop := mems tx bd vi me A ms ∧ stk vi va ms (stN ms 3672)
section
variable {F : Nat}
theorem x_so2 {ms : List (Tx × Tx)} {A : Nat → Nat} {ps : List Nat} {j k : Nat} (hj : j < (stN ms 3672).length) (hk : k < 4) (hp : psOk ms ps) : ∀ (f i : Nat) (tx : Nat → ZText) (pg : Nat → ZProg) (le : Nat → ZLearnt) (ln : Nat → ZLine) (tk : Nat → ZTask) (bd : Nat → ZBoard) (vi : Nat → Int32) (va : Nat → Nat → Int32) (vl : Nat → Nat → Int64) (vj : Int64) (la : Option Nat) (me : Nat → Option Nat), i ≤ ms.length → 6 - i ≤ f → stv vi va me tx bd A ms → atR va ms k ps → (∀ i', i' < i → stpA (.inr (gl (stN ms 3672) j)) (gm ms i') (gn ps i') = some (gn ps i' + sz (gl (stN ms 3672) j) (gm ms i')) ∧ va 518 ((k + 1) * 4 + i') = I ((gn ps i' + sz (gl (stN ms 3672) j) (gm ms i') : Nat) : Int)) → ∃ va' r, f_X2_stepsOver_2 F f aFinder (I (j : Nat)) (I (k : Nat)) (I (i : Nat)) (mk (tx, pg, le, ln, tk, bd, vi, va, vl, vj, la, me)) = some (I ((r : Nat) : Int), mk (tx, pg, le, ln, tk, bd, vi, (va'), vl, vj, la, me)) ∧ frat va va' k ∧ ((∃ qs, stAll (.inr (gl (stN ms 3672) j)) ms ps = some qs ∧ r = 1 ∧ psOk ms qs ∧ atR va' ms (k + 1) qs) ∨ stAll (.inr (gl (stN ms 3672) j)) ms ps = none ∧ r = 0) := by
  intro f
  induction f with
  | zero => intro i tx pg le ln tk bd vi va vl vj la me hi hf hs; have := hs.1.2.2.1; omega
  | succ f ih =>
    intro i tx pg le ln tk bd vi va vl vj la me hi hf hs hat hdone
    obtain ⟨⟨m1, m2, m3, m4, m5⟩, t1, t2, t3, t4⟩ := id hs
    have hn := t3 _ (gl_mem hj)
    rw [s_X2_stepsOver_2]
    by_cases g : i < ms.length
    · obtain ⟨o1, o2, o3, o4⟩ := gm_ok m4 g
      obtain ⟨d1, d2, d3⟩ := t4 j hj
      obtain ⟨r1, r2⟩ := d3 i g
      have hai := hat i g
      have hpi := hp.2 i g
      have hlt := ocp_lt (gl (stN ms 3672) j) (gm ms i)
      have hst := stpA_oc (p := gn ps i) hn o2 o4
      have ht : (ocp (gl (stN ms 3672) j) (gm ms i) >>> gn ps i) &&& 1 = ((ocp (gl (stN ms 3672) j) (gm ms i)).testBit (gn ps i)).toNat := shr_and1 _ _
      cases hb : (ocp (gl (stN ms 3672) j) (gm ms i)).testBit (gn ps i)
      · rw [hb] at ht hst
        have ht : (ocp (gl (stN ms 3672) j) (gm ms i) >>> gn ps i) &&& 1 = 0 := ht
        refine ⟨va, 0, ?_, frat_refl, Or.inr ⟨stAll_none hp.1 g hst, rfl⟩⟩
        simp (disch := first | assumption | omega | exact is_Script_draft | exact is_Script_made | exact is_Learner_made | exact is_Learner_madeFirst | (apply is_eScript_tasks; omega) | (apply is_eScript_lines; omega) | (apply is_eScript_ranBy; omega)) only [↓reduceIte, ↓I_n1, obs, I_0n, l_1, l_2, l_3, l_4, l_5, l_6, l_7, l_8, l_11, l_12, l_15, l_16, l_18, l_20, l_21, l_29, l_30, l_31, l_32, l_33, l_39, l_40, l_44, l_45, l_46, l_47, l_48, l_53, l_57, l_63, l_64, l_65, l_66, l_71, l_72, l_75, l_90, l_97, l_120, l_122, l_127, l_128, l_1812, l_3600, l_4000, l_252645135, l_268435456, l_858993459, l_1431655765, I_add, I_mul, I_sub, I_addN, I_mulN, I_subN, ilt_t, ilt_f, ile_t, ile_f, ieq_t, ieq_f, up_same, up_up, I_and, I_or, I_shlN, I_shrN, I_divN, I_remN, dzI, i2cI, narI, Int.toNat_natCast, true_or, or_true, false_or, or_false, true_and, and_true, false_and, and_false, not_true_eq_false, not_false_eq_true, cFinder, gFinder_found, nFinder_found, rFinder_found, gFinder_foundCount, pFinder_foundCount, gFinder_stock, gFinder_lookedAt, pFinder_lookedAt, gFinder_boardCount, pFinder_boardCount, gFinder_pins, nFinder_pins, rFinder_pins, wFinder_pins, gFinder_pinIndexes, nFinder_pinIndexes, rFinder_pinIndexes, wFinder_pinIndexes, gFinder_isPinned, pFinder_isPinned, gFinder_ways, nFinder_ways, rFinder_ways, wFinder_ways, gFinder_knownKeys, nFinder_knownKeys, rFinder_knownKeys, wFinder_knownKeys, gFinder_knownEndings, nFinder_knownEndings, rFinder_knownEndings, wFinder_knownEndings, gFinder_searches, pFinder_searches, gFinder_at_, nFinder_at_, rFinder_at_, wFinder_at_, gFinder_row, nFinder_row, rFinder_row, wFinder_row, cStock, gStock_boards, nStock_boards, rStock_boards, gStock_members, nStock_members, rStock_members, wStock_members, gStock_memberCount, pStock_memberCount, gStock_atoms, nStock_atoms, rStock_atoms, wStock_atoms, gStock_weights, nStock_weights, rStock_weights, wStock_weights, gStock_places, nStock_places, rStock_places, wStock_places, gStock_sizes, nStock_sizes, rStock_sizes, wStock_sizes, gStock_atomCount, pStock_atomCount, gStock_shared, nStock_shared, rStock_shared, wStock_shared, gStock_groups, nStock_groups, rStock_groups, wStock_groups, gStock_groupWeights, nStock_groupWeights, rStock_groupWeights, wStock_groupWeights, gStock_groupCount, pStock_groupCount, gStock_newest, nStock_newest, rStock_newest, wStock_newest, gStock_older, nStock_older, rStock_older, wStock_older, b_X2_stepsOver_2, m1, hai, r1, ht]
      · rw [hb] at ht hst
        have ht : (ocp (gl (stN ms 3672) j) (gm ms i) >>> gn ps i) &&& 1 = 1 := ht
        have hst : stpA (.inr (gl (stN ms 3672) j)) (gm ms i) (gn ps i) = some (gn ps i + sz (gl (stN ms 3672) j) (gm ms i)) := hst
        obtain ⟨va1, hva1⟩ : ∃ va1, va1 = up va 518 (upd (va 518) ((k + 1) * 4 + i) (I ((gn ps i + sz (gl (stN ms 3672) j) (gm ms i) : Nat) : Int))) := ⟨_, rfl⟩
        have f1 : frat va va1 k := by rw [hva1]; exact frat_put
        have hs1 : stv vi va1 me tx bd A ms := ⟨⟨m1, m2, m3, m4, m5⟩, t1, t2, t3, fun j hj => by
          rw [f1.1 _ (by decide), f1.1 _ (by decide)]
          obtain ⟨e1, e2, e3⟩ := t4 j hj
          exact ⟨e1, e2, rowOk_congr (f1.1 _ (by decide)) (f1.1 _ (by decide)) e3⟩⟩
        obtain ⟨va', r, e', f', hr⟩ := ih (i + 1) tx pg le ln tk bd vi (va1) vl vj la me (by omega) (by omega) hs1 (fun i' hi' => by rw [f1.2 _ (by omega)]; exact hat i' hi') (by
          intro i' hi'
          by_cases q : i' = i
          · subst q
            refine ⟨hst, ?_⟩
            rw [hva1, up_same]
            unfold upd
            rw [if_pos rfl]
          · obtain ⟨e1, e2⟩ := hdone i' (by omega)
            refine ⟨e1, ?_⟩
            rw [hva1, up_same]
            unfold upd
            rw [if_neg (by omega)]
            exact e2)
        refine ⟨va', r, ?_, frat_trans f1 f', hr⟩
        simp (disch := first | assumption | omega | exact is_Script_draft | exact is_Script_made | exact is_Learner_made | exact is_Learner_madeFirst | (apply is_eScript_tasks; omega) | (apply is_eScript_lines; omega) | (apply is_eScript_ranBy; omega)) only [↓reduceIte, ↓I_n1, obs, I_0n, l_1, l_2, l_3, l_4, l_5, l_6, l_7, l_8, l_11, l_12, l_15, l_16, l_18, l_20, l_21, l_29, l_30, l_31, l_32, l_33, l_39, l_40, l_44, l_45, l_46, l_47, l_48, l_53, l_57, l_63, l_64, l_65, l_66, l_71, l_72, l_75, l_90, l_97, l_120, l_122, l_127, l_128, l_1812, l_3600, l_4000, l_252645135, l_268435456, l_858993459, l_1431655765, I_add, I_mul, I_sub, I_addN, I_mulN, I_subN, ilt_t, ilt_f, ile_t, ile_f, ieq_t, ieq_f, up_same, up_up, I_and, I_or, I_shlN, I_shrN, I_divN, I_remN, dzI, i2cI, narI, Int.toNat_natCast, true_or, or_true, false_or, or_false, true_and, and_true, false_and, and_false, not_true_eq_false, not_false_eq_true, cFinder, gFinder_found, nFinder_found, rFinder_found, gFinder_foundCount, pFinder_foundCount, gFinder_stock, gFinder_lookedAt, pFinder_lookedAt, gFinder_boardCount, pFinder_boardCount, gFinder_pins, nFinder_pins, rFinder_pins, wFinder_pins, gFinder_pinIndexes, nFinder_pinIndexes, rFinder_pinIndexes, wFinder_pinIndexes, gFinder_isPinned, pFinder_isPinned, gFinder_ways, nFinder_ways, rFinder_ways, wFinder_ways, gFinder_knownKeys, nFinder_knownKeys, rFinder_knownKeys, wFinder_knownKeys, gFinder_knownEndings, nFinder_knownEndings, rFinder_knownEndings, wFinder_knownEndings, gFinder_searches, pFinder_searches, gFinder_at_, nFinder_at_, rFinder_at_, wFinder_at_, gFinder_row, nFinder_row, rFinder_row, wFinder_row, cStock, gStock_boards, nStock_boards, rStock_boards, gStock_members, nStock_members, rStock_members, wStock_members, gStock_memberCount, pStock_memberCount, gStock_atoms, nStock_atoms, rStock_atoms, wStock_atoms, gStock_weights, nStock_weights, rStock_weights, wStock_weights, gStock_places, nStock_places, rStock_places, wStock_places, gStock_sizes, nStock_sizes, rStock_sizes, wStock_sizes, gStock_atomCount, pStock_atomCount, gStock_shared, nStock_shared, rStock_shared, wStock_shared, gStock_groups, nStock_groups, rStock_groups, wStock_groups, gStock_groupWeights, nStock_groupWeights, rStock_groupWeights, wStock_groupWeights, gStock_groupCount, pStock_groupCount, gStock_newest, nStock_newest, rStock_newest, wStock_newest, gStock_older, nStock_older, rStock_older, wStock_older, b_X2_stepsOver_2, f_X2_stepsOver_48, b_X2_stepsOver_48, m1, hai, r1, r2, ht]
        rw [← hva1]
        exact e'
    · have hall : stAll (.inr (gl (stN ms 3672) j)) ms ps = some (gnm ms.length (fun i => gn ps i + sz (gl (stN ms 3672) j) (gm ms i))) := (stAll_iff hp.1).mpr ⟨gnm_len, fun i' hi' => by
        rw [gn_gnm hi']
        exact (hdone i' (by omega)).1⟩
      refine ⟨va, 1, ?_, frat_refl, Or.inl ⟨_, hall, rfl, ⟨gnm_len, fun i' hi' => ?_⟩, fun i' hi' => ?_⟩⟩
      · simp (disch := first | assumption | omega | exact is_Script_draft | exact is_Script_made | exact is_Learner_made | exact is_Learner_madeFirst | (apply is_eScript_tasks; omega) | (apply is_eScript_lines; omega) | (apply is_eScript_ranBy; omega)) only [↓reduceIte, ↓I_n1, obs, I_0n, l_1, l_2, l_3, l_4, l_5, l_6, l_7, l_8, l_11, l_12, l_15, l_16, l_18, l_20, l_21, l_29, l_30, l_31, l_32, l_33, l_39, l_40, l_44, l_45, l_46, l_47, l_48, l_53, l_57, l_63, l_64, l_65, l_66, l_71, l_72, l_75, l_90, l_97, l_120, l_122, l_127, l_128, l_1812, l_3600, l_4000, l_252645135, l_268435456, l_858993459, l_1431655765, I_add, I_mul, I_sub, I_addN, I_mulN, I_subN, ilt_t, ilt_f, ile_t, ile_f, ieq_t, ieq_f, up_same, up_up, I_and, I_or, I_shlN, I_shrN, I_divN, I_remN, dzI, i2cI, narI, Int.toNat_natCast, true_or, or_true, false_or, or_false, true_and, and_true, false_and, and_false, not_true_eq_false, not_false_eq_true, cFinder, gFinder_found, nFinder_found, rFinder_found, gFinder_foundCount, pFinder_foundCount, gFinder_stock, gFinder_lookedAt, pFinder_lookedAt, gFinder_boardCount, pFinder_boardCount, gFinder_pins, nFinder_pins, rFinder_pins, wFinder_pins, gFinder_pinIndexes, nFinder_pinIndexes, rFinder_pinIndexes, wFinder_pinIndexes, gFinder_isPinned, pFinder_isPinned, gFinder_ways, nFinder_ways, rFinder_ways, wFinder_ways, gFinder_knownKeys, nFinder_knownKeys, rFinder_knownKeys, wFinder_knownKeys, gFinder_knownEndings, nFinder_knownEndings, rFinder_knownEndings, wFinder_knownEndings, gFinder_searches, pFinder_searches, gFinder_at_, nFinder_at_, rFinder_at_, wFinder_at_, gFinder_row, nFinder_row, rFinder_row, wFinder_row, cStock, gStock_boards, nStock_boards, rStock_boards, gStock_members, nStock_members, rStock_members, wStock_members, gStock_memberCount, pStock_memberCount, gStock_atoms, nStock_atoms, rStock_atoms, wStock_atoms, gStock_weights, nStock_weights, rStock_weights, wStock_weights, gStock_places, nStock_places, rStock_places, wStock_places, gStock_sizes, nStock_sizes, rStock_sizes, wStock_sizes, gStock_atomCount, pStock_atomCount, gStock_shared, nStock_shared, rStock_shared, wStock_shared, gStock_groups, nStock_groups, rStock_groups, wStock_groups, gStock_groupWeights, nStock_groupWeights, rStock_groupWeights, wStock_groupWeights, gStock_groupCount, pStock_groupCount, gStock_newest, nStock_newest, rStock_newest, wStock_newest, gStock_older, nStock_older, rStock_older, wStock_older, b_X2_stepsOver_2, m1]
      · rw [gn_gnm hi']
        exact stpA_lt (hdone i' (by omega)).1
      · rw [gn_gnm hi']
        exact (hdone i' (by omega)).2
theorem x_stepsOver {ms : List (Tx × Tx)} {A : Nat → Nat} {ps : List Nat} {j k : Nat} {tx : Nat → ZText} {pg : Nat → ZProg} {le : Nat → ZLearnt} {ln : Nat → ZLine} {tk : Nat → ZTask} {bd : Nat → ZBoard} {vi : Nat → Int32} {va : Nat → Nat → Int32} {vl : Nat → Nat → Int64} {vj : Int64} {la : Option Nat} {me : Nat → Option Nat} (hF : 200000 ≤ F) (hj : j < (stN ms 3672).length) (hk : k < 4) (hp : psOk ms ps) (hs : stv vi va me tx bd A ms) (hat : atR va ms k ps) : ∃ va' r, f_X2_stepsOver F aFinder (I (j : Nat)) (I (k : Nat)) (mk (tx, pg, le, ln, tk, bd, vi, va, vl, vj, la, me)) = some (I ((r : Nat) : Int), mk (tx, pg, le, ln, tk, bd, vi, (va'), vl, vj, la, me)) ∧ frat va va' k ∧ ((∃ qs, stAll (.inr (gl (stN ms 3672) j)) ms ps = some qs ∧ r = 1 ∧ psOk ms qs ∧ atR va' ms (k + 1) qs) ∨ stAll (.inr (gl (stN ms 3672) j)) ms ps = none ∧ r = 0) := by
  obtain ⟨va', r, e, f', hr⟩ := x_so2 (F := F) (A := A) hj hk hp F 0 tx pg le ln tk bd vi va vl vj la me (Nat.zero_le _) (by omega) hs hat (fun i' hi' => absurd hi' (Nat.not_lt_zero _))
  refine ⟨va', r, ?_, f', hr⟩
  simp (disch := first | assumption | omega | exact is_Script_draft | exact is_Script_made | exact is_Learner_made | exact is_Learner_madeFirst | (apply is_eScript_tasks; omega) | (apply is_eScript_lines; omega) | (apply is_eScript_ranBy; omega)) only [↓reduceIte, ↓I_n1, obs, I_0n, l_1, l_2, l_3, l_4, l_5, l_6, l_7, l_8, l_11, l_12, l_15, l_16, l_18, l_20, l_21, l_29, l_30, l_31, l_32, l_33, l_39, l_40, l_44, l_45, l_46, l_47, l_48, l_53, l_57, l_63, l_64, l_65, l_66, l_71, l_72, l_75, l_90, l_97, l_120, l_122, l_127, l_128, l_1812, l_3600, l_4000, l_252645135, l_268435456, l_858993459, l_1431655765, I_add, I_mul, I_sub, I_addN, I_mulN, I_subN, ilt_t, ilt_f, ile_t, ile_f, ieq_t, ieq_f, up_same, up_up, I_and, I_or, I_shlN, I_shrN, I_divN, I_remN, dzI, i2cI, narI, Int.toNat_natCast, true_or, or_true, false_or, or_false, true_and, and_true, false_and, and_false, not_true_eq_false, not_false_eq_true, cFinder, gFinder_found, nFinder_found, rFinder_found, gFinder_foundCount, pFinder_foundCount, gFinder_stock, gFinder_lookedAt, pFinder_lookedAt, gFinder_boardCount, pFinder_boardCount, gFinder_pins, nFinder_pins, rFinder_pins, wFinder_pins, gFinder_pinIndexes, nFinder_pinIndexes, rFinder_pinIndexes, wFinder_pinIndexes, gFinder_isPinned, pFinder_isPinned, gFinder_ways, nFinder_ways, rFinder_ways, wFinder_ways, gFinder_knownKeys, nFinder_knownKeys, rFinder_knownKeys, wFinder_knownKeys, gFinder_knownEndings, nFinder_knownEndings, rFinder_knownEndings, wFinder_knownEndings, gFinder_searches, pFinder_searches, gFinder_at_, nFinder_at_, rFinder_at_, wFinder_at_, gFinder_row, nFinder_row, rFinder_row, wFinder_row, b_X2_stepsOver_48, f_X2_stepsOver_48, b_X2_stepsOver_2, b_X2_stepsOver_0, f_X2_stepsOver_0, f_X2_stepsOver]
  exact e
end
/-- the next n signs are the same everywhere -/
def cpre (ms : List (Tx × Tx)) (ps : List Nat) (n : Nat) : Prop := ∀ i, i < ms.length → gn ps i + n ≤ (gm ms i).2.length ∧ ((gm ms i).2.drop (gn ps i)).take n = ((gm ms 0).2.drop (gn ps 0)).take n
def cl0 (ms : List (Tx × Tx)) (ps : List Nat) (n : Nat) : Tx := ((gm ms 0).2.drop (gn ps 0)).take n
def psadd (ms : List (Tx × Tx)) (ps : List Nat) (n : Nat) : List Nat := gnm ms.length (fun i => gn ps i + n)
theorem cpre_succ {ms : List (Tx × Tx)} {ps : List Nat} {n : Nat} (hm : 1 ≤ ms.length) : cpre ms ps (n + 1) ↔ cpre ms ps n ∧ ∀ i, i < ms.length → gn ps i + n < (gm ms i).2.length ∧ fa (gm ms i).2 (gn ps i + n) = fa (gm ms 0).2 (gn ps 0 + n) := by
  have tk : ∀ i, gn ps i + n < (gm ms i).2.length → ((gm ms i).2.drop (gn ps i)).take (n + 1) = ((gm ms i).2.drop (gn ps i)).take n ++ [fa (gm ms i).2 (gn ps i + n)] := fun i h => by
    rw [← take_fa (by rw [List.length_drop]; omega), fa_drop]
  have ln : ∀ i, gn ps i + n ≤ (gm ms i).2.length → (((gm ms i).2.drop (gn ps i)).take n).length = n := fun i h => by
    rw [List.length_take, List.length_drop]
    omega
  constructor
  · intro h
    have h0 := (h 0 (by omega)).1
    refine ⟨fun i hi => ?_, fun i hi => ?_⟩
    · obtain ⟨a, b⟩ := h i hi
      refine ⟨by omega, ?_⟩
      rw [tk i (by omega), tk 0 (by omega)] at b
      exact (List.append_inj b (by rw [ln i (by omega), ln 0 (by omega)])).1
    · obtain ⟨a, b⟩ := h i hi
      refine ⟨by omega, ?_⟩
      rw [tk i (by omega), tk 0 (by omega)] at b
      have := (List.append_inj b (by rw [ln i (by omega), ln 0 (by omega)])).2
      simpa using this
  · rintro ⟨h1, h2⟩ i hi
    obtain ⟨a, b⟩ := h1 i hi
    obtain ⟨c, d⟩ := h2 i hi
    have c0 := (h2 0 (by omega)).1
    refine ⟨by omega, ?_⟩
    rw [tk i c, tk 0 c0, b, d]
theorem cpre_st {ms : List (Tx × Tx)} {ps : List Nat} {n : Nat} (hp : psOk ms ps) (h0 : gn ps 0 + n ≤ (gm ms 0).2.length) : (cpre ms ps n → stAll (.inl (cl0 ms ps n)) ms ps = some (psadd ms ps n)) ∧ (¬ cpre ms ps n → stAll (.inl (cl0 ms ps n)) ms ps = none) := by
  have hl : (cl0 ms ps n).length = n := by
    unfold cl0
    rw [List.length_take, List.length_drop]
    omega
  have hst : ∀ i, stpA (.inl (cl0 ms ps n)) (gm ms i) (gn ps i) = if gn ps i + n ≤ (gm ms i).2.length ∧ ((gm ms i).2.drop (gn ps i)).take n = cl0 ms ps n then some (gn ps i + n) else none := fun i => by
    unfold stpA
    show (some (cl0 ms ps n)).bind _ = _
    rw [Option.bind_some, hl]
  constructor
  · intro h
    refine (stAll_iff hp.1).mpr ⟨gnm_len, fun i hi => ?_⟩
    rw [hst, if_pos (show _ ∧ _ = cl0 ms ps n from h i hi)]
    unfold psadd
    rw [gn_gnm hi]
  · intro h
    cases hs : stAll (.inl (cl0 ms ps n)) ms ps with
    | none => rfl
    | some qs =>
      exfalso
      apply h
      intro i hi
      have := ((stAll_iff hp.1).mp hs).2 i hi
      rw [hst] at this
      split at this
      · next c => exact c
      · cases this
section
variable {F : Nat}
theorem x_ss31 {ms : List (Tx × Tx)} {A : Nat → Nat} {ps : List Nat} {k n : Nat} {sg : Int} (hk : k < 4) (hn : n < 4) (hp : psOk ms ps) (hsg : sg = if gn ps 0 + n < (gm ms 0).2.length then fa (gm ms 0).2 (gn ps 0 + n) else 0) (hsb : 0 ≤ sg ∧ sg < 128) : ∀ (f i : Nat) (tx : Nat → ZText) (pg : Nat → ZProg) (le : Nat → ZLearnt) (ln : Nat → ZLine) (tk : Nat → ZTask) (bd : Nat → ZBoard) (vi : Nat → Int32) (va : Nat → Nat → Int32) (vl : Nat → Nat → Int64) (vj : Int64) (la : Option Nat) (me : Nat → Option Nat), i ≤ ms.length → 6 - i ≤ f → mems tx bd vi me A ms → atR va ms k ps → (∀ i', i' < i → (if gn ps i' + n < (gm ms i').2.length then fa (gm ms i').2 (gn ps i' + n) else 0) = sg ∧ va 518 ((k + 1) * 4 + i') = I ((gn ps i' + (n + 1) : Nat) : Int)) → ∃ va' r, f_X2_stepOverSign_31 F f aFinder (I (k : Nat)) (I ((n + 1 : Nat) : Int)) (I sg) (I (i : Nat)) (mk (tx, pg, le, ln, tk, bd, vi, va, vl, vj, la, me)) = some (I r, mk (tx, pg, le, ln, tk, bd, vi, (va'), vl, vj, la, me)) ∧ frat va va' k ∧ (r = sg ∧ (∀ i', i' < ms.length → (if gn ps i' + n < (gm ms i').2.length then fa (gm ms i').2 (gn ps i' + n) else 0) = sg ∧ va' 518 ((k + 1) * 4 + i') = I ((gn ps i' + (n + 1) : Nat) : Int)) ∨ r = 0 ∧ ∃ i', i' < ms.length ∧ (if gn ps i' + n < (gm ms i').2.length then fa (gm ms i').2 (gn ps i' + n) else 0) ≠ sg) := by
  intro f
  induction f with
  | zero => intro i tx pg le ln tk bd vi va vl vj la me hi hf hM; have := hM.2.2.1; omega
  | succ f ih =>
    intro i tx pg le ln tk bd vi va vl vj la me hi hf hM hat hdone
    obtain ⟨m1, m2, m3, m4, m5⟩ := id hM
    rw [s_X2_stepOverSign_31]
    by_cases g : i < ms.length
    · obtain ⟨o1, o2, o3, o4⟩ := gm_ok m4 g
      obtain ⟨b1, b2, b3⟩ := m5 i g
      have hS := is_Board_shown b2
      have hai := hat i g
      have hpi := hp.2 i g
      have hfb := fa_bd o3 (gn ps i + n)
      have hx : f_X10_at F (aBoard_shown (A i)) (I ((gn ps i + n : Nat) : Int)) (mk (tx, pg, le, ln, tk, bd, vi, va, vl, vj, la, me)) = some (I (if gn ps i + n < (gm ms i).2.length then fa (gm ms i).2 (gn ps i + n) else 0), mk (tx, pg, le, ln, tk, bd, vi, va, vl, vj, la, me)) := by
        rw [x_at hS b3.2.1 (by omega) (by omega)]
        by_cases c : gn ps i + n < (gm ms i).2.length
        · rw [if_pos c, if_pos (by omega)]
          rfl
        · rw [if_neg c, if_neg (by omega)]
      have hsub : gn ps i + (n + 1) - 1 = gn ps i + n := by omega
      obtain ⟨x, hxx⟩ : ∃ x : Int, x = (if gn ps i + n < (gm ms i).2.length then fa (gm ms i).2 (gn ps i + n) else 0) := ⟨_, rfl⟩
      have hxb : 0 ≤ x ∧ x < 128 := by
        rw [hxx]
        split
        · exact hfb
        · omega
      rw [← hxx] at hx
      by_cases c : x = sg
      · obtain ⟨va1, hva1⟩ : ∃ va1, va1 = up va 518 (upd (va 518) ((k + 1) * 4 + i) (I ((gn ps i + (n + 1) : Nat) : Int))) := ⟨_, rfl⟩
        have f1 : frat va va1 k := by rw [hva1]; exact frat_put
        obtain ⟨va', r, e', f', hr⟩ := ih (i + 1) tx pg le ln tk bd vi (va1) vl vj la me (by omega) (by omega) hM (fun i' hi' => by rw [f1.2 _ (by omega)]; exact hat i' hi') (by
          intro i' hi'
          by_cases q : i' = i
          · subst q
            refine ⟨hxx.symm.trans c, ?_⟩
            rw [hva1, up_same]
            unfold upd
            rw [if_pos rfl]
          · obtain ⟨e1, e2⟩ := hdone i' (by omega)
            refine ⟨e1, ?_⟩
            rw [hva1, up_same]
            unfold upd
            rw [if_neg (by omega)]
            exact e2)
        refine ⟨va', r, ?_, frat_trans f1 f', hr⟩
        simp (disch := first | assumption | omega | exact is_Script_draft | exact is_Script_made | exact is_Learner_made | exact is_Learner_madeFirst | (apply is_eScript_tasks; omega) | (apply is_eScript_lines; omega) | (apply is_eScript_ranBy; omega)) only [↓reduceIte, ↓I_n1, obs, I_0n, l_1, l_2, l_3, l_4, l_5, l_6, l_7, l_8, l_11, l_12, l_15, l_16, l_18, l_20, l_21, l_29, l_30, l_31, l_32, l_33, l_39, l_40, l_44, l_45, l_46, l_47, l_48, l_53, l_57, l_63, l_64, l_65, l_66, l_71, l_72, l_75, l_90, l_97, l_120, l_122, l_127, l_128, l_1812, l_3600, l_4000, l_252645135, l_268435456, l_858993459, l_1431655765, I_add, I_mul, I_sub, I_addN, I_mulN, I_subN, ilt_t, ilt_f, ile_t, ile_f, ieq_t, ieq_f, up_same, up_up, I_and, I_or, I_shlN, I_shrN, I_divN, I_remN, dzI, i2cI, narI, Int.toNat_natCast, true_or, or_true, false_or, or_false, true_and, and_true, false_and, and_false, not_true_eq_false, not_false_eq_true, cFinder, gFinder_found, nFinder_found, rFinder_found, gFinder_foundCount, pFinder_foundCount, gFinder_stock, gFinder_lookedAt, pFinder_lookedAt, gFinder_boardCount, pFinder_boardCount, gFinder_pins, nFinder_pins, rFinder_pins, wFinder_pins, gFinder_pinIndexes, nFinder_pinIndexes, rFinder_pinIndexes, wFinder_pinIndexes, gFinder_isPinned, pFinder_isPinned, gFinder_ways, nFinder_ways, rFinder_ways, wFinder_ways, gFinder_knownKeys, nFinder_knownKeys, rFinder_knownKeys, wFinder_knownKeys, gFinder_knownEndings, nFinder_knownEndings, rFinder_knownEndings, wFinder_knownEndings, gFinder_searches, pFinder_searches, gFinder_at_, nFinder_at_, rFinder_at_, wFinder_at_, gFinder_row, nFinder_row, rFinder_row, wFinder_row, cStock, gStock_boards, nStock_boards, rStock_boards, gStock_members, nStock_members, rStock_members, wStock_members, gStock_memberCount, pStock_memberCount, gStock_atoms, nStock_atoms, rStock_atoms, wStock_atoms, gStock_weights, nStock_weights, rStock_weights, wStock_weights, gStock_places, nStock_places, rStock_places, wStock_places, gStock_sizes, nStock_sizes, rStock_sizes, wStock_sizes, gStock_atomCount, pStock_atomCount, gStock_shared, nStock_shared, rStock_shared, wStock_shared, gStock_groups, nStock_groups, rStock_groups, wStock_groups, gStock_groupWeights, nStock_groupWeights, rStock_groupWeights, wStock_groupWeights, gStock_groupCount, pStock_groupCount, gStock_newest, nStock_newest, rStock_newest, wStock_newest, gStock_older, nStock_older, rStock_older, wStock_older, cBoard, gBoard_was, gBoard_shown, gBoard_spots, nBoard_spots, rBoard_spots, wBoard_spots, gBoard_placesOfSign, nBoard_placesOfSign, rBoard_placesOfSign, wBoard_placesOfSign, gBoard_cutPlaces, nBoard_cutPlaces, rBoard_cutPlaces, wBoard_cutPlaces, gBoard_eachPlaces, nBoard_eachPlaces, rBoard_eachPlaces, wBoard_eachPlaces, gBoard_eachSizes, nBoard_eachSizes, rBoard_eachSizes, wBoard_eachSizes, gBoard_made, b_X2_stepOverSign_31, f_X2_stepOverSign_56, b_X2_stepOverSign_56, m1, hai, b1, hsub, hx]
        rw [← hva1]
        exact e'
      · refine ⟨va, 0, ?_, frat_refl, Or.inr ⟨rfl, i, g, fun q => c (hxx.trans q)⟩⟩
        simp (disch := first | assumption | omega | exact is_Script_draft | exact is_Script_made | exact is_Learner_made | exact is_Learner_madeFirst | (apply is_eScript_tasks; omega) | (apply is_eScript_lines; omega) | (apply is_eScript_ranBy; omega)) only [↓reduceIte, ↓I_n1, obs, I_0n, l_1, l_2, l_3, l_4, l_5, l_6, l_7, l_8, l_11, l_12, l_15, l_16, l_18, l_20, l_21, l_29, l_30, l_31, l_32, l_33, l_39, l_40, l_44, l_45, l_46, l_47, l_48, l_53, l_57, l_63, l_64, l_65, l_66, l_71, l_72, l_75, l_90, l_97, l_120, l_122, l_127, l_128, l_1812, l_3600, l_4000, l_252645135, l_268435456, l_858993459, l_1431655765, I_add, I_mul, I_sub, I_addN, I_mulN, I_subN, ilt_t, ilt_f, ile_t, ile_f, ieq_t, ieq_f, up_same, up_up, I_and, I_or, I_shlN, I_shrN, I_divN, I_remN, dzI, i2cI, narI, Int.toNat_natCast, true_or, or_true, false_or, or_false, true_and, and_true, false_and, and_false, not_true_eq_false, not_false_eq_true, cFinder, gFinder_found, nFinder_found, rFinder_found, gFinder_foundCount, pFinder_foundCount, gFinder_stock, gFinder_lookedAt, pFinder_lookedAt, gFinder_boardCount, pFinder_boardCount, gFinder_pins, nFinder_pins, rFinder_pins, wFinder_pins, gFinder_pinIndexes, nFinder_pinIndexes, rFinder_pinIndexes, wFinder_pinIndexes, gFinder_isPinned, pFinder_isPinned, gFinder_ways, nFinder_ways, rFinder_ways, wFinder_ways, gFinder_knownKeys, nFinder_knownKeys, rFinder_knownKeys, wFinder_knownKeys, gFinder_knownEndings, nFinder_knownEndings, rFinder_knownEndings, wFinder_knownEndings, gFinder_searches, pFinder_searches, gFinder_at_, nFinder_at_, rFinder_at_, wFinder_at_, gFinder_row, nFinder_row, rFinder_row, wFinder_row, cStock, gStock_boards, nStock_boards, rStock_boards, gStock_members, nStock_members, rStock_members, wStock_members, gStock_memberCount, pStock_memberCount, gStock_atoms, nStock_atoms, rStock_atoms, wStock_atoms, gStock_weights, nStock_weights, rStock_weights, wStock_weights, gStock_places, nStock_places, rStock_places, wStock_places, gStock_sizes, nStock_sizes, rStock_sizes, wStock_sizes, gStock_atomCount, pStock_atomCount, gStock_shared, nStock_shared, rStock_shared, wStock_shared, gStock_groups, nStock_groups, rStock_groups, wStock_groups, gStock_groupWeights, nStock_groupWeights, rStock_groupWeights, wStock_groupWeights, gStock_groupCount, pStock_groupCount, gStock_newest, nStock_newest, rStock_newest, wStock_newest, gStock_older, nStock_older, rStock_older, wStock_older, cBoard, gBoard_was, gBoard_shown, gBoard_spots, nBoard_spots, rBoard_spots, wBoard_spots, gBoard_placesOfSign, nBoard_placesOfSign, rBoard_placesOfSign, wBoard_placesOfSign, gBoard_cutPlaces, nBoard_cutPlaces, rBoard_cutPlaces, wBoard_cutPlaces, gBoard_eachPlaces, nBoard_eachPlaces, rBoard_eachPlaces, wBoard_eachPlaces, gBoard_eachSizes, nBoard_eachSizes, rBoard_eachSizes, wBoard_eachSizes, gBoard_made, b_X2_stepOverSign_31, f_X2_stepOverSign_56, b_X2_stepOverSign_56, m1, hai, b1, hsub, hx]
        rfl
    · refine ⟨va, sg, ?_, frat_refl, Or.inl ⟨rfl, fun i' hi' => hdone i' (by omega)⟩⟩
      simp (disch := first | assumption | omega | exact is_Script_draft | exact is_Script_made | exact is_Learner_made | exact is_Learner_madeFirst | (apply is_eScript_tasks; omega) | (apply is_eScript_lines; omega) | (apply is_eScript_ranBy; omega)) only [↓reduceIte, ↓I_n1, obs, I_0n, l_1, l_2, l_3, l_4, l_5, l_6, l_7, l_8, l_11, l_12, l_15, l_16, l_18, l_20, l_21, l_29, l_30, l_31, l_32, l_33, l_39, l_40, l_44, l_45, l_46, l_47, l_48, l_53, l_57, l_63, l_64, l_65, l_66, l_71, l_72, l_75, l_90, l_97, l_120, l_122, l_127, l_128, l_1812, l_3600, l_4000, l_252645135, l_268435456, l_858993459, l_1431655765, I_add, I_mul, I_sub, I_addN, I_mulN, I_subN, ilt_t, ilt_f, ile_t, ile_f, ieq_t, ieq_f, up_same, up_up, I_and, I_or, I_shlN, I_shrN, I_divN, I_remN, dzI, i2cI, narI, Int.toNat_natCast, true_or, or_true, false_or, or_false, true_and, and_true, false_and, and_false, not_true_eq_false, not_false_eq_true, cFinder, gFinder_found, nFinder_found, rFinder_found, gFinder_foundCount, pFinder_foundCount, gFinder_stock, gFinder_lookedAt, pFinder_lookedAt, gFinder_boardCount, pFinder_boardCount, gFinder_pins, nFinder_pins, rFinder_pins, wFinder_pins, gFinder_pinIndexes, nFinder_pinIndexes, rFinder_pinIndexes, wFinder_pinIndexes, gFinder_isPinned, pFinder_isPinned, gFinder_ways, nFinder_ways, rFinder_ways, wFinder_ways, gFinder_knownKeys, nFinder_knownKeys, rFinder_knownKeys, wFinder_knownKeys, gFinder_knownEndings, nFinder_knownEndings, rFinder_knownEndings, wFinder_knownEndings, gFinder_searches, pFinder_searches, gFinder_at_, nFinder_at_, rFinder_at_, wFinder_at_, gFinder_row, nFinder_row, rFinder_row, wFinder_row, cStock, gStock_boards, nStock_boards, rStock_boards, gStock_members, nStock_members, rStock_members, wStock_members, gStock_memberCount, pStock_memberCount, gStock_atoms, nStock_atoms, rStock_atoms, wStock_atoms, gStock_weights, nStock_weights, rStock_weights, wStock_weights, gStock_places, nStock_places, rStock_places, wStock_places, gStock_sizes, nStock_sizes, rStock_sizes, wStock_sizes, gStock_atomCount, pStock_atomCount, gStock_shared, nStock_shared, rStock_shared, wStock_shared, gStock_groups, nStock_groups, rStock_groups, wStock_groups, gStock_groupWeights, nStock_groupWeights, rStock_groupWeights, wStock_groupWeights, gStock_groupCount, pStock_groupCount, gStock_newest, nStock_newest, rStock_newest, wStock_newest, gStock_older, nStock_older, rStock_older, wStock_older, b_X2_stepOverSign_31, m1]
theorem x_stepOverSign {ms : List (Tx × Tx)} {A : Nat → Nat} {ps : List Nat} {k n : Nat} {tx : Nat → ZText} {pg : Nat → ZProg} {le : Nat → ZLearnt} {ln : Nat → ZLine} {tk : Nat → ZTask} {bd : Nat → ZBoard} {vi : Nat → Int32} {va : Nat → Nat → Int32} {vl : Nat → Nat → Int64} {vj : Int64} {la : Option Nat} {me : Nat → Option Nat} (hF : 200000 ≤ F) (hk : k < 4) (hn : n < 4) (hp : psOk ms ps) (hM : mems tx bd vi me A ms) (hat : atR va ms k ps) (hc : cpre ms ps n) : ∃ va' r, f_X2_stepOverSign F aFinder (I (k : Nat)) (I ((n + 1 : Nat) : Int)) (mk (tx, pg, le, ln, tk, bd, vi, va, vl, vj, la, me)) = some (I r, mk (tx, pg, le, ln, tk, bd, vi, (va'), vl, vj, la, me)) ∧ frat va va' k ∧ (cpre ms ps (n + 1) ∧ r = fa (gm ms 0).2 (gn ps 0 + n) ∧ okS r ∧ psOk ms (psadd ms ps (n + 1)) ∧ atR va' ms (k + 1) (psadd ms ps (n + 1)) ∨ ¬ cpre ms ps (n + 1) ∧ r = 0) := by
  obtain ⟨m1, m2, m3, m4, m5⟩ := id hM
  obtain ⟨o1, o2, o3, o4⟩ := gm_ok m4 (show 0 < ms.length by omega)
  obtain ⟨b1, b2, b3⟩ := m5 0 (by omega)
  have hS := is_Board_shown b2
  have hai := hat 0 (by omega)
  rw [Nat.add_zero] at hai
  have hpi := hp.2 0 (by omega)
  have hfb := fa_bd o3 (gn ps 0 + n)
  obtain ⟨sg, hsg⟩ : ∃ sg : Int, sg = if gn ps 0 + n < (gm ms 0).2.length then fa (gm ms 0).2 (gn ps 0 + n) else 0 := ⟨_, rfl⟩
  have hsb : 0 ≤ sg ∧ sg < 128 := by
    rw [hsg]
    split
    · exact hfb
    · omega
  have hx : f_X10_at F (aBoard_shown (A 0)) (I ((gn ps 0 + n : Nat) : Int)) (mk (tx, pg, le, ln, tk, bd, vi, va, vl, vj, la, me)) = some (I sg, mk (tx, pg, le, ln, tk, bd, vi, va, vl, vj, la, me)) := by
    rw [x_at hS b3.2.1 (by omega) (by omega), hsg]
    by_cases c : gn ps 0 + n < (gm ms 0).2.length
    · rw [if_pos c, if_pos (by omega)]
      rfl
    · rw [if_neg c, if_neg (by omega)]
  have hsub : gn ps 0 + (n + 1) - 1 = gn ps 0 + n := by omega
  obtain ⟨va', r, e, f', hr⟩ := x_ss31 (F := F) hk hn hp hsg hsb F 0 tx pg le ln tk bd vi va vl vj la me (Nat.zero_le _) (by omega) hM hat (fun i' hi' => absurd hi' (Nat.not_lt_zero _))
  refine ⟨va', r, ?_, f', ?_⟩
  · simp (disch := first | assumption | omega | exact is_Script_draft | exact is_Script_made | exact is_Learner_made | exact is_Learner_madeFirst | (apply is_eScript_tasks; omega) | (apply is_eScript_lines; omega) | (apply is_eScript_ranBy; omega)) only [↓reduceIte, ↓I_n1, obs, I_0n, l_1, l_2, l_3, l_4, l_5, l_6, l_7, l_8, l_11, l_12, l_15, l_16, l_18, l_20, l_21, l_29, l_30, l_31, l_32, l_33, l_39, l_40, l_44, l_45, l_46, l_47, l_48, l_53, l_57, l_63, l_64, l_65, l_66, l_71, l_72, l_75, l_90, l_97, l_120, l_122, l_127, l_128, l_1812, l_3600, l_4000, l_252645135, l_268435456, l_858993459, l_1431655765, I_add, I_mul, I_sub, I_addN, I_mulN, I_subN, ilt_t, ilt_f, ile_t, ile_f, ieq_t, ieq_f, up_same, up_up, I_and, I_or, I_shlN, I_shrN, I_divN, I_remN, dzI, i2cI, narI, Int.toNat_natCast, true_or, or_true, false_or, or_false, true_and, and_true, false_and, and_false, not_true_eq_false, not_false_eq_true, cFinder, gFinder_found, nFinder_found, rFinder_found, gFinder_foundCount, pFinder_foundCount, gFinder_stock, gFinder_lookedAt, pFinder_lookedAt, gFinder_boardCount, pFinder_boardCount, gFinder_pins, nFinder_pins, rFinder_pins, wFinder_pins, gFinder_pinIndexes, nFinder_pinIndexes, rFinder_pinIndexes, wFinder_pinIndexes, gFinder_isPinned, pFinder_isPinned, gFinder_ways, nFinder_ways, rFinder_ways, wFinder_ways, gFinder_knownKeys, nFinder_knownKeys, rFinder_knownKeys, wFinder_knownKeys, gFinder_knownEndings, nFinder_knownEndings, rFinder_knownEndings, wFinder_knownEndings, gFinder_searches, pFinder_searches, gFinder_at_, nFinder_at_, rFinder_at_, wFinder_at_, gFinder_row, nFinder_row, rFinder_row, wFinder_row, cStock, gStock_boards, nStock_boards, rStock_boards, gStock_members, nStock_members, rStock_members, wStock_members, gStock_memberCount, pStock_memberCount, gStock_atoms, nStock_atoms, rStock_atoms, wStock_atoms, gStock_weights, nStock_weights, rStock_weights, wStock_weights, gStock_places, nStock_places, rStock_places, wStock_places, gStock_sizes, nStock_sizes, rStock_sizes, wStock_sizes, gStock_atomCount, pStock_atomCount, gStock_shared, nStock_shared, rStock_shared, wStock_shared, gStock_groups, nStock_groups, rStock_groups, wStock_groups, gStock_groupWeights, nStock_groupWeights, rStock_groupWeights, wStock_groupWeights, gStock_groupCount, pStock_groupCount, gStock_newest, nStock_newest, rStock_newest, wStock_newest, gStock_older, nStock_older, rStock_older, wStock_older, cBoard, gBoard_was, gBoard_shown, gBoard_spots, nBoard_spots, rBoard_spots, wBoard_spots, gBoard_placesOfSign, nBoard_placesOfSign, rBoard_placesOfSign, wBoard_placesOfSign, gBoard_cutPlaces, nBoard_cutPlaces, rBoard_cutPlaces, wBoard_cutPlaces, gBoard_eachPlaces, nBoard_eachPlaces, rBoard_eachPlaces, wBoard_eachPlaces, gBoard_eachSizes, nBoard_eachSizes, rBoard_eachSizes, wBoard_eachSizes, gBoard_made, b_X2_stepOverSign_56, f_X2_stepOverSign_56, b_X2_stepOverSign_31, b_X2_stepOverSign_0, f_X2_stepOverSign_0, f_X2_stepOverSign, hai, b1, hsub, hx]
    exact e
  · rcases hr with ⟨rfl, hall⟩ | ⟨rfl, i', hi', hne⟩
    · by_cases c : gn ps 0 + n < (gm ms 0).2.length
      · rw [if_pos c] at hsg
        have hok := okT_fa o3 c
        have hpre : cpre ms ps (n + 1) := by
          refine (cpre_succ m2).mpr ⟨hc, fun i hi => ?_⟩
          have h := (hall i hi).1
          by_cases c2 : gn ps i + n < (gm ms i).2.length
          · rw [if_pos c2] at h
            exact ⟨c2, by rw [h, hsg]⟩
          · rw [if_neg c2] at h
            have := okS_bd hok
            rw [hsg] at h
            omega
        refine Or.inl ⟨hpre, hsg, by rw [hsg]; exact hok, ⟨gnm_len, fun i hi => ?_⟩, fun i hi => ?_⟩
        · unfold psadd
          rw [gn_gnm hi]
          exact (hpre i hi).1
        · unfold psadd
          rw [gn_gnm hi]
          exact (hall i hi).2
      · rw [if_neg c] at hsg
        refine Or.inr ⟨fun q => c ?_, hsg⟩
        have := (q 0 (by omega)).1
        omega
    · refine Or.inr ⟨fun q => hne ?_, rfl⟩
      obtain ⟨q1, q2⟩ := (cpre_succ m2).mp q
      obtain ⟨a, b⟩ := q2 i' hi'
      rw [if_pos a, b, hsg, if_pos (q2 0 (by omega)).1]
end
